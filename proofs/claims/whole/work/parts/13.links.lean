theorem mw_451 : Jvm.Cond.code ({ cls := "ServerLine", name := "isWithin", desc := "(III)Z" } : Jvm.MethodName) prog_1_method_28_code (3 : Nat) (Option.some Jvm.ClassFile.FieldType.boolean) ∈ mm_G := mm_in (mt_2 (List.mem_of_getElem? (l := tables_1_2) (i := 156) (by decide +kernel))) rfl
theorem mw_56 : Jvm.Cond.initialized "ServerLine" ∈ mm_G := mm_in (mt_1 (List.mem_of_getElem? (l := tables_1_1) (i := 1) (by decide +kernel))) rfl
theorem wb_X11_isWithin : mm_CB yX11_isWithin cX11_isWithin 3 (some .boolean) 3 := ⟨mw_451, mw_56, ⟨by decide, by decide⟩, by decide +kernel, by decide⟩
theorem mw_449 : Jvm.Cond.methodLink "ServerLine" (85 : Nat) ({ cls := "ServerLine", name := "isWithin", desc := "(III)Z" } : Jvm.MethodName) ∈ mm_G := mm_in (mt_2 (List.mem_of_getElem? (l := tables_1_2) (i := 154) (by decide +kernel))) rfl
theorem mw_450 : Jvm.Cond.static ({ cls := "ServerLine", name := "isWithin", desc := "(III)Z" } : Jvm.MethodName) ∈ mm_G := mm_in (mt_2 (List.mem_of_getElem? (l := tables_1_2) (i := 155) (by decide +kernel))) rfl
theorem ws_X11_85 : mm_SW RX11 85 yX11_isWithin := ⟨mw_449, mw_450⟩
theorem mw_417 : Jvm.Cond.fieldLink "ServerLine" (10 : Nat) "ServerLine" "line" "LServerLine$Line;" ∈ mm_G := mm_in (mt_2 (List.mem_of_getElem? (l := tables_1_2) (i := 122) (by decide +kernel))) rfl
theorem mw_426 : Jvm.Cond.laysFinal "ServerLine" "ServerLine" "line" "LServerLine$Line;" ∈ mm_G := mm_in (mt_2 (List.mem_of_getElem? (l := tables_1_2) (i := 131) (by decide +kernel))) rfl
theorem mw_428 : Jvm.Cond.laysFinal "ServerLine" "ServerLine" "sheets" "LServerLine$Sheets;" ∈ mm_G := mm_in (mt_2 (List.mem_of_getElem? (l := tables_1_2) (i := 133) (by decide +kernel))) rfl
theorem mw_430 : Jvm.Cond.laysFinal "ServerLine" "ServerLine" "row" "LServerLine$Row;" ∈ mm_G := mm_in (mt_2 (List.mem_of_getElem? (l := tables_1_2) (i := 135) (by decide +kernel))) rfl
theorem mw_432 : Jvm.Cond.laysFinal "ServerLine" "ServerLine" "rules" "[LServerLine$Rule;" ∈ mm_G := mm_in (mt_2 (List.mem_of_getElem? (l := tables_1_2) (i := 137) (by decide +kernel))) rfl
theorem mw_434 : Jvm.Cond.laysFinal "ServerLine" "ServerLine" "workRule" "LServerLine$Work;" ∈ mm_G := mm_in (mt_2 (List.mem_of_getElem? (l := tables_1_2) (i := 139) (by decide +kernel))) rfl
theorem mw_436 : Jvm.Cond.laysFinal "ServerLine" "ServerLine" "guardedRule" "LServerLine$Guarded;" ∈ mm_G := mm_in (mt_2 (List.mem_of_getElem? (l := tables_1_2) (i := 141) (by decide +kernel))) rfl
theorem mw_438 : Jvm.Cond.laysFinal "ServerLine" "ServerLine" "ahead" "LServerLine$Ahead;" ∈ mm_G := mm_in (mt_2 (List.mem_of_getElem? (l := tables_1_2) (i := 143) (by decide +kernel))) rfl
theorem mw_440 : Jvm.Cond.laysFinal "ServerLine" "ServerLine" "store" "LServerLine$Longing;" ∈ mm_G := mm_in (mt_2 (List.mem_of_getElem? (l := tables_1_2) (i := 145) (by decide +kernel))) rfl
theorem mw_442 : Jvm.Cond.laysFinal "ServerLine" "ServerLine" "search" "LServerLine$WorstSearch;" ∈ mm_G := mm_in (mt_2 (List.mem_of_getElem? (l := tables_1_2) (i := 147) (by decide +kernel))) rfl
theorem uw_X11 : ∀ w ∈ u_ws RX11 TX11 9, w ∈ mm_G := by
  show ∀ w ∈ ([u_lay RX11 TX11 0, u_lay RX11 TX11 1, u_lay RX11 TX11 2, u_lay RX11 TX11 3, u_lay RX11 TX11 4, u_lay RX11 TX11 5, u_lay RX11 TX11 6, u_lay RX11 TX11 7, u_lay RX11 TX11 8] : List Cond), w ∈ mm_G
  exact List.forall_mem_cons.mpr ⟨mw_426, List.forall_mem_cons.mpr ⟨mw_428, List.forall_mem_cons.mpr ⟨mw_430, List.forall_mem_cons.mpr ⟨mw_432, List.forall_mem_cons.mpr ⟨mw_434, List.forall_mem_cons.mpr ⟨mw_436, List.forall_mem_cons.mpr ⟨mw_438, List.forall_mem_cons.mpr ⟨mw_440, List.forall_mem_cons.mpr ⟨mw_442, fun _ h => absurd h List.not_mem_nil⟩⟩⟩⟩⟩⟩⟩⟩⟩
theorem fl_X11_10_X11 : mm_FL RX11 10 "ServerLine" 10 RX11 TX11 9 0 := ⟨rfl, by decide, uw_X11, mw_417, Or.inl rfl⟩
theorem mw_101 : Jvm.Cond.fieldLink "ServerLine" (89 : Nat) "ServerLine$Line" "pointCount" "I" ∈ mm_G := mm_in (mt_1 (List.mem_of_getElem? (l := tables_1_1) (i := 46) (by decide +kernel))) rfl
theorem mw_138 : Jvm.Cond.lays "ServerLine$Line" "ServerLine$Line" "pointCount" "I" ∈ mm_G := mm_in (mt_1 (List.mem_of_getElem? (l := tables_1_1) (i := 83) (by decide +kernel))) rfl
theorem mw_140 : Jvm.Cond.lays "ServerLine$Line" "ServerLine$Line" "serverCount" "I" ∈ mm_G := mm_in (mt_1 (List.mem_of_getElem? (l := tables_1_1) (i := 85) (by decide +kernel))) rfl
theorem mw_142 : Jvm.Cond.lays "ServerLine$Line" "ServerLine$Line" "guardFactor" "I" ∈ mm_G := mm_in (mt_1 (List.mem_of_getElem? (l := tables_1_1) (i := 87) (by decide +kernel))) rfl
theorem mw_144 : Jvm.Cond.lays "ServerLine$Line" "ServerLine$Line" "crowdCount" "I" ∈ mm_G := mm_in (mt_1 (List.mem_of_getElem? (l := tables_1_1) (i := 89) (by decide +kernel))) rfl
theorem mw_146 : Jvm.Cond.laysFinal "ServerLine$Line" "ServerLine$Line" "places" "[I" ∈ mm_G := mm_in (mt_1 (List.mem_of_getElem? (l := tables_1_1) (i := 91) (by decide +kernel))) rfl
theorem mw_148 : Jvm.Cond.laysFinal "ServerLine$Line" "ServerLine$Line" "starts" "[I" ∈ mm_G := mm_in (mt_1 (List.mem_of_getElem? (l := tables_1_1) (i := 93) (by decide +kernel))) rfl
theorem mw_150 : Jvm.Cond.laysFinal "ServerLine$Line" "ServerLine$Line" "crowds" "[I" ∈ mm_G := mm_in (mt_1 (List.mem_of_getElem? (l := tables_1_1) (i := 95) (by decide +kernel))) rfl
theorem mw_152 : Jvm.Cond.laysFinal "ServerLine$Line" "ServerLine$Line" "crowdStandings" "[I" ∈ mm_G := mm_in (mt_1 (List.mem_of_getElem? (l := tables_1_1) (i := 97) (by decide +kernel))) rfl
theorem uw_X3 : ∀ w ∈ u_ws RX3 TX3 8, w ∈ mm_G := by
  show ∀ w ∈ ([u_lay RX3 TX3 0, u_lay RX3 TX3 1, u_lay RX3 TX3 2, u_lay RX3 TX3 3, u_lay RX3 TX3 4, u_lay RX3 TX3 5, u_lay RX3 TX3 6, u_lay RX3 TX3 7] : List Cond), w ∈ mm_G
  exact List.forall_mem_cons.mpr ⟨mw_138, List.forall_mem_cons.mpr ⟨mw_140, List.forall_mem_cons.mpr ⟨mw_142, List.forall_mem_cons.mpr ⟨mw_144, List.forall_mem_cons.mpr ⟨mw_146, List.forall_mem_cons.mpr ⟨mw_148, List.forall_mem_cons.mpr ⟨mw_150, List.forall_mem_cons.mpr ⟨mw_152, fun _ h => absurd h List.not_mem_nil⟩⟩⟩⟩⟩⟩⟩⟩
theorem fl_X11_89_X3 : mm_FL RX11 89 "ServerLine$Line" 3 RX3 TX3 8 0 := ⟨rfl, by decide, uw_X3, mw_101, Or.inl rfl⟩
theorem mw_100 : Jvm.Cond.fieldLink "ServerLine$Line" (9 : Nat) "ServerLine$Line" "pointCount" "I" ∈ mm_G := mm_in (mt_1 (List.mem_of_getElem? (l := tables_1_1) (i := 45) (by decide +kernel))) rfl
theorem fl_X3_9_X3 : mm_FL RX3 9 "ServerLine$Line" 3 RX3 TX3 8 0 := ⟨rfl, by decide, uw_X3, mw_100, Or.inl rfl⟩
theorem mw_120 : Jvm.Cond.fieldLink "ServerLine$Line" (21 : Nat) "ServerLine$Line" "places" "[I" ∈ mm_G := mm_in (mt_1 (List.mem_of_getElem? (l := tables_1_1) (i := 65) (by decide +kernel))) rfl
theorem fl_X3_21_X3 : mm_FL RX3 21 "ServerLine$Line" 3 RX3 TX3 8 4 := ⟨rfl, by decide, uw_X3, mw_120, Or.inl rfl⟩
theorem mw_128 : Jvm.Cond.fieldLink "ServerLine$Line" (25 : Nat) "ServerLine$Line" "starts" "[I" ∈ mm_G := mm_in (mt_1 (List.mem_of_getElem? (l := tables_1_1) (i := 73) (by decide +kernel))) rfl
theorem fl_X3_25_X3 : mm_FL RX3 25 "ServerLine$Line" 3 RX3 TX3 8 5 := ⟨rfl, by decide, uw_X3, mw_128, Or.inl rfl⟩
theorem mw_104 : Jvm.Cond.fieldLink "ServerLine$Line" (15 : Nat) "ServerLine$Line" "serverCount" "I" ∈ mm_G := mm_in (mt_1 (List.mem_of_getElem? (l := tables_1_1) (i := 49) (by decide +kernel))) rfl
theorem fl_X3_15_X3 : mm_FL RX3 15 "ServerLine$Line" 3 RX3 TX3 8 1 := ⟨rfl, by decide, uw_X3, mw_104, Or.inl rfl⟩
theorem mw_99 : Jvm.Cond.code ({ cls := "ServerLine$Line", name := "choicesOf", desc := "(I)I" } : Jvm.MethodName) prog_5_method_6_code (2 : Nat) (Option.some Jvm.ClassFile.FieldType.int) ∈ mm_G := mm_in (mt_1 (List.mem_of_getElem? (l := tables_1_1) (i := 44) (by decide +kernel))) rfl
theorem mw_57 : Jvm.Cond.initialized "ServerLine$Line" ∈ mm_G := mm_in (mt_1 (List.mem_of_getElem? (l := tables_1_1) (i := 2) (by decide +kernel))) rfl
theorem wb_X3_choicesOf : mm_CB yX3_choicesOf cX3_choicesOf 2 (some .int) 1 := ⟨mw_99, mw_57, ⟨by decide, by decide⟩, by decide +kernel, by decide⟩
theorem mw_96 : Jvm.Cond.methodLink "ServerLine$Line" (44 : Nat) ({ cls := "ServerLine$Line", name := "choicesOf", desc := "(I)I" } : Jvm.MethodName) ∈ mm_G := mm_in (mt_1 (List.mem_of_getElem? (l := tables_1_1) (i := 41) (by decide +kernel))) rfl
theorem mw_98 : Jvm.Cond.instanceMethod ({ cls := "ServerLine$Line", name := "choicesOf", desc := "(I)I" } : Jvm.MethodName) ∈ mm_G := mm_in (mt_1 (List.mem_of_getElem? (l := tables_1_1) (i := 43) (by decide +kernel))) rfl
theorem mw_2 : Cond.selects "ServerLine$Line" ⟨"ServerLine$Line", "choicesOf", "(I)I"⟩ ⟨"ServerLine$Line", "choicesOf", "(I)I"⟩ ∈ mm_G := mm_in (List.mem_append_left _ (List.mem_of_getElem? (i := 2) (by decide +kernel))) rfl
theorem wv_X3_44 : mm_VW RX3 44 yX3_choicesOf := ⟨mw_96, mw_98, mw_2⟩
theorem mw_135 : Jvm.Cond.fieldLink "ServerLine$Line" (31 : Nat) "ServerLine$Line" "crowdStandings" "[I" ∈ mm_G := mm_in (mt_1 (List.mem_of_getElem? (l := tables_1_1) (i := 80) (by decide +kernel))) rfl
theorem fl_X3_31_X3 : mm_FL RX3 31 "ServerLine$Line" 3 RX3 TX3 8 7 := ⟨rfl, by decide, uw_X3, mw_135, Or.inl rfl⟩
theorem mw_91 : Jvm.Cond.code ({ cls := "ServerLine$Line", name := "coded", desc := "(III)I" } : Jvm.MethodName) prog_5_method_7_code (3 : Nat) (Option.some Jvm.ClassFile.FieldType.int) ∈ mm_G := mm_in (mt_1 (List.mem_of_getElem? (l := tables_1_1) (i := 36) (by decide +kernel))) rfl
theorem wb_X3_coded : mm_CB yX3_coded cX3_coded 3 (some .int) 3 := ⟨mw_91, mw_57, ⟨by decide, by decide⟩, by decide +kernel, by decide⟩
theorem mw_89 : Jvm.Cond.methodLink "ServerLine$Line" (40 : Nat) ({ cls := "ServerLine$Line", name := "coded", desc := "(III)I" } : Jvm.MethodName) ∈ mm_G := mm_in (mt_1 (List.mem_of_getElem? (l := tables_1_1) (i := 34) (by decide +kernel))) rfl
theorem mw_90 : Jvm.Cond.static ({ cls := "ServerLine$Line", name := "coded", desc := "(III)I" } : Jvm.MethodName) ∈ mm_G := mm_in (mt_1 (List.mem_of_getElem? (l := tables_1_1) (i := 35) (by decide +kernel))) rfl
theorem ws_X3_40 : mm_SW RX3 40 yX3_coded := ⟨mw_89, mw_90⟩
theorem mw_119 : Jvm.Cond.fieldLink "ServerLine$Line" (48 : Nat) "ServerLine$Line" "crowdCount" "I" ∈ mm_G := mm_in (mt_1 (List.mem_of_getElem? (l := tables_1_1) (i := 64) (by decide +kernel))) rfl
theorem fl_X3_48_X3 : mm_FL RX3 48 "ServerLine$Line" 3 RX3 TX3 8 3 := ⟨rfl, by decide, uw_X3, mw_119, Or.inl rfl⟩
theorem mw_95 : Jvm.Cond.code ({ cls := "ServerLine$Line", name := "listCrowds", desc := "()V" } : Jvm.MethodName) prog_5_method_5_code (5 : Nat) (Option.none : Option Jvm.ClassFile.FieldType) ∈ mm_G := mm_in (mt_1 (List.mem_of_getElem? (l := tables_1_1) (i := 40) (by decide +kernel))) rfl
theorem wb_X3_listCrowds : mm_CB yX3_listCrowds cX3_listCrowds 5 none 0 := ⟨mw_95, mw_57, ⟨by decide, by decide⟩, by decide +kernel, by decide⟩
theorem mw_92 : Jvm.Cond.methodLink "ServerLine$Line" (37 : Nat) ({ cls := "ServerLine$Line", name := "listCrowds", desc := "()V" } : Jvm.MethodName) ∈ mm_G := mm_in (mt_1 (List.mem_of_getElem? (l := tables_1_1) (i := 37) (by decide +kernel))) rfl
theorem mw_94 : Jvm.Cond.instanceMethod ({ cls := "ServerLine$Line", name := "listCrowds", desc := "()V" } : Jvm.MethodName) ∈ mm_G := mm_in (mt_1 (List.mem_of_getElem? (l := tables_1_1) (i := 39) (by decide +kernel))) rfl
theorem mw_1 : Cond.selects "ServerLine$Line" ⟨"ServerLine$Line", "listCrowds", "()V"⟩ ⟨"ServerLine$Line", "listCrowds", "()V"⟩ ∈ mm_G := mm_in (List.mem_append_left _ (List.mem_of_getElem? (i := 1) (by decide +kernel))) rfl
theorem wv_X3_37 : mm_VW RX3 37 yX3_listCrowds := ⟨mw_92, mw_94, mw_1⟩
theorem mw_455 : Jvm.Cond.code ({ cls := "ServerLine$Line", name := "resizePoints", desc := "(I)V" } : Jvm.MethodName) prog_5_method_2_code (3 : Nat) (Option.none : Option Jvm.ClassFile.FieldType) ∈ mm_G := mm_in (mt_2 (List.mem_of_getElem? (l := tables_1_2) (i := 160) (by decide +kernel))) rfl
theorem wb_X3_resizePoints : mm_CB yX3_resizePoints cX3_resizePoints 3 none 1 := ⟨mw_455, mw_57, ⟨by decide, by decide⟩, by decide +kernel, by decide⟩
theorem mw_452 : Jvm.Cond.methodLink "ServerLine" (93 : Nat) ({ cls := "ServerLine$Line", name := "resizePoints", desc := "(I)V" } : Jvm.MethodName) ∈ mm_G := mm_in (mt_2 (List.mem_of_getElem? (l := tables_1_2) (i := 157) (by decide +kernel))) rfl
theorem mw_453 : Jvm.Cond.instanceMethod ({ cls := "ServerLine$Line", name := "resizePoints", desc := "(I)V" } : Jvm.MethodName) ∈ mm_G := mm_in (mt_2 (List.mem_of_getElem? (l := tables_1_2) (i := 158) (by decide +kernel))) rfl
theorem mw_454 : Jvm.Cond.selects "ServerLine$Line" ({ cls := "ServerLine$Line", name := "resizePoints", desc := "(I)V" } : Jvm.MethodName) ({ cls := "ServerLine$Line", name := "resizePoints", desc := "(I)V" } : Jvm.MethodName) ∈ mm_G := mm_in (mt_2 (List.mem_of_getElem? (l := tables_1_2) (i := 159) (by decide +kernel))) rfl
theorem wv_X11_93 : mm_VW RX11 93 yX3_resizePoints := ⟨mw_452, mw_453, mw_454⟩
theorem mw_463 : Jvm.Cond.code ({ cls := "ServerLine", name := "isPoint", desc := "(I)Z" } : Jvm.MethodName) prog_1_method_29_code (2 : Nat) (Option.some Jvm.ClassFile.FieldType.boolean) ∈ mm_G := mm_in (mt_2 (List.mem_of_getElem? (l := tables_1_2) (i := 168) (by decide +kernel))) rfl
theorem wb_X11_isPoint : mm_CB yX11_isPoint cX11_isPoint 2 (some .boolean) 1 := ⟨mw_463, mw_56, ⟨by decide, by decide⟩, by decide +kernel, by decide⟩
theorem mw_460 : Jvm.Cond.methodLink "ServerLine" (97 : Nat) ({ cls := "ServerLine", name := "isPoint", desc := "(I)Z" } : Jvm.MethodName) ∈ mm_G := mm_in (mt_2 (List.mem_of_getElem? (l := tables_1_2) (i := 165) (by decide +kernel))) rfl
theorem mw_462 : Jvm.Cond.instanceMethod ({ cls := "ServerLine", name := "isPoint", desc := "(I)Z" } : Jvm.MethodName) ∈ mm_G := mm_in (mt_2 (List.mem_of_getElem? (l := tables_1_2) (i := 167) (by decide +kernel))) rfl
theorem mw_3 : Cond.selects "ServerLine" ⟨"ServerLine", "isPoint", "(I)Z"⟩ ⟨"ServerLine", "isPoint", "(I)Z"⟩ ∈ mm_G := mm_in (List.mem_append_left _ (List.mem_of_getElem? (i := 3) (by decide +kernel))) rfl
theorem wv_X11_97 : mm_VW RX11 97 yX11_isPoint := ⟨mw_460, mw_462, mw_3⟩
theorem mw_125 : Jvm.Cond.fieldLink "ServerLine" (101 : Nat) "ServerLine$Line" "places" "[I" ∈ mm_G := mm_in (mt_1 (List.mem_of_getElem? (l := tables_1_1) (i := 70) (by decide +kernel))) rfl
theorem fl_X11_101_X3 : mm_FL RX11 101 "ServerLine$Line" 3 RX3 TX3 8 4 := ⟨rfl, by decide, uw_X3, mw_125, Or.inl rfl⟩
theorem mw_110 : Jvm.Cond.fieldLink "ServerLine" (105 : Nat) "ServerLine$Line" "serverCount" "I" ∈ mm_G := mm_in (mt_1 (List.mem_of_getElem? (l := tables_1_1) (i := 55) (by decide +kernel))) rfl
theorem fl_X11_105_X3 : mm_FL RX11 105 "ServerLine$Line" 3 RX3 TX3 8 1 := ⟨rfl, by decide, uw_X3, mw_110, Or.inl rfl⟩
theorem mw_471 : Jvm.Cond.code ({ cls := "ServerLine$Line", name := "resizeServers", desc := "(I)V" } : Jvm.MethodName) prog_5_method_3_code (3 : Nat) (Option.none : Option Jvm.ClassFile.FieldType) ∈ mm_G := mm_in (mt_2 (List.mem_of_getElem? (l := tables_1_2) (i := 176) (by decide +kernel))) rfl
theorem wb_X3_resizeServers : mm_CB yX3_resizeServers cX3_resizeServers 3 none 1 := ⟨mw_471, mw_57, ⟨by decide, by decide⟩, by decide +kernel, by decide⟩
theorem mw_468 : Jvm.Cond.methodLink "ServerLine" (108 : Nat) ({ cls := "ServerLine$Line", name := "resizeServers", desc := "(I)V" } : Jvm.MethodName) ∈ mm_G := mm_in (mt_2 (List.mem_of_getElem? (l := tables_1_2) (i := 173) (by decide +kernel))) rfl
theorem mw_469 : Jvm.Cond.instanceMethod ({ cls := "ServerLine$Line", name := "resizeServers", desc := "(I)V" } : Jvm.MethodName) ∈ mm_G := mm_in (mt_2 (List.mem_of_getElem? (l := tables_1_2) (i := 174) (by decide +kernel))) rfl
theorem mw_470 : Jvm.Cond.selects "ServerLine$Line" ({ cls := "ServerLine$Line", name := "resizeServers", desc := "(I)V" } : Jvm.MethodName) ({ cls := "ServerLine$Line", name := "resizeServers", desc := "(I)V" } : Jvm.MethodName) ∈ mm_G := mm_in (mt_2 (List.mem_of_getElem? (l := tables_1_2) (i := 175) (by decide +kernel))) rfl
theorem wv_X11_108 : mm_VW RX11 108 yX3_resizeServers := ⟨mw_468, mw_469, mw_470⟩
theorem mw_479 : Jvm.Cond.code ({ cls := "ServerLine", name := "isServer", desc := "(I)Z" } : Jvm.MethodName) prog_1_method_30_code (2 : Nat) (Option.some Jvm.ClassFile.FieldType.boolean) ∈ mm_G := mm_in (mt_2 (List.mem_of_getElem? (l := tables_1_2) (i := 184) (by decide +kernel))) rfl
theorem wb_X11_isServer : mm_CB yX11_isServer cX11_isServer 2 (some .boolean) 1 := ⟨mw_479, mw_56, ⟨by decide, by decide⟩, by decide +kernel, by decide⟩
theorem mw_476 : Jvm.Cond.methodLink "ServerLine" (111 : Nat) ({ cls := "ServerLine", name := "isServer", desc := "(I)Z" } : Jvm.MethodName) ∈ mm_G := mm_in (mt_2 (List.mem_of_getElem? (l := tables_1_2) (i := 181) (by decide +kernel))) rfl
theorem mw_478 : Jvm.Cond.instanceMethod ({ cls := "ServerLine", name := "isServer", desc := "(I)Z" } : Jvm.MethodName) ∈ mm_G := mm_in (mt_2 (List.mem_of_getElem? (l := tables_1_2) (i := 183) (by decide +kernel))) rfl
theorem mw_4 : Cond.selects "ServerLine" ⟨"ServerLine", "isServer", "(I)Z"⟩ ⟨"ServerLine", "isServer", "(I)Z"⟩ ∈ mm_G := mm_in (List.mem_append_left _ (List.mem_of_getElem? (i := 4) (by decide +kernel))) rfl
theorem wv_X11_111 : mm_VW RX11 111 yX11_isServer := ⟨mw_476, mw_478, mw_4⟩
theorem mw_131 : Jvm.Cond.fieldLink "ServerLine" (114 : Nat) "ServerLine$Line" "starts" "[I" ∈ mm_G := mm_in (mt_1 (List.mem_of_getElem? (l := tables_1_1) (i := 76) (by decide +kernel))) rfl
theorem fl_X11_114_X3 : mm_FL RX11 114 "ServerLine$Line" 3 RX3 TX3 8 5 := ⟨rfl, by decide, uw_X3, mw_131, Or.inl rfl⟩
theorem mw_116 : Jvm.Cond.fieldLink "ServerLine" (117 : Nat) "ServerLine$Line" "guardFactor" "I" ∈ mm_G := mm_in (mt_1 (List.mem_of_getElem? (l := tables_1_1) (i := 61) (by decide +kernel))) rfl
theorem fl_X11_117_X3 : mm_FL RX11 117 "ServerLine$Line" 3 RX3 TX3 8 2 := ⟨rfl, by decide, uw_X3, mw_116, Or.inl rfl⟩
theorem mw_419 : Jvm.Cond.fieldLink "ServerLine" (26 : Nat) "ServerLine" "row" "LServerLine$Row;" ∈ mm_G := mm_in (mt_2 (List.mem_of_getElem? (l := tables_1_2) (i := 124) (by decide +kernel))) rfl
theorem fl_X11_26_X11 : mm_FL RX11 26 "ServerLine" 10 RX11 TX11 9 2 := ⟨rfl, by decide, uw_X11, mw_419, Or.inl rfl⟩
theorem mw_418 : Jvm.Cond.fieldLink "ServerLine" (19 : Nat) "ServerLine" "sheets" "LServerLine$Sheets;" ∈ mm_G := mm_in (mt_2 (List.mem_of_getElem? (l := tables_1_2) (i := 123) (by decide +kernel))) rfl
theorem fl_X11_19_X11 : mm_FL RX11 19 "ServerLine" 10 RX11 TX11 9 1 := ⟨rfl, by decide, uw_X11, mw_418, Or.inl rfl⟩
theorem mw_194 : Jvm.Cond.fieldLink "ServerLine$Row" (18 : Nat) "ServerLine$Row" "length" "I" ∈ mm_G := mm_in (mt_1 (List.mem_of_getElem? (l := tables_1_1) (i := 139) (by decide +kernel))) rfl
theorem mw_198 : Jvm.Cond.laysFinal "ServerLine$Row" "ServerLine$Row" "points" "[I" ∈ mm_G := mm_in (mt_1 (List.mem_of_getElem? (l := tables_1_1) (i := 143) (by decide +kernel))) rfl
theorem mw_200 : Jvm.Cond.laysFinal "ServerLine$Row" "ServerLine$Row" "hints" "[I" ∈ mm_G := mm_in (mt_1 (List.mem_of_getElem? (l := tables_1_1) (i := 145) (by decide +kernel))) rfl
theorem mw_202 : Jvm.Cond.lays "ServerLine$Row" "ServerLine$Row" "length" "I" ∈ mm_G := mm_in (mt_1 (List.mem_of_getElem? (l := tables_1_1) (i := 147) (by decide +kernel))) rfl
theorem uw_X6 : ∀ w ∈ u_ws RX6 TX6 3, w ∈ mm_G := by
  show ∀ w ∈ ([u_lay RX6 TX6 0, u_lay RX6 TX6 1, u_lay RX6 TX6 2] : List Cond), w ∈ mm_G
  exact List.forall_mem_cons.mpr ⟨mw_198, List.forall_mem_cons.mpr ⟨mw_200, List.forall_mem_cons.mpr ⟨mw_202, fun _ h => absurd h List.not_mem_nil⟩⟩⟩
theorem fl_X6_18_X6 : mm_FL RX6 18 "ServerLine$Row" 6 RX6 TX6 3 2 := ⟨rfl, by decide, uw_X6, mw_194, Or.inl rfl⟩
theorem mw_167 : Jvm.Cond.fieldLink "ServerLine$Sheets" (16 : Nat) "ServerLine$Sheets" "forms" "[I" ∈ mm_G := mm_in (mt_1 (List.mem_of_getElem? (l := tables_1_1) (i := 112) (by decide +kernel))) rfl
theorem mw_174 : Jvm.Cond.laysFinal "ServerLine$Sheets" "ServerLine$Sheets" "items" "[[I" ∈ mm_G := mm_in (mt_1 (List.mem_of_getElem? (l := tables_1_1) (i := 119) (by decide +kernel))) rfl
theorem mw_176 : Jvm.Cond.laysFinal "ServerLine$Sheets" "ServerLine$Sheets" "forms" "[I" ∈ mm_G := mm_in (mt_1 (List.mem_of_getElem? (l := tables_1_1) (i := 121) (by decide +kernel))) rfl
theorem mw_178 : Jvm.Cond.laysFinal "ServerLine$Sheets" "ServerLine$Sheets" "sizes" "[I" ∈ mm_G := mm_in (mt_1 (List.mem_of_getElem? (l := tables_1_1) (i := 123) (by decide +kernel))) rfl
theorem mw_180 : Jvm.Cond.lays "ServerLine$Sheets" "ServerLine$Sheets" "finding" "I" ∈ mm_G := mm_in (mt_1 (List.mem_of_getElem? (l := tables_1_1) (i := 125) (by decide +kernel))) rfl
theorem uw_X8 : ∀ w ∈ u_ws RX8 TX8 4, w ∈ mm_G := by
  show ∀ w ∈ ([u_lay RX8 TX8 0, u_lay RX8 TX8 1, u_lay RX8 TX8 2, u_lay RX8 TX8 3] : List Cond), w ∈ mm_G
  exact List.forall_mem_cons.mpr ⟨mw_174, List.forall_mem_cons.mpr ⟨mw_176, List.forall_mem_cons.mpr ⟨mw_178, List.forall_mem_cons.mpr ⟨mw_180, fun _ h => absurd h List.not_mem_nil⟩⟩⟩⟩
theorem fl_X8_16_X8 : mm_FL RX8 16 "ServerLine$Sheets" 7 RX8 TX8 4 1 := ⟨rfl, by decide, uw_X8, mw_167, Or.inl rfl⟩
theorem mw_499 : Jvm.Cond.code ({ cls := "ServerLine$Sheets", name := "isLost", desc := "(I)Z" } : Jvm.MethodName) prog_10_method_3_code (2 : Nat) (Option.some Jvm.ClassFile.FieldType.boolean) ∈ mm_G := mm_in (mt_2 (List.mem_of_getElem? (l := tables_1_2) (i := 204) (by decide +kernel))) rfl
theorem mw_58 : Jvm.Cond.initialized "ServerLine$Sheets" ∈ mm_G := mm_in (mt_1 (List.mem_of_getElem? (l := tables_1_1) (i := 3) (by decide +kernel))) rfl
theorem wb_X8_isLost : mm_CB yX8_isLost cX8_isLost 2 (some .boolean) 1 := ⟨mw_499, mw_58, ⟨by decide, by decide⟩, by decide +kernel, by decide⟩
theorem mw_496 : Jvm.Cond.methodLink "ServerLine$Row" (22 : Nat) ({ cls := "ServerLine$Sheets", name := "isLost", desc := "(I)Z" } : Jvm.MethodName) ∈ mm_G := mm_in (mt_2 (List.mem_of_getElem? (l := tables_1_2) (i := 201) (by decide +kernel))) rfl
theorem mw_497 : Jvm.Cond.instanceMethod ({ cls := "ServerLine$Sheets", name := "isLost", desc := "(I)Z" } : Jvm.MethodName) ∈ mm_G := mm_in (mt_2 (List.mem_of_getElem? (l := tables_1_2) (i := 202) (by decide +kernel))) rfl
theorem mw_498 : Jvm.Cond.selects "ServerLine$Sheets" ({ cls := "ServerLine$Sheets", name := "isLost", desc := "(I)Z" } : Jvm.MethodName) ({ cls := "ServerLine$Sheets", name := "isLost", desc := "(I)Z" } : Jvm.MethodName) ∈ mm_G := mm_in (mt_2 (List.mem_of_getElem? (l := tables_1_2) (i := 203) (by decide +kernel))) rfl
theorem wv_X6_22 : mm_VW RX6 22 yX8_isLost := ⟨mw_496, mw_497, mw_498⟩
theorem mw_170 : Jvm.Cond.fieldLink "ServerLine$Row" (28 : Nat) "ServerLine$Sheets" "sizes" "[I" ∈ mm_G := mm_in (mt_1 (List.mem_of_getElem? (l := tables_1_1) (i := 115) (by decide +kernel))) rfl
theorem fl_X6_28_X8 : mm_FL RX6 28 "ServerLine$Sheets" 7 RX8 TX8 4 2 := ⟨rfl, by decide, uw_X8, mw_170, Or.inl rfl⟩
theorem mw_165 : Jvm.Cond.fieldLink "ServerLine$Row" (31 : Nat) "ServerLine$Sheets" "items" "[[I" ∈ mm_G := mm_in (mt_1 (List.mem_of_getElem? (l := tables_1_1) (i := 110) (by decide +kernel))) rfl
theorem fl_X6_31_X8 : mm_FL RX6 31 "ServerLine$Sheets" 7 RX8 TX8 4 0 := ⟨rfl, by decide, uw_X8, mw_165, Or.inl rfl⟩
theorem mw_102 : Jvm.Cond.fieldLink "ServerLine$Row" (35 : Nat) "ServerLine$Line" "pointCount" "I" ∈ mm_G := mm_in (mt_1 (List.mem_of_getElem? (l := tables_1_1) (i := 47) (by decide +kernel))) rfl
theorem fl_X6_35_X3 : mm_FL RX6 35 "ServerLine$Line" 3 RX3 TX3 8 0 := ⟨rfl, by decide, uw_X3, mw_102, Or.inl rfl⟩
theorem mw_189 : Jvm.Cond.fieldLink "ServerLine$Row" (9 : Nat) "ServerLine$Row" "points" "[I" ∈ mm_G := mm_in (mt_1 (List.mem_of_getElem? (l := tables_1_1) (i := 134) (by decide +kernel))) rfl
theorem fl_X6_9_X6 : mm_FL RX6 9 "ServerLine$Row" 6 RX6 TX6 3 0 := ⟨rfl, by decide, uw_X6, mw_189, Or.inl rfl⟩
theorem mw_193 : Jvm.Cond.fieldLink "ServerLine$Row" (15 : Nat) "ServerLine$Row" "hints" "[I" ∈ mm_G := mm_in (mt_1 (List.mem_of_getElem? (l := tables_1_1) (i := 138) (by decide +kernel))) rfl
theorem fl_X6_15_X6 : mm_FL RX6 15 "ServerLine$Row" 6 RX6 TX6 3 1 := ⟨rfl, by decide, uw_X6, mw_193, Or.inl rfl⟩
theorem mw_108 : Jvm.Cond.fieldLink "ServerLine$Row" (48 : Nat) "ServerLine$Line" "serverCount" "I" ∈ mm_G := mm_in (mt_1 (List.mem_of_getElem? (l := tables_1_1) (i := 53) (by decide +kernel))) rfl
theorem fl_X6_48_X3 : mm_FL RX6 48 "ServerLine$Line" 3 RX3 TX3 8 1 := ⟨rfl, by decide, uw_X3, mw_108, Or.inl rfl⟩
theorem mw_503 : Jvm.Cond.code ({ cls := "ServerLine$Row", name := "hintAt", desc := "(LServerLine$Sheets;LServerLine$Line;I)I" } : Jvm.MethodName) prog_8_method_3_code (4 : Nat) (Option.some Jvm.ClassFile.FieldType.int) ∈ mm_G := mm_in (mt_2 (List.mem_of_getElem? (l := tables_1_2) (i := 208) (by decide +kernel))) rfl
theorem mw_59 : Jvm.Cond.initialized "ServerLine$Row" ∈ mm_G := mm_in (mt_1 (List.mem_of_getElem? (l := tables_1_1) (i := 4) (by decide +kernel))) rfl
theorem wb_X6_hintAt : mm_CB yX6_hintAt cX6_hintAt 4 (some .int) 3 := ⟨mw_503, mw_59, ⟨by decide, by decide⟩, by decide +kernel, by decide⟩
theorem mw_501 : Jvm.Cond.methodLink "ServerLine$Row" (44 : Nat) ({ cls := "ServerLine$Row", name := "hintAt", desc := "(LServerLine$Sheets;LServerLine$Line;I)I" } : Jvm.MethodName) ∈ mm_G := mm_in (mt_2 (List.mem_of_getElem? (l := tables_1_2) (i := 206) (by decide +kernel))) rfl
theorem mw_502 : Jvm.Cond.static ({ cls := "ServerLine$Row", name := "hintAt", desc := "(LServerLine$Sheets;LServerLine$Line;I)I" } : Jvm.MethodName) ∈ mm_G := mm_in (mt_2 (List.mem_of_getElem? (l := tables_1_2) (i := 207) (by decide +kernel))) rfl
theorem ws_X6_44 : mm_SW RX6 44 yX6_hintAt := ⟨mw_501, mw_502⟩
theorem mw_495 : Jvm.Cond.code ({ cls := "ServerLine$Row", name := "read", desc := "(LServerLine$Sheets;LServerLine$Line;)Z" } : Jvm.MethodName) prog_8_method_2_code (5 : Nat) (Option.some Jvm.ClassFile.FieldType.boolean) ∈ mm_G := mm_in (mt_2 (List.mem_of_getElem? (l := tables_1_2) (i := 200) (by decide +kernel))) rfl
theorem wb_X6_read : mm_CB yX6_read cX6_read 5 (some .boolean) 2 := ⟨mw_495, mw_59, ⟨by decide, by decide⟩, by decide +kernel, by decide⟩
theorem mw_492 : Jvm.Cond.methodLink "ServerLine" (253 : Nat) ({ cls := "ServerLine$Row", name := "read", desc := "(LServerLine$Sheets;LServerLine$Line;)Z" } : Jvm.MethodName) ∈ mm_G := mm_in (mt_2 (List.mem_of_getElem? (l := tables_1_2) (i := 197) (by decide +kernel))) rfl
theorem mw_493 : Jvm.Cond.instanceMethod ({ cls := "ServerLine$Row", name := "read", desc := "(LServerLine$Sheets;LServerLine$Line;)Z" } : Jvm.MethodName) ∈ mm_G := mm_in (mt_2 (List.mem_of_getElem? (l := tables_1_2) (i := 198) (by decide +kernel))) rfl
theorem mw_494 : Jvm.Cond.selects "ServerLine$Row" ({ cls := "ServerLine$Row", name := "read", desc := "(LServerLine$Sheets;LServerLine$Line;)Z" } : Jvm.MethodName) ({ cls := "ServerLine$Row", name := "read", desc := "(LServerLine$Sheets;LServerLine$Line;)Z" } : Jvm.MethodName) ∈ mm_G := mm_in (mt_2 (List.mem_of_getElem? (l := tables_1_2) (i := 199) (by decide +kernel))) rfl
theorem wv_X11_253 : mm_VW RX11 253 yX6_read := ⟨mw_492, mw_493, mw_494⟩
theorem mw_491 : Jvm.Cond.code ({ cls := "ServerLine", name := "readRow", desc := "()Z" } : Jvm.MethodName) prog_1_method_34_code (1 : Nat) (Option.some Jvm.ClassFile.FieldType.boolean) ∈ mm_G := mm_in (mt_2 (List.mem_of_getElem? (l := tables_1_2) (i := 196) (by decide +kernel))) rfl
theorem wb_X11_readRow : mm_CB yX11_readRow cX11_readRow 1 (some .boolean) 0 := ⟨mw_491, mw_56, ⟨by decide, by decide⟩, by decide +kernel, by decide⟩
theorem mw_488 : Jvm.Cond.methodLink "ServerLine" (120 : Nat) ({ cls := "ServerLine", name := "readRow", desc := "()Z" } : Jvm.MethodName) ∈ mm_G := mm_in (mt_2 (List.mem_of_getElem? (l := tables_1_2) (i := 193) (by decide +kernel))) rfl
theorem mw_490 : Jvm.Cond.instanceMethod ({ cls := "ServerLine", name := "readRow", desc := "()Z" } : Jvm.MethodName) ∈ mm_G := mm_in (mt_2 (List.mem_of_getElem? (l := tables_1_2) (i := 195) (by decide +kernel))) rfl
theorem mw_5 : Cond.selects "ServerLine" ⟨"ServerLine", "readRow", "()Z"⟩ ⟨"ServerLine", "readRow", "()Z"⟩ ∈ mm_G := mm_in (List.mem_append_left _ (List.mem_of_getElem? (i := 5) (by decide +kernel))) rfl
theorem wv_X11_120 : mm_VW RX11 120 yX11_readRow := ⟨mw_488, mw_490, mw_5⟩
theorem mw_197 : Jvm.Cond.fieldLink "ServerLine" (128 : Nat) "ServerLine$Row" "length" "I" ∈ mm_G := mm_in (mt_1 (List.mem_of_getElem? (l := tables_1_1) (i := 142) (by decide +kernel))) rfl
theorem fl_X11_128_X6 : mm_FL RX11 128 "ServerLine$Row" 6 RX6 TX6 3 2 := ⟨rfl, by decide, uw_X6, mw_197, Or.inl rfl⟩
theorem mw_172 : Jvm.Cond.fieldLink "ServerLine$Sheets" (23 : Nat) "ServerLine$Sheets" "finding" "I" ∈ mm_G := mm_in (mt_1 (List.mem_of_getElem? (l := tables_1_1) (i := 117) (by decide +kernel))) rfl
theorem fl_X8_23_X8 : mm_FL RX8 23 "ServerLine$Sheets" 7 RX8 TX8 4 3 := ⟨rfl, by decide, uw_X8, mw_172, Or.inl rfl⟩
theorem mw_507 : Jvm.Cond.code ({ cls := "ServerLine$Sheets", name := "found", desc := "(I)I" } : Jvm.MethodName) prog_10_method_2_code (2 : Nat) (Option.some Jvm.ClassFile.FieldType.int) ∈ mm_G := mm_in (mt_2 (List.mem_of_getElem? (l := tables_1_2) (i := 212) (by decide +kernel))) rfl
theorem wb_X8_found : mm_CB yX8_found cX8_found 2 (some .int) 1 := ⟨mw_507, mw_58, ⟨by decide, by decide⟩, by decide +kernel, by decide⟩
theorem mw_504 : Jvm.Cond.methodLink "ServerLine" (124 : Nat) ({ cls := "ServerLine$Sheets", name := "found", desc := "(I)I" } : Jvm.MethodName) ∈ mm_G := mm_in (mt_2 (List.mem_of_getElem? (l := tables_1_2) (i := 209) (by decide +kernel))) rfl
theorem mw_505 : Jvm.Cond.instanceMethod ({ cls := "ServerLine$Sheets", name := "found", desc := "(I)I" } : Jvm.MethodName) ∈ mm_G := mm_in (mt_2 (List.mem_of_getElem? (l := tables_1_2) (i := 210) (by decide +kernel))) rfl
theorem mw_506 : Jvm.Cond.selects "ServerLine$Sheets" ({ cls := "ServerLine$Sheets", name := "found", desc := "(I)I" } : Jvm.MethodName) ({ cls := "ServerLine$Sheets", name := "found", desc := "(I)I" } : Jvm.MethodName) ∈ mm_G := mm_in (mt_2 (List.mem_of_getElem? (l := tables_1_2) (i := 211) (by decide +kernel))) rfl
theorem wv_X11_124 : mm_VW RX11 124 yX8_found := ⟨mw_504, mw_505, mw_506⟩
theorem mw_420 : Jvm.Cond.fieldLink "ServerLine" (58 : Nat) "ServerLine" "rules" "[LServerLine$Rule;" ∈ mm_G := mm_in (mt_2 (List.mem_of_getElem? (l := tables_1_2) (i := 125) (by decide +kernel))) rfl
theorem fl_X11_58_X11 : mm_FL RX11 58 "ServerLine" 10 RX11 TX11 9 3 := ⟨rfl, by decide, uw_X11, mw_420, Or.inl rfl⟩
theorem mw_516 : Jvm.Cond.methodLink "ServerLine$Row" (51 : Nat) ({ cls := "java/lang/Math", name := "min", desc := "(II)I" } : Jvm.MethodName) ∈ mm_G := mm_in (mt_2 (List.mem_of_getElem? (l := tables_1_2) (i := 221) (by decide +kernel))) rfl
theorem mw_517 : Jvm.Cond.static ({ cls := "java/lang/Math", name := "min", desc := "(II)I" } : Jvm.MethodName) ∈ mm_G := mm_in (mt_2 (List.mem_of_getElem? (l := tables_1_2) (i := 222) (by decide +kernel))) rfl
theorem mw_62 : Jvm.Cond.initialized "java/lang/Math" ∈ mm_G := mm_in (mt_1 (List.mem_of_getElem? (l := tables_1_1) (i := 7) (by decide +kernel))) rfl
theorem mw_518 : Jvm.Cond.code ({ cls := "java/lang/Math", name := "min", desc := "(II)I" } : Jvm.MethodName) prog_15_method_69_code (2 : Nat) (Option.some Jvm.ClassFile.FieldType.int) ∈ mm_G := mm_in (mt_2 (List.mem_of_getElem? (l := tables_1_2) (i := 223) (by decide +kernel))) rfl
theorem mw_234 : Jvm.Cond.fieldLink "ServerLine$Rule" (9 : Nat) "ServerLine$Rule" "at" "[I" ∈ mm_G := mm_in (mt_1 (List.mem_of_getElem? (l := tables_1_1) (i := 179) (by decide +kernel))) rfl
theorem mw_311 : Jvm.Cond.laysFinal "ServerLine$Nearest" "ServerLine$Rule" "line" "LServerLine$Line;" ∈ mm_G := mm_in (mt_2 (List.mem_of_getElem? (l := tables_1_2) (i := 16) (by decide +kernel))) rfl
theorem mw_312 : Jvm.Cond.laysFinal "ServerLine$Nearest" "ServerLine$Rule" "at" "[I" ∈ mm_G := mm_in (mt_2 (List.mem_of_getElem? (l := tables_1_2) (i := 17) (by decide +kernel))) rfl
theorem mw_313 : Jvm.Cond.lays "ServerLine$Nearest" "ServerLine$Rule" "spent" "I" ∈ mm_G := mm_in (mt_2 (List.mem_of_getElem? (l := tables_1_2) (i := 18) (by decide +kernel))) rfl
theorem mw_314 : Jvm.Cond.lays "ServerLine$Nearest" "ServerLine$Rule" "gone" "I" ∈ mm_G := mm_in (mt_2 (List.mem_of_getElem? (l := tables_1_2) (i := 19) (by decide +kernel))) rfl
theorem mw_309 : Jvm.Cond.laysFinal "ServerLine$Nearest" "ServerLine$Nearest" "heedsHints" "Z" ∈ mm_G := mm_in (mt_2 (List.mem_of_getElem? (l := tables_1_2) (i := 14) (by decide +kernel))) rfl
theorem uw_X5 : ∀ w ∈ u_ws RX5 TX5 5, w ∈ mm_G := by
  show ∀ w ∈ ([u_lay RX5 TX5 0, u_lay RX5 TX5 1, u_lay RX5 TX5 2, u_lay RX5 TX5 3, u_lay RX5 TX5 4] : List Cond), w ∈ mm_G
  exact List.forall_mem_cons.mpr ⟨mw_311, List.forall_mem_cons.mpr ⟨mw_312, List.forall_mem_cons.mpr ⟨mw_313, List.forall_mem_cons.mpr ⟨mw_314, List.forall_mem_cons.mpr ⟨mw_309, fun _ h => absurd h List.not_mem_nil⟩⟩⟩⟩⟩
theorem fl_X7_9_X5 : mm_FL RX7 9 "ServerLine$Rule" 5 RX5 TX5 5 1 := ⟨rfl, by decide, uw_X5, mw_234, Or.inl rfl⟩
theorem mw_223 : Jvm.Cond.fieldLink "ServerLine$Rule" (19 : Nat) "ServerLine$Rule" "line" "LServerLine$Line;" ∈ mm_G := mm_in (mt_1 (List.mem_of_getElem? (l := tables_1_1) (i := 168) (by decide +kernel))) rfl
theorem fl_X7_19_X5 : mm_FL RX7 19 "ServerLine$Rule" 5 RX5 TX5 5 0 := ⟨rfl, by decide, uw_X5, mw_223, Or.inl rfl⟩
theorem mw_124 : Jvm.Cond.fieldLink "ServerLine$Rule" (26 : Nat) "ServerLine$Line" "places" "[I" ∈ mm_G := mm_in (mt_1 (List.mem_of_getElem? (l := tables_1_1) (i := 69) (by decide +kernel))) rfl
theorem fl_X7_26_X3 : mm_FL RX7 26 "ServerLine$Line" 3 RX3 TX3 8 4 := ⟨rfl, by decide, uw_X3, mw_124, Or.inl rfl⟩
theorem mw_129 : Jvm.Cond.fieldLink "ServerLine$Rule" (31 : Nat) "ServerLine$Line" "starts" "[I" ∈ mm_G := mm_in (mt_1 (List.mem_of_getElem? (l := tables_1_1) (i := 74) (by decide +kernel))) rfl
theorem fl_X7_31_X3 : mm_FL RX7 31 "ServerLine$Line" 3 RX3 TX3 8 5 := ⟨rfl, by decide, uw_X3, mw_129, Or.inl rfl⟩
theorem mw_248 : Jvm.Cond.fieldLink "ServerLine$Rule" (34 : Nat) "ServerLine$Rule" "spent" "I" ∈ mm_G := mm_in (mt_1 (List.mem_of_getElem? (l := tables_1_1) (i := 193) (by decide +kernel))) rfl
theorem fl_X7_34_X5 : mm_FL RX7 34 "ServerLine$Rule" 5 RX5 TX5 5 2 := ⟨rfl, by decide, uw_X5, mw_248, Or.inl rfl⟩
theorem mw_258 : Jvm.Cond.fieldLink "ServerLine$Rule" (15 : Nat) "ServerLine$Rule" "gone" "I" ∈ mm_G := mm_in (mt_1 (List.mem_of_getElem? (l := tables_1_1) (i := 203) (by decide +kernel))) rfl
theorem fl_X7_15_X5 : mm_FL RX7 15 "ServerLine$Rule" 5 RX5 TX5 5 3 := ⟨rfl, by decide, uw_X5, mw_258, Or.inl rfl⟩
theorem mw_535 : Jvm.Cond.code ({ cls := "ServerLine$Rule", name := "standAtStart", desc := "()V" } : Jvm.MethodName) prog_9_method_3_code (2 : Nat) (Option.none : Option Jvm.ClassFile.FieldType) ∈ mm_G := mm_in (mt_3 (List.mem_of_getElem? (l := tables_1_3) (i := 0) (by decide +kernel))) rfl
theorem mw_60 : Jvm.Cond.initialized "ServerLine$Rule" ∈ mm_G := mm_in (mt_1 (List.mem_of_getElem? (l := tables_1_1) (i := 5) (by decide +kernel))) rfl
theorem wb_X7_standAtStart : mm_CB yX7_standAtStart cX7_standAtStart 2 none 0 := ⟨mw_535, mw_60, ⟨by decide, by decide⟩, by decide +kernel, by decide⟩
theorem mw_559 : Jvm.Cond.methodLink "ServerLine$Rule" (23 : Nat) ({ cls := "ServerLine$Rule", name := "standAtStart", desc := "()V" } : Jvm.MethodName) ∈ mm_G := mm_in (mt_3 (List.mem_of_getElem? (l := tables_1_3) (i := 24) (by decide +kernel))) rfl
theorem mw_1201 : Jvm.Cond.sameMethod "ServerLine$Rule" "ServerLine$Rule" "standAtStart" "()V" ∈ mm_G := mm_in (mt_5 (List.mem_of_getElem? (l := tables_1_5) (i := 186) (by decide +kernel))) rfl
theorem mw_1205 : Jvm.Cond.selects "ServerLine$Nearest" ({ cls := "ServerLine$Rule", name := "standAtStart", desc := "()V" } : Jvm.MethodName) ({ cls := "ServerLine$Rule", name := "standAtStart", desc := "()V" } : Jvm.MethodName) ∈ mm_G := mm_in (mt_5 (List.mem_of_getElem? (l := tables_1_5) (i := 190) (by decide +kernel))) rfl
theorem mw_534 : Jvm.Cond.instanceMethod ({ cls := "ServerLine$Rule", name := "standAtStart", desc := "()V" } : Jvm.MethodName) ∈ mm_G := mm_in (mt_2 (List.mem_of_getElem? (l := tables_1_2) (i := 239) (by decide +kernel))) rfl
theorem wu_X7_23_X5 : mm_UW RX7 23 RX5 yX7_standAtStart yX7_standAtStart := ⟨mw_559, mw_1201, mw_1205, mw_534, rfl⟩
theorem mw_558 : Jvm.Cond.code ({ cls := "ServerLine$Rule", name := "begin", desc := "()V" } : Jvm.MethodName) prog_9_method_2_code (1 : Nat) (Option.none : Option Jvm.ClassFile.FieldType) ∈ mm_G := mm_in (mt_3 (List.mem_of_getElem? (l := tables_1_3) (i := 23) (by decide +kernel))) rfl
theorem wb_X7_begin : mm_CB yX7_begin cX7_begin 1 none 0 := ⟨mw_558, mw_60, ⟨by decide, by decide⟩, by decide +kernel, by decide⟩
theorem mw_519 : Jvm.Cond.methodLink "ServerLine$Row" (57 : Nat) ({ cls := "ServerLine$Rule", name := "begin", desc := "()V" } : Jvm.MethodName) ∈ mm_G := mm_in (mt_2 (List.mem_of_getElem? (l := tables_1_2) (i := 224) (by decide +kernel))) rfl
theorem mw_521 : Jvm.Cond.sameMethod "ServerLine$Rule" "ServerLine$Rule" "begin" "()V" ∈ mm_G := mm_in (mt_2 (List.mem_of_getElem? (l := tables_1_2) (i := 226) (by decide +kernel))) rfl
theorem mw_525 : Jvm.Cond.selects "ServerLine$Nearest" ({ cls := "ServerLine$Rule", name := "begin", desc := "()V" } : Jvm.MethodName) ({ cls := "ServerLine$Rule", name := "begin", desc := "()V" } : Jvm.MethodName) ∈ mm_G := mm_in (mt_2 (List.mem_of_getElem? (l := tables_1_2) (i := 230) (by decide +kernel))) rfl
theorem mw_520 : Jvm.Cond.instanceMethod ({ cls := "ServerLine$Rule", name := "begin", desc := "()V" } : Jvm.MethodName) ∈ mm_G := mm_in (mt_2 (List.mem_of_getElem? (l := tables_1_2) (i := 225) (by decide +kernel))) rfl
theorem wu_X6_57_X5 : mm_UW RX6 57 RX5 yX7_begin yX7_begin := ⟨mw_519, mw_521, mw_525, mw_520, rfl⟩
theorem mw_227 : Jvm.Cond.sameField "ServerLine$Nearest" "ServerLine$Rule" "line" "LServerLine$Line;" ∈ mm_G := mm_in (mt_1 (List.mem_of_getElem? (l := tables_1_1) (i := 172) (by decide +kernel))) rfl
theorem mw_226 : Jvm.Cond.fieldLink "ServerLine$Nearest" (15 : Nat) "ServerLine$Nearest" "line" "LServerLine$Line;" ∈ mm_G := mm_in (mt_1 (List.mem_of_getElem? (l := tables_1_1) (i := 171) (by decide +kernel))) rfl
theorem fl_X5_15_X5 : mm_FL RX5 15 "ServerLine$Nearest" 5 RX5 TX5 5 0 := ⟨rfl, by decide, uw_X5, mw_226, Or.inr mw_227⟩
theorem mw_122 : Jvm.Cond.fieldLink "ServerLine$Nearest" (19 : Nat) "ServerLine$Line" "places" "[I" ∈ mm_G := mm_in (mt_1 (List.mem_of_getElem? (l := tables_1_1) (i := 67) (by decide +kernel))) rfl
theorem fl_X5_19_X3 : mm_FL RX5 19 "ServerLine$Line" 3 RX3 TX3 8 4 := ⟨rfl, by decide, uw_X3, mw_122, Or.inl rfl⟩
theorem mw_308 : Jvm.Cond.fieldLink "ServerLine$Nearest" (9 : Nat) "ServerLine$Nearest" "heedsHints" "Z" ∈ mm_G := mm_in (mt_2 (List.mem_of_getElem? (l := tables_1_2) (i := 13) (by decide +kernel))) rfl
theorem fl_X5_9_X5 : mm_FL RX5 9 "ServerLine$Nearest" 5 RX5 TX5 5 4 := ⟨rfl, by decide, uw_X5, mw_308, Or.inl rfl⟩
theorem mw_107 : Jvm.Cond.fieldLink "ServerLine$Nearest" (33 : Nat) "ServerLine$Line" "serverCount" "I" ∈ mm_G := mm_in (mt_1 (List.mem_of_getElem? (l := tables_1_1) (i := 52) (by decide +kernel))) rfl
theorem fl_X5_33_X3 : mm_FL RX5 33 "ServerLine$Line" 3 RX3 TX3 8 1 := ⟨rfl, by decide, uw_X3, mw_107, Or.inl rfl⟩
theorem mw_240 : Jvm.Cond.sameField "ServerLine$Nearest" "ServerLine$Rule" "at" "[I" ∈ mm_G := mm_in (mt_1 (List.mem_of_getElem? (l := tables_1_1) (i := 185) (by decide +kernel))) rfl
theorem mw_239 : Jvm.Cond.fieldLink "ServerLine$Nearest" (37 : Nat) "ServerLine$Nearest" "at" "[I" ∈ mm_G := mm_in (mt_1 (List.mem_of_getElem? (l := tables_1_1) (i := 184) (by decide +kernel))) rfl
theorem fl_X5_37_X5 : mm_FL RX5 37 "ServerLine$Nearest" 5 RX5 TX5 5 1 := ⟨rfl, by decide, uw_X5, mw_239, Or.inr mw_240⟩
theorem mw_631 : Jvm.Cond.methodLink "ServerLine$Nearest" (40 : Nat) ({ cls := "java/lang/Math", name := "abs", desc := "(I)I" } : Jvm.MethodName) ∈ mm_G := mm_in (mt_3 (List.mem_of_getElem? (l := tables_1_3) (i := 96) (by decide +kernel))) rfl
theorem mw_552 : Jvm.Cond.static ({ cls := "java/lang/Math", name := "abs", desc := "(I)I" } : Jvm.MethodName) ∈ mm_G := mm_in (mt_3 (List.mem_of_getElem? (l := tables_1_3) (i := 17) (by decide +kernel))) rfl
theorem mw_553 : Jvm.Cond.code ({ cls := "java/lang/Math", name := "abs", desc := "(I)I" } : Jvm.MethodName) prog_15_method_59_code (1 : Nat) (Option.some Jvm.ClassFile.FieldType.int) ∈ mm_G := mm_in (mt_3 (List.mem_of_getElem? (l := tables_1_3) (i := 18) (by decide +kernel))) rfl
theorem mw_630 : Jvm.Cond.code ({ cls := "ServerLine$Nearest", name := "nearestTo", desc := "(I)I" } : Jvm.MethodName) prog_7_method_3_code (4 : Nat) (Option.some Jvm.ClassFile.FieldType.int) ∈ mm_G := mm_in (mt_3 (List.mem_of_getElem? (l := tables_1_3) (i := 95) (by decide +kernel))) rfl
theorem mw_65 : Jvm.Cond.initialized "ServerLine$Nearest" ∈ mm_G := mm_in (mt_1 (List.mem_of_getElem? (l := tables_1_1) (i := 10) (by decide +kernel))) rfl
theorem wb_X5_nearestTo : mm_CB yX5_nearestTo cX5_nearestTo 4 (some .int) 1 := ⟨mw_630, mw_65, ⟨by decide, by decide⟩, by decide +kernel, by decide⟩
theorem mw_627 : Jvm.Cond.methodLink "ServerLine$Nearest" (25 : Nat) ({ cls := "ServerLine$Nearest", name := "nearestTo", desc := "(I)I" } : Jvm.MethodName) ∈ mm_G := mm_in (mt_3 (List.mem_of_getElem? (l := tables_1_3) (i := 92) (by decide +kernel))) rfl
theorem mw_629 : Jvm.Cond.instanceMethod ({ cls := "ServerLine$Nearest", name := "nearestTo", desc := "(I)I" } : Jvm.MethodName) ∈ mm_G := mm_in (mt_3 (List.mem_of_getElem? (l := tables_1_3) (i := 94) (by decide +kernel))) rfl
theorem mw_10 : Cond.selects "ServerLine$Nearest" ⟨"ServerLine$Nearest", "nearestTo", "(I)I"⟩ ⟨"ServerLine$Nearest", "nearestTo", "(I)I"⟩ ∈ mm_G := mm_in (List.mem_append_left _ (List.mem_of_getElem? (i := 10) (by decide +kernel))) rfl
theorem wv_X5_25 : mm_VW RX5 25 yX5_nearestTo := ⟨mw_627, mw_629, mw_10⟩
theorem mw_599 : Jvm.Cond.methodLink "ServerLine$Rule" (37 : Nat) ({ cls := "java/lang/Math", name := "abs", desc := "(I)I" } : Jvm.MethodName) ∈ mm_G := mm_in (mt_3 (List.mem_of_getElem? (l := tables_1_3) (i := 64) (by decide +kernel))) rfl
theorem mw_598 : Jvm.Cond.code ({ cls := "ServerLine$Rule", name := "send", desc := "(II)V" } : Jvm.MethodName) prog_9_method_5_code (3 : Nat) (Option.none : Option Jvm.ClassFile.FieldType) ∈ mm_G := mm_in (mt_3 (List.mem_of_getElem? (l := tables_1_3) (i := 63) (by decide +kernel))) rfl
theorem wb_X7_send : mm_CB yX7_send cX7_send 3 none 2 := ⟨mw_598, mw_60, ⟨by decide, by decide⟩, by decide +kernel, by decide⟩
theorem mw_632 : Jvm.Cond.methodLink "ServerLine$Nearest" (29 : Nat) ({ cls := "ServerLine$Nearest", name := "send", desc := "(II)V" } : Jvm.MethodName) ∈ mm_G := mm_in (mt_3 (List.mem_of_getElem? (l := tables_1_3) (i := 97) (by decide +kernel))) rfl
theorem mw_633 : Jvm.Cond.sameMethod "ServerLine$Nearest" "ServerLine$Rule" "send" "(II)V" ∈ mm_G := mm_in (mt_3 (List.mem_of_getElem? (l := tables_1_3) (i := 98) (by decide +kernel))) rfl
theorem mw_634 : Jvm.Cond.selects "ServerLine$Nearest" ({ cls := "ServerLine$Nearest", name := "send", desc := "(II)V" } : Jvm.MethodName) ({ cls := "ServerLine$Rule", name := "send", desc := "(II)V" } : Jvm.MethodName) ∈ mm_G := mm_in (mt_3 (List.mem_of_getElem? (l := tables_1_3) (i := 99) (by decide +kernel))) rfl
theorem mw_597 : Jvm.Cond.instanceMethod ({ cls := "ServerLine$Rule", name := "send", desc := "(II)V" } : Jvm.MethodName) ∈ mm_G := mm_in (mt_3 (List.mem_of_getElem? (l := tables_1_3) (i := 62) (by decide +kernel))) rfl
theorem wu_X5_29_X5 : mm_UW RX5 29 RX5 ⟨"ServerLine$Nearest", "send", "(II)V"⟩ yX7_send := ⟨mw_632, mw_633, mw_634, mw_597, rfl⟩
theorem mw_626 : Jvm.Cond.code ({ cls := "ServerLine$Nearest", name := "meet", desc := "(II)V" } : Jvm.MethodName) prog_7_method_2_code (5 : Nat) (Option.none : Option Jvm.ClassFile.FieldType) ∈ mm_G := mm_in (mt_3 (List.mem_of_getElem? (l := tables_1_3) (i := 91) (by decide +kernel))) rfl
theorem wb_X5_meet : mm_CB yX5_meet cX5_meet 5 none 2 := ⟨mw_626, mw_65, ⟨by decide, by decide⟩, by decide +kernel, by decide⟩
theorem mw_574 : Jvm.Cond.methodLink "ServerLine$Row" (62 : Nat) ({ cls := "ServerLine$Rule", name := "meet", desc := "(II)V" } : Jvm.MethodName) ∈ mm_G := mm_in (mt_3 (List.mem_of_getElem? (l := tables_1_3) (i := 39) (by decide +kernel))) rfl
theorem mw_576 : Jvm.Cond.sameMethod "ServerLine$Rule" "ServerLine$Rule" "meet" "(II)V" ∈ mm_G := mm_in (mt_3 (List.mem_of_getElem? (l := tables_1_3) (i := 41) (by decide +kernel))) rfl
theorem mw_644 : Jvm.Cond.selects "ServerLine$Nearest" ({ cls := "ServerLine$Rule", name := "meet", desc := "(II)V" } : Jvm.MethodName) ({ cls := "ServerLine$Nearest", name := "meet", desc := "(II)V" } : Jvm.MethodName) ∈ mm_G := mm_in (mt_3 (List.mem_of_getElem? (l := tables_1_3) (i := 109) (by decide +kernel))) rfl
theorem mw_624 : Jvm.Cond.instanceMethod ({ cls := "ServerLine$Nearest", name := "meet", desc := "(II)V" } : Jvm.MethodName) ∈ mm_G := mm_in (mt_3 (List.mem_of_getElem? (l := tables_1_3) (i := 89) (by decide +kernel))) rfl
theorem wu_X6_62_X5 : mm_UW RX6 62 RX5 ⟨"ServerLine$Rule", "meet", "(II)V"⟩ yX5_meet := ⟨mw_574, mw_576, mw_644, mw_624, rfl⟩
theorem mw_254 : Jvm.Cond.fieldLink "ServerLine$Row" (66 : Nat) "ServerLine$Rule" "spent" "I" ∈ mm_G := mm_in (mt_1 (List.mem_of_getElem? (l := tables_1_1) (i := 199) (by decide +kernel))) rfl
theorem fl_X6_66_X5 : mm_FL RX6 66 "ServerLine$Rule" 5 RX5 TX5 5 2 := ⟨rfl, by decide, uw_X5, mw_254, Or.inl rfl⟩
theorem mw_515 : Jvm.Cond.code ({ cls := "ServerLine$Row", name := "lead", desc := "(LServerLine$Rule;I)I" } : Jvm.MethodName) prog_8_method_4_code (5 : Nat) (Option.some Jvm.ClassFile.FieldType.int) ∈ mm_G := mm_in (mt_2 (List.mem_of_getElem? (l := tables_1_2) (i := 220) (by decide +kernel))) rfl
theorem wb_X6_lead : mm_CB yX6_lead cX6_lead 5 (some .int) 2 := ⟨mw_515, mw_59, ⟨by decide, by decide⟩, by decide +kernel, by decide⟩
theorem mw_512 : Jvm.Cond.methodLink "ServerLine" (131 : Nat) ({ cls := "ServerLine$Row", name := "lead", desc := "(LServerLine$Rule;I)I" } : Jvm.MethodName) ∈ mm_G := mm_in (mt_2 (List.mem_of_getElem? (l := tables_1_2) (i := 217) (by decide +kernel))) rfl
theorem mw_513 : Jvm.Cond.instanceMethod ({ cls := "ServerLine$Row", name := "lead", desc := "(LServerLine$Rule;I)I" } : Jvm.MethodName) ∈ mm_G := mm_in (mt_2 (List.mem_of_getElem? (l := tables_1_2) (i := 218) (by decide +kernel))) rfl
theorem mw_514 : Jvm.Cond.selects "ServerLine$Row" ({ cls := "ServerLine$Row", name := "lead", desc := "(LServerLine$Rule;I)I" } : Jvm.MethodName) ({ cls := "ServerLine$Row", name := "lead", desc := "(LServerLine$Rule;I)I" } : Jvm.MethodName) ∈ mm_G := mm_in (mt_2 (List.mem_of_getElem? (l := tables_1_2) (i := 219) (by decide +kernel))) rfl
theorem wv_X11_131 : mm_VW RX11 131 yX6_lead := ⟨mw_512, mw_513, mw_514⟩
theorem mw_297 : Jvm.Cond.laysFinal "ServerLine$Both" "ServerLine$Rule" "line" "LServerLine$Line;" ∈ mm_G := mm_in (mt_2 (List.mem_of_getElem? (l := tables_1_2) (i := 2) (by decide +kernel))) rfl
theorem mw_298 : Jvm.Cond.laysFinal "ServerLine$Both" "ServerLine$Rule" "at" "[I" ∈ mm_G := mm_in (mt_2 (List.mem_of_getElem? (l := tables_1_2) (i := 3) (by decide +kernel))) rfl
theorem mw_299 : Jvm.Cond.lays "ServerLine$Both" "ServerLine$Rule" "spent" "I" ∈ mm_G := mm_in (mt_2 (List.mem_of_getElem? (l := tables_1_2) (i := 4) (by decide +kernel))) rfl
theorem mw_300 : Jvm.Cond.lays "ServerLine$Both" "ServerLine$Rule" "gone" "I" ∈ mm_G := mm_in (mt_2 (List.mem_of_getElem? (l := tables_1_2) (i := 5) (by decide +kernel))) rfl
theorem uw_X1 : ∀ w ∈ u_ws RX1 TX1 4, w ∈ mm_G := by
  show ∀ w ∈ ([u_lay RX1 TX1 0, u_lay RX1 TX1 1, u_lay RX1 TX1 2, u_lay RX1 TX1 3] : List Cond), w ∈ mm_G
  exact List.forall_mem_cons.mpr ⟨mw_297, List.forall_mem_cons.mpr ⟨mw_298, List.forall_mem_cons.mpr ⟨mw_299, List.forall_mem_cons.mpr ⟨mw_300, fun _ h => absurd h List.not_mem_nil⟩⟩⟩⟩
theorem fl_X7_9_X1 : mm_FL RX7 9 "ServerLine$Rule" 1 RX1 TX1 4 1 := ⟨rfl, by decide, uw_X1, mw_234, Or.inl rfl⟩
theorem fl_X7_19_X1 : mm_FL RX7 19 "ServerLine$Rule" 1 RX1 TX1 4 0 := ⟨rfl, by decide, uw_X1, mw_223, Or.inl rfl⟩
theorem fl_X7_34_X1 : mm_FL RX7 34 "ServerLine$Rule" 1 RX1 TX1 4 2 := ⟨rfl, by decide, uw_X1, mw_248, Or.inl rfl⟩
theorem fl_X7_15_X1 : mm_FL RX7 15 "ServerLine$Rule" 1 RX1 TX1 4 3 := ⟨rfl, by decide, uw_X1, mw_258, Or.inl rfl⟩
theorem mw_1203 : Jvm.Cond.selects "ServerLine$Both" ({ cls := "ServerLine$Rule", name := "standAtStart", desc := "()V" } : Jvm.MethodName) ({ cls := "ServerLine$Rule", name := "standAtStart", desc := "()V" } : Jvm.MethodName) ∈ mm_G := mm_in (mt_5 (List.mem_of_getElem? (l := tables_1_5) (i := 188) (by decide +kernel))) rfl
theorem wu_X7_23_X1 : mm_UW RX7 23 RX1 yX7_standAtStart yX7_standAtStart := ⟨mw_559, mw_1201, mw_1203, mw_534, rfl⟩
theorem mw_523 : Jvm.Cond.selects "ServerLine$Both" ({ cls := "ServerLine$Rule", name := "begin", desc := "()V" } : Jvm.MethodName) ({ cls := "ServerLine$Rule", name := "begin", desc := "()V" } : Jvm.MethodName) ∈ mm_G := mm_in (mt_2 (List.mem_of_getElem? (l := tables_1_2) (i := 228) (by decide +kernel))) rfl
theorem wu_X6_57_X1 : mm_UW RX6 57 RX1 yX7_begin yX7_begin := ⟨mw_519, mw_521, mw_523, mw_520, rfl⟩
theorem mw_225 : Jvm.Cond.sameField "ServerLine$Both" "ServerLine$Rule" "line" "LServerLine$Line;" ∈ mm_G := mm_in (mt_1 (List.mem_of_getElem? (l := tables_1_1) (i := 170) (by decide +kernel))) rfl
theorem mw_224 : Jvm.Cond.fieldLink "ServerLine$Both" (9 : Nat) "ServerLine$Both" "line" "LServerLine$Line;" ∈ mm_G := mm_in (mt_1 (List.mem_of_getElem? (l := tables_1_1) (i := 169) (by decide +kernel))) rfl
theorem fl_X1_9_X1 : mm_FL RX1 9 "ServerLine$Both" 1 RX1 TX1 4 0 := ⟨rfl, by decide, uw_X1, mw_224, Or.inr mw_225⟩
theorem mw_121 : Jvm.Cond.fieldLink "ServerLine$Both" (15 : Nat) "ServerLine$Line" "places" "[I" ∈ mm_G := mm_in (mt_1 (List.mem_of_getElem? (l := tables_1_1) (i := 66) (by decide +kernel))) rfl
theorem fl_X1_15_X3 : mm_FL RX1 15 "ServerLine$Line" 3 RX3 TX3 8 4 := ⟨rfl, by decide, uw_X3, mw_121, Or.inl rfl⟩
theorem mw_106 : Jvm.Cond.fieldLink "ServerLine$Both" (49 : Nat) "ServerLine$Line" "serverCount" "I" ∈ mm_G := mm_in (mt_1 (List.mem_of_getElem? (l := tables_1_1) (i := 51) (by decide +kernel))) rfl
theorem fl_X1_49_X3 : mm_FL RX1 49 "ServerLine$Line" 3 RX3 TX3 8 1 := ⟨rfl, by decide, uw_X3, mw_106, Or.inl rfl⟩
theorem mw_236 : Jvm.Cond.sameField "ServerLine$Both" "ServerLine$Rule" "at" "[I" ∈ mm_G := mm_in (mt_1 (List.mem_of_getElem? (l := tables_1_1) (i := 181) (by decide +kernel))) rfl
theorem mw_235 : Jvm.Cond.fieldLink "ServerLine$Both" (36 : Nat) "ServerLine$Both" "at" "[I" ∈ mm_G := mm_in (mt_1 (List.mem_of_getElem? (l := tables_1_1) (i := 180) (by decide +kernel))) rfl
theorem fl_X1_36_X1 : mm_FL RX1 36 "ServerLine$Both" 1 RX1 TX1 4 1 := ⟨rfl, by decide, uw_X1, mw_235, Or.inr mw_236⟩
theorem mw_606 : Jvm.Cond.code ({ cls := "ServerLine$Both", name := "isServed", desc := "(I)Z" } : Jvm.MethodName) prog_3_method_3_code (3 : Nat) (Option.some Jvm.ClassFile.FieldType.boolean) ∈ mm_G := mm_in (mt_3 (List.mem_of_getElem? (l := tables_1_3) (i := 71) (by decide +kernel))) rfl
theorem mw_64 : Jvm.Cond.initialized "ServerLine$Both" ∈ mm_G := mm_in (mt_1 (List.mem_of_getElem? (l := tables_1_1) (i := 9) (by decide +kernel))) rfl
theorem wb_X1_isServed : mm_CB yX1_isServed cX1_isServed 3 (some .boolean) 1 := ⟨mw_606, mw_64, ⟨by decide, by decide⟩, by decide +kernel, by decide⟩
theorem mw_603 : Jvm.Cond.methodLink "ServerLine$Both" (21 : Nat) ({ cls := "ServerLine$Both", name := "isServed", desc := "(I)Z" } : Jvm.MethodName) ∈ mm_G := mm_in (mt_3 (List.mem_of_getElem? (l := tables_1_3) (i := 68) (by decide +kernel))) rfl
theorem mw_605 : Jvm.Cond.instanceMethod ({ cls := "ServerLine$Both", name := "isServed", desc := "(I)Z" } : Jvm.MethodName) ∈ mm_G := mm_in (mt_3 (List.mem_of_getElem? (l := tables_1_3) (i := 70) (by decide +kernel))) rfl
theorem mw_7 : Cond.selects "ServerLine$Both" ⟨"ServerLine$Both", "isServed", "(I)Z"⟩ ⟨"ServerLine$Both", "isServed", "(I)Z"⟩ ∈ mm_G := mm_in (List.mem_append_left _ (List.mem_of_getElem? (i := 7) (by decide +kernel))) rfl
theorem wv_X1_21 : mm_VW RX1 21 yX1_isServed := ⟨mw_603, mw_605, mw_7⟩
theorem mw_610 : Jvm.Cond.code ({ cls := "ServerLine$Both", name := "nearestBelow", desc := "(I)I" } : Jvm.MethodName) prog_3_method_4_code (4 : Nat) (Option.some Jvm.ClassFile.FieldType.int) ∈ mm_G := mm_in (mt_3 (List.mem_of_getElem? (l := tables_1_3) (i := 75) (by decide +kernel))) rfl
theorem wb_X1_nearestBelow : mm_CB yX1_nearestBelow cX1_nearestBelow 4 (some .int) 1 := ⟨mw_610, mw_64, ⟨by decide, by decide⟩, by decide +kernel, by decide⟩
theorem mw_607 : Jvm.Cond.methodLink "ServerLine$Both" (29 : Nat) ({ cls := "ServerLine$Both", name := "nearestBelow", desc := "(I)I" } : Jvm.MethodName) ∈ mm_G := mm_in (mt_3 (List.mem_of_getElem? (l := tables_1_3) (i := 72) (by decide +kernel))) rfl
theorem mw_609 : Jvm.Cond.instanceMethod ({ cls := "ServerLine$Both", name := "nearestBelow", desc := "(I)I" } : Jvm.MethodName) ∈ mm_G := mm_in (mt_3 (List.mem_of_getElem? (l := tables_1_3) (i := 74) (by decide +kernel))) rfl
theorem mw_8 : Cond.selects "ServerLine$Both" ⟨"ServerLine$Both", "nearestBelow", "(I)I"⟩ ⟨"ServerLine$Both", "nearestBelow", "(I)I"⟩ ∈ mm_G := mm_in (List.mem_append_left _ (List.mem_of_getElem? (i := 8) (by decide +kernel))) rfl
theorem wv_X1_29 : mm_VW RX1 29 yX1_nearestBelow := ⟨mw_607, mw_609, mw_8⟩
theorem mw_614 : Jvm.Cond.code ({ cls := "ServerLine$Both", name := "nearestAbove", desc := "(I)I" } : Jvm.MethodName) prog_3_method_5_code (4 : Nat) (Option.some Jvm.ClassFile.FieldType.int) ∈ mm_G := mm_in (mt_3 (List.mem_of_getElem? (l := tables_1_3) (i := 79) (by decide +kernel))) rfl
theorem wb_X1_nearestAbove : mm_CB yX1_nearestAbove cX1_nearestAbove 4 (some .int) 1 := ⟨mw_614, mw_64, ⟨by decide, by decide⟩, by decide +kernel, by decide⟩
theorem mw_611 : Jvm.Cond.methodLink "ServerLine$Both" (33 : Nat) ({ cls := "ServerLine$Both", name := "nearestAbove", desc := "(I)I" } : Jvm.MethodName) ∈ mm_G := mm_in (mt_3 (List.mem_of_getElem? (l := tables_1_3) (i := 76) (by decide +kernel))) rfl
theorem mw_613 : Jvm.Cond.instanceMethod ({ cls := "ServerLine$Both", name := "nearestAbove", desc := "(I)I" } : Jvm.MethodName) ∈ mm_G := mm_in (mt_3 (List.mem_of_getElem? (l := tables_1_3) (i := 78) (by decide +kernel))) rfl
theorem mw_9 : Cond.selects "ServerLine$Both" ⟨"ServerLine$Both", "nearestAbove", "(I)I"⟩ ⟨"ServerLine$Both", "nearestAbove", "(I)I"⟩ ∈ mm_G := mm_in (List.mem_append_left _ (List.mem_of_getElem? (i := 9) (by decide +kernel))) rfl
theorem wv_X1_33 : mm_VW RX1 33 yX1_nearestAbove := ⟨mw_611, mw_613, mw_9⟩
theorem mw_616 : Jvm.Cond.methodLink "ServerLine$Both" (45 : Nat) ({ cls := "ServerLine$Both", name := "send", desc := "(II)V" } : Jvm.MethodName) ∈ mm_G := mm_in (mt_3 (List.mem_of_getElem? (l := tables_1_3) (i := 81) (by decide +kernel))) rfl
theorem mw_617 : Jvm.Cond.sameMethod "ServerLine$Both" "ServerLine$Rule" "send" "(II)V" ∈ mm_G := mm_in (mt_3 (List.mem_of_getElem? (l := tables_1_3) (i := 82) (by decide +kernel))) rfl
theorem mw_618 : Jvm.Cond.selects "ServerLine$Both" ({ cls := "ServerLine$Both", name := "send", desc := "(II)V" } : Jvm.MethodName) ({ cls := "ServerLine$Rule", name := "send", desc := "(II)V" } : Jvm.MethodName) ∈ mm_G := mm_in (mt_3 (List.mem_of_getElem? (l := tables_1_3) (i := 83) (by decide +kernel))) rfl
theorem wu_X1_45_X1 : mm_UW RX1 45 RX1 ⟨"ServerLine$Both", "send", "(II)V"⟩ yX7_send := ⟨mw_616, mw_617, mw_618, mw_597, rfl⟩
theorem mw_615 : Jvm.Cond.methodLink "ServerLine$Both" (39 : Nat) ({ cls := "java/lang/Math", name := "min", desc := "(II)I" } : Jvm.MethodName) ∈ mm_G := mm_in (mt_3 (List.mem_of_getElem? (l := tables_1_3) (i := 80) (by decide +kernel))) rfl
theorem mw_260 : Jvm.Cond.sameField "ServerLine$Both" "ServerLine$Rule" "gone" "I" ∈ mm_G := mm_in (mt_1 (List.mem_of_getElem? (l := tables_1_1) (i := 205) (by decide +kernel))) rfl
theorem mw_259 : Jvm.Cond.fieldLink "ServerLine$Both" (25 : Nat) "ServerLine$Both" "gone" "I" ∈ mm_G := mm_in (mt_1 (List.mem_of_getElem? (l := tables_1_1) (i := 204) (by decide +kernel))) rfl
theorem fl_X1_25_X1 : mm_FL RX1 25 "ServerLine$Both" 1 RX1 TX1 4 3 := ⟨rfl, by decide, uw_X1, mw_259, Or.inr mw_260⟩
theorem mw_602 : Jvm.Cond.code ({ cls := "ServerLine$Both", name := "meet", desc := "(II)V" } : Jvm.MethodName) prog_3_method_2_code (7 : Nat) (Option.none : Option Jvm.ClassFile.FieldType) ∈ mm_G := mm_in (mt_3 (List.mem_of_getElem? (l := tables_1_3) (i := 67) (by decide +kernel))) rfl
theorem wb_X1_meet : mm_CB yX1_meet cX1_meet 7 none 2 := ⟨mw_602, mw_64, ⟨by decide, by decide⟩, by decide +kernel, by decide⟩
theorem mw_600 : Jvm.Cond.selects "ServerLine$Both" ({ cls := "ServerLine$Rule", name := "meet", desc := "(II)V" } : Jvm.MethodName) ({ cls := "ServerLine$Both", name := "meet", desc := "(II)V" } : Jvm.MethodName) ∈ mm_G := mm_in (mt_3 (List.mem_of_getElem? (l := tables_1_3) (i := 65) (by decide +kernel))) rfl
theorem mw_601 : Jvm.Cond.instanceMethod ({ cls := "ServerLine$Both", name := "meet", desc := "(II)V" } : Jvm.MethodName) ∈ mm_G := mm_in (mt_3 (List.mem_of_getElem? (l := tables_1_3) (i := 66) (by decide +kernel))) rfl
theorem wu_X6_62_X1 : mm_UW RX6 62 RX1 ⟨"ServerLine$Rule", "meet", "(II)V"⟩ yX1_meet := ⟨mw_574, mw_576, mw_600, mw_601, rfl⟩
theorem fl_X6_66_X1 : mm_FL RX6 66 "ServerLine$Rule" 1 RX1 TX1 4 2 := ⟨rfl, by decide, uw_X1, mw_254, Or.inl rfl⟩
theorem mw_276 : Jvm.Cond.laysFinal "ServerLine$Work" "ServerLine$Rule" "line" "LServerLine$Line;" ∈ mm_G := mm_in (mt_1 (List.mem_of_getElem? (l := tables_1_1) (i := 221) (by decide +kernel))) rfl
theorem mw_278 : Jvm.Cond.laysFinal "ServerLine$Work" "ServerLine$Rule" "at" "[I" ∈ mm_G := mm_in (mt_1 (List.mem_of_getElem? (l := tables_1_1) (i := 223) (by decide +kernel))) rfl
theorem mw_280 : Jvm.Cond.lays "ServerLine$Work" "ServerLine$Rule" "spent" "I" ∈ mm_G := mm_in (mt_1 (List.mem_of_getElem? (l := tables_1_1) (i := 225) (by decide +kernel))) rfl
theorem mw_282 : Jvm.Cond.lays "ServerLine$Work" "ServerLine$Rule" "gone" "I" ∈ mm_G := mm_in (mt_1 (List.mem_of_getElem? (l := tables_1_1) (i := 227) (by decide +kernel))) rfl
theorem mw_264 : Jvm.Cond.laysFinal "ServerLine$Work" "ServerLine$Work" "late" "[I" ∈ mm_G := mm_in (mt_1 (List.mem_of_getElem? (l := tables_1_1) (i := 209) (by decide +kernel))) rfl
theorem mw_266 : Jvm.Cond.lays "ServerLine$Work" "ServerLine$Work" "lateCount" "I" ∈ mm_G := mm_in (mt_1 (List.mem_of_getElem? (l := tables_1_1) (i := 211) (by decide +kernel))) rfl
theorem mw_268 : Jvm.Cond.lays "ServerLine$Work" "ServerLine$Work" "standing" "I" ∈ mm_G := mm_in (mt_1 (List.mem_of_getElem? (l := tables_1_1) (i := 213) (by decide +kernel))) rfl
theorem mw_270 : Jvm.Cond.lays "ServerLine$Work" "ServerLine$Work" "settled" "[I" ∈ mm_G := mm_in (mt_1 (List.mem_of_getElem? (l := tables_1_1) (i := 215) (by decide +kernel))) rfl
theorem mw_272 : Jvm.Cond.lays "ServerLine$Work" "ServerLine$Work" "spare" "[I" ∈ mm_G := mm_in (mt_1 (List.mem_of_getElem? (l := tables_1_1) (i := 217) (by decide +kernel))) rfl
theorem mw_274 : Jvm.Cond.laysFinal "ServerLine$Work" "ServerLine$Work" "aim" "[I" ∈ mm_G := mm_in (mt_1 (List.mem_of_getElem? (l := tables_1_1) (i := 219) (by decide +kernel))) rfl
theorem uw_X9 : ∀ w ∈ u_ws RX9 TX9 10, w ∈ mm_G := by
  show ∀ w ∈ ([u_lay RX9 TX9 0, u_lay RX9 TX9 1, u_lay RX9 TX9 2, u_lay RX9 TX9 3, u_lay RX9 TX9 4, u_lay RX9 TX9 5, u_lay RX9 TX9 6, u_lay RX9 TX9 7, u_lay RX9 TX9 8, u_lay RX9 TX9 9] : List Cond), w ∈ mm_G
  exact List.forall_mem_cons.mpr ⟨mw_276, List.forall_mem_cons.mpr ⟨mw_278, List.forall_mem_cons.mpr ⟨mw_280, List.forall_mem_cons.mpr ⟨mw_282, List.forall_mem_cons.mpr ⟨mw_264, List.forall_mem_cons.mpr ⟨mw_266, List.forall_mem_cons.mpr ⟨mw_268, List.forall_mem_cons.mpr ⟨mw_270, List.forall_mem_cons.mpr ⟨mw_272, List.forall_mem_cons.mpr ⟨mw_274, fun _ h => absurd h List.not_mem_nil⟩⟩⟩⟩⟩⟩⟩⟩⟩⟩
theorem fl_X7_9_X9 : mm_FL RX7 9 "ServerLine$Rule" 8 RX9 TX9 10 1 := ⟨rfl, by decide, uw_X9, mw_234, Or.inl rfl⟩
theorem fl_X7_19_X9 : mm_FL RX7 19 "ServerLine$Rule" 8 RX9 TX9 10 0 := ⟨rfl, by decide, uw_X9, mw_223, Or.inl rfl⟩
theorem fl_X7_34_X9 : mm_FL RX7 34 "ServerLine$Rule" 8 RX9 TX9 10 2 := ⟨rfl, by decide, uw_X9, mw_248, Or.inl rfl⟩
theorem fl_X7_15_X9 : mm_FL RX7 15 "ServerLine$Rule" 8 RX9 TX9 10 3 := ⟨rfl, by decide, uw_X9, mw_258, Or.inl rfl⟩
theorem mw_533 : Jvm.Cond.methodLink "ServerLine$Work" (66 : Nat) ({ cls := "ServerLine$Rule", name := "standAtStart", desc := "()V" } : Jvm.MethodName) ∈ mm_G := mm_in (mt_2 (List.mem_of_getElem? (l := tables_1_2) (i := 238) (by decide +kernel))) rfl
theorem mw_284 : Jvm.Cond.superclass "ServerLine$Work" "ServerLine$Rule" ∈ mm_G := mm_in (mt_1 (List.mem_of_getElem? (l := tables_1_1) (i := 229) (by decide +kernel))) rfl
theorem wp_X9_66 : mm_PW RX9 66 yX7_standAtStart := ⟨mw_533, mw_1201, mw_284, mw_534, by decide⟩
theorem mw_229 : Jvm.Cond.sameField "ServerLine$Work" "ServerLine$Rule" "line" "LServerLine$Line;" ∈ mm_G := mm_in (mt_1 (List.mem_of_getElem? (l := tables_1_1) (i := 174) (by decide +kernel))) rfl
theorem mw_228 : Jvm.Cond.fieldLink "ServerLine$Work" (34 : Nat) "ServerLine$Work" "line" "LServerLine$Line;" ∈ mm_G := mm_in (mt_1 (List.mem_of_getElem? (l := tables_1_1) (i := 173) (by decide +kernel))) rfl
theorem fl_X9_34_X9 : mm_FL RX9 34 "ServerLine$Work" 8 RX9 TX9 10 0 := ⟨rfl, by decide, uw_X9, mw_228, Or.inr mw_229⟩
theorem mw_543 : Jvm.Cond.code ({ cls := "ServerLine$Line", name := "standingOf", desc := "(III)I" } : Jvm.MethodName) prog_5_method_8_code (4 : Nat) (Option.some Jvm.ClassFile.FieldType.int) ∈ mm_G := mm_in (mt_3 (List.mem_of_getElem? (l := tables_1_3) (i := 8) (by decide +kernel))) rfl
theorem wb_X3_standingOf : mm_CB yX3_standingOf cX3_standingOf 4 (some .int) 3 := ⟨mw_543, mw_57, ⟨by decide, by decide⟩, by decide +kernel, by decide⟩
theorem mw_540 : Jvm.Cond.methodLink "ServerLine$Line" (51 : Nat) ({ cls := "ServerLine$Line", name := "standingOf", desc := "(III)I" } : Jvm.MethodName) ∈ mm_G := mm_in (mt_3 (List.mem_of_getElem? (l := tables_1_3) (i := 5) (by decide +kernel))) rfl
theorem mw_541 : Jvm.Cond.instanceMethod ({ cls := "ServerLine$Line", name := "standingOf", desc := "(III)I" } : Jvm.MethodName) ∈ mm_G := mm_in (mt_3 (List.mem_of_getElem? (l := tables_1_3) (i := 6) (by decide +kernel))) rfl
theorem mw_542 : Jvm.Cond.selects "ServerLine$Line" ({ cls := "ServerLine$Line", name := "standingOf", desc := "(III)I" } : Jvm.MethodName) ({ cls := "ServerLine$Line", name := "standingOf", desc := "(III)I" } : Jvm.MethodName) ∈ mm_G := mm_in (mt_3 (List.mem_of_getElem? (l := tables_1_3) (i := 7) (by decide +kernel))) rfl
theorem wv_X3_51 : mm_VW RX3 51 yX3_standingOf := ⟨mw_540, mw_541, mw_542⟩
theorem mw_539 : Jvm.Cond.code ({ cls := "ServerLine$Line", name := "startStanding", desc := "()I" } : Jvm.MethodName) prog_5_method_9_code (1 : Nat) (Option.some Jvm.ClassFile.FieldType.int) ∈ mm_G := mm_in (mt_3 (List.mem_of_getElem? (l := tables_1_3) (i := 4) (by decide +kernel))) rfl
theorem wb_X3_startStanding : mm_CB yX3_startStanding cX3_startStanding 1 (some .int) 0 := ⟨mw_539, mw_57, ⟨by decide, by decide⟩, by decide +kernel, by decide⟩
theorem mw_536 : Jvm.Cond.methodLink "ServerLine$Work" (67 : Nat) ({ cls := "ServerLine$Line", name := "startStanding", desc := "()I" } : Jvm.MethodName) ∈ mm_G := mm_in (mt_3 (List.mem_of_getElem? (l := tables_1_3) (i := 1) (by decide +kernel))) rfl
theorem mw_537 : Jvm.Cond.instanceMethod ({ cls := "ServerLine$Line", name := "startStanding", desc := "()I" } : Jvm.MethodName) ∈ mm_G := mm_in (mt_3 (List.mem_of_getElem? (l := tables_1_3) (i := 2) (by decide +kernel))) rfl
theorem mw_538 : Jvm.Cond.selects "ServerLine$Line" ({ cls := "ServerLine$Line", name := "startStanding", desc := "()I" } : Jvm.MethodName) ({ cls := "ServerLine$Line", name := "startStanding", desc := "()I" } : Jvm.MethodName) ∈ mm_G := mm_in (mt_3 (List.mem_of_getElem? (l := tables_1_3) (i := 3) (by decide +kernel))) rfl
theorem wv_X9_67 : mm_VW RX9 67 yX3_startStanding := ⟨mw_536, mw_537, mw_538⟩
theorem mw_219 : Jvm.Cond.fieldLink "ServerLine$Work" (71 : Nat) "ServerLine$Work" "standing" "I" ∈ mm_G := mm_in (mt_1 (List.mem_of_getElem? (l := tables_1_1) (i := 164) (by decide +kernel))) rfl
theorem fl_X9_71_X9 : mm_FL RX9 71 "ServerLine$Work" 8 RX9 TX9 10 6 := ⟨rfl, by decide, uw_X9, mw_219, Or.inl rfl⟩
theorem mw_218 : Jvm.Cond.fieldLink "ServerLine$Work" (74 : Nat) "ServerLine$Work" "lateCount" "I" ∈ mm_G := mm_in (mt_1 (List.mem_of_getElem? (l := tables_1_1) (i := 163) (by decide +kernel))) rfl
theorem fl_X9_74_X9 : mm_FL RX9 74 "ServerLine$Work" 8 RX9 TX9 10 5 := ⟨rfl, by decide, uw_X9, mw_218, Or.inl rfl⟩
theorem mw_532 : Jvm.Cond.code ({ cls := "ServerLine$Work", name := "standAtStart", desc := "()V" } : Jvm.MethodName) prog_11_method_3_code (1 : Nat) (Option.none : Option Jvm.ClassFile.FieldType) ∈ mm_G := mm_in (mt_2 (List.mem_of_getElem? (l := tables_1_2) (i := 237) (by decide +kernel))) rfl
theorem mw_61 : Jvm.Cond.initialized "ServerLine$Work" ∈ mm_G := mm_in (mt_1 (List.mem_of_getElem? (l := tables_1_1) (i := 6) (by decide +kernel))) rfl
theorem wb_X9_standAtStart : mm_CB yX9_standAtStart cX9_standAtStart 1 none 0 := ⟨mw_532, mw_61, ⟨by decide, by decide⟩, by decide +kernel, by decide⟩
theorem mw_529 : Jvm.Cond.methodLink "ServerLine$Work" (30 : Nat) ({ cls := "ServerLine$Work", name := "standAtStart", desc := "()V" } : Jvm.MethodName) ∈ mm_G := mm_in (mt_2 (List.mem_of_getElem? (l := tables_1_2) (i := 234) (by decide +kernel))) rfl
theorem mw_530 : Jvm.Cond.instanceMethod ({ cls := "ServerLine$Work", name := "standAtStart", desc := "()V" } : Jvm.MethodName) ∈ mm_G := mm_in (mt_2 (List.mem_of_getElem? (l := tables_1_2) (i := 235) (by decide +kernel))) rfl
theorem mw_531 : Jvm.Cond.selects "ServerLine$Work" ({ cls := "ServerLine$Work", name := "standAtStart", desc := "()V" } : Jvm.MethodName) ({ cls := "ServerLine$Work", name := "standAtStart", desc := "()V" } : Jvm.MethodName) ∈ mm_G := mm_in (mt_2 (List.mem_of_getElem? (l := tables_1_2) (i := 236) (by decide +kernel))) rfl
theorem wv_X9_30 : mm_VW RX9 30 yX9_standAtStart := ⟨mw_529, mw_530, mw_531⟩
theorem mw_117 : Jvm.Cond.fieldLink "ServerLine$Work" (38 : Nat) "ServerLine$Line" "crowdCount" "I" ∈ mm_G := mm_in (mt_1 (List.mem_of_getElem? (l := tables_1_1) (i := 62) (by decide +kernel))) rfl
theorem fl_X9_38_X3 : mm_FL RX9 38 "ServerLine$Line" 3 RX3 TX3 8 3 := ⟨rfl, by decide, uw_X3, mw_117, Or.inl rfl⟩
theorem mw_136 : Jvm.Cond.fieldLink "ServerLine$Work" (44 : Nat) "ServerLine$Line" "crowdStandings" "[I" ∈ mm_G := mm_in (mt_1 (List.mem_of_getElem? (l := tables_1_1) (i := 81) (by decide +kernel))) rfl
theorem fl_X9_44_X3 : mm_FL RX9 44 "ServerLine$Line" 3 RX3 TX3 8 7 := ⟨rfl, by decide, uw_X3, mw_136, Or.inl rfl⟩
theorem mw_105 : Jvm.Cond.fieldLink "ServerLine$Work" (47 : Nat) "ServerLine$Line" "serverCount" "I" ∈ mm_G := mm_in (mt_1 (List.mem_of_getElem? (l := tables_1_1) (i := 50) (by decide +kernel))) rfl
theorem fl_X9_47_X3 : mm_FL RX9 47 "ServerLine$Line" 3 RX3 TX3 8 1 := ⟨rfl, by decide, uw_X3, mw_105, Or.inl rfl⟩
theorem mw_222 : Jvm.Cond.fieldLink "ServerLine$Work" (18 : Nat) "ServerLine$Work" "aim" "[I" ∈ mm_G := mm_in (mt_1 (List.mem_of_getElem? (l := tables_1_1) (i := 167) (by decide +kernel))) rfl
theorem fl_X9_18_X9 : mm_FL RX9 18 "ServerLine$Work" 8 RX9 TX9 10 9 := ⟨rfl, by decide, uw_X9, mw_222, Or.inl rfl⟩
theorem mw_123 : Jvm.Cond.fieldLink "ServerLine$Work" (50 : Nat) "ServerLine$Line" "places" "[I" ∈ mm_G := mm_in (mt_1 (List.mem_of_getElem? (l := tables_1_1) (i := 68) (by decide +kernel))) rfl
theorem fl_X9_50_X3 : mm_FL RX9 50 "ServerLine$Line" 3 RX3 TX3 8 4 := ⟨rfl, by decide, uw_X3, mw_123, Or.inl rfl⟩
theorem mw_546 : Jvm.Cond.code ({ cls := "ServerLine$Line", name := "pointOf", desc := "(II)I" } : Jvm.MethodName) prog_5_method_10_code (2 : Nat) (Option.some Jvm.ClassFile.FieldType.int) ∈ mm_G := mm_in (mt_3 (List.mem_of_getElem? (l := tables_1_3) (i := 11) (by decide +kernel))) rfl
theorem wb_X3_pointOf : mm_CB yX3_pointOf cX3_pointOf 2 (some .int) 2 := ⟨mw_546, mw_57, ⟨by decide, by decide⟩, by decide +kernel, by decide⟩
theorem mw_544 : Jvm.Cond.methodLink "ServerLine$Work" (53 : Nat) ({ cls := "ServerLine$Line", name := "pointOf", desc := "(II)I" } : Jvm.MethodName) ∈ mm_G := mm_in (mt_3 (List.mem_of_getElem? (l := tables_1_3) (i := 9) (by decide +kernel))) rfl
theorem mw_545 : Jvm.Cond.static ({ cls := "ServerLine$Line", name := "pointOf", desc := "(II)I" } : Jvm.MethodName) ∈ mm_G := mm_in (mt_3 (List.mem_of_getElem? (l := tables_1_3) (i := 10) (by decide +kernel))) rfl
theorem ws_X9_53 : mm_SW RX9 53 yX3_pointOf := ⟨mw_544, mw_545⟩
theorem mw_220 : Jvm.Cond.fieldLink "ServerLine$Work" (9 : Nat) "ServerLine$Work" "settled" "[I" ∈ mm_G := mm_in (mt_1 (List.mem_of_getElem? (l := tables_1_1) (i := 165) (by decide +kernel))) rfl
theorem fl_X9_9_X9 : mm_FL RX9 9 "ServerLine$Work" 8 RX9 TX9 10 7 := ⟨rfl, by decide, uw_X9, mw_220, Or.inl rfl⟩
theorem mw_134 : Jvm.Cond.fieldLink "ServerLine$Work" (56 : Nat) "ServerLine$Line" "crowds" "[I" ∈ mm_G := mm_in (mt_1 (List.mem_of_getElem? (l := tables_1_1) (i := 79) (by decide +kernel))) rfl
theorem fl_X9_56_X3 : mm_FL RX9 56 "ServerLine$Line" 3 RX3 TX3 8 6 := ⟨rfl, by decide, uw_X3, mw_134, Or.inl rfl⟩
theorem mw_238 : Jvm.Cond.sameField "ServerLine$Work" "ServerLine$Rule" "at" "[I" ∈ mm_G := mm_in (mt_1 (List.mem_of_getElem? (l := tables_1_1) (i := 183) (by decide +kernel))) rfl
theorem mw_237 : Jvm.Cond.fieldLink "ServerLine$Work" (59 : Nat) "ServerLine$Work" "at" "[I" ∈ mm_G := mm_in (mt_1 (List.mem_of_getElem? (l := tables_1_1) (i := 182) (by decide +kernel))) rfl
theorem fl_X9_59_X9 : mm_FL RX9 59 "ServerLine$Work" 8 RX9 TX9 10 1 := ⟨rfl, by decide, uw_X9, mw_237, Or.inr mw_238⟩
theorem mw_551 : Jvm.Cond.methodLink "ServerLine$Line" (58 : Nat) ({ cls := "java/lang/Math", name := "abs", desc := "(I)I" } : Jvm.MethodName) ∈ mm_G := mm_in (mt_3 (List.mem_of_getElem? (l := tables_1_3) (i := 16) (by decide +kernel))) rfl
theorem mw_557 : Jvm.Cond.methodLink "ServerLine$Line" (67 : Nat) ({ cls := "java/lang/Math", name := "min", desc := "(II)I" } : Jvm.MethodName) ∈ mm_G := mm_in (mt_3 (List.mem_of_getElem? (l := tables_1_3) (i := 22) (by decide +kernel))) rfl
theorem mw_556 : Jvm.Cond.code ({ cls := "ServerLine$Line", name := "pairWays", desc := "(IIII)I" } : Jvm.MethodName) prog_5_method_14_code (6 : Nat) (Option.some Jvm.ClassFile.FieldType.int) ∈ mm_G := mm_in (mt_3 (List.mem_of_getElem? (l := tables_1_3) (i := 21) (by decide +kernel))) rfl
theorem wb_X3_pairWays : mm_CB yX3_pairWays cX3_pairWays 6 (some .int) 4 := ⟨mw_556, mw_57, ⟨by decide, by decide⟩, by decide +kernel, by decide⟩
theorem mw_554 : Jvm.Cond.methodLink "ServerLine$Line" (63 : Nat) ({ cls := "ServerLine$Line", name := "pairWays", desc := "(IIII)I" } : Jvm.MethodName) ∈ mm_G := mm_in (mt_3 (List.mem_of_getElem? (l := tables_1_3) (i := 19) (by decide +kernel))) rfl
theorem mw_555 : Jvm.Cond.static ({ cls := "ServerLine$Line", name := "pairWays", desc := "(IIII)I" } : Jvm.MethodName) ∈ mm_G := mm_in (mt_3 (List.mem_of_getElem? (l := tables_1_3) (i := 20) (by decide +kernel))) rfl
theorem ws_X3_63 : mm_SW RX3 63 yX3_pairWays := ⟨mw_554, mw_555⟩
theorem mw_550 : Jvm.Cond.code ({ cls := "ServerLine$Line", name := "leastWays", desc := "([I[I)I" } : Jvm.MethodName) prog_5_method_13_code (6 : Nat) (Option.some Jvm.ClassFile.FieldType.int) ∈ mm_G := mm_in (mt_3 (List.mem_of_getElem? (l := tables_1_3) (i := 15) (by decide +kernel))) rfl
theorem wb_X3_leastWays : mm_CB yX3_leastWays cX3_leastWays 6 (some .int) 2 := ⟨mw_550, mw_57, ⟨by decide, by decide⟩, by decide +kernel, by decide⟩
theorem mw_547 : Jvm.Cond.methodLink "ServerLine$Work" (62 : Nat) ({ cls := "ServerLine$Line", name := "leastWays", desc := "([I[I)I" } : Jvm.MethodName) ∈ mm_G := mm_in (mt_3 (List.mem_of_getElem? (l := tables_1_3) (i := 12) (by decide +kernel))) rfl
theorem mw_548 : Jvm.Cond.instanceMethod ({ cls := "ServerLine$Line", name := "leastWays", desc := "([I[I)I" } : Jvm.MethodName) ∈ mm_G := mm_in (mt_3 (List.mem_of_getElem? (l := tables_1_3) (i := 13) (by decide +kernel))) rfl
theorem mw_549 : Jvm.Cond.selects "ServerLine$Line" ({ cls := "ServerLine$Line", name := "leastWays", desc := "([I[I)I" } : Jvm.MethodName) ({ cls := "ServerLine$Line", name := "leastWays", desc := "([I[I)I" } : Jvm.MethodName) ∈ mm_G := mm_in (mt_3 (List.mem_of_getElem? (l := tables_1_3) (i := 14) (by decide +kernel))) rfl
theorem wv_X9_62 : mm_VW RX9 62 yX3_leastWays := ⟨mw_547, mw_548, mw_549⟩
theorem mw_528 : Jvm.Cond.code ({ cls := "ServerLine$Work", name := "begin", desc := "()V" } : Jvm.MethodName) prog_11_method_2_code (4 : Nat) (Option.none : Option Jvm.ClassFile.FieldType) ∈ mm_G := mm_in (mt_2 (List.mem_of_getElem? (l := tables_1_2) (i := 233) (by decide +kernel))) rfl
theorem wb_X9_begin : mm_CB yX9_begin cX9_begin 4 none 0 := ⟨mw_528, mw_61, ⟨by decide, by decide⟩, by decide +kernel, by decide⟩
theorem mw_526 : Jvm.Cond.selects "ServerLine$Work" ({ cls := "ServerLine$Rule", name := "begin", desc := "()V" } : Jvm.MethodName) ({ cls := "ServerLine$Work", name := "begin", desc := "()V" } : Jvm.MethodName) ∈ mm_G := mm_in (mt_2 (List.mem_of_getElem? (l := tables_1_2) (i := 231) (by decide +kernel))) rfl
theorem mw_527 : Jvm.Cond.instanceMethod ({ cls := "ServerLine$Work", name := "begin", desc := "()V" } : Jvm.MethodName) ∈ mm_G := mm_in (mt_2 (List.mem_of_getElem? (l := tables_1_2) (i := 232) (by decide +kernel))) rfl
theorem wu_X6_57_X9 : mm_UW RX6 57 RX9 yX7_begin yX9_begin := ⟨mw_519, mw_521, mw_526, mw_527, rfl⟩
theorem mw_217 : Jvm.Cond.fieldLink "ServerLine$Work" (27 : Nat) "ServerLine$Work" "late" "[I" ∈ mm_G := mm_in (mt_1 (List.mem_of_getElem? (l := tables_1_1) (i := 162) (by decide +kernel))) rfl
theorem fl_X9_27_X9 : mm_FL RX9 27 "ServerLine$Work" 8 RX9 TX9 10 4 := ⟨rfl, by decide, uw_X9, mw_217, Or.inl rfl⟩
theorem mw_221 : Jvm.Cond.fieldLink "ServerLine$Work" (15 : Nat) "ServerLine$Work" "spare" "[I" ∈ mm_G := mm_in (mt_1 (List.mem_of_getElem? (l := tables_1_1) (i := 166) (by decide +kernel))) rfl
theorem fl_X9_15_X9 : mm_FL RX9 15 "ServerLine$Work" 8 RX9 TX9 10 8 := ⟨rfl, by decide, uw_X9, mw_221, Or.inl rfl⟩
theorem mw_656 : Jvm.Cond.constant "ServerLine$Work" (80 : Nat) (2147483647 : Int32) ∈ mm_G := mm_in (mt_3 (List.mem_of_getElem? (l := tables_1_3) (i := 121) (by decide +kernel))) rfl
theorem mw_588 : Jvm.Cond.methodLink "ServerLine$Line" (54 : Nat) ({ cls := "ServerLine$Line", name := "pointOf", desc := "(II)I" } : Jvm.MethodName) ∈ mm_G := mm_in (mt_3 (List.mem_of_getElem? (l := tables_1_3) (i := 53) (by decide +kernel))) rfl
theorem ws_X3_54 : mm_SW RX3 54 yX3_pointOf := ⟨mw_588, mw_545⟩
theorem mw_587 : Jvm.Cond.code ({ cls := "ServerLine$Line", name := "moved", desc := "(III)I" } : Jvm.MethodName) prog_5_method_11_code (4 : Nat) (Option.some Jvm.ClassFile.FieldType.int) ∈ mm_G := mm_in (mt_3 (List.mem_of_getElem? (l := tables_1_3) (i := 52) (by decide +kernel))) rfl
theorem wb_X3_moved : mm_CB yX3_moved cX3_moved 4 (some .int) 3 := ⟨mw_587, mw_57, ⟨by decide, by decide⟩, by decide +kernel, by decide⟩
theorem mw_657 : Jvm.Cond.methodLink "ServerLine$Work" (81 : Nat) ({ cls := "ServerLine$Line", name := "moved", desc := "(III)I" } : Jvm.MethodName) ∈ mm_G := mm_in (mt_3 (List.mem_of_getElem? (l := tables_1_3) (i := 122) (by decide +kernel))) rfl
theorem mw_586 : Jvm.Cond.static ({ cls := "ServerLine$Line", name := "moved", desc := "(III)I" } : Jvm.MethodName) ∈ mm_G := mm_in (mt_3 (List.mem_of_getElem? (l := tables_1_3) (i := 51) (by decide +kernel))) rfl
theorem ws_X9_81 : mm_SW RX9 81 yX3_moved := ⟨mw_657, mw_586⟩
theorem mw_655 : Jvm.Cond.code ({ cls := "ServerLine$Work", name := "worthBehind", desc := "(II)I" } : Jvm.MethodName) prog_11_method_5_code (7 : Nat) (Option.some Jvm.ClassFile.FieldType.int) ∈ mm_G := mm_in (mt_3 (List.mem_of_getElem? (l := tables_1_3) (i := 120) (by decide +kernel))) rfl
theorem wb_X9_worthBehind : mm_CB yX9_worthBehind cX9_worthBehind 7 (some .int) 2 := ⟨mw_655, mw_61, ⟨by decide, by decide⟩, by decide +kernel, by decide⟩
theorem mw_652 : Jvm.Cond.methodLink "ServerLine$Work" (77 : Nat) ({ cls := "ServerLine$Work", name := "worthBehind", desc := "(II)I" } : Jvm.MethodName) ∈ mm_G := mm_in (mt_3 (List.mem_of_getElem? (l := tables_1_3) (i := 117) (by decide +kernel))) rfl
theorem mw_654 : Jvm.Cond.instanceMethod ({ cls := "ServerLine$Work", name := "worthBehind", desc := "(II)I" } : Jvm.MethodName) ∈ mm_G := mm_in (mt_3 (List.mem_of_getElem? (l := tables_1_3) (i := 119) (by decide +kernel))) rfl
theorem mw_14 : Cond.selects "ServerLine$Work" ⟨"ServerLine$Work", "worthBehind", "(II)I"⟩ ⟨"ServerLine$Work", "worthBehind", "(II)I"⟩ ∈ mm_G := mm_in (List.mem_append_left _ (List.mem_of_getElem? (i := 14) (by decide +kernel))) rfl
theorem wv_X9_77 : mm_VW RX9 77 yX9_worthBehind := ⟨mw_652, mw_654, mw_14⟩
theorem mw_592 : Jvm.Cond.code ({ cls := "ServerLine$Line", name := "wayOf", desc := "(III)I" } : Jvm.MethodName) prog_5_method_12_code (4 : Nat) (Option.some Jvm.ClassFile.FieldType.int) ∈ mm_G := mm_in (mt_3 (List.mem_of_getElem? (l := tables_1_3) (i := 57) (by decide +kernel))) rfl
theorem wb_X3_wayOf : mm_CB yX3_wayOf cX3_wayOf 4 (some .int) 3 := ⟨mw_592, mw_57, ⟨by decide, by decide⟩, by decide +kernel, by decide⟩
theorem mw_658 : Jvm.Cond.methodLink "ServerLine$Work" (85 : Nat) ({ cls := "ServerLine$Line", name := "wayOf", desc := "(III)I" } : Jvm.MethodName) ∈ mm_G := mm_in (mt_3 (List.mem_of_getElem? (l := tables_1_3) (i := 123) (by decide +kernel))) rfl
theorem mw_590 : Jvm.Cond.instanceMethod ({ cls := "ServerLine$Line", name := "wayOf", desc := "(III)I" } : Jvm.MethodName) ∈ mm_G := mm_in (mt_3 (List.mem_of_getElem? (l := tables_1_3) (i := 55) (by decide +kernel))) rfl
theorem mw_591 : Jvm.Cond.selects "ServerLine$Line" ({ cls := "ServerLine$Line", name := "wayOf", desc := "(III)I" } : Jvm.MethodName) ({ cls := "ServerLine$Line", name := "wayOf", desc := "(III)I" } : Jvm.MethodName) ∈ mm_G := mm_in (mt_3 (List.mem_of_getElem? (l := tables_1_3) (i := 56) (by decide +kernel))) rfl
theorem wv_X9_85 : mm_VW RX9 85 yX3_wayOf := ⟨mw_658, mw_590, mw_591⟩
theorem mw_659 : Jvm.Cond.methodLink "ServerLine$Work" (88 : Nat) ({ cls := "java/lang/Math", name := "min", desc := "(II)I" } : Jvm.MethodName) ∈ mm_G := mm_in (mt_3 (List.mem_of_getElem? (l := tables_1_3) (i := 124) (by decide +kernel))) rfl
theorem mw_651 : Jvm.Cond.code ({ cls := "ServerLine$Work", name := "settle", desc := "()V" } : Jvm.MethodName) prog_11_method_6_code (3 : Nat) (Option.none : Option Jvm.ClassFile.FieldType) ∈ mm_G := mm_in (mt_3 (List.mem_of_getElem? (l := tables_1_3) (i := 116) (by decide +kernel))) rfl
theorem wb_X9_settle : mm_CB yX9_settle cX9_settle 3 none 0 := ⟨mw_651, mw_61, ⟨by decide, by decide⟩, by decide +kernel, by decide⟩
theorem mw_648 : Jvm.Cond.methodLink "ServerLine$Work" (91 : Nat) ({ cls := "ServerLine$Work", name := "settle", desc := "()V" } : Jvm.MethodName) ∈ mm_G := mm_in (mt_3 (List.mem_of_getElem? (l := tables_1_3) (i := 113) (by decide +kernel))) rfl
theorem mw_650 : Jvm.Cond.instanceMethod ({ cls := "ServerLine$Work", name := "settle", desc := "()V" } : Jvm.MethodName) ∈ mm_G := mm_in (mt_3 (List.mem_of_getElem? (l := tables_1_3) (i := 115) (by decide +kernel))) rfl
theorem mw_13 : Cond.selects "ServerLine$Work" ⟨"ServerLine$Work", "settle", "()V"⟩ ⟨"ServerLine$Work", "settle", "()V"⟩ ∈ mm_G := mm_in (List.mem_append_left _ (List.mem_of_getElem? (i := 13) (by decide +kernel))) rfl
theorem wv_X9_91 : mm_VW RX9 91 yX9_settle := ⟨mw_648, mw_650, mw_13⟩
theorem mw_663 : Jvm.Cond.code ({ cls := "ServerLine$Work", name := "chosen", desc := "(I)I" } : Jvm.MethodName) prog_11_method_8_code (7 : Nat) (Option.some Jvm.ClassFile.FieldType.int) ∈ mm_G := mm_in (mt_3 (List.mem_of_getElem? (l := tables_1_3) (i := 128) (by decide +kernel))) rfl
theorem wb_X9_chosen : mm_CB yX9_chosen cX9_chosen 7 (some .int) 1 := ⟨mw_663, mw_61, ⟨by decide, by decide⟩, by decide +kernel, by decide⟩
theorem mw_660 : Jvm.Cond.methodLink "ServerLine$Work" (94 : Nat) ({ cls := "ServerLine$Work", name := "chosen", desc := "(I)I" } : Jvm.MethodName) ∈ mm_G := mm_in (mt_3 (List.mem_of_getElem? (l := tables_1_3) (i := 125) (by decide +kernel))) rfl
theorem mw_662 : Jvm.Cond.instanceMethod ({ cls := "ServerLine$Work", name := "chosen", desc := "(I)I" } : Jvm.MethodName) ∈ mm_G := mm_in (mt_3 (List.mem_of_getElem? (l := tables_1_3) (i := 127) (by decide +kernel))) rfl
theorem mw_15 : Cond.selects "ServerLine$Work" ⟨"ServerLine$Work", "chosen", "(I)I"⟩ ⟨"ServerLine$Work", "chosen", "(I)I"⟩ ∈ mm_G := mm_in (List.mem_append_left _ (List.mem_of_getElem? (i := 15) (by decide +kernel))) rfl
theorem wv_X9_94 : mm_VW RX9 94 yX9_chosen := ⟨mw_660, mw_662, mw_15⟩
theorem mw_664 : Jvm.Cond.methodLink "ServerLine$Work" (98 : Nat) ({ cls := "ServerLine$Work", name := "send", desc := "(II)V" } : Jvm.MethodName) ∈ mm_G := mm_in (mt_3 (List.mem_of_getElem? (l := tables_1_3) (i := 129) (by decide +kernel))) rfl
theorem mw_665 : Jvm.Cond.sameMethod "ServerLine$Work" "ServerLine$Rule" "send" "(II)V" ∈ mm_G := mm_in (mt_3 (List.mem_of_getElem? (l := tables_1_3) (i := 130) (by decide +kernel))) rfl
theorem mw_666 : Jvm.Cond.selects "ServerLine$Work" ({ cls := "ServerLine$Work", name := "send", desc := "(II)V" } : Jvm.MethodName) ({ cls := "ServerLine$Rule", name := "send", desc := "(II)V" } : Jvm.MethodName) ∈ mm_G := mm_in (mt_3 (List.mem_of_getElem? (l := tables_1_3) (i := 131) (by decide +kernel))) rfl
theorem wu_X9_98_X9 : mm_UW RX9 98 RX9 ⟨"ServerLine$Work", "send", "(II)V"⟩ yX7_send := ⟨mw_664, mw_665, mw_666, mw_597, rfl⟩
theorem mw_647 : Jvm.Cond.code ({ cls := "ServerLine$Work", name := "meet", desc := "(II)V" } : Jvm.MethodName) prog_11_method_7_code (4 : Nat) (Option.none : Option Jvm.ClassFile.FieldType) ∈ mm_G := mm_in (mt_3 (List.mem_of_getElem? (l := tables_1_3) (i := 112) (by decide +kernel))) rfl
theorem wb_X9_meet : mm_CB yX9_meet cX9_meet 4 none 2 := ⟨mw_647, mw_61, ⟨by decide, by decide⟩, by decide +kernel, by decide⟩
theorem mw_645 : Jvm.Cond.selects "ServerLine$Work" ({ cls := "ServerLine$Rule", name := "meet", desc := "(II)V" } : Jvm.MethodName) ({ cls := "ServerLine$Work", name := "meet", desc := "(II)V" } : Jvm.MethodName) ∈ mm_G := mm_in (mt_3 (List.mem_of_getElem? (l := tables_1_3) (i := 110) (by decide +kernel))) rfl
theorem mw_646 : Jvm.Cond.instanceMethod ({ cls := "ServerLine$Work", name := "meet", desc := "(II)V" } : Jvm.MethodName) ∈ mm_G := mm_in (mt_3 (List.mem_of_getElem? (l := tables_1_3) (i := 111) (by decide +kernel))) rfl
theorem wu_X6_62_X9 : mm_UW RX6 62 RX9 ⟨"ServerLine$Rule", "meet", "(II)V"⟩ yX9_meet := ⟨mw_574, mw_576, mw_645, mw_646, rfl⟩
theorem fl_X6_66_X9 : mm_FL RX6 66 "ServerLine$Rule" 8 RX9 TX9 10 2 := ⟨rfl, by decide, uw_X9, mw_254, Or.inl rfl⟩
theorem mw_326 : Jvm.Cond.laysFinal "ServerLine$Guarded" "ServerLine$Rule" "line" "LServerLine$Line;" ∈ mm_G := mm_in (mt_2 (List.mem_of_getElem? (l := tables_1_2) (i := 31) (by decide +kernel))) rfl
theorem mw_327 : Jvm.Cond.laysFinal "ServerLine$Guarded" "ServerLine$Rule" "at" "[I" ∈ mm_G := mm_in (mt_2 (List.mem_of_getElem? (l := tables_1_2) (i := 32) (by decide +kernel))) rfl
theorem mw_328 : Jvm.Cond.lays "ServerLine$Guarded" "ServerLine$Rule" "spent" "I" ∈ mm_G := mm_in (mt_2 (List.mem_of_getElem? (l := tables_1_2) (i := 33) (by decide +kernel))) rfl
theorem mw_329 : Jvm.Cond.lays "ServerLine$Guarded" "ServerLine$Rule" "gone" "I" ∈ mm_G := mm_in (mt_2 (List.mem_of_getElem? (l := tables_1_2) (i := 34) (by decide +kernel))) rfl
theorem mw_320 : Jvm.Cond.laysFinal "ServerLine$Guarded" "ServerLine$Guarded" "both" "LServerLine$Both;" ∈ mm_G := mm_in (mt_2 (List.mem_of_getElem? (l := tables_1_2) (i := 25) (by decide +kernel))) rfl
theorem mw_322 : Jvm.Cond.laysFinal "ServerLine$Guarded" "ServerLine$Guarded" "hinted" "LServerLine$Nearest;" ∈ mm_G := mm_in (mt_2 (List.mem_of_getElem? (l := tables_1_2) (i := 27) (by decide +kernel))) rfl
theorem mw_324 : Jvm.Cond.lays "ServerLine$Guarded" "ServerLine$Guarded" "trusted" "I" ∈ mm_G := mm_in (mt_2 (List.mem_of_getElem? (l := tables_1_2) (i := 29) (by decide +kernel))) rfl
theorem uw_X2 : ∀ w ∈ u_ws RX2 TX2 7, w ∈ mm_G := by
  show ∀ w ∈ ([u_lay RX2 TX2 0, u_lay RX2 TX2 1, u_lay RX2 TX2 2, u_lay RX2 TX2 3, u_lay RX2 TX2 4, u_lay RX2 TX2 5, u_lay RX2 TX2 6] : List Cond), w ∈ mm_G
  exact List.forall_mem_cons.mpr ⟨mw_326, List.forall_mem_cons.mpr ⟨mw_327, List.forall_mem_cons.mpr ⟨mw_328, List.forall_mem_cons.mpr ⟨mw_329, List.forall_mem_cons.mpr ⟨mw_320, List.forall_mem_cons.mpr ⟨mw_322, List.forall_mem_cons.mpr ⟨mw_324, fun _ h => absurd h List.not_mem_nil⟩⟩⟩⟩⟩⟩⟩
theorem fl_X7_9_X2 : mm_FL RX7 9 "ServerLine$Rule" 2 RX2 TX2 7 1 := ⟨rfl, by decide, uw_X2, mw_234, Or.inl rfl⟩
theorem fl_X7_19_X2 : mm_FL RX7 19 "ServerLine$Rule" 2 RX2 TX2 7 0 := ⟨rfl, by decide, uw_X2, mw_223, Or.inl rfl⟩
theorem fl_X7_34_X2 : mm_FL RX7 34 "ServerLine$Rule" 2 RX2 TX2 7 2 := ⟨rfl, by decide, uw_X2, mw_248, Or.inl rfl⟩
theorem fl_X7_15_X2 : mm_FL RX7 15 "ServerLine$Rule" 2 RX2 TX2 7 3 := ⟨rfl, by decide, uw_X2, mw_258, Or.inl rfl⟩
theorem mw_566 : Jvm.Cond.methodLink "ServerLine$Guarded" (31 : Nat) ({ cls := "ServerLine$Rule", name := "standAtStart", desc := "()V" } : Jvm.MethodName) ∈ mm_G := mm_in (mt_3 (List.mem_of_getElem? (l := tables_1_3) (i := 31) (by decide +kernel))) rfl
theorem mw_330 : Jvm.Cond.superclass "ServerLine$Guarded" "ServerLine$Rule" ∈ mm_G := mm_in (mt_2 (List.mem_of_getElem? (l := tables_1_2) (i := 35) (by decide +kernel))) rfl
theorem wp_X2_31 : mm_PW RX2 31 yX7_standAtStart := ⟨mw_566, mw_1201, mw_330, mw_534, by decide⟩
theorem mw_316 : Jvm.Cond.fieldLink "ServerLine$Guarded" (18 : Nat) "ServerLine$Guarded" "both" "LServerLine$Both;" ∈ mm_G := mm_in (mt_2 (List.mem_of_getElem? (l := tables_1_2) (i := 21) (by decide +kernel))) rfl
theorem fl_X2_18_X2 : mm_FL RX2 18 "ServerLine$Guarded" 2 RX2 TX2 7 4 := ⟨rfl, by decide, uw_X2, mw_316, Or.inl rfl⟩
theorem mw_567 : Jvm.Cond.methodLink "ServerLine$Guarded" (35 : Nat) ({ cls := "ServerLine$Both", name := "standAtStart", desc := "()V" } : Jvm.MethodName) ∈ mm_G := mm_in (mt_3 (List.mem_of_getElem? (l := tables_1_3) (i := 32) (by decide +kernel))) rfl
theorem mw_568 : Jvm.Cond.sameMethod "ServerLine$Both" "ServerLine$Rule" "standAtStart" "()V" ∈ mm_G := mm_in (mt_3 (List.mem_of_getElem? (l := tables_1_3) (i := 33) (by decide +kernel))) rfl
theorem mw_570 : Jvm.Cond.selects "ServerLine$Both" ({ cls := "ServerLine$Both", name := "standAtStart", desc := "()V" } : Jvm.MethodName) ({ cls := "ServerLine$Rule", name := "standAtStart", desc := "()V" } : Jvm.MethodName) ∈ mm_G := mm_in (mt_3 (List.mem_of_getElem? (l := tables_1_3) (i := 35) (by decide +kernel))) rfl
theorem wu_X2_35_X1 : mm_UW RX2 35 RX1 ⟨"ServerLine$Both", "standAtStart", "()V"⟩ yX7_standAtStart := ⟨mw_567, mw_568, mw_570, mw_534, rfl⟩
theorem mw_317 : Jvm.Cond.fieldLink "ServerLine$Guarded" (27 : Nat) "ServerLine$Guarded" "hinted" "LServerLine$Nearest;" ∈ mm_G := mm_in (mt_2 (List.mem_of_getElem? (l := tables_1_2) (i := 22) (by decide +kernel))) rfl
theorem fl_X2_27_X2 : mm_FL RX2 27 "ServerLine$Guarded" 2 RX2 TX2 7 5 := ⟨rfl, by decide, uw_X2, mw_317, Or.inl rfl⟩
theorem mw_571 : Jvm.Cond.methodLink "ServerLine$Guarded" (36 : Nat) ({ cls := "ServerLine$Nearest", name := "standAtStart", desc := "()V" } : Jvm.MethodName) ∈ mm_G := mm_in (mt_3 (List.mem_of_getElem? (l := tables_1_3) (i := 36) (by decide +kernel))) rfl
theorem mw_572 : Jvm.Cond.sameMethod "ServerLine$Nearest" "ServerLine$Rule" "standAtStart" "()V" ∈ mm_G := mm_in (mt_3 (List.mem_of_getElem? (l := tables_1_3) (i := 37) (by decide +kernel))) rfl
theorem mw_573 : Jvm.Cond.selects "ServerLine$Nearest" ({ cls := "ServerLine$Nearest", name := "standAtStart", desc := "()V" } : Jvm.MethodName) ({ cls := "ServerLine$Rule", name := "standAtStart", desc := "()V" } : Jvm.MethodName) ∈ mm_G := mm_in (mt_3 (List.mem_of_getElem? (l := tables_1_3) (i := 38) (by decide +kernel))) rfl
theorem wu_X2_36_X5 : mm_UW RX2 36 RX5 ⟨"ServerLine$Nearest", "standAtStart", "()V"⟩ yX7_standAtStart := ⟨mw_571, mw_572, mw_573, mw_534, rfl⟩
theorem mw_318 : Jvm.Cond.fieldLink "ServerLine$Guarded" (9 : Nat) "ServerLine$Guarded" "trusted" "I" ∈ mm_G := mm_in (mt_2 (List.mem_of_getElem? (l := tables_1_2) (i := 23) (by decide +kernel))) rfl
theorem fl_X2_9_X2 : mm_FL RX2 9 "ServerLine$Guarded" 2 RX2 TX2 7 6 := ⟨rfl, by decide, uw_X2, mw_318, Or.inl rfl⟩
theorem mw_565 : Jvm.Cond.code ({ cls := "ServerLine$Guarded", name := "standAtStart", desc := "()V" } : Jvm.MethodName) prog_4_method_2_code (1 : Nat) (Option.none : Option Jvm.ClassFile.FieldType) ∈ mm_G := mm_in (mt_3 (List.mem_of_getElem? (l := tables_1_3) (i := 30) (by decide +kernel))) rfl
theorem mw_63 : Jvm.Cond.initialized "ServerLine$Guarded" ∈ mm_G := mm_in (mt_1 (List.mem_of_getElem? (l := tables_1_1) (i := 8) (by decide +kernel))) rfl
theorem wb_X2_standAtStart : mm_CB yX2_standAtStart cX2_standAtStart 1 none 0 := ⟨mw_565, mw_63, ⟨by decide, by decide⟩, by decide +kernel, by decide⟩
theorem mw_1204 : Jvm.Cond.selects "ServerLine$Guarded" ({ cls := "ServerLine$Rule", name := "standAtStart", desc := "()V" } : Jvm.MethodName) ({ cls := "ServerLine$Guarded", name := "standAtStart", desc := "()V" } : Jvm.MethodName) ∈ mm_G := mm_in (mt_5 (List.mem_of_getElem? (l := tables_1_5) (i := 189) (by decide +kernel))) rfl
theorem mw_564 : Jvm.Cond.instanceMethod ({ cls := "ServerLine$Guarded", name := "standAtStart", desc := "()V" } : Jvm.MethodName) ∈ mm_G := mm_in (mt_3 (List.mem_of_getElem? (l := tables_1_3) (i := 29) (by decide +kernel))) rfl
theorem wu_X7_23_X2 : mm_UW RX7 23 RX2 yX7_standAtStart yX2_standAtStart := ⟨mw_559, mw_1201, mw_1204, mw_564, rfl⟩
theorem mw_524 : Jvm.Cond.selects "ServerLine$Guarded" ({ cls := "ServerLine$Rule", name := "begin", desc := "()V" } : Jvm.MethodName) ({ cls := "ServerLine$Rule", name := "begin", desc := "()V" } : Jvm.MethodName) ∈ mm_G := mm_in (mt_2 (List.mem_of_getElem? (l := tables_1_2) (i := 229) (by decide +kernel))) rfl
theorem wu_X6_57_X2 : mm_UW RX6 57 RX2 yX7_begin yX7_begin := ⟨mw_519, mw_521, mw_524, mw_520, rfl⟩
theorem mw_622 : Jvm.Cond.methodLink "ServerLine$Guarded" (37 : Nat) ({ cls := "ServerLine$Both", name := "meet", desc := "(II)V" } : Jvm.MethodName) ∈ mm_G := mm_in (mt_3 (List.mem_of_getElem? (l := tables_1_3) (i := 87) (by decide +kernel))) rfl
theorem mw_1207 : Jvm.Cond.selects "ServerLine$Both" ({ cls := "ServerLine$Both", name := "meet", desc := "(II)V" } : Jvm.MethodName) ({ cls := "ServerLine$Both", name := "meet", desc := "(II)V" } : Jvm.MethodName) ∈ mm_G := mm_in (mt_5 (List.mem_of_getElem? (l := tables_1_5) (i := 192) (by decide +kernel))) rfl
theorem wv_X2_37 : mm_VW RX2 37 yX1_meet := ⟨mw_622, mw_601, mw_1207⟩
theorem mw_623 : Jvm.Cond.methodLink "ServerLine$Guarded" (41 : Nat) ({ cls := "ServerLine$Nearest", name := "meet", desc := "(II)V" } : Jvm.MethodName) ∈ mm_G := mm_in (mt_3 (List.mem_of_getElem? (l := tables_1_3) (i := 88) (by decide +kernel))) rfl
theorem mw_625 : Jvm.Cond.selects "ServerLine$Nearest" ({ cls := "ServerLine$Nearest", name := "meet", desc := "(II)V" } : Jvm.MethodName) ({ cls := "ServerLine$Nearest", name := "meet", desc := "(II)V" } : Jvm.MethodName) ∈ mm_G := mm_in (mt_3 (List.mem_of_getElem? (l := tables_1_3) (i := 90) (by decide +kernel))) rfl
theorem wv_X2_41 : mm_VW RX2 41 yX5_meet := ⟨mw_623, mw_624, mw_625⟩
theorem mw_249 : Jvm.Cond.fieldLink "ServerLine$Guarded" (50 : Nat) "ServerLine$Rule" "spent" "I" ∈ mm_G := mm_in (mt_1 (List.mem_of_getElem? (l := tables_1_1) (i := 194) (by decide +kernel))) rfl
theorem fl_X2_50_X1 : mm_FL RX2 50 "ServerLine$Rule" 1 RX1 TX1 4 2 := ⟨rfl, by decide, uw_X1, mw_249, Or.inl rfl⟩
theorem mw_233 : Jvm.Cond.sameField "ServerLine$Guarded" "ServerLine$Rule" "line" "LServerLine$Line;" ∈ mm_G := mm_in (mt_1 (List.mem_of_getElem? (l := tables_1_1) (i := 178) (by decide +kernel))) rfl
theorem mw_232 : Jvm.Cond.fieldLink "ServerLine$Guarded" (53 : Nat) "ServerLine$Guarded" "line" "LServerLine$Line;" ∈ mm_G := mm_in (mt_1 (List.mem_of_getElem? (l := tables_1_1) (i := 177) (by decide +kernel))) rfl
theorem fl_X2_53_X2 : mm_FL RX2 53 "ServerLine$Guarded" 2 RX2 TX2 7 0 := ⟨rfl, by decide, uw_X2, mw_232, Or.inr mw_233⟩
theorem mw_115 : Jvm.Cond.fieldLink "ServerLine$Guarded" (57 : Nat) "ServerLine$Line" "guardFactor" "I" ∈ mm_G := mm_in (mt_1 (List.mem_of_getElem? (l := tables_1_1) (i := 60) (by decide +kernel))) rfl
theorem fl_X2_57_X3 : mm_FL RX2 57 "ServerLine$Line" 3 RX3 TX3 8 2 := ⟨rfl, by decide, uw_X3, mw_115, Or.inl rfl⟩
theorem fl_X2_50_X5 : mm_FL RX2 50 "ServerLine$Rule" 5 RX5 TX5 5 2 := ⟨rfl, by decide, uw_X5, mw_249, Or.inl rfl⟩
theorem mw_638 : Jvm.Cond.code ({ cls := "ServerLine$Guarded", name := "isTooDear", desc := "(LServerLine$Rule;LServerLine$Rule;)Z" } : Jvm.MethodName) prog_4_method_4_code (3 : Nat) (Option.some Jvm.ClassFile.FieldType.boolean) ∈ mm_G := mm_in (mt_3 (List.mem_of_getElem? (l := tables_1_3) (i := 103) (by decide +kernel))) rfl
theorem wb_X2_isTooDear : mm_CB yX2_isTooDear cX2_isTooDear 3 (some .boolean) 2 := ⟨mw_638, mw_63, ⟨by decide, by decide⟩, by decide +kernel, by decide⟩
theorem mw_635 : Jvm.Cond.methodLink "ServerLine$Guarded" (42 : Nat) ({ cls := "ServerLine$Guarded", name := "isTooDear", desc := "(LServerLine$Rule;LServerLine$Rule;)Z" } : Jvm.MethodName) ∈ mm_G := mm_in (mt_3 (List.mem_of_getElem? (l := tables_1_3) (i := 100) (by decide +kernel))) rfl
theorem mw_637 : Jvm.Cond.instanceMethod ({ cls := "ServerLine$Guarded", name := "isTooDear", desc := "(LServerLine$Rule;LServerLine$Rule;)Z" } : Jvm.MethodName) ∈ mm_G := mm_in (mt_3 (List.mem_of_getElem? (l := tables_1_3) (i := 102) (by decide +kernel))) rfl
theorem mw_11 : Cond.selects "ServerLine$Guarded" ⟨"ServerLine$Guarded", "isTooDear", "(LServerLine$Rule;LServerLine$Rule;)Z"⟩ ⟨"ServerLine$Guarded", "isTooDear", "(LServerLine$Rule;LServerLine$Rule;)Z"⟩ ∈ mm_G := mm_in (List.mem_append_left _ (List.mem_of_getElem? (i := 11) (by decide +kernel))) rfl
theorem wv_X2_42 : mm_VW RX2 42 yX2_isTooDear := ⟨mw_635, mw_637, mw_11⟩
theorem mw_257 : Jvm.Cond.sameField "ServerLine$Guarded" "ServerLine$Rule" "spent" "I" ∈ mm_G := mm_in (mt_1 (List.mem_of_getElem? (l := tables_1_1) (i := 202) (by decide +kernel))) rfl
theorem mw_256 : Jvm.Cond.fieldLink "ServerLine$Guarded" (62 : Nat) "ServerLine$Guarded" "spent" "I" ∈ mm_G := mm_in (mt_1 (List.mem_of_getElem? (l := tables_1_1) (i := 201) (by decide +kernel))) rfl
theorem fl_X2_62_X2 : mm_FL RX2 62 "ServerLine$Guarded" 2 RX2 TX2 7 2 := ⟨rfl, by decide, uw_X2, mw_256, Or.inr mw_257⟩
theorem mw_242 : Jvm.Cond.sameField "ServerLine$Guarded" "ServerLine$Rule" "at" "[I" ∈ mm_G := mm_in (mt_1 (List.mem_of_getElem? (l := tables_1_1) (i := 187) (by decide +kernel))) rfl
theorem mw_241 : Jvm.Cond.fieldLink "ServerLine$Guarded" (63 : Nat) "ServerLine$Guarded" "at" "[I" ∈ mm_G := mm_in (mt_1 (List.mem_of_getElem? (l := tables_1_1) (i := 186) (by decide +kernel))) rfl
theorem fl_X2_63_X2 : mm_FL RX2 63 "ServerLine$Guarded" 2 RX2 TX2 7 1 := ⟨rfl, by decide, uw_X2, mw_241, Or.inr mw_242⟩
theorem mw_243 : Jvm.Cond.fieldLink "ServerLine$Guarded" (67 : Nat) "ServerLine$Rule" "at" "[I" ∈ mm_G := mm_in (mt_1 (List.mem_of_getElem? (l := tables_1_1) (i := 188) (by decide +kernel))) rfl
theorem fl_X2_67_X1 : mm_FL RX2 67 "ServerLine$Rule" 1 RX1 TX1 4 1 := ⟨rfl, by decide, uw_X1, mw_243, Or.inl rfl⟩
theorem mw_643 : Jvm.Cond.methodLink "ServerLine$Guarded" (68 : Nat) ({ cls := "ServerLine$Line", name := "leastWays", desc := "([I[I)I" } : Jvm.MethodName) ∈ mm_G := mm_in (mt_3 (List.mem_of_getElem? (l := tables_1_3) (i := 108) (by decide +kernel))) rfl
theorem wv_X2_68 : mm_VW RX2 68 yX3_leastWays := ⟨mw_643, mw_548, mw_549⟩
theorem mw_113 : Jvm.Cond.fieldLink "ServerLine$Guarded" (72 : Nat) "ServerLine$Line" "serverCount" "I" ∈ mm_G := mm_in (mt_1 (List.mem_of_getElem? (l := tables_1_1) (i := 58) (by decide +kernel))) rfl
theorem fl_X2_72_X3 : mm_FL RX2 72 "ServerLine$Line" 3 RX3 TX3 8 1 := ⟨rfl, by decide, uw_X3, mw_113, Or.inl rfl⟩
theorem mw_642 : Jvm.Cond.code ({ cls := "ServerLine$Guarded", name := "standAs", desc := "(LServerLine$Rule;)V" } : Jvm.MethodName) prog_4_method_5_code (3 : Nat) (Option.none : Option Jvm.ClassFile.FieldType) ∈ mm_G := mm_in (mt_3 (List.mem_of_getElem? (l := tables_1_3) (i := 107) (by decide +kernel))) rfl
theorem wb_X2_standAs : mm_CB yX2_standAs cX2_standAs 3 none 1 := ⟨mw_642, mw_63, ⟨by decide, by decide⟩, by decide +kernel, by decide⟩
theorem mw_639 : Jvm.Cond.methodLink "ServerLine$Guarded" (46 : Nat) ({ cls := "ServerLine$Guarded", name := "standAs", desc := "(LServerLine$Rule;)V" } : Jvm.MethodName) ∈ mm_G := mm_in (mt_3 (List.mem_of_getElem? (l := tables_1_3) (i := 104) (by decide +kernel))) rfl
theorem mw_641 : Jvm.Cond.instanceMethod ({ cls := "ServerLine$Guarded", name := "standAs", desc := "(LServerLine$Rule;)V" } : Jvm.MethodName) ∈ mm_G := mm_in (mt_3 (List.mem_of_getElem? (l := tables_1_3) (i := 106) (by decide +kernel))) rfl
theorem mw_12 : Cond.selects "ServerLine$Guarded" ⟨"ServerLine$Guarded", "standAs", "(LServerLine$Rule;)V"⟩ ⟨"ServerLine$Guarded", "standAs", "(LServerLine$Rule;)V"⟩ ∈ mm_G := mm_in (List.mem_append_left _ (List.mem_of_getElem? (i := 12) (by decide +kernel))) rfl
theorem wv_X2_46 : mm_VW RX2 46 yX2_standAs := ⟨mw_639, mw_641, mw_12⟩
theorem fl_X2_67_X5 : mm_FL RX2 67 "ServerLine$Rule" 5 RX5 TX5 5 1 := ⟨rfl, by decide, uw_X5, mw_243, Or.inl rfl⟩
theorem mw_621 : Jvm.Cond.code ({ cls := "ServerLine$Guarded", name := "meet", desc := "(II)V" } : Jvm.MethodName) prog_4_method_3_code (3 : Nat) (Option.none : Option Jvm.ClassFile.FieldType) ∈ mm_G := mm_in (mt_3 (List.mem_of_getElem? (l := tables_1_3) (i := 86) (by decide +kernel))) rfl
theorem wb_X2_meet : mm_CB yX2_meet cX2_meet 3 none 2 := ⟨mw_621, mw_63, ⟨by decide, by decide⟩, by decide +kernel, by decide⟩
theorem mw_619 : Jvm.Cond.selects "ServerLine$Guarded" ({ cls := "ServerLine$Rule", name := "meet", desc := "(II)V" } : Jvm.MethodName) ({ cls := "ServerLine$Guarded", name := "meet", desc := "(II)V" } : Jvm.MethodName) ∈ mm_G := mm_in (mt_3 (List.mem_of_getElem? (l := tables_1_3) (i := 84) (by decide +kernel))) rfl
theorem mw_620 : Jvm.Cond.instanceMethod ({ cls := "ServerLine$Guarded", name := "meet", desc := "(II)V" } : Jvm.MethodName) ∈ mm_G := mm_in (mt_3 (List.mem_of_getElem? (l := tables_1_3) (i := 85) (by decide +kernel))) rfl
theorem wu_X6_62_X2 : mm_UW RX6 62 RX2 ⟨"ServerLine$Rule", "meet", "(II)V"⟩ yX2_meet := ⟨mw_574, mw_576, mw_619, mw_620, rfl⟩
theorem fl_X6_66_X2 : mm_FL RX6 66 "ServerLine$Rule" 2 RX2 TX2 7 2 := ⟨rfl, by decide, uw_X2, mw_254, Or.inl rfl⟩
theorem mw_247 : Jvm.Cond.fieldLink "ServerLine" (135 : Nat) "ServerLine$Rule" "at" "[I" ∈ mm_G := mm_in (mt_1 (List.mem_of_getElem? (l := tables_1_1) (i := 192) (by decide +kernel))) rfl
theorem fl_X11_135_X5 : mm_FL RX11 135 "ServerLine$Rule" 5 RX5 TX5 5 1 := ⟨rfl, by decide, uw_X5, mw_247, Or.inl rfl⟩
theorem fl_X11_135_X1 : mm_FL RX11 135 "ServerLine$Rule" 1 RX1 TX1 4 1 := ⟨rfl, by decide, uw_X1, mw_247, Or.inl rfl⟩
theorem fl_X11_135_X9 : mm_FL RX11 135 "ServerLine$Rule" 8 RX9 TX9 10 1 := ⟨rfl, by decide, uw_X9, mw_247, Or.inl rfl⟩
theorem fl_X11_135_X2 : mm_FL RX11 135 "ServerLine$Rule" 2 RX2 TX2 7 1 := ⟨rfl, by decide, uw_X2, mw_247, Or.inl rfl⟩
theorem mw_263 : Jvm.Cond.fieldLink "ServerLine" (257 : Nat) "ServerLine$Rule" "gone" "I" ∈ mm_G := mm_in (mt_1 (List.mem_of_getElem? (l := tables_1_1) (i := 208) (by decide +kernel))) rfl
theorem fl_X11_257_X5 : mm_FL RX11 257 "ServerLine$Rule" 5 RX5 TX5 5 3 := ⟨rfl, by decide, uw_X5, mw_263, Or.inl rfl⟩
theorem mw_678 : Jvm.Cond.code ({ cls := "ServerLine", name := "sentAt", desc := "(LServerLine$Rule;I)I" } : Jvm.MethodName) prog_1_method_35_code (3 : Nat) (Option.some Jvm.ClassFile.FieldType.int) ∈ mm_G := mm_in (mt_3 (List.mem_of_getElem? (l := tables_1_3) (i := 143) (by decide +kernel))) rfl
theorem wb_X11_sentAt : mm_CB yX11_sentAt cX11_sentAt 3 (some .int) 2 := ⟨mw_678, mw_56, ⟨by decide, by decide⟩, by decide +kernel, by decide⟩
theorem mw_675 : Jvm.Cond.methodLink "ServerLine" (138 : Nat) ({ cls := "ServerLine", name := "sentAt", desc := "(LServerLine$Rule;I)I" } : Jvm.MethodName) ∈ mm_G := mm_in (mt_3 (List.mem_of_getElem? (l := tables_1_3) (i := 140) (by decide +kernel))) rfl
theorem mw_677 : Jvm.Cond.instanceMethod ({ cls := "ServerLine", name := "sentAt", desc := "(LServerLine$Rule;I)I" } : Jvm.MethodName) ∈ mm_G := mm_in (mt_3 (List.mem_of_getElem? (l := tables_1_3) (i := 142) (by decide +kernel))) rfl
theorem mw_16 : Cond.selects "ServerLine" ⟨"ServerLine", "sentAt", "(LServerLine$Rule;I)I"⟩ ⟨"ServerLine", "sentAt", "(LServerLine$Rule;I)I"⟩ ∈ mm_G := mm_in (List.mem_append_left _ (List.mem_of_getElem? (i := 16) (by decide +kernel))) rfl
theorem wv_X11_138 : mm_VW RX11 138 yX11_sentAt := ⟨mw_675, mw_677, mw_16⟩
theorem fl_X11_257_X1 : mm_FL RX11 257 "ServerLine$Rule" 1 RX1 TX1 4 3 := ⟨rfl, by decide, uw_X1, mw_263, Or.inl rfl⟩
theorem fl_X11_257_X9 : mm_FL RX11 257 "ServerLine$Rule" 8 RX9 TX9 10 3 := ⟨rfl, by decide, uw_X9, mw_263, Or.inl rfl⟩
theorem fl_X11_257_X2 : mm_FL RX11 257 "ServerLine$Rule" 2 RX2 TX2 7 3 := ⟨rfl, by decide, uw_X2, mw_263, Or.inl rfl⟩
theorem mw_423 : Jvm.Cond.fieldLink "ServerLine" (65 : Nat) "ServerLine" "ahead" "LServerLine$Ahead;" ∈ mm_G := mm_in (mt_2 (List.mem_of_getElem? (l := tables_1_2) (i := 128) (by decide +kernel))) rfl
theorem fl_X11_65_X11 : mm_FL RX11 65 "ServerLine" 10 RX11 TX11 9 6 := ⟨rfl, by decide, uw_X11, mw_423, Or.inl rfl⟩
theorem mw_344 : Jvm.Cond.fieldLink "ServerLine$Ahead" (11 : Nat) "ServerLine$Ahead" "toGo" "[[I" ∈ mm_G := mm_in (mt_2 (List.mem_of_getElem? (l := tables_1_2) (i := 49) (by decide +kernel))) rfl
theorem mw_356 : Jvm.Cond.laysFinal "ServerLine$Ahead" "ServerLine$Rule" "line" "LServerLine$Line;" ∈ mm_G := mm_in (mt_2 (List.mem_of_getElem? (l := tables_1_2) (i := 61) (by decide +kernel))) rfl
theorem mw_357 : Jvm.Cond.laysFinal "ServerLine$Ahead" "ServerLine$Rule" "at" "[I" ∈ mm_G := mm_in (mt_2 (List.mem_of_getElem? (l := tables_1_2) (i := 62) (by decide +kernel))) rfl
theorem mw_358 : Jvm.Cond.lays "ServerLine$Ahead" "ServerLine$Rule" "spent" "I" ∈ mm_G := mm_in (mt_2 (List.mem_of_getElem? (l := tables_1_2) (i := 63) (by decide +kernel))) rfl
theorem mw_359 : Jvm.Cond.lays "ServerLine$Ahead" "ServerLine$Rule" "gone" "I" ∈ mm_G := mm_in (mt_2 (List.mem_of_getElem? (l := tables_1_2) (i := 64) (by decide +kernel))) rfl
theorem mw_348 : Jvm.Cond.laysFinal "ServerLine$Ahead" "ServerLine$Ahead" "toGo" "[[I" ∈ mm_G := mm_in (mt_2 (List.mem_of_getElem? (l := tables_1_2) (i := 53) (by decide +kernel))) rfl
theorem mw_350 : Jvm.Cond.lays "ServerLine$Ahead" "ServerLine$Ahead" "leastSum" "I" ∈ mm_G := mm_in (mt_2 (List.mem_of_getElem? (l := tables_1_2) (i := 55) (by decide +kernel))) rfl
theorem mw_352 : Jvm.Cond.lays "ServerLine$Ahead" "ServerLine$Ahead" "standing" "I" ∈ mm_G := mm_in (mt_2 (List.mem_of_getElem? (l := tables_1_2) (i := 57) (by decide +kernel))) rfl
theorem mw_354 : Jvm.Cond.lays "ServerLine$Ahead" "ServerLine$Ahead" "step" "I" ∈ mm_G := mm_in (mt_2 (List.mem_of_getElem? (l := tables_1_2) (i := 59) (by decide +kernel))) rfl
theorem uw_X0 : ∀ w ∈ u_ws RX0 TX0 8, w ∈ mm_G := by
  show ∀ w ∈ ([u_lay RX0 TX0 0, u_lay RX0 TX0 1, u_lay RX0 TX0 2, u_lay RX0 TX0 3, u_lay RX0 TX0 4, u_lay RX0 TX0 5, u_lay RX0 TX0 6, u_lay RX0 TX0 7] : List Cond), w ∈ mm_G
  exact List.forall_mem_cons.mpr ⟨mw_356, List.forall_mem_cons.mpr ⟨mw_357, List.forall_mem_cons.mpr ⟨mw_358, List.forall_mem_cons.mpr ⟨mw_359, List.forall_mem_cons.mpr ⟨mw_348, List.forall_mem_cons.mpr ⟨mw_350, List.forall_mem_cons.mpr ⟨mw_352, List.forall_mem_cons.mpr ⟨mw_354, fun _ h => absurd h List.not_mem_nil⟩⟩⟩⟩⟩⟩⟩⟩
theorem fl_X0_11_X0 : mm_FL RX0 11 "ServerLine$Ahead" 0 RX0 TX0 8 4 := ⟨rfl, by decide, uw_X0, mw_344, Or.inl rfl⟩
theorem mw_195 : Jvm.Cond.fieldLink "ServerLine$Ahead" (16 : Nat) "ServerLine$Row" "length" "I" ∈ mm_G := mm_in (mt_1 (List.mem_of_getElem? (l := tables_1_1) (i := 140) (by decide +kernel))) rfl
theorem fl_X0_16_X6 : mm_FL RX0 16 "ServerLine$Row" 6 RX6 TX6 3 2 := ⟨rfl, by decide, uw_X6, mw_195, Or.inl rfl⟩
theorem mw_190 : Jvm.Cond.fieldLink "ServerLine$Ahead" (22 : Nat) "ServerLine$Row" "points" "[I" ∈ mm_G := mm_in (mt_1 (List.mem_of_getElem? (l := tables_1_1) (i := 135) (by decide +kernel))) rfl
theorem fl_X0_22_X6 : mm_FL RX0 22 "ServerLine$Row" 6 RX6 TX6 3 0 := ⟨rfl, by decide, uw_X6, mw_190, Or.inl rfl⟩
theorem mw_231 : Jvm.Cond.sameField "ServerLine$Ahead" "ServerLine$Rule" "line" "LServerLine$Line;" ∈ mm_G := mm_in (mt_1 (List.mem_of_getElem? (l := tables_1_1) (i := 176) (by decide +kernel))) rfl
theorem mw_230 : Jvm.Cond.fieldLink "ServerLine$Ahead" (30 : Nat) "ServerLine$Ahead" "line" "LServerLine$Line;" ∈ mm_G := mm_in (mt_1 (List.mem_of_getElem? (l := tables_1_1) (i := 175) (by decide +kernel))) rfl
theorem fl_X0_30_X0 : mm_FL RX0 30 "ServerLine$Ahead" 0 RX0 TX0 8 0 := ⟨rfl, by decide, uw_X0, mw_230, Or.inr mw_231⟩
theorem mw_118 : Jvm.Cond.fieldLink "ServerLine$Ahead" (43 : Nat) "ServerLine$Line" "crowdCount" "I" ∈ mm_G := mm_in (mt_1 (List.mem_of_getElem? (l := tables_1_1) (i := 63) (by decide +kernel))) rfl
theorem fl_X0_43_X3 : mm_FL RX0 43 "ServerLine$Line" 3 RX3 TX3 8 3 := ⟨rfl, by decide, uw_X3, mw_118, Or.inl rfl⟩
theorem mw_137 : Jvm.Cond.fieldLink "ServerLine$Ahead" (46 : Nat) "ServerLine$Line" "crowdStandings" "[I" ∈ mm_G := mm_in (mt_1 (List.mem_of_getElem? (l := tables_1_1) (i := 82) (by decide +kernel))) rfl
theorem fl_X0_46_X3 : mm_FL RX0 46 "ServerLine$Line" 3 RX3 TX3 8 7 := ⟨rfl, by decide, uw_X3, mw_137, Or.inl rfl⟩
theorem mw_584 : Jvm.Cond.constant "ServerLine$Ahead" (56 : Nat) (2147483647 : Int32) ∈ mm_G := mm_in (mt_3 (List.mem_of_getElem? (l := tables_1_3) (i := 49) (by decide +kernel))) rfl
theorem mw_345 : Jvm.Cond.fieldLink "ServerLine$Ahead" (53 : Nat) "ServerLine$Ahead" "leastSum" "I" ∈ mm_G := mm_in (mt_2 (List.mem_of_getElem? (l := tables_1_2) (i := 50) (by decide +kernel))) rfl
theorem fl_X0_53_X0 : mm_FL RX0 53 "ServerLine$Ahead" 0 RX0 TX0 8 5 := ⟨rfl, by decide, uw_X0, mw_345, Or.inl rfl⟩
theorem mw_111 : Jvm.Cond.fieldLink "ServerLine$Ahead" (57 : Nat) "ServerLine$Line" "serverCount" "I" ∈ mm_G := mm_in (mt_1 (List.mem_of_getElem? (l := tables_1_1) (i := 56) (by decide +kernel))) rfl
theorem fl_X0_57_X3 : mm_FL RX0 57 "ServerLine$Line" 3 RX3 TX3 8 1 := ⟨rfl, by decide, uw_X3, mw_111, Or.inl rfl⟩
theorem mw_133 : Jvm.Cond.fieldLink "ServerLine$Ahead" (34 : Nat) "ServerLine$Line" "crowds" "[I" ∈ mm_G := mm_in (mt_1 (List.mem_of_getElem? (l := tables_1_1) (i := 78) (by decide +kernel))) rfl
theorem fl_X0_34_X3 : mm_FL RX0 34 "ServerLine$Line" 3 RX3 TX3 8 6 := ⟨rfl, by decide, uw_X3, mw_133, Or.inl rfl⟩
theorem mw_585 : Jvm.Cond.methodLink "ServerLine$Ahead" (60 : Nat) ({ cls := "ServerLine$Line", name := "moved", desc := "(III)I" } : Jvm.MethodName) ∈ mm_G := mm_in (mt_3 (List.mem_of_getElem? (l := tables_1_3) (i := 50) (by decide +kernel))) rfl
theorem ws_X0_60 : mm_SW RX0 60 yX3_moved := ⟨mw_585, mw_586⟩
theorem mw_589 : Jvm.Cond.methodLink "ServerLine$Ahead" (63 : Nat) ({ cls := "ServerLine$Line", name := "wayOf", desc := "(III)I" } : Jvm.MethodName) ∈ mm_G := mm_in (mt_3 (List.mem_of_getElem? (l := tables_1_3) (i := 54) (by decide +kernel))) rfl
theorem wv_X0_63 : mm_VW RX0 63 yX3_wayOf := ⟨mw_589, mw_590, mw_591⟩
theorem mw_583 : Jvm.Cond.code ({ cls := "ServerLine$Ahead", name := "chosen", desc := "(III)I" } : Jvm.MethodName) prog_2_method_4_code (8 : Nat) (Option.some Jvm.ClassFile.FieldType.int) ∈ mm_G := mm_in (mt_3 (List.mem_of_getElem? (l := tables_1_3) (i := 48) (by decide +kernel))) rfl
theorem mw_66 : Jvm.Cond.initialized "ServerLine$Ahead" ∈ mm_G := mm_in (mt_1 (List.mem_of_getElem? (l := tables_1_1) (i := 11) (by decide +kernel))) rfl
theorem wb_X0_chosen : mm_CB yX0_chosen cX0_chosen 8 (some .int) 3 := ⟨mw_583, mw_66, ⟨by decide, by decide⟩, by decide +kernel, by decide⟩
theorem mw_580 : Jvm.Cond.methodLink "ServerLine$Ahead" (49 : Nat) ({ cls := "ServerLine$Ahead", name := "chosen", desc := "(III)I" } : Jvm.MethodName) ∈ mm_G := mm_in (mt_3 (List.mem_of_getElem? (l := tables_1_3) (i := 45) (by decide +kernel))) rfl
theorem mw_582 : Jvm.Cond.instanceMethod ({ cls := "ServerLine$Ahead", name := "chosen", desc := "(III)I" } : Jvm.MethodName) ∈ mm_G := mm_in (mt_3 (List.mem_of_getElem? (l := tables_1_3) (i := 47) (by decide +kernel))) rfl
theorem mw_6 : Cond.selects "ServerLine$Ahead" ⟨"ServerLine$Ahead", "chosen", "(III)I"⟩ ⟨"ServerLine$Ahead", "chosen", "(III)I"⟩ ∈ mm_G := mm_in (List.mem_append_left _ (List.mem_of_getElem? (i := 6) (by decide +kernel))) rfl
theorem wv_X0_49 : mm_VW RX0 49 yX0_chosen := ⟨mw_580, mw_582, mw_6⟩
theorem mw_690 : Jvm.Cond.code ({ cls := "ServerLine$Ahead", name := "planStep", desc := "(II)V" } : Jvm.MethodName) prog_2_method_3_code (5 : Nat) (Option.none : Option Jvm.ClassFile.FieldType) ∈ mm_G := mm_in (mt_3 (List.mem_of_getElem? (l := tables_1_3) (i := 155) (by decide +kernel))) rfl
theorem wb_X0_planStep : mm_CB yX0_planStep cX0_planStep 5 none 2 := ⟨mw_690, mw_66, ⟨by decide, by decide⟩, by decide +kernel, by decide⟩
theorem mw_687 : Jvm.Cond.methodLink "ServerLine$Ahead" (26 : Nat) ({ cls := "ServerLine$Ahead", name := "planStep", desc := "(II)V" } : Jvm.MethodName) ∈ mm_G := mm_in (mt_3 (List.mem_of_getElem? (l := tables_1_3) (i := 152) (by decide +kernel))) rfl
theorem mw_689 : Jvm.Cond.instanceMethod ({ cls := "ServerLine$Ahead", name := "planStep", desc := "(II)V" } : Jvm.MethodName) ∈ mm_G := mm_in (mt_3 (List.mem_of_getElem? (l := tables_1_3) (i := 154) (by decide +kernel))) rfl
theorem mw_17 : Cond.selects "ServerLine$Ahead" ⟨"ServerLine$Ahead", "planStep", "(II)V"⟩ ⟨"ServerLine$Ahead", "planStep", "(II)V"⟩ ∈ mm_G := mm_in (List.mem_append_left _ (List.mem_of_getElem? (i := 17) (by decide +kernel))) rfl
theorem wv_X0_26 : mm_VW RX0 26 yX0_planStep := ⟨mw_687, mw_689, mw_17⟩
theorem mw_563 : Jvm.Cond.methodLink "ServerLine$Ahead" (39 : Nat) ({ cls := "ServerLine$Line", name := "startStanding", desc := "()I" } : Jvm.MethodName) ∈ mm_G := mm_in (mt_3 (List.mem_of_getElem? (l := tables_1_3) (i := 28) (by decide +kernel))) rfl
theorem wv_X0_39 : mm_VW RX0 39 yX3_startStanding := ⟨mw_563, mw_537, mw_538⟩
theorem mw_686 : Jvm.Cond.code ({ cls := "ServerLine$Ahead", name := "plan", desc := "(LServerLine$Row;)I" } : Jvm.MethodName) prog_2_method_2_code (3 : Nat) (Option.some Jvm.ClassFile.FieldType.int) ∈ mm_G := mm_in (mt_3 (List.mem_of_getElem? (l := tables_1_3) (i := 151) (by decide +kernel))) rfl
theorem wb_X0_plan : mm_CB yX0_plan cX0_plan 3 (some .int) 1 := ⟨mw_686, mw_66, ⟨by decide, by decide⟩, by decide +kernel, by decide⟩
theorem mw_683 : Jvm.Cond.methodLink "ServerLine" (141 : Nat) ({ cls := "ServerLine$Ahead", name := "plan", desc := "(LServerLine$Row;)I" } : Jvm.MethodName) ∈ mm_G := mm_in (mt_3 (List.mem_of_getElem? (l := tables_1_3) (i := 148) (by decide +kernel))) rfl
theorem mw_684 : Jvm.Cond.instanceMethod ({ cls := "ServerLine$Ahead", name := "plan", desc := "(LServerLine$Row;)I" } : Jvm.MethodName) ∈ mm_G := mm_in (mt_3 (List.mem_of_getElem? (l := tables_1_3) (i := 149) (by decide +kernel))) rfl
theorem mw_685 : Jvm.Cond.selects "ServerLine$Ahead" ({ cls := "ServerLine$Ahead", name := "plan", desc := "(LServerLine$Row;)I" } : Jvm.MethodName) ({ cls := "ServerLine$Ahead", name := "plan", desc := "(LServerLine$Row;)I" } : Jvm.MethodName) ∈ mm_G := mm_in (mt_3 (List.mem_of_getElem? (l := tables_1_3) (i := 150) (by decide +kernel))) rfl
theorem wv_X11_141 : mm_VW RX11 141 yX0_plan := ⟨mw_683, mw_684, mw_685⟩
theorem fl_X7_9_X0 : mm_FL RX7 9 "ServerLine$Rule" 0 RX0 TX0 8 1 := ⟨rfl, by decide, uw_X0, mw_234, Or.inl rfl⟩
theorem fl_X7_19_X0 : mm_FL RX7 19 "ServerLine$Rule" 0 RX0 TX0 8 0 := ⟨rfl, by decide, uw_X0, mw_223, Or.inl rfl⟩
theorem fl_X7_34_X0 : mm_FL RX7 34 "ServerLine$Rule" 0 RX0 TX0 8 2 := ⟨rfl, by decide, uw_X0, mw_248, Or.inl rfl⟩
theorem fl_X7_15_X0 : mm_FL RX7 15 "ServerLine$Rule" 0 RX0 TX0 8 3 := ⟨rfl, by decide, uw_X0, mw_258, Or.inl rfl⟩
theorem mw_562 : Jvm.Cond.methodLink "ServerLine$Ahead" (66 : Nat) ({ cls := "ServerLine$Rule", name := "standAtStart", desc := "()V" } : Jvm.MethodName) ∈ mm_G := mm_in (mt_3 (List.mem_of_getElem? (l := tables_1_3) (i := 27) (by decide +kernel))) rfl
theorem mw_360 : Jvm.Cond.superclass "ServerLine$Ahead" "ServerLine$Rule" ∈ mm_G := mm_in (mt_2 (List.mem_of_getElem? (l := tables_1_2) (i := 65) (by decide +kernel))) rfl
theorem wp_X0_66 : mm_PW RX0 66 yX7_standAtStart := ⟨mw_562, mw_1201, mw_360, mw_534, by decide⟩
theorem mw_346 : Jvm.Cond.fieldLink "ServerLine$Ahead" (70 : Nat) "ServerLine$Ahead" "standing" "I" ∈ mm_G := mm_in (mt_2 (List.mem_of_getElem? (l := tables_1_2) (i := 51) (by decide +kernel))) rfl
theorem fl_X0_70_X0 : mm_FL RX0 70 "ServerLine$Ahead" 0 RX0 TX0 8 6 := ⟨rfl, by decide, uw_X0, mw_346, Or.inl rfl⟩
theorem mw_347 : Jvm.Cond.fieldLink "ServerLine$Ahead" (73 : Nat) "ServerLine$Ahead" "step" "I" ∈ mm_G := mm_in (mt_2 (List.mem_of_getElem? (l := tables_1_2) (i := 52) (by decide +kernel))) rfl
theorem fl_X0_73_X0 : mm_FL RX0 73 "ServerLine$Ahead" 0 RX0 TX0 8 7 := ⟨rfl, by decide, uw_X0, mw_347, Or.inl rfl⟩
theorem mw_561 : Jvm.Cond.code ({ cls := "ServerLine$Ahead", name := "standAtStart", desc := "()V" } : Jvm.MethodName) prog_2_method_5_code (1 : Nat) (Option.none : Option Jvm.ClassFile.FieldType) ∈ mm_G := mm_in (mt_3 (List.mem_of_getElem? (l := tables_1_3) (i := 26) (by decide +kernel))) rfl
theorem wb_X0_standAtStart : mm_CB yX0_standAtStart cX0_standAtStart 1 none 0 := ⟨mw_561, mw_66, ⟨by decide, by decide⟩, by decide +kernel, by decide⟩
theorem mw_1202 : Jvm.Cond.selects "ServerLine$Ahead" ({ cls := "ServerLine$Rule", name := "standAtStart", desc := "()V" } : Jvm.MethodName) ({ cls := "ServerLine$Ahead", name := "standAtStart", desc := "()V" } : Jvm.MethodName) ∈ mm_G := mm_in (mt_5 (List.mem_of_getElem? (l := tables_1_5) (i := 187) (by decide +kernel))) rfl
theorem mw_560 : Jvm.Cond.instanceMethod ({ cls := "ServerLine$Ahead", name := "standAtStart", desc := "()V" } : Jvm.MethodName) ∈ mm_G := mm_in (mt_3 (List.mem_of_getElem? (l := tables_1_3) (i := 25) (by decide +kernel))) rfl
theorem wu_X7_23_X0 : mm_UW RX7 23 RX0 yX7_standAtStart yX0_standAtStart := ⟨mw_559, mw_1201, mw_1202, mw_560, rfl⟩
theorem mw_522 : Jvm.Cond.selects "ServerLine$Ahead" ({ cls := "ServerLine$Rule", name := "begin", desc := "()V" } : Jvm.MethodName) ({ cls := "ServerLine$Rule", name := "begin", desc := "()V" } : Jvm.MethodName) ∈ mm_G := mm_in (mt_2 (List.mem_of_getElem? (l := tables_1_2) (i := 227) (by decide +kernel))) rfl
theorem wu_X6_57_X0 : mm_UW RX6 57 RX0 yX7_begin yX7_begin := ⟨mw_519, mw_521, mw_522, mw_520, rfl⟩
theorem mw_127 : Jvm.Cond.fieldLink "ServerLine$Ahead" (76 : Nat) "ServerLine$Line" "places" "[I" ∈ mm_G := mm_in (mt_1 (List.mem_of_getElem? (l := tables_1_1) (i := 72) (by decide +kernel))) rfl
theorem fl_X0_76_X3 : mm_FL RX0 76 "ServerLine$Line" 3 RX3 TX3 8 4 := ⟨rfl, by decide, uw_X3, mw_127, Or.inl rfl⟩
theorem mw_593 : Jvm.Cond.methodLink "ServerLine$Ahead" (79 : Nat) ({ cls := "ServerLine$Ahead", name := "send", desc := "(II)V" } : Jvm.MethodName) ∈ mm_G := mm_in (mt_3 (List.mem_of_getElem? (l := tables_1_3) (i := 58) (by decide +kernel))) rfl
theorem mw_594 : Jvm.Cond.sameMethod "ServerLine$Ahead" "ServerLine$Rule" "send" "(II)V" ∈ mm_G := mm_in (mt_3 (List.mem_of_getElem? (l := tables_1_3) (i := 59) (by decide +kernel))) rfl
theorem mw_596 : Jvm.Cond.selects "ServerLine$Ahead" ({ cls := "ServerLine$Ahead", name := "send", desc := "(II)V" } : Jvm.MethodName) ({ cls := "ServerLine$Rule", name := "send", desc := "(II)V" } : Jvm.MethodName) ∈ mm_G := mm_in (mt_3 (List.mem_of_getElem? (l := tables_1_3) (i := 61) (by decide +kernel))) rfl
theorem wu_X0_79_X0 : mm_UW RX0 79 RX0 ⟨"ServerLine$Ahead", "send", "(II)V"⟩ yX7_send := ⟨mw_593, mw_594, mw_596, mw_597, rfl⟩
theorem mw_579 : Jvm.Cond.code ({ cls := "ServerLine$Ahead", name := "meet", desc := "(II)V" } : Jvm.MethodName) prog_2_method_6_code (4 : Nat) (Option.none : Option Jvm.ClassFile.FieldType) ∈ mm_G := mm_in (mt_3 (List.mem_of_getElem? (l := tables_1_3) (i := 44) (by decide +kernel))) rfl
theorem wb_X0_meet : mm_CB yX0_meet cX0_meet 4 none 2 := ⟨mw_579, mw_66, ⟨by decide, by decide⟩, by decide +kernel, by decide⟩
theorem mw_577 : Jvm.Cond.selects "ServerLine$Ahead" ({ cls := "ServerLine$Rule", name := "meet", desc := "(II)V" } : Jvm.MethodName) ({ cls := "ServerLine$Ahead", name := "meet", desc := "(II)V" } : Jvm.MethodName) ∈ mm_G := mm_in (mt_3 (List.mem_of_getElem? (l := tables_1_3) (i := 42) (by decide +kernel))) rfl
theorem mw_578 : Jvm.Cond.instanceMethod ({ cls := "ServerLine$Ahead", name := "meet", desc := "(II)V" } : Jvm.MethodName) ∈ mm_G := mm_in (mt_3 (List.mem_of_getElem? (l := tables_1_3) (i := 43) (by decide +kernel))) rfl
theorem wu_X6_62_X0 : mm_UW RX6 62 RX0 ⟨"ServerLine$Rule", "meet", "(II)V"⟩ yX0_meet := ⟨mw_574, mw_576, mw_577, mw_578, rfl⟩
theorem fl_X6_66_X0 : mm_FL RX6 66 "ServerLine$Rule" 0 RX0 TX0 8 2 := ⟨rfl, by decide, uw_X0, mw_254, Or.inl rfl⟩
theorem fl_X11_257_X0 : mm_FL RX11 257 "ServerLine$Rule" 0 RX0 TX0 8 3 := ⟨rfl, by decide, uw_X0, mw_263, Or.inl rfl⟩
theorem mw_701 : Jvm.Cond.code ({ cls := "ServerLine", name := "hundredths", desc := "(II)I" } : Jvm.MethodName) prog_1_method_36_code (2 : Nat) (Option.some Jvm.ClassFile.FieldType.int) ∈ mm_G := mm_in (mt_3 (List.mem_of_getElem? (l := tables_1_3) (i := 166) (by decide +kernel))) rfl
theorem wb_X11_hundredths : mm_CB yX11_hundredths cX11_hundredths 2 (some .int) 2 := ⟨mw_701, mw_56, ⟨by decide, by decide⟩, by decide +kernel, by decide⟩
theorem mw_699 : Jvm.Cond.methodLink "ServerLine" (145 : Nat) ({ cls := "ServerLine", name := "hundredths", desc := "(II)I" } : Jvm.MethodName) ∈ mm_G := mm_in (mt_3 (List.mem_of_getElem? (l := tables_1_3) (i := 164) (by decide +kernel))) rfl
theorem mw_700 : Jvm.Cond.static ({ cls := "ServerLine", name := "hundredths", desc := "(II)I" } : Jvm.MethodName) ∈ mm_G := mm_in (mt_3 (List.mem_of_getElem? (l := tables_1_3) (i := 165) (by decide +kernel))) rfl
theorem ws_X11_145 : mm_SW RX11 145 yX11_hundredths := ⟨mw_699, mw_700⟩
theorem mw_709 : Jvm.Cond.code ({ cls := "ServerLine", name := "isStandingPoint", desc := "(II)Z" } : Jvm.MethodName) prog_1_method_33_code (3 : Nat) (Option.some Jvm.ClassFile.FieldType.boolean) ∈ mm_G := mm_in (mt_3 (List.mem_of_getElem? (l := tables_1_3) (i := 174) (by decide +kernel))) rfl
theorem wb_X11_isStandingPoint : mm_CB yX11_isStandingPoint cX11_isStandingPoint 3 (some .boolean) 2 := ⟨mw_709, mw_56, ⟨by decide, by decide⟩, by decide +kernel, by decide⟩
theorem mw_706 : Jvm.Cond.methodLink "ServerLine" (149 : Nat) ({ cls := "ServerLine", name := "isStandingPoint", desc := "(II)Z" } : Jvm.MethodName) ∈ mm_G := mm_in (mt_3 (List.mem_of_getElem? (l := tables_1_3) (i := 171) (by decide +kernel))) rfl
theorem mw_708 : Jvm.Cond.instanceMethod ({ cls := "ServerLine", name := "isStandingPoint", desc := "(II)Z" } : Jvm.MethodName) ∈ mm_G := mm_in (mt_3 (List.mem_of_getElem? (l := tables_1_3) (i := 173) (by decide +kernel))) rfl
theorem mw_18 : Cond.selects "ServerLine" ⟨"ServerLine", "isStandingPoint", "(II)Z"⟩ ⟨"ServerLine", "isStandingPoint", "(II)Z"⟩ ∈ mm_G := mm_in (List.mem_append_left _ (List.mem_of_getElem? (i := 18) (by decide +kernel))) rfl
theorem wv_X11_149 : mm_VW RX11 149 yX11_isStandingPoint := ⟨mw_706, mw_708, mw_18⟩
theorem mw_421 : Jvm.Cond.fieldLink "ServerLine" (35 : Nat) "ServerLine" "workRule" "LServerLine$Work;" ∈ mm_G := mm_in (mt_2 (List.mem_of_getElem? (l := tables_1_2) (i := 126) (by decide +kernel))) rfl
theorem fl_X11_35_X11 : mm_FL RX11 35 "ServerLine" 10 RX11 TX11 9 4 := ⟨rfl, by decide, uw_X11, mw_421, Or.inl rfl⟩
theorem mw_710 : Jvm.Cond.methodLink "ServerLine" (153 : Nat) ({ cls := "ServerLine$Line", name := "standingOf", desc := "(III)I" } : Jvm.MethodName) ∈ mm_G := mm_in (mt_3 (List.mem_of_getElem? (l := tables_1_3) (i := 175) (by decide +kernel))) rfl
theorem wv_X11_153 : mm_VW RX11 153 yX3_standingOf := ⟨mw_710, mw_541, mw_542⟩
theorem mw_714 : Jvm.Cond.code ({ cls := "ServerLine$Work", name := "worth", desc := "(I)I" } : Jvm.MethodName) prog_11_method_4_code (2 : Nat) (Option.some Jvm.ClassFile.FieldType.int) ∈ mm_G := mm_in (mt_3 (List.mem_of_getElem? (l := tables_1_3) (i := 179) (by decide +kernel))) rfl
theorem wb_X9_worth : mm_CB yX9_worth cX9_worth 2 (some .int) 1 := ⟨mw_714, mw_61, ⟨by decide, by decide⟩, by decide +kernel, by decide⟩
theorem mw_711 : Jvm.Cond.methodLink "ServerLine" (157 : Nat) ({ cls := "ServerLine$Work", name := "worth", desc := "(I)I" } : Jvm.MethodName) ∈ mm_G := mm_in (mt_3 (List.mem_of_getElem? (l := tables_1_3) (i := 176) (by decide +kernel))) rfl
theorem mw_712 : Jvm.Cond.instanceMethod ({ cls := "ServerLine$Work", name := "worth", desc := "(I)I" } : Jvm.MethodName) ∈ mm_G := mm_in (mt_3 (List.mem_of_getElem? (l := tables_1_3) (i := 177) (by decide +kernel))) rfl
theorem mw_713 : Jvm.Cond.selects "ServerLine$Work" ({ cls := "ServerLine$Work", name := "worth", desc := "(I)I" } : Jvm.MethodName) ({ cls := "ServerLine$Work", name := "worth", desc := "(I)I" } : Jvm.MethodName) ∈ mm_G := mm_in (mt_3 (List.mem_of_getElem? (l := tables_1_3) (i := 178) (by decide +kernel))) rfl
theorem wv_X11_157 : mm_VW RX11 157 yX9_worth := ⟨mw_711, mw_712, mw_713⟩
theorem mw_422 : Jvm.Cond.fieldLink "ServerLine" (44 : Nat) "ServerLine" "guardedRule" "LServerLine$Guarded;" ∈ mm_G := mm_in (mt_2 (List.mem_of_getElem? (l := tables_1_2) (i := 127) (by decide +kernel))) rfl
theorem fl_X11_44_X11 : mm_FL RX11 44 "ServerLine" 10 RX11 TX11 9 5 := ⟨rfl, by decide, uw_X11, mw_422, Or.inl rfl⟩
theorem mw_319 : Jvm.Cond.fieldLink "ServerLine" (160 : Nat) "ServerLine$Guarded" "trusted" "I" ∈ mm_G := mm_in (mt_2 (List.mem_of_getElem? (l := tables_1_2) (i := 24) (by decide +kernel))) rfl
theorem fl_X11_160_X2 : mm_FL RX11 160 "ServerLine$Guarded" 2 RX2 TX2 7 6 := ⟨rfl, by decide, uw_X2, mw_319, Or.inl rfl⟩
theorem mw_425 : Jvm.Cond.fieldLink "ServerLine" (81 : Nat) "ServerLine" "search" "LServerLine$WorstSearch;" ∈ mm_G := mm_in (mt_2 (List.mem_of_getElem? (l := tables_1_2) (i := 130) (by decide +kernel))) rfl
theorem fl_X11_81_X11 : mm_FL RX11 81 "ServerLine" 10 RX11 TX11 9 8 := ⟨rfl, by decide, uw_X11, mw_425, Or.inl rfl⟩
theorem mw_396 : Jvm.Cond.fieldLink "ServerLine$WorstSearch" (18 : Nat) "ServerLine$WorstSearch" "number" "I" ∈ mm_G := mm_in (mt_2 (List.mem_of_getElem? (l := tables_1_2) (i := 101) (by decide +kernel))) rfl
theorem mw_402 : Jvm.Cond.laysFinal "ServerLine$WorstSearch" "ServerLine$WorstSearch" "line" "LServerLine$Line;" ∈ mm_G := mm_in (mt_2 (List.mem_of_getElem? (l := tables_1_2) (i := 107) (by decide +kernel))) rfl
theorem mw_404 : Jvm.Cond.laysFinal "ServerLine$WorstSearch" "ServerLine$WorstSearch" "tried" "[LServerLine$Rule;" ∈ mm_G := mm_in (mt_2 (List.mem_of_getElem? (l := tables_1_2) (i := 109) (by decide +kernel))) rfl
theorem mw_406 : Jvm.Cond.laysFinal "ServerLine$WorstSearch" "ServerLine$WorstSearch" "points" "[I" ∈ mm_G := mm_in (mt_2 (List.mem_of_getElem? (l := tables_1_2) (i := 111) (by decide +kernel))) rfl
theorem mw_408 : Jvm.Cond.laysFinal "ServerLine$WorstSearch" "ServerLine$WorstSearch" "at" "[I" ∈ mm_G := mm_in (mt_2 (List.mem_of_getElem? (l := tables_1_2) (i := 113) (by decide +kernel))) rfl
theorem mw_410 : Jvm.Cond.lays "ServerLine$WorstSearch" "ServerLine$WorstSearch" "number" "I" ∈ mm_G := mm_in (mt_2 (List.mem_of_getElem? (l := tables_1_2) (i := 115) (by decide +kernel))) rfl
theorem mw_412 : Jvm.Cond.lays "ServerLine$WorstSearch" "ServerLine$WorstSearch" "spent" "I" ∈ mm_G := mm_in (mt_2 (List.mem_of_getElem? (l := tables_1_2) (i := 117) (by decide +kernel))) rfl
theorem mw_414 : Jvm.Cond.lays "ServerLine$WorstSearch" "ServerLine$WorstSearch" "least" "I" ∈ mm_G := mm_in (mt_2 (List.mem_of_getElem? (l := tables_1_2) (i := 119) (by decide +kernel))) rfl
theorem uw_X10 : ∀ w ∈ u_ws RX10 TX10 7, w ∈ mm_G := by
  show ∀ w ∈ ([u_lay RX10 TX10 0, u_lay RX10 TX10 1, u_lay RX10 TX10 2, u_lay RX10 TX10 3, u_lay RX10 TX10 4, u_lay RX10 TX10 5, u_lay RX10 TX10 6] : List Cond), w ∈ mm_G
  exact List.forall_mem_cons.mpr ⟨mw_402, List.forall_mem_cons.mpr ⟨mw_404, List.forall_mem_cons.mpr ⟨mw_406, List.forall_mem_cons.mpr ⟨mw_408, List.forall_mem_cons.mpr ⟨mw_410, List.forall_mem_cons.mpr ⟨mw_412, List.forall_mem_cons.mpr ⟨mw_414, fun _ h => absurd h List.not_mem_nil⟩⟩⟩⟩⟩⟩⟩
theorem fl_X10_18_X10 : mm_FL RX10 18 "ServerLine$WorstSearch" 9 RX10 TX10 7 4 := ⟨rfl, by decide, uw_X10, mw_396, Or.inl rfl⟩
theorem mw_398 : Jvm.Cond.fieldLink "ServerLine$WorstSearch" (47 : Nat) "ServerLine$WorstSearch" "spent" "I" ∈ mm_G := mm_in (mt_2 (List.mem_of_getElem? (l := tables_1_2) (i := 103) (by decide +kernel))) rfl
theorem fl_X10_47_X10 : mm_FL RX10 47 "ServerLine$WorstSearch" 9 RX10 TX10 7 5 := ⟨rfl, by decide, uw_X10, mw_398, Or.inl rfl⟩
theorem mw_400 : Jvm.Cond.fieldLink "ServerLine$WorstSearch" (50 : Nat) "ServerLine$WorstSearch" "least" "I" ∈ mm_G := mm_in (mt_2 (List.mem_of_getElem? (l := tables_1_2) (i := 105) (by decide +kernel))) rfl
theorem fl_X10_50_X10 : mm_FL RX10 50 "ServerLine$WorstSearch" 9 RX10 TX10 7 6 := ⟨rfl, by decide, uw_X10, mw_400, Or.inl rfl⟩
theorem mw_394 : Jvm.Cond.fieldLink "ServerLine$WorstSearch" (9 : Nat) "ServerLine$WorstSearch" "points" "[I" ∈ mm_G := mm_in (mt_2 (List.mem_of_getElem? (l := tables_1_2) (i := 99) (by decide +kernel))) rfl
theorem fl_X10_9_X10 : mm_FL RX10 9 "ServerLine$WorstSearch" 9 RX10 TX10 7 2 := ⟨rfl, by decide, uw_X10, mw_394, Or.inl rfl⟩
theorem mw_393 : Jvm.Cond.fieldLink "ServerLine$WorstSearch" (43 : Nat) "ServerLine$WorstSearch" "tried" "[LServerLine$Rule;" ∈ mm_G := mm_in (mt_2 (List.mem_of_getElem? (l := tables_1_2) (i := 98) (by decide +kernel))) rfl
theorem fl_X10_43_X10 : mm_FL RX10 43 "ServerLine$WorstSearch" 9 RX10 TX10 7 1 := ⟨rfl, by decide, uw_X10, mw_393, Or.inl rfl⟩
theorem mw_727 : Jvm.Cond.methodLink "ServerLine$WorstSearch" (53 : Nat) ({ cls := "ServerLine$Rule", name := "begin", desc := "()V" } : Jvm.MethodName) ∈ mm_G := mm_in (mt_3 (List.mem_of_getElem? (l := tables_1_3) (i := 192) (by decide +kernel))) rfl
theorem wu_X10_53_X5 : mm_UW RX10 53 RX5 yX7_begin yX7_begin := ⟨mw_727, mw_521, mw_525, mw_520, rfl⟩
theorem mw_392 : Jvm.Cond.fieldLink "ServerLine$WorstSearch" (22 : Nat) "ServerLine$WorstSearch" "line" "LServerLine$Line;" ∈ mm_G := mm_in (mt_2 (List.mem_of_getElem? (l := tables_1_2) (i := 97) (by decide +kernel))) rfl
theorem fl_X10_22_X10 : mm_FL RX10 22 "ServerLine$WorstSearch" 9 RX10 TX10 7 0 := ⟨rfl, by decide, uw_X10, mw_392, Or.inl rfl⟩
theorem mw_109 : Jvm.Cond.fieldLink "ServerLine$WorstSearch" (69 : Nat) "ServerLine$Line" "serverCount" "I" ∈ mm_G := mm_in (mt_1 (List.mem_of_getElem? (l := tables_1_1) (i := 54) (by decide +kernel))) rfl
theorem fl_X10_69_X3 : mm_FL RX10 69 "ServerLine$Line" 3 RX3 TX3 8 1 := ⟨rfl, by decide, uw_X3, mw_109, Or.inl rfl⟩
theorem mw_395 : Jvm.Cond.fieldLink "ServerLine$WorstSearch" (15 : Nat) "ServerLine$WorstSearch" "at" "[I" ∈ mm_G := mm_in (mt_2 (List.mem_of_getElem? (l := tables_1_2) (i := 100) (by decide +kernel))) rfl
theorem fl_X10_15_X10 : mm_FL RX10 15 "ServerLine$WorstSearch" 9 RX10 TX10 7 3 := ⟨rfl, by decide, uw_X10, mw_395, Or.inl rfl⟩
theorem mw_126 : Jvm.Cond.fieldLink "ServerLine$WorstSearch" (72 : Nat) "ServerLine$Line" "places" "[I" ∈ mm_G := mm_in (mt_1 (List.mem_of_getElem? (l := tables_1_1) (i := 71) (by decide +kernel))) rfl
theorem fl_X10_72_X3 : mm_FL RX10 72 "ServerLine$Line" 3 RX3 TX3 8 4 := ⟨rfl, by decide, uw_X3, mw_126, Or.inl rfl⟩
theorem mw_130 : Jvm.Cond.fieldLink "ServerLine$WorstSearch" (75 : Nat) "ServerLine$Line" "starts" "[I" ∈ mm_G := mm_in (mt_1 (List.mem_of_getElem? (l := tables_1_1) (i := 75) (by decide +kernel))) rfl
theorem fl_X10_75_X3 : mm_FL RX10 75 "ServerLine$Line" 3 RX3 TX3 8 5 := ⟨rfl, by decide, uw_X3, mw_130, Or.inl rfl⟩
theorem mw_736 : Jvm.Cond.constant "ServerLine$WorstSearch" (90 : Nat) (2147483647 : Int32) ∈ mm_G := mm_in (mt_3 (List.mem_of_getElem? (l := tables_1_3) (i := 201) (by decide +kernel))) rfl
theorem mw_737 : Jvm.Cond.methodLink "ServerLine$WorstSearch" (91 : Nat) ({ cls := "java/lang/Math", name := "abs", desc := "(I)I" } : Jvm.MethodName) ∈ mm_G := mm_in (mt_3 (List.mem_of_getElem? (l := tables_1_3) (i := 202) (by decide +kernel))) rfl
theorem mw_735 : Jvm.Cond.code ({ cls := "ServerLine$WorstSearch", name := "leastFrom", desc := "(II)I" } : Jvm.MethodName) prog_12_method_5_code (7 : Nat) (Option.some Jvm.ClassFile.FieldType.int) ∈ mm_G := mm_in (mt_3 (List.mem_of_getElem? (l := tables_1_3) (i := 200) (by decide +kernel))) rfl
theorem mw_68 : Jvm.Cond.initialized "ServerLine$WorstSearch" ∈ mm_G := mm_in (mt_1 (List.mem_of_getElem? (l := tables_1_1) (i := 13) (by decide +kernel))) rfl
theorem wb_X10_leastFrom : mm_CB yX10_leastFrom cX10_leastFrom 7 (some .int) 2 := ⟨mw_735, mw_68, ⟨by decide, by decide⟩, by decide +kernel, by decide⟩
theorem mw_732 : Jvm.Cond.methodLink "ServerLine$WorstSearch" (78 : Nat) ({ cls := "ServerLine$WorstSearch", name := "leastFrom", desc := "(II)I" } : Jvm.MethodName) ∈ mm_G := mm_in (mt_3 (List.mem_of_getElem? (l := tables_1_3) (i := 197) (by decide +kernel))) rfl
theorem mw_734 : Jvm.Cond.instanceMethod ({ cls := "ServerLine$WorstSearch", name := "leastFrom", desc := "(II)I" } : Jvm.MethodName) ∈ mm_G := mm_in (mt_3 (List.mem_of_getElem? (l := tables_1_3) (i := 199) (by decide +kernel))) rfl
theorem mw_20 : Cond.selects "ServerLine$WorstSearch" ⟨"ServerLine$WorstSearch", "leastFrom", "(II)I"⟩ ⟨"ServerLine$WorstSearch", "leastFrom", "(II)I"⟩ ∈ mm_G := mm_in (List.mem_append_left _ (List.mem_of_getElem? (i := 20) (by decide +kernel))) rfl
theorem wv_X10_78 : mm_VW RX10 78 yX10_leastFrom := ⟨mw_732, mw_734, mw_20⟩
theorem mw_738 : Jvm.Cond.methodLink "ServerLine$WorstSearch" (97 : Nat) ({ cls := "java/lang/Math", name := "min", desc := "(II)I" } : Jvm.MethodName) ∈ mm_G := mm_in (mt_3 (List.mem_of_getElem? (l := tables_1_3) (i := 203) (by decide +kernel))) rfl
theorem mw_739 : Jvm.Cond.methodLink "ServerLine$WorstSearch" (82 : Nat) ({ cls := "ServerLine$Rule", name := "standAtStart", desc := "()V" } : Jvm.MethodName) ∈ mm_G := mm_in (mt_3 (List.mem_of_getElem? (l := tables_1_3) (i := 204) (by decide +kernel))) rfl
theorem wu_X10_82_X5 : mm_UW RX10 82 RX5 yX7_standAtStart yX7_standAtStart := ⟨mw_739, mw_1201, mw_1205, mw_534, rfl⟩
theorem mw_740 : Jvm.Cond.methodLink "ServerLine$WorstSearch" (85 : Nat) ({ cls := "ServerLine$Rule", name := "meet", desc := "(II)V" } : Jvm.MethodName) ∈ mm_G := mm_in (mt_3 (List.mem_of_getElem? (l := tables_1_3) (i := 205) (by decide +kernel))) rfl
theorem wu_X10_85_X5 : mm_UW RX10 85 RX5 ⟨"ServerLine$Rule", "meet", "(II)V"⟩ yX5_meet := ⟨mw_740, mw_576, mw_644, mw_624, rfl⟩
theorem mw_255 : Jvm.Cond.fieldLink "ServerLine$WorstSearch" (89 : Nat) "ServerLine$Rule" "spent" "I" ∈ mm_G := mm_in (mt_1 (List.mem_of_getElem? (l := tables_1_1) (i := 200) (by decide +kernel))) rfl
theorem fl_X10_89_X5 : mm_FL RX10 89 "ServerLine$Rule" 5 RX5 TX5 5 2 := ⟨rfl, by decide, uw_X5, mw_255, Or.inl rfl⟩
theorem mw_731 : Jvm.Cond.code ({ cls := "ServerLine$WorstSearch", name := "weigh", desc := "(LServerLine$Rule;II)V" } : Jvm.MethodName) prog_12_method_4_code (6 : Nat) (Option.none : Option Jvm.ClassFile.FieldType) ∈ mm_G := mm_in (mt_3 (List.mem_of_getElem? (l := tables_1_3) (i := 196) (by decide +kernel))) rfl
theorem wb_X10_weigh : mm_CB yX10_weigh cX10_weigh 6 none 3 := ⟨mw_731, mw_68, ⟨by decide, by decide⟩, by decide +kernel, by decide⟩
theorem mw_728 : Jvm.Cond.methodLink "ServerLine$WorstSearch" (56 : Nat) ({ cls := "ServerLine$WorstSearch", name := "weigh", desc := "(LServerLine$Rule;II)V" } : Jvm.MethodName) ∈ mm_G := mm_in (mt_3 (List.mem_of_getElem? (l := tables_1_3) (i := 193) (by decide +kernel))) rfl
theorem mw_730 : Jvm.Cond.instanceMethod ({ cls := "ServerLine$WorstSearch", name := "weigh", desc := "(LServerLine$Rule;II)V" } : Jvm.MethodName) ∈ mm_G := mm_in (mt_3 (List.mem_of_getElem? (l := tables_1_3) (i := 195) (by decide +kernel))) rfl
theorem mw_19 : Cond.selects "ServerLine$WorstSearch" ⟨"ServerLine$WorstSearch", "weigh", "(LServerLine$Rule;II)V"⟩ ⟨"ServerLine$WorstSearch", "weigh", "(LServerLine$Rule;II)V"⟩ ∈ mm_G := mm_in (List.mem_append_left _ (List.mem_of_getElem? (i := 19) (by decide +kernel))) rfl
theorem wv_X10_56 : mm_VW RX10 56 yX10_weigh := ⟨mw_728, mw_730, mw_19⟩
theorem mw_103 : Jvm.Cond.fieldLink "ServerLine$WorstSearch" (64 : Nat) "ServerLine$Line" "pointCount" "I" ∈ mm_G := mm_in (mt_1 (List.mem_of_getElem? (l := tables_1_1) (i := 48) (by decide +kernel))) rfl
theorem fl_X10_64_X3 : mm_FL RX10 64 "ServerLine$Line" 3 RX3 TX3 8 0 := ⟨rfl, by decide, uw_X3, mw_103, Or.inl rfl⟩
theorem mw_744 : Jvm.Cond.code ({ cls := "ServerLine$WorstSearch", name := "turnToNextRow", desc := "(I)Z" } : Jvm.MethodName) prog_12_method_3_code (3 : Nat) (Option.some Jvm.ClassFile.FieldType.boolean) ∈ mm_G := mm_in (mt_3 (List.mem_of_getElem? (l := tables_1_3) (i := 209) (by decide +kernel))) rfl
theorem wb_X10_turnToNextRow : mm_CB yX10_turnToNextRow cX10_turnToNextRow 3 (some .boolean) 1 := ⟨mw_744, mw_68, ⟨by decide, by decide⟩, by decide +kernel, by decide⟩
theorem mw_741 : Jvm.Cond.methodLink "ServerLine$WorstSearch" (60 : Nat) ({ cls := "ServerLine$WorstSearch", name := "turnToNextRow", desc := "(I)Z" } : Jvm.MethodName) ∈ mm_G := mm_in (mt_3 (List.mem_of_getElem? (l := tables_1_3) (i := 206) (by decide +kernel))) rfl
theorem mw_743 : Jvm.Cond.instanceMethod ({ cls := "ServerLine$WorstSearch", name := "turnToNextRow", desc := "(I)Z" } : Jvm.MethodName) ∈ mm_G := mm_in (mt_3 (List.mem_of_getElem? (l := tables_1_3) (i := 208) (by decide +kernel))) rfl
theorem mw_21 : Cond.selects "ServerLine$WorstSearch" ⟨"ServerLine$WorstSearch", "turnToNextRow", "(I)Z"⟩ ⟨"ServerLine$WorstSearch", "turnToNextRow", "(I)Z"⟩ ∈ mm_G := mm_in (List.mem_append_left _ (List.mem_of_getElem? (i := 21) (by decide +kernel))) rfl
theorem wv_X10_60 : mm_VW RX10 60 yX10_turnToNextRow := ⟨mw_741, mw_743, mw_21⟩
theorem wu_X10_82_X1 : mm_UW RX10 82 RX1 yX7_standAtStart yX7_standAtStart := ⟨mw_739, mw_1201, mw_1203, mw_534, rfl⟩
theorem wu_X10_85_X1 : mm_UW RX10 85 RX1 ⟨"ServerLine$Rule", "meet", "(II)V"⟩ yX1_meet := ⟨mw_740, mw_576, mw_600, mw_601, rfl⟩
theorem fl_X10_89_X1 : mm_FL RX10 89 "ServerLine$Rule" 1 RX1 TX1 4 2 := ⟨rfl, by decide, uw_X1, mw_255, Or.inl rfl⟩
theorem mw_1206 : Jvm.Cond.selects "ServerLine$Work" ({ cls := "ServerLine$Rule", name := "standAtStart", desc := "()V" } : Jvm.MethodName) ({ cls := "ServerLine$Work", name := "standAtStart", desc := "()V" } : Jvm.MethodName) ∈ mm_G := mm_in (mt_5 (List.mem_of_getElem? (l := tables_1_5) (i := 191) (by decide +kernel))) rfl
theorem wu_X10_82_X9 : mm_UW RX10 82 RX9 yX7_standAtStart yX9_standAtStart := ⟨mw_739, mw_1201, mw_1206, mw_530, rfl⟩
theorem wu_X10_85_X9 : mm_UW RX10 85 RX9 ⟨"ServerLine$Rule", "meet", "(II)V"⟩ yX9_meet := ⟨mw_740, mw_576, mw_645, mw_646, rfl⟩
theorem fl_X10_89_X9 : mm_FL RX10 89 "ServerLine$Rule" 8 RX9 TX9 10 2 := ⟨rfl, by decide, uw_X9, mw_255, Or.inl rfl⟩
theorem wu_X10_53_X1 : mm_UW RX10 53 RX1 yX7_begin yX7_begin := ⟨mw_727, mw_521, mw_523, mw_520, rfl⟩
theorem wu_X10_53_X9 : mm_UW RX10 53 RX9 yX7_begin yX9_begin := ⟨mw_727, mw_521, mw_526, mw_527, rfl⟩
theorem mw_726 : Jvm.Cond.code ({ cls := "ServerLine$WorstSearch", name := "seek", desc := "(II)V" } : Jvm.MethodName) prog_12_method_2_code (4 : Nat) (Option.none : Option Jvm.ClassFile.FieldType) ∈ mm_G := mm_in (mt_3 (List.mem_of_getElem? (l := tables_1_3) (i := 191) (by decide +kernel))) rfl
theorem wb_X10_seek : mm_CB yX10_seek cX10_seek 4 none 2 := ⟨mw_726, mw_68, ⟨by decide, by decide⟩, by decide +kernel, by decide⟩
theorem mw_723 : Jvm.Cond.methodLink "ServerLine" (163 : Nat) ({ cls := "ServerLine$WorstSearch", name := "seek", desc := "(II)V" } : Jvm.MethodName) ∈ mm_G := mm_in (mt_3 (List.mem_of_getElem? (l := tables_1_3) (i := 188) (by decide +kernel))) rfl
theorem mw_724 : Jvm.Cond.instanceMethod ({ cls := "ServerLine$WorstSearch", name := "seek", desc := "(II)V" } : Jvm.MethodName) ∈ mm_G := mm_in (mt_3 (List.mem_of_getElem? (l := tables_1_3) (i := 189) (by decide +kernel))) rfl
theorem mw_725 : Jvm.Cond.selects "ServerLine$WorstSearch" ({ cls := "ServerLine$WorstSearch", name := "seek", desc := "(II)V" } : Jvm.MethodName) ({ cls := "ServerLine$WorstSearch", name := "seek", desc := "(II)V" } : Jvm.MethodName) ∈ mm_G := mm_in (mt_3 (List.mem_of_getElem? (l := tables_1_3) (i := 190) (by decide +kernel))) rfl
theorem wv_X11_163 : mm_VW RX11 163 yX10_seek := ⟨mw_723, mw_724, mw_725⟩
theorem mw_397 : Jvm.Cond.fieldLink "ServerLine" (167 : Nat) "ServerLine$WorstSearch" "number" "I" ∈ mm_G := mm_in (mt_2 (List.mem_of_getElem? (l := tables_1_2) (i := 102) (by decide +kernel))) rfl
theorem fl_X11_167_X10 : mm_FL RX11 167 "ServerLine$WorstSearch" 9 RX10 TX10 7 4 := ⟨rfl, by decide, uw_X10, mw_397, Or.inl rfl⟩
theorem mw_399 : Jvm.Cond.fieldLink "ServerLine" (170 : Nat) "ServerLine$WorstSearch" "spent" "I" ∈ mm_G := mm_in (mt_2 (List.mem_of_getElem? (l := tables_1_2) (i := 104) (by decide +kernel))) rfl
theorem fl_X11_170_X10 : mm_FL RX11 170 "ServerLine$WorstSearch" 9 RX10 TX10 7 5 := ⟨rfl, by decide, uw_X10, mw_399, Or.inl rfl⟩
theorem mw_401 : Jvm.Cond.fieldLink "ServerLine" (173 : Nat) "ServerLine$WorstSearch" "least" "I" ∈ mm_G := mm_in (mt_2 (List.mem_of_getElem? (l := tables_1_2) (i := 106) (by decide +kernel))) rfl
theorem fl_X11_173_X10 : mm_FL RX11 173 "ServerLine$WorstSearch" 9 RX10 TX10 7 6 := ⟨rfl, by decide, uw_X10, mw_401, Or.inl rfl⟩
theorem mw_424 : Jvm.Cond.fieldLink "ServerLine" (74 : Nat) "ServerLine" "store" "LServerLine$Longing;" ∈ mm_G := mm_in (mt_2 (List.mem_of_getElem? (l := tables_1_2) (i := 129) (by decide +kernel))) rfl
theorem fl_X11_74_X11 : mm_FL RX11 74 "ServerLine" 10 RX11 TX11 9 7 := ⟨rfl, by decide, uw_X11, mw_424, Or.inl rfl⟩
theorem mw_371 : Jvm.Cond.fieldLink "ServerLine$Longing" (15 : Nat) "ServerLine$Longing" "ahead" "LServerLine$Ahead;" ∈ mm_G := mm_in (mt_2 (List.mem_of_getElem? (l := tables_1_2) (i := 76) (by decide +kernel))) rfl
theorem mw_372 : Jvm.Cond.laysFinal "ServerLine$Longing" "ServerLine$Longing" "line" "LServerLine$Line;" ∈ mm_G := mm_in (mt_2 (List.mem_of_getElem? (l := tables_1_2) (i := 77) (by decide +kernel))) rfl
theorem mw_374 : Jvm.Cond.laysFinal "ServerLine$Longing" "ServerLine$Longing" "both" "LServerLine$Both;" ∈ mm_G := mm_in (mt_2 (List.mem_of_getElem? (l := tables_1_2) (i := 79) (by decide +kernel))) rfl
theorem mw_376 : Jvm.Cond.laysFinal "ServerLine$Longing" "ServerLine$Longing" "ahead" "LServerLine$Ahead;" ∈ mm_G := mm_in (mt_2 (List.mem_of_getElem? (l := tables_1_2) (i := 81) (by decide +kernel))) rfl
theorem uw_X4 : ∀ w ∈ u_ws RX4 TX4 3, w ∈ mm_G := by
  show ∀ w ∈ ([u_lay RX4 TX4 0, u_lay RX4 TX4 1, u_lay RX4 TX4 2] : List Cond), w ∈ mm_G
  exact List.forall_mem_cons.mpr ⟨mw_372, List.forall_mem_cons.mpr ⟨mw_374, List.forall_mem_cons.mpr ⟨mw_376, fun _ h => absurd h List.not_mem_nil⟩⟩⟩
theorem fl_X4_15_X4 : mm_FL RX4 15 "ServerLine$Longing" 4 RX4 TX4 3 2 := ⟨rfl, by decide, uw_X4, mw_371, Or.inl rfl⟩
theorem mw_757 : Jvm.Cond.methodLink "ServerLine$Longing" (28 : Nat) ({ cls := "ServerLine$Ahead", name := "plan", desc := "(LServerLine$Row;)I" } : Jvm.MethodName) ∈ mm_G := mm_in (mt_3 (List.mem_of_getElem? (l := tables_1_3) (i := 222) (by decide +kernel))) rfl
theorem wv_X4_28 : mm_VW RX4 28 yX0_plan := ⟨mw_757, mw_684, mw_685⟩
theorem mw_758 : Jvm.Cond.methodLink "ServerLine$Longing" (34 : Nat) ({ cls := "ServerLine$Row", name := "lead", desc := "(LServerLine$Rule;I)I" } : Jvm.MethodName) ∈ mm_G := mm_in (mt_3 (List.mem_of_getElem? (l := tables_1_3) (i := 223) (by decide +kernel))) rfl
theorem wv_X4_34 : mm_VW RX4 34 yX6_lead := ⟨mw_758, mw_513, mw_514⟩
theorem mw_370 : Jvm.Cond.fieldLink "ServerLine$Longing" (24 : Nat) "ServerLine$Longing" "both" "LServerLine$Both;" ∈ mm_G := mm_in (mt_2 (List.mem_of_getElem? (l := tables_1_2) (i := 75) (by decide +kernel))) rfl
theorem fl_X4_24_X4 : mm_FL RX4 24 "ServerLine$Longing" 4 RX4 TX4 3 1 := ⟨rfl, by decide, uw_X4, mw_370, Or.inl rfl⟩
theorem mw_369 : Jvm.Cond.fieldLink "ServerLine$Longing" (9 : Nat) "ServerLine$Longing" "line" "LServerLine$Line;" ∈ mm_G := mm_in (mt_2 (List.mem_of_getElem? (l := tables_1_2) (i := 74) (by decide +kernel))) rfl
theorem fl_X4_9_X4 : mm_FL RX4 9 "ServerLine$Longing" 4 RX4 TX4 3 0 := ⟨rfl, by decide, uw_X4, mw_369, Or.inl rfl⟩
theorem mw_112 : Jvm.Cond.fieldLink "ServerLine$Longing" (69 : Nat) "ServerLine$Line" "serverCount" "I" ∈ mm_G := mm_in (mt_1 (List.mem_of_getElem? (l := tables_1_1) (i := 57) (by decide +kernel))) rfl
theorem fl_X4_69_X3 : mm_FL RX4 69 "ServerLine$Line" 3 RX3 TX3 8 1 := ⟨rfl, by decide, uw_X3, mw_112, Or.inl rfl⟩
theorem mw_244 : Jvm.Cond.fieldLink "ServerLine$Longing" (74 : Nat) "ServerLine$Both" "at" "[I" ∈ mm_G := mm_in (mt_1 (List.mem_of_getElem? (l := tables_1_1) (i := 189) (by decide +kernel))) rfl
theorem fl_X4_74_X1 : mm_FL RX4 74 "ServerLine$Both" 1 RX1 TX1 4 1 := ⟨rfl, by decide, uw_X1, mw_244, Or.inr mw_236⟩
theorem mw_246 : Jvm.Cond.sameField "ServerLine$Ahead" "ServerLine$Rule" "at" "[I" ∈ mm_G := mm_in (mt_1 (List.mem_of_getElem? (l := tables_1_1) (i := 191) (by decide +kernel))) rfl
theorem mw_245 : Jvm.Cond.fieldLink "ServerLine$Longing" (77 : Nat) "ServerLine$Ahead" "at" "[I" ∈ mm_G := mm_in (mt_1 (List.mem_of_getElem? (l := tables_1_1) (i := 190) (by decide +kernel))) rfl
theorem fl_X4_77_X0 : mm_FL RX4 77 "ServerLine$Ahead" 0 RX0 TX0 8 1 := ⟨rfl, by decide, uw_X0, mw_245, Or.inr mw_246⟩
theorem mw_763 : Jvm.Cond.methodLink "ServerLine$Longing" (78 : Nat) ({ cls := "ServerLine$Line", name := "leastWays", desc := "([I[I)I" } : Jvm.MethodName) ∈ mm_G := mm_in (mt_3 (List.mem_of_getElem? (l := tables_1_3) (i := 228) (by decide +kernel))) rfl
theorem wv_X4_78 : mm_VW RX4 78 yX3_leastWays := ⟨mw_763, mw_548, mw_549⟩
theorem mw_767 : Jvm.Cond.code ({ cls := "ServerLine$Line", name := "waysAmong", desc := "([I)I" } : Jvm.MethodName) prog_5_method_15_code (5 : Nat) (Option.some Jvm.ClassFile.FieldType.int) ∈ mm_G := mm_in (mt_3 (List.mem_of_getElem? (l := tables_1_3) (i := 232) (by decide +kernel))) rfl
theorem wb_X3_waysAmong : mm_CB yX3_waysAmong cX3_waysAmong 5 (some .int) 1 := ⟨mw_767, mw_57, ⟨by decide, by decide⟩, by decide +kernel, by decide⟩
theorem mw_764 : Jvm.Cond.methodLink "ServerLine$Longing" (82 : Nat) ({ cls := "ServerLine$Line", name := "waysAmong", desc := "([I)I" } : Jvm.MethodName) ∈ mm_G := mm_in (mt_3 (List.mem_of_getElem? (l := tables_1_3) (i := 229) (by decide +kernel))) rfl
theorem mw_765 : Jvm.Cond.instanceMethod ({ cls := "ServerLine$Line", name := "waysAmong", desc := "([I)I" } : Jvm.MethodName) ∈ mm_G := mm_in (mt_3 (List.mem_of_getElem? (l := tables_1_3) (i := 230) (by decide +kernel))) rfl
theorem mw_766 : Jvm.Cond.selects "ServerLine$Line" ({ cls := "ServerLine$Line", name := "waysAmong", desc := "([I)I" } : Jvm.MethodName) ({ cls := "ServerLine$Line", name := "waysAmong", desc := "([I)I" } : Jvm.MethodName) ∈ mm_G := mm_in (mt_3 (List.mem_of_getElem? (l := tables_1_3) (i := 231) (by decide +kernel))) rfl
theorem wv_X4_82 : mm_VW RX4 82 yX3_waysAmong := ⟨mw_764, mw_765, mw_766⟩
theorem mw_762 : Jvm.Cond.code ({ cls := "ServerLine$Longing", name := "stored", desc := "()I" } : Jvm.MethodName) prog_6_method_5_code (1 : Nat) (Option.some Jvm.ClassFile.FieldType.int) ∈ mm_G := mm_in (mt_3 (List.mem_of_getElem? (l := tables_1_3) (i := 227) (by decide +kernel))) rfl
theorem mw_67 : Jvm.Cond.initialized "ServerLine$Longing" ∈ mm_G := mm_in (mt_1 (List.mem_of_getElem? (l := tables_1_1) (i := 12) (by decide +kernel))) rfl
theorem wb_X4_stored : mm_CB yX4_stored cX4_stored 1 (some .int) 0 := ⟨mw_762, mw_67, ⟨by decide, by decide⟩, by decide +kernel, by decide⟩
theorem mw_759 : Jvm.Cond.methodLink "ServerLine$Longing" (40 : Nat) ({ cls := "ServerLine$Longing", name := "stored", desc := "()I" } : Jvm.MethodName) ∈ mm_G := mm_in (mt_3 (List.mem_of_getElem? (l := tables_1_3) (i := 224) (by decide +kernel))) rfl
theorem mw_761 : Jvm.Cond.instanceMethod ({ cls := "ServerLine$Longing", name := "stored", desc := "()I" } : Jvm.MethodName) ∈ mm_G := mm_in (mt_3 (List.mem_of_getElem? (l := tables_1_3) (i := 226) (by decide +kernel))) rfl
theorem mw_22 : Cond.selects "ServerLine$Longing" ⟨"ServerLine$Longing", "stored", "()I"⟩ ⟨"ServerLine$Longing", "stored", "()I"⟩ ∈ mm_G := mm_in (List.mem_append_left _ (List.mem_of_getElem? (i := 22) (by decide +kernel))) rfl
theorem wv_X4_40 : mm_VW RX4 40 yX4_stored := ⟨mw_759, mw_761, mw_22⟩
theorem mw_756 : Jvm.Cond.code ({ cls := "ServerLine$Longing", name := "behind", desc := "(LServerLine$Row;I)I" } : Jvm.MethodName) prog_6_method_2_code (3 : Nat) (Option.some Jvm.ClassFile.FieldType.int) ∈ mm_G := mm_in (mt_3 (List.mem_of_getElem? (l := tables_1_3) (i := 221) (by decide +kernel))) rfl
theorem wb_X4_behind : mm_CB yX4_behind cX4_behind 3 (some .int) 2 := ⟨mw_756, mw_67, ⟨by decide, by decide⟩, by decide +kernel, by decide⟩
theorem mw_753 : Jvm.Cond.methodLink "ServerLine" (176 : Nat) ({ cls := "ServerLine$Longing", name := "behind", desc := "(LServerLine$Row;I)I" } : Jvm.MethodName) ∈ mm_G := mm_in (mt_3 (List.mem_of_getElem? (l := tables_1_3) (i := 218) (by decide +kernel))) rfl
theorem mw_754 : Jvm.Cond.instanceMethod ({ cls := "ServerLine$Longing", name := "behind", desc := "(LServerLine$Row;I)I" } : Jvm.MethodName) ∈ mm_G := mm_in (mt_3 (List.mem_of_getElem? (l := tables_1_3) (i := 219) (by decide +kernel))) rfl
theorem mw_755 : Jvm.Cond.selects "ServerLine$Longing" ({ cls := "ServerLine$Longing", name := "behind", desc := "(LServerLine$Row;I)I" } : Jvm.MethodName) ({ cls := "ServerLine$Longing", name := "behind", desc := "(LServerLine$Row;I)I" } : Jvm.MethodName) ∈ mm_G := mm_in (mt_3 (List.mem_of_getElem? (l := tables_1_3) (i := 220) (by decide +kernel))) rfl
theorem wv_X11_176 : mm_VW RX11 176 yX4_behind := ⟨mw_753, mw_754, mw_755⟩
theorem mw_776 : Jvm.Cond.methodLink "ServerLine$Longing" (44 : Nat) ({ cls := "ServerLine$Ahead", name := "begin", desc := "()V" } : Jvm.MethodName) ∈ mm_G := mm_in (mt_4 (List.mem_of_getElem? (l := tables_1_4) (i := 1) (by decide +kernel))) rfl
theorem mw_777 : Jvm.Cond.sameMethod "ServerLine$Ahead" "ServerLine$Rule" "begin" "()V" ∈ mm_G := mm_in (mt_4 (List.mem_of_getElem? (l := tables_1_4) (i := 2) (by decide +kernel))) rfl
theorem mw_779 : Jvm.Cond.selects "ServerLine$Ahead" ({ cls := "ServerLine$Ahead", name := "begin", desc := "()V" } : Jvm.MethodName) ({ cls := "ServerLine$Rule", name := "begin", desc := "()V" } : Jvm.MethodName) ∈ mm_G := mm_in (mt_4 (List.mem_of_getElem? (l := tables_1_4) (i := 4) (by decide +kernel))) rfl
theorem wu_X4_44_X0 : mm_UW RX4 44 RX0 ⟨"ServerLine$Ahead", "begin", "()V"⟩ yX7_begin := ⟨mw_776, mw_777, mw_779, mw_520, rfl⟩
theorem mw_780 : Jvm.Cond.methodLink "ServerLine$Longing" (47 : Nat) ({ cls := "ServerLine$Both", name := "begin", desc := "()V" } : Jvm.MethodName) ∈ mm_G := mm_in (mt_4 (List.mem_of_getElem? (l := tables_1_4) (i := 5) (by decide +kernel))) rfl
theorem mw_781 : Jvm.Cond.sameMethod "ServerLine$Both" "ServerLine$Rule" "begin" "()V" ∈ mm_G := mm_in (mt_4 (List.mem_of_getElem? (l := tables_1_4) (i := 6) (by decide +kernel))) rfl
theorem mw_782 : Jvm.Cond.selects "ServerLine$Both" ({ cls := "ServerLine$Both", name := "begin", desc := "()V" } : Jvm.MethodName) ({ cls := "ServerLine$Rule", name := "begin", desc := "()V" } : Jvm.MethodName) ∈ mm_G := mm_in (mt_4 (List.mem_of_getElem? (l := tables_1_4) (i := 7) (by decide +kernel))) rfl
theorem wu_X4_47_X1 : mm_UW RX4 47 RX1 ⟨"ServerLine$Both", "begin", "()V"⟩ yX7_begin := ⟨mw_780, mw_781, mw_782, mw_520, rfl⟩
theorem mw_196 : Jvm.Cond.fieldLink "ServerLine$Longing" (48 : Nat) "ServerLine$Row" "length" "I" ∈ mm_G := mm_in (mt_1 (List.mem_of_getElem? (l := tables_1_1) (i := 141) (by decide +kernel))) rfl
theorem fl_X4_48_X6 : mm_FL RX4 48 "ServerLine$Row" 6 RX6 TX6 3 2 := ⟨rfl, by decide, uw_X6, mw_196, Or.inl rfl⟩
theorem mw_191 : Jvm.Cond.fieldLink "ServerLine$Longing" (52 : Nat) "ServerLine$Row" "points" "[I" ∈ mm_G := mm_in (mt_1 (List.mem_of_getElem? (l := tables_1_1) (i := 136) (by decide +kernel))) rfl
theorem fl_X4_52_X6 : mm_FL RX4 52 "ServerLine$Row" 6 RX6 TX6 3 0 := ⟨rfl, by decide, uw_X6, mw_191, Or.inl rfl⟩
theorem mw_251 : Jvm.Cond.sameField "ServerLine$Both" "ServerLine$Rule" "spent" "I" ∈ mm_G := mm_in (mt_1 (List.mem_of_getElem? (l := tables_1_1) (i := 196) (by decide +kernel))) rfl
theorem mw_250 : Jvm.Cond.fieldLink "ServerLine$Longing" (60 : Nat) "ServerLine$Both" "spent" "I" ∈ mm_G := mm_in (mt_1 (List.mem_of_getElem? (l := tables_1_1) (i := 195) (by decide +kernel))) rfl
theorem fl_X4_60_X1 : mm_FL RX4 60 "ServerLine$Both" 1 RX1 TX1 4 2 := ⟨rfl, by decide, uw_X1, mw_250, Or.inr mw_251⟩
theorem mw_253 : Jvm.Cond.sameField "ServerLine$Ahead" "ServerLine$Rule" "spent" "I" ∈ mm_G := mm_in (mt_1 (List.mem_of_getElem? (l := tables_1_1) (i := 198) (by decide +kernel))) rfl
theorem mw_252 : Jvm.Cond.fieldLink "ServerLine$Longing" (63 : Nat) "ServerLine$Ahead" "spent" "I" ∈ mm_G := mm_in (mt_1 (List.mem_of_getElem? (l := tables_1_1) (i := 197) (by decide +kernel))) rfl
theorem fl_X4_63_X0 : mm_FL RX4 63 "ServerLine$Ahead" 0 RX0 TX0 8 2 := ⟨rfl, by decide, uw_X0, mw_252, Or.inr mw_253⟩
theorem mw_787 : Jvm.Cond.methodLink "ServerLine$Longing" (64 : Nat) ({ cls := "ServerLine$Both", name := "meet", desc := "(II)V" } : Jvm.MethodName) ∈ mm_G := mm_in (mt_4 (List.mem_of_getElem? (l := tables_1_4) (i := 12) (by decide +kernel))) rfl
theorem wv_X4_64 : mm_VW RX4 64 yX1_meet := ⟨mw_787, mw_601, mw_1207⟩
theorem mw_788 : Jvm.Cond.methodLink "ServerLine$Longing" (68 : Nat) ({ cls := "ServerLine$Ahead", name := "meet", desc := "(II)V" } : Jvm.MethodName) ∈ mm_G := mm_in (mt_4 (List.mem_of_getElem? (l := tables_1_4) (i := 13) (by decide +kernel))) rfl
theorem mw_1208 : Jvm.Cond.selects "ServerLine$Ahead" ({ cls := "ServerLine$Ahead", name := "meet", desc := "(II)V" } : Jvm.MethodName) ({ cls := "ServerLine$Ahead", name := "meet", desc := "(II)V" } : Jvm.MethodName) ∈ mm_G := mm_in (mt_5 (List.mem_of_getElem? (l := tables_1_5) (i := 193) (by decide +kernel))) rfl
theorem wv_X4_68 : mm_VW RX4 68 yX0_meet := ⟨mw_788, mw_578, mw_1208⟩
theorem mw_786 : Jvm.Cond.code ({ cls := "ServerLine$Longing", name := "paysAt", desc := "(I)Z" } : Jvm.MethodName) prog_6_method_4_code (5 : Nat) (Option.some Jvm.ClassFile.FieldType.boolean) ∈ mm_G := mm_in (mt_4 (List.mem_of_getElem? (l := tables_1_4) (i := 11) (by decide +kernel))) rfl
theorem wb_X4_paysAt : mm_CB yX4_paysAt cX4_paysAt 5 (some .boolean) 1 := ⟨mw_786, mw_67, ⟨by decide, by decide⟩, by decide +kernel, by decide⟩
theorem mw_783 : Jvm.Cond.methodLink "ServerLine$Longing" (56 : Nat) ({ cls := "ServerLine$Longing", name := "paysAt", desc := "(I)Z" } : Jvm.MethodName) ∈ mm_G := mm_in (mt_4 (List.mem_of_getElem? (l := tables_1_4) (i := 8) (by decide +kernel))) rfl
theorem mw_785 : Jvm.Cond.instanceMethod ({ cls := "ServerLine$Longing", name := "paysAt", desc := "(I)Z" } : Jvm.MethodName) ∈ mm_G := mm_in (mt_4 (List.mem_of_getElem? (l := tables_1_4) (i := 10) (by decide +kernel))) rfl
theorem mw_23 : Cond.selects "ServerLine$Longing" ⟨"ServerLine$Longing", "paysAt", "(I)Z"⟩ ⟨"ServerLine$Longing", "paysAt", "(I)Z"⟩ ∈ mm_G := mm_in (List.mem_append_left _ (List.mem_of_getElem? (i := 23) (by decide +kernel))) rfl
theorem wv_X4_56 : mm_VW RX4 56 yX4_paysAt := ⟨mw_783, mw_785, mw_23⟩
theorem mw_775 : Jvm.Cond.code ({ cls := "ServerLine$Longing", name := "firstUnpaid", desc := "(LServerLine$Row;)I" } : Jvm.MethodName) prog_6_method_3_code (3 : Nat) (Option.some Jvm.ClassFile.FieldType.int) ∈ mm_G := mm_in (mt_4 (List.mem_of_getElem? (l := tables_1_4) (i := 0) (by decide +kernel))) rfl
theorem wb_X4_firstUnpaid : mm_CB yX4_firstUnpaid cX4_firstUnpaid 3 (some .int) 1 := ⟨mw_775, mw_67, ⟨by decide, by decide⟩, by decide +kernel, by decide⟩
theorem mw_772 : Jvm.Cond.methodLink "ServerLine" (180 : Nat) ({ cls := "ServerLine$Longing", name := "firstUnpaid", desc := "(LServerLine$Row;)I" } : Jvm.MethodName) ∈ mm_G := mm_in (mt_3 (List.mem_of_getElem? (l := tables_1_3) (i := 237) (by decide +kernel))) rfl
theorem mw_773 : Jvm.Cond.instanceMethod ({ cls := "ServerLine$Longing", name := "firstUnpaid", desc := "(LServerLine$Row;)I" } : Jvm.MethodName) ∈ mm_G := mm_in (mt_3 (List.mem_of_getElem? (l := tables_1_3) (i := 238) (by decide +kernel))) rfl
theorem mw_774 : Jvm.Cond.selects "ServerLine$Longing" ({ cls := "ServerLine$Longing", name := "firstUnpaid", desc := "(LServerLine$Row;)I" } : Jvm.MethodName) ({ cls := "ServerLine$Longing", name := "firstUnpaid", desc := "(LServerLine$Row;)I" } : Jvm.MethodName) ∈ mm_G := mm_in (mt_3 (List.mem_of_getElem? (l := tables_1_3) (i := 239) (by decide +kernel))) rfl
theorem wv_X11_180 : mm_VW RX11 180 yX4_firstUnpaid := ⟨mw_772, mw_773, mw_774⟩
theorem mw_795 : Jvm.Cond.code ({ cls := "ServerLine", name := "isSheet", desc := "(I)Z" } : Jvm.MethodName) prog_1_method_31_code (1 : Nat) (Option.some Jvm.ClassFile.FieldType.boolean) ∈ mm_G := mm_in (mt_4 (List.mem_of_getElem? (l := tables_1_4) (i := 20) (by decide +kernel))) rfl
theorem wb_X11_isSheet : mm_CB yX11_isSheet cX11_isSheet 1 (some .boolean) 1 := ⟨mw_795, mw_56, ⟨by decide, by decide⟩, by decide +kernel, by decide⟩
theorem mw_793 : Jvm.Cond.methodLink "ServerLine" (183 : Nat) ({ cls := "ServerLine", name := "isSheet", desc := "(I)Z" } : Jvm.MethodName) ∈ mm_G := mm_in (mt_4 (List.mem_of_getElem? (l := tables_1_4) (i := 18) (by decide +kernel))) rfl
theorem mw_794 : Jvm.Cond.static ({ cls := "ServerLine", name := "isSheet", desc := "(I)Z" } : Jvm.MethodName) ∈ mm_G := mm_in (mt_4 (List.mem_of_getElem? (l := tables_1_4) (i := 19) (by decide +kernel))) rfl
theorem ws_X11_183 : mm_SW RX11 183 yX11_isSheet := ⟨mw_793, mw_794⟩
theorem mw_798 : Jvm.Cond.code ({ cls := "ServerLine", name := "isForm", desc := "(I)Z" } : Jvm.MethodName) prog_1_method_32_code (1 : Nat) (Option.some Jvm.ClassFile.FieldType.boolean) ∈ mm_G := mm_in (mt_4 (List.mem_of_getElem? (l := tables_1_4) (i := 23) (by decide +kernel))) rfl
theorem wb_X11_isForm : mm_CB yX11_isForm cX11_isForm 1 (some .boolean) 1 := ⟨mw_798, mw_56, ⟨by decide, by decide⟩, by decide +kernel, by decide⟩
theorem mw_796 : Jvm.Cond.methodLink "ServerLine" (186 : Nat) ({ cls := "ServerLine", name := "isForm", desc := "(I)Z" } : Jvm.MethodName) ∈ mm_G := mm_in (mt_4 (List.mem_of_getElem? (l := tables_1_4) (i := 21) (by decide +kernel))) rfl
theorem mw_797 : Jvm.Cond.static ({ cls := "ServerLine", name := "isForm", desc := "(I)Z" } : Jvm.MethodName) ∈ mm_G := mm_in (mt_4 (List.mem_of_getElem? (l := tables_1_4) (i := 22) (by decide +kernel))) rfl
theorem ws_X11_186 : mm_SW RX11 186 yX11_isForm := ⟨mw_796, mw_797⟩
theorem mw_169 : Jvm.Cond.fieldLink "ServerLine$Sheets" (20 : Nat) "ServerLine$Sheets" "sizes" "[I" ∈ mm_G := mm_in (mt_1 (List.mem_of_getElem? (l := tables_1_1) (i := 114) (by decide +kernel))) rfl
theorem fl_X8_20_X8 : mm_FL RX8 20 "ServerLine$Sheets" 7 RX8 TX8 4 2 := ⟨rfl, by decide, uw_X8, mw_169, Or.inl rfl⟩
theorem mw_164 : Jvm.Cond.fieldLink "ServerLine$Sheets" (11 : Nat) "ServerLine$Sheets" "items" "[[I" ∈ mm_G := mm_in (mt_1 (List.mem_of_getElem? (l := tables_1_1) (i := 109) (by decide +kernel))) rfl
theorem fl_X8_11_X8 : mm_FL RX8 11 "ServerLine$Sheets" 7 RX8 TX8 4 0 := ⟨rfl, by decide, uw_X8, mw_164, Or.inl rfl⟩
theorem mw_802 : Jvm.Cond.code ({ cls := "ServerLine$Sheets", name := "renew", desc := "(III)V" } : Jvm.MethodName) prog_10_method_5_code (5 : Nat) (Option.none : Option Jvm.ClassFile.FieldType) ∈ mm_G := mm_in (mt_4 (List.mem_of_getElem? (l := tables_1_4) (i := 27) (by decide +kernel))) rfl
theorem wb_X8_renew : mm_CB yX8_renew cX8_renew 5 none 3 := ⟨mw_802, mw_58, ⟨by decide, by decide⟩, by decide +kernel, by decide⟩
theorem mw_799 : Jvm.Cond.methodLink "ServerLine" (189 : Nat) ({ cls := "ServerLine$Sheets", name := "renew", desc := "(III)V" } : Jvm.MethodName) ∈ mm_G := mm_in (mt_4 (List.mem_of_getElem? (l := tables_1_4) (i := 24) (by decide +kernel))) rfl
theorem mw_800 : Jvm.Cond.instanceMethod ({ cls := "ServerLine$Sheets", name := "renew", desc := "(III)V" } : Jvm.MethodName) ∈ mm_G := mm_in (mt_4 (List.mem_of_getElem? (l := tables_1_4) (i := 25) (by decide +kernel))) rfl
theorem mw_801 : Jvm.Cond.selects "ServerLine$Sheets" ({ cls := "ServerLine$Sheets", name := "renew", desc := "(III)V" } : Jvm.MethodName) ({ cls := "ServerLine$Sheets", name := "renew", desc := "(III)V" } : Jvm.MethodName) ∈ mm_G := mm_in (mt_4 (List.mem_of_getElem? (l := tables_1_4) (i := 26) (by decide +kernel))) rfl
theorem wv_X11_189 : mm_VW RX11 189 yX8_renew := ⟨mw_799, mw_800, mw_801⟩
theorem mw_807 : Jvm.Cond.methodLink "ServerLine" (193 : Nat) ({ cls := "ServerLine$Sheets", name := "isLost", desc := "(I)Z" } : Jvm.MethodName) ∈ mm_G := mm_in (mt_4 (List.mem_of_getElem? (l := tables_1_4) (i := 32) (by decide +kernel))) rfl
theorem wv_X11_193 : mm_VW RX11 193 yX8_isLost := ⟨mw_807, mw_497, mw_498⟩
theorem mw_171 : Jvm.Cond.fieldLink "ServerLine" (196 : Nat) "ServerLine$Sheets" "sizes" "[I" ∈ mm_G := mm_in (mt_1 (List.mem_of_getElem? (l := tables_1_1) (i := 116) (by decide +kernel))) rfl
theorem fl_X11_196_X8 : mm_FL RX11 196 "ServerLine$Sheets" 7 RX8 TX8 4 2 := ⟨rfl, by decide, uw_X8, mw_171, Or.inl rfl⟩
theorem mw_811 : Jvm.Cond.code ({ cls := "ServerLine$Sheets", name := "drop", desc := "(I)V" } : Jvm.MethodName) prog_10_method_6_code (2 : Nat) (Option.none : Option Jvm.ClassFile.FieldType) ∈ mm_G := mm_in (mt_4 (List.mem_of_getElem? (l := tables_1_4) (i := 36) (by decide +kernel))) rfl
theorem wb_X8_drop : mm_CB yX8_drop cX8_drop 2 none 1 := ⟨mw_811, mw_58, ⟨by decide, by decide⟩, by decide +kernel, by decide⟩
theorem mw_808 : Jvm.Cond.methodLink "ServerLine" (199 : Nat) ({ cls := "ServerLine$Sheets", name := "drop", desc := "(I)V" } : Jvm.MethodName) ∈ mm_G := mm_in (mt_4 (List.mem_of_getElem? (l := tables_1_4) (i := 33) (by decide +kernel))) rfl
theorem mw_809 : Jvm.Cond.instanceMethod ({ cls := "ServerLine$Sheets", name := "drop", desc := "(I)V" } : Jvm.MethodName) ∈ mm_G := mm_in (mt_4 (List.mem_of_getElem? (l := tables_1_4) (i := 34) (by decide +kernel))) rfl
theorem mw_810 : Jvm.Cond.selects "ServerLine$Sheets" ({ cls := "ServerLine$Sheets", name := "drop", desc := "(I)V" } : Jvm.MethodName) ({ cls := "ServerLine$Sheets", name := "drop", desc := "(I)V" } : Jvm.MethodName) ∈ mm_G := mm_in (mt_4 (List.mem_of_getElem? (l := tables_1_4) (i := 35) (by decide +kernel))) rfl
theorem wv_X11_199 : mm_VW RX11 199 yX8_drop := ⟨mw_808, mw_809, mw_810⟩
theorem mw_168 : Jvm.Cond.fieldLink "ServerLine" (213 : Nat) "ServerLine$Sheets" "forms" "[I" ∈ mm_G := mm_in (mt_1 (List.mem_of_getElem? (l := tables_1_1) (i := 113) (by decide +kernel))) rfl
theorem fl_X11_213_X8 : mm_FL RX11 213 "ServerLine$Sheets" 7 RX8 TX8 4 1 := ⟨rfl, by decide, uw_X8, mw_168, Or.inl rfl⟩
theorem mw_823 : Jvm.Cond.code ({ cls := "ServerLine$Sheets", name := "hasItems", desc := "(III)Z" } : Jvm.MethodName) prog_10_method_7_code (4 : Nat) (Option.some Jvm.ClassFile.FieldType.boolean) ∈ mm_G := mm_in (mt_4 (List.mem_of_getElem? (l := tables_1_4) (i := 48) (by decide +kernel))) rfl
theorem wb_X8_hasItems : mm_CB yX8_hasItems cX8_hasItems 4 (some .boolean) 3 := ⟨mw_823, mw_58, ⟨by decide, by decide⟩, by decide +kernel, by decide⟩
theorem mw_820 : Jvm.Cond.methodLink "ServerLine" (216 : Nat) ({ cls := "ServerLine$Sheets", name := "hasItems", desc := "(III)Z" } : Jvm.MethodName) ∈ mm_G := mm_in (mt_4 (List.mem_of_getElem? (l := tables_1_4) (i := 45) (by decide +kernel))) rfl
theorem mw_821 : Jvm.Cond.instanceMethod ({ cls := "ServerLine$Sheets", name := "hasItems", desc := "(III)Z" } : Jvm.MethodName) ∈ mm_G := mm_in (mt_4 (List.mem_of_getElem? (l := tables_1_4) (i := 46) (by decide +kernel))) rfl
theorem mw_822 : Jvm.Cond.selects "ServerLine$Sheets" ({ cls := "ServerLine$Sheets", name := "hasItems", desc := "(III)Z" } : Jvm.MethodName) ({ cls := "ServerLine$Sheets", name := "hasItems", desc := "(III)Z" } : Jvm.MethodName) ∈ mm_G := mm_in (mt_4 (List.mem_of_getElem? (l := tables_1_4) (i := 47) (by decide +kernel))) rfl
theorem wv_X11_216 : mm_VW RX11 216 yX8_hasItems := ⟨mw_820, mw_821, mw_822⟩
theorem mw_819 : Jvm.Cond.code ({ cls := "ServerLine", name := "itemRefusal", desc := "(III)I" } : Jvm.MethodName) prog_1_method_37_code (4 : Nat) (Option.some Jvm.ClassFile.FieldType.int) ∈ mm_G := mm_in (mt_4 (List.mem_of_getElem? (l := tables_1_4) (i := 44) (by decide +kernel))) rfl
theorem wb_X11_itemRefusal : mm_CB yX11_itemRefusal cX11_itemRefusal 4 (some .int) 3 := ⟨mw_819, mw_56, ⟨by decide, by decide⟩, by decide +kernel, by decide⟩
theorem mw_816 : Jvm.Cond.methodLink "ServerLine" (202 : Nat) ({ cls := "ServerLine", name := "itemRefusal", desc := "(III)I" } : Jvm.MethodName) ∈ mm_G := mm_in (mt_4 (List.mem_of_getElem? (l := tables_1_4) (i := 41) (by decide +kernel))) rfl
theorem mw_818 : Jvm.Cond.instanceMethod ({ cls := "ServerLine", name := "itemRefusal", desc := "(III)I" } : Jvm.MethodName) ∈ mm_G := mm_in (mt_4 (List.mem_of_getElem? (l := tables_1_4) (i := 43) (by decide +kernel))) rfl
theorem mw_24 : Cond.selects "ServerLine" ⟨"ServerLine", "itemRefusal", "(III)I"⟩ ⟨"ServerLine", "itemRefusal", "(III)I"⟩ ∈ mm_G := mm_in (List.mem_append_left _ (List.mem_of_getElem? (i := 24) (by decide +kernel))) rfl
theorem wv_X11_202 : mm_VW RX11 202 yX11_itemRefusal := ⟨mw_816, mw_818, mw_24⟩
theorem mw_830 : Jvm.Cond.code ({ cls := "ServerLine$Sheets", name := "cut", desc := "(II)I" } : Jvm.MethodName) prog_10_method_9_code (2 : Nat) (Option.some Jvm.ClassFile.FieldType.int) ∈ mm_G := mm_in (mt_4 (List.mem_of_getElem? (l := tables_1_4) (i := 55) (by decide +kernel))) rfl
theorem wb_X8_cut : mm_CB yX8_cut cX8_cut 2 (some .int) 2 := ⟨mw_830, mw_58, ⟨by decide, by decide⟩, by decide +kernel, by decide⟩
theorem mw_828 : Jvm.Cond.methodLink "ServerLine$Sheets" (31 : Nat) ({ cls := "ServerLine$Sheets", name := "cut", desc := "(II)I" } : Jvm.MethodName) ∈ mm_G := mm_in (mt_4 (List.mem_of_getElem? (l := tables_1_4) (i := 53) (by decide +kernel))) rfl
theorem mw_829 : Jvm.Cond.static ({ cls := "ServerLine$Sheets", name := "cut", desc := "(II)I" } : Jvm.MethodName) ∈ mm_G := mm_in (mt_4 (List.mem_of_getElem? (l := tables_1_4) (i := 54) (by decide +kernel))) rfl
theorem ws_X8_31 : mm_SW RX8 31 yX8_cut := ⟨mw_828, mw_829⟩
theorem mw_827 : Jvm.Cond.code ({ cls := "ServerLine$Sheets", name := "write", desc := "(III)V" } : Jvm.MethodName) prog_10_method_8_code (4 : Nat) (Option.none : Option Jvm.ClassFile.FieldType) ∈ mm_G := mm_in (mt_4 (List.mem_of_getElem? (l := tables_1_4) (i := 52) (by decide +kernel))) rfl
theorem wb_X8_write : mm_CB yX8_write cX8_write 4 none 3 := ⟨mw_827, mw_58, ⟨by decide, by decide⟩, by decide +kernel, by decide⟩
theorem mw_824 : Jvm.Cond.methodLink "ServerLine" (205 : Nat) ({ cls := "ServerLine$Sheets", name := "write", desc := "(III)V" } : Jvm.MethodName) ∈ mm_G := mm_in (mt_4 (List.mem_of_getElem? (l := tables_1_4) (i := 49) (by decide +kernel))) rfl
theorem mw_825 : Jvm.Cond.instanceMethod ({ cls := "ServerLine$Sheets", name := "write", desc := "(III)V" } : Jvm.MethodName) ∈ mm_G := mm_in (mt_4 (List.mem_of_getElem? (l := tables_1_4) (i := 50) (by decide +kernel))) rfl
theorem mw_826 : Jvm.Cond.selects "ServerLine$Sheets" ({ cls := "ServerLine$Sheets", name := "write", desc := "(III)V" } : Jvm.MethodName) ({ cls := "ServerLine$Sheets", name := "write", desc := "(III)V" } : Jvm.MethodName) ∈ mm_G := mm_in (mt_4 (List.mem_of_getElem? (l := tables_1_4) (i := 51) (by decide +kernel))) rfl
theorem wv_X11_205 : mm_VW RX11 205 yX8_write := ⟨mw_824, mw_825, mw_826⟩
theorem mw_166 : Jvm.Cond.fieldLink "ServerLine" (209 : Nat) "ServerLine$Sheets" "items" "[[I" ∈ mm_G := mm_in (mt_1 (List.mem_of_getElem? (l := tables_1_1) (i := 111) (by decide +kernel))) rfl
theorem fl_X11_209_X8 : mm_FL RX11 209 "ServerLine$Sheets" 7 RX8 TX8 4 0 := ⟨rfl, by decide, uw_X8, mw_166, Or.inl rfl⟩
theorem mw_835 : Jvm.Cond.constant "ServerLine" (208 : Nat) (-2147483648 : Int32) ∈ mm_G := mm_in (mt_4 (List.mem_of_getElem? (l := tables_1_4) (i := 60) (by decide +kernel))) rfl
theorem mw_840 : Jvm.Cond.methodLink "ServerLine" (219 : Nat) ({ cls := "java/lang/System", name := "arraycopy", desc := "(Ljava/lang/Object;ILjava/lang/Object;II)V" } : Jvm.MethodName) ∈ mm_G := mm_in (mt_4 (List.mem_of_getElem? (l := tables_1_4) (i := 65) (by decide +kernel))) rfl
theorem mw_842 : Jvm.Cond.native ({ cls := "java/lang/System", name := "arraycopy", desc := "(Ljava/lang/Object;ILjava/lang/Object;II)V" } : Jvm.MethodName) ∈ mm_G := mm_in (mt_4 (List.mem_of_getElem? (l := tables_1_4) (i := 67) (by decide +kernel))) rfl
theorem mw_841 : Jvm.Cond.static ({ cls := "java/lang/System", name := "arraycopy", desc := "(Ljava/lang/Object;ILjava/lang/Object;II)V" } : Jvm.MethodName) ∈ mm_G := mm_in (mt_4 (List.mem_of_getElem? (l := tables_1_4) (i := 66) (by decide +kernel))) rfl
theorem mw_70 : Jvm.Cond.initialized "java/lang/System" ∈ mm_G := mm_in (mt_1 (List.mem_of_getElem? (l := tables_1_1) (i := 15) (by decide +kernel))) rfl
theorem mw_847 : Jvm.Cond.methodLink "ServerLine" (225 : Nat) ({ cls := "ServerLine$Ahead", name := "begin", desc := "()V" } : Jvm.MethodName) ∈ mm_G := mm_in (mt_4 (List.mem_of_getElem? (l := tables_1_4) (i := 72) (by decide +kernel))) rfl
theorem wu_X11_225_X0 : mm_UW RX11 225 RX0 ⟨"ServerLine$Ahead", "begin", "()V"⟩ yX7_begin := ⟨mw_847, mw_777, mw_779, mw_520, rfl⟩
theorem mw_848 : Jvm.Cond.methodLink "ServerLine" (228 : Nat) ({ cls := "java/lang/Math", name := "min", desc := "(II)I" } : Jvm.MethodName) ∈ mm_G := mm_in (mt_4 (List.mem_of_getElem? (l := tables_1_4) (i := 73) (by decide +kernel))) rfl
theorem mw_192 : Jvm.Cond.fieldLink "ServerLine" (233 : Nat) "ServerLine$Row" "points" "[I" ∈ mm_G := mm_in (mt_1 (List.mem_of_getElem? (l := tables_1_1) (i := 137) (by decide +kernel))) rfl
theorem fl_X11_233_X6 : mm_FL RX11 233 "ServerLine$Row" 6 RX6 TX6 3 0 := ⟨rfl, by decide, uw_X6, mw_192, Or.inl rfl⟩
theorem mw_849 : Jvm.Cond.methodLink "ServerLine" (236 : Nat) ({ cls := "ServerLine$Ahead", name := "meet", desc := "(II)V" } : Jvm.MethodName) ∈ mm_G := mm_in (mt_4 (List.mem_of_getElem? (l := tables_1_4) (i := 74) (by decide +kernel))) rfl
theorem wv_X11_236 : mm_VW RX11 236 yX0_meet := ⟨mw_849, mw_578, mw_1208⟩
theorem mw_262 : Jvm.Cond.sameField "ServerLine$Ahead" "ServerLine$Rule" "gone" "I" ∈ mm_G := mm_in (mt_1 (List.mem_of_getElem? (l := tables_1_1) (i := 207) (by decide +kernel))) rfl
theorem mw_261 : Jvm.Cond.fieldLink "ServerLine" (239 : Nat) "ServerLine$Ahead" "gone" "I" ∈ mm_G := mm_in (mt_1 (List.mem_of_getElem? (l := tables_1_1) (i := 206) (by decide +kernel))) rfl
theorem fl_X11_239_X0 : mm_FL RX11 239 "ServerLine$Ahead" 0 RX0 TX0 8 3 := ⟨rfl, by decide, uw_X0, mw_261, Or.inr mw_262⟩
theorem mw_173 : Jvm.Cond.fieldLink "ServerLine" (242 : Nat) "ServerLine$Sheets" "finding" "I" ∈ mm_G := mm_in (mt_1 (List.mem_of_getElem? (l := tables_1_1) (i := 118) (by decide +kernel))) rfl
theorem fl_X11_242_X8 : mm_FL RX11 242 "ServerLine$Sheets" 7 RX8 TX8 4 3 := ⟨rfl, by decide, uw_X8, mw_173, Or.inl rfl⟩
theorem mw_858 : Jvm.Cond.methodLink "ServerLine$Sheets" (27 : Nat) ({ cls := "ServerLine$Sheets", name := "isLost", desc := "(I)Z" } : Jvm.MethodName) ∈ mm_G := mm_in (mt_4 (List.mem_of_getElem? (l := tables_1_4) (i := 83) (by decide +kernel))) rfl
theorem wv_X8_27 : mm_VW RX8 27 yX8_isLost := ⟨mw_858, mw_497, mw_498⟩
theorem mw_857 : Jvm.Cond.code ({ cls := "ServerLine$Sheets", name := "keptCount", desc := "()I" } : Jvm.MethodName) prog_10_method_4_code (3 : Nat) (Option.some Jvm.ClassFile.FieldType.int) ∈ mm_G := mm_in (mt_4 (List.mem_of_getElem? (l := tables_1_4) (i := 82) (by decide +kernel))) rfl
theorem wb_X8_keptCount : mm_CB yX8_keptCount cX8_keptCount 3 (some .int) 0 := ⟨mw_857, mw_58, ⟨by decide, by decide⟩, by decide +kernel, by decide⟩
theorem mw_854 : Jvm.Cond.methodLink "ServerLine" (245 : Nat) ({ cls := "ServerLine$Sheets", name := "keptCount", desc := "()I" } : Jvm.MethodName) ∈ mm_G := mm_in (mt_4 (List.mem_of_getElem? (l := tables_1_4) (i := 79) (by decide +kernel))) rfl
theorem mw_855 : Jvm.Cond.instanceMethod ({ cls := "ServerLine$Sheets", name := "keptCount", desc := "()I" } : Jvm.MethodName) ∈ mm_G := mm_in (mt_4 (List.mem_of_getElem? (l := tables_1_4) (i := 80) (by decide +kernel))) rfl
theorem mw_856 : Jvm.Cond.selects "ServerLine$Sheets" ({ cls := "ServerLine$Sheets", name := "keptCount", desc := "()I" } : Jvm.MethodName) ({ cls := "ServerLine$Sheets", name := "keptCount", desc := "()I" } : Jvm.MethodName) ∈ mm_G := mm_in (mt_4 (List.mem_of_getElem? (l := tables_1_4) (i := 81) (by decide +kernel))) rfl
theorem wv_X11_245 : mm_VW RX11 245 yX8_keptCount := ⟨mw_854, mw_855, mw_856⟩
theorem mw_863 : Jvm.Cond.constantLong "ServerLine" (249 : Nat) (17 : Int64) ∈ mm_G := mm_in (mt_4 (List.mem_of_getElem? (l := tables_1_4) (i := 88) (by decide +kernel))) rfl
theorem mw_864 : Jvm.Cond.constantLong "ServerLine" (251 : Nat) (31 : Int64) ∈ mm_G := mm_in (mt_4 (List.mem_of_getElem? (l := tables_1_4) (i := 89) (by decide +kernel))) rfl
theorem mw_966 : Jvm.Cond.code ({ cls := "ServerLineModel", name := "in", desc := "(III)Z" } : Jvm.MethodName) prog_14_method_3_code (3 : Nat) (Option.some Jvm.ClassFile.FieldType.boolean) ∈ mm_G := mm_in (mt_4 (List.mem_of_getElem? (l := tables_1_4) (i := 191) (by decide +kernel))) rfl
theorem mw_69 : Jvm.Cond.initialized "ServerLineModel" ∈ mm_G := mm_in (mt_1 (List.mem_of_getElem? (l := tables_1_1) (i := 14) (by decide +kernel))) rfl
theorem wb_X12_in : mm_CB yX12_in cX12_in 3 (some .boolean) 3 := ⟨mw_966, mw_69, ⟨by decide, by decide⟩, by decide +kernel, by decide⟩
theorem mw_964 : Jvm.Cond.methodLink "ServerLineModel" (69 : Nat) ({ cls := "ServerLineModel", name := "in", desc := "(III)Z" } : Jvm.MethodName) ∈ mm_G := mm_in (mt_4 (List.mem_of_getElem? (l := tables_1_4) (i := 189) (by decide +kernel))) rfl
theorem mw_965 : Jvm.Cond.static ({ cls := "ServerLineModel", name := "in", desc := "(III)Z" } : Jvm.MethodName) ∈ mm_G := mm_in (mt_4 (List.mem_of_getElem? (l := tables_1_4) (i := 190) (by decide +kernel))) rfl
theorem ws_X12_69 : mm_SW RX12 69 yX12_in := ⟨mw_964, mw_965⟩
theorem mw_871 : Jvm.Cond.fieldLink "ServerLineModel" (7 : Nat) "ServerLineModel" "points" "I" ∈ mm_G := mm_in (mt_4 (List.mem_of_getElem? (l := tables_1_4) (i := 96) (by decide +kernel))) rfl
theorem mw_900 : Jvm.Cond.lays "ServerLineModel" "ServerLineModel" "points" "I" ∈ mm_G := mm_in (mt_4 (List.mem_of_getElem? (l := tables_1_4) (i := 125) (by decide +kernel))) rfl
theorem mw_902 : Jvm.Cond.laysFinal "ServerLineModel" "ServerLineModel" "places" "[I" ∈ mm_G := mm_in (mt_4 (List.mem_of_getElem? (l := tables_1_4) (i := 127) (by decide +kernel))) rfl
theorem mw_904 : Jvm.Cond.lays "ServerLineModel" "ServerLineModel" "servers" "I" ∈ mm_G := mm_in (mt_4 (List.mem_of_getElem? (l := tables_1_4) (i := 129) (by decide +kernel))) rfl
theorem mw_906 : Jvm.Cond.laysFinal "ServerLineModel" "ServerLineModel" "starts" "[I" ∈ mm_G := mm_in (mt_4 (List.mem_of_getElem? (l := tables_1_4) (i := 131) (by decide +kernel))) rfl
theorem mw_908 : Jvm.Cond.lays "ServerLineModel" "ServerLineModel" "factor" "I" ∈ mm_G := mm_in (mt_4 (List.mem_of_getElem? (l := tables_1_4) (i := 133) (by decide +kernel))) rfl
theorem mw_910 : Jvm.Cond.lays "ServerLineModel" "ServerLineModel" "many" "I" ∈ mm_G := mm_in (mt_4 (List.mem_of_getElem? (l := tables_1_4) (i := 135) (by decide +kernel))) rfl
theorem mw_912 : Jvm.Cond.laysFinal "ServerLineModel" "ServerLineModel" "row" "[I" ∈ mm_G := mm_in (mt_4 (List.mem_of_getElem? (l := tables_1_4) (i := 137) (by decide +kernel))) rfl
theorem mw_914 : Jvm.Cond.laysFinal "ServerLineModel" "ServerLineModel" "toGo" "[I" ∈ mm_G := mm_in (mt_4 (List.mem_of_getElem? (l := tables_1_4) (i := 139) (by decide +kernel))) rfl
theorem mw_916 : Jvm.Cond.laysFinal "ServerLineModel" "ServerLineModel" "goesOf" "[I" ∈ mm_G := mm_in (mt_4 (List.mem_of_getElem? (l := tables_1_4) (i := 141) (by decide +kernel))) rfl
theorem mw_918 : Jvm.Cond.laysFinal "ServerLineModel" "ServerLineModel" "at" "[I" ∈ mm_G := mm_in (mt_4 (List.mem_of_getElem? (l := tables_1_4) (i := 143) (by decide +kernel))) rfl
theorem mw_920 : Jvm.Cond.lays "ServerLineModel" "ServerLineModel" "standing" "I" ∈ mm_G := mm_in (mt_4 (List.mem_of_getElem? (l := tables_1_4) (i := 145) (by decide +kernel))) rfl
theorem mw_922 : Jvm.Cond.lays "ServerLineModel" "ServerLineModel" "spent" "I" ∈ mm_G := mm_in (mt_4 (List.mem_of_getElem? (l := tables_1_4) (i := 147) (by decide +kernel))) rfl
theorem mw_924 : Jvm.Cond.lays "ServerLineModel" "ServerLineModel" "went" "I" ∈ mm_G := mm_in (mt_4 (List.mem_of_getElem? (l := tables_1_4) (i := 149) (by decide +kernel))) rfl
theorem mw_926 : Jvm.Cond.laysFinal "ServerLineModel" "ServerLineModel" "work" "[I" ∈ mm_G := mm_in (mt_4 (List.mem_of_getElem? (l := tables_1_4) (i := 151) (by decide +kernel))) rfl
theorem mw_928 : Jvm.Cond.laysFinal "ServerLineModel" "ServerLineModel" "works" "[I" ∈ mm_G := mm_in (mt_4 (List.mem_of_getElem? (l := tables_1_4) (i := 153) (by decide +kernel))) rfl
theorem mw_930 : Jvm.Cond.laysFinal "ServerLineModel" "ServerLineModel" "one" "[I" ∈ mm_G := mm_in (mt_4 (List.mem_of_getElem? (l := tables_1_4) (i := 155) (by decide +kernel))) rfl
theorem mw_932 : Jvm.Cond.laysFinal "ServerLineModel" "ServerLineModel" "three" "[I" ∈ mm_G := mm_in (mt_4 (List.mem_of_getElem? (l := tables_1_4) (i := 157) (by decide +kernel))) rfl
theorem mw_934 : Jvm.Cond.laysFinal "ServerLineModel" "ServerLineModel" "guarded" "[I" ∈ mm_G := mm_in (mt_4 (List.mem_of_getElem? (l := tables_1_4) (i := 159) (by decide +kernel))) rfl
theorem mw_936 : Jvm.Cond.lays "ServerLineModel" "ServerLineModel" "trusted" "I" ∈ mm_G := mm_in (mt_4 (List.mem_of_getElem? (l := tables_1_4) (i := 161) (by decide +kernel))) rfl
theorem mw_938 : Jvm.Cond.lays "ServerLineModel" "ServerLineModel" "guardedCost" "I" ∈ mm_G := mm_in (mt_4 (List.mem_of_getElem? (l := tables_1_4) (i := 163) (by decide +kernel))) rfl
theorem mw_940 : Jvm.Cond.lays "ServerLineModel" "ServerLineModel" "worstOf" "I" ∈ mm_G := mm_in (mt_4 (List.mem_of_getElem? (l := tables_1_4) (i := 165) (by decide +kernel))) rfl
theorem mw_942 : Jvm.Cond.lays "ServerLineModel" "ServerLineModel" "worstCost" "I" ∈ mm_G := mm_in (mt_4 (List.mem_of_getElem? (l := tables_1_4) (i := 167) (by decide +kernel))) rfl
theorem mw_944 : Jvm.Cond.lays "ServerLineModel" "ServerLineModel" "worstBest" "I" ∈ mm_G := mm_in (mt_4 (List.mem_of_getElem? (l := tables_1_4) (i := 169) (by decide +kernel))) rfl
theorem mw_946 : Jvm.Cond.laysFinal "ServerLineModel" "ServerLineModel" "isThere" "[Z" ∈ mm_G := mm_in (mt_4 (List.mem_of_getElem? (l := tables_1_4) (i := 171) (by decide +kernel))) rfl
theorem mw_948 : Jvm.Cond.laysFinal "ServerLineModel" "ServerLineModel" "forms" "[I" ∈ mm_G := mm_in (mt_4 (List.mem_of_getElem? (l := tables_1_4) (i := 173) (by decide +kernel))) rfl
theorem mw_950 : Jvm.Cond.laysFinal "ServerLineModel" "ServerLineModel" "sizes" "[I" ∈ mm_G := mm_in (mt_4 (List.mem_of_getElem? (l := tables_1_4) (i := 175) (by decide +kernel))) rfl
theorem mw_952 : Jvm.Cond.laysFinal "ServerLineModel" "ServerLineModel" "items" "[I" ∈ mm_G := mm_in (mt_4 (List.mem_of_getElem? (l := tables_1_4) (i := 177) (by decide +kernel))) rfl
theorem mw_954 : Jvm.Cond.laysFinal "ServerLineModel" "ServerLineModel" "moved" "[I" ∈ mm_G := mm_in (mt_4 (List.mem_of_getElem? (l := tables_1_4) (i := 179) (by decide +kernel))) rfl
theorem mw_956 : Jvm.Cond.lays "ServerLineModel" "ServerLineModel" "finding" "I" ∈ mm_G := mm_in (mt_4 (List.mem_of_getElem? (l := tables_1_4) (i := 181) (by decide +kernel))) rfl
theorem uw_X12 : ∀ w ∈ u_ws RX12 TX12 29, w ∈ mm_G := by
  show ∀ w ∈ ([u_lay RX12 TX12 0, u_lay RX12 TX12 1, u_lay RX12 TX12 2, u_lay RX12 TX12 3, u_lay RX12 TX12 4, u_lay RX12 TX12 5, u_lay RX12 TX12 6, u_lay RX12 TX12 7, u_lay RX12 TX12 8, u_lay RX12 TX12 9, u_lay RX12 TX12 10, u_lay RX12 TX12 11, u_lay RX12 TX12 12, u_lay RX12 TX12 13, u_lay RX12 TX12 14, u_lay RX12 TX12 15, u_lay RX12 TX12 16, u_lay RX12 TX12 17, u_lay RX12 TX12 18, u_lay RX12 TX12 19, u_lay RX12 TX12 20, u_lay RX12 TX12 21, u_lay RX12 TX12 22, u_lay RX12 TX12 23, u_lay RX12 TX12 24, u_lay RX12 TX12 25, u_lay RX12 TX12 26, u_lay RX12 TX12 27, u_lay RX12 TX12 28] : List Cond), w ∈ mm_G
  exact List.forall_mem_cons.mpr ⟨mw_900, List.forall_mem_cons.mpr ⟨mw_902, List.forall_mem_cons.mpr ⟨mw_904, List.forall_mem_cons.mpr ⟨mw_906, List.forall_mem_cons.mpr ⟨mw_908, List.forall_mem_cons.mpr ⟨mw_910, List.forall_mem_cons.mpr ⟨mw_912, List.forall_mem_cons.mpr ⟨mw_914, List.forall_mem_cons.mpr ⟨mw_916, List.forall_mem_cons.mpr ⟨mw_918, List.forall_mem_cons.mpr ⟨mw_920, List.forall_mem_cons.mpr ⟨mw_922, List.forall_mem_cons.mpr ⟨mw_924, List.forall_mem_cons.mpr ⟨mw_926, List.forall_mem_cons.mpr ⟨mw_928, List.forall_mem_cons.mpr ⟨mw_930, List.forall_mem_cons.mpr ⟨mw_932, List.forall_mem_cons.mpr ⟨mw_934, List.forall_mem_cons.mpr ⟨mw_936, List.forall_mem_cons.mpr ⟨mw_938, List.forall_mem_cons.mpr ⟨mw_940, List.forall_mem_cons.mpr ⟨mw_942, List.forall_mem_cons.mpr ⟨mw_944, List.forall_mem_cons.mpr ⟨mw_946, List.forall_mem_cons.mpr ⟨mw_948, List.forall_mem_cons.mpr ⟨mw_950, List.forall_mem_cons.mpr ⟨mw_952, List.forall_mem_cons.mpr ⟨mw_954, List.forall_mem_cons.mpr ⟨mw_956, fun _ h => absurd h List.not_mem_nil⟩⟩⟩⟩⟩⟩⟩⟩⟩⟩⟩⟩⟩⟩⟩⟩⟩⟩⟩⟩⟩⟩⟩⟩⟩⟩⟩⟩⟩
theorem fl_X12_7_X12 : mm_FL RX12 7 "ServerLineModel" 11 RX12 TX12 29 0 := ⟨rfl, by decide, uw_X12, mw_871, Or.inl rfl⟩
theorem mw_872 : Jvm.Cond.fieldLink "ServerLineModel" (13 : Nat) "ServerLineModel" "places" "[I" ∈ mm_G := mm_in (mt_4 (List.mem_of_getElem? (l := tables_1_4) (i := 97) (by decide +kernel))) rfl
theorem fl_X12_13_X12 : mm_FL RX12 13 "ServerLineModel" 11 RX12 TX12 29 1 := ⟨rfl, by decide, uw_X12, mw_872, Or.inl rfl⟩
theorem mw_874 : Jvm.Cond.fieldLink "ServerLineModel" (20 : Nat) "ServerLineModel" "starts" "[I" ∈ mm_G := mm_in (mt_4 (List.mem_of_getElem? (l := tables_1_4) (i := 99) (by decide +kernel))) rfl
theorem fl_X12_20_X12 : mm_FL RX12 20 "ServerLineModel" 11 RX12 TX12 29 3 := ⟨rfl, by decide, uw_X12, mw_874, Or.inl rfl⟩
theorem mw_974 : Jvm.Cond.code ({ cls := "ServerLineModel", name := "isPoint", desc := "(I)Z" } : Jvm.MethodName) prog_14_method_6_code (2 : Nat) (Option.some Jvm.ClassFile.FieldType.boolean) ∈ mm_G := mm_in (mt_4 (List.mem_of_getElem? (l := tables_1_4) (i := 199) (by decide +kernel))) rfl
theorem wb_X12_isPoint : mm_CB yX12_isPoint cX12_isPoint 2 (some .boolean) 1 := ⟨mw_974, mw_69, ⟨by decide, by decide⟩, by decide +kernel, by decide⟩
theorem mw_971 : Jvm.Cond.methodLink "ServerLineModel" (73 : Nat) ({ cls := "ServerLineModel", name := "isPoint", desc := "(I)Z" } : Jvm.MethodName) ∈ mm_G := mm_in (mt_4 (List.mem_of_getElem? (l := tables_1_4) (i := 196) (by decide +kernel))) rfl
theorem mw_973 : Jvm.Cond.instanceMethod ({ cls := "ServerLineModel", name := "isPoint", desc := "(I)Z" } : Jvm.MethodName) ∈ mm_G := mm_in (mt_4 (List.mem_of_getElem? (l := tables_1_4) (i := 198) (by decide +kernel))) rfl
theorem mw_25 : Cond.selects "ServerLineModel" ⟨"ServerLineModel", "isPoint", "(I)Z"⟩ ⟨"ServerLineModel", "isPoint", "(I)Z"⟩ ∈ mm_G := mm_in (List.mem_append_left _ (List.mem_of_getElem? (i := 25) (by decide +kernel))) rfl
theorem wv_X12_73 : mm_VW RX12 73 yX12_isPoint := ⟨mw_971, mw_973, mw_25⟩
theorem mw_873 : Jvm.Cond.fieldLink "ServerLineModel" (17 : Nat) "ServerLineModel" "servers" "I" ∈ mm_G := mm_in (mt_4 (List.mem_of_getElem? (l := tables_1_4) (i := 98) (by decide +kernel))) rfl
theorem fl_X12_17_X12 : mm_FL RX12 17 "ServerLineModel" 11 RX12 TX12 29 2 := ⟨rfl, by decide, uw_X12, mw_873, Or.inl rfl⟩
theorem mw_875 : Jvm.Cond.fieldLink "ServerLineModel" (23 : Nat) "ServerLineModel" "factor" "I" ∈ mm_G := mm_in (mt_4 (List.mem_of_getElem? (l := tables_1_4) (i := 100) (by decide +kernel))) rfl
theorem fl_X12_23_X12 : mm_FL RX12 23 "ServerLineModel" 11 RX12 TX12 29 4 := ⟨rfl, by decide, uw_X12, mw_875, Or.inl rfl⟩
theorem mw_876 : Jvm.Cond.fieldLink "ServerLineModel" (77 : Nat) "ServerLineModel" "many" "I" ∈ mm_G := mm_in (mt_4 (List.mem_of_getElem? (l := tables_1_4) (i := 101) (by decide +kernel))) rfl
theorem fl_X12_77_X12 : mm_FL RX12 77 "ServerLineModel" 11 RX12 TX12 29 5 := ⟨rfl, by decide, uw_X12, mw_876, Or.inl rfl⟩
theorem mw_894 : Jvm.Cond.fieldLink "ServerLineModel" (53 : Nat) "ServerLineModel" "isThere" "[Z" ∈ mm_G := mm_in (mt_4 (List.mem_of_getElem? (l := tables_1_4) (i := 119) (by decide +kernel))) rfl
theorem fl_X12_53_X12 : mm_FL RX12 53 "ServerLineModel" 11 RX12 TX12 29 23 := ⟨rfl, by decide, uw_X12, mw_894, Or.inl rfl⟩
theorem mw_896 : Jvm.Cond.fieldLink "ServerLineModel" (60 : Nat) "ServerLineModel" "sizes" "[I" ∈ mm_G := mm_in (mt_4 (List.mem_of_getElem? (l := tables_1_4) (i := 121) (by decide +kernel))) rfl
theorem fl_X12_60_X12 : mm_FL RX12 60 "ServerLineModel" 11 RX12 TX12 29 25 := ⟨rfl, by decide, uw_X12, mw_896, Or.inl rfl⟩
theorem mw_897 : Jvm.Cond.fieldLink "ServerLineModel" (63 : Nat) "ServerLineModel" "items" "[I" ∈ mm_G := mm_in (mt_4 (List.mem_of_getElem? (l := tables_1_4) (i := 122) (by decide +kernel))) rfl
theorem fl_X12_63_X12 : mm_FL RX12 63 "ServerLineModel" 11 RX12 TX12 29 26 := ⟨rfl, by decide, uw_X12, mw_897, Or.inl rfl⟩
theorem mw_877 : Jvm.Cond.fieldLink "ServerLineModel" (26 : Nat) "ServerLineModel" "row" "[I" ∈ mm_G := mm_in (mt_4 (List.mem_of_getElem? (l := tables_1_4) (i := 102) (by decide +kernel))) rfl
theorem fl_X12_26_X12 : mm_FL RX12 26 "ServerLineModel" 11 RX12 TX12 29 6 := ⟨rfl, by decide, uw_X12, mw_877, Or.inl rfl⟩
theorem mw_899 : Jvm.Cond.fieldLink "ServerLineModel" (80 : Nat) "ServerLineModel" "finding" "I" ∈ mm_G := mm_in (mt_4 (List.mem_of_getElem? (l := tables_1_4) (i := 124) (by decide +kernel))) rfl
theorem fl_X12_80_X12 : mm_FL RX12 80 "ServerLineModel" 11 RX12 TX12 29 28 := ⟨rfl, by decide, uw_X12, mw_899, Or.inl rfl⟩
theorem mw_994 : Jvm.Cond.code ({ cls := "ServerLineModel", name := "reads", desc := "()Z" } : Jvm.MethodName) prog_14_method_11_code (2 : Nat) (Option.some Jvm.ClassFile.FieldType.boolean) ∈ mm_G := mm_in (mt_4 (List.mem_of_getElem? (l := tables_1_4) (i := 219) (by decide +kernel))) rfl
theorem wb_X12_reads : mm_CB yX12_reads cX12_reads 2 (some .boolean) 0 := ⟨mw_994, mw_69, ⟨by decide, by decide⟩, by decide +kernel, by decide⟩
theorem mw_991 : Jvm.Cond.methodLink "ServerLineModel" (83 : Nat) ({ cls := "ServerLineModel", name := "reads", desc := "()Z" } : Jvm.MethodName) ∈ mm_G := mm_in (mt_4 (List.mem_of_getElem? (l := tables_1_4) (i := 216) (by decide +kernel))) rfl
theorem mw_993 : Jvm.Cond.instanceMethod ({ cls := "ServerLineModel", name := "reads", desc := "()Z" } : Jvm.MethodName) ∈ mm_G := mm_in (mt_4 (List.mem_of_getElem? (l := tables_1_4) (i := 218) (by decide +kernel))) rfl
theorem mw_26 : Cond.selects "ServerLineModel" ⟨"ServerLineModel", "reads", "()Z"⟩ ⟨"ServerLineModel", "reads", "()Z"⟩ ∈ mm_G := mm_in (List.mem_append_left _ (List.mem_of_getElem? (i := 26) (by decide +kernel))) rfl
theorem wv_X12_83 : mm_VW RX12 83 yX12_reads := ⟨mw_991, mw_993, mw_26⟩
theorem mw_878 : Jvm.Cond.fieldLink "ServerLineModel" (29 : Nat) "ServerLineModel" "toGo" "[I" ∈ mm_G := mm_in (mt_4 (List.mem_of_getElem? (l := tables_1_4) (i := 103) (by decide +kernel))) rfl
theorem fl_X12_29_X12 : mm_FL RX12 29 "ServerLineModel" 11 RX12 TX12 29 7 := ⟨rfl, by decide, uw_X12, mw_878, Or.inl rfl⟩
theorem mw_1007 : Jvm.Cond.constant "ServerLineModel" (98 : Nat) (1000000000 : Int32) ∈ mm_G := mm_in (mt_4 (List.mem_of_getElem? (l := tables_1_4) (i := 232) (by decide +kernel))) rfl
theorem mw_1015 : Jvm.Cond.code ({ cls := "ServerLineModel", name := "pointOf", desc := "(II)I" } : Jvm.MethodName) prog_14_method_14_code (3 : Nat) (Option.some Jvm.ClassFile.FieldType.int) ∈ mm_G := mm_in (mt_5 (List.mem_of_getElem? (l := tables_1_5) (i := 0) (by decide +kernel))) rfl
theorem wb_X12_pointOf : mm_CB yX12_pointOf cX12_pointOf 3 (some .int) 2 := ⟨mw_1015, mw_69, ⟨by decide, by decide⟩, by decide +kernel, by decide⟩
theorem mw_1012 : Jvm.Cond.methodLink "ServerLineModel" (87 : Nat) ({ cls := "ServerLineModel", name := "pointOf", desc := "(II)I" } : Jvm.MethodName) ∈ mm_G := mm_in (mt_4 (List.mem_of_getElem? (l := tables_1_4) (i := 237) (by decide +kernel))) rfl
theorem mw_1014 : Jvm.Cond.instanceMethod ({ cls := "ServerLineModel", name := "pointOf", desc := "(II)I" } : Jvm.MethodName) ∈ mm_G := mm_in (mt_4 (List.mem_of_getElem? (l := tables_1_4) (i := 239) (by decide +kernel))) rfl
theorem mw_30 : Cond.selects "ServerLineModel" ⟨"ServerLineModel", "pointOf", "(II)I"⟩ ⟨"ServerLineModel", "pointOf", "(II)I"⟩ ∈ mm_G := mm_in (List.mem_append_left _ (List.mem_of_getElem? (i := 30) (by decide +kernel))) rfl
theorem wv_X12_87 : mm_VW RX12 87 yX12_pointOf := ⟨mw_1012, mw_1014, mw_30⟩
theorem mw_1011 : Jvm.Cond.code ({ cls := "ServerLineModel", name := "isStanding", desc := "(I)Z" } : Jvm.MethodName) prog_14_method_16_code (4 : Nat) (Option.some Jvm.ClassFile.FieldType.boolean) ∈ mm_G := mm_in (mt_4 (List.mem_of_getElem? (l := tables_1_4) (i := 236) (by decide +kernel))) rfl
theorem wb_X12_isStanding : mm_CB yX12_isStanding cX12_isStanding 4 (some .boolean) 1 := ⟨mw_1011, mw_69, ⟨by decide, by decide⟩, by decide +kernel, by decide⟩
theorem mw_1008 : Jvm.Cond.methodLink "ServerLineModel" (99 : Nat) ({ cls := "ServerLineModel", name := "isStanding", desc := "(I)Z" } : Jvm.MethodName) ∈ mm_G := mm_in (mt_4 (List.mem_of_getElem? (l := tables_1_4) (i := 233) (by decide +kernel))) rfl
theorem mw_1010 : Jvm.Cond.instanceMethod ({ cls := "ServerLineModel", name := "isStanding", desc := "(I)Z" } : Jvm.MethodName) ∈ mm_G := mm_in (mt_4 (List.mem_of_getElem? (l := tables_1_4) (i := 235) (by decide +kernel))) rfl
theorem mw_29 : Cond.selects "ServerLineModel" ⟨"ServerLineModel", "isStanding", "(I)Z"⟩ ⟨"ServerLineModel", "isStanding", "(I)Z"⟩ ∈ mm_G := mm_in (List.mem_append_left _ (List.mem_of_getElem? (i := 29) (by decide +kernel))) rfl
theorem wv_X12_99 : mm_VW RX12 99 yX12_isStanding := ⟨mw_1008, mw_1010, mw_29⟩
theorem mw_1022 : Jvm.Cond.code ({ cls := "ServerLineModel", name := "apart", desc := "(II)I" } : Jvm.MethodName) prog_14_method_4_code (2 : Nat) (Option.some Jvm.ClassFile.FieldType.int) ∈ mm_G := mm_in (mt_5 (List.mem_of_getElem? (l := tables_1_5) (i := 7) (by decide +kernel))) rfl
theorem wb_X12_apart : mm_CB yX12_apart cX12_apart 2 (some .int) 2 := ⟨mw_1022, mw_69, ⟨by decide, by decide⟩, by decide +kernel, by decide⟩
theorem mw_1020 : Jvm.Cond.methodLink "ServerLineModel" (95 : Nat) ({ cls := "ServerLineModel", name := "apart", desc := "(II)I" } : Jvm.MethodName) ∈ mm_G := mm_in (mt_5 (List.mem_of_getElem? (l := tables_1_5) (i := 5) (by decide +kernel))) rfl
theorem mw_1021 : Jvm.Cond.static ({ cls := "ServerLineModel", name := "apart", desc := "(II)I" } : Jvm.MethodName) ∈ mm_G := mm_in (mt_5 (List.mem_of_getElem? (l := tables_1_5) (i := 6) (by decide +kernel))) rfl
theorem ws_X12_95 : mm_SW RX12 95 yX12_apart := ⟨mw_1020, mw_1021⟩
theorem mw_1019 : Jvm.Cond.code ({ cls := "ServerLineModel", name := "wayTo", desc := "(III)I" } : Jvm.MethodName) prog_14_method_20_code (4 : Nat) (Option.some Jvm.ClassFile.FieldType.int) ∈ mm_G := mm_in (mt_5 (List.mem_of_getElem? (l := tables_1_5) (i := 4) (by decide +kernel))) rfl
theorem wb_X12_wayTo : mm_CB yX12_wayTo cX12_wayTo 4 (some .int) 3 := ⟨mw_1019, mw_69, ⟨by decide, by decide⟩, by decide +kernel, by decide⟩
theorem mw_1016 : Jvm.Cond.methodLink "ServerLineModel" (102 : Nat) ({ cls := "ServerLineModel", name := "wayTo", desc := "(III)I" } : Jvm.MethodName) ∈ mm_G := mm_in (mt_5 (List.mem_of_getElem? (l := tables_1_5) (i := 1) (by decide +kernel))) rfl
theorem mw_1018 : Jvm.Cond.instanceMethod ({ cls := "ServerLineModel", name := "wayTo", desc := "(III)I" } : Jvm.MethodName) ∈ mm_G := mm_in (mt_5 (List.mem_of_getElem? (l := tables_1_5) (i := 3) (by decide +kernel))) rfl
theorem mw_31 : Cond.selects "ServerLineModel" ⟨"ServerLineModel", "wayTo", "(III)I"⟩ ⟨"ServerLineModel", "wayTo", "(III)I"⟩ ∈ mm_G := mm_in (List.mem_append_left _ (List.mem_of_getElem? (i := 31) (by decide +kernel))) rfl
theorem wv_X12_102 : mm_VW RX12 102 yX12_wayTo := ⟨mw_1016, mw_1018, mw_31⟩
theorem mw_1026 : Jvm.Cond.code ({ cls := "ServerLineModel", name := "with", desc := "(III)I" } : Jvm.MethodName) prog_14_method_15_code (5 : Nat) (Option.some Jvm.ClassFile.FieldType.int) ∈ mm_G := mm_in (mt_5 (List.mem_of_getElem? (l := tables_1_5) (i := 11) (by decide +kernel))) rfl
theorem wb_X12_with : mm_CB yX12_with cX12_with 5 (some .int) 3 := ⟨mw_1026, mw_69, ⟨by decide, by decide⟩, by decide +kernel, by decide⟩
theorem mw_1023 : Jvm.Cond.methodLink "ServerLineModel" (91 : Nat) ({ cls := "ServerLineModel", name := "with", desc := "(III)I" } : Jvm.MethodName) ∈ mm_G := mm_in (mt_5 (List.mem_of_getElem? (l := tables_1_5) (i := 8) (by decide +kernel))) rfl
theorem mw_1025 : Jvm.Cond.instanceMethod ({ cls := "ServerLineModel", name := "with", desc := "(III)I" } : Jvm.MethodName) ∈ mm_G := mm_in (mt_5 (List.mem_of_getElem? (l := tables_1_5) (i := 10) (by decide +kernel))) rfl
theorem mw_32 : Cond.selects "ServerLineModel" ⟨"ServerLineModel", "with", "(III)I"⟩ ⟨"ServerLineModel", "with", "(III)I"⟩ ∈ mm_G := mm_in (List.mem_append_left _ (List.mem_of_getElem? (i := 32) (by decide +kernel))) rfl
theorem wv_X12_91 : mm_VW RX12 91 yX12_with := ⟨mw_1023, mw_1025, mw_32⟩
theorem mw_1030 : Jvm.Cond.code ({ cls := "ServerLineModel", name := "begin", desc := "()I" } : Jvm.MethodName) prog_14_method_17_code (3 : Nat) (Option.some Jvm.ClassFile.FieldType.int) ∈ mm_G := mm_in (mt_5 (List.mem_of_getElem? (l := tables_1_5) (i := 15) (by decide +kernel))) rfl
theorem wb_X12_begin : mm_CB yX12_begin cX12_begin 3 (some .int) 0 := ⟨mw_1030, mw_69, ⟨by decide, by decide⟩, by decide +kernel, by decide⟩
theorem mw_1027 : Jvm.Cond.methodLink "ServerLineModel" (105 : Nat) ({ cls := "ServerLineModel", name := "begin", desc := "()I" } : Jvm.MethodName) ∈ mm_G := mm_in (mt_5 (List.mem_of_getElem? (l := tables_1_5) (i := 12) (by decide +kernel))) rfl
theorem mw_1029 : Jvm.Cond.instanceMethod ({ cls := "ServerLineModel", name := "begin", desc := "()I" } : Jvm.MethodName) ∈ mm_G := mm_in (mt_5 (List.mem_of_getElem? (l := tables_1_5) (i := 14) (by decide +kernel))) rfl
theorem mw_33 : Cond.selects "ServerLineModel" ⟨"ServerLineModel", "begin", "()I"⟩ ⟨"ServerLineModel", "begin", "()I"⟩ ∈ mm_G := mm_in (List.mem_append_left _ (List.mem_of_getElem? (i := 33) (by decide +kernel))) rfl
theorem wv_X12_105 : mm_VW RX12 105 yX12_begin := ⟨mw_1027, mw_1029, mw_33⟩
theorem mw_879 : Jvm.Cond.fieldLink "ServerLineModel" (32 : Nat) "ServerLineModel" "goesOf" "[I" ∈ mm_G := mm_in (mt_4 (List.mem_of_getElem? (l := tables_1_4) (i := 104) (by decide +kernel))) rfl
theorem fl_X12_32_X12 : mm_FL RX12 32 "ServerLineModel" 11 RX12 TX12 29 8 := ⟨rfl, by decide, uw_X12, mw_879, Or.inl rfl⟩
theorem mw_1006 : Jvm.Cond.code ({ cls := "ServerLineModel", name := "plans", desc := "()V" } : Jvm.MethodName) prog_14_method_19_code (6 : Nat) (Option.none : Option Jvm.ClassFile.FieldType) ∈ mm_G := mm_in (mt_4 (List.mem_of_getElem? (l := tables_1_4) (i := 231) (by decide +kernel))) rfl
theorem wb_X12_plans : mm_CB yX12_plans cX12_plans 6 none 0 := ⟨mw_1006, mw_69, ⟨by decide, by decide⟩, by decide +kernel, by decide⟩
theorem mw_1003 : Jvm.Cond.methodLink "ServerLineModel" (109 : Nat) ({ cls := "ServerLineModel", name := "plans", desc := "()V" } : Jvm.MethodName) ∈ mm_G := mm_in (mt_4 (List.mem_of_getElem? (l := tables_1_4) (i := 228) (by decide +kernel))) rfl
theorem mw_1005 : Jvm.Cond.instanceMethod ({ cls := "ServerLineModel", name := "plans", desc := "()V" } : Jvm.MethodName) ∈ mm_G := mm_in (mt_4 (List.mem_of_getElem? (l := tables_1_4) (i := 230) (by decide +kernel))) rfl
theorem mw_28 : Cond.selects "ServerLineModel" ⟨"ServerLineModel", "plans", "()V"⟩ ⟨"ServerLineModel", "plans", "()V"⟩ ∈ mm_G := mm_in (List.mem_append_left _ (List.mem_of_getElem? (i := 28) (by decide +kernel))) rfl
theorem wv_X12_109 : mm_VW RX12 109 yX12_plans := ⟨mw_1003, mw_1005, mw_28⟩
theorem mw_1002 : Jvm.Cond.code ({ cls := "ServerLineModel", name := "bestCost", desc := "()I" } : Jvm.MethodName) prog_14_method_21_code (1 : Nat) (Option.some Jvm.ClassFile.FieldType.int) ∈ mm_G := mm_in (mt_4 (List.mem_of_getElem? (l := tables_1_4) (i := 227) (by decide +kernel))) rfl
theorem wb_X12_bestCost : mm_CB yX12_bestCost cX12_bestCost 1 (some .int) 0 := ⟨mw_1002, mw_69, ⟨by decide, by decide⟩, by decide +kernel, by decide⟩
theorem mw_999 : Jvm.Cond.methodLink "ServerLineModel" (112 : Nat) ({ cls := "ServerLineModel", name := "bestCost", desc := "()I" } : Jvm.MethodName) ∈ mm_G := mm_in (mt_4 (List.mem_of_getElem? (l := tables_1_4) (i := 224) (by decide +kernel))) rfl
theorem mw_1001 : Jvm.Cond.instanceMethod ({ cls := "ServerLineModel", name := "bestCost", desc := "()I" } : Jvm.MethodName) ∈ mm_G := mm_in (mt_4 (List.mem_of_getElem? (l := tables_1_4) (i := 226) (by decide +kernel))) rfl
theorem mw_27 : Cond.selects "ServerLineModel" ⟨"ServerLineModel", "bestCost", "()I"⟩ ⟨"ServerLineModel", "bestCost", "()I"⟩ ∈ mm_G := mm_in (List.mem_append_left _ (List.mem_of_getElem? (i := 27) (by decide +kernel))) rfl
theorem wv_X12_112 : mm_VW RX12 112 yX12_bestCost := ⟨mw_999, mw_1001, mw_27⟩
theorem mw_880 : Jvm.Cond.fieldLink "ServerLineModel" (35 : Nat) "ServerLineModel" "at" "[I" ∈ mm_G := mm_in (mt_4 (List.mem_of_getElem? (l := tables_1_4) (i := 105) (by decide +kernel))) rfl
theorem fl_X12_35_X12 : mm_FL RX12 35 "ServerLineModel" 11 RX12 TX12 29 9 := ⟨rfl, by decide, uw_X12, mw_880, Or.inl rfl⟩
theorem mw_882 : Jvm.Cond.fieldLink "ServerLineModel" (115 : Nat) "ServerLineModel" "spent" "I" ∈ mm_G := mm_in (mt_4 (List.mem_of_getElem? (l := tables_1_4) (i := 107) (by decide +kernel))) rfl
theorem fl_X12_115_X12 : mm_FL RX12 115 "ServerLineModel" 11 RX12 TX12 29 11 := ⟨rfl, by decide, uw_X12, mw_882, Or.inl rfl⟩
theorem mw_883 : Jvm.Cond.fieldLink "ServerLineModel" (118 : Nat) "ServerLineModel" "went" "I" ∈ mm_G := mm_in (mt_4 (List.mem_of_getElem? (l := tables_1_4) (i := 108) (by decide +kernel))) rfl
theorem fl_X12_118_X12 : mm_FL RX12 118 "ServerLineModel" 11 RX12 TX12 29 12 := ⟨rfl, by decide, uw_X12, mw_883, Or.inl rfl⟩
theorem mw_1050 : Jvm.Cond.code ({ cls := "ServerLineModel", name := "starts", desc := "()V" } : Jvm.MethodName) prog_14_method_24_code (2 : Nat) (Option.none : Option Jvm.ClassFile.FieldType) ∈ mm_G := mm_in (mt_5 (List.mem_of_getElem? (l := tables_1_5) (i := 35) (by decide +kernel))) rfl
theorem wb_X12_starts : mm_CB yX12_starts cX12_starts 2 none 0 := ⟨mw_1050, mw_69, ⟨by decide, by decide⟩, by decide +kernel, by decide⟩
theorem mw_1047 : Jvm.Cond.methodLink "ServerLineModel" (153 : Nat) ({ cls := "ServerLineModel", name := "starts", desc := "()V" } : Jvm.MethodName) ∈ mm_G := mm_in (mt_5 (List.mem_of_getElem? (l := tables_1_5) (i := 32) (by decide +kernel))) rfl
theorem mw_1049 : Jvm.Cond.instanceMethod ({ cls := "ServerLineModel", name := "starts", desc := "()V" } : Jvm.MethodName) ∈ mm_G := mm_in (mt_5 (List.mem_of_getElem? (l := tables_1_5) (i := 34) (by decide +kernel))) rfl
theorem mw_36 : Cond.selects "ServerLineModel" ⟨"ServerLineModel", "starts", "()V"⟩ ⟨"ServerLineModel", "starts", "()V"⟩ ∈ mm_G := mm_in (List.mem_append_left _ (List.mem_of_getElem? (i := 36) (by decide +kernel))) rfl
theorem wv_X12_153 : mm_VW RX12 153 yX12_starts := ⟨mw_1047, mw_1049, mw_36⟩
theorem mw_881 : Jvm.Cond.fieldLink "ServerLineModel" (129 : Nat) "ServerLineModel" "standing" "I" ∈ mm_G := mm_in (mt_4 (List.mem_of_getElem? (l := tables_1_4) (i := 106) (by decide +kernel))) rfl
theorem fl_X12_129_X12 : mm_FL RX12 129 "ServerLineModel" 11 RX12 TX12 29 10 := ⟨rfl, by decide, uw_X12, mw_881, Or.inl rfl⟩
theorem mw_884 : Jvm.Cond.fieldLink "ServerLineModel" (38 : Nat) "ServerLineModel" "work" "[I" ∈ mm_G := mm_in (mt_4 (List.mem_of_getElem? (l := tables_1_4) (i := 109) (by decide +kernel))) rfl
theorem fl_X12_38_X12 : mm_FL RX12 38 "ServerLineModel" 11 RX12 TX12 29 13 := ⟨rfl, by decide, uw_X12, mw_884, Or.inl rfl⟩
theorem mw_1093 : Jvm.Cond.code ({ cls := "ServerLineModel", name := "least", desc := "(IIIIII)I" } : Jvm.MethodName) prog_14_method_18_code (9 : Nat) (Option.some Jvm.ClassFile.FieldType.int) ∈ mm_G := mm_in (mt_5 (List.mem_of_getElem? (l := tables_1_5) (i := 78) (by decide +kernel))) rfl
theorem wb_X12_least : mm_CB yX12_least cX12_least 9 (some .int) 6 := ⟨mw_1093, mw_69, ⟨by decide, by decide⟩, by decide +kernel, by decide⟩
theorem mw_1090 : Jvm.Cond.methodLink "ServerLineModel" (132 : Nat) ({ cls := "ServerLineModel", name := "least", desc := "(IIIIII)I" } : Jvm.MethodName) ∈ mm_G := mm_in (mt_5 (List.mem_of_getElem? (l := tables_1_5) (i := 75) (by decide +kernel))) rfl
theorem mw_1092 : Jvm.Cond.instanceMethod ({ cls := "ServerLineModel", name := "least", desc := "(IIIIII)I" } : Jvm.MethodName) ∈ mm_G := mm_in (mt_5 (List.mem_of_getElem? (l := tables_1_5) (i := 77) (by decide +kernel))) rfl
theorem mw_46 : Cond.selects "ServerLineModel" ⟨"ServerLineModel", "least", "(IIIIII)I"⟩ ⟨"ServerLineModel", "least", "(IIIIII)I"⟩ ∈ mm_G := mm_in (List.mem_append_left _ (List.mem_of_getElem? (i := 46) (by decide +kernel))) rfl
theorem wv_X12_132 : mm_VW RX12 132 yX12_least := ⟨mw_1090, mw_1092, mw_46⟩
theorem mw_1101 : Jvm.Cond.code ({ cls := "ServerLineModel", name := "worksFirst", desc := "()V" } : Jvm.MethodName) prog_14_method_29_code (5 : Nat) (Option.none : Option Jvm.ClassFile.FieldType) ∈ mm_G := mm_in (mt_5 (List.mem_of_getElem? (l := tables_1_5) (i := 86) (by decide +kernel))) rfl
theorem wb_X12_worksFirst : mm_CB yX12_worksFirst cX12_worksFirst 5 none 0 := ⟨mw_1101, mw_69, ⟨by decide, by decide⟩, by decide +kernel, by decide⟩
theorem mw_1098 : Jvm.Cond.methodLink "ServerLineModel" (155 : Nat) ({ cls := "ServerLineModel", name := "worksFirst", desc := "()V" } : Jvm.MethodName) ∈ mm_G := mm_in (mt_5 (List.mem_of_getElem? (l := tables_1_5) (i := 83) (by decide +kernel))) rfl
theorem mw_1100 : Jvm.Cond.instanceMethod ({ cls := "ServerLineModel", name := "worksFirst", desc := "()V" } : Jvm.MethodName) ∈ mm_G := mm_in (mt_5 (List.mem_of_getElem? (l := tables_1_5) (i := 85) (by decide +kernel))) rfl
theorem mw_48 : Cond.selects "ServerLineModel" ⟨"ServerLineModel", "worksFirst", "()V"⟩ ⟨"ServerLineModel", "worksFirst", "()V"⟩ ∈ mm_G := mm_in (List.mem_append_left _ (List.mem_of_getElem? (i := 48) (by decide +kernel))) rfl
theorem wv_X12_155 : mm_VW RX12 155 yX12_worksFirst := ⟨mw_1098, mw_1100, mw_48⟩
theorem mw_1057 : Jvm.Cond.code ({ cls := "ServerLineModel", name := "first", desc := "(I)I" } : Jvm.MethodName) prog_14_method_33_code (2 : Nat) (Option.some Jvm.ClassFile.FieldType.int) ∈ mm_G := mm_in (mt_5 (List.mem_of_getElem? (l := tables_1_5) (i := 42) (by decide +kernel))) rfl
theorem wb_X12_first : mm_CB yX12_first cX12_first 2 (some .int) 1 := ⟨mw_1057, mw_69, ⟨by decide, by decide⟩, by decide +kernel, by decide⟩
theorem mw_1054 : Jvm.Cond.methodLink "ServerLineModel" (158 : Nat) ({ cls := "ServerLineModel", name := "first", desc := "(I)I" } : Jvm.MethodName) ∈ mm_G := mm_in (mt_5 (List.mem_of_getElem? (l := tables_1_5) (i := 39) (by decide +kernel))) rfl
theorem mw_1056 : Jvm.Cond.instanceMethod ({ cls := "ServerLineModel", name := "first", desc := "(I)I" } : Jvm.MethodName) ∈ mm_G := mm_in (mt_5 (List.mem_of_getElem? (l := tables_1_5) (i := 41) (by decide +kernel))) rfl
theorem mw_37 : Cond.selects "ServerLineModel" ⟨"ServerLineModel", "first", "(I)I"⟩ ⟨"ServerLineModel", "first", "(I)I"⟩ ∈ mm_G := mm_in (List.mem_append_left _ (List.mem_of_getElem? (i := 37) (by decide +kernel))) rfl
theorem wv_X12_158 : mm_VW RX12 158 yX12_first := ⟨mw_1054, mw_1056, mw_37⟩
theorem mw_1089 : Jvm.Cond.code ({ cls := "ServerLineModel", name := "hintAt", desc := "(I)I" } : Jvm.MethodName) prog_14_method_12_code (3 : Nat) (Option.some Jvm.ClassFile.FieldType.int) ∈ mm_G := mm_in (mt_5 (List.mem_of_getElem? (l := tables_1_5) (i := 74) (by decide +kernel))) rfl
theorem wb_X12_hintAt : mm_CB yX12_hintAt cX12_hintAt 3 (some .int) 1 := ⟨mw_1089, mw_69, ⟨by decide, by decide⟩, by decide +kernel, by decide⟩
theorem mw_1086 : Jvm.Cond.methodLink "ServerLineModel" (150 : Nat) ({ cls := "ServerLineModel", name := "hintAt", desc := "(I)I" } : Jvm.MethodName) ∈ mm_G := mm_in (mt_5 (List.mem_of_getElem? (l := tables_1_5) (i := 71) (by decide +kernel))) rfl
theorem mw_1088 : Jvm.Cond.instanceMethod ({ cls := "ServerLineModel", name := "hintAt", desc := "(I)I" } : Jvm.MethodName) ∈ mm_G := mm_in (mt_5 (List.mem_of_getElem? (l := tables_1_5) (i := 73) (by decide +kernel))) rfl
theorem mw_45 : Cond.selects "ServerLineModel" ⟨"ServerLineModel", "hintAt", "(I)I"⟩ ⟨"ServerLineModel", "hintAt", "(I)I"⟩ ∈ mm_G := mm_in (List.mem_append_left _ (List.mem_of_getElem? (i := 45) (by decide +kernel))) rfl
theorem wv_X12_150 : mm_VW RX12 150 yX12_hintAt := ⟨mw_1086, mw_1088, mw_45⟩
theorem mw_1065 : Jvm.Cond.code ({ cls := "ServerLineModel", name := "nearest", desc := "(I)I" } : Jvm.MethodName) prog_14_method_26_code (4 : Nat) (Option.some Jvm.ClassFile.FieldType.int) ∈ mm_G := mm_in (mt_5 (List.mem_of_getElem? (l := tables_1_5) (i := 50) (by decide +kernel))) rfl
theorem wb_X12_nearest : mm_CB yX12_nearest cX12_nearest 4 (some .int) 1 := ⟨mw_1065, mw_69, ⟨by decide, by decide⟩, by decide +kernel, by decide⟩
theorem mw_1062 : Jvm.Cond.methodLink "ServerLineModel" (140 : Nat) ({ cls := "ServerLineModel", name := "nearest", desc := "(I)I" } : Jvm.MethodName) ∈ mm_G := mm_in (mt_5 (List.mem_of_getElem? (l := tables_1_5) (i := 47) (by decide +kernel))) rfl
theorem mw_1064 : Jvm.Cond.instanceMethod ({ cls := "ServerLineModel", name := "nearest", desc := "(I)I" } : Jvm.MethodName) ∈ mm_G := mm_in (mt_5 (List.mem_of_getElem? (l := tables_1_5) (i := 49) (by decide +kernel))) rfl
theorem mw_39 : Cond.selects "ServerLineModel" ⟨"ServerLineModel", "nearest", "(I)I"⟩ ⟨"ServerLineModel", "nearest", "(I)I"⟩ ∈ mm_G := mm_in (List.mem_append_left _ (List.mem_of_getElem? (i := 39) (by decide +kernel))) rfl
theorem wv_X12_140 : mm_VW RX12 140 yX12_nearest := ⟨mw_1062, mw_1064, mw_39⟩
theorem mw_1069 : Jvm.Cond.code ({ cls := "ServerLineModel", name := "sends", desc := "(II)V" } : Jvm.MethodName) prog_14_method_25_code (3 : Nat) (Option.none : Option Jvm.ClassFile.FieldType) ∈ mm_G := mm_in (mt_5 (List.mem_of_getElem? (l := tables_1_5) (i := 54) (by decide +kernel))) rfl
theorem wb_X12_sends : mm_CB yX12_sends cX12_sends 3 none 2 := ⟨mw_1069, mw_69, ⟨by decide, by decide⟩, by decide +kernel, by decide⟩
theorem mw_1066 : Jvm.Cond.methodLink "ServerLineModel" (125 : Nat) ({ cls := "ServerLineModel", name := "sends", desc := "(II)V" } : Jvm.MethodName) ∈ mm_G := mm_in (mt_5 (List.mem_of_getElem? (l := tables_1_5) (i := 51) (by decide +kernel))) rfl
theorem mw_1068 : Jvm.Cond.instanceMethod ({ cls := "ServerLineModel", name := "sends", desc := "(II)V" } : Jvm.MethodName) ∈ mm_G := mm_in (mt_5 (List.mem_of_getElem? (l := tables_1_5) (i := 53) (by decide +kernel))) rfl
theorem mw_40 : Cond.selects "ServerLineModel" ⟨"ServerLineModel", "sends", "(II)V"⟩ ⟨"ServerLineModel", "sends", "(II)V"⟩ ∈ mm_G := mm_in (List.mem_append_left _ (List.mem_of_getElem? (i := 40) (by decide +kernel))) rfl
theorem wv_X12_125 : mm_VW RX12 125 yX12_sends := ⟨mw_1066, mw_1068, mw_40⟩
theorem mw_885 : Jvm.Cond.fieldLink "ServerLineModel" (41 : Nat) "ServerLineModel" "works" "[I" ∈ mm_G := mm_in (mt_4 (List.mem_of_getElem? (l := tables_1_4) (i := 110) (by decide +kernel))) rfl
theorem fl_X12_41_X12 : mm_FL RX12 41 "ServerLineModel" 11 RX12 TX12 29 14 := ⟨rfl, by decide, uw_X12, mw_885, Or.inl rfl⟩
theorem mw_1085 : Jvm.Cond.code ({ cls := "ServerLineModel", name := "worksOn", desc := "(I)V" } : Jvm.MethodName) prog_14_method_30_code (6 : Nat) (Option.none : Option Jvm.ClassFile.FieldType) ∈ mm_G := mm_in (mt_5 (List.mem_of_getElem? (l := tables_1_5) (i := 70) (by decide +kernel))) rfl
theorem wb_X12_worksOn : mm_CB yX12_worksOn cX12_worksOn 6 none 1 := ⟨mw_1085, mw_69, ⟨by decide, by decide⟩, by decide +kernel, by decide⟩
theorem mw_1082 : Jvm.Cond.methodLink "ServerLineModel" (136 : Nat) ({ cls := "ServerLineModel", name := "worksOn", desc := "(I)V" } : Jvm.MethodName) ∈ mm_G := mm_in (mt_5 (List.mem_of_getElem? (l := tables_1_5) (i := 67) (by decide +kernel))) rfl
theorem mw_1084 : Jvm.Cond.instanceMethod ({ cls := "ServerLineModel", name := "worksOn", desc := "(I)V" } : Jvm.MethodName) ∈ mm_G := mm_in (mt_5 (List.mem_of_getElem? (l := tables_1_5) (i := 69) (by decide +kernel))) rfl
theorem mw_44 : Cond.selects "ServerLineModel" ⟨"ServerLineModel", "worksOn", "(I)V"⟩ ⟨"ServerLineModel", "worksOn", "(I)V"⟩ ∈ mm_G := mm_in (List.mem_append_left _ (List.mem_of_getElem? (i := 44) (by decide +kernel))) rfl
theorem wv_X12_136 : mm_VW RX12 136 yX12_worksOn := ⟨mw_1082, mw_1084, mw_44⟩
theorem mw_1081 : Jvm.Cond.code ({ cls := "ServerLineModel", name := "goesByWork", desc := "(I)V" } : Jvm.MethodName) prog_14_method_31_code (5 : Nat) (Option.none : Option Jvm.ClassFile.FieldType) ∈ mm_G := mm_in (mt_5 (List.mem_of_getElem? (l := tables_1_5) (i := 66) (by decide +kernel))) rfl
theorem wb_X12_goesByWork : mm_CB yX12_goesByWork cX12_goesByWork 5 none 1 := ⟨mw_1081, mw_69, ⟨by decide, by decide⟩, by decide +kernel, by decide⟩
theorem mw_1078 : Jvm.Cond.methodLink "ServerLineModel" (147 : Nat) ({ cls := "ServerLineModel", name := "goesByWork", desc := "(I)V" } : Jvm.MethodName) ∈ mm_G := mm_in (mt_5 (List.mem_of_getElem? (l := tables_1_5) (i := 63) (by decide +kernel))) rfl
theorem mw_1080 : Jvm.Cond.instanceMethod ({ cls := "ServerLineModel", name := "goesByWork", desc := "(I)V" } : Jvm.MethodName) ∈ mm_G := mm_in (mt_5 (List.mem_of_getElem? (l := tables_1_5) (i := 65) (by decide +kernel))) rfl
theorem mw_43 : Cond.selects "ServerLineModel" ⟨"ServerLineModel", "goesByWork", "(I)V"⟩ ⟨"ServerLineModel", "goesByWork", "(I)V"⟩ ∈ mm_G := mm_in (List.mem_append_left _ (List.mem_of_getElem? (i := 43) (by decide +kernel))) rfl
theorem wv_X12_147 : mm_VW RX12 147 yX12_goesByWork := ⟨mw_1078, mw_1080, mw_43⟩
theorem mw_1077 : Jvm.Cond.code ({ cls := "ServerLineModel", name := "nearestOn", desc := "(IZ)I" } : Jvm.MethodName) prog_14_method_27_code (6 : Nat) (Option.some Jvm.ClassFile.FieldType.int) ∈ mm_G := mm_in (mt_5 (List.mem_of_getElem? (l := tables_1_5) (i := 62) (by decide +kernel))) rfl
theorem wb_X12_nearestOn : mm_CB yX12_nearestOn cX12_nearestOn 6 (some .int) 2 := ⟨mw_1077, mw_69, ⟨by decide, by decide⟩, by decide +kernel, by decide⟩
theorem mw_1074 : Jvm.Cond.methodLink "ServerLineModel" (121 : Nat) ({ cls := "ServerLineModel", name := "nearestOn", desc := "(IZ)I" } : Jvm.MethodName) ∈ mm_G := mm_in (mt_5 (List.mem_of_getElem? (l := tables_1_5) (i := 59) (by decide +kernel))) rfl
theorem mw_1076 : Jvm.Cond.instanceMethod ({ cls := "ServerLineModel", name := "nearestOn", desc := "(IZ)I" } : Jvm.MethodName) ∈ mm_G := mm_in (mt_5 (List.mem_of_getElem? (l := tables_1_5) (i := 61) (by decide +kernel))) rfl
theorem mw_42 : Cond.selects "ServerLineModel" ⟨"ServerLineModel", "nearestOn", "(IZ)I"⟩ ⟨"ServerLineModel", "nearestOn", "(IZ)I"⟩ ∈ mm_G := mm_in (List.mem_append_left _ (List.mem_of_getElem? (i := 42) (by decide +kernel))) rfl
theorem wv_X12_121 : mm_VW RX12 121 yX12_nearestOn := ⟨mw_1074, mw_1076, mw_42⟩
theorem mw_1073 : Jvm.Cond.code ({ cls := "ServerLineModel", name := "both", desc := "(I)V" } : Jvm.MethodName) prog_14_method_28_code (5 : Nat) (Option.none : Option Jvm.ClassFile.FieldType) ∈ mm_G := mm_in (mt_5 (List.mem_of_getElem? (l := tables_1_5) (i := 58) (by decide +kernel))) rfl
theorem wb_X12_both : mm_CB yX12_both cX12_both 5 none 1 := ⟨mw_1073, mw_69, ⟨by decide, by decide⟩, by decide +kernel, by decide⟩
theorem mw_1070 : Jvm.Cond.methodLink "ServerLineModel" (144 : Nat) ({ cls := "ServerLineModel", name := "both", desc := "(I)V" } : Jvm.MethodName) ∈ mm_G := mm_in (mt_5 (List.mem_of_getElem? (l := tables_1_5) (i := 55) (by decide +kernel))) rfl
theorem mw_1072 : Jvm.Cond.instanceMethod ({ cls := "ServerLineModel", name := "both", desc := "(I)V" } : Jvm.MethodName) ∈ mm_G := mm_in (mt_5 (List.mem_of_getElem? (l := tables_1_5) (i := 57) (by decide +kernel))) rfl
theorem mw_41 : Cond.selects "ServerLineModel" ⟨"ServerLineModel", "both", "(I)V"⟩ ⟨"ServerLineModel", "both", "(I)V"⟩ ∈ mm_G := mm_in (List.mem_append_left _ (List.mem_of_getElem? (i := 41) (by decide +kernel))) rfl
theorem wv_X12_144 : mm_VW RX12 144 yX12_both := ⟨mw_1070, mw_1072, mw_41⟩
theorem mw_1061 : Jvm.Cond.code ({ cls := "ServerLineModel", name := "goesOn", desc := "(II)V" } : Jvm.MethodName) prog_14_method_32_code (5 : Nat) (Option.none : Option Jvm.ClassFile.FieldType) ∈ mm_G := mm_in (mt_5 (List.mem_of_getElem? (l := tables_1_5) (i := 46) (by decide +kernel))) rfl
theorem wb_X12_goesOn : mm_CB yX12_goesOn cX12_goesOn 5 none 2 := ⟨mw_1061, mw_69, ⟨by decide, by decide⟩, by decide +kernel, by decide⟩
theorem mw_1058 : Jvm.Cond.methodLink "ServerLineModel" (161 : Nat) ({ cls := "ServerLineModel", name := "goesOn", desc := "(II)V" } : Jvm.MethodName) ∈ mm_G := mm_in (mt_5 (List.mem_of_getElem? (l := tables_1_5) (i := 43) (by decide +kernel))) rfl
theorem mw_1060 : Jvm.Cond.instanceMethod ({ cls := "ServerLineModel", name := "goesOn", desc := "(II)V" } : Jvm.MethodName) ∈ mm_G := mm_in (mt_5 (List.mem_of_getElem? (l := tables_1_5) (i := 45) (by decide +kernel))) rfl
theorem mw_38 : Cond.selects "ServerLineModel" ⟨"ServerLineModel", "goesOn", "(II)V"⟩ ⟨"ServerLineModel", "goesOn", "(II)V"⟩ ∈ mm_G := mm_in (List.mem_append_left _ (List.mem_of_getElem? (i := 38) (by decide +kernel))) rfl
theorem wv_X12_161 : mm_VW RX12 161 yX12_goesOn := ⟨mw_1058, mw_1060, mw_38⟩
theorem mw_1097 : Jvm.Cond.code ({ cls := "ServerLineModel", name := "runs", desc := "(II)V" } : Jvm.MethodName) prog_14_method_34_code (4 : Nat) (Option.none : Option Jvm.ClassFile.FieldType) ∈ mm_G := mm_in (mt_5 (List.mem_of_getElem? (l := tables_1_5) (i := 82) (by decide +kernel))) rfl
theorem wb_X12_runs : mm_CB yX12_runs cX12_runs 4 none 2 := ⟨mw_1097, mw_69, ⟨by decide, by decide⟩, by decide +kernel, by decide⟩
theorem mw_1094 : Jvm.Cond.methodLink "ServerLineModel" (177 : Nat) ({ cls := "ServerLineModel", name := "runs", desc := "(II)V" } : Jvm.MethodName) ∈ mm_G := mm_in (mt_5 (List.mem_of_getElem? (l := tables_1_5) (i := 79) (by decide +kernel))) rfl
theorem mw_1096 : Jvm.Cond.instanceMethod ({ cls := "ServerLineModel", name := "runs", desc := "(II)V" } : Jvm.MethodName) ∈ mm_G := mm_in (mt_5 (List.mem_of_getElem? (l := tables_1_5) (i := 81) (by decide +kernel))) rfl
theorem mw_47 : Cond.selects "ServerLineModel" ⟨"ServerLineModel", "runs", "(II)V"⟩ ⟨"ServerLineModel", "runs", "(II)V"⟩ ∈ mm_G := mm_in (List.mem_append_left _ (List.mem_of_getElem? (i := 47) (by decide +kernel))) rfl
theorem wv_X12_177 : mm_VW RX12 177 yX12_runs := ⟨mw_1094, mw_1096, mw_47⟩
theorem mw_889 : Jvm.Cond.fieldLink "ServerLineModel" (164 : Nat) "ServerLineModel" "trusted" "I" ∈ mm_G := mm_in (mt_4 (List.mem_of_getElem? (l := tables_1_4) (i := 114) (by decide +kernel))) rfl
theorem fl_X12_164_X12 : mm_FL RX12 164 "ServerLineModel" 11 RX12 TX12 29 18 := ⟨rfl, by decide, uw_X12, mw_889, Or.inl rfl⟩
theorem mw_890 : Jvm.Cond.fieldLink "ServerLineModel" (167 : Nat) "ServerLineModel" "guardedCost" "I" ∈ mm_G := mm_in (mt_4 (List.mem_of_getElem? (l := tables_1_4) (i := 115) (by decide +kernel))) rfl
theorem fl_X12_167_X12 : mm_FL RX12 167 "ServerLineModel" 11 RX12 TX12 29 19 := ⟨rfl, by decide, uw_X12, mw_890, Or.inl rfl⟩
theorem mw_886 : Jvm.Cond.fieldLink "ServerLineModel" (44 : Nat) "ServerLineModel" "one" "[I" ∈ mm_G := mm_in (mt_4 (List.mem_of_getElem? (l := tables_1_4) (i := 111) (by decide +kernel))) rfl
theorem fl_X12_44_X12 : mm_FL RX12 44 "ServerLineModel" 11 RX12 TX12 29 15 := ⟨rfl, by decide, uw_X12, mw_886, Or.inl rfl⟩
theorem mw_1053 : Jvm.Cond.code ({ cls := "ServerLineModel", name := "keep", desc := "([I[I)V" } : Jvm.MethodName) prog_14_method_35_code (3 : Nat) (Option.none : Option Jvm.ClassFile.FieldType) ∈ mm_G := mm_in (mt_5 (List.mem_of_getElem? (l := tables_1_5) (i := 38) (by decide +kernel))) rfl
theorem wb_X12_keep : mm_CB yX12_keep cX12_keep 3 none 2 := ⟨mw_1053, mw_69, ⟨by decide, by decide⟩, by decide +kernel, by decide⟩
theorem mw_1051 : Jvm.Cond.methodLink "ServerLineModel" (170 : Nat) ({ cls := "ServerLineModel", name := "keep", desc := "([I[I)V" } : Jvm.MethodName) ∈ mm_G := mm_in (mt_5 (List.mem_of_getElem? (l := tables_1_5) (i := 36) (by decide +kernel))) rfl
theorem mw_1052 : Jvm.Cond.static ({ cls := "ServerLineModel", name := "keep", desc := "([I[I)V" } : Jvm.MethodName) ∈ mm_G := mm_in (mt_5 (List.mem_of_getElem? (l := tables_1_5) (i := 37) (by decide +kernel))) rfl
theorem ws_X12_170 : mm_SW RX12 170 yX12_keep := ⟨mw_1051, mw_1052⟩
theorem mw_887 : Jvm.Cond.fieldLink "ServerLineModel" (47 : Nat) "ServerLineModel" "three" "[I" ∈ mm_G := mm_in (mt_4 (List.mem_of_getElem? (l := tables_1_4) (i := 112) (by decide +kernel))) rfl
theorem fl_X12_47_X12 : mm_FL RX12 47 "ServerLineModel" 11 RX12 TX12 29 16 := ⟨rfl, by decide, uw_X12, mw_887, Or.inl rfl⟩
theorem mw_888 : Jvm.Cond.fieldLink "ServerLineModel" (50 : Nat) "ServerLineModel" "guarded" "[I" ∈ mm_G := mm_in (mt_4 (List.mem_of_getElem? (l := tables_1_4) (i := 113) (by decide +kernel))) rfl
theorem fl_X12_50_X12 : mm_FL RX12 50 "ServerLineModel" 11 RX12 TX12 29 17 := ⟨rfl, by decide, uw_X12, mw_888, Or.inl rfl⟩
theorem mw_1046 : Jvm.Cond.code ({ cls := "ServerLineModel", name := "runsGuarded", desc := "(I)V" } : Jvm.MethodName) prog_14_method_36_code (5 : Nat) (Option.none : Option Jvm.ClassFile.FieldType) ∈ mm_G := mm_in (mt_5 (List.mem_of_getElem? (l := tables_1_5) (i := 31) (by decide +kernel))) rfl
theorem wb_X12_runsGuarded : mm_CB yX12_runsGuarded cX12_runsGuarded 5 none 1 := ⟨mw_1046, mw_69, ⟨by decide, by decide⟩, by decide +kernel, by decide⟩
theorem mw_1043 : Jvm.Cond.methodLink "ServerLineModel" (174 : Nat) ({ cls := "ServerLineModel", name := "runsGuarded", desc := "(I)V" } : Jvm.MethodName) ∈ mm_G := mm_in (mt_5 (List.mem_of_getElem? (l := tables_1_5) (i := 28) (by decide +kernel))) rfl
theorem mw_1045 : Jvm.Cond.instanceMethod ({ cls := "ServerLineModel", name := "runsGuarded", desc := "(I)V" } : Jvm.MethodName) ∈ mm_G := mm_in (mt_5 (List.mem_of_getElem? (l := tables_1_5) (i := 30) (by decide +kernel))) rfl
theorem mw_35 : Cond.selects "ServerLineModel" ⟨"ServerLineModel", "runsGuarded", "(I)V"⟩ ⟨"ServerLineModel", "runsGuarded", "(I)V"⟩ ∈ mm_G := mm_in (List.mem_append_left _ (List.mem_of_getElem? (i := 35) (by decide +kernel))) rfl
theorem wv_X12_174 : mm_VW RX12 174 yX12_runsGuarded := ⟨mw_1043, mw_1045, mw_35⟩
theorem mw_1042 : Jvm.Cond.code ({ cls := "ServerLineModel", name := "costOf", desc := "(I)I" } : Jvm.MethodName) prog_14_method_37_code (2 : Nat) (Option.some Jvm.ClassFile.FieldType.int) ∈ mm_G := mm_in (mt_5 (List.mem_of_getElem? (l := tables_1_5) (i := 27) (by decide +kernel))) rfl
theorem wb_X12_costOf : mm_CB yX12_costOf cX12_costOf 2 (some .int) 1 := ⟨mw_1042, mw_69, ⟨by decide, by decide⟩, by decide +kernel, by decide⟩
theorem mw_1039 : Jvm.Cond.methodLink "ServerLineModel" (180 : Nat) ({ cls := "ServerLineModel", name := "costOf", desc := "(I)I" } : Jvm.MethodName) ∈ mm_G := mm_in (mt_5 (List.mem_of_getElem? (l := tables_1_5) (i := 24) (by decide +kernel))) rfl
theorem mw_1041 : Jvm.Cond.instanceMethod ({ cls := "ServerLineModel", name := "costOf", desc := "(I)I" } : Jvm.MethodName) ∈ mm_G := mm_in (mt_5 (List.mem_of_getElem? (l := tables_1_5) (i := 26) (by decide +kernel))) rfl
theorem mw_34 : Cond.selects "ServerLineModel" ⟨"ServerLineModel", "costOf", "(I)I"⟩ ⟨"ServerLineModel", "costOf", "(I)I"⟩ ∈ mm_G := mm_in (List.mem_append_left _ (List.mem_of_getElem? (i := 34) (by decide +kernel))) rfl
theorem wv_X12_180 : mm_VW RX12 180 yX12_costOf := ⟨mw_1039, mw_1041, mw_34⟩
theorem mw_891 : Jvm.Cond.fieldLink "ServerLineModel" (183 : Nat) "ServerLineModel" "worstOf" "I" ∈ mm_G := mm_in (mt_4 (List.mem_of_getElem? (l := tables_1_4) (i := 116) (by decide +kernel))) rfl
theorem fl_X12_183_X12 : mm_FL RX12 183 "ServerLineModel" 11 RX12 TX12 29 20 := ⟨rfl, by decide, uw_X12, mw_891, Or.inl rfl⟩
theorem mw_892 : Jvm.Cond.fieldLink "ServerLineModel" (186 : Nat) "ServerLineModel" "worstCost" "I" ∈ mm_G := mm_in (mt_4 (List.mem_of_getElem? (l := tables_1_4) (i := 117) (by decide +kernel))) rfl
theorem fl_X12_186_X12 : mm_FL RX12 186 "ServerLineModel" 11 RX12 TX12 29 21 := ⟨rfl, by decide, uw_X12, mw_892, Or.inl rfl⟩
theorem mw_893 : Jvm.Cond.fieldLink "ServerLineModel" (189 : Nat) "ServerLineModel" "worstBest" "I" ∈ mm_G := mm_in (mt_4 (List.mem_of_getElem? (l := tables_1_4) (i := 118) (by decide +kernel))) rfl
theorem fl_X12_189_X12 : mm_FL RX12 189 "ServerLineModel" 11 RX12 TX12 29 22 := ⟨rfl, by decide, uw_X12, mw_893, Or.inl rfl⟩
theorem mw_1129 : Jvm.Cond.code ({ cls := "ServerLineModel", name := "seeks", desc := "(II)V" } : Jvm.MethodName) prog_14_method_44_code (8 : Nat) (Option.none : Option Jvm.ClassFile.FieldType) ∈ mm_G := mm_in (mt_5 (List.mem_of_getElem? (l := tables_1_5) (i := 114) (by decide +kernel))) rfl
theorem wb_X12_seeks : mm_CB yX12_seeks cX12_seeks 8 none 2 := ⟨mw_1129, mw_69, ⟨by decide, by decide⟩, by decide +kernel, by decide⟩
theorem mw_1126 : Jvm.Cond.methodLink "ServerLineModel" (192 : Nat) ({ cls := "ServerLineModel", name := "seeks", desc := "(II)V" } : Jvm.MethodName) ∈ mm_G := mm_in (mt_5 (List.mem_of_getElem? (l := tables_1_5) (i := 111) (by decide +kernel))) rfl
theorem mw_1128 : Jvm.Cond.instanceMethod ({ cls := "ServerLineModel", name := "seeks", desc := "(II)V" } : Jvm.MethodName) ∈ mm_G := mm_in (mt_5 (List.mem_of_getElem? (l := tables_1_5) (i := 113) (by decide +kernel))) rfl
theorem mw_49 : Cond.selects "ServerLineModel" ⟨"ServerLineModel", "seeks", "(II)V"⟩ ⟨"ServerLineModel", "seeks", "(II)V"⟩ ∈ mm_G := mm_in (List.mem_append_left _ (List.mem_of_getElem? (i := 49) (by decide +kernel))) rfl
theorem wv_X12_192 : mm_VW RX12 192 yX12_seeks := ⟨mw_1126, mw_1128, mw_49⟩
theorem mw_1141 : Jvm.Cond.code ({ cls := "ServerLineModel", name := "standingAt", desc := "(I)I" } : Jvm.MethodName) prog_14_method_48_code (4 : Nat) (Option.some Jvm.ClassFile.FieldType.int) ∈ mm_G := mm_in (mt_5 (List.mem_of_getElem? (l := tables_1_5) (i := 126) (by decide +kernel))) rfl
theorem wb_X12_standingAt : mm_CB yX12_standingAt cX12_standingAt 4 (some .int) 1 := ⟨mw_1141, mw_69, ⟨by decide, by decide⟩, by decide +kernel, by decide⟩
theorem mw_1138 : Jvm.Cond.methodLink "ServerLineModel" (195 : Nat) ({ cls := "ServerLineModel", name := "standingAt", desc := "(I)I" } : Jvm.MethodName) ∈ mm_G := mm_in (mt_5 (List.mem_of_getElem? (l := tables_1_5) (i := 123) (by decide +kernel))) rfl
theorem mw_1140 : Jvm.Cond.instanceMethod ({ cls := "ServerLineModel", name := "standingAt", desc := "(I)I" } : Jvm.MethodName) ∈ mm_G := mm_in (mt_5 (List.mem_of_getElem? (l := tables_1_5) (i := 125) (by decide +kernel))) rfl
theorem mw_50 : Cond.selects "ServerLineModel" ⟨"ServerLineModel", "standingAt", "(I)I"⟩ ⟨"ServerLineModel", "standingAt", "(I)I"⟩ ∈ mm_G := mm_in (List.mem_append_left _ (List.mem_of_getElem? (i := 50) (by decide +kernel))) rfl
theorem wv_X12_195 : mm_VW RX12 195 yX12_standingAt := ⟨mw_1138, mw_1140, mw_50⟩
theorem mw_1145 : Jvm.Cond.code ({ cls := "ServerLineModel", name := "longs", desc := "(I)I" } : Jvm.MethodName) prog_14_method_47_code (8 : Nat) (Option.some Jvm.ClassFile.FieldType.int) ∈ mm_G := mm_in (mt_5 (List.mem_of_getElem? (l := tables_1_5) (i := 130) (by decide +kernel))) rfl
theorem wb_X12_longs : mm_CB yX12_longs cX12_longs 8 (some .int) 1 := ⟨mw_1145, mw_69, ⟨by decide, by decide⟩, by decide +kernel, by decide⟩
theorem mw_1142 : Jvm.Cond.methodLink "ServerLineModel" (198 : Nat) ({ cls := "ServerLineModel", name := "longs", desc := "(I)I" } : Jvm.MethodName) ∈ mm_G := mm_in (mt_5 (List.mem_of_getElem? (l := tables_1_5) (i := 127) (by decide +kernel))) rfl
theorem mw_1144 : Jvm.Cond.instanceMethod ({ cls := "ServerLineModel", name := "longs", desc := "(I)I" } : Jvm.MethodName) ∈ mm_G := mm_in (mt_5 (List.mem_of_getElem? (l := tables_1_5) (i := 129) (by decide +kernel))) rfl
theorem mw_51 : Cond.selects "ServerLineModel" ⟨"ServerLineModel", "longs", "(I)I"⟩ ⟨"ServerLineModel", "longs", "(I)I"⟩ ∈ mm_G := mm_in (List.mem_append_left _ (List.mem_of_getElem? (i := 51) (by decide +kernel))) rfl
theorem wv_X12_198 : mm_VW RX12 198 yX12_longs := ⟨mw_1142, mw_1144, mw_51⟩
theorem mw_1153 : Jvm.Cond.code ({ cls := "ServerLineModel", name := "paysNot", desc := "()I" } : Jvm.MethodName) prog_14_method_50_code (7 : Nat) (Option.some Jvm.ClassFile.FieldType.int) ∈ mm_G := mm_in (mt_5 (List.mem_of_getElem? (l := tables_1_5) (i := 138) (by decide +kernel))) rfl
theorem wb_X12_paysNot : mm_CB yX12_paysNot cX12_paysNot 7 (some .int) 0 := ⟨mw_1153, mw_69, ⟨by decide, by decide⟩, by decide +kernel, by decide⟩
theorem mw_1150 : Jvm.Cond.methodLink "ServerLineModel" (201 : Nat) ({ cls := "ServerLineModel", name := "paysNot", desc := "()I" } : Jvm.MethodName) ∈ mm_G := mm_in (mt_5 (List.mem_of_getElem? (l := tables_1_5) (i := 135) (by decide +kernel))) rfl
theorem mw_1152 : Jvm.Cond.instanceMethod ({ cls := "ServerLineModel", name := "paysNot", desc := "()I" } : Jvm.MethodName) ∈ mm_G := mm_in (mt_5 (List.mem_of_getElem? (l := tables_1_5) (i := 137) (by decide +kernel))) rfl
theorem mw_52 : Cond.selects "ServerLineModel" ⟨"ServerLineModel", "paysNot", "()I"⟩ ⟨"ServerLineModel", "paysNot", "()I"⟩ ∈ mm_G := mm_in (List.mem_append_left _ (List.mem_of_getElem? (i := 52) (by decide +kernel))) rfl
theorem wv_X12_201 : mm_VW RX12 201 yX12_paysNot := ⟨mw_1150, mw_1152, mw_52⟩
theorem mw_1160 : Jvm.Cond.code ({ cls := "ServerLineModel", name := "isSheet", desc := "(I)Z" } : Jvm.MethodName) prog_14_method_53_code (1 : Nat) (Option.some Jvm.ClassFile.FieldType.boolean) ∈ mm_G := mm_in (mt_5 (List.mem_of_getElem? (l := tables_1_5) (i := 145) (by decide +kernel))) rfl
theorem wb_X12_isSheet : mm_CB yX12_isSheet cX12_isSheet 1 (some .boolean) 1 := ⟨mw_1160, mw_69, ⟨by decide, by decide⟩, by decide +kernel, by decide⟩
theorem mw_1158 : Jvm.Cond.methodLink "ServerLineModel" (204 : Nat) ({ cls := "ServerLineModel", name := "isSheet", desc := "(I)Z" } : Jvm.MethodName) ∈ mm_G := mm_in (mt_5 (List.mem_of_getElem? (l := tables_1_5) (i := 143) (by decide +kernel))) rfl
theorem mw_1159 : Jvm.Cond.static ({ cls := "ServerLineModel", name := "isSheet", desc := "(I)Z" } : Jvm.MethodName) ∈ mm_G := mm_in (mt_5 (List.mem_of_getElem? (l := tables_1_5) (i := 144) (by decide +kernel))) rfl
theorem ws_X12_204 : mm_SW RX12 204 yX12_isSheet := ⟨mw_1158, mw_1159⟩
theorem mw_895 : Jvm.Cond.fieldLink "ServerLineModel" (57 : Nat) "ServerLineModel" "forms" "[I" ∈ mm_G := mm_in (mt_4 (List.mem_of_getElem? (l := tables_1_4) (i := 120) (by decide +kernel))) rfl
theorem fl_X12_57_X12 : mm_FL RX12 57 "ServerLineModel" 11 RX12 TX12 29 24 := ⟨rfl, by decide, uw_X12, mw_895, Or.inl rfl⟩
theorem mw_1164 : Jvm.Cond.code ({ cls := "ServerLineModel", name := "meets", desc := "(I)I" } : Jvm.MethodName) prog_14_method_52_code (2 : Nat) (Option.some Jvm.ClassFile.FieldType.int) ∈ mm_G := mm_in (mt_5 (List.mem_of_getElem? (l := tables_1_5) (i := 149) (by decide +kernel))) rfl
theorem wb_X12_meets : mm_CB yX12_meets cX12_meets 2 (some .int) 1 := ⟨mw_1164, mw_69, ⟨by decide, by decide⟩, by decide +kernel, by decide⟩
theorem mw_1161 : Jvm.Cond.methodLink "ServerLineModel" (207 : Nat) ({ cls := "ServerLineModel", name := "meets", desc := "(I)I" } : Jvm.MethodName) ∈ mm_G := mm_in (mt_5 (List.mem_of_getElem? (l := tables_1_5) (i := 146) (by decide +kernel))) rfl
theorem mw_1163 : Jvm.Cond.instanceMethod ({ cls := "ServerLineModel", name := "meets", desc := "(I)I" } : Jvm.MethodName) ∈ mm_G := mm_in (mt_5 (List.mem_of_getElem? (l := tables_1_5) (i := 148) (by decide +kernel))) rfl
theorem mw_53 : Cond.selects "ServerLineModel" ⟨"ServerLineModel", "meets", "(I)I"⟩ ⟨"ServerLineModel", "meets", "(I)I"⟩ ∈ mm_G := mm_in (List.mem_append_left _ (List.mem_of_getElem? (i := 53) (by decide +kernel))) rfl
theorem wv_X12_207 : mm_VW RX12 207 yX12_meets := ⟨mw_1161, mw_1163, mw_53⟩
theorem mw_1176 : Jvm.Cond.code ({ cls := "ServerLineModel", name := "lacks", desc := "(III)I" } : Jvm.MethodName) prog_14_method_56_code (4 : Nat) (Option.some Jvm.ClassFile.FieldType.int) ∈ mm_G := mm_in (mt_5 (List.mem_of_getElem? (l := tables_1_5) (i := 161) (by decide +kernel))) rfl
theorem wb_X12_lacks : mm_CB yX12_lacks cX12_lacks 4 (some .int) 3 := ⟨mw_1176, mw_69, ⟨by decide, by decide⟩, by decide +kernel, by decide⟩
theorem mw_1173 : Jvm.Cond.methodLink "ServerLineModel" (210 : Nat) ({ cls := "ServerLineModel", name := "lacks", desc := "(III)I" } : Jvm.MethodName) ∈ mm_G := mm_in (mt_5 (List.mem_of_getElem? (l := tables_1_5) (i := 158) (by decide +kernel))) rfl
theorem mw_1175 : Jvm.Cond.instanceMethod ({ cls := "ServerLineModel", name := "lacks", desc := "(III)I" } : Jvm.MethodName) ∈ mm_G := mm_in (mt_5 (List.mem_of_getElem? (l := tables_1_5) (i := 160) (by decide +kernel))) rfl
theorem mw_54 : Cond.selects "ServerLineModel" ⟨"ServerLineModel", "lacks", "(III)I"⟩ ⟨"ServerLineModel", "lacks", "(III)I"⟩ ∈ mm_G := mm_in (List.mem_append_left _ (List.mem_of_getElem? (i := 54) (by decide +kernel))) rfl
theorem wv_X12_210 : mm_VW RX12 210 yX12_lacks := ⟨mw_1173, mw_1175, mw_54⟩
theorem mw_1181 : Jvm.Cond.constant "ServerLineModel" (213 : Nat) (-2147483648 : Int32) ∈ mm_G := mm_in (mt_5 (List.mem_of_getElem? (l := tables_1_5) (i := 166) (by decide +kernel))) rfl
theorem mw_898 : Jvm.Cond.fieldLink "ServerLineModel" (66 : Nat) "ServerLineModel" "moved" "[I" ∈ mm_G := mm_in (mt_4 (List.mem_of_getElem? (l := tables_1_4) (i := 123) (by decide +kernel))) rfl
theorem fl_X12_66_X12 : mm_FL RX12 66 "ServerLineModel" 11 RX12 TX12 29 27 := ⟨rfl, by decide, uw_X12, mw_898, Or.inl rfl⟩
theorem mw_1198 : Jvm.Cond.constantLong "ServerLineModel" (214 : Nat) (17 : Int64) ∈ mm_G := mm_in (mt_5 (List.mem_of_getElem? (l := tables_1_5) (i := 183) (by decide +kernel))) rfl
theorem mw_1199 : Jvm.Cond.constantLong "ServerLineModel" (216 : Nat) (31 : Int64) ∈ mm_G := mm_in (mt_5 (List.mem_of_getElem? (l := tables_1_5) (i := 184) (by decide +kernel))) rfl
theorem mw_1193 : Jvm.Cond.code ({ cls := "ServerLineModel", name := "count", desc := "(I)I" } : Jvm.MethodName) prog_14_method_61_code (4 : Nat) (Option.some Jvm.ClassFile.FieldType.int) ∈ mm_G := mm_in (mt_5 (List.mem_of_getElem? (l := tables_1_5) (i := 178) (by decide +kernel))) rfl
theorem wb_X12_count : mm_CB yX12_count cX12_count 4 (some .int) 1 := ⟨mw_1193, mw_69, ⟨by decide, by decide⟩, by decide +kernel, by decide⟩
theorem mw_1200 : Jvm.Cond.methodLink "ServerLineModel" (218 : Nat) ({ cls := "ServerLineModel", name := "count", desc := "(I)I" } : Jvm.MethodName) ∈ mm_G := mm_in (mt_5 (List.mem_of_getElem? (l := tables_1_5) (i := 185) (by decide +kernel))) rfl
theorem mw_1191 : Jvm.Cond.instanceMethod ({ cls := "ServerLineModel", name := "count", desc := "(I)I" } : Jvm.MethodName) ∈ mm_G := mm_in (mt_5 (List.mem_of_getElem? (l := tables_1_5) (i := 176) (by decide +kernel))) rfl
theorem mw_1192 : Jvm.Cond.selects "ServerLineModel" ({ cls := "ServerLineModel", name := "count", desc := "(I)I" } : Jvm.MethodName) ({ cls := "ServerLineModel", name := "count", desc := "(I)I" } : Jvm.MethodName) ∈ mm_G := mm_in (mt_5 (List.mem_of_getElem? (l := tables_1_5) (i := 177) (by decide +kernel))) rfl
theorem wv_X12_218 : mm_VW RX12 218 yX12_count := ⟨mw_1200, mw_1191, mw_1192⟩
