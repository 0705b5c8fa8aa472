/-! THE CLAIM OUT OF ONE WALK OF THE LAW'S BODY. Your part is whole_start (and what it stands on); all else here is the same for every law, but numbers. -/
def R_law : String := "ServerLineLaw"
def lw_P (b : Addr) (xs : List Int32) (args : Array Value) (s : State) : Prop := args = #[.ref b] ∧ s.IntsAt b xs ∧ xs.length ≤ 3072 ∧ (Jvm.Cond.and given_1 narrow_1).before args s = true
def lw_Q (_ : Array Value) (s : State) (o : Outcome) (t : State) : Prop := o = .returned (some (.int 1)) ∧ Framed s o t [] 600000 7302250
def lw_Z (below : List Frame) (a : Array Value) (s : State) : State → Prop := fun t => ∃ o, t.status = .running ∧ Ended t below o ∧ lw_Q a s o t
/-- the law's own end, with 1 on the stack, nothing written that was there before, its room as the claim has it -/
theorem lw_ret {p : Program} {l : Launch} {e : Env} {s : State} {m : MethodId} {below : List Frame} {meth : Method} {c : Code} {b : Nat} (hx : p.tables.exec = Jvm.exec) (hb : c.code = code) (hr : meth.sig.returnType = ret) (hlocks : meth.locks = false) {pc : Nat} {H : Heap} {ls : Array Slot} (hdg : decode code pc = .ok (.ireturn, 1)) : W p l e room_1 s m #[Value.ref b] below meth c H [] 600000 7302250 (lw_Z below #[Value.ref b] s) (F0 m pc ls [.int 1]) := by
  intro T hT X
  obtain ⟨fs, hret, hrun, hended, hW, hframe⟩ := X.leave (v := some (.int 1)) (hlocks := hlocks) (fun h => by rw [hr] at h; cases h)
  have hmeth' : T.vm.method? m = some meth := X.method'
  refine ⟨T.setFrames fs, ?_, .returned (some (.int 1)), hrun, hended, rfl, ⟨_, rfl⟩, hW, hframe⟩
  jvm_step X.here [X.here.top, hx, hb, hdg, hmeth', hr, ret, narrow_b1]
  (try refine ⟨rfl, ?_⟩); (try refine ⟨rfl, ?_⟩)
  first | (intro acts; rw [hret _ acts rfl rfl rfl]) | rw [hret _ _ rfl rfl rfl]
  exact Steps.refl _
/-- what holds at the law's entry: the machine, the code, the tables' words (any of lw_tbl by 'hts w (by decide +kernel)'), the script of L ints xs at the cell b, what the Statement gives of the start (any of its parts by flat_of_before) -/
def lw_At (p : Program) (s : State) (m : MethodId) (meth : Method) (c : Code) (b L : Nat) (xs : Nat → Int32) : Prop :=
  p.tables.exec = Jvm.exec ∧ c.code = code ∧ meth.sig.returnType = ret ∧ c.maxLocals = 4 ∧ s.vm.findClass R_law = some m.cls ∧ (∀ w ∈ lw_tbl, w.before #[Value.ref b] s = true) ∧ va_X b L xs s s.heap ∧ b < s.heap.size ∧ meth.locks = false ∧ (Jvm.Cond.and given_1 narrow_1).before #[Value.ref b] s = true
theorem mw_445 : Jvm.Cond.methodLink "ServerLineLaw" (13 : Nat) ({ cls := "ServerLine", name := "points", desc := "(I)I" } : Jvm.MethodName) ∈ mm_G := mm_in (mt_2 (List.mem_of_getElem? (l := tables_1_2) (i := 150) (by decide +kernel))) rfl
theorem mw_446 : Jvm.Cond.instanceMethod ({ cls := "ServerLine", name := "points", desc := "(I)I" } : Jvm.MethodName) ∈ mm_G := mm_in (mt_2 (List.mem_of_getElem? (l := tables_1_2) (i := 151) (by decide +kernel))) rfl
theorem mw_447 : Jvm.Cond.selects "ServerLine" ({ cls := "ServerLine", name := "points", desc := "(I)I" } : Jvm.MethodName) ({ cls := "ServerLine", name := "points", desc := "(I)I" } : Jvm.MethodName) ∈ mm_G := mm_in (mt_2 (List.mem_of_getElem? (l := tables_1_2) (i := 152) (by decide +kernel))) rfl
theorem wv_L_13 : mm_VW RL 13 yX11_points := ⟨mw_445, mw_446, mw_447⟩
theorem mw_448 : Jvm.Cond.code ({ cls := "ServerLine", name := "points", desc := "(I)I" } : Jvm.MethodName) prog_1_method_2_code (3 : Nat) (Option.some Jvm.ClassFile.FieldType.int) ∈ mm_G := mm_in (mt_2 (List.mem_of_getElem? (l := tables_1_2) (i := 153) (by decide +kernel))) rfl
theorem wb_X11_points : mm_CB yX11_points cX11_points 3 (some .int) 1 := ⟨mw_448, mw_56, ⟨by decide, by decide⟩, by decide +kernel, by decide⟩
theorem mw_960 : Jvm.Cond.methodLink "ServerLineLaw" (17 : Nat) ({ cls := "ServerLineModel", name := "points", desc := "(I)I" } : Jvm.MethodName) ∈ mm_G := mm_in (mt_4 (List.mem_of_getElem? (l := tables_1_4) (i := 185) (by decide +kernel))) rfl
theorem mw_961 : Jvm.Cond.instanceMethod ({ cls := "ServerLineModel", name := "points", desc := "(I)I" } : Jvm.MethodName) ∈ mm_G := mm_in (mt_4 (List.mem_of_getElem? (l := tables_1_4) (i := 186) (by decide +kernel))) rfl
theorem mw_962 : Jvm.Cond.selects "ServerLineModel" ({ cls := "ServerLineModel", name := "points", desc := "(I)I" } : Jvm.MethodName) ({ cls := "ServerLineModel", name := "points", desc := "(I)I" } : Jvm.MethodName) ∈ mm_G := mm_in (mt_4 (List.mem_of_getElem? (l := tables_1_4) (i := 187) (by decide +kernel))) rfl
theorem wv_L_17 : mm_VW RL 17 yX12_points := ⟨mw_960, mw_961, mw_962⟩
theorem mw_963 : Jvm.Cond.code ({ cls := "ServerLineModel", name := "points", desc := "(I)I" } : Jvm.MethodName) prog_14_method_5_code (4 : Nat) (Option.some Jvm.ClassFile.FieldType.int) ∈ mm_G := mm_in (mt_4 (List.mem_of_getElem? (l := tables_1_4) (i := 188) (by decide +kernel))) rfl
theorem wb_X12_points : mm_CB yX12_points cX12_points 4 (some .int) 1 := ⟨mw_963, mw_69, ⟨by decide, by decide⟩, by decide +kernel, by decide⟩
theorem mw_456 : Jvm.Cond.methodLink "ServerLineLaw" (18 : Nat) ({ cls := "ServerLine", name := "place", desc := "(II)I" } : Jvm.MethodName) ∈ mm_G := mm_in (mt_2 (List.mem_of_getElem? (l := tables_1_2) (i := 161) (by decide +kernel))) rfl
theorem mw_457 : Jvm.Cond.instanceMethod ({ cls := "ServerLine", name := "place", desc := "(II)I" } : Jvm.MethodName) ∈ mm_G := mm_in (mt_2 (List.mem_of_getElem? (l := tables_1_2) (i := 162) (by decide +kernel))) rfl
theorem mw_458 : Jvm.Cond.selects "ServerLine" ({ cls := "ServerLine", name := "place", desc := "(II)I" } : Jvm.MethodName) ({ cls := "ServerLine", name := "place", desc := "(II)I" } : Jvm.MethodName) ∈ mm_G := mm_in (mt_2 (List.mem_of_getElem? (l := tables_1_2) (i := 163) (by decide +kernel))) rfl
theorem wv_L_18 : mm_VW RL 18 yX11_place := ⟨mw_456, mw_457, mw_458⟩
theorem mw_459 : Jvm.Cond.code ({ cls := "ServerLine", name := "place", desc := "(II)I" } : Jvm.MethodName) prog_1_method_3_code (4 : Nat) (Option.some Jvm.ClassFile.FieldType.int) ∈ mm_G := mm_in (mt_2 (List.mem_of_getElem? (l := tables_1_2) (i := 164) (by decide +kernel))) rfl
theorem wb_X11_place : mm_CB yX11_place cX11_place 4 (some .int) 2 := ⟨mw_459, mw_56, ⟨by decide, by decide⟩, by decide +kernel, by decide⟩
theorem mw_967 : Jvm.Cond.methodLink "ServerLineLaw" (22 : Nat) ({ cls := "ServerLineModel", name := "place", desc := "(II)I" } : Jvm.MethodName) ∈ mm_G := mm_in (mt_4 (List.mem_of_getElem? (l := tables_1_4) (i := 192) (by decide +kernel))) rfl
theorem mw_968 : Jvm.Cond.instanceMethod ({ cls := "ServerLineModel", name := "place", desc := "(II)I" } : Jvm.MethodName) ∈ mm_G := mm_in (mt_4 (List.mem_of_getElem? (l := tables_1_4) (i := 193) (by decide +kernel))) rfl
theorem mw_969 : Jvm.Cond.selects "ServerLineModel" ({ cls := "ServerLineModel", name := "place", desc := "(II)I" } : Jvm.MethodName) ({ cls := "ServerLineModel", name := "place", desc := "(II)I" } : Jvm.MethodName) ∈ mm_G := mm_in (mt_4 (List.mem_of_getElem? (l := tables_1_4) (i := 194) (by decide +kernel))) rfl
theorem wv_L_22 : mm_VW RL 22 yX12_place := ⟨mw_967, mw_968, mw_969⟩
theorem mw_970 : Jvm.Cond.code ({ cls := "ServerLineModel", name := "place", desc := "(II)I" } : Jvm.MethodName) prog_14_method_7_code (4 : Nat) (Option.some Jvm.ClassFile.FieldType.int) ∈ mm_G := mm_in (mt_4 (List.mem_of_getElem? (l := tables_1_4) (i := 195) (by decide +kernel))) rfl
theorem wb_X12_place : mm_CB yX12_place cX12_place 4 (some .int) 2 := ⟨mw_970, mw_69, ⟨by decide, by decide⟩, by decide +kernel, by decide⟩
theorem mw_464 : Jvm.Cond.methodLink "ServerLineLaw" (23 : Nat) ({ cls := "ServerLine", name := "servers", desc := "(I)I" } : Jvm.MethodName) ∈ mm_G := mm_in (mt_2 (List.mem_of_getElem? (l := tables_1_2) (i := 169) (by decide +kernel))) rfl
theorem mw_465 : Jvm.Cond.instanceMethod ({ cls := "ServerLine", name := "servers", desc := "(I)I" } : Jvm.MethodName) ∈ mm_G := mm_in (mt_2 (List.mem_of_getElem? (l := tables_1_2) (i := 170) (by decide +kernel))) rfl
theorem mw_466 : Jvm.Cond.selects "ServerLine" ({ cls := "ServerLine", name := "servers", desc := "(I)I" } : Jvm.MethodName) ({ cls := "ServerLine", name := "servers", desc := "(I)I" } : Jvm.MethodName) ∈ mm_G := mm_in (mt_2 (List.mem_of_getElem? (l := tables_1_2) (i := 171) (by decide +kernel))) rfl
theorem wv_L_23 : mm_VW RL 23 yX11_servers := ⟨mw_464, mw_465, mw_466⟩
theorem mw_467 : Jvm.Cond.code ({ cls := "ServerLine", name := "servers", desc := "(I)I" } : Jvm.MethodName) prog_1_method_4_code (3 : Nat) (Option.some Jvm.ClassFile.FieldType.int) ∈ mm_G := mm_in (mt_2 (List.mem_of_getElem? (l := tables_1_2) (i := 172) (by decide +kernel))) rfl
theorem wb_X11_servers : mm_CB yX11_servers cX11_servers 3 (some .int) 1 := ⟨mw_467, mw_56, ⟨by decide, by decide⟩, by decide +kernel, by decide⟩
theorem mw_975 : Jvm.Cond.methodLink "ServerLineLaw" (26 : Nat) ({ cls := "ServerLineModel", name := "servers", desc := "(I)I" } : Jvm.MethodName) ∈ mm_G := mm_in (mt_4 (List.mem_of_getElem? (l := tables_1_4) (i := 200) (by decide +kernel))) rfl
theorem mw_976 : Jvm.Cond.instanceMethod ({ cls := "ServerLineModel", name := "servers", desc := "(I)I" } : Jvm.MethodName) ∈ mm_G := mm_in (mt_4 (List.mem_of_getElem? (l := tables_1_4) (i := 201) (by decide +kernel))) rfl
theorem mw_977 : Jvm.Cond.selects "ServerLineModel" ({ cls := "ServerLineModel", name := "servers", desc := "(I)I" } : Jvm.MethodName) ({ cls := "ServerLineModel", name := "servers", desc := "(I)I" } : Jvm.MethodName) ∈ mm_G := mm_in (mt_4 (List.mem_of_getElem? (l := tables_1_4) (i := 202) (by decide +kernel))) rfl
theorem wv_L_26 : mm_VW RL 26 yX12_servers := ⟨mw_975, mw_976, mw_977⟩
theorem mw_978 : Jvm.Cond.code ({ cls := "ServerLineModel", name := "servers", desc := "(I)I" } : Jvm.MethodName) prog_14_method_8_code (4 : Nat) (Option.some Jvm.ClassFile.FieldType.int) ∈ mm_G := mm_in (mt_4 (List.mem_of_getElem? (l := tables_1_4) (i := 203) (by decide +kernel))) rfl
theorem wb_X12_servers : mm_CB yX12_servers cX12_servers 4 (some .int) 1 := ⟨mw_978, mw_69, ⟨by decide, by decide⟩, by decide +kernel, by decide⟩
theorem mw_472 : Jvm.Cond.methodLink "ServerLineLaw" (27 : Nat) ({ cls := "ServerLine", name := "start", desc := "(II)I" } : Jvm.MethodName) ∈ mm_G := mm_in (mt_2 (List.mem_of_getElem? (l := tables_1_2) (i := 177) (by decide +kernel))) rfl
theorem mw_473 : Jvm.Cond.instanceMethod ({ cls := "ServerLine", name := "start", desc := "(II)I" } : Jvm.MethodName) ∈ mm_G := mm_in (mt_2 (List.mem_of_getElem? (l := tables_1_2) (i := 178) (by decide +kernel))) rfl
theorem mw_474 : Jvm.Cond.selects "ServerLine" ({ cls := "ServerLine", name := "start", desc := "(II)I" } : Jvm.MethodName) ({ cls := "ServerLine", name := "start", desc := "(II)I" } : Jvm.MethodName) ∈ mm_G := mm_in (mt_2 (List.mem_of_getElem? (l := tables_1_2) (i := 179) (by decide +kernel))) rfl
theorem wv_L_27 : mm_VW RL 27 yX11_start := ⟨mw_472, mw_473, mw_474⟩
theorem mw_475 : Jvm.Cond.code ({ cls := "ServerLine", name := "start", desc := "(II)I" } : Jvm.MethodName) prog_1_method_5_code (4 : Nat) (Option.some Jvm.ClassFile.FieldType.int) ∈ mm_G := mm_in (mt_2 (List.mem_of_getElem? (l := tables_1_2) (i := 180) (by decide +kernel))) rfl
theorem wb_X11_start : mm_CB yX11_start cX11_start 4 (some .int) 2 := ⟨mw_475, mw_56, ⟨by decide, by decide⟩, by decide +kernel, by decide⟩
theorem mw_979 : Jvm.Cond.methodLink "ServerLineLaw" (30 : Nat) ({ cls := "ServerLineModel", name := "start", desc := "(II)I" } : Jvm.MethodName) ∈ mm_G := mm_in (mt_4 (List.mem_of_getElem? (l := tables_1_4) (i := 204) (by decide +kernel))) rfl
theorem mw_980 : Jvm.Cond.instanceMethod ({ cls := "ServerLineModel", name := "start", desc := "(II)I" } : Jvm.MethodName) ∈ mm_G := mm_in (mt_4 (List.mem_of_getElem? (l := tables_1_4) (i := 205) (by decide +kernel))) rfl
theorem mw_981 : Jvm.Cond.selects "ServerLineModel" ({ cls := "ServerLineModel", name := "start", desc := "(II)I" } : Jvm.MethodName) ({ cls := "ServerLineModel", name := "start", desc := "(II)I" } : Jvm.MethodName) ∈ mm_G := mm_in (mt_4 (List.mem_of_getElem? (l := tables_1_4) (i := 206) (by decide +kernel))) rfl
theorem wv_L_30 : mm_VW RL 30 yX12_start := ⟨mw_979, mw_980, mw_981⟩
theorem mw_982 : Jvm.Cond.code ({ cls := "ServerLineModel", name := "start", desc := "(II)I" } : Jvm.MethodName) prog_14_method_9_code (4 : Nat) (Option.some Jvm.ClassFile.FieldType.int) ∈ mm_G := mm_in (mt_4 (List.mem_of_getElem? (l := tables_1_4) (i := 207) (by decide +kernel))) rfl
theorem wb_X12_start : mm_CB yX12_start cX12_start 4 (some .int) 2 := ⟨mw_982, mw_69, ⟨by decide, by decide⟩, by decide +kernel, by decide⟩
theorem mw_480 : Jvm.Cond.methodLink "ServerLineLaw" (31 : Nat) ({ cls := "ServerLine", name := "factor", desc := "(I)I" } : Jvm.MethodName) ∈ mm_G := mm_in (mt_2 (List.mem_of_getElem? (l := tables_1_2) (i := 185) (by decide +kernel))) rfl
theorem mw_481 : Jvm.Cond.instanceMethod ({ cls := "ServerLine", name := "factor", desc := "(I)I" } : Jvm.MethodName) ∈ mm_G := mm_in (mt_2 (List.mem_of_getElem? (l := tables_1_2) (i := 186) (by decide +kernel))) rfl
theorem mw_482 : Jvm.Cond.selects "ServerLine" ({ cls := "ServerLine", name := "factor", desc := "(I)I" } : Jvm.MethodName) ({ cls := "ServerLine", name := "factor", desc := "(I)I" } : Jvm.MethodName) ∈ mm_G := mm_in (mt_2 (List.mem_of_getElem? (l := tables_1_2) (i := 187) (by decide +kernel))) rfl
theorem wv_L_31 : mm_VW RL 31 yX11_factor := ⟨mw_480, mw_481, mw_482⟩
theorem mw_483 : Jvm.Cond.code ({ cls := "ServerLine", name := "factor", desc := "(I)I" } : Jvm.MethodName) prog_1_method_6_code (3 : Nat) (Option.some Jvm.ClassFile.FieldType.int) ∈ mm_G := mm_in (mt_2 (List.mem_of_getElem? (l := tables_1_2) (i := 188) (by decide +kernel))) rfl
theorem wb_X11_factor : mm_CB yX11_factor cX11_factor 3 (some .int) 1 := ⟨mw_483, mw_56, ⟨by decide, by decide⟩, by decide +kernel, by decide⟩
theorem mw_983 : Jvm.Cond.methodLink "ServerLineLaw" (34 : Nat) ({ cls := "ServerLineModel", name := "factor", desc := "(I)I" } : Jvm.MethodName) ∈ mm_G := mm_in (mt_4 (List.mem_of_getElem? (l := tables_1_4) (i := 208) (by decide +kernel))) rfl
theorem mw_984 : Jvm.Cond.instanceMethod ({ cls := "ServerLineModel", name := "factor", desc := "(I)I" } : Jvm.MethodName) ∈ mm_G := mm_in (mt_4 (List.mem_of_getElem? (l := tables_1_4) (i := 209) (by decide +kernel))) rfl
theorem mw_985 : Jvm.Cond.selects "ServerLineModel" ({ cls := "ServerLineModel", name := "factor", desc := "(I)I" } : Jvm.MethodName) ({ cls := "ServerLineModel", name := "factor", desc := "(I)I" } : Jvm.MethodName) ∈ mm_G := mm_in (mt_4 (List.mem_of_getElem? (l := tables_1_4) (i := 210) (by decide +kernel))) rfl
theorem wv_L_34 : mm_VW RL 34 yX12_factor := ⟨mw_983, mw_984, mw_985⟩
theorem mw_986 : Jvm.Cond.code ({ cls := "ServerLineModel", name := "factor", desc := "(I)I" } : Jvm.MethodName) prog_14_method_10_code (3 : Nat) (Option.some Jvm.ClassFile.FieldType.int) ∈ mm_G := mm_in (mt_4 (List.mem_of_getElem? (l := tables_1_4) (i := 211) (by decide +kernel))) rfl
theorem wb_X12_factor : mm_CB yX12_factor cX12_factor 3 (some .int) 1 := ⟨mw_986, mw_69, ⟨by decide, by decide⟩, by decide +kernel, by decide⟩
theorem mw_484 : Jvm.Cond.methodLink "ServerLineLaw" (35 : Nat) ({ cls := "ServerLine", name := "asked", desc := "()I" } : Jvm.MethodName) ∈ mm_G := mm_in (mt_2 (List.mem_of_getElem? (l := tables_1_2) (i := 189) (by decide +kernel))) rfl
theorem mw_485 : Jvm.Cond.instanceMethod ({ cls := "ServerLine", name := "asked", desc := "()I" } : Jvm.MethodName) ∈ mm_G := mm_in (mt_2 (List.mem_of_getElem? (l := tables_1_2) (i := 190) (by decide +kernel))) rfl
theorem mw_486 : Jvm.Cond.selects "ServerLine" ({ cls := "ServerLine", name := "asked", desc := "()I" } : Jvm.MethodName) ({ cls := "ServerLine", name := "asked", desc := "()I" } : Jvm.MethodName) ∈ mm_G := mm_in (mt_2 (List.mem_of_getElem? (l := tables_1_2) (i := 191) (by decide +kernel))) rfl
theorem wv_L_35 : mm_VW RL 35 yX11_asked := ⟨mw_484, mw_485, mw_486⟩
theorem mw_487 : Jvm.Cond.code ({ cls := "ServerLine", name := "asked", desc := "()I" } : Jvm.MethodName) prog_1_method_7_code (1 : Nat) (Option.some Jvm.ClassFile.FieldType.int) ∈ mm_G := mm_in (mt_2 (List.mem_of_getElem? (l := tables_1_2) (i := 192) (by decide +kernel))) rfl
theorem wb_X11_asked : mm_CB yX11_asked cX11_asked 1 (some .int) 0 := ⟨mw_487, mw_56, ⟨by decide, by decide⟩, by decide +kernel, by decide⟩
theorem mw_987 : Jvm.Cond.methodLink "ServerLineLaw" (39 : Nat) ({ cls := "ServerLineModel", name := "asked", desc := "()I" } : Jvm.MethodName) ∈ mm_G := mm_in (mt_4 (List.mem_of_getElem? (l := tables_1_4) (i := 212) (by decide +kernel))) rfl
theorem mw_988 : Jvm.Cond.instanceMethod ({ cls := "ServerLineModel", name := "asked", desc := "()I" } : Jvm.MethodName) ∈ mm_G := mm_in (mt_4 (List.mem_of_getElem? (l := tables_1_4) (i := 213) (by decide +kernel))) rfl
theorem mw_989 : Jvm.Cond.selects "ServerLineModel" ({ cls := "ServerLineModel", name := "asked", desc := "()I" } : Jvm.MethodName) ({ cls := "ServerLineModel", name := "asked", desc := "()I" } : Jvm.MethodName) ∈ mm_G := mm_in (mt_4 (List.mem_of_getElem? (l := tables_1_4) (i := 214) (by decide +kernel))) rfl
theorem wv_L_39 : mm_VW RL 39 yX12_asked := ⟨mw_987, mw_988, mw_989⟩
theorem mw_990 : Jvm.Cond.code ({ cls := "ServerLineModel", name := "asked", desc := "()I" } : Jvm.MethodName) prog_14_method_13_code (1 : Nat) (Option.some Jvm.ClassFile.FieldType.int) ∈ mm_G := mm_in (mt_4 (List.mem_of_getElem? (l := tables_1_4) (i := 215) (by decide +kernel))) rfl
theorem wb_X12_asked : mm_CB yX12_asked cX12_asked 1 (some .int) 0 := ⟨mw_990, mw_69, ⟨by decide, by decide⟩, by decide +kernel, by decide⟩
theorem mw_508 : Jvm.Cond.methodLink "ServerLineLaw" (40 : Nat) ({ cls := "ServerLine", name := "cost", desc := "(I)I" } : Jvm.MethodName) ∈ mm_G := mm_in (mt_2 (List.mem_of_getElem? (l := tables_1_2) (i := 213) (by decide +kernel))) rfl
theorem mw_509 : Jvm.Cond.instanceMethod ({ cls := "ServerLine", name := "cost", desc := "(I)I" } : Jvm.MethodName) ∈ mm_G := mm_in (mt_2 (List.mem_of_getElem? (l := tables_1_2) (i := 214) (by decide +kernel))) rfl
theorem mw_510 : Jvm.Cond.selects "ServerLine" ({ cls := "ServerLine", name := "cost", desc := "(I)I" } : Jvm.MethodName) ({ cls := "ServerLine", name := "cost", desc := "(I)I" } : Jvm.MethodName) ∈ mm_G := mm_in (mt_2 (List.mem_of_getElem? (l := tables_1_2) (i := 215) (by decide +kernel))) rfl
theorem wv_L_40 : mm_VW RL 40 yX11_cost := ⟨mw_508, mw_509, mw_510⟩
theorem mw_511 : Jvm.Cond.code ({ cls := "ServerLine", name := "cost", desc := "(I)I" } : Jvm.MethodName) prog_1_method_8_code (2 : Nat) (Option.some Jvm.ClassFile.FieldType.int) ∈ mm_G := mm_in (mt_2 (List.mem_of_getElem? (l := tables_1_2) (i := 216) (by decide +kernel))) rfl
theorem wb_X11_cost : mm_CB yX11_cost cX11_cost 2 (some .int) 1 := ⟨mw_511, mw_56, ⟨by decide, by decide⟩, by decide +kernel, by decide⟩
theorem mw_1035 : Jvm.Cond.methodLink "ServerLineLaw" (43 : Nat) ({ cls := "ServerLineModel", name := "cost", desc := "(I)I" } : Jvm.MethodName) ∈ mm_G := mm_in (mt_5 (List.mem_of_getElem? (l := tables_1_5) (i := 20) (by decide +kernel))) rfl
theorem mw_1036 : Jvm.Cond.instanceMethod ({ cls := "ServerLineModel", name := "cost", desc := "(I)I" } : Jvm.MethodName) ∈ mm_G := mm_in (mt_5 (List.mem_of_getElem? (l := tables_1_5) (i := 21) (by decide +kernel))) rfl
theorem mw_1037 : Jvm.Cond.selects "ServerLineModel" ({ cls := "ServerLineModel", name := "cost", desc := "(I)I" } : Jvm.MethodName) ({ cls := "ServerLineModel", name := "cost", desc := "(I)I" } : Jvm.MethodName) ∈ mm_G := mm_in (mt_5 (List.mem_of_getElem? (l := tables_1_5) (i := 22) (by decide +kernel))) rfl
theorem wv_L_43 : mm_VW RL 43 yX12_cost := ⟨mw_1035, mw_1036, mw_1037⟩
theorem mw_1038 : Jvm.Cond.code ({ cls := "ServerLineModel", name := "cost", desc := "(I)I" } : Jvm.MethodName) prog_14_method_38_code (2 : Nat) (Option.some Jvm.ClassFile.FieldType.int) ∈ mm_G := mm_in (mt_5 (List.mem_of_getElem? (l := tables_1_5) (i := 23) (by decide +kernel))) rfl
theorem wb_X12_cost : mm_CB yX12_cost cX12_cost 2 (some .int) 1 := ⟨mw_1038, mw_69, ⟨by decide, by decide⟩, by decide +kernel, by decide⟩
theorem mw_667 : Jvm.Cond.methodLink "ServerLineLaw" (44 : Nat) ({ cls := "ServerLine", name := "stands", desc := "(III)I" } : Jvm.MethodName) ∈ mm_G := mm_in (mt_3 (List.mem_of_getElem? (l := tables_1_3) (i := 132) (by decide +kernel))) rfl
theorem mw_668 : Jvm.Cond.instanceMethod ({ cls := "ServerLine", name := "stands", desc := "(III)I" } : Jvm.MethodName) ∈ mm_G := mm_in (mt_3 (List.mem_of_getElem? (l := tables_1_3) (i := 133) (by decide +kernel))) rfl
theorem mw_669 : Jvm.Cond.selects "ServerLine" ({ cls := "ServerLine", name := "stands", desc := "(III)I" } : Jvm.MethodName) ({ cls := "ServerLine", name := "stands", desc := "(III)I" } : Jvm.MethodName) ∈ mm_G := mm_in (mt_3 (List.mem_of_getElem? (l := tables_1_3) (i := 134) (by decide +kernel))) rfl
theorem wv_L_44 : mm_VW RL 44 yX11_stands := ⟨mw_667, mw_668, mw_669⟩
theorem mw_670 : Jvm.Cond.code ({ cls := "ServerLine", name := "stands", desc := "(III)I" } : Jvm.MethodName) prog_1_method_9_code (4 : Nat) (Option.some Jvm.ClassFile.FieldType.int) ∈ mm_G := mm_in (mt_3 (List.mem_of_getElem? (l := tables_1_3) (i := 135) (by decide +kernel))) rfl
theorem wb_X11_stands : mm_CB yX11_stands cX11_stands 4 (some .int) 3 := ⟨mw_670, mw_56, ⟨by decide, by decide⟩, by decide +kernel, by decide⟩
theorem mw_1102 : Jvm.Cond.methodLink "ServerLineLaw" (48 : Nat) ({ cls := "ServerLineModel", name := "stands", desc := "(III)I" } : Jvm.MethodName) ∈ mm_G := mm_in (mt_5 (List.mem_of_getElem? (l := tables_1_5) (i := 87) (by decide +kernel))) rfl
theorem mw_1103 : Jvm.Cond.instanceMethod ({ cls := "ServerLineModel", name := "stands", desc := "(III)I" } : Jvm.MethodName) ∈ mm_G := mm_in (mt_5 (List.mem_of_getElem? (l := tables_1_5) (i := 88) (by decide +kernel))) rfl
theorem mw_1104 : Jvm.Cond.selects "ServerLineModel" ({ cls := "ServerLineModel", name := "stands", desc := "(III)I" } : Jvm.MethodName) ({ cls := "ServerLineModel", name := "stands", desc := "(III)I" } : Jvm.MethodName) ∈ mm_G := mm_in (mt_5 (List.mem_of_getElem? (l := tables_1_5) (i := 89) (by decide +kernel))) rfl
theorem wv_L_48 : mm_VW RL 48 yX12_stands := ⟨mw_1102, mw_1103, mw_1104⟩
theorem mw_1105 : Jvm.Cond.code ({ cls := "ServerLineModel", name := "stands", desc := "(III)I" } : Jvm.MethodName) prog_14_method_39_code (4 : Nat) (Option.some Jvm.ClassFile.FieldType.int) ∈ mm_G := mm_in (mt_5 (List.mem_of_getElem? (l := tables_1_5) (i := 90) (by decide +kernel))) rfl
theorem wb_X12_stands : mm_CB yX12_stands cX12_stands 4 (some .int) 3 := ⟨mw_1105, mw_69, ⟨by decide, by decide⟩, by decide +kernel, by decide⟩
theorem mw_671 : Jvm.Cond.methodLink "ServerLineLaw" (49 : Nat) ({ cls := "ServerLine", name := "goes", desc := "(II)I" } : Jvm.MethodName) ∈ mm_G := mm_in (mt_3 (List.mem_of_getElem? (l := tables_1_3) (i := 136) (by decide +kernel))) rfl
theorem mw_672 : Jvm.Cond.instanceMethod ({ cls := "ServerLine", name := "goes", desc := "(II)I" } : Jvm.MethodName) ∈ mm_G := mm_in (mt_3 (List.mem_of_getElem? (l := tables_1_3) (i := 137) (by decide +kernel))) rfl
theorem mw_673 : Jvm.Cond.selects "ServerLine" ({ cls := "ServerLine", name := "goes", desc := "(II)I" } : Jvm.MethodName) ({ cls := "ServerLine", name := "goes", desc := "(II)I" } : Jvm.MethodName) ∈ mm_G := mm_in (mt_3 (List.mem_of_getElem? (l := tables_1_3) (i := 138) (by decide +kernel))) rfl
theorem wv_L_49 : mm_VW RL 49 yX11_goes := ⟨mw_671, mw_672, mw_673⟩
theorem mw_674 : Jvm.Cond.code ({ cls := "ServerLine", name := "goes", desc := "(II)I" } : Jvm.MethodName) prog_1_method_10_code (4 : Nat) (Option.some Jvm.ClassFile.FieldType.int) ∈ mm_G := mm_in (mt_3 (List.mem_of_getElem? (l := tables_1_3) (i := 139) (by decide +kernel))) rfl
theorem wb_X11_goes : mm_CB yX11_goes cX11_goes 4 (some .int) 2 := ⟨mw_674, mw_56, ⟨by decide, by decide⟩, by decide +kernel, by decide⟩
theorem mw_1106 : Jvm.Cond.methodLink "ServerLineLaw" (52 : Nat) ({ cls := "ServerLineModel", name := "goes", desc := "(II)I" } : Jvm.MethodName) ∈ mm_G := mm_in (mt_5 (List.mem_of_getElem? (l := tables_1_5) (i := 91) (by decide +kernel))) rfl
theorem mw_1107 : Jvm.Cond.instanceMethod ({ cls := "ServerLineModel", name := "goes", desc := "(II)I" } : Jvm.MethodName) ∈ mm_G := mm_in (mt_5 (List.mem_of_getElem? (l := tables_1_5) (i := 92) (by decide +kernel))) rfl
theorem mw_1108 : Jvm.Cond.selects "ServerLineModel" ({ cls := "ServerLineModel", name := "goes", desc := "(II)I" } : Jvm.MethodName) ({ cls := "ServerLineModel", name := "goes", desc := "(II)I" } : Jvm.MethodName) ∈ mm_G := mm_in (mt_5 (List.mem_of_getElem? (l := tables_1_5) (i := 93) (by decide +kernel))) rfl
theorem wv_L_52 : mm_VW RL 52 yX12_goes := ⟨mw_1106, mw_1107, mw_1108⟩
theorem mw_1109 : Jvm.Cond.code ({ cls := "ServerLineModel", name := "goes", desc := "(II)I" } : Jvm.MethodName) prog_14_method_40_code (3 : Nat) (Option.some Jvm.ClassFile.FieldType.int) ∈ mm_G := mm_in (mt_5 (List.mem_of_getElem? (l := tables_1_5) (i := 94) (by decide +kernel))) rfl
theorem wb_X12_goes : mm_CB yX12_goes cX12_goes 3 (some .int) 2 := ⟨mw_1109, mw_69, ⟨by decide, by decide⟩, by decide +kernel, by decide⟩
theorem mw_679 : Jvm.Cond.methodLink "ServerLineLaw" (53 : Nat) ({ cls := "ServerLine", name := "best", desc := "()I" } : Jvm.MethodName) ∈ mm_G := mm_in (mt_3 (List.mem_of_getElem? (l := tables_1_3) (i := 144) (by decide +kernel))) rfl
theorem mw_680 : Jvm.Cond.instanceMethod ({ cls := "ServerLine", name := "best", desc := "()I" } : Jvm.MethodName) ∈ mm_G := mm_in (mt_3 (List.mem_of_getElem? (l := tables_1_3) (i := 145) (by decide +kernel))) rfl
theorem mw_681 : Jvm.Cond.selects "ServerLine" ({ cls := "ServerLine", name := "best", desc := "()I" } : Jvm.MethodName) ({ cls := "ServerLine", name := "best", desc := "()I" } : Jvm.MethodName) ∈ mm_G := mm_in (mt_3 (List.mem_of_getElem? (l := tables_1_3) (i := 146) (by decide +kernel))) rfl
theorem wv_L_53 : mm_VW RL 53 yX11_best := ⟨mw_679, mw_680, mw_681⟩
theorem mw_682 : Jvm.Cond.code ({ cls := "ServerLine", name := "best", desc := "()I" } : Jvm.MethodName) prog_1_method_11_code (1 : Nat) (Option.some Jvm.ClassFile.FieldType.int) ∈ mm_G := mm_in (mt_3 (List.mem_of_getElem? (l := tables_1_3) (i := 147) (by decide +kernel))) rfl
theorem wb_X11_best : mm_CB yX11_best cX11_best 1 (some .int) 0 := ⟨mw_682, mw_56, ⟨by decide, by decide⟩, by decide +kernel, by decide⟩
theorem mw_995 : Jvm.Cond.methodLink "ServerLineLaw" (56 : Nat) ({ cls := "ServerLineModel", name := "best", desc := "()I" } : Jvm.MethodName) ∈ mm_G := mm_in (mt_4 (List.mem_of_getElem? (l := tables_1_4) (i := 220) (by decide +kernel))) rfl
theorem mw_996 : Jvm.Cond.instanceMethod ({ cls := "ServerLineModel", name := "best", desc := "()I" } : Jvm.MethodName) ∈ mm_G := mm_in (mt_4 (List.mem_of_getElem? (l := tables_1_4) (i := 221) (by decide +kernel))) rfl
theorem mw_997 : Jvm.Cond.selects "ServerLineModel" ({ cls := "ServerLineModel", name := "best", desc := "()I" } : Jvm.MethodName) ({ cls := "ServerLineModel", name := "best", desc := "()I" } : Jvm.MethodName) ∈ mm_G := mm_in (mt_4 (List.mem_of_getElem? (l := tables_1_4) (i := 222) (by decide +kernel))) rfl
theorem wv_L_56 : mm_VW RL 56 yX12_best := ⟨mw_995, mw_996, mw_997⟩
theorem mw_998 : Jvm.Cond.code ({ cls := "ServerLineModel", name := "best", desc := "()I" } : Jvm.MethodName) prog_14_method_22_code (1 : Nat) (Option.some Jvm.ClassFile.FieldType.int) ∈ mm_G := mm_in (mt_4 (List.mem_of_getElem? (l := tables_1_4) (i := 223) (by decide +kernel))) rfl
theorem wb_X12_best : mm_CB yX12_best cX12_best 1 (some .int) 0 := ⟨mw_998, mw_69, ⟨by decide, by decide⟩, by decide +kernel, by decide⟩
theorem mw_691 : Jvm.Cond.methodLink "ServerLineLaw" (57 : Nat) ({ cls := "ServerLine", name := "way", desc := "(I)I" } : Jvm.MethodName) ∈ mm_G := mm_in (mt_3 (List.mem_of_getElem? (l := tables_1_3) (i := 156) (by decide +kernel))) rfl
theorem mw_692 : Jvm.Cond.instanceMethod ({ cls := "ServerLine", name := "way", desc := "(I)I" } : Jvm.MethodName) ∈ mm_G := mm_in (mt_3 (List.mem_of_getElem? (l := tables_1_3) (i := 157) (by decide +kernel))) rfl
theorem mw_693 : Jvm.Cond.selects "ServerLine" ({ cls := "ServerLine", name := "way", desc := "(I)I" } : Jvm.MethodName) ({ cls := "ServerLine", name := "way", desc := "(I)I" } : Jvm.MethodName) ∈ mm_G := mm_in (mt_3 (List.mem_of_getElem? (l := tables_1_3) (i := 158) (by decide +kernel))) rfl
theorem wv_L_57 : mm_VW RL 57 yX11_way := ⟨mw_691, mw_692, mw_693⟩
theorem mw_694 : Jvm.Cond.code ({ cls := "ServerLine", name := "way", desc := "(I)I" } : Jvm.MethodName) prog_1_method_12_code (2 : Nat) (Option.some Jvm.ClassFile.FieldType.int) ∈ mm_G := mm_in (mt_3 (List.mem_of_getElem? (l := tables_1_3) (i := 159) (by decide +kernel))) rfl
theorem wb_X11_way : mm_CB yX11_way cX11_way 2 (some .int) 1 := ⟨mw_694, mw_56, ⟨by decide, by decide⟩, by decide +kernel, by decide⟩
theorem mw_1031 : Jvm.Cond.methodLink "ServerLineLaw" (60 : Nat) ({ cls := "ServerLineModel", name := "way", desc := "(I)I" } : Jvm.MethodName) ∈ mm_G := mm_in (mt_5 (List.mem_of_getElem? (l := tables_1_5) (i := 16) (by decide +kernel))) rfl
theorem mw_1032 : Jvm.Cond.instanceMethod ({ cls := "ServerLineModel", name := "way", desc := "(I)I" } : Jvm.MethodName) ∈ mm_G := mm_in (mt_5 (List.mem_of_getElem? (l := tables_1_5) (i := 17) (by decide +kernel))) rfl
theorem mw_1033 : Jvm.Cond.selects "ServerLineModel" ({ cls := "ServerLineModel", name := "way", desc := "(I)I" } : Jvm.MethodName) ({ cls := "ServerLineModel", name := "way", desc := "(I)I" } : Jvm.MethodName) ∈ mm_G := mm_in (mt_5 (List.mem_of_getElem? (l := tables_1_5) (i := 18) (by decide +kernel))) rfl
theorem wv_L_60 : mm_VW RL 60 yX12_way := ⟨mw_1031, mw_1032, mw_1033⟩
theorem mw_1034 : Jvm.Cond.code ({ cls := "ServerLineModel", name := "way", desc := "(I)I" } : Jvm.MethodName) prog_14_method_23_code (2 : Nat) (Option.some Jvm.ClassFile.FieldType.int) ∈ mm_G := mm_in (mt_5 (List.mem_of_getElem? (l := tables_1_5) (i := 19) (by decide +kernel))) rfl
theorem wb_X12_way : mm_CB yX12_way cX12_way 2 (some .int) 1 := ⟨mw_1034, mw_69, ⟨by decide, by decide⟩, by decide +kernel, by decide⟩
theorem mw_695 : Jvm.Cond.methodLink "ServerLineLaw" (61 : Nat) ({ cls := "ServerLine", name := "share", desc := "(I)I" } : Jvm.MethodName) ∈ mm_G := mm_in (mt_3 (List.mem_of_getElem? (l := tables_1_3) (i := 160) (by decide +kernel))) rfl
theorem mw_696 : Jvm.Cond.instanceMethod ({ cls := "ServerLine", name := "share", desc := "(I)I" } : Jvm.MethodName) ∈ mm_G := mm_in (mt_3 (List.mem_of_getElem? (l := tables_1_3) (i := 161) (by decide +kernel))) rfl
theorem mw_697 : Jvm.Cond.selects "ServerLine" ({ cls := "ServerLine", name := "share", desc := "(I)I" } : Jvm.MethodName) ({ cls := "ServerLine", name := "share", desc := "(I)I" } : Jvm.MethodName) ∈ mm_G := mm_in (mt_3 (List.mem_of_getElem? (l := tables_1_3) (i := 162) (by decide +kernel))) rfl
theorem wv_L_61 : mm_VW RL 61 yX11_share := ⟨mw_695, mw_696, mw_697⟩
theorem mw_698 : Jvm.Cond.code ({ cls := "ServerLine", name := "share", desc := "(I)I" } : Jvm.MethodName) prog_1_method_13_code (2 : Nat) (Option.some Jvm.ClassFile.FieldType.int) ∈ mm_G := mm_in (mt_3 (List.mem_of_getElem? (l := tables_1_3) (i := 163) (by decide +kernel))) rfl
theorem wb_X11_share : mm_CB yX11_share cX11_share 2 (some .int) 1 := ⟨mw_698, mw_56, ⟨by decide, by decide⟩, by decide +kernel, by decide⟩
theorem mw_1110 : Jvm.Cond.methodLink "ServerLineLaw" (64 : Nat) ({ cls := "ServerLineModel", name := "share", desc := "(I)I" } : Jvm.MethodName) ∈ mm_G := mm_in (mt_5 (List.mem_of_getElem? (l := tables_1_5) (i := 95) (by decide +kernel))) rfl
theorem mw_1111 : Jvm.Cond.instanceMethod ({ cls := "ServerLineModel", name := "share", desc := "(I)I" } : Jvm.MethodName) ∈ mm_G := mm_in (mt_5 (List.mem_of_getElem? (l := tables_1_5) (i := 96) (by decide +kernel))) rfl
theorem mw_1112 : Jvm.Cond.selects "ServerLineModel" ({ cls := "ServerLineModel", name := "share", desc := "(I)I" } : Jvm.MethodName) ({ cls := "ServerLineModel", name := "share", desc := "(I)I" } : Jvm.MethodName) ∈ mm_G := mm_in (mt_5 (List.mem_of_getElem? (l := tables_1_5) (i := 97) (by decide +kernel))) rfl
theorem wv_L_64 : mm_VW RL 64 yX12_share := ⟨mw_1110, mw_1111, mw_1112⟩
theorem mw_1113 : Jvm.Cond.code ({ cls := "ServerLineModel", name := "share", desc := "(I)I" } : Jvm.MethodName) prog_14_method_41_code (3 : Nat) (Option.some Jvm.ClassFile.FieldType.int) ∈ mm_G := mm_in (mt_5 (List.mem_of_getElem? (l := tables_1_5) (i := 98) (by decide +kernel))) rfl
theorem wb_X12_share : mm_CB yX12_share cX12_share 3 (some .int) 1 := ⟨mw_1113, mw_69, ⟨by decide, by decide⟩, by decide +kernel, by decide⟩
theorem mw_702 : Jvm.Cond.methodLink "ServerLineLaw" (65 : Nat) ({ cls := "ServerLine", name := "work", desc := "(IIII)I" } : Jvm.MethodName) ∈ mm_G := mm_in (mt_3 (List.mem_of_getElem? (l := tables_1_3) (i := 167) (by decide +kernel))) rfl
theorem mw_703 : Jvm.Cond.instanceMethod ({ cls := "ServerLine", name := "work", desc := "(IIII)I" } : Jvm.MethodName) ∈ mm_G := mm_in (mt_3 (List.mem_of_getElem? (l := tables_1_3) (i := 168) (by decide +kernel))) rfl
theorem mw_704 : Jvm.Cond.selects "ServerLine" ({ cls := "ServerLine", name := "work", desc := "(IIII)I" } : Jvm.MethodName) ({ cls := "ServerLine", name := "work", desc := "(IIII)I" } : Jvm.MethodName) ∈ mm_G := mm_in (mt_3 (List.mem_of_getElem? (l := tables_1_3) (i := 169) (by decide +kernel))) rfl
theorem wv_L_65 : mm_VW RL 65 yX11_work := ⟨mw_702, mw_703, mw_704⟩
theorem mw_705 : Jvm.Cond.code ({ cls := "ServerLine", name := "work", desc := "(IIII)I" } : Jvm.MethodName) prog_1_method_14_code (5 : Nat) (Option.some Jvm.ClassFile.FieldType.int) ∈ mm_G := mm_in (mt_3 (List.mem_of_getElem? (l := tables_1_3) (i := 170) (by decide +kernel))) rfl
theorem wb_X11_work : mm_CB yX11_work cX11_work 5 (some .int) 4 := ⟨mw_705, mw_56, ⟨by decide, by decide⟩, by decide +kernel, by decide⟩
theorem mw_1114 : Jvm.Cond.methodLink "ServerLineLaw" (69 : Nat) ({ cls := "ServerLineModel", name := "work", desc := "(IIII)I" } : Jvm.MethodName) ∈ mm_G := mm_in (mt_5 (List.mem_of_getElem? (l := tables_1_5) (i := 99) (by decide +kernel))) rfl
theorem mw_1115 : Jvm.Cond.instanceMethod ({ cls := "ServerLineModel", name := "work", desc := "(IIII)I" } : Jvm.MethodName) ∈ mm_G := mm_in (mt_5 (List.mem_of_getElem? (l := tables_1_5) (i := 100) (by decide +kernel))) rfl
theorem mw_1116 : Jvm.Cond.selects "ServerLineModel" ({ cls := "ServerLineModel", name := "work", desc := "(IIII)I" } : Jvm.MethodName) ({ cls := "ServerLineModel", name := "work", desc := "(IIII)I" } : Jvm.MethodName) ∈ mm_G := mm_in (mt_5 (List.mem_of_getElem? (l := tables_1_5) (i := 101) (by decide +kernel))) rfl
theorem wv_L_69 : mm_VW RL 69 yX12_work := ⟨mw_1114, mw_1115, mw_1116⟩
theorem mw_1117 : Jvm.Cond.code ({ cls := "ServerLineModel", name := "work", desc := "(IIII)I" } : Jvm.MethodName) prog_14_method_42_code (9 : Nat) (Option.some Jvm.ClassFile.FieldType.int) ∈ mm_G := mm_in (mt_5 (List.mem_of_getElem? (l := tables_1_5) (i := 102) (by decide +kernel))) rfl
theorem wb_X12_work : mm_CB yX12_work cX12_work 9 (some .int) 4 := ⟨mw_1117, mw_69, ⟨by decide, by decide⟩, by decide +kernel, by decide⟩
theorem mw_715 : Jvm.Cond.methodLink "ServerLineLaw" (70 : Nat) ({ cls := "ServerLine", name := "trusts", desc := "(I)I" } : Jvm.MethodName) ∈ mm_G := mm_in (mt_3 (List.mem_of_getElem? (l := tables_1_3) (i := 180) (by decide +kernel))) rfl
theorem mw_716 : Jvm.Cond.instanceMethod ({ cls := "ServerLine", name := "trusts", desc := "(I)I" } : Jvm.MethodName) ∈ mm_G := mm_in (mt_3 (List.mem_of_getElem? (l := tables_1_3) (i := 181) (by decide +kernel))) rfl
theorem mw_717 : Jvm.Cond.selects "ServerLine" ({ cls := "ServerLine", name := "trusts", desc := "(I)I" } : Jvm.MethodName) ({ cls := "ServerLine", name := "trusts", desc := "(I)I" } : Jvm.MethodName) ∈ mm_G := mm_in (mt_3 (List.mem_of_getElem? (l := tables_1_3) (i := 182) (by decide +kernel))) rfl
theorem wv_L_70 : mm_VW RL 70 yX11_trusts := ⟨mw_715, mw_716, mw_717⟩
theorem mw_718 : Jvm.Cond.code ({ cls := "ServerLine", name := "trusts", desc := "(I)I" } : Jvm.MethodName) prog_1_method_15_code (2 : Nat) (Option.some Jvm.ClassFile.FieldType.int) ∈ mm_G := mm_in (mt_3 (List.mem_of_getElem? (l := tables_1_3) (i := 183) (by decide +kernel))) rfl
theorem wb_X11_trusts : mm_CB yX11_trusts cX11_trusts 2 (some .int) 1 := ⟨mw_718, mw_56, ⟨by decide, by decide⟩, by decide +kernel, by decide⟩
theorem mw_1118 : Jvm.Cond.methodLink "ServerLineLaw" (73 : Nat) ({ cls := "ServerLineModel", name := "trusts", desc := "(I)I" } : Jvm.MethodName) ∈ mm_G := mm_in (mt_5 (List.mem_of_getElem? (l := tables_1_5) (i := 103) (by decide +kernel))) rfl
theorem mw_1119 : Jvm.Cond.instanceMethod ({ cls := "ServerLineModel", name := "trusts", desc := "(I)I" } : Jvm.MethodName) ∈ mm_G := mm_in (mt_5 (List.mem_of_getElem? (l := tables_1_5) (i := 104) (by decide +kernel))) rfl
theorem mw_1120 : Jvm.Cond.selects "ServerLineModel" ({ cls := "ServerLineModel", name := "trusts", desc := "(I)I" } : Jvm.MethodName) ({ cls := "ServerLineModel", name := "trusts", desc := "(I)I" } : Jvm.MethodName) ∈ mm_G := mm_in (mt_5 (List.mem_of_getElem? (l := tables_1_5) (i := 105) (by decide +kernel))) rfl
theorem wv_L_73 : mm_VW RL 73 yX12_trusts := ⟨mw_1118, mw_1119, mw_1120⟩
theorem mw_1121 : Jvm.Cond.code ({ cls := "ServerLineModel", name := "trusts", desc := "(I)I" } : Jvm.MethodName) prog_14_method_43_code (2 : Nat) (Option.some Jvm.ClassFile.FieldType.int) ∈ mm_G := mm_in (mt_5 (List.mem_of_getElem? (l := tables_1_5) (i := 106) (by decide +kernel))) rfl
theorem wb_X12_trusts : mm_CB yX12_trusts cX12_trusts 2 (some .int) 1 := ⟨mw_1121, mw_69, ⟨by decide, by decide⟩, by decide +kernel, by decide⟩
theorem mw_719 : Jvm.Cond.methodLink "ServerLineLaw" (74 : Nat) ({ cls := "ServerLine", name := "worst", desc := "(II)I" } : Jvm.MethodName) ∈ mm_G := mm_in (mt_3 (List.mem_of_getElem? (l := tables_1_3) (i := 184) (by decide +kernel))) rfl
theorem mw_720 : Jvm.Cond.instanceMethod ({ cls := "ServerLine", name := "worst", desc := "(II)I" } : Jvm.MethodName) ∈ mm_G := mm_in (mt_3 (List.mem_of_getElem? (l := tables_1_3) (i := 185) (by decide +kernel))) rfl
theorem mw_721 : Jvm.Cond.selects "ServerLine" ({ cls := "ServerLine", name := "worst", desc := "(II)I" } : Jvm.MethodName) ({ cls := "ServerLine", name := "worst", desc := "(II)I" } : Jvm.MethodName) ∈ mm_G := mm_in (mt_3 (List.mem_of_getElem? (l := tables_1_3) (i := 186) (by decide +kernel))) rfl
theorem wv_L_74 : mm_VW RL 74 yX11_worst := ⟨mw_719, mw_720, mw_721⟩
theorem mw_722 : Jvm.Cond.code ({ cls := "ServerLine", name := "worst", desc := "(II)I" } : Jvm.MethodName) prog_1_method_16_code (3 : Nat) (Option.some Jvm.ClassFile.FieldType.int) ∈ mm_G := mm_in (mt_3 (List.mem_of_getElem? (l := tables_1_3) (i := 187) (by decide +kernel))) rfl
theorem wb_X11_worst : mm_CB yX11_worst cX11_worst 3 (some .int) 2 := ⟨mw_722, mw_56, ⟨by decide, by decide⟩, by decide +kernel, by decide⟩
theorem mw_1122 : Jvm.Cond.methodLink "ServerLineLaw" (77 : Nat) ({ cls := "ServerLineModel", name := "worst", desc := "(II)I" } : Jvm.MethodName) ∈ mm_G := mm_in (mt_5 (List.mem_of_getElem? (l := tables_1_5) (i := 107) (by decide +kernel))) rfl
theorem mw_1123 : Jvm.Cond.instanceMethod ({ cls := "ServerLineModel", name := "worst", desc := "(II)I" } : Jvm.MethodName) ∈ mm_G := mm_in (mt_5 (List.mem_of_getElem? (l := tables_1_5) (i := 108) (by decide +kernel))) rfl
theorem mw_1124 : Jvm.Cond.selects "ServerLineModel" ({ cls := "ServerLineModel", name := "worst", desc := "(II)I" } : Jvm.MethodName) ({ cls := "ServerLineModel", name := "worst", desc := "(II)I" } : Jvm.MethodName) ∈ mm_G := mm_in (mt_5 (List.mem_of_getElem? (l := tables_1_5) (i := 109) (by decide +kernel))) rfl
theorem wv_L_77 : mm_VW RL 77 yX12_worst := ⟨mw_1122, mw_1123, mw_1124⟩
theorem mw_1125 : Jvm.Cond.code ({ cls := "ServerLineModel", name := "worst", desc := "(II)I" } : Jvm.MethodName) prog_14_method_45_code (3 : Nat) (Option.some Jvm.ClassFile.FieldType.int) ∈ mm_G := mm_in (mt_5 (List.mem_of_getElem? (l := tables_1_5) (i := 110) (by decide +kernel))) rfl
theorem wb_X12_worst : mm_CB yX12_worst cX12_worst 3 (some .int) 2 := ⟨mw_1125, mw_69, ⟨by decide, by decide⟩, by decide +kernel, by decide⟩
theorem mw_745 : Jvm.Cond.methodLink "ServerLineLaw" (78 : Nat) ({ cls := "ServerLine", name := "worstShare", desc := "(II)I" } : Jvm.MethodName) ∈ mm_G := mm_in (mt_3 (List.mem_of_getElem? (l := tables_1_3) (i := 210) (by decide +kernel))) rfl
theorem mw_746 : Jvm.Cond.instanceMethod ({ cls := "ServerLine", name := "worstShare", desc := "(II)I" } : Jvm.MethodName) ∈ mm_G := mm_in (mt_3 (List.mem_of_getElem? (l := tables_1_3) (i := 211) (by decide +kernel))) rfl
theorem mw_747 : Jvm.Cond.selects "ServerLine" ({ cls := "ServerLine", name := "worstShare", desc := "(II)I" } : Jvm.MethodName) ({ cls := "ServerLine", name := "worstShare", desc := "(II)I" } : Jvm.MethodName) ∈ mm_G := mm_in (mt_3 (List.mem_of_getElem? (l := tables_1_3) (i := 212) (by decide +kernel))) rfl
theorem wv_L_78 : mm_VW RL 78 yX11_worstShare := ⟨mw_745, mw_746, mw_747⟩
theorem mw_748 : Jvm.Cond.code ({ cls := "ServerLine", name := "worstShare", desc := "(II)I" } : Jvm.MethodName) prog_1_method_17_code (3 : Nat) (Option.some Jvm.ClassFile.FieldType.int) ∈ mm_G := mm_in (mt_3 (List.mem_of_getElem? (l := tables_1_3) (i := 213) (by decide +kernel))) rfl
theorem wb_X11_worstShare : mm_CB yX11_worstShare cX11_worstShare 3 (some .int) 2 := ⟨mw_748, mw_56, ⟨by decide, by decide⟩, by decide +kernel, by decide⟩
theorem mw_1130 : Jvm.Cond.methodLink "ServerLineLaw" (81 : Nat) ({ cls := "ServerLineModel", name := "worstShare", desc := "(II)I" } : Jvm.MethodName) ∈ mm_G := mm_in (mt_5 (List.mem_of_getElem? (l := tables_1_5) (i := 115) (by decide +kernel))) rfl
theorem mw_1131 : Jvm.Cond.instanceMethod ({ cls := "ServerLineModel", name := "worstShare", desc := "(II)I" } : Jvm.MethodName) ∈ mm_G := mm_in (mt_5 (List.mem_of_getElem? (l := tables_1_5) (i := 116) (by decide +kernel))) rfl
theorem mw_1132 : Jvm.Cond.selects "ServerLineModel" ({ cls := "ServerLineModel", name := "worstShare", desc := "(II)I" } : Jvm.MethodName) ({ cls := "ServerLineModel", name := "worstShare", desc := "(II)I" } : Jvm.MethodName) ∈ mm_G := mm_in (mt_5 (List.mem_of_getElem? (l := tables_1_5) (i := 117) (by decide +kernel))) rfl
theorem wv_L_81 : mm_VW RL 81 yX12_worstShare := ⟨mw_1130, mw_1131, mw_1132⟩
theorem mw_1133 : Jvm.Cond.code ({ cls := "ServerLineModel", name := "worstShare", desc := "(II)I" } : Jvm.MethodName) prog_14_method_46_code (3 : Nat) (Option.some Jvm.ClassFile.FieldType.int) ∈ mm_G := mm_in (mt_5 (List.mem_of_getElem? (l := tables_1_5) (i := 118) (by decide +kernel))) rfl
theorem wb_X12_worstShare : mm_CB yX12_worstShare cX12_worstShare 3 (some .int) 2 := ⟨mw_1133, mw_69, ⟨by decide, by decide⟩, by decide +kernel, by decide⟩
theorem mw_749 : Jvm.Cond.methodLink "ServerLineLaw" (82 : Nat) ({ cls := "ServerLine", name := "longing", desc := "(I)I" } : Jvm.MethodName) ∈ mm_G := mm_in (mt_3 (List.mem_of_getElem? (l := tables_1_3) (i := 214) (by decide +kernel))) rfl
theorem mw_750 : Jvm.Cond.instanceMethod ({ cls := "ServerLine", name := "longing", desc := "(I)I" } : Jvm.MethodName) ∈ mm_G := mm_in (mt_3 (List.mem_of_getElem? (l := tables_1_3) (i := 215) (by decide +kernel))) rfl
theorem mw_751 : Jvm.Cond.selects "ServerLine" ({ cls := "ServerLine", name := "longing", desc := "(I)I" } : Jvm.MethodName) ({ cls := "ServerLine", name := "longing", desc := "(I)I" } : Jvm.MethodName) ∈ mm_G := mm_in (mt_3 (List.mem_of_getElem? (l := tables_1_3) (i := 216) (by decide +kernel))) rfl
theorem wv_L_82 : mm_VW RL 82 yX11_longing := ⟨mw_749, mw_750, mw_751⟩
theorem mw_752 : Jvm.Cond.code ({ cls := "ServerLine", name := "longing", desc := "(I)I" } : Jvm.MethodName) prog_1_method_18_code (2 : Nat) (Option.some Jvm.ClassFile.FieldType.int) ∈ mm_G := mm_in (mt_3 (List.mem_of_getElem? (l := tables_1_3) (i := 217) (by decide +kernel))) rfl
theorem wb_X11_longing : mm_CB yX11_longing cX11_longing 2 (some .int) 1 := ⟨mw_752, mw_56, ⟨by decide, by decide⟩, by decide +kernel, by decide⟩
theorem mw_1134 : Jvm.Cond.methodLink "ServerLineLaw" (85 : Nat) ({ cls := "ServerLineModel", name := "longing", desc := "(I)I" } : Jvm.MethodName) ∈ mm_G := mm_in (mt_5 (List.mem_of_getElem? (l := tables_1_5) (i := 119) (by decide +kernel))) rfl
theorem mw_1135 : Jvm.Cond.instanceMethod ({ cls := "ServerLineModel", name := "longing", desc := "(I)I" } : Jvm.MethodName) ∈ mm_G := mm_in (mt_5 (List.mem_of_getElem? (l := tables_1_5) (i := 120) (by decide +kernel))) rfl
theorem mw_1136 : Jvm.Cond.selects "ServerLineModel" ({ cls := "ServerLineModel", name := "longing", desc := "(I)I" } : Jvm.MethodName) ({ cls := "ServerLineModel", name := "longing", desc := "(I)I" } : Jvm.MethodName) ∈ mm_G := mm_in (mt_5 (List.mem_of_getElem? (l := tables_1_5) (i := 121) (by decide +kernel))) rfl
theorem wv_L_85 : mm_VW RL 85 yX12_longing := ⟨mw_1134, mw_1135, mw_1136⟩
theorem mw_1137 : Jvm.Cond.code ({ cls := "ServerLineModel", name := "longing", desc := "(I)I" } : Jvm.MethodName) prog_14_method_49_code (2 : Nat) (Option.some Jvm.ClassFile.FieldType.int) ∈ mm_G := mm_in (mt_5 (List.mem_of_getElem? (l := tables_1_5) (i := 122) (by decide +kernel))) rfl
theorem wb_X12_longing : mm_CB yX12_longing cX12_longing 2 (some .int) 1 := ⟨mw_1137, mw_69, ⟨by decide, by decide⟩, by decide +kernel, by decide⟩
theorem mw_768 : Jvm.Cond.methodLink "ServerLineLaw" (86 : Nat) ({ cls := "ServerLine", name := "pays", desc := "()I" } : Jvm.MethodName) ∈ mm_G := mm_in (mt_3 (List.mem_of_getElem? (l := tables_1_3) (i := 233) (by decide +kernel))) rfl
theorem mw_769 : Jvm.Cond.instanceMethod ({ cls := "ServerLine", name := "pays", desc := "()I" } : Jvm.MethodName) ∈ mm_G := mm_in (mt_3 (List.mem_of_getElem? (l := tables_1_3) (i := 234) (by decide +kernel))) rfl
theorem mw_770 : Jvm.Cond.selects "ServerLine" ({ cls := "ServerLine", name := "pays", desc := "()I" } : Jvm.MethodName) ({ cls := "ServerLine", name := "pays", desc := "()I" } : Jvm.MethodName) ∈ mm_G := mm_in (mt_3 (List.mem_of_getElem? (l := tables_1_3) (i := 235) (by decide +kernel))) rfl
theorem wv_L_86 : mm_VW RL 86 yX11_pays := ⟨mw_768, mw_769, mw_770⟩
theorem mw_771 : Jvm.Cond.code ({ cls := "ServerLine", name := "pays", desc := "()I" } : Jvm.MethodName) prog_1_method_19_code (1 : Nat) (Option.some Jvm.ClassFile.FieldType.int) ∈ mm_G := mm_in (mt_3 (List.mem_of_getElem? (l := tables_1_3) (i := 236) (by decide +kernel))) rfl
theorem wb_X11_pays : mm_CB yX11_pays cX11_pays 1 (some .int) 0 := ⟨mw_771, mw_56, ⟨by decide, by decide⟩, by decide +kernel, by decide⟩
theorem mw_1146 : Jvm.Cond.methodLink "ServerLineLaw" (89 : Nat) ({ cls := "ServerLineModel", name := "pays", desc := "()I" } : Jvm.MethodName) ∈ mm_G := mm_in (mt_5 (List.mem_of_getElem? (l := tables_1_5) (i := 131) (by decide +kernel))) rfl
theorem mw_1147 : Jvm.Cond.instanceMethod ({ cls := "ServerLineModel", name := "pays", desc := "()I" } : Jvm.MethodName) ∈ mm_G := mm_in (mt_5 (List.mem_of_getElem? (l := tables_1_5) (i := 132) (by decide +kernel))) rfl
theorem mw_1148 : Jvm.Cond.selects "ServerLineModel" ({ cls := "ServerLineModel", name := "pays", desc := "()I" } : Jvm.MethodName) ({ cls := "ServerLineModel", name := "pays", desc := "()I" } : Jvm.MethodName) ∈ mm_G := mm_in (mt_5 (List.mem_of_getElem? (l := tables_1_5) (i := 133) (by decide +kernel))) rfl
theorem wv_L_89 : mm_VW RL 89 yX12_pays := ⟨mw_1146, mw_1147, mw_1148⟩
theorem mw_1149 : Jvm.Cond.code ({ cls := "ServerLineModel", name := "pays", desc := "()I" } : Jvm.MethodName) prog_14_method_51_code (1 : Nat) (Option.some Jvm.ClassFile.FieldType.int) ∈ mm_G := mm_in (mt_5 (List.mem_of_getElem? (l := tables_1_5) (i := 134) (by decide +kernel))) rfl
theorem wb_X12_pays : mm_CB yX12_pays cX12_pays 1 (some .int) 0 := ⟨mw_1149, mw_69, ⟨by decide, by decide⟩, by decide +kernel, by decide⟩
theorem mw_789 : Jvm.Cond.methodLink "ServerLineLaw" (90 : Nat) ({ cls := "ServerLine", name := "sheet", desc := "(III)I" } : Jvm.MethodName) ∈ mm_G := mm_in (mt_4 (List.mem_of_getElem? (l := tables_1_4) (i := 14) (by decide +kernel))) rfl
theorem mw_790 : Jvm.Cond.instanceMethod ({ cls := "ServerLine", name := "sheet", desc := "(III)I" } : Jvm.MethodName) ∈ mm_G := mm_in (mt_4 (List.mem_of_getElem? (l := tables_1_4) (i := 15) (by decide +kernel))) rfl
theorem mw_791 : Jvm.Cond.selects "ServerLine" ({ cls := "ServerLine", name := "sheet", desc := "(III)I" } : Jvm.MethodName) ({ cls := "ServerLine", name := "sheet", desc := "(III)I" } : Jvm.MethodName) ∈ mm_G := mm_in (mt_4 (List.mem_of_getElem? (l := tables_1_4) (i := 16) (by decide +kernel))) rfl
theorem wv_L_90 : mm_VW RL 90 yX11_sheet := ⟨mw_789, mw_790, mw_791⟩
theorem mw_792 : Jvm.Cond.code ({ cls := "ServerLine", name := "sheet", desc := "(III)I" } : Jvm.MethodName) prog_1_method_20_code (4 : Nat) (Option.some Jvm.ClassFile.FieldType.int) ∈ mm_G := mm_in (mt_4 (List.mem_of_getElem? (l := tables_1_4) (i := 17) (by decide +kernel))) rfl
theorem wb_X11_sheet : mm_CB yX11_sheet cX11_sheet 4 (some .int) 3 := ⟨mw_792, mw_56, ⟨by decide, by decide⟩, by decide +kernel, by decide⟩
theorem mw_1154 : Jvm.Cond.methodLink "ServerLineLaw" (93 : Nat) ({ cls := "ServerLineModel", name := "sheet", desc := "(III)I" } : Jvm.MethodName) ∈ mm_G := mm_in (mt_5 (List.mem_of_getElem? (l := tables_1_5) (i := 139) (by decide +kernel))) rfl
theorem mw_1155 : Jvm.Cond.instanceMethod ({ cls := "ServerLineModel", name := "sheet", desc := "(III)I" } : Jvm.MethodName) ∈ mm_G := mm_in (mt_5 (List.mem_of_getElem? (l := tables_1_5) (i := 140) (by decide +kernel))) rfl
theorem mw_1156 : Jvm.Cond.selects "ServerLineModel" ({ cls := "ServerLineModel", name := "sheet", desc := "(III)I" } : Jvm.MethodName) ({ cls := "ServerLineModel", name := "sheet", desc := "(III)I" } : Jvm.MethodName) ∈ mm_G := mm_in (mt_5 (List.mem_of_getElem? (l := tables_1_5) (i := 141) (by decide +kernel))) rfl
theorem wv_L_93 : mm_VW RL 93 yX12_sheet := ⟨mw_1154, mw_1155, mw_1156⟩
theorem mw_1157 : Jvm.Cond.code ({ cls := "ServerLineModel", name := "sheet", desc := "(III)I" } : Jvm.MethodName) prog_14_method_54_code (5 : Nat) (Option.some Jvm.ClassFile.FieldType.int) ∈ mm_G := mm_in (mt_5 (List.mem_of_getElem? (l := tables_1_5) (i := 142) (by decide +kernel))) rfl
theorem wb_X12_sheet : mm_CB yX12_sheet cX12_sheet 5 (some .int) 3 := ⟨mw_1157, mw_69, ⟨by decide, by decide⟩, by decide +kernel, by decide⟩
theorem mw_803 : Jvm.Cond.methodLink "ServerLineLaw" (94 : Nat) ({ cls := "ServerLine", name := "lose", desc := "(I)I" } : Jvm.MethodName) ∈ mm_G := mm_in (mt_4 (List.mem_of_getElem? (l := tables_1_4) (i := 28) (by decide +kernel))) rfl
theorem mw_804 : Jvm.Cond.instanceMethod ({ cls := "ServerLine", name := "lose", desc := "(I)I" } : Jvm.MethodName) ∈ mm_G := mm_in (mt_4 (List.mem_of_getElem? (l := tables_1_4) (i := 29) (by decide +kernel))) rfl
theorem mw_805 : Jvm.Cond.selects "ServerLine" ({ cls := "ServerLine", name := "lose", desc := "(I)I" } : Jvm.MethodName) ({ cls := "ServerLine", name := "lose", desc := "(I)I" } : Jvm.MethodName) ∈ mm_G := mm_in (mt_4 (List.mem_of_getElem? (l := tables_1_4) (i := 30) (by decide +kernel))) rfl
theorem wv_L_94 : mm_VW RL 94 yX11_lose := ⟨mw_803, mw_804, mw_805⟩
theorem mw_806 : Jvm.Cond.code ({ cls := "ServerLine", name := "lose", desc := "(I)I" } : Jvm.MethodName) prog_1_method_21_code (3 : Nat) (Option.some Jvm.ClassFile.FieldType.int) ∈ mm_G := mm_in (mt_4 (List.mem_of_getElem? (l := tables_1_4) (i := 31) (by decide +kernel))) rfl
theorem wb_X11_lose : mm_CB yX11_lose cX11_lose 3 (some .int) 1 := ⟨mw_806, mw_56, ⟨by decide, by decide⟩, by decide +kernel, by decide⟩
theorem mw_1165 : Jvm.Cond.methodLink "ServerLineLaw" (97 : Nat) ({ cls := "ServerLineModel", name := "lose", desc := "(I)I" } : Jvm.MethodName) ∈ mm_G := mm_in (mt_5 (List.mem_of_getElem? (l := tables_1_5) (i := 150) (by decide +kernel))) rfl
theorem mw_1166 : Jvm.Cond.instanceMethod ({ cls := "ServerLineModel", name := "lose", desc := "(I)I" } : Jvm.MethodName) ∈ mm_G := mm_in (mt_5 (List.mem_of_getElem? (l := tables_1_5) (i := 151) (by decide +kernel))) rfl
theorem mw_1167 : Jvm.Cond.selects "ServerLineModel" ({ cls := "ServerLineModel", name := "lose", desc := "(I)I" } : Jvm.MethodName) ({ cls := "ServerLineModel", name := "lose", desc := "(I)I" } : Jvm.MethodName) ∈ mm_G := mm_in (mt_5 (List.mem_of_getElem? (l := tables_1_5) (i := 152) (by decide +kernel))) rfl
theorem wv_L_97 : mm_VW RL 97 yX12_lose := ⟨mw_1165, mw_1166, mw_1167⟩
theorem mw_1168 : Jvm.Cond.code ({ cls := "ServerLineModel", name := "lose", desc := "(I)I" } : Jvm.MethodName) prog_14_method_55_code (2 : Nat) (Option.some Jvm.ClassFile.FieldType.int) ∈ mm_G := mm_in (mt_5 (List.mem_of_getElem? (l := tables_1_5) (i := 153) (by decide +kernel))) rfl
theorem wb_X12_lose : mm_CB yX12_lose cX12_lose 2 (some .int) 1 := ⟨mw_1168, mw_69, ⟨by decide, by decide⟩, by decide +kernel, by decide⟩
theorem mw_812 : Jvm.Cond.methodLink "ServerLineLaw" (98 : Nat) ({ cls := "ServerLine", name := "put", desc := "(IIII)I" } : Jvm.MethodName) ∈ mm_G := mm_in (mt_4 (List.mem_of_getElem? (l := tables_1_4) (i := 37) (by decide +kernel))) rfl
theorem mw_813 : Jvm.Cond.instanceMethod ({ cls := "ServerLine", name := "put", desc := "(IIII)I" } : Jvm.MethodName) ∈ mm_G := mm_in (mt_4 (List.mem_of_getElem? (l := tables_1_4) (i := 38) (by decide +kernel))) rfl
theorem mw_814 : Jvm.Cond.selects "ServerLine" ({ cls := "ServerLine", name := "put", desc := "(IIII)I" } : Jvm.MethodName) ({ cls := "ServerLine", name := "put", desc := "(IIII)I" } : Jvm.MethodName) ∈ mm_G := mm_in (mt_4 (List.mem_of_getElem? (l := tables_1_4) (i := 39) (by decide +kernel))) rfl
theorem wv_L_98 : mm_VW RL 98 yX11_put := ⟨mw_812, mw_813, mw_814⟩
theorem mw_815 : Jvm.Cond.code ({ cls := "ServerLine", name := "put", desc := "(IIII)I" } : Jvm.MethodName) prog_1_method_22_code (6 : Nat) (Option.some Jvm.ClassFile.FieldType.int) ∈ mm_G := mm_in (mt_4 (List.mem_of_getElem? (l := tables_1_4) (i := 40) (by decide +kernel))) rfl
theorem wb_X11_put : mm_CB yX11_put cX11_put 6 (some .int) 4 := ⟨mw_815, mw_56, ⟨by decide, by decide⟩, by decide +kernel, by decide⟩
theorem mw_1169 : Jvm.Cond.methodLink "ServerLineLaw" (101 : Nat) ({ cls := "ServerLineModel", name := "put", desc := "(IIII)I" } : Jvm.MethodName) ∈ mm_G := mm_in (mt_5 (List.mem_of_getElem? (l := tables_1_5) (i := 154) (by decide +kernel))) rfl
theorem mw_1170 : Jvm.Cond.instanceMethod ({ cls := "ServerLineModel", name := "put", desc := "(IIII)I" } : Jvm.MethodName) ∈ mm_G := mm_in (mt_5 (List.mem_of_getElem? (l := tables_1_5) (i := 155) (by decide +kernel))) rfl
theorem mw_1171 : Jvm.Cond.selects "ServerLineModel" ({ cls := "ServerLineModel", name := "put", desc := "(IIII)I" } : Jvm.MethodName) ({ cls := "ServerLineModel", name := "put", desc := "(IIII)I" } : Jvm.MethodName) ∈ mm_G := mm_in (mt_5 (List.mem_of_getElem? (l := tables_1_5) (i := 156) (by decide +kernel))) rfl
theorem wv_L_101 : mm_VW RL 101 yX12_put := ⟨mw_1169, mw_1170, mw_1171⟩
theorem mw_1172 : Jvm.Cond.code ({ cls := "ServerLineModel", name := "put", desc := "(IIII)I" } : Jvm.MethodName) prog_14_method_57_code (6 : Nat) (Option.some Jvm.ClassFile.FieldType.int) ∈ mm_G := mm_in (mt_5 (List.mem_of_getElem? (l := tables_1_5) (i := 157) (by decide +kernel))) rfl
theorem wb_X12_put : mm_CB yX12_put cX12_put 6 (some .int) 4 := ⟨mw_1172, mw_69, ⟨by decide, by decide⟩, by decide +kernel, by decide⟩
theorem mw_831 : Jvm.Cond.methodLink "ServerLineLaw" (102 : Nat) ({ cls := "ServerLine", name := "get", desc := "(III)I" } : Jvm.MethodName) ∈ mm_G := mm_in (mt_4 (List.mem_of_getElem? (l := tables_1_4) (i := 56) (by decide +kernel))) rfl
theorem mw_832 : Jvm.Cond.instanceMethod ({ cls := "ServerLine", name := "get", desc := "(III)I" } : Jvm.MethodName) ∈ mm_G := mm_in (mt_4 (List.mem_of_getElem? (l := tables_1_4) (i := 57) (by decide +kernel))) rfl
theorem mw_833 : Jvm.Cond.selects "ServerLine" ({ cls := "ServerLine", name := "get", desc := "(III)I" } : Jvm.MethodName) ({ cls := "ServerLine", name := "get", desc := "(III)I" } : Jvm.MethodName) ∈ mm_G := mm_in (mt_4 (List.mem_of_getElem? (l := tables_1_4) (i := 58) (by decide +kernel))) rfl
theorem wv_L_102 : mm_VW RL 102 yX11_get := ⟨mw_831, mw_832, mw_833⟩
theorem mw_834 : Jvm.Cond.code ({ cls := "ServerLine", name := "get", desc := "(III)I" } : Jvm.MethodName) prog_1_method_23_code (4 : Nat) (Option.some Jvm.ClassFile.FieldType.int) ∈ mm_G := mm_in (mt_4 (List.mem_of_getElem? (l := tables_1_4) (i := 59) (by decide +kernel))) rfl
theorem wb_X11_get : mm_CB yX11_get cX11_get 4 (some .int) 3 := ⟨mw_834, mw_56, ⟨by decide, by decide⟩, by decide +kernel, by decide⟩
theorem mw_1177 : Jvm.Cond.methodLink "ServerLineLaw" (105 : Nat) ({ cls := "ServerLineModel", name := "get", desc := "(III)I" } : Jvm.MethodName) ∈ mm_G := mm_in (mt_5 (List.mem_of_getElem? (l := tables_1_5) (i := 162) (by decide +kernel))) rfl
theorem mw_1178 : Jvm.Cond.instanceMethod ({ cls := "ServerLineModel", name := "get", desc := "(III)I" } : Jvm.MethodName) ∈ mm_G := mm_in (mt_5 (List.mem_of_getElem? (l := tables_1_5) (i := 163) (by decide +kernel))) rfl
theorem mw_1179 : Jvm.Cond.selects "ServerLineModel" ({ cls := "ServerLineModel", name := "get", desc := "(III)I" } : Jvm.MethodName) ({ cls := "ServerLineModel", name := "get", desc := "(III)I" } : Jvm.MethodName) ∈ mm_G := mm_in (mt_5 (List.mem_of_getElem? (l := tables_1_5) (i := 164) (by decide +kernel))) rfl
theorem wv_L_105 : mm_VW RL 105 yX12_get := ⟨mw_1177, mw_1178, mw_1179⟩
theorem mw_1180 : Jvm.Cond.code ({ cls := "ServerLineModel", name := "get", desc := "(III)I" } : Jvm.MethodName) prog_14_method_58_code (5 : Nat) (Option.some Jvm.ClassFile.FieldType.int) ∈ mm_G := mm_in (mt_5 (List.mem_of_getElem? (l := tables_1_5) (i := 165) (by decide +kernel))) rfl
theorem wb_X12_get : mm_CB yX12_get cX12_get 5 (some .int) 3 := ⟨mw_1180, mw_69, ⟨by decide, by decide⟩, by decide +kernel, by decide⟩
theorem mw_836 : Jvm.Cond.methodLink "ServerLineLaw" (106 : Nat) ({ cls := "ServerLine", name := "copy", desc := "(IIIII)I" } : Jvm.MethodName) ∈ mm_G := mm_in (mt_4 (List.mem_of_getElem? (l := tables_1_4) (i := 61) (by decide +kernel))) rfl
theorem mw_837 : Jvm.Cond.instanceMethod ({ cls := "ServerLine", name := "copy", desc := "(IIIII)I" } : Jvm.MethodName) ∈ mm_G := mm_in (mt_4 (List.mem_of_getElem? (l := tables_1_4) (i := 62) (by decide +kernel))) rfl
theorem mw_838 : Jvm.Cond.selects "ServerLine" ({ cls := "ServerLine", name := "copy", desc := "(IIIII)I" } : Jvm.MethodName) ({ cls := "ServerLine", name := "copy", desc := "(IIIII)I" } : Jvm.MethodName) ∈ mm_G := mm_in (mt_4 (List.mem_of_getElem? (l := tables_1_4) (i := 63) (by decide +kernel))) rfl
theorem wv_L_106 : mm_VW RL 106 yX11_copy := ⟨mw_836, mw_837, mw_838⟩
theorem mw_839 : Jvm.Cond.code ({ cls := "ServerLine", name := "copy", desc := "(IIIII)I" } : Jvm.MethodName) prog_1_method_24_code (6 : Nat) (Option.some Jvm.ClassFile.FieldType.int) ∈ mm_G := mm_in (mt_4 (List.mem_of_getElem? (l := tables_1_4) (i := 64) (by decide +kernel))) rfl
theorem wb_X11_copy : mm_CB yX11_copy cX11_copy 6 (some .int) 5 := ⟨mw_839, mw_56, ⟨by decide, by decide⟩, by decide +kernel, by decide⟩
theorem mw_1182 : Jvm.Cond.methodLink "ServerLineLaw" (110 : Nat) ({ cls := "ServerLineModel", name := "copy", desc := "(IIIII)I" } : Jvm.MethodName) ∈ mm_G := mm_in (mt_5 (List.mem_of_getElem? (l := tables_1_5) (i := 167) (by decide +kernel))) rfl
theorem mw_1183 : Jvm.Cond.instanceMethod ({ cls := "ServerLineModel", name := "copy", desc := "(IIIII)I" } : Jvm.MethodName) ∈ mm_G := mm_in (mt_5 (List.mem_of_getElem? (l := tables_1_5) (i := 168) (by decide +kernel))) rfl
theorem mw_1184 : Jvm.Cond.selects "ServerLineModel" ({ cls := "ServerLineModel", name := "copy", desc := "(IIIII)I" } : Jvm.MethodName) ({ cls := "ServerLineModel", name := "copy", desc := "(IIIII)I" } : Jvm.MethodName) ∈ mm_G := mm_in (mt_5 (List.mem_of_getElem? (l := tables_1_5) (i := 169) (by decide +kernel))) rfl
theorem wv_L_110 : mm_VW RL 110 yX12_copy := ⟨mw_1182, mw_1183, mw_1184⟩
theorem mw_1185 : Jvm.Cond.code ({ cls := "ServerLineModel", name := "copy", desc := "(IIIII)I" } : Jvm.MethodName) prog_14_method_59_code (7 : Nat) (Option.some Jvm.ClassFile.FieldType.int) ∈ mm_G := mm_in (mt_5 (List.mem_of_getElem? (l := tables_1_5) (i := 170) (by decide +kernel))) rfl
theorem wb_X12_copy : mm_CB yX12_copy cX12_copy 7 (some .int) 5 := ⟨mw_1185, mw_69, ⟨by decide, by decide⟩, by decide +kernel, by decide⟩
theorem mw_843 : Jvm.Cond.methodLink "ServerLineLaw" (111 : Nat) ({ cls := "ServerLine", name := "hint", desc := "()I" } : Jvm.MethodName) ∈ mm_G := mm_in (mt_4 (List.mem_of_getElem? (l := tables_1_4) (i := 68) (by decide +kernel))) rfl
theorem mw_844 : Jvm.Cond.instanceMethod ({ cls := "ServerLine", name := "hint", desc := "()I" } : Jvm.MethodName) ∈ mm_G := mm_in (mt_4 (List.mem_of_getElem? (l := tables_1_4) (i := 69) (by decide +kernel))) rfl
theorem mw_845 : Jvm.Cond.selects "ServerLine" ({ cls := "ServerLine", name := "hint", desc := "()I" } : Jvm.MethodName) ({ cls := "ServerLine", name := "hint", desc := "()I" } : Jvm.MethodName) ∈ mm_G := mm_in (mt_4 (List.mem_of_getElem? (l := tables_1_4) (i := 70) (by decide +kernel))) rfl
theorem wv_L_111 : mm_VW RL 111 yX11_hint := ⟨mw_843, mw_844, mw_845⟩
theorem mw_846 : Jvm.Cond.code ({ cls := "ServerLine", name := "hint", desc := "()I" } : Jvm.MethodName) prog_1_method_25_code (3 : Nat) (Option.some Jvm.ClassFile.FieldType.int) ∈ mm_G := mm_in (mt_4 (List.mem_of_getElem? (l := tables_1_4) (i := 71) (by decide +kernel))) rfl
theorem wb_X11_hint : mm_CB yX11_hint cX11_hint 3 (some .int) 0 := ⟨mw_846, mw_56, ⟨by decide, by decide⟩, by decide +kernel, by decide⟩
theorem mw_1186 : Jvm.Cond.methodLink "ServerLineLaw" (114 : Nat) ({ cls := "ServerLineModel", name := "hint", desc := "()I" } : Jvm.MethodName) ∈ mm_G := mm_in (mt_5 (List.mem_of_getElem? (l := tables_1_5) (i := 171) (by decide +kernel))) rfl
theorem mw_1187 : Jvm.Cond.instanceMethod ({ cls := "ServerLineModel", name := "hint", desc := "()I" } : Jvm.MethodName) ∈ mm_G := mm_in (mt_5 (List.mem_of_getElem? (l := tables_1_5) (i := 172) (by decide +kernel))) rfl
theorem mw_1188 : Jvm.Cond.selects "ServerLineModel" ({ cls := "ServerLineModel", name := "hint", desc := "()I" } : Jvm.MethodName) ({ cls := "ServerLineModel", name := "hint", desc := "()I" } : Jvm.MethodName) ∈ mm_G := mm_in (mt_5 (List.mem_of_getElem? (l := tables_1_5) (i := 173) (by decide +kernel))) rfl
theorem wv_L_114 : mm_VW RL 114 yX12_hint := ⟨mw_1186, mw_1187, mw_1188⟩
theorem mw_1189 : Jvm.Cond.code ({ cls := "ServerLineModel", name := "hint", desc := "()I" } : Jvm.MethodName) prog_14_method_60_code (4 : Nat) (Option.some Jvm.ClassFile.FieldType.int) ∈ mm_G := mm_in (mt_5 (List.mem_of_getElem? (l := tables_1_5) (i := 174) (by decide +kernel))) rfl
theorem wb_X12_hint : mm_CB yX12_hint cX12_hint 4 (some .int) 0 := ⟨mw_1189, mw_69, ⟨by decide, by decide⟩, by decide +kernel, by decide⟩
theorem mw_850 : Jvm.Cond.methodLink "ServerLineLaw" (115 : Nat) ({ cls := "ServerLine", name := "count", desc := "(I)I" } : Jvm.MethodName) ∈ mm_G := mm_in (mt_4 (List.mem_of_getElem? (l := tables_1_4) (i := 75) (by decide +kernel))) rfl
theorem mw_851 : Jvm.Cond.instanceMethod ({ cls := "ServerLine", name := "count", desc := "(I)I" } : Jvm.MethodName) ∈ mm_G := mm_in (mt_4 (List.mem_of_getElem? (l := tables_1_4) (i := 76) (by decide +kernel))) rfl
theorem mw_852 : Jvm.Cond.selects "ServerLine" ({ cls := "ServerLine", name := "count", desc := "(I)I" } : Jvm.MethodName) ({ cls := "ServerLine", name := "count", desc := "(I)I" } : Jvm.MethodName) ∈ mm_G := mm_in (mt_4 (List.mem_of_getElem? (l := tables_1_4) (i := 77) (by decide +kernel))) rfl
theorem wv_L_115 : mm_VW RL 115 yX11_count := ⟨mw_850, mw_851, mw_852⟩
theorem mw_853 : Jvm.Cond.code ({ cls := "ServerLine", name := "count", desc := "(I)I" } : Jvm.MethodName) prog_1_method_26_code (2 : Nat) (Option.some Jvm.ClassFile.FieldType.int) ∈ mm_G := mm_in (mt_4 (List.mem_of_getElem? (l := tables_1_4) (i := 78) (by decide +kernel))) rfl
theorem wb_X11_count : mm_CB yX11_count cX11_count 2 (some .int) 1 := ⟨mw_853, mw_56, ⟨by decide, by decide⟩, by decide +kernel, by decide⟩
theorem mw_1190 : Jvm.Cond.methodLink "ServerLineLaw" (118 : Nat) ({ cls := "ServerLineModel", name := "count", desc := "(I)I" } : Jvm.MethodName) ∈ mm_G := mm_in (mt_5 (List.mem_of_getElem? (l := tables_1_5) (i := 175) (by decide +kernel))) rfl
theorem wv_L_118 : mm_VW RL 118 yX12_count := ⟨mw_1190, mw_1191, mw_1192⟩
theorem mw_859 : Jvm.Cond.methodLink "ServerLineLaw" (119 : Nat) ({ cls := "ServerLine", name := "digest", desc := "()J" } : Jvm.MethodName) ∈ mm_G := mm_in (mt_4 (List.mem_of_getElem? (l := tables_1_4) (i := 84) (by decide +kernel))) rfl
theorem mw_860 : Jvm.Cond.instanceMethod ({ cls := "ServerLine", name := "digest", desc := "()J" } : Jvm.MethodName) ∈ mm_G := mm_in (mt_4 (List.mem_of_getElem? (l := tables_1_4) (i := 85) (by decide +kernel))) rfl
theorem mw_861 : Jvm.Cond.selects "ServerLine" ({ cls := "ServerLine", name := "digest", desc := "()J" } : Jvm.MethodName) ({ cls := "ServerLine", name := "digest", desc := "()J" } : Jvm.MethodName) ∈ mm_G := mm_in (mt_4 (List.mem_of_getElem? (l := tables_1_4) (i := 86) (by decide +kernel))) rfl
theorem wv_L_119 : mm_VW RL 119 yX11_digest := ⟨mw_859, mw_860, mw_861⟩
theorem mw_862 : Jvm.Cond.code ({ cls := "ServerLine", name := "digest", desc := "()J" } : Jvm.MethodName) prog_1_method_27_code (4 : Nat) (Option.some Jvm.ClassFile.FieldType.long) ∈ mm_G := mm_in (mt_4 (List.mem_of_getElem? (l := tables_1_4) (i := 87) (by decide +kernel))) rfl
theorem wb_X11_digest : mm_CB yX11_digest cX11_digest 4 (some .long) 0 := ⟨mw_862, mw_56, ⟨by decide, by decide⟩, by decide +kernel, by decide⟩
theorem mw_1194 : Jvm.Cond.methodLink "ServerLineLaw" (123 : Nat) ({ cls := "ServerLineModel", name := "digest", desc := "()J" } : Jvm.MethodName) ∈ mm_G := mm_in (mt_5 (List.mem_of_getElem? (l := tables_1_5) (i := 179) (by decide +kernel))) rfl
theorem mw_1195 : Jvm.Cond.instanceMethod ({ cls := "ServerLineModel", name := "digest", desc := "()J" } : Jvm.MethodName) ∈ mm_G := mm_in (mt_5 (List.mem_of_getElem? (l := tables_1_5) (i := 180) (by decide +kernel))) rfl
theorem mw_1196 : Jvm.Cond.selects "ServerLineModel" ({ cls := "ServerLineModel", name := "digest", desc := "()J" } : Jvm.MethodName) ({ cls := "ServerLineModel", name := "digest", desc := "()J" } : Jvm.MethodName) ∈ mm_G := mm_in (mt_5 (List.mem_of_getElem? (l := tables_1_5) (i := 181) (by decide +kernel))) rfl
theorem wv_L_123 : mm_VW RL 123 yX12_digest := ⟨mw_1194, mw_1195, mw_1196⟩
theorem mw_1197 : Jvm.Cond.code ({ cls := "ServerLineModel", name := "digest", desc := "()J" } : Jvm.MethodName) prog_14_method_62_code (5 : Nat) (Option.some Jvm.ClassFile.FieldType.long) ∈ mm_G := mm_in (mt_5 (List.mem_of_getElem? (l := tables_1_5) (i := 182) (by decide +kernel))) rfl
theorem wb_X12_digest : mm_CB yX12_digest cX12_digest 5 (some .long) 0 := ⟨mw_1197, mw_69, ⟨by decide, by decide⟩, by decide +kernel, by decide⟩
theorem lw_after {p : Program} {l : Launch} {e : Env} {R : Room} {s : State} {m : MethodId} {args : Array Value} {below : List Frame} {meth : Method} {c : Code} {H : Heap} {lc : List Loc} {Q : State → Prop} {cs ss : Nat} {k : mmK} {v : Option Value} {F2 : mmS} {a : Array Value} {pc : Nat} {ls : Array Slot} {st0 rest : List Value} {A : Nat → Prop} (hAk : ∀ q, mm_A k q → A q) (hr : va_Run p l e R s m args below meth c H lc cs ss 0 0 (F0 m pc ls st0) rest (mm_Q k v F2 a) (mm_A k)) (hS : va_S A s.heap H lc)
    (kk : ∀ (H1 : Heap) (lc1 : List Loc), va_P k.1 vwCl (mm_W k F2) H1 → va_S A s.heap H1 lc1 → W p l e R s m args below meth c H1 lc1 cs ss Q (F0 m (pc + 3) ls (v.toList ++ rest))) : W p l e R s m args below meth c H lc cs ss Q (F0 m pc ls st0) := by
  intro T hT X
  obtain ⟨v2, st₀, t, T', L, h0, X', hL, e1, e2, ⟨hv, hp, hz, hk⟩, st⟩ := hr T hT X
  cases hv
  rw [h0] at hz hk
  obtain ⟨t2, a1, b1⟩ := kk T'.heap (lc ++ L) (by rw [e1]; exact hp)
    ⟨Nat.le_trans hS.1 (by rw [e1]; exact hz), fun q h1 h2 => by rw [e1, hk q (Nat.lt_of_lt_of_le h1 hS.1) (fun z => h2 (hAk q z))]; exact hS.2.1 q h1 h2, fun q hq => by
      rcases List.mem_append.mp hq with h | h
      · exact hS.2.2 q h
      · exact hAk _ (hL q h)⟩ T' rfl X'
  exact ⟨t2, st t2 a1, b1⟩
theorem lw_call {p : Program} {l : Launch} {e : Env} {s : State} {m : MethodId} {args : Array Value} {below : List Frame} {meth : Method} {c : Code} {H : Heap} {lc : List Loc} {Q : State → Prop} {cs ss : Nat} {k : mmK} {v : Option Value} {F F2 : mmS} {pc : Nat} {ls : Array Slot} {rest : List Value} {A : Nat → Prop} {cc bytes : ByteArray} {nL mL dc n idx i ci N : Nat} {rt : Option FieldType} {y : MethodName} {own Cn : String} {T : u_T} {fs : List Value} (st As : List Value)
    (hx : p.tables.exec = Jvm.exec) (hb : c.code = cc) (hml : c.maxLocals = nL) (hown : s.vm.findClass own = some m.cls) (hts : ∀ w ∈ mm_G, w.before args s = true) (hK : va_K k.1 vwCl (mm_ty k) s) (hN : mm_N s) (hI : mm_inj k) (hAk : ∀ q, mm_A k q → A q) (hcs : cs ≤ 600000) (hss : ss ≤ 7302250)
    (hT : mm_T l k y bytes mL rt dc (.ref (mmad k i) :: As) F v F2) (wb : mm_CB y bytes mL rt n) (w : mm_VW own idx y) (hi : i < 114) (hc : mm_cell k i (F i) = .inr (ci, fs)) (hcl : vwCl[ci]? = some (Cn, T, N)) (hy : y.cls = Cn) (hn : As.length = n) (hd : dc ≤ 1000) (hst : st = As.reverse ++ .ref (mmad k i) :: rest) (hr : (rest.map fun v => v.category).sum ≤ 8) (hdg : decode cc pc = .ok (.invokevirtual idx, 3)) (hP : va_P k.1 vwCl (mm_W k F) H) (hS : va_S A s.heap H lc) (hls : ls.size = nL)
    (kk : ∀ (H1 : Heap) (lc1 : List Loc), va_P k.1 vwCl (mm_W k F2) H1 → va_S A s.heap H1 lc1 → W p l e room_1 s m args below meth c H1 lc1 cs ss Q (F0 m (pc + 3) ls (v.toList ++ rest))) : W p l e room_1 s m args below meth c H lc cs ss Q (F0 m pc ls st) := by
  subst hst
  subst hy
  have cb : CallB room_1 s args own idx y bytes mL rt (.code y bytes mL rt :: mm_G) (mm_rm dc) 0 0 n := callB_of (Ts := mm_G) n hts (mm_good0 wb.1) rfl rfl rfl (hts _ wb.2.1) (hts _ w.1) ⟨wb.2.2.1.1, wb.2.2.1.2, wb.2.2.2.1⟩ ⟨by show dc + 1 ≤ 2048; omega, by have := wb.2.2.2.2; show 8 + (mL + 11) + 40 * dc ≤ 84000; omega⟩
  exact lw_after hAk (va_runV (As := As) (rest := rest) (C := y.cls) (b := mmad k i) (g := F0 m pc ls (As.reverse ++ .ref (mmad k i) :: rest)) ⟨hx, hb, hml, hown, hts⟩ hT ⟨cb, hts _ w.2.1, hts _ w.2.2⟩ ⟨mm_blind k _ F, va_recv hK hP (ci := ci) (q0 := i) hcl (by rw [mm_at k F hi, hc]), mm_pre hP hK hN hI⟩ rfl hn hls rfl (lv_room hr) hdg ⟨hcs, hss⟩) hS kk
/-- op 0: points -/
def lw_S0 (INV : mmS → Prop) : Prop := ∀ (F : mmS) (a1 : Int32), INV F → ∃ (r : Int32) (F1 : mmS) (F2 : mmS), m_X11_points_0 F a1 = some (r, F1) ∧ m_X12_points_97 F1 a1 = some (r, F2) ∧ INV F2
/-- op 1: place -/
def lw_S1 (INV : mmS → Prop) : Prop := ∀ (F : mmS) (a1 a2 : Int32), INV F → ∃ (r : Int32) (F1 : mmS) (F2 : mmS), m_X11_place_0 F a1 a2 = some (r, F1) ∧ m_X12_place_97 F1 a1 a2 = some (r, F2) ∧ INV F2
/-- op 2: servers -/
def lw_S2 (INV : mmS → Prop) : Prop := ∀ (F : mmS) (a1 : Int32), INV F → ∃ (r : Int32) (F1 : mmS) (F2 : mmS), m_X11_servers_0 F a1 = some (r, F1) ∧ m_X12_servers_97 F1 a1 = some (r, F2) ∧ INV F2
/-- op 3: start -/
def lw_S3 (INV : mmS → Prop) : Prop := ∀ (F : mmS) (a1 a2 : Int32), INV F → ∃ (r : Int32) (F1 : mmS) (F2 : mmS), m_X11_start_0 F a1 a2 = some (r, F1) ∧ m_X12_start_97 F1 a1 a2 = some (r, F2) ∧ INV F2
/-- op 4: factor -/
def lw_S4 (INV : mmS → Prop) : Prop := ∀ (F : mmS) (a1 : Int32), INV F → ∃ (r : Int32) (F1 : mmS) (F2 : mmS), m_X11_factor_0 F a1 = some (r, F1) ∧ m_X12_factor_97 F1 a1 = some (r, F2) ∧ INV F2
/-- op 5: asked -/
def lw_S5 (INV : mmS → Prop) : Prop := ∀ (F : mmS) , INV F → ∃ (r : Int32) (F1 : mmS) (F2 : mmS), m_X11_asked_0 F  = some (r, F1) ∧ m_X12_asked_97 F1  = some (r, F2) ∧ INV F2
/-- op 6: cost -/
def lw_S6 (INV : mmS → Prop) : Prop := ∀ (F : mmS) (a1 : Int32), INV F → ∃ (r : Int32) (F1 : mmS) (F2 : mmS), m_X11_cost_0 F a1 = some (r, F1) ∧ m_X12_cost_97 F1 a1 = some (r, F2) ∧ INV F2
/-- op 7: stands -/
def lw_S7 (INV : mmS → Prop) : Prop := ∀ (F : mmS) (a1 a2 a3 : Int32), INV F → ∃ (r : Int32) (F1 : mmS) (F2 : mmS), m_X11_stands_0 F a1 a2 a3 = some (r, F1) ∧ m_X12_stands_97 F1 a1 a2 a3 = some (r, F2) ∧ INV F2
/-- op 8: goes -/
def lw_S8 (INV : mmS → Prop) : Prop := ∀ (F : mmS) (a1 a2 : Int32), INV F → ∃ (r : Int32) (F1 : mmS) (F2 : mmS), m_X11_goes_0 F a1 a2 = some (r, F1) ∧ m_X12_goes_97 F1 a1 a2 = some (r, F2) ∧ INV F2
/-- op 9: best -/
def lw_S9 (INV : mmS → Prop) : Prop := ∀ (F : mmS) , INV F → ∃ (r : Int32) (F1 : mmS) (F2 : mmS), m_X11_best_0 F  = some (r, F1) ∧ m_X12_best_97 F1  = some (r, F2) ∧ INV F2
/-- op 10: way -/
def lw_S10 (INV : mmS → Prop) : Prop := ∀ (F : mmS) (a1 : Int32), INV F → ∃ (r : Int32) (F1 : mmS) (F2 : mmS), m_X11_way_0 F a1 = some (r, F1) ∧ m_X12_way_97 F1 a1 = some (r, F2) ∧ INV F2
/-- op 11: share -/
def lw_S11 (INV : mmS → Prop) : Prop := ∀ (F : mmS) (a1 : Int32), INV F → ∃ (r : Int32) (F1 : mmS) (F2 : mmS), m_X11_share_0 F a1 = some (r, F1) ∧ m_X12_share_97 F1 a1 = some (r, F2) ∧ INV F2
/-- op 12: work -/
def lw_S12 (INV : mmS → Prop) : Prop := ∀ (F : mmS) (a1 a2 a3 a4 : Int32), INV F → ∃ (r : Int32) (F1 : mmS) (F2 : mmS), m_X11_work_0 F a1 a2 a3 a4 = some (r, F1) ∧ m_X12_work_97 F1 a1 a2 a3 a4 = some (r, F2) ∧ INV F2
/-- op 13: trusts -/
def lw_S13 (INV : mmS → Prop) : Prop := ∀ (F : mmS) (a1 : Int32), INV F → ∃ (r : Int32) (F1 : mmS) (F2 : mmS), m_X11_trusts_0 F a1 = some (r, F1) ∧ m_X12_trusts_97 F1 a1 = some (r, F2) ∧ INV F2
/-- op 14: worst -/
def lw_S14 (INV : mmS → Prop) : Prop := ∀ (F : mmS) (a1 a2 : Int32), INV F → ∃ (r : Int32) (F1 : mmS) (F2 : mmS), m_X11_worst_0 F a1 a2 = some (r, F1) ∧ m_X12_worst_97 F1 a1 a2 = some (r, F2) ∧ INV F2
/-- op 15: worstShare -/
def lw_S15 (INV : mmS → Prop) : Prop := ∀ (F : mmS) (a1 a2 : Int32), INV F → ∃ (r : Int32) (F1 : mmS) (F2 : mmS), m_X11_worstShare_0 F a1 a2 = some (r, F1) ∧ m_X12_worstShare_97 F1 a1 a2 = some (r, F2) ∧ INV F2
/-- op 16: longing -/
def lw_S16 (INV : mmS → Prop) : Prop := ∀ (F : mmS) (a1 : Int32), INV F → ∃ (r : Int32) (F1 : mmS) (F2 : mmS), m_X11_longing_0 F a1 = some (r, F1) ∧ m_X12_longing_97 F1 a1 = some (r, F2) ∧ INV F2
/-- op 17: pays -/
def lw_S17 (INV : mmS → Prop) : Prop := ∀ (F : mmS) , INV F → ∃ (r : Int32) (F1 : mmS) (F2 : mmS), m_X11_pays_0 F  = some (r, F1) ∧ m_X12_pays_97 F1  = some (r, F2) ∧ INV F2
/-- op 18: sheet -/
def lw_S18 (INV : mmS → Prop) : Prop := ∀ (F : mmS) (a1 a2 a3 : Int32), INV F → ∃ (r : Int32) (F1 : mmS) (F2 : mmS), m_X11_sheet_0 F a1 a2 a3 = some (r, F1) ∧ m_X12_sheet_97 F1 a1 a2 a3 = some (r, F2) ∧ INV F2
/-- op 19: lose -/
def lw_S19 (INV : mmS → Prop) : Prop := ∀ (F : mmS) (a1 : Int32), INV F → ∃ (r : Int32) (F1 : mmS) (F2 : mmS), m_X11_lose_0 F a1 = some (r, F1) ∧ m_X12_lose_97 F1 a1 = some (r, F2) ∧ INV F2
/-- op 20: put -/
def lw_S20 (INV : mmS → Prop) : Prop := ∀ (F : mmS) (a1 a2 a3 a4 : Int32), INV F → ∃ (r : Int32) (F1 : mmS) (F2 : mmS), m_X11_put_0 F a1 a2 a3 a4 = some (r, F1) ∧ m_X12_put_97 F1 a1 a2 a3 a4 = some (r, F2) ∧ INV F2
/-- op 21: get -/
def lw_S21 (INV : mmS → Prop) : Prop := ∀ (F : mmS) (a1 a2 a3 : Int32), INV F → ∃ (r : Int32) (F1 : mmS) (F2 : mmS), m_X11_get_0 F a1 a2 a3 = some (r, F1) ∧ m_X12_get_97 F1 a1 a2 a3 = some (r, F2) ∧ INV F2
/-- op 22: copy -/
def lw_S22 (INV : mmS → Prop) : Prop := ∀ (F : mmS) (a1 a2 a3 a4 a5 : Int32), INV F → ∃ (r : Int32) (F1 : mmS) (F2 : mmS), m_X11_copy_0 F a1 a2 a3 a4 a5 = some (r, F1) ∧ m_X12_copy_97 F1 a1 a2 a3 a4 a5 = some (r, F2) ∧ INV F2
/-- op 23: hint -/
def lw_S23 (INV : mmS → Prop) : Prop := ∀ (F : mmS) , INV F → ∃ (r : Int32) (F1 : mmS) (F2 : mmS), m_X11_hint_0 F  = some (r, F1) ∧ m_X12_hint_97 F1  = some (r, F2) ∧ INV F2
/-- op 24: count -/
def lw_S24 (INV : mmS → Prop) : Prop := ∀ (F : mmS) (a1 : Int32), INV F → ∃ (r : Int32), m_X11_count_0 F a1 = some r ∧ m_X12_count_97 F a1 = some r ∧ INV F
/-- op 25: digest -/
def lw_S25 (INV : mmS → Prop) : Prop := ∀ (F : mmS) , INV F → ∃ (r : Int64) (F1 : mmS) (F2 : mmS), m_X11_digest_0 F  = some (r, F1) ∧ m_X12_digest_97 F1  = some (r, F2) ∧ INV F2
def lw_Step (INV : mmS → Prop) : Prop := lw_S0 INV ∧ lw_S1 INV ∧ lw_S2 INV ∧ lw_S3 INV ∧ lw_S4 INV ∧ lw_S5 INV ∧ lw_S6 INV ∧ lw_S7 INV ∧ lw_S8 INV ∧ lw_S9 INV ∧ lw_S10 INV ∧ lw_S11 INV ∧ lw_S12 INV ∧ lw_S13 INV ∧ lw_S14 INV ∧ lw_S15 INV ∧ lw_S16 INV ∧ lw_S17 INV ∧ lw_S18 INV ∧ lw_S19 INV ∧ lw_S20 INV ∧ lw_S21 INV ∧ lw_S22 INV ∧ lw_S23 INV ∧ lw_S24 INV ∧ lw_S25 INV
set_option maxHeartbeats 8000000 in
set_option maxRecDepth 100000 in
theorem law_loop {p : Program} {l : Launch} {e : Env} {s : State} {m : MethodId} {below : List Frame} {meth : Method} {c : Code} {b L : Nat} {xs : Nat → Int32} {k : mmK} {INV : mmS → Prop} {cs ss : Nat} (hSt : lw_Step INV) (hL : L ≤ 3072) (C0 : lw_At p s m meth c b L xs) (hK : va_K k.1 vwCl (mm_ty k) s) (hN : mm_N s) (hI : mm_inj k) (hAk : ∀ q, mm_A k q → s.heap.size ≤ q) (hcs : cs ≤ 600000) (hss : ss ≤ 7302250) :
    ∀ (n t : Nat) (F : mmS) (x3 : Int32), t ≤ 520 → t + n = 600 → x3 = nI (6 * t) → INV F → ∀ (H : Heap) (lc : List Loc) (ls : Array Slot), va_P k.1 vwCl (mm_W k F) H → va_S (fun q : Nat => s.heap.size ≤ q) s.heap H lc → lv_has ls 4 [(0, .ref b), (1, .ref (mmad k 0)), (2, .ref (mmad k 97)), (3, .int x3)] → W p l e room_1 s m #[Value.ref b] below meth c H lc cs ss (lw_Z below #[Value.ref b] s) (F0 m 18 ls []) := by
  obtain ⟨hx, hb, hr, hml, hown, hts0, hX, hbl, hlocks, hgv⟩ := C0
  have hb : c.code = cL_law := hb
  have hts : ∀ w ∈ mm_G, w.before #[Value.ref b] s = true := fun w h => hts0 w (List.mem_filter.mp h).1
  have hbA : ¬ (fun q : Nat => s.heap.size ≤ q) b := Nat.not_le.mpr hbl
  intro n
  induction n with
  | zero => intro t F x3 h1 h2; exact absurd h2 (by omega)
  | succ n ih =>
    intro t F x3 ht htn ex3 hF H lc ls hP hS hl
    refine lv_iload_n hx hb dL_law_18 rfl (lv_at hl 3 rfl) ?_
    refine lv_aload_n hx hb dL_law_19 rfl (lv_at hl 0 rfl) ?_
    refine va_slen hx hb hX hbl hbA hS dL_law_20 ?_
    refine lv_bipush (v := 6) hx hb dL_law_21 (by decide) ?_
    refine lv_isub hx hb dL_law_23 ?_
    refine lv_icmp_gt (tgt := 917) hx hb dL_law_24 (by decide) (fun hc => ?_) (fun hc => ?_)
    · refine lv_iconst (v := 1) hx hb dL_law_917 (by decide) ?_
      refine va_forget (fun q hq => hS.2.2 q hq) ?_
      refine W.widen (k := 600000) (n := 7302250) hcs hss ?_
      exact lw_ret hx hb hr hlocks dL_law_918
    · have hle : 6 * t + 6 ≤ L := by
        rcases Nat.lt_or_ge L (6 * t + 6) with q | q
        · refine absurd ?_ hc
          rw [ex3]
          show nI L - nI 6 < nI (6 * t)
          rw [Int32.lt_iff_toInt_lt, pk_sub_toInt (by omega) (by omega), nI_toInt (by omega)]
          omega
        · exact q
      have hv1 : vp_in (x3 + 1) L := by rw [ex3]; show vp_in (nI (6 * t) + nI 1) L; rw [nI_add]; exact vp_in_nI (by omega) (by omega)
      have hv2 : vp_in (x3 + 2) L := by rw [ex3]; show vp_in (nI (6 * t) + nI 2) L; rw [nI_add]; exact vp_in_nI (by omega) (by omega)
      have hv3 : vp_in (x3 + 3) L := by rw [ex3]; show vp_in (nI (6 * t) + nI 3) L; rw [nI_add]; exact vp_in_nI (by omega) (by omega)
      have hv4 : vp_in (x3 + 4) L := by rw [ex3]; show vp_in (nI (6 * t) + nI 4) L; rw [nI_add]; exact vp_in_nI (by omega) (by omega)
      have hv5 : vp_in (x3 + 5) L := by rw [ex3]; show vp_in (nI (6 * t) + nI 5) L; rw [nI_add]; exact vp_in_nI (by omega) (by omega)
      have hv0 : vp_in x3 L := by rw [ex3]; exact vp_in_nI (by omega) (by omega)
      have hgo : ∀ (F2 : mmS) (H : Heap) (lc : List Loc), INV F2 → va_P k.1 vwCl (mm_W k F2) H → va_S (fun q : Nat => s.heap.size ≤ q) s.heap H lc → W p l e room_1 s m #[Value.ref b] below meth c H lc cs ss (lw_Z below #[Value.ref b] s) (F0 m 911 ls []) := by
        intro F2 H lc hF2 hP hS
        refine lv_iinc (v := x3 + 6) (lv' := [(3, .int (x3 + 6)), (0, .ref b), (1, .ref (mmad k 0)), (2, .ref (mmad k 97))]) hx hb dL_law_911 hl (k := 3) rfl rfl (by decide) rfl (fun ls hl => ?_)
        refine lv_goto (tgt := 18) hx hb dL_law_914 (by decide) ?_
        exact ih (t + 1) F2 (x3 + 6) (by omega) (by omega) (by rw [ex3]; show nI (6 * t) + nI 6 = _; rw [nI_add]; congr 1) hF2 H lc ls hP hS (lv_sub hl [1, 2, 3, 0] rfl)
      refine lv_aload_n hx hb dL_law_27 rfl (lv_at hl 0 rfl) ?_
      refine lv_iload_n hx hb dL_law_28 rfl (lv_at hl 3 rfl) ?_
      refine va_sld hx hb hX hbl hbA hS hv0 dL_law_29 ?_
      refine lv_bipush (v := 31) hx hb dL_law_30 (by decide) ?_
      refine lv_iand hx hb dL_law_32 ?_
      obtain ⟨j, hj, ej⟩ := pk_andE (xs x3.toNatClampNeg) (m := 31) 5 (by decide)
      rw [ej]
      rcases (show j = 0 ∨ j = 1 ∨ j = 2 ∨ j = 3 ∨ j = 4 ∨ j = 5 ∨ j = 6 ∨ j = 7 ∨ j = 8 ∨ j = 9 ∨ j = 10 ∨ j = 11 ∨ j = 12 ∨ j = 13 ∨ j = 14 ∨ j = 15 ∨ j = 16 ∨ j = 17 ∨ j = 18 ∨ j = 19 ∨ j = 20 ∨ j = 21 ∨ j = 22 ∨ j = 23 ∨ j = 24 ∨ j = 25 ∨ 26 ≤ j by omega) with rfl | rfl | rfl | rfl | rfl | rfl | rfl | rfl | rfl | rfl | rfl | rfl | rfl | rfl | rfl | rfl | rfl | rfl | rfl | rfl | rfl | rfl | rfl | rfl | rfl | rfl | hj26
      · refine lv_tableIn (x := nI 0) (tgt := 152) hx hb dL_law_33 (by decide) (by decide) rfl (by decide) ?_
        obtain ⟨r, F1, F2, e1, e2, hF2⟩ := hSt.1 F (xs (x3 + 1).toNatClampNeg) hF
        refine lv_aload_n hx hb dL_law_152 rfl (lv_at hl 1 rfl) ?_
        refine lv_aload_n hx hb dL_law_153 rfl (lv_at hl 0 rfl) ?_
        refine lv_iload_n hx hb dL_law_154 rfl (lv_at hl 3 rfl) ?_
        refine lv_iconst (v := 1) hx hb dL_law_155 (by decide) ?_
        refine lv_iadd hx hb dL_law_156 ?_
        refine va_sld hx hb hX hbl hbA hS hv1 dL_law_157 ?_
        refine lw_call (own := RL) (rest := []) [.int (xs (x3 + 1).toNatClampNeg), .ref (mmad k 0)] [.int (xs (x3 + 1).toNatClampNeg)] hx hb hml hown hts hK hN hI hAk hcs hss (c_X11_points_0 e1) wb_X11_points wv_L_13 (by decide) (mc_0 k _) rfl rfl rfl (by decide) rfl (Nat.le_of_ble_eq_true rfl) dL_law_158 hP hS hl.1 (fun H lc hP hS => ?_)
        show W p l e room_1 s m #[Value.ref b] below meth c H lc cs ss (lw_Z below #[Value.ref b] s) (F0 m 161 ls [.int r])
        refine lv_aload_n hx hb dL_law_161 rfl (lv_at hl 2 rfl) ?_
        refine lv_aload_n hx hb dL_law_162 rfl (lv_at hl 0 rfl) ?_
        refine lv_iload_n hx hb dL_law_163 rfl (lv_at hl 3 rfl) ?_
        refine lv_iconst (v := 1) hx hb dL_law_164 (by decide) ?_
        refine lv_iadd hx hb dL_law_165 ?_
        refine va_sld hx hb hX hbl hbA hS hv1 dL_law_166 ?_
        refine lw_call (own := RL) (rest := [.int r]) [.int (xs (x3 + 1).toNatClampNeg), .ref (mmad k 97), .int r] [.int (xs (x3 + 1).toNatClampNeg)] hx hb hml hown hts hK hN hI hAk hcs hss (c_X12_points_97 e2) wb_X12_points wv_L_17 (by decide) (mc_97 k _) rfl rfl rfl (by decide) rfl (Nat.le_of_ble_eq_true rfl) dL_law_167 hP hS hl.1 (fun H lc hP hS => ?_)
        show W p l e room_1 s m #[Value.ref b] below meth c H lc cs ss (lw_Z below #[Value.ref b] s) (F0 m 170 ls [.int r, .int r])
        refine lv_icmp_eq (tgt := 911) hx hb dL_law_170 (by decide) (fun _ => ?_) (fun hc => absurd rfl hc)
        exact hgo _ _ _ hF2 hP hS
      · refine lv_tableIn (x := nI 1) (tgt := 175) hx hb dL_law_33 (by decide) (by decide) rfl (by decide) ?_
        obtain ⟨r, F1, F2, e1, e2, hF2⟩ := hSt.2.1 F (xs (x3 + 1).toNatClampNeg) (xs (x3 + 2).toNatClampNeg) hF
        refine lv_aload_n hx hb dL_law_175 rfl (lv_at hl 1 rfl) ?_
        refine lv_aload_n hx hb dL_law_176 rfl (lv_at hl 0 rfl) ?_
        refine lv_iload_n hx hb dL_law_177 rfl (lv_at hl 3 rfl) ?_
        refine lv_iconst (v := 1) hx hb dL_law_178 (by decide) ?_
        refine lv_iadd hx hb dL_law_179 ?_
        refine va_sld hx hb hX hbl hbA hS hv1 dL_law_180 ?_
        refine lv_aload_n hx hb dL_law_181 rfl (lv_at hl 0 rfl) ?_
        refine lv_iload_n hx hb dL_law_182 rfl (lv_at hl 3 rfl) ?_
        refine lv_iconst (v := 2) hx hb dL_law_183 (by decide) ?_
        refine lv_iadd hx hb dL_law_184 ?_
        refine va_sld hx hb hX hbl hbA hS hv2 dL_law_185 ?_
        refine lw_call (own := RL) (rest := []) [.int (xs (x3 + 2).toNatClampNeg), .int (xs (x3 + 1).toNatClampNeg), .ref (mmad k 0)] [.int (xs (x3 + 1).toNatClampNeg), .int (xs (x3 + 2).toNatClampNeg)] hx hb hml hown hts hK hN hI hAk hcs hss (c_X11_place_0 e1) wb_X11_place wv_L_18 (by decide) (mc_0 k _) rfl rfl rfl (by decide) rfl (Nat.le_of_ble_eq_true rfl) dL_law_186 hP hS hl.1 (fun H lc hP hS => ?_)
        show W p l e room_1 s m #[Value.ref b] below meth c H lc cs ss (lw_Z below #[Value.ref b] s) (F0 m 189 ls [.int r])
        refine lv_aload_n hx hb dL_law_189 rfl (lv_at hl 2 rfl) ?_
        refine lv_aload_n hx hb dL_law_190 rfl (lv_at hl 0 rfl) ?_
        refine lv_iload_n hx hb dL_law_191 rfl (lv_at hl 3 rfl) ?_
        refine lv_iconst (v := 1) hx hb dL_law_192 (by decide) ?_
        refine lv_iadd hx hb dL_law_193 ?_
        refine va_sld hx hb hX hbl hbA hS hv1 dL_law_194 ?_
        refine lv_aload_n hx hb dL_law_195 rfl (lv_at hl 0 rfl) ?_
        refine lv_iload_n hx hb dL_law_196 rfl (lv_at hl 3 rfl) ?_
        refine lv_iconst (v := 2) hx hb dL_law_197 (by decide) ?_
        refine lv_iadd hx hb dL_law_198 ?_
        refine va_sld hx hb hX hbl hbA hS hv2 dL_law_199 ?_
        refine lw_call (own := RL) (rest := [.int r]) [.int (xs (x3 + 2).toNatClampNeg), .int (xs (x3 + 1).toNatClampNeg), .ref (mmad k 97), .int r] [.int (xs (x3 + 1).toNatClampNeg), .int (xs (x3 + 2).toNatClampNeg)] hx hb hml hown hts hK hN hI hAk hcs hss (c_X12_place_97 e2) wb_X12_place wv_L_22 (by decide) (mc_97 k _) rfl rfl rfl (by decide) rfl (Nat.le_of_ble_eq_true rfl) dL_law_200 hP hS hl.1 (fun H lc hP hS => ?_)
        show W p l e room_1 s m #[Value.ref b] below meth c H lc cs ss (lw_Z below #[Value.ref b] s) (F0 m 203 ls [.int r, .int r])
        refine lv_icmp_eq (tgt := 911) hx hb dL_law_203 (by decide) (fun _ => ?_) (fun hc => absurd rfl hc)
        exact hgo _ _ _ hF2 hP hS
      · refine lv_tableIn (x := nI 2) (tgt := 208) hx hb dL_law_33 (by decide) (by decide) rfl (by decide) ?_
        obtain ⟨r, F1, F2, e1, e2, hF2⟩ := hSt.2.2.1 F (xs (x3 + 1).toNatClampNeg) hF
        refine lv_aload_n hx hb dL_law_208 rfl (lv_at hl 1 rfl) ?_
        refine lv_aload_n hx hb dL_law_209 rfl (lv_at hl 0 rfl) ?_
        refine lv_iload_n hx hb dL_law_210 rfl (lv_at hl 3 rfl) ?_
        refine lv_iconst (v := 1) hx hb dL_law_211 (by decide) ?_
        refine lv_iadd hx hb dL_law_212 ?_
        refine va_sld hx hb hX hbl hbA hS hv1 dL_law_213 ?_
        refine lw_call (own := RL) (rest := []) [.int (xs (x3 + 1).toNatClampNeg), .ref (mmad k 0)] [.int (xs (x3 + 1).toNatClampNeg)] hx hb hml hown hts hK hN hI hAk hcs hss (c_X11_servers_0 e1) wb_X11_servers wv_L_23 (by decide) (mc_0 k _) rfl rfl rfl (by decide) rfl (Nat.le_of_ble_eq_true rfl) dL_law_214 hP hS hl.1 (fun H lc hP hS => ?_)
        show W p l e room_1 s m #[Value.ref b] below meth c H lc cs ss (lw_Z below #[Value.ref b] s) (F0 m 217 ls [.int r])
        refine lv_aload_n hx hb dL_law_217 rfl (lv_at hl 2 rfl) ?_
        refine lv_aload_n hx hb dL_law_218 rfl (lv_at hl 0 rfl) ?_
        refine lv_iload_n hx hb dL_law_219 rfl (lv_at hl 3 rfl) ?_
        refine lv_iconst (v := 1) hx hb dL_law_220 (by decide) ?_
        refine lv_iadd hx hb dL_law_221 ?_
        refine va_sld hx hb hX hbl hbA hS hv1 dL_law_222 ?_
        refine lw_call (own := RL) (rest := [.int r]) [.int (xs (x3 + 1).toNatClampNeg), .ref (mmad k 97), .int r] [.int (xs (x3 + 1).toNatClampNeg)] hx hb hml hown hts hK hN hI hAk hcs hss (c_X12_servers_97 e2) wb_X12_servers wv_L_26 (by decide) (mc_97 k _) rfl rfl rfl (by decide) rfl (Nat.le_of_ble_eq_true rfl) dL_law_223 hP hS hl.1 (fun H lc hP hS => ?_)
        show W p l e room_1 s m #[Value.ref b] below meth c H lc cs ss (lw_Z below #[Value.ref b] s) (F0 m 226 ls [.int r, .int r])
        refine lv_icmp_eq (tgt := 911) hx hb dL_law_226 (by decide) (fun _ => ?_) (fun hc => absurd rfl hc)
        exact hgo _ _ _ hF2 hP hS
      · refine lv_tableIn (x := nI 3) (tgt := 231) hx hb dL_law_33 (by decide) (by decide) rfl (by decide) ?_
        obtain ⟨r, F1, F2, e1, e2, hF2⟩ := hSt.2.2.2.1 F (xs (x3 + 1).toNatClampNeg) (xs (x3 + 2).toNatClampNeg) hF
        refine lv_aload_n hx hb dL_law_231 rfl (lv_at hl 1 rfl) ?_
        refine lv_aload_n hx hb dL_law_232 rfl (lv_at hl 0 rfl) ?_
        refine lv_iload_n hx hb dL_law_233 rfl (lv_at hl 3 rfl) ?_
        refine lv_iconst (v := 1) hx hb dL_law_234 (by decide) ?_
        refine lv_iadd hx hb dL_law_235 ?_
        refine va_sld hx hb hX hbl hbA hS hv1 dL_law_236 ?_
        refine lv_aload_n hx hb dL_law_237 rfl (lv_at hl 0 rfl) ?_
        refine lv_iload_n hx hb dL_law_238 rfl (lv_at hl 3 rfl) ?_
        refine lv_iconst (v := 2) hx hb dL_law_239 (by decide) ?_
        refine lv_iadd hx hb dL_law_240 ?_
        refine va_sld hx hb hX hbl hbA hS hv2 dL_law_241 ?_
        refine lw_call (own := RL) (rest := []) [.int (xs (x3 + 2).toNatClampNeg), .int (xs (x3 + 1).toNatClampNeg), .ref (mmad k 0)] [.int (xs (x3 + 1).toNatClampNeg), .int (xs (x3 + 2).toNatClampNeg)] hx hb hml hown hts hK hN hI hAk hcs hss (c_X11_start_0 e1) wb_X11_start wv_L_27 (by decide) (mc_0 k _) rfl rfl rfl (by decide) rfl (Nat.le_of_ble_eq_true rfl) dL_law_242 hP hS hl.1 (fun H lc hP hS => ?_)
        show W p l e room_1 s m #[Value.ref b] below meth c H lc cs ss (lw_Z below #[Value.ref b] s) (F0 m 245 ls [.int r])
        refine lv_aload_n hx hb dL_law_245 rfl (lv_at hl 2 rfl) ?_
        refine lv_aload_n hx hb dL_law_246 rfl (lv_at hl 0 rfl) ?_
        refine lv_iload_n hx hb dL_law_247 rfl (lv_at hl 3 rfl) ?_
        refine lv_iconst (v := 1) hx hb dL_law_248 (by decide) ?_
        refine lv_iadd hx hb dL_law_249 ?_
        refine va_sld hx hb hX hbl hbA hS hv1 dL_law_250 ?_
        refine lv_aload_n hx hb dL_law_251 rfl (lv_at hl 0 rfl) ?_
        refine lv_iload_n hx hb dL_law_252 rfl (lv_at hl 3 rfl) ?_
        refine lv_iconst (v := 2) hx hb dL_law_253 (by decide) ?_
        refine lv_iadd hx hb dL_law_254 ?_
        refine va_sld hx hb hX hbl hbA hS hv2 dL_law_255 ?_
        refine lw_call (own := RL) (rest := [.int r]) [.int (xs (x3 + 2).toNatClampNeg), .int (xs (x3 + 1).toNatClampNeg), .ref (mmad k 97), .int r] [.int (xs (x3 + 1).toNatClampNeg), .int (xs (x3 + 2).toNatClampNeg)] hx hb hml hown hts hK hN hI hAk hcs hss (c_X12_start_97 e2) wb_X12_start wv_L_30 (by decide) (mc_97 k _) rfl rfl rfl (by decide) rfl (Nat.le_of_ble_eq_true rfl) dL_law_256 hP hS hl.1 (fun H lc hP hS => ?_)
        show W p l e room_1 s m #[Value.ref b] below meth c H lc cs ss (lw_Z below #[Value.ref b] s) (F0 m 259 ls [.int r, .int r])
        refine lv_icmp_eq (tgt := 911) hx hb dL_law_259 (by decide) (fun _ => ?_) (fun hc => absurd rfl hc)
        exact hgo _ _ _ hF2 hP hS
      · refine lv_tableIn (x := nI 4) (tgt := 264) hx hb dL_law_33 (by decide) (by decide) rfl (by decide) ?_
        obtain ⟨r, F1, F2, e1, e2, hF2⟩ := hSt.2.2.2.2.1 F (xs (x3 + 1).toNatClampNeg) hF
        refine lv_aload_n hx hb dL_law_264 rfl (lv_at hl 1 rfl) ?_
        refine lv_aload_n hx hb dL_law_265 rfl (lv_at hl 0 rfl) ?_
        refine lv_iload_n hx hb dL_law_266 rfl (lv_at hl 3 rfl) ?_
        refine lv_iconst (v := 1) hx hb dL_law_267 (by decide) ?_
        refine lv_iadd hx hb dL_law_268 ?_
        refine va_sld hx hb hX hbl hbA hS hv1 dL_law_269 ?_
        refine lw_call (own := RL) (rest := []) [.int (xs (x3 + 1).toNatClampNeg), .ref (mmad k 0)] [.int (xs (x3 + 1).toNatClampNeg)] hx hb hml hown hts hK hN hI hAk hcs hss (c_X11_factor_0 e1) wb_X11_factor wv_L_31 (by decide) (mc_0 k _) rfl rfl rfl (by decide) rfl (Nat.le_of_ble_eq_true rfl) dL_law_270 hP hS hl.1 (fun H lc hP hS => ?_)
        show W p l e room_1 s m #[Value.ref b] below meth c H lc cs ss (lw_Z below #[Value.ref b] s) (F0 m 273 ls [.int r])
        refine lv_aload_n hx hb dL_law_273 rfl (lv_at hl 2 rfl) ?_
        refine lv_aload_n hx hb dL_law_274 rfl (lv_at hl 0 rfl) ?_
        refine lv_iload_n hx hb dL_law_275 rfl (lv_at hl 3 rfl) ?_
        refine lv_iconst (v := 1) hx hb dL_law_276 (by decide) ?_
        refine lv_iadd hx hb dL_law_277 ?_
        refine va_sld hx hb hX hbl hbA hS hv1 dL_law_278 ?_
        refine lw_call (own := RL) (rest := [.int r]) [.int (xs (x3 + 1).toNatClampNeg), .ref (mmad k 97), .int r] [.int (xs (x3 + 1).toNatClampNeg)] hx hb hml hown hts hK hN hI hAk hcs hss (c_X12_factor_97 e2) wb_X12_factor wv_L_34 (by decide) (mc_97 k _) rfl rfl rfl (by decide) rfl (Nat.le_of_ble_eq_true rfl) dL_law_279 hP hS hl.1 (fun H lc hP hS => ?_)
        show W p l e room_1 s m #[Value.ref b] below meth c H lc cs ss (lw_Z below #[Value.ref b] s) (F0 m 282 ls [.int r, .int r])
        refine lv_icmp_eq (tgt := 911) hx hb dL_law_282 (by decide) (fun _ => ?_) (fun hc => absurd rfl hc)
        exact hgo _ _ _ hF2 hP hS
      · refine lv_tableIn (x := nI 5) (tgt := 287) hx hb dL_law_33 (by decide) (by decide) rfl (by decide) ?_
        obtain ⟨r, F1, F2, e1, e2, hF2⟩ := hSt.2.2.2.2.2.1 F  hF
        refine lv_aload_n hx hb dL_law_287 rfl (lv_at hl 1 rfl) ?_
        refine lw_call (own := RL) (rest := []) [.ref (mmad k 0)] [] hx hb hml hown hts hK hN hI hAk hcs hss (c_X11_asked_0 e1) wb_X11_asked wv_L_35 (by decide) (mc_0 k _) rfl rfl rfl (by decide) rfl (Nat.le_of_ble_eq_true rfl) dL_law_288 hP hS hl.1 (fun H lc hP hS => ?_)
        show W p l e room_1 s m #[Value.ref b] below meth c H lc cs ss (lw_Z below #[Value.ref b] s) (F0 m 291 ls [.int r])
        refine lv_aload_n hx hb dL_law_291 rfl (lv_at hl 2 rfl) ?_
        refine lw_call (own := RL) (rest := [.int r]) [.ref (mmad k 97), .int r] [] hx hb hml hown hts hK hN hI hAk hcs hss (c_X12_asked_97 e2) wb_X12_asked wv_L_39 (by decide) (mc_97 k _) rfl rfl rfl (by decide) rfl (Nat.le_of_ble_eq_true rfl) dL_law_292 hP hS hl.1 (fun H lc hP hS => ?_)
        show W p l e room_1 s m #[Value.ref b] below meth c H lc cs ss (lw_Z below #[Value.ref b] s) (F0 m 295 ls [.int r, .int r])
        refine lv_icmp_eq (tgt := 911) hx hb dL_law_295 (by decide) (fun _ => ?_) (fun hc => absurd rfl hc)
        exact hgo _ _ _ hF2 hP hS
      · refine lv_tableIn (x := nI 6) (tgt := 300) hx hb dL_law_33 (by decide) (by decide) rfl (by decide) ?_
        obtain ⟨r, F1, F2, e1, e2, hF2⟩ := hSt.2.2.2.2.2.2.1 F (xs (x3 + 1).toNatClampNeg) hF
        refine lv_aload_n hx hb dL_law_300 rfl (lv_at hl 1 rfl) ?_
        refine lv_aload_n hx hb dL_law_301 rfl (lv_at hl 0 rfl) ?_
        refine lv_iload_n hx hb dL_law_302 rfl (lv_at hl 3 rfl) ?_
        refine lv_iconst (v := 1) hx hb dL_law_303 (by decide) ?_
        refine lv_iadd hx hb dL_law_304 ?_
        refine va_sld hx hb hX hbl hbA hS hv1 dL_law_305 ?_
        refine lw_call (own := RL) (rest := []) [.int (xs (x3 + 1).toNatClampNeg), .ref (mmad k 0)] [.int (xs (x3 + 1).toNatClampNeg)] hx hb hml hown hts hK hN hI hAk hcs hss (c_X11_cost_0 e1) wb_X11_cost wv_L_40 (by decide) (mc_0 k _) rfl rfl rfl (by decide) rfl (Nat.le_of_ble_eq_true rfl) dL_law_306 hP hS hl.1 (fun H lc hP hS => ?_)
        show W p l e room_1 s m #[Value.ref b] below meth c H lc cs ss (lw_Z below #[Value.ref b] s) (F0 m 309 ls [.int r])
        refine lv_aload_n hx hb dL_law_309 rfl (lv_at hl 2 rfl) ?_
        refine lv_aload_n hx hb dL_law_310 rfl (lv_at hl 0 rfl) ?_
        refine lv_iload_n hx hb dL_law_311 rfl (lv_at hl 3 rfl) ?_
        refine lv_iconst (v := 1) hx hb dL_law_312 (by decide) ?_
        refine lv_iadd hx hb dL_law_313 ?_
        refine va_sld hx hb hX hbl hbA hS hv1 dL_law_314 ?_
        refine lw_call (own := RL) (rest := [.int r]) [.int (xs (x3 + 1).toNatClampNeg), .ref (mmad k 97), .int r] [.int (xs (x3 + 1).toNatClampNeg)] hx hb hml hown hts hK hN hI hAk hcs hss (c_X12_cost_97 e2) wb_X12_cost wv_L_43 (by decide) (mc_97 k _) rfl rfl rfl (by decide) rfl (Nat.le_of_ble_eq_true rfl) dL_law_315 hP hS hl.1 (fun H lc hP hS => ?_)
        show W p l e room_1 s m #[Value.ref b] below meth c H lc cs ss (lw_Z below #[Value.ref b] s) (F0 m 318 ls [.int r, .int r])
        refine lv_icmp_eq (tgt := 911) hx hb dL_law_318 (by decide) (fun _ => ?_) (fun hc => absurd rfl hc)
        exact hgo _ _ _ hF2 hP hS
      · refine lv_tableIn (x := nI 7) (tgt := 323) hx hb dL_law_33 (by decide) (by decide) rfl (by decide) ?_
        obtain ⟨r, F1, F2, e1, e2, hF2⟩ := hSt.2.2.2.2.2.2.2.1 F (xs (x3 + 1).toNatClampNeg) (xs (x3 + 2).toNatClampNeg) (xs (x3 + 3).toNatClampNeg) hF
        refine lv_aload_n hx hb dL_law_323 rfl (lv_at hl 1 rfl) ?_
        refine lv_aload_n hx hb dL_law_324 rfl (lv_at hl 0 rfl) ?_
        refine lv_iload_n hx hb dL_law_325 rfl (lv_at hl 3 rfl) ?_
        refine lv_iconst (v := 1) hx hb dL_law_326 (by decide) ?_
        refine lv_iadd hx hb dL_law_327 ?_
        refine va_sld hx hb hX hbl hbA hS hv1 dL_law_328 ?_
        refine lv_aload_n hx hb dL_law_329 rfl (lv_at hl 0 rfl) ?_
        refine lv_iload_n hx hb dL_law_330 rfl (lv_at hl 3 rfl) ?_
        refine lv_iconst (v := 2) hx hb dL_law_331 (by decide) ?_
        refine lv_iadd hx hb dL_law_332 ?_
        refine va_sld hx hb hX hbl hbA hS hv2 dL_law_333 ?_
        refine lv_aload_n hx hb dL_law_334 rfl (lv_at hl 0 rfl) ?_
        refine lv_iload_n hx hb dL_law_335 rfl (lv_at hl 3 rfl) ?_
        refine lv_iconst (v := 3) hx hb dL_law_336 (by decide) ?_
        refine lv_iadd hx hb dL_law_337 ?_
        refine va_sld hx hb hX hbl hbA hS hv3 dL_law_338 ?_
        refine lw_call (own := RL) (rest := []) [.int (xs (x3 + 3).toNatClampNeg), .int (xs (x3 + 2).toNatClampNeg), .int (xs (x3 + 1).toNatClampNeg), .ref (mmad k 0)] [.int (xs (x3 + 1).toNatClampNeg), .int (xs (x3 + 2).toNatClampNeg), .int (xs (x3 + 3).toNatClampNeg)] hx hb hml hown hts hK hN hI hAk hcs hss (c_X11_stands_0 e1) wb_X11_stands wv_L_44 (by decide) (mc_0 k _) rfl rfl rfl (by decide) rfl (Nat.le_of_ble_eq_true rfl) dL_law_339 hP hS hl.1 (fun H lc hP hS => ?_)
        show W p l e room_1 s m #[Value.ref b] below meth c H lc cs ss (lw_Z below #[Value.ref b] s) (F0 m 342 ls [.int r])
        refine lv_aload_n hx hb dL_law_342 rfl (lv_at hl 2 rfl) ?_
        refine lv_aload_n hx hb dL_law_343 rfl (lv_at hl 0 rfl) ?_
        refine lv_iload_n hx hb dL_law_344 rfl (lv_at hl 3 rfl) ?_
        refine lv_iconst (v := 1) hx hb dL_law_345 (by decide) ?_
        refine lv_iadd hx hb dL_law_346 ?_
        refine va_sld hx hb hX hbl hbA hS hv1 dL_law_347 ?_
        refine lv_aload_n hx hb dL_law_348 rfl (lv_at hl 0 rfl) ?_
        refine lv_iload_n hx hb dL_law_349 rfl (lv_at hl 3 rfl) ?_
        refine lv_iconst (v := 2) hx hb dL_law_350 (by decide) ?_
        refine lv_iadd hx hb dL_law_351 ?_
        refine va_sld hx hb hX hbl hbA hS hv2 dL_law_352 ?_
        refine lv_aload_n hx hb dL_law_353 rfl (lv_at hl 0 rfl) ?_
        refine lv_iload_n hx hb dL_law_354 rfl (lv_at hl 3 rfl) ?_
        refine lv_iconst (v := 3) hx hb dL_law_355 (by decide) ?_
        refine lv_iadd hx hb dL_law_356 ?_
        refine va_sld hx hb hX hbl hbA hS hv3 dL_law_357 ?_
        refine lw_call (own := RL) (rest := [.int r]) [.int (xs (x3 + 3).toNatClampNeg), .int (xs (x3 + 2).toNatClampNeg), .int (xs (x3 + 1).toNatClampNeg), .ref (mmad k 97), .int r] [.int (xs (x3 + 1).toNatClampNeg), .int (xs (x3 + 2).toNatClampNeg), .int (xs (x3 + 3).toNatClampNeg)] hx hb hml hown hts hK hN hI hAk hcs hss (c_X12_stands_97 e2) wb_X12_stands wv_L_48 (by decide) (mc_97 k _) rfl rfl rfl (by decide) rfl (Nat.le_of_ble_eq_true rfl) dL_law_358 hP hS hl.1 (fun H lc hP hS => ?_)
        show W p l e room_1 s m #[Value.ref b] below meth c H lc cs ss (lw_Z below #[Value.ref b] s) (F0 m 361 ls [.int r, .int r])
        refine lv_icmp_eq (tgt := 911) hx hb dL_law_361 (by decide) (fun _ => ?_) (fun hc => absurd rfl hc)
        exact hgo _ _ _ hF2 hP hS
      · refine lv_tableIn (x := nI 8) (tgt := 366) hx hb dL_law_33 (by decide) (by decide) rfl (by decide) ?_
        obtain ⟨r, F1, F2, e1, e2, hF2⟩ := hSt.2.2.2.2.2.2.2.2.1 F (xs (x3 + 1).toNatClampNeg) (xs (x3 + 2).toNatClampNeg) hF
        refine lv_aload_n hx hb dL_law_366 rfl (lv_at hl 1 rfl) ?_
        refine lv_aload_n hx hb dL_law_367 rfl (lv_at hl 0 rfl) ?_
        refine lv_iload_n hx hb dL_law_368 rfl (lv_at hl 3 rfl) ?_
        refine lv_iconst (v := 1) hx hb dL_law_369 (by decide) ?_
        refine lv_iadd hx hb dL_law_370 ?_
        refine va_sld hx hb hX hbl hbA hS hv1 dL_law_371 ?_
        refine lv_aload_n hx hb dL_law_372 rfl (lv_at hl 0 rfl) ?_
        refine lv_iload_n hx hb dL_law_373 rfl (lv_at hl 3 rfl) ?_
        refine lv_iconst (v := 2) hx hb dL_law_374 (by decide) ?_
        refine lv_iadd hx hb dL_law_375 ?_
        refine va_sld hx hb hX hbl hbA hS hv2 dL_law_376 ?_
        refine lw_call (own := RL) (rest := []) [.int (xs (x3 + 2).toNatClampNeg), .int (xs (x3 + 1).toNatClampNeg), .ref (mmad k 0)] [.int (xs (x3 + 1).toNatClampNeg), .int (xs (x3 + 2).toNatClampNeg)] hx hb hml hown hts hK hN hI hAk hcs hss (c_X11_goes_0 e1) wb_X11_goes wv_L_49 (by decide) (mc_0 k _) rfl rfl rfl (by decide) rfl (Nat.le_of_ble_eq_true rfl) dL_law_377 hP hS hl.1 (fun H lc hP hS => ?_)
        show W p l e room_1 s m #[Value.ref b] below meth c H lc cs ss (lw_Z below #[Value.ref b] s) (F0 m 380 ls [.int r])
        refine lv_aload_n hx hb dL_law_380 rfl (lv_at hl 2 rfl) ?_
        refine lv_aload_n hx hb dL_law_381 rfl (lv_at hl 0 rfl) ?_
        refine lv_iload_n hx hb dL_law_382 rfl (lv_at hl 3 rfl) ?_
        refine lv_iconst (v := 1) hx hb dL_law_383 (by decide) ?_
        refine lv_iadd hx hb dL_law_384 ?_
        refine va_sld hx hb hX hbl hbA hS hv1 dL_law_385 ?_
        refine lv_aload_n hx hb dL_law_386 rfl (lv_at hl 0 rfl) ?_
        refine lv_iload_n hx hb dL_law_387 rfl (lv_at hl 3 rfl) ?_
        refine lv_iconst (v := 2) hx hb dL_law_388 (by decide) ?_
        refine lv_iadd hx hb dL_law_389 ?_
        refine va_sld hx hb hX hbl hbA hS hv2 dL_law_390 ?_
        refine lw_call (own := RL) (rest := [.int r]) [.int (xs (x3 + 2).toNatClampNeg), .int (xs (x3 + 1).toNatClampNeg), .ref (mmad k 97), .int r] [.int (xs (x3 + 1).toNatClampNeg), .int (xs (x3 + 2).toNatClampNeg)] hx hb hml hown hts hK hN hI hAk hcs hss (c_X12_goes_97 e2) wb_X12_goes wv_L_52 (by decide) (mc_97 k _) rfl rfl rfl (by decide) rfl (Nat.le_of_ble_eq_true rfl) dL_law_391 hP hS hl.1 (fun H lc hP hS => ?_)
        show W p l e room_1 s m #[Value.ref b] below meth c H lc cs ss (lw_Z below #[Value.ref b] s) (F0 m 394 ls [.int r, .int r])
        refine lv_icmp_eq (tgt := 911) hx hb dL_law_394 (by decide) (fun _ => ?_) (fun hc => absurd rfl hc)
        exact hgo _ _ _ hF2 hP hS
      · refine lv_tableIn (x := nI 9) (tgt := 399) hx hb dL_law_33 (by decide) (by decide) rfl (by decide) ?_
        obtain ⟨r, F1, F2, e1, e2, hF2⟩ := hSt.2.2.2.2.2.2.2.2.2.1 F  hF
        refine lv_aload_n hx hb dL_law_399 rfl (lv_at hl 1 rfl) ?_
        refine lw_call (own := RL) (rest := []) [.ref (mmad k 0)] [] hx hb hml hown hts hK hN hI hAk hcs hss (c_X11_best_0 e1) wb_X11_best wv_L_53 (by decide) (mc_0 k _) rfl rfl rfl (by decide) rfl (Nat.le_of_ble_eq_true rfl) dL_law_400 hP hS hl.1 (fun H lc hP hS => ?_)
        show W p l e room_1 s m #[Value.ref b] below meth c H lc cs ss (lw_Z below #[Value.ref b] s) (F0 m 403 ls [.int r])
        refine lv_aload_n hx hb dL_law_403 rfl (lv_at hl 2 rfl) ?_
        refine lw_call (own := RL) (rest := [.int r]) [.ref (mmad k 97), .int r] [] hx hb hml hown hts hK hN hI hAk hcs hss (c_X12_best_97 e2) wb_X12_best wv_L_56 (by decide) (mc_97 k _) rfl rfl rfl (by decide) rfl (Nat.le_of_ble_eq_true rfl) dL_law_404 hP hS hl.1 (fun H lc hP hS => ?_)
        show W p l e room_1 s m #[Value.ref b] below meth c H lc cs ss (lw_Z below #[Value.ref b] s) (F0 m 407 ls [.int r, .int r])
        refine lv_icmp_eq (tgt := 911) hx hb dL_law_407 (by decide) (fun _ => ?_) (fun hc => absurd rfl hc)
        exact hgo _ _ _ hF2 hP hS
      · refine lv_tableIn (x := nI 10) (tgt := 412) hx hb dL_law_33 (by decide) (by decide) rfl (by decide) ?_
        obtain ⟨r, F1, F2, e1, e2, hF2⟩ := hSt.2.2.2.2.2.2.2.2.2.2.1 F (xs (x3 + 1).toNatClampNeg) hF
        refine lv_aload_n hx hb dL_law_412 rfl (lv_at hl 1 rfl) ?_
        refine lv_aload_n hx hb dL_law_413 rfl (lv_at hl 0 rfl) ?_
        refine lv_iload_n hx hb dL_law_414 rfl (lv_at hl 3 rfl) ?_
        refine lv_iconst (v := 1) hx hb dL_law_415 (by decide) ?_
        refine lv_iadd hx hb dL_law_416 ?_
        refine va_sld hx hb hX hbl hbA hS hv1 dL_law_417 ?_
        refine lw_call (own := RL) (rest := []) [.int (xs (x3 + 1).toNatClampNeg), .ref (mmad k 0)] [.int (xs (x3 + 1).toNatClampNeg)] hx hb hml hown hts hK hN hI hAk hcs hss (c_X11_way_0 e1) wb_X11_way wv_L_57 (by decide) (mc_0 k _) rfl rfl rfl (by decide) rfl (Nat.le_of_ble_eq_true rfl) dL_law_418 hP hS hl.1 (fun H lc hP hS => ?_)
        show W p l e room_1 s m #[Value.ref b] below meth c H lc cs ss (lw_Z below #[Value.ref b] s) (F0 m 421 ls [.int r])
        refine lv_aload_n hx hb dL_law_421 rfl (lv_at hl 2 rfl) ?_
        refine lv_aload_n hx hb dL_law_422 rfl (lv_at hl 0 rfl) ?_
        refine lv_iload_n hx hb dL_law_423 rfl (lv_at hl 3 rfl) ?_
        refine lv_iconst (v := 1) hx hb dL_law_424 (by decide) ?_
        refine lv_iadd hx hb dL_law_425 ?_
        refine va_sld hx hb hX hbl hbA hS hv1 dL_law_426 ?_
        refine lw_call (own := RL) (rest := [.int r]) [.int (xs (x3 + 1).toNatClampNeg), .ref (mmad k 97), .int r] [.int (xs (x3 + 1).toNatClampNeg)] hx hb hml hown hts hK hN hI hAk hcs hss (c_X12_way_97 e2) wb_X12_way wv_L_60 (by decide) (mc_97 k _) rfl rfl rfl (by decide) rfl (Nat.le_of_ble_eq_true rfl) dL_law_427 hP hS hl.1 (fun H lc hP hS => ?_)
        show W p l e room_1 s m #[Value.ref b] below meth c H lc cs ss (lw_Z below #[Value.ref b] s) (F0 m 430 ls [.int r, .int r])
        refine lv_icmp_eq (tgt := 911) hx hb dL_law_430 (by decide) (fun _ => ?_) (fun hc => absurd rfl hc)
        exact hgo _ _ _ hF2 hP hS
      · refine lv_tableIn (x := nI 11) (tgt := 435) hx hb dL_law_33 (by decide) (by decide) rfl (by decide) ?_
        obtain ⟨r, F1, F2, e1, e2, hF2⟩ := hSt.2.2.2.2.2.2.2.2.2.2.2.1 F (xs (x3 + 1).toNatClampNeg) hF
        refine lv_aload_n hx hb dL_law_435 rfl (lv_at hl 1 rfl) ?_
        refine lv_aload_n hx hb dL_law_436 rfl (lv_at hl 0 rfl) ?_
        refine lv_iload_n hx hb dL_law_437 rfl (lv_at hl 3 rfl) ?_
        refine lv_iconst (v := 1) hx hb dL_law_438 (by decide) ?_
        refine lv_iadd hx hb dL_law_439 ?_
        refine va_sld hx hb hX hbl hbA hS hv1 dL_law_440 ?_
        refine lw_call (own := RL) (rest := []) [.int (xs (x3 + 1).toNatClampNeg), .ref (mmad k 0)] [.int (xs (x3 + 1).toNatClampNeg)] hx hb hml hown hts hK hN hI hAk hcs hss (c_X11_share_0 e1) wb_X11_share wv_L_61 (by decide) (mc_0 k _) rfl rfl rfl (by decide) rfl (Nat.le_of_ble_eq_true rfl) dL_law_441 hP hS hl.1 (fun H lc hP hS => ?_)
        show W p l e room_1 s m #[Value.ref b] below meth c H lc cs ss (lw_Z below #[Value.ref b] s) (F0 m 444 ls [.int r])
        refine lv_aload_n hx hb dL_law_444 rfl (lv_at hl 2 rfl) ?_
        refine lv_aload_n hx hb dL_law_445 rfl (lv_at hl 0 rfl) ?_
        refine lv_iload_n hx hb dL_law_446 rfl (lv_at hl 3 rfl) ?_
        refine lv_iconst (v := 1) hx hb dL_law_447 (by decide) ?_
        refine lv_iadd hx hb dL_law_448 ?_
        refine va_sld hx hb hX hbl hbA hS hv1 dL_law_449 ?_
        refine lw_call (own := RL) (rest := [.int r]) [.int (xs (x3 + 1).toNatClampNeg), .ref (mmad k 97), .int r] [.int (xs (x3 + 1).toNatClampNeg)] hx hb hml hown hts hK hN hI hAk hcs hss (c_X12_share_97 e2) wb_X12_share wv_L_64 (by decide) (mc_97 k _) rfl rfl rfl (by decide) rfl (Nat.le_of_ble_eq_true rfl) dL_law_450 hP hS hl.1 (fun H lc hP hS => ?_)
        show W p l e room_1 s m #[Value.ref b] below meth c H lc cs ss (lw_Z below #[Value.ref b] s) (F0 m 453 ls [.int r, .int r])
        refine lv_icmp_eq (tgt := 911) hx hb dL_law_453 (by decide) (fun _ => ?_) (fun hc => absurd rfl hc)
        exact hgo _ _ _ hF2 hP hS
      · refine lv_tableIn (x := nI 12) (tgt := 458) hx hb dL_law_33 (by decide) (by decide) rfl (by decide) ?_
        obtain ⟨r, F1, F2, e1, e2, hF2⟩ := hSt.2.2.2.2.2.2.2.2.2.2.2.2.1 F (xs (x3 + 1).toNatClampNeg) (xs (x3 + 2).toNatClampNeg) (xs (x3 + 3).toNatClampNeg) (xs (x3 + 4).toNatClampNeg) hF
        refine lv_aload_n hx hb dL_law_458 rfl (lv_at hl 1 rfl) ?_
        refine lv_aload_n hx hb dL_law_459 rfl (lv_at hl 0 rfl) ?_
        refine lv_iload_n hx hb dL_law_460 rfl (lv_at hl 3 rfl) ?_
        refine lv_iconst (v := 1) hx hb dL_law_461 (by decide) ?_
        refine lv_iadd hx hb dL_law_462 ?_
        refine va_sld hx hb hX hbl hbA hS hv1 dL_law_463 ?_
        refine lv_aload_n hx hb dL_law_464 rfl (lv_at hl 0 rfl) ?_
        refine lv_iload_n hx hb dL_law_465 rfl (lv_at hl 3 rfl) ?_
        refine lv_iconst (v := 2) hx hb dL_law_466 (by decide) ?_
        refine lv_iadd hx hb dL_law_467 ?_
        refine va_sld hx hb hX hbl hbA hS hv2 dL_law_468 ?_
        refine lv_aload_n hx hb dL_law_469 rfl (lv_at hl 0 rfl) ?_
        refine lv_iload_n hx hb dL_law_470 rfl (lv_at hl 3 rfl) ?_
        refine lv_iconst (v := 3) hx hb dL_law_471 (by decide) ?_
        refine lv_iadd hx hb dL_law_472 ?_
        refine va_sld hx hb hX hbl hbA hS hv3 dL_law_473 ?_
        refine lv_aload_n hx hb dL_law_474 rfl (lv_at hl 0 rfl) ?_
        refine lv_iload_n hx hb dL_law_475 rfl (lv_at hl 3 rfl) ?_
        refine lv_iconst (v := 4) hx hb dL_law_476 (by decide) ?_
        refine lv_iadd hx hb dL_law_477 ?_
        refine va_sld hx hb hX hbl hbA hS hv4 dL_law_478 ?_
        refine lw_call (own := RL) (rest := []) [.int (xs (x3 + 4).toNatClampNeg), .int (xs (x3 + 3).toNatClampNeg), .int (xs (x3 + 2).toNatClampNeg), .int (xs (x3 + 1).toNatClampNeg), .ref (mmad k 0)] [.int (xs (x3 + 1).toNatClampNeg), .int (xs (x3 + 2).toNatClampNeg), .int (xs (x3 + 3).toNatClampNeg), .int (xs (x3 + 4).toNatClampNeg)] hx hb hml hown hts hK hN hI hAk hcs hss (c_X11_work_0 e1) wb_X11_work wv_L_65 (by decide) (mc_0 k _) rfl rfl rfl (by decide) rfl (Nat.le_of_ble_eq_true rfl) dL_law_479 hP hS hl.1 (fun H lc hP hS => ?_)
        show W p l e room_1 s m #[Value.ref b] below meth c H lc cs ss (lw_Z below #[Value.ref b] s) (F0 m 482 ls [.int r])
        refine lv_aload_n hx hb dL_law_482 rfl (lv_at hl 2 rfl) ?_
        refine lv_aload_n hx hb dL_law_483 rfl (lv_at hl 0 rfl) ?_
        refine lv_iload_n hx hb dL_law_484 rfl (lv_at hl 3 rfl) ?_
        refine lv_iconst (v := 1) hx hb dL_law_485 (by decide) ?_
        refine lv_iadd hx hb dL_law_486 ?_
        refine va_sld hx hb hX hbl hbA hS hv1 dL_law_487 ?_
        refine lv_aload_n hx hb dL_law_488 rfl (lv_at hl 0 rfl) ?_
        refine lv_iload_n hx hb dL_law_489 rfl (lv_at hl 3 rfl) ?_
        refine lv_iconst (v := 2) hx hb dL_law_490 (by decide) ?_
        refine lv_iadd hx hb dL_law_491 ?_
        refine va_sld hx hb hX hbl hbA hS hv2 dL_law_492 ?_
        refine lv_aload_n hx hb dL_law_493 rfl (lv_at hl 0 rfl) ?_
        refine lv_iload_n hx hb dL_law_494 rfl (lv_at hl 3 rfl) ?_
        refine lv_iconst (v := 3) hx hb dL_law_495 (by decide) ?_
        refine lv_iadd hx hb dL_law_496 ?_
        refine va_sld hx hb hX hbl hbA hS hv3 dL_law_497 ?_
        refine lv_aload_n hx hb dL_law_498 rfl (lv_at hl 0 rfl) ?_
        refine lv_iload_n hx hb dL_law_499 rfl (lv_at hl 3 rfl) ?_
        refine lv_iconst (v := 4) hx hb dL_law_500 (by decide) ?_
        refine lv_iadd hx hb dL_law_501 ?_
        refine va_sld hx hb hX hbl hbA hS hv4 dL_law_502 ?_
        refine lw_call (own := RL) (rest := [.int r]) [.int (xs (x3 + 4).toNatClampNeg), .int (xs (x3 + 3).toNatClampNeg), .int (xs (x3 + 2).toNatClampNeg), .int (xs (x3 + 1).toNatClampNeg), .ref (mmad k 97), .int r] [.int (xs (x3 + 1).toNatClampNeg), .int (xs (x3 + 2).toNatClampNeg), .int (xs (x3 + 3).toNatClampNeg), .int (xs (x3 + 4).toNatClampNeg)] hx hb hml hown hts hK hN hI hAk hcs hss (c_X12_work_97 e2) wb_X12_work wv_L_69 (by decide) (mc_97 k _) rfl rfl rfl (by decide) rfl (Nat.le_of_ble_eq_true rfl) dL_law_503 hP hS hl.1 (fun H lc hP hS => ?_)
        show W p l e room_1 s m #[Value.ref b] below meth c H lc cs ss (lw_Z below #[Value.ref b] s) (F0 m 506 ls [.int r, .int r])
        refine lv_icmp_eq (tgt := 911) hx hb dL_law_506 (by decide) (fun _ => ?_) (fun hc => absurd rfl hc)
        exact hgo _ _ _ hF2 hP hS
      · refine lv_tableIn (x := nI 13) (tgt := 511) hx hb dL_law_33 (by decide) (by decide) rfl (by decide) ?_
        obtain ⟨r, F1, F2, e1, e2, hF2⟩ := hSt.2.2.2.2.2.2.2.2.2.2.2.2.2.1 F (xs (x3 + 1).toNatClampNeg) hF
        refine lv_aload_n hx hb dL_law_511 rfl (lv_at hl 1 rfl) ?_
        refine lv_aload_n hx hb dL_law_512 rfl (lv_at hl 0 rfl) ?_
        refine lv_iload_n hx hb dL_law_513 rfl (lv_at hl 3 rfl) ?_
        refine lv_iconst (v := 1) hx hb dL_law_514 (by decide) ?_
        refine lv_iadd hx hb dL_law_515 ?_
        refine va_sld hx hb hX hbl hbA hS hv1 dL_law_516 ?_
        refine lw_call (own := RL) (rest := []) [.int (xs (x3 + 1).toNatClampNeg), .ref (mmad k 0)] [.int (xs (x3 + 1).toNatClampNeg)] hx hb hml hown hts hK hN hI hAk hcs hss (c_X11_trusts_0 e1) wb_X11_trusts wv_L_70 (by decide) (mc_0 k _) rfl rfl rfl (by decide) rfl (Nat.le_of_ble_eq_true rfl) dL_law_517 hP hS hl.1 (fun H lc hP hS => ?_)
        show W p l e room_1 s m #[Value.ref b] below meth c H lc cs ss (lw_Z below #[Value.ref b] s) (F0 m 520 ls [.int r])
        refine lv_aload_n hx hb dL_law_520 rfl (lv_at hl 2 rfl) ?_
        refine lv_aload_n hx hb dL_law_521 rfl (lv_at hl 0 rfl) ?_
        refine lv_iload_n hx hb dL_law_522 rfl (lv_at hl 3 rfl) ?_
        refine lv_iconst (v := 1) hx hb dL_law_523 (by decide) ?_
        refine lv_iadd hx hb dL_law_524 ?_
        refine va_sld hx hb hX hbl hbA hS hv1 dL_law_525 ?_
        refine lw_call (own := RL) (rest := [.int r]) [.int (xs (x3 + 1).toNatClampNeg), .ref (mmad k 97), .int r] [.int (xs (x3 + 1).toNatClampNeg)] hx hb hml hown hts hK hN hI hAk hcs hss (c_X12_trusts_97 e2) wb_X12_trusts wv_L_73 (by decide) (mc_97 k _) rfl rfl rfl (by decide) rfl (Nat.le_of_ble_eq_true rfl) dL_law_526 hP hS hl.1 (fun H lc hP hS => ?_)
        show W p l e room_1 s m #[Value.ref b] below meth c H lc cs ss (lw_Z below #[Value.ref b] s) (F0 m 529 ls [.int r, .int r])
        refine lv_icmp_eq (tgt := 911) hx hb dL_law_529 (by decide) (fun _ => ?_) (fun hc => absurd rfl hc)
        exact hgo _ _ _ hF2 hP hS
      · refine lv_tableIn (x := nI 14) (tgt := 534) hx hb dL_law_33 (by decide) (by decide) rfl (by decide) ?_
        obtain ⟨r, F1, F2, e1, e2, hF2⟩ := hSt.2.2.2.2.2.2.2.2.2.2.2.2.2.2.1 F (xs (x3 + 1).toNatClampNeg) (xs (x3 + 2).toNatClampNeg) hF
        refine lv_aload_n hx hb dL_law_534 rfl (lv_at hl 1 rfl) ?_
        refine lv_aload_n hx hb dL_law_535 rfl (lv_at hl 0 rfl) ?_
        refine lv_iload_n hx hb dL_law_536 rfl (lv_at hl 3 rfl) ?_
        refine lv_iconst (v := 1) hx hb dL_law_537 (by decide) ?_
        refine lv_iadd hx hb dL_law_538 ?_
        refine va_sld hx hb hX hbl hbA hS hv1 dL_law_539 ?_
        refine lv_aload_n hx hb dL_law_540 rfl (lv_at hl 0 rfl) ?_
        refine lv_iload_n hx hb dL_law_541 rfl (lv_at hl 3 rfl) ?_
        refine lv_iconst (v := 2) hx hb dL_law_542 (by decide) ?_
        refine lv_iadd hx hb dL_law_543 ?_
        refine va_sld hx hb hX hbl hbA hS hv2 dL_law_544 ?_
        refine lw_call (own := RL) (rest := []) [.int (xs (x3 + 2).toNatClampNeg), .int (xs (x3 + 1).toNatClampNeg), .ref (mmad k 0)] [.int (xs (x3 + 1).toNatClampNeg), .int (xs (x3 + 2).toNatClampNeg)] hx hb hml hown hts hK hN hI hAk hcs hss (c_X11_worst_0 e1) wb_X11_worst wv_L_74 (by decide) (mc_0 k _) rfl rfl rfl (by decide) rfl (Nat.le_of_ble_eq_true rfl) dL_law_545 hP hS hl.1 (fun H lc hP hS => ?_)
        show W p l e room_1 s m #[Value.ref b] below meth c H lc cs ss (lw_Z below #[Value.ref b] s) (F0 m 548 ls [.int r])
        refine lv_aload_n hx hb dL_law_548 rfl (lv_at hl 2 rfl) ?_
        refine lv_aload_n hx hb dL_law_549 rfl (lv_at hl 0 rfl) ?_
        refine lv_iload_n hx hb dL_law_550 rfl (lv_at hl 3 rfl) ?_
        refine lv_iconst (v := 1) hx hb dL_law_551 (by decide) ?_
        refine lv_iadd hx hb dL_law_552 ?_
        refine va_sld hx hb hX hbl hbA hS hv1 dL_law_553 ?_
        refine lv_aload_n hx hb dL_law_554 rfl (lv_at hl 0 rfl) ?_
        refine lv_iload_n hx hb dL_law_555 rfl (lv_at hl 3 rfl) ?_
        refine lv_iconst (v := 2) hx hb dL_law_556 (by decide) ?_
        refine lv_iadd hx hb dL_law_557 ?_
        refine va_sld hx hb hX hbl hbA hS hv2 dL_law_558 ?_
        refine lw_call (own := RL) (rest := [.int r]) [.int (xs (x3 + 2).toNatClampNeg), .int (xs (x3 + 1).toNatClampNeg), .ref (mmad k 97), .int r] [.int (xs (x3 + 1).toNatClampNeg), .int (xs (x3 + 2).toNatClampNeg)] hx hb hml hown hts hK hN hI hAk hcs hss (c_X12_worst_97 e2) wb_X12_worst wv_L_77 (by decide) (mc_97 k _) rfl rfl rfl (by decide) rfl (Nat.le_of_ble_eq_true rfl) dL_law_559 hP hS hl.1 (fun H lc hP hS => ?_)
        show W p l e room_1 s m #[Value.ref b] below meth c H lc cs ss (lw_Z below #[Value.ref b] s) (F0 m 562 ls [.int r, .int r])
        refine lv_icmp_eq (tgt := 911) hx hb dL_law_562 (by decide) (fun _ => ?_) (fun hc => absurd rfl hc)
        exact hgo _ _ _ hF2 hP hS
      · refine lv_tableIn (x := nI 15) (tgt := 567) hx hb dL_law_33 (by decide) (by decide) rfl (by decide) ?_
        obtain ⟨r, F1, F2, e1, e2, hF2⟩ := hSt.2.2.2.2.2.2.2.2.2.2.2.2.2.2.2.1 F (xs (x3 + 1).toNatClampNeg) (xs (x3 + 2).toNatClampNeg) hF
        refine lv_aload_n hx hb dL_law_567 rfl (lv_at hl 1 rfl) ?_
        refine lv_aload_n hx hb dL_law_568 rfl (lv_at hl 0 rfl) ?_
        refine lv_iload_n hx hb dL_law_569 rfl (lv_at hl 3 rfl) ?_
        refine lv_iconst (v := 1) hx hb dL_law_570 (by decide) ?_
        refine lv_iadd hx hb dL_law_571 ?_
        refine va_sld hx hb hX hbl hbA hS hv1 dL_law_572 ?_
        refine lv_aload_n hx hb dL_law_573 rfl (lv_at hl 0 rfl) ?_
        refine lv_iload_n hx hb dL_law_574 rfl (lv_at hl 3 rfl) ?_
        refine lv_iconst (v := 2) hx hb dL_law_575 (by decide) ?_
        refine lv_iadd hx hb dL_law_576 ?_
        refine va_sld hx hb hX hbl hbA hS hv2 dL_law_577 ?_
        refine lw_call (own := RL) (rest := []) [.int (xs (x3 + 2).toNatClampNeg), .int (xs (x3 + 1).toNatClampNeg), .ref (mmad k 0)] [.int (xs (x3 + 1).toNatClampNeg), .int (xs (x3 + 2).toNatClampNeg)] hx hb hml hown hts hK hN hI hAk hcs hss (c_X11_worstShare_0 e1) wb_X11_worstShare wv_L_78 (by decide) (mc_0 k _) rfl rfl rfl (by decide) rfl (Nat.le_of_ble_eq_true rfl) dL_law_578 hP hS hl.1 (fun H lc hP hS => ?_)
        show W p l e room_1 s m #[Value.ref b] below meth c H lc cs ss (lw_Z below #[Value.ref b] s) (F0 m 581 ls [.int r])
        refine lv_aload_n hx hb dL_law_581 rfl (lv_at hl 2 rfl) ?_
        refine lv_aload_n hx hb dL_law_582 rfl (lv_at hl 0 rfl) ?_
        refine lv_iload_n hx hb dL_law_583 rfl (lv_at hl 3 rfl) ?_
        refine lv_iconst (v := 1) hx hb dL_law_584 (by decide) ?_
        refine lv_iadd hx hb dL_law_585 ?_
        refine va_sld hx hb hX hbl hbA hS hv1 dL_law_586 ?_
        refine lv_aload_n hx hb dL_law_587 rfl (lv_at hl 0 rfl) ?_
        refine lv_iload_n hx hb dL_law_588 rfl (lv_at hl 3 rfl) ?_
        refine lv_iconst (v := 2) hx hb dL_law_589 (by decide) ?_
        refine lv_iadd hx hb dL_law_590 ?_
        refine va_sld hx hb hX hbl hbA hS hv2 dL_law_591 ?_
        refine lw_call (own := RL) (rest := [.int r]) [.int (xs (x3 + 2).toNatClampNeg), .int (xs (x3 + 1).toNatClampNeg), .ref (mmad k 97), .int r] [.int (xs (x3 + 1).toNatClampNeg), .int (xs (x3 + 2).toNatClampNeg)] hx hb hml hown hts hK hN hI hAk hcs hss (c_X12_worstShare_97 e2) wb_X12_worstShare wv_L_81 (by decide) (mc_97 k _) rfl rfl rfl (by decide) rfl (Nat.le_of_ble_eq_true rfl) dL_law_592 hP hS hl.1 (fun H lc hP hS => ?_)
        show W p l e room_1 s m #[Value.ref b] below meth c H lc cs ss (lw_Z below #[Value.ref b] s) (F0 m 595 ls [.int r, .int r])
        refine lv_icmp_eq (tgt := 911) hx hb dL_law_595 (by decide) (fun _ => ?_) (fun hc => absurd rfl hc)
        exact hgo _ _ _ hF2 hP hS
      · refine lv_tableIn (x := nI 16) (tgt := 600) hx hb dL_law_33 (by decide) (by decide) rfl (by decide) ?_
        obtain ⟨r, F1, F2, e1, e2, hF2⟩ := hSt.2.2.2.2.2.2.2.2.2.2.2.2.2.2.2.2.1 F (xs (x3 + 1).toNatClampNeg) hF
        refine lv_aload_n hx hb dL_law_600 rfl (lv_at hl 1 rfl) ?_
        refine lv_aload_n hx hb dL_law_601 rfl (lv_at hl 0 rfl) ?_
        refine lv_iload_n hx hb dL_law_602 rfl (lv_at hl 3 rfl) ?_
        refine lv_iconst (v := 1) hx hb dL_law_603 (by decide) ?_
        refine lv_iadd hx hb dL_law_604 ?_
        refine va_sld hx hb hX hbl hbA hS hv1 dL_law_605 ?_
        refine lw_call (own := RL) (rest := []) [.int (xs (x3 + 1).toNatClampNeg), .ref (mmad k 0)] [.int (xs (x3 + 1).toNatClampNeg)] hx hb hml hown hts hK hN hI hAk hcs hss (c_X11_longing_0 e1) wb_X11_longing wv_L_82 (by decide) (mc_0 k _) rfl rfl rfl (by decide) rfl (Nat.le_of_ble_eq_true rfl) dL_law_606 hP hS hl.1 (fun H lc hP hS => ?_)
        show W p l e room_1 s m #[Value.ref b] below meth c H lc cs ss (lw_Z below #[Value.ref b] s) (F0 m 609 ls [.int r])
        refine lv_aload_n hx hb dL_law_609 rfl (lv_at hl 2 rfl) ?_
        refine lv_aload_n hx hb dL_law_610 rfl (lv_at hl 0 rfl) ?_
        refine lv_iload_n hx hb dL_law_611 rfl (lv_at hl 3 rfl) ?_
        refine lv_iconst (v := 1) hx hb dL_law_612 (by decide) ?_
        refine lv_iadd hx hb dL_law_613 ?_
        refine va_sld hx hb hX hbl hbA hS hv1 dL_law_614 ?_
        refine lw_call (own := RL) (rest := [.int r]) [.int (xs (x3 + 1).toNatClampNeg), .ref (mmad k 97), .int r] [.int (xs (x3 + 1).toNatClampNeg)] hx hb hml hown hts hK hN hI hAk hcs hss (c_X12_longing_97 e2) wb_X12_longing wv_L_85 (by decide) (mc_97 k _) rfl rfl rfl (by decide) rfl (Nat.le_of_ble_eq_true rfl) dL_law_615 hP hS hl.1 (fun H lc hP hS => ?_)
        show W p l e room_1 s m #[Value.ref b] below meth c H lc cs ss (lw_Z below #[Value.ref b] s) (F0 m 618 ls [.int r, .int r])
        refine lv_icmp_eq (tgt := 911) hx hb dL_law_618 (by decide) (fun _ => ?_) (fun hc => absurd rfl hc)
        exact hgo _ _ _ hF2 hP hS
      · refine lv_tableIn (x := nI 17) (tgt := 623) hx hb dL_law_33 (by decide) (by decide) rfl (by decide) ?_
        obtain ⟨r, F1, F2, e1, e2, hF2⟩ := hSt.2.2.2.2.2.2.2.2.2.2.2.2.2.2.2.2.2.1 F  hF
        refine lv_aload_n hx hb dL_law_623 rfl (lv_at hl 1 rfl) ?_
        refine lw_call (own := RL) (rest := []) [.ref (mmad k 0)] [] hx hb hml hown hts hK hN hI hAk hcs hss (c_X11_pays_0 e1) wb_X11_pays wv_L_86 (by decide) (mc_0 k _) rfl rfl rfl (by decide) rfl (Nat.le_of_ble_eq_true rfl) dL_law_624 hP hS hl.1 (fun H lc hP hS => ?_)
        show W p l e room_1 s m #[Value.ref b] below meth c H lc cs ss (lw_Z below #[Value.ref b] s) (F0 m 627 ls [.int r])
        refine lv_aload_n hx hb dL_law_627 rfl (lv_at hl 2 rfl) ?_
        refine lw_call (own := RL) (rest := [.int r]) [.ref (mmad k 97), .int r] [] hx hb hml hown hts hK hN hI hAk hcs hss (c_X12_pays_97 e2) wb_X12_pays wv_L_89 (by decide) (mc_97 k _) rfl rfl rfl (by decide) rfl (Nat.le_of_ble_eq_true rfl) dL_law_628 hP hS hl.1 (fun H lc hP hS => ?_)
        show W p l e room_1 s m #[Value.ref b] below meth c H lc cs ss (lw_Z below #[Value.ref b] s) (F0 m 631 ls [.int r, .int r])
        refine lv_icmp_eq (tgt := 911) hx hb dL_law_631 (by decide) (fun _ => ?_) (fun hc => absurd rfl hc)
        exact hgo _ _ _ hF2 hP hS
      · refine lv_tableIn (x := nI 18) (tgt := 636) hx hb dL_law_33 (by decide) (by decide) rfl (by decide) ?_
        obtain ⟨r, F1, F2, e1, e2, hF2⟩ := hSt.2.2.2.2.2.2.2.2.2.2.2.2.2.2.2.2.2.2.1 F (xs (x3 + 1).toNatClampNeg) (xs (x3 + 2).toNatClampNeg) (xs (x3 + 3).toNatClampNeg) hF
        refine lv_aload_n hx hb dL_law_636 rfl (lv_at hl 1 rfl) ?_
        refine lv_aload_n hx hb dL_law_637 rfl (lv_at hl 0 rfl) ?_
        refine lv_iload_n hx hb dL_law_638 rfl (lv_at hl 3 rfl) ?_
        refine lv_iconst (v := 1) hx hb dL_law_639 (by decide) ?_
        refine lv_iadd hx hb dL_law_640 ?_
        refine va_sld hx hb hX hbl hbA hS hv1 dL_law_641 ?_
        refine lv_aload_n hx hb dL_law_642 rfl (lv_at hl 0 rfl) ?_
        refine lv_iload_n hx hb dL_law_643 rfl (lv_at hl 3 rfl) ?_
        refine lv_iconst (v := 2) hx hb dL_law_644 (by decide) ?_
        refine lv_iadd hx hb dL_law_645 ?_
        refine va_sld hx hb hX hbl hbA hS hv2 dL_law_646 ?_
        refine lv_aload_n hx hb dL_law_647 rfl (lv_at hl 0 rfl) ?_
        refine lv_iload_n hx hb dL_law_648 rfl (lv_at hl 3 rfl) ?_
        refine lv_iconst (v := 3) hx hb dL_law_649 (by decide) ?_
        refine lv_iadd hx hb dL_law_650 ?_
        refine va_sld hx hb hX hbl hbA hS hv3 dL_law_651 ?_
        refine lw_call (own := RL) (rest := []) [.int (xs (x3 + 3).toNatClampNeg), .int (xs (x3 + 2).toNatClampNeg), .int (xs (x3 + 1).toNatClampNeg), .ref (mmad k 0)] [.int (xs (x3 + 1).toNatClampNeg), .int (xs (x3 + 2).toNatClampNeg), .int (xs (x3 + 3).toNatClampNeg)] hx hb hml hown hts hK hN hI hAk hcs hss (c_X11_sheet_0 e1) wb_X11_sheet wv_L_90 (by decide) (mc_0 k _) rfl rfl rfl (by decide) rfl (Nat.le_of_ble_eq_true rfl) dL_law_652 hP hS hl.1 (fun H lc hP hS => ?_)
        show W p l e room_1 s m #[Value.ref b] below meth c H lc cs ss (lw_Z below #[Value.ref b] s) (F0 m 655 ls [.int r])
        refine lv_aload_n hx hb dL_law_655 rfl (lv_at hl 2 rfl) ?_
        refine lv_aload_n hx hb dL_law_656 rfl (lv_at hl 0 rfl) ?_
        refine lv_iload_n hx hb dL_law_657 rfl (lv_at hl 3 rfl) ?_
        refine lv_iconst (v := 1) hx hb dL_law_658 (by decide) ?_
        refine lv_iadd hx hb dL_law_659 ?_
        refine va_sld hx hb hX hbl hbA hS hv1 dL_law_660 ?_
        refine lv_aload_n hx hb dL_law_661 rfl (lv_at hl 0 rfl) ?_
        refine lv_iload_n hx hb dL_law_662 rfl (lv_at hl 3 rfl) ?_
        refine lv_iconst (v := 2) hx hb dL_law_663 (by decide) ?_
        refine lv_iadd hx hb dL_law_664 ?_
        refine va_sld hx hb hX hbl hbA hS hv2 dL_law_665 ?_
        refine lv_aload_n hx hb dL_law_666 rfl (lv_at hl 0 rfl) ?_
        refine lv_iload_n hx hb dL_law_667 rfl (lv_at hl 3 rfl) ?_
        refine lv_iconst (v := 3) hx hb dL_law_668 (by decide) ?_
        refine lv_iadd hx hb dL_law_669 ?_
        refine va_sld hx hb hX hbl hbA hS hv3 dL_law_670 ?_
        refine lw_call (own := RL) (rest := [.int r]) [.int (xs (x3 + 3).toNatClampNeg), .int (xs (x3 + 2).toNatClampNeg), .int (xs (x3 + 1).toNatClampNeg), .ref (mmad k 97), .int r] [.int (xs (x3 + 1).toNatClampNeg), .int (xs (x3 + 2).toNatClampNeg), .int (xs (x3 + 3).toNatClampNeg)] hx hb hml hown hts hK hN hI hAk hcs hss (c_X12_sheet_97 e2) wb_X12_sheet wv_L_93 (by decide) (mc_97 k _) rfl rfl rfl (by decide) rfl (Nat.le_of_ble_eq_true rfl) dL_law_671 hP hS hl.1 (fun H lc hP hS => ?_)
        show W p l e room_1 s m #[Value.ref b] below meth c H lc cs ss (lw_Z below #[Value.ref b] s) (F0 m 674 ls [.int r, .int r])
        refine lv_icmp_eq (tgt := 911) hx hb dL_law_674 (by decide) (fun _ => ?_) (fun hc => absurd rfl hc)
        exact hgo _ _ _ hF2 hP hS
      · refine lv_tableIn (x := nI 19) (tgt := 679) hx hb dL_law_33 (by decide) (by decide) rfl (by decide) ?_
        obtain ⟨r, F1, F2, e1, e2, hF2⟩ := hSt.2.2.2.2.2.2.2.2.2.2.2.2.2.2.2.2.2.2.2.1 F (xs (x3 + 1).toNatClampNeg) hF
        refine lv_aload_n hx hb dL_law_679 rfl (lv_at hl 1 rfl) ?_
        refine lv_aload_n hx hb dL_law_680 rfl (lv_at hl 0 rfl) ?_
        refine lv_iload_n hx hb dL_law_681 rfl (lv_at hl 3 rfl) ?_
        refine lv_iconst (v := 1) hx hb dL_law_682 (by decide) ?_
        refine lv_iadd hx hb dL_law_683 ?_
        refine va_sld hx hb hX hbl hbA hS hv1 dL_law_684 ?_
        refine lw_call (own := RL) (rest := []) [.int (xs (x3 + 1).toNatClampNeg), .ref (mmad k 0)] [.int (xs (x3 + 1).toNatClampNeg)] hx hb hml hown hts hK hN hI hAk hcs hss (c_X11_lose_0 e1) wb_X11_lose wv_L_94 (by decide) (mc_0 k _) rfl rfl rfl (by decide) rfl (Nat.le_of_ble_eq_true rfl) dL_law_685 hP hS hl.1 (fun H lc hP hS => ?_)
        show W p l e room_1 s m #[Value.ref b] below meth c H lc cs ss (lw_Z below #[Value.ref b] s) (F0 m 688 ls [.int r])
        refine lv_aload_n hx hb dL_law_688 rfl (lv_at hl 2 rfl) ?_
        refine lv_aload_n hx hb dL_law_689 rfl (lv_at hl 0 rfl) ?_
        refine lv_iload_n hx hb dL_law_690 rfl (lv_at hl 3 rfl) ?_
        refine lv_iconst (v := 1) hx hb dL_law_691 (by decide) ?_
        refine lv_iadd hx hb dL_law_692 ?_
        refine va_sld hx hb hX hbl hbA hS hv1 dL_law_693 ?_
        refine lw_call (own := RL) (rest := [.int r]) [.int (xs (x3 + 1).toNatClampNeg), .ref (mmad k 97), .int r] [.int (xs (x3 + 1).toNatClampNeg)] hx hb hml hown hts hK hN hI hAk hcs hss (c_X12_lose_97 e2) wb_X12_lose wv_L_97 (by decide) (mc_97 k _) rfl rfl rfl (by decide) rfl (Nat.le_of_ble_eq_true rfl) dL_law_694 hP hS hl.1 (fun H lc hP hS => ?_)
        show W p l e room_1 s m #[Value.ref b] below meth c H lc cs ss (lw_Z below #[Value.ref b] s) (F0 m 697 ls [.int r, .int r])
        refine lv_icmp_eq (tgt := 911) hx hb dL_law_697 (by decide) (fun _ => ?_) (fun hc => absurd rfl hc)
        exact hgo _ _ _ hF2 hP hS
      · refine lv_tableIn (x := nI 20) (tgt := 702) hx hb dL_law_33 (by decide) (by decide) rfl (by decide) ?_
        obtain ⟨r, F1, F2, e1, e2, hF2⟩ := hSt.2.2.2.2.2.2.2.2.2.2.2.2.2.2.2.2.2.2.2.2.1 F (xs (x3 + 1).toNatClampNeg) (xs (x3 + 2).toNatClampNeg) (xs (x3 + 3).toNatClampNeg) (xs (x3 + 4).toNatClampNeg) hF
        refine lv_aload_n hx hb dL_law_702 rfl (lv_at hl 1 rfl) ?_
        refine lv_aload_n hx hb dL_law_703 rfl (lv_at hl 0 rfl) ?_
        refine lv_iload_n hx hb dL_law_704 rfl (lv_at hl 3 rfl) ?_
        refine lv_iconst (v := 1) hx hb dL_law_705 (by decide) ?_
        refine lv_iadd hx hb dL_law_706 ?_
        refine va_sld hx hb hX hbl hbA hS hv1 dL_law_707 ?_
        refine lv_aload_n hx hb dL_law_708 rfl (lv_at hl 0 rfl) ?_
        refine lv_iload_n hx hb dL_law_709 rfl (lv_at hl 3 rfl) ?_
        refine lv_iconst (v := 2) hx hb dL_law_710 (by decide) ?_
        refine lv_iadd hx hb dL_law_711 ?_
        refine va_sld hx hb hX hbl hbA hS hv2 dL_law_712 ?_
        refine lv_aload_n hx hb dL_law_713 rfl (lv_at hl 0 rfl) ?_
        refine lv_iload_n hx hb dL_law_714 rfl (lv_at hl 3 rfl) ?_
        refine lv_iconst (v := 3) hx hb dL_law_715 (by decide) ?_
        refine lv_iadd hx hb dL_law_716 ?_
        refine va_sld hx hb hX hbl hbA hS hv3 dL_law_717 ?_
        refine lv_aload_n hx hb dL_law_718 rfl (lv_at hl 0 rfl) ?_
        refine lv_iload_n hx hb dL_law_719 rfl (lv_at hl 3 rfl) ?_
        refine lv_iconst (v := 4) hx hb dL_law_720 (by decide) ?_
        refine lv_iadd hx hb dL_law_721 ?_
        refine va_sld hx hb hX hbl hbA hS hv4 dL_law_722 ?_
        refine lw_call (own := RL) (rest := []) [.int (xs (x3 + 4).toNatClampNeg), .int (xs (x3 + 3).toNatClampNeg), .int (xs (x3 + 2).toNatClampNeg), .int (xs (x3 + 1).toNatClampNeg), .ref (mmad k 0)] [.int (xs (x3 + 1).toNatClampNeg), .int (xs (x3 + 2).toNatClampNeg), .int (xs (x3 + 3).toNatClampNeg), .int (xs (x3 + 4).toNatClampNeg)] hx hb hml hown hts hK hN hI hAk hcs hss (c_X11_put_0 e1) wb_X11_put wv_L_98 (by decide) (mc_0 k _) rfl rfl rfl (by decide) rfl (Nat.le_of_ble_eq_true rfl) dL_law_723 hP hS hl.1 (fun H lc hP hS => ?_)
        show W p l e room_1 s m #[Value.ref b] below meth c H lc cs ss (lw_Z below #[Value.ref b] s) (F0 m 726 ls [.int r])
        refine lv_aload_n hx hb dL_law_726 rfl (lv_at hl 2 rfl) ?_
        refine lv_aload_n hx hb dL_law_727 rfl (lv_at hl 0 rfl) ?_
        refine lv_iload_n hx hb dL_law_728 rfl (lv_at hl 3 rfl) ?_
        refine lv_iconst (v := 1) hx hb dL_law_729 (by decide) ?_
        refine lv_iadd hx hb dL_law_730 ?_
        refine va_sld hx hb hX hbl hbA hS hv1 dL_law_731 ?_
        refine lv_aload_n hx hb dL_law_732 rfl (lv_at hl 0 rfl) ?_
        refine lv_iload_n hx hb dL_law_733 rfl (lv_at hl 3 rfl) ?_
        refine lv_iconst (v := 2) hx hb dL_law_734 (by decide) ?_
        refine lv_iadd hx hb dL_law_735 ?_
        refine va_sld hx hb hX hbl hbA hS hv2 dL_law_736 ?_
        refine lv_aload_n hx hb dL_law_737 rfl (lv_at hl 0 rfl) ?_
        refine lv_iload_n hx hb dL_law_738 rfl (lv_at hl 3 rfl) ?_
        refine lv_iconst (v := 3) hx hb dL_law_739 (by decide) ?_
        refine lv_iadd hx hb dL_law_740 ?_
        refine va_sld hx hb hX hbl hbA hS hv3 dL_law_741 ?_
        refine lv_aload_n hx hb dL_law_742 rfl (lv_at hl 0 rfl) ?_
        refine lv_iload_n hx hb dL_law_743 rfl (lv_at hl 3 rfl) ?_
        refine lv_iconst (v := 4) hx hb dL_law_744 (by decide) ?_
        refine lv_iadd hx hb dL_law_745 ?_
        refine va_sld hx hb hX hbl hbA hS hv4 dL_law_746 ?_
        refine lw_call (own := RL) (rest := [.int r]) [.int (xs (x3 + 4).toNatClampNeg), .int (xs (x3 + 3).toNatClampNeg), .int (xs (x3 + 2).toNatClampNeg), .int (xs (x3 + 1).toNatClampNeg), .ref (mmad k 97), .int r] [.int (xs (x3 + 1).toNatClampNeg), .int (xs (x3 + 2).toNatClampNeg), .int (xs (x3 + 3).toNatClampNeg), .int (xs (x3 + 4).toNatClampNeg)] hx hb hml hown hts hK hN hI hAk hcs hss (c_X12_put_97 e2) wb_X12_put wv_L_101 (by decide) (mc_97 k _) rfl rfl rfl (by decide) rfl (Nat.le_of_ble_eq_true rfl) dL_law_747 hP hS hl.1 (fun H lc hP hS => ?_)
        show W p l e room_1 s m #[Value.ref b] below meth c H lc cs ss (lw_Z below #[Value.ref b] s) (F0 m 750 ls [.int r, .int r])
        refine lv_icmp_eq (tgt := 911) hx hb dL_law_750 (by decide) (fun _ => ?_) (fun hc => absurd rfl hc)
        exact hgo _ _ _ hF2 hP hS
      · refine lv_tableIn (x := nI 21) (tgt := 755) hx hb dL_law_33 (by decide) (by decide) rfl (by decide) ?_
        obtain ⟨r, F1, F2, e1, e2, hF2⟩ := hSt.2.2.2.2.2.2.2.2.2.2.2.2.2.2.2.2.2.2.2.2.2.1 F (xs (x3 + 1).toNatClampNeg) (xs (x3 + 2).toNatClampNeg) (xs (x3 + 3).toNatClampNeg) hF
        refine lv_aload_n hx hb dL_law_755 rfl (lv_at hl 1 rfl) ?_
        refine lv_aload_n hx hb dL_law_756 rfl (lv_at hl 0 rfl) ?_
        refine lv_iload_n hx hb dL_law_757 rfl (lv_at hl 3 rfl) ?_
        refine lv_iconst (v := 1) hx hb dL_law_758 (by decide) ?_
        refine lv_iadd hx hb dL_law_759 ?_
        refine va_sld hx hb hX hbl hbA hS hv1 dL_law_760 ?_
        refine lv_aload_n hx hb dL_law_761 rfl (lv_at hl 0 rfl) ?_
        refine lv_iload_n hx hb dL_law_762 rfl (lv_at hl 3 rfl) ?_
        refine lv_iconst (v := 2) hx hb dL_law_763 (by decide) ?_
        refine lv_iadd hx hb dL_law_764 ?_
        refine va_sld hx hb hX hbl hbA hS hv2 dL_law_765 ?_
        refine lv_aload_n hx hb dL_law_766 rfl (lv_at hl 0 rfl) ?_
        refine lv_iload_n hx hb dL_law_767 rfl (lv_at hl 3 rfl) ?_
        refine lv_iconst (v := 3) hx hb dL_law_768 (by decide) ?_
        refine lv_iadd hx hb dL_law_769 ?_
        refine va_sld hx hb hX hbl hbA hS hv3 dL_law_770 ?_
        refine lw_call (own := RL) (rest := []) [.int (xs (x3 + 3).toNatClampNeg), .int (xs (x3 + 2).toNatClampNeg), .int (xs (x3 + 1).toNatClampNeg), .ref (mmad k 0)] [.int (xs (x3 + 1).toNatClampNeg), .int (xs (x3 + 2).toNatClampNeg), .int (xs (x3 + 3).toNatClampNeg)] hx hb hml hown hts hK hN hI hAk hcs hss (c_X11_get_0 e1) wb_X11_get wv_L_102 (by decide) (mc_0 k _) rfl rfl rfl (by decide) rfl (Nat.le_of_ble_eq_true rfl) dL_law_771 hP hS hl.1 (fun H lc hP hS => ?_)
        show W p l e room_1 s m #[Value.ref b] below meth c H lc cs ss (lw_Z below #[Value.ref b] s) (F0 m 774 ls [.int r])
        refine lv_aload_n hx hb dL_law_774 rfl (lv_at hl 2 rfl) ?_
        refine lv_aload_n hx hb dL_law_775 rfl (lv_at hl 0 rfl) ?_
        refine lv_iload_n hx hb dL_law_776 rfl (lv_at hl 3 rfl) ?_
        refine lv_iconst (v := 1) hx hb dL_law_777 (by decide) ?_
        refine lv_iadd hx hb dL_law_778 ?_
        refine va_sld hx hb hX hbl hbA hS hv1 dL_law_779 ?_
        refine lv_aload_n hx hb dL_law_780 rfl (lv_at hl 0 rfl) ?_
        refine lv_iload_n hx hb dL_law_781 rfl (lv_at hl 3 rfl) ?_
        refine lv_iconst (v := 2) hx hb dL_law_782 (by decide) ?_
        refine lv_iadd hx hb dL_law_783 ?_
        refine va_sld hx hb hX hbl hbA hS hv2 dL_law_784 ?_
        refine lv_aload_n hx hb dL_law_785 rfl (lv_at hl 0 rfl) ?_
        refine lv_iload_n hx hb dL_law_786 rfl (lv_at hl 3 rfl) ?_
        refine lv_iconst (v := 3) hx hb dL_law_787 (by decide) ?_
        refine lv_iadd hx hb dL_law_788 ?_
        refine va_sld hx hb hX hbl hbA hS hv3 dL_law_789 ?_
        refine lw_call (own := RL) (rest := [.int r]) [.int (xs (x3 + 3).toNatClampNeg), .int (xs (x3 + 2).toNatClampNeg), .int (xs (x3 + 1).toNatClampNeg), .ref (mmad k 97), .int r] [.int (xs (x3 + 1).toNatClampNeg), .int (xs (x3 + 2).toNatClampNeg), .int (xs (x3 + 3).toNatClampNeg)] hx hb hml hown hts hK hN hI hAk hcs hss (c_X12_get_97 e2) wb_X12_get wv_L_105 (by decide) (mc_97 k _) rfl rfl rfl (by decide) rfl (Nat.le_of_ble_eq_true rfl) dL_law_790 hP hS hl.1 (fun H lc hP hS => ?_)
        show W p l e room_1 s m #[Value.ref b] below meth c H lc cs ss (lw_Z below #[Value.ref b] s) (F0 m 793 ls [.int r, .int r])
        refine lv_icmp_eq (tgt := 911) hx hb dL_law_793 (by decide) (fun _ => ?_) (fun hc => absurd rfl hc)
        exact hgo _ _ _ hF2 hP hS
      · refine lv_tableIn (x := nI 22) (tgt := 798) hx hb dL_law_33 (by decide) (by decide) rfl (by decide) ?_
        obtain ⟨r, F1, F2, e1, e2, hF2⟩ := hSt.2.2.2.2.2.2.2.2.2.2.2.2.2.2.2.2.2.2.2.2.2.2.1 F (xs (x3 + 1).toNatClampNeg) (xs (x3 + 2).toNatClampNeg) (xs (x3 + 3).toNatClampNeg) (xs (x3 + 4).toNatClampNeg) (xs (x3 + 5).toNatClampNeg) hF
        refine lv_aload_n hx hb dL_law_798 rfl (lv_at hl 1 rfl) ?_
        refine lv_aload_n hx hb dL_law_799 rfl (lv_at hl 0 rfl) ?_
        refine lv_iload_n hx hb dL_law_800 rfl (lv_at hl 3 rfl) ?_
        refine lv_iconst (v := 1) hx hb dL_law_801 (by decide) ?_
        refine lv_iadd hx hb dL_law_802 ?_
        refine va_sld hx hb hX hbl hbA hS hv1 dL_law_803 ?_
        refine lv_aload_n hx hb dL_law_804 rfl (lv_at hl 0 rfl) ?_
        refine lv_iload_n hx hb dL_law_805 rfl (lv_at hl 3 rfl) ?_
        refine lv_iconst (v := 2) hx hb dL_law_806 (by decide) ?_
        refine lv_iadd hx hb dL_law_807 ?_
        refine va_sld hx hb hX hbl hbA hS hv2 dL_law_808 ?_
        refine lv_aload_n hx hb dL_law_809 rfl (lv_at hl 0 rfl) ?_
        refine lv_iload_n hx hb dL_law_810 rfl (lv_at hl 3 rfl) ?_
        refine lv_iconst (v := 3) hx hb dL_law_811 (by decide) ?_
        refine lv_iadd hx hb dL_law_812 ?_
        refine va_sld hx hb hX hbl hbA hS hv3 dL_law_813 ?_
        refine lv_aload_n hx hb dL_law_814 rfl (lv_at hl 0 rfl) ?_
        refine lv_iload_n hx hb dL_law_815 rfl (lv_at hl 3 rfl) ?_
        refine lv_iconst (v := 4) hx hb dL_law_816 (by decide) ?_
        refine lv_iadd hx hb dL_law_817 ?_
        refine va_sld hx hb hX hbl hbA hS hv4 dL_law_818 ?_
        refine lv_aload_n hx hb dL_law_819 rfl (lv_at hl 0 rfl) ?_
        refine lv_iload_n hx hb dL_law_820 rfl (lv_at hl 3 rfl) ?_
        refine lv_iconst (v := 5) hx hb dL_law_821 (by decide) ?_
        refine lv_iadd hx hb dL_law_822 ?_
        refine va_sld hx hb hX hbl hbA hS hv5 dL_law_823 ?_
        refine lw_call (own := RL) (rest := []) [.int (xs (x3 + 5).toNatClampNeg), .int (xs (x3 + 4).toNatClampNeg), .int (xs (x3 + 3).toNatClampNeg), .int (xs (x3 + 2).toNatClampNeg), .int (xs (x3 + 1).toNatClampNeg), .ref (mmad k 0)] [.int (xs (x3 + 1).toNatClampNeg), .int (xs (x3 + 2).toNatClampNeg), .int (xs (x3 + 3).toNatClampNeg), .int (xs (x3 + 4).toNatClampNeg), .int (xs (x3 + 5).toNatClampNeg)] hx hb hml hown hts hK hN hI hAk hcs hss (c_X11_copy_0 e1) wb_X11_copy wv_L_106 (by decide) (mc_0 k _) rfl rfl rfl (by decide) rfl (Nat.le_of_ble_eq_true rfl) dL_law_824 hP hS hl.1 (fun H lc hP hS => ?_)
        show W p l e room_1 s m #[Value.ref b] below meth c H lc cs ss (lw_Z below #[Value.ref b] s) (F0 m 827 ls [.int r])
        refine lv_aload_n hx hb dL_law_827 rfl (lv_at hl 2 rfl) ?_
        refine lv_aload_n hx hb dL_law_828 rfl (lv_at hl 0 rfl) ?_
        refine lv_iload_n hx hb dL_law_829 rfl (lv_at hl 3 rfl) ?_
        refine lv_iconst (v := 1) hx hb dL_law_830 (by decide) ?_
        refine lv_iadd hx hb dL_law_831 ?_
        refine va_sld hx hb hX hbl hbA hS hv1 dL_law_832 ?_
        refine lv_aload_n hx hb dL_law_833 rfl (lv_at hl 0 rfl) ?_
        refine lv_iload_n hx hb dL_law_834 rfl (lv_at hl 3 rfl) ?_
        refine lv_iconst (v := 2) hx hb dL_law_835 (by decide) ?_
        refine lv_iadd hx hb dL_law_836 ?_
        refine va_sld hx hb hX hbl hbA hS hv2 dL_law_837 ?_
        refine lv_aload_n hx hb dL_law_838 rfl (lv_at hl 0 rfl) ?_
        refine lv_iload_n hx hb dL_law_839 rfl (lv_at hl 3 rfl) ?_
        refine lv_iconst (v := 3) hx hb dL_law_840 (by decide) ?_
        refine lv_iadd hx hb dL_law_841 ?_
        refine va_sld hx hb hX hbl hbA hS hv3 dL_law_842 ?_
        refine lv_aload_n hx hb dL_law_843 rfl (lv_at hl 0 rfl) ?_
        refine lv_iload_n hx hb dL_law_844 rfl (lv_at hl 3 rfl) ?_
        refine lv_iconst (v := 4) hx hb dL_law_845 (by decide) ?_
        refine lv_iadd hx hb dL_law_846 ?_
        refine va_sld hx hb hX hbl hbA hS hv4 dL_law_847 ?_
        refine lv_aload_n hx hb dL_law_848 rfl (lv_at hl 0 rfl) ?_
        refine lv_iload_n hx hb dL_law_849 rfl (lv_at hl 3 rfl) ?_
        refine lv_iconst (v := 5) hx hb dL_law_850 (by decide) ?_
        refine lv_iadd hx hb dL_law_851 ?_
        refine va_sld hx hb hX hbl hbA hS hv5 dL_law_852 ?_
        refine lw_call (own := RL) (rest := [.int r]) [.int (xs (x3 + 5).toNatClampNeg), .int (xs (x3 + 4).toNatClampNeg), .int (xs (x3 + 3).toNatClampNeg), .int (xs (x3 + 2).toNatClampNeg), .int (xs (x3 + 1).toNatClampNeg), .ref (mmad k 97), .int r] [.int (xs (x3 + 1).toNatClampNeg), .int (xs (x3 + 2).toNatClampNeg), .int (xs (x3 + 3).toNatClampNeg), .int (xs (x3 + 4).toNatClampNeg), .int (xs (x3 + 5).toNatClampNeg)] hx hb hml hown hts hK hN hI hAk hcs hss (c_X12_copy_97 e2) wb_X12_copy wv_L_110 (by decide) (mc_97 k _) rfl rfl rfl (by decide) rfl (Nat.le_of_ble_eq_true rfl) dL_law_853 hP hS hl.1 (fun H lc hP hS => ?_)
        show W p l e room_1 s m #[Value.ref b] below meth c H lc cs ss (lw_Z below #[Value.ref b] s) (F0 m 856 ls [.int r, .int r])
        refine lv_icmp_eq (tgt := 911) hx hb dL_law_856 (by decide) (fun _ => ?_) (fun hc => absurd rfl hc)
        exact hgo _ _ _ hF2 hP hS
      · refine lv_tableIn (x := nI 23) (tgt := 861) hx hb dL_law_33 (by decide) (by decide) rfl (by decide) ?_
        obtain ⟨r, F1, F2, e1, e2, hF2⟩ := hSt.2.2.2.2.2.2.2.2.2.2.2.2.2.2.2.2.2.2.2.2.2.2.2.1 F  hF
        refine lv_aload_n hx hb dL_law_861 rfl (lv_at hl 1 rfl) ?_
        refine lw_call (own := RL) (rest := []) [.ref (mmad k 0)] [] hx hb hml hown hts hK hN hI hAk hcs hss (c_X11_hint_0 e1) wb_X11_hint wv_L_111 (by decide) (mc_0 k _) rfl rfl rfl (by decide) rfl (Nat.le_of_ble_eq_true rfl) dL_law_862 hP hS hl.1 (fun H lc hP hS => ?_)
        show W p l e room_1 s m #[Value.ref b] below meth c H lc cs ss (lw_Z below #[Value.ref b] s) (F0 m 865 ls [.int r])
        refine lv_aload_n hx hb dL_law_865 rfl (lv_at hl 2 rfl) ?_
        refine lw_call (own := RL) (rest := [.int r]) [.ref (mmad k 97), .int r] [] hx hb hml hown hts hK hN hI hAk hcs hss (c_X12_hint_97 e2) wb_X12_hint wv_L_114 (by decide) (mc_97 k _) rfl rfl rfl (by decide) rfl (Nat.le_of_ble_eq_true rfl) dL_law_866 hP hS hl.1 (fun H lc hP hS => ?_)
        show W p l e room_1 s m #[Value.ref b] below meth c H lc cs ss (lw_Z below #[Value.ref b] s) (F0 m 869 ls [.int r, .int r])
        refine lv_icmp_eq (tgt := 911) hx hb dL_law_869 (by decide) (fun _ => ?_) (fun hc => absurd rfl hc)
        exact hgo _ _ _ hF2 hP hS
      · refine lv_tableIn (x := nI 24) (tgt := 874) hx hb dL_law_33 (by decide) (by decide) rfl (by decide) ?_
        obtain ⟨r, e1, e2, hF2⟩ := hSt.2.2.2.2.2.2.2.2.2.2.2.2.2.2.2.2.2.2.2.2.2.2.2.2.1 F (xs (x3 + 1).toNatClampNeg) hF
        refine lv_aload_n hx hb dL_law_874 rfl (lv_at hl 1 rfl) ?_
        refine lv_aload_n hx hb dL_law_875 rfl (lv_at hl 0 rfl) ?_
        refine lv_iload_n hx hb dL_law_876 rfl (lv_at hl 3 rfl) ?_
        refine lv_iconst (v := 1) hx hb dL_law_877 (by decide) ?_
        refine lv_iadd hx hb dL_law_878 ?_
        refine va_sld hx hb hX hbl hbA hS hv1 dL_law_879 ?_
        refine lw_call (own := RL) (rest := []) [.int (xs (x3 + 1).toNatClampNeg), .ref (mmad k 0)] [.int (xs (x3 + 1).toNatClampNeg)] hx hb hml hown hts hK hN hI hAk hcs hss (c_X11_count_0 e1) wb_X11_count wv_L_115 (by decide) (mc_0 k _) rfl rfl rfl (by decide) rfl (Nat.le_of_ble_eq_true rfl) dL_law_880 hP hS hl.1 (fun H lc hP hS => ?_)
        show W p l e room_1 s m #[Value.ref b] below meth c H lc cs ss (lw_Z below #[Value.ref b] s) (F0 m 883 ls [.int r])
        refine lv_aload_n hx hb dL_law_883 rfl (lv_at hl 2 rfl) ?_
        refine lv_aload_n hx hb dL_law_884 rfl (lv_at hl 0 rfl) ?_
        refine lv_iload_n hx hb dL_law_885 rfl (lv_at hl 3 rfl) ?_
        refine lv_iconst (v := 1) hx hb dL_law_886 (by decide) ?_
        refine lv_iadd hx hb dL_law_887 ?_
        refine va_sld hx hb hX hbl hbA hS hv1 dL_law_888 ?_
        refine lw_call (own := RL) (rest := [.int r]) [.int (xs (x3 + 1).toNatClampNeg), .ref (mmad k 97), .int r] [.int (xs (x3 + 1).toNatClampNeg)] hx hb hml hown hts hK hN hI hAk hcs hss (c_X12_count_97 e2) wb_X12_count wv_L_118 (by decide) (mc_97 k _) rfl rfl rfl (by decide) rfl (Nat.le_of_ble_eq_true rfl) dL_law_889 hP hS hl.1 (fun H lc hP hS => ?_)
        show W p l e room_1 s m #[Value.ref b] below meth c H lc cs ss (lw_Z below #[Value.ref b] s) (F0 m 892 ls [.int r, .int r])
        refine lv_icmp_eq (tgt := 911) hx hb dL_law_892 (by decide) (fun _ => ?_) (fun hc => absurd rfl hc)
        exact hgo _ _ _ hF2 hP hS
      · refine lv_tableIn (x := nI 25) (tgt := 897) hx hb dL_law_33 (by decide) (by decide) rfl (by decide) ?_
        obtain ⟨r, F1, F2, e1, e2, hF2⟩ := hSt.2.2.2.2.2.2.2.2.2.2.2.2.2.2.2.2.2.2.2.2.2.2.2.2.2 F  hF
        refine lv_aload_n hx hb dL_law_897 rfl (lv_at hl 1 rfl) ?_
        refine lw_call (own := RL) (rest := []) [.ref (mmad k 0)] [] hx hb hml hown hts hK hN hI hAk hcs hss (c_X11_digest_0 e1) wb_X11_digest wv_L_119 (by decide) (mc_0 k _) rfl rfl rfl (by decide) rfl (Nat.le_of_ble_eq_true rfl) dL_law_898 hP hS hl.1 (fun H lc hP hS => ?_)
        show W p l e room_1 s m #[Value.ref b] below meth c H lc cs ss (lw_Z below #[Value.ref b] s) (F0 m 901 ls [.long r])
        refine lv_aload_n hx hb dL_law_901 rfl (lv_at hl 2 rfl) ?_
        refine lw_call (own := RL) (rest := [.long r]) [.ref (mmad k 97), .long r] [] hx hb hml hown hts hK hN hI hAk hcs hss (c_X12_digest_97 e2) wb_X12_digest wv_L_123 (by decide) (mc_97 k _) rfl rfl rfl (by decide) rfl (Nat.le_of_ble_eq_true rfl) dL_law_902 hP hS hl.1 (fun H lc hP hS => ?_)
        show W p l e room_1 s m #[Value.ref b] below meth c H lc cs ss (lw_Z below #[Value.ref b] s) (F0 m 905 ls [.long r, .long r])
        refine W.lcmp hx hb dL_law_905 ?_
        refine lv_if_eq (tgt := 911) hx hb dL_law_906 (by decide) (fun _ => ?_) (fun hc => absurd (by simp [lg_cmp]) hc)
        exact hgo _ _ _ hF2 hP hS
      · refine lv_tableOut (tgt := 911) hx hb dL_law_33 (Or.inr (by rw [nI_toInt (by omega)]; omega)) (by decide) ?_
        exact hgo _ _ _ hF hP hS
