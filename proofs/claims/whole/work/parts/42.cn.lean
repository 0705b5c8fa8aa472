/-! constructors: the world is a list of cells, it grows -/
def cn_N (U : State) : Prop := mm_N U ∧ va_Nw (.methodLinkNest RX11 18 yX8_init RX11) U ∧ va_Nw (.methodLinkNest RX11 25 yX6_init RX11) U ∧ (va_Nw (.castable RX9 RX7) U ∧ va_Nw (.castable RX2 RX7) U ∧ va_Nw (.castable RX1 RX7) U ∧ va_Nw (.castable RX5 RX7) U) ∧ va_AO RX7 U ∧ gm_AO U
theorem cn_N.warm {s U : State} (hW : s.WarmedH U.vm) (h : cn_N s) : cn_N U := ⟨mm_N.warm hW h.1, va_Nw.warmM hW h.2.1, va_Nw.warmM hW h.2.2.1, ⟨va_Nw.warmC hW h.2.2.2.1.1, va_Nw.warmC hW h.2.2.2.1.2.1, va_Nw.warmC hW h.2.2.2.1.2.2.1, va_Nw.warmC hW h.2.2.2.1.2.2.2⟩, va_AO.moved hW.alike h.2.2.2.2.1, gm_AO.moved hW.alike h.2.2.2.2.2⟩
theorem cn_N.call {U : State} (g : JFrame) (mk : MethodId) (a : Array Value) (h : cn_N U) : cn_N (U.calling g mk a) := ⟨mm_N.same (s := U) (U := U.calling g mk a) rfl h.1, va_Nw.same (u := U) (U := U.calling g mk a) rfl rfl h.2.1, va_Nw.same (u := U) (U := U.calling g mk a) rfl rfl h.2.2.1, ⟨va_Nw.same (u := U) (U := U.calling g mk a) rfl rfl h.2.2.2.1.1, va_Nw.same (u := U) (U := U.calling g mk a) rfl rfl h.2.2.2.1.2.1, va_Nw.same (u := U) (U := U.calling g mk a) rfl rfl h.2.2.2.1.2.2.1, va_Nw.same (u := U) (U := U.calling g mk a) rfl rfl h.2.2.2.1.2.2.2⟩, va_AO.moved (u := U) (U := U.calling g mk a) (Vm.Alike.refl U.vm) h.2.2.2.2.1, gm_AO.moved (u := U) (U := U.calling g mk a) (Vm.Alike.refl U.vm) h.2.2.2.2.2⟩
def cn_rm (d mc ms : Nat) : Room := { frames := d, cells := mc, slots := ms, locals := 40 * d }
def cn_P (k : mmK) (sz : Nat) (pre : va_W) (U : State) : Prop := U.heap.size = sz ∧ va_P k.1 vwCl pre U.heap ∧ va_K k.1 vwCl (mm_ty k) U ∧ cn_N U ∧ va_D (fun _ => True) pre
def cn_Q (k : mmK) (pre : va_W) (sz : Nat) (post : (Nat → Nat) → va_W) : Array Value → State → Outcome → State → Prop := fun _ st oc t => (∃ u : Nat → Nat, oc = .returned none ∧ va_P k.1 vwCl (post u) t.heap ∧ va_D (va_A pre sz) (post u)) ∧ va_F (va_A pre sz) st t
def cn_T (l : Launch) (k : mmK) (y : MethodName) (cc : ByteArray) (nL d mc ms : Nat) (av : List Value) (pre : va_W) (sz : Nat) (post : (Nat → Nat) → va_W) : Prop := Met l y (.code y cc nL none :: mm_G) (cn_rm d mc ms) (va_Pc av (cn_P k sz pre)) (cn_Q k pre sz post) mc ms (va_A pre sz)
def cn_C : mmZ → mmK → String → ByteArray → Nat → Nat → Nat → Nat → Nat → Prop := fun (p, l, e, R, s, m, args, below, meth, c) k own cc nL d mc ms sz =>
  p.tables.exec = Jvm.exec ∧ c.code = cc ∧ meth.sig.returnType = none ∧ c.maxLocals = nL ∧ s.vm.findClass own = some m.cls ∧ (∀ w ∈ mm_G, w.before args s = true) ∧ va_K k.1 vwCl (mm_ty k) s ∧ cn_N s ∧ s.heap.size = sz ∧ meth.locks = false ∧ R = cn_rm d mc ms ∧ meth.name = "<init>"
def cn_AW : mmZ → mmK → Nat → Nat → Nat → va_W → Nat → ((Nat → Nat) → va_W) → Nat → Nat → va_W → Nat → List (Nat × Value) → List Value → Prop := fun (p, l, e, R, s, m, args, below, meth, c) k nL mc ms pre sz post cs ss ws pc lv st =>
  ∀ (H : Heap) (lc : List Loc) (ls : Array Slot), va_P k.1 vwCl ws H → va_D (va_A pre sz) ws → va_S (va_A pre sz) s.heap H lc → lv_has ls nL lv → W p l e R s m args below meth c H lc cs ss (MQ below (cn_Q k pre sz post) args s mc ms (va_A pre sz)) (F0 m pc ls st)
theorem cn_start {l : Launch} {k : mmK} {y : MethodName} {cc : ByteArray} {nL d mc ms sz : Nat} {av : List Value} {pre : va_W} {post : (Nat → Nat) → va_W} (lv : List (Nat × Value)) (hy : plainName y.cls = true) (hn : (lg_sl av).length ≤ nL) (hlv : lv_args 0 av = lv) (hi : y.name = "<init>")
    (h : ∀ z : mmZ, mm_l z = l → cn_C z k y.cls cc nL d mc ms sz → cn_AW z k nL mc ms pre sz post 0 0 pre 0 lv []) : cn_T l k y cc nL d mc ms av pre sz post := by
  refine Met.ofW (cc := cc) (maxL := nL) (ret := none) hy rfl ?_
  intro p e s m args below meth c s₁ B hml hv
  obtain ⟨rfl, hsz, hP, hK, hN, hD0⟩ := hv
  have hts := atoms_spec (ws := .code y cc nL none :: mm_G) B.pre
  have h1 := h (p, l, e, cn_rm d mc ms, s, m, av.toArray, below, meth, c) rfl ⟨B.exec, B.bytes, B.returns, hml, findClass_of_methodNamed B.named, fun w hw => hts w (List.mem_cons_of_mem _ hw), hK, hN, hsz, B.notSynchronized, rfl, (name_of_methodNamed B.named B.method).1.trans hi⟩
  have hl := lv_entry av (n := nL) hn
  rw [hlv] at hl
  rw [lg_entry_eq]
  exact h1 s.heap [] _ hP hD0.self va_S.rf hl
section CNR
variable {z : mmZ} {k : mmK} {own : String} {cc : ByteArray} {nL d mc ms sz pc cs ss : Nat} {pre ws : va_W} {post : (Nat → Nat) → va_W} {lv : List (Nat × Value)} {rest : List Value}
theorem cn_iconst {n : Int} {v : Int32} (C : cn_C z k own cc nL d mc ms sz) (hdg : decode cc pc = .ok (.iconst n, 1)) (hv : Int32.ofInt n = v) (q : Nat) (hq : pc + 1 = q) (kk : cn_AW z k nL mc ms pre sz post cs ss ws q lv (.int v :: rest)) : cn_AW z k nL mc ms pre sz post cs ss ws pc lv (rest) := by
  obtain ⟨p, l, e, R, s, m, args, below, meth, c⟩ := z
  subst hq
  exact fun H lc ls hP hD hS hl => lv_iconst C.1 C.2.1 hdg hv (kk H lc ls hP hD hS hl)
theorem cn_bipush {n : Int} {v : Int32} (C : cn_C z k own cc nL d mc ms sz) (hdg : decode cc pc = .ok (.bipush n, 2)) (hv : (Int8.ofInt n).toInt32 = v) (q : Nat) (hq : pc + 2 = q) (kk : cn_AW z k nL mc ms pre sz post cs ss ws q lv (.int v :: rest)) : cn_AW z k nL mc ms pre sz post cs ss ws pc lv (rest) := by
  obtain ⟨p, l, e, R, s, m, args, below, meth, c⟩ := z
  subst hq
  exact fun H lc ls hP hD hS hl => lv_bipush C.1 C.2.1 hdg hv (kk H lc ls hP hD hS hl)
theorem cn_sipush {n : Int} {v : Int32} (C : cn_C z k own cc nL d mc ms sz) (hdg : decode cc pc = .ok (.sipush n, 3)) (hv : (Int16.ofInt n).toInt32 = v) (q : Nat) (hq : pc + 3 = q) (kk : cn_AW z k nL mc ms pre sz post cs ss ws q lv (.int v :: rest)) : cn_AW z k nL mc ms pre sz post cs ss ws pc lv (rest) := by
  obtain ⟨p, l, e, R, s, m, args, below, meth, c⟩ := z
  subst hq
  exact fun H lc ls hP hD hS hl => lv_sipush C.1 C.2.1 hdg hv (kk H lc ls hP hD hS hl)
theorem cn_iload_n {f4 : Fin 4} {i : Nat} {x : Int32} (C : cn_C z k own cc nL d mc ms sz) (hdg : decode cc pc = .ok (.iload_n f4, 1)) (hi : (f4 : Nat) = i) (j : Nat) (hj : lv[j]? = some (i, .int x)) (q : Nat) (hq : pc + 1 = q) (kk : cn_AW z k nL mc ms pre sz post cs ss ws q lv (.int x :: rest)) : cn_AW z k nL mc ms pre sz post cs ss ws pc lv (rest) := by
  obtain ⟨p, l, e, R, s, m, args, below, meth, c⟩ := z
  subst hq
  exact fun H lc ls hP hD hS hl => lv_iload_n C.1 C.2.1 hdg hi (lv_at hl j hj) (kk H lc ls hP hD hS hl)
theorem cn_aload_n {f4 : Fin 4} {i : Nat} {x : Nat} (C : cn_C z k own cc nL d mc ms sz) (hdg : decode cc pc = .ok (.aload_n f4, 1)) (hi : (f4 : Nat) = i) (j : Nat) (hj : lv[j]? = some (i, .ref x)) (q : Nat) (hq : pc + 1 = q) (kk : cn_AW z k nL mc ms pre sz post cs ss ws q lv (.ref x :: rest)) : cn_AW z k nL mc ms pre sz post cs ss ws pc lv (rest) := by
  obtain ⟨p, l, e, R, s, m, args, below, meth, c⟩ := z
  subst hq
  exact fun H lc ls hP hD hS hl => lv_aload_n C.1 C.2.1 hdg hi (lv_at hl j hj) (kk H lc ls hP hD hS hl)
theorem cn_dup {a : Value} (C : cn_C z k own cc nL d mc ms sz) (hdg : decode cc pc = .ok (.dup, 1)) (ha : a.category = 1) (q : Nat) (hq : pc + 1 = q) (kk : cn_AW z k nL mc ms pre sz post cs ss ws q lv (a :: a :: rest)) : cn_AW z k nL mc ms pre sz post cs ss ws pc lv (a :: rest) := by
  obtain ⟨p, l, e, R, s, m, args, below, meth, c⟩ := z
  subst hq
  exact fun H lc ls hP hD hS hl => lv_dup C.1 C.2.1 hdg ha (kk H lc ls hP hD hS hl)
theorem cn_hA {z : mmZ} (C : cn_C z k own cc nL d mc ms sz) : ∀ q : Nat, z.2.2.2.2.1.heap.size ≤ q → va_A pre sz q := by
  obtain ⟨p, l, e, R, s, m, args, below, meth, c⟩ := z
  intro q h
  have hsz : s.heap.size = sz := C.2.2.2.2.2.2.2.2.1
  exact Or.inr (by rw [← hsz]; exact h)
theorem cn_obj {a idx : Nat} (C : cn_C z k own cc nL d mc ms sz) (w1 : Cond.methodLink own idx objectInit ∈ mm_G) (w2 : Cond.instanceMethod objectInit ∈ mm_G) (w3 : Cond.code objectInit ⟨#[0xb1]⟩ 1 none ∈ mm_G) (hd : 1 ≤ d) (hr : (rest.map fun v => v.category).sum ≤ 8) (hdg : decode cc pc = .ok (.invokespecial idx, 3)) (q : Nat) (hq : pc + 3 = q) (kk : cn_AW z k nL mc ms pre sz post cs ss ws q lv rest) : cn_AW z k nL mc ms pre sz post cs ss ws pc lv (.ref a :: rest) := by
  obtain ⟨p, l, e, R, s, m, args, below, meth, c⟩ := z
  subst hq
  have hR : R = cn_rm d mc ms := C.2.2.2.2.2.2.2.2.2.2.1
  subst hR
  intro H lc ls hP hD hS hl
  have hts := C.2.2.2.2.2.1
  refine W.objInit C.1 C.2.1 C.2.2.2.2.1 (hts _ w1) (hts _ w2) (hts _ w3) rfl (hl.1.trans C.2.2.2.1.symm) rfl hdg hd (by show 2 * 0 + _ + 12 ≤ 40 * d; omega) ?_
  exact kk H lc ls hP hD hS hl
theorem cn_new {idx ci N : Nat} {Cn : String} {T : u_T} {fs : List Value} {cs2 ss2 : Nat} (C : cn_C z k own cc nL d mc ms sz) (hin : ∀ w ∈ u_ws Cn T N, w ∈ mm_G) (ty : Nat → FieldType) (hty : ∀ k, k < N → parseFieldDescriptor (T k).2.2.1 = some (ty k)) (w1 : Cond.classLink own idx Cn ∈ mm_G) (w2 : Cond.instantiable Cn N ∈ mm_G) (w3 : Cond.initialized Cn ∈ mm_G) (hc : vwCl[ci]? = some (Cn, T, N)) (hfs : ∀ j, j < N → defaultValue (ty j) = vp_V fs j) (h1 : cs + 1 = cs2) (h2 : ss + N = ss2) (h3 : cs2 ≤ mc) (h4 : ss2 ≤ ms) (hdg : decode cc pc = .ok (.new idx, 3)) (q : Nat) (hq : pc + 3 = q)
    (kk : ∀ a : Nat, cn_AW z k nL mc ms pre sz post cs2 ss2 (ws ++ [(a, .inr (ci, fs))]) q lv (.ref a :: rest)) : cn_AW z k nL mc ms pre sz post cs ss ws pc lv rest := by
  have hA := cn_hA (pre := pre) C
  obtain ⟨p, l, e, R, s, m, args, below, meth, c⟩ := z
  subst hq; subst h1; subst h2
  have hR : R = cn_rm d mc ms := C.2.2.2.2.2.2.2.2.2.2.1
  subst hR
  intro H lc ls hP hD hS hl
  have hts := C.2.2.2.2.2.1
  exact va_new (ci := ci) (fs := fs) (C := Cn) (T := T) (N := N) C.1 C.2.1 hts hin ty hty C.2.2.2.2.1 (hts _ w1) (hts _ w2) (hts _ w3) C.2.2.2.2.2.2.1 hP hD hS hA hc hfs h3 h4 hdg (fun a H1 hP1 hD1 hS1 => kk a H1 lc ls hP1 hD1 hS1 hl)
theorem cn_newa {n : Int32} {N cs2 ss2 : Nat} (C : cn_C z k own cc nL d mc ms sz) (w1 : Cond.arrayClass .int ∈ mm_G) (hn : ¬ n < 0) (hN : n.toNatClampNeg = N) (hb : N * 4 ≤ 536870912) (h1 : cs + 1 = cs2) (h2 : ss + N = ss2) (h3 : cs2 ≤ mc) (h4 : ss2 ≤ ms) (hdg : decode cc pc = .ok (.newarray .int, 2)) (q : Nat) (hq : pc + 2 = q)
    (kk : ∀ a : Nat, cn_AW z k nL mc ms pre sz post cs2 ss2 (ws ++ [(a, .inl (k.2.1, N, .inl (fun _ => 0)))]) q lv (.ref a :: rest)) : cn_AW z k nL mc ms pre sz post cs ss ws pc lv (.int n :: rest) := by
  have hA := cn_hA (pre := pre) C
  obtain ⟨p, l, e, R, s, m, args, below, meth, c⟩ := z
  subst hq; subst h1; subst h2
  have hR : R = cn_rm d mc ms := C.2.2.2.2.2.2.2.2.2.2.1
  subst hR
  intro H lc ls hP hD hS hl
  have hK := C.2.2.2.2.2.2.1
  refine va_newa (atype := .int) (ty := .int) (a0 := (N, .inl (fun _ => 0))) C.1 C.2.1 (C.2.2.2.2.2.1 _ w1) rfl hK hP hD hS hA (fun _ => rfl) hn hN hb h3 h4 hdg (fun a cA H1 hK1 hP1 hD1 hS1 => ?_)
  have e1 : some cA = some k.2.1 := (hK1.2 4 (cA, .int) rfl).2.symm.trans (hK.2 0 (k.2.1, .int) rfl).2
  cases e1
  exact kk a H1 lc ls hP1 hD1 hS1 hl
theorem cn_newz {n : Int32} {N cs2 ss2 : Nat} (C : cn_C z k own cc nL d mc ms sz) (w1 : Cond.arrayClass .boolean ∈ mm_G) (hn : ¬ n < 0) (hN : n.toNatClampNeg = N) (hb : N * 1 ≤ 536870912) (h1 : cs + 1 = cs2) (h2 : ss + N = ss2) (h3 : cs2 ≤ mc) (h4 : ss2 ≤ ms) (hdg : decode cc pc = .ok (.newarray .boolean, 2)) (q : Nat) (hq : pc + 2 = q)
    (kk : ∀ a : Nat, cn_AW z k nL mc ms pre sz post cs2 ss2 (ws ++ [(a, .inl (k.2.2.1, N, .inl (fun _ => 0)))]) q lv (.ref a :: rest)) : cn_AW z k nL mc ms pre sz post cs ss ws pc lv (.int n :: rest) := by
  have hA := cn_hA (pre := pre) C
  obtain ⟨p, l, e, R, s, m, args, below, meth, c⟩ := z
  subst hq; subst h1; subst h2
  have hR : R = cn_rm d mc ms := C.2.2.2.2.2.2.2.2.2.2.1
  subst hR
  intro H lc ls hP hD hS hl
  have hK := C.2.2.2.2.2.2.1
  refine va_newa (atype := .boolean) (ty := .boolean) (a0 := (N, .inl (fun _ => 0))) C.1 C.2.1 (C.2.2.2.2.2.1 _ w1) rfl hK hP hD hS hA (fun _ => rfl) hn hN hb h3 h4 hdg (fun a cA H1 hK1 hP1 hD1 hS1 => ?_)
  have e1 : some cA = some k.2.2.1 := (hK1.2 4 (cA, .boolean) rfl).2.symm.trans (hK.2 1 (k.2.2.1, .boolean) rfl).2
  cases e1
  exact kk a H1 lc ls hP1 hD1 hS1 hl
theorem cn_newq {n : Int32} {N cs2 ss2 idx : Nat} (C : cn_C z k own cc nL d mc ms sz) (w1 : Cond.classLink own idx RX7 ∈ mm_G) (hn : ¬ n < 0) (hN : n.toNatClampNeg = N) (hb : N * 4 ≤ 536870912) (h1 : cs + 1 = cs2) (h2 : ss + N = ss2) (h3 : cs2 ≤ mc) (h4 : ss2 ≤ ms) (hdg : decode cc pc = .ok (.anewarray idx, 3)) (q : Nat) (hq : pc + 3 = q)
    (kk : ∀ a : Nat, cn_AW z k nL mc ms pre sz post cs2 ss2 (ws ++ [(a, .inl (k.2.2.2.1, N, .inr (.inr (.inr (.inr (fun _ => none))))))]) q lv (.ref a :: rest)) : cn_AW z k nL mc ms pre sz post cs ss ws pc lv (.int n :: rest) := by
  have hA := cn_hA (pre := pre) C
  obtain ⟨p, l, e, R, s, m, args, below, meth, c⟩ := z
  subst hq; subst h1; subst h2
  have hR : R = cn_rm d mc ms := C.2.2.2.2.2.2.2.2.2.2.1
  subst hR
  intro H lc ls hP hD hS hl
  have hK := C.2.2.2.2.2.2.1
  refine va_newq (C := RX7) C.1 C.2.1 C.2.2.2.2.1 (C.2.2.2.2.2.1 _ w1) C.2.2.2.2.2.2.2.1.2.2.2.2.1 hK hP hD hS hA hn hN hb h3 h4 hdg (fun a cA H1 hK1 hP1 hD1 hS1 => ?_)
  obtain ⟨kA, comp, -, -, -, f1⟩ := (hK1.2 4 (cA, .object RX7) rfl).2
  obtain ⟨kB, comp2, -, -, -, f2⟩ := (hK.2 2 (k.2.2.2.1, .object "ServerLine$Rule") rfl).2
  have e1 : some cA = some k.2.2.2.1 := f1.symm.trans f2
  cases e1
  exact kk a H1 lc ls hP1 hD1 hS1 hl
theorem cn_put {idx ci N j a : Nat} {ref Cn : String} {T : u_T} {fs : List Value} {v : Value} {ty : FieldType} {ws2 : va_W} (C : cn_C z k own cc nL d mc ms sz) (w : mm_FL own idx ref ci Cn T N j) (i : Nat) (he : ws[i]? = some (a, .inr (ci, fs))) (hw : ws.set i (a, .inr (ci, fs.set j v)) = ws2) (ty0 : Nat → FieldType) (hty : ∀ k, k < N → parseFieldDescriptor (T k).2.2.1 = some (ty0 k)) (hnm : ∀ a, a < N → ∀ b, b < N → a ≠ b → (T a).2.1 ≠ (T b).2.1) (hfin : (T j).2.2.2 = false) (hd : parseFieldDescriptor (T j).2.2.1 = some ty) (hn : narrow ty v = v) (hft : fits ty v = true) (hl0 : j < fs.length) (hdg : decode cc pc = .ok (.putfield idx, 3)) (q : Nat) (hq : pc + 3 = q) (kk : cn_AW z k nL mc ms pre sz post cs ss ws2 q lv rest) : cn_AW z k nL mc ms pre sz post cs ss ws pc lv (v :: .ref a :: rest) := by
  obtain ⟨p, l, e, R, s, m, args, below, meth, c⟩ := z
  subst hq; subst hw
  exact fun H lc ls hP hD hS hl => va_put (D := k.1) (C := Cn) (T := T) (N := N) (Ts := mm_G) C.1 C.2.1 C.2.2.2.2.2.1 w.2.2.1 ty0 hty hnm C.2.2.2.2.1 C.2.2.2.2.2.2.1 hP hD hS i he w.1 j w.2.1 (C.2.2.2.2.2.1 _ w.2.2.2.1) (mm_same C.2.2.2.2.2.1 w) hfin hd hn hft hl0 hdg (fun H1 l1 hP1 hD1 hS1 => kk H1 l1 ls hP1 hD1 hS1 hl)
theorem cn_putF {idx ci N j a : Nat} {ref Cn : String} {T : u_T} {fs : List Value} {v : Value} {ty : FieldType} {ws2 : va_W} (C : cn_C z k own cc nL d mc ms sz) (w : mm_FL own idx ref ci Cn T N j) (i : Nat) (he : ws[i]? = some (a, .inr (ci, fs))) (hw : ws.set i (a, .inr (ci, fs.set j v)) = ws2) (ty0 : Nat → FieldType) (hty : ∀ k, k < N → parseFieldDescriptor (T k).2.2.1 = some (ty0 k)) (hnm : ∀ a, a < N → ∀ b, b < N → a ≠ b → (T a).2.1 ≠ (T b).2.1) (hfin : (T j).2.2.2 = true) (hdecl : (T j).1 = own) (hd : parseFieldDescriptor (T j).2.2.1 = some ty) (hn : narrow ty v = v) (hft : fits ty v = true) (hl0 : j < fs.length) (hdg : decode cc pc = .ok (.putfield idx, 3)) (q : Nat) (hq : pc + 3 = q) (kk : cn_AW z k nL mc ms pre sz post cs ss ws2 q lv rest) : cn_AW z k nL mc ms pre sz post cs ss ws pc lv (v :: .ref a :: rest) := by
  obtain ⟨p, l, e, R, s, m, args, below, meth, c⟩ := z
  subst hq; subst hw
  exact fun H lc ls hP hD hS hl => va_putF (D := k.1) (C := Cn) (T := T) (N := N) (Ts := mm_G) C.1 C.2.1 C.2.2.2.2.2.1 w.2.2.1 ty0 hty hnm C.2.2.2.2.1 C.2.2.2.2.2.2.1 hP hD hS i he w.1 j w.2.1 (C.2.2.2.2.2.1 _ w.2.2.2.1) (mm_same C.2.2.2.2.2.1 w) hfin C.2.2.2.2.2.2.2.2.2.2.2 hdecl hd hn hft hl0 hdg (fun H1 l1 hP1 hD1 hS1 => kk H1 l1 ls hP1 hD1 hS1 hl)
theorem cn_get {idx ci N j a : Nat} {ref Cn : String} {T : u_T} {fs : List Value} {v : Value} (C : cn_C z k own cc nL d mc ms sz) (w : mm_FL own idx ref ci Cn T N j) (i : Nat) (he : ws[i]? = some (a, .inr (ci, fs))) (hv : fs[j]? = some v) (hdg : decode cc pc = .ok (.getfield idx, 3)) (q : Nat) (hq : pc + 3 = q) (kk : cn_AW z k nL mc ms pre sz post cs ss ws q lv (v :: rest)) : cn_AW z k nL mc ms pre sz post cs ss ws pc lv (.ref a :: rest) := by
  obtain ⟨p, l, e, R, s, m, args, below, meth, c⟩ := z
  subst hq
  exact fun H lc ls hP hD hS hl => va_get (D := k.1) (C := Cn) (T := T) (N := N) (Ts := mm_G) C.1 C.2.1 C.2.2.2.2.2.1 w.2.2.1 C.2.2.2.2.1 C.2.2.2.2.2.2.1 hP i he w.1 j w.2.1 (C.2.2.2.2.2.1 _ w.2.2.2.1) (mm_same C.2.2.2.2.2.1 w) hv hdg (kk H lc ls hP hD hS hl)
theorem cn_iast {a n : Nat} {f : Nat → Int32} {x v : Int32} {ws2 : va_W} (C : cn_C z k own cc nL d mc ms sz) (i : Nat) (he : ws[i]? = some (a, .inl (k.2.1, n, .inl f))) (hi : vp_in x n) (hw : ws.set i (a, .inl (k.2.1, n, .inl (upd f x.toNatClampNeg v))) = ws2) (hdg : decode cc pc = .ok (.iastore, 1)) (q : Nat) (hq : pc + 1 = q) (kk : cn_AW z k nL mc ms pre sz post cs ss ws2 q lv rest) : cn_AW z k nL mc ms pre sz post cs ss ws pc lv (.int v :: .int x :: .ref a :: rest) := by
  obtain ⟨p, l, e, R, s, m, args, below, meth, c⟩ := z
  subst hq; subst hw
  exact fun H lc ls hP hD hS hl => va_iast C.1 C.2.1 C.2.2.2.2.2.2.1 hP hD hS i 0 he rfl hi hdg (fun H1 l1 hP1 hD1 hS1 => kk H1 l1 ls hP1 hD1 hS1 hl)
theorem cn_aast {a n b ci : Nat} {r : vw_C} {vs : List Value} {f : Nat → Option Nat} {x : Int32} {ws2 : va_W} (C : cn_C z k own cc nL d mc ms sz) (i j : Nat) (he : ws[i]? = some (a, .inl (k.2.2.2.1, n, .inr (.inr (.inr (.inr f)))))) (hca : ∀ s : State, cn_N s → va_Nw (.castable r.1 "ServerLine$Rule") s) (hv : ws[j]? = some (b, .inr (ci, vs))) (hc : vwCl[ci]? = some r) (hi : vp_in x n) (hw : ws.set i (a, .inl (k.2.2.2.1, n, .inr (.inr (.inr (.inr (va_up f x.toNatClampNeg (some b))))))) = ws2) (hdg : decode cc pc = .ok (.aastore, 1)) (q : Nat) (hq : pc + 1 = q) (kk : cn_AW z k nL mc ms pre sz post cs ss ws2 q lv rest) : cn_AW z k nL mc ms pre sz post cs ss ws pc lv (.ref b :: .int x :: .ref a :: rest) := by
  obtain ⟨p, l, e, R, s, m, args, below, meth, c⟩ := z
  subst hq; subst hw
  exact fun H lc ls hP hD hS hl => va_astqO (E := "ServerLine$Rule") C.1 C.2.1 C.2.2.2.2.2.2.1 hP hD hS i 2 j ci he rfl (hca s C.2.2.2.2.2.2.2.1) hv hc hi hdg (fun H1 l1 hP1 hD1 hS1 => kk H1 l1 ls hP1 hD1 hS1 hl)
theorem cn_max {idx : Nat} {x y v : Int32} (C : cn_C z k own cc nL d mc ms sz) (w1 : Cond.methodLink own idx Lib.Math.max.name ∈ mm_G) (w2 : Cond.static Lib.Math.max.name ∈ mm_G) (w3 : Cond.initialized "java/lang/Math" ∈ mm_G) (w4 : Cond.code Lib.Math.max.name Lib.Math.max.code 2 (some .int) ∈ mm_G) (hv : (if x < y then y else x) = v) (hd1 : 1 ≤ d) (hd2 : (rest.map fun v => v.category).sum + 13 ≤ 40 * d) (h3 : cs ≤ mc) (h4 : ss ≤ ms) (hdg : decode cc pc = .ok (.invokestatic idx, 3)) (q : Nat) (hq : pc + 3 = q) (kk : cn_AW z k nL mc ms pre sz post cs ss ws q lv (.int v :: rest)) : cn_AW z k nL mc ms pre sz post cs ss ws pc lv (.int y :: .int x :: rest) := by
  obtain ⟨p, l, e, R, s, m, args, below, meth, c⟩ := z
  subst hq; subst hv
  have hR : R = cn_rm d mc ms := C.2.2.2.2.2.2.2.2.2.2.1
  subst hR
  exact fun H lc ls hP hD hS hl => va_mmax C.1 C.2.1 (C.2.2.2.1.trans hl.1.symm) C.2.2.2.2.1 (C.2.2.2.2.2.1 _ w1) (C.2.2.2.2.2.1 _ w2) (C.2.2.2.2.2.1 _ w3) (C.2.2.2.2.2.1 _ w4) hd1 hd2 h3 h4 hdg (kk H lc ls hP hD hS hl)
theorem cn_ret (C : cn_C z k own cc nL d mc ms sz) (u : Nat → Nat) (hu : post u = ws) (hdg : decode cc pc = .ok (.return_, 1)) : cn_AW z k nL mc ms pre sz post mc ms ws pc lv [] := by
  obtain ⟨p, l, e, R, s, m, args, below, meth, c⟩ := z
  subst hu
  exact fun H lc ls hP hD hS hl => W.vret C.1 C.2.1 C.2.2.1 (fun t ht hW => ⟨⟨u, rfl, by rw [ht]; exact hP, hD⟩, hS.F ht⟩) hS.2.2 hdg C.2.2.2.2.2.2.2.2.2.1
theorem cn_blind (k : mmK) (av : List Value) (sz : Nat) (pre : va_W) : FrameBlind (va_Pc av (cn_P k sz pre)) := fun a U g mk h => ⟨h.1, h.2.1, h.2.2.1, va_K.moved (u := U) (U := U.calling g mk a) (Vm.Alike.refl U.vm) h.2.2.2.1, cn_N.call g mk a h.2.2.2.2.1, h.2.2.2.2.2⟩
theorem cn_call {y : MethodName} {bytes : ByteArray} {mL dc mc2 ms2 n idx b cs2 ss2 : Nat} {st : List Value} {wc wr : va_W} {po : (Nat → Nat) → va_W} (As : List Value) (C : cn_C z k own cc nL d mc ms sz) (hT : ∀ sz2, cn_T (mm_l z) k y bytes mL dc mc2 ms2 (.ref b :: As) wc sz2 po) (wb : mm_CB y bytes mL none n) (w1 : Cond.methodLink own idx y ∈ mm_G) (w2 : Cond.instanceMethod y ∈ mm_G) (hy : y.name = "<init>") (isC isR : List Nat) (hC : isC.map (fun i => ws[i]?) = wc.map some) (hR : isR.map (fun i => ws[i]?) = wr.map some) (hnC : va_nd isC = true) (hnR : va_nd isR = true) (hdis : ∀ i ∈ isR, i ∉ isC) (hn : As.length = n) (hd : dc + 1 ≤ d) (h1 : cs + mc2 = cs2) (h2 : ss + ms2 = ss2) (h3 : cs2 ≤ mc) (h4 : ss2 ≤ ms) (hst : st = As.reverse ++ .ref b :: rest) (hr : (rest.map fun v => v.category).sum ≤ 8) (hdg : decode cc pc = .ok (.invokespecial idx, 3)) (q : Nat) (hq : pc + 3 = q)
    (kk : ∀ u : Nat → Nat, cn_AW z k nL mc ms pre sz post cs2 ss2 (wr ++ po u) q lv rest) : cn_AW z k nL mc ms pre sz post cs ss ws pc lv st := by
  have hA := cn_hA (pre := pre) C
  obtain ⟨p, l, e, R, s, m, args, below, meth, c⟩ := z
  subst hq; subst h1; subst h2; subst hst
  have hRm : R = cn_rm d mc ms := C.2.2.2.2.2.2.2.2.2.2.1
  subst hRm
  intro H lc ls hP hD hS hl
  have hts := C.2.2.2.2.2.1
  have hsub : ∀ {is : List Nat} {w : va_W}, is.map (fun i => ws[i]?) = w.map some → is.filterMap (fun i => ws[i]?) = w := by
    intro is w h
    have h9 := congrArg (List.filterMap id) h
    simpa [List.filterMap_map] using h9
  have hPc : va_P k.1 vwCl wc H := hP.sub isC (hsub hC)
  have hDc := hD.sub isC hnC hC
  have hFc := va_free (wc := wc) hD hS hA isC hC
  have cb : CallB (cn_rm d mc ms) s args own idx y bytes mL none (.code y bytes mL none :: mm_G) (cn_rm dc mc2 ms2) mc2 ms2 n := callB_of (Ts := mm_G) n hts (mm_good0 wb.1) rfl rfl rfl (hts _ wb.2.1) (hts _ w1) ⟨wb.2.2.1.1, wb.2.2.1.2, wb.2.2.2.1⟩ ⟨hd, by have := wb.2.2.2.2; show 8 + (mL + 11) + 40 * dc ≤ 40 * d; omega⟩
  have hrun := va_runI (As := As) (rest := rest) (b := b) (cells := cs) (slots := ss) (locs := lc) (H := H) (p := p) (e := e) (below := below) (meth := meth) (g := F0 m pc ls (As.reverse ++ .ref b :: rest)) ⟨C.1, C.2.1, C.2.2.2.1, C.2.2.2.2.1, hts⟩ (hT H.size) ⟨cb, hy, hts _ w2⟩ ⟨cn_blind k _ _ _, fun U hU hW => ⟨rfl, by rw [hU], by rw [hU]; exact hPc, va_K.moved hW.alike C.2.2.2.2.2.2.1, cn_N.warm hW C.2.2.2.2.2.2.2.1, hDc.weaken (fun _ _ _ _ => trivial)⟩⟩ rfl hn hl.1 rfl (lv_room hr) hdg ⟨h3, h4⟩
  intro T hT2 X
  obtain ⟨v, st₀, t, T', L, h0, X', hL, e1, e2, ⟨⟨u, hv, hp, hd2⟩, hz, hk⟩, stp⟩ := hrun T hT2 X
  cases hv
  rw [h0] at hz hk
  have hPj := va_join (wr := wr) (w1 := po u) hP hD isC isR hC hR hnR hdis (fun q h1 h2 => hk q h1 h2) hFc hp hd2
  obtain ⟨t2, a1, b1⟩ := kk u T'.heap (lc ++ L) ls (by rw [e1]; exact hPj.1) hPj.2
    ⟨Nat.le_trans hS.1 (by rw [e1]; exact hz), fun q h1 h2 => by rw [e1, hk q (Nat.lt_of_lt_of_le h1 hS.1) (fun z => h2 (hFc q z))]; exact hS.2.1 q h1 h2, fun q hq => by
      rcases List.mem_append.mp hq with h | h
      · exact hS.2.2 q h
      · exact hFc _ (hL q h)⟩ hl T' rfl X'
  exact ⟨t2, stp t2 a1, b1⟩
theorem cn_callN {y : MethodName} {bytes : ByteArray} {mL dc mc2 ms2 n idx b cs2 ss2 : Nat} {st : List Value} {wc wr : va_W} {po : (Nat → Nat) → va_W} {host : String} (As : List Value) (C : cn_C z k own cc nL d mc ms sz) (hT : ∀ sz2, cn_T (mm_l z) k y bytes mL dc mc2 ms2 (.ref b :: As) wc sz2 po) (wb : mm_CB y bytes mL none n) (w1 : ∀ s : State, cn_N s → va_Nw (.methodLinkNest own idx y host) s) (w2 : Cond.instanceMethod y ∈ mm_G) (hy : y.name = "<init>") (isC isR : List Nat) (hC : isC.map (fun i => ws[i]?) = wc.map some) (hR : isR.map (fun i => ws[i]?) = wr.map some) (hnC : va_nd isC = true) (hnR : va_nd isR = true) (hdis : ∀ i ∈ isR, i ∉ isC) (hn : As.length = n) (hd : dc + 1 ≤ d) (h1 : cs + mc2 = cs2) (h2 : ss + ms2 = ss2) (h3 : cs2 ≤ mc) (h4 : ss2 ≤ ms) (hst : st = As.reverse ++ .ref b :: rest) (hr : (rest.map fun v => v.category).sum ≤ 8) (hdg : decode cc pc = .ok (.invokespecial idx, 3)) (q : Nat) (hq : pc + 3 = q)
    (kk : ∀ u : Nat → Nat, cn_AW z k nL mc ms pre sz post cs2 ss2 (wr ++ po u) q lv rest) : cn_AW z k nL mc ms pre sz post cs ss ws pc lv st := by
  have hA := cn_hA (pre := pre) C
  obtain ⟨p, l, e, R, s, m, args, below, meth, c⟩ := z
  subst hq; subst h1; subst h2; subst hst
  have hRm : R = cn_rm d mc ms := C.2.2.2.2.2.2.2.2.2.2.1
  subst hRm
  intro H lc ls hP hD hS hl
  have hts := C.2.2.2.2.2.1
  have hsub : ∀ {is : List Nat} {w : va_W}, is.map (fun i => ws[i]?) = w.map some → is.filterMap (fun i => ws[i]?) = w := by
    intro is w h
    have h9 := congrArg (List.filterMap id) h
    simpa [List.filterMap_map] using h9
  have hPc : va_P k.1 vwCl wc H := hP.sub isC (hsub hC)
  have hDc := hD.sub isC hnC hC
  have hFc := va_free (wc := wc) hD hS hA isC hC
  have cb : va_CN (cn_rm d mc ms) s args own idx y host bytes mL none (.code y bytes mL none :: mm_G) (cn_rm dc mc2 ms2) mc2 ms2 n := va_cnB (Ts := mm_G) n hts (mm_good0 wb.1) rfl rfl rfl (w1 s C.2.2.2.2.2.2.2.1) (hts _ wb.2.1) ⟨wb.2.2.1.1, wb.2.2.1.2, wb.2.2.2.1⟩ ⟨hd, by have := wb.2.2.2.2; show 8 + (mL + 11) + 40 * dc ≤ 40 * d; omega⟩
  have hrun := va_runIN (As := As) (rest := rest) (b := b) (cells := cs) (slots := ss) (locs := lc) (H := H) (p := p) (e := e) (below := below) (meth := meth) (g := F0 m pc ls (As.reverse ++ .ref b :: rest)) ⟨C.1, C.2.1, C.2.2.2.1, C.2.2.2.2.1, hts⟩ (hT H.size) ⟨cb, hy, hts _ w2⟩ ⟨cn_blind k _ _ _, fun U hU hW => ⟨rfl, by rw [hU], by rw [hU]; exact hPc, va_K.moved hW.alike C.2.2.2.2.2.2.1, cn_N.warm hW C.2.2.2.2.2.2.2.1, hDc.weaken (fun _ _ _ _ => trivial)⟩⟩ rfl hn hl.1 rfl (lv_room hr) hdg ⟨h3, h4⟩
  intro T hT2 X
  obtain ⟨v, st₀, t, T', L, h0, X', hL, e1, e2, ⟨⟨u, hv, hp, hd2⟩, hz, hk⟩, stp⟩ := hrun T hT2 X
  cases hv
  rw [h0] at hz hk
  have hPj := va_join (wr := wr) (w1 := po u) hP hD isC isR hC hR hnR hdis (fun q h1 h2 => hk q h1 h2) hFc hp hd2
  obtain ⟨t2, a1, b1⟩ := kk u T'.heap (lc ++ L) ls (by rw [e1]; exact hPj.1) hPj.2
    ⟨Nat.le_trans hS.1 (by rw [e1]; exact hz), fun q h1 h2 => by rw [e1, hk q (Nat.lt_of_lt_of_le h1 hS.1) (fun z => h2 (hFc q z))]; exact hS.2.1 q h1 h2, fun q hq => by
      rcases List.mem_append.mp hq with h | h
      · exact hS.2.2 q h
      · exact hFc _ (hL q h)⟩ hl T' rfl X'
  exact ⟨t2, stp t2 a1, b1⟩
/-- new int[n][m]: the outer row, then the inner ones -/
theorem cn_mna {n m2 : Int32} {N M cs2 ss2 idx : Nat} (C : cn_C z k own cc nL d mc ms sz) (w1 : Cond.classLink own idx "[[I" ∈ mm_G) (w2 : Cond.arrayClass .int ∈ mm_G) (hn : ¬ n < 0) (hm : ¬ m2 < 0) (hN : n.toNatClampNeg = N) (hM : m2.toNatClampNeg = M) (hb1 : N * 4 ≤ 536870912) (hb2 : M * 4 ≤ 536870912) (h1 : cs + 1 + N = cs2) (h2 : ss + N + N * M = ss2) (h3 : cs2 ≤ mc) (h4 : ss2 ≤ ms) (hdg : decode cc pc = .ok (.multianewarray idx 2, 4)) (q : Nat) (hq : pc + 4 = q)
    (kk : ∀ (a : Nat) (r : Nat → Nat), cn_AW z k nL mc ms pre sz post cs2 ss2 (ws ++ ((a, .inl (k.2.2.2.2.1, N, .inr (.inr (.inr (.inr (fun j => ((List.range N).map (fun i => some (r i))).getD j none)))))) :: (List.range N).map (fun j => (r j, .inl (k.2.1, M, .inl (fun _ => 0)))))) q lv (.ref a :: rest)) : cn_AW z k nL mc ms pre sz post cs ss ws pc lv (.int m2 :: .int n :: rest) := by
  have hA := cn_hA (pre := pre) C
  obtain ⟨p, l, e, R, s, m, args, below, meth, c⟩ := z
  subst hq; subst h1; subst h2; subst hN; subst hM
  have hRm : R = cn_rm d mc ms := C.2.2.2.2.2.2.2.2.2.2.1
  subst hRm
  intro H lc ls hP hD hS hl T hT X
  have hts := C.2.2.2.2.2.1
  have hK := C.2.2.2.2.2.2.1
  obtain ⟨vm1, cA, dd, f1, f2, X2, step⟩ := gm_step X C.1 C.2.2.2.2.1 (hts _ w1) C.2.2.2.2.2.2.2.1.2.2.2.2.2 (hts _ w2) (g := F0 m pc ls (.int m2 :: .int n :: rest)) rfl (by rw [C.2.1]; exact hdg) rfl hn hm hb1 hb2 (by rw [← Nat.add_assoc]; exact h3) (by rw [← Nat.add_assoc]; exact h4)
  have e1 : some cA = some k.2.2.2.2.1 := f1.symm.trans (hK.2 3 (k.2.2.2.2.1, .array .int) rfl).2
  have e2 : some dd = some k.2.1 := f2.symm.trans (hK.2 0 (k.2.1, .int) rfl).2
  cases e1; cases e2
  obtain ⟨g1, g2, -, -, g5, g6⟩ := gm_tf (T.setVm vm1) k.2.2.2.2.1 k.2.1 n.toNatClampNeg m2.toNatClampNeg n.toNatClampNeg
  have hTh : (T.setVm vm1).heap = H := hT
  rw [hTh] at g1 g2 g5 g6
  generalize hG : gm_t (T.setVm vm1) k.2.2.2.2.1 k.2.1 n.toNatClampNeg m2.toNatClampNeg n.toNatClampNeg = G at g1 g2 g5 g6 X2 step
  have hTs : T.heap.size = H.size := by rw [hT]
  rw [hTs] at step
  have hnew : va_P k.1 vwCl ((H.size, .inl (k.2.2.2.2.1, n.toNatClampNeg, .inr (.inr (.inr (.inr (fun j => if j < n.toNatClampNeg then some (H.size + 1 + j) else none)))))) :: (List.range n.toNatClampNeg).map (fun j => (H.size + 1 + j, .inl (k.2.1, m2.toNatClampNeg, .inl (fun _ => 0))))) G.heap := by
    intro i x hx
    cases i with
    | zero =>
      cases hx
      exact g2
    | succ i =>
      rw [List.getElem?_cons_succ, List.getElem?_map] at hx
      by_cases hi : i < n.toNatClampNeg
      · rw [List.getElem?_range hi] at hx
        cases hx
        exact g6 i hi
      · rw [List.getElem?_eq_none (by rw [List.length_range]; omega)] at hx
        cases hx
  have hadd : ∀ (i : Nat) (x : Nat × va_E), ((H.size, .inl (k.2.2.2.2.1, n.toNatClampNeg, .inr (.inr (.inr (.inr (fun j => if j < n.toNatClampNeg then some (H.size + 1 + j) else none)))))) :: (List.range n.toNatClampNeg).map (fun j => ((H.size + 1 + j, .inl (k.2.1, m2.toNatClampNeg, .inl (fun _ => 0))) : Nat × va_E)))[i]? = some x → x.1 = H.size + i := by
    intro i x hx
    cases i with
    | zero => cases hx; rfl
    | succ i =>
      rw [List.getElem?_cons_succ, List.getElem?_map] at hx
      by_cases hi : i < n.toNatClampNeg
      · rw [List.getElem?_range hi] at hx
        cases hx
        show H.size + 1 + i = _
        omega
      · rw [List.getElem?_eq_none (by rw [List.length_range]; omega)] at hx
        cases hx
  have hfn : (fun j => if j < n.toNatClampNeg then some (H.size + 1 + j) else none) = (fun j => ((List.range n.toNatClampNeg).map (fun i => some (H.size + 1 + i))).getD j none) := by
    funext j
    rw [List.getD_eq_getElem?_getD, List.getElem?_map]
    by_cases hj : j < n.toNatClampNeg
    · rw [if_pos hj, List.getElem?_range hj]; rfl
    · rw [if_neg hj, List.getElem?_eq_none (by rw [List.length_range]; omega)]; rfl
  rw [hfn] at hnew hadd
  obtain ⟨t2, a1, b1⟩ := kk H.size (fun j => H.size + 1 + j) G.heap lc ls ((hP.kept (fun i x hx => g5 x.1 ((hP i x hx).lt))).app hnew)
    (hD.app ⟨fun i j x y hx hy hxy => by have := hadd i x hx; have := hadd j y hy; omega, fun i x hx => hA _ (by have := hadd i x hx; show s.heap.size ≤ _; have := hS.1; omega)⟩ (fun i j x y hx hy hxy => by have := (hP i x hx).lt; have := hadd j y hy; omega))
    ⟨Nat.le_trans hS.1 (by omega), fun x h1 h2 => (g5 x (Nat.lt_of_lt_of_le h1 hS.1)).trans (hS.2.1 x h1 h2), hS.2.2⟩ hl G rfl X2
  exact ⟨t2, step t2 a1, b1⟩
end CNR

