theorem mw_132 : Jvm.Cond.fieldLink "ServerLine$Line" (28 : Nat) "ServerLine$Line" "crowds" "[I" ∈ mm_G := mm_in (mt_1 (List.mem_of_getElem? (l := tables_1_1) (i := 77) (by decide +kernel))) rfl
theorem fl_X3_28_X3 : mm_FL RX3 28 "ServerLine$Line" 3 RX3 TX3 8 6 := ⟨rfl, by decide, uw_X3, mw_132, Or.inl rfl⟩
def mn_len (i : Nat) : Nat := ([0, 6, 3, 216, 56] : List Nat).getD i 0
def mn_obj (k : mmK) (i : Nat) (f : Nat → Int32) : va_E :=
  .inr (3, [.int (f 0), .int (f 1), .int (f 2), .int (f 3), .ref (mmad k 1), .ref (mmad k 2), .ref (mmad k 3), .ref (mmad k 4)])
def mn_cell (k : mmK) (i : Nat) (f : Nat → Int32) : va_E := if mn_len i = 0 then mn_obj k i f else .inl (k.2.1, mn_len i, .inl f)
def mn_W (k : mmK) (F : mmS) : va_W := (List.range 5).map (fun i => (mmad k i, mn_cell k i (F i)))
theorem nc_0 (k : mmK) (f : Nat → Int32) : mn_cell k 0 f = .inr (3, [.int (f 0), .int (f 1), .int (f 2), .int (f 3), .ref (mmad k 1), .ref (mmad k 2), .ref (mmad k 3), .ref (mmad k 4)]) := rfl
theorem mn_len_lt {i : Nat} (h : mn_len i ≠ 0) : i < 5 := by
  rcases Nat.lt_or_ge i 5 with q | q
  · exact q
  · exact absurd (by unfold mn_len; rw [List.getD_eq_getElem?_getD, List.getElem?_eq_none (by simpa using q)]; rfl) h
theorem mn_arr {k : mmK} {i : Nat} {f : Nat → Int32} (h : mn_len i ≠ 0) : mn_cell k i f = .inl (k.2.1, mn_len i, .inl f) := if_neg h
theorem mn_at (k : mmK) (F : mmS) {i : Nat} (h : i < 5) : (mn_W k F)[i]? = some (mmad k i, mn_cell k i (F i)) := by
  unfold mn_W
  rw [List.getElem?_map, List.getElem?_range h]
  rfl
theorem mn_set (k : mmK) (F : mmS) {i : Nat} (h : i < 5) (f : Nat → Int32) : (mn_W k F).set i (mmad k i, mn_cell k i f) = mn_W k (va_up F i f) := by
  apply List.ext_getElem?
  intro j
  rw [List.getElem?_set]
  have hl : (mn_W k F).length = 5 := by simp [mn_W]
  by_cases hij : i = j
  · subst hij
    rw [if_pos rfl, if_pos (by rw [hl]; exact h), mn_at k _ h, va_up_self]
  · rw [if_neg hij]
    by_cases hj : j < 5
    · rw [mn_at k _ hj, mn_at k _ hj, va_up_ne _ _ (fun q => hij q.symm)]
    · rw [List.getElem?_eq_none (by rw [hl]; omega), List.getElem?_eq_none (by simp [mn_W]; omega)]
def mn_inj (k : mmK) : Prop := ∀ i j : Nat, i < 5 → j < 5 → mmad k i = mmad k j → i = j
def mn_A (k : mmK) : Nat → Prop := fun q => ∃ i : Nat, i < 5 ∧ q = mmad k i
theorem mn_lt {k : mmK} {F : mmS} {i : Nat} {q : Nat × va_E} (h : (mn_W k F)[i]? = some q) : i < 5 ∧ q = (mmad k i, mn_cell k i (F i)) := by
  have hl : i < (mn_W k F).length := (List.getElem?_eq_some_iff.mp h).1
  have h1 : i < 5 := by simpa [mn_W] using hl
  exact ⟨h1, (Option.some.inj ((mn_at k F h1).symm.trans h)).symm⟩
theorem mn_D {k : mmK} (F : mmS) (h : mn_inj k) : va_D (mn_A k) (mn_W k F) := by
  refine ⟨fun i j p q hi hj e => ?_, fun i q hi => ?_⟩
  · obtain ⟨h1, rfl⟩ := mn_lt hi
    obtain ⟨h2, rfl⟩ := mn_lt hj
    exact h i j h1 h2 e
  · obtain ⟨h1, rfl⟩ := mn_lt hi
    exact ⟨i, h1, rfl⟩
def mn_B (k : mmK) (F : mmS) (U : State) : Prop := va_P k.1 vwCl (mn_W k F) U.heap ∧ va_K k.1 vwCl (mm_ty k) U ∧ mm_N U ∧ mn_inj k
def mn_Q (k : mmK) (v0 : Option Value) (F1 : mmS) : Array Value → State → Outcome → State → Prop := fun _ st oc t => oc = .returned v0 ∧ va_P k.1 vwCl (mn_W k F1) t.heap ∧ va_F (mn_A k) st t
/-- the contract: from the pool F the method gives v0 and leaves the pool F1 -/
def mn_T (l : Launch) (k : mmK) (y : MethodName) (cc : ByteArray) (nL : Nat) (ret : Option FieldType) (d : Nat) (av : List Value) (F : mmS) (v0 : Option Value) (F1 : mmS) : Prop :=
  Met l y (.code y cc nL ret :: mm_G) (mm_rm d) (va_Pc av (mn_B k F)) (mn_Q k v0 F1) 0 0 (mn_A k)
def mn_C : mmZ → mmK → String → ByteArray → Nat → Option FieldType → Nat → Prop := fun (p, l, e, R, s, m, args, below, meth, c) k own cc nL ret d =>
  p.tables.exec = Jvm.exec ∧ c.code = cc ∧ meth.sig.returnType = ret ∧ c.maxLocals = nL ∧ s.vm.findClass own = some m.cls ∧ (∀ w ∈ mm_G, w.before args s = true) ∧ va_K k.1 vwCl (mm_ty k) s ∧ mm_N s ∧ mn_inj k ∧ meth.locks = false ∧ R = mm_rm d
def mn_AW : mmZ → mmK → Nat → Option Value → mmS → mmS → Nat → List (Nat × Value) → List Value → Prop := fun (p, l, e, R, s, m, args, below, meth, c) k nL v0 F1 F pc lv st =>
  ∀ (H : Heap) (lc : List Loc) (ls : Array Slot), va_P k.1 vwCl (mn_W k F) H → va_S (mn_A k) s.heap H lc → lv_has ls nL lv → W p l e R s m args below meth c H lc 0 0 (MQ below (mn_Q k v0 F1) args s 0 0 (mn_A k)) (F0 m pc ls st)
def mn_l : mmZ → Launch := fun z => z.2.1
theorem mn_start {l : Launch} {k : mmK} {y : MethodName} {cc : ByteArray} {nL : Nat} {ret : Option FieldType} {d : Nat} {av : List Value} {F : mmS} {v0 : Option Value} {F1 : mmS} (lv : List (Nat × Value)) (hy : plainName y.cls = true) (hn : (lg_sl av).length ≤ nL) (hlv : lv_args 0 av = lv)
    (h : ∀ z : mmZ, mn_l z = l → mn_C z k y.cls cc nL ret d → mn_AW z k nL v0 F1 F 0 lv []) : mn_T l k y cc nL ret d av F v0 F1 := by
  refine Met.ofW (cc := cc) (maxL := nL) (ret := ret) hy rfl ?_
  intro p e s m args below meth c s₁ B hml hv
  obtain ⟨rfl, hP, hK, hN, hI⟩ := hv
  have hts := atoms_spec (ws := .code y cc nL ret :: mm_G) B.pre
  have h1 := h (p, l, e, mm_rm d, s, m, av.toArray, below, meth, c) rfl ⟨B.exec, B.bytes, B.returns, hml, findClass_of_methodNamed B.named, fun w hw => hts w (List.mem_cons_of_mem _ hw), hK, hN, hI, B.notSynchronized, rfl⟩
  have hl := lv_entry av (n := nL) hn
  rw [hlv] at hl
  rw [lg_entry_eq]
  exact h1 s.heap [] _ hP va_S.rf hl

def nald (F : mmS) (q : Nat) (i : Int32) : Option Int32 := if i < 0 ∨ mn_len q ≤ i.toNatClampNeg then none else some (F q i.toNatClampNeg)
def nast (F : mmS) (q : Nat) (i v : Int32) : Option mmS := if i < 0 ∨ mn_len q ≤ i.toNatClampNeg then none else some (stF F q i.toNatClampNeg v)
section MMR
variable {z : mmZ} {k : mmK} {own : String} {cc : ByteArray} {nL d pc : Nat} {ret : Option FieldType} {v0 : Option Value} {F1 F : mmS} {lv : List (Nat × Value)} {rest : List Value}
theorem mn_lv (ks : List Nat) {lv2 : List (Nat × Value)} {st : List Value} (h : lv_pick lv ks = lv2) (kk : mn_AW z k nL v0 F1 F pc lv2 st) : mn_AW z k nL v0 F1 F pc lv st := by
  obtain ⟨p, l, e, R, s, m, args, below, meth, c⟩ := z
  exact fun H lc ls hP hS hl => kk H lc ls hP hS (lv_sub hl ks h)
theorem mn_top {x y : Int32} (h : x = y) (kk : mn_AW z k nL v0 F1 F pc lv (.int y :: rest)) : mn_AW z k nL v0 F1 F pc lv (.int x :: rest) := by rw [h]; exact kk
theorem mn_iconst {n : Int} {v : Int32} (C : mn_C z k own cc nL ret d) (hdg : decode cc pc = .ok (.iconst n, 1)) (hv : Int32.ofInt n = v) (q : Nat) (hq : pc + 1 = q) (kk : mn_AW z k nL v0 F1 F q lv (.int v :: rest)) : mn_AW z k nL v0 F1 F pc lv (rest) := by
  obtain ⟨p, l, e, R, s, m, args, below, meth, c⟩ := z
  subst hq
  exact fun H lc ls hP hS hl => lv_iconst C.1 C.2.1 hdg hv (kk H lc ls hP hS hl)
theorem mn_bipush {n : Int} {v : Int32} (C : mn_C z k own cc nL ret d) (hdg : decode cc pc = .ok (.bipush n, 2)) (hv : (Int8.ofInt n).toInt32 = v) (q : Nat) (hq : pc + 2 = q) (kk : mn_AW z k nL v0 F1 F q lv (.int v :: rest)) : mn_AW z k nL v0 F1 F pc lv (rest) := by
  obtain ⟨p, l, e, R, s, m, args, below, meth, c⟩ := z
  subst hq
  exact fun H lc ls hP hS hl => lv_bipush C.1 C.2.1 hdg hv (kk H lc ls hP hS hl)
theorem mn_iload_n {f4 : Fin 4} {i : Nat} {x : Int32} (C : mn_C z k own cc nL ret d) (hdg : decode cc pc = .ok (.iload_n f4, 1)) (hi : (f4 : Nat) = i) (j : Nat) (hj : lv[j]? = some (i, .int x)) (q : Nat) (hq : pc + 1 = q) (kk : mn_AW z k nL v0 F1 F q lv (.int x :: rest)) : mn_AW z k nL v0 F1 F pc lv (rest) := by
  obtain ⟨p, l, e, R, s, m, args, below, meth, c⟩ := z
  subst hq
  exact fun H lc ls hP hS hl => lv_iload_n C.1 C.2.1 hdg hi (lv_at hl j hj) (kk H lc ls hP hS hl)
theorem mn_iload {i : Nat} {x : Int32} (C : mn_C z k own cc nL ret d) (hdg : decode cc pc = .ok (.iload i, 2)) (j : Nat) (hj : lv[j]? = some (i, .int x)) (q : Nat) (hq : pc + 2 = q) (kk : mn_AW z k nL v0 F1 F q lv (.int x :: rest)) : mn_AW z k nL v0 F1 F pc lv (rest) := by
  obtain ⟨p, l, e, R, s, m, args, below, meth, c⟩ := z
  subst hq
  exact fun H lc ls hP hS hl => lv_iload C.1 C.2.1 hdg (lv_at hl j hj) (kk H lc ls hP hS hl)
theorem mn_aload_n {f4 : Fin 4} {i : Nat} {x : Nat} (C : mn_C z k own cc nL ret d) (hdg : decode cc pc = .ok (.aload_n f4, 1)) (hi : (f4 : Nat) = i) (j : Nat) (hj : lv[j]? = some (i, .ref x)) (q : Nat) (hq : pc + 1 = q) (kk : mn_AW z k nL v0 F1 F q lv (.ref x :: rest)) : mn_AW z k nL v0 F1 F pc lv (rest) := by
  obtain ⟨p, l, e, R, s, m, args, below, meth, c⟩ := z
  subst hq
  exact fun H lc ls hP hS hl => lv_aload_n C.1 C.2.1 hdg hi (lv_at hl j hj) (kk H lc ls hP hS hl)
theorem mn_aload {i : Nat} {x : Nat} (C : mn_C z k own cc nL ret d) (hdg : decode cc pc = .ok (.aload i, 2)) (j : Nat) (hj : lv[j]? = some (i, .ref x)) (q : Nat) (hq : pc + 2 = q) (kk : mn_AW z k nL v0 F1 F q lv (.ref x :: rest)) : mn_AW z k nL v0 F1 F pc lv (rest) := by
  obtain ⟨p, l, e, R, s, m, args, below, meth, c⟩ := z
  subst hq
  exact fun H lc ls hP hS hl => lv_aload C.1 C.2.1 hdg (lv_at hl j hj) (kk H lc ls hP hS hl)
theorem mn_istore_n {f4 : Fin 4} {i : Nat} {x : Int32} {lv2 : List (Nat × Value)} (C : mn_C z k own cc nL ret d) (hdg : decode cc pc = .ok (.istore_n f4, 1)) (hi : (f4 : Nat) = i) (hn : i < nL) (hf : (i, Value.int x) :: lv.filter (fun q => !(q.1 == i) && !(q.1 + 1 == i && q.2.category == 2)) = lv2) (q : Nat) (hq : pc + 1 = q) (kk : mn_AW z k nL v0 F1 F q lv2 rest) : mn_AW z k nL v0 F1 F pc lv (.int x :: rest) := by
  obtain ⟨p, l, e, R, s, m, args, below, meth, c⟩ := z
  subst hq
  exact fun H lc ls hP hS hl => lv_istore_n (lv' := lv2) C.1 C.2.1 hdg hi hl hn hf (fun ls hl => kk H lc ls hP hS hl)
theorem mn_istore {i : Nat} {x : Int32} {lv2 : List (Nat × Value)} (C : mn_C z k own cc nL ret d) (hdg : decode cc pc = .ok (.istore i, 2)) (hn : i < nL) (hf : (i, Value.int x) :: lv.filter (fun q => !(q.1 == i) && !(q.1 + 1 == i && q.2.category == 2)) = lv2) (q : Nat) (hq : pc + 2 = q) (kk : mn_AW z k nL v0 F1 F q lv2 rest) : mn_AW z k nL v0 F1 F pc lv (.int x :: rest) := by
  obtain ⟨p, l, e, R, s, m, args, below, meth, c⟩ := z
  subst hq
  exact fun H lc ls hP hS hl => lv_istore (lv' := lv2) C.1 C.2.1 hdg hl hn hf (fun ls hl => kk H lc ls hP hS hl)
theorem mn_iinc {i : Nat} {n : Int} {x v : Int32} {lv2 : List (Nat × Value)} (C : mn_C z k own cc nL ret d) (hdg : decode cc pc = .ok (.iinc i n, 3)) (j : Nat) (hj : lv[j]? = some (i, .int x)) (hv : x + Int32.ofInt n = v) (hn : i < nL) (hf : (i, Value.int v) :: lv.filter (fun q => !(q.1 == i) && !(q.1 + 1 == i && q.2.category == 2)) = lv2) (q : Nat) (hq : pc + 3 = q) (kk : mn_AW z k nL v0 F1 F q lv2 rest) : mn_AW z k nL v0 F1 F pc lv (rest) := by
  obtain ⟨p, l, e, R, s, m, args, below, meth, c⟩ := z
  subst hq
  exact fun H lc ls hP hS hl => lv_iinc (lv' := lv2) C.1 C.2.1 hdg hl hj hv hn hf (fun ls hl => kk H lc ls hP hS hl)
theorem mn_iadd {x y : Int32} (C : mn_C z k own cc nL ret d) (hdg : decode cc pc = .ok (.iadd, 1))  (q : Nat) (hq : pc + 1 = q) (kk : mn_AW z k nL v0 F1 F q lv (.int (x + y) :: rest)) : mn_AW z k nL v0 F1 F pc lv (.int y :: .int x :: rest) := by
  obtain ⟨p, l, e, R, s, m, args, below, meth, c⟩ := z
  subst hq
  exact fun H lc ls hP hS hl => lv_iadd C.1 C.2.1 hdg (kk H lc ls hP hS hl)
theorem mn_imul {x y : Int32} (C : mn_C z k own cc nL ret d) (hdg : decode cc pc = .ok (.imul, 1))  (q : Nat) (hq : pc + 1 = q) (kk : mn_AW z k nL v0 F1 F q lv (.int (x * y) :: rest)) : mn_AW z k nL v0 F1 F pc lv (.int y :: .int x :: rest) := by
  obtain ⟨p, l, e, R, s, m, args, below, meth, c⟩ := z
  subst hq
  exact fun H lc ls hP hS hl => lv_imul C.1 C.2.1 hdg (kk H lc ls hP hS hl)
theorem mn_icmp_lt {x y : Int32} {off : Int} (C : mn_C z k own cc nL ret d) (hdg : decode cc pc = .ok (.if_icmp .lt off, 3)) (t q : Nat) (ht : (pc : Int) + off = (t : Int)) (hq : pc + 3 = q) (kt : x < y → mn_AW z k nL v0 F1 F t lv rest) (kf : ¬ x < y → mn_AW z k nL v0 F1 F q lv rest) : mn_AW z k nL v0 F1 F pc lv (.int y :: .int x :: rest) := by
  obtain ⟨p, l, e, R, s, m, args, below, meth, c⟩ := z
  subst hq
  exact fun H lc ls hP hS hl => lv_icmp_lt C.1 C.2.1 hdg ht (fun h => kt h H lc ls hP hS hl) (fun h => kf h H lc ls hP hS hl)
theorem mn_icmp_ge {x y : Int32} {off : Int} (C : mn_C z k own cc nL ret d) (hdg : decode cc pc = .ok (.if_icmp .ge off, 3)) (t q : Nat) (ht : (pc : Int) + off = (t : Int)) (hq : pc + 3 = q) (kt : y ≤ x → mn_AW z k nL v0 F1 F t lv rest) (kf : ¬ y ≤ x → mn_AW z k nL v0 F1 F q lv rest) : mn_AW z k nL v0 F1 F pc lv (.int y :: .int x :: rest) := by
  obtain ⟨p, l, e, R, s, m, args, below, meth, c⟩ := z
  subst hq
  exact fun H lc ls hP hS hl => lv_icmp_ge C.1 C.2.1 hdg ht (fun h => kt h H lc ls hP hS hl) (fun h => kf h H lc ls hP hS hl)
theorem mn_icmp_gt {x y : Int32} {off : Int} (C : mn_C z k own cc nL ret d) (hdg : decode cc pc = .ok (.if_icmp .gt off, 3)) (t q : Nat) (ht : (pc : Int) + off = (t : Int)) (hq : pc + 3 = q) (kt : y < x → mn_AW z k nL v0 F1 F t lv rest) (kf : ¬ y < x → mn_AW z k nL v0 F1 F q lv rest) : mn_AW z k nL v0 F1 F pc lv (.int y :: .int x :: rest) := by
  obtain ⟨p, l, e, R, s, m, args, below, meth, c⟩ := z
  subst hq
  exact fun H lc ls hP hS hl => lv_icmp_gt C.1 C.2.1 hdg ht (fun h => kt h H lc ls hP hS hl) (fun h => kf h H lc ls hP hS hl)
theorem mn_icmp_le {x y : Int32} {off : Int} (C : mn_C z k own cc nL ret d) (hdg : decode cc pc = .ok (.if_icmp .le off, 3)) (t q : Nat) (ht : (pc : Int) + off = (t : Int)) (hq : pc + 3 = q) (kt : x ≤ y → mn_AW z k nL v0 F1 F t lv rest) (kf : ¬ x ≤ y → mn_AW z k nL v0 F1 F q lv rest) : mn_AW z k nL v0 F1 F pc lv (.int y :: .int x :: rest) := by
  obtain ⟨p, l, e, R, s, m, args, below, meth, c⟩ := z
  subst hq
  exact fun H lc ls hP hS hl => lv_icmp_le C.1 C.2.1 hdg ht (fun h => kt h H lc ls hP hS hl) (fun h => kf h H lc ls hP hS hl)
theorem mn_goto {off : Int} (C : mn_C z k own cc nL ret d) (hdg : decode cc pc = .ok (.goto off, 3)) (t : Nat) (ht : (pc : Int) + off = (t : Int)) (kk : mn_AW z k nL v0 F1 F t lv rest) : mn_AW z k nL v0 F1 F pc lv rest := by
  obtain ⟨p, l, e, R, s, m, args, below, meth, c⟩ := z
  exact fun H lc ls hP hS hl => lv_goto C.1 C.2.1 hdg ht (kk H lc ls hP hS hl)
theorem mn_get {idx ci N j i : Nat} {ref Cn : String} {T : u_T} {fs : List Value} {v : Value} (C : mn_C z k own cc nL ret d) (w : mm_FL own idx ref ci Cn T N j) (hi : i < 5) (hc : mn_cell k i (F i) = .inr (ci, fs)) (hv : fs[j]? = some v) (hdg : decode cc pc = .ok (.getfield idx, 3)) (q : Nat) (hq : pc + 3 = q) (kk : mn_AW z k nL v0 F1 F q lv (v :: rest)) : mn_AW z k nL v0 F1 F pc lv (.ref (mmad k i) :: rest) := by
  obtain ⟨p, l, e, R, s, m, args, below, meth, c⟩ := z
  subst hq
  exact fun H lc ls hP hS hl => va_get (D := k.1) (C := Cn) (T := T) (N := N) (Ts := mm_G) C.1 C.2.1 C.2.2.2.2.2.1 w.2.2.1 C.2.2.2.2.1 C.2.2.2.2.2.2.1 hP i (by rw [mn_at k F hi, hc]) w.1 j w.2.1 (C.2.2.2.2.2.1 _ w.2.2.2.1) (mm_same C.2.2.2.2.2.1 w) hv hdg (kk H lc ls hP hS hl)
theorem mn_put {idx ci N j i : Nat} {ref Cn : String} {T : u_T} {fs : List Value} {v : Value} {x : Int32} {F2 : mmS} {ty : FieldType} (C : mn_C z k own cc nL ret d) (w : mm_FL own idx ref ci Cn T N j) (hi : i < 5) (hc : mn_cell k i (F i) = .inr (ci, fs)) (hs : mn_cell k i (upd (F i) j x) = .inr (ci, fs.set j v)) (ty0 : Nat → FieldType) (hty : ∀ k, k < N → parseFieldDescriptor (T k).2.2.1 = some (ty0 k)) (hnm : ∀ a, a < N → ∀ b, b < N → a ≠ b → (T a).2.1 ≠ (T b).2.1) (hfin : (T j).2.2.2 = false) (hd : parseFieldDescriptor (T j).2.2.1 = some ty) (hn : narrow ty v = v) (hft : fits ty v = true) (hl0 : j < fs.length) (he : stF F i j x = F2) (hdg : decode cc pc = .ok (.putfield idx, 3)) (q : Nat) (hq : pc + 3 = q) (kk : mn_AW z k nL v0 F1 F2 q lv rest) : mn_AW z k nL v0 F1 F pc lv (v :: .ref (mmad k i) :: rest) := by
  obtain ⟨p, l, e, R, s, m, args, below, meth, c⟩ := z
  subst hq
  subst he
  exact fun H lc ls hP hS hl => va_put (D := k.1) (C := Cn) (T := T) (N := N) (Ts := mm_G) (A := mn_A k) C.1 C.2.1 C.2.2.2.2.2.1 w.2.2.1 ty0 hty hnm C.2.2.2.2.1 C.2.2.2.2.2.2.1 hP (mn_D F C.2.2.2.2.2.2.2.2.1) hS i (by rw [mn_at k F hi, hc]) w.1 j w.2.1 (C.2.2.2.2.2.1 _ w.2.2.2.1) (mm_same C.2.2.2.2.2.1 w) hfin hd hn hft hl0 hdg (fun H1 l1 hP1 _ hS1 => kk H1 l1 ls (by
    rw [← hs, mn_set k F hi] at hP1
    exact hP1) hS1 hl)
theorem mn_iald {i : Nat} {x v : Int32} (C : mn_C z k own cc nL ret d) (he : nald F i x = some v) (hdg : decode cc pc = .ok (.iaload, 1)) (q : Nat) (hq : pc + 1 = q) (kk : mn_AW z k nL v0 F1 F q lv (.int v :: rest)) : mn_AW z k nL v0 F1 F pc lv (.int x :: .ref (mmad k i) :: rest) := by
  obtain ⟨p, l, e, R, s, m, args, below, meth, c⟩ := z
  subst hq
  unfold nald at he
  by_cases hy : x < 0 ∨ mn_len i ≤ x.toNatClampNeg
  · rw [if_pos hy] at he; cases he
  · rw [if_neg hy] at he
    cases he
    have hl : mn_len i ≠ 0 := fun h => hy (Or.inr (by rw [h]; exact Nat.zero_le _))
    exact fun H lc ls hP hS hl2 => va_iald C.1 C.2.1 C.2.2.2.2.2.2.1 hP i 0 (by rw [mn_at k F (mn_len_lt hl), mn_arr hl]) rfl hy hdg (kk H lc ls hP hS hl2)
theorem mn_iast {i : Nat} {x v : Int32} {F2 : mmS} (C : mn_C z k own cc nL ret d) (he : nast F i x v = some F2) (hdg : decode cc pc = .ok (.iastore, 1)) (q : Nat) (hq : pc + 1 = q) (kk : mn_AW z k nL v0 F1 F2 q lv rest) : mn_AW z k nL v0 F1 F pc lv (.int v :: .int x :: .ref (mmad k i) :: rest) := by
  obtain ⟨p, l, e, R, s, m, args, below, meth, c⟩ := z
  subst hq
  unfold nast at he
  by_cases hy : x < 0 ∨ mn_len i ≤ x.toNatClampNeg
  · rw [if_pos hy] at he; cases he
  · rw [if_neg hy] at he
    cases he
    have hl : mn_len i ≠ 0 := fun h => hy (Or.inr (by rw [h]; exact Nat.zero_le _))
    exact fun H lc ls hP hS hl2 => va_iast C.1 C.2.1 C.2.2.2.2.2.2.1 hP (mn_D F C.2.2.2.2.2.2.2.2.1) hS i 0 (by rw [mn_at k F (mn_len_lt hl), mn_arr hl]) rfl hy hdg (fun H1 l1 hP1 _ hS1 => kk H1 l1 ls (by
      rw [← mn_arr (k := k) hl, mn_set k F (mn_len_lt hl)] at hP1
      exact hP1) hS1 hl2)
theorem mn_iretW {x r : Int32} (C : mn_C z k own cc nL (some .int) d) (h : some (x, F) = some (r, F1)) (hdg : decode cc pc = .ok (.ireturn, 1)) : mn_AW z k nL (some (.int r)) F1 F pc lv [.int x] := by
  obtain ⟨p, l, e, R, s, m, args, below, meth, c⟩ := z
  cases h
  exact fun H lc ls hP hS hl => W.iret C.1 C.2.1 C.2.2.1 (fun t ht hW => ⟨rfl, by rw [ht]; exact hP, hS.F ht⟩) hS.2.2 hdg C.2.2.2.2.2.2.2.2.2.1
theorem mn_iretP {x r : Int32} (C : mn_C z k own cc nL (some .int) d) (h : some x = some r) (hdg : decode cc pc = .ok (.ireturn, 1)) : mn_AW z k nL (some (.int r)) F F pc lv [.int x] := by
  cases h
  exact mn_iretW C rfl hdg
theorem mn_vretW (C : mn_C z k own cc nL none d) (h : some F = some F1) (hdg : decode cc pc = .ok (.return_, 1)) : mn_AW z k nL none F1 F pc lv [] := by
  obtain ⟨p, l, e, R, s, m, args, below, meth, c⟩ := z
  cases h
  exact fun H lc ls hP hS hl => W.vret C.1 C.2.1 C.2.2.1 (fun t ht hW => ⟨rfl, by rw [ht]; exact hP, hS.F ht⟩) hS.2.2 hdg C.2.2.2.2.2.2.2.2.2.1
end MMR
theorem mn_blind (k : mmK) (av : List Value) (F : mmS) : FrameBlind (va_Pc av (mn_B k F)) := fun a U g mk h => ⟨h.1, h.2.1, va_K.moved (u := U) (U := U.calling g mk a) (Vm.Alike.refl U.vm) h.2.2.1, mm_N.same (s := U) (U := U.calling g mk a) rfl h.2.2.2.1, h.2.2.2.2⟩
theorem mn_pre {k : mmK} {F : mmS} {s : State} {H : Heap} {av : List Value} (hP : va_P k.1 vwCl (mn_W k F) H) (hK : va_K k.1 vwCl (mm_ty k) s) (hN : mm_N s) (hI : mn_inj k) : ∀ U : State, U.heap = H → s.WarmedH U.vm → va_Pc av (mn_B k F) av.toArray U := fun U hU hW => ⟨rfl, by rw [hU]; exact hP, va_K.moved hW.alike hK, mm_N.warm hW hN, hI⟩
section MMA
variable {p : Program} {l : Launch} {e : Env} {R : Room} {s : State} {m : MethodId} {args : Array Value} {below : List Frame} {meth : Method} {c : Code} {H : Heap} {lc : List Loc} {Q : State → Prop}
theorem mn_after {k : mmK} {v : Option Value} {F2 : mmS} {a : Array Value} {pc : Nat} {ls : Array Slot} {st0 rest : List Value} (hr : va_Run p l e R s m args below meth c H lc 0 0 0 0 (F0 m pc ls st0) rest (mn_Q k v F2 a) (mn_A k)) (hS : va_S (mn_A k) s.heap H lc)
    (kk : ∀ (H1 : Heap) (lc1 : List Loc), va_P k.1 vwCl (mn_W k F2) H1 → va_S (mn_A k) s.heap H1 lc1 → W p l e R s m args below meth c H1 lc1 0 0 Q (F0 m (pc + 3) ls (v.toList ++ rest))) : W p l e R s m args below meth c H lc 0 0 Q (F0 m pc ls st0) := by
  intro T hT X
  obtain ⟨v2, st₀, t, T', L, h0, X', hL, e1, e2, ⟨hv, hp, hz, hk⟩, st⟩ := hr T hT X
  cases hv
  rw [h0] at hz hk
  obtain ⟨t2, a1, b1⟩ := kk T'.heap (lc ++ L) (by rw [e1]; exact hp)
    ⟨Nat.le_trans hS.1 (by rw [e1]; exact hz), fun q h1 h2 => by rw [e1, hk q (Nat.lt_of_lt_of_le h1 hS.1) h2]; exact hS.2.1 q h1 h2, fun q hq => by
      rcases List.mem_append.mp hq with h | h
      · exact hS.2.2 q h
      · exact hL q h⟩ T' rfl X'
  exact ⟨t2, st t2 a1, b1⟩
end MMA
section MMC
variable {z : mmZ} {k : mmK} {own : String} {cc : ByteArray} {nL d pc : Nat} {ret : Option FieldType} {v0 : Option Value} {F1 F : mmS} {lv : List (Nat × Value)} {rest : List Value}
variable {y : MethodName} {bytes : ByteArray} {mL dc n idx : Nat} {rt : Option FieldType} {F2 : mmS} {v : Option Value}
theorem mn_callV {i ci N : Nat} {Cn : String} {T : u_T} {fs : List Value} {st : List Value} (As : List Value) (C : mn_C z k own cc nL ret d) (hT : mn_T (mn_l z) k y bytes mL rt dc (.ref (mmad k i) :: As) F v F2) (wb : mm_CB y bytes mL rt n) (w : mm_VW own idx y) (hi : i < 5) (hc : mn_cell k i (F i) = .inr (ci, fs)) (hcl : vwCl[ci]? = some (Cn, T, N)) (hy : y.cls = Cn) (hn : As.length = n) (hd : dc + 1 ≤ d) (hst : st = As.reverse ++ .ref (mmad k i) :: rest) (hr : (rest.map fun v => v.category).sum ≤ 8) (hdg : decode cc pc = .ok (.invokevirtual idx, 3)) (q : Nat) (hq : pc + 3 = q) (kk : mn_AW z k nL v0 F1 F2 q lv (v.toList ++ rest)) : mn_AW z k nL v0 F1 F pc lv st := by
  obtain ⟨p, l, e, R, s, m, args, below, meth, c⟩ := z
  subst hq
  subst hst
  subst hy
  have hR : R = mm_rm d := C.2.2.2.2.2.2.2.2.2.2
  subst hR
  intro H lc ls hP hS hl
  have hts := C.2.2.2.2.2.1
  have cb : CallB (mm_rm d) s args own idx y bytes mL rt (.code y bytes mL rt :: mm_G) (mm_rm dc) 0 0 n := callB_of (Ts := mm_G) n hts (mm_good0 wb.1) rfl rfl rfl (hts _ wb.2.1) (hts _ w.1) ⟨wb.2.2.1.1, wb.2.2.1.2, wb.2.2.2.1⟩ ⟨hd, by have := wb.2.2.2.2; show 8 + (mL + 11) + 40 * dc ≤ 40 * d; omega⟩
  exact mn_after (va_runV (As := As) (rest := rest) (C := y.cls) (b := mmad k i) (g := F0 m pc ls (As.reverse ++ .ref (mmad k i) :: rest)) ⟨C.1, C.2.1, C.2.2.2.1, C.2.2.2.2.1, hts⟩ hT ⟨cb, hts _ w.2.1, hts _ w.2.2⟩ ⟨mn_blind k _ F, va_recv C.2.2.2.2.2.2.1 hP (ci := ci) (q0 := i) hcl (by rw [mn_at k F hi, hc]), mn_pre hP C.2.2.2.2.2.2.1 C.2.2.2.2.2.2.2.1 C.2.2.2.2.2.2.2.2.1⟩ rfl hn hl.1 rfl (lv_room hr) hdg ⟨Nat.zero_le _, Nat.zero_le _⟩) hS (fun H1 l1 hP1 hS1 => kk H1 l1 ls hP1 hS1 hl)
theorem mn_callS {st : List Value} (As : List Value) (C : mn_C z k own cc nL ret d) (hT : mn_T (mn_l z) k y bytes mL rt dc As F v F2) (wb : mm_CB y bytes mL rt n) (w : mm_SW own idx y) (hn : As.length = n) (hd : dc + 1 ≤ d) (hst : st = As.reverse ++ rest) (hr : (rest.map fun v => v.category).sum ≤ 8) (hdg : decode cc pc = .ok (.invokestatic idx, 3)) (q : Nat) (hq : pc + 3 = q) (kk : mn_AW z k nL v0 F1 F2 q lv (v.toList ++ rest)) : mn_AW z k nL v0 F1 F pc lv st := by
  obtain ⟨p, l, e, R, s, m, args, below, meth, c⟩ := z
  subst hq
  subst hst
  have hR : R = mm_rm d := C.2.2.2.2.2.2.2.2.2.2
  subst hR
  intro H lc ls hP hS hl
  have hts := C.2.2.2.2.2.1
  have cb : CallB (mm_rm d) s args own idx y bytes mL rt (.code y bytes mL rt :: mm_G) (mm_rm dc) 0 0 n := callB_of (Ts := mm_G) n hts (mm_good0 wb.1) rfl rfl rfl (hts _ wb.2.1) (hts _ w.1) ⟨wb.2.2.1.1, wb.2.2.1.2, wb.2.2.2.1⟩ ⟨hd, by have := wb.2.2.2.2; show 8 + (mL + 11) + 40 * dc ≤ 40 * d; omega⟩
  exact mn_after (va_runS (As := As) (rest := rest) (g := F0 m pc ls (As.reverse ++ rest)) ⟨C.1, C.2.1, C.2.2.2.1, C.2.2.2.2.1, hts⟩ hT ⟨cb, hts _ w.2⟩ ⟨mn_blind k _ F, mn_pre hP C.2.2.2.2.2.2.1 C.2.2.2.2.2.2.2.1 C.2.2.2.2.2.2.2.2.1⟩ rfl hn hl.1 rfl (lv_room hr) hdg ⟨Nat.zero_le _, Nat.zero_le _⟩) hS (fun H1 l1 hP1 hS1 => kk H1 l1 ls hP1 hS1 hl)
end MMC
def nm_X3_coded (a0 : Int32) (a1 : Int32) (a2 : Int32) : Option (Int32) :=
  some ((a0 + ((6 : Int32) * a1)) + ((36 : Int32) * a2))
set_option maxHeartbeats 4000000 in
set_option maxRecDepth 100000 in
theorem nc_X3_coded {l : Launch} {k : mmK} {F : mmS} {a0 : Int32} {a1 : Int32} {a2 : Int32} {r : Int32} (h : nm_X3_coded a0 a1 a2 = some r) : mn_T l k yX3_coded cX3_coded 3 (some .int) 0 [.int a0, .int a1, .int a2] F (some (.int r)) F := by
  refine mn_start [(0, .int a0), (1, .int a1), (2, .int a2)] (by decide) (Nat.le_of_ble_eq_true rfl) rfl ?_
  intro z hz C
  subst hz
  have C : mn_C z k RX3 cX3_coded 3 (some .int) 0 := C
  replace h := mk0 h
  unfold nm_X3_coded at h
  refine mn_iload_n C dX3_coded_0 rfl 0 rfl 1 rfl ?_
  refine mn_bipush (v := (6 : Int32)) C dX3_coded_1 (by decide) 3 rfl ?_
  refine mn_iload_n C dX3_coded_3 rfl 1 rfl 4 rfl ?_
  refine mn_imul C dX3_coded_4 5 rfl ?_
  refine mn_iadd C dX3_coded_5 6 rfl ?_
  refine mn_bipush (v := (36 : Int32)) C dX3_coded_6 (by decide) 8 rfl ?_
  refine mn_iload_n C dX3_coded_8 rfl 2 rfl 9 rfl ?_
  refine mn_imul C dX3_coded_9 10 rfl ?_
  refine mn_iadd C dX3_coded_10 11 rfl ?_
  exact mn_iretP C (h) dX3_coded_11
def nm_X3_numberCrowds_0_L21 (v2 : Int32) (v6 : Int32) : Nat → Int32 → Int32 → mmS → Option (Int32 × mmS)
  | 0, _, _, _ => none
  | n12 + 1, v9, v10, G11 => if (6 : Int32) ≤ v10 then (some ((v9, G11))) else (Option.bind (nm_X3_coded v10 v6 v2) fun x13 => Option.bind (nast G11 3 x13 v9) fun G14 => Option.bind (nm_X3_coded v10 v2 v6) fun x15 => Option.bind (nast G14 3 x15 v9) fun G16 => Option.bind (nm_X3_coded v6 v10 v2) fun x17 => Option.bind (nast G16 3 x17 v9) fun G18 => Option.bind (nm_X3_coded v6 v2 v10) fun x19 => Option.bind (nast G18 3 x19 v9) fun G20 => Option.bind (nm_X3_coded v2 v10 v6) fun x21 => Option.bind (nast G20 3 x21 v9) fun G22 => Option.bind (nm_X3_coded v2 v6 v10) fun x23 => Option.bind (nast G22 3 x23 v9) fun G24 => mlet (v9 + (1 : Int32)) fun x25 => mlet (v10 + (1 : Int32)) fun x26 => nm_X3_numberCrowds_0_L21 v2 v6 n12 x25 x26 G24)
def nm_X3_numberCrowds_0_L12 (v2 : Int32) : Nat → Int32 → Int32 → mmS → Option (Int32 × mmS)
  | 0, _, _, _ => none
  | n8 + 1, v5, v6, G7 => if (6 : Int32) ≤ v6 then (some ((v5, G7))) else (bd2 (nm_X3_numberCrowds_0_L21 v2 v6 300 v5 v6 G7) fun y27 G28 => mlet (v6 + (1 : Int32)) fun x29 => nm_X3_numberCrowds_0_L12 v2 n8 y27 x29 G28)
def nm_X3_numberCrowds_0_L4 : Nat → Int32 → Int32 → mmS → Option (mmS)
  | 0, _, _, _ => none
  | n4 + 1, v1, v2, G3 => if (6 : Int32) ≤ v2 then (some ((G3))) else (bd2 (nm_X3_numberCrowds_0_L12 v2 300 v1 v2 G3) fun y30 G31 => mlet (v2 + (1 : Int32)) fun x32 => nm_X3_numberCrowds_0_L4 n4 y30 x32 G31)
def nm_X3_numberCrowds_0 (F : mmS)  : Option (mmS) :=
  bd1 (nm_X3_numberCrowds_0_L4 300 (0 : Int32) (0 : Int32) F) fun G33 => some G33
set_option maxHeartbeats 4000000 in
set_option maxRecDepth 100000 in
theorem nc_X3_numberCrowds_0 {l : Launch} {k : mmK} {F : mmS}  {F1 : mmS} (h : nm_X3_numberCrowds_0 F = some F1) : mn_T l k yX3_numberCrowds cX3_numberCrowds 5 none 1 [.ref (mmad k 0)] F none F1 := by
  refine mn_start [(0, .ref (mmad k 0))] (by decide) (Nat.le_of_ble_eq_true rfl) rfl ?_
  intro z hz C
  subst hz
  have C : mn_C z k RX3 cX3_numberCrowds 5 none 1 := C
  replace h := mk0 h
  unfold nm_X3_numberCrowds_0 at h
  refine mn_iconst (v := (0 : Int32)) C dX3_numberCrowds_0 (by decide) 1 rfl ?_
  refine mn_istore_n (lv2 := [(1, .int (0 : Int32)), (0, .ref (mmad k 0))]) C dX3_numberCrowds_1 rfl (by decide) rfl 2 rfl ?_
  refine mn_iconst (v := (0 : Int32)) C dX3_numberCrowds_2 (by decide) 3 rfl ?_
  refine mn_istore_n (lv2 := [(2, .int (0 : Int32)), (1, .int (0 : Int32)), (0, .ref (mmad k 0))]) C dX3_numberCrowds_3 rfl (by decide) rfl 4 rfl ?_
  refine mn_lv [2, 1, 0] rfl ?_
  have hL4 : ∀ (K : (mmS) → Option (mmS)) (hK : ∀ (G3 : mmS) , K (G3) = some F1 → mn_AW z k 5 none F1 G3 127 [] []) (n4 : Nat) (v1 : Int32) (v2 : Int32) (G3 : mmS) , (nm_X3_numberCrowds_0_L4 n4 v1 v2 G3).bind K = some F1 → mn_AW z k 5 none F1 G3 4 [(0, .ref (mmad k 0)), (1, .int v1), (2, .int v2)] [] := by
    intro K hK n4
    induction n4 with
    | zero => intro v1 v2 G3 h; rw [nm_X3_numberCrowds_0_L4] at h; cases h
    | succ n4 ih =>
      intro v1 v2 G3 h
      rw [nm_X3_numberCrowds_0_L4] at h
      refine mn_iload_n C dX3_numberCrowds_4 rfl 2 rfl 5 rfl ?_
      refine mn_bipush (v := (6 : Int32)) C dX3_numberCrowds_5 (by decide) 7 rfl ?_
      refine mn_icmp_ge C dX3_numberCrowds_7 127 10 (by decide) rfl (fun hc => ?_) (fun hc => ?_)
      · rw [if_pos hc] at h
        refine mn_lv [] rfl ?_
        exact hK _ h
      · rw [if_neg hc] at h
        refine mn_iload_n C dX3_numberCrowds_10 rfl 2 rfl 11 rfl ?_
        refine mn_istore_n (lv2 := [(3, .int v2), (0, .ref (mmad k 0)), (1, .int v1), (2, .int v2)]) C dX3_numberCrowds_11 rfl (by decide) rfl 12 rfl ?_
        refine mn_lv [1, 2, 3, 0] rfl ?_
        have hL12 : ∀ (K : (Int32 × mmS) → Option (mmS)) (hK : ∀ (v5 : Int32) (G7 : mmS) , K (v5, G7) = some F1 → mn_AW z k 5 none F1 G7 121 [(0, .ref (mmad k 0)), (1, .int v5), (2, .int v2)] []) (n8 : Nat) (v5 : Int32) (v6 : Int32) (G7 : mmS) , (nm_X3_numberCrowds_0_L12 v2 n8 v5 v6 G7).bind K = some F1 → mn_AW z k 5 none F1 G7 12 [(0, .ref (mmad k 0)), (1, .int v5), (2, .int v2), (3, .int v6)] [] := by
          intro K hK n8
          induction n8 with
          | zero => intro v5 v6 G7 h; rw [nm_X3_numberCrowds_0_L12] at h; cases h
          | succ n8 ih =>
            intro v5 v6 G7 h
            rw [nm_X3_numberCrowds_0_L12] at h
            refine mn_iload_n C dX3_numberCrowds_12 rfl 3 rfl 13 rfl ?_
            refine mn_bipush (v := (6 : Int32)) C dX3_numberCrowds_13 (by decide) 15 rfl ?_
            refine mn_icmp_ge C dX3_numberCrowds_15 121 18 (by decide) rfl (fun hc => ?_) (fun hc => ?_)
            · rw [if_pos hc] at h
              refine mn_lv [0, 1, 2] rfl ?_
              exact hK _ _ h
            · rw [if_neg hc] at h
              refine mn_iload_n C dX3_numberCrowds_18 rfl 3 rfl 19 rfl ?_
              refine mn_istore (lv2 := [(4, .int v6), (0, .ref (mmad k 0)), (1, .int v5), (2, .int v2), (3, .int v6)]) C dX3_numberCrowds_19 (by decide) rfl 21 rfl ?_
              refine mn_lv [1, 2, 3, 4, 0] rfl ?_
              have hL21 : ∀ (K : (Int32 × mmS) → Option (mmS)) (hK : ∀ (v9 : Int32) (G11 : mmS) , K (v9, G11) = some F1 → mn_AW z k 5 none F1 G11 115 [(0, .ref (mmad k 0)), (1, .int v9), (2, .int v2), (3, .int v6)] []) (n12 : Nat) (v9 : Int32) (v10 : Int32) (G11 : mmS) , (nm_X3_numberCrowds_0_L21 v2 v6 n12 v9 v10 G11).bind K = some F1 → mn_AW z k 5 none F1 G11 21 [(0, .ref (mmad k 0)), (1, .int v9), (2, .int v2), (3, .int v6), (4, .int v10)] [] := by
                intro K hK n12
                induction n12 with
                | zero => intro v9 v10 G11 h; rw [nm_X3_numberCrowds_0_L21] at h; cases h
                | succ n12 ih =>
                  intro v9 v10 G11 h
                  rw [nm_X3_numberCrowds_0_L21] at h
                  refine mn_iload C dX3_numberCrowds_21 4 rfl 23 rfl ?_
                  refine mn_bipush (v := (6 : Int32)) C dX3_numberCrowds_23 (by decide) 25 rfl ?_
                  refine mn_icmp_ge C dX3_numberCrowds_25 115 28 (by decide) rfl (fun hc => ?_) (fun hc => ?_)
                  · rw [if_pos hc] at h
                    refine mn_lv [0, 1, 2, 3] rfl ?_
                    exact hK _ _ h
                  · rw [if_neg hc] at h
                    refine mn_aload_n C dX3_numberCrowds_28 rfl 0 rfl 29 rfl ?_
                    refine mn_get C fl_X3_28_X3 (by decide) (nc_0 k _) rfl dX3_numberCrowds_29 32 rfl ?_
                    refine mn_iload C dX3_numberCrowds_32 4 rfl 34 rfl ?_
                    refine mn_iload_n C dX3_numberCrowds_34 rfl 3 rfl 35 rfl ?_
                    refine mn_iload_n C dX3_numberCrowds_35 rfl 2 rfl 36 rfl ?_
                    obtain ⟨x13, ex13, h⟩ := mb h
                    refine mn_callS [.int v10, .int v6, .int v2] C (nc_X3_coded ex13) wb_X3_coded ws_X3_40 rfl (by omega) rfl (Nat.le_of_ble_eq_true rfl) dX3_numberCrowds_36 39 rfl ?_
                    show mn_AW z k 5 none F1 G11 39 [(0, .ref (mmad k 0)), (1, .int v9), (2, .int v2), (3, .int v6), (4, .int v10)] [.int x13, .ref (mmad k 3)]
                    refine mn_iload_n C dX3_numberCrowds_39 rfl 1 rfl 40 rfl ?_
                    obtain ⟨G14, eG14, h⟩ := mb h
                    refine mn_iast C eG14 dX3_numberCrowds_40 41 rfl ?_
                    refine mn_aload_n C dX3_numberCrowds_41 rfl 0 rfl 42 rfl ?_
                    refine mn_get C fl_X3_28_X3 (by decide) (nc_0 k _) rfl dX3_numberCrowds_42 45 rfl ?_
                    refine mn_iload C dX3_numberCrowds_45 4 rfl 47 rfl ?_
                    refine mn_iload_n C dX3_numberCrowds_47 rfl 2 rfl 48 rfl ?_
                    refine mn_iload_n C dX3_numberCrowds_48 rfl 3 rfl 49 rfl ?_
                    obtain ⟨x15, ex15, h⟩ := mb h
                    refine mn_callS [.int v10, .int v2, .int v6] C (nc_X3_coded ex15) wb_X3_coded ws_X3_40 rfl (by omega) rfl (Nat.le_of_ble_eq_true rfl) dX3_numberCrowds_49 52 rfl ?_
                    show mn_AW z k 5 none F1 G14 52 [(0, .ref (mmad k 0)), (1, .int v9), (2, .int v2), (3, .int v6), (4, .int v10)] [.int x15, .ref (mmad k 3)]
                    refine mn_iload_n C dX3_numberCrowds_52 rfl 1 rfl 53 rfl ?_
                    obtain ⟨G16, eG16, h⟩ := mb h
                    refine mn_iast C eG16 dX3_numberCrowds_53 54 rfl ?_
                    refine mn_aload_n C dX3_numberCrowds_54 rfl 0 rfl 55 rfl ?_
                    refine mn_get C fl_X3_28_X3 (by decide) (nc_0 k _) rfl dX3_numberCrowds_55 58 rfl ?_
                    refine mn_iload_n C dX3_numberCrowds_58 rfl 3 rfl 59 rfl ?_
                    refine mn_iload C dX3_numberCrowds_59 4 rfl 61 rfl ?_
                    refine mn_iload_n C dX3_numberCrowds_61 rfl 2 rfl 62 rfl ?_
                    obtain ⟨x17, ex17, h⟩ := mb h
                    refine mn_callS [.int v6, .int v10, .int v2] C (nc_X3_coded ex17) wb_X3_coded ws_X3_40 rfl (by omega) rfl (Nat.le_of_ble_eq_true rfl) dX3_numberCrowds_62 65 rfl ?_
                    show mn_AW z k 5 none F1 G16 65 [(0, .ref (mmad k 0)), (1, .int v9), (2, .int v2), (3, .int v6), (4, .int v10)] [.int x17, .ref (mmad k 3)]
                    refine mn_iload_n C dX3_numberCrowds_65 rfl 1 rfl 66 rfl ?_
                    obtain ⟨G18, eG18, h⟩ := mb h
                    refine mn_iast C eG18 dX3_numberCrowds_66 67 rfl ?_
                    refine mn_aload_n C dX3_numberCrowds_67 rfl 0 rfl 68 rfl ?_
                    refine mn_get C fl_X3_28_X3 (by decide) (nc_0 k _) rfl dX3_numberCrowds_68 71 rfl ?_
                    refine mn_iload_n C dX3_numberCrowds_71 rfl 3 rfl 72 rfl ?_
                    refine mn_iload_n C dX3_numberCrowds_72 rfl 2 rfl 73 rfl ?_
                    refine mn_iload C dX3_numberCrowds_73 4 rfl 75 rfl ?_
                    obtain ⟨x19, ex19, h⟩ := mb h
                    refine mn_callS [.int v6, .int v2, .int v10] C (nc_X3_coded ex19) wb_X3_coded ws_X3_40 rfl (by omega) rfl (Nat.le_of_ble_eq_true rfl) dX3_numberCrowds_75 78 rfl ?_
                    show mn_AW z k 5 none F1 G18 78 [(0, .ref (mmad k 0)), (1, .int v9), (2, .int v2), (3, .int v6), (4, .int v10)] [.int x19, .ref (mmad k 3)]
                    refine mn_iload_n C dX3_numberCrowds_78 rfl 1 rfl 79 rfl ?_
                    obtain ⟨G20, eG20, h⟩ := mb h
                    refine mn_iast C eG20 dX3_numberCrowds_79 80 rfl ?_
                    refine mn_aload_n C dX3_numberCrowds_80 rfl 0 rfl 81 rfl ?_
                    refine mn_get C fl_X3_28_X3 (by decide) (nc_0 k _) rfl dX3_numberCrowds_81 84 rfl ?_
                    refine mn_iload_n C dX3_numberCrowds_84 rfl 2 rfl 85 rfl ?_
                    refine mn_iload C dX3_numberCrowds_85 4 rfl 87 rfl ?_
                    refine mn_iload_n C dX3_numberCrowds_87 rfl 3 rfl 88 rfl ?_
                    obtain ⟨x21, ex21, h⟩ := mb h
                    refine mn_callS [.int v2, .int v10, .int v6] C (nc_X3_coded ex21) wb_X3_coded ws_X3_40 rfl (by omega) rfl (Nat.le_of_ble_eq_true rfl) dX3_numberCrowds_88 91 rfl ?_
                    show mn_AW z k 5 none F1 G20 91 [(0, .ref (mmad k 0)), (1, .int v9), (2, .int v2), (3, .int v6), (4, .int v10)] [.int x21, .ref (mmad k 3)]
                    refine mn_iload_n C dX3_numberCrowds_91 rfl 1 rfl 92 rfl ?_
                    obtain ⟨G22, eG22, h⟩ := mb h
                    refine mn_iast C eG22 dX3_numberCrowds_92 93 rfl ?_
                    refine mn_aload_n C dX3_numberCrowds_93 rfl 0 rfl 94 rfl ?_
                    refine mn_get C fl_X3_28_X3 (by decide) (nc_0 k _) rfl dX3_numberCrowds_94 97 rfl ?_
                    refine mn_iload_n C dX3_numberCrowds_97 rfl 2 rfl 98 rfl ?_
                    refine mn_iload_n C dX3_numberCrowds_98 rfl 3 rfl 99 rfl ?_
                    refine mn_iload C dX3_numberCrowds_99 4 rfl 101 rfl ?_
                    obtain ⟨x23, ex23, h⟩ := mb h
                    refine mn_callS [.int v2, .int v6, .int v10] C (nc_X3_coded ex23) wb_X3_coded ws_X3_40 rfl (by omega) rfl (Nat.le_of_ble_eq_true rfl) dX3_numberCrowds_101 104 rfl ?_
                    show mn_AW z k 5 none F1 G22 104 [(0, .ref (mmad k 0)), (1, .int v9), (2, .int v2), (3, .int v6), (4, .int v10)] [.int x23, .ref (mmad k 3)]
                    refine mn_iload_n C dX3_numberCrowds_104 rfl 1 rfl 105 rfl ?_
                    obtain ⟨G24, eG24, h⟩ := mb h
                    refine mn_iast C eG24 dX3_numberCrowds_105 106 rfl ?_
                    obtain ⟨x25, ex25, h⟩ := me h
                    refine mn_iinc (v := x25) (lv2 := [(1, .int x25), (0, .ref (mmad k 0)), (2, .int v2), (3, .int v6), (4, .int v10)]) C dX3_numberCrowds_106 1 rfl (by rw [← ex25]; rfl) (by decide) rfl 109 rfl ?_
                    obtain ⟨x26, ex26, h⟩ := me h
                    refine mn_iinc (v := x26) (lv2 := [(4, .int x26), (1, .int x25), (0, .ref (mmad k 0)), (2, .int v2), (3, .int v6)]) C dX3_numberCrowds_109 4 rfl (by rw [← ex26]; rfl) (by decide) rfl 112 rfl ?_
                    refine mn_goto C dX3_numberCrowds_112 21 (by decide) ?_
                    refine mn_lv [2, 1, 3, 4, 0] rfl ?_
                    exact ih _ _ _ h
              refine mj2 h (fun (y27 : Int32) (G28 : mmS) => mn_AW z k 5 none F1 G28 115 [(0, .ref (mmad k 0)), (1, .int y27), (2, .int v2), (3, .int v6)] []) ?_ ?_
              · intro y27 G28 h
                obtain ⟨x29, ex29, h⟩ := me h
                refine mn_iinc (v := x29) (lv2 := [(3, .int x29), (0, .ref (mmad k 0)), (1, .int y27), (2, .int v2)]) C dX3_numberCrowds_115 3 rfl (by rw [← ex29]; rfl) (by decide) rfl 118 rfl ?_
                refine mn_goto C dX3_numberCrowds_118 12 (by decide) ?_
                refine mn_lv [1, 2, 3, 0] rfl ?_
                exact ih _ _ _ h
              · intro K2 hR h
                exact hL21 K2 hR 300 _ _ _ h
        refine mj2 h (fun (y30 : Int32) (G31 : mmS) => mn_AW z k 5 none F1 G31 121 [(0, .ref (mmad k 0)), (1, .int y30), (2, .int v2)] []) ?_ ?_
        · intro y30 G31 h
          obtain ⟨x32, ex32, h⟩ := me h
          refine mn_iinc (v := x32) (lv2 := [(2, .int x32), (0, .ref (mmad k 0)), (1, .int y30)]) C dX3_numberCrowds_121 2 rfl (by rw [← ex32]; rfl) (by decide) rfl 124 rfl ?_
          refine mn_goto C dX3_numberCrowds_124 4 (by decide) ?_
          refine mn_lv [1, 2, 0] rfl ?_
          exact ih _ _ _ h
        · intro K2 hR h
          exact hL12 K2 hR 300 _ _ _ h
  refine mj1 h (fun (G33 : mmS) => mn_AW z k 5 none F1 G33 127 [] []) ?_ ?_
  · intro G33 h
    exact mn_vretW C (h) dX3_numberCrowds_127
  · intro K2 hR h
    exact hL4 K2 hR 300 _ _ _ h
def nm_X3_choicesOf_0 (F : mmS) (a1 : Int32) : Option (Int32) :=
  if (F 0 1) ≤ a1 then (some (1 : Int32)) else (some (F 0 0))
set_option maxHeartbeats 4000000 in
set_option maxRecDepth 100000 in
theorem nc_X3_choicesOf_0 {l : Launch} {k : mmK} {F : mmS} {a1 : Int32} {r : Int32} (h : nm_X3_choicesOf_0 F a1 = some r) : mn_T l k yX3_choicesOf cX3_choicesOf 2 (some .int) 0 [.ref (mmad k 0), .int a1] F (some (.int r)) F := by
  refine mn_start [(0, .ref (mmad k 0)), (1, .int a1)] (by decide) (Nat.le_of_ble_eq_true rfl) rfl ?_
  intro z hz C
  subst hz
  have C : mn_C z k RX3 cX3_choicesOf 2 (some .int) 0 := C
  replace h := mk0 h
  unfold nm_X3_choicesOf_0 at h
  refine mn_iload_n C dX3_choicesOf_0 rfl 1 rfl 1 rfl ?_
  refine mn_aload_n C dX3_choicesOf_1 rfl 0 rfl 2 rfl ?_
  refine mn_get C fl_X3_15_X3 (by decide) (nc_0 k _) rfl dX3_choicesOf_2 5 rfl ?_
  refine mn_icmp_ge C dX3_choicesOf_5 15 8 (by decide) rfl (fun hc => ?_) (fun hc => ?_)
  · rw [if_pos hc] at h
    refine mn_iconst (v := (1 : Int32)) C dX3_choicesOf_15 (by decide) 16 rfl ?_
    exact mn_iretP C (h) dX3_choicesOf_16
  · rw [if_neg hc] at h
    refine mn_aload_n C dX3_choicesOf_8 rfl 0 rfl 9 rfl ?_
    refine mn_get C fl_X3_9_X3 (by decide) (nc_0 k _) rfl dX3_choicesOf_9 12 rfl ?_
    refine mn_goto C dX3_choicesOf_12 16 (by decide) ?_
    exact mn_iretP C (h) dX3_choicesOf_16
def nm_X3_listCrowds_0_L27 (v2 : Int32) (v7 : Int32) : Nat → Int32 → Int32 → mmS → Option (Int32 × mmS)
  | 0, _, _, _ => none
  | n14 + 1, v11, v12, G13 => Option.bind (nm_X3_choicesOf_0 G13 (0 : Int32)) fun x15 => if x15 ≤ v12 then (some ((v11, G13))) else (Option.bind (nm_X3_coded v12 v7 v2) fun x16 => Option.bind (nast G13 4 v11 x16) fun G17 => mlet (v11 + (1 : Int32)) fun x18 => mlet (v12 + (1 : Int32)) fun x19 => nm_X3_listCrowds_0_L27 v2 v7 n14 x18 x19 G17)
def nm_X3_listCrowds_0_L15 (v2 : Int32) : Nat → Int32 → Int32 → mmS → Option (Int32 × mmS)
  | 0, _, _, _ => none
  | n9 + 1, v6, v7, G8 => Option.bind (nm_X3_choicesOf_0 G8 (1 : Int32)) fun x10 => if x10 ≤ v7 then (some ((v6, G8))) else (bd2 (nm_X3_listCrowds_0_L27 v2 v7 300 v6 v7 G8) fun y20 G21 => mlet (v7 + (1 : Int32)) fun x22 => nm_X3_listCrowds_0_L15 v2 n9 y20 x22 G21)
def nm_X3_listCrowds_0_L4 : Nat → Int32 → Int32 → mmS → Option (Int32 × mmS)
  | 0, _, _, _ => none
  | n4 + 1, v1, v2, G3 => Option.bind (nm_X3_choicesOf_0 G3 (2 : Int32)) fun x5 => if x5 ≤ v2 then (some ((v1, G3))) else (bd2 (nm_X3_listCrowds_0_L15 v2 300 v1 v2 G3) fun y23 G24 => mlet (v2 + (1 : Int32)) fun x25 => nm_X3_listCrowds_0_L4 n4 y23 x25 G24)
def nm_X3_listCrowds_0 (F : mmS)  : Option (mmS) :=
  bd2 (nm_X3_listCrowds_0_L4 300 (0 : Int32) (0 : Int32) F) fun y26 G27 => mlet (stF G27 0 3 y26) fun G28 => some G28
set_option maxHeartbeats 4000000 in
set_option maxRecDepth 100000 in
theorem nc_X3_listCrowds_0 {l : Launch} {k : mmK} {F : mmS}  {F1 : mmS} (h : nm_X3_listCrowds_0 F = some F1) : mn_T l k yX3_listCrowds cX3_listCrowds 5 none 1 [.ref (mmad k 0)] F none F1 := by
  refine mn_start [(0, .ref (mmad k 0))] (by decide) (Nat.le_of_ble_eq_true rfl) rfl ?_
  intro z hz C
  subst hz
  have C : mn_C z k RX3 cX3_listCrowds 5 none 1 := C
  replace h := mk0 h
  unfold nm_X3_listCrowds_0 at h
  refine mn_iconst (v := (0 : Int32)) C dX3_listCrowds_0 (by decide) 1 rfl ?_
  refine mn_istore_n (lv2 := [(1, .int (0 : Int32)), (0, .ref (mmad k 0))]) C dX3_listCrowds_1 rfl (by decide) rfl 2 rfl ?_
  refine mn_iconst (v := (0 : Int32)) C dX3_listCrowds_2 (by decide) 3 rfl ?_
  refine mn_istore_n (lv2 := [(2, .int (0 : Int32)), (1, .int (0 : Int32)), (0, .ref (mmad k 0))]) C dX3_listCrowds_3 rfl (by decide) rfl 4 rfl ?_
  refine mn_lv [2, 1, 0] rfl ?_
  have hL4 : ∀ (K : (Int32 × mmS) → Option (mmS)) (hK : ∀ (v1 : Int32) (G3 : mmS) , K (v1, G3) = some F1 → mn_AW z k 5 none F1 G3 71 [(0, .ref (mmad k 0)), (1, .int v1)] []) (n4 : Nat) (v1 : Int32) (v2 : Int32) (G3 : mmS) , (nm_X3_listCrowds_0_L4 n4 v1 v2 G3).bind K = some F1 → mn_AW z k 5 none F1 G3 4 [(0, .ref (mmad k 0)), (1, .int v1), (2, .int v2)] [] := by
    intro K hK n4
    induction n4 with
    | zero => intro v1 v2 G3 h; rw [nm_X3_listCrowds_0_L4] at h; cases h
    | succ n4 ih =>
      intro v1 v2 G3 h
      rw [nm_X3_listCrowds_0_L4] at h
      refine mn_iload_n C dX3_listCrowds_4 rfl 2 rfl 5 rfl ?_
      refine mn_aload_n C dX3_listCrowds_5 rfl 0 rfl 6 rfl ?_
      refine mn_iconst (v := (2 : Int32)) C dX3_listCrowds_6 (by decide) 7 rfl ?_
      obtain ⟨x5, ex5, h⟩ := mb h
      refine mn_callV [.int (2 : Int32)] C (nc_X3_choicesOf_0 ex5) wb_X3_choicesOf wv_X3_44 (by decide) (nc_0 k _) rfl rfl rfl (by omega) rfl (Nat.le_of_ble_eq_true rfl) dX3_listCrowds_7 10 rfl ?_
      show mn_AW z k 5 none F1 G3 10 [(0, .ref (mmad k 0)), (1, .int v1), (2, .int v2)] [.int x5, .int v2]
      refine mn_icmp_ge C dX3_listCrowds_10 71 13 (by decide) rfl (fun hc => ?_) (fun hc => ?_)
      · rw [if_pos hc] at h
        refine mn_lv [0, 1] rfl ?_
        exact hK _ _ h
      · rw [if_neg hc] at h
        refine mn_iload_n C dX3_listCrowds_13 rfl 2 rfl 14 rfl ?_
        refine mn_istore_n (lv2 := [(3, .int v2), (0, .ref (mmad k 0)), (1, .int v1), (2, .int v2)]) C dX3_listCrowds_14 rfl (by decide) rfl 15 rfl ?_
        refine mn_lv [1, 2, 3, 0] rfl ?_
        have hL15 : ∀ (K : (Int32 × mmS) → Option (mmS)) (hK : ∀ (v6 : Int32) (G8 : mmS) , K (v6, G8) = some F1 → mn_AW z k 5 none F1 G8 65 [(0, .ref (mmad k 0)), (1, .int v6), (2, .int v2)] []) (n9 : Nat) (v6 : Int32) (v7 : Int32) (G8 : mmS) , (nm_X3_listCrowds_0_L15 v2 n9 v6 v7 G8).bind K = some F1 → mn_AW z k 5 none F1 G8 15 [(0, .ref (mmad k 0)), (1, .int v6), (2, .int v2), (3, .int v7)] [] := by
          intro K hK n9
          induction n9 with
          | zero => intro v6 v7 G8 h; rw [nm_X3_listCrowds_0_L15] at h; cases h
          | succ n9 ih =>
            intro v6 v7 G8 h
            rw [nm_X3_listCrowds_0_L15] at h
            refine mn_iload_n C dX3_listCrowds_15 rfl 3 rfl 16 rfl ?_
            refine mn_aload_n C dX3_listCrowds_16 rfl 0 rfl 17 rfl ?_
            refine mn_iconst (v := (1 : Int32)) C dX3_listCrowds_17 (by decide) 18 rfl ?_
            obtain ⟨x10, ex10, h⟩ := mb h
            refine mn_callV [.int (1 : Int32)] C (nc_X3_choicesOf_0 ex10) wb_X3_choicesOf wv_X3_44 (by decide) (nc_0 k _) rfl rfl rfl (by omega) rfl (Nat.le_of_ble_eq_true rfl) dX3_listCrowds_18 21 rfl ?_
            show mn_AW z k 5 none F1 G8 21 [(0, .ref (mmad k 0)), (1, .int v6), (2, .int v2), (3, .int v7)] [.int x10, .int v7]
            refine mn_icmp_ge C dX3_listCrowds_21 65 24 (by decide) rfl (fun hc => ?_) (fun hc => ?_)
            · rw [if_pos hc] at h
              refine mn_lv [0, 1, 2] rfl ?_
              exact hK _ _ h
            · rw [if_neg hc] at h
              refine mn_iload_n C dX3_listCrowds_24 rfl 3 rfl 25 rfl ?_
              refine mn_istore (lv2 := [(4, .int v7), (0, .ref (mmad k 0)), (1, .int v6), (2, .int v2), (3, .int v7)]) C dX3_listCrowds_25 (by decide) rfl 27 rfl ?_
              refine mn_lv [1, 2, 3, 4, 0] rfl ?_
              have hL27 : ∀ (K : (Int32 × mmS) → Option (mmS)) (hK : ∀ (v11 : Int32) (G13 : mmS) , K (v11, G13) = some F1 → mn_AW z k 5 none F1 G13 59 [(0, .ref (mmad k 0)), (1, .int v11), (2, .int v2), (3, .int v7)] []) (n14 : Nat) (v11 : Int32) (v12 : Int32) (G13 : mmS) , (nm_X3_listCrowds_0_L27 v2 v7 n14 v11 v12 G13).bind K = some F1 → mn_AW z k 5 none F1 G13 27 [(0, .ref (mmad k 0)), (1, .int v11), (2, .int v2), (3, .int v7), (4, .int v12)] [] := by
                intro K hK n14
                induction n14 with
                | zero => intro v11 v12 G13 h; rw [nm_X3_listCrowds_0_L27] at h; cases h
                | succ n14 ih =>
                  intro v11 v12 G13 h
                  rw [nm_X3_listCrowds_0_L27] at h
                  refine mn_iload C dX3_listCrowds_27 4 rfl 29 rfl ?_
                  refine mn_aload_n C dX3_listCrowds_29 rfl 0 rfl 30 rfl ?_
                  refine mn_iconst (v := (0 : Int32)) C dX3_listCrowds_30 (by decide) 31 rfl ?_
                  obtain ⟨x15, ex15, h⟩ := mb h
                  refine mn_callV [.int (0 : Int32)] C (nc_X3_choicesOf_0 ex15) wb_X3_choicesOf wv_X3_44 (by decide) (nc_0 k _) rfl rfl rfl (by omega) rfl (Nat.le_of_ble_eq_true rfl) dX3_listCrowds_31 34 rfl ?_
                  show mn_AW z k 5 none F1 G13 34 [(0, .ref (mmad k 0)), (1, .int v11), (2, .int v2), (3, .int v7), (4, .int v12)] [.int x15, .int v12]
                  refine mn_icmp_ge C dX3_listCrowds_34 59 37 (by decide) rfl (fun hc => ?_) (fun hc => ?_)
                  · rw [if_pos hc] at h
                    refine mn_lv [0, 1, 2, 3] rfl ?_
                    exact hK _ _ h
                  · rw [if_neg hc] at h
                    refine mn_aload_n C dX3_listCrowds_37 rfl 0 rfl 38 rfl ?_
                    refine mn_get C fl_X3_31_X3 (by decide) (nc_0 k _) rfl dX3_listCrowds_38 41 rfl ?_
                    refine mn_iload_n C dX3_listCrowds_41 rfl 1 rfl 42 rfl ?_
                    refine mn_iload C dX3_listCrowds_42 4 rfl 44 rfl ?_
                    refine mn_iload_n C dX3_listCrowds_44 rfl 3 rfl 45 rfl ?_
                    refine mn_iload_n C dX3_listCrowds_45 rfl 2 rfl 46 rfl ?_
                    obtain ⟨x16, ex16, h⟩ := mb h
                    refine mn_callS [.int v12, .int v7, .int v2] C (nc_X3_coded ex16) wb_X3_coded ws_X3_40 rfl (by omega) rfl (Nat.le_of_ble_eq_true rfl) dX3_listCrowds_46 49 rfl ?_
                    show mn_AW z k 5 none F1 G13 49 [(0, .ref (mmad k 0)), (1, .int v11), (2, .int v2), (3, .int v7), (4, .int v12)] [.int x16, .int v11, .ref (mmad k 4)]
                    obtain ⟨G17, eG17, h⟩ := mb h
                    refine mn_iast C eG17 dX3_listCrowds_49 50 rfl ?_
                    obtain ⟨x18, ex18, h⟩ := me h
                    refine mn_iinc (v := x18) (lv2 := [(1, .int x18), (0, .ref (mmad k 0)), (2, .int v2), (3, .int v7), (4, .int v12)]) C dX3_listCrowds_50 1 rfl (by rw [← ex18]; rfl) (by decide) rfl 53 rfl ?_
                    obtain ⟨x19, ex19, h⟩ := me h
                    refine mn_iinc (v := x19) (lv2 := [(4, .int x19), (1, .int x18), (0, .ref (mmad k 0)), (2, .int v2), (3, .int v7)]) C dX3_listCrowds_53 4 rfl (by rw [← ex19]; rfl) (by decide) rfl 56 rfl ?_
                    refine mn_goto C dX3_listCrowds_56 27 (by decide) ?_
                    refine mn_lv [2, 1, 3, 4, 0] rfl ?_
                    exact ih _ _ _ h
              refine mj2 h (fun (y20 : Int32) (G21 : mmS) => mn_AW z k 5 none F1 G21 59 [(0, .ref (mmad k 0)), (1, .int y20), (2, .int v2), (3, .int v7)] []) ?_ ?_
              · intro y20 G21 h
                obtain ⟨x22, ex22, h⟩ := me h
                refine mn_iinc (v := x22) (lv2 := [(3, .int x22), (0, .ref (mmad k 0)), (1, .int y20), (2, .int v2)]) C dX3_listCrowds_59 3 rfl (by rw [← ex22]; rfl) (by decide) rfl 62 rfl ?_
                refine mn_goto C dX3_listCrowds_62 15 (by decide) ?_
                refine mn_lv [1, 2, 3, 0] rfl ?_
                exact ih _ _ _ h
              · intro K2 hR h
                exact hL27 K2 hR 300 _ _ _ h
        refine mj2 h (fun (y23 : Int32) (G24 : mmS) => mn_AW z k 5 none F1 G24 65 [(0, .ref (mmad k 0)), (1, .int y23), (2, .int v2)] []) ?_ ?_
        · intro y23 G24 h
          obtain ⟨x25, ex25, h⟩ := me h
          refine mn_iinc (v := x25) (lv2 := [(2, .int x25), (0, .ref (mmad k 0)), (1, .int y23)]) C dX3_listCrowds_65 2 rfl (by rw [← ex25]; rfl) (by decide) rfl 68 rfl ?_
          refine mn_goto C dX3_listCrowds_68 4 (by decide) ?_
          refine mn_lv [1, 2, 0] rfl ?_
          exact ih _ _ _ h
        · intro K2 hR h
          exact hL15 K2 hR 300 _ _ _ h
  refine mj2 h (fun (y26 : Int32) (G27 : mmS) => mn_AW z k 5 none F1 G27 71 [(0, .ref (mmad k 0)), (1, .int y26)] []) ?_ ?_
  · intro y26 G27 h
    refine mn_aload_n C dX3_listCrowds_71 rfl 0 rfl 72 rfl ?_
    refine mn_iload_n C dX3_listCrowds_72 rfl 1 rfl 73 rfl ?_
    obtain ⟨G28, eG28, h⟩ := me h
    refine mn_put (x := y26) (ty := .int) C fl_X3_48_X3 (by decide) (nc_0 k _) (nc_0 k _) tyX3 tyX3_ok nmX3 rfl (by decide +kernel) rfl rfl (Nat.le_of_ble_eq_true rfl) eG28 dX3_listCrowds_73 76 rfl ?_
    exact mn_vretW C (h) dX3_listCrowds_76
  · intro K2 hR h
    exact hL4 K2 hR 300 _ _ _ h
