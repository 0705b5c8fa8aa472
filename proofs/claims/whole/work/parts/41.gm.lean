/-! new int[n][m], own rows: the outer row is made first, then each inner row is made and put in its place -/
def gm_o (c : ClassId) (N h i : Nat) : Cell := arrV c N (fun j => va_rf (if j < i then some (h + 1 + j) else none))
def gm_i (c : ClassId) (M : Nat) : Cell := arrV c M (fun _ => .int 0)
theorem gm_o0 (c : ClassId) (N h : Nat) : ({ cls := c, slots := Array.replicate N .null, vm := .none } : Cell) = gm_o c N h 0 := by
  rw [arrV_new]
  rfl
theorem gm_os (c : ClassId) (N h i : Nat) : (gm_o c N h i).setSlot i (.ref (h + 1 + i)) = gm_o c N h (i + 1) := by
  unfold gm_o
  rw [arrV_store]
  refine congrArg (arrV c N) (funext fun j => ?_)
  by_cases e : j = i
  · subst e
    simp [updV, va_rf]
  · by_cases g : j < i
    · simp [updV, e, g, Nat.lt_succ_of_lt g]
    · simp [updV, e, g, show ¬ j < i + 1 by omega]
theorem gm_os_size (c : ClassId) (N h i : Nat) : (gm_o c N h i).slots.size = N := arrV_size _ _ _
def gm_t (T : State) (c d : ClassId) (N M : Nat) : Nat → State
  | 0 => T.pushCell (gm_o c N T.heap.size 0)
  | i + 1 => ((gm_t T c d N M i).pushCell (gm_i d M)).setCell T.heap.size (gm_o c N T.heap.size (i + 1))
theorem gm_tf (T : State) (c d : ClassId) (N M : Nat) (i : Nat) : (gm_t T c d N M i).heap.size = T.heap.size + 1 + i ∧ (gm_t T c d N M i).heap[T.heap.size]? = some (gm_o c N T.heap.size i) ∧ (gm_t T c d N M i).vm = T.vm ∧ (gm_t T c d N M i).slotsUsed = T.slotsUsed + N + i * M ∧ (∀ x : Nat, x < T.heap.size → (gm_t T c d N M i).heap[x]? = T.heap[x]?) ∧ ∀ j : Nat, j < i → (gm_t T c d N M i).heap[T.heap.size + 1 + j]? = some (gm_i d M) := by
  induction i with
  | zero => exact ⟨by simp [gm_t], by simp [gm_t], rfl, by simp [gm_t, gm_os_size], fun x hx => State.heap_pushCell_of_lt _ _ hx, fun j hj => absurd hj (Nat.not_lt_zero j)⟩
  | succ i ih =>
    obtain ⟨h1, h2, h3, h4, h5, h6⟩ := ih
    have hlt : T.heap.size < (gm_t T c d N M i).heap.size := by omega
    have h2' : ((gm_t T c d N M i).pushCell (gm_i d M)).heap[T.heap.size]? = some (gm_o c N T.heap.size i) := by rw [State.heap_pushCell_of_lt (h := hlt)]; exact h2
    refine ⟨?_, State.heap_setCell_self h2', by simp [gm_t, h3], ?_, fun x hx => ?_, fun j hj => ?_⟩
    · simp [gm_t, State.setCell, h1]; omega
    · simp [gm_t, h4, gm_i, arrV_size, Nat.succ_mul]; omega
    · show (((gm_t T c d N M i).pushCell (gm_i d M)).setCell T.heap.size _).heap[x]? = _
      have hx2 : x < (gm_t T c d N M i).heap.size := by omega
      rw [State.heap_setCell_other (Nat.ne_of_gt hx), State.heap_pushCell_of_lt (h := hx2)]
      exact h5 x hx
    · show (((gm_t T c d N M i).pushCell (gm_i d M)).setCell T.heap.size _).heap[T.heap.size + 1 + j]? = _
      rw [State.heap_setCell_other (show T.heap.size ≠ T.heap.size + 1 + j by omega)]
      rcases Nat.lt_or_ge j i with q | q
      · have hx2 : T.heap.size + 1 + j < (gm_t T c d N M i).heap.size := by omega
        rw [State.heap_pushCell_of_lt (h := hx2)]
        exact h6 j q
      · rw [show T.heap.size + 1 + j = (gm_t T c d N M i).heap.size by omega]
        exact State.heap_pushCell_size _ _
theorem gm_top (T : State) (f : JFrame) (c d : ClassId) (N M : Nat) : ∀ i, gm_t (T.setTop f) c d N M i = (gm_t T c d N M i).setTop f
  | 0 => rfl
  | i + 1 => by simp only [gm_t, gm_top T f c d N M i, State.heap_setTop, State.pushCell_setTop, State.setCell_setTop]
section GMW
variable {E : CtlPost} {e : Env} {d : Bool} {acts : List Action} {s : State}
theorem gm_newA {c comp : ClassId} {k : Class} {ty : FieldType} {len : Nat} {v : Value} (hk : s.vm.classes[c]? = some k) (hkd : k.kind = .array comp ty) (hl : ¬ len > e.platform.arrayLengthLimit) (hh : ¬ len * componentBytes ty > e.platform.maxHeapBytes) (hf : fits ty v = true) (hv : v.isDefault = true) {Q : Addr → Pre} (h1 : s.heap.size < e.platform.maxCells) (h2 : s.slotsUsed + len ≤ e.platform.maxSlots) (hq : Q s.heap.size d acts (s.pushCell { cls := c, slots := Array.replicate len v, vm := .none })) : wp (Jvm.newArray c len v) Q E e d acts s := by
  have ha : allocActs (Array.replicate len v) s.heap.size acts = acts := by
    unfold allocActs
    rw [if_pos]
    rw [Array.all_replicate]
    split <;> simp [hv]
  have hs : ∀ i w, (Array.replicate len v)[i]? = some w → s.fitsSlot c .none i w = true := by
    intro i w hw
    rw [Array.getElem?_replicate] at hw
    split at hw
    · cases hw
      simp [State.fitsSlot, State.slotType?, hk, hkd, hf]
    · cases hw
  simp only [Jvm.newArray, Jvm.arrayFits, wp_bind', Jvm.W.ask, Jvm.W.ite, hl, if_false, wp_pure', Jvm.W.theClass, hk, hkd, hh, Jvm.W.alloc, Jvm.W.stop, Option.some.injEq, exists_eq_left', Array.size_replicate, ha]
  rw [if_neg (by omega)]
  exact ⟨h1, h2, hs, hq⟩
theorem gm_make {c d0 cc : ClassId} {k kc : Class} {n m : Int32} (hk : s.vm.classes[c]? = some k) (hkd : k.kind = .array d0 (.array .int)) (hkc : s.vm.classes[d0]? = some kc) (hkcd : kc.kind = .array cc .int) (hn : ¬ n < 0) (hm : ¬ m < 0)
    (hl1 : ¬ n.toNatClampNeg > e.platform.arrayLengthLimit) (hh1 : ¬ n.toNatClampNeg * 4 > e.platform.maxHeapBytes) (hl2 : ¬ m.toNatClampNeg > e.platform.arrayLengthLimit) (hh2 : ¬ m.toNatClampNeg * 4 > e.platform.maxHeapBytes)
    (hc : s.heap.size + 1 + n.toNatClampNeg ≤ e.platform.maxCells) (hs : s.slotsUsed + n.toNatClampNeg + n.toNatClampNeg * m.toNatClampNeg ≤ e.platform.maxSlots) {Q : Addr → Pre} (hq : ∀ d9 acts9, Q s.heap.size d9 acts9 (gm_t s c d0 n.toNatClampNeg m.toNatClampNeg n.toNatClampNeg)) : wp (multianewarray.make c [n, m]) Q E e d acts s := by
  rw [multianewarray.make]
  simp only [wp_bind', Jvm.W.ite, hn, if_false, wp_pure', Jvm.W.theClass, hk, hkd, Option.some.injEq, exists_eq_left']
  refine gm_newA (v := .null) hk hkd hl1 hh1 rfl rfl (by omega) (by have := Nat.zero_le (n.toNatClampNeg * m.toNatClampNeg); omega) ?_
  have hfind : ([m].find? (· < 0)) = none := by simp [hm]
  simp only [hfind]
  rw [ite_self, wp_bind', Std.Legacy.Range.forIn_eq_forIn_range', gm_o0 c _ s.heap.size]
  have hsz : ([:n.toNatClampNeg] : Std.Legacy.Range).size = n.toNatClampNeg := by simp [Std.Legacy.Range.size]
  rw [hsz]
  show wp (forIn (List.range' 0 n.toNatClampNeg 1) PUnit.unit _) _ E e d acts _
  refine wp_forIn_inv (fun rest u => ∃ i, i ≤ n.toNatClampNeg ∧ rest = List.range' i (n.toNatClampNeg - i) ∧ u = gm_t s c d0 n.toNatClampNeg m.toNatClampNeg i) _ _ ⟨0, Nat.zero_le _, rfl, rfl⟩ ?_ ?_
  · rintro x rest u d9 acts9 Q9 ⟨i, hi, hl, rfl⟩ hnext
    have hlt : i < n.toNatClampNeg := by
      rcases Nat.lt_or_ge i n.toNatClampNeg with h | h
      · exact h
      · rw [show n.toNatClampNeg - i = 0 by omega] at hl; simp at hl
    rw [show n.toNatClampNeg - i = (n.toNatClampNeg - (i + 1)) + 1 by omega, List.range'_succ] at hl
    obtain ⟨rfl, hrest⟩ := List.cons.inj hl
    obtain ⟨f1, f2, f3, f4, -, -⟩ := gm_tf s c d0 n.toNatClampNeg m.toNatClampNeg x
    have hmul : x * m.toNatClampNeg + m.toNatClampNeg ≤ n.toNatClampNeg * m.toNatClampNeg := by
      have := Nat.mul_le_mul_right m.toNatClampNeg (show x + 1 ≤ n.toNatClampNeg from hlt)
      rw [Nat.succ_mul] at this
      exact this
    simp only [wp_bind']
    rw [multianewarray.make]
    simp only [wp_bind', Jvm.W.ite, hm, if_false, wp_pure', Jvm.W.theClass, f3, hkc, hkcd, Option.some.injEq, exists_eq_left']
    refine gm_newA (by rw [f3]; exact hkc) hkcd hl2 hh2 rfl rfl (by rw [f1]; omega) (by rw [f4]; omega) ?_
    have hlt0 : s.heap.size < (gm_t s c d0 n.toNatClampNeg m.toNatClampNeg x).heap.size := by rw [f1]; omega
    have ei : ({ cls := d0, slots := Array.replicate m.toNatClampNeg (defaultValue .int), vm := .none } : Cell) = gm_i d0 m.toNatClampNeg := arrV_new _ _ _
    rw [ei]
    simp only [wp_bind', Jvm.W.writeLoc, wp_pure']
    refine ⟨gm_o c n.toNatClampNeg s.heap.size x, (by rw [State.heap_pushCell_of_lt (h := hlt0)]; exact f2), (fun h => by cases h), (by rw [gm_os_size]; exact hlt), ?_, hnext _ _ _ ⟨x + 1, hlt, hrest, ?_⟩⟩
    · show State.fitsSlot _ c .none _ _ = true
      simp [State.fitsSlot, State.slotType?, f3, hk, hkd, fits]
    · rw [f1, gm_os]; rfl
  · rintro u d9 acts9 ⟨i, hi, hl, rfl⟩
    have hiN : i = n.toNatClampNeg := by
      rcases Nat.lt_or_ge i n.toNatClampNeg with h | h
      · rw [show n.toNatClampNeg - i = (n.toNatClampNeg - (i + 1)) + 1 by omega, List.range'_succ] at hl; cases hl
      · omega
    subst hiN
    simp only [wp_pure']
    exact hq _ _
end GMW
/-- what the tables say of int[][] -/
def gm_AO (U : State) : Prop := ∃ (d c : ClassId) (k : Class), U.vm.findClass "[I" = some d ∧ U.vm.classes[c]? = some k ∧ k.kind = .array d (.array .int) ∧ U.vm.findClass "[[I" = some c
theorem gm_AO.of {A : Array Value} {U : State} (h : (Cond.arrayOver (.array .int)).before A U = true) : gm_AO U := by
  unfold Cond.before Cond.holds at h
  simp only [Cond.value, beq_iff_eq] at h
  cases hc : U.vm.findClass (FieldType.array .int).toString with
  | none => simp [hc] at h
  | some d =>
    simp only [hc, Option.bind_some, Option.bind_eq_some_iff, Option.map_eq_some_iff] at h
    obtain ⟨c, hi, k, hk, hb⟩ := h
    obtain ⟨hlt, hp, -⟩ := Array.findIdx?_eq_some_iff_getElem.mp hi
    have hkk : U.vm.classes[c] = k := (Array.getElem?_eq_some_iff.mp hk).2
    rw [hkk] at hp
    cases hkind : k.kind with
    | array component ty =>
      rw [hkind] at hb hp
      simp at hb hp
      exact ⟨d, c, k, hc, hk, by rw [hkind, hp, hb.1], hb.2⟩
    | _ => rw [hkind] at hb; simp at hb
theorem gm_AO.moved {u U : State} (hvm : u.vm.Alike U.vm) (h : gm_AO u) : gm_AO U := by
  obtain ⟨d, c, k, h1, h2, h3, h4⟩ := h
  obtain ⟨k2, hk2, he⟩ := hvm.2.2 _ _ h2
  exact ⟨d, c, k2, by rw [hvm.findClass]; exact h1, hk2, by rw [he]; exact h3, by rw [hvm.findClass]; exact h4⟩
section GMS
variable {p : Program} {l : Launch} {e : Env} {R : Room} {s : State} {m : MethodId} {args : Array Value} {below : List Frame} {meth : Method} {c : Code} {T : State} {locs : List Loc} {cells slots : Nat}
theorem gm_filled (X : Stand p l e R s m args below meth c T locs cells slots) (cA d : ClassId) (N M : Nat) : ∀ i, Stand p l e R s m args below meth c (gm_t T cA d N M i) locs (cells + 1 + i) (slots + N + i * M)
  | 0 => by
    have h := X.pushed (gm_o cA N T.heap.size 0)
    rw [gm_os_size] at h
    simpa [gm_t] using h
  | i + 1 => by
    have Xi := gm_filled X cA d N M i
    obtain ⟨f1, f2, f3, f4, -, -⟩ := gm_tf T cA d N M i
    have hlt0 : T.heap.size < (gm_t T cA d N M i).heap.size := by rw [f1]; omega
    have h := (Xi.pushed (gm_i d M)).stored (by rw [State.heap_pushCell_of_lt (h := hlt0)]; exact f2) i (.ref (T.heap.size + 1 + i))
    rw [gm_os] at h
    have e1 : (gm_i d M).slots.size = M := arrV_size _ _ _
    rw [e1] at h
    rw [show slots + N + (i + 1) * M = slots + N + i * M + M by rw [Nat.succ_mul]; omega]
    exact h.dropFresh (fun x hx => by rw [List.mem_singleton.mp hx]; exact X.heapGrown)
theorem gm_step (X : Stand p l e R s m args below meth c T locs cells slots) (hexec : p.tables.exec = Jvm.exec) {own : String} {index : Nat} (hown : s.vm.findClass own = some m.cls) (hclink : (Cond.classLink own index "[[I").before args s = true) (hover : gm_AO s) (harr : (Cond.arrayClass .int).before args s = true)
    {g : JFrame} (hg : g.method = m) (hdg : decode c.code g.pc = .ok (.multianewarray index 2, 4)) {n k : Int32} {rest : List Value} (hstack : g.stack = .int k :: .int n :: rest) (hn : ¬ n < 0) (hk : ¬ k < 0) (hb1 : n.toNatClampNeg * 4 ≤ 536870912) (hb2 : k.toNatClampNeg * 4 ≤ 536870912)
    (hcells : cells + (1 + n.toNatClampNeg) ≤ R.cells) (hslots : slots + (n.toNatClampNeg + n.toNatClampNeg * k.toNatClampNeg) ≤ R.slots) :
    ∃ (vm₁ : Vm) (cA d : ClassId), s.vm.findClass "[[I" = some cA ∧ s.vm.findClass "[I" = some d ∧ Stand p l e R s m args below meth c (gm_t (T.setVm vm₁) cA d n.toNatClampNeg k.toNatClampNeg n.toNatClampNeg) locs (cells + 1 + n.toNatClampNeg) (slots + n.toNatClampNeg + n.toNatClampNeg * k.toNatClampNeg) ∧
      ∀ target, Steps p.tables e below ((gm_t (T.setVm vm₁) cA d n.toNatClampNeg k.toNatClampNeg n.toNatClampNeg).setTop { g with pc := g.pc + 4, stack := .ref T.heap.size :: rest }) target → Steps p.tables e below (T.setTop g) target := by
  subst hg
  have hpl : e.platform.magicAccessors = ({} : Platform).magicAccessors := by rw [X.admits.platform]
  obtain ⟨d, cA, kA, hd, hkA, hkindA, hnameA⟩ := hover
  obtain ⟨dd2, kC, cc, hdd2, hkC, hkindC⟩ := Cond.arrayClass_spec harr
  have edd : dd2 = d := Option.some.inj (hdd2.symm.trans hd)
  rw [edd] at hkC
  obtain ⟨c0, hfc0, hcl⟩ := Cond.classLink_spec hown hclink e.platform hpl
  cases hnameA.symm.trans hfc0
  obtain ⟨hg₁, hwarm₁, hready₁⟩ := State.classEntry (e := e) X.warmed hcl
  generalize T.vm.noted g.method.cls index (.cls cA) = vm₁ at hg₁ hwarm₁ hready₁
  obtain ⟨kA₁, hkA₁, heA⟩ := hwarm₁.alike.2.2 _ _ hkA
  obtain ⟨kC₁, hkC₁, heC⟩ := hwarm₁.alike.2.2 _ _ hkC
  have X₁ := X.noted hwarm₁
  obtain ⟨hr1, hr2⟩ := X.roomAbove hcells hslots
  refine ⟨vm₁, cA, d, hnameA, hd, gm_filled X₁ cA d _ _ _, fun target hrest => ?_⟩
  jvm_step X.here [hexec, hdg]
  simp only [multianewarray.sem, wp_bind', Jvm.W.resolveClassAt_links (State.method?_setTop g X.here.top) hg₁]
  rw [Jvm.W.popN, if_neg (by decide)]
  refine ⟨g, State.topJava?_setTop' (s := T.setVm vm₁) g X.here.top, [.int n, .int k], rest, rfl, hstack, ?_⟩
  simp only [List.mapM_cons, List.mapM_nil, wp_bind', wp_pure']
  have hb3 : k.toNatClampNeg ≤ 536870912 := by omega
  refine gm_make (k := kA₁) (kc := kC₁) (d0 := d) (cc := cc) hkA₁ (by rw [heA]; exact hkindA) hkC₁ (by rw [heC]; exact hkindC) hn hk (by rw [Launch.admits_arrayLengthLimit X.admits]; omega) (by rw [Launch.admits_maxHeapBytes X.admits]; omega) (by rw [Launch.admits_arrayLengthLimit X.admits]; omega) (by rw [Launch.admits_maxHeapBytes X.admits]; omega) (by show T.heap.size + 1 + _ ≤ _; omega) (by show T.slotsUsed + _ + _ ≤ _; omega) (fun d2 acts2 => ?_)
  have XF := gm_filled X₁ cA d n.toNatClampNeg k.toNatClampNeg n.toNatClampNeg
  have eS : ((T.setTop g).setVm vm₁).setTop { g with stack := rest } = (T.setVm vm₁).setTop { g with stack := rest } := by
    show ((T.setVm vm₁).setTop g).setTop _ = _
    rw [State.setTop_setTop]
  rw [eS, gm_top]
  simp only [wp_bind', Jvm.W.mark, Jvm.W.pushRef, State.topJava?_setTop' _ XF.here.top, Option.some.injEq, exists_eq_left', State.setTop_setTop, State.heap_setTop]
  intro acts
  simp [jvm, XF.here.top]
  exact hrest
end GMS
