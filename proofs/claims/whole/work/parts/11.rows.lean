def ald (F : mmS) (q : Nat) (i : Int32) : Option Int32 := if i < 0 ∨ mm_len q ≤ i.toNatClampNeg then none else some (F q i.toNatClampNeg)
def stF (F : mmS) (q j : Nat) (v : Int32) : mmS := va_up F q (upd (F q) j v)
def ast (F : mmS) (q : Nat) (i v : Int32) : Option mmS := if i < 0 ∨ mm_len q ≤ i.toNatClampNeg then none else some (stF F q i.toNatClampNeg v)
def zld (F : mmS) (i : Int32) : Option Int32 := if i < 0 ∨ 4 ≤ i.toNatClampNeg then none else some (F 109 i.toNatClampNeg)
def zst (F : mmS) (i v : Int32) : Option mmS := if i < 0 ∨ 4 ≤ i.toNatClampNeg then none else if v = 0 ∨ v = 1 then some (stF F 109 i.toNatClampNeg v) else none
def rld (q : Nat) (i : Int32) : Option Nat := if i < 0 ∨ mm_lenR q ≤ i.toNatClampNeg then none else some (mm_tab q i.toNatClampNeg)
def mdiv (x y : Int32) : Option Int32 := if y = 0 then none else some (x / y)
def mrem (x y : Int32) : Option Int32 := if y = 0 then none else some (x - x / y * y)
def zg (x : Int32) : Option Int32 := if x = 0 ∨ x = 1 then some x else none
def mlet {α β : Type} (a : α) (f : α → β) : β := f a
def mabs (x : Int32) : Int32 := if 0 ≤ x then x else 0 - x
def mmin (x y : Int32) : Int32 := if y < x then y else x
def mcpy (F : mmS) (a0 : Nat) (sp : Int32) (a1 : Nat) (dp n : Int32) : Option mmS := if (sp < 0 ∨ dp < 0 ∨ n < 0) ∨ mm_len a0 = 0 ∨ mm_len a1 = 0 ∨ mm_len a0 < sp.toNatClampNeg + n.toNatClampNeg ∨ mm_len a1 < dp.toNatClampNeg + n.toNatClampNeg then none else some (va_up F a1 (va_cpy (F a0) (F a1) sp.toNatClampNeg dp.toNatClampNeg n.toNatClampNeg))
theorem mb {α β γ : Type} {op : Option α} {f : α → Option β} {K : β → Option γ} {r : γ} (h : (op.bind f).bind K = some r) : ∃ v, op = some v ∧ (f v).bind K = some r := by
  cases op with
  | none => cases h
  | some v => exact ⟨v, rfl, h⟩
theorem me {α β γ : Type} {a : α} {f : α → Option β} {K : β → Option γ} {r : γ} (h : (mlet a f).bind K = some r) : ∃ v, a = v ∧ (f v).bind K = some r := ⟨a, rfl, h⟩
theorem mas {α β γ : Type} {op : Option α} {f : α → Option β} {K : β → Option γ} {r : γ} (h : (op.bind f).bind K = some r) : op.bind (fun x => (f x).bind K) = some r := by
  cases op <;> exact h
theorem mk0 {α : Type} {E : Option α} {r : α} (h : E = some r) : E.bind some = some r := by rw [h]; rfl
section MMR
variable {z : mmZ} {k : mmK} {own : String} {cc : ByteArray} {nL d pc : Nat} {ret : Option FieldType} {v0 : Option Value} {F1 F : mmS} {lv : List (Nat × Value)} {rest : List Value}
theorem mm_lv (ks : List Nat) {lv2 : List (Nat × Value)} {st : List Value} (h : lv_pick lv ks = lv2) (kk : mm_AW z k nL v0 F1 F pc lv2 st) : mm_AW z k nL v0 F1 F pc lv st := by
  obtain ⟨p, l, e, R, s, m, args, below, meth, c⟩ := z
  exact fun H lc ls hP hS hl => kk H lc ls hP hS (lv_sub hl ks h)
theorem mm_top {x y : Int32} (h : x = y) (kk : mm_AW z k nL v0 F1 F pc lv (.int y :: rest)) : mm_AW z k nL v0 F1 F pc lv (.int x :: rest) := by rw [h]; exact kk
theorem mm_topl {x y : Int64} (h : x = y) (kk : mm_AW z k nL v0 F1 F pc lv (.long y :: rest)) : mm_AW z k nL v0 F1 F pc lv (.long x :: rest) := by rw [h]; exact kk
theorem mm_iconst {n : Int} {v : Int32} (C : mm_C z k own cc nL ret d) (hdg : decode cc pc = .ok (.iconst n, 1)) (hv : Int32.ofInt n = v) (q : Nat) (hq : pc + 1 = q) (kk : mm_AW z k nL v0 F1 F q lv (.int v :: rest)) : mm_AW z k nL v0 F1 F pc lv (rest) := by
  obtain ⟨p, l, e, R, s, m, args, below, meth, c⟩ := z
  subst hq
  exact fun H lc ls hP hS hl => lv_iconst C.1 C.2.1 hdg hv (kk H lc ls hP hS hl)
theorem mm_bipush {n : Int} {v : Int32} (C : mm_C z k own cc nL ret d) (hdg : decode cc pc = .ok (.bipush n, 2)) (hv : (Int8.ofInt n).toInt32 = v) (q : Nat) (hq : pc + 2 = q) (kk : mm_AW z k nL v0 F1 F q lv (.int v :: rest)) : mm_AW z k nL v0 F1 F pc lv (rest) := by
  obtain ⟨p, l, e, R, s, m, args, below, meth, c⟩ := z
  subst hq
  exact fun H lc ls hP hS hl => lv_bipush C.1 C.2.1 hdg hv (kk H lc ls hP hS hl)
theorem mm_sipush {n : Int} {v : Int32} (C : mm_C z k own cc nL ret d) (hdg : decode cc pc = .ok (.sipush n, 3)) (hv : (Int16.ofInt n).toInt32 = v) (q : Nat) (hq : pc + 3 = q) (kk : mm_AW z k nL v0 F1 F q lv (.int v :: rest)) : mm_AW z k nL v0 F1 F pc lv (rest) := by
  obtain ⟨p, l, e, R, s, m, args, below, meth, c⟩ := z
  subst hq
  exact fun H lc ls hP hS hl => lv_sipush C.1 C.2.1 hdg hv (kk H lc ls hP hS hl)
theorem mm_ldc {index : Nat} {v : Int32} (C : mm_C z k own cc nL ret d) (hdg : decode cc pc = .ok (.ldc index, 2)) (hw : Cond.constant own index v ∈ mm_G) (q : Nat) (hq : pc + 2 = q) (kk : mm_AW z k nL v0 F1 F q lv (.int v :: rest)) : mm_AW z k nL v0 F1 F pc lv (rest) := by
  obtain ⟨p, l, e, R, s, m, args, below, meth, c⟩ := z
  subst hq
  exact fun H lc ls hP hS hl => lv_ldc C.1 C.2.1 C.2.2.2.2.1 (C.2.2.2.2.2.1 _ hw) hdg (kk H lc ls hP hS hl)
theorem mm_ldc2 {index : Nat} {v : Int64} (C : mm_C z k own cc nL ret d) (hdg : decode cc pc = .ok (.ldc2_w index, 3)) (hw : Cond.constantLong own index v ∈ mm_G) (q : Nat) (hq : pc + 3 = q) (kk : mm_AW z k nL v0 F1 F q lv (.long v :: rest)) : mm_AW z k nL v0 F1 F pc lv (rest) := by
  obtain ⟨p, l, e, R, s, m, args, below, meth, c⟩ := z
  subst hq
  exact fun H lc ls hP hS hl => lv_ldc2 C.1 C.2.1 C.2.2.2.2.1 (C.2.2.2.2.2.1 _ hw) hdg (kk H lc ls hP hS hl)
theorem mm_iload_n {f4 : Fin 4} {i : Nat} {x : Int32} (C : mm_C z k own cc nL ret d) (hdg : decode cc pc = .ok (.iload_n f4, 1)) (hi : (f4 : Nat) = i) (j : Nat) (hj : lv[j]? = some (i, .int x)) (q : Nat) (hq : pc + 1 = q) (kk : mm_AW z k nL v0 F1 F q lv (.int x :: rest)) : mm_AW z k nL v0 F1 F pc lv (rest) := by
  obtain ⟨p, l, e, R, s, m, args, below, meth, c⟩ := z
  subst hq
  exact fun H lc ls hP hS hl => lv_iload_n C.1 C.2.1 hdg hi (lv_at hl j hj) (kk H lc ls hP hS hl)
theorem mm_iload {i : Nat} {x : Int32} (C : mm_C z k own cc nL ret d) (hdg : decode cc pc = .ok (.iload i, 2)) (j : Nat) (hj : lv[j]? = some (i, .int x)) (q : Nat) (hq : pc + 2 = q) (kk : mm_AW z k nL v0 F1 F q lv (.int x :: rest)) : mm_AW z k nL v0 F1 F pc lv (rest) := by
  obtain ⟨p, l, e, R, s, m, args, below, meth, c⟩ := z
  subst hq
  exact fun H lc ls hP hS hl => lv_iload C.1 C.2.1 hdg (lv_at hl j hj) (kk H lc ls hP hS hl)
theorem mm_aload_n {f4 : Fin 4} {i : Nat} {x : Nat} (C : mm_C z k own cc nL ret d) (hdg : decode cc pc = .ok (.aload_n f4, 1)) (hi : (f4 : Nat) = i) (j : Nat) (hj : lv[j]? = some (i, .ref x)) (q : Nat) (hq : pc + 1 = q) (kk : mm_AW z k nL v0 F1 F q lv (.ref x :: rest)) : mm_AW z k nL v0 F1 F pc lv (rest) := by
  obtain ⟨p, l, e, R, s, m, args, below, meth, c⟩ := z
  subst hq
  exact fun H lc ls hP hS hl => lv_aload_n C.1 C.2.1 hdg hi (lv_at hl j hj) (kk H lc ls hP hS hl)
theorem mm_aload {i : Nat} {x : Nat} (C : mm_C z k own cc nL ret d) (hdg : decode cc pc = .ok (.aload i, 2)) (j : Nat) (hj : lv[j]? = some (i, .ref x)) (q : Nat) (hq : pc + 2 = q) (kk : mm_AW z k nL v0 F1 F q lv (.ref x :: rest)) : mm_AW z k nL v0 F1 F pc lv (rest) := by
  obtain ⟨p, l, e, R, s, m, args, below, meth, c⟩ := z
  subst hq
  exact fun H lc ls hP hS hl => lv_aload C.1 C.2.1 hdg (lv_at hl j hj) (kk H lc ls hP hS hl)
theorem mm_lload_n {f4 : Fin 4} {i : Nat} {x : Int64} (C : mm_C z k own cc nL ret d) (hdg : decode cc pc = .ok (.lload_n f4, 1)) (hi : (f4 : Nat) = i) (j : Nat) (hj : lv[j]? = some (i, .long x)) (q : Nat) (hq : pc + 1 = q) (kk : mm_AW z k nL v0 F1 F q lv (.long x :: rest)) : mm_AW z k nL v0 F1 F pc lv (rest) := by
  obtain ⟨p, l, e, R, s, m, args, below, meth, c⟩ := z
  subst hq
  exact fun H lc ls hP hS hl => lv_lload_n C.1 C.2.1 hdg hi (lv_at hl j hj) (kk H lc ls hP hS hl)
theorem mm_lload {i : Nat} {x : Int64} (C : mm_C z k own cc nL ret d) (hdg : decode cc pc = .ok (.lload i, 2)) (j : Nat) (hj : lv[j]? = some (i, .long x)) (q : Nat) (hq : pc + 2 = q) (kk : mm_AW z k nL v0 F1 F q lv (.long x :: rest)) : mm_AW z k nL v0 F1 F pc lv (rest) := by
  obtain ⟨p, l, e, R, s, m, args, below, meth, c⟩ := z
  subst hq
  exact fun H lc ls hP hS hl => lv_lload C.1 C.2.1 hdg (lv_at hl j hj) (kk H lc ls hP hS hl)
theorem mm_istore_n {f4 : Fin 4} {i : Nat} {x : Int32} {lv2 : List (Nat × Value)} (C : mm_C z k own cc nL ret d) (hdg : decode cc pc = .ok (.istore_n f4, 1)) (hi : (f4 : Nat) = i) (hn : i < nL) (hf : (i, Value.int x) :: lv.filter (fun q => !(q.1 == i) && !(q.1 + 1 == i && q.2.category == 2)) = lv2) (q : Nat) (hq : pc + 1 = q) (kk : mm_AW z k nL v0 F1 F q lv2 rest) : mm_AW z k nL v0 F1 F pc lv (.int x :: rest) := by
  obtain ⟨p, l, e, R, s, m, args, below, meth, c⟩ := z
  subst hq
  exact fun H lc ls hP hS hl => lv_istore_n (lv' := lv2) C.1 C.2.1 hdg hi hl hn hf (fun ls hl => kk H lc ls hP hS hl)
theorem mm_istore {i : Nat} {x : Int32} {lv2 : List (Nat × Value)} (C : mm_C z k own cc nL ret d) (hdg : decode cc pc = .ok (.istore i, 2)) (hn : i < nL) (hf : (i, Value.int x) :: lv.filter (fun q => !(q.1 == i) && !(q.1 + 1 == i && q.2.category == 2)) = lv2) (q : Nat) (hq : pc + 2 = q) (kk : mm_AW z k nL v0 F1 F q lv2 rest) : mm_AW z k nL v0 F1 F pc lv (.int x :: rest) := by
  obtain ⟨p, l, e, R, s, m, args, below, meth, c⟩ := z
  subst hq
  exact fun H lc ls hP hS hl => lv_istore (lv' := lv2) C.1 C.2.1 hdg hl hn hf (fun ls hl => kk H lc ls hP hS hl)
theorem mm_astore_n {f4 : Fin 4} {i : Nat} {x : Nat} {lv2 : List (Nat × Value)} (C : mm_C z k own cc nL ret d) (hdg : decode cc pc = .ok (.astore_n f4, 1)) (hi : (f4 : Nat) = i) (hn : i < nL) (hf : (i, Value.ref x) :: lv.filter (fun q => !(q.1 == i) && !(q.1 + 1 == i && q.2.category == 2)) = lv2) (q : Nat) (hq : pc + 1 = q) (kk : mm_AW z k nL v0 F1 F q lv2 rest) : mm_AW z k nL v0 F1 F pc lv (.ref x :: rest) := by
  obtain ⟨p, l, e, R, s, m, args, below, meth, c⟩ := z
  subst hq
  exact fun H lc ls hP hS hl => lv_astore_n (lv' := lv2) C.1 C.2.1 hdg hi hl hn hf (fun ls hl => kk H lc ls hP hS hl)
theorem mm_astore {i : Nat} {x : Nat} {lv2 : List (Nat × Value)} (C : mm_C z k own cc nL ret d) (hdg : decode cc pc = .ok (.astore i, 2)) (hn : i < nL) (hf : (i, Value.ref x) :: lv.filter (fun q => !(q.1 == i) && !(q.1 + 1 == i && q.2.category == 2)) = lv2) (q : Nat) (hq : pc + 2 = q) (kk : mm_AW z k nL v0 F1 F q lv2 rest) : mm_AW z k nL v0 F1 F pc lv (.ref x :: rest) := by
  obtain ⟨p, l, e, R, s, m, args, below, meth, c⟩ := z
  subst hq
  exact fun H lc ls hP hS hl => lv_astore (lv' := lv2) C.1 C.2.1 hdg hl hn hf (fun ls hl => kk H lc ls hP hS hl)
theorem mm_lstore_n {f4 : Fin 4} {i : Nat} {x : Int64} {lv2 : List (Nat × Value)} (C : mm_C z k own cc nL ret d) (hdg : decode cc pc = .ok (.lstore_n f4, 1)) (hi : (f4 : Nat) = i) (hn : i + 1 < nL) (hf : (i, Value.long x) :: lv.filter (fun q => !(q.1 == i) && (!(q.1 == i + 1) && !(q.1 + 1 == i && q.2.category == 2))) = lv2) (q : Nat) (hq : pc + 1 = q) (kk : mm_AW z k nL v0 F1 F q lv2 rest) : mm_AW z k nL v0 F1 F pc lv (.long x :: rest) := by
  obtain ⟨p, l, e, R, s, m, args, below, meth, c⟩ := z
  subst hq
  exact fun H lc ls hP hS hl => lv_lstore_n (lv' := lv2) C.1 C.2.1 hdg hi hl hn hf (fun ls hl => kk H lc ls hP hS hl)
theorem mm_lstore {i : Nat} {x : Int64} {lv2 : List (Nat × Value)} (C : mm_C z k own cc nL ret d) (hdg : decode cc pc = .ok (.lstore i, 2)) (hn : i + 1 < nL) (hf : (i, Value.long x) :: lv.filter (fun q => !(q.1 == i) && (!(q.1 == i + 1) && !(q.1 + 1 == i && q.2.category == 2))) = lv2) (q : Nat) (hq : pc + 2 = q) (kk : mm_AW z k nL v0 F1 F q lv2 rest) : mm_AW z k nL v0 F1 F pc lv (.long x :: rest) := by
  obtain ⟨p, l, e, R, s, m, args, below, meth, c⟩ := z
  subst hq
  exact fun H lc ls hP hS hl => lv_lstore (lv' := lv2) C.1 C.2.1 hdg hl hn hf (fun ls hl => kk H lc ls hP hS hl)
theorem mm_iinc {i : Nat} {n : Int} {x v : Int32} {lv2 : List (Nat × Value)} (C : mm_C z k own cc nL ret d) (hdg : decode cc pc = .ok (.iinc i n, 3)) (j : Nat) (hj : lv[j]? = some (i, .int x)) (hv : x + Int32.ofInt n = v) (hn : i < nL) (hf : (i, Value.int v) :: lv.filter (fun q => !(q.1 == i) && !(q.1 + 1 == i && q.2.category == 2)) = lv2) (q : Nat) (hq : pc + 3 = q) (kk : mm_AW z k nL v0 F1 F q lv2 rest) : mm_AW z k nL v0 F1 F pc lv (rest) := by
  obtain ⟨p, l, e, R, s, m, args, below, meth, c⟩ := z
  subst hq
  exact fun H lc ls hP hS hl => lv_iinc (lv' := lv2) C.1 C.2.1 hdg hl hj hv hn hf (fun ls hl => kk H lc ls hP hS hl)
theorem mm_iadd {x y : Int32} (C : mm_C z k own cc nL ret d) (hdg : decode cc pc = .ok (.iadd, 1))  (q : Nat) (hq : pc + 1 = q) (kk : mm_AW z k nL v0 F1 F q lv (.int (x + y) :: rest)) : mm_AW z k nL v0 F1 F pc lv (.int y :: .int x :: rest) := by
  obtain ⟨p, l, e, R, s, m, args, below, meth, c⟩ := z
  subst hq
  exact fun H lc ls hP hS hl => lv_iadd C.1 C.2.1 hdg (kk H lc ls hP hS hl)
theorem mm_isub {x y : Int32} (C : mm_C z k own cc nL ret d) (hdg : decode cc pc = .ok (.isub, 1))  (q : Nat) (hq : pc + 1 = q) (kk : mm_AW z k nL v0 F1 F q lv (.int (x - y) :: rest)) : mm_AW z k nL v0 F1 F pc lv (.int y :: .int x :: rest) := by
  obtain ⟨p, l, e, R, s, m, args, below, meth, c⟩ := z
  subst hq
  exact fun H lc ls hP hS hl => lv_isub C.1 C.2.1 hdg (kk H lc ls hP hS hl)
theorem mm_imul {x y : Int32} (C : mm_C z k own cc nL ret d) (hdg : decode cc pc = .ok (.imul, 1))  (q : Nat) (hq : pc + 1 = q) (kk : mm_AW z k nL v0 F1 F q lv (.int (x * y) :: rest)) : mm_AW z k nL v0 F1 F pc lv (.int y :: .int x :: rest) := by
  obtain ⟨p, l, e, R, s, m, args, below, meth, c⟩ := z
  subst hq
  exact fun H lc ls hP hS hl => lv_imul C.1 C.2.1 hdg (kk H lc ls hP hS hl)
theorem mm_iand {x y : Int32} (C : mm_C z k own cc nL ret d) (hdg : decode cc pc = .ok (.iand, 1))  (q : Nat) (hq : pc + 1 = q) (kk : mm_AW z k nL v0 F1 F q lv (.int (x &&& y) :: rest)) : mm_AW z k nL v0 F1 F pc lv (.int y :: .int x :: rest) := by
  obtain ⟨p, l, e, R, s, m, args, below, meth, c⟩ := z
  subst hq
  exact fun H lc ls hP hS hl => lv_iand C.1 C.2.1 hdg (kk H lc ls hP hS hl)
theorem mm_ladd {x y : Int64} (C : mm_C z k own cc nL ret d) (hdg : decode cc pc = .ok (.ladd, 1))  (q : Nat) (hq : pc + 1 = q) (kk : mm_AW z k nL v0 F1 F q lv (.long (x + y) :: rest)) : mm_AW z k nL v0 F1 F pc lv (.long y :: .long x :: rest) := by
  obtain ⟨p, l, e, R, s, m, args, below, meth, c⟩ := z
  subst hq
  exact fun H lc ls hP hS hl => lv_ladd C.1 C.2.1 hdg (kk H lc ls hP hS hl)
theorem mm_lmul {x y : Int64} (C : mm_C z k own cc nL ret d) (hdg : decode cc pc = .ok (.lmul, 1))  (q : Nat) (hq : pc + 1 = q) (kk : mm_AW z k nL v0 F1 F q lv (.long (x * y) :: rest)) : mm_AW z k nL v0 F1 F pc lv (.long y :: .long x :: rest) := by
  obtain ⟨p, l, e, R, s, m, args, below, meth, c⟩ := z
  subst hq
  exact fun H lc ls hP hS hl => lv_lmul C.1 C.2.1 hdg (kk H lc ls hP hS hl)
theorem mm_idiv {x y v : Int32} (C : mm_C z k own cc nL ret d) (hdg : decode cc pc = .ok (.idiv, 1)) (he : mdiv x y = some v) (q : Nat) (hq : pc + 1 = q) (kk : mm_AW z k nL v0 F1 F q lv (.int v :: rest)) : mm_AW z k nL v0 F1 F pc lv (.int y :: .int x :: rest) := by
  obtain ⟨p, l, e, R, s, m, args, below, meth, c⟩ := z
  subst hq
  unfold mdiv at he
  by_cases hy : y = 0
  · rw [if_pos hy] at he; cases he
  · rw [if_neg hy] at he
    cases he
    exact fun H lc ls hP hS hl => lv_idiv C.1 C.2.1 hdg hy (kk H lc ls hP hS hl)
theorem mm_irem {x y v : Int32} (C : mm_C z k own cc nL ret d) (hdg : decode cc pc = .ok (.irem, 1)) (he : mrem x y = some v) (q : Nat) (hq : pc + 1 = q) (kk : mm_AW z k nL v0 F1 F q lv (.int v :: rest)) : mm_AW z k nL v0 F1 F pc lv (.int y :: .int x :: rest) := by
  obtain ⟨p, l, e, R, s, m, args, below, meth, c⟩ := z
  subst hq
  unfold mrem at he
  by_cases hy : y = 0
  · rw [if_pos hy] at he; cases he
  · rw [if_neg hy] at he
    cases he
    exact fun H lc ls hP hS hl => lv_irem C.1 C.2.1 hdg hy (kk H lc ls hP hS hl)
theorem mm_i2l {x : Int32} (C : mm_C z k own cc nL ret d) (hdg : decode cc pc = .ok (.i2l, 1))  (q : Nat) (hq : pc + 1 = q) (kk : mm_AW z k nL v0 F1 F q lv (.long x.toInt64 :: rest)) : mm_AW z k nL v0 F1 F pc lv (.int x :: rest) := by
  obtain ⟨p, l, e, R, s, m, args, below, meth, c⟩ := z
  subst hq
  exact fun H lc ls hP hS hl => lv_i2l C.1 C.2.1 hdg rfl (kk H lc ls hP hS hl)
theorem mm_i2b {x : Int32} (C : mm_C z k own cc nL ret d) (hdg : decode cc pc = .ok (.i2b, 1))  (q : Nat) (hq : pc + 1 = q) (kk : mm_AW z k nL v0 F1 F q lv (.int x.toInt8.toInt32 :: rest)) : mm_AW z k nL v0 F1 F pc lv (.int x :: rest) := by
  obtain ⟨p, l, e, R, s, m, args, below, meth, c⟩ := z
  subst hq
  exact fun H lc ls hP hS hl => lv_i2b C.1 C.2.1 hdg rfl (kk H lc ls hP hS hl)
theorem mm_i2s {x : Int32} (C : mm_C z k own cc nL ret d) (hdg : decode cc pc = .ok (.i2s, 1))  (q : Nat) (hq : pc + 1 = q) (kk : mm_AW z k nL v0 F1 F q lv (.int x.toInt16.toInt32 :: rest)) : mm_AW z k nL v0 F1 F pc lv (.int x :: rest) := by
  obtain ⟨p, l, e, R, s, m, args, below, meth, c⟩ := z
  subst hq
  exact fun H lc ls hP hS hl => lv_i2s C.1 C.2.1 hdg rfl (kk H lc ls hP hS hl)
theorem mm_dup {a : Value} (C : mm_C z k own cc nL ret d) (hdg : decode cc pc = .ok (.dup, 1)) (ha : a.category = 1) (q : Nat) (hq : pc + 1 = q) (kk : mm_AW z k nL v0 F1 F q lv (a :: a :: rest)) : mm_AW z k nL v0 F1 F pc lv (a :: rest) := by
  obtain ⟨p, l, e, R, s, m, args, below, meth, c⟩ := z
  subst hq
  exact fun H lc ls hP hS hl => lv_dup C.1 C.2.1 hdg ha (kk H lc ls hP hS hl)
theorem mm_pop {a : Value} (C : mm_C z k own cc nL ret d) (hdg : decode cc pc = .ok (.pop, 1)) (ha : a.category = 1) (q : Nat) (hq : pc + 1 = q) (kk : mm_AW z k nL v0 F1 F q lv (rest)) : mm_AW z k nL v0 F1 F pc lv (a :: rest) := by
  obtain ⟨p, l, e, R, s, m, args, below, meth, c⟩ := z
  subst hq
  exact fun H lc ls hP hS hl => lv_pop C.1 C.2.1 hdg ha (kk H lc ls hP hS hl)
theorem mm_dup2 {a b : Value} (C : mm_C z k own cc nL ret d) (hdg : decode cc pc = .ok (.dup2, 1)) (ha : a.category = 1) (hb : b.category = 1) (q : Nat) (hq : pc + 1 = q) (kk : mm_AW z k nL v0 F1 F q lv (a :: b :: a :: b :: rest)) : mm_AW z k nL v0 F1 F pc lv (a :: b :: rest) := by
  obtain ⟨p, l, e, R, s, m, args, below, meth, c⟩ := z
  subst hq
  exact fun H lc ls hP hS hl => lv_dup2_11 C.1 C.2.1 hdg ha hb (kk H lc ls hP hS hl)
theorem mm_if_eq {x : Int32} {off : Int} (C : mm_C z k own cc nL ret d) (hdg : decode cc pc = .ok (.ifCond .eq off, 3)) (t q : Nat) (ht : (pc : Int) + off = (t : Int)) (hq : pc + 3 = q) (kt : x = 0 → mm_AW z k nL v0 F1 F t lv rest) (kf : ¬ x = 0 → mm_AW z k nL v0 F1 F q lv rest) : mm_AW z k nL v0 F1 F pc lv (.int x :: rest) := by
  obtain ⟨p, l, e, R, s, m, args, below, meth, c⟩ := z
  subst hq
  exact fun H lc ls hP hS hl => lv_if_eq C.1 C.2.1 hdg ht (fun h => kt h H lc ls hP hS hl) (fun h => kf h H lc ls hP hS hl)
theorem mm_icmp_eq {x y : Int32} {off : Int} (C : mm_C z k own cc nL ret d) (hdg : decode cc pc = .ok (.if_icmp .eq off, 3)) (t q : Nat) (ht : (pc : Int) + off = (t : Int)) (hq : pc + 3 = q) (kt : x = y → mm_AW z k nL v0 F1 F t lv rest) (kf : ¬ x = y → mm_AW z k nL v0 F1 F q lv rest) : mm_AW z k nL v0 F1 F pc lv (.int y :: .int x :: rest) := by
  obtain ⟨p, l, e, R, s, m, args, below, meth, c⟩ := z
  subst hq
  exact fun H lc ls hP hS hl => lv_icmp_eq C.1 C.2.1 hdg ht (fun h => kt h H lc ls hP hS hl) (fun h => kf h H lc ls hP hS hl)
theorem mm_if_ne {x : Int32} {off : Int} (C : mm_C z k own cc nL ret d) (hdg : decode cc pc = .ok (.ifCond .ne off, 3)) (t q : Nat) (ht : (pc : Int) + off = (t : Int)) (hq : pc + 3 = q) (kt : ¬ x = 0 → mm_AW z k nL v0 F1 F t lv rest) (kf : x = 0 → mm_AW z k nL v0 F1 F q lv rest) : mm_AW z k nL v0 F1 F pc lv (.int x :: rest) := by
  obtain ⟨p, l, e, R, s, m, args, below, meth, c⟩ := z
  subst hq
  exact fun H lc ls hP hS hl => lv_if_ne C.1 C.2.1 hdg ht (fun h => kt h H lc ls hP hS hl) (fun h => kf h H lc ls hP hS hl)
theorem mm_icmp_ne {x y : Int32} {off : Int} (C : mm_C z k own cc nL ret d) (hdg : decode cc pc = .ok (.if_icmp .ne off, 3)) (t q : Nat) (ht : (pc : Int) + off = (t : Int)) (hq : pc + 3 = q) (kt : ¬ x = y → mm_AW z k nL v0 F1 F t lv rest) (kf : x = y → mm_AW z k nL v0 F1 F q lv rest) : mm_AW z k nL v0 F1 F pc lv (.int y :: .int x :: rest) := by
  obtain ⟨p, l, e, R, s, m, args, below, meth, c⟩ := z
  subst hq
  exact fun H lc ls hP hS hl => lv_icmp_ne C.1 C.2.1 hdg ht (fun h => kt h H lc ls hP hS hl) (fun h => kf h H lc ls hP hS hl)
theorem mm_if_lt {x : Int32} {off : Int} (C : mm_C z k own cc nL ret d) (hdg : decode cc pc = .ok (.ifCond .lt off, 3)) (t q : Nat) (ht : (pc : Int) + off = (t : Int)) (hq : pc + 3 = q) (kt : x < 0 → mm_AW z k nL v0 F1 F t lv rest) (kf : ¬ x < 0 → mm_AW z k nL v0 F1 F q lv rest) : mm_AW z k nL v0 F1 F pc lv (.int x :: rest) := by
  obtain ⟨p, l, e, R, s, m, args, below, meth, c⟩ := z
  subst hq
  exact fun H lc ls hP hS hl => lv_if_lt C.1 C.2.1 hdg ht (fun h => kt h H lc ls hP hS hl) (fun h => kf h H lc ls hP hS hl)
theorem mm_icmp_lt {x y : Int32} {off : Int} (C : mm_C z k own cc nL ret d) (hdg : decode cc pc = .ok (.if_icmp .lt off, 3)) (t q : Nat) (ht : (pc : Int) + off = (t : Int)) (hq : pc + 3 = q) (kt : x < y → mm_AW z k nL v0 F1 F t lv rest) (kf : ¬ x < y → mm_AW z k nL v0 F1 F q lv rest) : mm_AW z k nL v0 F1 F pc lv (.int y :: .int x :: rest) := by
  obtain ⟨p, l, e, R, s, m, args, below, meth, c⟩ := z
  subst hq
  exact fun H lc ls hP hS hl => lv_icmp_lt C.1 C.2.1 hdg ht (fun h => kt h H lc ls hP hS hl) (fun h => kf h H lc ls hP hS hl)
theorem mm_if_ge {x : Int32} {off : Int} (C : mm_C z k own cc nL ret d) (hdg : decode cc pc = .ok (.ifCond .ge off, 3)) (t q : Nat) (ht : (pc : Int) + off = (t : Int)) (hq : pc + 3 = q) (kt : 0 ≤ x → mm_AW z k nL v0 F1 F t lv rest) (kf : ¬ 0 ≤ x → mm_AW z k nL v0 F1 F q lv rest) : mm_AW z k nL v0 F1 F pc lv (.int x :: rest) := by
  obtain ⟨p, l, e, R, s, m, args, below, meth, c⟩ := z
  subst hq
  exact fun H lc ls hP hS hl => lv_if_ge C.1 C.2.1 hdg ht (fun h => kt h H lc ls hP hS hl) (fun h => kf h H lc ls hP hS hl)
theorem mm_icmp_ge {x y : Int32} {off : Int} (C : mm_C z k own cc nL ret d) (hdg : decode cc pc = .ok (.if_icmp .ge off, 3)) (t q : Nat) (ht : (pc : Int) + off = (t : Int)) (hq : pc + 3 = q) (kt : y ≤ x → mm_AW z k nL v0 F1 F t lv rest) (kf : ¬ y ≤ x → mm_AW z k nL v0 F1 F q lv rest) : mm_AW z k nL v0 F1 F pc lv (.int y :: .int x :: rest) := by
  obtain ⟨p, l, e, R, s, m, args, below, meth, c⟩ := z
  subst hq
  exact fun H lc ls hP hS hl => lv_icmp_ge C.1 C.2.1 hdg ht (fun h => kt h H lc ls hP hS hl) (fun h => kf h H lc ls hP hS hl)
theorem mm_if_gt {x : Int32} {off : Int} (C : mm_C z k own cc nL ret d) (hdg : decode cc pc = .ok (.ifCond .gt off, 3)) (t q : Nat) (ht : (pc : Int) + off = (t : Int)) (hq : pc + 3 = q) (kt : 0 < x → mm_AW z k nL v0 F1 F t lv rest) (kf : ¬ 0 < x → mm_AW z k nL v0 F1 F q lv rest) : mm_AW z k nL v0 F1 F pc lv (.int x :: rest) := by
  obtain ⟨p, l, e, R, s, m, args, below, meth, c⟩ := z
  subst hq
  exact fun H lc ls hP hS hl => lv_if_gt C.1 C.2.1 hdg ht (fun h => kt h H lc ls hP hS hl) (fun h => kf h H lc ls hP hS hl)
theorem mm_icmp_gt {x y : Int32} {off : Int} (C : mm_C z k own cc nL ret d) (hdg : decode cc pc = .ok (.if_icmp .gt off, 3)) (t q : Nat) (ht : (pc : Int) + off = (t : Int)) (hq : pc + 3 = q) (kt : y < x → mm_AW z k nL v0 F1 F t lv rest) (kf : ¬ y < x → mm_AW z k nL v0 F1 F q lv rest) : mm_AW z k nL v0 F1 F pc lv (.int y :: .int x :: rest) := by
  obtain ⟨p, l, e, R, s, m, args, below, meth, c⟩ := z
  subst hq
  exact fun H lc ls hP hS hl => lv_icmp_gt C.1 C.2.1 hdg ht (fun h => kt h H lc ls hP hS hl) (fun h => kf h H lc ls hP hS hl)
theorem mm_if_le {x : Int32} {off : Int} (C : mm_C z k own cc nL ret d) (hdg : decode cc pc = .ok (.ifCond .le off, 3)) (t q : Nat) (ht : (pc : Int) + off = (t : Int)) (hq : pc + 3 = q) (kt : x ≤ 0 → mm_AW z k nL v0 F1 F t lv rest) (kf : ¬ x ≤ 0 → mm_AW z k nL v0 F1 F q lv rest) : mm_AW z k nL v0 F1 F pc lv (.int x :: rest) := by
  obtain ⟨p, l, e, R, s, m, args, below, meth, c⟩ := z
  subst hq
  exact fun H lc ls hP hS hl => lv_if_le C.1 C.2.1 hdg ht (fun h => kt h H lc ls hP hS hl) (fun h => kf h H lc ls hP hS hl)
theorem mm_icmp_le {x y : Int32} {off : Int} (C : mm_C z k own cc nL ret d) (hdg : decode cc pc = .ok (.if_icmp .le off, 3)) (t q : Nat) (ht : (pc : Int) + off = (t : Int)) (hq : pc + 3 = q) (kt : x ≤ y → mm_AW z k nL v0 F1 F t lv rest) (kf : ¬ x ≤ y → mm_AW z k nL v0 F1 F q lv rest) : mm_AW z k nL v0 F1 F pc lv (.int y :: .int x :: rest) := by
  obtain ⟨p, l, e, R, s, m, args, below, meth, c⟩ := z
  subst hq
  exact fun H lc ls hP hS hl => lv_icmp_le C.1 C.2.1 hdg ht (fun h => kt h H lc ls hP hS hl) (fun h => kf h H lc ls hP hS hl)
theorem mm_goto {off : Int} (C : mm_C z k own cc nL ret d) (hdg : decode cc pc = .ok (.goto off, 3)) (t : Nat) (ht : (pc : Int) + off = (t : Int)) (kk : mm_AW z k nL v0 F1 F t lv rest) : mm_AW z k nL v0 F1 F pc lv rest := by
  obtain ⟨p, l, e, R, s, m, args, below, meth, c⟩ := z
  exact fun H lc ls hP hS hl => lv_goto C.1 C.2.1 hdg ht (kk H lc ls hP hS hl)
theorem mm_tsw {x : Int32} {dflt o0 o1 o2 o3 o4 : Int} {len : Nat} (C : mm_C z k own cc nL ret d) (hdg : decode cc pc = .ok (.tableswitch dflt 0 4 #[o0, o1, o2, o3, o4], len)) (t0 t1 t2 t3 t4 td : Nat)
    (h0 : (pc : Int) + o0 = (t0 : Int)) (h1 : (pc : Int) + o1 = (t1 : Int)) (h2 : (pc : Int) + o2 = (t2 : Int)) (h3 : (pc : Int) + o3 = (t3 : Int)) (h4 : (pc : Int) + o4 = (t4 : Int)) (hd : (pc : Int) + dflt = (td : Int))
    (k0 : x = 0 → mm_AW z k nL v0 F1 F t0 lv rest) (k1 : x = 1 → mm_AW z k nL v0 F1 F t1 lv rest) (k2 : x = 2 → mm_AW z k nL v0 F1 F t2 lv rest) (k3 : x = 3 → mm_AW z k nL v0 F1 F t3 lv rest) (k4 : x = 4 → mm_AW z k nL v0 F1 F t4 lv rest)
    (kd : ¬ x = 0 → ¬ x = 1 → ¬ x = 2 → ¬ x = 3 → ¬ x = 4 → mm_AW z k nL v0 F1 F td lv rest) : mm_AW z k nL v0 F1 F pc lv (.int x :: rest) := by
  obtain ⟨p, l, e, R, s, m, args, below, meth, c⟩ := z
  intro H lc ls hP hS hl
  by_cases e0 : x = 0
  · subst e0; exact lv_tableIn C.1 C.2.1 hdg (by decide) (by decide) rfl h0 (k0 rfl H lc ls hP hS hl)
  by_cases e1 : x = 1
  · subst e1; exact lv_tableIn C.1 C.2.1 hdg (by decide) (by decide) rfl h1 (k1 rfl H lc ls hP hS hl)
  by_cases e2 : x = 2
  · subst e2; exact lv_tableIn C.1 C.2.1 hdg (by decide) (by decide) rfl h2 (k2 rfl H lc ls hP hS hl)
  by_cases e3 : x = 3
  · subst e3; exact lv_tableIn C.1 C.2.1 hdg (by decide) (by decide) rfl h3 (k3 rfl H lc ls hP hS hl)
  by_cases e4 : x = 4
  · subst e4; exact lv_tableIn C.1 C.2.1 hdg (by decide) (by decide) rfl h4 (k4 rfl H lc ls hP hS hl)
  refine lv_tableOut C.1 C.2.1 hdg ?_ hd (kd e0 e1 e2 e3 e4 H lc ls hP hS hl)
  have hx : ∀ j : Int32, ¬ x = j → x.toInt ≠ j.toInt := fun j h e => h (Int32.toInt_inj.mp e)
  have g0 := hx 0 e0
  have g1 := hx 1 e1
  have g2 := hx 2 e2
  have g3 := hx 3 e3
  have g4 := hx 4 e4
  have c0 : (0 : Int32).toInt = 0 := by decide
  have c1 : (1 : Int32).toInt = 1 := by decide
  have c2 : (2 : Int32).toInt = 2 := by decide
  have c3 : (3 : Int32).toInt = 3 := by decide
  have c4 : (4 : Int32).toInt = 4 := by decide
  omega
def mm_FL (own : String) (idx : Nat) (ref : String) (ci : Nat) (Cn : String) (T : u_T) (N j : Nat) : Prop := vwCl[ci]? = some (Cn, T, N) ∧ j < N ∧ (∀ w ∈ u_ws Cn T N, w ∈ mm_G) ∧ Cond.fieldLink own idx ref (T j).2.1 (T j).2.2.1 ∈ mm_G ∧ (ref = (T j).1 ∨ Cond.sameField ref (T j).1 (T j).2.1 (T j).2.2.1 ∈ mm_G)
theorem mm_same {s : State} {args : Array Value} {own ref Cn : String} {idx ci N j : Nat} {T : u_T} (hts : ∀ w ∈ mm_G, w.before args s = true) (w : mm_FL own idx ref ci Cn T N j) : ∀ x, s.fieldFound? (T j).1 (T j).2.1 (T j).2.2.1 = some x → s.fieldFound? ref (T j).2.1 (T j).2.2.1 = some x := by
  intro x hx
  rcases w.2.2.2.2 with h | h
  · rw [h]; exact hx
  · exact u_same (hts _ h) x hx
theorem mm_get {idx ci N j i : Nat} {ref Cn : String} {T : u_T} {fs : List Value} {v : Value} (C : mm_C z k own cc nL ret d) (w : mm_FL own idx ref ci Cn T N j) (hi : i < 114) (hc : mm_cell k i (F i) = .inr (ci, fs)) (hv : fs[j]? = some v) (hdg : decode cc pc = .ok (.getfield idx, 3)) (q : Nat) (hq : pc + 3 = q) (kk : mm_AW z k nL v0 F1 F q lv (v :: rest)) : mm_AW z k nL v0 F1 F pc lv (.ref (mmad k i) :: rest) := by
  obtain ⟨p, l, e, R, s, m, args, below, meth, c⟩ := z
  subst hq
  exact fun H lc ls hP hS hl => va_get (D := k.1) (C := Cn) (T := T) (N := N) (Ts := mm_G) C.1 C.2.1 C.2.2.2.2.2.1 w.2.2.1 C.2.2.2.2.1 C.2.2.2.2.2.2.1 hP i (by rw [mm_at k F hi, hc]) w.1 j w.2.1 (C.2.2.2.2.2.1 _ w.2.2.2.1) (mm_same C.2.2.2.2.2.1 w) hv hdg (kk H lc ls hP hS hl)
theorem mm_put {idx ci N j i : Nat} {ref Cn : String} {T : u_T} {fs : List Value} {v : Value} {x : Int32} {F2 : mmS} {ty : FieldType} (C : mm_C z k own cc nL ret d) (w : mm_FL own idx ref ci Cn T N j) (hi : i < 114) (hc : mm_cell k i (F i) = .inr (ci, fs)) (hs : mm_cell k i (upd (F i) j x) = .inr (ci, fs.set j v)) (ty0 : Nat → FieldType) (hty : ∀ k, k < N → parseFieldDescriptor (T k).2.2.1 = some (ty0 k)) (hnm : ∀ a, a < N → ∀ b, b < N → a ≠ b → (T a).2.1 ≠ (T b).2.1) (hfin : (T j).2.2.2 = false) (hd : parseFieldDescriptor (T j).2.2.1 = some ty) (hn : narrow ty v = v) (hft : fits ty v = true) (hl0 : j < fs.length) (he : stF F i j x = F2) (hdg : decode cc pc = .ok (.putfield idx, 3)) (q : Nat) (hq : pc + 3 = q) (kk : mm_AW z k nL v0 F1 F2 q lv rest) : mm_AW z k nL v0 F1 F pc lv (v :: .ref (mmad k i) :: rest) := by
  obtain ⟨p, l, e, R, s, m, args, below, meth, c⟩ := z
  subst hq
  subst he
  exact fun H lc ls hP hS hl => va_put (D := k.1) (C := Cn) (T := T) (N := N) (Ts := mm_G) (A := mm_A k) C.1 C.2.1 C.2.2.2.2.2.1 w.2.2.1 ty0 hty hnm C.2.2.2.2.1 C.2.2.2.2.2.2.1 hP (mm_D F C.2.2.2.2.2.2.2.2.1) hS i (by rw [mm_at k F hi, hc]) w.1 j w.2.1 (C.2.2.2.2.2.1 _ w.2.2.2.1) (mm_same C.2.2.2.2.2.1 w) hfin hd hn hft hl0 hdg (fun H1 l1 hP1 _ hS1 => kk H1 l1 ls (by
    rw [← hs, mm_set k F hi] at hP1
    exact hP1) hS1 hl)
theorem mm_iald {i : Nat} {x v : Int32} (C : mm_C z k own cc nL ret d) (he : ald F i x = some v) (hdg : decode cc pc = .ok (.iaload, 1)) (q : Nat) (hq : pc + 1 = q) (kk : mm_AW z k nL v0 F1 F q lv (.int v :: rest)) : mm_AW z k nL v0 F1 F pc lv (.int x :: .ref (mmad k i) :: rest) := by
  obtain ⟨p, l, e, R, s, m, args, below, meth, c⟩ := z
  subst hq
  unfold ald at he
  by_cases hy : x < 0 ∨ mm_len i ≤ x.toNatClampNeg
  · rw [if_pos hy] at he; cases he
  · rw [if_neg hy] at he
    cases he
    have hl : mm_len i ≠ 0 := fun h => hy (Or.inr (by rw [h]; exact Nat.zero_le _))
    exact fun H lc ls hP hS hl2 => va_iald C.1 C.2.1 C.2.2.2.2.2.2.1 hP i 0 (by rw [mm_at k F (mm_len_lt hl), mm_arr hl]) rfl hy hdg (kk H lc ls hP hS hl2)
theorem mm_iast {i : Nat} {x v : Int32} {F2 : mmS} (C : mm_C z k own cc nL ret d) (he : ast F i x v = some F2) (hdg : decode cc pc = .ok (.iastore, 1)) (q : Nat) (hq : pc + 1 = q) (kk : mm_AW z k nL v0 F1 F2 q lv rest) : mm_AW z k nL v0 F1 F pc lv (.int v :: .int x :: .ref (mmad k i) :: rest) := by
  obtain ⟨p, l, e, R, s, m, args, below, meth, c⟩ := z
  subst hq
  unfold ast at he
  by_cases hy : x < 0 ∨ mm_len i ≤ x.toNatClampNeg
  · rw [if_pos hy] at he; cases he
  · rw [if_neg hy] at he
    cases he
    have hl : mm_len i ≠ 0 := fun h => hy (Or.inr (by rw [h]; exact Nat.zero_le _))
    exact fun H lc ls hP hS hl2 => va_iast C.1 C.2.1 C.2.2.2.2.2.2.1 hP (mm_D F C.2.2.2.2.2.2.2.2.1) hS i 0 (by rw [mm_at k F (mm_len_lt hl), mm_arr hl]) rfl hy hdg (fun H1 l1 hP1 _ hS1 => kk H1 l1 ls (by
      rw [← mm_arr (k := k) hl, mm_set k F (mm_len_lt hl)] at hP1
      exact hP1) hS1 hl2)
theorem mm_zald {x v : Int32} (C : mm_C z k own cc nL ret d) (he : zld F x = some v) (hdg : decode cc pc = .ok (.baload, 1)) (q : Nat) (hq : pc + 1 = q) (kk : mm_AW z k nL v0 F1 F q lv (.int v :: rest)) : mm_AW z k nL v0 F1 F pc lv (.int x :: .ref (mmad k 109) :: rest) := by
  obtain ⟨p, l, e, R, s, m, args, below, meth, c⟩ := z
  subst hq
  unfold zld at he
  by_cases hy : x < 0 ∨ 4 ≤ x.toNatClampNeg
  · rw [if_pos hy] at he; cases he
  · rw [if_neg hy] at he
    cases he
    exact fun H lc ls hP hS hl2 => va_zald (n := 4) C.1 C.2.1 C.2.2.2.2.2.2.1 hP 109 1 (by rw [mm_at k F (by decide), mc_109]) rfl hy hdg (kk H lc ls hP hS hl2)
theorem mm_zast {x v : Int32} {F2 : mmS} (C : mm_C z k own cc nL ret d) (he : zst F x v = some F2) (hdg : decode cc pc = .ok (.bastore, 1)) (q : Nat) (hq : pc + 1 = q) (kk : mm_AW z k nL v0 F1 F2 q lv rest) : mm_AW z k nL v0 F1 F pc lv (.int v :: .int x :: .ref (mmad k 109) :: rest) := by
  obtain ⟨p, l, e, R, s, m, args, below, meth, c⟩ := z
  subst hq
  unfold zst at he
  by_cases hy : x < 0 ∨ 4 ≤ x.toNatClampNeg
  · rw [if_pos hy] at he; cases he
  · rw [if_neg hy] at he
    by_cases hz : v = 0 ∨ v = 1
    · rw [if_pos hz] at he
      cases he
      have hv : vp_nar .boolean v = v := by rcases hz with rfl | rfl <;> rfl
      exact fun H lc ls hP hS hl2 => va_zast (n := 4) C.1 C.2.1 C.2.2.2.2.2.2.1 hP (mm_D F C.2.2.2.2.2.2.2.2.1) hS 109 1 (by rw [mm_at k F (by decide), mc_109]) rfl hy hdg (fun H1 l1 hP1 _ hS1 => kk H1 l1 ls (by
        rw [hv, ← mc_109 k, mm_set k F (by decide)] at hP1
        exact hP1) hS1 hl2)
    · rw [if_neg hz] at he; cases he
theorem mm_aald {i t0 j : Nat} {x : Int32} {cA : ClassId} {ty : FieldType} (C : mm_C z k own cc nL ret d) (hi : i < 114) (hc : mm_cell k i (F i) = .inl (cA, mm_lenR i, .inr (.inr (.inr (.inr (fun j => some (mmad k (mm_tab i j)))))))) (ht : (mm_ty k)[t0]? = some (cA, ty)) (hr : ty.isReference = true) (he : rld i x = some j) (hdg : decode cc pc = .ok (.aaload, 1)) (q : Nat) (hq : pc + 1 = q) (kk : mm_AW z k nL v0 F1 F q lv (.ref (mmad k j) :: rest)) : mm_AW z k nL v0 F1 F pc lv (.int x :: .ref (mmad k i) :: rest) := by
  obtain ⟨p, l, e, R, s, m, args, below, meth, c⟩ := z
  subst hq
  unfold rld at he
  by_cases hy : x < 0 ∨ mm_lenR i ≤ x.toNatClampNeg
  · rw [if_pos hy] at he; cases he
  · rw [if_neg hy] at he
    cases he
    have hlt : x.toNatClampNeg < mm_lenR i := Nat.not_le.mp fun q => hy (Or.inr q)
    intro H lc ls hP hS hl2
    have ha : (mm_W k F)[i]? = some (mmad k i, .inl (cA, mm_lenR i, .inr (.inr (.inr (.inr (fun j => some (mmad k (mm_tab i j)))))))) := by rw [mm_at k F hi, hc]
    exact W.aald (v := .ref (mmad k (mm_tab i x.toNatClampNeg))) (ty := ty) C.1 C.2.1 (hP i _ ha) ((C.2.2.2.2.2.2.1.2 t0 _ ht).1 (mm_lenR i) (fun j => va_rf (some (mmad k (mm_tab i j))))) hr (fun q => by cases q) (by show ¬ (x < 0 ∨ (arrV _ _ _).slots.size ≤ _); rw [arrV_size]; exact hy) (by show (arrV _ _ _).slots[_]? = _; rw [arrV_read _ _ hlt]; rfl) rfl rfl hdg (kk H lc ls hP hS hl2)
theorem mm_alen {i : Nat} {v : Int32} (C : mm_C z k own cc nL ret d) (hl : mm_len i ≠ 0) (hv : Int32.ofNat (mm_len i) = v) (hdg : decode cc pc = .ok (.arraylength, 1)) (q : Nat) (hq : pc + 1 = q) (kk : mm_AW z k nL v0 F1 F q lv (.int v :: rest)) : mm_AW z k nL v0 F1 F pc lv (.ref (mmad k i) :: rest) := by
  obtain ⟨p, l, e, R, s, m, args, below, meth, c⟩ := z
  subst hq
  exact fun H lc ls hP hS hl2 => va_alen (x := (mm_len i, .inl (F i))) C.1 C.2.1 C.2.2.2.2.2.2.1 hP i 0 (by rw [mm_at k F (mm_len_lt hl), mm_arr hl]) (ty := .int) rfl hv hdg (kk H lc ls hP hS hl2)
theorem mm_copy {i1 i2 idx : Nat} {sp dp n : Int32} {F2 : mmS} (C : mm_C z k own cc nL ret d) (he : mcpy F i1 sp i2 dp n = some F2) (w1 : Cond.methodLink own idx arraycopyName ∈ mm_G) (w2 : Cond.native arraycopyName ∈ mm_G) (w3 : Cond.static arraycopyName ∈ mm_G) (w4 : Cond.initialized "java/lang/System" ∈ mm_G) (hd1 : 1 ≤ d) (hd2 : (rest.map fun v => v.category).sum + (nativeFrameWords "java/lang/System" "arraycopy" 5 + 11) ≤ 40 * d) (hdg : decode cc pc = .ok (.invokestatic idx, 3)) (q : Nat) (hq : pc + 3 = q) (kk : mm_AW z k nL v0 F1 F2 q lv rest) : mm_AW z k nL v0 F1 F pc lv (.int n :: .int dp :: .ref (mmad k i2) :: .int sp :: .ref (mmad k i1) :: rest) := by
  obtain ⟨p, l, e, R, s, m, args, below, meth, c⟩ := z
  subst hq
  unfold mcpy at he
  split at he
  · cases he
  · rename_i hy
    cases he
    have h1 : mm_len i1 ≠ 0 := fun h => hy (Or.inr (Or.inl h))
    have h2 : mm_len i2 ≠ 0 := fun h => hy (Or.inr (Or.inr (Or.inl h)))
    have hR : R = mm_rm d := C.2.2.2.2.2.2.2.2.2.2
    intro H lc ls hP hS hl2
    exact va_copyi (ty := .int) C.1 C.2.1 (C.2.2.2.1.trans hl2.1.symm) C.2.2.2.2.1 (C.2.2.2.2.2.1 _ w1) (C.2.2.2.2.2.1 _ w2) (C.2.2.2.2.2.1 _ w3) (C.2.2.2.2.2.1 _ w4) C.2.2.2.2.2.2.1 hP (mm_D F C.2.2.2.2.2.2.2.2.1) hS i1 i2 0 0 (by rw [mm_at k F (mm_len_lt h1), mm_arr h1]) (by rw [mm_at k F (mm_len_lt h2), mm_arr h2]) rfl rfl rfl
      (fun h => hy (Or.inl (Or.inl h))) (fun h => hy (Or.inl (Or.inr (Or.inl h)))) (fun h => hy (Or.inl (Or.inr (Or.inr h)))) (Nat.not_lt.mp fun h => hy (Or.inr (Or.inr (Or.inr (Or.inl h))))) (Nat.not_lt.mp fun h => hy (Or.inr (Or.inr (Or.inr (Or.inr h))))) (fun _ _ => rfl) (by rw [hR]; exact hd1) (by rw [hR]; exact hd2) hdg (fun H1 l1 hP1 _ hS1 => kk H1 l1 ls (by
        rw [← mm_arr (k := k) h2, mm_set k F (mm_len_lt h2)] at hP1
        exact hP1) hS1 hl2)
theorem mm_abs {idx : Nat} {x : Int32} (C : mm_C z k own cc nL ret d) (w1 : Cond.methodLink own idx Lib.Math.abs.name ∈ mm_G) (w2 : Cond.static Lib.Math.abs.name ∈ mm_G) (w3 : Cond.initialized "java/lang/Math" ∈ mm_G) (w4 : Cond.code Lib.Math.abs.name Lib.Math.abs.code 1 (some .int) ∈ mm_G) (hd1 : 1 ≤ d) (hd2 : (rest.map fun v => v.category).sum + 13 ≤ 40 * d) (hdg : decode cc pc = .ok (.invokestatic idx, 3)) (q : Nat) (hq : pc + 3 = q) (kk : mm_AW z k nL v0 F1 F q lv (.int (mabs x) :: rest)) : mm_AW z k nL v0 F1 F pc lv (.int x :: rest) := by
  obtain ⟨p, l, e, R, s, m, args, below, meth, c⟩ := z
  subst hq
  have hR : R = mm_rm d := C.2.2.2.2.2.2.2.2.2.2
  exact fun H lc ls hP hS hl => va_mabs C.1 C.2.1 (C.2.2.2.1.trans hl.1.symm) C.2.2.2.2.1 (C.2.2.2.2.2.1 _ w1) (C.2.2.2.2.2.1 _ w2) (C.2.2.2.2.2.1 _ w3) (C.2.2.2.2.2.1 _ w4) (by rw [hR]; exact hd1) (by rw [hR]; exact hd2) (Nat.zero_le _) (Nat.zero_le _) hdg (kk H lc ls hP hS hl)
theorem mm_min {idx : Nat} {x y : Int32} (C : mm_C z k own cc nL ret d) (w1 : Cond.methodLink own idx Lib.Math.min.name ∈ mm_G) (w2 : Cond.static Lib.Math.min.name ∈ mm_G) (w3 : Cond.initialized "java/lang/Math" ∈ mm_G) (w4 : Cond.code Lib.Math.min.name Lib.Math.min.code 2 (some .int) ∈ mm_G) (hd1 : 1 ≤ d) (hd2 : (rest.map fun v => v.category).sum + 13 ≤ 40 * d) (hdg : decode cc pc = .ok (.invokestatic idx, 3)) (q : Nat) (hq : pc + 3 = q) (kk : mm_AW z k nL v0 F1 F q lv (.int (mmin x y) :: rest)) : mm_AW z k nL v0 F1 F pc lv (.int y :: .int x :: rest) := by
  obtain ⟨p, l, e, R, s, m, args, below, meth, c⟩ := z
  subst hq
  have hR : R = mm_rm d := C.2.2.2.2.2.2.2.2.2.2
  exact fun H lc ls hP hS hl => va_mmin C.1 C.2.1 (C.2.2.2.1.trans hl.1.symm) C.2.2.2.2.1 (C.2.2.2.2.2.1 _ w1) (C.2.2.2.2.2.1 _ w2) (C.2.2.2.2.2.1 _ w3) (C.2.2.2.2.2.1 _ w4) (by rw [hR]; exact hd1) (by rw [hR]; exact hd2) (Nat.zero_le _) (Nat.zero_le _) hdg (kk H lc ls hP hS hl)
theorem mm_iretW {x r : Int32} (C : mm_C z k own cc nL (some .int) d) (h : some (x, F) = some (r, F1)) (hdg : decode cc pc = .ok (.ireturn, 1)) : mm_AW z k nL (some (.int r)) F1 F pc lv [.int x] := by
  obtain ⟨p, l, e, R, s, m, args, below, meth, c⟩ := z
  cases h
  exact fun H lc ls hP hS hl => W.iret C.1 C.2.1 C.2.2.1 (fun t ht hW => ⟨rfl, by rw [ht]; exact hP, hS.F ht⟩) hS.2.2 hdg C.2.2.2.2.2.2.2.2.2.1
theorem mm_iretP {x r : Int32} (C : mm_C z k own cc nL (some .int) d) (h : some x = some r) (hdg : decode cc pc = .ok (.ireturn, 1)) : mm_AW z k nL (some (.int r)) F F pc lv [.int x] := by
  cases h
  exact mm_iretW C rfl hdg
theorem mm_zretW {x y r : Int32} (C : mm_C z k own cc nL (some .boolean) d) (hz : zg x = some y) (h : some (y, F) = some (r, F1)) (hdg : decode cc pc = .ok (.ireturn, 1)) : mm_AW z k nL (some (.int r)) F1 F pc lv [.int x] := by
  obtain ⟨p, l, e, R, s, m, args, below, meth, c⟩ := z
  unfold zg at hz
  by_cases hy : x = 0 ∨ x = 1
  · rw [if_pos hy] at hz
    cases hz
    cases h
    exact fun H lc ls hP hS hl => W.zret (ty := .boolean) C.1 C.2.1 C.2.2.1 (by rcases hy with rfl | rfl <;> rfl) (fun t ht hW => ⟨rfl, by rw [ht]; exact hP, hS.F ht⟩) hS.2.2 hdg C.2.2.2.2.2.2.2.2.2.1
  · rw [if_neg hy] at hz; cases hz
theorem mm_zretP {x y r : Int32} (C : mm_C z k own cc nL (some .boolean) d) (hz : zg x = some y) (h : some y = some r) (hdg : decode cc pc = .ok (.ireturn, 1)) : mm_AW z k nL (some (.int r)) F F pc lv [.int x] := by
  cases h
  exact mm_zretW C hz rfl hdg
theorem mm_vretW (C : mm_C z k own cc nL none d) (h : some F = some F1) (hdg : decode cc pc = .ok (.return_, 1)) : mm_AW z k nL none F1 F pc lv [] := by
  obtain ⟨p, l, e, R, s, m, args, below, meth, c⟩ := z
  cases h
  exact fun H lc ls hP hS hl => W.vret C.1 C.2.1 C.2.2.1 (fun t ht hW => ⟨rfl, by rw [ht]; exact hP, hS.F ht⟩) hS.2.2 hdg C.2.2.2.2.2.2.2.2.2.1
theorem mm_lretW {x r : Int64} (C : mm_C z k own cc nL (some .long) d) (h : some (x, F) = some (r, F1)) (hdg : decode cc pc = .ok (.lreturn, 1)) : mm_AW z k nL (some (.long r)) F1 F pc lv [.long x] := by
  obtain ⟨p, l, e, R, s, m, args, below, meth, c⟩ := z
  cases h
  exact fun H lc ls hP hS hl => W.lret C.1 C.2.1 C.2.2.1 (fun t ht hW => ⟨rfl, by rw [ht]; exact hP, hS.F ht⟩) hS.2.2 hdg C.2.2.2.2.2.2.2.2.2.1
end MMR
