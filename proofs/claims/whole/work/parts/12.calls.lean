def mm_CB (y : MethodName) (cc : ByteArray) (nL : Nat) (ret : Option FieldType) (n : Nat) : Prop := Cond.code y cc nL ret ∈ mm_G ∧ Cond.initialized y.cls ∈ mm_G ∧ (y.cls ≠ "java/lang/invoke/MethodHandle" ∧ y.cls ≠ "java/lang/invoke/VarHandle") ∧ (parseMethodDescriptor y.desc).map (fun d => d.parameters.length) = some n ∧ nL ≤ 21
def mm_VW (own : String) (idx : Nat) (y : MethodName) : Prop := Cond.methodLink own idx y ∈ mm_G ∧ Cond.instanceMethod y ∈ mm_G ∧ Cond.selects y.cls y y ∈ mm_G
def mm_SW (own : String) (idx : Nat) (y : MethodName) : Prop := Cond.methodLink own idx y ∈ mm_G ∧ Cond.static y ∈ mm_G
def mm_UW (own : String) (idx : Nat) (Cn : String) (x y : MethodName) : Prop := Cond.methodLink own idx x ∈ mm_G ∧ Cond.sameMethod x.cls RX7 x.name x.desc ∈ mm_G ∧ Cond.selects Cn x y ∈ mm_G ∧ Cond.instanceMethod y ∈ mm_G ∧ x.desc = y.desc
def mm_PW (own : String) (idx : Nat) (y : MethodName) : Prop := Cond.methodLink own idx y ∈ mm_G ∧ Cond.sameMethod y.cls y.cls y.name y.desc ∈ mm_G ∧ Cond.superclass own y.cls ∈ mm_G ∧ Cond.instanceMethod y ∈ mm_G ∧ y.name ≠ "<init>"
theorem mm_blind (k : mmK) (av : List Value) (F : mmS) : FrameBlind (va_Pc av (mm_B k F)) := fun a U g mk h => ⟨h.1, h.2.1, va_K.moved (u := U) (U := U.calling g mk a) (Vm.Alike.refl U.vm) h.2.2.1, mm_N.same (s := U) (U := U.calling g mk a) rfl h.2.2.2.1, h.2.2.2.2⟩
theorem mm_pre {k : mmK} {F : mmS} {s : State} {H : Heap} {av : List Value} (hP : va_P k.1 vwCl (mm_W k F) H) (hK : va_K k.1 vwCl (mm_ty k) s) (hN : mm_N s) (hI : mm_inj k) : ∀ U : State, U.heap = H → s.WarmedH U.vm → va_Pc av (mm_B k F) av.toArray U := fun U hU hW => ⟨rfl, by rw [hU]; exact hP, va_K.moved hW.alike hK, mm_N.warm hW hN, hI⟩
section MMA
variable {p : Program} {l : Launch} {e : Env} {R : Room} {s : State} {m : MethodId} {args : Array Value} {below : List Frame} {meth : Method} {c : Code} {H : Heap} {lc : List Loc} {Q : State → Prop}
theorem mm_after {k : mmK} {v : Option Value} {F2 : mmS} {a : Array Value} {pc : Nat} {ls : Array Slot} {st0 rest : List Value} (hr : va_Run p l e R s m args below meth c H lc 0 0 0 0 (F0 m pc ls st0) rest (mm_Q k v F2 a) (mm_A k)) (hS : va_S (mm_A k) s.heap H lc)
    (kk : ∀ (H1 : Heap) (lc1 : List Loc), va_P k.1 vwCl (mm_W k F2) H1 → va_S (mm_A k) s.heap H1 lc1 → W p l e R s m args below meth c H1 lc1 0 0 Q (F0 m (pc + 3) ls (v.toList ++ rest))) : W p l e R s m args below meth c H lc 0 0 Q (F0 m pc ls st0) := by
  intro T hT X
  obtain ⟨v2, st₀, t, T', L, h0, X', hL, e1, e2, ⟨hv, hp, hz, hk⟩, st⟩ := hr T hT X
  cases hv
  rw [h0] at hz hk
  obtain ⟨t2, a1, b1⟩ := kk T'.heap (lc ++ L) (by rw [e1]; exact hp)
    ⟨Nat.le_trans hS.1 (by rw [e1]; exact hz), fun q h1 h2 => by rw [e1, hk q (Nat.lt_of_lt_of_le h1 hS.1) h2]; exact hS.2.1 q h1 h2, fun q hq => by
      rcases List.mem_append.mp hq with h | h
      · exact hS.2.2 q h
      · exact hL q h⟩ T' rfl X'
  exact ⟨t2, st t2 a1, b1⟩
end MMA
section MMC
variable {z : mmZ} {k : mmK} {own : String} {cc : ByteArray} {nL d pc : Nat} {ret : Option FieldType} {v0 : Option Value} {F1 F : mmS} {lv : List (Nat × Value)} {rest : List Value}
variable {y : MethodName} {bytes : ByteArray} {mL dc n idx : Nat} {rt : Option FieldType} {F2 : mmS} {v : Option Value}
theorem mm_callV {i ci N : Nat} {Cn : String} {T : u_T} {fs : List Value} {st : List Value} (As : List Value) (C : mm_C z k own cc nL ret d) (hT : mm_T (mm_l z) k y bytes mL rt dc (.ref (mmad k i) :: As) F v F2) (wb : mm_CB y bytes mL rt n) (w : mm_VW own idx y) (hi : i < 114) (hc : mm_cell k i (F i) = .inr (ci, fs)) (hcl : vwCl[ci]? = some (Cn, T, N)) (hy : y.cls = Cn) (hn : As.length = n) (hd : dc + 1 ≤ d) (hst : st = As.reverse ++ .ref (mmad k i) :: rest) (hr : (rest.map fun v => v.category).sum ≤ 8) (hdg : decode cc pc = .ok (.invokevirtual idx, 3)) (q : Nat) (hq : pc + 3 = q) (kk : mm_AW z k nL v0 F1 F2 q lv (v.toList ++ rest)) : mm_AW z k nL v0 F1 F pc lv st := by
  obtain ⟨p, l, e, R, s, m, args, below, meth, c⟩ := z
  subst hq
  subst hst
  subst hy
  have hR : R = mm_rm d := C.2.2.2.2.2.2.2.2.2.2
  subst hR
  intro H lc ls hP hS hl
  have hts := C.2.2.2.2.2.1
  have cb : CallB (mm_rm d) s args own idx y bytes mL rt (.code y bytes mL rt :: mm_G) (mm_rm dc) 0 0 n := callB_of (Ts := mm_G) n hts (mm_good0 wb.1) rfl rfl rfl (hts _ wb.2.1) (hts _ w.1) ⟨wb.2.2.1.1, wb.2.2.1.2, wb.2.2.2.1⟩ ⟨hd, by have := wb.2.2.2.2; show 8 + (mL + 11) + 40 * dc ≤ 40 * d; omega⟩
  exact mm_after (va_runV (As := As) (rest := rest) (C := y.cls) (b := mmad k i) (g := F0 m pc ls (As.reverse ++ .ref (mmad k i) :: rest)) ⟨C.1, C.2.1, C.2.2.2.1, C.2.2.2.2.1, hts⟩ hT ⟨cb, hts _ w.2.1, hts _ w.2.2⟩ ⟨mm_blind k _ F, va_recv C.2.2.2.2.2.2.1 hP (ci := ci) (q0 := i) hcl (by rw [mm_at k F hi, hc]), mm_pre hP C.2.2.2.2.2.2.1 C.2.2.2.2.2.2.2.1 C.2.2.2.2.2.2.2.2.1⟩ rfl hn hl.1 rfl (lv_room hr) hdg ⟨Nat.zero_le _, Nat.zero_le _⟩) hS (fun H1 l1 hP1 hS1 => kk H1 l1 ls hP1 hS1 hl)
theorem mm_callS {st : List Value} (As : List Value) (C : mm_C z k own cc nL ret d) (hT : mm_T (mm_l z) k y bytes mL rt dc As F v F2) (wb : mm_CB y bytes mL rt n) (w : mm_SW own idx y) (hn : As.length = n) (hd : dc + 1 ≤ d) (hst : st = As.reverse ++ rest) (hr : (rest.map fun v => v.category).sum ≤ 8) (hdg : decode cc pc = .ok (.invokestatic idx, 3)) (q : Nat) (hq : pc + 3 = q) (kk : mm_AW z k nL v0 F1 F2 q lv (v.toList ++ rest)) : mm_AW z k nL v0 F1 F pc lv st := by
  obtain ⟨p, l, e, R, s, m, args, below, meth, c⟩ := z
  subst hq
  subst hst
  have hR : R = mm_rm d := C.2.2.2.2.2.2.2.2.2.2
  subst hR
  intro H lc ls hP hS hl
  have hts := C.2.2.2.2.2.1
  have cb : CallB (mm_rm d) s args own idx y bytes mL rt (.code y bytes mL rt :: mm_G) (mm_rm dc) 0 0 n := callB_of (Ts := mm_G) n hts (mm_good0 wb.1) rfl rfl rfl (hts _ wb.2.1) (hts _ w.1) ⟨wb.2.2.1.1, wb.2.2.1.2, wb.2.2.2.1⟩ ⟨hd, by have := wb.2.2.2.2; show 8 + (mL + 11) + 40 * dc ≤ 40 * d; omega⟩
  exact mm_after (va_runS (As := As) (rest := rest) (g := F0 m pc ls (As.reverse ++ rest)) ⟨C.1, C.2.1, C.2.2.2.1, C.2.2.2.2.1, hts⟩ hT ⟨cb, hts _ w.2⟩ ⟨mm_blind k _ F, mm_pre hP C.2.2.2.2.2.2.1 C.2.2.2.2.2.2.2.1 C.2.2.2.2.2.2.2.2.1⟩ rfl hn hl.1 rfl (lv_room hr) hdg ⟨Nat.zero_le _, Nat.zero_le _⟩) hS (fun H1 l1 hP1 hS1 => kk H1 l1 ls hP1 hS1 hl)
theorem mm_callN {st : List Value} (As : List Value) (C : mm_C z k RX6 cc nL ret d) (hT : mm_T (mm_l z) k yX11_isWithin bytes mL rt dc As F v F2) (wb : mm_CB yX11_isWithin bytes mL rt n) (w : Cond.static yX11_isWithin ∈ mm_G) (hn : As.length = n) (hd : dc + 1 ≤ d) (hst : st = As.reverse ++ rest) (hr : (rest.map fun v => v.category).sum ≤ 8) (hdg : decode cc pc = .ok (.invokestatic 40, 3)) (q : Nat) (hq : pc + 3 = q) (kk : mm_AW z k nL v0 F1 F2 q lv (v.toList ++ rest)) : mm_AW z k nL v0 F1 F pc lv st := by
  obtain ⟨p, l, e, R, s, m, args, below, meth, c⟩ := z
  subst hq
  subst hst
  have hR : R = mm_rm d := C.2.2.2.2.2.2.2.2.2.2
  subst hR
  intro H lc ls hP hS hl
  have hts := C.2.2.2.2.2.1
  have cb : va_CN (mm_rm d) s args RX6 40 yX11_isWithin RX11 bytes mL rt (.code yX11_isWithin bytes mL rt :: mm_G) (mm_rm dc) 0 0 n := va_cnB (Ts := mm_G) n hts (mm_good0 wb.1) rfl rfl rfl C.2.2.2.2.2.2.2.1.1 (hts _ wb.2.1) ⟨wb.2.2.1.1, wb.2.2.1.2, wb.2.2.2.1⟩ ⟨hd, by have := wb.2.2.2.2; show 8 + (mL + 11) + 40 * dc ≤ 40 * d; omega⟩
  exact mm_after (va_runSN (As := As) (rest := rest) (g := F0 m pc ls (As.reverse ++ rest)) ⟨C.1, C.2.1, C.2.2.2.1, C.2.2.2.2.1, hts⟩ hT ⟨cb, hts _ w, trivial⟩ ⟨mm_blind k _ F, mm_pre hP C.2.2.2.2.2.2.1 C.2.2.2.2.2.2.2.1 C.2.2.2.2.2.2.2.2.1⟩ rfl hn hl.1 rfl (lv_room hr) hdg ⟨Nat.zero_le _, Nat.zero_le _⟩) hS (fun H1 l1 hP1 hS1 => kk H1 l1 ls hP1 hS1 hl)
theorem mm_callU {x : MethodName} {i ci N : Nat} {Cn : String} {T : u_T} {fs : List Value} {st : List Value} (As : List Value) (C : mm_C z k own cc nL ret d) (hT : mm_T (mm_l z) k y bytes mL rt dc (.ref (mmad k i) :: As) F v F2) (wb : mm_CB y bytes mL rt n) (w : mm_UW own idx Cn x y) (hdc : ∀ s : State, mm_N s → va_Nw (.declares ⟨RX7, x.name, x.desc⟩) s) (hi : i < 114) (hc : mm_cell k i (F i) = .inr (ci, fs)) (hcl : vwCl[ci]? = some (Cn, T, N)) (hn : As.length = n) (hd : dc + 1 ≤ d) (hst : st = As.reverse ++ .ref (mmad k i) :: rest) (hr : (rest.map fun v => v.category).sum ≤ 8) (hdg : decode cc pc = .ok (.invokevirtual idx, 3)) (q : Nat) (hq : pc + 3 = q) (kk : mm_AW z k nL v0 F1 F2 q lv (v.toList ++ rest)) : mm_AW z k nL v0 F1 F pc lv st := by
  obtain ⟨p, l, e, R, s, m, args, below, meth, c⟩ := z
  subst hq
  subst hst
  have hR : R = mm_rm d := C.2.2.2.2.2.2.2.2.2.2
  subst hR
  intro H lc ls hP hS hl
  have hts := C.2.2.2.2.2.1
  have cb : va_CU (mm_rm d) s args own Cn RX7 idx x y bytes mL rt (.code y bytes mL rt :: mm_G) (mm_rm dc) 0 0 n := by
    refine ⟨⟨rfl, rfl, hd, by have := wb.2.2.2.2; show 8 + (mL + 11) + 40 * dc ≤ 40 * d; omega, pay_in hts (mm_good0 wb.1), List.mem_cons_self⟩, hts _ wb.1, hts _ wb.2.1, ⟨by decide, by decide⟩, fun sig h => ?_, hts _ w.1, hts _ w.2.1, va_Decl.abs (hdc s C.2.2.2.2.2.2.2.1), hts _ w.2.2.1, hts _ w.2.2.2.1⟩
    have h2 := wb.2.2.2.1
    rw [← w.2.2.2.2, h] at h2
    exact (Option.some.inj h2).symm
  exact mm_after (va_runU (As := As) (rest := rest) (C := Cn) (b := mmad k i) (g := F0 m pc ls (As.reverse ++ .ref (mmad k i) :: rest)) ⟨C.1, C.2.1, C.2.2.2.1, C.2.2.2.2.1, hts⟩ hT cb ⟨mm_blind k _ F, va_recv C.2.2.2.2.2.2.1 hP (ci := ci) (q0 := i) hcl (by rw [mm_at k F hi, hc]), mm_pre hP C.2.2.2.2.2.2.1 C.2.2.2.2.2.2.2.1 C.2.2.2.2.2.2.2.2.1⟩ rfl hn hl.1 rfl (lv_room hr) hdg ⟨Nat.zero_le _, Nat.zero_le _⟩) hS (fun H1 l1 hP1 hS1 => kk H1 l1 ls hP1 hS1 hl)
theorem mm_callP {i ci N : Nat} {Cn : String} {T : u_T} {fs : List Value} {st : List Value} (As : List Value) (C : mm_C z k own cc nL ret d) (hT : mm_T (mm_l z) k y bytes mL rt dc (.ref (mmad k i) :: As) F v F2) (wb : mm_CB y bytes mL rt n) (w : mm_PW own idx y) (hi : i < 114) (hc : mm_cell k i (F i) = .inr (ci, fs)) (hcl : vwCl[ci]? = some (Cn, T, N)) (hn : As.length = n) (hd : dc + 1 ≤ d) (hst : st = As.reverse ++ .ref (mmad k i) :: rest) (hr : (rest.map fun v => v.category).sum ≤ 8) (hdg : decode cc pc = .ok (.invokespecial idx, 3)) (q : Nat) (hq : pc + 3 = q) (kk : mm_AW z k nL v0 F1 F2 q lv (v.toList ++ rest)) : mm_AW z k nL v0 F1 F pc lv st := by
  obtain ⟨p, l, e, R, s, m, args, below, meth, c⟩ := z
  subst hq
  subst hst
  have hR : R = mm_rm d := C.2.2.2.2.2.2.2.2.2.2
  subst hR
  intro H lc ls hP hS hl
  have hts := C.2.2.2.2.2.1
  have cb : va_CS (mm_rm d) s args own idx y bytes mL rt (.code y bytes mL rt :: mm_G) (mm_rm dc) 0 0 n := by
    refine ⟨⟨rfl, rfl, hd, by have := wb.2.2.2.2; show 8 + (mL + 11) + 40 * dc ≤ 40 * d; omega, pay_in hts (mm_good0 wb.1), List.mem_cons_self⟩, hts _ w.1, hts _ w.2.1, hts _ w.2.2.1, hts _ w.2.2.2.1, hts _ wb.2.1, hts _ wb.1, w.2.2.2.2, fun sig h => ?_⟩
    have h2 := wb.2.2.2.1
    rw [h] at h2
    exact (Option.some.inj h2).symm
  exact mm_after (va_runSU (C := Cn) (cC := k.1.1 ci) (C.2.2.2.2.2.2.1.1 ci _ hcl).2 (As := As) (rest := rest) (b := mmad k i) (g := F0 m pc ls (As.reverse ++ .ref (mmad k i) :: rest)) ⟨C.1, C.2.1, C.2.2.2.1, C.2.2.2.2.1, hts⟩ hT cb ⟨mm_blind k _ F, va_recv C.2.2.2.2.2.2.1 hP (ci := ci) (q0 := i) hcl (by rw [mm_at k F hi, hc]), mm_pre hP C.2.2.2.2.2.2.1 C.2.2.2.2.2.2.2.1 C.2.2.2.2.2.2.2.2.1⟩ rfl hn hl.1 rfl (lv_room hr) hdg ⟨Nat.zero_le _, Nat.zero_le _⟩) hS (fun H1 l1 hP1 hS1 => kk H1 l1 ls hP1 hS1 hl)
end MMC
