section MMW
variable {z : mmZ} {k : mmK} {own : String} {cc : ByteArray} {nL d pc : Nat} {ret : Option FieldType} {v0 : Option Value} {F1 F : mmS} {lv : List (Nat × Value)} {rest : List Value}
variable {y : MethodName} {bytes : ByteArray} {mL dc n idx : Nat} {rt : Option FieldType} {F2 : mmS} {v : Option Value}
/-- a call with up to 16 words below it on the operand stack -/
theorem mm_callL {i ci N : Nat} {Cn : String} {T : u_T} {fs : List Value} {st : List Value} (As : List Value) (C : mm_C z k own cc nL ret d) (hT : mm_T (mm_l z) k y bytes mL rt dc (.ref (mmad k i) :: As) F v F2) (wb : mm_CB y bytes mL rt n) (w : mm_VW own idx y) (hi : i < 114) (hc : mm_cell k i (F i) = .inr (ci, fs)) (hcl : vwCl[ci]? = some (Cn, T, N)) (hy : y.cls = Cn) (hn : As.length = n) (hd : dc + 1 ≤ d) (hm : mL ≤ 13) (hst : st = As.reverse ++ .ref (mmad k i) :: rest) (hr : (rest.map fun v => v.category).sum ≤ 16) (hdg : decode cc pc = .ok (.invokevirtual idx, 3)) (q : Nat) (hq : pc + 3 = q) (kk : mm_AW z k nL v0 F1 F2 q lv (v.toList ++ rest)) : mm_AW z k nL v0 F1 F pc lv st := by
  obtain ⟨p, l, e, R, s, m, args, below, meth, c⟩ := z
  subst hq
  subst hst
  subst hy
  have hR : R = mm_rm d := C.2.2.2.2.2.2.2.2.2.2
  subst hR
  intro H lc ls hP hS hl
  have hts := C.2.2.2.2.2.1
  have hcw : Cond.code y bytes mL rt ∈ (.code y bytes mL rt :: mm_G : List Cond) := List.mem_cons_self
  have hK : Back l (mm_rm d) p e below s args y 3 16 (PreOf (mm_rm d) 0 0 (va_Pc (.ref (mmad k i) :: As) (mm_B k F))) (PostOf (mm_Q k v F2) 0 0 (mm_A k)) := back_of (bytes := bytes) (maxL := mL) (ret := rt) hT (mm_blind k _ F) rfl rfl hd (by show 16 + (mL + 11) + 40 * dc ≤ 40 * d; omega) (pay_in hts (mm_good0 wb.1)) hcw (fun a' U hW => word_at hW (Or.inl (by first | rfl | simp [Cond.onTables, Cond.keeps, Cond.steady])) (hts _ wb.2.1))
  obtain ⟨cellB, hcB, hoB, hclB⟩ := va_recv C.2.2.2.2.2.2.1 hP (ci := ci) (q0 := i) hcl (by rw [mm_at k F hi, hc])
  have hlen : ∀ sig, parseMethodDescriptor y.desc = some sig → As.length = sig.parameters.length := fun sig h => by
    have h2 := wb.2.2.2.1
    rw [h] at h2
    exact hn.trans (Option.some.inj h2).symm
  refine mm_after (a := (Value.ref (mmad k i) :: As).toArray) (v := v) (rest := rest) ?_ hS (fun H1 l1 hP1 hS1 => kk H1 l1 ls hP1 hS1 hl)
  intro T hT2 X
  obtain ⟨v, vm₁, ⟨U', l2, c2, s2⟩, hW₁, X', ⟨g', mk, t, L, e1, e2, hq, h1, hL, h2, h3⟩, st⟩ := callV X C.1 (C := y.cls) (bytes := bytes) (maxL := mL) (ret := rt) C.2.2.2.2.1 (hts _ w.1) (hts _ w.2.1) (hts _ w.2.2) (hts _ wb.1) wb.2.2.1 hK (by rw [hT2]; exact hcB) hoB hclB (g := F0 m pc ls (As.reverse ++ .ref (mmad k i) :: rest)) rfl (hl.1.trans C.2.2.2.1.symm) (argsL := As) (rest := rest) hlen rfl (by show 2 * 0 + _ ≤ 16; omega) (by rw [C.2.1]; exact hdg)
    (fun vm₁ hW₁ => ⟨Nat.zero_le _, Nat.zero_le _, mm_pre hP C.2.2.2.2.2.2.1 C.2.2.2.2.2.2.2.1 C.2.2.2.2.2.2.2.2.1 (T.setVm vm₁) hT2 hW₁⟩)
  dsimp only [Pt.U, Pt.locs, Pt.cells, Pt.slots] at X' e1 e2 h1 h2 h3 st
  subst h1; subst h2; subst h3
  exact ⟨v, (T.setVm vm₁).calling g' mk (Value.ref (mmad k i) :: As).toArray, t, U', L, hT2, X', hL, e1, e2, hq, st⟩
end MMW
