/-! PURE: the first memory, and all -/
set_option maxRecDepth 100000 in
theorem f0_4 : ∀ c, c < 216 → ln_F2 3 c = nI (sp_cr c) := by decide +kernel
set_option maxRecDepth 100000 in
theorem f0_r : (ln_F2 0 0 = nI 1 ∧ ln_F2 0 1 = nI 1 ∧ ln_F2 0 2 = nI 2 ∧ ln_F2 0 3 = nI (sp_cs 1 1).length) ∧ (∀ p, p < 6 → ln_F2 1 p = nI 0) ∧ (∀ s, s < 3 → ln_F2 2 s = nI 0) ∧ (∀ i, i < (sp_cs 1 1).length → ln_F2 4 i = nI ((sp_cs 1 1).getD i 0)) := by decide +kernel
theorem inv0 : sp_INV in_F0 := by
  refine ⟨1, 1, 2, fun _ => 0, fun _ => 0, ⟨by omega, by omega, by omega, by omega, by omega, by omega, fun _ => Nat.zero_le _, fun _ => Nat.zero_lt_one, fun _ _ => rfl, fun _ _ => rfl⟩, ?_, ?_, ?_, ?_⟩
  · exact ⟨f0_r.1.1, f0_r.1.2.1, f0_r.1.2.2.1, f0_r.1.2.2.2, f0_r.2.1, f0_r.2.2.1, f0_4, f0_r.2.2.2⟩
  · exact ⟨rfl, rfl, rfl, fun p _ => rfl, fun s _ => rfl, fun s _ => ⟨0, by omega, rfl⟩⟩
  · exact ⟨rfl, rfl, rfl, rfl, ⟨19, 20, .inl ⟨rfl, rfl⟩, rfl, rfl⟩, ⟨93, 94, .inl ⟨rfl, rfl⟩, rfl, rfl⟩⟩
  · refine ⟨rfl, fun s hs => .inl ⟨?_, ?_⟩⟩
    · rcases (by omega : s = 0 ∨ s = 1 ∨ s = 2 ∨ s = 3) with rfl | rfl | rfl | rfl <;> rfl
    · rfl
theorem pure_all : ∃ INV : mmS → Prop, lw_Step INV ∧ INV in_F0 := ⟨sp_INV, ⟨S0, S1, S2, S3, S4, S5, S6, S7, S8, S9, S10, S11, S12, S13, S14, S15, S16, S17, S18, S19, S20, S21, S22, S23, S24, S25⟩, inv0⟩
