/-! PURE, base: numbers, reads and writes of the memory -/
theorem pb_len (q : Nat) : mm_len q < 2 ^ 31 := by
  by_cases h : mm_len q = 0
  · rw [h]; decide
  · have hq := mm_len_lt h
    exact (show ∀ i, i < 114 → mm_len i < 2 ^ 31 by decide +kernel) q hq
theorem pb_ald {F : mmS} {q n : Nat} (h : n < mm_len q) : ald F q (nI n) = some (F q n) := by
  have hl := pb_len q
  unfold ald
  rw [nI_clamp (by omega), if_neg]
  rintro (h1 | h1)
  · exact nI_pos (by omega) h1
  · omega
theorem pb_ast {F : mmS} {q n : Nat} {v : Int32} (h : n < mm_len q) : ast F q (nI n) v = some (stF F q n v) := by
  have hl := pb_len q
  unfold ast
  rw [nI_clamp (by omega), if_neg]
  rintro (h1 | h1)
  · exact nI_pos (by omega) h1
  · omega
theorem pb_rld {q n : Nat} (h : n < mm_lenR q) (h2 : mm_lenR q ≤ 100) : rld q (nI n) = some (mm_tab q n) := by
  unfold rld
  rw [nI_clamp (by omega), if_neg]
  rintro (h1 | h1)
  · exact nI_pos (by omega) h1
  · omega
theorem pb_zld {F : mmS} {n : Nat} (h : n < 4) : zld F (nI n) = some (F 109 n) := by
  unfold zld
  rw [nI_clamp (by omega), if_neg]
  rintro (h1 | h1)
  · exact nI_pos (by omega) h1
  · omega
theorem pb_zst {F : mmS} {n : Nat} {v : Int32} (h : n < 4) (hv : v = 0 ∨ v = 1) : zst F (nI n) v = some (stF F 109 n v) := by
  unfold zst
  rw [nI_clamp (by omega), if_neg, if_pos hv]
  rintro (h1 | h1)
  · exact nI_pos (by omega) h1
  · omega
theorem st_at (F : mmS) (q j : Nat) (v : Int32) (c i : Nat) : stF F q j v c i = if c = q ∧ i = j then v else F c i := by
  unfold stF va_up upd
  by_cases h : c = q
  · subst h
    by_cases g : i = j
    · simp [g]
    · simp [g]
  · simp [h]
theorem st_self (F : mmS) (q j : Nat) (v : Int32) : stF F q j v q j = v := by rw [st_at]; simp
theorem st_cell (F : mmS) {q c : Nat} (j : Nat) (v : Int32) (h : c ≠ q) : stF F q j v c = F c := by
  funext i
  rw [st_at, if_neg (fun g => h g.1)]
theorem st_ne (F : mmS) {q c j i : Nat} (v : Int32) (h : ¬ (c = q ∧ i = j)) : stF F q j v c i = F c i := by rw [st_at, if_neg h]
/-- the distance of two numbers -/
def pd (a b : Nat) : Nat := (a - b) + (b - a)
theorem pd_comm (a b : Nat) : pd a b = pd b a := by unfold pd; omega
theorem pd_le {a b m : Nat} (ha : a ≤ m) (hb : b ≤ m) : pd a b ≤ m := by unfold pd; omega
theorem pb_abs {a b : Nat} (ha : a < 2 ^ 30) (hb : b < 2 ^ 30) : mabs (nI a - nI b) = nI (pd a b) := by
  unfold mabs pd
  rcases Nat.le_total b a with h | h
  · rw [pk_sub h, if_pos (nI_pos' (by omega))]
    congr 1
    omega
  · by_cases e : a = b
    · subst e
      rw [pk_sub (Nat.le_refl a), if_pos (nI_pos' (by omega))]
      congr 1
      omega
    · have h1 := pk_sneg (a := a) (b := b) hb (by omega)
      rw [if_neg (by rw [Int32.not_le]; exact h1)]
      have h2 : (0 : Int32) - (nI a - nI b) = nI b - nI a := by
        apply Int32.toBitVec_inj.mp
        simp only [Int32.toBitVec_sub]
        generalize (nI a).toBitVec = x
        generalize (nI b).toBitVec = y
        show 0#32 - (x - y) = y - x
        bv_omega
      rw [h2, pk_sub h]
      congr 1
      omega
theorem pb_min {a b : Nat} (ha : a < 2 ^ 31) (hb : b < 2 ^ 31) : mmin (nI a) (nI b) = nI (min a b) := by
  unfold mmin
  by_cases h : b < a
  · rw [if_pos (nI_lt h ha)]
    congr 1
    omega
  · rw [if_neg (nI_nlt (by omega) hb)]
    congr 1
    omega
theorem pb_apart {a b : Nat} (ha : a < 2 ^ 31) (hb : b < 2 ^ 31) : m_X12_apart (nI a) (nI b) = some (nI (pd a b)) := by
  unfold m_X12_apart pd
  by_cases h : b ≤ a
  · rw [if_pos (nI_le h ha), pk_sub h]
    congr 2
    omega
  · rw [if_neg (nI_ge (by omega) hb), pk_sub (by omega)]
    congr 2
    omega
theorem pb_in (a lo hi : Int32) : m_X12_in a lo hi = some (if lo ≤ a ∧ a ≤ hi then 1 else 0) := by
  unfold m_X12_in
  by_cases h1 : a < lo
  · rw [if_pos h1, if_neg (fun h => by have := Int32.not_lt.mpr h.1; exact this h1)]
    rfl
  · by_cases h2 : hi < a
    · rw [if_neg h1, if_pos h2, if_neg (fun h => by have := Int32.not_lt.mpr h.2; exact this h2)]
      rfl
    · rw [if_neg h1, if_neg h2, if_pos ⟨Int32.not_lt.mp h1, Int32.not_lt.mp h2⟩]
      rfl
theorem pb_within (a lo hi : Int32) : m_X11_isWithin a lo hi = some (if lo ≤ a ∧ a ≤ hi then 1 else 0) := pb_in a lo hi
/-- a number between two: it is one of the naturals there -/
theorem pb_range {a : Int32} {lo hi : Nat} (hlo : lo < 2 ^ 31) (hhi : hi < 2 ^ 31) : (nI lo ≤ a ∧ a ≤ nI hi) ↔ ∃ j, lo ≤ j ∧ j ≤ hi ∧ a = nI j := by
  constructor
  · rintro ⟨h1, h2⟩
    have h0 : ¬ a < 0 := by
      rw [Int32.not_lt]
      exact Int32.le_trans (nI_pos' hlo) h1
    obtain ⟨j, hj, rfl⟩ := nI_of h0
    exact ⟨j, (nI_leI hlo hj).mp h1, (nI_leI hj hhi).mp h2, rfl⟩
  · rintro ⟨j, h1, h2, rfl⟩
    exact ⟨nI_le h1 (by omega), nI_le h2 hhi⟩
