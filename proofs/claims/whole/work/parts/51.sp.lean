/-! PURE: the plain functions that both sides compute, and facts about them -/
def sp_ua (a : Nat → Nat) (s x i : Nat) : Nat := if i = s then x else a i
theorem sp_ua_s (a : Nat → Nat) (s x : Nat) : sp_ua a s x s = x := if_pos rfl
theorem sp_ua_n (a : Nat → Nat) {s i : Nat} (x : Nat) (h : i ≠ s) : sp_ua a s x i = a i := if_neg h
theorem sp_ua_le {a : Nat → Nat} {s x m k : Nat} (ha : ∀ i, i < k → a i ≤ m) (hx : x ≤ m) : ∀ i, i < k → sp_ua a s x i ≤ m := by
  intro i hi
  unfold sp_ua
  split
  · exact hx
  · exact ha i hi
/-- the least of the first s, and the first at which it is -/
def sp_mn (v : Nat → Nat) : Nat → Nat
  | 0 => 2147483647
  | s + 1 => min (sp_mn v s) (v s)
def sp_am (v : Nat → Nat) : Nat → Nat
  | 0 => 0
  | s + 1 => if v s < sp_mn v s then s else sp_am v s
theorem sp_mn_le {v : Nat → Nat} : ∀ {k s : Nat}, s < k → sp_mn v k ≤ v s := by
  intro k
  induction k with
  | zero => intro s h; omega
  | succ k ih =>
    intro s h
    show min (sp_mn v k) (v k) ≤ v s
    by_cases e : s = k
    · subst e; omega
    · have := ih (s := s) (by omega); omega
theorem sp_mn_B (v : Nat → Nat) : ∀ k, sp_mn v k ≤ 2147483647 := by
  intro k
  cases k with
  | zero => exact Nat.le_refl _
  | succ k =>
    show min (sp_mn v k) (v k) ≤ _
    induction k with
    | zero => show min 2147483647 (v 0) ≤ _; omega
    | succ k ih => show min (min (sp_mn v k) (v k)) (v (k + 1)) ≤ _; omega
theorem sp_mn_lt {v : Nat → Nat} {k m : Nat} (hk : 0 < k) (h : v 0 < m) : sp_mn v k < m := by
  have := sp_mn_le (v := v) (k := k) (s := 0) hk
  omega
theorem sp_mn_congr {v w : Nat → Nat} : ∀ {k : Nat}, (∀ s, s < k → v s = w s) → sp_mn v k = sp_mn w k := by
  intro k
  induction k with
  | zero => intro _; rfl
  | succ k ih =>
    intro h
    show min (sp_mn v k) (v k) = min (sp_mn w k) (w k)
    rw [ih (fun s hs => h s (by omega)), h k (by omega)]
theorem sp_am_congr {v w : Nat → Nat} : ∀ {k : Nat}, (∀ s, s < k → v s = w s) → sp_am v k = sp_am w k := by
  intro k
  induction k with
  | zero => intro _; rfl
  | succ k ih =>
    intro h
    show (if v k < sp_mn v k then k else sp_am v k) = (if w k < sp_mn w k then k else sp_am w k)
    rw [ih (fun s hs => h s (by omega)), h k (by omega), sp_mn_congr (fun s hs => h s (by omega))]
theorem sp_am_lt {v : Nat → Nat} : ∀ {k : Nat}, 0 < k → sp_am v k < k := by
  intro k
  induction k with
  | zero => intro h; omega
  | succ k ih =>
    intro _
    show (if v k < sp_mn v k then k else sp_am v k) < k + 1
    split
    · omega
    · by_cases e : k = 0
      · subst e; show 0 < 0 + 1; omega
      · have := ih (by omega); omega
theorem sp_am_mn {v : Nat → Nat} : ∀ {k : Nat}, 0 < k → (∀ s, s < k → v s < 2147483647) → v (sp_am v k) = sp_mn v k := by
  intro k
  induction k with
  | zero => intro h; omega
  | succ k ih =>
    intro _ hv
    show v (if v k < sp_mn v k then k else sp_am v k) = min (sp_mn v k) (v k)
    split
    · omega
    · by_cases e : k = 0
      · subst e
        rename_i h
        exact absurd (hv 0 (by omega)) h
      · rw [ih (by omega) (fun s hs => hv s (by omega))]; omega
theorem sp_am_first {v : Nat → Nat} : ∀ {k : Nat}, 0 < k → (∀ s, s < k → v s < 2147483647) → ∀ s, s < sp_am v k → sp_mn v k < v s := by
  intro k
  induction k with
  | zero => intro h; omega
  | succ k ih =>
    intro _ hv s
    show s < (if v k < sp_mn v k then k else sp_am v k) → min (sp_mn v k) (v k) < v s
    split
    · intro hs
      have := sp_mn_le (v := v) hs
      omega
    · intro hs
      by_cases e : k = 0
      · subst e
        exact absurd hs (by show ¬ s < 0; omega)
      · have := ih (by omega) (fun s hs => hv s (by omega)) s hs
        omega
def sp_oI : Option Nat → Int32
  | none => -1
  | some n => nI n
/-- is one there already -/
def sp_sv (a : Nat → Nat) (x : Nat) : Nat → Nat → Bool
  | 0, _ => false
  | d + 1, s => decide (a s = x) || sp_sv a x d (s + 1)
theorem sp_sv_no {a : Nat → Nat} {x : Nat} : ∀ {d s : Nat}, sp_sv a x d s = false → ∀ i, s ≤ i → i < s + d → a i ≠ x := by
  intro d
  induction d with
  | zero => intro s _ i h1 h2; omega
  | succ d ih =>
    intro s h i h1 h2
    have h' : (decide (a s = x) || sp_sv a x d (s + 1)) = false := h
    rw [Bool.or_eq_false_iff] at h'
    by_cases e : i = s
    · subst e; exact of_decide_eq_false h'.1
    · exact ih h'.2 i (by omega) (by omega)
def sp_lo (a : Nat → Nat) (x : Nat) : Nat → Option Nat
  | 0 => none
  | s + 1 => match sp_lo a x s with
    | none => if a s < x then some s else none
    | some b => if a s < x ∧ a b < a s then some s else some b
def sp_hi (a : Nat → Nat) (x : Nat) : Nat → Option Nat
  | 0 => none
  | s + 1 => match sp_hi a x s with
    | none => if x < a s then some s else none
    | some b => if x < a s ∧ a s < a b then some s else some b
theorem sp_lo_some {a : Nat → Nat} {x : Nat} : ∀ {k b : Nat}, sp_lo a x k = some b → b < k ∧ a b < x := by
  intro k
  induction k with
  | zero => intro b h; exact absurd h (by simp [sp_lo])
  | succ k ih =>
    intro b h
    rw [sp_lo] at h
    split at h
    · split at h
      · injection h with h; subst h; exact ⟨by omega, by assumption⟩
      · exact absurd h (by simp)
    · rename_i b' hb
      split at h
      · rename_i hh
        injection h with h; subst h; exact ⟨by omega, hh.1⟩
      · injection h with h; subst h
        have := ih hb
        exact ⟨by omega, this.2⟩
theorem sp_hi_some {a : Nat → Nat} {x : Nat} : ∀ {k b : Nat}, sp_hi a x k = some b → b < k ∧ x < a b := by
  intro k
  induction k with
  | zero => intro b h; exact absurd h (by simp [sp_hi])
  | succ k ih =>
    intro b h
    rw [sp_hi] at h
    split at h
    · split at h
      · injection h with h; subst h; exact ⟨by omega, by assumption⟩
      · exact absurd h (by simp)
    · rename_i b' hb
      split at h
      · rename_i hh
        injection h with h; subst h; exact ⟨by omega, hh.1⟩
      · injection h with h; subst h
        have := ih hb
        exact ⟨by omega, this.2⟩
theorem sp_lo_none {a : Nat → Nat} {x : Nat} : ∀ {k : Nat}, sp_lo a x k = none → ∀ s, s < k → ¬ a s < x := by
  intro k
  induction k with
  | zero => intro _ s hs; omega
  | succ k ih =>
    intro h s hs
    rw [sp_lo] at h
    split at h
    · rename_i hb
      split at h
      · exact absurd h (by simp)
      · by_cases e : s = k
        · subst e; assumption
        · exact ih hb s (by omega)
    · split at h
      · exact absurd h (by simp)
      · exact absurd h (by simp)
theorem sp_hi_none {a : Nat → Nat} {x : Nat} : ∀ {k : Nat}, sp_hi a x k = none → ∀ s, s < k → ¬ x < a s := by
  intro k
  induction k with
  | zero => intro _ s hs; omega
  | succ k ih =>
    intro h s hs
    rw [sp_hi] at h
    split at h
    · rename_i hb
      split at h
      · exact absurd h (by simp)
      · by_cases e : s = k
        · subst e; assumption
        · exact ih hb s (by omega)
    · split at h
      · exact absurd h (by simp)
      · exact absurd h (by simp)
/-- one step of the rule that draws both sides in: the places, and what is gone -/
def sp_bo (k : Nat) (a : Nat → Nat) (x : Nat) : (Nat → Nat) × Nat :=
  if sp_sv a x k 0 = true then (a, 0) else
  match sp_lo a x k, sp_hi a x k with
  | some l, some h => (sp_ua (sp_ua a l (a l + min (x - a l) (a h - x))) h (a h - min (x - a l) (a h - x)), min (x - a l) (a h - x) + min (x - a l) (a h - x))
  | some l, none => (sp_ua a l x, pd (a l) x)
  | none, some h => (sp_ua a h x, pd (a h) x)
  | none, none => (a, 0)
theorem sp_bo_le {k x : Nat} {a : Nat → Nat} (ha : ∀ i, i < k → a i ≤ 1000) (hx : x ≤ 1000) : (∀ i, i < k → (sp_bo k a x).1 i ≤ 1000) ∧ (sp_bo k a x).2 ≤ 2000 := by
  unfold sp_bo
  split
  · exact ⟨ha, by show 0 ≤ 2000; omega⟩
  · split
    · rename_i l h hl hh
      have h1 := sp_lo_some hl
      have h2 := sp_hi_some hh
      have h3 := ha l h1.1
      have h4 := ha h h2.1
      refine ⟨sp_ua_le (sp_ua_le ha (by omega)) (by omega), ?_⟩
      show min (x - a l) (a h - x) + min (x - a l) (a h - x) ≤ 2000
      omega
    · rename_i l hl hh
      have h1 := ha l (sp_lo_some hl).1
      refine ⟨sp_ua_le ha hx, ?_⟩
      show pd (a l) x ≤ 2000
      have := pd_le h1 hx
      omega
    · rename_i l hl hh
      have h1 := ha l (sp_hi_some hh).1
      refine ⟨sp_ua_le ha hx, ?_⟩
      show pd (a l) x ≤ 2000
      have := pd_le h1 hx
      omega
    · exact ⟨ha, by show 0 ≤ 2000; omega⟩
/-- a run of steps: places, what is gone in all, who went last -/
def sp_rn (st : Nat → (Nat → Nat) → (Nat → Nat) × Nat × Int32) (a0 : Nat → Nat) : Nat → (Nat → Nat) × Nat × Int32
  | 0 => (a0, 0, -1)
  | t + 1 => ((st t (sp_rn st a0 t).1).1, (sp_rn st a0 t).2.1 + (st t (sp_rn st a0 t).1).2.1, (st t (sp_rn st a0 t).1).2.2)
theorem sp_rn_inv {st : Nat → (Nat → Nat) → (Nat → Nat) × Nat × Int32} {a0 : Nat → Nat} {Q : (Nat → Nat) → Prop} {m n : Nat} (h0 : Q a0) (hs : ∀ t a, t < n → Q a → Q (st t a).1 ∧ (st t a).2.1 ≤ m) : ∀ t, t ≤ n → Q (sp_rn st a0 t).1 ∧ (sp_rn st a0 t).2.1 ≤ m * t := by
  intro t
  induction t with
  | zero => intro _; exact ⟨h0, by show 0 ≤ m * 0; omega⟩
  | succ t ih =>
    intro ht
    have h1 := ih (by omega)
    have h2 := hs t _ (by omega) h1.1
    refine ⟨h2.1, ?_⟩
    show (sp_rn st a0 t).2.1 + (st t (sp_rn st a0 t).1).2.1 ≤ m * (t + 1)
    rw [Nat.mul_add, Nat.mul_one]
    have h3 := h1.2
    have h4 := h2.2
    omega
/-- codes of standings -/
def sp_po (c s : Nat) : Nat := if s = 0 then c % 6 else if s = 1 then c / 6 % 6 else c / 36
def sp_mv (c s p : Nat) : Nat := if s = 0 then c + p - c % 6 else if s = 1 then c + 6 * p - 6 * (c / 6 % 6) else c + 36 * p - 36 * (c / 36)
def sp_vl (N k c : Nat) : Prop := c < 216 ∧ c % 6 < N ∧ c / 6 % 6 < (if 1 < k then N else 1) ∧ c / 36 < (if 2 < k then N else 1)
theorem sp_mv_lt {c s p : Nat} (hc : c < 216) (hp : p < 6) : sp_mv c s p < 216 := by
  unfold sp_mv
  split
  · omega
  · split <;> omega
theorem sp_po_lt {c s : Nat} (hc : c < 216) : sp_po c s < 6 := by
  unfold sp_po
  split
  · omega
  · split <;> omega
theorem sp_mv_po {c s p i : Nat} (hc : c < 216) (hp : p < 6) (hs : s < 3) (hi : i < 3) : sp_po (sp_mv c s p) i = if i = s then p else sp_po c i := by
  unfold sp_mv sp_po
  rcases (by omega : s = 0 ∨ s = 1 ∨ s = 2) with rfl | rfl | rfl <;> rcases (by omega : i = 0 ∨ i = 1 ∨ i = 2) with rfl | rfl | rfl <;> simp <;> omega
theorem sp_vl_mv {N k c s p : Nat} (hN : N ≤ 6) (h : sp_vl N k c) (hp : p < N) (hs : s < k) (hk : k ≤ 3) : sp_vl N k (sp_mv c s p) := by
  obtain ⟨h0, h1, h2, h3⟩ := h
  have e := fun i hi => sp_mv_po (c := c) (s := s) (p := p) (i := i) h0 (by omega) (by omega) hi
  have e0 := e 0 (by omega)
  have e1 := e 1 (by omega)
  have e2 := e 2 (by omega)
  simp only [sp_po] at e0 e1 e2
  refine ⟨sp_mv_lt h0 (by omega), ?_, ?_, ?_⟩
  · simp at e0; rw [e0]; split <;> omega
  · simp at e1; rw [e1]; split
    · rw [if_pos (by omega)]; exact hp
    · exact h2
  · simp at e2; rw [e2]; split
    · rw [if_pos (by omega)]; exact hp
    · exact h3
theorem sp_vl_po {N k c s : Nat} (hN : 1 ≤ N) (h : sp_vl N k c) : sp_po c s < N := by
  obtain ⟨h0, h1, h2, h3⟩ := h
  unfold sp_po
  split
  · exact h1
  · split
    · split at h2 <;> omega
    · split at h3 <;> omega
/-- tables over codes, by the places of their digits -/
def sp_fC (g : Nat → Nat → Nat → Nat) (c : Nat) : Nat := g (c % 6) (c / 6 % 6) (c / 36)
def sp_st (k : Nat) (P : Nat → Nat) (p : Nat) (g : Nat → Nat → Nat → Nat) (a b c : Nat) : Nat :=
  sp_mn (fun s => if s = 0 then g p b c + pd (P a) (P p) else if s = 1 then g a p c + pd (P b) (P p) else g a b p + pd (P c) (P p)) k
/-- what a server's going costs, with what is behind it -/
def sp_wv (P : Nat → Nat) (g : Nat → Nat → Nat → Nat) (c p s : Nat) : Nat := sp_fC g (sp_mv c s p) + pd (P (sp_po c s)) (P p)
theorem sp_wv_eq {P : Nat → Nat} {g : Nat → Nat → Nat → Nat} {c p s : Nat} (hc : c < 216) (hp : p < 6) (hs : s < 3) : sp_wv P g c p s = if s = 0 then g p (c / 6 % 6) (c / 36) + pd (P (c % 6)) (P p) else if s = 1 then g (c % 6) p (c / 36) + pd (P (c / 6 % 6)) (P p) else g (c % 6) (c / 6 % 6) p + pd (P (c / 36)) (P p) := by
  have e := fun i hi => sp_mv_po (c := c) (s := s) (p := p) (i := i) hc hp hs hi
  have e0 := e 0 (by omega)
  have e1 := e 1 (by omega)
  have e2 := e 2 (by omega)
  unfold sp_wv sp_fC
  simp only [sp_po] at e0 e1 e2 ⊢
  simp at e0 e1 e2
  rw [e0, e1, e2]
  rcases (by omega : s = 0 ∨ s = 1 ∨ s = 2) with rfl | rfl | rfl <;> simp
theorem sp_fC_st {k : Nat} {P : Nat → Nat} {g : Nat → Nat → Nat → Nat} {c p : Nat} (hk : k ≤ 3) (hc : c < 216) (hp : p < 6) : sp_fC (sp_st k P p g) c = sp_mn (sp_wv P g c p) k := by
  show sp_mn _ k = _
  apply sp_mn_congr
  intro s hs
  rw [sp_wv_eq hc hp (by omega)]
def sp_sy (k : Nat) (g : Nat → Nat → Nat → Nat) : Prop := (2 ≤ k → ∀ a b c, g a b c = g b a c) ∧ (3 ≤ k → ∀ a b c, g a b c = g a c b)
theorem sp_mn1 (v : Nat → Nat) : sp_mn v 1 = min 2147483647 (v 0) := rfl
theorem sp_mn2 (v : Nat → Nat) : sp_mn v 2 = min (min 2147483647 (v 0)) (v 1) := rfl
theorem sp_mn3 (v : Nat → Nat) : sp_mn v 3 = min (min (min 2147483647 (v 0)) (v 1)) (v 2) := rfl
theorem sp_sy_st {k : Nat} {P : Nat → Nat} {p : Nat} {g : Nat → Nat → Nat → Nat} (hk : k ≤ 3) (h : sp_sy k g) : sp_sy k (sp_st k P p g) := by
  constructor
  · intro h2 a b c
    have hg := h.1 h2
    rcases (by omega : k = 2 ∨ k = 3) with rfl | rfl
    · show sp_mn _ 2 = sp_mn _ 2
      rw [sp_mn2, sp_mn2]
      simp
      rw [hg a p c, hg p b c]
      omega
    · show sp_mn _ 3 = sp_mn _ 3
      rw [sp_mn3, sp_mn3]
      simp
      rw [hg a p c, hg p b c, hg b a p]
      omega
  · intro h3 a b c
    have hg := h.2 h3
    obtain rfl : k = 3 := by omega
    show sp_mn _ 3 = sp_mn _ 3
    rw [sp_mn3, sp_mn3]
    simp
    rw [hg p b c, hg a b p, hg a p c]
    omega
theorem sp_st_le {k : Nat} {P : Nat → Nat} {p m : Nat} {g : Nat → Nat → Nat → Nat} (hk : 0 < k) (hP : ∀ i, P i ≤ 1000) (hg : ∀ a b c, g a b c ≤ m) (a b c : Nat) : sp_st k P p g a b c ≤ m + 1000 := by
  have h1 := sp_mn_le (v := fun s => if s = 0 then g p b c + pd (P a) (P p) else if s = 1 then g a p c + pd (P b) (P p) else g a b p + pd (P c) (P p)) hk
  simp at h1
  have h2 := hg p b c
  have h3 := pd_le (hP a) (hP p)
  show sp_mn _ k ≤ _
  omega
/-- the order of a crowd -/
def sp_srt (c : Nat) : Nat := max (c % 6) (max (c / 6 % 6) (c / 36)) + 6 * (c % 6 + c / 6 % 6 + c / 36 - max (c % 6) (max (c / 6 % 6) (c / 36)) - min (c % 6) (min (c / 6 % 6) (c / 36))) + 36 * min (c % 6) (min (c / 6 % 6) (c / 36))
def sp_crL : List Nat := [0, 1, 2, 3, 4, 5, 1, 6, 7, 8, 9, 10, 2, 7, 11, 12, 13, 14, 3, 8, 12, 15, 16, 17, 4, 9, 13, 16, 18, 19, 5, 10, 14, 17, 19, 20, 1, 6, 7, 8, 9, 10, 6, 21, 22, 23, 24, 25, 7, 22, 26, 27, 28, 29, 8, 23, 27, 30, 31, 32, 9, 24, 28, 31, 33, 34, 10, 25, 29, 32, 34, 35, 2, 7, 11, 12, 13, 14, 7, 22, 26, 27, 28, 29, 11, 26, 36, 37, 38, 39, 12, 27, 37, 40, 41, 42, 13, 28, 38, 41, 43, 44, 14, 29, 39, 42, 44, 45, 3, 8, 12, 15, 16, 17, 8, 23, 27, 30, 31, 32, 12, 27, 37, 40, 41, 42, 15, 30, 40, 46, 47, 48, 16, 31, 41, 47, 49, 50, 17, 32, 42, 48, 50, 51, 4, 9, 13, 16, 18, 19, 9, 24, 28, 31, 33, 34, 13, 28, 38, 41, 43, 44, 16, 31, 41, 47, 49, 50, 18, 33, 43, 49, 52, 53, 19, 34, 44, 50, 53, 54, 5, 10, 14, 17, 19, 20, 10, 25, 29, 32, 34, 35, 14, 29, 39, 42, 44, 45, 17, 32, 42, 48, 50, 51, 19, 34, 44, 50, 53, 54, 20, 35, 45, 51, 54, 55]
def sp_rpL : List Nat := [0, 1, 2, 3, 4, 5, 7, 8, 9, 10, 11, 14, 15, 16, 17, 21, 22, 23, 28, 29, 35, 43, 44, 45, 46, 47, 50, 51, 52, 53, 57, 58, 59, 64, 65, 71, 86, 87, 88, 89, 93, 94, 95, 100, 101, 107, 129, 130, 131, 136, 137, 143, 172, 173, 179, 215]
def sp_cr (c : Nat) : Nat := sp_crL.getD c 0
set_option maxRecDepth 20000 in
theorem sp_cr_all : ∀ c, c < 216 → sp_cr c < 56 ∧ sp_cr (sp_srt c) = sp_cr c ∧ sp_rpL.getD (sp_cr c) 0 = sp_srt c := by decide +kernel
theorem sp_cr_lt {c : Nat} (h : c < 216) : sp_cr c < 56 := (sp_cr_all c h).1
theorem sp_cr_eq {c d : Nat} (hc : c < 216) (hd : d < 216) (h : sp_cr c = sp_cr d) : sp_srt c = sp_srt d := by
  rw [← (sp_cr_all c hc).2.2, ← (sp_cr_all d hd).2.2, h]
theorem sp_g_srt {N k c : Nat} {g : Nat → Nat → Nat → Nat} (hk : 1 ≤ k) (hk3 : k ≤ 3) (hs : sp_sy k g) (h : sp_vl N k c) : sp_fC g (sp_srt c) = sp_fC g c := by
  obtain ⟨h0, h1, h2, h3⟩ := h
  have e : sp_srt c % 6 = max (c % 6) (max (c / 6 % 6) (c / 36)) ∧ sp_srt c / 6 % 6 = (c % 6 + c / 6 % 6 + c / 36 - max (c % 6) (max (c / 6 % 6) (c / 36)) - min (c % 6) (min (c / 6 % 6) (c / 36))) ∧ sp_srt c / 36 = min (c % 6) (min (c / 6 % 6) (c / 36)) := by
    unfold sp_srt
    have a1 : c % 6 < 6 := by omega
    have a2 : c / 6 % 6 < 6 := by omega
    have a3 : c / 36 < 6 := by omega
    generalize c % 6 = x at *
    generalize c / 6 % 6 = y at *
    generalize c / 36 = z at *
    refine ⟨?_, ?_, ?_⟩ <;> omega
  unfold sp_fC
  rw [e.1, e.2.1, e.2.2]
  have a1 : c % 6 < 6 := by omega
  have a2 : c / 6 % 6 < 6 := by omega
  have a3 : c / 36 < 6 := by omega
  generalize c % 6 = x at *
  generalize c / 6 % 6 = y at *
  generalize c / 36 = z at *
  clear e h0
  rcases (by omega : k = 1 ∨ k = 2 ∨ k = 3) with rfl | rfl | rfl
  · simp at h2 h3
    subst h2 h3
    simp
  · simp at h3
    subst h3
    have g1 := hs.1 (by omega)
    rcases Nat.le_total x y with q | q
    · rw [show max x (max y 0) = y by omega, show min x (min y 0) = 0 by omega, show x + y + 0 - y - 0 = x by omega]
      exact g1 y x 0
    · rw [show max x (max y 0) = x by omega, show min x (min y 0) = 0 by omega, show x + y + 0 - x - 0 = y by omega]
  · have g1 := hs.1 (by omega)
    have g2 := hs.2 (by omega)
    clear h2 h3
    rcases Nat.le_total x y with q | q <;> rcases Nat.le_total y z with r | r <;> rcases Nat.le_total x z with u | u
    · rw [show max x (max y z) = z by omega, show min x (min y z) = x by omega, show x + y + z - z - x = y by omega, g1 z y x, g2 y z x, g1 y x z]
    · rw [show max x (max y z) = z by omega, show min x (min y z) = x by omega, show x + y + z - z - x = y by omega, g1 z y x, g2 y z x, g1 y x z]
    · rw [show max x (max y z) = y by omega, show min x (min y z) = x by omega, show x + y + z - y - x = z by omega, g2 y z x, g1 y x z]
    · rw [show max x (max y z) = y by omega, show min x (min y z) = z by omega, show x + y + z - y - z = x by omega, g1 y x z]
    · rw [show max x (max y z) = z by omega, show min x (min y z) = y by omega, show x + y + z - z - y = x by omega, g1 z x y, g2 x z y]
    · rw [show max x (max y z) = x by omega, show min x (min y z) = y by omega, show x + y + z - x - y = z by omega, g2 x z y]
    · rw [show max x (max y z) = x by omega, show min x (min y z) = z by omega, show x + y + z - x - z = y by omega]
    · rw [show max x (max y z) = x by omega, show min x (min y z) = z by omega, show x + y + z - x - z = y by omega]
theorem sp_g_cr {N k c d : Nat} {g : Nat → Nat → Nat → Nat} (hk : 1 ≤ k) (hk3 : k ≤ 3) (hs : sp_sy k g) (h : sp_vl N k c) (h' : sp_vl N k d) (e : sp_cr c = sp_cr d) : sp_fC g c = sp_fC g d := by
  rw [← sp_g_srt hk hk3 hs h, ← sp_g_srt hk hk3 hs h', sp_cr_eq h.1 h'.1 e]
/-- the listed standings -/
def sp_lA (b c : Nat) : Nat → Nat → List Nat → List Nat
  | 0, _, l => l
  | d + 1, a, l => sp_lA b c d (a + 1) (l ++ [a + 6 * b + 36 * c])
def sp_lB (n0 c : Nat) : Nat → Nat → List Nat → List Nat
  | 0, _, l => l
  | d + 1, b, l => sp_lB n0 c d (b + 1) (sp_lA b c (n0 - b) b l)
def sp_lC (n0 n1 : Nat) : Nat → Nat → List Nat → List Nat
  | 0, _, l => l
  | d + 1, c, l => sp_lC n0 n1 d (c + 1) (sp_lB n0 c (n1 - c) c l)
def sp_cs (N k : Nat) : List Nat := sp_lC N (if 1 < k then N else 1) (if 2 < k then N else 1) 0 []
def sp_ok (N k : Nat) : Bool := (sp_cs N k).all (fun c => decide (c < 216 ∧ c % 6 < N ∧ c / 6 % 6 < (if 1 < k then N else 1) ∧ c / 36 < (if 2 < k then N else 1))) && decide ((sp_cs N k).length ≤ 56) && (List.range 216).all (fun c => !decide (c % 6 < N ∧ c / 6 % 6 < (if 1 < k then N else 1) ∧ c / 36 < (if 2 < k then N else 1)) || (sp_cs N k).contains (sp_srt c))
set_option maxRecDepth 20000 in
theorem sp_ok_all : ∀ N, N < 7 → ∀ k, k < 4 → sp_ok N k = true := by decide +kernel
theorem sp_cs_vl {N k i : Nat} (hN : N < 7) (hk : k < 4) (hi : i < (sp_cs N k).length) : sp_vl N k ((sp_cs N k).getD i 0) := by
  have h := sp_ok_all N hN k hk
  unfold sp_ok at h
  simp only [Bool.and_eq_true, List.all_eq_true, decide_eq_true_eq] at h
  have h2 := h.1.1 ((sp_cs N k).getD i 0) (by rw [List.getD_eq_getElem?_getD, List.getElem?_eq_getElem hi]; exact List.getElem_mem hi)
  exact h2
theorem sp_cs_len {N k : Nat} (hN : N < 7) (hk : k < 4) : (sp_cs N k).length ≤ 56 := by
  have h := sp_ok_all N hN k hk
  unfold sp_ok at h
  simp only [Bool.and_eq_true, decide_eq_true_eq] at h
  exact h.1.2
theorem sp_cs_cov {N k c : Nat} (hN : N < 7) (hk : k < 4) (hc : sp_vl N k c) : ∃ i, i < (sp_cs N k).length ∧ sp_cr ((sp_cs N k).getD i 0) = sp_cr c := by
  have h := sp_ok_all N hN k hk
  unfold sp_ok at h
  simp only [Bool.and_eq_true, List.all_eq_true] at h
  have h2 := h.2 c (List.mem_range.mpr hc.1)
  rw [Bool.or_eq_true] at h2
  have h3 : (sp_cs N k).contains (sp_srt c) = true := by
    rcases h2 with h2 | h2
    · rw [Bool.not_eq_true', decide_eq_false_iff_not] at h2
      exact absurd hc.2 h2
    · exact h2
  have h4 : sp_srt c ∈ sp_cs N k := List.contains_iff_mem.mp h3
  obtain ⟨i, hi, e⟩ := List.getElem_of_mem h4
  refine ⟨i, hi, ?_⟩
  rw [List.getD_eq_getElem?_getD, List.getElem?_eq_getElem hi]
  show sp_cr (sp_cs N k)[i] = _
  rw [e]
  exact (sp_cr_all c hc.1).2.1
