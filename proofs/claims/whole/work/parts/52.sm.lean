/-! PURE: pictures of the memory, and the small methods of both sides -/
theorem zb_some {α β : Type} (x : α) (f : α → Option β) : Option.bind (some x) f = f x := by
  have h : Option.bind (some x) f = f x := rfl
  exact h
theorem zb_mlet {α β : Type} (a : α) (f : α → β) : mlet a f = f a := by
  have h : mlet a f = f a := rfl
  exact h
theorem zb_bd1 {α β : Type} (x : α) (f : α → Option β) : bd1 (some x) f = f x := by
  have h : bd1 (some x) f = f x := rfl
  exact h
theorem zb_bd2 {α β γ : Type} (x : α) (y : β) (f : α → β → Option γ) : bd2 (some (x, y)) f = f x y := by
  have h : bd2 (some (x, y)) f = f x y := rfl
  exact h
theorem li0 : (0 : Int32) = nI 0 := rfl
theorem li1 : (1 : Int32) = nI 1 := rfl
theorem li2 : (2 : Int32) = nI 2 := rfl
theorem li3 : (3 : Int32) = nI 3 := rfl
theorem zi_rd {F : mmS} {q : Nat} {i v : Int32} (n : Nat) (hi : i = nI n) (hv : F q n = v) (hn : n < mm_len q) : ald F q i = some v := by
  subst hi hv
  exact pb_ald hn
theorem zi_wr {F : mmS} {q : Nat} {i v : Int32} (n : Nat) (hi : i = nI n) (hn : n < mm_len q) : ast F q i v = some (stF F q n v) := by
  subst hi
  exact pb_ast hn
theorem zi_adds {a b q : Nat} (h : q ≤ a + b) : nI a + (nI b - nI q) = nI (a + b - q) := by
  rw [Int32.sub_eq_add_neg, ← Int32.add_assoc, nI_add, ← Int32.sub_eq_add_neg, pk_sub h]
theorem zi_m1 {n : Nat} (h : n < 2 ^ 31) : nI n ≠ -1 := by
  intro e
  have := nI_pos h
  rw [e] at this
  exact this (by decide)
theorem zi_zg0 : zg 0 = some 0 := rfl
theorem zi_zg1 : zg 1 = some 1 := rfl
theorem zi_zgi (p : Prop) [Decidable p] : zg (if p then 1 else 0) = some (if p then 1 else 0) := by
  split <;> rfl
def sp_num (N k G : Nat) (P S : Nat → Nat) : Prop := 1 ≤ N ∧ N ≤ 6 ∧ 1 ≤ k ∧ k ≤ 3 ∧ 1 ≤ G ∧ G ≤ 9 ∧ (∀ p, P p ≤ 1000) ∧ (∀ s, S s < N) ∧ (∀ s, k ≤ s → S s = 0) ∧ (∀ p, N ≤ p → P p = 0)
def sp_lc (N k G : Nat) (P S : Nat → Nat) (F : mmS) : Prop := F 1 0 = nI N ∧ F 1 1 = nI k ∧ F 1 2 = nI G ∧ F 1 3 = nI (sp_cs N k).length ∧ (∀ p, p < 6 → F 2 p = nI (P p)) ∧ (∀ s, s < 3 → F 3 s = nI (S s)) ∧ (∀ c, c < 216 → F 4 c = nI (sp_cr c)) ∧ (∀ i, i < (sp_cs N k).length → F 5 i = nI ((sp_cs N k).getD i 0))
def sp_lr (N k G : Nat) (P S : Nat → Nat) (F : mmS) : Prop := F 97 0 = nI N ∧ F 97 2 = nI k ∧ F 97 4 = nI G ∧ (∀ p, p < N → F 98 p = nI (P p)) ∧ (∀ s, s < k → F 99 s = nI (S s)) ∧ (∀ s, s < 3 → ∃ j, j < N ∧ F 99 s = nI j)
theorem sp_lc_fr {N k G : Nat} {P S : Nat → Nat} {F F1 : mmS} (h : sp_lc N k G P S F) (hf : ∀ c, c < 6 → F1 c = F c) : sp_lc N k G P S F1 := by
  unfold sp_lc at *
  rw [hf 1 (by omega), hf 2 (by omega), hf 3 (by omega), hf 4 (by omega), hf 5 (by omega)]
  exact h
theorem sp_lr_fr {N k G : Nat} {P S : Nat → Nat} {F F1 : mmS} (h : sp_lr N k G P S F) (h98 : F1 98 = F 98) (h99 : F1 99 = F 99) (h0 : F1 97 0 = F 97 0) (h2 : F1 97 2 = F 97 2) (h4 : F1 97 4 = F 97 4) : sp_lr N k G P S F1 := by
  unfold sp_lr at *
  rw [h98, h99, h0, h2, h4]
  exact h
/-- cells outside a range are as they were -/
def sp_fr (lo hi : Nat) (F F1 : mmS) : Prop := ∀ c, (c < lo ∨ hi ≤ c) → F1 c = F c
theorem sp_fr_refl (lo hi : Nat) (F : mmS) : sp_fr lo hi F F := fun _ _ => rfl
theorem sp_fr_tr {lo hi : Nat} {F G H : mmS} (h : sp_fr lo hi F G) (h' : sp_fr lo hi G H) : sp_fr lo hi F H := fun c hc => (h' c hc).trans (h c hc)
theorem sp_fr_up {lo hi lo' hi' : Nat} {F G : mmS} (h : sp_fr lo hi F G) (a : lo' ≤ lo) (b : hi ≤ hi') : sp_fr lo' hi' F G := fun c hc => h c (by omega)
theorem sp_fr_st {lo hi : Nat} (F : mmS) {q : Nat} (j : Nat) (v : Int32) (h : lo ≤ q) (h' : q < hi) : sp_fr lo hi F (stF F q j v) := fun c hc => st_cell F j v (by omega)
theorem zi_rem {a : Nat} (d : Nat) {x y : Int32} (hx : x = nI a) (hy : y = nI d) (ha : a < 2 ^ 31) (h0 : 0 < d) (hd : d < 2 ^ 31) : mrem x y = some (nI (a % d)) := by
  subst hx hy
  unfold mrem
  rw [if_neg (nI_ne0 h0 hd), pk_rem ha h0 hd]
theorem zi_div {a : Nat} (d : Nat) {x y : Int32} (hx : x = nI a) (hy : y = nI d) (ha : a < 2 ^ 31) (h0 : 0 < d) (hd : d < 2 ^ 31) : mdiv x y = some (nI (a / d)) := by
  subst hx hy
  unfold mdiv
  rw [if_neg (nI_ne0 h0 hd), pk_div ha h0 hd]
theorem zi_po {c s : Nat} (hc : c < 216) (hs : s < 3) : m_X3_pointOf (nI c) (nI s) = some (nI (sp_po c s)) := by
  unfold m_X3_pointOf sp_po
  have e1 : mrem (nI c) 6 = some (nI (c % 6)) := zi_rem 6 rfl rfl (by omega) (by omega) (by omega)
  have e2 : mdiv (nI c) 6 = some (nI (c / 6)) := zi_div 6 rfl rfl (by omega) (by omega) (by omega)
  have e3 : mrem (nI (c / 6)) 6 = some (nI (c / 6 % 6)) := zi_rem 6 rfl rfl (by omega) (by omega) (by omega)
  have e4 : mdiv (nI c) 36 = some (nI (c / 36)) := zi_div 36 rfl rfl (by omega) (by omega) (by omega)
  simp only [e1, e2, e3, e4, Option.bind_some]
  rcases (by omega : s = 0 ∨ s = 1 ∨ s = 2) with rfl | rfl | rfl
  · rfl
  · rfl
  · rfl
theorem zi_poR {c s : Nat} (hc : c < 216) (hs : s < 3) : m_X12_pointOf_97 (nI c) (nI s) = some (nI (sp_po c s)) := zi_po hc hs
theorem zi_mv {c s p : Nat} (hc : c < 216) (hp : p < 6) (hs : s < 3) : m_X3_moved (nI c) (nI s) (nI p) = some (nI (sp_mv c s p)) := by
  unfold m_X3_moved
  rw [zi_po hc hs]
  rcases (by omega : s = 0 ∨ s = 1 ∨ s = 2) with rfl | rfl | rfl
  · show some (nI c + (nI p - nI (c % 6))) = some (nI (c + p - c % 6))
    rw [zi_adds (by omega)]
  · show some (nI c + nI 6 * (nI p - nI (c / 6 % 6))) = some (nI (c + 6 * p - 6 * (c / 6 % 6)))
    rw [Int32.mul_sub, pk_mul, pk_mul, zi_adds (by omega)]
  · show some (nI c + nI 36 * (nI p - nI (c / 36))) = some (nI (c + 36 * p - 36 * (c / 36)))
    rw [Int32.mul_sub, pk_mul, pk_mul, zi_adds (by omega)]
theorem zi_mvR {c s p : Nat} (hc : c < 216) (hp : p < 6) (hs : s < 3) : m_X12_with_97 (nI c) (nI s) (nI p) = some (nI (sp_mv c s p)) := by
  unfold m_X12_with_97
  rw [zi_poR hc hs]
  rcases (by omega : s = 0 ∨ s = 1 ∨ s = 2) with rfl | rfl | rfl
  · show some (nI c + nI 1 * (nI p - nI (c % 6))) = some (nI (c + p - c % 6))
    rw [Int32.mul_sub, pk_mul, pk_mul, zi_adds (by omega), Nat.one_mul, Nat.one_mul]
  · show some (nI c + nI 6 * (nI p - nI (c / 6 % 6))) = some (nI (c + 6 * p - 6 * (c / 6 % 6)))
    rw [Int32.mul_sub, pk_mul, pk_mul, zi_adds (by omega)]
  · show some (nI c + nI 36 * (nI p - nI (c / 36))) = some (nI (c + 36 * p - 36 * (c / 36)))
    rw [Int32.mul_sub, pk_mul, pk_mul, zi_adds (by omega)]
theorem zi_way {N k G : Nat} {P S : Nat → Nat} {F : mmS} (hn : sp_num N k G P S) (hl : sp_lc N k G P S F) {c s p : Nat} (hc : c < 216) (hp : p < 6) (hs : s < 3) : m_X3_wayOf_1 F (nI c) (nI s) (nI p) = some (nI (pd (P (sp_po c s)) (P p))) := by
  obtain ⟨-, -, -, -, -, -, hP, -⟩ := hn
  obtain ⟨-, -, -, -, h2, -⟩ := hl
  unfold m_X3_wayOf_1
  have a1 := hP (sp_po c s)
  have a2 := hP p
  have a3 := sp_po_lt (s := s) hc
  rw [zi_po hc hs, Option.bind_some, zi_rd (sp_po c s) rfl (h2 _ a3) a3, Option.bind_some, zi_rd p rfl (h2 p hp) hp, Option.bind_some, pb_abs (by omega) (by omega)]
theorem zi_wayR {N k G : Nat} {P S : Nat → Nat} {F : mmS} (hn : sp_num N k G P S) (hl : sp_lr N k G P S F) {c s p : Nat} (hc : sp_vl N k c) (hp : p < N) (hs : s < 3) : m_X12_wayTo_97 F (nI c) (nI s) (nI p) = some (nI (pd (P (sp_po c s)) (P p))) := by
  obtain ⟨hN1, hN, -, -, -, -, hP, -⟩ := hn
  obtain ⟨-, -, -, h2, -⟩ := hl
  unfold m_X12_wayTo_97
  have a1 := hP (sp_po c s)
  have a2 := hP p
  have a3 := sp_vl_po (s := s) hN1 hc
  rw [zi_poR hc.1 hs, Option.bind_some, zi_rd (sp_po c s) rfl (h2 _ a3) (show _ < 6 by omega), Option.bind_some, zi_rd p rfl (h2 p hp) (show _ < 6 by omega), Option.bind_some, pb_apart (by omega) (by omega)]
  rfl
/-- where they start -/
def sp_s0 (S : Nat → Nat) : Nat := S 0 + 6 * S 1 + 36 * S 2
theorem sp_s0_d {N k G : Nat} {P S : Nat → Nat} (hn : sp_num N k G P S) : sp_s0 S % 6 = S 0 ∧ sp_s0 S / 6 % 6 = S 1 ∧ sp_s0 S / 36 = S 2 := by
  obtain ⟨hN1, hN, -, -, -, -, -, hS, -⟩ := hn
  have a0 := hS 0
  have a1 := hS 1
  have a2 := hS 2
  unfold sp_s0
  omega
theorem sp_s0_po {N k G : Nat} {P S : Nat → Nat} (hn : sp_num N k G P S) {s : Nat} (hs : s < 3) : sp_po (sp_s0 S) s = S s := by
  have h := sp_s0_d hn
  unfold sp_po
  rcases (by omega : s = 0 ∨ s = 1 ∨ s = 2) with rfl | rfl | rfl
  · exact h.1
  · exact h.2.1
  · exact h.2.2
theorem sp_s0_vl {N k G : Nat} {P S : Nat → Nat} (hn : sp_num N k G P S) : sp_vl N k (sp_s0 S) := by
  have h := sp_s0_d hn
  obtain ⟨hN1, hN, -, -, -, -, -, hS, hS0, -⟩ := hn
  have a0 := hS 0
  have a1 := hS 1
  have a2 := hS 2
  refine ⟨by unfold sp_s0; omega, by rw [h.1]; exact a0, ?_, ?_⟩
  · rw [h.2.1]
    split
    · exact a1
    · rw [hS0 1 (by omega)]; omega
  · rw [h.2.2]
    split
    · exact a2
    · rw [hS0 2 (by omega)]; omega
theorem zi_sof {N k G : Nat} {P S : Nat → Nat} {F : mmS} (hn : sp_num N k G P S) (hl : sp_lc N k G P S F) (a b c : Nat) : m_X3_standingOf_1 F (nI a) (nI b) (nI c) = some (nI (a + 6 * (if k ≤ 1 then 0 else b) + 36 * (if k ≤ 2 then 0 else c))) := by
  obtain ⟨-, -, hk1, hk3, -⟩ := hn
  obtain ⟨-, h11, -⟩ := hl
  unfold m_X3_standingOf_1 m_X3_coded
  rw [h11]
  rcases (by omega : k = 1 ∨ k = 2 ∨ k = 3) with rfl | rfl | rfl
  · show some (nI a + nI 6 * nI 0 + nI 36 * nI 0) = _
    rw [pk_mul, pk_mul, nI_add, nI_add]
    rfl
  · show some (nI a + nI 6 * nI b + nI 36 * nI 0) = _
    rw [pk_mul, pk_mul, nI_add, nI_add]
    rfl
  · show some (nI a + nI 6 * nI b + nI 36 * nI c) = _
    rw [pk_mul, pk_mul, nI_add, nI_add]
    rfl
theorem zi_ss {N k G : Nat} {P S : Nat → Nat} {F : mmS} (hn : sp_num N k G P S) (hl : sp_lc N k G P S F) : m_X3_startStanding_1 F = some (nI (sp_s0 S)) := by
  have h3 := hl.2.2.2.2.2.1
  unfold m_X3_startStanding_1
  rw [zi_rd 0 li0 (h3 0 (by omega)) (by decide), Option.bind_some, zi_rd 1 li1 (h3 1 (by omega)) (by decide), Option.bind_some, zi_rd 2 li2 (h3 2 (by omega)) (by decide), Option.bind_some, zi_sof hn hl, Option.bind_some]
  obtain ⟨-, -, hk1, hk3, -, -, -, hS, hS0, -⟩ := hn
  congr 2
  unfold sp_s0
  rcases (by omega : k = 1 ∨ k = 2 ∨ k = 3) with rfl | rfl | rfl
  · rw [hS0 1 (by omega), hS0 2 (by omega)]; rfl
  · rw [hS0 2 (by omega)]; rfl
  · rfl
theorem zi_bgR {N k G : Nat} {P S : Nat → Nat} {F : mmS} (hn : sp_num N k G P S) (hl : sp_lr N k G P S F) : m_X12_begin_97 F = some (nI (sp_s0 S)) := by
  obtain ⟨hN1, hN, hk1, hk3, -, -, -, hS, hS0, -⟩ := hn
  obtain ⟨-, h2, -, -, h9, -⟩ := hl
  unfold m_X12_begin_97
  have a0 := hS 0
  have a1 := hS 1
  have a2 := hS 2
  have stop : ∀ n v s, k ≤ s → s < 10 → m_X12_begin_97_L4 F (n + 1) v (nI s) = some v := by
    intro n v s hs h10
    rw [m_X12_begin_97_L4, h2, if_pos (nI_le hs (by omega))]
  have go : ∀ n c s, s < k → c < 216 → m_X12_begin_97_L4 F (n + 1) (nI c) (nI s) = m_X12_begin_97_L4 F n (nI (sp_mv c s (S s))) (nI (s + 1)) := by
    intro n c s hs hc
    rw [m_X12_begin_97_L4, h2, if_neg (nI_ge hs (by omega)), zi_rd s rfl (h9 s hs) (show s < 3 by omega), Option.bind_some, zi_mvR hc (by have := hS s; omega) (by omega), Option.bind_some]
    show m_X12_begin_97_L4 F n _ (nI s + 1) = _
    rw [nI_1]
  show bd1 (m_X12_begin_97_L4 F 300 (nI 0) (nI 0)) _ = _
  rcases (by omega : k = 1 ∨ k = 2 ∨ k = 3) with rfl | rfl | rfl
  · rw [go 299 0 0 (by omega) (by omega), stop 298 _ 1 (by omega) (by omega)]
    show some _ = some _
    congr 2
    unfold sp_s0
    rw [hS0 1 (by omega), hS0 2 (by omega)]
    unfold sp_mv
    simp
  · rw [go 299 0 0 (by omega) (by omega), go 298 _ 1 (by omega) (sp_mv_lt (by omega) (by omega)), stop 297 _ 2 (by omega) (by omega)]
    show some _ = some _
    congr 2
    unfold sp_s0
    rw [hS0 2 (by omega)]
    unfold sp_mv
    simp
    omega
  · rw [go 299 0 0 (by omega) (by omega), go 298 _ 1 (by omega) (sp_mv_lt (by omega) (by omega)), go 297 _ 2 (by omega) (sp_mv_lt (sp_mv_lt (by omega) (by omega)) (by omega)), stop 296 _ 3 (by omega) (by omega)]
    show some _ = some _
    congr 2
    unfold sp_s0 sp_mv
    simp
    omega
theorem zi_isS {N k G : Nat} {P S : Nat → Nat} {F : mmS} (hn : sp_num N k G P S) (hl : sp_lr N k G P S F) {c : Nat} (hc : c < 216) : ∃ b : Int32, m_X12_isStanding_97 F (nI c) = some b ∧ (sp_vl N k c ∧ b = 1 ∨ ¬ sp_vl N k c ∧ b = 0) := by
  obtain ⟨hN1, hN, hk1, hk3, -⟩ := hn
  obtain ⟨h0, h2, -⟩ := hl
  have d0 : c % 6 < 6 := by omega
  have d1 : c / 6 % 6 < 6 := by omega
  have d2 : c / 36 < 6 := by omega
  have stop : ∀ n, m_X12_isStanding_97_L2 (nI c) F (n + 1) (nI 3) = some (.inr ()) := by
    intro n
    rw [m_X12_isStanding_97_L2]
    rfl
  have go : ∀ n s, s < 3 → sp_po c s < (if s < k then N else 1) → m_X12_isStanding_97_L2 (nI c) F (n + 1) (nI s) = m_X12_isStanding_97_L2 (nI c) F n (nI (s + 1)) := by
    intro n s hs h
    rw [m_X12_isStanding_97_L2, if_neg (show ¬ (3 : Int32) ≤ nI s from nI_ge (b := 3) hs (by omega)), zi_poR hc hs, Option.bind_some, h2, h0]
    split at h
    · rw [if_neg (nI_ge (by omega) (by omega)), if_pos (nI_lt h (by omega))]
      show m_X12_isStanding_97_L2 _ F n (nI s + 1) = _
      rw [nI_1]
    · rw [if_pos (nI_le (by omega) (by omega)), if_pos (show nI (sp_po c s) ≤ (0 : Int32) from nI_le (b := 0) (by omega) (by omega))]
      show m_X12_isStanding_97_L2 _ F n (nI s + 1) = _
      rw [nI_1]
  have no : ∀ n s, s < 3 → sp_po c s < 6 → ¬ sp_po c s < (if s < k then N else 1) → m_X12_isStanding_97_L2 (nI c) F (n + 1) (nI s) = some (.inl 0) := by
    intro n s hs h6 h
    rw [m_X12_isStanding_97_L2, if_neg (show ¬ (3 : Int32) ≤ nI s from nI_ge (b := 3) hs (by omega)), zi_poR hc hs, Option.bind_some, h2, h0]
    split at h
    · rw [if_neg (nI_ge (by omega) (by omega)), if_neg (nI_nlt (by omega) (by omega))]
      rfl
    · rw [if_pos (nI_le (by omega) (by omega)), if_neg (show ¬ nI (sp_po c s) ≤ (0 : Int32) from nI_ge (a := 0) (by omega) (by omega))]
      rfl
  unfold m_X12_isStanding_97
  rw [show m_X12_isStanding_97_L2 (nI c) F 300 (0 : Int32) = m_X12_isStanding_97_L2 (nI c) F 300 (nI 0) from rfl]
  have p0 : sp_po c 0 = c % 6 := rfl
  have p1 : sp_po c 1 = c / 6 % 6 := rfl
  have p2 : sp_po c 2 = c / 36 := rfl
  by_cases q0 : c % 6 < N
  · rw [go 299 0 (by omega) (by rw [p0, if_pos (by omega)]; exact q0)]
    by_cases q1 : c / 6 % 6 < (if 1 < k then N else 1)
    · rw [go 298 1 (by omega) (by rw [p1]; exact q1)]
      by_cases q2 : c / 36 < (if 2 < k then N else 1)
      · rw [go 297 2 (by omega) (by rw [p2]; exact q2), stop]
        exact ⟨1, rfl, .inl ⟨⟨hc, q0, q1, q2⟩, rfl⟩⟩
      · rw [no 297 2 (by omega) (by rw [p2]; exact d2) (by rw [p2]; exact q2)]
        exact ⟨0, rfl, .inr ⟨fun h => q2 h.2.2.2, rfl⟩⟩
    · rw [no 298 1 (by omega) (by rw [p1]; exact d1) (by rw [p1]; exact q1)]
      exact ⟨0, rfl, .inr ⟨fun h => q1 h.2.2.1, rfl⟩⟩
  · rw [no 299 0 (by omega) (by rw [p0]; exact d0) (by rw [p0, if_pos (by omega)]; exact q0)]
    exact ⟨0, rfl, .inr ⟨fun h => q0 h.2.1, rfl⟩⟩
/-- the least sum of ways, whoever goes where -/
def sp_lw (k : Nat) (a b : Nat → Nat) : Nat :=
  if k = 1 then pd (a 0) (b 0) else
  if k = 2 then min (pd (a 0) (b 0) + pd (a 1) (b 1)) (pd (a 0) (b 1) + pd (a 1) (b 0)) else
  min (pd (a 0) (b 0) + min (pd (a 1) (b 1) + pd (a 2) (b 2)) (pd (a 1) (b 2) + pd (a 2) (b 1))) (min (pd (a 0) (b 1) + min (pd (a 1) (b 0) + pd (a 2) (b 2)) (pd (a 1) (b 2) + pd (a 2) (b 0))) (pd (a 0) (b 2) + min (pd (a 1) (b 0) + pd (a 2) (b 1)) (pd (a 1) (b 1) + pd (a 2) (b 0))))
theorem sp_lw1 (a b : Nat → Nat) : sp_lw 1 a b = pd (a 0) (b 0) := by
  unfold sp_lw
  rw [if_pos rfl]
theorem sp_lw2 (a b : Nat → Nat) : sp_lw 2 a b = min (pd (a 0) (b 0) + pd (a 1) (b 1)) (pd (a 0) (b 1) + pd (a 1) (b 0)) := by
  unfold sp_lw
  rw [if_neg (by decide), if_pos rfl]
theorem sp_lw3 (a b : Nat → Nat) : sp_lw 3 a b = min (pd (a 0) (b 0) + min (pd (a 1) (b 1) + pd (a 2) (b 2)) (pd (a 1) (b 2) + pd (a 2) (b 1))) (min (pd (a 0) (b 1) + min (pd (a 1) (b 0) + pd (a 2) (b 2)) (pd (a 1) (b 2) + pd (a 2) (b 0))) (pd (a 0) (b 2) + min (pd (a 1) (b 0) + pd (a 2) (b 1)) (pd (a 1) (b 1) + pd (a 2) (b 0)))) := by
  unfold sp_lw
  rw [if_neg (by decide), if_neg (by decide)]
theorem sp_lw_congr {k : Nat} {a a' b b' : Nat → Nat} (hk : 1 ≤ k) (hk3 : k ≤ 3) (h : ∀ s, s < k → a s = a' s) (h' : ∀ s, s < k → b s = b' s) : sp_lw k a b = sp_lw k a' b' := by
  unfold sp_lw
  rcases (by omega : k = 1 ∨ k = 2 ∨ k = 3) with rfl | rfl | rfl
  · simp; rw [h 0 (by omega), h' 0 (by omega)]
  · simp; rw [h 0 (by omega), h' 0 (by omega), h 1 (by omega), h' 1 (by omega)]
  · rw [h 0 (by omega), h' 0 (by omega), h 1 (by omega), h' 1 (by omega), h 2 (by omega), h' 2 (by omega)]
theorem sp_lw_le {k : Nat} {a b : Nat → Nat} (hk : 1 ≤ k) (hk3 : k ≤ 3) (ha : ∀ s, s < k → a s ≤ 1000) (hb : ∀ s, s < k → b s ≤ 1000) : sp_lw k a b ≤ 3000 := by
  unfold sp_lw
  rcases (by omega : k = 1 ∨ k = 2 ∨ k = 3) with rfl | rfl | rfl
  · have := pd_le (ha 0 (by omega)) (hb 0 (by omega)); simp; omega
  · have := pd_le (ha 0 (by omega)) (hb 0 (by omega))
    have := pd_le (ha 1 (by omega)) (hb 1 (by omega)); simp; omega
  · have := pd_le (ha 0 (by omega)) (hb 0 (by omega))
    have := pd_le (ha 1 (by omega)) (hb 1 (by omega))
    have := pd_le (ha 2 (by omega)) (hb 2 (by omega)); simp; omega
theorem zi_pair {a b x y : Nat} (ha : a ≤ 1000) (hb : b ≤ 1000) (hx : x ≤ 1000) (hy : y ≤ 1000) : m_X3_pairWays (nI a) (nI b) (nI x) (nI y) = some (nI (min (pd a x + pd b y) (pd a y + pd b x))) := by
  have h1 := pd_le ha hx
  have h2 := pd_le hb hy
  have h3 := pd_le ha hy
  have h4 := pd_le hb hx
  unfold m_X3_pairWays
  rw [pb_abs (by omega) (by omega), pb_abs (by omega) (by omega), pb_abs (by omega) (by omega), pb_abs (by omega) (by omega), nI_add, nI_add]
  show some (mmin _ _) = _
  rw [pb_min (by omega) (by omega)]
theorem zi_three {a b : Nat → Nat} (p0 : a 0 ≤ 1000) (p1 : a 1 ≤ 1000) (p2 : a 2 ≤ 1000) (q0 : b 0 ≤ 1000) (q1 : b 1 ≤ 1000) (q2 : b 2 ≤ 1000) : (Option.bind (m_X3_pairWays (nI (a 1)) (nI (a 2)) (nI (b 1)) (nI (b 2))) fun x7 => mlet ((mabs (nI (a 0) - nI (b 0))) + x7) fun x8 => Option.bind (m_X3_pairWays (nI (a 1)) (nI (a 2)) (nI (b 0)) (nI (b 2))) fun x15 => mlet ((mabs (nI (a 0) - nI (b 1))) + x15) fun x16 => Option.bind (m_X3_pairWays (nI (a 1)) (nI (a 2)) (nI (b 0)) (nI (b 1))) fun x23 => mlet ((mabs (nI (a 0) - nI (b 2))) + x23) fun x24 => some (mmin x8 (mmin x16 x24))) = some (nI (sp_lw 3 a b)) := by
  have r00 := pd_le p0 q0
  have r01 := pd_le p0 q1
  have r02 := pd_le p0 q2
  have r10 := pd_le p1 q0
  have r11 := pd_le p1 q1
  have r12 := pd_le p1 q2
  have r20 := pd_le p2 q0
  have r21 := pd_le p2 q1
  have r22 := pd_le p2 q2
  rw [zi_pair p1 p2 q1 q2, zi_pair p1 p2 q0 q2, zi_pair p1 p2 q0 q1, pb_abs (by omega) (by omega), pb_abs (by omega) (by omega), pb_abs (by omega) (by omega), sp_lw3]
  show some (mmin (nI _ + nI _) (mmin (nI _ + nI _) (nI _ + nI _))) = _
  rw [nI_add, nI_add, nI_add]
  rw [pb_min (a := pd (a 0) (b 1) + _) (by omega) (by omega)]
  rw [pb_min (by omega) (by omega)]
theorem zi_lw1_18_21 {F : mmS} (h2 : F 1 1 = nI 1) {a b : Nat → Nat} (ha : ∀ s, s < 1 → a s ≤ 1000) (hb : ∀ s, s < 1 → b s ≤ 1000) (ea : ∀ s, s < 1 → F 18 s = nI (a s)) (eb : ∀ s, s < 1 → F 21 s = nI (b s)) : m_X3_leastWays_1_18_21 F = some (nI (sp_lw 1 a b)) := by
  unfold m_X3_leastWays_1_18_21
  rw [h2, if_pos (show nI 1 = (1 : Int32) from rfl), zi_rd 0 li0 (ea 0 (by omega)) (by decide), Option.bind_some, zi_rd 0 li0 (eb 0 (by omega)) (by decide), Option.bind_some, pb_abs (by have := ha 0 (by omega); omega) (by have := hb 0 (by omega); omega), sp_lw1]
theorem zi_lw2_18_21 {F : mmS} (h2 : F 1 1 = nI 2) {a b : Nat → Nat} (ha : ∀ s, s < 2 → a s ≤ 1000) (hb : ∀ s, s < 2 → b s ≤ 1000) (ea : ∀ s, s < 2 → F 18 s = nI (a s)) (eb : ∀ s, s < 2 → F 21 s = nI (b s)) : m_X3_leastWays_1_18_21 F = some (nI (sp_lw 2 a b)) := by
  unfold m_X3_leastWays_1_18_21
  rw [h2, if_neg (show ¬ nI 2 = (1 : Int32) by decide), if_pos (show nI 2 = (2 : Int32) from rfl)]
  rw [zi_rd 0 li0 (ea 0 (by omega)) (by decide), Option.bind_some, zi_rd 1 li1 (ea 1 (by omega)) (by decide), Option.bind_some, zi_rd 0 li0 (eb 0 (by omega)) (by decide), Option.bind_some, zi_rd 1 li1 (eb 1 (by omega)) (by decide), Option.bind_some, zi_pair (ha 0 (by omega)) (ha 1 (by omega)) (hb 0 (by omega)) (hb 1 (by omega)), Option.bind_some, sp_lw2]
theorem zi_lw3_18_21 {F : mmS} (h2 : F 1 1 = nI 3) {a b : Nat → Nat} (ha : ∀ s, s < 3 → a s ≤ 1000) (hb : ∀ s, s < 3 → b s ≤ 1000) (ea : ∀ s, s < 3 → F 18 s = nI (a s)) (eb : ∀ s, s < 3 → F 21 s = nI (b s)) : m_X3_leastWays_1_18_21 F = some (nI (sp_lw 3 a b)) := by
  have p0 := ha 0 (by omega)
  have p1 := ha 1 (by omega)
  have p2 := ha 2 (by omega)
  have q0 := hb 0 (by omega)
  have q1 := hb 1 (by omega)
  have q2 := hb 2 (by omega)
  have a0 : ald F 18 0 = some (nI (a 0)) := zi_rd 0 li0 (ea 0 (by omega)) (by decide)
  have a1 : ald F 18 1 = some (nI (a 1)) := zi_rd 1 li1 (ea 1 (by omega)) (by decide)
  have a2 : ald F 18 2 = some (nI (a 2)) := zi_rd 2 li2 (ea 2 (by omega)) (by decide)
  have b0 : ald F 21 0 = some (nI (b 0)) := zi_rd 0 li0 (eb 0 (by omega)) (by decide)
  have b1 : ald F 21 1 = some (nI (b 1)) := zi_rd 1 li1 (eb 1 (by omega)) (by decide)
  have b2 : ald F 21 2 = some (nI (b 2)) := zi_rd 2 li2 (eb 2 (by omega)) (by decide)
  unfold m_X3_leastWays_1_18_21
  rw [h2, if_neg (show ¬ nI 3 = (1 : Int32) by decide), if_neg (show ¬ nI 3 = (2 : Int32) by decide), a0, a1, a2, b0, b1, b2]
  simp only [zb_some]
  exact zi_three p0 p1 p2 q0 q1 q2
theorem zi_lw_18_21 {k : Nat} {F : mmS} (hk : 1 ≤ k) (hk3 : k ≤ 3) (h2 : F 1 1 = nI k) {a b : Nat → Nat} (ha : ∀ s, s < k → a s ≤ 1000) (hb : ∀ s, s < k → b s ≤ 1000) (ea : ∀ s, s < k → F 18 s = nI (a s)) (eb : ∀ s, s < k → F 21 s = nI (b s)) : m_X3_leastWays_1_18_21 F = some (nI (sp_lw k a b)) := by
  rcases (by omega : k = 1 ∨ k = 2 ∨ k = 3) with rfl | rfl | rfl
  · exact zi_lw1_18_21 h2 ha hb ea eb
  · exact zi_lw2_18_21 h2 ha hb ea eb
  · exact zi_lw3_18_21 h2 ha hb ea eb
theorem zi_lw1_24_26 {F : mmS} (h2 : F 1 1 = nI 1) {a b : Nat → Nat} (ha : ∀ s, s < 1 → a s ≤ 1000) (hb : ∀ s, s < 1 → b s ≤ 1000) (ea : ∀ s, s < 1 → F 24 s = nI (a s)) (eb : ∀ s, s < 1 → F 26 s = nI (b s)) : m_X3_leastWays_1_24_26 F = some (nI (sp_lw 1 a b)) := by
  unfold m_X3_leastWays_1_24_26
  rw [h2, if_pos (show nI 1 = (1 : Int32) from rfl), zi_rd 0 li0 (ea 0 (by omega)) (by decide), Option.bind_some, zi_rd 0 li0 (eb 0 (by omega)) (by decide), Option.bind_some, pb_abs (by have := ha 0 (by omega); omega) (by have := hb 0 (by omega); omega), sp_lw1]
theorem zi_lw2_24_26 {F : mmS} (h2 : F 1 1 = nI 2) {a b : Nat → Nat} (ha : ∀ s, s < 2 → a s ≤ 1000) (hb : ∀ s, s < 2 → b s ≤ 1000) (ea : ∀ s, s < 2 → F 24 s = nI (a s)) (eb : ∀ s, s < 2 → F 26 s = nI (b s)) : m_X3_leastWays_1_24_26 F = some (nI (sp_lw 2 a b)) := by
  unfold m_X3_leastWays_1_24_26
  rw [h2, if_neg (show ¬ nI 2 = (1 : Int32) by decide), if_pos (show nI 2 = (2 : Int32) from rfl)]
  rw [zi_rd 0 li0 (ea 0 (by omega)) (by decide), Option.bind_some, zi_rd 1 li1 (ea 1 (by omega)) (by decide), Option.bind_some, zi_rd 0 li0 (eb 0 (by omega)) (by decide), Option.bind_some, zi_rd 1 li1 (eb 1 (by omega)) (by decide), Option.bind_some, zi_pair (ha 0 (by omega)) (ha 1 (by omega)) (hb 0 (by omega)) (hb 1 (by omega)), Option.bind_some, sp_lw2]
theorem zi_lw3_24_26 {F : mmS} (h2 : F 1 1 = nI 3) {a b : Nat → Nat} (ha : ∀ s, s < 3 → a s ≤ 1000) (hb : ∀ s, s < 3 → b s ≤ 1000) (ea : ∀ s, s < 3 → F 24 s = nI (a s)) (eb : ∀ s, s < 3 → F 26 s = nI (b s)) : m_X3_leastWays_1_24_26 F = some (nI (sp_lw 3 a b)) := by
  have p0 := ha 0 (by omega)
  have p1 := ha 1 (by omega)
  have p2 := ha 2 (by omega)
  have q0 := hb 0 (by omega)
  have q1 := hb 1 (by omega)
  have q2 := hb 2 (by omega)
  have a0 : ald F 24 0 = some (nI (a 0)) := zi_rd 0 li0 (ea 0 (by omega)) (by decide)
  have a1 : ald F 24 1 = some (nI (a 1)) := zi_rd 1 li1 (ea 1 (by omega)) (by decide)
  have a2 : ald F 24 2 = some (nI (a 2)) := zi_rd 2 li2 (ea 2 (by omega)) (by decide)
  have b0 : ald F 26 0 = some (nI (b 0)) := zi_rd 0 li0 (eb 0 (by omega)) (by decide)
  have b1 : ald F 26 1 = some (nI (b 1)) := zi_rd 1 li1 (eb 1 (by omega)) (by decide)
  have b2 : ald F 26 2 = some (nI (b 2)) := zi_rd 2 li2 (eb 2 (by omega)) (by decide)
  unfold m_X3_leastWays_1_24_26
  rw [h2, if_neg (show ¬ nI 3 = (1 : Int32) by decide), if_neg (show ¬ nI 3 = (2 : Int32) by decide), a0, a1, a2, b0, b1, b2]
  simp only [zb_some]
  exact zi_three p0 p1 p2 q0 q1 q2
theorem zi_lw_24_26 {k : Nat} {F : mmS} (hk : 1 ≤ k) (hk3 : k ≤ 3) (h2 : F 1 1 = nI k) {a b : Nat → Nat} (ha : ∀ s, s < k → a s ≤ 1000) (hb : ∀ s, s < k → b s ≤ 1000) (ea : ∀ s, s < k → F 24 s = nI (a s)) (eb : ∀ s, s < k → F 26 s = nI (b s)) : m_X3_leastWays_1_24_26 F = some (nI (sp_lw k a b)) := by
  rcases (by omega : k = 1 ∨ k = 2 ∨ k = 3) with rfl | rfl | rfl
  · exact zi_lw1_24_26 h2 ha hb ea eb
  · exact zi_lw2_24_26 h2 ha hb ea eb
  · exact zi_lw3_24_26 h2 ha hb ea eb
theorem zi_lw1_24_28 {F : mmS} (h2 : F 1 1 = nI 1) {a b : Nat → Nat} (ha : ∀ s, s < 1 → a s ≤ 1000) (hb : ∀ s, s < 1 → b s ≤ 1000) (ea : ∀ s, s < 1 → F 24 s = nI (a s)) (eb : ∀ s, s < 1 → F 28 s = nI (b s)) : m_X3_leastWays_1_24_28 F = some (nI (sp_lw 1 a b)) := by
  unfold m_X3_leastWays_1_24_28
  rw [h2, if_pos (show nI 1 = (1 : Int32) from rfl), zi_rd 0 li0 (ea 0 (by omega)) (by decide), Option.bind_some, zi_rd 0 li0 (eb 0 (by omega)) (by decide), Option.bind_some, pb_abs (by have := ha 0 (by omega); omega) (by have := hb 0 (by omega); omega), sp_lw1]
theorem zi_lw2_24_28 {F : mmS} (h2 : F 1 1 = nI 2) {a b : Nat → Nat} (ha : ∀ s, s < 2 → a s ≤ 1000) (hb : ∀ s, s < 2 → b s ≤ 1000) (ea : ∀ s, s < 2 → F 24 s = nI (a s)) (eb : ∀ s, s < 2 → F 28 s = nI (b s)) : m_X3_leastWays_1_24_28 F = some (nI (sp_lw 2 a b)) := by
  unfold m_X3_leastWays_1_24_28
  rw [h2, if_neg (show ¬ nI 2 = (1 : Int32) by decide), if_pos (show nI 2 = (2 : Int32) from rfl)]
  rw [zi_rd 0 li0 (ea 0 (by omega)) (by decide), Option.bind_some, zi_rd 1 li1 (ea 1 (by omega)) (by decide), Option.bind_some, zi_rd 0 li0 (eb 0 (by omega)) (by decide), Option.bind_some, zi_rd 1 li1 (eb 1 (by omega)) (by decide), Option.bind_some, zi_pair (ha 0 (by omega)) (ha 1 (by omega)) (hb 0 (by omega)) (hb 1 (by omega)), Option.bind_some, sp_lw2]
theorem zi_lw3_24_28 {F : mmS} (h2 : F 1 1 = nI 3) {a b : Nat → Nat} (ha : ∀ s, s < 3 → a s ≤ 1000) (hb : ∀ s, s < 3 → b s ≤ 1000) (ea : ∀ s, s < 3 → F 24 s = nI (a s)) (eb : ∀ s, s < 3 → F 28 s = nI (b s)) : m_X3_leastWays_1_24_28 F = some (nI (sp_lw 3 a b)) := by
  have p0 := ha 0 (by omega)
  have p1 := ha 1 (by omega)
  have p2 := ha 2 (by omega)
  have q0 := hb 0 (by omega)
  have q1 := hb 1 (by omega)
  have q2 := hb 2 (by omega)
  have a0 : ald F 24 0 = some (nI (a 0)) := zi_rd 0 li0 (ea 0 (by omega)) (by decide)
  have a1 : ald F 24 1 = some (nI (a 1)) := zi_rd 1 li1 (ea 1 (by omega)) (by decide)
  have a2 : ald F 24 2 = some (nI (a 2)) := zi_rd 2 li2 (ea 2 (by omega)) (by decide)
  have b0 : ald F 28 0 = some (nI (b 0)) := zi_rd 0 li0 (eb 0 (by omega)) (by decide)
  have b1 : ald F 28 1 = some (nI (b 1)) := zi_rd 1 li1 (eb 1 (by omega)) (by decide)
  have b2 : ald F 28 2 = some (nI (b 2)) := zi_rd 2 li2 (eb 2 (by omega)) (by decide)
  unfold m_X3_leastWays_1_24_28
  rw [h2, if_neg (show ¬ nI 3 = (1 : Int32) by decide), if_neg (show ¬ nI 3 = (2 : Int32) by decide), a0, a1, a2, b0, b1, b2]
  simp only [zb_some]
  exact zi_three p0 p1 p2 q0 q1 q2
theorem zi_lw_24_28 {k : Nat} {F : mmS} (hk : 1 ≤ k) (hk3 : k ≤ 3) (h2 : F 1 1 = nI k) {a b : Nat → Nat} (ha : ∀ s, s < k → a s ≤ 1000) (hb : ∀ s, s < k → b s ≤ 1000) (ea : ∀ s, s < k → F 24 s = nI (a s)) (eb : ∀ s, s < k → F 28 s = nI (b s)) : m_X3_leastWays_1_24_28 F = some (nI (sp_lw k a b)) := by
  rcases (by omega : k = 1 ∨ k = 2 ∨ k = 3) with rfl | rfl | rfl
  · exact zi_lw1_24_28 h2 ha hb ea eb
  · exact zi_lw2_24_28 h2 ha hb ea eb
  · exact zi_lw3_24_28 h2 ha hb ea eb
theorem zi_lw1_92_95 {F : mmS} (h2 : F 1 1 = nI 1) {a b : Nat → Nat} (ha : ∀ s, s < 1 → a s ≤ 1000) (hb : ∀ s, s < 1 → b s ≤ 1000) (ea : ∀ s, s < 1 → F 92 s = nI (a s)) (eb : ∀ s, s < 1 → F 95 s = nI (b s)) : m_X3_leastWays_1_92_95 F = some (nI (sp_lw 1 a b)) := by
  unfold m_X3_leastWays_1_92_95
  rw [h2, if_pos (show nI 1 = (1 : Int32) from rfl), zi_rd 0 li0 (ea 0 (by omega)) (by decide), Option.bind_some, zi_rd 0 li0 (eb 0 (by omega)) (by decide), Option.bind_some, pb_abs (by have := ha 0 (by omega); omega) (by have := hb 0 (by omega); omega), sp_lw1]
theorem zi_lw2_92_95 {F : mmS} (h2 : F 1 1 = nI 2) {a b : Nat → Nat} (ha : ∀ s, s < 2 → a s ≤ 1000) (hb : ∀ s, s < 2 → b s ≤ 1000) (ea : ∀ s, s < 2 → F 92 s = nI (a s)) (eb : ∀ s, s < 2 → F 95 s = nI (b s)) : m_X3_leastWays_1_92_95 F = some (nI (sp_lw 2 a b)) := by
  unfold m_X3_leastWays_1_92_95
  rw [h2, if_neg (show ¬ nI 2 = (1 : Int32) by decide), if_pos (show nI 2 = (2 : Int32) from rfl)]
  rw [zi_rd 0 li0 (ea 0 (by omega)) (by decide), Option.bind_some, zi_rd 1 li1 (ea 1 (by omega)) (by decide), Option.bind_some, zi_rd 0 li0 (eb 0 (by omega)) (by decide), Option.bind_some, zi_rd 1 li1 (eb 1 (by omega)) (by decide), Option.bind_some, zi_pair (ha 0 (by omega)) (ha 1 (by omega)) (hb 0 (by omega)) (hb 1 (by omega)), Option.bind_some, sp_lw2]
theorem zi_lw3_92_95 {F : mmS} (h2 : F 1 1 = nI 3) {a b : Nat → Nat} (ha : ∀ s, s < 3 → a s ≤ 1000) (hb : ∀ s, s < 3 → b s ≤ 1000) (ea : ∀ s, s < 3 → F 92 s = nI (a s)) (eb : ∀ s, s < 3 → F 95 s = nI (b s)) : m_X3_leastWays_1_92_95 F = some (nI (sp_lw 3 a b)) := by
  have p0 := ha 0 (by omega)
  have p1 := ha 1 (by omega)
  have p2 := ha 2 (by omega)
  have q0 := hb 0 (by omega)
  have q1 := hb 1 (by omega)
  have q2 := hb 2 (by omega)
  have a0 : ald F 92 0 = some (nI (a 0)) := zi_rd 0 li0 (ea 0 (by omega)) (by decide)
  have a1 : ald F 92 1 = some (nI (a 1)) := zi_rd 1 li1 (ea 1 (by omega)) (by decide)
  have a2 : ald F 92 2 = some (nI (a 2)) := zi_rd 2 li2 (ea 2 (by omega)) (by decide)
  have b0 : ald F 95 0 = some (nI (b 0)) := zi_rd 0 li0 (eb 0 (by omega)) (by decide)
  have b1 : ald F 95 1 = some (nI (b 1)) := zi_rd 1 li1 (eb 1 (by omega)) (by decide)
  have b2 : ald F 95 2 = some (nI (b 2)) := zi_rd 2 li2 (eb 2 (by omega)) (by decide)
  unfold m_X3_leastWays_1_92_95
  rw [h2, if_neg (show ¬ nI 3 = (1 : Int32) by decide), if_neg (show ¬ nI 3 = (2 : Int32) by decide), a0, a1, a2, b0, b1, b2]
  simp only [zb_some]
  exact zi_three p0 p1 p2 q0 q1 q2
theorem zi_lw_92_95 {k : Nat} {F : mmS} (hk : 1 ≤ k) (hk3 : k ≤ 3) (h2 : F 1 1 = nI k) {a b : Nat → Nat} (ha : ∀ s, s < k → a s ≤ 1000) (hb : ∀ s, s < k → b s ≤ 1000) (ea : ∀ s, s < k → F 92 s = nI (a s)) (eb : ∀ s, s < k → F 95 s = nI (b s)) : m_X3_leastWays_1_92_95 F = some (nI (sp_lw k a b)) := by
  rcases (by omega : k = 1 ∨ k = 2 ∨ k = 3) with rfl | rfl | rfl
  · exact zi_lw1_92_95 h2 ha hb ea eb
  · exact zi_lw2_92_95 h2 ha hb ea eb
  · exact zi_lw3_92_95 h2 ha hb ea eb
theorem zi_lw1_82_37 {F : mmS} (h2 : F 1 1 = nI 1) {a b : Nat → Nat} (ha : ∀ s, s < 1 → a s ≤ 1000) (hb : ∀ s, s < 1 → b s ≤ 1000) (ea : ∀ s, s < 1 → F 82 s = nI (a s)) (eb : ∀ s, s < 1 → F 37 s = nI (b s)) : m_X3_leastWays_1_82_37 F = some (nI (sp_lw 1 a b)) := by
  unfold m_X3_leastWays_1_82_37
  rw [h2, if_pos (show nI 1 = (1 : Int32) from rfl), zi_rd 0 li0 (ea 0 (by omega)) (by decide), Option.bind_some, zi_rd 0 li0 (eb 0 (by omega)) (by decide), Option.bind_some, pb_abs (by have := ha 0 (by omega); omega) (by have := hb 0 (by omega); omega), sp_lw1]
theorem zi_lw2_82_37 {F : mmS} (h2 : F 1 1 = nI 2) {a b : Nat → Nat} (ha : ∀ s, s < 2 → a s ≤ 1000) (hb : ∀ s, s < 2 → b s ≤ 1000) (ea : ∀ s, s < 2 → F 82 s = nI (a s)) (eb : ∀ s, s < 2 → F 37 s = nI (b s)) : m_X3_leastWays_1_82_37 F = some (nI (sp_lw 2 a b)) := by
  unfold m_X3_leastWays_1_82_37
  rw [h2, if_neg (show ¬ nI 2 = (1 : Int32) by decide), if_pos (show nI 2 = (2 : Int32) from rfl)]
  rw [zi_rd 0 li0 (ea 0 (by omega)) (by decide), Option.bind_some, zi_rd 1 li1 (ea 1 (by omega)) (by decide), Option.bind_some, zi_rd 0 li0 (eb 0 (by omega)) (by decide), Option.bind_some, zi_rd 1 li1 (eb 1 (by omega)) (by decide), Option.bind_some, zi_pair (ha 0 (by omega)) (ha 1 (by omega)) (hb 0 (by omega)) (hb 1 (by omega)), Option.bind_some, sp_lw2]
theorem zi_lw3_82_37 {F : mmS} (h2 : F 1 1 = nI 3) {a b : Nat → Nat} (ha : ∀ s, s < 3 → a s ≤ 1000) (hb : ∀ s, s < 3 → b s ≤ 1000) (ea : ∀ s, s < 3 → F 82 s = nI (a s)) (eb : ∀ s, s < 3 → F 37 s = nI (b s)) : m_X3_leastWays_1_82_37 F = some (nI (sp_lw 3 a b)) := by
  have p0 := ha 0 (by omega)
  have p1 := ha 1 (by omega)
  have p2 := ha 2 (by omega)
  have q0 := hb 0 (by omega)
  have q1 := hb 1 (by omega)
  have q2 := hb 2 (by omega)
  have a0 : ald F 82 0 = some (nI (a 0)) := zi_rd 0 li0 (ea 0 (by omega)) (by decide)
  have a1 : ald F 82 1 = some (nI (a 1)) := zi_rd 1 li1 (ea 1 (by omega)) (by decide)
  have a2 : ald F 82 2 = some (nI (a 2)) := zi_rd 2 li2 (ea 2 (by omega)) (by decide)
  have b0 : ald F 37 0 = some (nI (b 0)) := zi_rd 0 li0 (eb 0 (by omega)) (by decide)
  have b1 : ald F 37 1 = some (nI (b 1)) := zi_rd 1 li1 (eb 1 (by omega)) (by decide)
  have b2 : ald F 37 2 = some (nI (b 2)) := zi_rd 2 li2 (eb 2 (by omega)) (by decide)
  unfold m_X3_leastWays_1_82_37
  rw [h2, if_neg (show ¬ nI 3 = (1 : Int32) by decide), if_neg (show ¬ nI 3 = (2 : Int32) by decide), a0, a1, a2, b0, b1, b2]
  simp only [zb_some]
  exact zi_three p0 p1 p2 q0 q1 q2
theorem zi_lw_82_37 {k : Nat} {F : mmS} (hk : 1 ≤ k) (hk3 : k ≤ 3) (h2 : F 1 1 = nI k) {a b : Nat → Nat} (ha : ∀ s, s < k → a s ≤ 1000) (hb : ∀ s, s < k → b s ≤ 1000) (ea : ∀ s, s < k → F 82 s = nI (a s)) (eb : ∀ s, s < k → F 37 s = nI (b s)) : m_X3_leastWays_1_82_37 F = some (nI (sp_lw k a b)) := by
  rcases (by omega : k = 1 ∨ k = 2 ∨ k = 3) with rfl | rfl | rfl
  · exact zi_lw1_82_37 h2 ha hb ea eb
  · exact zi_lw2_82_37 h2 ha hb ea eb
  · exact zi_lw3_82_37 h2 ha hb ea eb
theorem zi_ifle {a b : Nat} (ha : a < 2 ^ 31) (hb : b < 2 ^ 31) : (if nI a ≤ nI b then some (nI a) else some (nI b)) = some (nI (min a b)) := by
  by_cases h : a ≤ b
  · rw [if_pos (nI_le h hb)]
    congr 2; omega
  · rw [if_neg (nI_ge (by omega) ha)]
    congr 2; omega
theorem zi_ifle' {a b : Nat} (ha : a < 2 ^ 31) (hb : b < 2 ^ 31) : (if nI a ≤ nI b then some (nI a) else some (nI b)) = some (nI (min b a)) := by
  rw [zi_ifle ha hb, Nat.min_comm]
theorem zi_lwR {k : Nat} {F : mmS} (hk : 1 ≤ k) (hk3 : k ≤ 3) (h2 : F 97 2 = nI k) {a b : Nat → Nat} {a0 a1 a2 b0 b1 b2 : Int32} (ha : ∀ s, s < k → a s ≤ 1000) (hb : ∀ s, s < k → b s ≤ 1000) (e0 : a0 = nI (a 0)) (e1 : 2 ≤ k → a1 = nI (a 1)) (e2 : 3 ≤ k → a2 = nI (a 2)) (f0 : b0 = nI (b 0)) (f1 : 2 ≤ k → b1 = nI (b 1)) (f2 : 3 ≤ k → b2 = nI (b 2)) : m_X12_least_97 F a0 a1 a2 b0 b1 b2 = some (nI (sp_lw k a b)) := by
  unfold m_X12_least_97
  rw [h2]
  subst e0 f0
  rcases (by omega : k = 1 ∨ k = 2 ∨ k = 3) with rfl | rfl | rfl
  · rw [if_pos (show nI 1 = (1 : Int32) from rfl), pb_apart (by have := ha 0 (by omega); omega) (by have := hb 0 (by omega); omega), Option.bind_some, sp_lw1]
  · rw [if_neg (show ¬ nI 2 = (1 : Int32) by decide), if_pos (show nI 2 = (2 : Int32) from rfl), e1 (by omega), f1 (by omega)]
    have p0 := ha 0 (by omega)
    have p1 := ha 1 (by omega)
    have q0 := hb 0 (by omega)
    have q1 := hb 1 (by omega)
    have r00 := pd_le p0 q0
    have r01 := pd_le p0 q1
    have r10 := pd_le p1 q0
    have r11 := pd_le p1 q1
    rw [pb_apart (by omega) (by omega), pb_apart (by omega) (by omega), pb_apart (by omega) (by omega), pb_apart (by omega) (by omega)]
    simp only [Option.bind_some, mlet, nI_add]
    rw [zi_ifle (by omega) (by omega)]
    unfold sp_lw
    congr 2
    simp
    omega
  · rw [if_neg (show ¬ nI 3 = (1 : Int32) by decide), if_neg (show ¬ nI 3 = (2 : Int32) by decide), e1 (by omega), f1 (by omega), e2 (by omega), f2 (by omega)]
    have p0 := ha 0 (by omega)
    have p1 := ha 1 (by omega)
    have p2 := ha 2 (by omega)
    have q0 := hb 0 (by omega)
    have q1 := hb 1 (by omega)
    have q2 := hb 2 (by omega)
    have r00 := pd_le p0 q0
    have r01 := pd_le p0 q1
    have r02 := pd_le p0 q2
    have r10 := pd_le p1 q0
    have r11 := pd_le p1 q1
    have r12 := pd_le p1 q2
    have r20 := pd_le p2 q0
    have r21 := pd_le p2 q1
    have r22 := pd_le p2 q2
    simp only [pb_apart (show a 0 < 2 ^ 31 by omega) (show b 0 < 2 ^ 31 by omega), pb_apart (show a 0 < 2 ^ 31 by omega) (show b 1 < 2 ^ 31 by omega), pb_apart (show a 0 < 2 ^ 31 by omega) (show b 2 < 2 ^ 31 by omega), pb_apart (show a 1 < 2 ^ 31 by omega) (show b 0 < 2 ^ 31 by omega), pb_apart (show a 1 < 2 ^ 31 by omega) (show b 1 < 2 ^ 31 by omega), pb_apart (show a 1 < 2 ^ 31 by omega) (show b 2 < 2 ^ 31 by omega), pb_apart (show a 2 < 2 ^ 31 by omega) (show b 0 < 2 ^ 31 by omega), pb_apart (show a 2 < 2 ^ 31 by omega) (show b 1 < 2 ^ 31 by omega), pb_apart (show a 2 < 2 ^ 31 by omega) (show b 2 < 2 ^ 31 by omega), Option.bind_some, mlet, nI_add, bd1]
    rw [zi_ifle (by omega) (by omega)]
    simp only [Option.bind_some]
    rw [zi_ifle (by omega) (by omega)]
    simp only [Option.bind_some]
    rw [zi_ifle (by omega) (by omega)]
    simp only [Option.bind_some]
    rw [zi_ifle (by omega) (by omega)]
    simp only [Option.bind_some]
    rw [zi_ifle (by omega) (by omega)]
    unfold sp_lw
    congr 2
    simp
    generalize pd (a 0) (b 0) = z00 at *
    generalize pd (a 0) (b 1) = z01 at *
    generalize pd (a 0) (b 2) = z02 at *
    generalize pd (a 1) (b 0) = z10 at *
    generalize pd (a 1) (b 1) = z11 at *
    generalize pd (a 1) (b 2) = z12 at *
    generalize pd (a 2) (b 0) = z20 at *
    generalize pd (a 2) (b 1) = z21 at *
    generalize pd (a 2) (b 2) = z22 at *
    omega
theorem sp_lw_sy {k : Nat} {a P : Nat → Nat} (hk : 1 ≤ k) (hk3 : k ≤ 3) : sp_sy k (fun x y z => sp_lw k a (fun s => if s = 0 then P x else if s = 1 then P y else P z)) := by
  constructor
  · intro h2 x y z
    unfold sp_lw
    rcases (by omega : k = 2 ∨ k = 3) with rfl | rfl
    · simp
      omega
    · simp
      generalize pd (a 0) (P x) = z00 at *
      generalize pd (a 0) (P y) = z01 at *
      generalize pd (a 0) (P z) = z02 at *
      generalize pd (a 1) (P x) = z10 at *
      generalize pd (a 1) (P y) = z11 at *
      generalize pd (a 1) (P z) = z12 at *
      generalize pd (a 2) (P x) = z20 at *
      generalize pd (a 2) (P y) = z21 at *
      generalize pd (a 2) (P z) = z22 at *
      omega
  · intro h3 x y z
    unfold sp_lw
    obtain rfl : k = 3 := by omega
    simp
    generalize pd (a 0) (P x) = z00 at *
    generalize pd (a 0) (P y) = z01 at *
    generalize pd (a 0) (P z) = z02 at *
    generalize pd (a 1) (P x) = z10 at *
    generalize pd (a 1) (P y) = z11 at *
    generalize pd (a 1) (P z) = z12 at *
    generalize pd (a 2) (P x) = z20 at *
    generalize pd (a 2) (P y) = z21 at *
    generalize pd (a 2) (P z) = z22 at *
    omega
