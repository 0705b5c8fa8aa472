/-! PURE: worst rows: the numbers, and the class's search -/
def sp_de (N m e : Nat) : Nat := if e = 0 then m % N else if e = 1 then m / N % N else m / N / N % N
def sp_dg (N l m t : Nat) : Nat := sp_de N m (l - 1 - t)
def sp_pw (N l : Nat) : Nat := if l = 1 then N else if l = 2 then N * N else N * N * N
theorem sp_dg_lt {N l m t : Nat} (h : 1 ≤ N) : sp_dg N l m t < N := by
  unfold sp_dg sp_de
  split
  · exact Nat.mod_lt _ h
  · split
    · exact Nat.mod_lt _ h
    · exact Nat.mod_lt _ h
def sp_dAb (N : Nat) : Bool := (List.range 216).all fun m => if m % N + 1 < N then decide ((m + 1) % N = m % N + 1 ∧ (m + 1) / N = m / N) else decide ((m + 1) % N = 0 ∧ (m + 1) / N = m / N + 1)
theorem sp_dAb_ok : ∀ N, N < 7 → (N == 0 || sp_dAb N) = true := by decide +kernel
theorem sp_dA (N : Nat) (h : N < 7) (h1 : 1 ≤ N) (m : Nat) (hm : m < 216) : (m % N + 1 < N → (m + 1) % N = m % N + 1 ∧ (m + 1) / N = m / N) ∧ (¬ m % N + 1 < N → (m + 1) % N = 0 ∧ (m + 1) / N = m / N + 1) := by
  have h0 := sp_dAb_ok N h
  have e : (N == 0) = false := by
    rw [beq_eq_false_iff_ne]; omega
  rw [e, Bool.false_or] at h0
  have h2 := (List.all_eq_true.mp h0) m (List.mem_range.mpr hm)
  constructor
  · intro q
    rw [if_pos q] at h2
    exact of_decide_eq_true h2
  · intro q
    rw [if_neg q] at h2
    exact of_decide_eq_true h2
def sp_dPb (N : Nat) : Bool := ((List.range N).all fun m => if m % N + 1 < N then decide (m + 1 < N) else decide (m + 1 = N)) && ((List.range (N * N)).all fun m => if m % N + 1 < N then decide (m + 1 < N * N) else if m / N % N + 1 < N then decide (m + 1 < N * N) else decide (m + 1 = N * N)) && ((List.range (N * N * N)).all fun m => if m % N + 1 < N then decide (m + 1 < N * N * N) else if m / N % N + 1 < N then decide (m + 1 < N * N * N) else if m / N / N % N + 1 < N then decide (m + 1 < N * N * N) else decide (m + 1 = N * N * N))
theorem sp_dPb_ok : ∀ N, N < 7 → sp_dPb N = true := by decide +kernel
theorem sp_dP1 (N : Nat) (h : N < 7) (m : Nat) (hm : m < N) : (m % N + 1 < N → m + 1 < N) ∧ (¬ m % N + 1 < N → m + 1 = N) := by
  have h0 := sp_dPb_ok N h
  unfold sp_dPb at h0
  rw [Bool.and_eq_true, Bool.and_eq_true] at h0
  have h2 := (List.all_eq_true.mp h0.1.1) m (List.mem_range.mpr hm)
  constructor
  · intro q
    rw [if_pos q] at h2
    exact of_decide_eq_true h2
  · intro q
    rw [if_neg q] at h2
    exact of_decide_eq_true h2
theorem sp_dP2 (N : Nat) (h : N < 7) (m : Nat) (hm : m < N * N) : (m % N + 1 < N → m + 1 < N * N) ∧ (¬ m % N + 1 < N → m / N % N + 1 < N → m + 1 < N * N) ∧ (¬ m % N + 1 < N → ¬ m / N % N + 1 < N → m + 1 = N * N) := by
  have h0 := sp_dPb_ok N h
  unfold sp_dPb at h0
  rw [Bool.and_eq_true, Bool.and_eq_true] at h0
  have h2 := (List.all_eq_true.mp h0.1.2) m (List.mem_range.mpr hm)
  refine ⟨?_, ?_, ?_⟩
  · intro q
    rw [if_pos q] at h2
    exact of_decide_eq_true h2
  · intro q q1
    rw [if_neg q, if_pos q1] at h2
    exact of_decide_eq_true h2
  · intro q q1
    rw [if_neg q, if_neg q1] at h2
    exact of_decide_eq_true h2
theorem sp_dP3 (N : Nat) (h : N < 7) (m : Nat) (hm : m < N * N * N) : (m % N + 1 < N → m + 1 < N * N * N) ∧ (¬ m % N + 1 < N → m / N % N + 1 < N → m + 1 < N * N * N) ∧ (¬ m % N + 1 < N → ¬ m / N % N + 1 < N → m / N / N % N + 1 < N → m + 1 < N * N * N) ∧ (¬ m % N + 1 < N → ¬ m / N % N + 1 < N → ¬ m / N / N % N + 1 < N → m + 1 = N * N * N) := by
  have h0 := sp_dPb_ok N h
  unfold sp_dPb at h0
  rw [Bool.and_eq_true, Bool.and_eq_true] at h0
  have h2 := (List.all_eq_true.mp h0.2) m (List.mem_range.mpr hm)
  refine ⟨?_, ?_, ?_, ?_⟩
  · intro q
    rw [if_pos q] at h2
    exact of_decide_eq_true h2
  · intro q q1
    rw [if_neg q, if_pos q1] at h2
    exact of_decide_eq_true h2
  · intro q q1 q2
    rw [if_neg q, if_neg q1, if_pos q2] at h2
    exact of_decide_eq_true h2
  · intro q q1 q2
    rw [if_neg q, if_neg q1, if_neg q2] at h2
    exact of_decide_eq_true h2
theorem sp_pw_le {N l : Nat} (hN : N ≤ 6) : sp_pw N l ≤ 216 := by
  have h2 : N * N ≤ 6 * 6 := Nat.mul_le_mul hN hN
  have h3 : N * N * N ≤ 6 * 6 * 6 := Nat.mul_le_mul h2 hN
  unfold sp_pw
  split
  · omega
  · split <;> omega
theorem sp_pw_pos {N l : Nat} (hN : 1 ≤ N) : 1 ≤ sp_pw N l := by
  have h2 : 1 * 1 ≤ N * N := Nat.mul_le_mul hN hN
  have h3 : 1 * 1 * 1 ≤ N * N * N := Nat.mul_le_mul h2 hN
  unfold sp_pw
  split
  · exact hN
  · split <;> omega
/-- what a rule costs over a row -/
def sp_co (k : Nat) (P S : Nat → Nat) (r : Nat) (rp : Nat → Nat) (l : Nat) : Nat := if r = 0 then (sp_R0 k P S rp l).2.1 else if r = 1 then (sp_R1 k P S rp l).2.1 else (sp_R2 k P S rp l).2.1
def sp_be (k : Nat) (P S rp : Nat → Nat) (l : Nat) : Nat := sp_fC (sp_VT k P rp l 0) (sp_s0 S)
theorem sp_co_le {N k G : Nat} {P S : Nat → Nat} (hn : sp_num N k G P S) (r : Nat) (rp : Nat → Nat) (l : Nat) : sp_co k P S r rp l ≤ 2000 * l := by
  unfold sp_co
  split
  · exact (sp_R0_le hn l).2
  · split
    · exact (sp_R1_le hn l).2
    · exact (sp_R2_le hn l).2
theorem sp_be_le {N k G : Nat} {P S rp : Nat → Nat} (hn : sp_num N k G P S) {l : Nat} (hl : l ≤ 40) : sp_be k P S rp l ≤ 40000 := sp_VT_le hn.2.2.1 hn.2.2.2.2.2.2.1 hl 0 _ _ _
/-- the search: none yet, or number, cost and best -/
def sp_s1 (x : Option (Nat × Nat × Nat)) (m c b : Nat) : Option (Nat × Nat × Nat) := if b = 0 then x else match x with
  | none => some (m, c, b)
  | some y => if c * y.2.2 ≤ y.2.1 * b then some y else some (m, c, b)
def sp_sk (N k : Nat) (P S : Nat → Nat) (r l : Nat) : Nat → Option (Nat × Nat × Nat)
  | 0 => none
  | m + 1 => sp_s1 (sp_sk N k P S r l m) m (sp_co k P S r (sp_dg N l m) l) (sp_be k P S (sp_dg N l m) l)
def sp_sb (x : Option (Nat × Nat × Nat)) : Prop := ∀ y, x = some y → y.1 < 216 ∧ y.2.1 ≤ 6000 ∧ y.2.2 ≤ 40000 ∧ 0 < y.2.2
theorem sp_sb_s1 {x : Option (Nat × Nat × Nat)} {m c b : Nat} (h : sp_sb x) (hm : m < 216) (hc : c ≤ 6000) (hb : b ≤ 40000) : sp_sb (sp_s1 x m c b) := by
  unfold sp_s1
  split
  · exact h
  · cases x with
    | none =>
      intro y hy
      injection hy with hy
      subst hy
      exact ⟨hm, hc, hb, by show 0 < b; omega⟩
    | some z =>
      show sp_sb (if c * z.2.2 ≤ z.2.1 * b then some z else some (m, c, b))
      split
      · exact h
      · intro y hy
        injection hy with hy
        subst hy
        exact ⟨hm, hc, hb, by show 0 < b; omega⟩
theorem sp_sk_sb {N k G : Nat} {P S : Nat → Nat} (hn : sp_num N k G P S) {r l : Nat} (hl3 : l ≤ 3) : ∀ m, m ≤ 216 → sp_sb (sp_sk N k P S r l m) := by
  intro m
  induction m with
  | zero => intro _ y hy; exact absurd hy (by simp [sp_sk])
  | succ m ih =>
    intro hm
    exact sp_sb_s1 (ih (by omega)) (by omega) (by have := sp_co_le hn r (sp_dg N l m) l; omega) (sp_be_le hn (by omega))
def sp_cS (x : Option (Nat × Nat × Nat)) (F : mmS) : Prop := match x with
  | none => F 83 4 = -1 ∧ F 83 5 = nI 0 ∧ F 83 6 = nI 0
  | some y => F 83 4 = nI y.1 ∧ F 83 5 = nI y.2.1 ∧ F 83 6 = nI y.2.2
theorem lfC {N k G l : Nat} {P S rp : Nat → Nat} {F : mmS} (hn : sp_num N k G P S) (hl : sp_lc N k G P S F) (hl3 : l ≤ 3) (hrp : ∀ t, t < l → rp t < N) : ∀ d t f c (H : mmS), t + d = l → d < f → sp_vl N k c → (∀ c, c ≠ 85 → H c = F c) → (∀ t, t < l → F 84 t = nI (rp t)) → (∀ s, s < k → H 85 s = nI (sp_ap P c s)) → m_X10_leastFrom_83 f H (nI t) (nI l) = some (nI (sp_fC (sp_VT k P rp l t) c), H) := by
  have hN := hn.2.1
  have hk3 := hn.2.2.2.1
  have hk1 := hn.2.2.1
  have hP := hn.2.2.2.2.2.2.1
  intro d
  induction d with
  | zero =>
    intro t f c H h hf hc h1 h2 h3
    obtain ⟨f, rfl⟩ : ∃ m, f = m + 1 := ⟨f - 1, by omega⟩
    obtain rfl : t = l := by omega
    rw [m_X10_leastFrom_83, if_neg (nI_nlt (by omega) (by omega)), sp_VT_n]
    rfl
  | succ d ih =>
    intro t f c H h hf hc h1 h2 h3
    obtain ⟨f, rfl⟩ : ∃ m, f = m + 1 := ⟨f - 1, by omega⟩
    have hp := hrp t (by omega)
    have lH : sp_lc N k G P S H := sp_lc_fr hl (fun c hc => h1 c (by omega))
    have hV := sp_VT_le (rp := rp) (n := l) hk1 hP (by omega) (t + 1)
    have loop : ∀ d' s f', s + d' = k → d' < f' → m_X10_leastFrom_83_L29 (nI t) (nI l) (nI (P (rp t))) (m_X10_leastFrom_83 f) f' (nI (sp_mn (sp_wv P (sp_VT k P rp l (t + 1)) c (rp t)) s)) (nI s) H = some (nI (sp_mn (sp_wv P (sp_VT k P rp l (t + 1)) c (rp t)) k), H) := by
      intro d'
      induction d' with
      | zero =>
        intro s f' h hf'
        obtain ⟨f', rfl⟩ : ∃ m, f' = m + 1 := ⟨f' - 1, by omega⟩
        obtain rfl : s = k := by omega
        rw [m_X10_leastFrom_83_L29, lH.2.1, if_pos (nI_le (by omega) (by omega))]
      | succ d' ihd =>
        intro s f' h hf'
        obtain ⟨f', rfl⟩ : ∃ m, f' = m + 1 := ⟨f' - 1, by omega⟩
        have hm := sp_vl_mv hN hc hp (show s < k by omega) hk3
        have w1 := sp_wv_le (c := c) (p := rp t) (s := s) hP hV
        have w2 := sp_mn_B (sp_wv P (sp_VT k P rp l (t + 1)) c (rp t)) s
        have a1 : sp_ap P c s ≤ 1000 := hP _
        have a2 := hP (rp t)
        have eR := ih (t + 1) f (sp_mv c s (rp t)) (stF H 85 s (nI (P (rp t)))) (by omega) (by omega) hm (fun c hc => (st_cell _ _ _ hc).trans (h1 c hc)) h2 (fun i hi => by
          show _ = nI (P (sp_po (sp_mv c s (rp t)) i))
          rw [sp_mv_po hc.1 (by omega) (by omega) (by omega)]
          by_cases e : i = s
          · subst e; rw [st_self, if_pos rfl]
          · rw [st_ne _ _ (by omega), if_neg e]; exact h3 i hi)
        have back : stF (stF H 85 s (nI (P (rp t)))) 85 s (nI (sp_ap P c s)) = H := by
          funext x y
          rw [st_at, st_at]
          split
          · rename_i q
            rw [q.1, q.2]; exact (h3 s (by omega)).symm
          · rfl
        rw [m_X10_leastFrom_83_L29, lH.2.1, if_neg (nI_ge (by omega) (by omega)), zi_rd s rfl (h3 s (by omega)) (show s < 3 by omega), zb_some, zi_wr (q := 85) s rfl (show s < 3 by omega), zb_some, nI_1, eR, zb_bd2, pb_abs (by omega) (by omega), nI_add]
        have e : pd (sp_ap P c s) (P (rp t)) + sp_fC (sp_VT k P rp l (t + 1)) (sp_mv c s (rp t)) = sp_wv P (sp_VT k P rp l (t + 1)) c (rp t) s := Nat.add_comm _ _
        rw [e, pb_min (by omega) (by omega), zb_mlet, zi_wr (q := 85) s rfl (show s < 3 by omega), zb_some, back, zb_mlet, nI_1]
        exact ihd (s + 1) f' (by omega) (by omega)
    rw [m_X10_leastFrom_83, if_pos (nI_lt (by omega) (by omega)), zi_rd t rfl (show H 84 t = nI (rp t) by rw [h1 84 (by decide)]; exact h2 t (by omega)) (show t < 3 by omega), zb_some, zi_rd (rp t) rfl (lH.2.2.2.2.1 _ (by omega)) (show rp t < 6 by omega), zb_some, show m_X10_leastFrom_83_L29 (nI t) (nI l) (nI (P (rp t))) (m_X10_leastFrom_83 f) 300 (2147483647 : Int32) (0 : Int32) H = m_X10_leastFrom_83_L29 (nI t) (nI l) (nI (P (rp t))) (m_X10_leastFrom_83 f) 300 (nI (sp_mn (sp_wv P (sp_VT k P rp l (t + 1)) c (rp t)) 0)) (nI 0) H from rfl, loop k 0 300 (by omega) (by omega), zb_bd2, sp_VT_t (t := t) (by omega), sp_fC_st hk3 hc.1 (by omega)]
theorem tnC {N k G l m : Nat} {P S : Nat → Nat} {F : mmS} (hn : sp_num N k G P S) (hl : sp_lc N k G P S F) (hl1 : 1 ≤ l) (hl3 : l ≤ 3) (hm : m < sp_pw N l) (hr : ∀ t, t < l → F 84 t = nI (sp_dg N l m t)) : ∃ b F1, m_X10_turnToNextRow_83 F (nI l) = some (b, F1) ∧ (∀ c, c ≠ 84 → F1 c = F c) ∧ ((b = 1 ∧ m + 1 < sp_pw N l ∧ ∀ t, t < l → F1 84 t = nI (sp_dg N l (m + 1) t)) ∨ (b = 0 ∧ m + 1 = sp_pw N l)) := by
  have hN := hn.2.1
  have hN1 := hn.1
  have hm216 := sp_pw_le (l := l) hN
  have stop : ∀ n H, m_X10_turnToNextRow_83_L4 (n + 1) (nI 0 - 1) H = some (.inr H) := by
    intro n H
    rw [m_X10_turnToNextRow_83_L4, if_pos (show nI 0 - 1 < (0 : Int32) by decide)]
  have goB : ∀ n t v H, t < 3 → (∀ c, c ≠ 84 → H c = F c) → H 84 t = nI v → v + 1 < N → m_X10_turnToNextRow_83_L4 (n + 1) (nI (t + 1) - 1) H = some (.inl (1, stF H 84 t (nI (v + 1)))) := by
    intro n t v H ht hf hv h
    rw [nI_pred, m_X10_turnToNextRow_83_L4, if_neg (nI_pos (by omega)), zi_rd t rfl hv (show t < 3 from ht), zb_some, hf 1 (by decide), hl.1, show nI N - 1 = nI (N - 1) from pk_sub (b := 1) hN1, if_neg (nI_ge (by omega) (by omega)), zb_some, nI_1, zi_wr (q := 84) t rfl (show t < 3 from ht), zb_some]
    rfl
  have goA : ∀ n t v H, t < 3 → (∀ c, c ≠ 84 → H c = F c) → H 84 t = nI v → v < 6 → ¬ v + 1 < N → m_X10_turnToNextRow_83_L4 (n + 1) (nI (t + 1) - 1) H = m_X10_turnToNextRow_83_L4 n (nI t - 1) (stF H 84 t 0) := by
    intro n t v H ht hf hv h6 h
    rw [nI_pred, m_X10_turnToNextRow_83_L4, if_neg (nI_pos (by omega)), zi_rd t rfl hv (show t < 3 from ht), zb_some, hf 1 (by decide), hl.1, show nI N - 1 = nI (N - 1) from pk_sub (b := 1) hN1, if_pos (nI_le (by omega) (by omega)), zi_wr (q := 84) t rfl (show t < 3 from ht), zb_some, zb_mlet, ← Int32.sub_eq_add_neg]
  have c0 : ∀ c, c ≠ 84 → F c = F c := fun _ _ => rfl
  have c1 : ∀ t v c, c ≠ 84 → stF F 84 t v c = F c := fun t v c hc => st_cell _ _ _ hc
  have c2 : ∀ t v t' v' c, c ≠ 84 → stF (stF F 84 t v) 84 t' v' c = F c := fun t v t' v' c hc => (st_cell _ _ _ hc).trans (c1 t v c hc)
  have A1 := sp_dA N (by omega) hN1 m (by omega)
  have hm1 : m / N ≤ m := Nat.div_le_self _ _
  have hm2 : m / N / N ≤ m / N := Nat.div_le_self _ _
  have A2 := sp_dA N (by omega) hN1 (m / N) (by omega)
  have A3 := sp_dA N (by omega) hN1 (m / N / N) (by omega)
  have d0 : m % N < 6 := by have := Nat.mod_lt m hN1; omega
  have d1 : m / N % N < 6 := by have := Nat.mod_lt (m / N) hN1; omega
  have d2 : m / N / N % N < 6 := by have := Nat.mod_lt (m / N / N) hN1; omega
  unfold m_X10_turnToNextRow_83
  rw [zb_mlet]
  rcases (by omega : l = 1 ∨ l = 2 ∨ l = 3) with rfl | rfl | rfl
  · have hm' : m < N := hm
    have r0 : F 84 0 = nI (m % N) := hr 0 (by omega)
    by_cases q0 : m % N + 1 < N
    · rw [goB 299 0 _ F (by omega) c0 r0 q0, zb_E1l]
      refine ⟨1, _, rfl, fun c hc => st_cell _ _ _ hc, .inl ⟨rfl, (sp_dP1 N (by omega) m hm').1 q0, fun t ht => ?_⟩⟩
      obtain rfl : t = 0 := by omega
      rw [st_self]
      show nI (m % N + 1) = nI ((m + 1) % N)
      rw [(A1.1 q0).1]
    · rw [goA 299 0 _ F (by omega) c0 r0 d0 q0, stop, zb_E1r]
      exact ⟨0, _, rfl, fun c hc => st_cell _ _ _ hc, .inr ⟨rfl, (sp_dP1 N (by omega) m hm').2 q0⟩⟩
  · have hm' : m < N * N := hm
    have r1 : F 84 1 = nI (m % N) := hr 1 (by omega)
    have r0 : F 84 0 = nI (m / N % N) := hr 0 (by omega)
    by_cases q0 : m % N + 1 < N
    · rw [goB 299 1 _ F (by omega) c0 r1 q0, zb_E1l]
      refine ⟨1, _, rfl, fun c hc => st_cell _ _ _ hc, .inl ⟨rfl, ((sp_dP2 N (by omega) m hm').1 q0), fun t ht => ?_⟩⟩
      rcases (by omega : t = 0 ∨ t = 1) with rfl | rfl
      · rw [st_ne _ _ (by omega), r0]
        show _ = nI ((m + 1) / N % N)
        rw [(A1.1 q0).2]
      · rw [st_self]
        show nI (m % N + 1) = nI ((m + 1) % N)
        rw [(A1.1 q0).1]
    · rw [goA 299 1 _ F (by omega) c0 r1 d0 q0]
      have r0' : stF F 84 1 0 84 0 = nI (m / N % N) := by rw [st_ne _ _ (by omega)]; exact r0
      by_cases q1 : m / N % N + 1 < N
      · rw [goB 298 0 _ _ (by omega) (c1 1 0) r0' q1, zb_E1l]
        refine ⟨1, _, rfl, c2 1 0 0 _, .inl ⟨rfl, ((sp_dP2 N (by omega) m hm').2.1 q0 q1), fun t ht => ?_⟩⟩
        rcases (by omega : t = 0 ∨ t = 1) with rfl | rfl
        · rw [st_self]
          show nI (m / N % N + 1) = nI ((m + 1) / N % N)
          rw [(A1.2 q0).2, (A2.1 q1).1]
        · rw [st_ne _ _ (by omega), st_self]
          show nI 0 = nI ((m + 1) % N)
          rw [(A1.2 q0).1]
      · rw [goA 298 0 _ _ (by omega) (c1 1 0) r0' d1 q1, stop, zb_E1r]
        exact ⟨0, _, rfl, c2 1 0 0 _, .inr ⟨rfl, (sp_dP2 N (by omega) m hm').2.2 q0 q1⟩⟩
  · have hm' : m < N * N * N := hm
    have r2 : F 84 2 = nI (m % N) := hr 2 (by omega)
    have r1 : F 84 1 = nI (m / N % N) := hr 1 (by omega)
    have r0 : F 84 0 = nI (m / N / N % N) := hr 0 (by omega)
    by_cases q0 : m % N + 1 < N
    · rw [goB 299 2 _ F (by omega) c0 r2 q0, zb_E1l]
      refine ⟨1, _, rfl, fun c hc => st_cell _ _ _ hc, .inl ⟨rfl, ((sp_dP3 N (by omega) m hm').1 q0), fun t ht => ?_⟩⟩
      rcases (by omega : t = 0 ∨ t = 1 ∨ t = 2) with rfl | rfl | rfl
      · rw [st_ne _ _ (by omega), r0]
        show _ = nI ((m + 1) / N / N % N)
        rw [(A1.1 q0).2]
      · rw [st_ne _ _ (by omega), r1]
        show _ = nI ((m + 1) / N % N)
        rw [(A1.1 q0).2]
      · rw [st_self]
        show nI (m % N + 1) = nI ((m + 1) % N)
        rw [(A1.1 q0).1]
    · rw [goA 299 2 _ F (by omega) c0 r2 d0 q0]
      have r1' : stF F 84 2 0 84 1 = nI (m / N % N) := by rw [st_ne _ _ (by omega)]; exact r1
      by_cases q1 : m / N % N + 1 < N
      · rw [goB 298 1 _ _ (by omega) (c1 2 0) r1' q1, zb_E1l]
        refine ⟨1, _, rfl, c2 2 0 1 _, .inl ⟨rfl, ((sp_dP3 N (by omega) m hm').2.1 q0 q1), fun t ht => ?_⟩⟩
        rcases (by omega : t = 0 ∨ t = 1 ∨ t = 2) with rfl | rfl | rfl
        · rw [st_ne _ _ (by omega), st_ne _ _ (by omega), r0]
          show _ = nI ((m + 1) / N / N % N)
          rw [(A1.2 q0).2, (A2.1 q1).2]
        · rw [st_self]
          show nI (m / N % N + 1) = nI ((m + 1) / N % N)
          rw [(A1.2 q0).2, (A2.1 q1).1]
        · rw [st_ne _ _ (by omega), st_self]
          show nI 0 = nI ((m + 1) % N)
          rw [(A1.2 q0).1]
      · rw [goA 298 1 _ _ (by omega) (c1 2 0) r1' d1 q1]
        have r0' : stF (stF F 84 2 0) 84 1 0 84 0 = nI (m / N / N % N) := by rw [st_ne _ _ (by omega), st_ne _ _ (by omega)]; exact r0
        by_cases q2 : m / N / N % N + 1 < N
        · rw [goB 297 0 _ _ (by omega) (c2 2 0 1 0) r0' q2, zb_E1l]
          refine ⟨1, _, rfl, fun c hc => (st_cell _ _ _ hc).trans (c2 2 0 1 0 c hc), .inl ⟨rfl, ((sp_dP3 N (by omega) m hm').2.2.1 q0 q1 q2), fun t ht => ?_⟩⟩
          rcases (by omega : t = 0 ∨ t = 1 ∨ t = 2) with rfl | rfl | rfl
          · rw [st_self]
            show nI (m / N / N % N + 1) = nI ((m + 1) / N / N % N)
            rw [(A1.2 q0).2, (A2.2 q1).2, (A3.1 q2).1]
          · rw [st_ne _ _ (by omega), st_self]
            show nI 0 = nI ((m + 1) / N % N)
            rw [(A1.2 q0).2, (A2.2 q1).1]
          · rw [st_ne _ _ (by omega), st_ne _ _ (by omega), st_self]
            show nI 0 = nI ((m + 1) % N)
            rw [(A1.2 q0).1]
        · rw [goA 297 0 _ _ (by omega) (c2 2 0 1 0) r0' d2 q2, stop, zb_E1r]
          exact ⟨0, _, rfl, fun c hc => (st_cell _ _ _ hc).trans (c2 2 0 1 0 c hc), .inr ⟨rfl, (sp_dP3 N (by omega) m hm').2.2.2 q0 q1 q2⟩⟩
def sp_kb (F : mmS) : Prop := F 87 4 = 0 ∧ ∃ T U, sp_pr 93 94 T U ∧ F 91 7 = nI T ∧ F 91 8 = nI U
theorem sp_kb_fr {F F1 : mmS} (h : sp_kb F) (h1 : F1 87 4 = F 87 4) (h2 : F1 91 = F 91) : sp_kb F1 := by
  unfold sp_kb at *
  rw [h1, h2]
  exact h
def sp_k87 (N k : Nat) (P S : Nat → Nat) (F : mmS) : Prop := sp_kb F
theorem sp_k87_fr {N k : Nat} {P S : Nat → Nat} {F F1 : mmS} (h : sp_k87 N k P S F) (hf : ∀ c, 86 ≤ c → F1 c = F c) : sp_k87 N k P S F1 := sp_kb_fr h (by rw [hf 87 (by decide)]) (hf 91 (by decide))
theorem wru_87 {N k G l : Nat} {P S rp : Nat → Nat} {F : mmS} (hn : sp_num N k G P S) (hl : sp_lc N k G P S F) (hl3 : l ≤ 3) (hrp : ∀ t, t < l → rp t < N) (hr : ∀ t, t < l → F 84 t = nI (rp t)) (hK : sp_k87 N k P S F) : ∃ F1 F2, m_X7_standAtStart_87 F = some F1 ∧ m_X10_weigh_83_87_L67 (nI l) 300 0 F1 = some F2 ∧ F2 87 2 = nI (sp_co k P S 0 rp l) ∧ sp_k87 N k P S F2 ∧ sp_fr 87 97 F F2 := by
  have hN := hn.2.1
  obtain ⟨A, a1, a2, a3⟩ := sas_87 hn hl
  have loop : ∀ d t f H, t + d = l → d < f → sp_ob k 87 88 (sp_R0 k P S rp t).1 (sp_R0 k P S rp t).2.1 (sp_R0 k P S rp t).2.2 H → sp_k87 N k P S H → sp_fr 87 97 F H → ∃ F2, m_X10_weigh_83_87_L67 (nI l) f (nI t) H = some F2 ∧ F2 87 2 = nI (sp_co k P S 0 rp l) ∧ sp_k87 N k P S F2 ∧ sp_fr 87 97 F F2 := by
    intro d
    induction d with
    | zero =>
      intro t f H h hf h1 h2 h3
      obtain ⟨f, rfl⟩ : ∃ m, f = m + 1 := ⟨f - 1, by omega⟩
      obtain rfl : t = l := by omega
      rw [m_X10_weigh_83_87_L67, if_pos (nI_le (by omega) (by omega))]
      exact ⟨H, rfl, h1.2.1, h2, h3⟩
    | succ d ih =>
      intro t f H h hf h1 h2 h3
      obtain ⟨f, rfl⟩ : ∃ m, f = m + 1 := ⟨f - 1, by omega⟩
      obtain ⟨J, e1, e2, e3⟩ := mee_87 (h := -1) (p := rp t) hn (sp_fr_lc h3 (by decide) hl) h2.1 h1 (sp_R0_le hn t).1 (by have := hrp t (by omega); omega)
      rw [m_X10_weigh_83_87_L67, if_neg (nI_ge (by omega) (by omega)), zi_rd t rfl (show H 84 t = nI (rp t) by rw [h3 84 (by omega)]; exact hr t (by omega)) (show t < 3 by omega), zb_some, e1, zb_some, zb_mlet, nI_1]
      exact ih (t + 1) f J (by omega) (by omega) e2 (sp_kb_fr h2 (e3.1 4 (by decide) (by decide)) (e3.2 91 (by omega))) (sp_fr_tr h3 (sp_fr_up e3.2 (by omega) (by omega)))
  obtain ⟨F2, b1, b2⟩ := loop l 0 300 A (by omega) (by omega) (sp_ob_mono a2 hn.2.2.2.1) (sp_kb_fr hK (a3.1 4 (by decide) (by decide)) (a3.2 91 (by omega))) (sp_fr_up a3.2 (by omega) (by omega))
  exact ⟨A, F2, a1, b1, b2⟩
def sp_k89 (N k : Nat) (P S : Nat → Nat) (F : mmS) : Prop := sp_kb F
theorem sp_k89_fr {N k : Nat} {P S : Nat → Nat} {F F1 : mmS} (h : sp_k89 N k P S F) (hf : ∀ c, 86 ≤ c → F1 c = F c) : sp_k89 N k P S F1 := sp_kb_fr h (by rw [hf 87 (by decide)]) (hf 91 (by decide))
theorem wru_89 {N k G l : Nat} {P S rp : Nat → Nat} {F : mmS} (hn : sp_num N k G P S) (hl : sp_lc N k G P S F) (hl3 : l ≤ 3) (hrp : ∀ t, t < l → rp t < N) (hr : ∀ t, t < l → F 84 t = nI (rp t)) (hK : sp_k89 N k P S F) : ∃ F1 F2, m_X7_standAtStart_89 F = some F1 ∧ m_X10_weigh_83_89_L67 (nI l) 300 0 F1 = some F2 ∧ F2 89 2 = nI (sp_co k P S 1 rp l) ∧ sp_k89 N k P S F2 ∧ sp_fr 87 97 F F2 := by
  have hN := hn.2.1
  obtain ⟨A, a1, a2, a3⟩ := sas_89 hn hl
  have loop : ∀ d t f H, t + d = l → d < f → (∃ g, sp_ob k 89 90 (sp_R1 k P S rp t).1 (sp_R1 k P S rp t).2.1 g H) → sp_k89 N k P S H → sp_fr 87 97 F H → ∃ F2, m_X10_weigh_83_89_L67 (nI l) f (nI t) H = some F2 ∧ F2 89 2 = nI (sp_co k P S 1 rp l) ∧ sp_k89 N k P S F2 ∧ sp_fr 87 97 F F2 := by
    intro d
    induction d with
    | zero =>
      intro t f H h hf h1 h2 h3
      obtain ⟨f, rfl⟩ : ∃ m, f = m + 1 := ⟨f - 1, by omega⟩
      obtain rfl : t = l := by omega
      rw [m_X10_weigh_83_89_L67, if_pos (nI_le (by omega) (by omega))]
      obtain ⟨g, h1⟩ := h1
      exact ⟨H, rfl, h1.2.1, h2, h3⟩
    | succ d ih =>
      intro t f H h hf h1 h2 h3
      obtain ⟨f, rfl⟩ : ∃ m, f = m + 1 := ⟨f - 1, by omega⟩
      obtain ⟨g, h1⟩ := h1
      obtain ⟨J, g', e1, e2, e3⟩ := mee_89 (h := -1) (p := rp t) hn (sp_fr_lc h3 (by decide) hl) h1 (sp_R1_le hn t).1 (by have := hrp t (by omega); omega)
      rw [m_X10_weigh_83_89_L67, if_neg (nI_ge (by omega) (by omega)), zi_rd t rfl (show H 84 t = nI (rp t) by rw [h3 84 (by omega)]; exact hr t (by omega)) (show t < 3 by omega), zb_some, e1, zb_some, zb_mlet, nI_1]
      exact ih (t + 1) f J (by omega) (by omega) ⟨g', e2⟩ (sp_kb_fr h2 (by rw [e3.2 87 (by omega)]) (e3.2 91 (by omega))) (sp_fr_tr h3 (sp_fr_up e3.2 (by omega) (by omega)))
  obtain ⟨F2, b1, b2⟩ := loop l 0 300 A (by omega) (by omega) ⟨_, sp_ob_mono a2 hn.2.2.2.1⟩ (sp_kb_fr hK (by rw [a3.2 87 (by omega)]) (a3.2 91 (by omega))) (sp_fr_up a3.2 (by omega) (by omega))
  exact ⟨A, F2, a1, b1, b2⟩
def sp_k91 (N k : Nat) (P S : Nat → Nat) (F : mmS) : Prop := F 87 4 = 0 ∧ ∃ T U, sp_pr 93 94 T U ∧ F 91 7 = nI T ∧ F 91 8 = nI U ∧ sp_tb N k T (sp_W k P S (fun _ => 0) 0) F
theorem sp_k91_fr {N k : Nat} {P S : Nat → Nat} {F F1 : mmS} (h : sp_k91 N k P S F) (hf : ∀ c, 86 ≤ c → F1 c = F c) : sp_k91 N k P S F1 := by
  obtain ⟨h0, T, U, h1, h2, h3, h4⟩ := h
  have hT : 86 ≤ T := by rcases h1 with ⟨rfl, rfl⟩ | ⟨rfl, rfl⟩ <;> decide
  refine ⟨by rw [hf 87 (by decide)]; exact h0, T, U, h1, ?_, ?_, fun c hc => ?_⟩
  · rw [hf 91 (by decide)]; exact h2
  · rw [hf 91 (by decide)]; exact h3
  · rw [hf T hT]; exact h4 c hc
theorem wru_91 {N k G l : Nat} {P S rp : Nat → Nat} {F : mmS} (hn : sp_num N k G P S) (hl : sp_lc N k G P S F) (hl3 : l ≤ 3) (hrp : ∀ t, t < l → rp t < N) (hr : ∀ t, t < l → F 84 t = nI (rp t)) (hK : sp_k91 N k P S F) : ∃ F1 F2, m_X9_standAtStart_91 F = some F1 ∧ m_X10_weigh_83_91_L67 (nI l) 300 0 F1 = some F2 ∧ F2 91 2 = nI (sp_co k P S 2 rp l) ∧ sp_k91 N k P S F2 ∧ sp_fr 87 97 F F2 := by
  have hN := hn.2.1
  obtain ⟨h0, T, U, hpr, h7, h8, htb⟩ := hK
  have hTl : 91 < T ∧ T < 97 ∧ T ≠ 92 := by rcases hpr with ⟨rfl, rfl⟩ | ⟨rfl, rfl⟩ <;> decide
  obtain ⟨A, a1, a2, a3⟩ := sas_91 hn hl
  have fA : sp_fr 87 97 F A := sp_fr_up a3.2 (by omega) (by omega)
  have hb : m_X9_standAtStart_91 F = some (stF (stF A 91 6 (nI (sp_s0 S))) 91 5 0) := by
    unfold m_X9_standAtStart_91
    rw [a1, zb_some, zi_ss hn (sp_fr_lc fA (by decide) hl), zb_some, zb_mlet, zb_mlet]
  have z0 : sp_wst N k 91 92 93 94 96 P S rp 0 0 (stF (stF A 91 6 (nI (sp_s0 S))) 91 5 0) := by
    refine ⟨Nat.le_refl 0, ⟨?_, ?_, ?_⟩, ?_, ?_, ⟨T, U, hpr, ?_, ?_, ?_⟩, fun i hi => by omega⟩
    · intro s hs
      rw [st_cell _ _ _ (by decide), st_cell _ _ _ (by decide)]
      exact a2.1 s (by have := hn.2.2.2.1; omega)
    · rw [st_ne _ _ (by omega), st_ne _ _ (by omega)]; exact a2.2.1
    · rw [st_ne _ _ (by omega), st_ne _ _ (by omega)]; exact a2.2.2
    · rw [st_self]; rfl
    · rw [st_ne _ _ (by omega), st_self]; rfl
    · rw [st_ne _ _ (by omega), st_ne _ _ (by omega), a3.1 7 (by decide) (by decide)]; exact h7
    · rw [st_ne _ _ (by omega), st_ne _ _ (by omega), a3.1 8 (by decide) (by decide)]; exact h8
    · intro c hc
      rw [st_cell _ _ _ (by omega), st_cell _ _ _ (by omega), a3.2 T (by omega)]
      exact htb c hc
  have f0 : sp_fr 87 97 F (stF (stF A 91 6 (nI (sp_s0 S))) 91 5 0) := sp_fr_tr (sp_fr_tr fA (sp_fr_st _ _ _ (by omega) (by omega))) (sp_fr_st _ _ _ (by omega) (by omega))
  have loop : ∀ d t f H, t + d = l → d < f → sp_wst N k 91 92 93 94 96 P S rp t t H → H 87 = F 87 → sp_fr 87 97 F H → ∃ F2, m_X10_weigh_83_91_L67 (nI l) f (nI t) H = some F2 ∧ F2 91 2 = nI (sp_co k P S 2 rp l) ∧ sp_k91 N k P S F2 ∧ sp_fr 87 97 F F2 := by
    intro d
    induction d with
    | zero =>
      intro t f H h hf h1 h2 h3
      obtain ⟨f, rfl⟩ : ∃ m, f = m + 1 := ⟨f - 1, by omega⟩
      obtain rfl : t = l := by omega
      rw [m_X10_weigh_83_91_L67, if_pos (nI_le (by omega) (by omega))]
      obtain ⟨T', U', p1, p2, p3, p4⟩ := h1.2.2.2.2.1
      rw [Nat.sub_self] at p4
      exact ⟨H, rfl, h1.2.1.2.1, ⟨by rw [h2]; exact h0, T', U', p1, p2, p3, p4⟩, h3⟩
    | succ d ih =>
      intro t f H h hf h1 h2 h3
      obtain ⟨f, rfl⟩ : ∃ m, f = m + 1 := ⟨f - 1, by omega⟩
      obtain ⟨J, e1, e2, e3, e4, e5⟩ := wm0_91 hn (sp_fr_lc h3 (by decide) hl) (by omega) (fun u hu => hrp u (by omega)) (by omega) h1
      have em : m_X9_meet_91 H (nI (rp t)) (-1) = some J := by
        unfold m_X9_meet_91
        rw [if_pos (show H 91 5 < (3 : Int32) by rw [h1.2.2.1]; exact nI_lt (b := 3) (by omega) (by omega)), zb_bd1]
        exact e1
      rw [m_X10_weigh_83_91_L67, if_neg (nI_ge (by omega) (by omega)), zi_rd t rfl (show H 84 t = nI (rp t) by rw [h3 84 (by omega)]; exact hr t (by omega)) (show t < 3 by omega), zb_some, em, zb_some, zb_mlet, nI_1]
      exact ih (t + 1) f J (by omega) (by omega) e2 ((e5 87 (by omega)).trans h2) (sp_fr_tr h3 (sp_fr_up e5 (by omega) (by omega)))
  obtain ⟨F2, b1, b2⟩ := loop l 0 300 _ (by omega) (by omega) z0 (by rw [st_cell _ _ _ (by decide), st_cell _ _ _ (by decide)]; exact a3.2 87 (by omega)) f0
  exact ⟨_, F2, hb, b1, b2⟩
theorem wgh_87 {N k G l m : Nat} {P S rp : Nat → Nat} {F : mmS} {x : Option (Nat × Nat × Nat)} (hn : sp_num N k G P S) (hl : sp_lc N k G P S F) (hl1 : 1 ≤ l) (hl3 : l ≤ 3) (hrp : ∀ t, t < l → rp t < N) (hr : ∀ t, t < l → F 84 t = nI (rp t)) (hK : sp_k87 N k P S F) (hx : sp_sb x) (hS : sp_cS x F) : ∃ F1, m_X10_weigh_83_87 F (nI l) (nI m) = some F1 ∧ sp_cS (sp_s1 x m (sp_co k P S 0 rp l) (sp_be k P S rp l)) F1 ∧ sp_k87 N k P S F1 ∧ F1 84 = F 84 ∧ sp_fr 83 97 F F1 := by
  have hN := hn.2.1
  have hk3 := hn.2.2.2.1
  have hP := hn.2.2.2.2.2.2.1
  have loop : ∀ d s f H, s + d = k → d < f → (∀ c, c ≠ 85 → H c = F c) → (∀ i, i < s → H 85 i = nI (sp_ap P (sp_s0 S) i)) → ∃ H1, m_X10_weigh_83_87_L3 f (nI s) H = some H1 ∧ (∀ c, c ≠ 85 → H1 c = F c) ∧ (∀ i, i < k → H1 85 i = nI (sp_ap P (sp_s0 S) i)) := by
    intro d
    induction d with
    | zero =>
      intro s f H h hf h1 h2
      obtain ⟨f, rfl⟩ : ∃ m, f = m + 1 := ⟨f - 1, by omega⟩
      rw [m_X10_weigh_83_87_L3, h1 1 (by decide), hl.2.1, if_pos (nI_le (by omega) (by omega))]
      exact ⟨H, rfl, h1, fun i hi => h2 i (by omega)⟩
    | succ d ih =>
      intro s f H h hf h1 h2
      obtain ⟨f, rfl⟩ : ∃ m, f = m + 1 := ⟨f - 1, by omega⟩
      have h6 : S s < 6 := by have := hn.2.2.2.2.2.2.2.1 s; omega
      rw [m_X10_weigh_83_87_L3, h1 1 (by decide), hl.2.1, if_neg (nI_ge (by omega) (by omega)), zi_rd s rfl (show H 3 s = nI (S s) by rw [h1 3 (by decide)]; exact hl.2.2.2.2.2.1 s (by omega)) (show s < 3 by omega), zb_some, zi_rd (S s) rfl (show H 2 (S s) = nI (P (S s)) by rw [h1 2 (by decide)]; exact hl.2.2.2.2.1 _ h6) (show S s < 6 from h6), zb_some, zi_wr (q := 85) s rfl (show s < 3 by omega), zb_some, zb_mlet, nI_1]
      refine ih (s + 1) f _ (by omega) (by omega) (fun c hc => (st_cell _ _ _ hc).trans (h1 c hc)) (fun i hi => ?_)
      by_cases e : i = s
      · subst e
        rw [st_self]
        show _ = nI (P (sp_po (sp_s0 S) i))
        rw [sp_s0_po hn (by omega)]
      · rw [st_ne _ _ (by omega)]; exact h2 i (by omega)
  obtain ⟨H, a1, a2, a3⟩ := loop k 0 300 F (by omega) (by omega) (fun _ _ => rfl) (fun i hi => by omega)
  have fH : sp_fr 83 97 F H := fun c hc => a2 c (by omega)
  have lH := sp_fr_lc fH (by decide) hl
  have eb := lfC (rp := rp) hn hl hl3 hrp l 0 5 (sp_s0 S) H (by omega) (by omega) (sp_s0_vl hn) a2 hr a3
  have hbe := sp_be_le (rp := rp) hn (l := l) (by omega)
  have hco := sp_co_le hn 0 rp l
  have kH : sp_k87 N k P S H := sp_k87_fr hK (fun c hc => a2 c (by omega))
  have sH : sp_cS x H := by
    cases x with
    | none => exact ⟨by rw [a2 83 (by decide)]; exact hS.1, by rw [a2 83 (by decide)]; exact hS.2.1, by rw [a2 83 (by decide)]; exact hS.2.2⟩
    | some y => exact ⟨by rw [a2 83 (by decide)]; exact hS.1, by rw [a2 83 (by decide)]; exact hS.2.1, by rw [a2 83 (by decide)]; exact hS.2.2⟩
  unfold m_X10_weigh_83_87
  rw [show m_X10_weigh_83_87_L3 300 (0 : Int32) F = m_X10_weigh_83_87_L3 300 (nI 0) F from rfl, a1, zb_bd1, show m_X10_leastFrom_83 5 H (0 : Int32) (nI l) = some (nI (sp_be k P S rp l), H) from eb, zb_bd2]
  by_cases hb0 : sp_be k P S rp l = 0
  · rw [hb0, if_neg (show ¬ (0 : Int32) < nI 0 by decide)]
    refine ⟨H, rfl, ?_, kH, a2 84 (by decide), fH⟩
    unfold sp_s1
    rw [if_pos rfl]
    exact sH
  · rw [if_pos (show (0 : Int32) < nI (sp_be k P S rp l) from nI_lt (a := 0) (by omega) (by omega))]
    obtain ⟨A, B, b1, b2, b3, b4, b5⟩ := wru_87 hn lH hl3 hrp (fun t ht => by rw [a2 84 (by decide)]; exact hr t ht) kH
    rw [b1, zb_some, show m_X10_weigh_83_87_L67 (nI l) 300 (0 : Int32) A = some B from b2, zb_bd1]
    have e83 : B 83 = H 83 := b5 83 (by omega)
    have e84 : B 84 = F 84 := (b5 84 (by omega)).trans (a2 84 (by decide))
    have fB : sp_fr 83 97 F B := sp_fr_tr fH (sp_fr_up b5 (by omega) (by omega))
    unfold sp_s1
    rw [if_neg hb0]
    have fin : ∀ J, J = stF (stF (stF B 83 4 (nI m)) 83 5 (nI (sp_co k P S 0 rp l))) 83 6 (nI (sp_be k P S rp l)) → sp_cS (some (m, sp_co k P S 0 rp l, sp_be k P S rp l)) J ∧ sp_k87 N k P S J ∧ J 84 = F 84 ∧ sp_fr 83 97 F J := by
      intro J hJ
      subst hJ
      refine ⟨⟨?_, ?_, ?_⟩, ?_, ?_, ?_⟩
      · rw [st_ne _ _ (by omega), st_ne _ _ (by omega), st_self]
      · rw [st_ne _ _ (by omega), st_self]
      · rw [st_self]
      · exact sp_k87_fr b4 (fun c hc => by rw [st_cell _ _ _ (by omega), st_cell _ _ _ (by omega), st_cell _ _ _ (by omega)])
      · rw [st_cell _ _ _ (by decide), st_cell _ _ _ (by decide), st_cell _ _ _ (by decide)]; exact e84
      · exact sp_fr_tr (sp_fr_tr (sp_fr_tr fB (sp_fr_st _ _ _ (by omega) (by omega))) (sp_fr_st _ _ _ (by omega) (by omega))) (sp_fr_st _ _ _ (by omega) (by omega))
    have eQ : ∀ v, stF B 83 4 v 87 2 = nI (sp_co k P S 0 rp l) := fun v => by rw [st_cell _ _ _ (by decide)]; exact b3
    cases x with
    | none =>
      rw [if_pos (show B 83 4 = -1 by rw [e83]; exact sH.1), zb_mlet, zb_mlet, zb_mlet, eQ]
      exact ⟨_, rfl, fin _ rfl⟩
    | some y =>
      have hy := hx y rfl
      rw [if_neg (show ¬ B 83 4 = -1 by rw [e83, sH.1]; exact zi_m1 (by omega)), b3, e83, sH.2.1, sH.2.2, pk_mul, pk_mul]
      have M1 : sp_co k P S 0 rp l * y.2.2 ≤ 6000 * 40000 := Nat.mul_le_mul (by omega) hy.2.2.1
      have M2 : y.2.1 * sp_be k P S rp l ≤ 6000 * 40000 := Nat.mul_le_mul hy.2.1 hbe
      by_cases q : sp_co k P S 0 rp l * y.2.2 ≤ y.2.1 * sp_be k P S rp l
      · rw [if_pos (nI_le q (by omega))]
        refine ⟨B, rfl, ?_, b4, e84, fB⟩
        show sp_cS (if sp_co k P S 0 rp l * y.2.2 ≤ y.2.1 * sp_be k P S rp l then some y else _) B
        rw [if_pos q]
        exact ⟨by rw [e83]; exact sH.1, by rw [e83]; exact sH.2.1, by rw [e83]; exact sH.2.2⟩
      · rw [if_neg (nI_ge (by omega) (by omega)), zb_mlet, zb_mlet, zb_mlet, eQ]
        refine ⟨_, rfl, ?_⟩
        show sp_cS (if sp_co k P S 0 rp l * y.2.2 ≤ y.2.1 * sp_be k P S rp l then some y else some (m, sp_co k P S 0 rp l, sp_be k P S rp l)) _ ∧ _
        rw [if_neg q]
        exact fin _ rfl
theorem skl_87 {N k G l : Nat} {P S : Nat → Nat} {F : mmS} (hn : sp_num N k G P S) (hl : sp_lc N k G P S F) (hl1 : 1 ≤ l) (hl3 : l ≤ 3) : ∀ d m f H, m + d + 1 = sp_pw N l → d + 1 < f → (∀ t, t < l → H 84 t = nI (sp_dg N l m t)) → sp_k87 N k P S H → sp_cS (sp_sk N k P S 0 l m) H → sp_fr 83 97 F H → ∃ F1, m_X10_seek_83_L46 (nI 0) (nI l) f (nI m) H = some (.inr F1) ∧ sp_cS (sp_sk N k P S 0 l (sp_pw N l)) F1 ∧ sp_k87 N k P S F1 ∧ sp_fr 83 97 F F1 := by
  have hN := hn.2.1
  have hN1 := hn.1
  have hp := sp_pw_le (l := l) hN
  have hrl : rld 86 (nI 0) = some 87 := pb_rld (q := 86) (n := 0) (by decide) (by decide)
  have body : ∀ m f H, m < sp_pw N l → (∀ t, t < l → H 84 t = nI (sp_dg N l m t)) → sp_k87 N k P S H → sp_cS (sp_sk N k P S 0 l m) H → sp_fr 83 97 F H → ∃ b J, m_X10_seek_83_L46 (nI 0) (nI l) (f + 1) (nI m) H = (if b = (0 : Int32) then (some (.inr J)) else m_X10_seek_83_L46 (nI 0) (nI l) f (nI (m + 1)) J) ∧ sp_k87 N k P S J ∧ sp_cS (sp_sk N k P S 0 l (m + 1)) J ∧ sp_fr 83 97 F J ∧ ((b = 1 ∧ m + 1 < sp_pw N l ∧ ∀ t, t < l → J 84 t = nI (sp_dg N l (m + 1) t)) ∨ (b = 0 ∧ m + 1 = sp_pw N l)) := by
    intro m f H hm h1 h2 h3 h4
    obtain ⟨A, a1, a2, a3, a4, a5⟩ := wgh_87 (m := m) (rp := sp_dg N l m) hn (sp_fr_lc h4 (by decide) hl) hl1 hl3 (fun t _ => sp_dg_lt hN1) h1 h2 (sp_sk_sb hn hl3 m (by omega)) h3
    have fA := sp_fr_tr h4 a5
    obtain ⟨b, J, b1, b2, b3⟩ := tnC hn (sp_fr_lc fA (by decide) hl) hl1 hl3 hm (fun t ht => by rw [a4]; exact h1 t ht)
    refine ⟨b, J, ?_, sp_k87_fr a3 (fun c hc => b2 c (by omega)), ?_, sp_fr_tr fA (fun c hc => b2 c (by omega)), b3⟩
    · rw [m_X10_seek_83_L46, if_neg (show ¬ (216 : Int32) ≤ nI m from nI_ge (b := 216) (by omega) (by omega)), hrl, zb_some]
      rw [if_pos (show (87 : Nat) = 87 from rfl)]
      rw [a1, zb_some, b1, zb_bd2, zb_mlet, nI_1]
    · show sp_cS (sp_s1 (sp_sk N k P S 0 l m) m (sp_co k P S 0 (sp_dg N l m) l) (sp_be k P S (sp_dg N l m) l)) J
      generalize sp_s1 (sp_sk N k P S 0 l m) m (sp_co k P S 0 (sp_dg N l m) l) (sp_be k P S (sp_dg N l m) l) = y at a2
      cases y with
      | none => exact ⟨by rw [b2 83 (by decide)]; exact a2.1, by rw [b2 83 (by decide)]; exact a2.2.1, by rw [b2 83 (by decide)]; exact a2.2.2⟩
      | some y => exact ⟨by rw [b2 83 (by decide)]; exact a2.1, by rw [b2 83 (by decide)]; exact a2.2.1, by rw [b2 83 (by decide)]; exact a2.2.2⟩
  intro d
  induction d with
  | zero =>
    intro m f H h hf h1 h2 h3 h4
    obtain ⟨f, rfl⟩ : ∃ m, f = m + 1 := ⟨f - 1, by omega⟩
    obtain ⟨b, J, e1, e2, e3, e4, e5⟩ := body m f H (by omega) h1 h2 h3 h4
    rcases e5 with ⟨rfl, e5, _⟩ | ⟨rfl, e5⟩
    · omega
    · rw [e1, if_pos rfl]
      rw [e5] at e3
      exact ⟨J, rfl, e3, e2, e4⟩
  | succ d ih =>
    intro m f H h hf h1 h2 h3 h4
    obtain ⟨f, rfl⟩ : ∃ m, f = m + 1 := ⟨f - 1, by omega⟩
    obtain ⟨b, J, e1, e2, e3, e4, e5⟩ := body m f H (by omega) h1 h2 h3 h4
    rcases e5 with ⟨rfl, e5, e6⟩ | ⟨rfl, e5⟩
    · rw [e1, if_neg (show ¬ (1 : Int32) = 0 by decide)]
      exact ih (m + 1) f J (by omega) (by omega) e6 e2 e3 e4
    · omega
theorem wgh_89 {N k G l m : Nat} {P S rp : Nat → Nat} {F : mmS} {x : Option (Nat × Nat × Nat)} (hn : sp_num N k G P S) (hl : sp_lc N k G P S F) (hl1 : 1 ≤ l) (hl3 : l ≤ 3) (hrp : ∀ t, t < l → rp t < N) (hr : ∀ t, t < l → F 84 t = nI (rp t)) (hK : sp_k89 N k P S F) (hx : sp_sb x) (hS : sp_cS x F) : ∃ F1, m_X10_weigh_83_89 F (nI l) (nI m) = some F1 ∧ sp_cS (sp_s1 x m (sp_co k P S 1 rp l) (sp_be k P S rp l)) F1 ∧ sp_k89 N k P S F1 ∧ F1 84 = F 84 ∧ sp_fr 83 97 F F1 := by
  have hN := hn.2.1
  have hk3 := hn.2.2.2.1
  have hP := hn.2.2.2.2.2.2.1
  have loop : ∀ d s f H, s + d = k → d < f → (∀ c, c ≠ 85 → H c = F c) → (∀ i, i < s → H 85 i = nI (sp_ap P (sp_s0 S) i)) → ∃ H1, m_X10_weigh_83_89_L3 f (nI s) H = some H1 ∧ (∀ c, c ≠ 85 → H1 c = F c) ∧ (∀ i, i < k → H1 85 i = nI (sp_ap P (sp_s0 S) i)) := by
    intro d
    induction d with
    | zero =>
      intro s f H h hf h1 h2
      obtain ⟨f, rfl⟩ : ∃ m, f = m + 1 := ⟨f - 1, by omega⟩
      rw [m_X10_weigh_83_89_L3, h1 1 (by decide), hl.2.1, if_pos (nI_le (by omega) (by omega))]
      exact ⟨H, rfl, h1, fun i hi => h2 i (by omega)⟩
    | succ d ih =>
      intro s f H h hf h1 h2
      obtain ⟨f, rfl⟩ : ∃ m, f = m + 1 := ⟨f - 1, by omega⟩
      have h6 : S s < 6 := by have := hn.2.2.2.2.2.2.2.1 s; omega
      rw [m_X10_weigh_83_89_L3, h1 1 (by decide), hl.2.1, if_neg (nI_ge (by omega) (by omega)), zi_rd s rfl (show H 3 s = nI (S s) by rw [h1 3 (by decide)]; exact hl.2.2.2.2.2.1 s (by omega)) (show s < 3 by omega), zb_some, zi_rd (S s) rfl (show H 2 (S s) = nI (P (S s)) by rw [h1 2 (by decide)]; exact hl.2.2.2.2.1 _ h6) (show S s < 6 from h6), zb_some, zi_wr (q := 85) s rfl (show s < 3 by omega), zb_some, zb_mlet, nI_1]
      refine ih (s + 1) f _ (by omega) (by omega) (fun c hc => (st_cell _ _ _ hc).trans (h1 c hc)) (fun i hi => ?_)
      by_cases e : i = s
      · subst e
        rw [st_self]
        show _ = nI (P (sp_po (sp_s0 S) i))
        rw [sp_s0_po hn (by omega)]
      · rw [st_ne _ _ (by omega)]; exact h2 i (by omega)
  obtain ⟨H, a1, a2, a3⟩ := loop k 0 300 F (by omega) (by omega) (fun _ _ => rfl) (fun i hi => by omega)
  have fH : sp_fr 83 97 F H := fun c hc => a2 c (by omega)
  have lH := sp_fr_lc fH (by decide) hl
  have eb := lfC (rp := rp) hn hl hl3 hrp l 0 5 (sp_s0 S) H (by omega) (by omega) (sp_s0_vl hn) a2 hr a3
  have hbe := sp_be_le (rp := rp) hn (l := l) (by omega)
  have hco := sp_co_le hn 1 rp l
  have kH : sp_k89 N k P S H := sp_k89_fr hK (fun c hc => a2 c (by omega))
  have sH : sp_cS x H := by
    cases x with
    | none => exact ⟨by rw [a2 83 (by decide)]; exact hS.1, by rw [a2 83 (by decide)]; exact hS.2.1, by rw [a2 83 (by decide)]; exact hS.2.2⟩
    | some y => exact ⟨by rw [a2 83 (by decide)]; exact hS.1, by rw [a2 83 (by decide)]; exact hS.2.1, by rw [a2 83 (by decide)]; exact hS.2.2⟩
  unfold m_X10_weigh_83_89
  rw [show m_X10_weigh_83_89_L3 300 (0 : Int32) F = m_X10_weigh_83_89_L3 300 (nI 0) F from rfl, a1, zb_bd1, show m_X10_leastFrom_83 5 H (0 : Int32) (nI l) = some (nI (sp_be k P S rp l), H) from eb, zb_bd2]
  by_cases hb0 : sp_be k P S rp l = 0
  · rw [hb0, if_neg (show ¬ (0 : Int32) < nI 0 by decide)]
    refine ⟨H, rfl, ?_, kH, a2 84 (by decide), fH⟩
    unfold sp_s1
    rw [if_pos rfl]
    exact sH
  · rw [if_pos (show (0 : Int32) < nI (sp_be k P S rp l) from nI_lt (a := 0) (by omega) (by omega))]
    obtain ⟨A, B, b1, b2, b3, b4, b5⟩ := wru_89 hn lH hl3 hrp (fun t ht => by rw [a2 84 (by decide)]; exact hr t ht) kH
    rw [b1, zb_some, show m_X10_weigh_83_89_L67 (nI l) 300 (0 : Int32) A = some B from b2, zb_bd1]
    have e83 : B 83 = H 83 := b5 83 (by omega)
    have e84 : B 84 = F 84 := (b5 84 (by omega)).trans (a2 84 (by decide))
    have fB : sp_fr 83 97 F B := sp_fr_tr fH (sp_fr_up b5 (by omega) (by omega))
    unfold sp_s1
    rw [if_neg hb0]
    have fin : ∀ J, J = stF (stF (stF B 83 4 (nI m)) 83 5 (nI (sp_co k P S 1 rp l))) 83 6 (nI (sp_be k P S rp l)) → sp_cS (some (m, sp_co k P S 1 rp l, sp_be k P S rp l)) J ∧ sp_k89 N k P S J ∧ J 84 = F 84 ∧ sp_fr 83 97 F J := by
      intro J hJ
      subst hJ
      refine ⟨⟨?_, ?_, ?_⟩, ?_, ?_, ?_⟩
      · rw [st_ne _ _ (by omega), st_ne _ _ (by omega), st_self]
      · rw [st_ne _ _ (by omega), st_self]
      · rw [st_self]
      · exact sp_k89_fr b4 (fun c hc => by rw [st_cell _ _ _ (by omega), st_cell _ _ _ (by omega), st_cell _ _ _ (by omega)])
      · rw [st_cell _ _ _ (by decide), st_cell _ _ _ (by decide), st_cell _ _ _ (by decide)]; exact e84
      · exact sp_fr_tr (sp_fr_tr (sp_fr_tr fB (sp_fr_st _ _ _ (by omega) (by omega))) (sp_fr_st _ _ _ (by omega) (by omega))) (sp_fr_st _ _ _ (by omega) (by omega))
    have eQ : ∀ v, stF B 83 4 v 89 2 = nI (sp_co k P S 1 rp l) := fun v => by rw [st_cell _ _ _ (by decide)]; exact b3
    cases x with
    | none =>
      rw [if_pos (show B 83 4 = -1 by rw [e83]; exact sH.1), zb_mlet, zb_mlet, zb_mlet, eQ]
      exact ⟨_, rfl, fin _ rfl⟩
    | some y =>
      have hy := hx y rfl
      rw [if_neg (show ¬ B 83 4 = -1 by rw [e83, sH.1]; exact zi_m1 (by omega)), b3, e83, sH.2.1, sH.2.2, pk_mul, pk_mul]
      have M1 : sp_co k P S 1 rp l * y.2.2 ≤ 6000 * 40000 := Nat.mul_le_mul (by omega) hy.2.2.1
      have M2 : y.2.1 * sp_be k P S rp l ≤ 6000 * 40000 := Nat.mul_le_mul hy.2.1 hbe
      by_cases q : sp_co k P S 1 rp l * y.2.2 ≤ y.2.1 * sp_be k P S rp l
      · rw [if_pos (nI_le q (by omega))]
        refine ⟨B, rfl, ?_, b4, e84, fB⟩
        show sp_cS (if sp_co k P S 1 rp l * y.2.2 ≤ y.2.1 * sp_be k P S rp l then some y else _) B
        rw [if_pos q]
        exact ⟨by rw [e83]; exact sH.1, by rw [e83]; exact sH.2.1, by rw [e83]; exact sH.2.2⟩
      · rw [if_neg (nI_ge (by omega) (by omega)), zb_mlet, zb_mlet, zb_mlet, eQ]
        refine ⟨_, rfl, ?_⟩
        show sp_cS (if sp_co k P S 1 rp l * y.2.2 ≤ y.2.1 * sp_be k P S rp l then some y else some (m, sp_co k P S 1 rp l, sp_be k P S rp l)) _ ∧ _
        rw [if_neg q]
        exact fin _ rfl
theorem skl_89 {N k G l : Nat} {P S : Nat → Nat} {F : mmS} (hn : sp_num N k G P S) (hl : sp_lc N k G P S F) (hl1 : 1 ≤ l) (hl3 : l ≤ 3) : ∀ d m f H, m + d + 1 = sp_pw N l → d + 1 < f → (∀ t, t < l → H 84 t = nI (sp_dg N l m t)) → sp_k89 N k P S H → sp_cS (sp_sk N k P S 1 l m) H → sp_fr 83 97 F H → ∃ F1, m_X10_seek_83_L46002 (nI 1) (nI l) f (nI m) H = some (.inr F1) ∧ sp_cS (sp_sk N k P S 1 l (sp_pw N l)) F1 ∧ sp_k89 N k P S F1 ∧ sp_fr 83 97 F F1 := by
  have hN := hn.2.1
  have hN1 := hn.1
  have hp := sp_pw_le (l := l) hN
  have hrl : rld 86 (nI 1) = some 89 := pb_rld (q := 86) (n := 1) (by decide) (by decide)
  have body : ∀ m f H, m < sp_pw N l → (∀ t, t < l → H 84 t = nI (sp_dg N l m t)) → sp_k89 N k P S H → sp_cS (sp_sk N k P S 1 l m) H → sp_fr 83 97 F H → ∃ b J, m_X10_seek_83_L46002 (nI 1) (nI l) (f + 1) (nI m) H = (if b = (0 : Int32) then (some (.inr J)) else m_X10_seek_83_L46002 (nI 1) (nI l) f (nI (m + 1)) J) ∧ sp_k89 N k P S J ∧ sp_cS (sp_sk N k P S 1 l (m + 1)) J ∧ sp_fr 83 97 F J ∧ ((b = 1 ∧ m + 1 < sp_pw N l ∧ ∀ t, t < l → J 84 t = nI (sp_dg N l (m + 1) t)) ∨ (b = 0 ∧ m + 1 = sp_pw N l)) := by
    intro m f H hm h1 h2 h3 h4
    obtain ⟨A, a1, a2, a3, a4, a5⟩ := wgh_89 (m := m) (rp := sp_dg N l m) hn (sp_fr_lc h4 (by decide) hl) hl1 hl3 (fun t _ => sp_dg_lt hN1) h1 h2 (sp_sk_sb hn hl3 m (by omega)) h3
    have fA := sp_fr_tr h4 a5
    obtain ⟨b, J, b1, b2, b3⟩ := tnC hn (sp_fr_lc fA (by decide) hl) hl1 hl3 hm (fun t ht => by rw [a4]; exact h1 t ht)
    refine ⟨b, J, ?_, sp_k89_fr a3 (fun c hc => b2 c (by omega)), ?_, sp_fr_tr fA (fun c hc => b2 c (by omega)), b3⟩
    · rw [m_X10_seek_83_L46002, if_neg (show ¬ (216 : Int32) ≤ nI m from nI_ge (b := 216) (by omega) (by omega)), hrl, zb_some]
      rw [if_neg (show ¬ (89 : Nat) = 87 by decide), if_pos (show (89 : Nat) = 89 from rfl)]
      rw [a1, zb_some, b1, zb_bd2, zb_mlet, nI_1]
    · show sp_cS (sp_s1 (sp_sk N k P S 1 l m) m (sp_co k P S 1 (sp_dg N l m) l) (sp_be k P S (sp_dg N l m) l)) J
      generalize sp_s1 (sp_sk N k P S 1 l m) m (sp_co k P S 1 (sp_dg N l m) l) (sp_be k P S (sp_dg N l m) l) = y at a2
      cases y with
      | none => exact ⟨by rw [b2 83 (by decide)]; exact a2.1, by rw [b2 83 (by decide)]; exact a2.2.1, by rw [b2 83 (by decide)]; exact a2.2.2⟩
      | some y => exact ⟨by rw [b2 83 (by decide)]; exact a2.1, by rw [b2 83 (by decide)]; exact a2.2.1, by rw [b2 83 (by decide)]; exact a2.2.2⟩
  intro d
  induction d with
  | zero =>
    intro m f H h hf h1 h2 h3 h4
    obtain ⟨f, rfl⟩ : ∃ m, f = m + 1 := ⟨f - 1, by omega⟩
    obtain ⟨b, J, e1, e2, e3, e4, e5⟩ := body m f H (by omega) h1 h2 h3 h4
    rcases e5 with ⟨rfl, e5, _⟩ | ⟨rfl, e5⟩
    · omega
    · rw [e1, if_pos rfl]
      rw [e5] at e3
      exact ⟨J, rfl, e3, e2, e4⟩
  | succ d ih =>
    intro m f H h hf h1 h2 h3 h4
    obtain ⟨f, rfl⟩ : ∃ m, f = m + 1 := ⟨f - 1, by omega⟩
    obtain ⟨b, J, e1, e2, e3, e4, e5⟩ := body m f H (by omega) h1 h2 h3 h4
    rcases e5 with ⟨rfl, e5, e6⟩ | ⟨rfl, e5⟩
    · rw [e1, if_neg (show ¬ (1 : Int32) = 0 by decide)]
      exact ih (m + 1) f J (by omega) (by omega) e6 e2 e3 e4
    · omega
theorem wgh_91 {N k G l m : Nat} {P S rp : Nat → Nat} {F : mmS} {x : Option (Nat × Nat × Nat)} (hn : sp_num N k G P S) (hl : sp_lc N k G P S F) (hl1 : 1 ≤ l) (hl3 : l ≤ 3) (hrp : ∀ t, t < l → rp t < N) (hr : ∀ t, t < l → F 84 t = nI (rp t)) (hK : sp_k91 N k P S F) (hx : sp_sb x) (hS : sp_cS x F) : ∃ F1, m_X10_weigh_83_91 F (nI l) (nI m) = some F1 ∧ sp_cS (sp_s1 x m (sp_co k P S 2 rp l) (sp_be k P S rp l)) F1 ∧ sp_k91 N k P S F1 ∧ F1 84 = F 84 ∧ sp_fr 83 97 F F1 := by
  have hN := hn.2.1
  have hk3 := hn.2.2.2.1
  have hP := hn.2.2.2.2.2.2.1
  have loop : ∀ d s f H, s + d = k → d < f → (∀ c, c ≠ 85 → H c = F c) → (∀ i, i < s → H 85 i = nI (sp_ap P (sp_s0 S) i)) → ∃ H1, m_X10_weigh_83_91_L3 f (nI s) H = some H1 ∧ (∀ c, c ≠ 85 → H1 c = F c) ∧ (∀ i, i < k → H1 85 i = nI (sp_ap P (sp_s0 S) i)) := by
    intro d
    induction d with
    | zero =>
      intro s f H h hf h1 h2
      obtain ⟨f, rfl⟩ : ∃ m, f = m + 1 := ⟨f - 1, by omega⟩
      rw [m_X10_weigh_83_91_L3, h1 1 (by decide), hl.2.1, if_pos (nI_le (by omega) (by omega))]
      exact ⟨H, rfl, h1, fun i hi => h2 i (by omega)⟩
    | succ d ih =>
      intro s f H h hf h1 h2
      obtain ⟨f, rfl⟩ : ∃ m, f = m + 1 := ⟨f - 1, by omega⟩
      have h6 : S s < 6 := by have := hn.2.2.2.2.2.2.2.1 s; omega
      rw [m_X10_weigh_83_91_L3, h1 1 (by decide), hl.2.1, if_neg (nI_ge (by omega) (by omega)), zi_rd s rfl (show H 3 s = nI (S s) by rw [h1 3 (by decide)]; exact hl.2.2.2.2.2.1 s (by omega)) (show s < 3 by omega), zb_some, zi_rd (S s) rfl (show H 2 (S s) = nI (P (S s)) by rw [h1 2 (by decide)]; exact hl.2.2.2.2.1 _ h6) (show S s < 6 from h6), zb_some, zi_wr (q := 85) s rfl (show s < 3 by omega), zb_some, zb_mlet, nI_1]
      refine ih (s + 1) f _ (by omega) (by omega) (fun c hc => (st_cell _ _ _ hc).trans (h1 c hc)) (fun i hi => ?_)
      by_cases e : i = s
      · subst e
        rw [st_self]
        show _ = nI (P (sp_po (sp_s0 S) i))
        rw [sp_s0_po hn (by omega)]
      · rw [st_ne _ _ (by omega)]; exact h2 i (by omega)
  obtain ⟨H, a1, a2, a3⟩ := loop k 0 300 F (by omega) (by omega) (fun _ _ => rfl) (fun i hi => by omega)
  have fH : sp_fr 83 97 F H := fun c hc => a2 c (by omega)
  have lH := sp_fr_lc fH (by decide) hl
  have eb := lfC (rp := rp) hn hl hl3 hrp l 0 5 (sp_s0 S) H (by omega) (by omega) (sp_s0_vl hn) a2 hr a3
  have hbe := sp_be_le (rp := rp) hn (l := l) (by omega)
  have hco := sp_co_le hn 2 rp l
  have kH : sp_k91 N k P S H := sp_k91_fr hK (fun c hc => a2 c (by omega))
  have sH : sp_cS x H := by
    cases x with
    | none => exact ⟨by rw [a2 83 (by decide)]; exact hS.1, by rw [a2 83 (by decide)]; exact hS.2.1, by rw [a2 83 (by decide)]; exact hS.2.2⟩
    | some y => exact ⟨by rw [a2 83 (by decide)]; exact hS.1, by rw [a2 83 (by decide)]; exact hS.2.1, by rw [a2 83 (by decide)]; exact hS.2.2⟩
  unfold m_X10_weigh_83_91
  rw [show m_X10_weigh_83_91_L3 300 (0 : Int32) F = m_X10_weigh_83_91_L3 300 (nI 0) F from rfl, a1, zb_bd1, show m_X10_leastFrom_83 5 H (0 : Int32) (nI l) = some (nI (sp_be k P S rp l), H) from eb, zb_bd2]
  by_cases hb0 : sp_be k P S rp l = 0
  · rw [hb0, if_neg (show ¬ (0 : Int32) < nI 0 by decide)]
    refine ⟨H, rfl, ?_, kH, a2 84 (by decide), fH⟩
    unfold sp_s1
    rw [if_pos rfl]
    exact sH
  · rw [if_pos (show (0 : Int32) < nI (sp_be k P S rp l) from nI_lt (a := 0) (by omega) (by omega))]
    obtain ⟨A, B, b1, b2, b3, b4, b5⟩ := wru_91 hn lH hl3 hrp (fun t ht => by rw [a2 84 (by decide)]; exact hr t ht) kH
    rw [b1, zb_some, show m_X10_weigh_83_91_L67 (nI l) 300 (0 : Int32) A = some B from b2, zb_bd1]
    have e83 : B 83 = H 83 := b5 83 (by omega)
    have e84 : B 84 = F 84 := (b5 84 (by omega)).trans (a2 84 (by decide))
    have fB : sp_fr 83 97 F B := sp_fr_tr fH (sp_fr_up b5 (by omega) (by omega))
    unfold sp_s1
    rw [if_neg hb0]
    have fin : ∀ J, J = stF (stF (stF B 83 4 (nI m)) 83 5 (nI (sp_co k P S 2 rp l))) 83 6 (nI (sp_be k P S rp l)) → sp_cS (some (m, sp_co k P S 2 rp l, sp_be k P S rp l)) J ∧ sp_k91 N k P S J ∧ J 84 = F 84 ∧ sp_fr 83 97 F J := by
      intro J hJ
      subst hJ
      refine ⟨⟨?_, ?_, ?_⟩, ?_, ?_, ?_⟩
      · rw [st_ne _ _ (by omega), st_ne _ _ (by omega), st_self]
      · rw [st_ne _ _ (by omega), st_self]
      · rw [st_self]
      · exact sp_k91_fr b4 (fun c hc => by rw [st_cell _ _ _ (by omega), st_cell _ _ _ (by omega), st_cell _ _ _ (by omega)])
      · rw [st_cell _ _ _ (by decide), st_cell _ _ _ (by decide), st_cell _ _ _ (by decide)]; exact e84
      · exact sp_fr_tr (sp_fr_tr (sp_fr_tr fB (sp_fr_st _ _ _ (by omega) (by omega))) (sp_fr_st _ _ _ (by omega) (by omega))) (sp_fr_st _ _ _ (by omega) (by omega))
    have eQ : ∀ v, stF B 83 4 v 91 2 = nI (sp_co k P S 2 rp l) := fun v => by rw [st_cell _ _ _ (by decide)]; exact b3
    cases x with
    | none =>
      rw [if_pos (show B 83 4 = -1 by rw [e83]; exact sH.1), zb_mlet, zb_mlet, zb_mlet, eQ]
      exact ⟨_, rfl, fin _ rfl⟩
    | some y =>
      have hy := hx y rfl
      rw [if_neg (show ¬ B 83 4 = -1 by rw [e83, sH.1]; exact zi_m1 (by omega)), b3, e83, sH.2.1, sH.2.2, pk_mul, pk_mul]
      have M1 : sp_co k P S 2 rp l * y.2.2 ≤ 6000 * 40000 := Nat.mul_le_mul (by omega) hy.2.2.1
      have M2 : y.2.1 * sp_be k P S rp l ≤ 6000 * 40000 := Nat.mul_le_mul hy.2.1 hbe
      by_cases q : sp_co k P S 2 rp l * y.2.2 ≤ y.2.1 * sp_be k P S rp l
      · rw [if_pos (nI_le q (by omega))]
        refine ⟨B, rfl, ?_, b4, e84, fB⟩
        show sp_cS (if sp_co k P S 2 rp l * y.2.2 ≤ y.2.1 * sp_be k P S rp l then some y else _) B
        rw [if_pos q]
        exact ⟨by rw [e83]; exact sH.1, by rw [e83]; exact sH.2.1, by rw [e83]; exact sH.2.2⟩
      · rw [if_neg (nI_ge (by omega) (by omega)), zb_mlet, zb_mlet, zb_mlet, eQ]
        refine ⟨_, rfl, ?_⟩
        show sp_cS (if sp_co k P S 2 rp l * y.2.2 ≤ y.2.1 * sp_be k P S rp l then some y else some (m, sp_co k P S 2 rp l, sp_be k P S rp l)) _ ∧ _
        rw [if_neg q]
        exact fin _ rfl
theorem skl_91 {N k G l : Nat} {P S : Nat → Nat} {F : mmS} (hn : sp_num N k G P S) (hl : sp_lc N k G P S F) (hl1 : 1 ≤ l) (hl3 : l ≤ 3) : ∀ d m f H, m + d + 1 = sp_pw N l → d + 1 < f → (∀ t, t < l → H 84 t = nI (sp_dg N l m t)) → sp_k91 N k P S H → sp_cS (sp_sk N k P S 2 l m) H → sp_fr 83 97 F H → ∃ F1, m_X10_seek_83_L46003 (nI 2) (nI l) f (nI m) H = some (.inr F1) ∧ sp_cS (sp_sk N k P S 2 l (sp_pw N l)) F1 ∧ sp_k91 N k P S F1 ∧ sp_fr 83 97 F F1 := by
  have hN := hn.2.1
  have hN1 := hn.1
  have hp := sp_pw_le (l := l) hN
  have hrl : rld 86 (nI 2) = some 91 := pb_rld (q := 86) (n := 2) (by decide) (by decide)
  have body : ∀ m f H, m < sp_pw N l → (∀ t, t < l → H 84 t = nI (sp_dg N l m t)) → sp_k91 N k P S H → sp_cS (sp_sk N k P S 2 l m) H → sp_fr 83 97 F H → ∃ b J, m_X10_seek_83_L46003 (nI 2) (nI l) (f + 1) (nI m) H = (if b = (0 : Int32) then (some (.inr J)) else m_X10_seek_83_L46003 (nI 2) (nI l) f (nI (m + 1)) J) ∧ sp_k91 N k P S J ∧ sp_cS (sp_sk N k P S 2 l (m + 1)) J ∧ sp_fr 83 97 F J ∧ ((b = 1 ∧ m + 1 < sp_pw N l ∧ ∀ t, t < l → J 84 t = nI (sp_dg N l (m + 1) t)) ∨ (b = 0 ∧ m + 1 = sp_pw N l)) := by
    intro m f H hm h1 h2 h3 h4
    obtain ⟨A, a1, a2, a3, a4, a5⟩ := wgh_91 (m := m) (rp := sp_dg N l m) hn (sp_fr_lc h4 (by decide) hl) hl1 hl3 (fun t _ => sp_dg_lt hN1) h1 h2 (sp_sk_sb hn hl3 m (by omega)) h3
    have fA := sp_fr_tr h4 a5
    obtain ⟨b, J, b1, b2, b3⟩ := tnC hn (sp_fr_lc fA (by decide) hl) hl1 hl3 hm (fun t ht => by rw [a4]; exact h1 t ht)
    refine ⟨b, J, ?_, sp_k91_fr a3 (fun c hc => b2 c (by omega)), ?_, sp_fr_tr fA (fun c hc => b2 c (by omega)), b3⟩
    · rw [m_X10_seek_83_L46003, if_neg (show ¬ (216 : Int32) ≤ nI m from nI_ge (b := 216) (by omega) (by omega)), hrl, zb_some]
      rw [if_neg (show ¬ (91 : Nat) = 87 by decide), if_neg (show ¬ (91 : Nat) = 89 by decide), if_pos (show (91 : Nat) = 91 from rfl)]
      rw [a1, zb_some, b1, zb_bd2, zb_mlet, nI_1]
    · show sp_cS (sp_s1 (sp_sk N k P S 2 l m) m (sp_co k P S 2 (sp_dg N l m) l) (sp_be k P S (sp_dg N l m) l)) J
      generalize sp_s1 (sp_sk N k P S 2 l m) m (sp_co k P S 2 (sp_dg N l m) l) (sp_be k P S (sp_dg N l m) l) = y at a2
      cases y with
      | none => exact ⟨by rw [b2 83 (by decide)]; exact a2.1, by rw [b2 83 (by decide)]; exact a2.2.1, by rw [b2 83 (by decide)]; exact a2.2.2⟩
      | some y => exact ⟨by rw [b2 83 (by decide)]; exact a2.1, by rw [b2 83 (by decide)]; exact a2.2.1, by rw [b2 83 (by decide)]; exact a2.2.2⟩
  intro d
  induction d with
  | zero =>
    intro m f H h hf h1 h2 h3 h4
    obtain ⟨f, rfl⟩ : ∃ m, f = m + 1 := ⟨f - 1, by omega⟩
    obtain ⟨b, J, e1, e2, e3, e4, e5⟩ := body m f H (by omega) h1 h2 h3 h4
    rcases e5 with ⟨rfl, e5, _⟩ | ⟨rfl, e5⟩
    · omega
    · rw [e1, if_pos rfl]
      rw [e5] at e3
      exact ⟨J, rfl, e3, e2, e4⟩
  | succ d ih =>
    intro m f H h hf h1 h2 h3 h4
    obtain ⟨f, rfl⟩ : ∃ m, f = m + 1 := ⟨f - 1, by omega⟩
    obtain ⟨b, J, e1, e2, e3, e4, e5⟩ := body m f H (by omega) h1 h2 h3 h4
    rcases e5 with ⟨rfl, e5, e6⟩ | ⟨rfl, e5⟩
    · rw [e1, if_neg (show ¬ (1 : Int32) = 0 by decide)]
      exact ih (m + 1) f J (by omega) (by omega) e6 e2 e3 e4
    · omega
def sp_cf (F : mmS) : Prop := F 30 4 = 0 ∧ F 34 4 = 1 ∧ F 27 4 = 1 ∧ F 87 4 = 0 ∧ (∃ T U, sp_pr 19 20 T U ∧ F 17 7 = nI T ∧ F 17 8 = nI U) ∧ (∃ T U, sp_pr 93 94 T U ∧ F 91 7 = nI T ∧ F 91 8 = nI U)
theorem skC {N k G l r : Nat} {P S : Nat → Nat} {F : mmS} (hn : sp_num N k G P S) (hl : sp_lc N k G P S F) (hr : r ≤ 2) (hl1 : 1 ≤ l) (hl3 : l ≤ 3) (hcf : sp_cf F) : ∃ F1, m_X10_seek_83 F (nI r) (nI l) = some F1 ∧ sp_cS (sp_sk N k P S r l (sp_pw N l)) F1 ∧ sp_fr 83 97 F F1 ∧ sp_cf F1 := by
  have hN := hn.2.1
  have hN1 := hn.1
  have hk3 := hn.2.2.2.1
  have hp := sp_pw_le (l := l) hN
  have hp1 := sp_pw_pos (l := l) hN1
  obtain ⟨c30, c34, c27, c87, c17, ⟨T, U, hpr, c7, c8⟩⟩ := hcf
  have stp : ∀ n s H, s < 3 → m_X10_seek_83_L17 (n + 1) (nI s) H = m_X10_seek_83_L17 n (nI (s + 1)) (stF H 84 s 0) := by
    intro n s H hs
    rw [m_X10_seek_83_L17, if_neg (show ¬ (3 : Int32) ≤ nI s from nI_ge (b := 3) hs (by omega)), zi_wr (q := 84) s rfl (show s < 3 from hs), zb_some, zb_mlet, nI_1]
  generalize hA : stF (stF (stF F 83 4 (-1)) 83 5 0) 83 6 0 = A
  have e17 : m_X10_seek_83_L17 300 (0 : Int32) A = some (stF (stF (stF A 84 0 0) 84 1 0) 84 2 0) := by
    rw [show m_X10_seek_83_L17 300 (0 : Int32) A = m_X10_seek_83_L17 300 (nI 0) A from rfl, stp 299 0 _ (by omega), stp 298 1 _ (by omega), stp 297 2 _ (by omega), m_X10_seek_83_L17]
    rfl
  generalize hB : stF (stF (stF A 84 0 0) 84 1 0) 84 2 0 = B at e17
  have fB : sp_fr 83 85 F B := by
    rw [← hB, ← hA]
    exact sp_fr_tr (sp_fr_tr (sp_fr_tr (sp_fr_tr (sp_fr_tr (sp_fr_st _ _ _ (by omega) (by omega)) (sp_fr_st _ _ _ (by omega) (by omega))) (sp_fr_st _ _ _ (by omega) (by omega))) (sp_fr_st _ _ _ (by omega) (by omega))) (sp_fr_st _ _ _ (by omega) (by omega))) (sp_fr_st _ _ _ (by omega) (by omega))
  have dB : ∀ t, t < 3 → B 84 t = 0 := by
    intro t ht
    rw [← hB]
    rcases (by omega : t = 0 ∨ t = 1 ∨ t = 2) with rfl | rfl | rfl
    · rw [st_ne _ _ (by omega), st_ne _ _ (by omega), st_self]
    · rw [st_ne _ _ (by omega), st_self]
    · rw [st_self]
  have dg0 : ∀ t, t < l → (0 : Int32) = nI (sp_dg N l 0 t) := by
    intro t ht
    unfold sp_dg sp_de
    rw [Nat.zero_mod, Nat.zero_div, Nat.zero_mod, Nat.zero_div, Nat.zero_mod]
    split
    · rfl
    · split <;> rfl
  have e83 : B 83 4 = -1 ∧ B 83 5 = nI 0 ∧ B 83 6 = nI 0 := by
    rw [← hB, st_cell _ _ _ (by decide), st_cell _ _ _ (by decide), st_cell _ _ _ (by decide), ← hA]
    refine ⟨?_, ?_, ?_⟩
    · rw [st_ne _ _ (by omega), st_ne _ _ (by omega), st_self]
    · rw [st_ne _ _ (by omega), st_self]; rfl
    · rw [st_self]; rfl
  have lB := sp_fr_lc fB (by decide) hl
  have kB : sp_kb B := ⟨by rw [fB 87 (by omega)]; exact c87, T, U, hpr, by rw [fB 91 (by omega)]; exact c7, by rw [fB 91 (by omega)]; exact c8⟩
  have fin : ∀ F1, sp_fr 83 97 F F1 → sp_kb F1 → sp_cf F1 := by
    intro F1 hf hk
    refine ⟨by rw [hf 30 (by omega)]; exact c30, by rw [hf 34 (by omega)]; exact c34, by rw [hf 27 (by omega)]; exact c27, hk.1, ?_, hk.2⟩
    rw [hf 17 (by omega)]
    exact c17
  unfold m_X10_seek_83
  rw [zb_mlet, zb_mlet, zb_mlet, hA, e17, zb_bd1]
  rcases (by omega : r = 0 ∨ r = 1 ∨ r = 2) with rfl | rfl | rfl
  · have hrl : rld 86 (nI 0) = some 87 := pb_rld (q := 86) (n := 0) (by decide) (by decide)
    rw [hrl, zb_some, if_pos rfl]
    obtain ⟨C, a1, a2, a3⟩ := sas_87 hn lB
    have fC : sp_fr 83 97 F C := sp_fr_tr (sp_fr_up fB (by omega) (by omega)) (sp_fr_up a3.2 (by omega) (by omega))
    rw [show m_X7_begin_87 B = some C by unfold m_X7_begin_87; rw [a1, zb_some], zb_some]
    have k0 : sp_k87 N k P S C := sp_kb_fr kB (a3.1 4 (by decide) (by decide)) (a3.2 91 (by omega))
    obtain ⟨F1, b1, b2, b3, b4⟩ := skl_87 hn hl hl1 hl3 (sp_pw N l - 1) 0 300 C (by omega) (by omega) (fun t ht => by rw [a3.2 84 (by omega), dB t (by omega)]; exact dg0 t ht) k0 (show C 83 4 = -1 ∧ C 83 5 = nI 0 ∧ C 83 6 = nI 0 by rw [a3.2 83 (by omega)]; exact e83) fC
    rw [show m_X10_seek_83_L46 (nI 0) (nI l) 300 (0 : Int32) C = some (.inr F1) from b1, zb_E1r]
    exact ⟨F1, rfl, b2, b4, fin F1 b4 b3⟩
  · have hrl : rld 86 (nI 1) = some 89 := pb_rld (q := 86) (n := 1) (by decide) (by decide)
    rw [hrl, zb_some, if_neg (show ¬ (89 : Nat) = 87 by decide), if_pos rfl]
    obtain ⟨C, a1, a2, a3⟩ := sas_89 hn lB
    have fC : sp_fr 83 97 F C := sp_fr_tr (sp_fr_up fB (by omega) (by omega)) (sp_fr_up a3.2 (by omega) (by omega))
    rw [show m_X7_begin_89 B = some C by unfold m_X7_begin_89; rw [a1, zb_some], zb_some]
    have k0 : sp_k89 N k P S C := sp_kb_fr kB (by rw [a3.2 87 (by omega)]) (a3.2 91 (by omega))
    obtain ⟨F1, b1, b2, b3, b4⟩ := skl_89 hn hl hl1 hl3 (sp_pw N l - 1) 0 300 C (by omega) (by omega) (fun t ht => by rw [a3.2 84 (by omega), dB t (by omega)]; exact dg0 t ht) k0 (show C 83 4 = -1 ∧ C 83 5 = nI 0 ∧ C 83 6 = nI 0 by rw [a3.2 83 (by omega)]; exact e83) fC
    rw [show m_X10_seek_83_L46002 (nI 1) (nI l) 300 (0 : Int32) C = some (.inr F1) from b1, zb_E1r]
    exact ⟨F1, rfl, b2, b4, fin F1 b4 b3⟩
  · have hrl : rld 86 (nI 2) = some 91 := pb_rld (q := 86) (n := 2) (by decide) (by decide)
    rw [hrl, zb_some, if_neg (show ¬ (91 : Nat) = 87 by decide), if_neg (show ¬ (91 : Nat) = 89 by decide), if_pos rfl]
    obtain ⟨C, a1, a2, a3, a4, a5⟩ := wbg_91 (rp := fun _ => 0) hn lB hpr (by rw [fB 91 (by omega)]; exact c7) (by rw [fB 91 (by omega)]; exact c8)
    have fC : sp_fr 83 97 F C := sp_fr_tr (sp_fr_up fB (by omega) (by omega)) (sp_fr_up a5 (by omega) (by omega))
    rw [a1, zb_some]
    have k0 : sp_k91 N k P S C := ⟨by rw [a5 87 (by omega), fB 87 (by omega)]; exact c87, a2.2.2.2.2.1⟩
    obtain ⟨F1, b1, b2, b3, b4⟩ := skl_91 hn hl hl1 hl3 (sp_pw N l - 1) 0 300 C (by omega) (by omega) (fun t ht => by rw [a5 84 (by omega), dB t (by omega)]; exact dg0 t ht) k0 (show C 83 4 = -1 ∧ C 83 5 = nI 0 ∧ C 83 6 = nI 0 by rw [a5 83 (by omega)]; exact e83) fC
    rw [show m_X10_seek_83_L46003 (nI 2) (nI l) 300 (0 : Int32) C = some (.inr F1) from b1, zb_E1r]
    obtain ⟨k1, T', U', k2, k3, k4, -⟩ := b3
    exact ⟨F1, rfl, b2, b4, fin F1 b4 ⟨k1, T', U', k2, k3, k4⟩⟩
