/-! PURE: the reference's rules 0, 1 and 3 -/
theorem zb_E0r {γ : Type} (u : Unit) (f : Unit → Option γ) : bdE0 (some (.inr u)) f = f () := by
  have h : bdE0 (some (.inr u)) f = f () := rfl
  exact h
theorem zb_E0l {γ : Type} (x : γ) (f : Unit → Option γ) : bdE0 (some (.inl x)) f = some x := by
  have h : bdE0 (some (.inl x)) f = some x := rfl
  exact h
def sp_or (k : Nat) (a : Nat → Nat) (c : Nat) (g : Int32) (F : mmS) : Prop := (∀ s, s < k → F 103 s = nI (a s)) ∧ F 97 11 = nI c ∧ F 97 12 = g
def sp_fS (F F1 : mmS) : Prop := (∀ c, c ≠ 97 → c ≠ 103 → F1 c = F c) ∧ (∀ i, i ≠ 11 → i ≠ 12 → F1 97 i = F 97 i)
theorem sp_fS_refl (F : mmS) : sp_fS F F := ⟨fun _ _ _ => rfl, fun _ _ _ => rfl⟩
theorem sp_fS_tr {F G H : mmS} (h : sp_fS F G) (h' : sp_fS G H) : sp_fS F H := ⟨fun c a b => (h'.1 c a b).trans (h.1 c a b), fun i a b => (h'.2 i a b).trans (h.2 i a b)⟩
theorem sp_fS_11 (F : mmS) (v : Int32) : sp_fS F (stF F 97 11 v) := ⟨fun c a _ => st_cell F 11 v a, fun i a _ => st_ne F v (fun h => a h.2)⟩
theorem sp_fS_12 (F : mmS) (v : Int32) : sp_fS F (stF F 97 12 v) := ⟨fun c a _ => st_cell F 12 v a, fun i _ b => st_ne F v (fun h => b h.2)⟩
theorem sp_fS_at (F : mmS) (j : Nat) (v : Int32) : sp_fS F (stF F 103 j v) := ⟨fun c _ b => st_cell F j v b, fun i _ _ => st_ne F v (fun h => absurd h.1 (by decide))⟩
theorem sp_fS_lr {N k G : Nat} {P S : Nat → Nat} {F F1 : mmS} (hf : sp_fS F F1) (h : sp_lr N k G P S F) : sp_lr N k G P S F1 := sp_lr_fr h (hf.1 98 (by decide) (by decide)) (hf.1 99 (by decide) (by decide)) (hf.2 0 (by decide) (by decide)) (hf.2 2 (by decide) (by decide)) (hf.2 4 (by decide) (by decide))
def sp_rr (n : Nat) (rp : Nat → Nat) (F : mmS) : Prop := F 97 5 = nI n ∧ ∀ t, t < n → F 100 t = nI (rp t)
theorem sp_fS_rr {n : Nat} {rp : Nat → Nat} {F F1 : mmS} (hf : sp_fS F F1) (h : sp_rr n rp F) : sp_rr n rp F1 := by
  unfold sp_rr at *
  rw [hf.1 100 (by decide) (by decide), hf.2 5 (by decide) (by decide)]
  exact h
def sp_hn (n : Nat) (hh : Nat → Int32) (F : mmS) : Prop := ∀ t, t < n → m_X12_hintAt_97 F (nI t) = some (hh t)
theorem sp_hn_fr {n : Nat} {hh : Nat → Int32} {F F1 : mmS} (h : sp_hn n hh F) (h1 : F1 109 = F 109) (h2 : F1 111 = F 111) (h3 : F1 112 = F 112) (h4 : F1 97 2 = F 97 2) : sp_hn n hh F1 := by
  intro t ht
  have := h t ht
  unfold m_X12_hintAt_97 zld ald at *
  rw [h1, h2, h3, h4]
  exact this
theorem sp_fS_hn {n : Nat} {hh : Nat → Int32} {F F1 : mmS} (hf : sp_fS F F1) (h : sp_hn n hh F) : sp_hn n hh F1 := sp_hn_fr h (hf.1 109 (by decide) (by decide)) (hf.1 111 (by decide) (by decide)) (hf.1 112 (by decide) (by decide)) (hf.2 2 (by decide) (by decide))
theorem staR {N k G : Nat} {P S : Nat → Nat} {F : mmS} (hn : sp_num N k G P S) (hl : sp_lr N k G P S F) : ∃ F1, m_X12_starts_97 F = some F1 ∧ sp_or k (sp_a0 P S) 0 (-1) F1 ∧ sp_fS F F1 := by
  have hk3 := hn.2.2.2.1
  have go : ∀ n s H, s < 3 → sp_lr N k G P S H → ∃ v, m_X12_starts_97_L2 (n + 1) (nI s) H = m_X12_starts_97_L2 n (nI (s + 1)) (stF H 103 s v) ∧ (s < k → v = nI (P (S s))) := by
    intro n s H hs hl
    have h6 : S s < N := hn.2.2.2.2.2.2.2.1 s
    have hN := hn.2.1
    rw [m_X12_starts_97_L2, if_neg (show ¬ (3 : Int32) ≤ nI s from nI_ge (b := 3) hs (by omega)), hl.2.1]
    by_cases q : s < k
    · rw [if_neg (nI_ge q (by omega)), zi_rd s rfl (hl.2.2.2.2.1 s q) (show s < 3 from hs), Option.bind_some, zi_rd (S s) rfl (hl.2.2.2.1 (S s) h6) (show S s < 6 by omega), Option.bind_some]
      refine ⟨nI (P (S s)), ?_, fun _ => rfl⟩
      show Option.bind (ast H 103 (nI s) (nI (P (S s)))) _ = _
      rw [zi_wr (q := 103) s rfl (show s < 3 from hs), Option.bind_some]
      show m_X12_starts_97_L2 n (nI s + 1) _ = _
      rw [nI_1]
    · rw [if_pos (nI_le (by omega) (by omega))]
      refine ⟨0, ?_, fun h => absurd h q⟩
      show Option.bind (ast H 103 (nI s) 0) _ = _
      rw [zi_wr (q := 103) s rfl (show s < 3 from hs), Option.bind_some]
      show m_X12_starts_97_L2 n (nI s + 1) _ = _
      rw [nI_1]
  have keep : ∀ H s v, sp_lr N k G P S H → sp_lr N k G P S (stF H 103 s v) := fun H s v h => sp_fS_lr (sp_fS_at H s v) h
  unfold m_X12_starts_97
  obtain ⟨v0, e0, w0⟩ := go 299 0 F (by omega) hl
  obtain ⟨v1, e1, w1⟩ := go 298 1 (stF F 103 0 v0) (by omega) (keep _ _ _ hl)
  obtain ⟨v2, e2, w2⟩ := go 297 2 (stF (stF F 103 0 v0) 103 1 v1) (by omega) (keep _ _ _ (keep _ _ _ hl))
  rw [show m_X12_starts_97_L2 300 (0 : Int32) F = m_X12_starts_97_L2 300 (nI 0) F from rfl, e0, e1, e2, show m_X12_starts_97_L2 297 (nI (2 + 1)) _ = some _ from by rw [m_X12_starts_97_L2]; rfl]
  refine ⟨_, rfl, ⟨?_, ?_, ?_⟩, ?_⟩
  · intro s hs
    rw [st_cell _ _ _ (by decide), st_cell _ _ _ (by decide)]
    rcases (by omega : s = 0 ∨ s = 1 ∨ s = 2) with rfl | rfl | rfl
    · rw [st_ne _ _ (by omega), st_ne _ _ (by omega), st_self]; exact w0 hs
    · rw [st_ne _ _ (by omega), st_self]; exact w1 hs
    · rw [st_self]; exact w2 hs
  · rw [st_ne _ _ (by omega), st_self]; rfl
  · rw [st_self]
  · exact sp_fS_tr (sp_fS_tr (sp_fS_tr (sp_fS_tr (sp_fS_at _ _ _) (sp_fS_at _ _ _)) (sp_fS_at _ _ _)) (sp_fS_11 _ _)) (sp_fS_12 _ _)
theorem sndR {k c : Nat} {a : Nat → Nat} {g : Int32} {F : mmS} {s x : Nat} (hk3 : k ≤ 3) (ho : sp_or k a c g F) (hs : s < k) (ha : a s ≤ 1000) (hx : x ≤ 1000) : ∃ F1, m_X12_sends_97 F (nI s) (nI x) = some F1 ∧ sp_or k (sp_ua a s x) (c + pd (a s) x) (nI s) F1 ∧ sp_fS F F1 := by
  unfold m_X12_sends_97
  rw [zi_rd s rfl (ho.1 s hs) (show s < 3 by omega), Option.bind_some, pb_apart (by omega) (by omega), Option.bind_some, ho.2.1, nI_add]
  show ∃ F1, Option.bind (ast _ 103 (nI s) (nI x)) _ = _ ∧ _
  rw [zi_wr (q := 103) s rfl (show s < 3 by omega)]
  refine ⟨_, rfl, ⟨?_, ?_, ?_⟩, ?_⟩
  · intro i hi
    rw [st_cell _ _ _ (by decide)]
    unfold sp_ua
    split
    · subst s; rw [st_self]
    · rw [st_ne _ _ (by omega), st_cell _ _ _ (by decide)]; exact ho.1 i hi
  · rw [st_ne _ _ (by omega), st_cell _ _ _ (by decide), st_self]
  · rw [st_self]
  · exact sp_fS_tr (sp_fS_tr (sp_fS_11 _ _) (sp_fS_at _ _ _)) (sp_fS_12 _ _)
theorem ntoR {k c : Nat} {a : Nat → Nat} {g : Int32} {F : mmS} {x : Nat} (hk : 1 ≤ k) (hk3 : k ≤ 3) (h11 : F 97 2 = nI k) (ho : sp_or k a c g F) (ha : ∀ s, s < k → a s ≤ 1000) (hx : x ≤ 1000) : m_X12_nearest_97 F (nI x) = some (nI (sp_c0 k a x)) := by
  have loop : ∀ d s n, s + d = k → 1 ≤ s → d < n → m_X12_nearest_97_L4 (nI x) F n (nI (sp_am (fun i => pd (a i) x) s)) (nI s) = some (nI (sp_c0 k a x)) := by
    intro d
    induction d with
    | zero =>
      intro s n h h1 hn
      obtain ⟨n, rfl⟩ : ∃ m, n = m + 1 := ⟨n - 1, by omega⟩
      obtain rfl : s = k := by omega
      rw [m_X12_nearest_97_L4, h11, if_pos (nI_le (by omega) (by omega))]
      rfl
    | succ d ih =>
      intro s n h h1 hn
      obtain ⟨n, rfl⟩ : ∃ m, n = m + 1 := ⟨n - 1, by omega⟩
      have hb : sp_am (fun i => pd (a i) x) s < s := sp_am_lt h1
      have e := sp_am_mn (v := fun i => pd (a i) x) h1 (fun i hi => by have := pd_le (ha i (by omega)) hx; show pd _ _ < _; omega)
      have p1 := ha s (by omega)
      have p2 := ha (sp_am (fun i => pd (a i) x) s) (by omega)
      have r1 := pd_le p1 hx
      have r2 := pd_le p2 hx
      rw [m_X12_nearest_97_L4, h11, if_neg (nI_ge (by omega) (by omega)), zi_rd s rfl (ho.1 s (by omega)) (show s < 3 by omega), Option.bind_some, pb_apart (by omega) (by omega), Option.bind_some, zi_rd (sp_am (fun i => pd (a i) x) s) rfl (ho.1 _ (by omega)) (show _ < 3 by omega), Option.bind_some, pb_apart (by omega) (by omega), Option.bind_some]
      have hv := ih (s + 1) n (by omega) (by omega) (by omega)
      have hd : sp_am (fun i => pd (a i) x) (s + 1) = if pd (a s) x < sp_mn (fun i => pd (a i) x) s then s else sp_am (fun i => pd (a i) x) s := rfl
      rw [hd, ← e] at hv
      by_cases q : pd (a s) x < pd (a (sp_am (fun i => pd (a i) x) s)) x
      · rw [if_neg (nI_ge q (by omega))]
        rw [if_pos q] at hv
        show m_X12_nearest_97_L4 (nI x) F n (nI s) (nI s + 1) = _
        rw [nI_1]
        exact hv
      · rw [if_pos (nI_le (by omega) (by omega))]
        rw [if_neg q] at hv
        show m_X12_nearest_97_L4 (nI x) F n _ (nI s + 1) = _
        rw [nI_1]
        exact hv
  unfold m_X12_nearest_97
  have h := loop (k - 1) 1 300 (by omega) (by omega) (by omega)
  rw [sp_am1] at h
  rw [show m_X12_nearest_97_L4 (nI x) F 300 (0 : Int32) (1 : Int32) = m_X12_nearest_97_L4 (nI x) F 300 (nI 0) (nI 1) from rfl, h]
  rfl
theorem bloR {k c : Nat} {a : Nat → Nat} {g : Int32} {F : mmS} {x : Nat} (hk3 : k ≤ 3) (h11 : F 97 2 = nI k) (ho : sp_or k a c g F) (ha : ∀ s, s < k → a s ≤ 1000) (hx : x ≤ 1000) : m_X12_nearestOn_97 F (nI x) 1 = some (sp_oI (sp_lo a x k)) := by
  have loop : ∀ d s n, s + d = k → d < n → m_X12_nearestOn_97_L5 (nI x) 1 F n (sp_oI (sp_lo a x s)) (nI s) = some (sp_oI (sp_lo a x k)) := by
    intro d
    induction d with
    | zero =>
      intro s n h hn
      obtain ⟨n, rfl⟩ : ∃ m, n = m + 1 := ⟨n - 1, by omega⟩
      obtain rfl : s = k := by omega
      rw [m_X12_nearestOn_97_L5, h11, if_pos (nI_le (by omega) (by omega))]
    | succ d ih =>
      intro s n h hn
      obtain ⟨n, rfl⟩ : ∃ m, n = m + 1 := ⟨n - 1, by omega⟩
      have p1 := ha s (by omega)
      have hv := ih (s + 1) n (by omega) (by omega)
      rw [sp_lo] at hv
      rw [m_X12_nearestOn_97_L5, h11, if_neg (nI_ge (by omega) (by omega)), if_neg (show ¬ (1 : Int32) = 0 by decide), zi_rd s rfl (ho.1 s (by omega)) (show s < 3 by omega), Option.bind_some]
      rw [← nI_1] at hv
      by_cases q : a s < x
      · rw [if_neg (nI_ge q (by omega))]
        cases hb : sp_lo a x s with
        | none =>
          rw [hb] at hv
          simp only [if_pos q] at hv
          exact hv
        | some b =>
          rw [hb] at hv
          have hb2 := sp_lo_some hb
          have p2 := ha b (by omega)
          rw [zb_bd1, if_neg (show ¬ (1 : Int32) = 0 by decide), if_neg (show ¬ sp_oI (some b) = -1 from zi_m1 (by omega)), Option.bind_some, pb_apart (by omega) (by omega), Option.bind_some, zi_rd b (show sp_oI (some b) = nI b from rfl) (ho.1 b (by omega)) (show b < 3 by omega), Option.bind_some, pb_apart (by omega) (by omega), Option.bind_some]
          by_cases q2 : a b < a s
          · rw [if_neg (nI_ge (show pd (a s) x < pd (a b) x by unfold pd; omega) (by unfold pd; omega))]
            simp only [if_pos (And.intro q q2)] at hv
            exact hv
          · rw [if_pos (nI_le (show pd (a b) x ≤ pd (a s) x by unfold pd; omega) (by unfold pd; omega))]
            simp only [if_neg (fun hq : a s < x ∧ a b < a s => q2 hq.2)] at hv
            exact hv
      · rw [if_pos (nI_le (by omega) (by omega))]
        cases hb : sp_lo a x s with
        | none =>
          rw [hb] at hv
          simp only [if_neg q] at hv
          exact hv
        | some b =>
          rw [hb] at hv
          simp only [if_neg (fun hq : a s < x ∧ a b < a s => q hq.1)] at hv
          exact hv
  unfold m_X12_nearestOn_97
  rw [show m_X12_nearestOn_97_L5 (nI x) 1 F 300 (-1 : Int32) (0 : Int32) = m_X12_nearestOn_97_L5 (nI x) 1 F 300 (sp_oI (sp_lo a x 0)) (nI 0) from rfl, loop k 0 300 (by omega) (by omega)]
  rfl
theorem bhiR {k c : Nat} {a : Nat → Nat} {g : Int32} {F : mmS} {x : Nat} (hk3 : k ≤ 3) (h11 : F 97 2 = nI k) (ho : sp_or k a c g F) (ha : ∀ s, s < k → a s ≤ 1000) (hx : x ≤ 1000) : m_X12_nearestOn_97 F (nI x) 0 = some (sp_oI (sp_hi a x k)) := by
  have loop : ∀ d s n, s + d = k → d < n → m_X12_nearestOn_97_L5 (nI x) 0 F n (sp_oI (sp_hi a x s)) (nI s) = some (sp_oI (sp_hi a x k)) := by
    intro d
    induction d with
    | zero =>
      intro s n h hn
      obtain ⟨n, rfl⟩ : ∃ m, n = m + 1 := ⟨n - 1, by omega⟩
      obtain rfl : s = k := by omega
      rw [m_X12_nearestOn_97_L5, h11, if_pos (nI_le (by omega) (by omega))]
    | succ d ih =>
      intro s n h hn
      obtain ⟨n, rfl⟩ : ∃ m, n = m + 1 := ⟨n - 1, by omega⟩
      have p1 := ha s (by omega)
      have hv := ih (s + 1) n (by omega) (by omega)
      rw [sp_hi] at hv
      rw [m_X12_nearestOn_97_L5, h11, if_neg (nI_ge (by omega) (by omega)), if_pos rfl, zi_rd s rfl (ho.1 s (by omega)) (show s < 3 by omega), Option.bind_some]
      rw [← nI_1] at hv
      by_cases q : x < a s
      · rw [if_neg (nI_ge q (by omega))]
        cases hb : sp_hi a x s with
        | none =>
          rw [hb] at hv
          simp only [if_pos q] at hv
          exact hv
        | some b =>
          rw [hb] at hv
          have hb2 := sp_hi_some hb
          have p2 := ha b (by omega)
          rw [zb_bd1, if_neg (show ¬ (1 : Int32) = 0 by decide), if_neg (show ¬ sp_oI (some b) = -1 from zi_m1 (by omega)), Option.bind_some, pb_apart (by omega) (by omega), Option.bind_some, zi_rd b (show sp_oI (some b) = nI b from rfl) (ho.1 b (by omega)) (show b < 3 by omega), Option.bind_some, pb_apart (by omega) (by omega), Option.bind_some]
          by_cases q2 : a s < a b
          · rw [if_neg (nI_ge (show pd (a s) x < pd (a b) x by unfold pd; omega) (by unfold pd; omega))]
            simp only [if_pos (And.intro q q2)] at hv
            exact hv
          · rw [if_pos (nI_le (show pd (a b) x ≤ pd (a s) x by unfold pd; omega) (by unfold pd; omega))]
            simp only [if_neg (fun hq : x < a s ∧ a s < a b => q2 hq.2)] at hv
            exact hv
      · rw [if_pos (nI_le (by omega) (by omega))]
        cases hb : sp_hi a x s with
        | none =>
          rw [hb] at hv
          simp only [if_neg q] at hv
          exact hv
        | some b =>
          rw [hb] at hv
          simp only [if_neg (fun hq : x < a s ∧ a s < a b => q hq.1)] at hv
          exact hv
  unfold m_X12_nearestOn_97
  rw [show m_X12_nearestOn_97_L5 (nI x) 0 F 300 (-1 : Int32) (0 : Int32) = m_X12_nearestOn_97_L5 (nI x) 0 F 300 (sp_oI (sp_hi a x 0)) (nI 0) from rfl, loop k 0 300 (by omega) (by omega)]
  rfl
theorem bothR {k c : Nat} {a : Nat → Nat} {g : Int32} {F : mmS} {x : Nat} (hk : 1 ≤ k) (hk3 : k ≤ 3) (h11 : F 97 2 = nI k) (ho : sp_or k a c g F) (ha : ∀ s, s < k → a s ≤ 1000) (hx : x ≤ 1000) : ∃ F1 g1, m_X12_both_97 F (nI x) = some F1 ∧ sp_or k (sp_bo k a x).1 (c + (sp_bo k a x).2) g1 F1 ∧ sp_fS F F1 := by
  have loop : ∀ d s n, s + d = k → d < n → m_X12_both_97_L2 (nI x) F n (nI s) = some (if sp_sv a x d s = true then .inl F else .inr ()) := by
    intro d
    induction d with
    | zero =>
      intro s n h hn
      obtain ⟨n, rfl⟩ : ∃ m, n = m + 1 := ⟨n - 1, by omega⟩
      rw [m_X12_both_97_L2, h11, if_pos (nI_le (by omega) (by omega))]
      rfl
    | succ d ih =>
      intro s n h hn
      obtain ⟨n, rfl⟩ : ∃ m, n = m + 1 := ⟨n - 1, by omega⟩
      have p1 := ha s (by omega)
      rw [m_X12_both_97_L2, h11, if_neg (nI_ge (by omega) (by omega)), zi_rd s rfl (ho.1 s (by omega)) (show s < 3 by omega), Option.bind_some]
      by_cases q : a s = x
      · rw [if_pos (by rw [q])]
        have : sp_sv a x (d + 1) s = true := by
          show (decide (a s = x) || _) = true
          rw [decide_eq_true q]
          rfl
        rw [if_pos this]
      · rw [if_neg (fun e => q ((nI_eq (by omega) (by omega)).mp e))]
        have : sp_sv a x (d + 1) s = sp_sv a x d (s + 1) := by
          show (decide (a s = x) || _) = _
          rw [decide_eq_false q]
          rfl
        rw [this]
        show m_X12_both_97_L2 (nI x) F n (nI s + 1) = _
        rw [nI_1]
        exact ih (s + 1) n (by omega) (by omega)
  unfold m_X12_both_97
  rw [show m_X12_both_97_L2 (nI x) F 300 (0 : Int32) = m_X12_both_97_L2 (nI x) F 300 (nI 0) from rfl, loop k 0 300 (by omega) (by omega), bloR hk3 h11 ho ha hx, bhiR hk3 h11 ho ha hx]
  unfold sp_bo
  by_cases q : sp_sv a x k 0 = true
  · rw [if_pos q, if_pos q]
    exact ⟨F, g, rfl, ho, sp_fS_refl F⟩
  · rw [if_neg q, if_neg q]
    have nosv := sp_sv_no (Bool.eq_false_iff.mpr q)
    rw [zb_E0r]
    simp only [zb_some]
    cases hb : sp_lo a x k with
    | none =>
      rw [if_pos (show sp_oI none = -1 from rfl), if_pos (show sp_oI none = -1 from rfl)]
      cases ht : sp_hi a x k with
      | none =>
        exfalso
        have h1 := sp_lo_none hb 0 (by omega)
        have h2 := sp_hi_none ht 0 (by omega)
        exact nosv 0 (by omega) (by omega) (by omega)
      | some t =>
        have t2 := sp_hi_some ht
        obtain ⟨F1, h1, h2⟩ := sndR hk3 ho t2.1 (ha _ t2.1) hx
        refine ⟨F1, nI t, ?_, h2⟩
        show Option.bind (m_X12_sends_97 F (nI t) (nI x)) _ = _
        rw [h1]
        rfl
    | some b =>
      have b2 := sp_lo_some hb
      rw [if_neg (show ¬ sp_oI (some b) = -1 from zi_m1 (by omega))]
      cases ht : sp_hi a x k with
      | none =>
        rw [if_pos (show sp_oI none = -1 from rfl), if_neg (show ¬ sp_oI (some b) = -1 from zi_m1 (by omega))]
        obtain ⟨F1, h1, h2⟩ := sndR hk3 ho b2.1 (ha _ b2.1) hx
        refine ⟨F1, nI b, ?_, h2⟩
        show Option.bind (m_X12_sends_97 F (nI b) (nI x)) _ = _
        rw [h1]
        rfl
      | some t =>
        have t2 := sp_hi_some ht
        have pb := ha b b2.1
        have pt := ha t t2.1
        rw [if_neg (show ¬ sp_oI (some t) = -1 from zi_m1 (by omega))]
        simp only [show sp_oI (some b) = nI b from rfl, show sp_oI (some t) = nI t from rfl]
        rw [zi_rd b rfl (ho.1 b b2.1) (show b < 3 by omega), Option.bind_some, zi_rd t rfl (ho.1 t t2.1) (show t < 3 by omega), Option.bind_some, pk_sub (by omega), pk_sub (by omega)]
        have em : (if nI (a t - x) ≤ nI (x - a b) then Option.bind (some (nI (a t))) (fun x11 => some (x11 - nI x)) else Option.bind (some (nI (a b))) (fun x12 => some (nI x - x12))) = some (nI (min (x - a b) (a t - x))) := by
          simp only [Option.bind_some]
          rw [pk_sub (by omega), pk_sub (by omega), zi_ifle (by omega) (by omega), Nat.min_comm]
        rw [em]
        rw [zb_bd1, Option.bind_some, nI_add]
        obtain ⟨F1, h1, h2, h3⟩ := sndR (x := a b + min (x - a b) (a t - x)) hk3 ho b2.1 pb (by omega)
        rw [h1, Option.bind_some]
        have et : sp_ua a b (a b + min (x - a b) (a t - x)) t = a t := sp_ua_n _ _ (by intro e; subst e; omega)
        rw [zi_rd t rfl (h2.1 t t2.1) (show t < 3 by omega), Option.bind_some, et, pk_sub (by omega)]
        obtain ⟨F2, h4, h5, h6⟩ := sndR (s := t) (x := a t - min (x - a b) (a t - x)) hk3 h2 t2.1 (by rw [et]; exact pt) (by omega)
        rw [h4, Option.bind_some]
        refine ⟨F2, nI t, rfl, ?_, sp_fS_tr h3 h6⟩
        rw [et] at h5
        have e1 : pd (a b) (a b + min (x - a b) (a t - x)) = min (x - a b) (a t - x) := by unfold pd; omega
        have e2 : pd (a t) (a t - min (x - a b) (a t - x)) = min (x - a b) (a t - x) := by unfold pd; omega
        rw [e1, e2, Nat.add_assoc] at h5
        exact h5
theorem go0R {N k G c n t : Nat} {P S a rp : Nat → Nat} {g : Int32} {F : mmS} (hn : sp_num N k G P S) (hl : sp_lr N k G P S F) (hr : sp_rr n rp F) (ht : t < n) (hn40 : n ≤ 40) (hrp : rp t < N) (ho : sp_or k a c g F) (ha : ∀ s, s < k → a s ≤ 1000) : ∃ F1, m_X12_goesOn_97 F 0 (nI t) = some F1 ∧ sp_or k (sp_t0 k P rp t a).1 (c + (sp_t0 k P rp t a).2.1) (sp_t0 k P rp t a).2.2 F1 ∧ sp_fS F F1 := by
  have hx := hn.2.2.2.2.2.2.1 (rp t)
  have hN := hn.2.1
  unfold m_X12_goesOn_97
  rw [zi_rd t rfl (hr.2 t ht) (show t < 40 by omega), Option.bind_some, zi_rd (rp t) rfl (hl.2.2.2.1 _ hrp) (show rp t < 6 by omega), Option.bind_some, if_pos rfl, ntoR hn.2.2.1 hn.2.2.2.1 hl.2.1 ho ha hx, Option.bind_some]
  obtain ⟨F1, h1, h2⟩ := sndR hn.2.2.2.1 ho (sp_c0_lt (a := a) (x := P (rp t)) hn.2.2.1) (ha _ (sp_c0_lt hn.2.2.1)) hx
  rw [h1]
  exact ⟨F1, rfl, h2⟩
theorem go1R {N k G c n t : Nat} {P S a rp : Nat → Nat} {g : Int32} {F : mmS} (hn : sp_num N k G P S) (hl : sp_lr N k G P S F) (hr : sp_rr n rp F) (ht : t < n) (hn40 : n ≤ 40) (hrp : rp t < N) (ho : sp_or k a c g F) (ha : ∀ s, s < k → a s ≤ 1000) : ∃ F1 g1, m_X12_goesOn_97 F 1 (nI t) = some F1 ∧ sp_or k (sp_t1 k P rp t a).1 (c + (sp_t1 k P rp t a).2.1) g1 F1 ∧ sp_fS F F1 := by
  have hx := hn.2.2.2.2.2.2.1 (rp t)
  have hN := hn.2.1
  unfold m_X12_goesOn_97
  rw [zi_rd t rfl (hr.2 t ht) (show t < 40 by omega), Option.bind_some, zi_rd (rp t) rfl (hl.2.2.2.1 _ hrp) (show rp t < 6 by omega), Option.bind_some, if_neg (show ¬ (1 : Int32) = 0 by decide), if_pos rfl]
  obtain ⟨F1, g1, h1, h2⟩ := bothR hn.2.2.1 hn.2.2.2.1 hl.2.1 ho ha hx
  rw [h1]
  exact ⟨F1, g1, rfl, h2⟩
theorem go3R {N k G c n t : Nat} {P S a rp : Nat → Nat} {hh : Nat → Int32} {g : Int32} {F : mmS} (hn : sp_num N k G P S) (hl : sp_lr N k G P S F) (hr : sp_rr n rp F) (hq : sp_hn n hh F) (ht : t < n) (hn40 : n ≤ 40) (hrp : rp t < N) (hhh : hh t = -1 ∨ ∃ j, j < k ∧ hh t = nI j) (ho : sp_or k a c g F) (ha : ∀ s, s < k → a s ≤ 1000) : ∃ F1, m_X12_goesOn_97 F 3 (nI t) = some F1 ∧ sp_or k (sp_t3 k P rp hh t a).1 (c + (sp_t3 k P rp hh t a).2.1) (sp_t3 k P rp hh t a).2.2 F1 ∧ sp_fS F F1 := by
  have hx := hn.2.2.2.2.2.2.1 (rp t)
  have hN := hn.2.1
  have hk3 := hn.2.2.2.1
  unfold m_X12_goesOn_97
  rw [zi_rd t rfl (hr.2 t ht) (show t < 40 by omega), Option.bind_some, zi_rd (rp t) rfl (hl.2.2.2.1 _ hrp) (show rp t < 6 by omega), Option.bind_some, if_neg (show ¬ (3 : Int32) = 0 by decide), if_neg (show ¬ (3 : Int32) = 1 by decide), if_neg (show ¬ (3 : Int32) = 2 by decide), hq t ht, Option.bind_some]
  have hlt := sp_c3_lt (a := a) (x := P (rp t)) hn.2.2.1 hn.2.2.2.1 hhh
  obtain ⟨F1, h1, h2⟩ := sndR hk3 ho hlt (ha _ hlt) hx
  refine ⟨F1, ?_, h2⟩
  have e : (if hh t = -1 then (Option.bind (m_X12_nearest_97 F (nI (P (rp t)))) fun x4 => some (x4)) else (some (hh t))) = some (nI (sp_c3 k a (P (rp t)) (hh t))) := by
    unfold sp_c3
    split
    · rw [ntoR hn.2.2.1 hn.2.2.2.1 hl.2.1 ho ha hx]; rfl
    · rcases hhh with q | ⟨j, hj, q⟩
      · contradiction
      · rw [q, nI_clamp (by omega)]
  rw [e]
  show Option.bind (m_X12_sends_97 F (nI (sp_c3 k a (P (rp t)) (hh t))) (nI (P (rp t)))) _ = _
  rw [h1]
  rfl
/-- the run of a rule -/
theorem runl_R (Z : Nat → mmS → Prop) {n t : Nat} (r : Int32) (hn : n ≤ 40) (ht : t ≤ 40) (h5 : ∀ u F, Z u F → F 97 5 = nI n) (hs : ∀ u F, u < n → Z u F → ∃ F1, m_X12_goesOn_97 F r (nI u) = some F1 ∧ Z (u + 1) F1) : ∀ d u f F, u + d = min t n → d < f → Z u F → ∃ F1, m_X12_runs_97_L15 r (nI t) f (nI u) F = some F1 ∧ Z (min t n) F1 := by
  have first : ∀ F, F 97 5 = nI n → m_X12_first_97 F (nI t) = some (nI (min t n)) := by
    intro F h
    unfold m_X12_first_97
    rw [h, zi_ifle (by omega) (by omega), Nat.min_comm]
  intro d
  induction d with
  | zero =>
    intro u f F h hf hz
    obtain ⟨f, rfl⟩ : ∃ m, f = m + 1 := ⟨f - 1, by omega⟩
    obtain rfl : u = min t n := by omega
    rw [m_X12_runs_97_L15, first F (h5 _ F hz), Option.bind_some, if_pos (nI_le (by omega) (by omega))]
    exact ⟨F, rfl, hz⟩
  | succ d ih =>
    intro u f F h hf hz
    obtain ⟨f, rfl⟩ : ∃ m, f = m + 1 := ⟨f - 1, by omega⟩
    obtain ⟨F1, h1, h2⟩ := hs u F (by omega) hz
    rw [m_X12_runs_97_L15, first F (h5 _ F hz), Option.bind_some, if_neg (nI_ge (by omega) (by omega)), h1, Option.bind_some]
    show ∃ F1', m_X12_runs_97_L15 r (nI t) f (nI u + 1) F1 = some F1' ∧ _
    rw [nI_1]
    exact ih (u + 1) f F1 (by omega) (by omega) h2
theorem run_R (Z : Nat → mmS → Prop) {n t : Nat} {F F0 : mmS} (r : Int32) (hn : n ≤ 40) (ht : t ≤ 40) (hr2 : ¬ r = 2) (hb : m_X12_starts_97 F = some F0) (hz : Z 0 F0) (h5 : ∀ u F, Z u F → F 97 5 = nI n) (hs : ∀ u F, u < n → Z u F → ∃ F1, m_X12_goesOn_97 F r (nI u) = some F1 ∧ Z (u + 1) F1) : ∃ F1, m_X12_runs_97 F r (nI t) = some F1 ∧ Z (min t n) F1 := by
  unfold m_X12_runs_97
  rw [hb, Option.bind_some, if_neg hr2]
  obtain ⟨F1, h1, h2⟩ := runl_R Z r hn ht h5 hs (min t n) 0 300 F0 (by omega) (by omega) hz
  refine ⟨F1, ?_, h2⟩
  show bd1 (m_X12_runs_97_L15 r (nI t) 300 (nI 0) F0) _ = _
  rw [h1]
  rfl
