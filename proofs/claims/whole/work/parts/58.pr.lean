/-! PURE: the reference's plans -/
def sp_rt (N k : Nat) (P rp : Nat → Nat) (n t : Nat) (F : mmS) : Prop := ∀ c, sp_vl N k c → F 101 (216 * t + c) = nI (sp_fC (sp_VT k P rp n t) c)
theorem sp_mn_far {v : Nat → Nat} {k : Nat} (hk : 1 ≤ k) (h : v 0 ≤ 1000000000) : min 1000000000 (sp_mn v k) = sp_mn v k := by
  have := sp_mn_le (v := v) hk
  omega
theorem prl {N k G n t : Nat} {P S rp : Nat → Nat} {F : mmS} {c : Nat} (hn : sp_num N k G P S) (hl : sp_lr N k G P S F) (hr : sp_rr n rp F) (hn40 : n ≤ 40) (hrp : ∀ t, t < n → rp t < N) (ht : t < n) (hT : sp_rt N k P rp n (t + 1) F) (hc : c < 216) : ∃ y, m_X12_plans_97_L57 (nI t) (nI c) F 300 1000000000 0 = some y ∧ (sp_vl N k c → y = nI (sp_fC (sp_VT k P rp n t) c)) := by
  have hN := hn.2.1
  have hk3 := hn.2.2.2.1
  have hk1 := hn.2.2.1
  have hP := hn.2.2.2.2.2.2.1
  obtain ⟨b, hb1, hb2⟩ := zi_isS hn hl hc
  rcases hb2 with ⟨hv, rfl⟩ | ⟨hv, rfl⟩
  · have loop : ∀ d s f, s + d = k → d < f → m_X12_plans_97_L57 (nI t) (nI c) F f (nI (min 1000000000 (sp_mn (sp_wv P (sp_VT k P rp n (t + 1)) c (rp t)) s))) (nI s) = some (nI (min 1000000000 (sp_mn (sp_wv P (sp_VT k P rp n (t + 1)) c (rp t)) k))) := by
      intro d
      induction d with
      | zero =>
        intro s f h hf
        obtain ⟨f, rfl⟩ : ∃ m, f = m + 1 := ⟨f - 1, by omega⟩
        obtain rfl : s = k := by omega
        rw [m_X12_plans_97_L57, hl.2.1, if_pos (nI_le (by omega) (by omega))]
      | succ d ih =>
        intro s f h hf
        obtain ⟨f, rfl⟩ : ∃ m, f = m + 1 := ⟨f - 1, by omega⟩
        have hm := sp_vl_mv hN hv (hrp t ht) (show s < k by omega) hk3
        have w1 := sp_wv_le (c := c) (p := rp t) (s := s) hP (sp_VT_le (rp := rp) hk1 hP hn40 (t + 1))
        rw [m_X12_plans_97_L57, hl.2.1, if_neg (nI_ge (by omega) (by omega)), hb1, zb_some, if_neg (show ¬ (1 : Int32) = 0 by decide), zi_rd t rfl (hr.2 t ht) (show t < 40 by omega), zb_some, zi_wayR hn hl hv (hrp t ht) (by omega), zb_some, zb_some, zi_mvR hc (by have := hrp t ht; omega) (by omega), zb_some]
        rw [show ((216 : Int32) * (nI t + 1)) + nI (sp_mv c s (rp t)) = nI (216 * (t + 1) + sp_mv c s (rp t)) by rw [nI_1, show (216 : Int32) = nI 216 from rfl, pk_mul, nI_add], zi_rd (216 * (t + 1) + sp_mv c s (rp t)) rfl (hT _ hm) (show _ < 8856 by have := hm.1; omega), zb_some, zb_mlet, nI_add]
        have e : pd (P (sp_po c s)) (P (rp t)) + sp_fC (sp_VT k P rp n (t + 1)) (sp_mv c s (rp t)) = sp_wv P (sp_VT k P rp n (t + 1)) c (rp t) s := Nat.add_comm _ _
        rw [e, zi_ifle (by omega) (by omega), zb_bd1, zb_mlet, nI_1]
        have em : sp_mn (sp_wv P (sp_VT k P rp n (t + 1)) c (rp t)) (s + 1) = min (sp_mn (sp_wv P (sp_VT k P rp n (t + 1)) c (rp t)) s) (sp_wv P (sp_VT k P rp n (t + 1)) c (rp t) s) := rfl
        have := ih (s + 1) f (by omega) (by omega)
        rw [em, ← Nat.min_assoc] at this
        exact this
    refine ⟨_, loop k 0 300 (by omega) (by omega), fun _ => ?_⟩
    · rw [sp_mn_far hk1 (by have := sp_wv_le (c := c) (p := rp t) (s := 0) hP (sp_VT_le (rp := rp) hk1 hP hn40 (t + 1)); omega), sp_VT_t ht, sp_fC_st hk3 hc (by have := hrp t ht; omega)]
  · refine ⟨1000000000, ?_, fun h => absurd h hv⟩
    rw [m_X12_plans_97_L57, hl.2.1, if_neg (show ¬ nI k ≤ (0 : Int32) from nI_ge (a := 0) (by omega) (by omega)), hb1, zb_some, if_pos rfl]
theorem prs {N k G n t : Nat} {P S rp : Nat → Nat} {F : mmS} (hn : sp_num N k G P S) (hl : sp_lr N k G P S F) (hr : sp_rr n rp F) (hn40 : n ≤ 40) (hrp : ∀ t, t < n → rp t < N) (ht : t < n) (hT : sp_rt N k P rp n (t + 1) F) : ∃ F1, m_X12_plans_97_L44 (nI t) 300 0 F = some F1 ∧ sp_rt N k P rp n t F1 ∧ (∀ j, 216 * (t + 1) ≤ j → F1 101 j = F 101 j) ∧ (∀ c, c ≠ 101 → F1 c = F c) := by
  have loop : ∀ d c f H, c + d = 216 → d < f → (∀ j, 216 * (t + 1) ≤ j → H 101 j = F 101 j) → (∀ c, c ≠ 101 → H c = F c) → (∀ i, i < c → sp_vl N k i → H 101 (216 * t + i) = nI (sp_fC (sp_VT k P rp n t) i)) → ∃ F1, m_X12_plans_97_L44 (nI t) f (nI c) H = some F1 ∧ sp_rt N k P rp n t F1 ∧ (∀ j, 216 * (t + 1) ≤ j → F1 101 j = F 101 j) ∧ (∀ c, c ≠ 101 → F1 c = F c) := by
    intro d
    induction d with
    | zero =>
      intro c f H h hf h1 h2 h3
      obtain ⟨f, rfl⟩ : ∃ m, f = m + 1 := ⟨f - 1, by omega⟩
      obtain rfl : c = 216 := by omega
      rw [m_X12_plans_97_L44, if_pos (show (216 : Int32) ≤ nI 216 by decide)]
      exact ⟨H, rfl, fun i hi => h3 i hi.1 hi, h1, h2⟩
    | succ d ih =>
      intro c f H h hf h1 h2 h3
      obtain ⟨f, rfl⟩ : ∃ m, f = m + 1 := ⟨f - 1, by omega⟩
      have hl' : sp_lr N k G P S H := sp_lr_fr hl (h2 98 (by decide)) (h2 99 (by decide)) (by rw [h2 97 (by decide)]) (by rw [h2 97 (by decide)]) (by rw [h2 97 (by decide)])
      have hr' : sp_rr n rp H := by unfold sp_rr at *; rw [h2 97 (by decide), h2 100 (by decide)]; exact hr
      obtain ⟨y, y1, y2⟩ := prl (c := c) hn hl' hr' hn40 hrp ht (fun i hi => by rw [h1 _ (by omega)]; exact hT i hi) (by omega)
      rw [m_X12_plans_97_L44, if_neg (show ¬ (216 : Int32) ≤ nI c from nI_ge (b := 216) (by omega) (by omega)), y1, zb_bd1, show ((216 : Int32) * nI t) + nI c = nI (216 * t + c) by rw [show (216 : Int32) = nI 216 from rfl, pk_mul, nI_add], zi_wr (q := 101) (216 * t + c) rfl (show _ < 8856 by omega), zb_some, zb_mlet, nI_1]
      refine ih (c + 1) f _ (by omega) (by omega) (fun j hj => ?_) (fun i hi => (st_cell _ _ _ hi).trans (h2 i hi)) (fun i hi hv => ?_)
      · rw [st_ne _ _ (by omega)]; exact h1 j hj
      · by_cases e : i = c
        · subst e; rw [st_self]; exact y2 hv
        · rw [st_ne _ _ (by omega)]; exact h3 i (by omega) hv
  exact loop 216 0 300 F (by omega) (by omega) (fun _ _ => rfl) (fun _ _ => rfl) (fun i hi _ => by omega)
theorem prf {N k G n t : Nat} {P S rp : Nat → Nat} {F : mmS} {c : Nat} (hn : sp_num N k G P S) (hl : sp_lr N k G P S F) (hr : sp_rr n rp F) (hn40 : n ≤ 40) (hrp : ∀ t, t < n → rp t < N) (ht : t < n) (hT : ∀ t, t ≤ n → sp_rt N k P rp n t F) (hv : sp_vl N k c) : m_X12_plans_97_L177 (nI c) (nI t) F 300 0 = some (nI (sp_bs k P rp n c t)) := by
  have hN := hn.2.1
  have hk3 := hn.2.2.2.1
  have hk1 := hn.2.2.1
  have hP := hn.2.2.2.2.2.2.1
  have hw := fun s => sp_wv_le (c := c) (p := rp t) (s := s) hP (sp_VT_le (rp := rp) hk1 hP hn40 (t + 1))
  have hlt : sp_bs k P rp n c t < k := sp_am_lt hk1
  have hB : ∀ s, s < k → sp_wv P (sp_VT k P rp n (t + 1)) c (rp t) s < 2147483647 := fun s _ => by have := hw s; omega
  have e0 : sp_fC (sp_VT k P rp n t) c = sp_mn (sp_wv P (sp_VT k P rp n (t + 1)) c (rp t)) k := by
    rw [sp_VT_t ht, sp_fC_st hk3 hv.1 (by have := hrp t ht; omega)]
  have hm0 : sp_mn (sp_wv P (sp_VT k P rp n (t + 1)) c (rp t)) k < 2 ^ 31 := sp_mn_lt hk1 (by have := hw 0; omega)
  have step : ∀ s f, s < k → m_X12_plans_97_L177 (nI c) (nI t) F (f + 1) (nI s) = if sp_wv P (sp_VT k P rp n (t + 1)) c (rp t) s = sp_mn (sp_wv P (sp_VT k P rp n (t + 1)) c (rp t)) k then some (nI s) else m_X12_plans_97_L177 (nI c) (nI t) F f (nI (s + 1)) := by
    intro s f hs
    have hm := sp_vl_mv hN hv (hrp t ht) hs hk3
    have w1 := hw s
    rw [m_X12_plans_97_L177, zi_rd t rfl (hr.2 t ht) (show t < 40 by omega), zb_some, zi_wayR hn hl hv (hrp t ht) (by omega), zb_some, zb_some, zi_mvR hv.1 (by have := hrp t ht; omega) (by omega), zb_some]
    rw [show ((216 : Int32) * (nI t + 1)) + nI (sp_mv c s (rp t)) = nI (216 * (t + 1) + sp_mv c s (rp t)) by rw [nI_1, show (216 : Int32) = nI 216 from rfl, pk_mul, nI_add], zi_rd (216 * (t + 1) + sp_mv c s (rp t)) rfl (hT (t + 1) (by omega) _ hm) (show _ < 8856 by have := hm.1; omega), zb_some, show ((216 : Int32) * nI t) + nI c = nI (216 * t + c) by rw [show (216 : Int32) = nI 216 from rfl, pk_mul, nI_add], zi_rd (216 * t + c) rfl (hT t (by omega) _ hv) (show _ < 8856 by have := hv.1; omega), zb_some, nI_add, e0]
    have e : pd (P (sp_po c s)) (P (rp t)) + sp_fC (sp_VT k P rp n (t + 1)) (sp_mv c s (rp t)) = sp_wv P (sp_VT k P rp n (t + 1)) c (rp t) s := Nat.add_comm _ _
    rw [e]
    by_cases q : sp_wv P (sp_VT k P rp n (t + 1)) c (rp t) s = sp_mn (sp_wv P (sp_VT k P rp n (t + 1)) c (rp t)) k
    · rw [if_pos (by rw [q]), if_pos q]
    · rw [if_neg (fun h => q ((nI_eq (by omega) hm0).mp h)), if_neg q, zb_mlet, nI_1]
  have loop : ∀ d s f, s + d = sp_bs k P rp n c t → d < f → m_X12_plans_97_L177 (nI c) (nI t) F f (nI s) = some (nI (sp_bs k P rp n c t)) := by
    intro d
    induction d with
    | zero =>
      intro s f h hf
      obtain ⟨f, rfl⟩ : ∃ m, f = m + 1 := ⟨f - 1, by omega⟩
      obtain rfl : s = sp_bs k P rp n c t := by omega
      rw [step _ f hlt, if_pos]
      exact sp_am_mn hk1 hB
    | succ d ih =>
      intro s f h hf
      obtain ⟨f, rfl⟩ : ∃ m, f = m + 1 := ⟨f - 1, by omega⟩
      rw [step _ f (by omega), if_neg]
      · exact ih (s + 1) f (by omega) (by omega)
      · have := sp_am_first hk1 hB s (show s < sp_bs k P rp n c t by omega)
        omega
  exact loop _ 0 300 (Nat.zero_add _) (by omega)
theorem plR {N k G n : Nat} {P S rp : Nat → Nat} {F : mmS} (hn : sp_num N k G P S) (hl : sp_lr N k G P S F) (hr : sp_rr n rp F) (hn40 : n ≤ 40) (hrp : ∀ t, t < n → rp t < N) : ∃ F1, m_X12_plans_97 F = some F1 ∧ (∀ t, t ≤ n → sp_rt N k P rp n t F1) ∧ (∀ t, t < n → F1 102 t = nI (sp_bs k P rp n (sp_bw k P S rp n t) t)) ∧ (∀ c, c ≠ 101 → c ≠ 102 → F1 c = F c) := by
  have hN := hn.2.1
  have hk3 := hn.2.2.2.1
  have hk1 := hn.2.2.1
  have fl : ∀ H : mmS, (∀ c, c ≠ 101 → c ≠ 102 → H c = F c) → sp_lr N k G P S H := fun H h2 => sp_lr_fr hl (h2 98 (by decide) (by decide)) (h2 99 (by decide) (by decide)) (by rw [h2 97 (by decide) (by decide)]) (by rw [h2 97 (by decide) (by decide)]) (by rw [h2 97 (by decide) (by decide)])
  have fr : ∀ H : mmS, (∀ c, c ≠ 101 → c ≠ 102 → H c = F c) → sp_rr n rp H := fun H h2 => by unfold sp_rr at *; rw [h2 97 (by decide) (by decide), h2 100 (by decide) (by decide)]; exact hr
  have l1 : ∀ d c f H, c + d = 216 → d < f → (∀ c, c ≠ 101 → c ≠ 102 → H c = F c) → (∀ i, i < c → H 101 (216 * n + i) = 0) → ∃ F1, m_X12_plans_97_L2 f (nI c) H = some F1 ∧ (∀ c, c ≠ 101 → c ≠ 102 → F1 c = F c) ∧ (∀ i, i < 216 → F1 101 (216 * n + i) = 0) := by
    intro d
    induction d with
    | zero =>
      intro c f H h hf h1 h2
      obtain ⟨f, rfl⟩ : ∃ m, f = m + 1 := ⟨f - 1, by omega⟩
      obtain rfl : c = 216 := by omega
      rw [m_X12_plans_97_L2, if_pos (show (216 : Int32) ≤ nI 216 by decide)]
      exact ⟨H, rfl, h1, h2⟩
    | succ d ih =>
      intro c f H h hf h1 h2
      obtain ⟨f, rfl⟩ : ∃ m, f = m + 1 := ⟨f - 1, by omega⟩
      rw [m_X12_plans_97_L2, if_neg (show ¬ (216 : Int32) ≤ nI c from nI_ge (b := 216) (by omega) (by omega)), (fr H h1).1, show ((216 : Int32) * nI n) + nI c = nI (216 * n + c) by rw [show (216 : Int32) = nI 216 from rfl, pk_mul, nI_add], zi_wr (q := 101) (216 * n + c) rfl (show _ < 8856 by omega), zb_some, zb_mlet, nI_1]
      refine ih (c + 1) f _ (by omega) (by omega) (fun i a b => (st_cell _ _ _ a).trans (h1 i a b)) (fun i hi => ?_)
      by_cases e : i = c
      · subst e; rw [st_self]
      · rw [st_ne _ _ (by omega)]; exact h2 i (by omega)
  have l2 : ∀ d f H, d ≤ n → d < f → (∀ c, c ≠ 101 → c ≠ 102 → H c = F c) → (∀ t, d ≤ t → t ≤ n → sp_rt N k P rp n t H) → ∃ F1, m_X12_plans_97_L38 f (nI d - 1) H = some F1 ∧ (∀ c, c ≠ 101 → c ≠ 102 → F1 c = F c) ∧ (∀ t, t ≤ n → sp_rt N k P rp n t F1) := by
    intro d
    induction d with
    | zero =>
      intro f H hd hf h1 h2
      obtain ⟨f, rfl⟩ : ∃ m, f = m + 1 := ⟨f - 1, by omega⟩
      rw [m_X12_plans_97_L38, if_pos (show nI 0 - 1 < (0 : Int32) by decide)]
      exact ⟨H, rfl, h1, fun t ht => h2 t (by omega) ht⟩
    | succ d ih =>
      intro f H hd hf h1 h2
      obtain ⟨f, rfl⟩ : ∃ m, f = m + 1 := ⟨f - 1, by omega⟩
      obtain ⟨J, a1, a2, a3, a4⟩ := prs hn (fl H h1) (fr H h1) hn40 hrp (show d < n by omega) (h2 (d + 1) (by omega) (by omega))
      rw [nI_pred, m_X12_plans_97_L38, if_neg (nI_pos (by omega)), a1, zb_bd1, zb_mlet, ← Int32.sub_eq_add_neg]
      refine ih f J (by omega) (by omega) (fun c a b => (a4 c a).trans (h1 c a b)) (fun t t1 t2 => ?_)
      by_cases e : t = d
      · subst e; exact a2
      · intro c hc
        rw [a3 _ (by have := hc.1; omega)]
        exact h2 t (by omega) t2 c hc
  have l3 : ∀ d t f H, t + d = n → d < f → (∀ c, c ≠ 101 → c ≠ 102 → H c = F c) → (∀ t, t ≤ n → sp_rt N k P rp n t H) → (∀ u, u < t → H 102 u = nI (sp_bs k P rp n (sp_bw k P S rp n u) u)) → ∃ F1, m_X12_plans_97_L167 f (nI (sp_bw k P S rp n t)) (nI t) H = some F1 ∧ (∀ t, t ≤ n → sp_rt N k P rp n t F1) ∧ (∀ t, t < n → F1 102 t = nI (sp_bs k P rp n (sp_bw k P S rp n t) t)) ∧ (∀ c, c ≠ 101 → c ≠ 102 → F1 c = F c) := by
    intro d
    induction d with
    | zero =>
      intro t f H h hf h1 h2 h3
      obtain ⟨f, rfl⟩ : ∃ m, f = m + 1 := ⟨f - 1, by omega⟩
      obtain rfl : t = n := by omega
      rw [m_X12_plans_97_L167, (fr H h1).1, if_pos (nI_le (by omega) (by omega))]
      exact ⟨H, rfl, h2, h3, h1⟩
    | succ d ih =>
      intro t f H h hf h1 h2 h3
      obtain ⟨f, rfl⟩ : ∃ m, f = m + 1 := ⟨f - 1, by omega⟩
      have hv := sp_bw_vl hn hrp t (by omega)
      have hs : sp_bs k P rp n (sp_bw k P S rp n t) t < k := sp_am_lt hk1
      rw [m_X12_plans_97_L167, (fr H h1).1, if_neg (nI_ge (by omega) (by omega)), prf hn (fl H h1) (fr H h1) hn40 hrp (by omega) h2 hv, zb_bd1, zi_wr (q := 102) t rfl (show t < 40 by omega), zb_some, zi_rd t rfl (show stF H 102 t _ 100 t = nI (rp t) by rw [st_cell _ _ _ (by decide)]; exact (fr H h1).2 t (by omega)) (show t < 40 by omega), zb_some, zi_mvR hv.1 (by have := hrp t (by omega); omega) (by omega), zb_some, zb_mlet, nI_1]
      refine ih (t + 1) f _ (by omega) (by omega) (fun c a b => (st_cell _ _ _ b).trans (h1 c a b)) (fun u hu c hc => ?_) (fun u hu => ?_)
      · rw [st_cell _ _ _ (by decide)]; exact h2 u hu c hc
      · by_cases e : u = t
        · subst e; rw [st_self]
        · rw [st_ne _ _ (by omega)]; exact h3 u (by omega)
  obtain ⟨F1, a1, a2, a3⟩ := l1 216 0 300 F (by omega) (by omega) (fun _ _ _ => rfl) (fun i hi => by omega)
  obtain ⟨F2, b1, b2, b3⟩ := l2 n 300 F1 (by omega) (by omega) a2 (fun t t1 t2 c hc => by
    obtain rfl : t = n := by omega
    rw [sp_VT_n, a3 _ hc.1]
    rfl)
  obtain ⟨F3, c1, c2⟩ := l3 n 0 300 F2 (by omega) (by omega) b2 b3 (fun u hu => by omega)
  refine ⟨F3, ?_, c2⟩
  unfold m_X12_plans_97
  rw [show m_X12_plans_97_L2 300 (0 : Int32) F = m_X12_plans_97_L2 300 (nI 0) F from rfl, a1, zb_bd1, zb_mlet, (fr F1 a2).1, b1, zb_bd1, zi_bgR hn (fl F2 b2), zb_some, show m_X12_plans_97_L167 300 (nI (sp_s0 S)) (0 : Int32) F2 = m_X12_plans_97_L167 300 (nI (sp_bw k P S rp n 0)) (nI 0) F2 from rfl, c1, zb_bd1]
theorem bcR {N k G n : Nat} {P S rp : Nat → Nat} {F : mmS} (hn : sp_num N k G P S) (hl : sp_lr N k G P S F) (hr : sp_rr n rp F) (hn40 : n ≤ 40) (hrp : ∀ t, t < n → rp t < N) : ∃ F1, m_X12_bestCost_97 F = some (nI (sp_fC (sp_VT k P rp n 0) (sp_s0 S)), F1) ∧ (∀ c, c ≠ 101 → c ≠ 102 → F1 c = F c) := by
  obtain ⟨F1, a1, a2, a3, a4⟩ := plR hn hl hr hn40 hrp
  refine ⟨F1, ?_, a4⟩
  have hl1 : sp_lr N k G P S F1 := sp_lr_fr hl (a4 98 (by decide) (by decide)) (a4 99 (by decide) (by decide)) (by rw [a4 97 (by decide) (by decide)]) (by rw [a4 97 (by decide) (by decide)]) (by rw [a4 97 (by decide) (by decide)])
  have hv := sp_s0_vl hn
  have := a2 0 (by omega) _ hv
  rw [show 216 * 0 + sp_s0 S = sp_s0 S by omega] at this
  unfold m_X12_bestCost_97
  rw [a1, zb_some, zi_bgR hn hl1, zb_some, zi_rd (sp_s0 S) rfl this (show _ < 8856 by have := hv.1; omega), zb_some]
