/-! PURE: the reference's rule by work -/
def sp_fW (F F1 : mmS) : Prop := (∀ c, c ≠ 97 → ¬ (103 ≤ c ∧ c ≤ 105) → F1 c = F c) ∧ (∀ i, ¬ (10 ≤ i ∧ i ≤ 12) → F1 97 i = F 97 i)
theorem sp_fW_tr {F G H : mmS} (h : sp_fW F G) (h' : sp_fW G H) : sp_fW F H := ⟨fun c a b => (h'.1 c a b).trans (h.1 c a b), fun i a => (h'.2 i a).trans (h.2 i a)⟩
theorem sp_fW_S {F G : mmS} (h : sp_fS F G) : sp_fW F G := ⟨fun c a b => h.1 c a (by omega), fun i a => h.2 i (by omega) (by omega)⟩
theorem sp_fW_c {F G : mmS} (h : ∀ c, c ≠ 104 → c ≠ 105 → G c = F c) : sp_fW F G := ⟨fun c _ b => h c (by omega) (by omega), fun i _ => by rw [h 97 (by decide) (by decide)]⟩
theorem sp_fW_10 (F : mmS) (v : Int32) : sp_fW F (stF F 97 10 v) := ⟨fun c a _ => st_cell F 10 v a, fun j a => st_ne F v (by omega)⟩
theorem sp_fW_lr {N k G : Nat} {P S : Nat → Nat} {F F1 : mmS} (hf : sp_fW F F1) (h : sp_lr N k G P S F) : sp_lr N k G P S F1 := sp_lr_fr h (hf.1 98 (by decide) (by decide)) (hf.1 99 (by decide) (by decide)) (hf.2 0 (by decide)) (hf.2 2 (by decide)) (hf.2 4 (by decide))
theorem sp_fW_rr {n : Nat} {rp : Nat → Nat} {F F1 : mmS} (hf : sp_fW F F1) (h : sp_rr n rp F) : sp_rr n rp F1 := by
  unfold sp_rr at *
  rw [hf.1 100 (by decide) (by decide), hf.2 5 (by decide)]
  exact h
def sp_wt (N k T : Nat) (g : Nat → Nat → Nat → Nat) (F : mmS) : Prop := ∀ c, sp_vl N k c → F T c = nI (sp_fC g c)
theorem wfR {N k G : Nat} {P S rp : Nat → Nat} {F : mmS} (hn : sp_num N k G P S) (hl : sp_lr N k G P S F) : ∃ F1, m_X12_worksFirst_97 F = some F1 ∧ sp_wt N k 104 (sp_W k P S rp 0) F1 ∧ F1 97 10 = nI (sp_s0 S) ∧ (∀ i, i ≠ 10 → F1 97 i = F 97 i) ∧ (∀ c, c ≠ 97 → c ≠ 104 → F1 c = F c) := by
  have hN := hn.2.1
  have hN1 := hn.1
  have hk3 := hn.2.2.2.1
  have hk1 := hn.2.2.1
  have hP := hn.2.2.2.2.2.2.1
  have hS := hn.2.2.2.2.2.2.2.1
  obtain ⟨j0, p0, q0⟩ := hl.2.2.2.2.2 0 (by omega)
  obtain ⟨j1, p1, q1⟩ := hl.2.2.2.2.2 1 (by omega)
  obtain ⟨j2, p2, q2⟩ := hl.2.2.2.2.2 2 (by omega)
  have r0 : j0 = S 0 := by
    have := hl.2.2.2.2.1 0 (by omega)
    have h0 := hS 0
    rw [q0] at this
    exact (nI_eq (by omega) (by omega)).mp this
  have r1 : 2 ≤ k → j1 = S 1 := by
    intro h
    have := hl.2.2.2.2.1 1 (by omega)
    have h0 := hS 1
    rw [q1] at this
    exact (nI_eq (by omega) (by omega)).mp this
  have r2 : 3 ≤ k → j2 = S 2 := by
    intro h
    have := hl.2.2.2.2.1 2 (by omega)
    have h0 := hS 2
    rw [q2] at this
    exact (nI_eq (by omega) (by omega)).mp this
  have loop : ∀ d c f H, c + d = 216 → d < f → (∀ i, H 97 i = stF F 97 10 (nI (sp_s0 S)) 97 i) → (∀ c, c ≠ 97 → c ≠ 104 → H c = F c) → (∀ i, i < c → sp_vl N k i → H 104 i = nI (sp_fC (sp_W k P S rp 0) i)) → ∃ F1, m_X12_worksFirst_97_L10 f (nI c) H = some F1 ∧ sp_wt N k 104 (sp_W k P S rp 0) F1 ∧ (∀ i, F1 97 i = stF F 97 10 (nI (sp_s0 S)) 97 i) ∧ (∀ c, c ≠ 97 → c ≠ 104 → F1 c = F c) := by
    intro d
    induction d with
    | zero =>
      intro c f H h hf h1 h2 h3
      obtain ⟨f, rfl⟩ : ∃ m, f = m + 1 := ⟨f - 1, by omega⟩
      obtain rfl : c = 216 := by omega
      rw [m_X12_worksFirst_97_L10, if_pos (show (216 : Int32) ≤ nI 216 by decide)]
      exact ⟨H, rfl, fun i hi => h3 i hi.1 hi, h1, h2⟩
    | succ d ih =>
      intro c f H h hf h1 h2 h3
      obtain ⟨f, rfl⟩ : ∃ m, f = m + 1 := ⟨f - 1, by omega⟩
      have hl' : sp_lr N k G P S H := sp_lr_fr hl (h2 98 (by decide) (by decide)) (h2 99 (by decide) (by decide)) (by rw [h1, st_ne _ _ (by omega)]) (by rw [h1, st_ne _ _ (by omega)]) (by rw [h1, st_ne _ _ (by omega)])
      have e99 : H 99 = F 99 := h2 99 (by decide) (by decide)
      have h98 := hl'.2.2.2.1
      rw [m_X12_worksFirst_97_L10, if_neg (show ¬ (216 : Int32) ≤ nI c from nI_ge (b := 216) (by omega) (by omega)), zi_rd 0 li0 (show H 99 0 = nI j0 by rw [e99]; exact q0) (by decide), zb_some, zi_rd j0 rfl (h98 j0 p0) (show j0 < 6 by omega), zb_some, zi_rd 1 li1 (show H 99 1 = nI j1 by rw [e99]; exact q1) (by decide), zb_some, zi_rd j1 rfl (h98 j1 p1) (show j1 < 6 by omega), zb_some, zi_rd 2 li2 (show H 99 2 = nI j2 by rw [e99]; exact q2) (by decide), zb_some, zi_rd j2 rfl (h98 j2 p2) (show j2 < 6 by omega), zb_some]
      obtain ⟨b, hb1, hb2⟩ := zi_isS hn hl' (show c < 216 by omega)
      rw [hb1, zb_some]
      have hy : ∃ y, (if b = (0 : Int32) then (some ((1000000000 : Int32))) else (Option.bind (m_X12_pointOf_97 (nI c) (0 : Int32)) fun x13 => Option.bind (ald H 98 x13) fun x14 => Option.bind (m_X12_pointOf_97 (nI c) (1 : Int32)) fun x15 => Option.bind (ald H 98 x15) fun x16 => Option.bind (m_X12_pointOf_97 (nI c) (2 : Int32)) fun x17 => Option.bind (ald H 98 x17) fun x18 => Option.bind (m_X12_least_97 H (nI (P j0)) (nI (P j1)) (nI (P j2)) x14 x16 x18) fun x19 => some (x19))) = some y ∧ (sp_vl N k c → y = nI (sp_fC (sp_W k P S rp 0) c)) := by
        rcases hb2 with ⟨hv, rfl⟩ | ⟨hv, rfl⟩
        · have v0 := sp_vl_po (s := 0) hN1 hv
          have v1 := sp_vl_po (s := 1) hN1 hv
          have v2 := sp_vl_po (s := 2) hN1 hv
          rw [if_neg (show ¬ (1 : Int32) = 0 by decide), show m_X12_pointOf_97 (nI c) (0 : Int32) = some (nI (sp_po c 0)) from zi_poR (s := 0) hv.1 (by omega), show m_X12_pointOf_97 (nI c) (1 : Int32) = some (nI (sp_po c 1)) from zi_poR (s := 1) hv.1 (by omega), show m_X12_pointOf_97 (nI c) (2 : Int32) = some (nI (sp_po c 2)) from zi_poR (s := 2) hv.1 (by omega), zb_some, zi_rd (sp_po c 0) rfl (h98 _ v0) (show _ < 6 by omega), zb_some, zb_some, zi_rd (sp_po c 1) rfl (h98 _ v1) (show _ < 6 by omega), zb_some, zb_some, zi_rd (sp_po c 2) rfl (h98 _ v2) (show _ < 6 by omega), zb_some, zi_lwR (a := sp_a0 P S) (b := sp_ap P c) (a0 := nI (P j0)) (a1 := nI (P j1)) (a2 := nI (P j2)) (b0 := nI (P (sp_po c 0))) (b1 := nI (P (sp_po c 1))) (b2 := nI (P (sp_po c 2))) hk1 hk3 hl'.2.1 (fun s _ => hP (S s)) (fun s _ => hP (sp_po c s)) (by rw [r0]; rfl) (fun h => by rw [r1 h]; rfl) (fun h => by rw [r2 h]; rfl) rfl (fun _ => rfl) (fun _ => rfl), zb_some]
          exact ⟨_, rfl, fun _ => by rw [sp_W_0 hn]⟩
        · rw [if_pos rfl]
          exact ⟨_, rfl, fun h => absurd h hv⟩
      obtain ⟨y, y1, y2⟩ := hy
      rw [y1, zb_bd1, zi_wr (q := 104) c rfl (show c < 216 by omega), zb_some, zb_mlet, nI_1]
      refine ih (c + 1) f _ (by omega) (by omega) (fun i => by rw [st_cell _ _ _ (by decide)]; exact h1 i) (fun i a b => (st_cell _ _ _ b).trans (h2 i a b)) (fun i hi hv => ?_)
      by_cases e : i = c
      · subst e; rw [st_self]; exact y2 hv
      · rw [st_ne _ _ (by omega)]; exact h3 i (by omega) hv
  obtain ⟨F1, a1, a2, a3, a4⟩ := loop 216 0 300 (stF F 97 10 (nI (sp_s0 S))) (by omega) (by omega) (fun _ => rfl) (fun c a _ => st_cell _ _ _ a) (fun i hi => by omega)
  refine ⟨F1, ?_, a2, ?_, ?_, a4⟩
  · unfold m_X12_worksFirst_97
    rw [zi_bgR hn hl, zb_some, zb_mlet, show m_X12_worksFirst_97_L10 300 (0 : Int32) (stF F 97 10 (nI (sp_s0 S))) = m_X12_worksFirst_97_L10 300 (nI 0) (stF F 97 10 (nI (sp_s0 S))) from rfl, a1, zb_bd1]
  · rw [a3, st_self]
  · intro i hi
    rw [a3, st_ne _ _ (by omega)]
theorem woR {N k G p : Nat} {P S : Nat → Nat} {g : Nat → Nat → Nat → Nat} {F : mmS} (hn : sp_num N k G P S) (hl : sp_lr N k G P S F) (hp : p < N) (hg : ∀ a b c, g a b c ≤ 100000) (hT : sp_wt N k 104 g F) : ∃ F1, m_X12_worksOn_97 F (nI p) = some F1 ∧ sp_wt N k 104 (sp_st k P p g) F1 ∧ (∀ c, c ≠ 104 → c ≠ 105 → F1 c = F c) := by
  have hN := hn.2.1
  have hk3 := hn.2.2.2.1
  have hk1 := hn.2.2.1
  have hP := hn.2.2.2.2.2.2.1
  have inner : ∀ (H : mmS) c, c < 216 → sp_lr N k G P S H → sp_wt N k 104 g H → ∃ y, m_X12_worksOn_97_L15 (nI p) (nI c) H 300 1000000000 0 = some y ∧ (sp_vl N k c → y = nI (sp_fC (sp_st k P p g) c)) := by
    intro H c hc hl hT
    obtain ⟨b, hb1, hb2⟩ := zi_isS hn hl hc
    rcases hb2 with ⟨hv, rfl⟩ | ⟨hv, rfl⟩
    · have loop : ∀ d s f, s + d = k → d < f → m_X12_worksOn_97_L15 (nI p) (nI c) H f (nI (min 1000000000 (sp_mn (sp_wv P g c p) s))) (nI s) = some (nI (min 1000000000 (sp_mn (sp_wv P g c p) k))) := by
        intro d
        induction d with
        | zero =>
          intro s f h hf
          obtain ⟨f, rfl⟩ : ∃ m, f = m + 1 := ⟨f - 1, by omega⟩
          obtain rfl : s = k := by omega
          rw [m_X12_worksOn_97_L15, hl.2.1, if_pos (nI_le (by omega) (by omega))]
        | succ d ih =>
          intro s f h hf
          obtain ⟨f, rfl⟩ : ∃ m, f = m + 1 := ⟨f - 1, by omega⟩
          have hm := sp_vl_mv hN hv hp (show s < k by omega) hk3
          have w1 := sp_wv_le (c := c) (p := p) (s := s) hP hg
          rw [m_X12_worksOn_97_L15, hl.2.1, if_neg (nI_ge (by omega) (by omega)), hb1, zb_some, if_neg (show ¬ (1 : Int32) = 0 by decide), zi_mvR hc (by omega) (by omega), zb_some, zi_rd (sp_mv c s p) rfl (hT _ hm) (show _ < 216 from hm.1), zb_some, zi_wayR hn hl hv hp (by omega), zb_some, zb_mlet, nI_add]
          have e : sp_fC g (sp_mv c s p) + pd (P (sp_po c s)) (P p) = sp_wv P g c p s := rfl
          rw [e, zi_ifle (by omega) (by omega), zb_bd1, zb_mlet, nI_1]
          have em : sp_mn (sp_wv P g c p) (s + 1) = min (sp_mn (sp_wv P g c p) s) (sp_wv P g c p s) := rfl
          have := ih (s + 1) f (by omega) (by omega)
          rw [em, ← Nat.min_assoc] at this
          exact this
      refine ⟨_, loop k 0 300 (by omega) (by omega), fun _ => ?_⟩
      rw [sp_mn_far hk1 (by have := sp_wv_le (c := c) (p := p) (s := 0) hP hg; omega), sp_fC_st hk3 hc (by omega)]
    · refine ⟨1000000000, ?_, fun h => absurd h hv⟩
      rw [m_X12_worksOn_97_L15, hl.2.1, if_neg (show ¬ nI k ≤ (0 : Int32) from nI_ge (a := 0) (by omega) (by omega)), hb1, zb_some, if_pos rfl]
  have l1 : ∀ d c f H, c + d = 216 → d < f → (∀ c, c ≠ 105 → H c = F c) → (∀ i, i < c → sp_vl N k i → H 105 i = nI (sp_fC (sp_st k P p g) i)) → ∃ F1, m_X12_worksOn_97_L2 (nI p) f (nI c) H = some F1 ∧ sp_wt N k 105 (sp_st k P p g) F1 ∧ (∀ c, c ≠ 105 → F1 c = F c) := by
    intro d
    induction d with
    | zero =>
      intro c f H h hf h1 h2
      obtain ⟨f, rfl⟩ : ∃ m, f = m + 1 := ⟨f - 1, by omega⟩
      obtain rfl : c = 216 := by omega
      rw [m_X12_worksOn_97_L2, if_pos (show (216 : Int32) ≤ nI 216 by decide)]
      exact ⟨H, rfl, fun i hi => h2 i hi.1 hi, h1⟩
    | succ d ih =>
      intro c f H h hf h1 h2
      obtain ⟨f, rfl⟩ : ∃ m, f = m + 1 := ⟨f - 1, by omega⟩
      have hl' : sp_lr N k G P S H := sp_lr_fr hl (h1 98 (by decide)) (h1 99 (by decide)) (by rw [h1 97 (by decide)]) (by rw [h1 97 (by decide)]) (by rw [h1 97 (by decide)])
      obtain ⟨y, y1, y2⟩ := inner H c (by omega) hl' (fun i hi => by rw [h1 104 (by decide)]; exact hT i hi)
      rw [m_X12_worksOn_97_L2, if_neg (show ¬ (216 : Int32) ≤ nI c from nI_ge (b := 216) (by omega) (by omega)), y1, zb_bd1, zi_wr (q := 105) c rfl (show c < 216 by omega), zb_some, zb_mlet, nI_1]
      refine ih (c + 1) f _ (by omega) (by omega) (fun i a => (st_cell _ _ _ a).trans (h1 i a)) (fun i hi hv => ?_)
      by_cases e : i = c
      · subst e; rw [st_self]; exact y2 hv
      · rw [st_ne _ _ (by omega)]; exact h2 i (by omega) hv
  have l2 : ∀ (F0 : mmS) d c f H, c + d = 216 → d < f → (∀ c, c ≠ 104 → H c = F0 c) → (∀ i, i < c → H 104 i = F0 105 i) → ∃ F1, m_X12_worksOn_97_L90 f (nI c) H = some F1 ∧ (∀ i, i < 216 → F1 104 i = F0 105 i) ∧ (∀ c, c ≠ 104 → F1 c = F0 c) := by
    intro F0 d
    induction d with
    | zero =>
      intro c f H h hf h1 h2
      obtain ⟨f, rfl⟩ : ∃ m, f = m + 1 := ⟨f - 1, by omega⟩
      obtain rfl : c = 216 := by omega
      rw [m_X12_worksOn_97_L90, if_pos (show (216 : Int32) ≤ nI 216 by decide)]
      exact ⟨H, rfl, h2, h1⟩
    | succ d ih =>
      intro c f H h hf h1 h2
      obtain ⟨f, rfl⟩ : ∃ m, f = m + 1 := ⟨f - 1, by omega⟩
      rw [m_X12_worksOn_97_L90, if_neg (show ¬ (216 : Int32) ≤ nI c from nI_ge (b := 216) (by omega) (by omega)), zi_rd c rfl (show H 105 c = F0 105 c by rw [h1 105 (by decide)]) (show c < 216 by omega), zb_some, zi_wr (q := 104) c rfl (show c < 216 by omega), zb_some, zb_mlet, nI_1]
      refine ih (c + 1) f _ (by omega) (by omega) (fun i a => (st_cell _ _ _ a).trans (h1 i a)) (fun i hi => ?_)
      by_cases e : i = c
      · subst e; rw [st_self]
      · rw [st_ne _ _ (by omega)]; exact h2 i (by omega)
  obtain ⟨F1, a1, a2, a3⟩ := l1 216 0 300 F (by omega) (by omega) (fun _ _ => rfl) (fun i hi => by omega)
  obtain ⟨F2, b1, b2, b3⟩ := l2 F1 216 0 300 F1 (by omega) (by omega) (fun _ _ => rfl) (fun i hi => by omega)
  refine ⟨F2, ?_, fun c hc => ?_, fun c c1 c2 => (b3 c c1).trans (a3 c c2)⟩
  · unfold m_X12_worksOn_97
    rw [show m_X12_worksOn_97_L2 (nI p) 300 (0 : Int32) F = m_X12_worksOn_97_L2 (nI p) 300 (nI 0) F from rfl, a1, zb_bd1, show m_X12_worksOn_97_L90 300 (0 : Int32) F1 = m_X12_worksOn_97_L90 300 (nI 0) F1 from rfl, b1, zb_bd1]
  · rw [b2 c hc.1]
    exact a2 c hc
/-- where the reference's rule by work stands after t -/
def sp_wr (N k : Nat) (P S rp : Nat → Nat) (F : mmS) (t : Nat) (F' : mmS) : Prop := sp_or k (sp_R2 k P S rp t).1 (sp_R2 k P S rp t).2.1 (sp_R2 k P S rp t).2.2 F' ∧ F' 97 10 = nI (sp_ws k P S rp t) ∧ sp_wt N k 104 (sp_W k P S rp t) F' ∧ sp_fW F F'
theorem go2R {N k G n t : Nat} {P S rp : Nat → Nat} {F F' : mmS} (hn : sp_num N k G P S) (hl : sp_lr N k G P S F) (hr : sp_rr n rp F) (ht : t < n) (hn40 : n ≤ 40) (hrp : ∀ t, t < n → rp t < N) (hz : sp_wr N k P S rp F t F') : ∃ F1, m_X12_goesOn_97 F' 2 (nI t) = some F1 ∧ sp_wr N k P S rp F (t + 1) F1 := by
  obtain ⟨z1, z2, z3, z4⟩ := hz
  have hN := hn.2.1
  have hk3 := hn.2.2.2.1
  have hk1 := hn.2.2.1
  have hP := hn.2.2.2.2.2.2.1
  have hp := hrp t ht
  have hl' := sp_fW_lr z4 hl
  have hr' := sp_fW_rr z4 hr
  have hv := sp_ws_vl hn hrp t (by omega)
  obtain ⟨J, a1, a2, a3⟩ := woR hn hl' hp (fun a b c => Nat.le_trans (sp_W_le (rp := rp) hn t a b c) (by omega)) z3
  have fJ : sp_fW F J := sp_fW_tr z4 (sp_fW_c a3)
  have lJ := sp_fW_lr fJ hl
  have e97 : J 97 = F' 97 := a3 97 (by decide) (by decide)
  have aT : sp_wt N k 104 (sp_W k P S rp (t + 1)) J := a2
  have hWle : ∀ a b c, sp_W k P S rp (t + 1) a b c ≤ 100000 := fun a b c => Nat.le_trans (sp_W_le (rp := rp) hn (t + 1) a b c) (by omega)
  have hw := fun s => sp_wv_le (c := sp_ws k P S rp t) (p := rp t) (s := s) hP hWle
  have loop : ∀ d s f, s + d = k → 1 ≤ s → d < f → m_X12_goesByWork_97_L9 (nI (rp t)) J f (nI (sp_am (sp_wv P (sp_W k P S rp (t + 1)) (sp_ws k P S rp t) (rp t)) s)) (nI s) = some (nI (sp_wc k P S rp (sp_ws k P S rp t) t)) := by
    intro d
    induction d with
    | zero =>
      intro s f h h1 hf
      obtain ⟨f, rfl⟩ : ∃ m, f = m + 1 := ⟨f - 1, by omega⟩
      obtain rfl : s = k := by omega
      rw [m_X12_goesByWork_97_L9, lJ.2.1, if_pos (nI_le (by omega) (by omega))]
      rfl
    | succ d ih =>
      intro s f h h1 hf
      obtain ⟨f, rfl⟩ : ∃ m, f = m + 1 := ⟨f - 1, by omega⟩
      generalize hb : sp_am (sp_wv P (sp_W k P S rp (t + 1)) (sp_ws k P S rp t) (rp t)) s = b at *
      have hbs : b < s := by rw [← hb]; exact sp_am_lt h1
      have hbm : sp_wv P (sp_W k P S rp (t + 1)) (sp_ws k P S rp t) (rp t) b = sp_mn (sp_wv P (sp_W k P S rp (t + 1)) (sp_ws k P S rp t) (rp t)) s := by
        rw [← hb]
        exact sp_am_mn h1 (fun i _ => by have := hw i; omega)
      have hm := sp_vl_mv hN hv hp (show s < k by omega) hk3
      have hmb := sp_vl_mv hN hv hp (show b < k by omega) hk3
      have ws := hw s
      have wb := hw b
      rw [m_X12_goesByWork_97_L9, lJ.2.1, if_neg (nI_ge (by omega) (by omega)), show J 97 10 = nI (sp_ws k P S rp t) by rw [e97]; exact z2, zi_mvR hv.1 (by omega) (by omega), zb_some, zi_rd (sp_mv (sp_ws k P S rp t) s (rp t)) rfl (aT _ hm) (show _ < 216 from hm.1), zb_some, zi_wayR hn lJ hv hp (by omega), zb_some, zb_mlet, zi_mvR hv.1 (by omega) (by omega), zb_some, zi_rd (sp_mv (sp_ws k P S rp t) b (rp t)) rfl (aT _ hmb) (show _ < 216 from hmb.1), zb_some, zi_wayR hn lJ hv hp (by omega), zb_some, nI_add, nI_add]
      have e1 : sp_fC (sp_W k P S rp (t + 1)) (sp_mv (sp_ws k P S rp t) s (rp t)) + pd (P (sp_po (sp_ws k P S rp t) s)) (P (rp t)) = sp_wv P (sp_W k P S rp (t + 1)) (sp_ws k P S rp t) (rp t) s := rfl
      have e2 : sp_fC (sp_W k P S rp (t + 1)) (sp_mv (sp_ws k P S rp t) b (rp t)) + pd (P (sp_po (sp_ws k P S rp t) b)) (P (rp t)) = sp_wv P (sp_W k P S rp (t + 1)) (sp_ws k P S rp t) (rp t) b := rfl
      rw [e1, e2]
      have ea : sp_am (sp_wv P (sp_W k P S rp (t + 1)) (sp_ws k P S rp t) (rp t)) (s + 1) = if sp_wv P (sp_W k P S rp (t + 1)) (sp_ws k P S rp t) (rp t) s < sp_mn (sp_wv P (sp_W k P S rp (t + 1)) (sp_ws k P S rp t) (rp t)) s then s else sp_am (sp_wv P (sp_W k P S rp (t + 1)) (sp_ws k P S rp t) (rp t)) s := rfl
      have := ih (s + 1) f (by omega) (by omega) (by omega)
      rw [ea, ← hbm, hb] at this
      by_cases q : sp_wv P (sp_W k P S rp (t + 1)) (sp_ws k P S rp t) (rp t) s < sp_wv P (sp_W k P S rp (t + 1)) (sp_ws k P S rp t) (rp t) b
      · rw [if_neg (nI_ge q (by omega)), zb_bd1, zb_mlet, nI_1]
        rw [if_pos q] at this
        exact this
      · rw [if_pos (nI_le (by omega) (by omega)), zb_bd1, zb_mlet, nI_1]
        rw [if_neg q] at this
        exact this
  have hs : sp_wc k P S rp (sp_ws k P S rp t) t < k := sp_am_lt hk1
  have oJ : sp_or k (sp_R2 k P S rp t).1 (sp_R2 k P S rp t).2.1 (sp_R2 k P S rp t).2.2 J := ⟨fun s hs => by rw [a3 103 (by decide) (by decide)]; exact z1.1 s hs, by rw [e97]; exact z1.2.1, by rw [e97]; exact z1.2.2⟩
  obtain ⟨K, b1, b2, b3⟩ := sndR (s := sp_wc k P S rp (sp_ws k P S rp t) t) (x := P (rp t)) hk3 oJ hs ((sp_R2_le hn t).1 _ hs) (hP _)
  have l0 := loop (k - 1) 1 300 (by omega) (by omega) (by omega)
  rw [sp_am1] at l0
  unfold m_X12_goesOn_97
  rw [zi_rd t rfl (hr'.2 t ht) (show t < 40 by omega), zb_some, zi_rd (rp t) rfl (hl'.2.2.2.1 _ hp) (show rp t < 6 by omega), zb_some, if_neg (show ¬ (2 : Int32) = 0 by decide), if_neg (show ¬ (2 : Int32) = 1 by decide), if_pos rfl, zb_some]
  unfold m_X12_goesByWork_97
  rw [a1, zb_some, show m_X12_goesByWork_97_L9 (nI (rp t)) J 300 (0 : Int32) (1 : Int32) = m_X12_goesByWork_97_L9 (nI (rp t)) J 300 (nI 0) (nI 1) from rfl, l0, zb_bd1, zi_rd (rp t) rfl (lJ.2.2.2.1 _ hp) (show rp t < 6 by omega), zb_some, b1, zb_some, show K 97 10 = nI (sp_ws k P S rp t) by rw [b3.2 10 (by decide) (by decide), e97]; exact z2, zi_mvR hv.1 (by omega) (by omega), zb_some, zb_mlet, zb_some]
  refine ⟨_, rfl, ⟨?_, ?_, ?_⟩, ?_, ?_, ?_⟩
  · intro s hs
    rw [st_cell _ _ _ (by decide)]; exact b2.1 s hs
  · rw [st_ne _ _ (by omega)]; exact b2.2.1
  · rw [st_ne _ _ (by omega)]; exact b2.2.2
  · rw [st_self]; rfl
  · intro c hc
    rw [st_cell _ _ _ (by decide), b3.1 104 (by decide) (by decide)]; exact aT c hc
  · exact sp_fW_tr (sp_fW_tr fJ (sp_fW_S b3)) (sp_fW_10 _ _)
theorem rn_2 {N k G n t : Nat} {P S rp : Nat → Nat} {F : mmS} (hn : sp_num N k G P S) (hl : sp_lr N k G P S F) (hr : sp_rr n rp F) (hn40 : n ≤ 40) (hrp : ∀ t, t < n → rp t < N) (ht : t ≤ 40) : ∃ F1, m_X12_runs_97 F 2 (nI t) = some F1 ∧ sp_wr N k P S rp F (min t n) F1 := by
  obtain ⟨F0, b1, b2, b3⟩ := staR hn hl
  have f0 := sp_fW_S b3
  obtain ⟨J, a1, a2, a3, a4, a5⟩ := wfR (rp := rp) hn (sp_fW_lr f0 hl)
  have fJ : sp_fW F0 J := ⟨fun c p q => a5 c p (by omega), fun i h => a4 i (by omega)⟩
  have z0 : sp_wr N k P S rp F 0 J := ⟨⟨fun s hs => by rw [a5 103 (by decide) (by decide)]; exact b2.1 s hs, by rw [a4 11 (by decide)]; exact b2.2.1, by rw [a4 12 (by decide)]; exact b2.2.2⟩, a3, a2, sp_fW_tr f0 fJ⟩
  obtain ⟨F1, h1, h2⟩ := runl_R (sp_wr N k P S rp F) 2 hn40 ht (fun u F' hz => (sp_fW_rr hz.2.2.2 hr).1) (fun u F' hu hz => go2R hn hl hr hu hn40 hrp hz) (min t n) 0 300 J (by omega) (by omega) z0
  refine ⟨F1, ?_, h2⟩
  unfold m_X12_runs_97
  rw [b1, zb_some, if_pos rfl, a1, zb_some, zb_bd1, show m_X12_runs_97_L15 2 (nI t) 300 (0 : Int32) J = m_X12_runs_97_L15 2 (nI t) 300 (nI 0) J from rfl, h1, zb_bd1]
/-- W after t, as the call for it works it out -/
theorem wcR {N k G n t : Nat} {P S rp : Nat → Nat} {F : mmS} (hn : sp_num N k G P S) (hl : sp_lr N k G P S F) (hr : sp_rr n rp F) (hn40 : n ≤ 40) (hrp : ∀ t, t < n → rp t < N) (ht : t ≤ 40) : ∃ F0 F1, m_X12_worksFirst_97 F = some F0 ∧ m_X12_work_97_L109 (nI t) 300 0 F0 = some F1 ∧ sp_wt N k 104 (sp_W k P S rp (min t n)) F1 ∧ sp_fW F F1 := by
  have first : ∀ F, F 97 5 = nI n → m_X12_first_97 F (nI t) = some (nI (min t n)) := by
    intro F h
    unfold m_X12_first_97
    rw [h, zi_ifle (by omega) (by omega), Nat.min_comm]
  obtain ⟨J, a1, a2, a3, a4, a5⟩ := wfR (rp := rp) hn hl
  have fJ : sp_fW F J := ⟨fun c p q => a5 c p (by omega), fun i h => a4 i (by omega)⟩
  have loop : ∀ d u f H, u + d = min t n → d < f → sp_wt N k 104 (sp_W k P S rp u) H → sp_fW F H → ∃ F1, m_X12_work_97_L109 (nI t) f (nI u) H = some F1 ∧ sp_wt N k 104 (sp_W k P S rp (min t n)) F1 ∧ sp_fW F F1 := by
    intro d
    induction d with
    | zero =>
      intro u f H h hf h1 h2
      obtain ⟨f, rfl⟩ : ∃ m, f = m + 1 := ⟨f - 1, by omega⟩
      obtain rfl : u = min t n := by omega
      rw [m_X12_work_97_L109, first H (sp_fW_rr h2 hr).1, zb_some, if_pos (nI_le (by omega) (by omega))]
      exact ⟨H, rfl, h1, h2⟩
    | succ d ih =>
      intro u f H h hf h1 h2
      obtain ⟨f, rfl⟩ : ∃ m, f = m + 1 := ⟨f - 1, by omega⟩
      obtain ⟨K, c1, c2, c3⟩ := woR hn (sp_fW_lr h2 hl) (hrp u (by omega)) (fun a b c => Nat.le_trans (sp_W_le (rp := rp) hn u a b c) (by omega)) h1
      rw [m_X12_work_97_L109, first H (sp_fW_rr h2 hr).1, zb_some, if_neg (nI_ge (by omega) (by omega)), zi_rd u rfl ((sp_fW_rr h2 hr).2 u (by omega)) (show u < 40 by omega), zb_some, c1, zb_some, zb_mlet, nI_1]
      exact ih (u + 1) f K (by omega) (by omega) c2 (sp_fW_tr h2 (sp_fW_c c3))
  obtain ⟨F1, h1, h2⟩ := loop (min t n) 0 300 J (by omega) (by omega) a2 fJ
  exact ⟨J, F1, a1, h1, h2⟩
