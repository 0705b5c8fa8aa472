/-! PURE: longing, and the first step that does not pay -/
theorem zb_E1r {α γ : Type} (u : α) (f : α → Option γ) : bdE1 (some (.inr u)) f = f u := by
  have h : bdE1 (some (.inr u)) f = f u := rfl
  exact h
theorem zb_E1l {α γ : Type} (x : γ) (f : α → Option γ) : bdE1 (some (.inl x)) f = some x := by
  have h : bdE1 (some (.inl x)) f = some x := rfl
  exact h
def sp_wa (k : Nat) (a : Nat → Nat) : Nat := if k = 1 then 0 else if k = 2 then pd (a 0) (a 1) else pd (a 0) (a 1) + pd (a 0) (a 2) + pd (a 1) (a 2)
def sp_lg (k : Nat) (a b : Nat → Nat) : Nat := k * sp_lw k a b + sp_wa k a
theorem sp_lg_le {k : Nat} {a b : Nat → Nat} (hk : 1 ≤ k) (hk3 : k ≤ 3) (ha : ∀ s, s < k → a s ≤ 1000) (hb : ∀ s, s < k → b s ≤ 1000) : sp_lg k a b ≤ 12000 := by
  have h1 := sp_lw_le hk hk3 ha hb
  have h2 : sp_wa k a ≤ 3000 := by
    unfold sp_wa
    split
    · omega
    · split
      · have := pd_le (ha 0 (by omega)) (ha 1 (by omega)); omega
      · have := pd_le (ha 0 (by omega)) (ha 1 (by omega))
        have := pd_le (ha 0 (by omega)) (ha 2 (by omega))
        have := pd_le (ha 1 (by omega)) (ha 2 (by omega)); omega
  have h3 : k * sp_lw k a b ≤ 3 * 3000 := Nat.mul_le_mul hk3 h1
  unfold sp_lg
  omega
theorem sp_wa2 (a : Nat → Nat) : sp_wa 2 a = pd (a 0) (a 1) := by
  unfold sp_wa
  rw [if_neg (by decide), if_pos rfl]
theorem sp_wa3 (a : Nat → Nat) : sp_wa 3 a = pd (a 0) (a 1) + pd (a 0) (a 2) + pd (a 1) (a 2) := by
  unfold sp_wa
  rw [if_neg (by decide), if_neg (by decide)]
theorem waC {k : Nat} {F : mmS} {a : Nat → Nat} (hk : 1 ≤ k) (hk3 : k ≤ 3) (h11 : F 1 1 = nI k) (ha : ∀ s, s < k → a s ≤ 1000) (ea : ∀ s, s < k → F 82 s = nI (a s)) : m_X3_waysAmong_1_82 F = some (nI (sp_wa k a)) := by
  have s17 : ∀ n v i j, k ≤ j → j < 9 → m_X3_waysAmong_1_82_L17 F i (n + 1) v (nI j) = some v := by
    intro n v i j h h9
    rw [m_X3_waysAmong_1_82_L17, h11, if_pos (nI_le h (by omega))]
  have g17 : ∀ n v i j, i < k → j < k → m_X3_waysAmong_1_82_L17 F (nI i) (n + 1) (nI v) (nI j) = m_X3_waysAmong_1_82_L17 F (nI i) n (nI (v + pd (a i) (a j))) (nI (j + 1)) := by
    intro n v i j hi hj
    have p1 := ha i hi
    have p2 := ha j hj
    rw [m_X3_waysAmong_1_82_L17, h11, if_neg (nI_ge hj (by omega)), zi_rd i rfl (ea i hi) (show i < 3 by omega), zb_some, zi_rd j rfl (ea j hj) (show j < 3 by omega), zb_some, pb_abs (by omega) (by omega), zb_mlet, zb_mlet, nI_add, nI_1]
  have s4 : ∀ n v j, k ≤ j → j < 9 → m_X3_waysAmong_1_82_L4 F (n + 1) v (nI j) = some v := by
    intro n v j h h9
    rw [m_X3_waysAmong_1_82_L4, h11, if_pos (nI_le h (by omega))]
  have g4 : ∀ n v w i, i < k → m_X3_waysAmong_1_82_L17 F (nI i) 300 (nI v) (nI (i + 1)) = some (nI w) → m_X3_waysAmong_1_82_L4 F (n + 1) (nI v) (nI i) = m_X3_waysAmong_1_82_L4 F n (nI w) (nI (i + 1)) := by
    intro n v w i hi h
    rw [m_X3_waysAmong_1_82_L4, h11, if_neg (nI_ge hi (by omega)), zb_mlet, nI_1, h, zb_bd1, zb_mlet]
  unfold m_X3_waysAmong_1_82
  rw [show m_X3_waysAmong_1_82_L4 F 300 (0 : Int32) (0 : Int32) = m_X3_waysAmong_1_82_L4 F 300 (nI 0) (nI 0) from rfl]
  rcases (by omega : k = 1 ∨ k = 2 ∨ k = 3) with rfl | rfl | rfl
  · rw [g4 299 0 0 0 (by omega) (s17 299 _ _ 1 (by omega) (by omega)), s4 298 _ 1 (by omega) (by omega), zb_bd1]
    rfl
  · rw [g4 299 0 (0 + pd (a 0) (a 1)) 0 (by omega) (by rw [g17 299 0 0 (0 + 1) (by omega) (by omega), s17 298 _ _ (0 + 1 + 1) (by omega) (by omega)]), g4 298 _ _ 1 (by omega) (s17 299 _ _ 2 (by omega) (by omega)), s4 297 _ (1 + 1) (by omega) (by omega), zb_bd1, Nat.zero_add, sp_wa2]
  · rw [g4 299 0 (0 + pd (a 0) (a 1) + pd (a 0) (a 2)) 0 (by omega) (by rw [g17 299 0 0 (0 + 1) (by omega) (by omega), g17 298 _ 0 (0 + 1 + 1) (by omega) (by omega), s17 297 _ _ (0 + 1 + 1 + 1) (by omega) (by omega)]), g4 298 _ (0 + pd (a 0) (a 1) + pd (a 0) (a 2) + pd (a 1) (a 2)) 1 (by omega) (by rw [g17 299 _ 1 (1 + 1) (by omega) (by omega), s17 298 _ _ (1 + 1 + 1) (by omega) (by omega)]), g4 297 _ _ 2 (by omega) (s17 299 _ _ 3 (by omega) (by omega)), s4 296 _ (2 + 1) (by omega) (by omega), zb_bd1, Nat.zero_add, sp_wa3]
theorem stC {k : Nat} {F : mmS} {a b : Nat → Nat} (hk : 1 ≤ k) (hk3 : k ≤ 3) (h11 : F 1 1 = nI k) (ha : ∀ s, s < k → a s ≤ 1000) (hb : ∀ s, s < k → b s ≤ 1000) (ea : ∀ s, s < k → F 82 s = nI (a s)) (eb : ∀ s, s < k → F 37 s = nI (b s)) : m_X4_stored_80 F = some (nI (sp_lg k a b)) := by
  unfold m_X4_stored_80
  rw [zi_lw_82_37 hk hk3 h11 ha hb ea eb, zb_some, waC hk hk3 h11 ha ea, zb_some, h11, pk_mul, nI_add]
  rfl
theorem lgR {N k G c : Nat} {P S a : Nat → Nat} {F : mmS} (hn : sp_num N k G P S) (hl : sp_lr N k G P S F) (hc : sp_vl N k c) (ha : ∀ s, s < k → a s ≤ 1000) (ea : ∀ s, s < k → F 103 s = nI (a s)) : m_X12_longs_97 F (nI c) = some (nI (sp_lg k a (sp_ap P c))) := by
  have hN := hn.2.1
  have hN1 := hn.1
  have hk3 := hn.2.2.2.1
  have hk1 := hn.2.2.1
  have hP := hn.2.2.2.2.2.2.1
  have h11 := hl.2.1
  have v0 := sp_vl_po (s := 0) hN1 hc
  have v1 := sp_vl_po (s := 1) hN1 hc
  have v2 := sp_vl_po (s := 2) hN1 hc
  have h98 := hl.2.2.2.1
  have s85 : ∀ n v i, i < 9 → m_X12_longs_97_L85 F (nI i) (n + 1) v (nI i) = some v := by
    intro n v i h
    rw [m_X12_longs_97_L85, if_pos (nI_le (by omega) (by omega))]
  have g85 : ∀ n v i j, i < k → j < i → m_X12_longs_97_L85 F (nI i) (n + 1) (nI v) (nI j) = m_X12_longs_97_L85 F (nI i) n (nI (v + pd (a i) (a j))) (nI (j + 1)) := by
    intro n v i j hi hj
    have p1 := ha i hi
    have p2 := ha j (by omega)
    rw [m_X12_longs_97_L85, if_neg (nI_ge hj (by omega)), zi_rd i rfl (ea i hi) (show i < 3 by omega), zb_some, zi_rd j rfl (ea j (by omega)) (show j < 3 by omega), zb_some, pb_apart (by omega) (by omega), zb_some, zb_mlet, zb_mlet, nI_add, nI_1]
  have s73 : ∀ n v j, k ≤ j → j < 9 → m_X12_longs_97_L73 F (n + 1) v (nI j) = some v := by
    intro n v j h h9
    rw [m_X12_longs_97_L73, h11, if_pos (nI_le h (by omega))]
  have g73 : ∀ n v w i, i < k → m_X12_longs_97_L85 F (nI i) 300 (nI v) (nI 0) = some (nI w) → m_X12_longs_97_L73 F (n + 1) (nI v) (nI i) = m_X12_longs_97_L73 F n (nI w) (nI (i + 1)) := by
    intro n v w i hi h
    rw [m_X12_longs_97_L73, h11, if_neg (nI_ge hi (by omega)), show m_X12_longs_97_L85 F (nI i) 300 (nI v) (0 : Int32) = m_X12_longs_97_L85 F (nI i) 300 (nI v) (nI 0) from rfl, h, zb_bd1, zb_mlet, nI_1]
  unfold m_X12_longs_97
  rw [show m_X12_pointOf_97 (nI c) (0 : Int32) = some (nI (sp_po c 0)) from zi_poR (s := 0) hc.1 (by omega), show m_X12_pointOf_97 (nI c) (1 : Int32) = some (nI (sp_po c 1)) from zi_poR (s := 1) hc.1 (by omega), show m_X12_pointOf_97 (nI c) (2 : Int32) = some (nI (sp_po c 2)) from zi_poR (s := 2) hc.1 (by omega), zb_some, zi_rd (sp_po c 0) rfl (h98 _ v0) (show _ < 6 by omega), zb_some, zb_some, zi_rd (sp_po c 1) rfl (h98 _ v1) (show _ < 6 by omega), zb_some, zb_some, zi_rd (sp_po c 2) rfl (h98 _ v2) (show _ < 6 by omega), zb_some, zi_rd 0 li0 (rfl : F 103 0 = F 103 0) (by decide), zb_some, zi_rd 1 li1 (rfl : F 103 1 = F 103 1) (by decide), zb_some, zi_rd 2 li2 (rfl : F 103 2 = F 103 2) (by decide), zb_some, zi_lwR (a := a) (b := sp_ap P c) (a0 := F 103 0) (a1 := F 103 1) (a2 := F 103 2) (b0 := nI (P (sp_po c 0))) (b1 := nI (P (sp_po c 1))) (b2 := nI (P (sp_po c 2))) hk1 hk3 hl.2.1 ha (fun s _ => hP (sp_po c s)) (ea 0 (by omega)) (fun h => ea 1 (by omega)) (fun h => ea 2 (by omega)) rfl (fun _ => rfl) (fun _ => rfl), zb_some, h11, pk_mul, zb_mlet]
  unfold sp_lg
  generalize sp_lw k a (sp_ap P c) = L
  rw [show m_X12_longs_97_L73 F 300 (nI (k * L)) (0 : Int32) = m_X12_longs_97_L73 F 300 (nI (k * L)) (nI 0) from rfl]
  rcases (by omega : k = 1 ∨ k = 2 ∨ k = 3) with rfl | rfl | rfl
  · rw [g73 299 _ _ 0 (by omega) (s85 299 _ 0 (by omega)), s73 298 _ 1 (by omega) (by omega), zb_bd1]
    rfl
  · rw [g73 299 _ _ 0 (by omega) (s85 299 _ 0 (by omega)), g73 298 _ (2 * L + pd (a 1) (a 0)) (0 + 1) (by omega) (by rw [g85 299 _ (0 + 1) 0 (by omega) (by omega), s85 298 _ (0 + 1) (by omega)]), s73 297 _ (0 + 1 + 1) (by omega) (by omega), zb_bd1, sp_wa2, pd_comm (a 1) (a 0)]
  · rw [g73 299 _ _ 0 (by omega) (s85 299 _ 0 (by omega)), g73 298 _ (3 * L + pd (a 1) (a 0)) (0 + 1) (by omega) (by rw [g85 299 _ (0 + 1) 0 (by omega) (by omega), s85 298 _ (0 + 1) (by omega)]), g73 297 _ (3 * L + pd (a 1) (a 0) + pd (a 2) (a 0) + pd (a 2) (a 1)) (0 + 1 + 1) (by omega) (by rw [g85 299 _ (0 + 1 + 1) 0 (by omega) (by omega), g85 298 _ (0 + 1 + 1) (0 + 1) (by omega) (by omega), s85 297 _ (0 + 1 + 1) (by omega)]), s73 296 _ (0 + 1 + 1 + 1) (by omega) (by omega), zb_bd1, sp_wa3, pd_comm (a 1) (a 0), pd_comm (a 2) (a 0), pd_comm (a 2) (a 1), Nat.add_assoc, Nat.add_assoc, Nat.add_assoc]
/-- longing behind t, both sides -/
def sp_lt (k : Nat) (P S rp : Nat → Nat) (n t : Nat) : Nat := sp_lg k (sp_R1 k P S rp t).1 (sp_ap P (sp_bw k P S rp n t))
theorem sp_lt_le {N k G n t : Nat} {P S rp : Nat → Nat} (hn : sp_num N k G P S) : sp_lt k P S rp n t ≤ 12000 := sp_lg_le hn.2.2.1 hn.2.2.2.1 (sp_R1_le hn t).1 (fun s _ => hn.2.2.2.2.2.2.1 (sp_po _ s))
theorem lbC {N k G n t : Nat} {P S rp : Nat → Nat} {hh : Nat → Int32} {F : mmS} (hn : sp_num N k G P S) (hl : sp_lc N k G P S F) (hw : sp_rw n rp hh F) (hn40 : n ≤ 40) (hrp : ∀ t, t < n → rp t < N) (ht : t ≤ 40) : ∃ F1, m_X4_behind_80_14 F (nI t) = some (nI (sp_lt k P S rp n (min t n)), F1) ∧ sp_fr 36 83 F F1 := by
  obtain ⟨F1, a1, a2, a3⟩ := plA hn hl hw hn40 hrp
  have f1 : sp_fr 36 83 F F1 := sp_fr_up a3 (by omega) (by omega)
  obtain ⟨F2, b1, b2, b3⟩ := cl_36 (t := t) hn (sp_fr_lc f1 (by decide) hl) (sp_fr_rw f1 (by decide) hw) hn40 hrp a2 ht
  have f2 : sp_fr 36 83 F F2 := sp_fr_tr f1 (sp_fr_up b3 (by omega) (by omega))
  obtain ⟨F3, c1, ⟨g, c2⟩, c3⟩ := cl_81 (t := t) hn (sp_fr_lc f2 (by decide) hl) (sp_fr_rw f2 (by decide) hw) hn40 hrp ht
  have f3 : sp_fr 36 83 F F3 := sp_fr_tr f2 (sp_fr_up c3 (by omega) (by omega))
  refine ⟨F3, ?_, f3⟩
  unfold m_X4_behind_80_14
  rw [a1, zb_bd2, b1, zb_bd2, c1, zb_bd2, stC (a := (sp_R1 k P S rp (min t n)).1) (b := sp_ap P (sp_bw k P S rp n (min t n))) hn.2.2.1 hn.2.2.2.1 (sp_fr_lc f3 (by decide) hl).2.1 (sp_R1_le hn _).1 (fun s _ => hn.2.2.2.2.2.2.1 (sp_po _ s)) c2.1 (fun s hs => by rw [c3 37 (by omega)]; exact b2.1.1 s hs), zb_some]
  rfl
/-- a frame for what the reference works out -/
def sp_fX (F F1 : mmS) : Prop := (∀ c, (c < 97 ∨ c = 98 ∨ c = 99 ∨ c = 100 ∨ 109 ≤ c) → F1 c = F c) ∧ (∀ i, (i < 10 ∨ 22 < i) → F1 97 i = F 97 i)
theorem sp_fX_tr {F G H : mmS} (h : sp_fX F G) (h' : sp_fX G H) : sp_fX F H := ⟨fun c a => (h'.1 c a).trans (h.1 c a), fun i a => (h'.2 i a).trans (h.2 i a)⟩
theorem sp_fX_S {F G : mmS} (h : sp_fS F G) : sp_fX F G := ⟨fun c a => h.1 c (by omega) (by omega), fun i a => h.2 i (by omega) (by omega)⟩
theorem sp_fX_W {F G : mmS} (h : sp_fW F G) : sp_fX F G := ⟨fun c a => h.1 c (by omega) (by omega), fun i a => h.2 i (by omega)⟩
theorem sp_fX_G {F G : mmS} (h : sp_fG F G) : sp_fX F G := ⟨fun c a => h.1 c (by omega) (by omega), fun i a => h.2 i (by omega) (by omega) (by omega)⟩
theorem sp_fX_P {F G : mmS} (h : ∀ c, c ≠ 101 → c ≠ 102 → G c = F c) : sp_fX F G := ⟨fun c a => h c (by omega) (by omega), fun i _ => by rw [h 97 (by decide) (by decide)]⟩
theorem sp_fX_lr {N k G : Nat} {P S : Nat → Nat} {F F1 : mmS} (hf : sp_fX F F1) (h : sp_lr N k G P S F) : sp_lr N k G P S F1 := sp_lr_fr h (hf.1 98 (by omega)) (hf.1 99 (by omega)) (hf.2 0 (by omega)) (hf.2 2 (by omega)) (hf.2 4 (by omega))
theorem sp_fX_rr {n : Nat} {rp : Nat → Nat} {F F1 : mmS} (hf : sp_fX F F1) (h : sp_rr n rp F) : sp_rr n rp F1 := by
  unfold sp_rr at *
  rw [hf.1 100 (by omega), hf.2 5 (by omega)]
  exact h
theorem sp_fX_hn {n : Nat} {hh : Nat → Int32} {F F1 : mmS} (hf : sp_fX F F1) (h : sp_hn n hh F) : sp_hn n hh F1 := sp_hn_fr h (hf.1 109 (by omega)) (hf.1 111 (by omega)) (hf.1 112 (by omega)) (hf.2 2 (by omega))
theorem lbR {N k G n t : Nat} {P S rp : Nat → Nat} {F : mmS} (hn : sp_num N k G P S) (hl : sp_lr N k G P S F) (hr : sp_rr n rp F) (hn40 : n ≤ 40) (hrp : ∀ t, t < n → rp t < N) (ht : t ≤ 40) : ∃ F1, (Option.bind (m_X12_plans_97 F) fun G4 => Option.bind (m_X12_runs_97 G4 (1 : Int32) (nI t)) fun G5 => Option.bind (m_X12_first_97 G5 (nI t)) fun x6 => Option.bind (m_X12_standingAt_97 G5 x6) fun x7 => Option.bind (m_X12_longs_97 G5 x7) fun x8 => some (x8, G5)) = some (nI (sp_lt k P S rp n (min t n)), F1) ∧ sp_fX F F1 := by
  obtain ⟨F1, a1, a2, a3, a4⟩ := plR hn hl hr hn40 hrp
  have f1 : sp_fX F F1 := sp_fX_P a4
  obtain ⟨F2, b1, ⟨g, b2⟩, b3⟩ := rn_1 (t := t) hn (sp_fX_lr f1 hl) (sp_fX_rr f1 hr) hn40 hrp ht
  have f2 : sp_fX F F2 := sp_fX_tr f1 (sp_fX_S b3)
  have r2 := sp_fX_rr f2 hr
  have e102 : F2 102 = F1 102 := b3.1 102 (by decide) (by decide)
  have loop : ∀ d u f, u + d = min t n → d < f → m_X12_standingAt_97_L7 (nI (min t n)) F2 f (nI (sp_bw k P S rp n u)) (nI u) = some (nI (sp_bw k P S rp n (min t n))) := by
    intro d
    induction d with
    | zero =>
      intro u f h hf
      obtain ⟨f, rfl⟩ : ∃ m, f = m + 1 := ⟨f - 1, by omega⟩
      obtain rfl : u = min t n := by omega
      rw [m_X12_standingAt_97_L7, if_pos (nI_le (by omega) (by omega))]
    | succ d ih =>
      intro u f h hf
      obtain ⟨f, rfl⟩ : ∃ m, f = m + 1 := ⟨f - 1, by omega⟩
      have hv := sp_bw_vl hn hrp u (by omega)
      have hk3 := hn.2.2.2.1
      have hN := hn.2.1
      have hp := hrp u (by omega)
      have hs : sp_bs k P rp n (sp_bw k P S rp n u) u < k := sp_am_lt hn.2.2.1
      rw [m_X12_standingAt_97_L7, if_neg (nI_ge (by omega) (by omega)), zi_rd u rfl (show F2 102 u = nI (sp_bs k P rp n (sp_bw k P S rp n u) u) by rw [e102]; exact a3 u (by omega)) (show u < 40 by omega), zb_some, zi_rd u rfl (r2.2 u (by omega)) (show u < 40 by omega), zb_some, zi_mvR hv.1 (by omega) (by omega), zb_some, zb_mlet, nI_1]
      exact ih (u + 1) f (by omega) (by omega)
  refine ⟨F2, ?_, f2⟩
  rw [a1, zb_some, b1, zb_some]
  have hf : m_X12_first_97 F2 (nI t) = some (nI (min t n)) := by
    unfold m_X12_first_97
    rw [r2.1, zi_ifle (by omega) (by omega), Nat.min_comm]
  have hst : m_X12_standingAt_97 F2 (nI (min t n)) = some (nI (sp_bw k P S rp n (min t n))) := by
    unfold m_X12_standingAt_97
    rw [zi_bgR hn (sp_fX_lr f2 hl), zb_some, show m_X12_standingAt_97_L7 (nI (min t n)) F2 300 (nI (sp_s0 S)) (0 : Int32) = m_X12_standingAt_97_L7 (nI (min t n)) F2 300 (nI (sp_bw k P S rp n 0)) (nI 0) from rfl, loop (min t n) 0 300 (by omega) (by omega), zb_bd1]
  rw [hf, zb_some, hst, zb_some, lgR hn (sp_fX_lr f2 hl) (sp_bw_vl hn hrp _ (by omega)) (sp_R1_le hn _).1 b2.1, zb_some]
  rfl
/-- does step t pay -/
def sp_py (k : Nat) (P S rp : Nat → Nat) (n t : Nat) : Bool := decide (sp_lt k P S rp n (t + 1) + (sp_R1 k P S rp (t + 1)).2.1 ≤ sp_lt k P S rp n t + (sp_R1 k P S rp t).2.1 + k * sp_bd k P S rp n t)
def sp_fu (k : Nat) (P S rp : Nat → Nat) (n : Nat) : Nat → Nat → Int32
  | 0, _ => -1
  | d + 1, t => if sp_py k P S rp n t = true then sp_fu k P S rp n d (t + 1) else nI t
theorem zi_sublt {a x y : Nat} (ha : a < 2 ^ 30) (hx : x < 2 ^ 30) (hy : y < 2 ^ 30) : nI a < nI x - nI y ↔ a + y < x := by
  rw [Int32.lt_iff_toInt_lt, pk_sub_toInt hx hy, nI_toInt (by omega)]
  omega
theorem zi_suble {a x y : Nat} (ha : a < 2 ^ 30) (hx : x < 2 ^ 30) (hy : y < 2 ^ 30) : nI x - nI y ≤ nI a ↔ x ≤ y + a := by
  rw [Int32.le_iff_toInt_le, pk_sub_toInt hx hy, nI_toInt (by omega)]
  omega
theorem sp_bd_le {N k G n t : Nat} {P S rp : Nat → Nat} (hn : sp_num N k G P S) : sp_bd k P S rp n t ≤ 1000 := pd_le (hn.2.2.2.2.2.2.1 _) (hn.2.2.2.2.2.2.1 _)
theorem fuC {N k G n : Nat} {P S rp : Nat → Nat} {hh : Nat → Int32} {F : mmS} (hn : sp_num N k G P S) (hl : sp_lc N k G P S F) (hw : sp_rw n rp hh F) (hn40 : n ≤ 40) (hrp : ∀ t, t < n → rp t < N) : ∃ F1, m_X4_firstUnpaid_80_14 F = some (sp_fu k P S rp n n 0, F1) ∧ sp_fr 36 83 F F1 := by
  have hN := hn.2.1
  have hk3 := hn.2.2.2.1
  have hk1 := hn.2.2.1
  have hP := hn.2.2.2.2.2.2.1
  obtain ⟨A1, a1, a2, a3⟩ := plA hn hl hw hn40 hrp
  have f1 : sp_fr 36 83 F A1 := sp_fr_up a3 (by omega) (by omega)
  obtain ⟨A2, b1, b2, b3⟩ := aws hn (sp_fr_lc f1 (by decide) hl) a2
  have f2 : sp_fr 36 83 F A2 := sp_fr_tr f1 (sp_fr_up b3 (by omega) (by omega))
  obtain ⟨A3, c1, c2, c3⟩ := sas_81 hn (sp_fr_lc f2 (by decide) hl)
  have f3 : sp_fr 36 83 F A3 := sp_fr_tr f2 (sp_fr_up c3.2 (by omega) (by omega))
  have awf : ∀ {t : Nat} {X Y : mmS}, sp_aw N k P S rp n t X → (∀ c, 36 ≤ c → c < 80 → Y c = X c) → sp_aw N k P S rp n t Y := by
    intro t X Y h hf
    refine ⟨sp_ob_fr h.1 (hf 36 (by omega) (by omega)) (hf 37 (by omega) (by omega)), ?_, ?_, ?_⟩
    · rw [hf 36 (by omega) (by omega)]; exact h.2.1
    · rw [hf 36 (by omega) (by omega)]; exact h.2.2.1
    · intro u hu c hc
      rw [hf _ (by omega) (by omega)]; exact h.2.2.2 u hu c hc
  have loop : ∀ d t f H, t + d = n → d < f → sp_aw N k P S rp n t H → (∃ g, sp_ob k 81 82 (sp_R1 k P S rp t).1 (sp_R1 k P S rp t).2.1 g H) → sp_fr 36 83 F H → ∃ F1, bdE1 (m_X4_firstUnpaid_80_14_L25 f (nI t) H) (fun G12 => some ((-1 : Int32), G12)) = some (sp_fu k P S rp n d t, F1) ∧ sp_fr 36 83 F F1 := by
    intro d
    induction d with
    | zero =>
      intro t f H h hf h1 h2 h3
      obtain ⟨f, rfl⟩ : ∃ m, f = m + 1 := ⟨f - 1, by omega⟩
      rw [m_X4_firstUnpaid_80_14_L25, (sp_fr_rw h3 (by decide) hw).1, if_pos (nI_le (by omega) (by omega)), zb_E1r]
      exact ⟨H, rfl, h3⟩
    | succ d ih =>
      intro t f H h hf h1 h2 h3
      obtain ⟨f, rfl⟩ : ∃ m, f = m + 1 := ⟨f - 1, by omega⟩
      obtain ⟨g, h2⟩ := h2
      have lH := sp_fr_lc h3 (by decide) hl
      have rH := sp_fr_rw h3 (by decide) hw
      obtain ⟨J, g', j1, j2, j3⟩ := mee_81 (h := -1) (p := rp t) hn lH h2 (sp_R1_le hn t).1 (by have := hrp t (by omega); omega)
      have fJ : sp_fr 36 83 F J := sp_fr_tr h3 (sp_fr_up j3.2 (by omega) (by omega))
      obtain ⟨K, k1, k2, k3⟩ := awm (h := -1) hn (sp_fr_lc fJ (by decide) hl) hn40 hrp (show t < n by omega) (awf h1 (fun c _ hc => j3.2 c (by omega)))
      have fK : sp_fr 36 83 F K := sp_fr_tr fJ (sp_fr_up k3 (by omega) (by omega))
      have oK : sp_ob k 81 82 (sp_R1 k P S rp (t + 1)).1 (sp_R1 k P S rp (t + 1)).2.1 g' K := sp_ob_fr j2 (k3 81 (by omega)) (k3 82 (by omega))
      have sH := stC (a := (sp_R1 k P S rp t).1) (b := sp_ap P (sp_bw k P S rp n t)) hk1 hk3 lH.2.1 (sp_R1_le hn t).1 (fun s _ => hP (sp_po _ s)) h2.1 h1.1.1
      have sK := stC (a := (sp_R1 k P S rp (t + 1)).1) (b := sp_ap P (sp_bw k P S rp n (t + 1))) hk1 hk3 (sp_fr_lc fK (by decide) hl).2.1 (sp_R1_le hn (t + 1)).1 (fun s _ => hP (sp_po _ s)) oK.1 k2.1.1
      have m1 := sp_lt_le (n := n) (t := t) (rp := rp) hn
      have m2 := sp_lt_le (n := n) (t := t + 1) (rp := rp) hn
      have m3 := (sp_R1_le (rp := rp) hn t).2
      have m4 := (sp_R1_le (rp := rp) hn (t + 1)).2
      have m5 : k * sp_bd k P S rp n t ≤ 3 * 1000 := Nat.mul_le_mul hk3 (sp_bd_le hn)
      have hpa : m_X4_paysAt_80 H (nI (rp t)) = some (if sp_py k P S rp n t = true then 1 else 0, K) := by
        unfold m_X4_paysAt_80
        rw [sH, zb_some, zb_mlet, zb_mlet, h2.2.1, h1.1.2.1, j1, zb_some, k1, zb_some, sK, zb_some, zb_mlet, oK.2.1, nI_add, nI_add, (sp_fr_lc fK (by decide) hl).2.1, k2.1.2.1]
        have e : nI (sp_bc k P S rp n (t + 1)) - nI (sp_bc k P S rp n t) = nI (sp_bd k P S rp n t) := by
          have e2 : sp_bc k P S rp n (t + 1) = sp_bc k P S rp n t + sp_bd k P S rp n t := rfl
          rw [e2, pk_sub (by omega)]
          congr 1
          omega
        rw [e, pk_mul]
        have q := zi_sublt (a := k * sp_bd k P S rp n t) (x := sp_lt k P S rp n (t + 1) + (sp_R1 k P S rp (t + 1)).2.1) (y := sp_lt k P S rp n t + (sp_R1 k P S rp t).2.1) (by omega) (by omega) (by omega)
        unfold sp_py
        by_cases c : sp_lt k P S rp n (t + 1) + (sp_R1 k P S rp (t + 1)).2.1 ≤ sp_lt k P S rp n t + (sp_R1 k P S rp t).2.1 + k * sp_bd k P S rp n t
        · rw [decide_eq_true c, if_pos rfl]
          rw [if_neg (show ¬ nI (k * sp_bd k P S rp n t) < nI (sp_lg k (sp_R1 k P S rp (t + 1)).1 (sp_ap P (sp_bw k P S rp n (t + 1))) + (sp_R1 k P S rp (t + 1)).2.1) - nI (sp_lg k (sp_R1 k P S rp t).1 (sp_ap P (sp_bw k P S rp n t)) + (sp_R1 k P S rp t).2.1) from fun h => by have := q.mp h; omega)]
          rfl
        · rw [decide_eq_false c, if_neg (show ¬ false = true by decide)]
          rw [if_pos (show nI (k * sp_bd k P S rp n t) < nI (sp_lg k (sp_R1 k P S rp (t + 1)).1 (sp_ap P (sp_bw k P S rp n (t + 1))) + (sp_R1 k P S rp (t + 1)).2.1) - nI (sp_lg k (sp_R1 k P S rp t).1 (sp_ap P (sp_bw k P S rp n t)) + (sp_R1 k P S rp t).2.1) from q.mpr (by omega))]
          rfl
      rw [m_X4_firstUnpaid_80_14_L25, rH.1, if_neg (nI_ge (by omega) (by omega)), zi_rd t rfl (rH.2 t (by omega)).1 (show t < 40 by omega), zb_some, hpa, zb_bd2]
      show ∃ F1, _ = some (if sp_py k P S rp n t = true then sp_fu k P S rp n d (t + 1) else nI t, F1) ∧ _
      cases sp_py k P S rp n t with
      | true =>
        rw [if_pos rfl, if_neg (show ¬ (1 : Int32) = 0 by decide), if_pos rfl, zb_mlet, nI_1]
        exact ih (t + 1) f K (by omega) (by omega) k2 ⟨g', oK⟩ fK
      | false =>
        rw [if_neg (show ¬ false = true by decide), if_pos rfl, if_neg (show ¬ false = true by decide), zb_E1l]
        exact ⟨K, rfl, fK⟩
  unfold m_X4_firstUnpaid_80_14
  rw [a1, zb_bd2, b1, zb_some, show m_X7_begin_81 A2 = some A3 by unfold m_X7_begin_81; rw [c1, zb_some], zb_some]
  exact loop n 0 300 A3 (by omega) (by omega) (awf b2 (fun c _ hc => c3.2 c (by omega))) ⟨_, sp_ob_mono c2 hk3⟩ f3
theorem fuR {N k G n : Nat} {P S rp : Nat → Nat} {F : mmS} (hn : sp_num N k G P S) (hl : sp_lr N k G P S F) (hr : sp_rr n rp F) (hn40 : n ≤ 40) (hrp : ∀ t, t < n → rp t < N) : ∃ F1, m_X12_paysNot_97 F = some (sp_fu k P S rp n n 0, F1) ∧ sp_fX F F1 := by
  have hN := hn.2.1
  have hk3 := hn.2.2.2.1
  have hk1 := hn.2.2.1
  have hP := hn.2.2.2.2.2.2.1
  obtain ⟨A1, a1, a2, a3, a4⟩ := plR hn hl hr hn40 hrp
  have f1 : sp_fX F A1 := sp_fX_P a4
  obtain ⟨A2, b1, b2, b3⟩ := staR hn (sp_fX_lr f1 hl)
  have f2 : sp_fX F A2 := sp_fX_tr f1 (sp_fX_S b3)
  have loop : ∀ d t f H, t + d = n → d < f → (∃ g, sp_or k (sp_R1 k P S rp t).1 (sp_R1 k P S rp t).2.1 g H) → (∀ t, t < n → H 102 t = nI (sp_bs k P rp n (sp_bw k P S rp n t) t)) → sp_fX F H → ∃ F1, bdE1 (m_X12_paysNot_97_L21 f (nI (sp_bw k P S rp n t)) (nI (sp_lt k P S rp n t)) (nI t) H) (fun G20 => some ((-1 : Int32), G20)) = some (sp_fu k P S rp n d t, F1) ∧ sp_fX F F1 := by
    intro d
    induction d with
    | zero =>
      intro t f H h hf h1 h2 h3
      obtain ⟨f, rfl⟩ : ∃ m, f = m + 1 := ⟨f - 1, by omega⟩
      rw [m_X12_paysNot_97_L21, (sp_fX_rr h3 hr).1, if_pos (nI_le (by omega) (by omega)), zb_E1r]
      exact ⟨H, rfl, h3⟩
    | succ d ih =>
      intro t f H h hf h1 h2 h3
      obtain ⟨f, rfl⟩ : ∃ m, f = m + 1 := ⟨f - 1, by omega⟩
      obtain ⟨g, h1⟩ := h1
      have ht : t < n := by omega
      have hp := hrp t ht
      obtain ⟨J, g', j1, j2, j3⟩ := go1R hn (sp_fX_lr h3 hl) (sp_fX_rr h3 hr) ht hn40 hp h1 (sp_R1_le hn t).1
      have fJ : sp_fX F J := sp_fX_tr h3 (sp_fX_S j3)
      have lJ := sp_fX_lr fJ hl
      have rJ := sp_fX_rr fJ hr
      have e102 : J 102 t = nI (sp_bs k P rp n (sp_bw k P S rp n t) t) := by rw [j3.1 102 (by decide) (by decide)]; exact h2 t ht
      have hv := sp_bw_vl hn hrp t (by omega)
      have hv1 := sp_bw_vl hn hrp (t + 1) (by omega)
      have hs : sp_bs k P rp n (sp_bw k P S rp n t) t < k := sp_am_lt hk1
      have oJ : sp_or k (sp_R1 k P S rp (t + 1)).1 (sp_R1 k P S rp (t + 1)).2.1 g' J := j2
      have eL := lgR (a := (sp_R1 k P S rp (t + 1)).1) hn lJ hv1 (sp_R1_le hn (t + 1)).1 oJ.1
      have m1 := sp_lt_le (n := n) (t := t) (rp := rp) hn
      have m2 := sp_lt_le (n := n) (t := t + 1) (rp := rp) hn
      have m3 := (sp_R1_le (rp := rp) hn t).2
      have m4 := (sp_R1_le (rp := rp) hn (t + 1)).2
      have m5 : k * sp_bd k P S rp n t ≤ 3 * 1000 := Nat.mul_le_mul hk3 (sp_bd_le hn)
      have m6 : (sp_R1 k P S rp t).2.1 ≤ (sp_R1 k P S rp (t + 1)).2.1 := Nat.le_add_right _ _
      rw [m_X12_paysNot_97_L21, (sp_fX_rr h3 hr).1, if_neg (nI_ge (by omega) (by omega)), zb_mlet, h1.2.1, j1, zb_some, zi_rd t rfl e102 (show t < 40 by omega), zb_some, zi_rd t rfl (rJ.2 t ht) (show t < 40 by omega), zb_some, zi_wayR hn lJ hv hp (by omega), zb_some, zb_some, zb_some, zi_mvR hv.1 (by omega) (by omega), zb_some, show m_X12_longs_97 J (nI (sp_mv (sp_bw k P S rp n t) (sp_bs k P rp n (sp_bw k P S rp n t) t) (rp t))) = some (nI (sp_lt k P S rp n (t + 1))) from eL, zb_some, oJ.2.1, lJ.2.1, pk_sub m6, nI_add, pk_mul]
      have q := zi_suble (a := k * sp_bd k P S rp n t) (x := (sp_R1 k P S rp (t + 1)).2.1 - (sp_R1 k P S rp t).2.1 + sp_lt k P S rp n (t + 1)) (y := sp_lt k P S rp n t) (by omega) (by omega) (by omega)
      show ∃ F1, _ = some (if sp_py k P S rp n t = true then sp_fu k P S rp n d (t + 1) else nI t, F1) ∧ _
      have ep : pd (P (sp_po (sp_bw k P S rp n t) (sp_bs k P rp n (sp_bw k P S rp n t) t))) (P (rp t)) = sp_bd k P S rp n t := rfl
      rw [ep]
      by_cases c : sp_lt k P S rp n (t + 1) + (sp_R1 k P S rp (t + 1)).2.1 ≤ sp_lt k P S rp n t + (sp_R1 k P S rp t).2.1 + k * sp_bd k P S rp n t
      · have epy : sp_py k P S rp n t = true := decide_eq_true c
        rw [epy, if_pos rfl, if_pos (q.mpr (by omega)), zb_mlet, nI_1]
        exact ih (t + 1) f J (by omega) (by omega) ⟨g', oJ⟩ (fun u hu => by rw [j3.1 102 (by decide) (by decide)]; exact h2 u hu) fJ
      · have epy : sp_py k P S rp n t = false := decide_eq_false c
        rw [epy, if_neg (show ¬ false = true by decide), if_neg (fun h => by have := q.mp h; omega), zb_E1l]
        exact ⟨J, rfl, fJ⟩
  unfold m_X12_paysNot_97
  rw [a1, zb_some, b1, zb_some, zi_bgR hn (sp_fX_lr f2 hl), zb_some, show m_X12_longs_97 A2 (nI (sp_s0 S)) = some (nI (sp_lt k P S rp n 0)) from lgR hn (sp_fX_lr f2 hl) (sp_s0_vl hn) (fun s _ => hP (S s)) b2.1, zb_some]
  exact loop n 0 300 A2 (by omega) (by omega) ⟨_, b2⟩ (fun t ht => by rw [b3.1 102 (by decide) (by decide)]; exact a3 t ht) f2
