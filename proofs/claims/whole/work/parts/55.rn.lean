/-! PURE: whole runs of rules 0, 1 and 3, on both sides -/
def sp_R0 (k : Nat) (P S rp : Nat → Nat) (t : Nat) : (Nat → Nat) × Nat × Int32 := sp_rn (sp_t0 k P rp) (sp_a0 P S) t
def sp_R1 (k : Nat) (P S rp : Nat → Nat) (t : Nat) : (Nat → Nat) × Nat × Int32 := sp_rn (sp_t1 k P rp) (sp_a0 P S) t
def sp_R3 (k : Nat) (P S rp : Nat → Nat) (hh : Nat → Int32) (t : Nat) : (Nat → Nat) × Nat × Int32 := sp_rn (sp_t3 k P rp hh) (sp_a0 P S) t
def sp_hok (k n : Nat) (hh : Nat → Int32) : Prop := ∀ t, t < n → hh t = -1 ∨ ∃ j, j < k ∧ hh t = nI j
theorem sp_R0_le {N k G : Nat} {P S rp : Nat → Nat} (hn : sp_num N k G P S) (t : Nat) : (∀ s, s < k → (sp_R0 k P S rp t).1 s ≤ 1000) ∧ (sp_R0 k P S rp t).2.1 ≤ 2000 * t :=
  sp_rn_inv (Q := fun a => ∀ s, s < k → a s ≤ 1000) (n := t) (fun s _ => hn.2.2.2.2.2.2.1 _) (fun u a _ ha => sp_t0_le hn.2.2.1 hn.2.2.2.2.2.2.1 u ha) t (Nat.le_refl t)
theorem sp_R1_le {N k G : Nat} {P S rp : Nat → Nat} (hn : sp_num N k G P S) (t : Nat) : (∀ s, s < k → (sp_R1 k P S rp t).1 s ≤ 1000) ∧ (sp_R1 k P S rp t).2.1 ≤ 2000 * t :=
  sp_rn_inv (Q := fun a => ∀ s, s < k → a s ≤ 1000) (n := t) (fun s _ => hn.2.2.2.2.2.2.1 _) (fun u a _ ha => sp_t1_le hn.2.2.2.2.2.2.1 u ha) t (Nat.le_refl t)
theorem sp_R3_le {N k G n : Nat} {P S rp : Nat → Nat} {hh : Nat → Int32} (hn : sp_num N k G P S) (hk : sp_hok k n hh) (t : Nat) (ht : t ≤ n) : (∀ s, s < k → (sp_R3 k P S rp hh t).1 s ≤ 1000) ∧ (sp_R3 k P S rp hh t).2.1 ≤ 2000 * t :=
  sp_rn_inv (Q := fun a => ∀ s, s < k → a s ≤ 1000) (n := n) (fun s _ => hn.2.2.2.2.2.2.1 _) (fun u a hu ha => sp_t3_le hn.2.2.1 hn.2.2.2.1 hn.2.2.2.2.2.2.1 u (hk u hu) ha) t ht
theorem sp_ob_mono {k q r c : Nat} {a : Nat → Nat} {g : Int32} {F : mmS} (h : sp_ob 3 q r a c g F) (hk : k ≤ 3) : sp_ob k q r a c g F := ⟨fun s hs => h.1 s (by omega), h.2⟩
theorem sp_fr_lc {N k G lo hi : Nat} {P S : Nat → Nat} {F F1 : mmS} (hf : sp_fr lo hi F F1) (h6 : 6 ≤ lo) (h : sp_lc N k G P S F) : sp_lc N k G P S F1 := sp_lc_fr h (fun c hc => hf c (by omega))
theorem sp_fr_rw {n lo hi : Nat} {rp : Nat → Nat} {hh : Nat → Int32} {F F1 : mmS} (hf : sp_fr lo hi F F1) (h6 : 17 ≤ lo) (h : sp_rw n rp hh F) : sp_rw n rp hh F1 := sp_rw_fr h (fun c _ hc => hf c (by omega))
theorem cl_30 {N k G n t : Nat} {P S rp : Nat → Nat} {hh : Nat → Int32} {F : mmS} (hn : sp_num N k G P S) (hl : sp_lc N k G P S F) (hw : sp_rw n rp hh F) (hn40 : n ≤ 40) (hrp : ∀ t, t < n → rp t < N) (hf : F 30 4 = 0) (ht : t ≤ 40) : ∃ F1, m_X6_lead_14_30 F (nI t) = some (nI (sp_R0 k P S rp (min t n)).2.1, F1) ∧ sp_ob k 30 31 (sp_R0 k P S rp (min t n)).1 (sp_R0 k P S rp (min t n)).2.1 (sp_R0 k P S rp (min t n)).2.2 F1 ∧ F1 30 4 = 0 ∧ sp_fr 30 (30 + 2) F F1 := by
  have hN := hn.2.1
  obtain ⟨F0, b1, b2, b3⟩ := sas_30 hn hl
  have hb : m_X7_begin_30 F = some F0 := by unfold m_X7_begin_30; rw [b1, Option.bind_some]
  obtain ⟨F1, h1, h2⟩ := lda_30 (fun u F' => sp_ob k 30 31 (sp_R0 k P S rp u).1 (sp_R0 k P S rp u).2.1 (sp_R0 k P S rp u).2.2 F' ∧ F' 30 4 = 0 ∧ sp_fr 30 (30 + 2) F F') (N := n) (rp := rp) (hh := hh) (t := t) hn40 ht hw.1 hb ⟨sp_ob_mono b2 hn.2.2.2.1, (b3.1 4 (by decide) (by decide)).trans hf, b3.2⟩ (fun u F' hu hz => (sp_fr_rw hz.2.2 (by decide) hw).2 u hu) (fun u F' hu hz => by
    obtain ⟨z1, z2, z3⟩ := hz
    obtain ⟨F2, e1, e2, e3⟩ := mee_30 (h := hh u) (p := rp u) hn (sp_fr_lc z3 (by decide) hl) z2 z1 (sp_R0_le hn u).1 (by have := hrp u hu; omega)
    exact ⟨F2, e1, e2, (e3.1 4 (by decide) (by decide)).trans z2, sp_fr_tr z3 e3.2⟩)
  refine ⟨F1, ?_, h2⟩
  rw [h1, h2.1.2.1]
theorem cl_34 {N k G n t : Nat} {P S rp : Nat → Nat} {hh : Nat → Int32} {F : mmS} (hn : sp_num N k G P S) (hl : sp_lc N k G P S F) (hw : sp_rw n rp hh F) (hn40 : n ≤ 40) (hrp : ∀ t, t < n → rp t < N) (hok : sp_hok k n hh) (hf : F 34 4 = 1) (ht : t ≤ 40) : ∃ F1, m_X6_lead_14_34 F (nI t) = some (nI (sp_R3 k P S rp hh (min t n)).2.1, F1) ∧ sp_ob k 34 35 (sp_R3 k P S rp hh (min t n)).1 (sp_R3 k P S rp hh (min t n)).2.1 (sp_R3 k P S rp hh (min t n)).2.2 F1 ∧ F1 34 4 = 1 ∧ sp_fr 34 (34 + 2) F F1 := by
  have hN := hn.2.1
  obtain ⟨F0, b1, b2, b3⟩ := sas_34 hn hl
  have hb : m_X7_begin_34 F = some F0 := by unfold m_X7_begin_34; rw [b1, Option.bind_some]
  obtain ⟨F1, h1, h2⟩ := lda_34 (fun u F' => sp_ob k 34 35 (sp_R3 k P S rp hh u).1 (sp_R3 k P S rp hh u).2.1 (sp_R3 k P S rp hh u).2.2 F' ∧ F' 34 4 = 1 ∧ sp_fr 34 (34 + 2) F F') (N := n) (rp := rp) (hh := hh) (t := t) hn40 ht hw.1 hb ⟨sp_ob_mono b2 hn.2.2.2.1, (b3.1 4 (by decide) (by decide)).trans hf, b3.2⟩ (fun u F' hu hz => (sp_fr_rw hz.2.2 (by decide) hw).2 u hu) (fun u F' hu hz => by
    obtain ⟨z1, z2, z3⟩ := hz
    obtain ⟨F2, e1, e2, e3⟩ := mee_34 (h := hh u) (p := rp u) hn (sp_fr_lc z3 (by decide) hl) z2 z1 (sp_R3_le hn hok u (by omega)).1 (by have := hrp u hu; omega) (hok u hu)
    exact ⟨F2, e1, e2, (e3.1 4 (by decide) (by decide)).trans z2, sp_fr_tr z3 e3.2⟩)
  refine ⟨F1, ?_, h2⟩
  rw [h1, h2.1.2.1]
theorem cl_32 {N k G n t : Nat} {P S rp : Nat → Nat} {hh : Nat → Int32} {F : mmS} (hn : sp_num N k G P S) (hl : sp_lc N k G P S F) (hw : sp_rw n rp hh F) (hn40 : n ≤ 40) (hrp : ∀ t, t < n → rp t < N) (ht : t ≤ 40) : ∃ F1, m_X6_lead_14_32 F (nI t) = some (nI (sp_R1 k P S rp (min t n)).2.1, F1) ∧ (∃ g, sp_ob k 32 33 (sp_R1 k P S rp (min t n)).1 (sp_R1 k P S rp (min t n)).2.1 g F1) ∧ sp_fr 32 (32 + 2) F F1 := by
  have hN := hn.2.1
  obtain ⟨F0, b1, b2, b3⟩ := sas_32 hn hl
  have hb : m_X7_begin_32 F = some F0 := by unfold m_X7_begin_32; rw [b1, Option.bind_some]
  obtain ⟨F1, h1, h2⟩ := lda_32 (fun u F' => (∃ g, sp_ob k 32 33 (sp_R1 k P S rp u).1 (sp_R1 k P S rp u).2.1 g F') ∧ sp_fr 32 (32 + 2) F F') (N := n) (rp := rp) (hh := hh) (t := t) hn40 ht hw.1 hb ⟨⟨_, sp_ob_mono b2 hn.2.2.2.1⟩, b3.2⟩ (fun u F' hu hz => (sp_fr_rw hz.2 (by decide) hw).2 u hu) (fun u F' hu hz => by
    obtain ⟨⟨g, z1⟩, z3⟩ := hz
    obtain ⟨F2, g2, e1, e2, e3⟩ := mee_32 (h := hh u) (p := rp u) hn (sp_fr_lc z3 (by decide) hl) z1 (sp_R1_le hn u).1 (by have := hrp u hu; omega)
    exact ⟨F2, e1, ⟨g2, e2⟩, sp_fr_tr z3 e3.2⟩)
  refine ⟨F1, ?_, h2⟩
  obtain ⟨g, z1⟩ := h2.1
  rw [h1, z1.2.1]
theorem cl_81 {N k G n t : Nat} {P S rp : Nat → Nat} {hh : Nat → Int32} {F : mmS} (hn : sp_num N k G P S) (hl : sp_lc N k G P S F) (hw : sp_rw n rp hh F) (hn40 : n ≤ 40) (hrp : ∀ t, t < n → rp t < N) (ht : t ≤ 40) : ∃ F1, m_X6_lead_14_81 F (nI t) = some (nI (sp_R1 k P S rp (min t n)).2.1, F1) ∧ (∃ g, sp_ob k 81 82 (sp_R1 k P S rp (min t n)).1 (sp_R1 k P S rp (min t n)).2.1 g F1) ∧ sp_fr 81 (81 + 2) F F1 := by
  have hN := hn.2.1
  obtain ⟨F0, b1, b2, b3⟩ := sas_81 hn hl
  have hb : m_X7_begin_81 F = some F0 := by unfold m_X7_begin_81; rw [b1, Option.bind_some]
  obtain ⟨F1, h1, h2⟩ := lda_81 (fun u F' => (∃ g, sp_ob k 81 82 (sp_R1 k P S rp u).1 (sp_R1 k P S rp u).2.1 g F') ∧ sp_fr 81 (81 + 2) F F') (N := n) (rp := rp) (hh := hh) (t := t) hn40 ht hw.1 hb ⟨⟨_, sp_ob_mono b2 hn.2.2.2.1⟩, b3.2⟩ (fun u F' hu hz => (sp_fr_rw hz.2 (by decide) hw).2 u hu) (fun u F' hu hz => by
    obtain ⟨⟨g, z1⟩, z3⟩ := hz
    obtain ⟨F2, g2, e1, e2, e3⟩ := mee_81 (h := hh u) (p := rp u) hn (sp_fr_lc z3 (by decide) hl) z1 (sp_R1_le hn u).1 (by have := hrp u hu; omega)
    exact ⟨F2, e1, ⟨g2, e2⟩, sp_fr_tr z3 e3.2⟩)
  refine ⟨F1, ?_, h2⟩
  obtain ⟨g, z1⟩ := h2.1
  rw [h1, z1.2.1]
theorem rn_0 {N k G n t : Nat} {P S rp : Nat → Nat} {F : mmS} (hn : sp_num N k G P S) (hl : sp_lr N k G P S F) (hr : sp_rr n rp F) (hn40 : n ≤ 40) (hrp : ∀ t, t < n → rp t < N) (ht : t ≤ 40) : ∃ F1, m_X12_runs_97 F 0 (nI t) = some F1 ∧ sp_or k (sp_R0 k P S rp (min t n)).1 (sp_R0 k P S rp (min t n)).2.1 (sp_R0 k P S rp (min t n)).2.2 F1 ∧ sp_fS F F1 := by
  obtain ⟨F0, b1, b2, b3⟩ := staR hn hl
  exact run_R (fun u F' => sp_or k (sp_R0 k P S rp u).1 (sp_R0 k P S rp u).2.1 (sp_R0 k P S rp u).2.2 F' ∧ sp_fS F F') 0 hn40 ht (by decide) b1 ⟨b2, b3⟩ (fun u F' hz => (sp_fS_rr hz.2 hr).1) (fun u F' hu hz => by
    obtain ⟨z1, z2⟩ := hz
    obtain ⟨F2, e1, e2, e3⟩ := go0R hn (sp_fS_lr z2 hl) (sp_fS_rr z2 hr) hu hn40 (hrp u hu) z1 (sp_R0_le hn u).1
    exact ⟨F2, e1, e2, sp_fS_tr z2 e3⟩)
theorem rn_3 {N k G n t : Nat} {P S rp : Nat → Nat} {hh : Nat → Int32} {F : mmS} (hn : sp_num N k G P S) (hl : sp_lr N k G P S F) (hr : sp_rr n rp F) (hn40 : n ≤ 40) (hrp : ∀ t, t < n → rp t < N) (hok : sp_hok k n hh) (hq : sp_hn n hh F) (ht : t ≤ 40) : ∃ F1, m_X12_runs_97 F 3 (nI t) = some F1 ∧ sp_or k (sp_R3 k P S rp hh (min t n)).1 (sp_R3 k P S rp hh (min t n)).2.1 (sp_R3 k P S rp hh (min t n)).2.2 F1 ∧ sp_fS F F1 := by
  obtain ⟨F0, b1, b2, b3⟩ := staR hn hl
  exact run_R (fun u F' => sp_or k (sp_R3 k P S rp hh u).1 (sp_R3 k P S rp hh u).2.1 (sp_R3 k P S rp hh u).2.2 F' ∧ sp_fS F F') 3 hn40 ht (by decide) b1 ⟨b2, b3⟩ (fun u F' hz => (sp_fS_rr hz.2 hr).1) (fun u F' hu hz => by
    obtain ⟨z1, z2⟩ := hz
    obtain ⟨F2, e1, e2, e3⟩ := go3R hn (sp_fS_lr z2 hl) (sp_fS_rr z2 hr) (sp_fS_hn z2 hq) hu hn40 (hrp u hu) (hok u hu) z1 (sp_R3_le hn hok u (by omega)).1
    exact ⟨F2, e1, e2, sp_fS_tr z2 e3⟩)
theorem rn_1 {N k G n t : Nat} {P S rp : Nat → Nat} {F : mmS} (hn : sp_num N k G P S) (hl : sp_lr N k G P S F) (hr : sp_rr n rp F) (hn40 : n ≤ 40) (hrp : ∀ t, t < n → rp t < N) (ht : t ≤ 40) : ∃ F1, m_X12_runs_97 F 1 (nI t) = some F1 ∧ (∃ g, sp_or k (sp_R1 k P S rp (min t n)).1 (sp_R1 k P S rp (min t n)).2.1 g F1) ∧ sp_fS F F1 := by
  obtain ⟨F0, b1, b2, b3⟩ := staR hn hl
  exact run_R (fun u F' => (∃ g, sp_or k (sp_R1 k P S rp u).1 (sp_R1 k P S rp u).2.1 g F') ∧ sp_fS F F') 1 hn40 ht (by decide) b1 ⟨⟨_, b2⟩, b3⟩ (fun u F' hz => (sp_fS_rr hz.2 hr).1) (fun u F' hu hz => by
    obtain ⟨⟨g, z1⟩, z2⟩ := hz
    obtain ⟨F2, g2, e1, e2, e3⟩ := go1R hn (sp_fS_lr z2 hl) (sp_fS_rr z2 hr) hu hn40 (hrp u hu) z1 (sp_R1_le hn u).1
    exact ⟨F2, e1, ⟨g2, e2⟩, sp_fS_tr z2 e3⟩)
