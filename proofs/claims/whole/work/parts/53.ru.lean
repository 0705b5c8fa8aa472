/-! PURE: a rule's object: where its servers are, what is gone, who went last -/
def sp_ob (k q r : Nat) (a : Nat → Nat) (c : Nat) (g : Int32) (F : mmS) : Prop := (∀ s, s < k → F r s = nI (a s)) ∧ F q 2 = nI c ∧ F q 3 = g
def sp_fo (q : Nat) (F F1 : mmS) : Prop := (∀ i, i ≠ 2 → i ≠ 3 → F1 q i = F q i) ∧ sp_fr q (q + 2) F F1
theorem sp_fo_refl (q : Nat) (F : mmS) : sp_fo q F F := ⟨fun _ _ _ => rfl, sp_fr_refl _ _ _⟩
theorem sp_fo_tr {q : Nat} {F G H : mmS} (h : sp_fo q F G) (h' : sp_fo q G H) : sp_fo q F H := ⟨fun i a b => (h'.1 i a b).trans (h.1 i a b), sp_fr_tr h.2 h'.2⟩
theorem sp_fo_s2 (q : Nat) (F : mmS) (v : Int32) : sp_fo q F (stF F q 2 v) := ⟨fun i a _ => st_ne F v (fun h => a h.2), sp_fr_st F 2 v (by omega) (by omega)⟩
theorem sp_fo_s3 (q : Nat) (F : mmS) (v : Int32) : sp_fo q F (stF F q 3 v) := ⟨fun i _ b => st_ne F v (fun h => b h.2), sp_fr_st F 3 v (by omega) (by omega)⟩
theorem sp_fo_r (q r : Nat) (F : mmS) (j : Nat) (v : Int32) (h : r = q + 1) : sp_fo q F (stF F r j v) := ⟨fun i _ _ => st_ne F v (fun h' => by omega), sp_fr_st F j v (by omega) (by omega)⟩
theorem sp_ob_fr {k q r c : Nat} {a : Nat → Nat} {g : Int32} {F F1 : mmS} (h : sp_ob k q r a c g F) (h1 : F1 q = F q) (h2 : F1 r = F r) : sp_ob k q r a c g F1 := by
  unfold sp_ob at *
  rw [h1, h2]
  exact h
def sp_rw (n : Nat) (rp : Nat → Nat) (hh : Nat → Int32) (F : mmS) : Prop := F 14 2 = nI n ∧ ∀ t, t < n → F 15 t = nI (rp t) ∧ F 16 t = hh t
theorem sp_rw_fr {n : Nat} {rp : Nat → Nat} {hh : Nat → Int32} {F F1 : mmS} (h : sp_rw n rp hh F) (hf : ∀ c, 14 ≤ c → c < 17 → F1 c = F c) : sp_rw n rp hh F1 := by
  unfold sp_rw at *
  rw [hf 14 (by omega) (by omega), hf 15 (by omega) (by omega), hf 16 (by omega) (by omega)]
  exact h
/-- the places of the start -/
def sp_a0 (P S : Nat → Nat) (s : Nat) : Nat := P (S s)
def sp_c0 (k : Nat) (a : Nat → Nat) (x : Nat) : Nat := sp_am (fun s => pd (a s) x) k
def sp_c3 (k : Nat) (a : Nat → Nat) (x : Nat) (h : Int32) : Nat := if h = -1 then sp_c0 k a x else h.toNatClampNeg
theorem sp_c0_lt {k : Nat} {a : Nat → Nat} {x : Nat} (hk : 1 ≤ k) : sp_c0 k a x < k := sp_am_lt hk
theorem sp_c3_lt {k : Nat} {a : Nat → Nat} {x : Nat} {h : Int32} (hk : 1 ≤ k) (hk3 : k ≤ 3) (hh : h = -1 ∨ ∃ j, j < k ∧ h = nI j) : sp_c3 k a x h < k := by
  unfold sp_c3
  split
  · exact sp_c0_lt hk
  · rcases hh with hh | ⟨j, hj, rfl⟩
    · contradiction
    · rw [nI_clamp (by omega)]; exact hj
def sp_t0 (k : Nat) (P rp : Nat → Nat) (t : Nat) (a : Nat → Nat) : (Nat → Nat) × Nat × Int32 := (sp_ua a (sp_c0 k a (P (rp t))) (P (rp t)), pd (a (sp_c0 k a (P (rp t)))) (P (rp t)), nI (sp_c0 k a (P (rp t))))
def sp_t1 (k : Nat) (P rp : Nat → Nat) (t : Nat) (a : Nat → Nat) : (Nat → Nat) × Nat × Int32 := ((sp_bo k a (P (rp t))).1, (sp_bo k a (P (rp t))).2, 0)
def sp_t3 (k : Nat) (P rp : Nat → Nat) (hh : Nat → Int32) (t : Nat) (a : Nat → Nat) : (Nat → Nat) × Nat × Int32 := (sp_ua a (sp_c3 k a (P (rp t)) (hh t)) (P (rp t)), pd (a (sp_c3 k a (P (rp t)) (hh t))) (P (rp t)), nI (sp_c3 k a (P (rp t)) (hh t)))
theorem sp_t0_le {k : Nat} {P rp a : Nat → Nat} (hk : 1 ≤ k) (hP : ∀ p, P p ≤ 1000) (t : Nat) (ha : ∀ s, s < k → a s ≤ 1000) : (∀ s, s < k → (sp_t0 k P rp t a).1 s ≤ 1000) ∧ (sp_t0 k P rp t a).2.1 ≤ 2000 := by
  refine ⟨sp_ua_le ha (hP _), ?_⟩
  have := pd_le (ha _ (sp_c0_lt (a := a) (x := P (rp t)) hk)) (hP (rp t))
  show pd _ _ ≤ 2000
  omega
theorem sp_t1_le {k : Nat} {P rp a : Nat → Nat} (hP : ∀ p, P p ≤ 1000) (t : Nat) (ha : ∀ s, s < k → a s ≤ 1000) : (∀ s, s < k → (sp_t1 k P rp t a).1 s ≤ 1000) ∧ (sp_t1 k P rp t a).2.1 ≤ 2000 := sp_bo_le ha (hP _)
theorem sp_t3_le {k : Nat} {P rp a : Nat → Nat} {hh : Nat → Int32} (hk : 1 ≤ k) (hk3 : k ≤ 3) (hP : ∀ p, P p ≤ 1000) (t : Nat) (h : hh t = -1 ∨ ∃ j, j < k ∧ hh t = nI j) (ha : ∀ s, s < k → a s ≤ 1000) : (∀ s, s < k → (sp_t3 k P rp hh t a).1 s ≤ 1000) ∧ (sp_t3 k P rp hh t a).2.1 ≤ 2000 := by
  refine ⟨sp_ua_le ha (hP _), ?_⟩
  have := pd_le (ha _ (sp_c3_lt (a := a) (x := P (rp t)) hk hk3 h)) (hP (rp t))
  show pd _ _ ≤ 2000
  omega
theorem sp_am1 (v : Nat → Nat) : sp_am v 1 = 0 := by
  show (if v 0 < sp_mn v 0 then 0 else sp_am v 0) = 0
  split <;> rfl
theorem sas_17 {N k G : Nat} {P S : Nat → Nat} {F : mmS} (hn : sp_num N k G P S) (hl : sp_lc N k G P S F) : ∃ F1, m_X7_standAtStart_17 F = some F1 ∧ sp_ob 3 17 18 (sp_a0 P S) 0 (-1) F1 ∧ sp_fo 17 F F1 := by
  have go : ∀ n s H, s < 3 → sp_lc N k G P S H → m_X7_standAtStart_17_L2 (n + 1) (nI s) H = m_X7_standAtStart_17_L2 n (nI (s + 1)) (stF H 18 s (nI (P (S s)))) := by
    intro n s H hs hl
    have h6 : S s < 6 := by have := hn.2.2.2.2.2.2.2.1 s; have := hn.2.1; omega
    rw [m_X7_standAtStart_17_L2, if_neg (show ¬ (3 : Int32) ≤ nI s from nI_ge (b := 3) hs (by omega)), zi_rd s rfl (hl.2.2.2.2.2.1 s hs) (show s < 3 from hs), Option.bind_some, zi_rd (S s) rfl (hl.2.2.2.2.1 (S s) h6) (show S s < 6 from h6), Option.bind_some, zi_wr (q := 18) s rfl (show s < 3 from hs), Option.bind_some]
    show m_X7_standAtStart_17_L2 n (nI s + 1) _ = _
    rw [nI_1]
  have keep : ∀ H s v, sp_lc N k G P S H → sp_lc N k G P S (stF H 18 s v) := fun H s v h => sp_lc_fr h (fun c hc => st_cell H s v (by omega))
  unfold m_X7_standAtStart_17
  rw [show m_X7_standAtStart_17_L2 300 (0 : Int32) F = m_X7_standAtStart_17_L2 300 (nI 0) F from rfl, go 299 0 F (by omega) hl, go 298 1 _ (by omega) (keep _ _ _ hl), go 297 2 _ (by omega) (keep _ _ _ (keep _ _ _ hl)), show m_X7_standAtStart_17_L2 297 (nI (2 + 1)) _ = some _ from by rw [m_X7_standAtStart_17_L2]; rfl]
  refine ⟨_, rfl, ⟨?_, ?_, ?_⟩, ?_⟩
  · intro s hs
    rw [st_cell _ _ _ (by decide), st_cell _ _ _ (by decide)]
    rcases (by omega : s = 0 ∨ s = 1 ∨ s = 2) with rfl | rfl | rfl
    · rw [st_ne _ _ (by omega), st_ne _ _ (by omega), st_self]; rfl
    · rw [st_ne _ _ (by omega), st_self]; rfl
    · rw [st_self]; rfl
  · rw [st_ne _ _ (by omega), st_self]; rfl
  · rw [st_self]
  · exact sp_fo_tr (sp_fo_tr (sp_fo_tr (sp_fo_tr (sp_fo_r 17 18 _ _ _ rfl) (sp_fo_r 17 18 _ _ _ rfl)) (sp_fo_r 17 18 _ _ _ rfl)) (sp_fo_s2 17 _ _)) (sp_fo_s3 17 _ _)
theorem snd_17 {k c : Nat} {a : Nat → Nat} {g : Int32} {F : mmS} {s x : Nat} (hk3 : k ≤ 3) (ho : sp_ob k 17 18 a c g F) (hs : s < k) (ha : a s ≤ 1000) (hx : x ≤ 1000) : ∃ F1, m_X7_send_17 F (nI s) (nI x) = some F1 ∧ sp_ob k 17 18 (sp_ua a s x) (c + pd (a s) x) (nI s) F1 ∧ sp_fo 17 F F1 := by
  unfold m_X7_send_17
  rw [zi_rd s rfl (ho.1 s hs) (show s < 3 by omega), Option.bind_some, pb_abs (by omega) (by omega), ho.2.1, nI_add]
  show ∃ F1, Option.bind (ast _ 18 (nI s) (nI x)) _ = _ ∧ _
  rw [zi_wr (q := 18) s rfl (show s < 3 by omega)]
  refine ⟨_, rfl, ⟨?_, ?_, ?_⟩, ?_⟩
  · intro i hi
    rw [st_cell _ _ _ (by decide)]
    unfold sp_ua
    split
    · subst s; rw [st_self]
    · rw [st_ne _ _ (by omega), st_cell _ _ _ (by decide)]; exact ho.1 i hi
  · rw [st_ne _ _ (by omega), st_cell _ _ _ (by decide), st_self]
  · rw [st_self]
  · exact sp_fo_tr (sp_fo_tr (sp_fo_s2 17 _ _) (sp_fo_r 17 18 _ _ _ rfl)) (sp_fo_s3 17 _ _)
theorem sas_23 {N k G : Nat} {P S : Nat → Nat} {F : mmS} (hn : sp_num N k G P S) (hl : sp_lc N k G P S F) : ∃ F1, m_X7_standAtStart_23 F = some F1 ∧ sp_ob 3 23 24 (sp_a0 P S) 0 (-1) F1 ∧ sp_fo 23 F F1 := by
  have go : ∀ n s H, s < 3 → sp_lc N k G P S H → m_X7_standAtStart_23_L2 (n + 1) (nI s) H = m_X7_standAtStart_23_L2 n (nI (s + 1)) (stF H 24 s (nI (P (S s)))) := by
    intro n s H hs hl
    have h6 : S s < 6 := by have := hn.2.2.2.2.2.2.2.1 s; have := hn.2.1; omega
    rw [m_X7_standAtStart_23_L2, if_neg (show ¬ (3 : Int32) ≤ nI s from nI_ge (b := 3) hs (by omega)), zi_rd s rfl (hl.2.2.2.2.2.1 s hs) (show s < 3 from hs), Option.bind_some, zi_rd (S s) rfl (hl.2.2.2.2.1 (S s) h6) (show S s < 6 from h6), Option.bind_some, zi_wr (q := 24) s rfl (show s < 3 from hs), Option.bind_some]
    show m_X7_standAtStart_23_L2 n (nI s + 1) _ = _
    rw [nI_1]
  have keep : ∀ H s v, sp_lc N k G P S H → sp_lc N k G P S (stF H 24 s v) := fun H s v h => sp_lc_fr h (fun c hc => st_cell H s v (by omega))
  unfold m_X7_standAtStart_23
  rw [show m_X7_standAtStart_23_L2 300 (0 : Int32) F = m_X7_standAtStart_23_L2 300 (nI 0) F from rfl, go 299 0 F (by omega) hl, go 298 1 _ (by omega) (keep _ _ _ hl), go 297 2 _ (by omega) (keep _ _ _ (keep _ _ _ hl)), show m_X7_standAtStart_23_L2 297 (nI (2 + 1)) _ = some _ from by rw [m_X7_standAtStart_23_L2]; rfl]
  refine ⟨_, rfl, ⟨?_, ?_, ?_⟩, ?_⟩
  · intro s hs
    rw [st_cell _ _ _ (by decide), st_cell _ _ _ (by decide)]
    rcases (by omega : s = 0 ∨ s = 1 ∨ s = 2) with rfl | rfl | rfl
    · rw [st_ne _ _ (by omega), st_ne _ _ (by omega), st_self]; rfl
    · rw [st_ne _ _ (by omega), st_self]; rfl
    · rw [st_self]; rfl
  · rw [st_ne _ _ (by omega), st_self]; rfl
  · rw [st_self]
  · exact sp_fo_tr (sp_fo_tr (sp_fo_tr (sp_fo_tr (sp_fo_r 23 24 _ _ _ rfl) (sp_fo_r 23 24 _ _ _ rfl)) (sp_fo_r 23 24 _ _ _ rfl)) (sp_fo_s2 23 _ _)) (sp_fo_s3 23 _ _)
theorem sas_25 {N k G : Nat} {P S : Nat → Nat} {F : mmS} (hn : sp_num N k G P S) (hl : sp_lc N k G P S F) : ∃ F1, m_X7_standAtStart_25 F = some F1 ∧ sp_ob 3 25 26 (sp_a0 P S) 0 (-1) F1 ∧ sp_fo 25 F F1 := by
  have go : ∀ n s H, s < 3 → sp_lc N k G P S H → m_X7_standAtStart_25_L2 (n + 1) (nI s) H = m_X7_standAtStart_25_L2 n (nI (s + 1)) (stF H 26 s (nI (P (S s)))) := by
    intro n s H hs hl
    have h6 : S s < 6 := by have := hn.2.2.2.2.2.2.2.1 s; have := hn.2.1; omega
    rw [m_X7_standAtStart_25_L2, if_neg (show ¬ (3 : Int32) ≤ nI s from nI_ge (b := 3) hs (by omega)), zi_rd s rfl (hl.2.2.2.2.2.1 s hs) (show s < 3 from hs), Option.bind_some, zi_rd (S s) rfl (hl.2.2.2.2.1 (S s) h6) (show S s < 6 from h6), Option.bind_some, zi_wr (q := 26) s rfl (show s < 3 from hs), Option.bind_some]
    show m_X7_standAtStart_25_L2 n (nI s + 1) _ = _
    rw [nI_1]
  have keep : ∀ H s v, sp_lc N k G P S H → sp_lc N k G P S (stF H 26 s v) := fun H s v h => sp_lc_fr h (fun c hc => st_cell H s v (by omega))
  unfold m_X7_standAtStart_25
  rw [show m_X7_standAtStart_25_L2 300 (0 : Int32) F = m_X7_standAtStart_25_L2 300 (nI 0) F from rfl, go 299 0 F (by omega) hl, go 298 1 _ (by omega) (keep _ _ _ hl), go 297 2 _ (by omega) (keep _ _ _ (keep _ _ _ hl)), show m_X7_standAtStart_25_L2 297 (nI (2 + 1)) _ = some _ from by rw [m_X7_standAtStart_25_L2]; rfl]
  refine ⟨_, rfl, ⟨?_, ?_, ?_⟩, ?_⟩
  · intro s hs
    rw [st_cell _ _ _ (by decide), st_cell _ _ _ (by decide)]
    rcases (by omega : s = 0 ∨ s = 1 ∨ s = 2) with rfl | rfl | rfl
    · rw [st_ne _ _ (by omega), st_ne _ _ (by omega), st_self]; rfl
    · rw [st_ne _ _ (by omega), st_self]; rfl
    · rw [st_self]; rfl
  · rw [st_ne _ _ (by omega), st_self]; rfl
  · rw [st_self]
  · exact sp_fo_tr (sp_fo_tr (sp_fo_tr (sp_fo_tr (sp_fo_r 25 26 _ _ _ rfl) (sp_fo_r 25 26 _ _ _ rfl)) (sp_fo_r 25 26 _ _ _ rfl)) (sp_fo_s2 25 _ _)) (sp_fo_s3 25 _ _)
theorem snd_25 {k c : Nat} {a : Nat → Nat} {g : Int32} {F : mmS} {s x : Nat} (hk3 : k ≤ 3) (ho : sp_ob k 25 26 a c g F) (hs : s < k) (ha : a s ≤ 1000) (hx : x ≤ 1000) : ∃ F1, m_X7_send_25 F (nI s) (nI x) = some F1 ∧ sp_ob k 25 26 (sp_ua a s x) (c + pd (a s) x) (nI s) F1 ∧ sp_fo 25 F F1 := by
  unfold m_X7_send_25
  rw [zi_rd s rfl (ho.1 s hs) (show s < 3 by omega), Option.bind_some, pb_abs (by omega) (by omega), ho.2.1, nI_add]
  show ∃ F1, Option.bind (ast _ 26 (nI s) (nI x)) _ = _ ∧ _
  rw [zi_wr (q := 26) s rfl (show s < 3 by omega)]
  refine ⟨_, rfl, ⟨?_, ?_, ?_⟩, ?_⟩
  · intro i hi
    rw [st_cell _ _ _ (by decide)]
    unfold sp_ua
    split
    · subst s; rw [st_self]
    · rw [st_ne _ _ (by omega), st_cell _ _ _ (by decide)]; exact ho.1 i hi
  · rw [st_ne _ _ (by omega), st_cell _ _ _ (by decide), st_self]
  · rw [st_self]
  · exact sp_fo_tr (sp_fo_tr (sp_fo_s2 25 _ _) (sp_fo_r 25 26 _ _ _ rfl)) (sp_fo_s3 25 _ _)
theorem sas_27 {N k G : Nat} {P S : Nat → Nat} {F : mmS} (hn : sp_num N k G P S) (hl : sp_lc N k G P S F) : ∃ F1, m_X7_standAtStart_27 F = some F1 ∧ sp_ob 3 27 28 (sp_a0 P S) 0 (-1) F1 ∧ sp_fo 27 F F1 := by
  have go : ∀ n s H, s < 3 → sp_lc N k G P S H → m_X7_standAtStart_27_L2 (n + 1) (nI s) H = m_X7_standAtStart_27_L2 n (nI (s + 1)) (stF H 28 s (nI (P (S s)))) := by
    intro n s H hs hl
    have h6 : S s < 6 := by have := hn.2.2.2.2.2.2.2.1 s; have := hn.2.1; omega
    rw [m_X7_standAtStart_27_L2, if_neg (show ¬ (3 : Int32) ≤ nI s from nI_ge (b := 3) hs (by omega)), zi_rd s rfl (hl.2.2.2.2.2.1 s hs) (show s < 3 from hs), Option.bind_some, zi_rd (S s) rfl (hl.2.2.2.2.1 (S s) h6) (show S s < 6 from h6), Option.bind_some, zi_wr (q := 28) s rfl (show s < 3 from hs), Option.bind_some]
    show m_X7_standAtStart_27_L2 n (nI s + 1) _ = _
    rw [nI_1]
  have keep : ∀ H s v, sp_lc N k G P S H → sp_lc N k G P S (stF H 28 s v) := fun H s v h => sp_lc_fr h (fun c hc => st_cell H s v (by omega))
  unfold m_X7_standAtStart_27
  rw [show m_X7_standAtStart_27_L2 300 (0 : Int32) F = m_X7_standAtStart_27_L2 300 (nI 0) F from rfl, go 299 0 F (by omega) hl, go 298 1 _ (by omega) (keep _ _ _ hl), go 297 2 _ (by omega) (keep _ _ _ (keep _ _ _ hl)), show m_X7_standAtStart_27_L2 297 (nI (2 + 1)) _ = some _ from by rw [m_X7_standAtStart_27_L2]; rfl]
  refine ⟨_, rfl, ⟨?_, ?_, ?_⟩, ?_⟩
  · intro s hs
    rw [st_cell _ _ _ (by decide), st_cell _ _ _ (by decide)]
    rcases (by omega : s = 0 ∨ s = 1 ∨ s = 2) with rfl | rfl | rfl
    · rw [st_ne _ _ (by omega), st_ne _ _ (by omega), st_self]; rfl
    · rw [st_ne _ _ (by omega), st_self]; rfl
    · rw [st_self]; rfl
  · rw [st_ne _ _ (by omega), st_self]; rfl
  · rw [st_self]
  · exact sp_fo_tr (sp_fo_tr (sp_fo_tr (sp_fo_tr (sp_fo_r 27 28 _ _ _ rfl) (sp_fo_r 27 28 _ _ _ rfl)) (sp_fo_r 27 28 _ _ _ rfl)) (sp_fo_s2 27 _ _)) (sp_fo_s3 27 _ _)
theorem snd_27 {k c : Nat} {a : Nat → Nat} {g : Int32} {F : mmS} {s x : Nat} (hk3 : k ≤ 3) (ho : sp_ob k 27 28 a c g F) (hs : s < k) (ha : a s ≤ 1000) (hx : x ≤ 1000) : ∃ F1, m_X7_send_27 F (nI s) (nI x) = some F1 ∧ sp_ob k 27 28 (sp_ua a s x) (c + pd (a s) x) (nI s) F1 ∧ sp_fo 27 F F1 := by
  unfold m_X7_send_27
  rw [zi_rd s rfl (ho.1 s hs) (show s < 3 by omega), Option.bind_some, pb_abs (by omega) (by omega), ho.2.1, nI_add]
  show ∃ F1, Option.bind (ast _ 28 (nI s) (nI x)) _ = _ ∧ _
  rw [zi_wr (q := 28) s rfl (show s < 3 by omega)]
  refine ⟨_, rfl, ⟨?_, ?_, ?_⟩, ?_⟩
  · intro i hi
    rw [st_cell _ _ _ (by decide)]
    unfold sp_ua
    split
    · subst s; rw [st_self]
    · rw [st_ne _ _ (by omega), st_cell _ _ _ (by decide)]; exact ho.1 i hi
  · rw [st_ne _ _ (by omega), st_cell _ _ _ (by decide), st_self]
  · rw [st_self]
  · exact sp_fo_tr (sp_fo_tr (sp_fo_s2 27 _ _) (sp_fo_r 27 28 _ _ _ rfl)) (sp_fo_s3 27 _ _)
theorem sas_30 {N k G : Nat} {P S : Nat → Nat} {F : mmS} (hn : sp_num N k G P S) (hl : sp_lc N k G P S F) : ∃ F1, m_X7_standAtStart_30 F = some F1 ∧ sp_ob 3 30 31 (sp_a0 P S) 0 (-1) F1 ∧ sp_fo 30 F F1 := by
  have go : ∀ n s H, s < 3 → sp_lc N k G P S H → m_X7_standAtStart_30_L2 (n + 1) (nI s) H = m_X7_standAtStart_30_L2 n (nI (s + 1)) (stF H 31 s (nI (P (S s)))) := by
    intro n s H hs hl
    have h6 : S s < 6 := by have := hn.2.2.2.2.2.2.2.1 s; have := hn.2.1; omega
    rw [m_X7_standAtStart_30_L2, if_neg (show ¬ (3 : Int32) ≤ nI s from nI_ge (b := 3) hs (by omega)), zi_rd s rfl (hl.2.2.2.2.2.1 s hs) (show s < 3 from hs), Option.bind_some, zi_rd (S s) rfl (hl.2.2.2.2.1 (S s) h6) (show S s < 6 from h6), Option.bind_some, zi_wr (q := 31) s rfl (show s < 3 from hs), Option.bind_some]
    show m_X7_standAtStart_30_L2 n (nI s + 1) _ = _
    rw [nI_1]
  have keep : ∀ H s v, sp_lc N k G P S H → sp_lc N k G P S (stF H 31 s v) := fun H s v h => sp_lc_fr h (fun c hc => st_cell H s v (by omega))
  unfold m_X7_standAtStart_30
  rw [show m_X7_standAtStart_30_L2 300 (0 : Int32) F = m_X7_standAtStart_30_L2 300 (nI 0) F from rfl, go 299 0 F (by omega) hl, go 298 1 _ (by omega) (keep _ _ _ hl), go 297 2 _ (by omega) (keep _ _ _ (keep _ _ _ hl)), show m_X7_standAtStart_30_L2 297 (nI (2 + 1)) _ = some _ from by rw [m_X7_standAtStart_30_L2]; rfl]
  refine ⟨_, rfl, ⟨?_, ?_, ?_⟩, ?_⟩
  · intro s hs
    rw [st_cell _ _ _ (by decide), st_cell _ _ _ (by decide)]
    rcases (by omega : s = 0 ∨ s = 1 ∨ s = 2) with rfl | rfl | rfl
    · rw [st_ne _ _ (by omega), st_ne _ _ (by omega), st_self]; rfl
    · rw [st_ne _ _ (by omega), st_self]; rfl
    · rw [st_self]; rfl
  · rw [st_ne _ _ (by omega), st_self]; rfl
  · rw [st_self]
  · exact sp_fo_tr (sp_fo_tr (sp_fo_tr (sp_fo_tr (sp_fo_r 30 31 _ _ _ rfl) (sp_fo_r 30 31 _ _ _ rfl)) (sp_fo_r 30 31 _ _ _ rfl)) (sp_fo_s2 30 _ _)) (sp_fo_s3 30 _ _)
theorem snd_30 {k c : Nat} {a : Nat → Nat} {g : Int32} {F : mmS} {s x : Nat} (hk3 : k ≤ 3) (ho : sp_ob k 30 31 a c g F) (hs : s < k) (ha : a s ≤ 1000) (hx : x ≤ 1000) : ∃ F1, m_X7_send_30 F (nI s) (nI x) = some F1 ∧ sp_ob k 30 31 (sp_ua a s x) (c + pd (a s) x) (nI s) F1 ∧ sp_fo 30 F F1 := by
  unfold m_X7_send_30
  rw [zi_rd s rfl (ho.1 s hs) (show s < 3 by omega), Option.bind_some, pb_abs (by omega) (by omega), ho.2.1, nI_add]
  show ∃ F1, Option.bind (ast _ 31 (nI s) (nI x)) _ = _ ∧ _
  rw [zi_wr (q := 31) s rfl (show s < 3 by omega)]
  refine ⟨_, rfl, ⟨?_, ?_, ?_⟩, ?_⟩
  · intro i hi
    rw [st_cell _ _ _ (by decide)]
    unfold sp_ua
    split
    · subst s; rw [st_self]
    · rw [st_ne _ _ (by omega), st_cell _ _ _ (by decide)]; exact ho.1 i hi
  · rw [st_ne _ _ (by omega), st_cell _ _ _ (by decide), st_self]
  · rw [st_self]
  · exact sp_fo_tr (sp_fo_tr (sp_fo_s2 30 _ _) (sp_fo_r 30 31 _ _ _ rfl)) (sp_fo_s3 30 _ _)
theorem sas_32 {N k G : Nat} {P S : Nat → Nat} {F : mmS} (hn : sp_num N k G P S) (hl : sp_lc N k G P S F) : ∃ F1, m_X7_standAtStart_32 F = some F1 ∧ sp_ob 3 32 33 (sp_a0 P S) 0 (-1) F1 ∧ sp_fo 32 F F1 := by
  have go : ∀ n s H, s < 3 → sp_lc N k G P S H → m_X7_standAtStart_32_L2 (n + 1) (nI s) H = m_X7_standAtStart_32_L2 n (nI (s + 1)) (stF H 33 s (nI (P (S s)))) := by
    intro n s H hs hl
    have h6 : S s < 6 := by have := hn.2.2.2.2.2.2.2.1 s; have := hn.2.1; omega
    rw [m_X7_standAtStart_32_L2, if_neg (show ¬ (3 : Int32) ≤ nI s from nI_ge (b := 3) hs (by omega)), zi_rd s rfl (hl.2.2.2.2.2.1 s hs) (show s < 3 from hs), Option.bind_some, zi_rd (S s) rfl (hl.2.2.2.2.1 (S s) h6) (show S s < 6 from h6), Option.bind_some, zi_wr (q := 33) s rfl (show s < 3 from hs), Option.bind_some]
    show m_X7_standAtStart_32_L2 n (nI s + 1) _ = _
    rw [nI_1]
  have keep : ∀ H s v, sp_lc N k G P S H → sp_lc N k G P S (stF H 33 s v) := fun H s v h => sp_lc_fr h (fun c hc => st_cell H s v (by omega))
  unfold m_X7_standAtStart_32
  rw [show m_X7_standAtStart_32_L2 300 (0 : Int32) F = m_X7_standAtStart_32_L2 300 (nI 0) F from rfl, go 299 0 F (by omega) hl, go 298 1 _ (by omega) (keep _ _ _ hl), go 297 2 _ (by omega) (keep _ _ _ (keep _ _ _ hl)), show m_X7_standAtStart_32_L2 297 (nI (2 + 1)) _ = some _ from by rw [m_X7_standAtStart_32_L2]; rfl]
  refine ⟨_, rfl, ⟨?_, ?_, ?_⟩, ?_⟩
  · intro s hs
    rw [st_cell _ _ _ (by decide), st_cell _ _ _ (by decide)]
    rcases (by omega : s = 0 ∨ s = 1 ∨ s = 2) with rfl | rfl | rfl
    · rw [st_ne _ _ (by omega), st_ne _ _ (by omega), st_self]; rfl
    · rw [st_ne _ _ (by omega), st_self]; rfl
    · rw [st_self]; rfl
  · rw [st_ne _ _ (by omega), st_self]; rfl
  · rw [st_self]
  · exact sp_fo_tr (sp_fo_tr (sp_fo_tr (sp_fo_tr (sp_fo_r 32 33 _ _ _ rfl) (sp_fo_r 32 33 _ _ _ rfl)) (sp_fo_r 32 33 _ _ _ rfl)) (sp_fo_s2 32 _ _)) (sp_fo_s3 32 _ _)
theorem snd_32 {k c : Nat} {a : Nat → Nat} {g : Int32} {F : mmS} {s x : Nat} (hk3 : k ≤ 3) (ho : sp_ob k 32 33 a c g F) (hs : s < k) (ha : a s ≤ 1000) (hx : x ≤ 1000) : ∃ F1, m_X7_send_32 F (nI s) (nI x) = some F1 ∧ sp_ob k 32 33 (sp_ua a s x) (c + pd (a s) x) (nI s) F1 ∧ sp_fo 32 F F1 := by
  unfold m_X7_send_32
  rw [zi_rd s rfl (ho.1 s hs) (show s < 3 by omega), Option.bind_some, pb_abs (by omega) (by omega), ho.2.1, nI_add]
  show ∃ F1, Option.bind (ast _ 33 (nI s) (nI x)) _ = _ ∧ _
  rw [zi_wr (q := 33) s rfl (show s < 3 by omega)]
  refine ⟨_, rfl, ⟨?_, ?_, ?_⟩, ?_⟩
  · intro i hi
    rw [st_cell _ _ _ (by decide)]
    unfold sp_ua
    split
    · subst s; rw [st_self]
    · rw [st_ne _ _ (by omega), st_cell _ _ _ (by decide)]; exact ho.1 i hi
  · rw [st_ne _ _ (by omega), st_cell _ _ _ (by decide), st_self]
  · rw [st_self]
  · exact sp_fo_tr (sp_fo_tr (sp_fo_s2 32 _ _) (sp_fo_r 32 33 _ _ _ rfl)) (sp_fo_s3 32 _ _)
theorem sas_34 {N k G : Nat} {P S : Nat → Nat} {F : mmS} (hn : sp_num N k G P S) (hl : sp_lc N k G P S F) : ∃ F1, m_X7_standAtStart_34 F = some F1 ∧ sp_ob 3 34 35 (sp_a0 P S) 0 (-1) F1 ∧ sp_fo 34 F F1 := by
  have go : ∀ n s H, s < 3 → sp_lc N k G P S H → m_X7_standAtStart_34_L2 (n + 1) (nI s) H = m_X7_standAtStart_34_L2 n (nI (s + 1)) (stF H 35 s (nI (P (S s)))) := by
    intro n s H hs hl
    have h6 : S s < 6 := by have := hn.2.2.2.2.2.2.2.1 s; have := hn.2.1; omega
    rw [m_X7_standAtStart_34_L2, if_neg (show ¬ (3 : Int32) ≤ nI s from nI_ge (b := 3) hs (by omega)), zi_rd s rfl (hl.2.2.2.2.2.1 s hs) (show s < 3 from hs), Option.bind_some, zi_rd (S s) rfl (hl.2.2.2.2.1 (S s) h6) (show S s < 6 from h6), Option.bind_some, zi_wr (q := 35) s rfl (show s < 3 from hs), Option.bind_some]
    show m_X7_standAtStart_34_L2 n (nI s + 1) _ = _
    rw [nI_1]
  have keep : ∀ H s v, sp_lc N k G P S H → sp_lc N k G P S (stF H 35 s v) := fun H s v h => sp_lc_fr h (fun c hc => st_cell H s v (by omega))
  unfold m_X7_standAtStart_34
  rw [show m_X7_standAtStart_34_L2 300 (0 : Int32) F = m_X7_standAtStart_34_L2 300 (nI 0) F from rfl, go 299 0 F (by omega) hl, go 298 1 _ (by omega) (keep _ _ _ hl), go 297 2 _ (by omega) (keep _ _ _ (keep _ _ _ hl)), show m_X7_standAtStart_34_L2 297 (nI (2 + 1)) _ = some _ from by rw [m_X7_standAtStart_34_L2]; rfl]
  refine ⟨_, rfl, ⟨?_, ?_, ?_⟩, ?_⟩
  · intro s hs
    rw [st_cell _ _ _ (by decide), st_cell _ _ _ (by decide)]
    rcases (by omega : s = 0 ∨ s = 1 ∨ s = 2) with rfl | rfl | rfl
    · rw [st_ne _ _ (by omega), st_ne _ _ (by omega), st_self]; rfl
    · rw [st_ne _ _ (by omega), st_self]; rfl
    · rw [st_self]; rfl
  · rw [st_ne _ _ (by omega), st_self]; rfl
  · rw [st_self]
  · exact sp_fo_tr (sp_fo_tr (sp_fo_tr (sp_fo_tr (sp_fo_r 34 35 _ _ _ rfl) (sp_fo_r 34 35 _ _ _ rfl)) (sp_fo_r 34 35 _ _ _ rfl)) (sp_fo_s2 34 _ _)) (sp_fo_s3 34 _ _)
theorem snd_34 {k c : Nat} {a : Nat → Nat} {g : Int32} {F : mmS} {s x : Nat} (hk3 : k ≤ 3) (ho : sp_ob k 34 35 a c g F) (hs : s < k) (ha : a s ≤ 1000) (hx : x ≤ 1000) : ∃ F1, m_X7_send_34 F (nI s) (nI x) = some F1 ∧ sp_ob k 34 35 (sp_ua a s x) (c + pd (a s) x) (nI s) F1 ∧ sp_fo 34 F F1 := by
  unfold m_X7_send_34
  rw [zi_rd s rfl (ho.1 s hs) (show s < 3 by omega), Option.bind_some, pb_abs (by omega) (by omega), ho.2.1, nI_add]
  show ∃ F1, Option.bind (ast _ 35 (nI s) (nI x)) _ = _ ∧ _
  rw [zi_wr (q := 35) s rfl (show s < 3 by omega)]
  refine ⟨_, rfl, ⟨?_, ?_, ?_⟩, ?_⟩
  · intro i hi
    rw [st_cell _ _ _ (by decide)]
    unfold sp_ua
    split
    · subst s; rw [st_self]
    · rw [st_ne _ _ (by omega), st_cell _ _ _ (by decide)]; exact ho.1 i hi
  · rw [st_ne _ _ (by omega), st_cell _ _ _ (by decide), st_self]
  · rw [st_self]
  · exact sp_fo_tr (sp_fo_tr (sp_fo_s2 34 _ _) (sp_fo_r 34 35 _ _ _ rfl)) (sp_fo_s3 34 _ _)
theorem sas_36 {N k G : Nat} {P S : Nat → Nat} {F : mmS} (hn : sp_num N k G P S) (hl : sp_lc N k G P S F) : ∃ F1, m_X7_standAtStart_36 F = some F1 ∧ sp_ob 3 36 37 (sp_a0 P S) 0 (-1) F1 ∧ sp_fo 36 F F1 := by
  have go : ∀ n s H, s < 3 → sp_lc N k G P S H → m_X7_standAtStart_36_L2 (n + 1) (nI s) H = m_X7_standAtStart_36_L2 n (nI (s + 1)) (stF H 37 s (nI (P (S s)))) := by
    intro n s H hs hl
    have h6 : S s < 6 := by have := hn.2.2.2.2.2.2.2.1 s; have := hn.2.1; omega
    rw [m_X7_standAtStart_36_L2, if_neg (show ¬ (3 : Int32) ≤ nI s from nI_ge (b := 3) hs (by omega)), zi_rd s rfl (hl.2.2.2.2.2.1 s hs) (show s < 3 from hs), Option.bind_some, zi_rd (S s) rfl (hl.2.2.2.2.1 (S s) h6) (show S s < 6 from h6), Option.bind_some, zi_wr (q := 37) s rfl (show s < 3 from hs), Option.bind_some]
    show m_X7_standAtStart_36_L2 n (nI s + 1) _ = _
    rw [nI_1]
  have keep : ∀ H s v, sp_lc N k G P S H → sp_lc N k G P S (stF H 37 s v) := fun H s v h => sp_lc_fr h (fun c hc => st_cell H s v (by omega))
  unfold m_X7_standAtStart_36
  rw [show m_X7_standAtStart_36_L2 300 (0 : Int32) F = m_X7_standAtStart_36_L2 300 (nI 0) F from rfl, go 299 0 F (by omega) hl, go 298 1 _ (by omega) (keep _ _ _ hl), go 297 2 _ (by omega) (keep _ _ _ (keep _ _ _ hl)), show m_X7_standAtStart_36_L2 297 (nI (2 + 1)) _ = some _ from by rw [m_X7_standAtStart_36_L2]; rfl]
  refine ⟨_, rfl, ⟨?_, ?_, ?_⟩, ?_⟩
  · intro s hs
    rw [st_cell _ _ _ (by decide), st_cell _ _ _ (by decide)]
    rcases (by omega : s = 0 ∨ s = 1 ∨ s = 2) with rfl | rfl | rfl
    · rw [st_ne _ _ (by omega), st_ne _ _ (by omega), st_self]; rfl
    · rw [st_ne _ _ (by omega), st_self]; rfl
    · rw [st_self]; rfl
  · rw [st_ne _ _ (by omega), st_self]; rfl
  · rw [st_self]
  · exact sp_fo_tr (sp_fo_tr (sp_fo_tr (sp_fo_tr (sp_fo_r 36 37 _ _ _ rfl) (sp_fo_r 36 37 _ _ _ rfl)) (sp_fo_r 36 37 _ _ _ rfl)) (sp_fo_s2 36 _ _)) (sp_fo_s3 36 _ _)
theorem snd_36 {k c : Nat} {a : Nat → Nat} {g : Int32} {F : mmS} {s x : Nat} (hk3 : k ≤ 3) (ho : sp_ob k 36 37 a c g F) (hs : s < k) (ha : a s ≤ 1000) (hx : x ≤ 1000) : ∃ F1, m_X7_send_36 F (nI s) (nI x) = some F1 ∧ sp_ob k 36 37 (sp_ua a s x) (c + pd (a s) x) (nI s) F1 ∧ sp_fo 36 F F1 := by
  unfold m_X7_send_36
  rw [zi_rd s rfl (ho.1 s hs) (show s < 3 by omega), Option.bind_some, pb_abs (by omega) (by omega), ho.2.1, nI_add]
  show ∃ F1, Option.bind (ast _ 37 (nI s) (nI x)) _ = _ ∧ _
  rw [zi_wr (q := 37) s rfl (show s < 3 by omega)]
  refine ⟨_, rfl, ⟨?_, ?_, ?_⟩, ?_⟩
  · intro i hi
    rw [st_cell _ _ _ (by decide)]
    unfold sp_ua
    split
    · subst s; rw [st_self]
    · rw [st_ne _ _ (by omega), st_cell _ _ _ (by decide)]; exact ho.1 i hi
  · rw [st_ne _ _ (by omega), st_cell _ _ _ (by decide), st_self]
  · rw [st_self]
  · exact sp_fo_tr (sp_fo_tr (sp_fo_s2 36 _ _) (sp_fo_r 36 37 _ _ _ rfl)) (sp_fo_s3 36 _ _)
theorem sas_81 {N k G : Nat} {P S : Nat → Nat} {F : mmS} (hn : sp_num N k G P S) (hl : sp_lc N k G P S F) : ∃ F1, m_X7_standAtStart_81 F = some F1 ∧ sp_ob 3 81 82 (sp_a0 P S) 0 (-1) F1 ∧ sp_fo 81 F F1 := by
  have go : ∀ n s H, s < 3 → sp_lc N k G P S H → m_X7_standAtStart_81_L2 (n + 1) (nI s) H = m_X7_standAtStart_81_L2 n (nI (s + 1)) (stF H 82 s (nI (P (S s)))) := by
    intro n s H hs hl
    have h6 : S s < 6 := by have := hn.2.2.2.2.2.2.2.1 s; have := hn.2.1; omega
    rw [m_X7_standAtStart_81_L2, if_neg (show ¬ (3 : Int32) ≤ nI s from nI_ge (b := 3) hs (by omega)), zi_rd s rfl (hl.2.2.2.2.2.1 s hs) (show s < 3 from hs), Option.bind_some, zi_rd (S s) rfl (hl.2.2.2.2.1 (S s) h6) (show S s < 6 from h6), Option.bind_some, zi_wr (q := 82) s rfl (show s < 3 from hs), Option.bind_some]
    show m_X7_standAtStart_81_L2 n (nI s + 1) _ = _
    rw [nI_1]
  have keep : ∀ H s v, sp_lc N k G P S H → sp_lc N k G P S (stF H 82 s v) := fun H s v h => sp_lc_fr h (fun c hc => st_cell H s v (by omega))
  unfold m_X7_standAtStart_81
  rw [show m_X7_standAtStart_81_L2 300 (0 : Int32) F = m_X7_standAtStart_81_L2 300 (nI 0) F from rfl, go 299 0 F (by omega) hl, go 298 1 _ (by omega) (keep _ _ _ hl), go 297 2 _ (by omega) (keep _ _ _ (keep _ _ _ hl)), show m_X7_standAtStart_81_L2 297 (nI (2 + 1)) _ = some _ from by rw [m_X7_standAtStart_81_L2]; rfl]
  refine ⟨_, rfl, ⟨?_, ?_, ?_⟩, ?_⟩
  · intro s hs
    rw [st_cell _ _ _ (by decide), st_cell _ _ _ (by decide)]
    rcases (by omega : s = 0 ∨ s = 1 ∨ s = 2) with rfl | rfl | rfl
    · rw [st_ne _ _ (by omega), st_ne _ _ (by omega), st_self]; rfl
    · rw [st_ne _ _ (by omega), st_self]; rfl
    · rw [st_self]; rfl
  · rw [st_ne _ _ (by omega), st_self]; rfl
  · rw [st_self]
  · exact sp_fo_tr (sp_fo_tr (sp_fo_tr (sp_fo_tr (sp_fo_r 81 82 _ _ _ rfl) (sp_fo_r 81 82 _ _ _ rfl)) (sp_fo_r 81 82 _ _ _ rfl)) (sp_fo_s2 81 _ _)) (sp_fo_s3 81 _ _)
theorem snd_81 {k c : Nat} {a : Nat → Nat} {g : Int32} {F : mmS} {s x : Nat} (hk3 : k ≤ 3) (ho : sp_ob k 81 82 a c g F) (hs : s < k) (ha : a s ≤ 1000) (hx : x ≤ 1000) : ∃ F1, m_X7_send_81 F (nI s) (nI x) = some F1 ∧ sp_ob k 81 82 (sp_ua a s x) (c + pd (a s) x) (nI s) F1 ∧ sp_fo 81 F F1 := by
  unfold m_X7_send_81
  rw [zi_rd s rfl (ho.1 s hs) (show s < 3 by omega), Option.bind_some, pb_abs (by omega) (by omega), ho.2.1, nI_add]
  show ∃ F1, Option.bind (ast _ 82 (nI s) (nI x)) _ = _ ∧ _
  rw [zi_wr (q := 82) s rfl (show s < 3 by omega)]
  refine ⟨_, rfl, ⟨?_, ?_, ?_⟩, ?_⟩
  · intro i hi
    rw [st_cell _ _ _ (by decide)]
    unfold sp_ua
    split
    · subst s; rw [st_self]
    · rw [st_ne _ _ (by omega), st_cell _ _ _ (by decide)]; exact ho.1 i hi
  · rw [st_ne _ _ (by omega), st_cell _ _ _ (by decide), st_self]
  · rw [st_self]
  · exact sp_fo_tr (sp_fo_tr (sp_fo_s2 81 _ _) (sp_fo_r 81 82 _ _ _ rfl)) (sp_fo_s3 81 _ _)
theorem sas_87 {N k G : Nat} {P S : Nat → Nat} {F : mmS} (hn : sp_num N k G P S) (hl : sp_lc N k G P S F) : ∃ F1, m_X7_standAtStart_87 F = some F1 ∧ sp_ob 3 87 88 (sp_a0 P S) 0 (-1) F1 ∧ sp_fo 87 F F1 := by
  have go : ∀ n s H, s < 3 → sp_lc N k G P S H → m_X7_standAtStart_87_L2 (n + 1) (nI s) H = m_X7_standAtStart_87_L2 n (nI (s + 1)) (stF H 88 s (nI (P (S s)))) := by
    intro n s H hs hl
    have h6 : S s < 6 := by have := hn.2.2.2.2.2.2.2.1 s; have := hn.2.1; omega
    rw [m_X7_standAtStart_87_L2, if_neg (show ¬ (3 : Int32) ≤ nI s from nI_ge (b := 3) hs (by omega)), zi_rd s rfl (hl.2.2.2.2.2.1 s hs) (show s < 3 from hs), Option.bind_some, zi_rd (S s) rfl (hl.2.2.2.2.1 (S s) h6) (show S s < 6 from h6), Option.bind_some, zi_wr (q := 88) s rfl (show s < 3 from hs), Option.bind_some]
    show m_X7_standAtStart_87_L2 n (nI s + 1) _ = _
    rw [nI_1]
  have keep : ∀ H s v, sp_lc N k G P S H → sp_lc N k G P S (stF H 88 s v) := fun H s v h => sp_lc_fr h (fun c hc => st_cell H s v (by omega))
  unfold m_X7_standAtStart_87
  rw [show m_X7_standAtStart_87_L2 300 (0 : Int32) F = m_X7_standAtStart_87_L2 300 (nI 0) F from rfl, go 299 0 F (by omega) hl, go 298 1 _ (by omega) (keep _ _ _ hl), go 297 2 _ (by omega) (keep _ _ _ (keep _ _ _ hl)), show m_X7_standAtStart_87_L2 297 (nI (2 + 1)) _ = some _ from by rw [m_X7_standAtStart_87_L2]; rfl]
  refine ⟨_, rfl, ⟨?_, ?_, ?_⟩, ?_⟩
  · intro s hs
    rw [st_cell _ _ _ (by decide), st_cell _ _ _ (by decide)]
    rcases (by omega : s = 0 ∨ s = 1 ∨ s = 2) with rfl | rfl | rfl
    · rw [st_ne _ _ (by omega), st_ne _ _ (by omega), st_self]; rfl
    · rw [st_ne _ _ (by omega), st_self]; rfl
    · rw [st_self]; rfl
  · rw [st_ne _ _ (by omega), st_self]; rfl
  · rw [st_self]
  · exact sp_fo_tr (sp_fo_tr (sp_fo_tr (sp_fo_tr (sp_fo_r 87 88 _ _ _ rfl) (sp_fo_r 87 88 _ _ _ rfl)) (sp_fo_r 87 88 _ _ _ rfl)) (sp_fo_s2 87 _ _)) (sp_fo_s3 87 _ _)
theorem snd_87 {k c : Nat} {a : Nat → Nat} {g : Int32} {F : mmS} {s x : Nat} (hk3 : k ≤ 3) (ho : sp_ob k 87 88 a c g F) (hs : s < k) (ha : a s ≤ 1000) (hx : x ≤ 1000) : ∃ F1, m_X7_send_87 F (nI s) (nI x) = some F1 ∧ sp_ob k 87 88 (sp_ua a s x) (c + pd (a s) x) (nI s) F1 ∧ sp_fo 87 F F1 := by
  unfold m_X7_send_87
  rw [zi_rd s rfl (ho.1 s hs) (show s < 3 by omega), Option.bind_some, pb_abs (by omega) (by omega), ho.2.1, nI_add]
  show ∃ F1, Option.bind (ast _ 88 (nI s) (nI x)) _ = _ ∧ _
  rw [zi_wr (q := 88) s rfl (show s < 3 by omega)]
  refine ⟨_, rfl, ⟨?_, ?_, ?_⟩, ?_⟩
  · intro i hi
    rw [st_cell _ _ _ (by decide)]
    unfold sp_ua
    split
    · subst s; rw [st_self]
    · rw [st_ne _ _ (by omega), st_cell _ _ _ (by decide)]; exact ho.1 i hi
  · rw [st_ne _ _ (by omega), st_cell _ _ _ (by decide), st_self]
  · rw [st_self]
  · exact sp_fo_tr (sp_fo_tr (sp_fo_s2 87 _ _) (sp_fo_r 87 88 _ _ _ rfl)) (sp_fo_s3 87 _ _)
theorem sas_89 {N k G : Nat} {P S : Nat → Nat} {F : mmS} (hn : sp_num N k G P S) (hl : sp_lc N k G P S F) : ∃ F1, m_X7_standAtStart_89 F = some F1 ∧ sp_ob 3 89 90 (sp_a0 P S) 0 (-1) F1 ∧ sp_fo 89 F F1 := by
  have go : ∀ n s H, s < 3 → sp_lc N k G P S H → m_X7_standAtStart_89_L2 (n + 1) (nI s) H = m_X7_standAtStart_89_L2 n (nI (s + 1)) (stF H 90 s (nI (P (S s)))) := by
    intro n s H hs hl
    have h6 : S s < 6 := by have := hn.2.2.2.2.2.2.2.1 s; have := hn.2.1; omega
    rw [m_X7_standAtStart_89_L2, if_neg (show ¬ (3 : Int32) ≤ nI s from nI_ge (b := 3) hs (by omega)), zi_rd s rfl (hl.2.2.2.2.2.1 s hs) (show s < 3 from hs), Option.bind_some, zi_rd (S s) rfl (hl.2.2.2.2.1 (S s) h6) (show S s < 6 from h6), Option.bind_some, zi_wr (q := 90) s rfl (show s < 3 from hs), Option.bind_some]
    show m_X7_standAtStart_89_L2 n (nI s + 1) _ = _
    rw [nI_1]
  have keep : ∀ H s v, sp_lc N k G P S H → sp_lc N k G P S (stF H 90 s v) := fun H s v h => sp_lc_fr h (fun c hc => st_cell H s v (by omega))
  unfold m_X7_standAtStart_89
  rw [show m_X7_standAtStart_89_L2 300 (0 : Int32) F = m_X7_standAtStart_89_L2 300 (nI 0) F from rfl, go 299 0 F (by omega) hl, go 298 1 _ (by omega) (keep _ _ _ hl), go 297 2 _ (by omega) (keep _ _ _ (keep _ _ _ hl)), show m_X7_standAtStart_89_L2 297 (nI (2 + 1)) _ = some _ from by rw [m_X7_standAtStart_89_L2]; rfl]
  refine ⟨_, rfl, ⟨?_, ?_, ?_⟩, ?_⟩
  · intro s hs
    rw [st_cell _ _ _ (by decide), st_cell _ _ _ (by decide)]
    rcases (by omega : s = 0 ∨ s = 1 ∨ s = 2) with rfl | rfl | rfl
    · rw [st_ne _ _ (by omega), st_ne _ _ (by omega), st_self]; rfl
    · rw [st_ne _ _ (by omega), st_self]; rfl
    · rw [st_self]; rfl
  · rw [st_ne _ _ (by omega), st_self]; rfl
  · rw [st_self]
  · exact sp_fo_tr (sp_fo_tr (sp_fo_tr (sp_fo_tr (sp_fo_r 89 90 _ _ _ rfl) (sp_fo_r 89 90 _ _ _ rfl)) (sp_fo_r 89 90 _ _ _ rfl)) (sp_fo_s2 89 _ _)) (sp_fo_s3 89 _ _)
theorem snd_89 {k c : Nat} {a : Nat → Nat} {g : Int32} {F : mmS} {s x : Nat} (hk3 : k ≤ 3) (ho : sp_ob k 89 90 a c g F) (hs : s < k) (ha : a s ≤ 1000) (hx : x ≤ 1000) : ∃ F1, m_X7_send_89 F (nI s) (nI x) = some F1 ∧ sp_ob k 89 90 (sp_ua a s x) (c + pd (a s) x) (nI s) F1 ∧ sp_fo 89 F F1 := by
  unfold m_X7_send_89
  rw [zi_rd s rfl (ho.1 s hs) (show s < 3 by omega), Option.bind_some, pb_abs (by omega) (by omega), ho.2.1, nI_add]
  show ∃ F1, Option.bind (ast _ 90 (nI s) (nI x)) _ = _ ∧ _
  rw [zi_wr (q := 90) s rfl (show s < 3 by omega)]
  refine ⟨_, rfl, ⟨?_, ?_, ?_⟩, ?_⟩
  · intro i hi
    rw [st_cell _ _ _ (by decide)]
    unfold sp_ua
    split
    · subst s; rw [st_self]
    · rw [st_ne _ _ (by omega), st_cell _ _ _ (by decide)]; exact ho.1 i hi
  · rw [st_ne _ _ (by omega), st_cell _ _ _ (by decide), st_self]
  · rw [st_self]
  · exact sp_fo_tr (sp_fo_tr (sp_fo_s2 89 _ _) (sp_fo_r 89 90 _ _ _ rfl)) (sp_fo_s3 89 _ _)
theorem sas_91 {N k G : Nat} {P S : Nat → Nat} {F : mmS} (hn : sp_num N k G P S) (hl : sp_lc N k G P S F) : ∃ F1, m_X7_standAtStart_91 F = some F1 ∧ sp_ob 3 91 92 (sp_a0 P S) 0 (-1) F1 ∧ sp_fo 91 F F1 := by
  have go : ∀ n s H, s < 3 → sp_lc N k G P S H → m_X7_standAtStart_91_L2 (n + 1) (nI s) H = m_X7_standAtStart_91_L2 n (nI (s + 1)) (stF H 92 s (nI (P (S s)))) := by
    intro n s H hs hl
    have h6 : S s < 6 := by have := hn.2.2.2.2.2.2.2.1 s; have := hn.2.1; omega
    rw [m_X7_standAtStart_91_L2, if_neg (show ¬ (3 : Int32) ≤ nI s from nI_ge (b := 3) hs (by omega)), zi_rd s rfl (hl.2.2.2.2.2.1 s hs) (show s < 3 from hs), Option.bind_some, zi_rd (S s) rfl (hl.2.2.2.2.1 (S s) h6) (show S s < 6 from h6), Option.bind_some, zi_wr (q := 92) s rfl (show s < 3 from hs), Option.bind_some]
    show m_X7_standAtStart_91_L2 n (nI s + 1) _ = _
    rw [nI_1]
  have keep : ∀ H s v, sp_lc N k G P S H → sp_lc N k G P S (stF H 92 s v) := fun H s v h => sp_lc_fr h (fun c hc => st_cell H s v (by omega))
  unfold m_X7_standAtStart_91
  rw [show m_X7_standAtStart_91_L2 300 (0 : Int32) F = m_X7_standAtStart_91_L2 300 (nI 0) F from rfl, go 299 0 F (by omega) hl, go 298 1 _ (by omega) (keep _ _ _ hl), go 297 2 _ (by omega) (keep _ _ _ (keep _ _ _ hl)), show m_X7_standAtStart_91_L2 297 (nI (2 + 1)) _ = some _ from by rw [m_X7_standAtStart_91_L2]; rfl]
  refine ⟨_, rfl, ⟨?_, ?_, ?_⟩, ?_⟩
  · intro s hs
    rw [st_cell _ _ _ (by decide), st_cell _ _ _ (by decide)]
    rcases (by omega : s = 0 ∨ s = 1 ∨ s = 2) with rfl | rfl | rfl
    · rw [st_ne _ _ (by omega), st_ne _ _ (by omega), st_self]; rfl
    · rw [st_ne _ _ (by omega), st_self]; rfl
    · rw [st_self]; rfl
  · rw [st_ne _ _ (by omega), st_self]; rfl
  · rw [st_self]
  · exact sp_fo_tr (sp_fo_tr (sp_fo_tr (sp_fo_tr (sp_fo_r 91 92 _ _ _ rfl) (sp_fo_r 91 92 _ _ _ rfl)) (sp_fo_r 91 92 _ _ _ rfl)) (sp_fo_s2 91 _ _)) (sp_fo_s3 91 _ _)
theorem snd_91 {k c : Nat} {a : Nat → Nat} {g : Int32} {F : mmS} {s x : Nat} (hk3 : k ≤ 3) (ho : sp_ob k 91 92 a c g F) (hs : s < k) (ha : a s ≤ 1000) (hx : x ≤ 1000) : ∃ F1, m_X7_send_91 F (nI s) (nI x) = some F1 ∧ sp_ob k 91 92 (sp_ua a s x) (c + pd (a s) x) (nI s) F1 ∧ sp_fo 91 F F1 := by
  unfold m_X7_send_91
  rw [zi_rd s rfl (ho.1 s hs) (show s < 3 by omega), Option.bind_some, pb_abs (by omega) (by omega), ho.2.1, nI_add]
  show ∃ F1, Option.bind (ast _ 92 (nI s) (nI x)) _ = _ ∧ _
  rw [zi_wr (q := 92) s rfl (show s < 3 by omega)]
  refine ⟨_, rfl, ⟨?_, ?_, ?_⟩, ?_⟩
  · intro i hi
    rw [st_cell _ _ _ (by decide)]
    unfold sp_ua
    split
    · subst s; rw [st_self]
    · rw [st_ne _ _ (by omega), st_cell _ _ _ (by decide)]; exact ho.1 i hi
  · rw [st_ne _ _ (by omega), st_cell _ _ _ (by decide), st_self]
  · rw [st_self]
  · exact sp_fo_tr (sp_fo_tr (sp_fo_s2 91 _ _) (sp_fo_r 91 92 _ _ _ rfl)) (sp_fo_s3 91 _ _)
theorem nto_27 {k c : Nat} {a : Nat → Nat} {g : Int32} {F : mmS} {x : Nat} (hk : 1 ≤ k) (hk3 : k ≤ 3) (h11 : F 1 1 = nI k) (ho : sp_ob k 27 28 a c g F) (ha : ∀ s, s < k → a s ≤ 1000) (hx : x ≤ 1000) : m_X5_nearestTo_27 F (nI x) = some (nI (sp_c0 k a x)) := by
  have loop : ∀ d s n, s + d = k → 1 ≤ s → d < n → m_X5_nearestTo_27_L4 (nI x) F n (nI (sp_am (fun i => pd (a i) x) s)) (nI s) = some (nI (sp_c0 k a x)) := by
    intro d
    induction d with
    | zero =>
      intro s n h h1 hn
      obtain ⟨n, rfl⟩ : ∃ m, n = m + 1 := ⟨n - 1, by omega⟩
      obtain rfl : s = k := by omega
      rw [m_X5_nearestTo_27_L4, h11, if_pos (nI_le (by omega) (by omega))]
      rfl
    | succ d ih =>
      intro s n h h1 hn
      obtain ⟨n, rfl⟩ : ∃ m, n = m + 1 := ⟨n - 1, by omega⟩
      have hb : sp_am (fun i => pd (a i) x) s < s := sp_am_lt h1
      have e := sp_am_mn (v := fun i => pd (a i) x) h1 (fun i hi => by have := pd_le (ha i (by omega)) hx; show pd _ _ < _; omega)
      have p1 := ha s (by omega)
      have p2 := ha (sp_am (fun i => pd (a i) x) s) (by omega)
      have r1 := pd_le p1 hx
      have r2 := pd_le p2 hx
      rw [m_X5_nearestTo_27_L4, h11, if_neg (nI_ge (by omega) (by omega)), zi_rd s rfl (ho.1 s (by omega)) (show s < 3 by omega), Option.bind_some, zi_rd (sp_am (fun i => pd (a i) x) s) rfl (ho.1 _ (by omega)) (show _ < 3 by omega), Option.bind_some, pb_abs (by omega) (by omega), pb_abs (by omega) (by omega)]
      have hv := ih (s + 1) n (by omega) (by omega) (by omega)
      have hd : sp_am (fun i => pd (a i) x) (s + 1) = if pd (a s) x < sp_mn (fun i => pd (a i) x) s then s else sp_am (fun i => pd (a i) x) s := rfl
      rw [hd, ← e] at hv
      by_cases q : pd (a s) x < pd (a (sp_am (fun i => pd (a i) x) s)) x
      · rw [if_neg (nI_ge q (by omega))]
        rw [if_pos q] at hv
        show m_X5_nearestTo_27_L4 (nI x) F n (nI s) (nI s + 1) = _
        rw [nI_1]
        exact hv
      · rw [if_pos (nI_le (by omega) (by omega))]
        rw [if_neg q] at hv
        show m_X5_nearestTo_27_L4 (nI x) F n _ (nI s + 1) = _
        rw [nI_1]
        exact hv
  unfold m_X5_nearestTo_27
  have h := loop (k - 1) 1 300 (by omega) (by omega) (by omega)
  rw [sp_am1] at h
  rw [show m_X5_nearestTo_27_L4 (nI x) F 300 (0 : Int32) (1 : Int32) = m_X5_nearestTo_27_L4 (nI x) F 300 (nI 0) (nI 1) from rfl, h]
  rfl
theorem nto_30 {k c : Nat} {a : Nat → Nat} {g : Int32} {F : mmS} {x : Nat} (hk : 1 ≤ k) (hk3 : k ≤ 3) (h11 : F 1 1 = nI k) (ho : sp_ob k 30 31 a c g F) (ha : ∀ s, s < k → a s ≤ 1000) (hx : x ≤ 1000) : m_X5_nearestTo_30 F (nI x) = some (nI (sp_c0 k a x)) := by
  have loop : ∀ d s n, s + d = k → 1 ≤ s → d < n → m_X5_nearestTo_30_L4 (nI x) F n (nI (sp_am (fun i => pd (a i) x) s)) (nI s) = some (nI (sp_c0 k a x)) := by
    intro d
    induction d with
    | zero =>
      intro s n h h1 hn
      obtain ⟨n, rfl⟩ : ∃ m, n = m + 1 := ⟨n - 1, by omega⟩
      obtain rfl : s = k := by omega
      rw [m_X5_nearestTo_30_L4, h11, if_pos (nI_le (by omega) (by omega))]
      rfl
    | succ d ih =>
      intro s n h h1 hn
      obtain ⟨n, rfl⟩ : ∃ m, n = m + 1 := ⟨n - 1, by omega⟩
      have hb : sp_am (fun i => pd (a i) x) s < s := sp_am_lt h1
      have e := sp_am_mn (v := fun i => pd (a i) x) h1 (fun i hi => by have := pd_le (ha i (by omega)) hx; show pd _ _ < _; omega)
      have p1 := ha s (by omega)
      have p2 := ha (sp_am (fun i => pd (a i) x) s) (by omega)
      have r1 := pd_le p1 hx
      have r2 := pd_le p2 hx
      rw [m_X5_nearestTo_30_L4, h11, if_neg (nI_ge (by omega) (by omega)), zi_rd s rfl (ho.1 s (by omega)) (show s < 3 by omega), Option.bind_some, zi_rd (sp_am (fun i => pd (a i) x) s) rfl (ho.1 _ (by omega)) (show _ < 3 by omega), Option.bind_some, pb_abs (by omega) (by omega), pb_abs (by omega) (by omega)]
      have hv := ih (s + 1) n (by omega) (by omega) (by omega)
      have hd : sp_am (fun i => pd (a i) x) (s + 1) = if pd (a s) x < sp_mn (fun i => pd (a i) x) s then s else sp_am (fun i => pd (a i) x) s := rfl
      rw [hd, ← e] at hv
      by_cases q : pd (a s) x < pd (a (sp_am (fun i => pd (a i) x) s)) x
      · rw [if_neg (nI_ge q (by omega))]
        rw [if_pos q] at hv
        show m_X5_nearestTo_30_L4 (nI x) F n (nI s) (nI s + 1) = _
        rw [nI_1]
        exact hv
      · rw [if_pos (nI_le (by omega) (by omega))]
        rw [if_neg q] at hv
        show m_X5_nearestTo_30_L4 (nI x) F n _ (nI s + 1) = _
        rw [nI_1]
        exact hv
  unfold m_X5_nearestTo_30
  have h := loop (k - 1) 1 300 (by omega) (by omega) (by omega)
  rw [sp_am1] at h
  rw [show m_X5_nearestTo_30_L4 (nI x) F 300 (0 : Int32) (1 : Int32) = m_X5_nearestTo_30_L4 (nI x) F 300 (nI 0) (nI 1) from rfl, h]
  rfl
theorem nto_34 {k c : Nat} {a : Nat → Nat} {g : Int32} {F : mmS} {x : Nat} (hk : 1 ≤ k) (hk3 : k ≤ 3) (h11 : F 1 1 = nI k) (ho : sp_ob k 34 35 a c g F) (ha : ∀ s, s < k → a s ≤ 1000) (hx : x ≤ 1000) : m_X5_nearestTo_34 F (nI x) = some (nI (sp_c0 k a x)) := by
  have loop : ∀ d s n, s + d = k → 1 ≤ s → d < n → m_X5_nearestTo_34_L4 (nI x) F n (nI (sp_am (fun i => pd (a i) x) s)) (nI s) = some (nI (sp_c0 k a x)) := by
    intro d
    induction d with
    | zero =>
      intro s n h h1 hn
      obtain ⟨n, rfl⟩ : ∃ m, n = m + 1 := ⟨n - 1, by omega⟩
      obtain rfl : s = k := by omega
      rw [m_X5_nearestTo_34_L4, h11, if_pos (nI_le (by omega) (by omega))]
      rfl
    | succ d ih =>
      intro s n h h1 hn
      obtain ⟨n, rfl⟩ : ∃ m, n = m + 1 := ⟨n - 1, by omega⟩
      have hb : sp_am (fun i => pd (a i) x) s < s := sp_am_lt h1
      have e := sp_am_mn (v := fun i => pd (a i) x) h1 (fun i hi => by have := pd_le (ha i (by omega)) hx; show pd _ _ < _; omega)
      have p1 := ha s (by omega)
      have p2 := ha (sp_am (fun i => pd (a i) x) s) (by omega)
      have r1 := pd_le p1 hx
      have r2 := pd_le p2 hx
      rw [m_X5_nearestTo_34_L4, h11, if_neg (nI_ge (by omega) (by omega)), zi_rd s rfl (ho.1 s (by omega)) (show s < 3 by omega), Option.bind_some, zi_rd (sp_am (fun i => pd (a i) x) s) rfl (ho.1 _ (by omega)) (show _ < 3 by omega), Option.bind_some, pb_abs (by omega) (by omega), pb_abs (by omega) (by omega)]
      have hv := ih (s + 1) n (by omega) (by omega) (by omega)
      have hd : sp_am (fun i => pd (a i) x) (s + 1) = if pd (a s) x < sp_mn (fun i => pd (a i) x) s then s else sp_am (fun i => pd (a i) x) s := rfl
      rw [hd, ← e] at hv
      by_cases q : pd (a s) x < pd (a (sp_am (fun i => pd (a i) x) s)) x
      · rw [if_neg (nI_ge q (by omega))]
        rw [if_pos q] at hv
        show m_X5_nearestTo_34_L4 (nI x) F n (nI s) (nI s + 1) = _
        rw [nI_1]
        exact hv
      · rw [if_pos (nI_le (by omega) (by omega))]
        rw [if_neg q] at hv
        show m_X5_nearestTo_34_L4 (nI x) F n _ (nI s + 1) = _
        rw [nI_1]
        exact hv
  unfold m_X5_nearestTo_34
  have h := loop (k - 1) 1 300 (by omega) (by omega) (by omega)
  rw [sp_am1] at h
  rw [show m_X5_nearestTo_34_L4 (nI x) F 300 (0 : Int32) (1 : Int32) = m_X5_nearestTo_34_L4 (nI x) F 300 (nI 0) (nI 1) from rfl, h]
  rfl
theorem nto_87 {k c : Nat} {a : Nat → Nat} {g : Int32} {F : mmS} {x : Nat} (hk : 1 ≤ k) (hk3 : k ≤ 3) (h11 : F 1 1 = nI k) (ho : sp_ob k 87 88 a c g F) (ha : ∀ s, s < k → a s ≤ 1000) (hx : x ≤ 1000) : m_X5_nearestTo_87 F (nI x) = some (nI (sp_c0 k a x)) := by
  have loop : ∀ d s n, s + d = k → 1 ≤ s → d < n → m_X5_nearestTo_87_L4 (nI x) F n (nI (sp_am (fun i => pd (a i) x) s)) (nI s) = some (nI (sp_c0 k a x)) := by
    intro d
    induction d with
    | zero =>
      intro s n h h1 hn
      obtain ⟨n, rfl⟩ : ∃ m, n = m + 1 := ⟨n - 1, by omega⟩
      obtain rfl : s = k := by omega
      rw [m_X5_nearestTo_87_L4, h11, if_pos (nI_le (by omega) (by omega))]
      rfl
    | succ d ih =>
      intro s n h h1 hn
      obtain ⟨n, rfl⟩ : ∃ m, n = m + 1 := ⟨n - 1, by omega⟩
      have hb : sp_am (fun i => pd (a i) x) s < s := sp_am_lt h1
      have e := sp_am_mn (v := fun i => pd (a i) x) h1 (fun i hi => by have := pd_le (ha i (by omega)) hx; show pd _ _ < _; omega)
      have p1 := ha s (by omega)
      have p2 := ha (sp_am (fun i => pd (a i) x) s) (by omega)
      have r1 := pd_le p1 hx
      have r2 := pd_le p2 hx
      rw [m_X5_nearestTo_87_L4, h11, if_neg (nI_ge (by omega) (by omega)), zi_rd s rfl (ho.1 s (by omega)) (show s < 3 by omega), Option.bind_some, zi_rd (sp_am (fun i => pd (a i) x) s) rfl (ho.1 _ (by omega)) (show _ < 3 by omega), Option.bind_some, pb_abs (by omega) (by omega), pb_abs (by omega) (by omega)]
      have hv := ih (s + 1) n (by omega) (by omega) (by omega)
      have hd : sp_am (fun i => pd (a i) x) (s + 1) = if pd (a s) x < sp_mn (fun i => pd (a i) x) s then s else sp_am (fun i => pd (a i) x) s := rfl
      rw [hd, ← e] at hv
      by_cases q : pd (a s) x < pd (a (sp_am (fun i => pd (a i) x) s)) x
      · rw [if_neg (nI_ge q (by omega))]
        rw [if_pos q] at hv
        show m_X5_nearestTo_87_L4 (nI x) F n (nI s) (nI s + 1) = _
        rw [nI_1]
        exact hv
      · rw [if_pos (nI_le (by omega) (by omega))]
        rw [if_neg q] at hv
        show m_X5_nearestTo_87_L4 (nI x) F n _ (nI s + 1) = _
        rw [nI_1]
        exact hv
  unfold m_X5_nearestTo_87
  have h := loop (k - 1) 1 300 (by omega) (by omega) (by omega)
  rw [sp_am1] at h
  rw [show m_X5_nearestTo_87_L4 (nI x) F 300 (0 : Int32) (1 : Int32) = m_X5_nearestTo_87_L4 (nI x) F 300 (nI 0) (nI 1) from rfl, h]
  rfl
theorem mee_30 {N k G c : Nat} {P S a : Nat → Nat} {g h : Int32} {F : mmS} {p : Nat} (hn : sp_num N k G P S) (hl : sp_lc N k G P S F) (hf : F 30 4 = 0) (ho : sp_ob k 30 31 a c g F) (ha : ∀ s, s < k → a s ≤ 1000) (hp : p < 6) : ∃ F1, m_X5_meet_30 F (nI p) h = some F1 ∧ sp_ob k 30 31 (sp_ua a (sp_c0 k a (P p)) (P p)) (c + pd (a (sp_c0 k a (P p))) (P p)) (nI (sp_c0 k a (P p))) F1 ∧ sp_fo 30 F F1 := by
  have hx := hn.2.2.2.2.2.2.1 p
  unfold m_X5_meet_30
  rw [zi_rd p rfl (hl.2.2.2.2.1 p hp) (show p < 6 from hp), Option.bind_some, hf]
  have e : m_X5_nearestTo_30 F (nI (P p)) = some (nI (sp_c0 k a (P p))) := nto_30 hn.2.2.1 hn.2.2.2.1 hl.2.1 ho ha hx
  obtain ⟨F1, h1, h2⟩ := snd_30 hn.2.2.2.1 ho (sp_c0_lt (a := a) (x := P p) hn.2.2.1) (ha _ (sp_c0_lt hn.2.2.1)) hx
  refine ⟨F1, ?_, h2⟩
  show Option.bind (Option.bind (m_X5_nearestTo_30 F (nI (P p))) fun x3 => some x3) _ = _
  rw [e]
  show Option.bind (m_X7_send_30 F (nI (sp_c0 k a (P p))) (nI (P p))) _ = _
  rw [h1]
  rfl
theorem mee_87 {N k G c : Nat} {P S a : Nat → Nat} {g h : Int32} {F : mmS} {p : Nat} (hn : sp_num N k G P S) (hl : sp_lc N k G P S F) (hf : F 87 4 = 0) (ho : sp_ob k 87 88 a c g F) (ha : ∀ s, s < k → a s ≤ 1000) (hp : p < 6) : ∃ F1, m_X5_meet_87 F (nI p) h = some F1 ∧ sp_ob k 87 88 (sp_ua a (sp_c0 k a (P p)) (P p)) (c + pd (a (sp_c0 k a (P p))) (P p)) (nI (sp_c0 k a (P p))) F1 ∧ sp_fo 87 F F1 := by
  have hx := hn.2.2.2.2.2.2.1 p
  unfold m_X5_meet_87
  rw [zi_rd p rfl (hl.2.2.2.2.1 p hp) (show p < 6 from hp), Option.bind_some, hf]
  have e : m_X5_nearestTo_87 F (nI (P p)) = some (nI (sp_c0 k a (P p))) := nto_87 hn.2.2.1 hn.2.2.2.1 hl.2.1 ho ha hx
  obtain ⟨F1, h1, h2⟩ := snd_87 hn.2.2.2.1 ho (sp_c0_lt (a := a) (x := P p) hn.2.2.1) (ha _ (sp_c0_lt hn.2.2.1)) hx
  refine ⟨F1, ?_, h2⟩
  show Option.bind (Option.bind (m_X5_nearestTo_87 F (nI (P p))) fun x3 => some x3) _ = _
  rw [e]
  show Option.bind (m_X7_send_87 F (nI (sp_c0 k a (P p))) (nI (P p))) _ = _
  rw [h1]
  rfl
theorem mee_27 {N k G c : Nat} {P S a : Nat → Nat} {g h : Int32} {F : mmS} {p : Nat} (hn : sp_num N k G P S) (hl : sp_lc N k G P S F) (hf : F 27 4 = 1) (ho : sp_ob k 27 28 a c g F) (ha : ∀ s, s < k → a s ≤ 1000) (hp : p < 6) (hh : h = -1 ∨ ∃ j, j < k ∧ h = nI j) : ∃ F1, m_X5_meet_27 F (nI p) h = some F1 ∧ sp_ob k 27 28 (sp_ua a (sp_c3 k a (P p) h) (P p)) (c + pd (a (sp_c3 k a (P p) h)) (P p)) (nI (sp_c3 k a (P p) h)) F1 ∧ sp_fo 27 F F1 := by
  have hx := hn.2.2.2.2.2.2.1 p
  unfold m_X5_meet_27
  rw [zi_rd p rfl (hl.2.2.2.2.1 p hp) (show p < 6 from hp), Option.bind_some, hf]
  have hlt := sp_c3_lt (a := a) (x := P p) hn.2.2.1 hn.2.2.2.1 hh
  obtain ⟨F1, h1, h2⟩ := snd_27 hn.2.2.2.1 ho hlt (ha _ hlt) hx
  refine ⟨F1, ?_, h2⟩
  rw [if_neg (show ¬ (1 : Int32) = 0 by decide)]
  rcases hh with rfl | ⟨j, hj, rfl⟩
  · rw [if_pos rfl]
    have e : m_X5_nearestTo_27 F (nI (P p)) = some (nI (sp_c3 k a (P p) (-1))) := nto_27 hn.2.2.1 hn.2.2.2.1 hl.2.1 ho ha hx
    show Option.bind (Option.bind (m_X5_nearestTo_27 F (nI (P p))) fun x3 => some x3) _ = _
    rw [e]
    show Option.bind (m_X7_send_27 F (nI (sp_c3 k a (P p) (-1))) (nI (P p))) _ = _
    rw [h1]
    rfl
  · have hk3 := hn.2.2.2.1
    have ne := zi_m1 (n := j) (by omega)
    rw [if_neg ne]
    have e : nI (sp_c3 k a (P p) (nI j)) = nI j := by
      unfold sp_c3
      rw [if_neg ne, nI_clamp (by omega)]
    rw [e] at h1
    show Option.bind (m_X7_send_27 F (nI j) (nI (P p))) _ = _
    rw [h1]
    rfl
theorem mee_34 {N k G c : Nat} {P S a : Nat → Nat} {g h : Int32} {F : mmS} {p : Nat} (hn : sp_num N k G P S) (hl : sp_lc N k G P S F) (hf : F 34 4 = 1) (ho : sp_ob k 34 35 a c g F) (ha : ∀ s, s < k → a s ≤ 1000) (hp : p < 6) (hh : h = -1 ∨ ∃ j, j < k ∧ h = nI j) : ∃ F1, m_X5_meet_34 F (nI p) h = some F1 ∧ sp_ob k 34 35 (sp_ua a (sp_c3 k a (P p) h) (P p)) (c + pd (a (sp_c3 k a (P p) h)) (P p)) (nI (sp_c3 k a (P p) h)) F1 ∧ sp_fo 34 F F1 := by
  have hx := hn.2.2.2.2.2.2.1 p
  unfold m_X5_meet_34
  rw [zi_rd p rfl (hl.2.2.2.2.1 p hp) (show p < 6 from hp), Option.bind_some, hf]
  have hlt := sp_c3_lt (a := a) (x := P p) hn.2.2.1 hn.2.2.2.1 hh
  obtain ⟨F1, h1, h2⟩ := snd_34 hn.2.2.2.1 ho hlt (ha _ hlt) hx
  refine ⟨F1, ?_, h2⟩
  rw [if_neg (show ¬ (1 : Int32) = 0 by decide)]
  rcases hh with rfl | ⟨j, hj, rfl⟩
  · rw [if_pos rfl]
    have e : m_X5_nearestTo_34 F (nI (P p)) = some (nI (sp_c3 k a (P p) (-1))) := nto_34 hn.2.2.1 hn.2.2.2.1 hl.2.1 ho ha hx
    show Option.bind (Option.bind (m_X5_nearestTo_34 F (nI (P p))) fun x3 => some x3) _ = _
    rw [e]
    show Option.bind (m_X7_send_34 F (nI (sp_c3 k a (P p) (-1))) (nI (P p))) _ = _
    rw [h1]
    rfl
  · have hk3 := hn.2.2.2.1
    have ne := zi_m1 (n := j) (by omega)
    rw [if_neg ne]
    have e : nI (sp_c3 k a (P p) (nI j)) = nI j := by
      unfold sp_c3
      rw [if_neg ne, nI_clamp (by omega)]
    rw [e] at h1
    show Option.bind (m_X7_send_34 F (nI j) (nI (P p))) _ = _
    rw [h1]
    rfl
theorem bsv_25 {k c : Nat} {a : Nat → Nat} {g : Int32} {F : mmS} {x : Nat} (hk3 : k ≤ 3) (h11 : F 1 1 = nI k) (ho : sp_ob k 25 26 a c g F) (ha : ∀ s, s < k → a s ≤ 1000) (hx : x ≤ 1000) : m_X1_isServed_25 F (nI x) = some (if sp_sv a x k 0 = true then 1 else 0) := by
  have loop : ∀ d s n, s + d = k → d < n → m_X1_isServed_25_L2 (nI x) F n (nI s) = some (if sp_sv a x d s = true then .inl 1 else .inr ()) := by
    intro d
    induction d with
    | zero =>
      intro s n h hn
      obtain ⟨n, rfl⟩ : ∃ m, n = m + 1 := ⟨n - 1, by omega⟩
      rw [m_X1_isServed_25_L2, h11, if_pos (nI_le (by omega) (by omega))]
      rfl
    | succ d ih =>
      intro s n h hn
      obtain ⟨n, rfl⟩ : ∃ m, n = m + 1 := ⟨n - 1, by omega⟩
      have p1 := ha s (by omega)
      rw [m_X1_isServed_25_L2, h11, if_neg (nI_ge (by omega) (by omega)), zi_rd s rfl (ho.1 s (by omega)) (show s < 3 by omega), Option.bind_some]
      by_cases q : a s = x
      · rw [if_pos (by rw [q])]
        have : sp_sv a x (d + 1) s = true := by
          show (decide (a s = x) || _) = true
          rw [decide_eq_true q]
          rfl
        rw [if_pos this]
        rfl
      · rw [if_neg (fun e => q ((nI_eq (by omega) (by omega)).mp e))]
        have : sp_sv a x (d + 1) s = sp_sv a x d (s + 1) := by
          show (decide (a s = x) || _) = _
          rw [decide_eq_false q]
          rfl
        rw [this]
        show m_X1_isServed_25_L2 (nI x) F n (nI s + 1) = _
        rw [nI_1]
        exact ih (s + 1) n (by omega) (by omega)
  unfold m_X1_isServed_25
  rw [show m_X1_isServed_25_L2 (nI x) F 300 (0 : Int32) = m_X1_isServed_25_L2 (nI x) F 300 (nI 0) from rfl, loop k 0 300 (by omega) (by omega)]
  split <;> rfl
theorem blo_25 {k c : Nat} {a : Nat → Nat} {g : Int32} {F : mmS} {x : Nat} (hk3 : k ≤ 3) (h11 : F 1 1 = nI k) (ho : sp_ob k 25 26 a c g F) (ha : ∀ s, s < k → a s ≤ 1000) (hx : x ≤ 1000) : m_X1_nearestBelow_25 F (nI x) = some (sp_oI (sp_lo a x k)) := by
  have loop : ∀ d s n, s + d = k → d < n → m_X1_nearestBelow_25_L4 (nI x) F n (sp_oI (sp_lo a x s)) (nI s) = some (sp_oI (sp_lo a x k)) := by
    intro d
    induction d with
    | zero =>
      intro s n h hn
      obtain ⟨n, rfl⟩ : ∃ m, n = m + 1 := ⟨n - 1, by omega⟩
      obtain rfl : s = k := by omega
      rw [m_X1_nearestBelow_25_L4, h11, if_pos (nI_le (by omega) (by omega))]
    | succ d ih =>
      intro s n h hn
      obtain ⟨n, rfl⟩ : ∃ m, n = m + 1 := ⟨n - 1, by omega⟩
      have p1 := ha s (by omega)
      have hv := ih (s + 1) n (by omega) (by omega)
      rw [sp_lo] at hv
      rw [m_X1_nearestBelow_25_L4, h11, if_neg (nI_ge (by omega) (by omega)), zi_rd s rfl (ho.1 s (by omega)) (show s < 3 by omega), Option.bind_some]
      rw [← nI_1] at hv
      by_cases q : a s < x
      · rw [if_neg (nI_ge q (by omega))]
        cases hb : sp_lo a x s with
        | none =>
          rw [hb] at hv
          rw [if_pos (show sp_oI none = -1 from rfl)]
          simp only [if_pos q] at hv
          exact hv
        | some b =>
          rw [hb] at hv
          have hb2 := sp_lo_some hb
          have p2 := ha b (by omega)
          rw [if_neg (show ¬ sp_oI (some b) = -1 from zi_m1 (by omega)), Option.bind_some, zi_rd b (show sp_oI (some b) = nI b from rfl) (ho.1 b (by omega)) (show b < 3 by omega), Option.bind_some]
          by_cases q2 : a b < a s
          · rw [if_neg (nI_ge q2 (by omega))]
            simp only [if_pos (And.intro q q2)] at hv
            exact hv
          · rw [if_pos (nI_le (by omega) (by omega))]
            simp only [if_neg (fun hq : a s < x ∧ a b < a s => q2 hq.2)] at hv
            exact hv
      · rw [if_pos (nI_le (by omega) (by omega))]
        cases hb : sp_lo a x s with
        | none =>
          rw [hb] at hv
          simp only [if_neg q] at hv
          exact hv
        | some b =>
          rw [hb] at hv
          simp only [if_neg (fun hq : a s < x ∧ a b < a s => q hq.1)] at hv
          exact hv
  unfold m_X1_nearestBelow_25
  rw [show m_X1_nearestBelow_25_L4 (nI x) F 300 (-1 : Int32) (0 : Int32) = m_X1_nearestBelow_25_L4 (nI x) F 300 (sp_oI (sp_lo a x 0)) (nI 0) from rfl, loop k 0 300 (by omega) (by omega)]
  rfl
theorem bhi_25 {k c : Nat} {a : Nat → Nat} {g : Int32} {F : mmS} {x : Nat} (hk3 : k ≤ 3) (h11 : F 1 1 = nI k) (ho : sp_ob k 25 26 a c g F) (ha : ∀ s, s < k → a s ≤ 1000) (hx : x ≤ 1000) : m_X1_nearestAbove_25 F (nI x) = some (sp_oI (sp_hi a x k)) := by
  have loop : ∀ d s n, s + d = k → d < n → m_X1_nearestAbove_25_L4 (nI x) F n (sp_oI (sp_hi a x s)) (nI s) = some (sp_oI (sp_hi a x k)) := by
    intro d
    induction d with
    | zero =>
      intro s n h hn
      obtain ⟨n, rfl⟩ : ∃ m, n = m + 1 := ⟨n - 1, by omega⟩
      obtain rfl : s = k := by omega
      rw [m_X1_nearestAbove_25_L4, h11, if_pos (nI_le (by omega) (by omega))]
    | succ d ih =>
      intro s n h hn
      obtain ⟨n, rfl⟩ : ∃ m, n = m + 1 := ⟨n - 1, by omega⟩
      have p1 := ha s (by omega)
      have hv := ih (s + 1) n (by omega) (by omega)
      rw [sp_hi] at hv
      rw [m_X1_nearestAbove_25_L4, h11, if_neg (nI_ge (by omega) (by omega)), zi_rd s rfl (ho.1 s (by omega)) (show s < 3 by omega), Option.bind_some]
      rw [← nI_1] at hv
      by_cases q : x < a s
      · rw [if_neg (nI_ge q (by omega))]
        cases hb : sp_hi a x s with
        | none =>
          rw [hb] at hv
          rw [if_pos (show sp_oI none = -1 from rfl)]
          simp only [if_pos q] at hv
          exact hv
        | some b =>
          rw [hb] at hv
          have hb2 := sp_hi_some hb
          have p2 := ha b (by omega)
          rw [if_neg (show ¬ sp_oI (some b) = -1 from zi_m1 (by omega)), Option.bind_some, zi_rd b (show sp_oI (some b) = nI b from rfl) (ho.1 b (by omega)) (show b < 3 by omega), Option.bind_some]
          by_cases q2 : a s < a b
          · rw [if_neg (nI_ge q2 (by omega))]
            simp only [if_pos (And.intro q q2)] at hv
            exact hv
          · rw [if_pos (nI_le (by omega) (by omega))]
            simp only [if_neg (fun hq : x < a s ∧ a s < a b => q2 hq.2)] at hv
            exact hv
      · rw [if_pos (nI_le (by omega) (by omega))]
        cases hb : sp_hi a x s with
        | none =>
          rw [hb] at hv
          simp only [if_neg q] at hv
          exact hv
        | some b =>
          rw [hb] at hv
          simp only [if_neg (fun hq : x < a s ∧ a s < a b => q hq.1)] at hv
          exact hv
  unfold m_X1_nearestAbove_25
  rw [show m_X1_nearestAbove_25_L4 (nI x) F 300 (-1 : Int32) (0 : Int32) = m_X1_nearestAbove_25_L4 (nI x) F 300 (sp_oI (sp_hi a x 0)) (nI 0) from rfl, loop k 0 300 (by omega) (by omega)]
  rfl
theorem mee_25 {N k G c : Nat} {P S a : Nat → Nat} {g h : Int32} {F : mmS} {p : Nat} (hn : sp_num N k G P S) (hl : sp_lc N k G P S F) (ho : sp_ob k 25 26 a c g F) (ha : ∀ s, s < k → a s ≤ 1000) (hp : p < 6) : ∃ F1 g1, m_X1_meet_25 F (nI p) h = some F1 ∧ sp_ob k 25 26 (sp_bo k a (P p)).1 (c + (sp_bo k a (P p)).2) g1 F1 ∧ sp_fo 25 F F1 := by
  have hx := hn.2.2.2.2.2.2.1 p
  have hk3 := hn.2.2.2.1
  unfold m_X1_meet_25
  rw [zi_rd p rfl (hl.2.2.2.2.1 p hp) (show p < 6 from hp), Option.bind_some, bsv_25 hk3 hl.2.1 ho ha hx, Option.bind_some, blo_25 hk3 hl.2.1 ho ha hx, bhi_25 hk3 hl.2.1 ho ha hx]
  unfold sp_bo
  by_cases q : sp_sv a (P p) k 0 = true
  · rw [if_pos q, if_pos q, if_neg (show ¬ (1 : Int32) = 0 by decide)]
    refine ⟨_, -1, rfl, ⟨?_, ?_, ?_⟩, sp_fo_s3 25 _ _⟩
    · intro s hs
      rw [st_cell _ _ _ (by decide)]
      exact ho.1 s hs
    · rw [st_ne _ _ (by omega)]; exact ho.2.1
    · rw [st_self]
  · rw [if_neg q, if_neg q, if_pos rfl]
    simp only [Option.bind_some]
    cases hb : sp_lo a (P p) k with
    | none =>
      rw [if_pos (show sp_oI none = -1 from rfl), if_pos (show sp_oI none = -1 from rfl)]
      cases ht : sp_hi a (P p) k with
      | none =>
        rw [if_pos (show sp_oI none = -1 from rfl)]
        exact ⟨F, g, rfl, ho, sp_fo_refl 25 F⟩
      | some t =>
        have t2 := sp_hi_some ht
        rw [if_neg (show ¬ sp_oI (some t) = -1 from zi_m1 (by omega))]
        obtain ⟨F1, h1, h2⟩ := snd_25 hk3 ho t2.1 (ha _ t2.1) hx
        refine ⟨F1, nI t, ?_, h2⟩
        rw [show m_X7_send_25 F (sp_oI (some t)) (nI (P p)) = some F1 from h1]
        rfl
    | some b =>
      have b2 := sp_lo_some hb
      rw [if_neg (show ¬ sp_oI (some b) = -1 from zi_m1 (by omega))]
      cases ht : sp_hi a (P p) k with
      | none =>
        rw [if_pos (show sp_oI none = -1 from rfl), if_neg (show ¬ sp_oI (some b) = -1 from zi_m1 (by omega))]
        obtain ⟨F1, h1, h2⟩ := snd_25 hk3 ho b2.1 (ha _ b2.1) hx
        refine ⟨F1, nI b, ?_, h2⟩
        rw [show m_X7_send_25 F (sp_oI (some b)) (nI (P p)) = some F1 from h1]
        rfl
      | some t =>
        have t2 := sp_hi_some ht
        have pb := ha b b2.1
        have pt := ha t t2.1
        rw [if_neg (show ¬ sp_oI (some t) = -1 from zi_m1 (by omega))]
        rw [zi_rd b (show sp_oI (some b) = nI b from rfl) (ho.1 b b2.1) (show b < 3 by omega), Option.bind_some, zi_rd t (show sp_oI (some t) = nI t from rfl) (ho.1 t t2.1) (show t < 3 by omega), Option.bind_some, pk_sub (by omega), pk_sub (by omega), pb_min (by omega) (by omega)]
        rw [zb_mlet, Option.bind_some, nI_add]
        obtain ⟨F1, h1, h2, h3⟩ := snd_25 (x := a b + min (P p - a b) (a t - P p)) hk3 ho b2.1 pb (by omega)
        rw [show m_X7_send_25 F (sp_oI (some b)) (nI (a b + min (P p - a b) (a t - P p))) = some F1 from h1, Option.bind_some]
        have et : sp_ua a b (a b + min (P p - a b) (a t - P p)) t = a t := sp_ua_n _ _ (by intro e; subst e; omega)
        rw [zi_rd t (show sp_oI (some t) = nI t from rfl) (h2.1 t t2.1) (show t < 3 by omega), Option.bind_some, et, pk_sub (by omega)]
        obtain ⟨F2, h4, h5, h6⟩ := snd_25 (s := t) (x := a t - min (P p - a b) (a t - P p)) hk3 h2 t2.1 (by rw [et]; exact pt) (by omega)
        rw [show m_X7_send_25 F1 (sp_oI (some t)) (nI (a t - min (P p - a b) (a t - P p))) = some F2 from h4, Option.bind_some]
        refine ⟨F2, nI t, rfl, ?_, sp_fo_tr h3 h6⟩
        rw [et] at h5
        have e1 : pd (a b) (a b + min (P p - a b) (a t - P p)) = min (P p - a b) (a t - P p) := by unfold pd; omega
        have e2 : pd (a t) (a t - min (P p - a b) (a t - P p)) = min (P p - a b) (a t - P p) := by unfold pd; omega
        rw [e1, e2, Nat.add_assoc] at h5
        exact h5
theorem bsv_32 {k c : Nat} {a : Nat → Nat} {g : Int32} {F : mmS} {x : Nat} (hk3 : k ≤ 3) (h11 : F 1 1 = nI k) (ho : sp_ob k 32 33 a c g F) (ha : ∀ s, s < k → a s ≤ 1000) (hx : x ≤ 1000) : m_X1_isServed_32 F (nI x) = some (if sp_sv a x k 0 = true then 1 else 0) := by
  have loop : ∀ d s n, s + d = k → d < n → m_X1_isServed_32_L2 (nI x) F n (nI s) = some (if sp_sv a x d s = true then .inl 1 else .inr ()) := by
    intro d
    induction d with
    | zero =>
      intro s n h hn
      obtain ⟨n, rfl⟩ : ∃ m, n = m + 1 := ⟨n - 1, by omega⟩
      rw [m_X1_isServed_32_L2, h11, if_pos (nI_le (by omega) (by omega))]
      rfl
    | succ d ih =>
      intro s n h hn
      obtain ⟨n, rfl⟩ : ∃ m, n = m + 1 := ⟨n - 1, by omega⟩
      have p1 := ha s (by omega)
      rw [m_X1_isServed_32_L2, h11, if_neg (nI_ge (by omega) (by omega)), zi_rd s rfl (ho.1 s (by omega)) (show s < 3 by omega), Option.bind_some]
      by_cases q : a s = x
      · rw [if_pos (by rw [q])]
        have : sp_sv a x (d + 1) s = true := by
          show (decide (a s = x) || _) = true
          rw [decide_eq_true q]
          rfl
        rw [if_pos this]
        rfl
      · rw [if_neg (fun e => q ((nI_eq (by omega) (by omega)).mp e))]
        have : sp_sv a x (d + 1) s = sp_sv a x d (s + 1) := by
          show (decide (a s = x) || _) = _
          rw [decide_eq_false q]
          rfl
        rw [this]
        show m_X1_isServed_32_L2 (nI x) F n (nI s + 1) = _
        rw [nI_1]
        exact ih (s + 1) n (by omega) (by omega)
  unfold m_X1_isServed_32
  rw [show m_X1_isServed_32_L2 (nI x) F 300 (0 : Int32) = m_X1_isServed_32_L2 (nI x) F 300 (nI 0) from rfl, loop k 0 300 (by omega) (by omega)]
  split <;> rfl
theorem blo_32 {k c : Nat} {a : Nat → Nat} {g : Int32} {F : mmS} {x : Nat} (hk3 : k ≤ 3) (h11 : F 1 1 = nI k) (ho : sp_ob k 32 33 a c g F) (ha : ∀ s, s < k → a s ≤ 1000) (hx : x ≤ 1000) : m_X1_nearestBelow_32 F (nI x) = some (sp_oI (sp_lo a x k)) := by
  have loop : ∀ d s n, s + d = k → d < n → m_X1_nearestBelow_32_L4 (nI x) F n (sp_oI (sp_lo a x s)) (nI s) = some (sp_oI (sp_lo a x k)) := by
    intro d
    induction d with
    | zero =>
      intro s n h hn
      obtain ⟨n, rfl⟩ : ∃ m, n = m + 1 := ⟨n - 1, by omega⟩
      obtain rfl : s = k := by omega
      rw [m_X1_nearestBelow_32_L4, h11, if_pos (nI_le (by omega) (by omega))]
    | succ d ih =>
      intro s n h hn
      obtain ⟨n, rfl⟩ : ∃ m, n = m + 1 := ⟨n - 1, by omega⟩
      have p1 := ha s (by omega)
      have hv := ih (s + 1) n (by omega) (by omega)
      rw [sp_lo] at hv
      rw [m_X1_nearestBelow_32_L4, h11, if_neg (nI_ge (by omega) (by omega)), zi_rd s rfl (ho.1 s (by omega)) (show s < 3 by omega), Option.bind_some]
      rw [← nI_1] at hv
      by_cases q : a s < x
      · rw [if_neg (nI_ge q (by omega))]
        cases hb : sp_lo a x s with
        | none =>
          rw [hb] at hv
          rw [if_pos (show sp_oI none = -1 from rfl)]
          simp only [if_pos q] at hv
          exact hv
        | some b =>
          rw [hb] at hv
          have hb2 := sp_lo_some hb
          have p2 := ha b (by omega)
          rw [if_neg (show ¬ sp_oI (some b) = -1 from zi_m1 (by omega)), Option.bind_some, zi_rd b (show sp_oI (some b) = nI b from rfl) (ho.1 b (by omega)) (show b < 3 by omega), Option.bind_some]
          by_cases q2 : a b < a s
          · rw [if_neg (nI_ge q2 (by omega))]
            simp only [if_pos (And.intro q q2)] at hv
            exact hv
          · rw [if_pos (nI_le (by omega) (by omega))]
            simp only [if_neg (fun hq : a s < x ∧ a b < a s => q2 hq.2)] at hv
            exact hv
      · rw [if_pos (nI_le (by omega) (by omega))]
        cases hb : sp_lo a x s with
        | none =>
          rw [hb] at hv
          simp only [if_neg q] at hv
          exact hv
        | some b =>
          rw [hb] at hv
          simp only [if_neg (fun hq : a s < x ∧ a b < a s => q hq.1)] at hv
          exact hv
  unfold m_X1_nearestBelow_32
  rw [show m_X1_nearestBelow_32_L4 (nI x) F 300 (-1 : Int32) (0 : Int32) = m_X1_nearestBelow_32_L4 (nI x) F 300 (sp_oI (sp_lo a x 0)) (nI 0) from rfl, loop k 0 300 (by omega) (by omega)]
  rfl
theorem bhi_32 {k c : Nat} {a : Nat → Nat} {g : Int32} {F : mmS} {x : Nat} (hk3 : k ≤ 3) (h11 : F 1 1 = nI k) (ho : sp_ob k 32 33 a c g F) (ha : ∀ s, s < k → a s ≤ 1000) (hx : x ≤ 1000) : m_X1_nearestAbove_32 F (nI x) = some (sp_oI (sp_hi a x k)) := by
  have loop : ∀ d s n, s + d = k → d < n → m_X1_nearestAbove_32_L4 (nI x) F n (sp_oI (sp_hi a x s)) (nI s) = some (sp_oI (sp_hi a x k)) := by
    intro d
    induction d with
    | zero =>
      intro s n h hn
      obtain ⟨n, rfl⟩ : ∃ m, n = m + 1 := ⟨n - 1, by omega⟩
      obtain rfl : s = k := by omega
      rw [m_X1_nearestAbove_32_L4, h11, if_pos (nI_le (by omega) (by omega))]
    | succ d ih =>
      intro s n h hn
      obtain ⟨n, rfl⟩ : ∃ m, n = m + 1 := ⟨n - 1, by omega⟩
      have p1 := ha s (by omega)
      have hv := ih (s + 1) n (by omega) (by omega)
      rw [sp_hi] at hv
      rw [m_X1_nearestAbove_32_L4, h11, if_neg (nI_ge (by omega) (by omega)), zi_rd s rfl (ho.1 s (by omega)) (show s < 3 by omega), Option.bind_some]
      rw [← nI_1] at hv
      by_cases q : x < a s
      · rw [if_neg (nI_ge q (by omega))]
        cases hb : sp_hi a x s with
        | none =>
          rw [hb] at hv
          rw [if_pos (show sp_oI none = -1 from rfl)]
          simp only [if_pos q] at hv
          exact hv
        | some b =>
          rw [hb] at hv
          have hb2 := sp_hi_some hb
          have p2 := ha b (by omega)
          rw [if_neg (show ¬ sp_oI (some b) = -1 from zi_m1 (by omega)), Option.bind_some, zi_rd b (show sp_oI (some b) = nI b from rfl) (ho.1 b (by omega)) (show b < 3 by omega), Option.bind_some]
          by_cases q2 : a s < a b
          · rw [if_neg (nI_ge q2 (by omega))]
            simp only [if_pos (And.intro q q2)] at hv
            exact hv
          · rw [if_pos (nI_le (by omega) (by omega))]
            simp only [if_neg (fun hq : x < a s ∧ a s < a b => q2 hq.2)] at hv
            exact hv
      · rw [if_pos (nI_le (by omega) (by omega))]
        cases hb : sp_hi a x s with
        | none =>
          rw [hb] at hv
          simp only [if_neg q] at hv
          exact hv
        | some b =>
          rw [hb] at hv
          simp only [if_neg (fun hq : x < a s ∧ a s < a b => q hq.1)] at hv
          exact hv
  unfold m_X1_nearestAbove_32
  rw [show m_X1_nearestAbove_32_L4 (nI x) F 300 (-1 : Int32) (0 : Int32) = m_X1_nearestAbove_32_L4 (nI x) F 300 (sp_oI (sp_hi a x 0)) (nI 0) from rfl, loop k 0 300 (by omega) (by omega)]
  rfl
theorem mee_32 {N k G c : Nat} {P S a : Nat → Nat} {g h : Int32} {F : mmS} {p : Nat} (hn : sp_num N k G P S) (hl : sp_lc N k G P S F) (ho : sp_ob k 32 33 a c g F) (ha : ∀ s, s < k → a s ≤ 1000) (hp : p < 6) : ∃ F1 g1, m_X1_meet_32 F (nI p) h = some F1 ∧ sp_ob k 32 33 (sp_bo k a (P p)).1 (c + (sp_bo k a (P p)).2) g1 F1 ∧ sp_fo 32 F F1 := by
  have hx := hn.2.2.2.2.2.2.1 p
  have hk3 := hn.2.2.2.1
  unfold m_X1_meet_32
  rw [zi_rd p rfl (hl.2.2.2.2.1 p hp) (show p < 6 from hp), Option.bind_some, bsv_32 hk3 hl.2.1 ho ha hx, Option.bind_some, blo_32 hk3 hl.2.1 ho ha hx, bhi_32 hk3 hl.2.1 ho ha hx]
  unfold sp_bo
  by_cases q : sp_sv a (P p) k 0 = true
  · rw [if_pos q, if_pos q, if_neg (show ¬ (1 : Int32) = 0 by decide)]
    refine ⟨_, -1, rfl, ⟨?_, ?_, ?_⟩, sp_fo_s3 32 _ _⟩
    · intro s hs
      rw [st_cell _ _ _ (by decide)]
      exact ho.1 s hs
    · rw [st_ne _ _ (by omega)]; exact ho.2.1
    · rw [st_self]
  · rw [if_neg q, if_neg q, if_pos rfl]
    simp only [Option.bind_some]
    cases hb : sp_lo a (P p) k with
    | none =>
      rw [if_pos (show sp_oI none = -1 from rfl), if_pos (show sp_oI none = -1 from rfl)]
      cases ht : sp_hi a (P p) k with
      | none =>
        rw [if_pos (show sp_oI none = -1 from rfl)]
        exact ⟨F, g, rfl, ho, sp_fo_refl 32 F⟩
      | some t =>
        have t2 := sp_hi_some ht
        rw [if_neg (show ¬ sp_oI (some t) = -1 from zi_m1 (by omega))]
        obtain ⟨F1, h1, h2⟩ := snd_32 hk3 ho t2.1 (ha _ t2.1) hx
        refine ⟨F1, nI t, ?_, h2⟩
        rw [show m_X7_send_32 F (sp_oI (some t)) (nI (P p)) = some F1 from h1]
        rfl
    | some b =>
      have b2 := sp_lo_some hb
      rw [if_neg (show ¬ sp_oI (some b) = -1 from zi_m1 (by omega))]
      cases ht : sp_hi a (P p) k with
      | none =>
        rw [if_pos (show sp_oI none = -1 from rfl), if_neg (show ¬ sp_oI (some b) = -1 from zi_m1 (by omega))]
        obtain ⟨F1, h1, h2⟩ := snd_32 hk3 ho b2.1 (ha _ b2.1) hx
        refine ⟨F1, nI b, ?_, h2⟩
        rw [show m_X7_send_32 F (sp_oI (some b)) (nI (P p)) = some F1 from h1]
        rfl
      | some t =>
        have t2 := sp_hi_some ht
        have pb := ha b b2.1
        have pt := ha t t2.1
        rw [if_neg (show ¬ sp_oI (some t) = -1 from zi_m1 (by omega))]
        rw [zi_rd b (show sp_oI (some b) = nI b from rfl) (ho.1 b b2.1) (show b < 3 by omega), Option.bind_some, zi_rd t (show sp_oI (some t) = nI t from rfl) (ho.1 t t2.1) (show t < 3 by omega), Option.bind_some, pk_sub (by omega), pk_sub (by omega), pb_min (by omega) (by omega)]
        rw [zb_mlet, Option.bind_some, nI_add]
        obtain ⟨F1, h1, h2, h3⟩ := snd_32 (x := a b + min (P p - a b) (a t - P p)) hk3 ho b2.1 pb (by omega)
        rw [show m_X7_send_32 F (sp_oI (some b)) (nI (a b + min (P p - a b) (a t - P p))) = some F1 from h1, Option.bind_some]
        have et : sp_ua a b (a b + min (P p - a b) (a t - P p)) t = a t := sp_ua_n _ _ (by intro e; subst e; omega)
        rw [zi_rd t (show sp_oI (some t) = nI t from rfl) (h2.1 t t2.1) (show t < 3 by omega), Option.bind_some, et, pk_sub (by omega)]
        obtain ⟨F2, h4, h5, h6⟩ := snd_32 (s := t) (x := a t - min (P p - a b) (a t - P p)) hk3 h2 t2.1 (by rw [et]; exact pt) (by omega)
        rw [show m_X7_send_32 F1 (sp_oI (some t)) (nI (a t - min (P p - a b) (a t - P p))) = some F2 from h4, Option.bind_some]
        refine ⟨F2, nI t, rfl, ?_, sp_fo_tr h3 h6⟩
        rw [et] at h5
        have e1 : pd (a b) (a b + min (P p - a b) (a t - P p)) = min (P p - a b) (a t - P p) := by unfold pd; omega
        have e2 : pd (a t) (a t - min (P p - a b) (a t - P p)) = min (P p - a b) (a t - P p) := by unfold pd; omega
        rw [e1, e2, Nat.add_assoc] at h5
        exact h5
theorem bsv_81 {k c : Nat} {a : Nat → Nat} {g : Int32} {F : mmS} {x : Nat} (hk3 : k ≤ 3) (h11 : F 1 1 = nI k) (ho : sp_ob k 81 82 a c g F) (ha : ∀ s, s < k → a s ≤ 1000) (hx : x ≤ 1000) : m_X1_isServed_81 F (nI x) = some (if sp_sv a x k 0 = true then 1 else 0) := by
  have loop : ∀ d s n, s + d = k → d < n → m_X1_isServed_81_L2 (nI x) F n (nI s) = some (if sp_sv a x d s = true then .inl 1 else .inr ()) := by
    intro d
    induction d with
    | zero =>
      intro s n h hn
      obtain ⟨n, rfl⟩ : ∃ m, n = m + 1 := ⟨n - 1, by omega⟩
      rw [m_X1_isServed_81_L2, h11, if_pos (nI_le (by omega) (by omega))]
      rfl
    | succ d ih =>
      intro s n h hn
      obtain ⟨n, rfl⟩ : ∃ m, n = m + 1 := ⟨n - 1, by omega⟩
      have p1 := ha s (by omega)
      rw [m_X1_isServed_81_L2, h11, if_neg (nI_ge (by omega) (by omega)), zi_rd s rfl (ho.1 s (by omega)) (show s < 3 by omega), Option.bind_some]
      by_cases q : a s = x
      · rw [if_pos (by rw [q])]
        have : sp_sv a x (d + 1) s = true := by
          show (decide (a s = x) || _) = true
          rw [decide_eq_true q]
          rfl
        rw [if_pos this]
        rfl
      · rw [if_neg (fun e => q ((nI_eq (by omega) (by omega)).mp e))]
        have : sp_sv a x (d + 1) s = sp_sv a x d (s + 1) := by
          show (decide (a s = x) || _) = _
          rw [decide_eq_false q]
          rfl
        rw [this]
        show m_X1_isServed_81_L2 (nI x) F n (nI s + 1) = _
        rw [nI_1]
        exact ih (s + 1) n (by omega) (by omega)
  unfold m_X1_isServed_81
  rw [show m_X1_isServed_81_L2 (nI x) F 300 (0 : Int32) = m_X1_isServed_81_L2 (nI x) F 300 (nI 0) from rfl, loop k 0 300 (by omega) (by omega)]
  split <;> rfl
theorem blo_81 {k c : Nat} {a : Nat → Nat} {g : Int32} {F : mmS} {x : Nat} (hk3 : k ≤ 3) (h11 : F 1 1 = nI k) (ho : sp_ob k 81 82 a c g F) (ha : ∀ s, s < k → a s ≤ 1000) (hx : x ≤ 1000) : m_X1_nearestBelow_81 F (nI x) = some (sp_oI (sp_lo a x k)) := by
  have loop : ∀ d s n, s + d = k → d < n → m_X1_nearestBelow_81_L4 (nI x) F n (sp_oI (sp_lo a x s)) (nI s) = some (sp_oI (sp_lo a x k)) := by
    intro d
    induction d with
    | zero =>
      intro s n h hn
      obtain ⟨n, rfl⟩ : ∃ m, n = m + 1 := ⟨n - 1, by omega⟩
      obtain rfl : s = k := by omega
      rw [m_X1_nearestBelow_81_L4, h11, if_pos (nI_le (by omega) (by omega))]
    | succ d ih =>
      intro s n h hn
      obtain ⟨n, rfl⟩ : ∃ m, n = m + 1 := ⟨n - 1, by omega⟩
      have p1 := ha s (by omega)
      have hv := ih (s + 1) n (by omega) (by omega)
      rw [sp_lo] at hv
      rw [m_X1_nearestBelow_81_L4, h11, if_neg (nI_ge (by omega) (by omega)), zi_rd s rfl (ho.1 s (by omega)) (show s < 3 by omega), Option.bind_some]
      rw [← nI_1] at hv
      by_cases q : a s < x
      · rw [if_neg (nI_ge q (by omega))]
        cases hb : sp_lo a x s with
        | none =>
          rw [hb] at hv
          rw [if_pos (show sp_oI none = -1 from rfl)]
          simp only [if_pos q] at hv
          exact hv
        | some b =>
          rw [hb] at hv
          have hb2 := sp_lo_some hb
          have p2 := ha b (by omega)
          rw [if_neg (show ¬ sp_oI (some b) = -1 from zi_m1 (by omega)), Option.bind_some, zi_rd b (show sp_oI (some b) = nI b from rfl) (ho.1 b (by omega)) (show b < 3 by omega), Option.bind_some]
          by_cases q2 : a b < a s
          · rw [if_neg (nI_ge q2 (by omega))]
            simp only [if_pos (And.intro q q2)] at hv
            exact hv
          · rw [if_pos (nI_le (by omega) (by omega))]
            simp only [if_neg (fun hq : a s < x ∧ a b < a s => q2 hq.2)] at hv
            exact hv
      · rw [if_pos (nI_le (by omega) (by omega))]
        cases hb : sp_lo a x s with
        | none =>
          rw [hb] at hv
          simp only [if_neg q] at hv
          exact hv
        | some b =>
          rw [hb] at hv
          simp only [if_neg (fun hq : a s < x ∧ a b < a s => q hq.1)] at hv
          exact hv
  unfold m_X1_nearestBelow_81
  rw [show m_X1_nearestBelow_81_L4 (nI x) F 300 (-1 : Int32) (0 : Int32) = m_X1_nearestBelow_81_L4 (nI x) F 300 (sp_oI (sp_lo a x 0)) (nI 0) from rfl, loop k 0 300 (by omega) (by omega)]
  rfl
theorem bhi_81 {k c : Nat} {a : Nat → Nat} {g : Int32} {F : mmS} {x : Nat} (hk3 : k ≤ 3) (h11 : F 1 1 = nI k) (ho : sp_ob k 81 82 a c g F) (ha : ∀ s, s < k → a s ≤ 1000) (hx : x ≤ 1000) : m_X1_nearestAbove_81 F (nI x) = some (sp_oI (sp_hi a x k)) := by
  have loop : ∀ d s n, s + d = k → d < n → m_X1_nearestAbove_81_L4 (nI x) F n (sp_oI (sp_hi a x s)) (nI s) = some (sp_oI (sp_hi a x k)) := by
    intro d
    induction d with
    | zero =>
      intro s n h hn
      obtain ⟨n, rfl⟩ : ∃ m, n = m + 1 := ⟨n - 1, by omega⟩
      obtain rfl : s = k := by omega
      rw [m_X1_nearestAbove_81_L4, h11, if_pos (nI_le (by omega) (by omega))]
    | succ d ih =>
      intro s n h hn
      obtain ⟨n, rfl⟩ : ∃ m, n = m + 1 := ⟨n - 1, by omega⟩
      have p1 := ha s (by omega)
      have hv := ih (s + 1) n (by omega) (by omega)
      rw [sp_hi] at hv
      rw [m_X1_nearestAbove_81_L4, h11, if_neg (nI_ge (by omega) (by omega)), zi_rd s rfl (ho.1 s (by omega)) (show s < 3 by omega), Option.bind_some]
      rw [← nI_1] at hv
      by_cases q : x < a s
      · rw [if_neg (nI_ge q (by omega))]
        cases hb : sp_hi a x s with
        | none =>
          rw [hb] at hv
          rw [if_pos (show sp_oI none = -1 from rfl)]
          simp only [if_pos q] at hv
          exact hv
        | some b =>
          rw [hb] at hv
          have hb2 := sp_hi_some hb
          have p2 := ha b (by omega)
          rw [if_neg (show ¬ sp_oI (some b) = -1 from zi_m1 (by omega)), Option.bind_some, zi_rd b (show sp_oI (some b) = nI b from rfl) (ho.1 b (by omega)) (show b < 3 by omega), Option.bind_some]
          by_cases q2 : a s < a b
          · rw [if_neg (nI_ge q2 (by omega))]
            simp only [if_pos (And.intro q q2)] at hv
            exact hv
          · rw [if_pos (nI_le (by omega) (by omega))]
            simp only [if_neg (fun hq : x < a s ∧ a s < a b => q2 hq.2)] at hv
            exact hv
      · rw [if_pos (nI_le (by omega) (by omega))]
        cases hb : sp_hi a x s with
        | none =>
          rw [hb] at hv
          simp only [if_neg q] at hv
          exact hv
        | some b =>
          rw [hb] at hv
          simp only [if_neg (fun hq : x < a s ∧ a s < a b => q hq.1)] at hv
          exact hv
  unfold m_X1_nearestAbove_81
  rw [show m_X1_nearestAbove_81_L4 (nI x) F 300 (-1 : Int32) (0 : Int32) = m_X1_nearestAbove_81_L4 (nI x) F 300 (sp_oI (sp_hi a x 0)) (nI 0) from rfl, loop k 0 300 (by omega) (by omega)]
  rfl
theorem mee_81 {N k G c : Nat} {P S a : Nat → Nat} {g h : Int32} {F : mmS} {p : Nat} (hn : sp_num N k G P S) (hl : sp_lc N k G P S F) (ho : sp_ob k 81 82 a c g F) (ha : ∀ s, s < k → a s ≤ 1000) (hp : p < 6) : ∃ F1 g1, m_X1_meet_81 F (nI p) h = some F1 ∧ sp_ob k 81 82 (sp_bo k a (P p)).1 (c + (sp_bo k a (P p)).2) g1 F1 ∧ sp_fo 81 F F1 := by
  have hx := hn.2.2.2.2.2.2.1 p
  have hk3 := hn.2.2.2.1
  unfold m_X1_meet_81
  rw [zi_rd p rfl (hl.2.2.2.2.1 p hp) (show p < 6 from hp), Option.bind_some, bsv_81 hk3 hl.2.1 ho ha hx, Option.bind_some, blo_81 hk3 hl.2.1 ho ha hx, bhi_81 hk3 hl.2.1 ho ha hx]
  unfold sp_bo
  by_cases q : sp_sv a (P p) k 0 = true
  · rw [if_pos q, if_pos q, if_neg (show ¬ (1 : Int32) = 0 by decide)]
    refine ⟨_, -1, rfl, ⟨?_, ?_, ?_⟩, sp_fo_s3 81 _ _⟩
    · intro s hs
      rw [st_cell _ _ _ (by decide)]
      exact ho.1 s hs
    · rw [st_ne _ _ (by omega)]; exact ho.2.1
    · rw [st_self]
  · rw [if_neg q, if_neg q, if_pos rfl]
    simp only [Option.bind_some]
    cases hb : sp_lo a (P p) k with
    | none =>
      rw [if_pos (show sp_oI none = -1 from rfl), if_pos (show sp_oI none = -1 from rfl)]
      cases ht : sp_hi a (P p) k with
      | none =>
        rw [if_pos (show sp_oI none = -1 from rfl)]
        exact ⟨F, g, rfl, ho, sp_fo_refl 81 F⟩
      | some t =>
        have t2 := sp_hi_some ht
        rw [if_neg (show ¬ sp_oI (some t) = -1 from zi_m1 (by omega))]
        obtain ⟨F1, h1, h2⟩ := snd_81 hk3 ho t2.1 (ha _ t2.1) hx
        refine ⟨F1, nI t, ?_, h2⟩
        rw [show m_X7_send_81 F (sp_oI (some t)) (nI (P p)) = some F1 from h1]
        rfl
    | some b =>
      have b2 := sp_lo_some hb
      rw [if_neg (show ¬ sp_oI (some b) = -1 from zi_m1 (by omega))]
      cases ht : sp_hi a (P p) k with
      | none =>
        rw [if_pos (show sp_oI none = -1 from rfl), if_neg (show ¬ sp_oI (some b) = -1 from zi_m1 (by omega))]
        obtain ⟨F1, h1, h2⟩ := snd_81 hk3 ho b2.1 (ha _ b2.1) hx
        refine ⟨F1, nI b, ?_, h2⟩
        rw [show m_X7_send_81 F (sp_oI (some b)) (nI (P p)) = some F1 from h1]
        rfl
      | some t =>
        have t2 := sp_hi_some ht
        have pb := ha b b2.1
        have pt := ha t t2.1
        rw [if_neg (show ¬ sp_oI (some t) = -1 from zi_m1 (by omega))]
        rw [zi_rd b (show sp_oI (some b) = nI b from rfl) (ho.1 b b2.1) (show b < 3 by omega), Option.bind_some, zi_rd t (show sp_oI (some t) = nI t from rfl) (ho.1 t t2.1) (show t < 3 by omega), Option.bind_some, pk_sub (by omega), pk_sub (by omega), pb_min (by omega) (by omega)]
        rw [zb_mlet, Option.bind_some, nI_add]
        obtain ⟨F1, h1, h2, h3⟩ := snd_81 (x := a b + min (P p - a b) (a t - P p)) hk3 ho b2.1 pb (by omega)
        rw [show m_X7_send_81 F (sp_oI (some b)) (nI (a b + min (P p - a b) (a t - P p))) = some F1 from h1, Option.bind_some]
        have et : sp_ua a b (a b + min (P p - a b) (a t - P p)) t = a t := sp_ua_n _ _ (by intro e; subst e; omega)
        rw [zi_rd t (show sp_oI (some t) = nI t from rfl) (h2.1 t t2.1) (show t < 3 by omega), Option.bind_some, et, pk_sub (by omega)]
        obtain ⟨F2, h4, h5, h6⟩ := snd_81 (s := t) (x := a t - min (P p - a b) (a t - P p)) hk3 h2 t2.1 (by rw [et]; exact pt) (by omega)
        rw [show m_X7_send_81 F1 (sp_oI (some t)) (nI (a t - min (P p - a b) (a t - P p))) = some F2 from h4, Option.bind_some]
        refine ⟨F2, nI t, rfl, ?_, sp_fo_tr h3 h6⟩
        rw [et] at h5
        have e1 : pd (a b) (a b + min (P p - a b) (a t - P p)) = min (P p - a b) (a t - P p) := by unfold pd; omega
        have e2 : pd (a t) (a t - min (P p - a b) (a t - P p)) = min (P p - a b) (a t - P p) := by unfold pd; omega
        rw [e1, e2, Nat.add_assoc] at h5
        exact h5
theorem bsv_89 {k c : Nat} {a : Nat → Nat} {g : Int32} {F : mmS} {x : Nat} (hk3 : k ≤ 3) (h11 : F 1 1 = nI k) (ho : sp_ob k 89 90 a c g F) (ha : ∀ s, s < k → a s ≤ 1000) (hx : x ≤ 1000) : m_X1_isServed_89 F (nI x) = some (if sp_sv a x k 0 = true then 1 else 0) := by
  have loop : ∀ d s n, s + d = k → d < n → m_X1_isServed_89_L2 (nI x) F n (nI s) = some (if sp_sv a x d s = true then .inl 1 else .inr ()) := by
    intro d
    induction d with
    | zero =>
      intro s n h hn
      obtain ⟨n, rfl⟩ : ∃ m, n = m + 1 := ⟨n - 1, by omega⟩
      rw [m_X1_isServed_89_L2, h11, if_pos (nI_le (by omega) (by omega))]
      rfl
    | succ d ih =>
      intro s n h hn
      obtain ⟨n, rfl⟩ : ∃ m, n = m + 1 := ⟨n - 1, by omega⟩
      have p1 := ha s (by omega)
      rw [m_X1_isServed_89_L2, h11, if_neg (nI_ge (by omega) (by omega)), zi_rd s rfl (ho.1 s (by omega)) (show s < 3 by omega), Option.bind_some]
      by_cases q : a s = x
      · rw [if_pos (by rw [q])]
        have : sp_sv a x (d + 1) s = true := by
          show (decide (a s = x) || _) = true
          rw [decide_eq_true q]
          rfl
        rw [if_pos this]
        rfl
      · rw [if_neg (fun e => q ((nI_eq (by omega) (by omega)).mp e))]
        have : sp_sv a x (d + 1) s = sp_sv a x d (s + 1) := by
          show (decide (a s = x) || _) = _
          rw [decide_eq_false q]
          rfl
        rw [this]
        show m_X1_isServed_89_L2 (nI x) F n (nI s + 1) = _
        rw [nI_1]
        exact ih (s + 1) n (by omega) (by omega)
  unfold m_X1_isServed_89
  rw [show m_X1_isServed_89_L2 (nI x) F 300 (0 : Int32) = m_X1_isServed_89_L2 (nI x) F 300 (nI 0) from rfl, loop k 0 300 (by omega) (by omega)]
  split <;> rfl
theorem blo_89 {k c : Nat} {a : Nat → Nat} {g : Int32} {F : mmS} {x : Nat} (hk3 : k ≤ 3) (h11 : F 1 1 = nI k) (ho : sp_ob k 89 90 a c g F) (ha : ∀ s, s < k → a s ≤ 1000) (hx : x ≤ 1000) : m_X1_nearestBelow_89 F (nI x) = some (sp_oI (sp_lo a x k)) := by
  have loop : ∀ d s n, s + d = k → d < n → m_X1_nearestBelow_89_L4 (nI x) F n (sp_oI (sp_lo a x s)) (nI s) = some (sp_oI (sp_lo a x k)) := by
    intro d
    induction d with
    | zero =>
      intro s n h hn
      obtain ⟨n, rfl⟩ : ∃ m, n = m + 1 := ⟨n - 1, by omega⟩
      obtain rfl : s = k := by omega
      rw [m_X1_nearestBelow_89_L4, h11, if_pos (nI_le (by omega) (by omega))]
    | succ d ih =>
      intro s n h hn
      obtain ⟨n, rfl⟩ : ∃ m, n = m + 1 := ⟨n - 1, by omega⟩
      have p1 := ha s (by omega)
      have hv := ih (s + 1) n (by omega) (by omega)
      rw [sp_lo] at hv
      rw [m_X1_nearestBelow_89_L4, h11, if_neg (nI_ge (by omega) (by omega)), zi_rd s rfl (ho.1 s (by omega)) (show s < 3 by omega), Option.bind_some]
      rw [← nI_1] at hv
      by_cases q : a s < x
      · rw [if_neg (nI_ge q (by omega))]
        cases hb : sp_lo a x s with
        | none =>
          rw [hb] at hv
          rw [if_pos (show sp_oI none = -1 from rfl)]
          simp only [if_pos q] at hv
          exact hv
        | some b =>
          rw [hb] at hv
          have hb2 := sp_lo_some hb
          have p2 := ha b (by omega)
          rw [if_neg (show ¬ sp_oI (some b) = -1 from zi_m1 (by omega)), Option.bind_some, zi_rd b (show sp_oI (some b) = nI b from rfl) (ho.1 b (by omega)) (show b < 3 by omega), Option.bind_some]
          by_cases q2 : a b < a s
          · rw [if_neg (nI_ge q2 (by omega))]
            simp only [if_pos (And.intro q q2)] at hv
            exact hv
          · rw [if_pos (nI_le (by omega) (by omega))]
            simp only [if_neg (fun hq : a s < x ∧ a b < a s => q2 hq.2)] at hv
            exact hv
      · rw [if_pos (nI_le (by omega) (by omega))]
        cases hb : sp_lo a x s with
        | none =>
          rw [hb] at hv
          simp only [if_neg q] at hv
          exact hv
        | some b =>
          rw [hb] at hv
          simp only [if_neg (fun hq : a s < x ∧ a b < a s => q hq.1)] at hv
          exact hv
  unfold m_X1_nearestBelow_89
  rw [show m_X1_nearestBelow_89_L4 (nI x) F 300 (-1 : Int32) (0 : Int32) = m_X1_nearestBelow_89_L4 (nI x) F 300 (sp_oI (sp_lo a x 0)) (nI 0) from rfl, loop k 0 300 (by omega) (by omega)]
  rfl
theorem bhi_89 {k c : Nat} {a : Nat → Nat} {g : Int32} {F : mmS} {x : Nat} (hk3 : k ≤ 3) (h11 : F 1 1 = nI k) (ho : sp_ob k 89 90 a c g F) (ha : ∀ s, s < k → a s ≤ 1000) (hx : x ≤ 1000) : m_X1_nearestAbove_89 F (nI x) = some (sp_oI (sp_hi a x k)) := by
  have loop : ∀ d s n, s + d = k → d < n → m_X1_nearestAbove_89_L4 (nI x) F n (sp_oI (sp_hi a x s)) (nI s) = some (sp_oI (sp_hi a x k)) := by
    intro d
    induction d with
    | zero =>
      intro s n h hn
      obtain ⟨n, rfl⟩ : ∃ m, n = m + 1 := ⟨n - 1, by omega⟩
      obtain rfl : s = k := by omega
      rw [m_X1_nearestAbove_89_L4, h11, if_pos (nI_le (by omega) (by omega))]
    | succ d ih =>
      intro s n h hn
      obtain ⟨n, rfl⟩ : ∃ m, n = m + 1 := ⟨n - 1, by omega⟩
      have p1 := ha s (by omega)
      have hv := ih (s + 1) n (by omega) (by omega)
      rw [sp_hi] at hv
      rw [m_X1_nearestAbove_89_L4, h11, if_neg (nI_ge (by omega) (by omega)), zi_rd s rfl (ho.1 s (by omega)) (show s < 3 by omega), Option.bind_some]
      rw [← nI_1] at hv
      by_cases q : x < a s
      · rw [if_neg (nI_ge q (by omega))]
        cases hb : sp_hi a x s with
        | none =>
          rw [hb] at hv
          rw [if_pos (show sp_oI none = -1 from rfl)]
          simp only [if_pos q] at hv
          exact hv
        | some b =>
          rw [hb] at hv
          have hb2 := sp_hi_some hb
          have p2 := ha b (by omega)
          rw [if_neg (show ¬ sp_oI (some b) = -1 from zi_m1 (by omega)), Option.bind_some, zi_rd b (show sp_oI (some b) = nI b from rfl) (ho.1 b (by omega)) (show b < 3 by omega), Option.bind_some]
          by_cases q2 : a s < a b
          · rw [if_neg (nI_ge q2 (by omega))]
            simp only [if_pos (And.intro q q2)] at hv
            exact hv
          · rw [if_pos (nI_le (by omega) (by omega))]
            simp only [if_neg (fun hq : x < a s ∧ a s < a b => q2 hq.2)] at hv
            exact hv
      · rw [if_pos (nI_le (by omega) (by omega))]
        cases hb : sp_hi a x s with
        | none =>
          rw [hb] at hv
          simp only [if_neg q] at hv
          exact hv
        | some b =>
          rw [hb] at hv
          simp only [if_neg (fun hq : x < a s ∧ a s < a b => q hq.1)] at hv
          exact hv
  unfold m_X1_nearestAbove_89
  rw [show m_X1_nearestAbove_89_L4 (nI x) F 300 (-1 : Int32) (0 : Int32) = m_X1_nearestAbove_89_L4 (nI x) F 300 (sp_oI (sp_hi a x 0)) (nI 0) from rfl, loop k 0 300 (by omega) (by omega)]
  rfl
theorem mee_89 {N k G c : Nat} {P S a : Nat → Nat} {g h : Int32} {F : mmS} {p : Nat} (hn : sp_num N k G P S) (hl : sp_lc N k G P S F) (ho : sp_ob k 89 90 a c g F) (ha : ∀ s, s < k → a s ≤ 1000) (hp : p < 6) : ∃ F1 g1, m_X1_meet_89 F (nI p) h = some F1 ∧ sp_ob k 89 90 (sp_bo k a (P p)).1 (c + (sp_bo k a (P p)).2) g1 F1 ∧ sp_fo 89 F F1 := by
  have hx := hn.2.2.2.2.2.2.1 p
  have hk3 := hn.2.2.2.1
  unfold m_X1_meet_89
  rw [zi_rd p rfl (hl.2.2.2.2.1 p hp) (show p < 6 from hp), Option.bind_some, bsv_89 hk3 hl.2.1 ho ha hx, Option.bind_some, blo_89 hk3 hl.2.1 ho ha hx, bhi_89 hk3 hl.2.1 ho ha hx]
  unfold sp_bo
  by_cases q : sp_sv a (P p) k 0 = true
  · rw [if_pos q, if_pos q, if_neg (show ¬ (1 : Int32) = 0 by decide)]
    refine ⟨_, -1, rfl, ⟨?_, ?_, ?_⟩, sp_fo_s3 89 _ _⟩
    · intro s hs
      rw [st_cell _ _ _ (by decide)]
      exact ho.1 s hs
    · rw [st_ne _ _ (by omega)]; exact ho.2.1
    · rw [st_self]
  · rw [if_neg q, if_neg q, if_pos rfl]
    simp only [Option.bind_some]
    cases hb : sp_lo a (P p) k with
    | none =>
      rw [if_pos (show sp_oI none = -1 from rfl), if_pos (show sp_oI none = -1 from rfl)]
      cases ht : sp_hi a (P p) k with
      | none =>
        rw [if_pos (show sp_oI none = -1 from rfl)]
        exact ⟨F, g, rfl, ho, sp_fo_refl 89 F⟩
      | some t =>
        have t2 := sp_hi_some ht
        rw [if_neg (show ¬ sp_oI (some t) = -1 from zi_m1 (by omega))]
        obtain ⟨F1, h1, h2⟩ := snd_89 hk3 ho t2.1 (ha _ t2.1) hx
        refine ⟨F1, nI t, ?_, h2⟩
        rw [show m_X7_send_89 F (sp_oI (some t)) (nI (P p)) = some F1 from h1]
        rfl
    | some b =>
      have b2 := sp_lo_some hb
      rw [if_neg (show ¬ sp_oI (some b) = -1 from zi_m1 (by omega))]
      cases ht : sp_hi a (P p) k with
      | none =>
        rw [if_pos (show sp_oI none = -1 from rfl), if_neg (show ¬ sp_oI (some b) = -1 from zi_m1 (by omega))]
        obtain ⟨F1, h1, h2⟩ := snd_89 hk3 ho b2.1 (ha _ b2.1) hx
        refine ⟨F1, nI b, ?_, h2⟩
        rw [show m_X7_send_89 F (sp_oI (some b)) (nI (P p)) = some F1 from h1]
        rfl
      | some t =>
        have t2 := sp_hi_some ht
        have pb := ha b b2.1
        have pt := ha t t2.1
        rw [if_neg (show ¬ sp_oI (some t) = -1 from zi_m1 (by omega))]
        rw [zi_rd b (show sp_oI (some b) = nI b from rfl) (ho.1 b b2.1) (show b < 3 by omega), Option.bind_some, zi_rd t (show sp_oI (some t) = nI t from rfl) (ho.1 t t2.1) (show t < 3 by omega), Option.bind_some, pk_sub (by omega), pk_sub (by omega), pb_min (by omega) (by omega)]
        rw [zb_mlet, Option.bind_some, nI_add]
        obtain ⟨F1, h1, h2, h3⟩ := snd_89 (x := a b + min (P p - a b) (a t - P p)) hk3 ho b2.1 pb (by omega)
        rw [show m_X7_send_89 F (sp_oI (some b)) (nI (a b + min (P p - a b) (a t - P p))) = some F1 from h1, Option.bind_some]
        have et : sp_ua a b (a b + min (P p - a b) (a t - P p)) t = a t := sp_ua_n _ _ (by intro e; subst e; omega)
        rw [zi_rd t (show sp_oI (some t) = nI t from rfl) (h2.1 t t2.1) (show t < 3 by omega), Option.bind_some, et, pk_sub (by omega)]
        obtain ⟨F2, h4, h5, h6⟩ := snd_89 (s := t) (x := a t - min (P p - a b) (a t - P p)) hk3 h2 t2.1 (by rw [et]; exact pt) (by omega)
        rw [show m_X7_send_89 F1 (sp_oI (some t)) (nI (a t - min (P p - a b) (a t - P p))) = some F2 from h4, Option.bind_some]
        refine ⟨F2, nI t, rfl, ?_, sp_fo_tr h3 h6⟩
        rw [et] at h5
        have e1 : pd (a b) (a b + min (P p - a b) (a t - P p)) = min (P p - a b) (a t - P p) := by unfold pd; omega
        have e2 : pd (a t) (a t - min (P p - a b) (a t - P p)) = min (P p - a b) (a t - P p) := by unfold pd; omega
        rw [e1, e2, Nat.add_assoc] at h5
        exact h5
theorem ldl_17 (Z : Nat → mmS → Prop) {m : Nat} {rp : Nat → Nat} {hh : Nat → Int32} (hm : m ≤ 40) (hr : ∀ t F, t < m → Z t F → F 15 t = nI (rp t) ∧ F 16 t = hh t) (hs : ∀ t F, t < m → Z t F → ∃ F1, m_X9_meet_17 F (nI (rp t)) (hh t) = some F1 ∧ Z (t + 1) F1) : ∀ d t n F, t + d = m → d < n → Z t F → ∃ F1, m_X6_lead_14_17_L16 (nI m) n (nI t) F = some F1 ∧ Z m F1 := by
  intro d
  induction d with
  | zero =>
    intro t n F h hn hz
    obtain ⟨n, rfl⟩ : ∃ m, n = m + 1 := ⟨n - 1, by omega⟩
    obtain rfl : t = m := by omega
    rw [m_X6_lead_14_17_L16, if_pos (nI_le (by omega) (by omega))]
    exact ⟨F, rfl, hz⟩
  | succ d ih =>
    intro t n F h hn hz
    obtain ⟨n, rfl⟩ : ∃ m, n = m + 1 := ⟨n - 1, by omega⟩
    obtain ⟨r1, r2⟩ := hr t F (by omega) hz
    obtain ⟨F1, h1, h2⟩ := hs t F (by omega) hz
    rw [m_X6_lead_14_17_L16, if_neg (nI_ge (by omega) (by omega)), zi_rd t rfl r1 (show t < 40 by omega), Option.bind_some, zi_rd t rfl r2 (show t < 40 by omega), Option.bind_some, h1, Option.bind_some]
    show ∃ F1', m_X6_lead_14_17_L16 (nI m) n (nI t + 1) F1 = some F1' ∧ _
    rw [nI_1]
    exact ih (t + 1) n F1 (by omega) (by omega) h2
theorem lda_17 (Z : Nat → mmS → Prop) {N : Nat} {rp : Nat → Nat} {hh : Nat → Int32} {F F0 : mmS} {t : Nat} (hN : N ≤ 40) (ht : t ≤ 40) (h14 : F 14 2 = nI N) (hb : m_X9_begin_17 F = some F0) (hz : Z 0 F0) (hr : ∀ t F, t < N → Z t F → F 15 t = nI (rp t) ∧ F 16 t = hh t) (hs : ∀ t F, t < N → Z t F → ∃ F1, m_X9_meet_17 F (nI (rp t)) (hh t) = some F1 ∧ Z (t + 1) F1) : ∃ F1, m_X6_lead_14_17 F (nI t) = some (F1 17 2, F1) ∧ Z (min t N) F1 := by
  unfold m_X6_lead_14_17
  rw [h14, pb_min (by omega) (by omega), hb]
  obtain ⟨F1, h1, h2⟩ := ldl_17 Z (m := min t N) (rp := rp) (hh := hh) (by omega) (fun t F h => hr t F (by omega)) (fun t F h => hs t F (by omega)) (min t N) 0 300 F0 (by omega) (by omega) hz
  refine ⟨F1, ?_, h2⟩
  show bd1 (m_X6_lead_14_17_L16 (nI (min t N)) 300 (nI 0) F0) _ = _
  rw [h1]
  rfl
theorem ldl_23 (Z : Nat → mmS → Prop) {m : Nat} {rp : Nat → Nat} {hh : Nat → Int32} (hm : m ≤ 40) (hr : ∀ t F, t < m → Z t F → F 15 t = nI (rp t) ∧ F 16 t = hh t) (hs : ∀ t F, t < m → Z t F → ∃ F1, m_X2_meet_23 F (nI (rp t)) (hh t) = some F1 ∧ Z (t + 1) F1) : ∀ d t n F, t + d = m → d < n → Z t F → ∃ F1, m_X6_lead_14_23_L16 (nI m) n (nI t) F = some F1 ∧ Z m F1 := by
  intro d
  induction d with
  | zero =>
    intro t n F h hn hz
    obtain ⟨n, rfl⟩ : ∃ m, n = m + 1 := ⟨n - 1, by omega⟩
    obtain rfl : t = m := by omega
    rw [m_X6_lead_14_23_L16, if_pos (nI_le (by omega) (by omega))]
    exact ⟨F, rfl, hz⟩
  | succ d ih =>
    intro t n F h hn hz
    obtain ⟨n, rfl⟩ : ∃ m, n = m + 1 := ⟨n - 1, by omega⟩
    obtain ⟨r1, r2⟩ := hr t F (by omega) hz
    obtain ⟨F1, h1, h2⟩ := hs t F (by omega) hz
    rw [m_X6_lead_14_23_L16, if_neg (nI_ge (by omega) (by omega)), zi_rd t rfl r1 (show t < 40 by omega), Option.bind_some, zi_rd t rfl r2 (show t < 40 by omega), Option.bind_some, h1, Option.bind_some]
    show ∃ F1', m_X6_lead_14_23_L16 (nI m) n (nI t + 1) F1 = some F1' ∧ _
    rw [nI_1]
    exact ih (t + 1) n F1 (by omega) (by omega) h2
theorem lda_23 (Z : Nat → mmS → Prop) {N : Nat} {rp : Nat → Nat} {hh : Nat → Int32} {F F0 : mmS} {t : Nat} (hN : N ≤ 40) (ht : t ≤ 40) (h14 : F 14 2 = nI N) (hb : m_X7_begin_23 F = some F0) (hz : Z 0 F0) (hr : ∀ t F, t < N → Z t F → F 15 t = nI (rp t) ∧ F 16 t = hh t) (hs : ∀ t F, t < N → Z t F → ∃ F1, m_X2_meet_23 F (nI (rp t)) (hh t) = some F1 ∧ Z (t + 1) F1) : ∃ F1, m_X6_lead_14_23 F (nI t) = some (F1 23 2, F1) ∧ Z (min t N) F1 := by
  unfold m_X6_lead_14_23
  rw [h14, pb_min (by omega) (by omega), hb]
  obtain ⟨F1, h1, h2⟩ := ldl_23 Z (m := min t N) (rp := rp) (hh := hh) (by omega) (fun t F h => hr t F (by omega)) (fun t F h => hs t F (by omega)) (min t N) 0 300 F0 (by omega) (by omega) hz
  refine ⟨F1, ?_, h2⟩
  show bd1 (m_X6_lead_14_23_L16 (nI (min t N)) 300 (nI 0) F0) _ = _
  rw [h1]
  rfl
theorem ldl_30 (Z : Nat → mmS → Prop) {m : Nat} {rp : Nat → Nat} {hh : Nat → Int32} (hm : m ≤ 40) (hr : ∀ t F, t < m → Z t F → F 15 t = nI (rp t) ∧ F 16 t = hh t) (hs : ∀ t F, t < m → Z t F → ∃ F1, m_X5_meet_30 F (nI (rp t)) (hh t) = some F1 ∧ Z (t + 1) F1) : ∀ d t n F, t + d = m → d < n → Z t F → ∃ F1, m_X6_lead_14_30_L16 (nI m) n (nI t) F = some F1 ∧ Z m F1 := by
  intro d
  induction d with
  | zero =>
    intro t n F h hn hz
    obtain ⟨n, rfl⟩ : ∃ m, n = m + 1 := ⟨n - 1, by omega⟩
    obtain rfl : t = m := by omega
    rw [m_X6_lead_14_30_L16, if_pos (nI_le (by omega) (by omega))]
    exact ⟨F, rfl, hz⟩
  | succ d ih =>
    intro t n F h hn hz
    obtain ⟨n, rfl⟩ : ∃ m, n = m + 1 := ⟨n - 1, by omega⟩
    obtain ⟨r1, r2⟩ := hr t F (by omega) hz
    obtain ⟨F1, h1, h2⟩ := hs t F (by omega) hz
    rw [m_X6_lead_14_30_L16, if_neg (nI_ge (by omega) (by omega)), zi_rd t rfl r1 (show t < 40 by omega), Option.bind_some, zi_rd t rfl r2 (show t < 40 by omega), Option.bind_some, h1, Option.bind_some]
    show ∃ F1', m_X6_lead_14_30_L16 (nI m) n (nI t + 1) F1 = some F1' ∧ _
    rw [nI_1]
    exact ih (t + 1) n F1 (by omega) (by omega) h2
theorem lda_30 (Z : Nat → mmS → Prop) {N : Nat} {rp : Nat → Nat} {hh : Nat → Int32} {F F0 : mmS} {t : Nat} (hN : N ≤ 40) (ht : t ≤ 40) (h14 : F 14 2 = nI N) (hb : m_X7_begin_30 F = some F0) (hz : Z 0 F0) (hr : ∀ t F, t < N → Z t F → F 15 t = nI (rp t) ∧ F 16 t = hh t) (hs : ∀ t F, t < N → Z t F → ∃ F1, m_X5_meet_30 F (nI (rp t)) (hh t) = some F1 ∧ Z (t + 1) F1) : ∃ F1, m_X6_lead_14_30 F (nI t) = some (F1 30 2, F1) ∧ Z (min t N) F1 := by
  unfold m_X6_lead_14_30
  rw [h14, pb_min (by omega) (by omega), hb]
  obtain ⟨F1, h1, h2⟩ := ldl_30 Z (m := min t N) (rp := rp) (hh := hh) (by omega) (fun t F h => hr t F (by omega)) (fun t F h => hs t F (by omega)) (min t N) 0 300 F0 (by omega) (by omega) hz
  refine ⟨F1, ?_, h2⟩
  show bd1 (m_X6_lead_14_30_L16 (nI (min t N)) 300 (nI 0) F0) _ = _
  rw [h1]
  rfl
theorem ldl_32 (Z : Nat → mmS → Prop) {m : Nat} {rp : Nat → Nat} {hh : Nat → Int32} (hm : m ≤ 40) (hr : ∀ t F, t < m → Z t F → F 15 t = nI (rp t) ∧ F 16 t = hh t) (hs : ∀ t F, t < m → Z t F → ∃ F1, m_X1_meet_32 F (nI (rp t)) (hh t) = some F1 ∧ Z (t + 1) F1) : ∀ d t n F, t + d = m → d < n → Z t F → ∃ F1, m_X6_lead_14_32_L16 (nI m) n (nI t) F = some F1 ∧ Z m F1 := by
  intro d
  induction d with
  | zero =>
    intro t n F h hn hz
    obtain ⟨n, rfl⟩ : ∃ m, n = m + 1 := ⟨n - 1, by omega⟩
    obtain rfl : t = m := by omega
    rw [m_X6_lead_14_32_L16, if_pos (nI_le (by omega) (by omega))]
    exact ⟨F, rfl, hz⟩
  | succ d ih =>
    intro t n F h hn hz
    obtain ⟨n, rfl⟩ : ∃ m, n = m + 1 := ⟨n - 1, by omega⟩
    obtain ⟨r1, r2⟩ := hr t F (by omega) hz
    obtain ⟨F1, h1, h2⟩ := hs t F (by omega) hz
    rw [m_X6_lead_14_32_L16, if_neg (nI_ge (by omega) (by omega)), zi_rd t rfl r1 (show t < 40 by omega), Option.bind_some, zi_rd t rfl r2 (show t < 40 by omega), Option.bind_some, h1, Option.bind_some]
    show ∃ F1', m_X6_lead_14_32_L16 (nI m) n (nI t + 1) F1 = some F1' ∧ _
    rw [nI_1]
    exact ih (t + 1) n F1 (by omega) (by omega) h2
theorem lda_32 (Z : Nat → mmS → Prop) {N : Nat} {rp : Nat → Nat} {hh : Nat → Int32} {F F0 : mmS} {t : Nat} (hN : N ≤ 40) (ht : t ≤ 40) (h14 : F 14 2 = nI N) (hb : m_X7_begin_32 F = some F0) (hz : Z 0 F0) (hr : ∀ t F, t < N → Z t F → F 15 t = nI (rp t) ∧ F 16 t = hh t) (hs : ∀ t F, t < N → Z t F → ∃ F1, m_X1_meet_32 F (nI (rp t)) (hh t) = some F1 ∧ Z (t + 1) F1) : ∃ F1, m_X6_lead_14_32 F (nI t) = some (F1 32 2, F1) ∧ Z (min t N) F1 := by
  unfold m_X6_lead_14_32
  rw [h14, pb_min (by omega) (by omega), hb]
  obtain ⟨F1, h1, h2⟩ := ldl_32 Z (m := min t N) (rp := rp) (hh := hh) (by omega) (fun t F h => hr t F (by omega)) (fun t F h => hs t F (by omega)) (min t N) 0 300 F0 (by omega) (by omega) hz
  refine ⟨F1, ?_, h2⟩
  show bd1 (m_X6_lead_14_32_L16 (nI (min t N)) 300 (nI 0) F0) _ = _
  rw [h1]
  rfl
theorem ldl_34 (Z : Nat → mmS → Prop) {m : Nat} {rp : Nat → Nat} {hh : Nat → Int32} (hm : m ≤ 40) (hr : ∀ t F, t < m → Z t F → F 15 t = nI (rp t) ∧ F 16 t = hh t) (hs : ∀ t F, t < m → Z t F → ∃ F1, m_X5_meet_34 F (nI (rp t)) (hh t) = some F1 ∧ Z (t + 1) F1) : ∀ d t n F, t + d = m → d < n → Z t F → ∃ F1, m_X6_lead_14_34_L16 (nI m) n (nI t) F = some F1 ∧ Z m F1 := by
  intro d
  induction d with
  | zero =>
    intro t n F h hn hz
    obtain ⟨n, rfl⟩ : ∃ m, n = m + 1 := ⟨n - 1, by omega⟩
    obtain rfl : t = m := by omega
    rw [m_X6_lead_14_34_L16, if_pos (nI_le (by omega) (by omega))]
    exact ⟨F, rfl, hz⟩
  | succ d ih =>
    intro t n F h hn hz
    obtain ⟨n, rfl⟩ : ∃ m, n = m + 1 := ⟨n - 1, by omega⟩
    obtain ⟨r1, r2⟩ := hr t F (by omega) hz
    obtain ⟨F1, h1, h2⟩ := hs t F (by omega) hz
    rw [m_X6_lead_14_34_L16, if_neg (nI_ge (by omega) (by omega)), zi_rd t rfl r1 (show t < 40 by omega), Option.bind_some, zi_rd t rfl r2 (show t < 40 by omega), Option.bind_some, h1, Option.bind_some]
    show ∃ F1', m_X6_lead_14_34_L16 (nI m) n (nI t + 1) F1 = some F1' ∧ _
    rw [nI_1]
    exact ih (t + 1) n F1 (by omega) (by omega) h2
theorem lda_34 (Z : Nat → mmS → Prop) {N : Nat} {rp : Nat → Nat} {hh : Nat → Int32} {F F0 : mmS} {t : Nat} (hN : N ≤ 40) (ht : t ≤ 40) (h14 : F 14 2 = nI N) (hb : m_X7_begin_34 F = some F0) (hz : Z 0 F0) (hr : ∀ t F, t < N → Z t F → F 15 t = nI (rp t) ∧ F 16 t = hh t) (hs : ∀ t F, t < N → Z t F → ∃ F1, m_X5_meet_34 F (nI (rp t)) (hh t) = some F1 ∧ Z (t + 1) F1) : ∃ F1, m_X6_lead_14_34 F (nI t) = some (F1 34 2, F1) ∧ Z (min t N) F1 := by
  unfold m_X6_lead_14_34
  rw [h14, pb_min (by omega) (by omega), hb]
  obtain ⟨F1, h1, h2⟩ := ldl_34 Z (m := min t N) (rp := rp) (hh := hh) (by omega) (fun t F h => hr t F (by omega)) (fun t F h => hs t F (by omega)) (min t N) 0 300 F0 (by omega) (by omega) hz
  refine ⟨F1, ?_, h2⟩
  show bd1 (m_X6_lead_14_34_L16 (nI (min t N)) 300 (nI 0) F0) _ = _
  rw [h1]
  rfl
theorem ldl_36 (Z : Nat → mmS → Prop) {m : Nat} {rp : Nat → Nat} {hh : Nat → Int32} (hm : m ≤ 40) (hr : ∀ t F, t < m → Z t F → F 15 t = nI (rp t) ∧ F 16 t = hh t) (hs : ∀ t F, t < m → Z t F → ∃ F1, m_X0_meet_36 F (nI (rp t)) (hh t) = some F1 ∧ Z (t + 1) F1) : ∀ d t n F, t + d = m → d < n → Z t F → ∃ F1, m_X6_lead_14_36_L16 (nI m) n (nI t) F = some F1 ∧ Z m F1 := by
  intro d
  induction d with
  | zero =>
    intro t n F h hn hz
    obtain ⟨n, rfl⟩ : ∃ m, n = m + 1 := ⟨n - 1, by omega⟩
    obtain rfl : t = m := by omega
    rw [m_X6_lead_14_36_L16, if_pos (nI_le (by omega) (by omega))]
    exact ⟨F, rfl, hz⟩
  | succ d ih =>
    intro t n F h hn hz
    obtain ⟨n, rfl⟩ : ∃ m, n = m + 1 := ⟨n - 1, by omega⟩
    obtain ⟨r1, r2⟩ := hr t F (by omega) hz
    obtain ⟨F1, h1, h2⟩ := hs t F (by omega) hz
    rw [m_X6_lead_14_36_L16, if_neg (nI_ge (by omega) (by omega)), zi_rd t rfl r1 (show t < 40 by omega), Option.bind_some, zi_rd t rfl r2 (show t < 40 by omega), Option.bind_some, h1, Option.bind_some]
    show ∃ F1', m_X6_lead_14_36_L16 (nI m) n (nI t + 1) F1 = some F1' ∧ _
    rw [nI_1]
    exact ih (t + 1) n F1 (by omega) (by omega) h2
theorem lda_36 (Z : Nat → mmS → Prop) {N : Nat} {rp : Nat → Nat} {hh : Nat → Int32} {F F0 : mmS} {t : Nat} (hN : N ≤ 40) (ht : t ≤ 40) (h14 : F 14 2 = nI N) (hb : m_X7_begin_36 F = some F0) (hz : Z 0 F0) (hr : ∀ t F, t < N → Z t F → F 15 t = nI (rp t) ∧ F 16 t = hh t) (hs : ∀ t F, t < N → Z t F → ∃ F1, m_X0_meet_36 F (nI (rp t)) (hh t) = some F1 ∧ Z (t + 1) F1) : ∃ F1, m_X6_lead_14_36 F (nI t) = some (F1 36 2, F1) ∧ Z (min t N) F1 := by
  unfold m_X6_lead_14_36
  rw [h14, pb_min (by omega) (by omega), hb]
  obtain ⟨F1, h1, h2⟩ := ldl_36 Z (m := min t N) (rp := rp) (hh := hh) (by omega) (fun t F h => hr t F (by omega)) (fun t F h => hs t F (by omega)) (min t N) 0 300 F0 (by omega) (by omega) hz
  refine ⟨F1, ?_, h2⟩
  show bd1 (m_X6_lead_14_36_L16 (nI (min t N)) 300 (nI 0) F0) _ = _
  rw [h1]
  rfl
theorem ldl_81 (Z : Nat → mmS → Prop) {m : Nat} {rp : Nat → Nat} {hh : Nat → Int32} (hm : m ≤ 40) (hr : ∀ t F, t < m → Z t F → F 15 t = nI (rp t) ∧ F 16 t = hh t) (hs : ∀ t F, t < m → Z t F → ∃ F1, m_X1_meet_81 F (nI (rp t)) (hh t) = some F1 ∧ Z (t + 1) F1) : ∀ d t n F, t + d = m → d < n → Z t F → ∃ F1, m_X6_lead_14_81_L16 (nI m) n (nI t) F = some F1 ∧ Z m F1 := by
  intro d
  induction d with
  | zero =>
    intro t n F h hn hz
    obtain ⟨n, rfl⟩ : ∃ m, n = m + 1 := ⟨n - 1, by omega⟩
    obtain rfl : t = m := by omega
    rw [m_X6_lead_14_81_L16, if_pos (nI_le (by omega) (by omega))]
    exact ⟨F, rfl, hz⟩
  | succ d ih =>
    intro t n F h hn hz
    obtain ⟨n, rfl⟩ : ∃ m, n = m + 1 := ⟨n - 1, by omega⟩
    obtain ⟨r1, r2⟩ := hr t F (by omega) hz
    obtain ⟨F1, h1, h2⟩ := hs t F (by omega) hz
    rw [m_X6_lead_14_81_L16, if_neg (nI_ge (by omega) (by omega)), zi_rd t rfl r1 (show t < 40 by omega), Option.bind_some, zi_rd t rfl r2 (show t < 40 by omega), Option.bind_some, h1, Option.bind_some]
    show ∃ F1', m_X6_lead_14_81_L16 (nI m) n (nI t + 1) F1 = some F1' ∧ _
    rw [nI_1]
    exact ih (t + 1) n F1 (by omega) (by omega) h2
theorem lda_81 (Z : Nat → mmS → Prop) {N : Nat} {rp : Nat → Nat} {hh : Nat → Int32} {F F0 : mmS} {t : Nat} (hN : N ≤ 40) (ht : t ≤ 40) (h14 : F 14 2 = nI N) (hb : m_X7_begin_81 F = some F0) (hz : Z 0 F0) (hr : ∀ t F, t < N → Z t F → F 15 t = nI (rp t) ∧ F 16 t = hh t) (hs : ∀ t F, t < N → Z t F → ∃ F1, m_X1_meet_81 F (nI (rp t)) (hh t) = some F1 ∧ Z (t + 1) F1) : ∃ F1, m_X6_lead_14_81 F (nI t) = some (F1 81 2, F1) ∧ Z (min t N) F1 := by
  unfold m_X6_lead_14_81
  rw [h14, pb_min (by omega) (by omega), hb]
  obtain ⟨F1, h1, h2⟩ := ldl_81 Z (m := min t N) (rp := rp) (hh := hh) (by omega) (fun t F h => hr t F (by omega)) (fun t F h => hs t F (by omega)) (min t N) 0 300 F0 (by omega) (by omega) hz
  refine ⟨F1, ?_, h2⟩
  show bd1 (m_X6_lead_14_81_L16 (nI (min t N)) 300 (nI 0) F0) _ = _
  rw [h1]
  rfl
