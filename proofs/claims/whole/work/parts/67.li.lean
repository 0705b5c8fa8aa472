/-! PURE: the calls of the line -/
theorem sp_lA_len (b c : Nat) : ∀ d a l, (sp_lA b c d a l).length = l.length + d := by
  intro d
  induction d with
  | zero => intro a l; rfl
  | succ d ih =>
    intro a l
    show (sp_lA b c d (a + 1) (l ++ [a + 6 * b + 36 * c])).length = _
    rw [ih, List.length_append]
    show l.length + 1 + d = _
    omega
theorem sp_lB_len (n0 c : Nat) : ∀ d b l, l.length ≤ (sp_lB n0 c d b l).length := by
  intro d
  induction d with
  | zero => intro b l; exact Nat.le_refl _
  | succ d ih =>
    intro b l
    have h1 := ih (b + 1) (sp_lA b c (n0 - b) b l)
    have h2 := sp_lA_len b c (n0 - b) b l
    show _ ≤ (sp_lB n0 c d (b + 1) (sp_lA b c (n0 - b) b l)).length
    omega
theorem sp_lC_len (n0 n1 : Nat) : ∀ d c l, l.length ≤ (sp_lC n0 n1 d c l).length := by
  intro d
  induction d with
  | zero => intro b l; exact Nat.le_refl _
  | succ d ih =>
    intro c l
    have h1 := ih (c + 1) (sp_lB n0 c (n1 - c) c l)
    have h2 := sp_lB_len n0 c (n1 - c) c l
    show _ ≤ (sp_lC n0 n1 d (c + 1) (sp_lB n0 c (n1 - c) c l)).length
    omega
def sp_li (F : mmS) (l : List Nat) (H : mmS) : Prop := (∀ i, i < l.length → H 5 i = nI (l.getD i 0)) ∧ (∀ c, c ≠ 5 → H c = F c)
theorem zi_ch {N k s : Nat} {F : mmS} (h0 : F 1 0 = nI N) (h1 : F 1 1 = nI k) (hk : k ≤ 3) (hs : s < 3) : m_X3_choicesOf_1 F (nI s) = some (nI (if s < k then N else 1)) := by
  unfold m_X3_choicesOf_1
  rw [h0, h1]
  by_cases q : s < k
  · rw [if_neg (nI_ge q (by omega)), if_pos q]
  · rw [if_pos (nI_le (by omega) (by omega)), if_neg q]
    rfl
theorem lsC {N k : Nat} {F : mmS} (hN1 : 1 ≤ N) (hN : N ≤ 6) (hk1 : 1 ≤ k) (hk : k ≤ 3) (h0 : F 1 0 = nI N) (h1 : F 1 1 = nI k) : ∃ F1, m_X3_listCrowds_1 F = some F1 ∧ F1 1 3 = nI (sp_cs N k).length ∧ (∀ i, i < (sp_cs N k).length → F1 5 i = nI ((sp_cs N k).getD i 0)) ∧ (∀ i, i ≠ 3 → F1 1 i = F 1 i) ∧ (∀ c, c ≠ 1 → c ≠ 5 → F1 c = F c) := by
  have hlen := sp_cs_len (N := N) (k := k) (by omega) (by omega)
  have lA : ∀ b c d a l f H, b < 6 → c < 6 → a + d = N → d < f → (sp_lA b c d a l).length ≤ 56 → sp_li F l H → ∃ H1, m_X3_listCrowds_1_L27 (nI c) (nI b) f (nI l.length) (nI a) H = some (nI (sp_lA b c d a l).length, H1) ∧ sp_li F (sp_lA b c d a l) H1 := by
    intro b c d
    induction d with
    | zero =>
      intro a l f H hb hc h hf hL hi
      obtain ⟨f, rfl⟩ : ∃ m, f = m + 1 := ⟨f - 1, by omega⟩
      rw [m_X3_listCrowds_1_L27, show m_X3_choicesOf_1 H (0 : Int32) = _ from zi_ch (s := 0) (by rw [hi.2 1 (by decide)]; exact h0) (by rw [hi.2 1 (by decide)]; exact h1) hk (by omega), zb_some, if_pos (show 0 < k by omega), if_pos (nI_le (by omega) (by omega))]
      exact ⟨H, rfl, hi⟩
    | succ d ih =>
      intro a l f H hb hc h hf hL hi
      obtain ⟨f, rfl⟩ : ∃ m, f = m + 1 := ⟨f - 1, by omega⟩
      have hle := sp_lA_len b c (d + 1) a l
      rw [m_X3_listCrowds_1_L27, show m_X3_choicesOf_1 H (0 : Int32) = _ from zi_ch (s := 0) (by rw [hi.2 1 (by decide)]; exact h0) (by rw [hi.2 1 (by decide)]; exact h1) hk (by omega), zb_some, if_pos (show 0 < k by omega), if_neg (nI_ge (by omega) (by omega))]
      have ec : m_X3_coded (nI a) (nI b) (nI c) = some (nI (a + 6 * b + 36 * c)) := by
        unfold m_X3_coded
        rw [show (6 : Int32) = nI 6 from rfl, show (36 : Int32) = nI 36 from rfl, pk_mul, pk_mul, nI_add, nI_add]
      rw [ec, zb_some, zi_wr (q := 5) l.length rfl (show _ < 56 by omega), zb_some, zb_mlet, zb_mlet, nI_1, nI_1]
      have el : l.length + 1 = (l ++ [a + 6 * b + 36 * c]).length := by rw [List.length_append]; rfl
      rw [el]
      refine ih (a + 1) (l ++ [a + 6 * b + 36 * c]) f _ hb hc (by omega) (by omega) hL ⟨fun i hi2 => ?_, fun c hc => (st_cell _ _ _ hc).trans (hi.2 c hc)⟩
      rw [← el] at hi2
      by_cases e : i = l.length
      · subst e; rw [st_self, sp_getD_app2]
      · rw [st_ne _ _ (by omega), sp_getD_app1 (by omega)]
        exact hi.1 i (by omega)
  have lB : ∀ c d b l f H, c < 6 → b + d = (if 1 < k then N else 1) → d < f → (sp_lB N c d b l).length ≤ 56 → sp_li F l H → ∃ H1, m_X3_listCrowds_1_L15 (nI c) f (nI l.length) (nI b) H = some (nI (sp_lB N c d b l).length, H1) ∧ sp_li F (sp_lB N c d b l) H1 := by
    have hn1 : (if 1 < k then N else 1) ≤ N := by split <;> omega
    intro c d
    induction d with
    | zero =>
      intro b l f H hc h hf hL hi
      obtain ⟨f, rfl⟩ : ∃ m, f = m + 1 := ⟨f - 1, by omega⟩
      rw [m_X3_listCrowds_1_L15, show m_X3_choicesOf_1 H (1 : Int32) = _ from zi_ch (s := 1) (by rw [hi.2 1 (by decide)]; exact h0) (by rw [hi.2 1 (by decide)]; exact h1) hk (by omega), zb_some, if_pos (nI_le (by omega) (by omega))]
      exact ⟨H, rfl, hi⟩
    | succ d ih =>
      intro b l f H hc h hf hL hi
      obtain ⟨f, rfl⟩ : ∃ m, f = m + 1 := ⟨f - 1, by omega⟩
      have hL' : (sp_lB N c d (b + 1) (sp_lA b c (N - b) b l)).length ≤ 56 := hL
      have hm := sp_lB_len N c d (b + 1) (sp_lA b c (N - b) b l)
      obtain ⟨J, j1, j2⟩ := lA b c (N - b) b l 300 H (by omega) hc (by omega) (by omega) (by omega) hi
      rw [m_X3_listCrowds_1_L15, show m_X3_choicesOf_1 H (1 : Int32) = _ from zi_ch (s := 1) (by rw [hi.2 1 (by decide)]; exact h0) (by rw [hi.2 1 (by decide)]; exact h1) hk (by omega), zb_some, if_neg (nI_ge (by omega) (by omega)), j1, zb_bd2, zb_mlet, nI_1]
      exact ih (b + 1) _ f J hc (by omega) (by omega) hL' j2
  have lC : ∀ d c l f H, c + d = (if 2 < k then N else 1) → d < f → (sp_lC N (if 1 < k then N else 1) d c l).length ≤ 56 → sp_li F l H → ∃ H1, m_X3_listCrowds_1_L4 f (nI l.length) (nI c) H = some (nI (sp_lC N (if 1 < k then N else 1) d c l).length, H1) ∧ sp_li F (sp_lC N (if 1 < k then N else 1) d c l) H1 := by
    have hn2 : (if 2 < k then N else 1) ≤ (if 1 < k then N else 1) := by
      split
      · rw [if_pos (by omega)]; exact Nat.le_refl _
      · split <;> omega
    have hn1 : (if 1 < k then N else 1) ≤ N := by split <;> omega
    intro d
    induction d with
    | zero =>
      intro c l f H h hf hL hi
      obtain ⟨f, rfl⟩ : ∃ m, f = m + 1 := ⟨f - 1, by omega⟩
      rw [m_X3_listCrowds_1_L4, show m_X3_choicesOf_1 H (2 : Int32) = _ from zi_ch (s := 2) (by rw [hi.2 1 (by decide)]; exact h0) (by rw [hi.2 1 (by decide)]; exact h1) hk (by omega), zb_some, if_pos (nI_le (by omega) (by omega))]
      exact ⟨H, rfl, hi⟩
    | succ d ih =>
      intro c l f H h hf hL hi
      obtain ⟨f, rfl⟩ : ∃ m, f = m + 1 := ⟨f - 1, by omega⟩
      have hL' : (sp_lC N (if 1 < k then N else 1) d (c + 1) (sp_lB N c ((if 1 < k then N else 1) - c) c l)).length ≤ 56 := hL
      have hm := sp_lC_len N (if 1 < k then N else 1) d (c + 1) (sp_lB N c ((if 1 < k then N else 1) - c) c l)
      obtain ⟨J, j1, j2⟩ := lB c ((if 1 < k then N else 1) - c) c l 300 H (by omega) (by omega) (by omega) (by omega) hi
      rw [m_X3_listCrowds_1_L4, show m_X3_choicesOf_1 H (2 : Int32) = _ from zi_ch (s := 2) (by rw [hi.2 1 (by decide)]; exact h0) (by rw [hi.2 1 (by decide)]; exact h1) hk (by omega), zb_some, if_neg (nI_ge (by omega) (by omega)), j1, zb_bd2, zb_mlet, nI_1]
      exact ih (c + 1) _ f J (by omega) (by omega) hL' j2
  obtain ⟨J, j1, j2⟩ := lC (if 2 < k then N else 1) 0 [] 300 F (by omega) (by split <;> omega) hlen ⟨fun i hi => absurd hi (by show ¬ i < 0; omega), fun _ _ => rfl⟩
  unfold m_X3_listCrowds_1
  rw [show m_X3_listCrowds_1_L4 300 (0 : Int32) (0 : Int32) F = _ from j1, zb_bd2, zb_mlet]
  refine ⟨_, rfl, ?_, ?_, ?_, ?_⟩
  · rw [st_self]; rfl
  · intro i hi
    rw [st_cell _ _ _ (by decide)]
    exact j2.1 i hi
  · intro i hi
    rw [st_ne _ _ (by omega), j2.2 1 (by decide)]
  · intro c c1 c2
    rw [st_cell _ _ _ c1, j2.2 c c2]
theorem sp_INV_fr {F F1 : mmS} {N k G : Nat} {P S : Nat → Nat} (hn : sp_num N k G P S) (hl : sp_lc N k G P S F1) (hr : sp_lr N k G P S F1) (hcf : sp_cf F) (hs : sp_sh F) (hf : ∀ c, (6 ≤ c ∧ c < 97 ∨ 109 ≤ c) → F1 c = F c) (h28 : F1 97 28 = F 97 28) : sp_INV F1 := by
  refine ⟨N, k, G, P, S, hn, hl, hr, sp_cf_fr hcf (fun c h1 h2 => hf c (by omega)), ?_, fun s h4 => sp_s1h_fr (hs.2 s h4) (hf _ (by omega)) (hf 12 (by omega)) (hf 13 (by omega)) (hf 109 (by omega)) (hf 110 (by omega)) (hf 111 (by omega)) (hf 112 (by omega))⟩
  rw [hf 6 (by omega), h28]
  exact hs.1
theorem S4 : lw_S4 sp_INV := by
  intro F a1 hI
  have hI' := hI
  obtain ⟨N, k, G, P, S, hn, hl, hr, hcf, hs⟩ := hI'
  by_cases q : (1 : Int32) ≤ a1 ∧ a1 ≤ (9 : Int32)
  · obtain ⟨g, hg1, hg9, rfl⟩ := (pb_range (a := a1) (lo := 1) (hi := 9) (by omega) (by omega)).mp q
    refine ⟨nI G, stF F 1 2 (nI g), stF (stF F 1 2 (nI g)) 97 4 (nI g), ?_, ?_, sp_INV_fr (F := F) (N := N) (k := k) (G := g) (P := P) (S := S) ?_ ?_ ?_ hcf hs ?_ ?_⟩
    · unfold m_X11_factor_0
      rw [pb_within, if_pos q, zb_some, if_neg (show ¬ (1 : Int32) = 0 by decide), zb_mlet, zb_mlet, hl.2.2.1]
    · unfold m_X12_factor_97
      rw [pb_in, if_pos q, zb_some, if_neg (show ¬ (1 : Int32) = 0 by decide), zb_mlet, zb_mlet, st_cell _ _ _ (by decide), hr.2.2.1]
    · exact ⟨hn.1, hn.2.1, hn.2.2.1, hn.2.2.2.1, hg1, hg9, hn.2.2.2.2.2.2⟩
    · obtain ⟨h0, h1, h2, h3, h4, h5, h6, h7⟩ := hl
      refine ⟨?_, ?_, ?_, ?_, ?_, ?_, ?_, ?_⟩
      · rw [st_cell _ _ _ (by decide), st_ne _ _ (by omega)]; exact h0
      · rw [st_cell _ _ _ (by decide), st_ne _ _ (by omega)]; exact h1
      · rw [st_cell _ _ _ (by decide), st_self]
      · rw [st_cell _ _ _ (by decide), st_ne _ _ (by omega)]; exact h3
      · intro p hp
        rw [st_cell _ _ _ (by decide), st_cell _ _ _ (by decide)]; exact h4 p hp
      · intro p hp
        rw [st_cell _ _ _ (by decide), st_cell _ _ _ (by decide)]; exact h5 p hp
      · intro p hp
        rw [st_cell _ _ _ (by decide), st_cell _ _ _ (by decide)]; exact h6 p hp
      · intro p hp
        rw [st_cell _ _ _ (by decide), st_cell _ _ _ (by decide)]; exact h7 p hp
    · obtain ⟨h0, h1, h2, h3, h4, h5⟩ := hr
      refine ⟨?_, ?_, ?_, ?_, ?_, ?_⟩
      · rw [st_ne _ _ (by omega), st_cell _ _ _ (by decide)]; exact h0
      · rw [st_ne _ _ (by omega), st_cell _ _ _ (by decide)]; exact h1
      · rw [st_self]
      · intro p hp
        rw [st_cell _ _ _ (by decide), st_cell _ _ _ (by decide)]; exact h3 p hp
      · intro p hp
        rw [st_cell _ _ _ (by decide), st_cell _ _ _ (by decide)]; exact h4 p hp
      · intro p hp
        rw [st_cell _ _ _ (by decide), st_cell _ _ _ (by decide)]; exact h5 p hp
    · intro c hc
      rw [st_cell _ _ _ (by omega), st_cell _ _ _ (by omega)]
    · rw [st_ne _ _ (by omega), st_cell _ _ _ (by decide)]
  · refine ⟨-2, F, F, ?_, ?_, hI⟩
    · unfold m_X11_factor_0
      rw [pb_within, if_neg q, zb_some, if_pos rfl]
    · unfold m_X12_factor_97
      rw [pb_in, if_neg q, zb_some, if_pos rfl]
theorem S1 : lw_S1 sp_INV := by
  intro F a1 a2 hI
  have hI' := hI
  obtain ⟨N, k, G, P, S, hn, hl, hr, hcf, hs⟩ := hI'
  have hN := hn.2.1
  have hN1 := hn.1
  by_cases q : (0 : Int32) ≤ a1 ∧ a1 ≤ nI (N - 1)
  · by_cases q2 : (0 : Int32) ≤ a2 ∧ a2 ≤ (1000 : Int32)
    · obtain ⟨p, -, hp, rfl⟩ := (pb_range (a := a1) (lo := 0) (hi := N - 1) (by omega) (by omega)).mp q
      obtain ⟨x, -, hx, rfl⟩ := (pb_range (a := a2) (lo := 0) (hi := 1000) (by omega) (by omega)).mp q2
      have lR1 : stF F 2 p (nI x) 97 = F 97 := st_cell _ _ _ (by decide)
      refine ⟨nI (P p), stF F 2 p (nI x), stF (stF F 2 p (nI x)) 98 p (nI x), ?_, ?_, sp_INV_fr (F := F) (N := N) (k := k) (G := G) (P := sp_ua P p x) (S := S) ?_ ?_ ?_ hcf hs ?_ ?_⟩
      · unfold m_X11_place_0
        rw [zi_pntC hn hl, if_pos q, zb_some, if_neg (show ¬ (1 : Int32) = 0 by decide), pb_within, if_pos q2, zb_some, if_neg (show ¬ (1 : Int32) = 0 by decide), zi_rd p rfl (hl.2.2.2.2.1 p (by omega)) (show p < 6 by omega), zb_some, zi_wr (q := 2) p rfl (show p < 6 by omega), zb_some]
      · have eP : m_X12_isPoint_97 (stF F 2 p (nI x)) (nI p) = some 1 := by
          unfold m_X12_isPoint_97
          rw [lR1, hr.1, zi_pred hN1, pb_in, if_pos q, zb_some, zi_zg1, zb_some]
        unfold m_X12_place_97
        rw [eP, zb_some, if_neg (show ¬ (1 : Int32) = 0 by decide), pb_in, if_pos q2, zb_some, if_neg (show ¬ (1 : Int32) = 0 by decide), zi_rd p rfl (show stF F 2 p (nI x) 98 p = nI (P p) by rw [st_cell _ _ _ (by decide)]; exact hr.2.2.2.1 p (by omega)) (show p < 6 by omega), zb_some, zi_wr (q := 98) p rfl (show p < 6 by omega), zb_some]
      · refine ⟨hn.1, hn.2.1, hn.2.2.1, hn.2.2.2.1, hn.2.2.2.2.1, hn.2.2.2.2.2.1, fun i => ?_, hn.2.2.2.2.2.2.2.1, hn.2.2.2.2.2.2.2.2.1, fun i hi => ?_⟩
        · unfold sp_ua
          split
          · exact hx
          · exact hn.2.2.2.2.2.2.1 i
        · unfold sp_ua
          rw [if_neg (by omega)]
          exact hn.2.2.2.2.2.2.2.2.2 i hi
      · obtain ⟨h0, h1, h2, h3, h4, h5, h6, h7⟩ := hl
        refine ⟨?_, ?_, ?_, ?_, ?_, ?_, ?_, ?_⟩
        · rw [st_cell _ _ _ (by decide), st_cell _ _ _ (by decide)]; exact h0
        · rw [st_cell _ _ _ (by decide), st_cell _ _ _ (by decide)]; exact h1
        · rw [st_cell _ _ _ (by decide), st_cell _ _ _ (by decide)]; exact h2
        · rw [st_cell _ _ _ (by decide), st_cell _ _ _ (by decide)]; exact h3
        · intro i hi
          rw [st_cell _ _ _ (by decide)]
          unfold sp_ua
          split
          · subst i; rw [st_self]
          · rw [st_ne _ _ (by omega)]; exact h4 i hi
        · intro i hi
          rw [st_cell _ _ _ (by decide), st_cell _ _ _ (by decide)]; exact h5 i hi
        · intro i hi
          rw [st_cell _ _ _ (by decide), st_cell _ _ _ (by decide)]; exact h6 i hi
        · intro i hi
          rw [st_cell _ _ _ (by decide), st_cell _ _ _ (by decide)]; exact h7 i hi
      · obtain ⟨h0, h1, h2, h3, h4, h5⟩ := hr
        refine ⟨?_, ?_, ?_, ?_, ?_, ?_⟩
        · rw [st_cell _ _ _ (by decide), st_cell _ _ _ (by decide)]; exact h0
        · rw [st_cell _ _ _ (by decide), st_cell _ _ _ (by decide)]; exact h1
        · rw [st_cell _ _ _ (by decide), st_cell _ _ _ (by decide)]; exact h2
        · intro i hi
          unfold sp_ua
          split
          · subst i; rw [st_self]
          · rw [st_ne _ _ (by omega), st_cell _ _ _ (by decide)]; exact h3 i hi
        · intro i hi
          rw [st_cell _ _ _ (by decide), st_cell _ _ _ (by decide)]; exact h4 i hi
        · intro i hi
          rw [st_cell _ _ _ (by decide), st_cell _ _ _ (by decide)]; exact h5 i hi
      · intro c hc
        rw [st_cell _ _ _ (by omega), st_cell _ _ _ (by omega)]
      · rw [st_cell _ _ _ (by decide), st_cell _ _ _ (by decide)]
    · refine ⟨-2, F, F, ?_, ?_, hI⟩
      · unfold m_X11_place_0
        rw [zi_pntC hn hl, if_pos q, zb_some, if_neg (show ¬ (1 : Int32) = 0 by decide), pb_within, if_neg q2, zb_some, if_pos rfl]
      · unfold m_X12_place_97
        rw [zi_pntR hn hr, if_pos q, zb_some, if_neg (show ¬ (1 : Int32) = 0 by decide), pb_in, if_neg q2, zb_some, if_pos rfl]
  · refine ⟨-2, F, F, ?_, ?_, hI⟩
    · unfold m_X11_place_0
      rw [zi_pntC hn hl, if_neg q, zb_some, if_pos rfl]
    · unfold m_X12_place_97
      rw [zi_pntR hn hr, if_neg q, zb_some, if_pos rfl]
theorem S3 : lw_S3 sp_INV := by
  intro F a1 a2 hI
  have hI' := hI
  obtain ⟨N, k, G, P, S, hn, hl, hr, hcf, hs⟩ := hI'
  have hN := hn.2.1
  have hN1 := hn.1
  have hk1 := hn.2.2.1
  have hk3 := hn.2.2.2.1
  by_cases q : (0 : Int32) ≤ a1 ∧ a1 ≤ nI (k - 1)
  · by_cases q2 : (0 : Int32) ≤ a2 ∧ a2 ≤ nI (N - 1)
    · obtain ⟨s, -, hsk, rfl⟩ := (pb_range (a := a1) (lo := 0) (hi := k - 1) (by omega) (by omega)).mp q
      obtain ⟨x, -, hx, rfl⟩ := (pb_range (a := a2) (lo := 0) (hi := N - 1) (by omega) (by omega)).mp q2
      have lR1 : stF F 3 s (nI x) 97 = F 97 := st_cell _ _ _ (by decide)
      refine ⟨nI (S s), stF F 3 s (nI x), stF (stF F 3 s (nI x)) 99 s (nI x), ?_, ?_, sp_INV_fr (F := F) (N := N) (k := k) (G := G) (P := P) (S := sp_ua S s x) ?_ ?_ ?_ hcf hs ?_ ?_⟩
      · unfold m_X11_start_0
        rw [zi_srvC hn hl, if_pos q, zb_some, if_neg (show ¬ (1 : Int32) = 0 by decide), zi_pntC hn hl, if_pos q2, zb_some, if_neg (show ¬ (1 : Int32) = 0 by decide), zi_rd s rfl (hl.2.2.2.2.2.1 s (by omega)) (show s < 3 by omega), zb_some, zi_wr (q := 3) s rfl (show s < 3 by omega), zb_some]
      · have eP : m_X12_isPoint_97 (stF F 3 s (nI x)) (nI x) = some 1 := by
          unfold m_X12_isPoint_97
          rw [lR1, hr.1, zi_pred hN1, pb_in, if_pos q2, zb_some, zi_zg1, zb_some]
        unfold m_X12_start_97
        rw [lR1, hr.2.1, zi_pred hk1, pb_in, if_pos q, zb_some, if_neg (show ¬ (1 : Int32) = 0 by decide), eP, zb_some, if_neg (show ¬ (1 : Int32) = 0 by decide), zi_rd s rfl (show stF F 3 s (nI x) 99 s = nI (S s) by rw [st_cell _ _ _ (by decide)]; exact hr.2.2.2.2.1 s (by omega)) (show s < 3 by omega), zb_some, zi_wr (q := 99) s rfl (show s < 3 by omega), zb_some]
      · refine ⟨hn.1, hn.2.1, hn.2.2.1, hn.2.2.2.1, hn.2.2.2.2.1, hn.2.2.2.2.2.1, hn.2.2.2.2.2.2.1, fun i => ?_, fun i hi => ?_, hn.2.2.2.2.2.2.2.2.2⟩
        · unfold sp_ua
          split
          · omega
          · exact hn.2.2.2.2.2.2.2.1 i
        · unfold sp_ua
          rw [if_neg (by omega)]
          exact hn.2.2.2.2.2.2.2.2.1 i hi
      · obtain ⟨h0, h1, h2, h3, h4, h5, h6, h7⟩ := hl
        refine ⟨?_, ?_, ?_, ?_, ?_, ?_, ?_, ?_⟩
        · rw [st_cell _ _ _ (by decide), st_cell _ _ _ (by decide)]; exact h0
        · rw [st_cell _ _ _ (by decide), st_cell _ _ _ (by decide)]; exact h1
        · rw [st_cell _ _ _ (by decide), st_cell _ _ _ (by decide)]; exact h2
        · rw [st_cell _ _ _ (by decide), st_cell _ _ _ (by decide)]; exact h3
        · intro i hi
          rw [st_cell _ _ _ (by decide), st_cell _ _ _ (by decide)]; exact h4 i hi
        · intro i hi
          rw [st_cell _ _ _ (by decide)]
          unfold sp_ua
          split
          · subst i; rw [st_self]
          · rw [st_ne _ _ (by omega)]; exact h5 i hi
        · intro i hi
          rw [st_cell _ _ _ (by decide), st_cell _ _ _ (by decide)]; exact h6 i hi
        · intro i hi
          rw [st_cell _ _ _ (by decide), st_cell _ _ _ (by decide)]; exact h7 i hi
      · obtain ⟨h0, h1, h2, h3, h4, h5⟩ := hr
        refine ⟨?_, ?_, ?_, ?_, ?_, ?_⟩
        · rw [st_cell _ _ _ (by decide), st_cell _ _ _ (by decide)]; exact h0
        · rw [st_cell _ _ _ (by decide), st_cell _ _ _ (by decide)]; exact h1
        · rw [st_cell _ _ _ (by decide), st_cell _ _ _ (by decide)]; exact h2
        · intro i hi
          rw [st_cell _ _ _ (by decide), st_cell _ _ _ (by decide)]; exact h3 i hi
        · intro i hi
          unfold sp_ua
          split
          · subst i; rw [st_self]
          · rw [st_ne _ _ (by omega), st_cell _ _ _ (by decide)]; exact h4 i hi
        · intro i hi
          by_cases e : i = s
          · subst e; exact ⟨x, by omega, by rw [st_self]⟩
          · rw [st_ne _ _ (by omega), st_cell _ _ _ (by decide)]; exact h5 i hi
      · intro c hc
        rw [st_cell _ _ _ (by omega), st_cell _ _ _ (by omega)]
      · rw [st_cell _ _ _ (by decide), st_cell _ _ _ (by decide)]
    · refine ⟨-2, F, F, ?_, ?_, hI⟩
      · unfold m_X11_start_0
        rw [zi_srvC hn hl, if_pos q, zb_some, if_neg (show ¬ (1 : Int32) = 0 by decide), zi_pntC hn hl, if_neg q2, zb_some, if_pos rfl]
      · unfold m_X12_start_97
        rw [hr.2.1, zi_pred hk1, pb_in, if_pos q, zb_some, if_neg (show ¬ (1 : Int32) = 0 by decide), zi_pntR hn hr, if_neg q2, zb_some, if_pos rfl]
  · refine ⟨-2, F, F, ?_, ?_, hI⟩
    · unfold m_X11_start_0
      rw [zi_srvC hn hl, if_neg q, zb_some, if_pos rfl]
    · unfold m_X12_start_97
      rw [hr.2.1, zi_pred hk1, pb_in, if_neg q, zb_some, if_pos rfl]
theorem S0 : lw_S0 sp_INV := by
  intro F a1 hI
  have hI' := hI
  obtain ⟨N, k, G, P, S, hn, hl, hr, hcf, hs⟩ := hI'
  have hN := hn.2.1
  have hN1 := hn.1
  have hk1 := hn.2.2.1
  have hk3 := hn.2.2.2.1
  have hS := hn.2.2.2.2.2.2.2.1
  by_cases q : (1 : Int32) ≤ a1 ∧ a1 ≤ (6 : Int32)
  · obtain ⟨m, hm1, hm6, rfl⟩ := (pb_range (a := a1) (lo := 1) (hi := 6) (by omega) (by omega)).mp q
    -- the class
    have l7 : ∀ d p f H, p + d = 6 → d < f → (∀ c, c ≠ 2 → H c = stF F 1 0 (nI m) c) → (∀ i, i < 6 → H 2 i = nI (if i < m ∨ p ≤ i then P i else 0)) → m ≤ p → ∃ H1, m_X3_resizePoints_1_L7 f (nI p) H = some H1 ∧ (∀ c, c ≠ 2 → H1 c = stF F 1 0 (nI m) c) ∧ (∀ i, i < 6 → H1 2 i = nI (if i < m then P i else 0)) := by
      intro d
      induction d with
      | zero =>
        intro p f H h hf h1 h2 h3
        obtain ⟨f, rfl⟩ : ∃ m, f = m + 1 := ⟨f - 1, by omega⟩
        obtain rfl : p = 6 := by omega
        rw [m_X3_resizePoints_1_L7, if_pos (show (6 : Int32) ≤ nI 6 by decide)]
        refine ⟨H, rfl, h1, fun i hi => ?_⟩
        rw [h2 i hi]
        congr 1
        by_cases e : i < m
        · rw [if_pos (.inl e), if_pos e]
        · rw [if_neg (by omega), if_neg e]
      | succ d ih =>
        intro p f H h hf h1 h2 h3
        obtain ⟨f, rfl⟩ : ∃ m, f = m + 1 := ⟨f - 1, by omega⟩
        rw [m_X3_resizePoints_1_L7, if_neg (show ¬ (6 : Int32) ≤ nI p from nI_ge (b := 6) (by omega) (by omega)), zi_wr (q := 2) p rfl (show p < 6 by omega), zb_some, zb_mlet, nI_1]
        refine ih (p + 1) f _ (by omega) (by omega) (fun c hc => (st_cell _ _ _ hc).trans (h1 c hc)) (fun i hi => ?_) (by omega)
        by_cases e : i = p
        · subst e
          rw [st_self, if_neg (by omega)]
          rfl
        · rw [st_ne _ _ (by omega), h2 i hi]
          congr 1
          by_cases e2 : i < m ∨ p ≤ i
          · rw [if_pos e2, if_pos (by omega)]
          · rw [if_neg e2, if_neg (by omega)]
    obtain ⟨A, a1, a2, a3⟩ := l7 (6 - m) m 300 (stF F 1 0 (nI m)) (by omega) (by omega) (fun _ _ => rfl) (fun i hi => by rw [st_cell _ _ _ (by decide), if_pos (by omega)]; exact hl.2.2.2.2.1 i hi) (Nat.le_refl m)
    have l28 : ∀ d s f H, s + d = 3 → d < f → (∀ c, c ≠ 3 → H c = A c) → (∀ i, i < 3 → H 3 i = nI (if i < s ∧ ¬ S i < m then 0 else S i)) → ∃ H1, m_X3_resizePoints_1_L28 (nI m) f (nI s) H = some H1 ∧ (∀ c, c ≠ 3 → H1 c = A c) ∧ (∀ i, i < 3 → H1 3 i = nI (if S i < m then S i else 0)) := by
      intro d
      induction d with
      | zero =>
        intro s f H h hf h1 h2
        obtain ⟨f, rfl⟩ : ∃ m, f = m + 1 := ⟨f - 1, by omega⟩
        obtain rfl : s = 3 := by omega
        rw [m_X3_resizePoints_1_L28, if_pos (show (3 : Int32) ≤ nI 3 by decide)]
        refine ⟨H, rfl, h1, fun i hi => ?_⟩
        rw [h2 i hi]
        congr 1
        by_cases e : S i < m
        · rw [if_neg (by omega), if_pos e]
        · rw [if_pos ⟨hi, e⟩, if_neg e]
      | succ d ih =>
        intro s f H h hf h1 h2
        obtain ⟨f, rfl⟩ : ∃ m, f = m + 1 := ⟨f - 1, by omega⟩
        have hSs := hS s
        have es : H 3 s = nI (S s) := by
          rw [h2 s (by omega), if_neg (by omega)]
        rw [m_X3_resizePoints_1_L28, if_neg (show ¬ (3 : Int32) ≤ nI s from nI_ge (b := 3) (by omega) (by omega)), zi_rd s rfl es (show s < 3 by omega), zb_some]
        by_cases e : S s < m
        · rw [if_pos (nI_lt e (by omega)), zb_bd1, zb_mlet, nI_1]
          refine ih (s + 1) f H (by omega) (by omega) h1 (fun i hi => ?_)
          rw [h2 i hi]
          congr 1
          by_cases e2 : i < s ∧ ¬ S i < m
          · rw [if_pos e2, if_pos (by omega)]
          · rw [if_neg e2, if_neg (by
              rintro ⟨g1, g2⟩
              by_cases e3 : i = s
              · subst e3; exact g2 e
              · exact e2 ⟨by omega, g2⟩)]
        · rw [if_neg (nI_nlt (by omega) (by omega)), zi_wr (q := 3) s rfl (show s < 3 by omega), zb_some, zb_bd1, zb_mlet, nI_1]
          refine ih (s + 1) f _ (by omega) (by omega) (fun c hc => (st_cell _ _ _ hc).trans (h1 c hc)) (fun i hi => ?_)
          by_cases e3 : i = s
          · subst e3
            rw [st_self, if_pos ⟨by omega, e⟩]
            rfl
          · rw [st_ne _ _ (by omega), h2 i hi]
            congr 1
            by_cases e2 : i < s ∧ ¬ S i < m
            · rw [if_pos e2, if_pos (by omega)]
            · rw [if_neg e2, if_neg (fun g => e2 ⟨by omega, g.2⟩)]
    obtain ⟨B, b1, b2, b3⟩ := l28 3 0 300 A (by omega) (by omega) (fun _ _ => rfl) (fun i hi => by rw [a2 3 (by decide), st_cell _ _ _ (by decide), if_neg (by omega)]; exact hl.2.2.2.2.2.1 i hi)
    have B1 : B 1 = stF F 1 0 (nI m) 1 := (b2 1 (by decide)).trans (a2 1 (by decide))
    obtain ⟨C, c1, c2, c3, c4, c5⟩ := lsC (N := m) (k := k) (F := B) hm1 hm6 hk1 hk3 (by rw [B1, st_self]) (by rw [B1, st_ne _ _ (by omega)]; exact hl.2.1)
    have Cc : ∀ c, c ≠ 1 → c ≠ 2 → c ≠ 3 → c ≠ 5 → C c = F c := fun c h1 h2 h3 h5 => by
      rw [c5 c h1 h5, b2 c h3, a2 c h2, st_cell _ _ _ h1]
    have clC : m_X11_points_0 F (nI m) = some (nI N, C) := by
      unfold m_X11_points_0 m_X3_resizePoints_1
      rw [pb_within, if_pos q, zb_some, if_neg (show ¬ (1 : Int32) = 0 by decide), zb_mlet, zb_mlet, a1, zb_bd1, show m_X3_resizePoints_1_L28 (nI m) 300 (0 : Int32) A = some B from b1, zb_bd1, c1, zb_some, zb_some, hl.1]
    -- the reference
    have l25 : ∀ d p f H, (p + d = m ∨ (m ≤ p ∧ d = 0)) → p < 10 → d < f → (∀ c, c ≠ 98 → H c = stF C 97 0 (nI m) c) → (∀ i, i < m → i < p → H 98 i = nI (P i)) → N ≤ p → ∃ H1, m_X12_points_97_L25 (nI m) f (nI p) H = some H1 ∧ (∀ c, c ≠ 98 → H1 c = stF C 97 0 (nI m) c) ∧ (∀ i, i < m → H1 98 i = nI (P i)) := by
      intro d
      induction d with
      | zero =>
        intro p f H h h10 hf h1 h2 h3
        obtain ⟨f, rfl⟩ : ∃ m, f = m + 1 := ⟨f - 1, by omega⟩
        rw [m_X12_points_97_L25, if_pos (nI_le (by omega) (by omega))]
        exact ⟨H, rfl, h1, fun i hi => h2 i hi (by omega)⟩
      | succ d ih =>
        intro p f H h h10 hf h1 h2 h3
        obtain ⟨f, rfl⟩ : ∃ m, f = m + 1 := ⟨f - 1, by omega⟩
        rw [m_X12_points_97_L25, if_neg (nI_ge (by omega) (by omega)), zi_wr (q := 98) p rfl (show p < 6 by omega), zb_some, zb_mlet, nI_1]
        refine ih (p + 1) f _ (by omega) (by omega) (by omega) (fun c hc => (st_cell _ _ _ hc).trans (h1 c hc)) (fun i hi hip => ?_) (by omega)
        by_cases e : i = p
        · subst e
          rw [st_self, hn.2.2.2.2.2.2.2.2.2 i h3]
          rfl
        · rw [st_ne _ _ (by omega)]; exact h2 i hi (by omega)
    obtain ⟨D, d1, d2, d3⟩ := l25 (m - N) N 300 (stF C 97 0 (nI m)) (by omega) (by omega) (by omega) (fun _ _ => rfl) (fun i hi hip => by rw [st_cell _ _ _ (by decide), Cc 98 (by decide) (by decide) (by decide) (by decide)]; exact hr.2.2.2.1 i hip) (Nat.le_refl N)
    have l45 : ∀ d s f H, s + d = 3 → d < f → (∀ c, c ≠ 99 → H c = D c) → (∀ i, i < 3 → s ≤ i → H 99 i = F 99 i) → (∀ i, i < s → (i < k → H 99 i = nI (if S i < m then S i else 0)) ∧ ∃ j, j < m ∧ H 99 i = nI j) → ∃ H1, m_X12_points_97_L45 (nI m) f (nI s) H = some H1 ∧ (∀ c, c ≠ 99 → H1 c = D c) ∧ (∀ i, i < 3 → (i < k → H1 99 i = nI (if S i < m then S i else 0)) ∧ ∃ j, j < m ∧ H1 99 i = nI j) := by
      intro d
      induction d with
      | zero =>
        intro s f H h hf h1 h2 h3
        obtain ⟨f, rfl⟩ : ∃ m, f = m + 1 := ⟨f - 1, by omega⟩
        obtain rfl : s = 3 := by omega
        rw [m_X12_points_97_L45, if_pos (show (3 : Int32) ≤ nI 3 by decide)]
        exact ⟨H, rfl, h1, h3⟩
      | succ d ih =>
        intro s f H h hf h1 h2 h3
        obtain ⟨f, rfl⟩ : ∃ m, f = m + 1 := ⟨f - 1, by omega⟩
        obtain ⟨j, hj, ej⟩ := hr.2.2.2.2.2 s (by omega)
        have es : H 99 s = nI j := (h2 s (by omega) (Nat.le_refl s)).trans ej
        have ejS : s < k → j = S s := fun hsk => by
          have := hr.2.2.2.2.1 s hsk
          have hSs := hS s
          rw [ej] at this
          exact (nI_eq (by omega) (by omega)).mp this
        have key : (if nI m ≤ nI j then (some ((0 : Int32))) else (Option.bind (some (nI j)) fun x14 => some (x14))) = some (nI (if j < m then j else 0)) := by
          by_cases e : j < m
          · rw [if_neg (nI_ge e (by omega)), if_pos e, zb_some]
          · rw [if_pos (nI_le (by omega) (by omega)), if_neg e]; rfl
        rw [m_X12_points_97_L45, if_neg (show ¬ (3 : Int32) ≤ nI s from nI_ge (b := 3) (by omega) (by omega)), zi_rd s rfl es (show s < 3 by omega), zb_some, key, zb_bd1, zi_wr (q := 99) s rfl (show s < 3 by omega), zb_some, zb_mlet, nI_1]
        refine ih (s + 1) f _ (by omega) (by omega) (fun c hc => (st_cell _ _ _ hc).trans (h1 c hc)) (fun i hi his => ?_) (fun i hi => ?_)
        · rw [st_ne _ _ (by omega)]; exact h2 i hi (by omega)
        · by_cases e : i = s
          · subst e
            rw [st_self]
            refine ⟨fun hik => by rw [ejS hik], ?_⟩
            by_cases e2 : j < m
            · exact ⟨j, e2, by rw [if_pos e2]⟩
            · exact ⟨0, by omega, by rw [if_neg e2]⟩
          · rw [st_ne _ _ (by omega)]
            exact h3 i (by omega)
    obtain ⟨E, e1, e2, e3⟩ := l45 3 0 300 D (by omega) (by omega) (fun _ _ => rfl) (fun i hi _ => by rw [d2 99 (by decide), st_cell _ _ _ (by decide), Cc 99 (by decide) (by decide) (by decide) (by decide)]) (fun i hi => by omega)
    have Ec : ∀ c, c ≠ 98 → c ≠ 99 → E c = stF C 97 0 (nI m) c := fun c h1 h2 => (e2 c h2).trans (d2 c h1)
    have clR : m_X12_points_97 C (nI m) = some (nI N, E) := by
      unfold m_X12_points_97
      rw [pb_in, if_pos q, zb_some, if_neg (show ¬ (1 : Int32) = 0 by decide), zb_mlet, zb_mlet, show C 97 0 = nI N by rw [Cc 97 (by decide) (by decide) (by decide) (by decide)]; exact hr.1, d1, zb_bd1, show m_X12_points_97_L45 (nI m) 300 (0 : Int32) D = some E from e1, zb_bd1]
    refine ⟨nI N, C, E, clC, clR, sp_INV_fr (F := F) (N := m) (k := k) (G := G) (P := fun i => if i < m then P i else 0) (S := fun i => if S i < m then S i else 0) ?_ ?_ ?_ hcf hs ?_ ?_⟩
    · refine ⟨hm1, hm6, hk1, hk3, hn.2.2.2.2.1, hn.2.2.2.2.2.1, fun p => ?_, fun s => ?_, fun s hsk => ?_, fun p hp => ?_⟩
      · show (if p < m then P p else 0) ≤ 1000
        split
        · exact hn.2.2.2.2.2.2.1 p
        · omega
      · show (if S s < m then S s else 0) < m
        split <;> omega
      · show (if S s < m then S s else 0) = 0
        rw [hn.2.2.2.2.2.2.2.2.1 s hsk]
        split <;> rfl
      · show (if p < m then P p else 0) = 0
        rw [if_neg (by omega)]
    · have E1 : ∀ c, c < 97 → E c = C c := fun c hc => (Ec c (by omega) (by omega)).trans (st_cell _ _ _ (by omega))
      refine ⟨?_, ?_, ?_, ?_, ?_, ?_, ?_, ?_⟩
      · rw [E1 1 (by omega), c4 0 (by decide), B1, st_self]
      · rw [E1 1 (by omega), c4 1 (by decide), B1, st_ne _ _ (by omega)]; exact hl.2.1
      · rw [E1 1 (by omega), c4 2 (by decide), B1, st_ne _ _ (by omega)]; exact hl.2.2.1
      · rw [E1 1 (by omega)]; exact c2
      · intro p hp
        rw [E1 2 (by omega), c5 2 (by decide) (by decide), b2 2 (by decide)]
        exact a3 p hp
      · intro s hs3
        rw [E1 3 (by omega), c5 3 (by decide) (by decide)]
        exact b3 s hs3
      · intro c hc
        rw [E1 4 (by omega), Cc 4 (by decide) (by decide) (by decide) (by decide)]
        exact hl.2.2.2.2.2.2.1 c hc
      · intro i hi
        rw [E1 5 (by omega)]
        exact c3 i hi
    · refine ⟨?_, ?_, ?_, ?_, ?_, ?_⟩
      · rw [Ec 97 (by decide) (by decide), st_self]
      · rw [Ec 97 (by decide) (by decide), st_ne _ _ (by omega), Cc 97 (by decide) (by decide) (by decide) (by decide)]; exact hr.2.1
      · rw [Ec 97 (by decide) (by decide), st_ne _ _ (by omega), Cc 97 (by decide) (by decide) (by decide) (by decide)]; exact hr.2.2.1
      · intro p hp
        rw [e2 98 (by decide)]
        show D 98 p = nI (if p < m then P p else 0)
        rw [if_pos hp]
        exact d3 p hp
      · intro s hsk
        exact (e3 s (by omega)).1 hsk
      · intro s hs3
        exact (e3 s hs3).2
    · intro c hc
      rw [Ec c (by omega) (by omega), st_cell _ _ _ (by omega)]
      exact Cc c (by omega) (by omega) (by omega) (by omega)
    · rw [Ec 97 (by decide) (by decide), st_ne _ _ (by omega), Cc 97 (by decide) (by decide) (by decide) (by decide)]
  · refine ⟨-2, F, F, ?_, ?_, hI⟩
    · unfold m_X11_points_0
      rw [pb_within, if_neg q, zb_some, if_pos rfl]
    · unfold m_X12_points_97
      rw [pb_in, if_neg q, zb_some, if_pos rfl]
theorem S2 : lw_S2 sp_INV := by
  intro F a1 hI
  have hI' := hI
  obtain ⟨N, k, G, P, S, hn, hl, hr, hcf, hs⟩ := hI'
  have hN := hn.2.1
  have hN1 := hn.1
  have hk1 := hn.2.2.1
  have hk3 := hn.2.2.2.1
  have hS := hn.2.2.2.2.2.2.2.1
  by_cases q : (1 : Int32) ≤ a1 ∧ a1 ≤ (3 : Int32)
  · obtain ⟨m, hm1, hm3, rfl⟩ := (pb_range (a := a1) (lo := 1) (hi := 3) (by omega) (by omega)).mp q
    have l7 : ∀ d p f H, p + d = 3 → d < f → (∀ c, c ≠ 3 → H c = stF F 1 1 (nI m) c) → (∀ i, i < 3 → H 3 i = nI (if i < m ∨ p ≤ i then S i else 0)) → m ≤ p → ∃ H1, m_X3_resizeServers_1_L7 f (nI p) H = some H1 ∧ (∀ c, c ≠ 3 → H1 c = stF F 1 1 (nI m) c) ∧ (∀ i, i < 3 → H1 3 i = nI (if i < m then S i else 0)) := by
      intro d
      induction d with
      | zero =>
        intro p f H h hf h1 h2 h3
        obtain ⟨f, rfl⟩ : ∃ m, f = m + 1 := ⟨f - 1, by omega⟩
        obtain rfl : p = 3 := by omega
        rw [m_X3_resizeServers_1_L7, if_pos (show (3 : Int32) ≤ nI 3 by decide)]
        refine ⟨H, rfl, h1, fun i hi => ?_⟩
        rw [h2 i hi]
        congr 1
        by_cases e : i < m
        · rw [if_pos (.inl e), if_pos e]
        · rw [if_neg (by omega), if_neg e]
      | succ d ih =>
        intro p f H h hf h1 h2 h3
        obtain ⟨f, rfl⟩ : ∃ m, f = m + 1 := ⟨f - 1, by omega⟩
        rw [m_X3_resizeServers_1_L7, if_neg (show ¬ (3 : Int32) ≤ nI p from nI_ge (b := 3) (by omega) (by omega)), zi_wr (q := 3) p rfl (show p < 3 by omega), zb_some, zb_mlet, nI_1]
        refine ih (p + 1) f _ (by omega) (by omega) (fun c hc => (st_cell _ _ _ hc).trans (h1 c hc)) (fun i hi => ?_) (by omega)
        by_cases e : i = p
        · subst e
          rw [st_self, if_neg (by omega)]
          rfl
        · rw [st_ne _ _ (by omega), h2 i hi]
          congr 1
          by_cases e2 : i < m ∨ p ≤ i
          · rw [if_pos e2, if_pos (by omega)]
          · rw [if_neg e2, if_neg (by omega)]
    obtain ⟨B, b1, b2, b3⟩ := l7 (3 - m) m 300 (stF F 1 1 (nI m)) (by omega) (by omega) (fun _ _ => rfl) (fun i hi => by rw [st_cell _ _ _ (by decide), if_pos (by omega)]; exact hl.2.2.2.2.2.1 i hi) (Nat.le_refl m)
    have B1 : B 1 = stF F 1 1 (nI m) 1 := b2 1 (by decide)
    obtain ⟨C, c1, c2, c3, c4, c5⟩ := lsC (N := N) (k := m) (F := B) hN1 hN hm1 hm3 (by rw [B1, st_ne _ _ (by omega)]; exact hl.1) (by rw [B1, st_self])
    have Cc : ∀ c, c ≠ 1 → c ≠ 3 → c ≠ 5 → C c = F c := fun c h1 h3 h5 => by
      rw [c5 c h1 h5, b2 c h3, st_cell _ _ _ h1]
    have clC : m_X11_servers_0 F (nI m) = some (nI k, C) := by
      unfold m_X11_servers_0 m_X3_resizeServers_1
      rw [pb_within, if_pos q, zb_some, if_neg (show ¬ (1 : Int32) = 0 by decide), zb_mlet, zb_mlet, b1, zb_bd1, c1, zb_some, zb_some, hl.2.1]
    have l24 : ∀ d p f H, (p + d = m ∨ (m ≤ p ∧ d = 0)) → p < 10 → d < f → (∀ c, c ≠ 99 → H c = stF C 97 2 (nI m) c) → (∀ i, i < m → i < p → H 99 i = nI (S i)) → (∀ i, i < 3 → ∃ j, j < N ∧ H 99 i = nI j) → k ≤ p → ∃ H1, m_X12_servers_97_L24 (nI m) f (nI p) H = some H1 ∧ (∀ c, c ≠ 99 → H1 c = stF C 97 2 (nI m) c) ∧ (∀ i, i < m → H1 99 i = nI (S i)) ∧ (∀ i, i < 3 → ∃ j, j < N ∧ H1 99 i = nI j) := by
      intro d
      induction d with
      | zero =>
        intro p f H h h10 hf h1 h2 h3 h4
        obtain ⟨f, rfl⟩ : ∃ m, f = m + 1 := ⟨f - 1, by omega⟩
        rw [m_X12_servers_97_L24, if_pos (nI_le (by omega) (by omega))]
        exact ⟨H, rfl, h1, fun i hi => h2 i hi (by omega), h3⟩
      | succ d ih =>
        intro p f H h h10 hf h1 h2 h3 h4
        obtain ⟨f, rfl⟩ : ∃ m, f = m + 1 := ⟨f - 1, by omega⟩
        rw [m_X12_servers_97_L24, if_neg (nI_ge (by omega) (by omega)), zi_wr (q := 99) p rfl (show p < 3 by omega), zb_some, zb_mlet, nI_1]
        refine ih (p + 1) f _ (by omega) (by omega) (by omega) (fun c hc => (st_cell _ _ _ hc).trans (h1 c hc)) (fun i hi hip => ?_) (fun i hi => ?_) (by omega)
        · by_cases e : i = p
          · subst e
            rw [st_self, hn.2.2.2.2.2.2.2.2.1 i h4]
            rfl
          · rw [st_ne _ _ (by omega)]; exact h2 i hi (by omega)
        · by_cases e : i = p
          · subst e
            exact ⟨0, by omega, by rw [st_self]; rfl⟩
          · rw [st_ne _ _ (by omega)]; exact h3 i hi
    obtain ⟨E, e1, e2, e3, e4⟩ := l24 (m - k) k 300 (stF C 97 2 (nI m)) (by omega) (by omega) (by omega) (fun _ _ => rfl) (fun i hi hip => by rw [st_cell _ _ _ (by decide), Cc 99 (by decide) (by decide) (by decide)]; exact hr.2.2.2.2.1 i hip) (fun i hi => by rw [st_cell _ _ _ (by decide), Cc 99 (by decide) (by decide) (by decide)]; exact hr.2.2.2.2.2 i hi) (Nat.le_refl k)
    have clR : m_X12_servers_97 C (nI m) = some (nI k, E) := by
      unfold m_X12_servers_97
      rw [pb_in, if_pos q, zb_some, if_neg (show ¬ (1 : Int32) = 0 by decide), zb_mlet, zb_mlet, show C 97 2 = nI k by rw [Cc 97 (by decide) (by decide) (by decide)]; exact hr.2.1, e1, zb_bd1]
    refine ⟨nI k, C, E, clC, clR, sp_INV_fr (F := F) (N := N) (k := m) (G := G) (P := P) (S := fun i => if i < m then S i else 0) ?_ ?_ ?_ hcf hs ?_ ?_⟩
    · refine ⟨hN1, hN, hm1, hm3, hn.2.2.2.2.1, hn.2.2.2.2.2.1, hn.2.2.2.2.2.2.1, fun s => ?_, fun s hsk => ?_, hn.2.2.2.2.2.2.2.2.2⟩
      · show (if s < m then S s else 0) < N
        split
        · exact hS s
        · omega
      · show (if s < m then S s else 0) = 0
        rw [if_neg (by omega)]
    · have E1 : ∀ c, c < 97 → E c = C c := fun c hc => (e2 c (by omega)).trans (st_cell _ _ _ (by omega))
      refine ⟨?_, ?_, ?_, ?_, ?_, ?_, ?_, ?_⟩
      · rw [E1 1 (by omega), c4 0 (by decide), B1, st_ne _ _ (by omega)]; exact hl.1
      · rw [E1 1 (by omega), c4 1 (by decide), B1, st_self]
      · rw [E1 1 (by omega), c4 2 (by decide), B1, st_ne _ _ (by omega)]; exact hl.2.2.1
      · rw [E1 1 (by omega)]; exact c2
      · intro p hp
        rw [E1 2 (by omega), Cc 2 (by decide) (by decide) (by decide)]
        exact hl.2.2.2.2.1 p hp
      · intro s hs3
        rw [E1 3 (by omega), c5 3 (by decide) (by decide)]
        exact b3 s hs3
      · intro c hc
        rw [E1 4 (by omega), Cc 4 (by decide) (by decide) (by decide)]
        exact hl.2.2.2.2.2.2.1 c hc
      · intro i hi
        rw [E1 5 (by omega)]
        exact c3 i hi
    · refine ⟨?_, ?_, ?_, ?_, ?_, ?_⟩
      · rw [e2 97 (by decide), st_ne _ _ (by omega), Cc 97 (by decide) (by decide) (by decide)]; exact hr.1
      · rw [e2 97 (by decide), st_self]
      · rw [e2 97 (by decide), st_ne _ _ (by omega), Cc 97 (by decide) (by decide) (by decide)]; exact hr.2.2.1
      · intro p hp
        rw [e2 98 (by decide), st_cell _ _ _ (by decide), Cc 98 (by decide) (by decide) (by decide)]
        exact hr.2.2.2.1 p hp
      · intro s hsk
        show E 99 s = nI (if s < m then S s else 0)
        rw [if_pos hsk]
        exact e3 s hsk
      · exact e4
    · intro c hc
      rw [e2 c (by omega), st_cell _ _ _ (by omega)]
      exact Cc c (by omega) (by omega) (by omega)
    · rw [e2 97 (by decide), st_ne _ _ (by omega), Cc 97 (by decide) (by decide) (by decide)]
  · refine ⟨-2, F, F, ?_, ?_, hI⟩
    · unfold m_X11_servers_0
      rw [pb_within, if_neg q, zb_some, if_pos rfl]
    · unfold m_X12_servers_97
      rw [pb_in, if_neg q, zb_some, if_pos rfl]
