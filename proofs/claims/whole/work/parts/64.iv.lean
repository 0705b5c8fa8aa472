/-! PURE: the invariant, and the reading of what is asked -/
def sp_s1h (F : mmS) (s : Nat) : Prop := (F 12 s = -1 ∧ F 109 s = 0) ∨ (F 109 s = 1 ∧ (∃ f, f < 3 ∧ F 12 s = nI f ∧ F 110 s = nI f) ∧ (∃ n, n ≤ 40 ∧ F 13 s = nI n ∧ F 111 s = nI n) ∧ ∀ i, i < 40 → F (8 + s) i = F 112 (40 * s + i))
def sp_sh (F : mmS) : Prop := F 6 3 = F 97 28 ∧ ∀ s, s < 4 → sp_s1h F s
def sp_INV (F : mmS) : Prop := ∃ N k G P S, sp_num N k G P S ∧ sp_lc N k G P S F ∧ sp_lr N k G P S F ∧ sp_cf F ∧ sp_sh F
theorem sp_s1h_fr {F F1 : mmS} {s : Nat} (h : sp_s1h F s) (h8 : F1 (8 + s) = F (8 + s)) (h12 : F1 12 = F 12) (h13 : F1 13 = F 13) (h109 : F1 109 = F 109) (h110 : F1 110 = F 110) (h111 : F1 111 = F 111) (h112 : F1 112 = F 112) : sp_s1h F1 s := by
  unfold sp_s1h at *
  rw [h8, h12, h13, h109, h110, h111, h112]
  exact h
theorem sp_sh_fr {F F1 : mmS} (h : sp_sh F) (hc : ∀ c, c < 14 → F1 c = F c) (hr : ∀ c, 109 ≤ c → c < 113 → F1 c = F c) (h28 : F1 97 28 = F 97 28) : sp_sh F1 := by
  refine ⟨?_, fun s hs => sp_s1h_fr (h.2 s hs) (hc _ (by omega)) (hc 12 (by omega)) (hc 13 (by omega)) (hr 109 (by omega) (by omega)) (hr 110 (by omega) (by omega)) (hr 111 (by omega) (by omega)) (hr 112 (by omega) (by omega))⟩
  rw [hc 6 (by omega), h28]
  exact h.1
theorem sp_cf_fr {F F1 : mmS} (h : sp_cf F) (hf : ∀ c, 14 ≤ c → c < 97 → F1 c = F c) : sp_cf F1 := by
  unfold sp_cf at *
  rw [hf 30 (by omega) (by omega), hf 34 (by omega) (by omega), hf 27 (by omega) (by omega), hf 87 (by omega) (by omega), hf 17 (by omega) (by omega), hf 91 (by omega) (by omega)]
  exact h
theorem zi_pred {N : Nat} (h : 1 ≤ N) : nI N - 1 = nI (N - 1) := pk_sub (b := 1) h
/-- the points among the first i -/
def sp_ls (N : Nat) (it : Nat → Int32) : Nat → List Nat
  | 0 => []
  | i + 1 => if (0 : Int32) ≤ it i ∧ it i ≤ nI (N - 1) then sp_ls N it i ++ [(it i).toNatClampNeg] else sp_ls N it i
theorem sp_ls_len (N : Nat) (it : Nat → Int32) : ∀ i, (sp_ls N it i).length ≤ i := by
  intro i
  induction i with
  | zero => exact Nat.le_refl 0
  | succ i ih =>
    show (if _ then _ else _ : List Nat).length ≤ _
    split
    · rw [List.length_append]; show _ + 1 ≤ _; omega
    · omega
theorem sp_ls_mem {N : Nat} {it : Nat → Int32} (hN : 1 ≤ N) (hN6 : N ≤ 6) : ∀ i, ∀ x, x ∈ sp_ls N it i → x < N := by
  intro i
  induction i with
  | zero => intro x hx; exact absurd hx (by simp [sp_ls])
  | succ i ih =>
    intro x hx
    have hx' : x ∈ (if (0 : Int32) ≤ it i ∧ it i ≤ nI (N - 1) then sp_ls N it i ++ [(it i).toNatClampNeg] else sp_ls N it i) := hx
    split at hx'
    · rename_i q
      rcases List.mem_append.mp hx' with h | h
      · exact ih x h
      · rw [List.mem_singleton] at h
        obtain ⟨j, -, hj, e⟩ := (pb_range (a := it i) (lo := 0) (hi := N - 1) (by omega) (by omega)).mp q
        rw [h, e, nI_clamp (by omega)]
        omega
    · exact ih x hx'
theorem sp_getD_app1 {l : List Nat} {x t : Nat} (h : t < l.length) : (l ++ [x]).getD t 0 = l.getD t 0 := by
  rw [List.getD_eq_getElem?_getD, List.getD_eq_getElem?_getD, List.getElem?_append_left h]
theorem sp_getD_app2 {l : List Nat} {x : Nat} : (l ++ [x]).getD l.length 0 = x := by
  rw [List.getD_eq_getElem?_getD, List.getElem?_append_right (Nat.le_refl _), Nat.sub_self]
  rfl
def sp_rp (N : Nat) (it : Nat → Int32) (n t : Nat) : Nat := (sp_ls N it n).getD t 0
theorem sp_rp_lt {N : Nat} {it : Nat → Int32} (hN : 1 ≤ N) (hN6 : N ≤ 6) {n t : Nat} (h : t < (sp_ls N it n).length) : sp_rp N it n t < N := by
  unfold sp_rp
  rw [List.getD_eq_getElem?_getD, List.getElem?_eq_getElem h]
  exact sp_ls_mem hN hN6 n _ (List.getElem_mem h)
/-- the hint of t -/
def sp_hh (k : Nat) (F : mmS) (t : Nat) : Int32 := if F 12 1 = -1 then -1 else if nI t < F 13 1 then (if (0 : Int32) ≤ F 9 t ∧ F 9 t ≤ nI (k - 1) then F 9 t else -1) else -1
theorem sp_hh_ok {k n : Nat} {F : mmS} (hk : 1 ≤ k) (hk3 : k ≤ 3) : sp_hok k n (sp_hh k F) := by
  intro t _
  unfold sp_hh
  split
  · exact .inl rfl
  · split
    · split
      · rename_i q
        obtain ⟨j, -, hj, e⟩ := (pb_range (a := F 9 t) (lo := 0) (hi := k - 1) (by omega) (by omega)).mp q
        exact .inr ⟨j, by omega, e⟩
      · exact .inl rfl
    · exact .inl rfl
theorem zi_lost {F : mmS} {s : Nat} (h : sp_s1h F s) (hs : s < 4) : m_X8_isLost_6 F (nI s) = some (if F 12 s = -1 then 1 else 0) := by
  unfold m_X8_isLost_6
  rw [zi_rd s rfl (rfl : F 12 s = F 12 s) (show s < 4 from hs), zb_some]
  split <;> rfl
theorem haC {N k G t : Nat} {P S : Nat → Nat} {F : mmS} (hn : sp_num N k G P S) (hl : sp_lc N k G P S F) (hs : sp_s1h F 1) (ht : t < 40) : m_X6_hintAt_6_1 F (nI t) = some (sp_hh k F t) := by
  unfold m_X6_hintAt_6_1 sp_hh
  rw [show m_X8_isLost_6 F (1 : Int32) = some (if F 12 1 = -1 then 1 else 0) from zi_lost (s := 1) hs (by omega), zb_some]
  rcases hs with ⟨h, -⟩ | ⟨-, ⟨f, hf, e12, -⟩, ⟨n, hn40, e13, -⟩, -⟩
  · rw [if_pos h, if_neg (show ¬ (1 : Int32) = 0 by decide), if_pos h]
  · have ne : ¬ F 12 1 = -1 := by rw [e12]; exact zi_m1 (by omega)
    rw [if_neg ne, if_pos rfl, if_neg ne, zi_rd 1 li1 (rfl : F 13 1 = F 13 1) (by decide), zb_some]
    split
    · rw [show rld 7 (1 : Int32) = some 9 from pb_rld (q := 7) (n := 1) (by decide) (by decide), zb_some, zi_rd t rfl (rfl : F 9 t = F 9 t) (show t < 40 from ht), zb_some, hl.2.1, zi_pred hn.2.2.1, pb_within, zb_some]
      split
      · rw [if_neg (show ¬ (1 : Int32) = 0 by decide)]
      · rw [if_pos rfl]
    · rfl
theorem haR {N k G t : Nat} {P S : Nat → Nat} {F : mmS} (hn : sp_num N k G P S) (hl : sp_lr N k G P S F) (hs : sp_s1h F 1) (ht : t < 40) : m_X12_hintAt_97 F (nI t) = some (sp_hh k F t) := by
  unfold m_X12_hintAt_97 sp_hh
  have hk := hn.2.2.1
  have hk3 := hn.2.2.2.1
  rw [show zld F (1 : Int32) = some (F 109 1) from pb_zld (n := 1) (by decide), zb_some]
  have nin : ¬ ((0 : Int32) ≤ -1 ∧ (-1 : Int32) ≤ nI (k - 1)) := fun h => absurd h.1 (by decide)
  rcases hs with ⟨h, h9⟩ | ⟨h9, ⟨f, hf, e12, -⟩, ⟨n, hn40, e13, e111⟩, hit⟩
  · rw [h9, if_pos rfl, if_pos h, zb_bd1, hl.2.1, zi_pred hk, pb_in, if_neg nin, zb_some, if_pos rfl]
  · have ne : ¬ F 12 1 = -1 := by rw [e12]; exact zi_m1 (by omega)
    rw [h9, if_neg (show ¬ (1 : Int32) = 0 by decide), if_neg ne, zi_rd 1 li1 e111 (by decide), zb_some, e13]
    by_cases q : t < n
    · rw [if_neg (nI_ge q (by omega)), if_pos (nI_lt q (by omega)), show (40 : Int32) + nI t = nI (40 + t) from nI_add 40 t, zi_rd (40 + t) rfl (hit t ht).symm (show _ < 160 by omega), zb_some, zb_bd1, hl.2.1, zi_pred hk, pb_in, zb_some]
      split
      · rw [if_neg (show ¬ (1 : Int32) = 0 by decide)]
      · rw [if_pos rfl]
    · rw [if_pos (nI_le (by omega) (by omega)), if_neg (nI_nlt (by omega) (by omega)), zb_bd1, hl.2.1, zi_pred hk, pb_in, if_neg nin, zb_some, if_pos rfl]
theorem rdC {N k G n : Nat} {P S : Nat → Nat} {F : mmS} (hn : sp_num N k G P S) (hl : sp_lc N k G P S F) (hs : sp_sh F) (h12 : ¬ F 12 0 = -1) (h13 : F 13 0 = nI n) (hn40 : n ≤ 40) : ∃ F1, m_X11_readRow_0 F = some (1, F1) ∧ sp_rw (sp_ls N (F 8) n).length (sp_rp N (F 8) n) (sp_hh k F) F1 ∧ sp_fr 14 17 F F1 := by
  have hN := hn.2.1
  have hN1 := hn.1
  have loop : ∀ d i f H, i + d = n → d < f → H 14 2 = nI (sp_ls N (F 8) i).length → (∀ t, t < (sp_ls N (F 8) i).length → H 15 t = nI ((sp_ls N (F 8) i).getD t 0) ∧ H 16 t = sp_hh k F t) → sp_fr 14 17 F H → ∃ F1, m_X6_read_14_6_1_L17 f (nI i) H = some F1 ∧ sp_rw (sp_ls N (F 8) n).length (sp_rp N (F 8) n) (sp_hh k F) F1 ∧ sp_fr 14 17 F F1 := by
    intro d
    induction d with
    | zero =>
      intro i f H h hf h1 h2 h3
      obtain ⟨f, rfl⟩ : ∃ m, f = m + 1 := ⟨f - 1, by omega⟩
      obtain rfl : i = n := by omega
      rw [m_X6_read_14_6_1_L17, zi_rd 0 li0 (show H 13 0 = nI i by rw [h3 13 (by omega)]; exact h13) (by decide), zb_some, if_pos (nI_le (by omega) (by omega))]
      exact ⟨H, rfl, ⟨h1, h2⟩, h3⟩
    | succ d ih =>
      intro i f H h hf h1 h2 h3
      obtain ⟨f, rfl⟩ : ∃ m, f = m + 1 := ⟨f - 1, by omega⟩
      have hlen := sp_ls_len N (F 8) i
      have lH := sp_fr_lc h3 (by decide) hl
      rw [m_X6_read_14_6_1_L17, zi_rd 0 li0 (show H 13 0 = nI n by rw [h3 13 (by omega)]; exact h13) (by decide), zb_some, if_neg (nI_ge (by omega) (by omega)), show rld 7 (0 : Int32) = some 8 from pb_rld (q := 7) (n := 0) (by decide) (by decide), zb_some, zi_rd i rfl (show H 8 i = F 8 i by rw [h3 8 (by omega)]) (show i < 40 by omega), zb_some, lH.1, zi_pred hN1, pb_within, zb_some]
      have eL : sp_ls N (F 8) (i + 1) = if (0 : Int32) ≤ F 8 i ∧ F 8 i ≤ nI (N - 1) then sp_ls N (F 8) i ++ [(F 8 i).toNatClampNeg] else sp_ls N (F 8) i := rfl
      by_cases q : (0 : Int32) ≤ F 8 i ∧ F 8 i ≤ nI (N - 1)
      · obtain ⟨j, -, hj, e⟩ := (pb_range (a := F 8 i) (lo := 0) (hi := N - 1) (by omega) (by omega)).mp q
        rw [if_pos q] at eL ⊢
        rw [if_neg (show ¬ (1 : Int32) = 0 by decide), h1, zi_wr (q := 15) (sp_ls N (F 8) i).length rfl (show _ < 40 by omega), zb_some]
        have g14 : ∀ v, stF H 15 (sp_ls N (F 8) i).length v 14 2 = nI (sp_ls N (F 8) i).length := fun v => by rw [st_cell _ _ _ (by decide)]; exact h1
        have f1 : sp_fr 14 17 F (stF H 15 (sp_ls N (F 8) i).length (F 8 i)) := sp_fr_tr h3 (sp_fr_st _ _ _ (by omega) (by omega))
        have hh1 : m_X6_hintAt_6_1 (stF H 15 (sp_ls N (F 8) i).length (F 8 i)) (nI (sp_ls N (F 8) i).length) = some (sp_hh k F (sp_ls N (F 8) i).length) := by
          rw [haC (N := N) (G := G) (P := P) (S := S) hn (sp_fr_lc f1 (by decide) hl) ?_ (by omega)]
          · unfold sp_hh
            rw [f1 12 (by omega), f1 13 (by omega), f1 9 (by omega)]
          · exact sp_s1h_fr (hs.2 1 (by omega)) (f1 _ (by omega)) (f1 12 (by omega)) (f1 13 (by omega)) (f1 109 (by omega)) (f1 110 (by omega)) (f1 111 (by omega)) (f1 112 (by omega))
        rw [g14, hh1, zb_some, zi_wr (q := 16) (sp_ls N (F 8) i).length rfl (show _ < 40 by omega), zb_some, zb_mlet, zb_bd1, zb_mlet, nI_1]
        have g14' : stF (stF H 15 (sp_ls N (F 8) i).length (F 8 i)) 16 (sp_ls N (F 8) i).length (sp_hh k F (sp_ls N (F 8) i).length) 14 2 = nI (sp_ls N (F 8) i).length := by rw [st_cell _ _ _ (by decide)]; exact g14 _
        rw [g14', nI_1]
        have eln : (sp_ls N (F 8) (i + 1)).length = (sp_ls N (F 8) i).length + 1 := by
          rw [eL, List.length_append]; rfl
        refine ih (i + 1) f _ (by omega) (by omega) ?_ (fun t ht => ?_) ?_
        · rw [st_self, eln]
        · rw [eln] at ht
          rw [eL]
          by_cases e2 : t = (sp_ls N (F 8) i).length
          · subst e2
            refine ⟨?_, ?_⟩
            · rw [st_cell _ _ _ (by decide), st_cell _ _ _ (by decide), st_self, sp_getD_app2, e, nI_clamp (by omega)]
            · rw [st_cell _ _ _ (by decide), st_self]
          · refine ⟨?_, ?_⟩
            · rw [st_cell _ _ _ (by decide), st_cell _ _ _ (by decide), st_ne _ _ (by omega), sp_getD_app1 (by omega)]
              exact (h2 t (by omega)).1
            · rw [st_cell _ _ _ (by decide), st_ne _ _ (by omega), st_cell _ _ _ (by decide)]
              exact (h2 t (by omega)).2
        · exact sp_fr_tr (sp_fr_tr f1 (sp_fr_st _ _ _ (by omega) (by omega))) (sp_fr_st _ _ _ (by omega) (by omega))
      · rw [if_neg q] at eL ⊢
        rw [if_pos rfl, zb_bd1, zb_mlet, nI_1]
        rw [← eL] at h1 h2
        exact ih (i + 1) f H (by omega) (by omega) h1 h2 h3
  have f0 : sp_fr 14 17 F (stF F 14 2 0) := sp_fr_st _ _ _ (by omega) (by omega)
  obtain ⟨F1, a1, a2, a3⟩ := loop n 0 300 (stF F 14 2 0) (by omega) (by omega) (by rw [st_self]; rfl) (fun t ht => absurd ht (by show ¬ t < 0; omega)) f0
  refine ⟨F1, ?_, a2, a3⟩
  unfold m_X11_readRow_0 m_X6_read_14_6_1
  have hl0 : m_X8_isLost_6 (stF F 14 2 0) (0 : Int32) = some 0 := by
    have := zi_lost (s := 0) (sp_s1h_fr (hs.2 0 (by omega)) (f0 _ (by omega)) (f0 12 (by omega)) (f0 13 (by omega)) (f0 109 (by omega)) (f0 110 (by omega)) (f0 111 (by omega)) (f0 112 (by omega))) (by omega)
    rw [f0 12 (by omega), if_neg h12] at this
    exact this
  rw [zb_mlet, hl0, zb_some, if_pos rfl, show m_X6_read_14_6_1_L17 300 (0 : Int32) (stF F 14 2 0) = some F1 from a1, zb_bd1, zi_zg1, zb_some, zb_bd2, zi_zg1, zb_some]
theorem rdC0 {F : mmS} (hs : sp_sh F) (h12 : F 12 0 = -1) : ∃ F1, m_X11_readRow_0 F = some (0, F1) ∧ sp_fr 14 17 F F1 := by
  have f0 : sp_fr 14 17 F (stF F 14 2 0) := sp_fr_st _ _ _ (by omega) (by omega)
  refine ⟨stF F 14 2 0, ?_, f0⟩
  unfold m_X11_readRow_0 m_X6_read_14_6_1
  have hl0 : m_X8_isLost_6 (stF F 14 2 0) (0 : Int32) = some 1 := by
    have := zi_lost (s := 0) (sp_s1h_fr (hs.2 0 (by omega)) (f0 _ (by omega)) (f0 12 (by omega)) (f0 13 (by omega)) (f0 109 (by omega)) (f0 110 (by omega)) (f0 111 (by omega)) (f0 112 (by omega))) (by omega)
    rw [f0 12 (by omega), if_pos h12] at this
    exact this
  rw [zb_mlet, hl0, zb_some, if_neg (show ¬ (1 : Int32) = 0 by decide), zi_zg0, zb_some, zb_bd2, zi_zg0, zb_some]
theorem rdR {N k G n : Nat} {P S : Nat → Nat} {F : mmS} {it : Nat → Int32} (hn : sp_num N k G P S) (hl : sp_lr N k G P S F) (h9 : F 109 0 = 1) (h11 : F 111 0 = nI n) (hn40 : n ≤ 40) (hit : ∀ i, i < 40 → F 112 i = it i) : ∃ F1, m_X12_reads_97 F = some (1, F1) ∧ sp_rr (sp_ls N it n).length (sp_rp N it n) F1 ∧ sp_fY F F1 := by
  have hN := hn.2.1
  have hN1 := hn.1
  have loop : ∀ d i f H, i + d = n → d < f → H 97 5 = nI (sp_ls N it i).length → (∀ t, t < (sp_ls N it i).length → H 100 t = nI ((sp_ls N it i).getD t 0)) → sp_fY F H → ∃ F1, m_X12_reads_97_L23 f (nI i) H = some F1 ∧ sp_rr (sp_ls N it n).length (sp_rp N it n) F1 ∧ sp_fY F F1 := by
    intro d
    induction d with
    | zero =>
      intro i f H h hf h1 h2 h3
      obtain ⟨f, rfl⟩ : ∃ m, f = m + 1 := ⟨f - 1, by omega⟩
      obtain rfl : i = n := by omega
      rw [m_X12_reads_97_L23, zi_rd 0 li0 (show H 111 0 = nI i by rw [h3.1 111 (by omega)]; exact h11) (by decide), zb_some, if_pos (nI_le (by omega) (by omega))]
      exact ⟨H, rfl, ⟨h1, h2⟩, h3⟩
    | succ d ih =>
      intro i f H h hf h1 h2 h3
      obtain ⟨f, rfl⟩ : ∃ m, f = m + 1 := ⟨f - 1, by omega⟩
      have hlen := sp_ls_len N it i
      have lH := sp_fY_lr h3 hl
      have eit : H 112 i = it i := by rw [h3.1 112 (by omega)]; exact hit i (by omega)
      have eip : m_X12_isPoint_97 H (it i) = some (if (0 : Int32) ≤ it i ∧ it i ≤ nI (N - 1) then 1 else 0) := by
        unfold m_X12_isPoint_97
        rw [lH.1, zi_pred hN1, pb_in, zb_some, zi_zgi, zb_some]
      rw [m_X12_reads_97_L23, zi_rd 0 li0 (show H 111 0 = nI n by rw [h3.1 111 (by omega)]; exact h11) (by decide), zb_some, if_neg (nI_ge (by omega) (by omega)), zi_rd i rfl eit (show i < 160 by omega), zb_some, eip, zb_some]
      have eL : sp_ls N it (i + 1) = if (0 : Int32) ≤ it i ∧ it i ≤ nI (N - 1) then sp_ls N it i ++ [(it i).toNatClampNeg] else sp_ls N it i := rfl
      by_cases q : (0 : Int32) ≤ it i ∧ it i ≤ nI (N - 1)
      · obtain ⟨j, -, hj, e⟩ := (pb_range (a := it i) (lo := 0) (hi := N - 1) (by omega) (by omega)).mp q
        rw [if_pos q] at eL ⊢
        rw [if_neg (show ¬ (1 : Int32) = 0 by decide), zb_some, h1, zi_wr (q := 100) (sp_ls N it i).length rfl (show _ < 40 by omega), zb_some, zb_mlet, st_cell _ _ _ (by decide), h1, nI_1, zb_bd1, zb_mlet, nI_1]
        have eln : (sp_ls N it (i + 1)).length = (sp_ls N it i).length + 1 := by
          rw [eL, List.length_append]; rfl
        refine ih (i + 1) f _ (by omega) (by omega) ?_ (fun t ht => ?_) ?_
        · rw [st_self, eln]
        · rw [eln] at ht
          rw [st_cell _ _ _ (by decide), eL]
          by_cases e2 : t = (sp_ls N it i).length
          · subst e2
            rw [st_self, sp_getD_app2, e, nI_clamp (by omega)]
          · rw [st_ne _ _ (by omega), sp_getD_app1 (by omega)]
            exact h2 t (by omega)
        · refine sp_fY_tr h3 ⟨fun c hc => ?_, fun x hx => ?_⟩
          · rw [st_cell _ _ _ (by omega), st_cell _ _ _ (by omega)]
          · rw [st_ne _ _ (by omega), st_cell _ _ _ (by decide)]
      · rw [if_neg q] at eL ⊢
        rw [if_pos rfl, zb_bd1, zb_mlet, nI_1]
        rw [← eL] at h1 h2
        exact ih (i + 1) f H (by omega) (by omega) h1 h2 h3
  have f0 : sp_fY F (stF F 97 5 0) := ⟨fun c hc => st_cell _ _ _ (by omega), fun i hi => st_ne _ _ (by omega)⟩
  obtain ⟨F1, a1, a2, a3⟩ := loop n 0 300 (stF F 97 5 0) (by omega) (by omega) (by rw [st_self]; rfl) (fun t ht => absurd ht (by show ¬ t < 0; omega)) f0
  refine ⟨F1, ?_, a2, a3⟩
  unfold m_X12_reads_97
  rw [zb_mlet, show zld (stF F 97 5 0) (0 : Int32) = some (stF F 97 5 0 109 0) from pb_zld (n := 0) (by decide), zb_some, st_cell _ _ _ (by decide), h9, if_neg (show ¬ (1 : Int32) = 0 by decide), show m_X12_reads_97_L23 300 (0 : Int32) (stF F 97 5 0) = some F1 from a1, zb_bd1, zi_zg1, zb_some]
theorem rdR0 {F : mmS} (h9 : F 109 0 = 0) : m_X12_reads_97 F = some (0, stF (stF F 97 5 0) 97 28 1) := by
  unfold m_X12_reads_97
  rw [zb_mlet, show zld (stF F 97 5 0) (0 : Int32) = some (stF F 97 5 0 109 0) from pb_zld (n := 0) (by decide), zb_some, st_cell _ _ _ (by decide), h9, if_pos rfl, zb_mlet, zi_zg0, zb_some]
/-- a call that wants what is asked -/
theorem rowop {F : mmS} (hI : sp_INV F) (Kc Kr : mmS → Option (Int32 × mmS)) (hK : ∀ N k G P S n rp hh, sp_num N k G P S → n ≤ 40 → (∀ t, t < n → rp t < N) → sp_hok k n hh → F 1 0 = nI N → F 1 1 = nI k → ∀ A, sp_lc N k G P S A → sp_rw n rp hh A → sp_cf A → ∃ r B, Kc A = some (r, B) ∧ sp_fr 14 97 A B ∧ sp_cf B ∧ ∀ C, sp_lr N k G P S C → sp_rr n rp C → sp_hn n hh C → ∃ D, Kr C = some (r, D) ∧ sp_fY C D) : ∃ (r : Int32) (F1 F2 : mmS), (bd2 (m_X11_readRow_0 F) fun x G => if x = (0 : Int32) then (bd2 (m_X8_found_6 G (1 : Int32)) fun a b => some (a, b)) else Kc G) = some (r, F1) ∧ (bd2 (m_X12_reads_97 F1) fun x G => if x = (0 : Int32) then (some ((-11 : Int32), G)) else Kr G) = some (r, F2) ∧ sp_INV F2 ∧ ∀ c, 97 ≤ c → F1 c = F c := by
  obtain ⟨N, k, G, P, S, hn, hl, hr, hcf, hs⟩ := hI
  have h0 := hs.2 0 (by omega)
  rcases h0 with ⟨l12, l109⟩ | ⟨p109, ⟨f, hf, e12, e110⟩, ⟨n, hn40, e13, e111⟩, hit⟩
  · obtain ⟨A, a1, a2⟩ := rdC0 hs l12
    have hfd : m_X8_found_6 A 1 = some (-11, stF A 6 3 1) := by
      unfold m_X8_found_6
      rw [zb_mlet]
      rfl
    refine ⟨-11, stF A 6 3 1, stF (stF (stF A 6 3 1) 97 5 0) 97 28 1, ?_, ?_, ⟨N, k, G, P, S, hn, ?_, ?_, ?_, ?_, fun s hs4 => ?_⟩, fun c hc => (st_cell _ _ _ (by omega)).trans (a2 c (by omega))⟩
    · rw [a1, zb_bd2, if_pos rfl, hfd, zb_bd2]
    · rw [rdR0 (by rw [st_cell _ _ _ (by decide), a2 109 (by omega)]; exact l109), zb_bd2, if_pos rfl]
    · exact sp_lc_fr hl (fun c hc => by rw [st_cell _ _ _ (by omega), st_cell _ _ _ (by omega), st_cell _ _ _ (by omega)]; exact a2 c (by omega))
    · refine sp_lr_fr hr ?_ ?_ ?_ ?_ ?_
      · rw [st_cell _ _ _ (by omega), st_cell _ _ _ (by omega), st_cell _ _ _ (by omega)]; exact a2 98 (by omega)
      · rw [st_cell _ _ _ (by omega), st_cell _ _ _ (by omega), st_cell _ _ _ (by omega)]; exact a2 99 (by omega)
      · rw [st_ne _ _ (by omega), st_ne _ _ (by omega), st_cell _ _ _ (by omega), a2 97 (by omega)]
      · rw [st_ne _ _ (by omega), st_ne _ _ (by omega), st_cell _ _ _ (by omega), a2 97 (by omega)]
      · rw [st_ne _ _ (by omega), st_ne _ _ (by omega), st_cell _ _ _ (by omega), a2 97 (by omega)]
    · have : sp_cf A := by
        unfold sp_cf at *
        rw [a2 30 (by omega), a2 34 (by omega), a2 27 (by omega), a2 87 (by omega), a2 17 (by omega), a2 91 (by omega)]
        exact hcf
      exact sp_cf_fr this (fun c h1 h2 => by rw [st_cell _ _ _ (by omega), st_cell _ _ _ (by omega), st_cell _ _ _ (by omega)])
    · rw [st_self, st_cell _ _ _ (by decide), st_cell _ _ _ (by decide), st_self]
    · have fr : ∀ c, c ≠ 6 → c ≠ 97 → ¬ (14 ≤ c ∧ c < 17) → stF (stF (stF A 6 3 1) 97 5 0) 97 28 1 c = F c := fun c h1 h2 h3 => by
        rw [st_cell _ _ _ h2, st_cell _ _ _ h2, st_cell _ _ _ h1]; exact a2 c (by omega)
      exact sp_s1h_fr (hs.2 s hs4) (fr _ (by omega) (by omega) (by omega)) (fr _ (by omega) (by omega) (by omega)) (fr _ (by omega) (by omega) (by omega)) (fr _ (by omega) (by omega) (by omega)) (fr _ (by omega) (by omega) (by omega)) (fr _ (by omega) (by omega) (by omega)) (fr _ (by omega) (by omega) (by omega))
  · have hN := hn.2.1
    have ne : ¬ F 12 0 = -1 := by rw [e12]; exact zi_m1 (by omega)
    obtain ⟨A, a1, a2, a3⟩ := rdC hn hl hs ne e13 hn40
    have hlen := sp_ls_len N (F 8) n
    have cfA : sp_cf A := by
      unfold sp_cf at *
      rw [a3 30 (by omega), a3 34 (by omega), a3 27 (by omega), a3 87 (by omega), a3 17 (by omega), a3 91 (by omega)]
      exact hcf
    obtain ⟨r, B, b1, b2, b3, b4⟩ := hK N k G P S _ _ _ hn (by omega) (fun t ht => sp_rp_lt hn.1 hN ht) (sp_hh_ok hn.2.2.1 hn.2.2.2.1) hl.1 hl.2.1 A (sp_fr_lc a3 (by decide) hl) a2 cfA
    have fB : sp_fr 14 97 F B := sp_fr_tr (sp_fr_up a3 (by omega) (by omega)) b2
    have lB : sp_lr N k G P S B := sp_lr_fr hr (fB 98 (by omega)) (fB 99 (by omega)) (by rw [fB 97 (by omega)]) (by rw [fB 97 (by omega)]) (by rw [fB 97 (by omega)])
    obtain ⟨C, c1, c2, c3⟩ := rdR (it := F 8) hn lB (by rw [fB 109 (by omega)]; exact p109) (by rw [fB 111 (by omega)]; exact e111) hn40 (fun i hi => by rw [fB 112 (by omega)]; have := hit i hi; rw [show 40 * 0 + i = i by omega] at this; exact this.symm)
    have fC : ∀ c, c < 14 → C c = F c := fun c hc => (c3.1 c (by omega)).trans (fB c (by omega))
    have hnC : sp_hn (sp_ls N (F 8) n).length (sp_hh k F) C := by
      intro t ht
      have h1 : sp_s1h C 1 := sp_s1h_fr (hs.2 1 (by omega)) (fC _ (by omega)) (fC 12 (by omega)) (fC 13 (by omega)) ((c3.1 109 (by omega)).trans (fB 109 (by omega))) ((c3.1 110 (by omega)).trans (fB 110 (by omega))) ((c3.1 111 (by omega)).trans (fB 111 (by omega))) ((c3.1 112 (by omega)).trans (fB 112 (by omega)))
      rw [haR hn (sp_fY_lr c3 lB) h1 (by omega)]
      unfold sp_hh
      rw [fC 12 (by omega), fC 13 (by omega), fC 9 (by omega)]
    obtain ⟨D, d1, d2⟩ := b4 C (sp_fY_lr c3 lB) c2 hnC
    have fD := sp_fY_tr c3 d2
    refine ⟨r, B, D, ?_, ?_, ⟨N, k, G, P, S, hn, ?_, sp_fY_lr fD lB, ?_, ?_⟩, fun c hc => fB c (by omega)⟩
    · rw [a1, zb_bd2, if_neg (show ¬ (1 : Int32) = 0 by decide), b1]
    · rw [c1, zb_bd2, if_neg (show ¬ (1 : Int32) = 0 by decide), d1]
    · exact sp_lc_fr hl (fun c hc => (fD.1 c (by omega)).trans (fB c (by omega)))
    · exact sp_cf_fr b3 (fun c h1 h2 => fD.1 c (by omega))
    · exact sp_sh_fr hs (fun c hc => (fD.1 c (by omega)).trans (fB c (by omega))) (fun c h1 h2 => (fD.1 c (by omega)).trans (fB c (by omega))) (by rw [fD.2 28 (by omega), fB 97 (by omega)])
