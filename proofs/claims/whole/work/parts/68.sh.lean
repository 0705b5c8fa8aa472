/-! PURE: the calls of the sheets -/
theorem zi_shC (a : Int32) : m_X11_isSheet a = some (if (0 : Int32) ≤ a ∧ a ≤ (3 : Int32) then 1 else 0) := by
  unfold m_X11_isSheet
  rw [pb_within, zb_some, zi_zgi, zb_some]
theorem zi_shR (a : Int32) : m_X12_isSheet a = some (if (0 : Int32) ≤ a ∧ a ≤ (3 : Int32) then 1 else 0) := by
  unfold m_X12_isSheet
  rw [pb_in, zb_some, zi_zgi, zb_some]
theorem zi_foC (a : Int32) : m_X11_isForm a = some (if (0 : Int32) ≤ a ∧ a ≤ (2 : Int32) then 1 else 0) := by
  unfold m_X11_isForm
  rw [pb_within, zb_some, zi_zgi, zb_some]
theorem sp_INV_sh {F F1 : mmS} (hI : sp_INV F) (hc : ∀ c, (c < 6 ∨ (14 ≤ c ∧ c < 97) ∨ c = 98 ∨ c = 99) → F1 c = F c) (h0 : F1 97 0 = F 97 0) (h2 : F1 97 2 = F 97 2) (h4 : F1 97 4 = F 97 4) (hs : sp_sh F1) : sp_INV F1 := by
  obtain ⟨N, k, G, P, S, hn, hl, hr, hcf, -⟩ := hI
  exact ⟨N, k, G, P, S, hn, sp_lc_fr hl (fun c h => hc c (by omega)), sp_lr_fr hr (hc 98 (by omega)) (hc 99 (by omega)) h0 h2 h4, sp_cf_fr hcf (fun c h1 h2 => hc c (by omega)), hs⟩
/-- a finding, on both sides -/
theorem fnd {F : mmS} (hI : sp_INV F) (v : Int32) : m_X8_found_6 F v = some (-10 - v, stF F 6 3 v) ∧ m_X12_meets_97 (stF F 6 3 v) v = some (-10 - v, stF (stF F 6 3 v) 97 28 v) ∧ sp_INV (stF (stF F 6 3 v) 97 28 v) := by
  refine ⟨?_, ?_, ?_⟩
  · unfold m_X8_found_6
    rw [zb_mlet]
  · unfold m_X12_meets_97
    rw [zb_mlet]
  · have hs := hI
    obtain ⟨_, _, _, _, _, -, -, -, -, hs⟩ := hs
    refine sp_INV_sh hI (fun c hc => by rw [st_cell _ _ _ (by omega), st_cell _ _ _ (by omega)]) ?_ ?_ ?_ ⟨?_, fun s h4 => ?_⟩
    · rw [st_ne _ _ (by omega), st_cell _ _ _ (by decide)]
    · rw [st_ne _ _ (by omega), st_cell _ _ _ (by decide)]
    · rw [st_ne _ _ (by omega), st_cell _ _ _ (by decide)]
    · rw [st_self, st_cell _ _ _ (by decide), st_self]
    · have fr : ∀ c, c ≠ 6 → c ≠ 97 → stF (stF F 6 3 v) 97 28 v c = F c := fun c h1 h2 => by rw [st_cell _ _ _ h2, st_cell _ _ _ h1]
      exact sp_s1h_fr (hs.2 s h4) (fr _ (by omega) (by omega)) (fr _ (by omega) (by omega)) (fr _ (by omega) (by omega)) (fr _ (by omega) (by omega)) (fr _ (by omega) (by omega)) (fr _ (by omega) (by omega)) (fr _ (by omega) (by omega))
theorem sp_s1h_st {F F1 : mmS} {s u : Nat} (h : sp_s1h F u) (hu : u ≠ s) (h8 : ∀ i, i < 40 → F1 (8 + u) i = F (8 + u) i) (h12 : F1 12 u = F 12 u) (h13 : F1 13 u = F 13 u) (h109 : F1 109 u = F 109 u) (h110 : F1 110 u = F 110 u) (h111 : F1 111 u = F 111 u) (h112 : ∀ i, i < 40 → F1 112 (40 * u + i) = F 112 (40 * u + i)) : sp_s1h F1 u := by
  unfold sp_s1h at *
  rw [h12, h13, h109, h110, h111]
  rcases h with h | ⟨a, b, c, d⟩
  · exact .inl h
  · exact .inr ⟨a, b, c, fun i hi => by rw [h8 i hi, h112 i hi]; exact d i hi⟩
theorem S18 : lw_S18 sp_INV := by
  intro F a1 a2 a3 hI
  by_cases q : (0 : Int32) ≤ a1 ∧ a1 ≤ (3 : Int32)
  · by_cases q2 : (0 : Int32) ≤ a2 ∧ a2 ≤ (2 : Int32)
    · by_cases q3 : a3 ≤ (40 : Int32)
      · by_cases q4 : (0 : Int32) ≤ a3
        · obtain ⟨s, -, hs3, rfl⟩ := (pb_range (a := a1) (lo := 0) (hi := 3) (by omega) (by omega)).mp q
          obtain ⟨f, -, hf2, rfl⟩ := (pb_range (a := a2) (lo := 0) (hi := 2) (by omega) (by omega)).mp q2
          obtain ⟨n, -, hn40, rfl⟩ := (pb_range (a := a3) (lo := 0) (hi := 40) (by omega) (by omega)).mp ⟨q4, q3⟩
          have l17 : ∀ d i g H, i + d = 40 → d < g → (∀ c, c ≠ 8 + s → H c = stF (stF F 12 s (nI f)) 13 s (nI n) c) → (∀ x, x < i → H (8 + s) x = 0) → ∃ H1, m_X8_renew_6_L17 (nI s) g (nI i) H = some H1 ∧ (∀ c, c ≠ 8 + s → H1 c = stF (stF F 12 s (nI f)) 13 s (nI n) c) ∧ (∀ x, x < 40 → H1 (8 + s) x = 0) := by
            intro d
            induction d with
            | zero =>
              intro i g H h hf h1 h2
              obtain ⟨g, rfl⟩ : ∃ m, g = m + 1 := ⟨g - 1, by omega⟩
              obtain rfl : i = 40 := by omega
              rw [m_X8_renew_6_L17, if_pos (show (40 : Int32) ≤ nI 40 by decide)]
              exact ⟨H, rfl, h1, h2⟩
            | succ d ih =>
              intro i g H h hf h1 h2
              obtain ⟨g, rfl⟩ : ∃ m, g = m + 1 := ⟨g - 1, by omega⟩
              rw [m_X8_renew_6_L17, if_neg (show ¬ (40 : Int32) ≤ nI i from nI_ge (b := 40) (by omega) (by omega)), show rld 7 (nI s) = some (8 + s) from pb_rld (q := 7) (show s < 4 by omega) (by decide), zb_some, zi_wr (q := 8 + s) i rfl (by rw [(show ∀ s, s < 4 → mm_len (8 + s) = 40 by decide) s (by omega)]; omega), zb_some, zb_mlet, nI_1]
              refine ih (i + 1) g _ (by omega) (by omega) (fun c hc => (st_cell _ _ _ hc).trans (h1 c hc)) (fun x hx => ?_)
              by_cases e : x = i
              · subst e; rw [st_self]
              · rw [st_ne _ _ (by omega)]; exact h2 x (by omega)
          obtain ⟨A, a1, a2, a3⟩ := l17 40 0 300 (stF (stF F 12 s (nI f)) 13 s (nI n)) (by omega) (by omega) (fun _ _ => rfl) (fun x hx => by omega)
          have l59 : ∀ d i g H, i + d = 40 → d < g → (∀ c, c ≠ 112 → H c = stF (stF (stF A 109 s 1) 110 s (nI f)) 111 s (nI n) c) → (∀ x, x < i → H 112 (40 * s + x) = 0) → (∀ x, (x < 40 * s ∨ 40 * s + 40 ≤ x) → H 112 x = F 112 x) → ∃ H1, m_X12_sheet_97_L59 (nI s) g (nI i) H = some H1 ∧ (∀ c, c ≠ 112 → H1 c = stF (stF (stF A 109 s 1) 110 s (nI f)) 111 s (nI n) c) ∧ (∀ x, x < 40 → H1 112 (40 * s + x) = 0) ∧ (∀ x, (x < 40 * s ∨ 40 * s + 40 ≤ x) → H1 112 x = F 112 x) := by
            intro d
            induction d with
            | zero =>
              intro i g H h hf h1 h2 h3
              obtain ⟨g, rfl⟩ : ∃ m, g = m + 1 := ⟨g - 1, by omega⟩
              obtain rfl : i = 40 := by omega
              rw [m_X12_sheet_97_L59, if_pos (show (40 : Int32) ≤ nI 40 by decide)]
              exact ⟨H, rfl, h1, h2, h3⟩
            | succ d ih =>
              intro i g H h hf h1 h2 h3
              obtain ⟨g, rfl⟩ : ∃ m, g = m + 1 := ⟨g - 1, by omega⟩
              rw [m_X12_sheet_97_L59, if_neg (show ¬ (40 : Int32) ≤ nI i from nI_ge (b := 40) (by omega) (by omega)), show ((40 : Int32) * nI s) + nI i = nI (40 * s + i) by rw [show (40 : Int32) = nI 40 from rfl, pk_mul, nI_add], zi_wr (q := 112) (40 * s + i) rfl (show _ < 160 by omega), zb_some, zb_mlet, nI_1]
              refine ih (i + 1) g _ (by omega) (by omega) (fun c hc => (st_cell _ _ _ hc).trans (h1 c hc)) (fun x hx => ?_) (fun x hx => ?_)
              · by_cases e : x = i
                · subst e; rw [st_self]
                · rw [st_ne _ _ (by omega)]; exact h2 x (by omega)
              · rw [st_ne _ _ (by omega)]; exact h3 x hx
          have Ac : ∀ c, c ≠ 8 + s → c ≠ 12 → c ≠ 13 → A c = F c := fun c h1 h2 h3 => by rw [a2 c h1, st_cell _ _ _ h3, st_cell _ _ _ h2]
          obtain ⟨B, b1, b2, b3, b4⟩ := l59 40 0 300 (stF (stF (stF A 109 s 1) 110 s (nI f)) 111 s (nI n)) (by omega) (by omega) (fun _ _ => rfl) (fun x hx => by omega) (fun x hx => by rw [st_cell _ _ _ (by decide), st_cell _ _ _ (by decide), st_cell _ _ _ (by decide), Ac 112 (by omega) (by decide) (by decide)])
          have Bc : ∀ c, c ≠ 109 → c ≠ 110 → c ≠ 111 → c ≠ 112 → B c = A c := fun c h1 h2 h3 h4 => by rw [b2 c h4, st_cell _ _ _ h3, st_cell _ _ _ h2, st_cell _ _ _ h1]
          refine ⟨nI n, A, B, ?_, ?_, sp_INV_sh hI (fun c hc => ?_) ?_ ?_ ?_ ⟨?_, fun u hu => ?_⟩⟩
          · unfold m_X11_sheet_0 m_X8_renew_6
            rw [zi_shC, if_pos q, zb_some, if_neg (show ¬ (1 : Int32) = 0 by decide), zi_foC, if_pos q2, zb_some, if_neg (show ¬ (1 : Int32) = 0 by decide), if_pos q3, if_pos q4, zi_wr (q := 12) s rfl (show s < 4 by omega), zb_some, zi_wr (q := 13) s rfl (show s < 4 by omega), zb_some, show m_X8_renew_6_L17 (nI s) 300 (0 : Int32) _ = some A from a1, zb_bd1, zb_some]
          · unfold m_X12_sheet_97
            rw [zi_shR, if_pos q, zb_some, if_neg (show ¬ (1 : Int32) = 0 by decide), pb_in, if_pos q2, zb_some, if_neg (show ¬ (1 : Int32) = 0 by decide), if_pos q3, if_pos q4, pb_zst (by omega) (.inr rfl), zb_some, zi_wr (q := 110) s rfl (show s < 4 by omega), zb_some, zi_wr (q := 111) s rfl (show s < 4 by omega), zb_some, show m_X12_sheet_97_L59 (nI s) 300 (0 : Int32) _ = some B from b1, zb_bd1]
          · rw [Bc c (by omega) (by omega) (by omega) (by omega)]; exact Ac c (by omega) (by omega) (by omega)
          · rw [Bc 97 (by decide) (by decide) (by decide) (by decide), Ac 97 (by omega) (by decide) (by decide)]
          · rw [Bc 97 (by decide) (by decide) (by decide) (by decide), Ac 97 (by omega) (by decide) (by decide)]
          · rw [Bc 97 (by decide) (by decide) (by decide) (by decide), Ac 97 (by omega) (by decide) (by decide)]
          · rw [Bc 97 (by decide) (by decide) (by decide) (by decide), Ac 97 (by omega) (by decide) (by decide), Bc 6 (by decide) (by decide) (by decide) (by decide), Ac 6 (by omega) (by decide) (by decide)]
            obtain ⟨_, _, _, _, _, -, -, -, -, hs⟩ := hI
            exact hs.1
          · obtain ⟨_, _, _, _, _, -, -, -, -, hs⟩ := hI
            by_cases e : u = s
            · subst e
              refine .inr ⟨?_, ⟨f, by omega, ?_, ?_⟩, ⟨n, hn40, ?_, ?_⟩, fun i hi => ?_⟩
              · rw [b2 109 (by decide), st_cell _ _ _ (by decide), st_cell _ _ _ (by decide), st_self]
              · rw [Bc 12 (by decide) (by decide) (by decide) (by decide), a2 12 (by omega), st_cell _ _ _ (by decide), st_self]
              · rw [b2 110 (by decide), st_cell _ _ _ (by decide), st_self]
              · rw [Bc 13 (by decide) (by decide) (by decide) (by decide), a2 13 (by omega), st_self]
              · rw [b2 111 (by decide), st_self]
              · rw [Bc (8 + u) (by omega) (by omega) (by omega) (by omega), a3 i hi, b3 i hi]
            · refine sp_s1h_st (s := s) (hs.2 u hu) e (fun i hi => ?_) ?_ ?_ ?_ ?_ ?_ (fun i hi => ?_)
              · rw [Bc (8 + u) (by omega) (by omega) (by omega) (by omega), Ac (8 + u) (by omega) (by omega) (by omega)]
              · rw [Bc 12 (by decide) (by decide) (by decide) (by decide), a2 12 (by omega), st_cell _ _ _ (by decide), st_ne _ _ (by omega)]
              · rw [Bc 13 (by decide) (by decide) (by decide) (by decide), a2 13 (by omega), st_ne _ _ (by omega), st_cell _ _ _ (by decide)]
              · rw [b2 109 (by decide), st_cell _ _ _ (by decide), st_cell _ _ _ (by decide), st_ne _ _ (by omega), Ac 109 (by omega) (by decide) (by decide)]
              · rw [b2 110 (by decide), st_cell _ _ _ (by decide), st_ne _ _ (by omega), st_cell _ _ _ (by decide), Ac 110 (by omega) (by decide) (by decide)]
              · rw [b2 111 (by decide), st_ne _ _ (by omega), st_cell _ _ _ (by decide), st_cell _ _ _ (by decide), Ac 111 (by omega) (by decide) (by decide)]
              · exact b4 _ (by omega)
        · obtain ⟨f1, f2, f3⟩ := fnd hI 5
          refine ⟨-10 - 5, stF F 6 3 5, stF (stF F 6 3 5) 97 28 5, ?_, ?_, f3⟩
          · unfold m_X11_sheet_0
            rw [zi_shC, if_pos q, zb_some, if_neg (show ¬ (1 : Int32) = 0 by decide), zi_foC, if_pos q2, zb_some, if_neg (show ¬ (1 : Int32) = 0 by decide), if_pos q3, if_neg q4, f1, zb_bd2]
          · unfold m_X12_sheet_97
            rw [zi_shR, if_pos q, zb_some, if_neg (show ¬ (1 : Int32) = 0 by decide), pb_in, if_pos q2, zb_some, if_neg (show ¬ (1 : Int32) = 0 by decide), if_pos q3, if_neg q4, f2, zb_bd2]
      · refine ⟨-2, F, F, ?_, ?_, hI⟩
        · unfold m_X11_sheet_0
          rw [zi_shC, if_pos q, zb_some, if_neg (show ¬ (1 : Int32) = 0 by decide), zi_foC, if_pos q2, zb_some, if_neg (show ¬ (1 : Int32) = 0 by decide), if_neg q3]
        · unfold m_X12_sheet_97
          rw [zi_shR, if_pos q, zb_some, if_neg (show ¬ (1 : Int32) = 0 by decide), pb_in, if_pos q2, zb_some, if_neg (show ¬ (1 : Int32) = 0 by decide), if_neg q3]
    · refine ⟨-2, F, F, ?_, ?_, hI⟩
      · unfold m_X11_sheet_0
        rw [zi_shC, if_pos q, zb_some, if_neg (show ¬ (1 : Int32) = 0 by decide), zi_foC, if_neg q2, zb_some, if_pos rfl]
      · unfold m_X12_sheet_97
        rw [zi_shR, if_pos q, zb_some, if_neg (show ¬ (1 : Int32) = 0 by decide), pb_in, if_neg q2, zb_some, if_pos rfl]
  · refine ⟨-2, F, F, ?_, ?_, hI⟩
    · unfold m_X11_sheet_0
      rw [zi_shC, if_neg q, zb_some, if_pos rfl]
    · unfold m_X12_sheet_97
      rw [zi_shR, if_neg q, zb_some, if_pos rfl]
theorem S19 : lw_S19 sp_INV := by
  intro F a1 hI
  by_cases q : (0 : Int32) ≤ a1 ∧ a1 ≤ (3 : Int32)
  · obtain ⟨s, -, hs3, rfl⟩ := (pb_range (a := a1) (lo := 0) (hi := 3) (by omega) (by omega)).mp q
    have hs := hI
    obtain ⟨_, _, _, _, _, -, -, -, -, hs⟩ := hs
    have h0 := hs.2 s (by omega)
    have elo := zi_lost h0 (by omega)
    rcases h0 with ⟨l12, l109⟩ | ⟨p109, ⟨f, hf, e12, e110⟩, ⟨n, hn40, e13, e111⟩, hit⟩
    · obtain ⟨f1, f2, f3⟩ := fnd hI 1
      refine ⟨-10 - 1, stF F 6 3 1, stF (stF F 6 3 1) 97 28 1, ?_, ?_, f3⟩
      · unfold m_X11_lose_0
        rw [zi_shC, if_pos q, zb_some, if_neg (show ¬ (1 : Int32) = 0 by decide), elo, if_pos l12, zb_some, if_neg (show ¬ (1 : Int32) = 0 by decide), f1, zb_bd2]
      · unfold m_X12_lose_97
        rw [zi_shR, if_pos q, zb_some, if_neg (show ¬ (1 : Int32) = 0 by decide), pb_zld (by omega), zb_some, st_cell _ _ _ (by decide), l109, if_pos rfl, f2, zb_bd2]
    · have ne : ¬ F 12 s = -1 := by rw [e12]; exact zi_m1 (by omega)
      refine ⟨nI n, stF (stF F 12 s (-1)) 13 s 0, stF (stF (stF F 12 s (-1)) 13 s 0) 109 s 0, ?_, ?_, sp_INV_sh hI (fun c hc => ?_) ?_ ?_ ?_ ⟨?_, fun u hu => ?_⟩⟩
      · unfold m_X11_lose_0 m_X8_drop_6
        rw [zi_shC, if_pos q, zb_some, if_neg (show ¬ (1 : Int32) = 0 by decide), elo, if_neg ne, zb_some, if_pos rfl, zi_rd s rfl e13 (show s < 4 by omega), zb_some, zi_wr (q := 12) s rfl (show s < 4 by omega), zb_some, zi_wr (q := 13) s rfl (show s < 4 by omega), zb_some, zb_some]
      · unfold m_X12_lose_97
        rw [zi_shR, if_pos q, zb_some, if_neg (show ¬ (1 : Int32) = 0 by decide), pb_zld (by omega), zb_some, st_cell _ _ _ (by decide), st_cell _ _ _ (by decide), p109, if_neg (show ¬ (1 : Int32) = 0 by decide), pb_zst (by omega) (.inl rfl), zb_some, zi_rd s rfl (show stF (stF (stF F 12 s (-1)) 13 s 0) 109 s 0 111 s = nI n by rw [st_cell _ _ _ (by decide), st_cell _ _ _ (by decide), st_cell _ _ _ (by decide)]; exact e111) (show s < 4 by omega), zb_some]
      · rw [st_cell _ _ _ (by omega), st_cell _ _ _ (by omega), st_cell _ _ _ (by omega)]
      · rw [st_cell _ _ _ (by decide), st_cell _ _ _ (by decide), st_cell _ _ _ (by decide)]
      · rw [st_cell _ _ _ (by decide), st_cell _ _ _ (by decide), st_cell _ _ _ (by decide)]
      · rw [st_cell _ _ _ (by decide), st_cell _ _ _ (by decide), st_cell _ _ _ (by decide)]
      · rw [st_cell _ _ _ (by decide), st_cell _ _ _ (by decide), st_cell _ _ _ (by decide), st_cell _ _ _ (by decide), st_cell _ _ _ (by decide), st_cell _ _ _ (by decide)]
        exact hs.1
      · by_cases e : u = s
        · subst e
          refine .inl ⟨?_, ?_⟩
          · rw [st_cell _ _ _ (by decide), st_cell _ _ _ (by decide), st_self]
          · rw [st_self]
        · refine sp_s1h_st (s := s) (hs.2 u hu) e (fun i hi => ?_) ?_ ?_ ?_ ?_ ?_ (fun i hi => ?_)
          · rw [st_cell _ _ _ (by omega), st_cell _ _ _ (by omega), st_cell _ _ _ (by omega)]
          · rw [st_cell _ _ _ (by decide), st_cell _ _ _ (by decide), st_ne _ _ (by omega)]
          · rw [st_cell _ _ _ (by decide), st_ne _ _ (by omega), st_cell _ _ _ (by decide)]
          · rw [st_ne _ _ (by omega), st_cell _ _ _ (by decide), st_cell _ _ _ (by decide)]
          · rw [st_cell _ _ _ (by decide), st_cell _ _ _ (by decide), st_cell _ _ _ (by decide)]
          · rw [st_cell _ _ _ (by decide), st_cell _ _ _ (by decide), st_cell _ _ _ (by decide)]
          · rw [st_cell _ _ _ (by decide), st_cell _ _ _ (by decide), st_cell _ _ _ (by decide)]
  · refine ⟨-2, F, F, ?_, ?_, hI⟩
    · unfold m_X11_lose_0
      rw [zi_shC, if_neg q, zb_some, if_pos rfl]
    · unfold m_X12_lose_97
      rw [zi_shR, if_neg q, zb_some, if_pos rfl]
/-- what an item's call meets: nothing, or a finding -/
theorem itm {F : mmS} (hI : sp_INV F) {s f : Nat} {a3 : Int32} (hs3 : s ≤ 3) (hf2 : f ≤ 2) : (∃ v, (v = 1 ∨ v = 2 ∨ v = 3) ∧ m_X11_itemRefusal_0 F (nI s) (nI f) a3 = some (-10 - v, stF F 6 3 v) ∧ m_X12_lacks_97 (stF F 6 3 v) (nI s) (nI f) a3 = some v) ∨ (∃ n j, m_X11_itemRefusal_0 F (nI s) (nI f) a3 = some (0, F) ∧ m_X12_lacks_97 F (nI s) (nI f) a3 = some 0 ∧ F 12 s = nI f ∧ a3 = nI j ∧ j < n ∧ n ≤ 40 ∧ F 109 s = 1 ∧ F 110 s = nI f ∧ F 13 s = nI n ∧ F 111 s = nI n ∧ (∀ i, i < 40 → F (8 + s) i = F 112 (40 * s + i)) ∧ (∀ H : mmS, H 109 = F 109 → H 110 = F 110 → H 111 = F 111 → m_X12_lacks_97 H (nI s) (nI f) a3 = some 0)) := by
  have hs := hI
  obtain ⟨_, _, _, _, _, -, -, -, -, hs⟩ := hs
  have h0 := hs.2 s (by omega)
  have elo := zi_lost h0 (by omega)
  have q : (0 : Int32) ≤ nI s ∧ nI s ≤ (3 : Int32) := ⟨nI_pos' (by omega), nI_le (b := 3) hs3 (by omega)⟩
  have q2 : (0 : Int32) ≤ nI f ∧ nI f ≤ (2 : Int32) := ⟨nI_pos' (by omega), nI_le (b := 2) hf2 (by omega)⟩
  have fd : ∀ v, m_X8_found_6 F v = some (-10 - v, stF F 6 3 v) := fun v => (fnd hI v).1
  have pre : ∀ r, (Option.bind (m_X8_isLost_6 F (nI s)) fun x3 => if x3 = (0 : Int32) then (Option.bind (ald F 12 (nI s)) fun x4 => if x4 = nI f then (Option.bind (m_X8_hasItems_6 F (nI s) a3 (1 : Int32)) fun x5 => if x5 = (0 : Int32) then (bd2 (m_X8_found_6 F (2 : Int32)) fun x6 G7 => some (x6, G7)) else (some ((0 : Int32), F))) else (bd2 (m_X8_found_6 F (3 : Int32)) fun x8 G9 => some (x8, G9))) else (bd2 (m_X8_found_6 F (1 : Int32)) fun x10 G11 => some (x10, G11))) = r → m_X11_itemRefusal_0 F (nI s) (nI f) a3 = r := by
    intro r h
    unfold m_X11_itemRefusal_0
    rw [zi_shC, if_pos q, zb_some, if_neg (show ¬ (1 : Int32) = 0 by decide), zi_foC, if_pos q2, zb_some, if_neg (show ¬ (1 : Int32) = 0 by decide)]
    exact h
  rcases h0 with ⟨l12, l109⟩ | ⟨p109, ⟨g, hg, e12, e110⟩, ⟨n, hn40, e13, e111⟩, hit⟩
  · refine .inl ⟨1, .inl rfl, pre _ ?_, ?_⟩
    · rw [elo, if_pos l12, zb_some, if_neg (show ¬ (1 : Int32) = 0 by decide), fd, zb_bd2]
    · unfold m_X12_lacks_97
      rw [pb_zld (by omega), zb_some, st_cell _ _ _ (by decide), l109, if_pos rfl]
  · have ne : ¬ F 12 s = -1 := by rw [e12]; exact zi_m1 (by omega)
    rw [if_neg ne] at elo
    by_cases eg : g = f
    · subst eg
      have hasI : m_X8_hasItems_6 F (nI s) a3 1 = some (if (0 : Int32) ≤ a3 ∧ a3 ≤ nI n - 1 then 1 else 0) := by
        unfold m_X8_hasItems_6
        by_cases z : a3 < 0
        · rw [if_pos z, if_neg (fun h => by have := Int32.not_lt.mpr h.1; exact this z)]
          rfl
        · rw [if_neg z, if_neg (show ¬ (1 : Int32) < 0 by decide), zi_rd s rfl e13 (show s < 4 by omega), zb_some]
          by_cases z2 : nI n - 1 < a3
          · rw [if_pos z2, if_neg (fun h => by have := Int32.not_lt.mpr h.2; exact this z2)]
            rfl
          · rw [if_neg z2, if_pos ⟨Int32.not_lt.mp z, Int32.not_lt.mp z2⟩]
            rfl
      have lk : ∀ H : mmS, H 109 = F 109 → H 110 = F 110 → H 111 = F 111 → m_X12_lacks_97 H (nI s) (nI g) a3 = some (if (0 : Int32) ≤ a3 ∧ a3 ≤ nI n - 1 then 0 else 2) := by
        intro H h9 h10 h11
        unfold m_X12_lacks_97
        rw [pb_zld (by omega), zb_some, h9, p109, if_neg (show ¬ (1 : Int32) = 0 by decide), zi_rd s rfl (show H 110 s = nI g by rw [h10]; exact e110) (show s < 4 by omega), zb_some, if_pos rfl, zi_rd s rfl (show H 111 s = nI n by rw [h11]; exact e111) (show s < 4 by omega), zb_some, pb_in, zb_some]
        split
        · rw [if_neg (show ¬ (1 : Int32) = 0 by decide)]
        · rw [if_pos rfl]
      by_cases z : (0 : Int32) ≤ a3 ∧ a3 ≤ nI n - 1
      · have hn1 : 1 ≤ n := by
          apply Classical.byContradiction
          intro hc
          obtain rfl : n = 0 := by omega
          have h1 : (0 : Int32) ≤ nI 0 - 1 := Int32.le_trans z.1 z.2
          exact absurd h1 (by decide)
        rw [zi_pred hn1] at z
        obtain ⟨j, -, hj, rfl⟩ := (pb_range (a := a3) (lo := 0) (hi := n - 1) (by omega) (by omega)).mp z
        rw [zi_pred hn1, if_pos z] at hasI
        refine .inr ⟨n, j, pre _ ?_, ?_, e12, rfl, by omega, hn40, p109, e110, e13, e111, hit, ?_⟩
        · rw [elo, zb_some, if_pos rfl, zi_rd s rfl e12 (show s < 4 by omega), zb_some, if_pos rfl, hasI, zb_some, if_neg (show ¬ (1 : Int32) = 0 by decide)]
        · rw [lk F rfl rfl rfl, zi_pred hn1, if_pos z]
        · intro H h9 h10 h11
          rw [lk H h9 h10 h11, zi_pred hn1, if_pos z]
      · rw [if_neg z] at hasI
        refine .inl ⟨2, .inr (.inl rfl), pre _ ?_, ?_⟩
        · rw [elo, zb_some, if_pos rfl, zi_rd s rfl e12 (show s < 4 by omega), zb_some, if_pos rfl, hasI, zb_some, if_pos rfl, fd, zb_bd2]
        · rw [lk _ (st_cell _ _ _ (by decide)) (st_cell _ _ _ (by decide)) (st_cell _ _ _ (by decide)), if_neg z]
    · have ng : ¬ nI g = nI f := fun h => eg ((nI_eq (by omega) (by omega)).mp h)
      refine .inl ⟨3, .inr (.inr rfl), pre _ ?_, ?_⟩
      · rw [elo, zb_some, if_pos rfl, zi_rd s rfl e12 (show s < 4 by omega), zb_some, if_neg ng, fd, zb_bd2]
      · unfold m_X12_lacks_97
        rw [pb_zld (by omega), zb_some, st_cell _ _ _ (by decide), p109, if_neg (show ¬ (1 : Int32) = 0 by decide), zi_rd s rfl (show stF F 6 3 3 110 s = nI g by rw [st_cell _ _ _ (by decide)]; exact e110) (show s < 4 by omega), zb_some, if_neg ng]
theorem S20 : lw_S20 sp_INV := by
  intro F a1 a2 a3 a4 hI
  by_cases q : (0 : Int32) ≤ a1 ∧ a1 ≤ (3 : Int32)
  · by_cases q2 : (0 : Int32) ≤ a2 ∧ a2 ≤ (2 : Int32)
    · obtain ⟨s, -, hs3, rfl⟩ := (pb_range (a := a1) (lo := 0) (hi := 3) (by omega) (by omega)).mp q
      obtain ⟨f, -, hf2, rfl⟩ := (pb_range (a := a2) (lo := 0) (hi := 2) (by omega) (by omega)).mp q2
      rcases itm (a3 := a3) hI hs3 hf2 with ⟨v, hv, i1, i2⟩ | ⟨n, j, i1, i2, e12, rfl, hj, hn40, p109, e110, e13, e111, hit, lk⟩
      · obtain ⟨f1, f2, f3⟩ := fnd hI v
        have nz : ¬ (-10 - v) = (0 : Int32) := by rcases hv with rfl | rfl | rfl <;> decide
        have np : ¬ v ≤ (0 : Int32) := by rcases hv with rfl | rfl | rfl <;> decide
        refine ⟨-10 - v, stF F 6 3 v, stF (stF F 6 3 v) 97 28 v, ?_, ?_, f3⟩
        · unfold m_X11_put_0
          rw [i1, zb_bd2, if_neg nz]
        · unfold m_X12_put_97
          rw [zi_shR, if_pos q, zb_some, if_neg (show ¬ (1 : Int32) = 0 by decide), pb_in, if_pos q2, zb_some, if_neg (show ¬ (1 : Int32) = 0 by decide), i2, zb_some, if_neg np, f2, zb_bd2]
      · have hs := hI
        obtain ⟨_, _, _, _, _, -, -, -, -, hs⟩ := hs
        have hcut : ∃ w, m_X8_cut (nI f) a4 = some w ∧ (if nI f = (0 : Int32) then (some (a4.toInt8.toInt32)) else (if nI f = (1 : Int32) then (some (a4.toInt16.toInt32)) else (some (a4)))) = some w := by
          unfold m_X8_cut
          rcases (by omega : f = 0 ∨ f = 1 ∨ f = 2) with rfl | rfl | rfl
          · exact ⟨_, rfl, rfl⟩
          · exact ⟨_, rfl, rfl⟩
          · exact ⟨_, rfl, rfl⟩
        obtain ⟨w, w1, w2⟩ := hcut
        refine ⟨1, stF F (8 + s) j w, stF (stF F (8 + s) j w) 112 (40 * s + j) w, ?_, ?_, sp_INV_sh hI (fun c hc => ?_) ?_ ?_ ?_ ⟨?_, fun u hu => ?_⟩⟩
        · unfold m_X11_put_0 m_X8_write_6
          rw [i1, zb_bd2, if_pos rfl, show rld 7 (nI s) = some (8 + s) from pb_rld (q := 7) (show s < 4 by omega) (by decide), zb_some, zi_rd s rfl e12 (show s < 4 by omega), zb_some, w1, zb_some, zi_wr (q := 8 + s) j rfl (by rw [(show ∀ s, s < 4 → mm_len (8 + s) = 40 by decide) s (by omega)]; omega), zb_some, zb_some]
        · unfold m_X12_put_97
          rw [zi_shR, if_pos q, zb_some, if_neg (show ¬ (1 : Int32) = 0 by decide), pb_in, if_pos q2, zb_some, if_neg (show ¬ (1 : Int32) = 0 by decide), lk _ (st_cell _ _ _ (by omega)) (st_cell _ _ _ (by omega)) (st_cell _ _ _ (by omega)), zb_some, if_pos (show (0 : Int32) ≤ 0 by decide), w2, zb_bd1, show ((40 : Int32) * nI s) + nI j = nI (40 * s + j) by rw [show (40 : Int32) = nI 40 from rfl, pk_mul, nI_add], zi_wr (q := 112) (40 * s + j) rfl (show _ < 160 by omega), zb_some]
        · rw [st_cell _ _ _ (by omega), st_cell _ _ _ (by omega)]
        · rw [st_cell _ _ _ (by decide), st_cell _ _ _ (by omega)]
        · rw [st_cell _ _ _ (by decide), st_cell _ _ _ (by omega)]
        · rw [st_cell _ _ _ (by decide), st_cell _ _ _ (by omega)]
        · rw [st_cell _ _ _ (by decide), st_cell _ _ _ (by omega), st_cell _ _ _ (by decide), st_cell _ _ _ (by omega)]
          exact hs.1
        · by_cases e : u = s
          · subst e
            refine .inr ⟨?_, ⟨f, by omega, ?_, ?_⟩, ⟨n, hn40, ?_, ?_⟩, fun i hi => ?_⟩
            · rw [st_cell _ _ _ (by decide), st_cell _ _ _ (by omega)]; exact p109
            · rw [st_cell _ _ _ (by decide), st_cell _ _ _ (by omega)]; exact e12
            · rw [st_cell _ _ _ (by decide), st_cell _ _ _ (by omega)]; exact e110
            · rw [st_cell _ _ _ (by decide), st_cell _ _ _ (by omega)]; exact e13
            · rw [st_cell _ _ _ (by decide), st_cell _ _ _ (by omega)]; exact e111
            · by_cases e2 : i = j
              · subst e2
                rw [st_cell _ _ _ (by omega), st_self, st_self]
              · rw [st_cell _ _ _ (by omega), st_ne _ _ (by omega), st_ne _ _ (by omega), st_cell _ _ _ (by omega)]
                exact hit i hi
          · refine sp_s1h_st (s := s) (hs.2 u hu) e (fun i hi => ?_) ?_ ?_ ?_ ?_ ?_ (fun i hi => ?_)
            · rw [st_cell _ _ _ (by omega), st_cell _ _ _ (by omega)]
            · rw [st_cell _ _ _ (by decide), st_cell _ _ _ (by omega)]
            · rw [st_cell _ _ _ (by decide), st_cell _ _ _ (by omega)]
            · rw [st_cell _ _ _ (by decide), st_cell _ _ _ (by omega)]
            · rw [st_cell _ _ _ (by decide), st_cell _ _ _ (by omega)]
            · rw [st_cell _ _ _ (by decide), st_cell _ _ _ (by omega)]
            · rw [st_ne _ _ (by omega), st_cell _ _ _ (by omega)]
    · refine ⟨-2, F, F, ?_, ?_, hI⟩
      · unfold m_X11_put_0 m_X11_itemRefusal_0
        rw [zi_shC, if_pos q, zb_some, if_neg (show ¬ (1 : Int32) = 0 by decide), zi_foC, if_neg q2, zb_some, if_pos rfl, zb_bd2, if_neg (show ¬ (-2 : Int32) = 0 by decide)]
      · unfold m_X12_put_97
        rw [zi_shR, if_pos q, zb_some, if_neg (show ¬ (1 : Int32) = 0 by decide), pb_in, if_neg q2, zb_some, if_pos rfl]
  · refine ⟨-2, F, F, ?_, ?_, hI⟩
    · unfold m_X11_put_0 m_X11_itemRefusal_0
      rw [zi_shC, if_neg q, zb_some, if_pos rfl, zb_bd2, if_neg (show ¬ (-2 : Int32) = 0 by decide)]
    · unfold m_X12_put_97
      rw [zi_shR, if_neg q, zb_some, if_pos rfl]
theorem S21 : lw_S21 sp_INV := by
  intro F a1 a2 a3 hI
  by_cases q : (0 : Int32) ≤ a1 ∧ a1 ≤ (3 : Int32)
  · by_cases q2 : (0 : Int32) ≤ a2 ∧ a2 ≤ (2 : Int32)
    · obtain ⟨s, -, hs3, rfl⟩ := (pb_range (a := a1) (lo := 0) (hi := 3) (by omega) (by omega)).mp q
      obtain ⟨f, -, hf2, rfl⟩ := (pb_range (a := a2) (lo := 0) (hi := 2) (by omega) (by omega)).mp q2
      rcases itm (a3 := a3) hI hs3 hf2 with ⟨v, hv, i1, i2⟩ | ⟨n, j, i1, i2, e12, rfl, hj, hn40, p109, e110, e13, e111, hit, lk⟩
      · obtain ⟨f1, f2, f3⟩ := fnd hI v
        have nz : ¬ (-10 - v) = (0 : Int32) := by rcases hv with rfl | rfl | rfl <;> decide
        have np : ¬ v ≤ (0 : Int32) := by rcases hv with rfl | rfl | rfl <;> decide
        refine ⟨-2147483648, stF F 6 3 v, stF (stF F 6 3 v) 97 28 v, ?_, ?_, f3⟩
        · unfold m_X11_get_0
          rw [i1, zb_bd2, if_neg nz]
        · unfold m_X12_get_97
          rw [zi_shR, if_pos q, zb_some, if_neg (show ¬ (1 : Int32) = 0 by decide), pb_in, if_pos q2, zb_some, if_neg (show ¬ (1 : Int32) = 0 by decide), i2, zb_some, if_neg np, zb_mlet]
      · refine ⟨F (8 + s) j, F, F, ?_, ?_, hI⟩
        · unfold m_X11_get_0
          rw [i1, zb_bd2, if_pos rfl, show rld 7 (nI s) = some (8 + s) from pb_rld (q := 7) (show s < 4 by omega) (by decide), zb_some, zi_rd j rfl (rfl : F (8 + s) j = F (8 + s) j) (by rw [(show ∀ s, s < 4 → mm_len (8 + s) = 40 by decide) s (by omega)]; omega), zb_some]
        · unfold m_X12_get_97
          rw [zi_shR, if_pos q, zb_some, if_neg (show ¬ (1 : Int32) = 0 by decide), pb_in, if_pos q2, zb_some, if_neg (show ¬ (1 : Int32) = 0 by decide), i2, zb_some, if_pos (show (0 : Int32) ≤ 0 by decide), show ((40 : Int32) * nI s) + nI j = nI (40 * s + j) by rw [show (40 : Int32) = nI 40 from rfl, pk_mul, nI_add], zi_rd (40 * s + j) rfl (hit j (by omega)).symm (show _ < 160 by omega), zb_some]
    · refine ⟨-2147483648, F, F, ?_, ?_, hI⟩
      · unfold m_X11_get_0 m_X11_itemRefusal_0
        rw [zi_shC, if_pos q, zb_some, if_neg (show ¬ (1 : Int32) = 0 by decide), zi_foC, if_neg q2, zb_some, if_pos rfl, zb_bd2, if_neg (show ¬ (-2 : Int32) = 0 by decide)]
      · unfold m_X12_get_97
        rw [zi_shR, if_pos q, zb_some, if_neg (show ¬ (1 : Int32) = 0 by decide), pb_in, if_neg q2, zb_some, if_pos rfl]
  · refine ⟨-2147483648, F, F, ?_, ?_, hI⟩
    · unfold m_X11_get_0 m_X11_itemRefusal_0
      rw [zi_shC, if_neg q, zb_some, if_pos rfl, zb_bd2, if_neg (show ¬ (-2 : Int32) = 0 by decide)]
    · unfold m_X12_get_97
      rw [zi_shR, if_neg q, zb_some, if_pos rfl]
