/-! PURE: copy, hint, count, digest -/
theorem zi_in1 {n i m : Nat} (hn : n ≤ 40) (hi : i < 2 ^ 31) (hm : m < 2 ^ 31) : nI n - nI m < nI i ↔ n < i + m := by
  rw [Int32.lt_iff_toInt_lt, Int32.toInt_sub, nI_toInt (by omega), nI_toInt hm, nI_toInt hi, Int.bmod_eq_of_le (by omega) (by omega)]
  omega
theorem zi_in2 {n i m : Nat} (hn : n ≤ 40) (hi : i < 2 ^ 31) (hm : m < 2 ^ 31) : lg_cmp ((nI i).toInt64 + (nI m).toInt64) (nI n).toInt64 ≤ 0 ↔ i + m ≤ n := by
  rw [lg_cmp_le, nI_l hi, nI_l hm, nI_l (by omega), lN_add, Int64.le_iff_toInt_le, lN_toInt (n := n) (by omega), show (lN (i + m)).toInt = ((i + m : Nat) : Int) from lg_ofNat_toInt (by omega)]
  omega
theorem zi_in3 {n i m : Nat} (hn : n ≤ 40) (hi : i < 2 ^ 31) (hm : m < 2 ^ 31) : 0 < lg_cmp ((nI i).toInt64 + (nI m).toInt64) (nI n).toInt64 ↔ n < i + m := by
  rw [lg_cmp_gt, nI_l hi, nI_l hm, nI_l (by omega), lN_add, Int64.lt_iff_toInt_lt, lN_toInt (n := n) (by omega), show (lN (i + m)).toInt = ((i + m : Nat) : Int) from lg_ofNat_toInt (by omega)]
  omega
theorem zi_hasN {F : mmS} {s : Nat} {a b : Int32} (h : a < 0 ∨ b < 0) : m_X8_hasItems_6 F (nI s) a b = some 0 := by
  unfold m_X8_hasItems_6
  by_cases z : a < 0
  · rw [if_pos z]; rfl
  · rcases h with h | h
    · exact absurd h z
    · rw [if_neg z, if_pos h]; rfl
theorem zi_has {F : mmS} {s n i m : Nat} (hs : s < 4) (e : F 13 s = nI n) (hn : n ≤ 40) (hi : i < 2 ^ 31) (hm : m < 2 ^ 31) : m_X8_hasItems_6 F (nI s) (nI i) (nI m) = some (if n < i + m then 0 else 1) := by
  unfold m_X8_hasItems_6
  rw [if_neg (nI_pos hi), if_neg (nI_pos hm), zi_rd s rfl e (show s < 4 from hs), zb_some]
  by_cases z : n < i + m
  · rw [if_pos ((zi_in1 hn hi hm).mpr z), if_pos z]; rfl
  · rw [if_neg (fun h => z ((zi_in1 hn hi hm).mp h)), if_neg z]; rfl
theorem S22 : lw_S22 sp_INV := by
  intro F a1 a2 a3 a4 a5 hI
  by_cases q : (0 : Int32) ≤ a1 ∧ a1 ≤ (3 : Int32)
  · by_cases q3 : (0 : Int32) ≤ a3 ∧ a3 ≤ (3 : Int32)
    · obtain ⟨s, -, hs3, rfl⟩ := (pb_range (a := a1) (lo := 0) (hi := 3) (by omega) (by omega)).mp q
      obtain ⟨t, -, ht3, rfl⟩ := (pb_range (a := a3) (lo := 0) (hi := 3) (by omega) (by omega)).mp q3
      have hs := hI
      obtain ⟨_, _, _, _, _, -, -, -, -, hs⟩ := hs
      have h0 := hs.2 s (by omega)
      have h1 := hs.2 t (by omega)
      have elo := zi_lost h0 (by omega)
      have elt := zi_lost h1 (by omega)
      have zl : ∀ (H : mmS) (u : Nat), u ≤ 3 → H 109 = F 109 → zld H (nI u) = some (F 109 u) := fun H u hu h => by rw [pb_zld (by omega), h]
      have g9 : ∀ v, stF F 6 3 v 109 = F 109 := fun v => st_cell _ _ _ (by decide)
      rcases h0 with ⟨l12, l109⟩ | ⟨p109, ⟨f, hf, e12, e110⟩, ⟨n, hn40, e13, e111⟩, hit⟩
      · refine ⟨-10 - 1, stF F 6 3 1, stF (stF F 6 3 1) 97 28 1, ?_, ?_, (fnd hI 1).2.2⟩
        · unfold m_X11_copy_0
          rw [zi_shC, if_pos q, zb_some, if_neg (show ¬ (1 : Int32) = 0 by decide), zi_shC, if_pos q3, zb_some, if_neg (show ¬ (1 : Int32) = 0 by decide), elo, if_pos l12, zb_some, if_neg (show ¬ (1 : Int32) = 0 by decide), (fnd hI 1).1, zb_bd2]
        · unfold m_X12_copy_97
          rw [zi_shR, if_pos q, zb_some, if_neg (show ¬ (1 : Int32) = 0 by decide), zi_shR, if_pos q3, zb_some, if_neg (show ¬ (1 : Int32) = 0 by decide), zl _ s hs3 (g9 1), zb_some, l109, if_pos rfl, (fnd hI 1).2.1, zb_bd2]
      · have ne : ¬ F 12 s = -1 := by rw [e12]; exact zi_m1 (by omega)
        rw [if_neg ne] at elo
        rcases h1 with ⟨l12', l109'⟩ | ⟨p109', ⟨f', hf', e12', e110'⟩, ⟨n', hn40', e13', e111'⟩, hit'⟩
        · refine ⟨-10 - 1, stF F 6 3 1, stF (stF F 6 3 1) 97 28 1, ?_, ?_, (fnd hI 1).2.2⟩
          · unfold m_X11_copy_0
            rw [zi_shC, if_pos q, zb_some, if_neg (show ¬ (1 : Int32) = 0 by decide), zi_shC, if_pos q3, zb_some, if_neg (show ¬ (1 : Int32) = 0 by decide), elo, zb_some, if_pos rfl, elt, if_pos l12', zb_some, if_neg (show ¬ (1 : Int32) = 0 by decide), (fnd hI 1).1, zb_bd2]
          · unfold m_X12_copy_97
            rw [zi_shR, if_pos q, zb_some, if_neg (show ¬ (1 : Int32) = 0 by decide), zi_shR, if_pos q3, zb_some, if_neg (show ¬ (1 : Int32) = 0 by decide), zl _ s hs3 (g9 1), zb_some, p109, if_neg (show ¬ (1 : Int32) = 0 by decide), zl _ t ht3 (g9 1), zb_some, l109', if_pos rfl, (fnd hI 1).2.1, zb_bd2]
        · have ne' : ¬ F 12 t = -1 := by rw [e12']; exact zi_m1 (by omega)
          rw [if_neg ne'] at elt
          have r10 : ∀ (H : mmS), H 110 = F 110 → ald H 110 (nI s) = some (nI f) := fun H h => zi_rd s rfl (show H 110 s = nI f by rw [h]; exact e110) (show s < 4 by omega)
          have r10' : ∀ (H : mmS), H 110 = F 110 → ald H 110 (nI t) = some (nI f') := fun H h => zi_rd t rfl (show H 110 t = nI f' by rw [h]; exact e110') (show t < 4 by omega)
          have r11 : ∀ (H : mmS), H 111 = F 111 → ald H 111 (nI s) = some (nI n) := fun H h => zi_rd s rfl (show H 111 s = nI n by rw [h]; exact e111) (show s < 4 by omega)
          have r11' : ∀ (H : mmS), H 111 = F 111 → ald H 111 (nI t) = some (nI n') := fun H h => zi_rd t rfl (show H 111 t = nI n' by rw [h]; exact e111') (show t < 4 by omega)
          have g10 : ∀ v, stF F 6 3 v 110 = F 110 := fun v => st_cell _ _ _ (by decide)
          have g11 : ∀ v, stF F 6 3 v 111 = F 111 := fun v => st_cell _ _ _ (by decide)
          have c12 : ald F 12 (nI s) = some (nI f) := zi_rd s rfl e12 (show s < 4 by omega)
          have c12' : ald F 12 (nI t) = some (nI f') := zi_rd t rfl e12' (show t < 4 by omega)
          by_cases ef : f = f'
          · subst ef
            by_cases z2 : a2 < 0
            · refine ⟨-10 - 2, stF F 6 3 2, stF (stF F 6 3 2) 97 28 2, ?_, ?_, (fnd hI 2).2.2⟩
              · unfold m_X11_copy_0
                rw [zi_shC, if_pos q, zb_some, if_neg (show ¬ (1 : Int32) = 0 by decide), zi_shC, if_pos q3, zb_some, if_neg (show ¬ (1 : Int32) = 0 by decide), elo, zb_some, if_pos rfl, elt, zb_some, if_pos rfl, c12, zb_some, c12', zb_some, if_pos rfl, zi_hasN (.inl z2), zb_some, if_pos rfl, (fnd hI 2).1, zb_bd2]
              · unfold m_X12_copy_97
                rw [zi_shR, if_pos q, zb_some, if_neg (show ¬ (1 : Int32) = 0 by decide), zi_shR, if_pos q3, zb_some, if_neg (show ¬ (1 : Int32) = 0 by decide), zl _ s hs3 (g9 2), zb_some, p109, if_neg (show ¬ (1 : Int32) = 0 by decide), zl _ t ht3 (g9 2), zb_some, p109', if_neg (show ¬ (1 : Int32) = 0 by decide), r10 _ (g10 2), zb_some, r10' _ (g10 2), zb_some, if_pos rfl, if_pos z2, (fnd hI 2).2.1, zb_bd2]
            · by_cases z5 : a5 < 0
              · by_cases z4 : a4 < 0
                · refine ⟨-10 - 2, stF F 6 3 2, stF (stF F 6 3 2) 97 28 2, ?_, ?_, (fnd hI 2).2.2⟩
                  · unfold m_X11_copy_0
                    rw [zi_shC, if_pos q, zb_some, if_neg (show ¬ (1 : Int32) = 0 by decide), zi_shC, if_pos q3, zb_some, if_neg (show ¬ (1 : Int32) = 0 by decide), elo, zb_some, if_pos rfl, elt, zb_some, if_pos rfl, c12, zb_some, c12', zb_some, if_pos rfl, zi_hasN (.inr z5), zb_some, if_pos rfl, (fnd hI 2).1, zb_bd2]
                  · unfold m_X12_copy_97
                    rw [zi_shR, if_pos q, zb_some, if_neg (show ¬ (1 : Int32) = 0 by decide), zi_shR, if_pos q3, zb_some, if_neg (show ¬ (1 : Int32) = 0 by decide), zl _ s hs3 (g9 2), zb_some, p109, if_neg (show ¬ (1 : Int32) = 0 by decide), zl _ t ht3 (g9 2), zb_some, p109', if_neg (show ¬ (1 : Int32) = 0 by decide), r10 _ (g10 2), zb_some, r10' _ (g10 2), zb_some, if_pos rfl, if_neg z2, if_pos z4, (fnd hI 2).2.1, zb_bd2]
                · refine ⟨-10 - 2, stF F 6 3 2, stF (stF F 6 3 2) 97 28 2, ?_, ?_, (fnd hI 2).2.2⟩
                  · unfold m_X11_copy_0
                    rw [zi_shC, if_pos q, zb_some, if_neg (show ¬ (1 : Int32) = 0 by decide), zi_shC, if_pos q3, zb_some, if_neg (show ¬ (1 : Int32) = 0 by decide), elo, zb_some, if_pos rfl, elt, zb_some, if_pos rfl, c12, zb_some, c12', zb_some, if_pos rfl, zi_hasN (.inr z5), zb_some, if_pos rfl, (fnd hI 2).1, zb_bd2]
                  · unfold m_X12_copy_97
                    rw [zi_shR, if_pos q, zb_some, if_neg (show ¬ (1 : Int32) = 0 by decide), zi_shR, if_pos q3, zb_some, if_neg (show ¬ (1 : Int32) = 0 by decide), zl _ s hs3 (g9 2), zb_some, p109, if_neg (show ¬ (1 : Int32) = 0 by decide), zl _ t ht3 (g9 2), zb_some, p109', if_neg (show ¬ (1 : Int32) = 0 by decide), r10 _ (g10 2), zb_some, r10' _ (g10 2), zb_some, if_pos rfl, if_neg z2, if_neg z4, if_pos z5, (fnd hI 2).2.1, zb_bd2]
              · obtain ⟨i, hi, rfl⟩ := nI_of z2
                obtain ⟨m, hm, rfl⟩ := nI_of z5
                by_cases c1 : n < i + m
                · by_cases z4 : a4 < 0
                  · refine ⟨-10 - 2, stF F 6 3 2, stF (stF F 6 3 2) 97 28 2, ?_, ?_, (fnd hI 2).2.2⟩
                    · unfold m_X11_copy_0
                      rw [zi_shC, if_pos q, zb_some, if_neg (show ¬ (1 : Int32) = 0 by decide), zi_shC, if_pos q3, zb_some, if_neg (show ¬ (1 : Int32) = 0 by decide), elo, zb_some, if_pos rfl, elt, zb_some, if_pos rfl, c12, zb_some, c12', zb_some, if_pos rfl, zi_has (by omega) e13 hn40 hi hm, if_pos c1, zb_some, if_pos rfl, (fnd hI 2).1, zb_bd2]
                    · unfold m_X12_copy_97
                      rw [zi_shR, if_pos q, zb_some, if_neg (show ¬ (1 : Int32) = 0 by decide), zi_shR, if_pos q3, zb_some, if_neg (show ¬ (1 : Int32) = 0 by decide), zl _ s hs3 (g9 2), zb_some, p109, if_neg (show ¬ (1 : Int32) = 0 by decide), zl _ t ht3 (g9 2), zb_some, p109', if_neg (show ¬ (1 : Int32) = 0 by decide), r10 _ (g10 2), zb_some, r10' _ (g10 2), zb_some, if_pos rfl, if_neg z2, if_pos z4, (fnd hI 2).2.1, zb_bd2]
                  · refine ⟨-10 - 2, stF F 6 3 2, stF (stF F 6 3 2) 97 28 2, ?_, ?_, (fnd hI 2).2.2⟩
                    · unfold m_X11_copy_0
                      rw [zi_shC, if_pos q, zb_some, if_neg (show ¬ (1 : Int32) = 0 by decide), zi_shC, if_pos q3, zb_some, if_neg (show ¬ (1 : Int32) = 0 by decide), elo, zb_some, if_pos rfl, elt, zb_some, if_pos rfl, c12, zb_some, c12', zb_some, if_pos rfl, zi_has (by omega) e13 hn40 hi hm, if_pos c1, zb_some, if_pos rfl, (fnd hI 2).1, zb_bd2]
                    · unfold m_X12_copy_97
                      rw [zi_shR, if_pos q, zb_some, if_neg (show ¬ (1 : Int32) = 0 by decide), zi_shR, if_pos q3, zb_some, if_neg (show ¬ (1 : Int32) = 0 by decide), zl _ s hs3 (g9 2), zb_some, p109, if_neg (show ¬ (1 : Int32) = 0 by decide), zl _ t ht3 (g9 2), zb_some, p109', if_neg (show ¬ (1 : Int32) = 0 by decide), r10 _ (g10 2), zb_some, r10' _ (g10 2), zb_some, if_pos rfl, if_neg z2, if_neg z4, if_neg z5, r11 _ (g11 2), zb_some, if_pos ((zi_in3 hn40 hi hm).mpr c1), (fnd hI 2).2.1, zb_bd2]
                · by_cases z4 : a4 < 0
                  · refine ⟨-10 - 2, stF F 6 3 2, stF (stF F 6 3 2) 97 28 2, ?_, ?_, (fnd hI 2).2.2⟩
                    · unfold m_X11_copy_0
                      rw [zi_shC, if_pos q, zb_some, if_neg (show ¬ (1 : Int32) = 0 by decide), zi_shC, if_pos q3, zb_some, if_neg (show ¬ (1 : Int32) = 0 by decide), elo, zb_some, if_pos rfl, elt, zb_some, if_pos rfl, c12, zb_some, c12', zb_some, if_pos rfl, zi_has (by omega) e13 hn40 hi hm, if_neg c1, zb_some, if_neg (show ¬ (1 : Int32) = 0 by decide), zi_hasN (.inl z4), zb_some, if_pos rfl, (fnd hI 2).1, zb_bd2]
                    · unfold m_X12_copy_97
                      rw [zi_shR, if_pos q, zb_some, if_neg (show ¬ (1 : Int32) = 0 by decide), zi_shR, if_pos q3, zb_some, if_neg (show ¬ (1 : Int32) = 0 by decide), zl _ s hs3 (g9 2), zb_some, p109, if_neg (show ¬ (1 : Int32) = 0 by decide), zl _ t ht3 (g9 2), zb_some, p109', if_neg (show ¬ (1 : Int32) = 0 by decide), r10 _ (g10 2), zb_some, r10' _ (g10 2), zb_some, if_pos rfl, if_neg z2, if_pos z4, (fnd hI 2).2.1, zb_bd2]
                  · obtain ⟨j, hj, rfl⟩ := nI_of z4
                    by_cases c2 : n' < j + m
                    · refine ⟨-10 - 2, stF F 6 3 2, stF (stF F 6 3 2) 97 28 2, ?_, ?_, (fnd hI 2).2.2⟩
                      · unfold m_X11_copy_0
                        rw [zi_shC, if_pos q, zb_some, if_neg (show ¬ (1 : Int32) = 0 by decide), zi_shC, if_pos q3, zb_some, if_neg (show ¬ (1 : Int32) = 0 by decide), elo, zb_some, if_pos rfl, elt, zb_some, if_pos rfl, c12, zb_some, c12', zb_some, if_pos rfl, zi_has (by omega) e13 hn40 hi hm, if_neg c1, zb_some, if_neg (show ¬ (1 : Int32) = 0 by decide), zi_has (by omega) e13' hn40' hj hm, if_pos c2, zb_some, if_pos rfl, (fnd hI 2).1, zb_bd2]
                      · unfold m_X12_copy_97
                        rw [zi_shR, if_pos q, zb_some, if_neg (show ¬ (1 : Int32) = 0 by decide), zi_shR, if_pos q3, zb_some, if_neg (show ¬ (1 : Int32) = 0 by decide), zl _ s hs3 (g9 2), zb_some, p109, if_neg (show ¬ (1 : Int32) = 0 by decide), zl _ t ht3 (g9 2), zb_some, p109', if_neg (show ¬ (1 : Int32) = 0 by decide), r10 _ (g10 2), zb_some, r10' _ (g10 2), zb_some, if_pos rfl, if_neg z2, if_neg z4, if_neg z5, r11 _ (g11 2), zb_some, if_neg (fun h => c1 ((zi_in3 hn40 hi hm).mp h)), r11' _ (g11 2), zb_some, if_neg (fun h => absurd ((zi_in2 hn40' hj hm).mp h) (by omega)), (fnd hI 2).2.1, zb_bd2]
                    · -- the copy
                      have hl8 : ∀ s, s < 4 → mm_len (8 + s) = 40 := by decide
                      have ecp : mcpy F (8 + s) (nI i) (8 + t) (nI j) (nI m) = some (va_up F (8 + t) (va_cpy (F (8 + s)) (F (8 + t)) i j m)) := by
                        unfold mcpy
                        rw [nI_clamp hi, nI_clamp hj, nI_clamp hm, hl8 s (by omega), hl8 t (by omega), if_neg]
                        rintro (⟨z | z | z⟩ | z | z | z | z)
                        · exact z2 z
                        · exact z4 z
                        · exact z5 z
                        · omega
                        · omega
                        · omega
                        · omega
                      generalize hA : va_up F (8 + t) (va_cpy (F (8 + s)) (F (8 + t)) i j m) = A at ecp
                      have Ac : ∀ c, c ≠ 8 + t → A c = F c := fun c hc => by rw [← hA]; exact if_neg hc
                      have At : ∀ x, A (8 + t) x = if j ≤ x ∧ x < j + m then F (8 + s) (i + (x - j)) else F (8 + t) x := fun x => by
                        rw [← hA]
                        show (if 8 + t = 8 + t then _ else _ : Nat → Int32) x = _
                        rw [if_pos rfl]
                        rfl
                      have l1 : ∀ d x g H, x + d = m → d < g → (∀ c, c ≠ 113 → H c = A c) → (∀ y, y < x → H 113 y = F 112 (40 * s + i + y)) → ∃ H1, m_X12_copy_97_L120 (nI s) (nI i) (nI m) g (nI x) H = some H1 ∧ (∀ c, c ≠ 113 → H1 c = A c) ∧ (∀ y, y < m → H1 113 y = F 112 (40 * s + i + y)) := by
                        intro d
                        induction d with
                        | zero =>
                          intro x g H h hg k1 k2
                          obtain ⟨g, rfl⟩ : ∃ m, g = m + 1 := ⟨g - 1, by omega⟩
                          obtain rfl : x = m := by omega
                          rw [m_X12_copy_97_L120, if_pos (nI_le (by omega) (by omega))]
                          exact ⟨H, rfl, k1, k2⟩
                        | succ d ih =>
                          intro x g H h hg k1 k2
                          obtain ⟨g, rfl⟩ : ∃ m, g = m + 1 := ⟨g - 1, by omega⟩
                          rw [m_X12_copy_97_L120, if_neg (nI_ge (by omega) (by omega)), show (((40 : Int32) * nI s) + nI i) + nI x = nI (40 * s + i + x) by rw [show (40 : Int32) = nI 40 from rfl, pk_mul, nI_add, nI_add], zi_rd (40 * s + i + x) rfl (show H 112 (40 * s + i + x) = F 112 (40 * s + i + x) by rw [k1 112 (by decide), Ac 112 (by omega)]) (show _ < 160 by omega), zb_some, zi_wr (q := 113) x rfl (show x < 40 by omega), zb_some, zb_mlet, nI_1]
                          refine ih (x + 1) g _ (by omega) (by omega) (fun c hc => (st_cell _ _ _ hc).trans (k1 c hc)) (fun y hy => ?_)
                          by_cases e : y = x
                          · subst e; rw [st_self]
                          · rw [st_ne _ _ (by omega)]; exact k2 y (by omega)
                      obtain ⟨B, b1, b2, b3⟩ := l1 m 0 300 A (by omega) (by omega) (fun _ _ => rfl) (fun y hy => by omega)
                      have l2 : ∀ d x g H, x + d = m → d < g → (∀ c, c ≠ 112 → H c = B c) → (∀ y, H 112 y = if 40 * t + j ≤ y ∧ y < 40 * t + j + x then F 112 (40 * s + i + (y - (40 * t + j))) else F 112 y) → ∃ H1, m_X12_copy_97_L157 (nI t) (nI j) (nI m) g (nI x) H = some H1 ∧ (∀ c, c ≠ 112 → H1 c = B c) ∧ (∀ y, H1 112 y = if 40 * t + j ≤ y ∧ y < 40 * t + j + m then F 112 (40 * s + i + (y - (40 * t + j))) else F 112 y) := by
                        intro d
                        induction d with
                        | zero =>
                          intro x g H h hg k1 k2
                          obtain ⟨g, rfl⟩ : ∃ m, g = m + 1 := ⟨g - 1, by omega⟩
                          obtain rfl : x = m := by omega
                          rw [m_X12_copy_97_L157, if_pos (nI_le (by omega) (by omega))]
                          exact ⟨H, rfl, k1, k2⟩
                        | succ d ih =>
                          intro x g H h hg k1 k2
                          obtain ⟨g, rfl⟩ : ∃ m, g = m + 1 := ⟨g - 1, by omega⟩
                          rw [m_X12_copy_97_L157, if_neg (nI_ge (by omega) (by omega)), zi_rd x rfl (show H 113 x = F 112 (40 * s + i + x) by rw [k1 113 (by decide)]; exact b3 x (by omega)) (show x < 40 by omega), zb_some, show (((40 : Int32) * nI t) + nI j) + nI x = nI (40 * t + j + x) by rw [show (40 : Int32) = nI 40 from rfl, pk_mul, nI_add, nI_add], zi_wr (q := 112) (40 * t + j + x) rfl (show _ < 160 by omega), zb_some, zb_mlet, nI_1]
                          refine ih (x + 1) g _ (by omega) (by omega) (fun c hc => (st_cell _ _ _ hc).trans (k1 c hc)) (fun y => ?_)
                          by_cases e : y = 40 * t + j + x
                          · subst e
                            rw [st_self, if_pos (by omega)]
                            congr 1
                            omega
                          · rw [st_ne _ _ (by omega), k2 y]
                            by_cases e2 : 40 * t + j ≤ y ∧ y < 40 * t + j + x
                            · rw [if_pos e2, if_pos (by omega)]
                            · rw [if_neg e2, if_neg (by omega)]
                      obtain ⟨D, d1, d2, d3⟩ := l2 m 0 300 B (by omega) (by omega) (fun _ _ => rfl) (fun y => by rw [if_neg (by omega), b2 112 (by decide), Ac 112 (by omega)])
                      have Dc : ∀ c, c ≠ 112 → c ≠ 113 → D c = A c := fun c k1 k2 => (d2 c k1).trans (b2 c k2)
                      refine ⟨1, A, D, ?_, ?_, sp_INV_sh hI (fun c hc => ?_) ?_ ?_ ?_ ⟨?_, fun u hu => ?_⟩⟩
                      · unfold m_X11_copy_0
                        rw [zi_shC, if_pos q, zb_some, if_neg (show ¬ (1 : Int32) = 0 by decide), zi_shC, if_pos q3, zb_some, if_neg (show ¬ (1 : Int32) = 0 by decide), elo, zb_some, if_pos rfl, elt, zb_some, if_pos rfl, c12, zb_some, c12', zb_some, if_pos rfl, zi_has (by omega) e13 hn40 hi hm, if_neg c1, zb_some, if_neg (show ¬ (1 : Int32) = 0 by decide), zi_has (by omega) e13' hn40' hj hm, if_neg c2, zb_some, if_neg (show ¬ (1 : Int32) = 0 by decide), show rld 7 (nI s) = some (8 + s) from pb_rld (q := 7) (show s < 4 by omega) (by decide), zb_some, show rld 7 (nI t) = some (8 + t) from pb_rld (q := 7) (show t < 4 by omega) (by decide), zb_some, ecp, zb_some]
                      · unfold m_X12_copy_97
                        rw [zi_shR, if_pos q, zb_some, if_neg (show ¬ (1 : Int32) = 0 by decide), zi_shR, if_pos q3, zb_some, if_neg (show ¬ (1 : Int32) = 0 by decide), zl A s hs3 (Ac 109 (by omega)), zb_some, p109, if_neg (show ¬ (1 : Int32) = 0 by decide), zl A t ht3 (Ac 109 (by omega)), zb_some, p109', if_neg (show ¬ (1 : Int32) = 0 by decide), r10 A (Ac 110 (by omega)), zb_some, r10' A (Ac 110 (by omega)), zb_some, if_pos rfl, if_neg z2, if_neg z4, if_neg z5, r11 A (Ac 111 (by omega)), zb_some, if_neg (fun h => c1 ((zi_in3 hn40 hi hm).mp h)), r11' A (Ac 111 (by omega)), zb_some, if_pos ((zi_in2 hn40' hj hm).mpr (by omega)), show m_X12_copy_97_L120 (nI s) (nI i) (nI m) 300 (0 : Int32) A = some B from b1, zb_bd1, show m_X12_copy_97_L157 (nI t) (nI j) (nI m) 300 (0 : Int32) B = some D from d1, zb_bd1]
                      · rw [Dc c (by omega) (by omega), Ac c (by omega)]
                      · rw [Dc 97 (by decide) (by decide), Ac 97 (by omega)]
                      · rw [Dc 97 (by decide) (by decide), Ac 97 (by omega)]
                      · rw [Dc 97 (by decide) (by decide), Ac 97 (by omega)]
                      · rw [Dc 97 (by decide) (by decide), Ac 97 (by omega), Dc 6 (by decide) (by decide), Ac 6 (by omega)]
                        exact hs.1
                      · by_cases e : u = t
                        · subst e
                          refine .inr ⟨?_, ⟨f, by omega, ?_, ?_⟩, ⟨n', hn40', ?_, ?_⟩, fun x hx => ?_⟩
                          · rw [Dc 109 (by decide) (by decide), Ac 109 (by omega)]; exact p109'
                          · rw [Dc 12 (by decide) (by decide), Ac 12 (by omega)]; exact e12'
                          · rw [Dc 110 (by decide) (by decide), Ac 110 (by omega)]; exact e110'
                          · rw [Dc 13 (by decide) (by decide), Ac 13 (by omega)]; exact e13'
                          · rw [Dc 111 (by decide) (by decide), Ac 111 (by omega)]; exact e111'
                          · rw [Dc (8 + u) (by omega) (by omega), At x, d3 (40 * u + x)]
                            by_cases e2 : j ≤ x ∧ x < j + m
                            · rw [if_pos e2, if_pos (by omega), hit (i + (x - j)) (by omega)]
                              congr 1
                              omega
                            · rw [if_neg e2, if_neg (by omega)]
                              exact hit' x hx
                        · refine sp_s1h_st (s := t) (hs.2 u hu) e (fun x hx => ?_) ?_ ?_ ?_ ?_ ?_ (fun x hx => ?_)
                          · rw [Dc (8 + u) (by omega) (by omega), Ac (8 + u) (by omega)]
                          · rw [Dc 12 (by decide) (by decide), Ac 12 (by omega)]
                          · rw [Dc 13 (by decide) (by decide), Ac 13 (by omega)]
                          · rw [Dc 109 (by decide) (by decide), Ac 109 (by omega)]
                          · rw [Dc 110 (by decide) (by decide), Ac 110 (by omega)]
                          · rw [Dc 111 (by decide) (by decide), Ac 111 (by omega)]
                          · rw [d3, if_neg (by omega)]
          · have nf : ¬ nI f = nI f' := fun h => ef ((nI_eq (by omega) (by omega)).mp h)
            refine ⟨-10 - 4, stF F 6 3 4, stF (stF F 6 3 4) 97 28 4, ?_, ?_, (fnd hI 4).2.2⟩
            · unfold m_X11_copy_0
              rw [zi_shC, if_pos q, zb_some, if_neg (show ¬ (1 : Int32) = 0 by decide), zi_shC, if_pos q3, zb_some, if_neg (show ¬ (1 : Int32) = 0 by decide), elo, zb_some, if_pos rfl, elt, zb_some, if_pos rfl, c12, zb_some, c12', zb_some, if_neg nf, (fnd hI 4).1, zb_bd2]
            · unfold m_X12_copy_97
              rw [zi_shR, if_pos q, zb_some, if_neg (show ¬ (1 : Int32) = 0 by decide), zi_shR, if_pos q3, zb_some, if_neg (show ¬ (1 : Int32) = 0 by decide), zl _ s hs3 (g9 4), zb_some, p109, if_neg (show ¬ (1 : Int32) = 0 by decide), zl _ t ht3 (g9 4), zb_some, p109', if_neg (show ¬ (1 : Int32) = 0 by decide), r10 _ (g10 4), zb_some, r10' _ (g10 4), zb_some, if_neg nf, (fnd hI 4).2.1, zb_bd2]
    · refine ⟨-2, F, F, ?_, ?_, hI⟩
      · unfold m_X11_copy_0
        rw [zi_shC, if_pos q, zb_some, if_neg (show ¬ (1 : Int32) = 0 by decide), zi_shC, if_neg q3, zb_some, if_pos rfl]
      · unfold m_X12_copy_97
        rw [zi_shR, if_pos q, zb_some, if_neg (show ¬ (1 : Int32) = 0 by decide), zi_shR, if_neg q3, zb_some, if_pos rfl]
  · refine ⟨-2, F, F, ?_, ?_, hI⟩
    · unfold m_X11_copy_0
      rw [zi_shC, if_neg q, zb_some, if_pos rfl]
    · unfold m_X12_copy_97
      rw [zi_shR, if_neg q, zb_some, if_pos rfl]
/-- how many are kept -/
def sp_kc (F : mmS) : Nat → Nat
  | 0 => 0
  | s + 1 => sp_kc F s + (if F 12 s = -1 then 0 else 1)
theorem kcC {F : mmS} (hs : sp_sh F) : m_X8_keptCount_6 F = some (nI (sp_kc F 4)) := by
  have go : ∀ n s, s < 4 → m_X8_keptCount_6_L4 F (n + 1) (nI (sp_kc F s)) (nI s) = m_X8_keptCount_6_L4 F n (nI (sp_kc F (s + 1))) (nI (s + 1)) := by
    intro n s h4
    rw [m_X8_keptCount_6_L4, if_neg (show ¬ (4 : Int32) ≤ nI s from nI_ge (b := 4) h4 (by omega)), zi_lost (hs.2 s h4) h4, zb_some]
    show _ = m_X8_keptCount_6_L4 F n (nI (sp_kc F s + (if F 12 s = -1 then 0 else 1))) _
    by_cases e : F 12 s = -1
    · rw [if_pos e, if_pos e, if_neg (show ¬ (1 : Int32) = 0 by decide), zb_bd1, zb_mlet, nI_1]
      rfl
    · rw [if_neg e, if_neg e, if_pos rfl, zb_mlet, zb_bd1, zb_mlet, nI_1, nI_1]
  unfold m_X8_keptCount_6
  rw [show m_X8_keptCount_6_L4 F 300 (0 : Int32) (0 : Int32) = m_X8_keptCount_6_L4 F 300 (nI (sp_kc F 0)) (nI 0) from rfl, go 299 0 (by omega), go 298 1 (by omega), go 297 2 (by omega), go 296 3 (by omega), m_X8_keptCount_6_L4, if_pos (show (4 : Int32) ≤ nI (3 + 1) by decide), zb_bd1]
theorem kcR {F : mmS} (hs : sp_sh F) : m_X12_count_97_L58 F 300 0 0 = some (nI (sp_kc F 4)) := by
  have go : ∀ n s, s < 4 → m_X12_count_97_L58 F (n + 1) (nI (sp_kc F s)) (nI s) = m_X12_count_97_L58 F n (nI (sp_kc F (s + 1))) (nI (s + 1)) := by
    intro n s h4
    rw [m_X12_count_97_L58, if_neg (show ¬ (4 : Int32) ≤ nI s from nI_ge (b := 4) h4 (by omega)), pb_zld h4, zb_some]
    show _ = m_X12_count_97_L58 F n (nI (sp_kc F s + (if F 12 s = -1 then 0 else 1))) _
    rcases hs.2 s h4 with ⟨a, b⟩ | ⟨b, ⟨f, hf, e12, -⟩, -⟩
    · rw [b, if_pos rfl, zb_bd1, zb_mlet, zb_mlet, nI_1, if_pos a, li0, nI_add]
    · rw [b, if_neg (show ¬ (1 : Int32) = 0 by decide), zb_bd1, zb_mlet, zb_mlet, nI_1, if_neg (by rw [e12]; exact zi_m1 (by omega)), nI_1]
  rw [show m_X12_count_97_L58 F 300 (0 : Int32) (0 : Int32) = m_X12_count_97_L58 F 300 (nI (sp_kc F 0)) (nI 0) from rfl, go 299 0 (by omega), go 298 1 (by omega), go 297 2 (by omega), go 296 3 (by omega), m_X12_count_97_L58, if_pos (show (4 : Int32) ≤ nI (3 + 1) by decide)]
theorem S24 : lw_S24 sp_INV := by
  intro F a1 hI
  have hI' := hI
  obtain ⟨N, k, G, P, S, hn, hl, hr, hcf, hs⟩ := hI'
  unfold m_X11_count_0 m_X12_count_97
  rw [hl.1, hl.2.1, hl.2.2.1, hr.1, hr.2.1, hr.2.2.1, hs.1, kcC hs, kcR hs, zb_some, zb_bd1]
  by_cases q0 : a1 = 0
  · rw [if_pos q0]; exact ⟨_, rfl, rfl, hI⟩
  · rw [if_neg q0]
    by_cases q1 : a1 = 1
    · rw [if_pos q1]; exact ⟨_, rfl, rfl, hI⟩
    · rw [if_neg q1]
      by_cases q2 : a1 = 2
      · rw [if_pos q2]; exact ⟨_, rfl, rfl, hI⟩
      · rw [if_neg q2]
        by_cases q3 : a1 = 3
        · rw [if_pos q3]; exact ⟨_, rfl, rfl, hI⟩
        · rw [if_neg q3]
          by_cases q4 : a1 = 4
          · rw [if_pos q4]; exact ⟨_, rfl, rfl, hI⟩
          · rw [if_neg q4]; exact ⟨_, rfl, rfl, hI⟩
