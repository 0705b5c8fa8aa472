/-! PURE: goes, work, worst rows -/
theorem sg_0 {N k G n t : Nat} {P S rp : Nat → Nat} {hh : Nat → Int32} {A : mmS} (hn : sp_num N k G P S) (lA : sp_lc N k G P S A) (rA : sp_rw n rp hh A) (cA : sp_cf A) (hok : sp_hok k n hh) (hn40 : n ≤ 40) (hrp : ∀ t, t < n → rp t < N) (ht : t ≤ 39) : ∃ r B, (fun G4 => Option.bind (rld 29 (0 : Int32)) fun q5 => if q5 = 30 then (bd2 (m_X11_sentAt_0_30 G4 (nI t)) fun x6 G7 => some (x6, G7)) else if q5 = 32 then (bd2 (m_X11_sentAt_0_32 G4 (nI t)) fun x8 G9 => some (x8, G9)) else if q5 = 17 then (bd2 (m_X11_sentAt_0_17 G4 (nI t)) fun x10 G11 => some (x10, G11)) else if q5 = 34 then (bd2 (m_X11_sentAt_0_34 G4 (nI t)) fun x12 G13 => some (x12, G13)) else if q5 = 23 then (bd2 (m_X11_sentAt_0_23 G4 (nI t)) fun x14 G15 => some (x14, G15)) else none) A = some (r, B) ∧ sp_fr 14 97 A B ∧ sp_cf B ∧ ∀ C, sp_lr N k G P S C → sp_rr n rp C → sp_hn n hh C → ∃ D, (fun G3 => if (nI t) < (G3 97 5) then (Option.bind (m_X12_runs_97 G3 (0 : Int32) ((nI t) + (1 : Int32))) fun G4 => some ((G4 97 12), G4)) else (some ((-1 : Int32), G3))) C = some (r, D) ∧ sp_fY C D := by
  have cA' := cA
  obtain ⟨c30, c34, c27, c87, ⟨T, U, p1, p2, p3⟩, c91⟩ := cA
  by_cases c : t < n
  · obtain ⟨B, b1, b2, b3, b4⟩ := cl_30 (t := t + 1) hn lA rA hn40 hrp c30 (by omega)
    have em : min (t + 1) n = t + 1 := by omega
    rw [em] at b1 b2
    refine ⟨(sp_R0 k P S rp (t + 1)).2.2, B, ?_, sp_fr_up b4 (by omega) (by omega), ⟨b3, by rw [b4 34 (by omega)]; exact c34, by rw [b4 27 (by omega)]; exact c27, by rw [b4 87 (by omega)]; exact c87, by rw [b4 17 (by omega)]; exact ⟨T, U, p1, p2, p3⟩, by rw [b4 91 (by omega)]; exact c91⟩, fun C lC rC hC => ?_⟩
    · dsimp only
      rw [show rld 29 (0 : Int32) = some 30 from rl29 (j := 0) (by omega), zb_some, if_pos rfl]
      unfold m_X11_sentAt_0_30
      rw [rA.1, if_pos (nI_lt c (by omega)), nI_1, b1, zb_bd2, b2.2.2, zb_bd2]
    · obtain ⟨D, d1, d2, d3⟩ := rn_0 (t := t + 1) hn lC rC hn40 hrp  (by omega)
      rw [em] at d2
      refine ⟨D, ?_, sp_fY_X (sp_fX_S d3)⟩
      dsimp only
      rw [rC.1, if_pos (nI_lt c (by omega)), nI_1, d1, zb_some, d2.2.2]
  · refine ⟨-1, A, ?_, sp_fr_refl _ _ _, cA', fun C lC rC hC => ?_⟩
    · dsimp only
      rw [show rld 29 (0 : Int32) = some 30 from rl29 (j := 0) (by omega), zb_some, if_pos rfl]
      unfold m_X11_sentAt_0_30
      rw [rA.1, if_neg (nI_nlt (by omega) (by omega)), zb_bd2]
    · refine ⟨C, ?_, sp_fY_refl C⟩
      dsimp only
      rw [rC.1, if_neg (nI_nlt (by omega) (by omega))]
theorem sg_2 {N k G n t : Nat} {P S rp : Nat → Nat} {hh : Nat → Int32} {A : mmS} (hn : sp_num N k G P S) (lA : sp_lc N k G P S A) (rA : sp_rw n rp hh A) (cA : sp_cf A) (hok : sp_hok k n hh) (hn40 : n ≤ 40) (hrp : ∀ t, t < n → rp t < N) (ht : t ≤ 39) : ∃ r B, (fun G4 => Option.bind (rld 29 (2 : Int32)) fun q5 => if q5 = 30 then (bd2 (m_X11_sentAt_0_30 G4 (nI t)) fun x6 G7 => some (x6, G7)) else if q5 = 32 then (bd2 (m_X11_sentAt_0_32 G4 (nI t)) fun x8 G9 => some (x8, G9)) else if q5 = 17 then (bd2 (m_X11_sentAt_0_17 G4 (nI t)) fun x10 G11 => some (x10, G11)) else if q5 = 34 then (bd2 (m_X11_sentAt_0_34 G4 (nI t)) fun x12 G13 => some (x12, G13)) else if q5 = 23 then (bd2 (m_X11_sentAt_0_23 G4 (nI t)) fun x14 G15 => some (x14, G15)) else none) A = some (r, B) ∧ sp_fr 14 97 A B ∧ sp_cf B ∧ ∀ C, sp_lr N k G P S C → sp_rr n rp C → sp_hn n hh C → ∃ D, (fun G7 => if (nI t) < (G7 97 5) then (Option.bind (m_X12_runs_97 G7 (2 : Int32) ((nI t) + (1 : Int32))) fun G8 => some ((G8 97 12), G8)) else (some ((-1 : Int32), G7))) C = some (r, D) ∧ sp_fY C D := by
  have cA' := cA
  obtain ⟨c30, c34, c27, c87, ⟨T, U, p1, p2, p3⟩, c91⟩ := cA
  by_cases c : t < n
  · obtain ⟨B, b1, b2, b4⟩ := cl_17 (t := t + 1) hn lA rA hn40 hrp p1 p2 p3 (by omega)
    have em : min (t + 1) n = t + 1 := by omega
    rw [em] at b1 b2
    obtain ⟨u, -, hz⟩ := b2
    obtain ⟨T', U', q1, q2, q3, -⟩ := hz.2.2.2.2.1
    refine ⟨(sp_R2 k P S rp (t + 1)).2.2, B, ?_, sp_fr_up b4 (by omega) (by omega), ⟨by rw [b4 30 (by omega)]; exact c30, by rw [b4 34 (by omega)]; exact c34, by rw [b4 27 (by omega)]; exact c27, by rw [b4 87 (by omega)]; exact c87, ⟨T', U', q1, q2, q3⟩, by rw [b4 91 (by omega)]; exact c91⟩, fun C lC rC hC => ?_⟩
    · dsimp only
      rw [show rld 29 (2 : Int32) = some 17 from rl29 (j := 2) (by omega), zb_some, if_neg (by decide), if_neg (by decide), if_pos rfl]
      unfold m_X11_sentAt_0_17
      rw [rA.1, if_pos (nI_lt c (by omega)), nI_1, b1, zb_bd2, hz.2.1.2.2, zb_bd2]
    · obtain ⟨D, d1, d2⟩ := rn_2 (t := t + 1) hn lC rC hn40 hrp  (by omega)
      rw [em] at d2
      refine ⟨D, ?_, sp_fY_X (sp_fX_W d2.2.2.2)⟩
      dsimp only
      rw [rC.1, if_pos (nI_lt c (by omega)), nI_1, d1, zb_some, d2.1.2.2]
  · refine ⟨-1, A, ?_, sp_fr_refl _ _ _, cA', fun C lC rC hC => ?_⟩
    · dsimp only
      rw [show rld 29 (2 : Int32) = some 17 from rl29 (j := 2) (by omega), zb_some, if_neg (by decide), if_neg (by decide), if_pos rfl]
      unfold m_X11_sentAt_0_17
      rw [rA.1, if_neg (nI_nlt (by omega) (by omega)), zb_bd2]
    · refine ⟨C, ?_, sp_fY_refl C⟩
      dsimp only
      rw [rC.1, if_neg (nI_nlt (by omega) (by omega))]
theorem sg_3 {N k G n t : Nat} {P S rp : Nat → Nat} {hh : Nat → Int32} {A : mmS} (hn : sp_num N k G P S) (lA : sp_lc N k G P S A) (rA : sp_rw n rp hh A) (cA : sp_cf A) (hok : sp_hok k n hh) (hn40 : n ≤ 40) (hrp : ∀ t, t < n → rp t < N) (ht : t ≤ 39) : ∃ r B, (fun G4 => Option.bind (rld 29 (3 : Int32)) fun q5 => if q5 = 30 then (bd2 (m_X11_sentAt_0_30 G4 (nI t)) fun x6 G7 => some (x6, G7)) else if q5 = 32 then (bd2 (m_X11_sentAt_0_32 G4 (nI t)) fun x8 G9 => some (x8, G9)) else if q5 = 17 then (bd2 (m_X11_sentAt_0_17 G4 (nI t)) fun x10 G11 => some (x10, G11)) else if q5 = 34 then (bd2 (m_X11_sentAt_0_34 G4 (nI t)) fun x12 G13 => some (x12, G13)) else if q5 = 23 then (bd2 (m_X11_sentAt_0_23 G4 (nI t)) fun x14 G15 => some (x14, G15)) else none) A = some (r, B) ∧ sp_fr 14 97 A B ∧ sp_cf B ∧ ∀ C, sp_lr N k G P S C → sp_rr n rp C → sp_hn n hh C → ∃ D, (fun G11 => if (nI t) < (G11 97 5) then (Option.bind (m_X12_runs_97 G11 (3 : Int32) ((nI t) + (1 : Int32))) fun G12 => some ((G12 97 12), G12)) else (some ((-1 : Int32), G11))) C = some (r, D) ∧ sp_fY C D := by
  have cA' := cA
  obtain ⟨c30, c34, c27, c87, ⟨T, U, p1, p2, p3⟩, c91⟩ := cA
  by_cases c : t < n
  · obtain ⟨B, b1, b2, b3, b4⟩ := cl_34 (t := t + 1) hn lA rA hn40 hrp hok c34 (by omega)
    have em : min (t + 1) n = t + 1 := by omega
    rw [em] at b1 b2
    refine ⟨(sp_R3 k P S rp hh (t + 1)).2.2, B, ?_, sp_fr_up b4 (by omega) (by omega), ⟨by rw [b4 30 (by omega)]; exact c30, b3, by rw [b4 27 (by omega)]; exact c27, by rw [b4 87 (by omega)]; exact c87, by rw [b4 17 (by omega)]; exact ⟨T, U, p1, p2, p3⟩, by rw [b4 91 (by omega)]; exact c91⟩, fun C lC rC hC => ?_⟩
    · dsimp only
      rw [show rld 29 (3 : Int32) = some 34 from rl29 (j := 3) (by omega), zb_some, if_neg (by decide), if_neg (by decide), if_neg (by decide), if_pos rfl]
      unfold m_X11_sentAt_0_34
      rw [rA.1, if_pos (nI_lt c (by omega)), nI_1, b1, zb_bd2, b2.2.2, zb_bd2]
    · obtain ⟨D, d1, d2, d3⟩ := rn_3 (t := t + 1) hn lC rC hn40 hrp hok hC (by omega)
      rw [em] at d2
      refine ⟨D, ?_, sp_fY_X (sp_fX_S d3)⟩
      dsimp only
      rw [rC.1, if_pos (nI_lt c (by omega)), nI_1, d1, zb_some, d2.2.2]
  · refine ⟨-1, A, ?_, sp_fr_refl _ _ _, cA', fun C lC rC hC => ?_⟩
    · dsimp only
      rw [show rld 29 (3 : Int32) = some 34 from rl29 (j := 3) (by omega), zb_some, if_neg (by decide), if_neg (by decide), if_neg (by decide), if_pos rfl]
      unfold m_X11_sentAt_0_34
      rw [rA.1, if_neg (nI_nlt (by omega) (by omega)), zb_bd2]
    · refine ⟨C, ?_, sp_fY_refl C⟩
      dsimp only
      rw [rC.1, if_neg (nI_nlt (by omega) (by omega))]
theorem S8 : lw_S8 sp_INV := by
  intro F a1 a2 hI
  rcases Classical.em (a1 = 0) with z | z0
  · have dummy : True := trivial
    rcases Or.inl (b := False) z with z | z
    · subst z
      by_cases q : (0 : Int32) ≤ a2 ∧ a2 ≤ (39 : Int32)
      · obtain ⟨t, -, ht, rfl⟩ := (pb_range (a := a2) (lo := 0) (hi := 39) (by omega) (by omega)).mp q
        obtain ⟨r, F1, F2, h1, h2, h3, h4⟩ := rowop hI (fun G4 => Option.bind (rld 29 (0 : Int32)) fun q5 => if q5 = 30 then (bd2 (m_X11_sentAt_0_30 G4 (nI t)) fun x6 G7 => some (x6, G7)) else if q5 = 32 then (bd2 (m_X11_sentAt_0_32 G4 (nI t)) fun x8 G9 => some (x8, G9)) else if q5 = 17 then (bd2 (m_X11_sentAt_0_17 G4 (nI t)) fun x10 G11 => some (x10, G11)) else if q5 = 34 then (bd2 (m_X11_sentAt_0_34 G4 (nI t)) fun x12 G13 => some (x12, G13)) else if q5 = 23 then (bd2 (m_X11_sentAt_0_23 G4 (nI t)) fun x14 G15 => some (x14, G15)) else none) (fun G3 => if (nI t) < (G3 97 5) then (Option.bind (m_X12_runs_97 G3 (0 : Int32) ((nI t) + (1 : Int32))) fun G4 => some ((G4 97 12), G4)) else (some ((-1 : Int32), G3))) (fun N k G P S n rp hh hn hn40 hrp hok e10 e11 A lA rA cA => sg_0 hn lA rA cA hok hn40 hrp ht)
        refine ⟨r, F1, F2, ?_, ?_, h3⟩
        · unfold m_X11_goes_0
          rw [if_pos rfl, zb_bd1, if_neg (show ¬ (1 : Int32) = 0 by decide), pb_within, if_pos q, zb_some, if_neg (show ¬ (1 : Int32) = 0 by decide)]
          exact h1
        · unfold m_X12_goes_97
          rw [if_pos rfl, pb_in, if_pos q, zb_some, if_neg (show ¬ (1 : Int32) = 0 by decide)]
          exact h2
      · refine ⟨-2, F, F, ?_, ?_, hI⟩
        · unfold m_X11_goes_0
          rw [if_pos rfl, zb_bd1, if_neg (show ¬ (1 : Int32) = 0 by decide), pb_within, if_neg q, zb_some, if_pos rfl]
        · unfold m_X12_goes_97
          rw [if_pos rfl, pb_in, if_neg q, zb_some, if_pos rfl]
    · exact absurd z id
  · rcases Classical.em (a1 = 2) with z | z2
    · have dummy : True := trivial
      subst z
      by_cases q : (0 : Int32) ≤ a2 ∧ a2 ≤ (39 : Int32)
      · obtain ⟨t, -, ht, rfl⟩ := (pb_range (a := a2) (lo := 0) (hi := 39) (by omega) (by omega)).mp q
        obtain ⟨r, F1, F2, h1, h2, h3, h4⟩ := rowop hI (fun G4 => Option.bind (rld 29 (2 : Int32)) fun q5 => if q5 = 30 then (bd2 (m_X11_sentAt_0_30 G4 (nI t)) fun x6 G7 => some (x6, G7)) else if q5 = 32 then (bd2 (m_X11_sentAt_0_32 G4 (nI t)) fun x8 G9 => some (x8, G9)) else if q5 = 17 then (bd2 (m_X11_sentAt_0_17 G4 (nI t)) fun x10 G11 => some (x10, G11)) else if q5 = 34 then (bd2 (m_X11_sentAt_0_34 G4 (nI t)) fun x12 G13 => some (x12, G13)) else if q5 = 23 then (bd2 (m_X11_sentAt_0_23 G4 (nI t)) fun x14 G15 => some (x14, G15)) else none) (fun G7 => if (nI t) < (G7 97 5) then (Option.bind (m_X12_runs_97 G7 (2 : Int32) ((nI t) + (1 : Int32))) fun G8 => some ((G8 97 12), G8)) else (some ((-1 : Int32), G7))) (fun N k G P S n rp hh hn hn40 hrp hok e10 e11 A lA rA cA => sg_2 hn lA rA cA hok hn40 hrp ht)
        refine ⟨r, F1, F2, ?_, ?_, h3⟩
        · unfold m_X11_goes_0
          rw [if_neg (show ¬ (2 : Int32) = 0 by decide), if_pos rfl, zb_bd1, if_neg (show ¬ (1 : Int32) = 0 by decide), pb_within, if_pos q, zb_some, if_neg (show ¬ (1 : Int32) = 0 by decide)]
          exact h1
        · unfold m_X12_goes_97
          rw [if_neg (show ¬ (2 : Int32) = 0 by decide), if_pos rfl, pb_in, if_pos q, zb_some, if_neg (show ¬ (1 : Int32) = 0 by decide)]
          exact h2
      · refine ⟨-2, F, F, ?_, ?_, hI⟩
        · unfold m_X11_goes_0
          rw [if_neg (show ¬ (2 : Int32) = 0 by decide), if_pos rfl, zb_bd1, if_neg (show ¬ (1 : Int32) = 0 by decide), pb_within, if_neg q, zb_some, if_pos rfl]
        · unfold m_X12_goes_97
          rw [if_neg (show ¬ (2 : Int32) = 0 by decide), if_pos rfl, pb_in, if_neg q, zb_some, if_pos rfl]
    · rcases Classical.em (a1 = 3) with z | z3
      · have dummy : True := trivial
        subst z
        by_cases q : (0 : Int32) ≤ a2 ∧ a2 ≤ (39 : Int32)
        · obtain ⟨t, -, ht, rfl⟩ := (pb_range (a := a2) (lo := 0) (hi := 39) (by omega) (by omega)).mp q
          obtain ⟨r, F1, F2, h1, h2, h3, h4⟩ := rowop hI (fun G4 => Option.bind (rld 29 (3 : Int32)) fun q5 => if q5 = 30 then (bd2 (m_X11_sentAt_0_30 G4 (nI t)) fun x6 G7 => some (x6, G7)) else if q5 = 32 then (bd2 (m_X11_sentAt_0_32 G4 (nI t)) fun x8 G9 => some (x8, G9)) else if q5 = 17 then (bd2 (m_X11_sentAt_0_17 G4 (nI t)) fun x10 G11 => some (x10, G11)) else if q5 = 34 then (bd2 (m_X11_sentAt_0_34 G4 (nI t)) fun x12 G13 => some (x12, G13)) else if q5 = 23 then (bd2 (m_X11_sentAt_0_23 G4 (nI t)) fun x14 G15 => some (x14, G15)) else none) (fun G11 => if (nI t) < (G11 97 5) then (Option.bind (m_X12_runs_97 G11 (3 : Int32) ((nI t) + (1 : Int32))) fun G12 => some ((G12 97 12), G12)) else (some ((-1 : Int32), G11))) (fun N k G P S n rp hh hn hn40 hrp hok e10 e11 A lA rA cA => sg_3 hn lA rA cA hok hn40 hrp ht)
          refine ⟨r, F1, F2, ?_, ?_, h3⟩
          · unfold m_X11_goes_0
            rw [if_neg (show ¬ (3 : Int32) = 0 by decide), if_neg (show ¬ (3 : Int32) = 2 by decide), if_pos rfl, zb_bd1, if_neg (show ¬ (1 : Int32) = 0 by decide), pb_within, if_pos q, zb_some, if_neg (show ¬ (1 : Int32) = 0 by decide)]
            exact h1
          · unfold m_X12_goes_97
            rw [if_neg (show ¬ (3 : Int32) = 0 by decide), if_neg (show ¬ (3 : Int32) = 2 by decide), if_pos rfl, pb_in, if_pos q, zb_some, if_neg (show ¬ (1 : Int32) = 0 by decide)]
            exact h2
        · refine ⟨-2, F, F, ?_, ?_, hI⟩
          · unfold m_X11_goes_0
            rw [if_neg (show ¬ (3 : Int32) = 0 by decide), if_neg (show ¬ (3 : Int32) = 2 by decide), if_pos rfl, zb_bd1, if_neg (show ¬ (1 : Int32) = 0 by decide), pb_within, if_neg q, zb_some, if_pos rfl]
          · unfold m_X12_goes_97
            rw [if_neg (show ¬ (3 : Int32) = 0 by decide), if_neg (show ¬ (3 : Int32) = 2 by decide), if_pos rfl, pb_in, if_neg q, zb_some, if_pos rfl]
      · refine ⟨-2, F, F, ?_, ?_, hI⟩
        · unfold m_X11_goes_0
          rw [if_neg z0, if_neg z2, if_neg z3, zb_bd1, if_pos rfl]
        · unfold m_X12_goes_97
          rw [if_neg z0, if_neg z2, if_neg z3]
theorem zi_spC {N k G s : Nat} {P S : Nat → Nat} {F : mmS} (hn : sp_num N k G P S) (hl : sp_lc N k G P S F) (hs : s < 3) (a : Int32) : m_X11_isStandingPoint_0 F (nI s) a = some (if (0 : Int32) ≤ a ∧ a ≤ nI (if s < k then N - 1 else 5) then 1 else 0) := by
  have hk1 := hn.2.2.1
  have hk3 := hn.2.2.2.1
  unfold m_X11_isStandingPoint_0
  rw [zi_srvC hn hl, zb_some]
  by_cases q : s < k
  · rw [if_pos q, if_pos (show (0 : Int32) ≤ nI s ∧ nI s ≤ nI (k - 1) from ⟨nI_pos' (by omega), nI_le (by omega) (by omega)⟩), if_neg (show ¬ (1 : Int32) = 0 by decide), zi_pntC hn hl, zb_some, zi_zgi, zb_some]
  · rw [if_neg q, if_neg (show ¬ ((0 : Int32) ≤ nI s ∧ nI s ≤ nI (k - 1)) from fun h => absurd h.2 (nI_ge (by omega) (by omega))), if_pos rfl, show m_X11_isWithin a (0 : Int32) (5 : Int32) = m_X11_isWithin a 0 (nI 5) from rfl, pb_within, zb_some, zi_zgi, zb_some]
theorem S12 : lw_S12 sp_INV := by
  intro F a1 a2 a3 a4 hI
  have hI' := hI
  obtain ⟨N0, k0, G0, P0, S0, hn0, hl0, hr0, -, -⟩ := hI'
  have hN0 := hn0.2.1
  have hN01 := hn0.1
  have hk01 := hn0.2.2.1
  have hk03 := hn0.2.2.2.1
  have eC0 := zi_spC (s := 0) hn0 hl0 (by omega) a1
  have eC1 := zi_spC (s := 1) hn0 hl0 (by omega) a2
  have eC2 := zi_spC (s := 2) hn0 hl0 (by omega) a3
  rw [if_pos (show 0 < k0 by omega)] at eC0
  have y2 : ∀ H : mmS, H 97 0 = nI N0 → H 97 2 = nI k0 → (if (H 97 2) ≤ (1 : Int32) then (some ((5 : Int32))) else (some (((H 97 0) - (1 : Int32))))) = some (nI (if 1 < k0 then N0 - 1 else 5)) := by
    intro H h0 h2
    rw [h0, h2, zi_pred hN01]
    by_cases q : 1 < k0
    · rw [if_neg (show ¬ nI k0 ≤ (1 : Int32) from nI_ge (a := 1) q (by omega)), if_pos q]
    · rw [if_pos (show nI k0 ≤ (1 : Int32) from nI_le (b := 1) (by omega) (by omega)), if_neg q]; rfl
  have y4 : ∀ H : mmS, H 97 0 = nI N0 → H 97 2 = nI k0 → (if (H 97 2) ≤ (2 : Int32) then (some ((5 : Int32))) else (some (((H 97 0) - (1 : Int32))))) = some (nI (if 2 < k0 then N0 - 1 else 5)) := by
    intro H h0 h2
    rw [h0, h2, zi_pred hN01]
    by_cases q : 2 < k0
    · rw [if_neg (show ¬ nI k0 ≤ (2 : Int32) from nI_ge (a := 2) q (by omega)), if_pos q]
    · rw [if_pos (show nI k0 ≤ (2 : Int32) from nI_le (b := 2) (by omega) (by omega)), if_neg q]; rfl
  have pre : ∀ H : mmS, H 97 0 = nI N0 → H 97 2 = nI k0 → m_X12_work_97 H a1 a2 a3 a4 = (if (if (0 : Int32) ≤ a1 ∧ a1 ≤ nI (N0 - 1) then (1 : Int32) else 0) = (0 : Int32) then (some ((-2 : Int32), H)) else (if (if (0 : Int32) ≤ a2 ∧ a2 ≤ nI (if 1 < k0 then N0 - 1 else 5) then (1 : Int32) else 0) = (0 : Int32) then (some ((-2 : Int32), H)) else (if (if (0 : Int32) ≤ a3 ∧ a3 ≤ nI (if 2 < k0 then N0 - 1 else 5) then (1 : Int32) else 0) = (0 : Int32) then (some ((-2 : Int32), H)) else (Option.bind (m_X12_in a4 (0 : Int32) (40 : Int32)) fun x6 => if x6 = (0 : Int32) then (some ((-2 : Int32), H)) else (bd2 (m_X12_reads_97 H) fun x7 G8 => if x7 = (0 : Int32) then (some ((-11 : Int32), G8)) else (fun G8 => Option.bind (m_X12_worksFirst_97 G8) fun G9 => bd1 (m_X12_work_97_L109 a4 300 (0 : Int32) G9) fun G17 => bd1 (if (G17 97 2) ≤ (1 : Int32) then (some ((0 : Int32))) else (some (((6 : Int32) * a2)))) fun y18 => if (G17 97 2) ≤ (2 : Int32) then (Option.bind (ald G17 104 ((a1 + y18) + (0 : Int32))) fun x19 => some (x19, G17)) else (Option.bind (ald G17 104 ((a1 + y18) + ((36 : Int32) * a3))) fun x20 => some (x20, G17))) G8))))) := by
    intro H h0 h2
    unfold m_X12_work_97
    rw [y2 H h0 h2, y4 H h0 h2, h0, zi_pred hN01, pb_in, zb_some, zb_bd1, pb_in, zb_some, zb_bd1, pb_in, zb_some]
  by_cases q1 : (0 : Int32) ≤ a1 ∧ a1 ≤ nI (N0 - 1)
  · by_cases q2 : (0 : Int32) ≤ a2 ∧ a2 ≤ nI (if 1 < k0 then N0 - 1 else 5)
    · by_cases q3 : (0 : Int32) ≤ a3 ∧ a3 ≤ nI (if 2 < k0 then N0 - 1 else 5)
      · by_cases q4 : (0 : Int32) ≤ a4 ∧ a4 ≤ (40 : Int32)
        · obtain ⟨x, -, hx, rfl⟩ := (pb_range (a := a1) (lo := 0) (hi := N0 - 1) (by omega) (by omega)).mp q1
          obtain ⟨y, -, hy, rfl⟩ := (pb_range (a := a2) (lo := 0) (hi := if 1 < k0 then N0 - 1 else 5) (by omega) (by split <;> omega)).mp q2
          obtain ⟨z, -, hz, rfl⟩ := (pb_range (a := a3) (lo := 0) (hi := if 2 < k0 then N0 - 1 else 5) (by omega) (by split <;> omega)).mp q3
          obtain ⟨t, -, ht, rfl⟩ := (pb_range (a := a4) (lo := 0) (hi := 40) (by omega) (by omega)).mp q4
          obtain ⟨r, F1, F2, h1, h2, h3, h4⟩ := rowop hI (fun G6 => bd2 (m_X6_lead_14_17 G6 (nI t)) fun x7 G8 => Option.bind (m_X3_standingOf_1 G8 (nI x) (nI y) (nI z)) fun x9 => Option.bind (m_X9_worth_17 G8 x9) fun x10 => some (x10, G8)) (fun G8 => Option.bind (m_X12_worksFirst_97 G8) fun G9 => bd1 (m_X12_work_97_L109 (nI t) 300 (0 : Int32) G9) fun G17 => bd1 (if (G17 97 2) ≤ (1 : Int32) then (some ((0 : Int32))) else (some (((6 : Int32) * (nI y))))) fun y18 => if (G17 97 2) ≤ (2 : Int32) then (Option.bind (ald G17 104 (((nI x) + y18) + (0 : Int32))) fun x19 => some (x19, G17)) else (Option.bind (ald G17 104 (((nI x) + y18) + ((36 : Int32) * (nI z)))) fun x20 => some (x20, G17))) (fun N k G P S n rp hh hn hn40 hrp hok e10 e11 A lA rA cA => by
            have hk3 := hn.2.2.2.1
            have hN := hn.2.1
            obtain rfl : k = k0 := by
              rw [hl0.2.1] at e11
              exact ((nI_eq (by omega) (by omega)).mp e11).symm
            obtain rfl : N = N0 := by
              rw [hl0.1] at e10
              exact ((nI_eq (by omega) (by omega)).mp e10).symm
            obtain ⟨c30, c34, c27, c87, ⟨T, U, p1, p2, p3⟩, c91⟩ := cA
            have hv : sp_vl N k (x + 6 * (if k ≤ 1 then 0 else y) + 36 * (if k ≤ 2 then 0 else z)) := by
              refine ⟨?_, ?_, ?_, ?_⟩
              · split at hy <;> split at hz <;> split <;> split <;> omega
              · split at hy <;> split at hz <;> split <;> split <;> omega
              · split at hy <;> split at hz <;> split <;> split <;> omega
              · split at hy <;> split at hz <;> split <;> split <;> omega
            obtain ⟨B, b1, b2, b4⟩ := cl_17 (t := t) hn lA rA hn40 hrp p1 p2 p3 ht
            have lB := sp_fr_lc b4 (by decide) lA
            have hw := wwo (n := n) hn lB (by omega) (fun u hu => hrp u (by omega)) b2 hv
            obtain ⟨u, -, hz'⟩ := b2
            obtain ⟨T', U', r1, r2, r3, -⟩ := hz'.2.2.2.2.1
            refine ⟨nI (sp_fC (sp_W k P S rp (min t n)) (x + 6 * (if k ≤ 1 then 0 else y) + 36 * (if k ≤ 2 then 0 else z))), B, ?_, sp_fr_up b4 (by omega) (by omega), ⟨by rw [b4 30 (by omega)]; exact c30, by rw [b4 34 (by omega)]; exact c34, by rw [b4 27 (by omega)]; exact c27, by rw [b4 87 (by omega)]; exact c87, ⟨T', U', r1, r2, r3⟩, by rw [b4 91 (by omega)]; exact c91⟩, fun C lC rC hC => ?_⟩
            · rw [b1, zb_bd2, zi_sof hn lB, zb_some, hw, zb_some]
            · obtain ⟨D0, D, d1, d2, d3, d4⟩ := wcR (t := t) hn lC rC hn40 hrp ht
              refine ⟨D, ?_, sp_fY_X (sp_fX_W d4)⟩
              have hvv := d3 _ hv
              rw [d1, zb_some, d2, zb_bd1, (sp_fW_lr d4 lC).2.1]
              rcases (by omega : k = 1 ∨ k = 2 ∨ k = 3) with rfl | rfl | rfl
              · rw [if_pos (show nI 1 ≤ (1 : Int32) by decide), zb_bd1, if_pos (show nI 1 ≤ (2 : Int32) by decide), show nI x + (0 : Int32) + (0 : Int32) = nI (x + 6 * (if 1 ≤ 1 then 0 else y) + 36 * (if 1 ≤ 2 then 0 else z)) by rw [li0, nI_add, nI_add]; rfl, zi_rd _ rfl hvv (show _ < 216 from hv.1), zb_some]
              · rw [if_neg (show ¬ nI 2 ≤ (1 : Int32) by decide), zb_bd1, if_pos (show nI 2 ≤ (2 : Int32) by decide), show nI x + (6 : Int32) * nI y + (0 : Int32) = nI (x + 6 * (if 2 ≤ 1 then 0 else y) + 36 * (if 2 ≤ 2 then 0 else z)) by rw [show (6 : Int32) = nI 6 from rfl, li0, pk_mul, nI_add, nI_add]; rfl, zi_rd _ rfl hvv (show _ < 216 from hv.1), zb_some]
              · rw [if_neg (show ¬ nI 3 ≤ (1 : Int32) by decide), zb_bd1, if_neg (show ¬ nI 3 ≤ (2 : Int32) by decide), show nI x + (6 : Int32) * nI y + (36 : Int32) * nI z = nI (x + 6 * (if 3 ≤ 1 then 0 else y) + 36 * (if 3 ≤ 2 then 0 else z)) by rw [show (6 : Int32) = nI 6 from rfl, show (36 : Int32) = nI 36 from rfl, pk_mul, pk_mul, nI_add, nI_add]; rfl, zi_rd _ rfl hvv (show _ < 216 from hv.1), zb_some])
          refine ⟨r, F1, F2, ?_, ?_, h3⟩
          · unfold m_X11_work_0
            rw [show m_X11_isStandingPoint_0 F (0 : Int32) (nI x) = _ from eC0, if_pos q1, zb_some, if_neg (show ¬ (1 : Int32) = 0 by decide), show m_X11_isStandingPoint_0 F (1 : Int32) (nI y) = _ from eC1, if_pos q2, zb_some, if_neg (show ¬ (1 : Int32) = 0 by decide), show m_X11_isStandingPoint_0 F (2 : Int32) (nI z) = _ from eC2, if_pos q3, zb_some, if_neg (show ¬ (1 : Int32) = 0 by decide), pb_within, if_pos q4, zb_some, if_neg (show ¬ (1 : Int32) = 0 by decide)]
            exact h1
          · rw [pre F1 (by rw [h4 97 (by omega)]; exact hr0.1) (by rw [h4 97 (by omega)]; exact hr0.2.1), if_pos q1, if_neg (show ¬ (1 : Int32) = 0 by decide), if_pos q2, if_neg (show ¬ (1 : Int32) = 0 by decide), if_pos q3, if_neg (show ¬ (1 : Int32) = 0 by decide), pb_in, if_pos q4, zb_some, if_neg (show ¬ (1 : Int32) = 0 by decide)]
            exact h2
        · refine ⟨-2, F, F, ?_, ?_, hI⟩
          · unfold m_X11_work_0
            rw [show m_X11_isStandingPoint_0 F (0 : Int32) a1 = _ from eC0, if_pos q1, zb_some, if_neg (show ¬ (1 : Int32) = 0 by decide), show m_X11_isStandingPoint_0 F (1 : Int32) a2 = _ from eC1, if_pos q2, zb_some, if_neg (show ¬ (1 : Int32) = 0 by decide), show m_X11_isStandingPoint_0 F (2 : Int32) a3 = _ from eC2, if_pos q3, zb_some, if_neg (show ¬ (1 : Int32) = 0 by decide), pb_within, if_neg q4, zb_some, if_pos rfl]
          · rw [pre F hr0.1 hr0.2.1, if_pos q1, if_neg (show ¬ (1 : Int32) = 0 by decide), if_pos q2, if_neg (show ¬ (1 : Int32) = 0 by decide), if_pos q3, if_neg (show ¬ (1 : Int32) = 0 by decide), pb_in, if_neg q4, zb_some, if_pos rfl]
      · refine ⟨-2, F, F, ?_, ?_, hI⟩
        · unfold m_X11_work_0
          rw [show m_X11_isStandingPoint_0 F (0 : Int32) a1 = _ from eC0, if_pos q1, zb_some, if_neg (show ¬ (1 : Int32) = 0 by decide), show m_X11_isStandingPoint_0 F (1 : Int32) a2 = _ from eC1, if_pos q2, zb_some, if_neg (show ¬ (1 : Int32) = 0 by decide), show m_X11_isStandingPoint_0 F (2 : Int32) a3 = _ from eC2, if_neg q3, zb_some, if_pos rfl]
        · rw [pre F hr0.1 hr0.2.1, if_pos q1, if_neg (show ¬ (1 : Int32) = 0 by decide), if_pos q2, if_neg (show ¬ (1 : Int32) = 0 by decide), if_neg q3, if_pos rfl]
    · refine ⟨-2, F, F, ?_, ?_, hI⟩
      · unfold m_X11_work_0
        rw [show m_X11_isStandingPoint_0 F (0 : Int32) a1 = _ from eC0, if_pos q1, zb_some, if_neg (show ¬ (1 : Int32) = 0 by decide), show m_X11_isStandingPoint_0 F (1 : Int32) a2 = _ from eC1, if_neg q2, zb_some, if_pos rfl]
      · rw [pre F hr0.1 hr0.2.1, if_pos q1, if_neg (show ¬ (1 : Int32) = 0 by decide), if_neg q2, if_pos rfl]
  · refine ⟨-2, F, F, ?_, ?_, hI⟩
    · unfold m_X11_work_0
      rw [show m_X11_isStandingPoint_0 F (0 : Int32) a1 = _ from eC0, if_neg q1, zb_some, if_pos rfl]
    · rw [pre F hr0.1 hr0.2.1, if_neg q1, if_pos rfl]
theorem wst0 {F : mmS} {a1 a2 : Int32} (hI : sp_INV F) (q1 : (0 : Int32) ≤ a1 ∧ a1 ≤ (2 : Int32)) (q2 : (1 : Int32) ≤ a2 ∧ a2 ≤ (3 : Int32)) : ∃ x F1 F2, sp_sb x ∧ m_X10_seek_83 F a1 a2 = some F1 ∧ m_X12_seeks_97 F1 a1 a2 = some F2 ∧ sp_cS x F1 ∧ sp_rS x F2 ∧ sp_INV F2 := by
  obtain ⟨N, k, G, P, S, hn, hl, hr, hcf, hs⟩ := hI
  obtain ⟨r, -, hr2, rfl⟩ := (pb_range (a := a1) (lo := 0) (hi := 2) (by omega) (by omega)).mp q1
  obtain ⟨l, hl1, hl3, rfl⟩ := (pb_range (a := a2) (lo := 1) (hi := 3) (by omega) (by omega)).mp q2
  obtain ⟨F1, b1, b2, b3, b4⟩ := skC hn hl hr2 hl1 hl3 hcf
  have lR : sp_lr N k G P S F1 := sp_lr_fr hr (b3 98 (by omega)) (b3 99 (by omega)) (by rw [b3 97 (by omega)]) (by rw [b3 97 (by omega)]) (by rw [b3 97 (by omega)])
  obtain ⟨F2, c1, c2, c3⟩ := skR hn lR hr2 hl1 hl3
  have hp := sp_pw_le (N := N) (l := l) hn.2.1
  refine ⟨_, F1, F2, sp_sk_sb hn hl3 _ (by omega), b1, c1, b2, c2, ⟨N, k, G, P, S, hn, ?_, sp_fY_lr c3 lR, ?_, ?_⟩⟩
  · exact sp_lc_fr hl (fun c hc => (c3.1 c (by omega)).trans (b3 c (by omega)))
  · exact sp_cf_fr b4 (fun c h1 h2 => c3.1 c (by omega))
  · exact sp_sh_fr hs (fun c hc => (c3.1 c (by omega)).trans (b3 c (by omega))) (fun c h1 h2 => (c3.1 c (by omega)).trans (b3 c (by omega))) (by rw [c3.2 28 (by omega), b3 97 (by omega)])
theorem S14 : lw_S14 sp_INV := by
  intro F a1 a2 hI
  by_cases q1 : (0 : Int32) ≤ a1 ∧ a1 ≤ (2 : Int32)
  · by_cases q2 : (1 : Int32) ≤ a2 ∧ a2 ≤ (3 : Int32)
    · obtain ⟨x, F1, F2, h0, h1, h2, h3, h4, h5⟩ := wst0 hI q1 q2
      have e : F1 83 4 = F2 97 20 := by
        cases x with
        | none => exact h3.1.trans h4.symm
        | some y => exact h3.1.trans h4.1.symm
      refine ⟨F1 83 4, F1, F2, ?_, ?_, h5⟩
      · unfold m_X11_worst_0
        rw [pb_within, if_pos q1, zb_some, if_neg (show ¬ (1 : Int32) = 0 by decide), pb_within, if_pos q2, zb_some, if_neg (show ¬ (1 : Int32) = 0 by decide), h1, zb_some]
      · unfold m_X12_worst_97
        rw [pb_in, if_pos q1, zb_some, if_neg (show ¬ (1 : Int32) = 0 by decide), pb_in, if_pos q2, zb_some, if_neg (show ¬ (1 : Int32) = 0 by decide), h2, zb_some, e]
    · refine ⟨-2, F, F, ?_, ?_, hI⟩
      · unfold m_X11_worst_0
        rw [pb_within, if_pos q1, zb_some, if_neg (show ¬ (1 : Int32) = 0 by decide), pb_within, if_neg q2, zb_some, if_pos rfl]
      · unfold m_X12_worst_97
        rw [pb_in, if_pos q1, zb_some, if_neg (show ¬ (1 : Int32) = 0 by decide), pb_in, if_neg q2, zb_some, if_pos rfl]
  · refine ⟨-2, F, F, ?_, ?_, hI⟩
    · unfold m_X11_worst_0
      rw [pb_within, if_neg q1, zb_some, if_pos rfl]
    · unfold m_X12_worst_97
      rw [pb_in, if_neg q1, zb_some, if_pos rfl]
theorem S15 : lw_S15 sp_INV := by
  intro F a1 a2 hI
  by_cases q1 : (0 : Int32) ≤ a1 ∧ a1 ≤ (2 : Int32)
  · by_cases q2 : (1 : Int32) ≤ a2 ∧ a2 ≤ (3 : Int32)
    · obtain ⟨x, F1, F2, h0, h1, h2, h3, h4, h5⟩ := wst0 hI q1 q2
      have pc : ∀ v, m_X11_hundredths (F1 83 5) (F1 83 6) = some v → m_X11_worstShare_0 F a1 a2 = some (v, F1) := by
        intro v hv
        unfold m_X11_worstShare_0
        rw [pb_within, if_pos q1, zb_some, if_neg (show ¬ (1 : Int32) = 0 by decide), pb_within, if_pos q2, zb_some, if_neg (show ¬ (1 : Int32) = 0 by decide), h1, zb_some, hv, zb_some]
      have pr : m_X12_worstShare_97 F1 a1 a2 = if (F2 97 20) = (-1 : Int32) then (some ((-3 : Int32), F2)) else (Option.bind (mdiv ((100 : Int32) * (F2 97 21)) (F2 97 22)) fun x4 => some (x4, F2)) := by
        unfold m_X12_worstShare_97
        rw [pb_in, if_pos q1, zb_some, if_neg (show ¬ (1 : Int32) = 0 by decide), pb_in, if_pos q2, zb_some, if_neg (show ¬ (1 : Int32) = 0 by decide), h2, zb_some]
      cases x with
      | none =>
        refine ⟨-3, F1, F2, pc _ ?_, ?_, h5⟩
        · unfold m_X11_hundredths
          rw [h3.2.2, if_pos (show nI 0 ≤ (0 : Int32) by decide)]
        · rw [pr, if_pos (show F2 97 20 = -1 from h4)]
      | some y =>
        have hy := h0 y rfl
        refine ⟨nI (y.2.1 * 100 / y.2.2), F1, F2, pc _ ?_, ?_, h5⟩
        · unfold m_X11_hundredths
          rw [h3.2.1, h3.2.2, if_neg (show ¬ nI y.2.2 ≤ (0 : Int32) from nI_ge (a := 0) (by omega) (by omega)), show nI y.2.1 * (100 : Int32) = nI (y.2.1 * 100) from pk_mul _ 100, zi_div y.2.2 rfl rfl (by omega) (by omega) (by omega), zb_some]
        · rw [pr, if_neg (show ¬ F2 97 20 = -1 by rw [h4.1]; exact zi_m1 (by omega)), h4.2.1, h4.2.2, show (100 : Int32) * nI y.2.1 = nI (y.2.1 * 100) by rw [Nat.mul_comm]; exact pk_mul 100 _, zi_div y.2.2 rfl rfl (by omega) (by omega) (by omega), zb_some]
    · refine ⟨-2, F, F, ?_, ?_, hI⟩
      · unfold m_X11_worstShare_0
        rw [pb_within, if_pos q1, zb_some, if_neg (show ¬ (1 : Int32) = 0 by decide), pb_within, if_neg q2, zb_some, if_pos rfl]
      · unfold m_X12_worstShare_97
        rw [pb_in, if_pos q1, zb_some, if_neg (show ¬ (1 : Int32) = 0 by decide), pb_in, if_neg q2, zb_some, if_pos rfl]
  · refine ⟨-2, F, F, ?_, ?_, hI⟩
    · unfold m_X11_worstShare_0
      rw [pb_within, if_neg q1, zb_some, if_pos rfl]
    · unfold m_X12_worstShare_97
      rw [pb_in, if_neg q1, zb_some, if_pos rfl]
