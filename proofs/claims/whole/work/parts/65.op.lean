/-! PURE: the calls that want what is asked -/
theorem sp_fr_rowc {A B : mmS} (h : sp_fr 17 97 A B) : sp_fr 14 97 A B := sp_fr_up h (by omega) (by omega)
theorem sp_cf_fr2 {F F1 : mmS} {lo hi : Nat} (h : sp_cf F) (hf : sp_fr lo hi F F1) (h1 : 36 ≤ lo) (h2 : hi ≤ 87) : sp_cf F1 := by
  unfold sp_cf at *
  rw [hf 30 (by omega), hf 34 (by omega), hf 27 (by omega), hf 87 (by omega), hf 17 (by omega), hf 91 (by omega)]
  exact h
theorem rl29 {j : Nat} (h : j < 5) : rld 29 (nI j) = some (mm_tab 29 j) := pb_rld (q := 29) h (by decide)
/-- the rule of a number is led over all that is asked -/
theorem ldj {γ : Type} {N k G n j : Nat} {P S rp : Nat → Nat} {hh : Nat → Int32} {A : mmS} (hn : sp_num N k G P S) (hl : sp_lc N k G P S A) (hw : sp_rw n rp hh A) (hcf : sp_cf A) (hok : sp_hok k n hh) (hn40 : n ≤ 40) (hrp : ∀ t, t < n → rp t < N) (hj : j ≤ 4) : ∃ B, sp_fr 17 97 A B ∧ sp_cf B ∧ ∀ K : Int32 → mmS → Option γ, (Option.bind (rld 29 (nI j)) fun q4 => if q4 = 30 then (bd2 (m_X6_lead_14_30 A (A 14 2)) K) else if q4 = 32 then (bd2 (m_X6_lead_14_32 A (A 14 2)) K) else if q4 = 17 then (bd2 (m_X6_lead_14_17 A (A 14 2)) K) else if q4 = 34 then (bd2 (m_X6_lead_14_34 A (A 14 2)) K) else if q4 = 23 then (bd2 (m_X6_lead_14_23 A (A 14 2)) K) else none) = K (nI (sp_cost k G P S rp hh j n)) B := by
  obtain ⟨⟨B0, a0, a1, a2⟩, ⟨B1, b0, b1, b2⟩, ⟨B2, c0, c1, c2⟩, ⟨B3, d0, d1, d2⟩, ⟨B4, e0, e1, e2⟩⟩ := coC (r := 0) (t := 0) hn hl hw hcf hok hn40 hrp
  rw [hw.1]
  rcases (by omega : j = 0 ∨ j = 1 ∨ j = 2 ∨ j = 3 ∨ j = 4) with rfl | rfl | rfl | rfl | rfl
  · refine ⟨B0, a1, a2, fun K => ?_⟩
    rw [rl29 (by omega), zb_some, if_pos (show mm_tab 29 0 = 30 from rfl), a0, zb_bd2]
  · refine ⟨B1, b1, b2, fun K => ?_⟩
    rw [rl29 (by omega), zb_some, if_neg (show ¬ mm_tab 29 1 = 30 by decide), if_pos (show mm_tab 29 1 = 32 from rfl), b0, zb_bd2]
  · refine ⟨B2, c1, c2, fun K => ?_⟩
    rw [rl29 (by omega), zb_some, if_neg (show ¬ mm_tab 29 2 = 30 by decide), if_neg (show ¬ mm_tab 29 2 = 32 by decide), if_pos (show mm_tab 29 2 = 17 from rfl), c0, zb_bd2]
  · refine ⟨B3, d1, d2, fun K => ?_⟩
    rw [rl29 (by omega), zb_some, if_neg (show ¬ mm_tab 29 3 = 30 by decide), if_neg (show ¬ mm_tab 29 3 = 32 by decide), if_neg (show ¬ mm_tab 29 3 = 17 by decide), if_pos (show mm_tab 29 3 = 34 from rfl), d0, zb_bd2]
  · refine ⟨B4, e1, e2, fun K => ?_⟩
    rw [rl29 (by omega), zb_some, if_neg (show ¬ mm_tab 29 4 = 30 by decide), if_neg (show ¬ mm_tab 29 4 = 32 by decide), if_neg (show ¬ mm_tab 29 4 = 17 by decide), if_neg (show ¬ mm_tab 29 4 = 34 by decide), if_pos (show mm_tab 29 4 = 23 from rfl), e0, zb_bd2]
theorem S5 : lw_S5 sp_INV := by
  intro F hI
  obtain ⟨r, F1, F2, h1, h2, h3, h4⟩ := rowop hI (fun G2 => some ((G2 14 2), G2)) (fun G2 => some ((G2 97 5), G2)) (fun N k G P S n rp hh hn hn40 hrp hok e10 e11 A lA rA cA => ⟨nI n, A, by simp only [rA.1], sp_fr_refl _ _ _, cA, fun C lC rC hC => ⟨C, by simp only [rC.1], sp_fY_refl C⟩⟩)
  exact ⟨r, F1, F2, h1, h2, h3⟩
theorem S6 : lw_S6 sp_INV := by
  intro F a1 hI
  by_cases q : (0 : Int32) ≤ a1 ∧ a1 ≤ (4 : Int32)
  · obtain ⟨j, -, hj, rfl⟩ := (pb_range (a := a1) (lo := 0) (hi := 4) (by omega) (by omega)).mp q
    obtain ⟨r, F1, F2, h1, h2, h3, h4⟩ := rowop hI (fun G3 => Option.bind (rld 29 (nI j)) fun q4 => if q4 = 30 then (bd2 (m_X6_lead_14_30 G3 (G3 14 2)) fun x5 G6 => some (x5, G6)) else if q4 = 32 then (bd2 (m_X6_lead_14_32 G3 (G3 14 2)) fun x7 G8 => some (x7, G8)) else if q4 = 17 then (bd2 (m_X6_lead_14_17 G3 (G3 14 2)) fun x9 G10 => some (x9, G10)) else if q4 = 34 then (bd2 (m_X6_lead_14_34 G3 (G3 14 2)) fun x11 G12 => some (x11, G12)) else if q4 = 23 then (bd2 (m_X6_lead_14_23 G3 (G3 14 2)) fun x13 G14 => some (x13, G14)) else none) (fun G3 => bd2 (m_X12_costOf_97 G3 (nI j)) fun x4 G5 => some (x4, G5)) (fun N k G P S n rp hh hn hn40 hrp hok e10 e11 A lA rA cA => by
      obtain ⟨B, b1, b2, b3⟩ := ldj (γ := Int32 × mmS) hn lA rA cA hok hn40 hrp hj
      refine ⟨_, B, b3 (fun x G => some (x, G)), sp_fr_rowc b1, b2, fun C lC rC hC => ?_⟩
      obtain ⟨D, d1, d2⟩ := coR hn lC rC hC hok hn40 hrp hj
      refine ⟨D, ?_, sp_fY_X d2⟩
      show bd2 (m_X12_costOf_97 C (nI j)) _ = _
      rw [d1, zb_bd2])
    refine ⟨r, F1, F2, ?_, ?_, h3⟩
    · unfold m_X11_cost_0
      rw [pb_within, if_pos q, zb_some, if_neg (show ¬ (1 : Int32) = 0 by decide)]
      exact h1
    · unfold m_X12_cost_97
      rw [pb_in, if_pos q, zb_some, if_neg (show ¬ (1 : Int32) = 0 by decide)]
      exact h2
  · refine ⟨-2, F, F, ?_, ?_, hI⟩
    · unfold m_X11_cost_0
      rw [pb_within, if_neg q, zb_some, if_pos rfl]
    · unfold m_X12_cost_97
      rw [pb_in, if_neg q, zb_some, if_pos rfl]
theorem zi_srvC {N k G : Nat} {P S : Nat → Nat} {F : mmS} (hn : sp_num N k G P S) (hl : sp_lc N k G P S F) (a : Int32) : m_X11_isServer_0 F a = some (if (0 : Int32) ≤ a ∧ a ≤ nI (k - 1) then 1 else 0) := by
  unfold m_X11_isServer_0
  rw [hl.2.1, zi_pred hn.2.2.1, pb_within, zb_some, zi_zgi, zb_some]
theorem zi_pntC {N k G : Nat} {P S : Nat → Nat} {F : mmS} (hn : sp_num N k G P S) (hl : sp_lc N k G P S F) (a : Int32) : m_X11_isPoint_0 F a = some (if (0 : Int32) ≤ a ∧ a ≤ nI (N - 1) then 1 else 0) := by
  unfold m_X11_isPoint_0
  rw [hl.1, zi_pred hn.1, pb_within, zb_some, zi_zgi, zb_some]
theorem zi_pntR {N k G : Nat} {P S : Nat → Nat} {F : mmS} (hn : sp_num N k G P S) (hl : sp_lr N k G P S F) (a : Int32) : m_X12_isPoint_97 F a = some (if (0 : Int32) ≤ a ∧ a ≤ nI (N - 1) then 1 else 0) := by
  unfold m_X12_isPoint_97
  rw [hl.1, zi_pred hn.1, pb_in, zb_some, zi_zgi, zb_some]
theorem S7 : lw_S7 sp_INV := by
  intro F a1 a2 a3 hI
  have hI' := hI
  obtain ⟨N0, k0, G0, P0, S0, hn0, hl0, hr0, -, -⟩ := hI'
  by_cases q : (0 : Int32) ≤ a1 ∧ a1 ≤ (3 : Int32)
  · by_cases q2 : (0 : Int32) ≤ a2 ∧ a2 ≤ nI (k0 - 1)
    · by_cases q3 : (0 : Int32) ≤ a3 ∧ a3 ≤ (40 : Int32)
      · obtain ⟨j, -, hj, rfl⟩ := (pb_range (a := a1) (lo := 0) (hi := 3) (by omega) (by omega)).mp q
        have hk0 := hn0.2.2.2.1
        have hk1 := hn0.2.2.1
        obtain ⟨s, -, hs, rfl⟩ := (pb_range (a := a2) (lo := 0) (hi := k0 - 1) (by omega) (by omega)).mp q2
        obtain ⟨t, -, ht, rfl⟩ := (pb_range (a := a3) (lo := 0) (hi := 40) (by omega) (by omega)).mp q3
        obtain ⟨r, F1, F2, h1, h2, h3, h4⟩ := rowop hI (fun G5 => Option.bind (rld 29 (nI j)) fun q6 => if q6 = 30 then (bd2 (m_X6_lead_14_30 G5 (nI t)) fun x7 G8 => Option.bind (rld 29 (nI j)) fun q9 => if q9 = 30 then (Option.bind (ald G8 31 (nI s)) fun x10 => some (x10, G8)) else if q9 = 32 then (Option.bind (ald G8 33 (nI s)) fun x11 => some (x11, G8)) else if q9 = 17 then (Option.bind (ald G8 18 (nI s)) fun x12 => some (x12, G8)) else if q9 = 34 then (Option.bind (ald G8 35 (nI s)) fun x13 => some (x13, G8)) else if q9 = 23 then (Option.bind (ald G8 24 (nI s)) fun x14 => some (x14, G8)) else none) else if q6 = 32 then (bd2 (m_X6_lead_14_32 G5 (nI t)) fun x15 G16 => Option.bind (rld 29 (nI j)) fun q17 => if q17 = 30 then (Option.bind (ald G16 31 (nI s)) fun x18 => some (x18, G16)) else if q17 = 32 then (Option.bind (ald G16 33 (nI s)) fun x19 => some (x19, G16)) else if q17 = 17 then (Option.bind (ald G16 18 (nI s)) fun x20 => some (x20, G16)) else if q17 = 34 then (Option.bind (ald G16 35 (nI s)) fun x21 => some (x21, G16)) else if q17 = 23 then (Option.bind (ald G16 24 (nI s)) fun x22 => some (x22, G16)) else none) else if q6 = 17 then (bd2 (m_X6_lead_14_17 G5 (nI t)) fun x23 G24 => Option.bind (rld 29 (nI j)) fun q25 => if q25 = 30 then (Option.bind (ald G24 31 (nI s)) fun x26 => some (x26, G24)) else if q25 = 32 then (Option.bind (ald G24 33 (nI s)) fun x27 => some (x27, G24)) else if q25 = 17 then (Option.bind (ald G24 18 (nI s)) fun x28 => some (x28, G24)) else if q25 = 34 then (Option.bind (ald G24 35 (nI s)) fun x29 => some (x29, G24)) else if q25 = 23 then (Option.bind (ald G24 24 (nI s)) fun x30 => some (x30, G24)) else none) else if q6 = 34 then (bd2 (m_X6_lead_14_34 G5 (nI t)) fun x31 G32 => Option.bind (rld 29 (nI j)) fun q33 => if q33 = 30 then (Option.bind (ald G32 31 (nI s)) fun x34 => some (x34, G32)) else if q33 = 32 then (Option.bind (ald G32 33 (nI s)) fun x35 => some (x35, G32)) else if q33 = 17 then (Option.bind (ald G32 18 (nI s)) fun x36 => some (x36, G32)) else if q33 = 34 then (Option.bind (ald G32 35 (nI s)) fun x37 => some (x37, G32)) else if q33 = 23 then (Option.bind (ald G32 24 (nI s)) fun x38 => some (x38, G32)) else none) else if q6 = 23 then (bd2 (m_X6_lead_14_23 G5 (nI t)) fun x39 G40 => Option.bind (rld 29 (nI j)) fun q41 => if q41 = 30 then (Option.bind (ald G40 31 (nI s)) fun x42 => some (x42, G40)) else if q41 = 32 then (Option.bind (ald G40 33 (nI s)) fun x43 => some (x43, G40)) else if q41 = 17 then (Option.bind (ald G40 18 (nI s)) fun x44 => some (x44, G40)) else if q41 = 34 then (Option.bind (ald G40 35 (nI s)) fun x45 => some (x45, G40)) else if q41 = 23 then (Option.bind (ald G40 24 (nI s)) fun x46 => some (x46, G40)) else none) else none) (fun G5 => Option.bind (m_X12_runs_97 G5 (nI j) (nI t)) fun G6 => Option.bind (ald G6 103 (nI s)) fun x7 => some (x7, G6)) (fun N k G P S n rp hh hn hn40 hrp hok e10 e11 A lA rA cA => by
          have hk3 := hn.2.2.2.1
          have ek : k = k0 := by
            rw [hl0.2.1] at e11
            exact ((nI_eq (by omega) (by omega)).mp e11).symm
          have hsk : s < k := by omega
          obtain ⟨c30, c34, c27, c87, ⟨T, U, p1, p2, p3⟩, c91⟩ := cA
          rcases (by omega : j = 0 ∨ j = 1 ∨ j = 2 ∨ j = 3) with rfl | rfl | rfl | rfl
          · obtain ⟨B, b1, b2, b3, b4⟩ := cl_30 (t := t) hn lA rA hn40 hrp c30 ht
            refine ⟨nI ((sp_R0 k P S rp (min t n)).1 s), B, ?_, sp_fr_up b4 (by omega) (by omega), ⟨b3, by rw [b4 34 (by omega)]; exact c34, by rw [b4 27 (by omega)]; exact c27, by rw [b4 87 (by omega)]; exact c87, by rw [b4 17 (by omega)]; exact ⟨T, U, p1, p2, p3⟩, by rw [b4 91 (by omega)]; exact c91⟩, fun C lC rC hC => ?_⟩
            · rw [rl29 (by omega), zb_some, if_pos (show mm_tab 29 0 = 30 from rfl), b1, zb_bd2, zb_some, if_pos (show mm_tab 29 0 = 30 from rfl), zi_rd s rfl (b2.1 s hsk) (show s < 3 by omega), zb_some]
            · obtain ⟨D, d1, d2, d3⟩ := rn_0 (t := t) hn lC rC hn40 hrp ht
              refine ⟨D, ?_, sp_fY_X (sp_fX_S d3)⟩
              show Option.bind (m_X12_runs_97 C (nI 0) (nI t)) _ = _
              rw [show m_X12_runs_97 C (nI 0) (nI t) = some D from d1, zb_some, zi_rd s rfl (d2.1 s hsk) (show s < 3 by omega), zb_some]
          · obtain ⟨B, b1, ⟨g, b2⟩, b4⟩ := cl_32 (t := t) hn lA rA hn40 hrp ht
            refine ⟨nI ((sp_R1 k P S rp (min t n)).1 s), B, ?_, sp_fr_up b4 (by omega) (by omega), ⟨by rw [b4 30 (by omega)]; exact c30, by rw [b4 34 (by omega)]; exact c34, by rw [b4 27 (by omega)]; exact c27, by rw [b4 87 (by omega)]; exact c87, by rw [b4 17 (by omega)]; exact ⟨T, U, p1, p2, p3⟩, by rw [b4 91 (by omega)]; exact c91⟩, fun C lC rC hC => ?_⟩
            · rw [rl29 (by omega), zb_some, if_neg (show ¬ mm_tab 29 1 = 30 by decide), if_pos (show mm_tab 29 1 = 32 from rfl), b1, zb_bd2, zb_some, if_neg (show ¬ mm_tab 29 1 = 30 by decide), if_pos (show mm_tab 29 1 = 32 from rfl), zi_rd s rfl (b2.1 s hsk) (show s < 3 by omega), zb_some]
            · obtain ⟨D, d1, ⟨g', d2⟩, d3⟩ := rn_1 (t := t) hn lC rC hn40 hrp ht
              refine ⟨D, ?_, sp_fY_X (sp_fX_S d3)⟩
              show Option.bind (m_X12_runs_97 C (nI 1) (nI t)) _ = _
              rw [show m_X12_runs_97 C (nI 1) (nI t) = some D from d1, zb_some, zi_rd s rfl (d2.1 s hsk) (show s < 3 by omega), zb_some]
          · obtain ⟨B, b1, b2, b4⟩ := cl_17 (t := t) hn lA rA hn40 hrp p1 p2 p3 ht
            obtain ⟨u, -, hz⟩ := b2
            obtain ⟨T', U', q1, q2, q3, -⟩ := hz.2.2.2.2.1
            refine ⟨nI ((sp_R2 k P S rp (min t n)).1 s), B, ?_, sp_fr_up b4 (by omega) (by omega), ⟨by rw [b4 30 (by omega)]; exact c30, by rw [b4 34 (by omega)]; exact c34, by rw [b4 27 (by omega)]; exact c27, by rw [b4 87 (by omega)]; exact c87, ⟨T', U', q1, q2, q3⟩, by rw [b4 91 (by omega)]; exact c91⟩, fun C lC rC hC => ?_⟩
            · rw [rl29 (by omega), zb_some, if_neg (show ¬ mm_tab 29 2 = 30 by decide), if_neg (show ¬ mm_tab 29 2 = 32 by decide), if_pos (show mm_tab 29 2 = 17 from rfl), b1, zb_bd2, zb_some, if_neg (show ¬ mm_tab 29 2 = 30 by decide), if_neg (show ¬ mm_tab 29 2 = 32 by decide), if_pos (show mm_tab 29 2 = 17 from rfl), zi_rd s rfl (hz.2.1.1 s hsk) (show s < 3 by omega), zb_some]
            · obtain ⟨D, d1, d2⟩ := rn_2 (t := t) hn lC rC hn40 hrp ht
              refine ⟨D, ?_, sp_fY_X (sp_fX_W d2.2.2.2)⟩
              show Option.bind (m_X12_runs_97 C (nI 2) (nI t)) _ = _
              rw [show m_X12_runs_97 C (nI 2) (nI t) = some D from d1, zb_some, zi_rd s rfl (d2.1.1 s hsk) (show s < 3 by omega), zb_some]
          · obtain ⟨B, b1, b2, b3, b4⟩ := cl_34 (t := t) hn lA rA hn40 hrp hok c34 ht
            refine ⟨nI ((sp_R3 k P S rp hh (min t n)).1 s), B, ?_, sp_fr_up b4 (by omega) (by omega), ⟨by rw [b4 30 (by omega)]; exact c30, b3, by rw [b4 27 (by omega)]; exact c27, by rw [b4 87 (by omega)]; exact c87, by rw [b4 17 (by omega)]; exact ⟨T, U, p1, p2, p3⟩, by rw [b4 91 (by omega)]; exact c91⟩, fun C lC rC hC => ?_⟩
            · rw [rl29 (by omega), zb_some, if_neg (show ¬ mm_tab 29 3 = 30 by decide), if_neg (show ¬ mm_tab 29 3 = 32 by decide), if_neg (show ¬ mm_tab 29 3 = 17 by decide), if_pos (show mm_tab 29 3 = 34 from rfl), b1, zb_bd2, zb_some, if_neg (show ¬ mm_tab 29 3 = 30 by decide), if_neg (show ¬ mm_tab 29 3 = 32 by decide), if_neg (show ¬ mm_tab 29 3 = 17 by decide), if_pos (show mm_tab 29 3 = 34 from rfl), zi_rd s rfl (b2.1 s hsk) (show s < 3 by omega), zb_some]
            · obtain ⟨D, d1, d2, d3⟩ := rn_3 (t := t) hn lC rC hn40 hrp hok hC ht
              refine ⟨D, ?_, sp_fY_X (sp_fX_S d3)⟩
              show Option.bind (m_X12_runs_97 C (nI 3) (nI t)) _ = _
              rw [show m_X12_runs_97 C (nI 3) (nI t) = some D from d1, zb_some, zi_rd s rfl (d2.1 s hsk) (show s < 3 by omega), zb_some])
        refine ⟨r, F1, F2, ?_, ?_, h3⟩
        · unfold m_X11_stands_0
          rw [pb_within, if_pos q, zb_some, if_neg (show ¬ (1 : Int32) = 0 by decide), zi_srvC hn0 hl0, if_pos q2, zb_some, if_neg (show ¬ (1 : Int32) = 0 by decide), pb_within, if_pos q3, zb_some, if_neg (show ¬ (1 : Int32) = 0 by decide)]
          exact h1
        · have e97 : F1 97 2 = nI k0 := by
            have := hr0.2.1
            rw [h4 97 (by omega)]
            exact this
          unfold m_X12_stands_97
          rw [pb_in, if_pos q, zb_some, if_neg (show ¬ (1 : Int32) = 0 by decide), e97, zi_pred hk1, pb_in, if_pos q2, zb_some, if_neg (show ¬ (1 : Int32) = 0 by decide), pb_in, if_pos q3, zb_some, if_neg (show ¬ (1 : Int32) = 0 by decide)]
          exact h2
      · refine ⟨-2, F, F, ?_, ?_, hI⟩
        · unfold m_X11_stands_0
          rw [pb_within, if_pos q, zb_some, if_neg (show ¬ (1 : Int32) = 0 by decide), zi_srvC hn0 hl0, if_pos q2, zb_some, if_neg (show ¬ (1 : Int32) = 0 by decide), pb_within, if_neg q3, zb_some, if_pos rfl]
        · unfold m_X12_stands_97
          rw [pb_in, if_pos q, zb_some, if_neg (show ¬ (1 : Int32) = 0 by decide), hr0.2.1, zi_pred hn0.2.2.1, pb_in, if_pos q2, zb_some, if_neg (show ¬ (1 : Int32) = 0 by decide), pb_in, if_neg q3, zb_some, if_pos rfl]
    · refine ⟨-2, F, F, ?_, ?_, hI⟩
      · unfold m_X11_stands_0
        rw [pb_within, if_pos q, zb_some, if_neg (show ¬ (1 : Int32) = 0 by decide), zi_srvC hn0 hl0, if_neg q2, zb_some, if_pos rfl]
      · unfold m_X12_stands_97
        rw [pb_in, if_pos q, zb_some, if_neg (show ¬ (1 : Int32) = 0 by decide), hr0.2.1, zi_pred hn0.2.2.1, pb_in, if_neg q2, zb_some, if_pos rfl]
  · refine ⟨-2, F, F, ?_, ?_, hI⟩
    · unfold m_X11_stands_0
      rw [pb_within, if_neg q, zb_some, if_pos rfl]
    · unfold m_X12_stands_97
      rw [pb_in, if_neg q, zb_some, if_pos rfl]
theorem S9 : lw_S9 sp_INV := by
  intro F hI
  obtain ⟨r, F1, F2, h1, h2, h3, h4⟩ := rowop hI (fun G2 => bd2 (m_X0_plan_36_14 G2) fun x3 G4 => some (x3, G4)) (fun G2 => bd2 (m_X12_bestCost_97 G2) fun x3 G4 => some (x3, G4)) (fun N k G P S n rp hh hn hn40 hrp hok e10 e11 A lA rA cA => by
    obtain ⟨B, b1, b2, b3⟩ := plA hn lA rA hn40 hrp
    refine ⟨_, B, by rw [b1, zb_bd2], sp_fr_up b3 (by omega) (by omega), sp_cf_fr2 cA b3 (by omega) (by omega), fun C lC rC hC => ?_⟩
    obtain ⟨D, d1, d2⟩ := bcR hn lC rC hn40 hrp
    exact ⟨D, by rw [d1, zb_bd2], sp_fY_X (sp_fX_P d2)⟩)
  exact ⟨r, F1, F2, h1, h2, h3⟩
theorem S10 : lw_S10 sp_INV := by
  intro F a1 hI
  by_cases q : (0 : Int32) ≤ a1 ∧ a1 ≤ (39 : Int32)
  · obtain ⟨t, -, ht, rfl⟩ := (pb_range (a := a1) (lo := 0) (hi := 39) (by omega) (by omega)).mp q
    obtain ⟨r, F1, F2, h1, h2, h3, h4⟩ := rowop hI (fun G3 => bd2 (m_X0_plan_36_14 G3) fun x4 G5 => bd2 (m_X11_sentAt_0_36 G5 (nI t)) fun x6 G7 => some (x6, G7)) (fun G3 => Option.bind (m_X12_plans_97 G3) fun G4 => if (G4 97 5) ≤ (nI t) then (some ((-1 : Int32), G4)) else (Option.bind (ald G4 102 (nI t)) fun x5 => some (x5, G4))) (fun N k G P S n rp hh hn hn40 hrp hok e10 e11 A lA rA cA => by
      obtain ⟨B, b1, b2, b3⟩ := plA hn lA rA hn40 hrp
      have lB := sp_fr_lc b3 (by decide) lA
      have rB := sp_fr_rw b3 (by decide) rA
      by_cases c : t < n
      · obtain ⟨B2, c1, c2, c3⟩ := cl_36 (t := t + 1) hn lB rB hn40 hrp b2 (by omega)
        rw [show min (t + 1) n = t + 1 by omega] at c2
        refine ⟨sp_bg k P S rp n (t + 1), B2, ?_, sp_fr_tr (sp_fr_up b3 (by omega) (by omega)) (sp_fr_up c3 (by omega) (by omega)), sp_cf_fr2 (sp_cf_fr2 cA b3 (by omega) (by omega)) c3 (by omega) (by omega), fun C lC rC hC => ?_⟩
        · unfold m_X11_sentAt_0_36
          rw [b1, zb_bd2, rB.1, if_pos (nI_lt c (by omega)), nI_1, c1, zb_bd2, c2.1.2.2, zb_bd2]
        · obtain ⟨D, d1, d2, d3, d4⟩ := plR hn lC rC hn40 hrp
          have r5 : D 97 5 = nI n := by rw [d4 97 (by decide) (by decide)]; exact rC.1
          refine ⟨D, ?_, sp_fY_X (sp_fX_P d4)⟩
          rw [d1, zb_some, r5, if_neg (nI_ge c (by omega)), zi_rd t rfl (d3 t c) (show t < 40 by omega), zb_some]
          rfl
      · refine ⟨-1, B, ?_, sp_fr_up b3 (by omega) (by omega), sp_cf_fr2 cA b3 (by omega) (by omega), fun C lC rC hC => ?_⟩
        · unfold m_X11_sentAt_0_36
          rw [b1, zb_bd2, rB.1, if_neg (nI_nlt (by omega) (by omega)), zb_bd2]
        · obtain ⟨D, d1, d2, d3, d4⟩ := plR hn lC rC hn40 hrp
          have r5 : D 97 5 = nI n := by rw [d4 97 (by decide) (by decide)]; exact rC.1
          refine ⟨D, ?_, sp_fY_X (sp_fX_P d4)⟩
          rw [d1, zb_some, r5, if_pos (nI_le (by omega) (by omega))])
    refine ⟨r, F1, F2, ?_, ?_, h3⟩
    · unfold m_X11_way_0
      rw [pb_within, if_pos q, zb_some, if_neg (show ¬ (1 : Int32) = 0 by decide)]
      exact h1
    · unfold m_X12_way_97
      rw [pb_in, if_pos q, zb_some, if_neg (show ¬ (1 : Int32) = 0 by decide)]
      exact h2
  · refine ⟨-2, F, F, ?_, ?_, hI⟩
    · unfold m_X11_way_0
      rw [pb_within, if_neg q, zb_some, if_pos rfl]
    · unfold m_X12_way_97
      rw [pb_in, if_neg q, zb_some, if_pos rfl]
theorem S11 : lw_S11 sp_INV := by
  intro F a1 hI
  by_cases q : (0 : Int32) ≤ a1 ∧ a1 ≤ (4 : Int32)
  · obtain ⟨j, -, hj, rfl⟩ := (pb_range (a := a1) (lo := 0) (hi := 4) (by omega) (by omega)).mp q
    obtain ⟨r, F1, F2, h1, h2, h3, h4⟩ := rowop hI (fun G3 => Option.bind (rld 29 (nI j)) fun q4 => if q4 = 30 then (bd2 (m_X6_lead_14_30 G3 (G3 14 2)) fun x5 G6 => bd2 (m_X0_plan_36_14 G6) fun x7 G8 => Option.bind (m_X11_hundredths x5 x7) fun x9 => some (x9, G8)) else if q4 = 32 then (bd2 (m_X6_lead_14_32 G3 (G3 14 2)) fun x10 G11 => bd2 (m_X0_plan_36_14 G11) fun x12 G13 => Option.bind (m_X11_hundredths x10 x12) fun x14 => some (x14, G13)) else if q4 = 17 then (bd2 (m_X6_lead_14_17 G3 (G3 14 2)) fun x15 G16 => bd2 (m_X0_plan_36_14 G16) fun x17 G18 => Option.bind (m_X11_hundredths x15 x17) fun x19 => some (x19, G18)) else if q4 = 34 then (bd2 (m_X6_lead_14_34 G3 (G3 14 2)) fun x20 G21 => bd2 (m_X0_plan_36_14 G21) fun x22 G23 => Option.bind (m_X11_hundredths x20 x22) fun x24 => some (x24, G23)) else if q4 = 23 then (bd2 (m_X6_lead_14_23 G3 (G3 14 2)) fun x25 G26 => bd2 (m_X0_plan_36_14 G26) fun x27 G28 => Option.bind (m_X11_hundredths x25 x27) fun x29 => some (x29, G28)) else none) (fun G3 => bd2 (m_X12_bestCost_97 G3) fun x4 G5 => if x4 = (0 : Int32) then (some ((-3 : Int32), G5)) else (bd2 (m_X12_costOf_97 G5 (nI j)) fun x6 G7 => Option.bind (mdiv ((100 : Int32) * x6) x4) fun x8 => some (x8, G7))) (fun N k G P S n rp hh hn hn40 hrp hok e10 e11 A lA rA cA => by
      obtain ⟨B, b1, b2, b3⟩ := ldj (γ := Int32 × mmS) hn lA rA cA hok hn40 hrp hj
      have lB := sp_fr_lc b1 (by decide) lA
      have rB := sp_fr_rw b1 (by decide) rA
      obtain ⟨B2, c1, c2, c3⟩ := plA hn lB rB hn40 hrp
      have hbe := sp_be_le (rp := rp) hn (l := n) hn40
      have hco := sp_cost_le (rp := rp) hn hok j
      have e0 := b3 (fun x5 G6 => bd2 (m_X0_plan_36_14 G6) fun x7 G8 => Option.bind (m_X11_hundredths x5 x7) fun x9 => some (x9, G8))
      have hb : m_X0_plan_36_14 B = some (nI (sp_be k P S rp n), B2) := c1
      have fB2 : sp_fr 14 97 A B2 := sp_fr_tr (sp_fr_rowc b1) (sp_fr_up c3 (by omega) (by omega))
      have cB2 : sp_cf B2 := sp_cf_fr2 b2 c3 (by omega) (by omega)
      by_cases z : sp_be k P S rp n = 0
      · refine ⟨-3, B2, ?_, fB2, cB2, fun C lC rC hC => ?_⟩
        · refine e0.trans ?_
          rw [hb, zb_bd2, z]
          unfold m_X11_hundredths
          rw [if_pos (show nI 0 ≤ (0 : Int32) by decide), zb_some]
        · obtain ⟨D, d1, d2⟩ := bcR hn lC rC hn40 hrp
          refine ⟨D, ?_, sp_fY_X (sp_fX_P d2)⟩
          show bd2 (m_X12_bestCost_97 C) _ = _
          rw [show m_X12_bestCost_97 C = some (nI (sp_be k P S rp n), D) from d1, zb_bd2, z, if_pos (show nI 0 = (0 : Int32) from rfl)]
      · refine ⟨nI (sp_cost k G P S rp hh j n * 100 / sp_be k P S rp n), B2, ?_, fB2, cB2, fun C lC rC hC => ?_⟩
        · refine e0.trans ?_
          rw [hb, zb_bd2]
          unfold m_X11_hundredths
          rw [if_neg (show ¬ nI (sp_be k P S rp n) ≤ (0 : Int32) from nI_ge (a := 0) (by omega) (by omega)), show nI (sp_cost k G P S rp hh j n) * (100 : Int32) = nI (sp_cost k G P S rp hh j n * 100) from pk_mul _ 100, zi_div (sp_be k P S rp n) rfl rfl (by omega) (by omega) (by omega), zb_some, zb_some]
        · obtain ⟨D, d1, d2⟩ := bcR hn lC rC hn40 hrp
          have fD := sp_fX_P d2
          obtain ⟨E, g1, g2⟩ := coR hn (sp_fX_lr fD lC) (sp_fX_rr fD rC) (sp_fX_hn fD hC) hok hn40 hrp hj
          refine ⟨E, ?_, sp_fY_X (sp_fX_tr fD g2)⟩
          show bd2 (m_X12_bestCost_97 C) _ = _
          rw [show m_X12_bestCost_97 C = some (nI (sp_be k P S rp n), D) from d1, zb_bd2, if_neg (show ¬ nI (sp_be k P S rp n) = (0 : Int32) from nI_ne0 (by omega) (by omega)), g1, zb_bd2, show (100 : Int32) * nI (sp_cost k G P S rp hh j n) = nI (sp_cost k G P S rp hh j n * 100) by rw [Nat.mul_comm]; exact pk_mul 100 _, zi_div (sp_be k P S rp n) rfl rfl (by omega) (by omega) (by omega), zb_some])
    refine ⟨r, F1, F2, ?_, ?_, h3⟩
    · unfold m_X11_share_0
      rw [pb_within, if_pos q, zb_some, if_neg (show ¬ (1 : Int32) = 0 by decide)]
      exact h1
    · unfold m_X12_share_97
      rw [pb_in, if_pos q, zb_some, if_neg (show ¬ (1 : Int32) = 0 by decide)]
      exact h2
  · refine ⟨-2, F, F, ?_, ?_, hI⟩
    · unfold m_X11_share_0
      rw [pb_within, if_neg q, zb_some, if_pos rfl]
    · unfold m_X12_share_97
      rw [pb_in, if_neg q, zb_some, if_pos rfl]
theorem S13 : lw_S13 sp_INV := by
  intro F a1 hI
  by_cases q : (0 : Int32) ≤ a1 ∧ a1 ≤ (40 : Int32)
  · obtain ⟨t, -, ht, rfl⟩ := (pb_range (a := a1) (lo := 0) (hi := 40) (by omega) (by omega)).mp q
    obtain ⟨r, F1, F2, h1, h2, h3, h4⟩ := rowop hI (fun G3 => bd2 (m_X6_lead_14_23 G3 (nI t)) fun x4 G5 => some ((G5 23 6), G5)) (fun G3 => Option.bind (m_X12_runsGuarded_97 G3 (nI t)) fun G4 => some ((G4 97 18), G4)) (fun N k G P S n rp hh hn hn40 hrp hok e10 e11 A lA rA cA => by
      obtain ⟨c30, c34, c27, c87, c17, c91⟩ := cA
      obtain ⟨B, b1, b2⟩ := cl_23 (t := t) hn lA rA hn40 hrp hok c27 ht
      have b4 := b2.2.2.2.2.2.2
      refine ⟨sp_tI (sp_tw k G P S rp hh (min t n)), B, ?_, sp_fr_up b4 (by omega) (by omega), ⟨by rw [b4 30 (by omega)]; exact c30, by rw [b4 34 (by omega)]; exact c34, b2.2.2.1, by rw [b4 87 (by omega)]; exact c87, by rw [b4 17 (by omega)]; exact c17, by rw [b4 91 (by omega)]; exact c91⟩, fun C lC rC hC => ?_⟩
      · rw [b1, zb_bd2, b2.2.2.2.1]
      · obtain ⟨D, d1, d2, d3, d4⟩ := rgR (t := t) hn lC rC hC hn40 hrp hok ht
        refine ⟨D, ?_, sp_fY_X (sp_fX_G d4)⟩
        rw [d1, zb_some, d2])
    refine ⟨r, F1, F2, ?_, ?_, h3⟩
    · unfold m_X11_trusts_0
      rw [pb_within, if_pos q, zb_some, if_neg (show ¬ (1 : Int32) = 0 by decide)]
      exact h1
    · unfold m_X12_trusts_97
      rw [pb_in, if_pos q, zb_some, if_neg (show ¬ (1 : Int32) = 0 by decide)]
      exact h2
  · refine ⟨-2, F, F, ?_, ?_, hI⟩
    · unfold m_X11_trusts_0
      rw [pb_within, if_neg q, zb_some, if_pos rfl]
    · unfold m_X12_trusts_97
      rw [pb_in, if_neg q, zb_some, if_pos rfl]
theorem S16 : lw_S16 sp_INV := by
  intro F a1 hI
  by_cases q : (0 : Int32) ≤ a1 ∧ a1 ≤ (40 : Int32)
  · obtain ⟨t, -, ht, rfl⟩ := (pb_range (a := a1) (lo := 0) (hi := 40) (by omega) (by omega)).mp q
    obtain ⟨r, F1, F2, h1, h2, h3, h4⟩ := rowop hI (fun G3 => bd2 (m_X4_behind_80_14 G3 (nI t)) fun x4 G5 => some (x4, G5)) (fun G3 => Option.bind (m_X12_plans_97 G3) fun G4 => Option.bind (m_X12_runs_97 G4 (1 : Int32) (nI t)) fun G5 => Option.bind (m_X12_first_97 G5 (nI t)) fun x6 => Option.bind (m_X12_standingAt_97 G5 x6) fun x7 => Option.bind (m_X12_longs_97 G5 x7) fun x8 => some (x8, G5)) (fun N k G P S n rp hh hn hn40 hrp hok e10 e11 A lA rA cA => by
      obtain ⟨B, b1, b2⟩ := lbC (t := t) hn lA rA hn40 hrp ht
      refine ⟨_, B, by rw [b1, zb_bd2], sp_fr_up b2 (by omega) (by omega), sp_cf_fr2 cA b2 (by omega) (by omega), fun C lC rC hC => ?_⟩
      obtain ⟨D, d1, d2⟩ := lbR (t := t) hn lC rC hn40 hrp ht
      exact ⟨D, d1, sp_fY_X d2⟩)
    refine ⟨r, F1, F2, ?_, ?_, h3⟩
    · unfold m_X11_longing_0
      rw [pb_within, if_pos q, zb_some, if_neg (show ¬ (1 : Int32) = 0 by decide)]
      exact h1
    · unfold m_X12_longing_97
      rw [pb_in, if_pos q, zb_some, if_neg (show ¬ (1 : Int32) = 0 by decide)]
      exact h2
  · refine ⟨-2, F, F, ?_, ?_, hI⟩
    · unfold m_X11_longing_0
      rw [pb_within, if_neg q, zb_some, if_pos rfl]
    · unfold m_X12_longing_97
      rw [pb_in, if_neg q, zb_some, if_pos rfl]
theorem S17 : lw_S17 sp_INV := by
  intro F hI
  obtain ⟨r, F1, F2, h1, h2, h3, h4⟩ := rowop hI (fun G2 => bd2 (m_X4_firstUnpaid_80_14 G2) fun x3 G4 => some (x3, G4)) (fun G2 => bd2 (m_X12_paysNot_97 G2) fun x3 G4 => some (x3, G4)) (fun N k G P S n rp hh hn hn40 hrp hok e10 e11 A lA rA cA => by
    obtain ⟨B, b1, b2⟩ := fuC hn lA rA hn40 hrp
    refine ⟨_, B, by rw [b1, zb_bd2], sp_fr_up b2 (by omega) (by omega), sp_cf_fr2 cA b2 (by omega) (by omega), fun C lC rC hC => ?_⟩
    obtain ⟨D, d1, d2⟩ := fuR hn lC rC hn40 hrp
    exact ⟨D, by rw [d1, zb_bd2], sp_fY_X d2⟩)
  exact ⟨r, F1, F2, h1, h2, h3⟩
