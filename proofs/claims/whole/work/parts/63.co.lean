/-! PURE: the reference's costs and worst rows -/
def sp_cost (k G : Nat) (P S rp : Nat → Nat) (hh : Nat → Int32) (r n : Nat) : Nat := if r ≤ 2 then sp_co k P S r rp n else if r = 3 then (sp_R3 k P S rp hh n).2.1 else sp_gc k G P S rp hh n
theorem sp_cost_le {N k G n : Nat} {P S rp : Nat → Nat} {hh : Nat → Int32} (hn : sp_num N k G P S) (hok : sp_hok k n hh) (r : Nat) : sp_cost k G P S rp hh r n ≤ 3000 * n := by
  unfold sp_cost
  split
  · have := sp_co_le hn r rp n; omega
  · split
    · have := (sp_R3_le (rp := rp) hn hok n (Nat.le_refl n)).2; omega
    · exact sp_gc_le hn hok n (Nat.le_refl n)
theorem coR012 {N k G n r : Nat} {P S rp : Nat → Nat} {F : mmS} (hn : sp_num N k G P S) (hl : sp_lr N k G P S F) (hr : sp_rr n rp F) (hn40 : n ≤ 40) (hrp : ∀ t, t < n → rp t < N) (h2 : r ≤ 2) : ∃ F1, m_X12_costOf_97 F (nI r) = some (nI (sp_co k P S r rp n), F1) ∧ sp_fX F F1 := by
  unfold m_X12_costOf_97
  rw [if_neg (show ¬ nI r = (4 : Int32) from fun e => by have := (nI_eq (a := r) (b := 4) (by omega) (by omega)).mp e; omega), hr.1]
  rcases (by omega : r = 0 ∨ r = 1 ∨ r = 2) with rfl | rfl | rfl
  · obtain ⟨F1, a1, a2, a3⟩ := rn_0 (t := n) hn hl hr hn40 hrp hn40
    rw [Nat.min_self] at a2
    rw [show m_X12_runs_97 F (nI 0) (nI n) = some F1 from a1, zb_some, a2.2.1]
    exact ⟨F1, rfl, sp_fX_S a3⟩
  · obtain ⟨F1, a1, ⟨g, a2⟩, a3⟩ := rn_1 (t := n) hn hl hr hn40 hrp hn40
    rw [Nat.min_self] at a2
    rw [show m_X12_runs_97 F (nI 1) (nI n) = some F1 from a1, zb_some, a2.2.1]
    exact ⟨F1, rfl, sp_fX_S a3⟩
  · obtain ⟨F1, a1, a2⟩ := rn_2 (t := n) hn hl hr hn40 hrp hn40
    rw [Nat.min_self] at a2
    rw [show m_X12_runs_97 F (nI 2) (nI n) = some F1 from a1, zb_some, a2.1.2.1]
    exact ⟨F1, rfl, sp_fX_W a2.2.2.2⟩
theorem coR {N k G n r : Nat} {P S rp : Nat → Nat} {hh : Nat → Int32} {F : mmS} (hn : sp_num N k G P S) (hl : sp_lr N k G P S F) (hr : sp_rr n rp F) (hq : sp_hn n hh F) (hok : sp_hok k n hh) (hn40 : n ≤ 40) (hrp : ∀ t, t < n → rp t < N) (h4 : r ≤ 4) : ∃ F1, m_X12_costOf_97 F (nI r) = some (nI (sp_cost k G P S rp hh r n), F1) ∧ sp_fX F F1 := by
  unfold sp_cost
  by_cases h2 : r ≤ 2
  · rw [if_pos h2]
    exact coR012 hn hl hr hn40 hrp h2
  · rw [if_neg h2]
    unfold m_X12_costOf_97
    rw [hr.1]
    rcases (by omega : r = 3 ∨ r = 4) with rfl | rfl
    · rw [if_neg (show ¬ nI 3 = (4 : Int32) by decide), if_pos rfl]
      obtain ⟨F1, a1, a2, a3⟩ := rn_3 (t := n) hn hl hr hn40 hrp hok hq hn40
      rw [Nat.min_self] at a2
      rw [show m_X12_runs_97 F (nI 3) (nI n) = some F1 from a1, zb_some, a2.2.1]
      exact ⟨F1, rfl, sp_fX_S a3⟩
    · rw [if_pos (show nI 4 = (4 : Int32) from rfl), if_neg (by decide)]
      obtain ⟨F1, a1, a2, a3, a4⟩ := rgR (t := n) hn hl hr hq hn40 hrp hok hn40
      rw [Nat.min_self] at a3
      rw [a1, zb_some, a3]
      exact ⟨F1, rfl, sp_fX_G a4⟩
/-- the class's costs -/
theorem coC {N k G n r t : Nat} {P S rp : Nat → Nat} {hh : Nat → Int32} {F : mmS} (hn : sp_num N k G P S) (hl : sp_lc N k G P S F) (hw : sp_rw n rp hh F) (hcf : sp_cf F) (hok : sp_hok k n hh) (hn40 : n ≤ 40) (hrp : ∀ t, t < n → rp t < N) : (∃ F1, m_X6_lead_14_30 F (nI n) = some (nI (sp_cost k G P S rp hh 0 n), F1) ∧ sp_fr 17 97 F F1 ∧ sp_cf F1) ∧ (∃ F1, m_X6_lead_14_32 F (nI n) = some (nI (sp_cost k G P S rp hh 1 n), F1) ∧ sp_fr 17 97 F F1 ∧ sp_cf F1) ∧ (∃ F1, m_X6_lead_14_17 F (nI n) = some (nI (sp_cost k G P S rp hh 2 n), F1) ∧ sp_fr 17 97 F F1 ∧ sp_cf F1) ∧ (∃ F1, m_X6_lead_14_34 F (nI n) = some (nI (sp_cost k G P S rp hh 3 n), F1) ∧ sp_fr 17 97 F F1 ∧ sp_cf F1) ∧ (∃ F1, m_X6_lead_14_23 F (nI n) = some (nI (sp_cost k G P S rp hh 4 n), F1) ∧ sp_fr 17 97 F F1 ∧ sp_cf F1) := by
  obtain ⟨c30, c34, c27, c87, ⟨T, U, p1, p2, p3⟩, c91⟩ := hcf
  refine ⟨?_, ?_, ?_, ?_, ?_⟩
  · obtain ⟨F1, a1, a2, a3, a4⟩ := cl_30 (t := n) hn hl hw hn40 hrp c30 hn40
    rw [Nat.min_self] at a1
    refine ⟨F1, a1, sp_fr_up a4 (by omega) (by omega), a3, by rw [a4 34 (by omega)]; exact c34, by rw [a4 27 (by omega)]; exact c27, by rw [a4 87 (by omega)]; exact c87, by rw [a4 17 (by omega)]; exact ⟨T, U, p1, p2, p3⟩, by rw [a4 91 (by omega)]; exact c91⟩
  · obtain ⟨F1, a1, a2, a4⟩ := cl_32 (t := n) hn hl hw hn40 hrp hn40
    rw [Nat.min_self] at a1
    refine ⟨F1, a1, sp_fr_up a4 (by omega) (by omega), by rw [a4 30 (by omega)]; exact c30, by rw [a4 34 (by omega)]; exact c34, by rw [a4 27 (by omega)]; exact c27, by rw [a4 87 (by omega)]; exact c87, by rw [a4 17 (by omega)]; exact ⟨T, U, p1, p2, p3⟩, by rw [a4 91 (by omega)]; exact c91⟩
  · obtain ⟨F1, a1, a2, a4⟩ := cl_17 (t := n) hn hl hw hn40 hrp p1 p2 p3 hn40
    rw [Nat.min_self] at a1
    obtain ⟨j, -, hz⟩ := a2
    obtain ⟨T', U', q1, q2, q3, -⟩ := hz.2.2.2.2.1
    refine ⟨F1, a1, sp_fr_up a4 (by omega) (by omega), by rw [a4 30 (by omega)]; exact c30, by rw [a4 34 (by omega)]; exact c34, by rw [a4 27 (by omega)]; exact c27, by rw [a4 87 (by omega)]; exact c87, ⟨T', U', q1, q2, q3⟩, by rw [a4 91 (by omega)]; exact c91⟩
  · obtain ⟨F1, a1, a2, a3, a4⟩ := cl_34 (t := n) hn hl hw hn40 hrp hok c34 hn40
    rw [Nat.min_self] at a1
    refine ⟨F1, a1, sp_fr_up a4 (by omega) (by omega), by rw [a4 30 (by omega)]; exact c30, a3, by rw [a4 27 (by omega)]; exact c27, by rw [a4 87 (by omega)]; exact c87, by rw [a4 17 (by omega)]; exact ⟨T, U, p1, p2, p3⟩, by rw [a4 91 (by omega)]; exact c91⟩
  · obtain ⟨F1, a1, a2⟩ := cl_23 (t := n) hn hl hw hn40 hrp hok c27 hn40
    rw [Nat.min_self] at a1
    have a4 := a2.2.2.2.2.2.2
    refine ⟨F1, a1, sp_fr_up a4 (by omega) (by omega), by rw [a4 30 (by omega)]; exact c30, by rw [a4 34 (by omega)]; exact c34, a2.2.2.1, by rw [a4 87 (by omega)]; exact c87, by rw [a4 17 (by omega)]; exact ⟨T, U, p1, p2, p3⟩, by rw [a4 91 (by omega)]; exact c91⟩
/-- the widest frame of the reference -/
def sp_fY (F F1 : mmS) : Prop := (∀ c, (c < 97 ∨ c = 98 ∨ c = 99 ∨ (109 ≤ c ∧ c < 113)) → F1 c = F c) ∧ (∀ i, (i = 0 ∨ i = 2 ∨ i = 4 ∨ i = 28) → F1 97 i = F 97 i)
theorem sp_fY_refl (F : mmS) : sp_fY F F := ⟨fun _ _ => rfl, fun _ _ => rfl⟩
theorem sp_fY_tr {F G H : mmS} (h : sp_fY F G) (h' : sp_fY G H) : sp_fY F H := ⟨fun c a => (h'.1 c a).trans (h.1 c a), fun i a => (h'.2 i a).trans (h.2 i a)⟩
theorem sp_fY_X {F G : mmS} (h : sp_fX F G) : sp_fY F G := ⟨fun c a => h.1 c (by omega), fun i a => h.2 i (by omega)⟩
theorem sp_fY_lr {N k G : Nat} {P S : Nat → Nat} {F F1 : mmS} (hf : sp_fY F F1) (h : sp_lr N k G P S F) : sp_lr N k G P S F1 := sp_lr_fr h (hf.1 98 (by omega)) (hf.1 99 (by omega)) (hf.2 0 (by omega)) (hf.2 2 (by omega)) (hf.2 4 (by omega))
def sp_rS (x : Option (Nat × Nat × Nat)) (F : mmS) : Prop := match x with
  | none => F 97 20 = -1
  | some y => F 97 20 = nI y.1 ∧ F 97 21 = nI y.2.1 ∧ F 97 22 = nI y.2.2
theorem dgR {N l m : Nat} {F : mmS} (hN : N ≤ 6) (hN1 : 1 ≤ N) (hl1 : 1 ≤ l) (hl3 : l ≤ 3) (hm : m < 216) (h0 : F 97 0 = nI N) : ∃ F1, m_X12_seeks_97_L62 300 (nI m) (nI l - 1) F = some F1 ∧ (∀ t, t < l → F1 100 t = nI (sp_dg N l m t)) ∧ (∀ c, c ≠ 100 → F1 c = F c) := by
  have go : ∀ n v t H, t < 3 → v < 216 → H 97 0 = nI N → m_X12_seeks_97_L62 (n + 1) (nI v) (nI (t + 1) - 1) H = m_X12_seeks_97_L62 n (nI (v / N)) (nI t - 1) (stF H 100 t (nI (v % N))) := by
    intro n v t H ht hv h
    rw [nI_pred, m_X12_seeks_97_L62, if_neg (nI_pos (by omega)), h, zi_rem N rfl rfl (by omega) (by omega) (by omega), zb_some, zi_wr (q := 100) t rfl (show t < 40 by omega), zb_some, st_cell _ _ _ (by decide), h, zi_div N rfl rfl (by omega) (by omega) (by omega), zb_some, zb_mlet, ← Int32.sub_eq_add_neg]
  have stop : ∀ n v H, m_X12_seeks_97_L62 (n + 1) v (nI 0 - 1) H = some H := by
    intro n v H
    rw [m_X12_seeks_97_L62, if_pos (show nI 0 - 1 < (0 : Int32) by decide)]
  have h1 : m / N ≤ m := Nat.div_le_self _ _
  have h2 : m / N / N ≤ m / N := Nat.div_le_self _ _
  have keep : ∀ H t v, H 97 0 = nI N → stF H 100 t v 97 0 = nI N := fun H t v h => by rw [st_cell _ _ _ (by decide)]; exact h
  rcases (by omega : l = 1 ∨ l = 2 ∨ l = 3) with rfl | rfl | rfl
  · rw [go 299 m 0 F (by omega) hm h0, stop]
    refine ⟨_, rfl, fun t ht => ?_, fun c hc => st_cell _ _ _ hc⟩
    obtain rfl : t = 0 := by omega
    rw [st_self]; rfl
  · rw [go 299 m 1 F (by omega) hm h0, go 298 (m / N) 0 _ (by omega) (by omega) (keep _ _ _ h0), stop]
    refine ⟨_, rfl, fun t ht => ?_, fun c hc => (st_cell _ _ _ hc).trans (st_cell _ _ _ hc)⟩
    rcases (by omega : t = 0 ∨ t = 1) with rfl | rfl
    · rw [st_self]; rfl
    · rw [st_ne _ _ (by omega), st_self]; rfl
  · rw [go 299 m 2 F (by omega) hm h0, go 298 (m / N) 1 _ (by omega) (by omega) (keep _ _ _ h0), go 297 (m / N / N) 0 _ (by omega) (by omega) (keep _ _ _ (keep _ _ _ h0)), stop]
    refine ⟨_, rfl, fun t ht => ?_, fun c hc => (st_cell _ _ _ hc).trans ((st_cell _ _ _ hc).trans (st_cell _ _ _ hc))⟩
    rcases (by omega : t = 0 ∨ t = 1 ∨ t = 2) with rfl | rfl | rfl
    · rw [st_self]; rfl
    · rw [st_ne _ _ (by omega), st_self]; rfl
    · rw [st_ne _ _ (by omega), st_ne _ _ (by omega), st_self]; rfl
theorem skR {N k G l r : Nat} {P S : Nat → Nat} {F : mmS} (hn : sp_num N k G P S) (hl : sp_lr N k G P S F) (hr : r ≤ 2) (hl1 : 1 ≤ l) (hl3 : l ≤ 3) : ∃ F1, m_X12_seeks_97 F (nI r) (nI l) = some F1 ∧ sp_rS (sp_sk N k P S r l (sp_pw N l)) F1 ∧ sp_fY F F1 := by
  have hN := hn.2.1
  have hN1 := hn.1
  have hp := sp_pw_le (l := l) hN
  have e5 : m_X12_seeks_97_L5 (nI l) F 300 1 0 = some (nI (sp_pw N l)) := by
    have go : ∀ n v t, t < l → m_X12_seeks_97_L5 (nI l) F (n + 1) (nI v) (nI t) = m_X12_seeks_97_L5 (nI l) F n (nI (v * N)) (nI (t + 1)) := by
      intro n v t ht
      rw [m_X12_seeks_97_L5, if_neg (nI_ge ht (by omega)), hl.1, pk_mul, zb_mlet, zb_mlet, nI_1]
    have stop : ∀ n v, m_X12_seeks_97_L5 (nI l) F (n + 1) v (nI l) = some v := by
      intro n v
      rw [m_X12_seeks_97_L5, if_pos (nI_le (by omega) (by omega))]
    rw [show m_X12_seeks_97_L5 (nI l) F 300 (1 : Int32) (0 : Int32) = m_X12_seeks_97_L5 (nI l) F 300 (nI 1) (nI 0) from rfl]
    rcases (by omega : l = 1 ∨ l = 2 ∨ l = 3) with rfl | rfl | rfl
    · rw [go 299 1 0 (by omega), stop 298, Nat.one_mul]; rfl
    · rw [go 299 1 0 (by omega), go 298 _ 1 (by omega), stop 297, Nat.one_mul]; rfl
    · rw [go 299 1 0 (by omega), go 298 _ 1 (by omega), go 297 _ 2 (by omega), stop 296, Nat.one_mul]; rfl
  have loop : ∀ d m f H, m + d = sp_pw N l → d < f → sp_rS (sp_sk N k P S r l m) H → sp_fY F H → ∃ F1, m_X12_seeks_97_L42 (nI r) (nI l) (nI (sp_pw N l)) f (nI m) H = some F1 ∧ sp_rS (sp_sk N k P S r l (sp_pw N l)) F1 ∧ sp_fY F F1 := by
    intro d
    induction d with
    | zero =>
      intro m f H h hf h1 h2
      obtain ⟨f, rfl⟩ : ∃ m, f = m + 1 := ⟨f - 1, by omega⟩
      obtain rfl : m = sp_pw N l := by omega
      rw [m_X12_seeks_97_L42, if_pos (nI_le (by omega) (by omega))]
      exact ⟨H, rfl, h1, h2⟩
    | succ d ih =>
      intro m f H h hf h1 h2
      obtain ⟨f, rfl⟩ : ∃ m, f = m + 1 := ⟨f - 1, by omega⟩
      have hsb := sp_sk_sb hn (r := r) hl3 m (by omega)
      have lH := sp_fY_lr h2 hl
      obtain ⟨A, a1, a2, a3⟩ := dgR (F := stF H 97 5 (nI l)) (m := m) hN hN1 hl1 hl3 (by omega) (by rw [st_ne _ _ (by omega)]; exact lH.1)
      have fA : sp_fY H A := ⟨fun c hc => (a3 c (by omega)).trans (st_cell _ _ _ (by omega)), fun i hi => by rw [a3 97 (by decide), st_ne _ _ (by omega)]⟩
      have fA2 := sp_fY_tr h2 fA
      have rA : sp_rr l (sp_dg N l m) A := ⟨by rw [a3 97 (by decide), st_self], a2⟩
      obtain ⟨B, b1, b2⟩ := bcR hn (sp_fY_lr fA2 hl) rA (by omega) (fun t _ => sp_dg_lt hN1)
      have fB : sp_fX A B := sp_fX_P b2
      have fB2 := sp_fY_tr fA2 (sp_fY_X fB)
      have hbe := sp_be_le (rp := sp_dg N l m) hn (l := l) (by omega)
      have q20 : ∀ i, i ≠ 5 → B 97 i = H 97 i := by
        intro i hi
        rw [b2 97 (by decide) (by decide), a3 97 (by decide), st_ne _ _ (by omega)]
      rw [m_X12_seeks_97_L42, if_neg (nI_ge (by omega) (by omega)), zb_mlet, zb_mlet, a1, zb_bd1, show m_X12_bestCost_97 A = some (nI (sp_be k P S (sp_dg N l m) l), B) from b1, zb_bd2]
      have key : ∃ C, (if (nI (sp_be k P S (sp_dg N l m) l)) ≤ (0 : Int32) then (some (B)) else (bd2 (m_X12_costOf_97 B (nI r)) fun x26 G27 => if (G27 97 20) = (-1 : Int32) then (mlet (stF G27 97 20 (nI m)) fun G28 => mlet (stF G28 97 21 x26) fun G29 => mlet (stF G29 97 22 (nI (sp_be k P S (sp_dg N l m) l))) fun G30 => some (G30)) else (if (x26 * (G27 97 22)) ≤ ((G27 97 21) * (nI (sp_be k P S (sp_dg N l m) l))) then (some (G27)) else (mlet (stF G27 97 20 (nI m)) fun G31 => mlet (stF G31 97 21 x26) fun G32 => mlet (stF G32 97 22 (nI (sp_be k P S (sp_dg N l m) l))) fun G33 => some (G33))))) = some C ∧ sp_rS (sp_s1 (sp_sk N k P S r l m) m (sp_co k P S r (sp_dg N l m) l) (sp_be k P S (sp_dg N l m) l)) C ∧ sp_fY F C := by
        unfold sp_s1
        by_cases hb0 : sp_be k P S (sp_dg N l m) l = 0
        · rw [hb0, if_pos (show nI 0 ≤ (0 : Int32) by decide), if_pos rfl]
          refine ⟨B, rfl, ?_, fB2⟩
          cases hx : sp_sk N k P S r l m with
          | none =>
            rw [hx] at h1
            show B 97 20 = -1
            rw [q20 20 (by decide)]; exact h1
          | some y =>
            rw [hx] at h1
            exact ⟨by rw [q20 20 (by decide)]; exact h1.1, by rw [q20 21 (by decide)]; exact h1.2.1, by rw [q20 22 (by decide)]; exact h1.2.2⟩
        · rw [if_neg (show ¬ nI (sp_be k P S (sp_dg N l m) l) ≤ (0 : Int32) from nI_ge (a := 0) (by omega) (by omega)), if_neg hb0]
          have rB := sp_fX_rr fB rA
          have lB := sp_fY_lr fB2 hl
          have hco := sp_co_le hn r (sp_dg N l m) l
          have cst : ∃ C, m_X12_costOf_97 B (nI r) = some (nI (sp_co k P S r (sp_dg N l m) l), C) ∧ sp_fX B C ∧ (∀ i, 19 < i → C 97 i = B 97 i) := by
            unfold m_X12_costOf_97
            rw [if_neg (show ¬ nI r = (4 : Int32) from fun e => by have := (nI_eq (a := r) (b := 4) (by omega) (by omega)).mp e; omega), rB.1]
            rcases (by omega : r = 0 ∨ r = 1 ∨ r = 2) with rfl | rfl | rfl
            · obtain ⟨F1, d1, d2, d3⟩ := rn_0 (t := l) hn lB rB (by omega) (fun t _ => sp_dg_lt hN1) (by omega)
              rw [Nat.min_self] at d2
              rw [show m_X12_runs_97 B (nI 0) (nI l) = some F1 from d1, zb_some, d2.2.1]
              exact ⟨F1, rfl, sp_fX_S d3, fun i hi => d3.2 i (by omega) (by omega)⟩
            · obtain ⟨F1, d1, ⟨g, d2⟩, d3⟩ := rn_1 (t := l) hn lB rB (by omega) (fun t _ => sp_dg_lt hN1) (by omega)
              rw [Nat.min_self] at d2
              rw [show m_X12_runs_97 B (nI 1) (nI l) = some F1 from d1, zb_some, d2.2.1]
              exact ⟨F1, rfl, sp_fX_S d3, fun i hi => d3.2 i (by omega) (by omega)⟩
            · obtain ⟨F1, d1, d2⟩ := rn_2 (t := l) hn lB rB (by omega) (fun t _ => sp_dg_lt hN1) (by omega)
              rw [Nat.min_self] at d2
              rw [show m_X12_runs_97 B (nI 2) (nI l) = some F1 from d1, zb_some, d2.1.2.1]
              exact ⟨F1, rfl, sp_fX_W d2.2.2.2, fun i hi => d2.2.2.2.2 i (by omega)⟩
          obtain ⟨C, c1, c2, c3⟩ := cst
          have fC := sp_fY_tr fB2 (sp_fY_X c2)
          rw [c1, zb_bd2]
          have fin : sp_rS (some (m, sp_co k P S r (sp_dg N l m) l, sp_be k P S (sp_dg N l m) l)) (stF (stF (stF C 97 20 (nI m)) 97 21 (nI (sp_co k P S r (sp_dg N l m) l))) 97 22 (nI (sp_be k P S (sp_dg N l m) l))) ∧ sp_fY F (stF (stF (stF C 97 20 (nI m)) 97 21 (nI (sp_co k P S r (sp_dg N l m) l))) 97 22 (nI (sp_be k P S (sp_dg N l m) l))) := by
            refine ⟨⟨?_, ?_, ?_⟩, ?_⟩
            · rw [st_ne _ _ (by omega), st_ne _ _ (by omega), st_self]
            · rw [st_ne _ _ (by omega), st_self]
            · rw [st_self]
            · refine sp_fY_tr fC ⟨fun c hc => ?_, fun i hi => ?_⟩
              · rw [st_cell _ _ _ (by omega), st_cell _ _ _ (by omega), st_cell _ _ _ (by omega)]
              · rw [st_ne _ _ (by omega), st_ne _ _ (by omega), st_ne _ _ (by omega)]
          cases hx : sp_sk N k P S r l m with
          | none =>
            rw [hx] at h1
            rw [if_pos (show C 97 20 = -1 by rw [c3 20 (by decide), q20 20 (by decide)]; exact h1), zb_mlet, zb_mlet, zb_mlet]
            exact ⟨_, rfl, fin⟩
          | some y =>
            rw [hx] at h1
            have hy := hsb y hx
            have y0 : C 97 20 = nI y.1 := by rw [c3 20 (by decide), q20 20 (by decide)]; exact h1.1
            have y1 : C 97 21 = nI y.2.1 := by rw [c3 21 (by decide), q20 21 (by decide)]; exact h1.2.1
            have y2 : C 97 22 = nI y.2.2 := by rw [c3 22 (by decide), q20 22 (by decide)]; exact h1.2.2
            rw [if_neg (show ¬ C 97 20 = -1 by rw [y0]; exact zi_m1 (by omega)), y1, y2, pk_mul, pk_mul]
            have M1 : sp_co k P S r (sp_dg N l m) l * y.2.2 ≤ 6000 * 40000 := Nat.mul_le_mul (by omega) hy.2.2.1
            have M2 : y.2.1 * sp_be k P S (sp_dg N l m) l ≤ 6000 * 40000 := Nat.mul_le_mul hy.2.1 hbe
            by_cases q : sp_co k P S r (sp_dg N l m) l * y.2.2 ≤ y.2.1 * sp_be k P S (sp_dg N l m) l
            · rw [if_pos (nI_le q (by omega))]
              refine ⟨C, rfl, ?_, fC⟩
              show sp_rS (if sp_co k P S r (sp_dg N l m) l * y.2.2 ≤ y.2.1 * sp_be k P S (sp_dg N l m) l then some y else _) C
              rw [if_pos q]
              exact ⟨y0, y1, y2⟩
            · rw [if_neg (nI_ge (by omega) (by omega)), zb_mlet, zb_mlet, zb_mlet]
              refine ⟨_, rfl, ?_⟩
              show sp_rS (if sp_co k P S r (sp_dg N l m) l * y.2.2 ≤ y.2.1 * sp_be k P S (sp_dg N l m) l then some y else some (m, sp_co k P S r (sp_dg N l m) l, sp_be k P S (sp_dg N l m) l)) _ ∧ _
              rw [if_neg q]
              exact fin
      obtain ⟨C, k1, k2, k3⟩ := key
      rw [k1, zb_bd1, zb_mlet, nI_1]
      exact ih (m + 1) f C (by omega) (by omega) k2 k3
  unfold m_X12_seeks_97
  rw [e5, zb_bd1, zb_mlet, zb_mlet, zb_mlet]
  obtain ⟨F1, a1, a2⟩ := loop (sp_pw N l) 0 300 (stF (stF (stF F 97 20 (-1)) 97 21 0) 97 22 1) (by omega) (by omega) (by
    show stF (stF (stF F 97 20 (-1)) 97 21 0) 97 22 1 97 20 = -1
    rw [st_ne _ _ (by omega), st_ne _ _ (by omega), st_self]) ⟨fun c hc => by rw [st_cell _ _ _ (by omega), st_cell _ _ _ (by omega), st_cell _ _ _ (by omega)], fun i hi => by rw [st_ne _ _ (by omega), st_ne _ _ (by omega), st_ne _ _ (by omega)]⟩
  refine ⟨F1, ?_, a2⟩
  rw [show m_X12_seeks_97_L42 (nI r) (nI l) (nI (sp_pw N l)) 300 (0 : Int32) (stF (stF (stF F 97 20 (-1)) 97 21 0) 97 22 1) = some F1 from a1, zb_bd1]
