/-! PURE: what is still to go, and the class's best way -/
def sp_V (k : Nat) (P rp : Nat → Nat) (n : Nat) : Nat → Nat → Nat → Nat → Nat
  | 0 => fun _ _ _ => 0
  | d + 1 => sp_st k P (rp (n - (d + 1))) (sp_V k P rp n d)
def sp_VT (k : Nat) (P rp : Nat → Nat) (n t : Nat) : Nat → Nat → Nat → Nat := sp_V k P rp n (n - t)
theorem sp_VT_n (k : Nat) (P rp : Nat → Nat) (n : Nat) : sp_VT k P rp n n = fun _ _ _ => 0 := by
  unfold sp_VT
  rw [Nat.sub_self]
  rfl
theorem sp_VT_t {k : Nat} {P rp : Nat → Nat} {n t : Nat} (h : t < n) : sp_VT k P rp n t = sp_st k P (rp t) (sp_VT k P rp n (t + 1)) := by
  unfold sp_VT
  rw [show n - t = (n - (t + 1)) + 1 by omega]
  show sp_st k P (rp (n - (n - (t + 1) + 1))) _ = _
  rw [show n - (n - (t + 1) + 1) = t by omega]
theorem sp_V_sy {k : Nat} {P rp : Nat → Nat} {n : Nat} (hk3 : k ≤ 3) : ∀ d, sp_sy k (sp_V k P rp n d) := by
  intro d
  induction d with
  | zero => exact ⟨fun _ _ _ _ => rfl, fun _ _ _ _ => rfl⟩
  | succ d ih => exact sp_sy_st hk3 ih
theorem sp_V_le {k : Nat} {P rp : Nat → Nat} {n : Nat} (hk : 1 ≤ k) (hP : ∀ p, P p ≤ 1000) : ∀ d a b c, sp_V k P rp n d a b c ≤ 1000 * d := by
  intro d
  induction d with
  | zero => intro a b c; exact Nat.le_refl _
  | succ d ih =>
    intro a b c
    have := sp_st_le (p := rp (n - (d + 1))) hk hP ih a b c
    show sp_st k P _ _ a b c ≤ _
    omega
theorem sp_VT_sy {k : Nat} {P rp : Nat → Nat} {n : Nat} (hk3 : k ≤ 3) (t : Nat) : sp_sy k (sp_VT k P rp n t) := sp_V_sy hk3 _
theorem sp_VT_le {k : Nat} {P rp : Nat → Nat} {n : Nat} (hk : 1 ≤ k) (hP : ∀ p, P p ≤ 1000) (hn : n ≤ 40) (t a b c : Nat) : sp_VT k P rp n t a b c ≤ 40000 := by
  have := sp_V_le (rp := rp) (n := n) hk hP (n - t) a b c
  show sp_V k P rp n (n - t) a b c ≤ _
  omega
/-- a table by crowds holds g -/
def sp_tb (N k T : Nat) (g : Nat → Nat → Nat → Nat) (F : mmS) : Prop := ∀ c, sp_vl N k c → F T (sp_cr c) = nI (sp_fC g c)
theorem sp_wv_le {P : Nat → Nat} {g : Nat → Nat → Nat → Nat} {c p s m : Nat} (hP : ∀ p, P p ≤ 1000) (hg : ∀ a b c, g a b c ≤ m) : sp_wv P g c p s ≤ m + 1000 := by
  have h1 := pd_le (hP (sp_po c s)) (hP p)
  have h2 := hg (sp_mv c s p % 6) (sp_mv c s p / 6 % 6) (sp_mv c s p / 36)
  show g _ _ _ + _ ≤ _
  omega
theorem zi_rld38 {t : Nat} (h : t < 41) : rld 38 (nI t) = some (39 + t) := pb_rld (q := 38) h (by decide)
theorem sp_ml39 {t : Nat} (h : t < 41) : mm_len (39 + t) = 56 := (show ∀ t, t < 41 → mm_len (39 + t) = 56 by decide) t h
theorem chA {N k G : Nat} {P S : Nat → Nat} {g : Nat → Nat → Nat → Nat} {F : mmS} {t c p : Nat} (hn : sp_num N k G P S) (hl : sp_lc N k G P S F) (ht : t < 40) (hg : ∀ a b c, g a b c ≤ 100000) (hT : sp_tb N k (39 + (t + 1)) g F) (hc : sp_vl N k c) (hp : p < N) : ∃ F1, m_X0_chosen_36 F (nI t) (nI c) (nI p) = some (nI (sp_am (sp_wv P g c p) k), F1) ∧ F1 36 5 = nI (sp_mn (sp_wv P g c p) k) ∧ (∀ i, i ≠ 5 → F1 36 i = F 36 i) ∧ (∀ c, c ≠ 36 → F1 c = F c) := by
  have hN := hn.2.1
  have hk3 := hn.2.2.2.1
  have hP := hn.2.2.2.2.2.2.1
  have loop : ∀ d s f H, s + d = k → d < f → (∀ i, i ≠ 5 → H 36 i = F 36 i) → (∀ c, c ≠ 36 → H c = F c) → H 36 5 = nI (sp_mn (sp_wv P g c p) s) → ∃ F1, m_X0_chosen_36_L12 (nI t) (nI c) (nI p) f (nI (sp_am (sp_wv P g c p) s)) (nI s) H = some (nI (sp_am (sp_wv P g c p) k), F1) ∧ F1 36 5 = nI (sp_mn (sp_wv P g c p) k) ∧ (∀ i, i ≠ 5 → F1 36 i = F 36 i) ∧ (∀ c, c ≠ 36 → F1 c = F c) := by
    intro d
    induction d with
    | zero =>
      intro s f H h hf h1 h2 h3
      obtain ⟨f, rfl⟩ : ∃ m, f = m + 1 := ⟨f - 1, by omega⟩
      obtain rfl : s = k := by omega
      rw [m_X0_chosen_36_L12, h2 1 (by decide), hl.2.1, if_pos (nI_le (by omega) (by omega))]
      exact ⟨H, rfl, h3, h1, h2⟩
    | succ d ih =>
      intro s f H h hf h1 h2 h3
      obtain ⟨f, rfl⟩ : ∃ m, f = m + 1 := ⟨f - 1, by omega⟩
      have hl' : sp_lc N k G P S H := sp_lc_fr hl (fun c hc => h2 c (by omega))
      have hm := sp_vl_mv hN hc hp (show s < k by omega) hk3
      have hcl := sp_cr_lt hm.1
      have w1 := sp_wv_le (c := c) (p := p) (s := s) hP hg
      have w2 := sp_mn_B (sp_wv P g c p) s
      rw [m_X0_chosen_36_L12, h2 1 (by decide), hl.2.1, if_neg (nI_ge (by omega) (by omega)), nI_1, zi_rld38 (by omega), zb_some, zi_mv hc.1 (by omega) (by omega), zb_some, zi_rd (sp_mv c s p) rfl (hl'.2.2.2.2.2.2.1 _ hm.1) (show _ < 216 from hm.1), zb_some, zi_rd (sp_cr (sp_mv c s p)) rfl (show H (39 + (t + 1)) (sp_cr (sp_mv c s p)) = nI (sp_fC g (sp_mv c s p)) by rw [h2 _ (by omega)]; exact hT _ hm) (by rw [sp_ml39 (by omega)]; exact hcl), zb_some, zi_way hn hl' hc.1 (by omega) (by omega), zb_some, zb_mlet, nI_add, h3]
      have e : sp_fC g (sp_mv c s p) + pd (P (sp_po c s)) (P p) = sp_wv P g c p s := rfl
      rw [e]
      have em : sp_mn (sp_wv P g c p) (s + 1) = min (sp_mn (sp_wv P g c p) s) (sp_wv P g c p s) := rfl
      have ea : sp_am (sp_wv P g c p) (s + 1) = if sp_wv P g c p s < sp_mn (sp_wv P g c p) s then s else sp_am (sp_wv P g c p) s := rfl
      by_cases q : sp_wv P g c p s < sp_mn (sp_wv P g c p) s
      · rw [if_neg (nI_ge q (by omega)), zb_mlet, zb_bd2, zb_mlet, nI_1]
        rw [if_pos q] at ea
        have := ih (s + 1) f (stF H 36 5 (nI (sp_wv P g c p s))) (by omega) (by omega) (fun i hi => (st_ne H _ (by omega)).trans (h1 i hi)) (fun c hc => (st_cell H _ _ hc).trans (h2 c hc)) (by rw [st_self, em]; congr 1; omega)
        rw [ea] at this
        exact this
      · rw [if_pos (nI_le (by omega) (by omega)), zb_bd2, zb_mlet, nI_1]
        rw [if_neg q] at ea
        have := ih (s + 1) f H (by omega) (by omega) h1 h2 (by rw [h3, em]; congr 1; omega)
        rw [ea] at this
        exact this
  unfold m_X0_chosen_36
  rw [zb_mlet]
  obtain ⟨F1, e1, e2⟩ := loop k 0 300 (stF F 36 5 2147483647) (by omega) (by omega) (fun i hi => st_ne F _ (by omega)) (fun c hc => st_cell F _ _ hc) (by rw [st_self]; rfl)
  refine ⟨F1, ?_, e2⟩
  rw [show m_X0_chosen_36_L12 (nI t) (nI c) (nI p) 300 (0 : Int32) (0 : Int32) (stF F 36 5 2147483647) = m_X0_chosen_36_L12 (nI t) (nI c) (nI p) 300 (nI (sp_am (sp_wv P g c p) 0)) (nI 0) (stF F 36 5 2147483647) from rfl, e1, zb_bd2]
theorem psA {N k G : Nat} {P S : Nat → Nat} {g : Nat → Nat → Nat → Nat} {F : mmS} {t p : Nat} (hn : sp_num N k G P S) (hl : sp_lc N k G P S F) (ht : t < 40) (hg : ∀ a b c, g a b c ≤ 100000) (hs : sp_sy k g) (hT : sp_tb N k (39 + (t + 1)) g F) (hp : p < N) : ∃ F1, m_X0_planStep_36 F (nI t) (nI p) = some F1 ∧ sp_tb N k (39 + t) (sp_st k P p g) F1 ∧ (∀ i, i ≠ 5 → F1 36 i = F 36 i) ∧ (∀ c, c ≠ 36 → c ≠ 39 + t → F1 c = F c) := by
  have hN := hn.2.1
  have hk3 := hn.2.2.2.1
  have hk1 := hn.2.2.1
  have hP := hn.2.2.2.2.2.2.1
  have hlen := sp_cs_len (N := N) (k := k) (by omega) (by omega)
  have loop : ∀ d i f H, i + d = (sp_cs N k).length → d < f → (∀ i, i ≠ 5 → H 36 i = F 36 i) → (∀ c, c ≠ 36 → c ≠ 39 + t → H c = F c) → (∀ c, sp_vl N k c → (∃ j, j < i ∧ sp_cr ((sp_cs N k).getD j 0) = sp_cr c) → H (39 + t) (sp_cr c) = nI (sp_fC (sp_st k P p g) c)) → ∃ F1, m_X0_planStep_36_L2 (nI t) (nI p) f (nI i) H = some F1 ∧ sp_tb N k (39 + t) (sp_st k P p g) F1 ∧ (∀ i, i ≠ 5 → F1 36 i = F 36 i) ∧ (∀ c, c ≠ 36 → c ≠ 39 + t → F1 c = F c) := by
    intro d
    induction d with
    | zero =>
      intro i f H h hf h1 h2 h3
      obtain ⟨f, rfl⟩ : ∃ m, f = m + 1 := ⟨f - 1, by omega⟩
      rw [m_X0_planStep_36_L2, h2 1 (by decide) (by omega), hl.2.2.2.1, if_pos (nI_le (by omega) (by omega))]
      refine ⟨H, rfl, fun c hc => h3 c hc ?_, h1, h2⟩
      obtain ⟨j, hj, e⟩ := sp_cs_cov (N := N) (k := k) (by omega) (by omega) hc
      exact ⟨j, by omega, e⟩
    | succ d ih =>
      intro i f H h hf h1 h2 h3
      obtain ⟨f, rfl⟩ : ∃ m, f = m + 1 := ⟨f - 1, by omega⟩
      have hi : i < (sp_cs N k).length := by omega
      have hl' : sp_lc N k G P S H := sp_lc_fr hl (fun c hc => h2 c (by omega) (by omega))
      have hv := sp_cs_vl (N := N) (k := k) (by omega) (by omega) hi
      have hcl := sp_cr_lt hv.1
      obtain ⟨J, a1, a2, a3, a4⟩ := chA (t := t) (p := p) hn hl' ht hg (fun c hc => by rw [h2 _ (by omega) (by omega)]; exact hT c hc) hv hp
      rw [m_X0_planStep_36_L2, h2 1 (by decide) (by omega), hl.2.2.2.1, if_neg (nI_ge (by omega) (by omega)), zi_rd i rfl (hl'.2.2.2.2.2.2.2 i hi) (show i < 56 by omega), zb_some, a1, zb_bd2, zi_rld38 (by omega), zb_some, zi_rd ((sp_cs N k).getD i 0) rfl (show J 4 ((sp_cs N k).getD i 0) = nI (sp_cr ((sp_cs N k).getD i 0)) by rw [a4 4 (by decide)]; exact hl'.2.2.2.2.2.2.1 _ hv.1) (show _ < 216 from hv.1), zb_some, a2, zi_wr (q := 39 + t) (sp_cr ((sp_cs N k).getD i 0)) rfl (by rw [sp_ml39 (by omega)]; exact hcl), zb_some, zb_mlet, nI_1]
      refine ih (i + 1) f _ (by omega) (by omega) (fun j hj => ?_) (fun c c1 c2 => ?_) (fun c hc hj => ?_)
      · rw [st_cell _ _ _ (by omega), a3 j hj]; exact h1 j hj
      · rw [st_cell _ _ _ c2, a4 c c1]; exact h2 c c1 c2
      · by_cases e : sp_cr c = sp_cr ((sp_cs N k).getD i 0)
        · rw [e, st_self, ← sp_fC_st hk3 hv.1 (by omega), sp_g_cr hk1 hk3 (sp_sy_st hk3 hs) hv hc e.symm]
        · rw [st_ne _ _ (fun q => e q.2), a4 _ (by omega)]
          refine h3 c hc ?_
          obtain ⟨j, hj1, hj2⟩ := hj
          refine ⟨j, ?_, hj2⟩
          by_cases q : j = i
          · subst q; exact absurd hj2.symm e
          · omega
  unfold m_X0_planStep_36
  obtain ⟨F1, e1, e2⟩ := loop (sp_cs N k).length 0 300 F (by omega) (by omega) (fun _ _ => rfl) (fun _ _ _ => rfl) (fun c _ hj => by obtain ⟨j, hj, _⟩ := hj; omega)
  refine ⟨F1, ?_, e2⟩
  rw [show m_X0_planStep_36_L2 (nI t) (nI p) 300 (0 : Int32) F = m_X0_planStep_36_L2 (nI t) (nI p) 300 (nI 0) F from rfl, e1, zb_bd1]
theorem plA {N k G n : Nat} {P S rp : Nat → Nat} {hh : Nat → Int32} {F : mmS} (hn : sp_num N k G P S) (hl : sp_lc N k G P S F) (hw : sp_rw n rp hh F) (hn40 : n ≤ 40) (hrp : ∀ t, t < n → rp t < N) : ∃ F1, m_X0_plan_36_14 F = some (nI (sp_fC (sp_VT k P rp n 0) (sp_s0 S)), F1) ∧ (∀ t, t ≤ n → sp_tb N k (39 + t) (sp_VT k P rp n t) F1) ∧ sp_fr 36 80 F F1 := by
  have hN := hn.2.1
  have hk3 := hn.2.2.2.1
  have hk1 := hn.2.2.1
  have hP := hn.2.2.2.2.2.2.1
  have l1 : ∀ d i f H, i + d = 56 → d < f → (∀ c, c ≠ 39 + n → H c = F c) → (∀ j, j < i → H (39 + n) j = 0) → ∃ F1, m_X0_plan_36_14_L2 f (nI i) H = some F1 ∧ (∀ c, c ≠ 39 + n → F1 c = F c) ∧ (∀ j, j < 56 → F1 (39 + n) j = 0) := by
    intro d
    induction d with
    | zero =>
      intro i f H h hf h1 h2
      obtain ⟨f, rfl⟩ : ∃ m, f = m + 1 := ⟨f - 1, by omega⟩
      obtain rfl : i = 56 := by omega
      rw [m_X0_plan_36_14_L2, if_pos (show (56 : Int32) ≤ nI 56 by decide)]
      exact ⟨H, rfl, h1, h2⟩
    | succ d ih =>
      intro i f H h hf h1 h2
      obtain ⟨f, rfl⟩ : ∃ m, f = m + 1 := ⟨f - 1, by omega⟩
      rw [m_X0_plan_36_14_L2, if_neg (show ¬ (56 : Int32) ≤ nI i from nI_ge (b := 56) (by omega) (by omega)), h1 14 (by omega), hw.1, zi_rld38 (by omega), zb_some, zi_wr (q := 39 + n) i rfl (by rw [sp_ml39 (by omega)]; omega), zb_some, zb_mlet, nI_1]
      refine ih (i + 1) f _ (by omega) (by omega) (fun c hc => (st_cell _ _ _ hc).trans (h1 c hc)) (fun j hj => ?_)
      by_cases e : j = i
      · subst e; rw [st_self]
      · rw [st_ne _ _ (by omega)]; exact h2 j (by omega)
  have l2 : ∀ d f H, d ≤ n → d < f → sp_fr 36 80 F H → (∀ t, d ≤ t → t ≤ n → sp_tb N k (39 + t) (sp_VT k P rp n t) H) → ∃ F1, m_X0_plan_36_14_L33 f (nI d - 1) H = some F1 ∧ sp_fr 36 80 F F1 ∧ (∀ t, t ≤ n → sp_tb N k (39 + t) (sp_VT k P rp n t) F1) := by
    intro d
    induction d with
    | zero =>
      intro f H hd hf h1 h2
      obtain ⟨f, rfl⟩ : ∃ m, f = m + 1 := ⟨f - 1, by omega⟩
      rw [m_X0_plan_36_14_L33, if_pos (show nI 0 - 1 < (0 : Int32) by decide)]
      exact ⟨H, rfl, h1, fun t ht => h2 t (by omega) ht⟩
    | succ d ih =>
      intro f H hd hf h1 h2
      obtain ⟨f, rfl⟩ : ∃ m, f = m + 1 := ⟨f - 1, by omega⟩
      rw [nI_pred, m_X0_plan_36_14_L33, if_neg (nI_pos (by omega)), zi_rd d rfl ((sp_fr_rw h1 (by decide) hw).2 d (by omega)).1 (show d < 40 by omega), zb_some]
      obtain ⟨J, a1, a2, a3, a4⟩ := psA (t := d) (p := rp d) hn (sp_fr_lc h1 (by decide) hl) (by omega) (fun a b c => Nat.le_trans (sp_VT_le hk1 hP hn40 (d + 1) a b c) (by decide)) (sp_VT_sy hk3 (d + 1)) (h2 (d + 1) (by omega) (by omega)) (hrp d (by omega))
      rw [a1, zb_some, zb_mlet, ← Int32.sub_eq_add_neg]
      refine ih f J (by omega) (by omega) (fun c hc => (a4 c (by omega) (by omega)).trans (h1 c hc)) (fun t t1 t2 => ?_)
      by_cases e : t = d
      · subst e
        rw [sp_VT_t (by omega)]
        exact a2
      · intro c hc
        rw [a4 _ (by omega) (by omega)]
        exact h2 t (by omega) t2 c hc
  obtain ⟨F1, a1, a2, a3⟩ := l1 56 0 300 F (by omega) (by omega) (fun _ _ => rfl) (fun j hj => by omega)
  obtain ⟨F2, b1, b2, b3⟩ := l2 n 300 F1 (by omega) (by omega) (fun c hc => a2 c (by omega)) (fun t t1 t2 c hc => by
    obtain rfl : t = n := by omega
    rw [sp_VT_n, a3 _ (sp_cr_lt hc.1)]
    rfl)
  refine ⟨F2, ?_, b3, b2⟩
  have hv := sp_s0_vl hn
  have hl2 := sp_fr_lc b2 (by decide) hl
  unfold m_X0_plan_36_14
  rw [show m_X0_plan_36_14_L2 300 (0 : Int32) F = m_X0_plan_36_14_L2 300 (nI 0) F from rfl, a1, zb_bd1, zb_mlet, a2 14 (by omega), hw.1, b1, zb_bd1, show rld 38 (0 : Int32) = some (39 + 0) from zi_rld38 (t := 0) (by decide), zb_some, zi_ss hn hl2, zb_some, zi_rd (sp_s0 S) rfl (hl2.2.2.2.2.2.2.1 _ hv.1) (show _ < 216 from hv.1), zb_some, zi_rd (sp_cr (sp_s0 S)) rfl (b3 0 (by omega) _ hv) (show _ < 56 from sp_cr_lt hv.1), zb_some]
/-- the walk of a best way -/
def sp_bs (k : Nat) (P rp : Nat → Nat) (n c t : Nat) : Nat := sp_am (sp_wv P (sp_VT k P rp n (t + 1)) c (rp t)) k
def sp_bw (k : Nat) (P S rp : Nat → Nat) (n : Nat) : Nat → Nat
  | 0 => sp_s0 S
  | t + 1 => sp_mv (sp_bw k P S rp n t) (sp_bs k P rp n (sp_bw k P S rp n t) t) (rp t)
def sp_bd (k : Nat) (P S rp : Nat → Nat) (n t : Nat) : Nat := pd (P (sp_po (sp_bw k P S rp n t) (sp_bs k P rp n (sp_bw k P S rp n t) t))) (P (rp t))
def sp_bc (k : Nat) (P S rp : Nat → Nat) (n : Nat) : Nat → Nat
  | 0 => 0
  | t + 1 => sp_bc k P S rp n t + sp_bd k P S rp n t
def sp_bg (k : Nat) (P S rp : Nat → Nat) (n : Nat) : Nat → Int32
  | 0 => -1
  | t + 1 => nI (sp_bs k P rp n (sp_bw k P S rp n t) t)
theorem sp_bw_vl {N k G n : Nat} {P S rp : Nat → Nat} (hn : sp_num N k G P S) (hrp : ∀ t, t < n → rp t < N) : ∀ t, t ≤ n → sp_vl N k (sp_bw k P S rp n t) := by
  intro t
  induction t with
  | zero => intro _; exact sp_s0_vl hn
  | succ t ih =>
    intro ht
    exact sp_vl_mv hn.2.1 (ih (by omega)) (hrp t (by omega)) (sp_am_lt hn.2.2.1) hn.2.2.2.1
def sp_ap (P : Nat → Nat) (c s : Nat) : Nat := P (sp_po c s)
/-- where the class's best way stands after t -/
def sp_aw (N k : Nat) (P S rp : Nat → Nat) (n : Nat) (t : Nat) (F : mmS) : Prop := sp_ob k 36 37 (sp_ap P (sp_bw k P S rp n t)) (sp_bc k P S rp n t) (sp_bg k P S rp n t) F ∧ F 36 6 = nI (sp_bw k P S rp n t) ∧ F 36 7 = nI t ∧ (∀ t, t ≤ n → sp_tb N k (39 + t) (sp_VT k P rp n t) F)
theorem awm {N k G n u : Nat} {P S rp : Nat → Nat} {h : Int32} {F : mmS} (hn : sp_num N k G P S) (hl : sp_lc N k G P S F) (hn40 : n ≤ 40) (hrp : ∀ t, t < n → rp t < N) (hu : u < n) (hz : sp_aw N k P S rp n u F) : ∃ F1, m_X0_meet_36 F (nI (rp u)) h = some F1 ∧ sp_aw N k P S rp n (u + 1) F1 ∧ sp_fr 36 38 F F1 := by
  obtain ⟨z1, z2, z3, z4⟩ := hz
  have hN := hn.2.1
  have hk3 := hn.2.2.2.1
  have hk1 := hn.2.2.1
  have hP := hn.2.2.2.2.2.2.1
  have hv := sp_bw_vl hn hrp u (by omega)
  have hp := hrp u hu
  have hs : sp_bs k P rp n (sp_bw k P S rp n u) u < k := sp_am_lt hk1
  obtain ⟨J, a1, a2, a3, a4⟩ := chA (t := u) (p := rp u) hn hl (by omega) (fun a b c => Nat.le_trans (sp_VT_le hk1 hP hn40 (u + 1) a b c) (by decide)) (z4 (u + 1) (by omega)) hv hp
  have oJ : sp_ob k 36 37 (sp_ap P (sp_bw k P S rp n u)) (sp_bc k P S rp n u) (sp_bg k P S rp n u) J := ⟨fun s hs => by rw [a4 37 (by decide)]; exact z1.1 s hs, by rw [a3 2 (by decide)]; exact z1.2.1, by rw [a3 3 (by decide)]; exact z1.2.2⟩
  obtain ⟨K, b1, b2, b3⟩ := snd_36 (s := sp_bs k P rp n (sp_bw k P S rp n u) u) (x := P (rp u)) hk3 oJ hs (hP _) (hP _)
  unfold m_X0_meet_36
  rw [z3, if_pos (show nI u < (40 : Int32) from nI_lt (b := 40) (by omega) (by omega)), z2, a1, zb_bd2, zi_rd (rp u) rfl (show J 2 (rp u) = nI (P (rp u)) by rw [a4 2 (by decide)]; exact hl.2.2.2.2.1 _ (by omega)) (show rp u < 6 by omega), zb_some, show m_X7_send_36 J (nI (sp_am (sp_wv P (sp_VT k P rp n (u + 1)) (sp_bw k P S rp n u) (rp u)) k)) (nI (P (rp u))) = some K from b1, zb_some, show K 36 6 = nI (sp_bw k P S rp n u) by rw [b3.1 6 (by decide) (by decide), a3 6 (by decide)]; exact z2, zi_mv (s := sp_am (sp_wv P (sp_VT k P rp n (u + 1)) (sp_bw k P S rp n u) (rp u)) k) hv.1 (by omega) (by have : sp_am (sp_wv P (sp_VT k P rp n (u + 1)) (sp_bw k P S rp n u) (rp u)) k < k := hs; omega), zb_some, zb_mlet, zb_mlet]
  have e7 : stF K 36 6 (nI (sp_mv (sp_bw k P S rp n u) (sp_am (sp_wv P (sp_VT k P rp n (u + 1)) (sp_bw k P S rp n u) (rp u)) k) (rp u))) 36 7 = nI u := by
    rw [st_ne _ _ (by omega), b3.1 7 (by decide) (by decide), a3 7 (by decide)]; exact z3
  rw [e7, nI_1]
  refine ⟨_, rfl, ⟨⟨?_, ?_, ?_⟩, ?_, ?_, ?_⟩, ?_⟩
  · intro s hsk
    rw [st_cell _ _ _ (by decide), st_cell _ _ _ (by decide), b2.1 s hsk]
    show nI (sp_ua _ _ _ s) = nI (P (sp_po (sp_mv _ _ _) s))
    rw [sp_mv_po hv.1 (by omega) (by omega) (by omega)]
    unfold sp_ua sp_ap
    split <;> rfl
  · rw [st_ne _ _ (by omega), st_ne _ _ (by omega), b2.2.1]
    rfl
  · rw [st_ne _ _ (by omega), st_ne _ _ (by omega), b2.2.2]
    rfl
  · rw [st_ne _ _ (by omega), st_self]
    rfl
  · rw [st_self]
  · intro t ht c hc
    rw [st_cell _ _ _ (by omega), st_cell _ _ _ (by omega), b3.2 _ (by omega), a4 _ (by omega)]
    exact z4 t ht c hc
  · exact sp_fr_tr (sp_fr_tr (sp_fr_tr (fun c hc => a4 c (by omega)) b3.2) (sp_fr_st _ _ _ (by decide) (by decide))) (sp_fr_st _ _ _ (by decide) (by decide))
theorem aws {N k G n : Nat} {P S rp : Nat → Nat} {F : mmS} (hn : sp_num N k G P S) (hl : sp_lc N k G P S F) (hT : ∀ t, t ≤ n → sp_tb N k (39 + t) (sp_VT k P rp n t) F) : ∃ F1, m_X7_begin_36 F = some F1 ∧ sp_aw N k P S rp n 0 F1 ∧ sp_fr 36 38 F F1 := by
  obtain ⟨J, a1, a2, a3⟩ := sas_36 hn hl
  unfold m_X7_begin_36 m_X0_standAtStart_36
  rw [a1, zb_some, zi_ss hn (sp_fr_lc a3.2 (by decide) hl), zb_some, zb_mlet, zb_mlet, zb_some]
  refine ⟨_, rfl, ⟨⟨?_, ?_, ?_⟩, ?_, ?_, ?_⟩, ?_⟩
  · intro s hs
    have hk3 := hn.2.2.2.1
    rw [st_cell _ _ _ (by decide), st_cell _ _ _ (by decide), a2.1 s (by omega)]
    show nI (P (S s)) = nI (P (sp_po (sp_s0 S) s))
    rw [sp_s0_po hn (by omega)]
  · rw [st_ne _ _ (by omega), st_ne _ _ (by omega), a2.2.1]
    rfl
  · rw [st_ne _ _ (by omega), st_ne _ _ (by omega), a2.2.2]
    rfl
  · rw [st_ne _ _ (by omega), st_self]
    rfl
  · rw [st_self]
    rfl
  · intro t ht c hc
    rw [st_cell _ _ _ (by omega), st_cell _ _ _ (by omega), a3.2 _ (by omega)]
    exact hT t ht c hc
  · exact sp_fr_tr (sp_fr_tr a3.2 (sp_fr_st _ _ _ (by decide) (by decide))) (sp_fr_st _ _ _ (by decide) (by decide))
theorem cl_36 {N k G n t : Nat} {P S rp : Nat → Nat} {hh : Nat → Int32} {F : mmS} (hn : sp_num N k G P S) (hl : sp_lc N k G P S F) (hw : sp_rw n rp hh F) (hn40 : n ≤ 40) (hrp : ∀ t, t < n → rp t < N) (hT : ∀ t, t ≤ n → sp_tb N k (39 + t) (sp_VT k P rp n t) F) (ht : t ≤ 40) : ∃ F1, m_X6_lead_14_36 F (nI t) = some (nI (sp_bc k P S rp n (min t n)), F1) ∧ sp_aw N k P S rp n (min t n) F1 ∧ sp_fr 36 38 F F1 := by
  obtain ⟨F0, b1, b2, b3⟩ := aws hn hl hT
  obtain ⟨F1, h1, h2⟩ := lda_36 (fun u F' => sp_aw N k P S rp n u F' ∧ sp_fr 36 38 F F') (N := n) (rp := rp) (hh := hh) (t := t) hn40 ht hw.1 b1 ⟨b2, b3⟩ (fun u F' hu hz => (sp_fr_rw hz.2 (by decide) hw).2 u hu) (fun u F' hu hz => by
    obtain ⟨J, e1, e2, e3⟩ := awm (h := hh u) hn (sp_fr_lc hz.2 (by decide) hl) hn40 hrp hu hz.1
    exact ⟨J, e1, e2, sp_fr_tr hz.2 e3⟩)
  refine ⟨F1, ?_, h2⟩
  rw [h1, h2.1.1.2.1]
