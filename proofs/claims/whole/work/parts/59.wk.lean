/-! PURE: W, and the class's rule by it -/
def sp_W (k : Nat) (P S rp : Nat → Nat) : Nat → Nat → Nat → Nat → Nat
  | 0 => fun a b c => sp_lw k (sp_a0 P S) (fun s => if s = 0 then P a else if s = 1 then P b else P c)
  | t + 1 => sp_st k P (rp t) (sp_W k P S rp t)
theorem sp_W_sy {k : Nat} {P S rp : Nat → Nat} (hk : 1 ≤ k) (hk3 : k ≤ 3) : ∀ t, sp_sy k (sp_W k P S rp t) := by
  intro t
  induction t with
  | zero => exact sp_lw_sy hk hk3
  | succ t ih => exact sp_sy_st hk3 ih
theorem sp_W_le {N k G : Nat} {P S rp : Nat → Nat} (hn : sp_num N k G P S) : ∀ t a b c, sp_W k P S rp t a b c ≤ 3000 + 1000 * t := by
  have hP := hn.2.2.2.2.2.2.1
  intro t
  induction t with
  | zero =>
    intro a b c
    show sp_lw k (sp_a0 P S) (fun s => if s = 0 then P a else if s = 1 then P b else P c) ≤ 3000
    refine sp_lw_le hn.2.2.1 hn.2.2.2.1 (fun s _ => show sp_a0 P S s ≤ 1000 from hP (S s)) (fun s _ => ?_)
    show (if s = 0 then P a else if s = 1 then P b else P c) ≤ 1000
    split
    · exact hP _
    · split <;> exact hP _
  | succ t ih =>
    intro a b c
    exact Nat.le_trans (sp_st_le (p := rp t) hn.2.2.1 hP ih a b c) (by omega)
theorem sp_W_0 {N k G : Nat} {P S rp : Nat → Nat} (hn : sp_num N k G P S) (c : Nat) : sp_fC (sp_W k P S rp 0) c = sp_lw k (sp_a0 P S) (sp_ap P c) := by
  show sp_lw k (sp_a0 P S) (fun s => if s = 0 then P (c % 6) else if s = 1 then P (c / 6 % 6) else P (c / 36)) = _
  refine sp_lw_congr hn.2.2.1 hn.2.2.2.1 (fun _ _ => rfl) (fun s hs => ?_)
  unfold sp_ap sp_po
  show (if s = 0 then P (c % 6) else if s = 1 then P (c / 6 % 6) else P (c / 36)) = _
  split
  · rfl
  · split <;> rfl
def sp_late (k : Nat) (P : Nat → Nat) (g : Nat → Nat → Nat → Nat) (l : Nat → Nat) : Nat → Nat → Nat → Nat → Nat
  | 0 => g
  | j + 1 => sp_st k P (l j) (sp_late k P g l j)
theorem sp_late_W {k : Nat} {P S rp : Nat → Nat} {m : Nat} {l : Nat → Nat} : ∀ j, (∀ i, i < j → l i = rp (m + i)) → sp_late k P (sp_W k P S rp m) l j = sp_W k P S rp (m + j) := by
  intro j
  induction j with
  | zero => intro _; rfl
  | succ j ih =>
    intro h
    show sp_st k P (l j) _ = sp_st k P (rp (m + j)) (sp_W k P S rp (m + j))
    rw [ih (fun i hi => h i (by omega)), h j (by omega)]
/-- the standing, and who goes -/
def sp_wc (k : Nat) (P S rp : Nat → Nat) (c t : Nat) : Nat := sp_am (sp_wv P (sp_W k P S rp (t + 1)) c (rp t)) k
def sp_ws (k : Nat) (P S rp : Nat → Nat) : Nat → Nat
  | 0 => sp_s0 S
  | t + 1 => sp_mv (sp_ws k P S rp t) (sp_wc k P S rp (sp_ws k P S rp t) t) (rp t)
theorem sp_ws_vl {N k G n : Nat} {P S rp : Nat → Nat} (hn : sp_num N k G P S) (hrp : ∀ t, t < n → rp t < N) : ∀ t, t ≤ n → sp_vl N k (sp_ws k P S rp t) := by
  intro t
  induction t with
  | zero => intro _; exact sp_s0_vl hn
  | succ t ih =>
    intro ht
    exact sp_vl_mv hn.2.1 (ih (by omega)) (hrp t (by omega)) (sp_am_lt hn.2.2.1) hn.2.2.2.1
def sp_t2 (k : Nat) (P S rp : Nat → Nat) (t : Nat) (a : Nat → Nat) : (Nat → Nat) × Nat × Int32 := (sp_ua a (sp_wc k P S rp (sp_ws k P S rp t) t) (P (rp t)), pd (a (sp_wc k P S rp (sp_ws k P S rp t) t)) (P (rp t)), nI (sp_wc k P S rp (sp_ws k P S rp t) t))
def sp_R2 (k : Nat) (P S rp : Nat → Nat) (t : Nat) : (Nat → Nat) × Nat × Int32 := sp_rn (sp_t2 k P S rp) (sp_a0 P S) t
theorem sp_R2_le {N k G : Nat} {P S rp : Nat → Nat} (hn : sp_num N k G P S) (t : Nat) : (∀ s, s < k → (sp_R2 k P S rp t).1 s ≤ 1000) ∧ (sp_R2 k P S rp t).2.1 ≤ 2000 * t :=
  sp_rn_inv (Q := fun a => ∀ s, s < k → a s ≤ 1000) (n := t) (fun s _ => hn.2.2.2.2.2.2.1 _) (fun u a _ ha => by
    refine ⟨sp_ua_le ha (hn.2.2.2.2.2.2.1 _), ?_⟩
    have := pd_le (ha (sp_wc k P S rp (sp_ws k P S rp u) u) (sp_am_lt hn.2.2.1)) (hn.2.2.2.2.2.2.1 (rp u))
    show pd _ _ ≤ 2000
    omega) t (Nat.le_refl t)
def sp_pr (A B T U : Nat) : Prop := (T = A ∧ U = B) ∨ (T = B ∧ U = A)
/-- where the class's rule by work stands after t, with j points late -/
def sp_wst (N k q r A B la : Nat) (P S rp : Nat → Nat) (t j : Nat) (F : mmS) : Prop := j ≤ t ∧ sp_ob k q r (sp_R2 k P S rp t).1 (sp_R2 k P S rp t).2.1 (sp_R2 k P S rp t).2.2 F ∧ F q 5 = nI j ∧ F q 6 = nI (sp_ws k P S rp t) ∧ (∃ T U, sp_pr A B T U ∧ F q 7 = nI T ∧ F q 8 = nI U ∧ sp_tb N k T (sp_W k P S rp (t - j)) F) ∧ (∀ i, i < j → F la i = nI (rp (t - j + i)))
theorem wbg_17 {N k G : Nat} {P S rp : Nat → Nat} {F : mmS} {T U : Nat} (hn : sp_num N k G P S) (hl : sp_lc N k G P S F) (hpr : sp_pr 19 20 T U) (h7 : F 17 7 = nI T) (h8 : F 17 8 = nI U) : ∃ F1, m_X9_begin_17 F = some F1 ∧ sp_wst N k 17 18 19 20 22 P S rp 0 0 F1 ∧ F1 17 7 = nI T ∧ F1 17 8 = nI U ∧ sp_fr 17 (17 + 6) F F1 := by
  have hN := hn.2.1
  have hk3 := hn.2.2.2.1
  have hk1 := hn.2.2.1
  have hP := hn.2.2.2.2.2.2.1
  have hTl : mm_len T = 56 ∧ 17 < T ∧ T < 17 + 4 ∧ T ≠ 18 := by
    rcases hpr with ⟨rfl, rfl⟩ | ⟨rfl, rfl⟩ <;> decide
  obtain ⟨J, a1, a2, a3⟩ := sas_17 hn hl
  have fJ : sp_fr 17 (17 + 6) F J := sp_fr_up a3.2 (by omega) (by omega)
  have hb : m_X9_standAtStart_17 F = some (stF (stF J 17 6 (nI (sp_s0 S))) 17 5 0) := by
    unfold m_X9_standAtStart_17
    rw [a1, zb_some, zi_ss hn (sp_fr_lc fJ (by decide) hl), zb_some, zb_mlet, zb_mlet]
  have aim : ∀ (c : Nat) (H : mmS), sp_vl N k c → sp_lc N k G P S H → ∃ H1, m_X9_begin_17_L29 (nI c) 300 0 H = some H1 ∧ (∀ s, s < k → H1 21 s = nI (sp_ap P c s)) ∧ (∀ c, c ≠ 21 → H1 c = H c) := by
    intro c H hc hlH
    have loop : ∀ d s f H', s + d = k → d < f → (∀ c, c ≠ 21 → H' c = H c) → (∀ i, i < s → H' 21 i = nI (sp_ap P c i)) → ∃ H1, m_X9_begin_17_L29 (nI c) f (nI s) H' = some H1 ∧ (∀ s, s < k → H1 21 s = nI (sp_ap P c s)) ∧ (∀ c, c ≠ 21 → H1 c = H c) := by
      intro d
      induction d with
      | zero =>
        intro s f H' h hf h1 h2
        obtain ⟨f, rfl⟩ : ∃ m, f = m + 1 := ⟨f - 1, by omega⟩
        rw [m_X9_begin_17_L29, h1 1 (by decide), hlH.2.1, if_pos (nI_le (by omega) (by omega))]
        exact ⟨H', rfl, fun i hi => h2 i (by omega), h1⟩
      | succ d ih =>
        intro s f H' h hf h1 h2
        obtain ⟨f, rfl⟩ : ∃ m, f = m + 1 := ⟨f - 1, by omega⟩
        have hp6 := sp_po_lt (s := s) hc.1
        rw [m_X9_begin_17_L29, h1 1 (by decide), hlH.2.1, if_neg (nI_ge (by omega) (by omega)), zi_po hc.1 (by omega), zb_some, zi_rd (sp_po c s) rfl (show H' 2 (sp_po c s) = nI (P (sp_po c s)) by rw [h1 2 (by decide)]; exact hlH.2.2.2.2.1 _ hp6) (show _ < 6 from hp6), zb_some, zi_wr (q := 21) s rfl (show s < 3 by omega), zb_some, zb_mlet, nI_1]
        refine ih (s + 1) f _ (by omega) (by omega) (fun c hc => (st_cell _ _ _ hc).trans (h1 c hc)) (fun i hi => ?_)
        by_cases e : i = s
        · subst e; rw [st_self]; rfl
        · rw [st_ne _ _ (by omega)]; exact h2 i (by omega)
    exact loop k 0 300 H (by omega) (by omega) (fun _ _ => rfl) (fun i hi => by omega)
  have hlen := sp_cs_len (N := N) (k := k) (by omega) (by omega)
  generalize hJ0 : stF (stF J 17 6 (nI (sp_s0 S))) 17 5 0 = J0 at hb
  have f0 : sp_fr 17 (17 + 6) F J0 := by
    rw [← hJ0]
    exact sp_fr_tr (sp_fr_tr fJ (sp_fr_st _ _ _ (by omega) (by omega))) (sp_fr_st _ _ _ (by omega) (by omega))
  have j7 : J0 17 7 = nI T := by
    rw [← hJ0, st_ne _ _ (by omega), st_ne _ _ (by omega), a3.1 7 (by decide) (by decide)]; exact h7
  have j8 : J0 17 8 = nI U := by
    rw [← hJ0, st_ne _ _ (by omega), st_ne _ _ (by omega), a3.1 8 (by decide) (by decide)]; exact h8
  have jR : ∀ s, s < k → J0 18 s = nI (sp_a0 P S s) := by
    intro s hs
    rw [← hJ0, st_cell _ _ _ (by decide), st_cell _ _ _ (by decide)]
    exact a2.1 s (by omega)
  have loop : ∀ d i f H, i + d = (sp_cs N k).length → d < f → (∀ c, c ≠ 21 → c ≠ T → H c = J0 c) → (∀ c, sp_vl N k c → (∃ j, j < i ∧ sp_cr ((sp_cs N k).getD j 0) = sp_cr c) → H T (sp_cr c) = nI (sp_fC (sp_W k P S rp 0) c)) → ∃ F1, m_X9_begin_17_L6 f (nI i) H = some F1 ∧ sp_tb N k T (sp_W k P S rp 0) F1 ∧ (∀ c, c ≠ 21 → c ≠ T → F1 c = J0 c) := by
    intro d
    induction d with
    | zero =>
      intro i f H h hf h1 h2
      obtain ⟨f, rfl⟩ : ∃ m, f = m + 1 := ⟨f - 1, by omega⟩
      rw [m_X9_begin_17_L6, h1 1 (by decide) (by omega), (sp_fr_lc f0 (by decide) hl).2.2.2.1, if_pos (nI_le (by omega) (by omega))]
      refine ⟨H, rfl, fun c hc => h2 c hc ?_, h1⟩
      obtain ⟨j, hj, e⟩ := sp_cs_cov (N := N) (k := k) (by omega) (by omega) hc
      exact ⟨j, by omega, e⟩
    | succ d ih =>
      intro i f H h hf h1 h2
      obtain ⟨f, rfl⟩ : ∃ m, f = m + 1 := ⟨f - 1, by omega⟩
      have hi : i < (sp_cs N k).length := by omega
      have hl' : sp_lc N k G P S H := sp_lc_fr (sp_fr_lc f0 (by decide) hl) (fun c hc => h1 c (by omega) (by omega))
      have hv := sp_cs_vl (N := N) (k := k) (by omega) (by omega) hi
      have hcl := sp_cr_lt hv.1
      obtain ⟨K, b1, b2, b3⟩ := aim ((sp_cs N k).getD i 0) H hv hl'
      have hK11 : K 1 1 = nI k := by rw [b3 1 (by decide)]; exact hl'.2.1
      rw [m_X9_begin_17_L6, hl'.2.2.2.1, if_neg (nI_ge (by omega) (by omega)), zi_rd i rfl (hl'.2.2.2.2.2.2.2 i hi) (show i < 56 by omega), zb_some, b1, zb_bd1, zi_rd ((sp_cs N k).getD i 0) rfl (show K 4 ((sp_cs N k).getD i 0) = nI (sp_cr ((sp_cs N k).getD i 0)) by rw [b3 4 (by decide)]; exact hl'.2.2.2.2.2.2.1 _ hv.1) (show _ < 216 from hv.1), zb_some, zi_lw_18_21 (a := sp_a0 P S) (b := sp_ap P ((sp_cs N k).getD i 0)) hk1 hk3 hK11 (fun s _ => hP (S s)) (fun s _ => hP (sp_po _ s)) (fun s hs => by rw [b3 18 (by decide), h1 18 (by decide) (by omega)]; exact jR s hs) b2, zb_some, show K 17 7 = nI T by rw [b3 17 (by decide), h1 17 (by decide) (by omega)]; exact j7, nI_clamp (by omega), zi_wr (q := T) (sp_cr ((sp_cs N k).getD i 0)) rfl (by rw [hTl.1]; exact hcl), zb_some, zb_mlet, nI_1]
      refine ih (i + 1) f _ (by omega) (by omega) (fun c c1 c2 => ?_) (fun c hc hj => ?_)
      · rw [st_cell _ _ _ c2, b3 c c1]; exact h1 c c1 c2
      · by_cases e : sp_cr c = sp_cr ((sp_cs N k).getD i 0)
        · rw [e, st_self, sp_g_cr hk1 hk3 (sp_W_sy hk1 hk3 0) hc hv e, sp_W_0 hn]
        · rw [st_ne _ _ (fun q => e q.2), b3 T (by omega)]
          refine h2 c hc ?_
          obtain ⟨j, hj1, hj2⟩ := hj
          refine ⟨j, ?_, hj2⟩
          by_cases q : j = i
          · subst q; exact absurd hj2.symm e
          · omega
  obtain ⟨F1, c1, c2, c3⟩ := loop (sp_cs N k).length 0 300 J0 (by omega) (by omega) (fun _ _ _ => rfl) (fun c _ hj => by obtain ⟨j, hj, _⟩ := hj; omega)
  have e17 : F1 17 = J0 17 := c3 17 (by decide) (by omega)
  have e18 : F1 18 = J0 18 := c3 18 (by decide) (by omega)
  refine ⟨F1, ?_, ⟨Nat.le_refl 0, ⟨?_, ?_, ?_⟩, ?_, ?_, ⟨T, U, hpr, ?_, ?_, c2⟩, fun i hi => by omega⟩, ?_, ?_, ?_⟩
  · unfold m_X9_begin_17
    rw [hb, zb_some, show m_X9_begin_17_L6 300 (0 : Int32) J0 = m_X9_begin_17_L6 300 (nI 0) J0 from rfl, c1, zb_bd1]
  · intro s hs
    rw [e18]; exact jR s hs
  · rw [e17, ← hJ0, st_ne _ _ (by omega), st_ne _ _ (by omega)]; exact a2.2.1
  · rw [e17, ← hJ0, st_ne _ _ (by omega), st_ne _ _ (by omega)]; exact a2.2.2
  · rw [e17, ← hJ0, st_self]; rfl
  · rw [e17, ← hJ0, st_ne _ _ (by omega), st_self]; rfl
  · rw [e17]; exact j7
  · rw [e17]; exact j8
  · rw [e17]; exact j7
  · rw [e17]; exact j8
  · exact sp_fr_tr f0 (fun c hc => c3 c (by omega) (by omega))
theorem wbh_17 {N k G : Nat} {P S : Nat → Nat} {g : Nat → Nat → Nat → Nat} {l : Nat → Nat} {F : mmS} {T : Nat} (hn : sp_num N k G P S) (hl : sp_lc N k G P S F) (hT : mm_len T = 56 ∧ T < 100) (h7 : F 17 7 = nI T) (hg : ∀ a b c, g a b c ≤ 100000) (ht : sp_tb N k T g F) : ∀ j f, j < f → j ≤ 1 → (∀ i, i < j → F 22 i = nI (l i) ∧ l i < N) → ∀ c, sp_vl N k c → m_X9_worthBehind_17 f F (nI c) (nI j) = some (nI (sp_fC (sp_late k P g l j) c)) ∧ ∀ a b c, sp_late k P g l j a b c ≤ 100000 + 1000 * j := by
  have hN := hn.2.1
  have hk3 := hn.2.2.2.1
  have hk1 := hn.2.2.1
  have hP := hn.2.2.2.2.2.2.1
  intro j
  induction j with
  | zero =>
    intro f hf _ _ c hc
    obtain ⟨f, rfl⟩ : ∃ m, f = m + 1 := ⟨f - 1, by omega⟩
    refine ⟨?_, fun a b c => hg a b c⟩
    rw [m_X9_worthBehind_17, if_neg (show ¬ (0 : Int32) < nI 0 by decide), zi_rd c rfl (hl.2.2.2.2.2.2.1 _ hc.1) (show _ < 216 from hc.1), zb_some, h7, nI_clamp (by omega), zi_rd (sp_cr c) rfl (ht c hc) (by rw [hT.1]; exact sp_cr_lt hc.1), zb_some]
    rfl
  | succ j ih =>
    intro f hf hj hla c hc
    obtain ⟨f, rfl⟩ : ∃ m, f = m + 1 := ⟨f - 1, by omega⟩
    have hlj := hla j (by omega)
    have ih' := ih f (by omega) (by omega) (fun i hi => hla i (by omega))
    have hb := (ih' c hc).2
    refine ⟨?_, fun a b c => Nat.le_trans (sp_st_le (p := l j) hk1 hP hb a b c) (by omega)⟩
    have loop : ∀ d s f', s + d = k → d < f' → m_X9_worthBehind_17_L35 (nI c) (nI (j + 1)) F (nI (l j)) (m_X9_worthBehind_17 f) f' (nI (sp_mn (sp_wv P (sp_late k P g l j) c (l j)) s)) (nI s) = some (nI (sp_mn (sp_wv P (sp_late k P g l j) c (l j)) k)) := by
      intro d
      induction d with
      | zero =>
        intro s f' h hf'
        obtain ⟨f', rfl⟩ : ∃ m, f' = m + 1 := ⟨f' - 1, by omega⟩
        obtain rfl : s = k := by omega
        rw [m_X9_worthBehind_17_L35, hl.2.1, if_pos (nI_le (by omega) (by omega))]
      | succ d ihd =>
        intro s f' h hf'
        obtain ⟨f', rfl⟩ : ∃ m, f' = m + 1 := ⟨f' - 1, by omega⟩
        have hm := sp_vl_mv hN hc hlj.2 (show s < k by omega) hk3
        have w1 := sp_wv_le (c := c) (p := l j) (s := s) hP hb
        have w2 := sp_mn_B (sp_wv P (sp_late k P g l j) c (l j)) s
        rw [m_X9_worthBehind_17_L35, hl.2.1, if_neg (nI_ge (by omega) (by omega)), zi_mv hc.1 (by omega) (by omega), zb_some, nI_pred, (ih' _ hm).1, zb_some, zi_way hn hl hc.1 (by omega) (by omega), zb_some, zb_mlet, nI_add]
        have e : sp_fC (sp_late k P g l j) (sp_mv c s (l j)) + pd (P (sp_po c s)) (P (l j)) = sp_wv P (sp_late k P g l j) c (l j) s := rfl
        rw [e, pb_min (by omega) (by omega), zb_mlet, nI_1]
        exact ihd (s + 1) f' (by omega) (by omega)
    rw [m_X9_worthBehind_17, if_pos (show (0 : Int32) < nI (j + 1) from nI_lt (a := 0) (by omega) (by omega)), nI_pred, zi_rd j rfl hlj.1 (show j < 1 by omega), zb_some, show m_X9_worthBehind_17_L35 (nI c) (nI (j + 1)) F (nI (l j)) (m_X9_worthBehind_17 f) 300 (2147483647 : Int32) (0 : Int32) = m_X9_worthBehind_17_L35 (nI c) (nI (j + 1)) F (nI (l j)) (m_X9_worthBehind_17 f) 300 (nI (sp_mn (sp_wv P (sp_late k P g l j) c (l j)) 0)) (nI 0) from rfl, loop k 0 300 (by omega) (by omega), zb_bd1, ← sp_fC_st hk3 hc.1 (by omega)]
    rfl
theorem wch_17 {N k G : Nat} {P S : Nat → Nat} {g : Nat → Nat → Nat → Nat} {F : mmS} {c p j : Nat} (hn : sp_num N k G P S) (hl : sp_lc N k G P S F) (h5 : F 17 5 = nI j) (h6 : F 17 6 = nI c) (hc : sp_vl N k c) (hp : p < N) (hg : ∀ a b c, g a b c ≤ 200000) (hw : ∀ c, sp_vl N k c → m_X9_worthBehind_17 5 F (nI c) (nI j) = some (nI (sp_fC g c))) : m_X9_chosen_17 F (nI p) = some (nI (sp_am (sp_wv P g c p) k)) := by
  have hN := hn.2.1
  have hk3 := hn.2.2.2.1
  have hP := hn.2.2.2.2.2.2.1
  have loop : ∀ d s f, s + d = k → d < f → m_X9_chosen_17_L8 (nI p) F f (nI (sp_am (sp_wv P g c p) s)) (nI (sp_mn (sp_wv P g c p) s)) (nI s) = some (nI (sp_am (sp_wv P g c p) k)) := by
    intro d
    induction d with
    | zero =>
      intro s f h hf
      obtain ⟨f, rfl⟩ : ∃ m, f = m + 1 := ⟨f - 1, by omega⟩
      obtain rfl : s = k := by omega
      rw [m_X9_chosen_17_L8, hl.2.1, if_pos (nI_le (by omega) (by omega))]
    | succ d ih =>
      intro s f h hf
      obtain ⟨f, rfl⟩ : ∃ m, f = m + 1 := ⟨f - 1, by omega⟩
      have hm := sp_vl_mv hN hc hp (show s < k by omega) hk3
      have w1 := sp_wv_le (c := c) (p := p) (s := s) hP hg
      have w2 := sp_mn_B (sp_wv P g c p) s
      rw [m_X9_chosen_17_L8, hl.2.1, if_neg (nI_ge (by omega) (by omega)), h6, h5, zi_mv hc.1 (by omega) (by omega), zb_some, hw _ hm, zb_some, zi_way hn hl hc.1 (by omega) (by omega), zb_some, zb_mlet, nI_add]
      have e : sp_fC g (sp_mv c s p) + pd (P (sp_po c s)) (P p) = sp_wv P g c p s := rfl
      rw [e]
      have em : sp_mn (sp_wv P g c p) (s + 1) = min (sp_mn (sp_wv P g c p) s) (sp_wv P g c p s) := rfl
      have ea : sp_am (sp_wv P g c p) (s + 1) = if sp_wv P g c p s < sp_mn (sp_wv P g c p) s then s else sp_am (sp_wv P g c p) s := rfl
      have := ih (s + 1) f (by omega) (by omega)
      by_cases q : sp_wv P g c p s < sp_mn (sp_wv P g c p) s
      · rw [if_neg (nI_ge q (by omega)), zb_bd2, zb_mlet, nI_1]
        rw [ea, em, if_pos q, Nat.min_eq_right (by omega)] at this
        exact this
      · rw [if_pos (nI_le (by omega) (by omega)), zb_bd2, zb_mlet, nI_1]
        rw [ea, em, if_neg q, Nat.min_eq_left (by omega)] at this
        exact this
  unfold m_X9_chosen_17
  rw [show m_X9_chosen_17_L8 (nI p) F 300 (0 : Int32) (2147483647 : Int32) (0 : Int32) = m_X9_chosen_17_L8 (nI p) F 300 (nI (sp_am (sp_wv P g c p) 0)) (nI (sp_mn (sp_wv P g c p) 0)) (nI 0) from rfl, loop k 0 300 (by omega) (by omega), zb_bd1]
/-- the step, where none need be settled -/
theorem wm0_17 {N k G t j : Nat} {P S rp : Nat → Nat} {F : mmS} (hn : sp_num N k G P S) (hl : sp_lc N k G P S F) (ht : t < 40) (hrp : ∀ u, u ≤ t → rp u < N) (hj : j < 1) (hz : sp_wst N k 17 18 19 20 22 P S rp t j F) : ∃ F1, (Option.bind (ast F 22 (F 17 5) (nI (rp t))) fun G3 => mlet (stF G3 17 5 ((G3 17 5) + (1 : Int32))) fun G4 => Option.bind (m_X9_chosen_17 G4 (nI (rp t))) fun x5 => Option.bind (ald G4 2 (nI (rp t))) fun x6 => Option.bind (m_X7_send_17 G4 x5 x6) fun G7 => Option.bind (m_X3_moved (G7 17 6) x5 (nI (rp t))) fun x8 => mlet (stF G7 17 6 x8) fun G9 => some G9) = some F1 ∧ sp_wst N k 17 18 19 20 22 P S rp (t + 1) (j + 1) F1 ∧ F1 17 7 = F 17 7 ∧ F1 17 8 = F 17 8 ∧ sp_fr 17 (17 + 6) F F1 := by
  obtain ⟨hjt, ho, h5, h6, ⟨T, U, hpr, h7, h8, htb⟩, hla⟩ := hz
  have hN := hn.2.1
  have hk3 := hn.2.2.2.1
  have hk1 := hn.2.2.1
  have hP := hn.2.2.2.2.2.2.1
  have hp := hrp t (Nat.le_refl t)
  have hTl : mm_len T = 56 ∧ T < 100 ∧ T ≠ 22 ∧ T ≠ 17 ∧ T ≠ 18 := by
    rcases hpr with ⟨rfl, rfl⟩ | ⟨rfl, rfl⟩ <;> decide
  have hv := sp_ws_vl (n := t + 1) hn (fun u hu => hrp u (by omega)) t (by omega)
  rw [h5, zi_wr (q := 22) j rfl (show j < 1 from hj), zb_some, zb_mlet, st_cell _ _ _ (by decide), h5, nI_1]
  generalize hJ : stF (stF F 22 j (nI (rp t))) 17 5 (nI (j + 1)) = J
  have fJ : sp_fr 17 (17 + 6) F J := by
    rw [← hJ]
    exact sp_fr_tr (sp_fr_st _ _ _ (by omega) (by omega)) (sp_fr_st _ _ _ (by omega) (by omega))
  have lJ := sp_fr_lc fJ (by decide) hl
  have jq : ∀ i, i ≠ 5 → J 17 i = F 17 i := by
    intro i hi
    rw [← hJ, st_ne _ _ (by omega), st_cell _ _ _ (by decide)]
  have jc : ∀ c, c ≠ 17 → c ≠ 22 → J c = F c := by
    intro c c1 c2
    rw [← hJ, st_cell _ _ _ c1, st_cell _ _ _ c2]
  have j5 : J 17 5 = nI (j + 1) := by rw [← hJ, st_self]
  have jla : ∀ i, i < j + 1 → J 22 i = nI (rp (t - j + i)) := by
    intro i hi
    rw [← hJ, st_cell _ _ _ (by decide)]
    by_cases e : i = j
    · subst e; rw [st_self, show t - i + i = t by omega]
    · rw [st_ne _ _ (by omega)]; exact hla i (by omega)
  have hWle : ∀ a b c, sp_W k P S rp (t - j) a b c ≤ 100000 := fun a b c => by
    have := sp_W_le (rp := rp) hn (t - j) a b c
    omega
  have eW : sp_late k P (sp_W k P S rp (t - j)) (fun i => rp (t - j + i)) (j + 1) = sp_W k P S rp (t + 1) := by
    rw [sp_late_W (m := t - j) (j + 1) (fun i _ => rfl), show t - j + (j + 1) = t + 1 by omega]
  have hwb : ∀ c, sp_vl N k c → m_X9_worthBehind_17 5 J (nI c) (nI (j + 1)) = some (nI (sp_fC (sp_W k P S rp (t + 1)) c)) := by
    intro c hc
    rw [← eW]
    exact (wbh_17 (l := fun i => rp (t - j + i)) hn lJ ⟨hTl.1, hTl.2.1⟩ ((jq 7 (by decide)).trans h7) hWle (fun c hc => by rw [jc T (by omega) (by omega)]; exact htb c hc) (j + 1) 5 (by omega) (by omega) (fun i hi => ⟨jla i hi, hrp _ (by omega)⟩) c hc).1
  have ech := wch_17 (g := sp_W k P S rp (t + 1)) hn lJ j5 ((jq 6 (by decide)).trans h6) hv hp (fun a b c => Nat.le_trans (sp_W_le (rp := rp) hn (t + 1) a b c) (by omega)) hwb
  have hs : sp_wc k P S rp (sp_ws k P S rp t) t < k := sp_am_lt hk1
  have oJ : sp_ob k 17 18 (sp_R2 k P S rp t).1 (sp_R2 k P S rp t).2.1 (sp_R2 k P S rp t).2.2 J := ⟨fun s hs => by rw [jc 18 (by decide) (by decide)]; exact ho.1 s hs, by rw [jq 2 (by decide)]; exact ho.2.1, by rw [jq 3 (by decide)]; exact ho.2.2⟩
  obtain ⟨K, b1, b2, b3⟩ := snd_17 (s := sp_wc k P S rp (sp_ws k P S rp t) t) (x := P (rp t)) hk3 oJ hs ((sp_R2_le hn t).1 _ hs) (hP _)
  rw [show m_X9_chosen_17 J (nI (rp t)) = some (nI (sp_wc k P S rp (sp_ws k P S rp t) t)) from ech, zb_some, zi_rd (rp t) rfl (lJ.2.2.2.2.1 _ (by omega)) (show rp t < 6 by omega), zb_some, b1, zb_some, show K 17 6 = nI (sp_ws k P S rp t) by rw [b3.1 6 (by decide) (by decide), jq 6 (by decide)]; exact h6, zi_mv hv.1 (by omega) (by omega), zb_some, zb_mlet]
  have kq : ∀ i, i ≠ 6 → stF K 17 6 (nI (sp_mv (sp_ws k P S rp t) (sp_wc k P S rp (sp_ws k P S rp t) t) (rp t))) 17 i = K 17 i := fun i hi => st_ne _ _ (by omega)
  have kc : ∀ c, c ≠ 17 → stF K 17 6 (nI (sp_mv (sp_ws k P S rp t) (sp_wc k P S rp (sp_ws k P S rp t) t) (rp t))) c = K c := fun c hc => st_cell _ _ _ hc
  refine ⟨_, rfl, ⟨by omega, ⟨?_, ?_, ?_⟩, ?_, ?_, ⟨T, U, hpr, ?_, ?_, ?_⟩, ?_⟩, ?_, ?_, ?_⟩
  · intro s hsk
    rw [kc 18 (by decide)]; exact b2.1 s hsk
  · rw [kq 2 (by decide)]; exact b2.2.1
  · rw [kq 3 (by decide)]; exact b2.2.2
  · rw [kq 5 (by decide), b3.1 5 (by decide) (by decide)]; exact j5
  · rw [st_self]; rfl
  · rw [kq 7 (by decide), b3.1 7 (by decide) (by decide), jq 7 (by decide)]; exact h7
  · rw [kq 8 (by decide), b3.1 8 (by decide) (by decide), jq 8 (by decide)]; exact h8
  · intro c hc
    rw [show t + 1 - (j + 1) = t - j by omega, kc T (by omega), b3.2 T (by omega), jc T (by omega) (by omega)]
    exact htb c hc
  · intro i hi
    rw [show t + 1 - (j + 1) = t - j by omega, kc 22 (by decide), b3.2 22 (by omega)]
    exact jla i hi
  · rw [kq 7 (by decide), b3.1 7 (by decide) (by decide), jq 7 (by decide)]
  · rw [kq 8 (by decide), b3.1 8 (by decide) (by decide), jq 8 (by decide)]
  · exact sp_fr_tr (sp_fr_tr fJ (sp_fr_up b3.2 (by omega) (by omega))) (sp_fr_st _ _ _ (by omega) (by omega))
theorem wbg_91 {N k G : Nat} {P S rp : Nat → Nat} {F : mmS} {T U : Nat} (hn : sp_num N k G P S) (hl : sp_lc N k G P S F) (hpr : sp_pr 93 94 T U) (h7 : F 91 7 = nI T) (h8 : F 91 8 = nI U) : ∃ F1, m_X9_begin_91 F = some F1 ∧ sp_wst N k 91 92 93 94 96 P S rp 0 0 F1 ∧ F1 91 7 = nI T ∧ F1 91 8 = nI U ∧ sp_fr 91 (91 + 6) F F1 := by
  have hN := hn.2.1
  have hk3 := hn.2.2.2.1
  have hk1 := hn.2.2.1
  have hP := hn.2.2.2.2.2.2.1
  have hTl : mm_len T = 56 ∧ 91 < T ∧ T < 91 + 4 ∧ T ≠ 92 := by
    rcases hpr with ⟨rfl, rfl⟩ | ⟨rfl, rfl⟩ <;> decide
  obtain ⟨J, a1, a2, a3⟩ := sas_91 hn hl
  have fJ : sp_fr 91 (91 + 6) F J := sp_fr_up a3.2 (by omega) (by omega)
  have hb : m_X9_standAtStart_91 F = some (stF (stF J 91 6 (nI (sp_s0 S))) 91 5 0) := by
    unfold m_X9_standAtStart_91
    rw [a1, zb_some, zi_ss hn (sp_fr_lc fJ (by decide) hl), zb_some, zb_mlet, zb_mlet]
  have aim : ∀ (c : Nat) (H : mmS), sp_vl N k c → sp_lc N k G P S H → ∃ H1, m_X9_begin_91_L29 (nI c) 300 0 H = some H1 ∧ (∀ s, s < k → H1 95 s = nI (sp_ap P c s)) ∧ (∀ c, c ≠ 95 → H1 c = H c) := by
    intro c H hc hlH
    have loop : ∀ d s f H', s + d = k → d < f → (∀ c, c ≠ 95 → H' c = H c) → (∀ i, i < s → H' 95 i = nI (sp_ap P c i)) → ∃ H1, m_X9_begin_91_L29 (nI c) f (nI s) H' = some H1 ∧ (∀ s, s < k → H1 95 s = nI (sp_ap P c s)) ∧ (∀ c, c ≠ 95 → H1 c = H c) := by
      intro d
      induction d with
      | zero =>
        intro s f H' h hf h1 h2
        obtain ⟨f, rfl⟩ : ∃ m, f = m + 1 := ⟨f - 1, by omega⟩
        rw [m_X9_begin_91_L29, h1 1 (by decide), hlH.2.1, if_pos (nI_le (by omega) (by omega))]
        exact ⟨H', rfl, fun i hi => h2 i (by omega), h1⟩
      | succ d ih =>
        intro s f H' h hf h1 h2
        obtain ⟨f, rfl⟩ : ∃ m, f = m + 1 := ⟨f - 1, by omega⟩
        have hp6 := sp_po_lt (s := s) hc.1
        rw [m_X9_begin_91_L29, h1 1 (by decide), hlH.2.1, if_neg (nI_ge (by omega) (by omega)), zi_po hc.1 (by omega), zb_some, zi_rd (sp_po c s) rfl (show H' 2 (sp_po c s) = nI (P (sp_po c s)) by rw [h1 2 (by decide)]; exact hlH.2.2.2.2.1 _ hp6) (show _ < 6 from hp6), zb_some, zi_wr (q := 95) s rfl (show s < 3 by omega), zb_some, zb_mlet, nI_1]
        refine ih (s + 1) f _ (by omega) (by omega) (fun c hc => (st_cell _ _ _ hc).trans (h1 c hc)) (fun i hi => ?_)
        by_cases e : i = s
        · subst e; rw [st_self]; rfl
        · rw [st_ne _ _ (by omega)]; exact h2 i (by omega)
    exact loop k 0 300 H (by omega) (by omega) (fun _ _ => rfl) (fun i hi => by omega)
  have hlen := sp_cs_len (N := N) (k := k) (by omega) (by omega)
  generalize hJ0 : stF (stF J 91 6 (nI (sp_s0 S))) 91 5 0 = J0 at hb
  have f0 : sp_fr 91 (91 + 6) F J0 := by
    rw [← hJ0]
    exact sp_fr_tr (sp_fr_tr fJ (sp_fr_st _ _ _ (by omega) (by omega))) (sp_fr_st _ _ _ (by omega) (by omega))
  have j7 : J0 91 7 = nI T := by
    rw [← hJ0, st_ne _ _ (by omega), st_ne _ _ (by omega), a3.1 7 (by decide) (by decide)]; exact h7
  have j8 : J0 91 8 = nI U := by
    rw [← hJ0, st_ne _ _ (by omega), st_ne _ _ (by omega), a3.1 8 (by decide) (by decide)]; exact h8
  have jR : ∀ s, s < k → J0 92 s = nI (sp_a0 P S s) := by
    intro s hs
    rw [← hJ0, st_cell _ _ _ (by decide), st_cell _ _ _ (by decide)]
    exact a2.1 s (by omega)
  have loop : ∀ d i f H, i + d = (sp_cs N k).length → d < f → (∀ c, c ≠ 95 → c ≠ T → H c = J0 c) → (∀ c, sp_vl N k c → (∃ j, j < i ∧ sp_cr ((sp_cs N k).getD j 0) = sp_cr c) → H T (sp_cr c) = nI (sp_fC (sp_W k P S rp 0) c)) → ∃ F1, m_X9_begin_91_L6 f (nI i) H = some F1 ∧ sp_tb N k T (sp_W k P S rp 0) F1 ∧ (∀ c, c ≠ 95 → c ≠ T → F1 c = J0 c) := by
    intro d
    induction d with
    | zero =>
      intro i f H h hf h1 h2
      obtain ⟨f, rfl⟩ : ∃ m, f = m + 1 := ⟨f - 1, by omega⟩
      rw [m_X9_begin_91_L6, h1 1 (by decide) (by omega), (sp_fr_lc f0 (by decide) hl).2.2.2.1, if_pos (nI_le (by omega) (by omega))]
      refine ⟨H, rfl, fun c hc => h2 c hc ?_, h1⟩
      obtain ⟨j, hj, e⟩ := sp_cs_cov (N := N) (k := k) (by omega) (by omega) hc
      exact ⟨j, by omega, e⟩
    | succ d ih =>
      intro i f H h hf h1 h2
      obtain ⟨f, rfl⟩ : ∃ m, f = m + 1 := ⟨f - 1, by omega⟩
      have hi : i < (sp_cs N k).length := by omega
      have hl' : sp_lc N k G P S H := sp_lc_fr (sp_fr_lc f0 (by decide) hl) (fun c hc => h1 c (by omega) (by omega))
      have hv := sp_cs_vl (N := N) (k := k) (by omega) (by omega) hi
      have hcl := sp_cr_lt hv.1
      obtain ⟨K, b1, b2, b3⟩ := aim ((sp_cs N k).getD i 0) H hv hl'
      have hK11 : K 1 1 = nI k := by rw [b3 1 (by decide)]; exact hl'.2.1
      rw [m_X9_begin_91_L6, hl'.2.2.2.1, if_neg (nI_ge (by omega) (by omega)), zi_rd i rfl (hl'.2.2.2.2.2.2.2 i hi) (show i < 56 by omega), zb_some, b1, zb_bd1, zi_rd ((sp_cs N k).getD i 0) rfl (show K 4 ((sp_cs N k).getD i 0) = nI (sp_cr ((sp_cs N k).getD i 0)) by rw [b3 4 (by decide)]; exact hl'.2.2.2.2.2.2.1 _ hv.1) (show _ < 216 from hv.1), zb_some, zi_lw_92_95 (a := sp_a0 P S) (b := sp_ap P ((sp_cs N k).getD i 0)) hk1 hk3 hK11 (fun s _ => hP (S s)) (fun s _ => hP (sp_po _ s)) (fun s hs => by rw [b3 92 (by decide), h1 92 (by decide) (by omega)]; exact jR s hs) b2, zb_some, show K 91 7 = nI T by rw [b3 91 (by decide), h1 91 (by decide) (by omega)]; exact j7, nI_clamp (by omega), zi_wr (q := T) (sp_cr ((sp_cs N k).getD i 0)) rfl (by rw [hTl.1]; exact hcl), zb_some, zb_mlet, nI_1]
      refine ih (i + 1) f _ (by omega) (by omega) (fun c c1 c2 => ?_) (fun c hc hj => ?_)
      · rw [st_cell _ _ _ c2, b3 c c1]; exact h1 c c1 c2
      · by_cases e : sp_cr c = sp_cr ((sp_cs N k).getD i 0)
        · rw [e, st_self, sp_g_cr hk1 hk3 (sp_W_sy hk1 hk3 0) hc hv e, sp_W_0 hn]
        · rw [st_ne _ _ (fun q => e q.2), b3 T (by omega)]
          refine h2 c hc ?_
          obtain ⟨j, hj1, hj2⟩ := hj
          refine ⟨j, ?_, hj2⟩
          by_cases q : j = i
          · subst q; exact absurd hj2.symm e
          · omega
  obtain ⟨F1, c1, c2, c3⟩ := loop (sp_cs N k).length 0 300 J0 (by omega) (by omega) (fun _ _ _ => rfl) (fun c _ hj => by obtain ⟨j, hj, _⟩ := hj; omega)
  have e17 : F1 91 = J0 91 := c3 91 (by decide) (by omega)
  have e18 : F1 92 = J0 92 := c3 92 (by decide) (by omega)
  refine ⟨F1, ?_, ⟨Nat.le_refl 0, ⟨?_, ?_, ?_⟩, ?_, ?_, ⟨T, U, hpr, ?_, ?_, c2⟩, fun i hi => by omega⟩, ?_, ?_, ?_⟩
  · unfold m_X9_begin_91
    rw [hb, zb_some, show m_X9_begin_91_L6 300 (0 : Int32) J0 = m_X9_begin_91_L6 300 (nI 0) J0 from rfl, c1, zb_bd1]
  · intro s hs
    rw [e18]; exact jR s hs
  · rw [e17, ← hJ0, st_ne _ _ (by omega), st_ne _ _ (by omega)]; exact a2.2.1
  · rw [e17, ← hJ0, st_ne _ _ (by omega), st_ne _ _ (by omega)]; exact a2.2.2
  · rw [e17, ← hJ0, st_self]; rfl
  · rw [e17, ← hJ0, st_ne _ _ (by omega), st_self]; rfl
  · rw [e17]; exact j7
  · rw [e17]; exact j8
  · rw [e17]; exact j7
  · rw [e17]; exact j8
  · exact sp_fr_tr f0 (fun c hc => c3 c (by omega) (by omega))
theorem wbh_91 {N k G : Nat} {P S : Nat → Nat} {g : Nat → Nat → Nat → Nat} {l : Nat → Nat} {F : mmS} {T : Nat} (hn : sp_num N k G P S) (hl : sp_lc N k G P S F) (hT : mm_len T = 56 ∧ T < 100) (h7 : F 91 7 = nI T) (hg : ∀ a b c, g a b c ≤ 100000) (ht : sp_tb N k T g F) : ∀ j f, j < f → j ≤ 3 → (∀ i, i < j → F 96 i = nI (l i) ∧ l i < N) → ∀ c, sp_vl N k c → m_X9_worthBehind_91 f F (nI c) (nI j) = some (nI (sp_fC (sp_late k P g l j) c)) ∧ ∀ a b c, sp_late k P g l j a b c ≤ 100000 + 1000 * j := by
  have hN := hn.2.1
  have hk3 := hn.2.2.2.1
  have hk1 := hn.2.2.1
  have hP := hn.2.2.2.2.2.2.1
  intro j
  induction j with
  | zero =>
    intro f hf _ _ c hc
    obtain ⟨f, rfl⟩ : ∃ m, f = m + 1 := ⟨f - 1, by omega⟩
    refine ⟨?_, fun a b c => hg a b c⟩
    rw [m_X9_worthBehind_91, if_neg (show ¬ (0 : Int32) < nI 0 by decide), zi_rd c rfl (hl.2.2.2.2.2.2.1 _ hc.1) (show _ < 216 from hc.1), zb_some, h7, nI_clamp (by omega), zi_rd (sp_cr c) rfl (ht c hc) (by rw [hT.1]; exact sp_cr_lt hc.1), zb_some]
    rfl
  | succ j ih =>
    intro f hf hj hla c hc
    obtain ⟨f, rfl⟩ : ∃ m, f = m + 1 := ⟨f - 1, by omega⟩
    have hlj := hla j (by omega)
    have ih' := ih f (by omega) (by omega) (fun i hi => hla i (by omega))
    have hb := (ih' c hc).2
    refine ⟨?_, fun a b c => Nat.le_trans (sp_st_le (p := l j) hk1 hP hb a b c) (by omega)⟩
    have loop : ∀ d s f', s + d = k → d < f' → m_X9_worthBehind_91_L35 (nI c) (nI (j + 1)) F (nI (l j)) (m_X9_worthBehind_91 f) f' (nI (sp_mn (sp_wv P (sp_late k P g l j) c (l j)) s)) (nI s) = some (nI (sp_mn (sp_wv P (sp_late k P g l j) c (l j)) k)) := by
      intro d
      induction d with
      | zero =>
        intro s f' h hf'
        obtain ⟨f', rfl⟩ : ∃ m, f' = m + 1 := ⟨f' - 1, by omega⟩
        obtain rfl : s = k := by omega
        rw [m_X9_worthBehind_91_L35, hl.2.1, if_pos (nI_le (by omega) (by omega))]
      | succ d ihd =>
        intro s f' h hf'
        obtain ⟨f', rfl⟩ : ∃ m, f' = m + 1 := ⟨f' - 1, by omega⟩
        have hm := sp_vl_mv hN hc hlj.2 (show s < k by omega) hk3
        have w1 := sp_wv_le (c := c) (p := l j) (s := s) hP hb
        have w2 := sp_mn_B (sp_wv P (sp_late k P g l j) c (l j)) s
        rw [m_X9_worthBehind_91_L35, hl.2.1, if_neg (nI_ge (by omega) (by omega)), zi_mv hc.1 (by omega) (by omega), zb_some, nI_pred, (ih' _ hm).1, zb_some, zi_way hn hl hc.1 (by omega) (by omega), zb_some, zb_mlet, nI_add]
        have e : sp_fC (sp_late k P g l j) (sp_mv c s (l j)) + pd (P (sp_po c s)) (P (l j)) = sp_wv P (sp_late k P g l j) c (l j) s := rfl
        rw [e, pb_min (by omega) (by omega), zb_mlet, nI_1]
        exact ihd (s + 1) f' (by omega) (by omega)
    rw [m_X9_worthBehind_91, if_pos (show (0 : Int32) < nI (j + 1) from nI_lt (a := 0) (by omega) (by omega)), nI_pred, zi_rd j rfl hlj.1 (show j < 3 by omega), zb_some, show m_X9_worthBehind_91_L35 (nI c) (nI (j + 1)) F (nI (l j)) (m_X9_worthBehind_91 f) 300 (2147483647 : Int32) (0 : Int32) = m_X9_worthBehind_91_L35 (nI c) (nI (j + 1)) F (nI (l j)) (m_X9_worthBehind_91 f) 300 (nI (sp_mn (sp_wv P (sp_late k P g l j) c (l j)) 0)) (nI 0) from rfl, loop k 0 300 (by omega) (by omega), zb_bd1, ← sp_fC_st hk3 hc.1 (by omega)]
    rfl
theorem wch_91 {N k G : Nat} {P S : Nat → Nat} {g : Nat → Nat → Nat → Nat} {F : mmS} {c p j : Nat} (hn : sp_num N k G P S) (hl : sp_lc N k G P S F) (h5 : F 91 5 = nI j) (h6 : F 91 6 = nI c) (hc : sp_vl N k c) (hp : p < N) (hg : ∀ a b c, g a b c ≤ 200000) (hw : ∀ c, sp_vl N k c → m_X9_worthBehind_91 5 F (nI c) (nI j) = some (nI (sp_fC g c))) : m_X9_chosen_91 F (nI p) = some (nI (sp_am (sp_wv P g c p) k)) := by
  have hN := hn.2.1
  have hk3 := hn.2.2.2.1
  have hP := hn.2.2.2.2.2.2.1
  have loop : ∀ d s f, s + d = k → d < f → m_X9_chosen_91_L8 (nI p) F f (nI (sp_am (sp_wv P g c p) s)) (nI (sp_mn (sp_wv P g c p) s)) (nI s) = some (nI (sp_am (sp_wv P g c p) k)) := by
    intro d
    induction d with
    | zero =>
      intro s f h hf
      obtain ⟨f, rfl⟩ : ∃ m, f = m + 1 := ⟨f - 1, by omega⟩
      obtain rfl : s = k := by omega
      rw [m_X9_chosen_91_L8, hl.2.1, if_pos (nI_le (by omega) (by omega))]
    | succ d ih =>
      intro s f h hf
      obtain ⟨f, rfl⟩ : ∃ m, f = m + 1 := ⟨f - 1, by omega⟩
      have hm := sp_vl_mv hN hc hp (show s < k by omega) hk3
      have w1 := sp_wv_le (c := c) (p := p) (s := s) hP hg
      have w2 := sp_mn_B (sp_wv P g c p) s
      rw [m_X9_chosen_91_L8, hl.2.1, if_neg (nI_ge (by omega) (by omega)), h6, h5, zi_mv hc.1 (by omega) (by omega), zb_some, hw _ hm, zb_some, zi_way hn hl hc.1 (by omega) (by omega), zb_some, zb_mlet, nI_add]
      have e : sp_fC g (sp_mv c s p) + pd (P (sp_po c s)) (P p) = sp_wv P g c p s := rfl
      rw [e]
      have em : sp_mn (sp_wv P g c p) (s + 1) = min (sp_mn (sp_wv P g c p) s) (sp_wv P g c p s) := rfl
      have ea : sp_am (sp_wv P g c p) (s + 1) = if sp_wv P g c p s < sp_mn (sp_wv P g c p) s then s else sp_am (sp_wv P g c p) s := rfl
      have := ih (s + 1) f (by omega) (by omega)
      by_cases q : sp_wv P g c p s < sp_mn (sp_wv P g c p) s
      · rw [if_neg (nI_ge q (by omega)), zb_bd2, zb_mlet, nI_1]
        rw [ea, em, if_pos q, Nat.min_eq_right (by omega)] at this
        exact this
      · rw [if_pos (nI_le (by omega) (by omega)), zb_bd2, zb_mlet, nI_1]
        rw [ea, em, if_neg q, Nat.min_eq_left (by omega)] at this
        exact this
  unfold m_X9_chosen_91
  rw [show m_X9_chosen_91_L8 (nI p) F 300 (0 : Int32) (2147483647 : Int32) (0 : Int32) = m_X9_chosen_91_L8 (nI p) F 300 (nI (sp_am (sp_wv P g c p) 0)) (nI (sp_mn (sp_wv P g c p) 0)) (nI 0) from rfl, loop k 0 300 (by omega) (by omega), zb_bd1]
/-- the step, where none need be settled -/
theorem wm0_91 {N k G t j : Nat} {P S rp : Nat → Nat} {F : mmS} (hn : sp_num N k G P S) (hl : sp_lc N k G P S F) (ht : t < 40) (hrp : ∀ u, u ≤ t → rp u < N) (hj : j < 3) (hz : sp_wst N k 91 92 93 94 96 P S rp t j F) : ∃ F1, (Option.bind (ast F 96 (F 91 5) (nI (rp t))) fun G3 => mlet (stF G3 91 5 ((G3 91 5) + (1 : Int32))) fun G4 => Option.bind (m_X9_chosen_91 G4 (nI (rp t))) fun x5 => Option.bind (ald G4 2 (nI (rp t))) fun x6 => Option.bind (m_X7_send_91 G4 x5 x6) fun G7 => Option.bind (m_X3_moved (G7 91 6) x5 (nI (rp t))) fun x8 => mlet (stF G7 91 6 x8) fun G9 => some G9) = some F1 ∧ sp_wst N k 91 92 93 94 96 P S rp (t + 1) (j + 1) F1 ∧ F1 91 7 = F 91 7 ∧ F1 91 8 = F 91 8 ∧ sp_fr 91 (91 + 6) F F1 := by
  obtain ⟨hjt, ho, h5, h6, ⟨T, U, hpr, h7, h8, htb⟩, hla⟩ := hz
  have hN := hn.2.1
  have hk3 := hn.2.2.2.1
  have hk1 := hn.2.2.1
  have hP := hn.2.2.2.2.2.2.1
  have hp := hrp t (Nat.le_refl t)
  have hTl : mm_len T = 56 ∧ T < 100 ∧ T ≠ 96 ∧ T ≠ 91 ∧ T ≠ 92 := by
    rcases hpr with ⟨rfl, rfl⟩ | ⟨rfl, rfl⟩ <;> decide
  have hv := sp_ws_vl (n := t + 1) hn (fun u hu => hrp u (by omega)) t (by omega)
  rw [h5, zi_wr (q := 96) j rfl (show j < 3 from hj), zb_some, zb_mlet, st_cell _ _ _ (by decide), h5, nI_1]
  generalize hJ : stF (stF F 96 j (nI (rp t))) 91 5 (nI (j + 1)) = J
  have fJ : sp_fr 91 (91 + 6) F J := by
    rw [← hJ]
    exact sp_fr_tr (sp_fr_st _ _ _ (by omega) (by omega)) (sp_fr_st _ _ _ (by omega) (by omega))
  have lJ := sp_fr_lc fJ (by decide) hl
  have jq : ∀ i, i ≠ 5 → J 91 i = F 91 i := by
    intro i hi
    rw [← hJ, st_ne _ _ (by omega), st_cell _ _ _ (by decide)]
  have jc : ∀ c, c ≠ 91 → c ≠ 96 → J c = F c := by
    intro c c1 c2
    rw [← hJ, st_cell _ _ _ c1, st_cell _ _ _ c2]
  have j5 : J 91 5 = nI (j + 1) := by rw [← hJ, st_self]
  have jla : ∀ i, i < j + 1 → J 96 i = nI (rp (t - j + i)) := by
    intro i hi
    rw [← hJ, st_cell _ _ _ (by decide)]
    by_cases e : i = j
    · subst e; rw [st_self, show t - i + i = t by omega]
    · rw [st_ne _ _ (by omega)]; exact hla i (by omega)
  have hWle : ∀ a b c, sp_W k P S rp (t - j) a b c ≤ 100000 := fun a b c => by
    have := sp_W_le (rp := rp) hn (t - j) a b c
    omega
  have eW : sp_late k P (sp_W k P S rp (t - j)) (fun i => rp (t - j + i)) (j + 1) = sp_W k P S rp (t + 1) := by
    rw [sp_late_W (m := t - j) (j + 1) (fun i _ => rfl), show t - j + (j + 1) = t + 1 by omega]
  have hwb : ∀ c, sp_vl N k c → m_X9_worthBehind_91 5 J (nI c) (nI (j + 1)) = some (nI (sp_fC (sp_W k P S rp (t + 1)) c)) := by
    intro c hc
    rw [← eW]
    exact (wbh_91 (l := fun i => rp (t - j + i)) hn lJ ⟨hTl.1, hTl.2.1⟩ ((jq 7 (by decide)).trans h7) hWle (fun c hc => by rw [jc T (by omega) (by omega)]; exact htb c hc) (j + 1) 5 (by omega) (by omega) (fun i hi => ⟨jla i hi, hrp _ (by omega)⟩) c hc).1
  have ech := wch_91 (g := sp_W k P S rp (t + 1)) hn lJ j5 ((jq 6 (by decide)).trans h6) hv hp (fun a b c => Nat.le_trans (sp_W_le (rp := rp) hn (t + 1) a b c) (by omega)) hwb
  have hs : sp_wc k P S rp (sp_ws k P S rp t) t < k := sp_am_lt hk1
  have oJ : sp_ob k 91 92 (sp_R2 k P S rp t).1 (sp_R2 k P S rp t).2.1 (sp_R2 k P S rp t).2.2 J := ⟨fun s hs => by rw [jc 92 (by decide) (by decide)]; exact ho.1 s hs, by rw [jq 2 (by decide)]; exact ho.2.1, by rw [jq 3 (by decide)]; exact ho.2.2⟩
  obtain ⟨K, b1, b2, b3⟩ := snd_91 (s := sp_wc k P S rp (sp_ws k P S rp t) t) (x := P (rp t)) hk3 oJ hs ((sp_R2_le hn t).1 _ hs) (hP _)
  rw [show m_X9_chosen_91 J (nI (rp t)) = some (nI (sp_wc k P S rp (sp_ws k P S rp t) t)) from ech, zb_some, zi_rd (rp t) rfl (lJ.2.2.2.2.1 _ (by omega)) (show rp t < 6 by omega), zb_some, b1, zb_some, show K 91 6 = nI (sp_ws k P S rp t) by rw [b3.1 6 (by decide) (by decide), jq 6 (by decide)]; exact h6, zi_mv hv.1 (by omega) (by omega), zb_some, zb_mlet]
  have kq : ∀ i, i ≠ 6 → stF K 91 6 (nI (sp_mv (sp_ws k P S rp t) (sp_wc k P S rp (sp_ws k P S rp t) t) (rp t))) 91 i = K 91 i := fun i hi => st_ne _ _ (by omega)
  have kc : ∀ c, c ≠ 91 → stF K 91 6 (nI (sp_mv (sp_ws k P S rp t) (sp_wc k P S rp (sp_ws k P S rp t) t) (rp t))) c = K c := fun c hc => st_cell _ _ _ hc
  refine ⟨_, rfl, ⟨by omega, ⟨?_, ?_, ?_⟩, ?_, ?_, ⟨T, U, hpr, ?_, ?_, ?_⟩, ?_⟩, ?_, ?_, ?_⟩
  · intro s hsk
    rw [kc 92 (by decide)]; exact b2.1 s hsk
  · rw [kq 2 (by decide)]; exact b2.2.1
  · rw [kq 3 (by decide)]; exact b2.2.2
  · rw [kq 5 (by decide), b3.1 5 (by decide) (by decide)]; exact j5
  · rw [st_self]; rfl
  · rw [kq 7 (by decide), b3.1 7 (by decide) (by decide), jq 7 (by decide)]; exact h7
  · rw [kq 8 (by decide), b3.1 8 (by decide) (by decide), jq 8 (by decide)]; exact h8
  · intro c hc
    rw [show t + 1 - (j + 1) = t - j by omega, kc T (by omega), b3.2 T (by omega), jc T (by omega) (by omega)]
    exact htb c hc
  · intro i hi
    rw [show t + 1 - (j + 1) = t - j by omega, kc 96 (by decide), b3.2 96 (by omega)]
    exact jla i hi
  · rw [kq 7 (by decide), b3.1 7 (by decide) (by decide), jq 7 (by decide)]
  · rw [kq 8 (by decide), b3.1 8 (by decide) (by decide), jq 8 (by decide)]
  · exact sp_fr_tr (sp_fr_tr fJ (sp_fr_up b3.2 (by omega) (by omega))) (sp_fr_st _ _ _ (by omega) (by omega))
theorem wse {N k G t : Nat} {P S rp : Nat → Nat} {F : mmS} (hn : sp_num N k G P S) (hl : sp_lc N k G P S F) (ht : t ≤ 40) (hrp : ∀ u, u < t → rp u < N) (hz : sp_wst N k 17 18 19 20 22 P S rp t 1 F) : ∃ F1, m_X9_settle_17 F = some F1 ∧ sp_wst N k 17 18 19 20 22 P S rp t 0 F1 ∧ sp_fr 17 (17 + 6) F F1 := by
  obtain ⟨hjt, ho, h5, h6, ⟨T, U, hpr, h7, h8, htb⟩, hla⟩ := hz
  have hN := hn.2.1
  have hk3 := hn.2.2.2.1
  have hk1 := hn.2.2.1
  have hTl : mm_len T = 56 ∧ mm_len U = 56 ∧ T < 21 ∧ 18 < T ∧ U < 21 ∧ 18 < U ∧ T ≠ U := by
    rcases hpr with ⟨rfl, rfl⟩ | ⟨rfl, rfl⟩ <;> decide
  have hlen := sp_cs_len (N := N) (k := k) (by omega) (by omega)
  have hWle : ∀ a b c, sp_W k P S rp (t - 1) a b c ≤ 100000 := fun a b c => by
    have := sp_W_le (rp := rp) hn (t - 1) a b c
    omega
  have eW : sp_late k P (sp_W k P S rp (t - 1)) (fun i => rp (t - 1 + i)) 1 = sp_W k P S rp t := by
    rw [sp_late_W (m := t - 1) 1 (fun i _ => rfl), show t - 1 + 1 = t by omega]
  have loop : ∀ d i f H, i + d = (sp_cs N k).length → d < f → (∀ c, c ≠ U → H c = F c) → (∀ c, sp_vl N k c → (∃ j, j < i ∧ sp_cr ((sp_cs N k).getD j 0) = sp_cr c) → H U (sp_cr c) = nI (sp_fC (sp_W k P S rp t) c)) → ∃ F1, m_X9_settle_17_L2 f (nI i) H = some F1 ∧ sp_tb N k U (sp_W k P S rp t) F1 ∧ (∀ c, c ≠ U → F1 c = F c) := by
    intro d
    induction d with
    | zero =>
      intro i f H h hf h1 h2
      obtain ⟨f, rfl⟩ : ∃ m, f = m + 1 := ⟨f - 1, by omega⟩
      rw [m_X9_settle_17_L2, h1 1 (by omega), hl.2.2.2.1, if_pos (nI_le (by omega) (by omega))]
      refine ⟨H, rfl, fun c hc => h2 c hc ?_, h1⟩
      obtain ⟨j, hj, e⟩ := sp_cs_cov (N := N) (k := k) (by omega) (by omega) hc
      exact ⟨j, by omega, e⟩
    | succ d ih =>
      intro i f H h hf h1 h2
      obtain ⟨f, rfl⟩ : ∃ m, f = m + 1 := ⟨f - 1, by omega⟩
      have hi : i < (sp_cs N k).length := by omega
      have hl' : sp_lc N k G P S H := sp_lc_fr hl (fun c hc => h1 c (by omega))
      have hv := sp_cs_vl (N := N) (k := k) (by omega) (by omega) hi
      have hcl := sp_cr_lt hv.1
      have e17 : H 17 = F 17 := h1 17 (by omega)
      have hb := (wbh_17 (l := fun i => rp (t - 1 + i)) hn hl' ⟨hTl.1, by omega⟩ (by rw [e17]; exact h7) hWle (fun c hc => by rw [h1 T hTl.2.2.2.2.2.2]; exact htb c hc) 1 5 (by omega) (by omega) (fun i hi => ⟨by rw [h1 22 (by omega)]; exact hla i hi, hrp _ (by omega)⟩) _ hv).1
      rw [eW] at hb
      rw [m_X9_settle_17_L2, hl'.2.2.2.1, if_neg (nI_ge (by omega) (by omega)), zi_rd i rfl (hl'.2.2.2.2.2.2.2 i hi) (show i < 56 by omega), zb_some, zi_rd ((sp_cs N k).getD i 0) rfl (hl'.2.2.2.2.2.2.1 _ hv.1) (show _ < 216 from hv.1), zb_some, e17, h5, hb, zb_some, h8, nI_clamp (by omega), zi_wr (q := U) (sp_cr ((sp_cs N k).getD i 0)) rfl (by rw [hTl.2.1]; exact hcl), zb_some, zb_mlet, nI_1]
      refine ih (i + 1) f _ (by omega) (by omega) (fun c c1 => (st_cell _ _ _ c1).trans (h1 c c1)) (fun c hc hj => ?_)
      by_cases e : sp_cr c = sp_cr ((sp_cs N k).getD i 0)
      · rw [e, st_self, sp_g_cr hk1 hk3 (sp_W_sy hk1 hk3 t) hc hv e]
      · rw [st_ne _ _ (fun q => e q.2)]
        refine h2 c hc ?_
        obtain ⟨j, hj1, hj2⟩ := hj
        refine ⟨j, ?_, hj2⟩
        by_cases q : j = i
        · subst q; exact absurd hj2.symm e
        · omega
  obtain ⟨F1, c1, c2, c3⟩ := loop (sp_cs N k).length 0 300 F (by omega) (by omega) (fun _ _ => rfl) (fun c _ hj => by obtain ⟨j, hj, _⟩ := hj; omega)
  have e17 : F1 17 = F 17 := c3 17 (by omega)
  unfold m_X9_settle_17
  rw [show m_X9_settle_17_L2 300 (0 : Int32) F = m_X9_settle_17_L2 300 (nI 0) F from rfl, c1, zb_bd1, zb_mlet, zb_mlet, zb_mlet, e17]
  refine ⟨_, rfl, ⟨Nat.zero_le t, ⟨?_, ?_, ?_⟩, ?_, ?_, ⟨U, T, ?_, ?_, ?_, ?_⟩, fun i hi => by omega⟩, ?_⟩
  · intro s hs
    rw [st_cell _ _ _ (by decide), st_cell _ _ _ (by decide), st_cell _ _ _ (by decide), c3 18 (by omega)]
    exact ho.1 s hs
  · rw [st_ne _ _ (by omega), st_ne _ _ (by omega), st_ne _ _ (by omega), e17]; exact ho.2.1
  · rw [st_ne _ _ (by omega), st_ne _ _ (by omega), st_ne _ _ (by omega), e17]; exact ho.2.2
  · rw [st_self]; rfl
  · rw [st_ne _ _ (by omega), st_ne _ _ (by omega), st_ne _ _ (by omega), e17]; exact h6
  · rcases hpr with ⟨rfl, rfl⟩ | ⟨rfl, rfl⟩
    · exact .inr ⟨rfl, rfl⟩
    · exact .inl ⟨rfl, rfl⟩
  · rw [st_ne _ _ (by omega), st_ne _ _ (by omega), st_self]; exact h8
  · rw [st_ne _ _ (by omega), st_self]; exact h7
  · intro c hc
    rw [st_cell _ _ _ (by omega), st_cell _ _ _ (by omega), st_cell _ _ _ (by omega)]
    exact c2 c hc
  · exact sp_fr_tr (sp_fr_tr (sp_fr_tr (fun c hc => c3 c (by omega)) (sp_fr_st _ _ _ (by omega) (by omega))) (sp_fr_st _ _ _ (by omega) (by omega))) (sp_fr_st _ _ _ (by omega) (by omega))
def sp_w17 (N k : Nat) (P S rp : Nat → Nat) (t : Nat) (F : mmS) : Prop := ∃ j, j ≤ 1 ∧ sp_wst N k 17 18 19 20 22 P S rp t j F
theorem wm_17 {N k G t : Nat} {P S rp : Nat → Nat} {h : Int32} {F : mmS} (hn : sp_num N k G P S) (hl : sp_lc N k G P S F) (ht : t < 40) (hrp : ∀ u, u ≤ t → rp u < N) (hz : sp_w17 N k P S rp t F) : ∃ F1, m_X9_meet_17 F (nI (rp t)) h = some F1 ∧ sp_w17 N k P S rp (t + 1) F1 ∧ sp_fr 17 (17 + 6) F F1 := by
  obtain ⟨j, hj, hz⟩ := hz
  unfold m_X9_meet_17
  rw [hz.2.2.1]
  rcases (by omega : j = 0 ∨ j = 1) with rfl | rfl
  · rw [if_pos (show nI 0 < (1 : Int32) by decide), zb_bd1]
    obtain ⟨F1, a1, a2, a3, a4, a5⟩ := wm0_17 hn hl ht hrp (by omega) hz
    exact ⟨F1, a1, ⟨1, by omega, a2⟩, a5⟩
  · rw [if_neg (show ¬ nI 1 < (1 : Int32) by decide)]
    obtain ⟨H, b1, b2, b3⟩ := wse hn hl (by omega) (fun u hu => hrp u (by omega)) hz
    rw [b1, zb_some, zb_bd1]
    obtain ⟨F1, a1, a2, a3, a4, a5⟩ := wm0_17 hn (sp_fr_lc b3 (by decide) hl) ht hrp (by omega) b2
    exact ⟨F1, a1, ⟨1, by omega, a2⟩, sp_fr_tr b3 a5⟩
theorem cl_17 {N k G n t : Nat} {P S rp : Nat → Nat} {hh : Nat → Int32} {F : mmS} {T U : Nat} (hn : sp_num N k G P S) (hl : sp_lc N k G P S F) (hw : sp_rw n rp hh F) (hn40 : n ≤ 40) (hrp : ∀ t, t < n → rp t < N) (hpr : sp_pr 19 20 T U) (h7 : F 17 7 = nI T) (h8 : F 17 8 = nI U) (ht : t ≤ 40) : ∃ F1, m_X6_lead_14_17 F (nI t) = some (nI (sp_R2 k P S rp (min t n)).2.1, F1) ∧ sp_w17 N k P S rp (min t n) F1 ∧ sp_fr 17 (17 + 6) F F1 := by
  obtain ⟨F0, b1, b2, b3, b4, b5⟩ := wbg_17 (rp := rp) hn hl hpr h7 h8
  obtain ⟨F1, h1, h2⟩ := lda_17 (fun u F' => sp_w17 N k P S rp u F' ∧ sp_fr 17 (17 + 6) F F') (N := n) (rp := rp) (hh := hh) (t := t) hn40 ht hw.1 b1 ⟨⟨0, by omega, b2⟩, b5⟩ (fun u F' hu hz => (sp_fr_rw hz.2 (by decide) hw).2 u hu) (fun u F' hu hz => by
    obtain ⟨J, e1, e2, e3⟩ := wm_17 (h := hh u) hn (sp_fr_lc hz.2 (by decide) hl) (by omega) (fun v hv => hrp v (by omega)) hz.1
    exact ⟨J, e1, e2, sp_fr_tr hz.2 e3⟩)
  refine ⟨F1, ?_, h2⟩
  obtain ⟨j, -, hz⟩ := h2.1
  rw [h1, hz.2.1.2.1]
/-- W of a standing after t -/
theorem wwo {N k G n t c : Nat} {P S rp : Nat → Nat} {F : mmS} (hn : sp_num N k G P S) (hl : sp_lc N k G P S F) (ht : t ≤ 40) (hrp : ∀ u, u < t → rp u < N) (hz : sp_w17 N k P S rp t F) (hc : sp_vl N k c) : m_X9_worth_17 F (nI c) = some (nI (sp_fC (sp_W k P S rp t) c)) := by
  obtain ⟨j, hj, hjt, ho, h5, h6, ⟨T, U, hpr, h7, h8, htb⟩, hla⟩ := hz
  have hTl : mm_len T = 56 ∧ T < 100 := by
    rcases hpr with ⟨rfl, rfl⟩ | ⟨rfl, rfl⟩ <;> decide
  have hWle : ∀ a b c, sp_W k P S rp (t - j) a b c ≤ 100000 := fun a b c => by
    have := sp_W_le (rp := rp) hn (t - j) a b c
    omega
  have eW : sp_late k P (sp_W k P S rp (t - j)) (fun i => rp (t - j + i)) j = sp_W k P S rp t := by
    rw [sp_late_W (m := t - j) j (fun i _ => rfl), show t - j + j = t by omega]
  have := (wbh_17 (l := fun i => rp (t - j + i)) hn hl hTl h7 hWle htb j 5 (by omega) hj (fun i hi => ⟨hla i hi, hrp _ (by omega)⟩) c hc).1
  rw [eW] at this
  unfold m_X9_worth_17
  rw [h5, this, zb_some]
