/-! PURE: the guarded rule on both sides -/
def sp_tw (k G : Nat) (P S rp : Nat → Nat) (hh : Nat → Int32) : Nat → Bool
  | 0 => true
  | t + 1 => if sp_tw k G P S rp hh t = true then decide ((sp_R3 k P S rp hh (t + 1)).2.1 ≤ G * (sp_R1 k P S rp (t + 1)).2.1) else !decide ((sp_R1 k P S rp (t + 1)).2.1 ≤ G * (sp_R3 k P S rp hh (t + 1)).2.1)
def sp_tI (w : Bool) : Int32 := if w = true then 3 else 1
def sp_gp (k G : Nat) (P S rp : Nat → Nat) (hh : Nat → Int32) (t : Nat) : Nat → Nat := if sp_tw k G P S rp hh t = true then (sp_R3 k P S rp hh t).1 else (sp_R1 k P S rp t).1
def sp_gc (k G : Nat) (P S rp : Nat → Nat) (hh : Nat → Int32) : Nat → Nat
  | 0 => 0
  | t + 1 => sp_gc k G P S rp hh t + sp_lw k (sp_gp k G P S rp hh t) (sp_gp k G P S rp hh (t + 1))
theorem sp_gp_le {N k G n : Nat} {P S rp : Nat → Nat} {hh : Nat → Int32} (hn : sp_num N k G P S) (hk : sp_hok k n hh) (t : Nat) (ht : t ≤ n) : ∀ s, s < k → sp_gp k G P S rp hh t s ≤ 1000 := by
  unfold sp_gp
  split
  · exact (sp_R3_le hn hk t ht).1
  · exact (sp_R1_le hn t).1
theorem sp_gc_le {N k G n : Nat} {P S rp : Nat → Nat} {hh : Nat → Int32} (hn : sp_num N k G P S) (hk : sp_hok k n hh) : ∀ (t : Nat) (ht : t ≤ n), sp_gc k G P S rp hh t ≤ 3000 * t := by
  intro t
  induction t with
  | zero => intro _; exact Nat.le_refl _
  | succ t ih =>
    intro ht
    have h1 := ih (by omega)
    have h2 := sp_lw_le hn.2.2.1 hn.2.2.2.1 (sp_gp_le (rp := rp) hn hk t (by omega)) (sp_gp_le (rp := rp) hn hk (t + 1) ht)
    show sp_gc k G P S rp hh t + _ ≤ _
    omega
theorem sta_25 {k c : Nat} {a b : Nat → Nat} {F : mmS} (hk : 1 ≤ k) (hk3 : k ≤ 3) (h11 : F 1 1 = nI k) (ea : ∀ s, s < k → F 24 s = nI (a s)) (eb : ∀ s, s < k → F 26 s = nI (b s)) (ha : ∀ s, s < k → a s ≤ 1000) (hb : ∀ s, s < k → b s ≤ 1000) (hc : F 23 2 = nI c) : ∃ F1, m_X2_standAs_23_25 F = some F1 ∧ (∀ s, s < k → F1 24 s = nI (b s)) ∧ F1 23 2 = nI (c + sp_lw k a b) ∧ (∀ i, i ≠ 2 → F1 23 i = F 23 i) ∧ (∀ c, c ≠ 23 → c ≠ 24 → F1 c = F c) := by
  have loop : ∀ d s n H, s + d = k → d < n → (∀ c, c ≠ 23 → c ≠ 24 → H c = F c) → (∀ i, i < s → H 24 i = nI (b i)) → ∃ F1, m_X2_standAs_23_25_L26 n (nI s) H = some F1 ∧ (∀ i, i < k → F1 24 i = nI (b i)) ∧ (∀ c, c ≠ 24 → F1 c = H c) := by
    intro d
    induction d with
    | zero =>
      intro s n H h hn hf hi
      obtain ⟨n, rfl⟩ : ∃ m, n = m + 1 := ⟨n - 1, by omega⟩
      rw [m_X2_standAs_23_25_L26, hf 1 (by decide) (by decide), h11, if_pos (nI_le (by omega) (by omega))]
      exact ⟨H, rfl, fun i hik => hi i (by omega), fun _ _ => rfl⟩
    | succ d ih =>
      intro s n H h hn hf hi
      obtain ⟨n, rfl⟩ : ∃ m, n = m + 1 := ⟨n - 1, by omega⟩
      rw [m_X2_standAs_23_25_L26, hf 1 (by decide) (by decide), h11, if_neg (nI_ge (by omega) (by omega)), zi_rd s rfl (show H 26 s = nI (b s) by rw [hf 26 (by decide) (by decide)]; exact eb s (by omega)) (show s < 3 by omega), Option.bind_some, zi_wr (q := 24) s rfl (show s < 3 by omega), Option.bind_some, zb_mlet, nI_1]
      obtain ⟨F1, h1, h2, h3⟩ := ih (s + 1) n (stF H 24 s (nI (b s))) (by omega) (by omega) (fun c q1 q2 => (st_cell H s _ q2).trans (hf c q1 q2)) (fun i hi2 => by
        by_cases e : i = s
        · subst e; rw [st_self]
        · rw [st_ne _ _ (by omega)]; exact hi i (by omega))
      exact ⟨F1, h1, h2, fun c q => (h3 c q).trans (st_cell H s _ q)⟩
  unfold m_X2_standAs_23_25
  rw [zi_lw_24_26 hk hk3 h11 ha hb ea eb, Option.bind_some, zb_mlet, hc, nI_add]
  obtain ⟨F1, h1, h2, h3⟩ := loop k 0 300 (stF F 23 2 (nI (c + sp_lw k a b))) (by omega) (by omega) (fun c q1 _ => st_cell F 2 _ q1) (fun i hi => by omega)
  refine ⟨F1, ?_, h2, ?_, ?_, ?_⟩
  · rw [show m_X2_standAs_23_25_L26 300 (0 : Int32) (stF F 23 2 (nI (c + sp_lw k a b))) = m_X2_standAs_23_25_L26 300 (nI 0) (stF F 23 2 (nI (c + sp_lw k a b))) from rfl, h1]
    rfl
  · rw [h3 23 (by decide), st_self]
  · intro i hi
    rw [h3 23 (by decide), st_ne _ _ (by omega)]
  · intro c q1 q2
    rw [h3 c q2, st_cell F 2 _ q1]
theorem sta_27 {k c : Nat} {a b : Nat → Nat} {F : mmS} (hk : 1 ≤ k) (hk3 : k ≤ 3) (h11 : F 1 1 = nI k) (ea : ∀ s, s < k → F 24 s = nI (a s)) (eb : ∀ s, s < k → F 28 s = nI (b s)) (ha : ∀ s, s < k → a s ≤ 1000) (hb : ∀ s, s < k → b s ≤ 1000) (hc : F 23 2 = nI c) : ∃ F1, m_X2_standAs_23_27 F = some F1 ∧ (∀ s, s < k → F1 24 s = nI (b s)) ∧ F1 23 2 = nI (c + sp_lw k a b) ∧ (∀ i, i ≠ 2 → F1 23 i = F 23 i) ∧ (∀ c, c ≠ 23 → c ≠ 24 → F1 c = F c) := by
  have loop : ∀ d s n H, s + d = k → d < n → (∀ c, c ≠ 23 → c ≠ 24 → H c = F c) → (∀ i, i < s → H 24 i = nI (b i)) → ∃ F1, m_X2_standAs_23_27_L26 n (nI s) H = some F1 ∧ (∀ i, i < k → F1 24 i = nI (b i)) ∧ (∀ c, c ≠ 24 → F1 c = H c) := by
    intro d
    induction d with
    | zero =>
      intro s n H h hn hf hi
      obtain ⟨n, rfl⟩ : ∃ m, n = m + 1 := ⟨n - 1, by omega⟩
      rw [m_X2_standAs_23_27_L26, hf 1 (by decide) (by decide), h11, if_pos (nI_le (by omega) (by omega))]
      exact ⟨H, rfl, fun i hik => hi i (by omega), fun _ _ => rfl⟩
    | succ d ih =>
      intro s n H h hn hf hi
      obtain ⟨n, rfl⟩ : ∃ m, n = m + 1 := ⟨n - 1, by omega⟩
      rw [m_X2_standAs_23_27_L26, hf 1 (by decide) (by decide), h11, if_neg (nI_ge (by omega) (by omega)), zi_rd s rfl (show H 28 s = nI (b s) by rw [hf 28 (by decide) (by decide)]; exact eb s (by omega)) (show s < 3 by omega), Option.bind_some, zi_wr (q := 24) s rfl (show s < 3 by omega), Option.bind_some, zb_mlet, nI_1]
      obtain ⟨F1, h1, h2, h3⟩ := ih (s + 1) n (stF H 24 s (nI (b s))) (by omega) (by omega) (fun c q1 q2 => (st_cell H s _ q2).trans (hf c q1 q2)) (fun i hi2 => by
        by_cases e : i = s
        · subst e; rw [st_self]
        · rw [st_ne _ _ (by omega)]; exact hi i (by omega))
      exact ⟨F1, h1, h2, fun c q => (h3 c q).trans (st_cell H s _ q)⟩
  unfold m_X2_standAs_23_27
  rw [zi_lw_24_28 hk hk3 h11 ha hb ea eb, Option.bind_some, zb_mlet, hc, nI_add]
  obtain ⟨F1, h1, h2, h3⟩ := loop k 0 300 (stF F 23 2 (nI (c + sp_lw k a b))) (by omega) (by omega) (fun c q1 _ => st_cell F 2 _ q1) (fun i hi => by omega)
  refine ⟨F1, ?_, h2, ?_, ?_, ?_⟩
  · rw [show m_X2_standAs_23_27_L26 300 (0 : Int32) (stF F 23 2 (nI (c + sp_lw k a b))) = m_X2_standAs_23_27_L26 300 (nI 0) (stF F 23 2 (nI (c + sp_lw k a b))) from rfl, h1]
    rfl
  · rw [h3 23 (by decide), st_self]
  · intro i hi
    rw [h3 23 (by decide), st_ne _ _ (by omega)]
  · intro c q1 q2
    rw [h3 c q2, st_cell F 2 _ q1]
theorem zi_dear (G x y : Nat) (hx : x < 2 ^ 31) (hy : G * y < 2 ^ 31) : (if nI x ≤ nI G * nI y then (Option.bind (zg (0 : Int32)) fun x1 => some (x1)) else (Option.bind (zg (1 : Int32)) fun x2 => some (x2))) = some (if x ≤ G * y then 0 else 1) := by
  rw [pk_mul]
  by_cases q : x ≤ G * y
  · rw [if_pos (nI_le q hy), if_pos q]; rfl
  · rw [if_neg (nI_ge (by omega) hx), if_neg q]; rfl
/-- where the guarded rule stands after t -/
def sp_gs (k G : Nat) (P S rp : Nat → Nat) (hh : Nat → Int32) (F : mmS) (t : Nat) (F' : mmS) : Prop := (∃ g, sp_ob k 25 26 (sp_R1 k P S rp t).1 (sp_R1 k P S rp t).2.1 g F') ∧ sp_ob k 27 28 (sp_R3 k P S rp hh t).1 (sp_R3 k P S rp hh t).2.1 (sp_R3 k P S rp hh t).2.2 F' ∧ F' 27 4 = 1 ∧ F' 23 6 = sp_tI (sp_tw k G P S rp hh t) ∧ (∀ s, s < k → F' 24 s = nI (sp_gp k G P S rp hh t s)) ∧ F' 23 2 = nI (sp_gc k G P S rp hh t) ∧ sp_fr 23 29 F F'
theorem gsm {N k G n u : Nat} {P S rp : Nat → Nat} {hh : Nat → Int32} {F F' : mmS} (hn : sp_num N k G P S) (hl : sp_lc N k G P S F) (hn40 : n ≤ 40) (hrp : ∀ t, t < n → rp t < N) (hok : sp_hok k n hh) (hu : u < n) (hz : sp_gs k G P S rp hh F u F') : ∃ F1, m_X2_meet_23 F' (nI (rp u)) (hh u) = some F1 ∧ sp_gs k G P S rp hh F (u + 1) F1 := by
  obtain ⟨⟨g, z1⟩, z2, z3, z4, z5, z6, z7⟩ := hz
  have hN := hn.2.1
  have hG := hn.2.2.2.2.2.1
  have hk3 := hn.2.2.2.1
  have hl' := sp_fr_lc z7 (by decide) hl
  obtain ⟨H1, g1, a1, a2, a3⟩ := mee_25 (h := hh u) (p := rp u) hn hl' z1 (sp_R1_le hn u).1 (by have := hrp u hu; omega)
  have f1 : sp_fr 23 29 F H1 := sp_fr_tr z7 (sp_fr_up a3.2 (by decide) (by decide))
  obtain ⟨H2, b1, b2, b3⟩ := mee_27 (h := hh u) (p := rp u) hn (sp_fr_lc f1 (by decide) hl) ((congrFun (a3.2 27 (by omega)) 4).trans z3) (sp_ob_fr z2 (a3.2 27 (by omega)) (a3.2 28 (by omega))) (sp_R3_le hn hok u (by omega)).1 (by have := hrp u hu; omega) (hok u hu)
  have f2 : sp_fr 23 29 F H2 := sp_fr_tr f1 (sp_fr_up b3.2 (by decide) (by decide))
  have c1 : sp_ob k 25 26 (sp_R1 k P S rp (u + 1)).1 (sp_R1 k P S rp (u + 1)).2.1 g1 H2 := sp_ob_fr a2 (b3.2 25 (by omega)) (b3.2 26 (by omega))
  have c2 : sp_ob k 27 28 (sp_R3 k P S rp hh (u + 1)).1 (sp_R3 k P S rp hh (u + 1)).2.1 (sp_R3 k P S rp hh (u + 1)).2.2 H2 := b2
  have c3 : H2 27 4 = 1 := (b3.1 4 (by decide) (by decide)).trans ((congrFun (a3.2 27 (by omega)) 4).trans z3)
  have e23 : H2 23 = F' 23 := (b3.2 23 (by omega)).trans (a3.2 23 (by omega))
  have e24 : H2 24 = F' 24 := (b3.2 24 (by omega)).trans (a3.2 24 (by omega))
  have l2 := sp_fr_lc f2 (by decide) hl
  have m1 := (sp_R1_le (rp := rp) hn (u + 1)).2
  have m3 := (sp_R3_le (rp := rp) hn hok (u + 1) (by omega)).2
  have M1 : G * (sp_R1 k P S rp (u + 1)).2.1 < 2 ^ 31 := Nat.lt_of_le_of_lt (Nat.mul_le_mul hG m1) (by omega)
  have M3 : G * (sp_R3 k P S rp hh (u + 1)).2.1 < 2 ^ 31 := Nat.lt_of_le_of_lt (Nat.mul_le_mul hG m3) (by omega)
  unfold m_X2_meet_23
  rw [a1, zb_some, b1, zb_some]
  have key : (if (H2 23 6) = (3 : Int32) then (Option.bind (m_X2_isTooDear_23_27_25 H2) fun x6 => bd1 (if x6 = (0 : Int32) then (some ((3 : Int32))) else (some ((1 : Int32)))) fun y7 => mlet (stF H2 23 6 y7) fun G8 => some (G8)) else (Option.bind (m_X2_isTooDear_23_25_27 H2) fun x3 => bd1 (if x3 = (0 : Int32) then (some ((1 : Int32))) else (some ((3 : Int32)))) fun y4 => mlet (stF H2 23 6 y4) fun G5 => some (G5))) = some (stF H2 23 6 (sp_tI (sp_tw k G P S rp hh (u + 1)))) := by
    unfold m_X2_isTooDear_23_27_25 m_X2_isTooDear_23_25_27
    rw [l2.2.2.1, c1.2.1, c2.2.1, zi_dear _ _ _ (by omega) M1, zi_dear _ _ _ (by omega) M3, e23, z4, zb_some, zb_some]
    show _ = some (stF H2 23 6 (sp_tI (if sp_tw k G P S rp hh u = true then decide ((sp_R3 k P S rp hh (u + 1)).2.1 ≤ G * (sp_R1 k P S rp (u + 1)).2.1) else !decide ((sp_R1 k P S rp (u + 1)).2.1 ≤ G * (sp_R3 k P S rp hh (u + 1)).2.1))))
    cases sp_tw k G P S rp hh u with
    | true =>
      rw [if_pos (show sp_tI true = 3 from rfl), if_pos rfl]
      by_cases q : (sp_R3 k P S rp hh (u + 1)).2.1 ≤ G * (sp_R1 k P S rp (u + 1)).2.1
      · rw [if_pos q, decide_eq_true q]; rfl
      · rw [if_neg q, decide_eq_false q]; rfl
    | false =>
      rw [if_neg (show ¬ sp_tI false = 3 by decide), if_neg (show ¬ false = true by decide)]
      by_cases q : (sp_R1 k P S rp (u + 1)).2.1 ≤ G * (sp_R3 k P S rp hh (u + 1)).2.1
      · rw [if_pos q, decide_eq_true q]; rfl
      · rw [if_neg q, decide_eq_false q]; rfl
  rw [key, zb_bd1, st_self]
  have s24 : ∀ s, s < k → stF H2 23 6 (sp_tI (sp_tw k G P S rp hh (u + 1))) 24 s = nI (sp_gp k G P S rp hh u s) := by
    intro s hs
    rw [st_cell _ _ _ (by decide), e24]
    exact z5 s hs
  have s23 : stF H2 23 6 (sp_tI (sp_tw k G P S rp hh (u + 1))) 23 2 = nI (sp_gc k G P S rp hh u) := by
    rw [st_ne _ _ (by omega), e23]
    exact z6
  have s11 : stF H2 23 6 (sp_tI (sp_tw k G P S rp hh (u + 1))) 1 1 = nI k := by
    rw [st_cell _ _ _ (by decide)]
    exact l2.2.1
  have f3 : sp_fr 23 29 F (stF H2 23 6 (sp_tI (sp_tw k G P S rp hh (u + 1)))) := sp_fr_tr f2 (sp_fr_st _ _ _ (by decide) (by decide))
  cases ht : sp_tw k G P S rp hh (u + 1) with
  | true =>
    rw [ht] at s24 s23 s11 f3
    rw [if_pos (show sp_tI true = 3 from rfl)]
    have gpe : sp_gp k G P S rp hh (u + 1) = (sp_R3 k P S rp hh (u + 1)).1 := by unfold sp_gp; rw [ht, if_pos rfl]
    obtain ⟨H4, d1, d2, d3, d4, d5⟩ := sta_27 (b := (sp_R3 k P S rp hh (u + 1)).1) hn.2.2.1 hk3 s11 s24 (fun s hs => by rw [st_cell _ _ _ (by decide)]; exact c2.1 s hs) (sp_gp_le hn hok u (by omega)) (sp_R3_le hn hok (u + 1) (by omega)).1 s23
    rw [d1, zb_some]
    refine ⟨H4, rfl, ⟨g1, sp_ob_fr c1 ((d5 25 (by decide) (by decide)).trans (st_cell _ _ _ (by decide))) ((d5 26 (by decide) (by decide)).trans (st_cell _ _ _ (by decide)))⟩, sp_ob_fr c2 ((d5 27 (by decide) (by decide)).trans (st_cell _ _ _ (by decide))) ((d5 28 (by decide) (by decide)).trans (st_cell _ _ _ (by decide))), ?_, ?_, ?_, ?_, ?_⟩
    · rw [d5 27 (by decide) (by decide), st_cell _ _ _ (by decide)]; exact c3
    · rw [d4 6 (by decide), st_self, ht]
    · rw [gpe]; exact d2
    · rw [d3]
      show _ = nI (sp_gc k G P S rp hh u + sp_lw k (sp_gp k G P S rp hh u) (sp_gp k G P S rp hh (u + 1)))
      rw [gpe]
    · intro c hc
      rw [d5 c (by omega) (by omega)]
      exact f3 c hc
  | false =>
    rw [ht] at s24 s23 s11 f3
    rw [if_neg (show ¬ sp_tI false = 3 by decide)]
    have gpe : sp_gp k G P S rp hh (u + 1) = (sp_R1 k P S rp (u + 1)).1 := by unfold sp_gp; rw [ht, if_neg (by decide)]
    obtain ⟨H4, d1, d2, d3, d4, d5⟩ := sta_25 (b := (sp_R1 k P S rp (u + 1)).1) hn.2.2.1 hk3 s11 s24 (fun s hs => by rw [st_cell _ _ _ (by decide)]; exact c1.1 s hs) (sp_gp_le hn hok u (by omega)) (sp_R1_le hn (u + 1)).1 s23
    rw [d1, zb_some]
    refine ⟨H4, rfl, ⟨g1, sp_ob_fr c1 ((d5 25 (by decide) (by decide)).trans (st_cell _ _ _ (by decide))) ((d5 26 (by decide) (by decide)).trans (st_cell _ _ _ (by decide)))⟩, sp_ob_fr c2 ((d5 27 (by decide) (by decide)).trans (st_cell _ _ _ (by decide))) ((d5 28 (by decide) (by decide)).trans (st_cell _ _ _ (by decide))), ?_, ?_, ?_, ?_, ?_⟩
    · rw [d5 27 (by decide) (by decide), st_cell _ _ _ (by decide)]; exact c3
    · rw [d4 6 (by decide), st_self, ht]
    · rw [gpe]; exact d2
    · rw [d3]
      show _ = nI (sp_gc k G P S rp hh u + sp_lw k (sp_gp k G P S rp hh u) (sp_gp k G P S rp hh (u + 1)))
      rw [gpe]
    · intro c hc
      rw [d5 c (by omega) (by omega)]
      exact f3 c hc
theorem cl_23 {N k G n t : Nat} {P S rp : Nat → Nat} {hh : Nat → Int32} {F : mmS} (hn : sp_num N k G P S) (hl : sp_lc N k G P S F) (hw : sp_rw n rp hh F) (hn40 : n ≤ 40) (hrp : ∀ t, t < n → rp t < N) (hok : sp_hok k n hh) (hf : F 27 4 = 1) (ht : t ≤ 40) : ∃ F1, m_X6_lead_14_23 F (nI t) = some (nI (sp_gc k G P S rp hh (min t n)), F1) ∧ sp_gs k G P S rp hh F (min t n) F1 := by
  have hN := hn.2.1
  obtain ⟨A1, a1, a2, a3⟩ := sas_23 hn hl
  have f1 : sp_fr 23 29 F A1 := sp_fr_up a3.2 (by decide) (by decide)
  obtain ⟨A2, b1, b2, b3⟩ := sas_25 hn (sp_fr_lc f1 (by decide) hl)
  have f2 : sp_fr 23 29 F A2 := sp_fr_tr f1 (sp_fr_up b3.2 (by decide) (by decide))
  obtain ⟨A3, c1, c2, c3⟩ := sas_27 hn (sp_fr_lc f2 (by decide) hl)
  have f3 : sp_fr 23 29 F A3 := sp_fr_tr f2 (sp_fr_up c3.2 (by decide) (by decide))
  have hb : m_X7_begin_23 F = some (stF A3 23 6 3) := by
    unfold m_X7_begin_23 m_X2_standAtStart_23
    rw [a1, zb_some, b1, zb_some, c1, zb_some, zb_mlet, zb_some]
  have i25 : A3 25 = A2 25 := c3.2 25 (by omega)
  have i26 : A3 26 = A2 26 := c3.2 26 (by omega)
  have i23 : A3 23 = A1 23 := (c3.2 23 (by omega)).trans (b3.2 23 (by omega))
  have i24 : A3 24 = A1 24 := (c3.2 24 (by omega)).trans (b3.2 24 (by omega))
  have z0 : sp_gs k G P S rp hh F 0 (stF A3 23 6 3) := by
    refine ⟨⟨_, sp_ob_mono (sp_ob_fr b2 ((st_cell A3 6 3 (by decide)).trans i25) ((st_cell A3 6 3 (by decide)).trans i26)) hn.2.2.2.1⟩, sp_ob_mono (sp_ob_fr c2 (st_cell A3 6 3 (by decide)) (st_cell A3 6 3 (by decide))) hn.2.2.2.1, ?_, ?_, ?_, ?_, ?_⟩
    · rw [st_cell A3 6 3 (by decide), c3.1 4 (by decide) (by decide), b3.2 27 (by omega), a3.2 27 (by omega)]
      exact hf
    · rw [st_self]; rfl
    · intro s hs
      rw [st_cell A3 6 3 (by decide), i24]
      exact a2.1 s (by have := hn.2.2.2.1; omega)
    · rw [st_ne _ _ (by omega), i23]
      exact a2.2.1
    · exact sp_fr_tr f3 (sp_fr_st _ _ _ (by decide) (by decide))
  obtain ⟨F1, h1, h2⟩ := lda_23 (sp_gs k G P S rp hh F) (N := n) (rp := rp) (hh := hh) (t := t) hn40 ht hw.1 hb z0 (fun u F' hu hz => (sp_fr_rw hz.2.2.2.2.2.2 (by decide) hw).2 u hu) (fun u F' hu hz => gsm hn hl hn40 hrp hok hu hz)
  refine ⟨F1, ?_, h2⟩
  rw [h1, h2.2.2.2.2.2.1]
theorem kp_103_106 (F : mmS) : ∃ F1, m_X12_keep_103_106 F = some F1 ∧ (∀ s, s < 3 → F1 106 s = F 103 s) ∧ (∀ c, c ≠ 106 → F1 c = F c) := by
  have go : ∀ n s H, s < 3 → (∀ c, c ≠ 106 → H c = F c) → m_X12_keep_103_106_L2 (n + 1) (nI s) H = m_X12_keep_103_106_L2 n (nI (s + 1)) (stF H 106 s (F 103 s)) := by
    intro n s H hs hf
    rw [m_X12_keep_103_106_L2, if_neg (show ¬ (3 : Int32) ≤ nI s from nI_ge (b := 3) hs (by omega)), zi_rd s rfl (show H 103 s = F 103 s by rw [hf 103 (by decide)]) (show s < 3 from hs), Option.bind_some, zi_wr (q := 106) s rfl (show s < 3 from hs), Option.bind_some, zb_mlet, nI_1]
  unfold m_X12_keep_103_106
  rw [show m_X12_keep_103_106_L2 300 (0 : Int32) F = m_X12_keep_103_106_L2 300 (nI 0) F from rfl, go 299 0 F (by omega) (fun _ _ => rfl), go 298 1 _ (by omega) (fun c hc => st_cell _ _ _ hc), go 297 2 _ (by omega) (fun c hc => (st_cell _ _ _ hc).trans (st_cell _ _ _ hc)), show m_X12_keep_103_106_L2 297 (nI (2 + 1)) _ = some _ from by rw [m_X12_keep_103_106_L2]; rfl]
  refine ⟨_, rfl, ?_, ?_⟩
  · intro s hs
    rcases (by omega : s = 0 ∨ s = 1 ∨ s = 2) with rfl | rfl | rfl
    · rw [st_ne _ _ (by omega), st_ne _ _ (by omega), st_self]
    · rw [st_ne _ _ (by omega), st_self]
    · rw [st_self]
  · intro c hc
    rw [st_cell _ _ _ hc, st_cell _ _ _ hc, st_cell _ _ _ hc]
theorem kp_103_107 (F : mmS) : ∃ F1, m_X12_keep_103_107 F = some F1 ∧ (∀ s, s < 3 → F1 107 s = F 103 s) ∧ (∀ c, c ≠ 107 → F1 c = F c) := by
  have go : ∀ n s H, s < 3 → (∀ c, c ≠ 107 → H c = F c) → m_X12_keep_103_107_L2 (n + 1) (nI s) H = m_X12_keep_103_107_L2 n (nI (s + 1)) (stF H 107 s (F 103 s)) := by
    intro n s H hs hf
    rw [m_X12_keep_103_107_L2, if_neg (show ¬ (3 : Int32) ≤ nI s from nI_ge (b := 3) hs (by omega)), zi_rd s rfl (show H 103 s = F 103 s by rw [hf 103 (by decide)]) (show s < 3 from hs), Option.bind_some, zi_wr (q := 107) s rfl (show s < 3 from hs), Option.bind_some, zb_mlet, nI_1]
  unfold m_X12_keep_103_107
  rw [show m_X12_keep_103_107_L2 300 (0 : Int32) F = m_X12_keep_103_107_L2 300 (nI 0) F from rfl, go 299 0 F (by omega) (fun _ _ => rfl), go 298 1 _ (by omega) (fun c hc => st_cell _ _ _ hc), go 297 2 _ (by omega) (fun c hc => (st_cell _ _ _ hc).trans (st_cell _ _ _ hc)), show m_X12_keep_103_107_L2 297 (nI (2 + 1)) _ = some _ from by rw [m_X12_keep_103_107_L2]; rfl]
  refine ⟨_, rfl, ?_, ?_⟩
  · intro s hs
    rcases (by omega : s = 0 ∨ s = 1 ∨ s = 2) with rfl | rfl | rfl
    · rw [st_ne _ _ (by omega), st_ne _ _ (by omega), st_self]
    · rw [st_ne _ _ (by omega), st_self]
    · rw [st_self]
  · intro c hc
    rw [st_cell _ _ _ hc, st_cell _ _ _ hc, st_cell _ _ _ hc]
theorem kp_103_108 (F : mmS) : ∃ F1, m_X12_keep_103_108 F = some F1 ∧ (∀ s, s < 3 → F1 108 s = F 103 s) ∧ (∀ c, c ≠ 108 → F1 c = F c) := by
  have go : ∀ n s H, s < 3 → (∀ c, c ≠ 108 → H c = F c) → m_X12_keep_103_108_L2 (n + 1) (nI s) H = m_X12_keep_103_108_L2 n (nI (s + 1)) (stF H 108 s (F 103 s)) := by
    intro n s H hs hf
    rw [m_X12_keep_103_108_L2, if_neg (show ¬ (3 : Int32) ≤ nI s from nI_ge (b := 3) hs (by omega)), zi_rd s rfl (show H 103 s = F 103 s by rw [hf 103 (by decide)]) (show s < 3 from hs), Option.bind_some, zi_wr (q := 108) s rfl (show s < 3 from hs), Option.bind_some, zb_mlet, nI_1]
  unfold m_X12_keep_103_108
  rw [show m_X12_keep_103_108_L2 300 (0 : Int32) F = m_X12_keep_103_108_L2 300 (nI 0) F from rfl, go 299 0 F (by omega) (fun _ _ => rfl), go 298 1 _ (by omega) (fun c hc => st_cell _ _ _ hc), go 297 2 _ (by omega) (fun c hc => (st_cell _ _ _ hc).trans (st_cell _ _ _ hc)), show m_X12_keep_103_108_L2 297 (nI (2 + 1)) _ = some _ from by rw [m_X12_keep_103_108_L2]; rfl]
  refine ⟨_, rfl, ?_, ?_⟩
  · intro s hs
    rcases (by omega : s = 0 ∨ s = 1 ∨ s = 2) with rfl | rfl | rfl
    · rw [st_ne _ _ (by omega), st_ne _ _ (by omega), st_self]
    · rw [st_ne _ _ (by omega), st_self]
    · rw [st_self]
  · intro c hc
    rw [st_cell _ _ _ hc, st_cell _ _ _ hc, st_cell _ _ _ hc]
theorem kp_106_103 (F : mmS) : ∃ F1, m_X12_keep_106_103 F = some F1 ∧ (∀ s, s < 3 → F1 103 s = F 106 s) ∧ (∀ c, c ≠ 103 → F1 c = F c) := by
  have go : ∀ n s H, s < 3 → (∀ c, c ≠ 103 → H c = F c) → m_X12_keep_106_103_L2 (n + 1) (nI s) H = m_X12_keep_106_103_L2 n (nI (s + 1)) (stF H 103 s (F 106 s)) := by
    intro n s H hs hf
    rw [m_X12_keep_106_103_L2, if_neg (show ¬ (3 : Int32) ≤ nI s from nI_ge (b := 3) hs (by omega)), zi_rd s rfl (show H 106 s = F 106 s by rw [hf 106 (by decide)]) (show s < 3 from hs), Option.bind_some, zi_wr (q := 103) s rfl (show s < 3 from hs), Option.bind_some, zb_mlet, nI_1]
  unfold m_X12_keep_106_103
  rw [show m_X12_keep_106_103_L2 300 (0 : Int32) F = m_X12_keep_106_103_L2 300 (nI 0) F from rfl, go 299 0 F (by omega) (fun _ _ => rfl), go 298 1 _ (by omega) (fun c hc => st_cell _ _ _ hc), go 297 2 _ (by omega) (fun c hc => (st_cell _ _ _ hc).trans (st_cell _ _ _ hc)), show m_X12_keep_106_103_L2 297 (nI (2 + 1)) _ = some _ from by rw [m_X12_keep_106_103_L2]; rfl]
  refine ⟨_, rfl, ?_, ?_⟩
  · intro s hs
    rcases (by omega : s = 0 ∨ s = 1 ∨ s = 2) with rfl | rfl | rfl
    · rw [st_ne _ _ (by omega), st_ne _ _ (by omega), st_self]
    · rw [st_ne _ _ (by omega), st_self]
    · rw [st_self]
  · intro c hc
    rw [st_cell _ _ _ hc, st_cell _ _ _ hc, st_cell _ _ _ hc]
theorem kp_107_103 (F : mmS) : ∃ F1, m_X12_keep_107_103 F = some F1 ∧ (∀ s, s < 3 → F1 103 s = F 107 s) ∧ (∀ c, c ≠ 103 → F1 c = F c) := by
  have go : ∀ n s H, s < 3 → (∀ c, c ≠ 103 → H c = F c) → m_X12_keep_107_103_L2 (n + 1) (nI s) H = m_X12_keep_107_103_L2 n (nI (s + 1)) (stF H 103 s (F 107 s)) := by
    intro n s H hs hf
    rw [m_X12_keep_107_103_L2, if_neg (show ¬ (3 : Int32) ≤ nI s from nI_ge (b := 3) hs (by omega)), zi_rd s rfl (show H 107 s = F 107 s by rw [hf 107 (by decide)]) (show s < 3 from hs), Option.bind_some, zi_wr (q := 103) s rfl (show s < 3 from hs), Option.bind_some, zb_mlet, nI_1]
  unfold m_X12_keep_107_103
  rw [show m_X12_keep_107_103_L2 300 (0 : Int32) F = m_X12_keep_107_103_L2 300 (nI 0) F from rfl, go 299 0 F (by omega) (fun _ _ => rfl), go 298 1 _ (by omega) (fun c hc => st_cell _ _ _ hc), go 297 2 _ (by omega) (fun c hc => (st_cell _ _ _ hc).trans (st_cell _ _ _ hc)), show m_X12_keep_107_103_L2 297 (nI (2 + 1)) _ = some _ from by rw [m_X12_keep_107_103_L2]; rfl]
  refine ⟨_, rfl, ?_, ?_⟩
  · intro s hs
    rcases (by omega : s = 0 ∨ s = 1 ∨ s = 2) with rfl | rfl | rfl
    · rw [st_ne _ _ (by omega), st_ne _ _ (by omega), st_self]
    · rw [st_ne _ _ (by omega), st_self]
    · rw [st_self]
  · intro c hc
    rw [st_cell _ _ _ hc, st_cell _ _ _ hc, st_cell _ _ _ hc]
def sp_fG (F F1 : mmS) : Prop := (∀ c, c ≠ 97 → ¬ (103 ≤ c ∧ c ≤ 108) → F1 c = F c) ∧ (∀ i, ¬ (10 ≤ i ∧ i ≤ 12) → i ≠ 18 → i ≠ 19 → F1 97 i = F 97 i)
theorem sp_fG_tr {F G H : mmS} (h : sp_fG F G) (h' : sp_fG G H) : sp_fG F H := ⟨fun c a b => (h'.1 c a b).trans (h.1 c a b), fun i a b d => (h'.2 i a b d).trans (h.2 i a b d)⟩
theorem sp_fG_S {F G : mmS} (h : sp_fS F G) : sp_fG F G := ⟨fun c a b => h.1 c a (by omega), fun i a _ _ => h.2 i (by omega) (by omega)⟩
theorem sp_fG_c {F G : mmS} {y : Nat} (h : ∀ c, c ≠ y → G c = F c) (hy : 103 ≤ y) (hy' : y ≤ 108) : sp_fG F G := ⟨fun c _ b => h c (by omega), fun i _ _ _ => by rw [h 97 (by omega)]⟩
theorem sp_fG_i (F : mmS) {i : Nat} (v : Int32) (h : i = 11 ∨ i = 18 ∨ i = 19) : sp_fG F (stF F 97 i v) := ⟨fun c a _ => st_cell F i v a, fun j a b d => st_ne F v (by omega)⟩
theorem sp_fG_lr {N k G : Nat} {P S : Nat → Nat} {F F1 : mmS} (hf : sp_fG F F1) (h : sp_lr N k G P S F) : sp_lr N k G P S F1 := sp_lr_fr h (hf.1 98 (by decide) (by decide)) (hf.1 99 (by decide) (by decide)) (hf.2 0 (by decide) (by decide) (by decide)) (hf.2 2 (by decide) (by decide) (by decide)) (hf.2 4 (by decide) (by decide) (by decide))
theorem sp_fG_rr {n : Nat} {rp : Nat → Nat} {F F1 : mmS} (hf : sp_fG F F1) (h : sp_rr n rp F) : sp_rr n rp F1 := by
  unfold sp_rr at *
  rw [hf.1 100 (by decide) (by decide), hf.2 5 (by decide) (by decide) (by decide)]
  exact h
theorem sp_fG_hn {n : Nat} {hh : Nat → Int32} {F F1 : mmS} (hf : sp_fG F F1) (h : sp_hn n hh F) : sp_hn n hh F1 := sp_hn_fr h (hf.1 109 (by decide) (by decide)) (hf.1 111 (by decide) (by decide)) (hf.1 112 (by decide) (by decide)) (hf.2 2 (by decide) (by decide) (by decide))
def sp_gr (k G : Nat) (P S rp : Nat → Nat) (hh : Nat → Int32) (F : mmS) (t : Nat) (F' : mmS) : Prop := (∀ s, s < k → F' 106 s = nI ((sp_R1 k P S rp t).1 s)) ∧ (∀ s, s < k → F' 107 s = nI ((sp_R3 k P S rp hh t).1 s)) ∧ (∀ s, s < k → F' 108 s = nI (sp_gp k G P S rp hh t s)) ∧ F' 97 18 = sp_tI (sp_tw k G P S rp hh t) ∧ F' 97 19 = nI (sp_gc k G P S rp hh t) ∧ sp_fG F F'
theorem grl {N k G n t : Nat} {P S rp : Nat → Nat} {hh : Nat → Int32} {F : mmS} (hn : sp_num N k G P S) (hl : sp_lr N k G P S F) (hr : sp_rr n rp F) (hq : sp_hn n hh F) (hn40 : n ≤ 40) (hrp : ∀ t, t < n → rp t < N) (hok : sp_hok k n hh) (ht : t ≤ 40) : ∀ d u f F', u + d = min t n → d < f → sp_gr k G P S rp hh F u F' → ∃ F1, m_X12_runsGuarded_97_L54 (nI t) f (nI (sp_R1 k P S rp u).2.1) (nI (sp_R3 k P S rp hh u).2.1) (nI u) F' = some F1 ∧ sp_gr k G P S rp hh F (min t n) F1 := by
  have first : ∀ F, F 97 5 = nI n → m_X12_first_97 F (nI t) = some (nI (min t n)) := by
    intro F h
    unfold m_X12_first_97
    rw [h, zi_ifle (by omega) (by omega), Nat.min_comm]
  have hk3 := hn.2.2.2.1
  have hk1 := hn.2.2.1
  have hG := hn.2.2.2.2.2.1
  intro d
  induction d with
  | zero =>
    intro u f F' h hf hz
    obtain ⟨f, rfl⟩ : ∃ m, f = m + 1 := ⟨f - 1, by omega⟩
    obtain rfl : u = min t n := by omega
    rw [m_X12_runsGuarded_97_L54, first F' (sp_fG_rr hz.2.2.2.2.2 hr).1, Option.bind_some, if_pos (nI_le (by omega) (by omega))]
    exact ⟨F', rfl, hz⟩
  | succ d ih =>
    intro u f F' h hf hz
    obtain ⟨f, rfl⟩ : ∃ m, f = m + 1 := ⟨f - 1, by omega⟩
    obtain ⟨z1, z2, z3, z4, z5, z6⟩ := hz
    have hu : u < n := by omega
    rw [m_X12_runsGuarded_97_L54, first F' (sp_fG_rr z6 hr).1, Option.bind_some, if_neg (nI_ge (by omega) (by omega))]
    obtain ⟨H1, a1, a2, a3⟩ := kp_106_103 F'
    have f1 : sp_fG F H1 := sp_fG_tr z6 (sp_fG_c a3 (by decide) (by decide))
    have f2 : sp_fG F (stF H1 97 11 0) := sp_fG_tr f1 (sp_fG_i _ _ (by omega))
    have o1 : sp_or k (sp_R1 k P S rp u).1 0 (H1 97 12) (stF H1 97 11 0) := ⟨fun s hs => by rw [st_cell _ _ _ (by decide), a2 s (by omega)]; exact z1 s hs, by rw [st_self]; rfl, by rw [st_ne _ _ (by omega)]⟩
    obtain ⟨H3, g3, b1, b2, b3⟩ := go1R hn (sp_fG_lr f2 hl) (sp_fG_rr f2 hr) hu hn40 (hrp u hu) o1 (sp_R1_le hn u).1
    have f3 : sp_fG F H3 := sp_fG_tr f2 (sp_fG_S b3)
    obtain ⟨H4, c1, c2, c3⟩ := kp_103_106 H3
    have f4 : sp_fG F H4 := sp_fG_tr f3 (sp_fG_c c3 (by decide) (by decide))
    obtain ⟨H5, d1, d2, d3⟩ := kp_107_103 H4
    have f5 : sp_fG F H5 := sp_fG_tr f4 (sp_fG_c d3 (by decide) (by decide))
    have f6 : sp_fG F (stF H5 97 11 0) := sp_fG_tr f5 (sp_fG_i _ _ (by omega))
    have e107 : H4 107 = F' 107 := by
      rw [c3 107 (by decide), b3.1 107 (by decide) (by decide), st_cell _ _ _ (by decide), a3 107 (by decide)]
    have o2 : sp_or k (sp_R3 k P S rp hh u).1 0 (H5 97 12) (stF H5 97 11 0) := ⟨fun s hs => by rw [st_cell _ _ _ (by decide), d2 s (by omega), e107]; exact z2 s hs, by rw [st_self]; rfl, by rw [st_ne _ _ (by omega)]⟩
    obtain ⟨H7, e1, e2, e3⟩ := go3R hn (sp_fG_lr f6 hl) (sp_fG_rr f6 hr) (sp_fG_hn f6 hq) hu hn40 (hrp u hu) (hok u hu) o2 (sp_R3_le hn hok u (by omega)).1
    have f7 : sp_fG F H7 := sp_fG_tr f6 (sp_fG_S e3)
    obtain ⟨H8, i1, i2, i3⟩ := kp_103_107 H7
    have f8 : sp_fG F H8 := sp_fG_tr f7 (sp_fG_c i3 (by decide) (by decide))
    rw [a1, zb_some, zb_mlet, b1, zb_some, zb_mlet, b2.2.1, c1, zb_some, d1, zb_some, zb_mlet, e1, zb_some, zb_mlet, e2.2.1, i1, zb_some, nI_add, nI_add]
    rw [show (sp_R1 k P S rp u).2.1 + (0 + (sp_t1 k P rp u (sp_R1 k P S rp u).1).2.1) = (sp_R1 k P S rp (u + 1)).2.1 by rw [Nat.zero_add]; rfl, show (sp_R3 k P S rp hh u).2.1 + (0 + (sp_t3 k P rp hh u (sp_R3 k P S rp hh u).1).2.1) = (sp_R3 k P S rp hh (u + 1)).2.1 by rw [Nat.zero_add]; rfl]
    have m1 := (sp_R1_le (rp := rp) hn (u + 1)).2
    have m3 := (sp_R3_le (rp := rp) hn hok (u + 1) (by omega)).2
    have M1 : G * (sp_R1 k P S rp (u + 1)).2.1 < 2 ^ 31 := Nat.lt_of_le_of_lt (Nat.mul_le_mul hG m1) (by omega)
    have M3 : G * (sp_R3 k P S rp hh (u + 1)).2.1 < 2 ^ 31 := Nat.lt_of_le_of_lt (Nat.mul_le_mul hG m3) (by omega)
    have h18 : H8 97 18 = sp_tI (sp_tw k G P S rp hh u) := by
      rw [i3 97 (by decide), e3.2 18 (by decide) (by decide), st_ne _ _ (by omega), d3 97 (by decide), c3 97 (by decide), b3.2 18 (by decide) (by decide), st_ne _ _ (by omega), a3 97 (by decide)]
      exact z4
    have h19 : H8 97 19 = nI (sp_gc k G P S rp hh u) := by
      rw [i3 97 (by decide), e3.2 19 (by decide) (by decide), st_ne _ _ (by omega), d3 97 (by decide), c3 97 (by decide), b3.2 19 (by decide) (by decide), st_ne _ _ (by omega), a3 97 (by decide)]
      exact z5
    have h106 : ∀ s, s < k → H8 106 s = nI ((sp_R1 k P S rp (u + 1)).1 s) := by
      intro s hs
      rw [i3 106 (by decide), e3.1 106 (by decide) (by decide), st_cell _ _ _ (by decide), d3 106 (by decide), c2 s (by omega)]
      exact b2.1 s hs
    have h107 : ∀ s, s < k → H8 107 s = nI ((sp_R3 k P S rp hh (u + 1)).1 s) := by
      intro s hs
      rw [i2 s (by omega)]
      exact e2.1 s hs
    have h108 : ∀ s, s < k → H8 108 s = nI (sp_gp k G P S rp hh u s) := by
      intro s hs
      rw [i3 108 (by decide), e3.1 108 (by decide) (by decide), st_cell _ _ _ (by decide), d3 108 (by decide), c3 108 (by decide), b3.1 108 (by decide) (by decide), st_cell _ _ _ (by decide), a3 108 (by decide)]
      exact z3 s hs
    have h4 := (sp_fG_lr f8 hl).2.2.1
    have key : ∃ H9, (if (H8 97 18) = (3 : Int32) then (if (nI (sp_R3 k P S rp hh (u + 1)).2.1) ≤ ((H8 97 4) * (nI (sp_R1 k P S rp (u + 1)).2.1)) then (if (H8 97 18) = (1 : Int32) then (if (nI (sp_R1 k P S rp (u + 1)).2.1) ≤ ((H8 97 4) * (nI (sp_R3 k P S rp hh (u + 1)).2.1)) then (some (H8)) else (mlet (stF H8 97 18 (3 : Int32)) fun G24 => some (G24))) else (some (H8))) else (mlet (stF H8 97 18 (1 : Int32)) fun G25 => some (G25))) else (if (H8 97 18) = (1 : Int32) then (if (nI (sp_R1 k P S rp (u + 1)).2.1) ≤ ((H8 97 4) * (nI (sp_R3 k P S rp hh (u + 1)).2.1)) then (some (H8)) else (mlet (stF H8 97 18 (3 : Int32)) fun G23 => some (G23))) else (some (H8)))) = some H9 ∧ H9 97 18 = sp_tI (sp_tw k G P S rp hh (u + 1)) ∧ (∀ i, i ≠ 18 → H9 97 i = H8 97 i) ∧ (∀ c, c ≠ 97 → H9 c = H8 c) := by
      rw [h4, pk_mul, pk_mul, h18]
      show ∃ H9 : mmS, _ ∧ H9 97 18 = sp_tI (if sp_tw k G P S rp hh u = true then decide ((sp_R3 k P S rp hh (u + 1)).2.1 ≤ G * (sp_R1 k P S rp (u + 1)).2.1) else !decide ((sp_R1 k P S rp (u + 1)).2.1 ≤ G * (sp_R3 k P S rp hh (u + 1)).2.1)) ∧ _
      cases hw : sp_tw k G P S rp hh u with
      | true =>
        rw [hw] at h18
        rw [if_pos (show sp_tI true = 3 from rfl), if_neg (show ¬ sp_tI true = 1 by decide), if_pos rfl]
        by_cases q : (sp_R3 k P S rp hh (u + 1)).2.1 ≤ G * (sp_R1 k P S rp (u + 1)).2.1
        · rw [if_pos (nI_le q M1), decide_eq_true q]
          exact ⟨H8, rfl, h18, fun _ _ => rfl, fun _ _ => rfl⟩
        · rw [if_neg (nI_ge (by omega) (by omega)), decide_eq_false q]
          exact ⟨_, rfl, by rw [st_self]; rfl, fun i hi => st_ne _ _ (by omega), fun c hc => st_cell _ _ _ hc⟩
      | false =>
        rw [hw] at h18
        rw [if_neg (show ¬ sp_tI false = 3 by decide), if_pos (show sp_tI false = 1 from rfl), if_neg (show ¬ false = true by decide)]
        by_cases q : (sp_R1 k P S rp (u + 1)).2.1 ≤ G * (sp_R3 k P S rp hh (u + 1)).2.1
        · rw [if_pos (nI_le q M3), decide_eq_true q]
          exact ⟨H8, rfl, h18, fun _ _ => rfl, fun _ _ => rfl⟩
        · rw [if_neg (nI_ge (by omega) (by omega)), decide_eq_false q]
          exact ⟨_, rfl, by rw [st_self]; rfl, fun i hi => st_ne _ _ (by omega), fun c hc => st_cell _ _ _ hc⟩
    obtain ⟨H9, k1, k2, k3, k4⟩ := key
    have f9 : sp_fG F H9 := ⟨fun c p q => (k4 c p).trans (f8.1 c p q), fun i p q r => (k3 i q).trans (f8.2 i p q r)⟩
    rw [k1, zb_bd1, k2]
    cases hw : sp_tw k G P S rp hh (u + 1) with
    | true =>
      have gpe : sp_gp k G P S rp hh (u + 1) = (sp_R3 k P S rp hh (u + 1)).1 := by unfold sp_gp; rw [hw, if_pos rfl]
      rw [if_neg (show ¬ sp_tI true = 1 by decide), zb_bd1, if_pos rfl]
      obtain ⟨J1, l1, l2, l3⟩ := kp_107_103 H9
      have q103 : ∀ s, s < k → J1 103 s = nI ((sp_R3 k P S rp hh (u + 1)).1 s) := fun s hs => by rw [l2 s (by omega), k4 107 (by decide)]; exact h107 s hs
      have q108 : ∀ s, s < k → J1 108 s = nI (sp_gp k G P S rp hh u s) := fun s hs => by rw [l3 108 (by decide), k4 108 (by decide)]; exact h108 s hs
      have fl : sp_fG F J1 := sp_fG_tr f9 (sp_fG_c l3 (by decide) (by decide))
      have lwe := zi_lwR (F := J1) (a0 := J1 108 0) (a1 := J1 108 1) (a2 := J1 108 2) (b0 := J1 103 0) (b1 := J1 103 1) (b2 := J1 103 2) hk1 hk3 (sp_fG_lr fl hl).2.1 (sp_gp_le (rp := rp) hn hok u (by omega)) (sp_R3_le hn hok (u + 1) (by omega)).1 (q108 0 (by omega)) (fun h => q108 1 (by omega)) (fun h => q108 2 (by omega)) (q103 0 (by omega)) (fun h => q103 1 (by omega)) (fun h => q103 2 (by omega))
      have g19 : J1 97 19 = nI (sp_gc k G P S rp hh u) := by rw [l3 97 (by decide), k3 19 (by decide)]; exact h19
      obtain ⟨J2, n1, n2, n3⟩ := kp_103_108 (stF J1 97 19 (nI (sp_gc k G P S rp hh u + sp_lw k (sp_gp k G P S rp hh u) (sp_R3 k P S rp hh (u + 1)).1)))
      have fz : sp_fG F J2 := sp_fG_tr (sp_fG_tr fl (sp_fG_i _ _ (by omega))) (sp_fG_c n3 (by decide) (by decide))
      rw [l1, zb_some, zi_rd 0 li0 (rfl : J1 108 0 = J1 108 0) (by decide), zb_some, zi_rd 1 li1 (rfl : J1 108 1 = J1 108 1) (by decide), zb_some, zi_rd 2 li2 (rfl : J1 108 2 = J1 108 2) (by decide), zb_some, zi_rd 0 li0 (rfl : J1 103 0 = J1 103 0) (by decide), zb_some, zi_rd 1 li1 (rfl : J1 103 1 = J1 103 1) (by decide), zb_some, zi_rd 2 li2 (rfl : J1 103 2 = J1 103 2) (by decide), zb_some, lwe, zb_some, zb_mlet, g19, nI_add, n1, zb_some, zb_mlet, nI_1]
      exact ih (u + 1) f J2 (by omega) (by omega) ⟨fun s hs => by rw [n3 106 (by decide), st_cell _ _ _ (by decide), l3 106 (by decide), k4 106 (by decide)]; exact h106 s hs, fun s hs => by rw [n3 107 (by decide), st_cell _ _ _ (by decide), l3 107 (by decide), k4 107 (by decide)]; exact h107 s hs, fun s hs => by rw [n2 s (by omega), st_cell _ _ _ (by decide), gpe]; exact q103 s hs, by rw [n3 97 (by decide), st_ne _ _ (by omega), l3 97 (by decide)]; exact k2, by rw [n3 97 (by decide), st_self]; show _ = nI (sp_gc k G P S rp hh u + sp_lw k (sp_gp k G P S rp hh u) (sp_gp k G P S rp hh (u + 1))); rw [gpe], fz⟩
    | false =>
      have gpe : sp_gp k G P S rp hh (u + 1) = (sp_R1 k P S rp (u + 1)).1 := by unfold sp_gp; rw [hw, if_neg (by decide)]
      rw [if_pos (show sp_tI false = 1 from rfl), zb_bd1, if_neg (by decide), if_pos rfl]
      obtain ⟨J1, l1, l2, l3⟩ := kp_106_103 H9
      have q103 : ∀ s, s < k → J1 103 s = nI ((sp_R1 k P S rp (u + 1)).1 s) := fun s hs => by rw [l2 s (by omega), k4 106 (by decide)]; exact h106 s hs
      have q108 : ∀ s, s < k → J1 108 s = nI (sp_gp k G P S rp hh u s) := fun s hs => by rw [l3 108 (by decide), k4 108 (by decide)]; exact h108 s hs
      have fl : sp_fG F J1 := sp_fG_tr f9 (sp_fG_c l3 (by decide) (by decide))
      have lwe := zi_lwR (F := J1) (a0 := J1 108 0) (a1 := J1 108 1) (a2 := J1 108 2) (b0 := J1 103 0) (b1 := J1 103 1) (b2 := J1 103 2) hk1 hk3 (sp_fG_lr fl hl).2.1 (sp_gp_le (rp := rp) hn hok u (by omega)) (sp_R1_le hn (u + 1)).1 (q108 0 (by omega)) (fun h => q108 1 (by omega)) (fun h => q108 2 (by omega)) (q103 0 (by omega)) (fun h => q103 1 (by omega)) (fun h => q103 2 (by omega))
      have g19 : J1 97 19 = nI (sp_gc k G P S rp hh u) := by rw [l3 97 (by decide), k3 19 (by decide)]; exact h19
      obtain ⟨J2, n1, n2, n3⟩ := kp_103_108 (stF J1 97 19 (nI (sp_gc k G P S rp hh u + sp_lw k (sp_gp k G P S rp hh u) (sp_R1 k P S rp (u + 1)).1)))
      have fz : sp_fG F J2 := sp_fG_tr (sp_fG_tr fl (sp_fG_i _ _ (by omega))) (sp_fG_c n3 (by decide) (by decide))
      rw [l1, zb_some, zi_rd 0 li0 (rfl : J1 108 0 = J1 108 0) (by decide), zb_some, zi_rd 1 li1 (rfl : J1 108 1 = J1 108 1) (by decide), zb_some, zi_rd 2 li2 (rfl : J1 108 2 = J1 108 2) (by decide), zb_some, zi_rd 0 li0 (rfl : J1 103 0 = J1 103 0) (by decide), zb_some, zi_rd 1 li1 (rfl : J1 103 1 = J1 103 1) (by decide), zb_some, zi_rd 2 li2 (rfl : J1 103 2 = J1 103 2) (by decide), zb_some, lwe, zb_some, zb_mlet, g19, nI_add, n1, zb_some, zb_mlet, nI_1]
      exact ih (u + 1) f J2 (by omega) (by omega) ⟨fun s hs => by rw [n3 106 (by decide), st_cell _ _ _ (by decide), l3 106 (by decide), k4 106 (by decide)]; exact h106 s hs, fun s hs => by rw [n3 107 (by decide), st_cell _ _ _ (by decide), l3 107 (by decide), k4 107 (by decide)]; exact h107 s hs, fun s hs => by rw [n2 s (by omega), st_cell _ _ _ (by decide), gpe]; exact q103 s hs, by rw [n3 97 (by decide), st_ne _ _ (by omega), l3 97 (by decide)]; exact k2, by rw [n3 97 (by decide), st_self]; show _ = nI (sp_gc k G P S rp hh u + sp_lw k (sp_gp k G P S rp hh u) (sp_gp k G P S rp hh (u + 1))); rw [gpe], fz⟩
theorem rgR {N k G n t : Nat} {P S rp : Nat → Nat} {hh : Nat → Int32} {F : mmS} (hn : sp_num N k G P S) (hl : sp_lr N k G P S F) (hr : sp_rr n rp F) (hq : sp_hn n hh F) (hn40 : n ≤ 40) (hrp : ∀ t, t < n → rp t < N) (hok : sp_hok k n hh) (ht : t ≤ 40) : ∃ F1, m_X12_runsGuarded_97 F (nI t) = some F1 ∧ F1 97 18 = sp_tI (sp_tw k G P S rp hh (min t n)) ∧ F1 97 19 = nI (sp_gc k G P S rp hh (min t n)) ∧ sp_fG F F1 := by
  have hk3 := hn.2.2.2.1
  have f0 : sp_fG F (stF (stF F 97 18 3) 97 19 0) := sp_fG_tr (sp_fG_i _ _ (by omega)) (sp_fG_i _ _ (by omega))
  obtain ⟨H1, a1, a2, a3⟩ := staR hn (sp_fG_lr f0 hl)
  obtain ⟨H2, b1, b2, b3⟩ := kp_103_106 H1
  obtain ⟨H3, c1, c2, c3⟩ := kp_103_107 H2
  obtain ⟨H4, d1, d2, d3⟩ := kp_103_108 H3
  have f4 : sp_fG F H4 := sp_fG_tr (sp_fG_tr (sp_fG_tr (sp_fG_tr f0 (sp_fG_S a3)) (sp_fG_c b3 (by decide) (by decide))) (sp_fG_c c3 (by decide) (by decide))) (sp_fG_c d3 (by decide) (by decide))
  have z0 : sp_gr k G P S rp hh F 0 H4 := by
    refine ⟨?_, ?_, ?_, ?_, ?_, f4⟩
    · intro s hs
      rw [d3 106 (by decide), c3 106 (by decide), b2 s (by omega)]
      exact a2.1 s hs
    · intro s hs
      rw [d3 107 (by decide), c2 s (by omega), b3 103 (by decide)]
      exact a2.1 s hs
    · intro s hs
      rw [d2 s (by omega), c3 103 (by decide), b3 103 (by decide)]
      exact a2.1 s hs
    · rw [d3 97 (by decide), c3 97 (by decide), b3 97 (by decide), a3.2 18 (by decide) (by decide), st_ne _ _ (by omega), st_self]
      rfl
    · rw [d3 97 (by decide), c3 97 (by decide), b3 97 (by decide), a3.2 19 (by decide) (by decide), st_self]
      rfl
  obtain ⟨F1, h1, h2⟩ := grl hn hl hr hq hn40 hrp hok ht (min t n) 0 300 H4 (by omega) (by omega) z0
  refine ⟨F1, ?_, h2.2.2.2.1, h2.2.2.2.2.1, h2.2.2.2.2.2⟩
  unfold m_X12_runsGuarded_97
  rw [zb_mlet, zb_mlet, a1, zb_some, b1, zb_some, c1, zb_some, d1, zb_some]
  rw [show m_X12_runsGuarded_97_L54 (nI t) 300 (0 : Int32) (0 : Int32) (0 : Int32) H4 = m_X12_runsGuarded_97_L54 (nI t) 300 (nI (sp_R1 k P S rp 0).2.1) (nI (sp_R3 k P S rp hh 0).2.1) (nI 0) H4 from rfl, h1]
  rfl
