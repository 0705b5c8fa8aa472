/-! PURE: hint and digest -/
theorem sp_INV_row {F A : mmS} (hI : sp_INV F) (h : sp_fr 14 17 F A) : sp_INV A := by
  obtain ⟨N, k, G, P, S, hn, hl, hr, hcf, hs⟩ := hI
  refine ⟨N, k, G, P, S, hn, sp_fr_lc h (by decide) hl, sp_lr_fr hr (h 98 (by omega)) (h 99 (by omega)) (by rw [h 97 (by omega)]) (by rw [h 97 (by omega)]) (by rw [h 97 (by omega)]), ?_, sp_sh_fr hs (fun c hc => h c (by omega)) (fun c h1 h2 => h c (by omega)) (by rw [h 97 (by omega)])⟩
  unfold sp_cf at *
  rw [h 30 (by omega), h 34 (by omega), h 27 (by omega), h 87 (by omega), h 17 (by omega), h 91 (by omega)]
  exact hcf
theorem sp_aw_fr {N k n t : Nat} {P S rp : Nat → Nat} {X Y : mmS} (h : sp_aw N k P S rp n t X) (hn : n ≤ 40) (hf : ∀ c, 36 ≤ c → c < 80 → Y c = X c) : sp_aw N k P S rp n t Y := by
  refine ⟨sp_ob_fr h.1 (hf 36 (by omega) (by omega)) (hf 37 (by omega) (by omega)), ?_, ?_, ?_⟩
  · rw [hf 36 (by omega) (by omega)]; exact h.2.1
  · rw [hf 36 (by omega) (by omega)]; exact h.2.2.1
  · intro u hu c hc
    rw [hf _ (by omega) (by omega)]; exact h.2.2.2 u hu c hc
theorem zi_cut {f x : Nat} (hf : f < 3) (hx : x < 3) : m_X8_cut (nI f) (nI x) = some (nI x) := by
  rcases (by omega : f = 0 ∨ f = 1 ∨ f = 2) with rfl | rfl | rfl <;> rcases (by omega : x = 0 ∨ x = 1 ∨ x = 2) with rfl | rfl | rfl <;> decide +kernel
theorem S23 : lw_S23 sp_INV := by
  intro F hI
  have hI' := hI
  obtain ⟨N, k, G, P, S, hn, hl, hr, hcf, hs⟩ := hI'
  have h0 := hs.2 0 (by omega)
  have h1 := hs.2 1 (by omega)
  rcases h0 with ⟨l12, l109⟩ | ⟨p109, ⟨f, hf, e12, e110⟩, ⟨n0, hn40, e13, e111⟩, hit⟩
  · obtain ⟨A, a1, a2⟩ := rdC0 hs l12
    obtain ⟨f1, f2, f3⟩ := fnd (sp_INV_row hI a2) 1
    refine ⟨-10 - 1, stF A 6 3 1, stF (stF A 6 3 1) 97 28 1, ?_, ?_, f3⟩
    · unfold m_X11_hint_0
      rw [a1, zb_bd2, if_pos rfl, f1, zb_bd2]
    · unfold m_X12_hint_97
      rw [show zld (stF A 6 3 1) (0 : Int32) = some 0 by rw [show zld (stF A 6 3 1) (0 : Int32) = some (stF A 6 3 1 109 0) from pb_zld (n := 0) (by decide), st_cell _ _ _ (by decide), a2 109 (by omega), l109], zb_some, if_pos rfl, f2, zb_bd2]
  · have ne : ¬ F 12 0 = -1 := by rw [e12]; exact zi_m1 (by omega)
    obtain ⟨A, a1, a2, a3⟩ := rdC hn hl hs ne e13 hn40
    have hIA := sp_INV_row hI a3
    have hN := hn.2.1
    have hk1 := hn.2.2.1
    have hk3 := hn.2.2.2.1
    have hlen := sp_ls_len N (F 8) n0
    have lA := sp_fr_lc a3 (by decide) hl
    have h1A : sp_s1h A 1 := sp_s1h_fr h1 (a3 _ (by omega)) (a3 12 (by omega)) (a3 13 (by omega)) (a3 109 (by omega)) (a3 110 (by omega)) (a3 111 (by omega)) (a3 112 (by omega))
    have elA := zi_lost h1A (by omega)
    rw [a3 12 (by omega)] at elA
    rcases h1 with ⟨k12, k109⟩ | ⟨k109, ⟨g, hg, g12, g110⟩, ⟨n1, hn1, g13, g111⟩, git⟩
    · obtain ⟨f1, f2, f3⟩ := fnd hIA 1
      refine ⟨-10 - 1, stF A 6 3 1, stF (stF A 6 3 1) 97 28 1, ?_, ?_, f3⟩
      · unfold m_X11_hint_0
        rw [a1, zb_bd2, if_neg (show ¬ (1 : Int32) = 0 by decide), show m_X8_isLost_6 A (1 : Int32) = _ from elA, if_pos k12, zb_some, if_neg (show ¬ (1 : Int32) = 0 by decide), f1, zb_bd2]
      · unfold m_X12_hint_97
        rw [show zld (stF A 6 3 1) (0 : Int32) = some 1 by rw [show zld (stF A 6 3 1) (0 : Int32) = some (stF A 6 3 1 109 0) from pb_zld (n := 0) (by decide), st_cell _ _ _ (by decide), a3 109 (by omega), p109], zb_some, if_neg (show ¬ (1 : Int32) = 0 by decide), show zld (stF A 6 3 1) (1 : Int32) = some 0 by rw [show zld (stF A 6 3 1) (1 : Int32) = some (stF A 6 3 1 109 1) from pb_zld (n := 1) (by decide), st_cell _ _ _ (by decide), a3 109 (by omega), k109], zb_some, if_pos rfl, f2, zb_bd2]
    · have ne1 : ¬ F 12 1 = -1 := by rw [g12]; exact zi_m1 (by omega)
      generalize hL : (sp_ls N (F 8) n0).length = n at *
      have hrp : ∀ t, t < n → sp_rp N (F 8) n0 t < N := fun t ht => sp_rp_lt hn.1 hN (by omega)
      generalize hR : sp_rp N (F 8) n0 = rp at *
      obtain ⟨B, b1, b2, b3⟩ := plA hn lA a2 (by omega) hrp
      have lB := sp_fr_lc b3 (by decide) lA
      obtain ⟨C, c1, c2, c3⟩ := aws hn lB b2
      have fC : sp_fr 36 80 A C := sp_fr_tr b3 (sp_fr_up c3 (by omega) (by omega))
      have Cc : ∀ c, ¬ (14 ≤ c ∧ c < 17) → ¬ (36 ≤ c ∧ c < 80) → C c = F c := fun c x y => (fC c (by omega)).trans (a3 c (by omega))
      have loop : ∀ d u e H, u + d = min n1 n → d < e → sp_aw N k P S rp n u H → (∀ c, c ≠ 9 → ¬ (36 ≤ c ∧ c < 80) → H c = C c) → (∀ x, H 9 x = if x < u then nI (sp_bs k P rp n (sp_bw k P S rp n x) x) else F 9 x) → ∃ H1, m_X11_hint_0_L68 (nI (min n1 n)) e (nI u) H = some H1 ∧ (∀ c, c ≠ 9 → ¬ (36 ≤ c ∧ c < 80) → H1 c = C c) ∧ (∀ x, H1 9 x = if x < min n1 n then nI (sp_bs k P rp n (sp_bw k P S rp n x) x) else F 9 x) := by
        intro d
        induction d with
        | zero =>
          intro u e H h he i1 i2 i3
          obtain ⟨e, rfl⟩ : ∃ m, e = m + 1 := ⟨e - 1, by omega⟩
          obtain rfl : u = min n1 n := by omega
          rw [m_X11_hint_0_L68, if_pos (nI_le (by omega) (by omega))]
          exact ⟨H, rfl, i2, i3⟩
        | succ d ih =>
          intro u e H h he i1 i2 i3
          obtain ⟨e, rfl⟩ : ∃ m, e = m + 1 := ⟨e - 1, by omega⟩
          have lH : sp_lc N k G P S H := sp_lc_fr lA (fun c hc => (i2 c (by omega) (by omega)).trans (fC c (by omega)))
          obtain ⟨J, j1, j2, j3⟩ := awm (h := -1) hn lH (by omega) hrp (show u < n by omega) i1
          have hb : sp_bs k P rp n (sp_bw k P S rp n u) u < k := sp_am_lt hk1
          have e15 : H 15 u = nI (rp u) := by
            rw [i2 15 (by decide) (by omega), fC 15 (by omega)]
            exact (a2.2 u (by omega)).1
          have e3 : J 36 3 = nI (sp_bs k P rp n (sp_bw k P S rp n u) u) := j2.1.2.2
          have ew : m_X8_write_6 J (1 : Int32) (nI u) (J 36 3) = some (stF J 9 u (nI (sp_bs k P rp n (sp_bw k P S rp n u) u))) := by
            unfold m_X8_write_6
            rw [show rld 7 (1 : Int32) = some 9 from pb_rld (q := 7) (n := 1) (by decide) (by decide), zb_some, zi_rd 1 li1 (show J 12 1 = nI g by rw [j3 12 (by omega), i2 12 (by decide) (by omega), Cc 12 (by omega) (by omega)]; exact g12) (by decide), zb_some, e3, zi_cut (by omega) (by omega), zb_some, zi_wr (q := 9) u rfl (show u < 40 by omega), zb_some]
          rw [m_X11_hint_0_L68, if_neg (nI_ge (by omega) (by omega)), zi_rd u rfl e15 (show u < 40 by omega), zb_some, j1, zb_some, ew, zb_some, zb_mlet, nI_1]
          refine ih (u + 1) e _ (by omega) (by omega) (sp_aw_fr j2 (by omega) (fun c x y => st_cell _ _ _ (by omega))) (fun c x y => ?_) (fun x => ?_)
          · rw [st_cell _ _ _ x, j3 c (by omega)]; exact i2 c x y
          · by_cases ex : x = u
            · subst ex
              rw [st_self, if_pos (by omega)]
            · rw [st_ne _ _ (by omega), j3 9 (by omega), i3 x]
              by_cases ey : x < u
              · rw [if_pos ey, if_pos (by omega)]
              · rw [if_neg ey, if_neg (by omega)]
      obtain ⟨D, d1, d2, d3⟩ := loop (min n1 n) 0 300 C (by omega) (by omega) c2 (fun _ _ _ => rfl) (fun x => by rw [if_neg (by omega), Cc 9 (by omega) (by omega)])
      have Dc : ∀ c, c ≠ 9 → ¬ (14 ≤ c ∧ c < 17) → ¬ (36 ≤ c ∧ c < 80) → D c = F c := fun c x y z => (d2 c x z).trans (Cc c y z)
      have lD : sp_lr N k G P S D := sp_lr_fr hr (Dc 98 (by decide) (by omega) (by omega)) (Dc 99 (by decide) (by omega) (by omega)) (by rw [Dc 97 (by decide) (by omega) (by omega)]) (by rw [Dc 97 (by decide) (by omega) (by omega)]) (by rw [Dc 97 (by decide) (by omega) (by omega)])
      obtain ⟨E, e1, e2, e3⟩ := rdR (it := F 8) hn lD (by rw [Dc 109 (by decide) (by omega) (by omega)]; exact p109) (by rw [Dc 111 (by decide) (by omega) (by omega)]; exact e111) hn40 (fun i hi => by rw [Dc 112 (by decide) (by omega) (by omega)]; have := hit i hi; rw [show 40 * 0 + i = i by omega] at this; exact this.symm)
      rw [hL, hR] at e2
      have lE := sp_fY_lr e3 lD
      obtain ⟨X, x1, x2, x3, x4⟩ := plR hn lE e2 (by omega) hrp
      have l62 : ∀ d u e H, u + d = min n1 n → d < e → (∀ c, c ≠ 112 → H c = X c) → (∀ x, H 112 x = if 40 ≤ x ∧ x < 40 + u then nI (sp_bs k P rp n (sp_bw k P S rp n (x - 40)) (x - 40)) else F 112 x) → ∃ H1, m_X12_hint_97_L62 (nI (min n1 n)) e (nI u) H = some H1 ∧ (∀ c, c ≠ 112 → H1 c = X c) ∧ (∀ x, H1 112 x = if 40 ≤ x ∧ x < 40 + min n1 n then nI (sp_bs k P rp n (sp_bw k P S rp n (x - 40)) (x - 40)) else F 112 x) := by
        intro d
        induction d with
        | zero =>
          intro u e H h he i1 i2
          obtain ⟨e, rfl⟩ : ∃ m, e = m + 1 := ⟨e - 1, by omega⟩
          obtain rfl : u = min n1 n := by omega
          rw [m_X12_hint_97_L62, if_pos (nI_le (by omega) (by omega))]
          exact ⟨H, rfl, i1, i2⟩
        | succ d ih =>
          intro u e H h he i1 i2
          obtain ⟨e, rfl⟩ : ∃ m, e = m + 1 := ⟨e - 1, by omega⟩
          rw [m_X12_hint_97_L62, if_neg (nI_ge (by omega) (by omega)), zi_rd u rfl (show H 102 u = nI (sp_bs k P rp n (sp_bw k P S rp n u) u) by rw [i1 102 (by decide)]; exact x3 u (by omega)) (show u < 40 by omega), zb_some, show (40 : Int32) + nI u = nI (40 + u) from nI_add 40 u, zi_wr (q := 112) (40 + u) rfl (show _ < 160 by omega), zb_some, zb_mlet, nI_1]
          refine ih (u + 1) e _ (by omega) (by omega) (fun c hc => (st_cell _ _ _ hc).trans (i1 c hc)) (fun x => ?_)
          by_cases ex : x = 40 + u
          · subst ex
            rw [st_self, if_pos (by omega), show 40 + u - 40 = u by omega]
          · rw [st_ne _ _ (by omega), i2 x]
            by_cases ey : 40 ≤ x ∧ x < 40 + u
            · rw [if_pos ey, if_pos (by omega)]
            · rw [if_neg ey, if_neg (by omega)]
      have Xc : ∀ c, (c < 97 ∨ c = 98 ∨ c = 99 ∨ (109 ≤ c ∧ c < 113)) → X c = D c := fun c hc => (x4 c (by omega) (by omega)).trans (e3.1 c (by omega))
      obtain ⟨Y, y1, y2, y3⟩ := l62 (min n1 n) 0 300 X (by omega) (by omega) (fun _ _ => rfl) (fun x => by rw [if_neg (by omega), Xc 112 (by omega), Dc 112 (by decide) (by omega) (by omega)])
      have r13 : ald C 13 (1 : Int32) = some (nI n1) := zi_rd 1 li1 (show C 13 1 = nI n1 by rw [Cc 13 (by omega) (by omega)]; exact g13) (by decide)
      have r14 : C 14 2 = nI n := by rw [fC 14 (by omega)]; exact a2.1
      have X97 : ∀ i, (i = 0 ∨ i = 2 ∨ i = 4 ∨ i = 28) → Y 97 i = F 97 i := fun i hi => by
        rw [y2 97 (by decide), x4 97 (by decide) (by decide), e3.2 i hi, Dc 97 (by decide) (by omega) (by omega)]
      have Yc : ∀ c, (c < 97 ∨ c = 98 ∨ c = 99 ∨ (109 ≤ c ∧ c < 113)) → c ≠ 112 → Y c = D c := fun c hc h112 => (y2 c h112).trans (Xc c hc)
      refine ⟨nI (min n1 n), D, Y, ?_, ?_, ⟨N, k, G, P, S, hn, ?_, ?_, ?_, ?_, fun u hu => ?_⟩⟩
      · unfold m_X11_hint_0
        rw [a1, zb_bd2, if_neg (show ¬ (1 : Int32) = 0 by decide), show m_X8_isLost_6 A (1 : Int32) = _ from elA, if_neg ne1, zb_some, if_pos rfl, b1, zb_bd2, c1, zb_some, r13, zb_some, zb_mlet, r14, pb_min (by omega) (by omega), show m_X11_hint_0_L68 (nI (min n1 n)) 300 (0 : Int32) C = some D from d1, zb_bd1]
      · unfold m_X12_hint_97
        rw [show zld D (0 : Int32) = some 1 by rw [show zld D (0 : Int32) = some (D 109 0) from pb_zld (n := 0) (by decide), Dc 109 (by decide) (by omega) (by omega), p109], zb_some, if_neg (show ¬ (1 : Int32) = 0 by decide), show zld D (1 : Int32) = some 1 by rw [show zld D (1 : Int32) = some (D 109 1) from pb_zld (n := 1) (by decide), Dc 109 (by decide) (by omega) (by omega), k109], zb_some, if_neg (show ¬ (1 : Int32) = 0 by decide), e1, zb_bd2, x1, zb_some]
        have rx : ald X 111 (1 : Int32) = some (nI n1) := zi_rd 1 li1 (show X 111 1 = nI n1 by rw [Xc 111 (by omega), Dc 111 (by decide) (by omega) (by omega)]; exact g111) (by decide)
        have r5 : X 97 5 = nI n := by rw [x4 97 (by decide) (by decide)]; exact e2.1
        rw [rx, zb_some, zb_some, r5, zi_ifle (by omega) (by omega), zb_bd1, show m_X12_hint_97_L62 (nI (min n1 n)) 300 (0 : Int32) X = some Y from y1, zb_bd1]
      · exact sp_lc_fr hl (fun c hc => (Yc c (by omega) (by omega)).trans (Dc c (by omega) (by omega) (by omega)))
      · refine sp_lr_fr hr ?_ ?_ (X97 0 (by omega)) (X97 2 (by omega)) (X97 4 (by omega))
        · rw [Yc 98 (by omega) (by decide), Dc 98 (by decide) (by omega) (by omega)]
        · rw [Yc 99 (by omega) (by decide), Dc 99 (by decide) (by omega) (by omega)]
      · unfold sp_cf at *
        rw [Yc 30 (by omega) (by omega), Yc 34 (by omega) (by omega), Yc 27 (by omega) (by omega), Yc 87 (by omega) (by omega), Yc 17 (by omega) (by omega), Yc 91 (by omega) (by omega), Dc 30 (by omega) (by omega) (by omega), Dc 34 (by omega) (by omega) (by omega), Dc 27 (by omega) (by omega) (by omega), Dc 87 (by omega) (by omega) (by omega), Dc 17 (by omega) (by omega) (by omega), Dc 91 (by omega) (by omega) (by omega)]
        exact hcf
      · rw [X97 28 (by omega), Yc 6 (by omega) (by omega), Dc 6 (by omega) (by omega) (by omega)]
        exact hs.1
      · have Yd : ∀ c, c < 14 ∨ (109 ≤ c ∧ c < 112) → c ≠ 9 → Y c = F c := fun c hc h9 => (Yc c (by omega) (by omega)).trans (Dc c h9 (by omega) (by omega))
        by_cases eu : u = 1
        · subst eu
          refine .inr ⟨?_, ⟨g, by omega, ?_, ?_⟩, ⟨n1, hn1, ?_, ?_⟩, fun i hi => ?_⟩
          · rw [Yd 109 (by omega) (by decide)]; exact k109
          · rw [Yd 12 (by omega) (by decide)]; exact g12
          · rw [Yd 110 (by omega) (by decide)]; exact g110
          · rw [Yd 13 (by omega) (by decide)]; exact g13
          · rw [Yd 111 (by omega) (by decide)]; exact g111
          · rw [y3, show Y (8 + 1) i = D 9 i by rw [Yc (8 + 1) (by omega) (by omega)], d3 i]
            by_cases ei : i < min n1 n
            · rw [if_pos ei, if_pos (by omega), show 40 * 1 + i - 40 = i by omega]
            · rw [if_neg ei, if_neg (by omega)]
              exact git i hi
        · refine sp_s1h_st (s := 1) (hs.2 u hu) eu (fun i hi => ?_) ?_ ?_ ?_ ?_ ?_ (fun i hi => ?_)
          · rw [Yd (8 + u) (by omega) (by omega)]
          · rw [Yd 12 (by omega) (by decide)]
          · rw [Yd 13 (by omega) (by decide)]
          · rw [Yd 109 (by omega) (by decide)]
          · rw [Yd 110 (by omega) (by decide)]
          · rw [Yd 111 (by omega) (by decide)]
          · rw [y3, if_neg (by omega)]
/-- the digest's sums -/
def sp_hs (P : Nat → Nat) : Nat → Nat → Int64 → Int64
  | 0, _, v => v
  | d + 1, p, v => sp_hs P d (p + 1) ((31 : Int64) * v + (nI (P p)).toInt64)
theorem dg1 {N k G : Nat} {P S : Nat → Nat} {F : mmS} (hn : sp_num N k G P S) (hl : sp_lc N k G P S F) : ∀ d p f v, p + d = N → d < f → m_X11_digest_0_L66 F f v (nI p) = some (sp_hs P d p v) := by
  have hN := hn.2.1
  intro d
  induction d with
  | zero =>
    intro p f v h hf
    obtain ⟨f, rfl⟩ : ∃ m, f = m + 1 := ⟨f - 1, by omega⟩
    rw [m_X11_digest_0_L66, hl.1, if_pos (nI_le (by omega) (by omega))]
    rfl
  | succ d ih =>
    intro p f v h hf
    obtain ⟨f, rfl⟩ : ∃ m, f = m + 1 := ⟨f - 1, by omega⟩
    rw [m_X11_digest_0_L66, hl.1, if_neg (nI_ge (by omega) (by omega)), zi_rd p rfl (hl.2.2.2.2.1 p (by omega)) (show p < 6 by omega), zb_some, zb_mlet, zb_mlet, nI_1]
    exact ih (p + 1) f _ (by omega) (by omega)
theorem dg2 {N k G : Nat} {P S : Nat → Nat} {F : mmS} (hn : sp_num N k G P S) (hl : sp_lc N k G P S F) : ∀ d p f v, p + d = k → d < f → m_X11_digest_0_L102 F f v (nI p) = some (sp_hs S d p v) := by
  have hk3 := hn.2.2.2.1
  intro d
  induction d with
  | zero =>
    intro p f v h hf
    obtain ⟨f, rfl⟩ : ∃ m, f = m + 1 := ⟨f - 1, by omega⟩
    rw [m_X11_digest_0_L102, hl.2.1, if_pos (nI_le (by omega) (by omega))]
    rfl
  | succ d ih =>
    intro p f v h hf
    obtain ⟨f, rfl⟩ : ∃ m, f = m + 1 := ⟨f - 1, by omega⟩
    rw [m_X11_digest_0_L102, hl.2.1, if_neg (nI_ge (by omega) (by omega)), zi_rd p rfl (hl.2.2.2.2.2.1 p (by omega)) (show p < 3 by omega), zb_some, zb_mlet, zb_mlet, nI_1]
    exact ih (p + 1) f _ (by omega) (by omega)
theorem dg3 {N k G : Nat} {P S : Nat → Nat} {F : mmS} (hn : sp_num N k G P S) (hl : sp_lr N k G P S F) : ∀ d p f v, p + d = N → d < f → m_X12_digest_97_L41 F f v (nI p) = some (sp_hs P d p v) := by
  have hN := hn.2.1
  intro d
  induction d with
  | zero =>
    intro p f v h hf
    obtain ⟨f, rfl⟩ : ∃ m, f = m + 1 := ⟨f - 1, by omega⟩
    rw [m_X12_digest_97_L41, hl.1, if_pos (nI_le (by omega) (by omega))]
    rfl
  | succ d ih =>
    intro p f v h hf
    obtain ⟨f, rfl⟩ : ∃ m, f = m + 1 := ⟨f - 1, by omega⟩
    rw [m_X12_digest_97_L41, hl.1, if_neg (nI_ge (by omega) (by omega)), zi_rd p rfl (hl.2.2.2.1 p (by omega)) (show p < 6 by omega), zb_some, zb_mlet, zb_mlet, nI_1]
    exact ih (p + 1) f _ (by omega) (by omega)
theorem dg4 {N k G : Nat} {P S : Nat → Nat} {F : mmS} (hn : sp_num N k G P S) (hl : sp_lr N k G P S F) : ∀ d p f v, p + d = k → d < f → m_X12_digest_97_L71 F f v (nI p) = some (sp_hs S d p v) := by
  have hk3 := hn.2.2.2.1
  intro d
  induction d with
  | zero =>
    intro p f v h hf
    obtain ⟨f, rfl⟩ : ∃ m, f = m + 1 := ⟨f - 1, by omega⟩
    rw [m_X12_digest_97_L71, hl.2.1, if_pos (nI_le (by omega) (by omega))]
    rfl
  | succ d ih =>
    intro p f v h hf
    obtain ⟨f, rfl⟩ : ∃ m, f = m + 1 := ⟨f - 1, by omega⟩
    rw [m_X12_digest_97_L71, hl.2.1, if_neg (nI_ge (by omega) (by omega)), zi_rd p rfl (hl.2.2.2.2.1 p (by omega)) (show p < 3 by omega), zb_some, zb_mlet, zb_mlet, nI_1]
    exact ih (p + 1) f _ (by omega) (by omega)
theorem dg5 {N k G n : Nat} {P S rp : Nat → Nat} {hh : Nat → Int32} {A : mmS} (hn : sp_num N k G P S) (hl : sp_lc N k G P S A) (hw : sp_rw n rp hh A) (hok : sp_hok k n hh) (hn40 : n ≤ 40) (hrp : ∀ t, t < n → rp t < N) : ∀ d j f v H, j + d = 5 → d < f → sp_fr 17 97 A H → sp_cf H → ∃ B, m_X11_digest_0_L162 f v (nI j) H = some (sp_hs (fun j => sp_cost k G P S rp hh j n) d j v, B) ∧ sp_fr 17 97 A B ∧ sp_cf B := by
  intro d
  induction d with
  | zero =>
    intro j f v H h hf h1 h2
    obtain ⟨f, rfl⟩ : ∃ m, f = m + 1 := ⟨f - 1, by omega⟩
    obtain rfl : j = 5 := by omega
    rw [m_X11_digest_0_L162, if_pos (show (4 : Int32) < nI 5 by decide)]
    exact ⟨H, rfl, h1, h2⟩
  | succ d ih =>
    intro j f v H h hf h1 h2
    obtain ⟨f, rfl⟩ : ∃ m, f = m + 1 := ⟨f - 1, by omega⟩
    obtain ⟨B, b1, b2, b3⟩ := ldj (γ := Int64 × mmS) (j := j) hn (sp_fr_lc h1 (by decide) hl) (sp_fr_rw h1 (by decide) hw) h2 hok hn40 hrp (by omega)
    have e := b3 (fun x28 G29 => mlet (((31 : Int64) * v) + x28.toInt64) fun x30 => mlet (nI j + (1 : Int32)) fun x31 => m_X11_digest_0_L162 f x30 x31 G29)
    rw [m_X11_digest_0_L162, if_neg (show ¬ (4 : Int32) < nI j from nI_nlt (b := j) (a := 4) (by omega) (by omega))]
    obtain ⟨D, d1, d2, d3⟩ := ih (j + 1) f ((31 : Int64) * v + (nI (sp_cost k G P S rp hh j n)).toInt64) B (by omega) (by omega) (sp_fr_tr h1 b1) b2
    refine ⟨D, ?_, d2, d3⟩
    refine e.trans ?_
    rw [zb_mlet, zb_mlet, nI_1, d1]
    rfl
theorem dg6 {N k G n : Nat} {P S rp : Nat → Nat} {hh : Nat → Int32} {A : mmS} (hn : sp_num N k G P S) (hl : sp_lr N k G P S A) (hr : sp_rr n rp A) (hq : sp_hn n hh A) (hok : sp_hok k n hh) (hn40 : n ≤ 40) (hrp : ∀ t, t < n → rp t < N) : ∀ d j f v H, j + d = 5 → d < f → sp_fX A H → ∃ B, m_X12_digest_97_L128 f v (nI j) H = some (sp_hs (fun j => sp_cost k G P S rp hh j n) d j v, B) ∧ sp_fX A B := by
  intro d
  induction d with
  | zero =>
    intro j f v H h hf h1
    obtain ⟨f, rfl⟩ : ∃ m, f = m + 1 := ⟨f - 1, by omega⟩
    obtain rfl : j = 5 := by omega
    rw [m_X12_digest_97_L128, if_pos (show (5 : Int32) ≤ nI 5 by decide)]
    exact ⟨H, rfl, h1⟩
  | succ d ih =>
    intro j f v H h hf h1
    obtain ⟨f, rfl⟩ : ∃ m, f = m + 1 := ⟨f - 1, by omega⟩
    obtain ⟨B, b1, b2⟩ := coR (r := j) hn (sp_fX_lr h1 hl) (sp_fX_rr h1 hr) (sp_fX_hn h1 hq) hok hn40 hrp (by omega)
    rw [m_X12_digest_97_L128, if_neg (show ¬ (5 : Int32) ≤ nI j from nI_ge (b := 5) (by omega) (by omega)), b1, zb_bd2, zb_mlet, zb_mlet, nI_1]
    exact ih (j + 1) f _ B (by omega) (by omega) (sp_fX_tr h1 b2)
theorem S25 : lw_S25 sp_INV := by
  intro F hI
  have hI' := hI
  obtain ⟨N, k, G, P, S, hn, hl, hr, hcf, hs⟩ := hI'
  have hN := hn.2.1
  have hk1 := hn.2.2.1
  have hk3 := hn.2.2.2.1
  have h0 := hs.2 0 (by omega)
  -- the reference's first four
  have e6 : ∀ H : mmS, sp_lr N k G P S H → sp_sh H → sp_kc H 4 = sp_kc F 4 → m_X12_digest_97_L6 H 300 17 0 = some ((31 : Int64) * ((31 : Int64) * ((31 : Int64) * ((31 : Int64) * 17 + (nI N).toInt64) + (nI k).toInt64) + (nI G).toInt64) + (nI (sp_kc F 4)).toInt64) := by
    intro H lH sH ek
    have cnt : ∀ a, m_X12_count_97 H a = if a = 0 then some (nI N) else if a = 1 then some (nI k) else if a = 2 then some (nI G) else if a = 3 then some (H 97 28) else if a = 4 then some (nI (sp_kc F 4)) else some (-2) := by
      intro a
      unfold m_X12_count_97
      rw [lH.1, lH.2.1, lH.2.2.1, kcR sH, zb_bd1, ek]
    rw [m_X12_digest_97_L6, if_neg (show ¬ (5 : Int32) ≤ 0 by decide), if_neg (show ¬ (0 : Int32) = 3 by decide), cnt, if_pos rfl, zb_some, zb_bd1, zb_mlet, show (0 : Int32) + 1 = 1 from rfl]
    rw [m_X12_digest_97_L6, if_neg (show ¬ (5 : Int32) ≤ 1 by decide), if_neg (show ¬ (1 : Int32) = 3 by decide), cnt, if_neg (show ¬ (1 : Int32) = 0 by decide), if_pos rfl, zb_some, zb_bd1, zb_mlet, show (1 : Int32) + 1 = 2 from rfl]
    rw [m_X12_digest_97_L6, if_neg (show ¬ (5 : Int32) ≤ 2 by decide), if_neg (show ¬ (2 : Int32) = 3 by decide), cnt, if_neg (show ¬ (2 : Int32) = 0 by decide), if_neg (show ¬ (2 : Int32) = 1 by decide), if_pos rfl, zb_some, zb_bd1, zb_mlet, show (2 : Int32) + 1 = 3 from rfl]
    rw [m_X12_digest_97_L6, if_neg (show ¬ (5 : Int32) ≤ 3 by decide), if_pos rfl, zb_bd1, zb_mlet, show (3 : Int32) + 1 = 4 from rfl]
    rw [m_X12_digest_97_L6, if_neg (show ¬ (5 : Int32) ≤ 4 by decide), if_neg (show ¬ (4 : Int32) = 3 by decide), cnt, if_neg (show ¬ (4 : Int32) = 0 by decide), if_neg (show ¬ (4 : Int32) = 1 by decide), if_neg (show ¬ (4 : Int32) = 2 by decide), if_neg (show ¬ (4 : Int32) = 3 by decide), if_pos rfl, zb_some, zb_bd1, zb_mlet, show (4 : Int32) + 1 = 5 from rfl]
    rw [m_X12_digest_97_L6, if_pos (show (5 : Int32) ≤ 5 by decide)]
  generalize hx5 : (31 : Int64) * ((31 : Int64) * ((31 : Int64) * ((31 : Int64) * 17 + (nI N).toInt64) + (nI k).toInt64) + (nI G).toInt64) + (nI (sp_kc F 4)).toInt64 = x5 at e6
  have preC : ∀ r, (bd2 (m_X11_readRow_0 F) fun x20 G21 => if x20 = (0 : Int32) then (some (sp_hs S k 0 (sp_hs P N 0 x5), G21)) else (mlet (((31 : Int64) * sp_hs S k 0 (sp_hs P N 0 x5)) + (G21 14 2).toInt64) fun x22 => bd2 (m_X11_digest_0_L162 300 x22 (0 : Int32) G21) fun y48 G49 => bd2 (m_X0_plan_36_14 G49) fun x50 G51 => mlet (((31 : Int64) * y48) + x50.toInt64) fun x52 => bd2 (m_X4_firstUnpaid_80_14 G51) fun x53 G54 => some ((((31 : Int64) * x52) + x53.toInt64), G54))) = r → m_X11_digest_0 F = r := by
    intro r h
    unfold m_X11_digest_0
    rw [zb_mlet, zb_mlet, zb_mlet, kcC hs, zb_some, zb_mlet, hl.1, hl.2.1, hl.2.2.1, hx5, show m_X11_digest_0_L66 F 300 x5 (0 : Int32) = some (sp_hs P N 0 x5) from dg1 hn hl N 0 300 x5 (by omega) (by omega), zb_bd1, show m_X11_digest_0_L102 F 300 (sp_hs P N 0 x5) (0 : Int32) = some (sp_hs S k 0 (sp_hs P N 0 x5)) from dg2 hn hl k 0 300 _ (by omega) (by omega), zb_bd1]
    exact h
  have preR : ∀ (H : mmS) r, sp_lr N k G P S H → sp_sh H → sp_kc H 4 = sp_kc F 4 → (Option.bind (zld H (0 : Int32)) fun x22 => if x22 = (0 : Int32) then (some (sp_hs S k 0 (sp_hs P N 0 x5), H)) else (bd2 (m_X12_reads_97 H) fun x23 G24 => mlet (((31 : Int64) * sp_hs S k 0 (sp_hs P N 0 x5)) + (G24 97 5).toInt64) fun x25 => bd2 (m_X12_digest_97_L128 300 x25 (0 : Int32) G24) fun y34 G35 => bd2 (m_X12_bestCost_97 G35) fun x36 G37 => mlet (((31 : Int64) * y34) + x36.toInt64) fun x38 => bd2 (m_X12_paysNot_97 G37) fun x39 G40 => mlet (((31 : Int64) * x38) + x39.toInt64) fun x41 => some (x41, G40))) = r → m_X12_digest_97 H = r := by
    intro H r lH sH ek h
    unfold m_X12_digest_97
    rw [e6 H lH sH ek, zb_bd1, show m_X12_digest_97_L41 H 300 x5 (0 : Int32) = some (sp_hs P N 0 x5) from dg3 hn lH N 0 300 x5 (by omega) (by omega), zb_bd1, show m_X12_digest_97_L71 H 300 (sp_hs P N 0 x5) (0 : Int32) = some (sp_hs S k 0 (sp_hs P N 0 x5)) from dg4 hn lH k 0 300 _ (by omega) (by omega), zb_bd1]
    exact h
  have kce : ∀ H : mmS, H 12 = F 12 → sp_kc H 4 = sp_kc F 4 := by
    intro H h
    have : ∀ s, sp_kc H s = sp_kc F s := by
      intro s
      induction s with
      | zero => rfl
      | succ s ih =>
        show sp_kc H s + (if H 12 s = -1 then 0 else 1) = sp_kc F s + (if F 12 s = -1 then 0 else 1)
        rw [ih, h]
    exact this 4
  rcases h0 with ⟨l12, l109⟩ | ⟨p109, ⟨f, hf, e12, e110⟩, ⟨n0, hn40, e13, e111⟩, hit⟩
  · obtain ⟨A, a1, a2⟩ := rdC0 hs l12
    have hIA := sp_INV_row hI a2
    have lA : sp_lr N k G P S A := sp_lr_fr hr (a2 98 (by omega)) (a2 99 (by omega)) (by rw [a2 97 (by omega)]) (by rw [a2 97 (by omega)]) (by rw [a2 97 (by omega)])
    have sA : sp_sh A := sp_sh_fr hs (fun c hc => a2 c (by omega)) (fun c h1 h2 => a2 c (by omega)) (by rw [a2 97 (by omega)])
    refine ⟨sp_hs S k 0 (sp_hs P N 0 x5), A, A, preC _ ?_, preR A _ lA sA (kce A (a2 12 (by omega))) ?_, hIA⟩
    · rw [a1, zb_bd2, if_pos rfl]
    · rw [show zld A (0 : Int32) = some 0 by rw [show zld A (0 : Int32) = some (A 109 0) from pb_zld (n := 0) (by decide), a2 109 (by omega), l109], zb_some, if_pos rfl]
  · have ne : ¬ F 12 0 = -1 := by rw [e12]; exact zi_m1 (by omega)
    obtain ⟨A, a1, a2, a3⟩ := rdC hn hl hs ne e13 hn40
    have hlen := sp_ls_len N (F 8) n0
    have lA := sp_fr_lc a3 (by decide) hl
    have cA : sp_cf A := by
      unfold sp_cf at *
      rw [a3 30 (by omega), a3 34 (by omega), a3 27 (by omega), a3 87 (by omega), a3 17 (by omega), a3 91 (by omega)]
      exact hcf
    have hok : sp_hok k (sp_ls N (F 8) n0).length (sp_hh k F) := sp_hh_ok hk1 hk3
    have hrp : ∀ t, t < (sp_ls N (F 8) n0).length → sp_rp N (F 8) n0 t < N := fun t ht => sp_rp_lt hn.1 hN ht
    generalize hL : (sp_ls N (F 8) n0).length = n at *
    generalize hR : sp_rp N (F 8) n0 = rp at *
    generalize hH : sp_hh k F = hh at *
    obtain ⟨B, b1, b2, b3⟩ := dg5 hn lA a2 hok (by omega) hrp 5 0 300 ((31 : Int64) * sp_hs S k 0 (sp_hs P N 0 x5) + (nI n).toInt64) A (by omega) (by omega) (sp_fr_refl _ _ _) cA
    obtain ⟨C, c1, c2, c3⟩ := plA hn (sp_fr_lc b2 (by decide) lA) (sp_fr_rw b2 (by decide) a2) (by omega) hrp
    have fC : sp_fr 17 97 A C := sp_fr_tr b2 (sp_fr_up c3 (by omega) (by omega))
    obtain ⟨D, d1, d2⟩ := fuC hn (sp_fr_lc fC (by decide) lA) (sp_fr_rw fC (by decide) a2) (by omega) hrp
    have fD : sp_fr 14 97 F D := sp_fr_tr (sp_fr_up a3 (by omega) (by omega)) (sp_fr_tr (sp_fr_up fC (by omega) (by omega)) (sp_fr_up d2 (by omega) (by omega)))
    have cD : sp_cf D := sp_cf_fr2 (sp_cf_fr2 b3 c3 (by omega) (by omega)) d2 (by omega) (by omega)
    have lD : sp_lr N k G P S D := sp_lr_fr hr (fD 98 (by omega)) (fD 99 (by omega)) (by rw [fD 97 (by omega)]) (by rw [fD 97 (by omega)]) (by rw [fD 97 (by omega)])
    have sD : sp_sh D := sp_sh_fr hs (fun c hc => fD c (by omega)) (fun c h1 h2 => fD c (by omega)) (by rw [fD 97 (by omega)])
    obtain ⟨E, e1, e2, e3⟩ := rdR (it := F 8) hn lD (by rw [fD 109 (by omega)]; exact p109) (by rw [fD 111 (by omega)]; exact e111) hn40 (fun i hi => by rw [fD 112 (by omega)]; have := hit i hi; rw [show 40 * 0 + i = i by omega] at this; exact this.symm)
    rw [hL, hR] at e2
    have lE := sp_fY_lr e3 lD
    have fE : ∀ c, c < 14 → E c = F c := fun c hc => (e3.1 c (by omega)).trans (fD c (by omega))
    have hnE : sp_hn n hh E := by
      intro t ht
      have h1 : sp_s1h E 1 := sp_s1h_fr (hs.2 1 (by omega)) (fE _ (by omega)) (fE 12 (by omega)) (fE 13 (by omega)) ((e3.1 109 (by omega)).trans (fD 109 (by omega))) ((e3.1 110 (by omega)).trans (fD 110 (by omega))) ((e3.1 111 (by omega)).trans (fD 111 (by omega))) ((e3.1 112 (by omega)).trans (fD 112 (by omega)))
      rw [haR hn lE h1 (by omega), ← hH]
      unfold sp_hh
      rw [fE 12 (by omega), fE 13 (by omega), fE 9 (by omega)]
    obtain ⟨X, x1, x2⟩ := dg6 hn lE e2 hnE hok (by omega) hrp 5 0 300 ((31 : Int64) * sp_hs S k 0 (sp_hs P N 0 x5) + (nI n).toInt64) E (by omega) (by omega) ⟨fun _ _ => rfl, fun _ _ => rfl⟩
    obtain ⟨Y, y1, y2⟩ := bcR hn (sp_fX_lr x2 lE) (sp_fX_rr x2 e2) (by omega) hrp
    have fY := sp_fX_tr x2 (sp_fX_P y2)
    obtain ⟨Z, z1, z2⟩ := fuR hn (sp_fX_lr fY lE) (sp_fX_rr fY e2) (by omega) hrp
    have fZ := sp_fY_tr e3 (sp_fY_X (sp_fX_tr fY z2))
    refine ⟨(31 : Int64) * ((31 : Int64) * sp_hs (fun j => sp_cost k G P S rp hh j n) 5 0 ((31 : Int64) * sp_hs S k 0 (sp_hs P N 0 x5) + (nI n).toInt64) + (nI (sp_fC (sp_VT k P rp n 0) (sp_s0 S))).toInt64) + (sp_fu k P S rp n n 0).toInt64, D, Z, preC _ ?_, preR D _ lD sD (kce D (fD 12 (by omega))) ?_, ⟨N, k, G, P, S, hn, ?_, sp_fY_lr fZ lD, ?_, ?_⟩⟩
    · rw [a1, zb_bd2, if_neg (show ¬ (1 : Int32) = 0 by decide), a2.1, zb_mlet, show m_X11_digest_0_L162 300 ((31 : Int64) * sp_hs S k 0 (sp_hs P N 0 x5) + (nI n).toInt64) (0 : Int32) A = _ from b1, zb_bd2, c1, zb_bd2, zb_mlet, d1, zb_bd2]
    · rw [show zld D (0 : Int32) = some 1 by rw [show zld D (0 : Int32) = some (D 109 0) from pb_zld (n := 0) (by decide), fD 109 (by omega), p109], zb_some, if_neg (show ¬ (1 : Int32) = 0 by decide), e1, zb_bd2, e2.1, zb_mlet, show m_X12_digest_97_L128 300 ((31 : Int64) * sp_hs S k 0 (sp_hs P N 0 x5) + (nI n).toInt64) (0 : Int32) E = _ from x1, zb_bd2, y1, zb_bd2, zb_mlet, z1, zb_bd2, zb_mlet]
    · exact sp_lc_fr hl (fun c hc => (fZ.1 c (by omega)).trans (fD c (by omega)))
    · exact sp_cf_fr cD (fun c h1 h2 => fZ.1 c (by omega))
    · exact sp_sh_fr hs (fun c hc => (fZ.1 c (by omega)).trans (fD c (by omega))) (fun c h1 h2 => (fZ.1 c (by omega)).trans (fD c (by omega))) (by rw [fZ.2 28 (by omega), fD 97 (by omega)])
