def m_X6_lead_14_23_L16 (x1 : Int32) : Nat → Int32 → mmS → Option (mmS)
  | 0, _, _ => none
  | n5 + 1, v3, G4 => if x1 ≤ v3 then (some ((G4))) else (Option.bind (ald G4 15 v3) fun x6 => Option.bind (ald G4 16 v3) fun x7 => Option.bind (m_X2_meet_23 G4 x6 x7) fun G8 => mlet (v3 + (1 : Int32)) fun x9 => m_X6_lead_14_23_L16 x1 n5 x9 G8)
def m_X6_lead_14_23 (F : mmS) (a2 : Int32) : Option (Int32 × mmS) :=
  mlet (mmin a2 (F 14 2)) fun x1 => Option.bind (m_X7_begin_23 F) fun G2 => bd1 (m_X6_lead_14_23_L16 x1 300 (0 : Int32) G2) fun G10 => some ((G10 23 2), G10)
set_option maxHeartbeats 4000000 in
set_option maxRecDepth 100000 in
theorem c_X6_lead_14_23 {l : Launch} {k : mmK} {F : mmS} {a2 : Int32} {r : Int32} {F1 : mmS} (h : m_X6_lead_14_23 F a2 = some (r, F1)) : mm_T l k yX6_lead cX6_lead 5 (some .int) 5 [.ref (mmad k 14), .ref (mmad k 23), .int a2] F (some (.int r)) F1 := by
  refine mm_start [(0, .ref (mmad k 14)), (1, .ref (mmad k 23)), (2, .int a2)] (by decide) (Nat.le_of_ble_eq_true rfl) rfl ?_
  intro z hz C
  subst hz
  have C : mm_C z k RX6 cX6_lead 5 (some .int) 5 := C
  replace h := mk0 h
  unfold m_X6_lead_14_23 at h
  refine mm_iload_n C dX6_lead_0 rfl 2 rfl 1 rfl ?_
  refine mm_aload_n C dX6_lead_1 rfl 0 rfl 2 rfl ?_
  refine mm_get C fl_X6_18_X6 (by decide) (mc_14 k _) rfl dX6_lead_2 5 rfl ?_
  refine mm_min C mw_516 mw_517 mw_62 mw_518 (by omega) (Nat.le_trans (Nat.le_of_ble_eq_true rfl : _ ≤ 40) (by omega)) dX6_lead_5 8 rfl ?_
  obtain ⟨x1, ex1, h⟩ := me h
  refine mm_top ex1 ?_
  refine mm_istore_n (lv2 := [(3, .int x1), (0, .ref (mmad k 14)), (1, .ref (mmad k 23)), (2, .int a2)]) C dX6_lead_8 rfl (by decide) rfl 9 rfl ?_
  refine mm_aload_n C dX6_lead_9 rfl 2 rfl 10 rfl ?_
  obtain ⟨G2, eG2, h⟩ := mb h
  refine mm_callU [] C (c_X7_begin_23 eG2) wb_X7_begin wu_X6_57_X2 (fun s hN => hN.2.2.2.2) (by decide) (mc_23 k _) rfl rfl (by omega) rfl (Nat.le_of_ble_eq_true rfl) dX6_lead_10 13 rfl ?_
  show mm_AW z k 5 (some (.int r)) F1 G2 13 [(3, .int x1), (0, .ref (mmad k 14)), (1, .ref (mmad k 23)), (2, .int a2)] []
  refine mm_iconst (v := (0 : Int32)) C dX6_lead_13 (by decide) 14 rfl ?_
  refine mm_istore (lv2 := [(4, .int (0 : Int32)), (3, .int x1), (0, .ref (mmad k 14)), (1, .ref (mmad k 23)), (2, .int a2)]) C dX6_lead_14 (by decide) rfl 16 rfl ?_
  refine mm_lv [2, 3, 1, 0] rfl ?_
  have hL16 : ∀ (K : (mmS) → Option (Int32 × mmS)) (hK : ∀ (G4 : mmS) , K (G4) = some (r, F1) → mm_AW z k 5 (some (.int r)) F1 G4 46 [(1, .ref (mmad k 23))] []) (n5 : Nat) (v3 : Int32) (G4 : mmS) , (m_X6_lead_14_23_L16 x1 n5 v3 G4).bind K = some (r, F1) → mm_AW z k 5 (some (.int r)) F1 G4 16 [(0, .ref (mmad k 14)), (1, .ref (mmad k 23)), (3, .int x1), (4, .int v3)] [] := by
    intro K hK n5
    induction n5 with
    | zero => intro v3 G4 h; rw [m_X6_lead_14_23_L16] at h; cases h
    | succ n5 ih =>
      intro v3 G4 h
      rw [m_X6_lead_14_23_L16] at h
      refine mm_iload C dX6_lead_16 3 rfl 18 rfl ?_
      refine mm_iload_n C dX6_lead_18 rfl 2 rfl 19 rfl ?_
      refine mm_icmp_ge C dX6_lead_19 46 22 (by decide) rfl (fun hc => ?_) (fun hc => ?_)
      · rw [if_pos hc] at h
        refine mm_lv [1] rfl ?_
        exact hK _ h
      · rw [if_neg hc] at h
        refine mm_aload_n C dX6_lead_22 rfl 1 rfl 23 rfl ?_
        refine mm_aload_n C dX6_lead_23 rfl 0 rfl 24 rfl ?_
        refine mm_get C fl_X6_9_X6 (by decide) (mc_14 k _) rfl dX6_lead_24 27 rfl ?_
        refine mm_iload C dX6_lead_27 3 rfl 29 rfl ?_
        obtain ⟨x6, ex6, h⟩ := mb h
        refine mm_iald C ex6 dX6_lead_29 30 rfl ?_
        refine mm_aload_n C dX6_lead_30 rfl 0 rfl 31 rfl ?_
        refine mm_get C fl_X6_15_X6 (by decide) (mc_14 k _) rfl dX6_lead_31 34 rfl ?_
        refine mm_iload C dX6_lead_34 3 rfl 36 rfl ?_
        obtain ⟨x7, ex7, h⟩ := mb h
        refine mm_iald C ex7 dX6_lead_36 37 rfl ?_
        obtain ⟨G8, eG8, h⟩ := mb h
        refine mm_callU [.int x6, .int x7] C (c_X2_meet_23 eG8) wb_X2_meet wu_X6_62_X2 (fun s hN => hN.2.2.1) (by decide) (mc_23 k _) rfl rfl (by omega) rfl (Nat.le_of_ble_eq_true rfl) dX6_lead_37 40 rfl ?_
        show mm_AW z k 5 (some (.int r)) F1 G8 40 [(0, .ref (mmad k 14)), (1, .ref (mmad k 23)), (3, .int x1), (4, .int v3)] []
        obtain ⟨x9, ex9, h⟩ := me h
        refine mm_iinc (v := x9) (lv2 := [(4, .int x9), (0, .ref (mmad k 14)), (1, .ref (mmad k 23)), (3, .int x1)]) C dX6_lead_40 3 rfl (by rw [← ex9]; rfl) (by decide) rfl 43 rfl ?_
        refine mm_goto C dX6_lead_43 16 (by decide) ?_
        refine mm_lv [1, 2, 3, 0] rfl ?_
        exact ih _ _ h
  refine mj1 h (fun (G10 : mmS) => mm_AW z k 5 (some (.int r)) F1 G10 46 [(1, .ref (mmad k 23))] []) ?_ ?_
  · intro G10 h
    refine mm_aload_n C dX6_lead_46 rfl 0 rfl 47 rfl ?_
    refine mm_get C fl_X6_66_X2 (by decide) (mc_23 k _) rfl dX6_lead_47 50 rfl ?_
    exact mm_iretW C (h) dX6_lead_50
  · intro K2 hR h
    exact hL16 K2 hR 300 _ _ h
def m_X11_cost_0 (F : mmS) (a1 : Int32) : Option (Int32 × mmS) :=
  Option.bind (m_X11_isWithin a1 (0 : Int32) (4 : Int32)) fun x1 => if x1 = (0 : Int32) then (some ((-2 : Int32), F)) else (bd2 (m_X11_readRow_0 F) fun x2 G3 => if x2 = (0 : Int32) then (bd2 (m_X8_found_6 G3 (1 : Int32)) fun x15 G16 => some (x15, G16)) else (Option.bind (rld 29 a1) fun q4 => if q4 = 30 then (bd2 (m_X6_lead_14_30 G3 (G3 14 2)) fun x5 G6 => some (x5, G6)) else if q4 = 32 then (bd2 (m_X6_lead_14_32 G3 (G3 14 2)) fun x7 G8 => some (x7, G8)) else if q4 = 17 then (bd2 (m_X6_lead_14_17 G3 (G3 14 2)) fun x9 G10 => some (x9, G10)) else if q4 = 34 then (bd2 (m_X6_lead_14_34 G3 (G3 14 2)) fun x11 G12 => some (x11, G12)) else if q4 = 23 then (bd2 (m_X6_lead_14_23 G3 (G3 14 2)) fun x13 G14 => some (x13, G14)) else none))
set_option maxHeartbeats 4000000 in
set_option maxRecDepth 100000 in
theorem c_X11_cost_0 {l : Launch} {k : mmK} {F : mmS} {a1 : Int32} {r : Int32} {F1 : mmS} (h : m_X11_cost_0 F a1 = some (r, F1)) : mm_T l k yX11_cost cX11_cost 2 (some .int) 11 [.ref (mmad k 0), .int a1] F (some (.int r)) F1 := by
  refine mm_start [(0, .ref (mmad k 0)), (1, .int a1)] (by decide) (Nat.le_of_ble_eq_true rfl) rfl ?_
  intro z hz C
  subst hz
  have C : mm_C z k RX11 cX11_cost 2 (some .int) 11 := C
  replace h := mk0 h
  unfold m_X11_cost_0 at h
  refine mm_iload_n C dX11_cost_0 rfl 1 rfl 1 rfl ?_
  refine mm_iconst (v := (0 : Int32)) C dX11_cost_1 (by decide) 2 rfl ?_
  refine mm_iconst (v := (4 : Int32)) C dX11_cost_2 (by decide) 3 rfl ?_
  obtain ⟨x1, ex1, h⟩ := mb h
  refine mm_callS [.int a1, .int (0 : Int32), .int (4 : Int32)] C (c_X11_isWithin ex1) wb_X11_isWithin ws_X11_85 rfl (by omega) rfl (Nat.le_of_ble_eq_true rfl) dX11_cost_3 6 rfl ?_
  show mm_AW z k 2 (some (.int r)) F1 F 6 [(0, .ref (mmad k 0)), (1, .int a1)] [.int x1]
  refine mm_if_ne C dX11_cost_6 12 9 (by decide) rfl (fun hc => ?_) (fun hc => ?_)
  · rw [if_neg hc] at h
    refine mm_aload_n C dX11_cost_12 rfl 0 rfl 13 rfl ?_
    obtain ⟨x2, G3, ex2, h⟩ := mb2 h
    refine mm_callV [] C (c_X11_readRow_0 ex2) wb_X11_readRow wv_X11_120 (by decide) (mc_0 k _) rfl rfl rfl (by omega) rfl (Nat.le_of_ble_eq_true rfl) dX11_cost_13 16 rfl ?_
    show mm_AW z k 2 (some (.int r)) F1 G3 16 [(0, .ref (mmad k 0)), (1, .int a1)] [.int x2]
    refine mm_if_ne C dX11_cost_16 28 19 (by decide) rfl (fun hc => ?_) (fun hc => ?_)
    · rw [if_neg hc] at h
      refine mm_aload_n C dX11_cost_28 rfl 0 rfl 29 rfl ?_
      refine mm_get C fl_X11_26_X11 (by decide) (mc_0 k _) rfl dX11_cost_29 32 rfl ?_
      refine mm_aload_n C dX11_cost_32 rfl 0 rfl 33 rfl ?_
      refine mm_get C fl_X11_58_X11 (by decide) (mc_0 k _) rfl dX11_cost_33 36 rfl ?_
      refine mm_iload_n C dX11_cost_36 rfl 1 rfl 37 rfl ?_
      obtain ⟨q4, eq4, h⟩ := mb h
      refine mm_aald (t0 := 2) C (by decide) (mc_29 k _) rfl rfl eq4 dX11_cost_37 38 rfl ?_
      refine mm_aload_n C dX11_cost_38 rfl 0 rfl 39 rfl ?_
      refine mm_get C fl_X11_26_X11 (by decide) (mc_0 k _) rfl dX11_cost_39 42 rfl ?_
      refine mm_get C fl_X11_128_X6 (by decide) (mc_14 k _) rfl dX11_cost_42 45 rfl ?_
      by_cases hq30 : q4 = 30
      · rw [if_pos hq30] at h
        subst hq30
        obtain ⟨x5, G6, ex5, h⟩ := mb2 h
        refine mm_callV [.ref (mmad k 30), .int (G3 14 2)] C (c_X6_lead_14_30 ex5) wb_X6_lead wv_X11_131 (by decide) (mc_14 k _) rfl rfl rfl (by omega) rfl (Nat.le_of_ble_eq_true rfl) dX11_cost_45 48 rfl ?_
        show mm_AW z k 2 (some (.int r)) F1 G6 48 [(0, .ref (mmad k 0)), (1, .int a1)] [.int x5]
        exact mm_iretW C (h) dX11_cost_48
      · rw [if_neg hq30] at h
        by_cases hq32 : q4 = 32
        · rw [if_pos hq32] at h
          subst hq32
          obtain ⟨x7, G8, ex7, h⟩ := mb2 h
          refine mm_callV [.ref (mmad k 32), .int (G3 14 2)] C (c_X6_lead_14_32 ex7) wb_X6_lead wv_X11_131 (by decide) (mc_14 k _) rfl rfl rfl (by omega) rfl (Nat.le_of_ble_eq_true rfl) dX11_cost_45 48 rfl ?_
          show mm_AW z k 2 (some (.int r)) F1 G8 48 [(0, .ref (mmad k 0)), (1, .int a1)] [.int x7]
          exact mm_iretW C (h) dX11_cost_48
        · rw [if_neg hq32] at h
          by_cases hq17 : q4 = 17
          · rw [if_pos hq17] at h
            subst hq17
            obtain ⟨x9, G10, ex9, h⟩ := mb2 h
            refine mm_callV [.ref (mmad k 17), .int (G3 14 2)] C (c_X6_lead_14_17 ex9) wb_X6_lead wv_X11_131 (by decide) (mc_14 k _) rfl rfl rfl (by omega) rfl (Nat.le_of_ble_eq_true rfl) dX11_cost_45 48 rfl ?_
            show mm_AW z k 2 (some (.int r)) F1 G10 48 [(0, .ref (mmad k 0)), (1, .int a1)] [.int x9]
            exact mm_iretW C (h) dX11_cost_48
          · rw [if_neg hq17] at h
            by_cases hq34 : q4 = 34
            · rw [if_pos hq34] at h
              subst hq34
              obtain ⟨x11, G12, ex11, h⟩ := mb2 h
              refine mm_callV [.ref (mmad k 34), .int (G3 14 2)] C (c_X6_lead_14_34 ex11) wb_X6_lead wv_X11_131 (by decide) (mc_14 k _) rfl rfl rfl (by omega) rfl (Nat.le_of_ble_eq_true rfl) dX11_cost_45 48 rfl ?_
              show mm_AW z k 2 (some (.int r)) F1 G12 48 [(0, .ref (mmad k 0)), (1, .int a1)] [.int x11]
              exact mm_iretW C (h) dX11_cost_48
            · rw [if_neg hq34] at h
              by_cases hq23 : q4 = 23
              · rw [if_pos hq23] at h
                subst hq23
                obtain ⟨x13, G14, ex13, h⟩ := mb2 h
                refine mm_callV [.ref (mmad k 23), .int (G3 14 2)] C (c_X6_lead_14_23 ex13) wb_X6_lead wv_X11_131 (by decide) (mc_14 k _) rfl rfl rfl (by omega) rfl (Nat.le_of_ble_eq_true rfl) dX11_cost_45 48 rfl ?_
                show mm_AW z k 2 (some (.int r)) F1 G14 48 [(0, .ref (mmad k 0)), (1, .int a1)] [.int x13]
                exact mm_iretW C (h) dX11_cost_48
              · rw [if_neg hq23] at h
                cases h
    · rw [if_pos hc] at h
      refine mm_aload_n C dX11_cost_19 rfl 0 rfl 20 rfl ?_
      refine mm_get C fl_X11_19_X11 (by decide) (mc_0 k _) rfl dX11_cost_20 23 rfl ?_
      refine mm_iconst (v := (1 : Int32)) C dX11_cost_23 (by decide) 24 rfl ?_
      obtain ⟨x15, G16, ex15, h⟩ := mb2 h
      refine mm_callV [.int (1 : Int32)] C (c_X8_found_6 ex15) wb_X8_found wv_X11_124 (by decide) (mc_6 k _) rfl rfl rfl (by omega) rfl (Nat.le_of_ble_eq_true rfl) dX11_cost_24 27 rfl ?_
      show mm_AW z k 2 (some (.int r)) F1 G16 27 [(0, .ref (mmad k 0)), (1, .int a1)] [.int x15]
      exact mm_iretW C (h) dX11_cost_27
  · rw [if_pos hc] at h
    refine mm_bipush (v := (-2 : Int32)) C dX11_cost_9 (by decide) 11 rfl ?_
    exact mm_iretW C (h) dX11_cost_11
def m_X11_stands_0 (F : mmS) (a1 : Int32) (a2 : Int32) (a3 : Int32) : Option (Int32 × mmS) :=
  Option.bind (m_X11_isWithin a1 (0 : Int32) (3 : Int32)) fun x1 => if x1 = (0 : Int32) then (some ((-2 : Int32), F)) else (Option.bind (m_X11_isServer_0 F a2) fun x2 => if x2 = (0 : Int32) then (some ((-2 : Int32), F)) else (Option.bind (m_X11_isWithin a3 (0 : Int32) (40 : Int32)) fun x3 => if x3 = (0 : Int32) then (some ((-2 : Int32), F)) else (bd2 (m_X11_readRow_0 F) fun x4 G5 => if x4 = (0 : Int32) then (bd2 (m_X8_found_6 G5 (1 : Int32)) fun x47 G48 => some (x47, G48)) else (Option.bind (rld 29 a1) fun q6 => if q6 = 30 then (bd2 (m_X6_lead_14_30 G5 a3) fun x7 G8 => Option.bind (rld 29 a1) fun q9 => if q9 = 30 then (Option.bind (ald G8 31 a2) fun x10 => some (x10, G8)) else if q9 = 32 then (Option.bind (ald G8 33 a2) fun x11 => some (x11, G8)) else if q9 = 17 then (Option.bind (ald G8 18 a2) fun x12 => some (x12, G8)) else if q9 = 34 then (Option.bind (ald G8 35 a2) fun x13 => some (x13, G8)) else if q9 = 23 then (Option.bind (ald G8 24 a2) fun x14 => some (x14, G8)) else none) else if q6 = 32 then (bd2 (m_X6_lead_14_32 G5 a3) fun x15 G16 => Option.bind (rld 29 a1) fun q17 => if q17 = 30 then (Option.bind (ald G16 31 a2) fun x18 => some (x18, G16)) else if q17 = 32 then (Option.bind (ald G16 33 a2) fun x19 => some (x19, G16)) else if q17 = 17 then (Option.bind (ald G16 18 a2) fun x20 => some (x20, G16)) else if q17 = 34 then (Option.bind (ald G16 35 a2) fun x21 => some (x21, G16)) else if q17 = 23 then (Option.bind (ald G16 24 a2) fun x22 => some (x22, G16)) else none) else if q6 = 17 then (bd2 (m_X6_lead_14_17 G5 a3) fun x23 G24 => Option.bind (rld 29 a1) fun q25 => if q25 = 30 then (Option.bind (ald G24 31 a2) fun x26 => some (x26, G24)) else if q25 = 32 then (Option.bind (ald G24 33 a2) fun x27 => some (x27, G24)) else if q25 = 17 then (Option.bind (ald G24 18 a2) fun x28 => some (x28, G24)) else if q25 = 34 then (Option.bind (ald G24 35 a2) fun x29 => some (x29, G24)) else if q25 = 23 then (Option.bind (ald G24 24 a2) fun x30 => some (x30, G24)) else none) else if q6 = 34 then (bd2 (m_X6_lead_14_34 G5 a3) fun x31 G32 => Option.bind (rld 29 a1) fun q33 => if q33 = 30 then (Option.bind (ald G32 31 a2) fun x34 => some (x34, G32)) else if q33 = 32 then (Option.bind (ald G32 33 a2) fun x35 => some (x35, G32)) else if q33 = 17 then (Option.bind (ald G32 18 a2) fun x36 => some (x36, G32)) else if q33 = 34 then (Option.bind (ald G32 35 a2) fun x37 => some (x37, G32)) else if q33 = 23 then (Option.bind (ald G32 24 a2) fun x38 => some (x38, G32)) else none) else if q6 = 23 then (bd2 (m_X6_lead_14_23 G5 a3) fun x39 G40 => Option.bind (rld 29 a1) fun q41 => if q41 = 30 then (Option.bind (ald G40 31 a2) fun x42 => some (x42, G40)) else if q41 = 32 then (Option.bind (ald G40 33 a2) fun x43 => some (x43, G40)) else if q41 = 17 then (Option.bind (ald G40 18 a2) fun x44 => some (x44, G40)) else if q41 = 34 then (Option.bind (ald G40 35 a2) fun x45 => some (x45, G40)) else if q41 = 23 then (Option.bind (ald G40 24 a2) fun x46 => some (x46, G40)) else none) else none))))
set_option maxHeartbeats 4000000 in
set_option maxRecDepth 100000 in
theorem c_X11_stands_0 {l : Launch} {k : mmK} {F : mmS} {a1 : Int32} {a2 : Int32} {a3 : Int32} {r : Int32} {F1 : mmS} (h : m_X11_stands_0 F a1 a2 a3 = some (r, F1)) : mm_T l k yX11_stands cX11_stands 4 (some .int) 11 [.ref (mmad k 0), .int a1, .int a2, .int a3] F (some (.int r)) F1 := by
  refine mm_start [(0, .ref (mmad k 0)), (1, .int a1), (2, .int a2), (3, .int a3)] (by decide) (Nat.le_of_ble_eq_true rfl) rfl ?_
  intro z hz C
  subst hz
  have C : mm_C z k RX11 cX11_stands 4 (some .int) 11 := C
  replace h := mk0 h
  unfold m_X11_stands_0 at h
  refine mm_iload_n C dX11_stands_0 rfl 1 rfl 1 rfl ?_
  refine mm_iconst (v := (0 : Int32)) C dX11_stands_1 (by decide) 2 rfl ?_
  refine mm_iconst (v := (3 : Int32)) C dX11_stands_2 (by decide) 3 rfl ?_
  obtain ⟨x1, ex1, h⟩ := mb h
  refine mm_callS [.int a1, .int (0 : Int32), .int (3 : Int32)] C (c_X11_isWithin ex1) wb_X11_isWithin ws_X11_85 rfl (by omega) rfl (Nat.le_of_ble_eq_true rfl) dX11_stands_3 6 rfl ?_
  show mm_AW z k 4 (some (.int r)) F1 F 6 [(0, .ref (mmad k 0)), (1, .int a1), (2, .int a2), (3, .int a3)] [.int x1]
  refine mm_if_eq C dX11_stands_6 27 9 (by decide) rfl (fun hc => ?_) (fun hc => ?_)
  · rw [if_pos hc] at h
    refine mm_bipush (v := (-2 : Int32)) C dX11_stands_27 (by decide) 29 rfl ?_
    exact mm_iretW C (h) dX11_stands_29
  · rw [if_neg hc] at h
    refine mm_aload_n C dX11_stands_9 rfl 0 rfl 10 rfl ?_
    refine mm_iload_n C dX11_stands_10 rfl 2 rfl 11 rfl ?_
    obtain ⟨x2, ex2, h⟩ := mb h
    refine mm_callV [.int a2] C (c_X11_isServer_0 ex2) wb_X11_isServer wv_X11_111 (by decide) (mc_0 k _) rfl rfl rfl (by omega) rfl (Nat.le_of_ble_eq_true rfl) dX11_stands_11 14 rfl ?_
    show mm_AW z k 4 (some (.int r)) F1 F 14 [(0, .ref (mmad k 0)), (1, .int a1), (2, .int a2), (3, .int a3)] [.int x2]
    refine mm_if_eq C dX11_stands_14 27 17 (by decide) rfl (fun hc => ?_) (fun hc => ?_)
    · rw [if_pos hc] at h
      refine mm_bipush (v := (-2 : Int32)) C dX11_stands_27 (by decide) 29 rfl ?_
      exact mm_iretW C (h) dX11_stands_29
    · rw [if_neg hc] at h
      refine mm_iload_n C dX11_stands_17 rfl 3 rfl 18 rfl ?_
      refine mm_iconst (v := (0 : Int32)) C dX11_stands_18 (by decide) 19 rfl ?_
      refine mm_bipush (v := (40 : Int32)) C dX11_stands_19 (by decide) 21 rfl ?_
      obtain ⟨x3, ex3, h⟩ := mb h
      refine mm_callS [.int a3, .int (0 : Int32), .int (40 : Int32)] C (c_X11_isWithin ex3) wb_X11_isWithin ws_X11_85 rfl (by omega) rfl (Nat.le_of_ble_eq_true rfl) dX11_stands_21 24 rfl ?_
      show mm_AW z k 4 (some (.int r)) F1 F 24 [(0, .ref (mmad k 0)), (1, .int a1), (2, .int a2), (3, .int a3)] [.int x3]
      refine mm_if_ne C dX11_stands_24 30 27 (by decide) rfl (fun hc => ?_) (fun hc => ?_)
      · rw [if_neg hc] at h
        refine mm_aload_n C dX11_stands_30 rfl 0 rfl 31 rfl ?_
        obtain ⟨x4, G5, ex4, h⟩ := mb2 h
        refine mm_callV [] C (c_X11_readRow_0 ex4) wb_X11_readRow wv_X11_120 (by decide) (mc_0 k _) rfl rfl rfl (by omega) rfl (Nat.le_of_ble_eq_true rfl) dX11_stands_31 34 rfl ?_
        show mm_AW z k 4 (some (.int r)) F1 G5 34 [(0, .ref (mmad k 0)), (1, .int a1), (2, .int a2), (3, .int a3)] [.int x4]
        refine mm_if_ne C dX11_stands_34 46 37 (by decide) rfl (fun hc => ?_) (fun hc => ?_)
        · rw [if_neg hc] at h
          refine mm_aload_n C dX11_stands_46 rfl 0 rfl 47 rfl ?_
          refine mm_get C fl_X11_26_X11 (by decide) (mc_0 k _) rfl dX11_stands_47 50 rfl ?_
          refine mm_aload_n C dX11_stands_50 rfl 0 rfl 51 rfl ?_
          refine mm_get C fl_X11_58_X11 (by decide) (mc_0 k _) rfl dX11_stands_51 54 rfl ?_
          refine mm_iload_n C dX11_stands_54 rfl 1 rfl 55 rfl ?_
          obtain ⟨q6, eq6, h⟩ := mb h
          refine mm_aald (t0 := 2) C (by decide) (mc_29 k _) rfl rfl eq6 dX11_stands_55 56 rfl ?_
          refine mm_iload_n C dX11_stands_56 rfl 3 rfl 57 rfl ?_
          by_cases hq30 : q6 = 30
          · rw [if_pos hq30] at h
            subst hq30
            obtain ⟨x7, G8, ex7, h⟩ := mb2 h
            refine mm_callV [.ref (mmad k 30), .int a3] C (c_X6_lead_14_30 ex7) wb_X6_lead wv_X11_131 (by decide) (mc_14 k _) rfl rfl rfl (by omega) rfl (Nat.le_of_ble_eq_true rfl) dX11_stands_57 60 rfl ?_
            show mm_AW z k 4 (some (.int r)) F1 G8 60 [(0, .ref (mmad k 0)), (1, .int a1), (2, .int a2), (3, .int a3)] [.int x7]
            refine mm_pop C dX11_stands_60 rfl 61 rfl ?_
            refine mm_aload_n C dX11_stands_61 rfl 0 rfl 62 rfl ?_
            refine mm_get C fl_X11_58_X11 (by decide) (mc_0 k _) rfl dX11_stands_62 65 rfl ?_
            refine mm_iload_n C dX11_stands_65 rfl 1 rfl 66 rfl ?_
            obtain ⟨q9, eq9, h⟩ := mb h
            refine mm_aald (t0 := 2) C (by decide) (mc_29 k _) rfl rfl eq9 dX11_stands_66 67 rfl ?_
            by_cases hq30 : q9 = 30
            · rw [if_pos hq30] at h
              subst hq30
              refine mm_get C fl_X11_135_X5 (by decide) (mc_30 k _) rfl dX11_stands_67 70 rfl ?_
              refine mm_iload_n C dX11_stands_70 rfl 2 rfl 71 rfl ?_
              obtain ⟨x10, ex10, h⟩ := mb h
              refine mm_iald C ex10 dX11_stands_71 72 rfl ?_
              exact mm_iretW C (h) dX11_stands_72
            · rw [if_neg hq30] at h
              by_cases hq32 : q9 = 32
              · rw [if_pos hq32] at h
                subst hq32
                refine mm_get C fl_X11_135_X1 (by decide) (mc_32 k _) rfl dX11_stands_67 70 rfl ?_
                refine mm_iload_n C dX11_stands_70 rfl 2 rfl 71 rfl ?_
                obtain ⟨x11, ex11, h⟩ := mb h
                refine mm_iald C ex11 dX11_stands_71 72 rfl ?_
                exact mm_iretW C (h) dX11_stands_72
              · rw [if_neg hq32] at h
                by_cases hq17 : q9 = 17
                · rw [if_pos hq17] at h
                  subst hq17
                  refine mm_get C fl_X11_135_X9 (by decide) (mc_17 k _) rfl dX11_stands_67 70 rfl ?_
                  refine mm_iload_n C dX11_stands_70 rfl 2 rfl 71 rfl ?_
                  obtain ⟨x12, ex12, h⟩ := mb h
                  refine mm_iald C ex12 dX11_stands_71 72 rfl ?_
                  exact mm_iretW C (h) dX11_stands_72
                · rw [if_neg hq17] at h
                  by_cases hq34 : q9 = 34
                  · rw [if_pos hq34] at h
                    subst hq34
                    refine mm_get C fl_X11_135_X5 (by decide) (mc_34 k _) rfl dX11_stands_67 70 rfl ?_
                    refine mm_iload_n C dX11_stands_70 rfl 2 rfl 71 rfl ?_
                    obtain ⟨x13, ex13, h⟩ := mb h
                    refine mm_iald C ex13 dX11_stands_71 72 rfl ?_
                    exact mm_iretW C (h) dX11_stands_72
                  · rw [if_neg hq34] at h
                    by_cases hq23 : q9 = 23
                    · rw [if_pos hq23] at h
                      subst hq23
                      refine mm_get C fl_X11_135_X2 (by decide) (mc_23 k _) rfl dX11_stands_67 70 rfl ?_
                      refine mm_iload_n C dX11_stands_70 rfl 2 rfl 71 rfl ?_
                      obtain ⟨x14, ex14, h⟩ := mb h
                      refine mm_iald C ex14 dX11_stands_71 72 rfl ?_
                      exact mm_iretW C (h) dX11_stands_72
                    · rw [if_neg hq23] at h
                      cases h
          · rw [if_neg hq30] at h
            by_cases hq32 : q6 = 32
            · rw [if_pos hq32] at h
              subst hq32
              obtain ⟨x15, G16, ex15, h⟩ := mb2 h
              refine mm_callV [.ref (mmad k 32), .int a3] C (c_X6_lead_14_32 ex15) wb_X6_lead wv_X11_131 (by decide) (mc_14 k _) rfl rfl rfl (by omega) rfl (Nat.le_of_ble_eq_true rfl) dX11_stands_57 60 rfl ?_
              show mm_AW z k 4 (some (.int r)) F1 G16 60 [(0, .ref (mmad k 0)), (1, .int a1), (2, .int a2), (3, .int a3)] [.int x15]
              refine mm_pop C dX11_stands_60 rfl 61 rfl ?_
              refine mm_aload_n C dX11_stands_61 rfl 0 rfl 62 rfl ?_
              refine mm_get C fl_X11_58_X11 (by decide) (mc_0 k _) rfl dX11_stands_62 65 rfl ?_
              refine mm_iload_n C dX11_stands_65 rfl 1 rfl 66 rfl ?_
              obtain ⟨q17, eq17, h⟩ := mb h
              refine mm_aald (t0 := 2) C (by decide) (mc_29 k _) rfl rfl eq17 dX11_stands_66 67 rfl ?_
              by_cases hq30 : q17 = 30
              · rw [if_pos hq30] at h
                subst hq30
                refine mm_get C fl_X11_135_X5 (by decide) (mc_30 k _) rfl dX11_stands_67 70 rfl ?_
                refine mm_iload_n C dX11_stands_70 rfl 2 rfl 71 rfl ?_
                obtain ⟨x18, ex18, h⟩ := mb h
                refine mm_iald C ex18 dX11_stands_71 72 rfl ?_
                exact mm_iretW C (h) dX11_stands_72
              · rw [if_neg hq30] at h
                by_cases hq32 : q17 = 32
                · rw [if_pos hq32] at h
                  subst hq32
                  refine mm_get C fl_X11_135_X1 (by decide) (mc_32 k _) rfl dX11_stands_67 70 rfl ?_
                  refine mm_iload_n C dX11_stands_70 rfl 2 rfl 71 rfl ?_
                  obtain ⟨x19, ex19, h⟩ := mb h
                  refine mm_iald C ex19 dX11_stands_71 72 rfl ?_
                  exact mm_iretW C (h) dX11_stands_72
                · rw [if_neg hq32] at h
                  by_cases hq17 : q17 = 17
                  · rw [if_pos hq17] at h
                    subst hq17
                    refine mm_get C fl_X11_135_X9 (by decide) (mc_17 k _) rfl dX11_stands_67 70 rfl ?_
                    refine mm_iload_n C dX11_stands_70 rfl 2 rfl 71 rfl ?_
                    obtain ⟨x20, ex20, h⟩ := mb h
                    refine mm_iald C ex20 dX11_stands_71 72 rfl ?_
                    exact mm_iretW C (h) dX11_stands_72
                  · rw [if_neg hq17] at h
                    by_cases hq34 : q17 = 34
                    · rw [if_pos hq34] at h
                      subst hq34
                      refine mm_get C fl_X11_135_X5 (by decide) (mc_34 k _) rfl dX11_stands_67 70 rfl ?_
                      refine mm_iload_n C dX11_stands_70 rfl 2 rfl 71 rfl ?_
                      obtain ⟨x21, ex21, h⟩ := mb h
                      refine mm_iald C ex21 dX11_stands_71 72 rfl ?_
                      exact mm_iretW C (h) dX11_stands_72
                    · rw [if_neg hq34] at h
                      by_cases hq23 : q17 = 23
                      · rw [if_pos hq23] at h
                        subst hq23
                        refine mm_get C fl_X11_135_X2 (by decide) (mc_23 k _) rfl dX11_stands_67 70 rfl ?_
                        refine mm_iload_n C dX11_stands_70 rfl 2 rfl 71 rfl ?_
                        obtain ⟨x22, ex22, h⟩ := mb h
                        refine mm_iald C ex22 dX11_stands_71 72 rfl ?_
                        exact mm_iretW C (h) dX11_stands_72
                      · rw [if_neg hq23] at h
                        cases h
            · rw [if_neg hq32] at h
              by_cases hq17 : q6 = 17
              · rw [if_pos hq17] at h
                subst hq17
                obtain ⟨x23, G24, ex23, h⟩ := mb2 h
                refine mm_callV [.ref (mmad k 17), .int a3] C (c_X6_lead_14_17 ex23) wb_X6_lead wv_X11_131 (by decide) (mc_14 k _) rfl rfl rfl (by omega) rfl (Nat.le_of_ble_eq_true rfl) dX11_stands_57 60 rfl ?_
                show mm_AW z k 4 (some (.int r)) F1 G24 60 [(0, .ref (mmad k 0)), (1, .int a1), (2, .int a2), (3, .int a3)] [.int x23]
                refine mm_pop C dX11_stands_60 rfl 61 rfl ?_
                refine mm_aload_n C dX11_stands_61 rfl 0 rfl 62 rfl ?_
                refine mm_get C fl_X11_58_X11 (by decide) (mc_0 k _) rfl dX11_stands_62 65 rfl ?_
                refine mm_iload_n C dX11_stands_65 rfl 1 rfl 66 rfl ?_
                obtain ⟨q25, eq25, h⟩ := mb h
                refine mm_aald (t0 := 2) C (by decide) (mc_29 k _) rfl rfl eq25 dX11_stands_66 67 rfl ?_
                by_cases hq30 : q25 = 30
                · rw [if_pos hq30] at h
                  subst hq30
                  refine mm_get C fl_X11_135_X5 (by decide) (mc_30 k _) rfl dX11_stands_67 70 rfl ?_
                  refine mm_iload_n C dX11_stands_70 rfl 2 rfl 71 rfl ?_
                  obtain ⟨x26, ex26, h⟩ := mb h
                  refine mm_iald C ex26 dX11_stands_71 72 rfl ?_
                  exact mm_iretW C (h) dX11_stands_72
                · rw [if_neg hq30] at h
                  by_cases hq32 : q25 = 32
                  · rw [if_pos hq32] at h
                    subst hq32
                    refine mm_get C fl_X11_135_X1 (by decide) (mc_32 k _) rfl dX11_stands_67 70 rfl ?_
                    refine mm_iload_n C dX11_stands_70 rfl 2 rfl 71 rfl ?_
                    obtain ⟨x27, ex27, h⟩ := mb h
                    refine mm_iald C ex27 dX11_stands_71 72 rfl ?_
                    exact mm_iretW C (h) dX11_stands_72
                  · rw [if_neg hq32] at h
                    by_cases hq17 : q25 = 17
                    · rw [if_pos hq17] at h
                      subst hq17
                      refine mm_get C fl_X11_135_X9 (by decide) (mc_17 k _) rfl dX11_stands_67 70 rfl ?_
                      refine mm_iload_n C dX11_stands_70 rfl 2 rfl 71 rfl ?_
                      obtain ⟨x28, ex28, h⟩ := mb h
                      refine mm_iald C ex28 dX11_stands_71 72 rfl ?_
                      exact mm_iretW C (h) dX11_stands_72
                    · rw [if_neg hq17] at h
                      by_cases hq34 : q25 = 34
                      · rw [if_pos hq34] at h
                        subst hq34
                        refine mm_get C fl_X11_135_X5 (by decide) (mc_34 k _) rfl dX11_stands_67 70 rfl ?_
                        refine mm_iload_n C dX11_stands_70 rfl 2 rfl 71 rfl ?_
                        obtain ⟨x29, ex29, h⟩ := mb h
                        refine mm_iald C ex29 dX11_stands_71 72 rfl ?_
                        exact mm_iretW C (h) dX11_stands_72
                      · rw [if_neg hq34] at h
                        by_cases hq23 : q25 = 23
                        · rw [if_pos hq23] at h
                          subst hq23
                          refine mm_get C fl_X11_135_X2 (by decide) (mc_23 k _) rfl dX11_stands_67 70 rfl ?_
                          refine mm_iload_n C dX11_stands_70 rfl 2 rfl 71 rfl ?_
                          obtain ⟨x30, ex30, h⟩ := mb h
                          refine mm_iald C ex30 dX11_stands_71 72 rfl ?_
                          exact mm_iretW C (h) dX11_stands_72
                        · rw [if_neg hq23] at h
                          cases h
              · rw [if_neg hq17] at h
                by_cases hq34 : q6 = 34
                · rw [if_pos hq34] at h
                  subst hq34
                  obtain ⟨x31, G32, ex31, h⟩ := mb2 h
                  refine mm_callV [.ref (mmad k 34), .int a3] C (c_X6_lead_14_34 ex31) wb_X6_lead wv_X11_131 (by decide) (mc_14 k _) rfl rfl rfl (by omega) rfl (Nat.le_of_ble_eq_true rfl) dX11_stands_57 60 rfl ?_
                  show mm_AW z k 4 (some (.int r)) F1 G32 60 [(0, .ref (mmad k 0)), (1, .int a1), (2, .int a2), (3, .int a3)] [.int x31]
                  refine mm_pop C dX11_stands_60 rfl 61 rfl ?_
                  refine mm_aload_n C dX11_stands_61 rfl 0 rfl 62 rfl ?_
                  refine mm_get C fl_X11_58_X11 (by decide) (mc_0 k _) rfl dX11_stands_62 65 rfl ?_
                  refine mm_iload_n C dX11_stands_65 rfl 1 rfl 66 rfl ?_
                  obtain ⟨q33, eq33, h⟩ := mb h
                  refine mm_aald (t0 := 2) C (by decide) (mc_29 k _) rfl rfl eq33 dX11_stands_66 67 rfl ?_
                  by_cases hq30 : q33 = 30
                  · rw [if_pos hq30] at h
                    subst hq30
                    refine mm_get C fl_X11_135_X5 (by decide) (mc_30 k _) rfl dX11_stands_67 70 rfl ?_
                    refine mm_iload_n C dX11_stands_70 rfl 2 rfl 71 rfl ?_
                    obtain ⟨x34, ex34, h⟩ := mb h
                    refine mm_iald C ex34 dX11_stands_71 72 rfl ?_
                    exact mm_iretW C (h) dX11_stands_72
                  · rw [if_neg hq30] at h
                    by_cases hq32 : q33 = 32
                    · rw [if_pos hq32] at h
                      subst hq32
                      refine mm_get C fl_X11_135_X1 (by decide) (mc_32 k _) rfl dX11_stands_67 70 rfl ?_
                      refine mm_iload_n C dX11_stands_70 rfl 2 rfl 71 rfl ?_
                      obtain ⟨x35, ex35, h⟩ := mb h
                      refine mm_iald C ex35 dX11_stands_71 72 rfl ?_
                      exact mm_iretW C (h) dX11_stands_72
                    · rw [if_neg hq32] at h
                      by_cases hq17 : q33 = 17
                      · rw [if_pos hq17] at h
                        subst hq17
                        refine mm_get C fl_X11_135_X9 (by decide) (mc_17 k _) rfl dX11_stands_67 70 rfl ?_
                        refine mm_iload_n C dX11_stands_70 rfl 2 rfl 71 rfl ?_
                        obtain ⟨x36, ex36, h⟩ := mb h
                        refine mm_iald C ex36 dX11_stands_71 72 rfl ?_
                        exact mm_iretW C (h) dX11_stands_72
                      · rw [if_neg hq17] at h
                        by_cases hq34 : q33 = 34
                        · rw [if_pos hq34] at h
                          subst hq34
                          refine mm_get C fl_X11_135_X5 (by decide) (mc_34 k _) rfl dX11_stands_67 70 rfl ?_
                          refine mm_iload_n C dX11_stands_70 rfl 2 rfl 71 rfl ?_
                          obtain ⟨x37, ex37, h⟩ := mb h
                          refine mm_iald C ex37 dX11_stands_71 72 rfl ?_
                          exact mm_iretW C (h) dX11_stands_72
                        · rw [if_neg hq34] at h
                          by_cases hq23 : q33 = 23
                          · rw [if_pos hq23] at h
                            subst hq23
                            refine mm_get C fl_X11_135_X2 (by decide) (mc_23 k _) rfl dX11_stands_67 70 rfl ?_
                            refine mm_iload_n C dX11_stands_70 rfl 2 rfl 71 rfl ?_
                            obtain ⟨x38, ex38, h⟩ := mb h
                            refine mm_iald C ex38 dX11_stands_71 72 rfl ?_
                            exact mm_iretW C (h) dX11_stands_72
                          · rw [if_neg hq23] at h
                            cases h
                · rw [if_neg hq34] at h
                  by_cases hq23 : q6 = 23
                  · rw [if_pos hq23] at h
                    subst hq23
                    obtain ⟨x39, G40, ex39, h⟩ := mb2 h
                    refine mm_callV [.ref (mmad k 23), .int a3] C (c_X6_lead_14_23 ex39) wb_X6_lead wv_X11_131 (by decide) (mc_14 k _) rfl rfl rfl (by omega) rfl (Nat.le_of_ble_eq_true rfl) dX11_stands_57 60 rfl ?_
                    show mm_AW z k 4 (some (.int r)) F1 G40 60 [(0, .ref (mmad k 0)), (1, .int a1), (2, .int a2), (3, .int a3)] [.int x39]
                    refine mm_pop C dX11_stands_60 rfl 61 rfl ?_
                    refine mm_aload_n C dX11_stands_61 rfl 0 rfl 62 rfl ?_
                    refine mm_get C fl_X11_58_X11 (by decide) (mc_0 k _) rfl dX11_stands_62 65 rfl ?_
                    refine mm_iload_n C dX11_stands_65 rfl 1 rfl 66 rfl ?_
                    obtain ⟨q41, eq41, h⟩ := mb h
                    refine mm_aald (t0 := 2) C (by decide) (mc_29 k _) rfl rfl eq41 dX11_stands_66 67 rfl ?_
                    by_cases hq30 : q41 = 30
                    · rw [if_pos hq30] at h
                      subst hq30
                      refine mm_get C fl_X11_135_X5 (by decide) (mc_30 k _) rfl dX11_stands_67 70 rfl ?_
                      refine mm_iload_n C dX11_stands_70 rfl 2 rfl 71 rfl ?_
                      obtain ⟨x42, ex42, h⟩ := mb h
                      refine mm_iald C ex42 dX11_stands_71 72 rfl ?_
                      exact mm_iretW C (h) dX11_stands_72
                    · rw [if_neg hq30] at h
                      by_cases hq32 : q41 = 32
                      · rw [if_pos hq32] at h
                        subst hq32
                        refine mm_get C fl_X11_135_X1 (by decide) (mc_32 k _) rfl dX11_stands_67 70 rfl ?_
                        refine mm_iload_n C dX11_stands_70 rfl 2 rfl 71 rfl ?_
                        obtain ⟨x43, ex43, h⟩ := mb h
                        refine mm_iald C ex43 dX11_stands_71 72 rfl ?_
                        exact mm_iretW C (h) dX11_stands_72
                      · rw [if_neg hq32] at h
                        by_cases hq17 : q41 = 17
                        · rw [if_pos hq17] at h
                          subst hq17
                          refine mm_get C fl_X11_135_X9 (by decide) (mc_17 k _) rfl dX11_stands_67 70 rfl ?_
                          refine mm_iload_n C dX11_stands_70 rfl 2 rfl 71 rfl ?_
                          obtain ⟨x44, ex44, h⟩ := mb h
                          refine mm_iald C ex44 dX11_stands_71 72 rfl ?_
                          exact mm_iretW C (h) dX11_stands_72
                        · rw [if_neg hq17] at h
                          by_cases hq34 : q41 = 34
                          · rw [if_pos hq34] at h
                            subst hq34
                            refine mm_get C fl_X11_135_X5 (by decide) (mc_34 k _) rfl dX11_stands_67 70 rfl ?_
                            refine mm_iload_n C dX11_stands_70 rfl 2 rfl 71 rfl ?_
                            obtain ⟨x45, ex45, h⟩ := mb h
                            refine mm_iald C ex45 dX11_stands_71 72 rfl ?_
                            exact mm_iretW C (h) dX11_stands_72
                          · rw [if_neg hq34] at h
                            by_cases hq23 : q41 = 23
                            · rw [if_pos hq23] at h
                              subst hq23
                              refine mm_get C fl_X11_135_X2 (by decide) (mc_23 k _) rfl dX11_stands_67 70 rfl ?_
                              refine mm_iload_n C dX11_stands_70 rfl 2 rfl 71 rfl ?_
                              obtain ⟨x46, ex46, h⟩ := mb h
                              refine mm_iald C ex46 dX11_stands_71 72 rfl ?_
                              exact mm_iretW C (h) dX11_stands_72
                            · rw [if_neg hq23] at h
                              cases h
                  · rw [if_neg hq23] at h
                    cases h
        · rw [if_pos hc] at h
          refine mm_aload_n C dX11_stands_37 rfl 0 rfl 38 rfl ?_
          refine mm_get C fl_X11_19_X11 (by decide) (mc_0 k _) rfl dX11_stands_38 41 rfl ?_
          refine mm_iconst (v := (1 : Int32)) C dX11_stands_41 (by decide) 42 rfl ?_
          obtain ⟨x47, G48, ex47, h⟩ := mb2 h
          refine mm_callV [.int (1 : Int32)] C (c_X8_found_6 ex47) wb_X8_found wv_X11_124 (by decide) (mc_6 k _) rfl rfl rfl (by omega) rfl (Nat.le_of_ble_eq_true rfl) dX11_stands_42 45 rfl ?_
          show mm_AW z k 4 (some (.int r)) F1 G48 45 [(0, .ref (mmad k 0)), (1, .int a1), (2, .int a2), (3, .int a3)] [.int x47]
          exact mm_iretW C (h) dX11_stands_45
      · rw [if_pos hc] at h
        refine mm_bipush (v := (-2 : Int32)) C dX11_stands_27 (by decide) 29 rfl ?_
        exact mm_iretW C (h) dX11_stands_29
def m_X11_sentAt_0_30 (F : mmS) (a2 : Int32) : Option (Int32 × mmS) :=
  if a2 < (F 14 2) then (bd2 (m_X6_lead_14_30 F (a2 + (1 : Int32))) fun x1 G2 => some ((G2 30 3), G2)) else (some ((-1 : Int32), F))
set_option maxHeartbeats 4000000 in
set_option maxRecDepth 100000 in
theorem c_X11_sentAt_0_30 {l : Launch} {k : mmK} {F : mmS} {a2 : Int32} {r : Int32} {F1 : mmS} (h : m_X11_sentAt_0_30 F a2 = some (r, F1)) : mm_T l k yX11_sentAt cX11_sentAt 3 (some .int) 4 [.ref (mmad k 0), .ref (mmad k 30), .int a2] F (some (.int r)) F1 := by
  refine mm_start [(0, .ref (mmad k 0)), (1, .ref (mmad k 30)), (2, .int a2)] (by decide) (Nat.le_of_ble_eq_true rfl) rfl ?_
  intro z hz C
  subst hz
  have C : mm_C z k RX11 cX11_sentAt 3 (some .int) 4 := C
  replace h := mk0 h
  unfold m_X11_sentAt_0_30 at h
  refine mm_iload_n C dX11_sentAt_0 rfl 2 rfl 1 rfl ?_
  refine mm_aload_n C dX11_sentAt_1 rfl 0 rfl 2 rfl ?_
  refine mm_get C fl_X11_26_X11 (by decide) (mc_0 k _) rfl dX11_sentAt_2 5 rfl ?_
  refine mm_get C fl_X11_128_X6 (by decide) (mc_14 k _) rfl dX11_sentAt_5 8 rfl ?_
  refine mm_icmp_lt C dX11_sentAt_8 13 11 (by decide) rfl (fun hc => ?_) (fun hc => ?_)
  · rw [if_pos hc] at h
    refine mm_aload_n C dX11_sentAt_13 rfl 0 rfl 14 rfl ?_
    refine mm_get C fl_X11_26_X11 (by decide) (mc_0 k _) rfl dX11_sentAt_14 17 rfl ?_
    refine mm_aload_n C dX11_sentAt_17 rfl 1 rfl 18 rfl ?_
    refine mm_iload_n C dX11_sentAt_18 rfl 2 rfl 19 rfl ?_
    refine mm_iconst (v := (1 : Int32)) C dX11_sentAt_19 (by decide) 20 rfl ?_
    refine mm_iadd C dX11_sentAt_20 21 rfl ?_
    obtain ⟨x1, G2, ex1, h⟩ := mb2 h
    refine mm_callV [.ref (mmad k 30), .int (a2 + (1 : Int32))] C (c_X6_lead_14_30 ex1) wb_X6_lead wv_X11_131 (by decide) (mc_14 k _) rfl rfl rfl (by omega) rfl (Nat.le_of_ble_eq_true rfl) dX11_sentAt_21 24 rfl ?_
    show mm_AW z k 3 (some (.int r)) F1 G2 24 [(0, .ref (mmad k 0)), (1, .ref (mmad k 30)), (2, .int a2)] [.int x1]
    refine mm_pop C dX11_sentAt_24 rfl 25 rfl ?_
    refine mm_aload_n C dX11_sentAt_25 rfl 1 rfl 26 rfl ?_
    refine mm_get C fl_X11_257_X5 (by decide) (mc_30 k _) rfl dX11_sentAt_26 29 rfl ?_
    exact mm_iretW C (h) dX11_sentAt_29
  · rw [if_neg hc] at h
    refine mm_iconst (v := (-1 : Int32)) C dX11_sentAt_11 (by decide) 12 rfl ?_
    exact mm_iretW C (h) dX11_sentAt_12
def m_X11_sentAt_0_32 (F : mmS) (a2 : Int32) : Option (Int32 × mmS) :=
  if a2 < (F 14 2) then (bd2 (m_X6_lead_14_32 F (a2 + (1 : Int32))) fun x1 G2 => some ((G2 32 3), G2)) else (some ((-1 : Int32), F))
set_option maxHeartbeats 4000000 in
set_option maxRecDepth 100000 in
theorem c_X11_sentAt_0_32 {l : Launch} {k : mmK} {F : mmS} {a2 : Int32} {r : Int32} {F1 : mmS} (h : m_X11_sentAt_0_32 F a2 = some (r, F1)) : mm_T l k yX11_sentAt cX11_sentAt 3 (some .int) 4 [.ref (mmad k 0), .ref (mmad k 32), .int a2] F (some (.int r)) F1 := by
  refine mm_start [(0, .ref (mmad k 0)), (1, .ref (mmad k 32)), (2, .int a2)] (by decide) (Nat.le_of_ble_eq_true rfl) rfl ?_
  intro z hz C
  subst hz
  have C : mm_C z k RX11 cX11_sentAt 3 (some .int) 4 := C
  replace h := mk0 h
  unfold m_X11_sentAt_0_32 at h
  refine mm_iload_n C dX11_sentAt_0 rfl 2 rfl 1 rfl ?_
  refine mm_aload_n C dX11_sentAt_1 rfl 0 rfl 2 rfl ?_
  refine mm_get C fl_X11_26_X11 (by decide) (mc_0 k _) rfl dX11_sentAt_2 5 rfl ?_
  refine mm_get C fl_X11_128_X6 (by decide) (mc_14 k _) rfl dX11_sentAt_5 8 rfl ?_
  refine mm_icmp_lt C dX11_sentAt_8 13 11 (by decide) rfl (fun hc => ?_) (fun hc => ?_)
  · rw [if_pos hc] at h
    refine mm_aload_n C dX11_sentAt_13 rfl 0 rfl 14 rfl ?_
    refine mm_get C fl_X11_26_X11 (by decide) (mc_0 k _) rfl dX11_sentAt_14 17 rfl ?_
    refine mm_aload_n C dX11_sentAt_17 rfl 1 rfl 18 rfl ?_
    refine mm_iload_n C dX11_sentAt_18 rfl 2 rfl 19 rfl ?_
    refine mm_iconst (v := (1 : Int32)) C dX11_sentAt_19 (by decide) 20 rfl ?_
    refine mm_iadd C dX11_sentAt_20 21 rfl ?_
    obtain ⟨x1, G2, ex1, h⟩ := mb2 h
    refine mm_callV [.ref (mmad k 32), .int (a2 + (1 : Int32))] C (c_X6_lead_14_32 ex1) wb_X6_lead wv_X11_131 (by decide) (mc_14 k _) rfl rfl rfl (by omega) rfl (Nat.le_of_ble_eq_true rfl) dX11_sentAt_21 24 rfl ?_
    show mm_AW z k 3 (some (.int r)) F1 G2 24 [(0, .ref (mmad k 0)), (1, .ref (mmad k 32)), (2, .int a2)] [.int x1]
    refine mm_pop C dX11_sentAt_24 rfl 25 rfl ?_
    refine mm_aload_n C dX11_sentAt_25 rfl 1 rfl 26 rfl ?_
    refine mm_get C fl_X11_257_X1 (by decide) (mc_32 k _) rfl dX11_sentAt_26 29 rfl ?_
    exact mm_iretW C (h) dX11_sentAt_29
  · rw [if_neg hc] at h
    refine mm_iconst (v := (-1 : Int32)) C dX11_sentAt_11 (by decide) 12 rfl ?_
    exact mm_iretW C (h) dX11_sentAt_12
def m_X11_sentAt_0_17 (F : mmS) (a2 : Int32) : Option (Int32 × mmS) :=
  if a2 < (F 14 2) then (bd2 (m_X6_lead_14_17 F (a2 + (1 : Int32))) fun x1 G2 => some ((G2 17 3), G2)) else (some ((-1 : Int32), F))
set_option maxHeartbeats 4000000 in
set_option maxRecDepth 100000 in
theorem c_X11_sentAt_0_17 {l : Launch} {k : mmK} {F : mmS} {a2 : Int32} {r : Int32} {F1 : mmS} (h : m_X11_sentAt_0_17 F a2 = some (r, F1)) : mm_T l k yX11_sentAt cX11_sentAt 3 (some .int) 11 [.ref (mmad k 0), .ref (mmad k 17), .int a2] F (some (.int r)) F1 := by
  refine mm_start [(0, .ref (mmad k 0)), (1, .ref (mmad k 17)), (2, .int a2)] (by decide) (Nat.le_of_ble_eq_true rfl) rfl ?_
  intro z hz C
  subst hz
  have C : mm_C z k RX11 cX11_sentAt 3 (some .int) 11 := C
  replace h := mk0 h
  unfold m_X11_sentAt_0_17 at h
  refine mm_iload_n C dX11_sentAt_0 rfl 2 rfl 1 rfl ?_
  refine mm_aload_n C dX11_sentAt_1 rfl 0 rfl 2 rfl ?_
  refine mm_get C fl_X11_26_X11 (by decide) (mc_0 k _) rfl dX11_sentAt_2 5 rfl ?_
  refine mm_get C fl_X11_128_X6 (by decide) (mc_14 k _) rfl dX11_sentAt_5 8 rfl ?_
  refine mm_icmp_lt C dX11_sentAt_8 13 11 (by decide) rfl (fun hc => ?_) (fun hc => ?_)
  · rw [if_pos hc] at h
    refine mm_aload_n C dX11_sentAt_13 rfl 0 rfl 14 rfl ?_
    refine mm_get C fl_X11_26_X11 (by decide) (mc_0 k _) rfl dX11_sentAt_14 17 rfl ?_
    refine mm_aload_n C dX11_sentAt_17 rfl 1 rfl 18 rfl ?_
    refine mm_iload_n C dX11_sentAt_18 rfl 2 rfl 19 rfl ?_
    refine mm_iconst (v := (1 : Int32)) C dX11_sentAt_19 (by decide) 20 rfl ?_
    refine mm_iadd C dX11_sentAt_20 21 rfl ?_
    obtain ⟨x1, G2, ex1, h⟩ := mb2 h
    refine mm_callV [.ref (mmad k 17), .int (a2 + (1 : Int32))] C (c_X6_lead_14_17 ex1) wb_X6_lead wv_X11_131 (by decide) (mc_14 k _) rfl rfl rfl (by omega) rfl (Nat.le_of_ble_eq_true rfl) dX11_sentAt_21 24 rfl ?_
    show mm_AW z k 3 (some (.int r)) F1 G2 24 [(0, .ref (mmad k 0)), (1, .ref (mmad k 17)), (2, .int a2)] [.int x1]
    refine mm_pop C dX11_sentAt_24 rfl 25 rfl ?_
    refine mm_aload_n C dX11_sentAt_25 rfl 1 rfl 26 rfl ?_
    refine mm_get C fl_X11_257_X9 (by decide) (mc_17 k _) rfl dX11_sentAt_26 29 rfl ?_
    exact mm_iretW C (h) dX11_sentAt_29
  · rw [if_neg hc] at h
    refine mm_iconst (v := (-1 : Int32)) C dX11_sentAt_11 (by decide) 12 rfl ?_
    exact mm_iretW C (h) dX11_sentAt_12
def m_X11_sentAt_0_34 (F : mmS) (a2 : Int32) : Option (Int32 × mmS) :=
  if a2 < (F 14 2) then (bd2 (m_X6_lead_14_34 F (a2 + (1 : Int32))) fun x1 G2 => some ((G2 34 3), G2)) else (some ((-1 : Int32), F))
set_option maxHeartbeats 4000000 in
set_option maxRecDepth 100000 in
theorem c_X11_sentAt_0_34 {l : Launch} {k : mmK} {F : mmS} {a2 : Int32} {r : Int32} {F1 : mmS} (h : m_X11_sentAt_0_34 F a2 = some (r, F1)) : mm_T l k yX11_sentAt cX11_sentAt 3 (some .int) 4 [.ref (mmad k 0), .ref (mmad k 34), .int a2] F (some (.int r)) F1 := by
  refine mm_start [(0, .ref (mmad k 0)), (1, .ref (mmad k 34)), (2, .int a2)] (by decide) (Nat.le_of_ble_eq_true rfl) rfl ?_
  intro z hz C
  subst hz
  have C : mm_C z k RX11 cX11_sentAt 3 (some .int) 4 := C
  replace h := mk0 h
  unfold m_X11_sentAt_0_34 at h
  refine mm_iload_n C dX11_sentAt_0 rfl 2 rfl 1 rfl ?_
  refine mm_aload_n C dX11_sentAt_1 rfl 0 rfl 2 rfl ?_
  refine mm_get C fl_X11_26_X11 (by decide) (mc_0 k _) rfl dX11_sentAt_2 5 rfl ?_
  refine mm_get C fl_X11_128_X6 (by decide) (mc_14 k _) rfl dX11_sentAt_5 8 rfl ?_
  refine mm_icmp_lt C dX11_sentAt_8 13 11 (by decide) rfl (fun hc => ?_) (fun hc => ?_)
  · rw [if_pos hc] at h
    refine mm_aload_n C dX11_sentAt_13 rfl 0 rfl 14 rfl ?_
    refine mm_get C fl_X11_26_X11 (by decide) (mc_0 k _) rfl dX11_sentAt_14 17 rfl ?_
    refine mm_aload_n C dX11_sentAt_17 rfl 1 rfl 18 rfl ?_
    refine mm_iload_n C dX11_sentAt_18 rfl 2 rfl 19 rfl ?_
    refine mm_iconst (v := (1 : Int32)) C dX11_sentAt_19 (by decide) 20 rfl ?_
    refine mm_iadd C dX11_sentAt_20 21 rfl ?_
    obtain ⟨x1, G2, ex1, h⟩ := mb2 h
    refine mm_callV [.ref (mmad k 34), .int (a2 + (1 : Int32))] C (c_X6_lead_14_34 ex1) wb_X6_lead wv_X11_131 (by decide) (mc_14 k _) rfl rfl rfl (by omega) rfl (Nat.le_of_ble_eq_true rfl) dX11_sentAt_21 24 rfl ?_
    show mm_AW z k 3 (some (.int r)) F1 G2 24 [(0, .ref (mmad k 0)), (1, .ref (mmad k 34)), (2, .int a2)] [.int x1]
    refine mm_pop C dX11_sentAt_24 rfl 25 rfl ?_
    refine mm_aload_n C dX11_sentAt_25 rfl 1 rfl 26 rfl ?_
    refine mm_get C fl_X11_257_X5 (by decide) (mc_34 k _) rfl dX11_sentAt_26 29 rfl ?_
    exact mm_iretW C (h) dX11_sentAt_29
  · rw [if_neg hc] at h
    refine mm_iconst (v := (-1 : Int32)) C dX11_sentAt_11 (by decide) 12 rfl ?_
    exact mm_iretW C (h) dX11_sentAt_12
def m_X11_sentAt_0_23 (F : mmS) (a2 : Int32) : Option (Int32 × mmS) :=
  if a2 < (F 14 2) then (bd2 (m_X6_lead_14_23 F (a2 + (1 : Int32))) fun x1 G2 => some ((G2 23 3), G2)) else (some ((-1 : Int32), F))
set_option maxHeartbeats 4000000 in
set_option maxRecDepth 100000 in
theorem c_X11_sentAt_0_23 {l : Launch} {k : mmK} {F : mmS} {a2 : Int32} {r : Int32} {F1 : mmS} (h : m_X11_sentAt_0_23 F a2 = some (r, F1)) : mm_T l k yX11_sentAt cX11_sentAt 3 (some .int) 6 [.ref (mmad k 0), .ref (mmad k 23), .int a2] F (some (.int r)) F1 := by
  refine mm_start [(0, .ref (mmad k 0)), (1, .ref (mmad k 23)), (2, .int a2)] (by decide) (Nat.le_of_ble_eq_true rfl) rfl ?_
  intro z hz C
  subst hz
  have C : mm_C z k RX11 cX11_sentAt 3 (some .int) 6 := C
  replace h := mk0 h
  unfold m_X11_sentAt_0_23 at h
  refine mm_iload_n C dX11_sentAt_0 rfl 2 rfl 1 rfl ?_
  refine mm_aload_n C dX11_sentAt_1 rfl 0 rfl 2 rfl ?_
  refine mm_get C fl_X11_26_X11 (by decide) (mc_0 k _) rfl dX11_sentAt_2 5 rfl ?_
  refine mm_get C fl_X11_128_X6 (by decide) (mc_14 k _) rfl dX11_sentAt_5 8 rfl ?_
  refine mm_icmp_lt C dX11_sentAt_8 13 11 (by decide) rfl (fun hc => ?_) (fun hc => ?_)
  · rw [if_pos hc] at h
    refine mm_aload_n C dX11_sentAt_13 rfl 0 rfl 14 rfl ?_
    refine mm_get C fl_X11_26_X11 (by decide) (mc_0 k _) rfl dX11_sentAt_14 17 rfl ?_
    refine mm_aload_n C dX11_sentAt_17 rfl 1 rfl 18 rfl ?_
    refine mm_iload_n C dX11_sentAt_18 rfl 2 rfl 19 rfl ?_
    refine mm_iconst (v := (1 : Int32)) C dX11_sentAt_19 (by decide) 20 rfl ?_
    refine mm_iadd C dX11_sentAt_20 21 rfl ?_
    obtain ⟨x1, G2, ex1, h⟩ := mb2 h
    refine mm_callV [.ref (mmad k 23), .int (a2 + (1 : Int32))] C (c_X6_lead_14_23 ex1) wb_X6_lead wv_X11_131 (by decide) (mc_14 k _) rfl rfl rfl (by omega) rfl (Nat.le_of_ble_eq_true rfl) dX11_sentAt_21 24 rfl ?_
    show mm_AW z k 3 (some (.int r)) F1 G2 24 [(0, .ref (mmad k 0)), (1, .ref (mmad k 23)), (2, .int a2)] [.int x1]
    refine mm_pop C dX11_sentAt_24 rfl 25 rfl ?_
    refine mm_aload_n C dX11_sentAt_25 rfl 1 rfl 26 rfl ?_
    refine mm_get C fl_X11_257_X2 (by decide) (mc_23 k _) rfl dX11_sentAt_26 29 rfl ?_
    exact mm_iretW C (h) dX11_sentAt_29
  · rw [if_neg hc] at h
    refine mm_iconst (v := (-1 : Int32)) C dX11_sentAt_11 (by decide) 12 rfl ?_
    exact mm_iretW C (h) dX11_sentAt_12
def m_X11_goes_0 (F : mmS) (a1 : Int32) (a2 : Int32) : Option (Int32 × mmS) :=
  bd1 (if a1 = (0 : Int32) then (some ((1 : Int32))) else (if a1 = (2 : Int32) then (some ((1 : Int32))) else (if a1 = (3 : Int32) then (some ((1 : Int32))) else (some ((0 : Int32)))))) fun y1 => if y1 = (0 : Int32) then (some ((-2 : Int32), F)) else (Option.bind (m_X11_isWithin a2 (0 : Int32) (39 : Int32)) fun x2 => if x2 = (0 : Int32) then (some ((-2 : Int32), F)) else (bd2 (m_X11_readRow_0 F) fun x3 G4 => if x3 = (0 : Int32) then (bd2 (m_X8_found_6 G4 (1 : Int32)) fun x16 G17 => some (x16, G17)) else (Option.bind (rld 29 a1) fun q5 => if q5 = 30 then (bd2 (m_X11_sentAt_0_30 G4 a2) fun x6 G7 => some (x6, G7)) else if q5 = 32 then (bd2 (m_X11_sentAt_0_32 G4 a2) fun x8 G9 => some (x8, G9)) else if q5 = 17 then (bd2 (m_X11_sentAt_0_17 G4 a2) fun x10 G11 => some (x10, G11)) else if q5 = 34 then (bd2 (m_X11_sentAt_0_34 G4 a2) fun x12 G13 => some (x12, G13)) else if q5 = 23 then (bd2 (m_X11_sentAt_0_23 G4 a2) fun x14 G15 => some (x14, G15)) else none)))
set_option maxHeartbeats 4000000 in
set_option maxRecDepth 100000 in
theorem c_X11_goes_0 {l : Launch} {k : mmK} {F : mmS} {a1 : Int32} {a2 : Int32} {r : Int32} {F1 : mmS} (h : m_X11_goes_0 F a1 a2 = some (r, F1)) : mm_T l k yX11_goes cX11_goes 4 (some .int) 12 [.ref (mmad k 0), .int a1, .int a2] F (some (.int r)) F1 := by
  refine mm_start [(0, .ref (mmad k 0)), (1, .int a1), (2, .int a2)] (by decide) (Nat.le_of_ble_eq_true rfl) rfl ?_
  intro z hz C
  subst hz
  have C : mm_C z k RX11 cX11_goes 4 (some .int) 12 := C
  replace h := mk0 h
  unfold m_X11_goes_0 at h
  refine mm_iload_n C dX11_goes_0 rfl 1 rfl 1 rfl ?_
  refine mj1 h (fun (y1 : Int32) => mm_AW z k 4 (some (.int r)) F1 F 19 [(0, .ref (mmad k 0)), (1, .int a1), (2, .int a2)] [.int y1]) ?_ ?_
  · intro y1 h
    refine mm_istore_n (lv2 := [(3, .int y1), (0, .ref (mmad k 0)), (1, .int a1), (2, .int a2)]) C dX11_goes_19 rfl (by decide) rfl 20 rfl ?_
    refine mm_iload_n C dX11_goes_20 rfl 0 rfl 21 rfl ?_
    refine mm_if_eq C dX11_goes_21 34 24 (by decide) rfl (fun hc => ?_) (fun hc => ?_)
    · rw [if_pos hc] at h
      refine mm_bipush (v := (-2 : Int32)) C dX11_goes_34 (by decide) 36 rfl ?_
      exact mm_iretW C (h) dX11_goes_36
    · rw [if_neg hc] at h
      refine mm_iload_n C dX11_goes_24 rfl 3 rfl 25 rfl ?_
      refine mm_iconst (v := (0 : Int32)) C dX11_goes_25 (by decide) 26 rfl ?_
      refine mm_bipush (v := (39 : Int32)) C dX11_goes_26 (by decide) 28 rfl ?_
      obtain ⟨x2, ex2, h⟩ := mb h
      refine mm_callS [.int a2, .int (0 : Int32), .int (39 : Int32)] C (c_X11_isWithin ex2) wb_X11_isWithin ws_X11_85 rfl (by omega) rfl (Nat.le_of_ble_eq_true rfl) dX11_goes_28 31 rfl ?_
      show mm_AW z k 4 (some (.int r)) F1 F 31 [(3, .int y1), (0, .ref (mmad k 0)), (1, .int a1), (2, .int a2)] [.int x2]
      refine mm_if_ne C dX11_goes_31 37 34 (by decide) rfl (fun hc => ?_) (fun hc => ?_)
      · rw [if_neg hc] at h
        refine mm_aload_n C dX11_goes_37 rfl 1 rfl 38 rfl ?_
        obtain ⟨x3, G4, ex3, h⟩ := mb2 h
        refine mm_callV [] C (c_X11_readRow_0 ex3) wb_X11_readRow wv_X11_120 (by decide) (mc_0 k _) rfl rfl rfl (by omega) rfl (Nat.le_of_ble_eq_true rfl) dX11_goes_38 41 rfl ?_
        show mm_AW z k 4 (some (.int r)) F1 G4 41 [(3, .int y1), (0, .ref (mmad k 0)), (1, .int a1), (2, .int a2)] [.int x3]
        refine mm_if_ne C dX11_goes_41 53 44 (by decide) rfl (fun hc => ?_) (fun hc => ?_)
        · rw [if_neg hc] at h
          refine mm_aload_n C dX11_goes_53 rfl 1 rfl 54 rfl ?_
          refine mm_aload_n C dX11_goes_54 rfl 1 rfl 55 rfl ?_
          refine mm_get C fl_X11_58_X11 (by decide) (mc_0 k _) rfl dX11_goes_55 58 rfl ?_
          refine mm_iload_n C dX11_goes_58 rfl 2 rfl 59 rfl ?_
          obtain ⟨q5, eq5, h⟩ := mb h
          refine mm_aald (t0 := 2) C (by decide) (mc_29 k _) rfl rfl eq5 dX11_goes_59 60 rfl ?_
          refine mm_iload_n C dX11_goes_60 rfl 3 rfl 61 rfl ?_
          by_cases hq30 : q5 = 30
          · rw [if_pos hq30] at h
            subst hq30
            obtain ⟨x6, G7, ex6, h⟩ := mb2 h
            refine mm_callV [.ref (mmad k 30), .int a2] C (c_X11_sentAt_0_30 ex6) wb_X11_sentAt wv_X11_138 (by decide) (mc_0 k _) rfl rfl rfl (by omega) rfl (Nat.le_of_ble_eq_true rfl) dX11_goes_61 64 rfl ?_
            show mm_AW z k 4 (some (.int r)) F1 G7 64 [(3, .int y1), (0, .ref (mmad k 0)), (1, .int a1), (2, .int a2)] [.int x6]
            exact mm_iretW C (h) dX11_goes_64
          · rw [if_neg hq30] at h
            by_cases hq32 : q5 = 32
            · rw [if_pos hq32] at h
              subst hq32
              obtain ⟨x8, G9, ex8, h⟩ := mb2 h
              refine mm_callV [.ref (mmad k 32), .int a2] C (c_X11_sentAt_0_32 ex8) wb_X11_sentAt wv_X11_138 (by decide) (mc_0 k _) rfl rfl rfl (by omega) rfl (Nat.le_of_ble_eq_true rfl) dX11_goes_61 64 rfl ?_
              show mm_AW z k 4 (some (.int r)) F1 G9 64 [(3, .int y1), (0, .ref (mmad k 0)), (1, .int a1), (2, .int a2)] [.int x8]
              exact mm_iretW C (h) dX11_goes_64
            · rw [if_neg hq32] at h
              by_cases hq17 : q5 = 17
              · rw [if_pos hq17] at h
                subst hq17
                obtain ⟨x10, G11, ex10, h⟩ := mb2 h
                refine mm_callV [.ref (mmad k 17), .int a2] C (c_X11_sentAt_0_17 ex10) wb_X11_sentAt wv_X11_138 (by decide) (mc_0 k _) rfl rfl rfl (by omega) rfl (Nat.le_of_ble_eq_true rfl) dX11_goes_61 64 rfl ?_
                show mm_AW z k 4 (some (.int r)) F1 G11 64 [(3, .int y1), (0, .ref (mmad k 0)), (1, .int a1), (2, .int a2)] [.int x10]
                exact mm_iretW C (h) dX11_goes_64
              · rw [if_neg hq17] at h
                by_cases hq34 : q5 = 34
                · rw [if_pos hq34] at h
                  subst hq34
                  obtain ⟨x12, G13, ex12, h⟩ := mb2 h
                  refine mm_callV [.ref (mmad k 34), .int a2] C (c_X11_sentAt_0_34 ex12) wb_X11_sentAt wv_X11_138 (by decide) (mc_0 k _) rfl rfl rfl (by omega) rfl (Nat.le_of_ble_eq_true rfl) dX11_goes_61 64 rfl ?_
                  show mm_AW z k 4 (some (.int r)) F1 G13 64 [(3, .int y1), (0, .ref (mmad k 0)), (1, .int a1), (2, .int a2)] [.int x12]
                  exact mm_iretW C (h) dX11_goes_64
                · rw [if_neg hq34] at h
                  by_cases hq23 : q5 = 23
                  · rw [if_pos hq23] at h
                    subst hq23
                    obtain ⟨x14, G15, ex14, h⟩ := mb2 h
                    refine mm_callV [.ref (mmad k 23), .int a2] C (c_X11_sentAt_0_23 ex14) wb_X11_sentAt wv_X11_138 (by decide) (mc_0 k _) rfl rfl rfl (by omega) rfl (Nat.le_of_ble_eq_true rfl) dX11_goes_61 64 rfl ?_
                    show mm_AW z k 4 (some (.int r)) F1 G15 64 [(3, .int y1), (0, .ref (mmad k 0)), (1, .int a1), (2, .int a2)] [.int x14]
                    exact mm_iretW C (h) dX11_goes_64
                  · rw [if_neg hq23] at h
                    cases h
        · rw [if_pos hc] at h
          refine mm_aload_n C dX11_goes_44 rfl 1 rfl 45 rfl ?_
          refine mm_get C fl_X11_19_X11 (by decide) (mc_0 k _) rfl dX11_goes_45 48 rfl ?_
          refine mm_iconst (v := (1 : Int32)) C dX11_goes_48 (by decide) 49 rfl ?_
          obtain ⟨x16, G17, ex16, h⟩ := mb2 h
          refine mm_callV [.int (1 : Int32)] C (c_X8_found_6 ex16) wb_X8_found wv_X11_124 (by decide) (mc_6 k _) rfl rfl rfl (by omega) rfl (Nat.le_of_ble_eq_true rfl) dX11_goes_49 52 rfl ?_
          show mm_AW z k 4 (some (.int r)) F1 G17 52 [(3, .int y1), (0, .ref (mmad k 0)), (1, .int a1), (2, .int a2)] [.int x16]
          exact mm_iretW C (h) dX11_goes_52
      · rw [if_pos hc] at h
        refine mm_bipush (v := (-2 : Int32)) C dX11_goes_34 (by decide) 36 rfl ?_
        exact mm_iretW C (h) dX11_goes_36
  · intro K2 hR19 h
    refine mm_if_eq C dX11_goes_1 14 4 (by decide) rfl (fun hc => ?_) (fun hc => ?_)
    · rw [if_pos hc] at h
      refine mm_iconst (v := (1 : Int32)) C dX11_goes_14 (by decide) 15 rfl ?_
      refine mm_goto C dX11_goes_15 19 (by decide) ?_
      exact hR19 _ h
    · rw [if_neg hc] at h
      refine mm_iload_n C dX11_goes_4 rfl 1 rfl 5 rfl ?_
      refine mm_iconst (v := (2 : Int32)) C dX11_goes_5 (by decide) 6 rfl ?_
      refine mm_icmp_eq C dX11_goes_6 14 9 (by decide) rfl (fun hc => ?_) (fun hc => ?_)
      · rw [if_pos hc] at h
        refine mm_iconst (v := (1 : Int32)) C dX11_goes_14 (by decide) 15 rfl ?_
        refine mm_goto C dX11_goes_15 19 (by decide) ?_
        exact hR19 _ h
      · rw [if_neg hc] at h
        refine mm_iload_n C dX11_goes_9 rfl 1 rfl 10 rfl ?_
        refine mm_iconst (v := (3 : Int32)) C dX11_goes_10 (by decide) 11 rfl ?_
        refine mm_icmp_ne C dX11_goes_11 18 14 (by decide) rfl (fun hc => ?_) (fun hc => ?_)
        · rw [if_neg hc] at h
          refine mm_iconst (v := (0 : Int32)) C dX11_goes_18 (by decide) 19 rfl ?_
          exact hR19 _ h
        · rw [if_pos hc] at h
          refine mm_iconst (v := (1 : Int32)) C dX11_goes_14 (by decide) 15 rfl ?_
          refine mm_goto C dX11_goes_15 19 (by decide) ?_
          exact hR19 _ h
def m_X0_chosen_36_L12 (a1 : Int32) (a2 : Int32) (a3 : Int32) : Nat → Int32 → Int32 → mmS → Option (Int32 × mmS)
  | 0, _, _, _ => none
  | n5 + 1, v2, v3, G4 => if (G4 1 1) ≤ v3 then (some ((v2, G4))) else (Option.bind (rld 38 (a1 + (1 : Int32))) fun q6 => Option.bind (m_X3_moved a2 v3 a3) fun x7 => Option.bind (ald G4 4 x7) fun x8 => Option.bind (ald G4 q6 x8) fun x9 => Option.bind (m_X3_wayOf_1 G4 a2 v3 a3) fun x10 => mlet (x9 + x10) fun x11 => bd2 (if (G4 36 5) ≤ x11 then (some (v2, G4)) else (mlet (stF G4 36 5 x11) fun G12 => some (v3, G12))) fun y13 G14 => mlet (v3 + (1 : Int32)) fun x15 => m_X0_chosen_36_L12 a1 a2 a3 n5 y13 x15 G14)
def m_X0_chosen_36 (F : mmS) (a1 : Int32) (a2 : Int32) (a3 : Int32) : Option (Int32 × mmS) :=
  mlet (stF F 36 5 (2147483647 : Int32)) fun G1 => bd2 (m_X0_chosen_36_L12 a1 a2 a3 300 (0 : Int32) (0 : Int32) G1) fun y16 G17 => some (y16, G17)
set_option maxHeartbeats 4000000 in
set_option maxRecDepth 100000 in
theorem c_X0_chosen_36 {l : Launch} {k : mmK} {F : mmS} {a1 : Int32} {a2 : Int32} {a3 : Int32} {r : Int32} {F1 : mmS} (h : m_X0_chosen_36 F a1 a2 a3 = some (r, F1)) : mm_T l k yX0_chosen cX0_chosen 8 (some .int) 2 [.ref (mmad k 36), .int a1, .int a2, .int a3] F (some (.int r)) F1 := by
  refine mm_start [(0, .ref (mmad k 36)), (1, .int a1), (2, .int a2), (3, .int a3)] (by decide) (Nat.le_of_ble_eq_true rfl) rfl ?_
  intro z hz C
  subst hz
  have C : mm_C z k RX0 cX0_chosen 8 (some .int) 2 := C
  replace h := mk0 h
  unfold m_X0_chosen_36 at h
  refine mm_iconst (v := (0 : Int32)) C dX0_chosen_0 (by decide) 1 rfl ?_
  refine mm_istore (lv2 := [(4, .int (0 : Int32)), (0, .ref (mmad k 36)), (1, .int a1), (2, .int a2), (3, .int a3)]) C dX0_chosen_1 (by decide) rfl 3 rfl ?_
  refine mm_aload_n C dX0_chosen_3 rfl 1 rfl 4 rfl ?_
  refine mm_ldc (v := (2147483647 : Int32)) C dX0_chosen_4 mw_584 6 rfl ?_
  obtain ⟨G1, eG1, h⟩ := me h
  refine mm_put (x := (2147483647 : Int32)) (ty := .int) C fl_X0_53_X0 (by decide) (mc_36 k _) (mc_36 k _) tyX0 tyX0_ok nmX0 rfl (by decide +kernel) rfl rfl (Nat.le_of_ble_eq_true rfl) eG1 dX0_chosen_6 9 rfl ?_
  refine mm_iconst (v := (0 : Int32)) C dX0_chosen_9 (by decide) 10 rfl ?_
  refine mm_istore (lv2 := [(5, .int (0 : Int32)), (4, .int (0 : Int32)), (0, .ref (mmad k 36)), (1, .int a1), (2, .int a2), (3, .int a3)]) C dX0_chosen_10 (by decide) rfl 12 rfl ?_
  refine mm_lv [2, 3, 4, 5, 1, 0] rfl ?_
  have hL12 : ∀ (K : (Int32 × mmS) → Option (Int32 × mmS)) (hK : ∀ (v2 : Int32) (G4 : mmS) , K (v2, G4) = some (r, F1) → mm_AW z k 8 (some (.int r)) F1 G4 91 [(4, .int v2)] []) (n5 : Nat) (v2 : Int32) (v3 : Int32) (G4 : mmS) , (m_X0_chosen_36_L12 a1 a2 a3 n5 v2 v3 G4).bind K = some (r, F1) → mm_AW z k 8 (some (.int r)) F1 G4 12 [(0, .ref (mmad k 36)), (1, .int a1), (2, .int a2), (3, .int a3), (4, .int v2), (5, .int v3)] [] := by
    intro K hK n5
    induction n5 with
    | zero => intro v2 v3 G4 h; rw [m_X0_chosen_36_L12] at h; cases h
    | succ n5 ih =>
      intro v2 v3 G4 h
      rw [m_X0_chosen_36_L12] at h
      refine mm_iload C dX0_chosen_12 5 rfl 14 rfl ?_
      refine mm_aload_n C dX0_chosen_14 rfl 0 rfl 15 rfl ?_
      refine mm_get C fl_X0_30_X0 (by decide) (mc_36 k _) rfl dX0_chosen_15 18 rfl ?_
      refine mm_get C fl_X0_57_X3 (by decide) (mc_1 k _) rfl dX0_chosen_18 21 rfl ?_
      refine mm_icmp_ge C dX0_chosen_21 91 24 (by decide) rfl (fun hc => ?_) (fun hc => ?_)
      · rw [if_pos hc] at h
        refine mm_lv [4] rfl ?_
        exact hK _ _ h
      · rw [if_neg hc] at h
        refine mm_aload_n C dX0_chosen_24 rfl 0 rfl 25 rfl ?_
        refine mm_get C fl_X0_11_X0 (by decide) (mc_36 k _) rfl dX0_chosen_25 28 rfl ?_
        refine mm_iload_n C dX0_chosen_28 rfl 1 rfl 29 rfl ?_
        refine mm_iconst (v := (1 : Int32)) C dX0_chosen_29 (by decide) 30 rfl ?_
        refine mm_iadd C dX0_chosen_30 31 rfl ?_
        obtain ⟨q6, eq6, h⟩ := mb h
        refine mm_aald (t0 := 3) C (by decide) (mc_38 k _) rfl rfl eq6 dX0_chosen_31 32 rfl ?_
        refine mm_aload_n C dX0_chosen_32 rfl 0 rfl 33 rfl ?_
        refine mm_get C fl_X0_30_X0 (by decide) (mc_36 k _) rfl dX0_chosen_33 36 rfl ?_
        refine mm_get C fl_X0_34_X3 (by decide) (mc_1 k _) rfl dX0_chosen_36 39 rfl ?_
        refine mm_iload_n C dX0_chosen_39 rfl 2 rfl 40 rfl ?_
        refine mm_iload C dX0_chosen_40 5 rfl 42 rfl ?_
        refine mm_iload_n C dX0_chosen_42 rfl 3 rfl 43 rfl ?_
        obtain ⟨x7, ex7, h⟩ := mb h
        refine mm_callS [.int a2, .int v3, .int a3] C (c_X3_moved ex7) wb_X3_moved ws_X0_60 rfl (by omega) rfl (Nat.le_of_ble_eq_true rfl) dX0_chosen_43 46 rfl ?_
        show mm_AW z k 8 (some (.int r)) F1 G4 46 [(0, .ref (mmad k 36)), (1, .int a1), (2, .int a2), (3, .int a3), (4, .int v2), (5, .int v3)] [.int x7, .ref (mmad k 4), .ref (mmad k q6)]
        obtain ⟨x8, ex8, h⟩ := mb h
        refine mm_iald C ex8 dX0_chosen_46 47 rfl ?_
        obtain ⟨x9, ex9, h⟩ := mb h
        refine mm_iald C ex9 dX0_chosen_47 48 rfl ?_
        refine mm_istore (lv2 := [(6, .int x9), (0, .ref (mmad k 36)), (1, .int a1), (2, .int a2), (3, .int a3), (4, .int v2), (5, .int v3)]) C dX0_chosen_48 (by decide) rfl 50 rfl ?_
        refine mm_iload C dX0_chosen_50 0 rfl 52 rfl ?_
        refine mm_aload_n C dX0_chosen_52 rfl 1 rfl 53 rfl ?_
        refine mm_get C fl_X0_30_X0 (by decide) (mc_36 k _) rfl dX0_chosen_53 56 rfl ?_
        refine mm_iload_n C dX0_chosen_56 rfl 3 rfl 57 rfl ?_
        refine mm_iload C dX0_chosen_57 6 rfl 59 rfl ?_
        refine mm_iload_n C dX0_chosen_59 rfl 4 rfl 60 rfl ?_
        obtain ⟨x10, ex10, h⟩ := mb h
        refine mm_callV [.int a2, .int v3, .int a3] C (c_X3_wayOf_1 ex10) wb_X3_wayOf wv_X0_63 (by decide) (mc_1 k _) rfl rfl rfl (by omega) rfl (Nat.le_of_ble_eq_true rfl) dX0_chosen_60 63 rfl ?_
        show mm_AW z k 8 (some (.int r)) F1 G4 63 [(6, .int x9), (0, .ref (mmad k 36)), (1, .int a1), (2, .int a2), (3, .int a3), (4, .int v2), (5, .int v3)] [.int x10, .int x9]
        refine mm_iadd C dX0_chosen_63 64 rfl ?_
        obtain ⟨x11, ex11, h⟩ := me h
        refine mm_top ex11 ?_
        refine mm_istore (lv2 := [(7, .int x11), (6, .int x9), (0, .ref (mmad k 36)), (1, .int a1), (2, .int a2), (3, .int a3), (4, .int v2), (5, .int v3)]) C dX0_chosen_64 (by decide) rfl 66 rfl ?_
        refine mm_iload C dX0_chosen_66 0 rfl 68 rfl ?_
        refine mm_aload_n C dX0_chosen_68 rfl 2 rfl 69 rfl ?_
        refine mm_get C fl_X0_53_X0 (by decide) (mc_36 k _) rfl dX0_chosen_69 72 rfl ?_
        refine mj2 h (fun (y13 : Int32) (G14 : mmS) => mm_AW z k 8 (some (.int r)) F1 G14 85 [(0, .ref (mmad k 36)), (1, .int a1), (2, .int a2), (3, .int a3), (4, .int y13), (5, .int v3)] []) ?_ ?_
        · intro y13 G14 h
          obtain ⟨x15, ex15, h⟩ := me h
          refine mm_iinc (v := x15) (lv2 := [(5, .int x15), (0, .ref (mmad k 36)), (1, .int a1), (2, .int a2), (3, .int a3), (4, .int y13)]) C dX0_chosen_85 5 rfl (by rw [← ex15]; rfl) (by decide) rfl 88 rfl ?_
          refine mm_goto C dX0_chosen_88 12 (by decide) ?_
          refine mm_lv [1, 2, 3, 4, 5, 0] rfl ?_
          exact ih _ _ _ h
        · intro K2 hR85 h
          refine mm_icmp_ge C dX0_chosen_72 85 75 (by decide) rfl (fun hc => ?_) (fun hc => ?_)
          · rw [if_pos hc] at h
            refine mm_lv [2, 3, 4, 5, 6, 7] rfl ?_
            exact hR85 _ _ h
          · rw [if_neg hc] at h
            refine mm_aload_n C dX0_chosen_75 rfl 2 rfl 76 rfl ?_
            refine mm_iload C dX0_chosen_76 0 rfl 78 rfl ?_
            obtain ⟨G12, eG12, h⟩ := me h
            refine mm_put (x := x11) (ty := .int) C fl_X0_53_X0 (by decide) (mc_36 k _) (mc_36 k _) tyX0 tyX0_ok nmX0 rfl (by decide +kernel) rfl rfl (Nat.le_of_ble_eq_true rfl) eG12 dX0_chosen_78 81 rfl ?_
            refine mm_iload C dX0_chosen_81 7 rfl 83 rfl ?_
            refine mm_istore (lv2 := [(4, .int v3), (7, .int x11), (6, .int x9), (0, .ref (mmad k 36)), (1, .int a1), (2, .int a2), (3, .int a3), (5, .int v3)]) C dX0_chosen_83 (by decide) rfl 85 rfl ?_
            refine mm_lv [3, 4, 5, 6, 0, 7] rfl ?_
            exact hR85 _ _ h
  refine mj2 h (fun (y16 : Int32) (G17 : mmS) => mm_AW z k 8 (some (.int r)) F1 G17 91 [(4, .int y16)] []) ?_ ?_
  · intro y16 G17 h
    refine mm_iload C dX0_chosen_91 0 rfl 93 rfl ?_
    exact mm_iretW C (h) dX0_chosen_93
  · intro K2 hR h
    exact hL12 K2 hR 300 _ _ _ h
def m_X0_planStep_36_L2 (a1 : Int32) (a2 : Int32) : Nat → Int32 → mmS → Option (mmS)
  | 0, _, _ => none
  | n3 + 1, v1, G2 => if (G2 1 3) ≤ v1 then (some ((G2))) else (Option.bind (ald G2 5 v1) fun x4 => bd2 (m_X0_chosen_36 G2 a1 x4 a2) fun x5 G6 => Option.bind (rld 38 a1) fun q7 => Option.bind (ald G6 4 x4) fun x8 => Option.bind (ast G6 q7 x8 (G6 36 5)) fun G9 => mlet (v1 + (1 : Int32)) fun x10 => m_X0_planStep_36_L2 a1 a2 n3 x10 G9)
def m_X0_planStep_36 (F : mmS) (a1 : Int32) (a2 : Int32) : Option (mmS) :=
  bd1 (m_X0_planStep_36_L2 a1 a2 300 (0 : Int32) F) fun G11 => some G11
set_option maxHeartbeats 4000000 in
set_option maxRecDepth 100000 in
theorem c_X0_planStep_36 {l : Launch} {k : mmK} {F : mmS} {a1 : Int32} {a2 : Int32} {F1 : mmS} (h : m_X0_planStep_36 F a1 a2 = some F1) : mm_T l k yX0_planStep cX0_planStep 5 none 3 [.ref (mmad k 36), .int a1, .int a2] F none F1 := by
  refine mm_start [(0, .ref (mmad k 36)), (1, .int a1), (2, .int a2)] (by decide) (Nat.le_of_ble_eq_true rfl) rfl ?_
  intro z hz C
  subst hz
  have C : mm_C z k RX0 cX0_planStep 5 none 3 := C
  replace h := mk0 h
  unfold m_X0_planStep_36 at h
  refine mm_iconst (v := (0 : Int32)) C dX0_planStep_0 (by decide) 1 rfl ?_
  refine mm_istore_n (lv2 := [(3, .int (0 : Int32)), (0, .ref (mmad k 36)), (1, .int a1), (2, .int a2)]) C dX0_planStep_1 rfl (by decide) rfl 2 rfl ?_
  refine mm_lv [1, 2, 3, 0] rfl ?_
  have hL2 : ∀ (K : (mmS) → Option (mmS)) (hK : ∀ (G2 : mmS) , K (G2) = some F1 → mm_AW z k 5 none F1 G2 60 [] []) (n3 : Nat) (v1 : Int32) (G2 : mmS) , (m_X0_planStep_36_L2 a1 a2 n3 v1 G2).bind K = some F1 → mm_AW z k 5 none F1 G2 2 [(0, .ref (mmad k 36)), (1, .int a1), (2, .int a2), (3, .int v1)] [] := by
    intro K hK n3
    induction n3 with
    | zero => intro v1 G2 h; rw [m_X0_planStep_36_L2] at h; cases h
    | succ n3 ih =>
      intro v1 G2 h
      rw [m_X0_planStep_36_L2] at h
      refine mm_iload_n C dX0_planStep_2 rfl 3 rfl 3 rfl ?_
      refine mm_aload_n C dX0_planStep_3 rfl 0 rfl 4 rfl ?_
      refine mm_get C fl_X0_30_X0 (by decide) (mc_36 k _) rfl dX0_planStep_4 7 rfl ?_
      refine mm_get C fl_X0_43_X3 (by decide) (mc_1 k _) rfl dX0_planStep_7 10 rfl ?_
      refine mm_icmp_ge C dX0_planStep_10 60 13 (by decide) rfl (fun hc => ?_) (fun hc => ?_)
      · rw [if_pos hc] at h
        refine mm_lv [] rfl ?_
        exact hK _ h
      · rw [if_neg hc] at h
        refine mm_aload_n C dX0_planStep_13 rfl 0 rfl 14 rfl ?_
        refine mm_get C fl_X0_30_X0 (by decide) (mc_36 k _) rfl dX0_planStep_14 17 rfl ?_
        refine mm_get C fl_X0_46_X3 (by decide) (mc_1 k _) rfl dX0_planStep_17 20 rfl ?_
        refine mm_iload_n C dX0_planStep_20 rfl 3 rfl 21 rfl ?_
        obtain ⟨x4, ex4, h⟩ := mb h
        refine mm_iald C ex4 dX0_planStep_21 22 rfl ?_
        refine mm_istore (lv2 := [(4, .int x4), (0, .ref (mmad k 36)), (1, .int a1), (2, .int a2), (3, .int v1)]) C dX0_planStep_22 (by decide) rfl 24 rfl ?_
        refine mm_aload_n C dX0_planStep_24 rfl 1 rfl 25 rfl ?_
        refine mm_iload_n C dX0_planStep_25 rfl 2 rfl 26 rfl ?_
        refine mm_iload C dX0_planStep_26 0 rfl 28 rfl ?_
        refine mm_iload_n C dX0_planStep_28 rfl 3 rfl 29 rfl ?_
        obtain ⟨x5, G6, ex5, h⟩ := mb2 h
        refine mm_callV [.int a1, .int x4, .int a2] C (c_X0_chosen_36 ex5) wb_X0_chosen wv_X0_49 (by decide) (mc_36 k _) rfl rfl rfl (by omega) rfl (Nat.le_of_ble_eq_true rfl) dX0_planStep_29 32 rfl ?_
        show mm_AW z k 5 none F1 G6 32 [(4, .int x4), (0, .ref (mmad k 36)), (1, .int a1), (2, .int a2), (3, .int v1)] [.int x5]
        refine mm_pop C dX0_planStep_32 rfl 33 rfl ?_
        refine mm_aload_n C dX0_planStep_33 rfl 1 rfl 34 rfl ?_
        refine mm_get C fl_X0_11_X0 (by decide) (mc_36 k _) rfl dX0_planStep_34 37 rfl ?_
        refine mm_iload_n C dX0_planStep_37 rfl 2 rfl 38 rfl ?_
        obtain ⟨q7, eq7, h⟩ := mb h
        refine mm_aald (t0 := 3) C (by decide) (mc_38 k _) rfl rfl eq7 dX0_planStep_38 39 rfl ?_
        refine mm_aload_n C dX0_planStep_39 rfl 1 rfl 40 rfl ?_
        refine mm_get C fl_X0_30_X0 (by decide) (mc_36 k _) rfl dX0_planStep_40 43 rfl ?_
        refine mm_get C fl_X0_34_X3 (by decide) (mc_1 k _) rfl dX0_planStep_43 46 rfl ?_
        refine mm_iload C dX0_planStep_46 0 rfl 48 rfl ?_
        obtain ⟨x8, ex8, h⟩ := mb h
        refine mm_iald C ex8 dX0_planStep_48 49 rfl ?_
        refine mm_aload_n C dX0_planStep_49 rfl 1 rfl 50 rfl ?_
        refine mm_get C fl_X0_53_X0 (by decide) (mc_36 k _) rfl dX0_planStep_50 53 rfl ?_
        obtain ⟨G9, eG9, h⟩ := mb h
        refine mm_iast C eG9 dX0_planStep_53 54 rfl ?_
        obtain ⟨x10, ex10, h⟩ := me h
        refine mm_iinc (v := x10) (lv2 := [(3, .int x10), (4, .int x4), (0, .ref (mmad k 36)), (1, .int a1), (2, .int a2)]) C dX0_planStep_54 4 rfl (by rw [← ex10]; rfl) (by decide) rfl 57 rfl ?_
        refine mm_goto C dX0_planStep_57 2 (by decide) ?_
        refine mm_lv [2, 3, 4, 0] rfl ?_
        exact ih _ _ h
  refine mj1 h (fun (G11 : mmS) => mm_AW z k 5 none F1 G11 60 [] []) ?_ ?_
  · intro G11 h
    exact mm_vretW C (h) dX0_planStep_60
  · intro K2 hR h
    exact hL2 K2 hR 300 _ _ h
def m_X0_plan_36_14_L2 : Nat → Int32 → mmS → Option (mmS)
  | 0, _, _ => none
  | n3 + 1, v1, G2 => if (56 : Int32) ≤ v1 then (some ((G2))) else (Option.bind (rld 38 (G2 14 2)) fun q4 => Option.bind (ast G2 q4 v1 (0 : Int32)) fun G5 => mlet (v1 + (1 : Int32)) fun x6 => m_X0_plan_36_14_L2 n3 x6 G5)
def m_X0_plan_36_14_L33 : Nat → Int32 → mmS → Option (mmS)
  | 0, _, _ => none
  | n11 + 1, v9, G10 => if v9 < (0 : Int32) then (some ((G10))) else (Option.bind (ald G10 15 v9) fun x12 => Option.bind (m_X0_planStep_36 G10 v9 x12) fun G13 => mlet (v9 + (-1 : Int32)) fun x14 => m_X0_plan_36_14_L33 n11 x14 G13)
def m_X0_plan_36_14 (F : mmS)  : Option (Int32 × mmS) :=
  bd1 (m_X0_plan_36_14_L2 300 (0 : Int32) F) fun G7 => mlet ((G7 14 2) - (1 : Int32)) fun x8 => bd1 (m_X0_plan_36_14_L33 300 x8 G7) fun G15 => Option.bind (rld 38 (0 : Int32)) fun q16 => Option.bind (m_X3_startStanding_1 G15) fun x17 => Option.bind (ald G15 4 x17) fun x18 => Option.bind (ald G15 q16 x18) fun x19 => some (x19, G15)
set_option maxHeartbeats 4000000 in
set_option maxRecDepth 100000 in
theorem c_X0_plan_36_14 {l : Launch} {k : mmK} {F : mmS}  {r : Int32} {F1 : mmS} (h : m_X0_plan_36_14 F = some (r, F1)) : mm_T l k yX0_plan cX0_plan 3 (some .int) 4 [.ref (mmad k 36), .ref (mmad k 14)] F (some (.int r)) F1 := by
  refine mm_start [(0, .ref (mmad k 36)), (1, .ref (mmad k 14))] (by decide) (Nat.le_of_ble_eq_true rfl) rfl ?_
  intro z hz C
  subst hz
  have C : mm_C z k RX0 cX0_plan 3 (some .int) 4 := C
  replace h := mk0 h
  unfold m_X0_plan_36_14 at h
  refine mm_iconst (v := (0 : Int32)) C dX0_plan_0 (by decide) 1 rfl ?_
  refine mm_istore_n (lv2 := [(2, .int (0 : Int32)), (0, .ref (mmad k 36)), (1, .ref (mmad k 14))]) C dX0_plan_1 rfl (by decide) rfl 2 rfl ?_
  refine mm_lv [1, 2, 0] rfl ?_
  have hL2 : ∀ (K : (mmS) → Option (Int32 × mmS)) (hK : ∀ (G2 : mmS) , K (G2) = some (r, F1) → mm_AW z k 3 (some (.int r)) F1 G2 26 [(0, .ref (mmad k 36)), (1, .ref (mmad k 14))] []) (n3 : Nat) (v1 : Int32) (G2 : mmS) , (m_X0_plan_36_14_L2 n3 v1 G2).bind K = some (r, F1) → mm_AW z k 3 (some (.int r)) F1 G2 2 [(0, .ref (mmad k 36)), (1, .ref (mmad k 14)), (2, .int v1)] [] := by
    intro K hK n3
    induction n3 with
    | zero => intro v1 G2 h; rw [m_X0_plan_36_14_L2] at h; cases h
    | succ n3 ih =>
      intro v1 G2 h
      rw [m_X0_plan_36_14_L2] at h
      refine mm_iload_n C dX0_plan_2 rfl 2 rfl 3 rfl ?_
      refine mm_bipush (v := (56 : Int32)) C dX0_plan_3 (by decide) 5 rfl ?_
      refine mm_icmp_ge C dX0_plan_5 26 8 (by decide) rfl (fun hc => ?_) (fun hc => ?_)
      · rw [if_pos hc] at h
        refine mm_lv [0, 1] rfl ?_
        exact hK _ h
      · rw [if_neg hc] at h
        refine mm_aload_n C dX0_plan_8 rfl 0 rfl 9 rfl ?_
        refine mm_get C fl_X0_11_X0 (by decide) (mc_36 k _) rfl dX0_plan_9 12 rfl ?_
        refine mm_aload_n C dX0_plan_12 rfl 1 rfl 13 rfl ?_
        refine mm_get C fl_X0_16_X6 (by decide) (mc_14 k _) rfl dX0_plan_13 16 rfl ?_
        obtain ⟨q4, eq4, h⟩ := mb h
        refine mm_aald (t0 := 3) C (by decide) (mc_38 k _) rfl rfl eq4 dX0_plan_16 17 rfl ?_
        refine mm_iload_n C dX0_plan_17 rfl 2 rfl 18 rfl ?_
        refine mm_iconst (v := (0 : Int32)) C dX0_plan_18 (by decide) 19 rfl ?_
        obtain ⟨G5, eG5, h⟩ := mb h
        refine mm_iast C eG5 dX0_plan_19 20 rfl ?_
        obtain ⟨x6, ex6, h⟩ := me h
        refine mm_iinc (v := x6) (lv2 := [(2, .int x6), (0, .ref (mmad k 36)), (1, .ref (mmad k 14))]) C dX0_plan_20 2 rfl (by rw [← ex6]; rfl) (by decide) rfl 23 rfl ?_
        refine mm_goto C dX0_plan_23 2 (by decide) ?_
        refine mm_lv [1, 2, 0] rfl ?_
        exact ih _ _ h
  refine mj1 h (fun (G7 : mmS) => mm_AW z k 3 (some (.int r)) F1 G7 26 [(0, .ref (mmad k 36)), (1, .ref (mmad k 14))] []) ?_ ?_
  · intro G7 h
    refine mm_aload_n C dX0_plan_26 rfl 1 rfl 27 rfl ?_
    refine mm_get C fl_X0_16_X6 (by decide) (mc_14 k _) rfl dX0_plan_27 30 rfl ?_
    refine mm_iconst (v := (1 : Int32)) C dX0_plan_30 (by decide) 31 rfl ?_
    refine mm_isub C dX0_plan_31 32 rfl ?_
    obtain ⟨x8, ex8, h⟩ := me h
    refine mm_top ex8 ?_
    refine mm_istore_n (lv2 := [(2, .int x8), (0, .ref (mmad k 36)), (1, .ref (mmad k 14))]) C dX0_plan_32 rfl (by decide) rfl 33 rfl ?_
    refine mm_lv [1, 2, 0] rfl ?_
    have hL33 : ∀ (K : (mmS) → Option (Int32 × mmS)) (hK : ∀ (G10 : mmS) , K (G10) = some (r, F1) → mm_AW z k 3 (some (.int r)) F1 G10 54 [(0, .ref (mmad k 36))] []) (n11 : Nat) (v9 : Int32) (G10 : mmS) , (m_X0_plan_36_14_L33 n11 v9 G10).bind K = some (r, F1) → mm_AW z k 3 (some (.int r)) F1 G10 33 [(0, .ref (mmad k 36)), (1, .ref (mmad k 14)), (2, .int v9)] [] := by
      intro K hK n11
      induction n11 with
      | zero => intro v9 G10 h; rw [m_X0_plan_36_14_L33] at h; cases h
      | succ n11 ih =>
        intro v9 G10 h
        rw [m_X0_plan_36_14_L33] at h
        refine mm_iload_n C dX0_plan_33 rfl 2 rfl 34 rfl ?_
        refine mm_if_lt C dX0_plan_34 54 37 (by decide) rfl (fun hc => ?_) (fun hc => ?_)
        · rw [if_pos hc] at h
          refine mm_lv [0] rfl ?_
          exact hK _ h
        · rw [if_neg hc] at h
          refine mm_aload_n C dX0_plan_37 rfl 0 rfl 38 rfl ?_
          refine mm_iload_n C dX0_plan_38 rfl 2 rfl 39 rfl ?_
          refine mm_aload_n C dX0_plan_39 rfl 1 rfl 40 rfl ?_
          refine mm_get C fl_X0_22_X6 (by decide) (mc_14 k _) rfl dX0_plan_40 43 rfl ?_
          refine mm_iload_n C dX0_plan_43 rfl 2 rfl 44 rfl ?_
          obtain ⟨x12, ex12, h⟩ := mb h
          refine mm_iald C ex12 dX0_plan_44 45 rfl ?_
          obtain ⟨G13, eG13, h⟩ := mb h
          refine mm_callV [.int v9, .int x12] C (c_X0_planStep_36 eG13) wb_X0_planStep wv_X0_26 (by decide) (mc_36 k _) rfl rfl rfl (by omega) rfl (Nat.le_of_ble_eq_true rfl) dX0_plan_45 48 rfl ?_
          show mm_AW z k 3 (some (.int r)) F1 G13 48 [(0, .ref (mmad k 36)), (1, .ref (mmad k 14)), (2, .int v9)] []
          obtain ⟨x14, ex14, h⟩ := me h
          refine mm_iinc (v := x14) (lv2 := [(2, .int x14), (0, .ref (mmad k 36)), (1, .ref (mmad k 14))]) C dX0_plan_48 2 rfl (by rw [← ex14]; rfl) (by decide) rfl 51 rfl ?_
          refine mm_goto C dX0_plan_51 33 (by decide) ?_
          refine mm_lv [1, 2, 0] rfl ?_
          exact ih _ _ h
    refine mj1 h (fun (G15 : mmS) => mm_AW z k 3 (some (.int r)) F1 G15 54 [(0, .ref (mmad k 36))] []) ?_ ?_
    · intro G15 h
      refine mm_aload_n C dX0_plan_54 rfl 0 rfl 55 rfl ?_
      refine mm_get C fl_X0_11_X0 (by decide) (mc_36 k _) rfl dX0_plan_55 58 rfl ?_
      refine mm_iconst (v := (0 : Int32)) C dX0_plan_58 (by decide) 59 rfl ?_
      obtain ⟨q16, eq16, h⟩ := mb h
      refine mm_aald (t0 := 3) C (by decide) (mc_38 k _) rfl rfl eq16 dX0_plan_59 60 rfl ?_
      refine mm_aload_n C dX0_plan_60 rfl 0 rfl 61 rfl ?_
      refine mm_get C fl_X0_30_X0 (by decide) (mc_36 k _) rfl dX0_plan_61 64 rfl ?_
      refine mm_get C fl_X0_34_X3 (by decide) (mc_1 k _) rfl dX0_plan_64 67 rfl ?_
      refine mm_aload_n C dX0_plan_67 rfl 0 rfl 68 rfl ?_
      refine mm_get C fl_X0_30_X0 (by decide) (mc_36 k _) rfl dX0_plan_68 71 rfl ?_
      obtain ⟨x17, ex17, h⟩ := mb h
      refine mm_callV [] C (c_X3_startStanding_1 ex17) wb_X3_startStanding wv_X0_39 (by decide) (mc_1 k _) rfl rfl rfl (by omega) rfl (Nat.le_of_ble_eq_true rfl) dX0_plan_71 74 rfl ?_
      show mm_AW z k 3 (some (.int r)) F1 G15 74 [(0, .ref (mmad k 36))] [.int x17, .ref (mmad k 4), .ref (mmad k q16)]
      obtain ⟨x18, ex18, h⟩ := mb h
      refine mm_iald C ex18 dX0_plan_74 75 rfl ?_
      obtain ⟨x19, ex19, h⟩ := mb h
      refine mm_iald C ex19 dX0_plan_75 76 rfl ?_
      exact mm_iretW C (h) dX0_plan_76
    · intro K2 hR h
      exact hL33 K2 hR 300 _ _ h
  · intro K2 hR h
    exact hL2 K2 hR 300 _ _ h
def m_X11_best_0 (F : mmS)  : Option (Int32 × mmS) :=
  bd2 (m_X11_readRow_0 F) fun x1 G2 => if x1 = (0 : Int32) then (bd2 (m_X8_found_6 G2 (1 : Int32)) fun x5 G6 => some (x5, G6)) else (bd2 (m_X0_plan_36_14 G2) fun x3 G4 => some (x3, G4))
set_option maxHeartbeats 4000000 in
set_option maxRecDepth 100000 in
theorem c_X11_best_0 {l : Launch} {k : mmK} {F : mmS}  {r : Int32} {F1 : mmS} (h : m_X11_best_0 F = some (r, F1)) : mm_T l k yX11_best cX11_best 1 (some .int) 5 [.ref (mmad k 0)] F (some (.int r)) F1 := by
  refine mm_start [(0, .ref (mmad k 0))] (by decide) (Nat.le_of_ble_eq_true rfl) rfl ?_
  intro z hz C
  subst hz
  have C : mm_C z k RX11 cX11_best 1 (some .int) 5 := C
  replace h := mk0 h
  unfold m_X11_best_0 at h
  refine mm_aload_n C dX11_best_0 rfl 0 rfl 1 rfl ?_
  obtain ⟨x1, G2, ex1, h⟩ := mb2 h
  refine mm_callV [] C (c_X11_readRow_0 ex1) wb_X11_readRow wv_X11_120 (by decide) (mc_0 k _) rfl rfl rfl (by omega) rfl (Nat.le_of_ble_eq_true rfl) dX11_best_1 4 rfl ?_
  show mm_AW z k 1 (some (.int r)) F1 G2 4 [(0, .ref (mmad k 0))] [.int x1]
  refine mm_if_ne C dX11_best_4 16 7 (by decide) rfl (fun hc => ?_) (fun hc => ?_)
  · rw [if_neg hc] at h
    refine mm_aload_n C dX11_best_16 rfl 0 rfl 17 rfl ?_
    refine mm_get C fl_X11_65_X11 (by decide) (mc_0 k _) rfl dX11_best_17 20 rfl ?_
    refine mm_aload_n C dX11_best_20 rfl 0 rfl 21 rfl ?_
    refine mm_get C fl_X11_26_X11 (by decide) (mc_0 k _) rfl dX11_best_21 24 rfl ?_
    obtain ⟨x3, G4, ex3, h⟩ := mb2 h
    refine mm_callV [.ref (mmad k 14)] C (c_X0_plan_36_14 ex3) wb_X0_plan wv_X11_141 (by decide) (mc_36 k _) rfl rfl rfl (by omega) rfl (Nat.le_of_ble_eq_true rfl) dX11_best_24 27 rfl ?_
    show mm_AW z k 1 (some (.int r)) F1 G4 27 [(0, .ref (mmad k 0))] [.int x3]
    exact mm_iretW C (h) dX11_best_27
  · rw [if_pos hc] at h
    refine mm_aload_n C dX11_best_7 rfl 0 rfl 8 rfl ?_
    refine mm_get C fl_X11_19_X11 (by decide) (mc_0 k _) rfl dX11_best_8 11 rfl ?_
    refine mm_iconst (v := (1 : Int32)) C dX11_best_11 (by decide) 12 rfl ?_
    obtain ⟨x5, G6, ex5, h⟩ := mb2 h
    refine mm_callV [.int (1 : Int32)] C (c_X8_found_6 ex5) wb_X8_found wv_X11_124 (by decide) (mc_6 k _) rfl rfl rfl (by omega) rfl (Nat.le_of_ble_eq_true rfl) dX11_best_12 15 rfl ?_
    show mm_AW z k 1 (some (.int r)) F1 G6 15 [(0, .ref (mmad k 0))] [.int x5]
    exact mm_iretW C (h) dX11_best_15
def m_X7_standAtStart_36_L2 : Nat → Int32 → mmS → Option (mmS)
  | 0, _, _ => none
  | n3 + 1, v1, G2 => if (3 : Int32) ≤ v1 then (some ((G2))) else (Option.bind (ald G2 3 v1) fun x4 => Option.bind (ald G2 2 x4) fun x5 => Option.bind (ast G2 37 v1 x5) fun G6 => mlet (v1 + (1 : Int32)) fun x7 => m_X7_standAtStart_36_L2 n3 x7 G6)
def m_X7_standAtStart_36 (F : mmS)  : Option (mmS) :=
  bd1 (m_X7_standAtStart_36_L2 300 (0 : Int32) F) fun G8 => mlet (stF G8 36 2 (0 : Int32)) fun G9 => mlet (stF G9 36 3 (-1 : Int32)) fun G10 => some G10
set_option maxHeartbeats 4000000 in
set_option maxRecDepth 100000 in
theorem c_X7_standAtStart_36 {l : Launch} {k : mmK} {F : mmS}  {F1 : mmS} (h : m_X7_standAtStart_36 F = some F1) : mm_T l k yX7_standAtStart cX7_standAtStart 2 none 0 [.ref (mmad k 36)] F none F1 := by
  refine mm_start [(0, .ref (mmad k 36))] (by decide) (Nat.le_of_ble_eq_true rfl) rfl ?_
  intro z hz C
  subst hz
  have C : mm_C z k RX7 cX7_standAtStart 2 none 0 := C
  replace h := mk0 h
  unfold m_X7_standAtStart_36 at h
  refine mm_iconst (v := (0 : Int32)) C dX7_standAtStart_0 (by decide) 1 rfl ?_
  refine mm_istore_n (lv2 := [(1, .int (0 : Int32)), (0, .ref (mmad k 36))]) C dX7_standAtStart_1 rfl (by decide) rfl 2 rfl ?_
  refine mm_lv [1, 0] rfl ?_
  have hL2 : ∀ (K : (mmS) → Option (mmS)) (hK : ∀ (G2 : mmS) , K (G2) = some F1 → mm_AW z k 2 none F1 G2 36 [(0, .ref (mmad k 36))] []) (n3 : Nat) (v1 : Int32) (G2 : mmS) , (m_X7_standAtStart_36_L2 n3 v1 G2).bind K = some F1 → mm_AW z k 2 none F1 G2 2 [(0, .ref (mmad k 36)), (1, .int v1)] [] := by
    intro K hK n3
    induction n3 with
    | zero => intro v1 G2 h; rw [m_X7_standAtStart_36_L2] at h; cases h
    | succ n3 ih =>
      intro v1 G2 h
      rw [m_X7_standAtStart_36_L2] at h
      refine mm_iload_n C dX7_standAtStart_2 rfl 1 rfl 3 rfl ?_
      refine mm_iconst (v := (3 : Int32)) C dX7_standAtStart_3 (by decide) 4 rfl ?_
      refine mm_icmp_ge C dX7_standAtStart_4 36 7 (by decide) rfl (fun hc => ?_) (fun hc => ?_)
      · rw [if_pos hc] at h
        refine mm_lv [0] rfl ?_
        exact hK _ h
      · rw [if_neg hc] at h
        refine mm_aload_n C dX7_standAtStart_7 rfl 0 rfl 8 rfl ?_
        refine mm_get C fl_X7_9_X0 (by decide) (mc_36 k _) rfl dX7_standAtStart_8 11 rfl ?_
        refine mm_iload_n C dX7_standAtStart_11 rfl 1 rfl 12 rfl ?_
        refine mm_aload_n C dX7_standAtStart_12 rfl 0 rfl 13 rfl ?_
        refine mm_get C fl_X7_19_X0 (by decide) (mc_36 k _) rfl dX7_standAtStart_13 16 rfl ?_
        refine mm_get C fl_X7_26_X3 (by decide) (mc_1 k _) rfl dX7_standAtStart_16 19 rfl ?_
        refine mm_aload_n C dX7_standAtStart_19 rfl 0 rfl 20 rfl ?_
        refine mm_get C fl_X7_19_X0 (by decide) (mc_36 k _) rfl dX7_standAtStart_20 23 rfl ?_
        refine mm_get C fl_X7_31_X3 (by decide) (mc_1 k _) rfl dX7_standAtStart_23 26 rfl ?_
        refine mm_iload_n C dX7_standAtStart_26 rfl 1 rfl 27 rfl ?_
        obtain ⟨x4, ex4, h⟩ := mb h
        refine mm_iald C ex4 dX7_standAtStart_27 28 rfl ?_
        obtain ⟨x5, ex5, h⟩ := mb h
        refine mm_iald C ex5 dX7_standAtStart_28 29 rfl ?_
        obtain ⟨G6, eG6, h⟩ := mb h
        refine mm_iast C eG6 dX7_standAtStart_29 30 rfl ?_
        obtain ⟨x7, ex7, h⟩ := me h
        refine mm_iinc (v := x7) (lv2 := [(1, .int x7), (0, .ref (mmad k 36))]) C dX7_standAtStart_30 1 rfl (by rw [← ex7]; rfl) (by decide) rfl 33 rfl ?_
        refine mm_goto C dX7_standAtStart_33 2 (by decide) ?_
        refine mm_lv [1, 0] rfl ?_
        exact ih _ _ h
  refine mj1 h (fun (G8 : mmS) => mm_AW z k 2 none F1 G8 36 [(0, .ref (mmad k 36))] []) ?_ ?_
  · intro G8 h
    refine mm_aload_n C dX7_standAtStart_36 rfl 0 rfl 37 rfl ?_
    refine mm_iconst (v := (0 : Int32)) C dX7_standAtStart_37 (by decide) 38 rfl ?_
    obtain ⟨G9, eG9, h⟩ := me h
    refine mm_put (x := (0 : Int32)) (ty := .int) C fl_X7_34_X0 (by decide) (mc_36 k _) (mc_36 k _) tyX0 tyX0_ok nmX0 rfl (by decide +kernel) rfl rfl (Nat.le_of_ble_eq_true rfl) eG9 dX7_standAtStart_38 41 rfl ?_
    refine mm_aload_n C dX7_standAtStart_41 rfl 0 rfl 42 rfl ?_
    refine mm_iconst (v := (-1 : Int32)) C dX7_standAtStart_42 (by decide) 43 rfl ?_
    obtain ⟨G10, eG10, h⟩ := me h
    refine mm_put (x := (-1 : Int32)) (ty := .int) C fl_X7_15_X0 (by decide) (mc_36 k _) (mc_36 k _) tyX0 tyX0_ok nmX0 rfl (by decide +kernel) rfl rfl (Nat.le_of_ble_eq_true rfl) eG10 dX7_standAtStart_43 46 rfl ?_
    exact mm_vretW C (h) dX7_standAtStart_46
  · intro K2 hR h
    exact hL2 K2 hR 300 _ _ h
def m_X0_standAtStart_36 (F : mmS)  : Option (mmS) :=
  Option.bind (m_X7_standAtStart_36 F) fun G1 => Option.bind (m_X3_startStanding_1 G1) fun x2 => mlet (stF G1 36 6 x2) fun G3 => mlet (stF G3 36 7 (0 : Int32)) fun G4 => some G4
set_option maxHeartbeats 4000000 in
set_option maxRecDepth 100000 in
theorem c_X0_standAtStart_36 {l : Launch} {k : mmK} {F : mmS}  {F1 : mmS} (h : m_X0_standAtStart_36 F = some F1) : mm_T l k yX0_standAtStart cX0_standAtStart 1 none 3 [.ref (mmad k 36)] F none F1 := by
  refine mm_start [(0, .ref (mmad k 36))] (by decide) (Nat.le_of_ble_eq_true rfl) rfl ?_
  intro z hz C
  subst hz
  have C : mm_C z k RX0 cX0_standAtStart 1 none 3 := C
  replace h := mk0 h
  unfold m_X0_standAtStart_36 at h
  refine mm_aload_n C dX0_standAtStart_0 rfl 0 rfl 1 rfl ?_
  obtain ⟨G1, eG1, h⟩ := mb h
  refine mm_callP [] C (c_X7_standAtStart_36 eG1) wb_X7_standAtStart wp_X0_66 (by decide) (mc_36 k _) rfl rfl (by omega) rfl (Nat.le_of_ble_eq_true rfl) dX0_standAtStart_1 4 rfl ?_
  show mm_AW z k 1 none F1 G1 4 [(0, .ref (mmad k 36))] []
  refine mm_aload_n C dX0_standAtStart_4 rfl 0 rfl 5 rfl ?_
  refine mm_aload_n C dX0_standAtStart_5 rfl 0 rfl 6 rfl ?_
  refine mm_get C fl_X0_30_X0 (by decide) (mc_36 k _) rfl dX0_standAtStart_6 9 rfl ?_
  obtain ⟨x2, ex2, h⟩ := mb h
  refine mm_callV [] C (c_X3_startStanding_1 ex2) wb_X3_startStanding wv_X0_39 (by decide) (mc_1 k _) rfl rfl rfl (by omega) rfl (Nat.le_of_ble_eq_true rfl) dX0_standAtStart_9 12 rfl ?_
  show mm_AW z k 1 none F1 G1 12 [(0, .ref (mmad k 36))] [.int x2, .ref (mmad k 36)]
  obtain ⟨G3, eG3, h⟩ := me h
  refine mm_put (x := x2) (ty := .int) C fl_X0_70_X0 (by decide) (mc_36 k _) (mc_36 k _) tyX0 tyX0_ok nmX0 rfl (by decide +kernel) rfl rfl (Nat.le_of_ble_eq_true rfl) eG3 dX0_standAtStart_12 15 rfl ?_
  refine mm_aload_n C dX0_standAtStart_15 rfl 0 rfl 16 rfl ?_
  refine mm_iconst (v := (0 : Int32)) C dX0_standAtStart_16 (by decide) 17 rfl ?_
  obtain ⟨G4, eG4, h⟩ := me h
  refine mm_put (x := (0 : Int32)) (ty := .int) C fl_X0_73_X0 (by decide) (mc_36 k _) (mc_36 k _) tyX0 tyX0_ok nmX0 rfl (by decide +kernel) rfl rfl (Nat.le_of_ble_eq_true rfl) eG4 dX0_standAtStart_17 20 rfl ?_
  exact mm_vretW C (h) dX0_standAtStart_20
def m_X7_begin_36 (F : mmS)  : Option (mmS) :=
  Option.bind (m_X0_standAtStart_36 F) fun G1 => some G1
set_option maxHeartbeats 4000000 in
set_option maxRecDepth 100000 in
theorem c_X7_begin_36 {l : Launch} {k : mmK} {F : mmS}  {F1 : mmS} (h : m_X7_begin_36 F = some F1) : mm_T l k yX7_begin cX7_begin 1 none 4 [.ref (mmad k 36)] F none F1 := by
  refine mm_start [(0, .ref (mmad k 36))] (by decide) (Nat.le_of_ble_eq_true rfl) rfl ?_
  intro z hz C
  subst hz
  have C : mm_C z k RX7 cX7_begin 1 none 4 := C
  replace h := mk0 h
  unfold m_X7_begin_36 at h
  refine mm_aload_n C dX7_begin_0 rfl 0 rfl 1 rfl ?_
  obtain ⟨G1, eG1, h⟩ := mb h
  refine mm_callU [] C (c_X0_standAtStart_36 eG1) wb_X0_standAtStart wu_X7_23_X0 (fun s hN => hN.2.1) (by decide) (mc_36 k _) rfl rfl (by omega) rfl (Nat.le_of_ble_eq_true rfl) dX7_begin_1 4 rfl ?_
  show mm_AW z k 1 none F1 G1 4 [(0, .ref (mmad k 36))] []
  exact mm_vretW C (h) dX7_begin_4
def m_X7_send_36 (F : mmS) (a1 : Int32) (a2 : Int32) : Option (mmS) :=
  Option.bind (ald F 37 a1) fun x1 => mlet (stF F 36 2 ((F 36 2) + (mabs (x1 - a2)))) fun G2 => Option.bind (ast G2 37 a1 a2) fun G3 => mlet (stF G3 36 3 a1) fun G4 => some G4
set_option maxHeartbeats 4000000 in
set_option maxRecDepth 100000 in
theorem c_X7_send_36 {l : Launch} {k : mmK} {F : mmS} {a1 : Int32} {a2 : Int32} {F1 : mmS} (h : m_X7_send_36 F a1 a2 = some F1) : mm_T l k yX7_send cX7_send 3 none 1 [.ref (mmad k 36), .int a1, .int a2] F none F1 := by
  refine mm_start [(0, .ref (mmad k 36)), (1, .int a1), (2, .int a2)] (by decide) (Nat.le_of_ble_eq_true rfl) rfl ?_
  intro z hz C
  subst hz
  have C : mm_C z k RX7 cX7_send 3 none 1 := C
  replace h := mk0 h
  unfold m_X7_send_36 at h
  refine mm_aload_n C dX7_send_0 rfl 0 rfl 1 rfl ?_
  refine mm_dup C dX7_send_1 rfl 2 rfl ?_
  refine mm_get C fl_X7_34_X0 (by decide) (mc_36 k _) rfl dX7_send_2 5 rfl ?_
  refine mm_aload_n C dX7_send_5 rfl 0 rfl 6 rfl ?_
  refine mm_get C fl_X7_9_X0 (by decide) (mc_36 k _) rfl dX7_send_6 9 rfl ?_
  refine mm_iload_n C dX7_send_9 rfl 1 rfl 10 rfl ?_
  obtain ⟨x1, ex1, h⟩ := mb h
  refine mm_iald C ex1 dX7_send_10 11 rfl ?_
  refine mm_iload_n C dX7_send_11 rfl 2 rfl 12 rfl ?_
  refine mm_isub C dX7_send_12 13 rfl ?_
  refine mm_abs C mw_599 mw_552 mw_62 mw_553 (by omega) (Nat.le_trans (Nat.le_of_ble_eq_true rfl : _ ≤ 40) (by omega)) dX7_send_13 16 rfl ?_
  refine mm_iadd C dX7_send_16 17 rfl ?_
  obtain ⟨G2, eG2, h⟩ := me h
  refine mm_put (x := ((F 36 2) + (mabs (x1 - a2)))) (ty := .int) C fl_X7_34_X0 (by decide) (mc_36 k _) (mc_36 k _) tyX0 tyX0_ok nmX0 rfl (by decide +kernel) rfl rfl (Nat.le_of_ble_eq_true rfl) eG2 dX7_send_17 20 rfl ?_
  refine mm_aload_n C dX7_send_20 rfl 0 rfl 21 rfl ?_
  refine mm_get C fl_X7_9_X0 (by decide) (mc_36 k _) rfl dX7_send_21 24 rfl ?_
  refine mm_iload_n C dX7_send_24 rfl 1 rfl 25 rfl ?_
  refine mm_iload_n C dX7_send_25 rfl 2 rfl 26 rfl ?_
  obtain ⟨G3, eG3, h⟩ := mb h
  refine mm_iast C eG3 dX7_send_26 27 rfl ?_
  refine mm_aload_n C dX7_send_27 rfl 0 rfl 28 rfl ?_
  refine mm_iload_n C dX7_send_28 rfl 1 rfl 29 rfl ?_
  obtain ⟨G4, eG4, h⟩ := me h
  refine mm_put (x := a1) (ty := .int) C fl_X7_15_X0 (by decide) (mc_36 k _) (mc_36 k _) tyX0 tyX0_ok nmX0 rfl (by decide +kernel) rfl rfl (Nat.le_of_ble_eq_true rfl) eG4 dX7_send_29 32 rfl ?_
  exact mm_vretW C (h) dX7_send_32
def m_X0_meet_36 (F : mmS) (a1 : Int32) (a2 : Int32) : Option (mmS) :=
  if (F 36 7) < (40 : Int32) then (bd2 (m_X0_chosen_36 F (F 36 7) (F 36 6) a1) fun x1 G2 => Option.bind (ald G2 2 a1) fun x3 => Option.bind (m_X7_send_36 G2 x1 x3) fun G4 => Option.bind (m_X3_moved (G4 36 6) x1 a1) fun x5 => mlet (stF G4 36 6 x5) fun G6 => mlet (stF G6 36 7 ((G6 36 7) + (1 : Int32))) fun G7 => some G7) else (some F)
set_option maxHeartbeats 4000000 in
set_option maxRecDepth 100000 in
theorem c_X0_meet_36 {l : Launch} {k : mmK} {F : mmS} {a1 : Int32} {a2 : Int32} {F1 : mmS} (h : m_X0_meet_36 F a1 a2 = some F1) : mm_T l k yX0_meet cX0_meet 4 none 3 [.ref (mmad k 36), .int a1, .int a2] F none F1 := by
  refine mm_start [(0, .ref (mmad k 36)), (1, .int a1), (2, .int a2)] (by decide) (Nat.le_of_ble_eq_true rfl) rfl ?_
  intro z hz C
  subst hz
  have C : mm_C z k RX0 cX0_meet 4 none 3 := C
  replace h := mk0 h
  unfold m_X0_meet_36 at h
  refine mm_aload_n C dX0_meet_0 rfl 0 rfl 1 rfl ?_
  refine mm_get C fl_X0_73_X0 (by decide) (mc_36 k _) rfl dX0_meet_1 4 rfl ?_
  refine mm_bipush (v := (40 : Int32)) C dX0_meet_4 (by decide) 6 rfl ?_
  refine mm_icmp_lt C dX0_meet_6 10 9 (by decide) rfl (fun hc => ?_) (fun hc => ?_)
  · rw [if_pos hc] at h
    refine mm_aload_n C dX0_meet_10 rfl 0 rfl 11 rfl ?_
    refine mm_aload_n C dX0_meet_11 rfl 0 rfl 12 rfl ?_
    refine mm_get C fl_X0_73_X0 (by decide) (mc_36 k _) rfl dX0_meet_12 15 rfl ?_
    refine mm_aload_n C dX0_meet_15 rfl 0 rfl 16 rfl ?_
    refine mm_get C fl_X0_70_X0 (by decide) (mc_36 k _) rfl dX0_meet_16 19 rfl ?_
    refine mm_iload_n C dX0_meet_19 rfl 1 rfl 20 rfl ?_
    obtain ⟨x1, G2, ex1, h⟩ := mb2 h
    refine mm_callV [.int (F 36 7), .int (F 36 6), .int a1] C (c_X0_chosen_36 ex1) wb_X0_chosen wv_X0_49 (by decide) (mc_36 k _) rfl rfl rfl (by omega) rfl (Nat.le_of_ble_eq_true rfl) dX0_meet_20 23 rfl ?_
    show mm_AW z k 4 none F1 G2 23 [(0, .ref (mmad k 36)), (1, .int a1), (2, .int a2)] [.int x1]
    refine mm_istore_n (lv2 := [(3, .int x1), (0, .ref (mmad k 36)), (1, .int a1), (2, .int a2)]) C dX0_meet_23 rfl (by decide) rfl 24 rfl ?_
    refine mm_aload_n C dX0_meet_24 rfl 1 rfl 25 rfl ?_
    refine mm_iload_n C dX0_meet_25 rfl 0 rfl 26 rfl ?_
    refine mm_aload_n C dX0_meet_26 rfl 1 rfl 27 rfl ?_
    refine mm_get C fl_X0_30_X0 (by decide) (mc_36 k _) rfl dX0_meet_27 30 rfl ?_
    refine mm_get C fl_X0_76_X3 (by decide) (mc_1 k _) rfl dX0_meet_30 33 rfl ?_
    refine mm_iload_n C dX0_meet_33 rfl 2 rfl 34 rfl ?_
    obtain ⟨x3, ex3, h⟩ := mb h
    refine mm_iald C ex3 dX0_meet_34 35 rfl ?_
    obtain ⟨G4, eG4, h⟩ := mb h
    refine mm_callU [.int x1, .int x3] C (c_X7_send_36 eG4) wb_X7_send wu_X0_79_X0 (fun s hN => hN.2.2.2.1) (by decide) (mc_36 k _) rfl rfl (by omega) rfl (Nat.le_of_ble_eq_true rfl) dX0_meet_35 38 rfl ?_
    show mm_AW z k 4 none F1 G4 38 [(3, .int x1), (0, .ref (mmad k 36)), (1, .int a1), (2, .int a2)] []
    refine mm_aload_n C dX0_meet_38 rfl 1 rfl 39 rfl ?_
    refine mm_aload_n C dX0_meet_39 rfl 1 rfl 40 rfl ?_
    refine mm_get C fl_X0_70_X0 (by decide) (mc_36 k _) rfl dX0_meet_40 43 rfl ?_
    refine mm_iload_n C dX0_meet_43 rfl 0 rfl 44 rfl ?_
    refine mm_iload_n C dX0_meet_44 rfl 2 rfl 45 rfl ?_
    obtain ⟨x5, ex5, h⟩ := mb h
    refine mm_callS [.int (G4 36 6), .int x1, .int a1] C (c_X3_moved ex5) wb_X3_moved ws_X0_60 rfl (by omega) rfl (Nat.le_of_ble_eq_true rfl) dX0_meet_45 48 rfl ?_
    show mm_AW z k 4 none F1 G4 48 [(3, .int x1), (0, .ref (mmad k 36)), (1, .int a1), (2, .int a2)] [.int x5, .ref (mmad k 36)]
    obtain ⟨G6, eG6, h⟩ := me h
    refine mm_put (x := x5) (ty := .int) C fl_X0_70_X0 (by decide) (mc_36 k _) (mc_36 k _) tyX0 tyX0_ok nmX0 rfl (by decide +kernel) rfl rfl (Nat.le_of_ble_eq_true rfl) eG6 dX0_meet_48 51 rfl ?_
    refine mm_aload_n C dX0_meet_51 rfl 1 rfl 52 rfl ?_
    refine mm_dup C dX0_meet_52 rfl 53 rfl ?_
    refine mm_get C fl_X0_73_X0 (by decide) (mc_36 k _) rfl dX0_meet_53 56 rfl ?_
    refine mm_iconst (v := (1 : Int32)) C dX0_meet_56 (by decide) 57 rfl ?_
    refine mm_iadd C dX0_meet_57 58 rfl ?_
    obtain ⟨G7, eG7, h⟩ := me h
    refine mm_put (x := ((G6 36 7) + (1 : Int32))) (ty := .int) C fl_X0_73_X0 (by decide) (mc_36 k _) (mc_36 k _) tyX0 tyX0_ok nmX0 rfl (by decide +kernel) rfl rfl (Nat.le_of_ble_eq_true rfl) eG7 dX0_meet_58 61 rfl ?_
    exact mm_vretW C (h) dX0_meet_61
  · rw [if_neg hc] at h
    exact mm_vretW C (h) dX0_meet_9
def m_X6_lead_14_36_L16 (x1 : Int32) : Nat → Int32 → mmS → Option (mmS)
  | 0, _, _ => none
  | n5 + 1, v3, G4 => if x1 ≤ v3 then (some ((G4))) else (Option.bind (ald G4 15 v3) fun x6 => Option.bind (ald G4 16 v3) fun x7 => Option.bind (m_X0_meet_36 G4 x6 x7) fun G8 => mlet (v3 + (1 : Int32)) fun x9 => m_X6_lead_14_36_L16 x1 n5 x9 G8)
def m_X6_lead_14_36 (F : mmS) (a2 : Int32) : Option (Int32 × mmS) :=
  mlet (mmin a2 (F 14 2)) fun x1 => Option.bind (m_X7_begin_36 F) fun G2 => bd1 (m_X6_lead_14_36_L16 x1 300 (0 : Int32) G2) fun G10 => some ((G10 36 2), G10)
set_option maxHeartbeats 4000000 in
set_option maxRecDepth 100000 in
theorem c_X6_lead_14_36 {l : Launch} {k : mmK} {F : mmS} {a2 : Int32} {r : Int32} {F1 : mmS} (h : m_X6_lead_14_36 F a2 = some (r, F1)) : mm_T l k yX6_lead cX6_lead 5 (some .int) 5 [.ref (mmad k 14), .ref (mmad k 36), .int a2] F (some (.int r)) F1 := by
  refine mm_start [(0, .ref (mmad k 14)), (1, .ref (mmad k 36)), (2, .int a2)] (by decide) (Nat.le_of_ble_eq_true rfl) rfl ?_
  intro z hz C
  subst hz
  have C : mm_C z k RX6 cX6_lead 5 (some .int) 5 := C
  replace h := mk0 h
  unfold m_X6_lead_14_36 at h
  refine mm_iload_n C dX6_lead_0 rfl 2 rfl 1 rfl ?_
  refine mm_aload_n C dX6_lead_1 rfl 0 rfl 2 rfl ?_
  refine mm_get C fl_X6_18_X6 (by decide) (mc_14 k _) rfl dX6_lead_2 5 rfl ?_
  refine mm_min C mw_516 mw_517 mw_62 mw_518 (by omega) (Nat.le_trans (Nat.le_of_ble_eq_true rfl : _ ≤ 40) (by omega)) dX6_lead_5 8 rfl ?_
  obtain ⟨x1, ex1, h⟩ := me h
  refine mm_top ex1 ?_
  refine mm_istore_n (lv2 := [(3, .int x1), (0, .ref (mmad k 14)), (1, .ref (mmad k 36)), (2, .int a2)]) C dX6_lead_8 rfl (by decide) rfl 9 rfl ?_
  refine mm_aload_n C dX6_lead_9 rfl 2 rfl 10 rfl ?_
  obtain ⟨G2, eG2, h⟩ := mb h
  refine mm_callU [] C (c_X7_begin_36 eG2) wb_X7_begin wu_X6_57_X0 (fun s hN => hN.2.2.2.2) (by decide) (mc_36 k _) rfl rfl (by omega) rfl (Nat.le_of_ble_eq_true rfl) dX6_lead_10 13 rfl ?_
  show mm_AW z k 5 (some (.int r)) F1 G2 13 [(3, .int x1), (0, .ref (mmad k 14)), (1, .ref (mmad k 36)), (2, .int a2)] []
  refine mm_iconst (v := (0 : Int32)) C dX6_lead_13 (by decide) 14 rfl ?_
  refine mm_istore (lv2 := [(4, .int (0 : Int32)), (3, .int x1), (0, .ref (mmad k 14)), (1, .ref (mmad k 36)), (2, .int a2)]) C dX6_lead_14 (by decide) rfl 16 rfl ?_
  refine mm_lv [2, 3, 1, 0] rfl ?_
  have hL16 : ∀ (K : (mmS) → Option (Int32 × mmS)) (hK : ∀ (G4 : mmS) , K (G4) = some (r, F1) → mm_AW z k 5 (some (.int r)) F1 G4 46 [(1, .ref (mmad k 36))] []) (n5 : Nat) (v3 : Int32) (G4 : mmS) , (m_X6_lead_14_36_L16 x1 n5 v3 G4).bind K = some (r, F1) → mm_AW z k 5 (some (.int r)) F1 G4 16 [(0, .ref (mmad k 14)), (1, .ref (mmad k 36)), (3, .int x1), (4, .int v3)] [] := by
    intro K hK n5
    induction n5 with
    | zero => intro v3 G4 h; rw [m_X6_lead_14_36_L16] at h; cases h
    | succ n5 ih =>
      intro v3 G4 h
      rw [m_X6_lead_14_36_L16] at h
      refine mm_iload C dX6_lead_16 3 rfl 18 rfl ?_
      refine mm_iload_n C dX6_lead_18 rfl 2 rfl 19 rfl ?_
      refine mm_icmp_ge C dX6_lead_19 46 22 (by decide) rfl (fun hc => ?_) (fun hc => ?_)
      · rw [if_pos hc] at h
        refine mm_lv [1] rfl ?_
        exact hK _ h
      · rw [if_neg hc] at h
        refine mm_aload_n C dX6_lead_22 rfl 1 rfl 23 rfl ?_
        refine mm_aload_n C dX6_lead_23 rfl 0 rfl 24 rfl ?_
        refine mm_get C fl_X6_9_X6 (by decide) (mc_14 k _) rfl dX6_lead_24 27 rfl ?_
        refine mm_iload C dX6_lead_27 3 rfl 29 rfl ?_
        obtain ⟨x6, ex6, h⟩ := mb h
        refine mm_iald C ex6 dX6_lead_29 30 rfl ?_
        refine mm_aload_n C dX6_lead_30 rfl 0 rfl 31 rfl ?_
        refine mm_get C fl_X6_15_X6 (by decide) (mc_14 k _) rfl dX6_lead_31 34 rfl ?_
        refine mm_iload C dX6_lead_34 3 rfl 36 rfl ?_
        obtain ⟨x7, ex7, h⟩ := mb h
        refine mm_iald C ex7 dX6_lead_36 37 rfl ?_
        obtain ⟨G8, eG8, h⟩ := mb h
        refine mm_callU [.int x6, .int x7] C (c_X0_meet_36 eG8) wb_X0_meet wu_X6_62_X0 (fun s hN => hN.2.2.1) (by decide) (mc_36 k _) rfl rfl (by omega) rfl (Nat.le_of_ble_eq_true rfl) dX6_lead_37 40 rfl ?_
        show mm_AW z k 5 (some (.int r)) F1 G8 40 [(0, .ref (mmad k 14)), (1, .ref (mmad k 36)), (3, .int x1), (4, .int v3)] []
        obtain ⟨x9, ex9, h⟩ := me h
        refine mm_iinc (v := x9) (lv2 := [(4, .int x9), (0, .ref (mmad k 14)), (1, .ref (mmad k 36)), (3, .int x1)]) C dX6_lead_40 3 rfl (by rw [← ex9]; rfl) (by decide) rfl 43 rfl ?_
        refine mm_goto C dX6_lead_43 16 (by decide) ?_
        refine mm_lv [1, 2, 3, 0] rfl ?_
        exact ih _ _ h
  refine mj1 h (fun (G10 : mmS) => mm_AW z k 5 (some (.int r)) F1 G10 46 [(1, .ref (mmad k 36))] []) ?_ ?_
  · intro G10 h
    refine mm_aload_n C dX6_lead_46 rfl 0 rfl 47 rfl ?_
    refine mm_get C fl_X6_66_X0 (by decide) (mc_36 k _) rfl dX6_lead_47 50 rfl ?_
    exact mm_iretW C (h) dX6_lead_50
  · intro K2 hR h
    exact hL16 K2 hR 300 _ _ h
def m_X11_sentAt_0_36 (F : mmS) (a2 : Int32) : Option (Int32 × mmS) :=
  if a2 < (F 14 2) then (bd2 (m_X6_lead_14_36 F (a2 + (1 : Int32))) fun x1 G2 => some ((G2 36 3), G2)) else (some ((-1 : Int32), F))
set_option maxHeartbeats 4000000 in
set_option maxRecDepth 100000 in
theorem c_X11_sentAt_0_36 {l : Launch} {k : mmK} {F : mmS} {a2 : Int32} {r : Int32} {F1 : mmS} (h : m_X11_sentAt_0_36 F a2 = some (r, F1)) : mm_T l k yX11_sentAt cX11_sentAt 3 (some .int) 6 [.ref (mmad k 0), .ref (mmad k 36), .int a2] F (some (.int r)) F1 := by
  refine mm_start [(0, .ref (mmad k 0)), (1, .ref (mmad k 36)), (2, .int a2)] (by decide) (Nat.le_of_ble_eq_true rfl) rfl ?_
  intro z hz C
  subst hz
  have C : mm_C z k RX11 cX11_sentAt 3 (some .int) 6 := C
  replace h := mk0 h
  unfold m_X11_sentAt_0_36 at h
  refine mm_iload_n C dX11_sentAt_0 rfl 2 rfl 1 rfl ?_
  refine mm_aload_n C dX11_sentAt_1 rfl 0 rfl 2 rfl ?_
  refine mm_get C fl_X11_26_X11 (by decide) (mc_0 k _) rfl dX11_sentAt_2 5 rfl ?_
  refine mm_get C fl_X11_128_X6 (by decide) (mc_14 k _) rfl dX11_sentAt_5 8 rfl ?_
  refine mm_icmp_lt C dX11_sentAt_8 13 11 (by decide) rfl (fun hc => ?_) (fun hc => ?_)
  · rw [if_pos hc] at h
    refine mm_aload_n C dX11_sentAt_13 rfl 0 rfl 14 rfl ?_
    refine mm_get C fl_X11_26_X11 (by decide) (mc_0 k _) rfl dX11_sentAt_14 17 rfl ?_
    refine mm_aload_n C dX11_sentAt_17 rfl 1 rfl 18 rfl ?_
    refine mm_iload_n C dX11_sentAt_18 rfl 2 rfl 19 rfl ?_
    refine mm_iconst (v := (1 : Int32)) C dX11_sentAt_19 (by decide) 20 rfl ?_
    refine mm_iadd C dX11_sentAt_20 21 rfl ?_
    obtain ⟨x1, G2, ex1, h⟩ := mb2 h
    refine mm_callV [.ref (mmad k 36), .int (a2 + (1 : Int32))] C (c_X6_lead_14_36 ex1) wb_X6_lead wv_X11_131 (by decide) (mc_14 k _) rfl rfl rfl (by omega) rfl (Nat.le_of_ble_eq_true rfl) dX11_sentAt_21 24 rfl ?_
    show mm_AW z k 3 (some (.int r)) F1 G2 24 [(0, .ref (mmad k 0)), (1, .ref (mmad k 36)), (2, .int a2)] [.int x1]
    refine mm_pop C dX11_sentAt_24 rfl 25 rfl ?_
    refine mm_aload_n C dX11_sentAt_25 rfl 1 rfl 26 rfl ?_
    refine mm_get C fl_X11_257_X0 (by decide) (mc_36 k _) rfl dX11_sentAt_26 29 rfl ?_
    exact mm_iretW C (h) dX11_sentAt_29
  · rw [if_neg hc] at h
    refine mm_iconst (v := (-1 : Int32)) C dX11_sentAt_11 (by decide) 12 rfl ?_
    exact mm_iretW C (h) dX11_sentAt_12
def m_X11_way_0 (F : mmS) (a1 : Int32) : Option (Int32 × mmS) :=
  Option.bind (m_X11_isWithin a1 (0 : Int32) (39 : Int32)) fun x1 => if x1 = (0 : Int32) then (some ((-2 : Int32), F)) else (bd2 (m_X11_readRow_0 F) fun x2 G3 => if x2 = (0 : Int32) then (bd2 (m_X8_found_6 G3 (1 : Int32)) fun x8 G9 => some (x8, G9)) else (bd2 (m_X0_plan_36_14 G3) fun x4 G5 => bd2 (m_X11_sentAt_0_36 G5 a1) fun x6 G7 => some (x6, G7)))
set_option maxHeartbeats 4000000 in
set_option maxRecDepth 100000 in
theorem c_X11_way_0 {l : Launch} {k : mmK} {F : mmS} {a1 : Int32} {r : Int32} {F1 : mmS} (h : m_X11_way_0 F a1 = some (r, F1)) : mm_T l k yX11_way cX11_way 2 (some .int) 7 [.ref (mmad k 0), .int a1] F (some (.int r)) F1 := by
  refine mm_start [(0, .ref (mmad k 0)), (1, .int a1)] (by decide) (Nat.le_of_ble_eq_true rfl) rfl ?_
  intro z hz C
  subst hz
  have C : mm_C z k RX11 cX11_way 2 (some .int) 7 := C
  replace h := mk0 h
  unfold m_X11_way_0 at h
  refine mm_iload_n C dX11_way_0 rfl 1 rfl 1 rfl ?_
  refine mm_iconst (v := (0 : Int32)) C dX11_way_1 (by decide) 2 rfl ?_
  refine mm_bipush (v := (39 : Int32)) C dX11_way_2 (by decide) 4 rfl ?_
  obtain ⟨x1, ex1, h⟩ := mb h
  refine mm_callS [.int a1, .int (0 : Int32), .int (39 : Int32)] C (c_X11_isWithin ex1) wb_X11_isWithin ws_X11_85 rfl (by omega) rfl (Nat.le_of_ble_eq_true rfl) dX11_way_4 7 rfl ?_
  show mm_AW z k 2 (some (.int r)) F1 F 7 [(0, .ref (mmad k 0)), (1, .int a1)] [.int x1]
  refine mm_if_ne C dX11_way_7 13 10 (by decide) rfl (fun hc => ?_) (fun hc => ?_)
  · rw [if_neg hc] at h
    refine mm_aload_n C dX11_way_13 rfl 0 rfl 14 rfl ?_
    obtain ⟨x2, G3, ex2, h⟩ := mb2 h
    refine mm_callV [] C (c_X11_readRow_0 ex2) wb_X11_readRow wv_X11_120 (by decide) (mc_0 k _) rfl rfl rfl (by omega) rfl (Nat.le_of_ble_eq_true rfl) dX11_way_14 17 rfl ?_
    show mm_AW z k 2 (some (.int r)) F1 G3 17 [(0, .ref (mmad k 0)), (1, .int a1)] [.int x2]
    refine mm_if_ne C dX11_way_17 29 20 (by decide) rfl (fun hc => ?_) (fun hc => ?_)
    · rw [if_neg hc] at h
      refine mm_aload_n C dX11_way_29 rfl 0 rfl 30 rfl ?_
      refine mm_get C fl_X11_65_X11 (by decide) (mc_0 k _) rfl dX11_way_30 33 rfl ?_
      refine mm_aload_n C dX11_way_33 rfl 0 rfl 34 rfl ?_
      refine mm_get C fl_X11_26_X11 (by decide) (mc_0 k _) rfl dX11_way_34 37 rfl ?_
      obtain ⟨x4, G5, ex4, h⟩ := mb2 h
      refine mm_callV [.ref (mmad k 14)] C (c_X0_plan_36_14 ex4) wb_X0_plan wv_X11_141 (by decide) (mc_36 k _) rfl rfl rfl (by omega) rfl (Nat.le_of_ble_eq_true rfl) dX11_way_37 40 rfl ?_
      show mm_AW z k 2 (some (.int r)) F1 G5 40 [(0, .ref (mmad k 0)), (1, .int a1)] [.int x4]
      refine mm_pop C dX11_way_40 rfl 41 rfl ?_
      refine mm_aload_n C dX11_way_41 rfl 0 rfl 42 rfl ?_
      refine mm_aload_n C dX11_way_42 rfl 0 rfl 43 rfl ?_
      refine mm_get C fl_X11_65_X11 (by decide) (mc_0 k _) rfl dX11_way_43 46 rfl ?_
      refine mm_iload_n C dX11_way_46 rfl 1 rfl 47 rfl ?_
      obtain ⟨x6, G7, ex6, h⟩ := mb2 h
      refine mm_callV [.ref (mmad k 36), .int a1] C (c_X11_sentAt_0_36 ex6) wb_X11_sentAt wv_X11_138 (by decide) (mc_0 k _) rfl rfl rfl (by omega) rfl (Nat.le_of_ble_eq_true rfl) dX11_way_47 50 rfl ?_
      show mm_AW z k 2 (some (.int r)) F1 G7 50 [(0, .ref (mmad k 0)), (1, .int a1)] [.int x6]
      exact mm_iretW C (h) dX11_way_50
    · rw [if_pos hc] at h
      refine mm_aload_n C dX11_way_20 rfl 0 rfl 21 rfl ?_
      refine mm_get C fl_X11_19_X11 (by decide) (mc_0 k _) rfl dX11_way_21 24 rfl ?_
      refine mm_iconst (v := (1 : Int32)) C dX11_way_24 (by decide) 25 rfl ?_
      obtain ⟨x8, G9, ex8, h⟩ := mb2 h
      refine mm_callV [.int (1 : Int32)] C (c_X8_found_6 ex8) wb_X8_found wv_X11_124 (by decide) (mc_6 k _) rfl rfl rfl (by omega) rfl (Nat.le_of_ble_eq_true rfl) dX11_way_25 28 rfl ?_
      show mm_AW z k 2 (some (.int r)) F1 G9 28 [(0, .ref (mmad k 0)), (1, .int a1)] [.int x8]
      exact mm_iretW C (h) dX11_way_28
  · rw [if_pos hc] at h
    refine mm_bipush (v := (-2 : Int32)) C dX11_way_10 (by decide) 12 rfl ?_
    exact mm_iretW C (h) dX11_way_12
def m_X11_hundredths (a0 : Int32) (a1 : Int32) : Option (Int32) :=
  if a1 ≤ (0 : Int32) then (some (-3 : Int32)) else (Option.bind (mdiv (a0 * (100 : Int32)) a1) fun x1 => some x1)
set_option maxHeartbeats 4000000 in
set_option maxRecDepth 100000 in
theorem c_X11_hundredths {l : Launch} {k : mmK} {F : mmS} {a0 : Int32} {a1 : Int32} {r : Int32} (h : m_X11_hundredths a0 a1 = some r) : mm_T l k yX11_hundredths cX11_hundredths 2 (some .int) 0 [.int a0, .int a1] F (some (.int r)) F := by
  refine mm_start [(0, .int a0), (1, .int a1)] (by decide) (Nat.le_of_ble_eq_true rfl) rfl ?_
  intro z hz C
  subst hz
  have C : mm_C z k RX11 cX11_hundredths 2 (some .int) 0 := C
  replace h := mk0 h
  unfold m_X11_hundredths at h
  refine mm_iload_n C dX11_hundredths_0 rfl 1 rfl 1 rfl ?_
  refine mm_if_le C dX11_hundredths_1 13 4 (by decide) rfl (fun hc => ?_) (fun hc => ?_)
  · rw [if_pos hc] at h
    refine mm_bipush (v := (-3 : Int32)) C dX11_hundredths_13 (by decide) 15 rfl ?_
    exact mm_iretP C (h) dX11_hundredths_15
  · rw [if_neg hc] at h
    refine mm_iload_n C dX11_hundredths_4 rfl 0 rfl 5 rfl ?_
    refine mm_bipush (v := (100 : Int32)) C dX11_hundredths_5 (by decide) 7 rfl ?_
    refine mm_imul C dX11_hundredths_7 8 rfl ?_
    refine mm_iload_n C dX11_hundredths_8 rfl 1 rfl 9 rfl ?_
    obtain ⟨x1, ex1, h⟩ := mb h
    refine mm_idiv C dX11_hundredths_9 ex1 10 rfl ?_
    refine mm_goto C dX11_hundredths_10 15 (by decide) ?_
    exact mm_iretP C (h) dX11_hundredths_15
def m_X11_share_0 (F : mmS) (a1 : Int32) : Option (Int32 × mmS) :=
  Option.bind (m_X11_isWithin a1 (0 : Int32) (4 : Int32)) fun x1 => if x1 = (0 : Int32) then (some ((-2 : Int32), F)) else (bd2 (m_X11_readRow_0 F) fun x2 G3 => if x2 = (0 : Int32) then (bd2 (m_X8_found_6 G3 (1 : Int32)) fun x30 G31 => some (x30, G31)) else (Option.bind (rld 29 a1) fun q4 => if q4 = 30 then (bd2 (m_X6_lead_14_30 G3 (G3 14 2)) fun x5 G6 => bd2 (m_X0_plan_36_14 G6) fun x7 G8 => Option.bind (m_X11_hundredths x5 x7) fun x9 => some (x9, G8)) else if q4 = 32 then (bd2 (m_X6_lead_14_32 G3 (G3 14 2)) fun x10 G11 => bd2 (m_X0_plan_36_14 G11) fun x12 G13 => Option.bind (m_X11_hundredths x10 x12) fun x14 => some (x14, G13)) else if q4 = 17 then (bd2 (m_X6_lead_14_17 G3 (G3 14 2)) fun x15 G16 => bd2 (m_X0_plan_36_14 G16) fun x17 G18 => Option.bind (m_X11_hundredths x15 x17) fun x19 => some (x19, G18)) else if q4 = 34 then (bd2 (m_X6_lead_14_34 G3 (G3 14 2)) fun x20 G21 => bd2 (m_X0_plan_36_14 G21) fun x22 G23 => Option.bind (m_X11_hundredths x20 x22) fun x24 => some (x24, G23)) else if q4 = 23 then (bd2 (m_X6_lead_14_23 G3 (G3 14 2)) fun x25 G26 => bd2 (m_X0_plan_36_14 G26) fun x27 G28 => Option.bind (m_X11_hundredths x25 x27) fun x29 => some (x29, G28)) else none))
set_option maxHeartbeats 4000000 in
set_option maxRecDepth 100000 in
theorem c_X11_share_0 {l : Launch} {k : mmK} {F : mmS} {a1 : Int32} {r : Int32} {F1 : mmS} (h : m_X11_share_0 F a1 = some (r, F1)) : mm_T l k yX11_share cX11_share 2 (some .int) 11 [.ref (mmad k 0), .int a1] F (some (.int r)) F1 := by
  refine mm_start [(0, .ref (mmad k 0)), (1, .int a1)] (by decide) (Nat.le_of_ble_eq_true rfl) rfl ?_
  intro z hz C
  subst hz
  have C : mm_C z k RX11 cX11_share 2 (some .int) 11 := C
  replace h := mk0 h
  unfold m_X11_share_0 at h
  refine mm_iload_n C dX11_share_0 rfl 1 rfl 1 rfl ?_
  refine mm_iconst (v := (0 : Int32)) C dX11_share_1 (by decide) 2 rfl ?_
  refine mm_iconst (v := (4 : Int32)) C dX11_share_2 (by decide) 3 rfl ?_
  obtain ⟨x1, ex1, h⟩ := mb h
  refine mm_callS [.int a1, .int (0 : Int32), .int (4 : Int32)] C (c_X11_isWithin ex1) wb_X11_isWithin ws_X11_85 rfl (by omega) rfl (Nat.le_of_ble_eq_true rfl) dX11_share_3 6 rfl ?_
  show mm_AW z k 2 (some (.int r)) F1 F 6 [(0, .ref (mmad k 0)), (1, .int a1)] [.int x1]
  refine mm_if_ne C dX11_share_6 12 9 (by decide) rfl (fun hc => ?_) (fun hc => ?_)
  · rw [if_neg hc] at h
    refine mm_aload_n C dX11_share_12 rfl 0 rfl 13 rfl ?_
    obtain ⟨x2, G3, ex2, h⟩ := mb2 h
    refine mm_callV [] C (c_X11_readRow_0 ex2) wb_X11_readRow wv_X11_120 (by decide) (mc_0 k _) rfl rfl rfl (by omega) rfl (Nat.le_of_ble_eq_true rfl) dX11_share_13 16 rfl ?_
    show mm_AW z k 2 (some (.int r)) F1 G3 16 [(0, .ref (mmad k 0)), (1, .int a1)] [.int x2]
    refine mm_if_ne C dX11_share_16 28 19 (by decide) rfl (fun hc => ?_) (fun hc => ?_)
    · rw [if_neg hc] at h
      refine mm_aload_n C dX11_share_28 rfl 0 rfl 29 rfl ?_
      refine mm_get C fl_X11_26_X11 (by decide) (mc_0 k _) rfl dX11_share_29 32 rfl ?_
      refine mm_aload_n C dX11_share_32 rfl 0 rfl 33 rfl ?_
      refine mm_get C fl_X11_58_X11 (by decide) (mc_0 k _) rfl dX11_share_33 36 rfl ?_
      refine mm_iload_n C dX11_share_36 rfl 1 rfl 37 rfl ?_
      obtain ⟨q4, eq4, h⟩ := mb h
      refine mm_aald (t0 := 2) C (by decide) (mc_29 k _) rfl rfl eq4 dX11_share_37 38 rfl ?_
      refine mm_aload_n C dX11_share_38 rfl 0 rfl 39 rfl ?_
      refine mm_get C fl_X11_26_X11 (by decide) (mc_0 k _) rfl dX11_share_39 42 rfl ?_
      refine mm_get C fl_X11_128_X6 (by decide) (mc_14 k _) rfl dX11_share_42 45 rfl ?_
      by_cases hq30 : q4 = 30
      · rw [if_pos hq30] at h
        subst hq30
        obtain ⟨x5, G6, ex5, h⟩ := mb2 h
        refine mm_callV [.ref (mmad k 30), .int (G3 14 2)] C (c_X6_lead_14_30 ex5) wb_X6_lead wv_X11_131 (by decide) (mc_14 k _) rfl rfl rfl (by omega) rfl (Nat.le_of_ble_eq_true rfl) dX11_share_45 48 rfl ?_
        show mm_AW z k 2 (some (.int r)) F1 G6 48 [(0, .ref (mmad k 0)), (1, .int a1)] [.int x5]
        refine mm_aload_n C dX11_share_48 rfl 0 rfl 49 rfl ?_
        refine mm_get C fl_X11_65_X11 (by decide) (mc_0 k _) rfl dX11_share_49 52 rfl ?_
        refine mm_aload_n C dX11_share_52 rfl 0 rfl 53 rfl ?_
        refine mm_get C fl_X11_26_X11 (by decide) (mc_0 k _) rfl dX11_share_53 56 rfl ?_
        obtain ⟨x7, G8, ex7, h⟩ := mb2 h
        refine mm_callV [.ref (mmad k 14)] C (c_X0_plan_36_14 ex7) wb_X0_plan wv_X11_141 (by decide) (mc_36 k _) rfl rfl rfl (by omega) rfl (Nat.le_of_ble_eq_true rfl) dX11_share_56 59 rfl ?_
        show mm_AW z k 2 (some (.int r)) F1 G8 59 [(0, .ref (mmad k 0)), (1, .int a1)] [.int x7, .int x5]
        obtain ⟨x9, ex9, h⟩ := mb h
        refine mm_callS [.int x5, .int x7] C (c_X11_hundredths ex9) wb_X11_hundredths ws_X11_145 rfl (by omega) rfl (Nat.le_of_ble_eq_true rfl) dX11_share_59 62 rfl ?_
        show mm_AW z k 2 (some (.int r)) F1 G8 62 [(0, .ref (mmad k 0)), (1, .int a1)] [.int x9]
        exact mm_iretW C (h) dX11_share_62
      · rw [if_neg hq30] at h
        by_cases hq32 : q4 = 32
        · rw [if_pos hq32] at h
          subst hq32
          obtain ⟨x10, G11, ex10, h⟩ := mb2 h
          refine mm_callV [.ref (mmad k 32), .int (G3 14 2)] C (c_X6_lead_14_32 ex10) wb_X6_lead wv_X11_131 (by decide) (mc_14 k _) rfl rfl rfl (by omega) rfl (Nat.le_of_ble_eq_true rfl) dX11_share_45 48 rfl ?_
          show mm_AW z k 2 (some (.int r)) F1 G11 48 [(0, .ref (mmad k 0)), (1, .int a1)] [.int x10]
          refine mm_aload_n C dX11_share_48 rfl 0 rfl 49 rfl ?_
          refine mm_get C fl_X11_65_X11 (by decide) (mc_0 k _) rfl dX11_share_49 52 rfl ?_
          refine mm_aload_n C dX11_share_52 rfl 0 rfl 53 rfl ?_
          refine mm_get C fl_X11_26_X11 (by decide) (mc_0 k _) rfl dX11_share_53 56 rfl ?_
          obtain ⟨x12, G13, ex12, h⟩ := mb2 h
          refine mm_callV [.ref (mmad k 14)] C (c_X0_plan_36_14 ex12) wb_X0_plan wv_X11_141 (by decide) (mc_36 k _) rfl rfl rfl (by omega) rfl (Nat.le_of_ble_eq_true rfl) dX11_share_56 59 rfl ?_
          show mm_AW z k 2 (some (.int r)) F1 G13 59 [(0, .ref (mmad k 0)), (1, .int a1)] [.int x12, .int x10]
          obtain ⟨x14, ex14, h⟩ := mb h
          refine mm_callS [.int x10, .int x12] C (c_X11_hundredths ex14) wb_X11_hundredths ws_X11_145 rfl (by omega) rfl (Nat.le_of_ble_eq_true rfl) dX11_share_59 62 rfl ?_
          show mm_AW z k 2 (some (.int r)) F1 G13 62 [(0, .ref (mmad k 0)), (1, .int a1)] [.int x14]
          exact mm_iretW C (h) dX11_share_62
        · rw [if_neg hq32] at h
          by_cases hq17 : q4 = 17
          · rw [if_pos hq17] at h
            subst hq17
            obtain ⟨x15, G16, ex15, h⟩ := mb2 h
            refine mm_callV [.ref (mmad k 17), .int (G3 14 2)] C (c_X6_lead_14_17 ex15) wb_X6_lead wv_X11_131 (by decide) (mc_14 k _) rfl rfl rfl (by omega) rfl (Nat.le_of_ble_eq_true rfl) dX11_share_45 48 rfl ?_
            show mm_AW z k 2 (some (.int r)) F1 G16 48 [(0, .ref (mmad k 0)), (1, .int a1)] [.int x15]
            refine mm_aload_n C dX11_share_48 rfl 0 rfl 49 rfl ?_
            refine mm_get C fl_X11_65_X11 (by decide) (mc_0 k _) rfl dX11_share_49 52 rfl ?_
            refine mm_aload_n C dX11_share_52 rfl 0 rfl 53 rfl ?_
            refine mm_get C fl_X11_26_X11 (by decide) (mc_0 k _) rfl dX11_share_53 56 rfl ?_
            obtain ⟨x17, G18, ex17, h⟩ := mb2 h
            refine mm_callV [.ref (mmad k 14)] C (c_X0_plan_36_14 ex17) wb_X0_plan wv_X11_141 (by decide) (mc_36 k _) rfl rfl rfl (by omega) rfl (Nat.le_of_ble_eq_true rfl) dX11_share_56 59 rfl ?_
            show mm_AW z k 2 (some (.int r)) F1 G18 59 [(0, .ref (mmad k 0)), (1, .int a1)] [.int x17, .int x15]
            obtain ⟨x19, ex19, h⟩ := mb h
            refine mm_callS [.int x15, .int x17] C (c_X11_hundredths ex19) wb_X11_hundredths ws_X11_145 rfl (by omega) rfl (Nat.le_of_ble_eq_true rfl) dX11_share_59 62 rfl ?_
            show mm_AW z k 2 (some (.int r)) F1 G18 62 [(0, .ref (mmad k 0)), (1, .int a1)] [.int x19]
            exact mm_iretW C (h) dX11_share_62
          · rw [if_neg hq17] at h
            by_cases hq34 : q4 = 34
            · rw [if_pos hq34] at h
              subst hq34
              obtain ⟨x20, G21, ex20, h⟩ := mb2 h
              refine mm_callV [.ref (mmad k 34), .int (G3 14 2)] C (c_X6_lead_14_34 ex20) wb_X6_lead wv_X11_131 (by decide) (mc_14 k _) rfl rfl rfl (by omega) rfl (Nat.le_of_ble_eq_true rfl) dX11_share_45 48 rfl ?_
              show mm_AW z k 2 (some (.int r)) F1 G21 48 [(0, .ref (mmad k 0)), (1, .int a1)] [.int x20]
              refine mm_aload_n C dX11_share_48 rfl 0 rfl 49 rfl ?_
              refine mm_get C fl_X11_65_X11 (by decide) (mc_0 k _) rfl dX11_share_49 52 rfl ?_
              refine mm_aload_n C dX11_share_52 rfl 0 rfl 53 rfl ?_
              refine mm_get C fl_X11_26_X11 (by decide) (mc_0 k _) rfl dX11_share_53 56 rfl ?_
              obtain ⟨x22, G23, ex22, h⟩ := mb2 h
              refine mm_callV [.ref (mmad k 14)] C (c_X0_plan_36_14 ex22) wb_X0_plan wv_X11_141 (by decide) (mc_36 k _) rfl rfl rfl (by omega) rfl (Nat.le_of_ble_eq_true rfl) dX11_share_56 59 rfl ?_
              show mm_AW z k 2 (some (.int r)) F1 G23 59 [(0, .ref (mmad k 0)), (1, .int a1)] [.int x22, .int x20]
              obtain ⟨x24, ex24, h⟩ := mb h
              refine mm_callS [.int x20, .int x22] C (c_X11_hundredths ex24) wb_X11_hundredths ws_X11_145 rfl (by omega) rfl (Nat.le_of_ble_eq_true rfl) dX11_share_59 62 rfl ?_
              show mm_AW z k 2 (some (.int r)) F1 G23 62 [(0, .ref (mmad k 0)), (1, .int a1)] [.int x24]
              exact mm_iretW C (h) dX11_share_62
            · rw [if_neg hq34] at h
              by_cases hq23 : q4 = 23
              · rw [if_pos hq23] at h
                subst hq23
                obtain ⟨x25, G26, ex25, h⟩ := mb2 h
                refine mm_callV [.ref (mmad k 23), .int (G3 14 2)] C (c_X6_lead_14_23 ex25) wb_X6_lead wv_X11_131 (by decide) (mc_14 k _) rfl rfl rfl (by omega) rfl (Nat.le_of_ble_eq_true rfl) dX11_share_45 48 rfl ?_
                show mm_AW z k 2 (some (.int r)) F1 G26 48 [(0, .ref (mmad k 0)), (1, .int a1)] [.int x25]
                refine mm_aload_n C dX11_share_48 rfl 0 rfl 49 rfl ?_
                refine mm_get C fl_X11_65_X11 (by decide) (mc_0 k _) rfl dX11_share_49 52 rfl ?_
                refine mm_aload_n C dX11_share_52 rfl 0 rfl 53 rfl ?_
                refine mm_get C fl_X11_26_X11 (by decide) (mc_0 k _) rfl dX11_share_53 56 rfl ?_
                obtain ⟨x27, G28, ex27, h⟩ := mb2 h
                refine mm_callV [.ref (mmad k 14)] C (c_X0_plan_36_14 ex27) wb_X0_plan wv_X11_141 (by decide) (mc_36 k _) rfl rfl rfl (by omega) rfl (Nat.le_of_ble_eq_true rfl) dX11_share_56 59 rfl ?_
                show mm_AW z k 2 (some (.int r)) F1 G28 59 [(0, .ref (mmad k 0)), (1, .int a1)] [.int x27, .int x25]
                obtain ⟨x29, ex29, h⟩ := mb h
                refine mm_callS [.int x25, .int x27] C (c_X11_hundredths ex29) wb_X11_hundredths ws_X11_145 rfl (by omega) rfl (Nat.le_of_ble_eq_true rfl) dX11_share_59 62 rfl ?_
                show mm_AW z k 2 (some (.int r)) F1 G28 62 [(0, .ref (mmad k 0)), (1, .int a1)] [.int x29]
                exact mm_iretW C (h) dX11_share_62
              · rw [if_neg hq23] at h
                cases h
    · rw [if_pos hc] at h
      refine mm_aload_n C dX11_share_19 rfl 0 rfl 20 rfl ?_
      refine mm_get C fl_X11_19_X11 (by decide) (mc_0 k _) rfl dX11_share_20 23 rfl ?_
      refine mm_iconst (v := (1 : Int32)) C dX11_share_23 (by decide) 24 rfl ?_
      obtain ⟨x30, G31, ex30, h⟩ := mb2 h
      refine mm_callV [.int (1 : Int32)] C (c_X8_found_6 ex30) wb_X8_found wv_X11_124 (by decide) (mc_6 k _) rfl rfl rfl (by omega) rfl (Nat.le_of_ble_eq_true rfl) dX11_share_24 27 rfl ?_
      show mm_AW z k 2 (some (.int r)) F1 G31 27 [(0, .ref (mmad k 0)), (1, .int a1)] [.int x30]
      exact mm_iretW C (h) dX11_share_27
  · rw [if_pos hc] at h
    refine mm_bipush (v := (-2 : Int32)) C dX11_share_9 (by decide) 11 rfl ?_
    exact mm_iretW C (h) dX11_share_11
