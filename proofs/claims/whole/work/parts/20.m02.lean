def m_X6_lead_14_34_L16 (x1 : Int32) : Nat → Int32 → mmS → Option (mmS)
  | 0, _, _ => none
  | n5 + 1, v3, G4 => if x1 ≤ v3 then (some ((G4))) else (Option.bind (ald G4 15 v3) fun x6 => Option.bind (ald G4 16 v3) fun x7 => Option.bind (m_X5_meet_34 G4 x6 x7) fun G8 => mlet (v3 + (1 : Int32)) fun x9 => m_X6_lead_14_34_L16 x1 n5 x9 G8)
def m_X6_lead_14_34 (F : mmS) (a2 : Int32) : Option (Int32 × mmS) :=
  mlet (mmin a2 (F 14 2)) fun x1 => Option.bind (m_X7_begin_34 F) fun G2 => bd1 (m_X6_lead_14_34_L16 x1 300 (0 : Int32) G2) fun G10 => some ((G10 34 2), G10)
set_option maxHeartbeats 4000000 in
set_option maxRecDepth 100000 in
theorem c_X6_lead_14_34 {l : Launch} {k : mmK} {F : mmS} {a2 : Int32} {r : Int32} {F1 : mmS} (h : m_X6_lead_14_34 F a2 = some (r, F1)) : mm_T l k yX6_lead cX6_lead 5 (some .int) 3 [.ref (mmad k 14), .ref (mmad k 34), .int a2] F (some (.int r)) F1 := by
  refine mm_start [(0, .ref (mmad k 14)), (1, .ref (mmad k 34)), (2, .int a2)] (by decide) (Nat.le_of_ble_eq_true rfl) rfl ?_
  intro z hz C
  subst hz
  have C : mm_C z k RX6 cX6_lead 5 (some .int) 3 := C
  replace h := mk0 h
  unfold m_X6_lead_14_34 at h
  refine mm_iload_n C dX6_lead_0 rfl 2 rfl 1 rfl ?_
  refine mm_aload_n C dX6_lead_1 rfl 0 rfl 2 rfl ?_
  refine mm_get C fl_X6_18_X6 (by decide) (mc_14 k _) rfl dX6_lead_2 5 rfl ?_
  refine mm_min C mw_516 mw_517 mw_62 mw_518 (by omega) (Nat.le_trans (Nat.le_of_ble_eq_true rfl : _ ≤ 40) (by omega)) dX6_lead_5 8 rfl ?_
  obtain ⟨x1, ex1, h⟩ := me h
  refine mm_top ex1 ?_
  refine mm_istore_n (lv2 := [(3, .int x1), (0, .ref (mmad k 14)), (1, .ref (mmad k 34)), (2, .int a2)]) C dX6_lead_8 rfl (by decide) rfl 9 rfl ?_
  refine mm_aload_n C dX6_lead_9 rfl 2 rfl 10 rfl ?_
  obtain ⟨G2, eG2, h⟩ := mb h
  refine mm_callU [] C (c_X7_begin_34 eG2) wb_X7_begin wu_X6_57_X5 (fun s hN => hN.2.2.2.2) (by decide) (mc_34 k _) rfl rfl (by omega) rfl (Nat.le_of_ble_eq_true rfl) dX6_lead_10 13 rfl ?_
  show mm_AW z k 5 (some (.int r)) F1 G2 13 [(3, .int x1), (0, .ref (mmad k 14)), (1, .ref (mmad k 34)), (2, .int a2)] []
  refine mm_iconst (v := (0 : Int32)) C dX6_lead_13 (by decide) 14 rfl ?_
  refine mm_istore (lv2 := [(4, .int (0 : Int32)), (3, .int x1), (0, .ref (mmad k 14)), (1, .ref (mmad k 34)), (2, .int a2)]) C dX6_lead_14 (by decide) rfl 16 rfl ?_
  refine mm_lv [2, 3, 1, 0] rfl ?_
  have hL16 : ∀ (K : (mmS) → Option (Int32 × mmS)) (hK : ∀ (G4 : mmS) , K (G4) = some (r, F1) → mm_AW z k 5 (some (.int r)) F1 G4 46 [(1, .ref (mmad k 34))] []) (n5 : Nat) (v3 : Int32) (G4 : mmS) , (m_X6_lead_14_34_L16 x1 n5 v3 G4).bind K = some (r, F1) → mm_AW z k 5 (some (.int r)) F1 G4 16 [(0, .ref (mmad k 14)), (1, .ref (mmad k 34)), (3, .int x1), (4, .int v3)] [] := by
    intro K hK n5
    induction n5 with
    | zero => intro v3 G4 h; rw [m_X6_lead_14_34_L16] at h; cases h
    | succ n5 ih =>
      intro v3 G4 h
      rw [m_X6_lead_14_34_L16] at h
      refine mm_iload C dX6_lead_16 3 rfl 18 rfl ?_
      refine mm_iload_n C dX6_lead_18 rfl 2 rfl 19 rfl ?_
      refine mm_icmp_ge C dX6_lead_19 46 22 (by decide) rfl (fun hc => ?_) (fun hc => ?_)
      · rw [if_pos hc] at h
        refine mm_lv [1] rfl ?_
        exact hK _ h
      · rw [if_neg hc] at h
        refine mm_aload_n C dX6_lead_22 rfl 1 rfl 23 rfl ?_
        refine mm_aload_n C dX6_lead_23 rfl 0 rfl 24 rfl ?_
        refine mm_get C fl_X6_9_X6 (by decide) (mc_14 k _) rfl dX6_lead_24 27 rfl ?_
        refine mm_iload C dX6_lead_27 3 rfl 29 rfl ?_
        obtain ⟨x6, ex6, h⟩ := mb h
        refine mm_iald C ex6 dX6_lead_29 30 rfl ?_
        refine mm_aload_n C dX6_lead_30 rfl 0 rfl 31 rfl ?_
        refine mm_get C fl_X6_15_X6 (by decide) (mc_14 k _) rfl dX6_lead_31 34 rfl ?_
        refine mm_iload C dX6_lead_34 3 rfl 36 rfl ?_
        obtain ⟨x7, ex7, h⟩ := mb h
        refine mm_iald C ex7 dX6_lead_36 37 rfl ?_
        obtain ⟨G8, eG8, h⟩ := mb h
        refine mm_callU [.int x6, .int x7] C (c_X5_meet_34 eG8) wb_X5_meet wu_X6_62_X5 (fun s hN => hN.2.2.1) (by decide) (mc_34 k _) rfl rfl (by omega) rfl (Nat.le_of_ble_eq_true rfl) dX6_lead_37 40 rfl ?_
        show mm_AW z k 5 (some (.int r)) F1 G8 40 [(0, .ref (mmad k 14)), (1, .ref (mmad k 34)), (3, .int x1), (4, .int v3)] []
        obtain ⟨x9, ex9, h⟩ := me h
        refine mm_iinc (v := x9) (lv2 := [(4, .int x9), (0, .ref (mmad k 14)), (1, .ref (mmad k 34)), (3, .int x1)]) C dX6_lead_40 3 rfl (by rw [← ex9]; rfl) (by decide) rfl 43 rfl ?_
        refine mm_goto C dX6_lead_43 16 (by decide) ?_
        refine mm_lv [1, 2, 3, 0] rfl ?_
        exact ih _ _ h
  refine mj1 h (fun (G10 : mmS) => mm_AW z k 5 (some (.int r)) F1 G10 46 [(1, .ref (mmad k 34))] []) ?_ ?_
  · intro G10 h
    refine mm_aload_n C dX6_lead_46 rfl 0 rfl 47 rfl ?_
    refine mm_get C fl_X6_66_X5 (by decide) (mc_34 k _) rfl dX6_lead_47 50 rfl ?_
    exact mm_iretW C (h) dX6_lead_50
  · intro K2 hR h
    exact hL16 K2 hR 300 _ _ h
def m_X7_standAtStart_23_L2 : Nat → Int32 → mmS → Option (mmS)
  | 0, _, _ => none
  | n3 + 1, v1, G2 => if (3 : Int32) ≤ v1 then (some ((G2))) else (Option.bind (ald G2 3 v1) fun x4 => Option.bind (ald G2 2 x4) fun x5 => Option.bind (ast G2 24 v1 x5) fun G6 => mlet (v1 + (1 : Int32)) fun x7 => m_X7_standAtStart_23_L2 n3 x7 G6)
def m_X7_standAtStart_23 (F : mmS)  : Option (mmS) :=
  bd1 (m_X7_standAtStart_23_L2 300 (0 : Int32) F) fun G8 => mlet (stF G8 23 2 (0 : Int32)) fun G9 => mlet (stF G9 23 3 (-1 : Int32)) fun G10 => some G10
set_option maxHeartbeats 4000000 in
set_option maxRecDepth 100000 in
theorem c_X7_standAtStart_23 {l : Launch} {k : mmK} {F : mmS}  {F1 : mmS} (h : m_X7_standAtStart_23 F = some F1) : mm_T l k yX7_standAtStart cX7_standAtStart 2 none 0 [.ref (mmad k 23)] F none F1 := by
  refine mm_start [(0, .ref (mmad k 23))] (by decide) (Nat.le_of_ble_eq_true rfl) rfl ?_
  intro z hz C
  subst hz
  have C : mm_C z k RX7 cX7_standAtStart 2 none 0 := C
  replace h := mk0 h
  unfold m_X7_standAtStart_23 at h
  refine mm_iconst (v := (0 : Int32)) C dX7_standAtStart_0 (by decide) 1 rfl ?_
  refine mm_istore_n (lv2 := [(1, .int (0 : Int32)), (0, .ref (mmad k 23))]) C dX7_standAtStart_1 rfl (by decide) rfl 2 rfl ?_
  refine mm_lv [1, 0] rfl ?_
  have hL2 : ∀ (K : (mmS) → Option (mmS)) (hK : ∀ (G2 : mmS) , K (G2) = some F1 → mm_AW z k 2 none F1 G2 36 [(0, .ref (mmad k 23))] []) (n3 : Nat) (v1 : Int32) (G2 : mmS) , (m_X7_standAtStart_23_L2 n3 v1 G2).bind K = some F1 → mm_AW z k 2 none F1 G2 2 [(0, .ref (mmad k 23)), (1, .int v1)] [] := by
    intro K hK n3
    induction n3 with
    | zero => intro v1 G2 h; rw [m_X7_standAtStart_23_L2] at h; cases h
    | succ n3 ih =>
      intro v1 G2 h
      rw [m_X7_standAtStart_23_L2] at h
      refine mm_iload_n C dX7_standAtStart_2 rfl 1 rfl 3 rfl ?_
      refine mm_iconst (v := (3 : Int32)) C dX7_standAtStart_3 (by decide) 4 rfl ?_
      refine mm_icmp_ge C dX7_standAtStart_4 36 7 (by decide) rfl (fun hc => ?_) (fun hc => ?_)
      · rw [if_pos hc] at h
        refine mm_lv [0] rfl ?_
        exact hK _ h
      · rw [if_neg hc] at h
        refine mm_aload_n C dX7_standAtStart_7 rfl 0 rfl 8 rfl ?_
        refine mm_get C fl_X7_9_X2 (by decide) (mc_23 k _) rfl dX7_standAtStart_8 11 rfl ?_
        refine mm_iload_n C dX7_standAtStart_11 rfl 1 rfl 12 rfl ?_
        refine mm_aload_n C dX7_standAtStart_12 rfl 0 rfl 13 rfl ?_
        refine mm_get C fl_X7_19_X2 (by decide) (mc_23 k _) rfl dX7_standAtStart_13 16 rfl ?_
        refine mm_get C fl_X7_26_X3 (by decide) (mc_1 k _) rfl dX7_standAtStart_16 19 rfl ?_
        refine mm_aload_n C dX7_standAtStart_19 rfl 0 rfl 20 rfl ?_
        refine mm_get C fl_X7_19_X2 (by decide) (mc_23 k _) rfl dX7_standAtStart_20 23 rfl ?_
        refine mm_get C fl_X7_31_X3 (by decide) (mc_1 k _) rfl dX7_standAtStart_23 26 rfl ?_
        refine mm_iload_n C dX7_standAtStart_26 rfl 1 rfl 27 rfl ?_
        obtain ⟨x4, ex4, h⟩ := mb h
        refine mm_iald C ex4 dX7_standAtStart_27 28 rfl ?_
        obtain ⟨x5, ex5, h⟩ := mb h
        refine mm_iald C ex5 dX7_standAtStart_28 29 rfl ?_
        obtain ⟨G6, eG6, h⟩ := mb h
        refine mm_iast C eG6 dX7_standAtStart_29 30 rfl ?_
        obtain ⟨x7, ex7, h⟩ := me h
        refine mm_iinc (v := x7) (lv2 := [(1, .int x7), (0, .ref (mmad k 23))]) C dX7_standAtStart_30 1 rfl (by rw [← ex7]; rfl) (by decide) rfl 33 rfl ?_
        refine mm_goto C dX7_standAtStart_33 2 (by decide) ?_
        refine mm_lv [1, 0] rfl ?_
        exact ih _ _ h
  refine mj1 h (fun (G8 : mmS) => mm_AW z k 2 none F1 G8 36 [(0, .ref (mmad k 23))] []) ?_ ?_
  · intro G8 h
    refine mm_aload_n C dX7_standAtStart_36 rfl 0 rfl 37 rfl ?_
    refine mm_iconst (v := (0 : Int32)) C dX7_standAtStart_37 (by decide) 38 rfl ?_
    obtain ⟨G9, eG9, h⟩ := me h
    refine mm_put (x := (0 : Int32)) (ty := .int) C fl_X7_34_X2 (by decide) (mc_23 k _) (mc_23 k _) tyX2 tyX2_ok nmX2 rfl (by decide +kernel) rfl rfl (Nat.le_of_ble_eq_true rfl) eG9 dX7_standAtStart_38 41 rfl ?_
    refine mm_aload_n C dX7_standAtStart_41 rfl 0 rfl 42 rfl ?_
    refine mm_iconst (v := (-1 : Int32)) C dX7_standAtStart_42 (by decide) 43 rfl ?_
    obtain ⟨G10, eG10, h⟩ := me h
    refine mm_put (x := (-1 : Int32)) (ty := .int) C fl_X7_15_X2 (by decide) (mc_23 k _) (mc_23 k _) tyX2 tyX2_ok nmX2 rfl (by decide +kernel) rfl rfl (Nat.le_of_ble_eq_true rfl) eG10 dX7_standAtStart_43 46 rfl ?_
    exact mm_vretW C (h) dX7_standAtStart_46
  · intro K2 hR h
    exact hL2 K2 hR 300 _ _ h
def m_X7_standAtStart_25_L2 : Nat → Int32 → mmS → Option (mmS)
  | 0, _, _ => none
  | n3 + 1, v1, G2 => if (3 : Int32) ≤ v1 then (some ((G2))) else (Option.bind (ald G2 3 v1) fun x4 => Option.bind (ald G2 2 x4) fun x5 => Option.bind (ast G2 26 v1 x5) fun G6 => mlet (v1 + (1 : Int32)) fun x7 => m_X7_standAtStart_25_L2 n3 x7 G6)
def m_X7_standAtStart_25 (F : mmS)  : Option (mmS) :=
  bd1 (m_X7_standAtStart_25_L2 300 (0 : Int32) F) fun G8 => mlet (stF G8 25 2 (0 : Int32)) fun G9 => mlet (stF G9 25 3 (-1 : Int32)) fun G10 => some G10
set_option maxHeartbeats 4000000 in
set_option maxRecDepth 100000 in
theorem c_X7_standAtStart_25 {l : Launch} {k : mmK} {F : mmS}  {F1 : mmS} (h : m_X7_standAtStart_25 F = some F1) : mm_T l k yX7_standAtStart cX7_standAtStart 2 none 0 [.ref (mmad k 25)] F none F1 := by
  refine mm_start [(0, .ref (mmad k 25))] (by decide) (Nat.le_of_ble_eq_true rfl) rfl ?_
  intro z hz C
  subst hz
  have C : mm_C z k RX7 cX7_standAtStart 2 none 0 := C
  replace h := mk0 h
  unfold m_X7_standAtStart_25 at h
  refine mm_iconst (v := (0 : Int32)) C dX7_standAtStart_0 (by decide) 1 rfl ?_
  refine mm_istore_n (lv2 := [(1, .int (0 : Int32)), (0, .ref (mmad k 25))]) C dX7_standAtStart_1 rfl (by decide) rfl 2 rfl ?_
  refine mm_lv [1, 0] rfl ?_
  have hL2 : ∀ (K : (mmS) → Option (mmS)) (hK : ∀ (G2 : mmS) , K (G2) = some F1 → mm_AW z k 2 none F1 G2 36 [(0, .ref (mmad k 25))] []) (n3 : Nat) (v1 : Int32) (G2 : mmS) , (m_X7_standAtStart_25_L2 n3 v1 G2).bind K = some F1 → mm_AW z k 2 none F1 G2 2 [(0, .ref (mmad k 25)), (1, .int v1)] [] := by
    intro K hK n3
    induction n3 with
    | zero => intro v1 G2 h; rw [m_X7_standAtStart_25_L2] at h; cases h
    | succ n3 ih =>
      intro v1 G2 h
      rw [m_X7_standAtStart_25_L2] at h
      refine mm_iload_n C dX7_standAtStart_2 rfl 1 rfl 3 rfl ?_
      refine mm_iconst (v := (3 : Int32)) C dX7_standAtStart_3 (by decide) 4 rfl ?_
      refine mm_icmp_ge C dX7_standAtStart_4 36 7 (by decide) rfl (fun hc => ?_) (fun hc => ?_)
      · rw [if_pos hc] at h
        refine mm_lv [0] rfl ?_
        exact hK _ h
      · rw [if_neg hc] at h
        refine mm_aload_n C dX7_standAtStart_7 rfl 0 rfl 8 rfl ?_
        refine mm_get C fl_X7_9_X1 (by decide) (mc_25 k _) rfl dX7_standAtStart_8 11 rfl ?_
        refine mm_iload_n C dX7_standAtStart_11 rfl 1 rfl 12 rfl ?_
        refine mm_aload_n C dX7_standAtStart_12 rfl 0 rfl 13 rfl ?_
        refine mm_get C fl_X7_19_X1 (by decide) (mc_25 k _) rfl dX7_standAtStart_13 16 rfl ?_
        refine mm_get C fl_X7_26_X3 (by decide) (mc_1 k _) rfl dX7_standAtStart_16 19 rfl ?_
        refine mm_aload_n C dX7_standAtStart_19 rfl 0 rfl 20 rfl ?_
        refine mm_get C fl_X7_19_X1 (by decide) (mc_25 k _) rfl dX7_standAtStart_20 23 rfl ?_
        refine mm_get C fl_X7_31_X3 (by decide) (mc_1 k _) rfl dX7_standAtStart_23 26 rfl ?_
        refine mm_iload_n C dX7_standAtStart_26 rfl 1 rfl 27 rfl ?_
        obtain ⟨x4, ex4, h⟩ := mb h
        refine mm_iald C ex4 dX7_standAtStart_27 28 rfl ?_
        obtain ⟨x5, ex5, h⟩ := mb h
        refine mm_iald C ex5 dX7_standAtStart_28 29 rfl ?_
        obtain ⟨G6, eG6, h⟩ := mb h
        refine mm_iast C eG6 dX7_standAtStart_29 30 rfl ?_
        obtain ⟨x7, ex7, h⟩ := me h
        refine mm_iinc (v := x7) (lv2 := [(1, .int x7), (0, .ref (mmad k 25))]) C dX7_standAtStart_30 1 rfl (by rw [← ex7]; rfl) (by decide) rfl 33 rfl ?_
        refine mm_goto C dX7_standAtStart_33 2 (by decide) ?_
        refine mm_lv [1, 0] rfl ?_
        exact ih _ _ h
  refine mj1 h (fun (G8 : mmS) => mm_AW z k 2 none F1 G8 36 [(0, .ref (mmad k 25))] []) ?_ ?_
  · intro G8 h
    refine mm_aload_n C dX7_standAtStart_36 rfl 0 rfl 37 rfl ?_
    refine mm_iconst (v := (0 : Int32)) C dX7_standAtStart_37 (by decide) 38 rfl ?_
    obtain ⟨G9, eG9, h⟩ := me h
    refine mm_put (x := (0 : Int32)) (ty := .int) C fl_X7_34_X1 (by decide) (mc_25 k _) (mc_25 k _) tyX1 tyX1_ok nmX1 rfl (by decide +kernel) rfl rfl (Nat.le_of_ble_eq_true rfl) eG9 dX7_standAtStart_38 41 rfl ?_
    refine mm_aload_n C dX7_standAtStart_41 rfl 0 rfl 42 rfl ?_
    refine mm_iconst (v := (-1 : Int32)) C dX7_standAtStart_42 (by decide) 43 rfl ?_
    obtain ⟨G10, eG10, h⟩ := me h
    refine mm_put (x := (-1 : Int32)) (ty := .int) C fl_X7_15_X1 (by decide) (mc_25 k _) (mc_25 k _) tyX1 tyX1_ok nmX1 rfl (by decide +kernel) rfl rfl (Nat.le_of_ble_eq_true rfl) eG10 dX7_standAtStart_43 46 rfl ?_
    exact mm_vretW C (h) dX7_standAtStart_46
  · intro K2 hR h
    exact hL2 K2 hR 300 _ _ h
def m_X7_standAtStart_27_L2 : Nat → Int32 → mmS → Option (mmS)
  | 0, _, _ => none
  | n3 + 1, v1, G2 => if (3 : Int32) ≤ v1 then (some ((G2))) else (Option.bind (ald G2 3 v1) fun x4 => Option.bind (ald G2 2 x4) fun x5 => Option.bind (ast G2 28 v1 x5) fun G6 => mlet (v1 + (1 : Int32)) fun x7 => m_X7_standAtStart_27_L2 n3 x7 G6)
def m_X7_standAtStart_27 (F : mmS)  : Option (mmS) :=
  bd1 (m_X7_standAtStart_27_L2 300 (0 : Int32) F) fun G8 => mlet (stF G8 27 2 (0 : Int32)) fun G9 => mlet (stF G9 27 3 (-1 : Int32)) fun G10 => some G10
set_option maxHeartbeats 4000000 in
set_option maxRecDepth 100000 in
theorem c_X7_standAtStart_27 {l : Launch} {k : mmK} {F : mmS}  {F1 : mmS} (h : m_X7_standAtStart_27 F = some F1) : mm_T l k yX7_standAtStart cX7_standAtStart 2 none 0 [.ref (mmad k 27)] F none F1 := by
  refine mm_start [(0, .ref (mmad k 27))] (by decide) (Nat.le_of_ble_eq_true rfl) rfl ?_
  intro z hz C
  subst hz
  have C : mm_C z k RX7 cX7_standAtStart 2 none 0 := C
  replace h := mk0 h
  unfold m_X7_standAtStart_27 at h
  refine mm_iconst (v := (0 : Int32)) C dX7_standAtStart_0 (by decide) 1 rfl ?_
  refine mm_istore_n (lv2 := [(1, .int (0 : Int32)), (0, .ref (mmad k 27))]) C dX7_standAtStart_1 rfl (by decide) rfl 2 rfl ?_
  refine mm_lv [1, 0] rfl ?_
  have hL2 : ∀ (K : (mmS) → Option (mmS)) (hK : ∀ (G2 : mmS) , K (G2) = some F1 → mm_AW z k 2 none F1 G2 36 [(0, .ref (mmad k 27))] []) (n3 : Nat) (v1 : Int32) (G2 : mmS) , (m_X7_standAtStart_27_L2 n3 v1 G2).bind K = some F1 → mm_AW z k 2 none F1 G2 2 [(0, .ref (mmad k 27)), (1, .int v1)] [] := by
    intro K hK n3
    induction n3 with
    | zero => intro v1 G2 h; rw [m_X7_standAtStart_27_L2] at h; cases h
    | succ n3 ih =>
      intro v1 G2 h
      rw [m_X7_standAtStart_27_L2] at h
      refine mm_iload_n C dX7_standAtStart_2 rfl 1 rfl 3 rfl ?_
      refine mm_iconst (v := (3 : Int32)) C dX7_standAtStart_3 (by decide) 4 rfl ?_
      refine mm_icmp_ge C dX7_standAtStart_4 36 7 (by decide) rfl (fun hc => ?_) (fun hc => ?_)
      · rw [if_pos hc] at h
        refine mm_lv [0] rfl ?_
        exact hK _ h
      · rw [if_neg hc] at h
        refine mm_aload_n C dX7_standAtStart_7 rfl 0 rfl 8 rfl ?_
        refine mm_get C fl_X7_9_X5 (by decide) (mc_27 k _) rfl dX7_standAtStart_8 11 rfl ?_
        refine mm_iload_n C dX7_standAtStart_11 rfl 1 rfl 12 rfl ?_
        refine mm_aload_n C dX7_standAtStart_12 rfl 0 rfl 13 rfl ?_
        refine mm_get C fl_X7_19_X5 (by decide) (mc_27 k _) rfl dX7_standAtStart_13 16 rfl ?_
        refine mm_get C fl_X7_26_X3 (by decide) (mc_1 k _) rfl dX7_standAtStart_16 19 rfl ?_
        refine mm_aload_n C dX7_standAtStart_19 rfl 0 rfl 20 rfl ?_
        refine mm_get C fl_X7_19_X5 (by decide) (mc_27 k _) rfl dX7_standAtStart_20 23 rfl ?_
        refine mm_get C fl_X7_31_X3 (by decide) (mc_1 k _) rfl dX7_standAtStart_23 26 rfl ?_
        refine mm_iload_n C dX7_standAtStart_26 rfl 1 rfl 27 rfl ?_
        obtain ⟨x4, ex4, h⟩ := mb h
        refine mm_iald C ex4 dX7_standAtStart_27 28 rfl ?_
        obtain ⟨x5, ex5, h⟩ := mb h
        refine mm_iald C ex5 dX7_standAtStart_28 29 rfl ?_
        obtain ⟨G6, eG6, h⟩ := mb h
        refine mm_iast C eG6 dX7_standAtStart_29 30 rfl ?_
        obtain ⟨x7, ex7, h⟩ := me h
        refine mm_iinc (v := x7) (lv2 := [(1, .int x7), (0, .ref (mmad k 27))]) C dX7_standAtStart_30 1 rfl (by rw [← ex7]; rfl) (by decide) rfl 33 rfl ?_
        refine mm_goto C dX7_standAtStart_33 2 (by decide) ?_
        refine mm_lv [1, 0] rfl ?_
        exact ih _ _ h
  refine mj1 h (fun (G8 : mmS) => mm_AW z k 2 none F1 G8 36 [(0, .ref (mmad k 27))] []) ?_ ?_
  · intro G8 h
    refine mm_aload_n C dX7_standAtStart_36 rfl 0 rfl 37 rfl ?_
    refine mm_iconst (v := (0 : Int32)) C dX7_standAtStart_37 (by decide) 38 rfl ?_
    obtain ⟨G9, eG9, h⟩ := me h
    refine mm_put (x := (0 : Int32)) (ty := .int) C fl_X7_34_X5 (by decide) (mc_27 k _) (mc_27 k _) tyX5 tyX5_ok nmX5 rfl (by decide +kernel) rfl rfl (Nat.le_of_ble_eq_true rfl) eG9 dX7_standAtStart_38 41 rfl ?_
    refine mm_aload_n C dX7_standAtStart_41 rfl 0 rfl 42 rfl ?_
    refine mm_iconst (v := (-1 : Int32)) C dX7_standAtStart_42 (by decide) 43 rfl ?_
    obtain ⟨G10, eG10, h⟩ := me h
    refine mm_put (x := (-1 : Int32)) (ty := .int) C fl_X7_15_X5 (by decide) (mc_27 k _) (mc_27 k _) tyX5 tyX5_ok nmX5 rfl (by decide +kernel) rfl rfl (Nat.le_of_ble_eq_true rfl) eG10 dX7_standAtStart_43 46 rfl ?_
    exact mm_vretW C (h) dX7_standAtStart_46
  · intro K2 hR h
    exact hL2 K2 hR 300 _ _ h
def m_X2_standAtStart_23 (F : mmS)  : Option (mmS) :=
  Option.bind (m_X7_standAtStart_23 F) fun G1 => Option.bind (m_X7_standAtStart_25 G1) fun G2 => Option.bind (m_X7_standAtStart_27 G2) fun G3 => mlet (stF G3 23 6 (3 : Int32)) fun G4 => some G4
set_option maxHeartbeats 4000000 in
set_option maxRecDepth 100000 in
theorem c_X2_standAtStart_23 {l : Launch} {k : mmK} {F : mmS}  {F1 : mmS} (h : m_X2_standAtStart_23 F = some F1) : mm_T l k yX2_standAtStart cX2_standAtStart 1 none 1 [.ref (mmad k 23)] F none F1 := by
  refine mm_start [(0, .ref (mmad k 23))] (by decide) (Nat.le_of_ble_eq_true rfl) rfl ?_
  intro z hz C
  subst hz
  have C : mm_C z k RX2 cX2_standAtStart 1 none 1 := C
  replace h := mk0 h
  unfold m_X2_standAtStart_23 at h
  refine mm_aload_n C dX2_standAtStart_0 rfl 0 rfl 1 rfl ?_
  obtain ⟨G1, eG1, h⟩ := mb h
  refine mm_callP [] C (c_X7_standAtStart_23 eG1) wb_X7_standAtStart wp_X2_31 (by decide) (mc_23 k _) rfl rfl (by omega) rfl (Nat.le_of_ble_eq_true rfl) dX2_standAtStart_1 4 rfl ?_
  show mm_AW z k 1 none F1 G1 4 [(0, .ref (mmad k 23))] []
  refine mm_aload_n C dX2_standAtStart_4 rfl 0 rfl 5 rfl ?_
  refine mm_get C fl_X2_18_X2 (by decide) (mc_23 k _) rfl dX2_standAtStart_5 8 rfl ?_
  obtain ⟨G2, eG2, h⟩ := mb h
  refine mm_callU [] C (c_X7_standAtStart_25 eG2) wb_X7_standAtStart wu_X2_35_X1 (fun s hN => hN.2.1) (by decide) (mc_25 k _) rfl rfl (by omega) rfl (Nat.le_of_ble_eq_true rfl) dX2_standAtStart_8 11 rfl ?_
  show mm_AW z k 1 none F1 G2 11 [(0, .ref (mmad k 23))] []
  refine mm_aload_n C dX2_standAtStart_11 rfl 0 rfl 12 rfl ?_
  refine mm_get C fl_X2_27_X2 (by decide) (mc_23 k _) rfl dX2_standAtStart_12 15 rfl ?_
  obtain ⟨G3, eG3, h⟩ := mb h
  refine mm_callU [] C (c_X7_standAtStart_27 eG3) wb_X7_standAtStart wu_X2_36_X5 (fun s hN => hN.2.1) (by decide) (mc_27 k _) rfl rfl (by omega) rfl (Nat.le_of_ble_eq_true rfl) dX2_standAtStart_15 18 rfl ?_
  show mm_AW z k 1 none F1 G3 18 [(0, .ref (mmad k 23))] []
  refine mm_aload_n C dX2_standAtStart_18 rfl 0 rfl 19 rfl ?_
  refine mm_iconst (v := (3 : Int32)) C dX2_standAtStart_19 (by decide) 20 rfl ?_
  obtain ⟨G4, eG4, h⟩ := me h
  refine mm_put (x := (3 : Int32)) (ty := .int) C fl_X2_9_X2 (by decide) (mc_23 k _) (mc_23 k _) tyX2 tyX2_ok nmX2 rfl (by decide +kernel) rfl rfl (Nat.le_of_ble_eq_true rfl) eG4 dX2_standAtStart_20 23 rfl ?_
  exact mm_vretW C (h) dX2_standAtStart_23
def m_X7_begin_23 (F : mmS)  : Option (mmS) :=
  Option.bind (m_X2_standAtStart_23 F) fun G1 => some G1
set_option maxHeartbeats 4000000 in
set_option maxRecDepth 100000 in
theorem c_X7_begin_23 {l : Launch} {k : mmK} {F : mmS}  {F1 : mmS} (h : m_X7_begin_23 F = some F1) : mm_T l k yX7_begin cX7_begin 1 none 2 [.ref (mmad k 23)] F none F1 := by
  refine mm_start [(0, .ref (mmad k 23))] (by decide) (Nat.le_of_ble_eq_true rfl) rfl ?_
  intro z hz C
  subst hz
  have C : mm_C z k RX7 cX7_begin 1 none 2 := C
  replace h := mk0 h
  unfold m_X7_begin_23 at h
  refine mm_aload_n C dX7_begin_0 rfl 0 rfl 1 rfl ?_
  obtain ⟨G1, eG1, h⟩ := mb h
  refine mm_callU [] C (c_X2_standAtStart_23 eG1) wb_X2_standAtStart wu_X7_23_X2 (fun s hN => hN.2.1) (by decide) (mc_23 k _) rfl rfl (by omega) rfl (Nat.le_of_ble_eq_true rfl) dX7_begin_1 4 rfl ?_
  show mm_AW z k 1 none F1 G1 4 [(0, .ref (mmad k 23))] []
  exact mm_vretW C (h) dX7_begin_4
def m_X1_isServed_25_L2 (a1 : Int32) (F : mmS) : Nat → Int32 → Option ((Int32) ⊕ (Unit))
  | 0, _ => none
  | n2 + 1, v1 => if (F 1 1) ≤ v1 then (some (.inr ())) else (Option.bind (ald F 26 v1) fun x3 => if x3 = a1 then (Option.bind (zg (1 : Int32)) fun x5 => some (.inl x5)) else (mlet (v1 + (1 : Int32)) fun x4 => m_X1_isServed_25_L2 a1 F n2 x4))
def m_X1_isServed_25 (F : mmS) (a1 : Int32) : Option (Int32) :=
  bdE0 (m_X1_isServed_25_L2 a1 F 300 (0 : Int32)) fun _ => Option.bind (zg (0 : Int32)) fun x6 => some (x6)
set_option maxHeartbeats 4000000 in
set_option maxRecDepth 100000 in
theorem c_X1_isServed_25 {l : Launch} {k : mmK} {F : mmS} {a1 : Int32} {r : Int32} (h : m_X1_isServed_25 F a1 = some r) : mm_T l k yX1_isServed cX1_isServed 3 (some .boolean) 0 [.ref (mmad k 25), .int a1] F (some (.int r)) F := by
  refine mm_start [(0, .ref (mmad k 25)), (1, .int a1)] (by decide) (Nat.le_of_ble_eq_true rfl) rfl ?_
  intro z hz C
  subst hz
  have C : mm_C z k RX1 cX1_isServed 3 (some .boolean) 0 := C
  replace h := mk0 h
  unfold m_X1_isServed_25 at h
  refine mm_iconst (v := (0 : Int32)) C dX1_isServed_0 (by decide) 1 rfl ?_
  refine mm_istore_n (lv2 := [(2, .int (0 : Int32)), (0, .ref (mmad k 25)), (1, .int a1)]) C dX1_isServed_1 rfl (by decide) rfl 2 rfl ?_
  refine mm_lv [1, 2, 0] rfl ?_
  have hL2 : ∀ (K : ((Int32) ⊕ (Unit)) → Option (Int32)) (hK : K (.inr ()) = some r → mm_AW z k 3 (some (.int r)) F F 31 [] []) (hE : ∀ q : Int32, K (.inl q) = some r → q = r) (n2 : Nat) (v1 : Int32) , (m_X1_isServed_25_L2 a1 F n2 v1).bind K = some r → mm_AW z k 3 (some (.int r)) F F 2 [(0, .ref (mmad k 25)), (1, .int a1), (2, .int v1)] [] := by
    intro K hK hE n2
    induction n2 with
    | zero => intro v1 h; rw [m_X1_isServed_25_L2] at h; cases h
    | succ n2 ih =>
      intro v1 h
      rw [m_X1_isServed_25_L2] at h
      refine mm_iload_n C dX1_isServed_2 rfl 2 rfl 3 rfl ?_
      refine mm_aload_n C dX1_isServed_3 rfl 0 rfl 4 rfl ?_
      refine mm_get C fl_X1_9_X1 (by decide) (mc_25 k _) rfl dX1_isServed_4 7 rfl ?_
      refine mm_get C fl_X1_49_X3 (by decide) (mc_1 k _) rfl dX1_isServed_7 10 rfl ?_
      refine mm_icmp_ge C dX1_isServed_10 31 13 (by decide) rfl (fun hc => ?_) (fun hc => ?_)
      · rw [if_pos hc] at h
        refine mm_lv [] rfl ?_
        exact hK h
      · rw [if_neg hc] at h
        refine mm_aload_n C dX1_isServed_13 rfl 0 rfl 14 rfl ?_
        refine mm_get C fl_X1_36_X1 (by decide) (mc_25 k _) rfl dX1_isServed_14 17 rfl ?_
        refine mm_iload_n C dX1_isServed_17 rfl 2 rfl 18 rfl ?_
        obtain ⟨x3, ex3, h⟩ := mb h
        refine mm_iald C ex3 dX1_isServed_18 19 rfl ?_
        refine mm_iload_n C dX1_isServed_19 rfl 1 rfl 20 rfl ?_
        refine mm_icmp_ne C dX1_isServed_20 25 23 (by decide) rfl (fun hc => ?_) (fun hc => ?_)
        · rw [if_neg hc] at h
          obtain ⟨x4, ex4, h⟩ := me h
          refine mm_iinc (v := x4) (lv2 := [(2, .int x4), (0, .ref (mmad k 25)), (1, .int a1)]) C dX1_isServed_25 2 rfl (by rw [← ex4]; rfl) (by decide) rfl 28 rfl ?_
          refine mm_goto C dX1_isServed_28 2 (by decide) ?_
          refine mm_lv [1, 2, 0] rfl ?_
          exact ih _ h
        · rw [if_pos hc] at h
          refine mm_iconst (v := (1 : Int32)) C dX1_isServed_23 (by decide) 24 rfl ?_
          obtain ⟨x5, ex5, h⟩ := mb h
          exact mm_zretP C ex5 (congrArg some (hE _ h)) dX1_isServed_24
  refine mjE0 h (mm_AW z k 3 (some (.int r)) F F 31 [] []) ?_ ?_
  · intro  h
    refine mm_iconst (v := (0 : Int32)) C dX1_isServed_31 (by decide) 32 rfl ?_
    obtain ⟨x6, ex6, h⟩ := mb h
    exact mm_zretP C ex6 (h) dX1_isServed_32
  · intro K2 hR hE h
    exact hL2 K2 hR hE 300 _ h
def m_X1_nearestBelow_25_L4 (a1 : Int32) (F : mmS) : Nat → Int32 → Int32 → Option (Int32)
  | 0, _, _ => none
  | n3 + 1, v1, v2 => if (F 1 1) ≤ v2 then (some ((v1))) else (Option.bind (ald F 26 v2) fun x4 => bd1 (if a1 ≤ x4 then (some (v1)) else (if v1 = (-1 : Int32) then (some (v2)) else (Option.bind (ald F 26 v2) fun x5 => Option.bind (ald F 26 v1) fun x6 => if x5 ≤ x6 then (some (v1)) else (some (v2))))) fun y7 => mlet (v2 + (1 : Int32)) fun x8 => m_X1_nearestBelow_25_L4 a1 F n3 y7 x8)
def m_X1_nearestBelow_25 (F : mmS) (a1 : Int32) : Option (Int32) :=
  bd1 (m_X1_nearestBelow_25_L4 a1 F 300 (-1 : Int32) (0 : Int32)) fun y9 => some y9
set_option maxHeartbeats 4000000 in
set_option maxRecDepth 100000 in
theorem c_X1_nearestBelow_25 {l : Launch} {k : mmK} {F : mmS} {a1 : Int32} {r : Int32} (h : m_X1_nearestBelow_25 F a1 = some r) : mm_T l k yX1_nearestBelow cX1_nearestBelow 4 (some .int) 0 [.ref (mmad k 25), .int a1] F (some (.int r)) F := by
  refine mm_start [(0, .ref (mmad k 25)), (1, .int a1)] (by decide) (Nat.le_of_ble_eq_true rfl) rfl ?_
  intro z hz C
  subst hz
  have C : mm_C z k RX1 cX1_nearestBelow 4 (some .int) 0 := C
  replace h := mk0 h
  unfold m_X1_nearestBelow_25 at h
  refine mm_iconst (v := (-1 : Int32)) C dX1_nearestBelow_0 (by decide) 1 rfl ?_
  refine mm_istore_n (lv2 := [(2, .int (-1 : Int32)), (0, .ref (mmad k 25)), (1, .int a1)]) C dX1_nearestBelow_1 rfl (by decide) rfl 2 rfl ?_
  refine mm_iconst (v := (0 : Int32)) C dX1_nearestBelow_2 (by decide) 3 rfl ?_
  refine mm_istore_n (lv2 := [(3, .int (0 : Int32)), (2, .int (-1 : Int32)), (0, .ref (mmad k 25)), (1, .int a1)]) C dX1_nearestBelow_3 rfl (by decide) rfl 4 rfl ?_
  refine mm_lv [2, 3, 1, 0] rfl ?_
  have hL4 : ∀ (K : (Int32) → Option (Int32)) (hK : ∀ (v1 : Int32) , K (v1) = some r → mm_AW z k 4 (some (.int r)) F F 53 [(2, .int v1)] []) (n3 : Nat) (v1 : Int32) (v2 : Int32) , (m_X1_nearestBelow_25_L4 a1 F n3 v1 v2).bind K = some r → mm_AW z k 4 (some (.int r)) F F 4 [(0, .ref (mmad k 25)), (1, .int a1), (2, .int v1), (3, .int v2)] [] := by
    intro K hK n3
    induction n3 with
    | zero => intro v1 v2 h; rw [m_X1_nearestBelow_25_L4] at h; cases h
    | succ n3 ih =>
      intro v1 v2 h
      rw [m_X1_nearestBelow_25_L4] at h
      refine mm_iload_n C dX1_nearestBelow_4 rfl 3 rfl 5 rfl ?_
      refine mm_aload_n C dX1_nearestBelow_5 rfl 0 rfl 6 rfl ?_
      refine mm_get C fl_X1_9_X1 (by decide) (mc_25 k _) rfl dX1_nearestBelow_6 9 rfl ?_
      refine mm_get C fl_X1_49_X3 (by decide) (mc_1 k _) rfl dX1_nearestBelow_9 12 rfl ?_
      refine mm_icmp_ge C dX1_nearestBelow_12 53 15 (by decide) rfl (fun hc => ?_) (fun hc => ?_)
      · rw [if_pos hc] at h
        refine mm_lv [2] rfl ?_
        exact hK _ h
      · rw [if_neg hc] at h
        refine mm_aload_n C dX1_nearestBelow_15 rfl 0 rfl 16 rfl ?_
        refine mm_get C fl_X1_36_X1 (by decide) (mc_25 k _) rfl dX1_nearestBelow_16 19 rfl ?_
        refine mm_iload_n C dX1_nearestBelow_19 rfl 3 rfl 20 rfl ?_
        obtain ⟨x4, ex4, h⟩ := mb h
        refine mm_iald C ex4 dX1_nearestBelow_20 21 rfl ?_
        refine mm_iload_n C dX1_nearestBelow_21 rfl 1 rfl 22 rfl ?_
        refine mj1 h (fun (y7 : Int32) => mm_AW z k 4 (some (.int r)) F F 47 [(0, .ref (mmad k 25)), (1, .int a1), (2, .int y7), (3, .int v2)] []) ?_ ?_
        · intro y7 h
          obtain ⟨x8, ex8, h⟩ := me h
          refine mm_iinc (v := x8) (lv2 := [(3, .int x8), (0, .ref (mmad k 25)), (1, .int a1), (2, .int y7)]) C dX1_nearestBelow_47 3 rfl (by rw [← ex8]; rfl) (by decide) rfl 50 rfl ?_
          refine mm_goto C dX1_nearestBelow_50 4 (by decide) ?_
          refine mm_lv [1, 2, 3, 0] rfl ?_
          exact ih _ _ h
        · intro K2 hR47 h
          refine mm_icmp_ge C dX1_nearestBelow_22 47 25 (by decide) rfl (fun hc => ?_) (fun hc => ?_)
          · rw [if_pos hc] at h
            exact hR47 _ h
          · rw [if_neg hc] at h
            refine mm_iload_n C dX1_nearestBelow_25 rfl 2 rfl 26 rfl ?_
            refine mm_iconst (v := (-1 : Int32)) C dX1_nearestBelow_26 (by decide) 27 rfl ?_
            refine mm_icmp_eq C dX1_nearestBelow_27 45 30 (by decide) rfl (fun hc => ?_) (fun hc => ?_)
            · rw [if_pos hc] at h
              refine mm_iload_n C dX1_nearestBelow_45 rfl 3 rfl 46 rfl ?_
              refine mm_istore_n (lv2 := [(2, .int v2), (0, .ref (mmad k 25)), (1, .int a1), (3, .int v2)]) C dX1_nearestBelow_46 rfl (by decide) rfl 47 rfl ?_
              refine mm_lv [1, 2, 0, 3] rfl ?_
              exact hR47 _ h
            · rw [if_neg hc] at h
              refine mm_aload_n C dX1_nearestBelow_30 rfl 0 rfl 31 rfl ?_
              refine mm_get C fl_X1_36_X1 (by decide) (mc_25 k _) rfl dX1_nearestBelow_31 34 rfl ?_
              refine mm_iload_n C dX1_nearestBelow_34 rfl 3 rfl 35 rfl ?_
              obtain ⟨x5, ex5, h⟩ := mb h
              refine mm_iald C ex5 dX1_nearestBelow_35 36 rfl ?_
              refine mm_aload_n C dX1_nearestBelow_36 rfl 0 rfl 37 rfl ?_
              refine mm_get C fl_X1_36_X1 (by decide) (mc_25 k _) rfl dX1_nearestBelow_37 40 rfl ?_
              refine mm_iload_n C dX1_nearestBelow_40 rfl 2 rfl 41 rfl ?_
              obtain ⟨x6, ex6, h⟩ := mb h
              refine mm_iald C ex6 dX1_nearestBelow_41 42 rfl ?_
              refine mm_icmp_le C dX1_nearestBelow_42 47 45 (by decide) rfl (fun hc => ?_) (fun hc => ?_)
              · rw [if_pos hc] at h
                exact hR47 _ h
              · rw [if_neg hc] at h
                refine mm_iload_n C dX1_nearestBelow_45 rfl 3 rfl 46 rfl ?_
                refine mm_istore_n (lv2 := [(2, .int v2), (0, .ref (mmad k 25)), (1, .int a1), (3, .int v2)]) C dX1_nearestBelow_46 rfl (by decide) rfl 47 rfl ?_
                refine mm_lv [1, 2, 0, 3] rfl ?_
                exact hR47 _ h
  refine mj1 h (fun (y9 : Int32) => mm_AW z k 4 (some (.int r)) F F 53 [(2, .int y9)] []) ?_ ?_
  · intro y9 h
    refine mm_iload_n C dX1_nearestBelow_53 rfl 0 rfl 54 rfl ?_
    exact mm_iretP C (h) dX1_nearestBelow_54
  · intro K2 hR h
    exact hL4 K2 hR 300 _ _ h
def m_X1_nearestAbove_25_L4 (a1 : Int32) (F : mmS) : Nat → Int32 → Int32 → Option (Int32)
  | 0, _, _ => none
  | n3 + 1, v1, v2 => if (F 1 1) ≤ v2 then (some ((v1))) else (Option.bind (ald F 26 v2) fun x4 => bd1 (if x4 ≤ a1 then (some (v1)) else (if v1 = (-1 : Int32) then (some (v2)) else (Option.bind (ald F 26 v2) fun x5 => Option.bind (ald F 26 v1) fun x6 => if x6 ≤ x5 then (some (v1)) else (some (v2))))) fun y7 => mlet (v2 + (1 : Int32)) fun x8 => m_X1_nearestAbove_25_L4 a1 F n3 y7 x8)
def m_X1_nearestAbove_25 (F : mmS) (a1 : Int32) : Option (Int32) :=
  bd1 (m_X1_nearestAbove_25_L4 a1 F 300 (-1 : Int32) (0 : Int32)) fun y9 => some y9
set_option maxHeartbeats 4000000 in
set_option maxRecDepth 100000 in
theorem c_X1_nearestAbove_25 {l : Launch} {k : mmK} {F : mmS} {a1 : Int32} {r : Int32} (h : m_X1_nearestAbove_25 F a1 = some r) : mm_T l k yX1_nearestAbove cX1_nearestAbove 4 (some .int) 0 [.ref (mmad k 25), .int a1] F (some (.int r)) F := by
  refine mm_start [(0, .ref (mmad k 25)), (1, .int a1)] (by decide) (Nat.le_of_ble_eq_true rfl) rfl ?_
  intro z hz C
  subst hz
  have C : mm_C z k RX1 cX1_nearestAbove 4 (some .int) 0 := C
  replace h := mk0 h
  unfold m_X1_nearestAbove_25 at h
  refine mm_iconst (v := (-1 : Int32)) C dX1_nearestAbove_0 (by decide) 1 rfl ?_
  refine mm_istore_n (lv2 := [(2, .int (-1 : Int32)), (0, .ref (mmad k 25)), (1, .int a1)]) C dX1_nearestAbove_1 rfl (by decide) rfl 2 rfl ?_
  refine mm_iconst (v := (0 : Int32)) C dX1_nearestAbove_2 (by decide) 3 rfl ?_
  refine mm_istore_n (lv2 := [(3, .int (0 : Int32)), (2, .int (-1 : Int32)), (0, .ref (mmad k 25)), (1, .int a1)]) C dX1_nearestAbove_3 rfl (by decide) rfl 4 rfl ?_
  refine mm_lv [2, 3, 1, 0] rfl ?_
  have hL4 : ∀ (K : (Int32) → Option (Int32)) (hK : ∀ (v1 : Int32) , K (v1) = some r → mm_AW z k 4 (some (.int r)) F F 53 [(2, .int v1)] []) (n3 : Nat) (v1 : Int32) (v2 : Int32) , (m_X1_nearestAbove_25_L4 a1 F n3 v1 v2).bind K = some r → mm_AW z k 4 (some (.int r)) F F 4 [(0, .ref (mmad k 25)), (1, .int a1), (2, .int v1), (3, .int v2)] [] := by
    intro K hK n3
    induction n3 with
    | zero => intro v1 v2 h; rw [m_X1_nearestAbove_25_L4] at h; cases h
    | succ n3 ih =>
      intro v1 v2 h
      rw [m_X1_nearestAbove_25_L4] at h
      refine mm_iload_n C dX1_nearestAbove_4 rfl 3 rfl 5 rfl ?_
      refine mm_aload_n C dX1_nearestAbove_5 rfl 0 rfl 6 rfl ?_
      refine mm_get C fl_X1_9_X1 (by decide) (mc_25 k _) rfl dX1_nearestAbove_6 9 rfl ?_
      refine mm_get C fl_X1_49_X3 (by decide) (mc_1 k _) rfl dX1_nearestAbove_9 12 rfl ?_
      refine mm_icmp_ge C dX1_nearestAbove_12 53 15 (by decide) rfl (fun hc => ?_) (fun hc => ?_)
      · rw [if_pos hc] at h
        refine mm_lv [2] rfl ?_
        exact hK _ h
      · rw [if_neg hc] at h
        refine mm_aload_n C dX1_nearestAbove_15 rfl 0 rfl 16 rfl ?_
        refine mm_get C fl_X1_36_X1 (by decide) (mc_25 k _) rfl dX1_nearestAbove_16 19 rfl ?_
        refine mm_iload_n C dX1_nearestAbove_19 rfl 3 rfl 20 rfl ?_
        obtain ⟨x4, ex4, h⟩ := mb h
        refine mm_iald C ex4 dX1_nearestAbove_20 21 rfl ?_
        refine mm_iload_n C dX1_nearestAbove_21 rfl 1 rfl 22 rfl ?_
        refine mj1 h (fun (y7 : Int32) => mm_AW z k 4 (some (.int r)) F F 47 [(0, .ref (mmad k 25)), (1, .int a1), (2, .int y7), (3, .int v2)] []) ?_ ?_
        · intro y7 h
          obtain ⟨x8, ex8, h⟩ := me h
          refine mm_iinc (v := x8) (lv2 := [(3, .int x8), (0, .ref (mmad k 25)), (1, .int a1), (2, .int y7)]) C dX1_nearestAbove_47 3 rfl (by rw [← ex8]; rfl) (by decide) rfl 50 rfl ?_
          refine mm_goto C dX1_nearestAbove_50 4 (by decide) ?_
          refine mm_lv [1, 2, 3, 0] rfl ?_
          exact ih _ _ h
        · intro K2 hR47 h
          refine mm_icmp_le C dX1_nearestAbove_22 47 25 (by decide) rfl (fun hc => ?_) (fun hc => ?_)
          · rw [if_pos hc] at h
            exact hR47 _ h
          · rw [if_neg hc] at h
            refine mm_iload_n C dX1_nearestAbove_25 rfl 2 rfl 26 rfl ?_
            refine mm_iconst (v := (-1 : Int32)) C dX1_nearestAbove_26 (by decide) 27 rfl ?_
            refine mm_icmp_eq C dX1_nearestAbove_27 45 30 (by decide) rfl (fun hc => ?_) (fun hc => ?_)
            · rw [if_pos hc] at h
              refine mm_iload_n C dX1_nearestAbove_45 rfl 3 rfl 46 rfl ?_
              refine mm_istore_n (lv2 := [(2, .int v2), (0, .ref (mmad k 25)), (1, .int a1), (3, .int v2)]) C dX1_nearestAbove_46 rfl (by decide) rfl 47 rfl ?_
              refine mm_lv [1, 2, 0, 3] rfl ?_
              exact hR47 _ h
            · rw [if_neg hc] at h
              refine mm_aload_n C dX1_nearestAbove_30 rfl 0 rfl 31 rfl ?_
              refine mm_get C fl_X1_36_X1 (by decide) (mc_25 k _) rfl dX1_nearestAbove_31 34 rfl ?_
              refine mm_iload_n C dX1_nearestAbove_34 rfl 3 rfl 35 rfl ?_
              obtain ⟨x5, ex5, h⟩ := mb h
              refine mm_iald C ex5 dX1_nearestAbove_35 36 rfl ?_
              refine mm_aload_n C dX1_nearestAbove_36 rfl 0 rfl 37 rfl ?_
              refine mm_get C fl_X1_36_X1 (by decide) (mc_25 k _) rfl dX1_nearestAbove_37 40 rfl ?_
              refine mm_iload_n C dX1_nearestAbove_40 rfl 2 rfl 41 rfl ?_
              obtain ⟨x6, ex6, h⟩ := mb h
              refine mm_iald C ex6 dX1_nearestAbove_41 42 rfl ?_
              refine mm_icmp_ge C dX1_nearestAbove_42 47 45 (by decide) rfl (fun hc => ?_) (fun hc => ?_)
              · rw [if_pos hc] at h
                exact hR47 _ h
              · rw [if_neg hc] at h
                refine mm_iload_n C dX1_nearestAbove_45 rfl 3 rfl 46 rfl ?_
                refine mm_istore_n (lv2 := [(2, .int v2), (0, .ref (mmad k 25)), (1, .int a1), (3, .int v2)]) C dX1_nearestAbove_46 rfl (by decide) rfl 47 rfl ?_
                refine mm_lv [1, 2, 0, 3] rfl ?_
                exact hR47 _ h
  refine mj1 h (fun (y9 : Int32) => mm_AW z k 4 (some (.int r)) F F 53 [(2, .int y9)] []) ?_ ?_
  · intro y9 h
    refine mm_iload_n C dX1_nearestAbove_53 rfl 0 rfl 54 rfl ?_
    exact mm_iretP C (h) dX1_nearestAbove_54
  · intro K2 hR h
    exact hL4 K2 hR 300 _ _ h
def m_X7_send_25 (F : mmS) (a1 : Int32) (a2 : Int32) : Option (mmS) :=
  Option.bind (ald F 26 a1) fun x1 => mlet (stF F 25 2 ((F 25 2) + (mabs (x1 - a2)))) fun G2 => Option.bind (ast G2 26 a1 a2) fun G3 => mlet (stF G3 25 3 a1) fun G4 => some G4
set_option maxHeartbeats 4000000 in
set_option maxRecDepth 100000 in
theorem c_X7_send_25 {l : Launch} {k : mmK} {F : mmS} {a1 : Int32} {a2 : Int32} {F1 : mmS} (h : m_X7_send_25 F a1 a2 = some F1) : mm_T l k yX7_send cX7_send 3 none 1 [.ref (mmad k 25), .int a1, .int a2] F none F1 := by
  refine mm_start [(0, .ref (mmad k 25)), (1, .int a1), (2, .int a2)] (by decide) (Nat.le_of_ble_eq_true rfl) rfl ?_
  intro z hz C
  subst hz
  have C : mm_C z k RX7 cX7_send 3 none 1 := C
  replace h := mk0 h
  unfold m_X7_send_25 at h
  refine mm_aload_n C dX7_send_0 rfl 0 rfl 1 rfl ?_
  refine mm_dup C dX7_send_1 rfl 2 rfl ?_
  refine mm_get C fl_X7_34_X1 (by decide) (mc_25 k _) rfl dX7_send_2 5 rfl ?_
  refine mm_aload_n C dX7_send_5 rfl 0 rfl 6 rfl ?_
  refine mm_get C fl_X7_9_X1 (by decide) (mc_25 k _) rfl dX7_send_6 9 rfl ?_
  refine mm_iload_n C dX7_send_9 rfl 1 rfl 10 rfl ?_
  obtain ⟨x1, ex1, h⟩ := mb h
  refine mm_iald C ex1 dX7_send_10 11 rfl ?_
  refine mm_iload_n C dX7_send_11 rfl 2 rfl 12 rfl ?_
  refine mm_isub C dX7_send_12 13 rfl ?_
  refine mm_abs C mw_599 mw_552 mw_62 mw_553 (by omega) (Nat.le_trans (Nat.le_of_ble_eq_true rfl : _ ≤ 40) (by omega)) dX7_send_13 16 rfl ?_
  refine mm_iadd C dX7_send_16 17 rfl ?_
  obtain ⟨G2, eG2, h⟩ := me h
  refine mm_put (x := ((F 25 2) + (mabs (x1 - a2)))) (ty := .int) C fl_X7_34_X1 (by decide) (mc_25 k _) (mc_25 k _) tyX1 tyX1_ok nmX1 rfl (by decide +kernel) rfl rfl (Nat.le_of_ble_eq_true rfl) eG2 dX7_send_17 20 rfl ?_
  refine mm_aload_n C dX7_send_20 rfl 0 rfl 21 rfl ?_
  refine mm_get C fl_X7_9_X1 (by decide) (mc_25 k _) rfl dX7_send_21 24 rfl ?_
  refine mm_iload_n C dX7_send_24 rfl 1 rfl 25 rfl ?_
  refine mm_iload_n C dX7_send_25 rfl 2 rfl 26 rfl ?_
  obtain ⟨G3, eG3, h⟩ := mb h
  refine mm_iast C eG3 dX7_send_26 27 rfl ?_
  refine mm_aload_n C dX7_send_27 rfl 0 rfl 28 rfl ?_
  refine mm_iload_n C dX7_send_28 rfl 1 rfl 29 rfl ?_
  obtain ⟨G4, eG4, h⟩ := me h
  refine mm_put (x := a1) (ty := .int) C fl_X7_15_X1 (by decide) (mc_25 k _) (mc_25 k _) tyX1 tyX1_ok nmX1 rfl (by decide +kernel) rfl rfl (Nat.le_of_ble_eq_true rfl) eG4 dX7_send_29 32 rfl ?_
  exact mm_vretW C (h) dX7_send_32
def m_X1_meet_25 (F : mmS) (a1 : Int32) (a2 : Int32) : Option (mmS) :=
  Option.bind (ald F 2 a1) fun x1 => Option.bind (m_X1_isServed_25 F x1) fun x2 => if x2 = (0 : Int32) then (Option.bind (m_X1_nearestBelow_25 F x1) fun x3 => Option.bind (m_X1_nearestAbove_25 F x1) fun x4 => if x3 = (-1 : Int32) then (if x3 = (-1 : Int32) then (if x4 = (-1 : Int32) then (some F) else (Option.bind (m_X7_send_25 F x4 x1) fun G5 => some G5)) else (Option.bind (m_X7_send_25 F x3 x1) fun G6 => some G6)) else (if x4 = (-1 : Int32) then (if x3 = (-1 : Int32) then (if x4 = (-1 : Int32) then (some F) else (Option.bind (m_X7_send_25 F x4 x1) fun G7 => some G7)) else (Option.bind (m_X7_send_25 F x3 x1) fun G8 => some G8)) else (Option.bind (ald F 26 x3) fun x9 => Option.bind (ald F 26 x4) fun x10 => mlet (mmin (x1 - x9) (x10 - x1)) fun x11 => Option.bind (ald F 26 x3) fun x12 => Option.bind (m_X7_send_25 F x3 (x12 + x11)) fun G13 => Option.bind (ald G13 26 x4) fun x14 => Option.bind (m_X7_send_25 G13 x4 (x14 - x11)) fun G15 => some G15))) else (mlet (stF F 25 3 (-1 : Int32)) fun G16 => some G16)
set_option maxHeartbeats 4000000 in
set_option maxRecDepth 100000 in
theorem c_X1_meet_25 {l : Launch} {k : mmK} {F : mmS} {a1 : Int32} {a2 : Int32} {F1 : mmS} (h : m_X1_meet_25 F a1 a2 = some F1) : mm_T l k yX1_meet cX1_meet 7 none 2 [.ref (mmad k 25), .int a1, .int a2] F none F1 := by
  refine mm_start [(0, .ref (mmad k 25)), (1, .int a1), (2, .int a2)] (by decide) (Nat.le_of_ble_eq_true rfl) rfl ?_
  intro z hz C
  subst hz
  have C : mm_C z k RX1 cX1_meet 7 none 2 := C
  replace h := mk0 h
  unfold m_X1_meet_25 at h
  refine mm_aload_n C dX1_meet_0 rfl 0 rfl 1 rfl ?_
  refine mm_get C fl_X1_9_X1 (by decide) (mc_25 k _) rfl dX1_meet_1 4 rfl ?_
  refine mm_get C fl_X1_15_X3 (by decide) (mc_1 k _) rfl dX1_meet_4 7 rfl ?_
  refine mm_iload_n C dX1_meet_7 rfl 1 rfl 8 rfl ?_
  obtain ⟨x1, ex1, h⟩ := mb h
  refine mm_iald C ex1 dX1_meet_8 9 rfl ?_
  refine mm_istore_n (lv2 := [(3, .int x1), (0, .ref (mmad k 25)), (1, .int a1), (2, .int a2)]) C dX1_meet_9 rfl (by decide) rfl 10 rfl ?_
  refine mm_aload_n C dX1_meet_10 rfl 1 rfl 11 rfl ?_
  refine mm_iload_n C dX1_meet_11 rfl 0 rfl 12 rfl ?_
  obtain ⟨x2, ex2, h⟩ := mb h
  refine mm_callV [.int x1] C (c_X1_isServed_25 ex2) wb_X1_isServed wv_X1_21 (by decide) (mc_25 k _) rfl rfl rfl (by omega) rfl (Nat.le_of_ble_eq_true rfl) dX1_meet_12 15 rfl ?_
  show mm_AW z k 7 none F1 F 15 [(3, .int x1), (0, .ref (mmad k 25)), (1, .int a1), (2, .int a2)] [.int x2]
  refine mm_if_eq C dX1_meet_15 24 18 (by decide) rfl (fun hc => ?_) (fun hc => ?_)
  · rw [if_pos hc] at h
    refine mm_aload_n C dX1_meet_24 rfl 1 rfl 25 rfl ?_
    refine mm_iload_n C dX1_meet_25 rfl 0 rfl 26 rfl ?_
    obtain ⟨x3, ex3, h⟩ := mb h
    refine mm_callV [.int x1] C (c_X1_nearestBelow_25 ex3) wb_X1_nearestBelow wv_X1_29 (by decide) (mc_25 k _) rfl rfl rfl (by omega) rfl (Nat.le_of_ble_eq_true rfl) dX1_meet_26 29 rfl ?_
    show mm_AW z k 7 none F1 F 29 [(3, .int x1), (0, .ref (mmad k 25)), (1, .int a1), (2, .int a2)] [.int x3]
    refine mm_istore (lv2 := [(4, .int x3), (3, .int x1), (0, .ref (mmad k 25)), (1, .int a1), (2, .int a2)]) C dX1_meet_29 (by decide) rfl 31 rfl ?_
    refine mm_aload_n C dX1_meet_31 rfl 2 rfl 32 rfl ?_
    refine mm_iload_n C dX1_meet_32 rfl 1 rfl 33 rfl ?_
    obtain ⟨x4, ex4, h⟩ := mb h
    refine mm_callV [.int x1] C (c_X1_nearestAbove_25 ex4) wb_X1_nearestAbove wv_X1_33 (by decide) (mc_25 k _) rfl rfl rfl (by omega) rfl (Nat.le_of_ble_eq_true rfl) dX1_meet_33 36 rfl ?_
    show mm_AW z k 7 none F1 F 36 [(4, .int x3), (3, .int x1), (0, .ref (mmad k 25)), (1, .int a1), (2, .int a2)] [.int x4]
    refine mm_istore (lv2 := [(5, .int x4), (4, .int x3), (3, .int x1), (0, .ref (mmad k 25)), (1, .int a1), (2, .int a2)]) C dX1_meet_36 (by decide) rfl 38 rfl ?_
    refine mm_iload C dX1_meet_38 1 rfl 40 rfl ?_
    refine mm_iconst (v := (-1 : Int32)) C dX1_meet_40 (by decide) 41 rfl ?_
    refine mm_icmp_eq C dX1_meet_41 108 44 (by decide) rfl (fun hc => ?_) (fun hc => ?_)
    · rw [if_pos hc] at h
      refine mm_iload C dX1_meet_108 1 rfl 110 rfl ?_
      refine mm_iconst (v := (-1 : Int32)) C dX1_meet_110 (by decide) 111 rfl ?_
      refine mm_icmp_eq C dX1_meet_111 124 114 (by decide) rfl (fun hc => ?_) (fun hc => ?_)
      · rw [if_pos hc] at h
        refine mm_iload C dX1_meet_124 0 rfl 126 rfl ?_
        refine mm_iconst (v := (-1 : Int32)) C dX1_meet_126 (by decide) 127 rfl ?_
        refine mm_icmp_eq C dX1_meet_127 137 130 (by decide) rfl (fun hc => ?_) (fun hc => ?_)
        · rw [if_pos hc] at h
          exact mm_vretW C (h) dX1_meet_137
        · rw [if_neg hc] at h
          refine mm_aload_n C dX1_meet_130 rfl 3 rfl 131 rfl ?_
          refine mm_iload C dX1_meet_131 0 rfl 133 rfl ?_
          refine mm_iload_n C dX1_meet_133 rfl 2 rfl 134 rfl ?_
          obtain ⟨G5, eG5, h⟩ := mb h
          refine mm_callU [.int x4, .int x1] C (c_X7_send_25 eG5) wb_X7_send wu_X1_45_X1 (fun s hN => hN.2.2.2.1) (by decide) (mc_25 k _) rfl rfl (by omega) rfl (Nat.le_of_ble_eq_true rfl) dX1_meet_134 137 rfl ?_
          show mm_AW z k 7 none F1 G5 137 [(5, .int x4), (4, .int x3), (3, .int x1), (0, .ref (mmad k 25)), (1, .int a1), (2, .int a2)] []
          exact mm_vretW C (h) dX1_meet_137
      · rw [if_neg hc] at h
        refine mm_aload_n C dX1_meet_114 rfl 3 rfl 115 rfl ?_
        refine mm_iload C dX1_meet_115 1 rfl 117 rfl ?_
        refine mm_iload_n C dX1_meet_117 rfl 2 rfl 118 rfl ?_
        obtain ⟨G6, eG6, h⟩ := mb h
        refine mm_callU [.int x3, .int x1] C (c_X7_send_25 eG6) wb_X7_send wu_X1_45_X1 (fun s hN => hN.2.2.2.1) (by decide) (mc_25 k _) rfl rfl (by omega) rfl (Nat.le_of_ble_eq_true rfl) dX1_meet_118 121 rfl ?_
        show mm_AW z k 7 none F1 G6 121 [(5, .int x4), (4, .int x3), (3, .int x1), (0, .ref (mmad k 25)), (1, .int a1), (2, .int a2)] []
        refine mm_goto C dX1_meet_121 137 (by decide) ?_
        exact mm_vretW C (h) dX1_meet_137
    · rw [if_neg hc] at h
      refine mm_iload C dX1_meet_44 0 rfl 46 rfl ?_
      refine mm_iconst (v := (-1 : Int32)) C dX1_meet_46 (by decide) 47 rfl ?_
      refine mm_icmp_eq C dX1_meet_47 108 50 (by decide) rfl (fun hc => ?_) (fun hc => ?_)
      · rw [if_pos hc] at h
        refine mm_iload C dX1_meet_108 1 rfl 110 rfl ?_
        refine mm_iconst (v := (-1 : Int32)) C dX1_meet_110 (by decide) 111 rfl ?_
        refine mm_icmp_eq C dX1_meet_111 124 114 (by decide) rfl (fun hc => ?_) (fun hc => ?_)
        · rw [if_pos hc] at h
          refine mm_iload C dX1_meet_124 0 rfl 126 rfl ?_
          refine mm_iconst (v := (-1 : Int32)) C dX1_meet_126 (by decide) 127 rfl ?_
          refine mm_icmp_eq C dX1_meet_127 137 130 (by decide) rfl (fun hc => ?_) (fun hc => ?_)
          · rw [if_pos hc] at h
            exact mm_vretW C (h) dX1_meet_137
          · rw [if_neg hc] at h
            refine mm_aload_n C dX1_meet_130 rfl 3 rfl 131 rfl ?_
            refine mm_iload C dX1_meet_131 0 rfl 133 rfl ?_
            refine mm_iload_n C dX1_meet_133 rfl 2 rfl 134 rfl ?_
            obtain ⟨G7, eG7, h⟩ := mb h
            refine mm_callU [.int x4, .int x1] C (c_X7_send_25 eG7) wb_X7_send wu_X1_45_X1 (fun s hN => hN.2.2.2.1) (by decide) (mc_25 k _) rfl rfl (by omega) rfl (Nat.le_of_ble_eq_true rfl) dX1_meet_134 137 rfl ?_
            show mm_AW z k 7 none F1 G7 137 [(5, .int x4), (4, .int x3), (3, .int x1), (0, .ref (mmad k 25)), (1, .int a1), (2, .int a2)] []
            exact mm_vretW C (h) dX1_meet_137
        · rw [if_neg hc] at h
          refine mm_aload_n C dX1_meet_114 rfl 3 rfl 115 rfl ?_
          refine mm_iload C dX1_meet_115 1 rfl 117 rfl ?_
          refine mm_iload_n C dX1_meet_117 rfl 2 rfl 118 rfl ?_
          obtain ⟨G8, eG8, h⟩ := mb h
          refine mm_callU [.int x3, .int x1] C (c_X7_send_25 eG8) wb_X7_send wu_X1_45_X1 (fun s hN => hN.2.2.2.1) (by decide) (mc_25 k _) rfl rfl (by omega) rfl (Nat.le_of_ble_eq_true rfl) dX1_meet_118 121 rfl ?_
          show mm_AW z k 7 none F1 G8 121 [(5, .int x4), (4, .int x3), (3, .int x1), (0, .ref (mmad k 25)), (1, .int a1), (2, .int a2)] []
          refine mm_goto C dX1_meet_121 137 (by decide) ?_
          exact mm_vretW C (h) dX1_meet_137
      · rw [if_neg hc] at h
        refine mm_iload_n C dX1_meet_50 rfl 2 rfl 51 rfl ?_
        refine mm_aload_n C dX1_meet_51 rfl 3 rfl 52 rfl ?_
        refine mm_get C fl_X1_36_X1 (by decide) (mc_25 k _) rfl dX1_meet_52 55 rfl ?_
        refine mm_iload C dX1_meet_55 1 rfl 57 rfl ?_
        obtain ⟨x9, ex9, h⟩ := mb h
        refine mm_iald C ex9 dX1_meet_57 58 rfl ?_
        refine mm_isub C dX1_meet_58 59 rfl ?_
        refine mm_aload_n C dX1_meet_59 rfl 3 rfl 60 rfl ?_
        refine mm_get C fl_X1_36_X1 (by decide) (mc_25 k _) rfl dX1_meet_60 63 rfl ?_
        refine mm_iload C dX1_meet_63 0 rfl 65 rfl ?_
        obtain ⟨x10, ex10, h⟩ := mb h
        refine mm_iald C ex10 dX1_meet_65 66 rfl ?_
        refine mm_iload_n C dX1_meet_66 rfl 2 rfl 67 rfl ?_
        refine mm_isub C dX1_meet_67 68 rfl ?_
        refine mm_min C mw_615 mw_517 mw_62 mw_518 (by omega) (Nat.le_trans (Nat.le_of_ble_eq_true rfl : _ ≤ 40) (by omega)) dX1_meet_68 71 rfl ?_
        obtain ⟨x11, ex11, h⟩ := me h
        refine mm_top ex11 ?_
        refine mm_istore (lv2 := [(6, .int x11), (5, .int x4), (4, .int x3), (3, .int x1), (0, .ref (mmad k 25)), (1, .int a1), (2, .int a2)]) C dX1_meet_71 (by decide) rfl 73 rfl ?_
        refine mm_aload_n C dX1_meet_73 rfl 4 rfl 74 rfl ?_
        refine mm_iload C dX1_meet_74 2 rfl 76 rfl ?_
        refine mm_aload_n C dX1_meet_76 rfl 4 rfl 77 rfl ?_
        refine mm_get C fl_X1_36_X1 (by decide) (mc_25 k _) rfl dX1_meet_77 80 rfl ?_
        refine mm_iload C dX1_meet_80 2 rfl 82 rfl ?_
        obtain ⟨x12, ex12, h⟩ := mb h
        refine mm_iald C ex12 dX1_meet_82 83 rfl ?_
        refine mm_iload C dX1_meet_83 0 rfl 85 rfl ?_
        refine mm_iadd C dX1_meet_85 86 rfl ?_
        obtain ⟨G13, eG13, h⟩ := mb h
        refine mm_callU [.int x3, .int (x12 + x11)] C (c_X7_send_25 eG13) wb_X7_send wu_X1_45_X1 (fun s hN => hN.2.2.2.1) (by decide) (mc_25 k _) rfl rfl (by omega) rfl (Nat.le_of_ble_eq_true rfl) dX1_meet_86 89 rfl ?_
        show mm_AW z k 7 none F1 G13 89 [(6, .int x11), (5, .int x4), (4, .int x3), (3, .int x1), (0, .ref (mmad k 25)), (1, .int a1), (2, .int a2)] []
        refine mm_aload_n C dX1_meet_89 rfl 4 rfl 90 rfl ?_
        refine mm_iload C dX1_meet_90 1 rfl 92 rfl ?_
        refine mm_aload_n C dX1_meet_92 rfl 4 rfl 93 rfl ?_
        refine mm_get C fl_X1_36_X1 (by decide) (mc_25 k _) rfl dX1_meet_93 96 rfl ?_
        refine mm_iload C dX1_meet_96 1 rfl 98 rfl ?_
        obtain ⟨x14, ex14, h⟩ := mb h
        refine mm_iald C ex14 dX1_meet_98 99 rfl ?_
        refine mm_iload C dX1_meet_99 0 rfl 101 rfl ?_
        refine mm_isub C dX1_meet_101 102 rfl ?_
        obtain ⟨G15, eG15, h⟩ := mb h
        refine mm_callU [.int x4, .int (x14 - x11)] C (c_X7_send_25 eG15) wb_X7_send wu_X1_45_X1 (fun s hN => hN.2.2.2.1) (by decide) (mc_25 k _) rfl rfl (by omega) rfl (Nat.le_of_ble_eq_true rfl) dX1_meet_102 105 rfl ?_
        show mm_AW z k 7 none F1 G15 105 [(6, .int x11), (5, .int x4), (4, .int x3), (3, .int x1), (0, .ref (mmad k 25)), (1, .int a1), (2, .int a2)] []
        refine mm_goto C dX1_meet_105 137 (by decide) ?_
        exact mm_vretW C (h) dX1_meet_137
  · rw [if_neg hc] at h
    refine mm_aload_n C dX1_meet_18 rfl 1 rfl 19 rfl ?_
    refine mm_iconst (v := (-1 : Int32)) C dX1_meet_19 (by decide) 20 rfl ?_
    obtain ⟨G16, eG16, h⟩ := me h
    refine mm_put (x := (-1 : Int32)) (ty := .int) C fl_X1_25_X1 (by decide) (mc_25 k _) (mc_25 k _) tyX1 tyX1_ok nmX1 rfl (by decide +kernel) rfl rfl (Nat.le_of_ble_eq_true rfl) eG16 dX1_meet_20 23 rfl ?_
    exact mm_vretW C (h) dX1_meet_23
def m_X5_nearestTo_27_L4 (a1 : Int32) (F : mmS) : Nat → Int32 → Int32 → Option (Int32)
  | 0, _, _ => none
  | n3 + 1, v1, v2 => if (F 1 1) ≤ v2 then (some ((v1))) else (Option.bind (ald F 28 v2) fun x4 => Option.bind (ald F 28 v1) fun x5 => bd1 (if (mabs (x5 - a1)) ≤ (mabs (x4 - a1)) then (some (v1)) else (some (v2))) fun y6 => mlet (v2 + (1 : Int32)) fun x7 => m_X5_nearestTo_27_L4 a1 F n3 y6 x7)
def m_X5_nearestTo_27 (F : mmS) (a1 : Int32) : Option (Int32) :=
  bd1 (m_X5_nearestTo_27_L4 a1 F 300 (0 : Int32) (1 : Int32)) fun y8 => some y8
set_option maxHeartbeats 4000000 in
set_option maxRecDepth 100000 in
theorem c_X5_nearestTo_27 {l : Launch} {k : mmK} {F : mmS} {a1 : Int32} {r : Int32} (h : m_X5_nearestTo_27 F a1 = some r) : mm_T l k yX5_nearestTo cX5_nearestTo 4 (some .int) 1 [.ref (mmad k 27), .int a1] F (some (.int r)) F := by
  refine mm_start [(0, .ref (mmad k 27)), (1, .int a1)] (by decide) (Nat.le_of_ble_eq_true rfl) rfl ?_
  intro z hz C
  subst hz
  have C : mm_C z k RX5 cX5_nearestTo 4 (some .int) 1 := C
  replace h := mk0 h
  unfold m_X5_nearestTo_27 at h
  refine mm_iconst (v := (0 : Int32)) C dX5_nearestTo_0 (by decide) 1 rfl ?_
  refine mm_istore_n (lv2 := [(2, .int (0 : Int32)), (0, .ref (mmad k 27)), (1, .int a1)]) C dX5_nearestTo_1 rfl (by decide) rfl 2 rfl ?_
  refine mm_iconst (v := (1 : Int32)) C dX5_nearestTo_2 (by decide) 3 rfl ?_
  refine mm_istore_n (lv2 := [(3, .int (1 : Int32)), (2, .int (0 : Int32)), (0, .ref (mmad k 27)), (1, .int a1)]) C dX5_nearestTo_3 rfl (by decide) rfl 4 rfl ?_
  refine mm_lv [2, 3, 1, 0] rfl ?_
  have hL4 : ∀ (K : (Int32) → Option (Int32)) (hK : ∀ (v1 : Int32) , K (v1) = some r → mm_AW z k 4 (some (.int r)) F F 48 [(2, .int v1)] []) (n3 : Nat) (v1 : Int32) (v2 : Int32) , (m_X5_nearestTo_27_L4 a1 F n3 v1 v2).bind K = some r → mm_AW z k 4 (some (.int r)) F F 4 [(0, .ref (mmad k 27)), (1, .int a1), (2, .int v1), (3, .int v2)] [] := by
    intro K hK n3
    induction n3 with
    | zero => intro v1 v2 h; rw [m_X5_nearestTo_27_L4] at h; cases h
    | succ n3 ih =>
      intro v1 v2 h
      rw [m_X5_nearestTo_27_L4] at h
      refine mm_iload_n C dX5_nearestTo_4 rfl 3 rfl 5 rfl ?_
      refine mm_aload_n C dX5_nearestTo_5 rfl 0 rfl 6 rfl ?_
      refine mm_get C fl_X5_15_X5 (by decide) (mc_27 k _) rfl dX5_nearestTo_6 9 rfl ?_
      refine mm_get C fl_X5_33_X3 (by decide) (mc_1 k _) rfl dX5_nearestTo_9 12 rfl ?_
      refine mm_icmp_ge C dX5_nearestTo_12 48 15 (by decide) rfl (fun hc => ?_) (fun hc => ?_)
      · rw [if_pos hc] at h
        refine mm_lv [2] rfl ?_
        exact hK _ h
      · rw [if_neg hc] at h
        refine mm_aload_n C dX5_nearestTo_15 rfl 0 rfl 16 rfl ?_
        refine mm_get C fl_X5_37_X5 (by decide) (mc_27 k _) rfl dX5_nearestTo_16 19 rfl ?_
        refine mm_iload_n C dX5_nearestTo_19 rfl 3 rfl 20 rfl ?_
        obtain ⟨x4, ex4, h⟩ := mb h
        refine mm_iald C ex4 dX5_nearestTo_20 21 rfl ?_
        refine mm_iload_n C dX5_nearestTo_21 rfl 1 rfl 22 rfl ?_
        refine mm_isub C dX5_nearestTo_22 23 rfl ?_
        refine mm_abs C mw_631 mw_552 mw_62 mw_553 (by omega) (Nat.le_trans (Nat.le_of_ble_eq_true rfl : _ ≤ 40) (by omega)) dX5_nearestTo_23 26 rfl ?_
        refine mm_aload_n C dX5_nearestTo_26 rfl 0 rfl 27 rfl ?_
        refine mm_get C fl_X5_37_X5 (by decide) (mc_27 k _) rfl dX5_nearestTo_27 30 rfl ?_
        refine mm_iload_n C dX5_nearestTo_30 rfl 2 rfl 31 rfl ?_
        obtain ⟨x5, ex5, h⟩ := mb h
        refine mm_iald C ex5 dX5_nearestTo_31 32 rfl ?_
        refine mm_iload_n C dX5_nearestTo_32 rfl 1 rfl 33 rfl ?_
        refine mm_isub C dX5_nearestTo_33 34 rfl ?_
        refine mm_abs C mw_631 mw_552 mw_62 mw_553 (by omega) (Nat.le_trans (Nat.le_of_ble_eq_true rfl : _ ≤ 40) (by omega)) dX5_nearestTo_34 37 rfl ?_
        refine mj1 h (fun (y6 : Int32) => mm_AW z k 4 (some (.int r)) F F 42 [(0, .ref (mmad k 27)), (1, .int a1), (2, .int y6), (3, .int v2)] []) ?_ ?_
        · intro y6 h
          obtain ⟨x7, ex7, h⟩ := me h
          refine mm_iinc (v := x7) (lv2 := [(3, .int x7), (0, .ref (mmad k 27)), (1, .int a1), (2, .int y6)]) C dX5_nearestTo_42 3 rfl (by rw [← ex7]; rfl) (by decide) rfl 45 rfl ?_
          refine mm_goto C dX5_nearestTo_45 4 (by decide) ?_
          refine mm_lv [1, 2, 3, 0] rfl ?_
          exact ih _ _ h
        · intro K2 hR42 h
          refine mm_icmp_ge C dX5_nearestTo_37 42 40 (by decide) rfl (fun hc => ?_) (fun hc => ?_)
          · rw [if_pos hc] at h
            exact hR42 _ h
          · rw [if_neg hc] at h
            refine mm_iload_n C dX5_nearestTo_40 rfl 3 rfl 41 rfl ?_
            refine mm_istore_n (lv2 := [(2, .int v2), (0, .ref (mmad k 27)), (1, .int a1), (3, .int v2)]) C dX5_nearestTo_41 rfl (by decide) rfl 42 rfl ?_
            refine mm_lv [1, 2, 0, 3] rfl ?_
            exact hR42 _ h
  refine mj1 h (fun (y8 : Int32) => mm_AW z k 4 (some (.int r)) F F 48 [(2, .int y8)] []) ?_ ?_
  · intro y8 h
    refine mm_iload_n C dX5_nearestTo_48 rfl 0 rfl 49 rfl ?_
    exact mm_iretP C (h) dX5_nearestTo_49
  · intro K2 hR h
    exact hL4 K2 hR 300 _ _ h
def m_X7_send_27 (F : mmS) (a1 : Int32) (a2 : Int32) : Option (mmS) :=
  Option.bind (ald F 28 a1) fun x1 => mlet (stF F 27 2 ((F 27 2) + (mabs (x1 - a2)))) fun G2 => Option.bind (ast G2 28 a1 a2) fun G3 => mlet (stF G3 27 3 a1) fun G4 => some G4
set_option maxHeartbeats 4000000 in
set_option maxRecDepth 100000 in
theorem c_X7_send_27 {l : Launch} {k : mmK} {F : mmS} {a1 : Int32} {a2 : Int32} {F1 : mmS} (h : m_X7_send_27 F a1 a2 = some F1) : mm_T l k yX7_send cX7_send 3 none 1 [.ref (mmad k 27), .int a1, .int a2] F none F1 := by
  refine mm_start [(0, .ref (mmad k 27)), (1, .int a1), (2, .int a2)] (by decide) (Nat.le_of_ble_eq_true rfl) rfl ?_
  intro z hz C
  subst hz
  have C : mm_C z k RX7 cX7_send 3 none 1 := C
  replace h := mk0 h
  unfold m_X7_send_27 at h
  refine mm_aload_n C dX7_send_0 rfl 0 rfl 1 rfl ?_
  refine mm_dup C dX7_send_1 rfl 2 rfl ?_
  refine mm_get C fl_X7_34_X5 (by decide) (mc_27 k _) rfl dX7_send_2 5 rfl ?_
  refine mm_aload_n C dX7_send_5 rfl 0 rfl 6 rfl ?_
  refine mm_get C fl_X7_9_X5 (by decide) (mc_27 k _) rfl dX7_send_6 9 rfl ?_
  refine mm_iload_n C dX7_send_9 rfl 1 rfl 10 rfl ?_
  obtain ⟨x1, ex1, h⟩ := mb h
  refine mm_iald C ex1 dX7_send_10 11 rfl ?_
  refine mm_iload_n C dX7_send_11 rfl 2 rfl 12 rfl ?_
  refine mm_isub C dX7_send_12 13 rfl ?_
  refine mm_abs C mw_599 mw_552 mw_62 mw_553 (by omega) (Nat.le_trans (Nat.le_of_ble_eq_true rfl : _ ≤ 40) (by omega)) dX7_send_13 16 rfl ?_
  refine mm_iadd C dX7_send_16 17 rfl ?_
  obtain ⟨G2, eG2, h⟩ := me h
  refine mm_put (x := ((F 27 2) + (mabs (x1 - a2)))) (ty := .int) C fl_X7_34_X5 (by decide) (mc_27 k _) (mc_27 k _) tyX5 tyX5_ok nmX5 rfl (by decide +kernel) rfl rfl (Nat.le_of_ble_eq_true rfl) eG2 dX7_send_17 20 rfl ?_
  refine mm_aload_n C dX7_send_20 rfl 0 rfl 21 rfl ?_
  refine mm_get C fl_X7_9_X5 (by decide) (mc_27 k _) rfl dX7_send_21 24 rfl ?_
  refine mm_iload_n C dX7_send_24 rfl 1 rfl 25 rfl ?_
  refine mm_iload_n C dX7_send_25 rfl 2 rfl 26 rfl ?_
  obtain ⟨G3, eG3, h⟩ := mb h
  refine mm_iast C eG3 dX7_send_26 27 rfl ?_
  refine mm_aload_n C dX7_send_27 rfl 0 rfl 28 rfl ?_
  refine mm_iload_n C dX7_send_28 rfl 1 rfl 29 rfl ?_
  obtain ⟨G4, eG4, h⟩ := me h
  refine mm_put (x := a1) (ty := .int) C fl_X7_15_X5 (by decide) (mc_27 k _) (mc_27 k _) tyX5 tyX5_ok nmX5 rfl (by decide +kernel) rfl rfl (Nat.le_of_ble_eq_true rfl) eG4 dX7_send_29 32 rfl ?_
  exact mm_vretW C (h) dX7_send_32
def m_X5_meet_27 (F : mmS) (a1 : Int32) (a2 : Int32) : Option (mmS) :=
  Option.bind (ald F 2 a1) fun x1 => bd1 (if (F 27 4) = (0 : Int32) then (some ((0 : Int32))) else (if a2 = (-1 : Int32) then (some ((0 : Int32))) else (some ((1 : Int32))))) fun y2 => bd1 (if y2 = (0 : Int32) then (Option.bind (m_X5_nearestTo_27 F x1) fun x3 => some (x3)) else (some (a2))) fun y4 => Option.bind (m_X7_send_27 F y4 x1) fun G5 => some G5
set_option maxHeartbeats 4000000 in
set_option maxRecDepth 100000 in
theorem c_X5_meet_27 {l : Launch} {k : mmK} {F : mmS} {a1 : Int32} {a2 : Int32} {F1 : mmS} (h : m_X5_meet_27 F a1 a2 = some F1) : mm_T l k yX5_meet cX5_meet 5 none 2 [.ref (mmad k 27), .int a1, .int a2] F none F1 := by
  refine mm_start [(0, .ref (mmad k 27)), (1, .int a1), (2, .int a2)] (by decide) (Nat.le_of_ble_eq_true rfl) rfl ?_
  intro z hz C
  subst hz
  have C : mm_C z k RX5 cX5_meet 5 none 2 := C
  replace h := mk0 h
  unfold m_X5_meet_27 at h
  refine mm_aload_n C dX5_meet_0 rfl 0 rfl 1 rfl ?_
  refine mm_get C fl_X5_15_X5 (by decide) (mc_27 k _) rfl dX5_meet_1 4 rfl ?_
  refine mm_get C fl_X5_19_X3 (by decide) (mc_1 k _) rfl dX5_meet_4 7 rfl ?_
  refine mm_iload_n C dX5_meet_7 rfl 1 rfl 8 rfl ?_
  obtain ⟨x1, ex1, h⟩ := mb h
  refine mm_iald C ex1 dX5_meet_8 9 rfl ?_
  refine mm_istore_n (lv2 := [(3, .int x1), (0, .ref (mmad k 27)), (1, .int a1), (2, .int a2)]) C dX5_meet_9 rfl (by decide) rfl 10 rfl ?_
  refine mm_aload_n C dX5_meet_10 rfl 1 rfl 11 rfl ?_
  refine mm_get C fl_X5_9_X5 (by decide) (mc_27 k _) rfl dX5_meet_11 14 rfl ?_
  refine mj1 h (fun (y2 : Int32) => mm_AW z k 5 none F1 F 27 [(0, .ref (mmad k 27)), (2, .int a2), (3, .int x1)] [.int y2]) ?_ ?_
  · intro y2 h
    refine mm_istore (lv2 := [(4, .int y2), (0, .ref (mmad k 27)), (2, .int a2), (3, .int x1)]) C dX5_meet_27 (by decide) rfl 29 rfl ?_
    refine mm_aload_n C dX5_meet_29 rfl 1 rfl 30 rfl ?_
    refine mm_iload C dX5_meet_30 0 rfl 32 rfl ?_
    refine mj1 h (fun (y4 : Int32) => mm_AW z k 5 none F1 F 44 [(3, .int x1)] [.int y4, .ref (mmad k 27)]) ?_ ?_
    · intro y4 h
      refine mm_iload_n C dX5_meet_44 rfl 0 rfl 45 rfl ?_
      obtain ⟨G5, eG5, h⟩ := mb h
      refine mm_callU [.int y4, .int x1] C (c_X7_send_27 eG5) wb_X7_send wu_X5_29_X5 (fun s hN => hN.2.2.2.1) (by decide) (mc_27 k _) rfl rfl (by omega) rfl (Nat.le_of_ble_eq_true rfl) dX5_meet_45 48 rfl ?_
      show mm_AW z k 5 none F1 G5 48 [(3, .int x1)] []
      exact mm_vretW C (h) dX5_meet_48
    · intro K2 hR44 h
      refine mm_if_eq C dX5_meet_32 39 35 (by decide) rfl (fun hc => ?_) (fun hc => ?_)
      · rw [if_pos hc] at h
        refine mm_aload_n C dX5_meet_39 rfl 1 rfl 40 rfl ?_
        refine mm_iload_n C dX5_meet_40 rfl 3 rfl 41 rfl ?_
        obtain ⟨x3, ex3, h⟩ := mb h
        refine mm_callV [.int x1] C (c_X5_nearestTo_27 ex3) wb_X5_nearestTo wv_X5_25 (by decide) (mc_27 k _) rfl rfl rfl (by omega) rfl (Nat.le_of_ble_eq_true rfl) dX5_meet_41 44 rfl ?_
        show mm_AW z k 5 none F1 F 44 [(4, .int y2), (0, .ref (mmad k 27)), (2, .int a2), (3, .int x1)] [.int x3, .ref (mmad k 27)]
        refine mm_lv [3] rfl ?_
        exact hR44 _ h
      · rw [if_neg hc] at h
        refine mm_iload_n C dX5_meet_35 rfl 2 rfl 36 rfl ?_
        refine mm_goto C dX5_meet_36 44 (by decide) ?_
        refine mm_lv [3] rfl ?_
        exact hR44 _ h
  · intro K2 hR27 h
    refine mm_if_eq C dX5_meet_14 26 17 (by decide) rfl (fun hc => ?_) (fun hc => ?_)
    · rw [if_pos hc] at h
      refine mm_iconst (v := (0 : Int32)) C dX5_meet_26 (by decide) 27 rfl ?_
      refine mm_lv [1, 3, 0] rfl ?_
      exact hR27 _ h
    · rw [if_neg hc] at h
      refine mm_iload_n C dX5_meet_17 rfl 3 rfl 18 rfl ?_
      refine mm_iconst (v := (-1 : Int32)) C dX5_meet_18 (by decide) 19 rfl ?_
      refine mm_icmp_eq C dX5_meet_19 26 22 (by decide) rfl (fun hc => ?_) (fun hc => ?_)
      · rw [if_pos hc] at h
        refine mm_iconst (v := (0 : Int32)) C dX5_meet_26 (by decide) 27 rfl ?_
        refine mm_lv [1, 3, 0] rfl ?_
        exact hR27 _ h
      · rw [if_neg hc] at h
        refine mm_iconst (v := (1 : Int32)) C dX5_meet_22 (by decide) 23 rfl ?_
        refine mm_goto C dX5_meet_23 27 (by decide) ?_
        refine mm_lv [1, 3, 0] rfl ?_
        exact hR27 _ h
def m_X2_isTooDear_23_25_27 (F : mmS)  : Option (Int32) :=
  if (F 25 2) ≤ ((F 1 2) * (F 27 2)) then (Option.bind (zg (0 : Int32)) fun x1 => some (x1)) else (Option.bind (zg (1 : Int32)) fun x2 => some (x2))
set_option maxHeartbeats 4000000 in
set_option maxRecDepth 100000 in
theorem c_X2_isTooDear_23_25_27 {l : Launch} {k : mmK} {F : mmS}  {r : Int32} (h : m_X2_isTooDear_23_25_27 F = some r) : mm_T l k yX2_isTooDear cX2_isTooDear 3 (some .boolean) 0 [.ref (mmad k 23), .ref (mmad k 25), .ref (mmad k 27)] F (some (.int r)) F := by
  refine mm_start [(0, .ref (mmad k 23)), (1, .ref (mmad k 25)), (2, .ref (mmad k 27))] (by decide) (Nat.le_of_ble_eq_true rfl) rfl ?_
  intro z hz C
  subst hz
  have C : mm_C z k RX2 cX2_isTooDear 3 (some .boolean) 0 := C
  replace h := mk0 h
  unfold m_X2_isTooDear_23_25_27 at h
  refine mm_aload_n C dX2_isTooDear_0 rfl 1 rfl 1 rfl ?_
  refine mm_get C fl_X2_50_X1 (by decide) (mc_25 k _) rfl dX2_isTooDear_1 4 rfl ?_
  refine mm_aload_n C dX2_isTooDear_4 rfl 0 rfl 5 rfl ?_
  refine mm_get C fl_X2_53_X2 (by decide) (mc_23 k _) rfl dX2_isTooDear_5 8 rfl ?_
  refine mm_get C fl_X2_57_X3 (by decide) (mc_1 k _) rfl dX2_isTooDear_8 11 rfl ?_
  refine mm_aload_n C dX2_isTooDear_11 rfl 2 rfl 12 rfl ?_
  refine mm_get C fl_X2_50_X5 (by decide) (mc_27 k _) rfl dX2_isTooDear_12 15 rfl ?_
  refine mm_imul C dX2_isTooDear_15 16 rfl ?_
  refine mm_icmp_le C dX2_isTooDear_16 23 19 (by decide) rfl (fun hc => ?_) (fun hc => ?_)
  · rw [if_pos hc] at h
    refine mm_iconst (v := (0 : Int32)) C dX2_isTooDear_23 (by decide) 24 rfl ?_
    obtain ⟨x1, ex1, h⟩ := mb h
    exact mm_zretP C ex1 (h) dX2_isTooDear_24
  · rw [if_neg hc] at h
    refine mm_iconst (v := (1 : Int32)) C dX2_isTooDear_19 (by decide) 20 rfl ?_
    refine mm_goto C dX2_isTooDear_20 24 (by decide) ?_
    obtain ⟨x2, ex2, h⟩ := mb h
    exact mm_zretP C ex2 (h) dX2_isTooDear_24
def m_X2_isTooDear_23_27_25 (F : mmS)  : Option (Int32) :=
  if (F 27 2) ≤ ((F 1 2) * (F 25 2)) then (Option.bind (zg (0 : Int32)) fun x1 => some (x1)) else (Option.bind (zg (1 : Int32)) fun x2 => some (x2))
set_option maxHeartbeats 4000000 in
set_option maxRecDepth 100000 in
theorem c_X2_isTooDear_23_27_25 {l : Launch} {k : mmK} {F : mmS}  {r : Int32} (h : m_X2_isTooDear_23_27_25 F = some r) : mm_T l k yX2_isTooDear cX2_isTooDear 3 (some .boolean) 0 [.ref (mmad k 23), .ref (mmad k 27), .ref (mmad k 25)] F (some (.int r)) F := by
  refine mm_start [(0, .ref (mmad k 23)), (1, .ref (mmad k 27)), (2, .ref (mmad k 25))] (by decide) (Nat.le_of_ble_eq_true rfl) rfl ?_
  intro z hz C
  subst hz
  have C : mm_C z k RX2 cX2_isTooDear 3 (some .boolean) 0 := C
  replace h := mk0 h
  unfold m_X2_isTooDear_23_27_25 at h
  refine mm_aload_n C dX2_isTooDear_0 rfl 1 rfl 1 rfl ?_
  refine mm_get C fl_X2_50_X5 (by decide) (mc_27 k _) rfl dX2_isTooDear_1 4 rfl ?_
  refine mm_aload_n C dX2_isTooDear_4 rfl 0 rfl 5 rfl ?_
  refine mm_get C fl_X2_53_X2 (by decide) (mc_23 k _) rfl dX2_isTooDear_5 8 rfl ?_
  refine mm_get C fl_X2_57_X3 (by decide) (mc_1 k _) rfl dX2_isTooDear_8 11 rfl ?_
  refine mm_aload_n C dX2_isTooDear_11 rfl 2 rfl 12 rfl ?_
  refine mm_get C fl_X2_50_X1 (by decide) (mc_25 k _) rfl dX2_isTooDear_12 15 rfl ?_
  refine mm_imul C dX2_isTooDear_15 16 rfl ?_
  refine mm_icmp_le C dX2_isTooDear_16 23 19 (by decide) rfl (fun hc => ?_) (fun hc => ?_)
  · rw [if_pos hc] at h
    refine mm_iconst (v := (0 : Int32)) C dX2_isTooDear_23 (by decide) 24 rfl ?_
    obtain ⟨x1, ex1, h⟩ := mb h
    exact mm_zretP C ex1 (h) dX2_isTooDear_24
  · rw [if_neg hc] at h
    refine mm_iconst (v := (1 : Int32)) C dX2_isTooDear_19 (by decide) 20 rfl ?_
    refine mm_goto C dX2_isTooDear_20 24 (by decide) ?_
    obtain ⟨x2, ex2, h⟩ := mb h
    exact mm_zretP C ex2 (h) dX2_isTooDear_24
def m_X3_leastWays_1_24_26 (F : mmS)  : Option (Int32) :=
  if (F 1 1) = (1 : Int32) then (Option.bind (ald F 24 (0 : Int32)) fun x30 => Option.bind (ald F 26 (0 : Int32)) fun x31 => some (mabs (x30 - x31))) else (if (F 1 1) = (2 : Int32) then (Option.bind (ald F 24 (0 : Int32)) fun x25 => Option.bind (ald F 24 (1 : Int32)) fun x26 => Option.bind (ald F 26 (0 : Int32)) fun x27 => Option.bind (ald F 26 (1 : Int32)) fun x28 => Option.bind (m_X3_pairWays x25 x26 x27 x28) fun x29 => some x29) else (Option.bind (ald F 24 (0 : Int32)) fun x1 => Option.bind (ald F 26 (0 : Int32)) fun x2 => Option.bind (ald F 24 (1 : Int32)) fun x3 => Option.bind (ald F 24 (2 : Int32)) fun x4 => Option.bind (ald F 26 (1 : Int32)) fun x5 => Option.bind (ald F 26 (2 : Int32)) fun x6 => Option.bind (m_X3_pairWays x3 x4 x5 x6) fun x7 => mlet ((mabs (x1 - x2)) + x7) fun x8 => Option.bind (ald F 24 (0 : Int32)) fun x9 => Option.bind (ald F 26 (1 : Int32)) fun x10 => Option.bind (ald F 24 (1 : Int32)) fun x11 => Option.bind (ald F 24 (2 : Int32)) fun x12 => Option.bind (ald F 26 (0 : Int32)) fun x13 => Option.bind (ald F 26 (2 : Int32)) fun x14 => Option.bind (m_X3_pairWays x11 x12 x13 x14) fun x15 => mlet ((mabs (x9 - x10)) + x15) fun x16 => Option.bind (ald F 24 (0 : Int32)) fun x17 => Option.bind (ald F 26 (2 : Int32)) fun x18 => Option.bind (ald F 24 (1 : Int32)) fun x19 => Option.bind (ald F 24 (2 : Int32)) fun x20 => Option.bind (ald F 26 (0 : Int32)) fun x21 => Option.bind (ald F 26 (1 : Int32)) fun x22 => Option.bind (m_X3_pairWays x19 x20 x21 x22) fun x23 => mlet ((mabs (x17 - x18)) + x23) fun x24 => some (mmin x8 (mmin x16 x24))))
set_option maxHeartbeats 4000000 in
set_option maxRecDepth 100000 in
theorem c_X3_leastWays_1_24_26 {l : Launch} {k : mmK} {F : mmS}  {r : Int32} (h : m_X3_leastWays_1_24_26 F = some r) : mm_T l k yX3_leastWays cX3_leastWays 6 (some .int) 2 [.ref (mmad k 1), .ref (mmad k 24), .ref (mmad k 26)] F (some (.int r)) F := by
  refine mm_start [(0, .ref (mmad k 1)), (1, .ref (mmad k 24)), (2, .ref (mmad k 26))] (by decide) (Nat.le_of_ble_eq_true rfl) rfl ?_
  intro z hz C
  subst hz
  have C : mm_C z k RX3 cX3_leastWays 6 (some .int) 2 := C
  replace h := mk0 h
  unfold m_X3_leastWays_1_24_26 at h
  refine mm_aload_n C dX3_leastWays_0 rfl 0 rfl 1 rfl ?_
  refine mm_get C fl_X3_15_X3 (by decide) (mc_1 k _) rfl dX3_leastWays_1 4 rfl ?_
  refine mm_iconst (v := (1 : Int32)) C dX3_leastWays_4 (by decide) 5 rfl ?_
  refine mm_icmp_ne C dX3_leastWays_5 19 8 (by decide) rfl (fun hc => ?_) (fun hc => ?_)
  · rw [if_neg hc] at h
    refine mm_aload_n C dX3_leastWays_19 rfl 0 rfl 20 rfl ?_
    refine mm_get C fl_X3_15_X3 (by decide) (mc_1 k _) rfl dX3_leastWays_20 23 rfl ?_
    refine mm_iconst (v := (2 : Int32)) C dX3_leastWays_23 (by decide) 24 rfl ?_
    refine mm_icmp_ne C dX3_leastWays_24 43 27 (by decide) rfl (fun hc => ?_) (fun hc => ?_)
    · rw [if_neg hc] at h
      refine mm_aload_n C dX3_leastWays_43 rfl 1 rfl 44 rfl ?_
      refine mm_iconst (v := (0 : Int32)) C dX3_leastWays_44 (by decide) 45 rfl ?_
      obtain ⟨x1, ex1, h⟩ := mb h
      refine mm_iald C ex1 dX3_leastWays_45 46 rfl ?_
      refine mm_aload_n C dX3_leastWays_46 rfl 2 rfl 47 rfl ?_
      refine mm_iconst (v := (0 : Int32)) C dX3_leastWays_47 (by decide) 48 rfl ?_
      obtain ⟨x2, ex2, h⟩ := mb h
      refine mm_iald C ex2 dX3_leastWays_48 49 rfl ?_
      refine mm_isub C dX3_leastWays_49 50 rfl ?_
      refine mm_abs C mw_551 mw_552 mw_62 mw_553 (by omega) (Nat.le_trans (Nat.le_of_ble_eq_true rfl : _ ≤ 40) (by omega)) dX3_leastWays_50 53 rfl ?_
      refine mm_aload_n C dX3_leastWays_53 rfl 1 rfl 54 rfl ?_
      refine mm_iconst (v := (1 : Int32)) C dX3_leastWays_54 (by decide) 55 rfl ?_
      obtain ⟨x3, ex3, h⟩ := mb h
      refine mm_iald C ex3 dX3_leastWays_55 56 rfl ?_
      refine mm_aload_n C dX3_leastWays_56 rfl 1 rfl 57 rfl ?_
      refine mm_iconst (v := (2 : Int32)) C dX3_leastWays_57 (by decide) 58 rfl ?_
      obtain ⟨x4, ex4, h⟩ := mb h
      refine mm_iald C ex4 dX3_leastWays_58 59 rfl ?_
      refine mm_aload_n C dX3_leastWays_59 rfl 2 rfl 60 rfl ?_
      refine mm_iconst (v := (1 : Int32)) C dX3_leastWays_60 (by decide) 61 rfl ?_
      obtain ⟨x5, ex5, h⟩ := mb h
      refine mm_iald C ex5 dX3_leastWays_61 62 rfl ?_
      refine mm_aload_n C dX3_leastWays_62 rfl 2 rfl 63 rfl ?_
      refine mm_iconst (v := (2 : Int32)) C dX3_leastWays_63 (by decide) 64 rfl ?_
      obtain ⟨x6, ex6, h⟩ := mb h
      refine mm_iald C ex6 dX3_leastWays_64 65 rfl ?_
      obtain ⟨x7, ex7, h⟩ := mb h
      refine mm_callS [.int x3, .int x4, .int x5, .int x6] C (c_X3_pairWays ex7) wb_X3_pairWays ws_X3_63 rfl (by omega) rfl (Nat.le_of_ble_eq_true rfl) dX3_leastWays_65 68 rfl ?_
      show mm_AW z k 6 (some (.int r)) F F 68 [(0, .ref (mmad k 1)), (1, .ref (mmad k 24)), (2, .ref (mmad k 26))] [.int x7, .int (mabs (x1 - x2))]
      refine mm_iadd C dX3_leastWays_68 69 rfl ?_
      obtain ⟨x8, ex8, h⟩ := me h
      refine mm_top ex8 ?_
      refine mm_istore_n (lv2 := [(3, .int x8), (0, .ref (mmad k 1)), (1, .ref (mmad k 24)), (2, .ref (mmad k 26))]) C dX3_leastWays_69 rfl (by decide) rfl 70 rfl ?_
      refine mm_aload_n C dX3_leastWays_70 rfl 2 rfl 71 rfl ?_
      refine mm_iconst (v := (0 : Int32)) C dX3_leastWays_71 (by decide) 72 rfl ?_
      obtain ⟨x9, ex9, h⟩ := mb h
      refine mm_iald C ex9 dX3_leastWays_72 73 rfl ?_
      refine mm_aload_n C dX3_leastWays_73 rfl 3 rfl 74 rfl ?_
      refine mm_iconst (v := (1 : Int32)) C dX3_leastWays_74 (by decide) 75 rfl ?_
      obtain ⟨x10, ex10, h⟩ := mb h
      refine mm_iald C ex10 dX3_leastWays_75 76 rfl ?_
      refine mm_isub C dX3_leastWays_76 77 rfl ?_
      refine mm_abs C mw_551 mw_552 mw_62 mw_553 (by omega) (Nat.le_trans (Nat.le_of_ble_eq_true rfl : _ ≤ 40) (by omega)) dX3_leastWays_77 80 rfl ?_
      refine mm_aload_n C dX3_leastWays_80 rfl 2 rfl 81 rfl ?_
      refine mm_iconst (v := (1 : Int32)) C dX3_leastWays_81 (by decide) 82 rfl ?_
      obtain ⟨x11, ex11, h⟩ := mb h
      refine mm_iald C ex11 dX3_leastWays_82 83 rfl ?_
      refine mm_aload_n C dX3_leastWays_83 rfl 2 rfl 84 rfl ?_
      refine mm_iconst (v := (2 : Int32)) C dX3_leastWays_84 (by decide) 85 rfl ?_
      obtain ⟨x12, ex12, h⟩ := mb h
      refine mm_iald C ex12 dX3_leastWays_85 86 rfl ?_
      refine mm_aload_n C dX3_leastWays_86 rfl 3 rfl 87 rfl ?_
      refine mm_iconst (v := (0 : Int32)) C dX3_leastWays_87 (by decide) 88 rfl ?_
      obtain ⟨x13, ex13, h⟩ := mb h
      refine mm_iald C ex13 dX3_leastWays_88 89 rfl ?_
      refine mm_aload_n C dX3_leastWays_89 rfl 3 rfl 90 rfl ?_
      refine mm_iconst (v := (2 : Int32)) C dX3_leastWays_90 (by decide) 91 rfl ?_
      obtain ⟨x14, ex14, h⟩ := mb h
      refine mm_iald C ex14 dX3_leastWays_91 92 rfl ?_
      obtain ⟨x15, ex15, h⟩ := mb h
      refine mm_callS [.int x11, .int x12, .int x13, .int x14] C (c_X3_pairWays ex15) wb_X3_pairWays ws_X3_63 rfl (by omega) rfl (Nat.le_of_ble_eq_true rfl) dX3_leastWays_92 95 rfl ?_
      show mm_AW z k 6 (some (.int r)) F F 95 [(3, .int x8), (0, .ref (mmad k 1)), (1, .ref (mmad k 24)), (2, .ref (mmad k 26))] [.int x15, .int (mabs (x9 - x10))]
      refine mm_iadd C dX3_leastWays_95 96 rfl ?_
      obtain ⟨x16, ex16, h⟩ := me h
      refine mm_top ex16 ?_
      refine mm_istore (lv2 := [(4, .int x16), (3, .int x8), (0, .ref (mmad k 1)), (1, .ref (mmad k 24)), (2, .ref (mmad k 26))]) C dX3_leastWays_96 (by decide) rfl 98 rfl ?_
      refine mm_aload_n C dX3_leastWays_98 rfl 3 rfl 99 rfl ?_
      refine mm_iconst (v := (0 : Int32)) C dX3_leastWays_99 (by decide) 100 rfl ?_
      obtain ⟨x17, ex17, h⟩ := mb h
      refine mm_iald C ex17 dX3_leastWays_100 101 rfl ?_
      refine mm_aload_n C dX3_leastWays_101 rfl 4 rfl 102 rfl ?_
      refine mm_iconst (v := (2 : Int32)) C dX3_leastWays_102 (by decide) 103 rfl ?_
      obtain ⟨x18, ex18, h⟩ := mb h
      refine mm_iald C ex18 dX3_leastWays_103 104 rfl ?_
      refine mm_isub C dX3_leastWays_104 105 rfl ?_
      refine mm_abs C mw_551 mw_552 mw_62 mw_553 (by omega) (Nat.le_trans (Nat.le_of_ble_eq_true rfl : _ ≤ 40) (by omega)) dX3_leastWays_105 108 rfl ?_
      refine mm_aload_n C dX3_leastWays_108 rfl 3 rfl 109 rfl ?_
      refine mm_iconst (v := (1 : Int32)) C dX3_leastWays_109 (by decide) 110 rfl ?_
      obtain ⟨x19, ex19, h⟩ := mb h
      refine mm_iald C ex19 dX3_leastWays_110 111 rfl ?_
      refine mm_aload_n C dX3_leastWays_111 rfl 3 rfl 112 rfl ?_
      refine mm_iconst (v := (2 : Int32)) C dX3_leastWays_112 (by decide) 113 rfl ?_
      obtain ⟨x20, ex20, h⟩ := mb h
      refine mm_iald C ex20 dX3_leastWays_113 114 rfl ?_
      refine mm_aload_n C dX3_leastWays_114 rfl 4 rfl 115 rfl ?_
      refine mm_iconst (v := (0 : Int32)) C dX3_leastWays_115 (by decide) 116 rfl ?_
      obtain ⟨x21, ex21, h⟩ := mb h
      refine mm_iald C ex21 dX3_leastWays_116 117 rfl ?_
      refine mm_aload_n C dX3_leastWays_117 rfl 4 rfl 118 rfl ?_
      refine mm_iconst (v := (1 : Int32)) C dX3_leastWays_118 (by decide) 119 rfl ?_
      obtain ⟨x22, ex22, h⟩ := mb h
      refine mm_iald C ex22 dX3_leastWays_119 120 rfl ?_
      obtain ⟨x23, ex23, h⟩ := mb h
      refine mm_callS [.int x19, .int x20, .int x21, .int x22] C (c_X3_pairWays ex23) wb_X3_pairWays ws_X3_63 rfl (by omega) rfl (Nat.le_of_ble_eq_true rfl) dX3_leastWays_120 123 rfl ?_
      show mm_AW z k 6 (some (.int r)) F F 123 [(4, .int x16), (3, .int x8), (0, .ref (mmad k 1)), (1, .ref (mmad k 24)), (2, .ref (mmad k 26))] [.int x23, .int (mabs (x17 - x18))]
      refine mm_iadd C dX3_leastWays_123 124 rfl ?_
      obtain ⟨x24, ex24, h⟩ := me h
      refine mm_top ex24 ?_
      refine mm_istore (lv2 := [(5, .int x24), (4, .int x16), (3, .int x8), (0, .ref (mmad k 1)), (1, .ref (mmad k 24)), (2, .ref (mmad k 26))]) C dX3_leastWays_124 (by decide) rfl 126 rfl ?_
      refine mm_iload_n C dX3_leastWays_126 rfl 2 rfl 127 rfl ?_
      refine mm_iload C dX3_leastWays_127 1 rfl 129 rfl ?_
      refine mm_iload C dX3_leastWays_129 0 rfl 131 rfl ?_
      refine mm_min C mw_557 mw_517 mw_62 mw_518 (by omega) (Nat.le_trans (Nat.le_of_ble_eq_true rfl : _ ≤ 40) (by omega)) dX3_leastWays_131 134 rfl ?_
      refine mm_min C mw_557 mw_517 mw_62 mw_518 (by omega) (Nat.le_trans (Nat.le_of_ble_eq_true rfl : _ ≤ 40) (by omega)) dX3_leastWays_134 137 rfl ?_
      exact mm_iretP C (h) dX3_leastWays_137
    · rw [if_pos hc] at h
      refine mm_aload_n C dX3_leastWays_27 rfl 1 rfl 28 rfl ?_
      refine mm_iconst (v := (0 : Int32)) C dX3_leastWays_28 (by decide) 29 rfl ?_
      obtain ⟨x25, ex25, h⟩ := mb h
      refine mm_iald C ex25 dX3_leastWays_29 30 rfl ?_
      refine mm_aload_n C dX3_leastWays_30 rfl 1 rfl 31 rfl ?_
      refine mm_iconst (v := (1 : Int32)) C dX3_leastWays_31 (by decide) 32 rfl ?_
      obtain ⟨x26, ex26, h⟩ := mb h
      refine mm_iald C ex26 dX3_leastWays_32 33 rfl ?_
      refine mm_aload_n C dX3_leastWays_33 rfl 2 rfl 34 rfl ?_
      refine mm_iconst (v := (0 : Int32)) C dX3_leastWays_34 (by decide) 35 rfl ?_
      obtain ⟨x27, ex27, h⟩ := mb h
      refine mm_iald C ex27 dX3_leastWays_35 36 rfl ?_
      refine mm_aload_n C dX3_leastWays_36 rfl 2 rfl 37 rfl ?_
      refine mm_iconst (v := (1 : Int32)) C dX3_leastWays_37 (by decide) 38 rfl ?_
      obtain ⟨x28, ex28, h⟩ := mb h
      refine mm_iald C ex28 dX3_leastWays_38 39 rfl ?_
      obtain ⟨x29, ex29, h⟩ := mb h
      refine mm_callS [.int x25, .int x26, .int x27, .int x28] C (c_X3_pairWays ex29) wb_X3_pairWays ws_X3_63 rfl (by omega) rfl (Nat.le_of_ble_eq_true rfl) dX3_leastWays_39 42 rfl ?_
      show mm_AW z k 6 (some (.int r)) F F 42 [(0, .ref (mmad k 1)), (1, .ref (mmad k 24)), (2, .ref (mmad k 26))] [.int x29]
      exact mm_iretP C (h) dX3_leastWays_42
  · rw [if_pos hc] at h
    refine mm_aload_n C dX3_leastWays_8 rfl 1 rfl 9 rfl ?_
    refine mm_iconst (v := (0 : Int32)) C dX3_leastWays_9 (by decide) 10 rfl ?_
    obtain ⟨x30, ex30, h⟩ := mb h
    refine mm_iald C ex30 dX3_leastWays_10 11 rfl ?_
    refine mm_aload_n C dX3_leastWays_11 rfl 2 rfl 12 rfl ?_
    refine mm_iconst (v := (0 : Int32)) C dX3_leastWays_12 (by decide) 13 rfl ?_
    obtain ⟨x31, ex31, h⟩ := mb h
    refine mm_iald C ex31 dX3_leastWays_13 14 rfl ?_
    refine mm_isub C dX3_leastWays_14 15 rfl ?_
    refine mm_abs C mw_551 mw_552 mw_62 mw_553 (by omega) (Nat.le_trans (Nat.le_of_ble_eq_true rfl : _ ≤ 40) (by omega)) dX3_leastWays_15 18 rfl ?_
    exact mm_iretP C (h) dX3_leastWays_18
def m_X2_standAs_23_25_L26 : Nat → Int32 → mmS → Option (mmS)
  | 0, _, _ => none
  | n5 + 1, v3, G4 => if (G4 1 1) ≤ v3 then (some ((G4))) else (Option.bind (ald G4 26 v3) fun x6 => Option.bind (ast G4 24 v3 x6) fun G7 => mlet (v3 + (1 : Int32)) fun x8 => m_X2_standAs_23_25_L26 n5 x8 G7)
def m_X2_standAs_23_25 (F : mmS)  : Option (mmS) :=
  Option.bind (m_X3_leastWays_1_24_26 F) fun x1 => mlet (stF F 23 2 ((F 23 2) + x1)) fun G2 => bd1 (m_X2_standAs_23_25_L26 300 (0 : Int32) G2) fun G9 => some G9
set_option maxHeartbeats 4000000 in
set_option maxRecDepth 100000 in
theorem c_X2_standAs_23_25 {l : Launch} {k : mmK} {F : mmS}  {F1 : mmS} (h : m_X2_standAs_23_25 F = some F1) : mm_T l k yX2_standAs cX2_standAs 3 none 3 [.ref (mmad k 23), .ref (mmad k 25)] F none F1 := by
  refine mm_start [(0, .ref (mmad k 23)), (1, .ref (mmad k 25))] (by decide) (Nat.le_of_ble_eq_true rfl) rfl ?_
  intro z hz C
  subst hz
  have C : mm_C z k RX2 cX2_standAs 3 none 3 := C
  replace h := mk0 h
  unfold m_X2_standAs_23_25 at h
  refine mm_aload_n C dX2_standAs_0 rfl 0 rfl 1 rfl ?_
  refine mm_dup C dX2_standAs_1 rfl 2 rfl ?_
  refine mm_get C fl_X2_62_X2 (by decide) (mc_23 k _) rfl dX2_standAs_2 5 rfl ?_
  refine mm_aload_n C dX2_standAs_5 rfl 0 rfl 6 rfl ?_
  refine mm_get C fl_X2_53_X2 (by decide) (mc_23 k _) rfl dX2_standAs_6 9 rfl ?_
  refine mm_aload_n C dX2_standAs_9 rfl 0 rfl 10 rfl ?_
  refine mm_get C fl_X2_63_X2 (by decide) (mc_23 k _) rfl dX2_standAs_10 13 rfl ?_
  refine mm_aload_n C dX2_standAs_13 rfl 1 rfl 14 rfl ?_
  refine mm_get C fl_X2_67_X1 (by decide) (mc_25 k _) rfl dX2_standAs_14 17 rfl ?_
  obtain ⟨x1, ex1, h⟩ := mb h
  refine mm_callV [.ref (mmad k 24), .ref (mmad k 26)] C (c_X3_leastWays_1_24_26 ex1) wb_X3_leastWays wv_X2_68 (by decide) (mc_1 k _) rfl rfl rfl (by omega) rfl (Nat.le_of_ble_eq_true rfl) dX2_standAs_17 20 rfl ?_
  show mm_AW z k 3 none F1 F 20 [(0, .ref (mmad k 23)), (1, .ref (mmad k 25))] [.int x1, .int (F 23 2), .ref (mmad k 23)]
  refine mm_iadd C dX2_standAs_20 21 rfl ?_
  obtain ⟨G2, eG2, h⟩ := me h
  refine mm_put (x := ((F 23 2) + x1)) (ty := .int) C fl_X2_62_X2 (by decide) (mc_23 k _) (mc_23 k _) tyX2 tyX2_ok nmX2 rfl (by decide +kernel) rfl rfl (Nat.le_of_ble_eq_true rfl) eG2 dX2_standAs_21 24 rfl ?_
  refine mm_iconst (v := (0 : Int32)) C dX2_standAs_24 (by decide) 25 rfl ?_
  refine mm_istore_n (lv2 := [(2, .int (0 : Int32)), (0, .ref (mmad k 23)), (1, .ref (mmad k 25))]) C dX2_standAs_25 rfl (by decide) rfl 26 rfl ?_
  refine mm_lv [1, 2, 0] rfl ?_
  have hL26 : ∀ (K : (mmS) → Option (mmS)) (hK : ∀ (G4 : mmS) , K (G4) = some F1 → mm_AW z k 3 none F1 G4 55 [] []) (n5 : Nat) (v3 : Int32) (G4 : mmS) , (m_X2_standAs_23_25_L26 n5 v3 G4).bind K = some F1 → mm_AW z k 3 none F1 G4 26 [(0, .ref (mmad k 23)), (1, .ref (mmad k 25)), (2, .int v3)] [] := by
    intro K hK n5
    induction n5 with
    | zero => intro v3 G4 h; rw [m_X2_standAs_23_25_L26] at h; cases h
    | succ n5 ih =>
      intro v3 G4 h
      rw [m_X2_standAs_23_25_L26] at h
      refine mm_iload_n C dX2_standAs_26 rfl 2 rfl 27 rfl ?_
      refine mm_aload_n C dX2_standAs_27 rfl 0 rfl 28 rfl ?_
      refine mm_get C fl_X2_53_X2 (by decide) (mc_23 k _) rfl dX2_standAs_28 31 rfl ?_
      refine mm_get C fl_X2_72_X3 (by decide) (mc_1 k _) rfl dX2_standAs_31 34 rfl ?_
      refine mm_icmp_ge C dX2_standAs_34 55 37 (by decide) rfl (fun hc => ?_) (fun hc => ?_)
      · rw [if_pos hc] at h
        refine mm_lv [] rfl ?_
        exact hK _ h
      · rw [if_neg hc] at h
        refine mm_aload_n C dX2_standAs_37 rfl 0 rfl 38 rfl ?_
        refine mm_get C fl_X2_63_X2 (by decide) (mc_23 k _) rfl dX2_standAs_38 41 rfl ?_
        refine mm_iload_n C dX2_standAs_41 rfl 2 rfl 42 rfl ?_
        refine mm_aload_n C dX2_standAs_42 rfl 1 rfl 43 rfl ?_
        refine mm_get C fl_X2_67_X1 (by decide) (mc_25 k _) rfl dX2_standAs_43 46 rfl ?_
        refine mm_iload_n C dX2_standAs_46 rfl 2 rfl 47 rfl ?_
        obtain ⟨x6, ex6, h⟩ := mb h
        refine mm_iald C ex6 dX2_standAs_47 48 rfl ?_
        obtain ⟨G7, eG7, h⟩ := mb h
        refine mm_iast C eG7 dX2_standAs_48 49 rfl ?_
        obtain ⟨x8, ex8, h⟩ := me h
        refine mm_iinc (v := x8) (lv2 := [(2, .int x8), (0, .ref (mmad k 23)), (1, .ref (mmad k 25))]) C dX2_standAs_49 2 rfl (by rw [← ex8]; rfl) (by decide) rfl 52 rfl ?_
        refine mm_goto C dX2_standAs_52 26 (by decide) ?_
        refine mm_lv [1, 2, 0] rfl ?_
        exact ih _ _ h
  refine mj1 h (fun (G9 : mmS) => mm_AW z k 3 none F1 G9 55 [] []) ?_ ?_
  · intro G9 h
    exact mm_vretW C (h) dX2_standAs_55
  · intro K2 hR h
    exact hL26 K2 hR 300 _ _ h
def m_X3_leastWays_1_24_28 (F : mmS)  : Option (Int32) :=
  if (F 1 1) = (1 : Int32) then (Option.bind (ald F 24 (0 : Int32)) fun x30 => Option.bind (ald F 28 (0 : Int32)) fun x31 => some (mabs (x30 - x31))) else (if (F 1 1) = (2 : Int32) then (Option.bind (ald F 24 (0 : Int32)) fun x25 => Option.bind (ald F 24 (1 : Int32)) fun x26 => Option.bind (ald F 28 (0 : Int32)) fun x27 => Option.bind (ald F 28 (1 : Int32)) fun x28 => Option.bind (m_X3_pairWays x25 x26 x27 x28) fun x29 => some x29) else (Option.bind (ald F 24 (0 : Int32)) fun x1 => Option.bind (ald F 28 (0 : Int32)) fun x2 => Option.bind (ald F 24 (1 : Int32)) fun x3 => Option.bind (ald F 24 (2 : Int32)) fun x4 => Option.bind (ald F 28 (1 : Int32)) fun x5 => Option.bind (ald F 28 (2 : Int32)) fun x6 => Option.bind (m_X3_pairWays x3 x4 x5 x6) fun x7 => mlet ((mabs (x1 - x2)) + x7) fun x8 => Option.bind (ald F 24 (0 : Int32)) fun x9 => Option.bind (ald F 28 (1 : Int32)) fun x10 => Option.bind (ald F 24 (1 : Int32)) fun x11 => Option.bind (ald F 24 (2 : Int32)) fun x12 => Option.bind (ald F 28 (0 : Int32)) fun x13 => Option.bind (ald F 28 (2 : Int32)) fun x14 => Option.bind (m_X3_pairWays x11 x12 x13 x14) fun x15 => mlet ((mabs (x9 - x10)) + x15) fun x16 => Option.bind (ald F 24 (0 : Int32)) fun x17 => Option.bind (ald F 28 (2 : Int32)) fun x18 => Option.bind (ald F 24 (1 : Int32)) fun x19 => Option.bind (ald F 24 (2 : Int32)) fun x20 => Option.bind (ald F 28 (0 : Int32)) fun x21 => Option.bind (ald F 28 (1 : Int32)) fun x22 => Option.bind (m_X3_pairWays x19 x20 x21 x22) fun x23 => mlet ((mabs (x17 - x18)) + x23) fun x24 => some (mmin x8 (mmin x16 x24))))
set_option maxHeartbeats 4000000 in
set_option maxRecDepth 100000 in
theorem c_X3_leastWays_1_24_28 {l : Launch} {k : mmK} {F : mmS}  {r : Int32} (h : m_X3_leastWays_1_24_28 F = some r) : mm_T l k yX3_leastWays cX3_leastWays 6 (some .int) 2 [.ref (mmad k 1), .ref (mmad k 24), .ref (mmad k 28)] F (some (.int r)) F := by
  refine mm_start [(0, .ref (mmad k 1)), (1, .ref (mmad k 24)), (2, .ref (mmad k 28))] (by decide) (Nat.le_of_ble_eq_true rfl) rfl ?_
  intro z hz C
  subst hz
  have C : mm_C z k RX3 cX3_leastWays 6 (some .int) 2 := C
  replace h := mk0 h
  unfold m_X3_leastWays_1_24_28 at h
  refine mm_aload_n C dX3_leastWays_0 rfl 0 rfl 1 rfl ?_
  refine mm_get C fl_X3_15_X3 (by decide) (mc_1 k _) rfl dX3_leastWays_1 4 rfl ?_
  refine mm_iconst (v := (1 : Int32)) C dX3_leastWays_4 (by decide) 5 rfl ?_
  refine mm_icmp_ne C dX3_leastWays_5 19 8 (by decide) rfl (fun hc => ?_) (fun hc => ?_)
  · rw [if_neg hc] at h
    refine mm_aload_n C dX3_leastWays_19 rfl 0 rfl 20 rfl ?_
    refine mm_get C fl_X3_15_X3 (by decide) (mc_1 k _) rfl dX3_leastWays_20 23 rfl ?_
    refine mm_iconst (v := (2 : Int32)) C dX3_leastWays_23 (by decide) 24 rfl ?_
    refine mm_icmp_ne C dX3_leastWays_24 43 27 (by decide) rfl (fun hc => ?_) (fun hc => ?_)
    · rw [if_neg hc] at h
      refine mm_aload_n C dX3_leastWays_43 rfl 1 rfl 44 rfl ?_
      refine mm_iconst (v := (0 : Int32)) C dX3_leastWays_44 (by decide) 45 rfl ?_
      obtain ⟨x1, ex1, h⟩ := mb h
      refine mm_iald C ex1 dX3_leastWays_45 46 rfl ?_
      refine mm_aload_n C dX3_leastWays_46 rfl 2 rfl 47 rfl ?_
      refine mm_iconst (v := (0 : Int32)) C dX3_leastWays_47 (by decide) 48 rfl ?_
      obtain ⟨x2, ex2, h⟩ := mb h
      refine mm_iald C ex2 dX3_leastWays_48 49 rfl ?_
      refine mm_isub C dX3_leastWays_49 50 rfl ?_
      refine mm_abs C mw_551 mw_552 mw_62 mw_553 (by omega) (Nat.le_trans (Nat.le_of_ble_eq_true rfl : _ ≤ 40) (by omega)) dX3_leastWays_50 53 rfl ?_
      refine mm_aload_n C dX3_leastWays_53 rfl 1 rfl 54 rfl ?_
      refine mm_iconst (v := (1 : Int32)) C dX3_leastWays_54 (by decide) 55 rfl ?_
      obtain ⟨x3, ex3, h⟩ := mb h
      refine mm_iald C ex3 dX3_leastWays_55 56 rfl ?_
      refine mm_aload_n C dX3_leastWays_56 rfl 1 rfl 57 rfl ?_
      refine mm_iconst (v := (2 : Int32)) C dX3_leastWays_57 (by decide) 58 rfl ?_
      obtain ⟨x4, ex4, h⟩ := mb h
      refine mm_iald C ex4 dX3_leastWays_58 59 rfl ?_
      refine mm_aload_n C dX3_leastWays_59 rfl 2 rfl 60 rfl ?_
      refine mm_iconst (v := (1 : Int32)) C dX3_leastWays_60 (by decide) 61 rfl ?_
      obtain ⟨x5, ex5, h⟩ := mb h
      refine mm_iald C ex5 dX3_leastWays_61 62 rfl ?_
      refine mm_aload_n C dX3_leastWays_62 rfl 2 rfl 63 rfl ?_
      refine mm_iconst (v := (2 : Int32)) C dX3_leastWays_63 (by decide) 64 rfl ?_
      obtain ⟨x6, ex6, h⟩ := mb h
      refine mm_iald C ex6 dX3_leastWays_64 65 rfl ?_
      obtain ⟨x7, ex7, h⟩ := mb h
      refine mm_callS [.int x3, .int x4, .int x5, .int x6] C (c_X3_pairWays ex7) wb_X3_pairWays ws_X3_63 rfl (by omega) rfl (Nat.le_of_ble_eq_true rfl) dX3_leastWays_65 68 rfl ?_
      show mm_AW z k 6 (some (.int r)) F F 68 [(0, .ref (mmad k 1)), (1, .ref (mmad k 24)), (2, .ref (mmad k 28))] [.int x7, .int (mabs (x1 - x2))]
      refine mm_iadd C dX3_leastWays_68 69 rfl ?_
      obtain ⟨x8, ex8, h⟩ := me h
      refine mm_top ex8 ?_
      refine mm_istore_n (lv2 := [(3, .int x8), (0, .ref (mmad k 1)), (1, .ref (mmad k 24)), (2, .ref (mmad k 28))]) C dX3_leastWays_69 rfl (by decide) rfl 70 rfl ?_
      refine mm_aload_n C dX3_leastWays_70 rfl 2 rfl 71 rfl ?_
      refine mm_iconst (v := (0 : Int32)) C dX3_leastWays_71 (by decide) 72 rfl ?_
      obtain ⟨x9, ex9, h⟩ := mb h
      refine mm_iald C ex9 dX3_leastWays_72 73 rfl ?_
      refine mm_aload_n C dX3_leastWays_73 rfl 3 rfl 74 rfl ?_
      refine mm_iconst (v := (1 : Int32)) C dX3_leastWays_74 (by decide) 75 rfl ?_
      obtain ⟨x10, ex10, h⟩ := mb h
      refine mm_iald C ex10 dX3_leastWays_75 76 rfl ?_
      refine mm_isub C dX3_leastWays_76 77 rfl ?_
      refine mm_abs C mw_551 mw_552 mw_62 mw_553 (by omega) (Nat.le_trans (Nat.le_of_ble_eq_true rfl : _ ≤ 40) (by omega)) dX3_leastWays_77 80 rfl ?_
      refine mm_aload_n C dX3_leastWays_80 rfl 2 rfl 81 rfl ?_
      refine mm_iconst (v := (1 : Int32)) C dX3_leastWays_81 (by decide) 82 rfl ?_
      obtain ⟨x11, ex11, h⟩ := mb h
      refine mm_iald C ex11 dX3_leastWays_82 83 rfl ?_
      refine mm_aload_n C dX3_leastWays_83 rfl 2 rfl 84 rfl ?_
      refine mm_iconst (v := (2 : Int32)) C dX3_leastWays_84 (by decide) 85 rfl ?_
      obtain ⟨x12, ex12, h⟩ := mb h
      refine mm_iald C ex12 dX3_leastWays_85 86 rfl ?_
      refine mm_aload_n C dX3_leastWays_86 rfl 3 rfl 87 rfl ?_
      refine mm_iconst (v := (0 : Int32)) C dX3_leastWays_87 (by decide) 88 rfl ?_
      obtain ⟨x13, ex13, h⟩ := mb h
      refine mm_iald C ex13 dX3_leastWays_88 89 rfl ?_
      refine mm_aload_n C dX3_leastWays_89 rfl 3 rfl 90 rfl ?_
      refine mm_iconst (v := (2 : Int32)) C dX3_leastWays_90 (by decide) 91 rfl ?_
      obtain ⟨x14, ex14, h⟩ := mb h
      refine mm_iald C ex14 dX3_leastWays_91 92 rfl ?_
      obtain ⟨x15, ex15, h⟩ := mb h
      refine mm_callS [.int x11, .int x12, .int x13, .int x14] C (c_X3_pairWays ex15) wb_X3_pairWays ws_X3_63 rfl (by omega) rfl (Nat.le_of_ble_eq_true rfl) dX3_leastWays_92 95 rfl ?_
      show mm_AW z k 6 (some (.int r)) F F 95 [(3, .int x8), (0, .ref (mmad k 1)), (1, .ref (mmad k 24)), (2, .ref (mmad k 28))] [.int x15, .int (mabs (x9 - x10))]
      refine mm_iadd C dX3_leastWays_95 96 rfl ?_
      obtain ⟨x16, ex16, h⟩ := me h
      refine mm_top ex16 ?_
      refine mm_istore (lv2 := [(4, .int x16), (3, .int x8), (0, .ref (mmad k 1)), (1, .ref (mmad k 24)), (2, .ref (mmad k 28))]) C dX3_leastWays_96 (by decide) rfl 98 rfl ?_
      refine mm_aload_n C dX3_leastWays_98 rfl 3 rfl 99 rfl ?_
      refine mm_iconst (v := (0 : Int32)) C dX3_leastWays_99 (by decide) 100 rfl ?_
      obtain ⟨x17, ex17, h⟩ := mb h
      refine mm_iald C ex17 dX3_leastWays_100 101 rfl ?_
      refine mm_aload_n C dX3_leastWays_101 rfl 4 rfl 102 rfl ?_
      refine mm_iconst (v := (2 : Int32)) C dX3_leastWays_102 (by decide) 103 rfl ?_
      obtain ⟨x18, ex18, h⟩ := mb h
      refine mm_iald C ex18 dX3_leastWays_103 104 rfl ?_
      refine mm_isub C dX3_leastWays_104 105 rfl ?_
      refine mm_abs C mw_551 mw_552 mw_62 mw_553 (by omega) (Nat.le_trans (Nat.le_of_ble_eq_true rfl : _ ≤ 40) (by omega)) dX3_leastWays_105 108 rfl ?_
      refine mm_aload_n C dX3_leastWays_108 rfl 3 rfl 109 rfl ?_
      refine mm_iconst (v := (1 : Int32)) C dX3_leastWays_109 (by decide) 110 rfl ?_
      obtain ⟨x19, ex19, h⟩ := mb h
      refine mm_iald C ex19 dX3_leastWays_110 111 rfl ?_
      refine mm_aload_n C dX3_leastWays_111 rfl 3 rfl 112 rfl ?_
      refine mm_iconst (v := (2 : Int32)) C dX3_leastWays_112 (by decide) 113 rfl ?_
      obtain ⟨x20, ex20, h⟩ := mb h
      refine mm_iald C ex20 dX3_leastWays_113 114 rfl ?_
      refine mm_aload_n C dX3_leastWays_114 rfl 4 rfl 115 rfl ?_
      refine mm_iconst (v := (0 : Int32)) C dX3_leastWays_115 (by decide) 116 rfl ?_
      obtain ⟨x21, ex21, h⟩ := mb h
      refine mm_iald C ex21 dX3_leastWays_116 117 rfl ?_
      refine mm_aload_n C dX3_leastWays_117 rfl 4 rfl 118 rfl ?_
      refine mm_iconst (v := (1 : Int32)) C dX3_leastWays_118 (by decide) 119 rfl ?_
      obtain ⟨x22, ex22, h⟩ := mb h
      refine mm_iald C ex22 dX3_leastWays_119 120 rfl ?_
      obtain ⟨x23, ex23, h⟩ := mb h
      refine mm_callS [.int x19, .int x20, .int x21, .int x22] C (c_X3_pairWays ex23) wb_X3_pairWays ws_X3_63 rfl (by omega) rfl (Nat.le_of_ble_eq_true rfl) dX3_leastWays_120 123 rfl ?_
      show mm_AW z k 6 (some (.int r)) F F 123 [(4, .int x16), (3, .int x8), (0, .ref (mmad k 1)), (1, .ref (mmad k 24)), (2, .ref (mmad k 28))] [.int x23, .int (mabs (x17 - x18))]
      refine mm_iadd C dX3_leastWays_123 124 rfl ?_
      obtain ⟨x24, ex24, h⟩ := me h
      refine mm_top ex24 ?_
      refine mm_istore (lv2 := [(5, .int x24), (4, .int x16), (3, .int x8), (0, .ref (mmad k 1)), (1, .ref (mmad k 24)), (2, .ref (mmad k 28))]) C dX3_leastWays_124 (by decide) rfl 126 rfl ?_
      refine mm_iload_n C dX3_leastWays_126 rfl 2 rfl 127 rfl ?_
      refine mm_iload C dX3_leastWays_127 1 rfl 129 rfl ?_
      refine mm_iload C dX3_leastWays_129 0 rfl 131 rfl ?_
      refine mm_min C mw_557 mw_517 mw_62 mw_518 (by omega) (Nat.le_trans (Nat.le_of_ble_eq_true rfl : _ ≤ 40) (by omega)) dX3_leastWays_131 134 rfl ?_
      refine mm_min C mw_557 mw_517 mw_62 mw_518 (by omega) (Nat.le_trans (Nat.le_of_ble_eq_true rfl : _ ≤ 40) (by omega)) dX3_leastWays_134 137 rfl ?_
      exact mm_iretP C (h) dX3_leastWays_137
    · rw [if_pos hc] at h
      refine mm_aload_n C dX3_leastWays_27 rfl 1 rfl 28 rfl ?_
      refine mm_iconst (v := (0 : Int32)) C dX3_leastWays_28 (by decide) 29 rfl ?_
      obtain ⟨x25, ex25, h⟩ := mb h
      refine mm_iald C ex25 dX3_leastWays_29 30 rfl ?_
      refine mm_aload_n C dX3_leastWays_30 rfl 1 rfl 31 rfl ?_
      refine mm_iconst (v := (1 : Int32)) C dX3_leastWays_31 (by decide) 32 rfl ?_
      obtain ⟨x26, ex26, h⟩ := mb h
      refine mm_iald C ex26 dX3_leastWays_32 33 rfl ?_
      refine mm_aload_n C dX3_leastWays_33 rfl 2 rfl 34 rfl ?_
      refine mm_iconst (v := (0 : Int32)) C dX3_leastWays_34 (by decide) 35 rfl ?_
      obtain ⟨x27, ex27, h⟩ := mb h
      refine mm_iald C ex27 dX3_leastWays_35 36 rfl ?_
      refine mm_aload_n C dX3_leastWays_36 rfl 2 rfl 37 rfl ?_
      refine mm_iconst (v := (1 : Int32)) C dX3_leastWays_37 (by decide) 38 rfl ?_
      obtain ⟨x28, ex28, h⟩ := mb h
      refine mm_iald C ex28 dX3_leastWays_38 39 rfl ?_
      obtain ⟨x29, ex29, h⟩ := mb h
      refine mm_callS [.int x25, .int x26, .int x27, .int x28] C (c_X3_pairWays ex29) wb_X3_pairWays ws_X3_63 rfl (by omega) rfl (Nat.le_of_ble_eq_true rfl) dX3_leastWays_39 42 rfl ?_
      show mm_AW z k 6 (some (.int r)) F F 42 [(0, .ref (mmad k 1)), (1, .ref (mmad k 24)), (2, .ref (mmad k 28))] [.int x29]
      exact mm_iretP C (h) dX3_leastWays_42
  · rw [if_pos hc] at h
    refine mm_aload_n C dX3_leastWays_8 rfl 1 rfl 9 rfl ?_
    refine mm_iconst (v := (0 : Int32)) C dX3_leastWays_9 (by decide) 10 rfl ?_
    obtain ⟨x30, ex30, h⟩ := mb h
    refine mm_iald C ex30 dX3_leastWays_10 11 rfl ?_
    refine mm_aload_n C dX3_leastWays_11 rfl 2 rfl 12 rfl ?_
    refine mm_iconst (v := (0 : Int32)) C dX3_leastWays_12 (by decide) 13 rfl ?_
    obtain ⟨x31, ex31, h⟩ := mb h
    refine mm_iald C ex31 dX3_leastWays_13 14 rfl ?_
    refine mm_isub C dX3_leastWays_14 15 rfl ?_
    refine mm_abs C mw_551 mw_552 mw_62 mw_553 (by omega) (Nat.le_trans (Nat.le_of_ble_eq_true rfl : _ ≤ 40) (by omega)) dX3_leastWays_15 18 rfl ?_
    exact mm_iretP C (h) dX3_leastWays_18
def m_X2_standAs_23_27_L26 : Nat → Int32 → mmS → Option (mmS)
  | 0, _, _ => none
  | n5 + 1, v3, G4 => if (G4 1 1) ≤ v3 then (some ((G4))) else (Option.bind (ald G4 28 v3) fun x6 => Option.bind (ast G4 24 v3 x6) fun G7 => mlet (v3 + (1 : Int32)) fun x8 => m_X2_standAs_23_27_L26 n5 x8 G7)
def m_X2_standAs_23_27 (F : mmS)  : Option (mmS) :=
  Option.bind (m_X3_leastWays_1_24_28 F) fun x1 => mlet (stF F 23 2 ((F 23 2) + x1)) fun G2 => bd1 (m_X2_standAs_23_27_L26 300 (0 : Int32) G2) fun G9 => some G9
set_option maxHeartbeats 4000000 in
set_option maxRecDepth 100000 in
theorem c_X2_standAs_23_27 {l : Launch} {k : mmK} {F : mmS}  {F1 : mmS} (h : m_X2_standAs_23_27 F = some F1) : mm_T l k yX2_standAs cX2_standAs 3 none 3 [.ref (mmad k 23), .ref (mmad k 27)] F none F1 := by
  refine mm_start [(0, .ref (mmad k 23)), (1, .ref (mmad k 27))] (by decide) (Nat.le_of_ble_eq_true rfl) rfl ?_
  intro z hz C
  subst hz
  have C : mm_C z k RX2 cX2_standAs 3 none 3 := C
  replace h := mk0 h
  unfold m_X2_standAs_23_27 at h
  refine mm_aload_n C dX2_standAs_0 rfl 0 rfl 1 rfl ?_
  refine mm_dup C dX2_standAs_1 rfl 2 rfl ?_
  refine mm_get C fl_X2_62_X2 (by decide) (mc_23 k _) rfl dX2_standAs_2 5 rfl ?_
  refine mm_aload_n C dX2_standAs_5 rfl 0 rfl 6 rfl ?_
  refine mm_get C fl_X2_53_X2 (by decide) (mc_23 k _) rfl dX2_standAs_6 9 rfl ?_
  refine mm_aload_n C dX2_standAs_9 rfl 0 rfl 10 rfl ?_
  refine mm_get C fl_X2_63_X2 (by decide) (mc_23 k _) rfl dX2_standAs_10 13 rfl ?_
  refine mm_aload_n C dX2_standAs_13 rfl 1 rfl 14 rfl ?_
  refine mm_get C fl_X2_67_X5 (by decide) (mc_27 k _) rfl dX2_standAs_14 17 rfl ?_
  obtain ⟨x1, ex1, h⟩ := mb h
  refine mm_callV [.ref (mmad k 24), .ref (mmad k 28)] C (c_X3_leastWays_1_24_28 ex1) wb_X3_leastWays wv_X2_68 (by decide) (mc_1 k _) rfl rfl rfl (by omega) rfl (Nat.le_of_ble_eq_true rfl) dX2_standAs_17 20 rfl ?_
  show mm_AW z k 3 none F1 F 20 [(0, .ref (mmad k 23)), (1, .ref (mmad k 27))] [.int x1, .int (F 23 2), .ref (mmad k 23)]
  refine mm_iadd C dX2_standAs_20 21 rfl ?_
  obtain ⟨G2, eG2, h⟩ := me h
  refine mm_put (x := ((F 23 2) + x1)) (ty := .int) C fl_X2_62_X2 (by decide) (mc_23 k _) (mc_23 k _) tyX2 tyX2_ok nmX2 rfl (by decide +kernel) rfl rfl (Nat.le_of_ble_eq_true rfl) eG2 dX2_standAs_21 24 rfl ?_
  refine mm_iconst (v := (0 : Int32)) C dX2_standAs_24 (by decide) 25 rfl ?_
  refine mm_istore_n (lv2 := [(2, .int (0 : Int32)), (0, .ref (mmad k 23)), (1, .ref (mmad k 27))]) C dX2_standAs_25 rfl (by decide) rfl 26 rfl ?_
  refine mm_lv [1, 2, 0] rfl ?_
  have hL26 : ∀ (K : (mmS) → Option (mmS)) (hK : ∀ (G4 : mmS) , K (G4) = some F1 → mm_AW z k 3 none F1 G4 55 [] []) (n5 : Nat) (v3 : Int32) (G4 : mmS) , (m_X2_standAs_23_27_L26 n5 v3 G4).bind K = some F1 → mm_AW z k 3 none F1 G4 26 [(0, .ref (mmad k 23)), (1, .ref (mmad k 27)), (2, .int v3)] [] := by
    intro K hK n5
    induction n5 with
    | zero => intro v3 G4 h; rw [m_X2_standAs_23_27_L26] at h; cases h
    | succ n5 ih =>
      intro v3 G4 h
      rw [m_X2_standAs_23_27_L26] at h
      refine mm_iload_n C dX2_standAs_26 rfl 2 rfl 27 rfl ?_
      refine mm_aload_n C dX2_standAs_27 rfl 0 rfl 28 rfl ?_
      refine mm_get C fl_X2_53_X2 (by decide) (mc_23 k _) rfl dX2_standAs_28 31 rfl ?_
      refine mm_get C fl_X2_72_X3 (by decide) (mc_1 k _) rfl dX2_standAs_31 34 rfl ?_
      refine mm_icmp_ge C dX2_standAs_34 55 37 (by decide) rfl (fun hc => ?_) (fun hc => ?_)
      · rw [if_pos hc] at h
        refine mm_lv [] rfl ?_
        exact hK _ h
      · rw [if_neg hc] at h
        refine mm_aload_n C dX2_standAs_37 rfl 0 rfl 38 rfl ?_
        refine mm_get C fl_X2_63_X2 (by decide) (mc_23 k _) rfl dX2_standAs_38 41 rfl ?_
        refine mm_iload_n C dX2_standAs_41 rfl 2 rfl 42 rfl ?_
        refine mm_aload_n C dX2_standAs_42 rfl 1 rfl 43 rfl ?_
        refine mm_get C fl_X2_67_X5 (by decide) (mc_27 k _) rfl dX2_standAs_43 46 rfl ?_
        refine mm_iload_n C dX2_standAs_46 rfl 2 rfl 47 rfl ?_
        obtain ⟨x6, ex6, h⟩ := mb h
        refine mm_iald C ex6 dX2_standAs_47 48 rfl ?_
        obtain ⟨G7, eG7, h⟩ := mb h
        refine mm_iast C eG7 dX2_standAs_48 49 rfl ?_
        obtain ⟨x8, ex8, h⟩ := me h
        refine mm_iinc (v := x8) (lv2 := [(2, .int x8), (0, .ref (mmad k 23)), (1, .ref (mmad k 27))]) C dX2_standAs_49 2 rfl (by rw [← ex8]; rfl) (by decide) rfl 52 rfl ?_
        refine mm_goto C dX2_standAs_52 26 (by decide) ?_
        refine mm_lv [1, 2, 0] rfl ?_
        exact ih _ _ h
  refine mj1 h (fun (G9 : mmS) => mm_AW z k 3 none F1 G9 55 [] []) ?_ ?_
  · intro G9 h
    exact mm_vretW C (h) dX2_standAs_55
  · intro K2 hR h
    exact hL26 K2 hR 300 _ _ h
def m_X2_meet_23 (F : mmS) (a1 : Int32) (a2 : Int32) : Option (mmS) :=
  Option.bind (m_X1_meet_25 F a1 a2) fun G1 => Option.bind (m_X5_meet_27 G1 a1 a2) fun G2 => bd1 (if (G2 23 6) = (3 : Int32) then (Option.bind (m_X2_isTooDear_23_27_25 G2) fun x6 => bd1 (if x6 = (0 : Int32) then (some ((3 : Int32))) else (some ((1 : Int32)))) fun y7 => mlet (stF G2 23 6 y7) fun G8 => some (G8)) else (Option.bind (m_X2_isTooDear_23_25_27 G2) fun x3 => bd1 (if x3 = (0 : Int32) then (some ((1 : Int32))) else (some ((3 : Int32)))) fun y4 => mlet (stF G2 23 6 y4) fun G5 => some (G5))) fun G9 => if (G9 23 6) = (3 : Int32) then (Option.bind (m_X2_standAs_23_27 G9) fun G11 => some G11) else (Option.bind (m_X2_standAs_23_25 G9) fun G10 => some G10)
set_option maxHeartbeats 4000000 in
set_option maxRecDepth 100000 in
theorem c_X2_meet_23 {l : Launch} {k : mmK} {F : mmS} {a1 : Int32} {a2 : Int32} {F1 : mmS} (h : m_X2_meet_23 F a1 a2 = some F1) : mm_T l k yX2_meet cX2_meet 3 none 4 [.ref (mmad k 23), .int a1, .int a2] F none F1 := by
  refine mm_start [(0, .ref (mmad k 23)), (1, .int a1), (2, .int a2)] (by decide) (Nat.le_of_ble_eq_true rfl) rfl ?_
  intro z hz C
  subst hz
  have C : mm_C z k RX2 cX2_meet 3 none 4 := C
  replace h := mk0 h
  unfold m_X2_meet_23 at h
  refine mm_aload_n C dX2_meet_0 rfl 0 rfl 1 rfl ?_
  refine mm_get C fl_X2_18_X2 (by decide) (mc_23 k _) rfl dX2_meet_1 4 rfl ?_
  refine mm_iload_n C dX2_meet_4 rfl 1 rfl 5 rfl ?_
  refine mm_iload_n C dX2_meet_5 rfl 2 rfl 6 rfl ?_
  obtain ⟨G1, eG1, h⟩ := mb h
  refine mm_callV [.int a1, .int a2] C (c_X1_meet_25 eG1) wb_X1_meet wv_X2_37 (by decide) (mc_25 k _) rfl rfl rfl (by omega) rfl (Nat.le_of_ble_eq_true rfl) dX2_meet_6 9 rfl ?_
  show mm_AW z k 3 none F1 G1 9 [(0, .ref (mmad k 23)), (1, .int a1), (2, .int a2)] []
  refine mm_aload_n C dX2_meet_9 rfl 0 rfl 10 rfl ?_
  refine mm_get C fl_X2_27_X2 (by decide) (mc_23 k _) rfl dX2_meet_10 13 rfl ?_
  refine mm_iload_n C dX2_meet_13 rfl 1 rfl 14 rfl ?_
  refine mm_iload_n C dX2_meet_14 rfl 2 rfl 15 rfl ?_
  obtain ⟨G2, eG2, h⟩ := mb h
  refine mm_callV [.int a1, .int a2] C (c_X5_meet_27 eG2) wb_X5_meet wv_X2_41 (by decide) (mc_27 k _) rfl rfl rfl (by omega) rfl (Nat.le_of_ble_eq_true rfl) dX2_meet_15 18 rfl ?_
  show mm_AW z k 3 none F1 G2 18 [(0, .ref (mmad k 23)), (1, .int a1), (2, .int a2)] []
  refine mm_aload_n C dX2_meet_18 rfl 0 rfl 19 rfl ?_
  refine mm_get C fl_X2_9_X2 (by decide) (mc_23 k _) rfl dX2_meet_19 22 rfl ?_
  refine mm_iconst (v := (3 : Int32)) C dX2_meet_22 (by decide) 23 rfl ?_
  refine mj1 h (fun (G9 : mmS) => mm_AW z k 3 none F1 G9 77 [(0, .ref (mmad k 23))] []) ?_ ?_
  · intro G9 h
    refine mm_aload_n C dX2_meet_77 rfl 0 rfl 78 rfl ?_
    refine mm_get C fl_X2_9_X2 (by decide) (mc_23 k _) rfl dX2_meet_78 81 rfl ?_
    refine mm_iconst (v := (3 : Int32)) C dX2_meet_81 (by decide) 82 rfl ?_
    refine mm_icmp_ne C dX2_meet_82 96 85 (by decide) rfl (fun hc => ?_) (fun hc => ?_)
    · rw [if_neg hc] at h
      refine mm_aload_n C dX2_meet_96 rfl 0 rfl 97 rfl ?_
      refine mm_aload_n C dX2_meet_97 rfl 0 rfl 98 rfl ?_
      refine mm_get C fl_X2_18_X2 (by decide) (mc_23 k _) rfl dX2_meet_98 101 rfl ?_
      obtain ⟨G10, eG10, h⟩ := mb h
      refine mm_callV [.ref (mmad k 25)] C (c_X2_standAs_23_25 eG10) wb_X2_standAs wv_X2_46 (by decide) (mc_23 k _) rfl rfl rfl (by omega) rfl (Nat.le_of_ble_eq_true rfl) dX2_meet_101 104 rfl ?_
      show mm_AW z k 3 none F1 G10 104 [(0, .ref (mmad k 23))] []
      exact mm_vretW C (h) dX2_meet_104
    · rw [if_pos hc] at h
      refine mm_aload_n C dX2_meet_85 rfl 0 rfl 86 rfl ?_
      refine mm_aload_n C dX2_meet_86 rfl 0 rfl 87 rfl ?_
      refine mm_get C fl_X2_27_X2 (by decide) (mc_23 k _) rfl dX2_meet_87 90 rfl ?_
      obtain ⟨G11, eG11, h⟩ := mb h
      refine mm_callV [.ref (mmad k 27)] C (c_X2_standAs_23_27 eG11) wb_X2_standAs wv_X2_46 (by decide) (mc_23 k _) rfl rfl rfl (by omega) rfl (Nat.le_of_ble_eq_true rfl) dX2_meet_90 93 rfl ?_
      show mm_AW z k 3 none F1 G11 93 [(0, .ref (mmad k 23))] []
      refine mm_goto C dX2_meet_93 104 (by decide) ?_
      exact mm_vretW C (h) dX2_meet_104
  · intro K2 hR77 h
    refine mm_icmp_ne C dX2_meet_23 53 26 (by decide) rfl (fun hc => ?_) (fun hc => ?_)
    · rw [if_neg hc] at h
      refine mm_aload_n C dX2_meet_53 rfl 0 rfl 54 rfl ?_
      refine mm_aload_n C dX2_meet_54 rfl 0 rfl 55 rfl ?_
      refine mm_aload_n C dX2_meet_55 rfl 0 rfl 56 rfl ?_
      refine mm_get C fl_X2_18_X2 (by decide) (mc_23 k _) rfl dX2_meet_56 59 rfl ?_
      refine mm_aload_n C dX2_meet_59 rfl 0 rfl 60 rfl ?_
      refine mm_get C fl_X2_27_X2 (by decide) (mc_23 k _) rfl dX2_meet_60 63 rfl ?_
      obtain ⟨x3, ex3, h⟩ := mb h
      refine mm_callV [.ref (mmad k 25), .ref (mmad k 27)] C (c_X2_isTooDear_23_25_27 ex3) wb_X2_isTooDear wv_X2_42 (by decide) (mc_23 k _) rfl rfl rfl (by omega) rfl (Nat.le_of_ble_eq_true rfl) dX2_meet_63 66 rfl ?_
      show mm_AW z k 3 none F1 G2 66 [(0, .ref (mmad k 23)), (1, .int a1), (2, .int a2)] [.int x3, .ref (mmad k 23)]
      refine mj1 h (fun (y4 : Int32) => mm_AW z k 3 none F1 G2 74 [(0, .ref (mmad k 23))] [.int y4, .ref (mmad k 23)]) ?_ ?_
      · intro y4 h
        obtain ⟨G5, eG5, h⟩ := me h
        refine mm_put (x := y4) (ty := .int) C fl_X2_9_X2 (by decide) (mc_23 k _) (mc_23 k _) tyX2 tyX2_ok nmX2 rfl (by decide +kernel) rfl rfl (Nat.le_of_ble_eq_true rfl) eG5 dX2_meet_74 77 rfl ?_
        exact hR77 _ h
      · intro K2 hR74 h
        refine mm_if_eq C dX2_meet_66 73 69 (by decide) rfl (fun hc => ?_) (fun hc => ?_)
        · rw [if_pos hc] at h
          refine mm_iconst (v := (1 : Int32)) C dX2_meet_73 (by decide) 74 rfl ?_
          refine mm_lv [0] rfl ?_
          exact hR74 _ h
        · rw [if_neg hc] at h
          refine mm_iconst (v := (3 : Int32)) C dX2_meet_69 (by decide) 70 rfl ?_
          refine mm_goto C dX2_meet_70 74 (by decide) ?_
          refine mm_lv [0] rfl ?_
          exact hR74 _ h
    · rw [if_pos hc] at h
      refine mm_aload_n C dX2_meet_26 rfl 0 rfl 27 rfl ?_
      refine mm_aload_n C dX2_meet_27 rfl 0 rfl 28 rfl ?_
      refine mm_aload_n C dX2_meet_28 rfl 0 rfl 29 rfl ?_
      refine mm_get C fl_X2_27_X2 (by decide) (mc_23 k _) rfl dX2_meet_29 32 rfl ?_
      refine mm_aload_n C dX2_meet_32 rfl 0 rfl 33 rfl ?_
      refine mm_get C fl_X2_18_X2 (by decide) (mc_23 k _) rfl dX2_meet_33 36 rfl ?_
      obtain ⟨x6, ex6, h⟩ := mb h
      refine mm_callV [.ref (mmad k 27), .ref (mmad k 25)] C (c_X2_isTooDear_23_27_25 ex6) wb_X2_isTooDear wv_X2_42 (by decide) (mc_23 k _) rfl rfl rfl (by omega) rfl (Nat.le_of_ble_eq_true rfl) dX2_meet_36 39 rfl ?_
      show mm_AW z k 3 none F1 G2 39 [(0, .ref (mmad k 23)), (1, .int a1), (2, .int a2)] [.int x6, .ref (mmad k 23)]
      refine mj1 h (fun (y7 : Int32) => mm_AW z k 3 none F1 G2 47 [(0, .ref (mmad k 23))] [.int y7, .ref (mmad k 23)]) ?_ ?_
      · intro y7 h
        obtain ⟨G8, eG8, h⟩ := me h
        refine mm_put (x := y7) (ty := .int) C fl_X2_9_X2 (by decide) (mc_23 k _) (mc_23 k _) tyX2 tyX2_ok nmX2 rfl (by decide +kernel) rfl rfl (Nat.le_of_ble_eq_true rfl) eG8 dX2_meet_47 50 rfl ?_
        refine mm_goto C dX2_meet_50 77 (by decide) ?_
        exact hR77 _ h
      · intro K2 hR47 h
        refine mm_if_eq C dX2_meet_39 46 42 (by decide) rfl (fun hc => ?_) (fun hc => ?_)
        · rw [if_pos hc] at h
          refine mm_iconst (v := (3 : Int32)) C dX2_meet_46 (by decide) 47 rfl ?_
          refine mm_lv [0] rfl ?_
          exact hR47 _ h
        · rw [if_neg hc] at h
          refine mm_iconst (v := (1 : Int32)) C dX2_meet_42 (by decide) 43 rfl ?_
          refine mm_goto C dX2_meet_43 47 (by decide) ?_
          refine mm_lv [0] rfl ?_
          exact hR47 _ h
