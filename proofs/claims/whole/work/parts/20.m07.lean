def m_X11_hint_0_L68 (x10 : Int32) : Nat → Int32 → mmS → Option (mmS)
  | 0, _, _ => none
  | n13 + 1, v11, G12 => if x10 ≤ v11 then (some ((G12))) else (Option.bind (ald G12 15 v11) fun x14 => Option.bind (m_X0_meet_36 G12 x14 (-1 : Int32)) fun G15 => Option.bind (m_X8_write_6 G15 (1 : Int32) v11 (G15 36 3)) fun G16 => mlet (v11 + (1 : Int32)) fun x17 => m_X11_hint_0_L68 x10 n13 x17 G16)
def m_X11_hint_0 (F : mmS)  : Option (Int32 × mmS) :=
  bd2 (m_X11_readRow_0 F) fun x1 G2 => if x1 = (0 : Int32) then (bd2 (m_X8_found_6 G2 (1 : Int32)) fun x3 G4 => some (x3, G4)) else (Option.bind (m_X8_isLost_6 G2 (1 : Int32)) fun x5 => if x5 = (0 : Int32) then (bd2 (m_X0_plan_36_14 G2) fun x6 G7 => Option.bind (m_X7_begin_36 G7) fun G8 => Option.bind (ald G8 13 (1 : Int32)) fun x9 => mlet (mmin x9 (G8 14 2)) fun x10 => bd1 (m_X11_hint_0_L68 x10 300 (0 : Int32) G8) fun G18 => some (x10, G18)) else (bd2 (m_X8_found_6 G2 (1 : Int32)) fun x19 G20 => some (x19, G20)))
set_option maxHeartbeats 4000000 in
set_option maxRecDepth 100000 in
theorem c_X11_hint_0 {l : Launch} {k : mmK} {F : mmS}  {r : Int32} {F1 : mmS} (h : m_X11_hint_0 F = some (r, F1)) : mm_T l k yX11_hint cX11_hint 3 (some .int) 5 [.ref (mmad k 0)] F (some (.int r)) F1 := by
  refine mm_start [(0, .ref (mmad k 0))] (by decide) (Nat.le_of_ble_eq_true rfl) rfl ?_
  intro z hz C
  subst hz
  have C : mm_C z k RX11 cX11_hint 3 (some .int) 5 := C
  replace h := mk0 h
  unfold m_X11_hint_0 at h
  refine mm_aload_n C dX11_hint_0 rfl 0 rfl 1 rfl ?_
  obtain ⟨x1, G2, ex1, h⟩ := mb2 h
  refine mm_callV [] C (c_X11_readRow_0 ex1) wb_X11_readRow wv_X11_120 (by decide) (mc_0 k _) rfl rfl rfl (by omega) rfl (Nat.le_of_ble_eq_true rfl) dX11_hint_1 4 rfl ?_
  show mm_AW z k 3 (some (.int r)) F1 G2 4 [(0, .ref (mmad k 0))] [.int x1]
  refine mm_if_eq C dX11_hint_4 18 7 (by decide) rfl (fun hc => ?_) (fun hc => ?_)
  · rw [if_pos hc] at h
    refine mm_aload_n C dX11_hint_18 rfl 0 rfl 19 rfl ?_
    refine mm_get C fl_X11_19_X11 (by decide) (mc_0 k _) rfl dX11_hint_19 22 rfl ?_
    refine mm_iconst (v := (1 : Int32)) C dX11_hint_22 (by decide) 23 rfl ?_
    obtain ⟨x3, G4, ex3, h⟩ := mb2 h
    refine mm_callV [.int (1 : Int32)] C (c_X8_found_6 ex3) wb_X8_found wv_X11_124 (by decide) (mc_6 k _) rfl rfl rfl (by omega) rfl (Nat.le_of_ble_eq_true rfl) dX11_hint_23 26 rfl ?_
    show mm_AW z k 3 (some (.int r)) F1 G4 26 [(0, .ref (mmad k 0))] [.int x3]
    exact mm_iretW C (h) dX11_hint_26
  · rw [if_neg hc] at h
    refine mm_aload_n C dX11_hint_7 rfl 0 rfl 8 rfl ?_
    refine mm_get C fl_X11_19_X11 (by decide) (mc_0 k _) rfl dX11_hint_8 11 rfl ?_
    refine mm_iconst (v := (1 : Int32)) C dX11_hint_11 (by decide) 12 rfl ?_
    obtain ⟨x5, ex5, h⟩ := mb h
    refine mm_callV [.int (1 : Int32)] C (c_X8_isLost_6 ex5) wb_X8_isLost wv_X11_193 (by decide) (mc_6 k _) rfl rfl rfl (by omega) rfl (Nat.le_of_ble_eq_true rfl) dX11_hint_12 15 rfl ?_
    show mm_AW z k 3 (some (.int r)) F1 G2 15 [(0, .ref (mmad k 0))] [.int x5]
    refine mm_if_eq C dX11_hint_15 27 18 (by decide) rfl (fun hc => ?_) (fun hc => ?_)
    · rw [if_pos hc] at h
      refine mm_aload_n C dX11_hint_27 rfl 0 rfl 28 rfl ?_
      refine mm_get C fl_X11_65_X11 (by decide) (mc_0 k _) rfl dX11_hint_28 31 rfl ?_
      refine mm_aload_n C dX11_hint_31 rfl 0 rfl 32 rfl ?_
      refine mm_get C fl_X11_26_X11 (by decide) (mc_0 k _) rfl dX11_hint_32 35 rfl ?_
      obtain ⟨x6, G7, ex6, h⟩ := mb2 h
      refine mm_callV [.ref (mmad k 14)] C (c_X0_plan_36_14 ex6) wb_X0_plan wv_X11_141 (by decide) (mc_36 k _) rfl rfl rfl (by omega) rfl (Nat.le_of_ble_eq_true rfl) dX11_hint_35 38 rfl ?_
      show mm_AW z k 3 (some (.int r)) F1 G7 38 [(0, .ref (mmad k 0))] [.int x6]
      refine mm_pop C dX11_hint_38 rfl 39 rfl ?_
      refine mm_aload_n C dX11_hint_39 rfl 0 rfl 40 rfl ?_
      refine mm_get C fl_X11_65_X11 (by decide) (mc_0 k _) rfl dX11_hint_40 43 rfl ?_
      obtain ⟨G8, eG8, h⟩ := mb h
      refine mm_callU [] C (c_X7_begin_36 eG8) wb_X7_begin wu_X11_225_X0 (fun s hN => hN.2.2.2.2) (by decide) (mc_36 k _) rfl rfl (by omega) rfl (Nat.le_of_ble_eq_true rfl) dX11_hint_43 46 rfl ?_
      show mm_AW z k 3 (some (.int r)) F1 G8 46 [(0, .ref (mmad k 0))] []
      refine mm_aload_n C dX11_hint_46 rfl 0 rfl 47 rfl ?_
      refine mm_get C fl_X11_19_X11 (by decide) (mc_0 k _) rfl dX11_hint_47 50 rfl ?_
      refine mm_get C fl_X11_196_X8 (by decide) (mc_6 k _) rfl dX11_hint_50 53 rfl ?_
      refine mm_iconst (v := (1 : Int32)) C dX11_hint_53 (by decide) 54 rfl ?_
      obtain ⟨x9, ex9, h⟩ := mb h
      refine mm_iald C ex9 dX11_hint_54 55 rfl ?_
      refine mm_aload_n C dX11_hint_55 rfl 0 rfl 56 rfl ?_
      refine mm_get C fl_X11_26_X11 (by decide) (mc_0 k _) rfl dX11_hint_56 59 rfl ?_
      refine mm_get C fl_X11_128_X6 (by decide) (mc_14 k _) rfl dX11_hint_59 62 rfl ?_
      refine mm_min C mw_848 mw_517 mw_62 mw_518 (by omega) (Nat.le_trans (Nat.le_of_ble_eq_true rfl : _ ≤ 40) (by omega)) dX11_hint_62 65 rfl ?_
      obtain ⟨x10, ex10, h⟩ := me h
      refine mm_top ex10 ?_
      refine mm_istore_n (lv2 := [(1, .int x10), (0, .ref (mmad k 0))]) C dX11_hint_65 rfl (by decide) rfl 66 rfl ?_
      refine mm_iconst (v := (0 : Int32)) C dX11_hint_66 (by decide) 67 rfl ?_
      refine mm_istore_n (lv2 := [(2, .int (0 : Int32)), (1, .int x10), (0, .ref (mmad k 0))]) C dX11_hint_67 rfl (by decide) rfl 68 rfl ?_
      refine mm_lv [2, 1, 0] rfl ?_
      have hL68 : ∀ (K : (mmS) → Option (Int32 × mmS)) (hK : ∀ (G12 : mmS) , K (G12) = some (r, F1) → mm_AW z k 3 (some (.int r)) F1 G12 112 [(1, .int x10)] []) (n13 : Nat) (v11 : Int32) (G12 : mmS) , (m_X11_hint_0_L68 x10 n13 v11 G12).bind K = some (r, F1) → mm_AW z k 3 (some (.int r)) F1 G12 68 [(0, .ref (mmad k 0)), (1, .int x10), (2, .int v11)] [] := by
        intro K hK n13
        induction n13 with
        | zero => intro v11 G12 h; rw [m_X11_hint_0_L68] at h; cases h
        | succ n13 ih =>
          intro v11 G12 h
          rw [m_X11_hint_0_L68] at h
          refine mm_iload_n C dX11_hint_68 rfl 2 rfl 69 rfl ?_
          refine mm_iload_n C dX11_hint_69 rfl 1 rfl 70 rfl ?_
          refine mm_icmp_ge C dX11_hint_70 112 73 (by decide) rfl (fun hc => ?_) (fun hc => ?_)
          · rw [if_pos hc] at h
            refine mm_lv [1] rfl ?_
            exact hK _ h
          · rw [if_neg hc] at h
            refine mm_aload_n C dX11_hint_73 rfl 0 rfl 74 rfl ?_
            refine mm_get C fl_X11_65_X11 (by decide) (mc_0 k _) rfl dX11_hint_74 77 rfl ?_
            refine mm_aload_n C dX11_hint_77 rfl 0 rfl 78 rfl ?_
            refine mm_get C fl_X11_26_X11 (by decide) (mc_0 k _) rfl dX11_hint_78 81 rfl ?_
            refine mm_get C fl_X11_233_X6 (by decide) (mc_14 k _) rfl dX11_hint_81 84 rfl ?_
            refine mm_iload_n C dX11_hint_84 rfl 2 rfl 85 rfl ?_
            obtain ⟨x14, ex14, h⟩ := mb h
            refine mm_iald C ex14 dX11_hint_85 86 rfl ?_
            refine mm_iconst (v := (-1 : Int32)) C dX11_hint_86 (by decide) 87 rfl ?_
            obtain ⟨G15, eG15, h⟩ := mb h
            refine mm_callV [.int x14, .int (-1 : Int32)] C (c_X0_meet_36 eG15) wb_X0_meet wv_X11_236 (by decide) (mc_36 k _) rfl rfl rfl (by omega) rfl (Nat.le_of_ble_eq_true rfl) dX11_hint_87 90 rfl ?_
            show mm_AW z k 3 (some (.int r)) F1 G15 90 [(0, .ref (mmad k 0)), (1, .int x10), (2, .int v11)] []
            refine mm_aload_n C dX11_hint_90 rfl 0 rfl 91 rfl ?_
            refine mm_get C fl_X11_19_X11 (by decide) (mc_0 k _) rfl dX11_hint_91 94 rfl ?_
            refine mm_iconst (v := (1 : Int32)) C dX11_hint_94 (by decide) 95 rfl ?_
            refine mm_iload_n C dX11_hint_95 rfl 2 rfl 96 rfl ?_
            refine mm_aload_n C dX11_hint_96 rfl 0 rfl 97 rfl ?_
            refine mm_get C fl_X11_65_X11 (by decide) (mc_0 k _) rfl dX11_hint_97 100 rfl ?_
            refine mm_get C fl_X11_239_X0 (by decide) (mc_36 k _) rfl dX11_hint_100 103 rfl ?_
            obtain ⟨G16, eG16, h⟩ := mb h
            refine mm_callV [.int (1 : Int32), .int v11, .int (G15 36 3)] C (c_X8_write_6 eG16) wb_X8_write wv_X11_205 (by decide) (mc_6 k _) rfl rfl rfl (by omega) rfl (Nat.le_of_ble_eq_true rfl) dX11_hint_103 106 rfl ?_
            show mm_AW z k 3 (some (.int r)) F1 G16 106 [(0, .ref (mmad k 0)), (1, .int x10), (2, .int v11)] []
            obtain ⟨x17, ex17, h⟩ := me h
            refine mm_iinc (v := x17) (lv2 := [(2, .int x17), (0, .ref (mmad k 0)), (1, .int x10)]) C dX11_hint_106 2 rfl (by rw [← ex17]; rfl) (by decide) rfl 109 rfl ?_
            refine mm_goto C dX11_hint_109 68 (by decide) ?_
            refine mm_lv [1, 2, 0] rfl ?_
            exact ih _ _ h
      refine mj1 h (fun (G18 : mmS) => mm_AW z k 3 (some (.int r)) F1 G18 112 [(1, .int x10)] []) ?_ ?_
      · intro G18 h
        refine mm_iload_n C dX11_hint_112 rfl 0 rfl 113 rfl ?_
        exact mm_iretW C (h) dX11_hint_113
      · intro K2 hR h
        exact hL68 K2 hR 300 _ _ h
    · rw [if_neg hc] at h
      refine mm_aload_n C dX11_hint_18 rfl 0 rfl 19 rfl ?_
      refine mm_get C fl_X11_19_X11 (by decide) (mc_0 k _) rfl dX11_hint_19 22 rfl ?_
      refine mm_iconst (v := (1 : Int32)) C dX11_hint_22 (by decide) 23 rfl ?_
      obtain ⟨x19, G20, ex19, h⟩ := mb2 h
      refine mm_callV [.int (1 : Int32)] C (c_X8_found_6 ex19) wb_X8_found wv_X11_124 (by decide) (mc_6 k _) rfl rfl rfl (by omega) rfl (Nat.le_of_ble_eq_true rfl) dX11_hint_23 26 rfl ?_
      show mm_AW z k 3 (some (.int r)) F1 G20 26 [(0, .ref (mmad k 0))] [.int x19]
      exact mm_iretW C (h) dX11_hint_26
def m_X8_keptCount_6_L4 (F : mmS) : Nat → Int32 → Int32 → Option (Int32)
  | 0, _, _ => none
  | n3 + 1, v1, v2 => if (4 : Int32) ≤ v2 then (some ((v1))) else (Option.bind (m_X8_isLost_6 F v2) fun x4 => bd1 (if x4 = (0 : Int32) then (mlet (v1 + (1 : Int32)) fun x5 => some (x5)) else (some (v1))) fun y6 => mlet (v2 + (1 : Int32)) fun x7 => m_X8_keptCount_6_L4 F n3 y6 x7)
def m_X8_keptCount_6 (F : mmS)  : Option (Int32) :=
  bd1 (m_X8_keptCount_6_L4 F 300 (0 : Int32) (0 : Int32)) fun y8 => some y8
set_option maxHeartbeats 4000000 in
set_option maxRecDepth 100000 in
theorem c_X8_keptCount_6 {l : Launch} {k : mmK} {F : mmS}  {r : Int32} (h : m_X8_keptCount_6 F = some r) : mm_T l k yX8_keptCount cX8_keptCount 3 (some .int) 1 [.ref (mmad k 6)] F (some (.int r)) F := by
  refine mm_start [(0, .ref (mmad k 6))] (by decide) (Nat.le_of_ble_eq_true rfl) rfl ?_
  intro z hz C
  subst hz
  have C : mm_C z k RX8 cX8_keptCount 3 (some .int) 1 := C
  replace h := mk0 h
  unfold m_X8_keptCount_6 at h
  refine mm_iconst (v := (0 : Int32)) C dX8_keptCount_0 (by decide) 1 rfl ?_
  refine mm_istore_n (lv2 := [(1, .int (0 : Int32)), (0, .ref (mmad k 6))]) C dX8_keptCount_1 rfl (by decide) rfl 2 rfl ?_
  refine mm_iconst (v := (0 : Int32)) C dX8_keptCount_2 (by decide) 3 rfl ?_
  refine mm_istore_n (lv2 := [(2, .int (0 : Int32)), (1, .int (0 : Int32)), (0, .ref (mmad k 6))]) C dX8_keptCount_3 rfl (by decide) rfl 4 rfl ?_
  refine mm_lv [2, 1, 0] rfl ?_
  have hL4 : ∀ (K : (Int32) → Option (Int32)) (hK : ∀ (v1 : Int32) , K (v1) = some r → mm_AW z k 3 (some (.int r)) F F 26 [(1, .int v1)] []) (n3 : Nat) (v1 : Int32) (v2 : Int32) , (m_X8_keptCount_6_L4 F n3 v1 v2).bind K = some r → mm_AW z k 3 (some (.int r)) F F 4 [(0, .ref (mmad k 6)), (1, .int v1), (2, .int v2)] [] := by
    intro K hK n3
    induction n3 with
    | zero => intro v1 v2 h; rw [m_X8_keptCount_6_L4] at h; cases h
    | succ n3 ih =>
      intro v1 v2 h
      rw [m_X8_keptCount_6_L4] at h
      refine mm_iload_n C dX8_keptCount_4 rfl 2 rfl 5 rfl ?_
      refine mm_iconst (v := (4 : Int32)) C dX8_keptCount_5 (by decide) 6 rfl ?_
      refine mm_icmp_ge C dX8_keptCount_6 26 9 (by decide) rfl (fun hc => ?_) (fun hc => ?_)
      · rw [if_pos hc] at h
        refine mm_lv [1] rfl ?_
        exact hK _ h
      · rw [if_neg hc] at h
        refine mm_aload_n C dX8_keptCount_9 rfl 0 rfl 10 rfl ?_
        refine mm_iload_n C dX8_keptCount_10 rfl 2 rfl 11 rfl ?_
        obtain ⟨x4, ex4, h⟩ := mb h
        refine mm_callV [.int v2] C (c_X8_isLost_6 ex4) wb_X8_isLost wv_X8_27 (by decide) (mc_6 k _) rfl rfl rfl (by omega) rfl (Nat.le_of_ble_eq_true rfl) dX8_keptCount_11 14 rfl ?_
        show mm_AW z k 3 (some (.int r)) F F 14 [(0, .ref (mmad k 6)), (1, .int v1), (2, .int v2)] [.int x4]
        refine mj1 h (fun (y6 : Int32) => mm_AW z k 3 (some (.int r)) F F 20 [(0, .ref (mmad k 6)), (1, .int y6), (2, .int v2)] []) ?_ ?_
        · intro y6 h
          obtain ⟨x7, ex7, h⟩ := me h
          refine mm_iinc (v := x7) (lv2 := [(2, .int x7), (0, .ref (mmad k 6)), (1, .int y6)]) C dX8_keptCount_20 2 rfl (by rw [← ex7]; rfl) (by decide) rfl 23 rfl ?_
          refine mm_goto C dX8_keptCount_23 4 (by decide) ?_
          refine mm_lv [1, 2, 0] rfl ?_
          exact ih _ _ h
        · intro K2 hR20 h
          refine mm_if_ne C dX8_keptCount_14 20 17 (by decide) rfl (fun hc => ?_) (fun hc => ?_)
          · rw [if_neg hc] at h
            exact hR20 _ h
          · rw [if_pos hc] at h
            obtain ⟨x5, ex5, h⟩ := me h
            refine mm_iinc (v := x5) (lv2 := [(1, .int x5), (0, .ref (mmad k 6)), (2, .int v2)]) C dX8_keptCount_17 1 rfl (by rw [← ex5]; rfl) (by decide) rfl 20 rfl ?_
            refine mm_lv [1, 0, 2] rfl ?_
            exact hR20 _ h
  refine mj1 h (fun (y8 : Int32) => mm_AW z k 3 (some (.int r)) F F 26 [(1, .int y8)] []) ?_ ?_
  · intro y8 h
    refine mm_iload_n C dX8_keptCount_26 rfl 0 rfl 27 rfl ?_
    exact mm_iretP C (h) dX8_keptCount_27
  · intro K2 hR h
    exact hL4 K2 hR 300 _ _ h
def m_X11_count_0 (F : mmS) (a1 : Int32) : Option (Int32) :=
  if a1 = 0 then (some (F 1 0)) else if a1 = 1 then (some (F 1 1)) else if a1 = 2 then (some (F 1 2)) else if a1 = 3 then (some (F 6 3)) else if a1 = 4 then (Option.bind (m_X8_keptCount_6 F) fun x1 => some x1) else (some (-2 : Int32))
set_option maxHeartbeats 4000000 in
set_option maxRecDepth 100000 in
theorem c_X11_count_0 {l : Launch} {k : mmK} {F : mmS} {a1 : Int32} {r : Int32} (h : m_X11_count_0 F a1 = some r) : mm_T l k yX11_count cX11_count 2 (some .int) 2 [.ref (mmad k 0), .int a1] F (some (.int r)) F := by
  refine mm_start [(0, .ref (mmad k 0)), (1, .int a1)] (by decide) (Nat.le_of_ble_eq_true rfl) rfl ?_
  intro z hz C
  subst hz
  have C : mm_C z k RX11 cX11_count 2 (some .int) 2 := C
  replace h := mk0 h
  unfold m_X11_count_0 at h
  refine mm_iload_n C dX11_count_0 rfl 1 rfl 1 rfl ?_
  refine mm_tsw C dX11_count_1 36 44 52 60 68 76 (by decide) (by decide) (by decide) (by decide) (by decide) (by decide) (fun hc => ?_) (fun hc => ?_) (fun hc => ?_) (fun hc => ?_) (fun hc => ?_) (fun g0 g1 g2 g3 g4 => ?_)
  · rw [if_pos hc] at h
    refine mm_aload_n C dX11_count_36 rfl 0 rfl 37 rfl ?_
    refine mm_get C fl_X11_10_X11 (by decide) (mc_0 k _) rfl dX11_count_37 40 rfl ?_
    refine mm_get C fl_X11_89_X3 (by decide) (mc_1 k _) rfl dX11_count_40 43 rfl ?_
    exact mm_iretP C (h) dX11_count_43
  · rw [if_neg (show ¬ a1 = 0 by rw [hc]; decide), if_pos hc] at h
    refine mm_aload_n C dX11_count_44 rfl 0 rfl 45 rfl ?_
    refine mm_get C fl_X11_10_X11 (by decide) (mc_0 k _) rfl dX11_count_45 48 rfl ?_
    refine mm_get C fl_X11_105_X3 (by decide) (mc_1 k _) rfl dX11_count_48 51 rfl ?_
    exact mm_iretP C (h) dX11_count_51
  · rw [if_neg (show ¬ a1 = 0 by rw [hc]; decide), if_neg (show ¬ a1 = 1 by rw [hc]; decide), if_pos hc] at h
    refine mm_aload_n C dX11_count_52 rfl 0 rfl 53 rfl ?_
    refine mm_get C fl_X11_10_X11 (by decide) (mc_0 k _) rfl dX11_count_53 56 rfl ?_
    refine mm_get C fl_X11_117_X3 (by decide) (mc_1 k _) rfl dX11_count_56 59 rfl ?_
    exact mm_iretP C (h) dX11_count_59
  · rw [if_neg (show ¬ a1 = 0 by rw [hc]; decide), if_neg (show ¬ a1 = 1 by rw [hc]; decide), if_neg (show ¬ a1 = 2 by rw [hc]; decide), if_pos hc] at h
    refine mm_aload_n C dX11_count_60 rfl 0 rfl 61 rfl ?_
    refine mm_get C fl_X11_19_X11 (by decide) (mc_0 k _) rfl dX11_count_61 64 rfl ?_
    refine mm_get C fl_X11_242_X8 (by decide) (mc_6 k _) rfl dX11_count_64 67 rfl ?_
    exact mm_iretP C (h) dX11_count_67
  · rw [if_neg (show ¬ a1 = 0 by rw [hc]; decide), if_neg (show ¬ a1 = 1 by rw [hc]; decide), if_neg (show ¬ a1 = 2 by rw [hc]; decide), if_neg (show ¬ a1 = 3 by rw [hc]; decide), if_pos hc] at h
    refine mm_aload_n C dX11_count_68 rfl 0 rfl 69 rfl ?_
    refine mm_get C fl_X11_19_X11 (by decide) (mc_0 k _) rfl dX11_count_69 72 rfl ?_
    obtain ⟨x1, ex1, h⟩ := mb h
    refine mm_callV [] C (c_X8_keptCount_6 ex1) wb_X8_keptCount wv_X11_245 (by decide) (mc_6 k _) rfl rfl rfl (by omega) rfl (Nat.le_of_ble_eq_true rfl) dX11_count_72 75 rfl ?_
    show mm_AW z k 2 (some (.int r)) F F 75 [(0, .ref (mmad k 0)), (1, .int a1)] [.int x1]
    exact mm_iretP C (h) dX11_count_75
  · rw [if_neg g0, if_neg g1, if_neg g2, if_neg g3, if_neg g4] at h
    refine mm_bipush (v := (-2 : Int32)) C dX11_count_76 (by decide) 78 rfl ?_
    exact mm_iretP C (h) dX11_count_78
def m_X11_digest_0_L66 (F : mmS) : Nat → Int64 → Int32 → Option (Int64)
  | 0, _, _ => none
  | n8 + 1, v6, v7 => if (F 1 0) ≤ v7 then (some ((v6))) else (Option.bind (ald F 2 v7) fun x9 => mlet (((31 : Int64) * v6) + x9.toInt64) fun x10 => mlet (v7 + (1 : Int32)) fun x11 => m_X11_digest_0_L66 F n8 x10 x11)
def m_X11_digest_0_L102 (F : mmS) : Nat → Int64 → Int32 → Option (Int64)
  | 0, _, _ => none
  | n15 + 1, v13, v14 => if (F 1 1) ≤ v14 then (some ((v13))) else (Option.bind (ald F 3 v14) fun x16 => mlet (((31 : Int64) * v13) + x16.toInt64) fun x17 => mlet (v14 + (1 : Int32)) fun x18 => m_X11_digest_0_L102 F n15 x17 x18)
def m_X11_digest_0_L162 : Nat → Int64 → Int32 → mmS → Option (Int64 × mmS)
  | 0, _, _, _ => none
  | n26 + 1, v23, v24, G25 => if (4 : Int32) < v24 then (some ((v23, G25))) else (Option.bind (rld 29 v24) fun q27 => if q27 = 30 then (bd2 (m_X6_lead_14_30 G25 (G25 14 2)) fun x28 G29 => mlet (((31 : Int64) * v23) + x28.toInt64) fun x30 => mlet (v24 + (1 : Int32)) fun x31 => m_X11_digest_0_L162 n26 x30 x31 G29) else if q27 = 32 then (bd2 (m_X6_lead_14_32 G25 (G25 14 2)) fun x32 G33 => mlet (((31 : Int64) * v23) + x32.toInt64) fun x34 => mlet (v24 + (1 : Int32)) fun x35 => m_X11_digest_0_L162 n26 x34 x35 G33) else if q27 = 17 then (bd2 (m_X6_lead_14_17 G25 (G25 14 2)) fun x36 G37 => mlet (((31 : Int64) * v23) + x36.toInt64) fun x38 => mlet (v24 + (1 : Int32)) fun x39 => m_X11_digest_0_L162 n26 x38 x39 G37) else if q27 = 34 then (bd2 (m_X6_lead_14_34 G25 (G25 14 2)) fun x40 G41 => mlet (((31 : Int64) * v23) + x40.toInt64) fun x42 => mlet (v24 + (1 : Int32)) fun x43 => m_X11_digest_0_L162 n26 x42 x43 G41) else if q27 = 23 then (bd2 (m_X6_lead_14_23 G25 (G25 14 2)) fun x44 G45 => mlet (((31 : Int64) * v23) + x44.toInt64) fun x46 => mlet (v24 + (1 : Int32)) fun x47 => m_X11_digest_0_L162 n26 x46 x47 G45) else none)
def m_X11_digest_0 (F : mmS)  : Option (Int64 × mmS) :=
  mlet (((31 : Int64) * (17 : Int64)) + (F 1 0).toInt64) fun x1 => mlet (((31 : Int64) * x1) + (F 1 1).toInt64) fun x2 => mlet (((31 : Int64) * x2) + (F 1 2).toInt64) fun x3 => Option.bind (m_X8_keptCount_6 F) fun x4 => mlet (((31 : Int64) * x3) + x4.toInt64) fun x5 => bd1 (m_X11_digest_0_L66 F 300 x5 (0 : Int32)) fun y12 => bd1 (m_X11_digest_0_L102 F 300 y12 (0 : Int32)) fun y19 => bd2 (m_X11_readRow_0 F) fun x20 G21 => if x20 = (0 : Int32) then (some (y19, G21)) else (mlet (((31 : Int64) * y19) + (G21 14 2).toInt64) fun x22 => bd2 (m_X11_digest_0_L162 300 x22 (0 : Int32) G21) fun y48 G49 => bd2 (m_X0_plan_36_14 G49) fun x50 G51 => mlet (((31 : Int64) * y48) + x50.toInt64) fun x52 => bd2 (m_X4_firstUnpaid_80_14 G51) fun x53 G54 => some ((((31 : Int64) * x52) + x53.toInt64), G54))
set_option maxHeartbeats 4000000 in
set_option maxRecDepth 100000 in
theorem c_X11_digest_0 {l : Launch} {k : mmK} {F : mmS}  {r : Int64} {F1 : mmS} (h : m_X11_digest_0 F = some (r, F1)) : mm_T l k yX11_digest cX11_digest 4 (some .long) 11 [.ref (mmad k 0)] F (some (.long r)) F1 := by
  refine mm_start [(0, .ref (mmad k 0))] (by decide) (Nat.le_of_ble_eq_true rfl) rfl ?_
  intro z hz C
  subst hz
  have C : mm_C z k RX11 cX11_digest 4 (some .long) 11 := C
  replace h := mk0 h
  unfold m_X11_digest_0 at h
  refine mm_ldc2 (v := (17 : Int64)) C dX11_digest_0 mw_863 3 rfl ?_
  refine mm_lstore_n (lv2 := [(1, .long (17 : Int64)), (0, .ref (mmad k 0))]) C dX11_digest_3 rfl (by decide) rfl 4 rfl ?_
  refine mm_ldc2 (v := (31 : Int64)) C dX11_digest_4 mw_864 7 rfl ?_
  refine mm_lload_n C dX11_digest_7 rfl 0 rfl 8 rfl ?_
  refine mm_lmul C dX11_digest_8 9 rfl ?_
  refine mm_aload_n C dX11_digest_9 rfl 1 rfl 10 rfl ?_
  refine mm_get C fl_X11_10_X11 (by decide) (mc_0 k _) rfl dX11_digest_10 13 rfl ?_
  refine mm_get C fl_X11_89_X3 (by decide) (mc_1 k _) rfl dX11_digest_13 16 rfl ?_
  refine mm_i2l C dX11_digest_16 17 rfl ?_
  refine mm_ladd C dX11_digest_17 18 rfl ?_
  obtain ⟨x1, ex1, h⟩ := me h
  refine mm_topl ex1 ?_
  refine mm_lstore_n (lv2 := [(1, .long x1), (0, .ref (mmad k 0))]) C dX11_digest_18 rfl (by decide) rfl 19 rfl ?_
  refine mm_ldc2 (v := (31 : Int64)) C dX11_digest_19 mw_864 22 rfl ?_
  refine mm_lload_n C dX11_digest_22 rfl 0 rfl 23 rfl ?_
  refine mm_lmul C dX11_digest_23 24 rfl ?_
  refine mm_aload_n C dX11_digest_24 rfl 1 rfl 25 rfl ?_
  refine mm_get C fl_X11_10_X11 (by decide) (mc_0 k _) rfl dX11_digest_25 28 rfl ?_
  refine mm_get C fl_X11_105_X3 (by decide) (mc_1 k _) rfl dX11_digest_28 31 rfl ?_
  refine mm_i2l C dX11_digest_31 32 rfl ?_
  refine mm_ladd C dX11_digest_32 33 rfl ?_
  obtain ⟨x2, ex2, h⟩ := me h
  refine mm_topl ex2 ?_
  refine mm_lstore_n (lv2 := [(1, .long x2), (0, .ref (mmad k 0))]) C dX11_digest_33 rfl (by decide) rfl 34 rfl ?_
  refine mm_ldc2 (v := (31 : Int64)) C dX11_digest_34 mw_864 37 rfl ?_
  refine mm_lload_n C dX11_digest_37 rfl 0 rfl 38 rfl ?_
  refine mm_lmul C dX11_digest_38 39 rfl ?_
  refine mm_aload_n C dX11_digest_39 rfl 1 rfl 40 rfl ?_
  refine mm_get C fl_X11_10_X11 (by decide) (mc_0 k _) rfl dX11_digest_40 43 rfl ?_
  refine mm_get C fl_X11_117_X3 (by decide) (mc_1 k _) rfl dX11_digest_43 46 rfl ?_
  refine mm_i2l C dX11_digest_46 47 rfl ?_
  refine mm_ladd C dX11_digest_47 48 rfl ?_
  obtain ⟨x3, ex3, h⟩ := me h
  refine mm_topl ex3 ?_
  refine mm_lstore_n (lv2 := [(1, .long x3), (0, .ref (mmad k 0))]) C dX11_digest_48 rfl (by decide) rfl 49 rfl ?_
  refine mm_ldc2 (v := (31 : Int64)) C dX11_digest_49 mw_864 52 rfl ?_
  refine mm_lload_n C dX11_digest_52 rfl 0 rfl 53 rfl ?_
  refine mm_lmul C dX11_digest_53 54 rfl ?_
  refine mm_aload_n C dX11_digest_54 rfl 1 rfl 55 rfl ?_
  refine mm_get C fl_X11_19_X11 (by decide) (mc_0 k _) rfl dX11_digest_55 58 rfl ?_
  obtain ⟨x4, ex4, h⟩ := mb h
  refine mm_callV [] C (c_X8_keptCount_6 ex4) wb_X8_keptCount wv_X11_245 (by decide) (mc_6 k _) rfl rfl rfl (by omega) rfl (Nat.le_of_ble_eq_true rfl) dX11_digest_58 61 rfl ?_
  show mm_AW z k 4 (some (.long r)) F1 F 61 [(1, .long x3), (0, .ref (mmad k 0))] [.int x4, .long ((31 : Int64) * x3)]
  refine mm_i2l C dX11_digest_61 62 rfl ?_
  refine mm_ladd C dX11_digest_62 63 rfl ?_
  obtain ⟨x5, ex5, h⟩ := me h
  refine mm_topl ex5 ?_
  refine mm_lstore_n (lv2 := [(1, .long x5), (0, .ref (mmad k 0))]) C dX11_digest_63 rfl (by decide) rfl 64 rfl ?_
  refine mm_iconst (v := (0 : Int32)) C dX11_digest_64 (by decide) 65 rfl ?_
  refine mm_istore_n (lv2 := [(3, .int (0 : Int32)), (1, .long x5), (0, .ref (mmad k 0))]) C dX11_digest_65 rfl (by decide) rfl 66 rfl ?_
  refine mm_lv [2, 1, 0] rfl ?_
  have hL66 : ∀ (K : (Int64) → Option (Int64 × mmS)) (hK : ∀ (v6 : Int64) , K (v6) = some (r, F1) → mm_AW z k 4 (some (.long r)) F1 F 100 [(0, .ref (mmad k 0)), (1, .long v6)] []) (n8 : Nat) (v6 : Int64) (v7 : Int32) , (m_X11_digest_0_L66 F n8 v6 v7).bind K = some (r, F1) → mm_AW z k 4 (some (.long r)) F1 F 66 [(0, .ref (mmad k 0)), (1, .long v6), (3, .int v7)] [] := by
    intro K hK n8
    induction n8 with
    | zero => intro v6 v7 h; rw [m_X11_digest_0_L66] at h; cases h
    | succ n8 ih =>
      intro v6 v7 h
      rw [m_X11_digest_0_L66] at h
      refine mm_iload_n C dX11_digest_66 rfl 2 rfl 67 rfl ?_
      refine mm_aload_n C dX11_digest_67 rfl 0 rfl 68 rfl ?_
      refine mm_get C fl_X11_10_X11 (by decide) (mc_0 k _) rfl dX11_digest_68 71 rfl ?_
      refine mm_get C fl_X11_89_X3 (by decide) (mc_1 k _) rfl dX11_digest_71 74 rfl ?_
      refine mm_icmp_ge C dX11_digest_74 100 77 (by decide) rfl (fun hc => ?_) (fun hc => ?_)
      · rw [if_pos hc] at h
        refine mm_lv [0, 1] rfl ?_
        exact hK _ h
      · rw [if_neg hc] at h
        refine mm_ldc2 (v := (31 : Int64)) C dX11_digest_77 mw_864 80 rfl ?_
        refine mm_lload_n C dX11_digest_80 rfl 1 rfl 81 rfl ?_
        refine mm_lmul C dX11_digest_81 82 rfl ?_
        refine mm_aload_n C dX11_digest_82 rfl 0 rfl 83 rfl ?_
        refine mm_get C fl_X11_10_X11 (by decide) (mc_0 k _) rfl dX11_digest_83 86 rfl ?_
        refine mm_get C fl_X11_101_X3 (by decide) (mc_1 k _) rfl dX11_digest_86 89 rfl ?_
        refine mm_iload_n C dX11_digest_89 rfl 2 rfl 90 rfl ?_
        obtain ⟨x9, ex9, h⟩ := mb h
        refine mm_iald C ex9 dX11_digest_90 91 rfl ?_
        refine mm_i2l C dX11_digest_91 92 rfl ?_
        refine mm_ladd C dX11_digest_92 93 rfl ?_
        obtain ⟨x10, ex10, h⟩ := me h
        refine mm_topl ex10 ?_
        refine mm_lstore_n (lv2 := [(1, .long x10), (0, .ref (mmad k 0)), (3, .int v7)]) C dX11_digest_93 rfl (by decide) rfl 94 rfl ?_
        obtain ⟨x11, ex11, h⟩ := me h
        refine mm_iinc (v := x11) (lv2 := [(3, .int x11), (1, .long x10), (0, .ref (mmad k 0))]) C dX11_digest_94 2 rfl (by rw [← ex11]; rfl) (by decide) rfl 97 rfl ?_
        refine mm_goto C dX11_digest_97 66 (by decide) ?_
        refine mm_lv [2, 1, 0] rfl ?_
        exact ih _ _ h
  refine mj1 h (fun (y12 : Int64) => mm_AW z k 4 (some (.long r)) F1 F 100 [(0, .ref (mmad k 0)), (1, .long y12)] []) ?_ ?_
  · intro y12 h
    refine mm_iconst (v := (0 : Int32)) C dX11_digest_100 (by decide) 101 rfl ?_
    refine mm_istore_n (lv2 := [(3, .int (0 : Int32)), (0, .ref (mmad k 0)), (1, .long y12)]) C dX11_digest_101 rfl (by decide) rfl 102 rfl ?_
    refine mm_lv [1, 2, 0] rfl ?_
    have hL102 : ∀ (K : (Int64) → Option (Int64 × mmS)) (hK : ∀ (v13 : Int64) , K (v13) = some (r, F1) → mm_AW z k 4 (some (.long r)) F1 F 136 [(0, .ref (mmad k 0)), (1, .long v13)] []) (n15 : Nat) (v13 : Int64) (v14 : Int32) , (m_X11_digest_0_L102 F n15 v13 v14).bind K = some (r, F1) → mm_AW z k 4 (some (.long r)) F1 F 102 [(0, .ref (mmad k 0)), (1, .long v13), (3, .int v14)] [] := by
      intro K hK n15
      induction n15 with
      | zero => intro v13 v14 h; rw [m_X11_digest_0_L102] at h; cases h
      | succ n15 ih =>
        intro v13 v14 h
        rw [m_X11_digest_0_L102] at h
        refine mm_iload_n C dX11_digest_102 rfl 2 rfl 103 rfl ?_
        refine mm_aload_n C dX11_digest_103 rfl 0 rfl 104 rfl ?_
        refine mm_get C fl_X11_10_X11 (by decide) (mc_0 k _) rfl dX11_digest_104 107 rfl ?_
        refine mm_get C fl_X11_105_X3 (by decide) (mc_1 k _) rfl dX11_digest_107 110 rfl ?_
        refine mm_icmp_ge C dX11_digest_110 136 113 (by decide) rfl (fun hc => ?_) (fun hc => ?_)
        · rw [if_pos hc] at h
          refine mm_lv [0, 1] rfl ?_
          exact hK _ h
        · rw [if_neg hc] at h
          refine mm_ldc2 (v := (31 : Int64)) C dX11_digest_113 mw_864 116 rfl ?_
          refine mm_lload_n C dX11_digest_116 rfl 1 rfl 117 rfl ?_
          refine mm_lmul C dX11_digest_117 118 rfl ?_
          refine mm_aload_n C dX11_digest_118 rfl 0 rfl 119 rfl ?_
          refine mm_get C fl_X11_10_X11 (by decide) (mc_0 k _) rfl dX11_digest_119 122 rfl ?_
          refine mm_get C fl_X11_114_X3 (by decide) (mc_1 k _) rfl dX11_digest_122 125 rfl ?_
          refine mm_iload_n C dX11_digest_125 rfl 2 rfl 126 rfl ?_
          obtain ⟨x16, ex16, h⟩ := mb h
          refine mm_iald C ex16 dX11_digest_126 127 rfl ?_
          refine mm_i2l C dX11_digest_127 128 rfl ?_
          refine mm_ladd C dX11_digest_128 129 rfl ?_
          obtain ⟨x17, ex17, h⟩ := me h
          refine mm_topl ex17 ?_
          refine mm_lstore_n (lv2 := [(1, .long x17), (0, .ref (mmad k 0)), (3, .int v14)]) C dX11_digest_129 rfl (by decide) rfl 130 rfl ?_
          obtain ⟨x18, ex18, h⟩ := me h
          refine mm_iinc (v := x18) (lv2 := [(3, .int x18), (1, .long x17), (0, .ref (mmad k 0))]) C dX11_digest_130 2 rfl (by rw [← ex18]; rfl) (by decide) rfl 133 rfl ?_
          refine mm_goto C dX11_digest_133 102 (by decide) ?_
          refine mm_lv [2, 1, 0] rfl ?_
          exact ih _ _ h
    refine mj1 h (fun (y19 : Int64) => mm_AW z k 4 (some (.long r)) F1 F 136 [(0, .ref (mmad k 0)), (1, .long y19)] []) ?_ ?_
    · intro y19 h
      refine mm_aload_n C dX11_digest_136 rfl 0 rfl 137 rfl ?_
      obtain ⟨x20, G21, ex20, h⟩ := mb2 h
      refine mm_callV [] C (c_X11_readRow_0 ex20) wb_X11_readRow wv_X11_120 (by decide) (mc_0 k _) rfl rfl rfl (by omega) rfl (Nat.le_of_ble_eq_true rfl) dX11_digest_137 140 rfl ?_
      show mm_AW z k 4 (some (.long r)) F1 G21 140 [(0, .ref (mmad k 0)), (1, .long y19)] [.int x20]
      refine mm_if_ne C dX11_digest_140 145 143 (by decide) rfl (fun hc => ?_) (fun hc => ?_)
      · rw [if_neg hc] at h
        refine mm_ldc2 (v := (31 : Int64)) C dX11_digest_145 mw_864 148 rfl ?_
        refine mm_lload_n C dX11_digest_148 rfl 1 rfl 149 rfl ?_
        refine mm_lmul C dX11_digest_149 150 rfl ?_
        refine mm_aload_n C dX11_digest_150 rfl 0 rfl 151 rfl ?_
        refine mm_get C fl_X11_26_X11 (by decide) (mc_0 k _) rfl dX11_digest_151 154 rfl ?_
        refine mm_get C fl_X11_128_X6 (by decide) (mc_14 k _) rfl dX11_digest_154 157 rfl ?_
        refine mm_i2l C dX11_digest_157 158 rfl ?_
        refine mm_ladd C dX11_digest_158 159 rfl ?_
        obtain ⟨x22, ex22, h⟩ := me h
        refine mm_topl ex22 ?_
        refine mm_lstore_n (lv2 := [(1, .long x22), (0, .ref (mmad k 0))]) C dX11_digest_159 rfl (by decide) rfl 160 rfl ?_
        refine mm_iconst (v := (0 : Int32)) C dX11_digest_160 (by decide) 161 rfl ?_
        refine mm_istore_n (lv2 := [(3, .int (0 : Int32)), (1, .long x22), (0, .ref (mmad k 0))]) C dX11_digest_161 rfl (by decide) rfl 162 rfl ?_
        refine mm_lv [2, 1, 0] rfl ?_
        have hL162 : ∀ (K : (Int64 × mmS) → Option (Int64 × mmS)) (hK : ∀ (v23 : Int64) (G25 : mmS) , K (v23, G25) = some (r, F1) → mm_AW z k 4 (some (.long r)) F1 G25 201 [(0, .ref (mmad k 0)), (1, .long v23)] []) (n26 : Nat) (v23 : Int64) (v24 : Int32) (G25 : mmS) , (m_X11_digest_0_L162 n26 v23 v24 G25).bind K = some (r, F1) → mm_AW z k 4 (some (.long r)) F1 G25 162 [(0, .ref (mmad k 0)), (1, .long v23), (3, .int v24)] [] := by
          intro K hK n26
          induction n26 with
          | zero => intro v23 v24 G25 h; rw [m_X11_digest_0_L162] at h; cases h
          | succ n26 ih =>
            intro v23 v24 G25 h
            rw [m_X11_digest_0_L162] at h
            refine mm_iload_n C dX11_digest_162 rfl 2 rfl 163 rfl ?_
            refine mm_iconst (v := (4 : Int32)) C dX11_digest_163 (by decide) 164 rfl ?_
            refine mm_icmp_gt C dX11_digest_164 201 167 (by decide) rfl (fun hc => ?_) (fun hc => ?_)
            · rw [if_pos hc] at h
              refine mm_lv [0, 1] rfl ?_
              exact hK _ _ h
            · rw [if_neg hc] at h
              refine mm_ldc2 (v := (31 : Int64)) C dX11_digest_167 mw_864 170 rfl ?_
              refine mm_lload_n C dX11_digest_170 rfl 1 rfl 171 rfl ?_
              refine mm_lmul C dX11_digest_171 172 rfl ?_
              refine mm_aload_n C dX11_digest_172 rfl 0 rfl 173 rfl ?_
              refine mm_get C fl_X11_26_X11 (by decide) (mc_0 k _) rfl dX11_digest_173 176 rfl ?_
              refine mm_aload_n C dX11_digest_176 rfl 0 rfl 177 rfl ?_
              refine mm_get C fl_X11_58_X11 (by decide) (mc_0 k _) rfl dX11_digest_177 180 rfl ?_
              refine mm_iload_n C dX11_digest_180 rfl 2 rfl 181 rfl ?_
              obtain ⟨q27, eq27, h⟩ := mb h
              refine mm_aald (t0 := 2) C (by decide) (mc_29 k _) rfl rfl eq27 dX11_digest_181 182 rfl ?_
              refine mm_aload_n C dX11_digest_182 rfl 0 rfl 183 rfl ?_
              refine mm_get C fl_X11_26_X11 (by decide) (mc_0 k _) rfl dX11_digest_183 186 rfl ?_
              refine mm_get C fl_X11_128_X6 (by decide) (mc_14 k _) rfl dX11_digest_186 189 rfl ?_
              by_cases hq30 : q27 = 30
              · rw [if_pos hq30] at h
                subst hq30
                obtain ⟨x28, G29, ex28, h⟩ := mb2 h
                refine mm_callV [.ref (mmad k 30), .int (G25 14 2)] C (c_X6_lead_14_30 ex28) wb_X6_lead wv_X11_131 (by decide) (mc_14 k _) rfl rfl rfl (by omega) rfl (Nat.le_of_ble_eq_true rfl) dX11_digest_189 192 rfl ?_
                show mm_AW z k 4 (some (.long r)) F1 G29 192 [(0, .ref (mmad k 0)), (1, .long v23), (3, .int v24)] [.int x28, .long ((31 : Int64) * v23)]
                refine mm_i2l C dX11_digest_192 193 rfl ?_
                refine mm_ladd C dX11_digest_193 194 rfl ?_
                obtain ⟨x30, ex30, h⟩ := me h
                refine mm_topl ex30 ?_
                refine mm_lstore_n (lv2 := [(1, .long x30), (0, .ref (mmad k 0)), (3, .int v24)]) C dX11_digest_194 rfl (by decide) rfl 195 rfl ?_
                obtain ⟨x31, ex31, h⟩ := me h
                refine mm_iinc (v := x31) (lv2 := [(3, .int x31), (1, .long x30), (0, .ref (mmad k 0))]) C dX11_digest_195 2 rfl (by rw [← ex31]; rfl) (by decide) rfl 198 rfl ?_
                refine mm_goto C dX11_digest_198 162 (by decide) ?_
                refine mm_lv [2, 1, 0] rfl ?_
                exact ih _ _ _ h
              · rw [if_neg hq30] at h
                by_cases hq32 : q27 = 32
                · rw [if_pos hq32] at h
                  subst hq32
                  obtain ⟨x32, G33, ex32, h⟩ := mb2 h
                  refine mm_callV [.ref (mmad k 32), .int (G25 14 2)] C (c_X6_lead_14_32 ex32) wb_X6_lead wv_X11_131 (by decide) (mc_14 k _) rfl rfl rfl (by omega) rfl (Nat.le_of_ble_eq_true rfl) dX11_digest_189 192 rfl ?_
                  show mm_AW z k 4 (some (.long r)) F1 G33 192 [(0, .ref (mmad k 0)), (1, .long v23), (3, .int v24)] [.int x32, .long ((31 : Int64) * v23)]
                  refine mm_i2l C dX11_digest_192 193 rfl ?_
                  refine mm_ladd C dX11_digest_193 194 rfl ?_
                  obtain ⟨x34, ex34, h⟩ := me h
                  refine mm_topl ex34 ?_
                  refine mm_lstore_n (lv2 := [(1, .long x34), (0, .ref (mmad k 0)), (3, .int v24)]) C dX11_digest_194 rfl (by decide) rfl 195 rfl ?_
                  obtain ⟨x35, ex35, h⟩ := me h
                  refine mm_iinc (v := x35) (lv2 := [(3, .int x35), (1, .long x34), (0, .ref (mmad k 0))]) C dX11_digest_195 2 rfl (by rw [← ex35]; rfl) (by decide) rfl 198 rfl ?_
                  refine mm_goto C dX11_digest_198 162 (by decide) ?_
                  refine mm_lv [2, 1, 0] rfl ?_
                  exact ih _ _ _ h
                · rw [if_neg hq32] at h
                  by_cases hq17 : q27 = 17
                  · rw [if_pos hq17] at h
                    subst hq17
                    obtain ⟨x36, G37, ex36, h⟩ := mb2 h
                    refine mm_callV [.ref (mmad k 17), .int (G25 14 2)] C (c_X6_lead_14_17 ex36) wb_X6_lead wv_X11_131 (by decide) (mc_14 k _) rfl rfl rfl (by omega) rfl (Nat.le_of_ble_eq_true rfl) dX11_digest_189 192 rfl ?_
                    show mm_AW z k 4 (some (.long r)) F1 G37 192 [(0, .ref (mmad k 0)), (1, .long v23), (3, .int v24)] [.int x36, .long ((31 : Int64) * v23)]
                    refine mm_i2l C dX11_digest_192 193 rfl ?_
                    refine mm_ladd C dX11_digest_193 194 rfl ?_
                    obtain ⟨x38, ex38, h⟩ := me h
                    refine mm_topl ex38 ?_
                    refine mm_lstore_n (lv2 := [(1, .long x38), (0, .ref (mmad k 0)), (3, .int v24)]) C dX11_digest_194 rfl (by decide) rfl 195 rfl ?_
                    obtain ⟨x39, ex39, h⟩ := me h
                    refine mm_iinc (v := x39) (lv2 := [(3, .int x39), (1, .long x38), (0, .ref (mmad k 0))]) C dX11_digest_195 2 rfl (by rw [← ex39]; rfl) (by decide) rfl 198 rfl ?_
                    refine mm_goto C dX11_digest_198 162 (by decide) ?_
                    refine mm_lv [2, 1, 0] rfl ?_
                    exact ih _ _ _ h
                  · rw [if_neg hq17] at h
                    by_cases hq34 : q27 = 34
                    · rw [if_pos hq34] at h
                      subst hq34
                      obtain ⟨x40, G41, ex40, h⟩ := mb2 h
                      refine mm_callV [.ref (mmad k 34), .int (G25 14 2)] C (c_X6_lead_14_34 ex40) wb_X6_lead wv_X11_131 (by decide) (mc_14 k _) rfl rfl rfl (by omega) rfl (Nat.le_of_ble_eq_true rfl) dX11_digest_189 192 rfl ?_
                      show mm_AW z k 4 (some (.long r)) F1 G41 192 [(0, .ref (mmad k 0)), (1, .long v23), (3, .int v24)] [.int x40, .long ((31 : Int64) * v23)]
                      refine mm_i2l C dX11_digest_192 193 rfl ?_
                      refine mm_ladd C dX11_digest_193 194 rfl ?_
                      obtain ⟨x42, ex42, h⟩ := me h
                      refine mm_topl ex42 ?_
                      refine mm_lstore_n (lv2 := [(1, .long x42), (0, .ref (mmad k 0)), (3, .int v24)]) C dX11_digest_194 rfl (by decide) rfl 195 rfl ?_
                      obtain ⟨x43, ex43, h⟩ := me h
                      refine mm_iinc (v := x43) (lv2 := [(3, .int x43), (1, .long x42), (0, .ref (mmad k 0))]) C dX11_digest_195 2 rfl (by rw [← ex43]; rfl) (by decide) rfl 198 rfl ?_
                      refine mm_goto C dX11_digest_198 162 (by decide) ?_
                      refine mm_lv [2, 1, 0] rfl ?_
                      exact ih _ _ _ h
                    · rw [if_neg hq34] at h
                      by_cases hq23 : q27 = 23
                      · rw [if_pos hq23] at h
                        subst hq23
                        obtain ⟨x44, G45, ex44, h⟩ := mb2 h
                        refine mm_callV [.ref (mmad k 23), .int (G25 14 2)] C (c_X6_lead_14_23 ex44) wb_X6_lead wv_X11_131 (by decide) (mc_14 k _) rfl rfl rfl (by omega) rfl (Nat.le_of_ble_eq_true rfl) dX11_digest_189 192 rfl ?_
                        show mm_AW z k 4 (some (.long r)) F1 G45 192 [(0, .ref (mmad k 0)), (1, .long v23), (3, .int v24)] [.int x44, .long ((31 : Int64) * v23)]
                        refine mm_i2l C dX11_digest_192 193 rfl ?_
                        refine mm_ladd C dX11_digest_193 194 rfl ?_
                        obtain ⟨x46, ex46, h⟩ := me h
                        refine mm_topl ex46 ?_
                        refine mm_lstore_n (lv2 := [(1, .long x46), (0, .ref (mmad k 0)), (3, .int v24)]) C dX11_digest_194 rfl (by decide) rfl 195 rfl ?_
                        obtain ⟨x47, ex47, h⟩ := me h
                        refine mm_iinc (v := x47) (lv2 := [(3, .int x47), (1, .long x46), (0, .ref (mmad k 0))]) C dX11_digest_195 2 rfl (by rw [← ex47]; rfl) (by decide) rfl 198 rfl ?_
                        refine mm_goto C dX11_digest_198 162 (by decide) ?_
                        refine mm_lv [2, 1, 0] rfl ?_
                        exact ih _ _ _ h
                      · rw [if_neg hq23] at h
                        cases h
        refine mj2 h (fun (y48 : Int64) (G49 : mmS) => mm_AW z k 4 (some (.long r)) F1 G49 201 [(0, .ref (mmad k 0)), (1, .long y48)] []) ?_ ?_
        · intro y48 G49 h
          refine mm_ldc2 (v := (31 : Int64)) C dX11_digest_201 mw_864 204 rfl ?_
          refine mm_lload_n C dX11_digest_204 rfl 1 rfl 205 rfl ?_
          refine mm_lmul C dX11_digest_205 206 rfl ?_
          refine mm_aload_n C dX11_digest_206 rfl 0 rfl 207 rfl ?_
          refine mm_get C fl_X11_65_X11 (by decide) (mc_0 k _) rfl dX11_digest_207 210 rfl ?_
          refine mm_aload_n C dX11_digest_210 rfl 0 rfl 211 rfl ?_
          refine mm_get C fl_X11_26_X11 (by decide) (mc_0 k _) rfl dX11_digest_211 214 rfl ?_
          obtain ⟨x50, G51, ex50, h⟩ := mb2 h
          refine mm_callV [.ref (mmad k 14)] C (c_X0_plan_36_14 ex50) wb_X0_plan wv_X11_141 (by decide) (mc_36 k _) rfl rfl rfl (by omega) rfl (Nat.le_of_ble_eq_true rfl) dX11_digest_214 217 rfl ?_
          show mm_AW z k 4 (some (.long r)) F1 G51 217 [(0, .ref (mmad k 0)), (1, .long y48)] [.int x50, .long ((31 : Int64) * y48)]
          refine mm_i2l C dX11_digest_217 218 rfl ?_
          refine mm_ladd C dX11_digest_218 219 rfl ?_
          obtain ⟨x52, ex52, h⟩ := me h
          refine mm_topl ex52 ?_
          refine mm_lstore_n (lv2 := [(1, .long x52), (0, .ref (mmad k 0))]) C dX11_digest_219 rfl (by decide) rfl 220 rfl ?_
          refine mm_ldc2 (v := (31 : Int64)) C dX11_digest_220 mw_864 223 rfl ?_
          refine mm_lload_n C dX11_digest_223 rfl 0 rfl 224 rfl ?_
          refine mm_lmul C dX11_digest_224 225 rfl ?_
          refine mm_aload_n C dX11_digest_225 rfl 1 rfl 226 rfl ?_
          refine mm_get C fl_X11_74_X11 (by decide) (mc_0 k _) rfl dX11_digest_226 229 rfl ?_
          refine mm_aload_n C dX11_digest_229 rfl 1 rfl 230 rfl ?_
          refine mm_get C fl_X11_26_X11 (by decide) (mc_0 k _) rfl dX11_digest_230 233 rfl ?_
          obtain ⟨x53, G54, ex53, h⟩ := mb2 h
          refine mm_callV [.ref (mmad k 14)] C (c_X4_firstUnpaid_80_14 ex53) wb_X4_firstUnpaid wv_X11_180 (by decide) (mc_80 k _) rfl rfl rfl (by omega) rfl (Nat.le_of_ble_eq_true rfl) dX11_digest_233 236 rfl ?_
          show mm_AW z k 4 (some (.long r)) F1 G54 236 [(1, .long x52), (0, .ref (mmad k 0))] [.int x53, .long ((31 : Int64) * x52)]
          refine mm_i2l C dX11_digest_236 237 rfl ?_
          refine mm_ladd C dX11_digest_237 238 rfl ?_
          exact mm_lretW C (h) dX11_digest_238
        · intro K2 hR h
          exact hL162 K2 hR 300 _ _ _ h
      · rw [if_pos hc] at h
        refine mm_lload_n C dX11_digest_143 rfl 1 rfl 144 rfl ?_
        exact mm_lretW C (h) dX11_digest_144
    · intro K2 hR h
      exact hL102 K2 hR 300 _ _ h
  · intro K2 hR h
    exact hL66 K2 hR 300 _ _ h
def m_X12_in (a0 : Int32) (a1 : Int32) (a2 : Int32) : Option (Int32) :=
  if a0 < a1 then (Option.bind (zg (0 : Int32)) fun x1 => some (x1)) else (if a2 < a0 then (Option.bind (zg (0 : Int32)) fun x2 => some (x2)) else (Option.bind (zg (1 : Int32)) fun x3 => some (x3)))
set_option maxHeartbeats 4000000 in
set_option maxRecDepth 100000 in
theorem c_X12_in {l : Launch} {k : mmK} {F : mmS} {a0 : Int32} {a1 : Int32} {a2 : Int32} {r : Int32} (h : m_X12_in a0 a1 a2 = some r) : mm_T l k yX12_in cX12_in 3 (some .boolean) 0 [.int a0, .int a1, .int a2] F (some (.int r)) F := by
  refine mm_start [(0, .int a0), (1, .int a1), (2, .int a2)] (by decide) (Nat.le_of_ble_eq_true rfl) rfl ?_
  intro z hz C
  subst hz
  have C : mm_C z k RX12 cX12_in 3 (some .boolean) 0 := C
  replace h := mk0 h
  unfold m_X12_in at h
  refine mm_iload_n C dX12_in_0 rfl 0 rfl 1 rfl ?_
  refine mm_iload_n C dX12_in_1 rfl 1 rfl 2 rfl ?_
  refine mm_icmp_lt C dX12_in_2 14 5 (by decide) rfl (fun hc => ?_) (fun hc => ?_)
  · rw [if_pos hc] at h
    refine mm_iconst (v := (0 : Int32)) C dX12_in_14 (by decide) 15 rfl ?_
    obtain ⟨x1, ex1, h⟩ := mb h
    exact mm_zretP C ex1 (h) dX12_in_15
  · rw [if_neg hc] at h
    refine mm_iload_n C dX12_in_5 rfl 0 rfl 6 rfl ?_
    refine mm_iload_n C dX12_in_6 rfl 2 rfl 7 rfl ?_
    refine mm_icmp_gt C dX12_in_7 14 10 (by decide) rfl (fun hc => ?_) (fun hc => ?_)
    · rw [if_pos hc] at h
      refine mm_iconst (v := (0 : Int32)) C dX12_in_14 (by decide) 15 rfl ?_
      obtain ⟨x2, ex2, h⟩ := mb h
      exact mm_zretP C ex2 (h) dX12_in_15
    · rw [if_neg hc] at h
      refine mm_iconst (v := (1 : Int32)) C dX12_in_10 (by decide) 11 rfl ?_
      refine mm_goto C dX12_in_11 15 (by decide) ?_
      obtain ⟨x3, ex3, h⟩ := mb h
      exact mm_zretP C ex3 (h) dX12_in_15
def m_X12_points_97_L25 (a1 : Int32) : Nat → Int32 → mmS → Option (mmS)
  | 0, _, _ => none
  | n6 + 1, v4, G5 => if a1 ≤ v4 then (some ((G5))) else (Option.bind (ast G5 98 v4 (0 : Int32)) fun G7 => mlet (v4 + (1 : Int32)) fun x8 => m_X12_points_97_L25 a1 n6 x8 G7)
def m_X12_points_97_L45 (a1 : Int32) : Nat → Int32 → mmS → Option (mmS)
  | 0, _, _ => none
  | n12 + 1, v10, G11 => if (3 : Int32) ≤ v10 then (some ((G11))) else (Option.bind (ald G11 99 v10) fun x13 => bd1 (if a1 ≤ x13 then (some ((0 : Int32))) else (Option.bind (ald G11 99 v10) fun x14 => some (x14))) fun y15 => Option.bind (ast G11 99 v10 y15) fun G16 => mlet (v10 + (1 : Int32)) fun x17 => m_X12_points_97_L45 a1 n12 x17 G16)
def m_X12_points_97 (F : mmS) (a1 : Int32) : Option (Int32 × mmS) :=
  Option.bind (m_X12_in a1 (1 : Int32) (6 : Int32)) fun x1 => if x1 = (0 : Int32) then (some ((-2 : Int32), F)) else (mlet (F 97 0) fun x2 => mlet (stF F 97 0 a1) fun G3 => bd1 (m_X12_points_97_L25 a1 300 x2 G3) fun G9 => bd1 (m_X12_points_97_L45 a1 300 (0 : Int32) G9) fun G18 => some (x2, G18))
set_option maxHeartbeats 4000000 in
set_option maxRecDepth 100000 in
theorem c_X12_points_97 {l : Launch} {k : mmK} {F : mmS} {a1 : Int32} {r : Int32} {F1 : mmS} (h : m_X12_points_97 F a1 = some (r, F1)) : mm_T l k yX12_points cX12_points 4 (some .int) 1 [.ref (mmad k 97), .int a1] F (some (.int r)) F1 := by
  refine mm_start [(0, .ref (mmad k 97)), (1, .int a1)] (by decide) (Nat.le_of_ble_eq_true rfl) rfl ?_
  intro z hz C
  subst hz
  have C : mm_C z k RX12 cX12_points 4 (some .int) 1 := C
  replace h := mk0 h
  unfold m_X12_points_97 at h
  refine mm_iload_n C dX12_points_0 rfl 1 rfl 1 rfl ?_
  refine mm_iconst (v := (1 : Int32)) C dX12_points_1 (by decide) 2 rfl ?_
  refine mm_bipush (v := (6 : Int32)) C dX12_points_2 (by decide) 4 rfl ?_
  obtain ⟨x1, ex1, h⟩ := mb h
  refine mm_callS [.int a1, .int (1 : Int32), .int (6 : Int32)] C (c_X12_in ex1) wb_X12_in ws_X12_69 rfl (by omega) rfl (Nat.le_of_ble_eq_true rfl) dX12_points_4 7 rfl ?_
  show mm_AW z k 4 (some (.int r)) F1 F 7 [(0, .ref (mmad k 97)), (1, .int a1)] [.int x1]
  refine mm_if_ne C dX12_points_7 13 10 (by decide) rfl (fun hc => ?_) (fun hc => ?_)
  · rw [if_neg hc] at h
    refine mm_aload_n C dX12_points_13 rfl 0 rfl 14 rfl ?_
    refine mm_get C fl_X12_7_X12 (by decide) (mc_97 k _) rfl dX12_points_14 17 rfl ?_
    obtain ⟨x2, ex2, h⟩ := me h
    refine mm_top ex2 ?_
    refine mm_istore_n (lv2 := [(2, .int x2), (0, .ref (mmad k 97)), (1, .int a1)]) C dX12_points_17 rfl (by decide) rfl 18 rfl ?_
    refine mm_aload_n C dX12_points_18 rfl 1 rfl 19 rfl ?_
    refine mm_iload_n C dX12_points_19 rfl 2 rfl 20 rfl ?_
    obtain ⟨G3, eG3, h⟩ := me h
    refine mm_put (x := a1) (ty := .int) C fl_X12_7_X12 (by decide) (mc_97 k _) (mc_97 k _) tyX12 tyX12_ok nmX12 rfl (by decide +kernel) rfl rfl (Nat.le_of_ble_eq_true rfl) eG3 dX12_points_20 23 rfl ?_
    refine mm_iload_n C dX12_points_23 rfl 0 rfl 24 rfl ?_
    refine mm_istore_n (lv2 := [(3, .int x2), (2, .int x2), (0, .ref (mmad k 97)), (1, .int a1)]) C dX12_points_24 rfl (by decide) rfl 25 rfl ?_
    refine mm_lv [2, 3, 1, 0] rfl ?_
    have hL25 : ∀ (K : (mmS) → Option (Int32 × mmS)) (hK : ∀ (G5 : mmS) , K (G5) = some (r, F1) → mm_AW z k 4 (some (.int r)) F1 G5 43 [(0, .ref (mmad k 97)), (1, .int a1), (2, .int x2)] []) (n6 : Nat) (v4 : Int32) (G5 : mmS) , (m_X12_points_97_L25 a1 n6 v4 G5).bind K = some (r, F1) → mm_AW z k 4 (some (.int r)) F1 G5 25 [(0, .ref (mmad k 97)), (1, .int a1), (2, .int x2), (3, .int v4)] [] := by
      intro K hK n6
      induction n6 with
      | zero => intro v4 G5 h; rw [m_X12_points_97_L25] at h; cases h
      | succ n6 ih =>
        intro v4 G5 h
        rw [m_X12_points_97_L25] at h
        refine mm_iload_n C dX12_points_25 rfl 3 rfl 26 rfl ?_
        refine mm_iload_n C dX12_points_26 rfl 1 rfl 27 rfl ?_
        refine mm_icmp_ge C dX12_points_27 43 30 (by decide) rfl (fun hc => ?_) (fun hc => ?_)
        · rw [if_pos hc] at h
          refine mm_lv [0, 1, 2] rfl ?_
          exact hK _ h
        · rw [if_neg hc] at h
          refine mm_aload_n C dX12_points_30 rfl 0 rfl 31 rfl ?_
          refine mm_get C fl_X12_13_X12 (by decide) (mc_97 k _) rfl dX12_points_31 34 rfl ?_
          refine mm_iload_n C dX12_points_34 rfl 3 rfl 35 rfl ?_
          refine mm_iconst (v := (0 : Int32)) C dX12_points_35 (by decide) 36 rfl ?_
          obtain ⟨G7, eG7, h⟩ := mb h
          refine mm_iast C eG7 dX12_points_36 37 rfl ?_
          obtain ⟨x8, ex8, h⟩ := me h
          refine mm_iinc (v := x8) (lv2 := [(3, .int x8), (0, .ref (mmad k 97)), (1, .int a1), (2, .int x2)]) C dX12_points_37 3 rfl (by rw [← ex8]; rfl) (by decide) rfl 40 rfl ?_
          refine mm_goto C dX12_points_40 25 (by decide) ?_
          refine mm_lv [1, 2, 3, 0] rfl ?_
          exact ih _ _ h
    refine mj1 h (fun (G9 : mmS) => mm_AW z k 4 (some (.int r)) F1 G9 43 [(0, .ref (mmad k 97)), (1, .int a1), (2, .int x2)] []) ?_ ?_
    · intro G9 h
      refine mm_iconst (v := (0 : Int32)) C dX12_points_43 (by decide) 44 rfl ?_
      refine mm_istore_n (lv2 := [(3, .int (0 : Int32)), (0, .ref (mmad k 97)), (1, .int a1), (2, .int x2)]) C dX12_points_44 rfl (by decide) rfl 45 rfl ?_
      refine mm_lv [1, 2, 3, 0] rfl ?_
      have hL45 : ∀ (K : (mmS) → Option (Int32 × mmS)) (hK : ∀ (G11 : mmS) , K (G11) = some (r, F1) → mm_AW z k 4 (some (.int r)) F1 G11 82 [(2, .int x2)] []) (n12 : Nat) (v10 : Int32) (G11 : mmS) , (m_X12_points_97_L45 a1 n12 v10 G11).bind K = some (r, F1) → mm_AW z k 4 (some (.int r)) F1 G11 45 [(0, .ref (mmad k 97)), (1, .int a1), (2, .int x2), (3, .int v10)] [] := by
        intro K hK n12
        induction n12 with
        | zero => intro v10 G11 h; rw [m_X12_points_97_L45] at h; cases h
        | succ n12 ih =>
          intro v10 G11 h
          rw [m_X12_points_97_L45] at h
          refine mm_iload_n C dX12_points_45 rfl 3 rfl 46 rfl ?_
          refine mm_iconst (v := (3 : Int32)) C dX12_points_46 (by decide) 47 rfl ?_
          refine mm_icmp_ge C dX12_points_47 82 50 (by decide) rfl (fun hc => ?_) (fun hc => ?_)
          · rw [if_pos hc] at h
            refine mm_lv [2] rfl ?_
            exact hK _ h
          · rw [if_neg hc] at h
            refine mm_aload_n C dX12_points_50 rfl 0 rfl 51 rfl ?_
            refine mm_get C fl_X12_20_X12 (by decide) (mc_97 k _) rfl dX12_points_51 54 rfl ?_
            refine mm_iload_n C dX12_points_54 rfl 3 rfl 55 rfl ?_
            refine mm_aload_n C dX12_points_55 rfl 0 rfl 56 rfl ?_
            refine mm_get C fl_X12_20_X12 (by decide) (mc_97 k _) rfl dX12_points_56 59 rfl ?_
            refine mm_iload_n C dX12_points_59 rfl 3 rfl 60 rfl ?_
            obtain ⟨x13, ex13, h⟩ := mb h
            refine mm_iald C ex13 dX12_points_60 61 rfl ?_
            refine mm_iload_n C dX12_points_61 rfl 1 rfl 62 rfl ?_
            refine mj1 h (fun (y15 : Int32) => mm_AW z k 4 (some (.int r)) F1 G11 75 [(0, .ref (mmad k 97)), (1, .int a1), (2, .int x2), (3, .int v10)] [.int y15, .int v10, .ref (mmad k 99)]) ?_ ?_
            · intro y15 h
              obtain ⟨G16, eG16, h⟩ := mb h
              refine mm_iast C eG16 dX12_points_75 76 rfl ?_
              obtain ⟨x17, ex17, h⟩ := me h
              refine mm_iinc (v := x17) (lv2 := [(3, .int x17), (0, .ref (mmad k 97)), (1, .int a1), (2, .int x2)]) C dX12_points_76 3 rfl (by rw [← ex17]; rfl) (by decide) rfl 79 rfl ?_
              refine mm_goto C dX12_points_79 45 (by decide) ?_
              refine mm_lv [1, 2, 3, 0] rfl ?_
              exact ih _ _ h
            · intro K2 hR75 h
              refine mm_icmp_ge C dX12_points_62 74 65 (by decide) rfl (fun hc => ?_) (fun hc => ?_)
              · rw [if_pos hc] at h
                refine mm_iconst (v := (0 : Int32)) C dX12_points_74 (by decide) 75 rfl ?_
                exact hR75 _ h
              · rw [if_neg hc] at h
                refine mm_aload_n C dX12_points_65 rfl 0 rfl 66 rfl ?_
                refine mm_get C fl_X12_20_X12 (by decide) (mc_97 k _) rfl dX12_points_66 69 rfl ?_
                refine mm_iload_n C dX12_points_69 rfl 3 rfl 70 rfl ?_
                obtain ⟨x14, ex14, h⟩ := mb h
                refine mm_iald C ex14 dX12_points_70 71 rfl ?_
                refine mm_goto C dX12_points_71 75 (by decide) ?_
                exact hR75 _ h
      refine mj1 h (fun (G18 : mmS) => mm_AW z k 4 (some (.int r)) F1 G18 82 [(2, .int x2)] []) ?_ ?_
      · intro G18 h
        refine mm_iload_n C dX12_points_82 rfl 0 rfl 83 rfl ?_
        exact mm_iretW C (h) dX12_points_83
      · intro K2 hR h
        exact hL45 K2 hR 300 _ _ h
    · intro K2 hR h
      exact hL25 K2 hR 300 _ _ h
  · rw [if_pos hc] at h
    refine mm_bipush (v := (-2 : Int32)) C dX12_points_10 (by decide) 12 rfl ?_
    exact mm_iretW C (h) dX12_points_12
def m_X12_isPoint_97 (F : mmS) (a1 : Int32) : Option (Int32) :=
  Option.bind (m_X12_in a1 (0 : Int32) ((F 97 0) - (1 : Int32))) fun x1 => Option.bind (zg x1) fun x2 => some (x2)
set_option maxHeartbeats 4000000 in
set_option maxRecDepth 100000 in
theorem c_X12_isPoint_97 {l : Launch} {k : mmK} {F : mmS} {a1 : Int32} {r : Int32} (h : m_X12_isPoint_97 F a1 = some r) : mm_T l k yX12_isPoint cX12_isPoint 2 (some .boolean) 1 [.ref (mmad k 97), .int a1] F (some (.int r)) F := by
  refine mm_start [(0, .ref (mmad k 97)), (1, .int a1)] (by decide) (Nat.le_of_ble_eq_true rfl) rfl ?_
  intro z hz C
  subst hz
  have C : mm_C z k RX12 cX12_isPoint 2 (some .boolean) 1 := C
  replace h := mk0 h
  unfold m_X12_isPoint_97 at h
  refine mm_iload_n C dX12_isPoint_0 rfl 1 rfl 1 rfl ?_
  refine mm_iconst (v := (0 : Int32)) C dX12_isPoint_1 (by decide) 2 rfl ?_
  refine mm_aload_n C dX12_isPoint_2 rfl 0 rfl 3 rfl ?_
  refine mm_get C fl_X12_7_X12 (by decide) (mc_97 k _) rfl dX12_isPoint_3 6 rfl ?_
  refine mm_iconst (v := (1 : Int32)) C dX12_isPoint_6 (by decide) 7 rfl ?_
  refine mm_isub C dX12_isPoint_7 8 rfl ?_
  obtain ⟨x1, ex1, h⟩ := mb h
  refine mm_callS [.int a1, .int (0 : Int32), .int ((F 97 0) - (1 : Int32))] C (c_X12_in ex1) wb_X12_in ws_X12_69 rfl (by omega) rfl (Nat.le_of_ble_eq_true rfl) dX12_isPoint_8 11 rfl ?_
  show mm_AW z k 2 (some (.int r)) F F 11 [(0, .ref (mmad k 97)), (1, .int a1)] [.int x1]
  obtain ⟨x2, ex2, h⟩ := mb h
  exact mm_zretP C ex2 (h) dX12_isPoint_11
def m_X12_place_97 (F : mmS) (a1 : Int32) (a2 : Int32) : Option (Int32 × mmS) :=
  Option.bind (m_X12_isPoint_97 F a1) fun x1 => if x1 = (0 : Int32) then (some ((-2 : Int32), F)) else (Option.bind (m_X12_in a2 (0 : Int32) (1000 : Int32)) fun x2 => if x2 = (0 : Int32) then (some ((-2 : Int32), F)) else (Option.bind (ald F 98 a1) fun x3 => Option.bind (ast F 98 a1 a2) fun G4 => some (x3, G4)))
set_option maxHeartbeats 4000000 in
set_option maxRecDepth 100000 in
theorem c_X12_place_97 {l : Launch} {k : mmK} {F : mmS} {a1 : Int32} {a2 : Int32} {r : Int32} {F1 : mmS} (h : m_X12_place_97 F a1 a2 = some (r, F1)) : mm_T l k yX12_place cX12_place 4 (some .int) 2 [.ref (mmad k 97), .int a1, .int a2] F (some (.int r)) F1 := by
  refine mm_start [(0, .ref (mmad k 97)), (1, .int a1), (2, .int a2)] (by decide) (Nat.le_of_ble_eq_true rfl) rfl ?_
  intro z hz C
  subst hz
  have C : mm_C z k RX12 cX12_place 4 (some .int) 2 := C
  replace h := mk0 h
  unfold m_X12_place_97 at h
  refine mm_aload_n C dX12_place_0 rfl 0 rfl 1 rfl ?_
  refine mm_iload_n C dX12_place_1 rfl 1 rfl 2 rfl ?_
  obtain ⟨x1, ex1, h⟩ := mb h
  refine mm_callV [.int a1] C (c_X12_isPoint_97 ex1) wb_X12_isPoint wv_X12_73 (by decide) (mc_97 k _) rfl rfl rfl (by omega) rfl (Nat.le_of_ble_eq_true rfl) dX12_place_2 5 rfl ?_
  show mm_AW z k 4 (some (.int r)) F1 F 5 [(0, .ref (mmad k 97)), (1, .int a1), (2, .int a2)] [.int x1]
  refine mm_if_eq C dX12_place_5 19 8 (by decide) rfl (fun hc => ?_) (fun hc => ?_)
  · rw [if_pos hc] at h
    refine mm_bipush (v := (-2 : Int32)) C dX12_place_19 (by decide) 21 rfl ?_
    exact mm_iretW C (h) dX12_place_21
  · rw [if_neg hc] at h
    refine mm_iload_n C dX12_place_8 rfl 2 rfl 9 rfl ?_
    refine mm_iconst (v := (0 : Int32)) C dX12_place_9 (by decide) 10 rfl ?_
    refine mm_sipush (v := (1000 : Int32)) C dX12_place_10 (by decide) 13 rfl ?_
    obtain ⟨x2, ex2, h⟩ := mb h
    refine mm_callS [.int a2, .int (0 : Int32), .int (1000 : Int32)] C (c_X12_in ex2) wb_X12_in ws_X12_69 rfl (by omega) rfl (Nat.le_of_ble_eq_true rfl) dX12_place_13 16 rfl ?_
    show mm_AW z k 4 (some (.int r)) F1 F 16 [(0, .ref (mmad k 97)), (1, .int a1), (2, .int a2)] [.int x2]
    refine mm_if_ne C dX12_place_16 22 19 (by decide) rfl (fun hc => ?_) (fun hc => ?_)
    · rw [if_neg hc] at h
      refine mm_aload_n C dX12_place_22 rfl 0 rfl 23 rfl ?_
      refine mm_get C fl_X12_13_X12 (by decide) (mc_97 k _) rfl dX12_place_23 26 rfl ?_
      refine mm_iload_n C dX12_place_26 rfl 1 rfl 27 rfl ?_
      obtain ⟨x3, ex3, h⟩ := mb h
      refine mm_iald C ex3 dX12_place_27 28 rfl ?_
      refine mm_istore_n (lv2 := [(3, .int x3), (0, .ref (mmad k 97)), (1, .int a1), (2, .int a2)]) C dX12_place_28 rfl (by decide) rfl 29 rfl ?_
      refine mm_aload_n C dX12_place_29 rfl 1 rfl 30 rfl ?_
      refine mm_get C fl_X12_13_X12 (by decide) (mc_97 k _) rfl dX12_place_30 33 rfl ?_
      refine mm_iload_n C dX12_place_33 rfl 2 rfl 34 rfl ?_
      refine mm_iload_n C dX12_place_34 rfl 3 rfl 35 rfl ?_
      obtain ⟨G4, eG4, h⟩ := mb h
      refine mm_iast C eG4 dX12_place_35 36 rfl ?_
      refine mm_iload_n C dX12_place_36 rfl 0 rfl 37 rfl ?_
      exact mm_iretW C (h) dX12_place_37
    · rw [if_pos hc] at h
      refine mm_bipush (v := (-2 : Int32)) C dX12_place_19 (by decide) 21 rfl ?_
      exact mm_iretW C (h) dX12_place_21
def m_X12_servers_97_L24 (a1 : Int32) : Nat → Int32 → mmS → Option (mmS)
  | 0, _, _ => none
  | n6 + 1, v4, G5 => if a1 ≤ v4 then (some ((G5))) else (Option.bind (ast G5 99 v4 (0 : Int32)) fun G7 => mlet (v4 + (1 : Int32)) fun x8 => m_X12_servers_97_L24 a1 n6 x8 G7)
def m_X12_servers_97 (F : mmS) (a1 : Int32) : Option (Int32 × mmS) :=
  Option.bind (m_X12_in a1 (1 : Int32) (3 : Int32)) fun x1 => if x1 = (0 : Int32) then (some ((-2 : Int32), F)) else (mlet (F 97 2) fun x2 => mlet (stF F 97 2 a1) fun G3 => bd1 (m_X12_servers_97_L24 a1 300 x2 G3) fun G9 => some (x2, G9))
set_option maxHeartbeats 4000000 in
set_option maxRecDepth 100000 in
theorem c_X12_servers_97 {l : Launch} {k : mmK} {F : mmS} {a1 : Int32} {r : Int32} {F1 : mmS} (h : m_X12_servers_97 F a1 = some (r, F1)) : mm_T l k yX12_servers cX12_servers 4 (some .int) 1 [.ref (mmad k 97), .int a1] F (some (.int r)) F1 := by
  refine mm_start [(0, .ref (mmad k 97)), (1, .int a1)] (by decide) (Nat.le_of_ble_eq_true rfl) rfl ?_
  intro z hz C
  subst hz
  have C : mm_C z k RX12 cX12_servers 4 (some .int) 1 := C
  replace h := mk0 h
  unfold m_X12_servers_97 at h
  refine mm_iload_n C dX12_servers_0 rfl 1 rfl 1 rfl ?_
  refine mm_iconst (v := (1 : Int32)) C dX12_servers_1 (by decide) 2 rfl ?_
  refine mm_iconst (v := (3 : Int32)) C dX12_servers_2 (by decide) 3 rfl ?_
  obtain ⟨x1, ex1, h⟩ := mb h
  refine mm_callS [.int a1, .int (1 : Int32), .int (3 : Int32)] C (c_X12_in ex1) wb_X12_in ws_X12_69 rfl (by omega) rfl (Nat.le_of_ble_eq_true rfl) dX12_servers_3 6 rfl ?_
  show mm_AW z k 4 (some (.int r)) F1 F 6 [(0, .ref (mmad k 97)), (1, .int a1)] [.int x1]
  refine mm_if_ne C dX12_servers_6 12 9 (by decide) rfl (fun hc => ?_) (fun hc => ?_)
  · rw [if_neg hc] at h
    refine mm_aload_n C dX12_servers_12 rfl 0 rfl 13 rfl ?_
    refine mm_get C fl_X12_17_X12 (by decide) (mc_97 k _) rfl dX12_servers_13 16 rfl ?_
    obtain ⟨x2, ex2, h⟩ := me h
    refine mm_top ex2 ?_
    refine mm_istore_n (lv2 := [(2, .int x2), (0, .ref (mmad k 97)), (1, .int a1)]) C dX12_servers_16 rfl (by decide) rfl 17 rfl ?_
    refine mm_aload_n C dX12_servers_17 rfl 1 rfl 18 rfl ?_
    refine mm_iload_n C dX12_servers_18 rfl 2 rfl 19 rfl ?_
    obtain ⟨G3, eG3, h⟩ := me h
    refine mm_put (x := a1) (ty := .int) C fl_X12_17_X12 (by decide) (mc_97 k _) (mc_97 k _) tyX12 tyX12_ok nmX12 rfl (by decide +kernel) rfl rfl (Nat.le_of_ble_eq_true rfl) eG3 dX12_servers_19 22 rfl ?_
    refine mm_iload_n C dX12_servers_22 rfl 0 rfl 23 rfl ?_
    refine mm_istore_n (lv2 := [(3, .int x2), (2, .int x2), (0, .ref (mmad k 97)), (1, .int a1)]) C dX12_servers_23 rfl (by decide) rfl 24 rfl ?_
    refine mm_lv [2, 3, 1, 0] rfl ?_
    have hL24 : ∀ (K : (mmS) → Option (Int32 × mmS)) (hK : ∀ (G5 : mmS) , K (G5) = some (r, F1) → mm_AW z k 4 (some (.int r)) F1 G5 42 [(2, .int x2)] []) (n6 : Nat) (v4 : Int32) (G5 : mmS) , (m_X12_servers_97_L24 a1 n6 v4 G5).bind K = some (r, F1) → mm_AW z k 4 (some (.int r)) F1 G5 24 [(0, .ref (mmad k 97)), (1, .int a1), (2, .int x2), (3, .int v4)] [] := by
      intro K hK n6
      induction n6 with
      | zero => intro v4 G5 h; rw [m_X12_servers_97_L24] at h; cases h
      | succ n6 ih =>
        intro v4 G5 h
        rw [m_X12_servers_97_L24] at h
        refine mm_iload_n C dX12_servers_24 rfl 3 rfl 25 rfl ?_
        refine mm_iload_n C dX12_servers_25 rfl 1 rfl 26 rfl ?_
        refine mm_icmp_ge C dX12_servers_26 42 29 (by decide) rfl (fun hc => ?_) (fun hc => ?_)
        · rw [if_pos hc] at h
          refine mm_lv [2] rfl ?_
          exact hK _ h
        · rw [if_neg hc] at h
          refine mm_aload_n C dX12_servers_29 rfl 0 rfl 30 rfl ?_
          refine mm_get C fl_X12_20_X12 (by decide) (mc_97 k _) rfl dX12_servers_30 33 rfl ?_
          refine mm_iload_n C dX12_servers_33 rfl 3 rfl 34 rfl ?_
          refine mm_iconst (v := (0 : Int32)) C dX12_servers_34 (by decide) 35 rfl ?_
          obtain ⟨G7, eG7, h⟩ := mb h
          refine mm_iast C eG7 dX12_servers_35 36 rfl ?_
          obtain ⟨x8, ex8, h⟩ := me h
          refine mm_iinc (v := x8) (lv2 := [(3, .int x8), (0, .ref (mmad k 97)), (1, .int a1), (2, .int x2)]) C dX12_servers_36 3 rfl (by rw [← ex8]; rfl) (by decide) rfl 39 rfl ?_
          refine mm_goto C dX12_servers_39 24 (by decide) ?_
          refine mm_lv [1, 2, 3, 0] rfl ?_
          exact ih _ _ h
    refine mj1 h (fun (G9 : mmS) => mm_AW z k 4 (some (.int r)) F1 G9 42 [(2, .int x2)] []) ?_ ?_
    · intro G9 h
      refine mm_iload_n C dX12_servers_42 rfl 0 rfl 43 rfl ?_
      exact mm_iretW C (h) dX12_servers_43
    · intro K2 hR h
      exact hL24 K2 hR 300 _ _ h
  · rw [if_pos hc] at h
    refine mm_bipush (v := (-2 : Int32)) C dX12_servers_9 (by decide) 11 rfl ?_
    exact mm_iretW C (h) dX12_servers_11
def m_X12_start_97 (F : mmS) (a1 : Int32) (a2 : Int32) : Option (Int32 × mmS) :=
  Option.bind (m_X12_in a1 (0 : Int32) ((F 97 2) - (1 : Int32))) fun x1 => if x1 = (0 : Int32) then (some ((-2 : Int32), F)) else (Option.bind (m_X12_isPoint_97 F a2) fun x2 => if x2 = (0 : Int32) then (some ((-2 : Int32), F)) else (Option.bind (ald F 99 a1) fun x3 => Option.bind (ast F 99 a1 a2) fun G4 => some (x3, G4)))
set_option maxHeartbeats 4000000 in
set_option maxRecDepth 100000 in
theorem c_X12_start_97 {l : Launch} {k : mmK} {F : mmS} {a1 : Int32} {a2 : Int32} {r : Int32} {F1 : mmS} (h : m_X12_start_97 F a1 a2 = some (r, F1)) : mm_T l k yX12_start cX12_start 4 (some .int) 2 [.ref (mmad k 97), .int a1, .int a2] F (some (.int r)) F1 := by
  refine mm_start [(0, .ref (mmad k 97)), (1, .int a1), (2, .int a2)] (by decide) (Nat.le_of_ble_eq_true rfl) rfl ?_
  intro z hz C
  subst hz
  have C : mm_C z k RX12 cX12_start 4 (some .int) 2 := C
  replace h := mk0 h
  unfold m_X12_start_97 at h
  refine mm_iload_n C dX12_start_0 rfl 1 rfl 1 rfl ?_
  refine mm_iconst (v := (0 : Int32)) C dX12_start_1 (by decide) 2 rfl ?_
  refine mm_aload_n C dX12_start_2 rfl 0 rfl 3 rfl ?_
  refine mm_get C fl_X12_17_X12 (by decide) (mc_97 k _) rfl dX12_start_3 6 rfl ?_
  refine mm_iconst (v := (1 : Int32)) C dX12_start_6 (by decide) 7 rfl ?_
  refine mm_isub C dX12_start_7 8 rfl ?_
  obtain ⟨x1, ex1, h⟩ := mb h
  refine mm_callS [.int a1, .int (0 : Int32), .int ((F 97 2) - (1 : Int32))] C (c_X12_in ex1) wb_X12_in ws_X12_69 rfl (by omega) rfl (Nat.le_of_ble_eq_true rfl) dX12_start_8 11 rfl ?_
  show mm_AW z k 4 (some (.int r)) F1 F 11 [(0, .ref (mmad k 97)), (1, .int a1), (2, .int a2)] [.int x1]
  refine mm_if_eq C dX12_start_11 22 14 (by decide) rfl (fun hc => ?_) (fun hc => ?_)
  · rw [if_pos hc] at h
    refine mm_bipush (v := (-2 : Int32)) C dX12_start_22 (by decide) 24 rfl ?_
    exact mm_iretW C (h) dX12_start_24
  · rw [if_neg hc] at h
    refine mm_aload_n C dX12_start_14 rfl 0 rfl 15 rfl ?_
    refine mm_iload_n C dX12_start_15 rfl 2 rfl 16 rfl ?_
    obtain ⟨x2, ex2, h⟩ := mb h
    refine mm_callV [.int a2] C (c_X12_isPoint_97 ex2) wb_X12_isPoint wv_X12_73 (by decide) (mc_97 k _) rfl rfl rfl (by omega) rfl (Nat.le_of_ble_eq_true rfl) dX12_start_16 19 rfl ?_
    show mm_AW z k 4 (some (.int r)) F1 F 19 [(0, .ref (mmad k 97)), (1, .int a1), (2, .int a2)] [.int x2]
    refine mm_if_ne C dX12_start_19 25 22 (by decide) rfl (fun hc => ?_) (fun hc => ?_)
    · rw [if_neg hc] at h
      refine mm_aload_n C dX12_start_25 rfl 0 rfl 26 rfl ?_
      refine mm_get C fl_X12_20_X12 (by decide) (mc_97 k _) rfl dX12_start_26 29 rfl ?_
      refine mm_iload_n C dX12_start_29 rfl 1 rfl 30 rfl ?_
      obtain ⟨x3, ex3, h⟩ := mb h
      refine mm_iald C ex3 dX12_start_30 31 rfl ?_
      refine mm_istore_n (lv2 := [(3, .int x3), (0, .ref (mmad k 97)), (1, .int a1), (2, .int a2)]) C dX12_start_31 rfl (by decide) rfl 32 rfl ?_
      refine mm_aload_n C dX12_start_32 rfl 1 rfl 33 rfl ?_
      refine mm_get C fl_X12_20_X12 (by decide) (mc_97 k _) rfl dX12_start_33 36 rfl ?_
      refine mm_iload_n C dX12_start_36 rfl 2 rfl 37 rfl ?_
      refine mm_iload_n C dX12_start_37 rfl 3 rfl 38 rfl ?_
      obtain ⟨G4, eG4, h⟩ := mb h
      refine mm_iast C eG4 dX12_start_38 39 rfl ?_
      refine mm_iload_n C dX12_start_39 rfl 0 rfl 40 rfl ?_
      exact mm_iretW C (h) dX12_start_40
    · rw [if_pos hc] at h
      refine mm_bipush (v := (-2 : Int32)) C dX12_start_22 (by decide) 24 rfl ?_
      exact mm_iretW C (h) dX12_start_24
def m_X12_factor_97 (F : mmS) (a1 : Int32) : Option (Int32 × mmS) :=
  Option.bind (m_X12_in a1 (1 : Int32) (9 : Int32)) fun x1 => if x1 = (0 : Int32) then (some ((-2 : Int32), F)) else (mlet (F 97 4) fun x2 => mlet (stF F 97 4 a1) fun G3 => some (x2, G3))
set_option maxHeartbeats 4000000 in
set_option maxRecDepth 100000 in
theorem c_X12_factor_97 {l : Launch} {k : mmK} {F : mmS} {a1 : Int32} {r : Int32} {F1 : mmS} (h : m_X12_factor_97 F a1 = some (r, F1)) : mm_T l k yX12_factor cX12_factor 3 (some .int) 1 [.ref (mmad k 97), .int a1] F (some (.int r)) F1 := by
  refine mm_start [(0, .ref (mmad k 97)), (1, .int a1)] (by decide) (Nat.le_of_ble_eq_true rfl) rfl ?_
  intro z hz C
  subst hz
  have C : mm_C z k RX12 cX12_factor 3 (some .int) 1 := C
  replace h := mk0 h
  unfold m_X12_factor_97 at h
  refine mm_iload_n C dX12_factor_0 rfl 1 rfl 1 rfl ?_
  refine mm_iconst (v := (1 : Int32)) C dX12_factor_1 (by decide) 2 rfl ?_
  refine mm_bipush (v := (9 : Int32)) C dX12_factor_2 (by decide) 4 rfl ?_
  obtain ⟨x1, ex1, h⟩ := mb h
  refine mm_callS [.int a1, .int (1 : Int32), .int (9 : Int32)] C (c_X12_in ex1) wb_X12_in ws_X12_69 rfl (by omega) rfl (Nat.le_of_ble_eq_true rfl) dX12_factor_4 7 rfl ?_
  show mm_AW z k 3 (some (.int r)) F1 F 7 [(0, .ref (mmad k 97)), (1, .int a1)] [.int x1]
  refine mm_if_ne C dX12_factor_7 13 10 (by decide) rfl (fun hc => ?_) (fun hc => ?_)
  · rw [if_neg hc] at h
    refine mm_aload_n C dX12_factor_13 rfl 0 rfl 14 rfl ?_
    refine mm_get C fl_X12_23_X12 (by decide) (mc_97 k _) rfl dX12_factor_14 17 rfl ?_
    obtain ⟨x2, ex2, h⟩ := me h
    refine mm_top ex2 ?_
    refine mm_istore_n (lv2 := [(2, .int x2), (0, .ref (mmad k 97)), (1, .int a1)]) C dX12_factor_17 rfl (by decide) rfl 18 rfl ?_
    refine mm_aload_n C dX12_factor_18 rfl 1 rfl 19 rfl ?_
    refine mm_iload_n C dX12_factor_19 rfl 2 rfl 20 rfl ?_
    obtain ⟨G3, eG3, h⟩ := me h
    refine mm_put (x := a1) (ty := .int) C fl_X12_23_X12 (by decide) (mc_97 k _) (mc_97 k _) tyX12 tyX12_ok nmX12 rfl (by decide +kernel) rfl rfl (Nat.le_of_ble_eq_true rfl) eG3 dX12_factor_20 23 rfl ?_
    refine mm_iload_n C dX12_factor_23 rfl 0 rfl 24 rfl ?_
    exact mm_iretW C (h) dX12_factor_24
  · rw [if_pos hc] at h
    refine mm_bipush (v := (-2 : Int32)) C dX12_factor_10 (by decide) 12 rfl ?_
    exact mm_iretW C (h) dX12_factor_12
def m_X12_reads_97_L23 : Nat → Int32 → mmS → Option (mmS)
  | 0, _, _ => none
  | n5 + 1, v3, G4 => Option.bind (ald G4 111 (0 : Int32)) fun x6 => if x6 ≤ v3 then (some ((G4))) else (Option.bind (ald G4 112 v3) fun x7 => Option.bind (m_X12_isPoint_97 G4 x7) fun x8 => bd1 (if x8 = (0 : Int32) then (some (G4)) else (Option.bind (ald G4 112 v3) fun x9 => Option.bind (ast G4 100 (G4 97 5) x9) fun G10 => mlet (stF G10 97 5 ((G10 97 5) + (1 : Int32))) fun G11 => some (G11))) fun G12 => mlet (v3 + (1 : Int32)) fun x13 => m_X12_reads_97_L23 n5 x13 G12)
def m_X12_reads_97 (F : mmS)  : Option (Int32 × mmS) :=
  mlet (stF F 97 5 (0 : Int32)) fun G1 => Option.bind (zld G1 (0 : Int32)) fun x2 => if x2 = (0 : Int32) then (mlet (stF G1 97 28 (1 : Int32)) fun G16 => Option.bind (zg (0 : Int32)) fun x17 => some ((x17, G16))) else (bd1 (m_X12_reads_97_L23 300 (0 : Int32) G1) fun G14 => Option.bind (zg (1 : Int32)) fun x15 => some ((x15, G14)))
set_option maxHeartbeats 4000000 in
set_option maxRecDepth 100000 in
theorem c_X12_reads_97 {l : Launch} {k : mmK} {F : mmS}  {r : Int32} {F1 : mmS} (h : m_X12_reads_97 F = some (r, F1)) : mm_T l k yX12_reads cX12_reads 2 (some .boolean) 2 [.ref (mmad k 97)] F (some (.int r)) F1 := by
  refine mm_start [(0, .ref (mmad k 97))] (by decide) (Nat.le_of_ble_eq_true rfl) rfl ?_
  intro z hz C
  subst hz
  have C : mm_C z k RX12 cX12_reads 2 (some .boolean) 2 := C
  replace h := mk0 h
  unfold m_X12_reads_97 at h
  refine mm_aload_n C dX12_reads_0 rfl 0 rfl 1 rfl ?_
  refine mm_iconst (v := (0 : Int32)) C dX12_reads_1 (by decide) 2 rfl ?_
  obtain ⟨G1, eG1, h⟩ := me h
  refine mm_put (x := (0 : Int32)) (ty := .int) C fl_X12_77_X12 (by decide) (mc_97 k _) (mc_97 k _) tyX12 tyX12_ok nmX12 rfl (by decide +kernel) rfl rfl (Nat.le_of_ble_eq_true rfl) eG1 dX12_reads_2 5 rfl ?_
  refine mm_aload_n C dX12_reads_5 rfl 0 rfl 6 rfl ?_
  refine mm_get C fl_X12_53_X12 (by decide) (mc_97 k _) rfl dX12_reads_6 9 rfl ?_
  refine mm_iconst (v := (0 : Int32)) C dX12_reads_9 (by decide) 10 rfl ?_
  obtain ⟨x2, ex2, h⟩ := mb h
  refine mm_zald C ex2 dX12_reads_10 11 rfl ?_
  refine mm_if_ne C dX12_reads_11 21 14 (by decide) rfl (fun hc => ?_) (fun hc => ?_)
  · rw [if_neg hc] at h
    refine mm_iconst (v := (0 : Int32)) C dX12_reads_21 (by decide) 22 rfl ?_
    refine mm_istore_n (lv2 := [(1, .int (0 : Int32)), (0, .ref (mmad k 97))]) C dX12_reads_22 rfl (by decide) rfl 23 rfl ?_
    refine mm_lv [1, 0] rfl ?_
    have hL23 : ∀ (K : (mmS) → Option (Int32 × mmS)) (hK : ∀ (G4 : mmS) , K (G4) = some (r, F1) → mm_AW z k 2 (some (.int r)) F1 G4 77 [] []) (n5 : Nat) (v3 : Int32) (G4 : mmS) , (m_X12_reads_97_L23 n5 v3 G4).bind K = some (r, F1) → mm_AW z k 2 (some (.int r)) F1 G4 23 [(0, .ref (mmad k 97)), (1, .int v3)] [] := by
      intro K hK n5
      induction n5 with
      | zero => intro v3 G4 h; rw [m_X12_reads_97_L23] at h; cases h
      | succ n5 ih =>
        intro v3 G4 h
        rw [m_X12_reads_97_L23] at h
        refine mm_iload_n C dX12_reads_23 rfl 1 rfl 24 rfl ?_
        refine mm_aload_n C dX12_reads_24 rfl 0 rfl 25 rfl ?_
        refine mm_get C fl_X12_60_X12 (by decide) (mc_97 k _) rfl dX12_reads_25 28 rfl ?_
        refine mm_iconst (v := (0 : Int32)) C dX12_reads_28 (by decide) 29 rfl ?_
        obtain ⟨x6, ex6, h⟩ := mb h
        refine mm_iald C ex6 dX12_reads_29 30 rfl ?_
        refine mm_icmp_ge C dX12_reads_30 77 33 (by decide) rfl (fun hc => ?_) (fun hc => ?_)
        · rw [if_pos hc] at h
          refine mm_lv [] rfl ?_
          exact hK _ h
        · rw [if_neg hc] at h
          refine mm_aload_n C dX12_reads_33 rfl 0 rfl 34 rfl ?_
          refine mm_aload_n C dX12_reads_34 rfl 0 rfl 35 rfl ?_
          refine mm_get C fl_X12_63_X12 (by decide) (mc_97 k _) rfl dX12_reads_35 38 rfl ?_
          refine mm_iload_n C dX12_reads_38 rfl 1 rfl 39 rfl ?_
          obtain ⟨x7, ex7, h⟩ := mb h
          refine mm_iald C ex7 dX12_reads_39 40 rfl ?_
          obtain ⟨x8, ex8, h⟩ := mb h
          refine mm_callV [.int x7] C (c_X12_isPoint_97 ex8) wb_X12_isPoint wv_X12_73 (by decide) (mc_97 k _) rfl rfl rfl (by omega) rfl (Nat.le_of_ble_eq_true rfl) dX12_reads_40 43 rfl ?_
          show mm_AW z k 2 (some (.int r)) F1 G4 43 [(0, .ref (mmad k 97)), (1, .int v3)] [.int x8]
          refine mj1 h (fun (G12 : mmS) => mm_AW z k 2 (some (.int r)) F1 G12 71 [(0, .ref (mmad k 97)), (1, .int v3)] []) ?_ ?_
          · intro G12 h
            obtain ⟨x13, ex13, h⟩ := me h
            refine mm_iinc (v := x13) (lv2 := [(1, .int x13), (0, .ref (mmad k 97))]) C dX12_reads_71 1 rfl (by rw [← ex13]; rfl) (by decide) rfl 74 rfl ?_
            refine mm_goto C dX12_reads_74 23 (by decide) ?_
            refine mm_lv [1, 0] rfl ?_
            exact ih _ _ h
          · intro K2 hR71 h
            refine mm_if_eq C dX12_reads_43 71 46 (by decide) rfl (fun hc => ?_) (fun hc => ?_)
            · rw [if_pos hc] at h
              exact hR71 _ h
            · rw [if_neg hc] at h
              refine mm_aload_n C dX12_reads_46 rfl 0 rfl 47 rfl ?_
              refine mm_get C fl_X12_26_X12 (by decide) (mc_97 k _) rfl dX12_reads_47 50 rfl ?_
              refine mm_aload_n C dX12_reads_50 rfl 0 rfl 51 rfl ?_
              refine mm_get C fl_X12_77_X12 (by decide) (mc_97 k _) rfl dX12_reads_51 54 rfl ?_
              refine mm_aload_n C dX12_reads_54 rfl 0 rfl 55 rfl ?_
              refine mm_get C fl_X12_63_X12 (by decide) (mc_97 k _) rfl dX12_reads_55 58 rfl ?_
              refine mm_iload_n C dX12_reads_58 rfl 1 rfl 59 rfl ?_
              obtain ⟨x9, ex9, h⟩ := mb h
              refine mm_iald C ex9 dX12_reads_59 60 rfl ?_
              obtain ⟨G10, eG10, h⟩ := mb h
              refine mm_iast C eG10 dX12_reads_60 61 rfl ?_
              refine mm_aload_n C dX12_reads_61 rfl 0 rfl 62 rfl ?_
              refine mm_dup C dX12_reads_62 rfl 63 rfl ?_
              refine mm_get C fl_X12_77_X12 (by decide) (mc_97 k _) rfl dX12_reads_63 66 rfl ?_
              refine mm_iconst (v := (1 : Int32)) C dX12_reads_66 (by decide) 67 rfl ?_
              refine mm_iadd C dX12_reads_67 68 rfl ?_
              obtain ⟨G11, eG11, h⟩ := me h
              refine mm_put (x := ((G10 97 5) + (1 : Int32))) (ty := .int) C fl_X12_77_X12 (by decide) (mc_97 k _) (mc_97 k _) tyX12 tyX12_ok nmX12 rfl (by decide +kernel) rfl rfl (Nat.le_of_ble_eq_true rfl) eG11 dX12_reads_68 71 rfl ?_
              exact hR71 _ h
    refine mj1 h (fun (G14 : mmS) => mm_AW z k 2 (some (.int r)) F1 G14 77 [] []) ?_ ?_
    · intro G14 h
      refine mm_iconst (v := (1 : Int32)) C dX12_reads_77 (by decide) 78 rfl ?_
      obtain ⟨x15, ex15, h⟩ := mb h
      exact mm_zretW C ex15 (h) dX12_reads_78
    · intro K2 hR h
      exact hL23 K2 hR 300 _ _ h
  · rw [if_pos hc] at h
    refine mm_aload_n C dX12_reads_14 rfl 0 rfl 15 rfl ?_
    refine mm_iconst (v := (1 : Int32)) C dX12_reads_15 (by decide) 16 rfl ?_
    obtain ⟨G16, eG16, h⟩ := me h
    refine mm_put (x := (1 : Int32)) (ty := .int) C fl_X12_80_X12 (by decide) (mc_97 k _) (mc_97 k _) tyX12 tyX12_ok nmX12 rfl (by decide +kernel) rfl rfl (Nat.le_of_ble_eq_true rfl) eG16 dX12_reads_16 19 rfl ?_
    refine mm_iconst (v := (0 : Int32)) C dX12_reads_19 (by decide) 20 rfl ?_
    obtain ⟨x17, ex17, h⟩ := mb h
    exact mm_zretW C ex17 (h) dX12_reads_20
def m_X12_asked_97 (F : mmS)  : Option (Int32 × mmS) :=
  bd2 (m_X12_reads_97 F) fun x1 G2 => if x1 = (0 : Int32) then (some ((-11 : Int32), G2)) else (some ((G2 97 5), G2))
set_option maxHeartbeats 4000000 in
set_option maxRecDepth 100000 in
theorem c_X12_asked_97 {l : Launch} {k : mmK} {F : mmS}  {r : Int32} {F1 : mmS} (h : m_X12_asked_97 F = some (r, F1)) : mm_T l k yX12_asked cX12_asked 1 (some .int) 3 [.ref (mmad k 97)] F (some (.int r)) F1 := by
  refine mm_start [(0, .ref (mmad k 97))] (by decide) (Nat.le_of_ble_eq_true rfl) rfl ?_
  intro z hz C
  subst hz
  have C : mm_C z k RX12 cX12_asked 1 (some .int) 3 := C
  replace h := mk0 h
  unfold m_X12_asked_97 at h
  refine mm_aload_n C dX12_asked_0 rfl 0 rfl 1 rfl ?_
  obtain ⟨x1, G2, ex1, h⟩ := mb2 h
  refine mm_callV [] C (c_X12_reads_97 ex1) wb_X12_reads wv_X12_83 (by decide) (mc_97 k _) rfl rfl rfl (by omega) rfl (Nat.le_of_ble_eq_true rfl) dX12_asked_1 4 rfl ?_
  show mm_AW z k 1 (some (.int r)) F1 G2 4 [(0, .ref (mmad k 97))] [.int x1]
  refine mm_if_eq C dX12_asked_4 14 7 (by decide) rfl (fun hc => ?_) (fun hc => ?_)
  · rw [if_pos hc] at h
    refine mm_bipush (v := (-11 : Int32)) C dX12_asked_14 (by decide) 16 rfl ?_
    exact mm_iretW C (h) dX12_asked_16
  · rw [if_neg hc] at h
    refine mm_aload_n C dX12_asked_7 rfl 0 rfl 8 rfl ?_
    refine mm_get C fl_X12_77_X12 (by decide) (mc_97 k _) rfl dX12_asked_8 11 rfl ?_
    refine mm_goto C dX12_asked_11 16 (by decide) ?_
    exact mm_iretW C (h) dX12_asked_16
def m_X12_pointOf_97 (a1 : Int32) (a2 : Int32) : Option (Int32) :=
  if a2 = (0 : Int32) then (Option.bind (mrem a1 (6 : Int32)) fun x4 => some x4) else (if a2 = (1 : Int32) then (Option.bind (mdiv a1 (6 : Int32)) fun x2 => Option.bind (mrem x2 (6 : Int32)) fun x3 => some x3) else (Option.bind (mdiv a1 (36 : Int32)) fun x1 => some x1))
set_option maxHeartbeats 4000000 in
set_option maxRecDepth 100000 in
theorem c_X12_pointOf_97 {l : Launch} {k : mmK} {F : mmS} {a1 : Int32} {a2 : Int32} {r : Int32} (h : m_X12_pointOf_97 a1 a2 = some r) : mm_T l k yX12_pointOf cX12_pointOf 3 (some .int) 0 [.ref (mmad k 97), .int a1, .int a2] F (some (.int r)) F := by
  refine mm_start [(0, .ref (mmad k 97)), (1, .int a1), (2, .int a2)] (by decide) (Nat.le_of_ble_eq_true rfl) rfl ?_
  intro z hz C
  subst hz
  have C : mm_C z k RX12 cX12_pointOf 3 (some .int) 0 := C
  replace h := mk0 h
  unfold m_X12_pointOf_97 at h
  refine mm_iload_n C dX12_pointOf_0 rfl 2 rfl 1 rfl ?_
  refine mm_if_ne C dX12_pointOf_1 11 4 (by decide) rfl (fun hc => ?_) (fun hc => ?_)
  · rw [if_neg hc] at h
    refine mm_iload_n C dX12_pointOf_11 rfl 2 rfl 12 rfl ?_
    refine mm_iconst (v := (1 : Int32)) C dX12_pointOf_12 (by decide) 13 rfl ?_
    refine mm_icmp_ne C dX12_pointOf_13 26 16 (by decide) rfl (fun hc => ?_) (fun hc => ?_)
    · rw [if_neg hc] at h
      refine mm_iload_n C dX12_pointOf_26 rfl 1 rfl 27 rfl ?_
      refine mm_bipush (v := (36 : Int32)) C dX12_pointOf_27 (by decide) 29 rfl ?_
      obtain ⟨x1, ex1, h⟩ := mb h
      refine mm_idiv C dX12_pointOf_29 ex1 30 rfl ?_
      exact mm_iretP C (h) dX12_pointOf_30
    · rw [if_pos hc] at h
      refine mm_iload_n C dX12_pointOf_16 rfl 1 rfl 17 rfl ?_
      refine mm_bipush (v := (6 : Int32)) C dX12_pointOf_17 (by decide) 19 rfl ?_
      obtain ⟨x2, ex2, h⟩ := mb h
      refine mm_idiv C dX12_pointOf_19 ex2 20 rfl ?_
      refine mm_bipush (v := (6 : Int32)) C dX12_pointOf_20 (by decide) 22 rfl ?_
      obtain ⟨x3, ex3, h⟩ := mb h
      refine mm_irem C dX12_pointOf_22 ex3 23 rfl ?_
      refine mm_goto C dX12_pointOf_23 30 (by decide) ?_
      exact mm_iretP C (h) dX12_pointOf_30
  · rw [if_pos hc] at h
    refine mm_iload_n C dX12_pointOf_4 rfl 1 rfl 5 rfl ?_
    refine mm_bipush (v := (6 : Int32)) C dX12_pointOf_5 (by decide) 7 rfl ?_
    obtain ⟨x4, ex4, h⟩ := mb h
    refine mm_irem C dX12_pointOf_7 ex4 8 rfl ?_
    refine mm_goto C dX12_pointOf_8 30 (by decide) ?_
    exact mm_iretP C (h) dX12_pointOf_30
def m_X12_isStanding_97_L2 (a1 : Int32) (F : mmS) : Nat → Int32 → Option ((Int32) ⊕ (Unit))
  | 0, _ => none
  | n2 + 1, v1 => if (3 : Int32) ≤ v1 then (some (.inr ())) else (Option.bind (m_X12_pointOf_97 a1 v1) fun x3 => if (F 97 2) ≤ v1 then (if x3 ≤ (0 : Int32) then (mlet (v1 + (1 : Int32)) fun x4 => m_X12_isStanding_97_L2 a1 F n2 x4) else (Option.bind (zg (0 : Int32)) fun x5 => some (.inl x5))) else (if x3 < (F 97 0) then (mlet (v1 + (1 : Int32)) fun x6 => m_X12_isStanding_97_L2 a1 F n2 x6) else (Option.bind (zg (0 : Int32)) fun x7 => some (.inl x7))))
def m_X12_isStanding_97 (F : mmS) (a1 : Int32) : Option (Int32) :=
  bdE0 (m_X12_isStanding_97_L2 a1 F 300 (0 : Int32)) fun _ => Option.bind (zg (1 : Int32)) fun x8 => some (x8)
set_option maxHeartbeats 4000000 in
set_option maxRecDepth 100000 in
theorem c_X12_isStanding_97 {l : Launch} {k : mmK} {F : mmS} {a1 : Int32} {r : Int32} (h : m_X12_isStanding_97 F a1 = some r) : mm_T l k yX12_isStanding cX12_isStanding 4 (some .boolean) 1 [.ref (mmad k 97), .int a1] F (some (.int r)) F := by
  refine mm_start [(0, .ref (mmad k 97)), (1, .int a1)] (by decide) (Nat.le_of_ble_eq_true rfl) rfl ?_
  intro z hz C
  subst hz
  have C : mm_C z k RX12 cX12_isStanding 4 (some .boolean) 1 := C
  replace h := mk0 h
  unfold m_X12_isStanding_97 at h
  refine mm_iconst (v := (0 : Int32)) C dX12_isStanding_0 (by decide) 1 rfl ?_
  refine mm_istore_n (lv2 := [(2, .int (0 : Int32)), (0, .ref (mmad k 97)), (1, .int a1)]) C dX12_isStanding_1 rfl (by decide) rfl 2 rfl ?_
  refine mm_lv [1, 2, 0] rfl ?_
  have hL2 : ∀ (K : ((Int32) ⊕ (Unit)) → Option (Int32)) (hK : K (.inr ()) = some r → mm_AW z k 4 (some (.int r)) F F 45 [] []) (hE : ∀ q : Int32, K (.inl q) = some r → q = r) (n2 : Nat) (v1 : Int32) , (m_X12_isStanding_97_L2 a1 F n2 v1).bind K = some r → mm_AW z k 4 (some (.int r)) F F 2 [(0, .ref (mmad k 97)), (1, .int a1), (2, .int v1)] [] := by
    intro K hK hE n2
    induction n2 with
    | zero => intro v1 h; rw [m_X12_isStanding_97_L2] at h; cases h
    | succ n2 ih =>
      intro v1 h
      rw [m_X12_isStanding_97_L2] at h
      refine mm_iload_n C dX12_isStanding_2 rfl 2 rfl 3 rfl ?_
      refine mm_iconst (v := (3 : Int32)) C dX12_isStanding_3 (by decide) 4 rfl ?_
      refine mm_icmp_ge C dX12_isStanding_4 45 7 (by decide) rfl (fun hc => ?_) (fun hc => ?_)
      · rw [if_pos hc] at h
        refine mm_lv [] rfl ?_
        exact hK h
      · rw [if_neg hc] at h
        refine mm_aload_n C dX12_isStanding_7 rfl 0 rfl 8 rfl ?_
        refine mm_iload_n C dX12_isStanding_8 rfl 1 rfl 9 rfl ?_
        refine mm_iload_n C dX12_isStanding_9 rfl 2 rfl 10 rfl ?_
        obtain ⟨x3, ex3, h⟩ := mb h
        refine mm_callV [.int a1, .int v1] C (c_X12_pointOf_97 ex3) wb_X12_pointOf wv_X12_87 (by decide) (mc_97 k _) rfl rfl rfl (by omega) rfl (Nat.le_of_ble_eq_true rfl) dX12_isStanding_10 13 rfl ?_
        show mm_AW z k 4 (some (.int r)) F F 13 [(0, .ref (mmad k 97)), (1, .int a1), (2, .int v1)] [.int x3]
        refine mm_istore_n (lv2 := [(3, .int x3), (0, .ref (mmad k 97)), (1, .int a1), (2, .int v1)]) C dX12_isStanding_13 rfl (by decide) rfl 14 rfl ?_
        refine mm_iload_n C dX12_isStanding_14 rfl 3 rfl 15 rfl ?_
        refine mm_aload_n C dX12_isStanding_15 rfl 1 rfl 16 rfl ?_
        refine mm_get C fl_X12_17_X12 (by decide) (mc_97 k _) rfl dX12_isStanding_16 19 rfl ?_
        refine mm_icmp_ge C dX12_isStanding_19 33 22 (by decide) rfl (fun hc => ?_) (fun hc => ?_)
        · rw [if_pos hc] at h
          refine mm_iload_n C dX12_isStanding_33 rfl 0 rfl 34 rfl ?_
          refine mm_if_le C dX12_isStanding_34 39 37 (by decide) rfl (fun hc => ?_) (fun hc => ?_)
          · rw [if_pos hc] at h
            obtain ⟨x4, ex4, h⟩ := me h
            refine mm_iinc (v := x4) (lv2 := [(2, .int x4), (3, .int x3), (0, .ref (mmad k 97)), (1, .int a1)]) C dX12_isStanding_39 3 rfl (by rw [← ex4]; rfl) (by decide) rfl 42 rfl ?_
            refine mm_goto C dX12_isStanding_42 2 (by decide) ?_
            refine mm_lv [2, 3, 0] rfl ?_
            exact ih _ h
          · rw [if_neg hc] at h
            refine mm_iconst (v := (0 : Int32)) C dX12_isStanding_37 (by decide) 38 rfl ?_
            obtain ⟨x5, ex5, h⟩ := mb h
            exact mm_zretP C ex5 (congrArg some (hE _ h)) dX12_isStanding_38
        · rw [if_neg hc] at h
          refine mm_iload_n C dX12_isStanding_22 rfl 0 rfl 23 rfl ?_
          refine mm_aload_n C dX12_isStanding_23 rfl 1 rfl 24 rfl ?_
          refine mm_get C fl_X12_7_X12 (by decide) (mc_97 k _) rfl dX12_isStanding_24 27 rfl ?_
          refine mm_icmp_lt C dX12_isStanding_27 39 30 (by decide) rfl (fun hc => ?_) (fun hc => ?_)
          · rw [if_pos hc] at h
            obtain ⟨x6, ex6, h⟩ := me h
            refine mm_iinc (v := x6) (lv2 := [(2, .int x6), (3, .int x3), (0, .ref (mmad k 97)), (1, .int a1)]) C dX12_isStanding_39 3 rfl (by rw [← ex6]; rfl) (by decide) rfl 42 rfl ?_
            refine mm_goto C dX12_isStanding_42 2 (by decide) ?_
            refine mm_lv [2, 3, 0] rfl ?_
            exact ih _ h
          · rw [if_neg hc] at h
            refine mm_goto C dX12_isStanding_30 37 (by decide) ?_
            refine mm_iconst (v := (0 : Int32)) C dX12_isStanding_37 (by decide) 38 rfl ?_
            obtain ⟨x7, ex7, h⟩ := mb h
            exact mm_zretP C ex7 (congrArg some (hE _ h)) dX12_isStanding_38
  refine mjE0 h (mm_AW z k 4 (some (.int r)) F F 45 [] []) ?_ ?_
  · intro  h
    refine mm_iconst (v := (1 : Int32)) C dX12_isStanding_45 (by decide) 46 rfl ?_
    obtain ⟨x8, ex8, h⟩ := mb h
    exact mm_zretP C ex8 (h) dX12_isStanding_46
  · intro K2 hR hE h
    exact hL2 K2 hR hE 300 _ h
def m_X12_apart (a0 : Int32) (a1 : Int32) : Option (Int32) :=
  if a1 ≤ a0 then (some (a0 - a1)) else (some (a1 - a0))
set_option maxHeartbeats 4000000 in
set_option maxRecDepth 100000 in
theorem c_X12_apart {l : Launch} {k : mmK} {F : mmS} {a0 : Int32} {a1 : Int32} {r : Int32} (h : m_X12_apart a0 a1 = some r) : mm_T l k yX12_apart cX12_apart 2 (some .int) 0 [.int a0, .int a1] F (some (.int r)) F := by
  refine mm_start [(0, .int a0), (1, .int a1)] (by decide) (Nat.le_of_ble_eq_true rfl) rfl ?_
  intro z hz C
  subst hz
  have C : mm_C z k RX12 cX12_apart 2 (some .int) 0 := C
  replace h := mk0 h
  unfold m_X12_apart at h
  refine mm_iload_n C dX12_apart_0 rfl 0 rfl 1 rfl ?_
  refine mm_iload_n C dX12_apart_1 rfl 1 rfl 2 rfl ?_
  refine mm_icmp_ge C dX12_apart_2 11 5 (by decide) rfl (fun hc => ?_) (fun hc => ?_)
  · rw [if_pos hc] at h
    refine mm_iload_n C dX12_apart_11 rfl 0 rfl 12 rfl ?_
    refine mm_iload_n C dX12_apart_12 rfl 1 rfl 13 rfl ?_
    refine mm_isub C dX12_apart_13 14 rfl ?_
    exact mm_iretP C (h) dX12_apart_14
  · rw [if_neg hc] at h
    refine mm_iload_n C dX12_apart_5 rfl 1 rfl 6 rfl ?_
    refine mm_iload_n C dX12_apart_6 rfl 0 rfl 7 rfl ?_
    refine mm_isub C dX12_apart_7 8 rfl ?_
    refine mm_goto C dX12_apart_8 14 (by decide) ?_
    exact mm_iretP C (h) dX12_apart_14
def m_X12_wayTo_97 (F : mmS) (a1 : Int32) (a2 : Int32) (a3 : Int32) : Option (Int32) :=
  Option.bind (m_X12_pointOf_97 a1 a2) fun x1 => Option.bind (ald F 98 x1) fun x2 => Option.bind (ald F 98 a3) fun x3 => Option.bind (m_X12_apart x2 x3) fun x4 => some x4
set_option maxHeartbeats 4000000 in
set_option maxRecDepth 100000 in
theorem c_X12_wayTo_97 {l : Launch} {k : mmK} {F : mmS} {a1 : Int32} {a2 : Int32} {a3 : Int32} {r : Int32} (h : m_X12_wayTo_97 F a1 a2 a3 = some r) : mm_T l k yX12_wayTo cX12_wayTo 4 (some .int) 1 [.ref (mmad k 97), .int a1, .int a2, .int a3] F (some (.int r)) F := by
  refine mm_start [(0, .ref (mmad k 97)), (1, .int a1), (2, .int a2), (3, .int a3)] (by decide) (Nat.le_of_ble_eq_true rfl) rfl ?_
  intro z hz C
  subst hz
  have C : mm_C z k RX12 cX12_wayTo 4 (some .int) 1 := C
  replace h := mk0 h
  unfold m_X12_wayTo_97 at h
  refine mm_aload_n C dX12_wayTo_0 rfl 0 rfl 1 rfl ?_
  refine mm_get C fl_X12_13_X12 (by decide) (mc_97 k _) rfl dX12_wayTo_1 4 rfl ?_
  refine mm_aload_n C dX12_wayTo_4 rfl 0 rfl 5 rfl ?_
  refine mm_iload_n C dX12_wayTo_5 rfl 1 rfl 6 rfl ?_
  refine mm_iload_n C dX12_wayTo_6 rfl 2 rfl 7 rfl ?_
  obtain ⟨x1, ex1, h⟩ := mb h
  refine mm_callV [.int a1, .int a2] C (c_X12_pointOf_97 ex1) wb_X12_pointOf wv_X12_87 (by decide) (mc_97 k _) rfl rfl rfl (by omega) rfl (Nat.le_of_ble_eq_true rfl) dX12_wayTo_7 10 rfl ?_
  show mm_AW z k 4 (some (.int r)) F F 10 [(0, .ref (mmad k 97)), (1, .int a1), (2, .int a2), (3, .int a3)] [.int x1, .ref (mmad k 98)]
  obtain ⟨x2, ex2, h⟩ := mb h
  refine mm_iald C ex2 dX12_wayTo_10 11 rfl ?_
  refine mm_aload_n C dX12_wayTo_11 rfl 0 rfl 12 rfl ?_
  refine mm_get C fl_X12_13_X12 (by decide) (mc_97 k _) rfl dX12_wayTo_12 15 rfl ?_
  refine mm_iload_n C dX12_wayTo_15 rfl 3 rfl 16 rfl ?_
  obtain ⟨x3, ex3, h⟩ := mb h
  refine mm_iald C ex3 dX12_wayTo_16 17 rfl ?_
  obtain ⟨x4, ex4, h⟩ := mb h
  refine mm_callS [.int x2, .int x3] C (c_X12_apart ex4) wb_X12_apart ws_X12_95 rfl (by omega) rfl (Nat.le_of_ble_eq_true rfl) dX12_wayTo_17 20 rfl ?_
  show mm_AW z k 4 (some (.int r)) F F 20 [(0, .ref (mmad k 97)), (1, .int a1), (2, .int a2), (3, .int a3)] [.int x4]
  exact mm_iretP C (h) dX12_wayTo_20
def m_X12_with_97 (a1 : Int32) (a2 : Int32) (a3 : Int32) : Option (Int32) :=
  bd1 (if a2 = (0 : Int32) then (some ((1 : Int32))) else (if a2 = (1 : Int32) then (some ((6 : Int32))) else (some ((36 : Int32))))) fun y1 => Option.bind (m_X12_pointOf_97 a1 a2) fun x2 => some (a1 + (y1 * (a3 - x2)))
set_option maxHeartbeats 4000000 in
set_option maxRecDepth 100000 in
theorem c_X12_with_97 {l : Launch} {k : mmK} {F : mmS} {a1 : Int32} {a2 : Int32} {a3 : Int32} {r : Int32} (h : m_X12_with_97 a1 a2 a3 = some r) : mm_T l k yX12_with cX12_with 5 (some .int) 1 [.ref (mmad k 97), .int a1, .int a2, .int a3] F (some (.int r)) F := by
  refine mm_start [(0, .ref (mmad k 97)), (1, .int a1), (2, .int a2), (3, .int a3)] (by decide) (Nat.le_of_ble_eq_true rfl) rfl ?_
  intro z hz C
  subst hz
  have C : mm_C z k RX12 cX12_with 5 (some .int) 1 := C
  replace h := mk0 h
  unfold m_X12_with_97 at h
  refine mm_iload_n C dX12_with_0 rfl 2 rfl 1 rfl ?_
  refine mj1 h (fun (y1 : Int32) => mm_AW z k 5 (some (.int r)) F F 20 [(0, .ref (mmad k 97)), (1, .int a1), (2, .int a2), (3, .int a3)] [.int y1]) ?_ ?_
  · intro y1 h
    refine mm_istore (lv2 := [(4, .int y1), (0, .ref (mmad k 97)), (1, .int a1), (2, .int a2), (3, .int a3)]) C dX12_with_20 (by decide) rfl 22 rfl ?_
    refine mm_iload_n C dX12_with_22 rfl 2 rfl 23 rfl ?_
    refine mm_iload C dX12_with_23 0 rfl 25 rfl ?_
    refine mm_iload_n C dX12_with_25 rfl 4 rfl 26 rfl ?_
    refine mm_aload_n C dX12_with_26 rfl 1 rfl 27 rfl ?_
    refine mm_iload_n C dX12_with_27 rfl 2 rfl 28 rfl ?_
    refine mm_iload_n C dX12_with_28 rfl 3 rfl 29 rfl ?_
    obtain ⟨x2, ex2, h⟩ := mb h
    refine mm_callV [.int a1, .int a2] C (c_X12_pointOf_97 ex2) wb_X12_pointOf wv_X12_87 (by decide) (mc_97 k _) rfl rfl rfl (by omega) rfl (Nat.le_of_ble_eq_true rfl) dX12_with_29 32 rfl ?_
    show mm_AW z k 5 (some (.int r)) F F 32 [(4, .int y1), (0, .ref (mmad k 97)), (1, .int a1), (2, .int a2), (3, .int a3)] [.int x2, .int a3, .int y1, .int a1]
    refine mm_isub C dX12_with_32 33 rfl ?_
    refine mm_imul C dX12_with_33 34 rfl ?_
    refine mm_iadd C dX12_with_34 35 rfl ?_
    exact mm_iretP C (h) dX12_with_35
  · intro K2 hR20 h
    refine mm_if_ne C dX12_with_1 8 4 (by decide) rfl (fun hc => ?_) (fun hc => ?_)
    · rw [if_neg hc] at h
      refine mm_iload_n C dX12_with_8 rfl 2 rfl 9 rfl ?_
      refine mm_iconst (v := (1 : Int32)) C dX12_with_9 (by decide) 10 rfl ?_
      refine mm_icmp_ne C dX12_with_10 18 13 (by decide) rfl (fun hc => ?_) (fun hc => ?_)
      · rw [if_neg hc] at h
        refine mm_bipush (v := (36 : Int32)) C dX12_with_18 (by decide) 20 rfl ?_
        exact hR20 _ h
      · rw [if_pos hc] at h
        refine mm_bipush (v := (6 : Int32)) C dX12_with_13 (by decide) 15 rfl ?_
        refine mm_goto C dX12_with_15 20 (by decide) ?_
        exact hR20 _ h
    · rw [if_pos hc] at h
      refine mm_iconst (v := (1 : Int32)) C dX12_with_4 (by decide) 5 rfl ?_
      refine mm_goto C dX12_with_5 20 (by decide) ?_
      exact hR20 _ h
def m_X12_begin_97_L4 (F : mmS) : Nat → Int32 → Int32 → Option (Int32)
  | 0, _, _ => none
  | n3 + 1, v1, v2 => if (F 97 2) ≤ v2 then (some ((v1))) else (Option.bind (ald F 99 v2) fun x4 => Option.bind (m_X12_with_97 v1 v2 x4) fun x5 => mlet (v2 + (1 : Int32)) fun x6 => m_X12_begin_97_L4 F n3 x5 x6)
def m_X12_begin_97 (F : mmS)  : Option (Int32) :=
  bd1 (m_X12_begin_97_L4 F 300 (0 : Int32) (0 : Int32)) fun y7 => some y7
set_option maxHeartbeats 4000000 in
set_option maxRecDepth 100000 in
theorem c_X12_begin_97 {l : Launch} {k : mmK} {F : mmS}  {r : Int32} (h : m_X12_begin_97 F = some r) : mm_T l k yX12_begin cX12_begin 3 (some .int) 2 [.ref (mmad k 97)] F (some (.int r)) F := by
  refine mm_start [(0, .ref (mmad k 97))] (by decide) (Nat.le_of_ble_eq_true rfl) rfl ?_
  intro z hz C
  subst hz
  have C : mm_C z k RX12 cX12_begin 3 (some .int) 2 := C
  replace h := mk0 h
  unfold m_X12_begin_97 at h
  refine mm_iconst (v := (0 : Int32)) C dX12_begin_0 (by decide) 1 rfl ?_
  refine mm_istore_n (lv2 := [(1, .int (0 : Int32)), (0, .ref (mmad k 97))]) C dX12_begin_1 rfl (by decide) rfl 2 rfl ?_
  refine mm_iconst (v := (0 : Int32)) C dX12_begin_2 (by decide) 3 rfl ?_
  refine mm_istore_n (lv2 := [(2, .int (0 : Int32)), (1, .int (0 : Int32)), (0, .ref (mmad k 97))]) C dX12_begin_3 rfl (by decide) rfl 4 rfl ?_
  refine mm_lv [2, 1, 0] rfl ?_
  have hL4 : ∀ (K : (Int32) → Option (Int32)) (hK : ∀ (v1 : Int32) , K (v1) = some r → mm_AW z k 3 (some (.int r)) F F 31 [(1, .int v1)] []) (n3 : Nat) (v1 : Int32) (v2 : Int32) , (m_X12_begin_97_L4 F n3 v1 v2).bind K = some r → mm_AW z k 3 (some (.int r)) F F 4 [(0, .ref (mmad k 97)), (1, .int v1), (2, .int v2)] [] := by
    intro K hK n3
    induction n3 with
    | zero => intro v1 v2 h; rw [m_X12_begin_97_L4] at h; cases h
    | succ n3 ih =>
      intro v1 v2 h
      rw [m_X12_begin_97_L4] at h
      refine mm_iload_n C dX12_begin_4 rfl 2 rfl 5 rfl ?_
      refine mm_aload_n C dX12_begin_5 rfl 0 rfl 6 rfl ?_
      refine mm_get C fl_X12_17_X12 (by decide) (mc_97 k _) rfl dX12_begin_6 9 rfl ?_
      refine mm_icmp_ge C dX12_begin_9 31 12 (by decide) rfl (fun hc => ?_) (fun hc => ?_)
      · rw [if_pos hc] at h
        refine mm_lv [1] rfl ?_
        exact hK _ h
      · rw [if_neg hc] at h
        refine mm_aload_n C dX12_begin_12 rfl 0 rfl 13 rfl ?_
        refine mm_iload_n C dX12_begin_13 rfl 1 rfl 14 rfl ?_
        refine mm_iload_n C dX12_begin_14 rfl 2 rfl 15 rfl ?_
        refine mm_aload_n C dX12_begin_15 rfl 0 rfl 16 rfl ?_
        refine mm_get C fl_X12_20_X12 (by decide) (mc_97 k _) rfl dX12_begin_16 19 rfl ?_
        refine mm_iload_n C dX12_begin_19 rfl 2 rfl 20 rfl ?_
        obtain ⟨x4, ex4, h⟩ := mb h
        refine mm_iald C ex4 dX12_begin_20 21 rfl ?_
        obtain ⟨x5, ex5, h⟩ := mb h
        refine mm_callV [.int v1, .int v2, .int x4] C (c_X12_with_97 ex5) wb_X12_with wv_X12_91 (by decide) (mc_97 k _) rfl rfl rfl (by omega) rfl (Nat.le_of_ble_eq_true rfl) dX12_begin_21 24 rfl ?_
        show mm_AW z k 3 (some (.int r)) F F 24 [(0, .ref (mmad k 97)), (1, .int v1), (2, .int v2)] [.int x5]
        refine mm_istore_n (lv2 := [(1, .int x5), (0, .ref (mmad k 97)), (2, .int v2)]) C dX12_begin_24 rfl (by decide) rfl 25 rfl ?_
        obtain ⟨x6, ex6, h⟩ := me h
        refine mm_iinc (v := x6) (lv2 := [(2, .int x6), (1, .int x5), (0, .ref (mmad k 97))]) C dX12_begin_25 2 rfl (by rw [← ex6]; rfl) (by decide) rfl 28 rfl ?_
        refine mm_goto C dX12_begin_28 4 (by decide) ?_
        refine mm_lv [2, 1, 0] rfl ?_
        exact ih _ _ h
  refine mj1 h (fun (y7 : Int32) => mm_AW z k 3 (some (.int r)) F F 31 [(1, .int y7)] []) ?_ ?_
  · intro y7 h
    refine mm_iload_n C dX12_begin_31 rfl 0 rfl 32 rfl ?_
    exact mm_iretP C (h) dX12_begin_32
  · intro K2 hR h
    exact hL4 K2 hR 300 _ _ h
def m_X12_plans_97_L2 : Nat → Int32 → mmS → Option (mmS)
  | 0, _, _ => none
  | n3 + 1, v1, G2 => if (216 : Int32) ≤ v1 then (some ((G2))) else (Option.bind (ast G2 101 (((216 : Int32) * (G2 97 5)) + v1) (0 : Int32)) fun G4 => mlet (v1 + (1 : Int32)) fun x5 => m_X12_plans_97_L2 n3 x5 G4)
def m_X12_plans_97_L57 (v8 : Int32) (v11 : Int32) (G12 : mmS) : Nat → Int32 → Int32 → Option (Int32)
  | 0, _, _ => none
  | n16 + 1, v14, v15 => if (G12 97 2) ≤ v15 then (some ((v14))) else (Option.bind (m_X12_isStanding_97 G12 v11) fun x17 => if x17 = (0 : Int32) then (some ((v14))) else (Option.bind (ald G12 100 v8) fun x18 => Option.bind (m_X12_wayTo_97 G12 v11 v15 x18) fun x19 => Option.bind (ald G12 100 v8) fun x20 => Option.bind (m_X12_with_97 v11 v15 x20) fun x21 => Option.bind (ald G12 101 (((216 : Int32) * (v8 + (1 : Int32))) + x21)) fun x22 => mlet (x19 + x22) fun x23 => bd1 (if v14 ≤ x23 then (some (v14)) else (some (x23))) fun y24 => mlet (v15 + (1 : Int32)) fun x25 => m_X12_plans_97_L57 v8 v11 G12 n16 y24 x25))
def m_X12_plans_97_L44 (v8 : Int32) : Nat → Int32 → mmS → Option (mmS)
  | 0, _, _ => none
  | n13 + 1, v11, G12 => if (216 : Int32) ≤ v11 then (some ((G12))) else (bd1 (m_X12_plans_97_L57 v8 v11 G12 300 (1000000000 : Int32) (0 : Int32)) fun y26 => Option.bind (ast G12 101 (((216 : Int32) * v8) + v11) y26) fun G27 => mlet (v11 + (1 : Int32)) fun x28 => m_X12_plans_97_L44 v8 n13 x28 G27)
def m_X12_plans_97_L38 : Nat → Int32 → mmS → Option (mmS)
  | 0, _, _ => none
  | n10 + 1, v8, G9 => if v8 < (0 : Int32) then (some ((G9))) else (bd1 (m_X12_plans_97_L44 v8 300 (0 : Int32) G9) fun G29 => mlet (v8 + (-1 : Int32)) fun x30 => m_X12_plans_97_L38 n10 x30 G29)
def m_X12_plans_97_L177 (v33 : Int32) (v34 : Int32) (G35 : mmS) : Nat → Int32 → Option (Int32)
  | 0, _ => none
  | n38 + 1, v37 => Option.bind (ald G35 100 v34) fun x39 => Option.bind (m_X12_wayTo_97 G35 v33 v37 x39) fun x40 => Option.bind (ald G35 100 v34) fun x41 => Option.bind (m_X12_with_97 v33 v37 x41) fun x42 => Option.bind (ald G35 101 (((216 : Int32) * (v34 + (1 : Int32))) + x42)) fun x43 => Option.bind (ald G35 101 (((216 : Int32) * v34) + v33)) fun x44 => if (x40 + x43) = x44 then (some ((v37))) else (mlet (v37 + (1 : Int32)) fun x45 => m_X12_plans_97_L177 v33 v34 G35 n38 x45)
def m_X12_plans_97_L167 : Nat → Int32 → Int32 → mmS → Option (mmS)
  | 0, _, _, _ => none
  | n36 + 1, v33, v34, G35 => if (G35 97 5) ≤ v34 then (some ((G35))) else (bd1 (m_X12_plans_97_L177 v33 v34 G35 300 (0 : Int32)) fun y46 => Option.bind (ast G35 102 v34 y46) fun G47 => Option.bind (ald G47 100 v34) fun x48 => Option.bind (m_X12_with_97 v33 y46 x48) fun x49 => mlet (v34 + (1 : Int32)) fun x50 => m_X12_plans_97_L167 n36 x49 x50 G47)
def m_X12_plans_97 (F : mmS)  : Option (mmS) :=
  bd1 (m_X12_plans_97_L2 300 (0 : Int32) F) fun G6 => mlet ((G6 97 5) - (1 : Int32)) fun x7 => bd1 (m_X12_plans_97_L38 300 x7 G6) fun G31 => Option.bind (m_X12_begin_97 G31) fun x32 => bd1 (m_X12_plans_97_L167 300 x32 (0 : Int32) G31) fun G51 => some G51
set_option maxHeartbeats 4000000 in
set_option maxRecDepth 100000 in
theorem c_X12_plans_97 {l : Launch} {k : mmK} {F : mmS}  {F1 : mmS} (h : m_X12_plans_97 F = some F1) : mm_T l k yX12_plans cX12_plans 6 none 3 [.ref (mmad k 97)] F none F1 := by
  refine mm_start [(0, .ref (mmad k 97))] (by decide) (Nat.le_of_ble_eq_true rfl) rfl ?_
  intro z hz C
  subst hz
  have C : mm_C z k RX12 cX12_plans 6 none 3 := C
  replace h := mk0 h
  unfold m_X12_plans_97 at h
  refine mm_iconst (v := (0 : Int32)) C dX12_plans_0 (by decide) 1 rfl ?_
  refine mm_istore_n (lv2 := [(1, .int (0 : Int32)), (0, .ref (mmad k 97))]) C dX12_plans_1 rfl (by decide) rfl 2 rfl ?_
  refine mm_lv [1, 0] rfl ?_
  have hL2 : ∀ (K : (mmS) → Option (mmS)) (hK : ∀ (G2 : mmS) , K (G2) = some F1 → mm_AW z k 6 none F1 G2 31 [(0, .ref (mmad k 97))] []) (n3 : Nat) (v1 : Int32) (G2 : mmS) , (m_X12_plans_97_L2 n3 v1 G2).bind K = some F1 → mm_AW z k 6 none F1 G2 2 [(0, .ref (mmad k 97)), (1, .int v1)] [] := by
    intro K hK n3
    induction n3 with
    | zero => intro v1 G2 h; rw [m_X12_plans_97_L2] at h; cases h
    | succ n3 ih =>
      intro v1 G2 h
      rw [m_X12_plans_97_L2] at h
      refine mm_iload_n C dX12_plans_2 rfl 1 rfl 3 rfl ?_
      refine mm_sipush (v := (216 : Int32)) C dX12_plans_3 (by decide) 6 rfl ?_
      refine mm_icmp_ge C dX12_plans_6 31 9 (by decide) rfl (fun hc => ?_) (fun hc => ?_)
      · rw [if_pos hc] at h
        refine mm_lv [0] rfl ?_
        exact hK _ h
      · rw [if_neg hc] at h
        refine mm_aload_n C dX12_plans_9 rfl 0 rfl 10 rfl ?_
        refine mm_get C fl_X12_29_X12 (by decide) (mc_97 k _) rfl dX12_plans_10 13 rfl ?_
        refine mm_sipush (v := (216 : Int32)) C dX12_plans_13 (by decide) 16 rfl ?_
        refine mm_aload_n C dX12_plans_16 rfl 0 rfl 17 rfl ?_
        refine mm_get C fl_X12_77_X12 (by decide) (mc_97 k _) rfl dX12_plans_17 20 rfl ?_
        refine mm_imul C dX12_plans_20 21 rfl ?_
        refine mm_iload_n C dX12_plans_21 rfl 1 rfl 22 rfl ?_
        refine mm_iadd C dX12_plans_22 23 rfl ?_
        refine mm_iconst (v := (0 : Int32)) C dX12_plans_23 (by decide) 24 rfl ?_
        obtain ⟨G4, eG4, h⟩ := mb h
        refine mm_iast C eG4 dX12_plans_24 25 rfl ?_
        obtain ⟨x5, ex5, h⟩ := me h
        refine mm_iinc (v := x5) (lv2 := [(1, .int x5), (0, .ref (mmad k 97))]) C dX12_plans_25 1 rfl (by rw [← ex5]; rfl) (by decide) rfl 28 rfl ?_
        refine mm_goto C dX12_plans_28 2 (by decide) ?_
        refine mm_lv [1, 0] rfl ?_
        exact ih _ _ h
  refine mj1 h (fun (G6 : mmS) => mm_AW z k 6 none F1 G6 31 [(0, .ref (mmad k 97))] []) ?_ ?_
  · intro G6 h
    refine mm_aload_n C dX12_plans_31 rfl 0 rfl 32 rfl ?_
    refine mm_get C fl_X12_77_X12 (by decide) (mc_97 k _) rfl dX12_plans_32 35 rfl ?_
    refine mm_iconst (v := (1 : Int32)) C dX12_plans_35 (by decide) 36 rfl ?_
    refine mm_isub C dX12_plans_36 37 rfl ?_
    obtain ⟨x7, ex7, h⟩ := me h
    refine mm_top ex7 ?_
    refine mm_istore_n (lv2 := [(1, .int x7), (0, .ref (mmad k 97))]) C dX12_plans_37 rfl (by decide) rfl 38 rfl ?_
    refine mm_lv [1, 0] rfl ?_
    have hL38 : ∀ (K : (mmS) → Option (mmS)) (hK : ∀ (G9 : mmS) , K (G9) = some F1 → mm_AW z k 6 none F1 G9 160 [(0, .ref (mmad k 97))] []) (n10 : Nat) (v8 : Int32) (G9 : mmS) , (m_X12_plans_97_L38 n10 v8 G9).bind K = some F1 → mm_AW z k 6 none F1 G9 38 [(0, .ref (mmad k 97)), (1, .int v8)] [] := by
      intro K hK n10
      induction n10 with
      | zero => intro v8 G9 h; rw [m_X12_plans_97_L38] at h; cases h
      | succ n10 ih =>
        intro v8 G9 h
        rw [m_X12_plans_97_L38] at h
        refine mm_iload_n C dX12_plans_38 rfl 1 rfl 39 rfl ?_
        refine mm_if_lt C dX12_plans_39 160 42 (by decide) rfl (fun hc => ?_) (fun hc => ?_)
        · rw [if_pos hc] at h
          refine mm_lv [0] rfl ?_
          exact hK _ h
        · rw [if_neg hc] at h
          refine mm_iconst (v := (0 : Int32)) C dX12_plans_42 (by decide) 43 rfl ?_
          refine mm_istore_n (lv2 := [(2, .int (0 : Int32)), (0, .ref (mmad k 97)), (1, .int v8)]) C dX12_plans_43 rfl (by decide) rfl 44 rfl ?_
          refine mm_lv [1, 2, 0] rfl ?_
          have hL44 : ∀ (K : (mmS) → Option (mmS)) (hK : ∀ (G12 : mmS) , K (G12) = some F1 → mm_AW z k 6 none F1 G12 154 [(0, .ref (mmad k 97)), (1, .int v8)] []) (n13 : Nat) (v11 : Int32) (G12 : mmS) , (m_X12_plans_97_L44 v8 n13 v11 G12).bind K = some F1 → mm_AW z k 6 none F1 G12 44 [(0, .ref (mmad k 97)), (1, .int v8), (2, .int v11)] [] := by
            intro K hK n13
            induction n13 with
            | zero => intro v11 G12 h; rw [m_X12_plans_97_L44] at h; cases h
            | succ n13 ih =>
              intro v11 G12 h
              rw [m_X12_plans_97_L44] at h
              refine mm_iload_n C dX12_plans_44 rfl 2 rfl 45 rfl ?_
              refine mm_sipush (v := (216 : Int32)) C dX12_plans_45 (by decide) 48 rfl ?_
              refine mm_icmp_ge C dX12_plans_48 154 51 (by decide) rfl (fun hc => ?_) (fun hc => ?_)
              · rw [if_pos hc] at h
                refine mm_lv [0, 1] rfl ?_
                exact hK _ h
              · rw [if_neg hc] at h
                refine mm_ldc (v := (1000000000 : Int32)) C dX12_plans_51 mw_1007 53 rfl ?_
                refine mm_istore_n (lv2 := [(3, .int (1000000000 : Int32)), (0, .ref (mmad k 97)), (1, .int v8), (2, .int v11)]) C dX12_plans_53 rfl (by decide) rfl 54 rfl ?_
                refine mm_iconst (v := (0 : Int32)) C dX12_plans_54 (by decide) 55 rfl ?_
                refine mm_istore (lv2 := [(4, .int (0 : Int32)), (3, .int (1000000000 : Int32)), (0, .ref (mmad k 97)), (1, .int v8), (2, .int v11)]) C dX12_plans_55 (by decide) rfl 57 rfl ?_
                refine mm_lv [2, 3, 4, 1, 0] rfl ?_
                have hL57 : ∀ (K : (Int32) → Option (mmS)) (hK : ∀ (v14 : Int32) , K (v14) = some F1 → mm_AW z k 6 none F1 G12 135 [(0, .ref (mmad k 97)), (1, .int v8), (2, .int v11), (3, .int v14)] []) (n16 : Nat) (v14 : Int32) (v15 : Int32) , (m_X12_plans_97_L57 v8 v11 G12 n16 v14 v15).bind K = some F1 → mm_AW z k 6 none F1 G12 57 [(0, .ref (mmad k 97)), (1, .int v8), (2, .int v11), (3, .int v14), (4, .int v15)] [] := by
                  intro K hK n16
                  induction n16 with
                  | zero => intro v14 v15 h; rw [m_X12_plans_97_L57] at h; cases h
                  | succ n16 ih =>
                    intro v14 v15 h
                    rw [m_X12_plans_97_L57] at h
                    refine mm_iload C dX12_plans_57 4 rfl 59 rfl ?_
                    refine mm_aload_n C dX12_plans_59 rfl 0 rfl 60 rfl ?_
                    refine mm_get C fl_X12_17_X12 (by decide) (mc_97 k _) rfl dX12_plans_60 63 rfl ?_
                    refine mm_icmp_ge C dX12_plans_63 135 66 (by decide) rfl (fun hc => ?_) (fun hc => ?_)
                    · rw [if_pos hc] at h
                      refine mm_lv [0, 1, 2, 3] rfl ?_
                      exact hK _ h
                    · rw [if_neg hc] at h
                      refine mm_aload_n C dX12_plans_66 rfl 0 rfl 67 rfl ?_
                      refine mm_iload_n C dX12_plans_67 rfl 2 rfl 68 rfl ?_
                      obtain ⟨x17, ex17, h⟩ := mb h
                      refine mm_callV [.int v11] C (c_X12_isStanding_97 ex17) wb_X12_isStanding wv_X12_99 (by decide) (mc_97 k _) rfl rfl rfl (by omega) rfl (Nat.le_of_ble_eq_true rfl) dX12_plans_68 71 rfl ?_
                      show mm_AW z k 6 none F1 G12 71 [(0, .ref (mmad k 97)), (1, .int v8), (2, .int v11), (3, .int v14), (4, .int v15)] [.int x17]
                      refine mm_if_eq C dX12_plans_71 135 74 (by decide) rfl (fun hc => ?_) (fun hc => ?_)
                      · rw [if_pos hc] at h
                        refine mm_lv [0, 1, 2, 3] rfl ?_
                        exact hK _ h
                      · rw [if_neg hc] at h
                        refine mm_aload_n C dX12_plans_74 rfl 0 rfl 75 rfl ?_
                        refine mm_iload_n C dX12_plans_75 rfl 2 rfl 76 rfl ?_
                        refine mm_iload C dX12_plans_76 4 rfl 78 rfl ?_
                        refine mm_aload_n C dX12_plans_78 rfl 0 rfl 79 rfl ?_
                        refine mm_get C fl_X12_26_X12 (by decide) (mc_97 k _) rfl dX12_plans_79 82 rfl ?_
                        refine mm_iload_n C dX12_plans_82 rfl 1 rfl 83 rfl ?_
                        obtain ⟨x18, ex18, h⟩ := mb h
                        refine mm_iald C ex18 dX12_plans_83 84 rfl ?_
                        obtain ⟨x19, ex19, h⟩ := mb h
                        refine mm_callV [.int v11, .int v15, .int x18] C (c_X12_wayTo_97 ex19) wb_X12_wayTo wv_X12_102 (by decide) (mc_97 k _) rfl rfl rfl (by omega) rfl (Nat.le_of_ble_eq_true rfl) dX12_plans_84 87 rfl ?_
                        show mm_AW z k 6 none F1 G12 87 [(0, .ref (mmad k 97)), (1, .int v8), (2, .int v11), (3, .int v14), (4, .int v15)] [.int x19]
                        refine mm_aload_n C dX12_plans_87 rfl 0 rfl 88 rfl ?_
                        refine mm_get C fl_X12_29_X12 (by decide) (mc_97 k _) rfl dX12_plans_88 91 rfl ?_
                        refine mm_sipush (v := (216 : Int32)) C dX12_plans_91 (by decide) 94 rfl ?_
                        refine mm_iload_n C dX12_plans_94 rfl 1 rfl 95 rfl ?_
                        refine mm_iconst (v := (1 : Int32)) C dX12_plans_95 (by decide) 96 rfl ?_
                        refine mm_iadd C dX12_plans_96 97 rfl ?_
                        refine mm_imul C dX12_plans_97 98 rfl ?_
                        refine mm_aload_n C dX12_plans_98 rfl 0 rfl 99 rfl ?_
                        refine mm_iload_n C dX12_plans_99 rfl 2 rfl 100 rfl ?_
                        refine mm_iload C dX12_plans_100 4 rfl 102 rfl ?_
                        refine mm_aload_n C dX12_plans_102 rfl 0 rfl 103 rfl ?_
                        refine mm_get C fl_X12_26_X12 (by decide) (mc_97 k _) rfl dX12_plans_103 106 rfl ?_
                        refine mm_iload_n C dX12_plans_106 rfl 1 rfl 107 rfl ?_
                        obtain ⟨x20, ex20, h⟩ := mb h
                        refine mm_iald C ex20 dX12_plans_107 108 rfl ?_
                        obtain ⟨x21, ex21, h⟩ := mb h
                        refine mm_callV [.int v11, .int v15, .int x20] C (c_X12_with_97 ex21) wb_X12_with wv_X12_91 (by decide) (mc_97 k _) rfl rfl rfl (by omega) rfl (Nat.le_of_ble_eq_true rfl) dX12_plans_108 111 rfl ?_
                        show mm_AW z k 6 none F1 G12 111 [(0, .ref (mmad k 97)), (1, .int v8), (2, .int v11), (3, .int v14), (4, .int v15)] [.int x21, .int ((216 : Int32) * (v8 + (1 : Int32))), .ref (mmad k 101), .int x19]
                        refine mm_iadd C dX12_plans_111 112 rfl ?_
                        obtain ⟨x22, ex22, h⟩ := mb h
                        refine mm_iald C ex22 dX12_plans_112 113 rfl ?_
                        refine mm_iadd C dX12_plans_113 114 rfl ?_
                        obtain ⟨x23, ex23, h⟩ := me h
                        refine mm_top ex23 ?_
                        refine mm_istore (lv2 := [(5, .int x23), (0, .ref (mmad k 97)), (1, .int v8), (2, .int v11), (3, .int v14), (4, .int v15)]) C dX12_plans_114 (by decide) rfl 116 rfl ?_
                        refine mm_iload C dX12_plans_116 0 rfl 118 rfl ?_
                        refine mm_iload_n C dX12_plans_118 rfl 4 rfl 119 rfl ?_
                        refine mj1 h (fun (y24 : Int32) => mm_AW z k 6 none F1 G12 128 [(0, .ref (mmad k 97)), (1, .int v8), (2, .int v11), (4, .int v15)] [.int y24]) ?_ ?_
                        · intro y24 h
                          refine mm_istore_n (lv2 := [(3, .int y24), (0, .ref (mmad k 97)), (1, .int v8), (2, .int v11), (4, .int v15)]) C dX12_plans_128 rfl (by decide) rfl 129 rfl ?_
                          obtain ⟨x25, ex25, h⟩ := me h
                          refine mm_iinc (v := x25) (lv2 := [(4, .int x25), (3, .int y24), (0, .ref (mmad k 97)), (1, .int v8), (2, .int v11)]) C dX12_plans_129 4 rfl (by rw [← ex25]; rfl) (by decide) rfl 132 rfl ?_
                          refine mm_goto C dX12_plans_132 57 (by decide) ?_
                          refine mm_lv [2, 3, 4, 1, 0] rfl ?_
                          exact ih _ _ h
                        · intro K2 hR128 h
                          refine mm_icmp_ge C dX12_plans_119 127 122 (by decide) rfl (fun hc => ?_) (fun hc => ?_)
                          · rw [if_pos hc] at h
                            refine mm_iload_n C dX12_plans_127 rfl 4 rfl 128 rfl ?_
                            refine mm_lv [1, 2, 3, 5] rfl ?_
                            exact hR128 _ h
                          · rw [if_neg hc] at h
                            refine mm_iload C dX12_plans_122 0 rfl 124 rfl ?_
                            refine mm_goto C dX12_plans_124 128 (by decide) ?_
                            refine mm_lv [1, 2, 3, 5] rfl ?_
                            exact hR128 _ h
                refine mj1 h (fun (y26 : Int32) => mm_AW z k 6 none F1 G12 135 [(0, .ref (mmad k 97)), (1, .int v8), (2, .int v11), (3, .int y26)] []) ?_ ?_
                · intro y26 h
                  refine mm_aload_n C dX12_plans_135 rfl 0 rfl 136 rfl ?_
                  refine mm_get C fl_X12_29_X12 (by decide) (mc_97 k _) rfl dX12_plans_136 139 rfl ?_
                  refine mm_sipush (v := (216 : Int32)) C dX12_plans_139 (by decide) 142 rfl ?_
                  refine mm_iload_n C dX12_plans_142 rfl 1 rfl 143 rfl ?_
                  refine mm_imul C dX12_plans_143 144 rfl ?_
                  refine mm_iload_n C dX12_plans_144 rfl 2 rfl 145 rfl ?_
                  refine mm_iadd C dX12_plans_145 146 rfl ?_
                  refine mm_iload_n C dX12_plans_146 rfl 3 rfl 147 rfl ?_
                  obtain ⟨G27, eG27, h⟩ := mb h
                  refine mm_iast C eG27 dX12_plans_147 148 rfl ?_
                  obtain ⟨x28, ex28, h⟩ := me h
                  refine mm_iinc (v := x28) (lv2 := [(2, .int x28), (0, .ref (mmad k 97)), (1, .int v8), (3, .int y26)]) C dX12_plans_148 2 rfl (by rw [← ex28]; rfl) (by decide) rfl 151 rfl ?_
                  refine mm_goto C dX12_plans_151 44 (by decide) ?_
                  refine mm_lv [1, 2, 0] rfl ?_
                  exact ih _ _ h
                · intro K2 hR h
                  exact hL57 K2 hR 300 _ _ h
          refine mj1 h (fun (G29 : mmS) => mm_AW z k 6 none F1 G29 154 [(0, .ref (mmad k 97)), (1, .int v8)] []) ?_ ?_
          · intro G29 h
            obtain ⟨x30, ex30, h⟩ := me h
            refine mm_iinc (v := x30) (lv2 := [(1, .int x30), (0, .ref (mmad k 97))]) C dX12_plans_154 1 rfl (by rw [← ex30]; rfl) (by decide) rfl 157 rfl ?_
            refine mm_goto C dX12_plans_157 38 (by decide) ?_
            refine mm_lv [1, 0] rfl ?_
            exact ih _ _ h
          · intro K2 hR h
            exact hL44 K2 hR 300 _ _ h
    refine mj1 h (fun (G31 : mmS) => mm_AW z k 6 none F1 G31 160 [(0, .ref (mmad k 97))] []) ?_ ?_
    · intro G31 h
      refine mm_aload_n C dX12_plans_160 rfl 0 rfl 161 rfl ?_
      obtain ⟨x32, ex32, h⟩ := mb h
      refine mm_callV [] C (c_X12_begin_97 ex32) wb_X12_begin wv_X12_105 (by decide) (mc_97 k _) rfl rfl rfl (by omega) rfl (Nat.le_of_ble_eq_true rfl) dX12_plans_161 164 rfl ?_
      show mm_AW z k 6 none F1 G31 164 [(0, .ref (mmad k 97))] [.int x32]
      refine mm_istore_n (lv2 := [(1, .int x32), (0, .ref (mmad k 97))]) C dX12_plans_164 rfl (by decide) rfl 165 rfl ?_
      refine mm_iconst (v := (0 : Int32)) C dX12_plans_165 (by decide) 166 rfl ?_
      refine mm_istore_n (lv2 := [(2, .int (0 : Int32)), (1, .int x32), (0, .ref (mmad k 97))]) C dX12_plans_166 rfl (by decide) rfl 167 rfl ?_
      refine mm_lv [2, 1, 0] rfl ?_
      have hL167 : ∀ (K : (mmS) → Option (mmS)) (hK : ∀ (G35 : mmS) , K (G35) = some F1 → mm_AW z k 6 none F1 G35 262 [] []) (n36 : Nat) (v33 : Int32) (v34 : Int32) (G35 : mmS) , (m_X12_plans_97_L167 n36 v33 v34 G35).bind K = some F1 → mm_AW z k 6 none F1 G35 167 [(0, .ref (mmad k 97)), (1, .int v33), (2, .int v34)] [] := by
        intro K hK n36
        induction n36 with
        | zero => intro v33 v34 G35 h; rw [m_X12_plans_97_L167] at h; cases h
        | succ n36 ih =>
          intro v33 v34 G35 h
          rw [m_X12_plans_97_L167] at h
          refine mm_iload_n C dX12_plans_167 rfl 2 rfl 168 rfl ?_
          refine mm_aload_n C dX12_plans_168 rfl 0 rfl 169 rfl ?_
          refine mm_get C fl_X12_77_X12 (by decide) (mc_97 k _) rfl dX12_plans_169 172 rfl ?_
          refine mm_icmp_ge C dX12_plans_172 262 175 (by decide) rfl (fun hc => ?_) (fun hc => ?_)
          · rw [if_pos hc] at h
            refine mm_lv [] rfl ?_
            exact hK _ h
          · rw [if_neg hc] at h
            refine mm_iconst (v := (0 : Int32)) C dX12_plans_175 (by decide) 176 rfl ?_
            refine mm_istore_n (lv2 := [(3, .int (0 : Int32)), (0, .ref (mmad k 97)), (1, .int v33), (2, .int v34)]) C dX12_plans_176 rfl (by decide) rfl 177 rfl ?_
            refine mm_lv [1, 2, 3, 0] rfl ?_
            have hL177 : ∀ (K : (Int32) → Option (mmS)) (hK : ∀ (v37 : Int32) , K (v37) = some F1 → mm_AW z k 6 none F1 G35 236 [(0, .ref (mmad k 97)), (1, .int v33), (2, .int v34), (3, .int v37)] []) (n38 : Nat) (v37 : Int32) , (m_X12_plans_97_L177 v33 v34 G35 n38 v37).bind K = some F1 → mm_AW z k 6 none F1 G35 177 [(0, .ref (mmad k 97)), (1, .int v33), (2, .int v34), (3, .int v37)] [] := by
              intro K hK n38
              induction n38 with
              | zero => intro v37 h; rw [m_X12_plans_97_L177] at h; cases h
              | succ n38 ih =>
                intro v37 h
                rw [m_X12_plans_97_L177] at h
                refine mm_aload_n C dX12_plans_177 rfl 0 rfl 178 rfl ?_
                refine mm_iload_n C dX12_plans_178 rfl 1 rfl 179 rfl ?_
                refine mm_iload_n C dX12_plans_179 rfl 3 rfl 180 rfl ?_
                refine mm_aload_n C dX12_plans_180 rfl 0 rfl 181 rfl ?_
                refine mm_get C fl_X12_26_X12 (by decide) (mc_97 k _) rfl dX12_plans_181 184 rfl ?_
                refine mm_iload_n C dX12_plans_184 rfl 2 rfl 185 rfl ?_
                obtain ⟨x39, ex39, h⟩ := mb h
                refine mm_iald C ex39 dX12_plans_185 186 rfl ?_
                obtain ⟨x40, ex40, h⟩ := mb h
                refine mm_callV [.int v33, .int v37, .int x39] C (c_X12_wayTo_97 ex40) wb_X12_wayTo wv_X12_102 (by decide) (mc_97 k _) rfl rfl rfl (by omega) rfl (Nat.le_of_ble_eq_true rfl) dX12_plans_186 189 rfl ?_
                show mm_AW z k 6 none F1 G35 189 [(0, .ref (mmad k 97)), (1, .int v33), (2, .int v34), (3, .int v37)] [.int x40]
                refine mm_aload_n C dX12_plans_189 rfl 0 rfl 190 rfl ?_
                refine mm_get C fl_X12_29_X12 (by decide) (mc_97 k _) rfl dX12_plans_190 193 rfl ?_
                refine mm_sipush (v := (216 : Int32)) C dX12_plans_193 (by decide) 196 rfl ?_
                refine mm_iload_n C dX12_plans_196 rfl 2 rfl 197 rfl ?_
                refine mm_iconst (v := (1 : Int32)) C dX12_plans_197 (by decide) 198 rfl ?_
                refine mm_iadd C dX12_plans_198 199 rfl ?_
                refine mm_imul C dX12_plans_199 200 rfl ?_
                refine mm_aload_n C dX12_plans_200 rfl 0 rfl 201 rfl ?_
                refine mm_iload_n C dX12_plans_201 rfl 1 rfl 202 rfl ?_
                refine mm_iload_n C dX12_plans_202 rfl 3 rfl 203 rfl ?_
                refine mm_aload_n C dX12_plans_203 rfl 0 rfl 204 rfl ?_
                refine mm_get C fl_X12_26_X12 (by decide) (mc_97 k _) rfl dX12_plans_204 207 rfl ?_
                refine mm_iload_n C dX12_plans_207 rfl 2 rfl 208 rfl ?_
                obtain ⟨x41, ex41, h⟩ := mb h
                refine mm_iald C ex41 dX12_plans_208 209 rfl ?_
                obtain ⟨x42, ex42, h⟩ := mb h
                refine mm_callV [.int v33, .int v37, .int x41] C (c_X12_with_97 ex42) wb_X12_with wv_X12_91 (by decide) (mc_97 k _) rfl rfl rfl (by omega) rfl (Nat.le_of_ble_eq_true rfl) dX12_plans_209 212 rfl ?_
                show mm_AW z k 6 none F1 G35 212 [(0, .ref (mmad k 97)), (1, .int v33), (2, .int v34), (3, .int v37)] [.int x42, .int ((216 : Int32) * (v34 + (1 : Int32))), .ref (mmad k 101), .int x40]
                refine mm_iadd C dX12_plans_212 213 rfl ?_
                obtain ⟨x43, ex43, h⟩ := mb h
                refine mm_iald C ex43 dX12_plans_213 214 rfl ?_
                refine mm_iadd C dX12_plans_214 215 rfl ?_
                refine mm_aload_n C dX12_plans_215 rfl 0 rfl 216 rfl ?_
                refine mm_get C fl_X12_29_X12 (by decide) (mc_97 k _) rfl dX12_plans_216 219 rfl ?_
                refine mm_sipush (v := (216 : Int32)) C dX12_plans_219 (by decide) 222 rfl ?_
                refine mm_iload_n C dX12_plans_222 rfl 2 rfl 223 rfl ?_
                refine mm_imul C dX12_plans_223 224 rfl ?_
                refine mm_iload_n C dX12_plans_224 rfl 1 rfl 225 rfl ?_
                refine mm_iadd C dX12_plans_225 226 rfl ?_
                obtain ⟨x44, ex44, h⟩ := mb h
                refine mm_iald C ex44 dX12_plans_226 227 rfl ?_
                refine mm_icmp_eq C dX12_plans_227 236 230 (by decide) rfl (fun hc => ?_) (fun hc => ?_)
                · rw [if_pos hc] at h
                  exact hK _ h
                · rw [if_neg hc] at h
                  obtain ⟨x45, ex45, h⟩ := me h
                  refine mm_iinc (v := x45) (lv2 := [(3, .int x45), (0, .ref (mmad k 97)), (1, .int v33), (2, .int v34)]) C dX12_plans_230 3 rfl (by rw [← ex45]; rfl) (by decide) rfl 233 rfl ?_
                  refine mm_goto C dX12_plans_233 177 (by decide) ?_
                  refine mm_lv [1, 2, 3, 0] rfl ?_
                  exact ih _ h
            refine mj1 h (fun (y46 : Int32) => mm_AW z k 6 none F1 G35 236 [(0, .ref (mmad k 97)), (1, .int v33), (2, .int v34), (3, .int y46)] []) ?_ ?_
            · intro y46 h
              refine mm_aload_n C dX12_plans_236 rfl 0 rfl 237 rfl ?_
              refine mm_get C fl_X12_32_X12 (by decide) (mc_97 k _) rfl dX12_plans_237 240 rfl ?_
              refine mm_iload_n C dX12_plans_240 rfl 2 rfl 241 rfl ?_
              refine mm_iload_n C dX12_plans_241 rfl 3 rfl 242 rfl ?_
              obtain ⟨G47, eG47, h⟩ := mb h
              refine mm_iast C eG47 dX12_plans_242 243 rfl ?_
              refine mm_aload_n C dX12_plans_243 rfl 0 rfl 244 rfl ?_
              refine mm_iload_n C dX12_plans_244 rfl 1 rfl 245 rfl ?_
              refine mm_iload_n C dX12_plans_245 rfl 3 rfl 246 rfl ?_
              refine mm_aload_n C dX12_plans_246 rfl 0 rfl 247 rfl ?_
              refine mm_get C fl_X12_26_X12 (by decide) (mc_97 k _) rfl dX12_plans_247 250 rfl ?_
              refine mm_iload_n C dX12_plans_250 rfl 2 rfl 251 rfl ?_
              obtain ⟨x48, ex48, h⟩ := mb h
              refine mm_iald C ex48 dX12_plans_251 252 rfl ?_
              obtain ⟨x49, ex49, h⟩ := mb h
              refine mm_callV [.int v33, .int y46, .int x48] C (c_X12_with_97 ex49) wb_X12_with wv_X12_91 (by decide) (mc_97 k _) rfl rfl rfl (by omega) rfl (Nat.le_of_ble_eq_true rfl) dX12_plans_252 255 rfl ?_
              show mm_AW z k 6 none F1 G47 255 [(0, .ref (mmad k 97)), (1, .int v33), (2, .int v34), (3, .int y46)] [.int x49]
              refine mm_istore_n (lv2 := [(1, .int x49), (0, .ref (mmad k 97)), (2, .int v34), (3, .int y46)]) C dX12_plans_255 rfl (by decide) rfl 256 rfl ?_
              obtain ⟨x50, ex50, h⟩ := me h
              refine mm_iinc (v := x50) (lv2 := [(2, .int x50), (1, .int x49), (0, .ref (mmad k 97)), (3, .int y46)]) C dX12_plans_256 2 rfl (by rw [← ex50]; rfl) (by decide) rfl 259 rfl ?_
              refine mm_goto C dX12_plans_259 167 (by decide) ?_
              refine mm_lv [2, 1, 0] rfl ?_
              exact ih _ _ _ h
            · intro K2 hR h
              exact hL177 K2 hR 300 _ h
      refine mj1 h (fun (G51 : mmS) => mm_AW z k 6 none F1 G51 262 [] []) ?_ ?_
      · intro G51 h
        exact mm_vretW C (h) dX12_plans_262
      · intro K2 hR h
        exact hL167 K2 hR 300 _ _ _ h
    · intro K2 hR h
      exact hL38 K2 hR 300 _ _ h
  · intro K2 hR h
    exact hL2 K2 hR 300 _ _ h
