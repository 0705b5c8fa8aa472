def m_X7_send_32 (F : mmS) (a1 : Int32) (a2 : Int32) : Option (mmS) :=
  Option.bind (ald F 33 a1) fun x1 => mlet (stF F 32 2 ((F 32 2) + (mabs (x1 - a2)))) fun G2 => Option.bind (ast G2 33 a1 a2) fun G3 => mlet (stF G3 32 3 a1) fun G4 => some G4
set_option maxHeartbeats 4000000 in
set_option maxRecDepth 100000 in
theorem c_X7_send_32 {l : Launch} {k : mmK} {F : mmS} {a1 : Int32} {a2 : Int32} {F1 : mmS} (h : m_X7_send_32 F a1 a2 = some F1) : mm_T l k yX7_send cX7_send 3 none 1 [.ref (mmad k 32), .int a1, .int a2] F none F1 := by
  refine mm_start [(0, .ref (mmad k 32)), (1, .int a1), (2, .int a2)] (by decide) (Nat.le_of_ble_eq_true rfl) rfl ?_
  intro z hz C
  subst hz
  have C : mm_C z k RX7 cX7_send 3 none 1 := C
  replace h := mk0 h
  unfold m_X7_send_32 at h
  refine mm_aload_n C dX7_send_0 rfl 0 rfl 1 rfl ?_
  refine mm_dup C dX7_send_1 rfl 2 rfl ?_
  refine mm_get C fl_X7_34_X1 (by decide) (mc_32 k _) rfl dX7_send_2 5 rfl ?_
  refine mm_aload_n C dX7_send_5 rfl 0 rfl 6 rfl ?_
  refine mm_get C fl_X7_9_X1 (by decide) (mc_32 k _) rfl dX7_send_6 9 rfl ?_
  refine mm_iload_n C dX7_send_9 rfl 1 rfl 10 rfl ?_
  obtain ⟨x1, ex1, h⟩ := mb h
  refine mm_iald C ex1 dX7_send_10 11 rfl ?_
  refine mm_iload_n C dX7_send_11 rfl 2 rfl 12 rfl ?_
  refine mm_isub C dX7_send_12 13 rfl ?_
  refine mm_abs C mw_599 mw_552 mw_62 mw_553 (by omega) (Nat.le_trans (Nat.le_of_ble_eq_true rfl : _ ≤ 40) (by omega)) dX7_send_13 16 rfl ?_
  refine mm_iadd C dX7_send_16 17 rfl ?_
  obtain ⟨G2, eG2, h⟩ := me h
  refine mm_put (x := ((F 32 2) + (mabs (x1 - a2)))) (ty := .int) C fl_X7_34_X1 (by decide) (mc_32 k _) (mc_32 k _) tyX1 tyX1_ok nmX1 rfl (by decide +kernel) rfl rfl (Nat.le_of_ble_eq_true rfl) eG2 dX7_send_17 20 rfl ?_
  refine mm_aload_n C dX7_send_20 rfl 0 rfl 21 rfl ?_
  refine mm_get C fl_X7_9_X1 (by decide) (mc_32 k _) rfl dX7_send_21 24 rfl ?_
  refine mm_iload_n C dX7_send_24 rfl 1 rfl 25 rfl ?_
  refine mm_iload_n C dX7_send_25 rfl 2 rfl 26 rfl ?_
  obtain ⟨G3, eG3, h⟩ := mb h
  refine mm_iast C eG3 dX7_send_26 27 rfl ?_
  refine mm_aload_n C dX7_send_27 rfl 0 rfl 28 rfl ?_
  refine mm_iload_n C dX7_send_28 rfl 1 rfl 29 rfl ?_
  obtain ⟨G4, eG4, h⟩ := me h
  refine mm_put (x := a1) (ty := .int) C fl_X7_15_X1 (by decide) (mc_32 k _) (mc_32 k _) tyX1 tyX1_ok nmX1 rfl (by decide +kernel) rfl rfl (Nat.le_of_ble_eq_true rfl) eG4 dX7_send_29 32 rfl ?_
  exact mm_vretW C (h) dX7_send_32
def m_X1_meet_32 (F : mmS) (a1 : Int32) (a2 : Int32) : Option (mmS) :=
  Option.bind (ald F 2 a1) fun x1 => Option.bind (m_X1_isServed_32 F x1) fun x2 => if x2 = (0 : Int32) then (Option.bind (m_X1_nearestBelow_32 F x1) fun x3 => Option.bind (m_X1_nearestAbove_32 F x1) fun x4 => if x3 = (-1 : Int32) then (if x3 = (-1 : Int32) then (if x4 = (-1 : Int32) then (some F) else (Option.bind (m_X7_send_32 F x4 x1) fun G5 => some G5)) else (Option.bind (m_X7_send_32 F x3 x1) fun G6 => some G6)) else (if x4 = (-1 : Int32) then (if x3 = (-1 : Int32) then (if x4 = (-1 : Int32) then (some F) else (Option.bind (m_X7_send_32 F x4 x1) fun G7 => some G7)) else (Option.bind (m_X7_send_32 F x3 x1) fun G8 => some G8)) else (Option.bind (ald F 33 x3) fun x9 => Option.bind (ald F 33 x4) fun x10 => mlet (mmin (x1 - x9) (x10 - x1)) fun x11 => Option.bind (ald F 33 x3) fun x12 => Option.bind (m_X7_send_32 F x3 (x12 + x11)) fun G13 => Option.bind (ald G13 33 x4) fun x14 => Option.bind (m_X7_send_32 G13 x4 (x14 - x11)) fun G15 => some G15))) else (mlet (stF F 32 3 (-1 : Int32)) fun G16 => some G16)
set_option maxHeartbeats 4000000 in
set_option maxRecDepth 100000 in
theorem c_X1_meet_32 {l : Launch} {k : mmK} {F : mmS} {a1 : Int32} {a2 : Int32} {F1 : mmS} (h : m_X1_meet_32 F a1 a2 = some F1) : mm_T l k yX1_meet cX1_meet 7 none 2 [.ref (mmad k 32), .int a1, .int a2] F none F1 := by
  refine mm_start [(0, .ref (mmad k 32)), (1, .int a1), (2, .int a2)] (by decide) (Nat.le_of_ble_eq_true rfl) rfl ?_
  intro z hz C
  subst hz
  have C : mm_C z k RX1 cX1_meet 7 none 2 := C
  replace h := mk0 h
  unfold m_X1_meet_32 at h
  refine mm_aload_n C dX1_meet_0 rfl 0 rfl 1 rfl ?_
  refine mm_get C fl_X1_9_X1 (by decide) (mc_32 k _) rfl dX1_meet_1 4 rfl ?_
  refine mm_get C fl_X1_15_X3 (by decide) (mc_1 k _) rfl dX1_meet_4 7 rfl ?_
  refine mm_iload_n C dX1_meet_7 rfl 1 rfl 8 rfl ?_
  obtain ⟨x1, ex1, h⟩ := mb h
  refine mm_iald C ex1 dX1_meet_8 9 rfl ?_
  refine mm_istore_n (lv2 := [(3, .int x1), (0, .ref (mmad k 32)), (1, .int a1), (2, .int a2)]) C dX1_meet_9 rfl (by decide) rfl 10 rfl ?_
  refine mm_aload_n C dX1_meet_10 rfl 1 rfl 11 rfl ?_
  refine mm_iload_n C dX1_meet_11 rfl 0 rfl 12 rfl ?_
  obtain ⟨x2, ex2, h⟩ := mb h
  refine mm_callV [.int x1] C (c_X1_isServed_32 ex2) wb_X1_isServed wv_X1_21 (by decide) (mc_32 k _) rfl rfl rfl (by omega) rfl (Nat.le_of_ble_eq_true rfl) dX1_meet_12 15 rfl ?_
  show mm_AW z k 7 none F1 F 15 [(3, .int x1), (0, .ref (mmad k 32)), (1, .int a1), (2, .int a2)] [.int x2]
  refine mm_if_eq C dX1_meet_15 24 18 (by decide) rfl (fun hc => ?_) (fun hc => ?_)
  · rw [if_pos hc] at h
    refine mm_aload_n C dX1_meet_24 rfl 1 rfl 25 rfl ?_
    refine mm_iload_n C dX1_meet_25 rfl 0 rfl 26 rfl ?_
    obtain ⟨x3, ex3, h⟩ := mb h
    refine mm_callV [.int x1] C (c_X1_nearestBelow_32 ex3) wb_X1_nearestBelow wv_X1_29 (by decide) (mc_32 k _) rfl rfl rfl (by omega) rfl (Nat.le_of_ble_eq_true rfl) dX1_meet_26 29 rfl ?_
    show mm_AW z k 7 none F1 F 29 [(3, .int x1), (0, .ref (mmad k 32)), (1, .int a1), (2, .int a2)] [.int x3]
    refine mm_istore (lv2 := [(4, .int x3), (3, .int x1), (0, .ref (mmad k 32)), (1, .int a1), (2, .int a2)]) C dX1_meet_29 (by decide) rfl 31 rfl ?_
    refine mm_aload_n C dX1_meet_31 rfl 2 rfl 32 rfl ?_
    refine mm_iload_n C dX1_meet_32 rfl 1 rfl 33 rfl ?_
    obtain ⟨x4, ex4, h⟩ := mb h
    refine mm_callV [.int x1] C (c_X1_nearestAbove_32 ex4) wb_X1_nearestAbove wv_X1_33 (by decide) (mc_32 k _) rfl rfl rfl (by omega) rfl (Nat.le_of_ble_eq_true rfl) dX1_meet_33 36 rfl ?_
    show mm_AW z k 7 none F1 F 36 [(4, .int x3), (3, .int x1), (0, .ref (mmad k 32)), (1, .int a1), (2, .int a2)] [.int x4]
    refine mm_istore (lv2 := [(5, .int x4), (4, .int x3), (3, .int x1), (0, .ref (mmad k 32)), (1, .int a1), (2, .int a2)]) C dX1_meet_36 (by decide) rfl 38 rfl ?_
    refine mm_iload C dX1_meet_38 1 rfl 40 rfl ?_
    refine mm_iconst (v := (-1 : Int32)) C dX1_meet_40 (by decide) 41 rfl ?_
    refine mm_icmp_eq C dX1_meet_41 108 44 (by decide) rfl (fun hc => ?_) (fun hc => ?_)
    · rw [if_pos hc] at h
      refine mm_iload C dX1_meet_108 1 rfl 110 rfl ?_
      refine mm_iconst (v := (-1 : Int32)) C dX1_meet_110 (by decide) 111 rfl ?_
      refine mm_icmp_eq C dX1_meet_111 124 114 (by decide) rfl (fun hc => ?_) (fun hc => ?_)
      · rw [if_pos hc] at h
        refine mm_iload C dX1_meet_124 0 rfl 126 rfl ?_
        refine mm_iconst (v := (-1 : Int32)) C dX1_meet_126 (by decide) 127 rfl ?_
        refine mm_icmp_eq C dX1_meet_127 137 130 (by decide) rfl (fun hc => ?_) (fun hc => ?_)
        · rw [if_pos hc] at h
          exact mm_vretW C (h) dX1_meet_137
        · rw [if_neg hc] at h
          refine mm_aload_n C dX1_meet_130 rfl 3 rfl 131 rfl ?_
          refine mm_iload C dX1_meet_131 0 rfl 133 rfl ?_
          refine mm_iload_n C dX1_meet_133 rfl 2 rfl 134 rfl ?_
          obtain ⟨G5, eG5, h⟩ := mb h
          refine mm_callU [.int x4, .int x1] C (c_X7_send_32 eG5) wb_X7_send wu_X1_45_X1 (fun s hN => hN.2.2.2.1) (by decide) (mc_32 k _) rfl rfl (by omega) rfl (Nat.le_of_ble_eq_true rfl) dX1_meet_134 137 rfl ?_
          show mm_AW z k 7 none F1 G5 137 [(5, .int x4), (4, .int x3), (3, .int x1), (0, .ref (mmad k 32)), (1, .int a1), (2, .int a2)] []
          exact mm_vretW C (h) dX1_meet_137
      · rw [if_neg hc] at h
        refine mm_aload_n C dX1_meet_114 rfl 3 rfl 115 rfl ?_
        refine mm_iload C dX1_meet_115 1 rfl 117 rfl ?_
        refine mm_iload_n C dX1_meet_117 rfl 2 rfl 118 rfl ?_
        obtain ⟨G6, eG6, h⟩ := mb h
        refine mm_callU [.int x3, .int x1] C (c_X7_send_32 eG6) wb_X7_send wu_X1_45_X1 (fun s hN => hN.2.2.2.1) (by decide) (mc_32 k _) rfl rfl (by omega) rfl (Nat.le_of_ble_eq_true rfl) dX1_meet_118 121 rfl ?_
        show mm_AW z k 7 none F1 G6 121 [(5, .int x4), (4, .int x3), (3, .int x1), (0, .ref (mmad k 32)), (1, .int a1), (2, .int a2)] []
        refine mm_goto C dX1_meet_121 137 (by decide) ?_
        exact mm_vretW C (h) dX1_meet_137
    · rw [if_neg hc] at h
      refine mm_iload C dX1_meet_44 0 rfl 46 rfl ?_
      refine mm_iconst (v := (-1 : Int32)) C dX1_meet_46 (by decide) 47 rfl ?_
      refine mm_icmp_eq C dX1_meet_47 108 50 (by decide) rfl (fun hc => ?_) (fun hc => ?_)
      · rw [if_pos hc] at h
        refine mm_iload C dX1_meet_108 1 rfl 110 rfl ?_
        refine mm_iconst (v := (-1 : Int32)) C dX1_meet_110 (by decide) 111 rfl ?_
        refine mm_icmp_eq C dX1_meet_111 124 114 (by decide) rfl (fun hc => ?_) (fun hc => ?_)
        · rw [if_pos hc] at h
          refine mm_iload C dX1_meet_124 0 rfl 126 rfl ?_
          refine mm_iconst (v := (-1 : Int32)) C dX1_meet_126 (by decide) 127 rfl ?_
          refine mm_icmp_eq C dX1_meet_127 137 130 (by decide) rfl (fun hc => ?_) (fun hc => ?_)
          · rw [if_pos hc] at h
            exact mm_vretW C (h) dX1_meet_137
          · rw [if_neg hc] at h
            refine mm_aload_n C dX1_meet_130 rfl 3 rfl 131 rfl ?_
            refine mm_iload C dX1_meet_131 0 rfl 133 rfl ?_
            refine mm_iload_n C dX1_meet_133 rfl 2 rfl 134 rfl ?_
            obtain ⟨G7, eG7, h⟩ := mb h
            refine mm_callU [.int x4, .int x1] C (c_X7_send_32 eG7) wb_X7_send wu_X1_45_X1 (fun s hN => hN.2.2.2.1) (by decide) (mc_32 k _) rfl rfl (by omega) rfl (Nat.le_of_ble_eq_true rfl) dX1_meet_134 137 rfl ?_
            show mm_AW z k 7 none F1 G7 137 [(5, .int x4), (4, .int x3), (3, .int x1), (0, .ref (mmad k 32)), (1, .int a1), (2, .int a2)] []
            exact mm_vretW C (h) dX1_meet_137
        · rw [if_neg hc] at h
          refine mm_aload_n C dX1_meet_114 rfl 3 rfl 115 rfl ?_
          refine mm_iload C dX1_meet_115 1 rfl 117 rfl ?_
          refine mm_iload_n C dX1_meet_117 rfl 2 rfl 118 rfl ?_
          obtain ⟨G8, eG8, h⟩ := mb h
          refine mm_callU [.int x3, .int x1] C (c_X7_send_32 eG8) wb_X7_send wu_X1_45_X1 (fun s hN => hN.2.2.2.1) (by decide) (mc_32 k _) rfl rfl (by omega) rfl (Nat.le_of_ble_eq_true rfl) dX1_meet_118 121 rfl ?_
          show mm_AW z k 7 none F1 G8 121 [(5, .int x4), (4, .int x3), (3, .int x1), (0, .ref (mmad k 32)), (1, .int a1), (2, .int a2)] []
          refine mm_goto C dX1_meet_121 137 (by decide) ?_
          exact mm_vretW C (h) dX1_meet_137
      · rw [if_neg hc] at h
        refine mm_iload_n C dX1_meet_50 rfl 2 rfl 51 rfl ?_
        refine mm_aload_n C dX1_meet_51 rfl 3 rfl 52 rfl ?_
        refine mm_get C fl_X1_36_X1 (by decide) (mc_32 k _) rfl dX1_meet_52 55 rfl ?_
        refine mm_iload C dX1_meet_55 1 rfl 57 rfl ?_
        obtain ⟨x9, ex9, h⟩ := mb h
        refine mm_iald C ex9 dX1_meet_57 58 rfl ?_
        refine mm_isub C dX1_meet_58 59 rfl ?_
        refine mm_aload_n C dX1_meet_59 rfl 3 rfl 60 rfl ?_
        refine mm_get C fl_X1_36_X1 (by decide) (mc_32 k _) rfl dX1_meet_60 63 rfl ?_
        refine mm_iload C dX1_meet_63 0 rfl 65 rfl ?_
        obtain ⟨x10, ex10, h⟩ := mb h
        refine mm_iald C ex10 dX1_meet_65 66 rfl ?_
        refine mm_iload_n C dX1_meet_66 rfl 2 rfl 67 rfl ?_
        refine mm_isub C dX1_meet_67 68 rfl ?_
        refine mm_min C mw_615 mw_517 mw_62 mw_518 (by omega) (Nat.le_trans (Nat.le_of_ble_eq_true rfl : _ ≤ 40) (by omega)) dX1_meet_68 71 rfl ?_
        obtain ⟨x11, ex11, h⟩ := me h
        refine mm_top ex11 ?_
        refine mm_istore (lv2 := [(6, .int x11), (5, .int x4), (4, .int x3), (3, .int x1), (0, .ref (mmad k 32)), (1, .int a1), (2, .int a2)]) C dX1_meet_71 (by decide) rfl 73 rfl ?_
        refine mm_aload_n C dX1_meet_73 rfl 4 rfl 74 rfl ?_
        refine mm_iload C dX1_meet_74 2 rfl 76 rfl ?_
        refine mm_aload_n C dX1_meet_76 rfl 4 rfl 77 rfl ?_
        refine mm_get C fl_X1_36_X1 (by decide) (mc_32 k _) rfl dX1_meet_77 80 rfl ?_
        refine mm_iload C dX1_meet_80 2 rfl 82 rfl ?_
        obtain ⟨x12, ex12, h⟩ := mb h
        refine mm_iald C ex12 dX1_meet_82 83 rfl ?_
        refine mm_iload C dX1_meet_83 0 rfl 85 rfl ?_
        refine mm_iadd C dX1_meet_85 86 rfl ?_
        obtain ⟨G13, eG13, h⟩ := mb h
        refine mm_callU [.int x3, .int (x12 + x11)] C (c_X7_send_32 eG13) wb_X7_send wu_X1_45_X1 (fun s hN => hN.2.2.2.1) (by decide) (mc_32 k _) rfl rfl (by omega) rfl (Nat.le_of_ble_eq_true rfl) dX1_meet_86 89 rfl ?_
        show mm_AW z k 7 none F1 G13 89 [(6, .int x11), (5, .int x4), (4, .int x3), (3, .int x1), (0, .ref (mmad k 32)), (1, .int a1), (2, .int a2)] []
        refine mm_aload_n C dX1_meet_89 rfl 4 rfl 90 rfl ?_
        refine mm_iload C dX1_meet_90 1 rfl 92 rfl ?_
        refine mm_aload_n C dX1_meet_92 rfl 4 rfl 93 rfl ?_
        refine mm_get C fl_X1_36_X1 (by decide) (mc_32 k _) rfl dX1_meet_93 96 rfl ?_
        refine mm_iload C dX1_meet_96 1 rfl 98 rfl ?_
        obtain ⟨x14, ex14, h⟩ := mb h
        refine mm_iald C ex14 dX1_meet_98 99 rfl ?_
        refine mm_iload C dX1_meet_99 0 rfl 101 rfl ?_
        refine mm_isub C dX1_meet_101 102 rfl ?_
        obtain ⟨G15, eG15, h⟩ := mb h
        refine mm_callU [.int x4, .int (x14 - x11)] C (c_X7_send_32 eG15) wb_X7_send wu_X1_45_X1 (fun s hN => hN.2.2.2.1) (by decide) (mc_32 k _) rfl rfl (by omega) rfl (Nat.le_of_ble_eq_true rfl) dX1_meet_102 105 rfl ?_
        show mm_AW z k 7 none F1 G15 105 [(6, .int x11), (5, .int x4), (4, .int x3), (3, .int x1), (0, .ref (mmad k 32)), (1, .int a1), (2, .int a2)] []
        refine mm_goto C dX1_meet_105 137 (by decide) ?_
        exact mm_vretW C (h) dX1_meet_137
  · rw [if_neg hc] at h
    refine mm_aload_n C dX1_meet_18 rfl 1 rfl 19 rfl ?_
    refine mm_iconst (v := (-1 : Int32)) C dX1_meet_19 (by decide) 20 rfl ?_
    obtain ⟨G16, eG16, h⟩ := me h
    refine mm_put (x := (-1 : Int32)) (ty := .int) C fl_X1_25_X1 (by decide) (mc_32 k _) (mc_32 k _) tyX1 tyX1_ok nmX1 rfl (by decide +kernel) rfl rfl (Nat.le_of_ble_eq_true rfl) eG16 dX1_meet_20 23 rfl ?_
    exact mm_vretW C (h) dX1_meet_23
def m_X6_lead_14_32_L16 (x1 : Int32) : Nat → Int32 → mmS → Option (mmS)
  | 0, _, _ => none
  | n5 + 1, v3, G4 => if x1 ≤ v3 then (some ((G4))) else (Option.bind (ald G4 15 v3) fun x6 => Option.bind (ald G4 16 v3) fun x7 => Option.bind (m_X1_meet_32 G4 x6 x7) fun G8 => mlet (v3 + (1 : Int32)) fun x9 => m_X6_lead_14_32_L16 x1 n5 x9 G8)
def m_X6_lead_14_32 (F : mmS) (a2 : Int32) : Option (Int32 × mmS) :=
  mlet (mmin a2 (F 14 2)) fun x1 => Option.bind (m_X7_begin_32 F) fun G2 => bd1 (m_X6_lead_14_32_L16 x1 300 (0 : Int32) G2) fun G10 => some ((G10 32 2), G10)
set_option maxHeartbeats 4000000 in
set_option maxRecDepth 100000 in
theorem c_X6_lead_14_32 {l : Launch} {k : mmK} {F : mmS} {a2 : Int32} {r : Int32} {F1 : mmS} (h : m_X6_lead_14_32 F a2 = some (r, F1)) : mm_T l k yX6_lead cX6_lead 5 (some .int) 3 [.ref (mmad k 14), .ref (mmad k 32), .int a2] F (some (.int r)) F1 := by
  refine mm_start [(0, .ref (mmad k 14)), (1, .ref (mmad k 32)), (2, .int a2)] (by decide) (Nat.le_of_ble_eq_true rfl) rfl ?_
  intro z hz C
  subst hz
  have C : mm_C z k RX6 cX6_lead 5 (some .int) 3 := C
  replace h := mk0 h
  unfold m_X6_lead_14_32 at h
  refine mm_iload_n C dX6_lead_0 rfl 2 rfl 1 rfl ?_
  refine mm_aload_n C dX6_lead_1 rfl 0 rfl 2 rfl ?_
  refine mm_get C fl_X6_18_X6 (by decide) (mc_14 k _) rfl dX6_lead_2 5 rfl ?_
  refine mm_min C mw_516 mw_517 mw_62 mw_518 (by omega) (Nat.le_trans (Nat.le_of_ble_eq_true rfl : _ ≤ 40) (by omega)) dX6_lead_5 8 rfl ?_
  obtain ⟨x1, ex1, h⟩ := me h
  refine mm_top ex1 ?_
  refine mm_istore_n (lv2 := [(3, .int x1), (0, .ref (mmad k 14)), (1, .ref (mmad k 32)), (2, .int a2)]) C dX6_lead_8 rfl (by decide) rfl 9 rfl ?_
  refine mm_aload_n C dX6_lead_9 rfl 2 rfl 10 rfl ?_
  obtain ⟨G2, eG2, h⟩ := mb h
  refine mm_callU [] C (c_X7_begin_32 eG2) wb_X7_begin wu_X6_57_X1 (fun s hN => hN.2.2.2.2) (by decide) (mc_32 k _) rfl rfl (by omega) rfl (Nat.le_of_ble_eq_true rfl) dX6_lead_10 13 rfl ?_
  show mm_AW z k 5 (some (.int r)) F1 G2 13 [(3, .int x1), (0, .ref (mmad k 14)), (1, .ref (mmad k 32)), (2, .int a2)] []
  refine mm_iconst (v := (0 : Int32)) C dX6_lead_13 (by decide) 14 rfl ?_
  refine mm_istore (lv2 := [(4, .int (0 : Int32)), (3, .int x1), (0, .ref (mmad k 14)), (1, .ref (mmad k 32)), (2, .int a2)]) C dX6_lead_14 (by decide) rfl 16 rfl ?_
  refine mm_lv [2, 3, 1, 0] rfl ?_
  have hL16 : ∀ (K : (mmS) → Option (Int32 × mmS)) (hK : ∀ (G4 : mmS) , K (G4) = some (r, F1) → mm_AW z k 5 (some (.int r)) F1 G4 46 [(1, .ref (mmad k 32))] []) (n5 : Nat) (v3 : Int32) (G4 : mmS) , (m_X6_lead_14_32_L16 x1 n5 v3 G4).bind K = some (r, F1) → mm_AW z k 5 (some (.int r)) F1 G4 16 [(0, .ref (mmad k 14)), (1, .ref (mmad k 32)), (3, .int x1), (4, .int v3)] [] := by
    intro K hK n5
    induction n5 with
    | zero => intro v3 G4 h; rw [m_X6_lead_14_32_L16] at h; cases h
    | succ n5 ih =>
      intro v3 G4 h
      rw [m_X6_lead_14_32_L16] at h
      refine mm_iload C dX6_lead_16 3 rfl 18 rfl ?_
      refine mm_iload_n C dX6_lead_18 rfl 2 rfl 19 rfl ?_
      refine mm_icmp_ge C dX6_lead_19 46 22 (by decide) rfl (fun hc => ?_) (fun hc => ?_)
      · rw [if_pos hc] at h
        refine mm_lv [1] rfl ?_
        exact hK _ h
      · rw [if_neg hc] at h
        refine mm_aload_n C dX6_lead_22 rfl 1 rfl 23 rfl ?_
        refine mm_aload_n C dX6_lead_23 rfl 0 rfl 24 rfl ?_
        refine mm_get C fl_X6_9_X6 (by decide) (mc_14 k _) rfl dX6_lead_24 27 rfl ?_
        refine mm_iload C dX6_lead_27 3 rfl 29 rfl ?_
        obtain ⟨x6, ex6, h⟩ := mb h
        refine mm_iald C ex6 dX6_lead_29 30 rfl ?_
        refine mm_aload_n C dX6_lead_30 rfl 0 rfl 31 rfl ?_
        refine mm_get C fl_X6_15_X6 (by decide) (mc_14 k _) rfl dX6_lead_31 34 rfl ?_
        refine mm_iload C dX6_lead_34 3 rfl 36 rfl ?_
        obtain ⟨x7, ex7, h⟩ := mb h
        refine mm_iald C ex7 dX6_lead_36 37 rfl ?_
        obtain ⟨G8, eG8, h⟩ := mb h
        refine mm_callU [.int x6, .int x7] C (c_X1_meet_32 eG8) wb_X1_meet wu_X6_62_X1 (fun s hN => hN.2.2.1) (by decide) (mc_32 k _) rfl rfl (by omega) rfl (Nat.le_of_ble_eq_true rfl) dX6_lead_37 40 rfl ?_
        show mm_AW z k 5 (some (.int r)) F1 G8 40 [(0, .ref (mmad k 14)), (1, .ref (mmad k 32)), (3, .int x1), (4, .int v3)] []
        obtain ⟨x9, ex9, h⟩ := me h
        refine mm_iinc (v := x9) (lv2 := [(4, .int x9), (0, .ref (mmad k 14)), (1, .ref (mmad k 32)), (3, .int x1)]) C dX6_lead_40 3 rfl (by rw [← ex9]; rfl) (by decide) rfl 43 rfl ?_
        refine mm_goto C dX6_lead_43 16 (by decide) ?_
        refine mm_lv [1, 2, 3, 0] rfl ?_
        exact ih _ _ h
  refine mj1 h (fun (G10 : mmS) => mm_AW z k 5 (some (.int r)) F1 G10 46 [(1, .ref (mmad k 32))] []) ?_ ?_
  · intro G10 h
    refine mm_aload_n C dX6_lead_46 rfl 0 rfl 47 rfl ?_
    refine mm_get C fl_X6_66_X1 (by decide) (mc_32 k _) rfl dX6_lead_47 50 rfl ?_
    exact mm_iretW C (h) dX6_lead_50
  · intro K2 hR h
    exact hL16 K2 hR 300 _ _ h
def m_X7_standAtStart_17_L2 : Nat → Int32 → mmS → Option (mmS)
  | 0, _, _ => none
  | n3 + 1, v1, G2 => if (3 : Int32) ≤ v1 then (some ((G2))) else (Option.bind (ald G2 3 v1) fun x4 => Option.bind (ald G2 2 x4) fun x5 => Option.bind (ast G2 18 v1 x5) fun G6 => mlet (v1 + (1 : Int32)) fun x7 => m_X7_standAtStart_17_L2 n3 x7 G6)
def m_X7_standAtStart_17 (F : mmS)  : Option (mmS) :=
  bd1 (m_X7_standAtStart_17_L2 300 (0 : Int32) F) fun G8 => mlet (stF G8 17 2 (0 : Int32)) fun G9 => mlet (stF G9 17 3 (-1 : Int32)) fun G10 => some G10
set_option maxHeartbeats 4000000 in
set_option maxRecDepth 100000 in
theorem c_X7_standAtStart_17 {l : Launch} {k : mmK} {F : mmS}  {F1 : mmS} (h : m_X7_standAtStart_17 F = some F1) : mm_T l k yX7_standAtStart cX7_standAtStart 2 none 0 [.ref (mmad k 17)] F none F1 := by
  refine mm_start [(0, .ref (mmad k 17))] (by decide) (Nat.le_of_ble_eq_true rfl) rfl ?_
  intro z hz C
  subst hz
  have C : mm_C z k RX7 cX7_standAtStart 2 none 0 := C
  replace h := mk0 h
  unfold m_X7_standAtStart_17 at h
  refine mm_iconst (v := (0 : Int32)) C dX7_standAtStart_0 (by decide) 1 rfl ?_
  refine mm_istore_n (lv2 := [(1, .int (0 : Int32)), (0, .ref (mmad k 17))]) C dX7_standAtStart_1 rfl (by decide) rfl 2 rfl ?_
  refine mm_lv [1, 0] rfl ?_
  have hL2 : ∀ (K : (mmS) → Option (mmS)) (hK : ∀ (G2 : mmS) , K (G2) = some F1 → mm_AW z k 2 none F1 G2 36 [(0, .ref (mmad k 17))] []) (n3 : Nat) (v1 : Int32) (G2 : mmS) , (m_X7_standAtStart_17_L2 n3 v1 G2).bind K = some F1 → mm_AW z k 2 none F1 G2 2 [(0, .ref (mmad k 17)), (1, .int v1)] [] := by
    intro K hK n3
    induction n3 with
    | zero => intro v1 G2 h; rw [m_X7_standAtStart_17_L2] at h; cases h
    | succ n3 ih =>
      intro v1 G2 h
      rw [m_X7_standAtStart_17_L2] at h
      refine mm_iload_n C dX7_standAtStart_2 rfl 1 rfl 3 rfl ?_
      refine mm_iconst (v := (3 : Int32)) C dX7_standAtStart_3 (by decide) 4 rfl ?_
      refine mm_icmp_ge C dX7_standAtStart_4 36 7 (by decide) rfl (fun hc => ?_) (fun hc => ?_)
      · rw [if_pos hc] at h
        refine mm_lv [0] rfl ?_
        exact hK _ h
      · rw [if_neg hc] at h
        refine mm_aload_n C dX7_standAtStart_7 rfl 0 rfl 8 rfl ?_
        refine mm_get C fl_X7_9_X9 (by decide) (mc_17 k _) rfl dX7_standAtStart_8 11 rfl ?_
        refine mm_iload_n C dX7_standAtStart_11 rfl 1 rfl 12 rfl ?_
        refine mm_aload_n C dX7_standAtStart_12 rfl 0 rfl 13 rfl ?_
        refine mm_get C fl_X7_19_X9 (by decide) (mc_17 k _) rfl dX7_standAtStart_13 16 rfl ?_
        refine mm_get C fl_X7_26_X3 (by decide) (mc_1 k _) rfl dX7_standAtStart_16 19 rfl ?_
        refine mm_aload_n C dX7_standAtStart_19 rfl 0 rfl 20 rfl ?_
        refine mm_get C fl_X7_19_X9 (by decide) (mc_17 k _) rfl dX7_standAtStart_20 23 rfl ?_
        refine mm_get C fl_X7_31_X3 (by decide) (mc_1 k _) rfl dX7_standAtStart_23 26 rfl ?_
        refine mm_iload_n C dX7_standAtStart_26 rfl 1 rfl 27 rfl ?_
        obtain ⟨x4, ex4, h⟩ := mb h
        refine mm_iald C ex4 dX7_standAtStart_27 28 rfl ?_
        obtain ⟨x5, ex5, h⟩ := mb h
        refine mm_iald C ex5 dX7_standAtStart_28 29 rfl ?_
        obtain ⟨G6, eG6, h⟩ := mb h
        refine mm_iast C eG6 dX7_standAtStart_29 30 rfl ?_
        obtain ⟨x7, ex7, h⟩ := me h
        refine mm_iinc (v := x7) (lv2 := [(1, .int x7), (0, .ref (mmad k 17))]) C dX7_standAtStart_30 1 rfl (by rw [← ex7]; rfl) (by decide) rfl 33 rfl ?_
        refine mm_goto C dX7_standAtStart_33 2 (by decide) ?_
        refine mm_lv [1, 0] rfl ?_
        exact ih _ _ h
  refine mj1 h (fun (G8 : mmS) => mm_AW z k 2 none F1 G8 36 [(0, .ref (mmad k 17))] []) ?_ ?_
  · intro G8 h
    refine mm_aload_n C dX7_standAtStart_36 rfl 0 rfl 37 rfl ?_
    refine mm_iconst (v := (0 : Int32)) C dX7_standAtStart_37 (by decide) 38 rfl ?_
    obtain ⟨G9, eG9, h⟩ := me h
    refine mm_put (x := (0 : Int32)) (ty := .int) C fl_X7_34_X9 (by decide) (mc_17 k _) (mc_17 k _) tyX9 tyX9_ok nmX9 rfl (by decide +kernel) rfl rfl (Nat.le_of_ble_eq_true rfl) eG9 dX7_standAtStart_38 41 rfl ?_
    refine mm_aload_n C dX7_standAtStart_41 rfl 0 rfl 42 rfl ?_
    refine mm_iconst (v := (-1 : Int32)) C dX7_standAtStart_42 (by decide) 43 rfl ?_
    obtain ⟨G10, eG10, h⟩ := me h
    refine mm_put (x := (-1 : Int32)) (ty := .int) C fl_X7_15_X9 (by decide) (mc_17 k _) (mc_17 k _) tyX9 tyX9_ok nmX9 rfl (by decide +kernel) rfl rfl (Nat.le_of_ble_eq_true rfl) eG10 dX7_standAtStart_43 46 rfl ?_
    exact mm_vretW C (h) dX7_standAtStart_46
  · intro K2 hR h
    exact hL2 K2 hR 300 _ _ h
def m_X3_standingOf_1 (F : mmS) (a1 : Int32) (a2 : Int32) (a3 : Int32) : Option (Int32) :=
  bd1 (if (F 1 1) ≤ (1 : Int32) then (some ((0 : Int32))) else (some (a2))) fun y1 => bd1 (if (F 1 1) ≤ (2 : Int32) then (some ((0 : Int32))) else (some (a3))) fun y2 => Option.bind (m_X3_coded a1 y1 y2) fun x3 => some x3
set_option maxHeartbeats 4000000 in
set_option maxRecDepth 100000 in
theorem c_X3_standingOf_1 {l : Launch} {k : mmK} {F : mmS} {a1 : Int32} {a2 : Int32} {a3 : Int32} {r : Int32} (h : m_X3_standingOf_1 F a1 a2 a3 = some r) : mm_T l k yX3_standingOf cX3_standingOf 4 (some .int) 1 [.ref (mmad k 1), .int a1, .int a2, .int a3] F (some (.int r)) F := by
  refine mm_start [(0, .ref (mmad k 1)), (1, .int a1), (2, .int a2), (3, .int a3)] (by decide) (Nat.le_of_ble_eq_true rfl) rfl ?_
  intro z hz C
  subst hz
  have C : mm_C z k RX3 cX3_standingOf 4 (some .int) 1 := C
  replace h := mk0 h
  unfold m_X3_standingOf_1 at h
  refine mm_iload_n C dX3_standingOf_0 rfl 1 rfl 1 rfl ?_
  refine mm_aload_n C dX3_standingOf_1 rfl 0 rfl 2 rfl ?_
  refine mm_get C fl_X3_15_X3 (by decide) (mc_1 k _) rfl dX3_standingOf_2 5 rfl ?_
  refine mm_iconst (v := (1 : Int32)) C dX3_standingOf_5 (by decide) 6 rfl ?_
  refine mj1 h (fun (y1 : Int32) => mm_AW z k 4 (some (.int r)) F F 14 [(0, .ref (mmad k 1)), (3, .int a3)] [.int y1, .int a1]) ?_ ?_
  · intro y1 h
    refine mm_aload_n C dX3_standingOf_14 rfl 0 rfl 15 rfl ?_
    refine mm_get C fl_X3_15_X3 (by decide) (mc_1 k _) rfl dX3_standingOf_15 18 rfl ?_
    refine mm_iconst (v := (2 : Int32)) C dX3_standingOf_18 (by decide) 19 rfl ?_
    refine mj1 h (fun (y2 : Int32) => mm_AW z k 4 (some (.int r)) F F 27 [] [.int y2, .int y1, .int a1]) ?_ ?_
    · intro y2 h
      obtain ⟨x3, ex3, h⟩ := mb h
      refine mm_callS [.int a1, .int y1, .int y2] C (c_X3_coded ex3) wb_X3_coded ws_X3_40 rfl (by omega) rfl (Nat.le_of_ble_eq_true rfl) dX3_standingOf_27 30 rfl ?_
      show mm_AW z k 4 (some (.int r)) F F 30 [] [.int x3]
      exact mm_iretP C (h) dX3_standingOf_30
    · intro K2 hR27 h
      refine mm_icmp_le C dX3_standingOf_19 26 22 (by decide) rfl (fun hc => ?_) (fun hc => ?_)
      · rw [if_pos hc] at h
        refine mm_iconst (v := (0 : Int32)) C dX3_standingOf_26 (by decide) 27 rfl ?_
        refine mm_lv [] rfl ?_
        exact hR27 _ h
      · rw [if_neg hc] at h
        refine mm_iload_n C dX3_standingOf_22 rfl 1 rfl 23 rfl ?_
        refine mm_goto C dX3_standingOf_23 27 (by decide) ?_
        refine mm_lv [] rfl ?_
        exact hR27 _ h
  · intro K2 hR14 h
    refine mm_icmp_le C dX3_standingOf_6 13 9 (by decide) rfl (fun hc => ?_) (fun hc => ?_)
    · rw [if_pos hc] at h
      refine mm_iconst (v := (0 : Int32)) C dX3_standingOf_13 (by decide) 14 rfl ?_
      refine mm_lv [0, 3] rfl ?_
      exact hR14 _ h
    · rw [if_neg hc] at h
      refine mm_iload_n C dX3_standingOf_9 rfl 2 rfl 10 rfl ?_
      refine mm_goto C dX3_standingOf_10 14 (by decide) ?_
      refine mm_lv [0, 3] rfl ?_
      exact hR14 _ h
def m_X3_startStanding_1 (F : mmS)  : Option (Int32) :=
  Option.bind (ald F 3 (0 : Int32)) fun x1 => Option.bind (ald F 3 (1 : Int32)) fun x2 => Option.bind (ald F 3 (2 : Int32)) fun x3 => Option.bind (m_X3_standingOf_1 F x1 x2 x3) fun x4 => some x4
set_option maxHeartbeats 4000000 in
set_option maxRecDepth 100000 in
theorem c_X3_startStanding_1 {l : Launch} {k : mmK} {F : mmS}  {r : Int32} (h : m_X3_startStanding_1 F = some r) : mm_T l k yX3_startStanding cX3_startStanding 1 (some .int) 2 [.ref (mmad k 1)] F (some (.int r)) F := by
  refine mm_start [(0, .ref (mmad k 1))] (by decide) (Nat.le_of_ble_eq_true rfl) rfl ?_
  intro z hz C
  subst hz
  have C : mm_C z k RX3 cX3_startStanding 1 (some .int) 2 := C
  replace h := mk0 h
  unfold m_X3_startStanding_1 at h
  refine mm_aload_n C dX3_startStanding_0 rfl 0 rfl 1 rfl ?_
  refine mm_aload_n C dX3_startStanding_1 rfl 0 rfl 2 rfl ?_
  refine mm_get C fl_X3_25_X3 (by decide) (mc_1 k _) rfl dX3_startStanding_2 5 rfl ?_
  refine mm_iconst (v := (0 : Int32)) C dX3_startStanding_5 (by decide) 6 rfl ?_
  obtain ⟨x1, ex1, h⟩ := mb h
  refine mm_iald C ex1 dX3_startStanding_6 7 rfl ?_
  refine mm_aload_n C dX3_startStanding_7 rfl 0 rfl 8 rfl ?_
  refine mm_get C fl_X3_25_X3 (by decide) (mc_1 k _) rfl dX3_startStanding_8 11 rfl ?_
  refine mm_iconst (v := (1 : Int32)) C dX3_startStanding_11 (by decide) 12 rfl ?_
  obtain ⟨x2, ex2, h⟩ := mb h
  refine mm_iald C ex2 dX3_startStanding_12 13 rfl ?_
  refine mm_aload_n C dX3_startStanding_13 rfl 0 rfl 14 rfl ?_
  refine mm_get C fl_X3_25_X3 (by decide) (mc_1 k _) rfl dX3_startStanding_14 17 rfl ?_
  refine mm_iconst (v := (2 : Int32)) C dX3_startStanding_17 (by decide) 18 rfl ?_
  obtain ⟨x3, ex3, h⟩ := mb h
  refine mm_iald C ex3 dX3_startStanding_18 19 rfl ?_
  obtain ⟨x4, ex4, h⟩ := mb h
  refine mm_callV [.int x1, .int x2, .int x3] C (c_X3_standingOf_1 ex4) wb_X3_standingOf wv_X3_51 (by decide) (mc_1 k _) rfl rfl rfl (by omega) rfl (Nat.le_of_ble_eq_true rfl) dX3_startStanding_19 22 rfl ?_
  show mm_AW z k 1 (some (.int r)) F F 22 [(0, .ref (mmad k 1))] [.int x4]
  exact mm_iretP C (h) dX3_startStanding_22
def m_X9_standAtStart_17 (F : mmS)  : Option (mmS) :=
  Option.bind (m_X7_standAtStart_17 F) fun G1 => Option.bind (m_X3_startStanding_1 G1) fun x2 => mlet (stF G1 17 6 x2) fun G3 => mlet (stF G3 17 5 (0 : Int32)) fun G4 => some G4
set_option maxHeartbeats 4000000 in
set_option maxRecDepth 100000 in
theorem c_X9_standAtStart_17 {l : Launch} {k : mmK} {F : mmS}  {F1 : mmS} (h : m_X9_standAtStart_17 F = some F1) : mm_T l k yX9_standAtStart cX9_standAtStart 1 none 3 [.ref (mmad k 17)] F none F1 := by
  refine mm_start [(0, .ref (mmad k 17))] (by decide) (Nat.le_of_ble_eq_true rfl) rfl ?_
  intro z hz C
  subst hz
  have C : mm_C z k RX9 cX9_standAtStart 1 none 3 := C
  replace h := mk0 h
  unfold m_X9_standAtStart_17 at h
  refine mm_aload_n C dX9_standAtStart_0 rfl 0 rfl 1 rfl ?_
  obtain ⟨G1, eG1, h⟩ := mb h
  refine mm_callP [] C (c_X7_standAtStart_17 eG1) wb_X7_standAtStart wp_X9_66 (by decide) (mc_17 k _) rfl rfl (by omega) rfl (Nat.le_of_ble_eq_true rfl) dX9_standAtStart_1 4 rfl ?_
  show mm_AW z k 1 none F1 G1 4 [(0, .ref (mmad k 17))] []
  refine mm_aload_n C dX9_standAtStart_4 rfl 0 rfl 5 rfl ?_
  refine mm_aload_n C dX9_standAtStart_5 rfl 0 rfl 6 rfl ?_
  refine mm_get C fl_X9_34_X9 (by decide) (mc_17 k _) rfl dX9_standAtStart_6 9 rfl ?_
  obtain ⟨x2, ex2, h⟩ := mb h
  refine mm_callV [] C (c_X3_startStanding_1 ex2) wb_X3_startStanding wv_X9_67 (by decide) (mc_1 k _) rfl rfl rfl (by omega) rfl (Nat.le_of_ble_eq_true rfl) dX9_standAtStart_9 12 rfl ?_
  show mm_AW z k 1 none F1 G1 12 [(0, .ref (mmad k 17))] [.int x2, .ref (mmad k 17)]
  obtain ⟨G3, eG3, h⟩ := me h
  refine mm_put (x := x2) (ty := .int) C fl_X9_71_X9 (by decide) (mc_17 k _) (mc_17 k _) tyX9 tyX9_ok nmX9 rfl (by decide +kernel) rfl rfl (Nat.le_of_ble_eq_true rfl) eG3 dX9_standAtStart_12 15 rfl ?_
  refine mm_aload_n C dX9_standAtStart_15 rfl 0 rfl 16 rfl ?_
  refine mm_iconst (v := (0 : Int32)) C dX9_standAtStart_16 (by decide) 17 rfl ?_
  obtain ⟨G4, eG4, h⟩ := me h
  refine mm_put (x := (0 : Int32)) (ty := .int) C fl_X9_74_X9 (by decide) (mc_17 k _) (mc_17 k _) tyX9 tyX9_ok nmX9 rfl (by decide +kernel) rfl rfl (Nat.le_of_ble_eq_true rfl) eG4 dX9_standAtStart_17 20 rfl ?_
  exact mm_vretW C (h) dX9_standAtStart_20
def m_X3_pointOf (a0 : Int32) (a1 : Int32) : Option (Int32) :=
  if a1 = (0 : Int32) then (Option.bind (mrem a0 (6 : Int32)) fun x4 => some x4) else (if a1 = (1 : Int32) then (Option.bind (mdiv a0 (6 : Int32)) fun x2 => Option.bind (mrem x2 (6 : Int32)) fun x3 => some x3) else (Option.bind (mdiv a0 (36 : Int32)) fun x1 => some x1))
set_option maxHeartbeats 4000000 in
set_option maxRecDepth 100000 in
theorem c_X3_pointOf {l : Launch} {k : mmK} {F : mmS} {a0 : Int32} {a1 : Int32} {r : Int32} (h : m_X3_pointOf a0 a1 = some r) : mm_T l k yX3_pointOf cX3_pointOf 2 (some .int) 0 [.int a0, .int a1] F (some (.int r)) F := by
  refine mm_start [(0, .int a0), (1, .int a1)] (by decide) (Nat.le_of_ble_eq_true rfl) rfl ?_
  intro z hz C
  subst hz
  have C : mm_C z k RX3 cX3_pointOf 2 (some .int) 0 := C
  replace h := mk0 h
  unfold m_X3_pointOf at h
  refine mm_iload_n C dX3_pointOf_0 rfl 1 rfl 1 rfl ?_
  refine mm_if_ne C dX3_pointOf_1 9 4 (by decide) rfl (fun hc => ?_) (fun hc => ?_)
  · rw [if_neg hc] at h
    refine mm_iload_n C dX3_pointOf_9 rfl 1 rfl 10 rfl ?_
    refine mm_iconst (v := (1 : Int32)) C dX3_pointOf_10 (by decide) 11 rfl ?_
    refine mm_icmp_ne C dX3_pointOf_11 24 14 (by decide) rfl (fun hc => ?_) (fun hc => ?_)
    · rw [if_neg hc] at h
      refine mm_iload_n C dX3_pointOf_24 rfl 0 rfl 25 rfl ?_
      refine mm_bipush (v := (36 : Int32)) C dX3_pointOf_25 (by decide) 27 rfl ?_
      obtain ⟨x1, ex1, h⟩ := mb h
      refine mm_idiv C dX3_pointOf_27 ex1 28 rfl ?_
      exact mm_iretP C (h) dX3_pointOf_28
    · rw [if_pos hc] at h
      refine mm_iload_n C dX3_pointOf_14 rfl 0 rfl 15 rfl ?_
      refine mm_bipush (v := (6 : Int32)) C dX3_pointOf_15 (by decide) 17 rfl ?_
      obtain ⟨x2, ex2, h⟩ := mb h
      refine mm_idiv C dX3_pointOf_17 ex2 18 rfl ?_
      refine mm_bipush (v := (6 : Int32)) C dX3_pointOf_18 (by decide) 20 rfl ?_
      obtain ⟨x3, ex3, h⟩ := mb h
      refine mm_irem C dX3_pointOf_20 ex3 21 rfl ?_
      refine mm_goto C dX3_pointOf_21 28 (by decide) ?_
      exact mm_iretP C (h) dX3_pointOf_28
  · rw [if_pos hc] at h
    refine mm_iload_n C dX3_pointOf_4 rfl 0 rfl 5 rfl ?_
    refine mm_bipush (v := (6 : Int32)) C dX3_pointOf_5 (by decide) 7 rfl ?_
    obtain ⟨x4, ex4, h⟩ := mb h
    refine mm_irem C dX3_pointOf_7 ex4 8 rfl ?_
    exact mm_iretP C (h) dX3_pointOf_8
def m_X3_pairWays (a0 : Int32) (a1 : Int32) (a2 : Int32) (a3 : Int32) : Option (Int32) :=
  mlet ((mabs (a0 - a2)) + (mabs (a1 - a3))) fun x1 => mlet ((mabs (a0 - a3)) + (mabs (a1 - a2))) fun x2 => some (mmin x1 x2)
set_option maxHeartbeats 4000000 in
set_option maxRecDepth 100000 in
theorem c_X3_pairWays {l : Launch} {k : mmK} {F : mmS} {a0 : Int32} {a1 : Int32} {a2 : Int32} {a3 : Int32} {r : Int32} (h : m_X3_pairWays a0 a1 a2 a3 = some r) : mm_T l k yX3_pairWays cX3_pairWays 6 (some .int) 1 [.int a0, .int a1, .int a2, .int a3] F (some (.int r)) F := by
  refine mm_start [(0, .int a0), (1, .int a1), (2, .int a2), (3, .int a3)] (by decide) (Nat.le_of_ble_eq_true rfl) rfl ?_
  intro z hz C
  subst hz
  have C : mm_C z k RX3 cX3_pairWays 6 (some .int) 1 := C
  replace h := mk0 h
  unfold m_X3_pairWays at h
  refine mm_iload_n C dX3_pairWays_0 rfl 0 rfl 1 rfl ?_
  refine mm_iload_n C dX3_pairWays_1 rfl 2 rfl 2 rfl ?_
  refine mm_isub C dX3_pairWays_2 3 rfl ?_
  refine mm_abs C mw_551 mw_552 mw_62 mw_553 (by omega) (Nat.le_trans (Nat.le_of_ble_eq_true rfl : _ ≤ 40) (by omega)) dX3_pairWays_3 6 rfl ?_
  refine mm_iload_n C dX3_pairWays_6 rfl 1 rfl 7 rfl ?_
  refine mm_iload_n C dX3_pairWays_7 rfl 3 rfl 8 rfl ?_
  refine mm_isub C dX3_pairWays_8 9 rfl ?_
  refine mm_abs C mw_551 mw_552 mw_62 mw_553 (by omega) (Nat.le_trans (Nat.le_of_ble_eq_true rfl : _ ≤ 40) (by omega)) dX3_pairWays_9 12 rfl ?_
  refine mm_iadd C dX3_pairWays_12 13 rfl ?_
  obtain ⟨x1, ex1, h⟩ := me h
  refine mm_top ex1 ?_
  refine mm_istore (lv2 := [(4, .int x1), (0, .int a0), (1, .int a1), (2, .int a2), (3, .int a3)]) C dX3_pairWays_13 (by decide) rfl 15 rfl ?_
  refine mm_iload_n C dX3_pairWays_15 rfl 1 rfl 16 rfl ?_
  refine mm_iload_n C dX3_pairWays_16 rfl 4 rfl 17 rfl ?_
  refine mm_isub C dX3_pairWays_17 18 rfl ?_
  refine mm_abs C mw_551 mw_552 mw_62 mw_553 (by omega) (Nat.le_trans (Nat.le_of_ble_eq_true rfl : _ ≤ 40) (by omega)) dX3_pairWays_18 21 rfl ?_
  refine mm_iload_n C dX3_pairWays_21 rfl 2 rfl 22 rfl ?_
  refine mm_iload_n C dX3_pairWays_22 rfl 3 rfl 23 rfl ?_
  refine mm_isub C dX3_pairWays_23 24 rfl ?_
  refine mm_abs C mw_551 mw_552 mw_62 mw_553 (by omega) (Nat.le_trans (Nat.le_of_ble_eq_true rfl : _ ≤ 40) (by omega)) dX3_pairWays_24 27 rfl ?_
  refine mm_iadd C dX3_pairWays_27 28 rfl ?_
  obtain ⟨x2, ex2, h⟩ := me h
  refine mm_top ex2 ?_
  refine mm_istore (lv2 := [(5, .int x2), (4, .int x1), (0, .int a0), (1, .int a1), (2, .int a2), (3, .int a3)]) C dX3_pairWays_28 (by decide) rfl 30 rfl ?_
  refine mm_iload C dX3_pairWays_30 1 rfl 32 rfl ?_
  refine mm_iload C dX3_pairWays_32 0 rfl 34 rfl ?_
  refine mm_min C mw_557 mw_517 mw_62 mw_518 (by omega) (Nat.le_trans (Nat.le_of_ble_eq_true rfl : _ ≤ 40) (by omega)) dX3_pairWays_34 37 rfl ?_
  exact mm_iretP C (h) dX3_pairWays_37
def m_X3_leastWays_1_18_21 (F : mmS)  : Option (Int32) :=
  if (F 1 1) = (1 : Int32) then (Option.bind (ald F 18 (0 : Int32)) fun x30 => Option.bind (ald F 21 (0 : Int32)) fun x31 => some (mabs (x30 - x31))) else (if (F 1 1) = (2 : Int32) then (Option.bind (ald F 18 (0 : Int32)) fun x25 => Option.bind (ald F 18 (1 : Int32)) fun x26 => Option.bind (ald F 21 (0 : Int32)) fun x27 => Option.bind (ald F 21 (1 : Int32)) fun x28 => Option.bind (m_X3_pairWays x25 x26 x27 x28) fun x29 => some x29) else (Option.bind (ald F 18 (0 : Int32)) fun x1 => Option.bind (ald F 21 (0 : Int32)) fun x2 => Option.bind (ald F 18 (1 : Int32)) fun x3 => Option.bind (ald F 18 (2 : Int32)) fun x4 => Option.bind (ald F 21 (1 : Int32)) fun x5 => Option.bind (ald F 21 (2 : Int32)) fun x6 => Option.bind (m_X3_pairWays x3 x4 x5 x6) fun x7 => mlet ((mabs (x1 - x2)) + x7) fun x8 => Option.bind (ald F 18 (0 : Int32)) fun x9 => Option.bind (ald F 21 (1 : Int32)) fun x10 => Option.bind (ald F 18 (1 : Int32)) fun x11 => Option.bind (ald F 18 (2 : Int32)) fun x12 => Option.bind (ald F 21 (0 : Int32)) fun x13 => Option.bind (ald F 21 (2 : Int32)) fun x14 => Option.bind (m_X3_pairWays x11 x12 x13 x14) fun x15 => mlet ((mabs (x9 - x10)) + x15) fun x16 => Option.bind (ald F 18 (0 : Int32)) fun x17 => Option.bind (ald F 21 (2 : Int32)) fun x18 => Option.bind (ald F 18 (1 : Int32)) fun x19 => Option.bind (ald F 18 (2 : Int32)) fun x20 => Option.bind (ald F 21 (0 : Int32)) fun x21 => Option.bind (ald F 21 (1 : Int32)) fun x22 => Option.bind (m_X3_pairWays x19 x20 x21 x22) fun x23 => mlet ((mabs (x17 - x18)) + x23) fun x24 => some (mmin x8 (mmin x16 x24))))
set_option maxHeartbeats 4000000 in
set_option maxRecDepth 100000 in
theorem c_X3_leastWays_1_18_21 {l : Launch} {k : mmK} {F : mmS}  {r : Int32} (h : m_X3_leastWays_1_18_21 F = some r) : mm_T l k yX3_leastWays cX3_leastWays 6 (some .int) 2 [.ref (mmad k 1), .ref (mmad k 18), .ref (mmad k 21)] F (some (.int r)) F := by
  refine mm_start [(0, .ref (mmad k 1)), (1, .ref (mmad k 18)), (2, .ref (mmad k 21))] (by decide) (Nat.le_of_ble_eq_true rfl) rfl ?_
  intro z hz C
  subst hz
  have C : mm_C z k RX3 cX3_leastWays 6 (some .int) 2 := C
  replace h := mk0 h
  unfold m_X3_leastWays_1_18_21 at h
  refine mm_aload_n C dX3_leastWays_0 rfl 0 rfl 1 rfl ?_
  refine mm_get C fl_X3_15_X3 (by decide) (mc_1 k _) rfl dX3_leastWays_1 4 rfl ?_
  refine mm_iconst (v := (1 : Int32)) C dX3_leastWays_4 (by decide) 5 rfl ?_
  refine mm_icmp_ne C dX3_leastWays_5 19 8 (by decide) rfl (fun hc => ?_) (fun hc => ?_)
  · rw [if_neg hc] at h
    refine mm_aload_n C dX3_leastWays_19 rfl 0 rfl 20 rfl ?_
    refine mm_get C fl_X3_15_X3 (by decide) (mc_1 k _) rfl dX3_leastWays_20 23 rfl ?_
    refine mm_iconst (v := (2 : Int32)) C dX3_leastWays_23 (by decide) 24 rfl ?_
    refine mm_icmp_ne C dX3_leastWays_24 43 27 (by decide) rfl (fun hc => ?_) (fun hc => ?_)
    · rw [if_neg hc] at h
      refine mm_aload_n C dX3_leastWays_43 rfl 1 rfl 44 rfl ?_
      refine mm_iconst (v := (0 : Int32)) C dX3_leastWays_44 (by decide) 45 rfl ?_
      obtain ⟨x1, ex1, h⟩ := mb h
      refine mm_iald C ex1 dX3_leastWays_45 46 rfl ?_
      refine mm_aload_n C dX3_leastWays_46 rfl 2 rfl 47 rfl ?_
      refine mm_iconst (v := (0 : Int32)) C dX3_leastWays_47 (by decide) 48 rfl ?_
      obtain ⟨x2, ex2, h⟩ := mb h
      refine mm_iald C ex2 dX3_leastWays_48 49 rfl ?_
      refine mm_isub C dX3_leastWays_49 50 rfl ?_
      refine mm_abs C mw_551 mw_552 mw_62 mw_553 (by omega) (Nat.le_trans (Nat.le_of_ble_eq_true rfl : _ ≤ 40) (by omega)) dX3_leastWays_50 53 rfl ?_
      refine mm_aload_n C dX3_leastWays_53 rfl 1 rfl 54 rfl ?_
      refine mm_iconst (v := (1 : Int32)) C dX3_leastWays_54 (by decide) 55 rfl ?_
      obtain ⟨x3, ex3, h⟩ := mb h
      refine mm_iald C ex3 dX3_leastWays_55 56 rfl ?_
      refine mm_aload_n C dX3_leastWays_56 rfl 1 rfl 57 rfl ?_
      refine mm_iconst (v := (2 : Int32)) C dX3_leastWays_57 (by decide) 58 rfl ?_
      obtain ⟨x4, ex4, h⟩ := mb h
      refine mm_iald C ex4 dX3_leastWays_58 59 rfl ?_
      refine mm_aload_n C dX3_leastWays_59 rfl 2 rfl 60 rfl ?_
      refine mm_iconst (v := (1 : Int32)) C dX3_leastWays_60 (by decide) 61 rfl ?_
      obtain ⟨x5, ex5, h⟩ := mb h
      refine mm_iald C ex5 dX3_leastWays_61 62 rfl ?_
      refine mm_aload_n C dX3_leastWays_62 rfl 2 rfl 63 rfl ?_
      refine mm_iconst (v := (2 : Int32)) C dX3_leastWays_63 (by decide) 64 rfl ?_
      obtain ⟨x6, ex6, h⟩ := mb h
      refine mm_iald C ex6 dX3_leastWays_64 65 rfl ?_
      obtain ⟨x7, ex7, h⟩ := mb h
      refine mm_callS [.int x3, .int x4, .int x5, .int x6] C (c_X3_pairWays ex7) wb_X3_pairWays ws_X3_63 rfl (by omega) rfl (Nat.le_of_ble_eq_true rfl) dX3_leastWays_65 68 rfl ?_
      show mm_AW z k 6 (some (.int r)) F F 68 [(0, .ref (mmad k 1)), (1, .ref (mmad k 18)), (2, .ref (mmad k 21))] [.int x7, .int (mabs (x1 - x2))]
      refine mm_iadd C dX3_leastWays_68 69 rfl ?_
      obtain ⟨x8, ex8, h⟩ := me h
      refine mm_top ex8 ?_
      refine mm_istore_n (lv2 := [(3, .int x8), (0, .ref (mmad k 1)), (1, .ref (mmad k 18)), (2, .ref (mmad k 21))]) C dX3_leastWays_69 rfl (by decide) rfl 70 rfl ?_
      refine mm_aload_n C dX3_leastWays_70 rfl 2 rfl 71 rfl ?_
      refine mm_iconst (v := (0 : Int32)) C dX3_leastWays_71 (by decide) 72 rfl ?_
      obtain ⟨x9, ex9, h⟩ := mb h
      refine mm_iald C ex9 dX3_leastWays_72 73 rfl ?_
      refine mm_aload_n C dX3_leastWays_73 rfl 3 rfl 74 rfl ?_
      refine mm_iconst (v := (1 : Int32)) C dX3_leastWays_74 (by decide) 75 rfl ?_
      obtain ⟨x10, ex10, h⟩ := mb h
      refine mm_iald C ex10 dX3_leastWays_75 76 rfl ?_
      refine mm_isub C dX3_leastWays_76 77 rfl ?_
      refine mm_abs C mw_551 mw_552 mw_62 mw_553 (by omega) (Nat.le_trans (Nat.le_of_ble_eq_true rfl : _ ≤ 40) (by omega)) dX3_leastWays_77 80 rfl ?_
      refine mm_aload_n C dX3_leastWays_80 rfl 2 rfl 81 rfl ?_
      refine mm_iconst (v := (1 : Int32)) C dX3_leastWays_81 (by decide) 82 rfl ?_
      obtain ⟨x11, ex11, h⟩ := mb h
      refine mm_iald C ex11 dX3_leastWays_82 83 rfl ?_
      refine mm_aload_n C dX3_leastWays_83 rfl 2 rfl 84 rfl ?_
      refine mm_iconst (v := (2 : Int32)) C dX3_leastWays_84 (by decide) 85 rfl ?_
      obtain ⟨x12, ex12, h⟩ := mb h
      refine mm_iald C ex12 dX3_leastWays_85 86 rfl ?_
      refine mm_aload_n C dX3_leastWays_86 rfl 3 rfl 87 rfl ?_
      refine mm_iconst (v := (0 : Int32)) C dX3_leastWays_87 (by decide) 88 rfl ?_
      obtain ⟨x13, ex13, h⟩ := mb h
      refine mm_iald C ex13 dX3_leastWays_88 89 rfl ?_
      refine mm_aload_n C dX3_leastWays_89 rfl 3 rfl 90 rfl ?_
      refine mm_iconst (v := (2 : Int32)) C dX3_leastWays_90 (by decide) 91 rfl ?_
      obtain ⟨x14, ex14, h⟩ := mb h
      refine mm_iald C ex14 dX3_leastWays_91 92 rfl ?_
      obtain ⟨x15, ex15, h⟩ := mb h
      refine mm_callS [.int x11, .int x12, .int x13, .int x14] C (c_X3_pairWays ex15) wb_X3_pairWays ws_X3_63 rfl (by omega) rfl (Nat.le_of_ble_eq_true rfl) dX3_leastWays_92 95 rfl ?_
      show mm_AW z k 6 (some (.int r)) F F 95 [(3, .int x8), (0, .ref (mmad k 1)), (1, .ref (mmad k 18)), (2, .ref (mmad k 21))] [.int x15, .int (mabs (x9 - x10))]
      refine mm_iadd C dX3_leastWays_95 96 rfl ?_
      obtain ⟨x16, ex16, h⟩ := me h
      refine mm_top ex16 ?_
      refine mm_istore (lv2 := [(4, .int x16), (3, .int x8), (0, .ref (mmad k 1)), (1, .ref (mmad k 18)), (2, .ref (mmad k 21))]) C dX3_leastWays_96 (by decide) rfl 98 rfl ?_
      refine mm_aload_n C dX3_leastWays_98 rfl 3 rfl 99 rfl ?_
      refine mm_iconst (v := (0 : Int32)) C dX3_leastWays_99 (by decide) 100 rfl ?_
      obtain ⟨x17, ex17, h⟩ := mb h
      refine mm_iald C ex17 dX3_leastWays_100 101 rfl ?_
      refine mm_aload_n C dX3_leastWays_101 rfl 4 rfl 102 rfl ?_
      refine mm_iconst (v := (2 : Int32)) C dX3_leastWays_102 (by decide) 103 rfl ?_
      obtain ⟨x18, ex18, h⟩ := mb h
      refine mm_iald C ex18 dX3_leastWays_103 104 rfl ?_
      refine mm_isub C dX3_leastWays_104 105 rfl ?_
      refine mm_abs C mw_551 mw_552 mw_62 mw_553 (by omega) (Nat.le_trans (Nat.le_of_ble_eq_true rfl : _ ≤ 40) (by omega)) dX3_leastWays_105 108 rfl ?_
      refine mm_aload_n C dX3_leastWays_108 rfl 3 rfl 109 rfl ?_
      refine mm_iconst (v := (1 : Int32)) C dX3_leastWays_109 (by decide) 110 rfl ?_
      obtain ⟨x19, ex19, h⟩ := mb h
      refine mm_iald C ex19 dX3_leastWays_110 111 rfl ?_
      refine mm_aload_n C dX3_leastWays_111 rfl 3 rfl 112 rfl ?_
      refine mm_iconst (v := (2 : Int32)) C dX3_leastWays_112 (by decide) 113 rfl ?_
      obtain ⟨x20, ex20, h⟩ := mb h
      refine mm_iald C ex20 dX3_leastWays_113 114 rfl ?_
      refine mm_aload_n C dX3_leastWays_114 rfl 4 rfl 115 rfl ?_
      refine mm_iconst (v := (0 : Int32)) C dX3_leastWays_115 (by decide) 116 rfl ?_
      obtain ⟨x21, ex21, h⟩ := mb h
      refine mm_iald C ex21 dX3_leastWays_116 117 rfl ?_
      refine mm_aload_n C dX3_leastWays_117 rfl 4 rfl 118 rfl ?_
      refine mm_iconst (v := (1 : Int32)) C dX3_leastWays_118 (by decide) 119 rfl ?_
      obtain ⟨x22, ex22, h⟩ := mb h
      refine mm_iald C ex22 dX3_leastWays_119 120 rfl ?_
      obtain ⟨x23, ex23, h⟩ := mb h
      refine mm_callS [.int x19, .int x20, .int x21, .int x22] C (c_X3_pairWays ex23) wb_X3_pairWays ws_X3_63 rfl (by omega) rfl (Nat.le_of_ble_eq_true rfl) dX3_leastWays_120 123 rfl ?_
      show mm_AW z k 6 (some (.int r)) F F 123 [(4, .int x16), (3, .int x8), (0, .ref (mmad k 1)), (1, .ref (mmad k 18)), (2, .ref (mmad k 21))] [.int x23, .int (mabs (x17 - x18))]
      refine mm_iadd C dX3_leastWays_123 124 rfl ?_
      obtain ⟨x24, ex24, h⟩ := me h
      refine mm_top ex24 ?_
      refine mm_istore (lv2 := [(5, .int x24), (4, .int x16), (3, .int x8), (0, .ref (mmad k 1)), (1, .ref (mmad k 18)), (2, .ref (mmad k 21))]) C dX3_leastWays_124 (by decide) rfl 126 rfl ?_
      refine mm_iload_n C dX3_leastWays_126 rfl 2 rfl 127 rfl ?_
      refine mm_iload C dX3_leastWays_127 1 rfl 129 rfl ?_
      refine mm_iload C dX3_leastWays_129 0 rfl 131 rfl ?_
      refine mm_min C mw_557 mw_517 mw_62 mw_518 (by omega) (Nat.le_trans (Nat.le_of_ble_eq_true rfl : _ ≤ 40) (by omega)) dX3_leastWays_131 134 rfl ?_
      refine mm_min C mw_557 mw_517 mw_62 mw_518 (by omega) (Nat.le_trans (Nat.le_of_ble_eq_true rfl : _ ≤ 40) (by omega)) dX3_leastWays_134 137 rfl ?_
      exact mm_iretP C (h) dX3_leastWays_137
    · rw [if_pos hc] at h
      refine mm_aload_n C dX3_leastWays_27 rfl 1 rfl 28 rfl ?_
      refine mm_iconst (v := (0 : Int32)) C dX3_leastWays_28 (by decide) 29 rfl ?_
      obtain ⟨x25, ex25, h⟩ := mb h
      refine mm_iald C ex25 dX3_leastWays_29 30 rfl ?_
      refine mm_aload_n C dX3_leastWays_30 rfl 1 rfl 31 rfl ?_
      refine mm_iconst (v := (1 : Int32)) C dX3_leastWays_31 (by decide) 32 rfl ?_
      obtain ⟨x26, ex26, h⟩ := mb h
      refine mm_iald C ex26 dX3_leastWays_32 33 rfl ?_
      refine mm_aload_n C dX3_leastWays_33 rfl 2 rfl 34 rfl ?_
      refine mm_iconst (v := (0 : Int32)) C dX3_leastWays_34 (by decide) 35 rfl ?_
      obtain ⟨x27, ex27, h⟩ := mb h
      refine mm_iald C ex27 dX3_leastWays_35 36 rfl ?_
      refine mm_aload_n C dX3_leastWays_36 rfl 2 rfl 37 rfl ?_
      refine mm_iconst (v := (1 : Int32)) C dX3_leastWays_37 (by decide) 38 rfl ?_
      obtain ⟨x28, ex28, h⟩ := mb h
      refine mm_iald C ex28 dX3_leastWays_38 39 rfl ?_
      obtain ⟨x29, ex29, h⟩ := mb h
      refine mm_callS [.int x25, .int x26, .int x27, .int x28] C (c_X3_pairWays ex29) wb_X3_pairWays ws_X3_63 rfl (by omega) rfl (Nat.le_of_ble_eq_true rfl) dX3_leastWays_39 42 rfl ?_
      show mm_AW z k 6 (some (.int r)) F F 42 [(0, .ref (mmad k 1)), (1, .ref (mmad k 18)), (2, .ref (mmad k 21))] [.int x29]
      exact mm_iretP C (h) dX3_leastWays_42
  · rw [if_pos hc] at h
    refine mm_aload_n C dX3_leastWays_8 rfl 1 rfl 9 rfl ?_
    refine mm_iconst (v := (0 : Int32)) C dX3_leastWays_9 (by decide) 10 rfl ?_
    obtain ⟨x30, ex30, h⟩ := mb h
    refine mm_iald C ex30 dX3_leastWays_10 11 rfl ?_
    refine mm_aload_n C dX3_leastWays_11 rfl 2 rfl 12 rfl ?_
    refine mm_iconst (v := (0 : Int32)) C dX3_leastWays_12 (by decide) 13 rfl ?_
    obtain ⟨x31, ex31, h⟩ := mb h
    refine mm_iald C ex31 dX3_leastWays_13 14 rfl ?_
    refine mm_isub C dX3_leastWays_14 15 rfl ?_
    refine mm_abs C mw_551 mw_552 mw_62 mw_553 (by omega) (Nat.le_trans (Nat.le_of_ble_eq_true rfl : _ ≤ 40) (by omega)) dX3_leastWays_15 18 rfl ?_
    exact mm_iretP C (h) dX3_leastWays_18
def m_X9_begin_17_L29 (x5 : Int32) : Nat → Int32 → mmS → Option (mmS)
  | 0, _, _ => none
  | n8 + 1, v6, G7 => if (G7 1 1) ≤ v6 then (some ((G7))) else (Option.bind (m_X3_pointOf x5 v6) fun x9 => Option.bind (ald G7 2 x9) fun x10 => Option.bind (ast G7 21 v6 x10) fun G11 => mlet (v6 + (1 : Int32)) fun x12 => m_X9_begin_17_L29 x5 n8 x12 G11)
def m_X9_begin_17_L6 : Nat → Int32 → mmS → Option (mmS)
  | 0, _, _ => none
  | n4 + 1, v2, G3 => if (G3 1 3) ≤ v2 then (some ((G3))) else (Option.bind (ald G3 5 v2) fun x5 => bd1 (m_X9_begin_17_L29 x5 300 (0 : Int32) G3) fun G13 => Option.bind (ald G13 4 x5) fun x14 => Option.bind (m_X3_leastWays_1_18_21 G13) fun x15 => Option.bind (ast G13 ((G13 17 7).toNatClampNeg) x14 x15) fun G16 => mlet (v2 + (1 : Int32)) fun x17 => m_X9_begin_17_L6 n4 x17 G16)
def m_X9_begin_17 (F : mmS)  : Option (mmS) :=
  Option.bind (m_X9_standAtStart_17 F) fun G1 => bd1 (m_X9_begin_17_L6 300 (0 : Int32) G1) fun G18 => some G18
set_option maxHeartbeats 4000000 in
set_option maxRecDepth 100000 in
theorem c_X9_begin_17 {l : Launch} {k : mmK} {F : mmS}  {F1 : mmS} (h : m_X9_begin_17 F = some F1) : mm_T l k yX9_begin cX9_begin 4 none 4 [.ref (mmad k 17)] F none F1 := by
  refine mm_start [(0, .ref (mmad k 17))] (by decide) (Nat.le_of_ble_eq_true rfl) rfl ?_
  intro z hz C
  subst hz
  have C : mm_C z k RX9 cX9_begin 4 none 4 := C
  replace h := mk0 h
  unfold m_X9_begin_17 at h
  refine mm_aload_n C dX9_begin_0 rfl 0 rfl 1 rfl ?_
  obtain ⟨G1, eG1, h⟩ := mb h
  refine mm_callV [] C (c_X9_standAtStart_17 eG1) wb_X9_standAtStart wv_X9_30 (by decide) (mc_17 k _) rfl rfl rfl (by omega) rfl (Nat.le_of_ble_eq_true rfl) dX9_begin_1 4 rfl ?_
  show mm_AW z k 4 none F1 G1 4 [(0, .ref (mmad k 17))] []
  refine mm_iconst (v := (0 : Int32)) C dX9_begin_4 (by decide) 5 rfl ?_
  refine mm_istore_n (lv2 := [(1, .int (0 : Int32)), (0, .ref (mmad k 17))]) C dX9_begin_5 rfl (by decide) rfl 6 rfl ?_
  refine mm_lv [1, 0] rfl ?_
  have hL6 : ∀ (K : (mmS) → Option (mmS)) (hK : ∀ (G3 : mmS) , K (G3) = some F1 → mm_AW z k 4 none F1 G3 100 [] []) (n4 : Nat) (v2 : Int32) (G3 : mmS) , (m_X9_begin_17_L6 n4 v2 G3).bind K = some F1 → mm_AW z k 4 none F1 G3 6 [(0, .ref (mmad k 17)), (1, .int v2)] [] := by
    intro K hK n4
    induction n4 with
    | zero => intro v2 G3 h; rw [m_X9_begin_17_L6] at h; cases h
    | succ n4 ih =>
      intro v2 G3 h
      rw [m_X9_begin_17_L6] at h
      refine mm_iload_n C dX9_begin_6 rfl 1 rfl 7 rfl ?_
      refine mm_aload_n C dX9_begin_7 rfl 0 rfl 8 rfl ?_
      refine mm_get C fl_X9_34_X9 (by decide) (mc_17 k _) rfl dX9_begin_8 11 rfl ?_
      refine mm_get C fl_X9_38_X3 (by decide) (mc_1 k _) rfl dX9_begin_11 14 rfl ?_
      refine mm_icmp_ge C dX9_begin_14 100 17 (by decide) rfl (fun hc => ?_) (fun hc => ?_)
      · rw [if_pos hc] at h
        refine mm_lv [] rfl ?_
        exact hK _ h
      · rw [if_neg hc] at h
        refine mm_aload_n C dX9_begin_17 rfl 0 rfl 18 rfl ?_
        refine mm_get C fl_X9_34_X9 (by decide) (mc_17 k _) rfl dX9_begin_18 21 rfl ?_
        refine mm_get C fl_X9_44_X3 (by decide) (mc_1 k _) rfl dX9_begin_21 24 rfl ?_
        refine mm_iload_n C dX9_begin_24 rfl 1 rfl 25 rfl ?_
        obtain ⟨x5, ex5, h⟩ := mb h
        refine mm_iald C ex5 dX9_begin_25 26 rfl ?_
        refine mm_istore_n (lv2 := [(2, .int x5), (0, .ref (mmad k 17)), (1, .int v2)]) C dX9_begin_26 rfl (by decide) rfl 27 rfl ?_
        refine mm_iconst (v := (0 : Int32)) C dX9_begin_27 (by decide) 28 rfl ?_
        refine mm_istore_n (lv2 := [(3, .int (0 : Int32)), (2, .int x5), (0, .ref (mmad k 17)), (1, .int v2)]) C dX9_begin_28 rfl (by decide) rfl 29 rfl ?_
        refine mm_lv [2, 3, 1, 0] rfl ?_
        have hL29 : ∀ (K : (mmS) → Option (mmS)) (hK : ∀ (G7 : mmS) , K (G7) = some F1 → mm_AW z k 4 none F1 G7 65 [(0, .ref (mmad k 17)), (1, .int v2), (2, .int x5)] []) (n8 : Nat) (v6 : Int32) (G7 : mmS) , (m_X9_begin_17_L29 x5 n8 v6 G7).bind K = some F1 → mm_AW z k 4 none F1 G7 29 [(0, .ref (mmad k 17)), (1, .int v2), (2, .int x5), (3, .int v6)] [] := by
          intro K hK n8
          induction n8 with
          | zero => intro v6 G7 h; rw [m_X9_begin_17_L29] at h; cases h
          | succ n8 ih =>
            intro v6 G7 h
            rw [m_X9_begin_17_L29] at h
            refine mm_iload_n C dX9_begin_29 rfl 3 rfl 30 rfl ?_
            refine mm_aload_n C dX9_begin_30 rfl 0 rfl 31 rfl ?_
            refine mm_get C fl_X9_34_X9 (by decide) (mc_17 k _) rfl dX9_begin_31 34 rfl ?_
            refine mm_get C fl_X9_47_X3 (by decide) (mc_1 k _) rfl dX9_begin_34 37 rfl ?_
            refine mm_icmp_ge C dX9_begin_37 65 40 (by decide) rfl (fun hc => ?_) (fun hc => ?_)
            · rw [if_pos hc] at h
              refine mm_lv [0, 1, 2] rfl ?_
              exact hK _ h
            · rw [if_neg hc] at h
              refine mm_aload_n C dX9_begin_40 rfl 0 rfl 41 rfl ?_
              refine mm_get C fl_X9_18_X9 (by decide) (mc_17 k _) rfl dX9_begin_41 44 rfl ?_
              refine mm_iload_n C dX9_begin_44 rfl 3 rfl 45 rfl ?_
              refine mm_aload_n C dX9_begin_45 rfl 0 rfl 46 rfl ?_
              refine mm_get C fl_X9_34_X9 (by decide) (mc_17 k _) rfl dX9_begin_46 49 rfl ?_
              refine mm_get C fl_X9_50_X3 (by decide) (mc_1 k _) rfl dX9_begin_49 52 rfl ?_
              refine mm_iload_n C dX9_begin_52 rfl 2 rfl 53 rfl ?_
              refine mm_iload_n C dX9_begin_53 rfl 3 rfl 54 rfl ?_
              obtain ⟨x9, ex9, h⟩ := mb h
              refine mm_callS [.int x5, .int v6] C (c_X3_pointOf ex9) wb_X3_pointOf ws_X9_53 rfl (by omega) rfl (Nat.le_of_ble_eq_true rfl) dX9_begin_54 57 rfl ?_
              show mm_AW z k 4 none F1 G7 57 [(0, .ref (mmad k 17)), (1, .int v2), (2, .int x5), (3, .int v6)] [.int x9, .ref (mmad k 2), .int v6, .ref (mmad k 21)]
              obtain ⟨x10, ex10, h⟩ := mb h
              refine mm_iald C ex10 dX9_begin_57 58 rfl ?_
              obtain ⟨G11, eG11, h⟩ := mb h
              refine mm_iast C eG11 dX9_begin_58 59 rfl ?_
              obtain ⟨x12, ex12, h⟩ := me h
              refine mm_iinc (v := x12) (lv2 := [(3, .int x12), (0, .ref (mmad k 17)), (1, .int v2), (2, .int x5)]) C dX9_begin_59 3 rfl (by rw [← ex12]; rfl) (by decide) rfl 62 rfl ?_
              refine mm_goto C dX9_begin_62 29 (by decide) ?_
              refine mm_lv [1, 2, 3, 0] rfl ?_
              exact ih _ _ h
        refine mj1 h (fun (G13 : mmS) => mm_AW z k 4 none F1 G13 65 [(0, .ref (mmad k 17)), (1, .int v2), (2, .int x5)] []) ?_ ?_
        · intro G13 h
          refine mm_aload_n C dX9_begin_65 rfl 0 rfl 66 rfl ?_
          refine mm_get C fl_X9_9_X9 (by decide) (mc_17 k _) rfl dX9_begin_66 69 rfl ?_
          refine mm_aload_n C dX9_begin_69 rfl 0 rfl 70 rfl ?_
          refine mm_get C fl_X9_34_X9 (by decide) (mc_17 k _) rfl dX9_begin_70 73 rfl ?_
          refine mm_get C fl_X9_56_X3 (by decide) (mc_1 k _) rfl dX9_begin_73 76 rfl ?_
          refine mm_iload_n C dX9_begin_76 rfl 2 rfl 77 rfl ?_
          obtain ⟨x14, ex14, h⟩ := mb h
          refine mm_iald C ex14 dX9_begin_77 78 rfl ?_
          refine mm_aload_n C dX9_begin_78 rfl 0 rfl 79 rfl ?_
          refine mm_get C fl_X9_34_X9 (by decide) (mc_17 k _) rfl dX9_begin_79 82 rfl ?_
          refine mm_aload_n C dX9_begin_82 rfl 0 rfl 83 rfl ?_
          refine mm_get C fl_X9_59_X9 (by decide) (mc_17 k _) rfl dX9_begin_83 86 rfl ?_
          refine mm_aload_n C dX9_begin_86 rfl 0 rfl 87 rfl ?_
          refine mm_get C fl_X9_18_X9 (by decide) (mc_17 k _) rfl dX9_begin_87 90 rfl ?_
          obtain ⟨x15, ex15, h⟩ := mb h
          refine mm_callV [.ref (mmad k 18), .ref (mmad k 21)] C (c_X3_leastWays_1_18_21 ex15) wb_X3_leastWays wv_X9_62 (by decide) (mc_1 k _) rfl rfl rfl (by omega) rfl (Nat.le_of_ble_eq_true rfl) dX9_begin_90 93 rfl ?_
          show mm_AW z k 4 none F1 G13 93 [(0, .ref (mmad k 17)), (1, .int v2), (2, .int x5)] [.int x15, .int x14, .ref (mmad k ((G13 17 7).toNatClampNeg))]
          obtain ⟨G16, eG16, h⟩ := mb h
          refine mm_iast C eG16 dX9_begin_93 94 rfl ?_
          obtain ⟨x17, ex17, h⟩ := me h
          refine mm_iinc (v := x17) (lv2 := [(1, .int x17), (0, .ref (mmad k 17)), (2, .int x5)]) C dX9_begin_94 1 rfl (by rw [← ex17]; rfl) (by decide) rfl 97 rfl ?_
          refine mm_goto C dX9_begin_97 6 (by decide) ?_
          refine mm_lv [1, 0] rfl ?_
          exact ih _ _ h
        · intro K2 hR h
          exact hL29 K2 hR 300 _ _ h
  refine mj1 h (fun (G18 : mmS) => mm_AW z k 4 none F1 G18 100 [] []) ?_ ?_
  · intro G18 h
    exact mm_vretW C (h) dX9_begin_100
  · intro K2 hR h
    exact hL6 K2 hR 300 _ _ h
def m_X3_moved (a0 : Int32) (a1 : Int32) (a2 : Int32) : Option (Int32) :=
  Option.bind (m_X3_pointOf a0 a1) fun x1 => mlet (a2 - x1) fun x2 => if a1 = (0 : Int32) then (some (a0 + x2)) else (if a1 = (1 : Int32) then (some (a0 + ((6 : Int32) * x2))) else (some (a0 + ((36 : Int32) * x2))))
set_option maxHeartbeats 4000000 in
set_option maxRecDepth 100000 in
theorem c_X3_moved {l : Launch} {k : mmK} {F : mmS} {a0 : Int32} {a1 : Int32} {a2 : Int32} {r : Int32} (h : m_X3_moved a0 a1 a2 = some r) : mm_T l k yX3_moved cX3_moved 4 (some .int) 1 [.int a0, .int a1, .int a2] F (some (.int r)) F := by
  refine mm_start [(0, .int a0), (1, .int a1), (2, .int a2)] (by decide) (Nat.le_of_ble_eq_true rfl) rfl ?_
  intro z hz C
  subst hz
  have C : mm_C z k RX3 cX3_moved 4 (some .int) 1 := C
  replace h := mk0 h
  unfold m_X3_moved at h
  refine mm_iload_n C dX3_moved_0 rfl 2 rfl 1 rfl ?_
  refine mm_iload_n C dX3_moved_1 rfl 0 rfl 2 rfl ?_
  refine mm_iload_n C dX3_moved_2 rfl 1 rfl 3 rfl ?_
  obtain ⟨x1, ex1, h⟩ := mb h
  refine mm_callS [.int a0, .int a1] C (c_X3_pointOf ex1) wb_X3_pointOf ws_X3_54 rfl (by omega) rfl (Nat.le_of_ble_eq_true rfl) dX3_moved_3 6 rfl ?_
  show mm_AW z k 4 (some (.int r)) F F 6 [(0, .int a0), (1, .int a1), (2, .int a2)] [.int x1, .int a2]
  refine mm_isub C dX3_moved_6 7 rfl ?_
  obtain ⟨x2, ex2, h⟩ := me h
  refine mm_top ex2 ?_
  refine mm_istore_n (lv2 := [(3, .int x2), (0, .int a0), (1, .int a1), (2, .int a2)]) C dX3_moved_7 rfl (by decide) rfl 8 rfl ?_
  refine mm_iload_n C dX3_moved_8 rfl 2 rfl 9 rfl ?_
  refine mm_if_ne C dX3_moved_9 16 12 (by decide) rfl (fun hc => ?_) (fun hc => ?_)
  · rw [if_neg hc] at h
    refine mm_iload_n C dX3_moved_16 rfl 2 rfl 17 rfl ?_
    refine mm_iconst (v := (1 : Int32)) C dX3_moved_17 (by decide) 18 rfl ?_
    refine mm_icmp_ne C dX3_moved_18 30 21 (by decide) rfl (fun hc => ?_) (fun hc => ?_)
    · rw [if_neg hc] at h
      refine mm_iload_n C dX3_moved_30 rfl 1 rfl 31 rfl ?_
      refine mm_bipush (v := (36 : Int32)) C dX3_moved_31 (by decide) 33 rfl ?_
      refine mm_iload_n C dX3_moved_33 rfl 0 rfl 34 rfl ?_
      refine mm_imul C dX3_moved_34 35 rfl ?_
      refine mm_iadd C dX3_moved_35 36 rfl ?_
      exact mm_iretP C (h) dX3_moved_36
    · rw [if_pos hc] at h
      refine mm_iload_n C dX3_moved_21 rfl 1 rfl 22 rfl ?_
      refine mm_bipush (v := (6 : Int32)) C dX3_moved_22 (by decide) 24 rfl ?_
      refine mm_iload_n C dX3_moved_24 rfl 0 rfl 25 rfl ?_
      refine mm_imul C dX3_moved_25 26 rfl ?_
      refine mm_iadd C dX3_moved_26 27 rfl ?_
      refine mm_goto C dX3_moved_27 36 (by decide) ?_
      exact mm_iretP C (h) dX3_moved_36
  · rw [if_pos hc] at h
    refine mm_iload_n C dX3_moved_12 rfl 1 rfl 13 rfl ?_
    refine mm_iload_n C dX3_moved_13 rfl 0 rfl 14 rfl ?_
    refine mm_iadd C dX3_moved_14 15 rfl ?_
    exact mm_iretP C (h) dX3_moved_15
def m_X3_wayOf_1 (F : mmS) (a1 : Int32) (a2 : Int32) (a3 : Int32) : Option (Int32) :=
  Option.bind (m_X3_pointOf a1 a2) fun x1 => Option.bind (ald F 2 x1) fun x2 => Option.bind (ald F 2 a3) fun x3 => some (mabs (x2 - x3))
set_option maxHeartbeats 4000000 in
set_option maxRecDepth 100000 in
theorem c_X3_wayOf_1 {l : Launch} {k : mmK} {F : mmS} {a1 : Int32} {a2 : Int32} {a3 : Int32} {r : Int32} (h : m_X3_wayOf_1 F a1 a2 a3 = some r) : mm_T l k yX3_wayOf cX3_wayOf 4 (some .int) 1 [.ref (mmad k 1), .int a1, .int a2, .int a3] F (some (.int r)) F := by
  refine mm_start [(0, .ref (mmad k 1)), (1, .int a1), (2, .int a2), (3, .int a3)] (by decide) (Nat.le_of_ble_eq_true rfl) rfl ?_
  intro z hz C
  subst hz
  have C : mm_C z k RX3 cX3_wayOf 4 (some .int) 1 := C
  replace h := mk0 h
  unfold m_X3_wayOf_1 at h
  refine mm_aload_n C dX3_wayOf_0 rfl 0 rfl 1 rfl ?_
  refine mm_get C fl_X3_21_X3 (by decide) (mc_1 k _) rfl dX3_wayOf_1 4 rfl ?_
  refine mm_iload_n C dX3_wayOf_4 rfl 1 rfl 5 rfl ?_
  refine mm_iload_n C dX3_wayOf_5 rfl 2 rfl 6 rfl ?_
  obtain ⟨x1, ex1, h⟩ := mb h
  refine mm_callS [.int a1, .int a2] C (c_X3_pointOf ex1) wb_X3_pointOf ws_X3_54 rfl (by omega) rfl (Nat.le_of_ble_eq_true rfl) dX3_wayOf_6 9 rfl ?_
  show mm_AW z k 4 (some (.int r)) F F 9 [(0, .ref (mmad k 1)), (1, .int a1), (2, .int a2), (3, .int a3)] [.int x1, .ref (mmad k 2)]
  obtain ⟨x2, ex2, h⟩ := mb h
  refine mm_iald C ex2 dX3_wayOf_9 10 rfl ?_
  refine mm_aload_n C dX3_wayOf_10 rfl 0 rfl 11 rfl ?_
  refine mm_get C fl_X3_21_X3 (by decide) (mc_1 k _) rfl dX3_wayOf_11 14 rfl ?_
  refine mm_iload_n C dX3_wayOf_14 rfl 3 rfl 15 rfl ?_
  obtain ⟨x3, ex3, h⟩ := mb h
  refine mm_iald C ex3 dX3_wayOf_15 16 rfl ?_
  refine mm_isub C dX3_wayOf_16 17 rfl ?_
  refine mm_abs C mw_551 mw_552 mw_62 mw_553 (by omega) (Nat.le_trans (Nat.le_of_ble_eq_true rfl : _ ≤ 40) (by omega)) dX3_wayOf_17 20 rfl ?_
  exact mm_iretP C (h) dX3_wayOf_20
def m_X9_worthBehind_17_L35 (a1 : Int32) (a2 : Int32) (F : mmS) (x1 : Int32) (rc : mmS → Int32 → Int32 → Option (Int32)) : Nat → Int32 → Int32 → Option (Int32)
  | 0, _, _ => none
  | n4 + 1, v2, v3 => if (F 1 1) ≤ v3 then (some ((v2))) else (Option.bind (m_X3_moved a1 v3 x1) fun x5 => Option.bind (rc F x5 (a2 - (1 : Int32))) fun x6 => Option.bind (m_X3_wayOf_1 F a1 v3 x1) fun x7 => mlet (mmin v2 (x6 + x7)) fun x8 => mlet (v3 + (1 : Int32)) fun x9 => m_X9_worthBehind_17_L35 a1 a2 F x1 rc n4 x8 x9)
def m_X9_worthBehind_17 : Nat → mmS → Int32 → Int32 → Option (Int32)
  | 0, _, _, _ => none
  | nr + 1, F, a1, a2 => if (0 : Int32) < a2 then (Option.bind (ald F 22 (a2 - (1 : Int32))) fun x1 => bd1 (m_X9_worthBehind_17_L35 a1 a2 F x1 (m_X9_worthBehind_17 nr) 300 (2147483647 : Int32) (0 : Int32)) fun y10 => some y10) else (Option.bind (ald F 4 a1) fun x11 => Option.bind (ald F ((F 17 7).toNatClampNeg) x11) fun x12 => some x12)
set_option maxHeartbeats 4000000 in
set_option maxRecDepth 100000 in
theorem c_X9_worthBehind_17 {l : Launch} {k : mmK} (nr : Nat) {F : mmS} {a1 : Int32} {a2 : Int32} {r : Int32} (h : m_X9_worthBehind_17 nr F a1 a2 = some r) : mm_T l k yX9_worthBehind cX9_worthBehind 7 (some .int) (nr + 2) [.ref (mmad k 17), .int a1, .int a2] F (some (.int r)) F := by
  induction nr generalizing F a1 a2 r with
  | zero => rw [m_X9_worthBehind_17] at h; cases h
  | succ nr ihr =>
    refine mm_start [(0, .ref (mmad k 17)), (1, .int a1), (2, .int a2)] (by decide) (Nat.le_of_ble_eq_true rfl) rfl ?_
    intro z hz C
    subst hz
    have C : mm_C z k RX9 cX9_worthBehind 7 (some .int) (nr + 1 + 2) := C
    replace h := mk0 h
    rw [m_X9_worthBehind_17] at h
    refine mm_iload_n C dX9_worthBehind_0 rfl 2 rfl 1 rfl ?_
    refine mm_if_gt C dX9_worthBehind_1 19 4 (by decide) rfl (fun hc => ?_) (fun hc => ?_)
    · rw [if_pos hc] at h
      refine mm_aload_n C dX9_worthBehind_19 rfl 0 rfl 20 rfl ?_
      refine mm_get C fl_X9_27_X9 (by decide) (mc_17 k _) rfl dX9_worthBehind_20 23 rfl ?_
      refine mm_iload_n C dX9_worthBehind_23 rfl 2 rfl 24 rfl ?_
      refine mm_iconst (v := (1 : Int32)) C dX9_worthBehind_24 (by decide) 25 rfl ?_
      refine mm_isub C dX9_worthBehind_25 26 rfl ?_
      obtain ⟨x1, ex1, h⟩ := mb h
      refine mm_iald C ex1 dX9_worthBehind_26 27 rfl ?_
      refine mm_istore_n (lv2 := [(3, .int x1), (0, .ref (mmad k 17)), (1, .int a1), (2, .int a2)]) C dX9_worthBehind_27 rfl (by decide) rfl 28 rfl ?_
      refine mm_ldc (v := (2147483647 : Int32)) C dX9_worthBehind_28 mw_656 30 rfl ?_
      refine mm_istore (lv2 := [(4, .int (2147483647 : Int32)), (3, .int x1), (0, .ref (mmad k 17)), (1, .int a1), (2, .int a2)]) C dX9_worthBehind_30 (by decide) rfl 32 rfl ?_
      refine mm_iconst (v := (0 : Int32)) C dX9_worthBehind_32 (by decide) 33 rfl ?_
      refine mm_istore (lv2 := [(5, .int (0 : Int32)), (4, .int (2147483647 : Int32)), (3, .int x1), (0, .ref (mmad k 17)), (1, .int a1), (2, .int a2)]) C dX9_worthBehind_33 (by decide) rfl 35 rfl ?_
      refine mm_lv [3, 4, 5, 2, 1, 0] rfl ?_
      have hL35 : ∀ (K : (Int32) → Option (Int32)) (hK : ∀ (v2 : Int32) , K (v2) = some r → mm_AW z k 7 (some (.int r)) F F 90 [(4, .int v2)] []) (n4 : Nat) (v2 : Int32) (v3 : Int32) , (m_X9_worthBehind_17_L35 a1 a2 F x1 (m_X9_worthBehind_17 nr) n4 v2 v3).bind K = some r → mm_AW z k 7 (some (.int r)) F F 35 [(0, .ref (mmad k 17)), (1, .int a1), (2, .int a2), (3, .int x1), (4, .int v2), (5, .int v3)] [] := by
        intro K hK n4
        induction n4 with
        | zero => intro v2 v3 h; rw [m_X9_worthBehind_17_L35] at h; cases h
        | succ n4 ih =>
          intro v2 v3 h
          rw [m_X9_worthBehind_17_L35] at h
          refine mm_iload C dX9_worthBehind_35 5 rfl 37 rfl ?_
          refine mm_aload_n C dX9_worthBehind_37 rfl 0 rfl 38 rfl ?_
          refine mm_get C fl_X9_34_X9 (by decide) (mc_17 k _) rfl dX9_worthBehind_38 41 rfl ?_
          refine mm_get C fl_X9_47_X3 (by decide) (mc_1 k _) rfl dX9_worthBehind_41 44 rfl ?_
          refine mm_icmp_ge C dX9_worthBehind_44 90 47 (by decide) rfl (fun hc => ?_) (fun hc => ?_)
          · rw [if_pos hc] at h
            refine mm_lv [4] rfl ?_
            exact hK _ h
          · rw [if_neg hc] at h
            refine mm_aload_n C dX9_worthBehind_47 rfl 0 rfl 48 rfl ?_
            refine mm_iload_n C dX9_worthBehind_48 rfl 1 rfl 49 rfl ?_
            refine mm_iload C dX9_worthBehind_49 5 rfl 51 rfl ?_
            refine mm_iload_n C dX9_worthBehind_51 rfl 3 rfl 52 rfl ?_
            obtain ⟨x5, ex5, h⟩ := mb h
            refine mm_callS [.int a1, .int v3, .int x1] C (c_X3_moved ex5) wb_X3_moved ws_X9_81 rfl (by omega) rfl (Nat.le_of_ble_eq_true rfl) dX9_worthBehind_52 55 rfl ?_
            show mm_AW z k 7 (some (.int r)) F F 55 [(0, .ref (mmad k 17)), (1, .int a1), (2, .int a2), (3, .int x1), (4, .int v2), (5, .int v3)] [.int x5, .ref (mmad k 17)]
            refine mm_iload_n C dX9_worthBehind_55 rfl 2 rfl 56 rfl ?_
            refine mm_iconst (v := (1 : Int32)) C dX9_worthBehind_56 (by decide) 57 rfl ?_
            refine mm_isub C dX9_worthBehind_57 58 rfl ?_
            obtain ⟨x6, ex6, h⟩ := mb h
            refine mm_callV [.int x5, .int (a2 - (1 : Int32))] C (ihr ex6) wb_X9_worthBehind wv_X9_77 (by decide) (mc_17 k _) rfl rfl rfl (by omega) rfl (Nat.le_of_ble_eq_true rfl) dX9_worthBehind_58 61 rfl ?_
            show mm_AW z k 7 (some (.int r)) F F 61 [(0, .ref (mmad k 17)), (1, .int a1), (2, .int a2), (3, .int x1), (4, .int v2), (5, .int v3)] [.int x6]
            refine mm_istore (lv2 := [(6, .int x6), (0, .ref (mmad k 17)), (1, .int a1), (2, .int a2), (3, .int x1), (4, .int v2), (5, .int v3)]) C dX9_worthBehind_61 (by decide) rfl 63 rfl ?_
            refine mm_iload C dX9_worthBehind_63 5 rfl 65 rfl ?_
            refine mm_iload C dX9_worthBehind_65 0 rfl 67 rfl ?_
            refine mm_aload_n C dX9_worthBehind_67 rfl 1 rfl 68 rfl ?_
            refine mm_get C fl_X9_34_X9 (by decide) (mc_17 k _) rfl dX9_worthBehind_68 71 rfl ?_
            refine mm_iload_n C dX9_worthBehind_71 rfl 2 rfl 72 rfl ?_
            refine mm_iload C dX9_worthBehind_72 6 rfl 74 rfl ?_
            refine mm_iload_n C dX9_worthBehind_74 rfl 4 rfl 75 rfl ?_
            obtain ⟨x7, ex7, h⟩ := mb h
            refine mm_callV [.int a1, .int v3, .int x1] C (c_X3_wayOf_1 ex7) wb_X3_wayOf wv_X9_85 (by decide) (mc_1 k _) rfl rfl rfl (by omega) rfl (Nat.le_of_ble_eq_true rfl) dX9_worthBehind_75 78 rfl ?_
            show mm_AW z k 7 (some (.int r)) F F 78 [(6, .int x6), (0, .ref (mmad k 17)), (1, .int a1), (2, .int a2), (3, .int x1), (4, .int v2), (5, .int v3)] [.int x7, .int x6, .int v2]
            refine mm_iadd C dX9_worthBehind_78 79 rfl ?_
            refine mm_min C mw_659 mw_517 mw_62 mw_518 (by omega) (Nat.le_trans (Nat.le_of_ble_eq_true rfl : _ ≤ 40) (by omega)) dX9_worthBehind_79 82 rfl ?_
            obtain ⟨x8, ex8, h⟩ := me h
            refine mm_top ex8 ?_
            refine mm_istore (lv2 := [(4, .int x8), (6, .int x6), (0, .ref (mmad k 17)), (1, .int a1), (2, .int a2), (3, .int x1), (5, .int v3)]) C dX9_worthBehind_82 (by decide) rfl 84 rfl ?_
            obtain ⟨x9, ex9, h⟩ := me h
            refine mm_iinc (v := x9) (lv2 := [(5, .int x9), (4, .int x8), (6, .int x6), (0, .ref (mmad k 17)), (1, .int a1), (2, .int a2), (3, .int x1)]) C dX9_worthBehind_84 6 rfl (by rw [← ex9]; rfl) (by decide) rfl 87 rfl ?_
            refine mm_goto C dX9_worthBehind_87 35 (by decide) ?_
            refine mm_lv [3, 4, 5, 6, 1, 0] rfl ?_
            exact ih _ _ h
      refine mj1 h (fun (y10 : Int32) => mm_AW z k 7 (some (.int r)) F F 90 [(4, .int y10)] []) ?_ ?_
      · intro y10 h
        refine mm_iload C dX9_worthBehind_90 0 rfl 92 rfl ?_
        exact mm_iretP C (h) dX9_worthBehind_92
      · intro K2 hR h
        exact hL35 K2 hR 300 _ _ h
    · rw [if_neg hc] at h
      refine mm_aload_n C dX9_worthBehind_4 rfl 0 rfl 5 rfl ?_
      refine mm_get C fl_X9_9_X9 (by decide) (mc_17 k _) rfl dX9_worthBehind_5 8 rfl ?_
      refine mm_aload_n C dX9_worthBehind_8 rfl 0 rfl 9 rfl ?_
      refine mm_get C fl_X9_34_X9 (by decide) (mc_17 k _) rfl dX9_worthBehind_9 12 rfl ?_
      refine mm_get C fl_X9_56_X3 (by decide) (mc_1 k _) rfl dX9_worthBehind_12 15 rfl ?_
      refine mm_iload_n C dX9_worthBehind_15 rfl 1 rfl 16 rfl ?_
      obtain ⟨x11, ex11, h⟩ := mb h
      refine mm_iald C ex11 dX9_worthBehind_16 17 rfl ?_
      obtain ⟨x12, ex12, h⟩ := mb h
      refine mm_iald C ex12 dX9_worthBehind_17 18 rfl ?_
      exact mm_iretP C (h) dX9_worthBehind_18
def m_X9_settle_17_L2 : Nat → Int32 → mmS → Option (mmS)
  | 0, _, _ => none
  | n3 + 1, v1, G2 => if (G2 1 3) ≤ v1 then (some ((G2))) else (Option.bind (ald G2 5 v1) fun x4 => Option.bind (ald G2 4 x4) fun x5 => Option.bind (m_X9_worthBehind_17 5 G2 x4 (G2 17 5)) fun x6 => Option.bind (ast G2 ((G2 17 8).toNatClampNeg) x5 x6) fun G7 => mlet (v1 + (1 : Int32)) fun x8 => m_X9_settle_17_L2 n3 x8 G7)
def m_X9_settle_17 (F : mmS)  : Option (mmS) :=
  bd1 (m_X9_settle_17_L2 300 (0 : Int32) F) fun G9 => mlet (stF G9 17 7 (G9 17 8)) fun G10 => mlet (stF G10 17 8 (G9 17 7)) fun G11 => mlet (stF G11 17 5 (0 : Int32)) fun G12 => some G12
set_option maxHeartbeats 4000000 in
set_option maxRecDepth 100000 in
theorem c_X9_settle_17 {l : Launch} {k : mmK} {F : mmS}  {F1 : mmS} (h : m_X9_settle_17 F = some F1) : mm_T l k yX9_settle cX9_settle 3 none 8 [.ref (mmad k 17)] F none F1 := by
  refine mm_start [(0, .ref (mmad k 17))] (by decide) (Nat.le_of_ble_eq_true rfl) rfl ?_
  intro z hz C
  subst hz
  have C : mm_C z k RX9 cX9_settle 3 none 8 := C
  replace h := mk0 h
  unfold m_X9_settle_17 at h
  refine mm_iconst (v := (0 : Int32)) C dX9_settle_0 (by decide) 1 rfl ?_
  refine mm_istore_n (lv2 := [(1, .int (0 : Int32)), (0, .ref (mmad k 17))]) C dX9_settle_1 rfl (by decide) rfl 2 rfl ?_
  refine mm_lv [1, 0] rfl ?_
  have hL2 : ∀ (K : (mmS) → Option (mmS)) (hK : ∀ (G2 : mmS) , K (G2) = some F1 → mm_AW z k 3 none F1 G2 52 [(0, .ref (mmad k 17))] []) (n3 : Nat) (v1 : Int32) (G2 : mmS) , (m_X9_settle_17_L2 n3 v1 G2).bind K = some F1 → mm_AW z k 3 none F1 G2 2 [(0, .ref (mmad k 17)), (1, .int v1)] [] := by
    intro K hK n3
    induction n3 with
    | zero => intro v1 G2 h; rw [m_X9_settle_17_L2] at h; cases h
    | succ n3 ih =>
      intro v1 G2 h
      rw [m_X9_settle_17_L2] at h
      refine mm_iload_n C dX9_settle_2 rfl 1 rfl 3 rfl ?_
      refine mm_aload_n C dX9_settle_3 rfl 0 rfl 4 rfl ?_
      refine mm_get C fl_X9_34_X9 (by decide) (mc_17 k _) rfl dX9_settle_4 7 rfl ?_
      refine mm_get C fl_X9_38_X3 (by decide) (mc_1 k _) rfl dX9_settle_7 10 rfl ?_
      refine mm_icmp_ge C dX9_settle_10 52 13 (by decide) rfl (fun hc => ?_) (fun hc => ?_)
      · rw [if_pos hc] at h
        refine mm_lv [0] rfl ?_
        exact hK _ h
      · rw [if_neg hc] at h
        refine mm_aload_n C dX9_settle_13 rfl 0 rfl 14 rfl ?_
        refine mm_get C fl_X9_34_X9 (by decide) (mc_17 k _) rfl dX9_settle_14 17 rfl ?_
        refine mm_get C fl_X9_44_X3 (by decide) (mc_1 k _) rfl dX9_settle_17 20 rfl ?_
        refine mm_iload_n C dX9_settle_20 rfl 1 rfl 21 rfl ?_
        obtain ⟨x4, ex4, h⟩ := mb h
        refine mm_iald C ex4 dX9_settle_21 22 rfl ?_
        refine mm_istore_n (lv2 := [(2, .int x4), (0, .ref (mmad k 17)), (1, .int v1)]) C dX9_settle_22 rfl (by decide) rfl 23 rfl ?_
        refine mm_aload_n C dX9_settle_23 rfl 1 rfl 24 rfl ?_
        refine mm_get C fl_X9_15_X9 (by decide) (mc_17 k _) rfl dX9_settle_24 27 rfl ?_
        refine mm_aload_n C dX9_settle_27 rfl 1 rfl 28 rfl ?_
        refine mm_get C fl_X9_34_X9 (by decide) (mc_17 k _) rfl dX9_settle_28 31 rfl ?_
        refine mm_get C fl_X9_56_X3 (by decide) (mc_1 k _) rfl dX9_settle_31 34 rfl ?_
        refine mm_iload_n C dX9_settle_34 rfl 0 rfl 35 rfl ?_
        obtain ⟨x5, ex5, h⟩ := mb h
        refine mm_iald C ex5 dX9_settle_35 36 rfl ?_
        refine mm_aload_n C dX9_settle_36 rfl 1 rfl 37 rfl ?_
        refine mm_iload_n C dX9_settle_37 rfl 0 rfl 38 rfl ?_
        refine mm_aload_n C dX9_settle_38 rfl 1 rfl 39 rfl ?_
        refine mm_get C fl_X9_74_X9 (by decide) (mc_17 k _) rfl dX9_settle_39 42 rfl ?_
        obtain ⟨x6, ex6, h⟩ := mb h
        refine mm_callV [.int x4, .int (G2 17 5)] C (c_X9_worthBehind_17 5 ex6) wb_X9_worthBehind wv_X9_77 (by decide) (mc_17 k _) rfl rfl rfl (by omega) rfl (Nat.le_of_ble_eq_true rfl) dX9_settle_42 45 rfl ?_
        show mm_AW z k 3 none F1 G2 45 [(2, .int x4), (0, .ref (mmad k 17)), (1, .int v1)] [.int x6, .int x5, .ref (mmad k ((G2 17 8).toNatClampNeg))]
        obtain ⟨G7, eG7, h⟩ := mb h
        refine mm_iast C eG7 dX9_settle_45 46 rfl ?_
        obtain ⟨x8, ex8, h⟩ := me h
        refine mm_iinc (v := x8) (lv2 := [(1, .int x8), (2, .int x4), (0, .ref (mmad k 17))]) C dX9_settle_46 2 rfl (by rw [← ex8]; rfl) (by decide) rfl 49 rfl ?_
        refine mm_goto C dX9_settle_49 2 (by decide) ?_
        refine mm_lv [2, 0] rfl ?_
        exact ih _ _ h
  refine mj1 h (fun (G9 : mmS) => mm_AW z k 3 none F1 G9 52 [(0, .ref (mmad k 17))] []) ?_ ?_
  · intro G9 h
    refine mm_aload_n C dX9_settle_52 rfl 0 rfl 53 rfl ?_
    refine mm_get C fl_X9_9_X9 (by decide) (mc_17 k _) rfl dX9_settle_53 56 rfl ?_
    refine mm_astore_n (lv2 := [(1, .ref (mmad k ((G9 17 7).toNatClampNeg))), (0, .ref (mmad k 17))]) C dX9_settle_56 rfl (by decide) rfl 57 rfl ?_
    refine mm_aload_n C dX9_settle_57 rfl 1 rfl 58 rfl ?_
    refine mm_aload_n C dX9_settle_58 rfl 1 rfl 59 rfl ?_
    refine mm_get C fl_X9_15_X9 (by decide) (mc_17 k _) rfl dX9_settle_59 62 rfl ?_
    obtain ⟨G10, eG10, h⟩ := me h
    refine mm_put (x := G9 17 8) (ty := (.array .int)) C fl_X9_9_X9 (by decide) (mc_17 k _) (mc_17 k _) tyX9 tyX9_ok nmX9 rfl (by decide +kernel) rfl rfl (Nat.le_of_ble_eq_true rfl) eG10 dX9_settle_62 65 rfl ?_
    refine mm_aload_n C dX9_settle_65 rfl 1 rfl 66 rfl ?_
    refine mm_aload_n C dX9_settle_66 rfl 0 rfl 67 rfl ?_
    obtain ⟨G11, eG11, h⟩ := me h
    refine mm_put (x := G9 17 7) (ty := (.array .int)) C fl_X9_15_X9 (by decide) (mc_17 k _) (mc_17 k _) tyX9 tyX9_ok nmX9 rfl (by decide +kernel) rfl rfl (Nat.le_of_ble_eq_true rfl) eG11 dX9_settle_67 70 rfl ?_
    refine mm_aload_n C dX9_settle_70 rfl 1 rfl 71 rfl ?_
    refine mm_iconst (v := (0 : Int32)) C dX9_settle_71 (by decide) 72 rfl ?_
    obtain ⟨G12, eG12, h⟩ := me h
    refine mm_put (x := (0 : Int32)) (ty := .int) C fl_X9_74_X9 (by decide) (mc_17 k _) (mc_17 k _) tyX9 tyX9_ok nmX9 rfl (by decide +kernel) rfl rfl (Nat.le_of_ble_eq_true rfl) eG12 dX9_settle_72 75 rfl ?_
    exact mm_vretW C (h) dX9_settle_75
  · intro K2 hR h
    exact hL2 K2 hR 300 _ _ h
def m_X9_chosen_17_L8 (a1 : Int32) (F : mmS) : Nat → Int32 → Int32 → Int32 → Option (Int32)
  | 0, _, _, _ => none
  | n4 + 1, v1, v2, v3 => if (F 1 1) ≤ v3 then (some ((v1))) else (Option.bind (m_X3_moved (F 17 6) v3 a1) fun x5 => Option.bind (m_X9_worthBehind_17 5 F x5 (F 17 5)) fun x6 => Option.bind (m_X3_wayOf_1 F (F 17 6) v3 a1) fun x7 => mlet (x6 + x7) fun x8 => bd2 (if v2 ≤ x8 then (some (v1, v2)) else (some (v3, x8))) fun y9 y10 => mlet (v3 + (1 : Int32)) fun x11 => m_X9_chosen_17_L8 a1 F n4 y9 y10 x11)
def m_X9_chosen_17 (F : mmS) (a1 : Int32) : Option (Int32) :=
  bd1 (m_X9_chosen_17_L8 a1 F 300 (0 : Int32) (2147483647 : Int32) (0 : Int32)) fun y12 => some y12
set_option maxHeartbeats 4000000 in
set_option maxRecDepth 100000 in
theorem c_X9_chosen_17 {l : Launch} {k : mmK} {F : mmS} {a1 : Int32} {r : Int32} (h : m_X9_chosen_17 F a1 = some r) : mm_T l k yX9_chosen cX9_chosen 7 (some .int) 8 [.ref (mmad k 17), .int a1] F (some (.int r)) F := by
  refine mm_start [(0, .ref (mmad k 17)), (1, .int a1)] (by decide) (Nat.le_of_ble_eq_true rfl) rfl ?_
  intro z hz C
  subst hz
  have C : mm_C z k RX9 cX9_chosen 7 (some .int) 8 := C
  replace h := mk0 h
  unfold m_X9_chosen_17 at h
  refine mm_iconst (v := (0 : Int32)) C dX9_chosen_0 (by decide) 1 rfl ?_
  refine mm_istore_n (lv2 := [(2, .int (0 : Int32)), (0, .ref (mmad k 17)), (1, .int a1)]) C dX9_chosen_1 rfl (by decide) rfl 2 rfl ?_
  refine mm_ldc (v := (2147483647 : Int32)) C dX9_chosen_2 mw_656 4 rfl ?_
  refine mm_istore_n (lv2 := [(3, .int (2147483647 : Int32)), (2, .int (0 : Int32)), (0, .ref (mmad k 17)), (1, .int a1)]) C dX9_chosen_4 rfl (by decide) rfl 5 rfl ?_
  refine mm_iconst (v := (0 : Int32)) C dX9_chosen_5 (by decide) 6 rfl ?_
  refine mm_istore (lv2 := [(4, .int (0 : Int32)), (3, .int (2147483647 : Int32)), (2, .int (0 : Int32)), (0, .ref (mmad k 17)), (1, .int a1)]) C dX9_chosen_6 (by decide) rfl 8 rfl ?_
  refine mm_lv [3, 4, 2, 1, 0] rfl ?_
  have hL8 : ∀ (K : (Int32) → Option (Int32)) (hK : ∀ (v1 : Int32) , K (v1) = some r → mm_AW z k 7 (some (.int r)) F F 77 [(2, .int v1)] []) (n4 : Nat) (v1 : Int32) (v2 : Int32) (v3 : Int32) , (m_X9_chosen_17_L8 a1 F n4 v1 v2 v3).bind K = some r → mm_AW z k 7 (some (.int r)) F F 8 [(0, .ref (mmad k 17)), (1, .int a1), (2, .int v1), (3, .int v2), (4, .int v3)] [] := by
    intro K hK n4
    induction n4 with
    | zero => intro v1 v2 v3 h; rw [m_X9_chosen_17_L8] at h; cases h
    | succ n4 ih =>
      intro v1 v2 v3 h
      rw [m_X9_chosen_17_L8] at h
      refine mm_iload C dX9_chosen_8 4 rfl 10 rfl ?_
      refine mm_aload_n C dX9_chosen_10 rfl 0 rfl 11 rfl ?_
      refine mm_get C fl_X9_34_X9 (by decide) (mc_17 k _) rfl dX9_chosen_11 14 rfl ?_
      refine mm_get C fl_X9_47_X3 (by decide) (mc_1 k _) rfl dX9_chosen_14 17 rfl ?_
      refine mm_icmp_ge C dX9_chosen_17 77 20 (by decide) rfl (fun hc => ?_) (fun hc => ?_)
      · rw [if_pos hc] at h
        refine mm_lv [2] rfl ?_
        exact hK _ h
      · rw [if_neg hc] at h
        refine mm_aload_n C dX9_chosen_20 rfl 0 rfl 21 rfl ?_
        refine mm_aload_n C dX9_chosen_21 rfl 0 rfl 22 rfl ?_
        refine mm_get C fl_X9_71_X9 (by decide) (mc_17 k _) rfl dX9_chosen_22 25 rfl ?_
        refine mm_iload C dX9_chosen_25 4 rfl 27 rfl ?_
        refine mm_iload_n C dX9_chosen_27 rfl 1 rfl 28 rfl ?_
        obtain ⟨x5, ex5, h⟩ := mb h
        refine mm_callS [.int (F 17 6), .int v3, .int a1] C (c_X3_moved ex5) wb_X3_moved ws_X9_81 rfl (by omega) rfl (Nat.le_of_ble_eq_true rfl) dX9_chosen_28 31 rfl ?_
        show mm_AW z k 7 (some (.int r)) F F 31 [(0, .ref (mmad k 17)), (1, .int a1), (2, .int v1), (3, .int v2), (4, .int v3)] [.int x5, .ref (mmad k 17)]
        refine mm_aload_n C dX9_chosen_31 rfl 0 rfl 32 rfl ?_
        refine mm_get C fl_X9_74_X9 (by decide) (mc_17 k _) rfl dX9_chosen_32 35 rfl ?_
        obtain ⟨x6, ex6, h⟩ := mb h
        refine mm_callV [.int x5, .int (F 17 5)] C (c_X9_worthBehind_17 5 ex6) wb_X9_worthBehind wv_X9_77 (by decide) (mc_17 k _) rfl rfl rfl (by omega) rfl (Nat.le_of_ble_eq_true rfl) dX9_chosen_35 38 rfl ?_
        show mm_AW z k 7 (some (.int r)) F F 38 [(0, .ref (mmad k 17)), (1, .int a1), (2, .int v1), (3, .int v2), (4, .int v3)] [.int x6]
        refine mm_istore (lv2 := [(5, .int x6), (0, .ref (mmad k 17)), (1, .int a1), (2, .int v1), (3, .int v2), (4, .int v3)]) C dX9_chosen_38 (by decide) rfl 40 rfl ?_
        refine mm_iload C dX9_chosen_40 0 rfl 42 rfl ?_
        refine mm_aload_n C dX9_chosen_42 rfl 1 rfl 43 rfl ?_
        refine mm_get C fl_X9_34_X9 (by decide) (mc_17 k _) rfl dX9_chosen_43 46 rfl ?_
        refine mm_aload_n C dX9_chosen_46 rfl 1 rfl 47 rfl ?_
        refine mm_get C fl_X9_71_X9 (by decide) (mc_17 k _) rfl dX9_chosen_47 50 rfl ?_
        refine mm_iload C dX9_chosen_50 5 rfl 52 rfl ?_
        refine mm_iload_n C dX9_chosen_52 rfl 2 rfl 53 rfl ?_
        obtain ⟨x7, ex7, h⟩ := mb h
        refine mm_callV [.int (F 17 6), .int v3, .int a1] C (c_X3_wayOf_1 ex7) wb_X3_wayOf wv_X9_85 (by decide) (mc_1 k _) rfl rfl rfl (by omega) rfl (Nat.le_of_ble_eq_true rfl) dX9_chosen_53 56 rfl ?_
        show mm_AW z k 7 (some (.int r)) F F 56 [(5, .int x6), (0, .ref (mmad k 17)), (1, .int a1), (2, .int v1), (3, .int v2), (4, .int v3)] [.int x7, .int x6]
        refine mm_iadd C dX9_chosen_56 57 rfl ?_
        obtain ⟨x8, ex8, h⟩ := me h
        refine mm_top ex8 ?_
        refine mm_istore (lv2 := [(6, .int x8), (5, .int x6), (0, .ref (mmad k 17)), (1, .int a1), (2, .int v1), (3, .int v2), (4, .int v3)]) C dX9_chosen_57 (by decide) rfl 59 rfl ?_
        refine mm_iload C dX9_chosen_59 0 rfl 61 rfl ?_
        refine mm_iload_n C dX9_chosen_61 rfl 5 rfl 62 rfl ?_
        refine mj2 h (fun (y9 : Int32) (y10 : Int32) => mm_AW z k 7 (some (.int r)) F F 71 [(0, .ref (mmad k 17)), (1, .int a1), (2, .int y9), (3, .int y10), (4, .int v3)] []) ?_ ?_
        · intro y9 y10 h
          obtain ⟨x11, ex11, h⟩ := me h
          refine mm_iinc (v := x11) (lv2 := [(4, .int x11), (0, .ref (mmad k 17)), (1, .int a1), (2, .int y9), (3, .int y10)]) C dX9_chosen_71 4 rfl (by rw [← ex11]; rfl) (by decide) rfl 74 rfl ?_
          refine mm_goto C dX9_chosen_74 8 (by decide) ?_
          refine mm_lv [1, 2, 3, 4, 0] rfl ?_
          exact ih _ _ _ h
        · intro K2 hR71 h
          refine mm_icmp_ge C dX9_chosen_62 71 65 (by decide) rfl (fun hc => ?_) (fun hc => ?_)
          · rw [if_pos hc] at h
            refine mm_lv [2, 3, 4, 5, 6] rfl ?_
            exact hR71 _ _ h
          · rw [if_neg hc] at h
            refine mm_iload C dX9_chosen_65 0 rfl 67 rfl ?_
            refine mm_istore_n (lv2 := [(3, .int x8), (6, .int x8), (5, .int x6), (0, .ref (mmad k 17)), (1, .int a1), (2, .int v1), (4, .int v3)]) C dX9_chosen_67 rfl (by decide) rfl 68 rfl ?_
            refine mm_iload C dX9_chosen_68 6 rfl 70 rfl ?_
            refine mm_istore_n (lv2 := [(2, .int v3), (3, .int x8), (6, .int x8), (5, .int x6), (0, .ref (mmad k 17)), (1, .int a1), (4, .int v3)]) C dX9_chosen_70 rfl (by decide) rfl 71 rfl ?_
            refine mm_lv [4, 5, 0, 1, 6] rfl ?_
            exact hR71 _ _ h
  refine mj1 h (fun (y12 : Int32) => mm_AW z k 7 (some (.int r)) F F 77 [(2, .int y12)] []) ?_ ?_
  · intro y12 h
    refine mm_iload_n C dX9_chosen_77 rfl 0 rfl 78 rfl ?_
    exact mm_iretP C (h) dX9_chosen_78
  · intro K2 hR h
    exact hL8 K2 hR 300 _ _ _ h
def m_X7_send_17 (F : mmS) (a1 : Int32) (a2 : Int32) : Option (mmS) :=
  Option.bind (ald F 18 a1) fun x1 => mlet (stF F 17 2 ((F 17 2) + (mabs (x1 - a2)))) fun G2 => Option.bind (ast G2 18 a1 a2) fun G3 => mlet (stF G3 17 3 a1) fun G4 => some G4
set_option maxHeartbeats 4000000 in
set_option maxRecDepth 100000 in
theorem c_X7_send_17 {l : Launch} {k : mmK} {F : mmS} {a1 : Int32} {a2 : Int32} {F1 : mmS} (h : m_X7_send_17 F a1 a2 = some F1) : mm_T l k yX7_send cX7_send 3 none 1 [.ref (mmad k 17), .int a1, .int a2] F none F1 := by
  refine mm_start [(0, .ref (mmad k 17)), (1, .int a1), (2, .int a2)] (by decide) (Nat.le_of_ble_eq_true rfl) rfl ?_
  intro z hz C
  subst hz
  have C : mm_C z k RX7 cX7_send 3 none 1 := C
  replace h := mk0 h
  unfold m_X7_send_17 at h
  refine mm_aload_n C dX7_send_0 rfl 0 rfl 1 rfl ?_
  refine mm_dup C dX7_send_1 rfl 2 rfl ?_
  refine mm_get C fl_X7_34_X9 (by decide) (mc_17 k _) rfl dX7_send_2 5 rfl ?_
  refine mm_aload_n C dX7_send_5 rfl 0 rfl 6 rfl ?_
  refine mm_get C fl_X7_9_X9 (by decide) (mc_17 k _) rfl dX7_send_6 9 rfl ?_
  refine mm_iload_n C dX7_send_9 rfl 1 rfl 10 rfl ?_
  obtain ⟨x1, ex1, h⟩ := mb h
  refine mm_iald C ex1 dX7_send_10 11 rfl ?_
  refine mm_iload_n C dX7_send_11 rfl 2 rfl 12 rfl ?_
  refine mm_isub C dX7_send_12 13 rfl ?_
  refine mm_abs C mw_599 mw_552 mw_62 mw_553 (by omega) (Nat.le_trans (Nat.le_of_ble_eq_true rfl : _ ≤ 40) (by omega)) dX7_send_13 16 rfl ?_
  refine mm_iadd C dX7_send_16 17 rfl ?_
  obtain ⟨G2, eG2, h⟩ := me h
  refine mm_put (x := ((F 17 2) + (mabs (x1 - a2)))) (ty := .int) C fl_X7_34_X9 (by decide) (mc_17 k _) (mc_17 k _) tyX9 tyX9_ok nmX9 rfl (by decide +kernel) rfl rfl (Nat.le_of_ble_eq_true rfl) eG2 dX7_send_17 20 rfl ?_
  refine mm_aload_n C dX7_send_20 rfl 0 rfl 21 rfl ?_
  refine mm_get C fl_X7_9_X9 (by decide) (mc_17 k _) rfl dX7_send_21 24 rfl ?_
  refine mm_iload_n C dX7_send_24 rfl 1 rfl 25 rfl ?_
  refine mm_iload_n C dX7_send_25 rfl 2 rfl 26 rfl ?_
  obtain ⟨G3, eG3, h⟩ := mb h
  refine mm_iast C eG3 dX7_send_26 27 rfl ?_
  refine mm_aload_n C dX7_send_27 rfl 0 rfl 28 rfl ?_
  refine mm_iload_n C dX7_send_28 rfl 1 rfl 29 rfl ?_
  obtain ⟨G4, eG4, h⟩ := me h
  refine mm_put (x := a1) (ty := .int) C fl_X7_15_X9 (by decide) (mc_17 k _) (mc_17 k _) tyX9 tyX9_ok nmX9 rfl (by decide +kernel) rfl rfl (Nat.le_of_ble_eq_true rfl) eG4 dX7_send_29 32 rfl ?_
  exact mm_vretW C (h) dX7_send_32
def m_X9_meet_17 (F : mmS) (a1 : Int32) (a2 : Int32) : Option (mmS) :=
  bd1 (if (F 17 5) < (1 : Int32) then (some (F)) else (Option.bind (m_X9_settle_17 F) fun G1 => some (G1))) fun G2 => Option.bind (ast G2 22 (G2 17 5) a1) fun G3 => mlet (stF G3 17 5 ((G3 17 5) + (1 : Int32))) fun G4 => Option.bind (m_X9_chosen_17 G4 a1) fun x5 => Option.bind (ald G4 2 a1) fun x6 => Option.bind (m_X7_send_17 G4 x5 x6) fun G7 => Option.bind (m_X3_moved (G7 17 6) x5 a1) fun x8 => mlet (stF G7 17 6 x8) fun G9 => some G9
set_option maxHeartbeats 4000000 in
set_option maxRecDepth 100000 in
theorem c_X9_meet_17 {l : Launch} {k : mmK} {F : mmS} {a1 : Int32} {a2 : Int32} {F1 : mmS} (h : m_X9_meet_17 F a1 a2 = some F1) : mm_T l k yX9_meet cX9_meet 4 none 9 [.ref (mmad k 17), .int a1, .int a2] F none F1 := by
  refine mm_start [(0, .ref (mmad k 17)), (1, .int a1), (2, .int a2)] (by decide) (Nat.le_of_ble_eq_true rfl) rfl ?_
  intro z hz C
  subst hz
  have C : mm_C z k RX9 cX9_meet 4 none 9 := C
  replace h := mk0 h
  unfold m_X9_meet_17 at h
  refine mm_aload_n C dX9_meet_0 rfl 0 rfl 1 rfl ?_
  refine mm_get C fl_X9_74_X9 (by decide) (mc_17 k _) rfl dX9_meet_1 4 rfl ?_
  refine mm_aload_n C dX9_meet_4 rfl 0 rfl 5 rfl ?_
  refine mm_get C fl_X9_27_X9 (by decide) (mc_17 k _) rfl dX9_meet_5 8 rfl ?_
  refine mm_alen (v := (1 : Int32)) C (by decide) (by decide) dX9_meet_8 9 rfl ?_
  refine mj1 h (fun (G2 : mmS) => mm_AW z k 4 none F1 G2 16 [(0, .ref (mmad k 17)), (1, .int a1)] []) ?_ ?_
  · intro G2 h
    refine mm_aload_n C dX9_meet_16 rfl 0 rfl 17 rfl ?_
    refine mm_get C fl_X9_27_X9 (by decide) (mc_17 k _) rfl dX9_meet_17 20 rfl ?_
    refine mm_aload_n C dX9_meet_20 rfl 0 rfl 21 rfl ?_
    refine mm_get C fl_X9_74_X9 (by decide) (mc_17 k _) rfl dX9_meet_21 24 rfl ?_
    refine mm_iload_n C dX9_meet_24 rfl 1 rfl 25 rfl ?_
    obtain ⟨G3, eG3, h⟩ := mb h
    refine mm_iast C eG3 dX9_meet_25 26 rfl ?_
    refine mm_aload_n C dX9_meet_26 rfl 0 rfl 27 rfl ?_
    refine mm_dup C dX9_meet_27 rfl 28 rfl ?_
    refine mm_get C fl_X9_74_X9 (by decide) (mc_17 k _) rfl dX9_meet_28 31 rfl ?_
    refine mm_iconst (v := (1 : Int32)) C dX9_meet_31 (by decide) 32 rfl ?_
    refine mm_iadd C dX9_meet_32 33 rfl ?_
    obtain ⟨G4, eG4, h⟩ := me h
    refine mm_put (x := ((G3 17 5) + (1 : Int32))) (ty := .int) C fl_X9_74_X9 (by decide) (mc_17 k _) (mc_17 k _) tyX9 tyX9_ok nmX9 rfl (by decide +kernel) rfl rfl (Nat.le_of_ble_eq_true rfl) eG4 dX9_meet_33 36 rfl ?_
    refine mm_aload_n C dX9_meet_36 rfl 0 rfl 37 rfl ?_
    refine mm_iload_n C dX9_meet_37 rfl 1 rfl 38 rfl ?_
    obtain ⟨x5, ex5, h⟩ := mb h
    refine mm_callV [.int a1] C (c_X9_chosen_17 ex5) wb_X9_chosen wv_X9_94 (by decide) (mc_17 k _) rfl rfl rfl (by omega) rfl (Nat.le_of_ble_eq_true rfl) dX9_meet_38 41 rfl ?_
    show mm_AW z k 4 none F1 G4 41 [(0, .ref (mmad k 17)), (1, .int a1)] [.int x5]
    refine mm_istore_n (lv2 := [(3, .int x5), (0, .ref (mmad k 17)), (1, .int a1)]) C dX9_meet_41 rfl (by decide) rfl 42 rfl ?_
    refine mm_aload_n C dX9_meet_42 rfl 1 rfl 43 rfl ?_
    refine mm_iload_n C dX9_meet_43 rfl 0 rfl 44 rfl ?_
    refine mm_aload_n C dX9_meet_44 rfl 1 rfl 45 rfl ?_
    refine mm_get C fl_X9_34_X9 (by decide) (mc_17 k _) rfl dX9_meet_45 48 rfl ?_
    refine mm_get C fl_X9_50_X3 (by decide) (mc_1 k _) rfl dX9_meet_48 51 rfl ?_
    refine mm_iload_n C dX9_meet_51 rfl 2 rfl 52 rfl ?_
    obtain ⟨x6, ex6, h⟩ := mb h
    refine mm_iald C ex6 dX9_meet_52 53 rfl ?_
    obtain ⟨G7, eG7, h⟩ := mb h
    refine mm_callU [.int x5, .int x6] C (c_X7_send_17 eG7) wb_X7_send wu_X9_98_X9 (fun s hN => hN.2.2.2.1) (by decide) (mc_17 k _) rfl rfl (by omega) rfl (Nat.le_of_ble_eq_true rfl) dX9_meet_53 56 rfl ?_
    show mm_AW z k 4 none F1 G7 56 [(3, .int x5), (0, .ref (mmad k 17)), (1, .int a1)] []
    refine mm_aload_n C dX9_meet_56 rfl 1 rfl 57 rfl ?_
    refine mm_aload_n C dX9_meet_57 rfl 1 rfl 58 rfl ?_
    refine mm_get C fl_X9_71_X9 (by decide) (mc_17 k _) rfl dX9_meet_58 61 rfl ?_
    refine mm_iload_n C dX9_meet_61 rfl 0 rfl 62 rfl ?_
    refine mm_iload_n C dX9_meet_62 rfl 2 rfl 63 rfl ?_
    obtain ⟨x8, ex8, h⟩ := mb h
    refine mm_callS [.int (G7 17 6), .int x5, .int a1] C (c_X3_moved ex8) wb_X3_moved ws_X9_81 rfl (by omega) rfl (Nat.le_of_ble_eq_true rfl) dX9_meet_63 66 rfl ?_
    show mm_AW z k 4 none F1 G7 66 [(3, .int x5), (0, .ref (mmad k 17)), (1, .int a1)] [.int x8, .ref (mmad k 17)]
    obtain ⟨G9, eG9, h⟩ := me h
    refine mm_put (x := x8) (ty := .int) C fl_X9_71_X9 (by decide) (mc_17 k _) (mc_17 k _) tyX9 tyX9_ok nmX9 rfl (by decide +kernel) rfl rfl (Nat.le_of_ble_eq_true rfl) eG9 dX9_meet_66 69 rfl ?_
    exact mm_vretW C (h) dX9_meet_69
  · intro K2 hR16 h
    refine mm_icmp_lt C dX9_meet_9 16 12 (by decide) rfl (fun hc => ?_) (fun hc => ?_)
    · rw [if_pos hc] at h
      refine mm_lv [0, 1] rfl ?_
      exact hR16 _ h
    · rw [if_neg hc] at h
      refine mm_aload_n C dX9_meet_12 rfl 0 rfl 13 rfl ?_
      obtain ⟨G1, eG1, h⟩ := mb h
      refine mm_callV [] C (c_X9_settle_17 eG1) wb_X9_settle wv_X9_91 (by decide) (mc_17 k _) rfl rfl rfl (by omega) rfl (Nat.le_of_ble_eq_true rfl) dX9_meet_13 16 rfl ?_
      show mm_AW z k 4 none F1 G1 16 [(0, .ref (mmad k 17)), (1, .int a1), (2, .int a2)] []
      refine mm_lv [0, 1] rfl ?_
      exact hR16 _ h
def m_X6_lead_14_17_L16 (x1 : Int32) : Nat → Int32 → mmS → Option (mmS)
  | 0, _, _ => none
  | n5 + 1, v3, G4 => if x1 ≤ v3 then (some ((G4))) else (Option.bind (ald G4 15 v3) fun x6 => Option.bind (ald G4 16 v3) fun x7 => Option.bind (m_X9_meet_17 G4 x6 x7) fun G8 => mlet (v3 + (1 : Int32)) fun x9 => m_X6_lead_14_17_L16 x1 n5 x9 G8)
def m_X6_lead_14_17 (F : mmS) (a2 : Int32) : Option (Int32 × mmS) :=
  mlet (mmin a2 (F 14 2)) fun x1 => Option.bind (m_X9_begin_17 F) fun G2 => bd1 (m_X6_lead_14_17_L16 x1 300 (0 : Int32) G2) fun G10 => some ((G10 17 2), G10)
set_option maxHeartbeats 4000000 in
set_option maxRecDepth 100000 in
theorem c_X6_lead_14_17 {l : Launch} {k : mmK} {F : mmS} {a2 : Int32} {r : Int32} {F1 : mmS} (h : m_X6_lead_14_17 F a2 = some (r, F1)) : mm_T l k yX6_lead cX6_lead 5 (some .int) 10 [.ref (mmad k 14), .ref (mmad k 17), .int a2] F (some (.int r)) F1 := by
  refine mm_start [(0, .ref (mmad k 14)), (1, .ref (mmad k 17)), (2, .int a2)] (by decide) (Nat.le_of_ble_eq_true rfl) rfl ?_
  intro z hz C
  subst hz
  have C : mm_C z k RX6 cX6_lead 5 (some .int) 10 := C
  replace h := mk0 h
  unfold m_X6_lead_14_17 at h
  refine mm_iload_n C dX6_lead_0 rfl 2 rfl 1 rfl ?_
  refine mm_aload_n C dX6_lead_1 rfl 0 rfl 2 rfl ?_
  refine mm_get C fl_X6_18_X6 (by decide) (mc_14 k _) rfl dX6_lead_2 5 rfl ?_
  refine mm_min C mw_516 mw_517 mw_62 mw_518 (by omega) (Nat.le_trans (Nat.le_of_ble_eq_true rfl : _ ≤ 40) (by omega)) dX6_lead_5 8 rfl ?_
  obtain ⟨x1, ex1, h⟩ := me h
  refine mm_top ex1 ?_
  refine mm_istore_n (lv2 := [(3, .int x1), (0, .ref (mmad k 14)), (1, .ref (mmad k 17)), (2, .int a2)]) C dX6_lead_8 rfl (by decide) rfl 9 rfl ?_
  refine mm_aload_n C dX6_lead_9 rfl 2 rfl 10 rfl ?_
  obtain ⟨G2, eG2, h⟩ := mb h
  refine mm_callU [] C (c_X9_begin_17 eG2) wb_X9_begin wu_X6_57_X9 (fun s hN => hN.2.2.2.2) (by decide) (mc_17 k _) rfl rfl (by omega) rfl (Nat.le_of_ble_eq_true rfl) dX6_lead_10 13 rfl ?_
  show mm_AW z k 5 (some (.int r)) F1 G2 13 [(3, .int x1), (0, .ref (mmad k 14)), (1, .ref (mmad k 17)), (2, .int a2)] []
  refine mm_iconst (v := (0 : Int32)) C dX6_lead_13 (by decide) 14 rfl ?_
  refine mm_istore (lv2 := [(4, .int (0 : Int32)), (3, .int x1), (0, .ref (mmad k 14)), (1, .ref (mmad k 17)), (2, .int a2)]) C dX6_lead_14 (by decide) rfl 16 rfl ?_
  refine mm_lv [2, 3, 1, 0] rfl ?_
  have hL16 : ∀ (K : (mmS) → Option (Int32 × mmS)) (hK : ∀ (G4 : mmS) , K (G4) = some (r, F1) → mm_AW z k 5 (some (.int r)) F1 G4 46 [(1, .ref (mmad k 17))] []) (n5 : Nat) (v3 : Int32) (G4 : mmS) , (m_X6_lead_14_17_L16 x1 n5 v3 G4).bind K = some (r, F1) → mm_AW z k 5 (some (.int r)) F1 G4 16 [(0, .ref (mmad k 14)), (1, .ref (mmad k 17)), (3, .int x1), (4, .int v3)] [] := by
    intro K hK n5
    induction n5 with
    | zero => intro v3 G4 h; rw [m_X6_lead_14_17_L16] at h; cases h
    | succ n5 ih =>
      intro v3 G4 h
      rw [m_X6_lead_14_17_L16] at h
      refine mm_iload C dX6_lead_16 3 rfl 18 rfl ?_
      refine mm_iload_n C dX6_lead_18 rfl 2 rfl 19 rfl ?_
      refine mm_icmp_ge C dX6_lead_19 46 22 (by decide) rfl (fun hc => ?_) (fun hc => ?_)
      · rw [if_pos hc] at h
        refine mm_lv [1] rfl ?_
        exact hK _ h
      · rw [if_neg hc] at h
        refine mm_aload_n C dX6_lead_22 rfl 1 rfl 23 rfl ?_
        refine mm_aload_n C dX6_lead_23 rfl 0 rfl 24 rfl ?_
        refine mm_get C fl_X6_9_X6 (by decide) (mc_14 k _) rfl dX6_lead_24 27 rfl ?_
        refine mm_iload C dX6_lead_27 3 rfl 29 rfl ?_
        obtain ⟨x6, ex6, h⟩ := mb h
        refine mm_iald C ex6 dX6_lead_29 30 rfl ?_
        refine mm_aload_n C dX6_lead_30 rfl 0 rfl 31 rfl ?_
        refine mm_get C fl_X6_15_X6 (by decide) (mc_14 k _) rfl dX6_lead_31 34 rfl ?_
        refine mm_iload C dX6_lead_34 3 rfl 36 rfl ?_
        obtain ⟨x7, ex7, h⟩ := mb h
        refine mm_iald C ex7 dX6_lead_36 37 rfl ?_
        obtain ⟨G8, eG8, h⟩ := mb h
        refine mm_callU [.int x6, .int x7] C (c_X9_meet_17 eG8) wb_X9_meet wu_X6_62_X9 (fun s hN => hN.2.2.1) (by decide) (mc_17 k _) rfl rfl (by omega) rfl (Nat.le_of_ble_eq_true rfl) dX6_lead_37 40 rfl ?_
        show mm_AW z k 5 (some (.int r)) F1 G8 40 [(0, .ref (mmad k 14)), (1, .ref (mmad k 17)), (3, .int x1), (4, .int v3)] []
        obtain ⟨x9, ex9, h⟩ := me h
        refine mm_iinc (v := x9) (lv2 := [(4, .int x9), (0, .ref (mmad k 14)), (1, .ref (mmad k 17)), (3, .int x1)]) C dX6_lead_40 3 rfl (by rw [← ex9]; rfl) (by decide) rfl 43 rfl ?_
        refine mm_goto C dX6_lead_43 16 (by decide) ?_
        refine mm_lv [1, 2, 3, 0] rfl ?_
        exact ih _ _ h
  refine mj1 h (fun (G10 : mmS) => mm_AW z k 5 (some (.int r)) F1 G10 46 [(1, .ref (mmad k 17))] []) ?_ ?_
  · intro G10 h
    refine mm_aload_n C dX6_lead_46 rfl 0 rfl 47 rfl ?_
    refine mm_get C fl_X6_66_X9 (by decide) (mc_17 k _) rfl dX6_lead_47 50 rfl ?_
    exact mm_iretW C (h) dX6_lead_50
  · intro K2 hR h
    exact hL16 K2 hR 300 _ _ h
def m_X7_standAtStart_34_L2 : Nat → Int32 → mmS → Option (mmS)
  | 0, _, _ => none
  | n3 + 1, v1, G2 => if (3 : Int32) ≤ v1 then (some ((G2))) else (Option.bind (ald G2 3 v1) fun x4 => Option.bind (ald G2 2 x4) fun x5 => Option.bind (ast G2 35 v1 x5) fun G6 => mlet (v1 + (1 : Int32)) fun x7 => m_X7_standAtStart_34_L2 n3 x7 G6)
def m_X7_standAtStart_34 (F : mmS)  : Option (mmS) :=
  bd1 (m_X7_standAtStart_34_L2 300 (0 : Int32) F) fun G8 => mlet (stF G8 34 2 (0 : Int32)) fun G9 => mlet (stF G9 34 3 (-1 : Int32)) fun G10 => some G10
set_option maxHeartbeats 4000000 in
set_option maxRecDepth 100000 in
theorem c_X7_standAtStart_34 {l : Launch} {k : mmK} {F : mmS}  {F1 : mmS} (h : m_X7_standAtStart_34 F = some F1) : mm_T l k yX7_standAtStart cX7_standAtStart 2 none 0 [.ref (mmad k 34)] F none F1 := by
  refine mm_start [(0, .ref (mmad k 34))] (by decide) (Nat.le_of_ble_eq_true rfl) rfl ?_
  intro z hz C
  subst hz
  have C : mm_C z k RX7 cX7_standAtStart 2 none 0 := C
  replace h := mk0 h
  unfold m_X7_standAtStart_34 at h
  refine mm_iconst (v := (0 : Int32)) C dX7_standAtStart_0 (by decide) 1 rfl ?_
  refine mm_istore_n (lv2 := [(1, .int (0 : Int32)), (0, .ref (mmad k 34))]) C dX7_standAtStart_1 rfl (by decide) rfl 2 rfl ?_
  refine mm_lv [1, 0] rfl ?_
  have hL2 : ∀ (K : (mmS) → Option (mmS)) (hK : ∀ (G2 : mmS) , K (G2) = some F1 → mm_AW z k 2 none F1 G2 36 [(0, .ref (mmad k 34))] []) (n3 : Nat) (v1 : Int32) (G2 : mmS) , (m_X7_standAtStart_34_L2 n3 v1 G2).bind K = some F1 → mm_AW z k 2 none F1 G2 2 [(0, .ref (mmad k 34)), (1, .int v1)] [] := by
    intro K hK n3
    induction n3 with
    | zero => intro v1 G2 h; rw [m_X7_standAtStart_34_L2] at h; cases h
    | succ n3 ih =>
      intro v1 G2 h
      rw [m_X7_standAtStart_34_L2] at h
      refine mm_iload_n C dX7_standAtStart_2 rfl 1 rfl 3 rfl ?_
      refine mm_iconst (v := (3 : Int32)) C dX7_standAtStart_3 (by decide) 4 rfl ?_
      refine mm_icmp_ge C dX7_standAtStart_4 36 7 (by decide) rfl (fun hc => ?_) (fun hc => ?_)
      · rw [if_pos hc] at h
        refine mm_lv [0] rfl ?_
        exact hK _ h
      · rw [if_neg hc] at h
        refine mm_aload_n C dX7_standAtStart_7 rfl 0 rfl 8 rfl ?_
        refine mm_get C fl_X7_9_X5 (by decide) (mc_34 k _) rfl dX7_standAtStart_8 11 rfl ?_
        refine mm_iload_n C dX7_standAtStart_11 rfl 1 rfl 12 rfl ?_
        refine mm_aload_n C dX7_standAtStart_12 rfl 0 rfl 13 rfl ?_
        refine mm_get C fl_X7_19_X5 (by decide) (mc_34 k _) rfl dX7_standAtStart_13 16 rfl ?_
        refine mm_get C fl_X7_26_X3 (by decide) (mc_1 k _) rfl dX7_standAtStart_16 19 rfl ?_
        refine mm_aload_n C dX7_standAtStart_19 rfl 0 rfl 20 rfl ?_
        refine mm_get C fl_X7_19_X5 (by decide) (mc_34 k _) rfl dX7_standAtStart_20 23 rfl ?_
        refine mm_get C fl_X7_31_X3 (by decide) (mc_1 k _) rfl dX7_standAtStart_23 26 rfl ?_
        refine mm_iload_n C dX7_standAtStart_26 rfl 1 rfl 27 rfl ?_
        obtain ⟨x4, ex4, h⟩ := mb h
        refine mm_iald C ex4 dX7_standAtStart_27 28 rfl ?_
        obtain ⟨x5, ex5, h⟩ := mb h
        refine mm_iald C ex5 dX7_standAtStart_28 29 rfl ?_
        obtain ⟨G6, eG6, h⟩ := mb h
        refine mm_iast C eG6 dX7_standAtStart_29 30 rfl ?_
        obtain ⟨x7, ex7, h⟩ := me h
        refine mm_iinc (v := x7) (lv2 := [(1, .int x7), (0, .ref (mmad k 34))]) C dX7_standAtStart_30 1 rfl (by rw [← ex7]; rfl) (by decide) rfl 33 rfl ?_
        refine mm_goto C dX7_standAtStart_33 2 (by decide) ?_
        refine mm_lv [1, 0] rfl ?_
        exact ih _ _ h
  refine mj1 h (fun (G8 : mmS) => mm_AW z k 2 none F1 G8 36 [(0, .ref (mmad k 34))] []) ?_ ?_
  · intro G8 h
    refine mm_aload_n C dX7_standAtStart_36 rfl 0 rfl 37 rfl ?_
    refine mm_iconst (v := (0 : Int32)) C dX7_standAtStart_37 (by decide) 38 rfl ?_
    obtain ⟨G9, eG9, h⟩ := me h
    refine mm_put (x := (0 : Int32)) (ty := .int) C fl_X7_34_X5 (by decide) (mc_34 k _) (mc_34 k _) tyX5 tyX5_ok nmX5 rfl (by decide +kernel) rfl rfl (Nat.le_of_ble_eq_true rfl) eG9 dX7_standAtStart_38 41 rfl ?_
    refine mm_aload_n C dX7_standAtStart_41 rfl 0 rfl 42 rfl ?_
    refine mm_iconst (v := (-1 : Int32)) C dX7_standAtStart_42 (by decide) 43 rfl ?_
    obtain ⟨G10, eG10, h⟩ := me h
    refine mm_put (x := (-1 : Int32)) (ty := .int) C fl_X7_15_X5 (by decide) (mc_34 k _) (mc_34 k _) tyX5 tyX5_ok nmX5 rfl (by decide +kernel) rfl rfl (Nat.le_of_ble_eq_true rfl) eG10 dX7_standAtStart_43 46 rfl ?_
    exact mm_vretW C (h) dX7_standAtStart_46
  · intro K2 hR h
    exact hL2 K2 hR 300 _ _ h
def m_X7_begin_34 (F : mmS)  : Option (mmS) :=
  Option.bind (m_X7_standAtStart_34 F) fun G1 => some G1
set_option maxHeartbeats 4000000 in
set_option maxRecDepth 100000 in
theorem c_X7_begin_34 {l : Launch} {k : mmK} {F : mmS}  {F1 : mmS} (h : m_X7_begin_34 F = some F1) : mm_T l k yX7_begin cX7_begin 1 none 1 [.ref (mmad k 34)] F none F1 := by
  refine mm_start [(0, .ref (mmad k 34))] (by decide) (Nat.le_of_ble_eq_true rfl) rfl ?_
  intro z hz C
  subst hz
  have C : mm_C z k RX7 cX7_begin 1 none 1 := C
  replace h := mk0 h
  unfold m_X7_begin_34 at h
  refine mm_aload_n C dX7_begin_0 rfl 0 rfl 1 rfl ?_
  obtain ⟨G1, eG1, h⟩ := mb h
  refine mm_callU [] C (c_X7_standAtStart_34 eG1) wb_X7_standAtStart wu_X7_23_X5 (fun s hN => hN.2.1) (by decide) (mc_34 k _) rfl rfl (by omega) rfl (Nat.le_of_ble_eq_true rfl) dX7_begin_1 4 rfl ?_
  show mm_AW z k 1 none F1 G1 4 [(0, .ref (mmad k 34))] []
  exact mm_vretW C (h) dX7_begin_4
def m_X5_nearestTo_34_L4 (a1 : Int32) (F : mmS) : Nat → Int32 → Int32 → Option (Int32)
  | 0, _, _ => none
  | n3 + 1, v1, v2 => if (F 1 1) ≤ v2 then (some ((v1))) else (Option.bind (ald F 35 v2) fun x4 => Option.bind (ald F 35 v1) fun x5 => bd1 (if (mabs (x5 - a1)) ≤ (mabs (x4 - a1)) then (some (v1)) else (some (v2))) fun y6 => mlet (v2 + (1 : Int32)) fun x7 => m_X5_nearestTo_34_L4 a1 F n3 y6 x7)
def m_X5_nearestTo_34 (F : mmS) (a1 : Int32) : Option (Int32) :=
  bd1 (m_X5_nearestTo_34_L4 a1 F 300 (0 : Int32) (1 : Int32)) fun y8 => some y8
set_option maxHeartbeats 4000000 in
set_option maxRecDepth 100000 in
theorem c_X5_nearestTo_34 {l : Launch} {k : mmK} {F : mmS} {a1 : Int32} {r : Int32} (h : m_X5_nearestTo_34 F a1 = some r) : mm_T l k yX5_nearestTo cX5_nearestTo 4 (some .int) 1 [.ref (mmad k 34), .int a1] F (some (.int r)) F := by
  refine mm_start [(0, .ref (mmad k 34)), (1, .int a1)] (by decide) (Nat.le_of_ble_eq_true rfl) rfl ?_
  intro z hz C
  subst hz
  have C : mm_C z k RX5 cX5_nearestTo 4 (some .int) 1 := C
  replace h := mk0 h
  unfold m_X5_nearestTo_34 at h
  refine mm_iconst (v := (0 : Int32)) C dX5_nearestTo_0 (by decide) 1 rfl ?_
  refine mm_istore_n (lv2 := [(2, .int (0 : Int32)), (0, .ref (mmad k 34)), (1, .int a1)]) C dX5_nearestTo_1 rfl (by decide) rfl 2 rfl ?_
  refine mm_iconst (v := (1 : Int32)) C dX5_nearestTo_2 (by decide) 3 rfl ?_
  refine mm_istore_n (lv2 := [(3, .int (1 : Int32)), (2, .int (0 : Int32)), (0, .ref (mmad k 34)), (1, .int a1)]) C dX5_nearestTo_3 rfl (by decide) rfl 4 rfl ?_
  refine mm_lv [2, 3, 1, 0] rfl ?_
  have hL4 : ∀ (K : (Int32) → Option (Int32)) (hK : ∀ (v1 : Int32) , K (v1) = some r → mm_AW z k 4 (some (.int r)) F F 48 [(2, .int v1)] []) (n3 : Nat) (v1 : Int32) (v2 : Int32) , (m_X5_nearestTo_34_L4 a1 F n3 v1 v2).bind K = some r → mm_AW z k 4 (some (.int r)) F F 4 [(0, .ref (mmad k 34)), (1, .int a1), (2, .int v1), (3, .int v2)] [] := by
    intro K hK n3
    induction n3 with
    | zero => intro v1 v2 h; rw [m_X5_nearestTo_34_L4] at h; cases h
    | succ n3 ih =>
      intro v1 v2 h
      rw [m_X5_nearestTo_34_L4] at h
      refine mm_iload_n C dX5_nearestTo_4 rfl 3 rfl 5 rfl ?_
      refine mm_aload_n C dX5_nearestTo_5 rfl 0 rfl 6 rfl ?_
      refine mm_get C fl_X5_15_X5 (by decide) (mc_34 k _) rfl dX5_nearestTo_6 9 rfl ?_
      refine mm_get C fl_X5_33_X3 (by decide) (mc_1 k _) rfl dX5_nearestTo_9 12 rfl ?_
      refine mm_icmp_ge C dX5_nearestTo_12 48 15 (by decide) rfl (fun hc => ?_) (fun hc => ?_)
      · rw [if_pos hc] at h
        refine mm_lv [2] rfl ?_
        exact hK _ h
      · rw [if_neg hc] at h
        refine mm_aload_n C dX5_nearestTo_15 rfl 0 rfl 16 rfl ?_
        refine mm_get C fl_X5_37_X5 (by decide) (mc_34 k _) rfl dX5_nearestTo_16 19 rfl ?_
        refine mm_iload_n C dX5_nearestTo_19 rfl 3 rfl 20 rfl ?_
        obtain ⟨x4, ex4, h⟩ := mb h
        refine mm_iald C ex4 dX5_nearestTo_20 21 rfl ?_
        refine mm_iload_n C dX5_nearestTo_21 rfl 1 rfl 22 rfl ?_
        refine mm_isub C dX5_nearestTo_22 23 rfl ?_
        refine mm_abs C mw_631 mw_552 mw_62 mw_553 (by omega) (Nat.le_trans (Nat.le_of_ble_eq_true rfl : _ ≤ 40) (by omega)) dX5_nearestTo_23 26 rfl ?_
        refine mm_aload_n C dX5_nearestTo_26 rfl 0 rfl 27 rfl ?_
        refine mm_get C fl_X5_37_X5 (by decide) (mc_34 k _) rfl dX5_nearestTo_27 30 rfl ?_
        refine mm_iload_n C dX5_nearestTo_30 rfl 2 rfl 31 rfl ?_
        obtain ⟨x5, ex5, h⟩ := mb h
        refine mm_iald C ex5 dX5_nearestTo_31 32 rfl ?_
        refine mm_iload_n C dX5_nearestTo_32 rfl 1 rfl 33 rfl ?_
        refine mm_isub C dX5_nearestTo_33 34 rfl ?_
        refine mm_abs C mw_631 mw_552 mw_62 mw_553 (by omega) (Nat.le_trans (Nat.le_of_ble_eq_true rfl : _ ≤ 40) (by omega)) dX5_nearestTo_34 37 rfl ?_
        refine mj1 h (fun (y6 : Int32) => mm_AW z k 4 (some (.int r)) F F 42 [(0, .ref (mmad k 34)), (1, .int a1), (2, .int y6), (3, .int v2)] []) ?_ ?_
        · intro y6 h
          obtain ⟨x7, ex7, h⟩ := me h
          refine mm_iinc (v := x7) (lv2 := [(3, .int x7), (0, .ref (mmad k 34)), (1, .int a1), (2, .int y6)]) C dX5_nearestTo_42 3 rfl (by rw [← ex7]; rfl) (by decide) rfl 45 rfl ?_
          refine mm_goto C dX5_nearestTo_45 4 (by decide) ?_
          refine mm_lv [1, 2, 3, 0] rfl ?_
          exact ih _ _ h
        · intro K2 hR42 h
          refine mm_icmp_ge C dX5_nearestTo_37 42 40 (by decide) rfl (fun hc => ?_) (fun hc => ?_)
          · rw [if_pos hc] at h
            exact hR42 _ h
          · rw [if_neg hc] at h
            refine mm_iload_n C dX5_nearestTo_40 rfl 3 rfl 41 rfl ?_
            refine mm_istore_n (lv2 := [(2, .int v2), (0, .ref (mmad k 34)), (1, .int a1), (3, .int v2)]) C dX5_nearestTo_41 rfl (by decide) rfl 42 rfl ?_
            refine mm_lv [1, 2, 0, 3] rfl ?_
            exact hR42 _ h
  refine mj1 h (fun (y8 : Int32) => mm_AW z k 4 (some (.int r)) F F 48 [(2, .int y8)] []) ?_ ?_
  · intro y8 h
    refine mm_iload_n C dX5_nearestTo_48 rfl 0 rfl 49 rfl ?_
    exact mm_iretP C (h) dX5_nearestTo_49
  · intro K2 hR h
    exact hL4 K2 hR 300 _ _ h
def m_X7_send_34 (F : mmS) (a1 : Int32) (a2 : Int32) : Option (mmS) :=
  Option.bind (ald F 35 a1) fun x1 => mlet (stF F 34 2 ((F 34 2) + (mabs (x1 - a2)))) fun G2 => Option.bind (ast G2 35 a1 a2) fun G3 => mlet (stF G3 34 3 a1) fun G4 => some G4
set_option maxHeartbeats 4000000 in
set_option maxRecDepth 100000 in
theorem c_X7_send_34 {l : Launch} {k : mmK} {F : mmS} {a1 : Int32} {a2 : Int32} {F1 : mmS} (h : m_X7_send_34 F a1 a2 = some F1) : mm_T l k yX7_send cX7_send 3 none 1 [.ref (mmad k 34), .int a1, .int a2] F none F1 := by
  refine mm_start [(0, .ref (mmad k 34)), (1, .int a1), (2, .int a2)] (by decide) (Nat.le_of_ble_eq_true rfl) rfl ?_
  intro z hz C
  subst hz
  have C : mm_C z k RX7 cX7_send 3 none 1 := C
  replace h := mk0 h
  unfold m_X7_send_34 at h
  refine mm_aload_n C dX7_send_0 rfl 0 rfl 1 rfl ?_
  refine mm_dup C dX7_send_1 rfl 2 rfl ?_
  refine mm_get C fl_X7_34_X5 (by decide) (mc_34 k _) rfl dX7_send_2 5 rfl ?_
  refine mm_aload_n C dX7_send_5 rfl 0 rfl 6 rfl ?_
  refine mm_get C fl_X7_9_X5 (by decide) (mc_34 k _) rfl dX7_send_6 9 rfl ?_
  refine mm_iload_n C dX7_send_9 rfl 1 rfl 10 rfl ?_
  obtain ⟨x1, ex1, h⟩ := mb h
  refine mm_iald C ex1 dX7_send_10 11 rfl ?_
  refine mm_iload_n C dX7_send_11 rfl 2 rfl 12 rfl ?_
  refine mm_isub C dX7_send_12 13 rfl ?_
  refine mm_abs C mw_599 mw_552 mw_62 mw_553 (by omega) (Nat.le_trans (Nat.le_of_ble_eq_true rfl : _ ≤ 40) (by omega)) dX7_send_13 16 rfl ?_
  refine mm_iadd C dX7_send_16 17 rfl ?_
  obtain ⟨G2, eG2, h⟩ := me h
  refine mm_put (x := ((F 34 2) + (mabs (x1 - a2)))) (ty := .int) C fl_X7_34_X5 (by decide) (mc_34 k _) (mc_34 k _) tyX5 tyX5_ok nmX5 rfl (by decide +kernel) rfl rfl (Nat.le_of_ble_eq_true rfl) eG2 dX7_send_17 20 rfl ?_
  refine mm_aload_n C dX7_send_20 rfl 0 rfl 21 rfl ?_
  refine mm_get C fl_X7_9_X5 (by decide) (mc_34 k _) rfl dX7_send_21 24 rfl ?_
  refine mm_iload_n C dX7_send_24 rfl 1 rfl 25 rfl ?_
  refine mm_iload_n C dX7_send_25 rfl 2 rfl 26 rfl ?_
  obtain ⟨G3, eG3, h⟩ := mb h
  refine mm_iast C eG3 dX7_send_26 27 rfl ?_
  refine mm_aload_n C dX7_send_27 rfl 0 rfl 28 rfl ?_
  refine mm_iload_n C dX7_send_28 rfl 1 rfl 29 rfl ?_
  obtain ⟨G4, eG4, h⟩ := me h
  refine mm_put (x := a1) (ty := .int) C fl_X7_15_X5 (by decide) (mc_34 k _) (mc_34 k _) tyX5 tyX5_ok nmX5 rfl (by decide +kernel) rfl rfl (Nat.le_of_ble_eq_true rfl) eG4 dX7_send_29 32 rfl ?_
  exact mm_vretW C (h) dX7_send_32
def m_X5_meet_34 (F : mmS) (a1 : Int32) (a2 : Int32) : Option (mmS) :=
  Option.bind (ald F 2 a1) fun x1 => bd1 (if (F 34 4) = (0 : Int32) then (some ((0 : Int32))) else (if a2 = (-1 : Int32) then (some ((0 : Int32))) else (some ((1 : Int32))))) fun y2 => bd1 (if y2 = (0 : Int32) then (Option.bind (m_X5_nearestTo_34 F x1) fun x3 => some (x3)) else (some (a2))) fun y4 => Option.bind (m_X7_send_34 F y4 x1) fun G5 => some G5
set_option maxHeartbeats 4000000 in
set_option maxRecDepth 100000 in
theorem c_X5_meet_34 {l : Launch} {k : mmK} {F : mmS} {a1 : Int32} {a2 : Int32} {F1 : mmS} (h : m_X5_meet_34 F a1 a2 = some F1) : mm_T l k yX5_meet cX5_meet 5 none 2 [.ref (mmad k 34), .int a1, .int a2] F none F1 := by
  refine mm_start [(0, .ref (mmad k 34)), (1, .int a1), (2, .int a2)] (by decide) (Nat.le_of_ble_eq_true rfl) rfl ?_
  intro z hz C
  subst hz
  have C : mm_C z k RX5 cX5_meet 5 none 2 := C
  replace h := mk0 h
  unfold m_X5_meet_34 at h
  refine mm_aload_n C dX5_meet_0 rfl 0 rfl 1 rfl ?_
  refine mm_get C fl_X5_15_X5 (by decide) (mc_34 k _) rfl dX5_meet_1 4 rfl ?_
  refine mm_get C fl_X5_19_X3 (by decide) (mc_1 k _) rfl dX5_meet_4 7 rfl ?_
  refine mm_iload_n C dX5_meet_7 rfl 1 rfl 8 rfl ?_
  obtain ⟨x1, ex1, h⟩ := mb h
  refine mm_iald C ex1 dX5_meet_8 9 rfl ?_
  refine mm_istore_n (lv2 := [(3, .int x1), (0, .ref (mmad k 34)), (1, .int a1), (2, .int a2)]) C dX5_meet_9 rfl (by decide) rfl 10 rfl ?_
  refine mm_aload_n C dX5_meet_10 rfl 1 rfl 11 rfl ?_
  refine mm_get C fl_X5_9_X5 (by decide) (mc_34 k _) rfl dX5_meet_11 14 rfl ?_
  refine mj1 h (fun (y2 : Int32) => mm_AW z k 5 none F1 F 27 [(0, .ref (mmad k 34)), (2, .int a2), (3, .int x1)] [.int y2]) ?_ ?_
  · intro y2 h
    refine mm_istore (lv2 := [(4, .int y2), (0, .ref (mmad k 34)), (2, .int a2), (3, .int x1)]) C dX5_meet_27 (by decide) rfl 29 rfl ?_
    refine mm_aload_n C dX5_meet_29 rfl 1 rfl 30 rfl ?_
    refine mm_iload C dX5_meet_30 0 rfl 32 rfl ?_
    refine mj1 h (fun (y4 : Int32) => mm_AW z k 5 none F1 F 44 [(3, .int x1)] [.int y4, .ref (mmad k 34)]) ?_ ?_
    · intro y4 h
      refine mm_iload_n C dX5_meet_44 rfl 0 rfl 45 rfl ?_
      obtain ⟨G5, eG5, h⟩ := mb h
      refine mm_callU [.int y4, .int x1] C (c_X7_send_34 eG5) wb_X7_send wu_X5_29_X5 (fun s hN => hN.2.2.2.1) (by decide) (mc_34 k _) rfl rfl (by omega) rfl (Nat.le_of_ble_eq_true rfl) dX5_meet_45 48 rfl ?_
      show mm_AW z k 5 none F1 G5 48 [(3, .int x1)] []
      exact mm_vretW C (h) dX5_meet_48
    · intro K2 hR44 h
      refine mm_if_eq C dX5_meet_32 39 35 (by decide) rfl (fun hc => ?_) (fun hc => ?_)
      · rw [if_pos hc] at h
        refine mm_aload_n C dX5_meet_39 rfl 1 rfl 40 rfl ?_
        refine mm_iload_n C dX5_meet_40 rfl 3 rfl 41 rfl ?_
        obtain ⟨x3, ex3, h⟩ := mb h
        refine mm_callV [.int x1] C (c_X5_nearestTo_34 ex3) wb_X5_nearestTo wv_X5_25 (by decide) (mc_34 k _) rfl rfl rfl (by omega) rfl (Nat.le_of_ble_eq_true rfl) dX5_meet_41 44 rfl ?_
        show mm_AW z k 5 none F1 F 44 [(4, .int y2), (0, .ref (mmad k 34)), (2, .int a2), (3, .int x1)] [.int x3, .ref (mmad k 34)]
        refine mm_lv [3] rfl ?_
        exact hR44 _ h
      · rw [if_neg hc] at h
        refine mm_iload_n C dX5_meet_35 rfl 2 rfl 36 rfl ?_
        refine mm_goto C dX5_meet_36 44 (by decide) ?_
        refine mm_lv [3] rfl ?_
        exact hR44 _ h
  · intro K2 hR27 h
    refine mm_if_eq C dX5_meet_14 26 17 (by decide) rfl (fun hc => ?_) (fun hc => ?_)
    · rw [if_pos hc] at h
      refine mm_iconst (v := (0 : Int32)) C dX5_meet_26 (by decide) 27 rfl ?_
      refine mm_lv [1, 3, 0] rfl ?_
      exact hR27 _ h
    · rw [if_neg hc] at h
      refine mm_iload_n C dX5_meet_17 rfl 3 rfl 18 rfl ?_
      refine mm_iconst (v := (-1 : Int32)) C dX5_meet_18 (by decide) 19 rfl ?_
      refine mm_icmp_eq C dX5_meet_19 26 22 (by decide) rfl (fun hc => ?_) (fun hc => ?_)
      · rw [if_pos hc] at h
        refine mm_iconst (v := (0 : Int32)) C dX5_meet_26 (by decide) 27 rfl ?_
        refine mm_lv [1, 3, 0] rfl ?_
        exact hR27 _ h
      · rw [if_neg hc] at h
        refine mm_iconst (v := (1 : Int32)) C dX5_meet_22 (by decide) 23 rfl ?_
        refine mm_goto C dX5_meet_23 27 (by decide) ?_
        refine mm_lv [1, 3, 0] rfl ?_
        exact hR27 _ h
