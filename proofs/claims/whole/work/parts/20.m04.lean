def m_X11_isStandingPoint_0 (F : mmS) (a1 : Int32) (a2 : Int32) : Option (Int32) :=
  Option.bind (m_X11_isServer_0 F a1) fun x1 => if x1 = (0 : Int32) then (Option.bind (m_X11_isWithin a2 (0 : Int32) (5 : Int32)) fun x2 => Option.bind (zg x2) fun x3 => some (x3)) else (Option.bind (m_X11_isPoint_0 F a2) fun x4 => Option.bind (zg x4) fun x5 => some (x5))
set_option maxHeartbeats 4000000 in
set_option maxRecDepth 100000 in
theorem c_X11_isStandingPoint_0 {l : Launch} {k : mmK} {F : mmS} {a1 : Int32} {a2 : Int32} {r : Int32} (h : m_X11_isStandingPoint_0 F a1 a2 = some r) : mm_T l k yX11_isStandingPoint cX11_isStandingPoint 3 (some .boolean) 2 [.ref (mmad k 0), .int a1, .int a2] F (some (.int r)) F := by
  refine mm_start [(0, .ref (mmad k 0)), (1, .int a1), (2, .int a2)] (by decide) (Nat.le_of_ble_eq_true rfl) rfl ?_
  intro z hz C
  subst hz
  have C : mm_C z k RX11 cX11_isStandingPoint 3 (some .boolean) 2 := C
  replace h := mk0 h
  unfold m_X11_isStandingPoint_0 at h
  refine mm_aload_n C dX11_isStandingPoint_0 rfl 0 rfl 1 rfl ?_
  refine mm_iload_n C dX11_isStandingPoint_1 rfl 1 rfl 2 rfl ?_
  obtain ⟨x1, ex1, h⟩ := mb h
  refine mm_callV [.int a1] C (c_X11_isServer_0 ex1) wb_X11_isServer wv_X11_111 (by decide) (mc_0 k _) rfl rfl rfl (by omega) rfl (Nat.le_of_ble_eq_true rfl) dX11_isStandingPoint_2 5 rfl ?_
  show mm_AW z k 3 (some (.int r)) F F 5 [(0, .ref (mmad k 0)), (1, .int a1), (2, .int a2)] [.int x1]
  refine mm_if_eq C dX11_isStandingPoint_5 16 8 (by decide) rfl (fun hc => ?_) (fun hc => ?_)
  · rw [if_pos hc] at h
    refine mm_iload_n C dX11_isStandingPoint_16 rfl 2 rfl 17 rfl ?_
    refine mm_iconst (v := (0 : Int32)) C dX11_isStandingPoint_17 (by decide) 18 rfl ?_
    refine mm_iconst (v := (5 : Int32)) C dX11_isStandingPoint_18 (by decide) 19 rfl ?_
    obtain ⟨x2, ex2, h⟩ := mb h
    refine mm_callS [.int a2, .int (0 : Int32), .int (5 : Int32)] C (c_X11_isWithin ex2) wb_X11_isWithin ws_X11_85 rfl (by omega) rfl (Nat.le_of_ble_eq_true rfl) dX11_isStandingPoint_19 22 rfl ?_
    show mm_AW z k 3 (some (.int r)) F F 22 [(0, .ref (mmad k 0)), (1, .int a1), (2, .int a2)] [.int x2]
    obtain ⟨x3, ex3, h⟩ := mb h
    exact mm_zretP C ex3 (h) dX11_isStandingPoint_22
  · rw [if_neg hc] at h
    refine mm_aload_n C dX11_isStandingPoint_8 rfl 0 rfl 9 rfl ?_
    refine mm_iload_n C dX11_isStandingPoint_9 rfl 2 rfl 10 rfl ?_
    obtain ⟨x4, ex4, h⟩ := mb h
    refine mm_callV [.int a2] C (c_X11_isPoint_0 ex4) wb_X11_isPoint wv_X11_97 (by decide) (mc_0 k _) rfl rfl rfl (by omega) rfl (Nat.le_of_ble_eq_true rfl) dX11_isStandingPoint_10 13 rfl ?_
    show mm_AW z k 3 (some (.int r)) F F 13 [(0, .ref (mmad k 0)), (1, .int a1), (2, .int a2)] [.int x4]
    refine mm_goto C dX11_isStandingPoint_13 22 (by decide) ?_
    obtain ⟨x5, ex5, h⟩ := mb h
    exact mm_zretP C ex5 (h) dX11_isStandingPoint_22
def m_X9_worth_17 (F : mmS) (a1 : Int32) : Option (Int32) :=
  Option.bind (m_X9_worthBehind_17 5 F a1 (F 17 5)) fun x1 => some x1
set_option maxHeartbeats 4000000 in
set_option maxRecDepth 100000 in
theorem c_X9_worth_17 {l : Launch} {k : mmK} {F : mmS} {a1 : Int32} {r : Int32} (h : m_X9_worth_17 F a1 = some r) : mm_T l k yX9_worth cX9_worth 2 (some .int) 8 [.ref (mmad k 17), .int a1] F (some (.int r)) F := by
  refine mm_start [(0, .ref (mmad k 17)), (1, .int a1)] (by decide) (Nat.le_of_ble_eq_true rfl) rfl ?_
  intro z hz C
  subst hz
  have C : mm_C z k RX9 cX9_worth 2 (some .int) 8 := C
  replace h := mk0 h
  unfold m_X9_worth_17 at h
  refine mm_aload_n C dX9_worth_0 rfl 0 rfl 1 rfl ?_
  refine mm_iload_n C dX9_worth_1 rfl 1 rfl 2 rfl ?_
  refine mm_aload_n C dX9_worth_2 rfl 0 rfl 3 rfl ?_
  refine mm_get C fl_X9_74_X9 (by decide) (mc_17 k _) rfl dX9_worth_3 6 rfl ?_
  obtain ⟨x1, ex1, h⟩ := mb h
  refine mm_callV [.int a1, .int (F 17 5)] C (c_X9_worthBehind_17 5 ex1) wb_X9_worthBehind wv_X9_77 (by decide) (mc_17 k _) rfl rfl rfl (by omega) rfl (Nat.le_of_ble_eq_true rfl) dX9_worth_6 9 rfl ?_
  show mm_AW z k 2 (some (.int r)) F F 9 [(0, .ref (mmad k 17)), (1, .int a1)] [.int x1]
  exact mm_iretP C (h) dX9_worth_9
def m_X11_work_0 (F : mmS) (a1 : Int32) (a2 : Int32) (a3 : Int32) (a4 : Int32) : Option (Int32 × mmS) :=
  Option.bind (m_X11_isStandingPoint_0 F (0 : Int32) a1) fun x1 => if x1 = (0 : Int32) then (some ((-2 : Int32), F)) else (Option.bind (m_X11_isStandingPoint_0 F (1 : Int32) a2) fun x2 => if x2 = (0 : Int32) then (some ((-2 : Int32), F)) else (Option.bind (m_X11_isStandingPoint_0 F (2 : Int32) a3) fun x3 => if x3 = (0 : Int32) then (some ((-2 : Int32), F)) else (Option.bind (m_X11_isWithin a4 (0 : Int32) (40 : Int32)) fun x4 => if x4 = (0 : Int32) then (some ((-2 : Int32), F)) else (bd2 (m_X11_readRow_0 F) fun x5 G6 => if x5 = (0 : Int32) then (bd2 (m_X8_found_6 G6 (1 : Int32)) fun x11 G12 => some (x11, G12)) else (bd2 (m_X6_lead_14_17 G6 a4) fun x7 G8 => Option.bind (m_X3_standingOf_1 G8 a1 a2 a3) fun x9 => Option.bind (m_X9_worth_17 G8 x9) fun x10 => some (x10, G8))))))
set_option maxHeartbeats 4000000 in
set_option maxRecDepth 100000 in
theorem c_X11_work_0 {l : Launch} {k : mmK} {F : mmS} {a1 : Int32} {a2 : Int32} {a3 : Int32} {a4 : Int32} {r : Int32} {F1 : mmS} (h : m_X11_work_0 F a1 a2 a3 a4 = some (r, F1)) : mm_T l k yX11_work cX11_work 5 (some .int) 11 [.ref (mmad k 0), .int a1, .int a2, .int a3, .int a4] F (some (.int r)) F1 := by
  refine mm_start [(0, .ref (mmad k 0)), (1, .int a1), (2, .int a2), (3, .int a3), (4, .int a4)] (by decide) (Nat.le_of_ble_eq_true rfl) rfl ?_
  intro z hz C
  subst hz
  have C : mm_C z k RX11 cX11_work 5 (some .int) 11 := C
  replace h := mk0 h
  unfold m_X11_work_0 at h
  refine mm_aload_n C dX11_work_0 rfl 0 rfl 1 rfl ?_
  refine mm_iconst (v := (0 : Int32)) C dX11_work_1 (by decide) 2 rfl ?_
  refine mm_iload_n C dX11_work_2 rfl 1 rfl 3 rfl ?_
  obtain ⟨x1, ex1, h⟩ := mb h
  refine mm_callV [.int (0 : Int32), .int a1] C (c_X11_isStandingPoint_0 ex1) wb_X11_isStandingPoint wv_X11_149 (by decide) (mc_0 k _) rfl rfl rfl (by omega) rfl (Nat.le_of_ble_eq_true rfl) dX11_work_3 6 rfl ?_
  show mm_AW z k 5 (some (.int r)) F1 F 6 [(0, .ref (mmad k 0)), (1, .int a1), (2, .int a2), (3, .int a3), (4, .int a4)] [.int x1]
  refine mm_if_eq C dX11_work_6 27 9 (by decide) rfl (fun hc => ?_) (fun hc => ?_)
  · rw [if_pos hc] at h
    refine mm_bipush (v := (-2 : Int32)) C dX11_work_27 (by decide) 29 rfl ?_
    exact mm_iretW C (h) dX11_work_29
  · rw [if_neg hc] at h
    refine mm_aload_n C dX11_work_9 rfl 0 rfl 10 rfl ?_
    refine mm_iconst (v := (1 : Int32)) C dX11_work_10 (by decide) 11 rfl ?_
    refine mm_iload_n C dX11_work_11 rfl 2 rfl 12 rfl ?_
    obtain ⟨x2, ex2, h⟩ := mb h
    refine mm_callV [.int (1 : Int32), .int a2] C (c_X11_isStandingPoint_0 ex2) wb_X11_isStandingPoint wv_X11_149 (by decide) (mc_0 k _) rfl rfl rfl (by omega) rfl (Nat.le_of_ble_eq_true rfl) dX11_work_12 15 rfl ?_
    show mm_AW z k 5 (some (.int r)) F1 F 15 [(0, .ref (mmad k 0)), (1, .int a1), (2, .int a2), (3, .int a3), (4, .int a4)] [.int x2]
    refine mm_if_eq C dX11_work_15 27 18 (by decide) rfl (fun hc => ?_) (fun hc => ?_)
    · rw [if_pos hc] at h
      refine mm_bipush (v := (-2 : Int32)) C dX11_work_27 (by decide) 29 rfl ?_
      exact mm_iretW C (h) dX11_work_29
    · rw [if_neg hc] at h
      refine mm_aload_n C dX11_work_18 rfl 0 rfl 19 rfl ?_
      refine mm_iconst (v := (2 : Int32)) C dX11_work_19 (by decide) 20 rfl ?_
      refine mm_iload_n C dX11_work_20 rfl 3 rfl 21 rfl ?_
      obtain ⟨x3, ex3, h⟩ := mb h
      refine mm_callV [.int (2 : Int32), .int a3] C (c_X11_isStandingPoint_0 ex3) wb_X11_isStandingPoint wv_X11_149 (by decide) (mc_0 k _) rfl rfl rfl (by omega) rfl (Nat.le_of_ble_eq_true rfl) dX11_work_21 24 rfl ?_
      show mm_AW z k 5 (some (.int r)) F1 F 24 [(0, .ref (mmad k 0)), (1, .int a1), (2, .int a2), (3, .int a3), (4, .int a4)] [.int x3]
      refine mm_if_ne C dX11_work_24 30 27 (by decide) rfl (fun hc => ?_) (fun hc => ?_)
      · rw [if_neg hc] at h
        refine mm_iload C dX11_work_30 4 rfl 32 rfl ?_
        refine mm_iconst (v := (0 : Int32)) C dX11_work_32 (by decide) 33 rfl ?_
        refine mm_bipush (v := (40 : Int32)) C dX11_work_33 (by decide) 35 rfl ?_
        obtain ⟨x4, ex4, h⟩ := mb h
        refine mm_callS [.int a4, .int (0 : Int32), .int (40 : Int32)] C (c_X11_isWithin ex4) wb_X11_isWithin ws_X11_85 rfl (by omega) rfl (Nat.le_of_ble_eq_true rfl) dX11_work_35 38 rfl ?_
        show mm_AW z k 5 (some (.int r)) F1 F 38 [(0, .ref (mmad k 0)), (1, .int a1), (2, .int a2), (3, .int a3), (4, .int a4)] [.int x4]
        refine mm_if_ne C dX11_work_38 44 41 (by decide) rfl (fun hc => ?_) (fun hc => ?_)
        · rw [if_neg hc] at h
          refine mm_aload_n C dX11_work_44 rfl 0 rfl 45 rfl ?_
          obtain ⟨x5, G6, ex5, h⟩ := mb2 h
          refine mm_callV [] C (c_X11_readRow_0 ex5) wb_X11_readRow wv_X11_120 (by decide) (mc_0 k _) rfl rfl rfl (by omega) rfl (Nat.le_of_ble_eq_true rfl) dX11_work_45 48 rfl ?_
          show mm_AW z k 5 (some (.int r)) F1 G6 48 [(0, .ref (mmad k 0)), (1, .int a1), (2, .int a2), (3, .int a3), (4, .int a4)] [.int x5]
          refine mm_if_ne C dX11_work_48 60 51 (by decide) rfl (fun hc => ?_) (fun hc => ?_)
          · rw [if_neg hc] at h
            refine mm_aload_n C dX11_work_60 rfl 0 rfl 61 rfl ?_
            refine mm_get C fl_X11_26_X11 (by decide) (mc_0 k _) rfl dX11_work_61 64 rfl ?_
            refine mm_aload_n C dX11_work_64 rfl 0 rfl 65 rfl ?_
            refine mm_get C fl_X11_35_X11 (by decide) (mc_0 k _) rfl dX11_work_65 68 rfl ?_
            refine mm_iload C dX11_work_68 4 rfl 70 rfl ?_
            obtain ⟨x7, G8, ex7, h⟩ := mb2 h
            refine mm_callV [.ref (mmad k 17), .int a4] C (c_X6_lead_14_17 ex7) wb_X6_lead wv_X11_131 (by decide) (mc_14 k _) rfl rfl rfl (by omega) rfl (Nat.le_of_ble_eq_true rfl) dX11_work_70 73 rfl ?_
            show mm_AW z k 5 (some (.int r)) F1 G8 73 [(0, .ref (mmad k 0)), (1, .int a1), (2, .int a2), (3, .int a3), (4, .int a4)] [.int x7]
            refine mm_pop C dX11_work_73 rfl 74 rfl ?_
            refine mm_aload_n C dX11_work_74 rfl 0 rfl 75 rfl ?_
            refine mm_get C fl_X11_35_X11 (by decide) (mc_0 k _) rfl dX11_work_75 78 rfl ?_
            refine mm_aload_n C dX11_work_78 rfl 0 rfl 79 rfl ?_
            refine mm_get C fl_X11_10_X11 (by decide) (mc_0 k _) rfl dX11_work_79 82 rfl ?_
            refine mm_iload_n C dX11_work_82 rfl 1 rfl 83 rfl ?_
            refine mm_iload_n C dX11_work_83 rfl 2 rfl 84 rfl ?_
            refine mm_iload_n C dX11_work_84 rfl 3 rfl 85 rfl ?_
            obtain ⟨x9, ex9, h⟩ := mb h
            refine mm_callV [.int a1, .int a2, .int a3] C (c_X3_standingOf_1 ex9) wb_X3_standingOf wv_X11_153 (by decide) (mc_1 k _) rfl rfl rfl (by omega) rfl (Nat.le_of_ble_eq_true rfl) dX11_work_85 88 rfl ?_
            show mm_AW z k 5 (some (.int r)) F1 G8 88 [(0, .ref (mmad k 0)), (1, .int a1), (2, .int a2), (3, .int a3), (4, .int a4)] [.int x9, .ref (mmad k 17)]
            obtain ⟨x10, ex10, h⟩ := mb h
            refine mm_callV [.int x9] C (c_X9_worth_17 ex10) wb_X9_worth wv_X11_157 (by decide) (mc_17 k _) rfl rfl rfl (by omega) rfl (Nat.le_of_ble_eq_true rfl) dX11_work_88 91 rfl ?_
            show mm_AW z k 5 (some (.int r)) F1 G8 91 [(0, .ref (mmad k 0)), (1, .int a1), (2, .int a2), (3, .int a3), (4, .int a4)] [.int x10]
            exact mm_iretW C (h) dX11_work_91
          · rw [if_pos hc] at h
            refine mm_aload_n C dX11_work_51 rfl 0 rfl 52 rfl ?_
            refine mm_get C fl_X11_19_X11 (by decide) (mc_0 k _) rfl dX11_work_52 55 rfl ?_
            refine mm_iconst (v := (1 : Int32)) C dX11_work_55 (by decide) 56 rfl ?_
            obtain ⟨x11, G12, ex11, h⟩ := mb2 h
            refine mm_callV [.int (1 : Int32)] C (c_X8_found_6 ex11) wb_X8_found wv_X11_124 (by decide) (mc_6 k _) rfl rfl rfl (by omega) rfl (Nat.le_of_ble_eq_true rfl) dX11_work_56 59 rfl ?_
            show mm_AW z k 5 (some (.int r)) F1 G12 59 [(0, .ref (mmad k 0)), (1, .int a1), (2, .int a2), (3, .int a3), (4, .int a4)] [.int x11]
            exact mm_iretW C (h) dX11_work_59
        · rw [if_pos hc] at h
          refine mm_bipush (v := (-2 : Int32)) C dX11_work_41 (by decide) 43 rfl ?_
          exact mm_iretW C (h) dX11_work_43
      · rw [if_pos hc] at h
        refine mm_bipush (v := (-2 : Int32)) C dX11_work_27 (by decide) 29 rfl ?_
        exact mm_iretW C (h) dX11_work_29
def m_X11_trusts_0 (F : mmS) (a1 : Int32) : Option (Int32 × mmS) :=
  Option.bind (m_X11_isWithin a1 (0 : Int32) (40 : Int32)) fun x1 => if x1 = (0 : Int32) then (some ((-2 : Int32), F)) else (bd2 (m_X11_readRow_0 F) fun x2 G3 => if x2 = (0 : Int32) then (bd2 (m_X8_found_6 G3 (1 : Int32)) fun x6 G7 => some (x6, G7)) else (bd2 (m_X6_lead_14_23 G3 a1) fun x4 G5 => some ((G5 23 6), G5)))
set_option maxHeartbeats 4000000 in
set_option maxRecDepth 100000 in
theorem c_X11_trusts_0 {l : Launch} {k : mmK} {F : mmS} {a1 : Int32} {r : Int32} {F1 : mmS} (h : m_X11_trusts_0 F a1 = some (r, F1)) : mm_T l k yX11_trusts cX11_trusts 2 (some .int) 6 [.ref (mmad k 0), .int a1] F (some (.int r)) F1 := by
  refine mm_start [(0, .ref (mmad k 0)), (1, .int a1)] (by decide) (Nat.le_of_ble_eq_true rfl) rfl ?_
  intro z hz C
  subst hz
  have C : mm_C z k RX11 cX11_trusts 2 (some .int) 6 := C
  replace h := mk0 h
  unfold m_X11_trusts_0 at h
  refine mm_iload_n C dX11_trusts_0 rfl 1 rfl 1 rfl ?_
  refine mm_iconst (v := (0 : Int32)) C dX11_trusts_1 (by decide) 2 rfl ?_
  refine mm_bipush (v := (40 : Int32)) C dX11_trusts_2 (by decide) 4 rfl ?_
  obtain ⟨x1, ex1, h⟩ := mb h
  refine mm_callS [.int a1, .int (0 : Int32), .int (40 : Int32)] C (c_X11_isWithin ex1) wb_X11_isWithin ws_X11_85 rfl (by omega) rfl (Nat.le_of_ble_eq_true rfl) dX11_trusts_4 7 rfl ?_
  show mm_AW z k 2 (some (.int r)) F1 F 7 [(0, .ref (mmad k 0)), (1, .int a1)] [.int x1]
  refine mm_if_ne C dX11_trusts_7 13 10 (by decide) rfl (fun hc => ?_) (fun hc => ?_)
  · rw [if_neg hc] at h
    refine mm_aload_n C dX11_trusts_13 rfl 0 rfl 14 rfl ?_
    obtain ⟨x2, G3, ex2, h⟩ := mb2 h
    refine mm_callV [] C (c_X11_readRow_0 ex2) wb_X11_readRow wv_X11_120 (by decide) (mc_0 k _) rfl rfl rfl (by omega) rfl (Nat.le_of_ble_eq_true rfl) dX11_trusts_14 17 rfl ?_
    show mm_AW z k 2 (some (.int r)) F1 G3 17 [(0, .ref (mmad k 0)), (1, .int a1)] [.int x2]
    refine mm_if_ne C dX11_trusts_17 29 20 (by decide) rfl (fun hc => ?_) (fun hc => ?_)
    · rw [if_neg hc] at h
      refine mm_aload_n C dX11_trusts_29 rfl 0 rfl 30 rfl ?_
      refine mm_get C fl_X11_26_X11 (by decide) (mc_0 k _) rfl dX11_trusts_30 33 rfl ?_
      refine mm_aload_n C dX11_trusts_33 rfl 0 rfl 34 rfl ?_
      refine mm_get C fl_X11_44_X11 (by decide) (mc_0 k _) rfl dX11_trusts_34 37 rfl ?_
      refine mm_iload_n C dX11_trusts_37 rfl 1 rfl 38 rfl ?_
      obtain ⟨x4, G5, ex4, h⟩ := mb2 h
      refine mm_callV [.ref (mmad k 23), .int a1] C (c_X6_lead_14_23 ex4) wb_X6_lead wv_X11_131 (by decide) (mc_14 k _) rfl rfl rfl (by omega) rfl (Nat.le_of_ble_eq_true rfl) dX11_trusts_38 41 rfl ?_
      show mm_AW z k 2 (some (.int r)) F1 G5 41 [(0, .ref (mmad k 0)), (1, .int a1)] [.int x4]
      refine mm_pop C dX11_trusts_41 rfl 42 rfl ?_
      refine mm_aload_n C dX11_trusts_42 rfl 0 rfl 43 rfl ?_
      refine mm_get C fl_X11_44_X11 (by decide) (mc_0 k _) rfl dX11_trusts_43 46 rfl ?_
      refine mm_get C fl_X11_160_X2 (by decide) (mc_23 k _) rfl dX11_trusts_46 49 rfl ?_
      exact mm_iretW C (h) dX11_trusts_49
    · rw [if_pos hc] at h
      refine mm_aload_n C dX11_trusts_20 rfl 0 rfl 21 rfl ?_
      refine mm_get C fl_X11_19_X11 (by decide) (mc_0 k _) rfl dX11_trusts_21 24 rfl ?_
      refine mm_iconst (v := (1 : Int32)) C dX11_trusts_24 (by decide) 25 rfl ?_
      obtain ⟨x6, G7, ex6, h⟩ := mb2 h
      refine mm_callV [.int (1 : Int32)] C (c_X8_found_6 ex6) wb_X8_found wv_X11_124 (by decide) (mc_6 k _) rfl rfl rfl (by omega) rfl (Nat.le_of_ble_eq_true rfl) dX11_trusts_25 28 rfl ?_
      show mm_AW z k 2 (some (.int r)) F1 G7 28 [(0, .ref (mmad k 0)), (1, .int a1)] [.int x6]
      exact mm_iretW C (h) dX11_trusts_28
  · rw [if_pos hc] at h
    refine mm_bipush (v := (-2 : Int32)) C dX11_trusts_10 (by decide) 12 rfl ?_
    exact mm_iretW C (h) dX11_trusts_12
def m_X7_standAtStart_87_L2 : Nat → Int32 → mmS → Option (mmS)
  | 0, _, _ => none
  | n3 + 1, v1, G2 => if (3 : Int32) ≤ v1 then (some ((G2))) else (Option.bind (ald G2 3 v1) fun x4 => Option.bind (ald G2 2 x4) fun x5 => Option.bind (ast G2 88 v1 x5) fun G6 => mlet (v1 + (1 : Int32)) fun x7 => m_X7_standAtStart_87_L2 n3 x7 G6)
def m_X7_standAtStart_87 (F : mmS)  : Option (mmS) :=
  bd1 (m_X7_standAtStart_87_L2 300 (0 : Int32) F) fun G8 => mlet (stF G8 87 2 (0 : Int32)) fun G9 => mlet (stF G9 87 3 (-1 : Int32)) fun G10 => some G10
set_option maxHeartbeats 4000000 in
set_option maxRecDepth 100000 in
theorem c_X7_standAtStart_87 {l : Launch} {k : mmK} {F : mmS}  {F1 : mmS} (h : m_X7_standAtStart_87 F = some F1) : mm_T l k yX7_standAtStart cX7_standAtStart 2 none 0 [.ref (mmad k 87)] F none F1 := by
  refine mm_start [(0, .ref (mmad k 87))] (by decide) (Nat.le_of_ble_eq_true rfl) rfl ?_
  intro z hz C
  subst hz
  have C : mm_C z k RX7 cX7_standAtStart 2 none 0 := C
  replace h := mk0 h
  unfold m_X7_standAtStart_87 at h
  refine mm_iconst (v := (0 : Int32)) C dX7_standAtStart_0 (by decide) 1 rfl ?_
  refine mm_istore_n (lv2 := [(1, .int (0 : Int32)), (0, .ref (mmad k 87))]) C dX7_standAtStart_1 rfl (by decide) rfl 2 rfl ?_
  refine mm_lv [1, 0] rfl ?_
  have hL2 : ∀ (K : (mmS) → Option (mmS)) (hK : ∀ (G2 : mmS) , K (G2) = some F1 → mm_AW z k 2 none F1 G2 36 [(0, .ref (mmad k 87))] []) (n3 : Nat) (v1 : Int32) (G2 : mmS) , (m_X7_standAtStart_87_L2 n3 v1 G2).bind K = some F1 → mm_AW z k 2 none F1 G2 2 [(0, .ref (mmad k 87)), (1, .int v1)] [] := by
    intro K hK n3
    induction n3 with
    | zero => intro v1 G2 h; rw [m_X7_standAtStart_87_L2] at h; cases h
    | succ n3 ih =>
      intro v1 G2 h
      rw [m_X7_standAtStart_87_L2] at h
      refine mm_iload_n C dX7_standAtStart_2 rfl 1 rfl 3 rfl ?_
      refine mm_iconst (v := (3 : Int32)) C dX7_standAtStart_3 (by decide) 4 rfl ?_
      refine mm_icmp_ge C dX7_standAtStart_4 36 7 (by decide) rfl (fun hc => ?_) (fun hc => ?_)
      · rw [if_pos hc] at h
        refine mm_lv [0] rfl ?_
        exact hK _ h
      · rw [if_neg hc] at h
        refine mm_aload_n C dX7_standAtStart_7 rfl 0 rfl 8 rfl ?_
        refine mm_get C fl_X7_9_X5 (by decide) (mc_87 k _) rfl dX7_standAtStart_8 11 rfl ?_
        refine mm_iload_n C dX7_standAtStart_11 rfl 1 rfl 12 rfl ?_
        refine mm_aload_n C dX7_standAtStart_12 rfl 0 rfl 13 rfl ?_
        refine mm_get C fl_X7_19_X5 (by decide) (mc_87 k _) rfl dX7_standAtStart_13 16 rfl ?_
        refine mm_get C fl_X7_26_X3 (by decide) (mc_1 k _) rfl dX7_standAtStart_16 19 rfl ?_
        refine mm_aload_n C dX7_standAtStart_19 rfl 0 rfl 20 rfl ?_
        refine mm_get C fl_X7_19_X5 (by decide) (mc_87 k _) rfl dX7_standAtStart_20 23 rfl ?_
        refine mm_get C fl_X7_31_X3 (by decide) (mc_1 k _) rfl dX7_standAtStart_23 26 rfl ?_
        refine mm_iload_n C dX7_standAtStart_26 rfl 1 rfl 27 rfl ?_
        obtain ⟨x4, ex4, h⟩ := mb h
        refine mm_iald C ex4 dX7_standAtStart_27 28 rfl ?_
        obtain ⟨x5, ex5, h⟩ := mb h
        refine mm_iald C ex5 dX7_standAtStart_28 29 rfl ?_
        obtain ⟨G6, eG6, h⟩ := mb h
        refine mm_iast C eG6 dX7_standAtStart_29 30 rfl ?_
        obtain ⟨x7, ex7, h⟩ := me h
        refine mm_iinc (v := x7) (lv2 := [(1, .int x7), (0, .ref (mmad k 87))]) C dX7_standAtStart_30 1 rfl (by rw [← ex7]; rfl) (by decide) rfl 33 rfl ?_
        refine mm_goto C dX7_standAtStart_33 2 (by decide) ?_
        refine mm_lv [1, 0] rfl ?_
        exact ih _ _ h
  refine mj1 h (fun (G8 : mmS) => mm_AW z k 2 none F1 G8 36 [(0, .ref (mmad k 87))] []) ?_ ?_
  · intro G8 h
    refine mm_aload_n C dX7_standAtStart_36 rfl 0 rfl 37 rfl ?_
    refine mm_iconst (v := (0 : Int32)) C dX7_standAtStart_37 (by decide) 38 rfl ?_
    obtain ⟨G9, eG9, h⟩ := me h
    refine mm_put (x := (0 : Int32)) (ty := .int) C fl_X7_34_X5 (by decide) (mc_87 k _) (mc_87 k _) tyX5 tyX5_ok nmX5 rfl (by decide +kernel) rfl rfl (Nat.le_of_ble_eq_true rfl) eG9 dX7_standAtStart_38 41 rfl ?_
    refine mm_aload_n C dX7_standAtStart_41 rfl 0 rfl 42 rfl ?_
    refine mm_iconst (v := (-1 : Int32)) C dX7_standAtStart_42 (by decide) 43 rfl ?_
    obtain ⟨G10, eG10, h⟩ := me h
    refine mm_put (x := (-1 : Int32)) (ty := .int) C fl_X7_15_X5 (by decide) (mc_87 k _) (mc_87 k _) tyX5 tyX5_ok nmX5 rfl (by decide +kernel) rfl rfl (Nat.le_of_ble_eq_true rfl) eG10 dX7_standAtStart_43 46 rfl ?_
    exact mm_vretW C (h) dX7_standAtStart_46
  · intro K2 hR h
    exact hL2 K2 hR 300 _ _ h
def m_X7_begin_87 (F : mmS)  : Option (mmS) :=
  Option.bind (m_X7_standAtStart_87 F) fun G1 => some G1
set_option maxHeartbeats 4000000 in
set_option maxRecDepth 100000 in
theorem c_X7_begin_87 {l : Launch} {k : mmK} {F : mmS}  {F1 : mmS} (h : m_X7_begin_87 F = some F1) : mm_T l k yX7_begin cX7_begin 1 none 1 [.ref (mmad k 87)] F none F1 := by
  refine mm_start [(0, .ref (mmad k 87))] (by decide) (Nat.le_of_ble_eq_true rfl) rfl ?_
  intro z hz C
  subst hz
  have C : mm_C z k RX7 cX7_begin 1 none 1 := C
  replace h := mk0 h
  unfold m_X7_begin_87 at h
  refine mm_aload_n C dX7_begin_0 rfl 0 rfl 1 rfl ?_
  obtain ⟨G1, eG1, h⟩ := mb h
  refine mm_callU [] C (c_X7_standAtStart_87 eG1) wb_X7_standAtStart wu_X7_23_X5 (fun s hN => hN.2.1) (by decide) (mc_87 k _) rfl rfl (by omega) rfl (Nat.le_of_ble_eq_true rfl) dX7_begin_1 4 rfl ?_
  show mm_AW z k 1 none F1 G1 4 [(0, .ref (mmad k 87))] []
  exact mm_vretW C (h) dX7_begin_4
def m_X10_leastFrom_83_L29 (a1 : Int32) (a2 : Int32) (x2 : Int32) (rc : mmS → Int32 → Int32 → Option (Int32 × mmS)) : Nat → Int32 → Int32 → mmS → Option (Int32 × mmS)
  | 0, _, _, _ => none
  | n6 + 1, v3, v4, G5 => if (G5 1 1) ≤ v4 then (some ((v3, G5))) else (Option.bind (ald G5 85 v4) fun x7 => Option.bind (ast G5 85 v4 x2) fun G8 => bd2 (rc G8 (a1 + (1 : Int32)) a2) fun x9 G10 => mlet (mmin v3 ((mabs (x7 - x2)) + x9)) fun x11 => Option.bind (ast G10 85 v4 x7) fun G12 => mlet (v4 + (1 : Int32)) fun x13 => m_X10_leastFrom_83_L29 a1 a2 x2 rc n6 x11 x13 G12)
def m_X10_leastFrom_83 : Nat → mmS → Int32 → Int32 → Option (Int32 × mmS)
  | 0, _, _, _ => none
  | nr + 1, F, a1, a2 => if a1 < a2 then (Option.bind (ald F 84 a1) fun x1 => Option.bind (ald F 2 x1) fun x2 => bd2 (m_X10_leastFrom_83_L29 a1 a2 x2 (m_X10_leastFrom_83 nr) 300 (2147483647 : Int32) (0 : Int32) F) fun y14 G15 => some (y14, G15)) else (some ((0 : Int32), F))
set_option maxHeartbeats 4000000 in
set_option maxRecDepth 100000 in
theorem c_X10_leastFrom_83 {l : Launch} {k : mmK} (nr : Nat) {F : mmS} {a1 : Int32} {a2 : Int32} {r : Int32} {F1 : mmS} (h : m_X10_leastFrom_83 nr F a1 a2 = some (r, F1)) : mm_T l k yX10_leastFrom cX10_leastFrom 7 (some .int) (nr + 1) [.ref (mmad k 83), .int a1, .int a2] F (some (.int r)) F1 := by
  induction nr generalizing F a1 a2 r F1 with
  | zero => rw [m_X10_leastFrom_83] at h; cases h
  | succ nr ihr =>
    refine mm_start [(0, .ref (mmad k 83)), (1, .int a1), (2, .int a2)] (by decide) (Nat.le_of_ble_eq_true rfl) rfl ?_
    intro z hz C
    subst hz
    have C : mm_C z k RX10 cX10_leastFrom 7 (some .int) (nr + 1 + 1) := C
    replace h := mk0 h
    rw [m_X10_leastFrom_83] at h
    refine mm_iload_n C dX10_leastFrom_0 rfl 1 rfl 1 rfl ?_
    refine mm_iload_n C dX10_leastFrom_1 rfl 2 rfl 2 rfl ?_
    refine mm_icmp_lt C dX10_leastFrom_2 7 5 (by decide) rfl (fun hc => ?_) (fun hc => ?_)
    · rw [if_pos hc] at h
      refine mm_aload_n C dX10_leastFrom_7 rfl 0 rfl 8 rfl ?_
      refine mm_get C fl_X10_22_X10 (by decide) (mc_83 k _) rfl dX10_leastFrom_8 11 rfl ?_
      refine mm_get C fl_X10_72_X3 (by decide) (mc_1 k _) rfl dX10_leastFrom_11 14 rfl ?_
      refine mm_aload_n C dX10_leastFrom_14 rfl 0 rfl 15 rfl ?_
      refine mm_get C fl_X10_9_X10 (by decide) (mc_83 k _) rfl dX10_leastFrom_15 18 rfl ?_
      refine mm_iload_n C dX10_leastFrom_18 rfl 1 rfl 19 rfl ?_
      obtain ⟨x1, ex1, h⟩ := mb h
      refine mm_iald C ex1 dX10_leastFrom_19 20 rfl ?_
      obtain ⟨x2, ex2, h⟩ := mb h
      refine mm_iald C ex2 dX10_leastFrom_20 21 rfl ?_
      refine mm_istore_n (lv2 := [(3, .int x2), (0, .ref (mmad k 83)), (1, .int a1), (2, .int a2)]) C dX10_leastFrom_21 rfl (by decide) rfl 22 rfl ?_
      refine mm_ldc (v := (2147483647 : Int32)) C dX10_leastFrom_22 mw_736 24 rfl ?_
      refine mm_istore (lv2 := [(4, .int (2147483647 : Int32)), (3, .int x2), (0, .ref (mmad k 83)), (1, .int a1), (2, .int a2)]) C dX10_leastFrom_24 (by decide) rfl 26 rfl ?_
      refine mm_iconst (v := (0 : Int32)) C dX10_leastFrom_26 (by decide) 27 rfl ?_
      refine mm_istore (lv2 := [(5, .int (0 : Int32)), (4, .int (2147483647 : Int32)), (3, .int x2), (0, .ref (mmad k 83)), (1, .int a1), (2, .int a2)]) C dX10_leastFrom_27 (by decide) rfl 29 rfl ?_
      refine mm_lv [3, 4, 5, 2, 1, 0] rfl ?_
      have hL29 : ∀ (K : (Int32 × mmS) → Option (Int32 × mmS)) (hK : ∀ (v3 : Int32) (G5 : mmS) , K (v3, G5) = some (r, F1) → mm_AW z k 7 (some (.int r)) F1 G5 96 [(4, .int v3)] []) (n6 : Nat) (v3 : Int32) (v4 : Int32) (G5 : mmS) , (m_X10_leastFrom_83_L29 a1 a2 x2 (m_X10_leastFrom_83 nr) n6 v3 v4 G5).bind K = some (r, F1) → mm_AW z k 7 (some (.int r)) F1 G5 29 [(0, .ref (mmad k 83)), (1, .int a1), (2, .int a2), (3, .int x2), (4, .int v3), (5, .int v4)] [] := by
        intro K hK n6
        induction n6 with
        | zero => intro v3 v4 G5 h; rw [m_X10_leastFrom_83_L29] at h; cases h
        | succ n6 ih =>
          intro v3 v4 G5 h
          rw [m_X10_leastFrom_83_L29] at h
          refine mm_iload C dX10_leastFrom_29 5 rfl 31 rfl ?_
          refine mm_aload_n C dX10_leastFrom_31 rfl 0 rfl 32 rfl ?_
          refine mm_get C fl_X10_22_X10 (by decide) (mc_83 k _) rfl dX10_leastFrom_32 35 rfl ?_
          refine mm_get C fl_X10_69_X3 (by decide) (mc_1 k _) rfl dX10_leastFrom_35 38 rfl ?_
          refine mm_icmp_ge C dX10_leastFrom_38 96 41 (by decide) rfl (fun hc => ?_) (fun hc => ?_)
          · rw [if_pos hc] at h
            refine mm_lv [4] rfl ?_
            exact hK _ _ h
          · rw [if_neg hc] at h
            refine mm_aload_n C dX10_leastFrom_41 rfl 0 rfl 42 rfl ?_
            refine mm_get C fl_X10_15_X10 (by decide) (mc_83 k _) rfl dX10_leastFrom_42 45 rfl ?_
            refine mm_iload C dX10_leastFrom_45 5 rfl 47 rfl ?_
            obtain ⟨x7, ex7, h⟩ := mb h
            refine mm_iald C ex7 dX10_leastFrom_47 48 rfl ?_
            refine mm_istore (lv2 := [(6, .int x7), (0, .ref (mmad k 83)), (1, .int a1), (2, .int a2), (3, .int x2), (4, .int v3), (5, .int v4)]) C dX10_leastFrom_48 (by decide) rfl 50 rfl ?_
            refine mm_aload_n C dX10_leastFrom_50 rfl 1 rfl 51 rfl ?_
            refine mm_get C fl_X10_15_X10 (by decide) (mc_83 k _) rfl dX10_leastFrom_51 54 rfl ?_
            refine mm_iload C dX10_leastFrom_54 6 rfl 56 rfl ?_
            refine mm_iload_n C dX10_leastFrom_56 rfl 4 rfl 57 rfl ?_
            obtain ⟨G8, eG8, h⟩ := mb h
            refine mm_iast C eG8 dX10_leastFrom_57 58 rfl ?_
            refine mm_iload C dX10_leastFrom_58 5 rfl 60 rfl ?_
            refine mm_iload C dX10_leastFrom_60 0 rfl 62 rfl ?_
            refine mm_iload_n C dX10_leastFrom_62 rfl 4 rfl 63 rfl ?_
            refine mm_isub C dX10_leastFrom_63 64 rfl ?_
            refine mm_abs C mw_737 mw_552 mw_62 mw_553 (by omega) (Nat.le_trans (Nat.le_of_ble_eq_true rfl : _ ≤ 40) (by omega)) dX10_leastFrom_64 67 rfl ?_
            refine mm_aload_n C dX10_leastFrom_67 rfl 1 rfl 68 rfl ?_
            refine mm_iload_n C dX10_leastFrom_68 rfl 2 rfl 69 rfl ?_
            refine mm_iconst (v := (1 : Int32)) C dX10_leastFrom_69 (by decide) 70 rfl ?_
            refine mm_iadd C dX10_leastFrom_70 71 rfl ?_
            refine mm_iload_n C dX10_leastFrom_71 rfl 3 rfl 72 rfl ?_
            obtain ⟨x9, G10, ex9, h⟩ := mb2 h
            refine mm_callV [.int (a1 + (1 : Int32)), .int a2] C (ihr ex9) wb_X10_leastFrom wv_X10_78 (by decide) (mc_83 k _) rfl rfl rfl (by omega) rfl (Nat.le_of_ble_eq_true rfl) dX10_leastFrom_72 75 rfl ?_
            show mm_AW z k 7 (some (.int r)) F1 G10 75 [(6, .int x7), (0, .ref (mmad k 83)), (1, .int a1), (2, .int a2), (3, .int x2), (4, .int v3), (5, .int v4)] [.int x9, .int (mabs (x7 - x2)), .int v3]
            refine mm_iadd C dX10_leastFrom_75 76 rfl ?_
            refine mm_min C mw_738 mw_517 mw_62 mw_518 (by omega) (Nat.le_trans (Nat.le_of_ble_eq_true rfl : _ ≤ 40) (by omega)) dX10_leastFrom_76 79 rfl ?_
            obtain ⟨x11, ex11, h⟩ := me h
            refine mm_top ex11 ?_
            refine mm_istore (lv2 := [(4, .int x11), (6, .int x7), (0, .ref (mmad k 83)), (1, .int a1), (2, .int a2), (3, .int x2), (5, .int v4)]) C dX10_leastFrom_79 (by decide) rfl 81 rfl ?_
            refine mm_aload_n C dX10_leastFrom_81 rfl 2 rfl 82 rfl ?_
            refine mm_get C fl_X10_15_X10 (by decide) (mc_83 k _) rfl dX10_leastFrom_82 85 rfl ?_
            refine mm_iload C dX10_leastFrom_85 6 rfl 87 rfl ?_
            refine mm_iload C dX10_leastFrom_87 1 rfl 89 rfl ?_
            obtain ⟨G12, eG12, h⟩ := mb h
            refine mm_iast C eG12 dX10_leastFrom_89 90 rfl ?_
            obtain ⟨x13, ex13, h⟩ := me h
            refine mm_iinc (v := x13) (lv2 := [(5, .int x13), (4, .int x11), (6, .int x7), (0, .ref (mmad k 83)), (1, .int a1), (2, .int a2), (3, .int x2)]) C dX10_leastFrom_90 6 rfl (by rw [← ex13]; rfl) (by decide) rfl 93 rfl ?_
            refine mm_goto C dX10_leastFrom_93 29 (by decide) ?_
            refine mm_lv [3, 4, 5, 6, 1, 0] rfl ?_
            exact ih _ _ _ h
      refine mj2 h (fun (y14 : Int32) (G15 : mmS) => mm_AW z k 7 (some (.int r)) F1 G15 96 [(4, .int y14)] []) ?_ ?_
      · intro y14 G15 h
        refine mm_iload C dX10_leastFrom_96 0 rfl 98 rfl ?_
        exact mm_iretW C (h) dX10_leastFrom_98
      · intro K2 hR h
        exact hL29 K2 hR 300 _ _ _ h
    · rw [if_neg hc] at h
      refine mm_iconst (v := (0 : Int32)) C dX10_leastFrom_5 (by decide) 6 rfl ?_
      exact mm_iretW C (h) dX10_leastFrom_6
def m_X5_nearestTo_87_L4 (a1 : Int32) (F : mmS) : Nat → Int32 → Int32 → Option (Int32)
  | 0, _, _ => none
  | n3 + 1, v1, v2 => if (F 1 1) ≤ v2 then (some ((v1))) else (Option.bind (ald F 88 v2) fun x4 => Option.bind (ald F 88 v1) fun x5 => bd1 (if (mabs (x5 - a1)) ≤ (mabs (x4 - a1)) then (some (v1)) else (some (v2))) fun y6 => mlet (v2 + (1 : Int32)) fun x7 => m_X5_nearestTo_87_L4 a1 F n3 y6 x7)
def m_X5_nearestTo_87 (F : mmS) (a1 : Int32) : Option (Int32) :=
  bd1 (m_X5_nearestTo_87_L4 a1 F 300 (0 : Int32) (1 : Int32)) fun y8 => some y8
set_option maxHeartbeats 4000000 in
set_option maxRecDepth 100000 in
theorem c_X5_nearestTo_87 {l : Launch} {k : mmK} {F : mmS} {a1 : Int32} {r : Int32} (h : m_X5_nearestTo_87 F a1 = some r) : mm_T l k yX5_nearestTo cX5_nearestTo 4 (some .int) 1 [.ref (mmad k 87), .int a1] F (some (.int r)) F := by
  refine mm_start [(0, .ref (mmad k 87)), (1, .int a1)] (by decide) (Nat.le_of_ble_eq_true rfl) rfl ?_
  intro z hz C
  subst hz
  have C : mm_C z k RX5 cX5_nearestTo 4 (some .int) 1 := C
  replace h := mk0 h
  unfold m_X5_nearestTo_87 at h
  refine mm_iconst (v := (0 : Int32)) C dX5_nearestTo_0 (by decide) 1 rfl ?_
  refine mm_istore_n (lv2 := [(2, .int (0 : Int32)), (0, .ref (mmad k 87)), (1, .int a1)]) C dX5_nearestTo_1 rfl (by decide) rfl 2 rfl ?_
  refine mm_iconst (v := (1 : Int32)) C dX5_nearestTo_2 (by decide) 3 rfl ?_
  refine mm_istore_n (lv2 := [(3, .int (1 : Int32)), (2, .int (0 : Int32)), (0, .ref (mmad k 87)), (1, .int a1)]) C dX5_nearestTo_3 rfl (by decide) rfl 4 rfl ?_
  refine mm_lv [2, 3, 1, 0] rfl ?_
  have hL4 : ∀ (K : (Int32) → Option (Int32)) (hK : ∀ (v1 : Int32) , K (v1) = some r → mm_AW z k 4 (some (.int r)) F F 48 [(2, .int v1)] []) (n3 : Nat) (v1 : Int32) (v2 : Int32) , (m_X5_nearestTo_87_L4 a1 F n3 v1 v2).bind K = some r → mm_AW z k 4 (some (.int r)) F F 4 [(0, .ref (mmad k 87)), (1, .int a1), (2, .int v1), (3, .int v2)] [] := by
    intro K hK n3
    induction n3 with
    | zero => intro v1 v2 h; rw [m_X5_nearestTo_87_L4] at h; cases h
    | succ n3 ih =>
      intro v1 v2 h
      rw [m_X5_nearestTo_87_L4] at h
      refine mm_iload_n C dX5_nearestTo_4 rfl 3 rfl 5 rfl ?_
      refine mm_aload_n C dX5_nearestTo_5 rfl 0 rfl 6 rfl ?_
      refine mm_get C fl_X5_15_X5 (by decide) (mc_87 k _) rfl dX5_nearestTo_6 9 rfl ?_
      refine mm_get C fl_X5_33_X3 (by decide) (mc_1 k _) rfl dX5_nearestTo_9 12 rfl ?_
      refine mm_icmp_ge C dX5_nearestTo_12 48 15 (by decide) rfl (fun hc => ?_) (fun hc => ?_)
      · rw [if_pos hc] at h
        refine mm_lv [2] rfl ?_
        exact hK _ h
      · rw [if_neg hc] at h
        refine mm_aload_n C dX5_nearestTo_15 rfl 0 rfl 16 rfl ?_
        refine mm_get C fl_X5_37_X5 (by decide) (mc_87 k _) rfl dX5_nearestTo_16 19 rfl ?_
        refine mm_iload_n C dX5_nearestTo_19 rfl 3 rfl 20 rfl ?_
        obtain ⟨x4, ex4, h⟩ := mb h
        refine mm_iald C ex4 dX5_nearestTo_20 21 rfl ?_
        refine mm_iload_n C dX5_nearestTo_21 rfl 1 rfl 22 rfl ?_
        refine mm_isub C dX5_nearestTo_22 23 rfl ?_
        refine mm_abs C mw_631 mw_552 mw_62 mw_553 (by omega) (Nat.le_trans (Nat.le_of_ble_eq_true rfl : _ ≤ 40) (by omega)) dX5_nearestTo_23 26 rfl ?_
        refine mm_aload_n C dX5_nearestTo_26 rfl 0 rfl 27 rfl ?_
        refine mm_get C fl_X5_37_X5 (by decide) (mc_87 k _) rfl dX5_nearestTo_27 30 rfl ?_
        refine mm_iload_n C dX5_nearestTo_30 rfl 2 rfl 31 rfl ?_
        obtain ⟨x5, ex5, h⟩ := mb h
        refine mm_iald C ex5 dX5_nearestTo_31 32 rfl ?_
        refine mm_iload_n C dX5_nearestTo_32 rfl 1 rfl 33 rfl ?_
        refine mm_isub C dX5_nearestTo_33 34 rfl ?_
        refine mm_abs C mw_631 mw_552 mw_62 mw_553 (by omega) (Nat.le_trans (Nat.le_of_ble_eq_true rfl : _ ≤ 40) (by omega)) dX5_nearestTo_34 37 rfl ?_
        refine mj1 h (fun (y6 : Int32) => mm_AW z k 4 (some (.int r)) F F 42 [(0, .ref (mmad k 87)), (1, .int a1), (2, .int y6), (3, .int v2)] []) ?_ ?_
        · intro y6 h
          obtain ⟨x7, ex7, h⟩ := me h
          refine mm_iinc (v := x7) (lv2 := [(3, .int x7), (0, .ref (mmad k 87)), (1, .int a1), (2, .int y6)]) C dX5_nearestTo_42 3 rfl (by rw [← ex7]; rfl) (by decide) rfl 45 rfl ?_
          refine mm_goto C dX5_nearestTo_45 4 (by decide) ?_
          refine mm_lv [1, 2, 3, 0] rfl ?_
          exact ih _ _ h
        · intro K2 hR42 h
          refine mm_icmp_ge C dX5_nearestTo_37 42 40 (by decide) rfl (fun hc => ?_) (fun hc => ?_)
          · rw [if_pos hc] at h
            exact hR42 _ h
          · rw [if_neg hc] at h
            refine mm_iload_n C dX5_nearestTo_40 rfl 3 rfl 41 rfl ?_
            refine mm_istore_n (lv2 := [(2, .int v2), (0, .ref (mmad k 87)), (1, .int a1), (3, .int v2)]) C dX5_nearestTo_41 rfl (by decide) rfl 42 rfl ?_
            refine mm_lv [1, 2, 0, 3] rfl ?_
            exact hR42 _ h
  refine mj1 h (fun (y8 : Int32) => mm_AW z k 4 (some (.int r)) F F 48 [(2, .int y8)] []) ?_ ?_
  · intro y8 h
    refine mm_iload_n C dX5_nearestTo_48 rfl 0 rfl 49 rfl ?_
    exact mm_iretP C (h) dX5_nearestTo_49
  · intro K2 hR h
    exact hL4 K2 hR 300 _ _ h
def m_X7_send_87 (F : mmS) (a1 : Int32) (a2 : Int32) : Option (mmS) :=
  Option.bind (ald F 88 a1) fun x1 => mlet (stF F 87 2 ((F 87 2) + (mabs (x1 - a2)))) fun G2 => Option.bind (ast G2 88 a1 a2) fun G3 => mlet (stF G3 87 3 a1) fun G4 => some G4
set_option maxHeartbeats 4000000 in
set_option maxRecDepth 100000 in
theorem c_X7_send_87 {l : Launch} {k : mmK} {F : mmS} {a1 : Int32} {a2 : Int32} {F1 : mmS} (h : m_X7_send_87 F a1 a2 = some F1) : mm_T l k yX7_send cX7_send 3 none 1 [.ref (mmad k 87), .int a1, .int a2] F none F1 := by
  refine mm_start [(0, .ref (mmad k 87)), (1, .int a1), (2, .int a2)] (by decide) (Nat.le_of_ble_eq_true rfl) rfl ?_
  intro z hz C
  subst hz
  have C : mm_C z k RX7 cX7_send 3 none 1 := C
  replace h := mk0 h
  unfold m_X7_send_87 at h
  refine mm_aload_n C dX7_send_0 rfl 0 rfl 1 rfl ?_
  refine mm_dup C dX7_send_1 rfl 2 rfl ?_
  refine mm_get C fl_X7_34_X5 (by decide) (mc_87 k _) rfl dX7_send_2 5 rfl ?_
  refine mm_aload_n C dX7_send_5 rfl 0 rfl 6 rfl ?_
  refine mm_get C fl_X7_9_X5 (by decide) (mc_87 k _) rfl dX7_send_6 9 rfl ?_
  refine mm_iload_n C dX7_send_9 rfl 1 rfl 10 rfl ?_
  obtain ⟨x1, ex1, h⟩ := mb h
  refine mm_iald C ex1 dX7_send_10 11 rfl ?_
  refine mm_iload_n C dX7_send_11 rfl 2 rfl 12 rfl ?_
  refine mm_isub C dX7_send_12 13 rfl ?_
  refine mm_abs C mw_599 mw_552 mw_62 mw_553 (by omega) (Nat.le_trans (Nat.le_of_ble_eq_true rfl : _ ≤ 40) (by omega)) dX7_send_13 16 rfl ?_
  refine mm_iadd C dX7_send_16 17 rfl ?_
  obtain ⟨G2, eG2, h⟩ := me h
  refine mm_put (x := ((F 87 2) + (mabs (x1 - a2)))) (ty := .int) C fl_X7_34_X5 (by decide) (mc_87 k _) (mc_87 k _) tyX5 tyX5_ok nmX5 rfl (by decide +kernel) rfl rfl (Nat.le_of_ble_eq_true rfl) eG2 dX7_send_17 20 rfl ?_
  refine mm_aload_n C dX7_send_20 rfl 0 rfl 21 rfl ?_
  refine mm_get C fl_X7_9_X5 (by decide) (mc_87 k _) rfl dX7_send_21 24 rfl ?_
  refine mm_iload_n C dX7_send_24 rfl 1 rfl 25 rfl ?_
  refine mm_iload_n C dX7_send_25 rfl 2 rfl 26 rfl ?_
  obtain ⟨G3, eG3, h⟩ := mb h
  refine mm_iast C eG3 dX7_send_26 27 rfl ?_
  refine mm_aload_n C dX7_send_27 rfl 0 rfl 28 rfl ?_
  refine mm_iload_n C dX7_send_28 rfl 1 rfl 29 rfl ?_
  obtain ⟨G4, eG4, h⟩ := me h
  refine mm_put (x := a1) (ty := .int) C fl_X7_15_X5 (by decide) (mc_87 k _) (mc_87 k _) tyX5 tyX5_ok nmX5 rfl (by decide +kernel) rfl rfl (Nat.le_of_ble_eq_true rfl) eG4 dX7_send_29 32 rfl ?_
  exact mm_vretW C (h) dX7_send_32
def m_X5_meet_87 (F : mmS) (a1 : Int32) (a2 : Int32) : Option (mmS) :=
  Option.bind (ald F 2 a1) fun x1 => bd1 (if (F 87 4) = (0 : Int32) then (some ((0 : Int32))) else (if a2 = (-1 : Int32) then (some ((0 : Int32))) else (some ((1 : Int32))))) fun y2 => bd1 (if y2 = (0 : Int32) then (Option.bind (m_X5_nearestTo_87 F x1) fun x3 => some (x3)) else (some (a2))) fun y4 => Option.bind (m_X7_send_87 F y4 x1) fun G5 => some G5
set_option maxHeartbeats 4000000 in
set_option maxRecDepth 100000 in
theorem c_X5_meet_87 {l : Launch} {k : mmK} {F : mmS} {a1 : Int32} {a2 : Int32} {F1 : mmS} (h : m_X5_meet_87 F a1 a2 = some F1) : mm_T l k yX5_meet cX5_meet 5 none 2 [.ref (mmad k 87), .int a1, .int a2] F none F1 := by
  refine mm_start [(0, .ref (mmad k 87)), (1, .int a1), (2, .int a2)] (by decide) (Nat.le_of_ble_eq_true rfl) rfl ?_
  intro z hz C
  subst hz
  have C : mm_C z k RX5 cX5_meet 5 none 2 := C
  replace h := mk0 h
  unfold m_X5_meet_87 at h
  refine mm_aload_n C dX5_meet_0 rfl 0 rfl 1 rfl ?_
  refine mm_get C fl_X5_15_X5 (by decide) (mc_87 k _) rfl dX5_meet_1 4 rfl ?_
  refine mm_get C fl_X5_19_X3 (by decide) (mc_1 k _) rfl dX5_meet_4 7 rfl ?_
  refine mm_iload_n C dX5_meet_7 rfl 1 rfl 8 rfl ?_
  obtain ⟨x1, ex1, h⟩ := mb h
  refine mm_iald C ex1 dX5_meet_8 9 rfl ?_
  refine mm_istore_n (lv2 := [(3, .int x1), (0, .ref (mmad k 87)), (1, .int a1), (2, .int a2)]) C dX5_meet_9 rfl (by decide) rfl 10 rfl ?_
  refine mm_aload_n C dX5_meet_10 rfl 1 rfl 11 rfl ?_
  refine mm_get C fl_X5_9_X5 (by decide) (mc_87 k _) rfl dX5_meet_11 14 rfl ?_
  refine mj1 h (fun (y2 : Int32) => mm_AW z k 5 none F1 F 27 [(0, .ref (mmad k 87)), (2, .int a2), (3, .int x1)] [.int y2]) ?_ ?_
  · intro y2 h
    refine mm_istore (lv2 := [(4, .int y2), (0, .ref (mmad k 87)), (2, .int a2), (3, .int x1)]) C dX5_meet_27 (by decide) rfl 29 rfl ?_
    refine mm_aload_n C dX5_meet_29 rfl 1 rfl 30 rfl ?_
    refine mm_iload C dX5_meet_30 0 rfl 32 rfl ?_
    refine mj1 h (fun (y4 : Int32) => mm_AW z k 5 none F1 F 44 [(3, .int x1)] [.int y4, .ref (mmad k 87)]) ?_ ?_
    · intro y4 h
      refine mm_iload_n C dX5_meet_44 rfl 0 rfl 45 rfl ?_
      obtain ⟨G5, eG5, h⟩ := mb h
      refine mm_callU [.int y4, .int x1] C (c_X7_send_87 eG5) wb_X7_send wu_X5_29_X5 (fun s hN => hN.2.2.2.1) (by decide) (mc_87 k _) rfl rfl (by omega) rfl (Nat.le_of_ble_eq_true rfl) dX5_meet_45 48 rfl ?_
      show mm_AW z k 5 none F1 G5 48 [(3, .int x1)] []
      exact mm_vretW C (h) dX5_meet_48
    · intro K2 hR44 h
      refine mm_if_eq C dX5_meet_32 39 35 (by decide) rfl (fun hc => ?_) (fun hc => ?_)
      · rw [if_pos hc] at h
        refine mm_aload_n C dX5_meet_39 rfl 1 rfl 40 rfl ?_
        refine mm_iload_n C dX5_meet_40 rfl 3 rfl 41 rfl ?_
        obtain ⟨x3, ex3, h⟩ := mb h
        refine mm_callV [.int x1] C (c_X5_nearestTo_87 ex3) wb_X5_nearestTo wv_X5_25 (by decide) (mc_87 k _) rfl rfl rfl (by omega) rfl (Nat.le_of_ble_eq_true rfl) dX5_meet_41 44 rfl ?_
        show mm_AW z k 5 none F1 F 44 [(4, .int y2), (0, .ref (mmad k 87)), (2, .int a2), (3, .int x1)] [.int x3, .ref (mmad k 87)]
        refine mm_lv [3] rfl ?_
        exact hR44 _ h
      · rw [if_neg hc] at h
        refine mm_iload_n C dX5_meet_35 rfl 2 rfl 36 rfl ?_
        refine mm_goto C dX5_meet_36 44 (by decide) ?_
        refine mm_lv [3] rfl ?_
        exact hR44 _ h
  · intro K2 hR27 h
    refine mm_if_eq C dX5_meet_14 26 17 (by decide) rfl (fun hc => ?_) (fun hc => ?_)
    · rw [if_pos hc] at h
      refine mm_iconst (v := (0 : Int32)) C dX5_meet_26 (by decide) 27 rfl ?_
      refine mm_lv [1, 3, 0] rfl ?_
      exact hR27 _ h
    · rw [if_neg hc] at h
      refine mm_iload_n C dX5_meet_17 rfl 3 rfl 18 rfl ?_
      refine mm_iconst (v := (-1 : Int32)) C dX5_meet_18 (by decide) 19 rfl ?_
      refine mm_icmp_eq C dX5_meet_19 26 22 (by decide) rfl (fun hc => ?_) (fun hc => ?_)
      · rw [if_pos hc] at h
        refine mm_iconst (v := (0 : Int32)) C dX5_meet_26 (by decide) 27 rfl ?_
        refine mm_lv [1, 3, 0] rfl ?_
        exact hR27 _ h
      · rw [if_neg hc] at h
        refine mm_iconst (v := (1 : Int32)) C dX5_meet_22 (by decide) 23 rfl ?_
        refine mm_goto C dX5_meet_23 27 (by decide) ?_
        refine mm_lv [1, 3, 0] rfl ?_
        exact hR27 _ h
def m_X10_weigh_83_87_L3 : Nat → Int32 → mmS → Option (mmS)
  | 0, _, _ => none
  | n3 + 1, v1, G2 => if (G2 1 1) ≤ v1 then (some ((G2))) else (Option.bind (ald G2 3 v1) fun x4 => Option.bind (ald G2 2 x4) fun x5 => Option.bind (ast G2 85 v1 x5) fun G6 => mlet (v1 + (1 : Int32)) fun x7 => m_X10_weigh_83_87_L3 n3 x7 G6)
def m_X10_weigh_83_87_L67 (a2 : Int32) : Nat → Int32 → mmS → Option (mmS)
  | 0, _, _ => none
  | n14 + 1, v12, G13 => if a2 ≤ v12 then (some ((G13))) else (Option.bind (ald G13 84 v12) fun x15 => Option.bind (m_X5_meet_87 G13 x15 (-1 : Int32)) fun G16 => mlet (v12 + (1 : Int32)) fun x17 => m_X10_weigh_83_87_L67 a2 n14 x17 G16)
def m_X10_weigh_83_87 (F : mmS) (a2 : Int32) (a3 : Int32) : Option (mmS) :=
  bd1 (m_X10_weigh_83_87_L3 300 (0 : Int32) F) fun G8 => bd2 (m_X10_leastFrom_83 5 G8 (0 : Int32) a2) fun x9 G10 => if (0 : Int32) < x9 then (Option.bind (m_X7_standAtStart_87 G10) fun G11 => bd1 (m_X10_weigh_83_87_L67 a2 300 (0 : Int32) G11) fun G18 => if (G18 83 4) = (-1 : Int32) then (mlet (stF G18 83 4 a3) fun G19 => mlet (stF G19 83 5 (G19 87 2)) fun G20 => mlet (stF G20 83 6 x9) fun G21 => some G21) else (if ((G18 87 2) * (G18 83 6)) ≤ ((G18 83 5) * x9) then (some G18) else (mlet (stF G18 83 4 a3) fun G22 => mlet (stF G22 83 5 (G22 87 2)) fun G23 => mlet (stF G23 83 6 x9) fun G24 => some G24))) else (some G10)
set_option maxHeartbeats 4000000 in
set_option maxRecDepth 100000 in
theorem c_X10_weigh_83_87 {l : Launch} {k : mmK} {F : mmS} {a2 : Int32} {a3 : Int32} {F1 : mmS} (h : m_X10_weigh_83_87 F a2 a3 = some F1) : mm_T l k yX10_weigh cX10_weigh 6 none 7 [.ref (mmad k 83), .ref (mmad k 87), .int a2, .int a3] F none F1 := by
  refine mm_start [(0, .ref (mmad k 83)), (1, .ref (mmad k 87)), (2, .int a2), (3, .int a3)] (by decide) (Nat.le_of_ble_eq_true rfl) rfl ?_
  intro z hz C
  subst hz
  have C : mm_C z k RX10 cX10_weigh 6 none 7 := C
  replace h := mk0 h
  unfold m_X10_weigh_83_87 at h
  refine mm_iconst (v := (0 : Int32)) C dX10_weigh_0 (by decide) 1 rfl ?_
  refine mm_istore (lv2 := [(4, .int (0 : Int32)), (0, .ref (mmad k 83)), (1, .ref (mmad k 87)), (2, .int a2), (3, .int a3)]) C dX10_weigh_1 (by decide) rfl 3 rfl ?_
  refine mm_lv [1, 2, 3, 4, 0] rfl ?_
  have hL3 : ∀ (K : (mmS) → Option (mmS)) (hK : ∀ (G2 : mmS) , K (G2) = some F1 → mm_AW z k 6 none F1 G2 46 [(0, .ref (mmad k 83)), (1, .ref (mmad k 87)), (2, .int a2), (3, .int a3)] []) (n3 : Nat) (v1 : Int32) (G2 : mmS) , (m_X10_weigh_83_87_L3 n3 v1 G2).bind K = some F1 → mm_AW z k 6 none F1 G2 3 [(0, .ref (mmad k 83)), (1, .ref (mmad k 87)), (2, .int a2), (3, .int a3), (4, .int v1)] [] := by
    intro K hK n3
    induction n3 with
    | zero => intro v1 G2 h; rw [m_X10_weigh_83_87_L3] at h; cases h
    | succ n3 ih =>
      intro v1 G2 h
      rw [m_X10_weigh_83_87_L3] at h
      refine mm_iload C dX10_weigh_3 4 rfl 5 rfl ?_
      refine mm_aload_n C dX10_weigh_5 rfl 0 rfl 6 rfl ?_
      refine mm_get C fl_X10_22_X10 (by decide) (mc_83 k _) rfl dX10_weigh_6 9 rfl ?_
      refine mm_get C fl_X10_69_X3 (by decide) (mc_1 k _) rfl dX10_weigh_9 12 rfl ?_
      refine mm_icmp_ge C dX10_weigh_12 46 15 (by decide) rfl (fun hc => ?_) (fun hc => ?_)
      · rw [if_pos hc] at h
        refine mm_lv [0, 1, 2, 3] rfl ?_
        exact hK _ h
      · rw [if_neg hc] at h
        refine mm_aload_n C dX10_weigh_15 rfl 0 rfl 16 rfl ?_
        refine mm_get C fl_X10_15_X10 (by decide) (mc_83 k _) rfl dX10_weigh_16 19 rfl ?_
        refine mm_iload C dX10_weigh_19 4 rfl 21 rfl ?_
        refine mm_aload_n C dX10_weigh_21 rfl 0 rfl 22 rfl ?_
        refine mm_get C fl_X10_22_X10 (by decide) (mc_83 k _) rfl dX10_weigh_22 25 rfl ?_
        refine mm_get C fl_X10_72_X3 (by decide) (mc_1 k _) rfl dX10_weigh_25 28 rfl ?_
        refine mm_aload_n C dX10_weigh_28 rfl 0 rfl 29 rfl ?_
        refine mm_get C fl_X10_22_X10 (by decide) (mc_83 k _) rfl dX10_weigh_29 32 rfl ?_
        refine mm_get C fl_X10_75_X3 (by decide) (mc_1 k _) rfl dX10_weigh_32 35 rfl ?_
        refine mm_iload C dX10_weigh_35 4 rfl 37 rfl ?_
        obtain ⟨x4, ex4, h⟩ := mb h
        refine mm_iald C ex4 dX10_weigh_37 38 rfl ?_
        obtain ⟨x5, ex5, h⟩ := mb h
        refine mm_iald C ex5 dX10_weigh_38 39 rfl ?_
        obtain ⟨G6, eG6, h⟩ := mb h
        refine mm_iast C eG6 dX10_weigh_39 40 rfl ?_
        obtain ⟨x7, ex7, h⟩ := me h
        refine mm_iinc (v := x7) (lv2 := [(4, .int x7), (0, .ref (mmad k 83)), (1, .ref (mmad k 87)), (2, .int a2), (3, .int a3)]) C dX10_weigh_40 4 rfl (by rw [← ex7]; rfl) (by decide) rfl 43 rfl ?_
        refine mm_goto C dX10_weigh_43 3 (by decide) ?_
        refine mm_lv [1, 2, 3, 4, 0] rfl ?_
        exact ih _ _ h
  refine mj1 h (fun (G8 : mmS) => mm_AW z k 6 none F1 G8 46 [(0, .ref (mmad k 83)), (1, .ref (mmad k 87)), (2, .int a2), (3, .int a3)] []) ?_ ?_
  · intro G8 h
    refine mm_aload_n C dX10_weigh_46 rfl 0 rfl 47 rfl ?_
    refine mm_iconst (v := (0 : Int32)) C dX10_weigh_47 (by decide) 48 rfl ?_
    refine mm_iload_n C dX10_weigh_48 rfl 2 rfl 49 rfl ?_
    obtain ⟨x9, G10, ex9, h⟩ := mb2 h
    refine mm_callV [.int (0 : Int32), .int a2] C (c_X10_leastFrom_83 5 ex9) wb_X10_leastFrom wv_X10_78 (by decide) (mc_83 k _) rfl rfl rfl (by omega) rfl (Nat.le_of_ble_eq_true rfl) dX10_weigh_49 52 rfl ?_
    show mm_AW z k 6 none F1 G10 52 [(0, .ref (mmad k 83)), (1, .ref (mmad k 87)), (2, .int a2), (3, .int a3)] [.int x9]
    refine mm_istore (lv2 := [(4, .int x9), (0, .ref (mmad k 83)), (1, .ref (mmad k 87)), (2, .int a2), (3, .int a3)]) C dX10_weigh_52 (by decide) rfl 54 rfl ?_
    refine mm_iload C dX10_weigh_54 0 rfl 56 rfl ?_
    refine mm_if_gt C dX10_weigh_56 60 59 (by decide) rfl (fun hc => ?_) (fun hc => ?_)
    · rw [if_pos hc] at h
      refine mm_aload_n C dX10_weigh_60 rfl 2 rfl 61 rfl ?_
      obtain ⟨G11, eG11, h⟩ := mb h
      refine mm_callU [] C (c_X7_standAtStart_87 eG11) wb_X7_standAtStart wu_X10_82_X5 (fun s hN => hN.2.1) (by decide) (mc_87 k _) rfl rfl (by omega) rfl (Nat.le_of_ble_eq_true rfl) dX10_weigh_61 64 rfl ?_
      show mm_AW z k 6 none F1 G11 64 [(4, .int x9), (0, .ref (mmad k 83)), (1, .ref (mmad k 87)), (2, .int a2), (3, .int a3)] []
      refine mm_iconst (v := (0 : Int32)) C dX10_weigh_64 (by decide) 65 rfl ?_
      refine mm_istore (lv2 := [(5, .int (0 : Int32)), (4, .int x9), (0, .ref (mmad k 83)), (1, .ref (mmad k 87)), (2, .int a2), (3, .int a3)]) C dX10_weigh_65 (by decide) rfl 67 rfl ?_
      refine mm_lv [2, 3, 4, 5, 1, 0] rfl ?_
      have hL67 : ∀ (K : (mmS) → Option (mmS)) (hK : ∀ (G13 : mmS) , K (G13) = some F1 → mm_AW z k 6 none F1 G13 91 [(0, .ref (mmad k 83)), (1, .ref (mmad k 87)), (3, .int a3), (4, .int x9)] []) (n14 : Nat) (v12 : Int32) (G13 : mmS) , (m_X10_weigh_83_87_L67 a2 n14 v12 G13).bind K = some F1 → mm_AW z k 6 none F1 G13 67 [(0, .ref (mmad k 83)), (1, .ref (mmad k 87)), (2, .int a2), (3, .int a3), (4, .int x9), (5, .int v12)] [] := by
        intro K hK n14
        induction n14 with
        | zero => intro v12 G13 h; rw [m_X10_weigh_83_87_L67] at h; cases h
        | succ n14 ih =>
          intro v12 G13 h
          rw [m_X10_weigh_83_87_L67] at h
          refine mm_iload C dX10_weigh_67 5 rfl 69 rfl ?_
          refine mm_iload_n C dX10_weigh_69 rfl 2 rfl 70 rfl ?_
          refine mm_icmp_ge C dX10_weigh_70 91 73 (by decide) rfl (fun hc => ?_) (fun hc => ?_)
          · rw [if_pos hc] at h
            refine mm_lv [0, 1, 3, 4] rfl ?_
            exact hK _ h
          · rw [if_neg hc] at h
            refine mm_aload_n C dX10_weigh_73 rfl 1 rfl 74 rfl ?_
            refine mm_aload_n C dX10_weigh_74 rfl 0 rfl 75 rfl ?_
            refine mm_get C fl_X10_9_X10 (by decide) (mc_83 k _) rfl dX10_weigh_75 78 rfl ?_
            refine mm_iload C dX10_weigh_78 5 rfl 80 rfl ?_
            obtain ⟨x15, ex15, h⟩ := mb h
            refine mm_iald C ex15 dX10_weigh_80 81 rfl ?_
            refine mm_iconst (v := (-1 : Int32)) C dX10_weigh_81 (by decide) 82 rfl ?_
            obtain ⟨G16, eG16, h⟩ := mb h
            refine mm_callU [.int x15, .int (-1 : Int32)] C (c_X5_meet_87 eG16) wb_X5_meet wu_X10_85_X5 (fun s hN => hN.2.2.1) (by decide) (mc_87 k _) rfl rfl (by omega) rfl (Nat.le_of_ble_eq_true rfl) dX10_weigh_82 85 rfl ?_
            show mm_AW z k 6 none F1 G16 85 [(0, .ref (mmad k 83)), (1, .ref (mmad k 87)), (2, .int a2), (3, .int a3), (4, .int x9), (5, .int v12)] []
            obtain ⟨x17, ex17, h⟩ := me h
            refine mm_iinc (v := x17) (lv2 := [(5, .int x17), (0, .ref (mmad k 83)), (1, .ref (mmad k 87)), (2, .int a2), (3, .int a3), (4, .int x9)]) C dX10_weigh_85 5 rfl (by rw [← ex17]; rfl) (by decide) rfl 88 rfl ?_
            refine mm_goto C dX10_weigh_88 67 (by decide) ?_
            refine mm_lv [1, 2, 3, 4, 5, 0] rfl ?_
            exact ih _ _ h
      refine mj1 h (fun (G18 : mmS) => mm_AW z k 6 none F1 G18 91 [(0, .ref (mmad k 83)), (1, .ref (mmad k 87)), (3, .int a3), (4, .int x9)] []) ?_ ?_
      · intro G18 h
        refine mm_aload_n C dX10_weigh_91 rfl 0 rfl 92 rfl ?_
        refine mm_get C fl_X10_18_X10 (by decide) (mc_83 k _) rfl dX10_weigh_92 95 rfl ?_
        refine mm_iconst (v := (-1 : Int32)) C dX10_weigh_95 (by decide) 96 rfl ?_
        refine mm_icmp_eq C dX10_weigh_96 118 99 (by decide) rfl (fun hc => ?_) (fun hc => ?_)
        · rw [if_pos hc] at h
          refine mm_aload_n C dX10_weigh_118 rfl 0 rfl 119 rfl ?_
          refine mm_iload_n C dX10_weigh_119 rfl 2 rfl 120 rfl ?_
          obtain ⟨G19, eG19, h⟩ := me h
          refine mm_put (x := a3) (ty := .int) C fl_X10_18_X10 (by decide) (mc_83 k _) (mc_83 k _) tyX10 tyX10_ok nmX10 rfl (by decide +kernel) rfl rfl (Nat.le_of_ble_eq_true rfl) eG19 dX10_weigh_120 123 rfl ?_
          refine mm_aload_n C dX10_weigh_123 rfl 0 rfl 124 rfl ?_
          refine mm_aload_n C dX10_weigh_124 rfl 1 rfl 125 rfl ?_
          refine mm_get C fl_X10_89_X5 (by decide) (mc_87 k _) rfl dX10_weigh_125 128 rfl ?_
          obtain ⟨G20, eG20, h⟩ := me h
          refine mm_put (x := (G19 87 2)) (ty := .int) C fl_X10_47_X10 (by decide) (mc_83 k _) (mc_83 k _) tyX10 tyX10_ok nmX10 rfl (by decide +kernel) rfl rfl (Nat.le_of_ble_eq_true rfl) eG20 dX10_weigh_128 131 rfl ?_
          refine mm_aload_n C dX10_weigh_131 rfl 0 rfl 132 rfl ?_
          refine mm_iload C dX10_weigh_132 3 rfl 134 rfl ?_
          obtain ⟨G21, eG21, h⟩ := me h
          refine mm_put (x := x9) (ty := .int) C fl_X10_50_X10 (by decide) (mc_83 k _) (mc_83 k _) tyX10 tyX10_ok nmX10 rfl (by decide +kernel) rfl rfl (Nat.le_of_ble_eq_true rfl) eG21 dX10_weigh_134 137 rfl ?_
          exact mm_vretW C (h) dX10_weigh_137
        · rw [if_neg hc] at h
          refine mm_aload_n C dX10_weigh_99 rfl 1 rfl 100 rfl ?_
          refine mm_get C fl_X10_89_X5 (by decide) (mc_87 k _) rfl dX10_weigh_100 103 rfl ?_
          refine mm_aload_n C dX10_weigh_103 rfl 0 rfl 104 rfl ?_
          refine mm_get C fl_X10_50_X10 (by decide) (mc_83 k _) rfl dX10_weigh_104 107 rfl ?_
          refine mm_imul C dX10_weigh_107 108 rfl ?_
          refine mm_aload_n C dX10_weigh_108 rfl 0 rfl 109 rfl ?_
          refine mm_get C fl_X10_47_X10 (by decide) (mc_83 k _) rfl dX10_weigh_109 112 rfl ?_
          refine mm_iload C dX10_weigh_112 3 rfl 114 rfl ?_
          refine mm_imul C dX10_weigh_114 115 rfl ?_
          refine mm_icmp_le C dX10_weigh_115 137 118 (by decide) rfl (fun hc => ?_) (fun hc => ?_)
          · rw [if_pos hc] at h
            exact mm_vretW C (h) dX10_weigh_137
          · rw [if_neg hc] at h
            refine mm_aload_n C dX10_weigh_118 rfl 0 rfl 119 rfl ?_
            refine mm_iload_n C dX10_weigh_119 rfl 2 rfl 120 rfl ?_
            obtain ⟨G22, eG22, h⟩ := me h
            refine mm_put (x := a3) (ty := .int) C fl_X10_18_X10 (by decide) (mc_83 k _) (mc_83 k _) tyX10 tyX10_ok nmX10 rfl (by decide +kernel) rfl rfl (Nat.le_of_ble_eq_true rfl) eG22 dX10_weigh_120 123 rfl ?_
            refine mm_aload_n C dX10_weigh_123 rfl 0 rfl 124 rfl ?_
            refine mm_aload_n C dX10_weigh_124 rfl 1 rfl 125 rfl ?_
            refine mm_get C fl_X10_89_X5 (by decide) (mc_87 k _) rfl dX10_weigh_125 128 rfl ?_
            obtain ⟨G23, eG23, h⟩ := me h
            refine mm_put (x := (G22 87 2)) (ty := .int) C fl_X10_47_X10 (by decide) (mc_83 k _) (mc_83 k _) tyX10 tyX10_ok nmX10 rfl (by decide +kernel) rfl rfl (Nat.le_of_ble_eq_true rfl) eG23 dX10_weigh_128 131 rfl ?_
            refine mm_aload_n C dX10_weigh_131 rfl 0 rfl 132 rfl ?_
            refine mm_iload C dX10_weigh_132 3 rfl 134 rfl ?_
            obtain ⟨G24, eG24, h⟩ := me h
            refine mm_put (x := x9) (ty := .int) C fl_X10_50_X10 (by decide) (mc_83 k _) (mc_83 k _) tyX10 tyX10_ok nmX10 rfl (by decide +kernel) rfl rfl (Nat.le_of_ble_eq_true rfl) eG24 dX10_weigh_134 137 rfl ?_
            exact mm_vretW C (h) dX10_weigh_137
      · intro K2 hR h
        exact hL67 K2 hR 300 _ _ h
    · rw [if_neg hc] at h
      exact mm_vretW C (h) dX10_weigh_59
  · intro K2 hR h
    exact hL3 K2 hR 300 _ _ h
def m_X10_turnToNextRow_83_L4 : Nat → Int32 → mmS → Option ((Int32 × mmS) ⊕ (mmS))
  | 0, _, _ => none
  | n4 + 1, v2, G3 => if v2 < (0 : Int32) then (some (.inr (G3))) else (Option.bind (ald G3 84 v2) fun x5 => if ((G3 1 0) - (1 : Int32)) ≤ x5 then (Option.bind (ast G3 84 v2 (0 : Int32)) fun G6 => mlet (v2 + (-1 : Int32)) fun x7 => m_X10_turnToNextRow_83_L4 n4 x7 G6) else (Option.bind (ald G3 84 v2) fun x8 => Option.bind (ast G3 84 v2 (x8 + (1 : Int32))) fun G9 => Option.bind (zg (1 : Int32)) fun x10 => some (.inl (x10, G9))))
def m_X10_turnToNextRow_83 (F : mmS) (a1 : Int32) : Option (Int32 × mmS) :=
  mlet (a1 - (1 : Int32)) fun x1 => bdE1 (m_X10_turnToNextRow_83_L4 300 x1 F) fun G11 => Option.bind (zg (0 : Int32)) fun x12 => some ((x12, G11))
set_option maxHeartbeats 4000000 in
set_option maxRecDepth 100000 in
theorem c_X10_turnToNextRow_83 {l : Launch} {k : mmK} {F : mmS} {a1 : Int32} {r : Int32} {F1 : mmS} (h : m_X10_turnToNextRow_83 F a1 = some (r, F1)) : mm_T l k yX10_turnToNextRow cX10_turnToNextRow 3 (some .boolean) 0 [.ref (mmad k 83), .int a1] F (some (.int r)) F1 := by
  refine mm_start [(0, .ref (mmad k 83)), (1, .int a1)] (by decide) (Nat.le_of_ble_eq_true rfl) rfl ?_
  intro z hz C
  subst hz
  have C : mm_C z k RX10 cX10_turnToNextRow 3 (some .boolean) 0 := C
  replace h := mk0 h
  unfold m_X10_turnToNextRow_83 at h
  refine mm_iload_n C dX10_turnToNextRow_0 rfl 1 rfl 1 rfl ?_
  refine mm_iconst (v := (1 : Int32)) C dX10_turnToNextRow_1 (by decide) 2 rfl ?_
  refine mm_isub C dX10_turnToNextRow_2 3 rfl ?_
  obtain ⟨x1, ex1, h⟩ := me h
  refine mm_top ex1 ?_
  refine mm_istore_n (lv2 := [(2, .int x1), (0, .ref (mmad k 83)), (1, .int a1)]) C dX10_turnToNextRow_3 rfl (by decide) rfl 4 rfl ?_
  refine mm_lv [1, 0] rfl ?_
  have hL4 : ∀ (K : ((Int32 × mmS) ⊕ (mmS)) → Option (Int32 × mmS)) (hK : ∀ (G3 : mmS) , K (.inr (G3)) = some (r, F1) → mm_AW z k 3 (some (.int r)) F1 G3 51 [] []) (hE : ∀ q : Int32 × mmS, K (.inl q) = some (r, F1) → q = (r, F1)) (n4 : Nat) (v2 : Int32) (G3 : mmS) , (m_X10_turnToNextRow_83_L4 n4 v2 G3).bind K = some (r, F1) → mm_AW z k 3 (some (.int r)) F1 G3 4 [(0, .ref (mmad k 83)), (2, .int v2)] [] := by
    intro K hK hE n4
    induction n4 with
    | zero => intro v2 G3 h; rw [m_X10_turnToNextRow_83_L4] at h; cases h
    | succ n4 ih =>
      intro v2 G3 h
      rw [m_X10_turnToNextRow_83_L4] at h
      refine mm_iload_n C dX10_turnToNextRow_4 rfl 1 rfl 5 rfl ?_
      refine mm_if_lt C dX10_turnToNextRow_5 51 8 (by decide) rfl (fun hc => ?_) (fun hc => ?_)
      · rw [if_pos hc] at h
        refine mm_lv [] rfl ?_
        exact hK _ h
      · rw [if_neg hc] at h
        refine mm_aload_n C dX10_turnToNextRow_8 rfl 0 rfl 9 rfl ?_
        refine mm_get C fl_X10_9_X10 (by decide) (mc_83 k _) rfl dX10_turnToNextRow_9 12 rfl ?_
        refine mm_iload_n C dX10_turnToNextRow_12 rfl 1 rfl 13 rfl ?_
        obtain ⟨x5, ex5, h⟩ := mb h
        refine mm_iald C ex5 dX10_turnToNextRow_13 14 rfl ?_
        refine mm_aload_n C dX10_turnToNextRow_14 rfl 0 rfl 15 rfl ?_
        refine mm_get C fl_X10_22_X10 (by decide) (mc_83 k _) rfl dX10_turnToNextRow_15 18 rfl ?_
        refine mm_get C fl_X10_64_X3 (by decide) (mc_1 k _) rfl dX10_turnToNextRow_18 21 rfl ?_
        refine mm_iconst (v := (1 : Int32)) C dX10_turnToNextRow_21 (by decide) 22 rfl ?_
        refine mm_isub C dX10_turnToNextRow_22 23 rfl ?_
        refine mm_icmp_ge C dX10_turnToNextRow_23 38 26 (by decide) rfl (fun hc => ?_) (fun hc => ?_)
        · rw [if_pos hc] at h
          refine mm_aload_n C dX10_turnToNextRow_38 rfl 0 rfl 39 rfl ?_
          refine mm_get C fl_X10_9_X10 (by decide) (mc_83 k _) rfl dX10_turnToNextRow_39 42 rfl ?_
          refine mm_iload_n C dX10_turnToNextRow_42 rfl 1 rfl 43 rfl ?_
          refine mm_iconst (v := (0 : Int32)) C dX10_turnToNextRow_43 (by decide) 44 rfl ?_
          obtain ⟨G6, eG6, h⟩ := mb h
          refine mm_iast C eG6 dX10_turnToNextRow_44 45 rfl ?_
          obtain ⟨x7, ex7, h⟩ := me h
          refine mm_iinc (v := x7) (lv2 := [(2, .int x7), (0, .ref (mmad k 83))]) C dX10_turnToNextRow_45 1 rfl (by rw [← ex7]; rfl) (by decide) rfl 48 rfl ?_
          refine mm_goto C dX10_turnToNextRow_48 4 (by decide) ?_
          refine mm_lv [1, 0] rfl ?_
          exact ih _ _ h
        · rw [if_neg hc] at h
          refine mm_aload_n C dX10_turnToNextRow_26 rfl 0 rfl 27 rfl ?_
          refine mm_get C fl_X10_9_X10 (by decide) (mc_83 k _) rfl dX10_turnToNextRow_27 30 rfl ?_
          refine mm_iload_n C dX10_turnToNextRow_30 rfl 1 rfl 31 rfl ?_
          refine mm_dup2 C dX10_turnToNextRow_31 rfl rfl 32 rfl ?_
          obtain ⟨x8, ex8, h⟩ := mb h
          refine mm_iald C ex8 dX10_turnToNextRow_32 33 rfl ?_
          refine mm_iconst (v := (1 : Int32)) C dX10_turnToNextRow_33 (by decide) 34 rfl ?_
          refine mm_iadd C dX10_turnToNextRow_34 35 rfl ?_
          obtain ⟨G9, eG9, h⟩ := mb h
          refine mm_iast C eG9 dX10_turnToNextRow_35 36 rfl ?_
          refine mm_iconst (v := (1 : Int32)) C dX10_turnToNextRow_36 (by decide) 37 rfl ?_
          obtain ⟨x10, ex10, h⟩ := mb h
          exact mm_zretW C ex10 (congrArg some (hE _ h)) dX10_turnToNextRow_37
  refine mjE1 h (fun (G11 : mmS) => mm_AW z k 3 (some (.int r)) F1 G11 51 [] []) ?_ ?_
  · intro G11 h
    refine mm_iconst (v := (0 : Int32)) C dX10_turnToNextRow_51 (by decide) 52 rfl ?_
    obtain ⟨x12, ex12, h⟩ := mb h
    exact mm_zretW C ex12 (h) dX10_turnToNextRow_52
  · intro K2 hR hE h
    exact hL4 K2 hR hE 300 _ _ h
def m_X7_standAtStart_89_L2 : Nat → Int32 → mmS → Option (mmS)
  | 0, _, _ => none
  | n3 + 1, v1, G2 => if (3 : Int32) ≤ v1 then (some ((G2))) else (Option.bind (ald G2 3 v1) fun x4 => Option.bind (ald G2 2 x4) fun x5 => Option.bind (ast G2 90 v1 x5) fun G6 => mlet (v1 + (1 : Int32)) fun x7 => m_X7_standAtStart_89_L2 n3 x7 G6)
def m_X7_standAtStart_89 (F : mmS)  : Option (mmS) :=
  bd1 (m_X7_standAtStart_89_L2 300 (0 : Int32) F) fun G8 => mlet (stF G8 89 2 (0 : Int32)) fun G9 => mlet (stF G9 89 3 (-1 : Int32)) fun G10 => some G10
set_option maxHeartbeats 4000000 in
set_option maxRecDepth 100000 in
theorem c_X7_standAtStart_89 {l : Launch} {k : mmK} {F : mmS}  {F1 : mmS} (h : m_X7_standAtStart_89 F = some F1) : mm_T l k yX7_standAtStart cX7_standAtStart 2 none 0 [.ref (mmad k 89)] F none F1 := by
  refine mm_start [(0, .ref (mmad k 89))] (by decide) (Nat.le_of_ble_eq_true rfl) rfl ?_
  intro z hz C
  subst hz
  have C : mm_C z k RX7 cX7_standAtStart 2 none 0 := C
  replace h := mk0 h
  unfold m_X7_standAtStart_89 at h
  refine mm_iconst (v := (0 : Int32)) C dX7_standAtStart_0 (by decide) 1 rfl ?_
  refine mm_istore_n (lv2 := [(1, .int (0 : Int32)), (0, .ref (mmad k 89))]) C dX7_standAtStart_1 rfl (by decide) rfl 2 rfl ?_
  refine mm_lv [1, 0] rfl ?_
  have hL2 : ∀ (K : (mmS) → Option (mmS)) (hK : ∀ (G2 : mmS) , K (G2) = some F1 → mm_AW z k 2 none F1 G2 36 [(0, .ref (mmad k 89))] []) (n3 : Nat) (v1 : Int32) (G2 : mmS) , (m_X7_standAtStart_89_L2 n3 v1 G2).bind K = some F1 → mm_AW z k 2 none F1 G2 2 [(0, .ref (mmad k 89)), (1, .int v1)] [] := by
    intro K hK n3
    induction n3 with
    | zero => intro v1 G2 h; rw [m_X7_standAtStart_89_L2] at h; cases h
    | succ n3 ih =>
      intro v1 G2 h
      rw [m_X7_standAtStart_89_L2] at h
      refine mm_iload_n C dX7_standAtStart_2 rfl 1 rfl 3 rfl ?_
      refine mm_iconst (v := (3 : Int32)) C dX7_standAtStart_3 (by decide) 4 rfl ?_
      refine mm_icmp_ge C dX7_standAtStart_4 36 7 (by decide) rfl (fun hc => ?_) (fun hc => ?_)
      · rw [if_pos hc] at h
        refine mm_lv [0] rfl ?_
        exact hK _ h
      · rw [if_neg hc] at h
        refine mm_aload_n C dX7_standAtStart_7 rfl 0 rfl 8 rfl ?_
        refine mm_get C fl_X7_9_X1 (by decide) (mc_89 k _) rfl dX7_standAtStart_8 11 rfl ?_
        refine mm_iload_n C dX7_standAtStart_11 rfl 1 rfl 12 rfl ?_
        refine mm_aload_n C dX7_standAtStart_12 rfl 0 rfl 13 rfl ?_
        refine mm_get C fl_X7_19_X1 (by decide) (mc_89 k _) rfl dX7_standAtStart_13 16 rfl ?_
        refine mm_get C fl_X7_26_X3 (by decide) (mc_1 k _) rfl dX7_standAtStart_16 19 rfl ?_
        refine mm_aload_n C dX7_standAtStart_19 rfl 0 rfl 20 rfl ?_
        refine mm_get C fl_X7_19_X1 (by decide) (mc_89 k _) rfl dX7_standAtStart_20 23 rfl ?_
        refine mm_get C fl_X7_31_X3 (by decide) (mc_1 k _) rfl dX7_standAtStart_23 26 rfl ?_
        refine mm_iload_n C dX7_standAtStart_26 rfl 1 rfl 27 rfl ?_
        obtain ⟨x4, ex4, h⟩ := mb h
        refine mm_iald C ex4 dX7_standAtStart_27 28 rfl ?_
        obtain ⟨x5, ex5, h⟩ := mb h
        refine mm_iald C ex5 dX7_standAtStart_28 29 rfl ?_
        obtain ⟨G6, eG6, h⟩ := mb h
        refine mm_iast C eG6 dX7_standAtStart_29 30 rfl ?_
        obtain ⟨x7, ex7, h⟩ := me h
        refine mm_iinc (v := x7) (lv2 := [(1, .int x7), (0, .ref (mmad k 89))]) C dX7_standAtStart_30 1 rfl (by rw [← ex7]; rfl) (by decide) rfl 33 rfl ?_
        refine mm_goto C dX7_standAtStart_33 2 (by decide) ?_
        refine mm_lv [1, 0] rfl ?_
        exact ih _ _ h
  refine mj1 h (fun (G8 : mmS) => mm_AW z k 2 none F1 G8 36 [(0, .ref (mmad k 89))] []) ?_ ?_
  · intro G8 h
    refine mm_aload_n C dX7_standAtStart_36 rfl 0 rfl 37 rfl ?_
    refine mm_iconst (v := (0 : Int32)) C dX7_standAtStart_37 (by decide) 38 rfl ?_
    obtain ⟨G9, eG9, h⟩ := me h
    refine mm_put (x := (0 : Int32)) (ty := .int) C fl_X7_34_X1 (by decide) (mc_89 k _) (mc_89 k _) tyX1 tyX1_ok nmX1 rfl (by decide +kernel) rfl rfl (Nat.le_of_ble_eq_true rfl) eG9 dX7_standAtStart_38 41 rfl ?_
    refine mm_aload_n C dX7_standAtStart_41 rfl 0 rfl 42 rfl ?_
    refine mm_iconst (v := (-1 : Int32)) C dX7_standAtStart_42 (by decide) 43 rfl ?_
    obtain ⟨G10, eG10, h⟩ := me h
    refine mm_put (x := (-1 : Int32)) (ty := .int) C fl_X7_15_X1 (by decide) (mc_89 k _) (mc_89 k _) tyX1 tyX1_ok nmX1 rfl (by decide +kernel) rfl rfl (Nat.le_of_ble_eq_true rfl) eG10 dX7_standAtStart_43 46 rfl ?_
    exact mm_vretW C (h) dX7_standAtStart_46
  · intro K2 hR h
    exact hL2 K2 hR 300 _ _ h
def m_X1_isServed_89_L2 (a1 : Int32) (F : mmS) : Nat → Int32 → Option ((Int32) ⊕ (Unit))
  | 0, _ => none
  | n2 + 1, v1 => if (F 1 1) ≤ v1 then (some (.inr ())) else (Option.bind (ald F 90 v1) fun x3 => if x3 = a1 then (Option.bind (zg (1 : Int32)) fun x5 => some (.inl x5)) else (mlet (v1 + (1 : Int32)) fun x4 => m_X1_isServed_89_L2 a1 F n2 x4))
def m_X1_isServed_89 (F : mmS) (a1 : Int32) : Option (Int32) :=
  bdE0 (m_X1_isServed_89_L2 a1 F 300 (0 : Int32)) fun _ => Option.bind (zg (0 : Int32)) fun x6 => some (x6)
set_option maxHeartbeats 4000000 in
set_option maxRecDepth 100000 in
theorem c_X1_isServed_89 {l : Launch} {k : mmK} {F : mmS} {a1 : Int32} {r : Int32} (h : m_X1_isServed_89 F a1 = some r) : mm_T l k yX1_isServed cX1_isServed 3 (some .boolean) 0 [.ref (mmad k 89), .int a1] F (some (.int r)) F := by
  refine mm_start [(0, .ref (mmad k 89)), (1, .int a1)] (by decide) (Nat.le_of_ble_eq_true rfl) rfl ?_
  intro z hz C
  subst hz
  have C : mm_C z k RX1 cX1_isServed 3 (some .boolean) 0 := C
  replace h := mk0 h
  unfold m_X1_isServed_89 at h
  refine mm_iconst (v := (0 : Int32)) C dX1_isServed_0 (by decide) 1 rfl ?_
  refine mm_istore_n (lv2 := [(2, .int (0 : Int32)), (0, .ref (mmad k 89)), (1, .int a1)]) C dX1_isServed_1 rfl (by decide) rfl 2 rfl ?_
  refine mm_lv [1, 2, 0] rfl ?_
  have hL2 : ∀ (K : ((Int32) ⊕ (Unit)) → Option (Int32)) (hK : K (.inr ()) = some r → mm_AW z k 3 (some (.int r)) F F 31 [] []) (hE : ∀ q : Int32, K (.inl q) = some r → q = r) (n2 : Nat) (v1 : Int32) , (m_X1_isServed_89_L2 a1 F n2 v1).bind K = some r → mm_AW z k 3 (some (.int r)) F F 2 [(0, .ref (mmad k 89)), (1, .int a1), (2, .int v1)] [] := by
    intro K hK hE n2
    induction n2 with
    | zero => intro v1 h; rw [m_X1_isServed_89_L2] at h; cases h
    | succ n2 ih =>
      intro v1 h
      rw [m_X1_isServed_89_L2] at h
      refine mm_iload_n C dX1_isServed_2 rfl 2 rfl 3 rfl ?_
      refine mm_aload_n C dX1_isServed_3 rfl 0 rfl 4 rfl ?_
      refine mm_get C fl_X1_9_X1 (by decide) (mc_89 k _) rfl dX1_isServed_4 7 rfl ?_
      refine mm_get C fl_X1_49_X3 (by decide) (mc_1 k _) rfl dX1_isServed_7 10 rfl ?_
      refine mm_icmp_ge C dX1_isServed_10 31 13 (by decide) rfl (fun hc => ?_) (fun hc => ?_)
      · rw [if_pos hc] at h
        refine mm_lv [] rfl ?_
        exact hK h
      · rw [if_neg hc] at h
        refine mm_aload_n C dX1_isServed_13 rfl 0 rfl 14 rfl ?_
        refine mm_get C fl_X1_36_X1 (by decide) (mc_89 k _) rfl dX1_isServed_14 17 rfl ?_
        refine mm_iload_n C dX1_isServed_17 rfl 2 rfl 18 rfl ?_
        obtain ⟨x3, ex3, h⟩ := mb h
        refine mm_iald C ex3 dX1_isServed_18 19 rfl ?_
        refine mm_iload_n C dX1_isServed_19 rfl 1 rfl 20 rfl ?_
        refine mm_icmp_ne C dX1_isServed_20 25 23 (by decide) rfl (fun hc => ?_) (fun hc => ?_)
        · rw [if_neg hc] at h
          obtain ⟨x4, ex4, h⟩ := me h
          refine mm_iinc (v := x4) (lv2 := [(2, .int x4), (0, .ref (mmad k 89)), (1, .int a1)]) C dX1_isServed_25 2 rfl (by rw [← ex4]; rfl) (by decide) rfl 28 rfl ?_
          refine mm_goto C dX1_isServed_28 2 (by decide) ?_
          refine mm_lv [1, 2, 0] rfl ?_
          exact ih _ h
        · rw [if_pos hc] at h
          refine mm_iconst (v := (1 : Int32)) C dX1_isServed_23 (by decide) 24 rfl ?_
          obtain ⟨x5, ex5, h⟩ := mb h
          exact mm_zretP C ex5 (congrArg some (hE _ h)) dX1_isServed_24
  refine mjE0 h (mm_AW z k 3 (some (.int r)) F F 31 [] []) ?_ ?_
  · intro  h
    refine mm_iconst (v := (0 : Int32)) C dX1_isServed_31 (by decide) 32 rfl ?_
    obtain ⟨x6, ex6, h⟩ := mb h
    exact mm_zretP C ex6 (h) dX1_isServed_32
  · intro K2 hR hE h
    exact hL2 K2 hR hE 300 _ h
def m_X1_nearestBelow_89_L4 (a1 : Int32) (F : mmS) : Nat → Int32 → Int32 → Option (Int32)
  | 0, _, _ => none
  | n3 + 1, v1, v2 => if (F 1 1) ≤ v2 then (some ((v1))) else (Option.bind (ald F 90 v2) fun x4 => bd1 (if a1 ≤ x4 then (some (v1)) else (if v1 = (-1 : Int32) then (some (v2)) else (Option.bind (ald F 90 v2) fun x5 => Option.bind (ald F 90 v1) fun x6 => if x5 ≤ x6 then (some (v1)) else (some (v2))))) fun y7 => mlet (v2 + (1 : Int32)) fun x8 => m_X1_nearestBelow_89_L4 a1 F n3 y7 x8)
def m_X1_nearestBelow_89 (F : mmS) (a1 : Int32) : Option (Int32) :=
  bd1 (m_X1_nearestBelow_89_L4 a1 F 300 (-1 : Int32) (0 : Int32)) fun y9 => some y9
set_option maxHeartbeats 4000000 in
set_option maxRecDepth 100000 in
theorem c_X1_nearestBelow_89 {l : Launch} {k : mmK} {F : mmS} {a1 : Int32} {r : Int32} (h : m_X1_nearestBelow_89 F a1 = some r) : mm_T l k yX1_nearestBelow cX1_nearestBelow 4 (some .int) 0 [.ref (mmad k 89), .int a1] F (some (.int r)) F := by
  refine mm_start [(0, .ref (mmad k 89)), (1, .int a1)] (by decide) (Nat.le_of_ble_eq_true rfl) rfl ?_
  intro z hz C
  subst hz
  have C : mm_C z k RX1 cX1_nearestBelow 4 (some .int) 0 := C
  replace h := mk0 h
  unfold m_X1_nearestBelow_89 at h
  refine mm_iconst (v := (-1 : Int32)) C dX1_nearestBelow_0 (by decide) 1 rfl ?_
  refine mm_istore_n (lv2 := [(2, .int (-1 : Int32)), (0, .ref (mmad k 89)), (1, .int a1)]) C dX1_nearestBelow_1 rfl (by decide) rfl 2 rfl ?_
  refine mm_iconst (v := (0 : Int32)) C dX1_nearestBelow_2 (by decide) 3 rfl ?_
  refine mm_istore_n (lv2 := [(3, .int (0 : Int32)), (2, .int (-1 : Int32)), (0, .ref (mmad k 89)), (1, .int a1)]) C dX1_nearestBelow_3 rfl (by decide) rfl 4 rfl ?_
  refine mm_lv [2, 3, 1, 0] rfl ?_
  have hL4 : ∀ (K : (Int32) → Option (Int32)) (hK : ∀ (v1 : Int32) , K (v1) = some r → mm_AW z k 4 (some (.int r)) F F 53 [(2, .int v1)] []) (n3 : Nat) (v1 : Int32) (v2 : Int32) , (m_X1_nearestBelow_89_L4 a1 F n3 v1 v2).bind K = some r → mm_AW z k 4 (some (.int r)) F F 4 [(0, .ref (mmad k 89)), (1, .int a1), (2, .int v1), (3, .int v2)] [] := by
    intro K hK n3
    induction n3 with
    | zero => intro v1 v2 h; rw [m_X1_nearestBelow_89_L4] at h; cases h
    | succ n3 ih =>
      intro v1 v2 h
      rw [m_X1_nearestBelow_89_L4] at h
      refine mm_iload_n C dX1_nearestBelow_4 rfl 3 rfl 5 rfl ?_
      refine mm_aload_n C dX1_nearestBelow_5 rfl 0 rfl 6 rfl ?_
      refine mm_get C fl_X1_9_X1 (by decide) (mc_89 k _) rfl dX1_nearestBelow_6 9 rfl ?_
      refine mm_get C fl_X1_49_X3 (by decide) (mc_1 k _) rfl dX1_nearestBelow_9 12 rfl ?_
      refine mm_icmp_ge C dX1_nearestBelow_12 53 15 (by decide) rfl (fun hc => ?_) (fun hc => ?_)
      · rw [if_pos hc] at h
        refine mm_lv [2] rfl ?_
        exact hK _ h
      · rw [if_neg hc] at h
        refine mm_aload_n C dX1_nearestBelow_15 rfl 0 rfl 16 rfl ?_
        refine mm_get C fl_X1_36_X1 (by decide) (mc_89 k _) rfl dX1_nearestBelow_16 19 rfl ?_
        refine mm_iload_n C dX1_nearestBelow_19 rfl 3 rfl 20 rfl ?_
        obtain ⟨x4, ex4, h⟩ := mb h
        refine mm_iald C ex4 dX1_nearestBelow_20 21 rfl ?_
        refine mm_iload_n C dX1_nearestBelow_21 rfl 1 rfl 22 rfl ?_
        refine mj1 h (fun (y7 : Int32) => mm_AW z k 4 (some (.int r)) F F 47 [(0, .ref (mmad k 89)), (1, .int a1), (2, .int y7), (3, .int v2)] []) ?_ ?_
        · intro y7 h
          obtain ⟨x8, ex8, h⟩ := me h
          refine mm_iinc (v := x8) (lv2 := [(3, .int x8), (0, .ref (mmad k 89)), (1, .int a1), (2, .int y7)]) C dX1_nearestBelow_47 3 rfl (by rw [← ex8]; rfl) (by decide) rfl 50 rfl ?_
          refine mm_goto C dX1_nearestBelow_50 4 (by decide) ?_
          refine mm_lv [1, 2, 3, 0] rfl ?_
          exact ih _ _ h
        · intro K2 hR47 h
          refine mm_icmp_ge C dX1_nearestBelow_22 47 25 (by decide) rfl (fun hc => ?_) (fun hc => ?_)
          · rw [if_pos hc] at h
            exact hR47 _ h
          · rw [if_neg hc] at h
            refine mm_iload_n C dX1_nearestBelow_25 rfl 2 rfl 26 rfl ?_
            refine mm_iconst (v := (-1 : Int32)) C dX1_nearestBelow_26 (by decide) 27 rfl ?_
            refine mm_icmp_eq C dX1_nearestBelow_27 45 30 (by decide) rfl (fun hc => ?_) (fun hc => ?_)
            · rw [if_pos hc] at h
              refine mm_iload_n C dX1_nearestBelow_45 rfl 3 rfl 46 rfl ?_
              refine mm_istore_n (lv2 := [(2, .int v2), (0, .ref (mmad k 89)), (1, .int a1), (3, .int v2)]) C dX1_nearestBelow_46 rfl (by decide) rfl 47 rfl ?_
              refine mm_lv [1, 2, 0, 3] rfl ?_
              exact hR47 _ h
            · rw [if_neg hc] at h
              refine mm_aload_n C dX1_nearestBelow_30 rfl 0 rfl 31 rfl ?_
              refine mm_get C fl_X1_36_X1 (by decide) (mc_89 k _) rfl dX1_nearestBelow_31 34 rfl ?_
              refine mm_iload_n C dX1_nearestBelow_34 rfl 3 rfl 35 rfl ?_
              obtain ⟨x5, ex5, h⟩ := mb h
              refine mm_iald C ex5 dX1_nearestBelow_35 36 rfl ?_
              refine mm_aload_n C dX1_nearestBelow_36 rfl 0 rfl 37 rfl ?_
              refine mm_get C fl_X1_36_X1 (by decide) (mc_89 k _) rfl dX1_nearestBelow_37 40 rfl ?_
              refine mm_iload_n C dX1_nearestBelow_40 rfl 2 rfl 41 rfl ?_
              obtain ⟨x6, ex6, h⟩ := mb h
              refine mm_iald C ex6 dX1_nearestBelow_41 42 rfl ?_
              refine mm_icmp_le C dX1_nearestBelow_42 47 45 (by decide) rfl (fun hc => ?_) (fun hc => ?_)
              · rw [if_pos hc] at h
                exact hR47 _ h
              · rw [if_neg hc] at h
                refine mm_iload_n C dX1_nearestBelow_45 rfl 3 rfl 46 rfl ?_
                refine mm_istore_n (lv2 := [(2, .int v2), (0, .ref (mmad k 89)), (1, .int a1), (3, .int v2)]) C dX1_nearestBelow_46 rfl (by decide) rfl 47 rfl ?_
                refine mm_lv [1, 2, 0, 3] rfl ?_
                exact hR47 _ h
  refine mj1 h (fun (y9 : Int32) => mm_AW z k 4 (some (.int r)) F F 53 [(2, .int y9)] []) ?_ ?_
  · intro y9 h
    refine mm_iload_n C dX1_nearestBelow_53 rfl 0 rfl 54 rfl ?_
    exact mm_iretP C (h) dX1_nearestBelow_54
  · intro K2 hR h
    exact hL4 K2 hR 300 _ _ h
def m_X1_nearestAbove_89_L4 (a1 : Int32) (F : mmS) : Nat → Int32 → Int32 → Option (Int32)
  | 0, _, _ => none
  | n3 + 1, v1, v2 => if (F 1 1) ≤ v2 then (some ((v1))) else (Option.bind (ald F 90 v2) fun x4 => bd1 (if x4 ≤ a1 then (some (v1)) else (if v1 = (-1 : Int32) then (some (v2)) else (Option.bind (ald F 90 v2) fun x5 => Option.bind (ald F 90 v1) fun x6 => if x6 ≤ x5 then (some (v1)) else (some (v2))))) fun y7 => mlet (v2 + (1 : Int32)) fun x8 => m_X1_nearestAbove_89_L4 a1 F n3 y7 x8)
def m_X1_nearestAbove_89 (F : mmS) (a1 : Int32) : Option (Int32) :=
  bd1 (m_X1_nearestAbove_89_L4 a1 F 300 (-1 : Int32) (0 : Int32)) fun y9 => some y9
set_option maxHeartbeats 4000000 in
set_option maxRecDepth 100000 in
theorem c_X1_nearestAbove_89 {l : Launch} {k : mmK} {F : mmS} {a1 : Int32} {r : Int32} (h : m_X1_nearestAbove_89 F a1 = some r) : mm_T l k yX1_nearestAbove cX1_nearestAbove 4 (some .int) 0 [.ref (mmad k 89), .int a1] F (some (.int r)) F := by
  refine mm_start [(0, .ref (mmad k 89)), (1, .int a1)] (by decide) (Nat.le_of_ble_eq_true rfl) rfl ?_
  intro z hz C
  subst hz
  have C : mm_C z k RX1 cX1_nearestAbove 4 (some .int) 0 := C
  replace h := mk0 h
  unfold m_X1_nearestAbove_89 at h
  refine mm_iconst (v := (-1 : Int32)) C dX1_nearestAbove_0 (by decide) 1 rfl ?_
  refine mm_istore_n (lv2 := [(2, .int (-1 : Int32)), (0, .ref (mmad k 89)), (1, .int a1)]) C dX1_nearestAbove_1 rfl (by decide) rfl 2 rfl ?_
  refine mm_iconst (v := (0 : Int32)) C dX1_nearestAbove_2 (by decide) 3 rfl ?_
  refine mm_istore_n (lv2 := [(3, .int (0 : Int32)), (2, .int (-1 : Int32)), (0, .ref (mmad k 89)), (1, .int a1)]) C dX1_nearestAbove_3 rfl (by decide) rfl 4 rfl ?_
  refine mm_lv [2, 3, 1, 0] rfl ?_
  have hL4 : ∀ (K : (Int32) → Option (Int32)) (hK : ∀ (v1 : Int32) , K (v1) = some r → mm_AW z k 4 (some (.int r)) F F 53 [(2, .int v1)] []) (n3 : Nat) (v1 : Int32) (v2 : Int32) , (m_X1_nearestAbove_89_L4 a1 F n3 v1 v2).bind K = some r → mm_AW z k 4 (some (.int r)) F F 4 [(0, .ref (mmad k 89)), (1, .int a1), (2, .int v1), (3, .int v2)] [] := by
    intro K hK n3
    induction n3 with
    | zero => intro v1 v2 h; rw [m_X1_nearestAbove_89_L4] at h; cases h
    | succ n3 ih =>
      intro v1 v2 h
      rw [m_X1_nearestAbove_89_L4] at h
      refine mm_iload_n C dX1_nearestAbove_4 rfl 3 rfl 5 rfl ?_
      refine mm_aload_n C dX1_nearestAbove_5 rfl 0 rfl 6 rfl ?_
      refine mm_get C fl_X1_9_X1 (by decide) (mc_89 k _) rfl dX1_nearestAbove_6 9 rfl ?_
      refine mm_get C fl_X1_49_X3 (by decide) (mc_1 k _) rfl dX1_nearestAbove_9 12 rfl ?_
      refine mm_icmp_ge C dX1_nearestAbove_12 53 15 (by decide) rfl (fun hc => ?_) (fun hc => ?_)
      · rw [if_pos hc] at h
        refine mm_lv [2] rfl ?_
        exact hK _ h
      · rw [if_neg hc] at h
        refine mm_aload_n C dX1_nearestAbove_15 rfl 0 rfl 16 rfl ?_
        refine mm_get C fl_X1_36_X1 (by decide) (mc_89 k _) rfl dX1_nearestAbove_16 19 rfl ?_
        refine mm_iload_n C dX1_nearestAbove_19 rfl 3 rfl 20 rfl ?_
        obtain ⟨x4, ex4, h⟩ := mb h
        refine mm_iald C ex4 dX1_nearestAbove_20 21 rfl ?_
        refine mm_iload_n C dX1_nearestAbove_21 rfl 1 rfl 22 rfl ?_
        refine mj1 h (fun (y7 : Int32) => mm_AW z k 4 (some (.int r)) F F 47 [(0, .ref (mmad k 89)), (1, .int a1), (2, .int y7), (3, .int v2)] []) ?_ ?_
        · intro y7 h
          obtain ⟨x8, ex8, h⟩ := me h
          refine mm_iinc (v := x8) (lv2 := [(3, .int x8), (0, .ref (mmad k 89)), (1, .int a1), (2, .int y7)]) C dX1_nearestAbove_47 3 rfl (by rw [← ex8]; rfl) (by decide) rfl 50 rfl ?_
          refine mm_goto C dX1_nearestAbove_50 4 (by decide) ?_
          refine mm_lv [1, 2, 3, 0] rfl ?_
          exact ih _ _ h
        · intro K2 hR47 h
          refine mm_icmp_le C dX1_nearestAbove_22 47 25 (by decide) rfl (fun hc => ?_) (fun hc => ?_)
          · rw [if_pos hc] at h
            exact hR47 _ h
          · rw [if_neg hc] at h
            refine mm_iload_n C dX1_nearestAbove_25 rfl 2 rfl 26 rfl ?_
            refine mm_iconst (v := (-1 : Int32)) C dX1_nearestAbove_26 (by decide) 27 rfl ?_
            refine mm_icmp_eq C dX1_nearestAbove_27 45 30 (by decide) rfl (fun hc => ?_) (fun hc => ?_)
            · rw [if_pos hc] at h
              refine mm_iload_n C dX1_nearestAbove_45 rfl 3 rfl 46 rfl ?_
              refine mm_istore_n (lv2 := [(2, .int v2), (0, .ref (mmad k 89)), (1, .int a1), (3, .int v2)]) C dX1_nearestAbove_46 rfl (by decide) rfl 47 rfl ?_
              refine mm_lv [1, 2, 0, 3] rfl ?_
              exact hR47 _ h
            · rw [if_neg hc] at h
              refine mm_aload_n C dX1_nearestAbove_30 rfl 0 rfl 31 rfl ?_
              refine mm_get C fl_X1_36_X1 (by decide) (mc_89 k _) rfl dX1_nearestAbove_31 34 rfl ?_
              refine mm_iload_n C dX1_nearestAbove_34 rfl 3 rfl 35 rfl ?_
              obtain ⟨x5, ex5, h⟩ := mb h
              refine mm_iald C ex5 dX1_nearestAbove_35 36 rfl ?_
              refine mm_aload_n C dX1_nearestAbove_36 rfl 0 rfl 37 rfl ?_
              refine mm_get C fl_X1_36_X1 (by decide) (mc_89 k _) rfl dX1_nearestAbove_37 40 rfl ?_
              refine mm_iload_n C dX1_nearestAbove_40 rfl 2 rfl 41 rfl ?_
              obtain ⟨x6, ex6, h⟩ := mb h
              refine mm_iald C ex6 dX1_nearestAbove_41 42 rfl ?_
              refine mm_icmp_ge C dX1_nearestAbove_42 47 45 (by decide) rfl (fun hc => ?_) (fun hc => ?_)
              · rw [if_pos hc] at h
                exact hR47 _ h
              · rw [if_neg hc] at h
                refine mm_iload_n C dX1_nearestAbove_45 rfl 3 rfl 46 rfl ?_
                refine mm_istore_n (lv2 := [(2, .int v2), (0, .ref (mmad k 89)), (1, .int a1), (3, .int v2)]) C dX1_nearestAbove_46 rfl (by decide) rfl 47 rfl ?_
                refine mm_lv [1, 2, 0, 3] rfl ?_
                exact hR47 _ h
  refine mj1 h (fun (y9 : Int32) => mm_AW z k 4 (some (.int r)) F F 53 [(2, .int y9)] []) ?_ ?_
  · intro y9 h
    refine mm_iload_n C dX1_nearestAbove_53 rfl 0 rfl 54 rfl ?_
    exact mm_iretP C (h) dX1_nearestAbove_54
  · intro K2 hR h
    exact hL4 K2 hR 300 _ _ h
def m_X7_send_89 (F : mmS) (a1 : Int32) (a2 : Int32) : Option (mmS) :=
  Option.bind (ald F 90 a1) fun x1 => mlet (stF F 89 2 ((F 89 2) + (mabs (x1 - a2)))) fun G2 => Option.bind (ast G2 90 a1 a2) fun G3 => mlet (stF G3 89 3 a1) fun G4 => some G4
set_option maxHeartbeats 4000000 in
set_option maxRecDepth 100000 in
theorem c_X7_send_89 {l : Launch} {k : mmK} {F : mmS} {a1 : Int32} {a2 : Int32} {F1 : mmS} (h : m_X7_send_89 F a1 a2 = some F1) : mm_T l k yX7_send cX7_send 3 none 1 [.ref (mmad k 89), .int a1, .int a2] F none F1 := by
  refine mm_start [(0, .ref (mmad k 89)), (1, .int a1), (2, .int a2)] (by decide) (Nat.le_of_ble_eq_true rfl) rfl ?_
  intro z hz C
  subst hz
  have C : mm_C z k RX7 cX7_send 3 none 1 := C
  replace h := mk0 h
  unfold m_X7_send_89 at h
  refine mm_aload_n C dX7_send_0 rfl 0 rfl 1 rfl ?_
  refine mm_dup C dX7_send_1 rfl 2 rfl ?_
  refine mm_get C fl_X7_34_X1 (by decide) (mc_89 k _) rfl dX7_send_2 5 rfl ?_
  refine mm_aload_n C dX7_send_5 rfl 0 rfl 6 rfl ?_
  refine mm_get C fl_X7_9_X1 (by decide) (mc_89 k _) rfl dX7_send_6 9 rfl ?_
  refine mm_iload_n C dX7_send_9 rfl 1 rfl 10 rfl ?_
  obtain ⟨x1, ex1, h⟩ := mb h
  refine mm_iald C ex1 dX7_send_10 11 rfl ?_
  refine mm_iload_n C dX7_send_11 rfl 2 rfl 12 rfl ?_
  refine mm_isub C dX7_send_12 13 rfl ?_
  refine mm_abs C mw_599 mw_552 mw_62 mw_553 (by omega) (Nat.le_trans (Nat.le_of_ble_eq_true rfl : _ ≤ 40) (by omega)) dX7_send_13 16 rfl ?_
  refine mm_iadd C dX7_send_16 17 rfl ?_
  obtain ⟨G2, eG2, h⟩ := me h
  refine mm_put (x := ((F 89 2) + (mabs (x1 - a2)))) (ty := .int) C fl_X7_34_X1 (by decide) (mc_89 k _) (mc_89 k _) tyX1 tyX1_ok nmX1 rfl (by decide +kernel) rfl rfl (Nat.le_of_ble_eq_true rfl) eG2 dX7_send_17 20 rfl ?_
  refine mm_aload_n C dX7_send_20 rfl 0 rfl 21 rfl ?_
  refine mm_get C fl_X7_9_X1 (by decide) (mc_89 k _) rfl dX7_send_21 24 rfl ?_
  refine mm_iload_n C dX7_send_24 rfl 1 rfl 25 rfl ?_
  refine mm_iload_n C dX7_send_25 rfl 2 rfl 26 rfl ?_
  obtain ⟨G3, eG3, h⟩ := mb h
  refine mm_iast C eG3 dX7_send_26 27 rfl ?_
  refine mm_aload_n C dX7_send_27 rfl 0 rfl 28 rfl ?_
  refine mm_iload_n C dX7_send_28 rfl 1 rfl 29 rfl ?_
  obtain ⟨G4, eG4, h⟩ := me h
  refine mm_put (x := a1) (ty := .int) C fl_X7_15_X1 (by decide) (mc_89 k _) (mc_89 k _) tyX1 tyX1_ok nmX1 rfl (by decide +kernel) rfl rfl (Nat.le_of_ble_eq_true rfl) eG4 dX7_send_29 32 rfl ?_
  exact mm_vretW C (h) dX7_send_32
def m_X1_meet_89 (F : mmS) (a1 : Int32) (a2 : Int32) : Option (mmS) :=
  Option.bind (ald F 2 a1) fun x1 => Option.bind (m_X1_isServed_89 F x1) fun x2 => if x2 = (0 : Int32) then (Option.bind (m_X1_nearestBelow_89 F x1) fun x3 => Option.bind (m_X1_nearestAbove_89 F x1) fun x4 => if x3 = (-1 : Int32) then (if x3 = (-1 : Int32) then (if x4 = (-1 : Int32) then (some F) else (Option.bind (m_X7_send_89 F x4 x1) fun G5 => some G5)) else (Option.bind (m_X7_send_89 F x3 x1) fun G6 => some G6)) else (if x4 = (-1 : Int32) then (if x3 = (-1 : Int32) then (if x4 = (-1 : Int32) then (some F) else (Option.bind (m_X7_send_89 F x4 x1) fun G7 => some G7)) else (Option.bind (m_X7_send_89 F x3 x1) fun G8 => some G8)) else (Option.bind (ald F 90 x3) fun x9 => Option.bind (ald F 90 x4) fun x10 => mlet (mmin (x1 - x9) (x10 - x1)) fun x11 => Option.bind (ald F 90 x3) fun x12 => Option.bind (m_X7_send_89 F x3 (x12 + x11)) fun G13 => Option.bind (ald G13 90 x4) fun x14 => Option.bind (m_X7_send_89 G13 x4 (x14 - x11)) fun G15 => some G15))) else (mlet (stF F 89 3 (-1 : Int32)) fun G16 => some G16)
set_option maxHeartbeats 4000000 in
set_option maxRecDepth 100000 in
theorem c_X1_meet_89 {l : Launch} {k : mmK} {F : mmS} {a1 : Int32} {a2 : Int32} {F1 : mmS} (h : m_X1_meet_89 F a1 a2 = some F1) : mm_T l k yX1_meet cX1_meet 7 none 2 [.ref (mmad k 89), .int a1, .int a2] F none F1 := by
  refine mm_start [(0, .ref (mmad k 89)), (1, .int a1), (2, .int a2)] (by decide) (Nat.le_of_ble_eq_true rfl) rfl ?_
  intro z hz C
  subst hz
  have C : mm_C z k RX1 cX1_meet 7 none 2 := C
  replace h := mk0 h
  unfold m_X1_meet_89 at h
  refine mm_aload_n C dX1_meet_0 rfl 0 rfl 1 rfl ?_
  refine mm_get C fl_X1_9_X1 (by decide) (mc_89 k _) rfl dX1_meet_1 4 rfl ?_
  refine mm_get C fl_X1_15_X3 (by decide) (mc_1 k _) rfl dX1_meet_4 7 rfl ?_
  refine mm_iload_n C dX1_meet_7 rfl 1 rfl 8 rfl ?_
  obtain ⟨x1, ex1, h⟩ := mb h
  refine mm_iald C ex1 dX1_meet_8 9 rfl ?_
  refine mm_istore_n (lv2 := [(3, .int x1), (0, .ref (mmad k 89)), (1, .int a1), (2, .int a2)]) C dX1_meet_9 rfl (by decide) rfl 10 rfl ?_
  refine mm_aload_n C dX1_meet_10 rfl 1 rfl 11 rfl ?_
  refine mm_iload_n C dX1_meet_11 rfl 0 rfl 12 rfl ?_
  obtain ⟨x2, ex2, h⟩ := mb h
  refine mm_callV [.int x1] C (c_X1_isServed_89 ex2) wb_X1_isServed wv_X1_21 (by decide) (mc_89 k _) rfl rfl rfl (by omega) rfl (Nat.le_of_ble_eq_true rfl) dX1_meet_12 15 rfl ?_
  show mm_AW z k 7 none F1 F 15 [(3, .int x1), (0, .ref (mmad k 89)), (1, .int a1), (2, .int a2)] [.int x2]
  refine mm_if_eq C dX1_meet_15 24 18 (by decide) rfl (fun hc => ?_) (fun hc => ?_)
  · rw [if_pos hc] at h
    refine mm_aload_n C dX1_meet_24 rfl 1 rfl 25 rfl ?_
    refine mm_iload_n C dX1_meet_25 rfl 0 rfl 26 rfl ?_
    obtain ⟨x3, ex3, h⟩ := mb h
    refine mm_callV [.int x1] C (c_X1_nearestBelow_89 ex3) wb_X1_nearestBelow wv_X1_29 (by decide) (mc_89 k _) rfl rfl rfl (by omega) rfl (Nat.le_of_ble_eq_true rfl) dX1_meet_26 29 rfl ?_
    show mm_AW z k 7 none F1 F 29 [(3, .int x1), (0, .ref (mmad k 89)), (1, .int a1), (2, .int a2)] [.int x3]
    refine mm_istore (lv2 := [(4, .int x3), (3, .int x1), (0, .ref (mmad k 89)), (1, .int a1), (2, .int a2)]) C dX1_meet_29 (by decide) rfl 31 rfl ?_
    refine mm_aload_n C dX1_meet_31 rfl 2 rfl 32 rfl ?_
    refine mm_iload_n C dX1_meet_32 rfl 1 rfl 33 rfl ?_
    obtain ⟨x4, ex4, h⟩ := mb h
    refine mm_callV [.int x1] C (c_X1_nearestAbove_89 ex4) wb_X1_nearestAbove wv_X1_33 (by decide) (mc_89 k _) rfl rfl rfl (by omega) rfl (Nat.le_of_ble_eq_true rfl) dX1_meet_33 36 rfl ?_
    show mm_AW z k 7 none F1 F 36 [(4, .int x3), (3, .int x1), (0, .ref (mmad k 89)), (1, .int a1), (2, .int a2)] [.int x4]
    refine mm_istore (lv2 := [(5, .int x4), (4, .int x3), (3, .int x1), (0, .ref (mmad k 89)), (1, .int a1), (2, .int a2)]) C dX1_meet_36 (by decide) rfl 38 rfl ?_
    refine mm_iload C dX1_meet_38 1 rfl 40 rfl ?_
    refine mm_iconst (v := (-1 : Int32)) C dX1_meet_40 (by decide) 41 rfl ?_
    refine mm_icmp_eq C dX1_meet_41 108 44 (by decide) rfl (fun hc => ?_) (fun hc => ?_)
    · rw [if_pos hc] at h
      refine mm_iload C dX1_meet_108 1 rfl 110 rfl ?_
      refine mm_iconst (v := (-1 : Int32)) C dX1_meet_110 (by decide) 111 rfl ?_
      refine mm_icmp_eq C dX1_meet_111 124 114 (by decide) rfl (fun hc => ?_) (fun hc => ?_)
      · rw [if_pos hc] at h
        refine mm_iload C dX1_meet_124 0 rfl 126 rfl ?_
        refine mm_iconst (v := (-1 : Int32)) C dX1_meet_126 (by decide) 127 rfl ?_
        refine mm_icmp_eq C dX1_meet_127 137 130 (by decide) rfl (fun hc => ?_) (fun hc => ?_)
        · rw [if_pos hc] at h
          exact mm_vretW C (h) dX1_meet_137
        · rw [if_neg hc] at h
          refine mm_aload_n C dX1_meet_130 rfl 3 rfl 131 rfl ?_
          refine mm_iload C dX1_meet_131 0 rfl 133 rfl ?_
          refine mm_iload_n C dX1_meet_133 rfl 2 rfl 134 rfl ?_
          obtain ⟨G5, eG5, h⟩ := mb h
          refine mm_callU [.int x4, .int x1] C (c_X7_send_89 eG5) wb_X7_send wu_X1_45_X1 (fun s hN => hN.2.2.2.1) (by decide) (mc_89 k _) rfl rfl (by omega) rfl (Nat.le_of_ble_eq_true rfl) dX1_meet_134 137 rfl ?_
          show mm_AW z k 7 none F1 G5 137 [(5, .int x4), (4, .int x3), (3, .int x1), (0, .ref (mmad k 89)), (1, .int a1), (2, .int a2)] []
          exact mm_vretW C (h) dX1_meet_137
      · rw [if_neg hc] at h
        refine mm_aload_n C dX1_meet_114 rfl 3 rfl 115 rfl ?_
        refine mm_iload C dX1_meet_115 1 rfl 117 rfl ?_
        refine mm_iload_n C dX1_meet_117 rfl 2 rfl 118 rfl ?_
        obtain ⟨G6, eG6, h⟩ := mb h
        refine mm_callU [.int x3, .int x1] C (c_X7_send_89 eG6) wb_X7_send wu_X1_45_X1 (fun s hN => hN.2.2.2.1) (by decide) (mc_89 k _) rfl rfl (by omega) rfl (Nat.le_of_ble_eq_true rfl) dX1_meet_118 121 rfl ?_
        show mm_AW z k 7 none F1 G6 121 [(5, .int x4), (4, .int x3), (3, .int x1), (0, .ref (mmad k 89)), (1, .int a1), (2, .int a2)] []
        refine mm_goto C dX1_meet_121 137 (by decide) ?_
        exact mm_vretW C (h) dX1_meet_137
    · rw [if_neg hc] at h
      refine mm_iload C dX1_meet_44 0 rfl 46 rfl ?_
      refine mm_iconst (v := (-1 : Int32)) C dX1_meet_46 (by decide) 47 rfl ?_
      refine mm_icmp_eq C dX1_meet_47 108 50 (by decide) rfl (fun hc => ?_) (fun hc => ?_)
      · rw [if_pos hc] at h
        refine mm_iload C dX1_meet_108 1 rfl 110 rfl ?_
        refine mm_iconst (v := (-1 : Int32)) C dX1_meet_110 (by decide) 111 rfl ?_
        refine mm_icmp_eq C dX1_meet_111 124 114 (by decide) rfl (fun hc => ?_) (fun hc => ?_)
        · rw [if_pos hc] at h
          refine mm_iload C dX1_meet_124 0 rfl 126 rfl ?_
          refine mm_iconst (v := (-1 : Int32)) C dX1_meet_126 (by decide) 127 rfl ?_
          refine mm_icmp_eq C dX1_meet_127 137 130 (by decide) rfl (fun hc => ?_) (fun hc => ?_)
          · rw [if_pos hc] at h
            exact mm_vretW C (h) dX1_meet_137
          · rw [if_neg hc] at h
            refine mm_aload_n C dX1_meet_130 rfl 3 rfl 131 rfl ?_
            refine mm_iload C dX1_meet_131 0 rfl 133 rfl ?_
            refine mm_iload_n C dX1_meet_133 rfl 2 rfl 134 rfl ?_
            obtain ⟨G7, eG7, h⟩ := mb h
            refine mm_callU [.int x4, .int x1] C (c_X7_send_89 eG7) wb_X7_send wu_X1_45_X1 (fun s hN => hN.2.2.2.1) (by decide) (mc_89 k _) rfl rfl (by omega) rfl (Nat.le_of_ble_eq_true rfl) dX1_meet_134 137 rfl ?_
            show mm_AW z k 7 none F1 G7 137 [(5, .int x4), (4, .int x3), (3, .int x1), (0, .ref (mmad k 89)), (1, .int a1), (2, .int a2)] []
            exact mm_vretW C (h) dX1_meet_137
        · rw [if_neg hc] at h
          refine mm_aload_n C dX1_meet_114 rfl 3 rfl 115 rfl ?_
          refine mm_iload C dX1_meet_115 1 rfl 117 rfl ?_
          refine mm_iload_n C dX1_meet_117 rfl 2 rfl 118 rfl ?_
          obtain ⟨G8, eG8, h⟩ := mb h
          refine mm_callU [.int x3, .int x1] C (c_X7_send_89 eG8) wb_X7_send wu_X1_45_X1 (fun s hN => hN.2.2.2.1) (by decide) (mc_89 k _) rfl rfl (by omega) rfl (Nat.le_of_ble_eq_true rfl) dX1_meet_118 121 rfl ?_
          show mm_AW z k 7 none F1 G8 121 [(5, .int x4), (4, .int x3), (3, .int x1), (0, .ref (mmad k 89)), (1, .int a1), (2, .int a2)] []
          refine mm_goto C dX1_meet_121 137 (by decide) ?_
          exact mm_vretW C (h) dX1_meet_137
      · rw [if_neg hc] at h
        refine mm_iload_n C dX1_meet_50 rfl 2 rfl 51 rfl ?_
        refine mm_aload_n C dX1_meet_51 rfl 3 rfl 52 rfl ?_
        refine mm_get C fl_X1_36_X1 (by decide) (mc_89 k _) rfl dX1_meet_52 55 rfl ?_
        refine mm_iload C dX1_meet_55 1 rfl 57 rfl ?_
        obtain ⟨x9, ex9, h⟩ := mb h
        refine mm_iald C ex9 dX1_meet_57 58 rfl ?_
        refine mm_isub C dX1_meet_58 59 rfl ?_
        refine mm_aload_n C dX1_meet_59 rfl 3 rfl 60 rfl ?_
        refine mm_get C fl_X1_36_X1 (by decide) (mc_89 k _) rfl dX1_meet_60 63 rfl ?_
        refine mm_iload C dX1_meet_63 0 rfl 65 rfl ?_
        obtain ⟨x10, ex10, h⟩ := mb h
        refine mm_iald C ex10 dX1_meet_65 66 rfl ?_
        refine mm_iload_n C dX1_meet_66 rfl 2 rfl 67 rfl ?_
        refine mm_isub C dX1_meet_67 68 rfl ?_
        refine mm_min C mw_615 mw_517 mw_62 mw_518 (by omega) (Nat.le_trans (Nat.le_of_ble_eq_true rfl : _ ≤ 40) (by omega)) dX1_meet_68 71 rfl ?_
        obtain ⟨x11, ex11, h⟩ := me h
        refine mm_top ex11 ?_
        refine mm_istore (lv2 := [(6, .int x11), (5, .int x4), (4, .int x3), (3, .int x1), (0, .ref (mmad k 89)), (1, .int a1), (2, .int a2)]) C dX1_meet_71 (by decide) rfl 73 rfl ?_
        refine mm_aload_n C dX1_meet_73 rfl 4 rfl 74 rfl ?_
        refine mm_iload C dX1_meet_74 2 rfl 76 rfl ?_
        refine mm_aload_n C dX1_meet_76 rfl 4 rfl 77 rfl ?_
        refine mm_get C fl_X1_36_X1 (by decide) (mc_89 k _) rfl dX1_meet_77 80 rfl ?_
        refine mm_iload C dX1_meet_80 2 rfl 82 rfl ?_
        obtain ⟨x12, ex12, h⟩ := mb h
        refine mm_iald C ex12 dX1_meet_82 83 rfl ?_
        refine mm_iload C dX1_meet_83 0 rfl 85 rfl ?_
        refine mm_iadd C dX1_meet_85 86 rfl ?_
        obtain ⟨G13, eG13, h⟩ := mb h
        refine mm_callU [.int x3, .int (x12 + x11)] C (c_X7_send_89 eG13) wb_X7_send wu_X1_45_X1 (fun s hN => hN.2.2.2.1) (by decide) (mc_89 k _) rfl rfl (by omega) rfl (Nat.le_of_ble_eq_true rfl) dX1_meet_86 89 rfl ?_
        show mm_AW z k 7 none F1 G13 89 [(6, .int x11), (5, .int x4), (4, .int x3), (3, .int x1), (0, .ref (mmad k 89)), (1, .int a1), (2, .int a2)] []
        refine mm_aload_n C dX1_meet_89 rfl 4 rfl 90 rfl ?_
        refine mm_iload C dX1_meet_90 1 rfl 92 rfl ?_
        refine mm_aload_n C dX1_meet_92 rfl 4 rfl 93 rfl ?_
        refine mm_get C fl_X1_36_X1 (by decide) (mc_89 k _) rfl dX1_meet_93 96 rfl ?_
        refine mm_iload C dX1_meet_96 1 rfl 98 rfl ?_
        obtain ⟨x14, ex14, h⟩ := mb h
        refine mm_iald C ex14 dX1_meet_98 99 rfl ?_
        refine mm_iload C dX1_meet_99 0 rfl 101 rfl ?_
        refine mm_isub C dX1_meet_101 102 rfl ?_
        obtain ⟨G15, eG15, h⟩ := mb h
        refine mm_callU [.int x4, .int (x14 - x11)] C (c_X7_send_89 eG15) wb_X7_send wu_X1_45_X1 (fun s hN => hN.2.2.2.1) (by decide) (mc_89 k _) rfl rfl (by omega) rfl (Nat.le_of_ble_eq_true rfl) dX1_meet_102 105 rfl ?_
        show mm_AW z k 7 none F1 G15 105 [(6, .int x11), (5, .int x4), (4, .int x3), (3, .int x1), (0, .ref (mmad k 89)), (1, .int a1), (2, .int a2)] []
        refine mm_goto C dX1_meet_105 137 (by decide) ?_
        exact mm_vretW C (h) dX1_meet_137
  · rw [if_neg hc] at h
    refine mm_aload_n C dX1_meet_18 rfl 1 rfl 19 rfl ?_
    refine mm_iconst (v := (-1 : Int32)) C dX1_meet_19 (by decide) 20 rfl ?_
    obtain ⟨G16, eG16, h⟩ := me h
    refine mm_put (x := (-1 : Int32)) (ty := .int) C fl_X1_25_X1 (by decide) (mc_89 k _) (mc_89 k _) tyX1 tyX1_ok nmX1 rfl (by decide +kernel) rfl rfl (Nat.le_of_ble_eq_true rfl) eG16 dX1_meet_20 23 rfl ?_
    exact mm_vretW C (h) dX1_meet_23
def m_X10_weigh_83_89_L3 : Nat → Int32 → mmS → Option (mmS)
  | 0, _, _ => none
  | n3 + 1, v1, G2 => if (G2 1 1) ≤ v1 then (some ((G2))) else (Option.bind (ald G2 3 v1) fun x4 => Option.bind (ald G2 2 x4) fun x5 => Option.bind (ast G2 85 v1 x5) fun G6 => mlet (v1 + (1 : Int32)) fun x7 => m_X10_weigh_83_89_L3 n3 x7 G6)
def m_X10_weigh_83_89_L67 (a2 : Int32) : Nat → Int32 → mmS → Option (mmS)
  | 0, _, _ => none
  | n14 + 1, v12, G13 => if a2 ≤ v12 then (some ((G13))) else (Option.bind (ald G13 84 v12) fun x15 => Option.bind (m_X1_meet_89 G13 x15 (-1 : Int32)) fun G16 => mlet (v12 + (1 : Int32)) fun x17 => m_X10_weigh_83_89_L67 a2 n14 x17 G16)
def m_X10_weigh_83_89 (F : mmS) (a2 : Int32) (a3 : Int32) : Option (mmS) :=
  bd1 (m_X10_weigh_83_89_L3 300 (0 : Int32) F) fun G8 => bd2 (m_X10_leastFrom_83 5 G8 (0 : Int32) a2) fun x9 G10 => if (0 : Int32) < x9 then (Option.bind (m_X7_standAtStart_89 G10) fun G11 => bd1 (m_X10_weigh_83_89_L67 a2 300 (0 : Int32) G11) fun G18 => if (G18 83 4) = (-1 : Int32) then (mlet (stF G18 83 4 a3) fun G19 => mlet (stF G19 83 5 (G19 89 2)) fun G20 => mlet (stF G20 83 6 x9) fun G21 => some G21) else (if ((G18 89 2) * (G18 83 6)) ≤ ((G18 83 5) * x9) then (some G18) else (mlet (stF G18 83 4 a3) fun G22 => mlet (stF G22 83 5 (G22 89 2)) fun G23 => mlet (stF G23 83 6 x9) fun G24 => some G24))) else (some G10)
set_option maxHeartbeats 4000000 in
set_option maxRecDepth 100000 in
theorem c_X10_weigh_83_89 {l : Launch} {k : mmK} {F : mmS} {a2 : Int32} {a3 : Int32} {F1 : mmS} (h : m_X10_weigh_83_89 F a2 a3 = some F1) : mm_T l k yX10_weigh cX10_weigh 6 none 7 [.ref (mmad k 83), .ref (mmad k 89), .int a2, .int a3] F none F1 := by
  refine mm_start [(0, .ref (mmad k 83)), (1, .ref (mmad k 89)), (2, .int a2), (3, .int a3)] (by decide) (Nat.le_of_ble_eq_true rfl) rfl ?_
  intro z hz C
  subst hz
  have C : mm_C z k RX10 cX10_weigh 6 none 7 := C
  replace h := mk0 h
  unfold m_X10_weigh_83_89 at h
  refine mm_iconst (v := (0 : Int32)) C dX10_weigh_0 (by decide) 1 rfl ?_
  refine mm_istore (lv2 := [(4, .int (0 : Int32)), (0, .ref (mmad k 83)), (1, .ref (mmad k 89)), (2, .int a2), (3, .int a3)]) C dX10_weigh_1 (by decide) rfl 3 rfl ?_
  refine mm_lv [1, 2, 3, 4, 0] rfl ?_
  have hL3 : ∀ (K : (mmS) → Option (mmS)) (hK : ∀ (G2 : mmS) , K (G2) = some F1 → mm_AW z k 6 none F1 G2 46 [(0, .ref (mmad k 83)), (1, .ref (mmad k 89)), (2, .int a2), (3, .int a3)] []) (n3 : Nat) (v1 : Int32) (G2 : mmS) , (m_X10_weigh_83_89_L3 n3 v1 G2).bind K = some F1 → mm_AW z k 6 none F1 G2 3 [(0, .ref (mmad k 83)), (1, .ref (mmad k 89)), (2, .int a2), (3, .int a3), (4, .int v1)] [] := by
    intro K hK n3
    induction n3 with
    | zero => intro v1 G2 h; rw [m_X10_weigh_83_89_L3] at h; cases h
    | succ n3 ih =>
      intro v1 G2 h
      rw [m_X10_weigh_83_89_L3] at h
      refine mm_iload C dX10_weigh_3 4 rfl 5 rfl ?_
      refine mm_aload_n C dX10_weigh_5 rfl 0 rfl 6 rfl ?_
      refine mm_get C fl_X10_22_X10 (by decide) (mc_83 k _) rfl dX10_weigh_6 9 rfl ?_
      refine mm_get C fl_X10_69_X3 (by decide) (mc_1 k _) rfl dX10_weigh_9 12 rfl ?_
      refine mm_icmp_ge C dX10_weigh_12 46 15 (by decide) rfl (fun hc => ?_) (fun hc => ?_)
      · rw [if_pos hc] at h
        refine mm_lv [0, 1, 2, 3] rfl ?_
        exact hK _ h
      · rw [if_neg hc] at h
        refine mm_aload_n C dX10_weigh_15 rfl 0 rfl 16 rfl ?_
        refine mm_get C fl_X10_15_X10 (by decide) (mc_83 k _) rfl dX10_weigh_16 19 rfl ?_
        refine mm_iload C dX10_weigh_19 4 rfl 21 rfl ?_
        refine mm_aload_n C dX10_weigh_21 rfl 0 rfl 22 rfl ?_
        refine mm_get C fl_X10_22_X10 (by decide) (mc_83 k _) rfl dX10_weigh_22 25 rfl ?_
        refine mm_get C fl_X10_72_X3 (by decide) (mc_1 k _) rfl dX10_weigh_25 28 rfl ?_
        refine mm_aload_n C dX10_weigh_28 rfl 0 rfl 29 rfl ?_
        refine mm_get C fl_X10_22_X10 (by decide) (mc_83 k _) rfl dX10_weigh_29 32 rfl ?_
        refine mm_get C fl_X10_75_X3 (by decide) (mc_1 k _) rfl dX10_weigh_32 35 rfl ?_
        refine mm_iload C dX10_weigh_35 4 rfl 37 rfl ?_
        obtain ⟨x4, ex4, h⟩ := mb h
        refine mm_iald C ex4 dX10_weigh_37 38 rfl ?_
        obtain ⟨x5, ex5, h⟩ := mb h
        refine mm_iald C ex5 dX10_weigh_38 39 rfl ?_
        obtain ⟨G6, eG6, h⟩ := mb h
        refine mm_iast C eG6 dX10_weigh_39 40 rfl ?_
        obtain ⟨x7, ex7, h⟩ := me h
        refine mm_iinc (v := x7) (lv2 := [(4, .int x7), (0, .ref (mmad k 83)), (1, .ref (mmad k 89)), (2, .int a2), (3, .int a3)]) C dX10_weigh_40 4 rfl (by rw [← ex7]; rfl) (by decide) rfl 43 rfl ?_
        refine mm_goto C dX10_weigh_43 3 (by decide) ?_
        refine mm_lv [1, 2, 3, 4, 0] rfl ?_
        exact ih _ _ h
  refine mj1 h (fun (G8 : mmS) => mm_AW z k 6 none F1 G8 46 [(0, .ref (mmad k 83)), (1, .ref (mmad k 89)), (2, .int a2), (3, .int a3)] []) ?_ ?_
  · intro G8 h
    refine mm_aload_n C dX10_weigh_46 rfl 0 rfl 47 rfl ?_
    refine mm_iconst (v := (0 : Int32)) C dX10_weigh_47 (by decide) 48 rfl ?_
    refine mm_iload_n C dX10_weigh_48 rfl 2 rfl 49 rfl ?_
    obtain ⟨x9, G10, ex9, h⟩ := mb2 h
    refine mm_callV [.int (0 : Int32), .int a2] C (c_X10_leastFrom_83 5 ex9) wb_X10_leastFrom wv_X10_78 (by decide) (mc_83 k _) rfl rfl rfl (by omega) rfl (Nat.le_of_ble_eq_true rfl) dX10_weigh_49 52 rfl ?_
    show mm_AW z k 6 none F1 G10 52 [(0, .ref (mmad k 83)), (1, .ref (mmad k 89)), (2, .int a2), (3, .int a3)] [.int x9]
    refine mm_istore (lv2 := [(4, .int x9), (0, .ref (mmad k 83)), (1, .ref (mmad k 89)), (2, .int a2), (3, .int a3)]) C dX10_weigh_52 (by decide) rfl 54 rfl ?_
    refine mm_iload C dX10_weigh_54 0 rfl 56 rfl ?_
    refine mm_if_gt C dX10_weigh_56 60 59 (by decide) rfl (fun hc => ?_) (fun hc => ?_)
    · rw [if_pos hc] at h
      refine mm_aload_n C dX10_weigh_60 rfl 2 rfl 61 rfl ?_
      obtain ⟨G11, eG11, h⟩ := mb h
      refine mm_callU [] C (c_X7_standAtStart_89 eG11) wb_X7_standAtStart wu_X10_82_X1 (fun s hN => hN.2.1) (by decide) (mc_89 k _) rfl rfl (by omega) rfl (Nat.le_of_ble_eq_true rfl) dX10_weigh_61 64 rfl ?_
      show mm_AW z k 6 none F1 G11 64 [(4, .int x9), (0, .ref (mmad k 83)), (1, .ref (mmad k 89)), (2, .int a2), (3, .int a3)] []
      refine mm_iconst (v := (0 : Int32)) C dX10_weigh_64 (by decide) 65 rfl ?_
      refine mm_istore (lv2 := [(5, .int (0 : Int32)), (4, .int x9), (0, .ref (mmad k 83)), (1, .ref (mmad k 89)), (2, .int a2), (3, .int a3)]) C dX10_weigh_65 (by decide) rfl 67 rfl ?_
      refine mm_lv [2, 3, 4, 5, 1, 0] rfl ?_
      have hL67 : ∀ (K : (mmS) → Option (mmS)) (hK : ∀ (G13 : mmS) , K (G13) = some F1 → mm_AW z k 6 none F1 G13 91 [(0, .ref (mmad k 83)), (1, .ref (mmad k 89)), (3, .int a3), (4, .int x9)] []) (n14 : Nat) (v12 : Int32) (G13 : mmS) , (m_X10_weigh_83_89_L67 a2 n14 v12 G13).bind K = some F1 → mm_AW z k 6 none F1 G13 67 [(0, .ref (mmad k 83)), (1, .ref (mmad k 89)), (2, .int a2), (3, .int a3), (4, .int x9), (5, .int v12)] [] := by
        intro K hK n14
        induction n14 with
        | zero => intro v12 G13 h; rw [m_X10_weigh_83_89_L67] at h; cases h
        | succ n14 ih =>
          intro v12 G13 h
          rw [m_X10_weigh_83_89_L67] at h
          refine mm_iload C dX10_weigh_67 5 rfl 69 rfl ?_
          refine mm_iload_n C dX10_weigh_69 rfl 2 rfl 70 rfl ?_
          refine mm_icmp_ge C dX10_weigh_70 91 73 (by decide) rfl (fun hc => ?_) (fun hc => ?_)
          · rw [if_pos hc] at h
            refine mm_lv [0, 1, 3, 4] rfl ?_
            exact hK _ h
          · rw [if_neg hc] at h
            refine mm_aload_n C dX10_weigh_73 rfl 1 rfl 74 rfl ?_
            refine mm_aload_n C dX10_weigh_74 rfl 0 rfl 75 rfl ?_
            refine mm_get C fl_X10_9_X10 (by decide) (mc_83 k _) rfl dX10_weigh_75 78 rfl ?_
            refine mm_iload C dX10_weigh_78 5 rfl 80 rfl ?_
            obtain ⟨x15, ex15, h⟩ := mb h
            refine mm_iald C ex15 dX10_weigh_80 81 rfl ?_
            refine mm_iconst (v := (-1 : Int32)) C dX10_weigh_81 (by decide) 82 rfl ?_
            obtain ⟨G16, eG16, h⟩ := mb h
            refine mm_callU [.int x15, .int (-1 : Int32)] C (c_X1_meet_89 eG16) wb_X1_meet wu_X10_85_X1 (fun s hN => hN.2.2.1) (by decide) (mc_89 k _) rfl rfl (by omega) rfl (Nat.le_of_ble_eq_true rfl) dX10_weigh_82 85 rfl ?_
            show mm_AW z k 6 none F1 G16 85 [(0, .ref (mmad k 83)), (1, .ref (mmad k 89)), (2, .int a2), (3, .int a3), (4, .int x9), (5, .int v12)] []
            obtain ⟨x17, ex17, h⟩ := me h
            refine mm_iinc (v := x17) (lv2 := [(5, .int x17), (0, .ref (mmad k 83)), (1, .ref (mmad k 89)), (2, .int a2), (3, .int a3), (4, .int x9)]) C dX10_weigh_85 5 rfl (by rw [← ex17]; rfl) (by decide) rfl 88 rfl ?_
            refine mm_goto C dX10_weigh_88 67 (by decide) ?_
            refine mm_lv [1, 2, 3, 4, 5, 0] rfl ?_
            exact ih _ _ h
      refine mj1 h (fun (G18 : mmS) => mm_AW z k 6 none F1 G18 91 [(0, .ref (mmad k 83)), (1, .ref (mmad k 89)), (3, .int a3), (4, .int x9)] []) ?_ ?_
      · intro G18 h
        refine mm_aload_n C dX10_weigh_91 rfl 0 rfl 92 rfl ?_
        refine mm_get C fl_X10_18_X10 (by decide) (mc_83 k _) rfl dX10_weigh_92 95 rfl ?_
        refine mm_iconst (v := (-1 : Int32)) C dX10_weigh_95 (by decide) 96 rfl ?_
        refine mm_icmp_eq C dX10_weigh_96 118 99 (by decide) rfl (fun hc => ?_) (fun hc => ?_)
        · rw [if_pos hc] at h
          refine mm_aload_n C dX10_weigh_118 rfl 0 rfl 119 rfl ?_
          refine mm_iload_n C dX10_weigh_119 rfl 2 rfl 120 rfl ?_
          obtain ⟨G19, eG19, h⟩ := me h
          refine mm_put (x := a3) (ty := .int) C fl_X10_18_X10 (by decide) (mc_83 k _) (mc_83 k _) tyX10 tyX10_ok nmX10 rfl (by decide +kernel) rfl rfl (Nat.le_of_ble_eq_true rfl) eG19 dX10_weigh_120 123 rfl ?_
          refine mm_aload_n C dX10_weigh_123 rfl 0 rfl 124 rfl ?_
          refine mm_aload_n C dX10_weigh_124 rfl 1 rfl 125 rfl ?_
          refine mm_get C fl_X10_89_X1 (by decide) (mc_89 k _) rfl dX10_weigh_125 128 rfl ?_
          obtain ⟨G20, eG20, h⟩ := me h
          refine mm_put (x := (G19 89 2)) (ty := .int) C fl_X10_47_X10 (by decide) (mc_83 k _) (mc_83 k _) tyX10 tyX10_ok nmX10 rfl (by decide +kernel) rfl rfl (Nat.le_of_ble_eq_true rfl) eG20 dX10_weigh_128 131 rfl ?_
          refine mm_aload_n C dX10_weigh_131 rfl 0 rfl 132 rfl ?_
          refine mm_iload C dX10_weigh_132 3 rfl 134 rfl ?_
          obtain ⟨G21, eG21, h⟩ := me h
          refine mm_put (x := x9) (ty := .int) C fl_X10_50_X10 (by decide) (mc_83 k _) (mc_83 k _) tyX10 tyX10_ok nmX10 rfl (by decide +kernel) rfl rfl (Nat.le_of_ble_eq_true rfl) eG21 dX10_weigh_134 137 rfl ?_
          exact mm_vretW C (h) dX10_weigh_137
        · rw [if_neg hc] at h
          refine mm_aload_n C dX10_weigh_99 rfl 1 rfl 100 rfl ?_
          refine mm_get C fl_X10_89_X1 (by decide) (mc_89 k _) rfl dX10_weigh_100 103 rfl ?_
          refine mm_aload_n C dX10_weigh_103 rfl 0 rfl 104 rfl ?_
          refine mm_get C fl_X10_50_X10 (by decide) (mc_83 k _) rfl dX10_weigh_104 107 rfl ?_
          refine mm_imul C dX10_weigh_107 108 rfl ?_
          refine mm_aload_n C dX10_weigh_108 rfl 0 rfl 109 rfl ?_
          refine mm_get C fl_X10_47_X10 (by decide) (mc_83 k _) rfl dX10_weigh_109 112 rfl ?_
          refine mm_iload C dX10_weigh_112 3 rfl 114 rfl ?_
          refine mm_imul C dX10_weigh_114 115 rfl ?_
          refine mm_icmp_le C dX10_weigh_115 137 118 (by decide) rfl (fun hc => ?_) (fun hc => ?_)
          · rw [if_pos hc] at h
            exact mm_vretW C (h) dX10_weigh_137
          · rw [if_neg hc] at h
            refine mm_aload_n C dX10_weigh_118 rfl 0 rfl 119 rfl ?_
            refine mm_iload_n C dX10_weigh_119 rfl 2 rfl 120 rfl ?_
            obtain ⟨G22, eG22, h⟩ := me h
            refine mm_put (x := a3) (ty := .int) C fl_X10_18_X10 (by decide) (mc_83 k _) (mc_83 k _) tyX10 tyX10_ok nmX10 rfl (by decide +kernel) rfl rfl (Nat.le_of_ble_eq_true rfl) eG22 dX10_weigh_120 123 rfl ?_
            refine mm_aload_n C dX10_weigh_123 rfl 0 rfl 124 rfl ?_
            refine mm_aload_n C dX10_weigh_124 rfl 1 rfl 125 rfl ?_
            refine mm_get C fl_X10_89_X1 (by decide) (mc_89 k _) rfl dX10_weigh_125 128 rfl ?_
            obtain ⟨G23, eG23, h⟩ := me h
            refine mm_put (x := (G22 89 2)) (ty := .int) C fl_X10_47_X10 (by decide) (mc_83 k _) (mc_83 k _) tyX10 tyX10_ok nmX10 rfl (by decide +kernel) rfl rfl (Nat.le_of_ble_eq_true rfl) eG23 dX10_weigh_128 131 rfl ?_
            refine mm_aload_n C dX10_weigh_131 rfl 0 rfl 132 rfl ?_
            refine mm_iload C dX10_weigh_132 3 rfl 134 rfl ?_
            obtain ⟨G24, eG24, h⟩ := me h
            refine mm_put (x := x9) (ty := .int) C fl_X10_50_X10 (by decide) (mc_83 k _) (mc_83 k _) tyX10 tyX10_ok nmX10 rfl (by decide +kernel) rfl rfl (Nat.le_of_ble_eq_true rfl) eG24 dX10_weigh_134 137 rfl ?_
            exact mm_vretW C (h) dX10_weigh_137
      · intro K2 hR h
        exact hL67 K2 hR 300 _ _ h
    · rw [if_neg hc] at h
      exact mm_vretW C (h) dX10_weigh_59
  · intro K2 hR h
    exact hL3 K2 hR 300 _ _ h
def m_X7_standAtStart_91_L2 : Nat → Int32 → mmS → Option (mmS)
  | 0, _, _ => none
  | n3 + 1, v1, G2 => if (3 : Int32) ≤ v1 then (some ((G2))) else (Option.bind (ald G2 3 v1) fun x4 => Option.bind (ald G2 2 x4) fun x5 => Option.bind (ast G2 92 v1 x5) fun G6 => mlet (v1 + (1 : Int32)) fun x7 => m_X7_standAtStart_91_L2 n3 x7 G6)
def m_X7_standAtStart_91 (F : mmS)  : Option (mmS) :=
  bd1 (m_X7_standAtStart_91_L2 300 (0 : Int32) F) fun G8 => mlet (stF G8 91 2 (0 : Int32)) fun G9 => mlet (stF G9 91 3 (-1 : Int32)) fun G10 => some G10
set_option maxHeartbeats 4000000 in
set_option maxRecDepth 100000 in
theorem c_X7_standAtStart_91 {l : Launch} {k : mmK} {F : mmS}  {F1 : mmS} (h : m_X7_standAtStart_91 F = some F1) : mm_T l k yX7_standAtStart cX7_standAtStart 2 none 0 [.ref (mmad k 91)] F none F1 := by
  refine mm_start [(0, .ref (mmad k 91))] (by decide) (Nat.le_of_ble_eq_true rfl) rfl ?_
  intro z hz C
  subst hz
  have C : mm_C z k RX7 cX7_standAtStart 2 none 0 := C
  replace h := mk0 h
  unfold m_X7_standAtStart_91 at h
  refine mm_iconst (v := (0 : Int32)) C dX7_standAtStart_0 (by decide) 1 rfl ?_
  refine mm_istore_n (lv2 := [(1, .int (0 : Int32)), (0, .ref (mmad k 91))]) C dX7_standAtStart_1 rfl (by decide) rfl 2 rfl ?_
  refine mm_lv [1, 0] rfl ?_
  have hL2 : ∀ (K : (mmS) → Option (mmS)) (hK : ∀ (G2 : mmS) , K (G2) = some F1 → mm_AW z k 2 none F1 G2 36 [(0, .ref (mmad k 91))] []) (n3 : Nat) (v1 : Int32) (G2 : mmS) , (m_X7_standAtStart_91_L2 n3 v1 G2).bind K = some F1 → mm_AW z k 2 none F1 G2 2 [(0, .ref (mmad k 91)), (1, .int v1)] [] := by
    intro K hK n3
    induction n3 with
    | zero => intro v1 G2 h; rw [m_X7_standAtStart_91_L2] at h; cases h
    | succ n3 ih =>
      intro v1 G2 h
      rw [m_X7_standAtStart_91_L2] at h
      refine mm_iload_n C dX7_standAtStart_2 rfl 1 rfl 3 rfl ?_
      refine mm_iconst (v := (3 : Int32)) C dX7_standAtStart_3 (by decide) 4 rfl ?_
      refine mm_icmp_ge C dX7_standAtStart_4 36 7 (by decide) rfl (fun hc => ?_) (fun hc => ?_)
      · rw [if_pos hc] at h
        refine mm_lv [0] rfl ?_
        exact hK _ h
      · rw [if_neg hc] at h
        refine mm_aload_n C dX7_standAtStart_7 rfl 0 rfl 8 rfl ?_
        refine mm_get C fl_X7_9_X9 (by decide) (mc_91 k _) rfl dX7_standAtStart_8 11 rfl ?_
        refine mm_iload_n C dX7_standAtStart_11 rfl 1 rfl 12 rfl ?_
        refine mm_aload_n C dX7_standAtStart_12 rfl 0 rfl 13 rfl ?_
        refine mm_get C fl_X7_19_X9 (by decide) (mc_91 k _) rfl dX7_standAtStart_13 16 rfl ?_
        refine mm_get C fl_X7_26_X3 (by decide) (mc_1 k _) rfl dX7_standAtStart_16 19 rfl ?_
        refine mm_aload_n C dX7_standAtStart_19 rfl 0 rfl 20 rfl ?_
        refine mm_get C fl_X7_19_X9 (by decide) (mc_91 k _) rfl dX7_standAtStart_20 23 rfl ?_
        refine mm_get C fl_X7_31_X3 (by decide) (mc_1 k _) rfl dX7_standAtStart_23 26 rfl ?_
        refine mm_iload_n C dX7_standAtStart_26 rfl 1 rfl 27 rfl ?_
        obtain ⟨x4, ex4, h⟩ := mb h
        refine mm_iald C ex4 dX7_standAtStart_27 28 rfl ?_
        obtain ⟨x5, ex5, h⟩ := mb h
        refine mm_iald C ex5 dX7_standAtStart_28 29 rfl ?_
        obtain ⟨G6, eG6, h⟩ := mb h
        refine mm_iast C eG6 dX7_standAtStart_29 30 rfl ?_
        obtain ⟨x7, ex7, h⟩ := me h
        refine mm_iinc (v := x7) (lv2 := [(1, .int x7), (0, .ref (mmad k 91))]) C dX7_standAtStart_30 1 rfl (by rw [← ex7]; rfl) (by decide) rfl 33 rfl ?_
        refine mm_goto C dX7_standAtStart_33 2 (by decide) ?_
        refine mm_lv [1, 0] rfl ?_
        exact ih _ _ h
  refine mj1 h (fun (G8 : mmS) => mm_AW z k 2 none F1 G8 36 [(0, .ref (mmad k 91))] []) ?_ ?_
  · intro G8 h
    refine mm_aload_n C dX7_standAtStart_36 rfl 0 rfl 37 rfl ?_
    refine mm_iconst (v := (0 : Int32)) C dX7_standAtStart_37 (by decide) 38 rfl ?_
    obtain ⟨G9, eG9, h⟩ := me h
    refine mm_put (x := (0 : Int32)) (ty := .int) C fl_X7_34_X9 (by decide) (mc_91 k _) (mc_91 k _) tyX9 tyX9_ok nmX9 rfl (by decide +kernel) rfl rfl (Nat.le_of_ble_eq_true rfl) eG9 dX7_standAtStart_38 41 rfl ?_
    refine mm_aload_n C dX7_standAtStart_41 rfl 0 rfl 42 rfl ?_
    refine mm_iconst (v := (-1 : Int32)) C dX7_standAtStart_42 (by decide) 43 rfl ?_
    obtain ⟨G10, eG10, h⟩ := me h
    refine mm_put (x := (-1 : Int32)) (ty := .int) C fl_X7_15_X9 (by decide) (mc_91 k _) (mc_91 k _) tyX9 tyX9_ok nmX9 rfl (by decide +kernel) rfl rfl (Nat.le_of_ble_eq_true rfl) eG10 dX7_standAtStart_43 46 rfl ?_
    exact mm_vretW C (h) dX7_standAtStart_46
  · intro K2 hR h
    exact hL2 K2 hR 300 _ _ h
def m_X9_standAtStart_91 (F : mmS)  : Option (mmS) :=
  Option.bind (m_X7_standAtStart_91 F) fun G1 => Option.bind (m_X3_startStanding_1 G1) fun x2 => mlet (stF G1 91 6 x2) fun G3 => mlet (stF G3 91 5 (0 : Int32)) fun G4 => some G4
set_option maxHeartbeats 4000000 in
set_option maxRecDepth 100000 in
theorem c_X9_standAtStart_91 {l : Launch} {k : mmK} {F : mmS}  {F1 : mmS} (h : m_X9_standAtStart_91 F = some F1) : mm_T l k yX9_standAtStart cX9_standAtStart 1 none 3 [.ref (mmad k 91)] F none F1 := by
  refine mm_start [(0, .ref (mmad k 91))] (by decide) (Nat.le_of_ble_eq_true rfl) rfl ?_
  intro z hz C
  subst hz
  have C : mm_C z k RX9 cX9_standAtStart 1 none 3 := C
  replace h := mk0 h
  unfold m_X9_standAtStart_91 at h
  refine mm_aload_n C dX9_standAtStart_0 rfl 0 rfl 1 rfl ?_
  obtain ⟨G1, eG1, h⟩ := mb h
  refine mm_callP [] C (c_X7_standAtStart_91 eG1) wb_X7_standAtStart wp_X9_66 (by decide) (mc_91 k _) rfl rfl (by omega) rfl (Nat.le_of_ble_eq_true rfl) dX9_standAtStart_1 4 rfl ?_
  show mm_AW z k 1 none F1 G1 4 [(0, .ref (mmad k 91))] []
  refine mm_aload_n C dX9_standAtStart_4 rfl 0 rfl 5 rfl ?_
  refine mm_aload_n C dX9_standAtStart_5 rfl 0 rfl 6 rfl ?_
  refine mm_get C fl_X9_34_X9 (by decide) (mc_91 k _) rfl dX9_standAtStart_6 9 rfl ?_
  obtain ⟨x2, ex2, h⟩ := mb h
  refine mm_callV [] C (c_X3_startStanding_1 ex2) wb_X3_startStanding wv_X9_67 (by decide) (mc_1 k _) rfl rfl rfl (by omega) rfl (Nat.le_of_ble_eq_true rfl) dX9_standAtStart_9 12 rfl ?_
  show mm_AW z k 1 none F1 G1 12 [(0, .ref (mmad k 91))] [.int x2, .ref (mmad k 91)]
  obtain ⟨G3, eG3, h⟩ := me h
  refine mm_put (x := x2) (ty := .int) C fl_X9_71_X9 (by decide) (mc_91 k _) (mc_91 k _) tyX9 tyX9_ok nmX9 rfl (by decide +kernel) rfl rfl (Nat.le_of_ble_eq_true rfl) eG3 dX9_standAtStart_12 15 rfl ?_
  refine mm_aload_n C dX9_standAtStart_15 rfl 0 rfl 16 rfl ?_
  refine mm_iconst (v := (0 : Int32)) C dX9_standAtStart_16 (by decide) 17 rfl ?_
  obtain ⟨G4, eG4, h⟩ := me h
  refine mm_put (x := (0 : Int32)) (ty := .int) C fl_X9_74_X9 (by decide) (mc_91 k _) (mc_91 k _) tyX9 tyX9_ok nmX9 rfl (by decide +kernel) rfl rfl (Nat.le_of_ble_eq_true rfl) eG4 dX9_standAtStart_17 20 rfl ?_
  exact mm_vretW C (h) dX9_standAtStart_20
