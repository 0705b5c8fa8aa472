def m_X12_longs_97_L85 (F : mmS) (v13 : Int32) : Nat → Int32 → Int32 → Option (Int32)
  | 0, _, _ => none
  | n17 + 1, v15, v16 => if v13 ≤ v16 then (some ((v15))) else (Option.bind (ald F 103 v13) fun x18 => Option.bind (ald F 103 v16) fun x19 => Option.bind (m_X12_apart x18 x19) fun x20 => mlet (v15 + x20) fun x21 => mlet (v16 + (1 : Int32)) fun x22 => m_X12_longs_97_L85 F v13 n17 x21 x22)
def m_X12_longs_97_L73 (F : mmS) : Nat → Int32 → Int32 → Option (Int32)
  | 0, _, _ => none
  | n14 + 1, v12, v13 => if (F 97 2) ≤ v13 then (some ((v12))) else (bd1 (m_X12_longs_97_L85 F v13 300 v12 (0 : Int32)) fun y23 => mlet (v13 + (1 : Int32)) fun x24 => m_X12_longs_97_L73 F n14 y23 x24)
def m_X12_longs_97 (F : mmS) (a1 : Int32) : Option (Int32) :=
  Option.bind (m_X12_pointOf_97 a1 (0 : Int32)) fun x1 => Option.bind (ald F 98 x1) fun x2 => Option.bind (m_X12_pointOf_97 a1 (1 : Int32)) fun x3 => Option.bind (ald F 98 x3) fun x4 => Option.bind (m_X12_pointOf_97 a1 (2 : Int32)) fun x5 => Option.bind (ald F 98 x5) fun x6 => Option.bind (ald F 103 (0 : Int32)) fun x7 => Option.bind (ald F 103 (1 : Int32)) fun x8 => Option.bind (ald F 103 (2 : Int32)) fun x9 => Option.bind (m_X12_least_97 F x7 x8 x9 x2 x4 x6) fun x10 => mlet ((F 97 2) * x10) fun x11 => bd1 (m_X12_longs_97_L73 F 300 x11 (0 : Int32)) fun y25 => some y25
set_option maxHeartbeats 4000000 in
set_option maxRecDepth 100000 in
theorem c_X12_longs_97 {l : Launch} {k : mmK} {F : mmS} {a1 : Int32} {r : Int32} (h : m_X12_longs_97 F a1 = some r) : mm_T l k yX12_longs cX12_longs 8 (some .int) 2 [.ref (mmad k 97), .int a1] F (some (.int r)) F := by
  refine mm_start [(0, .ref (mmad k 97)), (1, .int a1)] (by decide) (Nat.le_of_ble_eq_true rfl) rfl ?_
  intro z hz C
  subst hz
  have C : mm_C z k RX12 cX12_longs 8 (some .int) 2 := C
  replace h := mk0 h
  unfold m_X12_longs_97 at h
  refine mm_aload_n C dX12_longs_0 rfl 0 rfl 1 rfl ?_
  refine mm_get C fl_X12_13_X12 (by decide) (mc_97 k _) rfl dX12_longs_1 4 rfl ?_
  refine mm_aload_n C dX12_longs_4 rfl 0 rfl 5 rfl ?_
  refine mm_iload_n C dX12_longs_5 rfl 1 rfl 6 rfl ?_
  refine mm_iconst (v := (0 : Int32)) C dX12_longs_6 (by decide) 7 rfl ?_
  obtain ⟨x1, ex1, h⟩ := mb h
  refine mm_callV [.int a1, .int (0 : Int32)] C (c_X12_pointOf_97 ex1) wb_X12_pointOf wv_X12_87 (by decide) (mc_97 k _) rfl rfl rfl (by omega) rfl (Nat.le_of_ble_eq_true rfl) dX12_longs_7 10 rfl ?_
  show mm_AW z k 8 (some (.int r)) F F 10 [(0, .ref (mmad k 97)), (1, .int a1)] [.int x1, .ref (mmad k 98)]
  obtain ⟨x2, ex2, h⟩ := mb h
  refine mm_iald C ex2 dX12_longs_10 11 rfl ?_
  refine mm_istore_n (lv2 := [(2, .int x2), (0, .ref (mmad k 97)), (1, .int a1)]) C dX12_longs_11 rfl (by decide) rfl 12 rfl ?_
  refine mm_aload_n C dX12_longs_12 rfl 1 rfl 13 rfl ?_
  refine mm_get C fl_X12_13_X12 (by decide) (mc_97 k _) rfl dX12_longs_13 16 rfl ?_
  refine mm_aload_n C dX12_longs_16 rfl 1 rfl 17 rfl ?_
  refine mm_iload_n C dX12_longs_17 rfl 2 rfl 18 rfl ?_
  refine mm_iconst (v := (1 : Int32)) C dX12_longs_18 (by decide) 19 rfl ?_
  obtain ⟨x3, ex3, h⟩ := mb h
  refine mm_callV [.int a1, .int (1 : Int32)] C (c_X12_pointOf_97 ex3) wb_X12_pointOf wv_X12_87 (by decide) (mc_97 k _) rfl rfl rfl (by omega) rfl (Nat.le_of_ble_eq_true rfl) dX12_longs_19 22 rfl ?_
  show mm_AW z k 8 (some (.int r)) F F 22 [(2, .int x2), (0, .ref (mmad k 97)), (1, .int a1)] [.int x3, .ref (mmad k 98)]
  obtain ⟨x4, ex4, h⟩ := mb h
  refine mm_iald C ex4 dX12_longs_22 23 rfl ?_
  refine mm_istore_n (lv2 := [(3, .int x4), (2, .int x2), (0, .ref (mmad k 97)), (1, .int a1)]) C dX12_longs_23 rfl (by decide) rfl 24 rfl ?_
  refine mm_aload_n C dX12_longs_24 rfl 2 rfl 25 rfl ?_
  refine mm_get C fl_X12_13_X12 (by decide) (mc_97 k _) rfl dX12_longs_25 28 rfl ?_
  refine mm_aload_n C dX12_longs_28 rfl 2 rfl 29 rfl ?_
  refine mm_iload_n C dX12_longs_29 rfl 3 rfl 30 rfl ?_
  refine mm_iconst (v := (2 : Int32)) C dX12_longs_30 (by decide) 31 rfl ?_
  obtain ⟨x5, ex5, h⟩ := mb h
  refine mm_callV [.int a1, .int (2 : Int32)] C (c_X12_pointOf_97 ex5) wb_X12_pointOf wv_X12_87 (by decide) (mc_97 k _) rfl rfl rfl (by omega) rfl (Nat.le_of_ble_eq_true rfl) dX12_longs_31 34 rfl ?_
  show mm_AW z k 8 (some (.int r)) F F 34 [(3, .int x4), (2, .int x2), (0, .ref (mmad k 97)), (1, .int a1)] [.int x5, .ref (mmad k 98)]
  obtain ⟨x6, ex6, h⟩ := mb h
  refine mm_iald C ex6 dX12_longs_34 35 rfl ?_
  refine mm_istore (lv2 := [(4, .int x6), (3, .int x4), (2, .int x2), (0, .ref (mmad k 97)), (1, .int a1)]) C dX12_longs_35 (by decide) rfl 37 rfl ?_
  refine mm_aload_n C dX12_longs_37 rfl 3 rfl 38 rfl ?_
  refine mm_get C fl_X12_17_X12 (by decide) (mc_97 k _) rfl dX12_longs_38 41 rfl ?_
  refine mm_aload_n C dX12_longs_41 rfl 3 rfl 42 rfl ?_
  refine mm_aload_n C dX12_longs_42 rfl 3 rfl 43 rfl ?_
  refine mm_get C fl_X12_35_X12 (by decide) (mc_97 k _) rfl dX12_longs_43 46 rfl ?_
  refine mm_iconst (v := (0 : Int32)) C dX12_longs_46 (by decide) 47 rfl ?_
  obtain ⟨x7, ex7, h⟩ := mb h
  refine mm_iald C ex7 dX12_longs_47 48 rfl ?_
  refine mm_aload_n C dX12_longs_48 rfl 3 rfl 49 rfl ?_
  refine mm_get C fl_X12_35_X12 (by decide) (mc_97 k _) rfl dX12_longs_49 52 rfl ?_
  refine mm_iconst (v := (1 : Int32)) C dX12_longs_52 (by decide) 53 rfl ?_
  obtain ⟨x8, ex8, h⟩ := mb h
  refine mm_iald C ex8 dX12_longs_53 54 rfl ?_
  refine mm_aload_n C dX12_longs_54 rfl 3 rfl 55 rfl ?_
  refine mm_get C fl_X12_35_X12 (by decide) (mc_97 k _) rfl dX12_longs_55 58 rfl ?_
  refine mm_iconst (v := (2 : Int32)) C dX12_longs_58 (by decide) 59 rfl ?_
  obtain ⟨x9, ex9, h⟩ := mb h
  refine mm_iald C ex9 dX12_longs_59 60 rfl ?_
  refine mm_iload_n C dX12_longs_60 rfl 2 rfl 61 rfl ?_
  refine mm_iload_n C dX12_longs_61 rfl 1 rfl 62 rfl ?_
  refine mm_iload C dX12_longs_62 0 rfl 64 rfl ?_
  obtain ⟨x10, ex10, h⟩ := mb h
  refine mm_callV [.int x7, .int x8, .int x9, .int x2, .int x4, .int x6] C (c_X12_least_97 ex10) wb_X12_least wv_X12_132 (by decide) (mc_97 k _) rfl rfl rfl (by omega) rfl (Nat.le_of_ble_eq_true rfl) dX12_longs_64 67 rfl ?_
  show mm_AW z k 8 (some (.int r)) F F 67 [(4, .int x6), (3, .int x4), (2, .int x2), (0, .ref (mmad k 97)), (1, .int a1)] [.int x10, .int (F 97 2)]
  refine mm_imul C dX12_longs_67 68 rfl ?_
  obtain ⟨x11, ex11, h⟩ := me h
  refine mm_top ex11 ?_
  refine mm_istore (lv2 := [(5, .int x11), (4, .int x6), (3, .int x4), (2, .int x2), (0, .ref (mmad k 97)), (1, .int a1)]) C dX12_longs_68 (by decide) rfl 70 rfl ?_
  refine mm_iconst (v := (0 : Int32)) C dX12_longs_70 (by decide) 71 rfl ?_
  refine mm_istore (lv2 := [(6, .int (0 : Int32)), (5, .int x11), (4, .int x6), (3, .int x4), (2, .int x2), (0, .ref (mmad k 97)), (1, .int a1)]) C dX12_longs_71 (by decide) rfl 73 rfl ?_
  refine mm_lv [5, 1, 0] rfl ?_
  have hL73 : ∀ (K : (Int32) → Option (Int32)) (hK : ∀ (v12 : Int32) , K (v12) = some r → mm_AW z k 8 (some (.int r)) F F 126 [(5, .int v12)] []) (n14 : Nat) (v12 : Int32) (v13 : Int32) , (m_X12_longs_97_L73 F n14 v12 v13).bind K = some r → mm_AW z k 8 (some (.int r)) F F 73 [(0, .ref (mmad k 97)), (5, .int v12), (6, .int v13)] [] := by
    intro K hK n14
    induction n14 with
    | zero => intro v12 v13 h; rw [m_X12_longs_97_L73] at h; cases h
    | succ n14 ih =>
      intro v12 v13 h
      rw [m_X12_longs_97_L73] at h
      refine mm_iload C dX12_longs_73 2 rfl 75 rfl ?_
      refine mm_aload_n C dX12_longs_75 rfl 0 rfl 76 rfl ?_
      refine mm_get C fl_X12_17_X12 (by decide) (mc_97 k _) rfl dX12_longs_76 79 rfl ?_
      refine mm_icmp_ge C dX12_longs_79 126 82 (by decide) rfl (fun hc => ?_) (fun hc => ?_)
      · rw [if_pos hc] at h
        refine mm_lv [1] rfl ?_
        exact hK _ h
      · rw [if_neg hc] at h
        refine mm_iconst (v := (0 : Int32)) C dX12_longs_82 (by decide) 83 rfl ?_
        refine mm_istore (lv2 := [(7, .int (0 : Int32)), (0, .ref (mmad k 97)), (5, .int v12), (6, .int v13)]) C dX12_longs_83 (by decide) rfl 85 rfl ?_
        refine mm_lv [1, 2, 3, 0] rfl ?_
        have hL85 : ∀ (K : (Int32) → Option (Int32)) (hK : ∀ (v15 : Int32) , K (v15) = some r → mm_AW z k 8 (some (.int r)) F F 120 [(0, .ref (mmad k 97)), (5, .int v15), (6, .int v13)] []) (n17 : Nat) (v15 : Int32) (v16 : Int32) , (m_X12_longs_97_L85 F v13 n17 v15 v16).bind K = some r → mm_AW z k 8 (some (.int r)) F F 85 [(0, .ref (mmad k 97)), (5, .int v15), (6, .int v13), (7, .int v16)] [] := by
          intro K hK n17
          induction n17 with
          | zero => intro v15 v16 h; rw [m_X12_longs_97_L85] at h; cases h
          | succ n17 ih =>
            intro v15 v16 h
            rw [m_X12_longs_97_L85] at h
            refine mm_iload C dX12_longs_85 3 rfl 87 rfl ?_
            refine mm_iload C dX12_longs_87 2 rfl 89 rfl ?_
            refine mm_icmp_ge C dX12_longs_89 120 92 (by decide) rfl (fun hc => ?_) (fun hc => ?_)
            · rw [if_pos hc] at h
              refine mm_lv [0, 1, 2] rfl ?_
              exact hK _ h
            · rw [if_neg hc] at h
              refine mm_iload C dX12_longs_92 1 rfl 94 rfl ?_
              refine mm_aload_n C dX12_longs_94 rfl 0 rfl 95 rfl ?_
              refine mm_get C fl_X12_35_X12 (by decide) (mc_97 k _) rfl dX12_longs_95 98 rfl ?_
              refine mm_iload C dX12_longs_98 2 rfl 100 rfl ?_
              obtain ⟨x18, ex18, h⟩ := mb h
              refine mm_iald C ex18 dX12_longs_100 101 rfl ?_
              refine mm_aload_n C dX12_longs_101 rfl 0 rfl 102 rfl ?_
              refine mm_get C fl_X12_35_X12 (by decide) (mc_97 k _) rfl dX12_longs_102 105 rfl ?_
              refine mm_iload C dX12_longs_105 3 rfl 107 rfl ?_
              obtain ⟨x19, ex19, h⟩ := mb h
              refine mm_iald C ex19 dX12_longs_107 108 rfl ?_
              obtain ⟨x20, ex20, h⟩ := mb h
              refine mm_callS [.int x18, .int x19] C (c_X12_apart ex20) wb_X12_apart ws_X12_95 rfl (by omega) rfl (Nat.le_of_ble_eq_true rfl) dX12_longs_108 111 rfl ?_
              show mm_AW z k 8 (some (.int r)) F F 111 [(0, .ref (mmad k 97)), (5, .int v15), (6, .int v13), (7, .int v16)] [.int x20, .int v15]
              refine mm_iadd C dX12_longs_111 112 rfl ?_
              obtain ⟨x21, ex21, h⟩ := me h
              refine mm_top ex21 ?_
              refine mm_istore (lv2 := [(5, .int x21), (0, .ref (mmad k 97)), (6, .int v13), (7, .int v16)]) C dX12_longs_112 (by decide) rfl 114 rfl ?_
              obtain ⟨x22, ex22, h⟩ := me h
              refine mm_iinc (v := x22) (lv2 := [(7, .int x22), (5, .int x21), (0, .ref (mmad k 97)), (6, .int v13)]) C dX12_longs_114 3 rfl (by rw [← ex22]; rfl) (by decide) rfl 117 rfl ?_
              refine mm_goto C dX12_longs_117 85 (by decide) ?_
              refine mm_lv [2, 1, 3, 0] rfl ?_
              exact ih _ _ h
        refine mj1 h (fun (y23 : Int32) => mm_AW z k 8 (some (.int r)) F F 120 [(0, .ref (mmad k 97)), (5, .int y23), (6, .int v13)] []) ?_ ?_
        · intro y23 h
          obtain ⟨x24, ex24, h⟩ := me h
          refine mm_iinc (v := x24) (lv2 := [(6, .int x24), (0, .ref (mmad k 97)), (5, .int y23)]) C dX12_longs_120 2 rfl (by rw [← ex24]; rfl) (by decide) rfl 123 rfl ?_
          refine mm_goto C dX12_longs_123 73 (by decide) ?_
          refine mm_lv [1, 2, 0] rfl ?_
          exact ih _ _ h
        · intro K2 hR h
          exact hL85 K2 hR 300 _ _ h
  refine mj1 h (fun (y25 : Int32) => mm_AW z k 8 (some (.int r)) F F 126 [(5, .int y25)] []) ?_ ?_
  · intro y25 h
    refine mm_iload C dX12_longs_126 0 rfl 128 rfl ?_
    exact mm_iretP C (h) dX12_longs_128
  · intro K2 hR h
    exact hL73 K2 hR 300 _ _ h
def m_X12_longing_97 (F : mmS) (a1 : Int32) : Option (Int32 × mmS) :=
  Option.bind (m_X12_in a1 (0 : Int32) (40 : Int32)) fun x1 => if x1 = (0 : Int32) then (some ((-2 : Int32), F)) else (bd2 (m_X12_reads_97 F) fun x2 G3 => if x2 = (0 : Int32) then (some ((-11 : Int32), G3)) else (Option.bind (m_X12_plans_97 G3) fun G4 => Option.bind (m_X12_runs_97 G4 (1 : Int32) a1) fun G5 => Option.bind (m_X12_first_97 G5 a1) fun x6 => Option.bind (m_X12_standingAt_97 G5 x6) fun x7 => Option.bind (m_X12_longs_97 G5 x7) fun x8 => some (x8, G5)))
set_option maxHeartbeats 4000000 in
set_option maxRecDepth 100000 in
theorem c_X12_longing_97 {l : Launch} {k : mmK} {F : mmS} {a1 : Int32} {r : Int32} {F1 : mmS} (h : m_X12_longing_97 F a1 = some (r, F1)) : mm_T l k yX12_longing cX12_longing 2 (some .int) 6 [.ref (mmad k 97), .int a1] F (some (.int r)) F1 := by
  refine mm_start [(0, .ref (mmad k 97)), (1, .int a1)] (by decide) (Nat.le_of_ble_eq_true rfl) rfl ?_
  intro z hz C
  subst hz
  have C : mm_C z k RX12 cX12_longing 2 (some .int) 6 := C
  replace h := mk0 h
  unfold m_X12_longing_97 at h
  refine mm_iload_n C dX12_longing_0 rfl 1 rfl 1 rfl ?_
  refine mm_iconst (v := (0 : Int32)) C dX12_longing_1 (by decide) 2 rfl ?_
  refine mm_bipush (v := (40 : Int32)) C dX12_longing_2 (by decide) 4 rfl ?_
  obtain ⟨x1, ex1, h⟩ := mb h
  refine mm_callS [.int a1, .int (0 : Int32), .int (40 : Int32)] C (c_X12_in ex1) wb_X12_in ws_X12_69 rfl (by omega) rfl (Nat.le_of_ble_eq_true rfl) dX12_longing_4 7 rfl ?_
  show mm_AW z k 2 (some (.int r)) F1 F 7 [(0, .ref (mmad k 97)), (1, .int a1)] [.int x1]
  refine mm_if_ne C dX12_longing_7 13 10 (by decide) rfl (fun hc => ?_) (fun hc => ?_)
  · rw [if_neg hc] at h
    refine mm_aload_n C dX12_longing_13 rfl 0 rfl 14 rfl ?_
    obtain ⟨x2, G3, ex2, h⟩ := mb2 h
    refine mm_callV [] C (c_X12_reads_97 ex2) wb_X12_reads wv_X12_83 (by decide) (mc_97 k _) rfl rfl rfl (by omega) rfl (Nat.le_of_ble_eq_true rfl) dX12_longing_14 17 rfl ?_
    show mm_AW z k 2 (some (.int r)) F1 G3 17 [(0, .ref (mmad k 97)), (1, .int a1)] [.int x2]
    refine mm_if_ne C dX12_longing_17 23 20 (by decide) rfl (fun hc => ?_) (fun hc => ?_)
    · rw [if_neg hc] at h
      refine mm_aload_n C dX12_longing_23 rfl 0 rfl 24 rfl ?_
      obtain ⟨G4, eG4, h⟩ := mb h
      refine mm_callV [] C (c_X12_plans_97 eG4) wb_X12_plans wv_X12_109 (by decide) (mc_97 k _) rfl rfl rfl (by omega) rfl (Nat.le_of_ble_eq_true rfl) dX12_longing_24 27 rfl ?_
      show mm_AW z k 2 (some (.int r)) F1 G4 27 [(0, .ref (mmad k 97)), (1, .int a1)] []
      refine mm_aload_n C dX12_longing_27 rfl 0 rfl 28 rfl ?_
      refine mm_iconst (v := (1 : Int32)) C dX12_longing_28 (by decide) 29 rfl ?_
      refine mm_iload_n C dX12_longing_29 rfl 1 rfl 30 rfl ?_
      obtain ⟨G5, eG5, h⟩ := mb h
      refine mm_callV [.int (1 : Int32), .int a1] C (c_X12_runs_97 eG5) wb_X12_runs wv_X12_177 (by decide) (mc_97 k _) rfl rfl rfl (by omega) rfl (Nat.le_of_ble_eq_true rfl) dX12_longing_30 33 rfl ?_
      show mm_AW z k 2 (some (.int r)) F1 G5 33 [(0, .ref (mmad k 97)), (1, .int a1)] []
      refine mm_aload_n C dX12_longing_33 rfl 0 rfl 34 rfl ?_
      refine mm_aload_n C dX12_longing_34 rfl 0 rfl 35 rfl ?_
      refine mm_aload_n C dX12_longing_35 rfl 0 rfl 36 rfl ?_
      refine mm_iload_n C dX12_longing_36 rfl 1 rfl 37 rfl ?_
      obtain ⟨x6, ex6, h⟩ := mb h
      refine mm_callV [.int a1] C (c_X12_first_97 ex6) wb_X12_first wv_X12_158 (by decide) (mc_97 k _) rfl rfl rfl (by omega) rfl (Nat.le_of_ble_eq_true rfl) dX12_longing_37 40 rfl ?_
      show mm_AW z k 2 (some (.int r)) F1 G5 40 [(0, .ref (mmad k 97)), (1, .int a1)] [.int x6, .ref (mmad k 97), .ref (mmad k 97)]
      obtain ⟨x7, ex7, h⟩ := mb h
      refine mm_callV [.int x6] C (c_X12_standingAt_97 ex7) wb_X12_standingAt wv_X12_195 (by decide) (mc_97 k _) rfl rfl rfl (by omega) rfl (Nat.le_of_ble_eq_true rfl) dX12_longing_40 43 rfl ?_
      show mm_AW z k 2 (some (.int r)) F1 G5 43 [(0, .ref (mmad k 97)), (1, .int a1)] [.int x7, .ref (mmad k 97)]
      obtain ⟨x8, ex8, h⟩ := mb h
      refine mm_callV [.int x7] C (c_X12_longs_97 ex8) wb_X12_longs wv_X12_198 (by decide) (mc_97 k _) rfl rfl rfl (by omega) rfl (Nat.le_of_ble_eq_true rfl) dX12_longing_43 46 rfl ?_
      show mm_AW z k 2 (some (.int r)) F1 G5 46 [(0, .ref (mmad k 97)), (1, .int a1)] [.int x8]
      exact mm_iretW C (h) dX12_longing_46
    · rw [if_pos hc] at h
      refine mm_bipush (v := (-11 : Int32)) C dX12_longing_20 (by decide) 22 rfl ?_
      exact mm_iretW C (h) dX12_longing_22
  · rw [if_pos hc] at h
    refine mm_bipush (v := (-2 : Int32)) C dX12_longing_10 (by decide) 12 rfl ?_
    exact mm_iretW C (h) dX12_longing_12
def m_X12_paysNot_97_L21 : Nat → Int32 → Int32 → Int32 → mmS → Option ((Int32 × mmS) ⊕ (mmS))
  | 0, _, _, _, _ => none
  | n9 + 1, v5, v6, v7, G8 => if (G8 97 5) ≤ v7 then (some (.inr (G8))) else (mlet (G8 97 11) fun x10 => Option.bind (m_X12_goesOn_97 G8 (1 : Int32) v7) fun G11 => Option.bind (ald G11 102 v7) fun x12 => Option.bind (ald G11 100 v7) fun x13 => Option.bind (m_X12_wayTo_97 G11 v5 x12 x13) fun x14 => Option.bind (ald G11 102 v7) fun x15 => Option.bind (ald G11 100 v7) fun x16 => Option.bind (m_X12_with_97 v5 x15 x16) fun x17 => Option.bind (m_X12_longs_97 G11 x17) fun x18 => if ((((G11 97 11) - x10) + x18) - v6) ≤ ((G11 97 2) * x14) then (mlet (v7 + (1 : Int32)) fun x19 => m_X12_paysNot_97_L21 n9 x17 x18 x19 G11) else (some (.inl (v7, G11))))
def m_X12_paysNot_97 (F : mmS)  : Option (Int32 × mmS) :=
  Option.bind (m_X12_plans_97 F) fun G1 => Option.bind (m_X12_starts_97 G1) fun G2 => Option.bind (m_X12_begin_97 G2) fun x3 => Option.bind (m_X12_longs_97 G2 x3) fun x4 => bdE1 (m_X12_paysNot_97_L21 300 x3 x4 (0 : Int32) G2) fun G20 => some ((-1 : Int32), G20)
set_option maxHeartbeats 4000000 in
set_option maxRecDepth 100000 in
theorem c_X12_paysNot_97 {l : Launch} {k : mmK} {F : mmS}  {r : Int32} {F1 : mmS} (h : m_X12_paysNot_97 F = some (r, F1)) : mm_T l k yX12_paysNot cX12_paysNot 7 (some .int) 5 [.ref (mmad k 97)] F (some (.int r)) F1 := by
  refine mm_start [(0, .ref (mmad k 97))] (by decide) (Nat.le_of_ble_eq_true rfl) rfl ?_
  intro z hz C
  subst hz
  have C : mm_C z k RX12 cX12_paysNot 7 (some .int) 5 := C
  replace h := mk0 h
  unfold m_X12_paysNot_97 at h
  refine mm_aload_n C dX12_paysNot_0 rfl 0 rfl 1 rfl ?_
  obtain ⟨G1, eG1, h⟩ := mb h
  refine mm_callV [] C (c_X12_plans_97 eG1) wb_X12_plans wv_X12_109 (by decide) (mc_97 k _) rfl rfl rfl (by omega) rfl (Nat.le_of_ble_eq_true rfl) dX12_paysNot_1 4 rfl ?_
  show mm_AW z k 7 (some (.int r)) F1 G1 4 [(0, .ref (mmad k 97))] []
  refine mm_aload_n C dX12_paysNot_4 rfl 0 rfl 5 rfl ?_
  obtain ⟨G2, eG2, h⟩ := mb h
  refine mm_callV [] C (c_X12_starts_97 eG2) wb_X12_starts wv_X12_153 (by decide) (mc_97 k _) rfl rfl rfl (by omega) rfl (Nat.le_of_ble_eq_true rfl) dX12_paysNot_5 8 rfl ?_
  show mm_AW z k 7 (some (.int r)) F1 G2 8 [(0, .ref (mmad k 97))] []
  refine mm_aload_n C dX12_paysNot_8 rfl 0 rfl 9 rfl ?_
  obtain ⟨x3, ex3, h⟩ := mb h
  refine mm_callV [] C (c_X12_begin_97 ex3) wb_X12_begin wv_X12_105 (by decide) (mc_97 k _) rfl rfl rfl (by omega) rfl (Nat.le_of_ble_eq_true rfl) dX12_paysNot_9 12 rfl ?_
  show mm_AW z k 7 (some (.int r)) F1 G2 12 [(0, .ref (mmad k 97))] [.int x3]
  refine mm_istore_n (lv2 := [(1, .int x3), (0, .ref (mmad k 97))]) C dX12_paysNot_12 rfl (by decide) rfl 13 rfl ?_
  refine mm_aload_n C dX12_paysNot_13 rfl 1 rfl 14 rfl ?_
  refine mm_iload_n C dX12_paysNot_14 rfl 0 rfl 15 rfl ?_
  obtain ⟨x4, ex4, h⟩ := mb h
  refine mm_callV [.int x3] C (c_X12_longs_97 ex4) wb_X12_longs wv_X12_198 (by decide) (mc_97 k _) rfl rfl rfl (by omega) rfl (Nat.le_of_ble_eq_true rfl) dX12_paysNot_15 18 rfl ?_
  show mm_AW z k 7 (some (.int r)) F1 G2 18 [(1, .int x3), (0, .ref (mmad k 97))] [.int x4]
  refine mm_istore_n (lv2 := [(2, .int x4), (1, .int x3), (0, .ref (mmad k 97))]) C dX12_paysNot_18 rfl (by decide) rfl 19 rfl ?_
  refine mm_iconst (v := (0 : Int32)) C dX12_paysNot_19 (by decide) 20 rfl ?_
  refine mm_istore_n (lv2 := [(3, .int (0 : Int32)), (2, .int x4), (1, .int x3), (0, .ref (mmad k 97))]) C dX12_paysNot_20 rfl (by decide) rfl 21 rfl ?_
  refine mm_lv [3, 2, 1, 0] rfl ?_
  have hL21 : ∀ (K : ((Int32 × mmS) ⊕ (mmS)) → Option (Int32 × mmS)) (hK : ∀ (G8 : mmS) , K (.inr (G8)) = some (r, F1) → mm_AW z k 7 (some (.int r)) F1 G8 118 [] []) (hE : ∀ q : Int32 × mmS, K (.inl q) = some (r, F1) → q = (r, F1)) (n9 : Nat) (v5 : Int32) (v6 : Int32) (v7 : Int32) (G8 : mmS) , (m_X12_paysNot_97_L21 n9 v5 v6 v7 G8).bind K = some (r, F1) → mm_AW z k 7 (some (.int r)) F1 G8 21 [(0, .ref (mmad k 97)), (1, .int v5), (2, .int v6), (3, .int v7)] [] := by
    intro K hK hE n9
    induction n9 with
    | zero => intro v5 v6 v7 G8 h; rw [m_X12_paysNot_97_L21] at h; cases h
    | succ n9 ih =>
      intro v5 v6 v7 G8 h
      rw [m_X12_paysNot_97_L21] at h
      refine mm_iload_n C dX12_paysNot_21 rfl 3 rfl 22 rfl ?_
      refine mm_aload_n C dX12_paysNot_22 rfl 0 rfl 23 rfl ?_
      refine mm_get C fl_X12_77_X12 (by decide) (mc_97 k _) rfl dX12_paysNot_23 26 rfl ?_
      refine mm_icmp_ge C dX12_paysNot_26 118 29 (by decide) rfl (fun hc => ?_) (fun hc => ?_)
      · rw [if_pos hc] at h
        refine mm_lv [] rfl ?_
        exact hK _ h
      · rw [if_neg hc] at h
        refine mm_aload_n C dX12_paysNot_29 rfl 0 rfl 30 rfl ?_
        refine mm_get C fl_X12_115_X12 (by decide) (mc_97 k _) rfl dX12_paysNot_30 33 rfl ?_
        obtain ⟨x10, ex10, h⟩ := me h
        refine mm_top ex10 ?_
        refine mm_istore (lv2 := [(4, .int x10), (0, .ref (mmad k 97)), (1, .int v5), (2, .int v6), (3, .int v7)]) C dX12_paysNot_33 (by decide) rfl 35 rfl ?_
        refine mm_aload_n C dX12_paysNot_35 rfl 1 rfl 36 rfl ?_
        refine mm_iconst (v := (1 : Int32)) C dX12_paysNot_36 (by decide) 37 rfl ?_
        refine mm_iload_n C dX12_paysNot_37 rfl 4 rfl 38 rfl ?_
        obtain ⟨G11, eG11, h⟩ := mb h
        refine mm_callV [.int (1 : Int32), .int v7] C (c_X12_goesOn_97 eG11) wb_X12_goesOn wv_X12_161 (by decide) (mc_97 k _) rfl rfl rfl (by omega) rfl (Nat.le_of_ble_eq_true rfl) dX12_paysNot_38 41 rfl ?_
        show mm_AW z k 7 (some (.int r)) F1 G11 41 [(4, .int x10), (0, .ref (mmad k 97)), (1, .int v5), (2, .int v6), (3, .int v7)] []
        refine mm_aload_n C dX12_paysNot_41 rfl 1 rfl 42 rfl ?_
        refine mm_iload_n C dX12_paysNot_42 rfl 2 rfl 43 rfl ?_
        refine mm_aload_n C dX12_paysNot_43 rfl 1 rfl 44 rfl ?_
        refine mm_get C fl_X12_32_X12 (by decide) (mc_97 k _) rfl dX12_paysNot_44 47 rfl ?_
        refine mm_iload_n C dX12_paysNot_47 rfl 4 rfl 48 rfl ?_
        obtain ⟨x12, ex12, h⟩ := mb h
        refine mm_iald C ex12 dX12_paysNot_48 49 rfl ?_
        refine mm_aload_n C dX12_paysNot_49 rfl 1 rfl 50 rfl ?_
        refine mm_get C fl_X12_26_X12 (by decide) (mc_97 k _) rfl dX12_paysNot_50 53 rfl ?_
        refine mm_iload_n C dX12_paysNot_53 rfl 4 rfl 54 rfl ?_
        obtain ⟨x13, ex13, h⟩ := mb h
        refine mm_iald C ex13 dX12_paysNot_54 55 rfl ?_
        obtain ⟨x14, ex14, h⟩ := mb h
        refine mm_callV [.int v5, .int x12, .int x13] C (c_X12_wayTo_97 ex14) wb_X12_wayTo wv_X12_102 (by decide) (mc_97 k _) rfl rfl rfl (by omega) rfl (Nat.le_of_ble_eq_true rfl) dX12_paysNot_55 58 rfl ?_
        show mm_AW z k 7 (some (.int r)) F1 G11 58 [(4, .int x10), (0, .ref (mmad k 97)), (1, .int v5), (2, .int v6), (3, .int v7)] [.int x14]
        refine mm_istore (lv2 := [(5, .int x14), (4, .int x10), (0, .ref (mmad k 97)), (1, .int v5), (2, .int v6), (3, .int v7)]) C dX12_paysNot_58 (by decide) rfl 60 rfl ?_
        refine mm_aload_n C dX12_paysNot_60 rfl 2 rfl 61 rfl ?_
        refine mm_iload_n C dX12_paysNot_61 rfl 3 rfl 62 rfl ?_
        refine mm_aload_n C dX12_paysNot_62 rfl 2 rfl 63 rfl ?_
        refine mm_get C fl_X12_32_X12 (by decide) (mc_97 k _) rfl dX12_paysNot_63 66 rfl ?_
        refine mm_iload_n C dX12_paysNot_66 rfl 5 rfl 67 rfl ?_
        obtain ⟨x15, ex15, h⟩ := mb h
        refine mm_iald C ex15 dX12_paysNot_67 68 rfl ?_
        refine mm_aload_n C dX12_paysNot_68 rfl 2 rfl 69 rfl ?_
        refine mm_get C fl_X12_26_X12 (by decide) (mc_97 k _) rfl dX12_paysNot_69 72 rfl ?_
        refine mm_iload_n C dX12_paysNot_72 rfl 5 rfl 73 rfl ?_
        obtain ⟨x16, ex16, h⟩ := mb h
        refine mm_iald C ex16 dX12_paysNot_73 74 rfl ?_
        obtain ⟨x17, ex17, h⟩ := mb h
        refine mm_callV [.int v5, .int x15, .int x16] C (c_X12_with_97 ex17) wb_X12_with wv_X12_91 (by decide) (mc_97 k _) rfl rfl rfl (by omega) rfl (Nat.le_of_ble_eq_true rfl) dX12_paysNot_74 77 rfl ?_
        show mm_AW z k 7 (some (.int r)) F1 G11 77 [(5, .int x14), (4, .int x10), (0, .ref (mmad k 97)), (1, .int v5), (2, .int v6), (3, .int v7)] [.int x17]
        refine mm_istore_n (lv2 := [(1, .int x17), (5, .int x14), (4, .int x10), (0, .ref (mmad k 97)), (2, .int v6), (3, .int v7)]) C dX12_paysNot_77 rfl (by decide) rfl 78 rfl ?_
        refine mm_aload_n C dX12_paysNot_78 rfl 3 rfl 79 rfl ?_
        refine mm_iload_n C dX12_paysNot_79 rfl 0 rfl 80 rfl ?_
        obtain ⟨x18, ex18, h⟩ := mb h
        refine mm_callV [.int x17] C (c_X12_longs_97 ex18) wb_X12_longs wv_X12_198 (by decide) (mc_97 k _) rfl rfl rfl (by omega) rfl (Nat.le_of_ble_eq_true rfl) dX12_paysNot_80 83 rfl ?_
        show mm_AW z k 7 (some (.int r)) F1 G11 83 [(1, .int x17), (5, .int x14), (4, .int x10), (0, .ref (mmad k 97)), (2, .int v6), (3, .int v7)] [.int x18]
        refine mm_istore (lv2 := [(6, .int x18), (1, .int x17), (5, .int x14), (4, .int x10), (0, .ref (mmad k 97)), (2, .int v6), (3, .int v7)]) C dX12_paysNot_83 (by decide) rfl 85 rfl ?_
        refine mm_aload_n C dX12_paysNot_85 rfl 4 rfl 86 rfl ?_
        refine mm_get C fl_X12_115_X12 (by decide) (mc_97 k _) rfl dX12_paysNot_86 89 rfl ?_
        refine mm_iload C dX12_paysNot_89 3 rfl 91 rfl ?_
        refine mm_isub C dX12_paysNot_91 92 rfl ?_
        refine mm_iload C dX12_paysNot_92 0 rfl 94 rfl ?_
        refine mm_iadd C dX12_paysNot_94 95 rfl ?_
        refine mm_iload_n C dX12_paysNot_95 rfl 5 rfl 96 rfl ?_
        refine mm_isub C dX12_paysNot_96 97 rfl ?_
        refine mm_aload_n C dX12_paysNot_97 rfl 4 rfl 98 rfl ?_
        refine mm_get C fl_X12_17_X12 (by decide) (mc_97 k _) rfl dX12_paysNot_98 101 rfl ?_
        refine mm_iload C dX12_paysNot_101 2 rfl 103 rfl ?_
        refine mm_imul C dX12_paysNot_103 104 rfl ?_
        refine mm_icmp_le C dX12_paysNot_104 109 107 (by decide) rfl (fun hc => ?_) (fun hc => ?_)
        · rw [if_pos hc] at h
          refine mm_iload C dX12_paysNot_109 0 rfl 111 rfl ?_
          refine mm_istore_n (lv2 := [(2, .int x18), (6, .int x18), (1, .int x17), (5, .int x14), (4, .int x10), (0, .ref (mmad k 97)), (3, .int v7)]) C dX12_paysNot_111 rfl (by decide) rfl 112 rfl ?_
          obtain ⟨x19, ex19, h⟩ := me h
          refine mm_iinc (v := x19) (lv2 := [(3, .int x19), (2, .int x18), (6, .int x18), (1, .int x17), (5, .int x14), (4, .int x10), (0, .ref (mmad k 97))]) C dX12_paysNot_112 6 rfl (by rw [← ex19]; rfl) (by decide) rfl 115 rfl ?_
          refine mm_goto C dX12_paysNot_115 21 (by decide) ?_
          refine mm_lv [6, 3, 1, 0] rfl ?_
          exact ih _ _ _ _ h
        · rw [if_neg hc] at h
          refine mm_iload_n C dX12_paysNot_107 rfl 6 rfl 108 rfl ?_
          exact mm_iretW C (congrArg some (hE _ h)) dX12_paysNot_108
  refine mjE1 h (fun (G20 : mmS) => mm_AW z k 7 (some (.int r)) F1 G20 118 [] []) ?_ ?_
  · intro G20 h
    refine mm_iconst (v := (-1 : Int32)) C dX12_paysNot_118 (by decide) 119 rfl ?_
    exact mm_iretW C (h) dX12_paysNot_119
  · intro K2 hR hE h
    exact hL21 K2 hR hE 300 _ _ _ _ h
def m_X12_pays_97 (F : mmS)  : Option (Int32 × mmS) :=
  bd2 (m_X12_reads_97 F) fun x1 G2 => if x1 = (0 : Int32) then (some ((-11 : Int32), G2)) else (bd2 (m_X12_paysNot_97 G2) fun x3 G4 => some (x3, G4))
set_option maxHeartbeats 4000000 in
set_option maxRecDepth 100000 in
theorem c_X12_pays_97 {l : Launch} {k : mmK} {F : mmS}  {r : Int32} {F1 : mmS} (h : m_X12_pays_97 F = some (r, F1)) : mm_T l k yX12_pays cX12_pays 1 (some .int) 6 [.ref (mmad k 97)] F (some (.int r)) F1 := by
  refine mm_start [(0, .ref (mmad k 97))] (by decide) (Nat.le_of_ble_eq_true rfl) rfl ?_
  intro z hz C
  subst hz
  have C : mm_C z k RX12 cX12_pays 1 (some .int) 6 := C
  replace h := mk0 h
  unfold m_X12_pays_97 at h
  refine mm_aload_n C dX12_pays_0 rfl 0 rfl 1 rfl ?_
  obtain ⟨x1, G2, ex1, h⟩ := mb2 h
  refine mm_callV [] C (c_X12_reads_97 ex1) wb_X12_reads wv_X12_83 (by decide) (mc_97 k _) rfl rfl rfl (by omega) rfl (Nat.le_of_ble_eq_true rfl) dX12_pays_1 4 rfl ?_
  show mm_AW z k 1 (some (.int r)) F1 G2 4 [(0, .ref (mmad k 97))] [.int x1]
  refine mm_if_eq C dX12_pays_4 14 7 (by decide) rfl (fun hc => ?_) (fun hc => ?_)
  · rw [if_pos hc] at h
    refine mm_bipush (v := (-11 : Int32)) C dX12_pays_14 (by decide) 16 rfl ?_
    exact mm_iretW C (h) dX12_pays_16
  · rw [if_neg hc] at h
    refine mm_aload_n C dX12_pays_7 rfl 0 rfl 8 rfl ?_
    obtain ⟨x3, G4, ex3, h⟩ := mb2 h
    refine mm_callV [] C (c_X12_paysNot_97 ex3) wb_X12_paysNot wv_X12_201 (by decide) (mc_97 k _) rfl rfl rfl (by omega) rfl (Nat.le_of_ble_eq_true rfl) dX12_pays_8 11 rfl ?_
    show mm_AW z k 1 (some (.int r)) F1 G4 11 [(0, .ref (mmad k 97))] [.int x3]
    refine mm_goto C dX12_pays_11 16 (by decide) ?_
    exact mm_iretW C (h) dX12_pays_16
def m_X12_isSheet (a0 : Int32) : Option (Int32) :=
  Option.bind (m_X12_in a0 (0 : Int32) (3 : Int32)) fun x1 => Option.bind (zg x1) fun x2 => some (x2)
set_option maxHeartbeats 4000000 in
set_option maxRecDepth 100000 in
theorem c_X12_isSheet {l : Launch} {k : mmK} {F : mmS} {a0 : Int32} {r : Int32} (h : m_X12_isSheet a0 = some r) : mm_T l k yX12_isSheet cX12_isSheet 1 (some .boolean) 1 [.int a0] F (some (.int r)) F := by
  refine mm_start [(0, .int a0)] (by decide) (Nat.le_of_ble_eq_true rfl) rfl ?_
  intro z hz C
  subst hz
  have C : mm_C z k RX12 cX12_isSheet 1 (some .boolean) 1 := C
  replace h := mk0 h
  unfold m_X12_isSheet at h
  refine mm_iload_n C dX12_isSheet_0 rfl 0 rfl 1 rfl ?_
  refine mm_iconst (v := (0 : Int32)) C dX12_isSheet_1 (by decide) 2 rfl ?_
  refine mm_iconst (v := (3 : Int32)) C dX12_isSheet_2 (by decide) 3 rfl ?_
  obtain ⟨x1, ex1, h⟩ := mb h
  refine mm_callS [.int a0, .int (0 : Int32), .int (3 : Int32)] C (c_X12_in ex1) wb_X12_in ws_X12_69 rfl (by omega) rfl (Nat.le_of_ble_eq_true rfl) dX12_isSheet_3 6 rfl ?_
  show mm_AW z k 1 (some (.int r)) F F 6 [(0, .int a0)] [.int x1]
  obtain ⟨x2, ex2, h⟩ := mb h
  exact mm_zretP C ex2 (h) dX12_isSheet_6
def m_X12_meets_97 (F : mmS) (a1 : Int32) : Option (Int32 × mmS) :=
  mlet (stF F 97 28 a1) fun G1 => some (((-10 : Int32) - a1), G1)
set_option maxHeartbeats 4000000 in
set_option maxRecDepth 100000 in
theorem c_X12_meets_97 {l : Launch} {k : mmK} {F : mmS} {a1 : Int32} {r : Int32} {F1 : mmS} (h : m_X12_meets_97 F a1 = some (r, F1)) : mm_T l k yX12_meets cX12_meets 2 (some .int) 0 [.ref (mmad k 97), .int a1] F (some (.int r)) F1 := by
  refine mm_start [(0, .ref (mmad k 97)), (1, .int a1)] (by decide) (Nat.le_of_ble_eq_true rfl) rfl ?_
  intro z hz C
  subst hz
  have C : mm_C z k RX12 cX12_meets 2 (some .int) 0 := C
  replace h := mk0 h
  unfold m_X12_meets_97 at h
  refine mm_aload_n C dX12_meets_0 rfl 0 rfl 1 rfl ?_
  refine mm_iload_n C dX12_meets_1 rfl 1 rfl 2 rfl ?_
  obtain ⟨G1, eG1, h⟩ := me h
  refine mm_put (x := a1) (ty := .int) C fl_X12_80_X12 (by decide) (mc_97 k _) (mc_97 k _) tyX12 tyX12_ok nmX12 rfl (by decide +kernel) rfl rfl (Nat.le_of_ble_eq_true rfl) eG1 dX12_meets_2 5 rfl ?_
  refine mm_bipush (v := (-10 : Int32)) C dX12_meets_5 (by decide) 7 rfl ?_
  refine mm_iload_n C dX12_meets_7 rfl 1 rfl 8 rfl ?_
  refine mm_isub C dX12_meets_8 9 rfl ?_
  exact mm_iretW C (h) dX12_meets_9
def m_X12_sheet_97_L59 (a1 : Int32) : Nat → Int32 → mmS → Option (mmS)
  | 0, _, _ => none
  | n8 + 1, v6, G7 => if (40 : Int32) ≤ v6 then (some ((G7))) else (Option.bind (ast G7 112 (((40 : Int32) * a1) + v6) (0 : Int32)) fun G9 => mlet (v6 + (1 : Int32)) fun x10 => m_X12_sheet_97_L59 a1 n8 x10 G9)
def m_X12_sheet_97 (F : mmS) (a1 : Int32) (a2 : Int32) (a3 : Int32) : Option (Int32 × mmS) :=
  Option.bind (m_X12_isSheet a1) fun x1 => if x1 = (0 : Int32) then (some ((-2 : Int32), F)) else (Option.bind (m_X12_in a2 (0 : Int32) (2 : Int32)) fun x2 => if x2 = (0 : Int32) then (some ((-2 : Int32), F)) else (if a3 ≤ (40 : Int32) then (if (0 : Int32) ≤ a3 then (Option.bind (zst F a1 (1 : Int32)) fun G3 => Option.bind (ast G3 110 a1 a2) fun G4 => Option.bind (ast G4 111 a1 a3) fun G5 => bd1 (m_X12_sheet_97_L59 a1 300 (0 : Int32) G5) fun G11 => some (a3, G11)) else (bd2 (m_X12_meets_97 F (5 : Int32)) fun x12 G13 => some (x12, G13))) else (some ((-2 : Int32), F))))
set_option maxHeartbeats 4000000 in
set_option maxRecDepth 100000 in
theorem c_X12_sheet_97 {l : Launch} {k : mmK} {F : mmS} {a1 : Int32} {a2 : Int32} {a3 : Int32} {r : Int32} {F1 : mmS} (h : m_X12_sheet_97 F a1 a2 a3 = some (r, F1)) : mm_T l k yX12_sheet cX12_sheet 5 (some .int) 2 [.ref (mmad k 97), .int a1, .int a2, .int a3] F (some (.int r)) F1 := by
  refine mm_start [(0, .ref (mmad k 97)), (1, .int a1), (2, .int a2), (3, .int a3)] (by decide) (Nat.le_of_ble_eq_true rfl) rfl ?_
  intro z hz C
  subst hz
  have C : mm_C z k RX12 cX12_sheet 5 (some .int) 2 := C
  replace h := mk0 h
  unfold m_X12_sheet_97 at h
  refine mm_iload_n C dX12_sheet_0 rfl 1 rfl 1 rfl ?_
  obtain ⟨x1, ex1, h⟩ := mb h
  refine mm_callS [.int a1] C (c_X12_isSheet ex1) wb_X12_isSheet ws_X12_204 rfl (by omega) rfl (Nat.le_of_ble_eq_true rfl) dX12_sheet_1 4 rfl ?_
  show mm_AW z k 5 (some (.int r)) F1 F 4 [(0, .ref (mmad k 97)), (1, .int a1), (2, .int a2), (3, .int a3)] [.int x1]
  refine mm_if_eq C dX12_sheet_4 22 7 (by decide) rfl (fun hc => ?_) (fun hc => ?_)
  · rw [if_pos hc] at h
    refine mm_bipush (v := (-2 : Int32)) C dX12_sheet_22 (by decide) 24 rfl ?_
    exact mm_iretW C (h) dX12_sheet_24
  · rw [if_neg hc] at h
    refine mm_iload_n C dX12_sheet_7 rfl 2 rfl 8 rfl ?_
    refine mm_iconst (v := (0 : Int32)) C dX12_sheet_8 (by decide) 9 rfl ?_
    refine mm_iconst (v := (2 : Int32)) C dX12_sheet_9 (by decide) 10 rfl ?_
    obtain ⟨x2, ex2, h⟩ := mb h
    refine mm_callS [.int a2, .int (0 : Int32), .int (2 : Int32)] C (c_X12_in ex2) wb_X12_in ws_X12_69 rfl (by omega) rfl (Nat.le_of_ble_eq_true rfl) dX12_sheet_10 13 rfl ?_
    show mm_AW z k 5 (some (.int r)) F1 F 13 [(0, .ref (mmad k 97)), (1, .int a1), (2, .int a2), (3, .int a3)] [.int x2]
    refine mm_if_eq C dX12_sheet_13 22 16 (by decide) rfl (fun hc => ?_) (fun hc => ?_)
    · rw [if_pos hc] at h
      refine mm_bipush (v := (-2 : Int32)) C dX12_sheet_22 (by decide) 24 rfl ?_
      exact mm_iretW C (h) dX12_sheet_24
    · rw [if_neg hc] at h
      refine mm_iload_n C dX12_sheet_16 rfl 3 rfl 17 rfl ?_
      refine mm_bipush (v := (40 : Int32)) C dX12_sheet_17 (by decide) 19 rfl ?_
      refine mm_icmp_le C dX12_sheet_19 25 22 (by decide) rfl (fun hc => ?_) (fun hc => ?_)
      · rw [if_pos hc] at h
        refine mm_iload_n C dX12_sheet_25 rfl 3 rfl 26 rfl ?_
        refine mm_if_ge C dX12_sheet_26 35 29 (by decide) rfl (fun hc => ?_) (fun hc => ?_)
        · rw [if_pos hc] at h
          refine mm_aload_n C dX12_sheet_35 rfl 0 rfl 36 rfl ?_
          refine mm_get C fl_X12_53_X12 (by decide) (mc_97 k _) rfl dX12_sheet_36 39 rfl ?_
          refine mm_iload_n C dX12_sheet_39 rfl 1 rfl 40 rfl ?_
          refine mm_iconst (v := (1 : Int32)) C dX12_sheet_40 (by decide) 41 rfl ?_
          obtain ⟨G3, eG3, h⟩ := mb h
          refine mm_zast C eG3 dX12_sheet_41 42 rfl ?_
          refine mm_aload_n C dX12_sheet_42 rfl 0 rfl 43 rfl ?_
          refine mm_get C fl_X12_57_X12 (by decide) (mc_97 k _) rfl dX12_sheet_43 46 rfl ?_
          refine mm_iload_n C dX12_sheet_46 rfl 1 rfl 47 rfl ?_
          refine mm_iload_n C dX12_sheet_47 rfl 2 rfl 48 rfl ?_
          obtain ⟨G4, eG4, h⟩ := mb h
          refine mm_iast C eG4 dX12_sheet_48 49 rfl ?_
          refine mm_aload_n C dX12_sheet_49 rfl 0 rfl 50 rfl ?_
          refine mm_get C fl_X12_60_X12 (by decide) (mc_97 k _) rfl dX12_sheet_50 53 rfl ?_
          refine mm_iload_n C dX12_sheet_53 rfl 1 rfl 54 rfl ?_
          refine mm_iload_n C dX12_sheet_54 rfl 3 rfl 55 rfl ?_
          obtain ⟨G5, eG5, h⟩ := mb h
          refine mm_iast C eG5 dX12_sheet_55 56 rfl ?_
          refine mm_iconst (v := (0 : Int32)) C dX12_sheet_56 (by decide) 57 rfl ?_
          refine mm_istore (lv2 := [(4, .int (0 : Int32)), (0, .ref (mmad k 97)), (1, .int a1), (2, .int a2), (3, .int a3)]) C dX12_sheet_57 (by decide) rfl 59 rfl ?_
          refine mm_lv [1, 2, 4, 0] rfl ?_
          have hL59 : ∀ (K : (mmS) → Option (Int32 × mmS)) (hK : ∀ (G7 : mmS) , K (G7) = some (r, F1) → mm_AW z k 5 (some (.int r)) F1 G7 85 [(3, .int a3)] []) (n8 : Nat) (v6 : Int32) (G7 : mmS) , (m_X12_sheet_97_L59 a1 n8 v6 G7).bind K = some (r, F1) → mm_AW z k 5 (some (.int r)) F1 G7 59 [(0, .ref (mmad k 97)), (1, .int a1), (3, .int a3), (4, .int v6)] [] := by
            intro K hK n8
            induction n8 with
            | zero => intro v6 G7 h; rw [m_X12_sheet_97_L59] at h; cases h
            | succ n8 ih =>
              intro v6 G7 h
              rw [m_X12_sheet_97_L59] at h
              refine mm_iload C dX12_sheet_59 3 rfl 61 rfl ?_
              refine mm_bipush (v := (40 : Int32)) C dX12_sheet_61 (by decide) 63 rfl ?_
              refine mm_icmp_ge C dX12_sheet_63 85 66 (by decide) rfl (fun hc => ?_) (fun hc => ?_)
              · rw [if_pos hc] at h
                refine mm_lv [2] rfl ?_
                exact hK _ h
              · rw [if_neg hc] at h
                refine mm_aload_n C dX12_sheet_66 rfl 0 rfl 67 rfl ?_
                refine mm_get C fl_X12_63_X12 (by decide) (mc_97 k _) rfl dX12_sheet_67 70 rfl ?_
                refine mm_bipush (v := (40 : Int32)) C dX12_sheet_70 (by decide) 72 rfl ?_
                refine mm_iload_n C dX12_sheet_72 rfl 1 rfl 73 rfl ?_
                refine mm_imul C dX12_sheet_73 74 rfl ?_
                refine mm_iload C dX12_sheet_74 3 rfl 76 rfl ?_
                refine mm_iadd C dX12_sheet_76 77 rfl ?_
                refine mm_iconst (v := (0 : Int32)) C dX12_sheet_77 (by decide) 78 rfl ?_
                obtain ⟨G9, eG9, h⟩ := mb h
                refine mm_iast C eG9 dX12_sheet_78 79 rfl ?_
                obtain ⟨x10, ex10, h⟩ := me h
                refine mm_iinc (v := x10) (lv2 := [(4, .int x10), (0, .ref (mmad k 97)), (1, .int a1), (3, .int a3)]) C dX12_sheet_79 3 rfl (by rw [← ex10]; rfl) (by decide) rfl 82 rfl ?_
                refine mm_goto C dX12_sheet_82 59 (by decide) ?_
                refine mm_lv [1, 2, 3, 0] rfl ?_
                exact ih _ _ h
          refine mj1 h (fun (G11 : mmS) => mm_AW z k 5 (some (.int r)) F1 G11 85 [(3, .int a3)] []) ?_ ?_
          · intro G11 h
            refine mm_iload_n C dX12_sheet_85 rfl 0 rfl 86 rfl ?_
            exact mm_iretW C (h) dX12_sheet_86
          · intro K2 hR h
            exact hL59 K2 hR 300 _ _ h
        · rw [if_neg hc] at h
          refine mm_aload_n C dX12_sheet_29 rfl 0 rfl 30 rfl ?_
          refine mm_iconst (v := (5 : Int32)) C dX12_sheet_30 (by decide) 31 rfl ?_
          obtain ⟨x12, G13, ex12, h⟩ := mb2 h
          refine mm_callV [.int (5 : Int32)] C (c_X12_meets_97 ex12) wb_X12_meets wv_X12_207 (by decide) (mc_97 k _) rfl rfl rfl (by omega) rfl (Nat.le_of_ble_eq_true rfl) dX12_sheet_31 34 rfl ?_
          show mm_AW z k 5 (some (.int r)) F1 G13 34 [(0, .ref (mmad k 97)), (1, .int a1), (2, .int a2), (3, .int a3)] [.int x12]
          exact mm_iretW C (h) dX12_sheet_34
      · rw [if_neg hc] at h
        refine mm_bipush (v := (-2 : Int32)) C dX12_sheet_22 (by decide) 24 rfl ?_
        exact mm_iretW C (h) dX12_sheet_24
def m_X12_lose_97 (F : mmS) (a1 : Int32) : Option (Int32 × mmS) :=
  Option.bind (m_X12_isSheet a1) fun x1 => if x1 = (0 : Int32) then (some ((-2 : Int32), F)) else (Option.bind (zld F a1) fun x2 => if x2 = (0 : Int32) then (bd2 (m_X12_meets_97 F (1 : Int32)) fun x5 G6 => some (x5, G6)) else (Option.bind (zst F a1 (0 : Int32)) fun G3 => Option.bind (ald G3 111 a1) fun x4 => some (x4, G3)))
set_option maxHeartbeats 4000000 in
set_option maxRecDepth 100000 in
theorem c_X12_lose_97 {l : Launch} {k : mmK} {F : mmS} {a1 : Int32} {r : Int32} {F1 : mmS} (h : m_X12_lose_97 F a1 = some (r, F1)) : mm_T l k yX12_lose cX12_lose 2 (some .int) 2 [.ref (mmad k 97), .int a1] F (some (.int r)) F1 := by
  refine mm_start [(0, .ref (mmad k 97)), (1, .int a1)] (by decide) (Nat.le_of_ble_eq_true rfl) rfl ?_
  intro z hz C
  subst hz
  have C : mm_C z k RX12 cX12_lose 2 (some .int) 2 := C
  replace h := mk0 h
  unfold m_X12_lose_97 at h
  refine mm_iload_n C dX12_lose_0 rfl 1 rfl 1 rfl ?_
  obtain ⟨x1, ex1, h⟩ := mb h
  refine mm_callS [.int a1] C (c_X12_isSheet ex1) wb_X12_isSheet ws_X12_204 rfl (by omega) rfl (Nat.le_of_ble_eq_true rfl) dX12_lose_1 4 rfl ?_
  show mm_AW z k 2 (some (.int r)) F1 F 4 [(0, .ref (mmad k 97)), (1, .int a1)] [.int x1]
  refine mm_if_ne C dX12_lose_4 10 7 (by decide) rfl (fun hc => ?_) (fun hc => ?_)
  · rw [if_neg hc] at h
    refine mm_aload_n C dX12_lose_10 rfl 0 rfl 11 rfl ?_
    refine mm_get C fl_X12_53_X12 (by decide) (mc_97 k _) rfl dX12_lose_11 14 rfl ?_
    refine mm_iload_n C dX12_lose_14 rfl 1 rfl 15 rfl ?_
    obtain ⟨x2, ex2, h⟩ := mb h
    refine mm_zald C ex2 dX12_lose_15 16 rfl ?_
    refine mm_if_ne C dX12_lose_16 25 19 (by decide) rfl (fun hc => ?_) (fun hc => ?_)
    · rw [if_neg hc] at h
      refine mm_aload_n C dX12_lose_25 rfl 0 rfl 26 rfl ?_
      refine mm_get C fl_X12_53_X12 (by decide) (mc_97 k _) rfl dX12_lose_26 29 rfl ?_
      refine mm_iload_n C dX12_lose_29 rfl 1 rfl 30 rfl ?_
      refine mm_iconst (v := (0 : Int32)) C dX12_lose_30 (by decide) 31 rfl ?_
      obtain ⟨G3, eG3, h⟩ := mb h
      refine mm_zast C eG3 dX12_lose_31 32 rfl ?_
      refine mm_aload_n C dX12_lose_32 rfl 0 rfl 33 rfl ?_
      refine mm_get C fl_X12_60_X12 (by decide) (mc_97 k _) rfl dX12_lose_33 36 rfl ?_
      refine mm_iload_n C dX12_lose_36 rfl 1 rfl 37 rfl ?_
      obtain ⟨x4, ex4, h⟩ := mb h
      refine mm_iald C ex4 dX12_lose_37 38 rfl ?_
      exact mm_iretW C (h) dX12_lose_38
    · rw [if_pos hc] at h
      refine mm_aload_n C dX12_lose_19 rfl 0 rfl 20 rfl ?_
      refine mm_iconst (v := (1 : Int32)) C dX12_lose_20 (by decide) 21 rfl ?_
      obtain ⟨x5, G6, ex5, h⟩ := mb2 h
      refine mm_callV [.int (1 : Int32)] C (c_X12_meets_97 ex5) wb_X12_meets wv_X12_207 (by decide) (mc_97 k _) rfl rfl rfl (by omega) rfl (Nat.le_of_ble_eq_true rfl) dX12_lose_21 24 rfl ?_
      show mm_AW z k 2 (some (.int r)) F1 G6 24 [(0, .ref (mmad k 97)), (1, .int a1)] [.int x5]
      exact mm_iretW C (h) dX12_lose_24
  · rw [if_pos hc] at h
    refine mm_bipush (v := (-2 : Int32)) C dX12_lose_7 (by decide) 9 rfl ?_
    exact mm_iretW C (h) dX12_lose_9
def m_X12_lacks_97 (F : mmS) (a1 : Int32) (a2 : Int32) (a3 : Int32) : Option (Int32) :=
  Option.bind (zld F a1) fun x1 => if x1 = (0 : Int32) then (some (1 : Int32)) else (Option.bind (ald F 110 a1) fun x2 => if x2 = a2 then (Option.bind (ald F 111 a1) fun x3 => Option.bind (m_X12_in a3 (0 : Int32) (x3 - (1 : Int32))) fun x4 => if x4 = (0 : Int32) then (some (2 : Int32)) else (some (0 : Int32))) else (some (3 : Int32)))
set_option maxHeartbeats 4000000 in
set_option maxRecDepth 100000 in
theorem c_X12_lacks_97 {l : Launch} {k : mmK} {F : mmS} {a1 : Int32} {a2 : Int32} {a3 : Int32} {r : Int32} (h : m_X12_lacks_97 F a1 a2 a3 = some r) : mm_T l k yX12_lacks cX12_lacks 4 (some .int) 1 [.ref (mmad k 97), .int a1, .int a2, .int a3] F (some (.int r)) F := by
  refine mm_start [(0, .ref (mmad k 97)), (1, .int a1), (2, .int a2), (3, .int a3)] (by decide) (Nat.le_of_ble_eq_true rfl) rfl ?_
  intro z hz C
  subst hz
  have C : mm_C z k RX12 cX12_lacks 4 (some .int) 1 := C
  replace h := mk0 h
  unfold m_X12_lacks_97 at h
  refine mm_aload_n C dX12_lacks_0 rfl 0 rfl 1 rfl ?_
  refine mm_get C fl_X12_53_X12 (by decide) (mc_97 k _) rfl dX12_lacks_1 4 rfl ?_
  refine mm_iload_n C dX12_lacks_4 rfl 1 rfl 5 rfl ?_
  obtain ⟨x1, ex1, h⟩ := mb h
  refine mm_zald C ex1 dX12_lacks_5 6 rfl ?_
  refine mm_if_ne C dX12_lacks_6 13 9 (by decide) rfl (fun hc => ?_) (fun hc => ?_)
  · rw [if_neg hc] at h
    refine mm_aload_n C dX12_lacks_13 rfl 0 rfl 14 rfl ?_
    refine mm_get C fl_X12_57_X12 (by decide) (mc_97 k _) rfl dX12_lacks_14 17 rfl ?_
    refine mm_iload_n C dX12_lacks_17 rfl 1 rfl 18 rfl ?_
    obtain ⟨x2, ex2, h⟩ := mb h
    refine mm_iald C ex2 dX12_lacks_18 19 rfl ?_
    refine mm_iload_n C dX12_lacks_19 rfl 2 rfl 20 rfl ?_
    refine mm_icmp_eq C dX12_lacks_20 27 23 (by decide) rfl (fun hc => ?_) (fun hc => ?_)
    · rw [if_pos hc] at h
      refine mm_iload_n C dX12_lacks_27 rfl 3 rfl 28 rfl ?_
      refine mm_iconst (v := (0 : Int32)) C dX12_lacks_28 (by decide) 29 rfl ?_
      refine mm_aload_n C dX12_lacks_29 rfl 0 rfl 30 rfl ?_
      refine mm_get C fl_X12_60_X12 (by decide) (mc_97 k _) rfl dX12_lacks_30 33 rfl ?_
      refine mm_iload_n C dX12_lacks_33 rfl 1 rfl 34 rfl ?_
      obtain ⟨x3, ex3, h⟩ := mb h
      refine mm_iald C ex3 dX12_lacks_34 35 rfl ?_
      refine mm_iconst (v := (1 : Int32)) C dX12_lacks_35 (by decide) 36 rfl ?_
      refine mm_isub C dX12_lacks_36 37 rfl ?_
      obtain ⟨x4, ex4, h⟩ := mb h
      refine mm_callS [.int a3, .int (0 : Int32), .int (x3 - (1 : Int32))] C (c_X12_in ex4) wb_X12_in ws_X12_69 rfl (by omega) rfl (Nat.le_of_ble_eq_true rfl) dX12_lacks_37 40 rfl ?_
      show mm_AW z k 4 (some (.int r)) F F 40 [(0, .ref (mmad k 97)), (1, .int a1), (2, .int a2), (3, .int a3)] [.int x4]
      refine mm_if_eq C dX12_lacks_40 47 43 (by decide) rfl (fun hc => ?_) (fun hc => ?_)
      · rw [if_pos hc] at h
        refine mm_iconst (v := (2 : Int32)) C dX12_lacks_47 (by decide) 48 rfl ?_
        exact mm_iretP C (h) dX12_lacks_48
      · rw [if_neg hc] at h
        refine mm_iconst (v := (0 : Int32)) C dX12_lacks_43 (by decide) 44 rfl ?_
        refine mm_goto C dX12_lacks_44 48 (by decide) ?_
        exact mm_iretP C (h) dX12_lacks_48
    · rw [if_neg hc] at h
      refine mm_iconst (v := (3 : Int32)) C dX12_lacks_23 (by decide) 24 rfl ?_
      refine mm_goto C dX12_lacks_24 48 (by decide) ?_
      exact mm_iretP C (h) dX12_lacks_48
  · rw [if_pos hc] at h
    refine mm_iconst (v := (1 : Int32)) C dX12_lacks_9 (by decide) 10 rfl ?_
    refine mm_goto C dX12_lacks_10 48 (by decide) ?_
    exact mm_iretP C (h) dX12_lacks_48
def m_X12_put_97 (F : mmS) (a1 : Int32) (a2 : Int32) (a3 : Int32) (a4 : Int32) : Option (Int32 × mmS) :=
  Option.bind (m_X12_isSheet a1) fun x1 => if x1 = (0 : Int32) then (some ((-2 : Int32), F)) else (Option.bind (m_X12_in a2 (0 : Int32) (2 : Int32)) fun x2 => if x2 = (0 : Int32) then (some ((-2 : Int32), F)) else (Option.bind (m_X12_lacks_97 F a1 a2 a3) fun x3 => if x3 ≤ (0 : Int32) then (bd1 (if a2 = (0 : Int32) then (some (a4.toInt8.toInt32)) else (if a2 = (1 : Int32) then (some (a4.toInt16.toInt32)) else (some (a4)))) fun y4 => Option.bind (ast F 112 (((40 : Int32) * a1) + a3) y4) fun G5 => some ((1 : Int32), G5)) else (bd2 (m_X12_meets_97 F x3) fun x6 G7 => some (x6, G7))))
set_option maxHeartbeats 4000000 in
set_option maxRecDepth 100000 in
theorem c_X12_put_97 {l : Launch} {k : mmK} {F : mmS} {a1 : Int32} {a2 : Int32} {a3 : Int32} {a4 : Int32} {r : Int32} {F1 : mmS} (h : m_X12_put_97 F a1 a2 a3 a4 = some (r, F1)) : mm_T l k yX12_put cX12_put 6 (some .int) 2 [.ref (mmad k 97), .int a1, .int a2, .int a3, .int a4] F (some (.int r)) F1 := by
  refine mm_start [(0, .ref (mmad k 97)), (1, .int a1), (2, .int a2), (3, .int a3), (4, .int a4)] (by decide) (Nat.le_of_ble_eq_true rfl) rfl ?_
  intro z hz C
  subst hz
  have C : mm_C z k RX12 cX12_put 6 (some .int) 2 := C
  replace h := mk0 h
  unfold m_X12_put_97 at h
  refine mm_iload_n C dX12_put_0 rfl 1 rfl 1 rfl ?_
  obtain ⟨x1, ex1, h⟩ := mb h
  refine mm_callS [.int a1] C (c_X12_isSheet ex1) wb_X12_isSheet ws_X12_204 rfl (by omega) rfl (Nat.le_of_ble_eq_true rfl) dX12_put_1 4 rfl ?_
  show mm_AW z k 6 (some (.int r)) F1 F 4 [(0, .ref (mmad k 97)), (1, .int a1), (2, .int a2), (3, .int a3), (4, .int a4)] [.int x1]
  refine mm_if_eq C dX12_put_4 16 7 (by decide) rfl (fun hc => ?_) (fun hc => ?_)
  · rw [if_pos hc] at h
    refine mm_bipush (v := (-2 : Int32)) C dX12_put_16 (by decide) 18 rfl ?_
    exact mm_iretW C (h) dX12_put_18
  · rw [if_neg hc] at h
    refine mm_iload_n C dX12_put_7 rfl 2 rfl 8 rfl ?_
    refine mm_iconst (v := (0 : Int32)) C dX12_put_8 (by decide) 9 rfl ?_
    refine mm_iconst (v := (2 : Int32)) C dX12_put_9 (by decide) 10 rfl ?_
    obtain ⟨x2, ex2, h⟩ := mb h
    refine mm_callS [.int a2, .int (0 : Int32), .int (2 : Int32)] C (c_X12_in ex2) wb_X12_in ws_X12_69 rfl (by omega) rfl (Nat.le_of_ble_eq_true rfl) dX12_put_10 13 rfl ?_
    show mm_AW z k 6 (some (.int r)) F1 F 13 [(0, .ref (mmad k 97)), (1, .int a1), (2, .int a2), (3, .int a3), (4, .int a4)] [.int x2]
    refine mm_if_ne C dX12_put_13 19 16 (by decide) rfl (fun hc => ?_) (fun hc => ?_)
    · rw [if_neg hc] at h
      refine mm_aload_n C dX12_put_19 rfl 0 rfl 20 rfl ?_
      refine mm_iload_n C dX12_put_20 rfl 1 rfl 21 rfl ?_
      refine mm_iload_n C dX12_put_21 rfl 2 rfl 22 rfl ?_
      refine mm_iload_n C dX12_put_22 rfl 3 rfl 23 rfl ?_
      obtain ⟨x3, ex3, h⟩ := mb h
      refine mm_callV [.int a1, .int a2, .int a3] C (c_X12_lacks_97 ex3) wb_X12_lacks wv_X12_210 (by decide) (mc_97 k _) rfl rfl rfl (by omega) rfl (Nat.le_of_ble_eq_true rfl) dX12_put_23 26 rfl ?_
      show mm_AW z k 6 (some (.int r)) F1 F 26 [(0, .ref (mmad k 97)), (1, .int a1), (2, .int a2), (3, .int a3), (4, .int a4)] [.int x3]
      refine mm_istore (lv2 := [(5, .int x3), (0, .ref (mmad k 97)), (1, .int a1), (2, .int a2), (3, .int a3), (4, .int a4)]) C dX12_put_26 (by decide) rfl 28 rfl ?_
      refine mm_iload C dX12_put_28 0 rfl 30 rfl ?_
      refine mm_if_le C dX12_put_30 40 33 (by decide) rfl (fun hc => ?_) (fun hc => ?_)
      · rw [if_pos hc] at h
        refine mm_aload_n C dX12_put_40 rfl 1 rfl 41 rfl ?_
        refine mm_get C fl_X12_63_X12 (by decide) (mc_97 k _) rfl dX12_put_41 44 rfl ?_
        refine mm_bipush (v := (40 : Int32)) C dX12_put_44 (by decide) 46 rfl ?_
        refine mm_iload_n C dX12_put_46 rfl 2 rfl 47 rfl ?_
        refine mm_imul C dX12_put_47 48 rfl ?_
        refine mm_iload_n C dX12_put_48 rfl 4 rfl 49 rfl ?_
        refine mm_iadd C dX12_put_49 50 rfl ?_
        refine mm_iload_n C dX12_put_50 rfl 3 rfl 51 rfl ?_
        refine mj1 h (fun (y4 : Int32) => mm_AW z k 6 (some (.int r)) F1 F 73 [] [.int y4, .int (((40 : Int32) * a1) + a3), .ref (mmad k 112)]) ?_ ?_
        · intro y4 h
          obtain ⟨G5, eG5, h⟩ := mb h
          refine mm_iast C eG5 dX12_put_73 74 rfl ?_
          refine mm_iconst (v := (1 : Int32)) C dX12_put_74 (by decide) 75 rfl ?_
          exact mm_iretW C (h) dX12_put_75
        · intro K2 hR73 h
          refine mm_if_ne C dX12_put_51 60 54 (by decide) rfl (fun hc => ?_) (fun hc => ?_)
          · rw [if_neg hc] at h
            refine mm_iload_n C dX12_put_60 rfl 3 rfl 61 rfl ?_
            refine mm_iconst (v := (1 : Int32)) C dX12_put_61 (by decide) 62 rfl ?_
            refine mm_icmp_ne C dX12_put_62 71 65 (by decide) rfl (fun hc => ?_) (fun hc => ?_)
            · rw [if_neg hc] at h
              refine mm_iload C dX12_put_71 5 rfl 73 rfl ?_
              refine mm_lv [] rfl ?_
              exact hR73 _ h
            · rw [if_pos hc] at h
              refine mm_iload C dX12_put_65 5 rfl 67 rfl ?_
              refine mm_i2s C dX12_put_67 68 rfl ?_
              refine mm_goto C dX12_put_68 73 (by decide) ?_
              refine mm_lv [] rfl ?_
              exact hR73 _ h
          · rw [if_pos hc] at h
            refine mm_iload C dX12_put_54 5 rfl 56 rfl ?_
            refine mm_i2b C dX12_put_56 57 rfl ?_
            refine mm_goto C dX12_put_57 73 (by decide) ?_
            refine mm_lv [] rfl ?_
            exact hR73 _ h
      · rw [if_neg hc] at h
        refine mm_aload_n C dX12_put_33 rfl 1 rfl 34 rfl ?_
        refine mm_iload C dX12_put_34 0 rfl 36 rfl ?_
        obtain ⟨x6, G7, ex6, h⟩ := mb2 h
        refine mm_callV [.int x3] C (c_X12_meets_97 ex6) wb_X12_meets wv_X12_207 (by decide) (mc_97 k _) rfl rfl rfl (by omega) rfl (Nat.le_of_ble_eq_true rfl) dX12_put_36 39 rfl ?_
        show mm_AW z k 6 (some (.int r)) F1 G7 39 [(5, .int x3), (0, .ref (mmad k 97)), (1, .int a1), (2, .int a2), (3, .int a3), (4, .int a4)] [.int x6]
        exact mm_iretW C (h) dX12_put_39
    · rw [if_pos hc] at h
      refine mm_bipush (v := (-2 : Int32)) C dX12_put_16 (by decide) 18 rfl ?_
      exact mm_iretW C (h) dX12_put_18
def m_X12_get_97 (F : mmS) (a1 : Int32) (a2 : Int32) (a3 : Int32) : Option (Int32 × mmS) :=
  Option.bind (m_X12_isSheet a1) fun x1 => if x1 = (0 : Int32) then (some ((-2147483648 : Int32), F)) else (Option.bind (m_X12_in a2 (0 : Int32) (2 : Int32)) fun x2 => if x2 = (0 : Int32) then (some ((-2147483648 : Int32), F)) else (Option.bind (m_X12_lacks_97 F a1 a2 a3) fun x3 => if x3 ≤ (0 : Int32) then (Option.bind (ald F 112 (((40 : Int32) * a1) + a3)) fun x4 => some (x4, F)) else (mlet (stF F 97 28 x3) fun G5 => some ((-2147483648 : Int32), G5))))
set_option maxHeartbeats 4000000 in
set_option maxRecDepth 100000 in
theorem c_X12_get_97 {l : Launch} {k : mmK} {F : mmS} {a1 : Int32} {a2 : Int32} {a3 : Int32} {r : Int32} {F1 : mmS} (h : m_X12_get_97 F a1 a2 a3 = some (r, F1)) : mm_T l k yX12_get cX12_get 5 (some .int) 2 [.ref (mmad k 97), .int a1, .int a2, .int a3] F (some (.int r)) F1 := by
  refine mm_start [(0, .ref (mmad k 97)), (1, .int a1), (2, .int a2), (3, .int a3)] (by decide) (Nat.le_of_ble_eq_true rfl) rfl ?_
  intro z hz C
  subst hz
  have C : mm_C z k RX12 cX12_get 5 (some .int) 2 := C
  replace h := mk0 h
  unfold m_X12_get_97 at h
  refine mm_iload_n C dX12_get_0 rfl 1 rfl 1 rfl ?_
  obtain ⟨x1, ex1, h⟩ := mb h
  refine mm_callS [.int a1] C (c_X12_isSheet ex1) wb_X12_isSheet ws_X12_204 rfl (by omega) rfl (Nat.le_of_ble_eq_true rfl) dX12_get_1 4 rfl ?_
  show mm_AW z k 5 (some (.int r)) F1 F 4 [(0, .ref (mmad k 97)), (1, .int a1), (2, .int a2), (3, .int a3)] [.int x1]
  refine mm_if_eq C dX12_get_4 16 7 (by decide) rfl (fun hc => ?_) (fun hc => ?_)
  · rw [if_pos hc] at h
    refine mm_ldc (v := (-2147483648 : Int32)) C dX12_get_16 mw_1181 18 rfl ?_
    exact mm_iretW C (h) dX12_get_18
  · rw [if_neg hc] at h
    refine mm_iload_n C dX12_get_7 rfl 2 rfl 8 rfl ?_
    refine mm_iconst (v := (0 : Int32)) C dX12_get_8 (by decide) 9 rfl ?_
    refine mm_iconst (v := (2 : Int32)) C dX12_get_9 (by decide) 10 rfl ?_
    obtain ⟨x2, ex2, h⟩ := mb h
    refine mm_callS [.int a2, .int (0 : Int32), .int (2 : Int32)] C (c_X12_in ex2) wb_X12_in ws_X12_69 rfl (by omega) rfl (Nat.le_of_ble_eq_true rfl) dX12_get_10 13 rfl ?_
    show mm_AW z k 5 (some (.int r)) F1 F 13 [(0, .ref (mmad k 97)), (1, .int a1), (2, .int a2), (3, .int a3)] [.int x2]
    refine mm_if_ne C dX12_get_13 19 16 (by decide) rfl (fun hc => ?_) (fun hc => ?_)
    · rw [if_neg hc] at h
      refine mm_aload_n C dX12_get_19 rfl 0 rfl 20 rfl ?_
      refine mm_iload_n C dX12_get_20 rfl 1 rfl 21 rfl ?_
      refine mm_iload_n C dX12_get_21 rfl 2 rfl 22 rfl ?_
      refine mm_iload_n C dX12_get_22 rfl 3 rfl 23 rfl ?_
      obtain ⟨x3, ex3, h⟩ := mb h
      refine mm_callV [.int a1, .int a2, .int a3] C (c_X12_lacks_97 ex3) wb_X12_lacks wv_X12_210 (by decide) (mc_97 k _) rfl rfl rfl (by omega) rfl (Nat.le_of_ble_eq_true rfl) dX12_get_23 26 rfl ?_
      show mm_AW z k 5 (some (.int r)) F1 F 26 [(0, .ref (mmad k 97)), (1, .int a1), (2, .int a2), (3, .int a3)] [.int x3]
      refine mm_istore (lv2 := [(4, .int x3), (0, .ref (mmad k 97)), (1, .int a1), (2, .int a2), (3, .int a3)]) C dX12_get_26 (by decide) rfl 28 rfl ?_
      refine mm_iload C dX12_get_28 0 rfl 30 rfl ?_
      refine mm_if_le C dX12_get_30 42 33 (by decide) rfl (fun hc => ?_) (fun hc => ?_)
      · rw [if_pos hc] at h
        refine mm_aload_n C dX12_get_42 rfl 1 rfl 43 rfl ?_
        refine mm_get C fl_X12_63_X12 (by decide) (mc_97 k _) rfl dX12_get_43 46 rfl ?_
        refine mm_bipush (v := (40 : Int32)) C dX12_get_46 (by decide) 48 rfl ?_
        refine mm_iload_n C dX12_get_48 rfl 2 rfl 49 rfl ?_
        refine mm_imul C dX12_get_49 50 rfl ?_
        refine mm_iload_n C dX12_get_50 rfl 4 rfl 51 rfl ?_
        refine mm_iadd C dX12_get_51 52 rfl ?_
        obtain ⟨x4, ex4, h⟩ := mb h
        refine mm_iald C ex4 dX12_get_52 53 rfl ?_
        exact mm_iretW C (h) dX12_get_53
      · rw [if_neg hc] at h
        refine mm_aload_n C dX12_get_33 rfl 1 rfl 34 rfl ?_
        refine mm_iload C dX12_get_34 0 rfl 36 rfl ?_
        obtain ⟨G5, eG5, h⟩ := me h
        refine mm_put (x := x3) (ty := .int) C fl_X12_80_X12 (by decide) (mc_97 k _) (mc_97 k _) tyX12 tyX12_ok nmX12 rfl (by decide +kernel) rfl rfl (Nat.le_of_ble_eq_true rfl) eG5 dX12_get_36 39 rfl ?_
        refine mm_ldc (v := (-2147483648 : Int32)) C dX12_get_39 mw_1181 41 rfl ?_
        exact mm_iretW C (h) dX12_get_41
    · rw [if_pos hc] at h
      refine mm_ldc (v := (-2147483648 : Int32)) C dX12_get_16 mw_1181 18 rfl ?_
      exact mm_iretW C (h) dX12_get_18
def m_X12_copy_97_L120 (a1 : Int32) (a2 : Int32) (a5 : Int32) : Nat → Int32 → mmS → Option (mmS)
  | 0, _, _ => none
  | n21 + 1, v19, G20 => if a5 ≤ v19 then (some ((G20))) else (Option.bind (ald G20 112 ((((40 : Int32) * a1) + a2) + v19)) fun x22 => Option.bind (ast G20 113 v19 x22) fun G23 => mlet (v19 + (1 : Int32)) fun x24 => m_X12_copy_97_L120 a1 a2 a5 n21 x24 G23)
def m_X12_copy_97_L157 (a3 : Int32) (a4 : Int32) (a5 : Int32) : Nat → Int32 → mmS → Option (mmS)
  | 0, _, _ => none
  | n28 + 1, v26, G27 => if a5 ≤ v26 then (some ((G27))) else (Option.bind (ald G27 113 v26) fun x29 => Option.bind (ast G27 112 ((((40 : Int32) * a3) + a4) + v26) x29) fun G30 => mlet (v26 + (1 : Int32)) fun x31 => m_X12_copy_97_L157 a3 a4 a5 n28 x31 G30)
def m_X12_copy_97 (F : mmS) (a1 : Int32) (a2 : Int32) (a3 : Int32) (a4 : Int32) (a5 : Int32) : Option (Int32 × mmS) :=
  Option.bind (m_X12_isSheet a1) fun x1 => if x1 = (0 : Int32) then (some ((-2 : Int32), F)) else (Option.bind (m_X12_isSheet a3) fun x2 => if x2 = (0 : Int32) then (some ((-2 : Int32), F)) else (Option.bind (zld F a1) fun x3 => if x3 = (0 : Int32) then (bd2 (m_X12_meets_97 F (1 : Int32)) fun x4 G5 => some (x4, G5)) else (Option.bind (zld F a3) fun x6 => if x6 = (0 : Int32) then (bd2 (m_X12_meets_97 F (1 : Int32)) fun x37 G38 => some (x37, G38)) else (Option.bind (ald F 110 a1) fun x7 => Option.bind (ald F 110 a3) fun x8 => if x7 = x8 then (if a2 < (0 : Int32) then (bd2 (m_X12_meets_97 F (2 : Int32)) fun x9 G10 => some (x9, G10)) else (if a4 < (0 : Int32) then (bd2 (m_X12_meets_97 F (2 : Int32)) fun x11 G12 => some (x11, G12)) else (if a5 < (0 : Int32) then (bd2 (m_X12_meets_97 F (2 : Int32)) fun x13 G14 => some (x13, G14)) else (Option.bind (ald F 111 a1) fun x15 => if (0 : Int32) < (lg_cmp (a2.toInt64 + a5.toInt64) x15.toInt64) then (bd2 (m_X12_meets_97 F (2 : Int32)) fun x16 G17 => some (x16, G17)) else (Option.bind (ald F 111 a3) fun x18 => if (lg_cmp (a4.toInt64 + a5.toInt64) x18.toInt64) ≤ (0 : Int32) then (bd1 (m_X12_copy_97_L120 a1 a2 a5 300 (0 : Int32) F) fun G25 => bd1 (m_X12_copy_97_L157 a3 a4 a5 300 (0 : Int32) G25) fun G32 => some ((1 : Int32), G32)) else (bd2 (m_X12_meets_97 F (2 : Int32)) fun x33 G34 => some (x33, G34))))))) else (bd2 (m_X12_meets_97 F (4 : Int32)) fun x35 G36 => some (x35, G36))))))
set_option maxHeartbeats 4000000 in
set_option maxRecDepth 100000 in
theorem c_X12_copy_97 {l : Launch} {k : mmK} {F : mmS} {a1 : Int32} {a2 : Int32} {a3 : Int32} {a4 : Int32} {a5 : Int32} {r : Int32} {F1 : mmS} (h : m_X12_copy_97 F a1 a2 a3 a4 a5 = some (r, F1)) : mm_T l k yX12_copy cX12_copy 7 (some .int) 2 [.ref (mmad k 97), .int a1, .int a2, .int a3, .int a4, .int a5] F (some (.int r)) F1 := by
  refine mm_start [(0, .ref (mmad k 97)), (1, .int a1), (2, .int a2), (3, .int a3), (4, .int a4), (5, .int a5)] (by decide) (Nat.le_of_ble_eq_true rfl) rfl ?_
  intro z hz C
  subst hz
  have C : mm_C z k RX12 cX12_copy 7 (some .int) 2 := C
  replace h := mk0 h
  unfold m_X12_copy_97 at h
  refine mm_iload_n C dX12_copy_0 rfl 1 rfl 1 rfl ?_
  obtain ⟨x1, ex1, h⟩ := mb h
  refine mm_callS [.int a1] C (c_X12_isSheet ex1) wb_X12_isSheet ws_X12_204 rfl (by omega) rfl (Nat.le_of_ble_eq_true rfl) dX12_copy_1 4 rfl ?_
  show mm_AW z k 7 (some (.int r)) F1 F 4 [(0, .ref (mmad k 97)), (1, .int a1), (2, .int a2), (3, .int a3), (4, .int a4), (5, .int a5)] [.int x1]
  refine mm_if_eq C dX12_copy_4 14 7 (by decide) rfl (fun hc => ?_) (fun hc => ?_)
  · rw [if_pos hc] at h
    refine mm_bipush (v := (-2 : Int32)) C dX12_copy_14 (by decide) 16 rfl ?_
    exact mm_iretW C (h) dX12_copy_16
  · rw [if_neg hc] at h
    refine mm_iload_n C dX12_copy_7 rfl 3 rfl 8 rfl ?_
    obtain ⟨x2, ex2, h⟩ := mb h
    refine mm_callS [.int a3] C (c_X12_isSheet ex2) wb_X12_isSheet ws_X12_204 rfl (by omega) rfl (Nat.le_of_ble_eq_true rfl) dX12_copy_8 11 rfl ?_
    show mm_AW z k 7 (some (.int r)) F1 F 11 [(0, .ref (mmad k 97)), (1, .int a1), (2, .int a2), (3, .int a3), (4, .int a4), (5, .int a5)] [.int x2]
    refine mm_if_ne C dX12_copy_11 17 14 (by decide) rfl (fun hc => ?_) (fun hc => ?_)
    · rw [if_neg hc] at h
      refine mm_aload_n C dX12_copy_17 rfl 0 rfl 18 rfl ?_
      refine mm_get C fl_X12_53_X12 (by decide) (mc_97 k _) rfl dX12_copy_18 21 rfl ?_
      refine mm_iload_n C dX12_copy_21 rfl 1 rfl 22 rfl ?_
      obtain ⟨x3, ex3, h⟩ := mb h
      refine mm_zald C ex3 dX12_copy_22 23 rfl ?_
      refine mm_if_eq C dX12_copy_23 35 26 (by decide) rfl (fun hc => ?_) (fun hc => ?_)
      · rw [if_pos hc] at h
        refine mm_aload_n C dX12_copy_35 rfl 0 rfl 36 rfl ?_
        refine mm_iconst (v := (1 : Int32)) C dX12_copy_36 (by decide) 37 rfl ?_
        obtain ⟨x4, G5, ex4, h⟩ := mb2 h
        refine mm_callV [.int (1 : Int32)] C (c_X12_meets_97 ex4) wb_X12_meets wv_X12_207 (by decide) (mc_97 k _) rfl rfl rfl (by omega) rfl (Nat.le_of_ble_eq_true rfl) dX12_copy_37 40 rfl ?_
        show mm_AW z k 7 (some (.int r)) F1 G5 40 [(0, .ref (mmad k 97)), (1, .int a1), (2, .int a2), (3, .int a3), (4, .int a4), (5, .int a5)] [.int x4]
        exact mm_iretW C (h) dX12_copy_40
      · rw [if_neg hc] at h
        refine mm_aload_n C dX12_copy_26 rfl 0 rfl 27 rfl ?_
        refine mm_get C fl_X12_53_X12 (by decide) (mc_97 k _) rfl dX12_copy_27 30 rfl ?_
        refine mm_iload_n C dX12_copy_30 rfl 3 rfl 31 rfl ?_
        obtain ⟨x6, ex6, h⟩ := mb h
        refine mm_zald C ex6 dX12_copy_31 32 rfl ?_
        refine mm_if_ne C dX12_copy_32 41 35 (by decide) rfl (fun hc => ?_) (fun hc => ?_)
        · rw [if_neg hc] at h
          refine mm_aload_n C dX12_copy_41 rfl 0 rfl 42 rfl ?_
          refine mm_get C fl_X12_57_X12 (by decide) (mc_97 k _) rfl dX12_copy_42 45 rfl ?_
          refine mm_iload_n C dX12_copy_45 rfl 1 rfl 46 rfl ?_
          obtain ⟨x7, ex7, h⟩ := mb h
          refine mm_iald C ex7 dX12_copy_46 47 rfl ?_
          refine mm_aload_n C dX12_copy_47 rfl 0 rfl 48 rfl ?_
          refine mm_get C fl_X12_57_X12 (by decide) (mc_97 k _) rfl dX12_copy_48 51 rfl ?_
          refine mm_iload_n C dX12_copy_51 rfl 3 rfl 52 rfl ?_
          obtain ⟨x8, ex8, h⟩ := mb h
          refine mm_iald C ex8 dX12_copy_52 53 rfl ?_
          refine mm_icmp_eq C dX12_copy_53 62 56 (by decide) rfl (fun hc => ?_) (fun hc => ?_)
          · rw [if_pos hc] at h
            refine mm_iload_n C dX12_copy_62 rfl 2 rfl 63 rfl ?_
            refine mm_if_lt C dX12_copy_63 111 66 (by decide) rfl (fun hc => ?_) (fun hc => ?_)
            · rw [if_pos hc] at h
              refine mm_aload_n C dX12_copy_111 rfl 0 rfl 112 rfl ?_
              refine mm_iconst (v := (2 : Int32)) C dX12_copy_112 (by decide) 113 rfl ?_
              obtain ⟨x9, G10, ex9, h⟩ := mb2 h
              refine mm_callV [.int (2 : Int32)] C (c_X12_meets_97 ex9) wb_X12_meets wv_X12_207 (by decide) (mc_97 k _) rfl rfl rfl (by omega) rfl (Nat.le_of_ble_eq_true rfl) dX12_copy_113 116 rfl ?_
              show mm_AW z k 7 (some (.int r)) F1 G10 116 [(0, .ref (mmad k 97)), (1, .int a1), (2, .int a2), (3, .int a3), (4, .int a4), (5, .int a5)] [.int x9]
              exact mm_iretW C (h) dX12_copy_116
            · rw [if_neg hc] at h
              refine mm_iload C dX12_copy_66 4 rfl 68 rfl ?_
              refine mm_if_lt C dX12_copy_68 111 71 (by decide) rfl (fun hc => ?_) (fun hc => ?_)
              · rw [if_pos hc] at h
                refine mm_aload_n C dX12_copy_111 rfl 0 rfl 112 rfl ?_
                refine mm_iconst (v := (2 : Int32)) C dX12_copy_112 (by decide) 113 rfl ?_
                obtain ⟨x11, G12, ex11, h⟩ := mb2 h
                refine mm_callV [.int (2 : Int32)] C (c_X12_meets_97 ex11) wb_X12_meets wv_X12_207 (by decide) (mc_97 k _) rfl rfl rfl (by omega) rfl (Nat.le_of_ble_eq_true rfl) dX12_copy_113 116 rfl ?_
                show mm_AW z k 7 (some (.int r)) F1 G12 116 [(0, .ref (mmad k 97)), (1, .int a1), (2, .int a2), (3, .int a3), (4, .int a4), (5, .int a5)] [.int x11]
                exact mm_iretW C (h) dX12_copy_116
              · rw [if_neg hc] at h
                refine mm_iload C dX12_copy_71 5 rfl 73 rfl ?_
                refine mm_if_lt C dX12_copy_73 111 76 (by decide) rfl (fun hc => ?_) (fun hc => ?_)
                · rw [if_pos hc] at h
                  refine mm_aload_n C dX12_copy_111 rfl 0 rfl 112 rfl ?_
                  refine mm_iconst (v := (2 : Int32)) C dX12_copy_112 (by decide) 113 rfl ?_
                  obtain ⟨x13, G14, ex13, h⟩ := mb2 h
                  refine mm_callV [.int (2 : Int32)] C (c_X12_meets_97 ex13) wb_X12_meets wv_X12_207 (by decide) (mc_97 k _) rfl rfl rfl (by omega) rfl (Nat.le_of_ble_eq_true rfl) dX12_copy_113 116 rfl ?_
                  show mm_AW z k 7 (some (.int r)) F1 G14 116 [(0, .ref (mmad k 97)), (1, .int a1), (2, .int a2), (3, .int a3), (4, .int a4), (5, .int a5)] [.int x13]
                  exact mm_iretW C (h) dX12_copy_116
                · rw [if_neg hc] at h
                  refine mm_iload_n C dX12_copy_76 rfl 2 rfl 77 rfl ?_
                  refine mm_i2l C dX12_copy_77 78 rfl ?_
                  refine mm_iload C dX12_copy_78 5 rfl 80 rfl ?_
                  refine mm_i2l C dX12_copy_80 81 rfl ?_
                  refine mm_ladd C dX12_copy_81 82 rfl ?_
                  refine mm_aload_n C dX12_copy_82 rfl 0 rfl 83 rfl ?_
                  refine mm_get C fl_X12_60_X12 (by decide) (mc_97 k _) rfl dX12_copy_83 86 rfl ?_
                  refine mm_iload_n C dX12_copy_86 rfl 1 rfl 87 rfl ?_
                  obtain ⟨x15, ex15, h⟩ := mb h
                  refine mm_iald C ex15 dX12_copy_87 88 rfl ?_
                  refine mm_i2l C dX12_copy_88 89 rfl ?_
                  refine mm_lcmp C dX12_copy_89 90 rfl ?_
                  refine mm_if_gt C dX12_copy_90 111 93 (by decide) rfl (fun hc => ?_) (fun hc => ?_)
                  · rw [if_pos hc] at h
                    refine mm_aload_n C dX12_copy_111 rfl 0 rfl 112 rfl ?_
                    refine mm_iconst (v := (2 : Int32)) C dX12_copy_112 (by decide) 113 rfl ?_
                    obtain ⟨x16, G17, ex16, h⟩ := mb2 h
                    refine mm_callV [.int (2 : Int32)] C (c_X12_meets_97 ex16) wb_X12_meets wv_X12_207 (by decide) (mc_97 k _) rfl rfl rfl (by omega) rfl (Nat.le_of_ble_eq_true rfl) dX12_copy_113 116 rfl ?_
                    show mm_AW z k 7 (some (.int r)) F1 G17 116 [(0, .ref (mmad k 97)), (1, .int a1), (2, .int a2), (3, .int a3), (4, .int a4), (5, .int a5)] [.int x16]
                    exact mm_iretW C (h) dX12_copy_116
                  · rw [if_neg hc] at h
                    refine mm_iload C dX12_copy_93 4 rfl 95 rfl ?_
                    refine mm_i2l C dX12_copy_95 96 rfl ?_
                    refine mm_iload C dX12_copy_96 5 rfl 98 rfl ?_
                    refine mm_i2l C dX12_copy_98 99 rfl ?_
                    refine mm_ladd C dX12_copy_99 100 rfl ?_
                    refine mm_aload_n C dX12_copy_100 rfl 0 rfl 101 rfl ?_
                    refine mm_get C fl_X12_60_X12 (by decide) (mc_97 k _) rfl dX12_copy_101 104 rfl ?_
                    refine mm_iload_n C dX12_copy_104 rfl 3 rfl 105 rfl ?_
                    obtain ⟨x18, ex18, h⟩ := mb h
                    refine mm_iald C ex18 dX12_copy_105 106 rfl ?_
                    refine mm_i2l C dX12_copy_106 107 rfl ?_
                    refine mm_lcmp C dX12_copy_107 108 rfl ?_
                    refine mm_if_le C dX12_copy_108 117 111 (by decide) rfl (fun hc => ?_) (fun hc => ?_)
                    · rw [if_pos hc] at h
                      refine mm_iconst (v := (0 : Int32)) C dX12_copy_117 (by decide) 118 rfl ?_
                      refine mm_istore (lv2 := [(6, .int (0 : Int32)), (0, .ref (mmad k 97)), (1, .int a1), (2, .int a2), (3, .int a3), (4, .int a4), (5, .int a5)]) C dX12_copy_118 (by decide) rfl 120 rfl ?_
                      refine mm_lv [1, 2, 3, 4, 5, 6, 0] rfl ?_
                      have hL120 : ∀ (K : (mmS) → Option (Int32 × mmS)) (hK : ∀ (G20 : mmS) , K (G20) = some (r, F1) → mm_AW z k 7 (some (.int r)) F1 G20 154 [(0, .ref (mmad k 97)), (3, .int a3), (4, .int a4), (5, .int a5)] []) (n21 : Nat) (v19 : Int32) (G20 : mmS) , (m_X12_copy_97_L120 a1 a2 a5 n21 v19 G20).bind K = some (r, F1) → mm_AW z k 7 (some (.int r)) F1 G20 120 [(0, .ref (mmad k 97)), (1, .int a1), (2, .int a2), (3, .int a3), (4, .int a4), (5, .int a5), (6, .int v19)] [] := by
                        intro K hK n21
                        induction n21 with
                        | zero => intro v19 G20 h; rw [m_X12_copy_97_L120] at h; cases h
                        | succ n21 ih =>
                          intro v19 G20 h
                          rw [m_X12_copy_97_L120] at h
                          refine mm_iload C dX12_copy_120 6 rfl 122 rfl ?_
                          refine mm_iload C dX12_copy_122 5 rfl 124 rfl ?_
                          refine mm_icmp_ge C dX12_copy_124 154 127 (by decide) rfl (fun hc => ?_) (fun hc => ?_)
                          · rw [if_pos hc] at h
                            refine mm_lv [0, 3, 4, 5] rfl ?_
                            exact hK _ h
                          · rw [if_neg hc] at h
                            refine mm_aload_n C dX12_copy_127 rfl 0 rfl 128 rfl ?_
                            refine mm_get C fl_X12_66_X12 (by decide) (mc_97 k _) rfl dX12_copy_128 131 rfl ?_
                            refine mm_iload C dX12_copy_131 6 rfl 133 rfl ?_
                            refine mm_aload_n C dX12_copy_133 rfl 0 rfl 134 rfl ?_
                            refine mm_get C fl_X12_63_X12 (by decide) (mc_97 k _) rfl dX12_copy_134 137 rfl ?_
                            refine mm_bipush (v := (40 : Int32)) C dX12_copy_137 (by decide) 139 rfl ?_
                            refine mm_iload_n C dX12_copy_139 rfl 1 rfl 140 rfl ?_
                            refine mm_imul C dX12_copy_140 141 rfl ?_
                            refine mm_iload_n C dX12_copy_141 rfl 2 rfl 142 rfl ?_
                            refine mm_iadd C dX12_copy_142 143 rfl ?_
                            refine mm_iload C dX12_copy_143 6 rfl 145 rfl ?_
                            refine mm_iadd C dX12_copy_145 146 rfl ?_
                            obtain ⟨x22, ex22, h⟩ := mb h
                            refine mm_iald C ex22 dX12_copy_146 147 rfl ?_
                            obtain ⟨G23, eG23, h⟩ := mb h
                            refine mm_iast C eG23 dX12_copy_147 148 rfl ?_
                            obtain ⟨x24, ex24, h⟩ := me h
                            refine mm_iinc (v := x24) (lv2 := [(6, .int x24), (0, .ref (mmad k 97)), (1, .int a1), (2, .int a2), (3, .int a3), (4, .int a4), (5, .int a5)]) C dX12_copy_148 6 rfl (by rw [← ex24]; rfl) (by decide) rfl 151 rfl ?_
                            refine mm_goto C dX12_copy_151 120 (by decide) ?_
                            refine mm_lv [1, 2, 3, 4, 5, 6, 0] rfl ?_
                            exact ih _ _ h
                      refine mj1 h (fun (G25 : mmS) => mm_AW z k 7 (some (.int r)) F1 G25 154 [(0, .ref (mmad k 97)), (3, .int a3), (4, .int a4), (5, .int a5)] []) ?_ ?_
                      · intro G25 h
                        refine mm_iconst (v := (0 : Int32)) C dX12_copy_154 (by decide) 155 rfl ?_
                        refine mm_istore (lv2 := [(6, .int (0 : Int32)), (0, .ref (mmad k 97)), (3, .int a3), (4, .int a4), (5, .int a5)]) C dX12_copy_155 (by decide) rfl 157 rfl ?_
                        refine mm_lv [1, 2, 3, 4, 0] rfl ?_
                        have hL157 : ∀ (K : (mmS) → Option (Int32 × mmS)) (hK : ∀ (G27 : mmS) , K (G27) = some (r, F1) → mm_AW z k 7 (some (.int r)) F1 G27 192 [] []) (n28 : Nat) (v26 : Int32) (G27 : mmS) , (m_X12_copy_97_L157 a3 a4 a5 n28 v26 G27).bind K = some (r, F1) → mm_AW z k 7 (some (.int r)) F1 G27 157 [(0, .ref (mmad k 97)), (3, .int a3), (4, .int a4), (5, .int a5), (6, .int v26)] [] := by
                          intro K hK n28
                          induction n28 with
                          | zero => intro v26 G27 h; rw [m_X12_copy_97_L157] at h; cases h
                          | succ n28 ih =>
                            intro v26 G27 h
                            rw [m_X12_copy_97_L157] at h
                            refine mm_iload C dX12_copy_157 4 rfl 159 rfl ?_
                            refine mm_iload C dX12_copy_159 3 rfl 161 rfl ?_
                            refine mm_icmp_ge C dX12_copy_161 192 164 (by decide) rfl (fun hc => ?_) (fun hc => ?_)
                            · rw [if_pos hc] at h
                              refine mm_lv [] rfl ?_
                              exact hK _ h
                            · rw [if_neg hc] at h
                              refine mm_aload_n C dX12_copy_164 rfl 0 rfl 165 rfl ?_
                              refine mm_get C fl_X12_63_X12 (by decide) (mc_97 k _) rfl dX12_copy_165 168 rfl ?_
                              refine mm_bipush (v := (40 : Int32)) C dX12_copy_168 (by decide) 170 rfl ?_
                              refine mm_iload_n C dX12_copy_170 rfl 1 rfl 171 rfl ?_
                              refine mm_imul C dX12_copy_171 172 rfl ?_
                              refine mm_iload C dX12_copy_172 2 rfl 174 rfl ?_
                              refine mm_iadd C dX12_copy_174 175 rfl ?_
                              refine mm_iload C dX12_copy_175 4 rfl 177 rfl ?_
                              refine mm_iadd C dX12_copy_177 178 rfl ?_
                              refine mm_aload_n C dX12_copy_178 rfl 0 rfl 179 rfl ?_
                              refine mm_get C fl_X12_66_X12 (by decide) (mc_97 k _) rfl dX12_copy_179 182 rfl ?_
                              refine mm_iload C dX12_copy_182 4 rfl 184 rfl ?_
                              obtain ⟨x29, ex29, h⟩ := mb h
                              refine mm_iald C ex29 dX12_copy_184 185 rfl ?_
                              obtain ⟨G30, eG30, h⟩ := mb h
                              refine mm_iast C eG30 dX12_copy_185 186 rfl ?_
                              obtain ⟨x31, ex31, h⟩ := me h
                              refine mm_iinc (v := x31) (lv2 := [(6, .int x31), (0, .ref (mmad k 97)), (3, .int a3), (4, .int a4), (5, .int a5)]) C dX12_copy_186 4 rfl (by rw [← ex31]; rfl) (by decide) rfl 189 rfl ?_
                              refine mm_goto C dX12_copy_189 157 (by decide) ?_
                              refine mm_lv [1, 2, 3, 4, 0] rfl ?_
                              exact ih _ _ h
                        refine mj1 h (fun (G32 : mmS) => mm_AW z k 7 (some (.int r)) F1 G32 192 [] []) ?_ ?_
                        · intro G32 h
                          refine mm_iconst (v := (1 : Int32)) C dX12_copy_192 (by decide) 193 rfl ?_
                          exact mm_iretW C (h) dX12_copy_193
                        · intro K2 hR h
                          exact hL157 K2 hR 300 _ _ h
                      · intro K2 hR h
                        exact hL120 K2 hR 300 _ _ h
                    · rw [if_neg hc] at h
                      refine mm_aload_n C dX12_copy_111 rfl 0 rfl 112 rfl ?_
                      refine mm_iconst (v := (2 : Int32)) C dX12_copy_112 (by decide) 113 rfl ?_
                      obtain ⟨x33, G34, ex33, h⟩ := mb2 h
                      refine mm_callV [.int (2 : Int32)] C (c_X12_meets_97 ex33) wb_X12_meets wv_X12_207 (by decide) (mc_97 k _) rfl rfl rfl (by omega) rfl (Nat.le_of_ble_eq_true rfl) dX12_copy_113 116 rfl ?_
                      show mm_AW z k 7 (some (.int r)) F1 G34 116 [(0, .ref (mmad k 97)), (1, .int a1), (2, .int a2), (3, .int a3), (4, .int a4), (5, .int a5)] [.int x33]
                      exact mm_iretW C (h) dX12_copy_116
          · rw [if_neg hc] at h
            refine mm_aload_n C dX12_copy_56 rfl 0 rfl 57 rfl ?_
            refine mm_iconst (v := (4 : Int32)) C dX12_copy_57 (by decide) 58 rfl ?_
            obtain ⟨x35, G36, ex35, h⟩ := mb2 h
            refine mm_callV [.int (4 : Int32)] C (c_X12_meets_97 ex35) wb_X12_meets wv_X12_207 (by decide) (mc_97 k _) rfl rfl rfl (by omega) rfl (Nat.le_of_ble_eq_true rfl) dX12_copy_58 61 rfl ?_
            show mm_AW z k 7 (some (.int r)) F1 G36 61 [(0, .ref (mmad k 97)), (1, .int a1), (2, .int a2), (3, .int a3), (4, .int a4), (5, .int a5)] [.int x35]
            exact mm_iretW C (h) dX12_copy_61
        · rw [if_pos hc] at h
          refine mm_aload_n C dX12_copy_35 rfl 0 rfl 36 rfl ?_
          refine mm_iconst (v := (1 : Int32)) C dX12_copy_36 (by decide) 37 rfl ?_
          obtain ⟨x37, G38, ex37, h⟩ := mb2 h
          refine mm_callV [.int (1 : Int32)] C (c_X12_meets_97 ex37) wb_X12_meets wv_X12_207 (by decide) (mc_97 k _) rfl rfl rfl (by omega) rfl (Nat.le_of_ble_eq_true rfl) dX12_copy_37 40 rfl ?_
          show mm_AW z k 7 (some (.int r)) F1 G38 40 [(0, .ref (mmad k 97)), (1, .int a1), (2, .int a2), (3, .int a3), (4, .int a4), (5, .int a5)] [.int x37]
          exact mm_iretW C (h) dX12_copy_40
    · rw [if_pos hc] at h
      refine mm_bipush (v := (-2 : Int32)) C dX12_copy_14 (by decide) 16 rfl ?_
      exact mm_iretW C (h) dX12_copy_16
def m_X12_hint_97_L62 (y10 : Int32) : Nat → Int32 → mmS → Option (mmS)
  | 0, _, _ => none
  | n13 + 1, v11, G12 => if y10 ≤ v11 then (some ((G12))) else (Option.bind (ald G12 102 v11) fun x14 => Option.bind (ast G12 112 ((40 : Int32) + v11) x14) fun G15 => mlet (v11 + (1 : Int32)) fun x16 => m_X12_hint_97_L62 y10 n13 x16 G15)
def m_X12_hint_97 (F : mmS)  : Option (Int32 × mmS) :=
  Option.bind (zld F (0 : Int32)) fun x1 => if x1 = (0 : Int32) then (bd2 (m_X12_meets_97 F (1 : Int32)) fun x2 G3 => some (x2, G3)) else (Option.bind (zld F (1 : Int32)) fun x4 => if x4 = (0 : Int32) then (bd2 (m_X12_meets_97 F (1 : Int32)) fun x18 G19 => some (x18, G19)) else (bd2 (m_X12_reads_97 F) fun x5 G6 => Option.bind (m_X12_plans_97 G6) fun G7 => Option.bind (ald G7 111 (1 : Int32)) fun x8 => bd1 (if x8 ≤ (G7 97 5) then (Option.bind (ald G7 111 (1 : Int32)) fun x9 => some (x9)) else (some ((G7 97 5)))) fun y10 => bd1 (m_X12_hint_97_L62 y10 300 (0 : Int32) G7) fun G17 => some (y10, G17)))
set_option maxHeartbeats 4000000 in
set_option maxRecDepth 100000 in
theorem c_X12_hint_97 {l : Launch} {k : mmK} {F : mmS}  {r : Int32} {F1 : mmS} (h : m_X12_hint_97 F = some (r, F1)) : mm_T l k yX12_hint cX12_hint 4 (some .int) 4 [.ref (mmad k 97)] F (some (.int r)) F1 := by
  refine mm_start [(0, .ref (mmad k 97))] (by decide) (Nat.le_of_ble_eq_true rfl) rfl ?_
  intro z hz C
  subst hz
  have C : mm_C z k RX12 cX12_hint 4 (some .int) 4 := C
  replace h := mk0 h
  unfold m_X12_hint_97 at h
  refine mm_aload_n C dX12_hint_0 rfl 0 rfl 1 rfl ?_
  refine mm_get C fl_X12_53_X12 (by decide) (mc_97 k _) rfl dX12_hint_1 4 rfl ?_
  refine mm_iconst (v := (0 : Int32)) C dX12_hint_4 (by decide) 5 rfl ?_
  obtain ⟨x1, ex1, h⟩ := mb h
  refine mm_zald C ex1 dX12_hint_5 6 rfl ?_
  refine mm_if_eq C dX12_hint_6 18 9 (by decide) rfl (fun hc => ?_) (fun hc => ?_)
  · rw [if_pos hc] at h
    refine mm_aload_n C dX12_hint_18 rfl 0 rfl 19 rfl ?_
    refine mm_iconst (v := (1 : Int32)) C dX12_hint_19 (by decide) 20 rfl ?_
    obtain ⟨x2, G3, ex2, h⟩ := mb2 h
    refine mm_callV [.int (1 : Int32)] C (c_X12_meets_97 ex2) wb_X12_meets wv_X12_207 (by decide) (mc_97 k _) rfl rfl rfl (by omega) rfl (Nat.le_of_ble_eq_true rfl) dX12_hint_20 23 rfl ?_
    show mm_AW z k 4 (some (.int r)) F1 G3 23 [(0, .ref (mmad k 97))] [.int x2]
    exact mm_iretW C (h) dX12_hint_23
  · rw [if_neg hc] at h
    refine mm_aload_n C dX12_hint_9 rfl 0 rfl 10 rfl ?_
    refine mm_get C fl_X12_53_X12 (by decide) (mc_97 k _) rfl dX12_hint_10 13 rfl ?_
    refine mm_iconst (v := (1 : Int32)) C dX12_hint_13 (by decide) 14 rfl ?_
    obtain ⟨x4, ex4, h⟩ := mb h
    refine mm_zald C ex4 dX12_hint_14 15 rfl ?_
    refine mm_if_ne C dX12_hint_15 24 18 (by decide) rfl (fun hc => ?_) (fun hc => ?_)
    · rw [if_neg hc] at h
      refine mm_aload_n C dX12_hint_24 rfl 0 rfl 25 rfl ?_
      obtain ⟨x5, G6, ex5, h⟩ := mb2 h
      refine mm_callV [] C (c_X12_reads_97 ex5) wb_X12_reads wv_X12_83 (by decide) (mc_97 k _) rfl rfl rfl (by omega) rfl (Nat.le_of_ble_eq_true rfl) dX12_hint_25 28 rfl ?_
      show mm_AW z k 4 (some (.int r)) F1 G6 28 [(0, .ref (mmad k 97))] [.int x5]
      refine mm_istore_n (lv2 := [(1, .int x5), (0, .ref (mmad k 97))]) C dX12_hint_28 rfl (by decide) rfl 29 rfl ?_
      refine mm_aload_n C dX12_hint_29 rfl 1 rfl 30 rfl ?_
      obtain ⟨G7, eG7, h⟩ := mb h
      refine mm_callV [] C (c_X12_plans_97 eG7) wb_X12_plans wv_X12_109 (by decide) (mc_97 k _) rfl rfl rfl (by omega) rfl (Nat.le_of_ble_eq_true rfl) dX12_hint_30 33 rfl ?_
      show mm_AW z k 4 (some (.int r)) F1 G7 33 [(1, .int x5), (0, .ref (mmad k 97))] []
      refine mm_aload_n C dX12_hint_33 rfl 1 rfl 34 rfl ?_
      refine mm_get C fl_X12_77_X12 (by decide) (mc_97 k _) rfl dX12_hint_34 37 rfl ?_
      refine mm_aload_n C dX12_hint_37 rfl 1 rfl 38 rfl ?_
      refine mm_get C fl_X12_60_X12 (by decide) (mc_97 k _) rfl dX12_hint_38 41 rfl ?_
      refine mm_iconst (v := (1 : Int32)) C dX12_hint_41 (by decide) 42 rfl ?_
      obtain ⟨x8, ex8, h⟩ := mb h
      refine mm_iald C ex8 dX12_hint_42 43 rfl ?_
      refine mj1 h (fun (y10 : Int32) => mm_AW z k 4 (some (.int r)) F1 G7 59 [(0, .ref (mmad k 97))] [.int y10]) ?_ ?_
      · intro y10 h
        refine mm_istore_n (lv2 := [(2, .int y10), (0, .ref (mmad k 97))]) C dX12_hint_59 rfl (by decide) rfl 60 rfl ?_
        refine mm_iconst (v := (0 : Int32)) C dX12_hint_60 (by decide) 61 rfl ?_
        refine mm_istore_n (lv2 := [(3, .int (0 : Int32)), (2, .int y10), (0, .ref (mmad k 97))]) C dX12_hint_61 rfl (by decide) rfl 62 rfl ?_
        refine mm_lv [2, 1, 0] rfl ?_
        have hL62 : ∀ (K : (mmS) → Option (Int32 × mmS)) (hK : ∀ (G12 : mmS) , K (G12) = some (r, F1) → mm_AW z k 4 (some (.int r)) F1 G12 88 [(2, .int y10)] []) (n13 : Nat) (v11 : Int32) (G12 : mmS) , (m_X12_hint_97_L62 y10 n13 v11 G12).bind K = some (r, F1) → mm_AW z k 4 (some (.int r)) F1 G12 62 [(0, .ref (mmad k 97)), (2, .int y10), (3, .int v11)] [] := by
          intro K hK n13
          induction n13 with
          | zero => intro v11 G12 h; rw [m_X12_hint_97_L62] at h; cases h
          | succ n13 ih =>
            intro v11 G12 h
            rw [m_X12_hint_97_L62] at h
            refine mm_iload_n C dX12_hint_62 rfl 2 rfl 63 rfl ?_
            refine mm_iload_n C dX12_hint_63 rfl 1 rfl 64 rfl ?_
            refine mm_icmp_ge C dX12_hint_64 88 67 (by decide) rfl (fun hc => ?_) (fun hc => ?_)
            · rw [if_pos hc] at h
              refine mm_lv [1] rfl ?_
              exact hK _ h
            · rw [if_neg hc] at h
              refine mm_aload_n C dX12_hint_67 rfl 0 rfl 68 rfl ?_
              refine mm_get C fl_X12_63_X12 (by decide) (mc_97 k _) rfl dX12_hint_68 71 rfl ?_
              refine mm_bipush (v := (40 : Int32)) C dX12_hint_71 (by decide) 73 rfl ?_
              refine mm_iload_n C dX12_hint_73 rfl 2 rfl 74 rfl ?_
              refine mm_iadd C dX12_hint_74 75 rfl ?_
              refine mm_aload_n C dX12_hint_75 rfl 0 rfl 76 rfl ?_
              refine mm_get C fl_X12_32_X12 (by decide) (mc_97 k _) rfl dX12_hint_76 79 rfl ?_
              refine mm_iload_n C dX12_hint_79 rfl 2 rfl 80 rfl ?_
              obtain ⟨x14, ex14, h⟩ := mb h
              refine mm_iald C ex14 dX12_hint_80 81 rfl ?_
              obtain ⟨G15, eG15, h⟩ := mb h
              refine mm_iast C eG15 dX12_hint_81 82 rfl ?_
              obtain ⟨x16, ex16, h⟩ := me h
              refine mm_iinc (v := x16) (lv2 := [(3, .int x16), (0, .ref (mmad k 97)), (2, .int y10)]) C dX12_hint_82 2 rfl (by rw [← ex16]; rfl) (by decide) rfl 85 rfl ?_
              refine mm_goto C dX12_hint_85 62 (by decide) ?_
              refine mm_lv [1, 2, 0] rfl ?_
              exact ih _ _ h
        refine mj1 h (fun (G17 : mmS) => mm_AW z k 4 (some (.int r)) F1 G17 88 [(2, .int y10)] []) ?_ ?_
        · intro G17 h
          refine mm_iload_n C dX12_hint_88 rfl 0 rfl 89 rfl ?_
          exact mm_iretW C (h) dX12_hint_89
        · intro K2 hR h
          exact hL62 K2 hR 300 _ _ h
      · intro K2 hR59 h
        refine mm_icmp_ge C dX12_hint_43 53 46 (by decide) rfl (fun hc => ?_) (fun hc => ?_)
        · rw [if_pos hc] at h
          refine mm_aload_n C dX12_hint_53 rfl 1 rfl 54 rfl ?_
          refine mm_get C fl_X12_60_X12 (by decide) (mc_97 k _) rfl dX12_hint_54 57 rfl ?_
          refine mm_iconst (v := (1 : Int32)) C dX12_hint_57 (by decide) 58 rfl ?_
          obtain ⟨x9, ex9, h⟩ := mb h
          refine mm_iald C ex9 dX12_hint_58 59 rfl ?_
          refine mm_lv [1] rfl ?_
          exact hR59 _ h
        · rw [if_neg hc] at h
          refine mm_aload_n C dX12_hint_46 rfl 1 rfl 47 rfl ?_
          refine mm_get C fl_X12_77_X12 (by decide) (mc_97 k _) rfl dX12_hint_47 50 rfl ?_
          refine mm_goto C dX12_hint_50 59 (by decide) ?_
          refine mm_lv [1] rfl ?_
          exact hR59 _ h
    · rw [if_pos hc] at h
      refine mm_aload_n C dX12_hint_18 rfl 0 rfl 19 rfl ?_
      refine mm_iconst (v := (1 : Int32)) C dX12_hint_19 (by decide) 20 rfl ?_
      obtain ⟨x18, G19, ex18, h⟩ := mb2 h
      refine mm_callV [.int (1 : Int32)] C (c_X12_meets_97 ex18) wb_X12_meets wv_X12_207 (by decide) (mc_97 k _) rfl rfl rfl (by omega) rfl (Nat.le_of_ble_eq_true rfl) dX12_hint_20 23 rfl ?_
      show mm_AW z k 4 (some (.int r)) F1 G19 23 [(0, .ref (mmad k 97))] [.int x18]
      exact mm_iretW C (h) dX12_hint_23
def m_X12_count_97_L58 (F : mmS) : Nat → Int32 → Int32 → Option (Int32)
  | 0, _, _ => none
  | n3 + 1, v1, v2 => if (4 : Int32) ≤ v2 then (some ((v1))) else (Option.bind (zld F v2) fun x4 => bd1 (if x4 = (0 : Int32) then (some ((0 : Int32))) else (some ((1 : Int32)))) fun y5 => mlet (v1 + y5) fun x6 => mlet (v2 + (1 : Int32)) fun x7 => m_X12_count_97_L58 F n3 x6 x7)
def m_X12_count_97 (F : mmS) (a1 : Int32) : Option (Int32) :=
  if a1 = 0 then (some (F 97 0)) else if a1 = 1 then (some (F 97 2)) else if a1 = 2 then (some (F 97 4)) else if a1 = 3 then (some (F 97 28)) else if a1 = 4 then (bd1 (m_X12_count_97_L58 F 300 (0 : Int32) (0 : Int32)) fun y8 => some y8) else (some (-2 : Int32))
set_option maxHeartbeats 4000000 in
set_option maxRecDepth 100000 in
theorem c_X12_count_97 {l : Launch} {k : mmK} {F : mmS} {a1 : Int32} {r : Int32} (h : m_X12_count_97 F a1 = some r) : mm_T l k yX12_count cX12_count 4 (some .int) 0 [.ref (mmad k 97), .int a1] F (some (.int r)) F := by
  refine mm_start [(0, .ref (mmad k 97)), (1, .int a1)] (by decide) (Nat.le_of_ble_eq_true rfl) rfl ?_
  intro z hz C
  subst hz
  have C : mm_C z k RX12 cX12_count 4 (some .int) 0 := C
  replace h := mk0 h
  unfold m_X12_count_97 at h
  refine mm_iconst (v := (0 : Int32)) C dX12_count_0 (by decide) 1 rfl ?_
  refine mm_istore_n (lv2 := [(2, .int (0 : Int32)), (0, .ref (mmad k 97)), (1, .int a1)]) C dX12_count_1 rfl (by decide) rfl 2 rfl ?_
  refine mm_iload_n C dX12_count_2 rfl 2 rfl 3 rfl ?_
  refine mm_tsw C dX12_count_3 36 41 46 51 56 88 (by decide) (by decide) (by decide) (by decide) (by decide) (by decide) (fun hc => ?_) (fun hc => ?_) (fun hc => ?_) (fun hc => ?_) (fun hc => ?_) (fun g0 g1 g2 g3 g4 => ?_)
  · rw [if_pos hc] at h
    refine mm_aload_n C dX12_count_36 rfl 1 rfl 37 rfl ?_
    refine mm_get C fl_X12_7_X12 (by decide) (mc_97 k _) rfl dX12_count_37 40 rfl ?_
    exact mm_iretP C (h) dX12_count_40
  · rw [if_neg (show ¬ a1 = 0 by rw [hc]; decide), if_pos hc] at h
    refine mm_aload_n C dX12_count_41 rfl 1 rfl 42 rfl ?_
    refine mm_get C fl_X12_17_X12 (by decide) (mc_97 k _) rfl dX12_count_42 45 rfl ?_
    exact mm_iretP C (h) dX12_count_45
  · rw [if_neg (show ¬ a1 = 0 by rw [hc]; decide), if_neg (show ¬ a1 = 1 by rw [hc]; decide), if_pos hc] at h
    refine mm_aload_n C dX12_count_46 rfl 1 rfl 47 rfl ?_
    refine mm_get C fl_X12_23_X12 (by decide) (mc_97 k _) rfl dX12_count_47 50 rfl ?_
    exact mm_iretP C (h) dX12_count_50
  · rw [if_neg (show ¬ a1 = 0 by rw [hc]; decide), if_neg (show ¬ a1 = 1 by rw [hc]; decide), if_neg (show ¬ a1 = 2 by rw [hc]; decide), if_pos hc] at h
    refine mm_aload_n C dX12_count_51 rfl 1 rfl 52 rfl ?_
    refine mm_get C fl_X12_80_X12 (by decide) (mc_97 k _) rfl dX12_count_52 55 rfl ?_
    exact mm_iretP C (h) dX12_count_55
  · rw [if_neg (show ¬ a1 = 0 by rw [hc]; decide), if_neg (show ¬ a1 = 1 by rw [hc]; decide), if_neg (show ¬ a1 = 2 by rw [hc]; decide), if_neg (show ¬ a1 = 3 by rw [hc]; decide), if_pos hc] at h
    refine mm_iconst (v := (0 : Int32)) C dX12_count_56 (by decide) 57 rfl ?_
    refine mm_istore_n (lv2 := [(3, .int (0 : Int32)), (2, .int (0 : Int32)), (0, .ref (mmad k 97)), (1, .int a1)]) C dX12_count_57 rfl (by decide) rfl 58 rfl ?_
    refine mm_lv [2, 1, 0] rfl ?_
    have hL58 : ∀ (K : (Int32) → Option (Int32)) (hK : ∀ (v1 : Int32) , K (v1) = some r → mm_AW z k 4 (some (.int r)) F F 86 [(2, .int v1)] []) (n3 : Nat) (v1 : Int32) (v2 : Int32) , (m_X12_count_97_L58 F n3 v1 v2).bind K = some r → mm_AW z k 4 (some (.int r)) F F 58 [(0, .ref (mmad k 97)), (2, .int v1), (3, .int v2)] [] := by
      intro K hK n3
      induction n3 with
      | zero => intro v1 v2 h; rw [m_X12_count_97_L58] at h; cases h
      | succ n3 ih =>
        intro v1 v2 h
        rw [m_X12_count_97_L58] at h
        refine mm_iload_n C dX12_count_58 rfl 2 rfl 59 rfl ?_
        refine mm_iconst (v := (4 : Int32)) C dX12_count_59 (by decide) 60 rfl ?_
        refine mm_icmp_ge C dX12_count_60 86 63 (by decide) rfl (fun hc => ?_) (fun hc => ?_)
        · rw [if_pos hc] at h
          refine mm_lv [1] rfl ?_
          exact hK _ h
        · rw [if_neg hc] at h
          refine mm_iload_n C dX12_count_63 rfl 1 rfl 64 rfl ?_
          refine mm_aload_n C dX12_count_64 rfl 0 rfl 65 rfl ?_
          refine mm_get C fl_X12_53_X12 (by decide) (mc_97 k _) rfl dX12_count_65 68 rfl ?_
          refine mm_iload_n C dX12_count_68 rfl 2 rfl 69 rfl ?_
          obtain ⟨x4, ex4, h⟩ := mb h
          refine mm_zald C ex4 dX12_count_69 70 rfl ?_
          refine mj1 h (fun (y5 : Int32) => mm_AW z k 4 (some (.int r)) F F 78 [(0, .ref (mmad k 97)), (3, .int v2)] [.int y5, .int v1]) ?_ ?_
          · intro y5 h
            refine mm_iadd C dX12_count_78 79 rfl ?_
            obtain ⟨x6, ex6, h⟩ := me h
            refine mm_top ex6 ?_
            refine mm_istore_n (lv2 := [(2, .int x6), (0, .ref (mmad k 97)), (3, .int v2)]) C dX12_count_79 rfl (by decide) rfl 80 rfl ?_
            obtain ⟨x7, ex7, h⟩ := me h
            refine mm_iinc (v := x7) (lv2 := [(3, .int x7), (2, .int x6), (0, .ref (mmad k 97))]) C dX12_count_80 2 rfl (by rw [← ex7]; rfl) (by decide) rfl 83 rfl ?_
            refine mm_goto C dX12_count_83 58 (by decide) ?_
            refine mm_lv [2, 1, 0] rfl ?_
            exact ih _ _ h
          · intro K2 hR78 h
            refine mm_if_eq C dX12_count_70 77 73 (by decide) rfl (fun hc => ?_) (fun hc => ?_)
            · rw [if_pos hc] at h
              refine mm_iconst (v := (0 : Int32)) C dX12_count_77 (by decide) 78 rfl ?_
              refine mm_lv [0, 2] rfl ?_
              exact hR78 _ h
            · rw [if_neg hc] at h
              refine mm_iconst (v := (1 : Int32)) C dX12_count_73 (by decide) 74 rfl ?_
              refine mm_goto C dX12_count_74 78 (by decide) ?_
              refine mm_lv [0, 2] rfl ?_
              exact hR78 _ h
    refine mj1 h (fun (y8 : Int32) => mm_AW z k 4 (some (.int r)) F F 86 [(2, .int y8)] []) ?_ ?_
    · intro y8 h
      refine mm_iload_n C dX12_count_86 rfl 0 rfl 87 rfl ?_
      exact mm_iretP C (h) dX12_count_87
    · intro K2 hR h
      exact hL58 K2 hR 300 _ _ h
  · rw [if_neg g0, if_neg g1, if_neg g2, if_neg g3, if_neg g4] at h
    refine mm_bipush (v := (-2 : Int32)) C dX12_count_88 (by decide) 90 rfl ?_
    exact mm_iretP C (h) dX12_count_90
def m_X12_digest_97_L6 (F : mmS) : Nat → Int64 → Int32 → Option (Int64)
  | 0, _, _ => none
  | n3 + 1, v1, v2 => if (5 : Int32) ≤ v2 then (some ((v1))) else (bd1 (if v2 = (3 : Int32) then (some (v1)) else (Option.bind (m_X12_count_97 F v2) fun x4 => some ((((31 : Int64) * v1) + x4.toInt64)))) fun y5 => mlet (v2 + (1 : Int32)) fun x6 => m_X12_digest_97_L6 F n3 y5 x6)
def m_X12_digest_97_L41 (F : mmS) : Nat → Int64 → Int32 → Option (Int64)
  | 0, _, _ => none
  | n10 + 1, v8, v9 => if (F 97 0) ≤ v9 then (some ((v8))) else (Option.bind (ald F 98 v9) fun x11 => mlet (((31 : Int64) * v8) + x11.toInt64) fun x12 => mlet (v9 + (1 : Int32)) fun x13 => m_X12_digest_97_L41 F n10 x12 x13)
def m_X12_digest_97_L71 (F : mmS) : Nat → Int64 → Int32 → Option (Int64)
  | 0, _, _ => none
  | n17 + 1, v15, v16 => if (F 97 2) ≤ v16 then (some ((v15))) else (Option.bind (ald F 99 v16) fun x18 => mlet (((31 : Int64) * v15) + x18.toInt64) fun x19 => mlet (v16 + (1 : Int32)) fun x20 => m_X12_digest_97_L71 F n17 x19 x20)
def m_X12_digest_97_L128 : Nat → Int64 → Int32 → mmS → Option (Int64 × mmS)
  | 0, _, _, _ => none
  | n29 + 1, v26, v27, G28 => if (5 : Int32) ≤ v27 then (some ((v26, G28))) else (bd2 (m_X12_costOf_97 G28 v27) fun x30 G31 => mlet (((31 : Int64) * v26) + x30.toInt64) fun x32 => mlet (v27 + (1 : Int32)) fun x33 => m_X12_digest_97_L128 n29 x32 x33 G31)
def m_X12_digest_97 (F : mmS)  : Option (Int64 × mmS) :=
  bd1 (m_X12_digest_97_L6 F 300 (17 : Int64) (0 : Int32)) fun y7 => bd1 (m_X12_digest_97_L41 F 300 y7 (0 : Int32)) fun y14 => bd1 (m_X12_digest_97_L71 F 300 y14 (0 : Int32)) fun y21 => Option.bind (zld F (0 : Int32)) fun x22 => if x22 = (0 : Int32) then (some (y21, F)) else (bd2 (m_X12_reads_97 F) fun x23 G24 => mlet (((31 : Int64) * y21) + (G24 97 5).toInt64) fun x25 => bd2 (m_X12_digest_97_L128 300 x25 (0 : Int32) G24) fun y34 G35 => bd2 (m_X12_bestCost_97 G35) fun x36 G37 => mlet (((31 : Int64) * y34) + x36.toInt64) fun x38 => bd2 (m_X12_paysNot_97 G37) fun x39 G40 => mlet (((31 : Int64) * x38) + x39.toInt64) fun x41 => some (x41, G40))
set_option maxHeartbeats 4000000 in
set_option maxRecDepth 100000 in
theorem c_X12_digest_97 {l : Launch} {k : mmK} {F : mmS}  {r : Int64} {F1 : mmS} (h : m_X12_digest_97 F = some (r, F1)) : mm_T l k yX12_digest cX12_digest 5 (some .long) 7 [.ref (mmad k 97)] F (some (.long r)) F1 := by
  refine mm_start [(0, .ref (mmad k 97))] (by decide) (Nat.le_of_ble_eq_true rfl) rfl ?_
  intro z hz C
  subst hz
  have C : mm_C z k RX12 cX12_digest 5 (some .long) 7 := C
  replace h := mk0 h
  unfold m_X12_digest_97 at h
  refine mm_ldc2 (v := (17 : Int64)) C dX12_digest_0 mw_1198 3 rfl ?_
  refine mm_lstore_n (lv2 := [(1, .long (17 : Int64)), (0, .ref (mmad k 97))]) C dX12_digest_3 rfl (by decide) rfl 4 rfl ?_
  refine mm_iconst (v := (0 : Int32)) C dX12_digest_4 (by decide) 5 rfl ?_
  refine mm_istore_n (lv2 := [(3, .int (0 : Int32)), (1, .long (17 : Int64)), (0, .ref (mmad k 97))]) C dX12_digest_5 rfl (by decide) rfl 6 rfl ?_
  refine mm_lv [2, 1, 0] rfl ?_
  have hL6 : ∀ (K : (Int64) → Option (Int64 × mmS)) (hK : ∀ (v1 : Int64) , K (v1) = some (r, F1) → mm_AW z k 5 (some (.long r)) F1 F 39 [(0, .ref (mmad k 97)), (1, .long v1)] []) (n3 : Nat) (v1 : Int64) (v2 : Int32) , (m_X12_digest_97_L6 F n3 v1 v2).bind K = some (r, F1) → mm_AW z k 5 (some (.long r)) F1 F 6 [(0, .ref (mmad k 97)), (1, .long v1), (3, .int v2)] [] := by
    intro K hK n3
    induction n3 with
    | zero => intro v1 v2 h; rw [m_X12_digest_97_L6] at h; cases h
    | succ n3 ih =>
      intro v1 v2 h
      rw [m_X12_digest_97_L6] at h
      refine mm_iload_n C dX12_digest_6 rfl 2 rfl 7 rfl ?_
      refine mm_iconst (v := (5 : Int32)) C dX12_digest_7 (by decide) 8 rfl ?_
      refine mm_icmp_ge C dX12_digest_8 39 11 (by decide) rfl (fun hc => ?_) (fun hc => ?_)
      · rw [if_pos hc] at h
        refine mm_lv [0, 1] rfl ?_
        exact hK _ h
      · rw [if_neg hc] at h
        refine mm_iload_n C dX12_digest_11 rfl 2 rfl 12 rfl ?_
        refine mm_iconst (v := (3 : Int32)) C dX12_digest_12 (by decide) 13 rfl ?_
        refine mj1 h (fun (y5 : Int64) => mm_AW z k 5 (some (.long r)) F1 F 32 [(0, .ref (mmad k 97)), (3, .int v2)] [.long y5]) ?_ ?_
        · intro y5 h
          refine mm_lstore_n (lv2 := [(1, .long y5), (0, .ref (mmad k 97)), (3, .int v2)]) C dX12_digest_32 rfl (by decide) rfl 33 rfl ?_
          obtain ⟨x6, ex6, h⟩ := me h
          refine mm_iinc (v := x6) (lv2 := [(3, .int x6), (1, .long y5), (0, .ref (mmad k 97))]) C dX12_digest_33 2 rfl (by rw [← ex6]; rfl) (by decide) rfl 36 rfl ?_
          refine mm_goto C dX12_digest_36 6 (by decide) ?_
          refine mm_lv [2, 1, 0] rfl ?_
          exact ih _ _ h
        · intro K2 hR32 h
          refine mm_icmp_ne C dX12_digest_13 20 16 (by decide) rfl (fun hc => ?_) (fun hc => ?_)
          · rw [if_neg hc] at h
            refine mm_ldc2 (v := (31 : Int64)) C dX12_digest_20 mw_1199 23 rfl ?_
            refine mm_lload_n C dX12_digest_23 rfl 1 rfl 24 rfl ?_
            refine mm_lmul C dX12_digest_24 25 rfl ?_
            refine mm_aload_n C dX12_digest_25 rfl 0 rfl 26 rfl ?_
            refine mm_iload_n C dX12_digest_26 rfl 2 rfl 27 rfl ?_
            obtain ⟨x4, ex4, h⟩ := mb h
            refine mm_callV [.int v2] C (c_X12_count_97 ex4) wb_X12_count wv_X12_218 (by decide) (mc_97 k _) rfl rfl rfl (by omega) rfl (Nat.le_of_ble_eq_true rfl) dX12_digest_27 30 rfl ?_
            show mm_AW z k 5 (some (.long r)) F1 F 30 [(0, .ref (mmad k 97)), (1, .long v1), (3, .int v2)] [.int x4, .long ((31 : Int64) * v1)]
            refine mm_i2l C dX12_digest_30 31 rfl ?_
            refine mm_ladd C dX12_digest_31 32 rfl ?_
            refine mm_lv [0, 2] rfl ?_
            exact hR32 _ h
          · rw [if_pos hc] at h
            refine mm_lload_n C dX12_digest_16 rfl 1 rfl 17 rfl ?_
            refine mm_goto C dX12_digest_17 32 (by decide) ?_
            refine mm_lv [0, 2] rfl ?_
            exact hR32 _ h
  refine mj1 h (fun (y7 : Int64) => mm_AW z k 5 (some (.long r)) F1 F 39 [(0, .ref (mmad k 97)), (1, .long y7)] []) ?_ ?_
  · intro y7 h
    refine mm_iconst (v := (0 : Int32)) C dX12_digest_39 (by decide) 40 rfl ?_
    refine mm_istore_n (lv2 := [(3, .int (0 : Int32)), (0, .ref (mmad k 97)), (1, .long y7)]) C dX12_digest_40 rfl (by decide) rfl 41 rfl ?_
    refine mm_lv [1, 2, 0] rfl ?_
    have hL41 : ∀ (K : (Int64) → Option (Int64 × mmS)) (hK : ∀ (v8 : Int64) , K (v8) = some (r, F1) → mm_AW z k 5 (some (.long r)) F1 F 69 [(0, .ref (mmad k 97)), (1, .long v8)] []) (n10 : Nat) (v8 : Int64) (v9 : Int32) , (m_X12_digest_97_L41 F n10 v8 v9).bind K = some (r, F1) → mm_AW z k 5 (some (.long r)) F1 F 41 [(0, .ref (mmad k 97)), (1, .long v8), (3, .int v9)] [] := by
      intro K hK n10
      induction n10 with
      | zero => intro v8 v9 h; rw [m_X12_digest_97_L41] at h; cases h
      | succ n10 ih =>
        intro v8 v9 h
        rw [m_X12_digest_97_L41] at h
        refine mm_iload_n C dX12_digest_41 rfl 2 rfl 42 rfl ?_
        refine mm_aload_n C dX12_digest_42 rfl 0 rfl 43 rfl ?_
        refine mm_get C fl_X12_7_X12 (by decide) (mc_97 k _) rfl dX12_digest_43 46 rfl ?_
        refine mm_icmp_ge C dX12_digest_46 69 49 (by decide) rfl (fun hc => ?_) (fun hc => ?_)
        · rw [if_pos hc] at h
          refine mm_lv [0, 1] rfl ?_
          exact hK _ h
        · rw [if_neg hc] at h
          refine mm_ldc2 (v := (31 : Int64)) C dX12_digest_49 mw_1199 52 rfl ?_
          refine mm_lload_n C dX12_digest_52 rfl 1 rfl 53 rfl ?_
          refine mm_lmul C dX12_digest_53 54 rfl ?_
          refine mm_aload_n C dX12_digest_54 rfl 0 rfl 55 rfl ?_
          refine mm_get C fl_X12_13_X12 (by decide) (mc_97 k _) rfl dX12_digest_55 58 rfl ?_
          refine mm_iload_n C dX12_digest_58 rfl 2 rfl 59 rfl ?_
          obtain ⟨x11, ex11, h⟩ := mb h
          refine mm_iald C ex11 dX12_digest_59 60 rfl ?_
          refine mm_i2l C dX12_digest_60 61 rfl ?_
          refine mm_ladd C dX12_digest_61 62 rfl ?_
          obtain ⟨x12, ex12, h⟩ := me h
          refine mm_topl ex12 ?_
          refine mm_lstore_n (lv2 := [(1, .long x12), (0, .ref (mmad k 97)), (3, .int v9)]) C dX12_digest_62 rfl (by decide) rfl 63 rfl ?_
          obtain ⟨x13, ex13, h⟩ := me h
          refine mm_iinc (v := x13) (lv2 := [(3, .int x13), (1, .long x12), (0, .ref (mmad k 97))]) C dX12_digest_63 2 rfl (by rw [← ex13]; rfl) (by decide) rfl 66 rfl ?_
          refine mm_goto C dX12_digest_66 41 (by decide) ?_
          refine mm_lv [2, 1, 0] rfl ?_
          exact ih _ _ h
    refine mj1 h (fun (y14 : Int64) => mm_AW z k 5 (some (.long r)) F1 F 69 [(0, .ref (mmad k 97)), (1, .long y14)] []) ?_ ?_
    · intro y14 h
      refine mm_iconst (v := (0 : Int32)) C dX12_digest_69 (by decide) 70 rfl ?_
      refine mm_istore_n (lv2 := [(3, .int (0 : Int32)), (0, .ref (mmad k 97)), (1, .long y14)]) C dX12_digest_70 rfl (by decide) rfl 71 rfl ?_
      refine mm_lv [1, 2, 0] rfl ?_
      have hL71 : ∀ (K : (Int64) → Option (Int64 × mmS)) (hK : ∀ (v15 : Int64) , K (v15) = some (r, F1) → mm_AW z k 5 (some (.long r)) F1 F 99 [(0, .ref (mmad k 97)), (1, .long v15)] []) (n17 : Nat) (v15 : Int64) (v16 : Int32) , (m_X12_digest_97_L71 F n17 v15 v16).bind K = some (r, F1) → mm_AW z k 5 (some (.long r)) F1 F 71 [(0, .ref (mmad k 97)), (1, .long v15), (3, .int v16)] [] := by
        intro K hK n17
        induction n17 with
        | zero => intro v15 v16 h; rw [m_X12_digest_97_L71] at h; cases h
        | succ n17 ih =>
          intro v15 v16 h
          rw [m_X12_digest_97_L71] at h
          refine mm_iload_n C dX12_digest_71 rfl 2 rfl 72 rfl ?_
          refine mm_aload_n C dX12_digest_72 rfl 0 rfl 73 rfl ?_
          refine mm_get C fl_X12_17_X12 (by decide) (mc_97 k _) rfl dX12_digest_73 76 rfl ?_
          refine mm_icmp_ge C dX12_digest_76 99 79 (by decide) rfl (fun hc => ?_) (fun hc => ?_)
          · rw [if_pos hc] at h
            refine mm_lv [0, 1] rfl ?_
            exact hK _ h
          · rw [if_neg hc] at h
            refine mm_ldc2 (v := (31 : Int64)) C dX12_digest_79 mw_1199 82 rfl ?_
            refine mm_lload_n C dX12_digest_82 rfl 1 rfl 83 rfl ?_
            refine mm_lmul C dX12_digest_83 84 rfl ?_
            refine mm_aload_n C dX12_digest_84 rfl 0 rfl 85 rfl ?_
            refine mm_get C fl_X12_20_X12 (by decide) (mc_97 k _) rfl dX12_digest_85 88 rfl ?_
            refine mm_iload_n C dX12_digest_88 rfl 2 rfl 89 rfl ?_
            obtain ⟨x18, ex18, h⟩ := mb h
            refine mm_iald C ex18 dX12_digest_89 90 rfl ?_
            refine mm_i2l C dX12_digest_90 91 rfl ?_
            refine mm_ladd C dX12_digest_91 92 rfl ?_
            obtain ⟨x19, ex19, h⟩ := me h
            refine mm_topl ex19 ?_
            refine mm_lstore_n (lv2 := [(1, .long x19), (0, .ref (mmad k 97)), (3, .int v16)]) C dX12_digest_92 rfl (by decide) rfl 93 rfl ?_
            obtain ⟨x20, ex20, h⟩ := me h
            refine mm_iinc (v := x20) (lv2 := [(3, .int x20), (1, .long x19), (0, .ref (mmad k 97))]) C dX12_digest_93 2 rfl (by rw [← ex20]; rfl) (by decide) rfl 96 rfl ?_
            refine mm_goto C dX12_digest_96 71 (by decide) ?_
            refine mm_lv [2, 1, 0] rfl ?_
            exact ih _ _ h
      refine mj1 h (fun (y21 : Int64) => mm_AW z k 5 (some (.long r)) F1 F 99 [(0, .ref (mmad k 97)), (1, .long y21)] []) ?_ ?_
      · intro y21 h
        refine mm_aload_n C dX12_digest_99 rfl 0 rfl 100 rfl ?_
        refine mm_get C fl_X12_53_X12 (by decide) (mc_97 k _) rfl dX12_digest_100 103 rfl ?_
        refine mm_iconst (v := (0 : Int32)) C dX12_digest_103 (by decide) 104 rfl ?_
        obtain ⟨x22, ex22, h⟩ := mb h
        refine mm_zald C ex22 dX12_digest_104 105 rfl ?_
        refine mm_if_eq C dX12_digest_105 178 108 (by decide) rfl (fun hc => ?_) (fun hc => ?_)
        · rw [if_pos hc] at h
          refine mm_lload_n C dX12_digest_178 rfl 1 rfl 179 rfl ?_
          exact mm_lretW C (h) dX12_digest_179
        · rw [if_neg hc] at h
          refine mm_aload_n C dX12_digest_108 rfl 0 rfl 109 rfl ?_
          obtain ⟨x23, G24, ex23, h⟩ := mb2 h
          refine mm_callV [] C (c_X12_reads_97 ex23) wb_X12_reads wv_X12_83 (by decide) (mc_97 k _) rfl rfl rfl (by omega) rfl (Nat.le_of_ble_eq_true rfl) dX12_digest_109 112 rfl ?_
          show mm_AW z k 5 (some (.long r)) F1 G24 112 [(0, .ref (mmad k 97)), (1, .long y21)] [.int x23]
          refine mm_istore_n (lv2 := [(3, .int x23), (0, .ref (mmad k 97)), (1, .long y21)]) C dX12_digest_112 rfl (by decide) rfl 113 rfl ?_
          refine mm_ldc2 (v := (31 : Int64)) C dX12_digest_113 mw_1199 116 rfl ?_
          refine mm_lload_n C dX12_digest_116 rfl 2 rfl 117 rfl ?_
          refine mm_lmul C dX12_digest_117 118 rfl ?_
          refine mm_aload_n C dX12_digest_118 rfl 1 rfl 119 rfl ?_
          refine mm_get C fl_X12_77_X12 (by decide) (mc_97 k _) rfl dX12_digest_119 122 rfl ?_
          refine mm_i2l C dX12_digest_122 123 rfl ?_
          refine mm_ladd C dX12_digest_123 124 rfl ?_
          obtain ⟨x25, ex25, h⟩ := me h
          refine mm_topl ex25 ?_
          refine mm_lstore_n (lv2 := [(1, .long x25), (3, .int x23), (0, .ref (mmad k 97))]) C dX12_digest_124 rfl (by decide) rfl 125 rfl ?_
          refine mm_iconst (v := (0 : Int32)) C dX12_digest_125 (by decide) 126 rfl ?_
          refine mm_istore (lv2 := [(4, .int (0 : Int32)), (1, .long x25), (3, .int x23), (0, .ref (mmad k 97))]) C dX12_digest_126 (by decide) rfl 128 rfl ?_
          refine mm_lv [3, 1, 0] rfl ?_
          have hL128 : ∀ (K : (Int64 × mmS) → Option (Int64 × mmS)) (hK : ∀ (v26 : Int64) (G28 : mmS) , K (v26, G28) = some (r, F1) → mm_AW z k 5 (some (.long r)) F1 G28 154 [(0, .ref (mmad k 97)), (1, .long v26)] []) (n29 : Nat) (v26 : Int64) (v27 : Int32) (G28 : mmS) , (m_X12_digest_97_L128 n29 v26 v27 G28).bind K = some (r, F1) → mm_AW z k 5 (some (.long r)) F1 G28 128 [(0, .ref (mmad k 97)), (1, .long v26), (4, .int v27)] [] := by
            intro K hK n29
            induction n29 with
            | zero => intro v26 v27 G28 h; rw [m_X12_digest_97_L128] at h; cases h
            | succ n29 ih =>
              intro v26 v27 G28 h
              rw [m_X12_digest_97_L128] at h
              refine mm_iload C dX12_digest_128 2 rfl 130 rfl ?_
              refine mm_iconst (v := (5 : Int32)) C dX12_digest_130 (by decide) 131 rfl ?_
              refine mm_icmp_ge C dX12_digest_131 154 134 (by decide) rfl (fun hc => ?_) (fun hc => ?_)
              · rw [if_pos hc] at h
                refine mm_lv [0, 1] rfl ?_
                exact hK _ _ h
              · rw [if_neg hc] at h
                refine mm_ldc2 (v := (31 : Int64)) C dX12_digest_134 mw_1199 137 rfl ?_
                refine mm_lload_n C dX12_digest_137 rfl 1 rfl 138 rfl ?_
                refine mm_lmul C dX12_digest_138 139 rfl ?_
                refine mm_aload_n C dX12_digest_139 rfl 0 rfl 140 rfl ?_
                refine mm_iload C dX12_digest_140 2 rfl 142 rfl ?_
                obtain ⟨x30, G31, ex30, h⟩ := mb2 h
                refine mm_callV [.int v27] C (c_X12_costOf_97 ex30) wb_X12_costOf wv_X12_180 (by decide) (mc_97 k _) rfl rfl rfl (by omega) rfl (Nat.le_of_ble_eq_true rfl) dX12_digest_142 145 rfl ?_
                show mm_AW z k 5 (some (.long r)) F1 G31 145 [(0, .ref (mmad k 97)), (1, .long v26), (4, .int v27)] [.int x30, .long ((31 : Int64) * v26)]
                refine mm_i2l C dX12_digest_145 146 rfl ?_
                refine mm_ladd C dX12_digest_146 147 rfl ?_
                obtain ⟨x32, ex32, h⟩ := me h
                refine mm_topl ex32 ?_
                refine mm_lstore_n (lv2 := [(1, .long x32), (0, .ref (mmad k 97)), (4, .int v27)]) C dX12_digest_147 rfl (by decide) rfl 148 rfl ?_
                obtain ⟨x33, ex33, h⟩ := me h
                refine mm_iinc (v := x33) (lv2 := [(4, .int x33), (1, .long x32), (0, .ref (mmad k 97))]) C dX12_digest_148 2 rfl (by rw [← ex33]; rfl) (by decide) rfl 151 rfl ?_
                refine mm_goto C dX12_digest_151 128 (by decide) ?_
                refine mm_lv [2, 1, 0] rfl ?_
                exact ih _ _ _ h
          refine mj2 h (fun (y34 : Int64) (G35 : mmS) => mm_AW z k 5 (some (.long r)) F1 G35 154 [(0, .ref (mmad k 97)), (1, .long y34)] []) ?_ ?_
          · intro y34 G35 h
            refine mm_ldc2 (v := (31 : Int64)) C dX12_digest_154 mw_1199 157 rfl ?_
            refine mm_lload_n C dX12_digest_157 rfl 1 rfl 158 rfl ?_
            refine mm_lmul C dX12_digest_158 159 rfl ?_
            refine mm_aload_n C dX12_digest_159 rfl 0 rfl 160 rfl ?_
            obtain ⟨x36, G37, ex36, h⟩ := mb2 h
            refine mm_callV [] C (c_X12_bestCost_97 ex36) wb_X12_bestCost wv_X12_112 (by decide) (mc_97 k _) rfl rfl rfl (by omega) rfl (Nat.le_of_ble_eq_true rfl) dX12_digest_160 163 rfl ?_
            show mm_AW z k 5 (some (.long r)) F1 G37 163 [(0, .ref (mmad k 97)), (1, .long y34)] [.int x36, .long ((31 : Int64) * y34)]
            refine mm_i2l C dX12_digest_163 164 rfl ?_
            refine mm_ladd C dX12_digest_164 165 rfl ?_
            obtain ⟨x38, ex38, h⟩ := me h
            refine mm_topl ex38 ?_
            refine mm_lstore_n (lv2 := [(1, .long x38), (0, .ref (mmad k 97))]) C dX12_digest_165 rfl (by decide) rfl 166 rfl ?_
            refine mm_ldc2 (v := (31 : Int64)) C dX12_digest_166 mw_1199 169 rfl ?_
            refine mm_lload_n C dX12_digest_169 rfl 0 rfl 170 rfl ?_
            refine mm_lmul C dX12_digest_170 171 rfl ?_
            refine mm_aload_n C dX12_digest_171 rfl 1 rfl 172 rfl ?_
            obtain ⟨x39, G40, ex39, h⟩ := mb2 h
            refine mm_callV [] C (c_X12_paysNot_97 ex39) wb_X12_paysNot wv_X12_201 (by decide) (mc_97 k _) rfl rfl rfl (by omega) rfl (Nat.le_of_ble_eq_true rfl) dX12_digest_172 175 rfl ?_
            show mm_AW z k 5 (some (.long r)) F1 G40 175 [(1, .long x38), (0, .ref (mmad k 97))] [.int x39, .long ((31 : Int64) * x38)]
            refine mm_i2l C dX12_digest_175 176 rfl ?_
            refine mm_ladd C dX12_digest_176 177 rfl ?_
            obtain ⟨x41, ex41, h⟩ := me h
            refine mm_topl ex41 ?_
            refine mm_lstore_n (lv2 := [(1, .long x41), (0, .ref (mmad k 97))]) C dX12_digest_177 rfl (by decide) rfl 178 rfl ?_
            refine mm_lload_n C dX12_digest_178 rfl 0 rfl 179 rfl ?_
            exact mm_lretW C (h) dX12_digest_179
          · intro K2 hR h
            exact hL128 K2 hR 300 _ _ _ h
      · intro K2 hR h
        exact hL71 K2 hR 300 _ _ h
    · intro K2 hR h
      exact hL41 K2 hR 300 _ _ h
  · intro K2 hR h
    exact hL6 K2 hR 300 _ _ h
