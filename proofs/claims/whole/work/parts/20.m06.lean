def m_X1_nearestAbove_81_L4 (a1 : Int32) (F : mmS) : Nat → Int32 → Int32 → Option (Int32)
  | 0, _, _ => none
  | n3 + 1, v1, v2 => if (F 1 1) ≤ v2 then (some ((v1))) else (Option.bind (ald F 82 v2) fun x4 => bd1 (if x4 ≤ a1 then (some (v1)) else (if v1 = (-1 : Int32) then (some (v2)) else (Option.bind (ald F 82 v2) fun x5 => Option.bind (ald F 82 v1) fun x6 => if x6 ≤ x5 then (some (v1)) else (some (v2))))) fun y7 => mlet (v2 + (1 : Int32)) fun x8 => m_X1_nearestAbove_81_L4 a1 F n3 y7 x8)
def m_X1_nearestAbove_81 (F : mmS) (a1 : Int32) : Option (Int32) :=
  bd1 (m_X1_nearestAbove_81_L4 a1 F 300 (-1 : Int32) (0 : Int32)) fun y9 => some y9
set_option maxHeartbeats 4000000 in
set_option maxRecDepth 100000 in
theorem c_X1_nearestAbove_81 {l : Launch} {k : mmK} {F : mmS} {a1 : Int32} {r : Int32} (h : m_X1_nearestAbove_81 F a1 = some r) : mm_T l k yX1_nearestAbove cX1_nearestAbove 4 (some .int) 0 [.ref (mmad k 81), .int a1] F (some (.int r)) F := by
  refine mm_start [(0, .ref (mmad k 81)), (1, .int a1)] (by decide) (Nat.le_of_ble_eq_true rfl) rfl ?_
  intro z hz C
  subst hz
  have C : mm_C z k RX1 cX1_nearestAbove 4 (some .int) 0 := C
  replace h := mk0 h
  unfold m_X1_nearestAbove_81 at h
  refine mm_iconst (v := (-1 : Int32)) C dX1_nearestAbove_0 (by decide) 1 rfl ?_
  refine mm_istore_n (lv2 := [(2, .int (-1 : Int32)), (0, .ref (mmad k 81)), (1, .int a1)]) C dX1_nearestAbove_1 rfl (by decide) rfl 2 rfl ?_
  refine mm_iconst (v := (0 : Int32)) C dX1_nearestAbove_2 (by decide) 3 rfl ?_
  refine mm_istore_n (lv2 := [(3, .int (0 : Int32)), (2, .int (-1 : Int32)), (0, .ref (mmad k 81)), (1, .int a1)]) C dX1_nearestAbove_3 rfl (by decide) rfl 4 rfl ?_
  refine mm_lv [2, 3, 1, 0] rfl ?_
  have hL4 : ∀ (K : (Int32) → Option (Int32)) (hK : ∀ (v1 : Int32) , K (v1) = some r → mm_AW z k 4 (some (.int r)) F F 53 [(2, .int v1)] []) (n3 : Nat) (v1 : Int32) (v2 : Int32) , (m_X1_nearestAbove_81_L4 a1 F n3 v1 v2).bind K = some r → mm_AW z k 4 (some (.int r)) F F 4 [(0, .ref (mmad k 81)), (1, .int a1), (2, .int v1), (3, .int v2)] [] := by
    intro K hK n3
    induction n3 with
    | zero => intro v1 v2 h; rw [m_X1_nearestAbove_81_L4] at h; cases h
    | succ n3 ih =>
      intro v1 v2 h
      rw [m_X1_nearestAbove_81_L4] at h
      refine mm_iload_n C dX1_nearestAbove_4 rfl 3 rfl 5 rfl ?_
      refine mm_aload_n C dX1_nearestAbove_5 rfl 0 rfl 6 rfl ?_
      refine mm_get C fl_X1_9_X1 (by decide) (mc_81 k _) rfl dX1_nearestAbove_6 9 rfl ?_
      refine mm_get C fl_X1_49_X3 (by decide) (mc_1 k _) rfl dX1_nearestAbove_9 12 rfl ?_
      refine mm_icmp_ge C dX1_nearestAbove_12 53 15 (by decide) rfl (fun hc => ?_) (fun hc => ?_)
      · rw [if_pos hc] at h
        refine mm_lv [2] rfl ?_
        exact hK _ h
      · rw [if_neg hc] at h
        refine mm_aload_n C dX1_nearestAbove_15 rfl 0 rfl 16 rfl ?_
        refine mm_get C fl_X1_36_X1 (by decide) (mc_81 k _) rfl dX1_nearestAbove_16 19 rfl ?_
        refine mm_iload_n C dX1_nearestAbove_19 rfl 3 rfl 20 rfl ?_
        obtain ⟨x4, ex4, h⟩ := mb h
        refine mm_iald C ex4 dX1_nearestAbove_20 21 rfl ?_
        refine mm_iload_n C dX1_nearestAbove_21 rfl 1 rfl 22 rfl ?_
        refine mj1 h (fun (y7 : Int32) => mm_AW z k 4 (some (.int r)) F F 47 [(0, .ref (mmad k 81)), (1, .int a1), (2, .int y7), (3, .int v2)] []) ?_ ?_
        · intro y7 h
          obtain ⟨x8, ex8, h⟩ := me h
          refine mm_iinc (v := x8) (lv2 := [(3, .int x8), (0, .ref (mmad k 81)), (1, .int a1), (2, .int y7)]) C dX1_nearestAbove_47 3 rfl (by rw [← ex8]; rfl) (by decide) rfl 50 rfl ?_
          refine mm_goto C dX1_nearestAbove_50 4 (by decide) ?_
          refine mm_lv [1, 2, 3, 0] rfl ?_
          exact ih _ _ h
        · intro K2 hR47 h
          refine mm_icmp_le C dX1_nearestAbove_22 47 25 (by decide) rfl (fun hc => ?_) (fun hc => ?_)
          · rw [if_pos hc] at h
            exact hR47 _ h
          · rw [if_neg hc] at h
            refine mm_iload_n C dX1_nearestAbove_25 rfl 2 rfl 26 rfl ?_
            refine mm_iconst (v := (-1 : Int32)) C dX1_nearestAbove_26 (by decide) 27 rfl ?_
            refine mm_icmp_eq C dX1_nearestAbove_27 45 30 (by decide) rfl (fun hc => ?_) (fun hc => ?_)
            · rw [if_pos hc] at h
              refine mm_iload_n C dX1_nearestAbove_45 rfl 3 rfl 46 rfl ?_
              refine mm_istore_n (lv2 := [(2, .int v2), (0, .ref (mmad k 81)), (1, .int a1), (3, .int v2)]) C dX1_nearestAbove_46 rfl (by decide) rfl 47 rfl ?_
              refine mm_lv [1, 2, 0, 3] rfl ?_
              exact hR47 _ h
            · rw [if_neg hc] at h
              refine mm_aload_n C dX1_nearestAbove_30 rfl 0 rfl 31 rfl ?_
              refine mm_get C fl_X1_36_X1 (by decide) (mc_81 k _) rfl dX1_nearestAbove_31 34 rfl ?_
              refine mm_iload_n C dX1_nearestAbove_34 rfl 3 rfl 35 rfl ?_
              obtain ⟨x5, ex5, h⟩ := mb h
              refine mm_iald C ex5 dX1_nearestAbove_35 36 rfl ?_
              refine mm_aload_n C dX1_nearestAbove_36 rfl 0 rfl 37 rfl ?_
              refine mm_get C fl_X1_36_X1 (by decide) (mc_81 k _) rfl dX1_nearestAbove_37 40 rfl ?_
              refine mm_iload_n C dX1_nearestAbove_40 rfl 2 rfl 41 rfl ?_
              obtain ⟨x6, ex6, h⟩ := mb h
              refine mm_iald C ex6 dX1_nearestAbove_41 42 rfl ?_
              refine mm_icmp_ge C dX1_nearestAbove_42 47 45 (by decide) rfl (fun hc => ?_) (fun hc => ?_)
              · rw [if_pos hc] at h
                exact hR47 _ h
              · rw [if_neg hc] at h
                refine mm_iload_n C dX1_nearestAbove_45 rfl 3 rfl 46 rfl ?_
                refine mm_istore_n (lv2 := [(2, .int v2), (0, .ref (mmad k 81)), (1, .int a1), (3, .int v2)]) C dX1_nearestAbove_46 rfl (by decide) rfl 47 rfl ?_
                refine mm_lv [1, 2, 0, 3] rfl ?_
                exact hR47 _ h
  refine mj1 h (fun (y9 : Int32) => mm_AW z k 4 (some (.int r)) F F 53 [(2, .int y9)] []) ?_ ?_
  · intro y9 h
    refine mm_iload_n C dX1_nearestAbove_53 rfl 0 rfl 54 rfl ?_
    exact mm_iretP C (h) dX1_nearestAbove_54
  · intro K2 hR h
    exact hL4 K2 hR 300 _ _ h
def m_X7_send_81 (F : mmS) (a1 : Int32) (a2 : Int32) : Option (mmS) :=
  Option.bind (ald F 82 a1) fun x1 => mlet (stF F 81 2 ((F 81 2) + (mabs (x1 - a2)))) fun G2 => Option.bind (ast G2 82 a1 a2) fun G3 => mlet (stF G3 81 3 a1) fun G4 => some G4
set_option maxHeartbeats 4000000 in
set_option maxRecDepth 100000 in
theorem c_X7_send_81 {l : Launch} {k : mmK} {F : mmS} {a1 : Int32} {a2 : Int32} {F1 : mmS} (h : m_X7_send_81 F a1 a2 = some F1) : mm_T l k yX7_send cX7_send 3 none 1 [.ref (mmad k 81), .int a1, .int a2] F none F1 := by
  refine mm_start [(0, .ref (mmad k 81)), (1, .int a1), (2, .int a2)] (by decide) (Nat.le_of_ble_eq_true rfl) rfl ?_
  intro z hz C
  subst hz
  have C : mm_C z k RX7 cX7_send 3 none 1 := C
  replace h := mk0 h
  unfold m_X7_send_81 at h
  refine mm_aload_n C dX7_send_0 rfl 0 rfl 1 rfl ?_
  refine mm_dup C dX7_send_1 rfl 2 rfl ?_
  refine mm_get C fl_X7_34_X1 (by decide) (mc_81 k _) rfl dX7_send_2 5 rfl ?_
  refine mm_aload_n C dX7_send_5 rfl 0 rfl 6 rfl ?_
  refine mm_get C fl_X7_9_X1 (by decide) (mc_81 k _) rfl dX7_send_6 9 rfl ?_
  refine mm_iload_n C dX7_send_9 rfl 1 rfl 10 rfl ?_
  obtain ⟨x1, ex1, h⟩ := mb h
  refine mm_iald C ex1 dX7_send_10 11 rfl ?_
  refine mm_iload_n C dX7_send_11 rfl 2 rfl 12 rfl ?_
  refine mm_isub C dX7_send_12 13 rfl ?_
  refine mm_abs C mw_599 mw_552 mw_62 mw_553 (by omega) (Nat.le_trans (Nat.le_of_ble_eq_true rfl : _ ≤ 40) (by omega)) dX7_send_13 16 rfl ?_
  refine mm_iadd C dX7_send_16 17 rfl ?_
  obtain ⟨G2, eG2, h⟩ := me h
  refine mm_put (x := ((F 81 2) + (mabs (x1 - a2)))) (ty := .int) C fl_X7_34_X1 (by decide) (mc_81 k _) (mc_81 k _) tyX1 tyX1_ok nmX1 rfl (by decide +kernel) rfl rfl (Nat.le_of_ble_eq_true rfl) eG2 dX7_send_17 20 rfl ?_
  refine mm_aload_n C dX7_send_20 rfl 0 rfl 21 rfl ?_
  refine mm_get C fl_X7_9_X1 (by decide) (mc_81 k _) rfl dX7_send_21 24 rfl ?_
  refine mm_iload_n C dX7_send_24 rfl 1 rfl 25 rfl ?_
  refine mm_iload_n C dX7_send_25 rfl 2 rfl 26 rfl ?_
  obtain ⟨G3, eG3, h⟩ := mb h
  refine mm_iast C eG3 dX7_send_26 27 rfl ?_
  refine mm_aload_n C dX7_send_27 rfl 0 rfl 28 rfl ?_
  refine mm_iload_n C dX7_send_28 rfl 1 rfl 29 rfl ?_
  obtain ⟨G4, eG4, h⟩ := me h
  refine mm_put (x := a1) (ty := .int) C fl_X7_15_X1 (by decide) (mc_81 k _) (mc_81 k _) tyX1 tyX1_ok nmX1 rfl (by decide +kernel) rfl rfl (Nat.le_of_ble_eq_true rfl) eG4 dX7_send_29 32 rfl ?_
  exact mm_vretW C (h) dX7_send_32
def m_X1_meet_81 (F : mmS) (a1 : Int32) (a2 : Int32) : Option (mmS) :=
  Option.bind (ald F 2 a1) fun x1 => Option.bind (m_X1_isServed_81 F x1) fun x2 => if x2 = (0 : Int32) then (Option.bind (m_X1_nearestBelow_81 F x1) fun x3 => Option.bind (m_X1_nearestAbove_81 F x1) fun x4 => if x3 = (-1 : Int32) then (if x3 = (-1 : Int32) then (if x4 = (-1 : Int32) then (some F) else (Option.bind (m_X7_send_81 F x4 x1) fun G5 => some G5)) else (Option.bind (m_X7_send_81 F x3 x1) fun G6 => some G6)) else (if x4 = (-1 : Int32) then (if x3 = (-1 : Int32) then (if x4 = (-1 : Int32) then (some F) else (Option.bind (m_X7_send_81 F x4 x1) fun G7 => some G7)) else (Option.bind (m_X7_send_81 F x3 x1) fun G8 => some G8)) else (Option.bind (ald F 82 x3) fun x9 => Option.bind (ald F 82 x4) fun x10 => mlet (mmin (x1 - x9) (x10 - x1)) fun x11 => Option.bind (ald F 82 x3) fun x12 => Option.bind (m_X7_send_81 F x3 (x12 + x11)) fun G13 => Option.bind (ald G13 82 x4) fun x14 => Option.bind (m_X7_send_81 G13 x4 (x14 - x11)) fun G15 => some G15))) else (mlet (stF F 81 3 (-1 : Int32)) fun G16 => some G16)
set_option maxHeartbeats 4000000 in
set_option maxRecDepth 100000 in
theorem c_X1_meet_81 {l : Launch} {k : mmK} {F : mmS} {a1 : Int32} {a2 : Int32} {F1 : mmS} (h : m_X1_meet_81 F a1 a2 = some F1) : mm_T l k yX1_meet cX1_meet 7 none 2 [.ref (mmad k 81), .int a1, .int a2] F none F1 := by
  refine mm_start [(0, .ref (mmad k 81)), (1, .int a1), (2, .int a2)] (by decide) (Nat.le_of_ble_eq_true rfl) rfl ?_
  intro z hz C
  subst hz
  have C : mm_C z k RX1 cX1_meet 7 none 2 := C
  replace h := mk0 h
  unfold m_X1_meet_81 at h
  refine mm_aload_n C dX1_meet_0 rfl 0 rfl 1 rfl ?_
  refine mm_get C fl_X1_9_X1 (by decide) (mc_81 k _) rfl dX1_meet_1 4 rfl ?_
  refine mm_get C fl_X1_15_X3 (by decide) (mc_1 k _) rfl dX1_meet_4 7 rfl ?_
  refine mm_iload_n C dX1_meet_7 rfl 1 rfl 8 rfl ?_
  obtain ⟨x1, ex1, h⟩ := mb h
  refine mm_iald C ex1 dX1_meet_8 9 rfl ?_
  refine mm_istore_n (lv2 := [(3, .int x1), (0, .ref (mmad k 81)), (1, .int a1), (2, .int a2)]) C dX1_meet_9 rfl (by decide) rfl 10 rfl ?_
  refine mm_aload_n C dX1_meet_10 rfl 1 rfl 11 rfl ?_
  refine mm_iload_n C dX1_meet_11 rfl 0 rfl 12 rfl ?_
  obtain ⟨x2, ex2, h⟩ := mb h
  refine mm_callV [.int x1] C (c_X1_isServed_81 ex2) wb_X1_isServed wv_X1_21 (by decide) (mc_81 k _) rfl rfl rfl (by omega) rfl (Nat.le_of_ble_eq_true rfl) dX1_meet_12 15 rfl ?_
  show mm_AW z k 7 none F1 F 15 [(3, .int x1), (0, .ref (mmad k 81)), (1, .int a1), (2, .int a2)] [.int x2]
  refine mm_if_eq C dX1_meet_15 24 18 (by decide) rfl (fun hc => ?_) (fun hc => ?_)
  · rw [if_pos hc] at h
    refine mm_aload_n C dX1_meet_24 rfl 1 rfl 25 rfl ?_
    refine mm_iload_n C dX1_meet_25 rfl 0 rfl 26 rfl ?_
    obtain ⟨x3, ex3, h⟩ := mb h
    refine mm_callV [.int x1] C (c_X1_nearestBelow_81 ex3) wb_X1_nearestBelow wv_X1_29 (by decide) (mc_81 k _) rfl rfl rfl (by omega) rfl (Nat.le_of_ble_eq_true rfl) dX1_meet_26 29 rfl ?_
    show mm_AW z k 7 none F1 F 29 [(3, .int x1), (0, .ref (mmad k 81)), (1, .int a1), (2, .int a2)] [.int x3]
    refine mm_istore (lv2 := [(4, .int x3), (3, .int x1), (0, .ref (mmad k 81)), (1, .int a1), (2, .int a2)]) C dX1_meet_29 (by decide) rfl 31 rfl ?_
    refine mm_aload_n C dX1_meet_31 rfl 2 rfl 32 rfl ?_
    refine mm_iload_n C dX1_meet_32 rfl 1 rfl 33 rfl ?_
    obtain ⟨x4, ex4, h⟩ := mb h
    refine mm_callV [.int x1] C (c_X1_nearestAbove_81 ex4) wb_X1_nearestAbove wv_X1_33 (by decide) (mc_81 k _) rfl rfl rfl (by omega) rfl (Nat.le_of_ble_eq_true rfl) dX1_meet_33 36 rfl ?_
    show mm_AW z k 7 none F1 F 36 [(4, .int x3), (3, .int x1), (0, .ref (mmad k 81)), (1, .int a1), (2, .int a2)] [.int x4]
    refine mm_istore (lv2 := [(5, .int x4), (4, .int x3), (3, .int x1), (0, .ref (mmad k 81)), (1, .int a1), (2, .int a2)]) C dX1_meet_36 (by decide) rfl 38 rfl ?_
    refine mm_iload C dX1_meet_38 1 rfl 40 rfl ?_
    refine mm_iconst (v := (-1 : Int32)) C dX1_meet_40 (by decide) 41 rfl ?_
    refine mm_icmp_eq C dX1_meet_41 108 44 (by decide) rfl (fun hc => ?_) (fun hc => ?_)
    · rw [if_pos hc] at h
      refine mm_iload C dX1_meet_108 1 rfl 110 rfl ?_
      refine mm_iconst (v := (-1 : Int32)) C dX1_meet_110 (by decide) 111 rfl ?_
      refine mm_icmp_eq C dX1_meet_111 124 114 (by decide) rfl (fun hc => ?_) (fun hc => ?_)
      · rw [if_pos hc] at h
        refine mm_iload C dX1_meet_124 0 rfl 126 rfl ?_
        refine mm_iconst (v := (-1 : Int32)) C dX1_meet_126 (by decide) 127 rfl ?_
        refine mm_icmp_eq C dX1_meet_127 137 130 (by decide) rfl (fun hc => ?_) (fun hc => ?_)
        · rw [if_pos hc] at h
          exact mm_vretW C (h) dX1_meet_137
        · rw [if_neg hc] at h
          refine mm_aload_n C dX1_meet_130 rfl 3 rfl 131 rfl ?_
          refine mm_iload C dX1_meet_131 0 rfl 133 rfl ?_
          refine mm_iload_n C dX1_meet_133 rfl 2 rfl 134 rfl ?_
          obtain ⟨G5, eG5, h⟩ := mb h
          refine mm_callU [.int x4, .int x1] C (c_X7_send_81 eG5) wb_X7_send wu_X1_45_X1 (fun s hN => hN.2.2.2.1) (by decide) (mc_81 k _) rfl rfl (by omega) rfl (Nat.le_of_ble_eq_true rfl) dX1_meet_134 137 rfl ?_
          show mm_AW z k 7 none F1 G5 137 [(5, .int x4), (4, .int x3), (3, .int x1), (0, .ref (mmad k 81)), (1, .int a1), (2, .int a2)] []
          exact mm_vretW C (h) dX1_meet_137
      · rw [if_neg hc] at h
        refine mm_aload_n C dX1_meet_114 rfl 3 rfl 115 rfl ?_
        refine mm_iload C dX1_meet_115 1 rfl 117 rfl ?_
        refine mm_iload_n C dX1_meet_117 rfl 2 rfl 118 rfl ?_
        obtain ⟨G6, eG6, h⟩ := mb h
        refine mm_callU [.int x3, .int x1] C (c_X7_send_81 eG6) wb_X7_send wu_X1_45_X1 (fun s hN => hN.2.2.2.1) (by decide) (mc_81 k _) rfl rfl (by omega) rfl (Nat.le_of_ble_eq_true rfl) dX1_meet_118 121 rfl ?_
        show mm_AW z k 7 none F1 G6 121 [(5, .int x4), (4, .int x3), (3, .int x1), (0, .ref (mmad k 81)), (1, .int a1), (2, .int a2)] []
        refine mm_goto C dX1_meet_121 137 (by decide) ?_
        exact mm_vretW C (h) dX1_meet_137
    · rw [if_neg hc] at h
      refine mm_iload C dX1_meet_44 0 rfl 46 rfl ?_
      refine mm_iconst (v := (-1 : Int32)) C dX1_meet_46 (by decide) 47 rfl ?_
      refine mm_icmp_eq C dX1_meet_47 108 50 (by decide) rfl (fun hc => ?_) (fun hc => ?_)
      · rw [if_pos hc] at h
        refine mm_iload C dX1_meet_108 1 rfl 110 rfl ?_
        refine mm_iconst (v := (-1 : Int32)) C dX1_meet_110 (by decide) 111 rfl ?_
        refine mm_icmp_eq C dX1_meet_111 124 114 (by decide) rfl (fun hc => ?_) (fun hc => ?_)
        · rw [if_pos hc] at h
          refine mm_iload C dX1_meet_124 0 rfl 126 rfl ?_
          refine mm_iconst (v := (-1 : Int32)) C dX1_meet_126 (by decide) 127 rfl ?_
          refine mm_icmp_eq C dX1_meet_127 137 130 (by decide) rfl (fun hc => ?_) (fun hc => ?_)
          · rw [if_pos hc] at h
            exact mm_vretW C (h) dX1_meet_137
          · rw [if_neg hc] at h
            refine mm_aload_n C dX1_meet_130 rfl 3 rfl 131 rfl ?_
            refine mm_iload C dX1_meet_131 0 rfl 133 rfl ?_
            refine mm_iload_n C dX1_meet_133 rfl 2 rfl 134 rfl ?_
            obtain ⟨G7, eG7, h⟩ := mb h
            refine mm_callU [.int x4, .int x1] C (c_X7_send_81 eG7) wb_X7_send wu_X1_45_X1 (fun s hN => hN.2.2.2.1) (by decide) (mc_81 k _) rfl rfl (by omega) rfl (Nat.le_of_ble_eq_true rfl) dX1_meet_134 137 rfl ?_
            show mm_AW z k 7 none F1 G7 137 [(5, .int x4), (4, .int x3), (3, .int x1), (0, .ref (mmad k 81)), (1, .int a1), (2, .int a2)] []
            exact mm_vretW C (h) dX1_meet_137
        · rw [if_neg hc] at h
          refine mm_aload_n C dX1_meet_114 rfl 3 rfl 115 rfl ?_
          refine mm_iload C dX1_meet_115 1 rfl 117 rfl ?_
          refine mm_iload_n C dX1_meet_117 rfl 2 rfl 118 rfl ?_
          obtain ⟨G8, eG8, h⟩ := mb h
          refine mm_callU [.int x3, .int x1] C (c_X7_send_81 eG8) wb_X7_send wu_X1_45_X1 (fun s hN => hN.2.2.2.1) (by decide) (mc_81 k _) rfl rfl (by omega) rfl (Nat.le_of_ble_eq_true rfl) dX1_meet_118 121 rfl ?_
          show mm_AW z k 7 none F1 G8 121 [(5, .int x4), (4, .int x3), (3, .int x1), (0, .ref (mmad k 81)), (1, .int a1), (2, .int a2)] []
          refine mm_goto C dX1_meet_121 137 (by decide) ?_
          exact mm_vretW C (h) dX1_meet_137
      · rw [if_neg hc] at h
        refine mm_iload_n C dX1_meet_50 rfl 2 rfl 51 rfl ?_
        refine mm_aload_n C dX1_meet_51 rfl 3 rfl 52 rfl ?_
        refine mm_get C fl_X1_36_X1 (by decide) (mc_81 k _) rfl dX1_meet_52 55 rfl ?_
        refine mm_iload C dX1_meet_55 1 rfl 57 rfl ?_
        obtain ⟨x9, ex9, h⟩ := mb h
        refine mm_iald C ex9 dX1_meet_57 58 rfl ?_
        refine mm_isub C dX1_meet_58 59 rfl ?_
        refine mm_aload_n C dX1_meet_59 rfl 3 rfl 60 rfl ?_
        refine mm_get C fl_X1_36_X1 (by decide) (mc_81 k _) rfl dX1_meet_60 63 rfl ?_
        refine mm_iload C dX1_meet_63 0 rfl 65 rfl ?_
        obtain ⟨x10, ex10, h⟩ := mb h
        refine mm_iald C ex10 dX1_meet_65 66 rfl ?_
        refine mm_iload_n C dX1_meet_66 rfl 2 rfl 67 rfl ?_
        refine mm_isub C dX1_meet_67 68 rfl ?_
        refine mm_min C mw_615 mw_517 mw_62 mw_518 (by omega) (Nat.le_trans (Nat.le_of_ble_eq_true rfl : _ ≤ 40) (by omega)) dX1_meet_68 71 rfl ?_
        obtain ⟨x11, ex11, h⟩ := me h
        refine mm_top ex11 ?_
        refine mm_istore (lv2 := [(6, .int x11), (5, .int x4), (4, .int x3), (3, .int x1), (0, .ref (mmad k 81)), (1, .int a1), (2, .int a2)]) C dX1_meet_71 (by decide) rfl 73 rfl ?_
        refine mm_aload_n C dX1_meet_73 rfl 4 rfl 74 rfl ?_
        refine mm_iload C dX1_meet_74 2 rfl 76 rfl ?_
        refine mm_aload_n C dX1_meet_76 rfl 4 rfl 77 rfl ?_
        refine mm_get C fl_X1_36_X1 (by decide) (mc_81 k _) rfl dX1_meet_77 80 rfl ?_
        refine mm_iload C dX1_meet_80 2 rfl 82 rfl ?_
        obtain ⟨x12, ex12, h⟩ := mb h
        refine mm_iald C ex12 dX1_meet_82 83 rfl ?_
        refine mm_iload C dX1_meet_83 0 rfl 85 rfl ?_
        refine mm_iadd C dX1_meet_85 86 rfl ?_
        obtain ⟨G13, eG13, h⟩ := mb h
        refine mm_callU [.int x3, .int (x12 + x11)] C (c_X7_send_81 eG13) wb_X7_send wu_X1_45_X1 (fun s hN => hN.2.2.2.1) (by decide) (mc_81 k _) rfl rfl (by omega) rfl (Nat.le_of_ble_eq_true rfl) dX1_meet_86 89 rfl ?_
        show mm_AW z k 7 none F1 G13 89 [(6, .int x11), (5, .int x4), (4, .int x3), (3, .int x1), (0, .ref (mmad k 81)), (1, .int a1), (2, .int a2)] []
        refine mm_aload_n C dX1_meet_89 rfl 4 rfl 90 rfl ?_
        refine mm_iload C dX1_meet_90 1 rfl 92 rfl ?_
        refine mm_aload_n C dX1_meet_92 rfl 4 rfl 93 rfl ?_
        refine mm_get C fl_X1_36_X1 (by decide) (mc_81 k _) rfl dX1_meet_93 96 rfl ?_
        refine mm_iload C dX1_meet_96 1 rfl 98 rfl ?_
        obtain ⟨x14, ex14, h⟩ := mb h
        refine mm_iald C ex14 dX1_meet_98 99 rfl ?_
        refine mm_iload C dX1_meet_99 0 rfl 101 rfl ?_
        refine mm_isub C dX1_meet_101 102 rfl ?_
        obtain ⟨G15, eG15, h⟩ := mb h
        refine mm_callU [.int x4, .int (x14 - x11)] C (c_X7_send_81 eG15) wb_X7_send wu_X1_45_X1 (fun s hN => hN.2.2.2.1) (by decide) (mc_81 k _) rfl rfl (by omega) rfl (Nat.le_of_ble_eq_true rfl) dX1_meet_102 105 rfl ?_
        show mm_AW z k 7 none F1 G15 105 [(6, .int x11), (5, .int x4), (4, .int x3), (3, .int x1), (0, .ref (mmad k 81)), (1, .int a1), (2, .int a2)] []
        refine mm_goto C dX1_meet_105 137 (by decide) ?_
        exact mm_vretW C (h) dX1_meet_137
  · rw [if_neg hc] at h
    refine mm_aload_n C dX1_meet_18 rfl 1 rfl 19 rfl ?_
    refine mm_iconst (v := (-1 : Int32)) C dX1_meet_19 (by decide) 20 rfl ?_
    obtain ⟨G16, eG16, h⟩ := me h
    refine mm_put (x := (-1 : Int32)) (ty := .int) C fl_X1_25_X1 (by decide) (mc_81 k _) (mc_81 k _) tyX1 tyX1_ok nmX1 rfl (by decide +kernel) rfl rfl (Nat.le_of_ble_eq_true rfl) eG16 dX1_meet_20 23 rfl ?_
    exact mm_vretW C (h) dX1_meet_23
def m_X6_lead_14_81_L16 (x1 : Int32) : Nat → Int32 → mmS → Option (mmS)
  | 0, _, _ => none
  | n5 + 1, v3, G4 => if x1 ≤ v3 then (some ((G4))) else (Option.bind (ald G4 15 v3) fun x6 => Option.bind (ald G4 16 v3) fun x7 => Option.bind (m_X1_meet_81 G4 x6 x7) fun G8 => mlet (v3 + (1 : Int32)) fun x9 => m_X6_lead_14_81_L16 x1 n5 x9 G8)
def m_X6_lead_14_81 (F : mmS) (a2 : Int32) : Option (Int32 × mmS) :=
  mlet (mmin a2 (F 14 2)) fun x1 => Option.bind (m_X7_begin_81 F) fun G2 => bd1 (m_X6_lead_14_81_L16 x1 300 (0 : Int32) G2) fun G10 => some ((G10 81 2), G10)
set_option maxHeartbeats 4000000 in
set_option maxRecDepth 100000 in
theorem c_X6_lead_14_81 {l : Launch} {k : mmK} {F : mmS} {a2 : Int32} {r : Int32} {F1 : mmS} (h : m_X6_lead_14_81 F a2 = some (r, F1)) : mm_T l k yX6_lead cX6_lead 5 (some .int) 3 [.ref (mmad k 14), .ref (mmad k 81), .int a2] F (some (.int r)) F1 := by
  refine mm_start [(0, .ref (mmad k 14)), (1, .ref (mmad k 81)), (2, .int a2)] (by decide) (Nat.le_of_ble_eq_true rfl) rfl ?_
  intro z hz C
  subst hz
  have C : mm_C z k RX6 cX6_lead 5 (some .int) 3 := C
  replace h := mk0 h
  unfold m_X6_lead_14_81 at h
  refine mm_iload_n C dX6_lead_0 rfl 2 rfl 1 rfl ?_
  refine mm_aload_n C dX6_lead_1 rfl 0 rfl 2 rfl ?_
  refine mm_get C fl_X6_18_X6 (by decide) (mc_14 k _) rfl dX6_lead_2 5 rfl ?_
  refine mm_min C mw_516 mw_517 mw_62 mw_518 (by omega) (Nat.le_trans (Nat.le_of_ble_eq_true rfl : _ ≤ 40) (by omega)) dX6_lead_5 8 rfl ?_
  obtain ⟨x1, ex1, h⟩ := me h
  refine mm_top ex1 ?_
  refine mm_istore_n (lv2 := [(3, .int x1), (0, .ref (mmad k 14)), (1, .ref (mmad k 81)), (2, .int a2)]) C dX6_lead_8 rfl (by decide) rfl 9 rfl ?_
  refine mm_aload_n C dX6_lead_9 rfl 2 rfl 10 rfl ?_
  obtain ⟨G2, eG2, h⟩ := mb h
  refine mm_callU [] C (c_X7_begin_81 eG2) wb_X7_begin wu_X6_57_X1 (fun s hN => hN.2.2.2.2) (by decide) (mc_81 k _) rfl rfl (by omega) rfl (Nat.le_of_ble_eq_true rfl) dX6_lead_10 13 rfl ?_
  show mm_AW z k 5 (some (.int r)) F1 G2 13 [(3, .int x1), (0, .ref (mmad k 14)), (1, .ref (mmad k 81)), (2, .int a2)] []
  refine mm_iconst (v := (0 : Int32)) C dX6_lead_13 (by decide) 14 rfl ?_
  refine mm_istore (lv2 := [(4, .int (0 : Int32)), (3, .int x1), (0, .ref (mmad k 14)), (1, .ref (mmad k 81)), (2, .int a2)]) C dX6_lead_14 (by decide) rfl 16 rfl ?_
  refine mm_lv [2, 3, 1, 0] rfl ?_
  have hL16 : ∀ (K : (mmS) → Option (Int32 × mmS)) (hK : ∀ (G4 : mmS) , K (G4) = some (r, F1) → mm_AW z k 5 (some (.int r)) F1 G4 46 [(1, .ref (mmad k 81))] []) (n5 : Nat) (v3 : Int32) (G4 : mmS) , (m_X6_lead_14_81_L16 x1 n5 v3 G4).bind K = some (r, F1) → mm_AW z k 5 (some (.int r)) F1 G4 16 [(0, .ref (mmad k 14)), (1, .ref (mmad k 81)), (3, .int x1), (4, .int v3)] [] := by
    intro K hK n5
    induction n5 with
    | zero => intro v3 G4 h; rw [m_X6_lead_14_81_L16] at h; cases h
    | succ n5 ih =>
      intro v3 G4 h
      rw [m_X6_lead_14_81_L16] at h
      refine mm_iload C dX6_lead_16 3 rfl 18 rfl ?_
      refine mm_iload_n C dX6_lead_18 rfl 2 rfl 19 rfl ?_
      refine mm_icmp_ge C dX6_lead_19 46 22 (by decide) rfl (fun hc => ?_) (fun hc => ?_)
      · rw [if_pos hc] at h
        refine mm_lv [1] rfl ?_
        exact hK _ h
      · rw [if_neg hc] at h
        refine mm_aload_n C dX6_lead_22 rfl 1 rfl 23 rfl ?_
        refine mm_aload_n C dX6_lead_23 rfl 0 rfl 24 rfl ?_
        refine mm_get C fl_X6_9_X6 (by decide) (mc_14 k _) rfl dX6_lead_24 27 rfl ?_
        refine mm_iload C dX6_lead_27 3 rfl 29 rfl ?_
        obtain ⟨x6, ex6, h⟩ := mb h
        refine mm_iald C ex6 dX6_lead_29 30 rfl ?_
        refine mm_aload_n C dX6_lead_30 rfl 0 rfl 31 rfl ?_
        refine mm_get C fl_X6_15_X6 (by decide) (mc_14 k _) rfl dX6_lead_31 34 rfl ?_
        refine mm_iload C dX6_lead_34 3 rfl 36 rfl ?_
        obtain ⟨x7, ex7, h⟩ := mb h
        refine mm_iald C ex7 dX6_lead_36 37 rfl ?_
        obtain ⟨G8, eG8, h⟩ := mb h
        refine mm_callU [.int x6, .int x7] C (c_X1_meet_81 eG8) wb_X1_meet wu_X6_62_X1 (fun s hN => hN.2.2.1) (by decide) (mc_81 k _) rfl rfl (by omega) rfl (Nat.le_of_ble_eq_true rfl) dX6_lead_37 40 rfl ?_
        show mm_AW z k 5 (some (.int r)) F1 G8 40 [(0, .ref (mmad k 14)), (1, .ref (mmad k 81)), (3, .int x1), (4, .int v3)] []
        obtain ⟨x9, ex9, h⟩ := me h
        refine mm_iinc (v := x9) (lv2 := [(4, .int x9), (0, .ref (mmad k 14)), (1, .ref (mmad k 81)), (3, .int x1)]) C dX6_lead_40 3 rfl (by rw [← ex9]; rfl) (by decide) rfl 43 rfl ?_
        refine mm_goto C dX6_lead_43 16 (by decide) ?_
        refine mm_lv [1, 2, 3, 0] rfl ?_
        exact ih _ _ h
  refine mj1 h (fun (G10 : mmS) => mm_AW z k 5 (some (.int r)) F1 G10 46 [(1, .ref (mmad k 81))] []) ?_ ?_
  · intro G10 h
    refine mm_aload_n C dX6_lead_46 rfl 0 rfl 47 rfl ?_
    refine mm_get C fl_X6_66_X1 (by decide) (mc_81 k _) rfl dX6_lead_47 50 rfl ?_
    exact mm_iretW C (h) dX6_lead_50
  · intro K2 hR h
    exact hL16 K2 hR 300 _ _ h
def m_X3_leastWays_1_82_37 (F : mmS)  : Option (Int32) :=
  if (F 1 1) = (1 : Int32) then (Option.bind (ald F 82 (0 : Int32)) fun x30 => Option.bind (ald F 37 (0 : Int32)) fun x31 => some (mabs (x30 - x31))) else (if (F 1 1) = (2 : Int32) then (Option.bind (ald F 82 (0 : Int32)) fun x25 => Option.bind (ald F 82 (1 : Int32)) fun x26 => Option.bind (ald F 37 (0 : Int32)) fun x27 => Option.bind (ald F 37 (1 : Int32)) fun x28 => Option.bind (m_X3_pairWays x25 x26 x27 x28) fun x29 => some x29) else (Option.bind (ald F 82 (0 : Int32)) fun x1 => Option.bind (ald F 37 (0 : Int32)) fun x2 => Option.bind (ald F 82 (1 : Int32)) fun x3 => Option.bind (ald F 82 (2 : Int32)) fun x4 => Option.bind (ald F 37 (1 : Int32)) fun x5 => Option.bind (ald F 37 (2 : Int32)) fun x6 => Option.bind (m_X3_pairWays x3 x4 x5 x6) fun x7 => mlet ((mabs (x1 - x2)) + x7) fun x8 => Option.bind (ald F 82 (0 : Int32)) fun x9 => Option.bind (ald F 37 (1 : Int32)) fun x10 => Option.bind (ald F 82 (1 : Int32)) fun x11 => Option.bind (ald F 82 (2 : Int32)) fun x12 => Option.bind (ald F 37 (0 : Int32)) fun x13 => Option.bind (ald F 37 (2 : Int32)) fun x14 => Option.bind (m_X3_pairWays x11 x12 x13 x14) fun x15 => mlet ((mabs (x9 - x10)) + x15) fun x16 => Option.bind (ald F 82 (0 : Int32)) fun x17 => Option.bind (ald F 37 (2 : Int32)) fun x18 => Option.bind (ald F 82 (1 : Int32)) fun x19 => Option.bind (ald F 82 (2 : Int32)) fun x20 => Option.bind (ald F 37 (0 : Int32)) fun x21 => Option.bind (ald F 37 (1 : Int32)) fun x22 => Option.bind (m_X3_pairWays x19 x20 x21 x22) fun x23 => mlet ((mabs (x17 - x18)) + x23) fun x24 => some (mmin x8 (mmin x16 x24))))
set_option maxHeartbeats 4000000 in
set_option maxRecDepth 100000 in
theorem c_X3_leastWays_1_82_37 {l : Launch} {k : mmK} {F : mmS}  {r : Int32} (h : m_X3_leastWays_1_82_37 F = some r) : mm_T l k yX3_leastWays cX3_leastWays 6 (some .int) 2 [.ref (mmad k 1), .ref (mmad k 82), .ref (mmad k 37)] F (some (.int r)) F := by
  refine mm_start [(0, .ref (mmad k 1)), (1, .ref (mmad k 82)), (2, .ref (mmad k 37))] (by decide) (Nat.le_of_ble_eq_true rfl) rfl ?_
  intro z hz C
  subst hz
  have C : mm_C z k RX3 cX3_leastWays 6 (some .int) 2 := C
  replace h := mk0 h
  unfold m_X3_leastWays_1_82_37 at h
  refine mm_aload_n C dX3_leastWays_0 rfl 0 rfl 1 rfl ?_
  refine mm_get C fl_X3_15_X3 (by decide) (mc_1 k _) rfl dX3_leastWays_1 4 rfl ?_
  refine mm_iconst (v := (1 : Int32)) C dX3_leastWays_4 (by decide) 5 rfl ?_
  refine mm_icmp_ne C dX3_leastWays_5 19 8 (by decide) rfl (fun hc => ?_) (fun hc => ?_)
  · rw [if_neg hc] at h
    refine mm_aload_n C dX3_leastWays_19 rfl 0 rfl 20 rfl ?_
    refine mm_get C fl_X3_15_X3 (by decide) (mc_1 k _) rfl dX3_leastWays_20 23 rfl ?_
    refine mm_iconst (v := (2 : Int32)) C dX3_leastWays_23 (by decide) 24 rfl ?_
    refine mm_icmp_ne C dX3_leastWays_24 43 27 (by decide) rfl (fun hc => ?_) (fun hc => ?_)
    · rw [if_neg hc] at h
      refine mm_aload_n C dX3_leastWays_43 rfl 1 rfl 44 rfl ?_
      refine mm_iconst (v := (0 : Int32)) C dX3_leastWays_44 (by decide) 45 rfl ?_
      obtain ⟨x1, ex1, h⟩ := mb h
      refine mm_iald C ex1 dX3_leastWays_45 46 rfl ?_
      refine mm_aload_n C dX3_leastWays_46 rfl 2 rfl 47 rfl ?_
      refine mm_iconst (v := (0 : Int32)) C dX3_leastWays_47 (by decide) 48 rfl ?_
      obtain ⟨x2, ex2, h⟩ := mb h
      refine mm_iald C ex2 dX3_leastWays_48 49 rfl ?_
      refine mm_isub C dX3_leastWays_49 50 rfl ?_
      refine mm_abs C mw_551 mw_552 mw_62 mw_553 (by omega) (Nat.le_trans (Nat.le_of_ble_eq_true rfl : _ ≤ 40) (by omega)) dX3_leastWays_50 53 rfl ?_
      refine mm_aload_n C dX3_leastWays_53 rfl 1 rfl 54 rfl ?_
      refine mm_iconst (v := (1 : Int32)) C dX3_leastWays_54 (by decide) 55 rfl ?_
      obtain ⟨x3, ex3, h⟩ := mb h
      refine mm_iald C ex3 dX3_leastWays_55 56 rfl ?_
      refine mm_aload_n C dX3_leastWays_56 rfl 1 rfl 57 rfl ?_
      refine mm_iconst (v := (2 : Int32)) C dX3_leastWays_57 (by decide) 58 rfl ?_
      obtain ⟨x4, ex4, h⟩ := mb h
      refine mm_iald C ex4 dX3_leastWays_58 59 rfl ?_
      refine mm_aload_n C dX3_leastWays_59 rfl 2 rfl 60 rfl ?_
      refine mm_iconst (v := (1 : Int32)) C dX3_leastWays_60 (by decide) 61 rfl ?_
      obtain ⟨x5, ex5, h⟩ := mb h
      refine mm_iald C ex5 dX3_leastWays_61 62 rfl ?_
      refine mm_aload_n C dX3_leastWays_62 rfl 2 rfl 63 rfl ?_
      refine mm_iconst (v := (2 : Int32)) C dX3_leastWays_63 (by decide) 64 rfl ?_
      obtain ⟨x6, ex6, h⟩ := mb h
      refine mm_iald C ex6 dX3_leastWays_64 65 rfl ?_
      obtain ⟨x7, ex7, h⟩ := mb h
      refine mm_callS [.int x3, .int x4, .int x5, .int x6] C (c_X3_pairWays ex7) wb_X3_pairWays ws_X3_63 rfl (by omega) rfl (Nat.le_of_ble_eq_true rfl) dX3_leastWays_65 68 rfl ?_
      show mm_AW z k 6 (some (.int r)) F F 68 [(0, .ref (mmad k 1)), (1, .ref (mmad k 82)), (2, .ref (mmad k 37))] [.int x7, .int (mabs (x1 - x2))]
      refine mm_iadd C dX3_leastWays_68 69 rfl ?_
      obtain ⟨x8, ex8, h⟩ := me h
      refine mm_top ex8 ?_
      refine mm_istore_n (lv2 := [(3, .int x8), (0, .ref (mmad k 1)), (1, .ref (mmad k 82)), (2, .ref (mmad k 37))]) C dX3_leastWays_69 rfl (by decide) rfl 70 rfl ?_
      refine mm_aload_n C dX3_leastWays_70 rfl 2 rfl 71 rfl ?_
      refine mm_iconst (v := (0 : Int32)) C dX3_leastWays_71 (by decide) 72 rfl ?_
      obtain ⟨x9, ex9, h⟩ := mb h
      refine mm_iald C ex9 dX3_leastWays_72 73 rfl ?_
      refine mm_aload_n C dX3_leastWays_73 rfl 3 rfl 74 rfl ?_
      refine mm_iconst (v := (1 : Int32)) C dX3_leastWays_74 (by decide) 75 rfl ?_
      obtain ⟨x10, ex10, h⟩ := mb h
      refine mm_iald C ex10 dX3_leastWays_75 76 rfl ?_
      refine mm_isub C dX3_leastWays_76 77 rfl ?_
      refine mm_abs C mw_551 mw_552 mw_62 mw_553 (by omega) (Nat.le_trans (Nat.le_of_ble_eq_true rfl : _ ≤ 40) (by omega)) dX3_leastWays_77 80 rfl ?_
      refine mm_aload_n C dX3_leastWays_80 rfl 2 rfl 81 rfl ?_
      refine mm_iconst (v := (1 : Int32)) C dX3_leastWays_81 (by decide) 82 rfl ?_
      obtain ⟨x11, ex11, h⟩ := mb h
      refine mm_iald C ex11 dX3_leastWays_82 83 rfl ?_
      refine mm_aload_n C dX3_leastWays_83 rfl 2 rfl 84 rfl ?_
      refine mm_iconst (v := (2 : Int32)) C dX3_leastWays_84 (by decide) 85 rfl ?_
      obtain ⟨x12, ex12, h⟩ := mb h
      refine mm_iald C ex12 dX3_leastWays_85 86 rfl ?_
      refine mm_aload_n C dX3_leastWays_86 rfl 3 rfl 87 rfl ?_
      refine mm_iconst (v := (0 : Int32)) C dX3_leastWays_87 (by decide) 88 rfl ?_
      obtain ⟨x13, ex13, h⟩ := mb h
      refine mm_iald C ex13 dX3_leastWays_88 89 rfl ?_
      refine mm_aload_n C dX3_leastWays_89 rfl 3 rfl 90 rfl ?_
      refine mm_iconst (v := (2 : Int32)) C dX3_leastWays_90 (by decide) 91 rfl ?_
      obtain ⟨x14, ex14, h⟩ := mb h
      refine mm_iald C ex14 dX3_leastWays_91 92 rfl ?_
      obtain ⟨x15, ex15, h⟩ := mb h
      refine mm_callS [.int x11, .int x12, .int x13, .int x14] C (c_X3_pairWays ex15) wb_X3_pairWays ws_X3_63 rfl (by omega) rfl (Nat.le_of_ble_eq_true rfl) dX3_leastWays_92 95 rfl ?_
      show mm_AW z k 6 (some (.int r)) F F 95 [(3, .int x8), (0, .ref (mmad k 1)), (1, .ref (mmad k 82)), (2, .ref (mmad k 37))] [.int x15, .int (mabs (x9 - x10))]
      refine mm_iadd C dX3_leastWays_95 96 rfl ?_
      obtain ⟨x16, ex16, h⟩ := me h
      refine mm_top ex16 ?_
      refine mm_istore (lv2 := [(4, .int x16), (3, .int x8), (0, .ref (mmad k 1)), (1, .ref (mmad k 82)), (2, .ref (mmad k 37))]) C dX3_leastWays_96 (by decide) rfl 98 rfl ?_
      refine mm_aload_n C dX3_leastWays_98 rfl 3 rfl 99 rfl ?_
      refine mm_iconst (v := (0 : Int32)) C dX3_leastWays_99 (by decide) 100 rfl ?_
      obtain ⟨x17, ex17, h⟩ := mb h
      refine mm_iald C ex17 dX3_leastWays_100 101 rfl ?_
      refine mm_aload_n C dX3_leastWays_101 rfl 4 rfl 102 rfl ?_
      refine mm_iconst (v := (2 : Int32)) C dX3_leastWays_102 (by decide) 103 rfl ?_
      obtain ⟨x18, ex18, h⟩ := mb h
      refine mm_iald C ex18 dX3_leastWays_103 104 rfl ?_
      refine mm_isub C dX3_leastWays_104 105 rfl ?_
      refine mm_abs C mw_551 mw_552 mw_62 mw_553 (by omega) (Nat.le_trans (Nat.le_of_ble_eq_true rfl : _ ≤ 40) (by omega)) dX3_leastWays_105 108 rfl ?_
      refine mm_aload_n C dX3_leastWays_108 rfl 3 rfl 109 rfl ?_
      refine mm_iconst (v := (1 : Int32)) C dX3_leastWays_109 (by decide) 110 rfl ?_
      obtain ⟨x19, ex19, h⟩ := mb h
      refine mm_iald C ex19 dX3_leastWays_110 111 rfl ?_
      refine mm_aload_n C dX3_leastWays_111 rfl 3 rfl 112 rfl ?_
      refine mm_iconst (v := (2 : Int32)) C dX3_leastWays_112 (by decide) 113 rfl ?_
      obtain ⟨x20, ex20, h⟩ := mb h
      refine mm_iald C ex20 dX3_leastWays_113 114 rfl ?_
      refine mm_aload_n C dX3_leastWays_114 rfl 4 rfl 115 rfl ?_
      refine mm_iconst (v := (0 : Int32)) C dX3_leastWays_115 (by decide) 116 rfl ?_
      obtain ⟨x21, ex21, h⟩ := mb h
      refine mm_iald C ex21 dX3_leastWays_116 117 rfl ?_
      refine mm_aload_n C dX3_leastWays_117 rfl 4 rfl 118 rfl ?_
      refine mm_iconst (v := (1 : Int32)) C dX3_leastWays_118 (by decide) 119 rfl ?_
      obtain ⟨x22, ex22, h⟩ := mb h
      refine mm_iald C ex22 dX3_leastWays_119 120 rfl ?_
      obtain ⟨x23, ex23, h⟩ := mb h
      refine mm_callS [.int x19, .int x20, .int x21, .int x22] C (c_X3_pairWays ex23) wb_X3_pairWays ws_X3_63 rfl (by omega) rfl (Nat.le_of_ble_eq_true rfl) dX3_leastWays_120 123 rfl ?_
      show mm_AW z k 6 (some (.int r)) F F 123 [(4, .int x16), (3, .int x8), (0, .ref (mmad k 1)), (1, .ref (mmad k 82)), (2, .ref (mmad k 37))] [.int x23, .int (mabs (x17 - x18))]
      refine mm_iadd C dX3_leastWays_123 124 rfl ?_
      obtain ⟨x24, ex24, h⟩ := me h
      refine mm_top ex24 ?_
      refine mm_istore (lv2 := [(5, .int x24), (4, .int x16), (3, .int x8), (0, .ref (mmad k 1)), (1, .ref (mmad k 82)), (2, .ref (mmad k 37))]) C dX3_leastWays_124 (by decide) rfl 126 rfl ?_
      refine mm_iload_n C dX3_leastWays_126 rfl 2 rfl 127 rfl ?_
      refine mm_iload C dX3_leastWays_127 1 rfl 129 rfl ?_
      refine mm_iload C dX3_leastWays_129 0 rfl 131 rfl ?_
      refine mm_min C mw_557 mw_517 mw_62 mw_518 (by omega) (Nat.le_trans (Nat.le_of_ble_eq_true rfl : _ ≤ 40) (by omega)) dX3_leastWays_131 134 rfl ?_
      refine mm_min C mw_557 mw_517 mw_62 mw_518 (by omega) (Nat.le_trans (Nat.le_of_ble_eq_true rfl : _ ≤ 40) (by omega)) dX3_leastWays_134 137 rfl ?_
      exact mm_iretP C (h) dX3_leastWays_137
    · rw [if_pos hc] at h
      refine mm_aload_n C dX3_leastWays_27 rfl 1 rfl 28 rfl ?_
      refine mm_iconst (v := (0 : Int32)) C dX3_leastWays_28 (by decide) 29 rfl ?_
      obtain ⟨x25, ex25, h⟩ := mb h
      refine mm_iald C ex25 dX3_leastWays_29 30 rfl ?_
      refine mm_aload_n C dX3_leastWays_30 rfl 1 rfl 31 rfl ?_
      refine mm_iconst (v := (1 : Int32)) C dX3_leastWays_31 (by decide) 32 rfl ?_
      obtain ⟨x26, ex26, h⟩ := mb h
      refine mm_iald C ex26 dX3_leastWays_32 33 rfl ?_
      refine mm_aload_n C dX3_leastWays_33 rfl 2 rfl 34 rfl ?_
      refine mm_iconst (v := (0 : Int32)) C dX3_leastWays_34 (by decide) 35 rfl ?_
      obtain ⟨x27, ex27, h⟩ := mb h
      refine mm_iald C ex27 dX3_leastWays_35 36 rfl ?_
      refine mm_aload_n C dX3_leastWays_36 rfl 2 rfl 37 rfl ?_
      refine mm_iconst (v := (1 : Int32)) C dX3_leastWays_37 (by decide) 38 rfl ?_
      obtain ⟨x28, ex28, h⟩ := mb h
      refine mm_iald C ex28 dX3_leastWays_38 39 rfl ?_
      obtain ⟨x29, ex29, h⟩ := mb h
      refine mm_callS [.int x25, .int x26, .int x27, .int x28] C (c_X3_pairWays ex29) wb_X3_pairWays ws_X3_63 rfl (by omega) rfl (Nat.le_of_ble_eq_true rfl) dX3_leastWays_39 42 rfl ?_
      show mm_AW z k 6 (some (.int r)) F F 42 [(0, .ref (mmad k 1)), (1, .ref (mmad k 82)), (2, .ref (mmad k 37))] [.int x29]
      exact mm_iretP C (h) dX3_leastWays_42
  · rw [if_pos hc] at h
    refine mm_aload_n C dX3_leastWays_8 rfl 1 rfl 9 rfl ?_
    refine mm_iconst (v := (0 : Int32)) C dX3_leastWays_9 (by decide) 10 rfl ?_
    obtain ⟨x30, ex30, h⟩ := mb h
    refine mm_iald C ex30 dX3_leastWays_10 11 rfl ?_
    refine mm_aload_n C dX3_leastWays_11 rfl 2 rfl 12 rfl ?_
    refine mm_iconst (v := (0 : Int32)) C dX3_leastWays_12 (by decide) 13 rfl ?_
    obtain ⟨x31, ex31, h⟩ := mb h
    refine mm_iald C ex31 dX3_leastWays_13 14 rfl ?_
    refine mm_isub C dX3_leastWays_14 15 rfl ?_
    refine mm_abs C mw_551 mw_552 mw_62 mw_553 (by omega) (Nat.le_trans (Nat.le_of_ble_eq_true rfl : _ ≤ 40) (by omega)) dX3_leastWays_15 18 rfl ?_
    exact mm_iretP C (h) dX3_leastWays_18
def m_X3_waysAmong_1_82_L17 (F : mmS) (v2 : Int32) : Nat → Int32 → Int32 → Option (Int32)
  | 0, _, _ => none
  | n7 + 1, v5, v6 => if (F 1 1) ≤ v6 then (some ((v5))) else (Option.bind (ald F 82 v2) fun x8 => Option.bind (ald F 82 v6) fun x9 => mlet (v5 + (mabs (x8 - x9))) fun x10 => mlet (v6 + (1 : Int32)) fun x11 => m_X3_waysAmong_1_82_L17 F v2 n7 x10 x11)
def m_X3_waysAmong_1_82_L4 (F : mmS) : Nat → Int32 → Int32 → Option (Int32)
  | 0, _, _ => none
  | n3 + 1, v1, v2 => if (F 1 1) ≤ v2 then (some ((v1))) else (mlet (v2 + (1 : Int32)) fun x4 => bd1 (m_X3_waysAmong_1_82_L17 F v2 300 v1 x4) fun y12 => mlet (v2 + (1 : Int32)) fun x13 => m_X3_waysAmong_1_82_L4 F n3 y12 x13)
def m_X3_waysAmong_1_82 (F : mmS)  : Option (Int32) :=
  bd1 (m_X3_waysAmong_1_82_L4 F 300 (0 : Int32) (0 : Int32)) fun y14 => some y14
set_option maxHeartbeats 4000000 in
set_option maxRecDepth 100000 in
theorem c_X3_waysAmong_1_82 {l : Launch} {k : mmK} {F : mmS}  {r : Int32} (h : m_X3_waysAmong_1_82 F = some r) : mm_T l k yX3_waysAmong cX3_waysAmong 5 (some .int) 1 [.ref (mmad k 1), .ref (mmad k 82)] F (some (.int r)) F := by
  refine mm_start [(0, .ref (mmad k 1)), (1, .ref (mmad k 82))] (by decide) (Nat.le_of_ble_eq_true rfl) rfl ?_
  intro z hz C
  subst hz
  have C : mm_C z k RX3 cX3_waysAmong 5 (some .int) 1 := C
  replace h := mk0 h
  unfold m_X3_waysAmong_1_82 at h
  refine mm_iconst (v := (0 : Int32)) C dX3_waysAmong_0 (by decide) 1 rfl ?_
  refine mm_istore_n (lv2 := [(2, .int (0 : Int32)), (0, .ref (mmad k 1)), (1, .ref (mmad k 82))]) C dX3_waysAmong_1 rfl (by decide) rfl 2 rfl ?_
  refine mm_iconst (v := (0 : Int32)) C dX3_waysAmong_2 (by decide) 3 rfl ?_
  refine mm_istore_n (lv2 := [(3, .int (0 : Int32)), (2, .int (0 : Int32)), (0, .ref (mmad k 1)), (1, .ref (mmad k 82))]) C dX3_waysAmong_3 rfl (by decide) rfl 4 rfl ?_
  refine mm_lv [2, 3, 1, 0] rfl ?_
  have hL4 : ∀ (K : (Int32) → Option (Int32)) (hK : ∀ (v1 : Int32) , K (v1) = some r → mm_AW z k 5 (some (.int r)) F F 52 [(2, .int v1)] []) (n3 : Nat) (v1 : Int32) (v2 : Int32) , (m_X3_waysAmong_1_82_L4 F n3 v1 v2).bind K = some r → mm_AW z k 5 (some (.int r)) F F 4 [(0, .ref (mmad k 1)), (1, .ref (mmad k 82)), (2, .int v1), (3, .int v2)] [] := by
    intro K hK n3
    induction n3 with
    | zero => intro v1 v2 h; rw [m_X3_waysAmong_1_82_L4] at h; cases h
    | succ n3 ih =>
      intro v1 v2 h
      rw [m_X3_waysAmong_1_82_L4] at h
      refine mm_iload_n C dX3_waysAmong_4 rfl 3 rfl 5 rfl ?_
      refine mm_aload_n C dX3_waysAmong_5 rfl 0 rfl 6 rfl ?_
      refine mm_get C fl_X3_15_X3 (by decide) (mc_1 k _) rfl dX3_waysAmong_6 9 rfl ?_
      refine mm_icmp_ge C dX3_waysAmong_9 52 12 (by decide) rfl (fun hc => ?_) (fun hc => ?_)
      · rw [if_pos hc] at h
        refine mm_lv [2] rfl ?_
        exact hK _ h
      · rw [if_neg hc] at h
        refine mm_iload_n C dX3_waysAmong_12 rfl 3 rfl 13 rfl ?_
        refine mm_iconst (v := (1 : Int32)) C dX3_waysAmong_13 (by decide) 14 rfl ?_
        refine mm_iadd C dX3_waysAmong_14 15 rfl ?_
        obtain ⟨x4, ex4, h⟩ := me h
        refine mm_top ex4 ?_
        refine mm_istore (lv2 := [(4, .int x4), (0, .ref (mmad k 1)), (1, .ref (mmad k 82)), (2, .int v1), (3, .int v2)]) C dX3_waysAmong_15 (by decide) rfl 17 rfl ?_
        refine mm_lv [1, 2, 3, 4, 0] rfl ?_
        have hL17 : ∀ (K : (Int32) → Option (Int32)) (hK : ∀ (v5 : Int32) , K (v5) = some r → mm_AW z k 5 (some (.int r)) F F 46 [(0, .ref (mmad k 1)), (1, .ref (mmad k 82)), (2, .int v5), (3, .int v2)] []) (n7 : Nat) (v5 : Int32) (v6 : Int32) , (m_X3_waysAmong_1_82_L17 F v2 n7 v5 v6).bind K = some r → mm_AW z k 5 (some (.int r)) F F 17 [(0, .ref (mmad k 1)), (1, .ref (mmad k 82)), (2, .int v5), (3, .int v2), (4, .int v6)] [] := by
          intro K hK n7
          induction n7 with
          | zero => intro v5 v6 h; rw [m_X3_waysAmong_1_82_L17] at h; cases h
          | succ n7 ih =>
            intro v5 v6 h
            rw [m_X3_waysAmong_1_82_L17] at h
            refine mm_iload C dX3_waysAmong_17 4 rfl 19 rfl ?_
            refine mm_aload_n C dX3_waysAmong_19 rfl 0 rfl 20 rfl ?_
            refine mm_get C fl_X3_15_X3 (by decide) (mc_1 k _) rfl dX3_waysAmong_20 23 rfl ?_
            refine mm_icmp_ge C dX3_waysAmong_23 46 26 (by decide) rfl (fun hc => ?_) (fun hc => ?_)
            · rw [if_pos hc] at h
              refine mm_lv [0, 1, 2, 3] rfl ?_
              exact hK _ h
            · rw [if_neg hc] at h
              refine mm_iload_n C dX3_waysAmong_26 rfl 2 rfl 27 rfl ?_
              refine mm_aload_n C dX3_waysAmong_27 rfl 1 rfl 28 rfl ?_
              refine mm_iload_n C dX3_waysAmong_28 rfl 3 rfl 29 rfl ?_
              obtain ⟨x8, ex8, h⟩ := mb h
              refine mm_iald C ex8 dX3_waysAmong_29 30 rfl ?_
              refine mm_aload_n C dX3_waysAmong_30 rfl 1 rfl 31 rfl ?_
              refine mm_iload C dX3_waysAmong_31 4 rfl 33 rfl ?_
              obtain ⟨x9, ex9, h⟩ := mb h
              refine mm_iald C ex9 dX3_waysAmong_33 34 rfl ?_
              refine mm_isub C dX3_waysAmong_34 35 rfl ?_
              refine mm_abs C mw_551 mw_552 mw_62 mw_553 (by omega) (Nat.le_trans (Nat.le_of_ble_eq_true rfl : _ ≤ 40) (by omega)) dX3_waysAmong_35 38 rfl ?_
              refine mm_iadd C dX3_waysAmong_38 39 rfl ?_
              obtain ⟨x10, ex10, h⟩ := me h
              refine mm_top ex10 ?_
              refine mm_istore_n (lv2 := [(2, .int x10), (0, .ref (mmad k 1)), (1, .ref (mmad k 82)), (3, .int v2), (4, .int v6)]) C dX3_waysAmong_39 rfl (by decide) rfl 40 rfl ?_
              obtain ⟨x11, ex11, h⟩ := me h
              refine mm_iinc (v := x11) (lv2 := [(4, .int x11), (2, .int x10), (0, .ref (mmad k 1)), (1, .ref (mmad k 82)), (3, .int v2)]) C dX3_waysAmong_40 4 rfl (by rw [← ex11]; rfl) (by decide) rfl 43 rfl ?_
              refine mm_goto C dX3_waysAmong_43 17 (by decide) ?_
              refine mm_lv [2, 3, 1, 4, 0] rfl ?_
              exact ih _ _ h
        refine mj1 h (fun (y12 : Int32) => mm_AW z k 5 (some (.int r)) F F 46 [(0, .ref (mmad k 1)), (1, .ref (mmad k 82)), (2, .int y12), (3, .int v2)] []) ?_ ?_
        · intro y12 h
          obtain ⟨x13, ex13, h⟩ := me h
          refine mm_iinc (v := x13) (lv2 := [(3, .int x13), (0, .ref (mmad k 1)), (1, .ref (mmad k 82)), (2, .int y12)]) C dX3_waysAmong_46 3 rfl (by rw [← ex13]; rfl) (by decide) rfl 49 rfl ?_
          refine mm_goto C dX3_waysAmong_49 4 (by decide) ?_
          refine mm_lv [1, 2, 3, 0] rfl ?_
          exact ih _ _ h
        · intro K2 hR h
          exact hL17 K2 hR 300 _ _ h
  refine mj1 h (fun (y14 : Int32) => mm_AW z k 5 (some (.int r)) F F 52 [(2, .int y14)] []) ?_ ?_
  · intro y14 h
    refine mm_iload_n C dX3_waysAmong_52 rfl 0 rfl 53 rfl ?_
    exact mm_iretP C (h) dX3_waysAmong_53
  · intro K2 hR h
    exact hL4 K2 hR 300 _ _ h
def m_X4_stored_80 (F : mmS)  : Option (Int32) :=
  Option.bind (m_X3_leastWays_1_82_37 F) fun x1 => Option.bind (m_X3_waysAmong_1_82 F) fun x2 => some (((F 1 1) * x1) + x2)
set_option maxHeartbeats 4000000 in
set_option maxRecDepth 100000 in
theorem c_X4_stored_80 {l : Launch} {k : mmK} {F : mmS}  {r : Int32} (h : m_X4_stored_80 F = some r) : mm_T l k yX4_stored cX4_stored 1 (some .int) 3 [.ref (mmad k 80)] F (some (.int r)) F := by
  refine mm_start [(0, .ref (mmad k 80))] (by decide) (Nat.le_of_ble_eq_true rfl) rfl ?_
  intro z hz C
  subst hz
  have C : mm_C z k RX4 cX4_stored 1 (some .int) 3 := C
  replace h := mk0 h
  unfold m_X4_stored_80 at h
  refine mm_aload_n C dX4_stored_0 rfl 0 rfl 1 rfl ?_
  refine mm_get C fl_X4_9_X4 (by decide) (mc_80 k _) rfl dX4_stored_1 4 rfl ?_
  refine mm_get C fl_X4_69_X3 (by decide) (mc_1 k _) rfl dX4_stored_4 7 rfl ?_
  refine mm_aload_n C dX4_stored_7 rfl 0 rfl 8 rfl ?_
  refine mm_get C fl_X4_9_X4 (by decide) (mc_80 k _) rfl dX4_stored_8 11 rfl ?_
  refine mm_aload_n C dX4_stored_11 rfl 0 rfl 12 rfl ?_
  refine mm_get C fl_X4_24_X4 (by decide) (mc_80 k _) rfl dX4_stored_12 15 rfl ?_
  refine mm_get C fl_X4_74_X1 (by decide) (mc_81 k _) rfl dX4_stored_15 18 rfl ?_
  refine mm_aload_n C dX4_stored_18 rfl 0 rfl 19 rfl ?_
  refine mm_get C fl_X4_15_X4 (by decide) (mc_80 k _) rfl dX4_stored_19 22 rfl ?_
  refine mm_get C fl_X4_77_X0 (by decide) (mc_36 k _) rfl dX4_stored_22 25 rfl ?_
  obtain ⟨x1, ex1, h⟩ := mb h
  refine mm_callV [.ref (mmad k 82), .ref (mmad k 37)] C (c_X3_leastWays_1_82_37 ex1) wb_X3_leastWays wv_X4_78 (by decide) (mc_1 k _) rfl rfl rfl (by omega) rfl (Nat.le_of_ble_eq_true rfl) dX4_stored_25 28 rfl ?_
  show mm_AW z k 1 (some (.int r)) F F 28 [(0, .ref (mmad k 80))] [.int x1, .int (F 1 1)]
  refine mm_imul C dX4_stored_28 29 rfl ?_
  refine mm_aload_n C dX4_stored_29 rfl 0 rfl 30 rfl ?_
  refine mm_get C fl_X4_9_X4 (by decide) (mc_80 k _) rfl dX4_stored_30 33 rfl ?_
  refine mm_aload_n C dX4_stored_33 rfl 0 rfl 34 rfl ?_
  refine mm_get C fl_X4_24_X4 (by decide) (mc_80 k _) rfl dX4_stored_34 37 rfl ?_
  refine mm_get C fl_X4_74_X1 (by decide) (mc_81 k _) rfl dX4_stored_37 40 rfl ?_
  obtain ⟨x2, ex2, h⟩ := mb h
  refine mm_callV [.ref (mmad k 82)] C (c_X3_waysAmong_1_82 ex2) wb_X3_waysAmong wv_X4_82 (by decide) (mc_1 k _) rfl rfl rfl (by omega) rfl (Nat.le_of_ble_eq_true rfl) dX4_stored_40 43 rfl ?_
  show mm_AW z k 1 (some (.int r)) F F 43 [(0, .ref (mmad k 80))] [.int x2, .int ((F 1 1) * x1)]
  refine mm_iadd C dX4_stored_43 44 rfl ?_
  exact mm_iretP C (h) dX4_stored_44
def m_X4_behind_80_14 (F : mmS) (a2 : Int32) : Option (Int32 × mmS) :=
  bd2 (m_X0_plan_36_14 F) fun x1 G2 => bd2 (m_X6_lead_14_36 G2 a2) fun x3 G4 => bd2 (m_X6_lead_14_81 G4 a2) fun x5 G6 => Option.bind (m_X4_stored_80 G6) fun x7 => some (x7, G6)
set_option maxHeartbeats 4000000 in
set_option maxRecDepth 100000 in
theorem c_X4_behind_80_14 {l : Launch} {k : mmK} {F : mmS} {a2 : Int32} {r : Int32} {F1 : mmS} (h : m_X4_behind_80_14 F a2 = some (r, F1)) : mm_T l k yX4_behind cX4_behind 3 (some .int) 6 [.ref (mmad k 80), .ref (mmad k 14), .int a2] F (some (.int r)) F1 := by
  refine mm_start [(0, .ref (mmad k 80)), (1, .ref (mmad k 14)), (2, .int a2)] (by decide) (Nat.le_of_ble_eq_true rfl) rfl ?_
  intro z hz C
  subst hz
  have C : mm_C z k RX4 cX4_behind 3 (some .int) 6 := C
  replace h := mk0 h
  unfold m_X4_behind_80_14 at h
  refine mm_aload_n C dX4_behind_0 rfl 0 rfl 1 rfl ?_
  refine mm_get C fl_X4_15_X4 (by decide) (mc_80 k _) rfl dX4_behind_1 4 rfl ?_
  refine mm_aload_n C dX4_behind_4 rfl 1 rfl 5 rfl ?_
  obtain ⟨x1, G2, ex1, h⟩ := mb2 h
  refine mm_callV [.ref (mmad k 14)] C (c_X0_plan_36_14 ex1) wb_X0_plan wv_X4_28 (by decide) (mc_36 k _) rfl rfl rfl (by omega) rfl (Nat.le_of_ble_eq_true rfl) dX4_behind_5 8 rfl ?_
  show mm_AW z k 3 (some (.int r)) F1 G2 8 [(0, .ref (mmad k 80)), (1, .ref (mmad k 14)), (2, .int a2)] [.int x1]
  refine mm_pop C dX4_behind_8 rfl 9 rfl ?_
  refine mm_aload_n C dX4_behind_9 rfl 1 rfl 10 rfl ?_
  refine mm_aload_n C dX4_behind_10 rfl 0 rfl 11 rfl ?_
  refine mm_get C fl_X4_15_X4 (by decide) (mc_80 k _) rfl dX4_behind_11 14 rfl ?_
  refine mm_iload_n C dX4_behind_14 rfl 2 rfl 15 rfl ?_
  obtain ⟨x3, G4, ex3, h⟩ := mb2 h
  refine mm_callV [.ref (mmad k 36), .int a2] C (c_X6_lead_14_36 ex3) wb_X6_lead wv_X4_34 (by decide) (mc_14 k _) rfl rfl rfl (by omega) rfl (Nat.le_of_ble_eq_true rfl) dX4_behind_15 18 rfl ?_
  show mm_AW z k 3 (some (.int r)) F1 G4 18 [(0, .ref (mmad k 80)), (1, .ref (mmad k 14)), (2, .int a2)] [.int x3]
  refine mm_pop C dX4_behind_18 rfl 19 rfl ?_
  refine mm_aload_n C dX4_behind_19 rfl 1 rfl 20 rfl ?_
  refine mm_aload_n C dX4_behind_20 rfl 0 rfl 21 rfl ?_
  refine mm_get C fl_X4_24_X4 (by decide) (mc_80 k _) rfl dX4_behind_21 24 rfl ?_
  refine mm_iload_n C dX4_behind_24 rfl 2 rfl 25 rfl ?_
  obtain ⟨x5, G6, ex5, h⟩ := mb2 h
  refine mm_callV [.ref (mmad k 81), .int a2] C (c_X6_lead_14_81 ex5) wb_X6_lead wv_X4_34 (by decide) (mc_14 k _) rfl rfl rfl (by omega) rfl (Nat.le_of_ble_eq_true rfl) dX4_behind_25 28 rfl ?_
  show mm_AW z k 3 (some (.int r)) F1 G6 28 [(0, .ref (mmad k 80)), (1, .ref (mmad k 14)), (2, .int a2)] [.int x5]
  refine mm_pop C dX4_behind_28 rfl 29 rfl ?_
  refine mm_aload_n C dX4_behind_29 rfl 0 rfl 30 rfl ?_
  obtain ⟨x7, ex7, h⟩ := mb h
  refine mm_callV [] C (c_X4_stored_80 ex7) wb_X4_stored wv_X4_40 (by decide) (mc_80 k _) rfl rfl rfl (by omega) rfl (Nat.le_of_ble_eq_true rfl) dX4_behind_30 33 rfl ?_
  show mm_AW z k 3 (some (.int r)) F1 G6 33 [(0, .ref (mmad k 80)), (1, .ref (mmad k 14)), (2, .int a2)] [.int x7]
  exact mm_iretW C (h) dX4_behind_33
def m_X11_longing_0 (F : mmS) (a1 : Int32) : Option (Int32 × mmS) :=
  Option.bind (m_X11_isWithin a1 (0 : Int32) (40 : Int32)) fun x1 => if x1 = (0 : Int32) then (some ((-2 : Int32), F)) else (bd2 (m_X11_readRow_0 F) fun x2 G3 => if x2 = (0 : Int32) then (bd2 (m_X8_found_6 G3 (1 : Int32)) fun x6 G7 => some (x6, G7)) else (bd2 (m_X4_behind_80_14 G3 a1) fun x4 G5 => some (x4, G5)))
set_option maxHeartbeats 4000000 in
set_option maxRecDepth 100000 in
theorem c_X11_longing_0 {l : Launch} {k : mmK} {F : mmS} {a1 : Int32} {r : Int32} {F1 : mmS} (h : m_X11_longing_0 F a1 = some (r, F1)) : mm_T l k yX11_longing cX11_longing 2 (some .int) 7 [.ref (mmad k 0), .int a1] F (some (.int r)) F1 := by
  refine mm_start [(0, .ref (mmad k 0)), (1, .int a1)] (by decide) (Nat.le_of_ble_eq_true rfl) rfl ?_
  intro z hz C
  subst hz
  have C : mm_C z k RX11 cX11_longing 2 (some .int) 7 := C
  replace h := mk0 h
  unfold m_X11_longing_0 at h
  refine mm_iload_n C dX11_longing_0 rfl 1 rfl 1 rfl ?_
  refine mm_iconst (v := (0 : Int32)) C dX11_longing_1 (by decide) 2 rfl ?_
  refine mm_bipush (v := (40 : Int32)) C dX11_longing_2 (by decide) 4 rfl ?_
  obtain ⟨x1, ex1, h⟩ := mb h
  refine mm_callS [.int a1, .int (0 : Int32), .int (40 : Int32)] C (c_X11_isWithin ex1) wb_X11_isWithin ws_X11_85 rfl (by omega) rfl (Nat.le_of_ble_eq_true rfl) dX11_longing_4 7 rfl ?_
  show mm_AW z k 2 (some (.int r)) F1 F 7 [(0, .ref (mmad k 0)), (1, .int a1)] [.int x1]
  refine mm_if_ne C dX11_longing_7 13 10 (by decide) rfl (fun hc => ?_) (fun hc => ?_)
  · rw [if_neg hc] at h
    refine mm_aload_n C dX11_longing_13 rfl 0 rfl 14 rfl ?_
    obtain ⟨x2, G3, ex2, h⟩ := mb2 h
    refine mm_callV [] C (c_X11_readRow_0 ex2) wb_X11_readRow wv_X11_120 (by decide) (mc_0 k _) rfl rfl rfl (by omega) rfl (Nat.le_of_ble_eq_true rfl) dX11_longing_14 17 rfl ?_
    show mm_AW z k 2 (some (.int r)) F1 G3 17 [(0, .ref (mmad k 0)), (1, .int a1)] [.int x2]
    refine mm_if_ne C dX11_longing_17 29 20 (by decide) rfl (fun hc => ?_) (fun hc => ?_)
    · rw [if_neg hc] at h
      refine mm_aload_n C dX11_longing_29 rfl 0 rfl 30 rfl ?_
      refine mm_get C fl_X11_74_X11 (by decide) (mc_0 k _) rfl dX11_longing_30 33 rfl ?_
      refine mm_aload_n C dX11_longing_33 rfl 0 rfl 34 rfl ?_
      refine mm_get C fl_X11_26_X11 (by decide) (mc_0 k _) rfl dX11_longing_34 37 rfl ?_
      refine mm_iload_n C dX11_longing_37 rfl 1 rfl 38 rfl ?_
      obtain ⟨x4, G5, ex4, h⟩ := mb2 h
      refine mm_callV [.ref (mmad k 14), .int a1] C (c_X4_behind_80_14 ex4) wb_X4_behind wv_X11_176 (by decide) (mc_80 k _) rfl rfl rfl (by omega) rfl (Nat.le_of_ble_eq_true rfl) dX11_longing_38 41 rfl ?_
      show mm_AW z k 2 (some (.int r)) F1 G5 41 [(0, .ref (mmad k 0)), (1, .int a1)] [.int x4]
      exact mm_iretW C (h) dX11_longing_41
    · rw [if_pos hc] at h
      refine mm_aload_n C dX11_longing_20 rfl 0 rfl 21 rfl ?_
      refine mm_get C fl_X11_19_X11 (by decide) (mc_0 k _) rfl dX11_longing_21 24 rfl ?_
      refine mm_iconst (v := (1 : Int32)) C dX11_longing_24 (by decide) 25 rfl ?_
      obtain ⟨x6, G7, ex6, h⟩ := mb2 h
      refine mm_callV [.int (1 : Int32)] C (c_X8_found_6 ex6) wb_X8_found wv_X11_124 (by decide) (mc_6 k _) rfl rfl rfl (by omega) rfl (Nat.le_of_ble_eq_true rfl) dX11_longing_25 28 rfl ?_
      show mm_AW z k 2 (some (.int r)) F1 G7 28 [(0, .ref (mmad k 0)), (1, .int a1)] [.int x6]
      exact mm_iretW C (h) dX11_longing_28
  · rw [if_pos hc] at h
    refine mm_bipush (v := (-2 : Int32)) C dX11_longing_10 (by decide) 12 rfl ?_
    exact mm_iretW C (h) dX11_longing_12
def m_X4_paysAt_80 (F : mmS) (a1 : Int32) : Option (Int32 × mmS) :=
  Option.bind (m_X4_stored_80 F) fun x1 => mlet (x1 + (F 81 2)) fun x2 => mlet (F 36 2) fun x3 => Option.bind (m_X1_meet_81 F a1 (-1 : Int32)) fun G4 => Option.bind (m_X0_meet_36 G4 a1 (-1 : Int32)) fun G5 => Option.bind (m_X4_stored_80 G5) fun x6 => mlet ((x6 + (G5 81 2)) - x2) fun x7 => if ((G5 1 1) * ((G5 36 2) - x3)) < x7 then (Option.bind (zg (0 : Int32)) fun x8 => some ((x8, G5))) else (Option.bind (zg (1 : Int32)) fun x9 => some ((x9, G5)))
set_option maxHeartbeats 4000000 in
set_option maxRecDepth 100000 in
theorem c_X4_paysAt_80 {l : Launch} {k : mmK} {F : mmS} {a1 : Int32} {r : Int32} {F1 : mmS} (h : m_X4_paysAt_80 F a1 = some (r, F1)) : mm_T l k yX4_paysAt cX4_paysAt 5 (some .boolean) 4 [.ref (mmad k 80), .int a1] F (some (.int r)) F1 := by
  refine mm_start [(0, .ref (mmad k 80)), (1, .int a1)] (by decide) (Nat.le_of_ble_eq_true rfl) rfl ?_
  intro z hz C
  subst hz
  have C : mm_C z k RX4 cX4_paysAt 5 (some .boolean) 4 := C
  replace h := mk0 h
  unfold m_X4_paysAt_80 at h
  refine mm_aload_n C dX4_paysAt_0 rfl 0 rfl 1 rfl ?_
  obtain ⟨x1, ex1, h⟩ := mb h
  refine mm_callV [] C (c_X4_stored_80 ex1) wb_X4_stored wv_X4_40 (by decide) (mc_80 k _) rfl rfl rfl (by omega) rfl (Nat.le_of_ble_eq_true rfl) dX4_paysAt_1 4 rfl ?_
  show mm_AW z k 5 (some (.int r)) F1 F 4 [(0, .ref (mmad k 80)), (1, .int a1)] [.int x1]
  refine mm_aload_n C dX4_paysAt_4 rfl 0 rfl 5 rfl ?_
  refine mm_get C fl_X4_24_X4 (by decide) (mc_80 k _) rfl dX4_paysAt_5 8 rfl ?_
  refine mm_get C fl_X4_60_X1 (by decide) (mc_81 k _) rfl dX4_paysAt_8 11 rfl ?_
  refine mm_iadd C dX4_paysAt_11 12 rfl ?_
  obtain ⟨x2, ex2, h⟩ := me h
  refine mm_top ex2 ?_
  refine mm_istore_n (lv2 := [(2, .int x2), (0, .ref (mmad k 80)), (1, .int a1)]) C dX4_paysAt_12 rfl (by decide) rfl 13 rfl ?_
  refine mm_aload_n C dX4_paysAt_13 rfl 1 rfl 14 rfl ?_
  refine mm_get C fl_X4_15_X4 (by decide) (mc_80 k _) rfl dX4_paysAt_14 17 rfl ?_
  refine mm_get C fl_X4_63_X0 (by decide) (mc_36 k _) rfl dX4_paysAt_17 20 rfl ?_
  obtain ⟨x3, ex3, h⟩ := me h
  refine mm_top ex3 ?_
  refine mm_istore_n (lv2 := [(3, .int x3), (2, .int x2), (0, .ref (mmad k 80)), (1, .int a1)]) C dX4_paysAt_20 rfl (by decide) rfl 21 rfl ?_
  refine mm_aload_n C dX4_paysAt_21 rfl 2 rfl 22 rfl ?_
  refine mm_get C fl_X4_24_X4 (by decide) (mc_80 k _) rfl dX4_paysAt_22 25 rfl ?_
  refine mm_iload_n C dX4_paysAt_25 rfl 3 rfl 26 rfl ?_
  refine mm_iconst (v := (-1 : Int32)) C dX4_paysAt_26 (by decide) 27 rfl ?_
  obtain ⟨G4, eG4, h⟩ := mb h
  refine mm_callV [.int a1, .int (-1 : Int32)] C (c_X1_meet_81 eG4) wb_X1_meet wv_X4_64 (by decide) (mc_81 k _) rfl rfl rfl (by omega) rfl (Nat.le_of_ble_eq_true rfl) dX4_paysAt_27 30 rfl ?_
  show mm_AW z k 5 (some (.int r)) F1 G4 30 [(3, .int x3), (2, .int x2), (0, .ref (mmad k 80)), (1, .int a1)] []
  refine mm_aload_n C dX4_paysAt_30 rfl 2 rfl 31 rfl ?_
  refine mm_get C fl_X4_15_X4 (by decide) (mc_80 k _) rfl dX4_paysAt_31 34 rfl ?_
  refine mm_iload_n C dX4_paysAt_34 rfl 3 rfl 35 rfl ?_
  refine mm_iconst (v := (-1 : Int32)) C dX4_paysAt_35 (by decide) 36 rfl ?_
  obtain ⟨G5, eG5, h⟩ := mb h
  refine mm_callV [.int a1, .int (-1 : Int32)] C (c_X0_meet_36 eG5) wb_X0_meet wv_X4_68 (by decide) (mc_36 k _) rfl rfl rfl (by omega) rfl (Nat.le_of_ble_eq_true rfl) dX4_paysAt_36 39 rfl ?_
  show mm_AW z k 5 (some (.int r)) F1 G5 39 [(3, .int x3), (2, .int x2), (0, .ref (mmad k 80)), (1, .int a1)] []
  refine mm_aload_n C dX4_paysAt_39 rfl 2 rfl 40 rfl ?_
  obtain ⟨x6, ex6, h⟩ := mb h
  refine mm_callV [] C (c_X4_stored_80 ex6) wb_X4_stored wv_X4_40 (by decide) (mc_80 k _) rfl rfl rfl (by omega) rfl (Nat.le_of_ble_eq_true rfl) dX4_paysAt_40 43 rfl ?_
  show mm_AW z k 5 (some (.int r)) F1 G5 43 [(3, .int x3), (2, .int x2), (0, .ref (mmad k 80)), (1, .int a1)] [.int x6]
  refine mm_aload_n C dX4_paysAt_43 rfl 2 rfl 44 rfl ?_
  refine mm_get C fl_X4_24_X4 (by decide) (mc_80 k _) rfl dX4_paysAt_44 47 rfl ?_
  refine mm_get C fl_X4_60_X1 (by decide) (mc_81 k _) rfl dX4_paysAt_47 50 rfl ?_
  refine mm_iadd C dX4_paysAt_50 51 rfl ?_
  refine mm_iload_n C dX4_paysAt_51 rfl 1 rfl 52 rfl ?_
  refine mm_isub C dX4_paysAt_52 53 rfl ?_
  obtain ⟨x7, ex7, h⟩ := me h
  refine mm_top ex7 ?_
  refine mm_istore (lv2 := [(4, .int x7), (3, .int x3), (2, .int x2), (0, .ref (mmad k 80)), (1, .int a1)]) C dX4_paysAt_53 (by decide) rfl 55 rfl ?_
  refine mm_iload C dX4_paysAt_55 0 rfl 57 rfl ?_
  refine mm_aload_n C dX4_paysAt_57 rfl 3 rfl 58 rfl ?_
  refine mm_get C fl_X4_9_X4 (by decide) (mc_80 k _) rfl dX4_paysAt_58 61 rfl ?_
  refine mm_get C fl_X4_69_X3 (by decide) (mc_1 k _) rfl dX4_paysAt_61 64 rfl ?_
  refine mm_aload_n C dX4_paysAt_64 rfl 3 rfl 65 rfl ?_
  refine mm_get C fl_X4_15_X4 (by decide) (mc_80 k _) rfl dX4_paysAt_65 68 rfl ?_
  refine mm_get C fl_X4_63_X0 (by decide) (mc_36 k _) rfl dX4_paysAt_68 71 rfl ?_
  refine mm_iload_n C dX4_paysAt_71 rfl 1 rfl 72 rfl ?_
  refine mm_isub C dX4_paysAt_72 73 rfl ?_
  refine mm_imul C dX4_paysAt_73 74 rfl ?_
  refine mm_icmp_gt C dX4_paysAt_74 81 77 (by decide) rfl (fun hc => ?_) (fun hc => ?_)
  · rw [if_pos hc] at h
    refine mm_iconst (v := (0 : Int32)) C dX4_paysAt_81 (by decide) 82 rfl ?_
    obtain ⟨x8, ex8, h⟩ := mb h
    exact mm_zretW C ex8 (h) dX4_paysAt_82
  · rw [if_neg hc] at h
    refine mm_iconst (v := (1 : Int32)) C dX4_paysAt_77 (by decide) 78 rfl ?_
    refine mm_goto C dX4_paysAt_78 82 (by decide) ?_
    obtain ⟨x9, ex9, h⟩ := mb h
    exact mm_zretW C ex9 (h) dX4_paysAt_82
def m_X4_firstUnpaid_80_14_L25 : Nat → Int32 → mmS → Option ((Int32 × mmS) ⊕ (mmS))
  | 0, _, _ => none
  | n7 + 1, v5, G6 => if (G6 14 2) ≤ v5 then (some (.inr (G6))) else (Option.bind (ald G6 15 v5) fun x8 => bd2 (m_X4_paysAt_80 G6 x8) fun x9 G10 => if x9 = (0 : Int32) then (some (.inl (v5, G10))) else (mlet (v5 + (1 : Int32)) fun x11 => m_X4_firstUnpaid_80_14_L25 n7 x11 G10))
def m_X4_firstUnpaid_80_14 (F : mmS)  : Option (Int32 × mmS) :=
  bd2 (m_X0_plan_36_14 F) fun x1 G2 => Option.bind (m_X7_begin_36 G2) fun G3 => Option.bind (m_X7_begin_81 G3) fun G4 => bdE1 (m_X4_firstUnpaid_80_14_L25 300 (0 : Int32) G4) fun G12 => some ((-1 : Int32), G12)
set_option maxHeartbeats 4000000 in
set_option maxRecDepth 100000 in
theorem c_X4_firstUnpaid_80_14 {l : Launch} {k : mmK} {F : mmS}  {r : Int32} {F1 : mmS} (h : m_X4_firstUnpaid_80_14 F = some (r, F1)) : mm_T l k yX4_firstUnpaid cX4_firstUnpaid 3 (some .int) 5 [.ref (mmad k 80), .ref (mmad k 14)] F (some (.int r)) F1 := by
  refine mm_start [(0, .ref (mmad k 80)), (1, .ref (mmad k 14))] (by decide) (Nat.le_of_ble_eq_true rfl) rfl ?_
  intro z hz C
  subst hz
  have C : mm_C z k RX4 cX4_firstUnpaid 3 (some .int) 5 := C
  replace h := mk0 h
  unfold m_X4_firstUnpaid_80_14 at h
  refine mm_aload_n C dX4_firstUnpaid_0 rfl 0 rfl 1 rfl ?_
  refine mm_get C fl_X4_15_X4 (by decide) (mc_80 k _) rfl dX4_firstUnpaid_1 4 rfl ?_
  refine mm_aload_n C dX4_firstUnpaid_4 rfl 1 rfl 5 rfl ?_
  obtain ⟨x1, G2, ex1, h⟩ := mb2 h
  refine mm_callV [.ref (mmad k 14)] C (c_X0_plan_36_14 ex1) wb_X0_plan wv_X4_28 (by decide) (mc_36 k _) rfl rfl rfl (by omega) rfl (Nat.le_of_ble_eq_true rfl) dX4_firstUnpaid_5 8 rfl ?_
  show mm_AW z k 3 (some (.int r)) F1 G2 8 [(0, .ref (mmad k 80)), (1, .ref (mmad k 14))] [.int x1]
  refine mm_pop C dX4_firstUnpaid_8 rfl 9 rfl ?_
  refine mm_aload_n C dX4_firstUnpaid_9 rfl 0 rfl 10 rfl ?_
  refine mm_get C fl_X4_15_X4 (by decide) (mc_80 k _) rfl dX4_firstUnpaid_10 13 rfl ?_
  obtain ⟨G3, eG3, h⟩ := mb h
  refine mm_callU [] C (c_X7_begin_36 eG3) wb_X7_begin wu_X4_44_X0 (fun s hN => hN.2.2.2.2) (by decide) (mc_36 k _) rfl rfl (by omega) rfl (Nat.le_of_ble_eq_true rfl) dX4_firstUnpaid_13 16 rfl ?_
  show mm_AW z k 3 (some (.int r)) F1 G3 16 [(0, .ref (mmad k 80)), (1, .ref (mmad k 14))] []
  refine mm_aload_n C dX4_firstUnpaid_16 rfl 0 rfl 17 rfl ?_
  refine mm_get C fl_X4_24_X4 (by decide) (mc_80 k _) rfl dX4_firstUnpaid_17 20 rfl ?_
  obtain ⟨G4, eG4, h⟩ := mb h
  refine mm_callU [] C (c_X7_begin_81 eG4) wb_X7_begin wu_X4_47_X1 (fun s hN => hN.2.2.2.2) (by decide) (mc_81 k _) rfl rfl (by omega) rfl (Nat.le_of_ble_eq_true rfl) dX4_firstUnpaid_20 23 rfl ?_
  show mm_AW z k 3 (some (.int r)) F1 G4 23 [(0, .ref (mmad k 80)), (1, .ref (mmad k 14))] []
  refine mm_iconst (v := (0 : Int32)) C dX4_firstUnpaid_23 (by decide) 24 rfl ?_
  refine mm_istore_n (lv2 := [(2, .int (0 : Int32)), (0, .ref (mmad k 80)), (1, .ref (mmad k 14))]) C dX4_firstUnpaid_24 rfl (by decide) rfl 25 rfl ?_
  refine mm_lv [1, 2, 0] rfl ?_
  have hL25 : ∀ (K : ((Int32 × mmS) ⊕ (mmS)) → Option (Int32 × mmS)) (hK : ∀ (G6 : mmS) , K (.inr (G6)) = some (r, F1) → mm_AW z k 3 (some (.int r)) F1 G6 54 [] []) (hE : ∀ q : Int32 × mmS, K (.inl q) = some (r, F1) → q = (r, F1)) (n7 : Nat) (v5 : Int32) (G6 : mmS) , (m_X4_firstUnpaid_80_14_L25 n7 v5 G6).bind K = some (r, F1) → mm_AW z k 3 (some (.int r)) F1 G6 25 [(0, .ref (mmad k 80)), (1, .ref (mmad k 14)), (2, .int v5)] [] := by
    intro K hK hE n7
    induction n7 with
    | zero => intro v5 G6 h; rw [m_X4_firstUnpaid_80_14_L25] at h; cases h
    | succ n7 ih =>
      intro v5 G6 h
      rw [m_X4_firstUnpaid_80_14_L25] at h
      refine mm_iload_n C dX4_firstUnpaid_25 rfl 2 rfl 26 rfl ?_
      refine mm_aload_n C dX4_firstUnpaid_26 rfl 1 rfl 27 rfl ?_
      refine mm_get C fl_X4_48_X6 (by decide) (mc_14 k _) rfl dX4_firstUnpaid_27 30 rfl ?_
      refine mm_icmp_ge C dX4_firstUnpaid_30 54 33 (by decide) rfl (fun hc => ?_) (fun hc => ?_)
      · rw [if_pos hc] at h
        refine mm_lv [] rfl ?_
        exact hK _ h
      · rw [if_neg hc] at h
        refine mm_aload_n C dX4_firstUnpaid_33 rfl 0 rfl 34 rfl ?_
        refine mm_aload_n C dX4_firstUnpaid_34 rfl 1 rfl 35 rfl ?_
        refine mm_get C fl_X4_52_X6 (by decide) (mc_14 k _) rfl dX4_firstUnpaid_35 38 rfl ?_
        refine mm_iload_n C dX4_firstUnpaid_38 rfl 2 rfl 39 rfl ?_
        obtain ⟨x8, ex8, h⟩ := mb h
        refine mm_iald C ex8 dX4_firstUnpaid_39 40 rfl ?_
        obtain ⟨x9, G10, ex9, h⟩ := mb2 h
        refine mm_callV [.int x8] C (c_X4_paysAt_80 ex9) wb_X4_paysAt wv_X4_56 (by decide) (mc_80 k _) rfl rfl rfl (by omega) rfl (Nat.le_of_ble_eq_true rfl) dX4_firstUnpaid_40 43 rfl ?_
        show mm_AW z k 3 (some (.int r)) F1 G10 43 [(0, .ref (mmad k 80)), (1, .ref (mmad k 14)), (2, .int v5)] [.int x9]
        refine mm_if_ne C dX4_firstUnpaid_43 48 46 (by decide) rfl (fun hc => ?_) (fun hc => ?_)
        · rw [if_neg hc] at h
          obtain ⟨x11, ex11, h⟩ := me h
          refine mm_iinc (v := x11) (lv2 := [(2, .int x11), (0, .ref (mmad k 80)), (1, .ref (mmad k 14))]) C dX4_firstUnpaid_48 2 rfl (by rw [← ex11]; rfl) (by decide) rfl 51 rfl ?_
          refine mm_goto C dX4_firstUnpaid_51 25 (by decide) ?_
          refine mm_lv [1, 2, 0] rfl ?_
          exact ih _ _ h
        · rw [if_pos hc] at h
          refine mm_iload_n C dX4_firstUnpaid_46 rfl 2 rfl 47 rfl ?_
          exact mm_iretW C (congrArg some (hE _ h)) dX4_firstUnpaid_47
  refine mjE1 h (fun (G12 : mmS) => mm_AW z k 3 (some (.int r)) F1 G12 54 [] []) ?_ ?_
  · intro G12 h
    refine mm_iconst (v := (-1 : Int32)) C dX4_firstUnpaid_54 (by decide) 55 rfl ?_
    exact mm_iretW C (h) dX4_firstUnpaid_55
  · intro K2 hR hE h
    exact hL25 K2 hR hE 300 _ _ h
def m_X11_pays_0 (F : mmS)  : Option (Int32 × mmS) :=
  bd2 (m_X11_readRow_0 F) fun x1 G2 => if x1 = (0 : Int32) then (bd2 (m_X8_found_6 G2 (1 : Int32)) fun x5 G6 => some (x5, G6)) else (bd2 (m_X4_firstUnpaid_80_14 G2) fun x3 G4 => some (x3, G4))
set_option maxHeartbeats 4000000 in
set_option maxRecDepth 100000 in
theorem c_X11_pays_0 {l : Launch} {k : mmK} {F : mmS}  {r : Int32} {F1 : mmS} (h : m_X11_pays_0 F = some (r, F1)) : mm_T l k yX11_pays cX11_pays 1 (some .int) 6 [.ref (mmad k 0)] F (some (.int r)) F1 := by
  refine mm_start [(0, .ref (mmad k 0))] (by decide) (Nat.le_of_ble_eq_true rfl) rfl ?_
  intro z hz C
  subst hz
  have C : mm_C z k RX11 cX11_pays 1 (some .int) 6 := C
  replace h := mk0 h
  unfold m_X11_pays_0 at h
  refine mm_aload_n C dX11_pays_0 rfl 0 rfl 1 rfl ?_
  obtain ⟨x1, G2, ex1, h⟩ := mb2 h
  refine mm_callV [] C (c_X11_readRow_0 ex1) wb_X11_readRow wv_X11_120 (by decide) (mc_0 k _) rfl rfl rfl (by omega) rfl (Nat.le_of_ble_eq_true rfl) dX11_pays_1 4 rfl ?_
  show mm_AW z k 1 (some (.int r)) F1 G2 4 [(0, .ref (mmad k 0))] [.int x1]
  refine mm_if_ne C dX11_pays_4 16 7 (by decide) rfl (fun hc => ?_) (fun hc => ?_)
  · rw [if_neg hc] at h
    refine mm_aload_n C dX11_pays_16 rfl 0 rfl 17 rfl ?_
    refine mm_get C fl_X11_74_X11 (by decide) (mc_0 k _) rfl dX11_pays_17 20 rfl ?_
    refine mm_aload_n C dX11_pays_20 rfl 0 rfl 21 rfl ?_
    refine mm_get C fl_X11_26_X11 (by decide) (mc_0 k _) rfl dX11_pays_21 24 rfl ?_
    obtain ⟨x3, G4, ex3, h⟩ := mb2 h
    refine mm_callV [.ref (mmad k 14)] C (c_X4_firstUnpaid_80_14 ex3) wb_X4_firstUnpaid wv_X11_180 (by decide) (mc_80 k _) rfl rfl rfl (by omega) rfl (Nat.le_of_ble_eq_true rfl) dX11_pays_24 27 rfl ?_
    show mm_AW z k 1 (some (.int r)) F1 G4 27 [(0, .ref (mmad k 0))] [.int x3]
    exact mm_iretW C (h) dX11_pays_27
  · rw [if_pos hc] at h
    refine mm_aload_n C dX11_pays_7 rfl 0 rfl 8 rfl ?_
    refine mm_get C fl_X11_19_X11 (by decide) (mc_0 k _) rfl dX11_pays_8 11 rfl ?_
    refine mm_iconst (v := (1 : Int32)) C dX11_pays_11 (by decide) 12 rfl ?_
    obtain ⟨x5, G6, ex5, h⟩ := mb2 h
    refine mm_callV [.int (1 : Int32)] C (c_X8_found_6 ex5) wb_X8_found wv_X11_124 (by decide) (mc_6 k _) rfl rfl rfl (by omega) rfl (Nat.le_of_ble_eq_true rfl) dX11_pays_12 15 rfl ?_
    show mm_AW z k 1 (some (.int r)) F1 G6 15 [(0, .ref (mmad k 0))] [.int x5]
    exact mm_iretW C (h) dX11_pays_15
def m_X11_isSheet (a0 : Int32) : Option (Int32) :=
  Option.bind (m_X11_isWithin a0 (0 : Int32) (3 : Int32)) fun x1 => Option.bind (zg x1) fun x2 => some (x2)
set_option maxHeartbeats 4000000 in
set_option maxRecDepth 100000 in
theorem c_X11_isSheet {l : Launch} {k : mmK} {F : mmS} {a0 : Int32} {r : Int32} (h : m_X11_isSheet a0 = some r) : mm_T l k yX11_isSheet cX11_isSheet 1 (some .boolean) 1 [.int a0] F (some (.int r)) F := by
  refine mm_start [(0, .int a0)] (by decide) (Nat.le_of_ble_eq_true rfl) rfl ?_
  intro z hz C
  subst hz
  have C : mm_C z k RX11 cX11_isSheet 1 (some .boolean) 1 := C
  replace h := mk0 h
  unfold m_X11_isSheet at h
  refine mm_iload_n C dX11_isSheet_0 rfl 0 rfl 1 rfl ?_
  refine mm_iconst (v := (0 : Int32)) C dX11_isSheet_1 (by decide) 2 rfl ?_
  refine mm_iconst (v := (3 : Int32)) C dX11_isSheet_2 (by decide) 3 rfl ?_
  obtain ⟨x1, ex1, h⟩ := mb h
  refine mm_callS [.int a0, .int (0 : Int32), .int (3 : Int32)] C (c_X11_isWithin ex1) wb_X11_isWithin ws_X11_85 rfl (by omega) rfl (Nat.le_of_ble_eq_true rfl) dX11_isSheet_3 6 rfl ?_
  show mm_AW z k 1 (some (.int r)) F F 6 [(0, .int a0)] [.int x1]
  obtain ⟨x2, ex2, h⟩ := mb h
  exact mm_zretP C ex2 (h) dX11_isSheet_6
def m_X11_isForm (a0 : Int32) : Option (Int32) :=
  Option.bind (m_X11_isWithin a0 (0 : Int32) (2 : Int32)) fun x1 => Option.bind (zg x1) fun x2 => some (x2)
set_option maxHeartbeats 4000000 in
set_option maxRecDepth 100000 in
theorem c_X11_isForm {l : Launch} {k : mmK} {F : mmS} {a0 : Int32} {r : Int32} (h : m_X11_isForm a0 = some r) : mm_T l k yX11_isForm cX11_isForm 1 (some .boolean) 1 [.int a0] F (some (.int r)) F := by
  refine mm_start [(0, .int a0)] (by decide) (Nat.le_of_ble_eq_true rfl) rfl ?_
  intro z hz C
  subst hz
  have C : mm_C z k RX11 cX11_isForm 1 (some .boolean) 1 := C
  replace h := mk0 h
  unfold m_X11_isForm at h
  refine mm_iload_n C dX11_isForm_0 rfl 0 rfl 1 rfl ?_
  refine mm_iconst (v := (0 : Int32)) C dX11_isForm_1 (by decide) 2 rfl ?_
  refine mm_iconst (v := (2 : Int32)) C dX11_isForm_2 (by decide) 3 rfl ?_
  obtain ⟨x1, ex1, h⟩ := mb h
  refine mm_callS [.int a0, .int (0 : Int32), .int (2 : Int32)] C (c_X11_isWithin ex1) wb_X11_isWithin ws_X11_85 rfl (by omega) rfl (Nat.le_of_ble_eq_true rfl) dX11_isForm_3 6 rfl ?_
  show mm_AW z k 1 (some (.int r)) F F 6 [(0, .int a0)] [.int x1]
  obtain ⟨x2, ex2, h⟩ := mb h
  exact mm_zretP C ex2 (h) dX11_isForm_6
def m_X8_renew_6_L17 (a1 : Int32) : Nat → Int32 → mmS → Option (mmS)
  | 0, _, _ => none
  | n5 + 1, v3, G4 => if (40 : Int32) ≤ v3 then (some ((G4))) else (Option.bind (rld 7 a1) fun q6 => Option.bind (ast G4 q6 v3 (0 : Int32)) fun G7 => mlet (v3 + (1 : Int32)) fun x8 => m_X8_renew_6_L17 a1 n5 x8 G7)
def m_X8_renew_6 (F : mmS) (a1 : Int32) (a2 : Int32) (a3 : Int32) : Option (mmS) :=
  Option.bind (ast F 12 a1 a2) fun G1 => Option.bind (ast G1 13 a1 a3) fun G2 => bd1 (m_X8_renew_6_L17 a1 300 (0 : Int32) G2) fun G9 => some G9
set_option maxHeartbeats 4000000 in
set_option maxRecDepth 100000 in
theorem c_X8_renew_6 {l : Launch} {k : mmK} {F : mmS} {a1 : Int32} {a2 : Int32} {a3 : Int32} {F1 : mmS} (h : m_X8_renew_6 F a1 a2 a3 = some F1) : mm_T l k yX8_renew cX8_renew 5 none 0 [.ref (mmad k 6), .int a1, .int a2, .int a3] F none F1 := by
  refine mm_start [(0, .ref (mmad k 6)), (1, .int a1), (2, .int a2), (3, .int a3)] (by decide) (Nat.le_of_ble_eq_true rfl) rfl ?_
  intro z hz C
  subst hz
  have C : mm_C z k RX8 cX8_renew 5 none 0 := C
  replace h := mk0 h
  unfold m_X8_renew_6 at h
  refine mm_aload_n C dX8_renew_0 rfl 0 rfl 1 rfl ?_
  refine mm_get C fl_X8_16_X8 (by decide) (mc_6 k _) rfl dX8_renew_1 4 rfl ?_
  refine mm_iload_n C dX8_renew_4 rfl 1 rfl 5 rfl ?_
  refine mm_iload_n C dX8_renew_5 rfl 2 rfl 6 rfl ?_
  obtain ⟨G1, eG1, h⟩ := mb h
  refine mm_iast C eG1 dX8_renew_6 7 rfl ?_
  refine mm_aload_n C dX8_renew_7 rfl 0 rfl 8 rfl ?_
  refine mm_get C fl_X8_20_X8 (by decide) (mc_6 k _) rfl dX8_renew_8 11 rfl ?_
  refine mm_iload_n C dX8_renew_11 rfl 1 rfl 12 rfl ?_
  refine mm_iload_n C dX8_renew_12 rfl 3 rfl 13 rfl ?_
  obtain ⟨G2, eG2, h⟩ := mb h
  refine mm_iast C eG2 dX8_renew_13 14 rfl ?_
  refine mm_iconst (v := (0 : Int32)) C dX8_renew_14 (by decide) 15 rfl ?_
  refine mm_istore (lv2 := [(4, .int (0 : Int32)), (0, .ref (mmad k 6)), (1, .int a1), (2, .int a2), (3, .int a3)]) C dX8_renew_15 (by decide) rfl 17 rfl ?_
  refine mm_lv [1, 2, 0] rfl ?_
  have hL17 : ∀ (K : (mmS) → Option (mmS)) (hK : ∀ (G4 : mmS) , K (G4) = some F1 → mm_AW z k 5 none F1 G4 40 [] []) (n5 : Nat) (v3 : Int32) (G4 : mmS) , (m_X8_renew_6_L17 a1 n5 v3 G4).bind K = some F1 → mm_AW z k 5 none F1 G4 17 [(0, .ref (mmad k 6)), (1, .int a1), (4, .int v3)] [] := by
    intro K hK n5
    induction n5 with
    | zero => intro v3 G4 h; rw [m_X8_renew_6_L17] at h; cases h
    | succ n5 ih =>
      intro v3 G4 h
      rw [m_X8_renew_6_L17] at h
      refine mm_iload C dX8_renew_17 2 rfl 19 rfl ?_
      refine mm_bipush (v := (40 : Int32)) C dX8_renew_19 (by decide) 21 rfl ?_
      refine mm_icmp_ge C dX8_renew_21 40 24 (by decide) rfl (fun hc => ?_) (fun hc => ?_)
      · rw [if_pos hc] at h
        refine mm_lv [] rfl ?_
        exact hK _ h
      · rw [if_neg hc] at h
        refine mm_aload_n C dX8_renew_24 rfl 0 rfl 25 rfl ?_
        refine mm_get C fl_X8_11_X8 (by decide) (mc_6 k _) rfl dX8_renew_25 28 rfl ?_
        refine mm_iload_n C dX8_renew_28 rfl 1 rfl 29 rfl ?_
        obtain ⟨q6, eq6, h⟩ := mb h
        refine mm_aald (t0 := 3) C (by decide) (mc_7 k _) rfl rfl eq6 dX8_renew_29 30 rfl ?_
        refine mm_iload C dX8_renew_30 2 rfl 32 rfl ?_
        refine mm_iconst (v := (0 : Int32)) C dX8_renew_32 (by decide) 33 rfl ?_
        obtain ⟨G7, eG7, h⟩ := mb h
        refine mm_iast C eG7 dX8_renew_33 34 rfl ?_
        obtain ⟨x8, ex8, h⟩ := me h
        refine mm_iinc (v := x8) (lv2 := [(4, .int x8), (0, .ref (mmad k 6)), (1, .int a1)]) C dX8_renew_34 2 rfl (by rw [← ex8]; rfl) (by decide) rfl 37 rfl ?_
        refine mm_goto C dX8_renew_37 17 (by decide) ?_
        refine mm_lv [1, 2, 0] rfl ?_
        exact ih _ _ h
  refine mj1 h (fun (G9 : mmS) => mm_AW z k 5 none F1 G9 40 [] []) ?_ ?_
  · intro G9 h
    exact mm_vretW C (h) dX8_renew_40
  · intro K2 hR h
    exact hL17 K2 hR 300 _ _ h
def m_X11_sheet_0 (F : mmS) (a1 : Int32) (a2 : Int32) (a3 : Int32) : Option (Int32 × mmS) :=
  Option.bind (m_X11_isSheet a1) fun x1 => if x1 = (0 : Int32) then (some ((-2 : Int32), F)) else (Option.bind (m_X11_isForm a2) fun x2 => if x2 = (0 : Int32) then (some ((-2 : Int32), F)) else (if a3 ≤ (40 : Int32) then (if (0 : Int32) ≤ a3 then (Option.bind (m_X8_renew_6 F a1 a2 a3) fun G3 => some (a3, G3)) else (bd2 (m_X8_found_6 F (5 : Int32)) fun x4 G5 => some (x4, G5))) else (some ((-2 : Int32), F))))
set_option maxHeartbeats 4000000 in
set_option maxRecDepth 100000 in
theorem c_X11_sheet_0 {l : Launch} {k : mmK} {F : mmS} {a1 : Int32} {a2 : Int32} {a3 : Int32} {r : Int32} {F1 : mmS} (h : m_X11_sheet_0 F a1 a2 a3 = some (r, F1)) : mm_T l k yX11_sheet cX11_sheet 4 (some .int) 2 [.ref (mmad k 0), .int a1, .int a2, .int a3] F (some (.int r)) F1 := by
  refine mm_start [(0, .ref (mmad k 0)), (1, .int a1), (2, .int a2), (3, .int a3)] (by decide) (Nat.le_of_ble_eq_true rfl) rfl ?_
  intro z hz C
  subst hz
  have C : mm_C z k RX11 cX11_sheet 4 (some .int) 2 := C
  replace h := mk0 h
  unfold m_X11_sheet_0 at h
  refine mm_iload_n C dX11_sheet_0 rfl 1 rfl 1 rfl ?_
  obtain ⟨x1, ex1, h⟩ := mb h
  refine mm_callS [.int a1] C (c_X11_isSheet ex1) wb_X11_isSheet ws_X11_183 rfl (by omega) rfl (Nat.le_of_ble_eq_true rfl) dX11_sheet_1 4 rfl ?_
  show mm_AW z k 4 (some (.int r)) F1 F 4 [(0, .ref (mmad k 0)), (1, .int a1), (2, .int a2), (3, .int a3)] [.int x1]
  refine mm_if_eq C dX11_sheet_4 20 7 (by decide) rfl (fun hc => ?_) (fun hc => ?_)
  · rw [if_pos hc] at h
    refine mm_bipush (v := (-2 : Int32)) C dX11_sheet_20 (by decide) 22 rfl ?_
    exact mm_iretW C (h) dX11_sheet_22
  · rw [if_neg hc] at h
    refine mm_iload_n C dX11_sheet_7 rfl 2 rfl 8 rfl ?_
    obtain ⟨x2, ex2, h⟩ := mb h
    refine mm_callS [.int a2] C (c_X11_isForm ex2) wb_X11_isForm ws_X11_186 rfl (by omega) rfl (Nat.le_of_ble_eq_true rfl) dX11_sheet_8 11 rfl ?_
    show mm_AW z k 4 (some (.int r)) F1 F 11 [(0, .ref (mmad k 0)), (1, .int a1), (2, .int a2), (3, .int a3)] [.int x2]
    refine mm_if_eq C dX11_sheet_11 20 14 (by decide) rfl (fun hc => ?_) (fun hc => ?_)
    · rw [if_pos hc] at h
      refine mm_bipush (v := (-2 : Int32)) C dX11_sheet_20 (by decide) 22 rfl ?_
      exact mm_iretW C (h) dX11_sheet_22
    · rw [if_neg hc] at h
      refine mm_iload_n C dX11_sheet_14 rfl 3 rfl 15 rfl ?_
      refine mm_bipush (v := (40 : Int32)) C dX11_sheet_15 (by decide) 17 rfl ?_
      refine mm_icmp_le C dX11_sheet_17 23 20 (by decide) rfl (fun hc => ?_) (fun hc => ?_)
      · rw [if_pos hc] at h
        refine mm_iload_n C dX11_sheet_23 rfl 3 rfl 24 rfl ?_
        refine mm_if_ge C dX11_sheet_24 36 27 (by decide) rfl (fun hc => ?_) (fun hc => ?_)
        · rw [if_pos hc] at h
          refine mm_aload_n C dX11_sheet_36 rfl 0 rfl 37 rfl ?_
          refine mm_get C fl_X11_19_X11 (by decide) (mc_0 k _) rfl dX11_sheet_37 40 rfl ?_
          refine mm_iload_n C dX11_sheet_40 rfl 1 rfl 41 rfl ?_
          refine mm_iload_n C dX11_sheet_41 rfl 2 rfl 42 rfl ?_
          refine mm_iload_n C dX11_sheet_42 rfl 3 rfl 43 rfl ?_
          obtain ⟨G3, eG3, h⟩ := mb h
          refine mm_callV [.int a1, .int a2, .int a3] C (c_X8_renew_6 eG3) wb_X8_renew wv_X11_189 (by decide) (mc_6 k _) rfl rfl rfl (by omega) rfl (Nat.le_of_ble_eq_true rfl) dX11_sheet_43 46 rfl ?_
          show mm_AW z k 4 (some (.int r)) F1 G3 46 [(0, .ref (mmad k 0)), (1, .int a1), (2, .int a2), (3, .int a3)] []
          refine mm_iload_n C dX11_sheet_46 rfl 3 rfl 47 rfl ?_
          exact mm_iretW C (h) dX11_sheet_47
        · rw [if_neg hc] at h
          refine mm_aload_n C dX11_sheet_27 rfl 0 rfl 28 rfl ?_
          refine mm_get C fl_X11_19_X11 (by decide) (mc_0 k _) rfl dX11_sheet_28 31 rfl ?_
          refine mm_iconst (v := (5 : Int32)) C dX11_sheet_31 (by decide) 32 rfl ?_
          obtain ⟨x4, G5, ex4, h⟩ := mb2 h
          refine mm_callV [.int (5 : Int32)] C (c_X8_found_6 ex4) wb_X8_found wv_X11_124 (by decide) (mc_6 k _) rfl rfl rfl (by omega) rfl (Nat.le_of_ble_eq_true rfl) dX11_sheet_32 35 rfl ?_
          show mm_AW z k 4 (some (.int r)) F1 G5 35 [(0, .ref (mmad k 0)), (1, .int a1), (2, .int a2), (3, .int a3)] [.int x4]
          exact mm_iretW C (h) dX11_sheet_35
      · rw [if_neg hc] at h
        refine mm_bipush (v := (-2 : Int32)) C dX11_sheet_20 (by decide) 22 rfl ?_
        exact mm_iretW C (h) dX11_sheet_22
def m_X8_drop_6 (F : mmS) (a1 : Int32) : Option (mmS) :=
  Option.bind (ast F 12 a1 (-1 : Int32)) fun G1 => Option.bind (ast G1 13 a1 (0 : Int32)) fun G2 => some G2
set_option maxHeartbeats 4000000 in
set_option maxRecDepth 100000 in
theorem c_X8_drop_6 {l : Launch} {k : mmK} {F : mmS} {a1 : Int32} {F1 : mmS} (h : m_X8_drop_6 F a1 = some F1) : mm_T l k yX8_drop cX8_drop 2 none 0 [.ref (mmad k 6), .int a1] F none F1 := by
  refine mm_start [(0, .ref (mmad k 6)), (1, .int a1)] (by decide) (Nat.le_of_ble_eq_true rfl) rfl ?_
  intro z hz C
  subst hz
  have C : mm_C z k RX8 cX8_drop 2 none 0 := C
  replace h := mk0 h
  unfold m_X8_drop_6 at h
  refine mm_aload_n C dX8_drop_0 rfl 0 rfl 1 rfl ?_
  refine mm_get C fl_X8_16_X8 (by decide) (mc_6 k _) rfl dX8_drop_1 4 rfl ?_
  refine mm_iload_n C dX8_drop_4 rfl 1 rfl 5 rfl ?_
  refine mm_iconst (v := (-1 : Int32)) C dX8_drop_5 (by decide) 6 rfl ?_
  obtain ⟨G1, eG1, h⟩ := mb h
  refine mm_iast C eG1 dX8_drop_6 7 rfl ?_
  refine mm_aload_n C dX8_drop_7 rfl 0 rfl 8 rfl ?_
  refine mm_get C fl_X8_20_X8 (by decide) (mc_6 k _) rfl dX8_drop_8 11 rfl ?_
  refine mm_iload_n C dX8_drop_11 rfl 1 rfl 12 rfl ?_
  refine mm_iconst (v := (0 : Int32)) C dX8_drop_12 (by decide) 13 rfl ?_
  obtain ⟨G2, eG2, h⟩ := mb h
  refine mm_iast C eG2 dX8_drop_13 14 rfl ?_
  exact mm_vretW C (h) dX8_drop_14
def m_X11_lose_0 (F : mmS) (a1 : Int32) : Option (Int32 × mmS) :=
  Option.bind (m_X11_isSheet a1) fun x1 => if x1 = (0 : Int32) then (some ((-2 : Int32), F)) else (Option.bind (m_X8_isLost_6 F a1) fun x2 => if x2 = (0 : Int32) then (Option.bind (ald F 13 a1) fun x3 => Option.bind (m_X8_drop_6 F a1) fun G4 => some (x3, G4)) else (bd2 (m_X8_found_6 F (1 : Int32)) fun x5 G6 => some (x5, G6)))
set_option maxHeartbeats 4000000 in
set_option maxRecDepth 100000 in
theorem c_X11_lose_0 {l : Launch} {k : mmK} {F : mmS} {a1 : Int32} {r : Int32} {F1 : mmS} (h : m_X11_lose_0 F a1 = some (r, F1)) : mm_T l k yX11_lose cX11_lose 3 (some .int) 2 [.ref (mmad k 0), .int a1] F (some (.int r)) F1 := by
  refine mm_start [(0, .ref (mmad k 0)), (1, .int a1)] (by decide) (Nat.le_of_ble_eq_true rfl) rfl ?_
  intro z hz C
  subst hz
  have C : mm_C z k RX11 cX11_lose 3 (some .int) 2 := C
  replace h := mk0 h
  unfold m_X11_lose_0 at h
  refine mm_iload_n C dX11_lose_0 rfl 1 rfl 1 rfl ?_
  obtain ⟨x1, ex1, h⟩ := mb h
  refine mm_callS [.int a1] C (c_X11_isSheet ex1) wb_X11_isSheet ws_X11_183 rfl (by omega) rfl (Nat.le_of_ble_eq_true rfl) dX11_lose_1 4 rfl ?_
  show mm_AW z k 3 (some (.int r)) F1 F 4 [(0, .ref (mmad k 0)), (1, .int a1)] [.int x1]
  refine mm_if_ne C dX11_lose_4 10 7 (by decide) rfl (fun hc => ?_) (fun hc => ?_)
  · rw [if_neg hc] at h
    refine mm_aload_n C dX11_lose_10 rfl 0 rfl 11 rfl ?_
    refine mm_get C fl_X11_19_X11 (by decide) (mc_0 k _) rfl dX11_lose_11 14 rfl ?_
    refine mm_iload_n C dX11_lose_14 rfl 1 rfl 15 rfl ?_
    obtain ⟨x2, ex2, h⟩ := mb h
    refine mm_callV [.int a1] C (c_X8_isLost_6 ex2) wb_X8_isLost wv_X11_193 (by decide) (mc_6 k _) rfl rfl rfl (by omega) rfl (Nat.le_of_ble_eq_true rfl) dX11_lose_15 18 rfl ?_
    show mm_AW z k 3 (some (.int r)) F1 F 18 [(0, .ref (mmad k 0)), (1, .int a1)] [.int x2]
    refine mm_if_eq C dX11_lose_18 30 21 (by decide) rfl (fun hc => ?_) (fun hc => ?_)
    · rw [if_pos hc] at h
      refine mm_aload_n C dX11_lose_30 rfl 0 rfl 31 rfl ?_
      refine mm_get C fl_X11_19_X11 (by decide) (mc_0 k _) rfl dX11_lose_31 34 rfl ?_
      refine mm_get C fl_X11_196_X8 (by decide) (mc_6 k _) rfl dX11_lose_34 37 rfl ?_
      refine mm_iload_n C dX11_lose_37 rfl 1 rfl 38 rfl ?_
      obtain ⟨x3, ex3, h⟩ := mb h
      refine mm_iald C ex3 dX11_lose_38 39 rfl ?_
      refine mm_istore_n (lv2 := [(2, .int x3), (0, .ref (mmad k 0)), (1, .int a1)]) C dX11_lose_39 rfl (by decide) rfl 40 rfl ?_
      refine mm_aload_n C dX11_lose_40 rfl 1 rfl 41 rfl ?_
      refine mm_get C fl_X11_19_X11 (by decide) (mc_0 k _) rfl dX11_lose_41 44 rfl ?_
      refine mm_iload_n C dX11_lose_44 rfl 2 rfl 45 rfl ?_
      obtain ⟨G4, eG4, h⟩ := mb h
      refine mm_callV [.int a1] C (c_X8_drop_6 eG4) wb_X8_drop wv_X11_199 (by decide) (mc_6 k _) rfl rfl rfl (by omega) rfl (Nat.le_of_ble_eq_true rfl) dX11_lose_45 48 rfl ?_
      show mm_AW z k 3 (some (.int r)) F1 G4 48 [(2, .int x3), (0, .ref (mmad k 0)), (1, .int a1)] []
      refine mm_iload_n C dX11_lose_48 rfl 0 rfl 49 rfl ?_
      exact mm_iretW C (h) dX11_lose_49
    · rw [if_neg hc] at h
      refine mm_aload_n C dX11_lose_21 rfl 0 rfl 22 rfl ?_
      refine mm_get C fl_X11_19_X11 (by decide) (mc_0 k _) rfl dX11_lose_22 25 rfl ?_
      refine mm_iconst (v := (1 : Int32)) C dX11_lose_25 (by decide) 26 rfl ?_
      obtain ⟨x5, G6, ex5, h⟩ := mb2 h
      refine mm_callV [.int (1 : Int32)] C (c_X8_found_6 ex5) wb_X8_found wv_X11_124 (by decide) (mc_6 k _) rfl rfl rfl (by omega) rfl (Nat.le_of_ble_eq_true rfl) dX11_lose_26 29 rfl ?_
      show mm_AW z k 3 (some (.int r)) F1 G6 29 [(0, .ref (mmad k 0)), (1, .int a1)] [.int x5]
      exact mm_iretW C (h) dX11_lose_29
  · rw [if_pos hc] at h
    refine mm_bipush (v := (-2 : Int32)) C dX11_lose_7 (by decide) 9 rfl ?_
    exact mm_iretW C (h) dX11_lose_9
def m_X8_hasItems_6 (F : mmS) (a1 : Int32) (a2 : Int32) (a3 : Int32) : Option (Int32) :=
  if a2 < (0 : Int32) then (Option.bind (zg (0 : Int32)) fun x1 => some (x1)) else (if a3 < (0 : Int32) then (Option.bind (zg (0 : Int32)) fun x2 => some (x2)) else (Option.bind (ald F 13 a1) fun x3 => if (x3 - a3) < a2 then (Option.bind (zg (0 : Int32)) fun x4 => some (x4)) else (Option.bind (zg (1 : Int32)) fun x5 => some (x5))))
set_option maxHeartbeats 4000000 in
set_option maxRecDepth 100000 in
theorem c_X8_hasItems_6 {l : Launch} {k : mmK} {F : mmS} {a1 : Int32} {a2 : Int32} {a3 : Int32} {r : Int32} (h : m_X8_hasItems_6 F a1 a2 a3 = some r) : mm_T l k yX8_hasItems cX8_hasItems 4 (some .boolean) 0 [.ref (mmad k 6), .int a1, .int a2, .int a3] F (some (.int r)) F := by
  refine mm_start [(0, .ref (mmad k 6)), (1, .int a1), (2, .int a2), (3, .int a3)] (by decide) (Nat.le_of_ble_eq_true rfl) rfl ?_
  intro z hz C
  subst hz
  have C : mm_C z k RX8 cX8_hasItems 4 (some .boolean) 0 := C
  replace h := mk0 h
  unfold m_X8_hasItems_6 at h
  refine mm_iload_n C dX8_hasItems_0 rfl 2 rfl 1 rfl ?_
  refine mm_if_lt C dX8_hasItems_1 24 4 (by decide) rfl (fun hc => ?_) (fun hc => ?_)
  · rw [if_pos hc] at h
    refine mm_iconst (v := (0 : Int32)) C dX8_hasItems_24 (by decide) 25 rfl ?_
    obtain ⟨x1, ex1, h⟩ := mb h
    exact mm_zretP C ex1 (h) dX8_hasItems_25
  · rw [if_neg hc] at h
    refine mm_iload_n C dX8_hasItems_4 rfl 3 rfl 5 rfl ?_
    refine mm_if_lt C dX8_hasItems_5 24 8 (by decide) rfl (fun hc => ?_) (fun hc => ?_)
    · rw [if_pos hc] at h
      refine mm_iconst (v := (0 : Int32)) C dX8_hasItems_24 (by decide) 25 rfl ?_
      obtain ⟨x2, ex2, h⟩ := mb h
      exact mm_zretP C ex2 (h) dX8_hasItems_25
    · rw [if_neg hc] at h
      refine mm_iload_n C dX8_hasItems_8 rfl 2 rfl 9 rfl ?_
      refine mm_aload_n C dX8_hasItems_9 rfl 0 rfl 10 rfl ?_
      refine mm_get C fl_X8_20_X8 (by decide) (mc_6 k _) rfl dX8_hasItems_10 13 rfl ?_
      refine mm_iload_n C dX8_hasItems_13 rfl 1 rfl 14 rfl ?_
      obtain ⟨x3, ex3, h⟩ := mb h
      refine mm_iald C ex3 dX8_hasItems_14 15 rfl ?_
      refine mm_iload_n C dX8_hasItems_15 rfl 3 rfl 16 rfl ?_
      refine mm_isub C dX8_hasItems_16 17 rfl ?_
      refine mm_icmp_gt C dX8_hasItems_17 24 20 (by decide) rfl (fun hc => ?_) (fun hc => ?_)
      · rw [if_pos hc] at h
        refine mm_iconst (v := (0 : Int32)) C dX8_hasItems_24 (by decide) 25 rfl ?_
        obtain ⟨x4, ex4, h⟩ := mb h
        exact mm_zretP C ex4 (h) dX8_hasItems_25
      · rw [if_neg hc] at h
        refine mm_iconst (v := (1 : Int32)) C dX8_hasItems_20 (by decide) 21 rfl ?_
        refine mm_goto C dX8_hasItems_21 25 (by decide) ?_
        obtain ⟨x5, ex5, h⟩ := mb h
        exact mm_zretP C ex5 (h) dX8_hasItems_25
def m_X11_itemRefusal_0 (F : mmS) (a1 : Int32) (a2 : Int32) (a3 : Int32) : Option (Int32 × mmS) :=
  Option.bind (m_X11_isSheet a1) fun x1 => if x1 = (0 : Int32) then (some ((-2 : Int32), F)) else (Option.bind (m_X11_isForm a2) fun x2 => if x2 = (0 : Int32) then (some ((-2 : Int32), F)) else (Option.bind (m_X8_isLost_6 F a1) fun x3 => if x3 = (0 : Int32) then (Option.bind (ald F 12 a1) fun x4 => if x4 = a2 then (Option.bind (m_X8_hasItems_6 F a1 a3 (1 : Int32)) fun x5 => if x5 = (0 : Int32) then (bd2 (m_X8_found_6 F (2 : Int32)) fun x6 G7 => some (x6, G7)) else (some ((0 : Int32), F))) else (bd2 (m_X8_found_6 F (3 : Int32)) fun x8 G9 => some (x8, G9))) else (bd2 (m_X8_found_6 F (1 : Int32)) fun x10 G11 => some (x10, G11))))
set_option maxHeartbeats 4000000 in
set_option maxRecDepth 100000 in
theorem c_X11_itemRefusal_0 {l : Launch} {k : mmK} {F : mmS} {a1 : Int32} {a2 : Int32} {a3 : Int32} {r : Int32} {F1 : mmS} (h : m_X11_itemRefusal_0 F a1 a2 a3 = some (r, F1)) : mm_T l k yX11_itemRefusal cX11_itemRefusal 4 (some .int) 2 [.ref (mmad k 0), .int a1, .int a2, .int a3] F (some (.int r)) F1 := by
  refine mm_start [(0, .ref (mmad k 0)), (1, .int a1), (2, .int a2), (3, .int a3)] (by decide) (Nat.le_of_ble_eq_true rfl) rfl ?_
  intro z hz C
  subst hz
  have C : mm_C z k RX11 cX11_itemRefusal 4 (some .int) 2 := C
  replace h := mk0 h
  unfold m_X11_itemRefusal_0 at h
  refine mm_iload_n C dX11_itemRefusal_0 rfl 1 rfl 1 rfl ?_
  obtain ⟨x1, ex1, h⟩ := mb h
  refine mm_callS [.int a1] C (c_X11_isSheet ex1) wb_X11_isSheet ws_X11_183 rfl (by omega) rfl (Nat.le_of_ble_eq_true rfl) dX11_itemRefusal_1 4 rfl ?_
  show mm_AW z k 4 (some (.int r)) F1 F 4 [(0, .ref (mmad k 0)), (1, .int a1), (2, .int a2), (3, .int a3)] [.int x1]
  refine mm_if_eq C dX11_itemRefusal_4 14 7 (by decide) rfl (fun hc => ?_) (fun hc => ?_)
  · rw [if_pos hc] at h
    refine mm_bipush (v := (-2 : Int32)) C dX11_itemRefusal_14 (by decide) 16 rfl ?_
    exact mm_iretW C (h) dX11_itemRefusal_16
  · rw [if_neg hc] at h
    refine mm_iload_n C dX11_itemRefusal_7 rfl 2 rfl 8 rfl ?_
    obtain ⟨x2, ex2, h⟩ := mb h
    refine mm_callS [.int a2] C (c_X11_isForm ex2) wb_X11_isForm ws_X11_186 rfl (by omega) rfl (Nat.le_of_ble_eq_true rfl) dX11_itemRefusal_8 11 rfl ?_
    show mm_AW z k 4 (some (.int r)) F1 F 11 [(0, .ref (mmad k 0)), (1, .int a1), (2, .int a2), (3, .int a3)] [.int x2]
    refine mm_if_ne C dX11_itemRefusal_11 17 14 (by decide) rfl (fun hc => ?_) (fun hc => ?_)
    · rw [if_neg hc] at h
      refine mm_aload_n C dX11_itemRefusal_17 rfl 0 rfl 18 rfl ?_
      refine mm_get C fl_X11_19_X11 (by decide) (mc_0 k _) rfl dX11_itemRefusal_18 21 rfl ?_
      refine mm_iload_n C dX11_itemRefusal_21 rfl 1 rfl 22 rfl ?_
      obtain ⟨x3, ex3, h⟩ := mb h
      refine mm_callV [.int a1] C (c_X8_isLost_6 ex3) wb_X8_isLost wv_X11_193 (by decide) (mc_6 k _) rfl rfl rfl (by omega) rfl (Nat.le_of_ble_eq_true rfl) dX11_itemRefusal_22 25 rfl ?_
      show mm_AW z k 4 (some (.int r)) F1 F 25 [(0, .ref (mmad k 0)), (1, .int a1), (2, .int a2), (3, .int a3)] [.int x3]
      refine mm_if_eq C dX11_itemRefusal_25 37 28 (by decide) rfl (fun hc => ?_) (fun hc => ?_)
      · rw [if_pos hc] at h
        refine mm_aload_n C dX11_itemRefusal_37 rfl 0 rfl 38 rfl ?_
        refine mm_get C fl_X11_19_X11 (by decide) (mc_0 k _) rfl dX11_itemRefusal_38 41 rfl ?_
        refine mm_get C fl_X11_213_X8 (by decide) (mc_6 k _) rfl dX11_itemRefusal_41 44 rfl ?_
        refine mm_iload_n C dX11_itemRefusal_44 rfl 1 rfl 45 rfl ?_
        obtain ⟨x4, ex4, h⟩ := mb h
        refine mm_iald C ex4 dX11_itemRefusal_45 46 rfl ?_
        refine mm_iload_n C dX11_itemRefusal_46 rfl 2 rfl 47 rfl ?_
        refine mm_icmp_eq C dX11_itemRefusal_47 59 50 (by decide) rfl (fun hc => ?_) (fun hc => ?_)
        · rw [if_pos hc] at h
          refine mm_aload_n C dX11_itemRefusal_59 rfl 0 rfl 60 rfl ?_
          refine mm_get C fl_X11_19_X11 (by decide) (mc_0 k _) rfl dX11_itemRefusal_60 63 rfl ?_
          refine mm_iload_n C dX11_itemRefusal_63 rfl 1 rfl 64 rfl ?_
          refine mm_iload_n C dX11_itemRefusal_64 rfl 3 rfl 65 rfl ?_
          refine mm_iconst (v := (1 : Int32)) C dX11_itemRefusal_65 (by decide) 66 rfl ?_
          obtain ⟨x5, ex5, h⟩ := mb h
          refine mm_callV [.int a1, .int a3, .int (1 : Int32)] C (c_X8_hasItems_6 ex5) wb_X8_hasItems wv_X11_216 (by decide) (mc_6 k _) rfl rfl rfl (by omega) rfl (Nat.le_of_ble_eq_true rfl) dX11_itemRefusal_66 69 rfl ?_
          show mm_AW z k 4 (some (.int r)) F1 F 69 [(0, .ref (mmad k 0)), (1, .int a1), (2, .int a2), (3, .int a3)] [.int x5]
          refine mm_if_ne C dX11_itemRefusal_69 81 72 (by decide) rfl (fun hc => ?_) (fun hc => ?_)
          · rw [if_neg hc] at h
            refine mm_iconst (v := (0 : Int32)) C dX11_itemRefusal_81 (by decide) 82 rfl ?_
            exact mm_iretW C (h) dX11_itemRefusal_82
          · rw [if_pos hc] at h
            refine mm_aload_n C dX11_itemRefusal_72 rfl 0 rfl 73 rfl ?_
            refine mm_get C fl_X11_19_X11 (by decide) (mc_0 k _) rfl dX11_itemRefusal_73 76 rfl ?_
            refine mm_iconst (v := (2 : Int32)) C dX11_itemRefusal_76 (by decide) 77 rfl ?_
            obtain ⟨x6, G7, ex6, h⟩ := mb2 h
            refine mm_callV [.int (2 : Int32)] C (c_X8_found_6 ex6) wb_X8_found wv_X11_124 (by decide) (mc_6 k _) rfl rfl rfl (by omega) rfl (Nat.le_of_ble_eq_true rfl) dX11_itemRefusal_77 80 rfl ?_
            show mm_AW z k 4 (some (.int r)) F1 G7 80 [(0, .ref (mmad k 0)), (1, .int a1), (2, .int a2), (3, .int a3)] [.int x6]
            exact mm_iretW C (h) dX11_itemRefusal_80
        · rw [if_neg hc] at h
          refine mm_aload_n C dX11_itemRefusal_50 rfl 0 rfl 51 rfl ?_
          refine mm_get C fl_X11_19_X11 (by decide) (mc_0 k _) rfl dX11_itemRefusal_51 54 rfl ?_
          refine mm_iconst (v := (3 : Int32)) C dX11_itemRefusal_54 (by decide) 55 rfl ?_
          obtain ⟨x8, G9, ex8, h⟩ := mb2 h
          refine mm_callV [.int (3 : Int32)] C (c_X8_found_6 ex8) wb_X8_found wv_X11_124 (by decide) (mc_6 k _) rfl rfl rfl (by omega) rfl (Nat.le_of_ble_eq_true rfl) dX11_itemRefusal_55 58 rfl ?_
          show mm_AW z k 4 (some (.int r)) F1 G9 58 [(0, .ref (mmad k 0)), (1, .int a1), (2, .int a2), (3, .int a3)] [.int x8]
          exact mm_iretW C (h) dX11_itemRefusal_58
      · rw [if_neg hc] at h
        refine mm_aload_n C dX11_itemRefusal_28 rfl 0 rfl 29 rfl ?_
        refine mm_get C fl_X11_19_X11 (by decide) (mc_0 k _) rfl dX11_itemRefusal_29 32 rfl ?_
        refine mm_iconst (v := (1 : Int32)) C dX11_itemRefusal_32 (by decide) 33 rfl ?_
        obtain ⟨x10, G11, ex10, h⟩ := mb2 h
        refine mm_callV [.int (1 : Int32)] C (c_X8_found_6 ex10) wb_X8_found wv_X11_124 (by decide) (mc_6 k _) rfl rfl rfl (by omega) rfl (Nat.le_of_ble_eq_true rfl) dX11_itemRefusal_33 36 rfl ?_
        show mm_AW z k 4 (some (.int r)) F1 G11 36 [(0, .ref (mmad k 0)), (1, .int a1), (2, .int a2), (3, .int a3)] [.int x10]
        exact mm_iretW C (h) dX11_itemRefusal_36
    · rw [if_pos hc] at h
      refine mm_bipush (v := (-2 : Int32)) C dX11_itemRefusal_14 (by decide) 16 rfl ?_
      exact mm_iretW C (h) dX11_itemRefusal_16
def m_X8_cut (a0 : Int32) (a1 : Int32) : Option (Int32) :=
  if a0 = (0 : Int32) then (some a1.toInt8.toInt32) else (if a0 = (1 : Int32) then (some a1.toInt16.toInt32) else (some a1))
set_option maxHeartbeats 4000000 in
set_option maxRecDepth 100000 in
theorem c_X8_cut {l : Launch} {k : mmK} {F : mmS} {a0 : Int32} {a1 : Int32} {r : Int32} (h : m_X8_cut a0 a1 = some r) : mm_T l k yX8_cut cX8_cut 2 (some .int) 0 [.int a0, .int a1] F (some (.int r)) F := by
  refine mm_start [(0, .int a0), (1, .int a1)] (by decide) (Nat.le_of_ble_eq_true rfl) rfl ?_
  intro z hz C
  subst hz
  have C : mm_C z k RX8 cX8_cut 2 (some .int) 0 := C
  replace h := mk0 h
  unfold m_X8_cut at h
  refine mm_iload_n C dX8_cut_0 rfl 0 rfl 1 rfl ?_
  refine mm_if_ne C dX8_cut_1 7 4 (by decide) rfl (fun hc => ?_) (fun hc => ?_)
  · rw [if_neg hc] at h
    refine mm_iload_n C dX8_cut_7 rfl 0 rfl 8 rfl ?_
    refine mm_iconst (v := (1 : Int32)) C dX8_cut_8 (by decide) 9 rfl ?_
    refine mm_icmp_ne C dX8_cut_9 17 12 (by decide) rfl (fun hc => ?_) (fun hc => ?_)
    · rw [if_neg hc] at h
      refine mm_iload_n C dX8_cut_17 rfl 1 rfl 18 rfl ?_
      exact mm_iretP C (h) dX8_cut_18
    · rw [if_pos hc] at h
      refine mm_iload_n C dX8_cut_12 rfl 1 rfl 13 rfl ?_
      refine mm_i2s C dX8_cut_13 14 rfl ?_
      refine mm_goto C dX8_cut_14 18 (by decide) ?_
      exact mm_iretP C (h) dX8_cut_18
  · rw [if_pos hc] at h
    refine mm_iload_n C dX8_cut_4 rfl 1 rfl 5 rfl ?_
    refine mm_i2b C dX8_cut_5 6 rfl ?_
    exact mm_iretP C (h) dX8_cut_6
def m_X8_write_6 (F : mmS) (a1 : Int32) (a2 : Int32) (a3 : Int32) : Option (mmS) :=
  Option.bind (rld 7 a1) fun q1 => Option.bind (ald F 12 a1) fun x2 => Option.bind (m_X8_cut x2 a3) fun x3 => Option.bind (ast F q1 a2 x3) fun G4 => some G4
set_option maxHeartbeats 4000000 in
set_option maxRecDepth 100000 in
theorem c_X8_write_6 {l : Launch} {k : mmK} {F : mmS} {a1 : Int32} {a2 : Int32} {a3 : Int32} {F1 : mmS} (h : m_X8_write_6 F a1 a2 a3 = some F1) : mm_T l k yX8_write cX8_write 4 none 1 [.ref (mmad k 6), .int a1, .int a2, .int a3] F none F1 := by
  refine mm_start [(0, .ref (mmad k 6)), (1, .int a1), (2, .int a2), (3, .int a3)] (by decide) (Nat.le_of_ble_eq_true rfl) rfl ?_
  intro z hz C
  subst hz
  have C : mm_C z k RX8 cX8_write 4 none 1 := C
  replace h := mk0 h
  unfold m_X8_write_6 at h
  refine mm_aload_n C dX8_write_0 rfl 0 rfl 1 rfl ?_
  refine mm_get C fl_X8_11_X8 (by decide) (mc_6 k _) rfl dX8_write_1 4 rfl ?_
  refine mm_iload_n C dX8_write_4 rfl 1 rfl 5 rfl ?_
  obtain ⟨q1, eq1, h⟩ := mb h
  refine mm_aald (t0 := 3) C (by decide) (mc_7 k _) rfl rfl eq1 dX8_write_5 6 rfl ?_
  refine mm_iload_n C dX8_write_6 rfl 2 rfl 7 rfl ?_
  refine mm_aload_n C dX8_write_7 rfl 0 rfl 8 rfl ?_
  refine mm_get C fl_X8_16_X8 (by decide) (mc_6 k _) rfl dX8_write_8 11 rfl ?_
  refine mm_iload_n C dX8_write_11 rfl 1 rfl 12 rfl ?_
  obtain ⟨x2, ex2, h⟩ := mb h
  refine mm_iald C ex2 dX8_write_12 13 rfl ?_
  refine mm_iload_n C dX8_write_13 rfl 3 rfl 14 rfl ?_
  obtain ⟨x3, ex3, h⟩ := mb h
  refine mm_callS [.int x2, .int a3] C (c_X8_cut ex3) wb_X8_cut ws_X8_31 rfl (by omega) rfl (Nat.le_of_ble_eq_true rfl) dX8_write_14 17 rfl ?_
  show mm_AW z k 4 none F1 F 17 [(0, .ref (mmad k 6)), (1, .int a1), (2, .int a2), (3, .int a3)] [.int x3, .int a2, .ref (mmad k q1)]
  obtain ⟨G4, eG4, h⟩ := mb h
  refine mm_iast C eG4 dX8_write_17 18 rfl ?_
  exact mm_vretW C (h) dX8_write_18
def m_X11_put_0 (F : mmS) (a1 : Int32) (a2 : Int32) (a3 : Int32) (a4 : Int32) : Option (Int32 × mmS) :=
  bd2 (m_X11_itemRefusal_0 F a1 a2 a3) fun x1 G2 => if x1 = (0 : Int32) then (Option.bind (m_X8_write_6 G2 a1 a3 a4) fun G3 => some ((1 : Int32), G3)) else (some (x1, G2))
set_option maxHeartbeats 4000000 in
set_option maxRecDepth 100000 in
theorem c_X11_put_0 {l : Launch} {k : mmK} {F : mmS} {a1 : Int32} {a2 : Int32} {a3 : Int32} {a4 : Int32} {r : Int32} {F1 : mmS} (h : m_X11_put_0 F a1 a2 a3 a4 = some (r, F1)) : mm_T l k yX11_put cX11_put 6 (some .int) 3 [.ref (mmad k 0), .int a1, .int a2, .int a3, .int a4] F (some (.int r)) F1 := by
  refine mm_start [(0, .ref (mmad k 0)), (1, .int a1), (2, .int a2), (3, .int a3), (4, .int a4)] (by decide) (Nat.le_of_ble_eq_true rfl) rfl ?_
  intro z hz C
  subst hz
  have C : mm_C z k RX11 cX11_put 6 (some .int) 3 := C
  replace h := mk0 h
  unfold m_X11_put_0 at h
  refine mm_aload_n C dX11_put_0 rfl 0 rfl 1 rfl ?_
  refine mm_iload_n C dX11_put_1 rfl 1 rfl 2 rfl ?_
  refine mm_iload_n C dX11_put_2 rfl 2 rfl 3 rfl ?_
  refine mm_iload_n C dX11_put_3 rfl 3 rfl 4 rfl ?_
  obtain ⟨x1, G2, ex1, h⟩ := mb2 h
  refine mm_callV [.int a1, .int a2, .int a3] C (c_X11_itemRefusal_0 ex1) wb_X11_itemRefusal wv_X11_202 (by decide) (mc_0 k _) rfl rfl rfl (by omega) rfl (Nat.le_of_ble_eq_true rfl) dX11_put_4 7 rfl ?_
  show mm_AW z k 6 (some (.int r)) F1 G2 7 [(0, .ref (mmad k 0)), (1, .int a1), (2, .int a2), (3, .int a3), (4, .int a4)] [.int x1]
  refine mm_istore (lv2 := [(5, .int x1), (0, .ref (mmad k 0)), (1, .int a1), (2, .int a2), (3, .int a3), (4, .int a4)]) C dX11_put_7 (by decide) rfl 9 rfl ?_
  refine mm_iload C dX11_put_9 0 rfl 11 rfl ?_
  refine mm_if_eq C dX11_put_11 17 14 (by decide) rfl (fun hc => ?_) (fun hc => ?_)
  · rw [if_pos hc] at h
    refine mm_aload_n C dX11_put_17 rfl 1 rfl 18 rfl ?_
    refine mm_get C fl_X11_19_X11 (by decide) (mc_0 k _) rfl dX11_put_18 21 rfl ?_
    refine mm_iload_n C dX11_put_21 rfl 2 rfl 22 rfl ?_
    refine mm_iload_n C dX11_put_22 rfl 4 rfl 23 rfl ?_
    refine mm_iload C dX11_put_23 5 rfl 25 rfl ?_
    obtain ⟨G3, eG3, h⟩ := mb h
    refine mm_callV [.int a1, .int a3, .int a4] C (c_X8_write_6 eG3) wb_X8_write wv_X11_205 (by decide) (mc_6 k _) rfl rfl rfl (by omega) rfl (Nat.le_of_ble_eq_true rfl) dX11_put_25 28 rfl ?_
    show mm_AW z k 6 (some (.int r)) F1 G3 28 [(5, .int x1), (0, .ref (mmad k 0)), (1, .int a1), (2, .int a2), (3, .int a3), (4, .int a4)] []
    refine mm_iconst (v := (1 : Int32)) C dX11_put_28 (by decide) 29 rfl ?_
    exact mm_iretW C (h) dX11_put_29
  · rw [if_neg hc] at h
    refine mm_iload C dX11_put_14 0 rfl 16 rfl ?_
    exact mm_iretW C (h) dX11_put_16
def m_X11_get_0 (F : mmS) (a1 : Int32) (a2 : Int32) (a3 : Int32) : Option (Int32 × mmS) :=
  bd2 (m_X11_itemRefusal_0 F a1 a2 a3) fun x1 G2 => if x1 = (0 : Int32) then (Option.bind (rld 7 a1) fun q3 => Option.bind (ald G2 q3 a3) fun x4 => some (x4, G2)) else (some ((-2147483648 : Int32), G2))
set_option maxHeartbeats 4000000 in
set_option maxRecDepth 100000 in
theorem c_X11_get_0 {l : Launch} {k : mmK} {F : mmS} {a1 : Int32} {a2 : Int32} {a3 : Int32} {r : Int32} {F1 : mmS} (h : m_X11_get_0 F a1 a2 a3 = some (r, F1)) : mm_T l k yX11_get cX11_get 4 (some .int) 3 [.ref (mmad k 0), .int a1, .int a2, .int a3] F (some (.int r)) F1 := by
  refine mm_start [(0, .ref (mmad k 0)), (1, .int a1), (2, .int a2), (3, .int a3)] (by decide) (Nat.le_of_ble_eq_true rfl) rfl ?_
  intro z hz C
  subst hz
  have C : mm_C z k RX11 cX11_get 4 (some .int) 3 := C
  replace h := mk0 h
  unfold m_X11_get_0 at h
  refine mm_aload_n C dX11_get_0 rfl 0 rfl 1 rfl ?_
  refine mm_iload_n C dX11_get_1 rfl 1 rfl 2 rfl ?_
  refine mm_iload_n C dX11_get_2 rfl 2 rfl 3 rfl ?_
  refine mm_iload_n C dX11_get_3 rfl 3 rfl 4 rfl ?_
  obtain ⟨x1, G2, ex1, h⟩ := mb2 h
  refine mm_callV [.int a1, .int a2, .int a3] C (c_X11_itemRefusal_0 ex1) wb_X11_itemRefusal wv_X11_202 (by decide) (mc_0 k _) rfl rfl rfl (by omega) rfl (Nat.le_of_ble_eq_true rfl) dX11_get_4 7 rfl ?_
  show mm_AW z k 4 (some (.int r)) F1 G2 7 [(0, .ref (mmad k 0)), (1, .int a1), (2, .int a2), (3, .int a3)] [.int x1]
  refine mm_if_eq C dX11_get_7 13 10 (by decide) rfl (fun hc => ?_) (fun hc => ?_)
  · rw [if_pos hc] at h
    refine mm_aload_n C dX11_get_13 rfl 0 rfl 14 rfl ?_
    refine mm_get C fl_X11_19_X11 (by decide) (mc_0 k _) rfl dX11_get_14 17 rfl ?_
    refine mm_get C fl_X11_209_X8 (by decide) (mc_6 k _) rfl dX11_get_17 20 rfl ?_
    refine mm_iload_n C dX11_get_20 rfl 1 rfl 21 rfl ?_
    obtain ⟨q3, eq3, h⟩ := mb h
    refine mm_aald (t0 := 3) C (by decide) (mc_7 k _) rfl rfl eq3 dX11_get_21 22 rfl ?_
    refine mm_iload_n C dX11_get_22 rfl 3 rfl 23 rfl ?_
    obtain ⟨x4, ex4, h⟩ := mb h
    refine mm_iald C ex4 dX11_get_23 24 rfl ?_
    exact mm_iretW C (h) dX11_get_24
  · rw [if_neg hc] at h
    refine mm_ldc (v := (-2147483648 : Int32)) C dX11_get_10 mw_835 12 rfl ?_
    exact mm_iretW C (h) dX11_get_12
def m_X11_copy_0 (F : mmS) (a1 : Int32) (a2 : Int32) (a3 : Int32) (a4 : Int32) (a5 : Int32) : Option (Int32 × mmS) :=
  Option.bind (m_X11_isSheet a1) fun x1 => if x1 = (0 : Int32) then (some ((-2 : Int32), F)) else (Option.bind (m_X11_isSheet a3) fun x2 => if x2 = (0 : Int32) then (some ((-2 : Int32), F)) else (Option.bind (m_X8_isLost_6 F a1) fun x3 => if x3 = (0 : Int32) then (Option.bind (m_X8_isLost_6 F a3) fun x6 => if x6 = (0 : Int32) then (Option.bind (ald F 12 a1) fun x7 => Option.bind (ald F 12 a3) fun x8 => if x7 = x8 then (Option.bind (m_X8_hasItems_6 F a1 a2 a5) fun x9 => if x9 = (0 : Int32) then (bd2 (m_X8_found_6 F (2 : Int32)) fun x10 G11 => some (x10, G11)) else (Option.bind (m_X8_hasItems_6 F a3 a4 a5) fun x12 => if x12 = (0 : Int32) then (bd2 (m_X8_found_6 F (2 : Int32)) fun x16 G17 => some (x16, G17)) else (Option.bind (rld 7 a1) fun q13 => Option.bind (rld 7 a3) fun q14 => Option.bind (mcpy F q13 a2 q14 a4 a5) fun G15 => some ((1 : Int32), G15)))) else (bd2 (m_X8_found_6 F (4 : Int32)) fun x18 G19 => some (x18, G19))) else (bd2 (m_X8_found_6 F (1 : Int32)) fun x20 G21 => some (x20, G21))) else (bd2 (m_X8_found_6 F (1 : Int32)) fun x4 G5 => some (x4, G5))))
set_option maxHeartbeats 4000000 in
set_option maxRecDepth 100000 in
theorem c_X11_copy_0 {l : Launch} {k : mmK} {F : mmS} {a1 : Int32} {a2 : Int32} {a3 : Int32} {a4 : Int32} {a5 : Int32} {r : Int32} {F1 : mmS} (h : m_X11_copy_0 F a1 a2 a3 a4 a5 = some (r, F1)) : mm_T l k yX11_copy cX11_copy 6 (some .int) 2 [.ref (mmad k 0), .int a1, .int a2, .int a3, .int a4, .int a5] F (some (.int r)) F1 := by
  refine mm_start [(0, .ref (mmad k 0)), (1, .int a1), (2, .int a2), (3, .int a3), (4, .int a4), (5, .int a5)] (by decide) (Nat.le_of_ble_eq_true rfl) rfl ?_
  intro z hz C
  subst hz
  have C : mm_C z k RX11 cX11_copy 6 (some .int) 2 := C
  replace h := mk0 h
  unfold m_X11_copy_0 at h
  refine mm_iload_n C dX11_copy_0 rfl 1 rfl 1 rfl ?_
  obtain ⟨x1, ex1, h⟩ := mb h
  refine mm_callS [.int a1] C (c_X11_isSheet ex1) wb_X11_isSheet ws_X11_183 rfl (by omega) rfl (Nat.le_of_ble_eq_true rfl) dX11_copy_1 4 rfl ?_
  show mm_AW z k 6 (some (.int r)) F1 F 4 [(0, .ref (mmad k 0)), (1, .int a1), (2, .int a2), (3, .int a3), (4, .int a4), (5, .int a5)] [.int x1]
  refine mm_if_eq C dX11_copy_4 14 7 (by decide) rfl (fun hc => ?_) (fun hc => ?_)
  · rw [if_pos hc] at h
    refine mm_bipush (v := (-2 : Int32)) C dX11_copy_14 (by decide) 16 rfl ?_
    exact mm_iretW C (h) dX11_copy_16
  · rw [if_neg hc] at h
    refine mm_iload_n C dX11_copy_7 rfl 3 rfl 8 rfl ?_
    obtain ⟨x2, ex2, h⟩ := mb h
    refine mm_callS [.int a3] C (c_X11_isSheet ex2) wb_X11_isSheet ws_X11_183 rfl (by omega) rfl (Nat.le_of_ble_eq_true rfl) dX11_copy_8 11 rfl ?_
    show mm_AW z k 6 (some (.int r)) F1 F 11 [(0, .ref (mmad k 0)), (1, .int a1), (2, .int a2), (3, .int a3), (4, .int a4), (5, .int a5)] [.int x2]
    refine mm_if_ne C dX11_copy_11 17 14 (by decide) rfl (fun hc => ?_) (fun hc => ?_)
    · rw [if_neg hc] at h
      refine mm_aload_n C dX11_copy_17 rfl 0 rfl 18 rfl ?_
      refine mm_get C fl_X11_19_X11 (by decide) (mc_0 k _) rfl dX11_copy_18 21 rfl ?_
      refine mm_iload_n C dX11_copy_21 rfl 1 rfl 22 rfl ?_
      obtain ⟨x3, ex3, h⟩ := mb h
      refine mm_callV [.int a1] C (c_X8_isLost_6 ex3) wb_X8_isLost wv_X11_193 (by decide) (mc_6 k _) rfl rfl rfl (by omega) rfl (Nat.le_of_ble_eq_true rfl) dX11_copy_22 25 rfl ?_
      show mm_AW z k 6 (some (.int r)) F1 F 25 [(0, .ref (mmad k 0)), (1, .int a1), (2, .int a2), (3, .int a3), (4, .int a4), (5, .int a5)] [.int x3]
      refine mm_if_ne C dX11_copy_25 39 28 (by decide) rfl (fun hc => ?_) (fun hc => ?_)
      · rw [if_neg hc] at h
        refine mm_aload_n C dX11_copy_39 rfl 0 rfl 40 rfl ?_
        refine mm_get C fl_X11_19_X11 (by decide) (mc_0 k _) rfl dX11_copy_40 43 rfl ?_
        refine mm_iconst (v := (1 : Int32)) C dX11_copy_43 (by decide) 44 rfl ?_
        obtain ⟨x4, G5, ex4, h⟩ := mb2 h
        refine mm_callV [.int (1 : Int32)] C (c_X8_found_6 ex4) wb_X8_found wv_X11_124 (by decide) (mc_6 k _) rfl rfl rfl (by omega) rfl (Nat.le_of_ble_eq_true rfl) dX11_copy_44 47 rfl ?_
        show mm_AW z k 6 (some (.int r)) F1 G5 47 [(0, .ref (mmad k 0)), (1, .int a1), (2, .int a2), (3, .int a3), (4, .int a4), (5, .int a5)] [.int x4]
        exact mm_iretW C (h) dX11_copy_47
      · rw [if_pos hc] at h
        refine mm_aload_n C dX11_copy_28 rfl 0 rfl 29 rfl ?_
        refine mm_get C fl_X11_19_X11 (by decide) (mc_0 k _) rfl dX11_copy_29 32 rfl ?_
        refine mm_iload_n C dX11_copy_32 rfl 3 rfl 33 rfl ?_
        obtain ⟨x6, ex6, h⟩ := mb h
        refine mm_callV [.int a3] C (c_X8_isLost_6 ex6) wb_X8_isLost wv_X11_193 (by decide) (mc_6 k _) rfl rfl rfl (by omega) rfl (Nat.le_of_ble_eq_true rfl) dX11_copy_33 36 rfl ?_
        show mm_AW z k 6 (some (.int r)) F1 F 36 [(0, .ref (mmad k 0)), (1, .int a1), (2, .int a2), (3, .int a3), (4, .int a4), (5, .int a5)] [.int x6]
        refine mm_if_eq C dX11_copy_36 48 39 (by decide) rfl (fun hc => ?_) (fun hc => ?_)
        · rw [if_pos hc] at h
          refine mm_aload_n C dX11_copy_48 rfl 0 rfl 49 rfl ?_
          refine mm_get C fl_X11_19_X11 (by decide) (mc_0 k _) rfl dX11_copy_49 52 rfl ?_
          refine mm_get C fl_X11_213_X8 (by decide) (mc_6 k _) rfl dX11_copy_52 55 rfl ?_
          refine mm_iload_n C dX11_copy_55 rfl 1 rfl 56 rfl ?_
          obtain ⟨x7, ex7, h⟩ := mb h
          refine mm_iald C ex7 dX11_copy_56 57 rfl ?_
          refine mm_aload_n C dX11_copy_57 rfl 0 rfl 58 rfl ?_
          refine mm_get C fl_X11_19_X11 (by decide) (mc_0 k _) rfl dX11_copy_58 61 rfl ?_
          refine mm_get C fl_X11_213_X8 (by decide) (mc_6 k _) rfl dX11_copy_61 64 rfl ?_
          refine mm_iload_n C dX11_copy_64 rfl 3 rfl 65 rfl ?_
          obtain ⟨x8, ex8, h⟩ := mb h
          refine mm_iald C ex8 dX11_copy_65 66 rfl ?_
          refine mm_icmp_eq C dX11_copy_66 78 69 (by decide) rfl (fun hc => ?_) (fun hc => ?_)
          · rw [if_pos hc] at h
            refine mm_aload_n C dX11_copy_78 rfl 0 rfl 79 rfl ?_
            refine mm_get C fl_X11_19_X11 (by decide) (mc_0 k _) rfl dX11_copy_79 82 rfl ?_
            refine mm_iload_n C dX11_copy_82 rfl 1 rfl 83 rfl ?_
            refine mm_iload_n C dX11_copy_83 rfl 2 rfl 84 rfl ?_
            refine mm_iload C dX11_copy_84 5 rfl 86 rfl ?_
            obtain ⟨x9, ex9, h⟩ := mb h
            refine mm_callV [.int a1, .int a2, .int a5] C (c_X8_hasItems_6 ex9) wb_X8_hasItems wv_X11_216 (by decide) (mc_6 k _) rfl rfl rfl (by omega) rfl (Nat.le_of_ble_eq_true rfl) dX11_copy_86 89 rfl ?_
            show mm_AW z k 6 (some (.int r)) F1 F 89 [(0, .ref (mmad k 0)), (1, .int a1), (2, .int a2), (3, .int a3), (4, .int a4), (5, .int a5)] [.int x9]
            refine mm_if_eq C dX11_copy_89 107 92 (by decide) rfl (fun hc => ?_) (fun hc => ?_)
            · rw [if_pos hc] at h
              refine mm_aload_n C dX11_copy_107 rfl 0 rfl 108 rfl ?_
              refine mm_get C fl_X11_19_X11 (by decide) (mc_0 k _) rfl dX11_copy_108 111 rfl ?_
              refine mm_iconst (v := (2 : Int32)) C dX11_copy_111 (by decide) 112 rfl ?_
              obtain ⟨x10, G11, ex10, h⟩ := mb2 h
              refine mm_callV [.int (2 : Int32)] C (c_X8_found_6 ex10) wb_X8_found wv_X11_124 (by decide) (mc_6 k _) rfl rfl rfl (by omega) rfl (Nat.le_of_ble_eq_true rfl) dX11_copy_112 115 rfl ?_
              show mm_AW z k 6 (some (.int r)) F1 G11 115 [(0, .ref (mmad k 0)), (1, .int a1), (2, .int a2), (3, .int a3), (4, .int a4), (5, .int a5)] [.int x10]
              exact mm_iretW C (h) dX11_copy_115
            · rw [if_neg hc] at h
              refine mm_aload_n C dX11_copy_92 rfl 0 rfl 93 rfl ?_
              refine mm_get C fl_X11_19_X11 (by decide) (mc_0 k _) rfl dX11_copy_93 96 rfl ?_
              refine mm_iload_n C dX11_copy_96 rfl 3 rfl 97 rfl ?_
              refine mm_iload C dX11_copy_97 4 rfl 99 rfl ?_
              refine mm_iload C dX11_copy_99 5 rfl 101 rfl ?_
              obtain ⟨x12, ex12, h⟩ := mb h
              refine mm_callV [.int a3, .int a4, .int a5] C (c_X8_hasItems_6 ex12) wb_X8_hasItems wv_X11_216 (by decide) (mc_6 k _) rfl rfl rfl (by omega) rfl (Nat.le_of_ble_eq_true rfl) dX11_copy_101 104 rfl ?_
              show mm_AW z k 6 (some (.int r)) F1 F 104 [(0, .ref (mmad k 0)), (1, .int a1), (2, .int a2), (3, .int a3), (4, .int a4), (5, .int a5)] [.int x12]
              refine mm_if_ne C dX11_copy_104 116 107 (by decide) rfl (fun hc => ?_) (fun hc => ?_)
              · rw [if_neg hc] at h
                refine mm_aload_n C dX11_copy_116 rfl 0 rfl 117 rfl ?_
                refine mm_get C fl_X11_19_X11 (by decide) (mc_0 k _) rfl dX11_copy_117 120 rfl ?_
                refine mm_get C fl_X11_209_X8 (by decide) (mc_6 k _) rfl dX11_copy_120 123 rfl ?_
                refine mm_iload_n C dX11_copy_123 rfl 1 rfl 124 rfl ?_
                obtain ⟨q13, eq13, h⟩ := mb h
                refine mm_aald (t0 := 3) C (by decide) (mc_7 k _) rfl rfl eq13 dX11_copy_124 125 rfl ?_
                refine mm_iload_n C dX11_copy_125 rfl 2 rfl 126 rfl ?_
                refine mm_aload_n C dX11_copy_126 rfl 0 rfl 127 rfl ?_
                refine mm_get C fl_X11_19_X11 (by decide) (mc_0 k _) rfl dX11_copy_127 130 rfl ?_
                refine mm_get C fl_X11_209_X8 (by decide) (mc_6 k _) rfl dX11_copy_130 133 rfl ?_
                refine mm_iload_n C dX11_copy_133 rfl 3 rfl 134 rfl ?_
                obtain ⟨q14, eq14, h⟩ := mb h
                refine mm_aald (t0 := 3) C (by decide) (mc_7 k _) rfl rfl eq14 dX11_copy_134 135 rfl ?_
                refine mm_iload C dX11_copy_135 4 rfl 137 rfl ?_
                refine mm_iload C dX11_copy_137 5 rfl 139 rfl ?_
                obtain ⟨G15, eG15, h⟩ := mb h
                refine mm_copy C eG15 mw_840 mw_842 mw_841 mw_70 (by omega) (Nat.le_trans (Nat.le_of_ble_eq_true rfl : _ ≤ 40) (by omega)) dX11_copy_139 142 rfl ?_
                refine mm_iconst (v := (1 : Int32)) C dX11_copy_142 (by decide) 143 rfl ?_
                exact mm_iretW C (h) dX11_copy_143
              · rw [if_pos hc] at h
                refine mm_aload_n C dX11_copy_107 rfl 0 rfl 108 rfl ?_
                refine mm_get C fl_X11_19_X11 (by decide) (mc_0 k _) rfl dX11_copy_108 111 rfl ?_
                refine mm_iconst (v := (2 : Int32)) C dX11_copy_111 (by decide) 112 rfl ?_
                obtain ⟨x16, G17, ex16, h⟩ := mb2 h
                refine mm_callV [.int (2 : Int32)] C (c_X8_found_6 ex16) wb_X8_found wv_X11_124 (by decide) (mc_6 k _) rfl rfl rfl (by omega) rfl (Nat.le_of_ble_eq_true rfl) dX11_copy_112 115 rfl ?_
                show mm_AW z k 6 (some (.int r)) F1 G17 115 [(0, .ref (mmad k 0)), (1, .int a1), (2, .int a2), (3, .int a3), (4, .int a4), (5, .int a5)] [.int x16]
                exact mm_iretW C (h) dX11_copy_115
          · rw [if_neg hc] at h
            refine mm_aload_n C dX11_copy_69 rfl 0 rfl 70 rfl ?_
            refine mm_get C fl_X11_19_X11 (by decide) (mc_0 k _) rfl dX11_copy_70 73 rfl ?_
            refine mm_iconst (v := (4 : Int32)) C dX11_copy_73 (by decide) 74 rfl ?_
            obtain ⟨x18, G19, ex18, h⟩ := mb2 h
            refine mm_callV [.int (4 : Int32)] C (c_X8_found_6 ex18) wb_X8_found wv_X11_124 (by decide) (mc_6 k _) rfl rfl rfl (by omega) rfl (Nat.le_of_ble_eq_true rfl) dX11_copy_74 77 rfl ?_
            show mm_AW z k 6 (some (.int r)) F1 G19 77 [(0, .ref (mmad k 0)), (1, .int a1), (2, .int a2), (3, .int a3), (4, .int a4), (5, .int a5)] [.int x18]
            exact mm_iretW C (h) dX11_copy_77
        · rw [if_neg hc] at h
          refine mm_aload_n C dX11_copy_39 rfl 0 rfl 40 rfl ?_
          refine mm_get C fl_X11_19_X11 (by decide) (mc_0 k _) rfl dX11_copy_40 43 rfl ?_
          refine mm_iconst (v := (1 : Int32)) C dX11_copy_43 (by decide) 44 rfl ?_
          obtain ⟨x20, G21, ex20, h⟩ := mb2 h
          refine mm_callV [.int (1 : Int32)] C (c_X8_found_6 ex20) wb_X8_found wv_X11_124 (by decide) (mc_6 k _) rfl rfl rfl (by omega) rfl (Nat.le_of_ble_eq_true rfl) dX11_copy_44 47 rfl ?_
          show mm_AW z k 6 (some (.int r)) F1 G21 47 [(0, .ref (mmad k 0)), (1, .int a1), (2, .int a2), (3, .int a3), (4, .int a4), (5, .int a5)] [.int x20]
          exact mm_iretW C (h) dX11_copy_47
    · rw [if_pos hc] at h
      refine mm_bipush (v := (-2 : Int32)) C dX11_copy_14 (by decide) 16 rfl ?_
      exact mm_iretW C (h) dX11_copy_16
