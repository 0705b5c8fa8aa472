def m_X9_worthBehind_91_L35 (a1 : Int32) (a2 : Int32) (F : mmS) (x1 : Int32) (rc : mmS → Int32 → Int32 → Option (Int32)) : Nat → Int32 → Int32 → Option (Int32)
  | 0, _, _ => none
  | n4 + 1, v2, v3 => if (F 1 1) ≤ v3 then (some ((v2))) else (Option.bind (m_X3_moved a1 v3 x1) fun x5 => Option.bind (rc F x5 (a2 - (1 : Int32))) fun x6 => Option.bind (m_X3_wayOf_1 F a1 v3 x1) fun x7 => mlet (mmin v2 (x6 + x7)) fun x8 => mlet (v3 + (1 : Int32)) fun x9 => m_X9_worthBehind_91_L35 a1 a2 F x1 rc n4 x8 x9)
def m_X9_worthBehind_91 : Nat → mmS → Int32 → Int32 → Option (Int32)
  | 0, _, _, _ => none
  | nr + 1, F, a1, a2 => if (0 : Int32) < a2 then (Option.bind (ald F 96 (a2 - (1 : Int32))) fun x1 => bd1 (m_X9_worthBehind_91_L35 a1 a2 F x1 (m_X9_worthBehind_91 nr) 300 (2147483647 : Int32) (0 : Int32)) fun y10 => some y10) else (Option.bind (ald F 4 a1) fun x11 => Option.bind (ald F ((F 91 7).toNatClampNeg) x11) fun x12 => some x12)
set_option maxHeartbeats 4000000 in
set_option maxRecDepth 100000 in
theorem c_X9_worthBehind_91 {l : Launch} {k : mmK} (nr : Nat) {F : mmS} {a1 : Int32} {a2 : Int32} {r : Int32} (h : m_X9_worthBehind_91 nr F a1 a2 = some r) : mm_T l k yX9_worthBehind cX9_worthBehind 7 (some .int) (nr + 2) [.ref (mmad k 91), .int a1, .int a2] F (some (.int r)) F := by
  induction nr generalizing F a1 a2 r with
  | zero => rw [m_X9_worthBehind_91] at h; cases h
  | succ nr ihr =>
    refine mm_start [(0, .ref (mmad k 91)), (1, .int a1), (2, .int a2)] (by decide) (Nat.le_of_ble_eq_true rfl) rfl ?_
    intro z hz C
    subst hz
    have C : mm_C z k RX9 cX9_worthBehind 7 (some .int) (nr + 1 + 2) := C
    replace h := mk0 h
    rw [m_X9_worthBehind_91] at h
    refine mm_iload_n C dX9_worthBehind_0 rfl 2 rfl 1 rfl ?_
    refine mm_if_gt C dX9_worthBehind_1 19 4 (by decide) rfl (fun hc => ?_) (fun hc => ?_)
    · rw [if_pos hc] at h
      refine mm_aload_n C dX9_worthBehind_19 rfl 0 rfl 20 rfl ?_
      refine mm_get C fl_X9_27_X9 (by decide) (mc_91 k _) rfl dX9_worthBehind_20 23 rfl ?_
      refine mm_iload_n C dX9_worthBehind_23 rfl 2 rfl 24 rfl ?_
      refine mm_iconst (v := (1 : Int32)) C dX9_worthBehind_24 (by decide) 25 rfl ?_
      refine mm_isub C dX9_worthBehind_25 26 rfl ?_
      obtain ⟨x1, ex1, h⟩ := mb h
      refine mm_iald C ex1 dX9_worthBehind_26 27 rfl ?_
      refine mm_istore_n (lv2 := [(3, .int x1), (0, .ref (mmad k 91)), (1, .int a1), (2, .int a2)]) C dX9_worthBehind_27 rfl (by decide) rfl 28 rfl ?_
      refine mm_ldc (v := (2147483647 : Int32)) C dX9_worthBehind_28 mw_656 30 rfl ?_
      refine mm_istore (lv2 := [(4, .int (2147483647 : Int32)), (3, .int x1), (0, .ref (mmad k 91)), (1, .int a1), (2, .int a2)]) C dX9_worthBehind_30 (by decide) rfl 32 rfl ?_
      refine mm_iconst (v := (0 : Int32)) C dX9_worthBehind_32 (by decide) 33 rfl ?_
      refine mm_istore (lv2 := [(5, .int (0 : Int32)), (4, .int (2147483647 : Int32)), (3, .int x1), (0, .ref (mmad k 91)), (1, .int a1), (2, .int a2)]) C dX9_worthBehind_33 (by decide) rfl 35 rfl ?_
      refine mm_lv [3, 4, 5, 2, 1, 0] rfl ?_
      have hL35 : ∀ (K : (Int32) → Option (Int32)) (hK : ∀ (v2 : Int32) , K (v2) = some r → mm_AW z k 7 (some (.int r)) F F 90 [(4, .int v2)] []) (n4 : Nat) (v2 : Int32) (v3 : Int32) , (m_X9_worthBehind_91_L35 a1 a2 F x1 (m_X9_worthBehind_91 nr) n4 v2 v3).bind K = some r → mm_AW z k 7 (some (.int r)) F F 35 [(0, .ref (mmad k 91)), (1, .int a1), (2, .int a2), (3, .int x1), (4, .int v2), (5, .int v3)] [] := by
        intro K hK n4
        induction n4 with
        | zero => intro v2 v3 h; rw [m_X9_worthBehind_91_L35] at h; cases h
        | succ n4 ih =>
          intro v2 v3 h
          rw [m_X9_worthBehind_91_L35] at h
          refine mm_iload C dX9_worthBehind_35 5 rfl 37 rfl ?_
          refine mm_aload_n C dX9_worthBehind_37 rfl 0 rfl 38 rfl ?_
          refine mm_get C fl_X9_34_X9 (by decide) (mc_91 k _) rfl dX9_worthBehind_38 41 rfl ?_
          refine mm_get C fl_X9_47_X3 (by decide) (mc_1 k _) rfl dX9_worthBehind_41 44 rfl ?_
          refine mm_icmp_ge C dX9_worthBehind_44 90 47 (by decide) rfl (fun hc => ?_) (fun hc => ?_)
          · rw [if_pos hc] at h
            refine mm_lv [4] rfl ?_
            exact hK _ h
          · rw [if_neg hc] at h
            refine mm_aload_n C dX9_worthBehind_47 rfl 0 rfl 48 rfl ?_
            refine mm_iload_n C dX9_worthBehind_48 rfl 1 rfl 49 rfl ?_
            refine mm_iload C dX9_worthBehind_49 5 rfl 51 rfl ?_
            refine mm_iload_n C dX9_worthBehind_51 rfl 3 rfl 52 rfl ?_
            obtain ⟨x5, ex5, h⟩ := mb h
            refine mm_callS [.int a1, .int v3, .int x1] C (c_X3_moved ex5) wb_X3_moved ws_X9_81 rfl (by omega) rfl (Nat.le_of_ble_eq_true rfl) dX9_worthBehind_52 55 rfl ?_
            show mm_AW z k 7 (some (.int r)) F F 55 [(0, .ref (mmad k 91)), (1, .int a1), (2, .int a2), (3, .int x1), (4, .int v2), (5, .int v3)] [.int x5, .ref (mmad k 91)]
            refine mm_iload_n C dX9_worthBehind_55 rfl 2 rfl 56 rfl ?_
            refine mm_iconst (v := (1 : Int32)) C dX9_worthBehind_56 (by decide) 57 rfl ?_
            refine mm_isub C dX9_worthBehind_57 58 rfl ?_
            obtain ⟨x6, ex6, h⟩ := mb h
            refine mm_callV [.int x5, .int (a2 - (1 : Int32))] C (ihr ex6) wb_X9_worthBehind wv_X9_77 (by decide) (mc_91 k _) rfl rfl rfl (by omega) rfl (Nat.le_of_ble_eq_true rfl) dX9_worthBehind_58 61 rfl ?_
            show mm_AW z k 7 (some (.int r)) F F 61 [(0, .ref (mmad k 91)), (1, .int a1), (2, .int a2), (3, .int x1), (4, .int v2), (5, .int v3)] [.int x6]
            refine mm_istore (lv2 := [(6, .int x6), (0, .ref (mmad k 91)), (1, .int a1), (2, .int a2), (3, .int x1), (4, .int v2), (5, .int v3)]) C dX9_worthBehind_61 (by decide) rfl 63 rfl ?_
            refine mm_iload C dX9_worthBehind_63 5 rfl 65 rfl ?_
            refine mm_iload C dX9_worthBehind_65 0 rfl 67 rfl ?_
            refine mm_aload_n C dX9_worthBehind_67 rfl 1 rfl 68 rfl ?_
            refine mm_get C fl_X9_34_X9 (by decide) (mc_91 k _) rfl dX9_worthBehind_68 71 rfl ?_
            refine mm_iload_n C dX9_worthBehind_71 rfl 2 rfl 72 rfl ?_
            refine mm_iload C dX9_worthBehind_72 6 rfl 74 rfl ?_
            refine mm_iload_n C dX9_worthBehind_74 rfl 4 rfl 75 rfl ?_
            obtain ⟨x7, ex7, h⟩ := mb h
            refine mm_callV [.int a1, .int v3, .int x1] C (c_X3_wayOf_1 ex7) wb_X3_wayOf wv_X9_85 (by decide) (mc_1 k _) rfl rfl rfl (by omega) rfl (Nat.le_of_ble_eq_true rfl) dX9_worthBehind_75 78 rfl ?_
            show mm_AW z k 7 (some (.int r)) F F 78 [(6, .int x6), (0, .ref (mmad k 91)), (1, .int a1), (2, .int a2), (3, .int x1), (4, .int v2), (5, .int v3)] [.int x7, .int x6, .int v2]
            refine mm_iadd C dX9_worthBehind_78 79 rfl ?_
            refine mm_min C mw_659 mw_517 mw_62 mw_518 (by omega) (Nat.le_trans (Nat.le_of_ble_eq_true rfl : _ ≤ 40) (by omega)) dX9_worthBehind_79 82 rfl ?_
            obtain ⟨x8, ex8, h⟩ := me h
            refine mm_top ex8 ?_
            refine mm_istore (lv2 := [(4, .int x8), (6, .int x6), (0, .ref (mmad k 91)), (1, .int a1), (2, .int a2), (3, .int x1), (5, .int v3)]) C dX9_worthBehind_82 (by decide) rfl 84 rfl ?_
            obtain ⟨x9, ex9, h⟩ := me h
            refine mm_iinc (v := x9) (lv2 := [(5, .int x9), (4, .int x8), (6, .int x6), (0, .ref (mmad k 91)), (1, .int a1), (2, .int a2), (3, .int x1)]) C dX9_worthBehind_84 6 rfl (by rw [← ex9]; rfl) (by decide) rfl 87 rfl ?_
            refine mm_goto C dX9_worthBehind_87 35 (by decide) ?_
            refine mm_lv [3, 4, 5, 6, 1, 0] rfl ?_
            exact ih _ _ h
      refine mj1 h (fun (y10 : Int32) => mm_AW z k 7 (some (.int r)) F F 90 [(4, .int y10)] []) ?_ ?_
      · intro y10 h
        refine mm_iload C dX9_worthBehind_90 0 rfl 92 rfl ?_
        exact mm_iretP C (h) dX9_worthBehind_92
      · intro K2 hR h
        exact hL35 K2 hR 300 _ _ h
    · rw [if_neg hc] at h
      refine mm_aload_n C dX9_worthBehind_4 rfl 0 rfl 5 rfl ?_
      refine mm_get C fl_X9_9_X9 (by decide) (mc_91 k _) rfl dX9_worthBehind_5 8 rfl ?_
      refine mm_aload_n C dX9_worthBehind_8 rfl 0 rfl 9 rfl ?_
      refine mm_get C fl_X9_34_X9 (by decide) (mc_91 k _) rfl dX9_worthBehind_9 12 rfl ?_
      refine mm_get C fl_X9_56_X3 (by decide) (mc_1 k _) rfl dX9_worthBehind_12 15 rfl ?_
      refine mm_iload_n C dX9_worthBehind_15 rfl 1 rfl 16 rfl ?_
      obtain ⟨x11, ex11, h⟩ := mb h
      refine mm_iald C ex11 dX9_worthBehind_16 17 rfl ?_
      obtain ⟨x12, ex12, h⟩ := mb h
      refine mm_iald C ex12 dX9_worthBehind_17 18 rfl ?_
      exact mm_iretP C (h) dX9_worthBehind_18
def m_X9_settle_91_L2 : Nat → Int32 → mmS → Option (mmS)
  | 0, _, _ => none
  | n3 + 1, v1, G2 => if (G2 1 3) ≤ v1 then (some ((G2))) else (Option.bind (ald G2 5 v1) fun x4 => Option.bind (ald G2 4 x4) fun x5 => Option.bind (m_X9_worthBehind_91 5 G2 x4 (G2 91 5)) fun x6 => Option.bind (ast G2 ((G2 91 8).toNatClampNeg) x5 x6) fun G7 => mlet (v1 + (1 : Int32)) fun x8 => m_X9_settle_91_L2 n3 x8 G7)
def m_X9_settle_91 (F : mmS)  : Option (mmS) :=
  bd1 (m_X9_settle_91_L2 300 (0 : Int32) F) fun G9 => mlet (stF G9 91 7 (G9 91 8)) fun G10 => mlet (stF G10 91 8 (G9 91 7)) fun G11 => mlet (stF G11 91 5 (0 : Int32)) fun G12 => some G12
set_option maxHeartbeats 4000000 in
set_option maxRecDepth 100000 in
theorem c_X9_settle_91 {l : Launch} {k : mmK} {F : mmS}  {F1 : mmS} (h : m_X9_settle_91 F = some F1) : mm_T l k yX9_settle cX9_settle 3 none 8 [.ref (mmad k 91)] F none F1 := by
  refine mm_start [(0, .ref (mmad k 91))] (by decide) (Nat.le_of_ble_eq_true rfl) rfl ?_
  intro z hz C
  subst hz
  have C : mm_C z k RX9 cX9_settle 3 none 8 := C
  replace h := mk0 h
  unfold m_X9_settle_91 at h
  refine mm_iconst (v := (0 : Int32)) C dX9_settle_0 (by decide) 1 rfl ?_
  refine mm_istore_n (lv2 := [(1, .int (0 : Int32)), (0, .ref (mmad k 91))]) C dX9_settle_1 rfl (by decide) rfl 2 rfl ?_
  refine mm_lv [1, 0] rfl ?_
  have hL2 : ∀ (K : (mmS) → Option (mmS)) (hK : ∀ (G2 : mmS) , K (G2) = some F1 → mm_AW z k 3 none F1 G2 52 [(0, .ref (mmad k 91))] []) (n3 : Nat) (v1 : Int32) (G2 : mmS) , (m_X9_settle_91_L2 n3 v1 G2).bind K = some F1 → mm_AW z k 3 none F1 G2 2 [(0, .ref (mmad k 91)), (1, .int v1)] [] := by
    intro K hK n3
    induction n3 with
    | zero => intro v1 G2 h; rw [m_X9_settle_91_L2] at h; cases h
    | succ n3 ih =>
      intro v1 G2 h
      rw [m_X9_settle_91_L2] at h
      refine mm_iload_n C dX9_settle_2 rfl 1 rfl 3 rfl ?_
      refine mm_aload_n C dX9_settle_3 rfl 0 rfl 4 rfl ?_
      refine mm_get C fl_X9_34_X9 (by decide) (mc_91 k _) rfl dX9_settle_4 7 rfl ?_
      refine mm_get C fl_X9_38_X3 (by decide) (mc_1 k _) rfl dX9_settle_7 10 rfl ?_
      refine mm_icmp_ge C dX9_settle_10 52 13 (by decide) rfl (fun hc => ?_) (fun hc => ?_)
      · rw [if_pos hc] at h
        refine mm_lv [0] rfl ?_
        exact hK _ h
      · rw [if_neg hc] at h
        refine mm_aload_n C dX9_settle_13 rfl 0 rfl 14 rfl ?_
        refine mm_get C fl_X9_34_X9 (by decide) (mc_91 k _) rfl dX9_settle_14 17 rfl ?_
        refine mm_get C fl_X9_44_X3 (by decide) (mc_1 k _) rfl dX9_settle_17 20 rfl ?_
        refine mm_iload_n C dX9_settle_20 rfl 1 rfl 21 rfl ?_
        obtain ⟨x4, ex4, h⟩ := mb h
        refine mm_iald C ex4 dX9_settle_21 22 rfl ?_
        refine mm_istore_n (lv2 := [(2, .int x4), (0, .ref (mmad k 91)), (1, .int v1)]) C dX9_settle_22 rfl (by decide) rfl 23 rfl ?_
        refine mm_aload_n C dX9_settle_23 rfl 1 rfl 24 rfl ?_
        refine mm_get C fl_X9_15_X9 (by decide) (mc_91 k _) rfl dX9_settle_24 27 rfl ?_
        refine mm_aload_n C dX9_settle_27 rfl 1 rfl 28 rfl ?_
        refine mm_get C fl_X9_34_X9 (by decide) (mc_91 k _) rfl dX9_settle_28 31 rfl ?_
        refine mm_get C fl_X9_56_X3 (by decide) (mc_1 k _) rfl dX9_settle_31 34 rfl ?_
        refine mm_iload_n C dX9_settle_34 rfl 0 rfl 35 rfl ?_
        obtain ⟨x5, ex5, h⟩ := mb h
        refine mm_iald C ex5 dX9_settle_35 36 rfl ?_
        refine mm_aload_n C dX9_settle_36 rfl 1 rfl 37 rfl ?_
        refine mm_iload_n C dX9_settle_37 rfl 0 rfl 38 rfl ?_
        refine mm_aload_n C dX9_settle_38 rfl 1 rfl 39 rfl ?_
        refine mm_get C fl_X9_74_X9 (by decide) (mc_91 k _) rfl dX9_settle_39 42 rfl ?_
        obtain ⟨x6, ex6, h⟩ := mb h
        refine mm_callV [.int x4, .int (G2 91 5)] C (c_X9_worthBehind_91 5 ex6) wb_X9_worthBehind wv_X9_77 (by decide) (mc_91 k _) rfl rfl rfl (by omega) rfl (Nat.le_of_ble_eq_true rfl) dX9_settle_42 45 rfl ?_
        show mm_AW z k 3 none F1 G2 45 [(2, .int x4), (0, .ref (mmad k 91)), (1, .int v1)] [.int x6, .int x5, .ref (mmad k ((G2 91 8).toNatClampNeg))]
        obtain ⟨G7, eG7, h⟩ := mb h
        refine mm_iast C eG7 dX9_settle_45 46 rfl ?_
        obtain ⟨x8, ex8, h⟩ := me h
        refine mm_iinc (v := x8) (lv2 := [(1, .int x8), (2, .int x4), (0, .ref (mmad k 91))]) C dX9_settle_46 2 rfl (by rw [← ex8]; rfl) (by decide) rfl 49 rfl ?_
        refine mm_goto C dX9_settle_49 2 (by decide) ?_
        refine mm_lv [2, 0] rfl ?_
        exact ih _ _ h
  refine mj1 h (fun (G9 : mmS) => mm_AW z k 3 none F1 G9 52 [(0, .ref (mmad k 91))] []) ?_ ?_
  · intro G9 h
    refine mm_aload_n C dX9_settle_52 rfl 0 rfl 53 rfl ?_
    refine mm_get C fl_X9_9_X9 (by decide) (mc_91 k _) rfl dX9_settle_53 56 rfl ?_
    refine mm_astore_n (lv2 := [(1, .ref (mmad k ((G9 91 7).toNatClampNeg))), (0, .ref (mmad k 91))]) C dX9_settle_56 rfl (by decide) rfl 57 rfl ?_
    refine mm_aload_n C dX9_settle_57 rfl 1 rfl 58 rfl ?_
    refine mm_aload_n C dX9_settle_58 rfl 1 rfl 59 rfl ?_
    refine mm_get C fl_X9_15_X9 (by decide) (mc_91 k _) rfl dX9_settle_59 62 rfl ?_
    obtain ⟨G10, eG10, h⟩ := me h
    refine mm_put (x := G9 91 8) (ty := (.array .int)) C fl_X9_9_X9 (by decide) (mc_91 k _) (mc_91 k _) tyX9 tyX9_ok nmX9 rfl (by decide +kernel) rfl rfl (Nat.le_of_ble_eq_true rfl) eG10 dX9_settle_62 65 rfl ?_
    refine mm_aload_n C dX9_settle_65 rfl 1 rfl 66 rfl ?_
    refine mm_aload_n C dX9_settle_66 rfl 0 rfl 67 rfl ?_
    obtain ⟨G11, eG11, h⟩ := me h
    refine mm_put (x := G9 91 7) (ty := (.array .int)) C fl_X9_15_X9 (by decide) (mc_91 k _) (mc_91 k _) tyX9 tyX9_ok nmX9 rfl (by decide +kernel) rfl rfl (Nat.le_of_ble_eq_true rfl) eG11 dX9_settle_67 70 rfl ?_
    refine mm_aload_n C dX9_settle_70 rfl 1 rfl 71 rfl ?_
    refine mm_iconst (v := (0 : Int32)) C dX9_settle_71 (by decide) 72 rfl ?_
    obtain ⟨G12, eG12, h⟩ := me h
    refine mm_put (x := (0 : Int32)) (ty := .int) C fl_X9_74_X9 (by decide) (mc_91 k _) (mc_91 k _) tyX9 tyX9_ok nmX9 rfl (by decide +kernel) rfl rfl (Nat.le_of_ble_eq_true rfl) eG12 dX9_settle_72 75 rfl ?_
    exact mm_vretW C (h) dX9_settle_75
  · intro K2 hR h
    exact hL2 K2 hR 300 _ _ h
def m_X9_chosen_91_L8 (a1 : Int32) (F : mmS) : Nat → Int32 → Int32 → Int32 → Option (Int32)
  | 0, _, _, _ => none
  | n4 + 1, v1, v2, v3 => if (F 1 1) ≤ v3 then (some ((v1))) else (Option.bind (m_X3_moved (F 91 6) v3 a1) fun x5 => Option.bind (m_X9_worthBehind_91 5 F x5 (F 91 5)) fun x6 => Option.bind (m_X3_wayOf_1 F (F 91 6) v3 a1) fun x7 => mlet (x6 + x7) fun x8 => bd2 (if v2 ≤ x8 then (some (v1, v2)) else (some (v3, x8))) fun y9 y10 => mlet (v3 + (1 : Int32)) fun x11 => m_X9_chosen_91_L8 a1 F n4 y9 y10 x11)
def m_X9_chosen_91 (F : mmS) (a1 : Int32) : Option (Int32) :=
  bd1 (m_X9_chosen_91_L8 a1 F 300 (0 : Int32) (2147483647 : Int32) (0 : Int32)) fun y12 => some y12
set_option maxHeartbeats 4000000 in
set_option maxRecDepth 100000 in
theorem c_X9_chosen_91 {l : Launch} {k : mmK} {F : mmS} {a1 : Int32} {r : Int32} (h : m_X9_chosen_91 F a1 = some r) : mm_T l k yX9_chosen cX9_chosen 7 (some .int) 8 [.ref (mmad k 91), .int a1] F (some (.int r)) F := by
  refine mm_start [(0, .ref (mmad k 91)), (1, .int a1)] (by decide) (Nat.le_of_ble_eq_true rfl) rfl ?_
  intro z hz C
  subst hz
  have C : mm_C z k RX9 cX9_chosen 7 (some .int) 8 := C
  replace h := mk0 h
  unfold m_X9_chosen_91 at h
  refine mm_iconst (v := (0 : Int32)) C dX9_chosen_0 (by decide) 1 rfl ?_
  refine mm_istore_n (lv2 := [(2, .int (0 : Int32)), (0, .ref (mmad k 91)), (1, .int a1)]) C dX9_chosen_1 rfl (by decide) rfl 2 rfl ?_
  refine mm_ldc (v := (2147483647 : Int32)) C dX9_chosen_2 mw_656 4 rfl ?_
  refine mm_istore_n (lv2 := [(3, .int (2147483647 : Int32)), (2, .int (0 : Int32)), (0, .ref (mmad k 91)), (1, .int a1)]) C dX9_chosen_4 rfl (by decide) rfl 5 rfl ?_
  refine mm_iconst (v := (0 : Int32)) C dX9_chosen_5 (by decide) 6 rfl ?_
  refine mm_istore (lv2 := [(4, .int (0 : Int32)), (3, .int (2147483647 : Int32)), (2, .int (0 : Int32)), (0, .ref (mmad k 91)), (1, .int a1)]) C dX9_chosen_6 (by decide) rfl 8 rfl ?_
  refine mm_lv [3, 4, 2, 1, 0] rfl ?_
  have hL8 : ∀ (K : (Int32) → Option (Int32)) (hK : ∀ (v1 : Int32) , K (v1) = some r → mm_AW z k 7 (some (.int r)) F F 77 [(2, .int v1)] []) (n4 : Nat) (v1 : Int32) (v2 : Int32) (v3 : Int32) , (m_X9_chosen_91_L8 a1 F n4 v1 v2 v3).bind K = some r → mm_AW z k 7 (some (.int r)) F F 8 [(0, .ref (mmad k 91)), (1, .int a1), (2, .int v1), (3, .int v2), (4, .int v3)] [] := by
    intro K hK n4
    induction n4 with
    | zero => intro v1 v2 v3 h; rw [m_X9_chosen_91_L8] at h; cases h
    | succ n4 ih =>
      intro v1 v2 v3 h
      rw [m_X9_chosen_91_L8] at h
      refine mm_iload C dX9_chosen_8 4 rfl 10 rfl ?_
      refine mm_aload_n C dX9_chosen_10 rfl 0 rfl 11 rfl ?_
      refine mm_get C fl_X9_34_X9 (by decide) (mc_91 k _) rfl dX9_chosen_11 14 rfl ?_
      refine mm_get C fl_X9_47_X3 (by decide) (mc_1 k _) rfl dX9_chosen_14 17 rfl ?_
      refine mm_icmp_ge C dX9_chosen_17 77 20 (by decide) rfl (fun hc => ?_) (fun hc => ?_)
      · rw [if_pos hc] at h
        refine mm_lv [2] rfl ?_
        exact hK _ h
      · rw [if_neg hc] at h
        refine mm_aload_n C dX9_chosen_20 rfl 0 rfl 21 rfl ?_
        refine mm_aload_n C dX9_chosen_21 rfl 0 rfl 22 rfl ?_
        refine mm_get C fl_X9_71_X9 (by decide) (mc_91 k _) rfl dX9_chosen_22 25 rfl ?_
        refine mm_iload C dX9_chosen_25 4 rfl 27 rfl ?_
        refine mm_iload_n C dX9_chosen_27 rfl 1 rfl 28 rfl ?_
        obtain ⟨x5, ex5, h⟩ := mb h
        refine mm_callS [.int (F 91 6), .int v3, .int a1] C (c_X3_moved ex5) wb_X3_moved ws_X9_81 rfl (by omega) rfl (Nat.le_of_ble_eq_true rfl) dX9_chosen_28 31 rfl ?_
        show mm_AW z k 7 (some (.int r)) F F 31 [(0, .ref (mmad k 91)), (1, .int a1), (2, .int v1), (3, .int v2), (4, .int v3)] [.int x5, .ref (mmad k 91)]
        refine mm_aload_n C dX9_chosen_31 rfl 0 rfl 32 rfl ?_
        refine mm_get C fl_X9_74_X9 (by decide) (mc_91 k _) rfl dX9_chosen_32 35 rfl ?_
        obtain ⟨x6, ex6, h⟩ := mb h
        refine mm_callV [.int x5, .int (F 91 5)] C (c_X9_worthBehind_91 5 ex6) wb_X9_worthBehind wv_X9_77 (by decide) (mc_91 k _) rfl rfl rfl (by omega) rfl (Nat.le_of_ble_eq_true rfl) dX9_chosen_35 38 rfl ?_
        show mm_AW z k 7 (some (.int r)) F F 38 [(0, .ref (mmad k 91)), (1, .int a1), (2, .int v1), (3, .int v2), (4, .int v3)] [.int x6]
        refine mm_istore (lv2 := [(5, .int x6), (0, .ref (mmad k 91)), (1, .int a1), (2, .int v1), (3, .int v2), (4, .int v3)]) C dX9_chosen_38 (by decide) rfl 40 rfl ?_
        refine mm_iload C dX9_chosen_40 0 rfl 42 rfl ?_
        refine mm_aload_n C dX9_chosen_42 rfl 1 rfl 43 rfl ?_
        refine mm_get C fl_X9_34_X9 (by decide) (mc_91 k _) rfl dX9_chosen_43 46 rfl ?_
        refine mm_aload_n C dX9_chosen_46 rfl 1 rfl 47 rfl ?_
        refine mm_get C fl_X9_71_X9 (by decide) (mc_91 k _) rfl dX9_chosen_47 50 rfl ?_
        refine mm_iload C dX9_chosen_50 5 rfl 52 rfl ?_
        refine mm_iload_n C dX9_chosen_52 rfl 2 rfl 53 rfl ?_
        obtain ⟨x7, ex7, h⟩ := mb h
        refine mm_callV [.int (F 91 6), .int v3, .int a1] C (c_X3_wayOf_1 ex7) wb_X3_wayOf wv_X9_85 (by decide) (mc_1 k _) rfl rfl rfl (by omega) rfl (Nat.le_of_ble_eq_true rfl) dX9_chosen_53 56 rfl ?_
        show mm_AW z k 7 (some (.int r)) F F 56 [(5, .int x6), (0, .ref (mmad k 91)), (1, .int a1), (2, .int v1), (3, .int v2), (4, .int v3)] [.int x7, .int x6]
        refine mm_iadd C dX9_chosen_56 57 rfl ?_
        obtain ⟨x8, ex8, h⟩ := me h
        refine mm_top ex8 ?_
        refine mm_istore (lv2 := [(6, .int x8), (5, .int x6), (0, .ref (mmad k 91)), (1, .int a1), (2, .int v1), (3, .int v2), (4, .int v3)]) C dX9_chosen_57 (by decide) rfl 59 rfl ?_
        refine mm_iload C dX9_chosen_59 0 rfl 61 rfl ?_
        refine mm_iload_n C dX9_chosen_61 rfl 5 rfl 62 rfl ?_
        refine mj2 h (fun (y9 : Int32) (y10 : Int32) => mm_AW z k 7 (some (.int r)) F F 71 [(0, .ref (mmad k 91)), (1, .int a1), (2, .int y9), (3, .int y10), (4, .int v3)] []) ?_ ?_
        · intro y9 y10 h
          obtain ⟨x11, ex11, h⟩ := me h
          refine mm_iinc (v := x11) (lv2 := [(4, .int x11), (0, .ref (mmad k 91)), (1, .int a1), (2, .int y9), (3, .int y10)]) C dX9_chosen_71 4 rfl (by rw [← ex11]; rfl) (by decide) rfl 74 rfl ?_
          refine mm_goto C dX9_chosen_74 8 (by decide) ?_
          refine mm_lv [1, 2, 3, 4, 0] rfl ?_
          exact ih _ _ _ h
        · intro K2 hR71 h
          refine mm_icmp_ge C dX9_chosen_62 71 65 (by decide) rfl (fun hc => ?_) (fun hc => ?_)
          · rw [if_pos hc] at h
            refine mm_lv [2, 3, 4, 5, 6] rfl ?_
            exact hR71 _ _ h
          · rw [if_neg hc] at h
            refine mm_iload C dX9_chosen_65 0 rfl 67 rfl ?_
            refine mm_istore_n (lv2 := [(3, .int x8), (6, .int x8), (5, .int x6), (0, .ref (mmad k 91)), (1, .int a1), (2, .int v1), (4, .int v3)]) C dX9_chosen_67 rfl (by decide) rfl 68 rfl ?_
            refine mm_iload C dX9_chosen_68 6 rfl 70 rfl ?_
            refine mm_istore_n (lv2 := [(2, .int v3), (3, .int x8), (6, .int x8), (5, .int x6), (0, .ref (mmad k 91)), (1, .int a1), (4, .int v3)]) C dX9_chosen_70 rfl (by decide) rfl 71 rfl ?_
            refine mm_lv [4, 5, 0, 1, 6] rfl ?_
            exact hR71 _ _ h
  refine mj1 h (fun (y12 : Int32) => mm_AW z k 7 (some (.int r)) F F 77 [(2, .int y12)] []) ?_ ?_
  · intro y12 h
    refine mm_iload_n C dX9_chosen_77 rfl 0 rfl 78 rfl ?_
    exact mm_iretP C (h) dX9_chosen_78
  · intro K2 hR h
    exact hL8 K2 hR 300 _ _ _ h
def m_X7_send_91 (F : mmS) (a1 : Int32) (a2 : Int32) : Option (mmS) :=
  Option.bind (ald F 92 a1) fun x1 => mlet (stF F 91 2 ((F 91 2) + (mabs (x1 - a2)))) fun G2 => Option.bind (ast G2 92 a1 a2) fun G3 => mlet (stF G3 91 3 a1) fun G4 => some G4
set_option maxHeartbeats 4000000 in
set_option maxRecDepth 100000 in
theorem c_X7_send_91 {l : Launch} {k : mmK} {F : mmS} {a1 : Int32} {a2 : Int32} {F1 : mmS} (h : m_X7_send_91 F a1 a2 = some F1) : mm_T l k yX7_send cX7_send 3 none 1 [.ref (mmad k 91), .int a1, .int a2] F none F1 := by
  refine mm_start [(0, .ref (mmad k 91)), (1, .int a1), (2, .int a2)] (by decide) (Nat.le_of_ble_eq_true rfl) rfl ?_
  intro z hz C
  subst hz
  have C : mm_C z k RX7 cX7_send 3 none 1 := C
  replace h := mk0 h
  unfold m_X7_send_91 at h
  refine mm_aload_n C dX7_send_0 rfl 0 rfl 1 rfl ?_
  refine mm_dup C dX7_send_1 rfl 2 rfl ?_
  refine mm_get C fl_X7_34_X9 (by decide) (mc_91 k _) rfl dX7_send_2 5 rfl ?_
  refine mm_aload_n C dX7_send_5 rfl 0 rfl 6 rfl ?_
  refine mm_get C fl_X7_9_X9 (by decide) (mc_91 k _) rfl dX7_send_6 9 rfl ?_
  refine mm_iload_n C dX7_send_9 rfl 1 rfl 10 rfl ?_
  obtain ⟨x1, ex1, h⟩ := mb h
  refine mm_iald C ex1 dX7_send_10 11 rfl ?_
  refine mm_iload_n C dX7_send_11 rfl 2 rfl 12 rfl ?_
  refine mm_isub C dX7_send_12 13 rfl ?_
  refine mm_abs C mw_599 mw_552 mw_62 mw_553 (by omega) (Nat.le_trans (Nat.le_of_ble_eq_true rfl : _ ≤ 40) (by omega)) dX7_send_13 16 rfl ?_
  refine mm_iadd C dX7_send_16 17 rfl ?_
  obtain ⟨G2, eG2, h⟩ := me h
  refine mm_put (x := ((F 91 2) + (mabs (x1 - a2)))) (ty := .int) C fl_X7_34_X9 (by decide) (mc_91 k _) (mc_91 k _) tyX9 tyX9_ok nmX9 rfl (by decide +kernel) rfl rfl (Nat.le_of_ble_eq_true rfl) eG2 dX7_send_17 20 rfl ?_
  refine mm_aload_n C dX7_send_20 rfl 0 rfl 21 rfl ?_
  refine mm_get C fl_X7_9_X9 (by decide) (mc_91 k _) rfl dX7_send_21 24 rfl ?_
  refine mm_iload_n C dX7_send_24 rfl 1 rfl 25 rfl ?_
  refine mm_iload_n C dX7_send_25 rfl 2 rfl 26 rfl ?_
  obtain ⟨G3, eG3, h⟩ := mb h
  refine mm_iast C eG3 dX7_send_26 27 rfl ?_
  refine mm_aload_n C dX7_send_27 rfl 0 rfl 28 rfl ?_
  refine mm_iload_n C dX7_send_28 rfl 1 rfl 29 rfl ?_
  obtain ⟨G4, eG4, h⟩ := me h
  refine mm_put (x := a1) (ty := .int) C fl_X7_15_X9 (by decide) (mc_91 k _) (mc_91 k _) tyX9 tyX9_ok nmX9 rfl (by decide +kernel) rfl rfl (Nat.le_of_ble_eq_true rfl) eG4 dX7_send_29 32 rfl ?_
  exact mm_vretW C (h) dX7_send_32
def m_X9_meet_91 (F : mmS) (a1 : Int32) (a2 : Int32) : Option (mmS) :=
  bd1 (if (F 91 5) < (3 : Int32) then (some (F)) else (Option.bind (m_X9_settle_91 F) fun G1 => some (G1))) fun G2 => Option.bind (ast G2 96 (G2 91 5) a1) fun G3 => mlet (stF G3 91 5 ((G3 91 5) + (1 : Int32))) fun G4 => Option.bind (m_X9_chosen_91 G4 a1) fun x5 => Option.bind (ald G4 2 a1) fun x6 => Option.bind (m_X7_send_91 G4 x5 x6) fun G7 => Option.bind (m_X3_moved (G7 91 6) x5 a1) fun x8 => mlet (stF G7 91 6 x8) fun G9 => some G9
set_option maxHeartbeats 4000000 in
set_option maxRecDepth 100000 in
theorem c_X9_meet_91 {l : Launch} {k : mmK} {F : mmS} {a1 : Int32} {a2 : Int32} {F1 : mmS} (h : m_X9_meet_91 F a1 a2 = some F1) : mm_T l k yX9_meet cX9_meet 4 none 9 [.ref (mmad k 91), .int a1, .int a2] F none F1 := by
  refine mm_start [(0, .ref (mmad k 91)), (1, .int a1), (2, .int a2)] (by decide) (Nat.le_of_ble_eq_true rfl) rfl ?_
  intro z hz C
  subst hz
  have C : mm_C z k RX9 cX9_meet 4 none 9 := C
  replace h := mk0 h
  unfold m_X9_meet_91 at h
  refine mm_aload_n C dX9_meet_0 rfl 0 rfl 1 rfl ?_
  refine mm_get C fl_X9_74_X9 (by decide) (mc_91 k _) rfl dX9_meet_1 4 rfl ?_
  refine mm_aload_n C dX9_meet_4 rfl 0 rfl 5 rfl ?_
  refine mm_get C fl_X9_27_X9 (by decide) (mc_91 k _) rfl dX9_meet_5 8 rfl ?_
  refine mm_alen (v := (3 : Int32)) C (by decide) (by decide) dX9_meet_8 9 rfl ?_
  refine mj1 h (fun (G2 : mmS) => mm_AW z k 4 none F1 G2 16 [(0, .ref (mmad k 91)), (1, .int a1)] []) ?_ ?_
  · intro G2 h
    refine mm_aload_n C dX9_meet_16 rfl 0 rfl 17 rfl ?_
    refine mm_get C fl_X9_27_X9 (by decide) (mc_91 k _) rfl dX9_meet_17 20 rfl ?_
    refine mm_aload_n C dX9_meet_20 rfl 0 rfl 21 rfl ?_
    refine mm_get C fl_X9_74_X9 (by decide) (mc_91 k _) rfl dX9_meet_21 24 rfl ?_
    refine mm_iload_n C dX9_meet_24 rfl 1 rfl 25 rfl ?_
    obtain ⟨G3, eG3, h⟩ := mb h
    refine mm_iast C eG3 dX9_meet_25 26 rfl ?_
    refine mm_aload_n C dX9_meet_26 rfl 0 rfl 27 rfl ?_
    refine mm_dup C dX9_meet_27 rfl 28 rfl ?_
    refine mm_get C fl_X9_74_X9 (by decide) (mc_91 k _) rfl dX9_meet_28 31 rfl ?_
    refine mm_iconst (v := (1 : Int32)) C dX9_meet_31 (by decide) 32 rfl ?_
    refine mm_iadd C dX9_meet_32 33 rfl ?_
    obtain ⟨G4, eG4, h⟩ := me h
    refine mm_put (x := ((G3 91 5) + (1 : Int32))) (ty := .int) C fl_X9_74_X9 (by decide) (mc_91 k _) (mc_91 k _) tyX9 tyX9_ok nmX9 rfl (by decide +kernel) rfl rfl (Nat.le_of_ble_eq_true rfl) eG4 dX9_meet_33 36 rfl ?_
    refine mm_aload_n C dX9_meet_36 rfl 0 rfl 37 rfl ?_
    refine mm_iload_n C dX9_meet_37 rfl 1 rfl 38 rfl ?_
    obtain ⟨x5, ex5, h⟩ := mb h
    refine mm_callV [.int a1] C (c_X9_chosen_91 ex5) wb_X9_chosen wv_X9_94 (by decide) (mc_91 k _) rfl rfl rfl (by omega) rfl (Nat.le_of_ble_eq_true rfl) dX9_meet_38 41 rfl ?_
    show mm_AW z k 4 none F1 G4 41 [(0, .ref (mmad k 91)), (1, .int a1)] [.int x5]
    refine mm_istore_n (lv2 := [(3, .int x5), (0, .ref (mmad k 91)), (1, .int a1)]) C dX9_meet_41 rfl (by decide) rfl 42 rfl ?_
    refine mm_aload_n C dX9_meet_42 rfl 1 rfl 43 rfl ?_
    refine mm_iload_n C dX9_meet_43 rfl 0 rfl 44 rfl ?_
    refine mm_aload_n C dX9_meet_44 rfl 1 rfl 45 rfl ?_
    refine mm_get C fl_X9_34_X9 (by decide) (mc_91 k _) rfl dX9_meet_45 48 rfl ?_
    refine mm_get C fl_X9_50_X3 (by decide) (mc_1 k _) rfl dX9_meet_48 51 rfl ?_
    refine mm_iload_n C dX9_meet_51 rfl 2 rfl 52 rfl ?_
    obtain ⟨x6, ex6, h⟩ := mb h
    refine mm_iald C ex6 dX9_meet_52 53 rfl ?_
    obtain ⟨G7, eG7, h⟩ := mb h
    refine mm_callU [.int x5, .int x6] C (c_X7_send_91 eG7) wb_X7_send wu_X9_98_X9 (fun s hN => hN.2.2.2.1) (by decide) (mc_91 k _) rfl rfl (by omega) rfl (Nat.le_of_ble_eq_true rfl) dX9_meet_53 56 rfl ?_
    show mm_AW z k 4 none F1 G7 56 [(3, .int x5), (0, .ref (mmad k 91)), (1, .int a1)] []
    refine mm_aload_n C dX9_meet_56 rfl 1 rfl 57 rfl ?_
    refine mm_aload_n C dX9_meet_57 rfl 1 rfl 58 rfl ?_
    refine mm_get C fl_X9_71_X9 (by decide) (mc_91 k _) rfl dX9_meet_58 61 rfl ?_
    refine mm_iload_n C dX9_meet_61 rfl 0 rfl 62 rfl ?_
    refine mm_iload_n C dX9_meet_62 rfl 2 rfl 63 rfl ?_
    obtain ⟨x8, ex8, h⟩ := mb h
    refine mm_callS [.int (G7 91 6), .int x5, .int a1] C (c_X3_moved ex8) wb_X3_moved ws_X9_81 rfl (by omega) rfl (Nat.le_of_ble_eq_true rfl) dX9_meet_63 66 rfl ?_
    show mm_AW z k 4 none F1 G7 66 [(3, .int x5), (0, .ref (mmad k 91)), (1, .int a1)] [.int x8, .ref (mmad k 91)]
    obtain ⟨G9, eG9, h⟩ := me h
    refine mm_put (x := x8) (ty := .int) C fl_X9_71_X9 (by decide) (mc_91 k _) (mc_91 k _) tyX9 tyX9_ok nmX9 rfl (by decide +kernel) rfl rfl (Nat.le_of_ble_eq_true rfl) eG9 dX9_meet_66 69 rfl ?_
    exact mm_vretW C (h) dX9_meet_69
  · intro K2 hR16 h
    refine mm_icmp_lt C dX9_meet_9 16 12 (by decide) rfl (fun hc => ?_) (fun hc => ?_)
    · rw [if_pos hc] at h
      refine mm_lv [0, 1] rfl ?_
      exact hR16 _ h
    · rw [if_neg hc] at h
      refine mm_aload_n C dX9_meet_12 rfl 0 rfl 13 rfl ?_
      obtain ⟨G1, eG1, h⟩ := mb h
      refine mm_callV [] C (c_X9_settle_91 eG1) wb_X9_settle wv_X9_91 (by decide) (mc_91 k _) rfl rfl rfl (by omega) rfl (Nat.le_of_ble_eq_true rfl) dX9_meet_13 16 rfl ?_
      show mm_AW z k 4 none F1 G1 16 [(0, .ref (mmad k 91)), (1, .int a1), (2, .int a2)] []
      refine mm_lv [0, 1] rfl ?_
      exact hR16 _ h
def m_X10_weigh_83_91_L3 : Nat → Int32 → mmS → Option (mmS)
  | 0, _, _ => none
  | n3 + 1, v1, G2 => if (G2 1 1) ≤ v1 then (some ((G2))) else (Option.bind (ald G2 3 v1) fun x4 => Option.bind (ald G2 2 x4) fun x5 => Option.bind (ast G2 85 v1 x5) fun G6 => mlet (v1 + (1 : Int32)) fun x7 => m_X10_weigh_83_91_L3 n3 x7 G6)
def m_X10_weigh_83_91_L67 (a2 : Int32) : Nat → Int32 → mmS → Option (mmS)
  | 0, _, _ => none
  | n14 + 1, v12, G13 => if a2 ≤ v12 then (some ((G13))) else (Option.bind (ald G13 84 v12) fun x15 => Option.bind (m_X9_meet_91 G13 x15 (-1 : Int32)) fun G16 => mlet (v12 + (1 : Int32)) fun x17 => m_X10_weigh_83_91_L67 a2 n14 x17 G16)
def m_X10_weigh_83_91 (F : mmS) (a2 : Int32) (a3 : Int32) : Option (mmS) :=
  bd1 (m_X10_weigh_83_91_L3 300 (0 : Int32) F) fun G8 => bd2 (m_X10_leastFrom_83 5 G8 (0 : Int32) a2) fun x9 G10 => if (0 : Int32) < x9 then (Option.bind (m_X9_standAtStart_91 G10) fun G11 => bd1 (m_X10_weigh_83_91_L67 a2 300 (0 : Int32) G11) fun G18 => if (G18 83 4) = (-1 : Int32) then (mlet (stF G18 83 4 a3) fun G19 => mlet (stF G19 83 5 (G19 91 2)) fun G20 => mlet (stF G20 83 6 x9) fun G21 => some G21) else (if ((G18 91 2) * (G18 83 6)) ≤ ((G18 83 5) * x9) then (some G18) else (mlet (stF G18 83 4 a3) fun G22 => mlet (stF G22 83 5 (G22 91 2)) fun G23 => mlet (stF G23 83 6 x9) fun G24 => some G24))) else (some G10)
set_option maxHeartbeats 4000000 in
set_option maxRecDepth 100000 in
theorem c_X10_weigh_83_91 {l : Launch} {k : mmK} {F : mmS} {a2 : Int32} {a3 : Int32} {F1 : mmS} (h : m_X10_weigh_83_91 F a2 a3 = some F1) : mm_T l k yX10_weigh cX10_weigh 6 none 10 [.ref (mmad k 83), .ref (mmad k 91), .int a2, .int a3] F none F1 := by
  refine mm_start [(0, .ref (mmad k 83)), (1, .ref (mmad k 91)), (2, .int a2), (3, .int a3)] (by decide) (Nat.le_of_ble_eq_true rfl) rfl ?_
  intro z hz C
  subst hz
  have C : mm_C z k RX10 cX10_weigh 6 none 10 := C
  replace h := mk0 h
  unfold m_X10_weigh_83_91 at h
  refine mm_iconst (v := (0 : Int32)) C dX10_weigh_0 (by decide) 1 rfl ?_
  refine mm_istore (lv2 := [(4, .int (0 : Int32)), (0, .ref (mmad k 83)), (1, .ref (mmad k 91)), (2, .int a2), (3, .int a3)]) C dX10_weigh_1 (by decide) rfl 3 rfl ?_
  refine mm_lv [1, 2, 3, 4, 0] rfl ?_
  have hL3 : ∀ (K : (mmS) → Option (mmS)) (hK : ∀ (G2 : mmS) , K (G2) = some F1 → mm_AW z k 6 none F1 G2 46 [(0, .ref (mmad k 83)), (1, .ref (mmad k 91)), (2, .int a2), (3, .int a3)] []) (n3 : Nat) (v1 : Int32) (G2 : mmS) , (m_X10_weigh_83_91_L3 n3 v1 G2).bind K = some F1 → mm_AW z k 6 none F1 G2 3 [(0, .ref (mmad k 83)), (1, .ref (mmad k 91)), (2, .int a2), (3, .int a3), (4, .int v1)] [] := by
    intro K hK n3
    induction n3 with
    | zero => intro v1 G2 h; rw [m_X10_weigh_83_91_L3] at h; cases h
    | succ n3 ih =>
      intro v1 G2 h
      rw [m_X10_weigh_83_91_L3] at h
      refine mm_iload C dX10_weigh_3 4 rfl 5 rfl ?_
      refine mm_aload_n C dX10_weigh_5 rfl 0 rfl 6 rfl ?_
      refine mm_get C fl_X10_22_X10 (by decide) (mc_83 k _) rfl dX10_weigh_6 9 rfl ?_
      refine mm_get C fl_X10_69_X3 (by decide) (mc_1 k _) rfl dX10_weigh_9 12 rfl ?_
      refine mm_icmp_ge C dX10_weigh_12 46 15 (by decide) rfl (fun hc => ?_) (fun hc => ?_)
      · rw [if_pos hc] at h
        refine mm_lv [0, 1, 2, 3] rfl ?_
        exact hK _ h
      · rw [if_neg hc] at h
        refine mm_aload_n C dX10_weigh_15 rfl 0 rfl 16 rfl ?_
        refine mm_get C fl_X10_15_X10 (by decide) (mc_83 k _) rfl dX10_weigh_16 19 rfl ?_
        refine mm_iload C dX10_weigh_19 4 rfl 21 rfl ?_
        refine mm_aload_n C dX10_weigh_21 rfl 0 rfl 22 rfl ?_
        refine mm_get C fl_X10_22_X10 (by decide) (mc_83 k _) rfl dX10_weigh_22 25 rfl ?_
        refine mm_get C fl_X10_72_X3 (by decide) (mc_1 k _) rfl dX10_weigh_25 28 rfl ?_
        refine mm_aload_n C dX10_weigh_28 rfl 0 rfl 29 rfl ?_
        refine mm_get C fl_X10_22_X10 (by decide) (mc_83 k _) rfl dX10_weigh_29 32 rfl ?_
        refine mm_get C fl_X10_75_X3 (by decide) (mc_1 k _) rfl dX10_weigh_32 35 rfl ?_
        refine mm_iload C dX10_weigh_35 4 rfl 37 rfl ?_
        obtain ⟨x4, ex4, h⟩ := mb h
        refine mm_iald C ex4 dX10_weigh_37 38 rfl ?_
        obtain ⟨x5, ex5, h⟩ := mb h
        refine mm_iald C ex5 dX10_weigh_38 39 rfl ?_
        obtain ⟨G6, eG6, h⟩ := mb h
        refine mm_iast C eG6 dX10_weigh_39 40 rfl ?_
        obtain ⟨x7, ex7, h⟩ := me h
        refine mm_iinc (v := x7) (lv2 := [(4, .int x7), (0, .ref (mmad k 83)), (1, .ref (mmad k 91)), (2, .int a2), (3, .int a3)]) C dX10_weigh_40 4 rfl (by rw [← ex7]; rfl) (by decide) rfl 43 rfl ?_
        refine mm_goto C dX10_weigh_43 3 (by decide) ?_
        refine mm_lv [1, 2, 3, 4, 0] rfl ?_
        exact ih _ _ h
  refine mj1 h (fun (G8 : mmS) => mm_AW z k 6 none F1 G8 46 [(0, .ref (mmad k 83)), (1, .ref (mmad k 91)), (2, .int a2), (3, .int a3)] []) ?_ ?_
  · intro G8 h
    refine mm_aload_n C dX10_weigh_46 rfl 0 rfl 47 rfl ?_
    refine mm_iconst (v := (0 : Int32)) C dX10_weigh_47 (by decide) 48 rfl ?_
    refine mm_iload_n C dX10_weigh_48 rfl 2 rfl 49 rfl ?_
    obtain ⟨x9, G10, ex9, h⟩ := mb2 h
    refine mm_callV [.int (0 : Int32), .int a2] C (c_X10_leastFrom_83 5 ex9) wb_X10_leastFrom wv_X10_78 (by decide) (mc_83 k _) rfl rfl rfl (by omega) rfl (Nat.le_of_ble_eq_true rfl) dX10_weigh_49 52 rfl ?_
    show mm_AW z k 6 none F1 G10 52 [(0, .ref (mmad k 83)), (1, .ref (mmad k 91)), (2, .int a2), (3, .int a3)] [.int x9]
    refine mm_istore (lv2 := [(4, .int x9), (0, .ref (mmad k 83)), (1, .ref (mmad k 91)), (2, .int a2), (3, .int a3)]) C dX10_weigh_52 (by decide) rfl 54 rfl ?_
    refine mm_iload C dX10_weigh_54 0 rfl 56 rfl ?_
    refine mm_if_gt C dX10_weigh_56 60 59 (by decide) rfl (fun hc => ?_) (fun hc => ?_)
    · rw [if_pos hc] at h
      refine mm_aload_n C dX10_weigh_60 rfl 2 rfl 61 rfl ?_
      obtain ⟨G11, eG11, h⟩ := mb h
      refine mm_callU [] C (c_X9_standAtStart_91 eG11) wb_X9_standAtStart wu_X10_82_X9 (fun s hN => hN.2.1) (by decide) (mc_91 k _) rfl rfl (by omega) rfl (Nat.le_of_ble_eq_true rfl) dX10_weigh_61 64 rfl ?_
      show mm_AW z k 6 none F1 G11 64 [(4, .int x9), (0, .ref (mmad k 83)), (1, .ref (mmad k 91)), (2, .int a2), (3, .int a3)] []
      refine mm_iconst (v := (0 : Int32)) C dX10_weigh_64 (by decide) 65 rfl ?_
      refine mm_istore (lv2 := [(5, .int (0 : Int32)), (4, .int x9), (0, .ref (mmad k 83)), (1, .ref (mmad k 91)), (2, .int a2), (3, .int a3)]) C dX10_weigh_65 (by decide) rfl 67 rfl ?_
      refine mm_lv [2, 3, 4, 5, 1, 0] rfl ?_
      have hL67 : ∀ (K : (mmS) → Option (mmS)) (hK : ∀ (G13 : mmS) , K (G13) = some F1 → mm_AW z k 6 none F1 G13 91 [(0, .ref (mmad k 83)), (1, .ref (mmad k 91)), (3, .int a3), (4, .int x9)] []) (n14 : Nat) (v12 : Int32) (G13 : mmS) , (m_X10_weigh_83_91_L67 a2 n14 v12 G13).bind K = some F1 → mm_AW z k 6 none F1 G13 67 [(0, .ref (mmad k 83)), (1, .ref (mmad k 91)), (2, .int a2), (3, .int a3), (4, .int x9), (5, .int v12)] [] := by
        intro K hK n14
        induction n14 with
        | zero => intro v12 G13 h; rw [m_X10_weigh_83_91_L67] at h; cases h
        | succ n14 ih =>
          intro v12 G13 h
          rw [m_X10_weigh_83_91_L67] at h
          refine mm_iload C dX10_weigh_67 5 rfl 69 rfl ?_
          refine mm_iload_n C dX10_weigh_69 rfl 2 rfl 70 rfl ?_
          refine mm_icmp_ge C dX10_weigh_70 91 73 (by decide) rfl (fun hc => ?_) (fun hc => ?_)
          · rw [if_pos hc] at h
            refine mm_lv [0, 1, 3, 4] rfl ?_
            exact hK _ h
          · rw [if_neg hc] at h
            refine mm_aload_n C dX10_weigh_73 rfl 1 rfl 74 rfl ?_
            refine mm_aload_n C dX10_weigh_74 rfl 0 rfl 75 rfl ?_
            refine mm_get C fl_X10_9_X10 (by decide) (mc_83 k _) rfl dX10_weigh_75 78 rfl ?_
            refine mm_iload C dX10_weigh_78 5 rfl 80 rfl ?_
            obtain ⟨x15, ex15, h⟩ := mb h
            refine mm_iald C ex15 dX10_weigh_80 81 rfl ?_
            refine mm_iconst (v := (-1 : Int32)) C dX10_weigh_81 (by decide) 82 rfl ?_
            obtain ⟨G16, eG16, h⟩ := mb h
            refine mm_callU [.int x15, .int (-1 : Int32)] C (c_X9_meet_91 eG16) wb_X9_meet wu_X10_85_X9 (fun s hN => hN.2.2.1) (by decide) (mc_91 k _) rfl rfl (by omega) rfl (Nat.le_of_ble_eq_true rfl) dX10_weigh_82 85 rfl ?_
            show mm_AW z k 6 none F1 G16 85 [(0, .ref (mmad k 83)), (1, .ref (mmad k 91)), (2, .int a2), (3, .int a3), (4, .int x9), (5, .int v12)] []
            obtain ⟨x17, ex17, h⟩ := me h
            refine mm_iinc (v := x17) (lv2 := [(5, .int x17), (0, .ref (mmad k 83)), (1, .ref (mmad k 91)), (2, .int a2), (3, .int a3), (4, .int x9)]) C dX10_weigh_85 5 rfl (by rw [← ex17]; rfl) (by decide) rfl 88 rfl ?_
            refine mm_goto C dX10_weigh_88 67 (by decide) ?_
            refine mm_lv [1, 2, 3, 4, 5, 0] rfl ?_
            exact ih _ _ h
      refine mj1 h (fun (G18 : mmS) => mm_AW z k 6 none F1 G18 91 [(0, .ref (mmad k 83)), (1, .ref (mmad k 91)), (3, .int a3), (4, .int x9)] []) ?_ ?_
      · intro G18 h
        refine mm_aload_n C dX10_weigh_91 rfl 0 rfl 92 rfl ?_
        refine mm_get C fl_X10_18_X10 (by decide) (mc_83 k _) rfl dX10_weigh_92 95 rfl ?_
        refine mm_iconst (v := (-1 : Int32)) C dX10_weigh_95 (by decide) 96 rfl ?_
        refine mm_icmp_eq C dX10_weigh_96 118 99 (by decide) rfl (fun hc => ?_) (fun hc => ?_)
        · rw [if_pos hc] at h
          refine mm_aload_n C dX10_weigh_118 rfl 0 rfl 119 rfl ?_
          refine mm_iload_n C dX10_weigh_119 rfl 2 rfl 120 rfl ?_
          obtain ⟨G19, eG19, h⟩ := me h
          refine mm_put (x := a3) (ty := .int) C fl_X10_18_X10 (by decide) (mc_83 k _) (mc_83 k _) tyX10 tyX10_ok nmX10 rfl (by decide +kernel) rfl rfl (Nat.le_of_ble_eq_true rfl) eG19 dX10_weigh_120 123 rfl ?_
          refine mm_aload_n C dX10_weigh_123 rfl 0 rfl 124 rfl ?_
          refine mm_aload_n C dX10_weigh_124 rfl 1 rfl 125 rfl ?_
          refine mm_get C fl_X10_89_X9 (by decide) (mc_91 k _) rfl dX10_weigh_125 128 rfl ?_
          obtain ⟨G20, eG20, h⟩ := me h
          refine mm_put (x := (G19 91 2)) (ty := .int) C fl_X10_47_X10 (by decide) (mc_83 k _) (mc_83 k _) tyX10 tyX10_ok nmX10 rfl (by decide +kernel) rfl rfl (Nat.le_of_ble_eq_true rfl) eG20 dX10_weigh_128 131 rfl ?_
          refine mm_aload_n C dX10_weigh_131 rfl 0 rfl 132 rfl ?_
          refine mm_iload C dX10_weigh_132 3 rfl 134 rfl ?_
          obtain ⟨G21, eG21, h⟩ := me h
          refine mm_put (x := x9) (ty := .int) C fl_X10_50_X10 (by decide) (mc_83 k _) (mc_83 k _) tyX10 tyX10_ok nmX10 rfl (by decide +kernel) rfl rfl (Nat.le_of_ble_eq_true rfl) eG21 dX10_weigh_134 137 rfl ?_
          exact mm_vretW C (h) dX10_weigh_137
        · rw [if_neg hc] at h
          refine mm_aload_n C dX10_weigh_99 rfl 1 rfl 100 rfl ?_
          refine mm_get C fl_X10_89_X9 (by decide) (mc_91 k _) rfl dX10_weigh_100 103 rfl ?_
          refine mm_aload_n C dX10_weigh_103 rfl 0 rfl 104 rfl ?_
          refine mm_get C fl_X10_50_X10 (by decide) (mc_83 k _) rfl dX10_weigh_104 107 rfl ?_
          refine mm_imul C dX10_weigh_107 108 rfl ?_
          refine mm_aload_n C dX10_weigh_108 rfl 0 rfl 109 rfl ?_
          refine mm_get C fl_X10_47_X10 (by decide) (mc_83 k _) rfl dX10_weigh_109 112 rfl ?_
          refine mm_iload C dX10_weigh_112 3 rfl 114 rfl ?_
          refine mm_imul C dX10_weigh_114 115 rfl ?_
          refine mm_icmp_le C dX10_weigh_115 137 118 (by decide) rfl (fun hc => ?_) (fun hc => ?_)
          · rw [if_pos hc] at h
            exact mm_vretW C (h) dX10_weigh_137
          · rw [if_neg hc] at h
            refine mm_aload_n C dX10_weigh_118 rfl 0 rfl 119 rfl ?_
            refine mm_iload_n C dX10_weigh_119 rfl 2 rfl 120 rfl ?_
            obtain ⟨G22, eG22, h⟩ := me h
            refine mm_put (x := a3) (ty := .int) C fl_X10_18_X10 (by decide) (mc_83 k _) (mc_83 k _) tyX10 tyX10_ok nmX10 rfl (by decide +kernel) rfl rfl (Nat.le_of_ble_eq_true rfl) eG22 dX10_weigh_120 123 rfl ?_
            refine mm_aload_n C dX10_weigh_123 rfl 0 rfl 124 rfl ?_
            refine mm_aload_n C dX10_weigh_124 rfl 1 rfl 125 rfl ?_
            refine mm_get C fl_X10_89_X9 (by decide) (mc_91 k _) rfl dX10_weigh_125 128 rfl ?_
            obtain ⟨G23, eG23, h⟩ := me h
            refine mm_put (x := (G22 91 2)) (ty := .int) C fl_X10_47_X10 (by decide) (mc_83 k _) (mc_83 k _) tyX10 tyX10_ok nmX10 rfl (by decide +kernel) rfl rfl (Nat.le_of_ble_eq_true rfl) eG23 dX10_weigh_128 131 rfl ?_
            refine mm_aload_n C dX10_weigh_131 rfl 0 rfl 132 rfl ?_
            refine mm_iload C dX10_weigh_132 3 rfl 134 rfl ?_
            obtain ⟨G24, eG24, h⟩ := me h
            refine mm_put (x := x9) (ty := .int) C fl_X10_50_X10 (by decide) (mc_83 k _) (mc_83 k _) tyX10 tyX10_ok nmX10 rfl (by decide +kernel) rfl rfl (Nat.le_of_ble_eq_true rfl) eG24 dX10_weigh_134 137 rfl ?_
            exact mm_vretW C (h) dX10_weigh_137
      · intro K2 hR h
        exact hL67 K2 hR 300 _ _ h
    · rw [if_neg hc] at h
      exact mm_vretW C (h) dX10_weigh_59
  · intro K2 hR h
    exact hL3 K2 hR 300 _ _ h
def m_X7_begin_89 (F : mmS)  : Option (mmS) :=
  Option.bind (m_X7_standAtStart_89 F) fun G1 => some G1
set_option maxHeartbeats 4000000 in
set_option maxRecDepth 100000 in
theorem c_X7_begin_89 {l : Launch} {k : mmK} {F : mmS}  {F1 : mmS} (h : m_X7_begin_89 F = some F1) : mm_T l k yX7_begin cX7_begin 1 none 1 [.ref (mmad k 89)] F none F1 := by
  refine mm_start [(0, .ref (mmad k 89))] (by decide) (Nat.le_of_ble_eq_true rfl) rfl ?_
  intro z hz C
  subst hz
  have C : mm_C z k RX7 cX7_begin 1 none 1 := C
  replace h := mk0 h
  unfold m_X7_begin_89 at h
  refine mm_aload_n C dX7_begin_0 rfl 0 rfl 1 rfl ?_
  obtain ⟨G1, eG1, h⟩ := mb h
  refine mm_callU [] C (c_X7_standAtStart_89 eG1) wb_X7_standAtStart wu_X7_23_X1 (fun s hN => hN.2.1) (by decide) (mc_89 k _) rfl rfl (by omega) rfl (Nat.le_of_ble_eq_true rfl) dX7_begin_1 4 rfl ?_
  show mm_AW z k 1 none F1 G1 4 [(0, .ref (mmad k 89))] []
  exact mm_vretW C (h) dX7_begin_4
def m_X3_leastWays_1_92_95 (F : mmS)  : Option (Int32) :=
  if (F 1 1) = (1 : Int32) then (Option.bind (ald F 92 (0 : Int32)) fun x30 => Option.bind (ald F 95 (0 : Int32)) fun x31 => some (mabs (x30 - x31))) else (if (F 1 1) = (2 : Int32) then (Option.bind (ald F 92 (0 : Int32)) fun x25 => Option.bind (ald F 92 (1 : Int32)) fun x26 => Option.bind (ald F 95 (0 : Int32)) fun x27 => Option.bind (ald F 95 (1 : Int32)) fun x28 => Option.bind (m_X3_pairWays x25 x26 x27 x28) fun x29 => some x29) else (Option.bind (ald F 92 (0 : Int32)) fun x1 => Option.bind (ald F 95 (0 : Int32)) fun x2 => Option.bind (ald F 92 (1 : Int32)) fun x3 => Option.bind (ald F 92 (2 : Int32)) fun x4 => Option.bind (ald F 95 (1 : Int32)) fun x5 => Option.bind (ald F 95 (2 : Int32)) fun x6 => Option.bind (m_X3_pairWays x3 x4 x5 x6) fun x7 => mlet ((mabs (x1 - x2)) + x7) fun x8 => Option.bind (ald F 92 (0 : Int32)) fun x9 => Option.bind (ald F 95 (1 : Int32)) fun x10 => Option.bind (ald F 92 (1 : Int32)) fun x11 => Option.bind (ald F 92 (2 : Int32)) fun x12 => Option.bind (ald F 95 (0 : Int32)) fun x13 => Option.bind (ald F 95 (2 : Int32)) fun x14 => Option.bind (m_X3_pairWays x11 x12 x13 x14) fun x15 => mlet ((mabs (x9 - x10)) + x15) fun x16 => Option.bind (ald F 92 (0 : Int32)) fun x17 => Option.bind (ald F 95 (2 : Int32)) fun x18 => Option.bind (ald F 92 (1 : Int32)) fun x19 => Option.bind (ald F 92 (2 : Int32)) fun x20 => Option.bind (ald F 95 (0 : Int32)) fun x21 => Option.bind (ald F 95 (1 : Int32)) fun x22 => Option.bind (m_X3_pairWays x19 x20 x21 x22) fun x23 => mlet ((mabs (x17 - x18)) + x23) fun x24 => some (mmin x8 (mmin x16 x24))))
set_option maxHeartbeats 4000000 in
set_option maxRecDepth 100000 in
theorem c_X3_leastWays_1_92_95 {l : Launch} {k : mmK} {F : mmS}  {r : Int32} (h : m_X3_leastWays_1_92_95 F = some r) : mm_T l k yX3_leastWays cX3_leastWays 6 (some .int) 2 [.ref (mmad k 1), .ref (mmad k 92), .ref (mmad k 95)] F (some (.int r)) F := by
  refine mm_start [(0, .ref (mmad k 1)), (1, .ref (mmad k 92)), (2, .ref (mmad k 95))] (by decide) (Nat.le_of_ble_eq_true rfl) rfl ?_
  intro z hz C
  subst hz
  have C : mm_C z k RX3 cX3_leastWays 6 (some .int) 2 := C
  replace h := mk0 h
  unfold m_X3_leastWays_1_92_95 at h
  refine mm_aload_n C dX3_leastWays_0 rfl 0 rfl 1 rfl ?_
  refine mm_get C fl_X3_15_X3 (by decide) (mc_1 k _) rfl dX3_leastWays_1 4 rfl ?_
  refine mm_iconst (v := (1 : Int32)) C dX3_leastWays_4 (by decide) 5 rfl ?_
  refine mm_icmp_ne C dX3_leastWays_5 19 8 (by decide) rfl (fun hc => ?_) (fun hc => ?_)
  · rw [if_neg hc] at h
    refine mm_aload_n C dX3_leastWays_19 rfl 0 rfl 20 rfl ?_
    refine mm_get C fl_X3_15_X3 (by decide) (mc_1 k _) rfl dX3_leastWays_20 23 rfl ?_
    refine mm_iconst (v := (2 : Int32)) C dX3_leastWays_23 (by decide) 24 rfl ?_
    refine mm_icmp_ne C dX3_leastWays_24 43 27 (by decide) rfl (fun hc => ?_) (fun hc => ?_)
    · rw [if_neg hc] at h
      refine mm_aload_n C dX3_leastWays_43 rfl 1 rfl 44 rfl ?_
      refine mm_iconst (v := (0 : Int32)) C dX3_leastWays_44 (by decide) 45 rfl ?_
      obtain ⟨x1, ex1, h⟩ := mb h
      refine mm_iald C ex1 dX3_leastWays_45 46 rfl ?_
      refine mm_aload_n C dX3_leastWays_46 rfl 2 rfl 47 rfl ?_
      refine mm_iconst (v := (0 : Int32)) C dX3_leastWays_47 (by decide) 48 rfl ?_
      obtain ⟨x2, ex2, h⟩ := mb h
      refine mm_iald C ex2 dX3_leastWays_48 49 rfl ?_
      refine mm_isub C dX3_leastWays_49 50 rfl ?_
      refine mm_abs C mw_551 mw_552 mw_62 mw_553 (by omega) (Nat.le_trans (Nat.le_of_ble_eq_true rfl : _ ≤ 40) (by omega)) dX3_leastWays_50 53 rfl ?_
      refine mm_aload_n C dX3_leastWays_53 rfl 1 rfl 54 rfl ?_
      refine mm_iconst (v := (1 : Int32)) C dX3_leastWays_54 (by decide) 55 rfl ?_
      obtain ⟨x3, ex3, h⟩ := mb h
      refine mm_iald C ex3 dX3_leastWays_55 56 rfl ?_
      refine mm_aload_n C dX3_leastWays_56 rfl 1 rfl 57 rfl ?_
      refine mm_iconst (v := (2 : Int32)) C dX3_leastWays_57 (by decide) 58 rfl ?_
      obtain ⟨x4, ex4, h⟩ := mb h
      refine mm_iald C ex4 dX3_leastWays_58 59 rfl ?_
      refine mm_aload_n C dX3_leastWays_59 rfl 2 rfl 60 rfl ?_
      refine mm_iconst (v := (1 : Int32)) C dX3_leastWays_60 (by decide) 61 rfl ?_
      obtain ⟨x5, ex5, h⟩ := mb h
      refine mm_iald C ex5 dX3_leastWays_61 62 rfl ?_
      refine mm_aload_n C dX3_leastWays_62 rfl 2 rfl 63 rfl ?_
      refine mm_iconst (v := (2 : Int32)) C dX3_leastWays_63 (by decide) 64 rfl ?_
      obtain ⟨x6, ex6, h⟩ := mb h
      refine mm_iald C ex6 dX3_leastWays_64 65 rfl ?_
      obtain ⟨x7, ex7, h⟩ := mb h
      refine mm_callS [.int x3, .int x4, .int x5, .int x6] C (c_X3_pairWays ex7) wb_X3_pairWays ws_X3_63 rfl (by omega) rfl (Nat.le_of_ble_eq_true rfl) dX3_leastWays_65 68 rfl ?_
      show mm_AW z k 6 (some (.int r)) F F 68 [(0, .ref (mmad k 1)), (1, .ref (mmad k 92)), (2, .ref (mmad k 95))] [.int x7, .int (mabs (x1 - x2))]
      refine mm_iadd C dX3_leastWays_68 69 rfl ?_
      obtain ⟨x8, ex8, h⟩ := me h
      refine mm_top ex8 ?_
      refine mm_istore_n (lv2 := [(3, .int x8), (0, .ref (mmad k 1)), (1, .ref (mmad k 92)), (2, .ref (mmad k 95))]) C dX3_leastWays_69 rfl (by decide) rfl 70 rfl ?_
      refine mm_aload_n C dX3_leastWays_70 rfl 2 rfl 71 rfl ?_
      refine mm_iconst (v := (0 : Int32)) C dX3_leastWays_71 (by decide) 72 rfl ?_
      obtain ⟨x9, ex9, h⟩ := mb h
      refine mm_iald C ex9 dX3_leastWays_72 73 rfl ?_
      refine mm_aload_n C dX3_leastWays_73 rfl 3 rfl 74 rfl ?_
      refine mm_iconst (v := (1 : Int32)) C dX3_leastWays_74 (by decide) 75 rfl ?_
      obtain ⟨x10, ex10, h⟩ := mb h
      refine mm_iald C ex10 dX3_leastWays_75 76 rfl ?_
      refine mm_isub C dX3_leastWays_76 77 rfl ?_
      refine mm_abs C mw_551 mw_552 mw_62 mw_553 (by omega) (Nat.le_trans (Nat.le_of_ble_eq_true rfl : _ ≤ 40) (by omega)) dX3_leastWays_77 80 rfl ?_
      refine mm_aload_n C dX3_leastWays_80 rfl 2 rfl 81 rfl ?_
      refine mm_iconst (v := (1 : Int32)) C dX3_leastWays_81 (by decide) 82 rfl ?_
      obtain ⟨x11, ex11, h⟩ := mb h
      refine mm_iald C ex11 dX3_leastWays_82 83 rfl ?_
      refine mm_aload_n C dX3_leastWays_83 rfl 2 rfl 84 rfl ?_
      refine mm_iconst (v := (2 : Int32)) C dX3_leastWays_84 (by decide) 85 rfl ?_
      obtain ⟨x12, ex12, h⟩ := mb h
      refine mm_iald C ex12 dX3_leastWays_85 86 rfl ?_
      refine mm_aload_n C dX3_leastWays_86 rfl 3 rfl 87 rfl ?_
      refine mm_iconst (v := (0 : Int32)) C dX3_leastWays_87 (by decide) 88 rfl ?_
      obtain ⟨x13, ex13, h⟩ := mb h
      refine mm_iald C ex13 dX3_leastWays_88 89 rfl ?_
      refine mm_aload_n C dX3_leastWays_89 rfl 3 rfl 90 rfl ?_
      refine mm_iconst (v := (2 : Int32)) C dX3_leastWays_90 (by decide) 91 rfl ?_
      obtain ⟨x14, ex14, h⟩ := mb h
      refine mm_iald C ex14 dX3_leastWays_91 92 rfl ?_
      obtain ⟨x15, ex15, h⟩ := mb h
      refine mm_callS [.int x11, .int x12, .int x13, .int x14] C (c_X3_pairWays ex15) wb_X3_pairWays ws_X3_63 rfl (by omega) rfl (Nat.le_of_ble_eq_true rfl) dX3_leastWays_92 95 rfl ?_
      show mm_AW z k 6 (some (.int r)) F F 95 [(3, .int x8), (0, .ref (mmad k 1)), (1, .ref (mmad k 92)), (2, .ref (mmad k 95))] [.int x15, .int (mabs (x9 - x10))]
      refine mm_iadd C dX3_leastWays_95 96 rfl ?_
      obtain ⟨x16, ex16, h⟩ := me h
      refine mm_top ex16 ?_
      refine mm_istore (lv2 := [(4, .int x16), (3, .int x8), (0, .ref (mmad k 1)), (1, .ref (mmad k 92)), (2, .ref (mmad k 95))]) C dX3_leastWays_96 (by decide) rfl 98 rfl ?_
      refine mm_aload_n C dX3_leastWays_98 rfl 3 rfl 99 rfl ?_
      refine mm_iconst (v := (0 : Int32)) C dX3_leastWays_99 (by decide) 100 rfl ?_
      obtain ⟨x17, ex17, h⟩ := mb h
      refine mm_iald C ex17 dX3_leastWays_100 101 rfl ?_
      refine mm_aload_n C dX3_leastWays_101 rfl 4 rfl 102 rfl ?_
      refine mm_iconst (v := (2 : Int32)) C dX3_leastWays_102 (by decide) 103 rfl ?_
      obtain ⟨x18, ex18, h⟩ := mb h
      refine mm_iald C ex18 dX3_leastWays_103 104 rfl ?_
      refine mm_isub C dX3_leastWays_104 105 rfl ?_
      refine mm_abs C mw_551 mw_552 mw_62 mw_553 (by omega) (Nat.le_trans (Nat.le_of_ble_eq_true rfl : _ ≤ 40) (by omega)) dX3_leastWays_105 108 rfl ?_
      refine mm_aload_n C dX3_leastWays_108 rfl 3 rfl 109 rfl ?_
      refine mm_iconst (v := (1 : Int32)) C dX3_leastWays_109 (by decide) 110 rfl ?_
      obtain ⟨x19, ex19, h⟩ := mb h
      refine mm_iald C ex19 dX3_leastWays_110 111 rfl ?_
      refine mm_aload_n C dX3_leastWays_111 rfl 3 rfl 112 rfl ?_
      refine mm_iconst (v := (2 : Int32)) C dX3_leastWays_112 (by decide) 113 rfl ?_
      obtain ⟨x20, ex20, h⟩ := mb h
      refine mm_iald C ex20 dX3_leastWays_113 114 rfl ?_
      refine mm_aload_n C dX3_leastWays_114 rfl 4 rfl 115 rfl ?_
      refine mm_iconst (v := (0 : Int32)) C dX3_leastWays_115 (by decide) 116 rfl ?_
      obtain ⟨x21, ex21, h⟩ := mb h
      refine mm_iald C ex21 dX3_leastWays_116 117 rfl ?_
      refine mm_aload_n C dX3_leastWays_117 rfl 4 rfl 118 rfl ?_
      refine mm_iconst (v := (1 : Int32)) C dX3_leastWays_118 (by decide) 119 rfl ?_
      obtain ⟨x22, ex22, h⟩ := mb h
      refine mm_iald C ex22 dX3_leastWays_119 120 rfl ?_
      obtain ⟨x23, ex23, h⟩ := mb h
      refine mm_callS [.int x19, .int x20, .int x21, .int x22] C (c_X3_pairWays ex23) wb_X3_pairWays ws_X3_63 rfl (by omega) rfl (Nat.le_of_ble_eq_true rfl) dX3_leastWays_120 123 rfl ?_
      show mm_AW z k 6 (some (.int r)) F F 123 [(4, .int x16), (3, .int x8), (0, .ref (mmad k 1)), (1, .ref (mmad k 92)), (2, .ref (mmad k 95))] [.int x23, .int (mabs (x17 - x18))]
      refine mm_iadd C dX3_leastWays_123 124 rfl ?_
      obtain ⟨x24, ex24, h⟩ := me h
      refine mm_top ex24 ?_
      refine mm_istore (lv2 := [(5, .int x24), (4, .int x16), (3, .int x8), (0, .ref (mmad k 1)), (1, .ref (mmad k 92)), (2, .ref (mmad k 95))]) C dX3_leastWays_124 (by decide) rfl 126 rfl ?_
      refine mm_iload_n C dX3_leastWays_126 rfl 2 rfl 127 rfl ?_
      refine mm_iload C dX3_leastWays_127 1 rfl 129 rfl ?_
      refine mm_iload C dX3_leastWays_129 0 rfl 131 rfl ?_
      refine mm_min C mw_557 mw_517 mw_62 mw_518 (by omega) (Nat.le_trans (Nat.le_of_ble_eq_true rfl : _ ≤ 40) (by omega)) dX3_leastWays_131 134 rfl ?_
      refine mm_min C mw_557 mw_517 mw_62 mw_518 (by omega) (Nat.le_trans (Nat.le_of_ble_eq_true rfl : _ ≤ 40) (by omega)) dX3_leastWays_134 137 rfl ?_
      exact mm_iretP C (h) dX3_leastWays_137
    · rw [if_pos hc] at h
      refine mm_aload_n C dX3_leastWays_27 rfl 1 rfl 28 rfl ?_
      refine mm_iconst (v := (0 : Int32)) C dX3_leastWays_28 (by decide) 29 rfl ?_
      obtain ⟨x25, ex25, h⟩ := mb h
      refine mm_iald C ex25 dX3_leastWays_29 30 rfl ?_
      refine mm_aload_n C dX3_leastWays_30 rfl 1 rfl 31 rfl ?_
      refine mm_iconst (v := (1 : Int32)) C dX3_leastWays_31 (by decide) 32 rfl ?_
      obtain ⟨x26, ex26, h⟩ := mb h
      refine mm_iald C ex26 dX3_leastWays_32 33 rfl ?_
      refine mm_aload_n C dX3_leastWays_33 rfl 2 rfl 34 rfl ?_
      refine mm_iconst (v := (0 : Int32)) C dX3_leastWays_34 (by decide) 35 rfl ?_
      obtain ⟨x27, ex27, h⟩ := mb h
      refine mm_iald C ex27 dX3_leastWays_35 36 rfl ?_
      refine mm_aload_n C dX3_leastWays_36 rfl 2 rfl 37 rfl ?_
      refine mm_iconst (v := (1 : Int32)) C dX3_leastWays_37 (by decide) 38 rfl ?_
      obtain ⟨x28, ex28, h⟩ := mb h
      refine mm_iald C ex28 dX3_leastWays_38 39 rfl ?_
      obtain ⟨x29, ex29, h⟩ := mb h
      refine mm_callS [.int x25, .int x26, .int x27, .int x28] C (c_X3_pairWays ex29) wb_X3_pairWays ws_X3_63 rfl (by omega) rfl (Nat.le_of_ble_eq_true rfl) dX3_leastWays_39 42 rfl ?_
      show mm_AW z k 6 (some (.int r)) F F 42 [(0, .ref (mmad k 1)), (1, .ref (mmad k 92)), (2, .ref (mmad k 95))] [.int x29]
      exact mm_iretP C (h) dX3_leastWays_42
  · rw [if_pos hc] at h
    refine mm_aload_n C dX3_leastWays_8 rfl 1 rfl 9 rfl ?_
    refine mm_iconst (v := (0 : Int32)) C dX3_leastWays_9 (by decide) 10 rfl ?_
    obtain ⟨x30, ex30, h⟩ := mb h
    refine mm_iald C ex30 dX3_leastWays_10 11 rfl ?_
    refine mm_aload_n C dX3_leastWays_11 rfl 2 rfl 12 rfl ?_
    refine mm_iconst (v := (0 : Int32)) C dX3_leastWays_12 (by decide) 13 rfl ?_
    obtain ⟨x31, ex31, h⟩ := mb h
    refine mm_iald C ex31 dX3_leastWays_13 14 rfl ?_
    refine mm_isub C dX3_leastWays_14 15 rfl ?_
    refine mm_abs C mw_551 mw_552 mw_62 mw_553 (by omega) (Nat.le_trans (Nat.le_of_ble_eq_true rfl : _ ≤ 40) (by omega)) dX3_leastWays_15 18 rfl ?_
    exact mm_iretP C (h) dX3_leastWays_18
def m_X9_begin_91_L29 (x5 : Int32) : Nat → Int32 → mmS → Option (mmS)
  | 0, _, _ => none
  | n8 + 1, v6, G7 => if (G7 1 1) ≤ v6 then (some ((G7))) else (Option.bind (m_X3_pointOf x5 v6) fun x9 => Option.bind (ald G7 2 x9) fun x10 => Option.bind (ast G7 95 v6 x10) fun G11 => mlet (v6 + (1 : Int32)) fun x12 => m_X9_begin_91_L29 x5 n8 x12 G11)
def m_X9_begin_91_L6 : Nat → Int32 → mmS → Option (mmS)
  | 0, _, _ => none
  | n4 + 1, v2, G3 => if (G3 1 3) ≤ v2 then (some ((G3))) else (Option.bind (ald G3 5 v2) fun x5 => bd1 (m_X9_begin_91_L29 x5 300 (0 : Int32) G3) fun G13 => Option.bind (ald G13 4 x5) fun x14 => Option.bind (m_X3_leastWays_1_92_95 G13) fun x15 => Option.bind (ast G13 ((G13 91 7).toNatClampNeg) x14 x15) fun G16 => mlet (v2 + (1 : Int32)) fun x17 => m_X9_begin_91_L6 n4 x17 G16)
def m_X9_begin_91 (F : mmS)  : Option (mmS) :=
  Option.bind (m_X9_standAtStart_91 F) fun G1 => bd1 (m_X9_begin_91_L6 300 (0 : Int32) G1) fun G18 => some G18
set_option maxHeartbeats 4000000 in
set_option maxRecDepth 100000 in
theorem c_X9_begin_91 {l : Launch} {k : mmK} {F : mmS}  {F1 : mmS} (h : m_X9_begin_91 F = some F1) : mm_T l k yX9_begin cX9_begin 4 none 4 [.ref (mmad k 91)] F none F1 := by
  refine mm_start [(0, .ref (mmad k 91))] (by decide) (Nat.le_of_ble_eq_true rfl) rfl ?_
  intro z hz C
  subst hz
  have C : mm_C z k RX9 cX9_begin 4 none 4 := C
  replace h := mk0 h
  unfold m_X9_begin_91 at h
  refine mm_aload_n C dX9_begin_0 rfl 0 rfl 1 rfl ?_
  obtain ⟨G1, eG1, h⟩ := mb h
  refine mm_callV [] C (c_X9_standAtStart_91 eG1) wb_X9_standAtStart wv_X9_30 (by decide) (mc_91 k _) rfl rfl rfl (by omega) rfl (Nat.le_of_ble_eq_true rfl) dX9_begin_1 4 rfl ?_
  show mm_AW z k 4 none F1 G1 4 [(0, .ref (mmad k 91))] []
  refine mm_iconst (v := (0 : Int32)) C dX9_begin_4 (by decide) 5 rfl ?_
  refine mm_istore_n (lv2 := [(1, .int (0 : Int32)), (0, .ref (mmad k 91))]) C dX9_begin_5 rfl (by decide) rfl 6 rfl ?_
  refine mm_lv [1, 0] rfl ?_
  have hL6 : ∀ (K : (mmS) → Option (mmS)) (hK : ∀ (G3 : mmS) , K (G3) = some F1 → mm_AW z k 4 none F1 G3 100 [] []) (n4 : Nat) (v2 : Int32) (G3 : mmS) , (m_X9_begin_91_L6 n4 v2 G3).bind K = some F1 → mm_AW z k 4 none F1 G3 6 [(0, .ref (mmad k 91)), (1, .int v2)] [] := by
    intro K hK n4
    induction n4 with
    | zero => intro v2 G3 h; rw [m_X9_begin_91_L6] at h; cases h
    | succ n4 ih =>
      intro v2 G3 h
      rw [m_X9_begin_91_L6] at h
      refine mm_iload_n C dX9_begin_6 rfl 1 rfl 7 rfl ?_
      refine mm_aload_n C dX9_begin_7 rfl 0 rfl 8 rfl ?_
      refine mm_get C fl_X9_34_X9 (by decide) (mc_91 k _) rfl dX9_begin_8 11 rfl ?_
      refine mm_get C fl_X9_38_X3 (by decide) (mc_1 k _) rfl dX9_begin_11 14 rfl ?_
      refine mm_icmp_ge C dX9_begin_14 100 17 (by decide) rfl (fun hc => ?_) (fun hc => ?_)
      · rw [if_pos hc] at h
        refine mm_lv [] rfl ?_
        exact hK _ h
      · rw [if_neg hc] at h
        refine mm_aload_n C dX9_begin_17 rfl 0 rfl 18 rfl ?_
        refine mm_get C fl_X9_34_X9 (by decide) (mc_91 k _) rfl dX9_begin_18 21 rfl ?_
        refine mm_get C fl_X9_44_X3 (by decide) (mc_1 k _) rfl dX9_begin_21 24 rfl ?_
        refine mm_iload_n C dX9_begin_24 rfl 1 rfl 25 rfl ?_
        obtain ⟨x5, ex5, h⟩ := mb h
        refine mm_iald C ex5 dX9_begin_25 26 rfl ?_
        refine mm_istore_n (lv2 := [(2, .int x5), (0, .ref (mmad k 91)), (1, .int v2)]) C dX9_begin_26 rfl (by decide) rfl 27 rfl ?_
        refine mm_iconst (v := (0 : Int32)) C dX9_begin_27 (by decide) 28 rfl ?_
        refine mm_istore_n (lv2 := [(3, .int (0 : Int32)), (2, .int x5), (0, .ref (mmad k 91)), (1, .int v2)]) C dX9_begin_28 rfl (by decide) rfl 29 rfl ?_
        refine mm_lv [2, 3, 1, 0] rfl ?_
        have hL29 : ∀ (K : (mmS) → Option (mmS)) (hK : ∀ (G7 : mmS) , K (G7) = some F1 → mm_AW z k 4 none F1 G7 65 [(0, .ref (mmad k 91)), (1, .int v2), (2, .int x5)] []) (n8 : Nat) (v6 : Int32) (G7 : mmS) , (m_X9_begin_91_L29 x5 n8 v6 G7).bind K = some F1 → mm_AW z k 4 none F1 G7 29 [(0, .ref (mmad k 91)), (1, .int v2), (2, .int x5), (3, .int v6)] [] := by
          intro K hK n8
          induction n8 with
          | zero => intro v6 G7 h; rw [m_X9_begin_91_L29] at h; cases h
          | succ n8 ih =>
            intro v6 G7 h
            rw [m_X9_begin_91_L29] at h
            refine mm_iload_n C dX9_begin_29 rfl 3 rfl 30 rfl ?_
            refine mm_aload_n C dX9_begin_30 rfl 0 rfl 31 rfl ?_
            refine mm_get C fl_X9_34_X9 (by decide) (mc_91 k _) rfl dX9_begin_31 34 rfl ?_
            refine mm_get C fl_X9_47_X3 (by decide) (mc_1 k _) rfl dX9_begin_34 37 rfl ?_
            refine mm_icmp_ge C dX9_begin_37 65 40 (by decide) rfl (fun hc => ?_) (fun hc => ?_)
            · rw [if_pos hc] at h
              refine mm_lv [0, 1, 2] rfl ?_
              exact hK _ h
            · rw [if_neg hc] at h
              refine mm_aload_n C dX9_begin_40 rfl 0 rfl 41 rfl ?_
              refine mm_get C fl_X9_18_X9 (by decide) (mc_91 k _) rfl dX9_begin_41 44 rfl ?_
              refine mm_iload_n C dX9_begin_44 rfl 3 rfl 45 rfl ?_
              refine mm_aload_n C dX9_begin_45 rfl 0 rfl 46 rfl ?_
              refine mm_get C fl_X9_34_X9 (by decide) (mc_91 k _) rfl dX9_begin_46 49 rfl ?_
              refine mm_get C fl_X9_50_X3 (by decide) (mc_1 k _) rfl dX9_begin_49 52 rfl ?_
              refine mm_iload_n C dX9_begin_52 rfl 2 rfl 53 rfl ?_
              refine mm_iload_n C dX9_begin_53 rfl 3 rfl 54 rfl ?_
              obtain ⟨x9, ex9, h⟩ := mb h
              refine mm_callS [.int x5, .int v6] C (c_X3_pointOf ex9) wb_X3_pointOf ws_X9_53 rfl (by omega) rfl (Nat.le_of_ble_eq_true rfl) dX9_begin_54 57 rfl ?_
              show mm_AW z k 4 none F1 G7 57 [(0, .ref (mmad k 91)), (1, .int v2), (2, .int x5), (3, .int v6)] [.int x9, .ref (mmad k 2), .int v6, .ref (mmad k 95)]
              obtain ⟨x10, ex10, h⟩ := mb h
              refine mm_iald C ex10 dX9_begin_57 58 rfl ?_
              obtain ⟨G11, eG11, h⟩ := mb h
              refine mm_iast C eG11 dX9_begin_58 59 rfl ?_
              obtain ⟨x12, ex12, h⟩ := me h
              refine mm_iinc (v := x12) (lv2 := [(3, .int x12), (0, .ref (mmad k 91)), (1, .int v2), (2, .int x5)]) C dX9_begin_59 3 rfl (by rw [← ex12]; rfl) (by decide) rfl 62 rfl ?_
              refine mm_goto C dX9_begin_62 29 (by decide) ?_
              refine mm_lv [1, 2, 3, 0] rfl ?_
              exact ih _ _ h
        refine mj1 h (fun (G13 : mmS) => mm_AW z k 4 none F1 G13 65 [(0, .ref (mmad k 91)), (1, .int v2), (2, .int x5)] []) ?_ ?_
        · intro G13 h
          refine mm_aload_n C dX9_begin_65 rfl 0 rfl 66 rfl ?_
          refine mm_get C fl_X9_9_X9 (by decide) (mc_91 k _) rfl dX9_begin_66 69 rfl ?_
          refine mm_aload_n C dX9_begin_69 rfl 0 rfl 70 rfl ?_
          refine mm_get C fl_X9_34_X9 (by decide) (mc_91 k _) rfl dX9_begin_70 73 rfl ?_
          refine mm_get C fl_X9_56_X3 (by decide) (mc_1 k _) rfl dX9_begin_73 76 rfl ?_
          refine mm_iload_n C dX9_begin_76 rfl 2 rfl 77 rfl ?_
          obtain ⟨x14, ex14, h⟩ := mb h
          refine mm_iald C ex14 dX9_begin_77 78 rfl ?_
          refine mm_aload_n C dX9_begin_78 rfl 0 rfl 79 rfl ?_
          refine mm_get C fl_X9_34_X9 (by decide) (mc_91 k _) rfl dX9_begin_79 82 rfl ?_
          refine mm_aload_n C dX9_begin_82 rfl 0 rfl 83 rfl ?_
          refine mm_get C fl_X9_59_X9 (by decide) (mc_91 k _) rfl dX9_begin_83 86 rfl ?_
          refine mm_aload_n C dX9_begin_86 rfl 0 rfl 87 rfl ?_
          refine mm_get C fl_X9_18_X9 (by decide) (mc_91 k _) rfl dX9_begin_87 90 rfl ?_
          obtain ⟨x15, ex15, h⟩ := mb h
          refine mm_callV [.ref (mmad k 92), .ref (mmad k 95)] C (c_X3_leastWays_1_92_95 ex15) wb_X3_leastWays wv_X9_62 (by decide) (mc_1 k _) rfl rfl rfl (by omega) rfl (Nat.le_of_ble_eq_true rfl) dX9_begin_90 93 rfl ?_
          show mm_AW z k 4 none F1 G13 93 [(0, .ref (mmad k 91)), (1, .int v2), (2, .int x5)] [.int x15, .int x14, .ref (mmad k ((G13 91 7).toNatClampNeg))]
          obtain ⟨G16, eG16, h⟩ := mb h
          refine mm_iast C eG16 dX9_begin_93 94 rfl ?_
          obtain ⟨x17, ex17, h⟩ := me h
          refine mm_iinc (v := x17) (lv2 := [(1, .int x17), (0, .ref (mmad k 91)), (2, .int x5)]) C dX9_begin_94 1 rfl (by rw [← ex17]; rfl) (by decide) rfl 97 rfl ?_
          refine mm_goto C dX9_begin_97 6 (by decide) ?_
          refine mm_lv [1, 0] rfl ?_
          exact ih _ _ h
        · intro K2 hR h
          exact hL29 K2 hR 300 _ _ h
  refine mj1 h (fun (G18 : mmS) => mm_AW z k 4 none F1 G18 100 [] []) ?_ ?_
  · intro G18 h
    exact mm_vretW C (h) dX9_begin_100
  · intro K2 hR h
    exact hL6 K2 hR 300 _ _ h
def m_X10_seek_83_L17 : Nat → Int32 → mmS → Option (mmS)
  | 0, _, _ => none
  | n6 + 1, v4, G5 => if (3 : Int32) ≤ v4 then (some ((G5))) else (Option.bind (ast G5 84 v4 (0 : Int32)) fun G7 => mlet (v4 + (1 : Int32)) fun x8 => m_X10_seek_83_L17 n6 x8 G7)
def m_X10_seek_83_L46 (a1 : Int32) (a2 : Int32) : Nat → Int32 → mmS → Option ((mmS) ⊕ (mmS))
  | 0, _, _ => none
  | n14 + 1, v12, G13 => if (216 : Int32) ≤ v12 then (some (.inr (G13))) else (Option.bind (rld 86 a1) fun q15 => if q15 = 87 then (Option.bind (m_X10_weigh_83_87 G13 a2 v12) fun G16 => bd2 (m_X10_turnToNextRow_83 G16 a2) fun x17 G18 => if x17 = (0 : Int32) then (some (.inr (G18))) else (mlet (v12 + (1 : Int32)) fun x19 => m_X10_seek_83_L46 a1 a2 n14 x19 G18)) else if q15 = 89 then (Option.bind (m_X10_weigh_83_89 G13 a2 v12) fun G20 => bd2 (m_X10_turnToNextRow_83 G20 a2) fun x21 G22 => if x21 = (0 : Int32) then (some (.inr (G22))) else (mlet (v12 + (1 : Int32)) fun x23 => m_X10_seek_83_L46 a1 a2 n14 x23 G22)) else if q15 = 91 then (Option.bind (m_X10_weigh_83_91 G13 a2 v12) fun G24 => bd2 (m_X10_turnToNextRow_83 G24 a2) fun x25 G26 => if x25 = (0 : Int32) then (some (.inr (G26))) else (mlet (v12 + (1 : Int32)) fun x27 => m_X10_seek_83_L46 a1 a2 n14 x27 G26)) else none)
def m_X10_seek_83_L46002 (a1 : Int32) (a2 : Int32) : Nat → Int32 → mmS → Option ((mmS) ⊕ (mmS))
  | 0, _, _ => none
  | n32 + 1, v30, G31 => if (216 : Int32) ≤ v30 then (some (.inr (G31))) else (Option.bind (rld 86 a1) fun q33 => if q33 = 87 then (Option.bind (m_X10_weigh_83_87 G31 a2 v30) fun G34 => bd2 (m_X10_turnToNextRow_83 G34 a2) fun x35 G36 => if x35 = (0 : Int32) then (some (.inr (G36))) else (mlet (v30 + (1 : Int32)) fun x37 => m_X10_seek_83_L46002 a1 a2 n32 x37 G36)) else if q33 = 89 then (Option.bind (m_X10_weigh_83_89 G31 a2 v30) fun G38 => bd2 (m_X10_turnToNextRow_83 G38 a2) fun x39 G40 => if x39 = (0 : Int32) then (some (.inr (G40))) else (mlet (v30 + (1 : Int32)) fun x41 => m_X10_seek_83_L46002 a1 a2 n32 x41 G40)) else if q33 = 91 then (Option.bind (m_X10_weigh_83_91 G31 a2 v30) fun G42 => bd2 (m_X10_turnToNextRow_83 G42 a2) fun x43 G44 => if x43 = (0 : Int32) then (some (.inr (G44))) else (mlet (v30 + (1 : Int32)) fun x45 => m_X10_seek_83_L46002 a1 a2 n32 x45 G44)) else none)
def m_X10_seek_83_L46003 (a1 : Int32) (a2 : Int32) : Nat → Int32 → mmS → Option ((mmS) ⊕ (mmS))
  | 0, _, _ => none
  | n50 + 1, v48, G49 => if (216 : Int32) ≤ v48 then (some (.inr (G49))) else (Option.bind (rld 86 a1) fun q51 => if q51 = 87 then (Option.bind (m_X10_weigh_83_87 G49 a2 v48) fun G52 => bd2 (m_X10_turnToNextRow_83 G52 a2) fun x53 G54 => if x53 = (0 : Int32) then (some (.inr (G54))) else (mlet (v48 + (1 : Int32)) fun x55 => m_X10_seek_83_L46003 a1 a2 n50 x55 G54)) else if q51 = 89 then (Option.bind (m_X10_weigh_83_89 G49 a2 v48) fun G56 => bd2 (m_X10_turnToNextRow_83 G56 a2) fun x57 G58 => if x57 = (0 : Int32) then (some (.inr (G58))) else (mlet (v48 + (1 : Int32)) fun x59 => m_X10_seek_83_L46003 a1 a2 n50 x59 G58)) else if q51 = 91 then (Option.bind (m_X10_weigh_83_91 G49 a2 v48) fun G60 => bd2 (m_X10_turnToNextRow_83 G60 a2) fun x61 G62 => if x61 = (0 : Int32) then (some (.inr (G62))) else (mlet (v48 + (1 : Int32)) fun x63 => m_X10_seek_83_L46003 a1 a2 n50 x63 G62)) else none)
def m_X10_seek_83 (F : mmS) (a1 : Int32) (a2 : Int32) : Option (mmS) :=
  mlet (stF F 83 4 (-1 : Int32)) fun G1 => mlet (stF G1 83 5 (0 : Int32)) fun G2 => mlet (stF G2 83 6 (0 : Int32)) fun G3 => bd1 (m_X10_seek_83_L17 300 (0 : Int32) G3) fun G9 => Option.bind (rld 86 a1) fun q10 => if q10 = 87 then (Option.bind (m_X7_begin_87 G9) fun G11 => bdE1 (m_X10_seek_83_L46 a1 a2 300 (0 : Int32) G11) fun G28 => some G28) else if q10 = 89 then (Option.bind (m_X7_begin_89 G9) fun G29 => bdE1 (m_X10_seek_83_L46002 a1 a2 300 (0 : Int32) G29) fun G46 => some G46) else if q10 = 91 then (Option.bind (m_X9_begin_91 G9) fun G47 => bdE1 (m_X10_seek_83_L46003 a1 a2 300 (0 : Int32) G47) fun G64 => some G64) else none
set_option maxHeartbeats 4000000 in
set_option maxRecDepth 100000 in
theorem c_X10_seek_83 {l : Launch} {k : mmK} {F : mmS} {a1 : Int32} {a2 : Int32} {F1 : mmS} (h : m_X10_seek_83 F a1 a2 = some F1) : mm_T l k yX10_seek cX10_seek 4 none 11 [.ref (mmad k 83), .int a1, .int a2] F none F1 := by
  refine mm_start [(0, .ref (mmad k 83)), (1, .int a1), (2, .int a2)] (by decide) (Nat.le_of_ble_eq_true rfl) rfl ?_
  intro z hz C
  subst hz
  have C : mm_C z k RX10 cX10_seek 4 none 11 := C
  replace h := mk0 h
  unfold m_X10_seek_83 at h
  refine mm_aload_n C dX10_seek_0 rfl 0 rfl 1 rfl ?_
  refine mm_iconst (v := (-1 : Int32)) C dX10_seek_1 (by decide) 2 rfl ?_
  obtain ⟨G1, eG1, h⟩ := me h
  refine mm_put (x := (-1 : Int32)) (ty := .int) C fl_X10_18_X10 (by decide) (mc_83 k _) (mc_83 k _) tyX10 tyX10_ok nmX10 rfl (by decide +kernel) rfl rfl (Nat.le_of_ble_eq_true rfl) eG1 dX10_seek_2 5 rfl ?_
  refine mm_aload_n C dX10_seek_5 rfl 0 rfl 6 rfl ?_
  refine mm_iconst (v := (0 : Int32)) C dX10_seek_6 (by decide) 7 rfl ?_
  obtain ⟨G2, eG2, h⟩ := me h
  refine mm_put (x := (0 : Int32)) (ty := .int) C fl_X10_47_X10 (by decide) (mc_83 k _) (mc_83 k _) tyX10 tyX10_ok nmX10 rfl (by decide +kernel) rfl rfl (Nat.le_of_ble_eq_true rfl) eG2 dX10_seek_7 10 rfl ?_
  refine mm_aload_n C dX10_seek_10 rfl 0 rfl 11 rfl ?_
  refine mm_iconst (v := (0 : Int32)) C dX10_seek_11 (by decide) 12 rfl ?_
  obtain ⟨G3, eG3, h⟩ := me h
  refine mm_put (x := (0 : Int32)) (ty := .int) C fl_X10_50_X10 (by decide) (mc_83 k _) (mc_83 k _) tyX10 tyX10_ok nmX10 rfl (by decide +kernel) rfl rfl (Nat.le_of_ble_eq_true rfl) eG3 dX10_seek_12 15 rfl ?_
  refine mm_iconst (v := (0 : Int32)) C dX10_seek_15 (by decide) 16 rfl ?_
  refine mm_istore_n (lv2 := [(3, .int (0 : Int32)), (0, .ref (mmad k 83)), (1, .int a1), (2, .int a2)]) C dX10_seek_16 rfl (by decide) rfl 17 rfl ?_
  refine mm_lv [1, 2, 3, 0] rfl ?_
  have hL17 : ∀ (K : (mmS) → Option (mmS)) (hK : ∀ (G5 : mmS) , K (G5) = some F1 → mm_AW z k 4 none F1 G5 35 [(0, .ref (mmad k 83)), (1, .int a1), (2, .int a2)] []) (n6 : Nat) (v4 : Int32) (G5 : mmS) , (m_X10_seek_83_L17 n6 v4 G5).bind K = some F1 → mm_AW z k 4 none F1 G5 17 [(0, .ref (mmad k 83)), (1, .int a1), (2, .int a2), (3, .int v4)] [] := by
    intro K hK n6
    induction n6 with
    | zero => intro v4 G5 h; rw [m_X10_seek_83_L17] at h; cases h
    | succ n6 ih =>
      intro v4 G5 h
      rw [m_X10_seek_83_L17] at h
      refine mm_iload_n C dX10_seek_17 rfl 3 rfl 18 rfl ?_
      refine mm_iconst (v := (3 : Int32)) C dX10_seek_18 (by decide) 19 rfl ?_
      refine mm_icmp_ge C dX10_seek_19 35 22 (by decide) rfl (fun hc => ?_) (fun hc => ?_)
      · rw [if_pos hc] at h
        refine mm_lv [0, 1, 2] rfl ?_
        exact hK _ h
      · rw [if_neg hc] at h
        refine mm_aload_n C dX10_seek_22 rfl 0 rfl 23 rfl ?_
        refine mm_get C fl_X10_9_X10 (by decide) (mc_83 k _) rfl dX10_seek_23 26 rfl ?_
        refine mm_iload_n C dX10_seek_26 rfl 3 rfl 27 rfl ?_
        refine mm_iconst (v := (0 : Int32)) C dX10_seek_27 (by decide) 28 rfl ?_
        obtain ⟨G7, eG7, h⟩ := mb h
        refine mm_iast C eG7 dX10_seek_28 29 rfl ?_
        obtain ⟨x8, ex8, h⟩ := me h
        refine mm_iinc (v := x8) (lv2 := [(3, .int x8), (0, .ref (mmad k 83)), (1, .int a1), (2, .int a2)]) C dX10_seek_29 3 rfl (by rw [← ex8]; rfl) (by decide) rfl 32 rfl ?_
        refine mm_goto C dX10_seek_32 17 (by decide) ?_
        refine mm_lv [1, 2, 3, 0] rfl ?_
        exact ih _ _ h
  refine mj1 h (fun (G9 : mmS) => mm_AW z k 4 none F1 G9 35 [(0, .ref (mmad k 83)), (1, .int a1), (2, .int a2)] []) ?_ ?_
  · intro G9 h
    refine mm_aload_n C dX10_seek_35 rfl 0 rfl 36 rfl ?_
    refine mm_get C fl_X10_43_X10 (by decide) (mc_83 k _) rfl dX10_seek_36 39 rfl ?_
    refine mm_iload_n C dX10_seek_39 rfl 1 rfl 40 rfl ?_
    obtain ⟨q10, eq10, h⟩ := mb h
    refine mm_aald (t0 := 2) C (by decide) (mc_86 k _) rfl rfl eq10 dX10_seek_40 41 rfl ?_
    by_cases hq87 : q10 = 87
    · rw [if_pos hq87] at h
      subst hq87
      obtain ⟨G11, eG11, h⟩ := mb h
      refine mm_callU [] C (c_X7_begin_87 eG11) wb_X7_begin wu_X10_53_X5 (fun s hN => hN.2.2.2.2) (by decide) (mc_87 k _) rfl rfl (by omega) rfl (Nat.le_of_ble_eq_true rfl) dX10_seek_41 44 rfl ?_
      show mm_AW z k 4 none F1 G11 44 [(0, .ref (mmad k 83)), (1, .int a1), (2, .int a2)] []
      refine mm_iconst (v := (0 : Int32)) C dX10_seek_44 (by decide) 45 rfl ?_
      refine mm_istore_n (lv2 := [(3, .int (0 : Int32)), (0, .ref (mmad k 83)), (1, .int a1), (2, .int a2)]) C dX10_seek_45 rfl (by decide) rfl 46 rfl ?_
      refine mm_lv [1, 2, 3, 0] rfl ?_
      have hL46 : ∀ (K : ((mmS) ⊕ (mmS)) → Option (mmS)) (hK : ∀ (G13 : mmS) , K (.inr (G13)) = some F1 → mm_AW z k 4 none F1 G13 82 [] []) (hE : ∀ q : mmS, K (.inl q) = some F1 → q = F1) (n14 : Nat) (v12 : Int32) (G13 : mmS) , (m_X10_seek_83_L46 a1 a2 n14 v12 G13).bind K = some F1 → mm_AW z k 4 none F1 G13 46 [(0, .ref (mmad k 83)), (1, .int a1), (2, .int a2), (3, .int v12)] [] := by
        intro K hK hE n14
        induction n14 with
        | zero => intro v12 G13 h; rw [m_X10_seek_83_L46] at h; cases h
        | succ n14 ih =>
          intro v12 G13 h
          rw [m_X10_seek_83_L46] at h
          refine mm_iload_n C dX10_seek_46 rfl 3 rfl 47 rfl ?_
          refine mm_sipush (v := (216 : Int32)) C dX10_seek_47 (by decide) 50 rfl ?_
          refine mm_icmp_ge C dX10_seek_50 82 53 (by decide) rfl (fun hc => ?_) (fun hc => ?_)
          · rw [if_pos hc] at h
            refine mm_lv [] rfl ?_
            exact hK _ h
          · rw [if_neg hc] at h
            refine mm_aload_n C dX10_seek_53 rfl 0 rfl 54 rfl ?_
            refine mm_aload_n C dX10_seek_54 rfl 0 rfl 55 rfl ?_
            refine mm_get C fl_X10_43_X10 (by decide) (mc_83 k _) rfl dX10_seek_55 58 rfl ?_
            refine mm_iload_n C dX10_seek_58 rfl 1 rfl 59 rfl ?_
            obtain ⟨q15, eq15, h⟩ := mb h
            refine mm_aald (t0 := 2) C (by decide) (mc_86 k _) rfl rfl eq15 dX10_seek_59 60 rfl ?_
            refine mm_iload_n C dX10_seek_60 rfl 2 rfl 61 rfl ?_
            refine mm_iload_n C dX10_seek_61 rfl 3 rfl 62 rfl ?_
            by_cases hq87 : q15 = 87
            · rw [if_pos hq87] at h
              subst hq87
              obtain ⟨G16, eG16, h⟩ := mb h
              refine mm_callV [.ref (mmad k 87), .int a2, .int v12] C (c_X10_weigh_83_87 eG16) wb_X10_weigh wv_X10_56 (by decide) (mc_83 k _) rfl rfl rfl (by omega) rfl (Nat.le_of_ble_eq_true rfl) dX10_seek_62 65 rfl ?_
              show mm_AW z k 4 none F1 G16 65 [(0, .ref (mmad k 83)), (1, .int a1), (2, .int a2), (3, .int v12)] []
              refine mm_aload_n C dX10_seek_65 rfl 0 rfl 66 rfl ?_
              refine mm_iload_n C dX10_seek_66 rfl 2 rfl 67 rfl ?_
              obtain ⟨x17, G18, ex17, h⟩ := mb2 h
              refine mm_callV [.int a2] C (c_X10_turnToNextRow_83 ex17) wb_X10_turnToNextRow wv_X10_60 (by decide) (mc_83 k _) rfl rfl rfl (by omega) rfl (Nat.le_of_ble_eq_true rfl) dX10_seek_67 70 rfl ?_
              show mm_AW z k 4 none F1 G18 70 [(0, .ref (mmad k 83)), (1, .int a1), (2, .int a2), (3, .int v12)] [.int x17]
              refine mm_if_ne C dX10_seek_70 76 73 (by decide) rfl (fun hc => ?_) (fun hc => ?_)
              · rw [if_neg hc] at h
                obtain ⟨x19, ex19, h⟩ := me h
                refine mm_iinc (v := x19) (lv2 := [(3, .int x19), (0, .ref (mmad k 83)), (1, .int a1), (2, .int a2)]) C dX10_seek_76 3 rfl (by rw [← ex19]; rfl) (by decide) rfl 79 rfl ?_
                refine mm_goto C dX10_seek_79 46 (by decide) ?_
                refine mm_lv [1, 2, 3, 0] rfl ?_
                exact ih _ _ h
              · rw [if_pos hc] at h
                refine mm_goto C dX10_seek_73 82 (by decide) ?_
                refine mm_lv [] rfl ?_
                exact hK _ h
            · rw [if_neg hq87] at h
              by_cases hq89 : q15 = 89
              · rw [if_pos hq89] at h
                subst hq89
                obtain ⟨G20, eG20, h⟩ := mb h
                refine mm_callV [.ref (mmad k 89), .int a2, .int v12] C (c_X10_weigh_83_89 eG20) wb_X10_weigh wv_X10_56 (by decide) (mc_83 k _) rfl rfl rfl (by omega) rfl (Nat.le_of_ble_eq_true rfl) dX10_seek_62 65 rfl ?_
                show mm_AW z k 4 none F1 G20 65 [(0, .ref (mmad k 83)), (1, .int a1), (2, .int a2), (3, .int v12)] []
                refine mm_aload_n C dX10_seek_65 rfl 0 rfl 66 rfl ?_
                refine mm_iload_n C dX10_seek_66 rfl 2 rfl 67 rfl ?_
                obtain ⟨x21, G22, ex21, h⟩ := mb2 h
                refine mm_callV [.int a2] C (c_X10_turnToNextRow_83 ex21) wb_X10_turnToNextRow wv_X10_60 (by decide) (mc_83 k _) rfl rfl rfl (by omega) rfl (Nat.le_of_ble_eq_true rfl) dX10_seek_67 70 rfl ?_
                show mm_AW z k 4 none F1 G22 70 [(0, .ref (mmad k 83)), (1, .int a1), (2, .int a2), (3, .int v12)] [.int x21]
                refine mm_if_ne C dX10_seek_70 76 73 (by decide) rfl (fun hc => ?_) (fun hc => ?_)
                · rw [if_neg hc] at h
                  obtain ⟨x23, ex23, h⟩ := me h
                  refine mm_iinc (v := x23) (lv2 := [(3, .int x23), (0, .ref (mmad k 83)), (1, .int a1), (2, .int a2)]) C dX10_seek_76 3 rfl (by rw [← ex23]; rfl) (by decide) rfl 79 rfl ?_
                  refine mm_goto C dX10_seek_79 46 (by decide) ?_
                  refine mm_lv [1, 2, 3, 0] rfl ?_
                  exact ih _ _ h
                · rw [if_pos hc] at h
                  refine mm_goto C dX10_seek_73 82 (by decide) ?_
                  refine mm_lv [] rfl ?_
                  exact hK _ h
              · rw [if_neg hq89] at h
                by_cases hq91 : q15 = 91
                · rw [if_pos hq91] at h
                  subst hq91
                  obtain ⟨G24, eG24, h⟩ := mb h
                  refine mm_callV [.ref (mmad k 91), .int a2, .int v12] C (c_X10_weigh_83_91 eG24) wb_X10_weigh wv_X10_56 (by decide) (mc_83 k _) rfl rfl rfl (by omega) rfl (Nat.le_of_ble_eq_true rfl) dX10_seek_62 65 rfl ?_
                  show mm_AW z k 4 none F1 G24 65 [(0, .ref (mmad k 83)), (1, .int a1), (2, .int a2), (3, .int v12)] []
                  refine mm_aload_n C dX10_seek_65 rfl 0 rfl 66 rfl ?_
                  refine mm_iload_n C dX10_seek_66 rfl 2 rfl 67 rfl ?_
                  obtain ⟨x25, G26, ex25, h⟩ := mb2 h
                  refine mm_callV [.int a2] C (c_X10_turnToNextRow_83 ex25) wb_X10_turnToNextRow wv_X10_60 (by decide) (mc_83 k _) rfl rfl rfl (by omega) rfl (Nat.le_of_ble_eq_true rfl) dX10_seek_67 70 rfl ?_
                  show mm_AW z k 4 none F1 G26 70 [(0, .ref (mmad k 83)), (1, .int a1), (2, .int a2), (3, .int v12)] [.int x25]
                  refine mm_if_ne C dX10_seek_70 76 73 (by decide) rfl (fun hc => ?_) (fun hc => ?_)
                  · rw [if_neg hc] at h
                    obtain ⟨x27, ex27, h⟩ := me h
                    refine mm_iinc (v := x27) (lv2 := [(3, .int x27), (0, .ref (mmad k 83)), (1, .int a1), (2, .int a2)]) C dX10_seek_76 3 rfl (by rw [← ex27]; rfl) (by decide) rfl 79 rfl ?_
                    refine mm_goto C dX10_seek_79 46 (by decide) ?_
                    refine mm_lv [1, 2, 3, 0] rfl ?_
                    exact ih _ _ h
                  · rw [if_pos hc] at h
                    refine mm_goto C dX10_seek_73 82 (by decide) ?_
                    refine mm_lv [] rfl ?_
                    exact hK _ h
                · rw [if_neg hq91] at h
                  cases h
      refine mjE1 h (fun (G28 : mmS) => mm_AW z k 4 none F1 G28 82 [] []) ?_ ?_
      · intro G28 h
        exact mm_vretW C (h) dX10_seek_82
      · intro K2 hR hE h
        exact hL46 K2 hR hE 300 _ _ h
    · rw [if_neg hq87] at h
      by_cases hq89 : q10 = 89
      · rw [if_pos hq89] at h
        subst hq89
        obtain ⟨G29, eG29, h⟩ := mb h
        refine mm_callU [] C (c_X7_begin_89 eG29) wb_X7_begin wu_X10_53_X1 (fun s hN => hN.2.2.2.2) (by decide) (mc_89 k _) rfl rfl (by omega) rfl (Nat.le_of_ble_eq_true rfl) dX10_seek_41 44 rfl ?_
        show mm_AW z k 4 none F1 G29 44 [(0, .ref (mmad k 83)), (1, .int a1), (2, .int a2)] []
        refine mm_iconst (v := (0 : Int32)) C dX10_seek_44 (by decide) 45 rfl ?_
        refine mm_istore_n (lv2 := [(3, .int (0 : Int32)), (0, .ref (mmad k 83)), (1, .int a1), (2, .int a2)]) C dX10_seek_45 rfl (by decide) rfl 46 rfl ?_
        refine mm_lv [1, 2, 3, 0] rfl ?_
        have hL46 : ∀ (K : ((mmS) ⊕ (mmS)) → Option (mmS)) (hK : ∀ (G31 : mmS) , K (.inr (G31)) = some F1 → mm_AW z k 4 none F1 G31 82 [] []) (hE : ∀ q : mmS, K (.inl q) = some F1 → q = F1) (n32 : Nat) (v30 : Int32) (G31 : mmS) , (m_X10_seek_83_L46002 a1 a2 n32 v30 G31).bind K = some F1 → mm_AW z k 4 none F1 G31 46 [(0, .ref (mmad k 83)), (1, .int a1), (2, .int a2), (3, .int v30)] [] := by
          intro K hK hE n32
          induction n32 with
          | zero => intro v30 G31 h; rw [m_X10_seek_83_L46002] at h; cases h
          | succ n32 ih =>
            intro v30 G31 h
            rw [m_X10_seek_83_L46002] at h
            refine mm_iload_n C dX10_seek_46 rfl 3 rfl 47 rfl ?_
            refine mm_sipush (v := (216 : Int32)) C dX10_seek_47 (by decide) 50 rfl ?_
            refine mm_icmp_ge C dX10_seek_50 82 53 (by decide) rfl (fun hc => ?_) (fun hc => ?_)
            · rw [if_pos hc] at h
              refine mm_lv [] rfl ?_
              exact hK _ h
            · rw [if_neg hc] at h
              refine mm_aload_n C dX10_seek_53 rfl 0 rfl 54 rfl ?_
              refine mm_aload_n C dX10_seek_54 rfl 0 rfl 55 rfl ?_
              refine mm_get C fl_X10_43_X10 (by decide) (mc_83 k _) rfl dX10_seek_55 58 rfl ?_
              refine mm_iload_n C dX10_seek_58 rfl 1 rfl 59 rfl ?_
              obtain ⟨q33, eq33, h⟩ := mb h
              refine mm_aald (t0 := 2) C (by decide) (mc_86 k _) rfl rfl eq33 dX10_seek_59 60 rfl ?_
              refine mm_iload_n C dX10_seek_60 rfl 2 rfl 61 rfl ?_
              refine mm_iload_n C dX10_seek_61 rfl 3 rfl 62 rfl ?_
              by_cases hq87 : q33 = 87
              · rw [if_pos hq87] at h
                subst hq87
                obtain ⟨G34, eG34, h⟩ := mb h
                refine mm_callV [.ref (mmad k 87), .int a2, .int v30] C (c_X10_weigh_83_87 eG34) wb_X10_weigh wv_X10_56 (by decide) (mc_83 k _) rfl rfl rfl (by omega) rfl (Nat.le_of_ble_eq_true rfl) dX10_seek_62 65 rfl ?_
                show mm_AW z k 4 none F1 G34 65 [(0, .ref (mmad k 83)), (1, .int a1), (2, .int a2), (3, .int v30)] []
                refine mm_aload_n C dX10_seek_65 rfl 0 rfl 66 rfl ?_
                refine mm_iload_n C dX10_seek_66 rfl 2 rfl 67 rfl ?_
                obtain ⟨x35, G36, ex35, h⟩ := mb2 h
                refine mm_callV [.int a2] C (c_X10_turnToNextRow_83 ex35) wb_X10_turnToNextRow wv_X10_60 (by decide) (mc_83 k _) rfl rfl rfl (by omega) rfl (Nat.le_of_ble_eq_true rfl) dX10_seek_67 70 rfl ?_
                show mm_AW z k 4 none F1 G36 70 [(0, .ref (mmad k 83)), (1, .int a1), (2, .int a2), (3, .int v30)] [.int x35]
                refine mm_if_ne C dX10_seek_70 76 73 (by decide) rfl (fun hc => ?_) (fun hc => ?_)
                · rw [if_neg hc] at h
                  obtain ⟨x37, ex37, h⟩ := me h
                  refine mm_iinc (v := x37) (lv2 := [(3, .int x37), (0, .ref (mmad k 83)), (1, .int a1), (2, .int a2)]) C dX10_seek_76 3 rfl (by rw [← ex37]; rfl) (by decide) rfl 79 rfl ?_
                  refine mm_goto C dX10_seek_79 46 (by decide) ?_
                  refine mm_lv [1, 2, 3, 0] rfl ?_
                  exact ih _ _ h
                · rw [if_pos hc] at h
                  refine mm_goto C dX10_seek_73 82 (by decide) ?_
                  refine mm_lv [] rfl ?_
                  exact hK _ h
              · rw [if_neg hq87] at h
                by_cases hq89 : q33 = 89
                · rw [if_pos hq89] at h
                  subst hq89
                  obtain ⟨G38, eG38, h⟩ := mb h
                  refine mm_callV [.ref (mmad k 89), .int a2, .int v30] C (c_X10_weigh_83_89 eG38) wb_X10_weigh wv_X10_56 (by decide) (mc_83 k _) rfl rfl rfl (by omega) rfl (Nat.le_of_ble_eq_true rfl) dX10_seek_62 65 rfl ?_
                  show mm_AW z k 4 none F1 G38 65 [(0, .ref (mmad k 83)), (1, .int a1), (2, .int a2), (3, .int v30)] []
                  refine mm_aload_n C dX10_seek_65 rfl 0 rfl 66 rfl ?_
                  refine mm_iload_n C dX10_seek_66 rfl 2 rfl 67 rfl ?_
                  obtain ⟨x39, G40, ex39, h⟩ := mb2 h
                  refine mm_callV [.int a2] C (c_X10_turnToNextRow_83 ex39) wb_X10_turnToNextRow wv_X10_60 (by decide) (mc_83 k _) rfl rfl rfl (by omega) rfl (Nat.le_of_ble_eq_true rfl) dX10_seek_67 70 rfl ?_
                  show mm_AW z k 4 none F1 G40 70 [(0, .ref (mmad k 83)), (1, .int a1), (2, .int a2), (3, .int v30)] [.int x39]
                  refine mm_if_ne C dX10_seek_70 76 73 (by decide) rfl (fun hc => ?_) (fun hc => ?_)
                  · rw [if_neg hc] at h
                    obtain ⟨x41, ex41, h⟩ := me h
                    refine mm_iinc (v := x41) (lv2 := [(3, .int x41), (0, .ref (mmad k 83)), (1, .int a1), (2, .int a2)]) C dX10_seek_76 3 rfl (by rw [← ex41]; rfl) (by decide) rfl 79 rfl ?_
                    refine mm_goto C dX10_seek_79 46 (by decide) ?_
                    refine mm_lv [1, 2, 3, 0] rfl ?_
                    exact ih _ _ h
                  · rw [if_pos hc] at h
                    refine mm_goto C dX10_seek_73 82 (by decide) ?_
                    refine mm_lv [] rfl ?_
                    exact hK _ h
                · rw [if_neg hq89] at h
                  by_cases hq91 : q33 = 91
                  · rw [if_pos hq91] at h
                    subst hq91
                    obtain ⟨G42, eG42, h⟩ := mb h
                    refine mm_callV [.ref (mmad k 91), .int a2, .int v30] C (c_X10_weigh_83_91 eG42) wb_X10_weigh wv_X10_56 (by decide) (mc_83 k _) rfl rfl rfl (by omega) rfl (Nat.le_of_ble_eq_true rfl) dX10_seek_62 65 rfl ?_
                    show mm_AW z k 4 none F1 G42 65 [(0, .ref (mmad k 83)), (1, .int a1), (2, .int a2), (3, .int v30)] []
                    refine mm_aload_n C dX10_seek_65 rfl 0 rfl 66 rfl ?_
                    refine mm_iload_n C dX10_seek_66 rfl 2 rfl 67 rfl ?_
                    obtain ⟨x43, G44, ex43, h⟩ := mb2 h
                    refine mm_callV [.int a2] C (c_X10_turnToNextRow_83 ex43) wb_X10_turnToNextRow wv_X10_60 (by decide) (mc_83 k _) rfl rfl rfl (by omega) rfl (Nat.le_of_ble_eq_true rfl) dX10_seek_67 70 rfl ?_
                    show mm_AW z k 4 none F1 G44 70 [(0, .ref (mmad k 83)), (1, .int a1), (2, .int a2), (3, .int v30)] [.int x43]
                    refine mm_if_ne C dX10_seek_70 76 73 (by decide) rfl (fun hc => ?_) (fun hc => ?_)
                    · rw [if_neg hc] at h
                      obtain ⟨x45, ex45, h⟩ := me h
                      refine mm_iinc (v := x45) (lv2 := [(3, .int x45), (0, .ref (mmad k 83)), (1, .int a1), (2, .int a2)]) C dX10_seek_76 3 rfl (by rw [← ex45]; rfl) (by decide) rfl 79 rfl ?_
                      refine mm_goto C dX10_seek_79 46 (by decide) ?_
                      refine mm_lv [1, 2, 3, 0] rfl ?_
                      exact ih _ _ h
                    · rw [if_pos hc] at h
                      refine mm_goto C dX10_seek_73 82 (by decide) ?_
                      refine mm_lv [] rfl ?_
                      exact hK _ h
                  · rw [if_neg hq91] at h
                    cases h
        refine mjE1 h (fun (G46 : mmS) => mm_AW z k 4 none F1 G46 82 [] []) ?_ ?_
        · intro G46 h
          exact mm_vretW C (h) dX10_seek_82
        · intro K2 hR hE h
          exact hL46 K2 hR hE 300 _ _ h
      · rw [if_neg hq89] at h
        by_cases hq91 : q10 = 91
        · rw [if_pos hq91] at h
          subst hq91
          obtain ⟨G47, eG47, h⟩ := mb h
          refine mm_callU [] C (c_X9_begin_91 eG47) wb_X9_begin wu_X10_53_X9 (fun s hN => hN.2.2.2.2) (by decide) (mc_91 k _) rfl rfl (by omega) rfl (Nat.le_of_ble_eq_true rfl) dX10_seek_41 44 rfl ?_
          show mm_AW z k 4 none F1 G47 44 [(0, .ref (mmad k 83)), (1, .int a1), (2, .int a2)] []
          refine mm_iconst (v := (0 : Int32)) C dX10_seek_44 (by decide) 45 rfl ?_
          refine mm_istore_n (lv2 := [(3, .int (0 : Int32)), (0, .ref (mmad k 83)), (1, .int a1), (2, .int a2)]) C dX10_seek_45 rfl (by decide) rfl 46 rfl ?_
          refine mm_lv [1, 2, 3, 0] rfl ?_
          have hL46 : ∀ (K : ((mmS) ⊕ (mmS)) → Option (mmS)) (hK : ∀ (G49 : mmS) , K (.inr (G49)) = some F1 → mm_AW z k 4 none F1 G49 82 [] []) (hE : ∀ q : mmS, K (.inl q) = some F1 → q = F1) (n50 : Nat) (v48 : Int32) (G49 : mmS) , (m_X10_seek_83_L46003 a1 a2 n50 v48 G49).bind K = some F1 → mm_AW z k 4 none F1 G49 46 [(0, .ref (mmad k 83)), (1, .int a1), (2, .int a2), (3, .int v48)] [] := by
            intro K hK hE n50
            induction n50 with
            | zero => intro v48 G49 h; rw [m_X10_seek_83_L46003] at h; cases h
            | succ n50 ih =>
              intro v48 G49 h
              rw [m_X10_seek_83_L46003] at h
              refine mm_iload_n C dX10_seek_46 rfl 3 rfl 47 rfl ?_
              refine mm_sipush (v := (216 : Int32)) C dX10_seek_47 (by decide) 50 rfl ?_
              refine mm_icmp_ge C dX10_seek_50 82 53 (by decide) rfl (fun hc => ?_) (fun hc => ?_)
              · rw [if_pos hc] at h
                refine mm_lv [] rfl ?_
                exact hK _ h
              · rw [if_neg hc] at h
                refine mm_aload_n C dX10_seek_53 rfl 0 rfl 54 rfl ?_
                refine mm_aload_n C dX10_seek_54 rfl 0 rfl 55 rfl ?_
                refine mm_get C fl_X10_43_X10 (by decide) (mc_83 k _) rfl dX10_seek_55 58 rfl ?_
                refine mm_iload_n C dX10_seek_58 rfl 1 rfl 59 rfl ?_
                obtain ⟨q51, eq51, h⟩ := mb h
                refine mm_aald (t0 := 2) C (by decide) (mc_86 k _) rfl rfl eq51 dX10_seek_59 60 rfl ?_
                refine mm_iload_n C dX10_seek_60 rfl 2 rfl 61 rfl ?_
                refine mm_iload_n C dX10_seek_61 rfl 3 rfl 62 rfl ?_
                by_cases hq87 : q51 = 87
                · rw [if_pos hq87] at h
                  subst hq87
                  obtain ⟨G52, eG52, h⟩ := mb h
                  refine mm_callV [.ref (mmad k 87), .int a2, .int v48] C (c_X10_weigh_83_87 eG52) wb_X10_weigh wv_X10_56 (by decide) (mc_83 k _) rfl rfl rfl (by omega) rfl (Nat.le_of_ble_eq_true rfl) dX10_seek_62 65 rfl ?_
                  show mm_AW z k 4 none F1 G52 65 [(0, .ref (mmad k 83)), (1, .int a1), (2, .int a2), (3, .int v48)] []
                  refine mm_aload_n C dX10_seek_65 rfl 0 rfl 66 rfl ?_
                  refine mm_iload_n C dX10_seek_66 rfl 2 rfl 67 rfl ?_
                  obtain ⟨x53, G54, ex53, h⟩ := mb2 h
                  refine mm_callV [.int a2] C (c_X10_turnToNextRow_83 ex53) wb_X10_turnToNextRow wv_X10_60 (by decide) (mc_83 k _) rfl rfl rfl (by omega) rfl (Nat.le_of_ble_eq_true rfl) dX10_seek_67 70 rfl ?_
                  show mm_AW z k 4 none F1 G54 70 [(0, .ref (mmad k 83)), (1, .int a1), (2, .int a2), (3, .int v48)] [.int x53]
                  refine mm_if_ne C dX10_seek_70 76 73 (by decide) rfl (fun hc => ?_) (fun hc => ?_)
                  · rw [if_neg hc] at h
                    obtain ⟨x55, ex55, h⟩ := me h
                    refine mm_iinc (v := x55) (lv2 := [(3, .int x55), (0, .ref (mmad k 83)), (1, .int a1), (2, .int a2)]) C dX10_seek_76 3 rfl (by rw [← ex55]; rfl) (by decide) rfl 79 rfl ?_
                    refine mm_goto C dX10_seek_79 46 (by decide) ?_
                    refine mm_lv [1, 2, 3, 0] rfl ?_
                    exact ih _ _ h
                  · rw [if_pos hc] at h
                    refine mm_goto C dX10_seek_73 82 (by decide) ?_
                    refine mm_lv [] rfl ?_
                    exact hK _ h
                · rw [if_neg hq87] at h
                  by_cases hq89 : q51 = 89
                  · rw [if_pos hq89] at h
                    subst hq89
                    obtain ⟨G56, eG56, h⟩ := mb h
                    refine mm_callV [.ref (mmad k 89), .int a2, .int v48] C (c_X10_weigh_83_89 eG56) wb_X10_weigh wv_X10_56 (by decide) (mc_83 k _) rfl rfl rfl (by omega) rfl (Nat.le_of_ble_eq_true rfl) dX10_seek_62 65 rfl ?_
                    show mm_AW z k 4 none F1 G56 65 [(0, .ref (mmad k 83)), (1, .int a1), (2, .int a2), (3, .int v48)] []
                    refine mm_aload_n C dX10_seek_65 rfl 0 rfl 66 rfl ?_
                    refine mm_iload_n C dX10_seek_66 rfl 2 rfl 67 rfl ?_
                    obtain ⟨x57, G58, ex57, h⟩ := mb2 h
                    refine mm_callV [.int a2] C (c_X10_turnToNextRow_83 ex57) wb_X10_turnToNextRow wv_X10_60 (by decide) (mc_83 k _) rfl rfl rfl (by omega) rfl (Nat.le_of_ble_eq_true rfl) dX10_seek_67 70 rfl ?_
                    show mm_AW z k 4 none F1 G58 70 [(0, .ref (mmad k 83)), (1, .int a1), (2, .int a2), (3, .int v48)] [.int x57]
                    refine mm_if_ne C dX10_seek_70 76 73 (by decide) rfl (fun hc => ?_) (fun hc => ?_)
                    · rw [if_neg hc] at h
                      obtain ⟨x59, ex59, h⟩ := me h
                      refine mm_iinc (v := x59) (lv2 := [(3, .int x59), (0, .ref (mmad k 83)), (1, .int a1), (2, .int a2)]) C dX10_seek_76 3 rfl (by rw [← ex59]; rfl) (by decide) rfl 79 rfl ?_
                      refine mm_goto C dX10_seek_79 46 (by decide) ?_
                      refine mm_lv [1, 2, 3, 0] rfl ?_
                      exact ih _ _ h
                    · rw [if_pos hc] at h
                      refine mm_goto C dX10_seek_73 82 (by decide) ?_
                      refine mm_lv [] rfl ?_
                      exact hK _ h
                  · rw [if_neg hq89] at h
                    by_cases hq91 : q51 = 91
                    · rw [if_pos hq91] at h
                      subst hq91
                      obtain ⟨G60, eG60, h⟩ := mb h
                      refine mm_callV [.ref (mmad k 91), .int a2, .int v48] C (c_X10_weigh_83_91 eG60) wb_X10_weigh wv_X10_56 (by decide) (mc_83 k _) rfl rfl rfl (by omega) rfl (Nat.le_of_ble_eq_true rfl) dX10_seek_62 65 rfl ?_
                      show mm_AW z k 4 none F1 G60 65 [(0, .ref (mmad k 83)), (1, .int a1), (2, .int a2), (3, .int v48)] []
                      refine mm_aload_n C dX10_seek_65 rfl 0 rfl 66 rfl ?_
                      refine mm_iload_n C dX10_seek_66 rfl 2 rfl 67 rfl ?_
                      obtain ⟨x61, G62, ex61, h⟩ := mb2 h
                      refine mm_callV [.int a2] C (c_X10_turnToNextRow_83 ex61) wb_X10_turnToNextRow wv_X10_60 (by decide) (mc_83 k _) rfl rfl rfl (by omega) rfl (Nat.le_of_ble_eq_true rfl) dX10_seek_67 70 rfl ?_
                      show mm_AW z k 4 none F1 G62 70 [(0, .ref (mmad k 83)), (1, .int a1), (2, .int a2), (3, .int v48)] [.int x61]
                      refine mm_if_ne C dX10_seek_70 76 73 (by decide) rfl (fun hc => ?_) (fun hc => ?_)
                      · rw [if_neg hc] at h
                        obtain ⟨x63, ex63, h⟩ := me h
                        refine mm_iinc (v := x63) (lv2 := [(3, .int x63), (0, .ref (mmad k 83)), (1, .int a1), (2, .int a2)]) C dX10_seek_76 3 rfl (by rw [← ex63]; rfl) (by decide) rfl 79 rfl ?_
                        refine mm_goto C dX10_seek_79 46 (by decide) ?_
                        refine mm_lv [1, 2, 3, 0] rfl ?_
                        exact ih _ _ h
                      · rw [if_pos hc] at h
                        refine mm_goto C dX10_seek_73 82 (by decide) ?_
                        refine mm_lv [] rfl ?_
                        exact hK _ h
                    · rw [if_neg hq91] at h
                      cases h
          refine mjE1 h (fun (G64 : mmS) => mm_AW z k 4 none F1 G64 82 [] []) ?_ ?_
          · intro G64 h
            exact mm_vretW C (h) dX10_seek_82
          · intro K2 hR hE h
            exact hL46 K2 hR hE 300 _ _ h
        · rw [if_neg hq91] at h
          cases h
  · intro K2 hR h
    exact hL17 K2 hR 300 _ _ h
def m_X11_worst_0 (F : mmS) (a1 : Int32) (a2 : Int32) : Option (Int32 × mmS) :=
  Option.bind (m_X11_isWithin a1 (0 : Int32) (2 : Int32)) fun x1 => if x1 = (0 : Int32) then (some ((-2 : Int32), F)) else (Option.bind (m_X11_isWithin a2 (1 : Int32) (3 : Int32)) fun x2 => if x2 = (0 : Int32) then (some ((-2 : Int32), F)) else (Option.bind (m_X10_seek_83 F a1 a2) fun G3 => some ((G3 83 4), G3)))
set_option maxHeartbeats 4000000 in
set_option maxRecDepth 100000 in
theorem c_X11_worst_0 {l : Launch} {k : mmK} {F : mmS} {a1 : Int32} {a2 : Int32} {r : Int32} {F1 : mmS} (h : m_X11_worst_0 F a1 a2 = some (r, F1)) : mm_T l k yX11_worst cX11_worst 3 (some .int) 12 [.ref (mmad k 0), .int a1, .int a2] F (some (.int r)) F1 := by
  refine mm_start [(0, .ref (mmad k 0)), (1, .int a1), (2, .int a2)] (by decide) (Nat.le_of_ble_eq_true rfl) rfl ?_
  intro z hz C
  subst hz
  have C : mm_C z k RX11 cX11_worst 3 (some .int) 12 := C
  replace h := mk0 h
  unfold m_X11_worst_0 at h
  refine mm_iload_n C dX11_worst_0 rfl 1 rfl 1 rfl ?_
  refine mm_iconst (v := (0 : Int32)) C dX11_worst_1 (by decide) 2 rfl ?_
  refine mm_iconst (v := (2 : Int32)) C dX11_worst_2 (by decide) 3 rfl ?_
  obtain ⟨x1, ex1, h⟩ := mb h
  refine mm_callS [.int a1, .int (0 : Int32), .int (2 : Int32)] C (c_X11_isWithin ex1) wb_X11_isWithin ws_X11_85 rfl (by omega) rfl (Nat.le_of_ble_eq_true rfl) dX11_worst_3 6 rfl ?_
  show mm_AW z k 3 (some (.int r)) F1 F 6 [(0, .ref (mmad k 0)), (1, .int a1), (2, .int a2)] [.int x1]
  refine mm_if_eq C dX11_worst_6 18 9 (by decide) rfl (fun hc => ?_) (fun hc => ?_)
  · rw [if_pos hc] at h
    refine mm_bipush (v := (-2 : Int32)) C dX11_worst_18 (by decide) 20 rfl ?_
    exact mm_iretW C (h) dX11_worst_20
  · rw [if_neg hc] at h
    refine mm_iload_n C dX11_worst_9 rfl 2 rfl 10 rfl ?_
    refine mm_iconst (v := (1 : Int32)) C dX11_worst_10 (by decide) 11 rfl ?_
    refine mm_iconst (v := (3 : Int32)) C dX11_worst_11 (by decide) 12 rfl ?_
    obtain ⟨x2, ex2, h⟩ := mb h
    refine mm_callS [.int a2, .int (1 : Int32), .int (3 : Int32)] C (c_X11_isWithin ex2) wb_X11_isWithin ws_X11_85 rfl (by omega) rfl (Nat.le_of_ble_eq_true rfl) dX11_worst_12 15 rfl ?_
    show mm_AW z k 3 (some (.int r)) F1 F 15 [(0, .ref (mmad k 0)), (1, .int a1), (2, .int a2)] [.int x2]
    refine mm_if_ne C dX11_worst_15 21 18 (by decide) rfl (fun hc => ?_) (fun hc => ?_)
    · rw [if_neg hc] at h
      refine mm_aload_n C dX11_worst_21 rfl 0 rfl 22 rfl ?_
      refine mm_get C fl_X11_81_X11 (by decide) (mc_0 k _) rfl dX11_worst_22 25 rfl ?_
      refine mm_iload_n C dX11_worst_25 rfl 1 rfl 26 rfl ?_
      refine mm_iload_n C dX11_worst_26 rfl 2 rfl 27 rfl ?_
      obtain ⟨G3, eG3, h⟩ := mb h
      refine mm_callV [.int a1, .int a2] C (c_X10_seek_83 eG3) wb_X10_seek wv_X11_163 (by decide) (mc_83 k _) rfl rfl rfl (by omega) rfl (Nat.le_of_ble_eq_true rfl) dX11_worst_27 30 rfl ?_
      show mm_AW z k 3 (some (.int r)) F1 G3 30 [(0, .ref (mmad k 0)), (1, .int a1), (2, .int a2)] []
      refine mm_aload_n C dX11_worst_30 rfl 0 rfl 31 rfl ?_
      refine mm_get C fl_X11_81_X11 (by decide) (mc_0 k _) rfl dX11_worst_31 34 rfl ?_
      refine mm_get C fl_X11_167_X10 (by decide) (mc_83 k _) rfl dX11_worst_34 37 rfl ?_
      exact mm_iretW C (h) dX11_worst_37
    · rw [if_pos hc] at h
      refine mm_bipush (v := (-2 : Int32)) C dX11_worst_18 (by decide) 20 rfl ?_
      exact mm_iretW C (h) dX11_worst_20
def m_X11_worstShare_0 (F : mmS) (a1 : Int32) (a2 : Int32) : Option (Int32 × mmS) :=
  Option.bind (m_X11_isWithin a1 (0 : Int32) (2 : Int32)) fun x1 => if x1 = (0 : Int32) then (some ((-2 : Int32), F)) else (Option.bind (m_X11_isWithin a2 (1 : Int32) (3 : Int32)) fun x2 => if x2 = (0 : Int32) then (some ((-2 : Int32), F)) else (Option.bind (m_X10_seek_83 F a1 a2) fun G3 => Option.bind (m_X11_hundredths (G3 83 5) (G3 83 6)) fun x4 => some (x4, G3)))
set_option maxHeartbeats 4000000 in
set_option maxRecDepth 100000 in
theorem c_X11_worstShare_0 {l : Launch} {k : mmK} {F : mmS} {a1 : Int32} {a2 : Int32} {r : Int32} {F1 : mmS} (h : m_X11_worstShare_0 F a1 a2 = some (r, F1)) : mm_T l k yX11_worstShare cX11_worstShare 3 (some .int) 12 [.ref (mmad k 0), .int a1, .int a2] F (some (.int r)) F1 := by
  refine mm_start [(0, .ref (mmad k 0)), (1, .int a1), (2, .int a2)] (by decide) (Nat.le_of_ble_eq_true rfl) rfl ?_
  intro z hz C
  subst hz
  have C : mm_C z k RX11 cX11_worstShare 3 (some .int) 12 := C
  replace h := mk0 h
  unfold m_X11_worstShare_0 at h
  refine mm_iload_n C dX11_worstShare_0 rfl 1 rfl 1 rfl ?_
  refine mm_iconst (v := (0 : Int32)) C dX11_worstShare_1 (by decide) 2 rfl ?_
  refine mm_iconst (v := (2 : Int32)) C dX11_worstShare_2 (by decide) 3 rfl ?_
  obtain ⟨x1, ex1, h⟩ := mb h
  refine mm_callS [.int a1, .int (0 : Int32), .int (2 : Int32)] C (c_X11_isWithin ex1) wb_X11_isWithin ws_X11_85 rfl (by omega) rfl (Nat.le_of_ble_eq_true rfl) dX11_worstShare_3 6 rfl ?_
  show mm_AW z k 3 (some (.int r)) F1 F 6 [(0, .ref (mmad k 0)), (1, .int a1), (2, .int a2)] [.int x1]
  refine mm_if_eq C dX11_worstShare_6 18 9 (by decide) rfl (fun hc => ?_) (fun hc => ?_)
  · rw [if_pos hc] at h
    refine mm_bipush (v := (-2 : Int32)) C dX11_worstShare_18 (by decide) 20 rfl ?_
    exact mm_iretW C (h) dX11_worstShare_20
  · rw [if_neg hc] at h
    refine mm_iload_n C dX11_worstShare_9 rfl 2 rfl 10 rfl ?_
    refine mm_iconst (v := (1 : Int32)) C dX11_worstShare_10 (by decide) 11 rfl ?_
    refine mm_iconst (v := (3 : Int32)) C dX11_worstShare_11 (by decide) 12 rfl ?_
    obtain ⟨x2, ex2, h⟩ := mb h
    refine mm_callS [.int a2, .int (1 : Int32), .int (3 : Int32)] C (c_X11_isWithin ex2) wb_X11_isWithin ws_X11_85 rfl (by omega) rfl (Nat.le_of_ble_eq_true rfl) dX11_worstShare_12 15 rfl ?_
    show mm_AW z k 3 (some (.int r)) F1 F 15 [(0, .ref (mmad k 0)), (1, .int a1), (2, .int a2)] [.int x2]
    refine mm_if_ne C dX11_worstShare_15 21 18 (by decide) rfl (fun hc => ?_) (fun hc => ?_)
    · rw [if_neg hc] at h
      refine mm_aload_n C dX11_worstShare_21 rfl 0 rfl 22 rfl ?_
      refine mm_get C fl_X11_81_X11 (by decide) (mc_0 k _) rfl dX11_worstShare_22 25 rfl ?_
      refine mm_iload_n C dX11_worstShare_25 rfl 1 rfl 26 rfl ?_
      refine mm_iload_n C dX11_worstShare_26 rfl 2 rfl 27 rfl ?_
      obtain ⟨G3, eG3, h⟩ := mb h
      refine mm_callV [.int a1, .int a2] C (c_X10_seek_83 eG3) wb_X10_seek wv_X11_163 (by decide) (mc_83 k _) rfl rfl rfl (by omega) rfl (Nat.le_of_ble_eq_true rfl) dX11_worstShare_27 30 rfl ?_
      show mm_AW z k 3 (some (.int r)) F1 G3 30 [(0, .ref (mmad k 0)), (1, .int a1), (2, .int a2)] []
      refine mm_aload_n C dX11_worstShare_30 rfl 0 rfl 31 rfl ?_
      refine mm_get C fl_X11_81_X11 (by decide) (mc_0 k _) rfl dX11_worstShare_31 34 rfl ?_
      refine mm_get C fl_X11_170_X10 (by decide) (mc_83 k _) rfl dX11_worstShare_34 37 rfl ?_
      refine mm_aload_n C dX11_worstShare_37 rfl 0 rfl 38 rfl ?_
      refine mm_get C fl_X11_81_X11 (by decide) (mc_0 k _) rfl dX11_worstShare_38 41 rfl ?_
      refine mm_get C fl_X11_173_X10 (by decide) (mc_83 k _) rfl dX11_worstShare_41 44 rfl ?_
      obtain ⟨x4, ex4, h⟩ := mb h
      refine mm_callS [.int (G3 83 5), .int (G3 83 6)] C (c_X11_hundredths ex4) wb_X11_hundredths ws_X11_145 rfl (by omega) rfl (Nat.le_of_ble_eq_true rfl) dX11_worstShare_44 47 rfl ?_
      show mm_AW z k 3 (some (.int r)) F1 G3 47 [(0, .ref (mmad k 0)), (1, .int a1), (2, .int a2)] [.int x4]
      exact mm_iretW C (h) dX11_worstShare_47
    · rw [if_pos hc] at h
      refine mm_bipush (v := (-2 : Int32)) C dX11_worstShare_18 (by decide) 20 rfl ?_
      exact mm_iretW C (h) dX11_worstShare_20
def m_X7_standAtStart_81_L2 : Nat → Int32 → mmS → Option (mmS)
  | 0, _, _ => none
  | n3 + 1, v1, G2 => if (3 : Int32) ≤ v1 then (some ((G2))) else (Option.bind (ald G2 3 v1) fun x4 => Option.bind (ald G2 2 x4) fun x5 => Option.bind (ast G2 82 v1 x5) fun G6 => mlet (v1 + (1 : Int32)) fun x7 => m_X7_standAtStart_81_L2 n3 x7 G6)
def m_X7_standAtStart_81 (F : mmS)  : Option (mmS) :=
  bd1 (m_X7_standAtStart_81_L2 300 (0 : Int32) F) fun G8 => mlet (stF G8 81 2 (0 : Int32)) fun G9 => mlet (stF G9 81 3 (-1 : Int32)) fun G10 => some G10
set_option maxHeartbeats 4000000 in
set_option maxRecDepth 100000 in
theorem c_X7_standAtStart_81 {l : Launch} {k : mmK} {F : mmS}  {F1 : mmS} (h : m_X7_standAtStart_81 F = some F1) : mm_T l k yX7_standAtStart cX7_standAtStart 2 none 0 [.ref (mmad k 81)] F none F1 := by
  refine mm_start [(0, .ref (mmad k 81))] (by decide) (Nat.le_of_ble_eq_true rfl) rfl ?_
  intro z hz C
  subst hz
  have C : mm_C z k RX7 cX7_standAtStart 2 none 0 := C
  replace h := mk0 h
  unfold m_X7_standAtStart_81 at h
  refine mm_iconst (v := (0 : Int32)) C dX7_standAtStart_0 (by decide) 1 rfl ?_
  refine mm_istore_n (lv2 := [(1, .int (0 : Int32)), (0, .ref (mmad k 81))]) C dX7_standAtStart_1 rfl (by decide) rfl 2 rfl ?_
  refine mm_lv [1, 0] rfl ?_
  have hL2 : ∀ (K : (mmS) → Option (mmS)) (hK : ∀ (G2 : mmS) , K (G2) = some F1 → mm_AW z k 2 none F1 G2 36 [(0, .ref (mmad k 81))] []) (n3 : Nat) (v1 : Int32) (G2 : mmS) , (m_X7_standAtStart_81_L2 n3 v1 G2).bind K = some F1 → mm_AW z k 2 none F1 G2 2 [(0, .ref (mmad k 81)), (1, .int v1)] [] := by
    intro K hK n3
    induction n3 with
    | zero => intro v1 G2 h; rw [m_X7_standAtStart_81_L2] at h; cases h
    | succ n3 ih =>
      intro v1 G2 h
      rw [m_X7_standAtStart_81_L2] at h
      refine mm_iload_n C dX7_standAtStart_2 rfl 1 rfl 3 rfl ?_
      refine mm_iconst (v := (3 : Int32)) C dX7_standAtStart_3 (by decide) 4 rfl ?_
      refine mm_icmp_ge C dX7_standAtStart_4 36 7 (by decide) rfl (fun hc => ?_) (fun hc => ?_)
      · rw [if_pos hc] at h
        refine mm_lv [0] rfl ?_
        exact hK _ h
      · rw [if_neg hc] at h
        refine mm_aload_n C dX7_standAtStart_7 rfl 0 rfl 8 rfl ?_
        refine mm_get C fl_X7_9_X1 (by decide) (mc_81 k _) rfl dX7_standAtStart_8 11 rfl ?_
        refine mm_iload_n C dX7_standAtStart_11 rfl 1 rfl 12 rfl ?_
        refine mm_aload_n C dX7_standAtStart_12 rfl 0 rfl 13 rfl ?_
        refine mm_get C fl_X7_19_X1 (by decide) (mc_81 k _) rfl dX7_standAtStart_13 16 rfl ?_
        refine mm_get C fl_X7_26_X3 (by decide) (mc_1 k _) rfl dX7_standAtStart_16 19 rfl ?_
        refine mm_aload_n C dX7_standAtStart_19 rfl 0 rfl 20 rfl ?_
        refine mm_get C fl_X7_19_X1 (by decide) (mc_81 k _) rfl dX7_standAtStart_20 23 rfl ?_
        refine mm_get C fl_X7_31_X3 (by decide) (mc_1 k _) rfl dX7_standAtStart_23 26 rfl ?_
        refine mm_iload_n C dX7_standAtStart_26 rfl 1 rfl 27 rfl ?_
        obtain ⟨x4, ex4, h⟩ := mb h
        refine mm_iald C ex4 dX7_standAtStart_27 28 rfl ?_
        obtain ⟨x5, ex5, h⟩ := mb h
        refine mm_iald C ex5 dX7_standAtStart_28 29 rfl ?_
        obtain ⟨G6, eG6, h⟩ := mb h
        refine mm_iast C eG6 dX7_standAtStart_29 30 rfl ?_
        obtain ⟨x7, ex7, h⟩ := me h
        refine mm_iinc (v := x7) (lv2 := [(1, .int x7), (0, .ref (mmad k 81))]) C dX7_standAtStart_30 1 rfl (by rw [← ex7]; rfl) (by decide) rfl 33 rfl ?_
        refine mm_goto C dX7_standAtStart_33 2 (by decide) ?_
        refine mm_lv [1, 0] rfl ?_
        exact ih _ _ h
  refine mj1 h (fun (G8 : mmS) => mm_AW z k 2 none F1 G8 36 [(0, .ref (mmad k 81))] []) ?_ ?_
  · intro G8 h
    refine mm_aload_n C dX7_standAtStart_36 rfl 0 rfl 37 rfl ?_
    refine mm_iconst (v := (0 : Int32)) C dX7_standAtStart_37 (by decide) 38 rfl ?_
    obtain ⟨G9, eG9, h⟩ := me h
    refine mm_put (x := (0 : Int32)) (ty := .int) C fl_X7_34_X1 (by decide) (mc_81 k _) (mc_81 k _) tyX1 tyX1_ok nmX1 rfl (by decide +kernel) rfl rfl (Nat.le_of_ble_eq_true rfl) eG9 dX7_standAtStart_38 41 rfl ?_
    refine mm_aload_n C dX7_standAtStart_41 rfl 0 rfl 42 rfl ?_
    refine mm_iconst (v := (-1 : Int32)) C dX7_standAtStart_42 (by decide) 43 rfl ?_
    obtain ⟨G10, eG10, h⟩ := me h
    refine mm_put (x := (-1 : Int32)) (ty := .int) C fl_X7_15_X1 (by decide) (mc_81 k _) (mc_81 k _) tyX1 tyX1_ok nmX1 rfl (by decide +kernel) rfl rfl (Nat.le_of_ble_eq_true rfl) eG10 dX7_standAtStart_43 46 rfl ?_
    exact mm_vretW C (h) dX7_standAtStart_46
  · intro K2 hR h
    exact hL2 K2 hR 300 _ _ h
def m_X7_begin_81 (F : mmS)  : Option (mmS) :=
  Option.bind (m_X7_standAtStart_81 F) fun G1 => some G1
set_option maxHeartbeats 4000000 in
set_option maxRecDepth 100000 in
theorem c_X7_begin_81 {l : Launch} {k : mmK} {F : mmS}  {F1 : mmS} (h : m_X7_begin_81 F = some F1) : mm_T l k yX7_begin cX7_begin 1 none 1 [.ref (mmad k 81)] F none F1 := by
  refine mm_start [(0, .ref (mmad k 81))] (by decide) (Nat.le_of_ble_eq_true rfl) rfl ?_
  intro z hz C
  subst hz
  have C : mm_C z k RX7 cX7_begin 1 none 1 := C
  replace h := mk0 h
  unfold m_X7_begin_81 at h
  refine mm_aload_n C dX7_begin_0 rfl 0 rfl 1 rfl ?_
  obtain ⟨G1, eG1, h⟩ := mb h
  refine mm_callU [] C (c_X7_standAtStart_81 eG1) wb_X7_standAtStart wu_X7_23_X1 (fun s hN => hN.2.1) (by decide) (mc_81 k _) rfl rfl (by omega) rfl (Nat.le_of_ble_eq_true rfl) dX7_begin_1 4 rfl ?_
  show mm_AW z k 1 none F1 G1 4 [(0, .ref (mmad k 81))] []
  exact mm_vretW C (h) dX7_begin_4
def m_X1_isServed_81_L2 (a1 : Int32) (F : mmS) : Nat → Int32 → Option ((Int32) ⊕ (Unit))
  | 0, _ => none
  | n2 + 1, v1 => if (F 1 1) ≤ v1 then (some (.inr ())) else (Option.bind (ald F 82 v1) fun x3 => if x3 = a1 then (Option.bind (zg (1 : Int32)) fun x5 => some (.inl x5)) else (mlet (v1 + (1 : Int32)) fun x4 => m_X1_isServed_81_L2 a1 F n2 x4))
def m_X1_isServed_81 (F : mmS) (a1 : Int32) : Option (Int32) :=
  bdE0 (m_X1_isServed_81_L2 a1 F 300 (0 : Int32)) fun _ => Option.bind (zg (0 : Int32)) fun x6 => some (x6)
set_option maxHeartbeats 4000000 in
set_option maxRecDepth 100000 in
theorem c_X1_isServed_81 {l : Launch} {k : mmK} {F : mmS} {a1 : Int32} {r : Int32} (h : m_X1_isServed_81 F a1 = some r) : mm_T l k yX1_isServed cX1_isServed 3 (some .boolean) 0 [.ref (mmad k 81), .int a1] F (some (.int r)) F := by
  refine mm_start [(0, .ref (mmad k 81)), (1, .int a1)] (by decide) (Nat.le_of_ble_eq_true rfl) rfl ?_
  intro z hz C
  subst hz
  have C : mm_C z k RX1 cX1_isServed 3 (some .boolean) 0 := C
  replace h := mk0 h
  unfold m_X1_isServed_81 at h
  refine mm_iconst (v := (0 : Int32)) C dX1_isServed_0 (by decide) 1 rfl ?_
  refine mm_istore_n (lv2 := [(2, .int (0 : Int32)), (0, .ref (mmad k 81)), (1, .int a1)]) C dX1_isServed_1 rfl (by decide) rfl 2 rfl ?_
  refine mm_lv [1, 2, 0] rfl ?_
  have hL2 : ∀ (K : ((Int32) ⊕ (Unit)) → Option (Int32)) (hK : K (.inr ()) = some r → mm_AW z k 3 (some (.int r)) F F 31 [] []) (hE : ∀ q : Int32, K (.inl q) = some r → q = r) (n2 : Nat) (v1 : Int32) , (m_X1_isServed_81_L2 a1 F n2 v1).bind K = some r → mm_AW z k 3 (some (.int r)) F F 2 [(0, .ref (mmad k 81)), (1, .int a1), (2, .int v1)] [] := by
    intro K hK hE n2
    induction n2 with
    | zero => intro v1 h; rw [m_X1_isServed_81_L2] at h; cases h
    | succ n2 ih =>
      intro v1 h
      rw [m_X1_isServed_81_L2] at h
      refine mm_iload_n C dX1_isServed_2 rfl 2 rfl 3 rfl ?_
      refine mm_aload_n C dX1_isServed_3 rfl 0 rfl 4 rfl ?_
      refine mm_get C fl_X1_9_X1 (by decide) (mc_81 k _) rfl dX1_isServed_4 7 rfl ?_
      refine mm_get C fl_X1_49_X3 (by decide) (mc_1 k _) rfl dX1_isServed_7 10 rfl ?_
      refine mm_icmp_ge C dX1_isServed_10 31 13 (by decide) rfl (fun hc => ?_) (fun hc => ?_)
      · rw [if_pos hc] at h
        refine mm_lv [] rfl ?_
        exact hK h
      · rw [if_neg hc] at h
        refine mm_aload_n C dX1_isServed_13 rfl 0 rfl 14 rfl ?_
        refine mm_get C fl_X1_36_X1 (by decide) (mc_81 k _) rfl dX1_isServed_14 17 rfl ?_
        refine mm_iload_n C dX1_isServed_17 rfl 2 rfl 18 rfl ?_
        obtain ⟨x3, ex3, h⟩ := mb h
        refine mm_iald C ex3 dX1_isServed_18 19 rfl ?_
        refine mm_iload_n C dX1_isServed_19 rfl 1 rfl 20 rfl ?_
        refine mm_icmp_ne C dX1_isServed_20 25 23 (by decide) rfl (fun hc => ?_) (fun hc => ?_)
        · rw [if_neg hc] at h
          obtain ⟨x4, ex4, h⟩ := me h
          refine mm_iinc (v := x4) (lv2 := [(2, .int x4), (0, .ref (mmad k 81)), (1, .int a1)]) C dX1_isServed_25 2 rfl (by rw [← ex4]; rfl) (by decide) rfl 28 rfl ?_
          refine mm_goto C dX1_isServed_28 2 (by decide) ?_
          refine mm_lv [1, 2, 0] rfl ?_
          exact ih _ h
        · rw [if_pos hc] at h
          refine mm_iconst (v := (1 : Int32)) C dX1_isServed_23 (by decide) 24 rfl ?_
          obtain ⟨x5, ex5, h⟩ := mb h
          exact mm_zretP C ex5 (congrArg some (hE _ h)) dX1_isServed_24
  refine mjE0 h (mm_AW z k 3 (some (.int r)) F F 31 [] []) ?_ ?_
  · intro  h
    refine mm_iconst (v := (0 : Int32)) C dX1_isServed_31 (by decide) 32 rfl ?_
    obtain ⟨x6, ex6, h⟩ := mb h
    exact mm_zretP C ex6 (h) dX1_isServed_32
  · intro K2 hR hE h
    exact hL2 K2 hR hE 300 _ h
def m_X1_nearestBelow_81_L4 (a1 : Int32) (F : mmS) : Nat → Int32 → Int32 → Option (Int32)
  | 0, _, _ => none
  | n3 + 1, v1, v2 => if (F 1 1) ≤ v2 then (some ((v1))) else (Option.bind (ald F 82 v2) fun x4 => bd1 (if a1 ≤ x4 then (some (v1)) else (if v1 = (-1 : Int32) then (some (v2)) else (Option.bind (ald F 82 v2) fun x5 => Option.bind (ald F 82 v1) fun x6 => if x5 ≤ x6 then (some (v1)) else (some (v2))))) fun y7 => mlet (v2 + (1 : Int32)) fun x8 => m_X1_nearestBelow_81_L4 a1 F n3 y7 x8)
def m_X1_nearestBelow_81 (F : mmS) (a1 : Int32) : Option (Int32) :=
  bd1 (m_X1_nearestBelow_81_L4 a1 F 300 (-1 : Int32) (0 : Int32)) fun y9 => some y9
set_option maxHeartbeats 4000000 in
set_option maxRecDepth 100000 in
theorem c_X1_nearestBelow_81 {l : Launch} {k : mmK} {F : mmS} {a1 : Int32} {r : Int32} (h : m_X1_nearestBelow_81 F a1 = some r) : mm_T l k yX1_nearestBelow cX1_nearestBelow 4 (some .int) 0 [.ref (mmad k 81), .int a1] F (some (.int r)) F := by
  refine mm_start [(0, .ref (mmad k 81)), (1, .int a1)] (by decide) (Nat.le_of_ble_eq_true rfl) rfl ?_
  intro z hz C
  subst hz
  have C : mm_C z k RX1 cX1_nearestBelow 4 (some .int) 0 := C
  replace h := mk0 h
  unfold m_X1_nearestBelow_81 at h
  refine mm_iconst (v := (-1 : Int32)) C dX1_nearestBelow_0 (by decide) 1 rfl ?_
  refine mm_istore_n (lv2 := [(2, .int (-1 : Int32)), (0, .ref (mmad k 81)), (1, .int a1)]) C dX1_nearestBelow_1 rfl (by decide) rfl 2 rfl ?_
  refine mm_iconst (v := (0 : Int32)) C dX1_nearestBelow_2 (by decide) 3 rfl ?_
  refine mm_istore_n (lv2 := [(3, .int (0 : Int32)), (2, .int (-1 : Int32)), (0, .ref (mmad k 81)), (1, .int a1)]) C dX1_nearestBelow_3 rfl (by decide) rfl 4 rfl ?_
  refine mm_lv [2, 3, 1, 0] rfl ?_
  have hL4 : ∀ (K : (Int32) → Option (Int32)) (hK : ∀ (v1 : Int32) , K (v1) = some r → mm_AW z k 4 (some (.int r)) F F 53 [(2, .int v1)] []) (n3 : Nat) (v1 : Int32) (v2 : Int32) , (m_X1_nearestBelow_81_L4 a1 F n3 v1 v2).bind K = some r → mm_AW z k 4 (some (.int r)) F F 4 [(0, .ref (mmad k 81)), (1, .int a1), (2, .int v1), (3, .int v2)] [] := by
    intro K hK n3
    induction n3 with
    | zero => intro v1 v2 h; rw [m_X1_nearestBelow_81_L4] at h; cases h
    | succ n3 ih =>
      intro v1 v2 h
      rw [m_X1_nearestBelow_81_L4] at h
      refine mm_iload_n C dX1_nearestBelow_4 rfl 3 rfl 5 rfl ?_
      refine mm_aload_n C dX1_nearestBelow_5 rfl 0 rfl 6 rfl ?_
      refine mm_get C fl_X1_9_X1 (by decide) (mc_81 k _) rfl dX1_nearestBelow_6 9 rfl ?_
      refine mm_get C fl_X1_49_X3 (by decide) (mc_1 k _) rfl dX1_nearestBelow_9 12 rfl ?_
      refine mm_icmp_ge C dX1_nearestBelow_12 53 15 (by decide) rfl (fun hc => ?_) (fun hc => ?_)
      · rw [if_pos hc] at h
        refine mm_lv [2] rfl ?_
        exact hK _ h
      · rw [if_neg hc] at h
        refine mm_aload_n C dX1_nearestBelow_15 rfl 0 rfl 16 rfl ?_
        refine mm_get C fl_X1_36_X1 (by decide) (mc_81 k _) rfl dX1_nearestBelow_16 19 rfl ?_
        refine mm_iload_n C dX1_nearestBelow_19 rfl 3 rfl 20 rfl ?_
        obtain ⟨x4, ex4, h⟩ := mb h
        refine mm_iald C ex4 dX1_nearestBelow_20 21 rfl ?_
        refine mm_iload_n C dX1_nearestBelow_21 rfl 1 rfl 22 rfl ?_
        refine mj1 h (fun (y7 : Int32) => mm_AW z k 4 (some (.int r)) F F 47 [(0, .ref (mmad k 81)), (1, .int a1), (2, .int y7), (3, .int v2)] []) ?_ ?_
        · intro y7 h
          obtain ⟨x8, ex8, h⟩ := me h
          refine mm_iinc (v := x8) (lv2 := [(3, .int x8), (0, .ref (mmad k 81)), (1, .int a1), (2, .int y7)]) C dX1_nearestBelow_47 3 rfl (by rw [← ex8]; rfl) (by decide) rfl 50 rfl ?_
          refine mm_goto C dX1_nearestBelow_50 4 (by decide) ?_
          refine mm_lv [1, 2, 3, 0] rfl ?_
          exact ih _ _ h
        · intro K2 hR47 h
          refine mm_icmp_ge C dX1_nearestBelow_22 47 25 (by decide) rfl (fun hc => ?_) (fun hc => ?_)
          · rw [if_pos hc] at h
            exact hR47 _ h
          · rw [if_neg hc] at h
            refine mm_iload_n C dX1_nearestBelow_25 rfl 2 rfl 26 rfl ?_
            refine mm_iconst (v := (-1 : Int32)) C dX1_nearestBelow_26 (by decide) 27 rfl ?_
            refine mm_icmp_eq C dX1_nearestBelow_27 45 30 (by decide) rfl (fun hc => ?_) (fun hc => ?_)
            · rw [if_pos hc] at h
              refine mm_iload_n C dX1_nearestBelow_45 rfl 3 rfl 46 rfl ?_
              refine mm_istore_n (lv2 := [(2, .int v2), (0, .ref (mmad k 81)), (1, .int a1), (3, .int v2)]) C dX1_nearestBelow_46 rfl (by decide) rfl 47 rfl ?_
              refine mm_lv [1, 2, 0, 3] rfl ?_
              exact hR47 _ h
            · rw [if_neg hc] at h
              refine mm_aload_n C dX1_nearestBelow_30 rfl 0 rfl 31 rfl ?_
              refine mm_get C fl_X1_36_X1 (by decide) (mc_81 k _) rfl dX1_nearestBelow_31 34 rfl ?_
              refine mm_iload_n C dX1_nearestBelow_34 rfl 3 rfl 35 rfl ?_
              obtain ⟨x5, ex5, h⟩ := mb h
              refine mm_iald C ex5 dX1_nearestBelow_35 36 rfl ?_
              refine mm_aload_n C dX1_nearestBelow_36 rfl 0 rfl 37 rfl ?_
              refine mm_get C fl_X1_36_X1 (by decide) (mc_81 k _) rfl dX1_nearestBelow_37 40 rfl ?_
              refine mm_iload_n C dX1_nearestBelow_40 rfl 2 rfl 41 rfl ?_
              obtain ⟨x6, ex6, h⟩ := mb h
              refine mm_iald C ex6 dX1_nearestBelow_41 42 rfl ?_
              refine mm_icmp_le C dX1_nearestBelow_42 47 45 (by decide) rfl (fun hc => ?_) (fun hc => ?_)
              · rw [if_pos hc] at h
                exact hR47 _ h
              · rw [if_neg hc] at h
                refine mm_iload_n C dX1_nearestBelow_45 rfl 3 rfl 46 rfl ?_
                refine mm_istore_n (lv2 := [(2, .int v2), (0, .ref (mmad k 81)), (1, .int a1), (3, .int v2)]) C dX1_nearestBelow_46 rfl (by decide) rfl 47 rfl ?_
                refine mm_lv [1, 2, 0, 3] rfl ?_
                exact hR47 _ h
  refine mj1 h (fun (y9 : Int32) => mm_AW z k 4 (some (.int r)) F F 53 [(2, .int y9)] []) ?_ ?_
  · intro y9 h
    refine mm_iload_n C dX1_nearestBelow_53 rfl 0 rfl 54 rfl ?_
    exact mm_iretP C (h) dX1_nearestBelow_54
  · intro K2 hR h
    exact hL4 K2 hR 300 _ _ h
