def m_X12_bestCost_97 (F : mmS)  : Option (Int32 × mmS) :=
  Option.bind (m_X12_plans_97 F) fun G1 => Option.bind (m_X12_begin_97 G1) fun x2 => Option.bind (ald G1 101 x2) fun x3 => some (x3, G1)
set_option maxHeartbeats 4000000 in
set_option maxRecDepth 100000 in
theorem c_X12_bestCost_97 {l : Launch} {k : mmK} {F : mmS}  {r : Int32} {F1 : mmS} (h : m_X12_bestCost_97 F = some (r, F1)) : mm_T l k yX12_bestCost cX12_bestCost 1 (some .int) 4 [.ref (mmad k 97)] F (some (.int r)) F1 := by
  refine mm_start [(0, .ref (mmad k 97))] (by decide) (Nat.le_of_ble_eq_true rfl) rfl ?_
  intro z hz C
  subst hz
  have C : mm_C z k RX12 cX12_bestCost 1 (some .int) 4 := C
  replace h := mk0 h
  unfold m_X12_bestCost_97 at h
  refine mm_aload_n C dX12_bestCost_0 rfl 0 rfl 1 rfl ?_
  obtain ⟨G1, eG1, h⟩ := mb h
  refine mm_callV [] C (c_X12_plans_97 eG1) wb_X12_plans wv_X12_109 (by decide) (mc_97 k _) rfl rfl rfl (by omega) rfl (Nat.le_of_ble_eq_true rfl) dX12_bestCost_1 4 rfl ?_
  show mm_AW z k 1 (some (.int r)) F1 G1 4 [(0, .ref (mmad k 97))] []
  refine mm_aload_n C dX12_bestCost_4 rfl 0 rfl 5 rfl ?_
  refine mm_get C fl_X12_29_X12 (by decide) (mc_97 k _) rfl dX12_bestCost_5 8 rfl ?_
  refine mm_aload_n C dX12_bestCost_8 rfl 0 rfl 9 rfl ?_
  obtain ⟨x2, ex2, h⟩ := mb h
  refine mm_callV [] C (c_X12_begin_97 ex2) wb_X12_begin wv_X12_105 (by decide) (mc_97 k _) rfl rfl rfl (by omega) rfl (Nat.le_of_ble_eq_true rfl) dX12_bestCost_9 12 rfl ?_
  show mm_AW z k 1 (some (.int r)) F1 G1 12 [(0, .ref (mmad k 97))] [.int x2, .ref (mmad k 101)]
  obtain ⟨x3, ex3, h⟩ := mb h
  refine mm_iald C ex3 dX12_bestCost_12 13 rfl ?_
  exact mm_iretW C (h) dX12_bestCost_13
def m_X12_best_97 (F : mmS)  : Option (Int32 × mmS) :=
  bd2 (m_X12_reads_97 F) fun x1 G2 => if x1 = (0 : Int32) then (some ((-11 : Int32), G2)) else (bd2 (m_X12_bestCost_97 G2) fun x3 G4 => some (x3, G4))
set_option maxHeartbeats 4000000 in
set_option maxRecDepth 100000 in
theorem c_X12_best_97 {l : Launch} {k : mmK} {F : mmS}  {r : Int32} {F1 : mmS} (h : m_X12_best_97 F = some (r, F1)) : mm_T l k yX12_best cX12_best 1 (some .int) 5 [.ref (mmad k 97)] F (some (.int r)) F1 := by
  refine mm_start [(0, .ref (mmad k 97))] (by decide) (Nat.le_of_ble_eq_true rfl) rfl ?_
  intro z hz C
  subst hz
  have C : mm_C z k RX12 cX12_best 1 (some .int) 5 := C
  replace h := mk0 h
  unfold m_X12_best_97 at h
  refine mm_aload_n C dX12_best_0 rfl 0 rfl 1 rfl ?_
  obtain ⟨x1, G2, ex1, h⟩ := mb2 h
  refine mm_callV [] C (c_X12_reads_97 ex1) wb_X12_reads wv_X12_83 (by decide) (mc_97 k _) rfl rfl rfl (by omega) rfl (Nat.le_of_ble_eq_true rfl) dX12_best_1 4 rfl ?_
  show mm_AW z k 1 (some (.int r)) F1 G2 4 [(0, .ref (mmad k 97))] [.int x1]
  refine mm_if_eq C dX12_best_4 14 7 (by decide) rfl (fun hc => ?_) (fun hc => ?_)
  · rw [if_pos hc] at h
    refine mm_bipush (v := (-11 : Int32)) C dX12_best_14 (by decide) 16 rfl ?_
    exact mm_iretW C (h) dX12_best_16
  · rw [if_neg hc] at h
    refine mm_aload_n C dX12_best_7 rfl 0 rfl 8 rfl ?_
    obtain ⟨x3, G4, ex3, h⟩ := mb2 h
    refine mm_callV [] C (c_X12_bestCost_97 ex3) wb_X12_bestCost wv_X12_112 (by decide) (mc_97 k _) rfl rfl rfl (by omega) rfl (Nat.le_of_ble_eq_true rfl) dX12_best_8 11 rfl ?_
    show mm_AW z k 1 (some (.int r)) F1 G4 11 [(0, .ref (mmad k 97))] [.int x3]
    refine mm_goto C dX12_best_11 16 (by decide) ?_
    exact mm_iretW C (h) dX12_best_16
def m_X12_way_97 (F : mmS) (a1 : Int32) : Option (Int32 × mmS) :=
  Option.bind (m_X12_in a1 (0 : Int32) (39 : Int32)) fun x1 => if x1 = (0 : Int32) then (some ((-2 : Int32), F)) else (bd2 (m_X12_reads_97 F) fun x2 G3 => if x2 = (0 : Int32) then (some ((-11 : Int32), G3)) else (Option.bind (m_X12_plans_97 G3) fun G4 => if (G4 97 5) ≤ a1 then (some ((-1 : Int32), G4)) else (Option.bind (ald G4 102 a1) fun x5 => some (x5, G4))))
set_option maxHeartbeats 4000000 in
set_option maxRecDepth 100000 in
theorem c_X12_way_97 {l : Launch} {k : mmK} {F : mmS} {a1 : Int32} {r : Int32} {F1 : mmS} (h : m_X12_way_97 F a1 = some (r, F1)) : mm_T l k yX12_way cX12_way 2 (some .int) 4 [.ref (mmad k 97), .int a1] F (some (.int r)) F1 := by
  refine mm_start [(0, .ref (mmad k 97)), (1, .int a1)] (by decide) (Nat.le_of_ble_eq_true rfl) rfl ?_
  intro z hz C
  subst hz
  have C : mm_C z k RX12 cX12_way 2 (some .int) 4 := C
  replace h := mk0 h
  unfold m_X12_way_97 at h
  refine mm_iload_n C dX12_way_0 rfl 1 rfl 1 rfl ?_
  refine mm_iconst (v := (0 : Int32)) C dX12_way_1 (by decide) 2 rfl ?_
  refine mm_bipush (v := (39 : Int32)) C dX12_way_2 (by decide) 4 rfl ?_
  obtain ⟨x1, ex1, h⟩ := mb h
  refine mm_callS [.int a1, .int (0 : Int32), .int (39 : Int32)] C (c_X12_in ex1) wb_X12_in ws_X12_69 rfl (by omega) rfl (Nat.le_of_ble_eq_true rfl) dX12_way_4 7 rfl ?_
  show mm_AW z k 2 (some (.int r)) F1 F 7 [(0, .ref (mmad k 97)), (1, .int a1)] [.int x1]
  refine mm_if_ne C dX12_way_7 13 10 (by decide) rfl (fun hc => ?_) (fun hc => ?_)
  · rw [if_neg hc] at h
    refine mm_aload_n C dX12_way_13 rfl 0 rfl 14 rfl ?_
    obtain ⟨x2, G3, ex2, h⟩ := mb2 h
    refine mm_callV [] C (c_X12_reads_97 ex2) wb_X12_reads wv_X12_83 (by decide) (mc_97 k _) rfl rfl rfl (by omega) rfl (Nat.le_of_ble_eq_true rfl) dX12_way_14 17 rfl ?_
    show mm_AW z k 2 (some (.int r)) F1 G3 17 [(0, .ref (mmad k 97)), (1, .int a1)] [.int x2]
    refine mm_if_ne C dX12_way_17 23 20 (by decide) rfl (fun hc => ?_) (fun hc => ?_)
    · rw [if_neg hc] at h
      refine mm_aload_n C dX12_way_23 rfl 0 rfl 24 rfl ?_
      obtain ⟨G4, eG4, h⟩ := mb h
      refine mm_callV [] C (c_X12_plans_97 eG4) wb_X12_plans wv_X12_109 (by decide) (mc_97 k _) rfl rfl rfl (by omega) rfl (Nat.le_of_ble_eq_true rfl) dX12_way_24 27 rfl ?_
      show mm_AW z k 2 (some (.int r)) F1 G4 27 [(0, .ref (mmad k 97)), (1, .int a1)] []
      refine mm_iload_n C dX12_way_27 rfl 1 rfl 28 rfl ?_
      refine mm_aload_n C dX12_way_28 rfl 0 rfl 29 rfl ?_
      refine mm_get C fl_X12_77_X12 (by decide) (mc_97 k _) rfl dX12_way_29 32 rfl ?_
      refine mm_icmp_ge C dX12_way_32 44 35 (by decide) rfl (fun hc => ?_) (fun hc => ?_)
      · rw [if_pos hc] at h
        refine mm_iconst (v := (-1 : Int32)) C dX12_way_44 (by decide) 45 rfl ?_
        exact mm_iretW C (h) dX12_way_45
      · rw [if_neg hc] at h
        refine mm_aload_n C dX12_way_35 rfl 0 rfl 36 rfl ?_
        refine mm_get C fl_X12_32_X12 (by decide) (mc_97 k _) rfl dX12_way_36 39 rfl ?_
        refine mm_iload_n C dX12_way_39 rfl 1 rfl 40 rfl ?_
        obtain ⟨x5, ex5, h⟩ := mb h
        refine mm_iald C ex5 dX12_way_40 41 rfl ?_
        refine mm_goto C dX12_way_41 45 (by decide) ?_
        exact mm_iretW C (h) dX12_way_45
    · rw [if_pos hc] at h
      refine mm_bipush (v := (-11 : Int32)) C dX12_way_20 (by decide) 22 rfl ?_
      exact mm_iretW C (h) dX12_way_22
  · rw [if_pos hc] at h
    refine mm_bipush (v := (-2 : Int32)) C dX12_way_10 (by decide) 12 rfl ?_
    exact mm_iretW C (h) dX12_way_12
def m_X12_starts_97_L2 : Nat → Int32 → mmS → Option (mmS)
  | 0, _, _ => none
  | n3 + 1, v1, G2 => if (3 : Int32) ≤ v1 then (some ((G2))) else (bd1 (if (G2 97 2) ≤ v1 then (some ((0 : Int32))) else (Option.bind (ald G2 99 v1) fun x4 => Option.bind (ald G2 98 x4) fun x5 => some (x5))) fun y6 => Option.bind (ast G2 103 v1 y6) fun G7 => mlet (v1 + (1 : Int32)) fun x8 => m_X12_starts_97_L2 n3 x8 G7)
def m_X12_starts_97 (F : mmS)  : Option (mmS) :=
  bd1 (m_X12_starts_97_L2 300 (0 : Int32) F) fun G9 => mlet (stF G9 97 11 (0 : Int32)) fun G10 => mlet (stF G10 97 12 (-1 : Int32)) fun G11 => some G11
set_option maxHeartbeats 4000000 in
set_option maxRecDepth 100000 in
theorem c_X12_starts_97 {l : Launch} {k : mmK} {F : mmS}  {F1 : mmS} (h : m_X12_starts_97 F = some F1) : mm_T l k yX12_starts cX12_starts 2 none 0 [.ref (mmad k 97)] F none F1 := by
  refine mm_start [(0, .ref (mmad k 97))] (by decide) (Nat.le_of_ble_eq_true rfl) rfl ?_
  intro z hz C
  subst hz
  have C : mm_C z k RX12 cX12_starts 2 none 0 := C
  replace h := mk0 h
  unfold m_X12_starts_97 at h
  refine mm_iconst (v := (0 : Int32)) C dX12_starts_0 (by decide) 1 rfl ?_
  refine mm_istore_n (lv2 := [(1, .int (0 : Int32)), (0, .ref (mmad k 97))]) C dX12_starts_1 rfl (by decide) rfl 2 rfl ?_
  refine mm_lv [1, 0] rfl ?_
  have hL2 : ∀ (K : (mmS) → Option (mmS)) (hK : ∀ (G2 : mmS) , K (G2) = some F1 → mm_AW z k 2 none F1 G2 42 [(0, .ref (mmad k 97))] []) (n3 : Nat) (v1 : Int32) (G2 : mmS) , (m_X12_starts_97_L2 n3 v1 G2).bind K = some F1 → mm_AW z k 2 none F1 G2 2 [(0, .ref (mmad k 97)), (1, .int v1)] [] := by
    intro K hK n3
    induction n3 with
    | zero => intro v1 G2 h; rw [m_X12_starts_97_L2] at h; cases h
    | succ n3 ih =>
      intro v1 G2 h
      rw [m_X12_starts_97_L2] at h
      refine mm_iload_n C dX12_starts_2 rfl 1 rfl 3 rfl ?_
      refine mm_iconst (v := (3 : Int32)) C dX12_starts_3 (by decide) 4 rfl ?_
      refine mm_icmp_ge C dX12_starts_4 42 7 (by decide) rfl (fun hc => ?_) (fun hc => ?_)
      · rw [if_pos hc] at h
        refine mm_lv [0] rfl ?_
        exact hK _ h
      · rw [if_neg hc] at h
        refine mm_aload_n C dX12_starts_7 rfl 0 rfl 8 rfl ?_
        refine mm_get C fl_X12_35_X12 (by decide) (mc_97 k _) rfl dX12_starts_8 11 rfl ?_
        refine mm_iload_n C dX12_starts_11 rfl 1 rfl 12 rfl ?_
        refine mm_iload_n C dX12_starts_12 rfl 1 rfl 13 rfl ?_
        refine mm_aload_n C dX12_starts_13 rfl 0 rfl 14 rfl ?_
        refine mm_get C fl_X12_17_X12 (by decide) (mc_97 k _) rfl dX12_starts_14 17 rfl ?_
        refine mj1 h (fun (y6 : Int32) => mm_AW z k 2 none F1 G2 35 [(0, .ref (mmad k 97)), (1, .int v1)] [.int y6, .int v1, .ref (mmad k 103)]) ?_ ?_
        · intro y6 h
          obtain ⟨G7, eG7, h⟩ := mb h
          refine mm_iast C eG7 dX12_starts_35 36 rfl ?_
          obtain ⟨x8, ex8, h⟩ := me h
          refine mm_iinc (v := x8) (lv2 := [(1, .int x8), (0, .ref (mmad k 97))]) C dX12_starts_36 1 rfl (by rw [← ex8]; rfl) (by decide) rfl 39 rfl ?_
          refine mm_goto C dX12_starts_39 2 (by decide) ?_
          refine mm_lv [1, 0] rfl ?_
          exact ih _ _ h
        · intro K2 hR35 h
          refine mm_icmp_ge C dX12_starts_17 34 20 (by decide) rfl (fun hc => ?_) (fun hc => ?_)
          · rw [if_pos hc] at h
            refine mm_iconst (v := (0 : Int32)) C dX12_starts_34 (by decide) 35 rfl ?_
            exact hR35 _ h
          · rw [if_neg hc] at h
            refine mm_aload_n C dX12_starts_20 rfl 0 rfl 21 rfl ?_
            refine mm_get C fl_X12_13_X12 (by decide) (mc_97 k _) rfl dX12_starts_21 24 rfl ?_
            refine mm_aload_n C dX12_starts_24 rfl 0 rfl 25 rfl ?_
            refine mm_get C fl_X12_20_X12 (by decide) (mc_97 k _) rfl dX12_starts_25 28 rfl ?_
            refine mm_iload_n C dX12_starts_28 rfl 1 rfl 29 rfl ?_
            obtain ⟨x4, ex4, h⟩ := mb h
            refine mm_iald C ex4 dX12_starts_29 30 rfl ?_
            obtain ⟨x5, ex5, h⟩ := mb h
            refine mm_iald C ex5 dX12_starts_30 31 rfl ?_
            refine mm_goto C dX12_starts_31 35 (by decide) ?_
            exact hR35 _ h
  refine mj1 h (fun (G9 : mmS) => mm_AW z k 2 none F1 G9 42 [(0, .ref (mmad k 97))] []) ?_ ?_
  · intro G9 h
    refine mm_aload_n C dX12_starts_42 rfl 0 rfl 43 rfl ?_
    refine mm_iconst (v := (0 : Int32)) C dX12_starts_43 (by decide) 44 rfl ?_
    obtain ⟨G10, eG10, h⟩ := me h
    refine mm_put (x := (0 : Int32)) (ty := .int) C fl_X12_115_X12 (by decide) (mc_97 k _) (mc_97 k _) tyX12 tyX12_ok nmX12 rfl (by decide +kernel) rfl rfl (Nat.le_of_ble_eq_true rfl) eG10 dX12_starts_44 47 rfl ?_
    refine mm_aload_n C dX12_starts_47 rfl 0 rfl 48 rfl ?_
    refine mm_iconst (v := (-1 : Int32)) C dX12_starts_48 (by decide) 49 rfl ?_
    obtain ⟨G11, eG11, h⟩ := me h
    refine mm_put (x := (-1 : Int32)) (ty := .int) C fl_X12_118_X12 (by decide) (mc_97 k _) (mc_97 k _) tyX12 tyX12_ok nmX12 rfl (by decide +kernel) rfl rfl (Nat.le_of_ble_eq_true rfl) eG11 dX12_starts_49 52 rfl ?_
    exact mm_vretW C (h) dX12_starts_52
  · intro K2 hR h
    exact hL2 K2 hR 300 _ _ h
def m_X12_least_97 (F : mmS) (a1 : Int32) (a2 : Int32) (a3 : Int32) (a4 : Int32) (a5 : Int32) (a6 : Int32) : Option (Int32) :=
  if (F 97 2) = (1 : Int32) then (Option.bind (m_X12_apart a1 a4) fun x35 => some x35) else (if (F 97 2) = (2 : Int32) then (Option.bind (m_X12_apart a1 a4) fun x29 => Option.bind (m_X12_apart a2 a5) fun x30 => mlet (x29 + x30) fun x31 => Option.bind (m_X12_apart a1 a5) fun x32 => Option.bind (m_X12_apart a2 a4) fun x33 => mlet (x32 + x33) fun x34 => if x34 ≤ x31 then (some x34) else (some x31)) else (Option.bind (m_X12_apart a1 a4) fun x1 => Option.bind (m_X12_apart a2 a5) fun x2 => Option.bind (m_X12_apart a3 a6) fun x3 => mlet ((x1 + x2) + x3) fun x4 => Option.bind (m_X12_apart a1 a4) fun x5 => Option.bind (m_X12_apart a2 a6) fun x6 => Option.bind (m_X12_apart a3 a5) fun x7 => mlet ((x5 + x6) + x7) fun x8 => bd1 (if x4 ≤ x8 then (some (x4)) else (some (x8))) fun y9 => Option.bind (m_X12_apart a1 a5) fun x10 => Option.bind (m_X12_apart a2 a4) fun x11 => Option.bind (m_X12_apart a3 a6) fun x12 => mlet ((x10 + x11) + x12) fun x13 => bd1 (if y9 ≤ x13 then (some (y9)) else (some (x13))) fun y14 => Option.bind (m_X12_apart a1 a5) fun x15 => Option.bind (m_X12_apart a2 a6) fun x16 => Option.bind (m_X12_apart a3 a4) fun x17 => mlet ((x15 + x16) + x17) fun x18 => bd1 (if y14 ≤ x18 then (some (y14)) else (some (x18))) fun y19 => Option.bind (m_X12_apart a1 a6) fun x20 => Option.bind (m_X12_apart a2 a4) fun x21 => Option.bind (m_X12_apart a3 a5) fun x22 => mlet ((x20 + x21) + x22) fun x23 => bd1 (if y19 ≤ x23 then (some (y19)) else (some (x23))) fun y24 => Option.bind (m_X12_apart a1 a6) fun x25 => Option.bind (m_X12_apart a2 a5) fun x26 => Option.bind (m_X12_apart a3 a4) fun x27 => mlet ((x25 + x26) + x27) fun x28 => if y24 ≤ x28 then (some y24) else (some x28)))
set_option maxHeartbeats 4000000 in
set_option maxRecDepth 100000 in
theorem c_X12_least_97 {l : Launch} {k : mmK} {F : mmS} {a1 : Int32} {a2 : Int32} {a3 : Int32} {a4 : Int32} {a5 : Int32} {a6 : Int32} {r : Int32} (h : m_X12_least_97 F a1 a2 a3 a4 a5 a6 = some r) : mm_T l k yX12_least cX12_least 9 (some .int) 1 [.ref (mmad k 97), .int a1, .int a2, .int a3, .int a4, .int a5, .int a6] F (some (.int r)) F := by
  refine mm_start [(0, .ref (mmad k 97)), (1, .int a1), (2, .int a2), (3, .int a3), (4, .int a4), (5, .int a5), (6, .int a6)] (by decide) (Nat.le_of_ble_eq_true rfl) rfl ?_
  intro z hz C
  subst hz
  have C : mm_C z k RX12 cX12_least 9 (some .int) 1 := C
  replace h := mk0 h
  unfold m_X12_least_97 at h
  refine mm_aload_n C dX12_least_0 rfl 0 rfl 1 rfl ?_
  refine mm_get C fl_X12_17_X12 (by decide) (mc_97 k _) rfl dX12_least_1 4 rfl ?_
  refine mm_iconst (v := (1 : Int32)) C dX12_least_4 (by decide) 5 rfl ?_
  refine mm_icmp_ne C dX12_least_5 15 8 (by decide) rfl (fun hc => ?_) (fun hc => ?_)
  · rw [if_neg hc] at h
    refine mm_aload_n C dX12_least_15 rfl 0 rfl 16 rfl ?_
    refine mm_get C fl_X12_17_X12 (by decide) (mc_97 k _) rfl dX12_least_16 19 rfl ?_
    refine mm_iconst (v := (2 : Int32)) C dX12_least_19 (by decide) 20 rfl ?_
    refine mm_icmp_ne C dX12_least_20 68 23 (by decide) rfl (fun hc => ?_) (fun hc => ?_)
    · rw [if_neg hc] at h
      refine mm_iload_n C dX12_least_68 rfl 1 rfl 69 rfl ?_
      refine mm_iload C dX12_least_69 4 rfl 71 rfl ?_
      obtain ⟨x1, ex1, h⟩ := mb h
      refine mm_callS [.int a1, .int a4] C (c_X12_apart ex1) wb_X12_apart ws_X12_95 rfl (by omega) rfl (Nat.le_of_ble_eq_true rfl) dX12_least_71 74 rfl ?_
      show mm_AW z k 9 (some (.int r)) F F 74 [(0, .ref (mmad k 97)), (1, .int a1), (2, .int a2), (3, .int a3), (4, .int a4), (5, .int a5), (6, .int a6)] [.int x1]
      refine mm_iload_n C dX12_least_74 rfl 2 rfl 75 rfl ?_
      refine mm_iload C dX12_least_75 5 rfl 77 rfl ?_
      obtain ⟨x2, ex2, h⟩ := mb h
      refine mm_callS [.int a2, .int a5] C (c_X12_apart ex2) wb_X12_apart ws_X12_95 rfl (by omega) rfl (Nat.le_of_ble_eq_true rfl) dX12_least_77 80 rfl ?_
      show mm_AW z k 9 (some (.int r)) F F 80 [(0, .ref (mmad k 97)), (1, .int a1), (2, .int a2), (3, .int a3), (4, .int a4), (5, .int a5), (6, .int a6)] [.int x2, .int x1]
      refine mm_iadd C dX12_least_80 81 rfl ?_
      refine mm_iload_n C dX12_least_81 rfl 3 rfl 82 rfl ?_
      refine mm_iload C dX12_least_82 6 rfl 84 rfl ?_
      obtain ⟨x3, ex3, h⟩ := mb h
      refine mm_callS [.int a3, .int a6] C (c_X12_apart ex3) wb_X12_apart ws_X12_95 rfl (by omega) rfl (Nat.le_of_ble_eq_true rfl) dX12_least_84 87 rfl ?_
      show mm_AW z k 9 (some (.int r)) F F 87 [(0, .ref (mmad k 97)), (1, .int a1), (2, .int a2), (3, .int a3), (4, .int a4), (5, .int a5), (6, .int a6)] [.int x3, .int (x1 + x2)]
      refine mm_iadd C dX12_least_87 88 rfl ?_
      obtain ⟨x4, ex4, h⟩ := me h
      refine mm_top ex4 ?_
      refine mm_istore (lv2 := [(7, .int x4), (0, .ref (mmad k 97)), (1, .int a1), (2, .int a2), (3, .int a3), (4, .int a4), (5, .int a5), (6, .int a6)]) C dX12_least_88 (by decide) rfl 90 rfl ?_
      refine mm_iload_n C dX12_least_90 rfl 2 rfl 91 rfl ?_
      refine mm_iload C dX12_least_91 5 rfl 93 rfl ?_
      obtain ⟨x5, ex5, h⟩ := mb h
      refine mm_callS [.int a1, .int a4] C (c_X12_apart ex5) wb_X12_apart ws_X12_95 rfl (by omega) rfl (Nat.le_of_ble_eq_true rfl) dX12_least_93 96 rfl ?_
      show mm_AW z k 9 (some (.int r)) F F 96 [(7, .int x4), (0, .ref (mmad k 97)), (1, .int a1), (2, .int a2), (3, .int a3), (4, .int a4), (5, .int a5), (6, .int a6)] [.int x5]
      refine mm_iload_n C dX12_least_96 rfl 3 rfl 97 rfl ?_
      refine mm_iload C dX12_least_97 7 rfl 99 rfl ?_
      obtain ⟨x6, ex6, h⟩ := mb h
      refine mm_callS [.int a2, .int a6] C (c_X12_apart ex6) wb_X12_apart ws_X12_95 rfl (by omega) rfl (Nat.le_of_ble_eq_true rfl) dX12_least_99 102 rfl ?_
      show mm_AW z k 9 (some (.int r)) F F 102 [(7, .int x4), (0, .ref (mmad k 97)), (1, .int a1), (2, .int a2), (3, .int a3), (4, .int a4), (5, .int a5), (6, .int a6)] [.int x6, .int x5]
      refine mm_iadd C dX12_least_102 103 rfl ?_
      refine mm_iload_n C dX12_least_103 rfl 4 rfl 104 rfl ?_
      refine mm_iload C dX12_least_104 6 rfl 106 rfl ?_
      obtain ⟨x7, ex7, h⟩ := mb h
      refine mm_callS [.int a3, .int a5] C (c_X12_apart ex7) wb_X12_apart ws_X12_95 rfl (by omega) rfl (Nat.le_of_ble_eq_true rfl) dX12_least_106 109 rfl ?_
      show mm_AW z k 9 (some (.int r)) F F 109 [(7, .int x4), (0, .ref (mmad k 97)), (1, .int a1), (2, .int a2), (3, .int a3), (4, .int a4), (5, .int a5), (6, .int a6)] [.int x7, .int (x5 + x6)]
      refine mm_iadd C dX12_least_109 110 rfl ?_
      obtain ⟨x8, ex8, h⟩ := me h
      refine mm_top ex8 ?_
      refine mm_istore (lv2 := [(8, .int x8), (7, .int x4), (0, .ref (mmad k 97)), (1, .int a1), (2, .int a2), (3, .int a3), (4, .int a4), (5, .int a5), (6, .int a6)]) C dX12_least_110 (by decide) rfl 112 rfl ?_
      refine mm_iload C dX12_least_112 0 rfl 114 rfl ?_
      refine mm_iload C dX12_least_114 1 rfl 116 rfl ?_
      refine mj1 h (fun (y9 : Int32) => mm_AW z k 9 (some (.int r)) F F 126 [(1, .int a1), (2, .int a2), (3, .int a3), (4, .int a4), (5, .int a5), (6, .int a6)] [.int y9]) ?_ ?_
      · intro y9 h
        refine mm_istore (lv2 := [(7, .int y9), (1, .int a1), (2, .int a2), (3, .int a3), (4, .int a4), (5, .int a5), (6, .int a6)]) C dX12_least_126 (by decide) rfl 128 rfl ?_
        refine mm_iload_n C dX12_least_128 rfl 1 rfl 129 rfl ?_
        refine mm_iload C dX12_least_129 5 rfl 131 rfl ?_
        obtain ⟨x10, ex10, h⟩ := mb h
        refine mm_callS [.int a1, .int a5] C (c_X12_apart ex10) wb_X12_apart ws_X12_95 rfl (by omega) rfl (Nat.le_of_ble_eq_true rfl) dX12_least_131 134 rfl ?_
        show mm_AW z k 9 (some (.int r)) F F 134 [(7, .int y9), (1, .int a1), (2, .int a2), (3, .int a3), (4, .int a4), (5, .int a5), (6, .int a6)] [.int x10]
        refine mm_iload_n C dX12_least_134 rfl 2 rfl 135 rfl ?_
        refine mm_iload C dX12_least_135 4 rfl 137 rfl ?_
        obtain ⟨x11, ex11, h⟩ := mb h
        refine mm_callS [.int a2, .int a4] C (c_X12_apart ex11) wb_X12_apart ws_X12_95 rfl (by omega) rfl (Nat.le_of_ble_eq_true rfl) dX12_least_137 140 rfl ?_
        show mm_AW z k 9 (some (.int r)) F F 140 [(7, .int y9), (1, .int a1), (2, .int a2), (3, .int a3), (4, .int a4), (5, .int a5), (6, .int a6)] [.int x11, .int x10]
        refine mm_iadd C dX12_least_140 141 rfl ?_
        refine mm_iload_n C dX12_least_141 rfl 3 rfl 142 rfl ?_
        refine mm_iload C dX12_least_142 6 rfl 144 rfl ?_
        obtain ⟨x12, ex12, h⟩ := mb h
        refine mm_callS [.int a3, .int a6] C (c_X12_apart ex12) wb_X12_apart ws_X12_95 rfl (by omega) rfl (Nat.le_of_ble_eq_true rfl) dX12_least_144 147 rfl ?_
        show mm_AW z k 9 (some (.int r)) F F 147 [(7, .int y9), (1, .int a1), (2, .int a2), (3, .int a3), (4, .int a4), (5, .int a5), (6, .int a6)] [.int x12, .int (x10 + x11)]
        refine mm_iadd C dX12_least_147 148 rfl ?_
        obtain ⟨x13, ex13, h⟩ := me h
        refine mm_top ex13 ?_
        refine mm_istore (lv2 := [(8, .int x13), (7, .int y9), (1, .int a1), (2, .int a2), (3, .int a3), (4, .int a4), (5, .int a5), (6, .int a6)]) C dX12_least_148 (by decide) rfl 150 rfl ?_
        refine mm_iload C dX12_least_150 0 rfl 152 rfl ?_
        refine mm_iload C dX12_least_152 1 rfl 154 rfl ?_
        refine mj1 h (fun (y14 : Int32) => mm_AW z k 9 (some (.int r)) F F 164 [(1, .int a1), (2, .int a2), (3, .int a3), (4, .int a4), (5, .int a5), (6, .int a6)] [.int y14]) ?_ ?_
        · intro y14 h
          refine mm_istore (lv2 := [(7, .int y14), (1, .int a1), (2, .int a2), (3, .int a3), (4, .int a4), (5, .int a5), (6, .int a6)]) C dX12_least_164 (by decide) rfl 166 rfl ?_
          refine mm_iload_n C dX12_least_166 rfl 1 rfl 167 rfl ?_
          refine mm_iload C dX12_least_167 5 rfl 169 rfl ?_
          obtain ⟨x15, ex15, h⟩ := mb h
          refine mm_callS [.int a1, .int a5] C (c_X12_apart ex15) wb_X12_apart ws_X12_95 rfl (by omega) rfl (Nat.le_of_ble_eq_true rfl) dX12_least_169 172 rfl ?_
          show mm_AW z k 9 (some (.int r)) F F 172 [(7, .int y14), (1, .int a1), (2, .int a2), (3, .int a3), (4, .int a4), (5, .int a5), (6, .int a6)] [.int x15]
          refine mm_iload_n C dX12_least_172 rfl 2 rfl 173 rfl ?_
          refine mm_iload C dX12_least_173 6 rfl 175 rfl ?_
          obtain ⟨x16, ex16, h⟩ := mb h
          refine mm_callS [.int a2, .int a6] C (c_X12_apart ex16) wb_X12_apart ws_X12_95 rfl (by omega) rfl (Nat.le_of_ble_eq_true rfl) dX12_least_175 178 rfl ?_
          show mm_AW z k 9 (some (.int r)) F F 178 [(7, .int y14), (1, .int a1), (2, .int a2), (3, .int a3), (4, .int a4), (5, .int a5), (6, .int a6)] [.int x16, .int x15]
          refine mm_iadd C dX12_least_178 179 rfl ?_
          refine mm_iload_n C dX12_least_179 rfl 3 rfl 180 rfl ?_
          refine mm_iload C dX12_least_180 4 rfl 182 rfl ?_
          obtain ⟨x17, ex17, h⟩ := mb h
          refine mm_callS [.int a3, .int a4] C (c_X12_apart ex17) wb_X12_apart ws_X12_95 rfl (by omega) rfl (Nat.le_of_ble_eq_true rfl) dX12_least_182 185 rfl ?_
          show mm_AW z k 9 (some (.int r)) F F 185 [(7, .int y14), (1, .int a1), (2, .int a2), (3, .int a3), (4, .int a4), (5, .int a5), (6, .int a6)] [.int x17, .int (x15 + x16)]
          refine mm_iadd C dX12_least_185 186 rfl ?_
          obtain ⟨x18, ex18, h⟩ := me h
          refine mm_top ex18 ?_
          refine mm_istore (lv2 := [(8, .int x18), (7, .int y14), (1, .int a1), (2, .int a2), (3, .int a3), (4, .int a4), (5, .int a5), (6, .int a6)]) C dX12_least_186 (by decide) rfl 188 rfl ?_
          refine mm_iload C dX12_least_188 0 rfl 190 rfl ?_
          refine mm_iload C dX12_least_190 1 rfl 192 rfl ?_
          refine mj1 h (fun (y19 : Int32) => mm_AW z k 9 (some (.int r)) F F 202 [(1, .int a1), (2, .int a2), (3, .int a3), (4, .int a4), (5, .int a5), (6, .int a6)] [.int y19]) ?_ ?_
          · intro y19 h
            refine mm_istore (lv2 := [(7, .int y19), (1, .int a1), (2, .int a2), (3, .int a3), (4, .int a4), (5, .int a5), (6, .int a6)]) C dX12_least_202 (by decide) rfl 204 rfl ?_
            refine mm_iload_n C dX12_least_204 rfl 1 rfl 205 rfl ?_
            refine mm_iload C dX12_least_205 6 rfl 207 rfl ?_
            obtain ⟨x20, ex20, h⟩ := mb h
            refine mm_callS [.int a1, .int a6] C (c_X12_apart ex20) wb_X12_apart ws_X12_95 rfl (by omega) rfl (Nat.le_of_ble_eq_true rfl) dX12_least_207 210 rfl ?_
            show mm_AW z k 9 (some (.int r)) F F 210 [(7, .int y19), (1, .int a1), (2, .int a2), (3, .int a3), (4, .int a4), (5, .int a5), (6, .int a6)] [.int x20]
            refine mm_iload_n C dX12_least_210 rfl 2 rfl 211 rfl ?_
            refine mm_iload C dX12_least_211 4 rfl 213 rfl ?_
            obtain ⟨x21, ex21, h⟩ := mb h
            refine mm_callS [.int a2, .int a4] C (c_X12_apart ex21) wb_X12_apart ws_X12_95 rfl (by omega) rfl (Nat.le_of_ble_eq_true rfl) dX12_least_213 216 rfl ?_
            show mm_AW z k 9 (some (.int r)) F F 216 [(7, .int y19), (1, .int a1), (2, .int a2), (3, .int a3), (4, .int a4), (5, .int a5), (6, .int a6)] [.int x21, .int x20]
            refine mm_iadd C dX12_least_216 217 rfl ?_
            refine mm_iload_n C dX12_least_217 rfl 3 rfl 218 rfl ?_
            refine mm_iload C dX12_least_218 5 rfl 220 rfl ?_
            obtain ⟨x22, ex22, h⟩ := mb h
            refine mm_callS [.int a3, .int a5] C (c_X12_apart ex22) wb_X12_apart ws_X12_95 rfl (by omega) rfl (Nat.le_of_ble_eq_true rfl) dX12_least_220 223 rfl ?_
            show mm_AW z k 9 (some (.int r)) F F 223 [(7, .int y19), (1, .int a1), (2, .int a2), (3, .int a3), (4, .int a4), (5, .int a5), (6, .int a6)] [.int x22, .int (x20 + x21)]
            refine mm_iadd C dX12_least_223 224 rfl ?_
            obtain ⟨x23, ex23, h⟩ := me h
            refine mm_top ex23 ?_
            refine mm_istore (lv2 := [(8, .int x23), (7, .int y19), (1, .int a1), (2, .int a2), (3, .int a3), (4, .int a4), (5, .int a5), (6, .int a6)]) C dX12_least_224 (by decide) rfl 226 rfl ?_
            refine mm_iload C dX12_least_226 0 rfl 228 rfl ?_
            refine mm_iload C dX12_least_228 1 rfl 230 rfl ?_
            refine mj1 h (fun (y24 : Int32) => mm_AW z k 9 (some (.int r)) F F 240 [(1, .int a1), (2, .int a2), (3, .int a3), (4, .int a4), (5, .int a5), (6, .int a6)] [.int y24]) ?_ ?_
            · intro y24 h
              refine mm_istore (lv2 := [(7, .int y24), (1, .int a1), (2, .int a2), (3, .int a3), (4, .int a4), (5, .int a5), (6, .int a6)]) C dX12_least_240 (by decide) rfl 242 rfl ?_
              refine mm_iload_n C dX12_least_242 rfl 1 rfl 243 rfl ?_
              refine mm_iload C dX12_least_243 6 rfl 245 rfl ?_
              obtain ⟨x25, ex25, h⟩ := mb h
              refine mm_callS [.int a1, .int a6] C (c_X12_apart ex25) wb_X12_apart ws_X12_95 rfl (by omega) rfl (Nat.le_of_ble_eq_true rfl) dX12_least_245 248 rfl ?_
              show mm_AW z k 9 (some (.int r)) F F 248 [(7, .int y24), (1, .int a1), (2, .int a2), (3, .int a3), (4, .int a4), (5, .int a5), (6, .int a6)] [.int x25]
              refine mm_iload_n C dX12_least_248 rfl 2 rfl 249 rfl ?_
              refine mm_iload C dX12_least_249 5 rfl 251 rfl ?_
              obtain ⟨x26, ex26, h⟩ := mb h
              refine mm_callS [.int a2, .int a5] C (c_X12_apart ex26) wb_X12_apart ws_X12_95 rfl (by omega) rfl (Nat.le_of_ble_eq_true rfl) dX12_least_251 254 rfl ?_
              show mm_AW z k 9 (some (.int r)) F F 254 [(7, .int y24), (1, .int a1), (2, .int a2), (3, .int a3), (4, .int a4), (5, .int a5), (6, .int a6)] [.int x26, .int x25]
              refine mm_iadd C dX12_least_254 255 rfl ?_
              refine mm_iload_n C dX12_least_255 rfl 3 rfl 256 rfl ?_
              refine mm_iload C dX12_least_256 4 rfl 258 rfl ?_
              obtain ⟨x27, ex27, h⟩ := mb h
              refine mm_callS [.int a3, .int a4] C (c_X12_apart ex27) wb_X12_apart ws_X12_95 rfl (by omega) rfl (Nat.le_of_ble_eq_true rfl) dX12_least_258 261 rfl ?_
              show mm_AW z k 9 (some (.int r)) F F 261 [(7, .int y24), (1, .int a1), (2, .int a2), (3, .int a3), (4, .int a4), (5, .int a5), (6, .int a6)] [.int x27, .int (x25 + x26)]
              refine mm_iadd C dX12_least_261 262 rfl ?_
              obtain ⟨x28, ex28, h⟩ := me h
              refine mm_top ex28 ?_
              refine mm_istore (lv2 := [(8, .int x28), (7, .int y24), (1, .int a1), (2, .int a2), (3, .int a3), (4, .int a4), (5, .int a5), (6, .int a6)]) C dX12_least_262 (by decide) rfl 264 rfl ?_
              refine mm_iload C dX12_least_264 0 rfl 266 rfl ?_
              refine mm_iload C dX12_least_266 1 rfl 268 rfl ?_
              refine mm_icmp_ge C dX12_least_268 276 271 (by decide) rfl (fun hc => ?_) (fun hc => ?_)
              · rw [if_pos hc] at h
                refine mm_iload C dX12_least_276 1 rfl 278 rfl ?_
                exact mm_iretP C (h) dX12_least_278
              · rw [if_neg hc] at h
                refine mm_iload C dX12_least_271 0 rfl 273 rfl ?_
                refine mm_goto C dX12_least_273 278 (by decide) ?_
                exact mm_iretP C (h) dX12_least_278
            · intro K2 hR240 h
              refine mm_icmp_ge C dX12_least_230 238 233 (by decide) rfl (fun hc => ?_) (fun hc => ?_)
              · rw [if_pos hc] at h
                refine mm_iload C dX12_least_238 1 rfl 240 rfl ?_
                refine mm_lv [2, 3, 4, 5, 6, 7] rfl ?_
                exact hR240 _ h
              · rw [if_neg hc] at h
                refine mm_iload C dX12_least_233 0 rfl 235 rfl ?_
                refine mm_goto C dX12_least_235 240 (by decide) ?_
                refine mm_lv [2, 3, 4, 5, 6, 7] rfl ?_
                exact hR240 _ h
          · intro K2 hR202 h
            refine mm_icmp_ge C dX12_least_192 200 195 (by decide) rfl (fun hc => ?_) (fun hc => ?_)
            · rw [if_pos hc] at h
              refine mm_iload C dX12_least_200 1 rfl 202 rfl ?_
              refine mm_lv [2, 3, 4, 5, 6, 7] rfl ?_
              exact hR202 _ h
            · rw [if_neg hc] at h
              refine mm_iload C dX12_least_195 0 rfl 197 rfl ?_
              refine mm_goto C dX12_least_197 202 (by decide) ?_
              refine mm_lv [2, 3, 4, 5, 6, 7] rfl ?_
              exact hR202 _ h
        · intro K2 hR164 h
          refine mm_icmp_ge C dX12_least_154 162 157 (by decide) rfl (fun hc => ?_) (fun hc => ?_)
          · rw [if_pos hc] at h
            refine mm_iload C dX12_least_162 1 rfl 164 rfl ?_
            refine mm_lv [2, 3, 4, 5, 6, 7] rfl ?_
            exact hR164 _ h
          · rw [if_neg hc] at h
            refine mm_iload C dX12_least_157 0 rfl 159 rfl ?_
            refine mm_goto C dX12_least_159 164 (by decide) ?_
            refine mm_lv [2, 3, 4, 5, 6, 7] rfl ?_
            exact hR164 _ h
      · intro K2 hR126 h
        refine mm_icmp_ge C dX12_least_116 124 119 (by decide) rfl (fun hc => ?_) (fun hc => ?_)
        · rw [if_pos hc] at h
          refine mm_iload C dX12_least_124 1 rfl 126 rfl ?_
          refine mm_lv [3, 4, 5, 6, 7, 8] rfl ?_
          exact hR126 _ h
        · rw [if_neg hc] at h
          refine mm_iload C dX12_least_119 0 rfl 121 rfl ?_
          refine mm_goto C dX12_least_121 126 (by decide) ?_
          refine mm_lv [3, 4, 5, 6, 7, 8] rfl ?_
          exact hR126 _ h
    · rw [if_pos hc] at h
      refine mm_iload_n C dX12_least_23 rfl 1 rfl 24 rfl ?_
      refine mm_iload C dX12_least_24 4 rfl 26 rfl ?_
      obtain ⟨x29, ex29, h⟩ := mb h
      refine mm_callS [.int a1, .int a4] C (c_X12_apart ex29) wb_X12_apart ws_X12_95 rfl (by omega) rfl (Nat.le_of_ble_eq_true rfl) dX12_least_26 29 rfl ?_
      show mm_AW z k 9 (some (.int r)) F F 29 [(0, .ref (mmad k 97)), (1, .int a1), (2, .int a2), (3, .int a3), (4, .int a4), (5, .int a5), (6, .int a6)] [.int x29]
      refine mm_iload_n C dX12_least_29 rfl 2 rfl 30 rfl ?_
      refine mm_iload C dX12_least_30 5 rfl 32 rfl ?_
      obtain ⟨x30, ex30, h⟩ := mb h
      refine mm_callS [.int a2, .int a5] C (c_X12_apart ex30) wb_X12_apart ws_X12_95 rfl (by omega) rfl (Nat.le_of_ble_eq_true rfl) dX12_least_32 35 rfl ?_
      show mm_AW z k 9 (some (.int r)) F F 35 [(0, .ref (mmad k 97)), (1, .int a1), (2, .int a2), (3, .int a3), (4, .int a4), (5, .int a5), (6, .int a6)] [.int x30, .int x29]
      refine mm_iadd C dX12_least_35 36 rfl ?_
      obtain ⟨x31, ex31, h⟩ := me h
      refine mm_top ex31 ?_
      refine mm_istore (lv2 := [(7, .int x31), (0, .ref (mmad k 97)), (1, .int a1), (2, .int a2), (3, .int a3), (4, .int a4), (5, .int a5), (6, .int a6)]) C dX12_least_36 (by decide) rfl 38 rfl ?_
      refine mm_iload_n C dX12_least_38 rfl 2 rfl 39 rfl ?_
      refine mm_iload C dX12_least_39 6 rfl 41 rfl ?_
      obtain ⟨x32, ex32, h⟩ := mb h
      refine mm_callS [.int a1, .int a5] C (c_X12_apart ex32) wb_X12_apart ws_X12_95 rfl (by omega) rfl (Nat.le_of_ble_eq_true rfl) dX12_least_41 44 rfl ?_
      show mm_AW z k 9 (some (.int r)) F F 44 [(7, .int x31), (0, .ref (mmad k 97)), (1, .int a1), (2, .int a2), (3, .int a3), (4, .int a4), (5, .int a5), (6, .int a6)] [.int x32]
      refine mm_iload_n C dX12_least_44 rfl 3 rfl 45 rfl ?_
      refine mm_iload C dX12_least_45 5 rfl 47 rfl ?_
      obtain ⟨x33, ex33, h⟩ := mb h
      refine mm_callS [.int a2, .int a4] C (c_X12_apart ex33) wb_X12_apart ws_X12_95 rfl (by omega) rfl (Nat.le_of_ble_eq_true rfl) dX12_least_47 50 rfl ?_
      show mm_AW z k 9 (some (.int r)) F F 50 [(7, .int x31), (0, .ref (mmad k 97)), (1, .int a1), (2, .int a2), (3, .int a3), (4, .int a4), (5, .int a5), (6, .int a6)] [.int x33, .int x32]
      refine mm_iadd C dX12_least_50 51 rfl ?_
      obtain ⟨x34, ex34, h⟩ := me h
      refine mm_top ex34 ?_
      refine mm_istore (lv2 := [(8, .int x34), (7, .int x31), (0, .ref (mmad k 97)), (1, .int a1), (2, .int a2), (3, .int a3), (4, .int a4), (5, .int a5), (6, .int a6)]) C dX12_least_51 (by decide) rfl 53 rfl ?_
      refine mm_iload C dX12_least_53 1 rfl 55 rfl ?_
      refine mm_iload C dX12_least_55 0 rfl 57 rfl ?_
      refine mm_icmp_ge C dX12_least_57 65 60 (by decide) rfl (fun hc => ?_) (fun hc => ?_)
      · rw [if_pos hc] at h
        refine mm_iload C dX12_least_65 0 rfl 67 rfl ?_
        exact mm_iretP C (h) dX12_least_67
      · rw [if_neg hc] at h
        refine mm_iload C dX12_least_60 1 rfl 62 rfl ?_
        refine mm_goto C dX12_least_62 67 (by decide) ?_
        exact mm_iretP C (h) dX12_least_67
  · rw [if_pos hc] at h
    refine mm_iload_n C dX12_least_8 rfl 1 rfl 9 rfl ?_
    refine mm_iload C dX12_least_9 4 rfl 11 rfl ?_
    obtain ⟨x35, ex35, h⟩ := mb h
    refine mm_callS [.int a1, .int a4] C (c_X12_apart ex35) wb_X12_apart ws_X12_95 rfl (by omega) rfl (Nat.le_of_ble_eq_true rfl) dX12_least_11 14 rfl ?_
    show mm_AW z k 9 (some (.int r)) F F 14 [(0, .ref (mmad k 97)), (1, .int a1), (2, .int a2), (3, .int a3), (4, .int a4), (5, .int a5), (6, .int a6)] [.int x35]
    exact mm_iretP C (h) dX12_least_14
def m_X12_worksFirst_97_L10 : Nat → Int32 → mmS → Option (mmS)
  | 0, _, _ => none
  | n5 + 1, v3, G4 => if (216 : Int32) ≤ v3 then (some ((G4))) else (Option.bind (ald G4 99 (0 : Int32)) fun x6 => Option.bind (ald G4 98 x6) fun x7 => Option.bind (ald G4 99 (1 : Int32)) fun x8 => Option.bind (ald G4 98 x8) fun x9 => Option.bind (ald G4 99 (2 : Int32)) fun x10 => Option.bind (ald G4 98 x10) fun x11 => Option.bind (m_X12_isStanding_97 G4 v3) fun x12 => bd1 (if x12 = (0 : Int32) then (some ((1000000000 : Int32))) else (Option.bind (m_X12_pointOf_97 v3 (0 : Int32)) fun x13 => Option.bind (ald G4 98 x13) fun x14 => Option.bind (m_X12_pointOf_97 v3 (1 : Int32)) fun x15 => Option.bind (ald G4 98 x15) fun x16 => Option.bind (m_X12_pointOf_97 v3 (2 : Int32)) fun x17 => Option.bind (ald G4 98 x17) fun x18 => Option.bind (m_X12_least_97 G4 x7 x9 x11 x14 x16 x18) fun x19 => some (x19))) fun y20 => Option.bind (ast G4 104 v3 y20) fun G21 => mlet (v3 + (1 : Int32)) fun x22 => m_X12_worksFirst_97_L10 n5 x22 G21)
def m_X12_worksFirst_97 (F : mmS)  : Option (mmS) :=
  Option.bind (m_X12_begin_97 F) fun x1 => mlet (stF F 97 10 x1) fun G2 => bd1 (m_X12_worksFirst_97_L10 300 (0 : Int32) G2) fun G23 => some G23
set_option maxHeartbeats 4000000 in
set_option maxRecDepth 100000 in
theorem c_X12_worksFirst_97 {l : Launch} {k : mmK} {F : mmS}  {F1 : mmS} (h : m_X12_worksFirst_97 F = some F1) : mm_T l k yX12_worksFirst cX12_worksFirst 5 none 3 [.ref (mmad k 97)] F none F1 := by
  refine mm_start [(0, .ref (mmad k 97))] (by decide) (Nat.le_of_ble_eq_true rfl) rfl ?_
  intro z hz C
  subst hz
  have C : mm_C z k RX12 cX12_worksFirst 5 none 3 := C
  replace h := mk0 h
  unfold m_X12_worksFirst_97 at h
  refine mm_aload_n C dX12_worksFirst_0 rfl 0 rfl 1 rfl ?_
  refine mm_aload_n C dX12_worksFirst_1 rfl 0 rfl 2 rfl ?_
  obtain ⟨x1, ex1, h⟩ := mb h
  refine mm_callV [] C (c_X12_begin_97 ex1) wb_X12_begin wv_X12_105 (by decide) (mc_97 k _) rfl rfl rfl (by omega) rfl (Nat.le_of_ble_eq_true rfl) dX12_worksFirst_2 5 rfl ?_
  show mm_AW z k 5 none F1 F 5 [(0, .ref (mmad k 97))] [.int x1, .ref (mmad k 97)]
  obtain ⟨G2, eG2, h⟩ := me h
  refine mm_put (x := x1) (ty := .int) C fl_X12_129_X12 (by decide) (mc_97 k _) (mc_97 k _) tyX12 tyX12_ok nmX12 rfl (by decide +kernel) rfl rfl (Nat.le_of_ble_eq_true rfl) eG2 dX12_worksFirst_5 8 rfl ?_
  refine mm_iconst (v := (0 : Int32)) C dX12_worksFirst_8 (by decide) 9 rfl ?_
  refine mm_istore_n (lv2 := [(1, .int (0 : Int32)), (0, .ref (mmad k 97))]) C dX12_worksFirst_9 rfl (by decide) rfl 10 rfl ?_
  refine mm_lv [1, 0] rfl ?_
  have hL10 : ∀ (K : (mmS) → Option (mmS)) (hK : ∀ (G4 : mmS) , K (G4) = some F1 → mm_AW z k 5 none F1 G4 120 [] []) (n5 : Nat) (v3 : Int32) (G4 : mmS) , (m_X12_worksFirst_97_L10 n5 v3 G4).bind K = some F1 → mm_AW z k 5 none F1 G4 10 [(0, .ref (mmad k 97)), (1, .int v3)] [] := by
    intro K hK n5
    induction n5 with
    | zero => intro v3 G4 h; rw [m_X12_worksFirst_97_L10] at h; cases h
    | succ n5 ih =>
      intro v3 G4 h
      rw [m_X12_worksFirst_97_L10] at h
      refine mm_iload_n C dX12_worksFirst_10 rfl 1 rfl 11 rfl ?_
      refine mm_sipush (v := (216 : Int32)) C dX12_worksFirst_11 (by decide) 14 rfl ?_
      refine mm_icmp_ge C dX12_worksFirst_14 120 17 (by decide) rfl (fun hc => ?_) (fun hc => ?_)
      · rw [if_pos hc] at h
        refine mm_lv [] rfl ?_
        exact hK _ h
      · rw [if_neg hc] at h
        refine mm_aload_n C dX12_worksFirst_17 rfl 0 rfl 18 rfl ?_
        refine mm_get C fl_X12_13_X12 (by decide) (mc_97 k _) rfl dX12_worksFirst_18 21 rfl ?_
        refine mm_aload_n C dX12_worksFirst_21 rfl 0 rfl 22 rfl ?_
        refine mm_get C fl_X12_20_X12 (by decide) (mc_97 k _) rfl dX12_worksFirst_22 25 rfl ?_
        refine mm_iconst (v := (0 : Int32)) C dX12_worksFirst_25 (by decide) 26 rfl ?_
        obtain ⟨x6, ex6, h⟩ := mb h
        refine mm_iald C ex6 dX12_worksFirst_26 27 rfl ?_
        obtain ⟨x7, ex7, h⟩ := mb h
        refine mm_iald C ex7 dX12_worksFirst_27 28 rfl ?_
        refine mm_istore_n (lv2 := [(2, .int x7), (0, .ref (mmad k 97)), (1, .int v3)]) C dX12_worksFirst_28 rfl (by decide) rfl 29 rfl ?_
        refine mm_aload_n C dX12_worksFirst_29 rfl 1 rfl 30 rfl ?_
        refine mm_get C fl_X12_13_X12 (by decide) (mc_97 k _) rfl dX12_worksFirst_30 33 rfl ?_
        refine mm_aload_n C dX12_worksFirst_33 rfl 1 rfl 34 rfl ?_
        refine mm_get C fl_X12_20_X12 (by decide) (mc_97 k _) rfl dX12_worksFirst_34 37 rfl ?_
        refine mm_iconst (v := (1 : Int32)) C dX12_worksFirst_37 (by decide) 38 rfl ?_
        obtain ⟨x8, ex8, h⟩ := mb h
        refine mm_iald C ex8 dX12_worksFirst_38 39 rfl ?_
        obtain ⟨x9, ex9, h⟩ := mb h
        refine mm_iald C ex9 dX12_worksFirst_39 40 rfl ?_
        refine mm_istore_n (lv2 := [(3, .int x9), (2, .int x7), (0, .ref (mmad k 97)), (1, .int v3)]) C dX12_worksFirst_40 rfl (by decide) rfl 41 rfl ?_
        refine mm_aload_n C dX12_worksFirst_41 rfl 2 rfl 42 rfl ?_
        refine mm_get C fl_X12_13_X12 (by decide) (mc_97 k _) rfl dX12_worksFirst_42 45 rfl ?_
        refine mm_aload_n C dX12_worksFirst_45 rfl 2 rfl 46 rfl ?_
        refine mm_get C fl_X12_20_X12 (by decide) (mc_97 k _) rfl dX12_worksFirst_46 49 rfl ?_
        refine mm_iconst (v := (2 : Int32)) C dX12_worksFirst_49 (by decide) 50 rfl ?_
        obtain ⟨x10, ex10, h⟩ := mb h
        refine mm_iald C ex10 dX12_worksFirst_50 51 rfl ?_
        obtain ⟨x11, ex11, h⟩ := mb h
        refine mm_iald C ex11 dX12_worksFirst_51 52 rfl ?_
        refine mm_istore (lv2 := [(4, .int x11), (3, .int x9), (2, .int x7), (0, .ref (mmad k 97)), (1, .int v3)]) C dX12_worksFirst_52 (by decide) rfl 54 rfl ?_
        refine mm_aload_n C dX12_worksFirst_54 rfl 3 rfl 55 rfl ?_
        refine mm_get C fl_X12_38_X12 (by decide) (mc_97 k _) rfl dX12_worksFirst_55 58 rfl ?_
        refine mm_iload_n C dX12_worksFirst_58 rfl 4 rfl 59 rfl ?_
        refine mm_aload_n C dX12_worksFirst_59 rfl 3 rfl 60 rfl ?_
        refine mm_iload_n C dX12_worksFirst_60 rfl 4 rfl 61 rfl ?_
        obtain ⟨x12, ex12, h⟩ := mb h
        refine mm_callV [.int v3] C (c_X12_isStanding_97 ex12) wb_X12_isStanding wv_X12_99 (by decide) (mc_97 k _) rfl rfl rfl (by omega) rfl (Nat.le_of_ble_eq_true rfl) dX12_worksFirst_61 64 rfl ?_
        show mm_AW z k 5 none F1 G4 64 [(4, .int x11), (3, .int x9), (2, .int x7), (0, .ref (mmad k 97)), (1, .int v3)] [.int x12, .int v3, .ref (mmad k 104)]
        refine mj1 h (fun (y20 : Int32) => mm_AW z k 5 none F1 G4 113 [(0, .ref (mmad k 97)), (1, .int v3)] [.int y20, .int v3, .ref (mmad k 104)]) ?_ ?_
        · intro y20 h
          obtain ⟨G21, eG21, h⟩ := mb h
          refine mm_iast C eG21 dX12_worksFirst_113 114 rfl ?_
          obtain ⟨x22, ex22, h⟩ := me h
          refine mm_iinc (v := x22) (lv2 := [(1, .int x22), (0, .ref (mmad k 97))]) C dX12_worksFirst_114 1 rfl (by rw [← ex22]; rfl) (by decide) rfl 117 rfl ?_
          refine mm_goto C dX12_worksFirst_117 10 (by decide) ?_
          refine mm_lv [1, 0] rfl ?_
          exact ih _ _ h
        · intro K2 hR113 h
          refine mm_if_eq C dX12_worksFirst_64 111 67 (by decide) rfl (fun hc => ?_) (fun hc => ?_)
          · rw [if_pos hc] at h
            refine mm_ldc (v := (1000000000 : Int32)) C dX12_worksFirst_111 mw_1007 113 rfl ?_
            refine mm_lv [3, 4] rfl ?_
            exact hR113 _ h
          · rw [if_neg hc] at h
            refine mm_aload_n C dX12_worksFirst_67 rfl 3 rfl 68 rfl ?_
            refine mm_iload_n C dX12_worksFirst_68 rfl 2 rfl 69 rfl ?_
            refine mm_iload_n C dX12_worksFirst_69 rfl 1 rfl 70 rfl ?_
            refine mm_iload C dX12_worksFirst_70 0 rfl 72 rfl ?_
            refine mm_aload_n C dX12_worksFirst_72 rfl 3 rfl 73 rfl ?_
            refine mm_get C fl_X12_13_X12 (by decide) (mc_97 k _) rfl dX12_worksFirst_73 76 rfl ?_
            refine mm_aload_n C dX12_worksFirst_76 rfl 3 rfl 77 rfl ?_
            refine mm_iload_n C dX12_worksFirst_77 rfl 4 rfl 78 rfl ?_
            refine mm_iconst (v := (0 : Int32)) C dX12_worksFirst_78 (by decide) 79 rfl ?_
            obtain ⟨x13, ex13, h⟩ := mb h
            refine mm_callV [.int v3, .int (0 : Int32)] C (c_X12_pointOf_97 ex13) wb_X12_pointOf wv_X12_87 (by decide) (mc_97 k _) rfl rfl rfl (by omega) rfl (Nat.le_of_ble_eq_true rfl) dX12_worksFirst_79 82 rfl ?_
            show mm_AW z k 5 none F1 G4 82 [(4, .int x11), (3, .int x9), (2, .int x7), (0, .ref (mmad k 97)), (1, .int v3)] [.int x13, .ref (mmad k 98), .int x11, .int x9, .int x7, .ref (mmad k 97), .int v3, .ref (mmad k 104)]
            obtain ⟨x14, ex14, h⟩ := mb h
            refine mm_iald C ex14 dX12_worksFirst_82 83 rfl ?_
            refine mm_aload_n C dX12_worksFirst_83 rfl 3 rfl 84 rfl ?_
            refine mm_get C fl_X12_13_X12 (by decide) (mc_97 k _) rfl dX12_worksFirst_84 87 rfl ?_
            refine mm_aload_n C dX12_worksFirst_87 rfl 3 rfl 88 rfl ?_
            refine mm_iload_n C dX12_worksFirst_88 rfl 4 rfl 89 rfl ?_
            refine mm_iconst (v := (1 : Int32)) C dX12_worksFirst_89 (by decide) 90 rfl ?_
            obtain ⟨x15, ex15, h⟩ := mb h
            refine mm_callV [.int v3, .int (1 : Int32)] C (c_X12_pointOf_97 ex15) wb_X12_pointOf wv_X12_87 (by decide) (mc_97 k _) rfl rfl rfl (by omega) rfl (Nat.le_of_ble_eq_true rfl) dX12_worksFirst_90 93 rfl ?_
            show mm_AW z k 5 none F1 G4 93 [(4, .int x11), (3, .int x9), (2, .int x7), (0, .ref (mmad k 97)), (1, .int v3)] [.int x15, .ref (mmad k 98), .int x14, .int x11, .int x9, .int x7, .ref (mmad k 97), .int v3, .ref (mmad k 104)]
            obtain ⟨x16, ex16, h⟩ := mb h
            refine mm_iald C ex16 dX12_worksFirst_93 94 rfl ?_
            refine mm_aload_n C dX12_worksFirst_94 rfl 3 rfl 95 rfl ?_
            refine mm_get C fl_X12_13_X12 (by decide) (mc_97 k _) rfl dX12_worksFirst_95 98 rfl ?_
            refine mm_aload_n C dX12_worksFirst_98 rfl 3 rfl 99 rfl ?_
            refine mm_iload_n C dX12_worksFirst_99 rfl 4 rfl 100 rfl ?_
            refine mm_iconst (v := (2 : Int32)) C dX12_worksFirst_100 (by decide) 101 rfl ?_
            obtain ⟨x17, ex17, h⟩ := mb h
            refine mm_callL [.int v3, .int (2 : Int32)] C (c_X12_pointOf_97 ex17) wb_X12_pointOf wv_X12_87 (by decide) (mc_97 k _) rfl rfl rfl (by omega) (by decide) rfl (Nat.le_of_ble_eq_true rfl) dX12_worksFirst_101 104 rfl ?_
            show mm_AW z k 5 none F1 G4 104 [(4, .int x11), (3, .int x9), (2, .int x7), (0, .ref (mmad k 97)), (1, .int v3)] [.int x17, .ref (mmad k 98), .int x16, .int x14, .int x11, .int x9, .int x7, .ref (mmad k 97), .int v3, .ref (mmad k 104)]
            obtain ⟨x18, ex18, h⟩ := mb h
            refine mm_iald C ex18 dX12_worksFirst_104 105 rfl ?_
            obtain ⟨x19, ex19, h⟩ := mb h
            refine mm_callV [.int x7, .int x9, .int x11, .int x14, .int x16, .int x18] C (c_X12_least_97 ex19) wb_X12_least wv_X12_132 (by decide) (mc_97 k _) rfl rfl rfl (by omega) rfl (Nat.le_of_ble_eq_true rfl) dX12_worksFirst_105 108 rfl ?_
            show mm_AW z k 5 none F1 G4 108 [(4, .int x11), (3, .int x9), (2, .int x7), (0, .ref (mmad k 97)), (1, .int v3)] [.int x19, .int v3, .ref (mmad k 104)]
            refine mm_goto C dX12_worksFirst_108 113 (by decide) ?_
            refine mm_lv [3, 4] rfl ?_
            exact hR113 _ h
  refine mj1 h (fun (G23 : mmS) => mm_AW z k 5 none F1 G23 120 [] []) ?_ ?_
  · intro G23 h
    exact mm_vretW C (h) dX12_worksFirst_120
  · intro K2 hR h
    exact hL10 K2 hR 300 _ _ h
def m_X12_first_97 (F : mmS) (a1 : Int32) : Option (Int32) :=
  if (F 97 5) ≤ a1 then (some (F 97 5)) else (some a1)
set_option maxHeartbeats 4000000 in
set_option maxRecDepth 100000 in
theorem c_X12_first_97 {l : Launch} {k : mmK} {F : mmS} {a1 : Int32} {r : Int32} (h : m_X12_first_97 F a1 = some r) : mm_T l k yX12_first cX12_first 2 (some .int) 0 [.ref (mmad k 97), .int a1] F (some (.int r)) F := by
  refine mm_start [(0, .ref (mmad k 97)), (1, .int a1)] (by decide) (Nat.le_of_ble_eq_true rfl) rfl ?_
  intro z hz C
  subst hz
  have C : mm_C z k RX12 cX12_first 2 (some .int) 0 := C
  replace h := mk0 h
  unfold m_X12_first_97 at h
  refine mm_iload_n C dX12_first_0 rfl 1 rfl 1 rfl ?_
  refine mm_aload_n C dX12_first_1 rfl 0 rfl 2 rfl ?_
  refine mm_get C fl_X12_77_X12 (by decide) (mc_97 k _) rfl dX12_first_2 5 rfl ?_
  refine mm_icmp_ge C dX12_first_5 12 8 (by decide) rfl (fun hc => ?_) (fun hc => ?_)
  · rw [if_pos hc] at h
    refine mm_aload_n C dX12_first_12 rfl 0 rfl 13 rfl ?_
    refine mm_get C fl_X12_77_X12 (by decide) (mc_97 k _) rfl dX12_first_13 16 rfl ?_
    exact mm_iretP C (h) dX12_first_16
  · rw [if_neg hc] at h
    refine mm_iload_n C dX12_first_8 rfl 1 rfl 9 rfl ?_
    refine mm_goto C dX12_first_9 16 (by decide) ?_
    exact mm_iretP C (h) dX12_first_16
def m_X12_hintAt_97 (F : mmS) (a1 : Int32) : Option (Int32) :=
  Option.bind (zld F (1 : Int32)) fun x1 => bd1 (if x1 = (0 : Int32) then (some ((-1 : Int32))) else (Option.bind (ald F 111 (1 : Int32)) fun x2 => if x2 ≤ a1 then (some ((-1 : Int32))) else (Option.bind (ald F 112 ((40 : Int32) + a1)) fun x3 => some (x3)))) fun y4 => Option.bind (m_X12_in y4 (0 : Int32) ((F 97 2) - (1 : Int32))) fun x5 => if x5 = (0 : Int32) then (some (-1 : Int32)) else (some y4)
set_option maxHeartbeats 4000000 in
set_option maxRecDepth 100000 in
theorem c_X12_hintAt_97 {l : Launch} {k : mmK} {F : mmS} {a1 : Int32} {r : Int32} (h : m_X12_hintAt_97 F a1 = some r) : mm_T l k yX12_hintAt cX12_hintAt 3 (some .int) 1 [.ref (mmad k 97), .int a1] F (some (.int r)) F := by
  refine mm_start [(0, .ref (mmad k 97)), (1, .int a1)] (by decide) (Nat.le_of_ble_eq_true rfl) rfl ?_
  intro z hz C
  subst hz
  have C : mm_C z k RX12 cX12_hintAt 3 (some .int) 1 := C
  replace h := mk0 h
  unfold m_X12_hintAt_97 at h
  refine mm_aload_n C dX12_hintAt_0 rfl 0 rfl 1 rfl ?_
  refine mm_get C fl_X12_53_X12 (by decide) (mc_97 k _) rfl dX12_hintAt_1 4 rfl ?_
  refine mm_iconst (v := (1 : Int32)) C dX12_hintAt_4 (by decide) 5 rfl ?_
  obtain ⟨x1, ex1, h⟩ := mb h
  refine mm_zald C ex1 dX12_hintAt_5 6 rfl ?_
  refine mj1 h (fun (y4 : Int32) => mm_AW z k 3 (some (.int r)) F F 32 [(0, .ref (mmad k 97))] [.int y4]) ?_ ?_
  · intro y4 h
    refine mm_istore_n (lv2 := [(2, .int y4), (0, .ref (mmad k 97))]) C dX12_hintAt_32 rfl (by decide) rfl 33 rfl ?_
    refine mm_iload_n C dX12_hintAt_33 rfl 0 rfl 34 rfl ?_
    refine mm_iconst (v := (0 : Int32)) C dX12_hintAt_34 (by decide) 35 rfl ?_
    refine mm_aload_n C dX12_hintAt_35 rfl 1 rfl 36 rfl ?_
    refine mm_get C fl_X12_17_X12 (by decide) (mc_97 k _) rfl dX12_hintAt_36 39 rfl ?_
    refine mm_iconst (v := (1 : Int32)) C dX12_hintAt_39 (by decide) 40 rfl ?_
    refine mm_isub C dX12_hintAt_40 41 rfl ?_
    obtain ⟨x5, ex5, h⟩ := mb h
    refine mm_callS [.int y4, .int (0 : Int32), .int ((F 97 2) - (1 : Int32))] C (c_X12_in ex5) wb_X12_in ws_X12_69 rfl (by omega) rfl (Nat.le_of_ble_eq_true rfl) dX12_hintAt_41 44 rfl ?_
    show mm_AW z k 3 (some (.int r)) F F 44 [(2, .int y4), (0, .ref (mmad k 97))] [.int x5]
    refine mm_if_eq C dX12_hintAt_44 51 47 (by decide) rfl (fun hc => ?_) (fun hc => ?_)
    · rw [if_pos hc] at h
      refine mm_iconst (v := (-1 : Int32)) C dX12_hintAt_51 (by decide) 52 rfl ?_
      exact mm_iretP C (h) dX12_hintAt_52
    · rw [if_neg hc] at h
      refine mm_iload_n C dX12_hintAt_47 rfl 0 rfl 48 rfl ?_
      refine mm_goto C dX12_hintAt_48 52 (by decide) ?_
      exact mm_iretP C (h) dX12_hintAt_52
  · intro K2 hR32 h
    refine mm_if_eq C dX12_hintAt_6 31 9 (by decide) rfl (fun hc => ?_) (fun hc => ?_)
    · rw [if_pos hc] at h
      refine mm_iconst (v := (-1 : Int32)) C dX12_hintAt_31 (by decide) 32 rfl ?_
      refine mm_lv [0] rfl ?_
      exact hR32 _ h
    · rw [if_neg hc] at h
      refine mm_iload_n C dX12_hintAt_9 rfl 1 rfl 10 rfl ?_
      refine mm_aload_n C dX12_hintAt_10 rfl 0 rfl 11 rfl ?_
      refine mm_get C fl_X12_60_X12 (by decide) (mc_97 k _) rfl dX12_hintAt_11 14 rfl ?_
      refine mm_iconst (v := (1 : Int32)) C dX12_hintAt_14 (by decide) 15 rfl ?_
      obtain ⟨x2, ex2, h⟩ := mb h
      refine mm_iald C ex2 dX12_hintAt_15 16 rfl ?_
      refine mm_icmp_ge C dX12_hintAt_16 31 19 (by decide) rfl (fun hc => ?_) (fun hc => ?_)
      · rw [if_pos hc] at h
        refine mm_iconst (v := (-1 : Int32)) C dX12_hintAt_31 (by decide) 32 rfl ?_
        refine mm_lv [0] rfl ?_
        exact hR32 _ h
      · rw [if_neg hc] at h
        refine mm_aload_n C dX12_hintAt_19 rfl 0 rfl 20 rfl ?_
        refine mm_get C fl_X12_63_X12 (by decide) (mc_97 k _) rfl dX12_hintAt_20 23 rfl ?_
        refine mm_bipush (v := (40 : Int32)) C dX12_hintAt_23 (by decide) 25 rfl ?_
        refine mm_iload_n C dX12_hintAt_25 rfl 1 rfl 26 rfl ?_
        refine mm_iadd C dX12_hintAt_26 27 rfl ?_
        obtain ⟨x3, ex3, h⟩ := mb h
        refine mm_iald C ex3 dX12_hintAt_27 28 rfl ?_
        refine mm_goto C dX12_hintAt_28 32 (by decide) ?_
        refine mm_lv [0] rfl ?_
        exact hR32 _ h
def m_X12_nearest_97_L4 (a1 : Int32) (F : mmS) : Nat → Int32 → Int32 → Option (Int32)
  | 0, _, _ => none
  | n3 + 1, v1, v2 => if (F 97 2) ≤ v2 then (some ((v1))) else (Option.bind (ald F 103 v2) fun x4 => Option.bind (m_X12_apart x4 a1) fun x5 => Option.bind (ald F 103 v1) fun x6 => Option.bind (m_X12_apart x6 a1) fun x7 => bd1 (if x7 ≤ x5 then (some (v1)) else (some (v2))) fun y8 => mlet (v2 + (1 : Int32)) fun x9 => m_X12_nearest_97_L4 a1 F n3 y8 x9)
def m_X12_nearest_97 (F : mmS) (a1 : Int32) : Option (Int32) :=
  bd1 (m_X12_nearest_97_L4 a1 F 300 (0 : Int32) (1 : Int32)) fun y10 => some y10
set_option maxHeartbeats 4000000 in
set_option maxRecDepth 100000 in
theorem c_X12_nearest_97 {l : Launch} {k : mmK} {F : mmS} {a1 : Int32} {r : Int32} (h : m_X12_nearest_97 F a1 = some r) : mm_T l k yX12_nearest cX12_nearest 4 (some .int) 1 [.ref (mmad k 97), .int a1] F (some (.int r)) F := by
  refine mm_start [(0, .ref (mmad k 97)), (1, .int a1)] (by decide) (Nat.le_of_ble_eq_true rfl) rfl ?_
  intro z hz C
  subst hz
  have C : mm_C z k RX12 cX12_nearest 4 (some .int) 1 := C
  replace h := mk0 h
  unfold m_X12_nearest_97 at h
  refine mm_iconst (v := (0 : Int32)) C dX12_nearest_0 (by decide) 1 rfl ?_
  refine mm_istore_n (lv2 := [(2, .int (0 : Int32)), (0, .ref (mmad k 97)), (1, .int a1)]) C dX12_nearest_1 rfl (by decide) rfl 2 rfl ?_
  refine mm_iconst (v := (1 : Int32)) C dX12_nearest_2 (by decide) 3 rfl ?_
  refine mm_istore_n (lv2 := [(3, .int (1 : Int32)), (2, .int (0 : Int32)), (0, .ref (mmad k 97)), (1, .int a1)]) C dX12_nearest_3 rfl (by decide) rfl 4 rfl ?_
  refine mm_lv [2, 3, 1, 0] rfl ?_
  have hL4 : ∀ (K : (Int32) → Option (Int32)) (hK : ∀ (v1 : Int32) , K (v1) = some r → mm_AW z k 4 (some (.int r)) F F 47 [(2, .int v1)] []) (n3 : Nat) (v1 : Int32) (v2 : Int32) , (m_X12_nearest_97_L4 a1 F n3 v1 v2).bind K = some r → mm_AW z k 4 (some (.int r)) F F 4 [(0, .ref (mmad k 97)), (1, .int a1), (2, .int v1), (3, .int v2)] [] := by
    intro K hK n3
    induction n3 with
    | zero => intro v1 v2 h; rw [m_X12_nearest_97_L4] at h; cases h
    | succ n3 ih =>
      intro v1 v2 h
      rw [m_X12_nearest_97_L4] at h
      refine mm_iload_n C dX12_nearest_4 rfl 3 rfl 5 rfl ?_
      refine mm_aload_n C dX12_nearest_5 rfl 0 rfl 6 rfl ?_
      refine mm_get C fl_X12_17_X12 (by decide) (mc_97 k _) rfl dX12_nearest_6 9 rfl ?_
      refine mm_icmp_ge C dX12_nearest_9 47 12 (by decide) rfl (fun hc => ?_) (fun hc => ?_)
      · rw [if_pos hc] at h
        refine mm_lv [2] rfl ?_
        exact hK _ h
      · rw [if_neg hc] at h
        refine mm_aload_n C dX12_nearest_12 rfl 0 rfl 13 rfl ?_
        refine mm_get C fl_X12_35_X12 (by decide) (mc_97 k _) rfl dX12_nearest_13 16 rfl ?_
        refine mm_iload_n C dX12_nearest_16 rfl 3 rfl 17 rfl ?_
        obtain ⟨x4, ex4, h⟩ := mb h
        refine mm_iald C ex4 dX12_nearest_17 18 rfl ?_
        refine mm_iload_n C dX12_nearest_18 rfl 1 rfl 19 rfl ?_
        obtain ⟨x5, ex5, h⟩ := mb h
        refine mm_callS [.int x4, .int a1] C (c_X12_apart ex5) wb_X12_apart ws_X12_95 rfl (by omega) rfl (Nat.le_of_ble_eq_true rfl) dX12_nearest_19 22 rfl ?_
        show mm_AW z k 4 (some (.int r)) F F 22 [(0, .ref (mmad k 97)), (1, .int a1), (2, .int v1), (3, .int v2)] [.int x5]
        refine mm_aload_n C dX12_nearest_22 rfl 0 rfl 23 rfl ?_
        refine mm_get C fl_X12_35_X12 (by decide) (mc_97 k _) rfl dX12_nearest_23 26 rfl ?_
        refine mm_iload_n C dX12_nearest_26 rfl 2 rfl 27 rfl ?_
        obtain ⟨x6, ex6, h⟩ := mb h
        refine mm_iald C ex6 dX12_nearest_27 28 rfl ?_
        refine mm_iload_n C dX12_nearest_28 rfl 1 rfl 29 rfl ?_
        obtain ⟨x7, ex7, h⟩ := mb h
        refine mm_callS [.int x6, .int a1] C (c_X12_apart ex7) wb_X12_apart ws_X12_95 rfl (by omega) rfl (Nat.le_of_ble_eq_true rfl) dX12_nearest_29 32 rfl ?_
        show mm_AW z k 4 (some (.int r)) F F 32 [(0, .ref (mmad k 97)), (1, .int a1), (2, .int v1), (3, .int v2)] [.int x7, .int x5]
        refine mj1 h (fun (y8 : Int32) => mm_AW z k 4 (some (.int r)) F F 40 [(0, .ref (mmad k 97)), (1, .int a1), (3, .int v2)] [.int y8]) ?_ ?_
        · intro y8 h
          refine mm_istore_n (lv2 := [(2, .int y8), (0, .ref (mmad k 97)), (1, .int a1), (3, .int v2)]) C dX12_nearest_40 rfl (by decide) rfl 41 rfl ?_
          obtain ⟨x9, ex9, h⟩ := me h
          refine mm_iinc (v := x9) (lv2 := [(3, .int x9), (2, .int y8), (0, .ref (mmad k 97)), (1, .int a1)]) C dX12_nearest_41 3 rfl (by rw [← ex9]; rfl) (by decide) rfl 44 rfl ?_
          refine mm_goto C dX12_nearest_44 4 (by decide) ?_
          refine mm_lv [2, 3, 1, 0] rfl ?_
          exact ih _ _ h
        · intro K2 hR40 h
          refine mm_icmp_ge C dX12_nearest_32 39 35 (by decide) rfl (fun hc => ?_) (fun hc => ?_)
          · rw [if_pos hc] at h
            refine mm_iload_n C dX12_nearest_39 rfl 2 rfl 40 rfl ?_
            refine mm_lv [0, 1, 3] rfl ?_
            exact hR40 _ h
          · rw [if_neg hc] at h
            refine mm_iload_n C dX12_nearest_35 rfl 3 rfl 36 rfl ?_
            refine mm_goto C dX12_nearest_36 40 (by decide) ?_
            refine mm_lv [0, 1, 3] rfl ?_
            exact hR40 _ h
  refine mj1 h (fun (y10 : Int32) => mm_AW z k 4 (some (.int r)) F F 47 [(2, .int y10)] []) ?_ ?_
  · intro y10 h
    refine mm_iload_n C dX12_nearest_47 rfl 0 rfl 48 rfl ?_
    exact mm_iretP C (h) dX12_nearest_48
  · intro K2 hR h
    exact hL4 K2 hR 300 _ _ h
def m_X12_sends_97 (F : mmS) (a1 : Int32) (a2 : Int32) : Option (mmS) :=
  Option.bind (ald F 103 a1) fun x1 => Option.bind (m_X12_apart x1 a2) fun x2 => mlet (stF F 97 11 ((F 97 11) + x2)) fun G3 => Option.bind (ast G3 103 a1 a2) fun G4 => mlet (stF G4 97 12 a1) fun G5 => some G5
set_option maxHeartbeats 4000000 in
set_option maxRecDepth 100000 in
theorem c_X12_sends_97 {l : Launch} {k : mmK} {F : mmS} {a1 : Int32} {a2 : Int32} {F1 : mmS} (h : m_X12_sends_97 F a1 a2 = some F1) : mm_T l k yX12_sends cX12_sends 3 none 1 [.ref (mmad k 97), .int a1, .int a2] F none F1 := by
  refine mm_start [(0, .ref (mmad k 97)), (1, .int a1), (2, .int a2)] (by decide) (Nat.le_of_ble_eq_true rfl) rfl ?_
  intro z hz C
  subst hz
  have C : mm_C z k RX12 cX12_sends 3 none 1 := C
  replace h := mk0 h
  unfold m_X12_sends_97 at h
  refine mm_aload_n C dX12_sends_0 rfl 0 rfl 1 rfl ?_
  refine mm_dup C dX12_sends_1 rfl 2 rfl ?_
  refine mm_get C fl_X12_115_X12 (by decide) (mc_97 k _) rfl dX12_sends_2 5 rfl ?_
  refine mm_aload_n C dX12_sends_5 rfl 0 rfl 6 rfl ?_
  refine mm_get C fl_X12_35_X12 (by decide) (mc_97 k _) rfl dX12_sends_6 9 rfl ?_
  refine mm_iload_n C dX12_sends_9 rfl 1 rfl 10 rfl ?_
  obtain ⟨x1, ex1, h⟩ := mb h
  refine mm_iald C ex1 dX12_sends_10 11 rfl ?_
  refine mm_iload_n C dX12_sends_11 rfl 2 rfl 12 rfl ?_
  obtain ⟨x2, ex2, h⟩ := mb h
  refine mm_callS [.int x1, .int a2] C (c_X12_apart ex2) wb_X12_apart ws_X12_95 rfl (by omega) rfl (Nat.le_of_ble_eq_true rfl) dX12_sends_12 15 rfl ?_
  show mm_AW z k 3 none F1 F 15 [(0, .ref (mmad k 97)), (1, .int a1), (2, .int a2)] [.int x2, .int (F 97 11), .ref (mmad k 97)]
  refine mm_iadd C dX12_sends_15 16 rfl ?_
  obtain ⟨G3, eG3, h⟩ := me h
  refine mm_put (x := ((F 97 11) + x2)) (ty := .int) C fl_X12_115_X12 (by decide) (mc_97 k _) (mc_97 k _) tyX12 tyX12_ok nmX12 rfl (by decide +kernel) rfl rfl (Nat.le_of_ble_eq_true rfl) eG3 dX12_sends_16 19 rfl ?_
  refine mm_aload_n C dX12_sends_19 rfl 0 rfl 20 rfl ?_
  refine mm_get C fl_X12_35_X12 (by decide) (mc_97 k _) rfl dX12_sends_20 23 rfl ?_
  refine mm_iload_n C dX12_sends_23 rfl 1 rfl 24 rfl ?_
  refine mm_iload_n C dX12_sends_24 rfl 2 rfl 25 rfl ?_
  obtain ⟨G4, eG4, h⟩ := mb h
  refine mm_iast C eG4 dX12_sends_25 26 rfl ?_
  refine mm_aload_n C dX12_sends_26 rfl 0 rfl 27 rfl ?_
  refine mm_iload_n C dX12_sends_27 rfl 1 rfl 28 rfl ?_
  obtain ⟨G5, eG5, h⟩ := me h
  refine mm_put (x := a1) (ty := .int) C fl_X12_118_X12 (by decide) (mc_97 k _) (mc_97 k _) tyX12 tyX12_ok nmX12 rfl (by decide +kernel) rfl rfl (Nat.le_of_ble_eq_true rfl) eG5 dX12_sends_28 31 rfl ?_
  exact mm_vretW C (h) dX12_sends_31
def m_X12_worksOn_97_L15 (a1 : Int32) (v1 : Int32) (G2 : mmS) : Nat → Int32 → Int32 → Option (Int32)
  | 0, _, _ => none
  | n6 + 1, v4, v5 => if (G2 97 2) ≤ v5 then (some ((v4))) else (Option.bind (m_X12_isStanding_97 G2 v1) fun x7 => if x7 = (0 : Int32) then (some ((v4))) else (Option.bind (m_X12_with_97 v1 v5 a1) fun x8 => Option.bind (ald G2 104 x8) fun x9 => Option.bind (m_X12_wayTo_97 G2 v1 v5 a1) fun x10 => mlet (x9 + x10) fun x11 => bd1 (if v4 ≤ x11 then (some (v4)) else (some (x11))) fun y12 => mlet (v5 + (1 : Int32)) fun x13 => m_X12_worksOn_97_L15 a1 v1 G2 n6 y12 x13))
def m_X12_worksOn_97_L2 (a1 : Int32) : Nat → Int32 → mmS → Option (mmS)
  | 0, _, _ => none
  | n3 + 1, v1, G2 => if (216 : Int32) ≤ v1 then (some ((G2))) else (bd1 (m_X12_worksOn_97_L15 a1 v1 G2 300 (1000000000 : Int32) (0 : Int32)) fun y14 => Option.bind (ast G2 105 v1 y14) fun G15 => mlet (v1 + (1 : Int32)) fun x16 => m_X12_worksOn_97_L2 a1 n3 x16 G15)
def m_X12_worksOn_97_L90 : Nat → Int32 → mmS → Option (mmS)
  | 0, _, _ => none
  | n20 + 1, v18, G19 => if (216 : Int32) ≤ v18 then (some ((G19))) else (Option.bind (ald G19 105 v18) fun x21 => Option.bind (ast G19 104 v18 x21) fun G22 => mlet (v18 + (1 : Int32)) fun x23 => m_X12_worksOn_97_L90 n20 x23 G22)
def m_X12_worksOn_97 (F : mmS) (a1 : Int32) : Option (mmS) :=
  bd1 (m_X12_worksOn_97_L2 a1 300 (0 : Int32) F) fun G17 => bd1 (m_X12_worksOn_97_L90 300 (0 : Int32) G17) fun G24 => some G24
set_option maxHeartbeats 4000000 in
set_option maxRecDepth 100000 in
theorem c_X12_worksOn_97 {l : Launch} {k : mmK} {F : mmS} {a1 : Int32} {F1 : mmS} (h : m_X12_worksOn_97 F a1 = some F1) : mm_T l k yX12_worksOn cX12_worksOn 6 none 2 [.ref (mmad k 97), .int a1] F none F1 := by
  refine mm_start [(0, .ref (mmad k 97)), (1, .int a1)] (by decide) (Nat.le_of_ble_eq_true rfl) rfl ?_
  intro z hz C
  subst hz
  have C : mm_C z k RX12 cX12_worksOn 6 none 2 := C
  replace h := mk0 h
  unfold m_X12_worksOn_97 at h
  refine mm_iconst (v := (0 : Int32)) C dX12_worksOn_0 (by decide) 1 rfl ?_
  refine mm_istore_n (lv2 := [(2, .int (0 : Int32)), (0, .ref (mmad k 97)), (1, .int a1)]) C dX12_worksOn_1 rfl (by decide) rfl 2 rfl ?_
  refine mm_lv [1, 2, 0] rfl ?_
  have hL2 : ∀ (K : (mmS) → Option (mmS)) (hK : ∀ (G2 : mmS) , K (G2) = some F1 → mm_AW z k 6 none F1 G2 88 [(0, .ref (mmad k 97))] []) (n3 : Nat) (v1 : Int32) (G2 : mmS) , (m_X12_worksOn_97_L2 a1 n3 v1 G2).bind K = some F1 → mm_AW z k 6 none F1 G2 2 [(0, .ref (mmad k 97)), (1, .int a1), (2, .int v1)] [] := by
    intro K hK n3
    induction n3 with
    | zero => intro v1 G2 h; rw [m_X12_worksOn_97_L2] at h; cases h
    | succ n3 ih =>
      intro v1 G2 h
      rw [m_X12_worksOn_97_L2] at h
      refine mm_iload_n C dX12_worksOn_2 rfl 2 rfl 3 rfl ?_
      refine mm_sipush (v := (216 : Int32)) C dX12_worksOn_3 (by decide) 6 rfl ?_
      refine mm_icmp_ge C dX12_worksOn_6 88 9 (by decide) rfl (fun hc => ?_) (fun hc => ?_)
      · rw [if_pos hc] at h
        refine mm_lv [0] rfl ?_
        exact hK _ h
      · rw [if_neg hc] at h
        refine mm_ldc (v := (1000000000 : Int32)) C dX12_worksOn_9 mw_1007 11 rfl ?_
        refine mm_istore_n (lv2 := [(3, .int (1000000000 : Int32)), (0, .ref (mmad k 97)), (1, .int a1), (2, .int v1)]) C dX12_worksOn_11 rfl (by decide) rfl 12 rfl ?_
        refine mm_iconst (v := (0 : Int32)) C dX12_worksOn_12 (by decide) 13 rfl ?_
        refine mm_istore (lv2 := [(4, .int (0 : Int32)), (3, .int (1000000000 : Int32)), (0, .ref (mmad k 97)), (1, .int a1), (2, .int v1)]) C dX12_worksOn_13 (by decide) rfl 15 rfl ?_
        refine mm_lv [2, 3, 4, 1, 0] rfl ?_
        have hL15 : ∀ (K : (Int32) → Option (mmS)) (hK : ∀ (v4 : Int32) , K (v4) = some F1 → mm_AW z k 6 none F1 G2 75 [(0, .ref (mmad k 97)), (1, .int a1), (2, .int v1), (3, .int v4)] []) (n6 : Nat) (v4 : Int32) (v5 : Int32) , (m_X12_worksOn_97_L15 a1 v1 G2 n6 v4 v5).bind K = some F1 → mm_AW z k 6 none F1 G2 15 [(0, .ref (mmad k 97)), (1, .int a1), (2, .int v1), (3, .int v4), (4, .int v5)] [] := by
          intro K hK n6
          induction n6 with
          | zero => intro v4 v5 h; rw [m_X12_worksOn_97_L15] at h; cases h
          | succ n6 ih =>
            intro v4 v5 h
            rw [m_X12_worksOn_97_L15] at h
            refine mm_iload C dX12_worksOn_15 4 rfl 17 rfl ?_
            refine mm_aload_n C dX12_worksOn_17 rfl 0 rfl 18 rfl ?_
            refine mm_get C fl_X12_17_X12 (by decide) (mc_97 k _) rfl dX12_worksOn_18 21 rfl ?_
            refine mm_icmp_ge C dX12_worksOn_21 75 24 (by decide) rfl (fun hc => ?_) (fun hc => ?_)
            · rw [if_pos hc] at h
              refine mm_lv [0, 1, 2, 3] rfl ?_
              exact hK _ h
            · rw [if_neg hc] at h
              refine mm_aload_n C dX12_worksOn_24 rfl 0 rfl 25 rfl ?_
              refine mm_iload_n C dX12_worksOn_25 rfl 2 rfl 26 rfl ?_
              obtain ⟨x7, ex7, h⟩ := mb h
              refine mm_callV [.int v1] C (c_X12_isStanding_97 ex7) wb_X12_isStanding wv_X12_99 (by decide) (mc_97 k _) rfl rfl rfl (by omega) rfl (Nat.le_of_ble_eq_true rfl) dX12_worksOn_26 29 rfl ?_
              show mm_AW z k 6 none F1 G2 29 [(0, .ref (mmad k 97)), (1, .int a1), (2, .int v1), (3, .int v4), (4, .int v5)] [.int x7]
              refine mm_if_eq C dX12_worksOn_29 75 32 (by decide) rfl (fun hc => ?_) (fun hc => ?_)
              · rw [if_pos hc] at h
                refine mm_lv [0, 1, 2, 3] rfl ?_
                exact hK _ h
              · rw [if_neg hc] at h
                refine mm_aload_n C dX12_worksOn_32 rfl 0 rfl 33 rfl ?_
                refine mm_get C fl_X12_38_X12 (by decide) (mc_97 k _) rfl dX12_worksOn_33 36 rfl ?_
                refine mm_aload_n C dX12_worksOn_36 rfl 0 rfl 37 rfl ?_
                refine mm_iload_n C dX12_worksOn_37 rfl 2 rfl 38 rfl ?_
                refine mm_iload C dX12_worksOn_38 4 rfl 40 rfl ?_
                refine mm_iload_n C dX12_worksOn_40 rfl 1 rfl 41 rfl ?_
                obtain ⟨x8, ex8, h⟩ := mb h
                refine mm_callV [.int v1, .int v5, .int a1] C (c_X12_with_97 ex8) wb_X12_with wv_X12_91 (by decide) (mc_97 k _) rfl rfl rfl (by omega) rfl (Nat.le_of_ble_eq_true rfl) dX12_worksOn_41 44 rfl ?_
                show mm_AW z k 6 none F1 G2 44 [(0, .ref (mmad k 97)), (1, .int a1), (2, .int v1), (3, .int v4), (4, .int v5)] [.int x8, .ref (mmad k 104)]
                obtain ⟨x9, ex9, h⟩ := mb h
                refine mm_iald C ex9 dX12_worksOn_44 45 rfl ?_
                refine mm_aload_n C dX12_worksOn_45 rfl 0 rfl 46 rfl ?_
                refine mm_iload_n C dX12_worksOn_46 rfl 2 rfl 47 rfl ?_
                refine mm_iload C dX12_worksOn_47 4 rfl 49 rfl ?_
                refine mm_iload_n C dX12_worksOn_49 rfl 1 rfl 50 rfl ?_
                obtain ⟨x10, ex10, h⟩ := mb h
                refine mm_callV [.int v1, .int v5, .int a1] C (c_X12_wayTo_97 ex10) wb_X12_wayTo wv_X12_102 (by decide) (mc_97 k _) rfl rfl rfl (by omega) rfl (Nat.le_of_ble_eq_true rfl) dX12_worksOn_50 53 rfl ?_
                show mm_AW z k 6 none F1 G2 53 [(0, .ref (mmad k 97)), (1, .int a1), (2, .int v1), (3, .int v4), (4, .int v5)] [.int x10, .int x9]
                refine mm_iadd C dX12_worksOn_53 54 rfl ?_
                obtain ⟨x11, ex11, h⟩ := me h
                refine mm_top ex11 ?_
                refine mm_istore (lv2 := [(5, .int x11), (0, .ref (mmad k 97)), (1, .int a1), (2, .int v1), (3, .int v4), (4, .int v5)]) C dX12_worksOn_54 (by decide) rfl 56 rfl ?_
                refine mm_iload C dX12_worksOn_56 0 rfl 58 rfl ?_
                refine mm_iload_n C dX12_worksOn_58 rfl 4 rfl 59 rfl ?_
                refine mj1 h (fun (y12 : Int32) => mm_AW z k 6 none F1 G2 68 [(0, .ref (mmad k 97)), (1, .int a1), (2, .int v1), (4, .int v5)] [.int y12]) ?_ ?_
                · intro y12 h
                  refine mm_istore_n (lv2 := [(3, .int y12), (0, .ref (mmad k 97)), (1, .int a1), (2, .int v1), (4, .int v5)]) C dX12_worksOn_68 rfl (by decide) rfl 69 rfl ?_
                  obtain ⟨x13, ex13, h⟩ := me h
                  refine mm_iinc (v := x13) (lv2 := [(4, .int x13), (3, .int y12), (0, .ref (mmad k 97)), (1, .int a1), (2, .int v1)]) C dX12_worksOn_69 4 rfl (by rw [← ex13]; rfl) (by decide) rfl 72 rfl ?_
                  refine mm_goto C dX12_worksOn_72 15 (by decide) ?_
                  refine mm_lv [2, 3, 4, 1, 0] rfl ?_
                  exact ih _ _ h
                · intro K2 hR68 h
                  refine mm_icmp_ge C dX12_worksOn_59 67 62 (by decide) rfl (fun hc => ?_) (fun hc => ?_)
                  · rw [if_pos hc] at h
                    refine mm_iload_n C dX12_worksOn_67 rfl 4 rfl 68 rfl ?_
                    refine mm_lv [1, 2, 3, 5] rfl ?_
                    exact hR68 _ h
                  · rw [if_neg hc] at h
                    refine mm_iload C dX12_worksOn_62 0 rfl 64 rfl ?_
                    refine mm_goto C dX12_worksOn_64 68 (by decide) ?_
                    refine mm_lv [1, 2, 3, 5] rfl ?_
                    exact hR68 _ h
        refine mj1 h (fun (y14 : Int32) => mm_AW z k 6 none F1 G2 75 [(0, .ref (mmad k 97)), (1, .int a1), (2, .int v1), (3, .int y14)] []) ?_ ?_
        · intro y14 h
          refine mm_aload_n C dX12_worksOn_75 rfl 0 rfl 76 rfl ?_
          refine mm_get C fl_X12_41_X12 (by decide) (mc_97 k _) rfl dX12_worksOn_76 79 rfl ?_
          refine mm_iload_n C dX12_worksOn_79 rfl 2 rfl 80 rfl ?_
          refine mm_iload_n C dX12_worksOn_80 rfl 3 rfl 81 rfl ?_
          obtain ⟨G15, eG15, h⟩ := mb h
          refine mm_iast C eG15 dX12_worksOn_81 82 rfl ?_
          obtain ⟨x16, ex16, h⟩ := me h
          refine mm_iinc (v := x16) (lv2 := [(2, .int x16), (0, .ref (mmad k 97)), (1, .int a1), (3, .int y14)]) C dX12_worksOn_82 2 rfl (by rw [← ex16]; rfl) (by decide) rfl 85 rfl ?_
          refine mm_goto C dX12_worksOn_85 2 (by decide) ?_
          refine mm_lv [1, 2, 0] rfl ?_
          exact ih _ _ h
        · intro K2 hR h
          exact hL15 K2 hR 300 _ _ h
  refine mj1 h (fun (G17 : mmS) => mm_AW z k 6 none F1 G17 88 [(0, .ref (mmad k 97))] []) ?_ ?_
  · intro G17 h
    refine mm_iconst (v := (0 : Int32)) C dX12_worksOn_88 (by decide) 89 rfl ?_
    refine mm_istore_n (lv2 := [(2, .int (0 : Int32)), (0, .ref (mmad k 97))]) C dX12_worksOn_89 rfl (by decide) rfl 90 rfl ?_
    refine mm_lv [1, 0] rfl ?_
    have hL90 : ∀ (K : (mmS) → Option (mmS)) (hK : ∀ (G19 : mmS) , K (G19) = some F1 → mm_AW z k 6 none F1 G19 115 [] []) (n20 : Nat) (v18 : Int32) (G19 : mmS) , (m_X12_worksOn_97_L90 n20 v18 G19).bind K = some F1 → mm_AW z k 6 none F1 G19 90 [(0, .ref (mmad k 97)), (2, .int v18)] [] := by
      intro K hK n20
      induction n20 with
      | zero => intro v18 G19 h; rw [m_X12_worksOn_97_L90] at h; cases h
      | succ n20 ih =>
        intro v18 G19 h
        rw [m_X12_worksOn_97_L90] at h
        refine mm_iload_n C dX12_worksOn_90 rfl 1 rfl 91 rfl ?_
        refine mm_sipush (v := (216 : Int32)) C dX12_worksOn_91 (by decide) 94 rfl ?_
        refine mm_icmp_ge C dX12_worksOn_94 115 97 (by decide) rfl (fun hc => ?_) (fun hc => ?_)
        · rw [if_pos hc] at h
          refine mm_lv [] rfl ?_
          exact hK _ h
        · rw [if_neg hc] at h
          refine mm_aload_n C dX12_worksOn_97 rfl 0 rfl 98 rfl ?_
          refine mm_get C fl_X12_38_X12 (by decide) (mc_97 k _) rfl dX12_worksOn_98 101 rfl ?_
          refine mm_iload_n C dX12_worksOn_101 rfl 1 rfl 102 rfl ?_
          refine mm_aload_n C dX12_worksOn_102 rfl 0 rfl 103 rfl ?_
          refine mm_get C fl_X12_41_X12 (by decide) (mc_97 k _) rfl dX12_worksOn_103 106 rfl ?_
          refine mm_iload_n C dX12_worksOn_106 rfl 1 rfl 107 rfl ?_
          obtain ⟨x21, ex21, h⟩ := mb h
          refine mm_iald C ex21 dX12_worksOn_107 108 rfl ?_
          obtain ⟨G22, eG22, h⟩ := mb h
          refine mm_iast C eG22 dX12_worksOn_108 109 rfl ?_
          obtain ⟨x23, ex23, h⟩ := me h
          refine mm_iinc (v := x23) (lv2 := [(2, .int x23), (0, .ref (mmad k 97))]) C dX12_worksOn_109 1 rfl (by rw [← ex23]; rfl) (by decide) rfl 112 rfl ?_
          refine mm_goto C dX12_worksOn_112 90 (by decide) ?_
          refine mm_lv [1, 0] rfl ?_
          exact ih _ _ h
    refine mj1 h (fun (G24 : mmS) => mm_AW z k 6 none F1 G24 115 [] []) ?_ ?_
    · intro G24 h
      exact mm_vretW C (h) dX12_worksOn_115
    · intro K2 hR h
      exact hL90 K2 hR 300 _ _ h
  · intro K2 hR h
    exact hL2 K2 hR 300 _ _ h
def m_X12_goesByWork_97_L9 (a1 : Int32) (G1 : mmS) : Nat → Int32 → Int32 → Option (Int32)
  | 0, _, _ => none
  | n4 + 1, v2, v3 => if (G1 97 2) ≤ v3 then (some ((v2))) else (Option.bind (m_X12_with_97 (G1 97 10) v3 a1) fun x5 => Option.bind (ald G1 104 x5) fun x6 => Option.bind (m_X12_wayTo_97 G1 (G1 97 10) v3 a1) fun x7 => mlet (x6 + x7) fun x8 => Option.bind (m_X12_with_97 (G1 97 10) v2 a1) fun x9 => Option.bind (ald G1 104 x9) fun x10 => Option.bind (m_X12_wayTo_97 G1 (G1 97 10) v2 a1) fun x11 => bd1 (if (x10 + x11) ≤ x8 then (some (v2)) else (some (v3))) fun y12 => mlet (v3 + (1 : Int32)) fun x13 => m_X12_goesByWork_97_L9 a1 G1 n4 y12 x13)
def m_X12_goesByWork_97 (F : mmS) (a1 : Int32) : Option (mmS) :=
  Option.bind (m_X12_worksOn_97 F a1) fun G1 => bd1 (m_X12_goesByWork_97_L9 a1 G1 300 (0 : Int32) (1 : Int32)) fun y14 => Option.bind (ald G1 98 a1) fun x15 => Option.bind (m_X12_sends_97 G1 y14 x15) fun G16 => Option.bind (m_X12_with_97 (G16 97 10) y14 a1) fun x17 => mlet (stF G16 97 10 x17) fun G18 => some G18
set_option maxHeartbeats 4000000 in
set_option maxRecDepth 100000 in
theorem c_X12_goesByWork_97 {l : Launch} {k : mmK} {F : mmS} {a1 : Int32} {F1 : mmS} (h : m_X12_goesByWork_97 F a1 = some F1) : mm_T l k yX12_goesByWork cX12_goesByWork 5 none 3 [.ref (mmad k 97), .int a1] F none F1 := by
  refine mm_start [(0, .ref (mmad k 97)), (1, .int a1)] (by decide) (Nat.le_of_ble_eq_true rfl) rfl ?_
  intro z hz C
  subst hz
  have C : mm_C z k RX12 cX12_goesByWork 5 none 3 := C
  replace h := mk0 h
  unfold m_X12_goesByWork_97 at h
  refine mm_aload_n C dX12_goesByWork_0 rfl 0 rfl 1 rfl ?_
  refine mm_iload_n C dX12_goesByWork_1 rfl 1 rfl 2 rfl ?_
  obtain ⟨G1, eG1, h⟩ := mb h
  refine mm_callV [.int a1] C (c_X12_worksOn_97 eG1) wb_X12_worksOn wv_X12_136 (by decide) (mc_97 k _) rfl rfl rfl (by omega) rfl (Nat.le_of_ble_eq_true rfl) dX12_goesByWork_2 5 rfl ?_
  show mm_AW z k 5 none F1 G1 5 [(0, .ref (mmad k 97)), (1, .int a1)] []
  refine mm_iconst (v := (0 : Int32)) C dX12_goesByWork_5 (by decide) 6 rfl ?_
  refine mm_istore_n (lv2 := [(2, .int (0 : Int32)), (0, .ref (mmad k 97)), (1, .int a1)]) C dX12_goesByWork_6 rfl (by decide) rfl 7 rfl ?_
  refine mm_iconst (v := (1 : Int32)) C dX12_goesByWork_7 (by decide) 8 rfl ?_
  refine mm_istore_n (lv2 := [(3, .int (1 : Int32)), (2, .int (0 : Int32)), (0, .ref (mmad k 97)), (1, .int a1)]) C dX12_goesByWork_8 rfl (by decide) rfl 9 rfl ?_
  refine mm_lv [2, 3, 1, 0] rfl ?_
  have hL9 : ∀ (K : (Int32) → Option (mmS)) (hK : ∀ (v2 : Int32) , K (v2) = some F1 → mm_AW z k 5 none F1 G1 88 [(0, .ref (mmad k 97)), (1, .int a1), (2, .int v2)] []) (n4 : Nat) (v2 : Int32) (v3 : Int32) , (m_X12_goesByWork_97_L9 a1 G1 n4 v2 v3).bind K = some F1 → mm_AW z k 5 none F1 G1 9 [(0, .ref (mmad k 97)), (1, .int a1), (2, .int v2), (3, .int v3)] [] := by
    intro K hK n4
    induction n4 with
    | zero => intro v2 v3 h; rw [m_X12_goesByWork_97_L9] at h; cases h
    | succ n4 ih =>
      intro v2 v3 h
      rw [m_X12_goesByWork_97_L9] at h
      refine mm_iload_n C dX12_goesByWork_9 rfl 3 rfl 10 rfl ?_
      refine mm_aload_n C dX12_goesByWork_10 rfl 0 rfl 11 rfl ?_
      refine mm_get C fl_X12_17_X12 (by decide) (mc_97 k _) rfl dX12_goesByWork_11 14 rfl ?_
      refine mm_icmp_ge C dX12_goesByWork_14 88 17 (by decide) rfl (fun hc => ?_) (fun hc => ?_)
      · rw [if_pos hc] at h
        refine mm_lv [0, 1, 2] rfl ?_
        exact hK _ h
      · rw [if_neg hc] at h
        refine mm_aload_n C dX12_goesByWork_17 rfl 0 rfl 18 rfl ?_
        refine mm_get C fl_X12_38_X12 (by decide) (mc_97 k _) rfl dX12_goesByWork_18 21 rfl ?_
        refine mm_aload_n C dX12_goesByWork_21 rfl 0 rfl 22 rfl ?_
        refine mm_aload_n C dX12_goesByWork_22 rfl 0 rfl 23 rfl ?_
        refine mm_get C fl_X12_129_X12 (by decide) (mc_97 k _) rfl dX12_goesByWork_23 26 rfl ?_
        refine mm_iload_n C dX12_goesByWork_26 rfl 3 rfl 27 rfl ?_
        refine mm_iload_n C dX12_goesByWork_27 rfl 1 rfl 28 rfl ?_
        obtain ⟨x5, ex5, h⟩ := mb h
        refine mm_callV [.int (G1 97 10), .int v3, .int a1] C (c_X12_with_97 ex5) wb_X12_with wv_X12_91 (by decide) (mc_97 k _) rfl rfl rfl (by omega) rfl (Nat.le_of_ble_eq_true rfl) dX12_goesByWork_28 31 rfl ?_
        show mm_AW z k 5 none F1 G1 31 [(0, .ref (mmad k 97)), (1, .int a1), (2, .int v2), (3, .int v3)] [.int x5, .ref (mmad k 104)]
        obtain ⟨x6, ex6, h⟩ := mb h
        refine mm_iald C ex6 dX12_goesByWork_31 32 rfl ?_
        refine mm_aload_n C dX12_goesByWork_32 rfl 0 rfl 33 rfl ?_
        refine mm_aload_n C dX12_goesByWork_33 rfl 0 rfl 34 rfl ?_
        refine mm_get C fl_X12_129_X12 (by decide) (mc_97 k _) rfl dX12_goesByWork_34 37 rfl ?_
        refine mm_iload_n C dX12_goesByWork_37 rfl 3 rfl 38 rfl ?_
        refine mm_iload_n C dX12_goesByWork_38 rfl 1 rfl 39 rfl ?_
        obtain ⟨x7, ex7, h⟩ := mb h
        refine mm_callV [.int (G1 97 10), .int v3, .int a1] C (c_X12_wayTo_97 ex7) wb_X12_wayTo wv_X12_102 (by decide) (mc_97 k _) rfl rfl rfl (by omega) rfl (Nat.le_of_ble_eq_true rfl) dX12_goesByWork_39 42 rfl ?_
        show mm_AW z k 5 none F1 G1 42 [(0, .ref (mmad k 97)), (1, .int a1), (2, .int v2), (3, .int v3)] [.int x7, .int x6]
        refine mm_iadd C dX12_goesByWork_42 43 rfl ?_
        obtain ⟨x8, ex8, h⟩ := me h
        refine mm_top ex8 ?_
        refine mm_istore (lv2 := [(4, .int x8), (0, .ref (mmad k 97)), (1, .int a1), (2, .int v2), (3, .int v3)]) C dX12_goesByWork_43 (by decide) rfl 45 rfl ?_
        refine mm_iload C dX12_goesByWork_45 0 rfl 47 rfl ?_
        refine mm_aload_n C dX12_goesByWork_47 rfl 1 rfl 48 rfl ?_
        refine mm_get C fl_X12_38_X12 (by decide) (mc_97 k _) rfl dX12_goesByWork_48 51 rfl ?_
        refine mm_aload_n C dX12_goesByWork_51 rfl 1 rfl 52 rfl ?_
        refine mm_aload_n C dX12_goesByWork_52 rfl 1 rfl 53 rfl ?_
        refine mm_get C fl_X12_129_X12 (by decide) (mc_97 k _) rfl dX12_goesByWork_53 56 rfl ?_
        refine mm_iload_n C dX12_goesByWork_56 rfl 3 rfl 57 rfl ?_
        refine mm_iload_n C dX12_goesByWork_57 rfl 2 rfl 58 rfl ?_
        obtain ⟨x9, ex9, h⟩ := mb h
        refine mm_callV [.int (G1 97 10), .int v2, .int a1] C (c_X12_with_97 ex9) wb_X12_with wv_X12_91 (by decide) (mc_97 k _) rfl rfl rfl (by omega) rfl (Nat.le_of_ble_eq_true rfl) dX12_goesByWork_58 61 rfl ?_
        show mm_AW z k 5 none F1 G1 61 [(4, .int x8), (0, .ref (mmad k 97)), (1, .int a1), (2, .int v2), (3, .int v3)] [.int x9, .ref (mmad k 104), .int x8]
        obtain ⟨x10, ex10, h⟩ := mb h
        refine mm_iald C ex10 dX12_goesByWork_61 62 rfl ?_
        refine mm_aload_n C dX12_goesByWork_62 rfl 1 rfl 63 rfl ?_
        refine mm_aload_n C dX12_goesByWork_63 rfl 1 rfl 64 rfl ?_
        refine mm_get C fl_X12_129_X12 (by decide) (mc_97 k _) rfl dX12_goesByWork_64 67 rfl ?_
        refine mm_iload_n C dX12_goesByWork_67 rfl 3 rfl 68 rfl ?_
        refine mm_iload_n C dX12_goesByWork_68 rfl 2 rfl 69 rfl ?_
        obtain ⟨x11, ex11, h⟩ := mb h
        refine mm_callV [.int (G1 97 10), .int v2, .int a1] C (c_X12_wayTo_97 ex11) wb_X12_wayTo wv_X12_102 (by decide) (mc_97 k _) rfl rfl rfl (by omega) rfl (Nat.le_of_ble_eq_true rfl) dX12_goesByWork_69 72 rfl ?_
        show mm_AW z k 5 none F1 G1 72 [(4, .int x8), (0, .ref (mmad k 97)), (1, .int a1), (2, .int v2), (3, .int v3)] [.int x11, .int x10, .int x8]
        refine mm_iadd C dX12_goesByWork_72 73 rfl ?_
        refine mj1 h (fun (y12 : Int32) => mm_AW z k 5 none F1 G1 81 [(0, .ref (mmad k 97)), (1, .int a1), (3, .int v3)] [.int y12]) ?_ ?_
        · intro y12 h
          refine mm_istore_n (lv2 := [(2, .int y12), (0, .ref (mmad k 97)), (1, .int a1), (3, .int v3)]) C dX12_goesByWork_81 rfl (by decide) rfl 82 rfl ?_
          obtain ⟨x13, ex13, h⟩ := me h
          refine mm_iinc (v := x13) (lv2 := [(3, .int x13), (2, .int y12), (0, .ref (mmad k 97)), (1, .int a1)]) C dX12_goesByWork_82 3 rfl (by rw [← ex13]; rfl) (by decide) rfl 85 rfl ?_
          refine mm_goto C dX12_goesByWork_85 9 (by decide) ?_
          refine mm_lv [2, 3, 1, 0] rfl ?_
          exact ih _ _ h
        · intro K2 hR81 h
          refine mm_icmp_ge C dX12_goesByWork_73 80 76 (by decide) rfl (fun hc => ?_) (fun hc => ?_)
          · rw [if_pos hc] at h
            refine mm_iload_n C dX12_goesByWork_80 rfl 3 rfl 81 rfl ?_
            refine mm_lv [1, 2, 4] rfl ?_
            exact hR81 _ h
          · rw [if_neg hc] at h
            refine mm_iload_n C dX12_goesByWork_76 rfl 4 rfl 77 rfl ?_
            refine mm_goto C dX12_goesByWork_77 81 (by decide) ?_
            refine mm_lv [1, 2, 4] rfl ?_
            exact hR81 _ h
  refine mj1 h (fun (y14 : Int32) => mm_AW z k 5 none F1 G1 88 [(0, .ref (mmad k 97)), (1, .int a1), (2, .int y14)] []) ?_ ?_
  · intro y14 h
    refine mm_aload_n C dX12_goesByWork_88 rfl 0 rfl 89 rfl ?_
    refine mm_iload_n C dX12_goesByWork_89 rfl 2 rfl 90 rfl ?_
    refine mm_aload_n C dX12_goesByWork_90 rfl 0 rfl 91 rfl ?_
    refine mm_get C fl_X12_13_X12 (by decide) (mc_97 k _) rfl dX12_goesByWork_91 94 rfl ?_
    refine mm_iload_n C dX12_goesByWork_94 rfl 1 rfl 95 rfl ?_
    obtain ⟨x15, ex15, h⟩ := mb h
    refine mm_iald C ex15 dX12_goesByWork_95 96 rfl ?_
    obtain ⟨G16, eG16, h⟩ := mb h
    refine mm_callV [.int y14, .int x15] C (c_X12_sends_97 eG16) wb_X12_sends wv_X12_125 (by decide) (mc_97 k _) rfl rfl rfl (by omega) rfl (Nat.le_of_ble_eq_true rfl) dX12_goesByWork_96 99 rfl ?_
    show mm_AW z k 5 none F1 G16 99 [(0, .ref (mmad k 97)), (1, .int a1), (2, .int y14)] []
    refine mm_aload_n C dX12_goesByWork_99 rfl 0 rfl 100 rfl ?_
    refine mm_aload_n C dX12_goesByWork_100 rfl 0 rfl 101 rfl ?_
    refine mm_aload_n C dX12_goesByWork_101 rfl 0 rfl 102 rfl ?_
    refine mm_get C fl_X12_129_X12 (by decide) (mc_97 k _) rfl dX12_goesByWork_102 105 rfl ?_
    refine mm_iload_n C dX12_goesByWork_105 rfl 2 rfl 106 rfl ?_
    refine mm_iload_n C dX12_goesByWork_106 rfl 1 rfl 107 rfl ?_
    obtain ⟨x17, ex17, h⟩ := mb h
    refine mm_callV [.int (G16 97 10), .int y14, .int a1] C (c_X12_with_97 ex17) wb_X12_with wv_X12_91 (by decide) (mc_97 k _) rfl rfl rfl (by omega) rfl (Nat.le_of_ble_eq_true rfl) dX12_goesByWork_107 110 rfl ?_
    show mm_AW z k 5 none F1 G16 110 [(0, .ref (mmad k 97)), (1, .int a1), (2, .int y14)] [.int x17, .ref (mmad k 97)]
    obtain ⟨G18, eG18, h⟩ := me h
    refine mm_put (x := x17) (ty := .int) C fl_X12_129_X12 (by decide) (mc_97 k _) (mc_97 k _) tyX12 tyX12_ok nmX12 rfl (by decide +kernel) rfl rfl (Nat.le_of_ble_eq_true rfl) eG18 dX12_goesByWork_110 113 rfl ?_
    exact mm_vretW C (h) dX12_goesByWork_113
  · intro K2 hR h
    exact hL9 K2 hR 300 _ _ h
def m_X12_nearestOn_97_L5 (a1 : Int32) (a2 : Int32) (F : mmS) : Nat → Int32 → Int32 → Option (Int32)
  | 0, _, _ => none
  | n3 + 1, v1, v2 => if (F 97 2) ≤ v2 then (some ((v1))) else (bd1 (if a2 = (0 : Int32) then (Option.bind (ald F 103 v2) fun x4 => if x4 ≤ a1 then (some ((0 : Int32))) else (some ((1 : Int32)))) else (Option.bind (ald F 103 v2) fun x5 => if a1 ≤ x5 then (some ((0 : Int32))) else (some ((1 : Int32))))) fun y6 => bd1 (if y6 = (0 : Int32) then (some (v1)) else (if v1 = (-1 : Int32) then (some (v2)) else (Option.bind (ald F 103 v2) fun x7 => Option.bind (m_X12_apart x7 a1) fun x8 => Option.bind (ald F 103 v1) fun x9 => Option.bind (m_X12_apart x9 a1) fun x10 => if x10 ≤ x8 then (some (v1)) else (some (v2))))) fun y11 => mlet (v2 + (1 : Int32)) fun x12 => m_X12_nearestOn_97_L5 a1 a2 F n3 y11 x12)
def m_X12_nearestOn_97 (F : mmS) (a1 : Int32) (a2 : Int32) : Option (Int32) :=
  bd1 (m_X12_nearestOn_97_L5 a1 a2 F 300 (-1 : Int32) (0 : Int32)) fun y13 => some y13
set_option maxHeartbeats 4000000 in
set_option maxRecDepth 100000 in
theorem c_X12_nearestOn_97 {l : Launch} {k : mmK} {F : mmS} {a1 : Int32} {a2 : Int32} {r : Int32} (h : m_X12_nearestOn_97 F a1 a2 = some r) : mm_T l k yX12_nearestOn cX12_nearestOn 6 (some .int) 1 [.ref (mmad k 97), .int a1, .int a2] F (some (.int r)) F := by
  refine mm_start [(0, .ref (mmad k 97)), (1, .int a1), (2, .int a2)] (by decide) (Nat.le_of_ble_eq_true rfl) rfl ?_
  intro z hz C
  subst hz
  have C : mm_C z k RX12 cX12_nearestOn 6 (some .int) 1 := C
  replace h := mk0 h
  unfold m_X12_nearestOn_97 at h
  refine mm_iconst (v := (-1 : Int32)) C dX12_nearestOn_0 (by decide) 1 rfl ?_
  refine mm_istore_n (lv2 := [(3, .int (-1 : Int32)), (0, .ref (mmad k 97)), (1, .int a1), (2, .int a2)]) C dX12_nearestOn_1 rfl (by decide) rfl 2 rfl ?_
  refine mm_iconst (v := (0 : Int32)) C dX12_nearestOn_2 (by decide) 3 rfl ?_
  refine mm_istore (lv2 := [(4, .int (0 : Int32)), (3, .int (-1 : Int32)), (0, .ref (mmad k 97)), (1, .int a1), (2, .int a2)]) C dX12_nearestOn_3 (by decide) rfl 5 rfl ?_
  refine mm_lv [2, 3, 4, 1, 0] rfl ?_
  have hL5 : ∀ (K : (Int32) → Option (Int32)) (hK : ∀ (v1 : Int32) , K (v1) = some r → mm_AW z k 6 (some (.int r)) F F 102 [(3, .int v1)] []) (n3 : Nat) (v1 : Int32) (v2 : Int32) , (m_X12_nearestOn_97_L5 a1 a2 F n3 v1 v2).bind K = some r → mm_AW z k 6 (some (.int r)) F F 5 [(0, .ref (mmad k 97)), (1, .int a1), (2, .int a2), (3, .int v1), (4, .int v2)] [] := by
    intro K hK n3
    induction n3 with
    | zero => intro v1 v2 h; rw [m_X12_nearestOn_97_L5] at h; cases h
    | succ n3 ih =>
      intro v1 v2 h
      rw [m_X12_nearestOn_97_L5] at h
      refine mm_iload C dX12_nearestOn_5 4 rfl 7 rfl ?_
      refine mm_aload_n C dX12_nearestOn_7 rfl 0 rfl 8 rfl ?_
      refine mm_get C fl_X12_17_X12 (by decide) (mc_97 k _) rfl dX12_nearestOn_8 11 rfl ?_
      refine mm_icmp_ge C dX12_nearestOn_11 102 14 (by decide) rfl (fun hc => ?_) (fun hc => ?_)
      · rw [if_pos hc] at h
        refine mm_lv [3] rfl ?_
        exact hK _ h
      · rw [if_neg hc] at h
        refine mm_iload_n C dX12_nearestOn_14 rfl 2 rfl 15 rfl ?_
        refine mj1 h (fun (y6 : Int32) => mm_AW z k 6 (some (.int r)) F F 53 [(0, .ref (mmad k 97)), (1, .int a1), (2, .int a2), (3, .int v1), (4, .int v2)] [.int y6]) ?_ ?_
        · intro y6 h
          refine mm_istore (lv2 := [(5, .int y6), (0, .ref (mmad k 97)), (1, .int a1), (2, .int a2), (3, .int v1), (4, .int v2)]) C dX12_nearestOn_53 (by decide) rfl 55 rfl ?_
          refine mm_iload C dX12_nearestOn_55 0 rfl 57 rfl ?_
          refine mj1 h (fun (y11 : Int32) => mm_AW z k 6 (some (.int r)) F F 95 [(0, .ref (mmad k 97)), (1, .int a1), (2, .int a2), (4, .int v2)] [.int y11]) ?_ ?_
          · intro y11 h
            refine mm_istore_n (lv2 := [(3, .int y11), (0, .ref (mmad k 97)), (1, .int a1), (2, .int a2), (4, .int v2)]) C dX12_nearestOn_95 rfl (by decide) rfl 96 rfl ?_
            obtain ⟨x12, ex12, h⟩ := me h
            refine mm_iinc (v := x12) (lv2 := [(4, .int x12), (3, .int y11), (0, .ref (mmad k 97)), (1, .int a1), (2, .int a2)]) C dX12_nearestOn_96 4 rfl (by rw [← ex12]; rfl) (by decide) rfl 99 rfl ?_
            refine mm_goto C dX12_nearestOn_99 5 (by decide) ?_
            refine mm_lv [2, 3, 4, 1, 0] rfl ?_
            exact ih _ _ h
          · intro K2 hR95 h
            refine mm_if_eq C dX12_nearestOn_57 94 60 (by decide) rfl (fun hc => ?_) (fun hc => ?_)
            · rw [if_pos hc] at h
              refine mm_iload_n C dX12_nearestOn_94 rfl 4 rfl 95 rfl ?_
              refine mm_lv [1, 2, 3, 5] rfl ?_
              exact hR95 _ h
            · rw [if_neg hc] at h
              refine mm_iload_n C dX12_nearestOn_60 rfl 4 rfl 61 rfl ?_
              refine mm_iconst (v := (-1 : Int32)) C dX12_nearestOn_61 (by decide) 62 rfl ?_
              refine mm_icmp_eq C dX12_nearestOn_62 89 65 (by decide) rfl (fun hc => ?_) (fun hc => ?_)
              · rw [if_pos hc] at h
                refine mm_iload C dX12_nearestOn_89 5 rfl 91 rfl ?_
                refine mm_goto C dX12_nearestOn_91 95 (by decide) ?_
                refine mm_lv [1, 2, 3, 5] rfl ?_
                exact hR95 _ h
              · rw [if_neg hc] at h
                refine mm_aload_n C dX12_nearestOn_65 rfl 1 rfl 66 rfl ?_
                refine mm_get C fl_X12_35_X12 (by decide) (mc_97 k _) rfl dX12_nearestOn_66 69 rfl ?_
                refine mm_iload C dX12_nearestOn_69 5 rfl 71 rfl ?_
                obtain ⟨x7, ex7, h⟩ := mb h
                refine mm_iald C ex7 dX12_nearestOn_71 72 rfl ?_
                refine mm_iload_n C dX12_nearestOn_72 rfl 2 rfl 73 rfl ?_
                obtain ⟨x8, ex8, h⟩ := mb h
                refine mm_callS [.int x7, .int a1] C (c_X12_apart ex8) wb_X12_apart ws_X12_95 rfl (by omega) rfl (Nat.le_of_ble_eq_true rfl) dX12_nearestOn_73 76 rfl ?_
                show mm_AW z k 6 (some (.int r)) F F 76 [(5, .int y6), (0, .ref (mmad k 97)), (1, .int a1), (2, .int a2), (3, .int v1), (4, .int v2)] [.int x8]
                refine mm_aload_n C dX12_nearestOn_76 rfl 1 rfl 77 rfl ?_
                refine mm_get C fl_X12_35_X12 (by decide) (mc_97 k _) rfl dX12_nearestOn_77 80 rfl ?_
                refine mm_iload_n C dX12_nearestOn_80 rfl 4 rfl 81 rfl ?_
                obtain ⟨x9, ex9, h⟩ := mb h
                refine mm_iald C ex9 dX12_nearestOn_81 82 rfl ?_
                refine mm_iload_n C dX12_nearestOn_82 rfl 2 rfl 83 rfl ?_
                obtain ⟨x10, ex10, h⟩ := mb h
                refine mm_callS [.int x9, .int a1] C (c_X12_apart ex10) wb_X12_apart ws_X12_95 rfl (by omega) rfl (Nat.le_of_ble_eq_true rfl) dX12_nearestOn_83 86 rfl ?_
                show mm_AW z k 6 (some (.int r)) F F 86 [(5, .int y6), (0, .ref (mmad k 97)), (1, .int a1), (2, .int a2), (3, .int v1), (4, .int v2)] [.int x10, .int x8]
                refine mm_icmp_ge C dX12_nearestOn_86 94 89 (by decide) rfl (fun hc => ?_) (fun hc => ?_)
                · rw [if_pos hc] at h
                  refine mm_iload_n C dX12_nearestOn_94 rfl 4 rfl 95 rfl ?_
                  refine mm_lv [1, 2, 3, 5] rfl ?_
                  exact hR95 _ h
                · rw [if_neg hc] at h
                  refine mm_iload C dX12_nearestOn_89 5 rfl 91 rfl ?_
                  refine mm_goto C dX12_nearestOn_91 95 (by decide) ?_
                  refine mm_lv [1, 2, 3, 5] rfl ?_
                  exact hR95 _ h
        · intro K2 hR53 h
          refine mm_if_eq C dX12_nearestOn_15 37 18 (by decide) rfl (fun hc => ?_) (fun hc => ?_)
          · rw [if_pos hc] at h
            refine mm_aload_n C dX12_nearestOn_37 rfl 0 rfl 38 rfl ?_
            refine mm_get C fl_X12_35_X12 (by decide) (mc_97 k _) rfl dX12_nearestOn_38 41 rfl ?_
            refine mm_iload C dX12_nearestOn_41 4 rfl 43 rfl ?_
            obtain ⟨x4, ex4, h⟩ := mb h
            refine mm_iald C ex4 dX12_nearestOn_43 44 rfl ?_
            refine mm_iload_n C dX12_nearestOn_44 rfl 1 rfl 45 rfl ?_
            refine mm_icmp_le C dX12_nearestOn_45 52 48 (by decide) rfl (fun hc => ?_) (fun hc => ?_)
            · rw [if_pos hc] at h
              refine mm_iconst (v := (0 : Int32)) C dX12_nearestOn_52 (by decide) 53 rfl ?_
              exact hR53 _ h
            · rw [if_neg hc] at h
              refine mm_iconst (v := (1 : Int32)) C dX12_nearestOn_48 (by decide) 49 rfl ?_
              refine mm_goto C dX12_nearestOn_49 53 (by decide) ?_
              exact hR53 _ h
          · rw [if_neg hc] at h
            refine mm_aload_n C dX12_nearestOn_18 rfl 0 rfl 19 rfl ?_
            refine mm_get C fl_X12_35_X12 (by decide) (mc_97 k _) rfl dX12_nearestOn_19 22 rfl ?_
            refine mm_iload C dX12_nearestOn_22 4 rfl 24 rfl ?_
            obtain ⟨x5, ex5, h⟩ := mb h
            refine mm_iald C ex5 dX12_nearestOn_24 25 rfl ?_
            refine mm_iload_n C dX12_nearestOn_25 rfl 1 rfl 26 rfl ?_
            refine mm_icmp_ge C dX12_nearestOn_26 33 29 (by decide) rfl (fun hc => ?_) (fun hc => ?_)
            · rw [if_pos hc] at h
              refine mm_iconst (v := (0 : Int32)) C dX12_nearestOn_33 (by decide) 34 rfl ?_
              refine mm_goto C dX12_nearestOn_34 53 (by decide) ?_
              exact hR53 _ h
            · rw [if_neg hc] at h
              refine mm_iconst (v := (1 : Int32)) C dX12_nearestOn_29 (by decide) 30 rfl ?_
              refine mm_goto C dX12_nearestOn_30 53 (by decide) ?_
              exact hR53 _ h
  refine mj1 h (fun (y13 : Int32) => mm_AW z k 6 (some (.int r)) F F 102 [(3, .int y13)] []) ?_ ?_
  · intro y13 h
    refine mm_iload_n C dX12_nearestOn_102 rfl 0 rfl 103 rfl ?_
    exact mm_iretP C (h) dX12_nearestOn_103
  · intro K2 hR h
    exact hL5 K2 hR 300 _ _ h
def m_X12_both_97_L2 (a1 : Int32) (F : mmS) : Nat → Int32 → Option ((mmS) ⊕ (Unit))
  | 0, _ => none
  | n2 + 1, v1 => if (F 97 2) ≤ v1 then (some (.inr ())) else (Option.bind (ald F 103 v1) fun x3 => if x3 = a1 then (some (.inl F)) else (mlet (v1 + (1 : Int32)) fun x4 => m_X12_both_97_L2 a1 F n2 x4))
def m_X12_both_97 (F : mmS) (a1 : Int32) : Option (mmS) :=
  bdE0 (m_X12_both_97_L2 a1 F 300 (0 : Int32)) fun _ => Option.bind (m_X12_nearestOn_97 F a1 (1 : Int32)) fun x5 => Option.bind (m_X12_nearestOn_97 F a1 (0 : Int32)) fun x6 => if x5 = (-1 : Int32) then (bd1 (if x5 = (-1 : Int32) then (some (x6)) else (some (x5))) fun y7 => Option.bind (m_X12_sends_97 F y7 a1) fun G8 => some G8) else (if x6 = (-1 : Int32) then (bd1 (if x5 = (-1 : Int32) then (some (x6)) else (some (x5))) fun y18 => Option.bind (m_X12_sends_97 F y18 a1) fun G19 => some G19) else (Option.bind (ald F 103 x5) fun x9 => Option.bind (ald F 103 x6) fun x10 => bd1 (if (x10 - a1) ≤ (a1 - x9) then (Option.bind (ald F 103 x6) fun x11 => some ((x11 - a1))) else (Option.bind (ald F 103 x5) fun x12 => some ((a1 - x12)))) fun y13 => Option.bind (ald F 103 x5) fun x14 => Option.bind (m_X12_sends_97 F x5 (x14 + y13)) fun G15 => Option.bind (ald G15 103 x6) fun x16 => Option.bind (m_X12_sends_97 G15 x6 (x16 - y13)) fun G17 => some G17))
set_option maxHeartbeats 4000000 in
set_option maxRecDepth 100000 in
theorem c_X12_both_97 {l : Launch} {k : mmK} {F : mmS} {a1 : Int32} {F1 : mmS} (h : m_X12_both_97 F a1 = some F1) : mm_T l k yX12_both cX12_both 5 none 2 [.ref (mmad k 97), .int a1] F none F1 := by
  refine mm_start [(0, .ref (mmad k 97)), (1, .int a1)] (by decide) (Nat.le_of_ble_eq_true rfl) rfl ?_
  intro z hz C
  subst hz
  have C : mm_C z k RX12 cX12_both 5 none 2 := C
  replace h := mk0 h
  unfold m_X12_both_97 at h
  refine mm_iconst (v := (0 : Int32)) C dX12_both_0 (by decide) 1 rfl ?_
  refine mm_istore_n (lv2 := [(2, .int (0 : Int32)), (0, .ref (mmad k 97)), (1, .int a1)]) C dX12_both_1 rfl (by decide) rfl 2 rfl ?_
  refine mm_lv [1, 2, 0] rfl ?_
  have hL2 : ∀ (K : ((mmS) ⊕ (Unit)) → Option (mmS)) (hK : K (.inr ()) = some F1 → mm_AW z k 5 none F1 F 27 [(0, .ref (mmad k 97)), (1, .int a1)] []) (hE : ∀ q : mmS, K (.inl q) = some F1 → q = F1) (n2 : Nat) (v1 : Int32) , (m_X12_both_97_L2 a1 F n2 v1).bind K = some F1 → mm_AW z k 5 none F1 F 2 [(0, .ref (mmad k 97)), (1, .int a1), (2, .int v1)] [] := by
    intro K hK hE n2
    induction n2 with
    | zero => intro v1 h; rw [m_X12_both_97_L2] at h; cases h
    | succ n2 ih =>
      intro v1 h
      rw [m_X12_both_97_L2] at h
      refine mm_iload_n C dX12_both_2 rfl 2 rfl 3 rfl ?_
      refine mm_aload_n C dX12_both_3 rfl 0 rfl 4 rfl ?_
      refine mm_get C fl_X12_17_X12 (by decide) (mc_97 k _) rfl dX12_both_4 7 rfl ?_
      refine mm_icmp_ge C dX12_both_7 27 10 (by decide) rfl (fun hc => ?_) (fun hc => ?_)
      · rw [if_pos hc] at h
        refine mm_lv [0, 1] rfl ?_
        exact hK h
      · rw [if_neg hc] at h
        refine mm_aload_n C dX12_both_10 rfl 0 rfl 11 rfl ?_
        refine mm_get C fl_X12_35_X12 (by decide) (mc_97 k _) rfl dX12_both_11 14 rfl ?_
        refine mm_iload_n C dX12_both_14 rfl 2 rfl 15 rfl ?_
        obtain ⟨x3, ex3, h⟩ := mb h
        refine mm_iald C ex3 dX12_both_15 16 rfl ?_
        refine mm_iload_n C dX12_both_16 rfl 1 rfl 17 rfl ?_
        refine mm_icmp_ne C dX12_both_17 21 20 (by decide) rfl (fun hc => ?_) (fun hc => ?_)
        · rw [if_neg hc] at h
          obtain ⟨x4, ex4, h⟩ := me h
          refine mm_iinc (v := x4) (lv2 := [(2, .int x4), (0, .ref (mmad k 97)), (1, .int a1)]) C dX12_both_21 2 rfl (by rw [← ex4]; rfl) (by decide) rfl 24 rfl ?_
          refine mm_goto C dX12_both_24 2 (by decide) ?_
          refine mm_lv [1, 2, 0] rfl ?_
          exact ih _ h
        · rw [if_pos hc] at h
          exact mm_vretW C (congrArg some (hE _ h)) dX12_both_20
  refine mjE0 h (mm_AW z k 5 none F1 F 27 [(0, .ref (mmad k 97)), (1, .int a1)] []) ?_ ?_
  · intro  h
    refine mm_aload_n C dX12_both_27 rfl 0 rfl 28 rfl ?_
    refine mm_iload_n C dX12_both_28 rfl 1 rfl 29 rfl ?_
    refine mm_iconst (v := (1 : Int32)) C dX12_both_29 (by decide) 30 rfl ?_
    obtain ⟨x5, ex5, h⟩ := mb h
    refine mm_callV [.int a1, .int (1 : Int32)] C (c_X12_nearestOn_97 ex5) wb_X12_nearestOn wv_X12_121 (by decide) (mc_97 k _) rfl rfl rfl (by omega) rfl (Nat.le_of_ble_eq_true rfl) dX12_both_30 33 rfl ?_
    show mm_AW z k 5 none F1 F 33 [(0, .ref (mmad k 97)), (1, .int a1)] [.int x5]
    refine mm_istore_n (lv2 := [(2, .int x5), (0, .ref (mmad k 97)), (1, .int a1)]) C dX12_both_33 rfl (by decide) rfl 34 rfl ?_
    refine mm_aload_n C dX12_both_34 rfl 1 rfl 35 rfl ?_
    refine mm_iload_n C dX12_both_35 rfl 2 rfl 36 rfl ?_
    refine mm_iconst (v := (0 : Int32)) C dX12_both_36 (by decide) 37 rfl ?_
    obtain ⟨x6, ex6, h⟩ := mb h
    refine mm_callV [.int a1, .int (0 : Int32)] C (c_X12_nearestOn_97 ex6) wb_X12_nearestOn wv_X12_121 (by decide) (mc_97 k _) rfl rfl rfl (by omega) rfl (Nat.le_of_ble_eq_true rfl) dX12_both_37 40 rfl ?_
    show mm_AW z k 5 none F1 F 40 [(2, .int x5), (0, .ref (mmad k 97)), (1, .int a1)] [.int x6]
    refine mm_istore_n (lv2 := [(3, .int x6), (2, .int x5), (0, .ref (mmad k 97)), (1, .int a1)]) C dX12_both_40 rfl (by decide) rfl 41 rfl ?_
    refine mm_iload_n C dX12_both_41 rfl 1 rfl 42 rfl ?_
    refine mm_iconst (v := (-1 : Int32)) C dX12_both_42 (by decide) 43 rfl ?_
    refine mm_icmp_eq C dX12_both_43 51 46 (by decide) rfl (fun hc => ?_) (fun hc => ?_)
    · rw [if_pos hc] at h
      refine mm_aload_n C dX12_both_51 rfl 2 rfl 52 rfl ?_
      refine mm_iload_n C dX12_both_52 rfl 1 rfl 53 rfl ?_
      refine mm_iconst (v := (-1 : Int32)) C dX12_both_53 (by decide) 54 rfl ?_
      refine mj1 h (fun (y7 : Int32) => mm_AW z k 5 none F1 F 62 [(1, .int a1)] [.int y7, .ref (mmad k 97)]) ?_ ?_
      · intro y7 h
        refine mm_iload_n C dX12_both_62 rfl 0 rfl 63 rfl ?_
        obtain ⟨G8, eG8, h⟩ := mb h
        refine mm_callV [.int y7, .int a1] C (c_X12_sends_97 eG8) wb_X12_sends wv_X12_125 (by decide) (mc_97 k _) rfl rfl rfl (by omega) rfl (Nat.le_of_ble_eq_true rfl) dX12_both_63 66 rfl ?_
        show mm_AW z k 5 none F1 G8 66 [(1, .int a1)] []
        exact mm_vretW C (h) dX12_both_66
      · intro K2 hR62 h
        refine mm_icmp_ne C dX12_both_54 61 57 (by decide) rfl (fun hc => ?_) (fun hc => ?_)
        · rw [if_neg hc] at h
          refine mm_iload_n C dX12_both_61 rfl 1 rfl 62 rfl ?_
          refine mm_lv [3] rfl ?_
          exact hR62 _ h
        · rw [if_pos hc] at h
          refine mm_iload_n C dX12_both_57 rfl 0 rfl 58 rfl ?_
          refine mm_goto C dX12_both_58 62 (by decide) ?_
          refine mm_lv [3] rfl ?_
          exact hR62 _ h
    · rw [if_neg hc] at h
      refine mm_iload_n C dX12_both_46 rfl 0 rfl 47 rfl ?_
      refine mm_iconst (v := (-1 : Int32)) C dX12_both_47 (by decide) 48 rfl ?_
      refine mm_icmp_ne C dX12_both_48 67 51 (by decide) rfl (fun hc => ?_) (fun hc => ?_)
      · rw [if_neg hc] at h
        refine mm_iload_n C dX12_both_67 rfl 3 rfl 68 rfl ?_
        refine mm_aload_n C dX12_both_68 rfl 2 rfl 69 rfl ?_
        refine mm_get C fl_X12_35_X12 (by decide) (mc_97 k _) rfl dX12_both_69 72 rfl ?_
        refine mm_iload_n C dX12_both_72 rfl 1 rfl 73 rfl ?_
        obtain ⟨x9, ex9, h⟩ := mb h
        refine mm_iald C ex9 dX12_both_73 74 rfl ?_
        refine mm_isub C dX12_both_74 75 rfl ?_
        refine mm_aload_n C dX12_both_75 rfl 2 rfl 76 rfl ?_
        refine mm_get C fl_X12_35_X12 (by decide) (mc_97 k _) rfl dX12_both_76 79 rfl ?_
        refine mm_iload_n C dX12_both_79 rfl 0 rfl 80 rfl ?_
        obtain ⟨x10, ex10, h⟩ := mb h
        refine mm_iald C ex10 dX12_both_80 81 rfl ?_
        refine mm_iload_n C dX12_both_81 rfl 3 rfl 82 rfl ?_
        refine mm_isub C dX12_both_82 83 rfl ?_
        refine mj1 h (fun (y13 : Int32) => mm_AW z k 5 none F1 F 105 [(0, .ref (mmad k 97)), (2, .int x5), (3, .int x6)] [.int y13]) ?_ ?_
        · intro y13 h
          refine mm_istore (lv2 := [(4, .int y13), (0, .ref (mmad k 97)), (2, .int x5), (3, .int x6)]) C dX12_both_105 (by decide) rfl 107 rfl ?_
          refine mm_aload_n C dX12_both_107 rfl 1 rfl 108 rfl ?_
          refine mm_iload_n C dX12_both_108 rfl 2 rfl 109 rfl ?_
          refine mm_aload_n C dX12_both_109 rfl 1 rfl 110 rfl ?_
          refine mm_get C fl_X12_35_X12 (by decide) (mc_97 k _) rfl dX12_both_110 113 rfl ?_
          refine mm_iload_n C dX12_both_113 rfl 2 rfl 114 rfl ?_
          obtain ⟨x14, ex14, h⟩ := mb h
          refine mm_iald C ex14 dX12_both_114 115 rfl ?_
          refine mm_iload C dX12_both_115 0 rfl 117 rfl ?_
          refine mm_iadd C dX12_both_117 118 rfl ?_
          obtain ⟨G15, eG15, h⟩ := mb h
          refine mm_callV [.int x5, .int (x14 + y13)] C (c_X12_sends_97 eG15) wb_X12_sends wv_X12_125 (by decide) (mc_97 k _) rfl rfl rfl (by omega) rfl (Nat.le_of_ble_eq_true rfl) dX12_both_118 121 rfl ?_
          show mm_AW z k 5 none F1 G15 121 [(4, .int y13), (0, .ref (mmad k 97)), (2, .int x5), (3, .int x6)] []
          refine mm_aload_n C dX12_both_121 rfl 1 rfl 122 rfl ?_
          refine mm_iload_n C dX12_both_122 rfl 3 rfl 123 rfl ?_
          refine mm_aload_n C dX12_both_123 rfl 1 rfl 124 rfl ?_
          refine mm_get C fl_X12_35_X12 (by decide) (mc_97 k _) rfl dX12_both_124 127 rfl ?_
          refine mm_iload_n C dX12_both_127 rfl 3 rfl 128 rfl ?_
          obtain ⟨x16, ex16, h⟩ := mb h
          refine mm_iald C ex16 dX12_both_128 129 rfl ?_
          refine mm_iload C dX12_both_129 0 rfl 131 rfl ?_
          refine mm_isub C dX12_both_131 132 rfl ?_
          obtain ⟨G17, eG17, h⟩ := mb h
          refine mm_callV [.int x6, .int (x16 - y13)] C (c_X12_sends_97 eG17) wb_X12_sends wv_X12_125 (by decide) (mc_97 k _) rfl rfl rfl (by omega) rfl (Nat.le_of_ble_eq_true rfl) dX12_both_132 135 rfl ?_
          show mm_AW z k 5 none F1 G17 135 [(4, .int y13), (0, .ref (mmad k 97)), (2, .int x5), (3, .int x6)] []
          exact mm_vretW C (h) dX12_both_135
        · intro K2 hR105 h
          refine mm_icmp_ge C dX12_both_83 97 86 (by decide) rfl (fun hc => ?_) (fun hc => ?_)
          · rw [if_pos hc] at h
            refine mm_aload_n C dX12_both_97 rfl 2 rfl 98 rfl ?_
            refine mm_get C fl_X12_35_X12 (by decide) (mc_97 k _) rfl dX12_both_98 101 rfl ?_
            refine mm_iload_n C dX12_both_101 rfl 0 rfl 102 rfl ?_
            obtain ⟨x11, ex11, h⟩ := mb h
            refine mm_iald C ex11 dX12_both_102 103 rfl ?_
            refine mm_iload_n C dX12_both_103 rfl 3 rfl 104 rfl ?_
            refine mm_isub C dX12_both_104 105 rfl ?_
            refine mm_lv [2, 1, 0] rfl ?_
            exact hR105 _ h
          · rw [if_neg hc] at h
            refine mm_iload_n C dX12_both_86 rfl 3 rfl 87 rfl ?_
            refine mm_aload_n C dX12_both_87 rfl 2 rfl 88 rfl ?_
            refine mm_get C fl_X12_35_X12 (by decide) (mc_97 k _) rfl dX12_both_88 91 rfl ?_
            refine mm_iload_n C dX12_both_91 rfl 1 rfl 92 rfl ?_
            obtain ⟨x12, ex12, h⟩ := mb h
            refine mm_iald C ex12 dX12_both_92 93 rfl ?_
            refine mm_isub C dX12_both_93 94 rfl ?_
            refine mm_goto C dX12_both_94 105 (by decide) ?_
            refine mm_lv [2, 1, 0] rfl ?_
            exact hR105 _ h
      · rw [if_pos hc] at h
        refine mm_aload_n C dX12_both_51 rfl 2 rfl 52 rfl ?_
        refine mm_iload_n C dX12_both_52 rfl 1 rfl 53 rfl ?_
        refine mm_iconst (v := (-1 : Int32)) C dX12_both_53 (by decide) 54 rfl ?_
        refine mj1 h (fun (y18 : Int32) => mm_AW z k 5 none F1 F 62 [(1, .int a1)] [.int y18, .ref (mmad k 97)]) ?_ ?_
        · intro y18 h
          refine mm_iload_n C dX12_both_62 rfl 0 rfl 63 rfl ?_
          obtain ⟨G19, eG19, h⟩ := mb h
          refine mm_callV [.int y18, .int a1] C (c_X12_sends_97 eG19) wb_X12_sends wv_X12_125 (by decide) (mc_97 k _) rfl rfl rfl (by omega) rfl (Nat.le_of_ble_eq_true rfl) dX12_both_63 66 rfl ?_
          show mm_AW z k 5 none F1 G19 66 [(1, .int a1)] []
          exact mm_vretW C (h) dX12_both_66
        · intro K2 hR62 h
          refine mm_icmp_ne C dX12_both_54 61 57 (by decide) rfl (fun hc => ?_) (fun hc => ?_)
          · rw [if_neg hc] at h
            refine mm_iload_n C dX12_both_61 rfl 1 rfl 62 rfl ?_
            refine mm_lv [3] rfl ?_
            exact hR62 _ h
          · rw [if_pos hc] at h
            refine mm_iload_n C dX12_both_57 rfl 0 rfl 58 rfl ?_
            refine mm_goto C dX12_both_58 62 (by decide) ?_
            refine mm_lv [3] rfl ?_
            exact hR62 _ h
  · intro K2 hR hE h
    exact hL2 K2 hR hE 300 _ h
def m_X12_goesOn_97 (F : mmS) (a1 : Int32) (a2 : Int32) : Option (mmS) :=
  Option.bind (ald F 100 a2) fun x1 => Option.bind (ald F 98 x1) fun x2 => if a1 = (0 : Int32) then (Option.bind (m_X12_nearest_97 F x2) fun x10 => Option.bind (m_X12_sends_97 F x10 x2) fun G11 => some G11) else (if a1 = (1 : Int32) then (Option.bind (m_X12_both_97 F x2) fun G9 => some G9) else (if a1 = (2 : Int32) then (Option.bind (ald F 100 a2) fun x7 => Option.bind (m_X12_goesByWork_97 F x7) fun G8 => some G8) else (Option.bind (m_X12_hintAt_97 F a2) fun x3 => bd1 (if x3 = (-1 : Int32) then (Option.bind (m_X12_nearest_97 F x2) fun x4 => some (x4)) else (some (x3))) fun y5 => Option.bind (m_X12_sends_97 F y5 x2) fun G6 => some G6)))
set_option maxHeartbeats 4000000 in
set_option maxRecDepth 100000 in
theorem c_X12_goesOn_97 {l : Launch} {k : mmK} {F : mmS} {a1 : Int32} {a2 : Int32} {F1 : mmS} (h : m_X12_goesOn_97 F a1 a2 = some F1) : mm_T l k yX12_goesOn cX12_goesOn 5 none 4 [.ref (mmad k 97), .int a1, .int a2] F none F1 := by
  refine mm_start [(0, .ref (mmad k 97)), (1, .int a1), (2, .int a2)] (by decide) (Nat.le_of_ble_eq_true rfl) rfl ?_
  intro z hz C
  subst hz
  have C : mm_C z k RX12 cX12_goesOn 5 none 4 := C
  replace h := mk0 h
  unfold m_X12_goesOn_97 at h
  refine mm_aload_n C dX12_goesOn_0 rfl 0 rfl 1 rfl ?_
  refine mm_get C fl_X12_13_X12 (by decide) (mc_97 k _) rfl dX12_goesOn_1 4 rfl ?_
  refine mm_aload_n C dX12_goesOn_4 rfl 0 rfl 5 rfl ?_
  refine mm_get C fl_X12_26_X12 (by decide) (mc_97 k _) rfl dX12_goesOn_5 8 rfl ?_
  refine mm_iload_n C dX12_goesOn_8 rfl 2 rfl 9 rfl ?_
  obtain ⟨x1, ex1, h⟩ := mb h
  refine mm_iald C ex1 dX12_goesOn_9 10 rfl ?_
  obtain ⟨x2, ex2, h⟩ := mb h
  refine mm_iald C ex2 dX12_goesOn_10 11 rfl ?_
  refine mm_istore_n (lv2 := [(3, .int x2), (0, .ref (mmad k 97)), (1, .int a1), (2, .int a2)]) C dX12_goesOn_11 rfl (by decide) rfl 12 rfl ?_
  refine mm_iload_n C dX12_goesOn_12 rfl 2 rfl 13 rfl ?_
  refine mm_if_ne C dX12_goesOn_13 29 16 (by decide) rfl (fun hc => ?_) (fun hc => ?_)
  · rw [if_neg hc] at h
    refine mm_iload_n C dX12_goesOn_29 rfl 2 rfl 30 rfl ?_
    refine mm_iconst (v := (1 : Int32)) C dX12_goesOn_30 (by decide) 31 rfl ?_
    refine mm_icmp_ne C dX12_goesOn_31 42 34 (by decide) rfl (fun hc => ?_) (fun hc => ?_)
    · rw [if_neg hc] at h
      refine mm_iload_n C dX12_goesOn_42 rfl 2 rfl 43 rfl ?_
      refine mm_iconst (v := (2 : Int32)) C dX12_goesOn_43 (by decide) 44 rfl ?_
      refine mm_icmp_ne C dX12_goesOn_44 60 47 (by decide) rfl (fun hc => ?_) (fun hc => ?_)
      · rw [if_neg hc] at h
        refine mm_aload_n C dX12_goesOn_60 rfl 1 rfl 61 rfl ?_
        refine mm_iload_n C dX12_goesOn_61 rfl 3 rfl 62 rfl ?_
        obtain ⟨x3, ex3, h⟩ := mb h
        refine mm_callV [.int a2] C (c_X12_hintAt_97 ex3) wb_X12_hintAt wv_X12_150 (by decide) (mc_97 k _) rfl rfl rfl (by omega) rfl (Nat.le_of_ble_eq_true rfl) dX12_goesOn_62 65 rfl ?_
        show mm_AW z k 5 none F1 F 65 [(3, .int x2), (0, .ref (mmad k 97)), (1, .int a1), (2, .int a2)] [.int x3]
        refine mm_istore (lv2 := [(4, .int x3), (3, .int x2), (0, .ref (mmad k 97)), (1, .int a1), (2, .int a2)]) C dX12_goesOn_65 (by decide) rfl 67 rfl ?_
        refine mm_aload_n C dX12_goesOn_67 rfl 2 rfl 68 rfl ?_
        refine mm_iload C dX12_goesOn_68 0 rfl 70 rfl ?_
        refine mm_iconst (v := (-1 : Int32)) C dX12_goesOn_70 (by decide) 71 rfl ?_
        refine mj1 h (fun (y5 : Int32) => mm_AW z k 5 none F1 F 84 [(3, .int x2)] [.int y5, .ref (mmad k 97)]) ?_ ?_
        · intro y5 h
          refine mm_iload_n C dX12_goesOn_84 rfl 0 rfl 85 rfl ?_
          obtain ⟨G6, eG6, h⟩ := mb h
          refine mm_callV [.int y5, .int x2] C (c_X12_sends_97 eG6) wb_X12_sends wv_X12_125 (by decide) (mc_97 k _) rfl rfl rfl (by omega) rfl (Nat.le_of_ble_eq_true rfl) dX12_goesOn_85 88 rfl ?_
          show mm_AW z k 5 none F1 G6 88 [(3, .int x2)] []
          exact mm_vretW C (h) dX12_goesOn_88
        · intro K2 hR84 h
          refine mm_icmp_ne C dX12_goesOn_71 82 74 (by decide) rfl (fun hc => ?_) (fun hc => ?_)
          · rw [if_neg hc] at h
            refine mm_iload C dX12_goesOn_82 0 rfl 84 rfl ?_
            refine mm_lv [1] rfl ?_
            exact hR84 _ h
          · rw [if_pos hc] at h
            refine mm_aload_n C dX12_goesOn_74 rfl 2 rfl 75 rfl ?_
            refine mm_iload_n C dX12_goesOn_75 rfl 1 rfl 76 rfl ?_
            obtain ⟨x4, ex4, h⟩ := mb h
            refine mm_callV [.int x2] C (c_X12_nearest_97 ex4) wb_X12_nearest wv_X12_140 (by decide) (mc_97 k _) rfl rfl rfl (by omega) rfl (Nat.le_of_ble_eq_true rfl) dX12_goesOn_76 79 rfl ?_
            show mm_AW z k 5 none F1 F 79 [(4, .int x3), (3, .int x2), (0, .ref (mmad k 97)), (1, .int a1), (2, .int a2)] [.int x4, .ref (mmad k 97)]
            refine mm_goto C dX12_goesOn_79 84 (by decide) ?_
            refine mm_lv [1] rfl ?_
            exact hR84 _ h
      · rw [if_pos hc] at h
        refine mm_aload_n C dX12_goesOn_47 rfl 1 rfl 48 rfl ?_
        refine mm_aload_n C dX12_goesOn_48 rfl 1 rfl 49 rfl ?_
        refine mm_get C fl_X12_26_X12 (by decide) (mc_97 k _) rfl dX12_goesOn_49 52 rfl ?_
        refine mm_iload_n C dX12_goesOn_52 rfl 3 rfl 53 rfl ?_
        obtain ⟨x7, ex7, h⟩ := mb h
        refine mm_iald C ex7 dX12_goesOn_53 54 rfl ?_
        obtain ⟨G8, eG8, h⟩ := mb h
        refine mm_callV [.int x7] C (c_X12_goesByWork_97 eG8) wb_X12_goesByWork wv_X12_147 (by decide) (mc_97 k _) rfl rfl rfl (by omega) rfl (Nat.le_of_ble_eq_true rfl) dX12_goesOn_54 57 rfl ?_
        show mm_AW z k 5 none F1 G8 57 [(3, .int x2), (0, .ref (mmad k 97)), (1, .int a1), (2, .int a2)] []
        refine mm_goto C dX12_goesOn_57 88 (by decide) ?_
        exact mm_vretW C (h) dX12_goesOn_88
    · rw [if_pos hc] at h
      refine mm_aload_n C dX12_goesOn_34 rfl 1 rfl 35 rfl ?_
      refine mm_iload_n C dX12_goesOn_35 rfl 0 rfl 36 rfl ?_
      obtain ⟨G9, eG9, h⟩ := mb h
      refine mm_callV [.int x2] C (c_X12_both_97 eG9) wb_X12_both wv_X12_144 (by decide) (mc_97 k _) rfl rfl rfl (by omega) rfl (Nat.le_of_ble_eq_true rfl) dX12_goesOn_36 39 rfl ?_
      show mm_AW z k 5 none F1 G9 39 [(3, .int x2), (0, .ref (mmad k 97)), (1, .int a1), (2, .int a2)] []
      refine mm_goto C dX12_goesOn_39 88 (by decide) ?_
      exact mm_vretW C (h) dX12_goesOn_88
  · rw [if_pos hc] at h
    refine mm_aload_n C dX12_goesOn_16 rfl 1 rfl 17 rfl ?_
    refine mm_aload_n C dX12_goesOn_17 rfl 1 rfl 18 rfl ?_
    refine mm_iload_n C dX12_goesOn_18 rfl 0 rfl 19 rfl ?_
    obtain ⟨x10, ex10, h⟩ := mb h
    refine mm_callV [.int x2] C (c_X12_nearest_97 ex10) wb_X12_nearest wv_X12_140 (by decide) (mc_97 k _) rfl rfl rfl (by omega) rfl (Nat.le_of_ble_eq_true rfl) dX12_goesOn_19 22 rfl ?_
    show mm_AW z k 5 none F1 F 22 [(3, .int x2), (0, .ref (mmad k 97)), (1, .int a1), (2, .int a2)] [.int x10, .ref (mmad k 97)]
    refine mm_iload_n C dX12_goesOn_22 rfl 0 rfl 23 rfl ?_
    obtain ⟨G11, eG11, h⟩ := mb h
    refine mm_callV [.int x10, .int x2] C (c_X12_sends_97 eG11) wb_X12_sends wv_X12_125 (by decide) (mc_97 k _) rfl rfl rfl (by omega) rfl (Nat.le_of_ble_eq_true rfl) dX12_goesOn_23 26 rfl ?_
    show mm_AW z k 5 none F1 G11 26 [(3, .int x2), (0, .ref (mmad k 97)), (1, .int a1), (2, .int a2)] []
    refine mm_goto C dX12_goesOn_26 88 (by decide) ?_
    exact mm_vretW C (h) dX12_goesOn_88
def m_X12_runs_97_L15 (a1 : Int32) (a2 : Int32) : Nat → Int32 → mmS → Option (mmS)
  | 0, _, _ => none
  | n6 + 1, v4, G5 => Option.bind (m_X12_first_97 G5 a2) fun x7 => if x7 ≤ v4 then (some ((G5))) else (Option.bind (m_X12_goesOn_97 G5 a1 v4) fun G8 => mlet (v4 + (1 : Int32)) fun x9 => m_X12_runs_97_L15 a1 a2 n6 x9 G8)
def m_X12_runs_97 (F : mmS) (a1 : Int32) (a2 : Int32) : Option (mmS) :=
  Option.bind (m_X12_starts_97 F) fun G1 => bd1 (if a1 = (2 : Int32) then (Option.bind (m_X12_worksFirst_97 G1) fun G2 => some (G2)) else (some (G1))) fun G3 => bd1 (m_X12_runs_97_L15 a1 a2 300 (0 : Int32) G3) fun G10 => some G10
set_option maxHeartbeats 4000000 in
set_option maxRecDepth 100000 in
theorem c_X12_runs_97 {l : Launch} {k : mmK} {F : mmS} {a1 : Int32} {a2 : Int32} {F1 : mmS} (h : m_X12_runs_97 F a1 a2 = some F1) : mm_T l k yX12_runs cX12_runs 4 none 5 [.ref (mmad k 97), .int a1, .int a2] F none F1 := by
  refine mm_start [(0, .ref (mmad k 97)), (1, .int a1), (2, .int a2)] (by decide) (Nat.le_of_ble_eq_true rfl) rfl ?_
  intro z hz C
  subst hz
  have C : mm_C z k RX12 cX12_runs 4 none 5 := C
  replace h := mk0 h
  unfold m_X12_runs_97 at h
  refine mm_aload_n C dX12_runs_0 rfl 0 rfl 1 rfl ?_
  obtain ⟨G1, eG1, h⟩ := mb h
  refine mm_callV [] C (c_X12_starts_97 eG1) wb_X12_starts wv_X12_153 (by decide) (mc_97 k _) rfl rfl rfl (by omega) rfl (Nat.le_of_ble_eq_true rfl) dX12_runs_1 4 rfl ?_
  show mm_AW z k 4 none F1 G1 4 [(0, .ref (mmad k 97)), (1, .int a1), (2, .int a2)] []
  refine mm_iload_n C dX12_runs_4 rfl 1 rfl 5 rfl ?_
  refine mm_iconst (v := (2 : Int32)) C dX12_runs_5 (by decide) 6 rfl ?_
  refine mj1 h (fun (G3 : mmS) => mm_AW z k 4 none F1 G3 13 [(0, .ref (mmad k 97)), (1, .int a1), (2, .int a2)] []) ?_ ?_
  · intro G3 h
    refine mm_iconst (v := (0 : Int32)) C dX12_runs_13 (by decide) 14 rfl ?_
    refine mm_istore_n (lv2 := [(3, .int (0 : Int32)), (0, .ref (mmad k 97)), (1, .int a1), (2, .int a2)]) C dX12_runs_14 rfl (by decide) rfl 15 rfl ?_
    refine mm_lv [1, 2, 3, 0] rfl ?_
    have hL15 : ∀ (K : (mmS) → Option (mmS)) (hK : ∀ (G5 : mmS) , K (G5) = some F1 → mm_AW z k 4 none F1 G5 36 [] []) (n6 : Nat) (v4 : Int32) (G5 : mmS) , (m_X12_runs_97_L15 a1 a2 n6 v4 G5).bind K = some F1 → mm_AW z k 4 none F1 G5 15 [(0, .ref (mmad k 97)), (1, .int a1), (2, .int a2), (3, .int v4)] [] := by
      intro K hK n6
      induction n6 with
      | zero => intro v4 G5 h; rw [m_X12_runs_97_L15] at h; cases h
      | succ n6 ih =>
        intro v4 G5 h
        rw [m_X12_runs_97_L15] at h
        refine mm_iload_n C dX12_runs_15 rfl 3 rfl 16 rfl ?_
        refine mm_aload_n C dX12_runs_16 rfl 0 rfl 17 rfl ?_
        refine mm_iload_n C dX12_runs_17 rfl 2 rfl 18 rfl ?_
        obtain ⟨x7, ex7, h⟩ := mb h
        refine mm_callV [.int a2] C (c_X12_first_97 ex7) wb_X12_first wv_X12_158 (by decide) (mc_97 k _) rfl rfl rfl (by omega) rfl (Nat.le_of_ble_eq_true rfl) dX12_runs_18 21 rfl ?_
        show mm_AW z k 4 none F1 G5 21 [(0, .ref (mmad k 97)), (1, .int a1), (2, .int a2), (3, .int v4)] [.int x7, .int v4]
        refine mm_icmp_ge C dX12_runs_21 36 24 (by decide) rfl (fun hc => ?_) (fun hc => ?_)
        · rw [if_pos hc] at h
          refine mm_lv [] rfl ?_
          exact hK _ h
        · rw [if_neg hc] at h
          refine mm_aload_n C dX12_runs_24 rfl 0 rfl 25 rfl ?_
          refine mm_iload_n C dX12_runs_25 rfl 1 rfl 26 rfl ?_
          refine mm_iload_n C dX12_runs_26 rfl 3 rfl 27 rfl ?_
          obtain ⟨G8, eG8, h⟩ := mb h
          refine mm_callV [.int a1, .int v4] C (c_X12_goesOn_97 eG8) wb_X12_goesOn wv_X12_161 (by decide) (mc_97 k _) rfl rfl rfl (by omega) rfl (Nat.le_of_ble_eq_true rfl) dX12_runs_27 30 rfl ?_
          show mm_AW z k 4 none F1 G8 30 [(0, .ref (mmad k 97)), (1, .int a1), (2, .int a2), (3, .int v4)] []
          obtain ⟨x9, ex9, h⟩ := me h
          refine mm_iinc (v := x9) (lv2 := [(3, .int x9), (0, .ref (mmad k 97)), (1, .int a1), (2, .int a2)]) C dX12_runs_30 3 rfl (by rw [← ex9]; rfl) (by decide) rfl 33 rfl ?_
          refine mm_goto C dX12_runs_33 15 (by decide) ?_
          refine mm_lv [1, 2, 3, 0] rfl ?_
          exact ih _ _ h
    refine mj1 h (fun (G10 : mmS) => mm_AW z k 4 none F1 G10 36 [] []) ?_ ?_
    · intro G10 h
      exact mm_vretW C (h) dX12_runs_36
    · intro K2 hR h
      exact hL15 K2 hR 300 _ _ h
  · intro K2 hR13 h
    refine mm_icmp_ne C dX12_runs_6 13 9 (by decide) rfl (fun hc => ?_) (fun hc => ?_)
    · rw [if_neg hc] at h
      exact hR13 _ h
    · rw [if_pos hc] at h
      refine mm_aload_n C dX12_runs_9 rfl 0 rfl 10 rfl ?_
      obtain ⟨G2, eG2, h⟩ := mb h
      refine mm_callV [] C (c_X12_worksFirst_97 eG2) wb_X12_worksFirst wv_X12_155 (by decide) (mc_97 k _) rfl rfl rfl (by omega) rfl (Nat.le_of_ble_eq_true rfl) dX12_runs_10 13 rfl ?_
      show mm_AW z k 4 none F1 G2 13 [(0, .ref (mmad k 97)), (1, .int a1), (2, .int a2)] []
      exact hR13 _ h
