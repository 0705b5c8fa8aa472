def m_X11_isWithin (a0 : Int32) (a1 : Int32) (a2 : Int32) : Option (Int32) :=
  if a0 < a1 then (Option.bind (zg (0 : Int32)) fun x1 => some (x1)) else (if a2 < a0 then (Option.bind (zg (0 : Int32)) fun x2 => some (x2)) else (Option.bind (zg (1 : Int32)) fun x3 => some (x3)))
set_option maxHeartbeats 4000000 in
set_option maxRecDepth 100000 in
theorem c_X11_isWithin {l : Launch} {k : mmK} {F : mmS} {a0 : Int32} {a1 : Int32} {a2 : Int32} {r : Int32} (h : m_X11_isWithin a0 a1 a2 = some r) : mm_T l k yX11_isWithin cX11_isWithin 3 (some .boolean) 0 [.int a0, .int a1, .int a2] F (some (.int r)) F := by
  refine mm_start [(0, .int a0), (1, .int a1), (2, .int a2)] (by decide) (Nat.le_of_ble_eq_true rfl) rfl ?_
  intro z hz C
  subst hz
  have C : mm_C z k RX11 cX11_isWithin 3 (some .boolean) 0 := C
  replace h := mk0 h
  unfold m_X11_isWithin at h
  refine mm_iload_n C dX11_isWithin_0 rfl 0 rfl 1 rfl ?_
  refine mm_iload_n C dX11_isWithin_1 rfl 1 rfl 2 rfl ?_
  refine mm_icmp_lt C dX11_isWithin_2 14 5 (by decide) rfl (fun hc => ?_) (fun hc => ?_)
  · rw [if_pos hc] at h
    refine mm_iconst (v := (0 : Int32)) C dX11_isWithin_14 (by decide) 15 rfl ?_
    obtain ⟨x1, ex1, h⟩ := mb h
    exact mm_zretP C ex1 (h) dX11_isWithin_15
  · rw [if_neg hc] at h
    refine mm_iload_n C dX11_isWithin_5 rfl 0 rfl 6 rfl ?_
    refine mm_iload_n C dX11_isWithin_6 rfl 2 rfl 7 rfl ?_
    refine mm_icmp_gt C dX11_isWithin_7 14 10 (by decide) rfl (fun hc => ?_) (fun hc => ?_)
    · rw [if_pos hc] at h
      refine mm_iconst (v := (0 : Int32)) C dX11_isWithin_14 (by decide) 15 rfl ?_
      obtain ⟨x2, ex2, h⟩ := mb h
      exact mm_zretP C ex2 (h) dX11_isWithin_15
    · rw [if_neg hc] at h
      refine mm_iconst (v := (1 : Int32)) C dX11_isWithin_10 (by decide) 11 rfl ?_
      refine mm_goto C dX11_isWithin_11 15 (by decide) ?_
      obtain ⟨x3, ex3, h⟩ := mb h
      exact mm_zretP C ex3 (h) dX11_isWithin_15
def m_X3_choicesOf_1 (F : mmS) (a1 : Int32) : Option (Int32) :=
  if (F 1 1) ≤ a1 then (some (1 : Int32)) else (some (F 1 0))
set_option maxHeartbeats 4000000 in
set_option maxRecDepth 100000 in
theorem c_X3_choicesOf_1 {l : Launch} {k : mmK} {F : mmS} {a1 : Int32} {r : Int32} (h : m_X3_choicesOf_1 F a1 = some r) : mm_T l k yX3_choicesOf cX3_choicesOf 2 (some .int) 0 [.ref (mmad k 1), .int a1] F (some (.int r)) F := by
  refine mm_start [(0, .ref (mmad k 1)), (1, .int a1)] (by decide) (Nat.le_of_ble_eq_true rfl) rfl ?_
  intro z hz C
  subst hz
  have C : mm_C z k RX3 cX3_choicesOf 2 (some .int) 0 := C
  replace h := mk0 h
  unfold m_X3_choicesOf_1 at h
  refine mm_iload_n C dX3_choicesOf_0 rfl 1 rfl 1 rfl ?_
  refine mm_aload_n C dX3_choicesOf_1 rfl 0 rfl 2 rfl ?_
  refine mm_get C fl_X3_15_X3 (by decide) (mc_1 k _) rfl dX3_choicesOf_2 5 rfl ?_
  refine mm_icmp_ge C dX3_choicesOf_5 15 8 (by decide) rfl (fun hc => ?_) (fun hc => ?_)
  · rw [if_pos hc] at h
    refine mm_iconst (v := (1 : Int32)) C dX3_choicesOf_15 (by decide) 16 rfl ?_
    exact mm_iretP C (h) dX3_choicesOf_16
  · rw [if_neg hc] at h
    refine mm_aload_n C dX3_choicesOf_8 rfl 0 rfl 9 rfl ?_
    refine mm_get C fl_X3_9_X3 (by decide) (mc_1 k _) rfl dX3_choicesOf_9 12 rfl ?_
    refine mm_goto C dX3_choicesOf_12 16 (by decide) ?_
    exact mm_iretP C (h) dX3_choicesOf_16
def m_X3_coded (a0 : Int32) (a1 : Int32) (a2 : Int32) : Option (Int32) :=
  some ((a0 + ((6 : Int32) * a1)) + ((36 : Int32) * a2))
set_option maxHeartbeats 4000000 in
set_option maxRecDepth 100000 in
theorem c_X3_coded {l : Launch} {k : mmK} {F : mmS} {a0 : Int32} {a1 : Int32} {a2 : Int32} {r : Int32} (h : m_X3_coded a0 a1 a2 = some r) : mm_T l k yX3_coded cX3_coded 3 (some .int) 0 [.int a0, .int a1, .int a2] F (some (.int r)) F := by
  refine mm_start [(0, .int a0), (1, .int a1), (2, .int a2)] (by decide) (Nat.le_of_ble_eq_true rfl) rfl ?_
  intro z hz C
  subst hz
  have C : mm_C z k RX3 cX3_coded 3 (some .int) 0 := C
  replace h := mk0 h
  unfold m_X3_coded at h
  refine mm_iload_n C dX3_coded_0 rfl 0 rfl 1 rfl ?_
  refine mm_bipush (v := (6 : Int32)) C dX3_coded_1 (by decide) 3 rfl ?_
  refine mm_iload_n C dX3_coded_3 rfl 1 rfl 4 rfl ?_
  refine mm_imul C dX3_coded_4 5 rfl ?_
  refine mm_iadd C dX3_coded_5 6 rfl ?_
  refine mm_bipush (v := (36 : Int32)) C dX3_coded_6 (by decide) 8 rfl ?_
  refine mm_iload_n C dX3_coded_8 rfl 2 rfl 9 rfl ?_
  refine mm_imul C dX3_coded_9 10 rfl ?_
  refine mm_iadd C dX3_coded_10 11 rfl ?_
  exact mm_iretP C (h) dX3_coded_11
def m_X3_listCrowds_1_L27 (v2 : Int32) (v7 : Int32) : Nat → Int32 → Int32 → mmS → Option (Int32 × mmS)
  | 0, _, _, _ => none
  | n14 + 1, v11, v12, G13 => Option.bind (m_X3_choicesOf_1 G13 (0 : Int32)) fun x15 => if x15 ≤ v12 then (some ((v11, G13))) else (Option.bind (m_X3_coded v12 v7 v2) fun x16 => Option.bind (ast G13 5 v11 x16) fun G17 => mlet (v11 + (1 : Int32)) fun x18 => mlet (v12 + (1 : Int32)) fun x19 => m_X3_listCrowds_1_L27 v2 v7 n14 x18 x19 G17)
def m_X3_listCrowds_1_L15 (v2 : Int32) : Nat → Int32 → Int32 → mmS → Option (Int32 × mmS)
  | 0, _, _, _ => none
  | n9 + 1, v6, v7, G8 => Option.bind (m_X3_choicesOf_1 G8 (1 : Int32)) fun x10 => if x10 ≤ v7 then (some ((v6, G8))) else (bd2 (m_X3_listCrowds_1_L27 v2 v7 300 v6 v7 G8) fun y20 G21 => mlet (v7 + (1 : Int32)) fun x22 => m_X3_listCrowds_1_L15 v2 n9 y20 x22 G21)
def m_X3_listCrowds_1_L4 : Nat → Int32 → Int32 → mmS → Option (Int32 × mmS)
  | 0, _, _, _ => none
  | n4 + 1, v1, v2, G3 => Option.bind (m_X3_choicesOf_1 G3 (2 : Int32)) fun x5 => if x5 ≤ v2 then (some ((v1, G3))) else (bd2 (m_X3_listCrowds_1_L15 v2 300 v1 v2 G3) fun y23 G24 => mlet (v2 + (1 : Int32)) fun x25 => m_X3_listCrowds_1_L4 n4 y23 x25 G24)
def m_X3_listCrowds_1 (F : mmS)  : Option (mmS) :=
  bd2 (m_X3_listCrowds_1_L4 300 (0 : Int32) (0 : Int32) F) fun y26 G27 => mlet (stF G27 1 3 y26) fun G28 => some G28
set_option maxHeartbeats 4000000 in
set_option maxRecDepth 100000 in
theorem c_X3_listCrowds_1 {l : Launch} {k : mmK} {F : mmS}  {F1 : mmS} (h : m_X3_listCrowds_1 F = some F1) : mm_T l k yX3_listCrowds cX3_listCrowds 5 none 1 [.ref (mmad k 1)] F none F1 := by
  refine mm_start [(0, .ref (mmad k 1))] (by decide) (Nat.le_of_ble_eq_true rfl) rfl ?_
  intro z hz C
  subst hz
  have C : mm_C z k RX3 cX3_listCrowds 5 none 1 := C
  replace h := mk0 h
  unfold m_X3_listCrowds_1 at h
  refine mm_iconst (v := (0 : Int32)) C dX3_listCrowds_0 (by decide) 1 rfl ?_
  refine mm_istore_n (lv2 := [(1, .int (0 : Int32)), (0, .ref (mmad k 1))]) C dX3_listCrowds_1 rfl (by decide) rfl 2 rfl ?_
  refine mm_iconst (v := (0 : Int32)) C dX3_listCrowds_2 (by decide) 3 rfl ?_
  refine mm_istore_n (lv2 := [(2, .int (0 : Int32)), (1, .int (0 : Int32)), (0, .ref (mmad k 1))]) C dX3_listCrowds_3 rfl (by decide) rfl 4 rfl ?_
  refine mm_lv [2, 1, 0] rfl ?_
  have hL4 : ∀ (K : (Int32 × mmS) → Option (mmS)) (hK : ∀ (v1 : Int32) (G3 : mmS) , K (v1, G3) = some F1 → mm_AW z k 5 none F1 G3 71 [(0, .ref (mmad k 1)), (1, .int v1)] []) (n4 : Nat) (v1 : Int32) (v2 : Int32) (G3 : mmS) , (m_X3_listCrowds_1_L4 n4 v1 v2 G3).bind K = some F1 → mm_AW z k 5 none F1 G3 4 [(0, .ref (mmad k 1)), (1, .int v1), (2, .int v2)] [] := by
    intro K hK n4
    induction n4 with
    | zero => intro v1 v2 G3 h; rw [m_X3_listCrowds_1_L4] at h; cases h
    | succ n4 ih =>
      intro v1 v2 G3 h
      rw [m_X3_listCrowds_1_L4] at h
      refine mm_iload_n C dX3_listCrowds_4 rfl 2 rfl 5 rfl ?_
      refine mm_aload_n C dX3_listCrowds_5 rfl 0 rfl 6 rfl ?_
      refine mm_iconst (v := (2 : Int32)) C dX3_listCrowds_6 (by decide) 7 rfl ?_
      obtain ⟨x5, ex5, h⟩ := mb h
      refine mm_callV [.int (2 : Int32)] C (c_X3_choicesOf_1 ex5) wb_X3_choicesOf wv_X3_44 (by decide) (mc_1 k _) rfl rfl rfl (by omega) rfl (Nat.le_of_ble_eq_true rfl) dX3_listCrowds_7 10 rfl ?_
      show mm_AW z k 5 none F1 G3 10 [(0, .ref (mmad k 1)), (1, .int v1), (2, .int v2)] [.int x5, .int v2]
      refine mm_icmp_ge C dX3_listCrowds_10 71 13 (by decide) rfl (fun hc => ?_) (fun hc => ?_)
      · rw [if_pos hc] at h
        refine mm_lv [0, 1] rfl ?_
        exact hK _ _ h
      · rw [if_neg hc] at h
        refine mm_iload_n C dX3_listCrowds_13 rfl 2 rfl 14 rfl ?_
        refine mm_istore_n (lv2 := [(3, .int v2), (0, .ref (mmad k 1)), (1, .int v1), (2, .int v2)]) C dX3_listCrowds_14 rfl (by decide) rfl 15 rfl ?_
        refine mm_lv [1, 2, 3, 0] rfl ?_
        have hL15 : ∀ (K : (Int32 × mmS) → Option (mmS)) (hK : ∀ (v6 : Int32) (G8 : mmS) , K (v6, G8) = some F1 → mm_AW z k 5 none F1 G8 65 [(0, .ref (mmad k 1)), (1, .int v6), (2, .int v2)] []) (n9 : Nat) (v6 : Int32) (v7 : Int32) (G8 : mmS) , (m_X3_listCrowds_1_L15 v2 n9 v6 v7 G8).bind K = some F1 → mm_AW z k 5 none F1 G8 15 [(0, .ref (mmad k 1)), (1, .int v6), (2, .int v2), (3, .int v7)] [] := by
          intro K hK n9
          induction n9 with
          | zero => intro v6 v7 G8 h; rw [m_X3_listCrowds_1_L15] at h; cases h
          | succ n9 ih =>
            intro v6 v7 G8 h
            rw [m_X3_listCrowds_1_L15] at h
            refine mm_iload_n C dX3_listCrowds_15 rfl 3 rfl 16 rfl ?_
            refine mm_aload_n C dX3_listCrowds_16 rfl 0 rfl 17 rfl ?_
            refine mm_iconst (v := (1 : Int32)) C dX3_listCrowds_17 (by decide) 18 rfl ?_
            obtain ⟨x10, ex10, h⟩ := mb h
            refine mm_callV [.int (1 : Int32)] C (c_X3_choicesOf_1 ex10) wb_X3_choicesOf wv_X3_44 (by decide) (mc_1 k _) rfl rfl rfl (by omega) rfl (Nat.le_of_ble_eq_true rfl) dX3_listCrowds_18 21 rfl ?_
            show mm_AW z k 5 none F1 G8 21 [(0, .ref (mmad k 1)), (1, .int v6), (2, .int v2), (3, .int v7)] [.int x10, .int v7]
            refine mm_icmp_ge C dX3_listCrowds_21 65 24 (by decide) rfl (fun hc => ?_) (fun hc => ?_)
            · rw [if_pos hc] at h
              refine mm_lv [0, 1, 2] rfl ?_
              exact hK _ _ h
            · rw [if_neg hc] at h
              refine mm_iload_n C dX3_listCrowds_24 rfl 3 rfl 25 rfl ?_
              refine mm_istore (lv2 := [(4, .int v7), (0, .ref (mmad k 1)), (1, .int v6), (2, .int v2), (3, .int v7)]) C dX3_listCrowds_25 (by decide) rfl 27 rfl ?_
              refine mm_lv [1, 2, 3, 4, 0] rfl ?_
              have hL27 : ∀ (K : (Int32 × mmS) → Option (mmS)) (hK : ∀ (v11 : Int32) (G13 : mmS) , K (v11, G13) = some F1 → mm_AW z k 5 none F1 G13 59 [(0, .ref (mmad k 1)), (1, .int v11), (2, .int v2), (3, .int v7)] []) (n14 : Nat) (v11 : Int32) (v12 : Int32) (G13 : mmS) , (m_X3_listCrowds_1_L27 v2 v7 n14 v11 v12 G13).bind K = some F1 → mm_AW z k 5 none F1 G13 27 [(0, .ref (mmad k 1)), (1, .int v11), (2, .int v2), (3, .int v7), (4, .int v12)] [] := by
                intro K hK n14
                induction n14 with
                | zero => intro v11 v12 G13 h; rw [m_X3_listCrowds_1_L27] at h; cases h
                | succ n14 ih =>
                  intro v11 v12 G13 h
                  rw [m_X3_listCrowds_1_L27] at h
                  refine mm_iload C dX3_listCrowds_27 4 rfl 29 rfl ?_
                  refine mm_aload_n C dX3_listCrowds_29 rfl 0 rfl 30 rfl ?_
                  refine mm_iconst (v := (0 : Int32)) C dX3_listCrowds_30 (by decide) 31 rfl ?_
                  obtain ⟨x15, ex15, h⟩ := mb h
                  refine mm_callV [.int (0 : Int32)] C (c_X3_choicesOf_1 ex15) wb_X3_choicesOf wv_X3_44 (by decide) (mc_1 k _) rfl rfl rfl (by omega) rfl (Nat.le_of_ble_eq_true rfl) dX3_listCrowds_31 34 rfl ?_
                  show mm_AW z k 5 none F1 G13 34 [(0, .ref (mmad k 1)), (1, .int v11), (2, .int v2), (3, .int v7), (4, .int v12)] [.int x15, .int v12]
                  refine mm_icmp_ge C dX3_listCrowds_34 59 37 (by decide) rfl (fun hc => ?_) (fun hc => ?_)
                  · rw [if_pos hc] at h
                    refine mm_lv [0, 1, 2, 3] rfl ?_
                    exact hK _ _ h
                  · rw [if_neg hc] at h
                    refine mm_aload_n C dX3_listCrowds_37 rfl 0 rfl 38 rfl ?_
                    refine mm_get C fl_X3_31_X3 (by decide) (mc_1 k _) rfl dX3_listCrowds_38 41 rfl ?_
                    refine mm_iload_n C dX3_listCrowds_41 rfl 1 rfl 42 rfl ?_
                    refine mm_iload C dX3_listCrowds_42 4 rfl 44 rfl ?_
                    refine mm_iload_n C dX3_listCrowds_44 rfl 3 rfl 45 rfl ?_
                    refine mm_iload_n C dX3_listCrowds_45 rfl 2 rfl 46 rfl ?_
                    obtain ⟨x16, ex16, h⟩ := mb h
                    refine mm_callS [.int v12, .int v7, .int v2] C (c_X3_coded ex16) wb_X3_coded ws_X3_40 rfl (by omega) rfl (Nat.le_of_ble_eq_true rfl) dX3_listCrowds_46 49 rfl ?_
                    show mm_AW z k 5 none F1 G13 49 [(0, .ref (mmad k 1)), (1, .int v11), (2, .int v2), (3, .int v7), (4, .int v12)] [.int x16, .int v11, .ref (mmad k 5)]
                    obtain ⟨G17, eG17, h⟩ := mb h
                    refine mm_iast C eG17 dX3_listCrowds_49 50 rfl ?_
                    obtain ⟨x18, ex18, h⟩ := me h
                    refine mm_iinc (v := x18) (lv2 := [(1, .int x18), (0, .ref (mmad k 1)), (2, .int v2), (3, .int v7), (4, .int v12)]) C dX3_listCrowds_50 1 rfl (by rw [← ex18]; rfl) (by decide) rfl 53 rfl ?_
                    obtain ⟨x19, ex19, h⟩ := me h
                    refine mm_iinc (v := x19) (lv2 := [(4, .int x19), (1, .int x18), (0, .ref (mmad k 1)), (2, .int v2), (3, .int v7)]) C dX3_listCrowds_53 4 rfl (by rw [← ex19]; rfl) (by decide) rfl 56 rfl ?_
                    refine mm_goto C dX3_listCrowds_56 27 (by decide) ?_
                    refine mm_lv [2, 1, 3, 4, 0] rfl ?_
                    exact ih _ _ _ h
              refine mj2 h (fun (y20 : Int32) (G21 : mmS) => mm_AW z k 5 none F1 G21 59 [(0, .ref (mmad k 1)), (1, .int y20), (2, .int v2), (3, .int v7)] []) ?_ ?_
              · intro y20 G21 h
                obtain ⟨x22, ex22, h⟩ := me h
                refine mm_iinc (v := x22) (lv2 := [(3, .int x22), (0, .ref (mmad k 1)), (1, .int y20), (2, .int v2)]) C dX3_listCrowds_59 3 rfl (by rw [← ex22]; rfl) (by decide) rfl 62 rfl ?_
                refine mm_goto C dX3_listCrowds_62 15 (by decide) ?_
                refine mm_lv [1, 2, 3, 0] rfl ?_
                exact ih _ _ _ h
              · intro K2 hR h
                exact hL27 K2 hR 300 _ _ _ h
        refine mj2 h (fun (y23 : Int32) (G24 : mmS) => mm_AW z k 5 none F1 G24 65 [(0, .ref (mmad k 1)), (1, .int y23), (2, .int v2)] []) ?_ ?_
        · intro y23 G24 h
          obtain ⟨x25, ex25, h⟩ := me h
          refine mm_iinc (v := x25) (lv2 := [(2, .int x25), (0, .ref (mmad k 1)), (1, .int y23)]) C dX3_listCrowds_65 2 rfl (by rw [← ex25]; rfl) (by decide) rfl 68 rfl ?_
          refine mm_goto C dX3_listCrowds_68 4 (by decide) ?_
          refine mm_lv [1, 2, 0] rfl ?_
          exact ih _ _ _ h
        · intro K2 hR h
          exact hL15 K2 hR 300 _ _ _ h
  refine mj2 h (fun (y26 : Int32) (G27 : mmS) => mm_AW z k 5 none F1 G27 71 [(0, .ref (mmad k 1)), (1, .int y26)] []) ?_ ?_
  · intro y26 G27 h
    refine mm_aload_n C dX3_listCrowds_71 rfl 0 rfl 72 rfl ?_
    refine mm_iload_n C dX3_listCrowds_72 rfl 1 rfl 73 rfl ?_
    obtain ⟨G28, eG28, h⟩ := me h
    refine mm_put (x := y26) (ty := .int) C fl_X3_48_X3 (by decide) (mc_1 k _) (mc_1 k _) tyX3 tyX3_ok nmX3 rfl (by decide +kernel) rfl rfl (Nat.le_of_ble_eq_true rfl) eG28 dX3_listCrowds_73 76 rfl ?_
    exact mm_vretW C (h) dX3_listCrowds_76
  · intro K2 hR h
    exact hL4 K2 hR 300 _ _ _ h
def m_X3_resizePoints_1_L7 : Nat → Int32 → mmS → Option (mmS)
  | 0, _, _ => none
  | n4 + 1, v2, G3 => if (6 : Int32) ≤ v2 then (some ((G3))) else (Option.bind (ast G3 2 v2 (0 : Int32)) fun G5 => mlet (v2 + (1 : Int32)) fun x6 => m_X3_resizePoints_1_L7 n4 x6 G5)
def m_X3_resizePoints_1_L28 (a1 : Int32) : Nat → Int32 → mmS → Option (mmS)
  | 0, _, _ => none
  | n10 + 1, v8, G9 => if (3 : Int32) ≤ v8 then (some ((G9))) else (Option.bind (ald G9 3 v8) fun x11 => bd1 (if x11 < a1 then (some (G9)) else (Option.bind (ast G9 3 v8 (0 : Int32)) fun G12 => some (G12))) fun G13 => mlet (v8 + (1 : Int32)) fun x14 => m_X3_resizePoints_1_L28 a1 n10 x14 G13)
def m_X3_resizePoints_1 (F : mmS) (a1 : Int32) : Option (mmS) :=
  mlet (stF F 1 0 a1) fun G1 => bd1 (m_X3_resizePoints_1_L7 300 a1 G1) fun G7 => bd1 (m_X3_resizePoints_1_L28 a1 300 (0 : Int32) G7) fun G15 => Option.bind (m_X3_listCrowds_1 G15) fun G16 => some G16
set_option maxHeartbeats 4000000 in
set_option maxRecDepth 100000 in
theorem c_X3_resizePoints_1 {l : Launch} {k : mmK} {F : mmS} {a1 : Int32} {F1 : mmS} (h : m_X3_resizePoints_1 F a1 = some F1) : mm_T l k yX3_resizePoints cX3_resizePoints 3 none 2 [.ref (mmad k 1), .int a1] F none F1 := by
  refine mm_start [(0, .ref (mmad k 1)), (1, .int a1)] (by decide) (Nat.le_of_ble_eq_true rfl) rfl ?_
  intro z hz C
  subst hz
  have C : mm_C z k RX3 cX3_resizePoints 3 none 2 := C
  replace h := mk0 h
  unfold m_X3_resizePoints_1 at h
  refine mm_aload_n C dX3_resizePoints_0 rfl 0 rfl 1 rfl ?_
  refine mm_iload_n C dX3_resizePoints_1 rfl 1 rfl 2 rfl ?_
  obtain ⟨G1, eG1, h⟩ := me h
  refine mm_put (x := a1) (ty := .int) C fl_X3_9_X3 (by decide) (mc_1 k _) (mc_1 k _) tyX3 tyX3_ok nmX3 rfl (by decide +kernel) rfl rfl (Nat.le_of_ble_eq_true rfl) eG1 dX3_resizePoints_2 5 rfl ?_
  refine mm_iload_n C dX3_resizePoints_5 rfl 1 rfl 6 rfl ?_
  refine mm_istore_n (lv2 := [(2, .int a1), (0, .ref (mmad k 1)), (1, .int a1)]) C dX3_resizePoints_6 rfl (by decide) rfl 7 rfl ?_
  refine mm_lv [1, 2, 0] rfl ?_
  have hL7 : ∀ (K : (mmS) → Option (mmS)) (hK : ∀ (G3 : mmS) , K (G3) = some F1 → mm_AW z k 3 none F1 G3 26 [(0, .ref (mmad k 1)), (1, .int a1)] []) (n4 : Nat) (v2 : Int32) (G3 : mmS) , (m_X3_resizePoints_1_L7 n4 v2 G3).bind K = some F1 → mm_AW z k 3 none F1 G3 7 [(0, .ref (mmad k 1)), (1, .int a1), (2, .int v2)] [] := by
    intro K hK n4
    induction n4 with
    | zero => intro v2 G3 h; rw [m_X3_resizePoints_1_L7] at h; cases h
    | succ n4 ih =>
      intro v2 G3 h
      rw [m_X3_resizePoints_1_L7] at h
      refine mm_iload_n C dX3_resizePoints_7 rfl 2 rfl 8 rfl ?_
      refine mm_bipush (v := (6 : Int32)) C dX3_resizePoints_8 (by decide) 10 rfl ?_
      refine mm_icmp_ge C dX3_resizePoints_10 26 13 (by decide) rfl (fun hc => ?_) (fun hc => ?_)
      · rw [if_pos hc] at h
        refine mm_lv [0, 1] rfl ?_
        exact hK _ h
      · rw [if_neg hc] at h
        refine mm_aload_n C dX3_resizePoints_13 rfl 0 rfl 14 rfl ?_
        refine mm_get C fl_X3_21_X3 (by decide) (mc_1 k _) rfl dX3_resizePoints_14 17 rfl ?_
        refine mm_iload_n C dX3_resizePoints_17 rfl 2 rfl 18 rfl ?_
        refine mm_iconst (v := (0 : Int32)) C dX3_resizePoints_18 (by decide) 19 rfl ?_
        obtain ⟨G5, eG5, h⟩ := mb h
        refine mm_iast C eG5 dX3_resizePoints_19 20 rfl ?_
        obtain ⟨x6, ex6, h⟩ := me h
        refine mm_iinc (v := x6) (lv2 := [(2, .int x6), (0, .ref (mmad k 1)), (1, .int a1)]) C dX3_resizePoints_20 2 rfl (by rw [← ex6]; rfl) (by decide) rfl 23 rfl ?_
        refine mm_goto C dX3_resizePoints_23 7 (by decide) ?_
        refine mm_lv [1, 2, 0] rfl ?_
        exact ih _ _ h
  refine mj1 h (fun (G7 : mmS) => mm_AW z k 3 none F1 G7 26 [(0, .ref (mmad k 1)), (1, .int a1)] []) ?_ ?_
  · intro G7 h
    refine mm_iconst (v := (0 : Int32)) C dX3_resizePoints_26 (by decide) 27 rfl ?_
    refine mm_istore_n (lv2 := [(2, .int (0 : Int32)), (0, .ref (mmad k 1)), (1, .int a1)]) C dX3_resizePoints_27 rfl (by decide) rfl 28 rfl ?_
    refine mm_lv [1, 2, 0] rfl ?_
    have hL28 : ∀ (K : (mmS) → Option (mmS)) (hK : ∀ (G9 : mmS) , K (G9) = some F1 → mm_AW z k 3 none F1 G9 56 [(0, .ref (mmad k 1))] []) (n10 : Nat) (v8 : Int32) (G9 : mmS) , (m_X3_resizePoints_1_L28 a1 n10 v8 G9).bind K = some F1 → mm_AW z k 3 none F1 G9 28 [(0, .ref (mmad k 1)), (1, .int a1), (2, .int v8)] [] := by
      intro K hK n10
      induction n10 with
      | zero => intro v8 G9 h; rw [m_X3_resizePoints_1_L28] at h; cases h
      | succ n10 ih =>
        intro v8 G9 h
        rw [m_X3_resizePoints_1_L28] at h
        refine mm_iload_n C dX3_resizePoints_28 rfl 2 rfl 29 rfl ?_
        refine mm_iconst (v := (3 : Int32)) C dX3_resizePoints_29 (by decide) 30 rfl ?_
        refine mm_icmp_ge C dX3_resizePoints_30 56 33 (by decide) rfl (fun hc => ?_) (fun hc => ?_)
        · rw [if_pos hc] at h
          refine mm_lv [0] rfl ?_
          exact hK _ h
        · rw [if_neg hc] at h
          refine mm_aload_n C dX3_resizePoints_33 rfl 0 rfl 34 rfl ?_
          refine mm_get C fl_X3_25_X3 (by decide) (mc_1 k _) rfl dX3_resizePoints_34 37 rfl ?_
          refine mm_iload_n C dX3_resizePoints_37 rfl 2 rfl 38 rfl ?_
          obtain ⟨x11, ex11, h⟩ := mb h
          refine mm_iald C ex11 dX3_resizePoints_38 39 rfl ?_
          refine mm_iload_n C dX3_resizePoints_39 rfl 1 rfl 40 rfl ?_
          refine mj1 h (fun (G13 : mmS) => mm_AW z k 3 none F1 G13 50 [(0, .ref (mmad k 1)), (1, .int a1), (2, .int v8)] []) ?_ ?_
          · intro G13 h
            obtain ⟨x14, ex14, h⟩ := me h
            refine mm_iinc (v := x14) (lv2 := [(2, .int x14), (0, .ref (mmad k 1)), (1, .int a1)]) C dX3_resizePoints_50 2 rfl (by rw [← ex14]; rfl) (by decide) rfl 53 rfl ?_
            refine mm_goto C dX3_resizePoints_53 28 (by decide) ?_
            refine mm_lv [1, 2, 0] rfl ?_
            exact ih _ _ h
          · intro K2 hR50 h
            refine mm_icmp_lt C dX3_resizePoints_40 50 43 (by decide) rfl (fun hc => ?_) (fun hc => ?_)
            · rw [if_pos hc] at h
              exact hR50 _ h
            · rw [if_neg hc] at h
              refine mm_aload_n C dX3_resizePoints_43 rfl 0 rfl 44 rfl ?_
              refine mm_get C fl_X3_25_X3 (by decide) (mc_1 k _) rfl dX3_resizePoints_44 47 rfl ?_
              refine mm_iload_n C dX3_resizePoints_47 rfl 2 rfl 48 rfl ?_
              refine mm_iconst (v := (0 : Int32)) C dX3_resizePoints_48 (by decide) 49 rfl ?_
              obtain ⟨G12, eG12, h⟩ := mb h
              refine mm_iast C eG12 dX3_resizePoints_49 50 rfl ?_
              exact hR50 _ h
    refine mj1 h (fun (G15 : mmS) => mm_AW z k 3 none F1 G15 56 [(0, .ref (mmad k 1))] []) ?_ ?_
    · intro G15 h
      refine mm_aload_n C dX3_resizePoints_56 rfl 0 rfl 57 rfl ?_
      obtain ⟨G16, eG16, h⟩ := mb h
      refine mm_callV [] C (c_X3_listCrowds_1 eG16) wb_X3_listCrowds wv_X3_37 (by decide) (mc_1 k _) rfl rfl rfl (by omega) rfl (Nat.le_of_ble_eq_true rfl) dX3_resizePoints_57 60 rfl ?_
      show mm_AW z k 3 none F1 G16 60 [(0, .ref (mmad k 1))] []
      exact mm_vretW C (h) dX3_resizePoints_60
    · intro K2 hR h
      exact hL28 K2 hR 300 _ _ h
  · intro K2 hR h
    exact hL7 K2 hR 300 _ _ h
def m_X11_points_0 (F : mmS) (a1 : Int32) : Option (Int32 × mmS) :=
  Option.bind (m_X11_isWithin a1 (1 : Int32) (6 : Int32)) fun x1 => if x1 = (0 : Int32) then (some ((-2 : Int32), F)) else (mlet (F 1 0) fun x2 => Option.bind (m_X3_resizePoints_1 F a1) fun G3 => some (x2, G3))
set_option maxHeartbeats 4000000 in
set_option maxRecDepth 100000 in
theorem c_X11_points_0 {l : Launch} {k : mmK} {F : mmS} {a1 : Int32} {r : Int32} {F1 : mmS} (h : m_X11_points_0 F a1 = some (r, F1)) : mm_T l k yX11_points cX11_points 3 (some .int) 3 [.ref (mmad k 0), .int a1] F (some (.int r)) F1 := by
  refine mm_start [(0, .ref (mmad k 0)), (1, .int a1)] (by decide) (Nat.le_of_ble_eq_true rfl) rfl ?_
  intro z hz C
  subst hz
  have C : mm_C z k RX11 cX11_points 3 (some .int) 3 := C
  replace h := mk0 h
  unfold m_X11_points_0 at h
  refine mm_iload_n C dX11_points_0 rfl 1 rfl 1 rfl ?_
  refine mm_iconst (v := (1 : Int32)) C dX11_points_1 (by decide) 2 rfl ?_
  refine mm_bipush (v := (6 : Int32)) C dX11_points_2 (by decide) 4 rfl ?_
  obtain ⟨x1, ex1, h⟩ := mb h
  refine mm_callS [.int a1, .int (1 : Int32), .int (6 : Int32)] C (c_X11_isWithin ex1) wb_X11_isWithin ws_X11_85 rfl (by omega) rfl (Nat.le_of_ble_eq_true rfl) dX11_points_4 7 rfl ?_
  show mm_AW z k 3 (some (.int r)) F1 F 7 [(0, .ref (mmad k 0)), (1, .int a1)] [.int x1]
  refine mm_if_ne C dX11_points_7 13 10 (by decide) rfl (fun hc => ?_) (fun hc => ?_)
  · rw [if_neg hc] at h
    refine mm_aload_n C dX11_points_13 rfl 0 rfl 14 rfl ?_
    refine mm_get C fl_X11_10_X11 (by decide) (mc_0 k _) rfl dX11_points_14 17 rfl ?_
    refine mm_get C fl_X11_89_X3 (by decide) (mc_1 k _) rfl dX11_points_17 20 rfl ?_
    obtain ⟨x2, ex2, h⟩ := me h
    refine mm_top ex2 ?_
    refine mm_istore_n (lv2 := [(2, .int x2), (0, .ref (mmad k 0)), (1, .int a1)]) C dX11_points_20 rfl (by decide) rfl 21 rfl ?_
    refine mm_aload_n C dX11_points_21 rfl 1 rfl 22 rfl ?_
    refine mm_get C fl_X11_10_X11 (by decide) (mc_0 k _) rfl dX11_points_22 25 rfl ?_
    refine mm_iload_n C dX11_points_25 rfl 2 rfl 26 rfl ?_
    obtain ⟨G3, eG3, h⟩ := mb h
    refine mm_callV [.int a1] C (c_X3_resizePoints_1 eG3) wb_X3_resizePoints wv_X11_93 (by decide) (mc_1 k _) rfl rfl rfl (by omega) rfl (Nat.le_of_ble_eq_true rfl) dX11_points_26 29 rfl ?_
    show mm_AW z k 3 (some (.int r)) F1 G3 29 [(2, .int x2), (0, .ref (mmad k 0)), (1, .int a1)] []
    refine mm_iload_n C dX11_points_29 rfl 0 rfl 30 rfl ?_
    exact mm_iretW C (h) dX11_points_30
  · rw [if_pos hc] at h
    refine mm_bipush (v := (-2 : Int32)) C dX11_points_10 (by decide) 12 rfl ?_
    exact mm_iretW C (h) dX11_points_12
def m_X11_isPoint_0 (F : mmS) (a1 : Int32) : Option (Int32) :=
  Option.bind (m_X11_isWithin a1 (0 : Int32) ((F 1 0) - (1 : Int32))) fun x1 => Option.bind (zg x1) fun x2 => some (x2)
set_option maxHeartbeats 4000000 in
set_option maxRecDepth 100000 in
theorem c_X11_isPoint_0 {l : Launch} {k : mmK} {F : mmS} {a1 : Int32} {r : Int32} (h : m_X11_isPoint_0 F a1 = some r) : mm_T l k yX11_isPoint cX11_isPoint 2 (some .boolean) 1 [.ref (mmad k 0), .int a1] F (some (.int r)) F := by
  refine mm_start [(0, .ref (mmad k 0)), (1, .int a1)] (by decide) (Nat.le_of_ble_eq_true rfl) rfl ?_
  intro z hz C
  subst hz
  have C : mm_C z k RX11 cX11_isPoint 2 (some .boolean) 1 := C
  replace h := mk0 h
  unfold m_X11_isPoint_0 at h
  refine mm_iload_n C dX11_isPoint_0 rfl 1 rfl 1 rfl ?_
  refine mm_iconst (v := (0 : Int32)) C dX11_isPoint_1 (by decide) 2 rfl ?_
  refine mm_aload_n C dX11_isPoint_2 rfl 0 rfl 3 rfl ?_
  refine mm_get C fl_X11_10_X11 (by decide) (mc_0 k _) rfl dX11_isPoint_3 6 rfl ?_
  refine mm_get C fl_X11_89_X3 (by decide) (mc_1 k _) rfl dX11_isPoint_6 9 rfl ?_
  refine mm_iconst (v := (1 : Int32)) C dX11_isPoint_9 (by decide) 10 rfl ?_
  refine mm_isub C dX11_isPoint_10 11 rfl ?_
  obtain ⟨x1, ex1, h⟩ := mb h
  refine mm_callS [.int a1, .int (0 : Int32), .int ((F 1 0) - (1 : Int32))] C (c_X11_isWithin ex1) wb_X11_isWithin ws_X11_85 rfl (by omega) rfl (Nat.le_of_ble_eq_true rfl) dX11_isPoint_11 14 rfl ?_
  show mm_AW z k 2 (some (.int r)) F F 14 [(0, .ref (mmad k 0)), (1, .int a1)] [.int x1]
  obtain ⟨x2, ex2, h⟩ := mb h
  exact mm_zretP C ex2 (h) dX11_isPoint_14
def m_X11_place_0 (F : mmS) (a1 : Int32) (a2 : Int32) : Option (Int32 × mmS) :=
  Option.bind (m_X11_isPoint_0 F a1) fun x1 => if x1 = (0 : Int32) then (some ((-2 : Int32), F)) else (Option.bind (m_X11_isWithin a2 (0 : Int32) (1000 : Int32)) fun x2 => if x2 = (0 : Int32) then (some ((-2 : Int32), F)) else (Option.bind (ald F 2 a1) fun x3 => Option.bind (ast F 2 a1 a2) fun G4 => some (x3, G4)))
set_option maxHeartbeats 4000000 in
set_option maxRecDepth 100000 in
theorem c_X11_place_0 {l : Launch} {k : mmK} {F : mmS} {a1 : Int32} {a2 : Int32} {r : Int32} {F1 : mmS} (h : m_X11_place_0 F a1 a2 = some (r, F1)) : mm_T l k yX11_place cX11_place 4 (some .int) 2 [.ref (mmad k 0), .int a1, .int a2] F (some (.int r)) F1 := by
  refine mm_start [(0, .ref (mmad k 0)), (1, .int a1), (2, .int a2)] (by decide) (Nat.le_of_ble_eq_true rfl) rfl ?_
  intro z hz C
  subst hz
  have C : mm_C z k RX11 cX11_place 4 (some .int) 2 := C
  replace h := mk0 h
  unfold m_X11_place_0 at h
  refine mm_aload_n C dX11_place_0 rfl 0 rfl 1 rfl ?_
  refine mm_iload_n C dX11_place_1 rfl 1 rfl 2 rfl ?_
  obtain ⟨x1, ex1, h⟩ := mb h
  refine mm_callV [.int a1] C (c_X11_isPoint_0 ex1) wb_X11_isPoint wv_X11_97 (by decide) (mc_0 k _) rfl rfl rfl (by omega) rfl (Nat.le_of_ble_eq_true rfl) dX11_place_2 5 rfl ?_
  show mm_AW z k 4 (some (.int r)) F1 F 5 [(0, .ref (mmad k 0)), (1, .int a1), (2, .int a2)] [.int x1]
  refine mm_if_eq C dX11_place_5 19 8 (by decide) rfl (fun hc => ?_) (fun hc => ?_)
  · rw [if_pos hc] at h
    refine mm_bipush (v := (-2 : Int32)) C dX11_place_19 (by decide) 21 rfl ?_
    exact mm_iretW C (h) dX11_place_21
  · rw [if_neg hc] at h
    refine mm_iload_n C dX11_place_8 rfl 2 rfl 9 rfl ?_
    refine mm_iconst (v := (0 : Int32)) C dX11_place_9 (by decide) 10 rfl ?_
    refine mm_sipush (v := (1000 : Int32)) C dX11_place_10 (by decide) 13 rfl ?_
    obtain ⟨x2, ex2, h⟩ := mb h
    refine mm_callS [.int a2, .int (0 : Int32), .int (1000 : Int32)] C (c_X11_isWithin ex2) wb_X11_isWithin ws_X11_85 rfl (by omega) rfl (Nat.le_of_ble_eq_true rfl) dX11_place_13 16 rfl ?_
    show mm_AW z k 4 (some (.int r)) F1 F 16 [(0, .ref (mmad k 0)), (1, .int a1), (2, .int a2)] [.int x2]
    refine mm_if_ne C dX11_place_16 22 19 (by decide) rfl (fun hc => ?_) (fun hc => ?_)
    · rw [if_neg hc] at h
      refine mm_aload_n C dX11_place_22 rfl 0 rfl 23 rfl ?_
      refine mm_get C fl_X11_10_X11 (by decide) (mc_0 k _) rfl dX11_place_23 26 rfl ?_
      refine mm_get C fl_X11_101_X3 (by decide) (mc_1 k _) rfl dX11_place_26 29 rfl ?_
      refine mm_iload_n C dX11_place_29 rfl 1 rfl 30 rfl ?_
      obtain ⟨x3, ex3, h⟩ := mb h
      refine mm_iald C ex3 dX11_place_30 31 rfl ?_
      refine mm_istore_n (lv2 := [(3, .int x3), (0, .ref (mmad k 0)), (1, .int a1), (2, .int a2)]) C dX11_place_31 rfl (by decide) rfl 32 rfl ?_
      refine mm_aload_n C dX11_place_32 rfl 1 rfl 33 rfl ?_
      refine mm_get C fl_X11_10_X11 (by decide) (mc_0 k _) rfl dX11_place_33 36 rfl ?_
      refine mm_get C fl_X11_101_X3 (by decide) (mc_1 k _) rfl dX11_place_36 39 rfl ?_
      refine mm_iload_n C dX11_place_39 rfl 2 rfl 40 rfl ?_
      refine mm_iload_n C dX11_place_40 rfl 3 rfl 41 rfl ?_
      obtain ⟨G4, eG4, h⟩ := mb h
      refine mm_iast C eG4 dX11_place_41 42 rfl ?_
      refine mm_iload_n C dX11_place_42 rfl 0 rfl 43 rfl ?_
      exact mm_iretW C (h) dX11_place_43
    · rw [if_pos hc] at h
      refine mm_bipush (v := (-2 : Int32)) C dX11_place_19 (by decide) 21 rfl ?_
      exact mm_iretW C (h) dX11_place_21
def m_X3_resizeServers_1_L7 : Nat → Int32 → mmS → Option (mmS)
  | 0, _, _ => none
  | n4 + 1, v2, G3 => if (3 : Int32) ≤ v2 then (some ((G3))) else (Option.bind (ast G3 3 v2 (0 : Int32)) fun G5 => mlet (v2 + (1 : Int32)) fun x6 => m_X3_resizeServers_1_L7 n4 x6 G5)
def m_X3_resizeServers_1 (F : mmS) (a1 : Int32) : Option (mmS) :=
  mlet (stF F 1 1 a1) fun G1 => bd1 (m_X3_resizeServers_1_L7 300 a1 G1) fun G7 => Option.bind (m_X3_listCrowds_1 G7) fun G8 => some G8
set_option maxHeartbeats 4000000 in
set_option maxRecDepth 100000 in
theorem c_X3_resizeServers_1 {l : Launch} {k : mmK} {F : mmS} {a1 : Int32} {F1 : mmS} (h : m_X3_resizeServers_1 F a1 = some F1) : mm_T l k yX3_resizeServers cX3_resizeServers 3 none 2 [.ref (mmad k 1), .int a1] F none F1 := by
  refine mm_start [(0, .ref (mmad k 1)), (1, .int a1)] (by decide) (Nat.le_of_ble_eq_true rfl) rfl ?_
  intro z hz C
  subst hz
  have C : mm_C z k RX3 cX3_resizeServers 3 none 2 := C
  replace h := mk0 h
  unfold m_X3_resizeServers_1 at h
  refine mm_aload_n C dX3_resizeServers_0 rfl 0 rfl 1 rfl ?_
  refine mm_iload_n C dX3_resizeServers_1 rfl 1 rfl 2 rfl ?_
  obtain ⟨G1, eG1, h⟩ := me h
  refine mm_put (x := a1) (ty := .int) C fl_X3_15_X3 (by decide) (mc_1 k _) (mc_1 k _) tyX3 tyX3_ok nmX3 rfl (by decide +kernel) rfl rfl (Nat.le_of_ble_eq_true rfl) eG1 dX3_resizeServers_2 5 rfl ?_
  refine mm_iload_n C dX3_resizeServers_5 rfl 1 rfl 6 rfl ?_
  refine mm_istore_n (lv2 := [(2, .int a1), (0, .ref (mmad k 1)), (1, .int a1)]) C dX3_resizeServers_6 rfl (by decide) rfl 7 rfl ?_
  refine mm_lv [1, 0] rfl ?_
  have hL7 : ∀ (K : (mmS) → Option (mmS)) (hK : ∀ (G3 : mmS) , K (G3) = some F1 → mm_AW z k 3 none F1 G3 25 [(0, .ref (mmad k 1))] []) (n4 : Nat) (v2 : Int32) (G3 : mmS) , (m_X3_resizeServers_1_L7 n4 v2 G3).bind K = some F1 → mm_AW z k 3 none F1 G3 7 [(0, .ref (mmad k 1)), (2, .int v2)] [] := by
    intro K hK n4
    induction n4 with
    | zero => intro v2 G3 h; rw [m_X3_resizeServers_1_L7] at h; cases h
    | succ n4 ih =>
      intro v2 G3 h
      rw [m_X3_resizeServers_1_L7] at h
      refine mm_iload_n C dX3_resizeServers_7 rfl 1 rfl 8 rfl ?_
      refine mm_iconst (v := (3 : Int32)) C dX3_resizeServers_8 (by decide) 9 rfl ?_
      refine mm_icmp_ge C dX3_resizeServers_9 25 12 (by decide) rfl (fun hc => ?_) (fun hc => ?_)
      · rw [if_pos hc] at h
        refine mm_lv [0] rfl ?_
        exact hK _ h
      · rw [if_neg hc] at h
        refine mm_aload_n C dX3_resizeServers_12 rfl 0 rfl 13 rfl ?_
        refine mm_get C fl_X3_25_X3 (by decide) (mc_1 k _) rfl dX3_resizeServers_13 16 rfl ?_
        refine mm_iload_n C dX3_resizeServers_16 rfl 1 rfl 17 rfl ?_
        refine mm_iconst (v := (0 : Int32)) C dX3_resizeServers_17 (by decide) 18 rfl ?_
        obtain ⟨G5, eG5, h⟩ := mb h
        refine mm_iast C eG5 dX3_resizeServers_18 19 rfl ?_
        obtain ⟨x6, ex6, h⟩ := me h
        refine mm_iinc (v := x6) (lv2 := [(2, .int x6), (0, .ref (mmad k 1))]) C dX3_resizeServers_19 1 rfl (by rw [← ex6]; rfl) (by decide) rfl 22 rfl ?_
        refine mm_goto C dX3_resizeServers_22 7 (by decide) ?_
        refine mm_lv [1, 0] rfl ?_
        exact ih _ _ h
  refine mj1 h (fun (G7 : mmS) => mm_AW z k 3 none F1 G7 25 [(0, .ref (mmad k 1))] []) ?_ ?_
  · intro G7 h
    refine mm_aload_n C dX3_resizeServers_25 rfl 0 rfl 26 rfl ?_
    obtain ⟨G8, eG8, h⟩ := mb h
    refine mm_callV [] C (c_X3_listCrowds_1 eG8) wb_X3_listCrowds wv_X3_37 (by decide) (mc_1 k _) rfl rfl rfl (by omega) rfl (Nat.le_of_ble_eq_true rfl) dX3_resizeServers_26 29 rfl ?_
    show mm_AW z k 3 none F1 G8 29 [(0, .ref (mmad k 1))] []
    exact mm_vretW C (h) dX3_resizeServers_29
  · intro K2 hR h
    exact hL7 K2 hR 300 _ _ h
def m_X11_servers_0 (F : mmS) (a1 : Int32) : Option (Int32 × mmS) :=
  Option.bind (m_X11_isWithin a1 (1 : Int32) (3 : Int32)) fun x1 => if x1 = (0 : Int32) then (some ((-2 : Int32), F)) else (mlet (F 1 1) fun x2 => Option.bind (m_X3_resizeServers_1 F a1) fun G3 => some (x2, G3))
set_option maxHeartbeats 4000000 in
set_option maxRecDepth 100000 in
theorem c_X11_servers_0 {l : Launch} {k : mmK} {F : mmS} {a1 : Int32} {r : Int32} {F1 : mmS} (h : m_X11_servers_0 F a1 = some (r, F1)) : mm_T l k yX11_servers cX11_servers 3 (some .int) 3 [.ref (mmad k 0), .int a1] F (some (.int r)) F1 := by
  refine mm_start [(0, .ref (mmad k 0)), (1, .int a1)] (by decide) (Nat.le_of_ble_eq_true rfl) rfl ?_
  intro z hz C
  subst hz
  have C : mm_C z k RX11 cX11_servers 3 (some .int) 3 := C
  replace h := mk0 h
  unfold m_X11_servers_0 at h
  refine mm_iload_n C dX11_servers_0 rfl 1 rfl 1 rfl ?_
  refine mm_iconst (v := (1 : Int32)) C dX11_servers_1 (by decide) 2 rfl ?_
  refine mm_iconst (v := (3 : Int32)) C dX11_servers_2 (by decide) 3 rfl ?_
  obtain ⟨x1, ex1, h⟩ := mb h
  refine mm_callS [.int a1, .int (1 : Int32), .int (3 : Int32)] C (c_X11_isWithin ex1) wb_X11_isWithin ws_X11_85 rfl (by omega) rfl (Nat.le_of_ble_eq_true rfl) dX11_servers_3 6 rfl ?_
  show mm_AW z k 3 (some (.int r)) F1 F 6 [(0, .ref (mmad k 0)), (1, .int a1)] [.int x1]
  refine mm_if_ne C dX11_servers_6 12 9 (by decide) rfl (fun hc => ?_) (fun hc => ?_)
  · rw [if_neg hc] at h
    refine mm_aload_n C dX11_servers_12 rfl 0 rfl 13 rfl ?_
    refine mm_get C fl_X11_10_X11 (by decide) (mc_0 k _) rfl dX11_servers_13 16 rfl ?_
    refine mm_get C fl_X11_105_X3 (by decide) (mc_1 k _) rfl dX11_servers_16 19 rfl ?_
    obtain ⟨x2, ex2, h⟩ := me h
    refine mm_top ex2 ?_
    refine mm_istore_n (lv2 := [(2, .int x2), (0, .ref (mmad k 0)), (1, .int a1)]) C dX11_servers_19 rfl (by decide) rfl 20 rfl ?_
    refine mm_aload_n C dX11_servers_20 rfl 1 rfl 21 rfl ?_
    refine mm_get C fl_X11_10_X11 (by decide) (mc_0 k _) rfl dX11_servers_21 24 rfl ?_
    refine mm_iload_n C dX11_servers_24 rfl 2 rfl 25 rfl ?_
    obtain ⟨G3, eG3, h⟩ := mb h
    refine mm_callV [.int a1] C (c_X3_resizeServers_1 eG3) wb_X3_resizeServers wv_X11_108 (by decide) (mc_1 k _) rfl rfl rfl (by omega) rfl (Nat.le_of_ble_eq_true rfl) dX11_servers_25 28 rfl ?_
    show mm_AW z k 3 (some (.int r)) F1 G3 28 [(2, .int x2), (0, .ref (mmad k 0)), (1, .int a1)] []
    refine mm_iload_n C dX11_servers_28 rfl 0 rfl 29 rfl ?_
    exact mm_iretW C (h) dX11_servers_29
  · rw [if_pos hc] at h
    refine mm_bipush (v := (-2 : Int32)) C dX11_servers_9 (by decide) 11 rfl ?_
    exact mm_iretW C (h) dX11_servers_11
def m_X11_isServer_0 (F : mmS) (a1 : Int32) : Option (Int32) :=
  Option.bind (m_X11_isWithin a1 (0 : Int32) ((F 1 1) - (1 : Int32))) fun x1 => Option.bind (zg x1) fun x2 => some (x2)
set_option maxHeartbeats 4000000 in
set_option maxRecDepth 100000 in
theorem c_X11_isServer_0 {l : Launch} {k : mmK} {F : mmS} {a1 : Int32} {r : Int32} (h : m_X11_isServer_0 F a1 = some r) : mm_T l k yX11_isServer cX11_isServer 2 (some .boolean) 1 [.ref (mmad k 0), .int a1] F (some (.int r)) F := by
  refine mm_start [(0, .ref (mmad k 0)), (1, .int a1)] (by decide) (Nat.le_of_ble_eq_true rfl) rfl ?_
  intro z hz C
  subst hz
  have C : mm_C z k RX11 cX11_isServer 2 (some .boolean) 1 := C
  replace h := mk0 h
  unfold m_X11_isServer_0 at h
  refine mm_iload_n C dX11_isServer_0 rfl 1 rfl 1 rfl ?_
  refine mm_iconst (v := (0 : Int32)) C dX11_isServer_1 (by decide) 2 rfl ?_
  refine mm_aload_n C dX11_isServer_2 rfl 0 rfl 3 rfl ?_
  refine mm_get C fl_X11_10_X11 (by decide) (mc_0 k _) rfl dX11_isServer_3 6 rfl ?_
  refine mm_get C fl_X11_105_X3 (by decide) (mc_1 k _) rfl dX11_isServer_6 9 rfl ?_
  refine mm_iconst (v := (1 : Int32)) C dX11_isServer_9 (by decide) 10 rfl ?_
  refine mm_isub C dX11_isServer_10 11 rfl ?_
  obtain ⟨x1, ex1, h⟩ := mb h
  refine mm_callS [.int a1, .int (0 : Int32), .int ((F 1 1) - (1 : Int32))] C (c_X11_isWithin ex1) wb_X11_isWithin ws_X11_85 rfl (by omega) rfl (Nat.le_of_ble_eq_true rfl) dX11_isServer_11 14 rfl ?_
  show mm_AW z k 2 (some (.int r)) F F 14 [(0, .ref (mmad k 0)), (1, .int a1)] [.int x1]
  obtain ⟨x2, ex2, h⟩ := mb h
  exact mm_zretP C ex2 (h) dX11_isServer_14
def m_X11_start_0 (F : mmS) (a1 : Int32) (a2 : Int32) : Option (Int32 × mmS) :=
  Option.bind (m_X11_isServer_0 F a1) fun x1 => if x1 = (0 : Int32) then (some ((-2 : Int32), F)) else (Option.bind (m_X11_isPoint_0 F a2) fun x2 => if x2 = (0 : Int32) then (some ((-2 : Int32), F)) else (Option.bind (ald F 3 a1) fun x3 => Option.bind (ast F 3 a1 a2) fun G4 => some (x3, G4)))
set_option maxHeartbeats 4000000 in
set_option maxRecDepth 100000 in
theorem c_X11_start_0 {l : Launch} {k : mmK} {F : mmS} {a1 : Int32} {a2 : Int32} {r : Int32} {F1 : mmS} (h : m_X11_start_0 F a1 a2 = some (r, F1)) : mm_T l k yX11_start cX11_start 4 (some .int) 2 [.ref (mmad k 0), .int a1, .int a2] F (some (.int r)) F1 := by
  refine mm_start [(0, .ref (mmad k 0)), (1, .int a1), (2, .int a2)] (by decide) (Nat.le_of_ble_eq_true rfl) rfl ?_
  intro z hz C
  subst hz
  have C : mm_C z k RX11 cX11_start 4 (some .int) 2 := C
  replace h := mk0 h
  unfold m_X11_start_0 at h
  refine mm_aload_n C dX11_start_0 rfl 0 rfl 1 rfl ?_
  refine mm_iload_n C dX11_start_1 rfl 1 rfl 2 rfl ?_
  obtain ⟨x1, ex1, h⟩ := mb h
  refine mm_callV [.int a1] C (c_X11_isServer_0 ex1) wb_X11_isServer wv_X11_111 (by decide) (mc_0 k _) rfl rfl rfl (by omega) rfl (Nat.le_of_ble_eq_true rfl) dX11_start_2 5 rfl ?_
  show mm_AW z k 4 (some (.int r)) F1 F 5 [(0, .ref (mmad k 0)), (1, .int a1), (2, .int a2)] [.int x1]
  refine mm_if_eq C dX11_start_5 16 8 (by decide) rfl (fun hc => ?_) (fun hc => ?_)
  · rw [if_pos hc] at h
    refine mm_bipush (v := (-2 : Int32)) C dX11_start_16 (by decide) 18 rfl ?_
    exact mm_iretW C (h) dX11_start_18
  · rw [if_neg hc] at h
    refine mm_aload_n C dX11_start_8 rfl 0 rfl 9 rfl ?_
    refine mm_iload_n C dX11_start_9 rfl 2 rfl 10 rfl ?_
    obtain ⟨x2, ex2, h⟩ := mb h
    refine mm_callV [.int a2] C (c_X11_isPoint_0 ex2) wb_X11_isPoint wv_X11_97 (by decide) (mc_0 k _) rfl rfl rfl (by omega) rfl (Nat.le_of_ble_eq_true rfl) dX11_start_10 13 rfl ?_
    show mm_AW z k 4 (some (.int r)) F1 F 13 [(0, .ref (mmad k 0)), (1, .int a1), (2, .int a2)] [.int x2]
    refine mm_if_ne C dX11_start_13 19 16 (by decide) rfl (fun hc => ?_) (fun hc => ?_)
    · rw [if_neg hc] at h
      refine mm_aload_n C dX11_start_19 rfl 0 rfl 20 rfl ?_
      refine mm_get C fl_X11_10_X11 (by decide) (mc_0 k _) rfl dX11_start_20 23 rfl ?_
      refine mm_get C fl_X11_114_X3 (by decide) (mc_1 k _) rfl dX11_start_23 26 rfl ?_
      refine mm_iload_n C dX11_start_26 rfl 1 rfl 27 rfl ?_
      obtain ⟨x3, ex3, h⟩ := mb h
      refine mm_iald C ex3 dX11_start_27 28 rfl ?_
      refine mm_istore_n (lv2 := [(3, .int x3), (0, .ref (mmad k 0)), (1, .int a1), (2, .int a2)]) C dX11_start_28 rfl (by decide) rfl 29 rfl ?_
      refine mm_aload_n C dX11_start_29 rfl 1 rfl 30 rfl ?_
      refine mm_get C fl_X11_10_X11 (by decide) (mc_0 k _) rfl dX11_start_30 33 rfl ?_
      refine mm_get C fl_X11_114_X3 (by decide) (mc_1 k _) rfl dX11_start_33 36 rfl ?_
      refine mm_iload_n C dX11_start_36 rfl 2 rfl 37 rfl ?_
      refine mm_iload_n C dX11_start_37 rfl 3 rfl 38 rfl ?_
      obtain ⟨G4, eG4, h⟩ := mb h
      refine mm_iast C eG4 dX11_start_38 39 rfl ?_
      refine mm_iload_n C dX11_start_39 rfl 0 rfl 40 rfl ?_
      exact mm_iretW C (h) dX11_start_40
    · rw [if_pos hc] at h
      refine mm_bipush (v := (-2 : Int32)) C dX11_start_16 (by decide) 18 rfl ?_
      exact mm_iretW C (h) dX11_start_18
def m_X11_factor_0 (F : mmS) (a1 : Int32) : Option (Int32 × mmS) :=
  Option.bind (m_X11_isWithin a1 (1 : Int32) (9 : Int32)) fun x1 => if x1 = (0 : Int32) then (some ((-2 : Int32), F)) else (mlet (F 1 2) fun x2 => mlet (stF F 1 2 a1) fun G3 => some (x2, G3))
set_option maxHeartbeats 4000000 in
set_option maxRecDepth 100000 in
theorem c_X11_factor_0 {l : Launch} {k : mmK} {F : mmS} {a1 : Int32} {r : Int32} {F1 : mmS} (h : m_X11_factor_0 F a1 = some (r, F1)) : mm_T l k yX11_factor cX11_factor 3 (some .int) 1 [.ref (mmad k 0), .int a1] F (some (.int r)) F1 := by
  refine mm_start [(0, .ref (mmad k 0)), (1, .int a1)] (by decide) (Nat.le_of_ble_eq_true rfl) rfl ?_
  intro z hz C
  subst hz
  have C : mm_C z k RX11 cX11_factor 3 (some .int) 1 := C
  replace h := mk0 h
  unfold m_X11_factor_0 at h
  refine mm_iload_n C dX11_factor_0 rfl 1 rfl 1 rfl ?_
  refine mm_iconst (v := (1 : Int32)) C dX11_factor_1 (by decide) 2 rfl ?_
  refine mm_bipush (v := (9 : Int32)) C dX11_factor_2 (by decide) 4 rfl ?_
  obtain ⟨x1, ex1, h⟩ := mb h
  refine mm_callS [.int a1, .int (1 : Int32), .int (9 : Int32)] C (c_X11_isWithin ex1) wb_X11_isWithin ws_X11_85 rfl (by omega) rfl (Nat.le_of_ble_eq_true rfl) dX11_factor_4 7 rfl ?_
  show mm_AW z k 3 (some (.int r)) F1 F 7 [(0, .ref (mmad k 0)), (1, .int a1)] [.int x1]
  refine mm_if_ne C dX11_factor_7 13 10 (by decide) rfl (fun hc => ?_) (fun hc => ?_)
  · rw [if_neg hc] at h
    refine mm_aload_n C dX11_factor_13 rfl 0 rfl 14 rfl ?_
    refine mm_get C fl_X11_10_X11 (by decide) (mc_0 k _) rfl dX11_factor_14 17 rfl ?_
    refine mm_get C fl_X11_117_X3 (by decide) (mc_1 k _) rfl dX11_factor_17 20 rfl ?_
    obtain ⟨x2, ex2, h⟩ := me h
    refine mm_top ex2 ?_
    refine mm_istore_n (lv2 := [(2, .int x2), (0, .ref (mmad k 0)), (1, .int a1)]) C dX11_factor_20 rfl (by decide) rfl 21 rfl ?_
    refine mm_aload_n C dX11_factor_21 rfl 1 rfl 22 rfl ?_
    refine mm_get C fl_X11_10_X11 (by decide) (mc_0 k _) rfl dX11_factor_22 25 rfl ?_
    refine mm_iload_n C dX11_factor_25 rfl 2 rfl 26 rfl ?_
    obtain ⟨G3, eG3, h⟩ := me h
    refine mm_put (x := a1) (ty := .int) C fl_X11_117_X3 (by decide) (mc_1 k _) (mc_1 k _) tyX3 tyX3_ok nmX3 rfl (by decide +kernel) rfl rfl (Nat.le_of_ble_eq_true rfl) eG3 dX11_factor_26 29 rfl ?_
    refine mm_iload_n C dX11_factor_29 rfl 0 rfl 30 rfl ?_
    exact mm_iretW C (h) dX11_factor_30
  · rw [if_pos hc] at h
    refine mm_bipush (v := (-2 : Int32)) C dX11_factor_10 (by decide) 12 rfl ?_
    exact mm_iretW C (h) dX11_factor_12
def m_X8_isLost_6 (F : mmS) (a1 : Int32) : Option (Int32) :=
  Option.bind (ald F 12 a1) fun x1 => if x1 = (-1 : Int32) then (Option.bind (zg (1 : Int32)) fun x3 => some (x3)) else (Option.bind (zg (0 : Int32)) fun x2 => some (x2))
set_option maxHeartbeats 4000000 in
set_option maxRecDepth 100000 in
theorem c_X8_isLost_6 {l : Launch} {k : mmK} {F : mmS} {a1 : Int32} {r : Int32} (h : m_X8_isLost_6 F a1 = some r) : mm_T l k yX8_isLost cX8_isLost 2 (some .boolean) 0 [.ref (mmad k 6), .int a1] F (some (.int r)) F := by
  refine mm_start [(0, .ref (mmad k 6)), (1, .int a1)] (by decide) (Nat.le_of_ble_eq_true rfl) rfl ?_
  intro z hz C
  subst hz
  have C : mm_C z k RX8 cX8_isLost 2 (some .boolean) 0 := C
  replace h := mk0 h
  unfold m_X8_isLost_6 at h
  refine mm_aload_n C dX8_isLost_0 rfl 0 rfl 1 rfl ?_
  refine mm_get C fl_X8_16_X8 (by decide) (mc_6 k _) rfl dX8_isLost_1 4 rfl ?_
  refine mm_iload_n C dX8_isLost_4 rfl 1 rfl 5 rfl ?_
  obtain ⟨x1, ex1, h⟩ := mb h
  refine mm_iald C ex1 dX8_isLost_5 6 rfl ?_
  refine mm_iconst (v := (-1 : Int32)) C dX8_isLost_6 (by decide) 7 rfl ?_
  refine mm_icmp_ne C dX8_isLost_7 14 10 (by decide) rfl (fun hc => ?_) (fun hc => ?_)
  · rw [if_neg hc] at h
    refine mm_iconst (v := (0 : Int32)) C dX8_isLost_14 (by decide) 15 rfl ?_
    obtain ⟨x2, ex2, h⟩ := mb h
    exact mm_zretP C ex2 (h) dX8_isLost_15
  · rw [if_pos hc] at h
    refine mm_iconst (v := (1 : Int32)) C dX8_isLost_10 (by decide) 11 rfl ?_
    refine mm_goto C dX8_isLost_11 15 (by decide) ?_
    obtain ⟨x3, ex3, h⟩ := mb h
    exact mm_zretP C ex3 (h) dX8_isLost_15
def m_X6_hintAt_6_1 (F : mmS) (a2 : Int32) : Option (Int32) :=
  Option.bind (m_X8_isLost_6 F (1 : Int32)) fun x1 => if x1 = (0 : Int32) then (Option.bind (ald F 13 (1 : Int32)) fun x2 => if a2 < x2 then (Option.bind (rld 7 (1 : Int32)) fun q3 => Option.bind (ald F q3 a2) fun x4 => Option.bind (m_X11_isWithin x4 (0 : Int32) ((F 1 1) - (1 : Int32))) fun x5 => if x5 = (0 : Int32) then (some (-1 : Int32)) else (some x4)) else (some (-1 : Int32))) else (some (-1 : Int32))
set_option maxHeartbeats 4000000 in
set_option maxRecDepth 100000 in
theorem c_X6_hintAt_6_1 {l : Launch} {k : mmK} {F : mmS} {a2 : Int32} {r : Int32} (h : m_X6_hintAt_6_1 F a2 = some r) : mm_T l k yX6_hintAt cX6_hintAt 4 (some .int) 1 [.ref (mmad k 6), .ref (mmad k 1), .int a2] F (some (.int r)) F := by
  refine mm_start [(0, .ref (mmad k 6)), (1, .ref (mmad k 1)), (2, .int a2)] (by decide) (Nat.le_of_ble_eq_true rfl) rfl ?_
  intro z hz C
  subst hz
  have C : mm_C z k RX6 cX6_hintAt 4 (some .int) 1 := C
  replace h := mk0 h
  unfold m_X6_hintAt_6_1 at h
  refine mm_aload_n C dX6_hintAt_0 rfl 0 rfl 1 rfl ?_
  refine mm_iconst (v := (1 : Int32)) C dX6_hintAt_1 (by decide) 2 rfl ?_
  obtain ⟨x1, ex1, h⟩ := mb h
  refine mm_callV [.int (1 : Int32)] C (c_X8_isLost_6 ex1) wb_X8_isLost wv_X6_22 (by decide) (mc_6 k _) rfl rfl rfl (by omega) rfl (Nat.le_of_ble_eq_true rfl) dX6_hintAt_2 5 rfl ?_
  show mm_AW z k 4 (some (.int r)) F F 5 [(0, .ref (mmad k 6)), (1, .ref (mmad k 1)), (2, .int a2)] [.int x1]
  refine mm_if_ne C dX6_hintAt_5 18 8 (by decide) rfl (fun hc => ?_) (fun hc => ?_)
  · rw [if_neg hc] at h
    refine mm_iconst (v := (-1 : Int32)) C dX6_hintAt_18 (by decide) 19 rfl ?_
    exact mm_iretP C (h) dX6_hintAt_19
  · rw [if_pos hc] at h
    refine mm_iload_n C dX6_hintAt_8 rfl 2 rfl 9 rfl ?_
    refine mm_aload_n C dX6_hintAt_9 rfl 0 rfl 10 rfl ?_
    refine mm_get C fl_X6_28_X8 (by decide) (mc_6 k _) rfl dX6_hintAt_10 13 rfl ?_
    refine mm_iconst (v := (1 : Int32)) C dX6_hintAt_13 (by decide) 14 rfl ?_
    obtain ⟨x2, ex2, h⟩ := mb h
    refine mm_iald C ex2 dX6_hintAt_14 15 rfl ?_
    refine mm_icmp_lt C dX6_hintAt_15 20 18 (by decide) rfl (fun hc => ?_) (fun hc => ?_)
    · rw [if_pos hc] at h
      refine mm_aload_n C dX6_hintAt_20 rfl 0 rfl 21 rfl ?_
      refine mm_get C fl_X6_31_X8 (by decide) (mc_6 k _) rfl dX6_hintAt_21 24 rfl ?_
      refine mm_iconst (v := (1 : Int32)) C dX6_hintAt_24 (by decide) 25 rfl ?_
      obtain ⟨q3, eq3, h⟩ := mb h
      refine mm_aald (t0 := 3) C (by decide) (mc_7 k _) rfl rfl eq3 dX6_hintAt_25 26 rfl ?_
      refine mm_iload_n C dX6_hintAt_26 rfl 2 rfl 27 rfl ?_
      obtain ⟨x4, ex4, h⟩ := mb h
      refine mm_iald C ex4 dX6_hintAt_27 28 rfl ?_
      refine mm_istore_n (lv2 := [(3, .int x4), (0, .ref (mmad k 6)), (1, .ref (mmad k 1)), (2, .int a2)]) C dX6_hintAt_28 rfl (by decide) rfl 29 rfl ?_
      refine mm_iload_n C dX6_hintAt_29 rfl 0 rfl 30 rfl ?_
      refine mm_iconst (v := (0 : Int32)) C dX6_hintAt_30 (by decide) 31 rfl ?_
      refine mm_aload_n C dX6_hintAt_31 rfl 2 rfl 32 rfl ?_
      refine mm_get C fl_X6_48_X3 (by decide) (mc_1 k _) rfl dX6_hintAt_32 35 rfl ?_
      refine mm_iconst (v := (1 : Int32)) C dX6_hintAt_35 (by decide) 36 rfl ?_
      refine mm_isub C dX6_hintAt_36 37 rfl ?_
      obtain ⟨x5, ex5, h⟩ := mb h
      refine mm_callN [.int x4, .int (0 : Int32), .int ((F 1 1) - (1 : Int32))] C (c_X11_isWithin ex5) wb_X11_isWithin mw_450 rfl (by omega) rfl (Nat.le_of_ble_eq_true rfl) dX6_hintAt_37 40 rfl ?_
      show mm_AW z k 4 (some (.int r)) F F 40 [(3, .int x4), (0, .ref (mmad k 6)), (1, .ref (mmad k 1)), (2, .int a2)] [.int x5]
      refine mm_if_eq C dX6_hintAt_40 47 43 (by decide) rfl (fun hc => ?_) (fun hc => ?_)
      · rw [if_pos hc] at h
        refine mm_iconst (v := (-1 : Int32)) C dX6_hintAt_47 (by decide) 48 rfl ?_
        exact mm_iretP C (h) dX6_hintAt_48
      · rw [if_neg hc] at h
        refine mm_iload_n C dX6_hintAt_43 rfl 0 rfl 44 rfl ?_
        refine mm_goto C dX6_hintAt_44 48 (by decide) ?_
        exact mm_iretP C (h) dX6_hintAt_48
    · rw [if_neg hc] at h
      refine mm_iconst (v := (-1 : Int32)) C dX6_hintAt_18 (by decide) 19 rfl ?_
      exact mm_iretP C (h) dX6_hintAt_19
def m_X6_read_14_6_1_L17 : Nat → Int32 → mmS → Option (mmS)
  | 0, _, _ => none
  | n5 + 1, v3, G4 => Option.bind (ald G4 13 (0 : Int32)) fun x6 => if x6 ≤ v3 then (some ((G4))) else (Option.bind (rld 7 (0 : Int32)) fun q7 => Option.bind (ald G4 q7 v3) fun x8 => Option.bind (m_X11_isWithin x8 (0 : Int32) ((G4 1 0) - (1 : Int32))) fun x9 => bd1 (if x9 = (0 : Int32) then (some (G4)) else (Option.bind (ast G4 15 (G4 14 2) x8) fun G10 => Option.bind (m_X6_hintAt_6_1 G10 (G10 14 2)) fun x11 => Option.bind (ast G10 16 (G10 14 2) x11) fun G12 => mlet (stF G12 14 2 ((G12 14 2) + (1 : Int32))) fun G13 => some (G13))) fun G14 => mlet (v3 + (1 : Int32)) fun x15 => m_X6_read_14_6_1_L17 n5 x15 G14)
def m_X6_read_14_6_1 (F : mmS)  : Option (Int32 × mmS) :=
  mlet (stF F 14 2 (0 : Int32)) fun G1 => Option.bind (m_X8_isLost_6 G1 (0 : Int32)) fun x2 => if x2 = (0 : Int32) then (bd1 (m_X6_read_14_6_1_L17 300 (0 : Int32) G1) fun G16 => Option.bind (zg (1 : Int32)) fun x17 => some ((x17, G16))) else (Option.bind (zg (0 : Int32)) fun x18 => some ((x18, G1)))
set_option maxHeartbeats 4000000 in
set_option maxRecDepth 100000 in
theorem c_X6_read_14_6_1 {l : Launch} {k : mmK} {F : mmS}  {r : Int32} {F1 : mmS} (h : m_X6_read_14_6_1 F = some (r, F1)) : mm_T l k yX6_read cX6_read 5 (some .boolean) 2 [.ref (mmad k 14), .ref (mmad k 6), .ref (mmad k 1)] F (some (.int r)) F1 := by
  refine mm_start [(0, .ref (mmad k 14)), (1, .ref (mmad k 6)), (2, .ref (mmad k 1))] (by decide) (Nat.le_of_ble_eq_true rfl) rfl ?_
  intro z hz C
  subst hz
  have C : mm_C z k RX6 cX6_read 5 (some .boolean) 2 := C
  replace h := mk0 h
  unfold m_X6_read_14_6_1 at h
  refine mm_aload_n C dX6_read_0 rfl 0 rfl 1 rfl ?_
  refine mm_iconst (v := (0 : Int32)) C dX6_read_1 (by decide) 2 rfl ?_
  obtain ⟨G1, eG1, h⟩ := me h
  refine mm_put (x := (0 : Int32)) (ty := .int) C fl_X6_18_X6 (by decide) (mc_14 k _) (mc_14 k _) tyX6 tyX6_ok nmX6 rfl (by decide +kernel) rfl rfl (Nat.le_of_ble_eq_true rfl) eG1 dX6_read_2 5 rfl ?_
  refine mm_aload_n C dX6_read_5 rfl 1 rfl 6 rfl ?_
  refine mm_iconst (v := (0 : Int32)) C dX6_read_6 (by decide) 7 rfl ?_
  obtain ⟨x2, ex2, h⟩ := mb h
  refine mm_callV [.int (0 : Int32)] C (c_X8_isLost_6 ex2) wb_X8_isLost wv_X6_22 (by decide) (mc_6 k _) rfl rfl rfl (by omega) rfl (Nat.le_of_ble_eq_true rfl) dX6_read_7 10 rfl ?_
  show mm_AW z k 5 (some (.int r)) F1 G1 10 [(0, .ref (mmad k 14)), (1, .ref (mmad k 6)), (2, .ref (mmad k 1))] [.int x2]
  refine mm_if_eq C dX6_read_10 15 13 (by decide) rfl (fun hc => ?_) (fun hc => ?_)
  · rw [if_pos hc] at h
    refine mm_iconst (v := (0 : Int32)) C dX6_read_15 (by decide) 16 rfl ?_
    refine mm_istore_n (lv2 := [(3, .int (0 : Int32)), (0, .ref (mmad k 14)), (1, .ref (mmad k 6)), (2, .ref (mmad k 1))]) C dX6_read_16 rfl (by decide) rfl 17 rfl ?_
    refine mm_lv [1, 2, 3, 0] rfl ?_
    have hL17 : ∀ (K : (mmS) → Option (Int32 × mmS)) (hK : ∀ (G4 : mmS) , K (G4) = some (r, F1) → mm_AW z k 5 (some (.int r)) F1 G4 97 [] []) (n5 : Nat) (v3 : Int32) (G4 : mmS) , (m_X6_read_14_6_1_L17 n5 v3 G4).bind K = some (r, F1) → mm_AW z k 5 (some (.int r)) F1 G4 17 [(0, .ref (mmad k 14)), (1, .ref (mmad k 6)), (2, .ref (mmad k 1)), (3, .int v3)] [] := by
      intro K hK n5
      induction n5 with
      | zero => intro v3 G4 h; rw [m_X6_read_14_6_1_L17] at h; cases h
      | succ n5 ih =>
        intro v3 G4 h
        rw [m_X6_read_14_6_1_L17] at h
        refine mm_iload_n C dX6_read_17 rfl 3 rfl 18 rfl ?_
        refine mm_aload_n C dX6_read_18 rfl 1 rfl 19 rfl ?_
        refine mm_get C fl_X6_28_X8 (by decide) (mc_6 k _) rfl dX6_read_19 22 rfl ?_
        refine mm_iconst (v := (0 : Int32)) C dX6_read_22 (by decide) 23 rfl ?_
        obtain ⟨x6, ex6, h⟩ := mb h
        refine mm_iald C ex6 dX6_read_23 24 rfl ?_
        refine mm_icmp_ge C dX6_read_24 97 27 (by decide) rfl (fun hc => ?_) (fun hc => ?_)
        · rw [if_pos hc] at h
          refine mm_lv [] rfl ?_
          exact hK _ h
        · rw [if_neg hc] at h
          refine mm_aload_n C dX6_read_27 rfl 1 rfl 28 rfl ?_
          refine mm_get C fl_X6_31_X8 (by decide) (mc_6 k _) rfl dX6_read_28 31 rfl ?_
          refine mm_iconst (v := (0 : Int32)) C dX6_read_31 (by decide) 32 rfl ?_
          obtain ⟨q7, eq7, h⟩ := mb h
          refine mm_aald (t0 := 3) C (by decide) (mc_7 k _) rfl rfl eq7 dX6_read_32 33 rfl ?_
          refine mm_iload_n C dX6_read_33 rfl 3 rfl 34 rfl ?_
          obtain ⟨x8, ex8, h⟩ := mb h
          refine mm_iald C ex8 dX6_read_34 35 rfl ?_
          refine mm_istore (lv2 := [(4, .int x8), (0, .ref (mmad k 14)), (1, .ref (mmad k 6)), (2, .ref (mmad k 1)), (3, .int v3)]) C dX6_read_35 (by decide) rfl 37 rfl ?_
          refine mm_iload C dX6_read_37 0 rfl 39 rfl ?_
          refine mm_iconst (v := (0 : Int32)) C dX6_read_39 (by decide) 40 rfl ?_
          refine mm_aload_n C dX6_read_40 rfl 3 rfl 41 rfl ?_
          refine mm_get C fl_X6_35_X3 (by decide) (mc_1 k _) rfl dX6_read_41 44 rfl ?_
          refine mm_iconst (v := (1 : Int32)) C dX6_read_44 (by decide) 45 rfl ?_
          refine mm_isub C dX6_read_45 46 rfl ?_
          obtain ⟨x9, ex9, h⟩ := mb h
          refine mm_callN [.int x8, .int (0 : Int32), .int ((G4 1 0) - (1 : Int32))] C (c_X11_isWithin ex9) wb_X11_isWithin mw_450 rfl (by omega) rfl (Nat.le_of_ble_eq_true rfl) dX6_read_46 49 rfl ?_
          show mm_AW z k 5 (some (.int r)) F1 G4 49 [(4, .int x8), (0, .ref (mmad k 14)), (1, .ref (mmad k 6)), (2, .ref (mmad k 1)), (3, .int v3)] [.int x9]
          refine mj1 h (fun (G14 : mmS) => mm_AW z k 5 (some (.int r)) F1 G14 91 [(0, .ref (mmad k 14)), (1, .ref (mmad k 6)), (2, .ref (mmad k 1)), (3, .int v3)] []) ?_ ?_
          · intro G14 h
            obtain ⟨x15, ex15, h⟩ := me h
            refine mm_iinc (v := x15) (lv2 := [(3, .int x15), (0, .ref (mmad k 14)), (1, .ref (mmad k 6)), (2, .ref (mmad k 1))]) C dX6_read_91 3 rfl (by rw [← ex15]; rfl) (by decide) rfl 94 rfl ?_
            refine mm_goto C dX6_read_94 17 (by decide) ?_
            refine mm_lv [1, 2, 3, 0] rfl ?_
            exact ih _ _ h
          · intro K2 hR91 h
            refine mm_if_eq C dX6_read_49 91 52 (by decide) rfl (fun hc => ?_) (fun hc => ?_)
            · rw [if_pos hc] at h
              refine mm_lv [1, 2, 3, 4] rfl ?_
              exact hR91 _ h
            · rw [if_neg hc] at h
              refine mm_aload_n C dX6_read_52 rfl 1 rfl 53 rfl ?_
              refine mm_get C fl_X6_9_X6 (by decide) (mc_14 k _) rfl dX6_read_53 56 rfl ?_
              refine mm_aload_n C dX6_read_56 rfl 1 rfl 57 rfl ?_
              refine mm_get C fl_X6_18_X6 (by decide) (mc_14 k _) rfl dX6_read_57 60 rfl ?_
              refine mm_iload C dX6_read_60 0 rfl 62 rfl ?_
              obtain ⟨G10, eG10, h⟩ := mb h
              refine mm_iast C eG10 dX6_read_62 63 rfl ?_
              refine mm_aload_n C dX6_read_63 rfl 1 rfl 64 rfl ?_
              refine mm_get C fl_X6_15_X6 (by decide) (mc_14 k _) rfl dX6_read_64 67 rfl ?_
              refine mm_aload_n C dX6_read_67 rfl 1 rfl 68 rfl ?_
              refine mm_get C fl_X6_18_X6 (by decide) (mc_14 k _) rfl dX6_read_68 71 rfl ?_
              refine mm_aload_n C dX6_read_71 rfl 2 rfl 72 rfl ?_
              refine mm_aload_n C dX6_read_72 rfl 3 rfl 73 rfl ?_
              refine mm_aload_n C dX6_read_73 rfl 1 rfl 74 rfl ?_
              refine mm_get C fl_X6_18_X6 (by decide) (mc_14 k _) rfl dX6_read_74 77 rfl ?_
              obtain ⟨x11, ex11, h⟩ := mb h
              refine mm_callS [.ref (mmad k 6), .ref (mmad k 1), .int (G10 14 2)] C (c_X6_hintAt_6_1 ex11) wb_X6_hintAt ws_X6_44 rfl (by omega) rfl (Nat.le_of_ble_eq_true rfl) dX6_read_77 80 rfl ?_
              show mm_AW z k 5 (some (.int r)) F1 G10 80 [(4, .int x8), (0, .ref (mmad k 14)), (1, .ref (mmad k 6)), (2, .ref (mmad k 1)), (3, .int v3)] [.int x11, .int (G10 14 2), .ref (mmad k 16)]
              obtain ⟨G12, eG12, h⟩ := mb h
              refine mm_iast C eG12 dX6_read_80 81 rfl ?_
              refine mm_aload_n C dX6_read_81 rfl 1 rfl 82 rfl ?_
              refine mm_dup C dX6_read_82 rfl 83 rfl ?_
              refine mm_get C fl_X6_18_X6 (by decide) (mc_14 k _) rfl dX6_read_83 86 rfl ?_
              refine mm_iconst (v := (1 : Int32)) C dX6_read_86 (by decide) 87 rfl ?_
              refine mm_iadd C dX6_read_87 88 rfl ?_
              obtain ⟨G13, eG13, h⟩ := me h
              refine mm_put (x := ((G12 14 2) + (1 : Int32))) (ty := .int) C fl_X6_18_X6 (by decide) (mc_14 k _) (mc_14 k _) tyX6 tyX6_ok nmX6 rfl (by decide +kernel) rfl rfl (Nat.le_of_ble_eq_true rfl) eG13 dX6_read_88 91 rfl ?_
              refine mm_lv [1, 2, 3, 4] rfl ?_
              exact hR91 _ h
    refine mj1 h (fun (G16 : mmS) => mm_AW z k 5 (some (.int r)) F1 G16 97 [] []) ?_ ?_
    · intro G16 h
      refine mm_iconst (v := (1 : Int32)) C dX6_read_97 (by decide) 98 rfl ?_
      obtain ⟨x17, ex17, h⟩ := mb h
      exact mm_zretW C ex17 (h) dX6_read_98
    · intro K2 hR h
      exact hL17 K2 hR 300 _ _ h
  · rw [if_neg hc] at h
    refine mm_iconst (v := (0 : Int32)) C dX6_read_13 (by decide) 14 rfl ?_
    obtain ⟨x18, ex18, h⟩ := mb h
    exact mm_zretW C ex18 (h) dX6_read_14
def m_X11_readRow_0 (F : mmS)  : Option (Int32 × mmS) :=
  bd2 (m_X6_read_14_6_1 F) fun x1 G2 => Option.bind (zg x1) fun x3 => some ((x3, G2))
set_option maxHeartbeats 4000000 in
set_option maxRecDepth 100000 in
theorem c_X11_readRow_0 {l : Launch} {k : mmK} {F : mmS}  {r : Int32} {F1 : mmS} (h : m_X11_readRow_0 F = some (r, F1)) : mm_T l k yX11_readRow cX11_readRow 1 (some .boolean) 3 [.ref (mmad k 0)] F (some (.int r)) F1 := by
  refine mm_start [(0, .ref (mmad k 0))] (by decide) (Nat.le_of_ble_eq_true rfl) rfl ?_
  intro z hz C
  subst hz
  have C : mm_C z k RX11 cX11_readRow 1 (some .boolean) 3 := C
  replace h := mk0 h
  unfold m_X11_readRow_0 at h
  refine mm_aload_n C dX11_readRow_0 rfl 0 rfl 1 rfl ?_
  refine mm_get C fl_X11_26_X11 (by decide) (mc_0 k _) rfl dX11_readRow_1 4 rfl ?_
  refine mm_aload_n C dX11_readRow_4 rfl 0 rfl 5 rfl ?_
  refine mm_get C fl_X11_19_X11 (by decide) (mc_0 k _) rfl dX11_readRow_5 8 rfl ?_
  refine mm_aload_n C dX11_readRow_8 rfl 0 rfl 9 rfl ?_
  refine mm_get C fl_X11_10_X11 (by decide) (mc_0 k _) rfl dX11_readRow_9 12 rfl ?_
  obtain ⟨x1, G2, ex1, h⟩ := mb2 h
  refine mm_callV [.ref (mmad k 6), .ref (mmad k 1)] C (c_X6_read_14_6_1 ex1) wb_X6_read wv_X11_253 (by decide) (mc_14 k _) rfl rfl rfl (by omega) rfl (Nat.le_of_ble_eq_true rfl) dX11_readRow_12 15 rfl ?_
  show mm_AW z k 1 (some (.int r)) F1 G2 15 [(0, .ref (mmad k 0))] [.int x1]
  obtain ⟨x3, ex3, h⟩ := mb h
  exact mm_zretW C ex3 (h) dX11_readRow_15
def m_X8_found_6 (F : mmS) (a1 : Int32) : Option (Int32 × mmS) :=
  mlet (stF F 6 3 a1) fun G1 => some (((-10 : Int32) - a1), G1)
set_option maxHeartbeats 4000000 in
set_option maxRecDepth 100000 in
theorem c_X8_found_6 {l : Launch} {k : mmK} {F : mmS} {a1 : Int32} {r : Int32} {F1 : mmS} (h : m_X8_found_6 F a1 = some (r, F1)) : mm_T l k yX8_found cX8_found 2 (some .int) 0 [.ref (mmad k 6), .int a1] F (some (.int r)) F1 := by
  refine mm_start [(0, .ref (mmad k 6)), (1, .int a1)] (by decide) (Nat.le_of_ble_eq_true rfl) rfl ?_
  intro z hz C
  subst hz
  have C : mm_C z k RX8 cX8_found 2 (some .int) 0 := C
  replace h := mk0 h
  unfold m_X8_found_6 at h
  refine mm_aload_n C dX8_found_0 rfl 0 rfl 1 rfl ?_
  refine mm_iload_n C dX8_found_1 rfl 1 rfl 2 rfl ?_
  obtain ⟨G1, eG1, h⟩ := me h
  refine mm_put (x := a1) (ty := .int) C fl_X8_23_X8 (by decide) (mc_6 k _) (mc_6 k _) tyX8 tyX8_ok nmX8 rfl (by decide +kernel) rfl rfl (Nat.le_of_ble_eq_true rfl) eG1 dX8_found_2 5 rfl ?_
  refine mm_bipush (v := (-10 : Int32)) C dX8_found_5 (by decide) 7 rfl ?_
  refine mm_iload_n C dX8_found_7 rfl 1 rfl 8 rfl ?_
  refine mm_isub C dX8_found_8 9 rfl ?_
  exact mm_iretW C (h) dX8_found_9
def m_X11_asked_0 (F : mmS)  : Option (Int32 × mmS) :=
  bd2 (m_X11_readRow_0 F) fun x1 G2 => if x1 = (0 : Int32) then (bd2 (m_X8_found_6 G2 (1 : Int32)) fun x3 G4 => some (x3, G4)) else (some ((G2 14 2), G2))
set_option maxHeartbeats 4000000 in
set_option maxRecDepth 100000 in
theorem c_X11_asked_0 {l : Launch} {k : mmK} {F : mmS}  {r : Int32} {F1 : mmS} (h : m_X11_asked_0 F = some (r, F1)) : mm_T l k yX11_asked cX11_asked 1 (some .int) 4 [.ref (mmad k 0)] F (some (.int r)) F1 := by
  refine mm_start [(0, .ref (mmad k 0))] (by decide) (Nat.le_of_ble_eq_true rfl) rfl ?_
  intro z hz C
  subst hz
  have C : mm_C z k RX11 cX11_asked 1 (some .int) 4 := C
  replace h := mk0 h
  unfold m_X11_asked_0 at h
  refine mm_aload_n C dX11_asked_0 rfl 0 rfl 1 rfl ?_
  obtain ⟨x1, G2, ex1, h⟩ := mb2 h
  refine mm_callV [] C (c_X11_readRow_0 ex1) wb_X11_readRow wv_X11_120 (by decide) (mc_0 k _) rfl rfl rfl (by omega) rfl (Nat.le_of_ble_eq_true rfl) dX11_asked_1 4 rfl ?_
  show mm_AW z k 1 (some (.int r)) F1 G2 4 [(0, .ref (mmad k 0))] [.int x1]
  refine mm_if_ne C dX11_asked_4 16 7 (by decide) rfl (fun hc => ?_) (fun hc => ?_)
  · rw [if_neg hc] at h
    refine mm_aload_n C dX11_asked_16 rfl 0 rfl 17 rfl ?_
    refine mm_get C fl_X11_26_X11 (by decide) (mc_0 k _) rfl dX11_asked_17 20 rfl ?_
    refine mm_get C fl_X11_128_X6 (by decide) (mc_14 k _) rfl dX11_asked_20 23 rfl ?_
    exact mm_iretW C (h) dX11_asked_23
  · rw [if_pos hc] at h
    refine mm_aload_n C dX11_asked_7 rfl 0 rfl 8 rfl ?_
    refine mm_get C fl_X11_19_X11 (by decide) (mc_0 k _) rfl dX11_asked_8 11 rfl ?_
    refine mm_iconst (v := (1 : Int32)) C dX11_asked_11 (by decide) 12 rfl ?_
    obtain ⟨x3, G4, ex3, h⟩ := mb2 h
    refine mm_callV [.int (1 : Int32)] C (c_X8_found_6 ex3) wb_X8_found wv_X11_124 (by decide) (mc_6 k _) rfl rfl rfl (by omega) rfl (Nat.le_of_ble_eq_true rfl) dX11_asked_12 15 rfl ?_
    show mm_AW z k 1 (some (.int r)) F1 G4 15 [(0, .ref (mmad k 0))] [.int x3]
    exact mm_iretW C (h) dX11_asked_15
def m_X7_standAtStart_30_L2 : Nat → Int32 → mmS → Option (mmS)
  | 0, _, _ => none
  | n3 + 1, v1, G2 => if (3 : Int32) ≤ v1 then (some ((G2))) else (Option.bind (ald G2 3 v1) fun x4 => Option.bind (ald G2 2 x4) fun x5 => Option.bind (ast G2 31 v1 x5) fun G6 => mlet (v1 + (1 : Int32)) fun x7 => m_X7_standAtStart_30_L2 n3 x7 G6)
def m_X7_standAtStart_30 (F : mmS)  : Option (mmS) :=
  bd1 (m_X7_standAtStart_30_L2 300 (0 : Int32) F) fun G8 => mlet (stF G8 30 2 (0 : Int32)) fun G9 => mlet (stF G9 30 3 (-1 : Int32)) fun G10 => some G10
set_option maxHeartbeats 4000000 in
set_option maxRecDepth 100000 in
theorem c_X7_standAtStart_30 {l : Launch} {k : mmK} {F : mmS}  {F1 : mmS} (h : m_X7_standAtStart_30 F = some F1) : mm_T l k yX7_standAtStart cX7_standAtStart 2 none 0 [.ref (mmad k 30)] F none F1 := by
  refine mm_start [(0, .ref (mmad k 30))] (by decide) (Nat.le_of_ble_eq_true rfl) rfl ?_
  intro z hz C
  subst hz
  have C : mm_C z k RX7 cX7_standAtStart 2 none 0 := C
  replace h := mk0 h
  unfold m_X7_standAtStart_30 at h
  refine mm_iconst (v := (0 : Int32)) C dX7_standAtStart_0 (by decide) 1 rfl ?_
  refine mm_istore_n (lv2 := [(1, .int (0 : Int32)), (0, .ref (mmad k 30))]) C dX7_standAtStart_1 rfl (by decide) rfl 2 rfl ?_
  refine mm_lv [1, 0] rfl ?_
  have hL2 : ∀ (K : (mmS) → Option (mmS)) (hK : ∀ (G2 : mmS) , K (G2) = some F1 → mm_AW z k 2 none F1 G2 36 [(0, .ref (mmad k 30))] []) (n3 : Nat) (v1 : Int32) (G2 : mmS) , (m_X7_standAtStart_30_L2 n3 v1 G2).bind K = some F1 → mm_AW z k 2 none F1 G2 2 [(0, .ref (mmad k 30)), (1, .int v1)] [] := by
    intro K hK n3
    induction n3 with
    | zero => intro v1 G2 h; rw [m_X7_standAtStart_30_L2] at h; cases h
    | succ n3 ih =>
      intro v1 G2 h
      rw [m_X7_standAtStart_30_L2] at h
      refine mm_iload_n C dX7_standAtStart_2 rfl 1 rfl 3 rfl ?_
      refine mm_iconst (v := (3 : Int32)) C dX7_standAtStart_3 (by decide) 4 rfl ?_
      refine mm_icmp_ge C dX7_standAtStart_4 36 7 (by decide) rfl (fun hc => ?_) (fun hc => ?_)
      · rw [if_pos hc] at h
        refine mm_lv [0] rfl ?_
        exact hK _ h
      · rw [if_neg hc] at h
        refine mm_aload_n C dX7_standAtStart_7 rfl 0 rfl 8 rfl ?_
        refine mm_get C fl_X7_9_X5 (by decide) (mc_30 k _) rfl dX7_standAtStart_8 11 rfl ?_
        refine mm_iload_n C dX7_standAtStart_11 rfl 1 rfl 12 rfl ?_
        refine mm_aload_n C dX7_standAtStart_12 rfl 0 rfl 13 rfl ?_
        refine mm_get C fl_X7_19_X5 (by decide) (mc_30 k _) rfl dX7_standAtStart_13 16 rfl ?_
        refine mm_get C fl_X7_26_X3 (by decide) (mc_1 k _) rfl dX7_standAtStart_16 19 rfl ?_
        refine mm_aload_n C dX7_standAtStart_19 rfl 0 rfl 20 rfl ?_
        refine mm_get C fl_X7_19_X5 (by decide) (mc_30 k _) rfl dX7_standAtStart_20 23 rfl ?_
        refine mm_get C fl_X7_31_X3 (by decide) (mc_1 k _) rfl dX7_standAtStart_23 26 rfl ?_
        refine mm_iload_n C dX7_standAtStart_26 rfl 1 rfl 27 rfl ?_
        obtain ⟨x4, ex4, h⟩ := mb h
        refine mm_iald C ex4 dX7_standAtStart_27 28 rfl ?_
        obtain ⟨x5, ex5, h⟩ := mb h
        refine mm_iald C ex5 dX7_standAtStart_28 29 rfl ?_
        obtain ⟨G6, eG6, h⟩ := mb h
        refine mm_iast C eG6 dX7_standAtStart_29 30 rfl ?_
        obtain ⟨x7, ex7, h⟩ := me h
        refine mm_iinc (v := x7) (lv2 := [(1, .int x7), (0, .ref (mmad k 30))]) C dX7_standAtStart_30 1 rfl (by rw [← ex7]; rfl) (by decide) rfl 33 rfl ?_
        refine mm_goto C dX7_standAtStart_33 2 (by decide) ?_
        refine mm_lv [1, 0] rfl ?_
        exact ih _ _ h
  refine mj1 h (fun (G8 : mmS) => mm_AW z k 2 none F1 G8 36 [(0, .ref (mmad k 30))] []) ?_ ?_
  · intro G8 h
    refine mm_aload_n C dX7_standAtStart_36 rfl 0 rfl 37 rfl ?_
    refine mm_iconst (v := (0 : Int32)) C dX7_standAtStart_37 (by decide) 38 rfl ?_
    obtain ⟨G9, eG9, h⟩ := me h
    refine mm_put (x := (0 : Int32)) (ty := .int) C fl_X7_34_X5 (by decide) (mc_30 k _) (mc_30 k _) tyX5 tyX5_ok nmX5 rfl (by decide +kernel) rfl rfl (Nat.le_of_ble_eq_true rfl) eG9 dX7_standAtStart_38 41 rfl ?_
    refine mm_aload_n C dX7_standAtStart_41 rfl 0 rfl 42 rfl ?_
    refine mm_iconst (v := (-1 : Int32)) C dX7_standAtStart_42 (by decide) 43 rfl ?_
    obtain ⟨G10, eG10, h⟩ := me h
    refine mm_put (x := (-1 : Int32)) (ty := .int) C fl_X7_15_X5 (by decide) (mc_30 k _) (mc_30 k _) tyX5 tyX5_ok nmX5 rfl (by decide +kernel) rfl rfl (Nat.le_of_ble_eq_true rfl) eG10 dX7_standAtStart_43 46 rfl ?_
    exact mm_vretW C (h) dX7_standAtStart_46
  · intro K2 hR h
    exact hL2 K2 hR 300 _ _ h
def m_X7_begin_30 (F : mmS)  : Option (mmS) :=
  Option.bind (m_X7_standAtStart_30 F) fun G1 => some G1
set_option maxHeartbeats 4000000 in
set_option maxRecDepth 100000 in
theorem c_X7_begin_30 {l : Launch} {k : mmK} {F : mmS}  {F1 : mmS} (h : m_X7_begin_30 F = some F1) : mm_T l k yX7_begin cX7_begin 1 none 1 [.ref (mmad k 30)] F none F1 := by
  refine mm_start [(0, .ref (mmad k 30))] (by decide) (Nat.le_of_ble_eq_true rfl) rfl ?_
  intro z hz C
  subst hz
  have C : mm_C z k RX7 cX7_begin 1 none 1 := C
  replace h := mk0 h
  unfold m_X7_begin_30 at h
  refine mm_aload_n C dX7_begin_0 rfl 0 rfl 1 rfl ?_
  obtain ⟨G1, eG1, h⟩ := mb h
  refine mm_callU [] C (c_X7_standAtStart_30 eG1) wb_X7_standAtStart wu_X7_23_X5 (fun s hN => hN.2.1) (by decide) (mc_30 k _) rfl rfl (by omega) rfl (Nat.le_of_ble_eq_true rfl) dX7_begin_1 4 rfl ?_
  show mm_AW z k 1 none F1 G1 4 [(0, .ref (mmad k 30))] []
  exact mm_vretW C (h) dX7_begin_4
def m_X5_nearestTo_30_L4 (a1 : Int32) (F : mmS) : Nat → Int32 → Int32 → Option (Int32)
  | 0, _, _ => none
  | n3 + 1, v1, v2 => if (F 1 1) ≤ v2 then (some ((v1))) else (Option.bind (ald F 31 v2) fun x4 => Option.bind (ald F 31 v1) fun x5 => bd1 (if (mabs (x5 - a1)) ≤ (mabs (x4 - a1)) then (some (v1)) else (some (v2))) fun y6 => mlet (v2 + (1 : Int32)) fun x7 => m_X5_nearestTo_30_L4 a1 F n3 y6 x7)
def m_X5_nearestTo_30 (F : mmS) (a1 : Int32) : Option (Int32) :=
  bd1 (m_X5_nearestTo_30_L4 a1 F 300 (0 : Int32) (1 : Int32)) fun y8 => some y8
set_option maxHeartbeats 4000000 in
set_option maxRecDepth 100000 in
theorem c_X5_nearestTo_30 {l : Launch} {k : mmK} {F : mmS} {a1 : Int32} {r : Int32} (h : m_X5_nearestTo_30 F a1 = some r) : mm_T l k yX5_nearestTo cX5_nearestTo 4 (some .int) 1 [.ref (mmad k 30), .int a1] F (some (.int r)) F := by
  refine mm_start [(0, .ref (mmad k 30)), (1, .int a1)] (by decide) (Nat.le_of_ble_eq_true rfl) rfl ?_
  intro z hz C
  subst hz
  have C : mm_C z k RX5 cX5_nearestTo 4 (some .int) 1 := C
  replace h := mk0 h
  unfold m_X5_nearestTo_30 at h
  refine mm_iconst (v := (0 : Int32)) C dX5_nearestTo_0 (by decide) 1 rfl ?_
  refine mm_istore_n (lv2 := [(2, .int (0 : Int32)), (0, .ref (mmad k 30)), (1, .int a1)]) C dX5_nearestTo_1 rfl (by decide) rfl 2 rfl ?_
  refine mm_iconst (v := (1 : Int32)) C dX5_nearestTo_2 (by decide) 3 rfl ?_
  refine mm_istore_n (lv2 := [(3, .int (1 : Int32)), (2, .int (0 : Int32)), (0, .ref (mmad k 30)), (1, .int a1)]) C dX5_nearestTo_3 rfl (by decide) rfl 4 rfl ?_
  refine mm_lv [2, 3, 1, 0] rfl ?_
  have hL4 : ∀ (K : (Int32) → Option (Int32)) (hK : ∀ (v1 : Int32) , K (v1) = some r → mm_AW z k 4 (some (.int r)) F F 48 [(2, .int v1)] []) (n3 : Nat) (v1 : Int32) (v2 : Int32) , (m_X5_nearestTo_30_L4 a1 F n3 v1 v2).bind K = some r → mm_AW z k 4 (some (.int r)) F F 4 [(0, .ref (mmad k 30)), (1, .int a1), (2, .int v1), (3, .int v2)] [] := by
    intro K hK n3
    induction n3 with
    | zero => intro v1 v2 h; rw [m_X5_nearestTo_30_L4] at h; cases h
    | succ n3 ih =>
      intro v1 v2 h
      rw [m_X5_nearestTo_30_L4] at h
      refine mm_iload_n C dX5_nearestTo_4 rfl 3 rfl 5 rfl ?_
      refine mm_aload_n C dX5_nearestTo_5 rfl 0 rfl 6 rfl ?_
      refine mm_get C fl_X5_15_X5 (by decide) (mc_30 k _) rfl dX5_nearestTo_6 9 rfl ?_
      refine mm_get C fl_X5_33_X3 (by decide) (mc_1 k _) rfl dX5_nearestTo_9 12 rfl ?_
      refine mm_icmp_ge C dX5_nearestTo_12 48 15 (by decide) rfl (fun hc => ?_) (fun hc => ?_)
      · rw [if_pos hc] at h
        refine mm_lv [2] rfl ?_
        exact hK _ h
      · rw [if_neg hc] at h
        refine mm_aload_n C dX5_nearestTo_15 rfl 0 rfl 16 rfl ?_
        refine mm_get C fl_X5_37_X5 (by decide) (mc_30 k _) rfl dX5_nearestTo_16 19 rfl ?_
        refine mm_iload_n C dX5_nearestTo_19 rfl 3 rfl 20 rfl ?_
        obtain ⟨x4, ex4, h⟩ := mb h
        refine mm_iald C ex4 dX5_nearestTo_20 21 rfl ?_
        refine mm_iload_n C dX5_nearestTo_21 rfl 1 rfl 22 rfl ?_
        refine mm_isub C dX5_nearestTo_22 23 rfl ?_
        refine mm_abs C mw_631 mw_552 mw_62 mw_553 (by omega) (Nat.le_trans (Nat.le_of_ble_eq_true rfl : _ ≤ 40) (by omega)) dX5_nearestTo_23 26 rfl ?_
        refine mm_aload_n C dX5_nearestTo_26 rfl 0 rfl 27 rfl ?_
        refine mm_get C fl_X5_37_X5 (by decide) (mc_30 k _) rfl dX5_nearestTo_27 30 rfl ?_
        refine mm_iload_n C dX5_nearestTo_30 rfl 2 rfl 31 rfl ?_
        obtain ⟨x5, ex5, h⟩ := mb h
        refine mm_iald C ex5 dX5_nearestTo_31 32 rfl ?_
        refine mm_iload_n C dX5_nearestTo_32 rfl 1 rfl 33 rfl ?_
        refine mm_isub C dX5_nearestTo_33 34 rfl ?_
        refine mm_abs C mw_631 mw_552 mw_62 mw_553 (by omega) (Nat.le_trans (Nat.le_of_ble_eq_true rfl : _ ≤ 40) (by omega)) dX5_nearestTo_34 37 rfl ?_
        refine mj1 h (fun (y6 : Int32) => mm_AW z k 4 (some (.int r)) F F 42 [(0, .ref (mmad k 30)), (1, .int a1), (2, .int y6), (3, .int v2)] []) ?_ ?_
        · intro y6 h
          obtain ⟨x7, ex7, h⟩ := me h
          refine mm_iinc (v := x7) (lv2 := [(3, .int x7), (0, .ref (mmad k 30)), (1, .int a1), (2, .int y6)]) C dX5_nearestTo_42 3 rfl (by rw [← ex7]; rfl) (by decide) rfl 45 rfl ?_
          refine mm_goto C dX5_nearestTo_45 4 (by decide) ?_
          refine mm_lv [1, 2, 3, 0] rfl ?_
          exact ih _ _ h
        · intro K2 hR42 h
          refine mm_icmp_ge C dX5_nearestTo_37 42 40 (by decide) rfl (fun hc => ?_) (fun hc => ?_)
          · rw [if_pos hc] at h
            exact hR42 _ h
          · rw [if_neg hc] at h
            refine mm_iload_n C dX5_nearestTo_40 rfl 3 rfl 41 rfl ?_
            refine mm_istore_n (lv2 := [(2, .int v2), (0, .ref (mmad k 30)), (1, .int a1), (3, .int v2)]) C dX5_nearestTo_41 rfl (by decide) rfl 42 rfl ?_
            refine mm_lv [1, 2, 0, 3] rfl ?_
            exact hR42 _ h
  refine mj1 h (fun (y8 : Int32) => mm_AW z k 4 (some (.int r)) F F 48 [(2, .int y8)] []) ?_ ?_
  · intro y8 h
    refine mm_iload_n C dX5_nearestTo_48 rfl 0 rfl 49 rfl ?_
    exact mm_iretP C (h) dX5_nearestTo_49
  · intro K2 hR h
    exact hL4 K2 hR 300 _ _ h
def m_X7_send_30 (F : mmS) (a1 : Int32) (a2 : Int32) : Option (mmS) :=
  Option.bind (ald F 31 a1) fun x1 => mlet (stF F 30 2 ((F 30 2) + (mabs (x1 - a2)))) fun G2 => Option.bind (ast G2 31 a1 a2) fun G3 => mlet (stF G3 30 3 a1) fun G4 => some G4
set_option maxHeartbeats 4000000 in
set_option maxRecDepth 100000 in
theorem c_X7_send_30 {l : Launch} {k : mmK} {F : mmS} {a1 : Int32} {a2 : Int32} {F1 : mmS} (h : m_X7_send_30 F a1 a2 = some F1) : mm_T l k yX7_send cX7_send 3 none 1 [.ref (mmad k 30), .int a1, .int a2] F none F1 := by
  refine mm_start [(0, .ref (mmad k 30)), (1, .int a1), (2, .int a2)] (by decide) (Nat.le_of_ble_eq_true rfl) rfl ?_
  intro z hz C
  subst hz
  have C : mm_C z k RX7 cX7_send 3 none 1 := C
  replace h := mk0 h
  unfold m_X7_send_30 at h
  refine mm_aload_n C dX7_send_0 rfl 0 rfl 1 rfl ?_
  refine mm_dup C dX7_send_1 rfl 2 rfl ?_
  refine mm_get C fl_X7_34_X5 (by decide) (mc_30 k _) rfl dX7_send_2 5 rfl ?_
  refine mm_aload_n C dX7_send_5 rfl 0 rfl 6 rfl ?_
  refine mm_get C fl_X7_9_X5 (by decide) (mc_30 k _) rfl dX7_send_6 9 rfl ?_
  refine mm_iload_n C dX7_send_9 rfl 1 rfl 10 rfl ?_
  obtain ⟨x1, ex1, h⟩ := mb h
  refine mm_iald C ex1 dX7_send_10 11 rfl ?_
  refine mm_iload_n C dX7_send_11 rfl 2 rfl 12 rfl ?_
  refine mm_isub C dX7_send_12 13 rfl ?_
  refine mm_abs C mw_599 mw_552 mw_62 mw_553 (by omega) (Nat.le_trans (Nat.le_of_ble_eq_true rfl : _ ≤ 40) (by omega)) dX7_send_13 16 rfl ?_
  refine mm_iadd C dX7_send_16 17 rfl ?_
  obtain ⟨G2, eG2, h⟩ := me h
  refine mm_put (x := ((F 30 2) + (mabs (x1 - a2)))) (ty := .int) C fl_X7_34_X5 (by decide) (mc_30 k _) (mc_30 k _) tyX5 tyX5_ok nmX5 rfl (by decide +kernel) rfl rfl (Nat.le_of_ble_eq_true rfl) eG2 dX7_send_17 20 rfl ?_
  refine mm_aload_n C dX7_send_20 rfl 0 rfl 21 rfl ?_
  refine mm_get C fl_X7_9_X5 (by decide) (mc_30 k _) rfl dX7_send_21 24 rfl ?_
  refine mm_iload_n C dX7_send_24 rfl 1 rfl 25 rfl ?_
  refine mm_iload_n C dX7_send_25 rfl 2 rfl 26 rfl ?_
  obtain ⟨G3, eG3, h⟩ := mb h
  refine mm_iast C eG3 dX7_send_26 27 rfl ?_
  refine mm_aload_n C dX7_send_27 rfl 0 rfl 28 rfl ?_
  refine mm_iload_n C dX7_send_28 rfl 1 rfl 29 rfl ?_
  obtain ⟨G4, eG4, h⟩ := me h
  refine mm_put (x := a1) (ty := .int) C fl_X7_15_X5 (by decide) (mc_30 k _) (mc_30 k _) tyX5 tyX5_ok nmX5 rfl (by decide +kernel) rfl rfl (Nat.le_of_ble_eq_true rfl) eG4 dX7_send_29 32 rfl ?_
  exact mm_vretW C (h) dX7_send_32
def m_X5_meet_30 (F : mmS) (a1 : Int32) (a2 : Int32) : Option (mmS) :=
  Option.bind (ald F 2 a1) fun x1 => bd1 (if (F 30 4) = (0 : Int32) then (some ((0 : Int32))) else (if a2 = (-1 : Int32) then (some ((0 : Int32))) else (some ((1 : Int32))))) fun y2 => bd1 (if y2 = (0 : Int32) then (Option.bind (m_X5_nearestTo_30 F x1) fun x3 => some (x3)) else (some (a2))) fun y4 => Option.bind (m_X7_send_30 F y4 x1) fun G5 => some G5
set_option maxHeartbeats 4000000 in
set_option maxRecDepth 100000 in
theorem c_X5_meet_30 {l : Launch} {k : mmK} {F : mmS} {a1 : Int32} {a2 : Int32} {F1 : mmS} (h : m_X5_meet_30 F a1 a2 = some F1) : mm_T l k yX5_meet cX5_meet 5 none 2 [.ref (mmad k 30), .int a1, .int a2] F none F1 := by
  refine mm_start [(0, .ref (mmad k 30)), (1, .int a1), (2, .int a2)] (by decide) (Nat.le_of_ble_eq_true rfl) rfl ?_
  intro z hz C
  subst hz
  have C : mm_C z k RX5 cX5_meet 5 none 2 := C
  replace h := mk0 h
  unfold m_X5_meet_30 at h
  refine mm_aload_n C dX5_meet_0 rfl 0 rfl 1 rfl ?_
  refine mm_get C fl_X5_15_X5 (by decide) (mc_30 k _) rfl dX5_meet_1 4 rfl ?_
  refine mm_get C fl_X5_19_X3 (by decide) (mc_1 k _) rfl dX5_meet_4 7 rfl ?_
  refine mm_iload_n C dX5_meet_7 rfl 1 rfl 8 rfl ?_
  obtain ⟨x1, ex1, h⟩ := mb h
  refine mm_iald C ex1 dX5_meet_8 9 rfl ?_
  refine mm_istore_n (lv2 := [(3, .int x1), (0, .ref (mmad k 30)), (1, .int a1), (2, .int a2)]) C dX5_meet_9 rfl (by decide) rfl 10 rfl ?_
  refine mm_aload_n C dX5_meet_10 rfl 1 rfl 11 rfl ?_
  refine mm_get C fl_X5_9_X5 (by decide) (mc_30 k _) rfl dX5_meet_11 14 rfl ?_
  refine mj1 h (fun (y2 : Int32) => mm_AW z k 5 none F1 F 27 [(0, .ref (mmad k 30)), (2, .int a2), (3, .int x1)] [.int y2]) ?_ ?_
  · intro y2 h
    refine mm_istore (lv2 := [(4, .int y2), (0, .ref (mmad k 30)), (2, .int a2), (3, .int x1)]) C dX5_meet_27 (by decide) rfl 29 rfl ?_
    refine mm_aload_n C dX5_meet_29 rfl 1 rfl 30 rfl ?_
    refine mm_iload C dX5_meet_30 0 rfl 32 rfl ?_
    refine mj1 h (fun (y4 : Int32) => mm_AW z k 5 none F1 F 44 [(3, .int x1)] [.int y4, .ref (mmad k 30)]) ?_ ?_
    · intro y4 h
      refine mm_iload_n C dX5_meet_44 rfl 0 rfl 45 rfl ?_
      obtain ⟨G5, eG5, h⟩ := mb h
      refine mm_callU [.int y4, .int x1] C (c_X7_send_30 eG5) wb_X7_send wu_X5_29_X5 (fun s hN => hN.2.2.2.1) (by decide) (mc_30 k _) rfl rfl (by omega) rfl (Nat.le_of_ble_eq_true rfl) dX5_meet_45 48 rfl ?_
      show mm_AW z k 5 none F1 G5 48 [(3, .int x1)] []
      exact mm_vretW C (h) dX5_meet_48
    · intro K2 hR44 h
      refine mm_if_eq C dX5_meet_32 39 35 (by decide) rfl (fun hc => ?_) (fun hc => ?_)
      · rw [if_pos hc] at h
        refine mm_aload_n C dX5_meet_39 rfl 1 rfl 40 rfl ?_
        refine mm_iload_n C dX5_meet_40 rfl 3 rfl 41 rfl ?_
        obtain ⟨x3, ex3, h⟩ := mb h
        refine mm_callV [.int x1] C (c_X5_nearestTo_30 ex3) wb_X5_nearestTo wv_X5_25 (by decide) (mc_30 k _) rfl rfl rfl (by omega) rfl (Nat.le_of_ble_eq_true rfl) dX5_meet_41 44 rfl ?_
        show mm_AW z k 5 none F1 F 44 [(4, .int y2), (0, .ref (mmad k 30)), (2, .int a2), (3, .int x1)] [.int x3, .ref (mmad k 30)]
        refine mm_lv [3] rfl ?_
        exact hR44 _ h
      · rw [if_neg hc] at h
        refine mm_iload_n C dX5_meet_35 rfl 2 rfl 36 rfl ?_
        refine mm_goto C dX5_meet_36 44 (by decide) ?_
        refine mm_lv [3] rfl ?_
        exact hR44 _ h
  · intro K2 hR27 h
    refine mm_if_eq C dX5_meet_14 26 17 (by decide) rfl (fun hc => ?_) (fun hc => ?_)
    · rw [if_pos hc] at h
      refine mm_iconst (v := (0 : Int32)) C dX5_meet_26 (by decide) 27 rfl ?_
      refine mm_lv [1, 3, 0] rfl ?_
      exact hR27 _ h
    · rw [if_neg hc] at h
      refine mm_iload_n C dX5_meet_17 rfl 3 rfl 18 rfl ?_
      refine mm_iconst (v := (-1 : Int32)) C dX5_meet_18 (by decide) 19 rfl ?_
      refine mm_icmp_eq C dX5_meet_19 26 22 (by decide) rfl (fun hc => ?_) (fun hc => ?_)
      · rw [if_pos hc] at h
        refine mm_iconst (v := (0 : Int32)) C dX5_meet_26 (by decide) 27 rfl ?_
        refine mm_lv [1, 3, 0] rfl ?_
        exact hR27 _ h
      · rw [if_neg hc] at h
        refine mm_iconst (v := (1 : Int32)) C dX5_meet_22 (by decide) 23 rfl ?_
        refine mm_goto C dX5_meet_23 27 (by decide) ?_
        refine mm_lv [1, 3, 0] rfl ?_
        exact hR27 _ h
def m_X6_lead_14_30_L16 (x1 : Int32) : Nat → Int32 → mmS → Option (mmS)
  | 0, _, _ => none
  | n5 + 1, v3, G4 => if x1 ≤ v3 then (some ((G4))) else (Option.bind (ald G4 15 v3) fun x6 => Option.bind (ald G4 16 v3) fun x7 => Option.bind (m_X5_meet_30 G4 x6 x7) fun G8 => mlet (v3 + (1 : Int32)) fun x9 => m_X6_lead_14_30_L16 x1 n5 x9 G8)
def m_X6_lead_14_30 (F : mmS) (a2 : Int32) : Option (Int32 × mmS) :=
  mlet (mmin a2 (F 14 2)) fun x1 => Option.bind (m_X7_begin_30 F) fun G2 => bd1 (m_X6_lead_14_30_L16 x1 300 (0 : Int32) G2) fun G10 => some ((G10 30 2), G10)
set_option maxHeartbeats 4000000 in
set_option maxRecDepth 100000 in
theorem c_X6_lead_14_30 {l : Launch} {k : mmK} {F : mmS} {a2 : Int32} {r : Int32} {F1 : mmS} (h : m_X6_lead_14_30 F a2 = some (r, F1)) : mm_T l k yX6_lead cX6_lead 5 (some .int) 3 [.ref (mmad k 14), .ref (mmad k 30), .int a2] F (some (.int r)) F1 := by
  refine mm_start [(0, .ref (mmad k 14)), (1, .ref (mmad k 30)), (2, .int a2)] (by decide) (Nat.le_of_ble_eq_true rfl) rfl ?_
  intro z hz C
  subst hz
  have C : mm_C z k RX6 cX6_lead 5 (some .int) 3 := C
  replace h := mk0 h
  unfold m_X6_lead_14_30 at h
  refine mm_iload_n C dX6_lead_0 rfl 2 rfl 1 rfl ?_
  refine mm_aload_n C dX6_lead_1 rfl 0 rfl 2 rfl ?_
  refine mm_get C fl_X6_18_X6 (by decide) (mc_14 k _) rfl dX6_lead_2 5 rfl ?_
  refine mm_min C mw_516 mw_517 mw_62 mw_518 (by omega) (Nat.le_trans (Nat.le_of_ble_eq_true rfl : _ ≤ 40) (by omega)) dX6_lead_5 8 rfl ?_
  obtain ⟨x1, ex1, h⟩ := me h
  refine mm_top ex1 ?_
  refine mm_istore_n (lv2 := [(3, .int x1), (0, .ref (mmad k 14)), (1, .ref (mmad k 30)), (2, .int a2)]) C dX6_lead_8 rfl (by decide) rfl 9 rfl ?_
  refine mm_aload_n C dX6_lead_9 rfl 2 rfl 10 rfl ?_
  obtain ⟨G2, eG2, h⟩ := mb h
  refine mm_callU [] C (c_X7_begin_30 eG2) wb_X7_begin wu_X6_57_X5 (fun s hN => hN.2.2.2.2) (by decide) (mc_30 k _) rfl rfl (by omega) rfl (Nat.le_of_ble_eq_true rfl) dX6_lead_10 13 rfl ?_
  show mm_AW z k 5 (some (.int r)) F1 G2 13 [(3, .int x1), (0, .ref (mmad k 14)), (1, .ref (mmad k 30)), (2, .int a2)] []
  refine mm_iconst (v := (0 : Int32)) C dX6_lead_13 (by decide) 14 rfl ?_
  refine mm_istore (lv2 := [(4, .int (0 : Int32)), (3, .int x1), (0, .ref (mmad k 14)), (1, .ref (mmad k 30)), (2, .int a2)]) C dX6_lead_14 (by decide) rfl 16 rfl ?_
  refine mm_lv [2, 3, 1, 0] rfl ?_
  have hL16 : ∀ (K : (mmS) → Option (Int32 × mmS)) (hK : ∀ (G4 : mmS) , K (G4) = some (r, F1) → mm_AW z k 5 (some (.int r)) F1 G4 46 [(1, .ref (mmad k 30))] []) (n5 : Nat) (v3 : Int32) (G4 : mmS) , (m_X6_lead_14_30_L16 x1 n5 v3 G4).bind K = some (r, F1) → mm_AW z k 5 (some (.int r)) F1 G4 16 [(0, .ref (mmad k 14)), (1, .ref (mmad k 30)), (3, .int x1), (4, .int v3)] [] := by
    intro K hK n5
    induction n5 with
    | zero => intro v3 G4 h; rw [m_X6_lead_14_30_L16] at h; cases h
    | succ n5 ih =>
      intro v3 G4 h
      rw [m_X6_lead_14_30_L16] at h
      refine mm_iload C dX6_lead_16 3 rfl 18 rfl ?_
      refine mm_iload_n C dX6_lead_18 rfl 2 rfl 19 rfl ?_
      refine mm_icmp_ge C dX6_lead_19 46 22 (by decide) rfl (fun hc => ?_) (fun hc => ?_)
      · rw [if_pos hc] at h
        refine mm_lv [1] rfl ?_
        exact hK _ h
      · rw [if_neg hc] at h
        refine mm_aload_n C dX6_lead_22 rfl 1 rfl 23 rfl ?_
        refine mm_aload_n C dX6_lead_23 rfl 0 rfl 24 rfl ?_
        refine mm_get C fl_X6_9_X6 (by decide) (mc_14 k _) rfl dX6_lead_24 27 rfl ?_
        refine mm_iload C dX6_lead_27 3 rfl 29 rfl ?_
        obtain ⟨x6, ex6, h⟩ := mb h
        refine mm_iald C ex6 dX6_lead_29 30 rfl ?_
        refine mm_aload_n C dX6_lead_30 rfl 0 rfl 31 rfl ?_
        refine mm_get C fl_X6_15_X6 (by decide) (mc_14 k _) rfl dX6_lead_31 34 rfl ?_
        refine mm_iload C dX6_lead_34 3 rfl 36 rfl ?_
        obtain ⟨x7, ex7, h⟩ := mb h
        refine mm_iald C ex7 dX6_lead_36 37 rfl ?_
        obtain ⟨G8, eG8, h⟩ := mb h
        refine mm_callU [.int x6, .int x7] C (c_X5_meet_30 eG8) wb_X5_meet wu_X6_62_X5 (fun s hN => hN.2.2.1) (by decide) (mc_30 k _) rfl rfl (by omega) rfl (Nat.le_of_ble_eq_true rfl) dX6_lead_37 40 rfl ?_
        show mm_AW z k 5 (some (.int r)) F1 G8 40 [(0, .ref (mmad k 14)), (1, .ref (mmad k 30)), (3, .int x1), (4, .int v3)] []
        obtain ⟨x9, ex9, h⟩ := me h
        refine mm_iinc (v := x9) (lv2 := [(4, .int x9), (0, .ref (mmad k 14)), (1, .ref (mmad k 30)), (3, .int x1)]) C dX6_lead_40 3 rfl (by rw [← ex9]; rfl) (by decide) rfl 43 rfl ?_
        refine mm_goto C dX6_lead_43 16 (by decide) ?_
        refine mm_lv [1, 2, 3, 0] rfl ?_
        exact ih _ _ h
  refine mj1 h (fun (G10 : mmS) => mm_AW z k 5 (some (.int r)) F1 G10 46 [(1, .ref (mmad k 30))] []) ?_ ?_
  · intro G10 h
    refine mm_aload_n C dX6_lead_46 rfl 0 rfl 47 rfl ?_
    refine mm_get C fl_X6_66_X5 (by decide) (mc_30 k _) rfl dX6_lead_47 50 rfl ?_
    exact mm_iretW C (h) dX6_lead_50
  · intro K2 hR h
    exact hL16 K2 hR 300 _ _ h
def m_X7_standAtStart_32_L2 : Nat → Int32 → mmS → Option (mmS)
  | 0, _, _ => none
  | n3 + 1, v1, G2 => if (3 : Int32) ≤ v1 then (some ((G2))) else (Option.bind (ald G2 3 v1) fun x4 => Option.bind (ald G2 2 x4) fun x5 => Option.bind (ast G2 33 v1 x5) fun G6 => mlet (v1 + (1 : Int32)) fun x7 => m_X7_standAtStart_32_L2 n3 x7 G6)
def m_X7_standAtStart_32 (F : mmS)  : Option (mmS) :=
  bd1 (m_X7_standAtStart_32_L2 300 (0 : Int32) F) fun G8 => mlet (stF G8 32 2 (0 : Int32)) fun G9 => mlet (stF G9 32 3 (-1 : Int32)) fun G10 => some G10
set_option maxHeartbeats 4000000 in
set_option maxRecDepth 100000 in
theorem c_X7_standAtStart_32 {l : Launch} {k : mmK} {F : mmS}  {F1 : mmS} (h : m_X7_standAtStart_32 F = some F1) : mm_T l k yX7_standAtStart cX7_standAtStart 2 none 0 [.ref (mmad k 32)] F none F1 := by
  refine mm_start [(0, .ref (mmad k 32))] (by decide) (Nat.le_of_ble_eq_true rfl) rfl ?_
  intro z hz C
  subst hz
  have C : mm_C z k RX7 cX7_standAtStart 2 none 0 := C
  replace h := mk0 h
  unfold m_X7_standAtStart_32 at h
  refine mm_iconst (v := (0 : Int32)) C dX7_standAtStart_0 (by decide) 1 rfl ?_
  refine mm_istore_n (lv2 := [(1, .int (0 : Int32)), (0, .ref (mmad k 32))]) C dX7_standAtStart_1 rfl (by decide) rfl 2 rfl ?_
  refine mm_lv [1, 0] rfl ?_
  have hL2 : ∀ (K : (mmS) → Option (mmS)) (hK : ∀ (G2 : mmS) , K (G2) = some F1 → mm_AW z k 2 none F1 G2 36 [(0, .ref (mmad k 32))] []) (n3 : Nat) (v1 : Int32) (G2 : mmS) , (m_X7_standAtStart_32_L2 n3 v1 G2).bind K = some F1 → mm_AW z k 2 none F1 G2 2 [(0, .ref (mmad k 32)), (1, .int v1)] [] := by
    intro K hK n3
    induction n3 with
    | zero => intro v1 G2 h; rw [m_X7_standAtStart_32_L2] at h; cases h
    | succ n3 ih =>
      intro v1 G2 h
      rw [m_X7_standAtStart_32_L2] at h
      refine mm_iload_n C dX7_standAtStart_2 rfl 1 rfl 3 rfl ?_
      refine mm_iconst (v := (3 : Int32)) C dX7_standAtStart_3 (by decide) 4 rfl ?_
      refine mm_icmp_ge C dX7_standAtStart_4 36 7 (by decide) rfl (fun hc => ?_) (fun hc => ?_)
      · rw [if_pos hc] at h
        refine mm_lv [0] rfl ?_
        exact hK _ h
      · rw [if_neg hc] at h
        refine mm_aload_n C dX7_standAtStart_7 rfl 0 rfl 8 rfl ?_
        refine mm_get C fl_X7_9_X1 (by decide) (mc_32 k _) rfl dX7_standAtStart_8 11 rfl ?_
        refine mm_iload_n C dX7_standAtStart_11 rfl 1 rfl 12 rfl ?_
        refine mm_aload_n C dX7_standAtStart_12 rfl 0 rfl 13 rfl ?_
        refine mm_get C fl_X7_19_X1 (by decide) (mc_32 k _) rfl dX7_standAtStart_13 16 rfl ?_
        refine mm_get C fl_X7_26_X3 (by decide) (mc_1 k _) rfl dX7_standAtStart_16 19 rfl ?_
        refine mm_aload_n C dX7_standAtStart_19 rfl 0 rfl 20 rfl ?_
        refine mm_get C fl_X7_19_X1 (by decide) (mc_32 k _) rfl dX7_standAtStart_20 23 rfl ?_
        refine mm_get C fl_X7_31_X3 (by decide) (mc_1 k _) rfl dX7_standAtStart_23 26 rfl ?_
        refine mm_iload_n C dX7_standAtStart_26 rfl 1 rfl 27 rfl ?_
        obtain ⟨x4, ex4, h⟩ := mb h
        refine mm_iald C ex4 dX7_standAtStart_27 28 rfl ?_
        obtain ⟨x5, ex5, h⟩ := mb h
        refine mm_iald C ex5 dX7_standAtStart_28 29 rfl ?_
        obtain ⟨G6, eG6, h⟩ := mb h
        refine mm_iast C eG6 dX7_standAtStart_29 30 rfl ?_
        obtain ⟨x7, ex7, h⟩ := me h
        refine mm_iinc (v := x7) (lv2 := [(1, .int x7), (0, .ref (mmad k 32))]) C dX7_standAtStart_30 1 rfl (by rw [← ex7]; rfl) (by decide) rfl 33 rfl ?_
        refine mm_goto C dX7_standAtStart_33 2 (by decide) ?_
        refine mm_lv [1, 0] rfl ?_
        exact ih _ _ h
  refine mj1 h (fun (G8 : mmS) => mm_AW z k 2 none F1 G8 36 [(0, .ref (mmad k 32))] []) ?_ ?_
  · intro G8 h
    refine mm_aload_n C dX7_standAtStart_36 rfl 0 rfl 37 rfl ?_
    refine mm_iconst (v := (0 : Int32)) C dX7_standAtStart_37 (by decide) 38 rfl ?_
    obtain ⟨G9, eG9, h⟩ := me h
    refine mm_put (x := (0 : Int32)) (ty := .int) C fl_X7_34_X1 (by decide) (mc_32 k _) (mc_32 k _) tyX1 tyX1_ok nmX1 rfl (by decide +kernel) rfl rfl (Nat.le_of_ble_eq_true rfl) eG9 dX7_standAtStart_38 41 rfl ?_
    refine mm_aload_n C dX7_standAtStart_41 rfl 0 rfl 42 rfl ?_
    refine mm_iconst (v := (-1 : Int32)) C dX7_standAtStart_42 (by decide) 43 rfl ?_
    obtain ⟨G10, eG10, h⟩ := me h
    refine mm_put (x := (-1 : Int32)) (ty := .int) C fl_X7_15_X1 (by decide) (mc_32 k _) (mc_32 k _) tyX1 tyX1_ok nmX1 rfl (by decide +kernel) rfl rfl (Nat.le_of_ble_eq_true rfl) eG10 dX7_standAtStart_43 46 rfl ?_
    exact mm_vretW C (h) dX7_standAtStart_46
  · intro K2 hR h
    exact hL2 K2 hR 300 _ _ h
def m_X7_begin_32 (F : mmS)  : Option (mmS) :=
  Option.bind (m_X7_standAtStart_32 F) fun G1 => some G1
set_option maxHeartbeats 4000000 in
set_option maxRecDepth 100000 in
theorem c_X7_begin_32 {l : Launch} {k : mmK} {F : mmS}  {F1 : mmS} (h : m_X7_begin_32 F = some F1) : mm_T l k yX7_begin cX7_begin 1 none 1 [.ref (mmad k 32)] F none F1 := by
  refine mm_start [(0, .ref (mmad k 32))] (by decide) (Nat.le_of_ble_eq_true rfl) rfl ?_
  intro z hz C
  subst hz
  have C : mm_C z k RX7 cX7_begin 1 none 1 := C
  replace h := mk0 h
  unfold m_X7_begin_32 at h
  refine mm_aload_n C dX7_begin_0 rfl 0 rfl 1 rfl ?_
  obtain ⟨G1, eG1, h⟩ := mb h
  refine mm_callU [] C (c_X7_standAtStart_32 eG1) wb_X7_standAtStart wu_X7_23_X1 (fun s hN => hN.2.1) (by decide) (mc_32 k _) rfl rfl (by omega) rfl (Nat.le_of_ble_eq_true rfl) dX7_begin_1 4 rfl ?_
  show mm_AW z k 1 none F1 G1 4 [(0, .ref (mmad k 32))] []
  exact mm_vretW C (h) dX7_begin_4
def m_X1_isServed_32_L2 (a1 : Int32) (F : mmS) : Nat → Int32 → Option ((Int32) ⊕ (Unit))
  | 0, _ => none
  | n2 + 1, v1 => if (F 1 1) ≤ v1 then (some (.inr ())) else (Option.bind (ald F 33 v1) fun x3 => if x3 = a1 then (Option.bind (zg (1 : Int32)) fun x5 => some (.inl x5)) else (mlet (v1 + (1 : Int32)) fun x4 => m_X1_isServed_32_L2 a1 F n2 x4))
def m_X1_isServed_32 (F : mmS) (a1 : Int32) : Option (Int32) :=
  bdE0 (m_X1_isServed_32_L2 a1 F 300 (0 : Int32)) fun _ => Option.bind (zg (0 : Int32)) fun x6 => some (x6)
set_option maxHeartbeats 4000000 in
set_option maxRecDepth 100000 in
theorem c_X1_isServed_32 {l : Launch} {k : mmK} {F : mmS} {a1 : Int32} {r : Int32} (h : m_X1_isServed_32 F a1 = some r) : mm_T l k yX1_isServed cX1_isServed 3 (some .boolean) 0 [.ref (mmad k 32), .int a1] F (some (.int r)) F := by
  refine mm_start [(0, .ref (mmad k 32)), (1, .int a1)] (by decide) (Nat.le_of_ble_eq_true rfl) rfl ?_
  intro z hz C
  subst hz
  have C : mm_C z k RX1 cX1_isServed 3 (some .boolean) 0 := C
  replace h := mk0 h
  unfold m_X1_isServed_32 at h
  refine mm_iconst (v := (0 : Int32)) C dX1_isServed_0 (by decide) 1 rfl ?_
  refine mm_istore_n (lv2 := [(2, .int (0 : Int32)), (0, .ref (mmad k 32)), (1, .int a1)]) C dX1_isServed_1 rfl (by decide) rfl 2 rfl ?_
  refine mm_lv [1, 2, 0] rfl ?_
  have hL2 : ∀ (K : ((Int32) ⊕ (Unit)) → Option (Int32)) (hK : K (.inr ()) = some r → mm_AW z k 3 (some (.int r)) F F 31 [] []) (hE : ∀ q : Int32, K (.inl q) = some r → q = r) (n2 : Nat) (v1 : Int32) , (m_X1_isServed_32_L2 a1 F n2 v1).bind K = some r → mm_AW z k 3 (some (.int r)) F F 2 [(0, .ref (mmad k 32)), (1, .int a1), (2, .int v1)] [] := by
    intro K hK hE n2
    induction n2 with
    | zero => intro v1 h; rw [m_X1_isServed_32_L2] at h; cases h
    | succ n2 ih =>
      intro v1 h
      rw [m_X1_isServed_32_L2] at h
      refine mm_iload_n C dX1_isServed_2 rfl 2 rfl 3 rfl ?_
      refine mm_aload_n C dX1_isServed_3 rfl 0 rfl 4 rfl ?_
      refine mm_get C fl_X1_9_X1 (by decide) (mc_32 k _) rfl dX1_isServed_4 7 rfl ?_
      refine mm_get C fl_X1_49_X3 (by decide) (mc_1 k _) rfl dX1_isServed_7 10 rfl ?_
      refine mm_icmp_ge C dX1_isServed_10 31 13 (by decide) rfl (fun hc => ?_) (fun hc => ?_)
      · rw [if_pos hc] at h
        refine mm_lv [] rfl ?_
        exact hK h
      · rw [if_neg hc] at h
        refine mm_aload_n C dX1_isServed_13 rfl 0 rfl 14 rfl ?_
        refine mm_get C fl_X1_36_X1 (by decide) (mc_32 k _) rfl dX1_isServed_14 17 rfl ?_
        refine mm_iload_n C dX1_isServed_17 rfl 2 rfl 18 rfl ?_
        obtain ⟨x3, ex3, h⟩ := mb h
        refine mm_iald C ex3 dX1_isServed_18 19 rfl ?_
        refine mm_iload_n C dX1_isServed_19 rfl 1 rfl 20 rfl ?_
        refine mm_icmp_ne C dX1_isServed_20 25 23 (by decide) rfl (fun hc => ?_) (fun hc => ?_)
        · rw [if_neg hc] at h
          obtain ⟨x4, ex4, h⟩ := me h
          refine mm_iinc (v := x4) (lv2 := [(2, .int x4), (0, .ref (mmad k 32)), (1, .int a1)]) C dX1_isServed_25 2 rfl (by rw [← ex4]; rfl) (by decide) rfl 28 rfl ?_
          refine mm_goto C dX1_isServed_28 2 (by decide) ?_
          refine mm_lv [1, 2, 0] rfl ?_
          exact ih _ h
        · rw [if_pos hc] at h
          refine mm_iconst (v := (1 : Int32)) C dX1_isServed_23 (by decide) 24 rfl ?_
          obtain ⟨x5, ex5, h⟩ := mb h
          exact mm_zretP C ex5 (congrArg some (hE _ h)) dX1_isServed_24
  refine mjE0 h (mm_AW z k 3 (some (.int r)) F F 31 [] []) ?_ ?_
  · intro  h
    refine mm_iconst (v := (0 : Int32)) C dX1_isServed_31 (by decide) 32 rfl ?_
    obtain ⟨x6, ex6, h⟩ := mb h
    exact mm_zretP C ex6 (h) dX1_isServed_32
  · intro K2 hR hE h
    exact hL2 K2 hR hE 300 _ h
def m_X1_nearestBelow_32_L4 (a1 : Int32) (F : mmS) : Nat → Int32 → Int32 → Option (Int32)
  | 0, _, _ => none
  | n3 + 1, v1, v2 => if (F 1 1) ≤ v2 then (some ((v1))) else (Option.bind (ald F 33 v2) fun x4 => bd1 (if a1 ≤ x4 then (some (v1)) else (if v1 = (-1 : Int32) then (some (v2)) else (Option.bind (ald F 33 v2) fun x5 => Option.bind (ald F 33 v1) fun x6 => if x5 ≤ x6 then (some (v1)) else (some (v2))))) fun y7 => mlet (v2 + (1 : Int32)) fun x8 => m_X1_nearestBelow_32_L4 a1 F n3 y7 x8)
def m_X1_nearestBelow_32 (F : mmS) (a1 : Int32) : Option (Int32) :=
  bd1 (m_X1_nearestBelow_32_L4 a1 F 300 (-1 : Int32) (0 : Int32)) fun y9 => some y9
set_option maxHeartbeats 4000000 in
set_option maxRecDepth 100000 in
theorem c_X1_nearestBelow_32 {l : Launch} {k : mmK} {F : mmS} {a1 : Int32} {r : Int32} (h : m_X1_nearestBelow_32 F a1 = some r) : mm_T l k yX1_nearestBelow cX1_nearestBelow 4 (some .int) 0 [.ref (mmad k 32), .int a1] F (some (.int r)) F := by
  refine mm_start [(0, .ref (mmad k 32)), (1, .int a1)] (by decide) (Nat.le_of_ble_eq_true rfl) rfl ?_
  intro z hz C
  subst hz
  have C : mm_C z k RX1 cX1_nearestBelow 4 (some .int) 0 := C
  replace h := mk0 h
  unfold m_X1_nearestBelow_32 at h
  refine mm_iconst (v := (-1 : Int32)) C dX1_nearestBelow_0 (by decide) 1 rfl ?_
  refine mm_istore_n (lv2 := [(2, .int (-1 : Int32)), (0, .ref (mmad k 32)), (1, .int a1)]) C dX1_nearestBelow_1 rfl (by decide) rfl 2 rfl ?_
  refine mm_iconst (v := (0 : Int32)) C dX1_nearestBelow_2 (by decide) 3 rfl ?_
  refine mm_istore_n (lv2 := [(3, .int (0 : Int32)), (2, .int (-1 : Int32)), (0, .ref (mmad k 32)), (1, .int a1)]) C dX1_nearestBelow_3 rfl (by decide) rfl 4 rfl ?_
  refine mm_lv [2, 3, 1, 0] rfl ?_
  have hL4 : ∀ (K : (Int32) → Option (Int32)) (hK : ∀ (v1 : Int32) , K (v1) = some r → mm_AW z k 4 (some (.int r)) F F 53 [(2, .int v1)] []) (n3 : Nat) (v1 : Int32) (v2 : Int32) , (m_X1_nearestBelow_32_L4 a1 F n3 v1 v2).bind K = some r → mm_AW z k 4 (some (.int r)) F F 4 [(0, .ref (mmad k 32)), (1, .int a1), (2, .int v1), (3, .int v2)] [] := by
    intro K hK n3
    induction n3 with
    | zero => intro v1 v2 h; rw [m_X1_nearestBelow_32_L4] at h; cases h
    | succ n3 ih =>
      intro v1 v2 h
      rw [m_X1_nearestBelow_32_L4] at h
      refine mm_iload_n C dX1_nearestBelow_4 rfl 3 rfl 5 rfl ?_
      refine mm_aload_n C dX1_nearestBelow_5 rfl 0 rfl 6 rfl ?_
      refine mm_get C fl_X1_9_X1 (by decide) (mc_32 k _) rfl dX1_nearestBelow_6 9 rfl ?_
      refine mm_get C fl_X1_49_X3 (by decide) (mc_1 k _) rfl dX1_nearestBelow_9 12 rfl ?_
      refine mm_icmp_ge C dX1_nearestBelow_12 53 15 (by decide) rfl (fun hc => ?_) (fun hc => ?_)
      · rw [if_pos hc] at h
        refine mm_lv [2] rfl ?_
        exact hK _ h
      · rw [if_neg hc] at h
        refine mm_aload_n C dX1_nearestBelow_15 rfl 0 rfl 16 rfl ?_
        refine mm_get C fl_X1_36_X1 (by decide) (mc_32 k _) rfl dX1_nearestBelow_16 19 rfl ?_
        refine mm_iload_n C dX1_nearestBelow_19 rfl 3 rfl 20 rfl ?_
        obtain ⟨x4, ex4, h⟩ := mb h
        refine mm_iald C ex4 dX1_nearestBelow_20 21 rfl ?_
        refine mm_iload_n C dX1_nearestBelow_21 rfl 1 rfl 22 rfl ?_
        refine mj1 h (fun (y7 : Int32) => mm_AW z k 4 (some (.int r)) F F 47 [(0, .ref (mmad k 32)), (1, .int a1), (2, .int y7), (3, .int v2)] []) ?_ ?_
        · intro y7 h
          obtain ⟨x8, ex8, h⟩ := me h
          refine mm_iinc (v := x8) (lv2 := [(3, .int x8), (0, .ref (mmad k 32)), (1, .int a1), (2, .int y7)]) C dX1_nearestBelow_47 3 rfl (by rw [← ex8]; rfl) (by decide) rfl 50 rfl ?_
          refine mm_goto C dX1_nearestBelow_50 4 (by decide) ?_
          refine mm_lv [1, 2, 3, 0] rfl ?_
          exact ih _ _ h
        · intro K2 hR47 h
          refine mm_icmp_ge C dX1_nearestBelow_22 47 25 (by decide) rfl (fun hc => ?_) (fun hc => ?_)
          · rw [if_pos hc] at h
            exact hR47 _ h
          · rw [if_neg hc] at h
            refine mm_iload_n C dX1_nearestBelow_25 rfl 2 rfl 26 rfl ?_
            refine mm_iconst (v := (-1 : Int32)) C dX1_nearestBelow_26 (by decide) 27 rfl ?_
            refine mm_icmp_eq C dX1_nearestBelow_27 45 30 (by decide) rfl (fun hc => ?_) (fun hc => ?_)
            · rw [if_pos hc] at h
              refine mm_iload_n C dX1_nearestBelow_45 rfl 3 rfl 46 rfl ?_
              refine mm_istore_n (lv2 := [(2, .int v2), (0, .ref (mmad k 32)), (1, .int a1), (3, .int v2)]) C dX1_nearestBelow_46 rfl (by decide) rfl 47 rfl ?_
              refine mm_lv [1, 2, 0, 3] rfl ?_
              exact hR47 _ h
            · rw [if_neg hc] at h
              refine mm_aload_n C dX1_nearestBelow_30 rfl 0 rfl 31 rfl ?_
              refine mm_get C fl_X1_36_X1 (by decide) (mc_32 k _) rfl dX1_nearestBelow_31 34 rfl ?_
              refine mm_iload_n C dX1_nearestBelow_34 rfl 3 rfl 35 rfl ?_
              obtain ⟨x5, ex5, h⟩ := mb h
              refine mm_iald C ex5 dX1_nearestBelow_35 36 rfl ?_
              refine mm_aload_n C dX1_nearestBelow_36 rfl 0 rfl 37 rfl ?_
              refine mm_get C fl_X1_36_X1 (by decide) (mc_32 k _) rfl dX1_nearestBelow_37 40 rfl ?_
              refine mm_iload_n C dX1_nearestBelow_40 rfl 2 rfl 41 rfl ?_
              obtain ⟨x6, ex6, h⟩ := mb h
              refine mm_iald C ex6 dX1_nearestBelow_41 42 rfl ?_
              refine mm_icmp_le C dX1_nearestBelow_42 47 45 (by decide) rfl (fun hc => ?_) (fun hc => ?_)
              · rw [if_pos hc] at h
                exact hR47 _ h
              · rw [if_neg hc] at h
                refine mm_iload_n C dX1_nearestBelow_45 rfl 3 rfl 46 rfl ?_
                refine mm_istore_n (lv2 := [(2, .int v2), (0, .ref (mmad k 32)), (1, .int a1), (3, .int v2)]) C dX1_nearestBelow_46 rfl (by decide) rfl 47 rfl ?_
                refine mm_lv [1, 2, 0, 3] rfl ?_
                exact hR47 _ h
  refine mj1 h (fun (y9 : Int32) => mm_AW z k 4 (some (.int r)) F F 53 [(2, .int y9)] []) ?_ ?_
  · intro y9 h
    refine mm_iload_n C dX1_nearestBelow_53 rfl 0 rfl 54 rfl ?_
    exact mm_iretP C (h) dX1_nearestBelow_54
  · intro K2 hR h
    exact hL4 K2 hR 300 _ _ h
def m_X1_nearestAbove_32_L4 (a1 : Int32) (F : mmS) : Nat → Int32 → Int32 → Option (Int32)
  | 0, _, _ => none
  | n3 + 1, v1, v2 => if (F 1 1) ≤ v2 then (some ((v1))) else (Option.bind (ald F 33 v2) fun x4 => bd1 (if x4 ≤ a1 then (some (v1)) else (if v1 = (-1 : Int32) then (some (v2)) else (Option.bind (ald F 33 v2) fun x5 => Option.bind (ald F 33 v1) fun x6 => if x6 ≤ x5 then (some (v1)) else (some (v2))))) fun y7 => mlet (v2 + (1 : Int32)) fun x8 => m_X1_nearestAbove_32_L4 a1 F n3 y7 x8)
def m_X1_nearestAbove_32 (F : mmS) (a1 : Int32) : Option (Int32) :=
  bd1 (m_X1_nearestAbove_32_L4 a1 F 300 (-1 : Int32) (0 : Int32)) fun y9 => some y9
set_option maxHeartbeats 4000000 in
set_option maxRecDepth 100000 in
theorem c_X1_nearestAbove_32 {l : Launch} {k : mmK} {F : mmS} {a1 : Int32} {r : Int32} (h : m_X1_nearestAbove_32 F a1 = some r) : mm_T l k yX1_nearestAbove cX1_nearestAbove 4 (some .int) 0 [.ref (mmad k 32), .int a1] F (some (.int r)) F := by
  refine mm_start [(0, .ref (mmad k 32)), (1, .int a1)] (by decide) (Nat.le_of_ble_eq_true rfl) rfl ?_
  intro z hz C
  subst hz
  have C : mm_C z k RX1 cX1_nearestAbove 4 (some .int) 0 := C
  replace h := mk0 h
  unfold m_X1_nearestAbove_32 at h
  refine mm_iconst (v := (-1 : Int32)) C dX1_nearestAbove_0 (by decide) 1 rfl ?_
  refine mm_istore_n (lv2 := [(2, .int (-1 : Int32)), (0, .ref (mmad k 32)), (1, .int a1)]) C dX1_nearestAbove_1 rfl (by decide) rfl 2 rfl ?_
  refine mm_iconst (v := (0 : Int32)) C dX1_nearestAbove_2 (by decide) 3 rfl ?_
  refine mm_istore_n (lv2 := [(3, .int (0 : Int32)), (2, .int (-1 : Int32)), (0, .ref (mmad k 32)), (1, .int a1)]) C dX1_nearestAbove_3 rfl (by decide) rfl 4 rfl ?_
  refine mm_lv [2, 3, 1, 0] rfl ?_
  have hL4 : ∀ (K : (Int32) → Option (Int32)) (hK : ∀ (v1 : Int32) , K (v1) = some r → mm_AW z k 4 (some (.int r)) F F 53 [(2, .int v1)] []) (n3 : Nat) (v1 : Int32) (v2 : Int32) , (m_X1_nearestAbove_32_L4 a1 F n3 v1 v2).bind K = some r → mm_AW z k 4 (some (.int r)) F F 4 [(0, .ref (mmad k 32)), (1, .int a1), (2, .int v1), (3, .int v2)] [] := by
    intro K hK n3
    induction n3 with
    | zero => intro v1 v2 h; rw [m_X1_nearestAbove_32_L4] at h; cases h
    | succ n3 ih =>
      intro v1 v2 h
      rw [m_X1_nearestAbove_32_L4] at h
      refine mm_iload_n C dX1_nearestAbove_4 rfl 3 rfl 5 rfl ?_
      refine mm_aload_n C dX1_nearestAbove_5 rfl 0 rfl 6 rfl ?_
      refine mm_get C fl_X1_9_X1 (by decide) (mc_32 k _) rfl dX1_nearestAbove_6 9 rfl ?_
      refine mm_get C fl_X1_49_X3 (by decide) (mc_1 k _) rfl dX1_nearestAbove_9 12 rfl ?_
      refine mm_icmp_ge C dX1_nearestAbove_12 53 15 (by decide) rfl (fun hc => ?_) (fun hc => ?_)
      · rw [if_pos hc] at h
        refine mm_lv [2] rfl ?_
        exact hK _ h
      · rw [if_neg hc] at h
        refine mm_aload_n C dX1_nearestAbove_15 rfl 0 rfl 16 rfl ?_
        refine mm_get C fl_X1_36_X1 (by decide) (mc_32 k _) rfl dX1_nearestAbove_16 19 rfl ?_
        refine mm_iload_n C dX1_nearestAbove_19 rfl 3 rfl 20 rfl ?_
        obtain ⟨x4, ex4, h⟩ := mb h
        refine mm_iald C ex4 dX1_nearestAbove_20 21 rfl ?_
        refine mm_iload_n C dX1_nearestAbove_21 rfl 1 rfl 22 rfl ?_
        refine mj1 h (fun (y7 : Int32) => mm_AW z k 4 (some (.int r)) F F 47 [(0, .ref (mmad k 32)), (1, .int a1), (2, .int y7), (3, .int v2)] []) ?_ ?_
        · intro y7 h
          obtain ⟨x8, ex8, h⟩ := me h
          refine mm_iinc (v := x8) (lv2 := [(3, .int x8), (0, .ref (mmad k 32)), (1, .int a1), (2, .int y7)]) C dX1_nearestAbove_47 3 rfl (by rw [← ex8]; rfl) (by decide) rfl 50 rfl ?_
          refine mm_goto C dX1_nearestAbove_50 4 (by decide) ?_
          refine mm_lv [1, 2, 3, 0] rfl ?_
          exact ih _ _ h
        · intro K2 hR47 h
          refine mm_icmp_le C dX1_nearestAbove_22 47 25 (by decide) rfl (fun hc => ?_) (fun hc => ?_)
          · rw [if_pos hc] at h
            exact hR47 _ h
          · rw [if_neg hc] at h
            refine mm_iload_n C dX1_nearestAbove_25 rfl 2 rfl 26 rfl ?_
            refine mm_iconst (v := (-1 : Int32)) C dX1_nearestAbove_26 (by decide) 27 rfl ?_
            refine mm_icmp_eq C dX1_nearestAbove_27 45 30 (by decide) rfl (fun hc => ?_) (fun hc => ?_)
            · rw [if_pos hc] at h
              refine mm_iload_n C dX1_nearestAbove_45 rfl 3 rfl 46 rfl ?_
              refine mm_istore_n (lv2 := [(2, .int v2), (0, .ref (mmad k 32)), (1, .int a1), (3, .int v2)]) C dX1_nearestAbove_46 rfl (by decide) rfl 47 rfl ?_
              refine mm_lv [1, 2, 0, 3] rfl ?_
              exact hR47 _ h
            · rw [if_neg hc] at h
              refine mm_aload_n C dX1_nearestAbove_30 rfl 0 rfl 31 rfl ?_
              refine mm_get C fl_X1_36_X1 (by decide) (mc_32 k _) rfl dX1_nearestAbove_31 34 rfl ?_
              refine mm_iload_n C dX1_nearestAbove_34 rfl 3 rfl 35 rfl ?_
              obtain ⟨x5, ex5, h⟩ := mb h
              refine mm_iald C ex5 dX1_nearestAbove_35 36 rfl ?_
              refine mm_aload_n C dX1_nearestAbove_36 rfl 0 rfl 37 rfl ?_
              refine mm_get C fl_X1_36_X1 (by decide) (mc_32 k _) rfl dX1_nearestAbove_37 40 rfl ?_
              refine mm_iload_n C dX1_nearestAbove_40 rfl 2 rfl 41 rfl ?_
              obtain ⟨x6, ex6, h⟩ := mb h
              refine mm_iald C ex6 dX1_nearestAbove_41 42 rfl ?_
              refine mm_icmp_ge C dX1_nearestAbove_42 47 45 (by decide) rfl (fun hc => ?_) (fun hc => ?_)
              · rw [if_pos hc] at h
                exact hR47 _ h
              · rw [if_neg hc] at h
                refine mm_iload_n C dX1_nearestAbove_45 rfl 3 rfl 46 rfl ?_
                refine mm_istore_n (lv2 := [(2, .int v2), (0, .ref (mmad k 32)), (1, .int a1), (3, .int v2)]) C dX1_nearestAbove_46 rfl (by decide) rfl 47 rfl ?_
                refine mm_lv [1, 2, 0, 3] rfl ?_
                exact hR47 _ h
  refine mj1 h (fun (y9 : Int32) => mm_AW z k 4 (some (.int r)) F F 53 [(2, .int y9)] []) ?_ ?_
  · intro y9 h
    refine mm_iload_n C dX1_nearestAbove_53 rfl 0 rfl 54 rfl ?_
    exact mm_iretP C (h) dX1_nearestAbove_54
  · intro K2 hR h
    exact hL4 K2 hR 300 _ _ h
