def m_X12_keep_103_106_L2 : Nat → Int32 → mmS → Option (mmS)
  | 0, _, _ => none
  | n3 + 1, v1, G2 => if (3 : Int32) ≤ v1 then (some ((G2))) else (Option.bind (ald G2 103 v1) fun x4 => Option.bind (ast G2 106 v1 x4) fun G5 => mlet (v1 + (1 : Int32)) fun x6 => m_X12_keep_103_106_L2 n3 x6 G5)
def m_X12_keep_103_106 (F : mmS)  : Option (mmS) :=
  bd1 (m_X12_keep_103_106_L2 300 (0 : Int32) F) fun G7 => some G7
set_option maxHeartbeats 4000000 in
set_option maxRecDepth 100000 in
theorem c_X12_keep_103_106 {l : Launch} {k : mmK} {F : mmS}  {F1 : mmS} (h : m_X12_keep_103_106 F = some F1) : mm_T l k yX12_keep cX12_keep 3 none 0 [.ref (mmad k 103), .ref (mmad k 106)] F none F1 := by
  refine mm_start [(0, .ref (mmad k 103)), (1, .ref (mmad k 106))] (by decide) (Nat.le_of_ble_eq_true rfl) rfl ?_
  intro z hz C
  subst hz
  have C : mm_C z k RX12 cX12_keep 3 none 0 := C
  replace h := mk0 h
  unfold m_X12_keep_103_106 at h
  refine mm_iconst (v := (0 : Int32)) C dX12_keep_0 (by decide) 1 rfl ?_
  refine mm_istore_n (lv2 := [(2, .int (0 : Int32)), (0, .ref (mmad k 103)), (1, .ref (mmad k 106))]) C dX12_keep_1 rfl (by decide) rfl 2 rfl ?_
  refine mm_lv [1, 2, 0] rfl ?_
  have hL2 : ∀ (K : (mmS) → Option (mmS)) (hK : ∀ (G2 : mmS) , K (G2) = some F1 → mm_AW z k 3 none F1 G2 19 [] []) (n3 : Nat) (v1 : Int32) (G2 : mmS) , (m_X12_keep_103_106_L2 n3 v1 G2).bind K = some F1 → mm_AW z k 3 none F1 G2 2 [(0, .ref (mmad k 103)), (1, .ref (mmad k 106)), (2, .int v1)] [] := by
    intro K hK n3
    induction n3 with
    | zero => intro v1 G2 h; rw [m_X12_keep_103_106_L2] at h; cases h
    | succ n3 ih =>
      intro v1 G2 h
      rw [m_X12_keep_103_106_L2] at h
      refine mm_iload_n C dX12_keep_2 rfl 2 rfl 3 rfl ?_
      refine mm_iconst (v := (3 : Int32)) C dX12_keep_3 (by decide) 4 rfl ?_
      refine mm_icmp_ge C dX12_keep_4 19 7 (by decide) rfl (fun hc => ?_) (fun hc => ?_)
      · rw [if_pos hc] at h
        refine mm_lv [] rfl ?_
        exact hK _ h
      · rw [if_neg hc] at h
        refine mm_aload_n C dX12_keep_7 rfl 1 rfl 8 rfl ?_
        refine mm_iload_n C dX12_keep_8 rfl 2 rfl 9 rfl ?_
        refine mm_aload_n C dX12_keep_9 rfl 0 rfl 10 rfl ?_
        refine mm_iload_n C dX12_keep_10 rfl 2 rfl 11 rfl ?_
        obtain ⟨x4, ex4, h⟩ := mb h
        refine mm_iald C ex4 dX12_keep_11 12 rfl ?_
        obtain ⟨G5, eG5, h⟩ := mb h
        refine mm_iast C eG5 dX12_keep_12 13 rfl ?_
        obtain ⟨x6, ex6, h⟩ := me h
        refine mm_iinc (v := x6) (lv2 := [(2, .int x6), (0, .ref (mmad k 103)), (1, .ref (mmad k 106))]) C dX12_keep_13 2 rfl (by rw [← ex6]; rfl) (by decide) rfl 16 rfl ?_
        refine mm_goto C dX12_keep_16 2 (by decide) ?_
        refine mm_lv [1, 2, 0] rfl ?_
        exact ih _ _ h
  refine mj1 h (fun (G7 : mmS) => mm_AW z k 3 none F1 G7 19 [] []) ?_ ?_
  · intro G7 h
    exact mm_vretW C (h) dX12_keep_19
  · intro K2 hR h
    exact hL2 K2 hR 300 _ _ h
def m_X12_keep_103_107_L2 : Nat → Int32 → mmS → Option (mmS)
  | 0, _, _ => none
  | n3 + 1, v1, G2 => if (3 : Int32) ≤ v1 then (some ((G2))) else (Option.bind (ald G2 103 v1) fun x4 => Option.bind (ast G2 107 v1 x4) fun G5 => mlet (v1 + (1 : Int32)) fun x6 => m_X12_keep_103_107_L2 n3 x6 G5)
def m_X12_keep_103_107 (F : mmS)  : Option (mmS) :=
  bd1 (m_X12_keep_103_107_L2 300 (0 : Int32) F) fun G7 => some G7
set_option maxHeartbeats 4000000 in
set_option maxRecDepth 100000 in
theorem c_X12_keep_103_107 {l : Launch} {k : mmK} {F : mmS}  {F1 : mmS} (h : m_X12_keep_103_107 F = some F1) : mm_T l k yX12_keep cX12_keep 3 none 0 [.ref (mmad k 103), .ref (mmad k 107)] F none F1 := by
  refine mm_start [(0, .ref (mmad k 103)), (1, .ref (mmad k 107))] (by decide) (Nat.le_of_ble_eq_true rfl) rfl ?_
  intro z hz C
  subst hz
  have C : mm_C z k RX12 cX12_keep 3 none 0 := C
  replace h := mk0 h
  unfold m_X12_keep_103_107 at h
  refine mm_iconst (v := (0 : Int32)) C dX12_keep_0 (by decide) 1 rfl ?_
  refine mm_istore_n (lv2 := [(2, .int (0 : Int32)), (0, .ref (mmad k 103)), (1, .ref (mmad k 107))]) C dX12_keep_1 rfl (by decide) rfl 2 rfl ?_
  refine mm_lv [1, 2, 0] rfl ?_
  have hL2 : ∀ (K : (mmS) → Option (mmS)) (hK : ∀ (G2 : mmS) , K (G2) = some F1 → mm_AW z k 3 none F1 G2 19 [] []) (n3 : Nat) (v1 : Int32) (G2 : mmS) , (m_X12_keep_103_107_L2 n3 v1 G2).bind K = some F1 → mm_AW z k 3 none F1 G2 2 [(0, .ref (mmad k 103)), (1, .ref (mmad k 107)), (2, .int v1)] [] := by
    intro K hK n3
    induction n3 with
    | zero => intro v1 G2 h; rw [m_X12_keep_103_107_L2] at h; cases h
    | succ n3 ih =>
      intro v1 G2 h
      rw [m_X12_keep_103_107_L2] at h
      refine mm_iload_n C dX12_keep_2 rfl 2 rfl 3 rfl ?_
      refine mm_iconst (v := (3 : Int32)) C dX12_keep_3 (by decide) 4 rfl ?_
      refine mm_icmp_ge C dX12_keep_4 19 7 (by decide) rfl (fun hc => ?_) (fun hc => ?_)
      · rw [if_pos hc] at h
        refine mm_lv [] rfl ?_
        exact hK _ h
      · rw [if_neg hc] at h
        refine mm_aload_n C dX12_keep_7 rfl 1 rfl 8 rfl ?_
        refine mm_iload_n C dX12_keep_8 rfl 2 rfl 9 rfl ?_
        refine mm_aload_n C dX12_keep_9 rfl 0 rfl 10 rfl ?_
        refine mm_iload_n C dX12_keep_10 rfl 2 rfl 11 rfl ?_
        obtain ⟨x4, ex4, h⟩ := mb h
        refine mm_iald C ex4 dX12_keep_11 12 rfl ?_
        obtain ⟨G5, eG5, h⟩ := mb h
        refine mm_iast C eG5 dX12_keep_12 13 rfl ?_
        obtain ⟨x6, ex6, h⟩ := me h
        refine mm_iinc (v := x6) (lv2 := [(2, .int x6), (0, .ref (mmad k 103)), (1, .ref (mmad k 107))]) C dX12_keep_13 2 rfl (by rw [← ex6]; rfl) (by decide) rfl 16 rfl ?_
        refine mm_goto C dX12_keep_16 2 (by decide) ?_
        refine mm_lv [1, 2, 0] rfl ?_
        exact ih _ _ h
  refine mj1 h (fun (G7 : mmS) => mm_AW z k 3 none F1 G7 19 [] []) ?_ ?_
  · intro G7 h
    exact mm_vretW C (h) dX12_keep_19
  · intro K2 hR h
    exact hL2 K2 hR 300 _ _ h
def m_X12_keep_103_108_L2 : Nat → Int32 → mmS → Option (mmS)
  | 0, _, _ => none
  | n3 + 1, v1, G2 => if (3 : Int32) ≤ v1 then (some ((G2))) else (Option.bind (ald G2 103 v1) fun x4 => Option.bind (ast G2 108 v1 x4) fun G5 => mlet (v1 + (1 : Int32)) fun x6 => m_X12_keep_103_108_L2 n3 x6 G5)
def m_X12_keep_103_108 (F : mmS)  : Option (mmS) :=
  bd1 (m_X12_keep_103_108_L2 300 (0 : Int32) F) fun G7 => some G7
set_option maxHeartbeats 4000000 in
set_option maxRecDepth 100000 in
theorem c_X12_keep_103_108 {l : Launch} {k : mmK} {F : mmS}  {F1 : mmS} (h : m_X12_keep_103_108 F = some F1) : mm_T l k yX12_keep cX12_keep 3 none 0 [.ref (mmad k 103), .ref (mmad k 108)] F none F1 := by
  refine mm_start [(0, .ref (mmad k 103)), (1, .ref (mmad k 108))] (by decide) (Nat.le_of_ble_eq_true rfl) rfl ?_
  intro z hz C
  subst hz
  have C : mm_C z k RX12 cX12_keep 3 none 0 := C
  replace h := mk0 h
  unfold m_X12_keep_103_108 at h
  refine mm_iconst (v := (0 : Int32)) C dX12_keep_0 (by decide) 1 rfl ?_
  refine mm_istore_n (lv2 := [(2, .int (0 : Int32)), (0, .ref (mmad k 103)), (1, .ref (mmad k 108))]) C dX12_keep_1 rfl (by decide) rfl 2 rfl ?_
  refine mm_lv [1, 2, 0] rfl ?_
  have hL2 : ∀ (K : (mmS) → Option (mmS)) (hK : ∀ (G2 : mmS) , K (G2) = some F1 → mm_AW z k 3 none F1 G2 19 [] []) (n3 : Nat) (v1 : Int32) (G2 : mmS) , (m_X12_keep_103_108_L2 n3 v1 G2).bind K = some F1 → mm_AW z k 3 none F1 G2 2 [(0, .ref (mmad k 103)), (1, .ref (mmad k 108)), (2, .int v1)] [] := by
    intro K hK n3
    induction n3 with
    | zero => intro v1 G2 h; rw [m_X12_keep_103_108_L2] at h; cases h
    | succ n3 ih =>
      intro v1 G2 h
      rw [m_X12_keep_103_108_L2] at h
      refine mm_iload_n C dX12_keep_2 rfl 2 rfl 3 rfl ?_
      refine mm_iconst (v := (3 : Int32)) C dX12_keep_3 (by decide) 4 rfl ?_
      refine mm_icmp_ge C dX12_keep_4 19 7 (by decide) rfl (fun hc => ?_) (fun hc => ?_)
      · rw [if_pos hc] at h
        refine mm_lv [] rfl ?_
        exact hK _ h
      · rw [if_neg hc] at h
        refine mm_aload_n C dX12_keep_7 rfl 1 rfl 8 rfl ?_
        refine mm_iload_n C dX12_keep_8 rfl 2 rfl 9 rfl ?_
        refine mm_aload_n C dX12_keep_9 rfl 0 rfl 10 rfl ?_
        refine mm_iload_n C dX12_keep_10 rfl 2 rfl 11 rfl ?_
        obtain ⟨x4, ex4, h⟩ := mb h
        refine mm_iald C ex4 dX12_keep_11 12 rfl ?_
        obtain ⟨G5, eG5, h⟩ := mb h
        refine mm_iast C eG5 dX12_keep_12 13 rfl ?_
        obtain ⟨x6, ex6, h⟩ := me h
        refine mm_iinc (v := x6) (lv2 := [(2, .int x6), (0, .ref (mmad k 103)), (1, .ref (mmad k 108))]) C dX12_keep_13 2 rfl (by rw [← ex6]; rfl) (by decide) rfl 16 rfl ?_
        refine mm_goto C dX12_keep_16 2 (by decide) ?_
        refine mm_lv [1, 2, 0] rfl ?_
        exact ih _ _ h
  refine mj1 h (fun (G7 : mmS) => mm_AW z k 3 none F1 G7 19 [] []) ?_ ?_
  · intro G7 h
    exact mm_vretW C (h) dX12_keep_19
  · intro K2 hR h
    exact hL2 K2 hR 300 _ _ h
def m_X12_keep_106_103_L2 : Nat → Int32 → mmS → Option (mmS)
  | 0, _, _ => none
  | n3 + 1, v1, G2 => if (3 : Int32) ≤ v1 then (some ((G2))) else (Option.bind (ald G2 106 v1) fun x4 => Option.bind (ast G2 103 v1 x4) fun G5 => mlet (v1 + (1 : Int32)) fun x6 => m_X12_keep_106_103_L2 n3 x6 G5)
def m_X12_keep_106_103 (F : mmS)  : Option (mmS) :=
  bd1 (m_X12_keep_106_103_L2 300 (0 : Int32) F) fun G7 => some G7
set_option maxHeartbeats 4000000 in
set_option maxRecDepth 100000 in
theorem c_X12_keep_106_103 {l : Launch} {k : mmK} {F : mmS}  {F1 : mmS} (h : m_X12_keep_106_103 F = some F1) : mm_T l k yX12_keep cX12_keep 3 none 0 [.ref (mmad k 106), .ref (mmad k 103)] F none F1 := by
  refine mm_start [(0, .ref (mmad k 106)), (1, .ref (mmad k 103))] (by decide) (Nat.le_of_ble_eq_true rfl) rfl ?_
  intro z hz C
  subst hz
  have C : mm_C z k RX12 cX12_keep 3 none 0 := C
  replace h := mk0 h
  unfold m_X12_keep_106_103 at h
  refine mm_iconst (v := (0 : Int32)) C dX12_keep_0 (by decide) 1 rfl ?_
  refine mm_istore_n (lv2 := [(2, .int (0 : Int32)), (0, .ref (mmad k 106)), (1, .ref (mmad k 103))]) C dX12_keep_1 rfl (by decide) rfl 2 rfl ?_
  refine mm_lv [1, 2, 0] rfl ?_
  have hL2 : ∀ (K : (mmS) → Option (mmS)) (hK : ∀ (G2 : mmS) , K (G2) = some F1 → mm_AW z k 3 none F1 G2 19 [] []) (n3 : Nat) (v1 : Int32) (G2 : mmS) , (m_X12_keep_106_103_L2 n3 v1 G2).bind K = some F1 → mm_AW z k 3 none F1 G2 2 [(0, .ref (mmad k 106)), (1, .ref (mmad k 103)), (2, .int v1)] [] := by
    intro K hK n3
    induction n3 with
    | zero => intro v1 G2 h; rw [m_X12_keep_106_103_L2] at h; cases h
    | succ n3 ih =>
      intro v1 G2 h
      rw [m_X12_keep_106_103_L2] at h
      refine mm_iload_n C dX12_keep_2 rfl 2 rfl 3 rfl ?_
      refine mm_iconst (v := (3 : Int32)) C dX12_keep_3 (by decide) 4 rfl ?_
      refine mm_icmp_ge C dX12_keep_4 19 7 (by decide) rfl (fun hc => ?_) (fun hc => ?_)
      · rw [if_pos hc] at h
        refine mm_lv [] rfl ?_
        exact hK _ h
      · rw [if_neg hc] at h
        refine mm_aload_n C dX12_keep_7 rfl 1 rfl 8 rfl ?_
        refine mm_iload_n C dX12_keep_8 rfl 2 rfl 9 rfl ?_
        refine mm_aload_n C dX12_keep_9 rfl 0 rfl 10 rfl ?_
        refine mm_iload_n C dX12_keep_10 rfl 2 rfl 11 rfl ?_
        obtain ⟨x4, ex4, h⟩ := mb h
        refine mm_iald C ex4 dX12_keep_11 12 rfl ?_
        obtain ⟨G5, eG5, h⟩ := mb h
        refine mm_iast C eG5 dX12_keep_12 13 rfl ?_
        obtain ⟨x6, ex6, h⟩ := me h
        refine mm_iinc (v := x6) (lv2 := [(2, .int x6), (0, .ref (mmad k 106)), (1, .ref (mmad k 103))]) C dX12_keep_13 2 rfl (by rw [← ex6]; rfl) (by decide) rfl 16 rfl ?_
        refine mm_goto C dX12_keep_16 2 (by decide) ?_
        refine mm_lv [1, 2, 0] rfl ?_
        exact ih _ _ h
  refine mj1 h (fun (G7 : mmS) => mm_AW z k 3 none F1 G7 19 [] []) ?_ ?_
  · intro G7 h
    exact mm_vretW C (h) dX12_keep_19
  · intro K2 hR h
    exact hL2 K2 hR 300 _ _ h
def m_X12_keep_107_103_L2 : Nat → Int32 → mmS → Option (mmS)
  | 0, _, _ => none
  | n3 + 1, v1, G2 => if (3 : Int32) ≤ v1 then (some ((G2))) else (Option.bind (ald G2 107 v1) fun x4 => Option.bind (ast G2 103 v1 x4) fun G5 => mlet (v1 + (1 : Int32)) fun x6 => m_X12_keep_107_103_L2 n3 x6 G5)
def m_X12_keep_107_103 (F : mmS)  : Option (mmS) :=
  bd1 (m_X12_keep_107_103_L2 300 (0 : Int32) F) fun G7 => some G7
set_option maxHeartbeats 4000000 in
set_option maxRecDepth 100000 in
theorem c_X12_keep_107_103 {l : Launch} {k : mmK} {F : mmS}  {F1 : mmS} (h : m_X12_keep_107_103 F = some F1) : mm_T l k yX12_keep cX12_keep 3 none 0 [.ref (mmad k 107), .ref (mmad k 103)] F none F1 := by
  refine mm_start [(0, .ref (mmad k 107)), (1, .ref (mmad k 103))] (by decide) (Nat.le_of_ble_eq_true rfl) rfl ?_
  intro z hz C
  subst hz
  have C : mm_C z k RX12 cX12_keep 3 none 0 := C
  replace h := mk0 h
  unfold m_X12_keep_107_103 at h
  refine mm_iconst (v := (0 : Int32)) C dX12_keep_0 (by decide) 1 rfl ?_
  refine mm_istore_n (lv2 := [(2, .int (0 : Int32)), (0, .ref (mmad k 107)), (1, .ref (mmad k 103))]) C dX12_keep_1 rfl (by decide) rfl 2 rfl ?_
  refine mm_lv [1, 2, 0] rfl ?_
  have hL2 : ∀ (K : (mmS) → Option (mmS)) (hK : ∀ (G2 : mmS) , K (G2) = some F1 → mm_AW z k 3 none F1 G2 19 [] []) (n3 : Nat) (v1 : Int32) (G2 : mmS) , (m_X12_keep_107_103_L2 n3 v1 G2).bind K = some F1 → mm_AW z k 3 none F1 G2 2 [(0, .ref (mmad k 107)), (1, .ref (mmad k 103)), (2, .int v1)] [] := by
    intro K hK n3
    induction n3 with
    | zero => intro v1 G2 h; rw [m_X12_keep_107_103_L2] at h; cases h
    | succ n3 ih =>
      intro v1 G2 h
      rw [m_X12_keep_107_103_L2] at h
      refine mm_iload_n C dX12_keep_2 rfl 2 rfl 3 rfl ?_
      refine mm_iconst (v := (3 : Int32)) C dX12_keep_3 (by decide) 4 rfl ?_
      refine mm_icmp_ge C dX12_keep_4 19 7 (by decide) rfl (fun hc => ?_) (fun hc => ?_)
      · rw [if_pos hc] at h
        refine mm_lv [] rfl ?_
        exact hK _ h
      · rw [if_neg hc] at h
        refine mm_aload_n C dX12_keep_7 rfl 1 rfl 8 rfl ?_
        refine mm_iload_n C dX12_keep_8 rfl 2 rfl 9 rfl ?_
        refine mm_aload_n C dX12_keep_9 rfl 0 rfl 10 rfl ?_
        refine mm_iload_n C dX12_keep_10 rfl 2 rfl 11 rfl ?_
        obtain ⟨x4, ex4, h⟩ := mb h
        refine mm_iald C ex4 dX12_keep_11 12 rfl ?_
        obtain ⟨G5, eG5, h⟩ := mb h
        refine mm_iast C eG5 dX12_keep_12 13 rfl ?_
        obtain ⟨x6, ex6, h⟩ := me h
        refine mm_iinc (v := x6) (lv2 := [(2, .int x6), (0, .ref (mmad k 107)), (1, .ref (mmad k 103))]) C dX12_keep_13 2 rfl (by rw [← ex6]; rfl) (by decide) rfl 16 rfl ?_
        refine mm_goto C dX12_keep_16 2 (by decide) ?_
        refine mm_lv [1, 2, 0] rfl ?_
        exact ih _ _ h
  refine mj1 h (fun (G7 : mmS) => mm_AW z k 3 none F1 G7 19 [] []) ?_ ?_
  · intro G7 h
    exact mm_vretW C (h) dX12_keep_19
  · intro K2 hR h
    exact hL2 K2 hR 300 _ _ h
def m_X12_runsGuarded_97_L54 (a1 : Int32) : Nat → Int32 → Int32 → Int32 → mmS → Option (mmS)
  | 0, _, _, _, _ => none
  | n11 + 1, v7, v8, v9, G10 => Option.bind (m_X12_first_97 G10 a1) fun x12 => if x12 ≤ v9 then (some ((G10))) else (Option.bind (m_X12_keep_106_103 G10) fun G13 => mlet (stF G13 97 11 (0 : Int32)) fun G14 => Option.bind (m_X12_goesOn_97 G14 (1 : Int32) v9) fun G15 => mlet (v7 + (G15 97 11)) fun x16 => Option.bind (m_X12_keep_103_106 G15) fun G17 => Option.bind (m_X12_keep_107_103 G17) fun G18 => mlet (stF G18 97 11 (0 : Int32)) fun G19 => Option.bind (m_X12_goesOn_97 G19 (3 : Int32) v9) fun G20 => mlet (v8 + (G20 97 11)) fun x21 => Option.bind (m_X12_keep_103_107 G20) fun G22 => bd1 (if (G22 97 18) = (3 : Int32) then (if x21 ≤ ((G22 97 4) * x16) then (if (G22 97 18) = (1 : Int32) then (if x16 ≤ ((G22 97 4) * x21) then (some (G22)) else (mlet (stF G22 97 18 (3 : Int32)) fun G24 => some (G24))) else (some (G22))) else (mlet (stF G22 97 18 (1 : Int32)) fun G25 => some (G25))) else (if (G22 97 18) = (1 : Int32) then (if x16 ≤ ((G22 97 4) * x21) then (some (G22)) else (mlet (stF G22 97 18 (3 : Int32)) fun G23 => some (G23))) else (some (G22)))) fun G26 => bd1 (if (G26 97 18) = (1 : Int32) then (some (106)) else (some (107))) fun y27 => if y27 = 107 then (Option.bind (m_X12_keep_107_103 G26) fun G28 => Option.bind (ald G28 108 (0 : Int32)) fun x29 => Option.bind (ald G28 108 (1 : Int32)) fun x30 => Option.bind (ald G28 108 (2 : Int32)) fun x31 => Option.bind (ald G28 103 (0 : Int32)) fun x32 => Option.bind (ald G28 103 (1 : Int32)) fun x33 => Option.bind (ald G28 103 (2 : Int32)) fun x34 => Option.bind (m_X12_least_97 G28 x29 x30 x31 x32 x33 x34) fun x35 => mlet (stF G28 97 19 ((G28 97 19) + x35)) fun G36 => Option.bind (m_X12_keep_103_108 G36) fun G37 => mlet (v9 + (1 : Int32)) fun x38 => m_X12_runsGuarded_97_L54 a1 n11 x16 x21 x38 G37) else if y27 = 106 then (Option.bind (m_X12_keep_106_103 G26) fun G39 => Option.bind (ald G39 108 (0 : Int32)) fun x40 => Option.bind (ald G39 108 (1 : Int32)) fun x41 => Option.bind (ald G39 108 (2 : Int32)) fun x42 => Option.bind (ald G39 103 (0 : Int32)) fun x43 => Option.bind (ald G39 103 (1 : Int32)) fun x44 => Option.bind (ald G39 103 (2 : Int32)) fun x45 => Option.bind (m_X12_least_97 G39 x40 x41 x42 x43 x44 x45) fun x46 => mlet (stF G39 97 19 ((G39 97 19) + x46)) fun G47 => Option.bind (m_X12_keep_103_108 G47) fun G48 => mlet (v9 + (1 : Int32)) fun x49 => m_X12_runsGuarded_97_L54 a1 n11 x16 x21 x49 G48) else none)
def m_X12_runsGuarded_97 (F : mmS) (a1 : Int32) : Option (mmS) :=
  mlet (stF F 97 18 (3 : Int32)) fun G1 => mlet (stF G1 97 19 (0 : Int32)) fun G2 => Option.bind (m_X12_starts_97 G2) fun G3 => Option.bind (m_X12_keep_103_106 G3) fun G4 => Option.bind (m_X12_keep_103_107 G4) fun G5 => Option.bind (m_X12_keep_103_108 G5) fun G6 => bd1 (m_X12_runsGuarded_97_L54 a1 300 (0 : Int32) (0 : Int32) (0 : Int32) G6) fun G50 => some G50
set_option maxHeartbeats 4000000 in
set_option maxRecDepth 100000 in
theorem c_X12_runsGuarded_97 {l : Launch} {k : mmK} {F : mmS} {a1 : Int32} {F1 : mmS} (h : m_X12_runsGuarded_97 F a1 = some F1) : mm_T l k yX12_runsGuarded cX12_runsGuarded 5 none 5 [.ref (mmad k 97), .int a1] F none F1 := by
  refine mm_start [(0, .ref (mmad k 97)), (1, .int a1)] (by decide) (Nat.le_of_ble_eq_true rfl) rfl ?_
  intro z hz C
  subst hz
  have C : mm_C z k RX12 cX12_runsGuarded 5 none 5 := C
  replace h := mk0 h
  unfold m_X12_runsGuarded_97 at h
  refine mm_aload_n C dX12_runsGuarded_0 rfl 0 rfl 1 rfl ?_
  refine mm_iconst (v := (3 : Int32)) C dX12_runsGuarded_1 (by decide) 2 rfl ?_
  obtain ⟨G1, eG1, h⟩ := me h
  refine mm_put (x := (3 : Int32)) (ty := .int) C fl_X12_164_X12 (by decide) (mc_97 k _) (mc_97 k _) tyX12 tyX12_ok nmX12 rfl (by decide +kernel) rfl rfl (Nat.le_of_ble_eq_true rfl) eG1 dX12_runsGuarded_2 5 rfl ?_
  refine mm_aload_n C dX12_runsGuarded_5 rfl 0 rfl 6 rfl ?_
  refine mm_iconst (v := (0 : Int32)) C dX12_runsGuarded_6 (by decide) 7 rfl ?_
  obtain ⟨G2, eG2, h⟩ := me h
  refine mm_put (x := (0 : Int32)) (ty := .int) C fl_X12_167_X12 (by decide) (mc_97 k _) (mc_97 k _) tyX12 tyX12_ok nmX12 rfl (by decide +kernel) rfl rfl (Nat.le_of_ble_eq_true rfl) eG2 dX12_runsGuarded_7 10 rfl ?_
  refine mm_aload_n C dX12_runsGuarded_10 rfl 0 rfl 11 rfl ?_
  obtain ⟨G3, eG3, h⟩ := mb h
  refine mm_callV [] C (c_X12_starts_97 eG3) wb_X12_starts wv_X12_153 (by decide) (mc_97 k _) rfl rfl rfl (by omega) rfl (Nat.le_of_ble_eq_true rfl) dX12_runsGuarded_11 14 rfl ?_
  show mm_AW z k 5 none F1 G3 14 [(0, .ref (mmad k 97)), (1, .int a1)] []
  refine mm_aload_n C dX12_runsGuarded_14 rfl 0 rfl 15 rfl ?_
  refine mm_get C fl_X12_35_X12 (by decide) (mc_97 k _) rfl dX12_runsGuarded_15 18 rfl ?_
  refine mm_aload_n C dX12_runsGuarded_18 rfl 0 rfl 19 rfl ?_
  refine mm_get C fl_X12_44_X12 (by decide) (mc_97 k _) rfl dX12_runsGuarded_19 22 rfl ?_
  obtain ⟨G4, eG4, h⟩ := mb h
  refine mm_callS [.ref (mmad k 103), .ref (mmad k 106)] C (c_X12_keep_103_106 eG4) wb_X12_keep ws_X12_170 rfl (by omega) rfl (Nat.le_of_ble_eq_true rfl) dX12_runsGuarded_22 25 rfl ?_
  show mm_AW z k 5 none F1 G4 25 [(0, .ref (mmad k 97)), (1, .int a1)] []
  refine mm_aload_n C dX12_runsGuarded_25 rfl 0 rfl 26 rfl ?_
  refine mm_get C fl_X12_35_X12 (by decide) (mc_97 k _) rfl dX12_runsGuarded_26 29 rfl ?_
  refine mm_aload_n C dX12_runsGuarded_29 rfl 0 rfl 30 rfl ?_
  refine mm_get C fl_X12_47_X12 (by decide) (mc_97 k _) rfl dX12_runsGuarded_30 33 rfl ?_
  obtain ⟨G5, eG5, h⟩ := mb h
  refine mm_callS [.ref (mmad k 103), .ref (mmad k 107)] C (c_X12_keep_103_107 eG5) wb_X12_keep ws_X12_170 rfl (by omega) rfl (Nat.le_of_ble_eq_true rfl) dX12_runsGuarded_33 36 rfl ?_
  show mm_AW z k 5 none F1 G5 36 [(0, .ref (mmad k 97)), (1, .int a1)] []
  refine mm_aload_n C dX12_runsGuarded_36 rfl 0 rfl 37 rfl ?_
  refine mm_get C fl_X12_35_X12 (by decide) (mc_97 k _) rfl dX12_runsGuarded_37 40 rfl ?_
  refine mm_aload_n C dX12_runsGuarded_40 rfl 0 rfl 41 rfl ?_
  refine mm_get C fl_X12_50_X12 (by decide) (mc_97 k _) rfl dX12_runsGuarded_41 44 rfl ?_
  obtain ⟨G6, eG6, h⟩ := mb h
  refine mm_callS [.ref (mmad k 103), .ref (mmad k 108)] C (c_X12_keep_103_108 eG6) wb_X12_keep ws_X12_170 rfl (by omega) rfl (Nat.le_of_ble_eq_true rfl) dX12_runsGuarded_44 47 rfl ?_
  show mm_AW z k 5 none F1 G6 47 [(0, .ref (mmad k 97)), (1, .int a1)] []
  refine mm_iconst (v := (0 : Int32)) C dX12_runsGuarded_47 (by decide) 48 rfl ?_
  refine mm_istore_n (lv2 := [(2, .int (0 : Int32)), (0, .ref (mmad k 97)), (1, .int a1)]) C dX12_runsGuarded_48 rfl (by decide) rfl 49 rfl ?_
  refine mm_iconst (v := (0 : Int32)) C dX12_runsGuarded_49 (by decide) 50 rfl ?_
  refine mm_istore_n (lv2 := [(3, .int (0 : Int32)), (2, .int (0 : Int32)), (0, .ref (mmad k 97)), (1, .int a1)]) C dX12_runsGuarded_50 rfl (by decide) rfl 51 rfl ?_
  refine mm_iconst (v := (0 : Int32)) C dX12_runsGuarded_51 (by decide) 52 rfl ?_
  refine mm_istore (lv2 := [(4, .int (0 : Int32)), (3, .int (0 : Int32)), (2, .int (0 : Int32)), (0, .ref (mmad k 97)), (1, .int a1)]) C dX12_runsGuarded_52 (by decide) rfl 54 rfl ?_
  refine mm_lv [3, 4, 2, 1, 0] rfl ?_
  have hL54 : ∀ (K : (mmS) → Option (mmS)) (hK : ∀ (G10 : mmS) , K (G10) = some F1 → mm_AW z k 5 none F1 G10 287 [] []) (n11 : Nat) (v7 : Int32) (v8 : Int32) (v9 : Int32) (G10 : mmS) , (m_X12_runsGuarded_97_L54 a1 n11 v7 v8 v9 G10).bind K = some F1 → mm_AW z k 5 none F1 G10 54 [(0, .ref (mmad k 97)), (1, .int a1), (2, .int v7), (3, .int v8), (4, .int v9)] [] := by
    intro K hK n11
    induction n11 with
    | zero => intro v7 v8 v9 G10 h; rw [m_X12_runsGuarded_97_L54] at h; cases h
    | succ n11 ih =>
      intro v7 v8 v9 G10 h
      rw [m_X12_runsGuarded_97_L54] at h
      refine mm_iload C dX12_runsGuarded_54 4 rfl 56 rfl ?_
      refine mm_aload_n C dX12_runsGuarded_56 rfl 0 rfl 57 rfl ?_
      refine mm_iload_n C dX12_runsGuarded_57 rfl 1 rfl 58 rfl ?_
      obtain ⟨x12, ex12, h⟩ := mb h
      refine mm_callV [.int a1] C (c_X12_first_97 ex12) wb_X12_first wv_X12_158 (by decide) (mc_97 k _) rfl rfl rfl (by omega) rfl (Nat.le_of_ble_eq_true rfl) dX12_runsGuarded_58 61 rfl ?_
      show mm_AW z k 5 none F1 G10 61 [(0, .ref (mmad k 97)), (1, .int a1), (2, .int v7), (3, .int v8), (4, .int v9)] [.int x12, .int v9]
      refine mm_icmp_ge C dX12_runsGuarded_61 287 64 (by decide) rfl (fun hc => ?_) (fun hc => ?_)
      · rw [if_pos hc] at h
        refine mm_lv [] rfl ?_
        exact hK _ h
      · rw [if_neg hc] at h
        refine mm_aload_n C dX12_runsGuarded_64 rfl 0 rfl 65 rfl ?_
        refine mm_get C fl_X12_44_X12 (by decide) (mc_97 k _) rfl dX12_runsGuarded_65 68 rfl ?_
        refine mm_aload_n C dX12_runsGuarded_68 rfl 0 rfl 69 rfl ?_
        refine mm_get C fl_X12_35_X12 (by decide) (mc_97 k _) rfl dX12_runsGuarded_69 72 rfl ?_
        obtain ⟨G13, eG13, h⟩ := mb h
        refine mm_callS [.ref (mmad k 106), .ref (mmad k 103)] C (c_X12_keep_106_103 eG13) wb_X12_keep ws_X12_170 rfl (by omega) rfl (Nat.le_of_ble_eq_true rfl) dX12_runsGuarded_72 75 rfl ?_
        show mm_AW z k 5 none F1 G13 75 [(0, .ref (mmad k 97)), (1, .int a1), (2, .int v7), (3, .int v8), (4, .int v9)] []
        refine mm_aload_n C dX12_runsGuarded_75 rfl 0 rfl 76 rfl ?_
        refine mm_iconst (v := (0 : Int32)) C dX12_runsGuarded_76 (by decide) 77 rfl ?_
        obtain ⟨G14, eG14, h⟩ := me h
        refine mm_put (x := (0 : Int32)) (ty := .int) C fl_X12_115_X12 (by decide) (mc_97 k _) (mc_97 k _) tyX12 tyX12_ok nmX12 rfl (by decide +kernel) rfl rfl (Nat.le_of_ble_eq_true rfl) eG14 dX12_runsGuarded_77 80 rfl ?_
        refine mm_aload_n C dX12_runsGuarded_80 rfl 0 rfl 81 rfl ?_
        refine mm_iconst (v := (1 : Int32)) C dX12_runsGuarded_81 (by decide) 82 rfl ?_
        refine mm_iload C dX12_runsGuarded_82 4 rfl 84 rfl ?_
        obtain ⟨G15, eG15, h⟩ := mb h
        refine mm_callV [.int (1 : Int32), .int v9] C (c_X12_goesOn_97 eG15) wb_X12_goesOn wv_X12_161 (by decide) (mc_97 k _) rfl rfl rfl (by omega) rfl (Nat.le_of_ble_eq_true rfl) dX12_runsGuarded_84 87 rfl ?_
        show mm_AW z k 5 none F1 G15 87 [(0, .ref (mmad k 97)), (1, .int a1), (2, .int v7), (3, .int v8), (4, .int v9)] []
        refine mm_iload_n C dX12_runsGuarded_87 rfl 2 rfl 88 rfl ?_
        refine mm_aload_n C dX12_runsGuarded_88 rfl 0 rfl 89 rfl ?_
        refine mm_get C fl_X12_115_X12 (by decide) (mc_97 k _) rfl dX12_runsGuarded_89 92 rfl ?_
        refine mm_iadd C dX12_runsGuarded_92 93 rfl ?_
        obtain ⟨x16, ex16, h⟩ := me h
        refine mm_top ex16 ?_
        refine mm_istore_n (lv2 := [(2, .int x16), (0, .ref (mmad k 97)), (1, .int a1), (3, .int v8), (4, .int v9)]) C dX12_runsGuarded_93 rfl (by decide) rfl 94 rfl ?_
        refine mm_aload_n C dX12_runsGuarded_94 rfl 1 rfl 95 rfl ?_
        refine mm_get C fl_X12_35_X12 (by decide) (mc_97 k _) rfl dX12_runsGuarded_95 98 rfl ?_
        refine mm_aload_n C dX12_runsGuarded_98 rfl 1 rfl 99 rfl ?_
        refine mm_get C fl_X12_44_X12 (by decide) (mc_97 k _) rfl dX12_runsGuarded_99 102 rfl ?_
        obtain ⟨G17, eG17, h⟩ := mb h
        refine mm_callS [.ref (mmad k 103), .ref (mmad k 106)] C (c_X12_keep_103_106 eG17) wb_X12_keep ws_X12_170 rfl (by omega) rfl (Nat.le_of_ble_eq_true rfl) dX12_runsGuarded_102 105 rfl ?_
        show mm_AW z k 5 none F1 G17 105 [(2, .int x16), (0, .ref (mmad k 97)), (1, .int a1), (3, .int v8), (4, .int v9)] []
        refine mm_aload_n C dX12_runsGuarded_105 rfl 1 rfl 106 rfl ?_
        refine mm_get C fl_X12_47_X12 (by decide) (mc_97 k _) rfl dX12_runsGuarded_106 109 rfl ?_
        refine mm_aload_n C dX12_runsGuarded_109 rfl 1 rfl 110 rfl ?_
        refine mm_get C fl_X12_35_X12 (by decide) (mc_97 k _) rfl dX12_runsGuarded_110 113 rfl ?_
        obtain ⟨G18, eG18, h⟩ := mb h
        refine mm_callS [.ref (mmad k 107), .ref (mmad k 103)] C (c_X12_keep_107_103 eG18) wb_X12_keep ws_X12_170 rfl (by omega) rfl (Nat.le_of_ble_eq_true rfl) dX12_runsGuarded_113 116 rfl ?_
        show mm_AW z k 5 none F1 G18 116 [(2, .int x16), (0, .ref (mmad k 97)), (1, .int a1), (3, .int v8), (4, .int v9)] []
        refine mm_aload_n C dX12_runsGuarded_116 rfl 1 rfl 117 rfl ?_
        refine mm_iconst (v := (0 : Int32)) C dX12_runsGuarded_117 (by decide) 118 rfl ?_
        obtain ⟨G19, eG19, h⟩ := me h
        refine mm_put (x := (0 : Int32)) (ty := .int) C fl_X12_115_X12 (by decide) (mc_97 k _) (mc_97 k _) tyX12 tyX12_ok nmX12 rfl (by decide +kernel) rfl rfl (Nat.le_of_ble_eq_true rfl) eG19 dX12_runsGuarded_118 121 rfl ?_
        refine mm_aload_n C dX12_runsGuarded_121 rfl 1 rfl 122 rfl ?_
        refine mm_iconst (v := (3 : Int32)) C dX12_runsGuarded_122 (by decide) 123 rfl ?_
        refine mm_iload C dX12_runsGuarded_123 4 rfl 125 rfl ?_
        obtain ⟨G20, eG20, h⟩ := mb h
        refine mm_callV [.int (3 : Int32), .int v9] C (c_X12_goesOn_97 eG20) wb_X12_goesOn wv_X12_161 (by decide) (mc_97 k _) rfl rfl rfl (by omega) rfl (Nat.le_of_ble_eq_true rfl) dX12_runsGuarded_125 128 rfl ?_
        show mm_AW z k 5 none F1 G20 128 [(2, .int x16), (0, .ref (mmad k 97)), (1, .int a1), (3, .int v8), (4, .int v9)] []
        refine mm_iload_n C dX12_runsGuarded_128 rfl 3 rfl 129 rfl ?_
        refine mm_aload_n C dX12_runsGuarded_129 rfl 1 rfl 130 rfl ?_
        refine mm_get C fl_X12_115_X12 (by decide) (mc_97 k _) rfl dX12_runsGuarded_130 133 rfl ?_
        refine mm_iadd C dX12_runsGuarded_133 134 rfl ?_
        obtain ⟨x21, ex21, h⟩ := me h
        refine mm_top ex21 ?_
        refine mm_istore_n (lv2 := [(3, .int x21), (2, .int x16), (0, .ref (mmad k 97)), (1, .int a1), (4, .int v9)]) C dX12_runsGuarded_134 rfl (by decide) rfl 135 rfl ?_
        refine mm_aload_n C dX12_runsGuarded_135 rfl 2 rfl 136 rfl ?_
        refine mm_get C fl_X12_35_X12 (by decide) (mc_97 k _) rfl dX12_runsGuarded_136 139 rfl ?_
        refine mm_aload_n C dX12_runsGuarded_139 rfl 2 rfl 140 rfl ?_
        refine mm_get C fl_X12_47_X12 (by decide) (mc_97 k _) rfl dX12_runsGuarded_140 143 rfl ?_
        obtain ⟨G22, eG22, h⟩ := mb h
        refine mm_callS [.ref (mmad k 103), .ref (mmad k 107)] C (c_X12_keep_103_107 eG22) wb_X12_keep ws_X12_170 rfl (by omega) rfl (Nat.le_of_ble_eq_true rfl) dX12_runsGuarded_143 146 rfl ?_
        show mm_AW z k 5 none F1 G22 146 [(3, .int x21), (2, .int x16), (0, .ref (mmad k 97)), (1, .int a1), (4, .int v9)] []
        refine mm_aload_n C dX12_runsGuarded_146 rfl 2 rfl 147 rfl ?_
        refine mm_get C fl_X12_164_X12 (by decide) (mc_97 k _) rfl dX12_runsGuarded_147 150 rfl ?_
        refine mm_iconst (v := (3 : Int32)) C dX12_runsGuarded_150 (by decide) 151 rfl ?_
        refine mj1 h (fun (G26 : mmS) => mm_AW z k 5 none F1 G26 195 [(0, .ref (mmad k 97)), (1, .int a1), (2, .int x16), (3, .int x21), (4, .int v9)] []) ?_ ?_
        · intro G26 h
          refine mm_aload_n C dX12_runsGuarded_195 rfl 0 rfl 196 rfl ?_
          refine mm_get C fl_X12_164_X12 (by decide) (mc_97 k _) rfl dX12_runsGuarded_196 199 rfl ?_
          refine mm_iconst (v := (1 : Int32)) C dX12_runsGuarded_199 (by decide) 200 rfl ?_
          refine mj1 h (fun (y27 : Nat) => mm_AW z k 5 none F1 G26 214 [(0, .ref (mmad k 97)), (1, .int a1), (2, .int x16), (3, .int x21), (4, .int v9)] [.ref (mmad k y27)]) ?_ ?_
          · intro y27 h
            refine mm_aload_n C dX12_runsGuarded_214 rfl 0 rfl 215 rfl ?_
            refine mm_get C fl_X12_35_X12 (by decide) (mc_97 k _) rfl dX12_runsGuarded_215 218 rfl ?_
            by_cases hq107 : y27 = 107
            · rw [if_pos hq107] at h
              subst hq107
              obtain ⟨G28, eG28, h⟩ := mb h
              refine mm_callS [.ref (mmad k 107), .ref (mmad k 103)] C (c_X12_keep_107_103 eG28) wb_X12_keep ws_X12_170 rfl (by omega) rfl (Nat.le_of_ble_eq_true rfl) dX12_runsGuarded_218 221 rfl ?_
              show mm_AW z k 5 none F1 G28 221 [(0, .ref (mmad k 97)), (1, .int a1), (2, .int x16), (3, .int x21), (4, .int v9)] []
              refine mm_aload_n C dX12_runsGuarded_221 rfl 0 rfl 222 rfl ?_
              refine mm_dup C dX12_runsGuarded_222 rfl 223 rfl ?_
              refine mm_get C fl_X12_167_X12 (by decide) (mc_97 k _) rfl dX12_runsGuarded_223 226 rfl ?_
              refine mm_aload_n C dX12_runsGuarded_226 rfl 0 rfl 227 rfl ?_
              refine mm_aload_n C dX12_runsGuarded_227 rfl 0 rfl 228 rfl ?_
              refine mm_get C fl_X12_50_X12 (by decide) (mc_97 k _) rfl dX12_runsGuarded_228 231 rfl ?_
              refine mm_iconst (v := (0 : Int32)) C dX12_runsGuarded_231 (by decide) 232 rfl ?_
              obtain ⟨x29, ex29, h⟩ := mb h
              refine mm_iald C ex29 dX12_runsGuarded_232 233 rfl ?_
              refine mm_aload_n C dX12_runsGuarded_233 rfl 0 rfl 234 rfl ?_
              refine mm_get C fl_X12_50_X12 (by decide) (mc_97 k _) rfl dX12_runsGuarded_234 237 rfl ?_
              refine mm_iconst (v := (1 : Int32)) C dX12_runsGuarded_237 (by decide) 238 rfl ?_
              obtain ⟨x30, ex30, h⟩ := mb h
              refine mm_iald C ex30 dX12_runsGuarded_238 239 rfl ?_
              refine mm_aload_n C dX12_runsGuarded_239 rfl 0 rfl 240 rfl ?_
              refine mm_get C fl_X12_50_X12 (by decide) (mc_97 k _) rfl dX12_runsGuarded_240 243 rfl ?_
              refine mm_iconst (v := (2 : Int32)) C dX12_runsGuarded_243 (by decide) 244 rfl ?_
              obtain ⟨x31, ex31, h⟩ := mb h
              refine mm_iald C ex31 dX12_runsGuarded_244 245 rfl ?_
              refine mm_aload_n C dX12_runsGuarded_245 rfl 0 rfl 246 rfl ?_
              refine mm_get C fl_X12_35_X12 (by decide) (mc_97 k _) rfl dX12_runsGuarded_246 249 rfl ?_
              refine mm_iconst (v := (0 : Int32)) C dX12_runsGuarded_249 (by decide) 250 rfl ?_
              obtain ⟨x32, ex32, h⟩ := mb h
              refine mm_iald C ex32 dX12_runsGuarded_250 251 rfl ?_
              refine mm_aload_n C dX12_runsGuarded_251 rfl 0 rfl 252 rfl ?_
              refine mm_get C fl_X12_35_X12 (by decide) (mc_97 k _) rfl dX12_runsGuarded_252 255 rfl ?_
              refine mm_iconst (v := (1 : Int32)) C dX12_runsGuarded_255 (by decide) 256 rfl ?_
              obtain ⟨x33, ex33, h⟩ := mb h
              refine mm_iald C ex33 dX12_runsGuarded_256 257 rfl ?_
              refine mm_aload_n C dX12_runsGuarded_257 rfl 0 rfl 258 rfl ?_
              refine mm_get C fl_X12_35_X12 (by decide) (mc_97 k _) rfl dX12_runsGuarded_258 261 rfl ?_
              refine mm_iconst (v := (2 : Int32)) C dX12_runsGuarded_261 (by decide) 262 rfl ?_
              obtain ⟨x34, ex34, h⟩ := mb h
              refine mm_iald C ex34 dX12_runsGuarded_262 263 rfl ?_
              obtain ⟨x35, ex35, h⟩ := mb h
              refine mm_callV [.int x29, .int x30, .int x31, .int x32, .int x33, .int x34] C (c_X12_least_97 ex35) wb_X12_least wv_X12_132 (by decide) (mc_97 k _) rfl rfl rfl (by omega) rfl (Nat.le_of_ble_eq_true rfl) dX12_runsGuarded_263 266 rfl ?_
              show mm_AW z k 5 none F1 G28 266 [(0, .ref (mmad k 97)), (1, .int a1), (2, .int x16), (3, .int x21), (4, .int v9)] [.int x35, .int (G28 97 19), .ref (mmad k 97)]
              refine mm_iadd C dX12_runsGuarded_266 267 rfl ?_
              obtain ⟨G36, eG36, h⟩ := me h
              refine mm_put (x := ((G28 97 19) + x35)) (ty := .int) C fl_X12_167_X12 (by decide) (mc_97 k _) (mc_97 k _) tyX12 tyX12_ok nmX12 rfl (by decide +kernel) rfl rfl (Nat.le_of_ble_eq_true rfl) eG36 dX12_runsGuarded_267 270 rfl ?_
              refine mm_aload_n C dX12_runsGuarded_270 rfl 0 rfl 271 rfl ?_
              refine mm_get C fl_X12_35_X12 (by decide) (mc_97 k _) rfl dX12_runsGuarded_271 274 rfl ?_
              refine mm_aload_n C dX12_runsGuarded_274 rfl 0 rfl 275 rfl ?_
              refine mm_get C fl_X12_50_X12 (by decide) (mc_97 k _) rfl dX12_runsGuarded_275 278 rfl ?_
              obtain ⟨G37, eG37, h⟩ := mb h
              refine mm_callS [.ref (mmad k 103), .ref (mmad k 108)] C (c_X12_keep_103_108 eG37) wb_X12_keep ws_X12_170 rfl (by omega) rfl (Nat.le_of_ble_eq_true rfl) dX12_runsGuarded_278 281 rfl ?_
              show mm_AW z k 5 none F1 G37 281 [(0, .ref (mmad k 97)), (1, .int a1), (2, .int x16), (3, .int x21), (4, .int v9)] []
              obtain ⟨x38, ex38, h⟩ := me h
              refine mm_iinc (v := x38) (lv2 := [(4, .int x38), (0, .ref (mmad k 97)), (1, .int a1), (2, .int x16), (3, .int x21)]) C dX12_runsGuarded_281 4 rfl (by rw [← ex38]; rfl) (by decide) rfl 284 rfl ?_
              refine mm_goto C dX12_runsGuarded_284 54 (by decide) ?_
              refine mm_lv [1, 2, 3, 4, 0] rfl ?_
              exact ih _ _ _ _ h
            · rw [if_neg hq107] at h
              by_cases hq106 : y27 = 106
              · rw [if_pos hq106] at h
                subst hq106
                obtain ⟨G39, eG39, h⟩ := mb h
                refine mm_callS [.ref (mmad k 106), .ref (mmad k 103)] C (c_X12_keep_106_103 eG39) wb_X12_keep ws_X12_170 rfl (by omega) rfl (Nat.le_of_ble_eq_true rfl) dX12_runsGuarded_218 221 rfl ?_
                show mm_AW z k 5 none F1 G39 221 [(0, .ref (mmad k 97)), (1, .int a1), (2, .int x16), (3, .int x21), (4, .int v9)] []
                refine mm_aload_n C dX12_runsGuarded_221 rfl 0 rfl 222 rfl ?_
                refine mm_dup C dX12_runsGuarded_222 rfl 223 rfl ?_
                refine mm_get C fl_X12_167_X12 (by decide) (mc_97 k _) rfl dX12_runsGuarded_223 226 rfl ?_
                refine mm_aload_n C dX12_runsGuarded_226 rfl 0 rfl 227 rfl ?_
                refine mm_aload_n C dX12_runsGuarded_227 rfl 0 rfl 228 rfl ?_
                refine mm_get C fl_X12_50_X12 (by decide) (mc_97 k _) rfl dX12_runsGuarded_228 231 rfl ?_
                refine mm_iconst (v := (0 : Int32)) C dX12_runsGuarded_231 (by decide) 232 rfl ?_
                obtain ⟨x40, ex40, h⟩ := mb h
                refine mm_iald C ex40 dX12_runsGuarded_232 233 rfl ?_
                refine mm_aload_n C dX12_runsGuarded_233 rfl 0 rfl 234 rfl ?_
                refine mm_get C fl_X12_50_X12 (by decide) (mc_97 k _) rfl dX12_runsGuarded_234 237 rfl ?_
                refine mm_iconst (v := (1 : Int32)) C dX12_runsGuarded_237 (by decide) 238 rfl ?_
                obtain ⟨x41, ex41, h⟩ := mb h
                refine mm_iald C ex41 dX12_runsGuarded_238 239 rfl ?_
                refine mm_aload_n C dX12_runsGuarded_239 rfl 0 rfl 240 rfl ?_
                refine mm_get C fl_X12_50_X12 (by decide) (mc_97 k _) rfl dX12_runsGuarded_240 243 rfl ?_
                refine mm_iconst (v := (2 : Int32)) C dX12_runsGuarded_243 (by decide) 244 rfl ?_
                obtain ⟨x42, ex42, h⟩ := mb h
                refine mm_iald C ex42 dX12_runsGuarded_244 245 rfl ?_
                refine mm_aload_n C dX12_runsGuarded_245 rfl 0 rfl 246 rfl ?_
                refine mm_get C fl_X12_35_X12 (by decide) (mc_97 k _) rfl dX12_runsGuarded_246 249 rfl ?_
                refine mm_iconst (v := (0 : Int32)) C dX12_runsGuarded_249 (by decide) 250 rfl ?_
                obtain ⟨x43, ex43, h⟩ := mb h
                refine mm_iald C ex43 dX12_runsGuarded_250 251 rfl ?_
                refine mm_aload_n C dX12_runsGuarded_251 rfl 0 rfl 252 rfl ?_
                refine mm_get C fl_X12_35_X12 (by decide) (mc_97 k _) rfl dX12_runsGuarded_252 255 rfl ?_
                refine mm_iconst (v := (1 : Int32)) C dX12_runsGuarded_255 (by decide) 256 rfl ?_
                obtain ⟨x44, ex44, h⟩ := mb h
                refine mm_iald C ex44 dX12_runsGuarded_256 257 rfl ?_
                refine mm_aload_n C dX12_runsGuarded_257 rfl 0 rfl 258 rfl ?_
                refine mm_get C fl_X12_35_X12 (by decide) (mc_97 k _) rfl dX12_runsGuarded_258 261 rfl ?_
                refine mm_iconst (v := (2 : Int32)) C dX12_runsGuarded_261 (by decide) 262 rfl ?_
                obtain ⟨x45, ex45, h⟩ := mb h
                refine mm_iald C ex45 dX12_runsGuarded_262 263 rfl ?_
                obtain ⟨x46, ex46, h⟩ := mb h
                refine mm_callV [.int x40, .int x41, .int x42, .int x43, .int x44, .int x45] C (c_X12_least_97 ex46) wb_X12_least wv_X12_132 (by decide) (mc_97 k _) rfl rfl rfl (by omega) rfl (Nat.le_of_ble_eq_true rfl) dX12_runsGuarded_263 266 rfl ?_
                show mm_AW z k 5 none F1 G39 266 [(0, .ref (mmad k 97)), (1, .int a1), (2, .int x16), (3, .int x21), (4, .int v9)] [.int x46, .int (G39 97 19), .ref (mmad k 97)]
                refine mm_iadd C dX12_runsGuarded_266 267 rfl ?_
                obtain ⟨G47, eG47, h⟩ := me h
                refine mm_put (x := ((G39 97 19) + x46)) (ty := .int) C fl_X12_167_X12 (by decide) (mc_97 k _) (mc_97 k _) tyX12 tyX12_ok nmX12 rfl (by decide +kernel) rfl rfl (Nat.le_of_ble_eq_true rfl) eG47 dX12_runsGuarded_267 270 rfl ?_
                refine mm_aload_n C dX12_runsGuarded_270 rfl 0 rfl 271 rfl ?_
                refine mm_get C fl_X12_35_X12 (by decide) (mc_97 k _) rfl dX12_runsGuarded_271 274 rfl ?_
                refine mm_aload_n C dX12_runsGuarded_274 rfl 0 rfl 275 rfl ?_
                refine mm_get C fl_X12_50_X12 (by decide) (mc_97 k _) rfl dX12_runsGuarded_275 278 rfl ?_
                obtain ⟨G48, eG48, h⟩ := mb h
                refine mm_callS [.ref (mmad k 103), .ref (mmad k 108)] C (c_X12_keep_103_108 eG48) wb_X12_keep ws_X12_170 rfl (by omega) rfl (Nat.le_of_ble_eq_true rfl) dX12_runsGuarded_278 281 rfl ?_
                show mm_AW z k 5 none F1 G48 281 [(0, .ref (mmad k 97)), (1, .int a1), (2, .int x16), (3, .int x21), (4, .int v9)] []
                obtain ⟨x49, ex49, h⟩ := me h
                refine mm_iinc (v := x49) (lv2 := [(4, .int x49), (0, .ref (mmad k 97)), (1, .int a1), (2, .int x16), (3, .int x21)]) C dX12_runsGuarded_281 4 rfl (by rw [← ex49]; rfl) (by decide) rfl 284 rfl ?_
                refine mm_goto C dX12_runsGuarded_284 54 (by decide) ?_
                refine mm_lv [1, 2, 3, 4, 0] rfl ?_
                exact ih _ _ _ _ h
              · rw [if_neg hq106] at h
                cases h
          · intro K2 hR214 h
            refine mm_icmp_ne C dX12_runsGuarded_200 210 203 (by decide) rfl (fun hc => ?_) (fun hc => ?_)
            · rw [if_neg hc] at h
              refine mm_aload_n C dX12_runsGuarded_210 rfl 0 rfl 211 rfl ?_
              refine mm_get C fl_X12_47_X12 (by decide) (mc_97 k _) rfl dX12_runsGuarded_211 214 rfl ?_
              exact hR214 _ h
            · rw [if_pos hc] at h
              refine mm_aload_n C dX12_runsGuarded_203 rfl 0 rfl 204 rfl ?_
              refine mm_get C fl_X12_44_X12 (by decide) (mc_97 k _) rfl dX12_runsGuarded_204 207 rfl ?_
              refine mm_goto C dX12_runsGuarded_207 214 (by decide) ?_
              exact hR214 _ h
        · intro K2 hR195 h
          refine mm_icmp_ne C dX12_runsGuarded_151 172 154 (by decide) rfl (fun hc => ?_) (fun hc => ?_)
          · rw [if_neg hc] at h
            refine mm_aload_n C dX12_runsGuarded_172 rfl 2 rfl 173 rfl ?_
            refine mm_get C fl_X12_164_X12 (by decide) (mc_97 k _) rfl dX12_runsGuarded_173 176 rfl ?_
            refine mm_iconst (v := (1 : Int32)) C dX12_runsGuarded_176 (by decide) 177 rfl ?_
            refine mm_icmp_ne C dX12_runsGuarded_177 195 180 (by decide) rfl (fun hc => ?_) (fun hc => ?_)
            · rw [if_neg hc] at h
              refine mm_lv [2, 3, 1, 0, 4] rfl ?_
              exact hR195 _ h
            · rw [if_pos hc] at h
              refine mm_iload_n C dX12_runsGuarded_180 rfl 1 rfl 181 rfl ?_
              refine mm_aload_n C dX12_runsGuarded_181 rfl 2 rfl 182 rfl ?_
              refine mm_get C fl_X12_23_X12 (by decide) (mc_97 k _) rfl dX12_runsGuarded_182 185 rfl ?_
              refine mm_iload_n C dX12_runsGuarded_185 rfl 0 rfl 186 rfl ?_
              refine mm_imul C dX12_runsGuarded_186 187 rfl ?_
              refine mm_icmp_le C dX12_runsGuarded_187 195 190 (by decide) rfl (fun hc => ?_) (fun hc => ?_)
              · rw [if_pos hc] at h
                refine mm_lv [2, 3, 1, 0, 4] rfl ?_
                exact hR195 _ h
              · rw [if_neg hc] at h
                refine mm_aload_n C dX12_runsGuarded_190 rfl 2 rfl 191 rfl ?_
                refine mm_iconst (v := (3 : Int32)) C dX12_runsGuarded_191 (by decide) 192 rfl ?_
                obtain ⟨G23, eG23, h⟩ := me h
                refine mm_put (x := (3 : Int32)) (ty := .int) C fl_X12_164_X12 (by decide) (mc_97 k _) (mc_97 k _) tyX12 tyX12_ok nmX12 rfl (by decide +kernel) rfl rfl (Nat.le_of_ble_eq_true rfl) eG23 dX12_runsGuarded_192 195 rfl ?_
                refine mm_lv [2, 3, 1, 0, 4] rfl ?_
                exact hR195 _ h
          · rw [if_pos hc] at h
            refine mm_iload_n C dX12_runsGuarded_154 rfl 0 rfl 155 rfl ?_
            refine mm_aload_n C dX12_runsGuarded_155 rfl 2 rfl 156 rfl ?_
            refine mm_get C fl_X12_23_X12 (by decide) (mc_97 k _) rfl dX12_runsGuarded_156 159 rfl ?_
            refine mm_iload_n C dX12_runsGuarded_159 rfl 1 rfl 160 rfl ?_
            refine mm_imul C dX12_runsGuarded_160 161 rfl ?_
            refine mm_icmp_le C dX12_runsGuarded_161 172 164 (by decide) rfl (fun hc => ?_) (fun hc => ?_)
            · rw [if_pos hc] at h
              refine mm_aload_n C dX12_runsGuarded_172 rfl 2 rfl 173 rfl ?_
              refine mm_get C fl_X12_164_X12 (by decide) (mc_97 k _) rfl dX12_runsGuarded_173 176 rfl ?_
              refine mm_iconst (v := (1 : Int32)) C dX12_runsGuarded_176 (by decide) 177 rfl ?_
              refine mm_icmp_ne C dX12_runsGuarded_177 195 180 (by decide) rfl (fun hc => ?_) (fun hc => ?_)
              · rw [if_neg hc] at h
                refine mm_lv [2, 3, 1, 0, 4] rfl ?_
                exact hR195 _ h
              · rw [if_pos hc] at h
                refine mm_iload_n C dX12_runsGuarded_180 rfl 1 rfl 181 rfl ?_
                refine mm_aload_n C dX12_runsGuarded_181 rfl 2 rfl 182 rfl ?_
                refine mm_get C fl_X12_23_X12 (by decide) (mc_97 k _) rfl dX12_runsGuarded_182 185 rfl ?_
                refine mm_iload_n C dX12_runsGuarded_185 rfl 0 rfl 186 rfl ?_
                refine mm_imul C dX12_runsGuarded_186 187 rfl ?_
                refine mm_icmp_le C dX12_runsGuarded_187 195 190 (by decide) rfl (fun hc => ?_) (fun hc => ?_)
                · rw [if_pos hc] at h
                  refine mm_lv [2, 3, 1, 0, 4] rfl ?_
                  exact hR195 _ h
                · rw [if_neg hc] at h
                  refine mm_aload_n C dX12_runsGuarded_190 rfl 2 rfl 191 rfl ?_
                  refine mm_iconst (v := (3 : Int32)) C dX12_runsGuarded_191 (by decide) 192 rfl ?_
                  obtain ⟨G24, eG24, h⟩ := me h
                  refine mm_put (x := (3 : Int32)) (ty := .int) C fl_X12_164_X12 (by decide) (mc_97 k _) (mc_97 k _) tyX12 tyX12_ok nmX12 rfl (by decide +kernel) rfl rfl (Nat.le_of_ble_eq_true rfl) eG24 dX12_runsGuarded_192 195 rfl ?_
                  refine mm_lv [2, 3, 1, 0, 4] rfl ?_
                  exact hR195 _ h
            · rw [if_neg hc] at h
              refine mm_aload_n C dX12_runsGuarded_164 rfl 2 rfl 165 rfl ?_
              refine mm_iconst (v := (1 : Int32)) C dX12_runsGuarded_165 (by decide) 166 rfl ?_
              obtain ⟨G25, eG25, h⟩ := me h
              refine mm_put (x := (1 : Int32)) (ty := .int) C fl_X12_164_X12 (by decide) (mc_97 k _) (mc_97 k _) tyX12 tyX12_ok nmX12 rfl (by decide +kernel) rfl rfl (Nat.le_of_ble_eq_true rfl) eG25 dX12_runsGuarded_166 169 rfl ?_
              refine mm_goto C dX12_runsGuarded_169 195 (by decide) ?_
              refine mm_lv [2, 3, 1, 0, 4] rfl ?_
              exact hR195 _ h
  refine mj1 h (fun (G50 : mmS) => mm_AW z k 5 none F1 G50 287 [] []) ?_ ?_
  · intro G50 h
    exact mm_vretW C (h) dX12_runsGuarded_287
  · intro K2 hR h
    exact hL54 K2 hR 300 _ _ _ _ h
def m_X12_costOf_97 (F : mmS) (a1 : Int32) : Option (Int32 × mmS) :=
  if a1 = (4 : Int32) then (Option.bind (m_X12_runsGuarded_97 F (F 97 5)) fun G2 => some ((G2 97 19), G2)) else (Option.bind (m_X12_runs_97 F a1 (F 97 5)) fun G1 => some ((G1 97 11), G1))
set_option maxHeartbeats 4000000 in
set_option maxRecDepth 100000 in
theorem c_X12_costOf_97 {l : Launch} {k : mmK} {F : mmS} {a1 : Int32} {r : Int32} {F1 : mmS} (h : m_X12_costOf_97 F a1 = some (r, F1)) : mm_T l k yX12_costOf cX12_costOf 2 (some .int) 6 [.ref (mmad k 97), .int a1] F (some (.int r)) F1 := by
  refine mm_start [(0, .ref (mmad k 97)), (1, .int a1)] (by decide) (Nat.le_of_ble_eq_true rfl) rfl ?_
  intro z hz C
  subst hz
  have C : mm_C z k RX12 cX12_costOf 2 (some .int) 6 := C
  replace h := mk0 h
  unfold m_X12_costOf_97 at h
  refine mm_iload_n C dX12_costOf_0 rfl 1 rfl 1 rfl ?_
  refine mm_iconst (v := (4 : Int32)) C dX12_costOf_1 (by decide) 2 rfl ?_
  refine mm_icmp_ne C dX12_costOf_2 18 5 (by decide) rfl (fun hc => ?_) (fun hc => ?_)
  · rw [if_neg hc] at h
    refine mm_aload_n C dX12_costOf_18 rfl 0 rfl 19 rfl ?_
    refine mm_iload_n C dX12_costOf_19 rfl 1 rfl 20 rfl ?_
    refine mm_aload_n C dX12_costOf_20 rfl 0 rfl 21 rfl ?_
    refine mm_get C fl_X12_77_X12 (by decide) (mc_97 k _) rfl dX12_costOf_21 24 rfl ?_
    obtain ⟨G1, eG1, h⟩ := mb h
    refine mm_callV [.int a1, .int (F 97 5)] C (c_X12_runs_97 eG1) wb_X12_runs wv_X12_177 (by decide) (mc_97 k _) rfl rfl rfl (by omega) rfl (Nat.le_of_ble_eq_true rfl) dX12_costOf_24 27 rfl ?_
    show mm_AW z k 2 (some (.int r)) F1 G1 27 [(0, .ref (mmad k 97)), (1, .int a1)] []
    refine mm_aload_n C dX12_costOf_27 rfl 0 rfl 28 rfl ?_
    refine mm_get C fl_X12_115_X12 (by decide) (mc_97 k _) rfl dX12_costOf_28 31 rfl ?_
    exact mm_iretW C (h) dX12_costOf_31
  · rw [if_pos hc] at h
    refine mm_aload_n C dX12_costOf_5 rfl 0 rfl 6 rfl ?_
    refine mm_aload_n C dX12_costOf_6 rfl 0 rfl 7 rfl ?_
    refine mm_get C fl_X12_77_X12 (by decide) (mc_97 k _) rfl dX12_costOf_7 10 rfl ?_
    obtain ⟨G2, eG2, h⟩ := mb h
    refine mm_callV [.int (F 97 5)] C (c_X12_runsGuarded_97 eG2) wb_X12_runsGuarded wv_X12_174 (by decide) (mc_97 k _) rfl rfl rfl (by omega) rfl (Nat.le_of_ble_eq_true rfl) dX12_costOf_10 13 rfl ?_
    show mm_AW z k 2 (some (.int r)) F1 G2 13 [(0, .ref (mmad k 97)), (1, .int a1)] []
    refine mm_aload_n C dX12_costOf_13 rfl 0 rfl 14 rfl ?_
    refine mm_get C fl_X12_167_X12 (by decide) (mc_97 k _) rfl dX12_costOf_14 17 rfl ?_
    exact mm_iretW C (h) dX12_costOf_17
def m_X12_cost_97 (F : mmS) (a1 : Int32) : Option (Int32 × mmS) :=
  Option.bind (m_X12_in a1 (0 : Int32) (4 : Int32)) fun x1 => if x1 = (0 : Int32) then (some ((-2 : Int32), F)) else (bd2 (m_X12_reads_97 F) fun x2 G3 => if x2 = (0 : Int32) then (some ((-11 : Int32), G3)) else (bd2 (m_X12_costOf_97 G3 a1) fun x4 G5 => some (x4, G5)))
set_option maxHeartbeats 4000000 in
set_option maxRecDepth 100000 in
theorem c_X12_cost_97 {l : Launch} {k : mmK} {F : mmS} {a1 : Int32} {r : Int32} {F1 : mmS} (h : m_X12_cost_97 F a1 = some (r, F1)) : mm_T l k yX12_cost cX12_cost 2 (some .int) 7 [.ref (mmad k 97), .int a1] F (some (.int r)) F1 := by
  refine mm_start [(0, .ref (mmad k 97)), (1, .int a1)] (by decide) (Nat.le_of_ble_eq_true rfl) rfl ?_
  intro z hz C
  subst hz
  have C : mm_C z k RX12 cX12_cost 2 (some .int) 7 := C
  replace h := mk0 h
  unfold m_X12_cost_97 at h
  refine mm_iload_n C dX12_cost_0 rfl 1 rfl 1 rfl ?_
  refine mm_iconst (v := (0 : Int32)) C dX12_cost_1 (by decide) 2 rfl ?_
  refine mm_iconst (v := (4 : Int32)) C dX12_cost_2 (by decide) 3 rfl ?_
  obtain ⟨x1, ex1, h⟩ := mb h
  refine mm_callS [.int a1, .int (0 : Int32), .int (4 : Int32)] C (c_X12_in ex1) wb_X12_in ws_X12_69 rfl (by omega) rfl (Nat.le_of_ble_eq_true rfl) dX12_cost_3 6 rfl ?_
  show mm_AW z k 2 (some (.int r)) F1 F 6 [(0, .ref (mmad k 97)), (1, .int a1)] [.int x1]
  refine mm_if_ne C dX12_cost_6 12 9 (by decide) rfl (fun hc => ?_) (fun hc => ?_)
  · rw [if_neg hc] at h
    refine mm_aload_n C dX12_cost_12 rfl 0 rfl 13 rfl ?_
    obtain ⟨x2, G3, ex2, h⟩ := mb2 h
    refine mm_callV [] C (c_X12_reads_97 ex2) wb_X12_reads wv_X12_83 (by decide) (mc_97 k _) rfl rfl rfl (by omega) rfl (Nat.le_of_ble_eq_true rfl) dX12_cost_13 16 rfl ?_
    show mm_AW z k 2 (some (.int r)) F1 G3 16 [(0, .ref (mmad k 97)), (1, .int a1)] [.int x2]
    refine mm_if_eq C dX12_cost_16 27 19 (by decide) rfl (fun hc => ?_) (fun hc => ?_)
    · rw [if_pos hc] at h
      refine mm_bipush (v := (-11 : Int32)) C dX12_cost_27 (by decide) 29 rfl ?_
      exact mm_iretW C (h) dX12_cost_29
    · rw [if_neg hc] at h
      refine mm_aload_n C dX12_cost_19 rfl 0 rfl 20 rfl ?_
      refine mm_iload_n C dX12_cost_20 rfl 1 rfl 21 rfl ?_
      obtain ⟨x4, G5, ex4, h⟩ := mb2 h
      refine mm_callV [.int a1] C (c_X12_costOf_97 ex4) wb_X12_costOf wv_X12_180 (by decide) (mc_97 k _) rfl rfl rfl (by omega) rfl (Nat.le_of_ble_eq_true rfl) dX12_cost_21 24 rfl ?_
      show mm_AW z k 2 (some (.int r)) F1 G5 24 [(0, .ref (mmad k 97)), (1, .int a1)] [.int x4]
      refine mm_goto C dX12_cost_24 29 (by decide) ?_
      exact mm_iretW C (h) dX12_cost_29
  · rw [if_pos hc] at h
    refine mm_bipush (v := (-2 : Int32)) C dX12_cost_9 (by decide) 11 rfl ?_
    exact mm_iretW C (h) dX12_cost_11
def m_X12_stands_97 (F : mmS) (a1 : Int32) (a2 : Int32) (a3 : Int32) : Option (Int32 × mmS) :=
  Option.bind (m_X12_in a1 (0 : Int32) (3 : Int32)) fun x1 => if x1 = (0 : Int32) then (some ((-2 : Int32), F)) else (Option.bind (m_X12_in a2 (0 : Int32) ((F 97 2) - (1 : Int32))) fun x2 => if x2 = (0 : Int32) then (some ((-2 : Int32), F)) else (Option.bind (m_X12_in a3 (0 : Int32) (40 : Int32)) fun x3 => if x3 = (0 : Int32) then (some ((-2 : Int32), F)) else (bd2 (m_X12_reads_97 F) fun x4 G5 => if x4 = (0 : Int32) then (some ((-11 : Int32), G5)) else (Option.bind (m_X12_runs_97 G5 a1 a3) fun G6 => Option.bind (ald G6 103 a2) fun x7 => some (x7, G6)))))
set_option maxHeartbeats 4000000 in
set_option maxRecDepth 100000 in
theorem c_X12_stands_97 {l : Launch} {k : mmK} {F : mmS} {a1 : Int32} {a2 : Int32} {a3 : Int32} {r : Int32} {F1 : mmS} (h : m_X12_stands_97 F a1 a2 a3 = some (r, F1)) : mm_T l k yX12_stands cX12_stands 4 (some .int) 6 [.ref (mmad k 97), .int a1, .int a2, .int a3] F (some (.int r)) F1 := by
  refine mm_start [(0, .ref (mmad k 97)), (1, .int a1), (2, .int a2), (3, .int a3)] (by decide) (Nat.le_of_ble_eq_true rfl) rfl ?_
  intro z hz C
  subst hz
  have C : mm_C z k RX12 cX12_stands 4 (some .int) 6 := C
  replace h := mk0 h
  unfold m_X12_stands_97 at h
  refine mm_iload_n C dX12_stands_0 rfl 1 rfl 1 rfl ?_
  refine mm_iconst (v := (0 : Int32)) C dX12_stands_1 (by decide) 2 rfl ?_
  refine mm_iconst (v := (3 : Int32)) C dX12_stands_2 (by decide) 3 rfl ?_
  obtain ⟨x1, ex1, h⟩ := mb h
  refine mm_callS [.int a1, .int (0 : Int32), .int (3 : Int32)] C (c_X12_in ex1) wb_X12_in ws_X12_69 rfl (by omega) rfl (Nat.le_of_ble_eq_true rfl) dX12_stands_3 6 rfl ?_
  show mm_AW z k 4 (some (.int r)) F1 F 6 [(0, .ref (mmad k 97)), (1, .int a1), (2, .int a2), (3, .int a3)] [.int x1]
  refine mm_if_eq C dX12_stands_6 33 9 (by decide) rfl (fun hc => ?_) (fun hc => ?_)
  · rw [if_pos hc] at h
    refine mm_bipush (v := (-2 : Int32)) C dX12_stands_33 (by decide) 35 rfl ?_
    exact mm_iretW C (h) dX12_stands_35
  · rw [if_neg hc] at h
    refine mm_iload_n C dX12_stands_9 rfl 2 rfl 10 rfl ?_
    refine mm_iconst (v := (0 : Int32)) C dX12_stands_10 (by decide) 11 rfl ?_
    refine mm_aload_n C dX12_stands_11 rfl 0 rfl 12 rfl ?_
    refine mm_get C fl_X12_17_X12 (by decide) (mc_97 k _) rfl dX12_stands_12 15 rfl ?_
    refine mm_iconst (v := (1 : Int32)) C dX12_stands_15 (by decide) 16 rfl ?_
    refine mm_isub C dX12_stands_16 17 rfl ?_
    obtain ⟨x2, ex2, h⟩ := mb h
    refine mm_callS [.int a2, .int (0 : Int32), .int ((F 97 2) - (1 : Int32))] C (c_X12_in ex2) wb_X12_in ws_X12_69 rfl (by omega) rfl (Nat.le_of_ble_eq_true rfl) dX12_stands_17 20 rfl ?_
    show mm_AW z k 4 (some (.int r)) F1 F 20 [(0, .ref (mmad k 97)), (1, .int a1), (2, .int a2), (3, .int a3)] [.int x2]
    refine mm_if_eq C dX12_stands_20 33 23 (by decide) rfl (fun hc => ?_) (fun hc => ?_)
    · rw [if_pos hc] at h
      refine mm_bipush (v := (-2 : Int32)) C dX12_stands_33 (by decide) 35 rfl ?_
      exact mm_iretW C (h) dX12_stands_35
    · rw [if_neg hc] at h
      refine mm_iload_n C dX12_stands_23 rfl 3 rfl 24 rfl ?_
      refine mm_iconst (v := (0 : Int32)) C dX12_stands_24 (by decide) 25 rfl ?_
      refine mm_bipush (v := (40 : Int32)) C dX12_stands_25 (by decide) 27 rfl ?_
      obtain ⟨x3, ex3, h⟩ := mb h
      refine mm_callS [.int a3, .int (0 : Int32), .int (40 : Int32)] C (c_X12_in ex3) wb_X12_in ws_X12_69 rfl (by omega) rfl (Nat.le_of_ble_eq_true rfl) dX12_stands_27 30 rfl ?_
      show mm_AW z k 4 (some (.int r)) F1 F 30 [(0, .ref (mmad k 97)), (1, .int a1), (2, .int a2), (3, .int a3)] [.int x3]
      refine mm_if_ne C dX12_stands_30 36 33 (by decide) rfl (fun hc => ?_) (fun hc => ?_)
      · rw [if_neg hc] at h
        refine mm_aload_n C dX12_stands_36 rfl 0 rfl 37 rfl ?_
        obtain ⟨x4, G5, ex4, h⟩ := mb2 h
        refine mm_callV [] C (c_X12_reads_97 ex4) wb_X12_reads wv_X12_83 (by decide) (mc_97 k _) rfl rfl rfl (by omega) rfl (Nat.le_of_ble_eq_true rfl) dX12_stands_37 40 rfl ?_
        show mm_AW z k 4 (some (.int r)) F1 G5 40 [(0, .ref (mmad k 97)), (1, .int a1), (2, .int a2), (3, .int a3)] [.int x4]
        refine mm_if_ne C dX12_stands_40 46 43 (by decide) rfl (fun hc => ?_) (fun hc => ?_)
        · rw [if_neg hc] at h
          refine mm_aload_n C dX12_stands_46 rfl 0 rfl 47 rfl ?_
          refine mm_iload_n C dX12_stands_47 rfl 1 rfl 48 rfl ?_
          refine mm_iload_n C dX12_stands_48 rfl 3 rfl 49 rfl ?_
          obtain ⟨G6, eG6, h⟩ := mb h
          refine mm_callV [.int a1, .int a3] C (c_X12_runs_97 eG6) wb_X12_runs wv_X12_177 (by decide) (mc_97 k _) rfl rfl rfl (by omega) rfl (Nat.le_of_ble_eq_true rfl) dX12_stands_49 52 rfl ?_
          show mm_AW z k 4 (some (.int r)) F1 G6 52 [(0, .ref (mmad k 97)), (1, .int a1), (2, .int a2), (3, .int a3)] []
          refine mm_aload_n C dX12_stands_52 rfl 0 rfl 53 rfl ?_
          refine mm_get C fl_X12_35_X12 (by decide) (mc_97 k _) rfl dX12_stands_53 56 rfl ?_
          refine mm_iload_n C dX12_stands_56 rfl 2 rfl 57 rfl ?_
          obtain ⟨x7, ex7, h⟩ := mb h
          refine mm_iald C ex7 dX12_stands_57 58 rfl ?_
          exact mm_iretW C (h) dX12_stands_58
        · rw [if_pos hc] at h
          refine mm_bipush (v := (-11 : Int32)) C dX12_stands_43 (by decide) 45 rfl ?_
          exact mm_iretW C (h) dX12_stands_45
      · rw [if_pos hc] at h
        refine mm_bipush (v := (-2 : Int32)) C dX12_stands_33 (by decide) 35 rfl ?_
        exact mm_iretW C (h) dX12_stands_35
def m_X12_goes_97 (F : mmS) (a1 : Int32) (a2 : Int32) : Option (Int32 × mmS) :=
  if a1 = (0 : Int32) then (Option.bind (m_X12_in a2 (0 : Int32) (39 : Int32)) fun x1 => if x1 = (0 : Int32) then (some ((-2 : Int32), F)) else (bd2 (m_X12_reads_97 F) fun x2 G3 => if x2 = (0 : Int32) then (some ((-11 : Int32), G3)) else (if a2 < (G3 97 5) then (Option.bind (m_X12_runs_97 G3 a1 (a2 + (1 : Int32))) fun G4 => some ((G4 97 12), G4)) else (some ((-1 : Int32), G3))))) else (if a1 = (2 : Int32) then (Option.bind (m_X12_in a2 (0 : Int32) (39 : Int32)) fun x5 => if x5 = (0 : Int32) then (some ((-2 : Int32), F)) else (bd2 (m_X12_reads_97 F) fun x6 G7 => if x6 = (0 : Int32) then (some ((-11 : Int32), G7)) else (if a2 < (G7 97 5) then (Option.bind (m_X12_runs_97 G7 a1 (a2 + (1 : Int32))) fun G8 => some ((G8 97 12), G8)) else (some ((-1 : Int32), G7))))) else (if a1 = (3 : Int32) then (Option.bind (m_X12_in a2 (0 : Int32) (39 : Int32)) fun x9 => if x9 = (0 : Int32) then (some ((-2 : Int32), F)) else (bd2 (m_X12_reads_97 F) fun x10 G11 => if x10 = (0 : Int32) then (some ((-11 : Int32), G11)) else (if a2 < (G11 97 5) then (Option.bind (m_X12_runs_97 G11 a1 (a2 + (1 : Int32))) fun G12 => some ((G12 97 12), G12)) else (some ((-1 : Int32), G11))))) else (some ((-2 : Int32), F))))
set_option maxHeartbeats 4000000 in
set_option maxRecDepth 100000 in
theorem c_X12_goes_97 {l : Launch} {k : mmK} {F : mmS} {a1 : Int32} {a2 : Int32} {r : Int32} {F1 : mmS} (h : m_X12_goes_97 F a1 a2 = some (r, F1)) : mm_T l k yX12_goes cX12_goes 3 (some .int) 6 [.ref (mmad k 97), .int a1, .int a2] F (some (.int r)) F1 := by
  refine mm_start [(0, .ref (mmad k 97)), (1, .int a1), (2, .int a2)] (by decide) (Nat.le_of_ble_eq_true rfl) rfl ?_
  intro z hz C
  subst hz
  have C : mm_C z k RX12 cX12_goes 3 (some .int) 6 := C
  replace h := mk0 h
  unfold m_X12_goes_97 at h
  refine mm_iload_n C dX12_goes_0 rfl 1 rfl 1 rfl ?_
  refine mm_if_eq C dX12_goes_1 14 4 (by decide) rfl (fun hc => ?_) (fun hc => ?_)
  · rw [if_pos hc] at h
    refine mm_iload_n C dX12_goes_14 rfl 2 rfl 15 rfl ?_
    refine mm_iconst (v := (0 : Int32)) C dX12_goes_15 (by decide) 16 rfl ?_
    refine mm_bipush (v := (39 : Int32)) C dX12_goes_16 (by decide) 18 rfl ?_
    obtain ⟨x1, ex1, h⟩ := mb h
    refine mm_callS [.int a2, .int (0 : Int32), .int (39 : Int32)] C (c_X12_in ex1) wb_X12_in ws_X12_69 rfl (by omega) rfl (Nat.le_of_ble_eq_true rfl) dX12_goes_18 21 rfl ?_
    show mm_AW z k 3 (some (.int r)) F1 F 21 [(0, .ref (mmad k 97)), (1, .int a1), (2, .int a2)] [.int x1]
    refine mm_if_ne C dX12_goes_21 27 24 (by decide) rfl (fun hc => ?_) (fun hc => ?_)
    · rw [if_neg hc] at h
      refine mm_aload_n C dX12_goes_27 rfl 0 rfl 28 rfl ?_
      obtain ⟨x2, G3, ex2, h⟩ := mb2 h
      refine mm_callV [] C (c_X12_reads_97 ex2) wb_X12_reads wv_X12_83 (by decide) (mc_97 k _) rfl rfl rfl (by omega) rfl (Nat.le_of_ble_eq_true rfl) dX12_goes_28 31 rfl ?_
      show mm_AW z k 3 (some (.int r)) F1 G3 31 [(0, .ref (mmad k 97)), (1, .int a1), (2, .int a2)] [.int x2]
      refine mm_if_ne C dX12_goes_31 37 34 (by decide) rfl (fun hc => ?_) (fun hc => ?_)
      · rw [if_neg hc] at h
        refine mm_iload_n C dX12_goes_37 rfl 2 rfl 38 rfl ?_
        refine mm_aload_n C dX12_goes_38 rfl 0 rfl 39 rfl ?_
        refine mm_get C fl_X12_77_X12 (by decide) (mc_97 k _) rfl dX12_goes_39 42 rfl ?_
        refine mm_icmp_lt C dX12_goes_42 47 45 (by decide) rfl (fun hc => ?_) (fun hc => ?_)
        · rw [if_pos hc] at h
          refine mm_aload_n C dX12_goes_47 rfl 0 rfl 48 rfl ?_
          refine mm_iload_n C dX12_goes_48 rfl 1 rfl 49 rfl ?_
          refine mm_iload_n C dX12_goes_49 rfl 2 rfl 50 rfl ?_
          refine mm_iconst (v := (1 : Int32)) C dX12_goes_50 (by decide) 51 rfl ?_
          refine mm_iadd C dX12_goes_51 52 rfl ?_
          obtain ⟨G4, eG4, h⟩ := mb h
          refine mm_callV [.int a1, .int (a2 + (1 : Int32))] C (c_X12_runs_97 eG4) wb_X12_runs wv_X12_177 (by decide) (mc_97 k _) rfl rfl rfl (by omega) rfl (Nat.le_of_ble_eq_true rfl) dX12_goes_52 55 rfl ?_
          show mm_AW z k 3 (some (.int r)) F1 G4 55 [(0, .ref (mmad k 97)), (1, .int a1), (2, .int a2)] []
          refine mm_aload_n C dX12_goes_55 rfl 0 rfl 56 rfl ?_
          refine mm_get C fl_X12_118_X12 (by decide) (mc_97 k _) rfl dX12_goes_56 59 rfl ?_
          exact mm_iretW C (h) dX12_goes_59
        · rw [if_neg hc] at h
          refine mm_iconst (v := (-1 : Int32)) C dX12_goes_45 (by decide) 46 rfl ?_
          exact mm_iretW C (h) dX12_goes_46
      · rw [if_pos hc] at h
        refine mm_bipush (v := (-11 : Int32)) C dX12_goes_34 (by decide) 36 rfl ?_
        exact mm_iretW C (h) dX12_goes_36
    · rw [if_pos hc] at h
      refine mm_bipush (v := (-2 : Int32)) C dX12_goes_24 (by decide) 26 rfl ?_
      exact mm_iretW C (h) dX12_goes_26
  · rw [if_neg hc] at h
    refine mm_iload_n C dX12_goes_4 rfl 1 rfl 5 rfl ?_
    refine mm_iconst (v := (2 : Int32)) C dX12_goes_5 (by decide) 6 rfl ?_
    refine mm_icmp_eq C dX12_goes_6 14 9 (by decide) rfl (fun hc => ?_) (fun hc => ?_)
    · rw [if_pos hc] at h
      refine mm_iload_n C dX12_goes_14 rfl 2 rfl 15 rfl ?_
      refine mm_iconst (v := (0 : Int32)) C dX12_goes_15 (by decide) 16 rfl ?_
      refine mm_bipush (v := (39 : Int32)) C dX12_goes_16 (by decide) 18 rfl ?_
      obtain ⟨x5, ex5, h⟩ := mb h
      refine mm_callS [.int a2, .int (0 : Int32), .int (39 : Int32)] C (c_X12_in ex5) wb_X12_in ws_X12_69 rfl (by omega) rfl (Nat.le_of_ble_eq_true rfl) dX12_goes_18 21 rfl ?_
      show mm_AW z k 3 (some (.int r)) F1 F 21 [(0, .ref (mmad k 97)), (1, .int a1), (2, .int a2)] [.int x5]
      refine mm_if_ne C dX12_goes_21 27 24 (by decide) rfl (fun hc => ?_) (fun hc => ?_)
      · rw [if_neg hc] at h
        refine mm_aload_n C dX12_goes_27 rfl 0 rfl 28 rfl ?_
        obtain ⟨x6, G7, ex6, h⟩ := mb2 h
        refine mm_callV [] C (c_X12_reads_97 ex6) wb_X12_reads wv_X12_83 (by decide) (mc_97 k _) rfl rfl rfl (by omega) rfl (Nat.le_of_ble_eq_true rfl) dX12_goes_28 31 rfl ?_
        show mm_AW z k 3 (some (.int r)) F1 G7 31 [(0, .ref (mmad k 97)), (1, .int a1), (2, .int a2)] [.int x6]
        refine mm_if_ne C dX12_goes_31 37 34 (by decide) rfl (fun hc => ?_) (fun hc => ?_)
        · rw [if_neg hc] at h
          refine mm_iload_n C dX12_goes_37 rfl 2 rfl 38 rfl ?_
          refine mm_aload_n C dX12_goes_38 rfl 0 rfl 39 rfl ?_
          refine mm_get C fl_X12_77_X12 (by decide) (mc_97 k _) rfl dX12_goes_39 42 rfl ?_
          refine mm_icmp_lt C dX12_goes_42 47 45 (by decide) rfl (fun hc => ?_) (fun hc => ?_)
          · rw [if_pos hc] at h
            refine mm_aload_n C dX12_goes_47 rfl 0 rfl 48 rfl ?_
            refine mm_iload_n C dX12_goes_48 rfl 1 rfl 49 rfl ?_
            refine mm_iload_n C dX12_goes_49 rfl 2 rfl 50 rfl ?_
            refine mm_iconst (v := (1 : Int32)) C dX12_goes_50 (by decide) 51 rfl ?_
            refine mm_iadd C dX12_goes_51 52 rfl ?_
            obtain ⟨G8, eG8, h⟩ := mb h
            refine mm_callV [.int a1, .int (a2 + (1 : Int32))] C (c_X12_runs_97 eG8) wb_X12_runs wv_X12_177 (by decide) (mc_97 k _) rfl rfl rfl (by omega) rfl (Nat.le_of_ble_eq_true rfl) dX12_goes_52 55 rfl ?_
            show mm_AW z k 3 (some (.int r)) F1 G8 55 [(0, .ref (mmad k 97)), (1, .int a1), (2, .int a2)] []
            refine mm_aload_n C dX12_goes_55 rfl 0 rfl 56 rfl ?_
            refine mm_get C fl_X12_118_X12 (by decide) (mc_97 k _) rfl dX12_goes_56 59 rfl ?_
            exact mm_iretW C (h) dX12_goes_59
          · rw [if_neg hc] at h
            refine mm_iconst (v := (-1 : Int32)) C dX12_goes_45 (by decide) 46 rfl ?_
            exact mm_iretW C (h) dX12_goes_46
        · rw [if_pos hc] at h
          refine mm_bipush (v := (-11 : Int32)) C dX12_goes_34 (by decide) 36 rfl ?_
          exact mm_iretW C (h) dX12_goes_36
      · rw [if_pos hc] at h
        refine mm_bipush (v := (-2 : Int32)) C dX12_goes_24 (by decide) 26 rfl ?_
        exact mm_iretW C (h) dX12_goes_26
    · rw [if_neg hc] at h
      refine mm_iload_n C dX12_goes_9 rfl 1 rfl 10 rfl ?_
      refine mm_iconst (v := (3 : Int32)) C dX12_goes_10 (by decide) 11 rfl ?_
      refine mm_icmp_ne C dX12_goes_11 24 14 (by decide) rfl (fun hc => ?_) (fun hc => ?_)
      · rw [if_neg hc] at h
        refine mm_bipush (v := (-2 : Int32)) C dX12_goes_24 (by decide) 26 rfl ?_
        exact mm_iretW C (h) dX12_goes_26
      · rw [if_pos hc] at h
        refine mm_iload_n C dX12_goes_14 rfl 2 rfl 15 rfl ?_
        refine mm_iconst (v := (0 : Int32)) C dX12_goes_15 (by decide) 16 rfl ?_
        refine mm_bipush (v := (39 : Int32)) C dX12_goes_16 (by decide) 18 rfl ?_
        obtain ⟨x9, ex9, h⟩ := mb h
        refine mm_callS [.int a2, .int (0 : Int32), .int (39 : Int32)] C (c_X12_in ex9) wb_X12_in ws_X12_69 rfl (by omega) rfl (Nat.le_of_ble_eq_true rfl) dX12_goes_18 21 rfl ?_
        show mm_AW z k 3 (some (.int r)) F1 F 21 [(0, .ref (mmad k 97)), (1, .int a1), (2, .int a2)] [.int x9]
        refine mm_if_ne C dX12_goes_21 27 24 (by decide) rfl (fun hc => ?_) (fun hc => ?_)
        · rw [if_neg hc] at h
          refine mm_aload_n C dX12_goes_27 rfl 0 rfl 28 rfl ?_
          obtain ⟨x10, G11, ex10, h⟩ := mb2 h
          refine mm_callV [] C (c_X12_reads_97 ex10) wb_X12_reads wv_X12_83 (by decide) (mc_97 k _) rfl rfl rfl (by omega) rfl (Nat.le_of_ble_eq_true rfl) dX12_goes_28 31 rfl ?_
          show mm_AW z k 3 (some (.int r)) F1 G11 31 [(0, .ref (mmad k 97)), (1, .int a1), (2, .int a2)] [.int x10]
          refine mm_if_ne C dX12_goes_31 37 34 (by decide) rfl (fun hc => ?_) (fun hc => ?_)
          · rw [if_neg hc] at h
            refine mm_iload_n C dX12_goes_37 rfl 2 rfl 38 rfl ?_
            refine mm_aload_n C dX12_goes_38 rfl 0 rfl 39 rfl ?_
            refine mm_get C fl_X12_77_X12 (by decide) (mc_97 k _) rfl dX12_goes_39 42 rfl ?_
            refine mm_icmp_lt C dX12_goes_42 47 45 (by decide) rfl (fun hc => ?_) (fun hc => ?_)
            · rw [if_pos hc] at h
              refine mm_aload_n C dX12_goes_47 rfl 0 rfl 48 rfl ?_
              refine mm_iload_n C dX12_goes_48 rfl 1 rfl 49 rfl ?_
              refine mm_iload_n C dX12_goes_49 rfl 2 rfl 50 rfl ?_
              refine mm_iconst (v := (1 : Int32)) C dX12_goes_50 (by decide) 51 rfl ?_
              refine mm_iadd C dX12_goes_51 52 rfl ?_
              obtain ⟨G12, eG12, h⟩ := mb h
              refine mm_callV [.int a1, .int (a2 + (1 : Int32))] C (c_X12_runs_97 eG12) wb_X12_runs wv_X12_177 (by decide) (mc_97 k _) rfl rfl rfl (by omega) rfl (Nat.le_of_ble_eq_true rfl) dX12_goes_52 55 rfl ?_
              show mm_AW z k 3 (some (.int r)) F1 G12 55 [(0, .ref (mmad k 97)), (1, .int a1), (2, .int a2)] []
              refine mm_aload_n C dX12_goes_55 rfl 0 rfl 56 rfl ?_
              refine mm_get C fl_X12_118_X12 (by decide) (mc_97 k _) rfl dX12_goes_56 59 rfl ?_
              exact mm_iretW C (h) dX12_goes_59
            · rw [if_neg hc] at h
              refine mm_iconst (v := (-1 : Int32)) C dX12_goes_45 (by decide) 46 rfl ?_
              exact mm_iretW C (h) dX12_goes_46
          · rw [if_pos hc] at h
            refine mm_bipush (v := (-11 : Int32)) C dX12_goes_34 (by decide) 36 rfl ?_
            exact mm_iretW C (h) dX12_goes_36
        · rw [if_pos hc] at h
          refine mm_bipush (v := (-2 : Int32)) C dX12_goes_24 (by decide) 26 rfl ?_
          exact mm_iretW C (h) dX12_goes_26
def m_X12_share_97 (F : mmS) (a1 : Int32) : Option (Int32 × mmS) :=
  Option.bind (m_X12_in a1 (0 : Int32) (4 : Int32)) fun x1 => if x1 = (0 : Int32) then (some ((-2 : Int32), F)) else (bd2 (m_X12_reads_97 F) fun x2 G3 => if x2 = (0 : Int32) then (some ((-11 : Int32), G3)) else (bd2 (m_X12_bestCost_97 G3) fun x4 G5 => if x4 = (0 : Int32) then (some ((-3 : Int32), G5)) else (bd2 (m_X12_costOf_97 G5 a1) fun x6 G7 => Option.bind (mdiv ((100 : Int32) * x6) x4) fun x8 => some (x8, G7))))
set_option maxHeartbeats 4000000 in
set_option maxRecDepth 100000 in
theorem c_X12_share_97 {l : Launch} {k : mmK} {F : mmS} {a1 : Int32} {r : Int32} {F1 : mmS} (h : m_X12_share_97 F a1 = some (r, F1)) : mm_T l k yX12_share cX12_share 3 (some .int) 7 [.ref (mmad k 97), .int a1] F (some (.int r)) F1 := by
  refine mm_start [(0, .ref (mmad k 97)), (1, .int a1)] (by decide) (Nat.le_of_ble_eq_true rfl) rfl ?_
  intro z hz C
  subst hz
  have C : mm_C z k RX12 cX12_share 3 (some .int) 7 := C
  replace h := mk0 h
  unfold m_X12_share_97 at h
  refine mm_iload_n C dX12_share_0 rfl 1 rfl 1 rfl ?_
  refine mm_iconst (v := (0 : Int32)) C dX12_share_1 (by decide) 2 rfl ?_
  refine mm_iconst (v := (4 : Int32)) C dX12_share_2 (by decide) 3 rfl ?_
  obtain ⟨x1, ex1, h⟩ := mb h
  refine mm_callS [.int a1, .int (0 : Int32), .int (4 : Int32)] C (c_X12_in ex1) wb_X12_in ws_X12_69 rfl (by omega) rfl (Nat.le_of_ble_eq_true rfl) dX12_share_3 6 rfl ?_
  show mm_AW z k 3 (some (.int r)) F1 F 6 [(0, .ref (mmad k 97)), (1, .int a1)] [.int x1]
  refine mm_if_ne C dX12_share_6 12 9 (by decide) rfl (fun hc => ?_) (fun hc => ?_)
  · rw [if_neg hc] at h
    refine mm_aload_n C dX12_share_12 rfl 0 rfl 13 rfl ?_
    obtain ⟨x2, G3, ex2, h⟩ := mb2 h
    refine mm_callV [] C (c_X12_reads_97 ex2) wb_X12_reads wv_X12_83 (by decide) (mc_97 k _) rfl rfl rfl (by omega) rfl (Nat.le_of_ble_eq_true rfl) dX12_share_13 16 rfl ?_
    show mm_AW z k 3 (some (.int r)) F1 G3 16 [(0, .ref (mmad k 97)), (1, .int a1)] [.int x2]
    refine mm_if_ne C dX12_share_16 22 19 (by decide) rfl (fun hc => ?_) (fun hc => ?_)
    · rw [if_neg hc] at h
      refine mm_aload_n C dX12_share_22 rfl 0 rfl 23 rfl ?_
      obtain ⟨x4, G5, ex4, h⟩ := mb2 h
      refine mm_callV [] C (c_X12_bestCost_97 ex4) wb_X12_bestCost wv_X12_112 (by decide) (mc_97 k _) rfl rfl rfl (by omega) rfl (Nat.le_of_ble_eq_true rfl) dX12_share_23 26 rfl ?_
      show mm_AW z k 3 (some (.int r)) F1 G5 26 [(0, .ref (mmad k 97)), (1, .int a1)] [.int x4]
      refine mm_istore_n (lv2 := [(2, .int x4), (0, .ref (mmad k 97)), (1, .int a1)]) C dX12_share_26 rfl (by decide) rfl 27 rfl ?_
      refine mm_iload_n C dX12_share_27 rfl 0 rfl 28 rfl ?_
      refine mm_if_ne C dX12_share_28 36 31 (by decide) rfl (fun hc => ?_) (fun hc => ?_)
      · rw [if_neg hc] at h
        refine mm_bipush (v := (100 : Int32)) C dX12_share_36 (by decide) 38 rfl ?_
        refine mm_aload_n C dX12_share_38 rfl 1 rfl 39 rfl ?_
        refine mm_iload_n C dX12_share_39 rfl 2 rfl 40 rfl ?_
        obtain ⟨x6, G7, ex6, h⟩ := mb2 h
        refine mm_callV [.int a1] C (c_X12_costOf_97 ex6) wb_X12_costOf wv_X12_180 (by decide) (mc_97 k _) rfl rfl rfl (by omega) rfl (Nat.le_of_ble_eq_true rfl) dX12_share_40 43 rfl ?_
        show mm_AW z k 3 (some (.int r)) F1 G7 43 [(2, .int x4), (0, .ref (mmad k 97)), (1, .int a1)] [.int x6, .int (100 : Int32)]
        refine mm_imul C dX12_share_43 44 rfl ?_
        refine mm_iload_n C dX12_share_44 rfl 0 rfl 45 rfl ?_
        obtain ⟨x8, ex8, h⟩ := mb h
        refine mm_idiv C dX12_share_45 ex8 46 rfl ?_
        exact mm_iretW C (h) dX12_share_46
      · rw [if_pos hc] at h
        refine mm_bipush (v := (-3 : Int32)) C dX12_share_31 (by decide) 33 rfl ?_
        refine mm_goto C dX12_share_33 46 (by decide) ?_
        exact mm_iretW C (h) dX12_share_46
    · rw [if_pos hc] at h
      refine mm_bipush (v := (-11 : Int32)) C dX12_share_19 (by decide) 21 rfl ?_
      exact mm_iretW C (h) dX12_share_21
  · rw [if_pos hc] at h
    refine mm_bipush (v := (-2 : Int32)) C dX12_share_9 (by decide) 11 rfl ?_
    exact mm_iretW C (h) dX12_share_11
def m_X12_work_97_L109 (a4 : Int32) : Nat → Int32 → mmS → Option (mmS)
  | 0, _, _ => none
  | n12 + 1, v10, G11 => Option.bind (m_X12_first_97 G11 a4) fun x13 => if x13 ≤ v10 then (some ((G11))) else (Option.bind (ald G11 100 v10) fun x14 => Option.bind (m_X12_worksOn_97 G11 x14) fun G15 => mlet (v10 + (1 : Int32)) fun x16 => m_X12_work_97_L109 a4 n12 x16 G15)
def m_X12_work_97 (F : mmS) (a1 : Int32) (a2 : Int32) (a3 : Int32) (a4 : Int32) : Option (Int32 × mmS) :=
  Option.bind (m_X12_in a1 (0 : Int32) ((F 97 0) - (1 : Int32))) fun x1 => bd1 (if (F 97 2) ≤ (1 : Int32) then (some ((5 : Int32))) else (some (((F 97 0) - (1 : Int32))))) fun y2 => Option.bind (m_X12_in a2 (0 : Int32) y2) fun x3 => bd1 (if (F 97 2) ≤ (2 : Int32) then (some ((5 : Int32))) else (some (((F 97 0) - (1 : Int32))))) fun y4 => Option.bind (m_X12_in a3 (0 : Int32) y4) fun x5 => if x1 = (0 : Int32) then (some ((-2 : Int32), F)) else (if x3 = (0 : Int32) then (some ((-2 : Int32), F)) else (if x5 = (0 : Int32) then (some ((-2 : Int32), F)) else (Option.bind (m_X12_in a4 (0 : Int32) (40 : Int32)) fun x6 => if x6 = (0 : Int32) then (some ((-2 : Int32), F)) else (bd2 (m_X12_reads_97 F) fun x7 G8 => if x7 = (0 : Int32) then (some ((-11 : Int32), G8)) else (Option.bind (m_X12_worksFirst_97 G8) fun G9 => bd1 (m_X12_work_97_L109 a4 300 (0 : Int32) G9) fun G17 => bd1 (if (G17 97 2) ≤ (1 : Int32) then (some ((0 : Int32))) else (some (((6 : Int32) * a2)))) fun y18 => if (G17 97 2) ≤ (2 : Int32) then (Option.bind (ald G17 104 ((a1 + y18) + (0 : Int32))) fun x19 => some (x19, G17)) else (Option.bind (ald G17 104 ((a1 + y18) + ((36 : Int32) * a3))) fun x20 => some (x20, G17)))))))
set_option maxHeartbeats 4000000 in
set_option maxRecDepth 100000 in
theorem c_X12_work_97 {l : Launch} {k : mmK} {F : mmS} {a1 : Int32} {a2 : Int32} {a3 : Int32} {a4 : Int32} {r : Int32} {F1 : mmS} (h : m_X12_work_97 F a1 a2 a3 a4 = some (r, F1)) : mm_T l k yX12_work cX12_work 9 (some .int) 4 [.ref (mmad k 97), .int a1, .int a2, .int a3, .int a4] F (some (.int r)) F1 := by
  refine mm_start [(0, .ref (mmad k 97)), (1, .int a1), (2, .int a2), (3, .int a3), (4, .int a4)] (by decide) (Nat.le_of_ble_eq_true rfl) rfl ?_
  intro z hz C
  subst hz
  have C : mm_C z k RX12 cX12_work 9 (some .int) 4 := C
  replace h := mk0 h
  unfold m_X12_work_97 at h
  refine mm_iload_n C dX12_work_0 rfl 1 rfl 1 rfl ?_
  refine mm_iconst (v := (0 : Int32)) C dX12_work_1 (by decide) 2 rfl ?_
  refine mm_aload_n C dX12_work_2 rfl 0 rfl 3 rfl ?_
  refine mm_get C fl_X12_7_X12 (by decide) (mc_97 k _) rfl dX12_work_3 6 rfl ?_
  refine mm_iconst (v := (1 : Int32)) C dX12_work_6 (by decide) 7 rfl ?_
  refine mm_isub C dX12_work_7 8 rfl ?_
  obtain ⟨x1, ex1, h⟩ := mb h
  refine mm_callS [.int a1, .int (0 : Int32), .int ((F 97 0) - (1 : Int32))] C (c_X12_in ex1) wb_X12_in ws_X12_69 rfl (by omega) rfl (Nat.le_of_ble_eq_true rfl) dX12_work_8 11 rfl ?_
  show mm_AW z k 9 (some (.int r)) F1 F 11 [(0, .ref (mmad k 97)), (1, .int a1), (2, .int a2), (3, .int a3), (4, .int a4)] [.int x1]
  refine mm_istore (lv2 := [(5, .int x1), (0, .ref (mmad k 97)), (1, .int a1), (2, .int a2), (3, .int a3), (4, .int a4)]) C dX12_work_11 (by decide) rfl 13 rfl ?_
  refine mm_iload_n C dX12_work_13 rfl 3 rfl 14 rfl ?_
  refine mm_iconst (v := (0 : Int32)) C dX12_work_14 (by decide) 15 rfl ?_
  refine mm_aload_n C dX12_work_15 rfl 1 rfl 16 rfl ?_
  refine mm_get C fl_X12_17_X12 (by decide) (mc_97 k _) rfl dX12_work_16 19 rfl ?_
  refine mm_iconst (v := (1 : Int32)) C dX12_work_19 (by decide) 20 rfl ?_
  refine mj1 h (fun (y2 : Int32) => mm_AW z k 9 (some (.int r)) F1 F 33 [(0, .ref (mmad k 97)), (1, .int a1), (2, .int a2), (3, .int a3), (4, .int a4), (5, .int x1)] [.int y2, .int (0 : Int32), .int a2]) ?_ ?_
  · intro y2 h
    obtain ⟨x3, ex3, h⟩ := mb h
    refine mm_callS [.int a2, .int (0 : Int32), .int y2] C (c_X12_in ex3) wb_X12_in ws_X12_69 rfl (by omega) rfl (Nat.le_of_ble_eq_true rfl) dX12_work_33 36 rfl ?_
    show mm_AW z k 9 (some (.int r)) F1 F 36 [(0, .ref (mmad k 97)), (1, .int a1), (2, .int a2), (3, .int a3), (4, .int a4), (5, .int x1)] [.int x3]
    refine mm_istore (lv2 := [(6, .int x3), (0, .ref (mmad k 97)), (1, .int a1), (2, .int a2), (3, .int a3), (4, .int a4), (5, .int x1)]) C dX12_work_36 (by decide) rfl 38 rfl ?_
    refine mm_iload_n C dX12_work_38 rfl 4 rfl 39 rfl ?_
    refine mm_iconst (v := (0 : Int32)) C dX12_work_39 (by decide) 40 rfl ?_
    refine mm_aload_n C dX12_work_40 rfl 1 rfl 41 rfl ?_
    refine mm_get C fl_X12_17_X12 (by decide) (mc_97 k _) rfl dX12_work_41 44 rfl ?_
    refine mm_iconst (v := (2 : Int32)) C dX12_work_44 (by decide) 45 rfl ?_
    refine mj1 h (fun (y4 : Int32) => mm_AW z k 9 (some (.int r)) F1 F 58 [(0, .ref (mmad k 97)), (1, .int a1), (2, .int a2), (3, .int a3), (4, .int a4), (5, .int x1), (6, .int x3)] [.int y4, .int (0 : Int32), .int a3]) ?_ ?_
    · intro y4 h
      obtain ⟨x5, ex5, h⟩ := mb h
      refine mm_callS [.int a3, .int (0 : Int32), .int y4] C (c_X12_in ex5) wb_X12_in ws_X12_69 rfl (by omega) rfl (Nat.le_of_ble_eq_true rfl) dX12_work_58 61 rfl ?_
      show mm_AW z k 9 (some (.int r)) F1 F 61 [(0, .ref (mmad k 97)), (1, .int a1), (2, .int a2), (3, .int a3), (4, .int a4), (5, .int x1), (6, .int x3)] [.int x5]
      refine mm_istore (lv2 := [(7, .int x5), (0, .ref (mmad k 97)), (1, .int a1), (2, .int a2), (3, .int a3), (4, .int a4), (5, .int x1), (6, .int x3)]) C dX12_work_61 (by decide) rfl 63 rfl ?_
      refine mm_iload C dX12_work_63 6 rfl 65 rfl ?_
      refine mm_if_eq C dX12_work_65 89 68 (by decide) rfl (fun hc => ?_) (fun hc => ?_)
      · rw [if_pos hc] at h
        refine mm_bipush (v := (-2 : Int32)) C dX12_work_89 (by decide) 91 rfl ?_
        exact mm_iretW C (h) dX12_work_91
      · rw [if_neg hc] at h
        refine mm_iload C dX12_work_68 7 rfl 70 rfl ?_
        refine mm_if_eq C dX12_work_70 89 73 (by decide) rfl (fun hc => ?_) (fun hc => ?_)
        · rw [if_pos hc] at h
          refine mm_bipush (v := (-2 : Int32)) C dX12_work_89 (by decide) 91 rfl ?_
          exact mm_iretW C (h) dX12_work_91
        · rw [if_neg hc] at h
          refine mm_iload C dX12_work_73 0 rfl 75 rfl ?_
          refine mm_if_eq C dX12_work_75 89 78 (by decide) rfl (fun hc => ?_) (fun hc => ?_)
          · rw [if_pos hc] at h
            refine mm_bipush (v := (-2 : Int32)) C dX12_work_89 (by decide) 91 rfl ?_
            exact mm_iretW C (h) dX12_work_91
          · rw [if_neg hc] at h
            refine mm_iload C dX12_work_78 5 rfl 80 rfl ?_
            refine mm_iconst (v := (0 : Int32)) C dX12_work_80 (by decide) 81 rfl ?_
            refine mm_bipush (v := (40 : Int32)) C dX12_work_81 (by decide) 83 rfl ?_
            obtain ⟨x6, ex6, h⟩ := mb h
            refine mm_callS [.int a4, .int (0 : Int32), .int (40 : Int32)] C (c_X12_in ex6) wb_X12_in ws_X12_69 rfl (by omega) rfl (Nat.le_of_ble_eq_true rfl) dX12_work_83 86 rfl ?_
            show mm_AW z k 9 (some (.int r)) F1 F 86 [(7, .int x5), (0, .ref (mmad k 97)), (1, .int a1), (2, .int a2), (3, .int a3), (4, .int a4), (5, .int x1), (6, .int x3)] [.int x6]
            refine mm_if_ne C dX12_work_86 92 89 (by decide) rfl (fun hc => ?_) (fun hc => ?_)
            · rw [if_neg hc] at h
              refine mm_aload_n C dX12_work_92 rfl 1 rfl 93 rfl ?_
              obtain ⟨x7, G8, ex7, h⟩ := mb2 h
              refine mm_callV [] C (c_X12_reads_97 ex7) wb_X12_reads wv_X12_83 (by decide) (mc_97 k _) rfl rfl rfl (by omega) rfl (Nat.le_of_ble_eq_true rfl) dX12_work_93 96 rfl ?_
              show mm_AW z k 9 (some (.int r)) F1 G8 96 [(7, .int x5), (0, .ref (mmad k 97)), (1, .int a1), (2, .int a2), (3, .int a3), (4, .int a4), (5, .int x1), (6, .int x3)] [.int x7]
              refine mm_if_ne C dX12_work_96 102 99 (by decide) rfl (fun hc => ?_) (fun hc => ?_)
              · rw [if_neg hc] at h
                refine mm_aload_n C dX12_work_102 rfl 1 rfl 103 rfl ?_
                obtain ⟨G9, eG9, h⟩ := mb h
                refine mm_callV [] C (c_X12_worksFirst_97 eG9) wb_X12_worksFirst wv_X12_155 (by decide) (mc_97 k _) rfl rfl rfl (by omega) rfl (Nat.le_of_ble_eq_true rfl) dX12_work_103 106 rfl ?_
                show mm_AW z k 9 (some (.int r)) F1 G9 106 [(7, .int x5), (0, .ref (mmad k 97)), (1, .int a1), (2, .int a2), (3, .int a3), (4, .int a4), (5, .int x1), (6, .int x3)] []
                refine mm_iconst (v := (0 : Int32)) C dX12_work_106 (by decide) 107 rfl ?_
                refine mm_istore (lv2 := [(8, .int (0 : Int32)), (7, .int x5), (0, .ref (mmad k 97)), (1, .int a1), (2, .int a2), (3, .int a3), (4, .int a4), (5, .int x1), (6, .int x3)]) C dX12_work_107 (by decide) rfl 109 rfl ?_
                refine mm_lv [2, 3, 4, 5, 6, 0] rfl ?_
                have hL109 : ∀ (K : (mmS) → Option (Int32 × mmS)) (hK : ∀ (G11 : mmS) , K (G11) = some (r, F1) → mm_AW z k 9 (some (.int r)) F1 G11 137 [(0, .ref (mmad k 97)), (1, .int a1), (2, .int a2), (3, .int a3)] []) (n12 : Nat) (v10 : Int32) (G11 : mmS) , (m_X12_work_97_L109 a4 n12 v10 G11).bind K = some (r, F1) → mm_AW z k 9 (some (.int r)) F1 G11 109 [(0, .ref (mmad k 97)), (1, .int a1), (2, .int a2), (3, .int a3), (4, .int a4), (8, .int v10)] [] := by
                  intro K hK n12
                  induction n12 with
                  | zero => intro v10 G11 h; rw [m_X12_work_97_L109] at h; cases h
                  | succ n12 ih =>
                    intro v10 G11 h
                    rw [m_X12_work_97_L109] at h
                    refine mm_iload C dX12_work_109 5 rfl 111 rfl ?_
                    refine mm_aload_n C dX12_work_111 rfl 0 rfl 112 rfl ?_
                    refine mm_iload C dX12_work_112 4 rfl 114 rfl ?_
                    obtain ⟨x13, ex13, h⟩ := mb h
                    refine mm_callV [.int a4] C (c_X12_first_97 ex13) wb_X12_first wv_X12_158 (by decide) (mc_97 k _) rfl rfl rfl (by omega) rfl (Nat.le_of_ble_eq_true rfl) dX12_work_114 117 rfl ?_
                    show mm_AW z k 9 (some (.int r)) F1 G11 117 [(0, .ref (mmad k 97)), (1, .int a1), (2, .int a2), (3, .int a3), (4, .int a4), (8, .int v10)] [.int x13, .int v10]
                    refine mm_icmp_ge C dX12_work_117 137 120 (by decide) rfl (fun hc => ?_) (fun hc => ?_)
                    · rw [if_pos hc] at h
                      refine mm_lv [0, 1, 2, 3] rfl ?_
                      exact hK _ h
                    · rw [if_neg hc] at h
                      refine mm_aload_n C dX12_work_120 rfl 0 rfl 121 rfl ?_
                      refine mm_aload_n C dX12_work_121 rfl 0 rfl 122 rfl ?_
                      refine mm_get C fl_X12_26_X12 (by decide) (mc_97 k _) rfl dX12_work_122 125 rfl ?_
                      refine mm_iload C dX12_work_125 5 rfl 127 rfl ?_
                      obtain ⟨x14, ex14, h⟩ := mb h
                      refine mm_iald C ex14 dX12_work_127 128 rfl ?_
                      obtain ⟨G15, eG15, h⟩ := mb h
                      refine mm_callV [.int x14] C (c_X12_worksOn_97 eG15) wb_X12_worksOn wv_X12_136 (by decide) (mc_97 k _) rfl rfl rfl (by omega) rfl (Nat.le_of_ble_eq_true rfl) dX12_work_128 131 rfl ?_
                      show mm_AW z k 9 (some (.int r)) F1 G15 131 [(0, .ref (mmad k 97)), (1, .int a1), (2, .int a2), (3, .int a3), (4, .int a4), (8, .int v10)] []
                      obtain ⟨x16, ex16, h⟩ := me h
                      refine mm_iinc (v := x16) (lv2 := [(8, .int x16), (0, .ref (mmad k 97)), (1, .int a1), (2, .int a2), (3, .int a3), (4, .int a4)]) C dX12_work_131 5 rfl (by rw [← ex16]; rfl) (by decide) rfl 134 rfl ?_
                      refine mm_goto C dX12_work_134 109 (by decide) ?_
                      refine mm_lv [1, 2, 3, 4, 5, 0] rfl ?_
                      exact ih _ _ h
                refine mj1 h (fun (G17 : mmS) => mm_AW z k 9 (some (.int r)) F1 G17 137 [(0, .ref (mmad k 97)), (1, .int a1), (2, .int a2), (3, .int a3)] []) ?_ ?_
                · intro G17 h
                  refine mm_aload_n C dX12_work_137 rfl 0 rfl 138 rfl ?_
                  refine mm_get C fl_X12_38_X12 (by decide) (mc_97 k _) rfl dX12_work_138 141 rfl ?_
                  refine mm_iload_n C dX12_work_141 rfl 1 rfl 142 rfl ?_
                  refine mm_aload_n C dX12_work_142 rfl 0 rfl 143 rfl ?_
                  refine mm_get C fl_X12_17_X12 (by decide) (mc_97 k _) rfl dX12_work_143 146 rfl ?_
                  refine mm_iconst (v := (1 : Int32)) C dX12_work_146 (by decide) 147 rfl ?_
                  refine mj1 h (fun (y18 : Int32) => mm_AW z k 9 (some (.int r)) F1 G17 158 [(0, .ref (mmad k 97)), (3, .int a3)] [.int y18, .int a1, .ref (mmad k 104)]) ?_ ?_
                  · intro y18 h
                    refine mm_iadd C dX12_work_158 159 rfl ?_
                    refine mm_aload_n C dX12_work_159 rfl 0 rfl 160 rfl ?_
                    refine mm_get C fl_X12_17_X12 (by decide) (mc_97 k _) rfl dX12_work_160 163 rfl ?_
                    refine mm_iconst (v := (2 : Int32)) C dX12_work_163 (by decide) 164 rfl ?_
                    refine mm_icmp_le C dX12_work_164 174 167 (by decide) rfl (fun hc => ?_) (fun hc => ?_)
                    · rw [if_pos hc] at h
                      refine mm_iconst (v := (0 : Int32)) C dX12_work_174 (by decide) 175 rfl ?_
                      refine mm_iadd C dX12_work_175 176 rfl ?_
                      obtain ⟨x19, ex19, h⟩ := mb h
                      refine mm_iald C ex19 dX12_work_176 177 rfl ?_
                      exact mm_iretW C (h) dX12_work_177
                    · rw [if_neg hc] at h
                      refine mm_bipush (v := (36 : Int32)) C dX12_work_167 (by decide) 169 rfl ?_
                      refine mm_iload_n C dX12_work_169 rfl 1 rfl 170 rfl ?_
                      refine mm_imul C dX12_work_170 171 rfl ?_
                      refine mm_goto C dX12_work_171 175 (by decide) ?_
                      refine mm_iadd C dX12_work_175 176 rfl ?_
                      obtain ⟨x20, ex20, h⟩ := mb h
                      refine mm_iald C ex20 dX12_work_176 177 rfl ?_
                      exact mm_iretW C (h) dX12_work_177
                  · intro K2 hR158 h
                    refine mm_icmp_le C dX12_work_147 157 150 (by decide) rfl (fun hc => ?_) (fun hc => ?_)
                    · rw [if_pos hc] at h
                      refine mm_iconst (v := (0 : Int32)) C dX12_work_157 (by decide) 158 rfl ?_
                      refine mm_lv [0, 3] rfl ?_
                      exact hR158 _ h
                    · rw [if_neg hc] at h
                      refine mm_bipush (v := (6 : Int32)) C dX12_work_150 (by decide) 152 rfl ?_
                      refine mm_iload_n C dX12_work_152 rfl 2 rfl 153 rfl ?_
                      refine mm_imul C dX12_work_153 154 rfl ?_
                      refine mm_goto C dX12_work_154 158 (by decide) ?_
                      refine mm_lv [0, 3] rfl ?_
                      exact hR158 _ h
                · intro K2 hR h
                  exact hL109 K2 hR 300 _ _ h
              · rw [if_pos hc] at h
                refine mm_bipush (v := (-11 : Int32)) C dX12_work_99 (by decide) 101 rfl ?_
                exact mm_iretW C (h) dX12_work_101
            · rw [if_pos hc] at h
              refine mm_bipush (v := (-2 : Int32)) C dX12_work_89 (by decide) 91 rfl ?_
              exact mm_iretW C (h) dX12_work_91
    · intro K2 hR58 h
      refine mm_icmp_le C dX12_work_45 57 48 (by decide) rfl (fun hc => ?_) (fun hc => ?_)
      · rw [if_pos hc] at h
        refine mm_iconst (v := (5 : Int32)) C dX12_work_57 (by decide) 58 rfl ?_
        refine mm_lv [1, 2, 3, 4, 5, 6, 0] rfl ?_
        exact hR58 _ h
      · rw [if_neg hc] at h
        refine mm_aload_n C dX12_work_48 rfl 1 rfl 49 rfl ?_
        refine mm_get C fl_X12_7_X12 (by decide) (mc_97 k _) rfl dX12_work_49 52 rfl ?_
        refine mm_iconst (v := (1 : Int32)) C dX12_work_52 (by decide) 53 rfl ?_
        refine mm_isub C dX12_work_53 54 rfl ?_
        refine mm_goto C dX12_work_54 58 (by decide) ?_
        refine mm_lv [1, 2, 3, 4, 5, 6, 0] rfl ?_
        exact hR58 _ h
  · intro K2 hR33 h
    refine mm_icmp_le C dX12_work_20 32 23 (by decide) rfl (fun hc => ?_) (fun hc => ?_)
    · rw [if_pos hc] at h
      refine mm_iconst (v := (5 : Int32)) C dX12_work_32 (by decide) 33 rfl ?_
      refine mm_lv [1, 2, 3, 4, 5, 0] rfl ?_
      exact hR33 _ h
    · rw [if_neg hc] at h
      refine mm_aload_n C dX12_work_23 rfl 1 rfl 24 rfl ?_
      refine mm_get C fl_X12_7_X12 (by decide) (mc_97 k _) rfl dX12_work_24 27 rfl ?_
      refine mm_iconst (v := (1 : Int32)) C dX12_work_27 (by decide) 28 rfl ?_
      refine mm_isub C dX12_work_28 29 rfl ?_
      refine mm_goto C dX12_work_29 33 (by decide) ?_
      refine mm_lv [1, 2, 3, 4, 5, 0] rfl ?_
      exact hR33 _ h
def m_X12_trusts_97 (F : mmS) (a1 : Int32) : Option (Int32 × mmS) :=
  Option.bind (m_X12_in a1 (0 : Int32) (40 : Int32)) fun x1 => if x1 = (0 : Int32) then (some ((-2 : Int32), F)) else (bd2 (m_X12_reads_97 F) fun x2 G3 => if x2 = (0 : Int32) then (some ((-11 : Int32), G3)) else (Option.bind (m_X12_runsGuarded_97 G3 a1) fun G4 => some ((G4 97 18), G4)))
set_option maxHeartbeats 4000000 in
set_option maxRecDepth 100000 in
theorem c_X12_trusts_97 {l : Launch} {k : mmK} {F : mmS} {a1 : Int32} {r : Int32} {F1 : mmS} (h : m_X12_trusts_97 F a1 = some (r, F1)) : mm_T l k yX12_trusts cX12_trusts 2 (some .int) 6 [.ref (mmad k 97), .int a1] F (some (.int r)) F1 := by
  refine mm_start [(0, .ref (mmad k 97)), (1, .int a1)] (by decide) (Nat.le_of_ble_eq_true rfl) rfl ?_
  intro z hz C
  subst hz
  have C : mm_C z k RX12 cX12_trusts 2 (some .int) 6 := C
  replace h := mk0 h
  unfold m_X12_trusts_97 at h
  refine mm_iload_n C dX12_trusts_0 rfl 1 rfl 1 rfl ?_
  refine mm_iconst (v := (0 : Int32)) C dX12_trusts_1 (by decide) 2 rfl ?_
  refine mm_bipush (v := (40 : Int32)) C dX12_trusts_2 (by decide) 4 rfl ?_
  obtain ⟨x1, ex1, h⟩ := mb h
  refine mm_callS [.int a1, .int (0 : Int32), .int (40 : Int32)] C (c_X12_in ex1) wb_X12_in ws_X12_69 rfl (by omega) rfl (Nat.le_of_ble_eq_true rfl) dX12_trusts_4 7 rfl ?_
  show mm_AW z k 2 (some (.int r)) F1 F 7 [(0, .ref (mmad k 97)), (1, .int a1)] [.int x1]
  refine mm_if_ne C dX12_trusts_7 13 10 (by decide) rfl (fun hc => ?_) (fun hc => ?_)
  · rw [if_neg hc] at h
    refine mm_aload_n C dX12_trusts_13 rfl 0 rfl 14 rfl ?_
    obtain ⟨x2, G3, ex2, h⟩ := mb2 h
    refine mm_callV [] C (c_X12_reads_97 ex2) wb_X12_reads wv_X12_83 (by decide) (mc_97 k _) rfl rfl rfl (by omega) rfl (Nat.le_of_ble_eq_true rfl) dX12_trusts_14 17 rfl ?_
    show mm_AW z k 2 (some (.int r)) F1 G3 17 [(0, .ref (mmad k 97)), (1, .int a1)] [.int x2]
    refine mm_if_ne C dX12_trusts_17 23 20 (by decide) rfl (fun hc => ?_) (fun hc => ?_)
    · rw [if_neg hc] at h
      refine mm_aload_n C dX12_trusts_23 rfl 0 rfl 24 rfl ?_
      refine mm_iload_n C dX12_trusts_24 rfl 1 rfl 25 rfl ?_
      obtain ⟨G4, eG4, h⟩ := mb h
      refine mm_callV [.int a1] C (c_X12_runsGuarded_97 eG4) wb_X12_runsGuarded wv_X12_174 (by decide) (mc_97 k _) rfl rfl rfl (by omega) rfl (Nat.le_of_ble_eq_true rfl) dX12_trusts_25 28 rfl ?_
      show mm_AW z k 2 (some (.int r)) F1 G4 28 [(0, .ref (mmad k 97)), (1, .int a1)] []
      refine mm_aload_n C dX12_trusts_28 rfl 0 rfl 29 rfl ?_
      refine mm_get C fl_X12_164_X12 (by decide) (mc_97 k _) rfl dX12_trusts_29 32 rfl ?_
      exact mm_iretW C (h) dX12_trusts_32
    · rw [if_pos hc] at h
      refine mm_bipush (v := (-11 : Int32)) C dX12_trusts_20 (by decide) 22 rfl ?_
      exact mm_iretW C (h) dX12_trusts_22
  · rw [if_pos hc] at h
    refine mm_bipush (v := (-2 : Int32)) C dX12_trusts_10 (by decide) 12 rfl ?_
    exact mm_iretW C (h) dX12_trusts_12
def m_X12_seeks_97_L5 (a2 : Int32) (F : mmS) : Nat → Int32 → Int32 → Option (Int32)
  | 0, _, _ => none
  | n3 + 1, v1, v2 => if a2 ≤ v2 then (some ((v1))) else (mlet (v1 * (F 97 0)) fun x4 => mlet (v2 + (1 : Int32)) fun x5 => m_X12_seeks_97_L5 a2 F n3 x4 x5)
def m_X12_seeks_97_L62 : Nat → Int32 → Int32 → mmS → Option (mmS)
  | 0, _, _, _ => none
  | n18 + 1, v15, v16, G17 => if v16 < (0 : Int32) then (some ((G17))) else (Option.bind (mrem v15 (G17 97 0)) fun x19 => Option.bind (ast G17 100 v16 x19) fun G20 => Option.bind (mdiv v15 (G20 97 0)) fun x21 => mlet (v16 + (-1 : Int32)) fun x22 => m_X12_seeks_97_L62 n18 x21 x22 G20)
def m_X12_seeks_97_L42 (a1 : Int32) (a2 : Int32) (y6 : Int32) : Nat → Int32 → mmS → Option (mmS)
  | 0, _, _ => none
  | n12 + 1, v10, G11 => if y6 ≤ v10 then (some ((G11))) else (mlet (stF G11 97 5 a2) fun G13 => mlet (a2 - (1 : Int32)) fun x14 => bd1 (m_X12_seeks_97_L62 300 v10 x14 G13) fun G23 => bd2 (m_X12_bestCost_97 G23) fun x24 G25 => bd1 (if x24 ≤ (0 : Int32) then (some (G25)) else (bd2 (m_X12_costOf_97 G25 a1) fun x26 G27 => if (G27 97 20) = (-1 : Int32) then (mlet (stF G27 97 20 v10) fun G28 => mlet (stF G28 97 21 x26) fun G29 => mlet (stF G29 97 22 x24) fun G30 => some (G30)) else (if (x26 * (G27 97 22)) ≤ ((G27 97 21) * x24) then (some (G27)) else (mlet (stF G27 97 20 v10) fun G31 => mlet (stF G31 97 21 x26) fun G32 => mlet (stF G32 97 22 x24) fun G33 => some (G33))))) fun G34 => mlet (v10 + (1 : Int32)) fun x35 => m_X12_seeks_97_L42 a1 a2 y6 n12 x35 G34)
def m_X12_seeks_97 (F : mmS) (a1 : Int32) (a2 : Int32) : Option (mmS) :=
  bd1 (m_X12_seeks_97_L5 a2 F 300 (1 : Int32) (0 : Int32)) fun y6 => mlet (stF F 97 20 (-1 : Int32)) fun G7 => mlet (stF G7 97 21 (0 : Int32)) fun G8 => mlet (stF G8 97 22 (1 : Int32)) fun G9 => bd1 (m_X12_seeks_97_L42 a1 a2 y6 300 (0 : Int32) G9) fun G36 => some G36
set_option maxHeartbeats 4000000 in
set_option maxRecDepth 100000 in
theorem c_X12_seeks_97 {l : Launch} {k : mmK} {F : mmS} {a1 : Int32} {a2 : Int32} {F1 : mmS} (h : m_X12_seeks_97 F a1 a2 = some F1) : mm_T l k yX12_seeks cX12_seeks 8 none 7 [.ref (mmad k 97), .int a1, .int a2] F none F1 := by
  refine mm_start [(0, .ref (mmad k 97)), (1, .int a1), (2, .int a2)] (by decide) (Nat.le_of_ble_eq_true rfl) rfl ?_
  intro z hz C
  subst hz
  have C : mm_C z k RX12 cX12_seeks 8 none 7 := C
  replace h := mk0 h
  unfold m_X12_seeks_97 at h
  refine mm_iconst (v := (1 : Int32)) C dX12_seeks_0 (by decide) 1 rfl ?_
  refine mm_istore_n (lv2 := [(3, .int (1 : Int32)), (0, .ref (mmad k 97)), (1, .int a1), (2, .int a2)]) C dX12_seeks_1 rfl (by decide) rfl 2 rfl ?_
  refine mm_iconst (v := (0 : Int32)) C dX12_seeks_2 (by decide) 3 rfl ?_
  refine mm_istore (lv2 := [(4, .int (0 : Int32)), (3, .int (1 : Int32)), (0, .ref (mmad k 97)), (1, .int a1), (2, .int a2)]) C dX12_seeks_3 (by decide) rfl 5 rfl ?_
  refine mm_lv [2, 3, 4, 1, 0] rfl ?_
  have hL5 : ∀ (K : (Int32) → Option (mmS)) (hK : ∀ (v1 : Int32) , K (v1) = some F1 → mm_AW z k 8 none F1 F 24 [(0, .ref (mmad k 97)), (1, .int a1), (2, .int a2), (3, .int v1)] []) (n3 : Nat) (v1 : Int32) (v2 : Int32) , (m_X12_seeks_97_L5 a2 F n3 v1 v2).bind K = some F1 → mm_AW z k 8 none F1 F 5 [(0, .ref (mmad k 97)), (1, .int a1), (2, .int a2), (3, .int v1), (4, .int v2)] [] := by
    intro K hK n3
    induction n3 with
    | zero => intro v1 v2 h; rw [m_X12_seeks_97_L5] at h; cases h
    | succ n3 ih =>
      intro v1 v2 h
      rw [m_X12_seeks_97_L5] at h
      refine mm_iload C dX12_seeks_5 4 rfl 7 rfl ?_
      refine mm_iload_n C dX12_seeks_7 rfl 2 rfl 8 rfl ?_
      refine mm_icmp_ge C dX12_seeks_8 24 11 (by decide) rfl (fun hc => ?_) (fun hc => ?_)
      · rw [if_pos hc] at h
        refine mm_lv [0, 1, 2, 3] rfl ?_
        exact hK _ h
      · rw [if_neg hc] at h
        refine mm_iload_n C dX12_seeks_11 rfl 3 rfl 12 rfl ?_
        refine mm_aload_n C dX12_seeks_12 rfl 0 rfl 13 rfl ?_
        refine mm_get C fl_X12_7_X12 (by decide) (mc_97 k _) rfl dX12_seeks_13 16 rfl ?_
        refine mm_imul C dX12_seeks_16 17 rfl ?_
        obtain ⟨x4, ex4, h⟩ := me h
        refine mm_top ex4 ?_
        refine mm_istore_n (lv2 := [(3, .int x4), (0, .ref (mmad k 97)), (1, .int a1), (2, .int a2), (4, .int v2)]) C dX12_seeks_17 rfl (by decide) rfl 18 rfl ?_
        obtain ⟨x5, ex5, h⟩ := me h
        refine mm_iinc (v := x5) (lv2 := [(4, .int x5), (3, .int x4), (0, .ref (mmad k 97)), (1, .int a1), (2, .int a2)]) C dX12_seeks_18 4 rfl (by rw [← ex5]; rfl) (by decide) rfl 21 rfl ?_
        refine mm_goto C dX12_seeks_21 5 (by decide) ?_
        refine mm_lv [2, 3, 4, 1, 0] rfl ?_
        exact ih _ _ h
  refine mj1 h (fun (y6 : Int32) => mm_AW z k 8 none F1 F 24 [(0, .ref (mmad k 97)), (1, .int a1), (2, .int a2), (3, .int y6)] []) ?_ ?_
  · intro y6 h
    refine mm_aload_n C dX12_seeks_24 rfl 0 rfl 25 rfl ?_
    refine mm_iconst (v := (-1 : Int32)) C dX12_seeks_25 (by decide) 26 rfl ?_
    obtain ⟨G7, eG7, h⟩ := me h
    refine mm_put (x := (-1 : Int32)) (ty := .int) C fl_X12_183_X12 (by decide) (mc_97 k _) (mc_97 k _) tyX12 tyX12_ok nmX12 rfl (by decide +kernel) rfl rfl (Nat.le_of_ble_eq_true rfl) eG7 dX12_seeks_26 29 rfl ?_
    refine mm_aload_n C dX12_seeks_29 rfl 0 rfl 30 rfl ?_
    refine mm_iconst (v := (0 : Int32)) C dX12_seeks_30 (by decide) 31 rfl ?_
    obtain ⟨G8, eG8, h⟩ := me h
    refine mm_put (x := (0 : Int32)) (ty := .int) C fl_X12_186_X12 (by decide) (mc_97 k _) (mc_97 k _) tyX12 tyX12_ok nmX12 rfl (by decide +kernel) rfl rfl (Nat.le_of_ble_eq_true rfl) eG8 dX12_seeks_31 34 rfl ?_
    refine mm_aload_n C dX12_seeks_34 rfl 0 rfl 35 rfl ?_
    refine mm_iconst (v := (1 : Int32)) C dX12_seeks_35 (by decide) 36 rfl ?_
    obtain ⟨G9, eG9, h⟩ := me h
    refine mm_put (x := (1 : Int32)) (ty := .int) C fl_X12_189_X12 (by decide) (mc_97 k _) (mc_97 k _) tyX12 tyX12_ok nmX12 rfl (by decide +kernel) rfl rfl (Nat.le_of_ble_eq_true rfl) eG9 dX12_seeks_36 39 rfl ?_
    refine mm_iconst (v := (0 : Int32)) C dX12_seeks_39 (by decide) 40 rfl ?_
    refine mm_istore (lv2 := [(4, .int (0 : Int32)), (0, .ref (mmad k 97)), (1, .int a1), (2, .int a2), (3, .int y6)]) C dX12_seeks_40 (by decide) rfl 42 rfl ?_
    refine mm_lv [1, 2, 3, 4, 0] rfl ?_
    have hL42 : ∀ (K : (mmS) → Option (mmS)) (hK : ∀ (G11 : mmS) , K (G11) = some F1 → mm_AW z k 8 none F1 G11 163 [] []) (n12 : Nat) (v10 : Int32) (G11 : mmS) , (m_X12_seeks_97_L42 a1 a2 y6 n12 v10 G11).bind K = some F1 → mm_AW z k 8 none F1 G11 42 [(0, .ref (mmad k 97)), (1, .int a1), (2, .int a2), (3, .int y6), (4, .int v10)] [] := by
      intro K hK n12
      induction n12 with
      | zero => intro v10 G11 h; rw [m_X12_seeks_97_L42] at h; cases h
      | succ n12 ih =>
        intro v10 G11 h
        rw [m_X12_seeks_97_L42] at h
        refine mm_iload C dX12_seeks_42 4 rfl 44 rfl ?_
        refine mm_iload_n C dX12_seeks_44 rfl 3 rfl 45 rfl ?_
        refine mm_icmp_ge C dX12_seeks_45 163 48 (by decide) rfl (fun hc => ?_) (fun hc => ?_)
        · rw [if_pos hc] at h
          refine mm_lv [] rfl ?_
          exact hK _ h
        · rw [if_neg hc] at h
          refine mm_iload C dX12_seeks_48 4 rfl 50 rfl ?_
          refine mm_istore (lv2 := [(5, .int v10), (0, .ref (mmad k 97)), (1, .int a1), (2, .int a2), (3, .int y6), (4, .int v10)]) C dX12_seeks_50 (by decide) rfl 52 rfl ?_
          refine mm_aload_n C dX12_seeks_52 rfl 1 rfl 53 rfl ?_
          refine mm_iload_n C dX12_seeks_53 rfl 3 rfl 54 rfl ?_
          obtain ⟨G13, eG13, h⟩ := me h
          refine mm_put (x := a2) (ty := .int) C fl_X12_77_X12 (by decide) (mc_97 k _) (mc_97 k _) tyX12 tyX12_ok nmX12 rfl (by decide +kernel) rfl rfl (Nat.le_of_ble_eq_true rfl) eG13 dX12_seeks_54 57 rfl ?_
          refine mm_iload_n C dX12_seeks_57 rfl 3 rfl 58 rfl ?_
          refine mm_iconst (v := (1 : Int32)) C dX12_seeks_58 (by decide) 59 rfl ?_
          refine mm_isub C dX12_seeks_59 60 rfl ?_
          obtain ⟨x14, ex14, h⟩ := me h
          refine mm_top ex14 ?_
          refine mm_istore (lv2 := [(6, .int x14), (5, .int v10), (0, .ref (mmad k 97)), (1, .int a1), (2, .int a2), (3, .int y6), (4, .int v10)]) C dX12_seeks_60 (by decide) rfl 62 rfl ?_
          refine mm_lv [2, 3, 4, 5, 6, 1, 0] rfl ?_
          have hL62 : ∀ (K : (mmS) → Option (mmS)) (hK : ∀ (G17 : mmS) , K (G17) = some F1 → mm_AW z k 8 none F1 G17 96 [(0, .ref (mmad k 97)), (1, .int a1), (2, .int a2), (3, .int y6), (4, .int v10)] []) (n18 : Nat) (v15 : Int32) (v16 : Int32) (G17 : mmS) , (m_X12_seeks_97_L62 n18 v15 v16 G17).bind K = some F1 → mm_AW z k 8 none F1 G17 62 [(0, .ref (mmad k 97)), (1, .int a1), (2, .int a2), (3, .int y6), (4, .int v10), (5, .int v15), (6, .int v16)] [] := by
            intro K hK n18
            induction n18 with
            | zero => intro v15 v16 G17 h; rw [m_X12_seeks_97_L62] at h; cases h
            | succ n18 ih =>
              intro v15 v16 G17 h
              rw [m_X12_seeks_97_L62] at h
              refine mm_iload C dX12_seeks_62 6 rfl 64 rfl ?_
              refine mm_if_lt C dX12_seeks_64 96 67 (by decide) rfl (fun hc => ?_) (fun hc => ?_)
              · rw [if_pos hc] at h
                refine mm_lv [0, 1, 2, 3, 4] rfl ?_
                exact hK _ h
              · rw [if_neg hc] at h
                refine mm_aload_n C dX12_seeks_67 rfl 0 rfl 68 rfl ?_
                refine mm_get C fl_X12_26_X12 (by decide) (mc_97 k _) rfl dX12_seeks_68 71 rfl ?_
                refine mm_iload C dX12_seeks_71 6 rfl 73 rfl ?_
                refine mm_iload C dX12_seeks_73 5 rfl 75 rfl ?_
                refine mm_aload_n C dX12_seeks_75 rfl 0 rfl 76 rfl ?_
                refine mm_get C fl_X12_7_X12 (by decide) (mc_97 k _) rfl dX12_seeks_76 79 rfl ?_
                obtain ⟨x19, ex19, h⟩ := mb h
                refine mm_irem C dX12_seeks_79 ex19 80 rfl ?_
                obtain ⟨G20, eG20, h⟩ := mb h
                refine mm_iast C eG20 dX12_seeks_80 81 rfl ?_
                refine mm_iload C dX12_seeks_81 5 rfl 83 rfl ?_
                refine mm_aload_n C dX12_seeks_83 rfl 0 rfl 84 rfl ?_
                refine mm_get C fl_X12_7_X12 (by decide) (mc_97 k _) rfl dX12_seeks_84 87 rfl ?_
                obtain ⟨x21, ex21, h⟩ := mb h
                refine mm_idiv C dX12_seeks_87 ex21 88 rfl ?_
                refine mm_istore (lv2 := [(5, .int x21), (0, .ref (mmad k 97)), (1, .int a1), (2, .int a2), (3, .int y6), (4, .int v10), (6, .int v16)]) C dX12_seeks_88 (by decide) rfl 90 rfl ?_
                obtain ⟨x22, ex22, h⟩ := me h
                refine mm_iinc (v := x22) (lv2 := [(6, .int x22), (5, .int x21), (0, .ref (mmad k 97)), (1, .int a1), (2, .int a2), (3, .int y6), (4, .int v10)]) C dX12_seeks_90 6 rfl (by rw [← ex22]; rfl) (by decide) rfl 93 rfl ?_
                refine mm_goto C dX12_seeks_93 62 (by decide) ?_
                refine mm_lv [2, 3, 4, 5, 6, 1, 0] rfl ?_
                exact ih _ _ _ h
          refine mj1 h (fun (G23 : mmS) => mm_AW z k 8 none F1 G23 96 [(0, .ref (mmad k 97)), (1, .int a1), (2, .int a2), (3, .int y6), (4, .int v10)] []) ?_ ?_
          · intro G23 h
            refine mm_aload_n C dX12_seeks_96 rfl 0 rfl 97 rfl ?_
            obtain ⟨x24, G25, ex24, h⟩ := mb2 h
            refine mm_callV [] C (c_X12_bestCost_97 ex24) wb_X12_bestCost wv_X12_112 (by decide) (mc_97 k _) rfl rfl rfl (by omega) rfl (Nat.le_of_ble_eq_true rfl) dX12_seeks_97 100 rfl ?_
            show mm_AW z k 8 none F1 G25 100 [(0, .ref (mmad k 97)), (1, .int a1), (2, .int a2), (3, .int y6), (4, .int v10)] [.int x24]
            refine mm_istore (lv2 := [(6, .int x24), (0, .ref (mmad k 97)), (1, .int a1), (2, .int a2), (3, .int y6), (4, .int v10)]) C dX12_seeks_100 (by decide) rfl 102 rfl ?_
            refine mm_iload C dX12_seeks_102 0 rfl 104 rfl ?_
            refine mj1 h (fun (G34 : mmS) => mm_AW z k 8 none F1 G34 157 [(0, .ref (mmad k 97)), (1, .int a1), (2, .int a2), (3, .int y6), (4, .int v10)] []) ?_ ?_
            · intro G34 h
              obtain ⟨x35, ex35, h⟩ := me h
              refine mm_iinc (v := x35) (lv2 := [(4, .int x35), (0, .ref (mmad k 97)), (1, .int a1), (2, .int a2), (3, .int y6)]) C dX12_seeks_157 4 rfl (by rw [← ex35]; rfl) (by decide) rfl 160 rfl ?_
              refine mm_goto C dX12_seeks_160 42 (by decide) ?_
              refine mm_lv [1, 2, 3, 4, 0] rfl ?_
              exact ih _ _ h
            · intro K2 hR157 h
              refine mm_if_le C dX12_seeks_104 157 107 (by decide) rfl (fun hc => ?_) (fun hc => ?_)
              · rw [if_pos hc] at h
                refine mm_lv [1, 2, 3, 4, 5] rfl ?_
                exact hR157 _ h
              · rw [if_neg hc] at h
                refine mm_aload_n C dX12_seeks_107 rfl 1 rfl 108 rfl ?_
                refine mm_iload_n C dX12_seeks_108 rfl 2 rfl 109 rfl ?_
                obtain ⟨x26, G27, ex26, h⟩ := mb2 h
                refine mm_callV [.int a1] C (c_X12_costOf_97 ex26) wb_X12_costOf wv_X12_180 (by decide) (mc_97 k _) rfl rfl rfl (by omega) rfl (Nat.le_of_ble_eq_true rfl) dX12_seeks_109 112 rfl ?_
                show mm_AW z k 8 none F1 G27 112 [(6, .int x24), (0, .ref (mmad k 97)), (1, .int a1), (2, .int a2), (3, .int y6), (4, .int v10)] [.int x26]
                refine mm_istore (lv2 := [(7, .int x26), (6, .int x24), (0, .ref (mmad k 97)), (1, .int a1), (2, .int a2), (3, .int y6), (4, .int v10)]) C dX12_seeks_112 (by decide) rfl 114 rfl ?_
                refine mm_aload_n C dX12_seeks_114 rfl 2 rfl 115 rfl ?_
                refine mm_get C fl_X12_183_X12 (by decide) (mc_97 k _) rfl dX12_seeks_115 118 rfl ?_
                refine mm_iconst (v := (-1 : Int32)) C dX12_seeks_118 (by decide) 119 rfl ?_
                refine mm_icmp_eq C dX12_seeks_119 139 122 (by decide) rfl (fun hc => ?_) (fun hc => ?_)
                · rw [if_pos hc] at h
                  refine mm_aload_n C dX12_seeks_139 rfl 2 rfl 140 rfl ?_
                  refine mm_iload C dX12_seeks_140 6 rfl 142 rfl ?_
                  obtain ⟨G28, eG28, h⟩ := me h
                  refine mm_put (x := v10) (ty := .int) C fl_X12_183_X12 (by decide) (mc_97 k _) (mc_97 k _) tyX12 tyX12_ok nmX12 rfl (by decide +kernel) rfl rfl (Nat.le_of_ble_eq_true rfl) eG28 dX12_seeks_142 145 rfl ?_
                  refine mm_aload_n C dX12_seeks_145 rfl 2 rfl 146 rfl ?_
                  refine mm_iload C dX12_seeks_146 0 rfl 148 rfl ?_
                  obtain ⟨G29, eG29, h⟩ := me h
                  refine mm_put (x := x26) (ty := .int) C fl_X12_186_X12 (by decide) (mc_97 k _) (mc_97 k _) tyX12 tyX12_ok nmX12 rfl (by decide +kernel) rfl rfl (Nat.le_of_ble_eq_true rfl) eG29 dX12_seeks_148 151 rfl ?_
                  refine mm_aload_n C dX12_seeks_151 rfl 2 rfl 152 rfl ?_
                  refine mm_iload C dX12_seeks_152 1 rfl 154 rfl ?_
                  obtain ⟨G30, eG30, h⟩ := me h
                  refine mm_put (x := x24) (ty := .int) C fl_X12_189_X12 (by decide) (mc_97 k _) (mc_97 k _) tyX12 tyX12_ok nmX12 rfl (by decide +kernel) rfl rfl (Nat.le_of_ble_eq_true rfl) eG30 dX12_seeks_154 157 rfl ?_
                  refine mm_lv [2, 3, 4, 5, 6] rfl ?_
                  exact hR157 _ h
                · rw [if_neg hc] at h
                  refine mm_iload C dX12_seeks_122 0 rfl 124 rfl ?_
                  refine mm_aload_n C dX12_seeks_124 rfl 2 rfl 125 rfl ?_
                  refine mm_get C fl_X12_189_X12 (by decide) (mc_97 k _) rfl dX12_seeks_125 128 rfl ?_
                  refine mm_imul C dX12_seeks_128 129 rfl ?_
                  refine mm_aload_n C dX12_seeks_129 rfl 2 rfl 130 rfl ?_
                  refine mm_get C fl_X12_186_X12 (by decide) (mc_97 k _) rfl dX12_seeks_130 133 rfl ?_
                  refine mm_iload C dX12_seeks_133 1 rfl 135 rfl ?_
                  refine mm_imul C dX12_seeks_135 136 rfl ?_
                  refine mm_icmp_le C dX12_seeks_136 157 139 (by decide) rfl (fun hc => ?_) (fun hc => ?_)
                  · rw [if_pos hc] at h
                    refine mm_lv [2, 3, 4, 5, 6] rfl ?_
                    exact hR157 _ h
                  · rw [if_neg hc] at h
                    refine mm_aload_n C dX12_seeks_139 rfl 2 rfl 140 rfl ?_
                    refine mm_iload C dX12_seeks_140 6 rfl 142 rfl ?_
                    obtain ⟨G31, eG31, h⟩ := me h
                    refine mm_put (x := v10) (ty := .int) C fl_X12_183_X12 (by decide) (mc_97 k _) (mc_97 k _) tyX12 tyX12_ok nmX12 rfl (by decide +kernel) rfl rfl (Nat.le_of_ble_eq_true rfl) eG31 dX12_seeks_142 145 rfl ?_
                    refine mm_aload_n C dX12_seeks_145 rfl 2 rfl 146 rfl ?_
                    refine mm_iload C dX12_seeks_146 0 rfl 148 rfl ?_
                    obtain ⟨G32, eG32, h⟩ := me h
                    refine mm_put (x := x26) (ty := .int) C fl_X12_186_X12 (by decide) (mc_97 k _) (mc_97 k _) tyX12 tyX12_ok nmX12 rfl (by decide +kernel) rfl rfl (Nat.le_of_ble_eq_true rfl) eG32 dX12_seeks_148 151 rfl ?_
                    refine mm_aload_n C dX12_seeks_151 rfl 2 rfl 152 rfl ?_
                    refine mm_iload C dX12_seeks_152 1 rfl 154 rfl ?_
                    obtain ⟨G33, eG33, h⟩ := me h
                    refine mm_put (x := x24) (ty := .int) C fl_X12_189_X12 (by decide) (mc_97 k _) (mc_97 k _) tyX12 tyX12_ok nmX12 rfl (by decide +kernel) rfl rfl (Nat.le_of_ble_eq_true rfl) eG33 dX12_seeks_154 157 rfl ?_
                    refine mm_lv [2, 3, 4, 5, 6] rfl ?_
                    exact hR157 _ h
          · intro K2 hR h
            exact hL62 K2 hR 300 _ _ _ h
    refine mj1 h (fun (G36 : mmS) => mm_AW z k 8 none F1 G36 163 [] []) ?_ ?_
    · intro G36 h
      exact mm_vretW C (h) dX12_seeks_163
    · intro K2 hR h
      exact hL42 K2 hR 300 _ _ h
  · intro K2 hR h
    exact hL5 K2 hR 300 _ _ h
def m_X12_worst_97 (F : mmS) (a1 : Int32) (a2 : Int32) : Option (Int32 × mmS) :=
  Option.bind (m_X12_in a1 (0 : Int32) (2 : Int32)) fun x1 => if x1 = (0 : Int32) then (some ((-2 : Int32), F)) else (Option.bind (m_X12_in a2 (1 : Int32) (3 : Int32)) fun x2 => if x2 = (0 : Int32) then (some ((-2 : Int32), F)) else (Option.bind (m_X12_seeks_97 F a1 a2) fun G3 => some ((G3 97 20), G3)))
set_option maxHeartbeats 4000000 in
set_option maxRecDepth 100000 in
theorem c_X12_worst_97 {l : Launch} {k : mmK} {F : mmS} {a1 : Int32} {a2 : Int32} {r : Int32} {F1 : mmS} (h : m_X12_worst_97 F a1 a2 = some (r, F1)) : mm_T l k yX12_worst cX12_worst 3 (some .int) 8 [.ref (mmad k 97), .int a1, .int a2] F (some (.int r)) F1 := by
  refine mm_start [(0, .ref (mmad k 97)), (1, .int a1), (2, .int a2)] (by decide) (Nat.le_of_ble_eq_true rfl) rfl ?_
  intro z hz C
  subst hz
  have C : mm_C z k RX12 cX12_worst 3 (some .int) 8 := C
  replace h := mk0 h
  unfold m_X12_worst_97 at h
  refine mm_iload_n C dX12_worst_0 rfl 1 rfl 1 rfl ?_
  refine mm_iconst (v := (0 : Int32)) C dX12_worst_1 (by decide) 2 rfl ?_
  refine mm_iconst (v := (2 : Int32)) C dX12_worst_2 (by decide) 3 rfl ?_
  obtain ⟨x1, ex1, h⟩ := mb h
  refine mm_callS [.int a1, .int (0 : Int32), .int (2 : Int32)] C (c_X12_in ex1) wb_X12_in ws_X12_69 rfl (by omega) rfl (Nat.le_of_ble_eq_true rfl) dX12_worst_3 6 rfl ?_
  show mm_AW z k 3 (some (.int r)) F1 F 6 [(0, .ref (mmad k 97)), (1, .int a1), (2, .int a2)] [.int x1]
  refine mm_if_eq C dX12_worst_6 18 9 (by decide) rfl (fun hc => ?_) (fun hc => ?_)
  · rw [if_pos hc] at h
    refine mm_bipush (v := (-2 : Int32)) C dX12_worst_18 (by decide) 20 rfl ?_
    exact mm_iretW C (h) dX12_worst_20
  · rw [if_neg hc] at h
    refine mm_iload_n C dX12_worst_9 rfl 2 rfl 10 rfl ?_
    refine mm_iconst (v := (1 : Int32)) C dX12_worst_10 (by decide) 11 rfl ?_
    refine mm_iconst (v := (3 : Int32)) C dX12_worst_11 (by decide) 12 rfl ?_
    obtain ⟨x2, ex2, h⟩ := mb h
    refine mm_callS [.int a2, .int (1 : Int32), .int (3 : Int32)] C (c_X12_in ex2) wb_X12_in ws_X12_69 rfl (by omega) rfl (Nat.le_of_ble_eq_true rfl) dX12_worst_12 15 rfl ?_
    show mm_AW z k 3 (some (.int r)) F1 F 15 [(0, .ref (mmad k 97)), (1, .int a1), (2, .int a2)] [.int x2]
    refine mm_if_ne C dX12_worst_15 21 18 (by decide) rfl (fun hc => ?_) (fun hc => ?_)
    · rw [if_neg hc] at h
      refine mm_aload_n C dX12_worst_21 rfl 0 rfl 22 rfl ?_
      refine mm_iload_n C dX12_worst_22 rfl 1 rfl 23 rfl ?_
      refine mm_iload_n C dX12_worst_23 rfl 2 rfl 24 rfl ?_
      obtain ⟨G3, eG3, h⟩ := mb h
      refine mm_callV [.int a1, .int a2] C (c_X12_seeks_97 eG3) wb_X12_seeks wv_X12_192 (by decide) (mc_97 k _) rfl rfl rfl (by omega) rfl (Nat.le_of_ble_eq_true rfl) dX12_worst_24 27 rfl ?_
      show mm_AW z k 3 (some (.int r)) F1 G3 27 [(0, .ref (mmad k 97)), (1, .int a1), (2, .int a2)] []
      refine mm_aload_n C dX12_worst_27 rfl 0 rfl 28 rfl ?_
      refine mm_get C fl_X12_183_X12 (by decide) (mc_97 k _) rfl dX12_worst_28 31 rfl ?_
      exact mm_iretW C (h) dX12_worst_31
    · rw [if_pos hc] at h
      refine mm_bipush (v := (-2 : Int32)) C dX12_worst_18 (by decide) 20 rfl ?_
      exact mm_iretW C (h) dX12_worst_20
def m_X12_worstShare_97 (F : mmS) (a1 : Int32) (a2 : Int32) : Option (Int32 × mmS) :=
  Option.bind (m_X12_in a1 (0 : Int32) (2 : Int32)) fun x1 => if x1 = (0 : Int32) then (some ((-2 : Int32), F)) else (Option.bind (m_X12_in a2 (1 : Int32) (3 : Int32)) fun x2 => if x2 = (0 : Int32) then (some ((-2 : Int32), F)) else (Option.bind (m_X12_seeks_97 F a1 a2) fun G3 => if (G3 97 20) = (-1 : Int32) then (some ((-3 : Int32), G3)) else (Option.bind (mdiv ((100 : Int32) * (G3 97 21)) (G3 97 22)) fun x4 => some (x4, G3))))
set_option maxHeartbeats 4000000 in
set_option maxRecDepth 100000 in
theorem c_X12_worstShare_97 {l : Launch} {k : mmK} {F : mmS} {a1 : Int32} {a2 : Int32} {r : Int32} {F1 : mmS} (h : m_X12_worstShare_97 F a1 a2 = some (r, F1)) : mm_T l k yX12_worstShare cX12_worstShare 3 (some .int) 8 [.ref (mmad k 97), .int a1, .int a2] F (some (.int r)) F1 := by
  refine mm_start [(0, .ref (mmad k 97)), (1, .int a1), (2, .int a2)] (by decide) (Nat.le_of_ble_eq_true rfl) rfl ?_
  intro z hz C
  subst hz
  have C : mm_C z k RX12 cX12_worstShare 3 (some .int) 8 := C
  replace h := mk0 h
  unfold m_X12_worstShare_97 at h
  refine mm_iload_n C dX12_worstShare_0 rfl 1 rfl 1 rfl ?_
  refine mm_iconst (v := (0 : Int32)) C dX12_worstShare_1 (by decide) 2 rfl ?_
  refine mm_iconst (v := (2 : Int32)) C dX12_worstShare_2 (by decide) 3 rfl ?_
  obtain ⟨x1, ex1, h⟩ := mb h
  refine mm_callS [.int a1, .int (0 : Int32), .int (2 : Int32)] C (c_X12_in ex1) wb_X12_in ws_X12_69 rfl (by omega) rfl (Nat.le_of_ble_eq_true rfl) dX12_worstShare_3 6 rfl ?_
  show mm_AW z k 3 (some (.int r)) F1 F 6 [(0, .ref (mmad k 97)), (1, .int a1), (2, .int a2)] [.int x1]
  refine mm_if_eq C dX12_worstShare_6 18 9 (by decide) rfl (fun hc => ?_) (fun hc => ?_)
  · rw [if_pos hc] at h
    refine mm_bipush (v := (-2 : Int32)) C dX12_worstShare_18 (by decide) 20 rfl ?_
    exact mm_iretW C (h) dX12_worstShare_20
  · rw [if_neg hc] at h
    refine mm_iload_n C dX12_worstShare_9 rfl 2 rfl 10 rfl ?_
    refine mm_iconst (v := (1 : Int32)) C dX12_worstShare_10 (by decide) 11 rfl ?_
    refine mm_iconst (v := (3 : Int32)) C dX12_worstShare_11 (by decide) 12 rfl ?_
    obtain ⟨x2, ex2, h⟩ := mb h
    refine mm_callS [.int a2, .int (1 : Int32), .int (3 : Int32)] C (c_X12_in ex2) wb_X12_in ws_X12_69 rfl (by omega) rfl (Nat.le_of_ble_eq_true rfl) dX12_worstShare_12 15 rfl ?_
    show mm_AW z k 3 (some (.int r)) F1 F 15 [(0, .ref (mmad k 97)), (1, .int a1), (2, .int a2)] [.int x2]
    refine mm_if_ne C dX12_worstShare_15 21 18 (by decide) rfl (fun hc => ?_) (fun hc => ?_)
    · rw [if_neg hc] at h
      refine mm_aload_n C dX12_worstShare_21 rfl 0 rfl 22 rfl ?_
      refine mm_iload_n C dX12_worstShare_22 rfl 1 rfl 23 rfl ?_
      refine mm_iload_n C dX12_worstShare_23 rfl 2 rfl 24 rfl ?_
      obtain ⟨G3, eG3, h⟩ := mb h
      refine mm_callV [.int a1, .int a2] C (c_X12_seeks_97 eG3) wb_X12_seeks wv_X12_192 (by decide) (mc_97 k _) rfl rfl rfl (by omega) rfl (Nat.le_of_ble_eq_true rfl) dX12_worstShare_24 27 rfl ?_
      show mm_AW z k 3 (some (.int r)) F1 G3 27 [(0, .ref (mmad k 97)), (1, .int a1), (2, .int a2)] []
      refine mm_aload_n C dX12_worstShare_27 rfl 0 rfl 28 rfl ?_
      refine mm_get C fl_X12_183_X12 (by decide) (mc_97 k _) rfl dX12_worstShare_28 31 rfl ?_
      refine mm_iconst (v := (-1 : Int32)) C dX12_worstShare_31 (by decide) 32 rfl ?_
      refine mm_icmp_ne C dX12_worstShare_32 40 35 (by decide) rfl (fun hc => ?_) (fun hc => ?_)
      · rw [if_neg hc] at h
        refine mm_bipush (v := (100 : Int32)) C dX12_worstShare_40 (by decide) 42 rfl ?_
        refine mm_aload_n C dX12_worstShare_42 rfl 0 rfl 43 rfl ?_
        refine mm_get C fl_X12_186_X12 (by decide) (mc_97 k _) rfl dX12_worstShare_43 46 rfl ?_
        refine mm_imul C dX12_worstShare_46 47 rfl ?_
        refine mm_aload_n C dX12_worstShare_47 rfl 0 rfl 48 rfl ?_
        refine mm_get C fl_X12_189_X12 (by decide) (mc_97 k _) rfl dX12_worstShare_48 51 rfl ?_
        obtain ⟨x4, ex4, h⟩ := mb h
        refine mm_idiv C dX12_worstShare_51 ex4 52 rfl ?_
        exact mm_iretW C (h) dX12_worstShare_52
      · rw [if_pos hc] at h
        refine mm_bipush (v := (-3 : Int32)) C dX12_worstShare_35 (by decide) 37 rfl ?_
        refine mm_goto C dX12_worstShare_37 52 (by decide) ?_
        exact mm_iretW C (h) dX12_worstShare_52
    · rw [if_pos hc] at h
      refine mm_bipush (v := (-2 : Int32)) C dX12_worstShare_18 (by decide) 20 rfl ?_
      exact mm_iretW C (h) dX12_worstShare_20
def m_X12_standingAt_97_L7 (a1 : Int32) (F : mmS) : Nat → Int32 → Int32 → Option (Int32)
  | 0, _, _ => none
  | n4 + 1, v2, v3 => if a1 ≤ v3 then (some ((v2))) else (Option.bind (ald F 102 v3) fun x5 => Option.bind (ald F 100 v3) fun x6 => Option.bind (m_X12_with_97 v2 x5 x6) fun x7 => mlet (v3 + (1 : Int32)) fun x8 => m_X12_standingAt_97_L7 a1 F n4 x7 x8)
def m_X12_standingAt_97 (F : mmS) (a1 : Int32) : Option (Int32) :=
  Option.bind (m_X12_begin_97 F) fun x1 => bd1 (m_X12_standingAt_97_L7 a1 F 300 x1 (0 : Int32)) fun y9 => some y9
set_option maxHeartbeats 4000000 in
set_option maxRecDepth 100000 in
theorem c_X12_standingAt_97 {l : Launch} {k : mmK} {F : mmS} {a1 : Int32} {r : Int32} (h : m_X12_standingAt_97 F a1 = some r) : mm_T l k yX12_standingAt cX12_standingAt 4 (some .int) 3 [.ref (mmad k 97), .int a1] F (some (.int r)) F := by
  refine mm_start [(0, .ref (mmad k 97)), (1, .int a1)] (by decide) (Nat.le_of_ble_eq_true rfl) rfl ?_
  intro z hz C
  subst hz
  have C : mm_C z k RX12 cX12_standingAt 4 (some .int) 3 := C
  replace h := mk0 h
  unfold m_X12_standingAt_97 at h
  refine mm_aload_n C dX12_standingAt_0 rfl 0 rfl 1 rfl ?_
  obtain ⟨x1, ex1, h⟩ := mb h
  refine mm_callV [] C (c_X12_begin_97 ex1) wb_X12_begin wv_X12_105 (by decide) (mc_97 k _) rfl rfl rfl (by omega) rfl (Nat.le_of_ble_eq_true rfl) dX12_standingAt_1 4 rfl ?_
  show mm_AW z k 4 (some (.int r)) F F 4 [(0, .ref (mmad k 97)), (1, .int a1)] [.int x1]
  refine mm_istore_n (lv2 := [(2, .int x1), (0, .ref (mmad k 97)), (1, .int a1)]) C dX12_standingAt_4 rfl (by decide) rfl 5 rfl ?_
  refine mm_iconst (v := (0 : Int32)) C dX12_standingAt_5 (by decide) 6 rfl ?_
  refine mm_istore_n (lv2 := [(3, .int (0 : Int32)), (2, .int x1), (0, .ref (mmad k 97)), (1, .int a1)]) C dX12_standingAt_6 rfl (by decide) rfl 7 rfl ?_
  refine mm_lv [2, 3, 1, 0] rfl ?_
  have hL7 : ∀ (K : (Int32) → Option (Int32)) (hK : ∀ (v2 : Int32) , K (v2) = some r → mm_AW z k 4 (some (.int r)) F F 36 [(2, .int v2)] []) (n4 : Nat) (v2 : Int32) (v3 : Int32) , (m_X12_standingAt_97_L7 a1 F n4 v2 v3).bind K = some r → mm_AW z k 4 (some (.int r)) F F 7 [(0, .ref (mmad k 97)), (1, .int a1), (2, .int v2), (3, .int v3)] [] := by
    intro K hK n4
    induction n4 with
    | zero => intro v2 v3 h; rw [m_X12_standingAt_97_L7] at h; cases h
    | succ n4 ih =>
      intro v2 v3 h
      rw [m_X12_standingAt_97_L7] at h
      refine mm_iload_n C dX12_standingAt_7 rfl 3 rfl 8 rfl ?_
      refine mm_iload_n C dX12_standingAt_8 rfl 1 rfl 9 rfl ?_
      refine mm_icmp_ge C dX12_standingAt_9 36 12 (by decide) rfl (fun hc => ?_) (fun hc => ?_)
      · rw [if_pos hc] at h
        refine mm_lv [2] rfl ?_
        exact hK _ h
      · rw [if_neg hc] at h
        refine mm_aload_n C dX12_standingAt_12 rfl 0 rfl 13 rfl ?_
        refine mm_iload_n C dX12_standingAt_13 rfl 2 rfl 14 rfl ?_
        refine mm_aload_n C dX12_standingAt_14 rfl 0 rfl 15 rfl ?_
        refine mm_get C fl_X12_32_X12 (by decide) (mc_97 k _) rfl dX12_standingAt_15 18 rfl ?_
        refine mm_iload_n C dX12_standingAt_18 rfl 3 rfl 19 rfl ?_
        obtain ⟨x5, ex5, h⟩ := mb h
        refine mm_iald C ex5 dX12_standingAt_19 20 rfl ?_
        refine mm_aload_n C dX12_standingAt_20 rfl 0 rfl 21 rfl ?_
        refine mm_get C fl_X12_26_X12 (by decide) (mc_97 k _) rfl dX12_standingAt_21 24 rfl ?_
        refine mm_iload_n C dX12_standingAt_24 rfl 3 rfl 25 rfl ?_
        obtain ⟨x6, ex6, h⟩ := mb h
        refine mm_iald C ex6 dX12_standingAt_25 26 rfl ?_
        obtain ⟨x7, ex7, h⟩ := mb h
        refine mm_callV [.int v2, .int x5, .int x6] C (c_X12_with_97 ex7) wb_X12_with wv_X12_91 (by decide) (mc_97 k _) rfl rfl rfl (by omega) rfl (Nat.le_of_ble_eq_true rfl) dX12_standingAt_26 29 rfl ?_
        show mm_AW z k 4 (some (.int r)) F F 29 [(0, .ref (mmad k 97)), (1, .int a1), (2, .int v2), (3, .int v3)] [.int x7]
        refine mm_istore_n (lv2 := [(2, .int x7), (0, .ref (mmad k 97)), (1, .int a1), (3, .int v3)]) C dX12_standingAt_29 rfl (by decide) rfl 30 rfl ?_
        obtain ⟨x8, ex8, h⟩ := me h
        refine mm_iinc (v := x8) (lv2 := [(3, .int x8), (2, .int x7), (0, .ref (mmad k 97)), (1, .int a1)]) C dX12_standingAt_30 3 rfl (by rw [← ex8]; rfl) (by decide) rfl 33 rfl ?_
        refine mm_goto C dX12_standingAt_33 7 (by decide) ?_
        refine mm_lv [2, 3, 1, 0] rfl ?_
        exact ih _ _ h
  refine mj1 h (fun (y9 : Int32) => mm_AW z k 4 (some (.int r)) F F 36 [(2, .int y9)] []) ?_ ?_
  · intro y9 h
    refine mm_iload_n C dX12_standingAt_36 rfl 0 rfl 37 rfl ?_
    exact mm_iretP C (h) dX12_standingAt_37
  · intro K2 hR h
    exact hL7 K2 hR 300 _ _ h
