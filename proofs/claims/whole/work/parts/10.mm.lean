/-! the layer: one pool of 114 cells; all ints of it are F cell place; a method by its model -/
def mm_G : List Cond := lw_tbl.filter goodWord
theorem mm_in {w : Cond} (h : w ∈ lw_tbl) (hg : goodWord w = true) : w ∈ mm_G := List.mem_filter.mpr ⟨h, hg⟩
theorem mm_good {c c2 : Cond} (h : c2 ∈ mm_G) : GoodIn (c :: mm_G) (c2 :: mm_G) := by
  intro w hw
  have h1 : w ∈ mm_G := by
    rcases List.mem_cons.mp hw with h2 | h2
    · rw [h2]; exact h
    · exact h2
  exact ⟨List.mem_cons_of_mem _ h1, good_of_word (List.mem_filter.mp h1).2⟩
theorem mm_good0 {c2 : Cond} (h : c2 ∈ mm_G) : GoodIn mm_G (c2 :: mm_G) := by
  intro w hw
  have h1 : w ∈ mm_G := by
    rcases List.mem_cons.mp hw with h2 | h2
    · rw [h2]; exact h
    · exact h2
  exact ⟨h1, good_of_word (List.mem_filter.mp h1).2⟩
abbrev mmS : Type := Nat → Nat → Int32
abbrev mmK : Type := va_G × ClassId × ClassId × ClassId × ClassId × (Nat → Nat)
abbrev mmad (k : mmK) : Nat → Nat := k.2.2.2.2.2
def mm_ty (k : mmK) : List (ClassId × FieldType) := [(k.2.1, .int), (k.2.2.1, .boolean), (k.2.2.2.1, .object "ServerLine$Rule"), (k.2.2.2.2.1, .array .int)]
def mm_len (i : Nat) : Nat := ([0, 0, 6, 3, 216, 56, 0, 0, 40, 40, 40, 40, 4, 4, 0, 40, 40, 0, 3, 56, 56, 3, 1, 0, 3, 0, 3, 0, 3, 0, 0, 3, 0, 3, 0, 3, 0, 3, 0, 56, 56, 56, 56, 56, 56, 56, 56, 56, 56, 56, 56, 56, 56, 56, 56, 56, 56, 56, 56, 56, 56, 56, 56, 56, 56, 56, 56, 56, 56, 56, 56, 56, 56, 56, 56, 56, 56, 56, 56, 56, 0, 0, 3, 0, 3, 3, 0, 0, 3, 0, 3, 0, 3, 56, 56, 3, 3, 0, 6, 3, 40, 8856, 40, 3, 216, 216, 3, 3, 3, 0, 4, 4, 160, 40] : List Nat).getD i 0
def mm_tab (q j : Nat) : Nat := if q = 7 then 8 + j else if q = 38 then 39 + j else if q = 29 then ([30, 32, 17, 34, 23] : List Nat).getD j 0 else ([87, 89, 91] : List Nat).getD j 0
def mm_lenR (q : Nat) : Nat := if q = 7 then 4 else if q = 38 then 41 else if q = 29 then 5 else if q = 86 then 3 else 0
def mm_obj (k : mmK) (i : Nat) (f : Nat → Int32) : va_E :=
  if i = 0 then .inr (10, [.ref (mmad k 1), .ref (mmad k 6), .ref (mmad k 14), .ref (mmad k 29), .ref (mmad k 17), .ref (mmad k 23), .ref (mmad k 36), .ref (mmad k 80), .ref (mmad k 83)]) else
  if i = 1 then .inr (3, [.int (f 0), .int (f 1), .int (f 2), .int (f 3), .ref (mmad k 2), .ref (mmad k 3), .ref (mmad k 4), .ref (mmad k 5)]) else
  if i = 6 then .inr (7, [.ref (mmad k 7), .ref (mmad k 12), .ref (mmad k 13), .int (f 3)]) else
  if i = 14 then .inr (6, [.ref (mmad k 15), .ref (mmad k 16), .int (f 2)]) else
  if i = 17 then .inr (8, [.ref (mmad k 1), .ref (mmad k 18), .int (f 2), .int (f 3), .ref (mmad k 22), .int (f 5), .int (f 6), .ref (mmad k (f 7).toNatClampNeg), .ref (mmad k (f 8).toNatClampNeg), .ref (mmad k 21)]) else
  if i = 23 then .inr (2, [.ref (mmad k 1), .ref (mmad k 24), .int (f 2), .int (f 3), .ref (mmad k 25), .ref (mmad k 27), .int (f 6)]) else
  if i = 25 then .inr (1, [.ref (mmad k 1), .ref (mmad k 26), .int (f 2), .int (f 3)]) else
  if i = 27 then .inr (5, [.ref (mmad k 1), .ref (mmad k 28), .int (f 2), .int (f 3), .int (f 4)]) else
  if i = 30 then .inr (5, [.ref (mmad k 1), .ref (mmad k 31), .int (f 2), .int (f 3), .int (f 4)]) else
  if i = 32 then .inr (1, [.ref (mmad k 1), .ref (mmad k 33), .int (f 2), .int (f 3)]) else
  if i = 34 then .inr (5, [.ref (mmad k 1), .ref (mmad k 35), .int (f 2), .int (f 3), .int (f 4)]) else
  if i = 36 then .inr (0, [.ref (mmad k 1), .ref (mmad k 37), .int (f 2), .int (f 3), .ref (mmad k 38), .int (f 5), .int (f 6), .int (f 7)]) else
  if i = 80 then .inr (4, [.ref (mmad k 1), .ref (mmad k 81), .ref (mmad k 36)]) else
  if i = 81 then .inr (1, [.ref (mmad k 1), .ref (mmad k 82), .int (f 2), .int (f 3)]) else
  if i = 83 then .inr (9, [.ref (mmad k 1), .ref (mmad k 86), .ref (mmad k 84), .ref (mmad k 85), .int (f 4), .int (f 5), .int (f 6)]) else
  if i = 87 then .inr (5, [.ref (mmad k 1), .ref (mmad k 88), .int (f 2), .int (f 3), .int (f 4)]) else
  if i = 89 then .inr (1, [.ref (mmad k 1), .ref (mmad k 90), .int (f 2), .int (f 3)]) else
  if i = 91 then .inr (8, [.ref (mmad k 1), .ref (mmad k 92), .int (f 2), .int (f 3), .ref (mmad k 96), .int (f 5), .int (f 6), .ref (mmad k (f 7).toNatClampNeg), .ref (mmad k (f 8).toNatClampNeg), .ref (mmad k 95)]) else
  if i = 97 then .inr (11, [.int (f 0), .ref (mmad k 98), .int (f 2), .ref (mmad k 99), .int (f 4), .int (f 5), .ref (mmad k 100), .ref (mmad k 101), .ref (mmad k 102), .ref (mmad k 103), .int (f 10), .int (f 11), .int (f 12), .ref (mmad k 104), .ref (mmad k 105), .ref (mmad k 106), .ref (mmad k 107), .ref (mmad k 108), .int (f 18), .int (f 19), .int (f 20), .int (f 21), .int (f 22), .ref (mmad k 109), .ref (mmad k 110), .ref (mmad k 111), .ref (mmad k 112), .ref (mmad k 113), .int (f 28)]) else
  if i = 7 then .inl (k.2.2.2.2.1, 4, .inr (.inr (.inr (.inr (fun j => some (mmad k (mm_tab 7 j))))))) else
  if i = 29 then .inl (k.2.2.2.1, 5, .inr (.inr (.inr (.inr (fun j => some (mmad k (mm_tab 29 j))))))) else
  if i = 38 then .inl (k.2.2.2.2.1, 41, .inr (.inr (.inr (.inr (fun j => some (mmad k (mm_tab 38 j))))))) else
  if i = 86 then .inl (k.2.2.2.1, 3, .inr (.inr (.inr (.inr (fun j => some (mmad k (mm_tab 86 j))))))) else
  .inl (k.2.2.1, 4, .inl f)
def mm_cell (k : mmK) (i : Nat) (f : Nat → Int32) : va_E := if mm_len i = 0 then mm_obj k i f else .inl (k.2.1, mm_len i, .inl f)
def mm_W (k : mmK) (F : mmS) : va_W := (List.range 114).map (fun i => (mmad k i, mm_cell k i (F i)))
theorem mc_0 (k : mmK) (f : Nat → Int32) : mm_cell k 0 f = .inr (10, [.ref (mmad k 1), .ref (mmad k 6), .ref (mmad k 14), .ref (mmad k 29), .ref (mmad k 17), .ref (mmad k 23), .ref (mmad k 36), .ref (mmad k 80), .ref (mmad k 83)]) := rfl
theorem mc_1 (k : mmK) (f : Nat → Int32) : mm_cell k 1 f = .inr (3, [.int (f 0), .int (f 1), .int (f 2), .int (f 3), .ref (mmad k 2), .ref (mmad k 3), .ref (mmad k 4), .ref (mmad k 5)]) := rfl
theorem mc_6 (k : mmK) (f : Nat → Int32) : mm_cell k 6 f = .inr (7, [.ref (mmad k 7), .ref (mmad k 12), .ref (mmad k 13), .int (f 3)]) := rfl
theorem mc_14 (k : mmK) (f : Nat → Int32) : mm_cell k 14 f = .inr (6, [.ref (mmad k 15), .ref (mmad k 16), .int (f 2)]) := rfl
theorem mc_17 (k : mmK) (f : Nat → Int32) : mm_cell k 17 f = .inr (8, [.ref (mmad k 1), .ref (mmad k 18), .int (f 2), .int (f 3), .ref (mmad k 22), .int (f 5), .int (f 6), .ref (mmad k (f 7).toNatClampNeg), .ref (mmad k (f 8).toNatClampNeg), .ref (mmad k 21)]) := rfl
theorem mc_23 (k : mmK) (f : Nat → Int32) : mm_cell k 23 f = .inr (2, [.ref (mmad k 1), .ref (mmad k 24), .int (f 2), .int (f 3), .ref (mmad k 25), .ref (mmad k 27), .int (f 6)]) := rfl
theorem mc_25 (k : mmK) (f : Nat → Int32) : mm_cell k 25 f = .inr (1, [.ref (mmad k 1), .ref (mmad k 26), .int (f 2), .int (f 3)]) := rfl
theorem mc_27 (k : mmK) (f : Nat → Int32) : mm_cell k 27 f = .inr (5, [.ref (mmad k 1), .ref (mmad k 28), .int (f 2), .int (f 3), .int (f 4)]) := rfl
theorem mc_30 (k : mmK) (f : Nat → Int32) : mm_cell k 30 f = .inr (5, [.ref (mmad k 1), .ref (mmad k 31), .int (f 2), .int (f 3), .int (f 4)]) := rfl
theorem mc_32 (k : mmK) (f : Nat → Int32) : mm_cell k 32 f = .inr (1, [.ref (mmad k 1), .ref (mmad k 33), .int (f 2), .int (f 3)]) := rfl
theorem mc_34 (k : mmK) (f : Nat → Int32) : mm_cell k 34 f = .inr (5, [.ref (mmad k 1), .ref (mmad k 35), .int (f 2), .int (f 3), .int (f 4)]) := rfl
theorem mc_36 (k : mmK) (f : Nat → Int32) : mm_cell k 36 f = .inr (0, [.ref (mmad k 1), .ref (mmad k 37), .int (f 2), .int (f 3), .ref (mmad k 38), .int (f 5), .int (f 6), .int (f 7)]) := rfl
theorem mc_80 (k : mmK) (f : Nat → Int32) : mm_cell k 80 f = .inr (4, [.ref (mmad k 1), .ref (mmad k 81), .ref (mmad k 36)]) := rfl
theorem mc_81 (k : mmK) (f : Nat → Int32) : mm_cell k 81 f = .inr (1, [.ref (mmad k 1), .ref (mmad k 82), .int (f 2), .int (f 3)]) := rfl
theorem mc_83 (k : mmK) (f : Nat → Int32) : mm_cell k 83 f = .inr (9, [.ref (mmad k 1), .ref (mmad k 86), .ref (mmad k 84), .ref (mmad k 85), .int (f 4), .int (f 5), .int (f 6)]) := rfl
theorem mc_87 (k : mmK) (f : Nat → Int32) : mm_cell k 87 f = .inr (5, [.ref (mmad k 1), .ref (mmad k 88), .int (f 2), .int (f 3), .int (f 4)]) := rfl
theorem mc_89 (k : mmK) (f : Nat → Int32) : mm_cell k 89 f = .inr (1, [.ref (mmad k 1), .ref (mmad k 90), .int (f 2), .int (f 3)]) := rfl
theorem mc_91 (k : mmK) (f : Nat → Int32) : mm_cell k 91 f = .inr (8, [.ref (mmad k 1), .ref (mmad k 92), .int (f 2), .int (f 3), .ref (mmad k 96), .int (f 5), .int (f 6), .ref (mmad k (f 7).toNatClampNeg), .ref (mmad k (f 8).toNatClampNeg), .ref (mmad k 95)]) := rfl
theorem mc_97 (k : mmK) (f : Nat → Int32) : mm_cell k 97 f = .inr (11, [.int (f 0), .ref (mmad k 98), .int (f 2), .ref (mmad k 99), .int (f 4), .int (f 5), .ref (mmad k 100), .ref (mmad k 101), .ref (mmad k 102), .ref (mmad k 103), .int (f 10), .int (f 11), .int (f 12), .ref (mmad k 104), .ref (mmad k 105), .ref (mmad k 106), .ref (mmad k 107), .ref (mmad k 108), .int (f 18), .int (f 19), .int (f 20), .int (f 21), .int (f 22), .ref (mmad k 109), .ref (mmad k 110), .ref (mmad k 111), .ref (mmad k 112), .ref (mmad k 113), .int (f 28)]) := rfl
theorem mc_7 (k : mmK) (f : Nat → Int32) : mm_cell k 7 f = .inl (k.2.2.2.2.1, 4, .inr (.inr (.inr (.inr (fun j => some (mmad k (mm_tab 7 j))))))) := rfl
theorem mc_29 (k : mmK) (f : Nat → Int32) : mm_cell k 29 f = .inl (k.2.2.2.1, 5, .inr (.inr (.inr (.inr (fun j => some (mmad k (mm_tab 29 j))))))) := rfl
theorem mc_38 (k : mmK) (f : Nat → Int32) : mm_cell k 38 f = .inl (k.2.2.2.2.1, 41, .inr (.inr (.inr (.inr (fun j => some (mmad k (mm_tab 38 j))))))) := rfl
theorem mc_86 (k : mmK) (f : Nat → Int32) : mm_cell k 86 f = .inl (k.2.2.2.1, 3, .inr (.inr (.inr (.inr (fun j => some (mmad k (mm_tab 86 j))))))) := rfl
theorem mc_109 (k : mmK) (f : Nat → Int32) : mm_cell k 109 f = .inl (k.2.2.1, 4, .inl f) := rfl
theorem ml_2 : mm_len 2 = 6 := rfl
theorem ml_3 : mm_len 3 = 3 := rfl
theorem ml_4 : mm_len 4 = 216 := rfl
theorem ml_5 : mm_len 5 = 56 := rfl
theorem ml_8 : mm_len 8 = 40 := rfl
theorem ml_9 : mm_len 9 = 40 := rfl
theorem ml_10 : mm_len 10 = 40 := rfl
theorem ml_11 : mm_len 11 = 40 := rfl
theorem ml_12 : mm_len 12 = 4 := rfl
theorem ml_13 : mm_len 13 = 4 := rfl
theorem ml_15 : mm_len 15 = 40 := rfl
theorem ml_16 : mm_len 16 = 40 := rfl
theorem ml_18 : mm_len 18 = 3 := rfl
theorem ml_19 : mm_len 19 = 56 := rfl
theorem ml_20 : mm_len 20 = 56 := rfl
theorem ml_21 : mm_len 21 = 3 := rfl
theorem ml_22 : mm_len 22 = 1 := rfl
theorem ml_24 : mm_len 24 = 3 := rfl
theorem ml_26 : mm_len 26 = 3 := rfl
theorem ml_28 : mm_len 28 = 3 := rfl
theorem ml_31 : mm_len 31 = 3 := rfl
theorem ml_33 : mm_len 33 = 3 := rfl
theorem ml_35 : mm_len 35 = 3 := rfl
theorem ml_37 : mm_len 37 = 3 := rfl
theorem ml_39 : mm_len 39 = 56 := rfl
theorem ml_40 : mm_len 40 = 56 := rfl
theorem ml_41 : mm_len 41 = 56 := rfl
theorem ml_42 : mm_len 42 = 56 := rfl
theorem ml_43 : mm_len 43 = 56 := rfl
theorem ml_44 : mm_len 44 = 56 := rfl
theorem ml_45 : mm_len 45 = 56 := rfl
theorem ml_46 : mm_len 46 = 56 := rfl
theorem ml_47 : mm_len 47 = 56 := rfl
theorem ml_48 : mm_len 48 = 56 := rfl
theorem ml_49 : mm_len 49 = 56 := rfl
theorem ml_50 : mm_len 50 = 56 := rfl
theorem ml_51 : mm_len 51 = 56 := rfl
theorem ml_52 : mm_len 52 = 56 := rfl
theorem ml_53 : mm_len 53 = 56 := rfl
theorem ml_54 : mm_len 54 = 56 := rfl
theorem ml_55 : mm_len 55 = 56 := rfl
theorem ml_56 : mm_len 56 = 56 := rfl
theorem ml_57 : mm_len 57 = 56 := rfl
theorem ml_58 : mm_len 58 = 56 := rfl
theorem ml_59 : mm_len 59 = 56 := rfl
theorem ml_60 : mm_len 60 = 56 := rfl
theorem ml_61 : mm_len 61 = 56 := rfl
theorem ml_62 : mm_len 62 = 56 := rfl
theorem ml_63 : mm_len 63 = 56 := rfl
theorem ml_64 : mm_len 64 = 56 := rfl
theorem ml_65 : mm_len 65 = 56 := rfl
theorem ml_66 : mm_len 66 = 56 := rfl
theorem ml_67 : mm_len 67 = 56 := rfl
theorem ml_68 : mm_len 68 = 56 := rfl
theorem ml_69 : mm_len 69 = 56 := rfl
theorem ml_70 : mm_len 70 = 56 := rfl
theorem ml_71 : mm_len 71 = 56 := rfl
theorem ml_72 : mm_len 72 = 56 := rfl
theorem ml_73 : mm_len 73 = 56 := rfl
theorem ml_74 : mm_len 74 = 56 := rfl
theorem ml_75 : mm_len 75 = 56 := rfl
theorem ml_76 : mm_len 76 = 56 := rfl
theorem ml_77 : mm_len 77 = 56 := rfl
theorem ml_78 : mm_len 78 = 56 := rfl
theorem ml_79 : mm_len 79 = 56 := rfl
theorem ml_82 : mm_len 82 = 3 := rfl
theorem ml_84 : mm_len 84 = 3 := rfl
theorem ml_85 : mm_len 85 = 3 := rfl
theorem ml_88 : mm_len 88 = 3 := rfl
theorem ml_90 : mm_len 90 = 3 := rfl
theorem ml_92 : mm_len 92 = 3 := rfl
theorem ml_93 : mm_len 93 = 56 := rfl
theorem ml_94 : mm_len 94 = 56 := rfl
theorem ml_95 : mm_len 95 = 3 := rfl
theorem ml_96 : mm_len 96 = 3 := rfl
theorem ml_98 : mm_len 98 = 6 := rfl
theorem ml_99 : mm_len 99 = 3 := rfl
theorem ml_100 : mm_len 100 = 40 := rfl
theorem ml_101 : mm_len 101 = 8856 := rfl
theorem ml_102 : mm_len 102 = 40 := rfl
theorem ml_103 : mm_len 103 = 3 := rfl
theorem ml_104 : mm_len 104 = 216 := rfl
theorem ml_105 : mm_len 105 = 216 := rfl
theorem ml_106 : mm_len 106 = 3 := rfl
theorem ml_107 : mm_len 107 = 3 := rfl
theorem ml_108 : mm_len 108 = 3 := rfl
theorem ml_110 : mm_len 110 = 4 := rfl
theorem ml_111 : mm_len 111 = 4 := rfl
theorem ml_112 : mm_len 112 = 160 := rfl
theorem ml_113 : mm_len 113 = 40 := rfl
theorem mm_len_lt {i : Nat} (h : mm_len i ≠ 0) : i < 114 := by
  rcases Nat.lt_or_ge i 114 with q | q
  · exact q
  · exact absurd (by unfold mm_len; rw [List.getD_eq_getElem?_getD, List.getElem?_eq_none (by simpa using q)]; rfl) h
theorem mm_arr {k : mmK} {i : Nat} {f : Nat → Int32} (h : mm_len i ≠ 0) : mm_cell k i f = .inl (k.2.1, mm_len i, .inl f) := if_neg h
theorem mm_at (k : mmK) (F : mmS) {i : Nat} (h : i < 114) : (mm_W k F)[i]? = some (mmad k i, mm_cell k i (F i)) := by
  unfold mm_W
  rw [List.getElem?_map, List.getElem?_range h]
  rfl
theorem mm_set (k : mmK) (F : mmS) {i : Nat} (h : i < 114) (f : Nat → Int32) : (mm_W k F).set i (mmad k i, mm_cell k i f) = mm_W k (va_up F i f) := by
  apply List.ext_getElem?
  intro j
  rw [List.getElem?_set]
  have hl : (mm_W k F).length = 114 := by simp [mm_W]
  by_cases hij : i = j
  · subst hij
    rw [if_pos rfl, if_pos (by rw [hl]; exact h), mm_at k _ h, va_up_self]
  · rw [if_neg hij]
    by_cases hj : j < 114
    · rw [mm_at k _ hj, mm_at k _ hj, va_up_ne _ _ (fun q => hij q.symm)]
    · rw [List.getElem?_eq_none (by rw [hl]; omega), List.getElem?_eq_none (by simp [mm_W]; omega)]
def mm_inj (k : mmK) : Prop := ∀ i j : Nat, i < 114 → j < 114 → mmad k i = mmad k j → i = j
def mm_A (k : mmK) : Nat → Prop := fun q => ∃ i : Nat, i < 114 ∧ q = mmad k i
theorem mm_lt {k : mmK} {F : mmS} {i : Nat} {q : Nat × va_E} (h : (mm_W k F)[i]? = some q) : i < 114 ∧ q = (mmad k i, mm_cell k i (F i)) := by
  have hl : i < (mm_W k F).length := (List.getElem?_eq_some_iff.mp h).1
  have h1 : i < 114 := by simpa [mm_W] using hl
  exact ⟨h1, (Option.some.inj ((mm_at k F h1).symm.trans h)).symm⟩
theorem mm_D {k : mmK} (F : mmS) (h : mm_inj k) : va_D (mm_A k) (mm_W k F) := by
  refine ⟨fun i j p q hi hj e => ?_, fun i q hi => ?_⟩
  · obtain ⟨h1, rfl⟩ := mm_lt hi
    obtain ⟨h2, rfl⟩ := mm_lt hj
    exact h i j h1 h2 e
  · obtain ⟨h1, rfl⟩ := mm_lt hi
    exact ⟨i, h1, rfl⟩
def mm_N (U : State) : Prop := va_Nw (.methodLinkNest RX6 40 yX11_isWithin RX11) U ∧ va_Nw (.declares ⟨RX7, "standAtStart", "()V"⟩) U ∧ va_Nw (.declares ⟨RX7, "meet", "(II)V"⟩) U ∧ va_Nw (.declares ⟨RX7, "send", "(II)V"⟩) U ∧ va_Nw (.declares ⟨RX7, "begin", "()V"⟩) U
theorem mm_N.warm {s U : State} (hW : s.WarmedH U.vm) (h : mm_N s) : mm_N U := ⟨va_Nw.warmM hW h.1, va_Nw.warmD hW h.2.1, va_Nw.warmD hW h.2.2.1, va_Nw.warmD hW h.2.2.2.1, va_Nw.warmD hW h.2.2.2.2⟩
theorem mm_N.same {s U : State} (e : s.vm = U.vm) (h : mm_N s) : mm_N U := ⟨va_Nw.same rfl e h.1, va_Nw.same rfl e h.2.1, va_Nw.same rfl e h.2.2.1, va_Nw.same rfl e h.2.2.2.1, va_Nw.same rfl e h.2.2.2.2⟩
def mm_rm (d : Nat) : Room := { frames := d, cells := 0, slots := 0, locals := 40 * d }
def mm_B (k : mmK) (F : mmS) (U : State) : Prop := va_P k.1 vwCl (mm_W k F) U.heap ∧ va_K k.1 vwCl (mm_ty k) U ∧ mm_N U ∧ mm_inj k
def mm_Q (k : mmK) (v0 : Option Value) (F1 : mmS) : Array Value → State → Outcome → State → Prop := fun _ st oc t => oc = .returned v0 ∧ va_P k.1 vwCl (mm_W k F1) t.heap ∧ va_F (mm_A k) st t
/-- the contract: from the pool F the method gives v0 and leaves the pool F1 -/
def mm_T (l : Launch) (k : mmK) (y : MethodName) (cc : ByteArray) (nL : Nat) (ret : Option FieldType) (d : Nat) (av : List Value) (F : mmS) (v0 : Option Value) (F1 : mmS) : Prop :=
  Met l y (.code y cc nL ret :: mm_G) (mm_rm d) (va_Pc av (mm_B k F)) (mm_Q k v0 F1) 0 0 (mm_A k)
abbrev mmZ : Type := Program × Launch × Env × Room × State × MethodId × Array Value × List Frame × Method × Code
def mm_C : mmZ → mmK → String → ByteArray → Nat → Option FieldType → Nat → Prop := fun (p, l, e, R, s, m, args, below, meth, c) k own cc nL ret d =>
  p.tables.exec = Jvm.exec ∧ c.code = cc ∧ meth.sig.returnType = ret ∧ c.maxLocals = nL ∧ s.vm.findClass own = some m.cls ∧ (∀ w ∈ mm_G, w.before args s = true) ∧ va_K k.1 vwCl (mm_ty k) s ∧ mm_N s ∧ mm_inj k ∧ meth.locks = false ∧ R = mm_rm d
def mm_AW : mmZ → mmK → Nat → Option Value → mmS → mmS → Nat → List (Nat × Value) → List Value → Prop := fun (p, l, e, R, s, m, args, below, meth, c) k nL v0 F1 F pc lv st =>
  ∀ (H : Heap) (lc : List Loc) (ls : Array Slot), va_P k.1 vwCl (mm_W k F) H → va_S (mm_A k) s.heap H lc → lv_has ls nL lv → W p l e R s m args below meth c H lc 0 0 (MQ below (mm_Q k v0 F1) args s 0 0 (mm_A k)) (F0 m pc ls st)
def mm_l : mmZ → Launch := fun z => z.2.1
theorem mm_start {l : Launch} {k : mmK} {y : MethodName} {cc : ByteArray} {nL : Nat} {ret : Option FieldType} {d : Nat} {av : List Value} {F : mmS} {v0 : Option Value} {F1 : mmS} (lv : List (Nat × Value)) (hy : plainName y.cls = true) (hn : (lg_sl av).length ≤ nL) (hlv : lv_args 0 av = lv)
    (h : ∀ z : mmZ, mm_l z = l → mm_C z k y.cls cc nL ret d → mm_AW z k nL v0 F1 F 0 lv []) : mm_T l k y cc nL ret d av F v0 F1 := by
  refine Met.ofW (cc := cc) (maxL := nL) (ret := ret) hy rfl ?_
  intro p e s m args below meth c s₁ B hml hv
  obtain ⟨rfl, hP, hK, hN, hI⟩ := hv
  have hts := atoms_spec (ws := .code y cc nL ret :: mm_G) B.pre
  have h1 := h (p, l, e, mm_rm d, s, m, av.toArray, below, meth, c) rfl ⟨B.exec, B.bytes, B.returns, hml, findClass_of_methodNamed B.named, fun w hw => hts w (List.mem_cons_of_mem _ hw), hK, hN, hI, B.notSynchronized, rfl⟩
  have hl := lv_entry av (n := nL) hn
  rw [hlv] at hl
  rw [lg_entry_eq]
  exact h1 s.heap [] _ hP va_S.rf hl

