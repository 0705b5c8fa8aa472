theorem pure_all : ∃ INV : mmS → Prop, lw_Step INV ∧ INV in_F0 := sorry
