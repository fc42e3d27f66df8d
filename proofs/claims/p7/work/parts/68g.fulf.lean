/-- many ticks -/
theorem fl_ta {tt : Prop} {G : Nat → Int32} : ∀ (n : Nat) {f f1 : Nat → Int32} {su t : Nat → Int64} {men men1 e e1 : Int32} {W W1 : fw_W} {x x1 : Nat → fw_C}, f 9 = G 9 → fl_Z tt f su W x → men = e → q_ta G n men f su men1 f1 t → fw_as n x W e x1 W1 e1 → fl_Z tt f1 t W1 x1 ∧ men1 = e1 ∧ f1 9 = f 9 := sorry
