theorem fl_tra {las tmp vol low hig hot r : Int32} {o : Bool} (h : a_X1_tripReason las tmp vol low hig hot (if o = true then 1 else 0) r) : r = fl_tr las tmp vol low hig hot o := sorry
theorem fl_trm {f : Nat → Int32} {c r : Int32} (h : q_X11_reasonNow f c r) : r = fl_tr (rf_of f c 3) (rf_of f c 9) (rf_of f c 5) (f 4) (f 5) (f 6) (fl_ov (rf_st3 f c 0) (rf_st3 f c 1) (rf_st3 f c 2) (rf_of f c 3) (rf_of f c 6) (rf_of f c 4) (rf_of f c 5)) := sorry
/-! the records: a row that is shifted, and a ring -/
def fl_v5 (a b d e g : Int32) (m : Nat) : Int32 := if m = 0 then a else if m = 1 then b else if m = 2 then d else if m = 3 then e else g
def fl_rm1 (f f1 : Nat → Int32) (V : Nat → Int32) : Prop := (∀ j : Nat, j < 568 → j ≠ 12 → f1 j = f j) ∧
  ((¬ f 12 = 30 ∧ f1 12 = f 12 + 1 ∧ ∀ j : Nat, 568 ≤ j → j < 718 → f1 j = if 568 + 5 * (f 12).toInt.toNat ≤ j ∧ j < 573 + 5 * (f 12).toInt.toNat then V (j - (568 + 5 * (f 12).toInt.toNat)) else f j) ∨
   (f 12 = 30 ∧ f1 12 = 30 ∧ ∀ j : Nat, 568 ≤ j → j < 718 → f1 j = if 713 ≤ j then V (j - 713) else f (j + 5)))
theorem fl_rix {s k : Int32} {K : Nat} (hs : 0 ≤ s.toInt ∧ s.toInt ≤ 29) (hk : k.toInt = K) (hK : K ≤ 4) : ((568 + (5 * s)) + k).toNatClampNeg = 568 + 5 * s.toInt.toNat + K := sorry
theorem fl_rix0 {s : Int32} (hs : 0 ≤ s.toInt ∧ s.toInt ≤ 29) : (568 + (5 * s)).toNatClampNeg = 568 + 5 * s.toInt.toNat := sorry
/-- five numbers that are written, and the count -/
theorem fl_r5 {f f1 g a1 a2 a3 a4 a5 a6 : Nat → Int32} {s x0 x1 x2 x3 x4 s1 : Int32} (hs : 0 ≤ s.toInt ∧ s.toInt ≤ 29) (h0 : upd g (568 + (5 * s)).toNatClampNeg x0 = a1) (h1 : upd a1 ((568 + (5 * s)) + 1).toNatClampNeg x1 = a2) (h2 : upd a2 ((568 + (5 * s)) + 2).toNatClampNeg x2 = a3) (h3 : upd a3 ((568 + (5 * s)) + 3).toNatClampNeg x3 = a4) (h4 : upd a4 ((568 + (5 * s)) + 4).toNatClampNeg x4 = a5) (h5 : upd a5 (12 : Int32).toNatClampNeg s1 = a6) : ∀ j : Nat, a6 j = if j = 12 then s1 else if 568 + 5 * s.toInt.toNat ≤ j ∧ j < 573 + 5 * s.toInt.toNat then fl_v5 x0 x1 x2 x3 x4 (j - (568 + 5 * s.toInt.toNat)) else g j := sorry
theorem fl_rcm {f f1 : Nat → Int32} {su : Nat → Int64} {c b : Int32} (hc : 0 ≤ c.toInt ∧ c.toInt < 6) (hs : 0 ≤ (f 12).toInt ∧ (f 12).toInt ≤ 30) (h : q_X11_records f su c b f1) : fl_rm1 f f1 (fl_v5 c (su (7 * c.toInt.toNat + 4)).toInt32 (su (7 * c.toInt.toNat + 5)).toInt32 (f 8) (if b = 0 then 0 else 1)) := sorry
