theorem rf_az {x : Int32} : x + 0 = x := sorry
/-! append: the bytes that it leaves -/
def cm_bu (b : Nat → Int32) (bl : Int32) (x : Int64) : Nat → Nat → Int32
  | 0 => b
  | i + 1 => if (cm_byte x (cm_sh i)).toInt32 = 0 then cm_bu b bl x i else upd (cm_bu b bl x i) (bl + cm_cn2 x i).toNatClampNeg (cm_byte x (cm_sh i)).toInt32
def ap_f (b : Nat → Int32) (bl : Int32) (x : Int64) : Nat → Int32 := if bl + cm_cnt x 8 ≤ 800 then cm_bu b bl x 8 else b
theorem ap_4 {b g : Nat → Int32} {x : Int64} {bl yb y4 : Int32} (h : ∃ i9 : Nat, i9 ≤ 8 ∧ y4 = cm_sh i9 ∧ yb = bl + cm_cn2 x i9 ∧ g = cm_bu b bl x i9) (hg : ¬ y4 < 0) (hb : (cm_byte x y4).toInt32 = 0) : ∃ i9 : Nat, i9 ≤ 8 ∧ y4 + Int32.ofInt (-8) = cm_sh i9 ∧ yb = bl + cm_cn2 x i9 ∧ g = cm_bu b bl x i9 := sorry
theorem ap_5 {b g : Nat → Int32} {x : Int64} {bl yb y4 : Int32} (h : ∃ i9 : Nat, i9 ≤ 8 ∧ y4 = cm_sh i9 ∧ yb = bl + cm_cn2 x i9 ∧ g = cm_bu b bl x i9) (hg : ¬ y4 < 0) (hb : ¬ (cm_byte x y4).toInt32 = 0) : ∃ i9 : Nat, i9 ≤ 8 ∧ y4 + Int32.ofInt (-8) = cm_sh i9 ∧ yb + 1 = bl + cm_cn2 x i9 ∧ upd g yb.toNatClampNeg (cm_byte x y4).toInt32 = cm_bu b bl x i9 := sorry
theorem ap_6 {b g : Nat → Int32} {x : Int64} {bl yb y4 : Int32} (h : ∃ i9 : Nat, i9 ≤ 8 ∧ y4 = cm_sh i9 ∧ yb = bl + cm_cn2 x i9 ∧ g = cm_bu b bl x i9) (hn : y4 < 0) : yb = bl + cm_cn2 x 8 ∧ g = cm_bu b bl x 8 := sorry
theorem ap_x {b g : Nat → Int32} {x : Int64} {bl yb y4 : Int32} (h : ∃ i9 : Nat, i9 ≤ 8 ∧ y4 = cm_sh i9 ∧ yb = bl + cm_cn2 x i9 ∧ g = cm_bu b bl x i9) : ∃ i9 : Nat, i9 ≤ 8 ∧ y4 = cm_sh i9 ∧ yb = bl + cm_cn2 x i9 := sorry
theorem ap_r {y : Int32} (h : vp_in y 800) : 0 ≤ y.toInt ∧ y.toInt < 800 := sorry
theorem ap_7 {b : Nat → Int32} {x : Int64} {bl : Int32} (h : bl + cm_cnt x 8 ≤ 800) : cm_bu b bl x 8 = ap_f b bl x := sorry
theorem ap_8 {b : Nat → Int32} {x : Int64} {bl : Int32} (h : ¬ bl + cm_cnt x 8 ≤ 800) : b = ap_f b bl x := sorry
theorem ap_by {b : Nat → Int32} {x : Int64} {bl : Int32} (hm : 0 ≤ bl.toInt ∧ bl.toInt ≤ 800) (h : bl + cm_cnt x 8 ≤ 800) (hb : rp_by b bl) : ∀ i : Nat, i ≤ 8 → rp_by (cm_bu b bl x i) (bl + cm_cn2 x i) := sorry
theorem ap_byf {b : Nat → Int32} {x : Int64} {bl : Int32} (hm : 0 ≤ bl.toInt ∧ bl.toInt ≤ 800) (hb : rp_by b bl) : rp_by (ap_f b bl x) (ty_apb bl x) := sorry
theorem rp_by0 (b : Nat → Int32) : rp_by b 0 := sorry
