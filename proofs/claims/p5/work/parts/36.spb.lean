theorem rf_az {x : Int32} : x + 0 = x := Int32.add_zero x
/-! append: the bytes that it leaves -/
def cm_bu (b : Nat → Int32) (bl : Int32) (x : Int64) : Nat → Nat → Int32
  | 0 => b
  | i + 1 => if (cm_byte x (cm_sh i)).toInt32 = 0 then cm_bu b bl x i else upd (cm_bu b bl x i) (bl + cm_cn2 x i).toNatClampNeg (cm_byte x (cm_sh i)).toInt32
def ap_f (b : Nat → Int32) (bl : Int32) (x : Int64) : Nat → Int32 := if bl + cm_cnt x 8 ≤ 800 then cm_bu b bl x 8 else b
theorem ap_4 {b g : Nat → Int32} {x : Int64} {bl yb y4 : Int32} (h : ∃ i9 : Nat, i9 ≤ 8 ∧ y4 = cm_sh i9 ∧ yb = bl + cm_cn2 x i9 ∧ g = cm_bu b bl x i9) (hg : ¬ y4 < 0) (hb : (cm_byte x y4).toInt32 = 0) : ∃ i9 : Nat, i9 ≤ 8 ∧ y4 + Int32.ofInt (-8) = cm_sh i9 ∧ yb = bl + cm_cn2 x i9 ∧ g = cm_bu b bl x i9 := by
  obtain ⟨i, hi, e4, e3, eg⟩ := h
  have hlt := ty_ap0 hi e4 hg
  subst e4
  refine ⟨i + 1, hlt, rfl, ?_, ?_⟩
  · rw [e3]
    exact congrArg (bl + ·) (show (if (cm_byte x (cm_sh i)).toInt32 = 0 then cm_cn2 x i else cm_cn2 x i + 1) = cm_cn2 x i from if_pos hb).symm
  · rw [eg]
    exact (show (if (cm_byte x (cm_sh i)).toInt32 = 0 then cm_bu b bl x i else upd (cm_bu b bl x i) (bl + cm_cn2 x i).toNatClampNeg (cm_byte x (cm_sh i)).toInt32) = cm_bu b bl x i from if_pos hb).symm
theorem ap_5 {b g : Nat → Int32} {x : Int64} {bl yb y4 : Int32} (h : ∃ i9 : Nat, i9 ≤ 8 ∧ y4 = cm_sh i9 ∧ yb = bl + cm_cn2 x i9 ∧ g = cm_bu b bl x i9) (hg : ¬ y4 < 0) (hb : ¬ (cm_byte x y4).toInt32 = 0) : ∃ i9 : Nat, i9 ≤ 8 ∧ y4 + Int32.ofInt (-8) = cm_sh i9 ∧ yb + 1 = bl + cm_cn2 x i9 ∧ upd g yb.toNatClampNeg (cm_byte x y4).toInt32 = cm_bu b bl x i9 := by
  obtain ⟨i, hi, e4, e3, eg⟩ := h
  have hlt := ty_ap0 hi e4 hg
  subst e4
  refine ⟨i + 1, hlt, rfl, ?_, ?_⟩
  · rw [e3, Int32.add_assoc]
    exact congrArg (bl + ·) (show (if (cm_byte x (cm_sh i)).toInt32 = 0 then cm_cn2 x i else cm_cn2 x i + 1) = cm_cn2 x i + 1 from if_neg hb).symm
  · rw [eg, e3]
    exact (show (if (cm_byte x (cm_sh i)).toInt32 = 0 then cm_bu b bl x i else upd (cm_bu b bl x i) (bl + cm_cn2 x i).toNatClampNeg (cm_byte x (cm_sh i)).toInt32) = _ from if_neg hb).symm
theorem ap_6 {b g : Nat → Int32} {x : Int64} {bl yb y4 : Int32} (h : ∃ i9 : Nat, i9 ≤ 8 ∧ y4 = cm_sh i9 ∧ yb = bl + cm_cn2 x i9 ∧ g = cm_bu b bl x i9) (hn : y4 < 0) : yb = bl + cm_cn2 x 8 ∧ g = cm_bu b bl x 8 := by
  obtain ⟨i, hi, e4, e3, eg⟩ := h
  have e8 := ty_ap9 hi e4 hn
  subst e8
  exact ⟨e3, eg⟩
theorem ap_x {b g : Nat → Int32} {x : Int64} {bl yb y4 : Int32} (h : ∃ i9 : Nat, i9 ≤ 8 ∧ y4 = cm_sh i9 ∧ yb = bl + cm_cn2 x i9 ∧ g = cm_bu b bl x i9) : ∃ i9 : Nat, i9 ≤ 8 ∧ y4 = cm_sh i9 ∧ yb = bl + cm_cn2 x i9 := by
  obtain ⟨i, hi, e4, e3, eg⟩ := h
  exact ⟨i, hi, e4, e3⟩
theorem ap_r {y : Int32} (h : vp_in y 800) : 0 ≤ y.toInt ∧ y.toInt < 800 := by
  rw [vp_in_iff] at h
  omega
theorem ap_7 {b : Nat → Int32} {x : Int64} {bl : Int32} (h : bl + cm_cnt x 8 ≤ 800) : cm_bu b bl x 8 = ap_f b bl x := (if_pos h).symm
theorem ap_8 {b : Nat → Int32} {x : Int64} {bl : Int32} (h : ¬ bl + cm_cnt x 8 ≤ 800) : b = ap_f b bl x := (if_neg h).symm
theorem ap_by {b : Nat → Int32} {x : Int64} {bl : Int32} (hm : 0 ≤ bl.toInt ∧ bl.toInt ≤ 800) (h : bl + cm_cnt x 8 ≤ 800) (hb : rp_by b bl) : ∀ i : Nat, i ≤ 8 → rp_by (cm_bu b bl x i) (bl + cm_cn2 x i)
  | 0, _ => by
    have e : bl + cm_cn2 x 0 = bl := Int32.add_zero bl
    rw [e]
    exact hb
  | i + 1, hi => by
    have ih := ap_by hm h hb i (by omega)
    have a := rf_ap8 hm h
    have a0 := a.2 i (by omega)
    have a1 := a.2 (i + 1) hi
    have l0 := cm_cn2_le x i (by omega)
    by_cases q : (cm_byte x (cm_sh i)).toInt32 = 0
    · have e1 : cm_bu b bl x (i + 1) = cm_bu b bl x i := if_pos q
      have e2 : cm_cn2 x (i + 1) = cm_cn2 x i := if_pos q
      rw [e1, e2]
      exact ih
    · have e1 : cm_bu b bl x (i + 1) = upd (cm_bu b bl x i) (bl + cm_cn2 x i).toNatClampNeg (cm_byte x (cm_sh i)).toInt32 := if_neg q
      have s := (rf_cs x i (by omega)).2 q
      intro j hj
      rw [e1]
      have ec : (bl + cm_cn2 x i).toNatClampNeg = (bl + cm_cn2 x i).toInt.toNat := rfl
      by_cases z : j = (bl + cm_cn2 x i).toNatClampNeg
      · rw [z, rf_upd_eq]
        have w : 0 ≤ (cm_byte x (cm_sh i)).toInt ∧ (cm_byte x (cm_sh i)).toInt ≤ 255 := rf_and255 _
        have e : (cm_byte x (cm_sh i)).toInt32.toInt = (cm_byte x (cm_sh i)).toInt := Jvm.Kit.i32_of_i64 (by omega) (by omega)
        have n0 : ¬ (cm_byte x (cm_sh i)).toInt32.toInt = 0 := fun y => q (Int32.toInt_inj.mp (y.trans (by decide)))
        omega
      · rw [rf_upd_ne z]
        exact ih j (by omega)
theorem ap_byf {b : Nat → Int32} {x : Int64} {bl : Int32} (hm : 0 ≤ bl.toInt ∧ bl.toInt ≤ 800) (hb : rp_by b bl) : rp_by (ap_f b bl x) (ty_apb bl x) := by
  unfold ap_f ty_apb
  by_cases h : bl + cm_cnt x 8 ≤ 800
  · rw [if_pos h, if_pos h]
    exact ap_by hm h hb 8 (by omega)
  · rw [if_neg h, if_neg h]
    exact hb
theorem rp_by0 (b : Nat → Int32) : rp_by b 0 := fun j hj => absurd hj (by have z : (0 : Int32).toInt = 0 := (by decide); omega)
