/-! the whole of both sides: leaves -/
theorem fl_q {a b r : Int64} (h : a_X10_quotient a b r) (hb : b.toInt ≠ 0) : r = a / b := by
  rcases h with ⟨_, h⟩ | ⟨h, _⟩
  · exact h
  · have := (lg_cmp_eq b 0).mp h
    subst this
    exact absurd rfl hb
theorem fl_m {a b r : Int64} (h : a_X10_remainder a b r) (hb : b.toInt ≠ 0) : r = a - ((a / b) * b) := by
  rcases h with ⟨_, h⟩ | ⟨h, _⟩
  · exact h
  · have := (lg_cmp_eq b 0).mp h
    subst this
    exact absurd rfl hb
theorem fl_td {x s : Int} (hs : 1 ≤ s) : x.tdiv s ≤ (if 0 ≤ x then x else -x) ∧ -(if 0 ≤ x then x else -x) ≤ x.tdiv s := by
  have k : ∀ y : Int, 0 ≤ y → 0 ≤ y.tdiv s ∧ y.tdiv s ≤ y := fun y hy => by
    rw [Int.tdiv_eq_ediv_of_nonneg hy]
    exact ⟨Int.ediv_nonneg hy (by omega), Int.ediv_le_self s hy⟩
  by_cases h : 0 ≤ x
  · have := k x h
    rw [if_pos h]
    omega
  · have e : x.tdiv s = -((-x).tdiv s) := by rw [Int.neg_tdiv, Int.neg_neg]
    have := k (-x) (by omega)
    rw [if_neg h, e]
    omega
/-- a division of ints, made over longs -/
theorem fl_d {a b : Int32} (hb : 1 ≤ b.toInt) : (a.toInt64 / b.toInt64).toInt32 = a / b := by
  refine Int32.toInt.inj ?_
  have h1 := Int32.toInt_lt a
  have h2 := Int32.le_toInt a
  have e : (a.toInt64 / b.toInt64).toInt = a.toInt.tdiv b.toInt := by
    rw [Jvm.Kit.i64_div (by rw [Jvm.Kit.i64_of_i32]; omega), Jvm.Kit.i64_of_i32, Jvm.Kit.i64_of_i32]
  have t := fl_td (x := a.toInt) hb
  rw [Jvm.Kit.i32_div (by omega), Jvm.Kit.i32_of_i64 (by rw [e]; split at t <;> omega) (by
    rw [e]
    by_cases q : 0 ≤ a.toInt
    · rw [if_pos q] at t; omega
    · have : a.toInt.tdiv b.toInt ≤ 0 := by
        have e2 : a.toInt.tdiv b.toInt = -((-a.toInt).tdiv b.toInt) := by rw [Int.neg_tdiv, Int.neg_neg]
        rw [e2]
        have := Int.tdiv_nonneg (a := -a.toInt) (b := b.toInt) (by omega) (by omega)
        omega
      omega), e]
theorem fl_cmp {a b r : Int32} (h : a_J6_compare_7cf53 a b r) : (a = b → r = 0) ∧ (a ≤ b → ¬ a = b → r = -1) ∧ (¬ a ≤ b → r = 1) := by
  rcases h with ⟨h1, ⟨h2, h3⟩ | ⟨h2, h3⟩⟩ | ⟨h1, h3⟩
  · refine ⟨fun e => absurd e h2, fun k n => ?_, fun _ => h3⟩
    exact absurd (Int32.le_antisymm k h1) h2
  · exact ⟨fun _ => h3, fun _ n => absurd h2 n, fun k => absurd (by rw [h2]; exact Int32.le_refl _) k⟩
  · refine ⟨fun e => absurd (by rw [e]; exact Int32.le_refl _) h1, fun _ _ => h3, fun k => ?_⟩
    rw [Int32.le_iff_toInt_le] at h1 k
    omega
/-- what the polarization becomes -/
def fl_P (pol tau pz i : Int32) : Int32 :=
  if ¬ (((i * pol) / 1000) - pz) / tau = 0 then pz + (((i * pol) / 1000) - pz) / tau
  else if (i * pol) / 1000 = pz then pz else if (i * pol) / 1000 ≤ pz then pz + (-1) else pz + 1
theorem fl_Pc {pol tau pz i r : Int32} (ht : 1 ≤ tau.toInt) (h : a_X0_polarize pol tau pz i r) : r = fl_P pol tau pz i := by
  obtain ⟨q, h1, h2⟩ := h
  have e := fl_q h1 (by rw [Jvm.Kit.i64_of_i32]; omega)
  subst e
  rw [fl_d ht] at h2
  unfold fl_P
  rcases h2 with ⟨n, h2⟩ | ⟨n, c, h3, h2⟩
  · rw [if_pos n]; exact h2
  · rw [if_neg (fun z => z n), h2]
    obtain ⟨k1, k2, k3⟩ := fl_cmp h3
    by_cases a : (i * pol) / 1000 = pz
    · rw [if_pos a, k1 a, Int32.add_zero]
    · rw [if_neg a]
      by_cases b : (i * pol) / 1000 ≤ pz
      · rw [if_pos b, k2 b a]
      · rw [if_neg b, k3 b]
theorem fl_Pm {f f1 : Nat → Int32} {c i : Int32} (h : q_X11_polarizes f c i f1) : f1 = upd f (244 + 54 * c.toInt.toNat + 8) (fl_P (rf_of f c 14) (rf_of f c 15) (rf_of f c 8) i) := by
  unfold fl_P
  rcases h with ⟨n, g, h1, h2⟩ | ⟨n, ⟨a, g, h1, h2⟩ | ⟨a, ⟨b, g, h1, h2⟩ | ⟨b, g, h1, h2⟩⟩⟩
  · rw [if_pos n, h2, h1]
  · rw [if_neg (fun z => z n), if_pos a, h2, h1, n, Int32.add_zero]
  · rw [if_neg (fun z => z n), if_neg a, if_pos b, h2, h1]
  · rw [if_neg (fun z => z n), if_neg a, if_neg b, h2, h1]
/-- what the charge and the remainder become -/
def fl_Q (nom efc chg lft i : Int32) : Int32 := if i ≤ 0 then chg + i else if (chg + (((i * efc) + lft) / 1000)) < (2 * nom) then (chg + (((i * efc) + lft) / 1000)) else (2 * nom)
def fl_L (efc lft i : Int32) : Int32 := if i ≤ 0 then lft else ((i * efc) + lft) - ((((i * efc) + lft) / 1000) * 1000)
theorem fl_min {a b : Int32} : (if a < b then a else b) = (if b < a then b else a) := by
  by_cases h : a < b
  · rw [if_pos h, if_neg (fun k => by rw [Int32.lt_iff_toInt_lt] at h k; omega)]
  · rw [if_neg h]
    by_cases k : b < a
    · rw [if_pos k]
    · rw [if_neg k]
      rw [Int32.lt_iff_toInt_lt] at h k
      exact Int32.toInt_inj.mp (by omega)
theorem fl_Mc {nom chg lft efc i chg1 lft1 : Int32} {cin cou cin1 cou1 : Int64} (h : a_X0_moveCharge nom chg lft cin cou efc i chg1 lft1 cin1 cou1) : chg1 = fl_Q nom efc chg lft i ∧ lft1 = fl_L efc lft i ∧ cin1 = (if i ≤ 0 then cin else cin + i.toInt64) ∧ cou1 = (if i ≤ 0 then cou - i.toInt64 else cou) := by
  unfold fl_Q fl_L
  rcases h with ⟨n, h1, h2, h3, h4⟩ | ⟨n, h1, h2, h3, h4⟩
  · rw [if_pos n, if_pos n, if_pos n, if_pos n]
    exact ⟨h1, h2, h3, h4⟩
  · rw [if_neg n, if_neg n, if_neg n, if_neg n]
    exact ⟨by rw [fl_min]; exact h1, h2, h3, h4⟩
theorem fl_ix {c : Int32} (hc : 0 ≤ c.toInt ∧ c.toInt < 6) {k : Int32} {K : Nat} (hk : k.toInt = K) (h7 : K < 7) : ((7 * c) + k).toNatClampNeg = 7 * c.toInt.toNat + K := by
  have t7 : (7 : Int32).toInt = 7 := by decide
  have e1 : (7 * c).toInt = 7 * c.toInt := by rw [Jvm.Kit.i32_mul (by rw [t7]; omega) (by rw [t7]; omega), t7]
  have e3 : ((7 * c) + k).toInt = 7 * c.toInt + k.toInt := by rw [Jvm.Kit.i32_add (by rw [e1]; omega) (by rw [e1]; omega), e1]
  show ((7 * c) + k).toInt.toNat = _
  omega
theorem fl_sum {su : Nat → Int64} {c k : Int32} {r : Int64} {K : Nat} (hc : 0 ≤ c.toInt ∧ c.toInt < 6) (hk : k.toInt = K) (h7 : K < 7) (h : q_X11_sum su c k r) : r = su (7 * c.toInt.toNat + K) := by
  have e := fl_ix hc hk h7
  rw [← e]
  exact h
theorem fl_put {su t : Nat → Int64} {c k : Int32} {v : Int64} {K : Nat} (hc : 0 ≤ c.toInt ∧ c.toInt < 6) (hk : k.toInt = K) (h7 : K < 7) (h : q_X11_putSum su c k v t) : t = vp_updL su (7 * c.toInt.toNat + K) v := by
  have e := fl_ix hc hk h7
  rw [← e]
  obtain ⟨g, h1, h2⟩ := h
  rw [h2, ← h1]
theorem fl_add {su t : Nat → Int64} {c k : Int32} {v : Int64} {K : Nat} (hc : 0 ≤ c.toInt ∧ c.toInt < 6) (hk : k.toInt = K) (h7 : K < 7) (h : q_X11_adds su c k v t) : t = vp_updL su (7 * c.toInt.toNat + K) (su (7 * c.toInt.toNat + K) + v) := by
  have e := fl_ix hc hk h7
  rw [← e]
  obtain ⟨g, h1, h2⟩ := h
  rw [h2, ← h1]
theorem fl_uL {f : Nat → Int64} {i j : Nat} {v : Int64} : vp_updL f i v j = if j = i then v else f j := rfl
theorem fl_nn {i : Int32} (h : i.toInt ≠ -2 ^ 31) : (- i).toInt64 = - i.toInt64 := by
  refine Int64.toInt.inj ?_
  have h1 := Int32.toInt_lt i
  have h2 := Int32.le_toInt i
  rw [Jvm.Kit.i64_of_i32, Jvm.Kit.i32_neg h, Jvm.Kit.i64_neg (by rw [Jvm.Kit.i64_of_i32]; omega), Jvm.Kit.i64_of_i32]
