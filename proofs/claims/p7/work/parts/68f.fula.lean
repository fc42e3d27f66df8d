/-! the whole of both sides: leaves -/
theorem fl_q {a b r : Int64} (h : a_X10_quotient a b r) (hb : b.toInt ≠ 0) : r = a / b := sorry
theorem fl_m {a b r : Int64} (h : a_X10_remainder a b r) (hb : b.toInt ≠ 0) : r = a - ((a / b) * b) := sorry
theorem fl_td {x s : Int} (hs : 1 ≤ s) : x.tdiv s ≤ (if 0 ≤ x then x else -x) ∧ -(if 0 ≤ x then x else -x) ≤ x.tdiv s := sorry
/-- a division of ints, made over longs -/
theorem fl_d {a b : Int32} (hb : 1 ≤ b.toInt) : (a.toInt64 / b.toInt64).toInt32 = a / b := sorry
theorem fl_cmp {a b r : Int32} (h : a_J6_compare_7cf53 a b r) : (a = b → r = 0) ∧ (a ≤ b → ¬ a = b → r = -1) ∧ (¬ a ≤ b → r = 1) := sorry
/-- what the polarization becomes -/
def fl_P (pol tau pz i : Int32) : Int32 :=
  if ¬ (((i * pol) / 1000) - pz) / tau = 0 then pz + (((i * pol) / 1000) - pz) / tau
  else if (i * pol) / 1000 = pz then pz else if (i * pol) / 1000 ≤ pz then pz + (-1) else pz + 1
theorem fl_Pc {pol tau pz i r : Int32} (ht : 1 ≤ tau.toInt) (h : a_X0_polarize pol tau pz i r) : r = fl_P pol tau pz i := sorry
theorem fl_Pm {f f1 : Nat → Int32} {c i : Int32} (h : q_X11_polarizes f c i f1) : f1 = upd f (244 + 54 * c.toInt.toNat + 8) (fl_P (rf_of f c 14) (rf_of f c 15) (rf_of f c 8) i) := sorry
/-- what the charge and the remainder become -/
def fl_Q (nom efc chg lft i : Int32) : Int32 := if i ≤ 0 then chg + i else if (chg + (((i * efc) + lft) / 1000)) < (2 * nom) then (chg + (((i * efc) + lft) / 1000)) else (2 * nom)
def fl_L (efc lft i : Int32) : Int32 := if i ≤ 0 then lft else ((i * efc) + lft) - ((((i * efc) + lft) / 1000) * 1000)
theorem fl_min {a b : Int32} : (if a < b then a else b) = (if b < a then b else a) := sorry
theorem fl_Mc {nom chg lft efc i chg1 lft1 : Int32} {cin cou cin1 cou1 : Int64} (h : a_X0_moveCharge nom chg lft cin cou efc i chg1 lft1 cin1 cou1) : chg1 = fl_Q nom efc chg lft i ∧ lft1 = fl_L efc lft i ∧ cin1 = (if i ≤ 0 then cin else cin + i.toInt64) ∧ cou1 = (if i ≤ 0 then cou - i.toInt64 else cou) := sorry
theorem fl_ix {c : Int32} (hc : 0 ≤ c.toInt ∧ c.toInt < 6) {k : Int32} {K : Nat} (hk : k.toInt = K) (h7 : K < 7) : ((7 * c) + k).toNatClampNeg = 7 * c.toInt.toNat + K := sorry
theorem fl_sum {su : Nat → Int64} {c k : Int32} {r : Int64} {K : Nat} (hc : 0 ≤ c.toInt ∧ c.toInt < 6) (hk : k.toInt = K) (h7 : K < 7) (h : q_X11_sum su c k r) : r = su (7 * c.toInt.toNat + K) := sorry
theorem fl_put {su t : Nat → Int64} {c k : Int32} {v : Int64} {K : Nat} (hc : 0 ≤ c.toInt ∧ c.toInt < 6) (hk : k.toInt = K) (h7 : K < 7) (h : q_X11_putSum su c k v t) : t = vp_updL su (7 * c.toInt.toNat + K) v := sorry
theorem fl_add {su t : Nat → Int64} {c k : Int32} {v : Int64} {K : Nat} (hc : 0 ≤ c.toInt ∧ c.toInt < 6) (hk : k.toInt = K) (h7 : K < 7) (h : q_X11_adds su c k v t) : t = vp_updL su (7 * c.toInt.toNat + K) (su (7 * c.toInt.toNat + K) + v) := sorry
theorem fl_uL {f : Nat → Int64} {i j : Nat} {v : Int64} : vp_updL f i v j = if j = i then v else f j := sorry
theorem fl_nn {i : Int32} (h : i.toInt ≠ -2 ^ 31) : (- i).toInt64 = - i.toInt64 := sorry
