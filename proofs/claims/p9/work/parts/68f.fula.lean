/-! the whole of both sides: leaves -/
theorem fl_q {a b r : Int64} (h : a_X10_quotient a b r) (hb : b.toInt ≠ 0) : r = a / b := by
  rcases h with ⟨_, h⟩ | ⟨h, _⟩
  · exact h
  · have := (lg_cmp_eq b 0).mp h
    subst this
    exact absurd rfl hb
theorem fl_m {a b r : Int64} (h : a_X10_remainder a b r) (hb : b.toInt ≠ 0) : r = a - ((a / b) * b) := by
  rcases h with ⟨_, h⟩ | ⟨h, _⟩
  · exact h
  · have := (lg_cmp_eq b 0).mp h
    subst this
    exact absurd rfl hb
theorem fl_td {x s : Int} (hs : 1 ≤ s) : x.tdiv s ≤ (if 0 ≤ x then x else -x) ∧ -(if 0 ≤ x then x else -x) ≤ x.tdiv s := by
  have k : ∀ y : Int, 0 ≤ y → 0 ≤ y.tdiv s ∧ y.tdiv s ≤ y := fun y hy => by
    rw [Int.tdiv_eq_ediv_of_nonneg hy]
    exact ⟨Int.ediv_nonneg hy (by omega), Int.ediv_le_self s hy⟩
  by_cases h : 0 ≤ x
  · have := k x h
    rw [if_pos h]
    omega
  · have e : x.tdiv s = -((-x).tdiv s) := by rw [Int.neg_tdiv, Int.neg_neg]
    have := k (-x) (by omega)
    rw [if_neg h, e]
    omega
/-- a division of ints, made over longs -/
theorem fl_d {a b : Int32} (hb : 1 ≤ b.toInt) : (a.toInt64 / b.toInt64).toInt32 = a / b := by
  refine Int32.toInt.inj ?_
  have h1 := Int32.toInt_lt a
  have h2 := Int32.le_toInt a
  have e : (a.toInt64 / b.toInt64).toInt = a.toInt.tdiv b.toInt := by
    rw [Jvm.Kit.i64_div (by rw [Jvm.Kit.i64_of_i32]; omega), Jvm.Kit.i64_of_i32, Jvm.Kit.i64_of_i32]
  have t := fl_td (x := a.toInt) hb
  rw [Jvm.Kit.i32_div (by omega), Jvm.Kit.i32_of_i64 (by rw [e]; split at t <;> omega) (by
    rw [e]
    by_cases q : 0 ≤ a.toInt
    · rw [if_pos q] at t; omega
    · have : a.toInt.tdiv b.toInt ≤ 0 := by
        have e2 : a.toInt.tdiv b.toInt = -((-a.toInt).tdiv b.toInt) := by rw [Int.neg_tdiv, Int.neg_neg]
        rw [e2]
        have := Int.tdiv_nonneg (a := -a.toInt) (b := b.toInt) (by omega) (by omega)
        omega
      omega), e]
theorem fl_cmp {a b r : Int32} (h : a_J6_compare_7cf53 a b r) : (a = b → r = 0) ∧ (a ≤ b → ¬ a = b → r = -1) ∧ (¬ a ≤ b → r = 1) := by
  rcases h with ⟨h1, ⟨h2, h3⟩ | ⟨h2, h3⟩⟩ | ⟨h1, h3⟩
  · refine ⟨fun e => absurd e h2, fun k n => ?_, fun _ => h3⟩
    exact absurd (Int32.le_antisymm k h1) h2
  · exact ⟨fun _ => h3, fun _ n => absurd h2 n, fun k => absurd (by rw [h2]; exact Int32.le_refl _) k⟩
  · refine ⟨fun e => absurd (by rw [e]; exact Int32.le_refl _) h1, fun _ _ => h3, fun k => ?_⟩
    rw [Int32.le_iff_toInt_le] at h1 k
    omega
/-- what the polarization becomes -/
def fl_P (pol tau pz i : Int32) : Int32 :=
  if ¬ (((i * pol) / 1000) - pz) / tau = 0 then pz + (((i * pol) / 1000) - pz) / tau
  else if (i * pol) / 1000 = pz then pz else if (i * pol) / 1000 ≤ pz then pz + (-1) else pz + 1
theorem fl_Pc {pol tau pz i r : Int32} (ht : 1 ≤ tau.toInt) (h : a_X0_polarize pol tau pz i r) : r = fl_P pol tau pz i := by
  obtain ⟨q, h1, h2⟩ := h
  have e := fl_q h1 (by rw [Jvm.Kit.i64_of_i32]; omega)
  subst e
  rw [fl_d ht] at h2
  unfold fl_P
  rcases h2 with ⟨n, h2⟩ | ⟨n, c, h3, h2⟩
  · rw [if_pos n]; exact h2
  · rw [if_neg (fun z => z n), h2]
    obtain ⟨k1, k2, k3⟩ := fl_cmp h3
    by_cases a : (i * pol) / 1000 = pz
    · rw [if_pos a, k1 a, Int32.add_zero]
    · rw [if_neg a]
      by_cases b : (i * pol) / 1000 ≤ pz
      · rw [if_pos b, k2 b a]
      · rw [if_neg b, k3 b]
theorem fl_Pm {f f1 : Nat → Int32} {c i : Int32} (h : q_X11_polarizes f c i f1) : f1 = upd f (244 + 54 * c.toInt.toNat + 8) (fl_P (rf_of f c 14) (rf_of f c 15) (rf_of f c 8) i) := by
  unfold fl_P
  rcases h with ⟨n, g, h1, h2⟩ | ⟨n, ⟨a, g, h1, h2⟩ | ⟨a, ⟨b, g, h1, h2⟩ | ⟨b, g, h1, h2⟩⟩⟩
  · rw [if_pos n, h2, h1]
  · rw [if_neg (fun z => z n), if_pos a, h2, h1, n, Int32.add_zero]
  · rw [if_neg (fun z => z n), if_neg a, if_pos b, h2, h1]
  · rw [if_neg (fun z => z n), if_neg a, if_neg b, h2, h1]
/-- what the charge and the remainder become -/
def fl_Q (nom efc chg lft i : Int32) : Int32 := if i ≤ 0 then chg + i else if (chg + (((i * efc) + lft) / 1000)) < (2 * nom) then (chg + (((i * efc) + lft) / 1000)) else (2 * nom)
def fl_L (efc lft i : Int32) : Int32 := if i ≤ 0 then lft else ((i * efc) + lft) - ((((i * efc) + lft) / 1000) * 1000)
theorem fl_min {a b : Int32} : (if a < b then a else b) = (if b < a then b else a) := by
  by_cases h : a < b
  · rw [if_pos h, if_neg (fun k => by rw [Int32.lt_iff_toInt_lt] at h k; omega)]
  · rw [if_neg h]
    by_cases k : b < a
    · rw [if_pos k]
    · rw [if_neg k]
      rw [Int32.lt_iff_toInt_lt] at h k
      exact Int32.toInt_inj.mp (by omega)
theorem fl_Mc {nom chg lft efc i chg1 lft1 : Int32} {cin cou cin1 cou1 : Int64} (h : a_X0_moveCharge nom chg lft cin cou efc i chg1 lft1 cin1 cou1) : chg1 = fl_Q nom efc chg lft i ∧ lft1 = fl_L efc lft i ∧ cin1 = (if i ≤ 0 then cin else cin + i.toInt64) ∧ cou1 = (if i ≤ 0 then cou - i.toInt64 else cou) := by
  unfold fl_Q fl_L
  rcases h with ⟨n, h1, h2, h3, h4⟩ | ⟨n, h1, h2, h3, h4⟩
  · rw [if_pos n, if_pos n, if_pos n, if_pos n]
    exact ⟨h1, h2, h3, h4⟩
  · rw [if_neg n, if_neg n, if_neg n, if_neg n]
    exact ⟨by rw [fl_min]; exact h1, h2, h3, h4⟩
theorem fl_ix {c : Int32} (hc : 0 ≤ c.toInt ∧ c.toInt < 6) {k : Int32} {K : Nat} (hk : k.toInt = K) (h7 : K < 7) : ((7 * c) + k).toNatClampNeg = 7 * c.toInt.toNat + K := by
  have t7 : (7 : Int32).toInt = 7 := by decide
  have e1 : (7 * c).toInt = 7 * c.toInt := by rw [Jvm.Kit.i32_mul (by rw [t7]; omega) (by rw [t7]; omega), t7]
  have e3 : ((7 * c) + k).toInt = 7 * c.toInt + k.toInt := by rw [Jvm.Kit.i32_add (by rw [e1]; omega) (by rw [e1]; omega), e1]
  show ((7 * c) + k).toInt.toNat = _
  omega
theorem fl_sum {su : Nat → Int64} {c k : Int32} {r : Int64} {K : Nat} (hc : 0 ≤ c.toInt ∧ c.toInt < 6) (hk : k.toInt = K) (h7 : K < 7) (h : q_X11_sum su c k r) : r = su (7 * c.toInt.toNat + K) := by
  have e := fl_ix hc hk h7
  rw [← e]
  exact h
theorem fl_put {su t : Nat → Int64} {c k : Int32} {v : Int64} {K : Nat} (hc : 0 ≤ c.toInt ∧ c.toInt < 6) (hk : k.toInt = K) (h7 : K < 7) (h : q_X11_putSum su c k v t) : t = vp_updL su (7 * c.toInt.toNat + K) v := by
  have e := fl_ix hc hk h7
  rw [← e]
  obtain ⟨g, h1, h2⟩ := h
  rw [h2, ← h1]
theorem fl_add {su t : Nat → Int64} {c k : Int32} {v : Int64} {K : Nat} (hc : 0 ≤ c.toInt ∧ c.toInt < 6) (hk : k.toInt = K) (h7 : K < 7) (h : q_X11_adds su c k v t) : t = vp_updL su (7 * c.toInt.toNat + K) (su (7 * c.toInt.toNat + K) + v) := by
  have e := fl_ix hc hk h7
  rw [← e]
  obtain ⟨g, h1, h2⟩ := h
  rw [h2, ← h1]
theorem fl_uL {f : Nat → Int64} {i j : Nat} {v : Int64} : vp_updL f i v j = if j = i then v else f j := rfl
theorem fl_nn {i : Int32} (h : i.toInt ≠ -2 ^ 31) : (- i).toInt64 = - i.toInt64 := by
  refine Int64.toInt.inj ?_
  have h1 := Int32.toInt_lt i
  have h2 := Int32.le_toInt i
  rw [Jvm.Kit.i64_of_i32, Jvm.Kit.i32_neg h, Jvm.Kit.i64_neg (by rw [Jvm.Kit.i64_of_i32]; omega), Jvm.Kit.i64_of_i32]
theorem fl_Mm {f f1 : Nat → Int32} {su t : Nat → Int64} {c i : Int32} (hc : 0 ≤ c.toInt ∧ c.toInt < 6) (hi : i.toInt ≠ -2 ^ 31) (h : q_X11_moves f su c i f1 t) : f1 = upd (upd f (244 + 54 * c.toInt.toNat + 6) (fl_Q (rf_of f c 12) (f 0) (rf_of f c 6) (rf_of f c 16) i)) (244 + 54 * c.toInt.toNat + 16) (fl_L (f 0) (rf_of f c 16) i)
    ∧ ∀ j : Nat, t j = if j = 7 * c.toInt.toNat + 0 ∨ j = 7 * c.toInt.toNat + 4 then (if i ≤ 0 then su j else su j + i.toInt64) else if j = 7 * c.toInt.toNat + 1 ∨ j = 7 * c.toInt.toNat + 5 then (if i ≤ 0 then su j - i.toInt64 else su j) else su j := by
  unfold fl_Q fl_L
  rcases h with ⟨n, g, h1, t1, h2, t2, h3, h4, h5⟩ | ⟨n, g, h1, g2, h6, t1, h2, t2, h3, h4, h5⟩
  · rw [if_pos n, if_pos n]
    refine ⟨?_, fun j => ?_⟩
    · rw [h4, h1]
      funext j
      unfold upd
      by_cases q : j = 244 + 54 * c.toInt.toNat + 16
      · rw [if_pos q, if_neg (by omega), q]
        rfl
      · rw [if_neg q]
    · rw [h5, fl_add hc (k := 5) (K := 5) (by decide) (by decide) h3, fl_add hc (k := 1) (K := 1) (by decide) (by decide) h2, fl_nn hi]
      rw [fl_uL, fl_uL, fl_uL, if_pos n, if_pos n]
      have s : ∀ x y : Int64, x + -y = x - y := fun x y => (Int64.sub_eq_add_neg x y).symm
      by_cases q5 : j = 7 * c.toInt.toNat + 5
      · rw [if_pos q5, if_neg (by omega), if_neg (by omega), if_pos (Or.inr q5), q5, s]
      · rw [if_neg q5]
        by_cases q1 : j = 7 * c.toInt.toNat + 1
        · rw [if_pos q1, if_neg (by omega), if_pos (Or.inl q1), q1, s]
        · rw [if_neg q1, if_neg (show ¬ (j = 7 * c.toInt.toNat + 1 ∨ j = 7 * c.toInt.toNat + 5) from by omega)]
          by_cases q0 : j = 7 * c.toInt.toNat + 0 ∨ j = 7 * c.toInt.toNat + 4
          · rw [if_pos q0]
          · rw [if_neg q0]
  · rw [if_neg n, if_neg n]
    have e16 : rf_of f c 16 = f (244 + 54 * c.toInt.toNat + 16) := rfl
    refine ⟨by rw [h4, h6, h1], fun j => ?_⟩
    rw [h5, fl_add hc (k := 4) (K := 4) (by decide) (by decide) h3, fl_add hc (k := 0) (K := 0) (by decide) (by decide) h2]
    rw [fl_uL, fl_uL, fl_uL, if_neg n, if_neg n]
    by_cases q5 : j = 7 * c.toInt.toNat + 4
    · rw [if_pos q5, if_neg (by omega), if_pos (Or.inr q5), q5]
    · rw [if_neg q5]
      by_cases q1 : j = 7 * c.toInt.toNat + 0
      · rw [if_pos q1, if_pos (Or.inl q1), q1]
      · rw [if_neg q1, if_neg (show ¬ (j = 7 * c.toInt.toNat + 0 ∨ j = 7 * c.toInt.toNat + 4) from by omega)]
        by_cases q0 : j = 7 * c.toInt.toNat + 1 ∨ j = 7 * c.toInt.toNat + 5
        · rw [if_pos q0]
        · rw [if_neg q0]
theorem fl_r {a b : Int32} (hb : 1 ≤ b.toInt) : (a.toInt64 - ((a.toInt64 / b.toInt64) * b.toInt64)).toInt32 = a - ((a / b) * b) := by
  rw [Int64.toInt32_sub, Int64.toInt32_mul, fl_d hb, Int32.toInt32_toInt64, Int32.toInt32_toInt64]
/-- what goes through, and what it leaves -/
def fl_T (thr i : Int32) : Int32 := thr + (if 0 ≤ i then i else -i)
def fl_W (nom cap fad thr i : Int32) : Int32 := if (cap - fl_T thr i / fad) < (nom / 2) then (nom / 2) else (cap - fl_T thr i / fad)
def fl_H (fad thr i : Int32) : Int32 := fl_T thr i - ((fl_T thr i / fad) * fad)
theorem fl_Wc {nom cap thr fad i cap1 thr1 : Int32} (hf : 1 ≤ fad.toInt) (h : a_X0_wear nom cap thr fad i cap1 thr1) : cap1 = fl_W nom cap fad thr i ∧ thr1 = fl_H fad thr i := by
  have hn : fad.toInt64.toInt ≠ 0 := by rw [Jvm.Kit.i64_of_i32]; omega
  unfold fl_W fl_H
  rcases h with ⟨n, q, h1, m, h2, h3, h4⟩ | ⟨n, q, h1, m, h2, h3, h4⟩
  · have e : fl_T thr i = thr + i := by unfold fl_T; rw [if_pos n]
    have e1 := fl_q h1 hn
    have e2 := fl_m h2 hn
    subst e1 e2
    rw [fl_d hf] at h3
    rw [fl_r hf] at h4
    rw [e]
    exact ⟨h3, h4⟩
  · have e : fl_T thr i = thr + (-i) := by unfold fl_T; rw [if_neg n]
    have e1 := fl_q h1 hn
    have e2 := fl_m h2 hn
    subst e1 e2
    rw [fl_d hf] at h3
    rw [fl_r hf] at h4
    rw [e]
    exact ⟨h3, h4⟩
theorem fl_fd {fd h2 : Int32} (hf : 1 ≤ fd.toInt) (hh : 0 ≤ h2.toInt) : ∀ (n : Nat) {t p t1 p1 : Int32}, 0 ≤ t.toInt → h2.toInt ≤ p.toInt → q_fd fd h2 n t p t1 p1 → t1.toInt = t.toInt - n * fd.toInt ∧ 0 ≤ t1.toInt ∧ p1.toInt = (if p.toInt - n < h2.toInt then h2.toInt else p.toInt - n)
  | 0, t, p, t1, p1, ht, hp, h => by
    obtain ⟨e1, e2⟩ := h
    subst e1 e2
    refine ⟨by simp, ht, ?_⟩
    rw [if_neg (by omega)]
    omega
  | n + 1, t, p, t1, p1, ht, hp, h => by
    obtain ⟨u, v, h1, h3, h4, h5⟩ := h
    obtain ⟨k1, k2, k3⟩ := fl_fd hf hh n ht hp h1
    rw [Int32.le_iff_toInt_le] at h3
    have u2 := Int32.toInt_lt u
    have e : (u - fd).toInt = u.toInt - fd.toInt := Jvm.Kit.i32_sub (by omega) (by omega)
    have v2 := Int32.toInt_lt v
    have vl : h2.toInt ≤ v.toInt := by rw [k3]; split <;> omega
    have o : (1 : Int32).toInt = 1 := by decide
    have e9 : (v - 1).toInt = v.toInt - 1 := by rw [Jvm.Kit.i32_sub (by omega) (by omega), o]
    refine ⟨?_, by rw [h4, e]; omega, ?_⟩
    · rw [h4, e, k1, show ((n + 1 : Nat) : Int) = (n : Int) + 1 from by omega, Int.add_mul]
      omega
    · rw [h5]
      by_cases q : h2 < v - 1
      · rw [if_pos q]
        rw [Int32.lt_iff_toInt_lt, e9] at q
        rw [e9, k3]
        rw [k3] at q
        split at q
        · omega
        · rw [if_neg (by omega), if_neg (by omega)]; omega
      · rw [if_neg q]
        rw [Int32.lt_iff_toInt_lt, e9] at q
        rw [k3] at q
        split at q
        · rw [if_pos (by omega)]
        · split <;> omega
theorem fl_Wm {f f1 : Nat → Int32} {c i : Int32} (hf : 1 ≤ (f 1).toInt) (ht : 0 ≤ (fl_T (rf_of f c 18) i).toInt) (h0 : 0 ≤ (rf_of f c 12).toInt) (hp : (rf_of f c 12).toInt / 2 ≤ (rf_of f c 7).toInt) (h : q_X11_fades f c i f1) : f1 = upd (upd f (244 + 54 * c.toInt.toNat + 7) (fl_W (rf_of f c 12) (rf_of f c 7) (f 1) (rf_of f c 18) i)) (244 + 54 * c.toInt.toNat + 18) (fl_H (f 1) (rf_of f c 18) i) := by
  obtain ⟨y, g, ⟨⟨n, h1⟩, h2⟩, h3, g2, h4, h5⟩ := h
  have et : (rf_of f c 18) + (if 0 ≤ i then i else 0 - i) = fl_T (rf_of f c 18) i := by unfold fl_T; rw [Int32.zero_sub]
  obtain ⟨T, hT⟩ : ∃ T : Int32, fl_T (rf_of f c 18) i = T := ⟨_, rfl⟩
  rw [et, hT] at h1
  rw [hT] at ht
  have k2 : (rf_of f c 12 / 2).toInt = (rf_of f c 12).toInt / 2 := by
    have t : (2 : Int32).toInt = 2 := by decide
    rw [Jvm.Kit.i32_div (by omega), t, Int.tdiv_eq_ediv_of_nonneg h0]
  obtain ⟨r1, r2, r3⟩ := fl_fd hf (by rw [k2]; omega) n ht (by rw [k2]; exact hp) h1
  have g1 : g 1 = f 1 := h2 1 (by omega)
  rw [g1, Int32.lt_iff_toInt_lt] at h3
  have T2 := Int32.toInt_lt T
  have f2 := Int32.toInt_lt (f 1)
  have ed : (T / f 1).toInt = T.toInt / (f 1).toInt := by rw [Jvm.Kit.i32_div (by omega), Int.tdiv_eq_ediv_of_nonneg ht]
  have en : (n : Int) = T.toInt / (f 1).toInt := by
    have a1 : T.toInt = y.toInt + (f 1).toInt * n := by rw [r1, Int.mul_comm]; omega
    rw [a1, Int.add_mul_ediv_left _ _ (by omega), Int.ediv_eq_zero_of_lt r2 h3]
    omega
  have ey : y = T - ((T / f 1) * f 1) := by
    refine Int32.toInt.inj ?_
    have m1 : 0 ≤ (T / f 1).toInt := by rw [ed]; exact Int.ediv_nonneg ht (by omega)
    have m3 : (T / f 1).toInt * (f 1).toInt = T.toInt - y.toInt := by rw [ed, ← en]; omega
    have m2 : ((T / f 1) * f 1).toInt = T.toInt - y.toInt := by rw [Jvm.Kit.i32_mul (by rw [m3]; omega) (by rw [m3]; omega), m3]
    rw [Jvm.Kit.i32_sub (by rw [m2]; omega) (by rw [m2]; omega), m2]
    omega
  have p2 := Int32.toInt_lt (rf_of f c 7)
  have n0 : (0 : Int) ≤ T.toInt / (f 1).toInt := Int.ediv_nonneg ht (by omega)
  have n1 : T.toInt / (f 1).toInt ≤ T.toInt := Int.ediv_le_self _ ht
  have es : (rf_of f c 7 - T / f 1).toInt = (rf_of f c 7).toInt - T.toInt / (f 1).toInt := by rw [Jvm.Kit.i32_sub (by rw [ed]; omega) (by rw [ed]; omega), ed]
  have eg : rf_of g c 7 = (if (rf_of f c 7 - T / f 1) < (rf_of f c 12 / 2) then (rf_of f c 12 / 2) else (rf_of f c 7 - T / f 1)) := by
    refine Int32.toInt.inj ?_
    rw [r3, en]
    by_cases q : (rf_of f c 7 - T / f 1) < (rf_of f c 12 / 2)
    · rw [if_pos q]
      rw [Int32.lt_iff_toInt_lt, es] at q
      rw [if_pos q]
    · rw [if_neg q]
      rw [Int32.lt_iff_toInt_lt, es] at q
      rw [if_neg q, es]
  have hW : fl_W (rf_of f c 12) (rf_of f c 7) (f 1) (rf_of f c 18) i = rf_of g c 7 ∧ fl_H (f 1) (rf_of f c 18) i = y := by
    unfold fl_W fl_H
    rw [hT]
    exact ⟨eg.symm, ey.symm⟩
  rw [hW.1, hW.2, h5, h4]
  funext j
  unfold upd
  by_cases q : j = 244 + 54 * c.toInt.toNat + 18
  · rw [if_pos q, if_pos q]
  · rw [if_neg q, if_neg q]
    by_cases q7 : j = 244 + 54 * c.toInt.toNat + 7
    · rw [if_pos q7, q7]; rfl
    · rw [if_neg q7]; exact h2 j q7
/-- which piece of a curve, and the rest voltage -/
def fl_K (pts C q : Int32) : Int32 := (if (pts - 2).toInt64 < (q.toInt64 * ((pts - 1).toInt64)) / C.toInt64 then (pts - 2).toInt64 else (q.toInt64 * ((pts - 1).toInt64)) / C.toInt64).toInt32
def fl_V (cv : Nat → Int32) (pts C q : Int32) : Int32 := cv (fl_K pts C q).toInt.toNat + ((((cv ((fl_K pts C q).toInt.toNat + 1) - cv (fl_K pts C q).toInt.toNat).toInt64) * ((q.toInt64 * ((pts - 1).toInt64)) - ((fl_K pts C q).toInt64 * C.toInt64))) / C.toInt64).toInt32
theorem fl_on {n : Nat} (h : n < 2147483648) : (Int32.ofNat n).toInt = n := Int32.toInt_ofNat_of_lt (by omega)
theorem fl_Kr {n : Nat} {pts C q : Int32} (hp : pts = Int32.ofNat n) (hn : 2 ≤ n ∧ n ≤ 11) (hC : 1 ≤ C.toInt) (hq : 0 ≤ q.toInt) : (pts - 1).toInt = n - 1 ∧ (pts - 2).toInt = n - 2 ∧ 0 ≤ (fl_K pts C q).toInt ∧ (fl_K pts C q).toInt ≤ n - 2 ∧ (fl_K pts C q).toInt ≤ (q.toInt * (n - 1)) / C.toInt := by
  have e : pts.toInt = n := by rw [hp]; exact fl_on (by omega)
  have o1 : (1 : Int32).toInt = 1 := by decide
  have o2 : (2 : Int32).toInt = 2 := by decide
  have e1 : (pts - 1).toInt = n - 1 := by rw [Jvm.Kit.i32_sub (by omega) (by omega), e, o1]
  have e2 : (pts - 2).toInt = n - 2 := by rw [Jvm.Kit.i32_sub (by omega) (by omega), e, o2]
  have q2 := Int32.toInt_lt q
  have m0 : 0 ≤ q.toInt * ((n : Int) - 1) := Int.mul_nonneg hq (by omega)
  have m1 : q.toInt * ((n : Int) - 1) ≤ 2147483648 * 10 := by
    exact Int.mul_le_mul (show q.toInt ≤ 2147483648 by omega) (show (n : Int) - 1 ≤ 10 by omega) (by omega) (by omega)
  have em : (q.toInt64 * ((pts - 1).toInt64)).toInt = q.toInt * ((n : Int) - 1) := by
    rw [Jvm.Kit.i64_mul (by rw [Jvm.Kit.i64_of_i32, Jvm.Kit.i64_of_i32, e1]; omega) (by rw [Jvm.Kit.i64_of_i32, Jvm.Kit.i64_of_i32, e1]; omega), Jvm.Kit.i64_of_i32, Jvm.Kit.i64_of_i32, e1]
  have ed : ((q.toInt64 * ((pts - 1).toInt64)) / C.toInt64).toInt = (q.toInt * ((n : Int) - 1)) / C.toInt := by
    rw [Jvm.Kit.i64_div (by rw [em]; omega), em, Jvm.Kit.i64_of_i32, Int.tdiv_eq_ediv_of_nonneg m0]
  have d0 : 0 ≤ (q.toInt * ((n : Int) - 1)) / C.toInt := Int.ediv_nonneg m0 (by omega)
  refine ⟨e1, e2, ?_⟩
  unfold fl_K
  by_cases z : (pts - 2).toInt64 < (q.toInt64 * ((pts - 1).toInt64)) / C.toInt64
  · rw [if_pos z, Int32.toInt32_toInt64, e2]
    rw [Int64.lt_iff_toInt_lt, Jvm.Kit.i64_of_i32, e2, ed] at z
    omega
  · rw [if_neg z]
    rw [Int64.lt_iff_toInt_lt, Jvm.Kit.i64_of_i32, e2, ed] at z
    rw [Jvm.Kit.i32_of_i64 (by rw [ed]; omega) (by rw [ed]; omega), ed]
    omega
theorem fl_at {b : Nat → Int32} {i r : Int32} {K : Nat} (hi : i.toInt = K) (hK : K < 11) (h : a_X10_at_11 b i r) : r = b K := by
  have t : (11 : Int32).toInt = 11 := by decide
  have z : (0 : Int32).toInt = 0 := by decide
  rcases h with ⟨n, _⟩ | ⟨_, ⟨_, h⟩ | ⟨n, _⟩⟩
  · rw [Int32.lt_iff_toInt_lt] at n; omega
  · rw [h]
    exact congrArg b (by show i.toInt.toNat = K; omega)
  · rw [Int32.lt_iff_toInt_lt] at n; omega
theorem fl_Rc {cv : Nat → Int32} {n : Nat} {pts C q r : Int32} (hp : pts = Int32.ofNat n) (hn : 2 ≤ n ∧ n ≤ 11) (hC : 1 ≤ C.toInt) (hq : 0 ≤ q.toInt) (h : a_X0_restVoltageAt pts C cv q r) : r = fl_V cv pts C q := by
  obtain ⟨_, _, k0, k1, _⟩ := fl_Kr hp hn hC hq
  have hC0 : C.toInt64.toInt ≠ 0 := by rw [Jvm.Kit.i64_of_i32]; omega
  obtain ⟨a, h1, b, h2, c, h3, d, h4, e, h5, h6⟩ := h
  have ea := fl_q h1 hC0
  subst ea
  have o1 : (1 : Int32).toInt = 1 := by decide
  have ek : ((if (pts - 2).toInt64 < q.toInt64 * (pts - 1).toInt64 / C.toInt64 then (pts - 2).toInt64 else q.toInt64 * (pts - 1).toInt64 / C.toInt64).toInt32) = fl_K pts C q := rfl
  rw [ek] at h2 h3 h4 h5
  have i1 : (fl_K pts C q + 1).toInt = ((fl_K pts C q).toInt.toNat + 1 : Nat) := by rw [Jvm.Kit.i32_add (by omega) (by omega), o1]; omega
  have e2 := fl_at i1 (by omega) h2
  have e3 := fl_at (K := (fl_K pts C q).toInt.toNat) (by omega) (by omega) h3
  have e4 := fl_at (K := (fl_K pts C q).toInt.toNat) (by omega) (by omega) h4
  have e5 := fl_q h5 hC0
  rw [h6, Int64.toInt32_add, Int32.toInt32_toInt64, e5, e4, e3, e2]
  rfl
theorem fl_vol {f : Nat → Int32} {u k r : Int32} {v K : Nat} (hu : u = Int32.ofNat v) (hv : v < 4) (hk : k.toInt = K) (hK : K ≤ 10) (h : q_X11_volts f u k r) : r = f (28 + 19 * v + K) := by
  have eu : u.toInt = v := by rw [hu]; exact fl_on (by omega)
  have t19 : (19 : Int32).toInt = 19 := by decide
  have t20 : (20 : Int32).toInt = 20 := by decide
  have t8 : (8 : Int32).toInt = 8 := by decide
  have e1 : (19 * u).toInt = 19 * v := by rw [Jvm.Kit.i32_mul (by rw [t19]; omega) (by rw [t19]; omega), eu, t19]
  have e2 : (20 + (19 * u)).toInt = 20 + 19 * v := by rw [Jvm.Kit.i32_add (by omega) (by omega), e1, t20]
  have e3 : ((20 + (19 * u)) + 8).toInt = 28 + 19 * v := by rw [Jvm.Kit.i32_add (by omega) (by omega), e2, t8]; omega
  have e4 : (((20 + (19 * u)) + 8) + k).toInt = 28 + 19 * v + K := by rw [Jvm.Kit.i32_add (by omega) (by omega), e3, hk]
  rw [show r = _ from h]
  exact congrArg f (by show (((20 + (19 * u)) + 8) + k).toInt.toNat = _; omega)
theorem fl_Rm {f : Nat → Int32} {n v : Nat} {c q r : Int32} (hv : rf_of f c 11 = Int32.ofNat v) (hv4 : v < 4) (hp : f (27 + 19 * v) = Int32.ofNat n) (hn : 2 ≤ n ∧ n ≤ 11) (hC : 1 ≤ (rf_of f c 7).toInt) (hq : 0 ≤ q.toInt) (h : q_X11_restAt f c q r) : r = fl_V (fun j => f (28 + 19 * v + j)) (Int32.ofNat n) (rf_of f c 7) q := by
  obtain ⟨_, _, k0, k1, _⟩ := fl_Kr (pts := Int32.ofNat n) (C := rf_of f c 7) rfl hn hC hq
  have ev : (rf_of f c 11).toInt.toNat = v := by rw [hv, fl_on (by omega)]; omega
  have en : f (20 + 19 * (rf_of f c 11).toInt.toNat + 7) = Int32.ofNat n := by rw [ev, ← hp]; exact congrArg f (by omega)
  obtain ⟨k, h1, a, h2, b, h3, d, h4, h5⟩ := h
  rw [en] at h1 h5
  have e2 : Int32.ofNat n - 1 - 1 = Int32.ofNat n - 2 := by
    refine Int32.toInt.inj ?_
    have e := fl_on (n := n) (by omega)
    have o1 : (1 : Int32).toInt = 1 := by decide
    have o2 : (2 : Int32).toInt = 2 := by decide
    have e1 : (Int32.ofNat n - 1).toInt = n - 1 := by rw [Jvm.Kit.i32_sub (by omega) (by omega), e, o1]
    rw [Jvm.Kit.i32_sub (by omega) (by omega), e1, o1, Jvm.Kit.i32_sub (by omega) (by omega), e, o2]
    omega
  rw [e2] at h1
  have ek : k = fl_K (Int32.ofNat n) (rf_of f c 7) q := h1
  subst ek
  have o1 : (1 : Int32).toInt = 1 := by decide
  have i1 : (fl_K (Int32.ofNat n) (rf_of f c 7) q + 1).toInt = ((fl_K (Int32.ofNat n) (rf_of f c 7) q).toInt.toNat + 1 : Nat) := by rw [Jvm.Kit.i32_add (by omega) (by omega), o1]; omega
  have a2 := fl_vol hv hv4 i1 (by omega) h2
  have a3 := fl_vol (K := (fl_K (Int32.ofNat n) (rf_of f c 7) q).toInt.toNat) hv hv4 (by omega) (by omega) h3
  have a4 := fl_vol (K := (fl_K (Int32.ofNat n) (rf_of f c 7) q).toInt.toNat) hv hv4 (by omega) (by omega) h4
  rw [h5, a2, a3, a4]
  rfl
theorem fl_Vx {a b : Nat → Int32} {n : Nat} {C q : Int32} (hn : 2 ≤ n ∧ n ≤ 11) (hC : 1 ≤ C.toInt) (hq : 0 ≤ q.toInt) (h : ∀ j : Nat, j < n → a j = b j) : fl_V a (Int32.ofNat n) C q = fl_V b (Int32.ofNat n) C q := by
  obtain ⟨_, _, k0, k1, _⟩ := fl_Kr (pts := Int32.ofNat n) (C := C) rfl hn hC hq
  unfold fl_V
  rw [h _ (by omega), h _ (by omega)]
/-- how great it can be -/
theorem fl_Vb {a : Nat → Int32} {n : Nat} {C q : Int32} (hn : 2 ≤ n ∧ n ≤ 11) (hC : 50 ≤ C.toInt) (hq : 0 ≤ q.toInt ∧ q.toInt ≤ 4 * C.toInt + 2) (hC2 : C.toInt ≤ 100000) (h : ∀ j : Nat, j < n → 0 ≤ (a j).toInt ∧ (a j).toInt ≤ 5000) : -205000 ≤ (fl_V a (Int32.ofNat n) C q).toInt ∧ (fl_V a (Int32.ofNat n) C q).toInt ≤ 210000 := by
  obtain ⟨e1, _, k0, k1, k2⟩ := fl_Kr (pts := Int32.ofNat n) (C := C) rfl hn (by omega) hq.1
  have b0 := h (fl_K (Int32.ofNat n) C q).toInt.toNat (by omega)
  have b1 := h ((fl_K (Int32.ofNat n) C q).toInt.toNat + 1) (by omega)
  unfold fl_V
  generalize fl_K (Int32.ofNat n) C q = k at *
  generalize a k.toInt.toNat = x at *
  generalize a (k.toInt.toNat + 1) = y at *
  have er : (y - x).toInt = y.toInt - x.toInt := Jvm.Kit.i32_sub (by omega) (by omega)
  have m0 : 0 ≤ q.toInt * ((n : Int) - 1) := Int.mul_nonneg hq.1 (by omega)
  have m1 : q.toInt * ((n : Int) - 1) ≤ (4 * C.toInt + 2) * 10 := Int.mul_le_mul hq.2 (by omega) (by omega) (by omega)
  have em : (q.toInt64 * ((Int32.ofNat n - 1).toInt64)).toInt = q.toInt * ((n : Int) - 1) := by
    rw [Jvm.Kit.i64_mul (by rw [Jvm.Kit.i64_of_i32, Jvm.Kit.i64_of_i32, e1]; omega) (by rw [Jvm.Kit.i64_of_i32, Jvm.Kit.i64_of_i32, e1]; omega), Jvm.Kit.i64_of_i32, Jvm.Kit.i64_of_i32, e1]
  have c0 : 0 ≤ k.toInt * C.toInt := Int.mul_nonneg k0 (by omega)
  have c1 : k.toInt * C.toInt ≤ q.toInt * ((n : Int) - 1) := by
    have := Int.mul_le_mul_of_nonneg_right k2 (c := C.toInt) (by omega)
    have d := Int.ediv_mul_le (q.toInt * ((n : Int) - 1)) (b := C.toInt) (by omega)
    omega
  have ec : (k.toInt64 * C.toInt64).toInt = k.toInt * C.toInt := by
    rw [Jvm.Kit.i64_mul (by rw [Jvm.Kit.i64_of_i32, Jvm.Kit.i64_of_i32]; omega) (by rw [Jvm.Kit.i64_of_i32, Jvm.Kit.i64_of_i32]; omega), Jvm.Kit.i64_of_i32, Jvm.Kit.i64_of_i32]
  have es : (q.toInt64 * ((Int32.ofNat n - 1).toInt64) - k.toInt64 * C.toInt64).toInt = q.toInt * ((n : Int) - 1) - k.toInt * C.toInt := by
    rw [Jvm.Kit.i64_sub (by rw [em, ec]; omega) (by rw [em, ec]; omega), em, ec]
  have s0 : 0 ≤ q.toInt * ((n : Int) - 1) - k.toInt * C.toInt ∧ q.toInt * ((n : Int) - 1) - k.toInt * C.toInt ≤ 41 * C.toInt := by omega
  generalize q.toInt * ((n : Int) - 1) - k.toInt * C.toInt = s at *
  have p1 : (y.toInt - x.toInt) * s ≤ 5000 * (41 * C.toInt) := by
    have a1 := Int.mul_le_mul_of_nonneg_right (show y.toInt - x.toInt ≤ 5000 by omega) s0.1
    omega
  have p0 : -(5000 * (41 * C.toInt)) ≤ (y.toInt - x.toInt) * s := by
    have a1 := Int.mul_le_mul_of_nonneg_right (show -5000 ≤ y.toInt - x.toInt by omega) s0.1
    omega
  have ep : ((y - x).toInt64 * (q.toInt64 * ((Int32.ofNat n - 1).toInt64) - k.toInt64 * C.toInt64)).toInt = (y.toInt - x.toInt) * s := by
    rw [Jvm.Kit.i64_mul (by rw [Jvm.Kit.i64_of_i32, er, es]; omega) (by rw [Jvm.Kit.i64_of_i32, er, es]; omega), Jvm.Kit.i64_of_i32, er, es]
  have t := rf_tdiv (x := (y.toInt - x.toInt) * s) (s := C.toInt) (B := 205000) (by omega) (by omega) (by omega) (by omega)
  have ed : ((y - x).toInt64 * (q.toInt64 * ((Int32.ofNat n - 1).toInt64) - k.toInt64 * C.toInt64) / C.toInt64).toInt = ((y.toInt - x.toInt) * s).tdiv C.toInt := by
    rw [Jvm.Kit.i64_div (by rw [ep]; omega), ep, Jvm.Kit.i64_of_i32]
  have ef : (((y - x).toInt64 * (q.toInt64 * ((Int32.ofNat n - 1).toInt64) - k.toInt64 * C.toInt64) / C.toInt64).toInt32).toInt = ((y.toInt - x.toInt) * s).tdiv C.toInt := by
    rw [Jvm.Kit.i32_of_i64 (by rw [ed]; omega) (by rw [ed]; omega), ed]
  rw [Jvm.Kit.i32_add (by rw [ef]; omega) (by rw [ef]; omega), ef]
  omega
/-- the current that is left of the one that is wanted -/
def fl_dr (spa hot tmp w : Int32) : Int32 := if spa = 0 then w else if tmp ≤ hot - spa then w else (w * (if 0 < hot - tmp then hot - tmp else 0)) / spa
def fl_A (spa hot tmp chg w : Int32) : Int32 := if fl_dr spa hot tmp w < -chg then -chg else fl_dr spa hot tmp w
theorem fl_i0 {x : Int32} (h : ¬ x = 0) : x.toInt ≠ 0 := fun q => h (Int32.toInt_inj.mp (by rw [q]; rfl))
theorem fl_rm {spa hot tmp : Int32} (hs : 0 ≤ spa.toInt ∧ spa.toInt ≤ 200) (hh : 0 ≤ hot.toInt ∧ hot.toInt ≤ 1000) (h : ¬ tmp ≤ hot - spa) : 0 ≤ (if 0 < hot - tmp then hot - tmp else 0).toInt ∧ (if 0 < hot - tmp then hot - tmp else 0).toInt < spa.toInt + (if spa.toInt = 0 then 1 else 0) := by
  have z : (0 : Int32).toInt = 0 := by decide
  have e : (hot - spa).toInt = hot.toInt - spa.toInt := Jvm.Kit.i32_sub (by omega) (by omega)
  have t2 := Int32.toInt_lt tmp
  rw [Int32.le_iff_toInt_le, e] at h
  have e1 : (hot - tmp).toInt = hot.toInt - tmp.toInt := Jvm.Kit.i32_sub (by omega) (by omega)
  by_cases q : 0 < hot - tmp
  · rw [if_pos q, e1]
    rw [Int32.lt_iff_toInt_lt, z, e1] at q
    split <;> omega
  · rw [if_neg q, z]
    rw [Int32.lt_iff_toInt_lt, z, e1] at q
    split <;> omega
theorem fl_mu {w m : Int32} (hw : -5000 ≤ w.toInt ∧ w.toInt ≤ 5000) (hm : 0 ≤ m.toInt ∧ m.toInt ≤ 200) : (w * m).toInt = w.toInt * m.toInt ∧ -(5000 * m.toInt) ≤ w.toInt * m.toInt ∧ w.toInt * m.toInt ≤ 5000 * m.toInt := by
  have a := Int.mul_le_mul_of_nonneg_right hw.2 hm.1
  have b := Int.mul_le_mul_of_nonneg_right hw.1 hm.1
  refine ⟨Jvm.Kit.i32_mul (by omega) (by omega), by omega, a⟩
theorem fl_drb {spa hot tmp w : Int32} (hw : -5000 ≤ w.toInt ∧ w.toInt ≤ 5000) (hs : 0 ≤ spa.toInt ∧ spa.toInt ≤ 200) (hh : 0 ≤ hot.toInt ∧ hot.toInt ≤ 1000) : -5000 ≤ (fl_dr spa hot tmp w).toInt ∧ (fl_dr spa hot tmp w).toInt ≤ 5000 := by
  unfold fl_dr
  by_cases q : spa = 0
  · rw [if_pos q]; exact hw
  · rw [if_neg q]
    by_cases z : tmp ≤ hot - spa
    · rw [if_pos z]; exact hw
    · rw [if_neg z]
      have hm := fl_rm hs hh z
      have s0 := fl_i0 q
      rw [if_neg s0] at hm
      generalize (if 0 < hot - tmp then hot - tmp else 0) = m at *
      obtain ⟨e, b0, b1⟩ := fl_mu hw (m := m) (by omega)
      have t := rf_tdiv (x := w.toInt * m.toInt) (s := spa.toInt) (B := 5000) (by omega) (by omega) (by omega) (by omega)
      rw [Jvm.Kit.i32_div (by omega), e]
      exact t
theorem fl_Ab {spa hot tmp chg w : Int32} (hw : -5000 ≤ w.toInt ∧ w.toInt ≤ 5000) (hs : 0 ≤ spa.toInt ∧ spa.toInt ≤ 200) (hh : 0 ≤ hot.toInt ∧ hot.toInt ≤ 1000) (hc : 0 ≤ chg.toInt) : -5000 ≤ (fl_A spa hot tmp chg w).toInt ∧ (fl_A spa hot tmp chg w).toInt ≤ 5000 ∧ -chg.toInt ≤ (fl_A spa hot tmp chg w).toInt := by
  have b := fl_drb (tmp := tmp) hw hs hh
  have c2 := Int32.toInt_lt chg
  have e : (-chg).toInt = -chg.toInt := Jvm.Kit.i32_neg (by omega)
  unfold fl_A
  by_cases q : fl_dr spa hot tmp w < -chg
  · rw [if_pos q, e]
    rw [Int32.lt_iff_toInt_lt, e] at q
    omega
  · rw [if_neg q]
    rw [Int32.lt_iff_toInt_lt, e] at q
    omega
theorem fl_Ae {chg x r : Int32} (hx : -5000 ≤ x.toInt ∧ x.toInt ≤ 5000) (hc : 0 ≤ chg.toInt) (h : (0 ≤ x ∧ r = x) ∨ (¬ 0 ≤ x ∧ (((- x) ≤ chg ∧ r = x) ∨ (¬ (- x) ≤ chg ∧ r = (- chg))))) : r = if x < -chg then -chg else x := by
  have c2 := Int32.toInt_lt chg
  have e : (-chg).toInt = -chg.toInt := Jvm.Kit.i32_neg (by omega)
  have ex : (-x).toInt = -x.toInt := Jvm.Kit.i32_neg (by omega)
  have z : (0 : Int32).toInt = 0 := by decide
  rcases h with ⟨a, h⟩ | ⟨a, ⟨b, h⟩ | ⟨b, h⟩⟩
  · rw [Int32.le_iff_toInt_le, z] at a
    rw [if_neg (by rw [Int32.lt_iff_toInt_lt, e]; omega), h]
  · rw [Int32.le_iff_toInt_le, ex] at b
    rw [if_neg (by rw [Int32.lt_iff_toInt_lt, e]; omega), h]
  · rw [Int32.le_iff_toInt_le, ex] at b
    rw [if_pos (by rw [Int32.lt_iff_toInt_lt, e]; omega), h]
theorem fl_Ac {spa hot tmp chg w r : Int32} (hw : -5000 ≤ w.toInt ∧ w.toInt ≤ 5000) (hs : 0 ≤ spa.toInt ∧ spa.toInt ≤ 200) (hh : 0 ≤ hot.toInt ∧ hot.toInt ≤ 1000) (hc : 0 ≤ chg.toInt) (h : a_X0_allowed chg tmp hot spa w r) : r = fl_A spa hot tmp chg w := by
  have b := fl_drb (tmp := tmp) hw hs hh
  unfold fl_A
  unfold fl_dr at *
  rcases h with ⟨q, h⟩ | ⟨q, ⟨z, h⟩ | ⟨z, d, h1, h⟩⟩
  · rw [if_pos q] at *
    exact fl_Ae b hc h
  · rw [if_neg q, if_pos z] at *
    exact fl_Ae b hc h
  · rw [if_neg q, if_neg z] at *
    have hm := fl_rm hs hh z
    have s0 := fl_i0 q
    rw [if_neg s0] at hm
    have e1 := fl_q h1 (by rw [Jvm.Kit.i64_of_i32]; omega)
    generalize (if 0 < hot - tmp then hot - tmp else 0) = m at *
    obtain ⟨e, b0, b1⟩ := fl_mu hw (m := m) (by omega)
    have em : w.toInt64 * m.toInt64 = (w * m).toInt64 := by
      refine Int64.toInt.inj ?_
      rw [Jvm.Kit.i64_mul (by rw [Jvm.Kit.i64_of_i32, Jvm.Kit.i64_of_i32]; omega) (by rw [Jvm.Kit.i64_of_i32, Jvm.Kit.i64_of_i32]; omega), Jvm.Kit.i64_of_i32, Jvm.Kit.i64_of_i32, Jvm.Kit.i64_of_i32, e]
    rw [em] at e1
    have e2 : d.toInt32 = (w * m) / spa := by rw [e1]; exact fl_d (by omega)
    rw [e2] at h
    exact fl_Ae b hc h
theorem fl_Am {f : Nat → Int32} {c w r : Int32} (hr : rf_of f c 0 = 1) (hw : q_X11_wantedOf f c w) (hu : ∀ v : Int32, q_X11_wantedOf f c v → v = w) (h : q_X11_currentOf f c r) : r = fl_A (f 16) (f 6) (rf_of f c 9) (rf_of f c 6) w := by
  unfold fl_A fl_dr
  rcases h with ⟨_, v, h1, h⟩ | ⟨n, _⟩
  · have := hu v h1
    subst this
    rcases h with ⟨q, h⟩ | ⟨q, ⟨z, h⟩ | ⟨z, h⟩⟩
    · rw [if_pos q]; exact h
    · rw [if_neg q, if_pos z]; exact h
    · rw [if_neg q, if_neg z]; exact h
  · exact absurd hr n
theorem fl_48 {b : Nat → Int32} {p s r : Int32} {P S : Nat} (hp : p.toInt = P) (hs : s.toInt = S) (hP : P < 4) (hS : S < 12) (h : a_X10_at_48 b ((p * 12) + s) r) : r = b (12 * P + S) := by
  have t : (12 : Int32).toInt = 12 := by decide
  have t48 : (48 : Int32).toInt = 48 := by decide
  have z : (0 : Int32).toInt = 0 := by decide
  have e1 : (p * 12).toInt = P * 12 := by rw [Jvm.Kit.i32_mul (by rw [t]; omega) (by rw [t]; omega), hp, t]
  have e2 : ((p * 12) + s).toInt = P * 12 + S := by rw [Jvm.Kit.i32_add (by omega) (by omega), e1, hs]
  rcases h with ⟨n, _⟩ | ⟨_, ⟨_, h⟩ | ⟨n, _⟩⟩
  · rw [Int32.lt_iff_toInt_lt] at n; omega
  · rw [h]
    exact congrArg b (by show ((p * 12) + s).toInt.toNat = _; omega)
  · rw [Int32.lt_iff_toInt_lt] at n; omega
theorem fl_kd {b : Nat → Int32} {p s r : Int32} {P S : Nat} (hp : p.toInt = P) (hs : s.toInt = S) (hP : P < 4) (hS : S < 12) (h : a_X5_kindOf b p s r) : r = b (12 * P + S) := by
  obtain ⟨x, h1, h2⟩ := h
  rw [h2]; exact fl_48 hp hs hP hS h1
theorem fl_fs {b : Nat → Int32} {p s r : Int32} {P S : Nat} (hp : p.toInt = P) (hs : s.toInt = S) (hP : P < 4) (hS : S < 12) (h : a_X5_firstOf b p s r) : r = b (12 * P + S) := by
  obtain ⟨x, h1, h2⟩ := h
  rw [h2]; exact fl_48 hp hs hP hS h1
theorem fl_sc {b : Nat → Int32} {p s r : Int32} {P S : Nat} (hp : p.toInt = P) (hs : s.toInt = S) (hP : P < 4) (hS : S < 12) (h : a_X5_secondOf b p s r) : r = b (12 * P + S) := by
  obtain ⟨x, h1, h2⟩ := h
  rw [h2]; exact fl_48 hp hs hP hS h1
theorem fl_so {b : Nat → Int32} {p r : Int32} {P : Nat} (hp : p.toInt = P) (hP : P < 4) (h : a_X5_stepsOf b p r) : r = b P := by
  obtain ⟨x, h1, h2⟩ := h
  have t : (4 : Int32).toInt = 4 := by decide
  have z : (0 : Int32).toInt = 0 := by decide
  rw [h2]
  rcases h1 with ⟨n, _⟩ | ⟨_, ⟨_, h⟩ | ⟨n, _⟩⟩
  · rw [Int32.lt_iff_toInt_lt] at n; omega
  · rw [h]
    exact congrArg b (by show p.toInt.toNat = P; omega)
  · rw [Int32.lt_iff_toInt_lt] at n; omega
/-- the current that holds a voltage -/
def fl_h (held rest pz ohm : Int32) : Int32 := if 0 < (if (((held - rest) - pz) * 1000) / ohm < 5000 then (((held - rest) - pz) * 1000) / ohm else 5000) then (if (((held - rest) - pz) * 1000) / ohm < 5000 then (((held - rest) - pz) * 1000) / ohm else 5000) else 0
theorem fl_hb {held rest pz ohm : Int32} : 0 ≤ (fl_h held rest pz ohm).toInt ∧ (fl_h held rest pz ohm).toInt ≤ 5000 := by
  have t : (5000 : Int32).toInt = 5000 := by decide
  have z : (0 : Int32).toInt = 0 := by decide
  unfold fl_h
  generalize (((held - rest) - pz) * 1000) / ohm = x
  by_cases a : x < 5000
  · rw [if_pos a]
    by_cases b : 0 < x
    · rw [if_pos b]
      rw [Int32.lt_iff_toInt_lt] at a b
      omega
    · rw [if_neg b, z]; omega
  · rw [if_neg a, if_pos (by decide), t]; omega
theorem fl_hc {held rest pz ohm r : Int32} {d : Int64} (ho : 1 ≤ ohm.toInt) (h1 : 0 ≤ held.toInt ∧ held.toInt ≤ 5000) (h2 : -205000 ≤ rest.toInt ∧ rest.toInt ≤ 210000) (h3 : -2500 ≤ pz.toInt ∧ pz.toInt ≤ 2500) (hd : a_X10_quotient (((held.toInt64 - rest.toInt64) - pz.toInt64) * 1000) ohm.toInt64 d) (h : r = (if (if 5000 < d then 5000 else d) < 0 then 0 else (if 5000 < d then 5000 else d)).toInt32) : r = fl_h held rest pz ohm := by
  have t : (5000 : Int32).toInt = 5000 := by decide
  have z : (0 : Int32).toInt = 0 := by decide
  have t6 : (5000 : Int64).toInt = 5000 := by decide
  have z6 : (0 : Int64).toInt = 0 := by decide
  have k6 : (1000 : Int64).toInt = 1000 := by decide
  have k3 : (1000 : Int32).toInt = 1000 := by decide
  have e1 : (held - rest).toInt = held.toInt - rest.toInt := Jvm.Kit.i32_sub (by omega) (by omega)
  have e2 : ((held - rest) - pz).toInt = held.toInt - rest.toInt - pz.toInt := by rw [Jvm.Kit.i32_sub (by omega) (by omega), e1]
  have e3 : (((held - rest) - pz) * 1000).toInt = (held.toInt - rest.toInt - pz.toInt) * 1000 := by rw [Jvm.Kit.i32_mul (by rw [e2, k3]; omega) (by rw [e2, k3]; omega), e2, k3]
  have g1 : (held.toInt64 - rest.toInt64).toInt = held.toInt - rest.toInt := by rw [Jvm.Kit.i64_sub (by rw [Jvm.Kit.i64_of_i32, Jvm.Kit.i64_of_i32]; omega) (by rw [Jvm.Kit.i64_of_i32, Jvm.Kit.i64_of_i32]; omega), Jvm.Kit.i64_of_i32, Jvm.Kit.i64_of_i32]
  have g2 : ((held.toInt64 - rest.toInt64) - pz.toInt64).toInt = held.toInt - rest.toInt - pz.toInt := by rw [Jvm.Kit.i64_sub (by rw [g1, Jvm.Kit.i64_of_i32]; omega) (by rw [g1, Jvm.Kit.i64_of_i32]; omega), g1, Jvm.Kit.i64_of_i32]
  have g3 : (((held.toInt64 - rest.toInt64) - pz.toInt64) * 1000).toInt = (held.toInt - rest.toInt - pz.toInt) * 1000 := by rw [Jvm.Kit.i64_mul (by rw [g2, k6]; omega) (by rw [g2, k6]; omega), g2, k6]
  have ed := fl_q hd (by rw [Jvm.Kit.i64_of_i32]; omega)
  have e4 : ((((held - rest) - pz) * 1000) / ohm).toInt = ((held.toInt - rest.toInt - pz.toInt) * 1000).tdiv ohm.toInt := by rw [Jvm.Kit.i32_div (by omega), e3]
  have g4 : d.toInt = ((held.toInt - rest.toInt - pz.toInt) * 1000).tdiv ohm.toInt := by rw [ed, Jvm.Kit.i64_div (by rw [g3]; omega), g3, Jvm.Kit.i64_of_i32]
  have eg : d.toInt = ((((held - rest) - pz) * 1000) / ohm).toInt := by rw [g4, e4]
  unfold fl_h
  generalize ((((held - rest) - pz) * 1000) / ohm) = x at *
  have x1 := Int32.toInt_lt x
  have x0 := Int32.le_toInt x
  rw [h]
  refine Int32.toInt.inj ?_
  by_cases a : x < 5000
  · have a' : ¬ 5000 < d := by rw [Int64.lt_iff_toInt_lt, t6, eg]; rw [Int32.lt_iff_toInt_lt, t] at a; omega
    rw [if_pos a, if_neg a']
    by_cases b : 0 < x
    · have b' : ¬ d < 0 := by rw [Int64.lt_iff_toInt_lt, z6, eg]; rw [Int32.lt_iff_toInt_lt, z] at b; omega
      rw [if_pos b, if_neg b', Jvm.Kit.i32_of_i64 (by omega) (by omega), eg]
    · rw [if_neg b]
      by_cases b' : d < 0
      · rw [if_pos b']; decide
      · rw [if_neg b', Jvm.Kit.i32_of_i64 (by omega) (by omega), eg, z]
        rw [Int64.lt_iff_toInt_lt, z6, eg] at b'
        rw [Int32.lt_iff_toInt_lt, z] at b
        omega
  · rw [if_neg a, if_pos (show (0 : Int32) < 5000 by decide)]
    by_cases a' : 5000 < d
    · rw [if_pos a', if_neg (show ¬ (5000 : Int64) < 0 by decide)]; decide
    · rw [if_neg a']
      rw [Int64.lt_iff_toInt_lt, t6, eg] at a'
      rw [Int32.lt_iff_toInt_lt, t] at a
      have b' : ¬ d < 0 := by rw [Int64.lt_iff_toInt_lt, z6, eg]; omega
      rw [if_neg b', Jvm.Kit.i32_of_i64 (by omega) (by omega), eg, t]
      omega
/-! a channel's row -/
theorem fl_ofu {f : Nat → Int32} {c v : Int32} {a : Nat} : rf_of (upd f (244 + 54 * c.toInt.toNat + a) v) c = upd (rf_of f c) a v := by
  funext j
  unfold rf_of upd
  by_cases q : j = a
  · rw [if_pos q, if_pos (by omega)]
  · rw [if_neg q, if_neg (by omega)]
/-- all but this channel, the records and the log is the same -/
def fl_out (c : Int32) (f g : Nat → Int32) : Prop := ∀ j : Nat, j < 568 → j ≠ 12 → j ≠ 17 → (j < 244 + 54 * c.toInt.toNat ∨ 244 + 54 * c.toInt.toNat + 54 ≤ j) → g j = f j
theorem fl_outr {c : Int32} {f : Nat → Int32} : fl_out c f f := fun _ _ _ _ _ => rfl
theorem fl_outt {c : Int32} {f g h : Nat → Int32} (a : fl_out c f g) (b : fl_out c g h) : fl_out c f h := fun j h1 h2 h3 h4 => (b j h1 h2 h3 h4).trans (a j h1 h2 h3 h4)
theorem fl_outu {c v : Int32} {f : Nat → Int32} {a : Nat} (h : a < 54) : fl_out c f (upd f (244 + 54 * c.toInt.toNat + a) v) := fun j _ _ _ h4 => rf_upd_ne (by omega)
/-- the numbers that a tick reads beside the channel's own -/
def fl_sm (f g : Nat → Int32) : Prop := ∀ j : Nat, j < 244 → j ≠ 12 → j ≠ 17 → g j = f j
theorem fl_outs {c : Int32} {f g : Nat → Int32} (h : fl_out c f g) : fl_sm f g := fun j h1 h2 h3 => h j (by omega) h2 h3 (Or.inl (by omega))
/-- what a current does to a channel's row -/
def fl_F (E FD HT CO AM : Int32) (cv : Nat → Int32) (n i : Int32) (F : Nat → Int32) : Nat → Int32 :=
  upd (upd (upd (upd (upd (upd (upd (upd (upd F 8 (fl_P (F 14) (F 15) (F 8) i)) 6 (fl_Q (F 12) E (F 6) (F 16) i)) 16 (fl_L E (F 16) i)) 7 (fl_W (F 12) (F 7) FD (F 18) i)) 18 (fl_H FD (F 18) i)) 9 ((F 9) + ((((F 17) + ((((i * i) / 1000) * (F 13)) / 1000)) - (((F 9) - AM) * CO)) / HT))) 17 ((((F 17) + ((((i * i) / 1000) * (F 13)) / 1000)) - (((F 9) - AM) * CO)) - (((((F 17) + ((((i * i) / 1000) * (F 13)) / 1000)) - (((F 9) - AM) * CO)) / HT) * HT))) 4 i) 5
    (((fl_V cv n (fl_W (F 12) (F 7) FD (F 18) i) (fl_Q (F 12) E (F 6) (F 16) i)) + ((i * (F 13)) / 1000)) + fl_P (F 14) (F 15) (F 8) i)
/-- what is known of a channel that a tick passes -/
def fl_ok (f : Nat → Int32) (c : Int32) (n v : Nat) : Prop := ((0 ≤ c.toInt ∧ c.toInt < 6) ∧ (rf_of f c 11 = Int32.ofNat v ∧ v < 4) ∧ (f (27 + 19 * v) = Int32.ofNat n ∧ 2 ≤ n ∧ n ≤ 11)) ∧
  ((100 ≤ (rf_of f c 12).toInt ∧ (rf_of f c 12).toInt ≤ 100000) ∧ (1 ≤ (rf_of f c 13).toInt ∧ (rf_of f c 13).toInt ≤ 500) ∧ (0 ≤ (rf_of f c 14).toInt ∧ (rf_of f c 14).toInt ≤ 500) ∧ (1 ≤ (rf_of f c 15).toInt ∧ (rf_of f c 15).toInt ≤ 200)) ∧
  ((0 ≤ (rf_of f c 6).toInt ∧ (rf_of f c 6).toInt ≤ 2 * (rf_of f c 12).toInt) ∧ ((rf_of f c 12).toInt / 2 ≤ (rf_of f c 7).toInt ∧ (rf_of f c 7).toInt ≤ (rf_of f c 12).toInt) ∧ (0 ≤ (rf_of f c 16).toInt ∧ (rf_of f c 16).toInt ≤ 999) ∧ (0 ≤ (rf_of f c 18).toInt ∧ (rf_of f c 18).toInt ≤ 1000000) ∧ (-2500 ≤ (rf_of f c 8).toInt ∧ (rf_of f c 8).toInt ≤ 2500)) ∧
  ((0 ≤ (f 0).toInt ∧ (f 0).toInt ≤ 1000) ∧ (1 ≤ (f 1).toInt ∧ (f 1).toInt ≤ 1000000) ∧ 1 ≤ (f 2).toInt ∧ (0 ≤ (f 6).toInt ∧ (f 6).toInt ≤ 1000) ∧ (0 ≤ (f 16).toInt ∧ (f 16).toInt ≤ 200)) ∧ ∀ j : Nat, j < n → 0 ≤ (f (28 + 19 * v + j)).toInt ∧ (f (28 + 19 * v + j)).toInt ≤ 5000
/-- the sums behind a current -/
def fl_S (k : Nat) (i V : Int32) (su t : Nat → Int64) : Prop :=
  t (7 * k + 0) = (if i ≤ 0 then su (7 * k + 0) else su (7 * k + 0) + i.toInt64) ∧ t (7 * k + 1) = (if i ≤ 0 then su (7 * k + 1) - i.toInt64 else su (7 * k + 1)) ∧
  t (7 * k + 2) = (if i ≤ 0 then su (7 * k + 2) else su (7 * k + 2) + i.toInt64 * V.toInt64) ∧ t (7 * k + 3) = (if i ≤ 0 then su (7 * k + 3) + (- i.toInt64) * V.toInt64 else su (7 * k + 3)) ∧
  t (7 * k + 4) = (if i ≤ 0 then su (7 * k + 4) else su (7 * k + 4) + i.toInt64) ∧ t (7 * k + 5) = (if i ≤ 0 then su (7 * k + 5) - i.toInt64 else su (7 * k + 5)) ∧ t (7 * k + 6) = su (7 * k + 6) ∧
  ∀ j : Nat, (j < 7 * k ∨ 7 * k + 7 ≤ j) → t j = su j
theorem fl_Tn {thr i : Int32} (h0 : 0 ≤ thr.toInt ∧ thr.toInt ≤ 1000000) (hi : -5000 ≤ i.toInt ∧ i.toInt ≤ 5000) : 0 ≤ (fl_T thr i).toInt := by
  have z : (0 : Int32).toInt = 0 := by decide
  have en : (-i).toInt = -i.toInt := Jvm.Kit.i32_neg (by omega)
  unfold fl_T
  by_cases q : 0 ≤ i
  · rw [if_pos q]
    rw [Int32.le_iff_toInt_le, z] at q
    rw [Jvm.Kit.i32_add (by omega) (by omega)]; omega
  · rw [if_neg q]
    rw [Int32.le_iff_toInt_le, z] at q
    rw [Jvm.Kit.i32_add (by omega) (by omega)]; omega
/-- the charge stays in its range, the present capacity too -/
theorem fl_Qb {nom efc chg lft i : Int32} (hn : 100 ≤ nom.toInt ∧ nom.toInt ≤ 100000) (he : 0 ≤ efc.toInt ∧ efc.toInt ≤ 1000) (hq : 0 ≤ chg.toInt ∧ chg.toInt ≤ 2 * nom.toInt) (hl : 0 ≤ lft.toInt ∧ lft.toInt ≤ 999) (hi : -5000 ≤ i.toInt ∧ i.toInt ≤ 5000) (h : -chg.toInt ≤ i.toInt) : 0 ≤ (fl_Q nom efc chg lft i).toInt ∧ (fl_Q nom efc chg lft i).toInt ≤ 2 * nom.toInt := by
  have z : (0 : Int32).toInt = 0 := by decide
  have t2 : (2 : Int32).toInt = 2 := by decide
  have tk : (1000 : Int32).toInt = 1000 := by decide
  unfold fl_Q
  by_cases q : i ≤ 0
  · rw [if_pos q]
    rw [Int32.le_iff_toInt_le, z] at q
    rw [Jvm.Kit.i32_add (by omega) (by omega)]; omega
  · rw [if_neg q]
    rw [Int32.le_iff_toInt_le, z] at q
    have m1 := Int.mul_le_mul hi.2 he.2 he.1 (show (0 : Int) ≤ 5000 by omega)
    have m0 := Int.mul_nonneg (show 0 ≤ i.toInt by omega) he.1
    have e1 : (i * efc).toInt = i.toInt * efc.toInt := Jvm.Kit.i32_mul (by omega) (by omega)
    have e2 : ((i * efc) + lft).toInt = i.toInt * efc.toInt + lft.toInt := by rw [Jvm.Kit.i32_add (by omega) (by omega), e1]
    have e3 : (((i * efc) + lft) / 1000).toInt = (i.toInt * efc.toInt + lft.toInt) / 1000 := by rw [Jvm.Kit.i32_div (by omega), e2, tk, Int.tdiv_eq_ediv_of_nonneg (by omega)]
    have e4 : (chg + (((i * efc) + lft) / 1000)).toInt = chg.toInt + (i.toInt * efc.toInt + lft.toInt) / 1000 := by rw [Jvm.Kit.i32_add (by omega) (by omega), e3]
    have e5 : (2 * nom).toInt = 2 * nom.toInt := by rw [Jvm.Kit.i32_mul (by rw [t2]; omega) (by rw [t2]; omega), t2]
    by_cases w : (chg + (((i * efc) + lft) / 1000)) < (2 * nom)
    · rw [if_pos w, e4]
      rw [Int32.lt_iff_toInt_lt, e4, e5] at w
      omega
    · rw [if_neg w, e5]
      omega
theorem fl_Wb {nom cap fad thr i : Int32} (hn : 100 ≤ nom.toInt ∧ nom.toInt ≤ 100000) (hf : 1 ≤ fad.toInt) (hc : nom.toInt / 2 ≤ cap.toInt ∧ cap.toInt ≤ nom.toInt) (ht : 0 ≤ (fl_T thr i).toInt) : nom.toInt / 2 ≤ (fl_W nom cap fad thr i).toInt ∧ (fl_W nom cap fad thr i).toInt ≤ nom.toInt := by
  have t2 : (2 : Int32).toInt = 2 := by decide
  have e2 : (nom / 2).toInt = nom.toInt / 2 := by rw [Jvm.Kit.i32_div (by omega), t2, Int.tdiv_eq_ediv_of_nonneg (by omega)]
  have ed : (fl_T thr i / fad).toInt = (fl_T thr i).toInt / fad.toInt := by rw [Jvm.Kit.i32_div (by omega), Int.tdiv_eq_ediv_of_nonneg ht]
  have d0 : 0 ≤ (fl_T thr i).toInt / fad.toInt := Int.ediv_nonneg ht (by omega)
  have d1 : (fl_T thr i).toInt / fad.toInt ≤ (fl_T thr i).toInt := Int.ediv_le_self _ ht
  have l := Int32.toInt_lt (fl_T thr i)
  have es : (cap - fl_T thr i / fad).toInt = cap.toInt - (fl_T thr i).toInt / fad.toInt := by rw [Jvm.Kit.i32_sub (by rw [ed]; omega) (by rw [ed]; omega), ed]
  unfold fl_W
  by_cases q : (cap - fl_T thr i / fad) < (nom / 2)
  · rw [if_pos q, e2]; omega
  · rw [if_neg q, es]
    rw [Int32.lt_iff_toInt_lt, es, e2] at q
    omega
theorem fl_Pb {pol tau pz i : Int32} (hp : 0 ≤ pol.toInt ∧ pol.toInt ≤ 500) (ht : 1 ≤ tau.toInt) (hz : -2500 ≤ pz.toInt ∧ pz.toInt ≤ 2500) (hi : -5000 ≤ i.toInt ∧ i.toInt ≤ 5000) : -2500 ≤ (fl_P pol tau pz i).toInt ∧ (fl_P pol tau pz i).toInt ≤ 2500 := by
  have tk : (1000 : Int32).toInt = 1000 := by decide
  have o1 : (1 : Int32).toInt = 1 := by decide
  have om : (-1 : Int32).toInt = -1 := by decide
  have m1 := Int.mul_le_mul_of_nonneg_right hi.2 hp.1
  have m0 := Int.mul_le_mul_of_nonneg_right hi.1 hp.1
  have e1 : (i * pol).toInt = i.toInt * pol.toInt := Jvm.Kit.i32_mul (by omega) (by omega)
  have g := rf_tdiv (x := i.toInt * pol.toInt) (s := 1000) (B := 2500) (by omega) (by omega) (by omega) (by omega)
  have e2 : ((i * pol) / 1000).toInt = (i.toInt * pol.toInt).tdiv 1000 := by rw [Jvm.Kit.i32_div (by omega), e1, tk]
  generalize (i.toInt * pol.toInt).tdiv 1000 = G at *
  unfold fl_P
  generalize (i * pol) / 1000 = a at *
  have e3 : (a - pz).toInt = G - pz.toInt := by rw [Jvm.Kit.i32_sub (by omega) (by omega), e2]
  have e4 : ((a - pz) / tau).toInt = (G - pz.toInt).tdiv tau.toInt := by rw [Jvm.Kit.i32_div (by omega), e3]
  have t := fl_td (x := G - pz.toInt) ht
  have s1 : 0 ≤ G - pz.toInt → 0 ≤ (G - pz.toInt).tdiv tau.toInt := fun h => Int.tdiv_nonneg h (by omega)
  have s2 : G - pz.toInt ≤ 0 → (G - pz.toInt).tdiv tau.toInt ≤ 0 := fun h => by
    have e : (G - pz.toInt).tdiv tau.toInt = -((-(G - pz.toInt)).tdiv tau.toInt) := by rw [Int.neg_tdiv, Int.neg_neg]
    have := Int.tdiv_nonneg (a := -(G - pz.toInt)) (b := tau.toInt) (by omega) (by omega)
    omega
  generalize (G - pz.toInt).tdiv tau.toInt = d at *
  have hd : -2500 ≤ pz.toInt + d ∧ pz.toInt + d ≤ 2500 := by
    by_cases w : 0 ≤ G - pz.toInt
    · rw [if_pos w] at t
      have := s1 w
      omega
    · rw [if_neg w] at t
      have := s2 (by omega)
      omega
  by_cases q : ¬ (a - pz) / tau = 0
  · rw [if_pos q, Jvm.Kit.i32_add (by rw [e4]; omega) (by rw [e4]; omega), e4]
    exact hd
  · rw [if_neg q]
    by_cases b : a = pz
    · rw [if_pos b]; exact hz
    · rw [if_neg b]
      by_cases w : a ≤ pz
      · rw [if_pos w, Jvm.Kit.i32_add (by omega) (by omega), om]
        rw [Int32.le_iff_toInt_le, e2] at w
        have : a.toInt ≠ pz.toInt := fun z => b (Int32.toInt_inj.mp z)
        omega
      · rw [if_neg w, Jvm.Kit.i32_add (by omega) (by omega), o1]
        rw [Int32.le_iff_toInt_le, e2] at w
        omega
theorem fl_okC {f : Nat → Int32} {c : Int32} {n v : Nat} (h : fl_ok f c n v) : 50 ≤ (rf_of f c 7).toInt ∧ (rf_of f c 7).toInt ≤ 100000 ∧ (rf_of f c 6).toInt ≤ 4 * (rf_of f c 7).toInt + 2 := by
  obtain ⟨_, ⟨h1, _⟩, ⟨h2, h3, _⟩, _⟩ := h
  omega
/-- the reference's row behind a current -/
theorem fl_Fm {f f1 : Nat → Int32} {su t : Nat → Int64} {c i : Int32} {n v : Nat} (ok : fl_ok f c n v) (hi : -5000 ≤ i.toInt ∧ i.toInt ≤ 5000) (hq : -(rf_of f c 6).toInt ≤ i.toInt) (h : q_X11_flows f su c i f1 t) :
    rf_of f1 c = fl_F (f 0) (f 1) (f 2) (f 3) (f 7) (fun j => f (28 + 19 * v + j)) (Int32.ofNat n) i (rf_of f c) ∧ fl_out c f f1 ∧ (∀ j : Nat, (568 ≤ j ∨ j = 12 ∨ j = 17) → f1 j = f j) ∧ fl_S c.toInt.toNat i (rf_of f1 c 5) su t := by
  obtain ⟨⟨hc, ⟨hv, hv4⟩, hn, hn2⟩, ⟨k12, k13, k14, k15⟩, ⟨k6, k7, k16, k18, k8⟩, ⟨s0, s1, s2, s6, s16⟩, hcv⟩ := ok
  obtain ⟨a1, h1, a2, t2, h2, a3, h3, a4, h4, r, h5, a5, h6, a6, h7, hs⟩ := h
  have e1 := fl_Pm h1
  have o1 : rf_of a1 c = upd (rf_of f c) 8 (fl_P (rf_of f c 14) (rf_of f c 15) (rf_of f c 8) i) := by rw [e1]; exact fl_ofu
  have ge1 : ∀ j : Nat, j < 244 → a1 j = f j := fun j hj => by rw [e1]; exact rf_upd_ne (by omega)
  obtain ⟨e2, S2⟩ := fl_Mm hc (by omega) h2
  rw [ge1 0 (by omega)] at e2
  have o2 : rf_of a2 c = upd (upd (rf_of a1 c) 6 (fl_Q (rf_of f c 12) (f 0) (rf_of f c 6) (rf_of f c 16) i)) 16 (fl_L (f 0) (rf_of f c 16) i) := by
    rw [e2, fl_ofu, fl_ofu, o1]; rfl
  have ge2 : ∀ j : Nat, j < 244 → a2 j = f j := fun j hj => by rw [e2, rf_upd_ne (by omega), rf_upd_ne (by omega)]; exact ge1 j hj
  have p12 : rf_of a2 c 12 = rf_of f c 12 := by rw [o2, o1]; rfl
  have p7 : rf_of a2 c 7 = rf_of f c 7 := by rw [o2, o1]; rfl
  have p18 : rf_of a2 c 18 = rf_of f c 18 := by rw [o2, o1]; rfl
  have hT := fl_Tn k18 hi
  have e3 := fl_Wm (f := a2) (c := c) (i := i) (by rw [ge2 1 (by omega)]; exact s1.1) (by rw [p18]; exact hT) (by rw [p12]; omega) (by rw [p12, p7]; exact k7.1) h3
  rw [p12, p7, p18, ge2 1 (by omega)] at e3
  have o3 : rf_of a3 c = upd (upd (rf_of a2 c) 7 (fl_W (rf_of f c 12) (rf_of f c 7) (f 1) (rf_of f c 18) i)) 18 (fl_H (f 1) (rf_of f c 18) i) := by rw [e3, fl_ofu, fl_ofu]
  have ge3 : ∀ j : Nat, j < 244 → a3 j = f j := fun j hj => by rw [e3, rf_upd_ne (by omega), rf_upd_ne (by omega)]; exact ge2 j hj
  obtain ⟨b1, h8, b2, h9, h10⟩ := h4
  have q9 : rf_of a3 c 9 = rf_of f c 9 := by rw [o3, o2, o1]; rfl
  have q17 : rf_of a3 c 17 = rf_of f c 17 := by rw [o3, o2, o1]; rfl
  have q13 : rf_of a3 c 13 = rf_of f c 13 := by rw [o3, o2, o1]; rfl
  have gb : b1 2 = a3 2 := by rw [h8]; exact rf_upd_ne (by omega)
  rw [gb, q9, q17, q13, ge3 7 (by omega), ge3 3 (by omega), ge3 2 (by omega)] at h9
  rw [q9, q17, q13, ge3 7 (by omega), ge3 3 (by omega), ge3 2 (by omega)] at h8
  have o4 : rf_of a4 c = upd (upd (rf_of a3 c) 9 ((rf_of f c 9) + ((((rf_of f c 17) + ((((i * i) / 1000) * (rf_of f c 13)) / 1000)) - (((rf_of f c 9) - f 7) * f 3)) / f 2))) 17 ((((rf_of f c 17) + ((((i * i) / 1000) * (rf_of f c 13)) / 1000)) - (((rf_of f c 9) - f 7) * f 3)) - (((((rf_of f c 17) + ((((i * i) / 1000) * (rf_of f c 13)) / 1000)) - (((rf_of f c 9) - f 7) * f 3)) / f 2) * f 2)) := by rw [h10, h9, h8, fl_ofu, fl_ofu]
  have ge4 : ∀ j : Nat, j < 244 → a4 j = f j := fun j hj => by rw [h10, h9, h8, rf_upd_ne (by omega), rf_upd_ne (by omega)]; exact ge3 j hj
  have r11 : rf_of a4 c 11 = rf_of f c 11 := by rw [o4, o3, o2, o1]; rfl
  have r13 : rf_of a4 c 13 = rf_of f c 13 := by rw [o4, o3, o2, o1]; rfl
  have r8 : rf_of a4 c 8 = fl_P (rf_of f c 14) (rf_of f c 15) (rf_of f c 8) i := by rw [o4, o3, o2, o1]; rfl
  have r6 : rf_of a4 c 6 = fl_Q (rf_of f c 12) (f 0) (rf_of f c 6) (rf_of f c 16) i := by rw [o4, o3, o2, o1]; rfl
  have r7 : rf_of a4 c 7 = fl_W (rf_of f c 12) (rf_of f c 7) (f 1) (rf_of f c 18) i := by rw [o4, o3, o2, o1]; rfl
  have b6 := fl_Qb k12 s0 k6 k16 hi hq
  have b7 := fl_Wb (i := i) k12 s1.1 k7 hT
  have e5 := fl_Rm (f := a4) (n := n) (v := v) (c := c) (by rw [r11]; exact hv) hv4 (by rw [ge4 _ (by omega)]; exact hn) hn2 (by rw [r7]; omega) (by rw [r6]; exact b6.1) h5
  rw [r7, r6] at e5
  have ecv : fl_V (fun j => a4 (28 + 19 * v + j)) (Int32.ofNat n) (fl_W (rf_of f c 12) (rf_of f c 7) (f 1) (rf_of f c 18) i) (fl_Q (rf_of f c 12) (f 0) (rf_of f c 6) (rf_of f c 16) i) = fl_V (fun j => f (28 + 19 * v + j)) (Int32.ofNat n) (fl_W (rf_of f c 12) (rf_of f c 7) (f 1) (rf_of f c 18) i) (fl_Q (rf_of f c 12) (f 0) (rf_of f c 6) (rf_of f c 16) i) := fl_Vx hn2 (by omega) b6.1 (fun j hj => ge4 _ (by omega))
  rw [ecv] at e5
  rw [r13, r8, e5] at h7 hs
  have o6 : rf_of a6 c = upd (upd (rf_of a4 c) 4 i) 5 (((fl_V (fun j => f (28 + 19 * v + j)) (Int32.ofNat n) (fl_W (rf_of f c 12) (rf_of f c 7) (f 1) (rf_of f c 18) i) (fl_Q (rf_of f c 12) (f 0) (rf_of f c 6) (rf_of f c 16) i)) + ((i * (rf_of f c 13)) / 1000)) + fl_P (rf_of f c 14) (rf_of f c 15) (rf_of f c 8) i) := by rw [h7, h6, fl_ofu, fl_ofu]
  have oF : rf_of a6 c = fl_F (f 0) (f 1) (f 2) (f 3) (f 7) (fun j => f (28 + 19 * v + j)) (Int32.ofNat n) i (rf_of f c) := by rw [o6, o4, o3, o2, o1]; rfl
  have v5 : rf_of a6 c 5 = ((fl_V (fun j => f (28 + 19 * v + j)) (Int32.ofNat n) (fl_W (rf_of f c 12) (rf_of f c 7) (f 1) (rf_of f c 18) i) (fl_Q (rf_of f c 12) (f 0) (rf_of f c 6) (rf_of f c 16) i)) + ((i * (rf_of f c 13)) / 1000)) + fl_P (rf_of f c 14) (rf_of f c 15) (rf_of f c 8) i := by rw [o6]; rfl
  have all : ∀ j : Nat, (j < 244 + 54 * c.toInt.toNat ∨ 244 + 54 * c.toInt.toNat + 54 ≤ j) → a6 j = f j := fun j hj => by
    rw [h7, h6, rf_upd_ne (by omega), rf_upd_ne (by omega), h10, h9, h8, rf_upd_ne (by omega), rf_upd_ne (by omega), e3, rf_upd_ne (by omega), rf_upd_ne (by omega), e2, rf_upd_ne (by omega), rf_upd_ne (by omega), e1, rf_upd_ne (by omega)]
  have fin : f1 = a6 ∧ fl_S c.toInt.toNat i (rf_of a6 c 5) su t := by
    rw [v5]
    generalize ((fl_V (fun j => f (28 + 19 * v + j)) (Int32.ofNat n) (fl_W (rf_of f c 12) (rf_of f c 7) (f 1) (rf_of f c 18) i) (fl_Q (rf_of f c 12) (f 0) (rf_of f c 6) (rf_of f c 16) i)) + ((i * (rf_of f c 13)) / 1000)) + fl_P (rf_of f c 14) (rf_of f c 15) (rf_of f c 8) i = V at hs
    obtain ⟨k, hk9⟩ : ∃ k : Nat, c.toInt.toNat = k := ⟨_, rfl⟩
    rw [hk9] at S2 ⊢
    have B : ∀ x : Nat → Int64, x = t2 → (x (7 * k + 0) = (if i ≤ 0 then su (7 * k + 0) else su (7 * k + 0) + i.toInt64)) ∧ (x (7 * k + 1) = (if i ≤ 0 then su (7 * k + 1) - i.toInt64 else su (7 * k + 1))) ∧ x (7 * k + 2) = su (7 * k + 2) ∧ x (7 * k + 3) = su (7 * k + 3) ∧ (x (7 * k + 4) = (if i ≤ 0 then su (7 * k + 4) else su (7 * k + 4) + i.toInt64)) ∧ (x (7 * k + 5) = (if i ≤ 0 then su (7 * k + 5) - i.toInt64 else su (7 * k + 5))) ∧ x (7 * k + 6) = su (7 * k + 6) ∧ ∀ j : Nat, (j < 7 * k ∨ 7 * k + 7 ≤ j) → x j = su j := fun x hx => by
      subst hx
      refine ⟨?_, ?_, ?_, ?_, ?_, ?_, ?_, fun j hj => ?_⟩
      · rw [S2, if_pos (by omega)]
      · rw [S2, if_neg (by omega), if_pos (by omega)]
      · rw [S2, if_neg (by omega), if_neg (by omega)]
      · rw [S2, if_neg (by omega), if_neg (by omega)]
      · rw [S2, if_pos (by omega)]
      · rw [S2, if_neg (by omega), if_pos (by omega)]
      · rw [S2, if_neg (by omega), if_neg (by omega)]
      · rw [S2, if_neg (by omega), if_neg (by omega)]
    obtain ⟨B0, B1, B2, B3, B4, B5, B6, B7⟩ := B t2 rfl
    unfold fl_S
    rcases hs with ⟨q, ⟨q2, hf, ht⟩ | ⟨q2, x, hx, hf, ht⟩⟩ | ⟨q, x, hx, ⟨q2, hf, ht⟩ | ⟨q2, y, hy, hf, ht⟩⟩
    · have i0 : i = 0 := Int32.le_antisymm q q2
      refine ⟨hf, ?_⟩
      rw [ht, if_pos q, if_pos q, if_pos q, if_pos q, if_pos q, if_pos q]
      rw [if_pos q] at B0 B1 B4 B5
      refine ⟨B0, B1, B2, ?_, B4, B5, B6, B7⟩
      rw [B3, i0]
      have : (- (0 : Int32).toInt64) * V.toInt64 = 0 := by rw [show (- (0 : Int32).toInt64) = 0 from by decide, Int64.zero_mul]
      rw [this, Int64.add_zero]
    · refine ⟨hf, ?_⟩
      rw [if_pos q] at B0 B1 B4 B5
      have hk : ∀ j : Nat, x j = if j = 7 * k + 3 then t2 (7 * k + 3) + (- i.toInt64) * V.toInt64 else t2 j := fun j => by
        have := fl_add hc (k := 3) (K := 3) (by decide) (by decide) hx
        rw [hk9] at this
        rw [this, fl_uL]
      rw [ht, if_pos q, if_pos q, if_pos q, if_pos q, if_pos q, if_pos q]
      refine ⟨?_, ?_, ?_, ?_, ?_, ?_, ?_, fun j hj => ?_⟩
      · rw [hk, if_neg (by omega)]; exact B0
      · rw [hk, if_neg (by omega)]; exact B1
      · rw [hk, if_neg (by omega)]; exact B2
      · rw [hk, if_pos rfl, B3]
      · rw [hk, if_neg (by omega)]; exact B4
      · rw [hk, if_neg (by omega)]; exact B5
      · rw [hk, if_neg (by omega)]; exact B6
      · rw [hk, if_neg (by omega)]; exact B7 j hj
    · refine ⟨hf, ?_⟩
      rw [if_neg q] at B0 B1 B4 B5
      have hk : ∀ j : Nat, x j = if j = 7 * k + 2 then t2 (7 * k + 2) + i.toInt64 * V.toInt64 else t2 j := fun j => by
        have := fl_add hc (k := 2) (K := 2) (by decide) (by decide) hx
        rw [hk9] at this
        rw [this, fl_uL]
      rw [ht, if_neg q, if_neg q, if_neg q, if_neg q, if_neg q, if_neg q]
      refine ⟨?_, ?_, ?_, ?_, ?_, ?_, ?_, fun j hj => ?_⟩
      · rw [hk, if_neg (by omega)]; exact B0
      · rw [hk, if_neg (by omega)]; exact B1
      · rw [hk, if_pos rfl, B2]
      · rw [hk, if_neg (by omega)]; exact B3
      · rw [hk, if_neg (by omega)]; exact B4
      · rw [hk, if_neg (by omega)]; exact B5
      · rw [hk, if_neg (by omega)]; exact B6
      · rw [hk, if_neg (by omega)]; exact B7 j hj
    · rw [Int32.le_iff_toInt_le] at q q2
      omega
  obtain ⟨ef, fs⟩ := fin
  rw [ef]
  exact ⟨oF, fun j _ _ _ hj => all j hj, fun j hj => all j (by omega), fs⟩
/-- the class's cell behind a current -/
theorem fl_Fc {E FD HT CO AM i : Int32} {n : Nat} {cv F : Nat → Int32} {chg1 lft1 cap1 thr1 pz1 tmp1 het1 cun1 vol1 : Int32} {cin cou ein eou cin1 cou1 ein1 eou1 : Int64}
    (hn : 2 ≤ n ∧ n ≤ 11) (ht : 1 ≤ (F 15).toInt) (hf : 1 ≤ FD.toInt) (hh : 1 ≤ HT.toInt) (hC : 1 ≤ (fl_W (F 12) (F 7) FD (F 18) i).toInt) (hQ : 0 ≤ (fl_Q (F 12) E (F 6) (F 16) i).toInt)
    (h : a_X0_passCurrent (Int32.ofNat n) (F 12) (F 13) (F 14) (F 15) (F 6) (F 16) (F 7) (F 18) (F 8) (F 9) (F 17) cv cin cou ein eou E FD HT CO AM i chg1 lft1 cap1 thr1 pz1 tmp1 het1 cun1 vol1 cin1 cou1 ein1 eou1) :
    (chg1 = fl_F E FD HT CO AM cv (Int32.ofNat n) i F 6 ∧ lft1 = fl_F E FD HT CO AM cv (Int32.ofNat n) i F 16 ∧ cap1 = fl_F E FD HT CO AM cv (Int32.ofNat n) i F 7 ∧ thr1 = fl_F E FD HT CO AM cv (Int32.ofNat n) i F 18 ∧ pz1 = fl_F E FD HT CO AM cv (Int32.ofNat n) i F 8 ∧ tmp1 = fl_F E FD HT CO AM cv (Int32.ofNat n) i F 9 ∧ het1 = fl_F E FD HT CO AM cv (Int32.ofNat n) i F 17 ∧ cun1 = fl_F E FD HT CO AM cv (Int32.ofNat n) i F 4 ∧ vol1 = fl_F E FD HT CO AM cv (Int32.ofNat n) i F 5) ∧
    cin1 = (if i ≤ 0 then cin else cin + i.toInt64) ∧ cou1 = (if i ≤ 0 then cou - i.toInt64 else cou) ∧ ein1 = (if i ≤ 0 then ein else ein + i.toInt64 * vol1.toInt64) ∧ eou1 = (if i ≤ 0 then eou + (- i.toInt64) * vol1.toInt64 else eou) := by
  obtain ⟨pz, h1, chg, lft, ci, co, h2, cap, thr, h3, tmp, het, h4, r, h5, h6⟩ := h
  have e1 := fl_Pc ht h1
  obtain ⟨e2, e3, e4, e5⟩ := fl_Mc h2
  obtain ⟨e6, e7⟩ := fl_Wc hf h3
  obtain ⟨a, h7, b, h8, h9, h10⟩ := h4
  have ea := fl_q h7 (by rw [Jvm.Kit.i64_of_i32]; omega)
  have eb := fl_m h8 (by rw [Jvm.Kit.i64_of_i32]; omega)
  have ha : ∀ x y z : Int32, x + (y - z) = x + y - z := fun x y z => by rw [Int32.sub_eq_add_neg, Int32.sub_eq_add_neg, Int32.add_assoc]
  rw [ha] at ea eb
  subst ea eb
  rw [fl_d hh] at h9
  rw [fl_r hh] at h10
  subst e2 e6
  have er := fl_Rc rfl hn hC hQ h5
  subst er e1 e3 e7 h9 h10 e4 e5
  rcases h6 with ⟨q, g1, g2, g3, g4, g5, g6, g7, g8, g9, g10, g11, g12, g13⟩ | ⟨q, g1, g2, g3, g4, g5, g6, g7, g8, g9, g10, g11, g12, g13⟩
  · subst g1 g2 g3 g4 g5 g6 g7 g8 g9 g10 g11 g12 g13
    refine ⟨⟨rfl, rfl, rfl, rfl, rfl, rfl, rfl, rfl, rfl⟩, rfl, rfl, ?_, ?_⟩
    · rw [if_pos q]
    · rw [if_pos q]
  · subst g1 g2 g3 g4 g5 g6 g7 g8 g9 g10 g11 g12 g13
    refine ⟨⟨rfl, rfl, rfl, rfl, rfl, rfl, rfl, rfl, rfl⟩, rfl, rfl, ?_, ?_⟩
    · rw [if_neg q]
    · rw [if_neg q]
/-- warnings -/
def fl_wr (vol tmp lo hi ho : Int32) : Int32 := if vol ≤ hi then if lo ≤ vol then if tmp ≤ ho then 0 else 3 else 2 else 1
def fl_wc (r wfo wct : Int32) : Int32 := if r = 0 ∨ r = wfo then wct else wct + 1
theorem fl_wa {idx tmp vol wfo wct tim wlo whi who llim lwid lold lsiz wfo1 wct1 : Int32} {fln : Nat → Int32} (h : a_X1_warn idx tmp vol wfo wct tim wlo whi who llim lwid lold lsiz fln wfo1 wct1) : wfo1 = fl_wr vol tmp wlo whi who ∧ wct1 = fl_wc (fl_wr vol tmp wlo whi who) wfo wct := by
  unfold fl_wr fl_wc
  rcases h with ⟨a, ⟨b, ⟨c, h1, h2⟩ | ⟨c, ⟨d, h1, h2⟩ | ⟨d, _, _, _, _, h1, h2⟩⟩⟩ | ⟨b, ⟨d, h1, h2⟩ | ⟨d, _, _, _, _, h1, h2⟩⟩⟩ | ⟨a, ⟨d, h1, h2⟩ | ⟨d, _, _, _, _, h1, h2⟩⟩
  · rw [if_pos a, if_pos b, if_pos c]
    exact ⟨h1, by rw [if_pos (Or.inl rfl)]; exact h2⟩
  · rw [if_pos a, if_pos b, if_neg c]
    exact ⟨h1, by rw [if_pos (Or.inr d)]; exact h2⟩
  · rw [if_pos a, if_pos b, if_neg c]
    exact ⟨h1, by rw [if_neg (fun z => z.elim (fun y => absurd y (by decide)) d)]; exact h2⟩
  · rw [if_pos a, if_neg b]
    exact ⟨h1, by rw [if_pos (Or.inr d)]; exact h2⟩
  · rw [if_pos a, if_neg b]
    exact ⟨h1, by rw [if_neg (fun z => z.elim (fun y => absurd y (by decide)) d)]; exact h2⟩
  · rw [if_neg a]
    exact ⟨h1, by rw [if_pos (Or.inr d)]; exact h2⟩
  · rw [if_neg a]
    exact ⟨h1, by rw [if_neg (fun z => z.elim (fun y => absurd y (by decide)) d)]; exact h2⟩
theorem fl_wm {f : Nat → Int32} {c r : Int32} (h : q_X11_warningNow f c r) : r = fl_wr (rf_of f c 5) (rf_of f c 9) (f 13) (f 14) (f 15) := by
  unfold fl_wr
  rcases h with ⟨a, ⟨b, ⟨d, h1⟩ | ⟨d, h1⟩⟩ | ⟨b, h1⟩⟩ | ⟨a, h1⟩
  · rw [if_pos a, if_pos b, if_pos d]; exact h1
  · rw [if_pos a, if_pos b, if_neg d]; exact h1
  · rw [if_pos a, if_neg b]; exact h1
  · rw [if_neg a]; exact h1
/-- the log lies beside all that is told here -/
theorem fl_kpo {c : Int32} {f g : Nat → Int32} (h : q_kp 718 17 f g) : fl_out c f g := fun j h1 _ h3 _ => h j (by omega) h3
theorem fl_kpr {c : Int32} {f g : Nat → Int32} (hc : 0 ≤ c.toInt ∧ c.toInt < 6) (h : q_kp 718 17 f g) {J : Nat} (hJ : J < 54) : rf_of g c J = rf_of f c J := h _ (by omega) (by omega)
def fl_rec (f g : Nat → Int32) : Prop := ∀ j : Nat, ((568 ≤ j ∧ j < 718) ∨ j = 12) → g j = f j
theorem fl_recr {f : Nat → Int32} : fl_rec f f := fun _ _ => rfl
theorem fl_rect {f g h : Nat → Int32} (a : fl_rec f g) (b : fl_rec g h) : fl_rec f h := fun j q => (b j q).trans (a j q)
theorem fl_recu {f : Nat → Int32} {c v : Int32} {a : Nat} (hc : 0 ≤ c.toInt ∧ c.toInt < 6) (h : a < 54) : fl_rec f (upd f (244 + 54 * c.toInt.toNat + a) v) := fun j q => rf_upd_ne (by omega)
theorem fl_reck {f g : Nat → Int32} (h : q_kp 718 17 f g) : fl_rec f g := fun j q => h j (by omega) (by omega)
theorem fl_ws {f f1 : Nat → Int32} {c : Int32} (hc : 0 ≤ c.toInt ∧ c.toInt < 6) (h : q_X11_warns f c f1) : (∀ J : Nat, J < 54 → rf_of f1 c J = upd (upd (rf_of f c) 36 (fl_wc (fl_wr (rf_of f c 5) (rf_of f c 9) (f 13) (f 14) (f 15)) (rf_of f c 37) (rf_of f c 36))) 37 (fl_wr (rf_of f c 5) (rf_of f c 9) (f 13) (f 14) (f 15)) J) ∧ fl_out c f f1 ∧ fl_rec f f1 := by
  obtain ⟨r, h1, h2⟩ := h
  have er := fl_wm h1
  rw [← er]
  unfold fl_wc
  rcases h2 with ⟨a, g, h3, h4⟩ | ⟨a, ⟨b, g, h3, h4⟩ | ⟨b, g, h3, g2, h5, g3, h6, h7⟩⟩
  · rw [if_pos (Or.inl a)]
    refine ⟨fun J _ => ?_, by rw [h4, h3]; exact fl_outu (by omega), by rw [h4, h3]; exact fl_recu hc (by omega)⟩
    rw [h4, h3, fl_ofu]
    unfold upd
    by_cases q : J = 37
    · rw [if_pos q, if_pos q]
    · rw [if_neg q, if_neg q]
      by_cases w : J = 36
      · rw [if_pos w, w]
      · rw [if_neg w]
  · rw [if_pos (Or.inr b)]
    refine ⟨fun J _ => ?_, by rw [h4, h3]; exact fl_outu (by omega), by rw [h4, h3]; exact fl_recu hc (by omega)⟩
    rw [h4, h3, fl_ofu]
    unfold upd
    by_cases q : J = 37
    · rw [if_pos q, if_pos q]
    · rw [if_neg q, if_neg q]
      by_cases w : J = 36
      · rw [if_pos w, w]
      · rw [if_neg w]
  · rw [if_neg (fun z => z.elim a b)]
    refine ⟨fun J hJ => ?_, by rw [h7, h6]; exact fl_outt (by rw [h3]; exact fl_outu (by omega)) (fl_outt (fl_kpo h5) (fl_outu (by omega))), by rw [h7, h6]; exact fl_rect (by rw [h3]; exact fl_recu hc (by omega)) (fl_rect (fl_reck h5) (fl_recu hc (by omega)))⟩
    rw [h7, h6, fl_ofu]
    unfold upd
    by_cases q : J = 37
    · rw [if_pos q, if_pos q]
    · rw [if_neg q, if_neg q, fl_kpr hc h5 hJ, h3, fl_ofu]
      rfl
/-- does the step end, does the channel trip -/
def fl_ov (kd a b las chg cun vol : Int32) : Bool := if kd = 0 then decide (¬ vol < b) else if kd = 1 then decide (¬ b < cun) else if kd = 2 then decide (vol ≤ b ∨ chg = 0) else decide (¬ las < a)
def fl_tr (las tmp vol low hig hot : Int32) (o : Bool) : Int32 := if vol ≤ hig then if low ≤ vol then if tmp ≤ hot then if las < 20000 then 0 else if o = true then 0 else 4 else 3 else 2 else 1
theorem fl_ova {prg stp las chg cun vol r : Int32} {fk ff fs : Nat → Int32} {P S : Nat} (hp : prg.toInt = P) (hs : stp.toInt = S) (hP : P < 4) (hS : S < 12) (h : a_X1_stepEnds prg stp las chg cun vol fk ff fs r) : r = if fl_ov (fk (12 * P + S)) (ff (12 * P + S)) (fs (12 * P + S)) las chg cun vol = true then 1 else 0 := by
  obtain ⟨a, h1, b, h2, k, h3, h4⟩ := h
  have e1 := fl_fs hp hs hP hS h1
  have e2 := fl_sc hp hs hP hS h2
  have e3 := fl_kd hp hs hP hS h3
  subst e1 e2 e3
  unfold fl_ov
  rcases h4 with ⟨q, ⟨w, h5⟩ | ⟨w, h5⟩⟩ | ⟨q, ⟨q2, ⟨w, h5⟩ | ⟨w, h5⟩⟩ | ⟨q2, ⟨q3, ⟨w, h5⟩ | ⟨w, ⟨w2, h5⟩ | ⟨w2, h5⟩⟩⟩ | ⟨q3, ⟨w, h5⟩ | ⟨w, h5⟩⟩⟩⟩
  · rw [if_pos q, if_neg (by simpa using w)]; exact h5
  · rw [if_pos q, if_pos (by simpa using w)]; exact h5
  · rw [if_neg q, if_pos q2, if_neg (by simpa using w)]; exact h5
  · rw [if_neg q, if_pos q2, if_pos (by simpa using w)]; exact h5
  · rw [if_neg q, if_neg q2, if_pos q3, if_pos (decide_eq_true (Or.inl w))]; exact h5
  · rw [if_neg q, if_neg q2, if_pos q3, if_neg (fun z => (of_decide_eq_true z).elim w w2)]; exact h5
  · rw [if_neg q, if_neg q2, if_pos q3, if_pos (decide_eq_true (Or.inr w2))]; exact h5
  · rw [if_neg q, if_neg q2, if_neg q3, if_neg (by simpa using w)]; exact h5
  · rw [if_neg q, if_neg q2, if_neg q3, if_pos (by simpa using w)]; exact h5
theorem fl_ovm {f : Nat → Int32} {c r : Int32} (h : q_X11_isOver f c r) : r = if fl_ov (rf_st3 f c 0) (rf_st3 f c 1) (rf_st3 f c 2) (rf_of f c 3) (rf_of f c 6) (rf_of f c 4) (rf_of f c 5) = true then 1 else 0 := by
  unfold fl_ov
  rcases h with ⟨q, ⟨w, h5⟩ | ⟨w, h5⟩⟩ | ⟨q, ⟨q2, ⟨w, h5⟩ | ⟨w, h5⟩⟩ | ⟨q2, ⟨q3, ⟨w, h5⟩ | ⟨w, ⟨w2, h5⟩ | ⟨w2, h5⟩⟩⟩ | ⟨q3, ⟨w, h5⟩ | ⟨w, h5⟩⟩⟩⟩
  · rw [if_pos q, if_neg (by simpa using w)]; exact h5
  · rw [if_pos q, if_pos (by simpa using w)]; exact h5
  · rw [if_neg q, if_pos q2, if_neg (by simpa using w)]; exact h5
  · rw [if_neg q, if_pos q2, if_pos (by simpa using w)]; exact h5
  · rw [if_neg q, if_neg q2, if_pos q3, if_pos (decide_eq_true (Or.inl w))]; exact h5
  · rw [if_neg q, if_neg q2, if_pos q3, if_neg (fun z => (of_decide_eq_true z).elim w w2)]; exact h5
  · rw [if_neg q, if_neg q2, if_pos q3, if_pos (decide_eq_true (Or.inr w2))]; exact h5
  · rw [if_neg q, if_neg q2, if_neg q3, if_neg (by simpa using w)]; exact h5
  · rw [if_neg q, if_neg q2, if_neg q3, if_pos (by simpa using w)]; exact h5
theorem fl_tra {las tmp vol low hig hot r : Int32} {o : Bool} (h : a_X1_tripReason las tmp vol low hig hot (if o = true then 1 else 0) r) : r = fl_tr las tmp vol low hig hot o := by
  unfold fl_tr
  rcases h with ⟨a, ⟨b, ⟨d, ⟨e, h1⟩ | ⟨e, ⟨g, h1⟩ | ⟨g, h1⟩⟩⟩ | ⟨d, h1⟩⟩ | ⟨b, h1⟩⟩ | ⟨a, h1⟩
  · rw [if_pos a, if_pos b, if_pos d, if_pos e]; exact h1
  · cases o
    · exact absurd rfl g
    · rw [if_pos a, if_pos b, if_pos d, if_neg e, if_pos rfl]; exact h1
  · cases o
    · rw [if_pos a, if_pos b, if_pos d, if_neg e, if_neg (by decide)]; exact h1
    · exact absurd g (by decide)
  · rw [if_pos a, if_pos b, if_neg d]; exact h1
  · rw [if_pos a, if_neg b]; exact h1
  · rw [if_neg a]; exact h1
theorem fl_trm {f : Nat → Int32} {c r : Int32} (h : q_X11_reasonNow f c r) : r = fl_tr (rf_of f c 3) (rf_of f c 9) (rf_of f c 5) (f 4) (f 5) (f 6) (fl_ov (rf_st3 f c 0) (rf_st3 f c 1) (rf_st3 f c 2) (rf_of f c 3) (rf_of f c 6) (rf_of f c 4) (rf_of f c 5)) := by
  unfold fl_tr
  rcases h with ⟨a, ⟨b, ⟨d, ⟨e, h1⟩ | ⟨e, x, hx, ⟨g, h1⟩ | ⟨g, h1⟩⟩⟩ | ⟨d, h1⟩⟩ | ⟨b, h1⟩⟩ | ⟨a, h1⟩
  · rw [if_pos a, if_pos b, if_pos d, if_pos e]; exact h1
  · have k := fl_ovm hx
    rw [if_pos a, if_pos b, if_pos d, if_neg e]
    by_cases o : fl_ov (rf_st3 f c 0) (rf_st3 f c 1) (rf_st3 f c 2) (rf_of f c 3) (rf_of f c 6) (rf_of f c 4) (rf_of f c 5) = true
    · rw [if_pos o]; exact h1
    · rw [if_neg o] at k; exact absurd k g
  · have k := fl_ovm hx
    rw [if_pos a, if_pos b, if_pos d, if_neg e]
    by_cases o : fl_ov (rf_st3 f c 0) (rf_st3 f c 1) (rf_st3 f c 2) (rf_of f c 3) (rf_of f c 6) (rf_of f c 4) (rf_of f c 5) = true
    · rw [if_pos o] at k; rw [k] at g; exact absurd g (by decide)
    · rw [if_neg o]; exact h1
  · rw [if_pos a, if_pos b, if_neg d]; exact h1
  · rw [if_pos a, if_neg b]; exact h1
  · rw [if_neg a]; exact h1
/-! the records: a row that is shifted, and a ring -/
def fl_v5 (a b d e g : Int32) (m : Nat) : Int32 := if m = 0 then a else if m = 1 then b else if m = 2 then d else if m = 3 then e else g
def fl_rm1 (f f1 : Nat → Int32) (V : Nat → Int32) : Prop := (∀ j : Nat, j < 568 → j ≠ 12 → f1 j = f j) ∧
  ((¬ f 12 = 30 ∧ f1 12 = f 12 + 1 ∧ ∀ j : Nat, 568 ≤ j → j < 718 → f1 j = if 568 + 5 * (f 12).toInt.toNat ≤ j ∧ j < 573 + 5 * (f 12).toInt.toNat then V (j - (568 + 5 * (f 12).toInt.toNat)) else f j) ∨
   (f 12 = 30 ∧ f1 12 = 30 ∧ ∀ j : Nat, 568 ≤ j → j < 718 → f1 j = if 713 ≤ j then V (j - 713) else f (j + 5)))
theorem fl_rix {s k : Int32} {K : Nat} (hs : 0 ≤ s.toInt ∧ s.toInt ≤ 29) (hk : k.toInt = K) (hK : K ≤ 4) : ((568 + (5 * s)) + k).toNatClampNeg = 568 + 5 * s.toInt.toNat + K := by
  have t5 : (5 : Int32).toInt = 5 := by decide
  have t8 : (568 : Int32).toInt = 568 := by decide
  have e1 : (5 * s).toInt = 5 * s.toInt := by rw [Jvm.Kit.i32_mul (by rw [t5]; omega) (by rw [t5]; omega), t5]
  have e2 : (568 + (5 * s)).toInt = 568 + 5 * s.toInt := by rw [Jvm.Kit.i32_add (by omega) (by omega), e1, t8]
  have e3 : ((568 + (5 * s)) + k).toInt = 568 + 5 * s.toInt + K := by rw [Jvm.Kit.i32_add (by omega) (by omega), e2, hk]
  show ((568 + (5 * s)) + k).toInt.toNat = _
  omega
theorem fl_rix0 {s : Int32} (hs : 0 ≤ s.toInt ∧ s.toInt ≤ 29) : (568 + (5 * s)).toNatClampNeg = 568 + 5 * s.toInt.toNat := by
  have := fl_rix hs (k := 0) (K := 0) (by decide) (by omega)
  rw [Int32.add_zero] at this
  exact this
/-- five numbers that are written, and the count -/
theorem fl_r5 {f f1 g a1 a2 a3 a4 a5 a6 : Nat → Int32} {s x0 x1 x2 x3 x4 s1 : Int32} (hs : 0 ≤ s.toInt ∧ s.toInt ≤ 29) (h0 : upd g (568 + (5 * s)).toNatClampNeg x0 = a1) (h1 : upd a1 ((568 + (5 * s)) + 1).toNatClampNeg x1 = a2) (h2 : upd a2 ((568 + (5 * s)) + 2).toNatClampNeg x2 = a3) (h3 : upd a3 ((568 + (5 * s)) + 3).toNatClampNeg x3 = a4) (h4 : upd a4 ((568 + (5 * s)) + 4).toNatClampNeg x4 = a5) (h5 : upd a5 (12 : Int32).toNatClampNeg s1 = a6) : ∀ j : Nat, a6 j = if j = 12 then s1 else if 568 + 5 * s.toInt.toNat ≤ j ∧ j < 573 + 5 * s.toInt.toNat then fl_v5 x0 x1 x2 x3 x4 (j - (568 + 5 * s.toInt.toNat)) else g j := by
  rw [fl_rix0 hs] at h0
  rw [fl_rix hs (K := 1) (by decide) (by omega)] at h1
  rw [fl_rix hs (K := 2) (by decide) (by omega)] at h2
  rw [fl_rix hs (K := 3) (by decide) (by omega)] at h3
  rw [fl_rix hs (K := 4) (by decide) (by omega)] at h4
  rw [show (12 : Int32).toNatClampNeg = 12 from by decide] at h5
  intro j
  rw [← h5, ← h4, ← h3, ← h2, ← h1, ← h0]
  unfold upd fl_v5
  by_cases q : j = 12
  · rw [if_pos q, if_pos q]
  · rw [if_neg q, if_neg q]
    by_cases w : 568 + 5 * s.toInt.toNat ≤ j ∧ j < 573 + 5 * s.toInt.toNat
    · rw [if_pos w]
      obtain ⟨m, hm⟩ : ∃ m : Nat, j = 568 + 5 * s.toInt.toNat + m := ⟨j - (568 + 5 * s.toInt.toNat), by omega⟩
      have m5 : m < 5 := by omega
      rw [hm, show 568 + 5 * s.toInt.toNat + m - (568 + 5 * s.toInt.toNat) = m from by omega]
      rcases (by omega : m = 0 ∨ m = 1 ∨ m = 2 ∨ m = 3 ∨ m = 4) with e | e | e | e | e
      · subst e
        rw [if_neg (by omega), if_neg (by omega), if_neg (by omega), if_neg (by omega), if_pos (by omega), if_pos rfl]
      · subst e
        rw [if_neg (by omega), if_neg (by omega), if_neg (by omega), if_pos rfl, if_neg (by omega), if_pos rfl]
      · subst e
        rw [if_neg (by omega), if_neg (by omega), if_pos rfl, if_neg (by omega), if_neg (by omega), if_pos rfl]
      · subst e
        rw [if_neg (by omega), if_pos rfl, if_neg (by omega), if_neg (by omega), if_neg (by omega), if_pos rfl]
      · subst e
        rw [if_pos rfl, if_neg (by omega), if_neg (by omega), if_neg (by omega), if_neg (by omega)]
    · rw [if_neg w, if_neg (by omega), if_neg (by omega), if_neg (by omega), if_neg (by omega), if_neg (by omega)]
theorem fl_rcm {f f1 : Nat → Int32} {su : Nat → Int64} {c b : Int32} (hc : 0 ≤ c.toInt ∧ c.toInt < 6) (hs : 0 ≤ (f 12).toInt ∧ (f 12).toInt ≤ 30) (h : q_X11_records f su c b f1) : fl_rm1 f f1 (fl_v5 c (su (7 * c.toInt.toNat + 4)).toInt32 (su (7 * c.toInt.toNat + 5)).toInt32 (f 8) (if b = 0 then 0 else 1)) := by
  have t12 : (12 : Int32).toNatClampNeg = 12 := by decide
  rcases h with ⟨n, hb, a1, h0, r, hr, a2, h1, r2, hr2, a3, h2, a4, h3, h4⟩ | ⟨n, y, g, ⟨hy, h12, hg⟩, hy2, g2, hg2, hb, a1, h0, r, hr, a2, h1, r2, hr2, a3, h2, a4, h3, h4⟩
  · have e1 := fl_sum hc (K := 4) (by decide) (by omega) hr
    have e2 := fl_sum hc (K := 5) (by decide) (by omega) hr2
    have e8 : a3 8 = f 8 := by
      rw [← h2, ← h1, ← h0, rf_upd_ne (by rw [fl_rix hb (K := 2) (by decide) (by omega)]; omega), rf_upd_ne (by rw [fl_rix hb (K := 1) (by decide) (by omega)]; omega), rf_upd_ne (by rw [fl_rix0 hb]; omega)]
    rw [e8] at h3
    subst e1 e2
    have fin : ∃ a5, upd a4 ((568 + (5 * (f 12))) + 4).toNatClampNeg (if b = 0 then 0 else 1) = a5 ∧ upd a5 (12 : Int32).toNatClampNeg (a5 12 + 1) = f1 := by
      rcases h4 with ⟨q, a5, h5, a6, h6, h7⟩ | ⟨q, a5, h5, a6, h6, h7⟩
      · exact ⟨a5, by rw [if_pos q]; exact h5, by rw [h7]; exact h6⟩
      · exact ⟨a5, by rw [if_neg q]; exact h5, by rw [h7]; exact h6⟩
    obtain ⟨a5, h5, h6⟩ := fin
    have e12 : a5 12 = f 12 := by
      rw [← h5, ← h3, ← h2, ← h1, ← h0, rf_upd_ne (by rw [fl_rix hb (K := 4) (by decide) (by omega)]; omega), rf_upd_ne (by rw [fl_rix hb (K := 3) (by decide) (by omega)]; omega), rf_upd_ne (by rw [fl_rix hb (K := 2) (by decide) (by omega)]; omega), rf_upd_ne (by rw [fl_rix hb (K := 1) (by decide) (by omega)]; omega), rf_upd_ne (by rw [fl_rix0 hb]; omega)]
    rw [e12] at h6
    have k := fl_r5 (f := f) (f1 := f1) hb h0 h1 h2 h3 h5 h6
    refine ⟨fun j hj h => ?_, Or.inl ⟨n, ?_, fun j h1 h2 => ?_⟩⟩
    · rw [k, if_neg h, if_neg (by omega)]
    · rw [k, if_pos rfl]
    · rw [k, if_neg (by omega)]
  · have t713 : (713 : Int32).toInt = 713 := by decide
    rw [Int32.le_iff_toInt_le, t713] at hy2
    have y713 : y.toInt = 713 := by omega
    have e12g : g2 12 = 29 := by
      rw [← hg2, t12, rf_upd_eq, h12]
      decide
    rw [e12g] at hb h0 h1 h2 h3 h4
    have e1 := fl_sum hc (K := 4) (by decide) (by omega) hr
    have e2 := fl_sum hc (K := 5) (by decide) (by omega) hr2
    have e8 : a3 8 = f 8 := by
      rw [← h2, ← h1, ← h0, rf_upd_ne (by rw [fl_rix hb (K := 2) (by decide) (by omega)]; omega), rf_upd_ne (by rw [fl_rix hb (K := 1) (by decide) (by omega)]; omega), rf_upd_ne (by rw [fl_rix0 hb]; omega), ← hg2, t12, rf_upd_ne (by omega), hg, if_neg (by omega)]
    rw [e8] at h3
    subst e1 e2
    have fin : ∃ a5, upd a4 ((568 + (5 * (29 : Int32))) + 4).toNatClampNeg (if b = 0 then 0 else 1) = a5 ∧ upd a5 (12 : Int32).toNatClampNeg (a5 12 + 1) = f1 := by
      rcases h4 with ⟨q, a5, h5, a6, h6, h7⟩ | ⟨q, a5, h5, a6, h6, h7⟩
      · exact ⟨a5, by rw [if_pos q]; exact h5, by rw [h7]; exact h6⟩
      · exact ⟨a5, by rw [if_neg q]; exact h5, by rw [h7]; exact h6⟩
    obtain ⟨a5, h5, h6⟩ := fin
    have e12 : a5 12 = 29 := by
      rw [← h5, ← h3, ← h2, ← h1, ← h0, rf_upd_ne (by rw [fl_rix hb (K := 4) (by decide) (by omega)]; omega), rf_upd_ne (by rw [fl_rix hb (K := 3) (by decide) (by omega)]; omega), rf_upd_ne (by rw [fl_rix hb (K := 2) (by decide) (by omega)]; omega), rf_upd_ne (by rw [fl_rix hb (K := 1) (by decide) (by omega)]; omega), rf_upd_ne (by rw [fl_rix0 hb]; omega), e12g]
    rw [e12, show (29 : Int32) + 1 = 30 from by decide] at h6
    have k := fl_r5 (f := f) (f1 := f1) hb h0 h1 h2 h3 h5 h6
    rw [show (29 : Int32).toInt.toNat = 29 from by decide] at k
    have gg : ∀ j : Nat, j ≠ 12 → g2 j = g j := fun j hj => by rw [← hg2, t12, rf_upd_ne hj]
    refine ⟨fun j hj h => ?_, Or.inr ⟨n, ?_, fun j h1 h2 => ?_⟩⟩
    · rw [k, if_neg h, if_neg (by omega), gg j h, hg, if_neg (by omega)]
    · rw [k, if_pos rfl]
    · rw [k, if_neg (by omega)]
      by_cases q : 713 ≤ j
      · rw [if_pos (by omega), if_pos q]
      · rw [if_neg (by omega), if_neg q, gg j (by omega), hg, if_pos (by omega)]
theorem fl_p150 {b b1 : Nat → Int32} {i v : Int32} {K : Nat} (hi : i.toInt = K) (hK : K < 150) (h : a_X10_put_150 b i v b1) : b1 = upd b K v := by
  have t : (150 : Int32).toInt = 150 := by decide
  have z : (0 : Int32).toInt = 0 := by decide
  rcases h with ⟨n, _⟩ | ⟨_, ⟨n, _⟩ | ⟨_, h⟩⟩
  · rw [Int32.lt_iff_toInt_lt] at n; omega
  · rw [Int32.le_iff_toInt_le] at n; omega
  · rw [h, show i.toNatClampNeg = K from by show i.toInt.toNat = K; omega]
/-- where the class writes, and what -/
theorem fl_rcc {idx prg stp vol tim old siz hel1 mca mca1 old1 siz1 hel : Int32} {bin bou sbo cin cou bin1 bou1 : Int64} {fs fr fr1 : Nat → Int32} {P S : Nat} (hp : prg.toInt = P) (hs : stp.toInt = S) (hP : P < 4) (hS : S < 12) (ho : 0 ≤ old.toInt ∧ old.toInt < 30) (hz : 0 ≤ siz.toInt ∧ siz.toInt ≤ 30) (h0 : siz.toInt < 30 → old.toInt = 0)
    (h : a_X1_makeRecord idx prg stp bin bou hel sbo vol cin cou mca tim fs 30 5 old siz fr bin1 bou1 hel1 mca1 old1 siz1 fr1) :
    bin1 = cin ∧ bou1 = cou ∧ hel1 = 0 ∧ mca1 = (if ¬ fs (12 * P + S) < vol ∧ ¬ hel = 0 then (cou - sbo).toInt32 else mca) ∧
    ∃ K : Nat, K < 30 ∧ (∀ j : Nat, fr1 j = if 5 * K ≤ j ∧ j < 5 * K + 5 then fl_v5 idx (cin - bin).toInt32 (cou - bou).toInt32 tim (if ¬ fs (12 * P + S) < vol ∧ ¬ hel = 0 then 1 else 0) (j - 5 * K) else fr j) ∧
      ((siz.toInt < 30 ∧ K = siz.toInt.toNat ∧ siz1 = siz + 1 ∧ old1 = old) ∨ (siz.toInt = 30 ∧ K = old.toInt.toNat ∧ siz1 = siz ∧ old1 = (if old.toInt = 29 then 0 else old + 1))) := by
  have t30 : (30 : Int32).toInt = 30 := by decide
  have t5 : (5 : Int32).toInt = 5 := by decide
  have o1 : (1 : Int32).toInt = 1 := by decide
  have row : ∀ {o s p : Int32} {b1 b2 b3 b4 b5 : Nat → Int32} {x0 x1 x2 x3 x4 : Int32}, a_X8_addRow 30 old siz o s → a_X8_placeOf 30 5 o (s - 1) p → a_X10_put_150 fr (p + 0) x0 b1 → a_X10_put_150 b1 (p + 1) x1 b2 → a_X10_put_150 b2 (p + 2) x2 b3 → a_X10_put_150 b3 (p + 3) x3 b4 → a_X10_put_150 b4 (p + 4) x4 b5 →
      ∃ K : Nat, K < 30 ∧ (∀ j : Nat, b5 j = if 5 * K ≤ j ∧ j < 5 * K + 5 then fl_v5 x0 x1 x2 x3 x4 (j - 5 * K) else fr j) ∧ ((siz.toInt < 30 ∧ K = siz.toInt.toNat ∧ s = siz + 1 ∧ o = old) ∨ (siz.toInt = 30 ∧ K = old.toInt.toNat ∧ s = siz ∧ o = (if old.toInt = 29 then 0 else old + 1))) := by
    intro o s p b1 b2 b3 b4 b5 x0 x1 x2 x3 x4 ha hpl k0 k1 k2 k3 k4
    have place : ∃ K : Nat, K < 30 ∧ p.toInt = 5 * K ∧ ((siz.toInt < 30 ∧ K = siz.toInt.toNat ∧ s = siz + 1 ∧ o = old) ∨ (siz.toInt = 30 ∧ K = old.toInt.toNat ∧ s = siz ∧ o = (if old.toInt = 29 then 0 else old + 1))) := by
      have pl : ∀ R : Int, 0 ≤ o.toInt → o.toInt < 30 → (s - 1).toInt = R → 0 ≤ R → R < 30 → p.toInt = 5 * (if 30 ≤ o.toInt + R then o.toInt + R - 30 else o.toInt + R) := by
        intro R h1 h2 h3 h4 h5
        have e1 : (o + (s - 1)).toInt = o.toInt + R := by rw [Jvm.Kit.i32_add (by omega) (by omega), h3]
        rcases hpl with ⟨q, e⟩ | ⟨q, e⟩
        · rw [Int32.le_iff_toInt_le, e1, t30] at q
          have e2 : ((o + (s - 1)) - 30).toInt = o.toInt + R - 30 := by rw [Jvm.Kit.i32_sub (by omega) (by omega), e1, t30]
          rw [if_pos q, e, Jvm.Kit.i32_mul (by rw [e2, t5]; omega) (by rw [e2, t5]; omega), e2, t5]
          omega
        · rw [Int32.le_iff_toInt_le, e1, t30] at q
          rw [if_neg q, e, Jvm.Kit.i32_mul (by rw [e1, t5]; omega) (by rw [e1, t5]; omega), e1, t5]
          omega
      rcases ha with ⟨q, ⟨w, e1, e2⟩ | ⟨w, e1, e2⟩⟩ | ⟨q, e1, e2⟩
      · rw [Int32.le_iff_toInt_le, t30] at q
        have eo : (old + 1).toInt = old.toInt + 1 := by rw [Jvm.Kit.i32_add (by omega) (by omega), o1]
        rw [Int32.le_iff_toInt_le, t30, eo] at w
        have es : (s - 1).toInt = 29 := by rw [e2, Jvm.Kit.i32_sub (by omega) (by omega), o1]; omega
        have z : (0 : Int32).toInt = 0 := by decide
        have := pl 29 (by rw [e1, z]; omega) (by rw [e1, z]; omega) es (by omega) (by omega)
        rw [e1, z, if_neg (by omega)] at this
        exact ⟨29, by omega, by omega, Or.inr ⟨by omega, by omega, e2, by rw [if_pos (by omega)]; exact e1⟩⟩
      · rw [Int32.le_iff_toInt_le, t30] at q
        have eo : (old + 1).toInt = old.toInt + 1 := by rw [Jvm.Kit.i32_add (by omega) (by omega), o1]
        rw [Int32.le_iff_toInt_le, t30, eo] at w
        have es : (s - 1).toInt = 29 := by rw [e2, Jvm.Kit.i32_sub (by omega) (by omega), o1]; omega
        have := pl 29 (by rw [e1, eo]; omega) (by rw [e1, eo]; omega) es (by omega) (by omega)
        rw [e1, eo, if_pos (by omega)] at this
        exact ⟨old.toInt.toNat, by omega, by omega, Or.inr ⟨by omega, rfl, e2, by rw [if_neg (by omega)]; exact e1⟩⟩
      · rw [Int32.le_iff_toInt_le, t30] at q
        have hold := h0 (by omega)
        have e3 : (siz + 1).toInt = siz.toInt + 1 := by rw [Jvm.Kit.i32_add (by omega) (by omega), o1]
        have es : (s - 1).toInt = siz.toInt := by rw [e2, Jvm.Kit.i32_sub (by omega) (by omega), e3, o1]; omega
        have := pl siz.toInt (by rw [e1]; omega) (by rw [e1]; omega) es (by omega) (by omega)
        rw [e1, hold, if_neg (by omega)] at this
        exact ⟨siz.toInt.toNat, by omega, by omega, Or.inl ⟨by omega, rfl, e2, e1⟩⟩
    obtain ⟨K, hK, hpK, hK2⟩ := place
    refine ⟨K, hK, fun j => ?_, hK2⟩
    have a : ∀ {x : Int32} {m : Nat}, x.toInt = m → m ≤ 4 → (p + x).toInt = (5 * K + m : Nat) := fun {x m} e q => by rw [Jvm.Kit.i32_add (by omega) (by omega)]; omega
    have q0 := fl_p150 (a (x := 0) (m := 0) (by decide) (by omega)) (by omega) k0
    have q1 := fl_p150 (a (x := 1) (m := 1) (by decide) (by omega)) (by omega) k1
    have q2 := fl_p150 (a (x := 2) (m := 2) (by decide) (by omega)) (by omega) k2
    have q3 := fl_p150 (a (x := 3) (m := 3) (by decide) (by omega)) (by omega) k3
    have q4 := fl_p150 (a (x := 4) (m := 4) (by decide) (by omega)) (by omega) k4
    rw [q4, q3, q2, q1, q0]
    unfold upd fl_v5
    by_cases w : 5 * K ≤ j ∧ j < 5 * K + 5
    · rw [if_pos w]
      obtain ⟨m, hm⟩ : ∃ m : Nat, j = 5 * K + m := ⟨j - 5 * K, by omega⟩
      rw [hm, show 5 * K + m - 5 * K = m from by omega]
      rcases (by omega : m = 0 ∨ m = 1 ∨ m = 2 ∨ m = 3 ∨ m = 4) with e | e | e | e | e
      · subst e
        rw [if_neg (by omega), if_neg (by omega), if_neg (by omega), if_neg (by omega), if_pos (by omega), if_pos rfl]
      · subst e
        rw [if_neg (by omega), if_neg (by omega), if_neg (by omega), if_pos (by omega), if_neg (by omega), if_pos rfl]
      · subst e
        rw [if_neg (by omega), if_neg (by omega), if_pos (by omega), if_neg (by omega), if_neg (by omega), if_pos rfl]
      · subst e
        rw [if_neg (by omega), if_pos (by omega), if_neg (by omega), if_neg (by omega), if_neg (by omega), if_pos rfl]
      · subst e
        rw [if_pos (by omega), if_neg (by omega), if_neg (by omega), if_neg (by omega), if_neg (by omega)]
    · rw [if_neg w, if_neg (by omega), if_neg (by omega), if_neg (by omega), if_neg (by omega), if_neg (by omega)]
  obtain ⟨x, hx, h⟩ := h
  have ex := fl_sc hp hs hP hS hx
  subst ex
  rcases h with ⟨w, ⟨g, o, s, ha, p, hpl, b1, k0, b2, k1, b3, k2, b4, k3, b5, k4, e1, e2, e3, e4, e5, e6, e7⟩ | ⟨g, o, s, ha, p, hpl, b1, k0, b2, k1, b3, k2, b4, k3, b5, k4, e1, e2, e3, e4, e5, e6, e7⟩⟩ | ⟨w, ⟨g, o, s, ha, p, hpl, b1, k0, b2, k1, b3, k2, b4, k3, b5, k4, e1, e2, e3, e4, e5, e6, e7⟩ | ⟨g, o, s, ha, p, hpl, b1, k0, b2, k1, b3, k2, b4, k3, b5, k4, e1, e2, e3, e4, e5, e6, e7⟩⟩
  · have n : ¬ (¬ fs (12 * P + S) < vol ∧ ¬ hel = 0) := fun z => z.1 w
    rw [if_neg n, if_neg n, e5, e6, e7]
    exact ⟨e1, e2, e3, e4, row ha hpl k0 k1 k2 k3 k4⟩
  · have n : ¬ (¬ fs (12 * P + S) < vol ∧ ¬ hel = 0) := fun z => z.1 w
    rw [if_neg n, if_neg n, e5, e6, e7]
    exact ⟨e1, e2, e3, e4, row ha hpl k0 k1 k2 k3 k4⟩
  · have n : ¬ (¬ fs (12 * P + S) < vol ∧ ¬ hel = 0) := fun z => z.2 g
    rw [if_neg n, if_neg n, e5, e6, e7]
    exact ⟨e1, e2, e3, e4, row ha hpl k0 k1 k2 k3 k4⟩
  · have n : (¬ fs (12 * P + S) < vol ∧ ¬ hel = 0) := ⟨w, g⟩
    rw [if_pos n, if_pos n, e5, e6, e7]
    exact ⟨e1, e2, e3, e4, row ha hpl k0 k1 k2 k3 k4⟩
/-- the records of both sides are the same -/
def fl_R (tt : Prop) (f : Nat → Int32) (W : fw_W) : Prop := f 12 = W.1 12 ∧ (0 ≤ (f 12).toInt ∧ (f 12).toInt ≤ 30) ∧ (0 ≤ (W.1 18).toInt ∧ (W.1 18).toInt < 30) ∧ ((f 12).toInt < 30 → (W.1 18).toInt = 0) ∧ ∀ i m : Nat, (i : Int) < (f 12).toInt → m < 5 → (m = 3 → tt) → f (568 + 5 * i + m) = W.2.1 6 (5 * (((W.1 18).toInt.toNat + i) % 30) + m)
theorem fl_Rw {tt : Prop} {f f1 : Nat → Int32} {W V : fw_W} (h : fl_R tt f W) (a : fl_rec f f1) (b1 : V.1 12 = W.1 12) (b2 : V.1 18 = W.1 18) (b3 : V.2.1 6 = W.2.1 6) : fl_R tt f1 V := by
  obtain ⟨h1, h2, h3, h4, h5⟩ := h
  unfold fl_R
  rw [a 12 (Or.inr rfl), b1, b2, b3]
  exact ⟨h1, h2, h3, h4, fun i m hi hm h3 => (a _ (Or.inl (by omega))).trans (h5 i m hi hm h3)⟩
theorem fl_v5e {tt : Prop} {a b d e e2 g : Int32} (h : tt → e = e2) : ∀ m : Nat, m < 5 → (m = 3 → tt) → fl_v5 a b d e g m = fl_v5 a b d e2 g m := fun m _ h3 => by
  unfold fl_v5
  by_cases q : m = 3
  · rw [h (h3 q)]
  · rw [if_neg q, if_neg q]
theorem fl_Rn {tt : Prop} {f f1 V Vc : Nat → Int32} {W : fw_W} {K : Nat} {s1 o1 : Int32} {fr1 : Nat → Int32} (h : fl_R tt f W) (a : fl_rm1 f f1 V) (hV : ∀ m : Nat, m < 5 → (m = 3 → tt) → V m = Vc m) (hK : K < 30) (b : ∀ j : Nat, fr1 j = if 5 * K ≤ j ∧ j < 5 * K + 5 then Vc (j - 5 * K) else W.2.1 6 j) (d : ((W.1 12).toInt < 30 ∧ K = (W.1 12).toInt.toNat ∧ s1 = W.1 12 + 1 ∧ o1 = W.1 18) ∨ ((W.1 12).toInt = 30 ∧ K = (W.1 18).toInt.toNat ∧ s1 = W.1 12 ∧ o1 = (if (W.1 18).toInt = 29 then 0 else W.1 18 + 1))) (X : fw_W) (x1 : X.1 12 = s1) (x2 : X.1 18 = o1) (x3 : X.2.1 6 = fr1) : fl_R tt f1 X := by
  obtain ⟨h1, h2, h3, h4, h5⟩ := h
  obtain ⟨_, a⟩ := a
  have t30 : (30 : Int32).toInt = 30 := by decide
  have one : (1 : Int32).toInt = 1 := by decide
  have z : (0 : Int32).toInt = 0 := by decide
  unfold fl_R
  rw [x1, x2, x3]
  rcases a with ⟨n, a1, a2⟩ | ⟨n, a1, a2⟩
  · have n30 : (f 12).toInt ≠ 30 := fun q => n (Int32.toInt_inj.mp (q.trans t30.symm))
    rcases d with ⟨_, d1, d2, d3⟩ | ⟨d0, _⟩
    · have o0 := h4 (by omega)
      have e1 : (f 12 + 1).toInt = (f 12).toInt + 1 := by rw [Jvm.Kit.i32_add (by omega) (by omega), one]
      rw [a1, d2, d3, e1, o0]
      refine ⟨by rw [h1], by omega, by omega, fun _ => rfl, fun i m hi hm hm3 => ?_⟩
      rw [a2 _ (by omega) (by omega), b, show ((0 : Int).toNat + i) % 30 = i from by rw [show (0 : Int).toNat + i = i from by omega]; exact Nat.mod_eq_of_lt (by omega)]
      rw [h1] at hi ⊢
      by_cases q : i = K
      · rw [if_pos (by omega), if_pos (by omega)]
        have e := hV m hm hm3
        exact (congrArg V (by omega)).trans (e.trans (congrArg Vc (by omega)))
      · rw [if_neg (by omega), if_neg (by omega)]
        have k := h5 i m (by rw [h1]; omega) hm hm3
        rw [o0, show ((0 : Int).toNat + i) % 30 = i from by rw [show (0 : Int).toNat + i = i from by omega]; exact Nat.mod_eq_of_lt (by omega)] at k
        exact k
    · rw [← h1] at d0; exact absurd d0 n30
  · have n30 : (f 12).toInt = 30 := by rw [n]; decide
    rcases d with ⟨d0, _⟩ | ⟨_, d1, d2, d3⟩
    · rw [← h1] at d0; omega
    · have e1 : (W.1 18 + 1).toInt = (W.1 18).toInt + 1 := by rw [Jvm.Kit.i32_add (by omega) (by omega), one]
      have eo : o1.toInt = (if (W.1 18).toInt = 29 then 0 else (W.1 18).toInt + 1) := by
        rw [d3]
        by_cases q : (W.1 18).toInt = 29
        · rw [if_pos q, if_pos q, z]
        · rw [if_neg q, if_neg q, e1]
      have er : ∀ i : Nat, i < 30 → (o1.toInt.toNat + i) % 30 = ((W.1 18).toInt.toNat + (i + 1)) % 30 := fun i hi => by
        rw [eo]
        split <;> omega
      rw [a1, d2, t30]
      refine ⟨by rw [← h1]; exact n.symm, by omega, ?_, fun q => absurd q (by omega), fun i m hi hm hm3 => ?_⟩
      · rw [eo]; split <;> omega
      · rw [er i (by omega), a2 _ (by omega) (by omega), b]
        by_cases q : i = 29
        · subst q
          have : ((W.1 18).toInt.toNat + (29 + 1)) % 30 = K := by omega
          rw [this, if_pos (by omega), if_pos (by omega)]
          have e := hV m hm hm3
          exact (congrArg V (by omega)).trans (e.trans (congrArg Vc (by omega)))
        · have k := h5 (i + 1) m (by omega) hm hm3
          have hne : ((W.1 18).toInt.toNat + (i + 1)) % 30 ≠ K := by omega
          rw [if_neg (by omega), if_neg (by omega)]
          rw [← k]
          exact congrArg f (by omega)
/-! the way through repeat steps -/
def fl_stp (n : Nat) (K T M : Nat → Int32) (k : Nat) (B : Nat → Int32) (k1 : Nat) (B1 : Nat → Int32) : Prop := k < n ∧ K k = 4 ∧ ((¬ M k ≤ B k ∧ k1 = (T k).toInt.toNat ∧ ∀ j : Nat, j < 12 → B1 j = if j = k then B k + 1 else B j) ∨ (M k ≤ B k ∧ k1 = k + 1 ∧ ∀ j : Nat, j < 12 → B1 j = if j = k then 0 else B j))
def fl_run (n : Nat) (K T M : Nat → Int32) : Nat → Nat → (Nat → Int32) → Nat → (Nat → Int32) → Prop
  | 0, k, B, k1, B1 => k1 = k ∧ ∀ j : Nat, j < 12 → B1 j = B j
  | m + 1, k, B, k1, B1 => ∃ (k2 : Nat) (B2 : Nat → Int32), fl_stp n K T M k B k2 B2 ∧ fl_run n K T M m k2 B2 k1 B1
def fl_go (n : Nat) (K : Nat → Int32) (k : Nat) : Prop := k < n ∧ K k = 4
theorem fl_stB {n k k1 : Nat} {K T M B C B1 : Nat → Int32} (hn : n ≤ 12) (e : ∀ j : Nat, j < 12 → C j = B j) (h : fl_stp n K T M k B k1 B1) : fl_stp n K T M k C k1 B1 := by
  obtain ⟨a, b, c⟩ := h
  unfold fl_stp
  rw [e k (by omega)]
  refine ⟨a, b, ?_⟩
  rcases c with ⟨c1, c2, c3⟩ | ⟨c1, c2, c3⟩
  · exact Or.inl ⟨c1, c2, fun j hj => by rw [e j hj]; exact c3 j hj⟩
  · exact Or.inr ⟨c1, c2, fun j hj => by rw [e j hj]; exact c3 j hj⟩
theorem fl_snoc {n : Nat} {K T M : Nat → Int32} (hn : n ≤ 12) : ∀ (m : Nat) {k k2 k1 : Nat} {B B2 B1 : Nat → Int32}, fl_run n K T M m k B k2 B2 → fl_stp n K T M k2 B2 k1 B1 → fl_run n K T M (m + 1) k B k1 B1
  | 0, k, k2, k1, B, B2, B1, h, s => by
    obtain ⟨e, h⟩ := h
    subst e
    exact ⟨k1, B1, fl_stB hn (fun j hj => (h j hj).symm) s, rfl, fun _ _ => rfl⟩
  | m + 1, k, k2, k1, B, B2, B1, h, s => by
    obtain ⟨x, X, h1, h2⟩ := h
    exact ⟨x, X, h1, fl_snoc hn m h2 s⟩
/-- one step has one end -/
theorem fl_st1 {n k a b : Nat} {K T M B C X Y : Nat → Int32} (hn : n ≤ 12) (e : ∀ j : Nat, j < 12 → C j = B j) (h : fl_stp n K T M k B a X) (g : fl_stp n K T M k C b Y) : b = a ∧ ∀ j : Nat, j < 12 → Y j = X j := by
  have g := fl_stB hn (fun j hj => (e j hj).symm) g
  obtain ⟨h0, _, h⟩ := h
  obtain ⟨_, _, g⟩ := g
  rcases h with ⟨h1, h2, h3⟩ | ⟨h1, h2, h3⟩
  · rcases g with ⟨g1, g2, g3⟩ | ⟨g1, g2, g3⟩
    · exact ⟨g2.trans h2.symm, fun j hj => by rw [g3 j hj, h3 j hj]⟩
    · exact absurd g1 h1
  · rcases g with ⟨g1, g2, g3⟩ | ⟨g1, g2, g3⟩
    · exact absurd h1 g1
    · exact ⟨g2.trans h2.symm, fun j hj => by rw [g3 j hj, h3 j hj]⟩
theorem fl_rn1 {n : Nat} {K T M : Nat → Int32} (hn : n ≤ 12) : ∀ (m r : Nat) {k a b : Nat} {B C X Y : Nat → Int32}, (∀ j : Nat, j < 12 → C j = B j) → fl_run n K T M m k B a X → fl_run n K T M r k C b Y → ¬ fl_go n K a → ¬ fl_go n K b → m = r ∧ b = a ∧ ∀ j : Nat, j < 12 → Y j = X j
  | 0, 0, k, a, b, B, C, X, Y, e, h, g, ha, hb => ⟨rfl, g.1.trans h.1.symm, fun j hj => by rw [g.2 j hj, h.2 j hj, e j hj]⟩
  | 0, r + 1, k, a, b, B, C, X, Y, e, h, g, ha, hb => by
    obtain ⟨x, Z, s, _⟩ := g
    exact (ha (by rw [h.1]; exact ⟨s.1, s.2.1⟩)).elim
  | m + 1, 0, k, a, b, B, C, X, Y, e, h, g, ha, hb => by
    obtain ⟨x, Z, s, _⟩ := h
    exact (hb (by rw [g.1]; exact ⟨s.1, s.2.1⟩)).elim
  | m + 1, r + 1, k, a, b, B, C, X, Y, e, h, g, ha, hb => by
    obtain ⟨x, Z, s, h⟩ := h
    obtain ⟨y, V, t, g⟩ := g
    obtain ⟨e1, e2⟩ := fl_st1 hn e s t
    subst e1
    obtain ⟨q1, q2, q3⟩ := fl_rn1 hn m r e2 h g ha hb
    exact ⟨by omega, q2, q3⟩
/-- what holds of a program, and below the place -/
def fl_pg (n : Nat) (K T M : Nat → Int32) : Prop := n ≤ 12 ∧ ∀ j : Nat, j < n → K j = 4 → 0 ≤ (T j).toInt ∧ (T j).toInt < (j : Int) ∧ 1 ≤ (M j).toInt
def fl_lo (K : Nat → Int32) (k : Nat) (B : Nat → Int32) : Prop := ∀ j : Nat, j < k → K j = 4 → B j = 0
/-- up the steps, and then only down -/
def fl_ud (n : Nat) (K : Nat → Int32) (k m u : Nat) (B : Nat → Int32) : Prop := u ≤ n ∧ fl_lo K u B ∧ (u = k + m ∨ ∃ t : Nat, u < t ∧ t < n ∧ k ≤ t ∧ m ≤ (t - k) + (t - u) ∧ fl_lo K (u + 1) B)
theorem fl_ud1 {n k m u v : Nat} {K T M B C : Nat → Int32} (hp : fl_pg n K T M) (h : fl_ud n K k m u B) (s : fl_stp n K T M u B v C) : fl_ud n K k (m + 1) v C := by
  obtain ⟨h1, h2, h3⟩ := h
  obtain ⟨s1, s2, s3⟩ := s
  obtain ⟨p1, p2, p3⟩ := hp.2 u s1 s2
  have hn := hp.1
  have z : (0 : Int32).toInt = 0 := by decide
  rcases s3 with ⟨a1, a2, a3⟩ | ⟨a1, a2, a3⟩
  · have low : ∀ t : Nat, t ≤ u → fl_lo K t C := fun t ht j hj hk => by
      rw [a3 j (by omega), if_neg (by omega)]
      exact h2 j (by omega) hk
    refine ⟨by omega, low v (by omega), Or.inr ?_⟩
    rcases h3 with e | ⟨t, t1, t2, t3, t4, t5⟩
    · exact ⟨u, by omega, s1, by omega, by omega, low (v + 1) (by omega)⟩
    · exact ⟨t, by omega, t2, t3, by omega, low (v + 1) (by omega)⟩
  · rcases h3 with e | ⟨t, t1, t2, t3, t4, t5⟩
    · refine ⟨by omega, fun j hj hk => ?_, Or.inl (by omega)⟩
      rw [a3 j (by omega)]
      by_cases q : j = u
      · rw [if_pos q]
      · rw [if_neg q]; exact h2 j (by omega) hk
    · have := t5 u (by omega) s2
      rw [this, Int32.le_iff_toInt_le, z] at a1
      omega
theorem fl_udr {n k : Nat} {K T M : Nat → Int32} (hp : fl_pg n K T M) : ∀ (r m : Nat) {u v : Nat} {B C : Nat → Int32}, fl_ud n K k m u B → fl_run n K T M r u B v C → fl_ud n K k (m + r) v C
  | 0, m, u, v, B, C, h, g => by
    obtain ⟨g1, g2⟩ := g
    obtain ⟨h1, h2, h3⟩ := h
    subst g1
    have hn := hp.1
    have lo : ∀ t : Nat, t ≤ v + 1 → t ≤ n → fl_lo K t B → fl_lo K t C := fun t _ ht q j hj hk => by rw [g2 j (by omega)]; exact q j hj hk
    refine ⟨h1, lo v (by omega) h1 h2, h3.imp id (fun ⟨t, t1, t2, t3, t4, t5⟩ => ⟨t, t1, t2, t3, t4, lo (v + 1) (by omega) (by omega) t5⟩)⟩
  | r + 1, m, u, v, B, C, h, g => by
    obtain ⟨x, X, s, g⟩ := g
    have := fl_udr hp r (m + 1) (fl_ud1 hp h s) g
    rw [show m + (r + 1) = m + 1 + r from by omega]
    exact this
/-- at most so many steps, and below the end all numbers are 0 -/
theorem fl_rnb {n k m v : Nat} {K T M B C : Nat → Int32} (hp : fl_pg n K T M) (hk : k ≤ n) (hl : fl_lo K k B) (h : fl_run n K T M m k B v C) : m ≤ 24 ∧ v ≤ n ∧ fl_lo K v C := by
  have hn := hp.1
  obtain ⟨a, b, c⟩ := fl_udr hp m 0 (k := k) ⟨hk, hl, Or.inl rfl⟩ h
  refine ⟨?_, a, b⟩
  rcases c with e | ⟨t, t1, t2, t3, t4, _⟩
  · omega
  · omega
theorem fl_at12 {b : Nat → Int32} {i r : Int32} {K : Nat} (hi : i.toInt = K) (hK : K < 12) (h : a_X10_at_12 b i r) : r = b K := by
  have t : (12 : Int32).toInt = 12 := by decide
  have z : (0 : Int32).toInt = 0 := by decide
  rcases h with ⟨n, _⟩ | ⟨_, ⟨_, h⟩ | ⟨n, _⟩⟩
  · rw [Int32.lt_iff_toInt_lt] at n; omega
  · rw [h]
    exact congrArg b (by show i.toInt.toNat = K; omega)
  · rw [Int32.lt_iff_toInt_lt] at n; omega
theorem fl_p12 {b b1 : Nat → Int32} {i v : Int32} {K : Nat} (hi : i.toInt = K) (hK : K < 12) (h : a_X10_put_12 b i v b1) : b1 = upd b K v := by
  have t : (12 : Int32).toInt = 12 := by decide
  have z : (0 : Int32).toInt = 0 := by decide
  rcases h with ⟨n, _⟩ | ⟨_, ⟨n, _⟩ | ⟨_, h⟩⟩
  · rw [Int32.lt_iff_toInt_lt] at n; omega
  · rw [Int32.le_iff_toInt_le] at n; omega
  · rw [h, show i.toNatClampNeg = K from by show i.toInt.toNat = K; omega]
/-- the class goes this way -/
theorem fl_sb {fsps fk ff fs : Nat → Int32} {prg : Int32} {P n : Nat} (hp : prg.toInt = P) (hP : P < 4) (hs : fsps P = Int32.ofNat n) (pg : fl_pg n (fun j => fk (12 * P + j)) (fun j => ff (12 * P + j)) (fun j => fs (12 * P + j))) : ∀ (m : Nat) {k r : Int32} {B C : Nat → Int32} {k0 : Nat}, k.toInt = k0 → k0 ≤ n → a_sb fsps fk ff fs prg m k B r C → ∃ (q r0 : Nat), q ≤ m ∧ r.toInt = r0 ∧ fl_run n (fun j => fk (12 * P + j)) (fun j => ff (12 * P + j)) (fun j => fs (12 * P + j)) q k0 B r0 C ∧ (q = m ∨ ¬ fl_go n (fun j => fk (12 * P + j)) r0)
  | 0, k, r, B, C, k0, hk, hn, h => by
    obtain ⟨e1, e2⟩ := h
    subst e1 e2
    exact ⟨0, k0, Nat.le_refl _, hk, ⟨rfl, fun _ _ => rfl⟩, Or.inl rfl⟩
  | m + 1, k, r, B, C, k0, hk, hn, h => by
    obtain ⟨st, h1, h2⟩ := h
    have hn12 := pg.1
    have es := fl_so hp hP h1
    rw [hs] at es
    have et : st.toInt = n := by rw [es]; exact fl_on (by omega)
    rcases h2 with ⟨a, e1, e2⟩ | ⟨a, kd, h3, h4⟩
    · subst e1 e2
      rw [Int32.le_iff_toInt_le] at a
      exact ⟨0, k0, by omega, hk, ⟨rfl, fun _ _ => rfl⟩, Or.inr (fun q => by have := q.1; omega)⟩
    · rw [Int32.le_iff_toInt_le] at a
      have ek := fl_kd hp hk hP (by omega) h3
      rcases h4 with ⟨b, e1, e2⟩ | ⟨b, t, s, h5, h6, h7⟩
      · subst e1 e2
        exact ⟨0, k0, by omega, hk, ⟨rfl, fun _ _ => rfl⟩, Or.inr (fun q => b (ek.trans q.2))⟩
      · have e5 := fl_at12 hk (by omega) h5
        have e6 := fl_sc hp hk hP (by omega) h6
        have kk : fk (12 * P + k0) = 4 := ek.symm.trans b
        obtain ⟨p1, p2, p3⟩ := pg.2 k0 (by omega) kk
        have p1 : 0 ≤ (ff (12 * P + k0)).toInt := p1
        have p2 : (ff (12 * P + k0)).toInt < (k0 : Int) := p2
        rcases h7 with ⟨c, B2, k2, h8, h9, h10⟩ | ⟨c, B2, h8, h10⟩
        · have e8 := fl_p12 hk (by omega) h8
          have e9 := fl_fs hp hk hP (by omega) h9
          have i2 : k2.toInt = (ff (12 * P + k0)).toInt.toNat := by rw [e9]; show (ff (12 * P + k0)).toInt = _; omega
          obtain ⟨q, r0, q1, q2, q3, q4⟩ := fl_sb hp hP hs pg m i2 (by omega) h10
          refine ⟨q + 1, r0, by omega, q2, ⟨(ff (12 * P + k0)).toInt.toNat, B2, ⟨by omega, kk, Or.inl ⟨?_, rfl, fun j hj => ?_⟩⟩, q3⟩, q4.imp (by omega) id⟩
          · show ¬ fs (12 * P + k0) ≤ B k0
            rw [← e6, ← e5]; exact c
          · rw [e8, e5]; rfl
        · have e8 := fl_p12 hk (by omega) h8
          have i2 : (k + Int32.ofInt 1).toInt = (k0 + 1 : Nat) := by rw [rf_oi (by omega)]; omega
          obtain ⟨q, r0, q1, q2, q3, q4⟩ := fl_sb hp hP hs pg m i2 (by omega) h10
          refine ⟨q + 1, r0, by omega, q2, ⟨k0 + 1, B2, ⟨by omega, kk, Or.inr ⟨?_, rfl, fun j hj => ?_⟩⟩, q3⟩, q4.imp (by omega) id⟩
          · show fs (12 * P + k0) ≤ B k0
            rw [← e6, ← e5]; exact c
          · rw [e8]; rfl
/-- the reference goes the same way -/
theorem fl_qw {f : Nat → Int32} {c p : Int32} {P n : Nat} (hc : 0 ≤ c.toInt ∧ c.toInt < 6) (hp : p.toInt = P) (hP : P < 4) (hs : f (96 + 37 * P) = Int32.ofNat n) (pg : fl_pg n (fun j => f (97 + 37 * P + 3 * j)) (fun j => f (98 + 37 * P + 3 * j)) (fun j => f (99 + 37 * P + 3 * j))) : ∀ (m : Nat) {k k1 : Int32} {f1 : Nat → Int32} {k0 : Nat}, k.toInt = k0 → k0 ≤ n → q_way c p m k f k1 f1 → ∃ r0 : Nat, k1.toInt = r0 ∧ r0 ≤ n ∧ fl_run n (fun j => f (97 + 37 * P + 3 * j)) (fun j => f (98 + 37 * P + 3 * j)) (fun j => f (99 + 37 * P + 3 * j)) m k0 (fun j => rf_of f c (24 + j)) r0 (fun j => rf_of f1 c (24 + j)) ∧ ∀ j : Nat, (j < 268 + 54 * c.toInt.toNat ∨ 280 + 54 * c.toInt.toNat ≤ j) → f1 j = f j
  | 0, k, k1, f1, k0, hk, hn, h => by
    obtain ⟨e1, e2⟩ := h
    subst e1 e2
    exact ⟨k0, hk, hn, ⟨rfl, fun _ _ => rfl⟩, fun _ _ => rfl⟩
  | m + 1, k, k1, f1, k0, hk, hn, h => by
    obtain ⟨u, g, h1, s1, s2, s3⟩ := h
    obtain ⟨u0, e1, e2, e3, e4⟩ := fl_qw hc hp hP hs pg m hk hn h1
    have hn12 := pg.1
    have ep : p.toInt.toNat = P := by omega
    have eu : u.toInt.toNat = u0 := by omega
    have t24 : (24 : Int32).toInt = 24 := by decide
    have e24 : (24 + u).toInt.toNat = 24 + u0 := by rw [Jvm.Kit.i32_add (by omega) (by omega), t24]; omega
    have go : ∀ j : Nat, j < 244 → g j = f j := fun j hj => e4 j (by omega)
    rw [ep, go _ (by omega), hs, Int32.le_iff_toInt_le, fl_on (by omega), e1] at s1
    rw [ep, eu, go _ (by omega)] at s2
    rw [ep, eu, e24, go _ (by omega), go _ (by omega)] at s3
    have kk : f (97 + 37 * P + 3 * u0) = 4 := s2
    obtain ⟨p1, p2, p3⟩ := pg.2 u0 (by omega) kk
    have eM : f (97 + 37 * P + 3 * u0 + 2) = f (99 + 37 * P + 3 * u0) := congrArg f (by omega)
    have eT : f (97 + 37 * P + 3 * u0 + 1) = f (98 + 37 * P + 3 * u0) := congrArg f (by omega)
    rw [eM, eT] at s3
    have out : ∀ {v : Int32} {j : Nat}, (j < 268 + 54 * c.toInt.toNat ∨ 280 + 54 * c.toInt.toNat ≤ j) → upd g (244 + 54 * c.toInt.toNat + (24 + u0)) v j = f j := fun {v j} hj => by rw [rf_upd_ne (by omega)]; exact e4 j hj
    have row : ∀ {v : Int32} (j : Nat), j < 12 → rf_of (upd g (244 + 54 * c.toInt.toNat + (24 + u0)) v) c (24 + j) = if j = u0 then v else rf_of g c (24 + j) := fun {v} j hj => by
      rw [fl_ofu]
      unfold upd
      by_cases q : j = u0
      · rw [if_pos (by omega), if_pos q]
      · rw [if_neg (by omega), if_neg q]
    rcases s3 with ⟨a1, a2, a3⟩ | ⟨a1, a2, a3⟩
    · refine ⟨(f (98 + 37 * P + 3 * u0)).toInt.toNat, ?_, ?_, fl_snoc hn12 m e3 ⟨by omega, kk, Or.inl ⟨a1, rfl, fun j hj => ?_⟩⟩, fun j hj => ?_⟩
      · rw [a3]
        have q : 0 ≤ (f (98 + 37 * P + 3 * u0)).toInt := p1
        omega
      · have q : (f (98 + 37 * P + 3 * u0)).toInt < (u0 : Int) := p2
        omega
      · rw [a2]; exact row j hj
      · rw [a2]; exact out hj
    · refine ⟨u0 + 1, ?_, by omega, fl_snoc hn12 m e3 ⟨by omega, kk, Or.inr ⟨a1, rfl, fun j hj => ?_⟩⟩, fun j hj => ?_⟩
      · rw [a3, rf_oi (by omega)]; omega
      · rw [a2]; exact row j hj
      · rw [a2]; exact out hj
/-! who runs what: the part of a channel that a program moves -/
def fl_ac (s : Int32) : Prop := s = 1 ∨ s = 2 ∨ s = 4
def fl_U (f : Nat → Int32) (su : Nat → Int64) (c : Int32) (sta prg stp las wai hel : Int32) (bin bou sbo cin cou : Int64) (ftb fqu : Nat → Int32) : Prop :=
  (rf_of f c 0 = sta ∧ rf_of f c 1 = prg ∧ rf_of f c 39 = wai ∧ rf_of f c 21 = hel) ∧ (∀ j : Nat, j < 12 → rf_of f c (24 + j) = ftb j) ∧ (∀ j : Nat, (j : Int) < wai.toInt → rf_of f c (40 + j) = fqu j) ∧
  (su (7 * c.toInt.toNat + 0) = cin ∧ su (7 * c.toInt.toNat + 1) = cou ∧ su (7 * c.toInt.toNat + 4) = cin - bin ∧ su (7 * c.toInt.toNat + 5) = cou - bou) ∧
  (fl_ac sta → rf_of f c 2 = stp ∧ rf_of f c 3 = las ∧ su (7 * c.toInt.toNat + 6) = sbo) ∧ (¬ fl_ac sta → rf_of f c 2 = -1 ∧ rf_of f c 3 = 0)
/-- the sums of the others, and this channel's own that stay -/
def fl_su (c : Int32) (su t : Nat → Int64) : Prop := (∀ j : Nat, (j < 7 * c.toInt.toNat ∨ 7 * c.toInt.toNat + 7 ≤ j) → t j = su j) ∧ ∀ j : Nat, j < 4 → t (7 * c.toInt.toNat + j) = su (7 * c.toInt.toNat + j)
theorem fl_sur {c : Int32} {su : Nat → Int64} : fl_su c su su := ⟨fun _ _ => rfl, fun _ _ => rfl⟩
theorem fl_sut {c : Int32} {su t u : Nat → Int64} (a : fl_su c su t) (b : fl_su c t u) : fl_su c su u := ⟨fun j h => (b.1 j h).trans (a.1 j h), fun j h => (b.2 j h).trans (a.2 j h)⟩
theorem fl_suu {c : Int32} {su : Nat → Int64} {K : Nat} {v : Int64} (h : 4 ≤ K) (h7 : K < 7) : fl_su c su (vp_updL su (7 * c.toInt.toNat + K) v) := ⟨fun j q => by rw [fl_uL, if_neg (by omega)], fun j q => by rw [fl_uL, if_neg (by omega)]⟩
/-- the places of a channel that a start leaves as they are -/
def fl_st (J : Nat) : Prop := (4 ≤ J ∧ J ≤ 20) ∨ J = 22 ∨ J = 23 ∨ (36 ≤ J ∧ J < 54)
theorem fl_bg {f f1 : Nat → Int32} {su t : Nat → Int64} {c p idx tim llim lwid lold lsiz sta prg stp las wai hel sta1 prg1 stp1 las1 hel1 : Int32} {fln ftb fqu ftb1 : Nat → Int32} {bin bou sbo cin cou bin1 bou1 sbo1 : Int64} (hc : 0 ≤ c.toInt ∧ c.toInt < 6) (hw : wai.toInt ≤ 4) (U : fl_U f su c sta prg stp las wai hel bin bou sbo cin cou ftb fqu) (hr : q_X11_startsOn f su c p f1 t) (hb : a_X1_begin idx cin cou ftb tim llim lwid lold lsiz fln p sta1 prg1 stp1 las1 bin1 bou1 hel1 sbo1 ftb1) :
    fl_U f1 t c sta1 prg1 stp1 las1 wai hel1 bin1 bou1 sbo1 cin cou ftb1 fqu ∧ (∀ J : Nat, fl_st J → rf_of f1 c J = rf_of f c J) ∧ fl_out c f f1 ∧ fl_rec f f1 ∧ fl_su c su t ∧ sta1 = 1 ∧ prg1 = p ∧ stp1 = 0 ∧ hel1 = 0 ∧ ∀ j : Nat, j < 12 → ftb1 j = 0 := by
  obtain ⟨b, hz, _, _, _, _, e1, e2, e3, e4, e5, e6, e7, e8, e9⟩ := hb
  have e2 := e2.symm
  have e5 := e5.symm
  have e6 := e6.symm
  have e8 := e8.symm
  subst e1 e2 e3 e4 e5 e6 e7 e8 e9
  obtain ⟨⟨u0, u1, u39, u21⟩, ut, uq, ⟨us0, us1, us4, us5⟩, ua, un⟩ := U
  obtain ⟨a1, h1, a2, h2, a3, h3, a4, h4, a5, h5, a6, h6, a7, h7, a8, h8, a9, h9, a10, h10, a11, h11, a12, h12, a13, h13, a14, h14, a15, t1, ⟨x1, hx1, x2, hx2, a16, h16, h17, h18⟩, a17, hk, a18, t2, ⟨y1, hy1, y2, hy2, r, hr1, t3, ht3, hf2, ht2⟩, hf, ht⟩ := hr
  have R14 : rf_of a14 c = upd (upd (upd (upd (upd (upd (upd (upd (upd (upd (upd (upd (upd (upd (rf_of f c) 0 1) 1 p) 24 0) 25 0) 26 0) 27 0) 28 0) 29 0) 30 0) 31 0) 32 0) 33 0) 34 0) 35 0 := by
    rw [h14, fl_ofu, h13, fl_ofu, h12, fl_ofu, h11, fl_ofu, h10, fl_ofu, h9, fl_ofu, h8, fl_ofu, h7, fl_ofu, h6, fl_ofu, h5, fl_ofu, h4, fl_ofu, h3, fl_ofu, h2, fl_ofu, h1, fl_ofu]
  have R15 : rf_of a15 c = upd (rf_of a14 c) 21 0 := by rw [h17, h16, fl_ofu]
  have R17 : ∀ J : Nat, J < 54 → rf_of a17 c J = rf_of a15 c J := fun J hJ => fl_kpr hc hk hJ
  have R1 : ∀ J : Nat, J < 54 → rf_of f1 c J = upd (upd (rf_of a15 c) 2 0) 3 0 J := fun J hJ => by
    rw [hf, hf2, hy2, fl_ofu, hy1, fl_ofu]
    unfold upd
    by_cases q : J = 3
    · rw [if_pos q, if_pos q]
    · rw [if_neg q, if_neg q]
      by_cases w : J = 2
      · rw [if_pos w, if_pos w]
      · rw [if_neg w, if_neg w]; exact R17 J hJ
  have s1 := fl_put hc (K := 4) (by decide) (by omega) hx1
  have s2 := fl_put hc (K := 5) (by decide) (by omega) hx2
  have s3 := fl_sum hc (K := 1) (by decide) (by omega) hr1
  have s4 := fl_put hc (K := 6) (by decide) (by omega) ht3
  have T : t = vp_updL (vp_updL (vp_updL su (7 * c.toInt.toNat + 4) 0) (7 * c.toInt.toNat + 5) 0) (7 * c.toInt.toNat + 6) cou := by
    rw [ht, ht2, s4, s3, h18, s2, s1, fl_uL, fl_uL, if_neg (by omega), if_neg (by omega), us1]
  have zz : ∀ x : Int64, x - x = 0 := fun x => Int64.sub_self x
  have zr : ∀ j : Nat, j < 12 → rf_of f1 c (24 + j) = 0 := fun j hj => by
    rw [R1 _ (by omega), R15, R14]
    rcases (by omega : j = 0 ∨ j = 1 ∨ j = 2 ∨ j = 3 ∨ j = 4 ∨ j = 5 ∨ j = 6 ∨ j = 7 ∨ j = 8 ∨ j = 9 ∨ j = 10 ∨ j = 11) with e | e | e | e | e | e | e | e | e | e | e | e <;> subst e <;> rfl
  have st : ∀ J : Nat, fl_st J → rf_of f1 c J = rf_of f c J := fun J hJ => by
    unfold fl_st at hJ
    rw [R1 J (by omega), R15, R14]
    unfold upd
    rw [if_neg (by omega), if_neg (by omega), if_neg (by omega), if_neg (by omega), if_neg (by omega), if_neg (by omega), if_neg (by omega), if_neg (by omega), if_neg (by omega), if_neg (by omega), if_neg (by omega), if_neg (by omega), if_neg (by omega), if_neg (by omega), if_neg (by omega), if_neg (by omega), if_neg (by omega)]
  refine ⟨⟨⟨by rw [R1 0 (by omega), R15, R14]; rfl, by rw [R1 1 (by omega), R15, R14]; rfl, ?_, by rw [R1 21 (by omega), R15]; rfl⟩, fun j hj => ?_, fun j hj => ?_, ⟨?_, ?_, ?_, ?_⟩, fun _ => ⟨by rw [R1 2 (by omega)]; rfl, by rw [R1 3 (by omega)]; rfl, ?_⟩, fun n => absurd (Or.inl rfl) n⟩, st, ?_, ?_, ?_, rfl, rfl, rfl, rfl, fun j hj => ?_⟩
  · rw [st 39 (Or.inr (Or.inr (Or.inr (by omega))))]; exact u39
  · rw [zr j hj, hz j, if_pos hj]
  · by_cases q : 40 + j < 54
    · rw [st (40 + j) (Or.inr (Or.inr (Or.inr (by omega))))]; exact uq j hj
    · omega
  · rw [T, fl_uL, fl_uL, fl_uL, if_neg (by omega), if_neg (by omega), if_neg (by omega)]; exact us0
  · rw [T, fl_uL, fl_uL, fl_uL, if_neg (by omega), if_neg (by omega), if_neg (by omega)]; exact us1
  · rw [T, fl_uL, fl_uL, fl_uL, if_neg (by omega), if_neg (by omega), if_pos (by omega), zz]
  · rw [T, fl_uL, fl_uL, if_neg (by omega), if_pos (by omega), zz]
  · rw [T, fl_uL, if_pos rfl]
  · rw [hf, hf2]
    refine fl_outt ?_ (fl_outt (fl_kpo hk) (by rw [hy2, hy1]; exact fl_outt (fl_outu (by omega)) (fl_outu (by omega))))
    rw [h17, h16, h14, h13, h12, h11, h10, h9, h8, h7, h6, h5, h4, h3, h2, h1]
    exact fl_outt (fl_outu (by omega)) (fl_outt (fl_outu (by omega)) (fl_outt (fl_outu (by omega)) (fl_outt (fl_outu (by omega)) (fl_outt (fl_outu (by omega)) (fl_outt (fl_outu (by omega)) (fl_outt (fl_outu (by omega)) (fl_outt (fl_outu (by omega)) (fl_outt (fl_outu (by omega)) (fl_outt (fl_outu (by omega)) (fl_outt (fl_outu (by omega)) (fl_outt (fl_outu (by omega)) (fl_outt (fl_outu (by omega)) (fl_outt (fl_outu (by omega)) (fl_outu (by omega)))))))))))))))
  · rw [hf, hf2]
    refine fl_rect ?_ (fl_rect (fl_reck hk) (by rw [hy2, hy1]; exact fl_rect (fl_recu hc (by omega)) (fl_recu hc (by omega))))
    rw [h17, h16, h14, h13, h12, h11, h10, h9, h8, h7, h6, h5, h4, h3, h2, h1]
    exact fl_rect (fl_recu hc (by omega)) (fl_rect (fl_recu hc (by omega)) (fl_rect (fl_recu hc (by omega)) (fl_rect (fl_recu hc (by omega)) (fl_rect (fl_recu hc (by omega)) (fl_rect (fl_recu hc (by omega)) (fl_rect (fl_recu hc (by omega)) (fl_rect (fl_recu hc (by omega)) (fl_rect (fl_recu hc (by omega)) (fl_rect (fl_recu hc (by omega)) (fl_rect (fl_recu hc (by omega)) (fl_rect (fl_recu hc (by omega)) (fl_rect (fl_recu hc (by omega)) (fl_rect (fl_recu hc (by omega)) (fl_recu hc (by omega)))))))))))))))
  · rw [T]
    exact fl_sut (fl_suu (by omega) (by omega)) (fl_sut (fl_suu (by omega) (by omega)) (fl_suu (by omega) (by omega)))
  · rw [hz j, if_pos hj]
