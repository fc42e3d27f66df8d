/-- the current that holds a voltage -/
def fl_h (held rest pz ohm : Int32) : Int32 := if 0 < (if (((held - rest) - pz) * 1000) / ohm < 5000 then (((held - rest) - pz) * 1000) / ohm else 5000) then (if (((held - rest) - pz) * 1000) / ohm < 5000 then (((held - rest) - pz) * 1000) / ohm else 5000) else 0
theorem fl_hb {held rest pz ohm : Int32} : 0 ≤ (fl_h held rest pz ohm).toInt ∧ (fl_h held rest pz ohm).toInt ≤ 5000 := by
  have t : (5000 : Int32).toInt = 5000 := by decide
  have z : (0 : Int32).toInt = 0 := by decide
  unfold fl_h
  generalize (((held - rest) - pz) * 1000) / ohm = x
  by_cases a : x < 5000
  · rw [if_pos a]
    by_cases b : 0 < x
    · rw [if_pos b]
      rw [Int32.lt_iff_toInt_lt] at a b
      omega
    · rw [if_neg b, z]; omega
  · rw [if_neg a, if_pos (by decide), t]; omega
theorem fl_hc {held rest pz ohm r : Int32} {d : Int64} (ho : 1 ≤ ohm.toInt) (h1 : 0 ≤ held.toInt ∧ held.toInt ≤ 5000) (h2 : -205000 ≤ rest.toInt ∧ rest.toInt ≤ 210000) (h3 : -2500 ≤ pz.toInt ∧ pz.toInt ≤ 2500) (hd : a_X10_quotient (((held.toInt64 - rest.toInt64) - pz.toInt64) * 1000) ohm.toInt64 d) (h : r = (if (if 5000 < d then 5000 else d) < 0 then 0 else (if 5000 < d then 5000 else d)).toInt32) : r = fl_h held rest pz ohm := by
  have t : (5000 : Int32).toInt = 5000 := by decide
  have z : (0 : Int32).toInt = 0 := by decide
  have t6 : (5000 : Int64).toInt = 5000 := by decide
  have z6 : (0 : Int64).toInt = 0 := by decide
  have k6 : (1000 : Int64).toInt = 1000 := by decide
  have k3 : (1000 : Int32).toInt = 1000 := by decide
  have e1 : (held - rest).toInt = held.toInt - rest.toInt := Jvm.Kit.i32_sub (by omega) (by omega)
  have e2 : ((held - rest) - pz).toInt = held.toInt - rest.toInt - pz.toInt := by rw [Jvm.Kit.i32_sub (by omega) (by omega), e1]
  have e3 : (((held - rest) - pz) * 1000).toInt = (held.toInt - rest.toInt - pz.toInt) * 1000 := by rw [Jvm.Kit.i32_mul (by rw [e2, k3]; omega) (by rw [e2, k3]; omega), e2, k3]
  have g1 : (held.toInt64 - rest.toInt64).toInt = held.toInt - rest.toInt := by rw [Jvm.Kit.i64_sub (by rw [Jvm.Kit.i64_of_i32, Jvm.Kit.i64_of_i32]; omega) (by rw [Jvm.Kit.i64_of_i32, Jvm.Kit.i64_of_i32]; omega), Jvm.Kit.i64_of_i32, Jvm.Kit.i64_of_i32]
  have g2 : ((held.toInt64 - rest.toInt64) - pz.toInt64).toInt = held.toInt - rest.toInt - pz.toInt := by rw [Jvm.Kit.i64_sub (by rw [g1, Jvm.Kit.i64_of_i32]; omega) (by rw [g1, Jvm.Kit.i64_of_i32]; omega), g1, Jvm.Kit.i64_of_i32]
  have g3 : (((held.toInt64 - rest.toInt64) - pz.toInt64) * 1000).toInt = (held.toInt - rest.toInt - pz.toInt) * 1000 := by rw [Jvm.Kit.i64_mul (by rw [g2, k6]; omega) (by rw [g2, k6]; omega), g2, k6]
  have ed := fl_q hd (by rw [Jvm.Kit.i64_of_i32]; omega)
  have e4 : ((((held - rest) - pz) * 1000) / ohm).toInt = ((held.toInt - rest.toInt - pz.toInt) * 1000).tdiv ohm.toInt := by rw [Jvm.Kit.i32_div (by omega), e3]
  have g4 : d.toInt = ((held.toInt - rest.toInt - pz.toInt) * 1000).tdiv ohm.toInt := by rw [ed, Jvm.Kit.i64_div (by rw [g3]; omega), g3, Jvm.Kit.i64_of_i32]
  have eg : d.toInt = ((((held - rest) - pz) * 1000) / ohm).toInt := by rw [g4, e4]
  unfold fl_h
  generalize ((((held - rest) - pz) * 1000) / ohm) = x at *
  have x1 := Int32.toInt_lt x
  have x0 := Int32.le_toInt x
  rw [h]
  refine Int32.toInt.inj ?_
  by_cases a : x < 5000
  · have a' : ¬ 5000 < d := by rw [Int64.lt_iff_toInt_lt, t6, eg]; rw [Int32.lt_iff_toInt_lt, t] at a; omega
    rw [if_pos a, if_neg a']
    by_cases b : 0 < x
    · have b' : ¬ d < 0 := by rw [Int64.lt_iff_toInt_lt, z6, eg]; rw [Int32.lt_iff_toInt_lt, z] at b; omega
      rw [if_pos b, if_neg b', Jvm.Kit.i32_of_i64 (by omega) (by omega), eg]
    · rw [if_neg b]
      by_cases b' : d < 0
      · rw [if_pos b']; decide
      · rw [if_neg b', Jvm.Kit.i32_of_i64 (by omega) (by omega), eg, z]
        rw [Int64.lt_iff_toInt_lt, z6, eg] at b'
        rw [Int32.lt_iff_toInt_lt, z] at b
        omega
  · rw [if_neg a, if_pos (show (0 : Int32) < 5000 by decide)]
    by_cases a' : 5000 < d
    · rw [if_pos a', if_neg (show ¬ (5000 : Int64) < 0 by decide)]; decide
    · rw [if_neg a']
      rw [Int64.lt_iff_toInt_lt, t6, eg] at a'
      rw [Int32.lt_iff_toInt_lt, t] at a
      have b' : ¬ d < 0 := by rw [Int64.lt_iff_toInt_lt, z6, eg]; omega
      rw [if_neg b', Jvm.Kit.i32_of_i64 (by omega) (by omega), eg, t]
      omega
/-! a channel's row -/
theorem fl_ofu {f : Nat → Int32} {c v : Int32} {a : Nat} : rf_of (upd f (244 + 54 * c.toInt.toNat + a) v) c = upd (rf_of f c) a v := by
  funext j
  unfold rf_of upd
  by_cases q : j = a
  · rw [if_pos q, if_pos (by omega)]
  · rw [if_neg q, if_neg (by omega)]
/-- all but this channel, the records and the log is the same -/
def fl_out (c : Int32) (f g : Nat → Int32) : Prop := ∀ j : Nat, j < 568 → j ≠ 12 → j ≠ 17 → (j < 244 + 54 * c.toInt.toNat ∨ 244 + 54 * c.toInt.toNat + 54 ≤ j) → g j = f j
theorem fl_outr {c : Int32} {f : Nat → Int32} : fl_out c f f := fun _ _ _ _ _ => rfl
theorem fl_outt {c : Int32} {f g h : Nat → Int32} (a : fl_out c f g) (b : fl_out c g h) : fl_out c f h := fun j h1 h2 h3 h4 => (b j h1 h2 h3 h4).trans (a j h1 h2 h3 h4)
theorem fl_outu {c v : Int32} {f : Nat → Int32} {a : Nat} (h : a < 54) : fl_out c f (upd f (244 + 54 * c.toInt.toNat + a) v) := fun j _ _ _ h4 => rf_upd_ne (by omega)
/-- the numbers that a tick reads beside the channel's own -/
def fl_sm (f g : Nat → Int32) : Prop := ∀ j : Nat, j < 244 → j ≠ 12 → j ≠ 17 → g j = f j
theorem fl_outs {c : Int32} {f g : Nat → Int32} (h : fl_out c f g) : fl_sm f g := fun j h1 h2 h3 => h j (by omega) h2 h3 (Or.inl (by omega))
/-- what a current does to a channel's row -/
def fl_F (E FD HT CO AM : Int32) (cv : Nat → Int32) (n i : Int32) (F : Nat → Int32) : Nat → Int32 :=
  upd (upd (upd (upd (upd (upd (upd (upd (upd F 8 (fl_P (F 14) (F 15) (F 8) i)) 6 (fl_Q (F 12) E (F 6) (F 16) i)) 16 (fl_L E (F 16) i)) 7 (fl_W (F 12) (F 7) FD (F 18) i)) 18 (fl_H FD (F 18) i)) 9 ((F 9) + ((((F 17) + ((((i * i) / 1000) * (F 13)) / 1000)) - (((F 9) - AM) * CO)) / HT))) 17 ((((F 17) + ((((i * i) / 1000) * (F 13)) / 1000)) - (((F 9) - AM) * CO)) - (((((F 17) + ((((i * i) / 1000) * (F 13)) / 1000)) - (((F 9) - AM) * CO)) / HT) * HT))) 4 i) 5
    (((fl_V cv n (fl_W (F 12) (F 7) FD (F 18) i) (fl_Q (F 12) E (F 6) (F 16) i)) + ((i * (F 13)) / 1000)) + fl_P (F 14) (F 15) (F 8) i)
/-- what is known of a channel that a tick passes -/
def fl_ok (f : Nat → Int32) (c : Int32) (n v : Nat) : Prop := ((0 ≤ c.toInt ∧ c.toInt < 6) ∧ (rf_of f c 11 = Int32.ofNat v ∧ v < 4) ∧ (f (27 + 19 * v) = Int32.ofNat n ∧ 2 ≤ n ∧ n ≤ 11)) ∧
  ((100 ≤ (rf_of f c 12).toInt ∧ (rf_of f c 12).toInt ≤ 100000) ∧ (1 ≤ (rf_of f c 13).toInt ∧ (rf_of f c 13).toInt ≤ 500) ∧ (0 ≤ (rf_of f c 14).toInt ∧ (rf_of f c 14).toInt ≤ 500) ∧ (1 ≤ (rf_of f c 15).toInt ∧ (rf_of f c 15).toInt ≤ 200)) ∧
  ((0 ≤ (rf_of f c 6).toInt ∧ (rf_of f c 6).toInt ≤ 2 * (rf_of f c 12).toInt) ∧ ((rf_of f c 12).toInt / 2 ≤ (rf_of f c 7).toInt ∧ (rf_of f c 7).toInt ≤ (rf_of f c 12).toInt) ∧ (0 ≤ (rf_of f c 16).toInt ∧ (rf_of f c 16).toInt ≤ 999) ∧ (0 ≤ (rf_of f c 18).toInt ∧ (rf_of f c 18).toInt ≤ 1000000) ∧ (-2500 ≤ (rf_of f c 8).toInt ∧ (rf_of f c 8).toInt ≤ 2500)) ∧
  ((0 ≤ (f 0).toInt ∧ (f 0).toInt ≤ 1000) ∧ (1 ≤ (f 1).toInt ∧ (f 1).toInt ≤ 1000000) ∧ 1 ≤ (f 2).toInt ∧ (0 ≤ (f 6).toInt ∧ (f 6).toInt ≤ 1000) ∧ (0 ≤ (f 16).toInt ∧ (f 16).toInt ≤ 200)) ∧ ∀ j : Nat, j < n → 0 ≤ (f (28 + 19 * v + j)).toInt ∧ (f (28 + 19 * v + j)).toInt ≤ 5000
/-- the sums behind a current -/
def fl_S (k : Nat) (i V : Int32) (su t : Nat → Int64) : Prop :=
  t (7 * k + 0) = (if i ≤ 0 then su (7 * k + 0) else su (7 * k + 0) + i.toInt64) ∧ t (7 * k + 1) = (if i ≤ 0 then su (7 * k + 1) - i.toInt64 else su (7 * k + 1)) ∧
  t (7 * k + 2) = (if i ≤ 0 then su (7 * k + 2) else su (7 * k + 2) + i.toInt64 * V.toInt64) ∧ t (7 * k + 3) = (if i ≤ 0 then su (7 * k + 3) + (- i.toInt64) * V.toInt64 else su (7 * k + 3)) ∧
  t (7 * k + 4) = (if i ≤ 0 then su (7 * k + 4) else su (7 * k + 4) + i.toInt64) ∧ t (7 * k + 5) = (if i ≤ 0 then su (7 * k + 5) - i.toInt64 else su (7 * k + 5)) ∧ t (7 * k + 6) = su (7 * k + 6) ∧
  ∀ j : Nat, (j < 7 * k ∨ 7 * k + 7 ≤ j) → t j = su j
theorem fl_Tn {thr i : Int32} (h0 : 0 ≤ thr.toInt ∧ thr.toInt ≤ 1000000) (hi : -5000 ≤ i.toInt ∧ i.toInt ≤ 5000) : 0 ≤ (fl_T thr i).toInt := by
  have z : (0 : Int32).toInt = 0 := by decide
  have en : (-i).toInt = -i.toInt := Jvm.Kit.i32_neg (by omega)
  unfold fl_T
  by_cases q : 0 ≤ i
  · rw [if_pos q]
    rw [Int32.le_iff_toInt_le, z] at q
    rw [Jvm.Kit.i32_add (by omega) (by omega)]; omega
  · rw [if_neg q]
    rw [Int32.le_iff_toInt_le, z] at q
    rw [Jvm.Kit.i32_add (by omega) (by omega)]; omega
/-- the charge stays in its range, the present capacity too -/
theorem fl_Qb {nom efc chg lft i : Int32} (hn : 100 ≤ nom.toInt ∧ nom.toInt ≤ 100000) (he : 0 ≤ efc.toInt ∧ efc.toInt ≤ 1000) (hq : 0 ≤ chg.toInt ∧ chg.toInt ≤ 2 * nom.toInt) (hl : 0 ≤ lft.toInt ∧ lft.toInt ≤ 999) (hi : -5000 ≤ i.toInt ∧ i.toInt ≤ 5000) (h : -chg.toInt ≤ i.toInt) : 0 ≤ (fl_Q nom efc chg lft i).toInt ∧ (fl_Q nom efc chg lft i).toInt ≤ 2 * nom.toInt := by
  have z : (0 : Int32).toInt = 0 := by decide
  have t2 : (2 : Int32).toInt = 2 := by decide
  have tk : (1000 : Int32).toInt = 1000 := by decide
  unfold fl_Q
  by_cases q : i ≤ 0
  · rw [if_pos q]
    rw [Int32.le_iff_toInt_le, z] at q
    rw [Jvm.Kit.i32_add (by omega) (by omega)]; omega
  · rw [if_neg q]
    rw [Int32.le_iff_toInt_le, z] at q
    have m1 := Int.mul_le_mul hi.2 he.2 he.1 (show (0 : Int) ≤ 5000 by omega)
    have m0 := Int.mul_nonneg (show 0 ≤ i.toInt by omega) he.1
    have e1 : (i * efc).toInt = i.toInt * efc.toInt := Jvm.Kit.i32_mul (by omega) (by omega)
    have e2 : ((i * efc) + lft).toInt = i.toInt * efc.toInt + lft.toInt := by rw [Jvm.Kit.i32_add (by omega) (by omega), e1]
    have e3 : (((i * efc) + lft) / 1000).toInt = (i.toInt * efc.toInt + lft.toInt) / 1000 := by rw [Jvm.Kit.i32_div (by omega), e2, tk, Int.tdiv_eq_ediv_of_nonneg (by omega)]
    have e4 : (chg + (((i * efc) + lft) / 1000)).toInt = chg.toInt + (i.toInt * efc.toInt + lft.toInt) / 1000 := by rw [Jvm.Kit.i32_add (by omega) (by omega), e3]
    have e5 : (2 * nom).toInt = 2 * nom.toInt := by rw [Jvm.Kit.i32_mul (by rw [t2]; omega) (by rw [t2]; omega), t2]
    by_cases w : (chg + (((i * efc) + lft) / 1000)) < (2 * nom)
    · rw [if_pos w, e4]
      rw [Int32.lt_iff_toInt_lt, e4, e5] at w
      omega
    · rw [if_neg w, e5]
      omega
