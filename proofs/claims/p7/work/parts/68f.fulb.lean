theorem fl_Mm {f f1 : Nat → Int32} {su t : Nat → Int64} {c i : Int32} (hc : 0 ≤ c.toInt ∧ c.toInt < 6) (hi : i.toInt ≠ -2 ^ 31) (h : q_X11_moves f su c i f1 t) : f1 = upd (upd f (244 + 54 * c.toInt.toNat + 6) (fl_Q (rf_of f c 12) (f 0) (rf_of f c 6) (rf_of f c 16) i)) (244 + 54 * c.toInt.toNat + 16) (fl_L (f 0) (rf_of f c 16) i)
    ∧ ∀ j : Nat, t j = if j = 7 * c.toInt.toNat + 0 ∨ j = 7 * c.toInt.toNat + 4 then (if i ≤ 0 then su j else su j + i.toInt64) else if j = 7 * c.toInt.toNat + 1 ∨ j = 7 * c.toInt.toNat + 5 then (if i ≤ 0 then su j - i.toInt64 else su j) else su j := by
  unfold fl_Q fl_L
  rcases h with ⟨n, g, h1, t1, h2, t2, h3, h4, h5⟩ | ⟨n, g, h1, g2, h6, t1, h2, t2, h3, h4, h5⟩
  · rw [if_pos n, if_pos n]
    refine ⟨?_, fun j => ?_⟩
    · rw [h4, h1]
      funext j
      unfold upd
      by_cases q : j = 244 + 54 * c.toInt.toNat + 16
      · rw [if_pos q, if_neg (by omega), q]
        rfl
      · rw [if_neg q]
    · rw [h5, fl_add hc (k := 5) (K := 5) (by decide) (by decide) h3, fl_add hc (k := 1) (K := 1) (by decide) (by decide) h2, fl_nn hi]
      rw [fl_uL, fl_uL, fl_uL, if_pos n, if_pos n]
      have s : ∀ x y : Int64, x + -y = x - y := fun x y => (Int64.sub_eq_add_neg x y).symm
      by_cases q5 : j = 7 * c.toInt.toNat + 5
      · rw [if_pos q5, if_neg (by omega), if_neg (by omega), if_pos (Or.inr q5), q5, s]
      · rw [if_neg q5]
        by_cases q1 : j = 7 * c.toInt.toNat + 1
        · rw [if_pos q1, if_neg (by omega), if_pos (Or.inl q1), q1, s]
        · rw [if_neg q1, if_neg (show ¬ (j = 7 * c.toInt.toNat + 1 ∨ j = 7 * c.toInt.toNat + 5) from by omega)]
          by_cases q0 : j = 7 * c.toInt.toNat + 0 ∨ j = 7 * c.toInt.toNat + 4
          · rw [if_pos q0]
          · rw [if_neg q0]
  · rw [if_neg n, if_neg n]
    have e16 : rf_of f c 16 = f (244 + 54 * c.toInt.toNat + 16) := rfl
    refine ⟨by rw [h4, h6, h1], fun j => ?_⟩
    rw [h5, fl_add hc (k := 4) (K := 4) (by decide) (by decide) h3, fl_add hc (k := 0) (K := 0) (by decide) (by decide) h2]
    rw [fl_uL, fl_uL, fl_uL, if_neg n, if_neg n]
    by_cases q5 : j = 7 * c.toInt.toNat + 4
    · rw [if_pos q5, if_neg (by omega), if_pos (Or.inr q5), q5]
    · rw [if_neg q5]
      by_cases q1 : j = 7 * c.toInt.toNat + 0
      · rw [if_pos q1, if_pos (Or.inl q1), q1]
      · rw [if_neg q1, if_neg (show ¬ (j = 7 * c.toInt.toNat + 0 ∨ j = 7 * c.toInt.toNat + 4) from by omega)]
        by_cases q0 : j = 7 * c.toInt.toNat + 1 ∨ j = 7 * c.toInt.toNat + 5
        · rw [if_pos q0]
        · rw [if_neg q0]
theorem fl_r {a b : Int32} (hb : 1 ≤ b.toInt) : (a.toInt64 - ((a.toInt64 / b.toInt64) * b.toInt64)).toInt32 = a - ((a / b) * b) := by
  rw [Int64.toInt32_sub, Int64.toInt32_mul, fl_d hb, Int32.toInt32_toInt64, Int32.toInt32_toInt64]
/-- what goes through, and what it leaves -/
def fl_T (thr i : Int32) : Int32 := thr + (if 0 ≤ i then i else -i)
def fl_W (nom cap fad thr i : Int32) : Int32 := if (cap - fl_T thr i / fad) < (nom / 2) then (nom / 2) else (cap - fl_T thr i / fad)
def fl_H (fad thr i : Int32) : Int32 := fl_T thr i - ((fl_T thr i / fad) * fad)
theorem fl_Wc {nom cap thr fad i cap1 thr1 : Int32} (hf : 1 ≤ fad.toInt) (h : a_X0_wear nom cap thr fad i cap1 thr1) : cap1 = fl_W nom cap fad thr i ∧ thr1 = fl_H fad thr i := by
  have hn : fad.toInt64.toInt ≠ 0 := by rw [Jvm.Kit.i64_of_i32]; omega
  unfold fl_W fl_H
  rcases h with ⟨n, q, h1, m, h2, h3, h4⟩ | ⟨n, q, h1, m, h2, h3, h4⟩
  · have e : fl_T thr i = thr + i := by unfold fl_T; rw [if_pos n]
    have e1 := fl_q h1 hn
    have e2 := fl_m h2 hn
    subst e1 e2
    rw [fl_d hf] at h3
    rw [fl_r hf] at h4
    rw [e]
    exact ⟨h3, h4⟩
  · have e : fl_T thr i = thr + (-i) := by unfold fl_T; rw [if_neg n]
    have e1 := fl_q h1 hn
    have e2 := fl_m h2 hn
    subst e1 e2
    rw [fl_d hf] at h3
    rw [fl_r hf] at h4
    rw [e]
    exact ⟨h3, h4⟩
theorem fl_fd {fd h2 : Int32} (hf : 1 ≤ fd.toInt) (hh : 0 ≤ h2.toInt) : ∀ (n : Nat) {t p t1 p1 : Int32}, 0 ≤ t.toInt → h2.toInt ≤ p.toInt → q_fd fd h2 n t p t1 p1 → t1.toInt = t.toInt - n * fd.toInt ∧ 0 ≤ t1.toInt ∧ p1.toInt = (if p.toInt - n < h2.toInt then h2.toInt else p.toInt - n)
  | 0, t, p, t1, p1, ht, hp, h => by
    obtain ⟨e1, e2⟩ := h
    subst e1 e2
    refine ⟨by simp, ht, ?_⟩
    rw [if_neg (by omega)]
    omega
  | n + 1, t, p, t1, p1, ht, hp, h => by
    obtain ⟨u, v, h1, h3, h4, h5⟩ := h
    obtain ⟨k1, k2, k3⟩ := fl_fd hf hh n ht hp h1
    rw [Int32.le_iff_toInt_le] at h3
    have u2 := Int32.toInt_lt u
    have e : (u - fd).toInt = u.toInt - fd.toInt := Jvm.Kit.i32_sub (by omega) (by omega)
    have v2 := Int32.toInt_lt v
    have vl : h2.toInt ≤ v.toInt := by rw [k3]; split <;> omega
    have o : (1 : Int32).toInt = 1 := by decide
    have e9 : (v - 1).toInt = v.toInt - 1 := by rw [Jvm.Kit.i32_sub (by omega) (by omega), o]
    refine ⟨?_, by rw [h4, e]; omega, ?_⟩
    · rw [h4, e, k1, show ((n + 1 : Nat) : Int) = (n : Int) + 1 from by omega, Int.add_mul]
      omega
    · rw [h5]
      by_cases q : h2 < v - 1
      · rw [if_pos q]
        rw [Int32.lt_iff_toInt_lt, e9] at q
        rw [e9, k3]
        rw [k3] at q
        split at q
        · omega
        · rw [if_neg (by omega), if_neg (by omega)]; omega
      · rw [if_neg q]
        rw [Int32.lt_iff_toInt_lt, e9] at q
        rw [k3] at q
        split at q
        · rw [if_pos (by omega)]
        · split <;> omega
theorem fl_Wm {f f1 : Nat → Int32} {c i : Int32} (hf : 1 ≤ (f 1).toInt) (ht : 0 ≤ (fl_T (rf_of f c 18) i).toInt) (h0 : 0 ≤ (rf_of f c 12).toInt) (hp : (rf_of f c 12).toInt / 2 ≤ (rf_of f c 7).toInt) (h : q_X11_fades f c i f1) : f1 = upd (upd f (244 + 54 * c.toInt.toNat + 7) (fl_W (rf_of f c 12) (rf_of f c 7) (f 1) (rf_of f c 18) i)) (244 + 54 * c.toInt.toNat + 18) (fl_H (f 1) (rf_of f c 18) i) := by
  obtain ⟨y, g, ⟨⟨n, h1⟩, h2⟩, h3, g2, h4, h5⟩ := h
  have et : (rf_of f c 18) + (if 0 ≤ i then i else 0 - i) = fl_T (rf_of f c 18) i := by unfold fl_T; rw [Int32.zero_sub]
  obtain ⟨T, hT⟩ : ∃ T : Int32, fl_T (rf_of f c 18) i = T := ⟨_, rfl⟩
  rw [et, hT] at h1
  rw [hT] at ht
  have k2 : (rf_of f c 12 / 2).toInt = (rf_of f c 12).toInt / 2 := by
    have t : (2 : Int32).toInt = 2 := by decide
    rw [Jvm.Kit.i32_div (by omega), t, Int.tdiv_eq_ediv_of_nonneg h0]
  obtain ⟨r1, r2, r3⟩ := fl_fd hf (by rw [k2]; omega) n ht (by rw [k2]; exact hp) h1
  have g1 : g 1 = f 1 := h2 1 (by omega)
  rw [g1, Int32.lt_iff_toInt_lt] at h3
  have T2 := Int32.toInt_lt T
  have f2 := Int32.toInt_lt (f 1)
  have ed : (T / f 1).toInt = T.toInt / (f 1).toInt := by rw [Jvm.Kit.i32_div (by omega), Int.tdiv_eq_ediv_of_nonneg ht]
  have en : (n : Int) = T.toInt / (f 1).toInt := by
    have a1 : T.toInt = y.toInt + (f 1).toInt * n := by rw [r1, Int.mul_comm]; omega
    rw [a1, Int.add_mul_ediv_left _ _ (by omega), Int.ediv_eq_zero_of_lt r2 h3]
    omega
  have ey : y = T - ((T / f 1) * f 1) := by
    refine Int32.toInt.inj ?_
    have m1 : 0 ≤ (T / f 1).toInt := by rw [ed]; exact Int.ediv_nonneg ht (by omega)
    have m3 : (T / f 1).toInt * (f 1).toInt = T.toInt - y.toInt := by rw [ed, ← en]; omega
    have m2 : ((T / f 1) * f 1).toInt = T.toInt - y.toInt := by rw [Jvm.Kit.i32_mul (by rw [m3]; omega) (by rw [m3]; omega), m3]
    rw [Jvm.Kit.i32_sub (by rw [m2]; omega) (by rw [m2]; omega), m2]
    omega
  have p2 := Int32.toInt_lt (rf_of f c 7)
  have n0 : (0 : Int) ≤ T.toInt / (f 1).toInt := Int.ediv_nonneg ht (by omega)
  have n1 : T.toInt / (f 1).toInt ≤ T.toInt := Int.ediv_le_self _ ht
  have es : (rf_of f c 7 - T / f 1).toInt = (rf_of f c 7).toInt - T.toInt / (f 1).toInt := by rw [Jvm.Kit.i32_sub (by rw [ed]; omega) (by rw [ed]; omega), ed]
  have eg : rf_of g c 7 = (if (rf_of f c 7 - T / f 1) < (rf_of f c 12 / 2) then (rf_of f c 12 / 2) else (rf_of f c 7 - T / f 1)) := by
    refine Int32.toInt.inj ?_
    rw [r3, en]
    by_cases q : (rf_of f c 7 - T / f 1) < (rf_of f c 12 / 2)
    · rw [if_pos q]
      rw [Int32.lt_iff_toInt_lt, es] at q
      rw [if_pos q]
    · rw [if_neg q]
      rw [Int32.lt_iff_toInt_lt, es] at q
      rw [if_neg q, es]
  have hW : fl_W (rf_of f c 12) (rf_of f c 7) (f 1) (rf_of f c 18) i = rf_of g c 7 ∧ fl_H (f 1) (rf_of f c 18) i = y := by
    unfold fl_W fl_H
    rw [hT]
    exact ⟨eg.symm, ey.symm⟩
  rw [hW.1, hW.2, h5, h4]
  funext j
  unfold upd
  by_cases q : j = 244 + 54 * c.toInt.toNat + 18
  · rw [if_pos q, if_pos q]
  · rw [if_neg q, if_neg q]
    by_cases q7 : j = 244 + 54 * c.toInt.toNat + 7
    · rw [if_pos q7, q7]; rfl
    · rw [if_neg q7]; exact h2 j q7
