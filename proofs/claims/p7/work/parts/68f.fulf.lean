theorem fl_Wb {nom cap fad thr i : Int32} (hn : 100 ≤ nom.toInt ∧ nom.toInt ≤ 100000) (hf : 1 ≤ fad.toInt) (hc : nom.toInt / 2 ≤ cap.toInt ∧ cap.toInt ≤ nom.toInt) (ht : 0 ≤ (fl_T thr i).toInt) : nom.toInt / 2 ≤ (fl_W nom cap fad thr i).toInt ∧ (fl_W nom cap fad thr i).toInt ≤ nom.toInt := by
  have t2 : (2 : Int32).toInt = 2 := by decide
  have e2 : (nom / 2).toInt = nom.toInt / 2 := by rw [Jvm.Kit.i32_div (by omega), t2, Int.tdiv_eq_ediv_of_nonneg (by omega)]
  have ed : (fl_T thr i / fad).toInt = (fl_T thr i).toInt / fad.toInt := by rw [Jvm.Kit.i32_div (by omega), Int.tdiv_eq_ediv_of_nonneg ht]
  have d0 : 0 ≤ (fl_T thr i).toInt / fad.toInt := Int.ediv_nonneg ht (by omega)
  have d1 : (fl_T thr i).toInt / fad.toInt ≤ (fl_T thr i).toInt := Int.ediv_le_self _ ht
  have l := Int32.toInt_lt (fl_T thr i)
  have es : (cap - fl_T thr i / fad).toInt = cap.toInt - (fl_T thr i).toInt / fad.toInt := by rw [Jvm.Kit.i32_sub (by rw [ed]; omega) (by rw [ed]; omega), ed]
  unfold fl_W
  by_cases q : (cap - fl_T thr i / fad) < (nom / 2)
  · rw [if_pos q, e2]; omega
  · rw [if_neg q, es]
    rw [Int32.lt_iff_toInt_lt, es, e2] at q
    omega
theorem fl_Pb {pol tau pz i : Int32} (hp : 0 ≤ pol.toInt ∧ pol.toInt ≤ 500) (ht : 1 ≤ tau.toInt) (hz : -2500 ≤ pz.toInt ∧ pz.toInt ≤ 2500) (hi : -5000 ≤ i.toInt ∧ i.toInt ≤ 5000) : -2500 ≤ (fl_P pol tau pz i).toInt ∧ (fl_P pol tau pz i).toInt ≤ 2500 := by
  have tk : (1000 : Int32).toInt = 1000 := by decide
  have o1 : (1 : Int32).toInt = 1 := by decide
  have om : (-1 : Int32).toInt = -1 := by decide
  have m1 := Int.mul_le_mul_of_nonneg_right hi.2 hp.1
  have m0 := Int.mul_le_mul_of_nonneg_right hi.1 hp.1
  have e1 : (i * pol).toInt = i.toInt * pol.toInt := Jvm.Kit.i32_mul (by omega) (by omega)
  have g := rf_tdiv (x := i.toInt * pol.toInt) (s := 1000) (B := 2500) (by omega) (by omega) (by omega) (by omega)
  have e2 : ((i * pol) / 1000).toInt = (i.toInt * pol.toInt).tdiv 1000 := by rw [Jvm.Kit.i32_div (by omega), e1, tk]
  generalize (i.toInt * pol.toInt).tdiv 1000 = G at *
  unfold fl_P
  generalize (i * pol) / 1000 = a at *
  have e3 : (a - pz).toInt = G - pz.toInt := by rw [Jvm.Kit.i32_sub (by omega) (by omega), e2]
  have e4 : ((a - pz) / tau).toInt = (G - pz.toInt).tdiv tau.toInt := by rw [Jvm.Kit.i32_div (by omega), e3]
  have t := fl_td (x := G - pz.toInt) ht
  have s1 : 0 ≤ G - pz.toInt → 0 ≤ (G - pz.toInt).tdiv tau.toInt := fun h => Int.tdiv_nonneg h (by omega)
  have s2 : G - pz.toInt ≤ 0 → (G - pz.toInt).tdiv tau.toInt ≤ 0 := fun h => by
    have e : (G - pz.toInt).tdiv tau.toInt = -((-(G - pz.toInt)).tdiv tau.toInt) := by rw [Int.neg_tdiv, Int.neg_neg]
    have := Int.tdiv_nonneg (a := -(G - pz.toInt)) (b := tau.toInt) (by omega) (by omega)
    omega
  generalize (G - pz.toInt).tdiv tau.toInt = d at *
  have hd : -2500 ≤ pz.toInt + d ∧ pz.toInt + d ≤ 2500 := by
    by_cases w : 0 ≤ G - pz.toInt
    · rw [if_pos w] at t
      have := s1 w
      omega
    · rw [if_neg w] at t
      have := s2 (by omega)
      omega
  by_cases q : ¬ (a - pz) / tau = 0
  · rw [if_pos q, Jvm.Kit.i32_add (by rw [e4]; omega) (by rw [e4]; omega), e4]
    exact hd
  · rw [if_neg q]
    by_cases b : a = pz
    · rw [if_pos b]; exact hz
    · rw [if_neg b]
      by_cases w : a ≤ pz
      · rw [if_pos w, Jvm.Kit.i32_add (by omega) (by omega), om]
        rw [Int32.le_iff_toInt_le, e2] at w
        have : a.toInt ≠ pz.toInt := fun z => b (Int32.toInt_inj.mp z)
        omega
      · rw [if_neg w, Jvm.Kit.i32_add (by omega) (by omega), o1]
        rw [Int32.le_iff_toInt_le, e2] at w
        omega
theorem fl_okC {f : Nat → Int32} {c : Int32} {n v : Nat} (h : fl_ok f c n v) : 50 ≤ (rf_of f c 7).toInt ∧ (rf_of f c 7).toInt ≤ 100000 ∧ (rf_of f c 6).toInt ≤ 4 * (rf_of f c 7).toInt + 2 := by
  obtain ⟨_, ⟨h1, _⟩, ⟨h2, h3, _⟩, _⟩ := h
  omega
/-- the reference's row behind a current -/
theorem fl_Fm {f f1 : Nat → Int32} {su t : Nat → Int64} {c i : Int32} {n v : Nat} (ok : fl_ok f c n v) (hi : -5000 ≤ i.toInt ∧ i.toInt ≤ 5000) (hq : -(rf_of f c 6).toInt ≤ i.toInt) (h : q_X11_flows f su c i f1 t) :
    rf_of f1 c = fl_F (f 0) (f 1) (f 2) (f 3) (f 7) (fun j => f (28 + 19 * v + j)) (Int32.ofNat n) i (rf_of f c) ∧ fl_out c f f1 ∧ (∀ j : Nat, (568 ≤ j ∨ j = 12 ∨ j = 17) → f1 j = f j) ∧ fl_S c.toInt.toNat i (rf_of f1 c 5) su t := by
  obtain ⟨⟨hc, ⟨hv, hv4⟩, hn, hn2⟩, ⟨k12, k13, k14, k15⟩, ⟨k6, k7, k16, k18, k8⟩, ⟨s0, s1, s2, s6, s16⟩, hcv⟩ := ok
  obtain ⟨a1, h1, a2, t2, h2, a3, h3, a4, h4, r, h5, a5, h6, a6, h7, hs⟩ := h
  have e1 := fl_Pm h1
  have o1 : rf_of a1 c = upd (rf_of f c) 8 (fl_P (rf_of f c 14) (rf_of f c 15) (rf_of f c 8) i) := by rw [e1]; exact fl_ofu
  have ge1 : ∀ j : Nat, j < 244 → a1 j = f j := fun j hj => by rw [e1]; exact rf_upd_ne (by omega)
  obtain ⟨e2, S2⟩ := fl_Mm hc (by omega) h2
  rw [ge1 0 (by omega)] at e2
  have o2 : rf_of a2 c = upd (upd (rf_of a1 c) 6 (fl_Q (rf_of f c 12) (f 0) (rf_of f c 6) (rf_of f c 16) i)) 16 (fl_L (f 0) (rf_of f c 16) i) := by
    rw [e2, fl_ofu, fl_ofu, o1]; rfl
  have ge2 : ∀ j : Nat, j < 244 → a2 j = f j := fun j hj => by rw [e2, rf_upd_ne (by omega), rf_upd_ne (by omega)]; exact ge1 j hj
  have p12 : rf_of a2 c 12 = rf_of f c 12 := by rw [o2, o1]; rfl
  have p7 : rf_of a2 c 7 = rf_of f c 7 := by rw [o2, o1]; rfl
  have p18 : rf_of a2 c 18 = rf_of f c 18 := by rw [o2, o1]; rfl
  have hT := fl_Tn k18 hi
  have e3 := fl_Wm (f := a2) (c := c) (i := i) (by rw [ge2 1 (by omega)]; exact s1.1) (by rw [p18]; exact hT) (by rw [p12]; omega) (by rw [p12, p7]; exact k7.1) h3
  rw [p12, p7, p18, ge2 1 (by omega)] at e3
  have o3 : rf_of a3 c = upd (upd (rf_of a2 c) 7 (fl_W (rf_of f c 12) (rf_of f c 7) (f 1) (rf_of f c 18) i)) 18 (fl_H (f 1) (rf_of f c 18) i) := by rw [e3, fl_ofu, fl_ofu]
  have ge3 : ∀ j : Nat, j < 244 → a3 j = f j := fun j hj => by rw [e3, rf_upd_ne (by omega), rf_upd_ne (by omega)]; exact ge2 j hj
  obtain ⟨b1, h8, b2, h9, h10⟩ := h4
  have q9 : rf_of a3 c 9 = rf_of f c 9 := by rw [o3, o2, o1]; rfl
  have q17 : rf_of a3 c 17 = rf_of f c 17 := by rw [o3, o2, o1]; rfl
  have q13 : rf_of a3 c 13 = rf_of f c 13 := by rw [o3, o2, o1]; rfl
  have gb : b1 2 = a3 2 := by rw [h8]; exact rf_upd_ne (by omega)
  rw [gb, q9, q17, q13, ge3 7 (by omega), ge3 3 (by omega), ge3 2 (by omega)] at h9
  rw [q9, q17, q13, ge3 7 (by omega), ge3 3 (by omega), ge3 2 (by omega)] at h8
  have o4 : rf_of a4 c = upd (upd (rf_of a3 c) 9 ((rf_of f c 9) + ((((rf_of f c 17) + ((((i * i) / 1000) * (rf_of f c 13)) / 1000)) - (((rf_of f c 9) - f 7) * f 3)) / f 2))) 17 ((((rf_of f c 17) + ((((i * i) / 1000) * (rf_of f c 13)) / 1000)) - (((rf_of f c 9) - f 7) * f 3)) - (((((rf_of f c 17) + ((((i * i) / 1000) * (rf_of f c 13)) / 1000)) - (((rf_of f c 9) - f 7) * f 3)) / f 2) * f 2)) := by rw [h10, h9, h8, fl_ofu, fl_ofu]
  have ge4 : ∀ j : Nat, j < 244 → a4 j = f j := fun j hj => by rw [h10, h9, h8, rf_upd_ne (by omega), rf_upd_ne (by omega)]; exact ge3 j hj
  have r11 : rf_of a4 c 11 = rf_of f c 11 := by rw [o4, o3, o2, o1]; rfl
  have r13 : rf_of a4 c 13 = rf_of f c 13 := by rw [o4, o3, o2, o1]; rfl
  have r8 : rf_of a4 c 8 = fl_P (rf_of f c 14) (rf_of f c 15) (rf_of f c 8) i := by rw [o4, o3, o2, o1]; rfl
  have r6 : rf_of a4 c 6 = fl_Q (rf_of f c 12) (f 0) (rf_of f c 6) (rf_of f c 16) i := by rw [o4, o3, o2, o1]; rfl
  have r7 : rf_of a4 c 7 = fl_W (rf_of f c 12) (rf_of f c 7) (f 1) (rf_of f c 18) i := by rw [o4, o3, o2, o1]; rfl
  have b6 := fl_Qb k12 s0 k6 k16 hi hq
  have b7 := fl_Wb (i := i) k12 s1.1 k7 hT
  have e5 := fl_Rm (f := a4) (n := n) (v := v) (c := c) (by rw [r11]; exact hv) hv4 (by rw [ge4 _ (by omega)]; exact hn) hn2 (by rw [r7]; omega) (by rw [r6]; exact b6.1) h5
  rw [r7, r6] at e5
  have ecv : fl_V (fun j => a4 (28 + 19 * v + j)) (Int32.ofNat n) (fl_W (rf_of f c 12) (rf_of f c 7) (f 1) (rf_of f c 18) i) (fl_Q (rf_of f c 12) (f 0) (rf_of f c 6) (rf_of f c 16) i) = fl_V (fun j => f (28 + 19 * v + j)) (Int32.ofNat n) (fl_W (rf_of f c 12) (rf_of f c 7) (f 1) (rf_of f c 18) i) (fl_Q (rf_of f c 12) (f 0) (rf_of f c 6) (rf_of f c 16) i) := fl_Vx hn2 (by omega) b6.1 (fun j hj => ge4 _ (by omega))
  rw [ecv] at e5
  rw [r13, r8, e5] at h7 hs
  have o6 : rf_of a6 c = upd (upd (rf_of a4 c) 4 i) 5 (((fl_V (fun j => f (28 + 19 * v + j)) (Int32.ofNat n) (fl_W (rf_of f c 12) (rf_of f c 7) (f 1) (rf_of f c 18) i) (fl_Q (rf_of f c 12) (f 0) (rf_of f c 6) (rf_of f c 16) i)) + ((i * (rf_of f c 13)) / 1000)) + fl_P (rf_of f c 14) (rf_of f c 15) (rf_of f c 8) i) := by rw [h7, h6, fl_ofu, fl_ofu]
  have oF : rf_of a6 c = fl_F (f 0) (f 1) (f 2) (f 3) (f 7) (fun j => f (28 + 19 * v + j)) (Int32.ofNat n) i (rf_of f c) := by rw [o6, o4, o3, o2, o1]; rfl
  have v5 : rf_of a6 c 5 = ((fl_V (fun j => f (28 + 19 * v + j)) (Int32.ofNat n) (fl_W (rf_of f c 12) (rf_of f c 7) (f 1) (rf_of f c 18) i) (fl_Q (rf_of f c 12) (f 0) (rf_of f c 6) (rf_of f c 16) i)) + ((i * (rf_of f c 13)) / 1000)) + fl_P (rf_of f c 14) (rf_of f c 15) (rf_of f c 8) i := by rw [o6]; rfl
  have all : ∀ j : Nat, (j < 244 + 54 * c.toInt.toNat ∨ 244 + 54 * c.toInt.toNat + 54 ≤ j) → a6 j = f j := fun j hj => by
    rw [h7, h6, rf_upd_ne (by omega), rf_upd_ne (by omega), h10, h9, h8, rf_upd_ne (by omega), rf_upd_ne (by omega), e3, rf_upd_ne (by omega), rf_upd_ne (by omega), e2, rf_upd_ne (by omega), rf_upd_ne (by omega), e1, rf_upd_ne (by omega)]
  have fin : f1 = a6 ∧ fl_S c.toInt.toNat i (rf_of a6 c 5) su t := by
    rw [v5]
    generalize ((fl_V (fun j => f (28 + 19 * v + j)) (Int32.ofNat n) (fl_W (rf_of f c 12) (rf_of f c 7) (f 1) (rf_of f c 18) i) (fl_Q (rf_of f c 12) (f 0) (rf_of f c 6) (rf_of f c 16) i)) + ((i * (rf_of f c 13)) / 1000)) + fl_P (rf_of f c 14) (rf_of f c 15) (rf_of f c 8) i = V at hs
    obtain ⟨k, hk9⟩ : ∃ k : Nat, c.toInt.toNat = k := ⟨_, rfl⟩
    rw [hk9] at S2 ⊢
    have B : ∀ x : Nat → Int64, x = t2 → (x (7 * k + 0) = (if i ≤ 0 then su (7 * k + 0) else su (7 * k + 0) + i.toInt64)) ∧ (x (7 * k + 1) = (if i ≤ 0 then su (7 * k + 1) - i.toInt64 else su (7 * k + 1))) ∧ x (7 * k + 2) = su (7 * k + 2) ∧ x (7 * k + 3) = su (7 * k + 3) ∧ (x (7 * k + 4) = (if i ≤ 0 then su (7 * k + 4) else su (7 * k + 4) + i.toInt64)) ∧ (x (7 * k + 5) = (if i ≤ 0 then su (7 * k + 5) - i.toInt64 else su (7 * k + 5))) ∧ x (7 * k + 6) = su (7 * k + 6) ∧ ∀ j : Nat, (j < 7 * k ∨ 7 * k + 7 ≤ j) → x j = su j := fun x hx => by
      subst hx
      refine ⟨?_, ?_, ?_, ?_, ?_, ?_, ?_, fun j hj => ?_⟩
      · rw [S2, if_pos (by omega)]
      · rw [S2, if_neg (by omega), if_pos (by omega)]
      · rw [S2, if_neg (by omega), if_neg (by omega)]
      · rw [S2, if_neg (by omega), if_neg (by omega)]
      · rw [S2, if_pos (by omega)]
      · rw [S2, if_neg (by omega), if_pos (by omega)]
      · rw [S2, if_neg (by omega), if_neg (by omega)]
      · rw [S2, if_neg (by omega), if_neg (by omega)]
    obtain ⟨B0, B1, B2, B3, B4, B5, B6, B7⟩ := B t2 rfl
    unfold fl_S
    rcases hs with ⟨q, ⟨q2, hf, ht⟩ | ⟨q2, x, hx, hf, ht⟩⟩ | ⟨q, x, hx, ⟨q2, hf, ht⟩ | ⟨q2, y, hy, hf, ht⟩⟩
    · have i0 : i = 0 := Int32.le_antisymm q q2
      refine ⟨hf, ?_⟩
      rw [ht, if_pos q, if_pos q, if_pos q, if_pos q, if_pos q, if_pos q]
      rw [if_pos q] at B0 B1 B4 B5
      refine ⟨B0, B1, B2, ?_, B4, B5, B6, B7⟩
      rw [B3, i0]
      have : (- (0 : Int32).toInt64) * V.toInt64 = 0 := by rw [show (- (0 : Int32).toInt64) = 0 from by decide, Int64.zero_mul]
      rw [this, Int64.add_zero]
    · refine ⟨hf, ?_⟩
      rw [if_pos q] at B0 B1 B4 B5
      have hk : ∀ j : Nat, x j = if j = 7 * k + 3 then t2 (7 * k + 3) + (- i.toInt64) * V.toInt64 else t2 j := fun j => by
        have := fl_add hc (k := 3) (K := 3) (by decide) (by decide) hx
        rw [hk9] at this
        rw [this, fl_uL]
      rw [ht, if_pos q, if_pos q, if_pos q, if_pos q, if_pos q, if_pos q]
      refine ⟨?_, ?_, ?_, ?_, ?_, ?_, ?_, fun j hj => ?_⟩
      · rw [hk, if_neg (by omega)]; exact B0
      · rw [hk, if_neg (by omega)]; exact B1
      · rw [hk, if_neg (by omega)]; exact B2
      · rw [hk, if_pos rfl, B3]
      · rw [hk, if_neg (by omega)]; exact B4
      · rw [hk, if_neg (by omega)]; exact B5
      · rw [hk, if_neg (by omega)]; exact B6
      · rw [hk, if_neg (by omega)]; exact B7 j hj
    · refine ⟨hf, ?_⟩
      rw [if_neg q] at B0 B1 B4 B5
      have hk : ∀ j : Nat, x j = if j = 7 * k + 2 then t2 (7 * k + 2) + i.toInt64 * V.toInt64 else t2 j := fun j => by
        have := fl_add hc (k := 2) (K := 2) (by decide) (by decide) hx
        rw [hk9] at this
        rw [this, fl_uL]
      rw [ht, if_neg q, if_neg q, if_neg q, if_neg q, if_neg q, if_neg q]
      refine ⟨?_, ?_, ?_, ?_, ?_, ?_, ?_, fun j hj => ?_⟩
      · rw [hk, if_neg (by omega)]; exact B0
      · rw [hk, if_neg (by omega)]; exact B1
      · rw [hk, if_pos rfl, B2]
      · rw [hk, if_neg (by omega)]; exact B3
      · rw [hk, if_neg (by omega)]; exact B4
      · rw [hk, if_neg (by omega)]; exact B5
      · rw [hk, if_neg (by omega)]; exact B6
      · rw [hk, if_neg (by omega)]; exact B7 j hj
    · rw [Int32.le_iff_toInt_le] at q q2
      omega
  obtain ⟨ef, fs⟩ := fin
  rw [ef]
  exact ⟨oF, fun j _ _ _ hj => all j hj, fun j hj => all j (by omega), fs⟩
