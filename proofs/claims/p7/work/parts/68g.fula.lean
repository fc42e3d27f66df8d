/-! a channel on both sides: its tick -/
theorem fl_uc {a b : Nat → Int32} {j J : Nat} {v w : Int32} (h : a J = b J) (e : v = w) : upd a j v J = upd b j w J := by
  unfold upd
  rw [h, e]
theorem fl_Lb {efc lft i : Int32} (he : 0 ≤ efc.toInt ∧ efc.toInt ≤ 1000) (hl : 0 ≤ lft.toInt ∧ lft.toInt ≤ 999) (hi : -5000 ≤ i.toInt ∧ i.toInt ≤ 5000) : 0 ≤ (fl_L efc lft i).toInt ∧ (fl_L efc lft i).toInt ≤ 999 := by
  have z : (0 : Int32).toInt = 0 := by decide
  have tk : (1000 : Int32).toInt = 1000 := by decide
  unfold fl_L
  by_cases q : i ≤ 0
  · rw [if_pos q]; exact hl
  · rw [if_neg q]
    rw [Int32.le_iff_toInt_le, z] at q
    have m1 := Int.mul_le_mul hi.2 he.2 he.1 (show (0 : Int) ≤ 5000 by omega)
    have m0 := Int.mul_nonneg (show 0 ≤ i.toInt by omega) he.1
    have e1 : (i * efc).toInt = i.toInt * efc.toInt := Jvm.Kit.i32_mul (by omega) (by omega)
    have e2 : ((i * efc) + lft).toInt = i.toInt * efc.toInt + lft.toInt := by rw [Jvm.Kit.i32_add (by omega) (by omega), e1]
    have e3 : (((i * efc) + lft) / 1000).toInt = (i.toInt * efc.toInt + lft.toInt) / 1000 := by rw [Jvm.Kit.i32_div (by omega), e2, tk, Int.tdiv_eq_ediv_of_nonneg (by omega)]
    generalize i.toInt * efc.toInt = X at *
    have e4 : ((((i * efc) + lft) / 1000) * 1000).toInt = (X + lft.toInt) / 1000 * 1000 := by rw [Jvm.Kit.i32_mul (by rw [e3, tk]; omega) (by rw [e3, tk]; omega), e3, tk]
    rw [Jvm.Kit.i32_sub (by rw [e2, e4]; omega) (by rw [e2, e4]; omega), e2, e4]
    omega
theorem fl_Hb {fad thr i : Int32} (hf : 1 ≤ fad.toInt ∧ fad.toInt ≤ 1000000) (ht : 0 ≤ (fl_T thr i).toInt) : 0 ≤ (fl_H fad thr i).toInt ∧ (fl_H fad thr i).toInt ≤ 1000000 := by
  have ed : (fl_T thr i / fad).toInt = (fl_T thr i).toInt / fad.toInt := by rw [Jvm.Kit.i32_div (by omega), Int.tdiv_eq_ediv_of_nonneg ht]
  have d0 : 0 ≤ (fl_T thr i).toInt / fad.toInt := Int.ediv_nonneg ht (by omega)
  have l := Int32.toInt_lt (fl_T thr i)
  have a := Int.mul_ediv_add_emod (fl_T thr i).toInt fad.toInt
  have b := Int.emod_nonneg (fl_T thr i).toInt (show fad.toInt ≠ 0 by omega)
  have c := Int.emod_lt_of_pos (fl_T thr i).toInt (show 0 < fad.toInt by omega)
  have m0 := Int.mul_nonneg (show 0 ≤ fad.toInt by omega) d0
  have ec := Int.mul_comm fad.toInt ((fl_T thr i).toInt / fad.toInt)
  unfold fl_H
  generalize hX : (fl_T thr i).toInt / fad.toInt * fad.toInt = X at *
  have e1 : ((fl_T thr i / fad) * fad).toInt = X := by rw [Jvm.Kit.i32_mul (by rw [ed, hX]; omega) (by rw [ed, hX]; omega), ed, hX]
  rw [Jvm.Kit.i32_sub (by rw [e1]; omega) (by rw [e1]; omega), e1]
  omega
theorem fl_s1 {a b i : Int64} : (a - b) + i = (a + i) - b := by
  rw [Int64.sub_eq_add_neg, Int64.sub_eq_add_neg, Int64.add_assoc, Int64.add_assoc, Int64.add_comm (-b) i]
theorem fl_s2 {a b i : Int64} : (a - b) - i = (a - i) - b := by
  rw [Int64.sub_eq_add_neg, Int64.sub_eq_add_neg, Int64.sub_eq_add_neg, Int64.sub_eq_add_neg, Int64.add_assoc, Int64.add_assoc, Int64.add_comm (-b) (-i)]
/-- the places that are the same on both sides -/
def fl_e (J : Nat) : Prop := (4 ≤ J ∧ J ≤ 10) ∨ (12 ≤ J ∧ J ≤ 20) ∨ (36 ≤ J ∧ J ≤ 38)
/-- a channel on both sides -/
def fl_C (f : Nat → Int32) (su : Nat → Int64) (k : Nat) (q : fw_C) : Prop :=
  fl_U f su (Int32.ofNat k) (q.1 0) (q.1 1) (q.1 2) (q.1 3) (q.1 39) (q.1 21) (q.2.1 4) (q.2.1 5) (q.2.1 6) (q.2.1 0) (q.2.1 1) (q.2.2 0) (q.2.2 1) ∧
  (∀ J : Nat, fl_e J → rf_of f (Int32.ofNat k) J = q.1 J) ∧ su (7 * (Int32.ofNat k).toInt.toNat + 2) = q.2.1 2 ∧ su (7 * (Int32.ofNat k).toInt.toNat + 3) = q.2.1 3 ∧ ∀ j : Nat, j < 10 → rf_of f (Int32.ofNat k) (44 + j) = q.2.2 3 j
/-- its numbers stay in their ranges -/
def fl_nu (q : fw_C) : Prop :=
  ((100 ≤ (q.1 12).toInt ∧ (q.1 12).toInt ≤ 100000) ∧ (1 ≤ (q.1 13).toInt ∧ (q.1 13).toInt ≤ 500) ∧ (0 ≤ (q.1 14).toInt ∧ (q.1 14).toInt ≤ 500) ∧ (1 ≤ (q.1 15).toInt ∧ (q.1 15).toInt ≤ 200)) ∧
  ((0 ≤ (q.1 6).toInt ∧ (q.1 6).toInt ≤ 2 * (q.1 12).toInt) ∧ ((q.1 12).toInt / 2 ≤ (q.1 7).toInt ∧ (q.1 7).toInt ≤ (q.1 12).toInt) ∧ (0 ≤ (q.1 16).toInt ∧ (q.1 16).toInt ≤ 999) ∧ (0 ≤ (q.1 18).toInt ∧ (q.1 18).toInt ≤ 1000000) ∧ (-2500 ≤ (q.1 8).toInt ∧ (q.1 8).toInt ≤ 2500)) ∧
  ((-5000 ≤ (q.1 4).toInt ∧ (q.1 4).toInt ≤ 5000) ∧ (-300000 ≤ (q.1 5).toInt ∧ (q.1 5).toInt ≤ 300000)) ∧ (q.1 21 = 0 ∨ q.1 21 = 1) ∧ (0 ≤ (q.1 39).toInt ∧ (q.1 39).toInt ≤ 4)
/-- its program, its step, its queue -/
def fl_PA (W : fw_W) (q : fw_C) : Prop :=
  (fl_ac (q.1 0) → ∃ P n S : Nat, (q.1 1).toInt = P ∧ (P : Int) < (W.1 10).toInt ∧ W.2.1 2 P = Int32.ofNat n ∧ n ≤ 12 ∧ (q.1 2).toInt = S ∧ S < n ∧ fl_lo (fun j => W.2.1 3 (12 * P + j)) S (q.2.2 0) ∧ ¬ W.2.1 3 (12 * P + S) = 4) ∧
  (∀ j : Nat, (j : Int) < (q.1 39).toInt → 0 ≤ (q.2.2 1 j).toInt ∧ (q.2.2 1 j).toInt < (W.1 10).toInt) ∧
  ((q.1 1 = -1 ∧ ∀ j : Nat, j < 12 → q.2.2 0 j = 0) ∨ ∃ P n : Nat, (q.1 1).toInt = P ∧ (P : Int) < (W.1 10).toInt ∧ W.2.1 2 P = Int32.ofNat n ∧ n ≤ 12 ∧ ∀ j : Nat, n ≤ j → j < 12 → q.2.2 0 j = 0)
/-- what is known of the description beside its being the same -/
def fl_D (f : Nat → Int32) : Prop :=
  ((0 ≤ (f 0).toInt ∧ (f 0).toInt ≤ 1000) ∧ (1 ≤ (f 1).toInt ∧ (f 1).toInt ≤ 1000000) ∧ 1 ≤ (f 2).toInt ∧ (0 ≤ (f 6).toInt ∧ (f 6).toInt ≤ 1000) ∧ (0 ≤ (f 16).toInt ∧ (f 16).toInt ≤ 200)) ∧
  (∀ v : Nat, (v : Int) < (f 11).toInt → ∀ j : Nat, (j : Int) < (f (27 + 19 * v)).toInt → 0 ≤ (f (28 + 19 * v + j)).toInt ∧ (f (28 + 19 * v + j)).toInt ≤ 5000) ∧
  ∀ p : Nat, (p : Int) < (f 10).toInt → (1 ≤ (f (96 + 37 * p)).toInt ∧ (f (96 + 37 * p)).toInt ≤ 12) ∧ ∀ j : Nat, (j : Int) < (f (96 + 37 * p)).toInt → (0 ≤ (f (98 + 37 * p + 3 * j)).toInt ∧ (f (98 + 37 * p + 3 * j)).toInt ≤ 5000) ∧
    (f (97 + 37 * p + 3 * j) = 0 ∨ f (97 + 37 * p + 3 * j) = 1 ∨ f (97 + 37 * p + 3 * j) = 2 ∨ f (97 + 37 * p + 3 * j) = 3 ∨ (f (97 + 37 * p + 3 * j) = 4 ∧ (f (98 + 37 * p + 3 * j)).toInt < (j : Int) ∧ 1 ≤ (f (99 + 37 * p + 3 * j)).toInt))
/-- a program on both sides, and its steps -/
theorem fl_pgo {f : Nat → Int32} {W : fw_W} {x : Nat → fw_C} {P : Nat} (s : sd f W x) (D : fl_D f) (hP : (P : Int) < (f 10).toInt) :
    ∃ n : Nat, 1 ≤ n ∧ n ≤ 12 ∧ fl_Pg f (W.2.1 2) (W.2.1 3) (W.2.1 4) (W.2.1 5) P n ∧ ∀ j : Nat, j < n → (0 ≤ (W.2.1 4 (12 * P + j)).toInt ∧ (W.2.1 4 (12 * P + j)).toInt ≤ 5000) ∧ (¬ W.2.1 3 (12 * P + j) = 4 → W.2.1 3 (12 * P + j) = 0 ∨ W.2.1 3 (12 * P + j) = 1 ∨ W.2.1 3 (12 * P + j) = 2 ∨ W.2.1 3 (12 * P + j) = 3) := by
  obtain ⟨_, b, _, p, _⟩ := s
  obtain ⟨n, hn, h1, h2, h3⟩ := p P (by omega)
  obtain ⟨d1, d2⟩ := D.2.2 P hP
  rw [h1, fl_on (by omega)] at d1 d2
  refine ⟨n, by omega, hn, ⟨h2, h1, fun j hj => h3 j hj, hn, fun j hj hk => ?_⟩, fun j hj => ⟨?_, fun hk => ?_⟩⟩
  · obtain ⟨e1, e2, e3⟩ := h3 j hj
    obtain ⟨a, b⟩ := d2 j (by omega)
    rw [e1, e2, e3] at b
    rw [e2] at a
    have hk2 : W.2.1 3 (12 * P + j) = 4 := hk
    have r : (W.2.1 4 (12 * P + j)).toInt < (j : Int) ∧ 1 ≤ (W.2.1 5 (12 * P + j)).toInt := by
      rcases b with z | z | z | z | z
      · rw [hk2] at z; exact absurd z (by decide)
      · rw [hk2] at z; exact absurd z (by decide)
      · rw [hk2] at z; exact absurd z (by decide)
      · rw [hk2] at z; exact absurd z (by decide)
      · exact z.2
    exact ⟨a.1, r.1, r.2⟩
  · obtain ⟨e1, e2, e3⟩ := h3 j hj
    have a := (d2 j (by omega)).1
    rw [e2] at a
    exact a
  · obtain ⟨e1, e2, e3⟩ := h3 j hj
    have b := (d2 j (by omega)).2
    rw [e1] at b
    rcases b with z | z | z | z | z
    · exact Or.inl z
    · exact Or.inr (Or.inl z)
    · exact Or.inr (Or.inr (Or.inl z))
    · exact Or.inr (Or.inr (Or.inr z))
    · exact absurd z.1 hk
/-- what a tick asks of its channel -/
theorem fl_oko {f : Nat → Int32} {su : Nat → Int64} {W : fw_W} {x : Nat → fw_C} {k : Nat} (s : sd f W x) (D : fl_D f) (hk : (k : Int) < (f 9).toInt) (C : fl_C f su k (x k)) (N : fl_nu (x k)) :
    ∃ n v : Nat, fl_ok f (Int32.ofNat k) n v ∧ (x k).1 11 = Int32.ofNat n ∧ ∀ j : Nat, j < n → f (28 + 19 * v + j) = (x k).2.2 2 j := by
  obtain ⟨_, b, c, _, o⟩ := s
  unfold sd_bds at b
  obtain ⟨v, v1, v2, v3, v4, v5⟩ := o k (by omega)
  obtain ⟨n, n1, n2, n3, n4, n5⟩ := c v v1
  have hk6 : k < 6 := by omega
  have ek : (Int32.ofNat k).toInt = k := fl_on (by omega)
  have ekn : (Int32.ofNat k).toInt.toNat = k := by omega
  rw [n4, fl_on (by omega)] at v5
  obtain ⟨N1, N2, _⟩ := N
  obtain ⟨_, e, _⟩ := C
  obtain ⟨D1, D2, _⟩ := D
  have D3 := D2 v (by omega)
  rw [n3, fl_on (by omega)] at D3
  refine ⟨n, v, ⟨⟨⟨by omega, by omega⟩, ⟨?_, by omega⟩, n3, n1, n2⟩, ?_, ?_, ⟨D1.1, D1.2.1, D1.2.2.1, D1.2.2.2.1, D1.2.2.2.2⟩, fun j hj => D3 j (by omega)⟩, v3.trans n4, fun j hj => ?_⟩
  · unfold rf_of
    rw [ekn, show 244 + 54 * k + 11 = 255 + 54 * k from by omega]
    exact v2
  · rw [e 12 (by unfold fl_e; omega), e 13 (by unfold fl_e; omega), e 14 (by unfold fl_e; omega), e 15 (by unfold fl_e; omega)]
    exact N1
  · rw [e 6 (by unfold fl_e; omega), e 7 (by unfold fl_e; omega), e 8 (by unfold fl_e; omega), e 12 (by unfold fl_e; omega), e 16 (by unfold fl_e; omega), e 18 (by unfold fl_e; omega)]
    exact N2
  · rw [n5 j hj]
    exact (v5 j (by omega)).symm
