/-! a channel on both sides: its tick -/
theorem fl_uc {a b : Nat → Int32} {j J : Nat} {v w : Int32} (h : a J = b J) (e : v = w) : upd a j v J = upd b j w J := by
  unfold upd
  rw [h, e]
theorem fl_Lb {efc lft i : Int32} (he : 0 ≤ efc.toInt ∧ efc.toInt ≤ 1000) (hl : 0 ≤ lft.toInt ∧ lft.toInt ≤ 999) (hi : -5000 ≤ i.toInt ∧ i.toInt ≤ 5000) : 0 ≤ (fl_L efc lft i).toInt ∧ (fl_L efc lft i).toInt ≤ 999 := by
  have z : (0 : Int32).toInt = 0 := by decide
  have tk : (1000 : Int32).toInt = 1000 := by decide
  unfold fl_L
  by_cases q : i ≤ 0
  · rw [if_pos q]; exact hl
  · rw [if_neg q]
    rw [Int32.le_iff_toInt_le, z] at q
    have m1 := Int.mul_le_mul hi.2 he.2 he.1 (show (0 : Int) ≤ 5000 by omega)
    have m0 := Int.mul_nonneg (show 0 ≤ i.toInt by omega) he.1
    have e1 : (i * efc).toInt = i.toInt * efc.toInt := Jvm.Kit.i32_mul (by omega) (by omega)
    have e2 : ((i * efc) + lft).toInt = i.toInt * efc.toInt + lft.toInt := by rw [Jvm.Kit.i32_add (by omega) (by omega), e1]
    have e3 : (((i * efc) + lft) / 1000).toInt = (i.toInt * efc.toInt + lft.toInt) / 1000 := by rw [Jvm.Kit.i32_div (by omega), e2, tk, Int.tdiv_eq_ediv_of_nonneg (by omega)]
    generalize i.toInt * efc.toInt = X at *
    have e4 : ((((i * efc) + lft) / 1000) * 1000).toInt = (X + lft.toInt) / 1000 * 1000 := by rw [Jvm.Kit.i32_mul (by rw [e3, tk]; omega) (by rw [e3, tk]; omega), e3, tk]
    rw [Jvm.Kit.i32_sub (by rw [e2, e4]; omega) (by rw [e2, e4]; omega), e2, e4]
    omega
theorem fl_Hb {fad thr i : Int32} (hf : 1 ≤ fad.toInt ∧ fad.toInt ≤ 1000000) (ht : 0 ≤ (fl_T thr i).toInt) : 0 ≤ (fl_H fad thr i).toInt ∧ (fl_H fad thr i).toInt ≤ 1000000 := by
  have ed : (fl_T thr i / fad).toInt = (fl_T thr i).toInt / fad.toInt := by rw [Jvm.Kit.i32_div (by omega), Int.tdiv_eq_ediv_of_nonneg ht]
  have d0 : 0 ≤ (fl_T thr i).toInt / fad.toInt := Int.ediv_nonneg ht (by omega)
  have l := Int32.toInt_lt (fl_T thr i)
  have a := Int.mul_ediv_add_emod (fl_T thr i).toInt fad.toInt
  have b := Int.emod_nonneg (fl_T thr i).toInt (show fad.toInt ≠ 0 by omega)
  have c := Int.emod_lt_of_pos (fl_T thr i).toInt (show 0 < fad.toInt by omega)
  have m0 := Int.mul_nonneg (show 0 ≤ fad.toInt by omega) d0
  have ec := Int.mul_comm fad.toInt ((fl_T thr i).toInt / fad.toInt)
  unfold fl_H
  generalize hX : (fl_T thr i).toInt / fad.toInt * fad.toInt = X at *
  have e1 : ((fl_T thr i / fad) * fad).toInt = X := by rw [Jvm.Kit.i32_mul (by rw [ed, hX]; omega) (by rw [ed, hX]; omega), ed, hX]
  rw [Jvm.Kit.i32_sub (by rw [e1]; omega) (by rw [e1]; omega), e1]
  omega
theorem fl_s1 {a b i : Int64} : (a - b) + i = (a + i) - b := by
  rw [Int64.sub_eq_add_neg, Int64.sub_eq_add_neg, Int64.add_assoc, Int64.add_assoc, Int64.add_comm (-b) i]
theorem fl_s2 {a b i : Int64} : (a - b) - i = (a - i) - b := by
  rw [Int64.sub_eq_add_neg, Int64.sub_eq_add_neg, Int64.sub_eq_add_neg, Int64.sub_eq_add_neg, Int64.add_assoc, Int64.add_assoc, Int64.add_comm (-b) (-i)]
/-- the places that are the same on both sides -/
def fl_e (J : Nat) : Prop := (4 ≤ J ∧ J ≤ 10) ∨ (12 ≤ J ∧ J ≤ 20) ∨ (36 ≤ J ∧ J ≤ 38)
/-- a channel on both sides -/
def fl_C (f : Nat → Int32) (su : Nat → Int64) (k : Nat) (q : fw_C) : Prop :=
  fl_U f su (Int32.ofNat k) (q.1 0) (q.1 1) (q.1 2) (q.1 3) (q.1 39) (q.1 21) (q.2.1 4) (q.2.1 5) (q.2.1 6) (q.2.1 0) (q.2.1 1) (q.2.2 0) (q.2.2 1) ∧
  (∀ J : Nat, fl_e J → rf_of f (Int32.ofNat k) J = q.1 J) ∧ su (7 * (Int32.ofNat k).toInt.toNat + 2) = q.2.1 2 ∧ su (7 * (Int32.ofNat k).toInt.toNat + 3) = q.2.1 3 ∧ ∀ j : Nat, j < 10 → rf_of f (Int32.ofNat k) (44 + j) = q.2.2 3 j
/-- its numbers stay in their ranges -/
def fl_nu (q : fw_C) : Prop :=
  ((100 ≤ (q.1 12).toInt ∧ (q.1 12).toInt ≤ 100000) ∧ (1 ≤ (q.1 13).toInt ∧ (q.1 13).toInt ≤ 500) ∧ (0 ≤ (q.1 14).toInt ∧ (q.1 14).toInt ≤ 500) ∧ (1 ≤ (q.1 15).toInt ∧ (q.1 15).toInt ≤ 200)) ∧
  ((0 ≤ (q.1 6).toInt ∧ (q.1 6).toInt ≤ 2 * (q.1 12).toInt) ∧ ((q.1 12).toInt / 2 ≤ (q.1 7).toInt ∧ (q.1 7).toInt ≤ (q.1 12).toInt) ∧ (0 ≤ (q.1 16).toInt ∧ (q.1 16).toInt ≤ 999) ∧ (0 ≤ (q.1 18).toInt ∧ (q.1 18).toInt ≤ 1000000) ∧ (-2500 ≤ (q.1 8).toInt ∧ (q.1 8).toInt ≤ 2500)) ∧
  ((-5000 ≤ (q.1 4).toInt ∧ (q.1 4).toInt ≤ 5000) ∧ (-300000 ≤ (q.1 5).toInt ∧ (q.1 5).toInt ≤ 300000)) ∧ (q.1 21 = 0 ∨ q.1 21 = 1) ∧ (0 ≤ (q.1 39).toInt ∧ (q.1 39).toInt ≤ 4)
/-- its program, its step, its queue -/
def fl_PA (W : fw_W) (q : fw_C) : Prop :=
  (fl_ac (q.1 0) → ∃ P n S : Nat, (q.1 1).toInt = P ∧ (P : Int) < (W.1 10).toInt ∧ W.2.1 2 P = Int32.ofNat n ∧ n ≤ 12 ∧ (q.1 2).toInt = S ∧ S < n ∧ fl_lo (fun j => W.2.1 3 (12 * P + j)) S (q.2.2 0) ∧ ¬ W.2.1 3 (12 * P + S) = 4) ∧
  (∀ j : Nat, (j : Int) < (q.1 39).toInt → 0 ≤ (q.2.2 1 j).toInt ∧ (q.2.2 1 j).toInt < (W.1 10).toInt) ∧
  ((q.1 1 = -1 ∧ ∀ j : Nat, j < 12 → q.2.2 0 j = 0) ∨ ∃ P n : Nat, (q.1 1).toInt = P ∧ (P : Int) < (W.1 10).toInt ∧ W.2.1 2 P = Int32.ofNat n ∧ n ≤ 12 ∧ ∀ j : Nat, n ≤ j → j < 12 → q.2.2 0 j = 0)
/-- what is known of the description beside its being the same -/
def fl_D (f : Nat → Int32) : Prop :=
  ((0 ≤ (f 0).toInt ∧ (f 0).toInt ≤ 1000) ∧ (1 ≤ (f 1).toInt ∧ (f 1).toInt ≤ 1000000) ∧ 1 ≤ (f 2).toInt ∧ (0 ≤ (f 6).toInt ∧ (f 6).toInt ≤ 1000) ∧ (0 ≤ (f 16).toInt ∧ (f 16).toInt ≤ 200)) ∧
  (∀ v : Nat, (v : Int) < (f 11).toInt → ∀ j : Nat, (j : Int) < (f (27 + 19 * v)).toInt → 0 ≤ (f (28 + 19 * v + j)).toInt ∧ (f (28 + 19 * v + j)).toInt ≤ 5000) ∧
  ∀ p : Nat, (p : Int) < (f 10).toInt → (1 ≤ (f (96 + 37 * p)).toInt ∧ (f (96 + 37 * p)).toInt ≤ 12) ∧ ∀ j : Nat, (j : Int) < (f (96 + 37 * p)).toInt → (0 ≤ (f (98 + 37 * p + 3 * j)).toInt ∧ (f (98 + 37 * p + 3 * j)).toInt ≤ 5000) ∧
    (f (97 + 37 * p + 3 * j) = 0 ∨ f (97 + 37 * p + 3 * j) = 1 ∨ f (97 + 37 * p + 3 * j) = 2 ∨ f (97 + 37 * p + 3 * j) = 3 ∨ (f (97 + 37 * p + 3 * j) = 4 ∧ (f (98 + 37 * p + 3 * j)).toInt < (j : Int) ∧ 1 ≤ (f (99 + 37 * p + 3 * j)).toInt))
/-- a program on both sides, and its steps -/
theorem fl_pgo {f : Nat → Int32} {W : fw_W} {x : Nat → fw_C} {P : Nat} (s : sd f W x) (D : fl_D f) (hP : (P : Int) < (f 10).toInt) :
    ∃ n : Nat, 1 ≤ n ∧ n ≤ 12 ∧ fl_Pg f (W.2.1 2) (W.2.1 3) (W.2.1 4) (W.2.1 5) P n ∧ ∀ j : Nat, j < n → (0 ≤ (W.2.1 4 (12 * P + j)).toInt ∧ (W.2.1 4 (12 * P + j)).toInt ≤ 5000) ∧ (¬ W.2.1 3 (12 * P + j) = 4 → W.2.1 3 (12 * P + j) = 0 ∨ W.2.1 3 (12 * P + j) = 1 ∨ W.2.1 3 (12 * P + j) = 2 ∨ W.2.1 3 (12 * P + j) = 3) := by
  obtain ⟨_, b, _, p, _⟩ := s
  obtain ⟨n, hn, h1, h2, h3⟩ := p P (by omega)
  obtain ⟨d1, d2⟩ := D.2.2 P hP
  rw [h1, fl_on (by omega)] at d1 d2
  refine ⟨n, by omega, hn, ⟨h2, h1, fun j hj => h3 j hj, hn, fun j hj hk => ?_⟩, fun j hj => ⟨?_, fun hk => ?_⟩⟩
  · obtain ⟨e1, e2, e3⟩ := h3 j hj
    obtain ⟨a, b⟩ := d2 j (by omega)
    rw [e1, e2, e3] at b
    rw [e2] at a
    have hk2 : W.2.1 3 (12 * P + j) = 4 := hk
    have r : (W.2.1 4 (12 * P + j)).toInt < (j : Int) ∧ 1 ≤ (W.2.1 5 (12 * P + j)).toInt := by
      rcases b with z | z | z | z | z
      · rw [hk2] at z; exact absurd z (by decide)
      · rw [hk2] at z; exact absurd z (by decide)
      · rw [hk2] at z; exact absurd z (by decide)
      · rw [hk2] at z; exact absurd z (by decide)
      · exact z.2
    exact ⟨a.1, r.1, r.2⟩
  · obtain ⟨e1, e2, e3⟩ := h3 j hj
    have a := (d2 j (by omega)).1
    rw [e2] at a
    exact a
  · obtain ⟨e1, e2, e3⟩ := h3 j hj
    have b := (d2 j (by omega)).2
    rw [e1] at b
    rcases b with z | z | z | z | z
    · exact Or.inl z
    · exact Or.inr (Or.inl z)
    · exact Or.inr (Or.inr (Or.inl z))
    · exact Or.inr (Or.inr (Or.inr z))
    · exact absurd z.1 hk
/-- what a tick asks of its channel -/
theorem fl_oko {f : Nat → Int32} {su : Nat → Int64} {W : fw_W} {x : Nat → fw_C} {k : Nat} (s : sd f W x) (D : fl_D f) (hk : (k : Int) < (f 9).toInt) (C : fl_C f su k (x k)) (N : fl_nu (x k)) :
    ∃ n v : Nat, fl_ok f (Int32.ofNat k) n v ∧ (x k).1 11 = Int32.ofNat n ∧ ∀ j : Nat, j < n → f (28 + 19 * v + j) = (x k).2.2 2 j := by
  obtain ⟨_, b, c, _, o⟩ := s
  unfold sd_bds at b
  obtain ⟨v, v1, v2, v3, v4, v5⟩ := o k (by omega)
  obtain ⟨n, n1, n2, n3, n4, n5⟩ := c v v1
  have hk6 : k < 6 := by omega
  have ek : (Int32.ofNat k).toInt = k := fl_on (by omega)
  have ekn : (Int32.ofNat k).toInt.toNat = k := by omega
  rw [n4, fl_on (by omega)] at v5
  obtain ⟨N1, N2, _⟩ := N
  obtain ⟨_, e, _⟩ := C
  obtain ⟨D1, D2, _⟩ := D
  have D3 := D2 v (by omega)
  rw [n3, fl_on (by omega)] at D3
  refine ⟨n, v, ⟨⟨⟨by omega, by omega⟩, ⟨?_, by omega⟩, n3, n1, n2⟩, ?_, ?_, ⟨D1.1, D1.2.1, D1.2.2.1, D1.2.2.2.1, D1.2.2.2.2⟩, fun j hj => D3 j (by omega)⟩, v3.trans n4, fun j hj => ?_⟩
  · unfold rf_of
    rw [ekn, show 244 + 54 * k + 11 = 255 + 54 * k from by omega]
    exact v2
  · rw [e 12 (by unfold fl_e; omega), e 13 (by unfold fl_e; omega), e 14 (by unfold fl_e; omega), e 15 (by unfold fl_e; omega)]
    exact N1
  · rw [e 6 (by unfold fl_e; omega), e 7 (by unfold fl_e; omega), e 8 (by unfold fl_e; omega), e 12 (by unfold fl_e; omega), e 16 (by unfold fl_e; omega), e 18 (by unfold fl_e; omega)]
    exact N2
  · rw [n5 j hj]
    exact (v5 j (by omega)).symm
/-- what a current does is the same where the rows are the same -/
theorem fl_Fx {E FD HT CO AM i : Int32} {a b F F' : Nat → Int32} {n : Nat} (hn : 2 ≤ n ∧ n ≤ 11) (hv : ∀ j : Nat, j < n → a j = b j) (h : ∀ J : Nat, fl_e J → F J = F' J) (hC : 1 ≤ (fl_W (F' 12) (F' 7) FD (F' 18) i).toInt) (hQ : 0 ≤ (fl_Q (F' 12) E (F' 6) (F' 16) i).toInt) {J : Nat} (hJ : fl_e J) : fl_F E FD HT CO AM a (Int32.ofNat n) i F J = fl_F E FD HT CO AM b (Int32.ofNat n) i F' J := by
  unfold fl_F
  rw [h 14 (by unfold fl_e; omega), h 15 (by unfold fl_e; omega), h 8 (by unfold fl_e; omega), h 12 (by unfold fl_e; omega), h 6 (by unfold fl_e; omega), h 16 (by unfold fl_e; omega), h 7 (by unfold fl_e; omega), h 18 (by unfold fl_e; omega), h 9 (by unfold fl_e; omega), h 17 (by unfold fl_e; omega), h 13 (by unfold fl_e; omega), fl_Vx hn hC hQ hv]
  exact fl_uc (fl_uc (fl_uc (fl_uc (fl_uc (fl_uc (fl_uc (fl_uc (fl_uc (h J hJ) rfl) rfl) rfl) rfl) rfl) rfl) rfl) rfl) rfl
theorem fl_Fo {E FD HT CO AM n i : Int32} {a F : Nat → Int32} {J : Nat} (hJ : J < 4 ∨ (10 ≤ J ∧ J < 16) ∨ 19 ≤ J) : fl_F E FD HT CO AM a n i F J = F J := by
  unfold fl_F
  rw [rf_upd_ne (by omega), rf_upd_ne (by omega), rf_upd_ne (by omega), rf_upd_ne (by omega), rf_upd_ne (by omega), rf_upd_ne (by omega), rf_upd_ne (by omega), rf_upd_ne (by omega), rf_upd_ne (by omega)]
/-- the current flows, the filling is counted -/
theorem fl_md {f f2 f3 : Nat → Int32} {su t2 : Nat → Int64} {k n v : Nat} {i pm pm2 : Int32} {q : fw_C} {W : fw_W} {chg1 lft1 cap1 thr1 pz1 tmp1 het1 cun1 vol1 : Int32} {cin1 cou1 ein1 eou1 : Int64} {fbd1 : Nat → Int32}
    (ok : fl_ok f (Int32.ofNat k) n v) (hp : q.1 11 = Int32.ofNat n) (hcv : ∀ j : Nat, j < n → f (28 + 19 * v + j) = q.2.2 2 j)
    (s0 : f 0 = W.1 0) (s1 : f 1 = W.1 1) (s2 : f 2 = W.1 2) (s3 : f 3 = W.1 3) (s7 : f 7 = W.1 7) (C : fl_C f su k q) (hi : -5000 ≤ i.toInt ∧ i.toInt ≤ 5000) (hq : -(rf_of f (Int32.ofNat k) 6).toInt ≤ i.toInt)
    (h1 : q_X11_flows f su (Int32.ofNat k) i f2 t2) (h2 : q_X11_filled f2 (Int32.ofNat k) pm) (h3 : f3 = upd f2 (244 + 54 * (Int32.ofNat k).toInt.toNat + (44 + (if (pm / 100) < 9 then (pm / 100) else 9)).toInt.toNat) ((rf_of f2 (Int32.ofNat k) (44 + (if (pm / 100) < 9 then (pm / 100) else 9)).toInt.toNat) + 1))
    (g1 : a_X0_passCurrent (q.1 11) (q.1 12) (q.1 13) (q.1 14) (q.1 15) (q.1 6) (q.1 16) (q.1 7) (q.1 18) (q.1 8) (q.1 9) (q.1 17) (q.2.2 2) (q.2.1 0) (q.2.1 1) (q.2.1 2) (q.2.1 3) (W.1 0) (W.1 1) (W.1 2) (W.1 3) (W.1 7) i chg1 lft1 cap1 thr1 pz1 tmp1 het1 cun1 vol1 cin1 cou1 ein1 eou1)
    (g2 : a_X0_thousandths chg1 cap1 pm2) (g3 : a_X4_countFilling (q.2.2 3) pm2 fbd1) :
    (∀ J : Nat, (J < 4 ∨ (10 ≤ J ∧ J < 16) ∨ (19 ≤ J ∧ J < 44)) → rf_of f3 (Int32.ofNat k) J = rf_of f (Int32.ofNat k) J) ∧
    (rf_of f3 (Int32.ofNat k) 4 = cun1 ∧ rf_of f3 (Int32.ofNat k) 5 = vol1 ∧ rf_of f3 (Int32.ofNat k) 6 = chg1 ∧ rf_of f3 (Int32.ofNat k) 7 = cap1 ∧ rf_of f3 (Int32.ofNat k) 8 = pz1 ∧ rf_of f3 (Int32.ofNat k) 9 = tmp1 ∧ rf_of f3 (Int32.ofNat k) 16 = lft1 ∧ rf_of f3 (Int32.ofNat k) 17 = het1 ∧ rf_of f3 (Int32.ofNat k) 18 = thr1) ∧
    (∀ j : Nat, j < 10 → rf_of f3 (Int32.ofNat k) (44 + j) = fbd1 j) ∧
    (t2 (7 * (Int32.ofNat k).toInt.toNat + 0) = cin1 ∧ t2 (7 * (Int32.ofNat k).toInt.toNat + 1) = cou1 ∧ t2 (7 * (Int32.ofNat k).toInt.toNat + 2) = ein1 ∧ t2 (7 * (Int32.ofNat k).toInt.toNat + 3) = eou1 ∧ t2 (7 * (Int32.ofNat k).toInt.toNat + 4) = cin1 - q.2.1 4 ∧ t2 (7 * (Int32.ofNat k).toInt.toNat + 5) = cou1 - q.2.1 5 ∧ t2 (7 * (Int32.ofNat k).toInt.toNat + 6) = su (7 * (Int32.ofNat k).toInt.toNat + 6)) ∧
    (∀ j : Nat, (j < 7 * (Int32.ofNat k).toInt.toNat ∨ 7 * (Int32.ofNat k).toInt.toNat + 7 ≤ j) → t2 j = su j) ∧ fl_out (Int32.ofNat k) f f3 ∧ (∀ j : Nat, (568 ≤ j ∨ j = 12 ∨ j = 17) → f3 j = f j) ∧
    ((0 ≤ chg1.toInt ∧ chg1.toInt ≤ 2 * (q.1 12).toInt) ∧ ((q.1 12).toInt / 2 ≤ cap1.toInt ∧ cap1.toInt ≤ (q.1 12).toInt) ∧ (0 ≤ lft1.toInt ∧ lft1.toInt ≤ 999) ∧ (0 ≤ thr1.toInt ∧ thr1.toInt ≤ 1000000) ∧ (-2500 ≤ pz1.toInt ∧ pz1.toInt ≤ 2500)) ∧ (-5000 ≤ cun1.toInt ∧ cun1.toInt ≤ 5000) ∧ (-300000 ≤ vol1.toInt ∧ vol1.toInt ≤ 300000) := by
  obtain ⟨U, e, c2, c3, cb⟩ := C
  have e12 := e 12 (by unfold fl_e; omega)
  have e7 := e 7 (by unfold fl_e; omega)
  have e18 := e 18 (by unfold fl_e; omega)
  have e6 := e 6 (by unfold fl_e; omega)
  have e16 := e 16 (by unfold fl_e; omega)
  have e15 := e 15 (by unfold fl_e; omega)
  have e13 := e 13 (by unfold fl_e; omega)
  obtain ⟨m1, m2, m3, m4⟩ := fl_Fm ok hi hq h1
  obtain ⟨⟨hc, ⟨hv, hv4⟩, hn, hn2⟩, ⟨k12, k13, k14, k15⟩, ⟨k6, k7, k16, k18, k8⟩, ⟨o0, o1, o2, o6, o16⟩, hcv2⟩ := ok
  rw [hp, ← s0, ← s1, ← s2, ← s3, ← s7] at g1
  have hT := fl_Tn k18 hi
  have bQ := fl_Qb k12 o0 k6 k16 hi hq
  have bW := fl_Wb k12 o1.1 k7 hT
  have bP := fl_Pb k14 k15.1 k8 hi
  have bL := fl_Lb o0 k16 hi
  have bH := fl_Hb o1 hT
  have hC : 1 ≤ (fl_W (q.1 12) (q.1 7) (f 1) (q.1 18) i).toInt := by rw [← e12, ← e7, ← e18]; omega
  have hQ : 0 ≤ (fl_Q (q.1 12) (f 0) (q.1 6) (q.1 16) i).toInt := by rw [← e12, ← e6, ← e16]; omega
  obtain ⟨⟨x6, x16, x7, x18, x8, x9, x17, x4, x5⟩, y0, y1, y2, y3⟩ := fl_Fc hn2 (by rw [← e15]; exact k15.1) o1.1 o2 hC hQ g1
  have X : ∀ J : Nat, fl_e J → rf_of f2 (Int32.ofNat k) J = fl_F (f 0) (f 1) (f 2) (f 3) (f 7) (q.2.2 2) (Int32.ofNat n) i q.1 J := fun J hJ => by
    rw [m1]
    exact fl_Fx hn2 hcv e hC hQ hJ
  have w4 := (X 4 (by unfold fl_e; omega)).trans x4.symm
  have w5 := (X 5 (by unfold fl_e; omega)).trans x5.symm
  have w6 := (X 6 (by unfold fl_e; omega)).trans x6.symm
  have w7 := (X 7 (by unfold fl_e; omega)).trans x7.symm
  have w8 := (X 8 (by unfold fl_e; omega)).trans x8.symm
  have w9 := (X 9 (by unfold fl_e; omega)).trans x9.symm
  have w16 := (X 16 (by unfold fl_e; omega)).trans x16.symm
  have w17 := (X 17 (by unfold fl_e; omega)).trans x17.symm
  have w18 := (X 18 (by unfold fl_e; omega)).trans x18.symm
  have z4 : cun1 = i := by rw [← w4, m1]; rfl
  have z6 : chg1 = fl_Q (rf_of f (Int32.ofNat k) 12) (f 0) (rf_of f (Int32.ofNat k) 6) (rf_of f (Int32.ofNat k) 16) i := by rw [← w6, m1]; rfl
  have z7 : cap1 = fl_W (rf_of f (Int32.ofNat k) 12) (rf_of f (Int32.ofNat k) 7) (f 1) (rf_of f (Int32.ofNat k) 18) i := by rw [← w7, m1]; rfl
  have z8 : pz1 = fl_P (rf_of f (Int32.ofNat k) 14) (rf_of f (Int32.ofNat k) 15) (rf_of f (Int32.ofNat k) 8) i := by rw [← w8, m1]; rfl
  have z16 : lft1 = fl_L (f 0) (rf_of f (Int32.ofNat k) 16) i := by rw [← w16, m1]; rfl
  have z18 : thr1 = fl_H (f 1) (rf_of f (Int32.ofNat k) 18) i := by rw [← w18, m1]; rfl
  have z5 : vol1 = (fl_V (fun j => f (28 + 19 * v + j)) (Int32.ofNat n) (fl_W (rf_of f (Int32.ofNat k) 12) (rf_of f (Int32.ofNat k) 7) (f 1) (rf_of f (Int32.ofNat k) 18) i) (fl_Q (rf_of f (Int32.ofNat k) 12) (f 0) (rf_of f (Int32.ofNat k) 6) (rf_of f (Int32.ofNat k) 16) i) + ((i * (rf_of f (Int32.ofNat k) 13)) / 1000)) + fl_P (rf_of f (Int32.ofNat k) 14) (rf_of f (Int32.ofNat k) 15) (rf_of f (Int32.ofNat k) 8) i := by rw [← w5, m1]; rfl
  rw [← z7, ← z6, ← z8] at z5
  rw [← z6] at bQ
  rw [← z7] at bW
  rw [← z8] at bP
  rw [← z16] at bL
  rw [← z18] at bH
  have bV := fl_Vb (a := fun j => f (28 + 19 * v + j)) (C := cap1) (q := chg1) hn2 (by omega) (by omega) (by omega) hcv2
  have tk : (1000 : Int32).toInt = 1000 := by decide
  have a1 := Int.mul_le_mul_of_nonneg_right hi.2 (show 0 ≤ (rf_of f (Int32.ofNat k) 13).toInt by omega)
  have a0 := Int.mul_le_mul_of_nonneg_right hi.1 (show 0 ≤ (rf_of f (Int32.ofNat k) 13).toInt by omega)
  have em : (i * rf_of f (Int32.ofNat k) 13).toInt = i.toInt * (rf_of f (Int32.ofNat k) 13).toInt := Jvm.Kit.i32_mul (by omega) (by omega)
  have gd := rf_tdiv (x := i.toInt * (rf_of f (Int32.ofNat k) 13).toInt) (s := 1000) (B := 2500) (by omega) (by omega) (by omega) (by omega)
  have ed : ((i * rf_of f (Int32.ofNat k) 13) / 1000).toInt = (i.toInt * (rf_of f (Int32.ofNat k) 13).toInt).tdiv 1000 := by rw [Jvm.Kit.i32_div (by omega), em, tk]
  generalize (i.toInt * (rf_of f (Int32.ofNat k) 13).toInt).tdiv 1000 = G at gd ed
  generalize (i * rf_of f (Int32.ofNat k) 13) / 1000 = g at z5 ed
  generalize fl_V (fun j => f (28 + 19 * v + j)) (Int32.ofNat n) cap1 chg1 = V at z5 bV
  have ev1 : (V + g).toInt = V.toInt + g.toInt := Jvm.Kit.i32_add (by omega) (by omega)
  have ev : vol1.toInt = V.toInt + g.toInt + pz1.toInt := by rw [z5, Jvm.Kit.i32_add (by omega) (by omega), ev1]
  have ep2 := fl_pmc (by omega) g2
  have ep : pm = pm2 := by rw [ep2, fl_pmm h2, w6, w7]
  have hp0 : 0 ≤ pm2.toInt := by rw [ep2]; exact fl_pmb (by omega) (by omega)
  rw [ep, fl_b44 hp0] at h3
  have eb := fl_cf hp0 g3
  have bb := fl_bib hp0
  generalize hB : (fl_bi pm2).toInt.toNat = B at h3 eb
  have hB9 : B ≤ 9 := by omega
  have r3 : rf_of f3 (Int32.ofNat k) = upd (rf_of f2 (Int32.ofNat k)) (44 + B) (rf_of f2 (Int32.ofNat k) (44 + B) + 1) := by rw [h3, fl_ofu]
  have k3 : ∀ J : Nat, J < 44 → rf_of f3 (Int32.ofNat k) J = rf_of f2 (Int32.ofNat k) J := fun J hJ => by
    rw [r3]
    exact rf_upd_ne (by omega)
  obtain ⟨us0, us1, us4, us5⟩ := U.2.2.2.1
  obtain ⟨n0, n1, n2, n3, n4, n5, n6, n7⟩ := m4
  have b2 : ∀ J : Nat, (J < 4 ∨ (10 ≤ J ∧ J < 16) ∨ 19 ≤ J) → rf_of f2 (Int32.ofNat k) J = rf_of f (Int32.ofNat k) J := fun J hJ => by
    rw [m1]
    exact fl_Fo hJ
  rw [w5] at n2 n3
  refine ⟨fun J hJ => ?_, ⟨(k3 4 (by omega)).trans w4, (k3 5 (by omega)).trans w5, (k3 6 (by omega)).trans w6, (k3 7 (by omega)).trans w7, (k3 8 (by omega)).trans w8, (k3 9 (by omega)).trans w9, (k3 16 (by omega)).trans w16, (k3 17 (by omega)).trans w17, (k3 18 (by omega)).trans w18⟩, fun j hj => ?_, ⟨?_, ?_, ?_, ?_, ?_, ?_, n6⟩, n7, ?_, fun j hj => ?_, ⟨by rw [← e12]; exact bQ, by rw [← e12]; exact bW, bL, bH, bP⟩, by rw [z4]; exact hi, by omega⟩
  · rw [k3 J (by omega)]
    exact b2 J (by omega)
  · rw [r3, eb]
    by_cases w : j = B
    · subst w
      rw [rf_upd_eq, rf_upd_eq, b2 _ (by omega), cb j hj]
    · rw [rf_upd_ne (by omega), rf_upd_ne w, b2 _ (by omega)]
      exact cb j hj
  · rw [n0, y0, us0]
  · rw [n1, y1, us1]
  · rw [n2, y2, c2]
  · rw [n3, y3, c3]
  · rw [n4, y0, us4]
    by_cases w : i ≤ 0
    · rw [if_pos w, if_pos w]
    · rw [if_neg w, if_neg w, fl_s1]
  · rw [n5, y1, us5]
    by_cases w : i ≤ 0
    · rw [if_pos w, if_pos w, fl_s2]
    · rw [if_neg w, if_neg w]
  · rw [h3]
    exact fl_outt m2 (fl_outu (by omega))
  · rw [h3]
    exact (rf_upd_ne (by omega)).trans (m3 j hj)
/-- the class's channel behind a tick, place by place -/
theorem fl_q1 {qa qa1 : fw_C} {sta1_ prg1_ stp1_ las1_ wai1_ hel1_ chg1_ lft1_ cap1_ thr1_ pz1_ tmp1_ het1_ cun1_ vol1_ res1_ mca1_ mre1_ trr1_ wfo1_ wct1_ : Int32} {bin1_ bou1_ sbo1_ cin1_ cou1_ ein1_ eou1_ : Int64} {fbd1_ ftb1_ fqu1_ : Nat → Int32} (h : qa1 = (fw_sr (fw_sl (fw_sl (fw_sl (fw_sl (fw_sr (fw_sr (fw_si (fw_si (fw_si (fw_si (fw_si (fw_si (fw_si (fw_si (fw_si (fw_si (fw_si (fw_si (fw_si (fw_si (fw_si (fw_sl (fw_si (fw_sl (fw_sl (fw_si (fw_si (fw_si (fw_si (fw_si qa 0 sta1_) 1 prg1_) 2 stp1_) 3 las1_) 39 wai1_) 4 bin1_) 5 bou1_) 21 hel1_) 6 sbo1_) 6 chg1_) 16 lft1_) 7 cap1_) 18 thr1_) 8 pz1_) 9 tmp1_) 17 het1_) 4 cun1_) 5 vol1_) 19 res1_) 20 mca1_) 38 mre1_) 10 trr1_) 37 wfo1_) 36 wct1_) 0 ftb1_) 1 fqu1_) 0 cin1_) 1 cou1_) 2 ein1_) 3 eou1_) 3 fbd1_)) :
    (qa1.1 0 = sta1_ ∧ qa1.1 1 = prg1_ ∧ qa1.1 2 = stp1_ ∧ qa1.1 3 = las1_ ∧ qa1.1 39 = wai1_ ∧ qa1.1 21 = hel1_ ∧ qa1.2.1 4 = bin1_ ∧ qa1.2.1 5 = bou1_ ∧ qa1.2.1 6 = sbo1_) ∧ (qa1.1 6 = chg1_ ∧ qa1.1 16 = lft1_ ∧ qa1.1 7 = cap1_ ∧ qa1.1 18 = thr1_ ∧ qa1.1 8 = pz1_ ∧ qa1.1 9 = tmp1_ ∧ qa1.1 17 = het1_ ∧ qa1.1 4 = cun1_ ∧ qa1.1 5 = vol1_) ∧ (qa1.2.1 0 = cin1_ ∧ qa1.2.1 1 = cou1_ ∧ qa1.2.1 2 = ein1_ ∧ qa1.2.1 3 = eou1_) ∧ (qa1.1 19 = res1_ ∧ qa1.1 20 = mca1_ ∧ qa1.1 38 = mre1_ ∧ qa1.1 10 = trr1_ ∧ qa1.1 37 = wfo1_ ∧ qa1.1 36 = wct1_) ∧ (qa1.2.2 3 = fbd1_ ∧ qa1.2.2 0 = ftb1_ ∧ qa1.2.2 1 = fqu1_) := by
  subst h
  exact ⟨⟨rfl, rfl, rfl, rfl, rfl, rfl, rfl, rfl, rfl⟩, ⟨rfl, rfl, rfl, rfl, rfl, rfl, rfl, rfl, rfl⟩, ⟨rfl, rfl, rfl, rfl⟩, ⟨rfl, rfl, rfl, rfl, rfl, rfl⟩, ⟨rfl, rfl, rfl⟩⟩
theorem fl_v1 {va va1 : fw_W} {rold1_ rsiz1_ lold1_ lsiz1_ : Int32} {frn1_ fln1_ : Nat → Int32} (h : va1 = (fw_wr (fw_si (fw_si (fw_wr (fw_si (fw_si va 18 rold1_) 12 rsiz1_) 6 frn1_) 19 lold1_) 17 lsiz1_) 7 fln1_)) : va1.1 12 = rsiz1_ ∧ va1.1 18 = rold1_ ∧ va1.2.1 6 = frn1_ ∧ va1.1 8 = va.1 8 := by
  subst h
  exact ⟨rfl, rfl, rfl, rfl⟩
theorem fl_rq {d e : Int32} {q : Int64} (hd : -600000 ≤ d.toInt ∧ d.toInt ≤ 600000) (he : ¬ e = 0) (h : a_X10_quotient (1000 * d.toInt64) e.toInt64 q) : q.toInt32 = (d * 1000) / e := by
  have tk : (1000 : Int64).toInt = 1000 := by decide
  have tk2 : (1000 : Int32).toInt = 1000 := by decide
  have e0 := fl_i0 he
  have e1 := fl_q h (by rw [Jvm.Kit.i64_of_i32]; exact e0)
  have m64 : (1000 * d.toInt64).toInt = d.toInt * 1000 := by
    rw [Jvm.Kit.i64_mul (by rw [tk, Jvm.Kit.i64_of_i32]; omega) (by rw [tk, Jvm.Kit.i64_of_i32]; omega), tk, Jvm.Kit.i64_of_i32, Int.mul_comm]
  have m32 : (d * 1000).toInt = d.toInt * 1000 := by rw [Jvm.Kit.i32_mul (by rw [tk2]; omega) (by rw [tk2]; omega), tk2]
  have q64 : q.toInt = (d.toInt * 1000).tdiv e.toInt := by
    rw [e1, Jvm.Kit.i64_div (by rw [m64]; omega), m64, Jvm.Kit.i64_of_i32]
  have q32 : ((d * 1000) / e).toInt = (d.toInt * 1000).tdiv e.toInt := by rw [Jvm.Kit.i32_div (by rw [m32]; omega), m32]
  have b : -600000000 ≤ (d.toInt * 1000).tdiv e.toInt ∧ (d.toInt * 1000).tdiv e.toInt ≤ 600000000 := by
    by_cases w : 1 ≤ e.toInt
    · have t := fl_td (x := d.toInt * 1000) w
      split at t <;> omega
    · have t := fl_td (x := d.toInt * 1000) (s := -e.toInt) (by omega)
      rw [Int.tdiv_neg] at t
      split at t <;> omega
  refine Int32.toInt.inj ?_
  rw [Jvm.Kit.i32_of_i64 (by rw [q64]; omega) (by rw [q64]; omega), q64, q32]
theorem fl_Ug {f f1 : Nat → Int32} {su t : Nat → Int64} {c sta prg stp las wai hel : Int32} {bin bou sbo cin cou cin1 cou1 : Int64} {ftb fqu : Nat → Int32} (hw : wai.toInt ≤ 4) (U : fl_U f su c sta prg stp las wai hel bin bou sbo cin cou ftb fqu) (k : ∀ J : Nat, (J < 4 ∨ (20 < J ∧ J < 36) ∨ (38 < J ∧ J < 44)) → rf_of f1 c J = rf_of f c J)
    (s0 : t (7 * c.toInt.toNat + 0) = cin1) (s1 : t (7 * c.toInt.toNat + 1) = cou1) (s4 : t (7 * c.toInt.toNat + 4) = cin1 - bin) (s5 : t (7 * c.toInt.toNat + 5) = cou1 - bou) (s6 : t (7 * c.toInt.toNat + 6) = su (7 * c.toInt.toNat + 6)) : fl_U f1 t c sta prg stp las wai hel bin bou sbo cin1 cou1 ftb fqu := by
  obtain ⟨⟨u0, u1, u39, u21⟩, ut, uq, us, ua, un⟩ := U
  exact ⟨⟨(k 0 (by omega)).trans u0, (k 1 (by omega)).trans u1, (k 39 (by omega)).trans u39, (k 21 (by omega)).trans u21⟩, fun j hj => (k _ (by omega)).trans (ut j hj), fun j hj => (k _ (by omega)).trans (uq j hj), ⟨s0, s1, s4, s5⟩, fun z => ⟨(k 2 (by omega)).trans (ua z).1, (k 3 (by omega)).trans (ua z).2.1, s6.trans (ua z).2.2⟩, fun z => ⟨(k 2 (by omega)).trans (un z).1, (k 3 (by omega)).trans (un z).2⟩⟩
theorem fl_Pgo {f g fsps fk ff fs : Nat → Int32} {P n : Nat} {c : Int32} (hP : P < 4) (o : fl_out c f g) (pg : fl_Pg f fsps fk ff fs P n) : fl_Pg g fsps fk ff fs P n := by
  have hn := pg.2.2.2.1
  exact ⟨pg.1, (o _ (by omega) (by omega) (by omega) (by omega)).trans pg.2.1, fun j hj => ⟨(o _ (by omega) (by omega) (by omega) (by omega)).trans (pg.2.2.1 j hj).1, (o _ (by omega) (by omega) (by omega) (by omega)).trans (pg.2.2.1 j hj).2.1, (o _ (by omega) (by omega) (by omega) (by omega)).trans (pg.2.2.1 j hj).2.2⟩, pg.2.2.2⟩
/-- who runs what behind a tick -/
theorem fl_nxA {f : Nat → Int32} {va : fw_W} {x : Nat → fw_C} {q qa1 : fw_C} {P n : Nat} {sta9 prg9 stp9 wai9 : Int32} {ftb9 fqu9 : Nat → Int32} (s : sd f va x) (D : fl_D f) (A : fl_PA va q) (ac : fl_ac (q.1 0)) (p1 : (q.1 1).toInt = P) (p2 : (P : Int) < (va.1 10).toInt) (p3 : va.2.1 2 P = Int32.ofNat n) (p12 : n ≤ 12)
    (nx : fl_nx (va.2.1 3) P n (q.1 1) (q.1 39) (q.2.2 0) (q.2.2 1) sta9 prg9 stp9 wai9 ftb9 fqu9) (Q0 : qa1.1 0 = sta9) (Q1 : qa1.1 1 = prg9) (Q2 : qa1.1 2 = stp9) (Q39 : qa1.1 39 = wai9) (Qf0 : qa1.2.2 0 = ftb9) (Qf1 : qa1.2.2 1 = fqu9) : fl_PA va qa1 := by
  have g10 := s.1.2.2.2.1
  have tail : ∀ j : Nat, n ≤ j → j < 12 → q.2.2 0 j = 0 := by
    rcases A.2.2 with ⟨z, h⟩ | ⟨P2, n2, z1, z2, z3, z4, h⟩
    · rw [z] at p1
      have : (-1 : Int32).toInt = -1 := by decide
      omega
    · have eP : P2 = P := by omega
      subst eP
      have h9 := congrArg Int32.toInt (p3.symm.trans z3)
      rw [fl_on (by omega), fl_on (by omega)] at h9
      intro j h1 h2
      exact h j (by omega) h2
  unfold fl_PA
  rw [Q0, Q1, Q2, Q39, Qf0, Qf1]
  rcases nx with ⟨z0, z1, ⟨S1, z2, z3, z4, z5⟩, z6, z7, z8⟩ | ⟨z0, z1, z6, z7, z8⟩ | ⟨z1, z2, z3, z4, z5, z6, z7⟩
  · rw [z1, z6, z7]
    exact ⟨fun _ => ⟨P, n, S1, p1, p2, p3, p12, z2, z3, z4, z5⟩, A.2.1, Or.inr ⟨P, n, p1, p2, p3, p12, fun j h1 h2 => (z8 j h1 h2).trans (tail j h1 h2)⟩⟩
  · rw [z0, z1, z6, z7]
    exact ⟨fun z => absurd z (by unfold fl_ac; decide), A.2.1, Or.inr ⟨P, n, p1, p2, p3, p12, fun j h1 h2 => (z8 j h1 h2).trans (tail j h1 h2)⟩⟩
  · obtain ⟨a1, a2⟩ := A.2.1 0 (by omega)
    obtain ⟨m, m1, m12, pg, _⟩ := fl_pgo (P := (q.2.2 1 0).toInt.toNat) s D (by rw [g10]; omega)
    have z0 : (0 : Int32).toInt = 0 := by decide
    rw [z3, z4]
    refine ⟨fun _ => ⟨(q.2.2 1 0).toInt.toNat, m, 0, by omega, by omega, pg.1, m12, z0, by omega, fun j hj => absurd hj (Nat.not_lt_zero j), fun h4 => ?_⟩, fun j hj => ?_, Or.inr ⟨(q.2.2 1 0).toInt.toNat, m, by omega, by omega, pg.1, m12, fun j _ h2 => z7 j h2⟩⟩
    · have := pg.2.2.2.2 0 (by omega) h4
      omega
    · rw [z6 j hj]
      exact A.2.1 (j + 1) (by omega)
/-- a tick of a channel that isn't running -/
theorem fl_tk0 {tt : Prop} {f f1 G : Nat → Int32} {su t : Nat → Int64} {men men1 r : Int32} {k : Nat} {qa1 : fw_C} {va va1 : fw_W} {x : Nat → fw_C} (s : sd f va x) (D : fl_D f) (hk : (k : Int) < (f 9).toInt) (C : fl_C f su k (x k)) (N : fl_nu (x k)) (A : fl_PA va (x k)) (R : fl_R tt f va) (e8 : tt → f 8 = va.1 8) (n1 : ¬ (x k).1 0 = 1) (hr : q_X11_goes men f G su (Int32.ofNat k) men1 f1 t) (hb : t_tick k (x k) va r qa1 va1) : fl_C f1 t k qa1 ∧ fl_nu qa1 ∧ fl_PA va qa1 ∧ fl_R tt f1 va1 ∧ fl_out (Int32.ofNat k) f f1 ∧ (∀ j : Nat, (j < 7 * (Int32.ofNat k).toInt.toNat ∨ 7 * (Int32.ofNat k).toInt.toNat + 7 ≤ j) → t j = su j) ∧ men1 = (if r = 0 then men else men + 1) ∧ (∀ J : Nat, 11 ≤ J → J ≤ 15 → rf_of f1 (Int32.ofNat k) J = rf_of f (Int32.ofNat k) J) := by
  have hk6 : k < 6 := by have h := s.2.1; unfold sd_bds at h; omega
  have hc : 0 ≤ (Int32.ofNat k).toInt ∧ (Int32.ofNat k).toInt < 6 := by rw [fl_on (by omega)]; omega
  have g0 := s.1.1 0 (by omega)
  have g1 := s.1.1 1 (by omega)
  have g2 := s.1.1 2 (by omega)
  have g3 := s.1.1 3 (by omega)
  have g4 := s.1.1 4 (by omega)
  have g5 := s.1.1 5 (by omega)
  have g6 := s.1.1 6 (by omega)
  have g7 := s.1.1 7 (by omega)
  have g13 := s.1.2.1 13 (by omega) (by omega)
  have g14 := s.1.2.1 14 (by omega) (by omega)
  have g15 := s.1.2.1 15 (by omega) (by omega)
  have g16 := s.1.2.1 16 (by omega) (by omega)
  have g10 := s.1.2.2.2.1
  obtain ⟨n, v, ok, hp, hcv⟩ := fl_oko s D hk C N
  have CC := C
  obtain ⟨U, e, c2, c3, cb⟩ := CC
  obtain ⟨N1, N2, ⟨N4, N5⟩, Nh, Nw⟩ := N
  have D1 := D.1
  have sc := (d_tick hb).2
  obtain ⟨i, hcur, f2, t2, hfl, pm, hpm, f3, hf3, hr⟩ := hr
  obtain ⟨sta9, prg9, stp9, las9, wai9, bin9, bou9, hel9, sbo9, chg9, lft9, cap9, thr9, pz9, tmp9, het9, cun9, vol9, cin9, cou9, ein9, eou9, res9, mca9, mre9, trr9, wfo9, wct9, fbd9, ftb9, fqu9, rold9, rsiz9, frn9, lold9, lsiz9, fln9, hb, eq1, ev1⟩ := hb
  obtain ⟨w, hw, i2, hi2, chg1, lft1, cap1, thr1, pz1, tmp1, het1, cun1, vol1, cin1, cou1, ein1, eou1, hpc, pm2, hpm2, fbd1, hcf, hb⟩ := hb
  have z : (0 : Int32).toInt = 0 := by decide
  have w0 := fl_w0 n1 hw
  rw [w0] at hi2
  have k6 := ok.2.2.1.1
  have e6 := e 6 (by unfold fl_e; omega)
  rw [e6] at k6
  rw [← g6, ← g16] at hi2
  have i0 : i2 = 0 := (fl_Ac (w := 0) (by decide) D1.2.2.2.2 D1.2.2.2.1 k6.1 hi2).trans (fl_A0 D1.2.2.2.2.1 k6.1)
  have i1 : i = 0 := (hcur.resolve_left (fun y => n1 (U.1.1.symm.trans y.1))).2
  rw [i0] at hpc
  rw [i1] at hfl
  obtain ⟨a1, ⟨a4, a5, a6, a7, a8, a9, a16, a17, a18⟩, ab, ⟨t0, t1, tt2, t3, t4, t5, t6⟩, to, ao, ar, nb, n4, n5⟩ := fl_md ok hp hcv g0 g1 g2 g3 g7 C (by decide) (by rw [z, e6]; omega) hfl hpm hf3 hpc hpm2 hcf
  obtain ⟨_, f4, h4, m1, q1, q2⟩ := hr.resolve_left (fun y => n1 ((U.1.1.symm.trans (a1 0 (by omega)).symm).trans y.1))
  obtain ⟨_, b_r, b_sta9, b_prg9, b_stp9, b_las9, b_wai9, b_bin9, b_bou9, b_hel9, b_sbo9, b_chg9, b_lft9, b_cap9, b_thr9, b_pz9, b_tmp9, b_het9, b_cun9, b_vol9, b_cin9, b_cou9, b_ein9, b_eou9, b_res9, b_mca9, b_mre9, b_trr9, b_wfo9, b_wct9, b_fbd9, b_ftb9, b_fqu9, b_rold9, b_rsiz9, b_frn9⟩ := hb.resolve_left (fun y => n1 y.1)
  obtain ⟨⟨Q0, Q1, Q2, Q3, Q39, Q21, Qb4, Qb5, Qb6⟩, ⟨Q6, Q16, Q7, Q18, Q8, Q9, Q17, Q4, Q5⟩, ⟨Qc0, Qc1, Qc2, Qc3⟩, ⟨Q19, Q20, Q38, Q10, Q37, Q36⟩, Qf3, Qf0, Qf1⟩ := fl_q1 eq1
  obtain ⟨V1, V2, V3, _⟩ := fl_v1 ev1
  have r4 : ∀ J : Nat, J ≠ 37 → rf_of f4 (Int32.ofNat k) J = rf_of f3 (Int32.ofNat k) J := fun J hJ => by
    rw [h4, fl_ofu]
    exact rf_upd_ne hJ
  have r37 : rf_of f4 (Int32.ofNat k) 37 = 0 := by
    rw [h4, fl_ofu]
    exact rf_upd_eq
  rw [q1, q2, m1]
  refine ⟨⟨?_, fun J hJ => ?_, ?_, ?_, fun j hj => ?_⟩, ⟨?_, ?_, ⟨?_, ?_⟩, ?_, ?_⟩, ?_, ?_, ?_, to, ?_, fun J h1 h2 => (r4 J (by omega)).trans (a1 J (by omega))⟩
  · rw [Q0, Q1, Q2, Q3, Q39, Q21, Qb4, Qb5, Qb6, Qc0, Qc1, Qf0, Qf1, b_sta9, b_prg9, b_stp9, b_las9, b_wai9, b_hel9, b_bin9, b_bou9, b_sbo9, b_cin9, b_cou9, b_ftb9, b_fqu9]
    exact fl_Ug Nw.2 U (fun J hJ => (r4 J (by omega)).trans (a1 J (by omega))) t0 t1 t4 t5 t6
  · rcases (by unfold fl_e at hJ; omega : J = 4 ∨ J = 5 ∨ J = 6 ∨ J = 7 ∨ J = 8 ∨ J = 9 ∨ J = 10 ∨ J = 12 ∨ J = 13 ∨ J = 14 ∨ J = 15 ∨ J = 16 ∨ J = 17 ∨ J = 18 ∨ J = 19 ∨ J = 20 ∨ J = 36 ∨ J = 37 ∨ J = 38) with z | z | z | z | z | z | z | z | z | z | z | z | z | z | z | z | z | z | z
    · subst z; rw [Q4, b_cun9]; exact (r4 4 (by omega)).trans a4
    · subst z; rw [Q5, b_vol9]; exact (r4 5 (by omega)).trans a5
    · subst z; rw [Q6, b_chg9]; exact (r4 6 (by omega)).trans a6
    · subst z; rw [Q7, b_cap9]; exact (r4 7 (by omega)).trans a7
    · subst z; rw [Q8, b_pz9]; exact (r4 8 (by omega)).trans a8
    · subst z; rw [Q9, b_tmp9]; exact (r4 9 (by omega)).trans a9
    · subst z; rw [Q10, b_trr9]; exact ((r4 10 (by omega)).trans (a1 10 (by omega))).trans (e 10 (by unfold fl_e; omega))
    · subst z; rw [sc.1 12 (by omega) (by omega)]; exact ((r4 12 (by omega)).trans (a1 12 (by omega))).trans (e 12 (by unfold fl_e; omega))
    · subst z; rw [sc.1 13 (by omega) (by omega)]; exact ((r4 13 (by omega)).trans (a1 13 (by omega))).trans (e 13 (by unfold fl_e; omega))
    · subst z; rw [sc.1 14 (by omega) (by omega)]; exact ((r4 14 (by omega)).trans (a1 14 (by omega))).trans (e 14 (by unfold fl_e; omega))
    · subst z; rw [sc.1 15 (by omega) (by omega)]; exact ((r4 15 (by omega)).trans (a1 15 (by omega))).trans (e 15 (by unfold fl_e; omega))
    · subst z; rw [Q16, b_lft9]; exact (r4 16 (by omega)).trans a16
    · subst z; rw [Q17, b_het9]; exact (r4 17 (by omega)).trans a17
    · subst z; rw [Q18, b_thr9]; exact (r4 18 (by omega)).trans a18
    · subst z; rw [Q19, b_res9]; exact ((r4 19 (by omega)).trans (a1 19 (by omega))).trans (e 19 (by unfold fl_e; omega))
    · subst z; rw [Q20, b_mca9]; exact ((r4 20 (by omega)).trans (a1 20 (by omega))).trans (e 20 (by unfold fl_e; omega))
    · subst z; rw [Q36, b_wct9]; exact ((r4 36 (by omega)).trans (a1 36 (by omega))).trans (e 36 (by unfold fl_e; omega))
    · subst z; rw [Q37, b_wfo9]; exact r37
    · subst z; rw [Q38, b_mre9]; exact ((r4 38 (by omega)).trans (a1 38 (by omega))).trans (e 38 (by unfold fl_e; omega))
  · rw [Qc2, b_ein9]; exact tt2
  · rw [Qc3, b_eou9]; exact t3
  · rw [Qf3, b_fbd9]; exact (r4 _ (by omega)).trans (ab j hj)
  · rw [sc.1 12 (by omega) (by omega), sc.1 13 (by omega) (by omega), sc.1 14 (by omega) (by omega), sc.1 15 (by omega) (by omega)]; exact N1
  · rw [sc.1 12 (by omega) (by omega), Q6, Q7, Q16, Q18, Q8, b_chg9, b_cap9, b_lft9, b_thr9, b_pz9]; exact nb
  · rw [Q4, b_cun9]; exact n4
  · rw [Q5, b_vol9]; exact n5
  · rw [Q21, b_hel9]; exact Nh
  · rw [Q39, b_wai9]; exact Nw
  · unfold fl_PA
    rw [Q0, Q1, Q2, Q39, Qf0, Qf1, b_sta9, b_prg9, b_stp9, b_wai9, b_ftb9, b_fqu9]
    exact A
  · refine fl_Rw R (fun j hj => ?_) (V1.trans b_rsiz9) (V2.trans b_rold9) (V3.trans b_frn9)
    rw [h4]
    exact (rf_upd_ne (by omega)).trans (ar j (by omega))
  · rw [h4]
    exact fl_outt ao (fl_outu (by omega))
  · rw [b_r, if_pos rfl]
/-- a tick of a channel that runs: warnings, then the end -/
theorem fl_tk1 {tt : Prop} {f f1 G : Nat → Int32} {su t : Nat → Int64} {men men1 r : Int32} {k : Nat} {qa1 : fw_C} {va va1 : fw_W} {x : Nat → fw_C} (s : sd f va x) (D : fl_D f) (hk : (k : Int) < (f 9).toInt) (C : fl_C f su k (x k)) (N : fl_nu (x k)) (A : fl_PA va (x k)) (R : fl_R tt f va) (e8 : tt → f 8 = va.1 8) (n1 : (x k).1 0 = 1) (hr : q_X11_goes men f G su (Int32.ofNat k) men1 f1 t) (hb : t_tick k (x k) va r qa1 va1) : fl_C f1 t k qa1 ∧ fl_nu qa1 ∧ fl_PA va qa1 ∧ fl_R tt f1 va1 ∧ fl_out (Int32.ofNat k) f f1 ∧ (∀ j : Nat, (j < 7 * (Int32.ofNat k).toInt.toNat ∨ 7 * (Int32.ofNat k).toInt.toNat + 7 ≤ j) → t j = su j) ∧ men1 = (if r = 0 then men else men + 1) ∧ (∀ J : Nat, 11 ≤ J → J ≤ 15 → rf_of f1 (Int32.ofNat k) J = rf_of f (Int32.ofNat k) J) := by
  have hk6 : k < 6 := by have h := s.2.1; unfold sd_bds at h; omega
  have hc : 0 ≤ (Int32.ofNat k).toInt ∧ (Int32.ofNat k).toInt < 6 := by rw [fl_on (by omega)]; omega
  have g0 := s.1.1 0 (by omega)
  have g1 := s.1.1 1 (by omega)
  have g2 := s.1.1 2 (by omega)
  have g3 := s.1.1 3 (by omega)
  have g4 := s.1.1 4 (by omega)
  have g5 := s.1.1 5 (by omega)
  have g6 := s.1.1 6 (by omega)
  have g7 := s.1.1 7 (by omega)
  have g13 := s.1.2.1 13 (by omega) (by omega)
  have g14 := s.1.2.1 14 (by omega) (by omega)
  have g15 := s.1.2.1 15 (by omega) (by omega)
  have g16 := s.1.2.1 16 (by omega) (by omega)
  have g10 := s.1.2.2.2.1
  obtain ⟨n, v, ok, hp, hcv⟩ := fl_oko s D hk C N
  have CC := C
  obtain ⟨U, e, c2, c3, cb⟩ := CC
  obtain ⟨N1, N2, ⟨N4, N5⟩, Nh, Nw⟩ := N
  have D1 := D.1
  have sc := (d_tick hb).2
  have ac : fl_ac ((x k).1 0) := Or.inl n1
  obtain ⟨P, np, S, p1, p2, p3, p12, p4, p5, p6, p7⟩ := A.1 ac
  have b10 : (f 10).toInt ≤ 4 := by have h := s.2.1; unfold sd_bds at h; omega
  have hP4 : P < 4 := by rw [← g10] at p2; omega
  obtain ⟨mp, m1, m12, pg, hst⟩ := fl_pgo (P := P) s D (by rw [g10]; exact p2)
  have emp : np = mp := by
    have h := congrArg Int32.toInt (p3.symm.trans pg.1)
    rw [fl_on (by omega), fl_on (by omega)] at h
    omega
  subst emp
  obtain ⟨hs1, hs2⟩ := hst S p5
  obtain ⟨i, hcur, f2, t2, hfl, pm, hpm, f3, hf3, hr⟩ := hr
  obtain ⟨sta9, prg9, stp9, las9, wai9, bin9, bou9, hel9, sbo9, chg9, lft9, cap9, thr9, pz9, tmp9, het9, cun9, vol9, cin9, cou9, ein9, eou9, res9, mca9, mre9, trr9, wfo9, wct9, fbd9, ftb9, fqu9, rold9, rsiz9, frn9, lold9, lsiz9, fln9, hb, eq1, ev1⟩ := hb
  rw [n1] at hb
  obtain ⟨w2, hwc, i2, hi2, chg1, lft1, cap1, thr1, pz1, tmp1, het1, cun1, vol1, cin1, cou1, ein1, eou1, hpc, pm2, hpm2, fbd1, hcf, mm, hmm, ⟨lo, ls, fl, htl⟩, hwa, b_chg9, b_lft9, b_cap9, b_thr9, b_pz9, b_tmp9, b_het9, b_cun9, b_vol9, b_cin9, b_cou9, b_ein9, b_eou9, b_mre9, b_fbd9⟩ := fl_pt hb
  have ua := U.2.2.2.2.1 ac
  have st : ∀ y : Nat, rf_st3 f (Int32.ofNat k) y = f (97 + 37 * P + 3 * S + y) := fun y => by
    unfold rf_st3
    rw [U.1.2.1, ua.1, show ((x k).1 1).toInt.toNat = P from by omega, show ((x k).1 2).toInt.toNat = S from by omega]
  have st0 : rf_st3 f (Int32.ofNat k) 0 = va.2.1 3 (12 * P + S) := by rw [st]; exact (pg.2.2.1 S p5).1
  have st1 : rf_st3 f (Int32.ofNat k) 1 = va.2.1 4 (12 * P + S) := by rw [st, show 97 + 37 * P + 3 * S + 1 = 98 + 37 * P + 3 * S from by omega]; exact (pg.2.2.1 S p5).2.1
  have e6 := e 6 (by unfold fl_e; omega)
  have e7 := e 7 (by unfold fl_e; omega)
  have e8' := e 8 (by unfold fl_e; omega)
  have e9 := e 9 (by unfold fl_e; omega)
  have e13 := e 13 (by unfold fl_e; omega)
  have cC := fl_okC ok
  rw [e6, e7] at cC
  have k6 := ok.2.2.1.1
  rw [e6] at k6
  have cv0 : ∀ j : Nat, j < n → 0 ≤ ((x k).2.2 2 j).toInt ∧ ((x k).2.2 2 j).toInt ≤ 5000 := fun j hj => by
    rw [← hcv j hj]
    exact ok.2.2.2.2 j hj
  have hk4 : rf_st3 f (Int32.ofNat k) 0 = 0 ∨ rf_st3 f (Int32.ofNat k) 0 = 1 ∨ rf_st3 f (Int32.ofNat k) 0 = 2 ∨ rf_st3 f (Int32.ofNat k) 0 = 3 := by
    rw [st0]
    exact hs2 p7
  have W2 := fl_wcc p1 p4 hP4 (by omega) rfl hp ok.1.2.2.2 ⟨cC.1, cC.2.1⟩ ⟨k6.1, cC.2.2⟩ N2.2.2.2.2 N1.2.1.1 cv0 hs1 hwc
  obtain ⟨_, w1, hw1, hcr⟩ := hcur.resolve_right (fun y => y.1 (U.1.1.trans n1))
  have W1 := fl_wmm ok hk4 hw1
  have ew : w1 = w2 := by rw [W1, W2, st0, st1, e6, e7, e8', e13, hp, fl_Vx ok.1.2.2.2 (by omega) (by omega) hcv]
  have I1 := fl_Am (U.1.1.trans n1) hw1 (fun y hy => (fl_wmm ok hk4 hy).trans W1.symm) hcur
  have wb : -5000 ≤ w2.toInt ∧ w2.toInt ≤ 5000 := by rw [W2]; exact fl_wb hs1
  rw [← g6, ← g16] at hi2
  have I2 := fl_Ac wb D1.2.2.2.2 D1.2.2.2.1 k6.1 hi2
  have ei : i2 = i := by rw [I1, I2, e9, e6, ew]
  have ib := fl_Ab (spa := f 16) (hot := f 6) (tmp := (x k).1 9) (chg := (x k).1 6) wb D1.2.2.2.2 D1.2.2.2.1 k6.1
  rw [← I2, ei] at ib
  rw [ei] at hpc
  obtain ⟨a1, ⟨a4, a5, a6, a7, a8, a9, a16, a17, a18⟩, ab, ⟨t0, t1, tt2, t3, t4, t5, t6⟩, to, ao, ar, nb, n4, n5⟩ := fl_md ok hp hcv g0 g1 g2 g3 g7 C ⟨ib.1, ib.2.1⟩ (by rw [e6]; exact ib.2.2) hfl hpm hf3 hpc hpm2 hcf
  have e4 := e 4 (by unfold fl_e; omega)
  have e5 := e 5 (by unfold fl_e; omega)
  have e38 := e 38 (by unfold fl_e; omega)
  have l3 : rf_of f3 (Int32.ofNat k) 3 = (x k).1 3 := (a1 3 (by omega)).trans ua.2.1
  have one : (1 : Int32).toInt = 1 := by decide
  have ec0 : ∀ {a b : Int32}, a - b = 0 → a = b := fun {a b} h => by rw [← Int32.sub_add_cancel a b, h, Int32.zero_add]
  have key : ∃ f4 : Nat → Int32, (∀ J : Nat, J ≠ 38 → rf_of f4 (Int32.ofNat k) J = rf_of f3 (Int32.ofNat k) J) ∧ rf_of f4 (Int32.ofNat k) 38 = mm ∧ fl_out (Int32.ofNat k) f3 f4 ∧ fl_rec f3 f4 ∧ ∃ f5 : Nat → Int32, q_X11_warns f4 (Int32.ofNat k) f5 ∧ ∃ (me6 : Int32) (f6 : Nat → Int32) (t6 : Nat → Int64), q_X11_watches men f5 G t2 (Int32.ofNat k) me6 f6 t6 ∧ men1 = me6 ∧ f1 = f6 ∧ t = t6 := by
    rcases (hr.resolve_right (fun y => y.1 ((a1 0 (by omega)).trans (U.1.1.trans n1)))).2 with ⟨z1, hr⟩ | ⟨z1, ⟨z2, hr⟩ | ⟨z2, f4, h4, hr⟩⟩
    · refine ⟨f3, fun _ _ => rfl, ?_, fl_outr, fl_recr, hr⟩
      rcases hmm with ⟨q1, _⟩ | ⟨q1, _⟩
      · rw [q1, a1 38 (by omega)]; exact e38
      · exact absurd (l3.trans q1) z1
    · refine ⟨f3, fun _ _ => rfl, ?_, fl_outr, fl_recr, hr⟩
      rw [a4, e4] at z2
      rcases hmm with ⟨q1, _⟩ | ⟨_, q1, _⟩
      · rw [q1, a1 38 (by omega)]; exact e38
      · exact absurd (ec0 z2) q1
    · have r4 : rf_of f4 (Int32.ofNat k) = upd (rf_of f3 (Int32.ofNat k)) 38 (((rf_of f3 (Int32.ofNat k) 5 - rf_of f (Int32.ofNat k) 5) * 1000) / (rf_of f3 (Int32.ofNat k) 4 - rf_of f (Int32.ofNat k) 4)) := by rw [h4, fl_ofu]
      refine ⟨f4, fun J hJ => ?_, ?_, ?_, ?_, hr⟩
      · rw [r4]; exact rf_upd_ne hJ
      · rw [r4, rf_upd_eq, a4, a5, e4, e5]
        rw [a4, e4] at z2
        rcases hmm with ⟨_, q1 | q1⟩ | ⟨_, _, q, q1, q2⟩
        · exact absurd (l3.symm.trans z1) q1
        · rw [q1, Int32.sub_self] at z2; exact absurd rfl z2
        · have e5s : (vol1 - (x k).1 5).toInt = vol1.toInt - ((x k).1 5).toInt := Jvm.Kit.i32_sub (by omega) (by omega)
          rw [q2]
          exact (fl_rq (by omega) z2 q1).symm
      · rw [h4]; exact fl_outu (by omega)
      · rw [h4]; exact fl_recu hc (by omega)
  obtain ⟨f4, k4, k38, o4, c4, f5, hwn, me6, f6, t9, hwt, y1, y2, y3⟩ := key
  obtain ⟨w5, o5, c5⟩ := fl_ws hc hwn
  obtain ⟨x37, x36⟩ := fl_wa hwa
  have k5 : ∀ J : Nat, J < 54 → J ≠ 36 → J ≠ 37 → rf_of f5 (Int32.ofNat k) J = rf_of f4 (Int32.ofNat k) J := fun J hJ j1 j2 => by
    rw [w5 J hJ, rf_upd_ne j2, rf_upd_ne j1]
  have k53 : ∀ J : Nat, J < 54 → J ≠ 36 → J ≠ 37 → J ≠ 38 → rf_of f5 (Int32.ofNat k) J = rf_of f3 (Int32.ofNat k) J := fun J hJ j1 j2 j3 => (k5 J hJ j1 j2).trans (k4 J j3)
  have o45 : fl_out (Int32.ofNat k) f f4 := fl_outt ao o4
  have of5 : fl_out (Int32.ofNat k) f f5 := fl_outt o45 o5
  have rc5 : fl_rec f f5 := fl_rect (fun j hj => ar j (by omega)) (fl_rect c4 c5)
  have sv : ∀ j : Nat, j < 244 → j ≠ 12 → j ≠ 17 → f4 j = f j := fl_outs o45
  have sv5 : ∀ j : Nat, j < 244 → j ≠ 12 → j ≠ 17 → f5 j = f j := fl_outs of5
  have e36 := e 36 (by unfold fl_e; omega)
  have e37 := e 37 (by unfold fl_e; omega)
  have fl_w36 : rf_of f5 (Int32.ofNat k) 36 = wct9 := by
    rw [w5 36 (by omega), rf_upd_ne (by omega), rf_upd_eq, k4 5 (by omega), k4 9 (by omega), k4 37 (by omega), k4 36 (by omega), a1 37 (by omega), a1 36 (by omega), e36, e37, a5, a9, sv 13 (by omega) (by omega) (by omega), sv 14 (by omega) (by omega) (by omega), sv 15 (by omega) (by omega) (by omega), g13, g14, g15]
    exact x36.symm
  have fl_w37 : rf_of f5 (Int32.ofNat k) 37 = wfo9 := by
    rw [w5 37 (by omega), rf_upd_eq, k4 5 (by omega), k4 9 (by omega), a5, a9, sv 13 (by omega) (by omega) (by omega), sv 14 (by omega) (by omega) (by omega), sv 15 (by omega) (by omega) (by omega), g13, g14, g15]
    exact x37.symm
  rw [n1] at U
  have U5 : fl_U f5 t2 (Int32.ofNat k) 1 ((x k).1 1) ((x k).1 2) ((x k).1 3) ((x k).1 39) ((x k).1 21) ((x k).2.1 4) ((x k).2.1 5) ((x k).2.1 6) cin1 cou1 ((x k).2.2 0) ((x k).2.2 1) := fl_Ug Nw.2 U (fun J hJ => (k53 J (by omega) (by omega) (by omega) (by omega)).trans (a1 J (by omega))) t0 t1 t4 t5 t6
  have R5 : fl_R tt f5 va := fl_Rw R rc5 rfl rfl rfl
  obtain ⟨u, ⟨r10, r19, r20⟩, sw, ow, tw, h01, RX, mE, nx⟩ := fl_wt hc p1 hP4 (fl_Pgo hP4 of5 pg) p4 p5 p6 p7 Nw Nh ((k53 4 (by omega) (by omega) (by omega) (by omega)).trans a4) ((k53 5 (by omega) (by omega) (by omega) (by omega)).trans a5) ((k53 6 (by omega) (by omega) (by omega) (by omega)).trans a6) ((k53 9 (by omega) (by omega) (by omega) (by omega)).trans a9)
    (((k53 10 (by omega) (by omega) (by omega) (by omega)).trans (a1 10 (by omega))).trans (e 10 (by unfold fl_e; omega))) (((k53 19 (by omega) (by omega) (by omega) (by omega)).trans (a1 19 (by omega))).trans (e 19 (by unfold fl_e; omega))) (((k53 20 (by omega) (by omega) (by omega) (by omega)).trans (a1 20 (by omega))).trans (e 20 (by unfold fl_e; omega)))
    ((sv5 4 (by omega) (by omega) (by omega)).trans g4) ((sv5 5 (by omega) (by omega) (by omega)).trans g5) ((sv5 6 (by omega) (by omega) (by omega)).trans g6) (fun y => (sv5 8 (by omega) (by omega) (by omega)).trans (e8 y)) R5 rfl rfl rfl U5 hwt htl
  obtain ⟨⟨Q0, Q1, Q2, Q3, Q39, Q21, Qb4, Qb5, Qb6⟩, ⟨Q6, Q16, Q7, Q18, Q8, Q9, Q17, Q4, Q5⟩, ⟨Qc0, Qc1, Qc2, Qc3⟩, ⟨Q19, Q20, Q38, Q10, Q37, Q36⟩, Qf3, Qf0, Qf1⟩ := fl_q1 eq1
  obtain ⟨V1, V2, V3, _⟩ := fl_v1 ev1
  rw [y1, y2, y3]
  refine ⟨⟨?_, fun J hJ => ?_, ?_, ?_, fun j hj => ?_⟩, ⟨?_, ?_, ⟨?_, ?_⟩, ?_, ?_⟩, ?_, RX _ V1 V2 V3, fl_outt of5 ow, fun j hj => (tw.1 j hj).trans (to j hj), mE, fun J h1 h2 => ((sw J (by unfold fl_sw; omega)).trans (k53 J (by omega) (by omega) (by omega) (by omega))).trans (a1 J (by omega))⟩
  · rw [Q0, Q1, Q2, Q3, Q39, Q21, Qb4, Qb5, Qb6, Qc0, Qc1, Qf0, Qf1, b_cin9, b_cou9]
    exact u
  · rcases (by unfold fl_e at hJ; omega : J = 4 ∨ J = 5 ∨ J = 6 ∨ J = 7 ∨ J = 8 ∨ J = 9 ∨ J = 10 ∨ J = 12 ∨ J = 13 ∨ J = 14 ∨ J = 15 ∨ J = 16 ∨ J = 17 ∨ J = 18 ∨ J = 19 ∨ J = 20 ∨ J = 36 ∨ J = 37 ∨ J = 38) with z | z | z | z | z | z | z | z | z | z | z | z | z | z | z | z | z | z | z
    · subst z; rw [Q4, b_cun9]; exact ((sw 4 (by unfold fl_sw; omega)).trans (k53 4 (by omega) (by omega) (by omega) (by omega))).trans a4
    · subst z; rw [Q5, b_vol9]; exact ((sw 5 (by unfold fl_sw; omega)).trans (k53 5 (by omega) (by omega) (by omega) (by omega))).trans a5
    · subst z; rw [Q6, b_chg9]; exact ((sw 6 (by unfold fl_sw; omega)).trans (k53 6 (by omega) (by omega) (by omega) (by omega))).trans a6
    · subst z; rw [Q7, b_cap9]; exact ((sw 7 (by unfold fl_sw; omega)).trans (k53 7 (by omega) (by omega) (by omega) (by omega))).trans a7
    · subst z; rw [Q8, b_pz9]; exact ((sw 8 (by unfold fl_sw; omega)).trans (k53 8 (by omega) (by omega) (by omega) (by omega))).trans a8
    · subst z; rw [Q9, b_tmp9]; exact ((sw 9 (by unfold fl_sw; omega)).trans (k53 9 (by omega) (by omega) (by omega) (by omega))).trans a9
    · subst z; rw [Q10]; exact r10
    · subst z; rw [sc.1 12 (by omega) (by omega)]; exact (((sw 12 (by unfold fl_sw; omega)).trans (k53 12 (by omega) (by omega) (by omega) (by omega))).trans (a1 12 (by omega))).trans (e 12 (by unfold fl_e; omega))
    · subst z; rw [sc.1 13 (by omega) (by omega)]; exact (((sw 13 (by unfold fl_sw; omega)).trans (k53 13 (by omega) (by omega) (by omega) (by omega))).trans (a1 13 (by omega))).trans (e 13 (by unfold fl_e; omega))
    · subst z; rw [sc.1 14 (by omega) (by omega)]; exact (((sw 14 (by unfold fl_sw; omega)).trans (k53 14 (by omega) (by omega) (by omega) (by omega))).trans (a1 14 (by omega))).trans (e 14 (by unfold fl_e; omega))
    · subst z; rw [sc.1 15 (by omega) (by omega)]; exact (((sw 15 (by unfold fl_sw; omega)).trans (k53 15 (by omega) (by omega) (by omega) (by omega))).trans (a1 15 (by omega))).trans (e 15 (by unfold fl_e; omega))
    · subst z; rw [Q16, b_lft9]; exact ((sw 16 (by unfold fl_sw; omega)).trans (k53 16 (by omega) (by omega) (by omega) (by omega))).trans a16
    · subst z; rw [Q17, b_het9]; exact ((sw 17 (by unfold fl_sw; omega)).trans (k53 17 (by omega) (by omega) (by omega) (by omega))).trans a17
    · subst z; rw [Q18, b_thr9]; exact ((sw 18 (by unfold fl_sw; omega)).trans (k53 18 (by omega) (by omega) (by omega) (by omega))).trans a18
    · subst z; rw [Q19]; exact r19
    · subst z; rw [Q20]; exact r20
    · subst z; rw [Q36]; exact (sw 36 (by unfold fl_sw; omega)).trans fl_w36
    · subst z; rw [Q37]; exact (sw 37 (by unfold fl_sw; omega)).trans fl_w37
    · subst z; rw [Q38, b_mre9]; exact ((sw 38 (by unfold fl_sw; omega)).trans (k5 38 (by omega) (by omega) (by omega))).trans k38
  · rw [Qc2, b_ein9]; exact (tw.2 2 (by omega)).trans tt2
  · rw [Qc3, b_eou9]; exact (tw.2 3 (by omega)).trans t3
  · rw [Qf3, b_fbd9]; exact ((sw _ (by unfold fl_sw; omega)).trans (k53 _ (by omega) (by omega) (by omega) (by omega))).trans (ab j hj)
  · rw [sc.1 12 (by omega) (by omega), sc.1 13 (by omega) (by omega), sc.1 14 (by omega) (by omega), sc.1 15 (by omega) (by omega)]; exact N1
  · rw [sc.1 12 (by omega) (by omega), Q6, Q7, Q16, Q18, Q8, b_chg9, b_cap9, b_lft9, b_thr9, b_pz9]; exact nb
  · rw [Q4, b_cun9]; exact n4
  · rw [Q5, b_vol9]; exact n5
  · rw [Q21]; exact h01
  · rw [Q39]
    rcases nx with ⟨_, _, _, z, _⟩ | ⟨_, _, z, _⟩ | ⟨z1, _, _, _, z, _⟩
    · rw [z]; exact Nw
    · rw [z]; exact Nw
    · omega
  · exact fl_nxA s D A ac p1 p2 p3 p12 (nx := nx) Q0 Q1 Q2 Q39 Qf0 Qf1
/-- a tick of a channel -/
theorem fl_tk {tt : Prop} {f f1 G : Nat → Int32} {su t : Nat → Int64} {men men1 r : Int32} {k : Nat} {qa1 : fw_C} {va va1 : fw_W} {x : Nat → fw_C} (s : sd f va x) (D : fl_D f) (hk : (k : Int) < (f 9).toInt) (C : fl_C f su k (x k)) (N : fl_nu (x k)) (A : fl_PA va (x k)) (R : fl_R tt f va) (e8 : tt → f 8 = va.1 8) (hr : q_X11_goes men f G su (Int32.ofNat k) men1 f1 t) (hb : t_tick k (x k) va r qa1 va1) : fl_C f1 t k qa1 ∧ fl_nu qa1 ∧ fl_PA va qa1 ∧ fl_R tt f1 va1 ∧ fl_out (Int32.ofNat k) f f1 ∧ (∀ j : Nat, (j < 7 * (Int32.ofNat k).toInt.toNat ∨ 7 * (Int32.ofNat k).toInt.toNat + 7 ≤ j) → t j = su j) ∧ men1 = (if r = 0 then men else men + 1) ∧ (∀ J : Nat, 11 ≤ J → J ≤ 15 → rf_of f1 (Int32.ofNat k) J = rf_of f (Int32.ofNat k) J) := by
  by_cases n1 : (x k).1 0 = 1
  · exact fl_tk1 s D hk C N A R e8 n1 hr hb
  · exact fl_tk0 s D hk C N A R e8 n1 hr hb
/-! the whole state of both sides -/
def fl_Z (tt : Prop) (f : Nat → Int32) (su : Nat → Int64) (W : fw_W) (x : Nat → fw_C) : Prop :=
  sd f W x ∧ fl_D f ∧ (tt → f 8 = W.1 8) ∧ fl_R tt f W ∧ ∀ k : Nat, (k : Int) < (f 9).toInt → fl_C f su k (x k) ∧ fl_nu (x k) ∧ fl_PA W (x k)
theorem fl_Dk {f g : Nat → Int32} {W : fw_W} {x : Nat → fw_C} (s : sd f W x) (a : fl_sm f g) (D : fl_D f) : fl_D g := by
  obtain ⟨_, ⟨b9, b10, b11⟩, c, p, _⟩ := s
  obtain ⟨d1, d2, d3⟩ := D
  unfold fl_D
  rw [a 0 (by omega) (by omega) (by omega), a 1 (by omega) (by omega) (by omega), a 2 (by omega) (by omega) (by omega), a 6 (by omega) (by omega) (by omega), a 16 (by omega) (by omega) (by omega), a 10 (by omega) (by omega) (by omega), a 11 (by omega) (by omega) (by omega)]
  refine ⟨d1, fun v hv j hj => ?_, fun q hq => ?_⟩
  · obtain ⟨n, n1, n2, n3, _⟩ := c v (by omega)
    rw [a (27 + 19 * v) (by omega) (by omega) (by omega)] at hj
    have hj2 := hj
    rw [n3, fl_on (by omega)] at hj2
    rw [a (28 + 19 * v + j) (by omega) (by omega) (by omega)]
    exact d2 v hv j hj
  · obtain ⟨e1, e2⟩ := d3 q hq
    rw [a (96 + 37 * q) (by omega) (by omega) (by omega)]
    refine ⟨e1, fun j hj => ?_⟩
    rw [a (97 + 37 * q + 3 * j) (by omega) (by omega) (by omega), a (98 + 37 * q + 3 * j) (by omega) (by omega) (by omega), a (99 + 37 * q + 3 * j) (by omega) (by omega) (by omega)]
    exact e2 j hj
theorem fl_Ck {f g : Nat → Int32} {su t : Nat → Int64} {k : Nat} {q : fw_C} (a : ∀ J : Nat, J < 54 → rf_of g (Int32.ofNat k) J = rf_of f (Int32.ofNat k) J) (b : ∀ j : Nat, j < 7 → t (7 * (Int32.ofNat k).toInt.toNat + j) = su (7 * (Int32.ofNat k).toInt.toNat + j)) (hw : (q.1 39).toInt ≤ 4) (C : fl_C f su k q) : fl_C g t k q := by
  obtain ⟨⟨⟨u0, u1, u39, u21⟩, ut, uq, ⟨us0, us1, us4, us5⟩, ua, un⟩, e, c2, c3, cb⟩ := C
  exact ⟨⟨⟨(a 0 (by omega)).trans u0, (a 1 (by omega)).trans u1, (a 39 (by omega)).trans u39, (a 21 (by omega)).trans u21⟩, fun j hj => (a _ (by omega)).trans (ut j hj), fun j hj => (a _ (by omega)).trans (uq j hj), ⟨(b 0 (by omega)).trans us0, (b 1 (by omega)).trans us1, (b 4 (by omega)).trans us4, (b 5 (by omega)).trans us5⟩, fun z => ⟨(a 2 (by omega)).trans (ua z).1, (a 3 (by omega)).trans (ua z).2.1, (b 6 (by omega)).trans (ua z).2.2⟩, fun z => ⟨(a 2 (by omega)).trans (un z).1, (a 3 (by omega)).trans (un z).2⟩⟩,
    fun J hJ => (a J (by unfold fl_e at hJ; omega)).trans (e J hJ), (b 2 (by omega)).trans c2, (b 3 (by omega)).trans c3, fun j hj => (a _ (by omega)).trans (cb j hj)⟩
theorem fl_PAk {W V : fw_W} {q : fw_C} (w : sd_W W V) (h4 : (W.1 10).toInt ≤ 4) (A : fl_PA W q) : fl_PA V q := by
  obtain ⟨w1, _, _, w2, w3, _⟩ := w
  have w10 := w1 10 (by omega)
  obtain ⟨a1, a2, a3⟩ := A
  unfold fl_PA
  rw [w10]
  refine ⟨fun z => ?_, a2, ?_⟩
  · obtain ⟨P, n, S, p1, p2, p3, p12, p4, p5, p6, p7⟩ := a1 z
    refine ⟨P, n, S, p1, p2, (w2 P (by omega)).trans p3, p12, p4, p5, fun j hj h => p6 j hj ((w3 3 (by omega) (by omega) _ (by omega)).symm.trans h), fun h => p7 ((w3 3 (by omega) (by omega) _ (by omega)).symm.trans h)⟩
  · rcases a3 with z | ⟨P, n, p1, p2, p3, p12, h⟩
    · exact Or.inl z
    · exact Or.inr ⟨P, n, p1, p2, (w2 P (by omega)).trans p3, p12, h⟩
theorem fl_Wx {x : Nat → fw_C} {k j : Nat} {c : fw_C} : fw_sx x k c j = if j = k then c else x j := rfl
/-- one channel moves, the rest stays -/
theorem fl_Zc {tt : Prop} {f f1 : Nat → Int32} {su t : Nat → Int64} {k : Nat} {qa1 : fw_C} {W W1 : fw_W} {x : Nat → fw_C} (Z : fl_Z tt f su W x) (hk : (k : Int) < (f 9).toInt) (o1 : fl_out (Int32.ofNat k) f f1) (t1 : ∀ j : Nat, (j < 7 * (Int32.ofNat k).toInt.toNat ∨ 7 * (Int32.ofNat k).toInt.toNat + 7 ≤ j) → t j = su j) (k1 : ∀ J : Nat, 11 ≤ J → J ≤ 15 → rf_of f1 (Int32.ofNat k) J = rf_of f (Int32.ofNat k) J)
    (d1 : sd_W W W1) (d2 : sd_C (x k) qa1) (w8 : W1.1 8 = W.1 8) (R1 : fl_R tt f1 W1) (C1 : fl_C f1 t k qa1) (N1 : fl_nu qa1) (A1 : fl_PA W qa1) : fl_Z tt f1 t W1 (fw_sx x k qa1) ∧ f1 9 = f 9 := by
  obtain ⟨s, D, e8, R, Q⟩ := Z
  have b9 := s.2.1.1
  have b10 := s.2.1.2.1
  have g10 := s.1.2.2.2.1
  have ek : (Int32.ofNat k).toInt = k := fl_on (by omega)
  have ekn : (Int32.ofNat k).toInt.toNat = k := by omega
  have sm := fl_outs o1
  have f9 : f1 9 = f 9 := sm 9 (by omega) (by omega) (by omega)
  have f8 : f1 8 = f 8 := sm 8 (by omega) (by omega) (by omega)
  have fs : sd_f f f1 := by
    refine ⟨fun j h1 h2 h3 h4 => sm j h1 h3 (by omega), fun i j hi h1 h2 => ?_⟩
    by_cases z : i = k
    · subst z
      have h := k1 (j - (244 + 54 * i)) (by omega) (by omega)
      unfold rf_of at h
      rw [ekn, show 244 + 54 * i + (j - (244 + 54 * i)) = j from by omega] at h
      exact h
    · exact o1 j (by omega) (by omega) (by omega) (by omega)
  refine ⟨⟨sd_to s fs d1 (sd_Xs d2), fl_Dk s sm D, fun y => f8.trans ((e8 y).trans w8.symm), R1, fun i hi => ?_⟩, f9⟩
  rw [f9] at hi
  rw [fl_Wx]
  by_cases z : i = k
  · subst z
    rw [if_pos rfl]
    exact ⟨C1, N1, fl_PAk d1 (by rw [← g10]; exact b10.2) A1⟩
  · rw [if_neg z]
    obtain ⟨C2, N2, A2⟩ := Q i hi
    have ei : (Int32.ofNat i).toInt = i := fl_on (by omega)
    have ein : (Int32.ofNat i).toInt.toNat = i := by omega
    exact ⟨fl_Ck (fun J hJ => o1 _ (by omega) (by omega) (by omega) (by omega)) (fun j hj => t1 _ (by omega)) N2.2.2.2.2.2 C2, N2, fl_PAk d1 (by rw [← g10]; exact b10.2) A2⟩
/-- a channel's tick in the whole state -/
theorem fl_zk {tt : Prop} {f f1 G : Nat → Int32} {su t : Nat → Int64} {men men1 r : Int32} {k : Nat} {qa1 : fw_C} {W W1 : fw_W} {x : Nat → fw_C} (Z : fl_Z tt f su W x) (hk : (k : Int) < (f 9).toInt) (hr : q_X11_goes men f G su (Int32.ofNat k) men1 f1 t) (hb : t_tick k (x k) W r qa1 W1) :
    fl_Z tt f1 t W1 (fw_sx x k qa1) ∧ men1 = (if r = 0 then men else men + 1) ∧ f1 9 = f 9 := by
  have ZZ := Z
  obtain ⟨s, D, e8, R, Q⟩ := ZZ
  obtain ⟨C, N, A⟩ := Q k hk
  obtain ⟨C1, N1, A1, R1, o1, t1, m1, k1⟩ := fl_tk s D hk C N A R e8 hr hb
  obtain ⟨d1, d2⟩ := d_tick hb
  have w8 : W1.1 8 = W.1 8 := by
    unfold t_tick at hb
    obtain ⟨_, _, _, _, _, _, _, _, _, _, _, _, _, _, _, _, _, _, _, _, _, _, _, _, _, _, _, _, _, _, _, _, _, _, _, _, _, _, _, ev1⟩ := hb
    exact (fl_v1 ev1).2.2.2
  obtain ⟨Z1, f9⟩ := fl_Zc Z hk o1 t1 k1 d1 d2 w8 R1 C1 N1 A1
  exact ⟨Z1, m1, f9⟩
/-- all channels' tick -/
theorem fl_gs {tt : Prop} {G : Nat → Int32} : ∀ (n : Nat) {f f1 : Nat → Int32} {su t : Nat → Int64} {men men1 e e1 : Int32} {W W1 : fw_W} {x x1 : Nat → fw_C}, (n : Int) ≤ (f 9).toInt → fl_Z tt f su W x → men = e → q_gs G n men f su men1 f1 t → fw_cs n x W e x1 W1 e1 → fl_Z tt f1 t W1 x1 ∧ men1 = e1 ∧ f1 9 = f 9
  | 0, f, f1, su, t, men, men1, e, e1, W, W1, x, x1, hn, Z, hm, h, g => by
    obtain ⟨h1, h2, h3⟩ := h
    obtain ⟨g1, g2, g3⟩ := g
    rw [h1, h2, h3, g1, g2, g3]
    exact ⟨Z, hm, rfl⟩
  | n + 1, f, f1, su, t, men, men1, e, e1, W, W1, x, x1, hn, Z, hm, h, g => by
    obtain ⟨m2, f2, s2, h1, h2⟩ := h
    obtain ⟨x2, W2, e2, r, c, g1, g2, g3, g4⟩ := g
    obtain ⟨Z2, q2, q3⟩ := fl_gs n (by omega) Z hm h1 g1
    obtain ⟨Z1, q4, q5⟩ := fl_zk Z2 (by rw [q3]; omega) h2 g2
    rw [g3, g4]
    refine ⟨Z1, ?_, q5.trans q3⟩
    rw [q4, q2, show Int32.ofInt 1 = (1 : Int32) from by decide]
theorem fl_cp {x : Nat → fw_C} {W : fw_W} {e : Int32} : ∀ (m : Nat) {n : Nat} {x1 : Nat → fw_C} {W1 : fw_W} {e1 : Int32}, fw_cs (n + m) x W e x1 W1 e1 → ∃ (x2 : Nat → fw_C) (W2 : fw_W) (e2 : Int32), fw_cs n x W e x2 W2 e2
  | 0, n, x1, W1, e1, h => ⟨x1, W1, e1, h⟩
  | m + 1, n, x1, W1, e1, h => by
    obtain ⟨x2, W2, e2, _, _, h1, _⟩ := h
    exact fl_cp m h1
/-- the time goes on -/
theorem fl_Zt {tt : Prop} {f : Nat → Int32} {su : Nat → Int64} {W : fw_W} {x : Nat → fw_C} {v w : Int32} (Z : fl_Z tt f su W x) (h : tt → v = w) : fl_Z tt (upd f 8 v) su (fw_si W 8 w) x := by
  obtain ⟨s, D, e8, R, Q⟩ := Z
  have n : ∀ j : Nat, j ≠ 8 → upd f 8 v j = f j := fun j hj => rf_upd_ne hj
  have dW : sd_W W (fw_si W 8 w) := sd_Wsi sd_Wr (Or.inl rfl)
  have g10 := s.1.2.2.2.1
  have b10 := s.2.1.2.1
  refine ⟨sd_to s ⟨fun j _ h2 _ _ => n j h2, fun i j _ h1 _ => n j (by omega)⟩ dW sd_Xr, ?_, fun y => ?_, fl_Rw R (fun j hj => n j (by omega)) rfl rfl rfl, fun k hk => ?_⟩
  · obtain ⟨d1, d2, d3⟩ := D
    unfold fl_D
    rw [n 0 (by omega), n 1 (by omega), n 2 (by omega), n 6 (by omega), n 16 (by omega), n 10 (by omega), n 11 (by omega)]
    refine ⟨d1, fun v hv j hj => ?_, fun q hq => ?_⟩
    · rw [n _ (by omega)] at hj
      rw [n _ (by omega)]
      exact d2 v hv j hj
    · rw [n _ (by omega)]
      refine ⟨(d3 q hq).1, fun j hj => ?_⟩
      rw [n _ (by omega), n _ (by omega), n _ (by omega)]
      exact (d3 q hq).2 j hj
  · rw [rf_upd_eq]
    exact h y
  · rw [n 9 (by omega)] at hk
    obtain ⟨C, N, A⟩ := Q k hk
    exact ⟨fl_Ck (fun J hJ => n _ (by omega)) (fun _ _ => rfl) N.2.2.2.2.2 C, N, fl_PAk dW (by rw [← g10]; exact b10.2) A⟩
/-- many ticks -/
theorem fl_ta {tt : Prop} {G : Nat → Int32} : ∀ (n : Nat) {f f1 : Nat → Int32} {su t : Nat → Int64} {men men1 e e1 : Int32} {W W1 : fw_W} {x x1 : Nat → fw_C}, f 9 = G 9 → fl_Z tt f su W x → men = e → q_ta G n men f su men1 f1 t → fw_as n x W e x1 W1 e1 → fl_Z tt f1 t W1 x1 ∧ men1 = e1 ∧ f1 9 = f 9
  | 0, f, f1, su, t, men, men1, e, e1, W, W1, x, x1, hG, Z, hm, h, g => by
    obtain ⟨h1, h2, h3⟩ := h
    obtain ⟨g1, g2, g3⟩ := g
    rw [h1, h2, h3, g1, g2, g3]
    exact ⟨Z, hm, rfl⟩
  | n + 1, f, f1, su, t, men, men1, e, e1, W, W1, x, x1, hG, Z, hm, h, g => by
    obtain ⟨m2, f2, s2, h1, h2⟩ := h
    obtain ⟨x2, W2, e2, g1, g2⟩ := g
    obtain ⟨Z2, q2, q3⟩ := fl_ta n hG Z hm h1 g1
    obtain ⟨_, _, y, m3, f3, s3, ⟨⟨y0, y1⟩, hg⟩, y2, k1, k2, k3⟩ := h2
    have e8n : (8 : Int32).toNatClampNeg = 8 := by decide
    rw [e8n] at hg
    have Z3 : fl_Z tt (upd f2 8 (f2 8 + 1)) s2 (fw_si W2 8 (W2.1 8 + 1)) x2 := fl_Zt Z2 (fun z => by rw [Z2.2.2.1 z])
    have e9 : W2.1 9 = f2 9 := Z2.1.1.2.2.1.symm
    have n9 : (upd f2 8 (f2 8 + 1)) 9 = f2 9 := rf_upd_ne (by omega)
    have hle : (y.toInt.toNat : Int) ≤ ((upd f2 8 (f2 8 + 1)) 9).toInt := by rw [n9, q3, hG]; omega
    rw [e9] at g2
    rw [← hG, ← q3] at y1
    obtain ⟨x5, W5, e5, g5⟩ := fl_cp ((f2 9).toInt.toNat - y.toInt.toNat) (n := y.toInt.toNat) (by rw [show y.toInt.toNat + ((f2 9).toInt.toNat - y.toInt.toNat) = (f2 9).toInt.toNat from by omega]; exact g2)
    have f39 : f3 9 = f2 9 := ((fl_gs _ hle Z3 q2 hg g5).2.2).trans n9
    have ey : y = f2 9 := by
      rw [f39, Int32.le_iff_toInt_le] at y2
      exact Int32.toInt_inj.mp (by omega)
    rw [ey] at hg
    obtain ⟨Z4, r1, r2⟩ := fl_gs _ (by rw [n9]; have := Z2.1.2.1.1; omega) Z3 q2 hg g2
    rw [k1, k2, k3]
    exact ⟨Z4, r1, (r2.trans n9).trans q3⟩
