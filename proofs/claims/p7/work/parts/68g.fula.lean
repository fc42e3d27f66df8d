/-! a channel on both sides: its tick -/
theorem fl_uc {a b : Nat → Int32} {j J : Nat} {v w : Int32} (h : a J = b J) (e : v = w) : upd a j v J = upd b j w J := sorry
theorem fl_Lb {efc lft i : Int32} (he : 0 ≤ efc.toInt ∧ efc.toInt ≤ 1000) (hl : 0 ≤ lft.toInt ∧ lft.toInt ≤ 999) (hi : -5000 ≤ i.toInt ∧ i.toInt ≤ 5000) : 0 ≤ (fl_L efc lft i).toInt ∧ (fl_L efc lft i).toInt ≤ 999 := sorry
theorem fl_Hb {fad thr i : Int32} (hf : 1 ≤ fad.toInt ∧ fad.toInt ≤ 1000000) (ht : 0 ≤ (fl_T thr i).toInt) : 0 ≤ (fl_H fad thr i).toInt ∧ (fl_H fad thr i).toInt ≤ 1000000 := sorry
theorem fl_s1 {a b i : Int64} : (a - b) + i = (a + i) - b := sorry
theorem fl_s2 {a b i : Int64} : (a - b) - i = (a - i) - b := sorry
/-- the places that are the same on both sides -/
def fl_e (J : Nat) : Prop := (4 ≤ J ∧ J ≤ 10) ∨ (12 ≤ J ∧ J ≤ 20) ∨ (36 ≤ J ∧ J ≤ 38)
/-- a channel on both sides -/
def fl_C (f : Nat → Int32) (su : Nat → Int64) (k : Nat) (q : fw_C) : Prop :=
  fl_U f su (Int32.ofNat k) (q.1 0) (q.1 1) (q.1 2) (q.1 3) (q.1 39) (q.1 21) (q.2.1 4) (q.2.1 5) (q.2.1 6) (q.2.1 0) (q.2.1 1) (q.2.2 0) (q.2.2 1) ∧
  (∀ J : Nat, fl_e J → rf_of f (Int32.ofNat k) J = q.1 J) ∧ su (7 * (Int32.ofNat k).toInt.toNat + 2) = q.2.1 2 ∧ su (7 * (Int32.ofNat k).toInt.toNat + 3) = q.2.1 3 ∧ ∀ j : Nat, j < 10 → rf_of f (Int32.ofNat k) (44 + j) = q.2.2 3 j
/-- its numbers stay in their ranges -/
def fl_nu (q : fw_C) : Prop :=
  ((100 ≤ (q.1 12).toInt ∧ (q.1 12).toInt ≤ 100000) ∧ (1 ≤ (q.1 13).toInt ∧ (q.1 13).toInt ≤ 500) ∧ (0 ≤ (q.1 14).toInt ∧ (q.1 14).toInt ≤ 500) ∧ (1 ≤ (q.1 15).toInt ∧ (q.1 15).toInt ≤ 200)) ∧
  ((0 ≤ (q.1 6).toInt ∧ (q.1 6).toInt ≤ 2 * (q.1 12).toInt) ∧ ((q.1 12).toInt / 2 ≤ (q.1 7).toInt ∧ (q.1 7).toInt ≤ (q.1 12).toInt) ∧ (0 ≤ (q.1 16).toInt ∧ (q.1 16).toInt ≤ 999) ∧ (0 ≤ (q.1 18).toInt ∧ (q.1 18).toInt ≤ 1000000) ∧ (-2500 ≤ (q.1 8).toInt ∧ (q.1 8).toInt ≤ 2500)) ∧
  ((-5000 ≤ (q.1 4).toInt ∧ (q.1 4).toInt ≤ 5000) ∧ (-300000 ≤ (q.1 5).toInt ∧ (q.1 5).toInt ≤ 300000)) ∧ (q.1 21 = 0 ∨ q.1 21 = 1) ∧ (0 ≤ (q.1 39).toInt ∧ (q.1 39).toInt ≤ 4)
/-- its program, its step, its queue -/
def fl_PA (W : fw_W) (q : fw_C) : Prop :=
  (fl_ac (q.1 0) → ∃ P n S : Nat, (q.1 1).toInt = P ∧ (P : Int) < (W.1 10).toInt ∧ W.2.1 2 P = Int32.ofNat n ∧ n ≤ 12 ∧ (q.1 2).toInt = S ∧ S < n ∧ fl_lo (fun j => W.2.1 3 (12 * P + j)) S (q.2.2 0) ∧ ¬ W.2.1 3 (12 * P + S) = 4) ∧
  (∀ j : Nat, (j : Int) < (q.1 39).toInt → 0 ≤ (q.2.2 1 j).toInt ∧ (q.2.2 1 j).toInt < (W.1 10).toInt) ∧
  ((q.1 1 = -1 ∧ ∀ j : Nat, j < 12 → q.2.2 0 j = 0) ∨ ∃ P n : Nat, (q.1 1).toInt = P ∧ (P : Int) < (W.1 10).toInt ∧ W.2.1 2 P = Int32.ofNat n ∧ n ≤ 12 ∧ ∀ j : Nat, n ≤ j → j < 12 → q.2.2 0 j = 0)
/-- what is known of the description beside its being the same -/
def fl_D (f : Nat → Int32) : Prop :=
  ((0 ≤ (f 0).toInt ∧ (f 0).toInt ≤ 1000) ∧ (1 ≤ (f 1).toInt ∧ (f 1).toInt ≤ 1000000) ∧ 1 ≤ (f 2).toInt ∧ (0 ≤ (f 6).toInt ∧ (f 6).toInt ≤ 1000) ∧ (0 ≤ (f 16).toInt ∧ (f 16).toInt ≤ 200)) ∧
  (∀ v : Nat, (v : Int) < (f 11).toInt → ∀ j : Nat, (j : Int) < (f (27 + 19 * v)).toInt → 0 ≤ (f (28 + 19 * v + j)).toInt ∧ (f (28 + 19 * v + j)).toInt ≤ 5000) ∧
  ∀ p : Nat, (p : Int) < (f 10).toInt → (1 ≤ (f (96 + 37 * p)).toInt ∧ (f (96 + 37 * p)).toInt ≤ 12) ∧ ∀ j : Nat, (j : Int) < (f (96 + 37 * p)).toInt → (0 ≤ (f (98 + 37 * p + 3 * j)).toInt ∧ (f (98 + 37 * p + 3 * j)).toInt ≤ 5000) ∧
    (f (97 + 37 * p + 3 * j) = 0 ∨ f (97 + 37 * p + 3 * j) = 1 ∨ f (97 + 37 * p + 3 * j) = 2 ∨ f (97 + 37 * p + 3 * j) = 3 ∨ (f (97 + 37 * p + 3 * j) = 4 ∧ (f (98 + 37 * p + 3 * j)).toInt < (j : Int) ∧ 1 ≤ (f (99 + 37 * p + 3 * j)).toInt))
/-- a program on both sides, and its steps -/
theorem fl_pgo {f : Nat → Int32} {W : fw_W} {x : Nat → fw_C} {P : Nat} (s : sd f W x) (D : fl_D f) (hP : (P : Int) < (f 10).toInt) :
    ∃ n : Nat, 1 ≤ n ∧ n ≤ 12 ∧ fl_Pg f (W.2.1 2) (W.2.1 3) (W.2.1 4) (W.2.1 5) P n ∧ ∀ j : Nat, j < n → (0 ≤ (W.2.1 4 (12 * P + j)).toInt ∧ (W.2.1 4 (12 * P + j)).toInt ≤ 5000) ∧ (¬ W.2.1 3 (12 * P + j) = 4 → W.2.1 3 (12 * P + j) = 0 ∨ W.2.1 3 (12 * P + j) = 1 ∨ W.2.1 3 (12 * P + j) = 2 ∨ W.2.1 3 (12 * P + j) = 3) := sorry
/-- what a tick asks of its channel -/
theorem fl_oko {f : Nat → Int32} {su : Nat → Int64} {W : fw_W} {x : Nat → fw_C} {k : Nat} (s : sd f W x) (D : fl_D f) (hk : (k : Int) < (f 9).toInt) (C : fl_C f su k (x k)) (N : fl_nu (x k)) :
    ∃ n v : Nat, fl_ok f (Int32.ofNat k) n v ∧ (x k).1 11 = Int32.ofNat n ∧ ∀ j : Nat, j < n → f (28 + 19 * v + j) = (x k).2.2 2 j := sorry
