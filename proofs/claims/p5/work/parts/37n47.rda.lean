/-- between the statements -/
def rf_L (g : Nat → Int32) : Prop := rf_st g ∧ (1 ≤ (g 1).toInt ∧ 1 ≤ (g 2).toInt) ∧ (0 ≤ (g 16).toInt ∧ (g 16).toInt ≤ 200) ∧ g 12 = 0 ∧ g 17 = 0 ∧ g 8 = 0
theorem rf_stc {g h : Nat → Int32} (s : rf_st g) (h9 : h 9 = g 9) (h10 : h 10 = g 10) (h11 : h 11 = g 11) (h0 : 0 ≤ (h 0).toInt ∧ (h 0).toInt ≤ 1000) (h6 : 0 ≤ (h 6).toInt ∧ (h 6).toInt ≤ 1000) (h12 : 1 ≤ (h 1).toInt ∧ 1 ≤ (h 2).toInt)
    (hv : ∀ v : Nat, (v : Int) < (g 11).toInt → h (27 + 19 * v) = g (27 + 19 * v)) (hr : ∀ j : Nat, 96 ≤ j → j < 244 → 0 ≤ (h j).toInt ∧ (h j).toInt ≤ 5000)
    (hp : ∀ p : Nat, (p : Int) < (g 10).toInt → ∀ j : Nat, j < 37 → h (96 + 37 * p + j) = g (96 + 37 * p + j)) (hc : ∀ c : Nat, (c : Int) < (g 9).toInt → ∀ k : Nat, 11 ≤ k → k ≤ 15 → h (244 + 54 * c + k) = g (244 + 54 * c + k)) : rf_st h := by
  obtain ⟨s1, s2, s3, s4, s5, s6, s7, s8, s9, s10⟩ := s
  refine ⟨h0, h6, by rw [h9]; exact s3, by rw [h10]; exact s4, by rw [h11]; exact s5, fun p q => ?_, fun v q => ?_, hr, fun c q => ?_, fun _ => h12⟩
  · rw [h10] at q
    have q6 := s6 p q
    have e0 : h (96 + 37 * p) = g (96 + 37 * p) := hp p q 0 (by omega)
    have e1 : h (97 + 37 * p) = g (97 + 37 * p) := by
      have e := hp p q 1 (by omega)
      rw [show 96 + 37 * p + 1 = 97 + 37 * p by omega] at e
      exact e
    rw [e0, e1]
    refine ⟨q6.1, q6.2.1, fun j h1 h2 => ?_⟩
    have a1 : h (97 + 37 * p + 3 * j) = g (97 + 37 * p + 3 * j) := by
      have e := hp p q (1 + 3 * j) (by omega)
      rw [show 96 + 37 * p + (1 + 3 * j) = 97 + 37 * p + 3 * j by omega] at e
      exact e
    have a2 : h (98 + 37 * p + 3 * j) = g (98 + 37 * p + 3 * j) := by
      have e := hp p q (2 + 3 * j) (by omega)
      rw [show 96 + 37 * p + (2 + 3 * j) = 98 + 37 * p + 3 * j by omega] at e
      exact e
    rw [a1] at h2
    rw [a2]
    exact q6.2.2 j h1 h2
  · rw [h11] at q
    rw [hv v q]
    exact s7 v q
  · rw [h9] at q
    rw [hc c q 11 (by omega) (by omega), hc c q 12 (by omega) (by omega), hc c q 13 (by omega) (by omega), hc c q 14 (by omega) (by omega), hc c q 15 (by omega) (by omega), h11]
    exact s9 c q
/-- a number that is set by a statement of its own -/
theorem rf_Lset {g : Nat → Int32} {i : Nat} {v : Int32} (h : rf_L g) (hi : (i = 0 ∧ 0 ≤ v.toInt ∧ v.toInt ≤ 1000) ∨ ((i = 1 ∨ i = 2) ∧ 1 ≤ v.toInt) ∨ (i = 6 ∧ 0 ≤ v.toInt ∧ v.toInt ≤ 1000) ∨ (i = 16 ∧ 0 ≤ v.toInt ∧ v.toInt ≤ 200) ∨ (i = 3 ∨ i = 4 ∨ i = 5 ∨ i = 7 ∨ i = 13 ∨ i = 14 ∨ i = 15)) : rf_L (upd g i v) := by
  obtain ⟨s, l1, l2, l3, l4⟩ := h
  have n : ∀ j : Nat, j ≠ i → upd g i v j = g j := fun j hj => rf_upd_ne hj
  have b : i < 20 ∧ i ≠ 9 ∧ i ≠ 10 ∧ i ≠ 11 ∧ i ≠ 12 ∧ i ≠ 17 := by omega
  have a0 : 0 ≤ (upd g i v 0).toInt ∧ (upd g i v 0).toInt ≤ 1000 := by
    by_cases e : i = 0
    · subst e
      rw [rf_upd_eq]
      omega
    · rw [n 0 (by omega)]
      exact s.1
  have a1 : 1 ≤ (upd g i v 1).toInt := by
    by_cases e : i = 1
    · subst e
      rw [rf_upd_eq]
      omega
    · rw [n 1 (by omega)]
      exact l1.1
  have a2 : 1 ≤ (upd g i v 2).toInt := by
    by_cases e : i = 2
    · subst e
      rw [rf_upd_eq]
      omega
    · rw [n 2 (by omega)]
      exact l1.2
  have a6 : 0 ≤ (upd g i v 6).toInt ∧ (upd g i v 6).toInt ≤ 1000 := by
    by_cases e : i = 6
    · subst e
      rw [rf_upd_eq]
      omega
    · rw [n 6 (by omega)]
      exact s.2.1
  have a16 : 0 ≤ (upd g i v 16).toInt ∧ (upd g i v 16).toInt ≤ 200 := by
    by_cases e : i = 16
    · subst e
      rw [rf_upd_eq]
      omega
    · rw [n 16 (by omega)]
      exact l2
  refine ⟨rf_stc s (n 9 (by omega)) (n 10 (by omega)) (n 11 (by omega)) a0 a6 ⟨a1, a2⟩ (fun w _ => n _ (by omega)) (fun j h1 h2 => ?_) (fun p _ j _ => n _ (by omega)) (fun c _ k _ _ => n _ (by omega)), ⟨a1, a2⟩, a16, ?_, ?_⟩
  · rw [n j (by omega)]
    exact s.2.2.2.2.2.2.2.1 j h1 h2
  · rw [n 12 (by omega)]
    exact l3
  · exact ⟨(n 17 (by omega)).trans l4.1, (n 8 (by omega)).trans l4.2⟩
/-- a place of an entry that isn't counted yet -/
theorem rf_Lf {g : Nat → Int32} {i : Nat} {v : Int32} (h : rf_L g) (hi : (20 + 19 * (g 11).toInt.toNat ≤ i ∧ i < 96) ∨ ((96 + 37 * (g 10).toInt.toNat ≤ i ∧ i < 244) ∧ 0 ≤ v.toInt ∧ v.toInt ≤ 5000) ∨ 244 + 54 * (g 9).toInt.toNat ≤ i) : rf_L (upd g i v) ∧ ∀ j : Nat, j < 20 → upd g i v j = g j := by
  obtain ⟨s, l1, l2, l3, l4⟩ := h
  have n : ∀ j : Nat, j ≠ i → upd g i v j = g j := fun j hj => rf_upd_ne hj
  have b : 20 ≤ i := by omega
  have m : ∀ j : Nat, j < 20 → upd g i v j = g j := fun j hj => n j (by omega)
  have c9 := s.2.2.1
  have c10 := s.2.2.2.1
  have c11 := s.2.2.2.2.1
  refine ⟨⟨rf_stc s (m 9 (by omega)) (m 10 (by omega)) (m 11 (by omega)) ?_ ?_ ?_ (fun w q => n _ (by omega)) (fun j h1 h2 => ?_) (fun p q j q2 => n _ (by omega)) (fun c q k k1 k2 => n _ (by omega)), ?_, ?_, ?_, ?_⟩, m⟩
  · rw [m 0 (by omega)]
    exact s.1
  · rw [m 6 (by omega)]
    exact s.2.1
  · rw [m 1 (by omega), m 2 (by omega)]
    exact l1
  · by_cases e : j = i
    · subst e
      rw [rf_upd_eq]
      omega
    · rw [n j e]
      exact s.2.2.2.2.2.2.2.1 j h1 h2
  · rw [m 1 (by omega), m 2 (by omega)]
    exact l1
  · rw [m 16 (by omega)]
    exact l2
  · rw [m 12 (by omega)]
    exact l3
  · exact ⟨(m 17 (by omega)).trans l4.1, (m 8 (by omega)).trans l4.2⟩
/-- one more curve, channel, program -/
theorem rf_Lm {g : Nat → Int32} {i : Nat} {v : Int32} (h : rf_L g) (hi : i = 9 ∨ i = 10 ∨ i = 11) (hv : v.toInt = (g i).toInt + 1)
    (h9 : i = 9 → (g 9).toInt < 6 ∧ (0 ≤ (g (244 + 54 * (g 9).toInt.toNat + 11)).toInt ∧ (g (244 + 54 * (g 9).toInt.toNat + 11)).toInt < (g 11).toInt) ∧ (100 ≤ (g (244 + 54 * (g 9).toInt.toNat + 12)).toInt ∧ (g (244 + 54 * (g 9).toInt.toNat + 12)).toInt ≤ 100000) ∧ (1 ≤ (g (244 + 54 * (g 9).toInt.toNat + 13)).toInt ∧ (g (244 + 54 * (g 9).toInt.toNat + 13)).toInt ≤ 500) ∧ (0 ≤ (g (244 + 54 * (g 9).toInt.toNat + 14)).toInt ∧ (g (244 + 54 * (g 9).toInt.toNat + 14)).toInt ≤ 500) ∧ 1 ≤ (g (244 + 54 * (g 9).toInt.toNat + 15)).toInt ∧ (g (244 + 54 * (g 9).toInt.toNat + 15)).toInt ≤ 200)
    (h10 : i = 10 → (g 10).toInt < 4 ∧ (1 ≤ (g (96 + 37 * (g 10).toInt.toNat)).toInt ∧ (g (96 + 37 * (g 10).toInt.toNat)).toInt ≤ 12) ∧ ∀ j : Nat, (j : Int) < (g (96 + 37 * (g 10).toInt.toNat)).toInt → g (97 + 37 * (g 10).toInt.toNat + 3 * j) = 4 → (g (98 + 37 * (g 10).toInt.toNat + 3 * j)).toInt < (j : Int))
    (h11 : i = 11 → (g 11).toInt < 4 ∧ 2 ≤ (g (27 + 19 * (g 11).toInt.toNat)).toInt ∧ (g (27 + 19 * (g 11).toInt.toNat)).toInt ≤ 11) : rf_L (upd g i v) := by
  obtain ⟨⟨s1, s2, s3, s4, s5, s6, s7, s8, s9, s10⟩, l1, l2, l3, l4⟩ := h
  have n : ∀ j : Nat, j ≠ i → upd g i v j = g j := fun j hj => rf_upd_ne hj
  have a9 : upd g i v 9 = g 9 ∨ (i = 9 ∧ (upd g i v 9).toInt = (g 9).toInt + 1) := by
    by_cases e : i = 9
    · subst e
      rw [rf_upd_eq]
      exact Or.inr ⟨rfl, hv⟩
    · exact Or.inl (n 9 (by omega))
  have a10 : upd g i v 10 = g 10 ∨ (i = 10 ∧ (upd g i v 10).toInt = (g 10).toInt + 1) := by
    by_cases e : i = 10
    · subst e
      rw [rf_upd_eq]
      exact Or.inr ⟨rfl, hv⟩
    · exact Or.inl (n 10 (by omega))
  have a11 : upd g i v 11 = g 11 ∨ (i = 11 ∧ (upd g i v 11).toInt = (g 11).toInt + 1) := by
    by_cases e : i = 11
    · subst e
      rw [rf_upd_eq]
      exact Or.inr ⟨rfl, hv⟩
    · exact Or.inl (n 11 (by omega))
  have t11 : (g 11).toInt ≤ (upd g i v 11).toInt := by
    rcases a11 with e | e
    · rw [e]
      exact Int.le_refl _
    · omega
  have r8 : ∀ j : Nat, 96 ≤ j → j < 244 → 0 ≤ (upd g i v j).toInt ∧ (upd g i v j).toInt ≤ 5000 := fun j h1 h2 => by
    rw [n j (by omega)]
    exact s8 j h1 h2
  refine ⟨⟨?_, ?_, ?_, ?_, ?_, fun p q => ?_, fun w q => ?_, r8, fun c q => ?_, fun _ => ?_⟩, ?_, ?_, ?_, ?_⟩
  · rw [n 0 (by omega)]
    exact s1
  · rw [n 6 (by omega)]
    exact s2
  · rcases a9 with e | ⟨e, e2⟩
    · rw [e]
      exact s3
    · have := (h9 e).1
      omega
  · rcases a10 with e | ⟨e, e2⟩
    · rw [e]
      exact s4
    · have := (h10 e).1
      omega
  · rcases a11 with e | ⟨e, e2⟩
    · rw [e]
      exact s5
    · have := (h11 e).1
      omega
  · have key : (1 ≤ (g (96 + 37 * p)).toInt ∧ (g (96 + 37 * p)).toInt ≤ 12) ∧ ∀ j : Nat, (j : Int) < (g (96 + 37 * p)).toInt → g (97 + 37 * p + 3 * j) = 4 → (g (98 + 37 * p + 3 * j)).toInt < (j : Int) := by
      rcases a10 with e | ⟨e, e2⟩
      · rw [e] at q
        exact ⟨(s6 p q).1, (s6 p q).2.2⟩
      · by_cases e3 : (p : Int) < (g 10).toInt
        · exact ⟨(s6 p e3).1, (s6 p e3).2.2⟩
        · have e4 : p = (g 10).toInt.toNat := by omega
          rw [e4]
          exact (h10 e).2
    have p4 : (p : Int) < 4 := by
      rcases a10 with e | ⟨e, e2⟩
      · rw [e] at q
        omega
      · have := (h10 e).1
        omega
    rw [n (96 + 37 * p) (by omega), n (97 + 37 * p) (by omega)]
    refine ⟨key.1, fun e => ?_, fun j h1 h2 => ?_⟩
    · have k0 := key.2 0 (by omega) e
      have k1 := (s8 (98 + 37 * p + 3 * 0) (by omega) (by omega)).1
      omega
    · rw [n (97 + 37 * p + 3 * j) (by omega)] at h2
      rw [n (98 + 37 * p + 3 * j) (by omega)]
      exact key.2 j h1 h2
  · rw [n (27 + 19 * w) (by omega)]
    rcases a11 with e | ⟨e, e2⟩
    · rw [e] at q
      exact s7 w q
    · by_cases e3 : (w : Int) < (g 11).toInt
      · exact s7 w e3
      · have e4 : w = (g 11).toInt.toNat := by omega
        rw [e4]
        exact (h11 e).2
  · rw [n (244 + 54 * c + 11) (by omega), n (244 + 54 * c + 12) (by omega), n (244 + 54 * c + 13) (by omega), n (244 + 54 * c + 14) (by omega), n (244 + 54 * c + 15) (by omega)]
    have key : (0 ≤ (g (244 + 54 * c + 11)).toInt ∧ (g (244 + 54 * c + 11)).toInt < (g 11).toInt) ∧ (100 ≤ (g (244 + 54 * c + 12)).toInt ∧ (g (244 + 54 * c + 12)).toInt ≤ 100000) ∧ (1 ≤ (g (244 + 54 * c + 13)).toInt ∧ (g (244 + 54 * c + 13)).toInt ≤ 500) ∧ (0 ≤ (g (244 + 54 * c + 14)).toInt ∧ (g (244 + 54 * c + 14)).toInt ≤ 500) ∧ 1 ≤ (g (244 + 54 * c + 15)).toInt ∧ (g (244 + 54 * c + 15)).toInt ≤ 200 := by
      rcases a9 with e | ⟨e, e2⟩
      · rw [e] at q
        exact s9 c q
      · by_cases e3 : (c : Int) < (g 9).toInt
        · exact s9 c e3
        · have e4 : c = (g 9).toInt.toNat := by omega
          rw [e4]
          exact (h9 e).2
    exact ⟨⟨key.1.1, by have := key.1.2; omega⟩, key.2⟩
  · rw [n 1 (by omega), n 2 (by omega)]
    exact l1
  · rw [n 1 (by omega), n 2 (by omega)]
    exact l1
  · rw [n 16 (by omega)]
    exact l2
  · rw [n 12 (by omega)]
    exact l3
  · exact ⟨(n 17 (by omega)).trans l4.1, (n 8 (by omega)).trans l4.2⟩
/-- the row at the start -/
theorem rf_Lz {h : Nat → Int32} (hz : ∀ j : Nat, j < 958 → h j = 0) : rf_L (upd (upd (upd (upd (upd (upd (upd (upd (upd h 0 990) 1 100000) 2 100) 3 5) 5 5000) 6 600) 7 250) 14 5000) 15 1000) ∧ (upd (upd (upd (upd (upd (upd (upd (upd (upd h 0 990) 1 100000) 2 100) 3 5) 5 5000) 6 600) 7 250) 14 5000) 15 1000) 9 = 0 := by
  have n : ∀ j : Nat, 15 < j → j < 958 → (upd (upd (upd (upd (upd (upd (upd (upd (upd h 0 990) 1 100000) 2 100) 3 5) 5 5000) 6 600) 7 250) 14 5000) 15 1000) j = 0 := fun j h1 h2 => by
    rw [rf_upd_ne (by omega), rf_upd_ne (by omega), rf_upd_ne (by omega), rf_upd_ne (by omega), rf_upd_ne (by omega), rf_upd_ne (by omega), rf_upd_ne (by omega), rf_upd_ne (by omega), rf_upd_ne (by omega)]
    exact hz j h2
  have w : ∀ j : Nat, (j = 8 ∨ j = 9 ∨ j = 10 ∨ j = 11 ∨ j = 12) → (upd (upd (upd (upd (upd (upd (upd (upd (upd h 0 990) 1 100000) 2 100) 3 5) 5 5000) 6 600) 7 250) 14 5000) 15 1000) j = 0 := fun j h1 => by
    rw [rf_upd_ne (by omega), rf_upd_ne (by omega), rf_upd_ne (by omega), rf_upd_ne (by omega), rf_upd_ne (by omega), rf_upd_ne (by omega), rf_upd_ne (by omega), rf_upd_ne (by omega), rf_upd_ne (by omega)]
    exact hz j (by omega)
  have z : (0 : Int32).toInt = 0 := by decide
  have b0 : (upd (upd (upd (upd (upd (upd (upd (upd (upd h 0 990) 1 100000) 2 100) 3 5) 5 5000) 6 600) 7 250) 14 5000) 15 1000) 0 = 990 := rfl
  have b1 : (upd (upd (upd (upd (upd (upd (upd (upd (upd h 0 990) 1 100000) 2 100) 3 5) 5 5000) 6 600) 7 250) 14 5000) 15 1000) 1 = 100000 := rfl
  have b2 : (upd (upd (upd (upd (upd (upd (upd (upd (upd h 0 990) 1 100000) 2 100) 3 5) 5 5000) 6 600) 7 250) 14 5000) 15 1000) 2 = 100 := rfl
  have b6 : (upd (upd (upd (upd (upd (upd (upd (upd (upd h 0 990) 1 100000) 2 100) 3 5) 5 5000) 6 600) 7 250) 14 5000) 15 1000) 6 = 600 := rfl
  generalize (upd (upd (upd (upd (upd (upd (upd (upd (upd h 0 990) 1 100000) 2 100) 3 5) 5 5000) 6 600) 7 250) 14 5000) 15 1000) = g at n w b0 b1 b2 b6 ⊢
  have g9 := w 9 (by omega)
  have g10 := w 10 (by omega)
  have g11 := w 11 (by omega)
  refine ⟨⟨⟨?_, ?_, ?_, ?_, ?_, fun p q => ?_, fun p q => ?_, fun j h1 h2 => ?_, fun c q => ?_, fun _ => ?_⟩, ?_, ?_, w 12 (by omega), n 17 (by omega) (by omega), w 8 (by omega)⟩, g9⟩
  · rw [b0]
    decide
  · rw [b6]
    decide
  · rw [g9]
    decide
  · rw [g10]
    decide
  · rw [g11]
    decide
  · rw [g10, z] at q
    omega
  · rw [g11, z] at q
    omega
  · rw [n j (by omega) (by omega), z]
    omega
  · rw [g9, z] at q
    omega
  · rw [b1, b2]
    decide
  · rw [b1, b2]
    decide
  · rw [n 16 (by omega) (by omega), z]
    omega
/-- no channel: a row like this is the row itself -/
theorem rf_LR0 {g : Nat → Int32} (h : rf_L g) (h9 : g 9 = 0) : rf_R g (-1) g := by
  have z : (0 : Int32).toInt = 0 := by decide
  refine ⟨h.1, ⟨rfl, rfl, rfl, rfl, rfl, rfl, rfl⟩, ⟨?_, h.2.2.1, ?_⟩, fun _ _ _ => rfl, fun c _ k _ q => ?_, fun c q => ?_⟩
  · rw [h.2.2.2.1, z]
    omega
  · rw [h.2.2.2.2.1, z]
    omega
  · rw [h9, z] at q
    omega
  · rw [h9, z] at q
    omega
/-- what begins() leaves in a row -/
def rf_bz (f : Nat → Int32) (P n j : Nat) : Int32 := if (P ≤ j ∧ j < P + n) ∧ (j < P + 11 ∨ P + 15 < j) then 0 else f j
def rf_bg (f h : Nat → Int32) (P : Nat) (q : Int32) : Prop := (∀ j : Nat, (j < P ∨ P + 54 ≤ j) → h j = f j) ∧ (∀ k : Nat, 11 ≤ k → k ≤ 15 → h (P + k) = f (P + k)) ∧ (h P = 0 ∧ h (P + 1) = -1 ∧ h (P + 2) = -1 ∧ h (P + 6) = q ∧ h (P + 7) = f (P + 12)) ∧ ∀ k : Nat, 16 ≤ k → k < 54 → k ≠ 19 → k ≠ 20 → k ≠ 38 → h (P + k) = 0
theorem rf_bz0 {f : Nat → Int32} {P : Nat} (j : Nat) : f j = rf_bz f P (0 : Int32).toInt.toNat j := by
  unfold rf_bz
  rw [if_neg]
  intro q
  have z : (0 : Int32).toInt = 0 := by decide
  rw [z] at q
  omega
theorem rf_o1 {y : Int32} (h : 0 ≤ y.toInt ∧ y.toInt < 54) : (y + Int32.ofInt 1).toInt = y.toInt + 1 := by
  have o : (Int32.ofInt 1).toInt = 1 := by decide
  rw [Jvm.Kit.i32_add (by rw [o]; omega) (by rw [o]; omega), o]
theorem rf_bze {p y : Int32} (hp : 244 ≤ p.toInt ∧ p.toInt ≤ 904) (hy : 0 ≤ y.toInt ∧ y.toInt < 54) : (p + y).toInt = ((p.toInt.toNat + y.toInt.toNat : Nat) : Int) := by
  rw [Jvm.Kit.i32_add (by omega) (by omega)]
  omega
theorem rf_bz1 {f c : Nat → Int32} {p y : Int32} (hp : 244 ≤ p.toInt ∧ p.toInt ≤ 904) (hy : 0 ≤ y.toInt ∧ y.toInt < 54) (h : ∀ j : Nat, c j = rf_bz f p.toInt.toNat y.toInt.toNat j) (hb : y.toInt < 11 ∨ 15 < y.toInt) : (0 ≤ (y + Int32.ofInt 1).toInt ∧ (y + Int32.ofInt 1).toInt ≤ 54) ∧ ∀ j : Nat, upd c (p + y).toNatClampNeg 0 j = rf_bz f p.toInt.toNat (y + Int32.ofInt 1).toInt.toNat j := by
  rw [rf_o1 hy, rf_nat (rf_bze hp hy)]
  refine ⟨by omega, fun j => ?_⟩
  by_cases e : j = p.toInt.toNat + y.toInt.toNat
  · subst e
    rw [rf_upd_eq]
    unfold rf_bz
    rw [if_pos (by omega)]
  · rw [rf_upd_ne e, h j]
    unfold rf_bz
    by_cases q : (p.toInt.toNat ≤ j ∧ j < p.toInt.toNat + y.toInt.toNat) ∧ (j < p.toInt.toNat + 11 ∨ p.toInt.toNat + 15 < j)
    · rw [if_pos q, if_pos (by omega)]
    · rw [if_neg q, if_neg (by omega)]
theorem rf_bz2 {f c : Nat → Int32} {p y : Int32} (hy : 0 ≤ y.toInt ∧ y.toInt < 54) (h : ∀ j : Nat, c j = rf_bz f p.toInt.toNat y.toInt.toNat j) (hb : 11 ≤ y.toInt ∧ y.toInt ≤ 15) : (0 ≤ (y + Int32.ofInt 1).toInt ∧ (y + Int32.ofInt 1).toInt ≤ 54) ∧ ∀ j : Nat, c j = rf_bz f p.toInt.toNat (y + Int32.ofInt 1).toInt.toNat j := by
  rw [rf_o1 hy]
  refine ⟨by omega, fun j => ?_⟩
  rw [h j]
  unfold rf_bz
  by_cases q : (p.toInt.toNat ≤ j ∧ j < p.toInt.toNat + y.toInt.toNat) ∧ (j < p.toInt.toNat + 11 ∨ p.toInt.toNat + 15 < j)
  · rw [if_pos q, if_pos (by omega)]
  · rw [if_neg q, if_neg (by omega)]
theorem rf_lt11 {y : Int32} (h : y < 11) : y.toInt < 11 := by
  rw [Int32.lt_iff_toInt_lt, show (11 : Int32).toInt = 11 from by decide] at h
  exact h
theorem rf_ge11 {y : Int32} (h : ¬ y < 11) : 11 ≤ y.toInt := by
  rw [Int32.lt_iff_toInt_lt, show (11 : Int32).toInt = 11 from by decide] at h
  omega
theorem rf_le15 {y : Int32} (h : y ≤ 15) : y.toInt ≤ 15 := by
  rw [Int32.le_iff_toInt_le, show (15 : Int32).toInt = 15 from by decide] at h
  exact h
theorem rf_gt15 {y : Int32} (h : ¬ y ≤ 15) : 15 < y.toInt := by
  rw [Int32.le_iff_toInt_le, show (15 : Int32).toInt = 15 from by decide] at h
  omega
theorem rf_lt54 {y : Int32} (h : ¬ 54 ≤ y) : y.toInt < 54 := by
  rw [Int32.le_iff_toInt_le, show (54 : Int32).toInt = 54 from by decide] at h
  omega
theorem rf_ge54 {y : Int32} (h : 54 ≤ y) : 54 ≤ y.toInt := by
  rw [Int32.le_iff_toInt_le, show (54 : Int32).toInt = 54 from by decide] at h
  exact h
theorem rf_bzn {p k : Int32} {n : Nat} (hp : 244 ≤ p.toInt ∧ p.toInt ≤ 904) (hk : k.toInt = n) (hn : n < 54) : (p + k).toNatClampNeg = p.toInt.toNat + n := by
  rw [rf_nat (rf_bze hp (by omega))]
  omega
theorem rf_bgl {f c : Nat → Int32} {p q v7 v9 y : Int32} (hp : 244 ≤ p.toInt ∧ p.toInt ≤ 904) (hy : (0 ≤ y.toInt ∧ y.toInt ≤ 54) ∧ ∀ j : Nat, c j = rf_bz f p.toInt.toNat y.toInt.toNat j) (hy2 : 54 ≤ y) (h7 : v7 = f (p.toInt.toNat + 12)) :
    rf_bg f (upd (upd (upd (upd (upd (upd (upd (upd c (p + 1).toNatClampNeg (-1)) (p + 2).toNatClampNeg (-1)) (p + 6).toNatClampNeg q) (p + 7).toNatClampNeg v7) (p + 19).toNatClampNeg (-1)) (p + 20).toNatClampNeg (-1)) (p + 38).toNatClampNeg (-1)) (p + 9).toNatClampNeg v9) p.toInt.toNat q := by
  have e54 := rf_ge54 hy2
  have en : y.toInt.toNat = 54 := by omega
  have h := hy.2
  rw [en] at h
  rw [rf_bzn hp (n := 1) (by decide) (by omega), rf_bzn hp (n := 2) (by decide) (by omega), rf_bzn hp (n := 6) (by decide) (by omega), rf_bzn hp (n := 7) (by decide) (by omega), rf_bzn hp (n := 19) (by decide) (by omega), rf_bzn hp (n := 20) (by decide) (by omega), rf_bzn hp (n := 38) (by decide) (by omega), rf_bzn hp (n := 9) (by decide) (by omega)]
  generalize p.toInt.toNat = P at h h7 ⊢
  refine ⟨fun j hj => ?_, fun k k1 k2 => ?_, ⟨?_, ?_, ?_, ?_, ?_⟩, fun k k1 k2 k3 k4 k5 => ?_⟩
  · rw [rf_upd_ne (by omega), rf_upd_ne (by omega), rf_upd_ne (by omega), rf_upd_ne (by omega), rf_upd_ne (by omega), rf_upd_ne (by omega), rf_upd_ne (by omega), rf_upd_ne (by omega), h j]
    unfold rf_bz
    rw [if_neg (by omega)]
  · rw [rf_upd_ne (by omega), rf_upd_ne (by omega), rf_upd_ne (by omega), rf_upd_ne (by omega), rf_upd_ne (by omega), rf_upd_ne (by omega), rf_upd_ne (by omega), rf_upd_ne (by omega), h (P + k)]
    unfold rf_bz
    rw [if_neg (by omega)]
  · rw [rf_upd_ne (by omega), rf_upd_ne (by omega), rf_upd_ne (by omega), rf_upd_ne (by omega), rf_upd_ne (by omega), rf_upd_ne (by omega), rf_upd_ne (by omega), rf_upd_ne (by omega), h P]
    unfold rf_bz
    rw [if_pos (by omega)]
  · rw [rf_upd_ne (by omega), rf_upd_ne (by omega), rf_upd_ne (by omega), rf_upd_ne (by omega), rf_upd_ne (by omega), rf_upd_ne (by omega), rf_upd_ne (by omega), rf_upd_eq]
  · rw [rf_upd_ne (by omega), rf_upd_ne (by omega), rf_upd_ne (by omega), rf_upd_ne (by omega), rf_upd_ne (by omega), rf_upd_ne (by omega), rf_upd_eq]
  · rw [rf_upd_ne (by omega), rf_upd_ne (by omega), rf_upd_ne (by omega), rf_upd_ne (by omega), rf_upd_ne (by omega), rf_upd_eq]
  · rw [rf_upd_ne (by omega), rf_upd_ne (by omega), rf_upd_ne (by omega), rf_upd_ne (by omega), rf_upd_eq]
    exact h7
  · rw [rf_upd_ne (by omega), rf_upd_ne (by omega), rf_upd_ne (by omega), rf_upd_ne (by omega), rf_upd_ne (by omega), rf_upd_ne (by omega), rf_upd_ne (by omega), rf_upd_ne (by omega), h (P + k)]
    unfold rf_bz
    rw [if_pos (by omega)]
theorem rf_bg7 {f c : Nat → Int32} {p q y : Int32} (hp : 244 ≤ p.toInt ∧ p.toInt ≤ 904) (hy : (0 ≤ y.toInt ∧ y.toInt ≤ 54) ∧ ∀ j : Nat, c j = rf_bz f p.toInt.toNat y.toInt.toNat j) : (upd (upd (upd c (p + 1).toNatClampNeg (-1)) (p + 2).toNatClampNeg (-1)) (p + 6).toNatClampNeg q) (p + 12).toNatClampNeg = f (p.toInt.toNat + 12) := by
  rw [rf_bzn hp (n := 1) (by decide) (by omega), rf_bzn hp (n := 2) (by decide) (by omega), rf_bzn hp (n := 6) (by decide) (by omega), rf_bzn hp (n := 12) (by decide) (by omega)]
  rw [rf_upd_ne (by omega), rf_upd_ne (by omega), rf_upd_ne (by omega), hy.2]
  unfold rf_bz
  rw [if_neg (by omega)]
/-- a channel that has begun -/
def rf_bc (G h : Nat → Int32) (c : Nat) : Prop := (∀ k : Nat, 11 ≤ k → k ≤ 15 → h (244 + 54 * c + k) = G (244 + 54 * c + k)) ∧ (h (244 + 54 * c) = 0 ∧ h (244 + 54 * c + 1) = -1 ∧ h (244 + 54 * c + 2) = -1 ∧ (0 ≤ (h (244 + 54 * c + 6)).toInt ∧ (h (244 + 54 * c + 6)).toInt ≤ 2 * (G (244 + 54 * c + 12)).toInt) ∧ h (244 + 54 * c + 7) = G (244 + 54 * c + 12)) ∧ ∀ k : Nat, 16 ≤ k → k < 54 → k ≠ 19 → k ≠ 20 → k ≠ 38 → h (244 + 54 * c + k) = 0
theorem rf_bck {G h : Nat → Int32} {c : Nat} (s : rf_st G) (b : rf_bc G h c) : ∀ k : Nat, k < 54 → rf_k G c k (h (244 + 54 * c + k)) := by
  intro k hk hc
  have z : (0 : Int32).toInt = 0 := by decide
  have o : (-1 : Int32).toInt = -1 := by decide
  have g10 := s.2.2.2.1
  have cap := (s.2.2.2.2.2.2.2.2.1 c hc).2.1
  obtain ⟨b1, ⟨b2, b3, b4, b5, b6⟩, b7⟩ := b
  match k, hk with
  | 0, _ =>
    exact trivial
  | 1, _ =>
    show -1 ≤ Int32.toInt _ ∧ Int32.toInt _ < (G 10).toInt
    rw [b3, o]
    omega
  | 2, _ =>
    show -1 ≤ Int32.toInt _ ∧ Int32.toInt _ ≤ 11
    rw [b4, o]
    omega
  | 3, _ =>
    exact trivial
  | 4, _ =>
    exact trivial
  | 5, _ =>
    exact trivial
  | 6, _ =>
    exact b5
  | 7, _ =>
    show (G (244 + 54 * c + 12)).toInt / 2 ≤ Int32.toInt _ ∧ Int32.toInt _ ≤ (G (244 + 54 * c + 12)).toInt
    rw [b6]
    omega
  | 8, _ =>
    exact trivial
  | 9, _ =>
    exact trivial
  | 10, _ =>
    exact trivial
  | 11, _ =>
    exact b1 11 (by omega) (by omega)
  | 12, _ =>
    exact b1 12 (by omega) (by omega)
  | 13, _ =>
    exact b1 13 (by omega) (by omega)
  | 14, _ =>
    exact b1 14 (by omega) (by omega)
  | 15, _ =>
    exact b1 15 (by omega) (by omega)
  | 16, _ =>
    show 0 ≤ Int32.toInt _ ∧ Int32.toInt _ ≤ 999
    rw [b7 16 (by omega) (by omega) (by omega) (by omega) (by omega), z]
    omega
  | 17, _ =>
    exact trivial
  | 18, _ =>
    exact trivial
  | 19, _ =>
    exact trivial
  | 20, _ =>
    exact trivial
  | 21, _ =>
    exact trivial
  | 22, _ =>
    exact trivial
  | 23, _ =>
    exact trivial
  | 24, _ =>
    show 0 ≤ Int32.toInt _
    rw [b7 24 (by omega) (by omega) (by omega) (by omega) (by omega), z]
    omega
  | 25, _ =>
    show 0 ≤ Int32.toInt _
    rw [b7 25 (by omega) (by omega) (by omega) (by omega) (by omega), z]
    omega
  | 26, _ =>
    show 0 ≤ Int32.toInt _
    rw [b7 26 (by omega) (by omega) (by omega) (by omega) (by omega), z]
    omega
  | 27, _ =>
    show 0 ≤ Int32.toInt _
    rw [b7 27 (by omega) (by omega) (by omega) (by omega) (by omega), z]
    omega
  | 28, _ =>
    show 0 ≤ Int32.toInt _
    rw [b7 28 (by omega) (by omega) (by omega) (by omega) (by omega), z]
    omega
  | 29, _ =>
    show 0 ≤ Int32.toInt _
    rw [b7 29 (by omega) (by omega) (by omega) (by omega) (by omega), z]
    omega
  | 30, _ =>
    show 0 ≤ Int32.toInt _
    rw [b7 30 (by omega) (by omega) (by omega) (by omega) (by omega), z]
    omega
  | 31, _ =>
    show 0 ≤ Int32.toInt _
    rw [b7 31 (by omega) (by omega) (by omega) (by omega) (by omega), z]
    omega
  | 32, _ =>
    show 0 ≤ Int32.toInt _
    rw [b7 32 (by omega) (by omega) (by omega) (by omega) (by omega), z]
    omega
  | 33, _ =>
    show 0 ≤ Int32.toInt _
    rw [b7 33 (by omega) (by omega) (by omega) (by omega) (by omega), z]
    omega
  | 34, _ =>
    show 0 ≤ Int32.toInt _
    rw [b7 34 (by omega) (by omega) (by omega) (by omega) (by omega), z]
    omega
  | 35, _ =>
    show 0 ≤ Int32.toInt _
    rw [b7 35 (by omega) (by omega) (by omega) (by omega) (by omega), z]
    omega
  | 36, _ =>
    exact trivial
  | 37, _ =>
    exact trivial
  | 38, _ =>
    exact trivial
  | 39, _ =>
    show 0 ≤ Int32.toInt _ ∧ Int32.toInt _ ≤ 4 ∧ ((G 10).toInt = 0 → Int32.toInt _ = 0)
    rw [b7 39 (by omega) (by omega) (by omega) (by omega) (by omega), z]
    omega
  | 40, _ =>
    show 0 ≤ Int32.toInt _ ∧ (Int32.toInt _ < (G 10).toInt ∨ Int32.toInt _ = 0)
    rw [b7 40 (by omega) (by omega) (by omega) (by omega) (by omega), z]
    omega
  | 41, _ =>
    show 0 ≤ Int32.toInt _ ∧ (Int32.toInt _ < (G 10).toInt ∨ Int32.toInt _ = 0)
    rw [b7 41 (by omega) (by omega) (by omega) (by omega) (by omega), z]
    omega
  | 42, _ =>
    show 0 ≤ Int32.toInt _ ∧ (Int32.toInt _ < (G 10).toInt ∨ Int32.toInt _ = 0)
    rw [b7 42 (by omega) (by omega) (by omega) (by omega) (by omega), z]
    omega
  | 43, _ =>
    show 0 ≤ Int32.toInt _ ∧ (Int32.toInt _ < (G 10).toInt ∨ Int32.toInt _ = 0)
    rw [b7 43 (by omega) (by omega) (by omega) (by omega) (by omega), z]
    omega
  | 44, _ =>
    exact trivial
  | 45, _ =>
    exact trivial
  | 46, _ =>
    exact trivial
  | 47, _ =>
    exact trivial
  | 48, _ =>
    exact trivial
  | 49, _ =>
    exact trivial
  | 50, _ =>
    exact trivial
  | 51, _ =>
    exact trivial
  | 52, _ =>
    exact trivial
  | 53, _ =>
    exact trivial
  | n + 54, hk => exact absurd hk (by omega)
theorem rf_bcR {G f h : Nat → Int32} {cx : Int} {c : Nat} (hR : rf_R G cx f) (hcx : cx = -1) (hc : (c : Int) < (G 9).toInt) (ho : ∀ j : Nat, (j < 244 + 54 * c ∨ 244 + 54 * c + 54 ≤ j) → h j = f j) (b : rf_bc G h c) : rf_R G cx h := by
  obtain ⟨h1, h2, h3, h4, h5, h6⟩ := hR
  have c6 : c < 6 := by have := h1.2.2.1; omega
  refine ⟨h1, ?_, ?_, fun j h7 h8 => ?_, fun c' hc' k hk => ?_, fun c' hc' hx => ?_⟩
  · rw [ho 0 (by omega), ho 1 (by omega), ho 2 (by omega), ho 6 (by omega), ho 9 (by omega), ho 10 (by omega), ho 11 (by omega)]
    exact h2
  · rw [ho 12 (by omega), ho 16 (by omega), ho 17 (by omega)]
    exact h3
  · rw [ho j (by omega)]
    exact h4 j h7 h8
  · by_cases e : c' = c
    · rw [e]
      exact rf_bck h1 b k hk
    · rw [ho (244 + 54 * c' + k) (by omega)]
      exact h5 c' hc' k hk
  · by_cases e : c' = c
    · subst e
      intro q
      have z := b.2.1.1
      rcases q with q | q
      · rw [z] at q
        exact absurd q (by decide)
      · rw [z] at q
        exact absurd q (by decide)
    · have r := h6 c' hc' hx
      unfold rf_run at r ⊢
      rw [ho (244 + 54 * c') (by omega), ho (245 + 54 * c') (by omega), ho (246 + 54 * c') (by omega)]
      exact r
/-- while load() begins the channels -/
def rf_ld (g h : Nat → Int32) (n : Nat) : Prop := (∀ j : Nat, (j < 244 ∨ 244 + 54 * n ≤ j) → h j = g j) ∧ ∀ c : Nat, c < n → rf_bc g h c
theorem rf_ld0 (g : Nat → Int32) : rf_ld g g 0 := ⟨fun _ _ => rfl, fun c hc => absurd hc (by omega)⟩
theorem rf_ldn {g h h2 : Nat → Int32} {n : Nat} {q : Int32} (hd : rf_ld g h n) (b : rf_bg h h2 (244 + 54 * n) q) (hq : 0 ≤ q.toInt ∧ q.toInt ≤ 2 * (g (244 + 54 * n + 12)).toInt) : rf_ld g h2 (n + 1) := by
  obtain ⟨b1, b2, ⟨b3, b4, b5, b6, b7⟩, b8⟩ := b
  refine ⟨fun j hj => ?_, fun c hc => ?_⟩
  · rw [b1 j (by omega)]
    exact hd.1 j (by omega)
  · by_cases e : c = n
    · subst e
      refine ⟨fun k k1 k2 => ?_, ⟨b3, b4, b5, ?_, ?_⟩, b8⟩
      · rw [b2 k k1 k2]
        exact hd.1 _ (by omega)
      · rw [b6]
        exact hq
      · rw [b7]
        exact hd.1 _ (by omega)
    · obtain ⟨d1, ⟨d2, d3, d4, d5, d6⟩, d7⟩ := hd.2 c (by omega)
      refine ⟨fun k k1 k2 => ?_, ⟨?_, ?_, ?_, ?_, ?_⟩, fun k k1 k2 k3 k4 k5 => ?_⟩
      · rw [b1 _ (by omega)]
        exact d1 k k1 k2
      · rw [b1 _ (by omega)]
        exact d2
      · rw [b1 _ (by omega)]
        exact d3
      · rw [b1 _ (by omega)]
        exact d4
      · rw [b1 _ (by omega)]
        exact d5
      · rw [b1 _ (by omega)]
        exact d6
      · rw [b1 _ (by omega)]
        exact d7 k k1 k2 k3 k4 k5
theorem rf_ldR {g h : Nat → Int32} (l : rf_L g) (hd : rf_ld g h (g 9).toInt.toNat) : rf_R g (-1) h := by
  have c9 := l.1.2.2.1
  have z : (0 : Int32).toInt = 0 := by decide
  have e := fun (j : Nat) (hj : j < 244) => hd.1 j (Or.inl hj)
  refine ⟨l.1, ⟨e 0 (by omega), e 1 (by omega), e 2 (by omega), e 6 (by omega), e 9 (by omega), e 10 (by omega), e 11 (by omega)⟩, ?_, fun j _ h8 => e j h8, fun c hc k hk => ?_, fun c hc _ q => ?_⟩
  · rw [e 12 (by omega), e 16 (by omega), e 17 (by omega), l.2.2.2.1, l.2.2.2.2.1, z]
    exact ⟨by omega, l.2.2.1, by omega⟩
  · by_cases q : (c : Int) < (g 9).toInt
    · exact rf_bck l.1 (hd.2 c (by omega)) k hk
    · exact fun q2 => absurd q2 q
  · have b := (hd.2 c (by omega)).2.1.1
    rcases q with q | q
    · rw [b] at q
      exact absurd q (by decide)
    · rw [b] at q
      exact absurd q (by decide)
