/-! load(): what is known of the description -/
theorem fl_nv {b : Nat → Int32} {n p : Int32} {lo hi : Int} (h : lo ≤ rp_rv b n p ∧ rp_rv b n p ≤ hi) (h1 : -2147483648 ≤ lo) (h2 : hi ≤ 2147483647) : (rd_nv b n p).toInt = rp_rv b n p := by
  unfold rd_nv
  exact Int32.toInt_ofInt_of_le (by omega) (by omega)
/-- a kind, and its second number -/
def fl_kk (k s : Int32) : Prop := k = 0 ∨ k = 1 ∨ k = 2 ∨ k = 3 ∨ (k = 4 ∧ 1 ≤ s.toInt)
def fl_E (g : Nat → Int32) : Prop := (1 ≤ (g 1).toInt ∧ (g 1).toInt ≤ 1000000) ∧
  (∀ v : Nat, (v : Int) < (g 11).toInt → ∀ m : Nat, g (27 + 19 * v) = Int32.ofNat m → m ≤ 11 → (∀ j : Nat, j < m → 0 ≤ (g (28 + 19 * v + j)).toInt ∧ (g (28 + 19 * v + j)).toInt ≤ 5000) ∧ ∀ j : Nat, j + 1 < m → (g (28 + 19 * v + j)).toInt ≤ (g (28 + 19 * v + (j + 1))).toInt) ∧
  ∀ p : Nat, (p : Int) < (g 10).toInt → ∀ m : Nat, g (96 + 37 * p) = Int32.ofNat m → m ≤ 12 → ∀ j : Nat, j < m → fl_kk (g (97 + 37 * p + 3 * j)) (g (99 + 37 * p + 3 * j))
theorem fl_Eu {g : Nat → Int32} {i : Nat} {v : Int32} (h : fl_E g) (hi : i ≠ 1 ∧ i ≠ 10 ∧ i ≠ 11 ∧ i < 27) : fl_E (upd g i v) := by
  have n : ∀ j : Nat, j ≠ i → upd g i v j = g j := fun j hj => rf_upd_ne hj
  obtain ⟨a, c, p⟩ := h
  refine ⟨by rw [n 1 (by omega)]; exact a, fun v hv m hm hm1 => ?_, fun q hq m hm hm1 j hj => ?_⟩
  · rw [n 11 (by omega)] at hv
    rw [n (27 + 19 * v) (by omega)] at hm
    obtain ⟨c1, c2⟩ := c v hv m hm hm1
    exact ⟨fun j hj => by rw [n (28 + 19 * v + j) (by omega)]; exact c1 j hj, fun j hj => by rw [n (28 + 19 * v + j) (by omega), n (28 + 19 * v + (j + 1)) (by omega)]; exact c2 j hj⟩
  · rw [n 10 (by omega)] at hq
    rw [n (96 + 37 * q) (by omega)] at hm
    rw [n (97 + 37 * q + 3 * j) (by omega), n (99 + 37 * q + 3 * j) (by omega)]
    exact p q hq m hm hm1 j hj
theorem fl_Ef {g : Nat → Int32} {v : Int32} (h : fl_E g) (hv : 1 ≤ v.toInt ∧ v.toInt ≤ 1000000) : fl_E (upd g 1 v) := by
  have n : ∀ j : Nat, j ≠ 1 → upd g 1 v j = g j := fun j hj => rf_upd_ne hj
  obtain ⟨a, c, p⟩ := h
  refine ⟨by rw [rf_upd_eq]; exact hv, fun v hv m hm hm1 => ?_, fun q hq m hm hm1 j hj => ?_⟩
  · rw [n 11 (by omega)] at hv
    rw [n (27 + 19 * v) (by omega)] at hm
    obtain ⟨c1, c2⟩ := c v hv m hm hm1
    exact ⟨fun j hj => by rw [n (28 + 19 * v + j) (by omega)]; exact c1 j hj, fun j hj => by rw [n (28 + 19 * v + j) (by omega), n (28 + 19 * v + (j + 1)) (by omega)]; exact c2 j hj⟩
  · rw [n 10 (by omega)] at hq
    rw [n (96 + 37 * q) (by omega)] at hm
    rw [n (97 + 37 * q + 3 * j) (by omega), n (99 + 37 * q + 3 * j) (by omega)]
    exact p q hq m hm hm1 j hj
theorem fl_Eset {b : Nat → Int32} {n q : Int32} {g : Nat → Int32} (h : fl_E g) (k : rp_ek b n q = 0) : fl_E (rq_set b n q g) := by
  unfold rp_ek at k
  unfold rq_set
  split
  · exact fl_Eu h (by omega)
  · rename_i h1
    rw [if_neg h1] at k
    split
    · rename_i h2
      rw [if_pos h2] at k
      have r := (rp_rk0 k).2
      refine fl_Ef h ?_
      rw [fl_nv r (by omega) (by omega)]
      omega
    · rename_i h2
      split
      · exact fl_Eu (fl_Eu h (by omega)) (by omega)
      · split
        · exact fl_Eu (fl_Eu (fl_Eu h (by omega)) (by omega)) (by omega)
        · split
          · exact fl_Eu h (by omega)
          · split
            · exact fl_Eu (fl_Eu (fl_Eu h (by omega)) (by omega)) (by omega)
            · split
              · exact fl_Eu h (by omega)
              · exact h
/-- the voltages of a curve never fall -/
theorem fl_vvE {b : Nat → Int32} {n : Int32} {B : Nat} : ∀ (r m : Nat) (v : Int) (p : Int32) (g : Nat → Int32), (0 ≤ v ∧ v ≤ 5000) → (∀ j : Nat, j < m → 0 ≤ (g (B + j)).toInt ∧ (g (B + j)).toInt ≤ v) → (∀ j : Nat, j + 1 < m → (g (B + j)).toInt ≤ (g (B + (j + 1))).toInt) → rp_vk b n r m v p = 0 →
    (∀ j : Nat, j < rq_vn b n r m v p → 0 ≤ (rq_vv b n B r m v p g (B + j)).toInt ∧ (rq_vv b n B r m v p g (B + j)).toInt ≤ 5000) ∧ ∀ j : Nat, j + 1 < rq_vn b n r m v p → (rq_vv b n B r m v p g (B + j)).toInt ≤ (rq_vv b n B r m v p g (B + (j + 1))).toInt
  | 0, m, v, p, g, hv, h1, h2, k => ⟨fun j hj => ⟨(h1 j hj).1, by have := (h1 j hj).2; show (g (B + j)).toInt ≤ 5000; omega⟩, h2⟩
  | r + 1, m, v, p, g, hv, h1, h2, k => by
    unfold rp_vk at k
    unfold rq_vn rq_vv
    by_cases q : 2 ≤ m ∧ ¬ rp_dig b n (rp_sk b n p) = true
    · rw [if_pos q, if_pos q]
      exact ⟨fun j hj => ⟨(h1 j hj).1, by have := (h1 j hj).2; omega⟩, h2⟩
    · rw [if_neg q] at k
      rw [if_neg q, if_neg q]
      obtain ⟨k1, k2⟩ := rp_k20 k
      have rr := (rp_rk0 k1).2
      have e := fl_nv rr (by omega) (by omega)
      have n1 : ∀ j : Nat, j ≠ m → upd g (B + m) (rd_nv b n p) (B + j) = g (B + j) := fun j hj => rf_upd_ne (by omega)
      refine fl_vvE r (m + 1) (rp_rv b n p) (rp_rp b n v 5000 p) (upd g (B + m) (rd_nv b n p)) (by omega) (fun j hj => ?_) (fun j hj => ?_) k2
      · by_cases z : j = m
        · rw [z, rf_upd_eq, e]; omega
        · rw [n1 j z]
          have := h1 j (by omega)
          omega
      · by_cases z : j + 1 = m
        · rw [n1 j (by omega), z, rf_upd_eq, e]
          have := h1 j (by omega)
          omega
        · rw [n1 j (by omega), n1 (j + 1) (by omega)]
          exact h2 j (by omega)
theorem fl_vvo {b : Nat → Int32} {n : Int32} {B : Nat} : ∀ (r m : Nat) (v : Int) (p : Int32) (g : Nat → Int32) {j : Nat}, (j < B + m ∨ B + m + r ≤ j) → rq_vv b n B r m v p g j = g j
  | 0, m, v, p, g, j, h => rfl
  | r + 1, m, v, p, g, j, h => by
    unfold rq_vv
    by_cases q : 2 ≤ m ∧ ¬ rp_dig b n (rp_sk b n p) = true
    · rw [if_pos q]
    · rw [if_neg q]
      exact (fl_vvo r (m + 1) _ _ _ (by omega)).trans (rf_upd_ne (by omega))
theorem fl_vnb {b : Nat → Int32} {n : Int32} : ∀ (r m : Nat) (v : Int) (p : Int32), rq_vn b n r m v p ≤ m + r
  | 0, m, v, p => Nat.le_refl _
  | r + 1, m, v, p => by
    unfold rq_vn
    by_cases q : 2 ≤ m ∧ ¬ rp_dig b n (rp_sk b n p) = true
    · rw [if_pos q]; omega
    · rw [if_neg q]
      have := fl_vnb (b := b) (n := n) r (m + 1) (rp_rv b n p) (rp_rp b n v 5000 p)
      omega
theorem fl_Ecur {b : Nat → Int32} {n q : Int32} {N : List (List Int32)} {g : Nat → Int32} (h : fl_E g) (hc : 0 ≤ (g 11).toInt ∧ (g 11).toInt < 4) (h10 : (g 10).toInt ≤ 4) (hl : (rp_we b n (rp_q2 b n q) - rp_q2 b n q).toInt ≤ 6) (k : rp_vk b n 11 0 0 (rp_we b n (rp_q2 b n q)) = 0) : fl_E (rq_curve b n q g) := by
  obtain ⟨K, hK⟩ : ∃ K : Nat, (g 11).toInt = K := ⟨(g 11).toInt.toNat, by omega⟩
  have hKn : (g 11).toInt.toNat = K := by omega
  unfold rq_curve
  rw [hKn]
  generalize hG0 : rq_nm b (rp_q2 b n q) (20 + 19 * K) (rp_we b n (rp_q2 b n q) - rp_q2 b n q) g (rp_we b n (rp_q2 b n q) - rp_q2 b n q).toInt.toNat = G0
  have f0 : ∀ j : Nat, (j < 20 + 19 * K ∨ 27 + 19 * K ≤ j) → G0 j = g j := fun j hj => by rw [← hG0]; exact rq_nmF _ (by omega)
  have V := fl_vvE (b := b) (n := n) (B := 28 + 19 * K) 11 0 0 (rp_we b n (rp_q2 b n q)) G0 (by omega) (fun j hj => absurd hj (Nat.not_lt_zero j)) (fun j hj => absurd hj (by omega)) k
  have Vo := fun j => fl_vvo (b := b) (n := n) (B := 28 + 19 * K) 11 0 0 (rp_we b n (rp_q2 b n q)) G0 (j := j)
  have Vn := fl_vnb (b := b) (n := n) 11 0 0 (rp_we b n (rp_q2 b n q))
  generalize rq_vn b n 11 0 0 (rp_we b n (rp_q2 b n q)) = M at V Vn ⊢
  generalize rq_vv b n (28 + 19 * K) 11 0 0 (rp_we b n (rp_q2 b n q)) G0 = G at V Vo ⊢
  have f : ∀ j : Nat, (j < 20 + 19 * K ∨ 39 + 19 * K ≤ j) → G j = g j := fun j hj => (Vo j (by omega)).trans (f0 j (by omega))
  have gF : ∀ j : Nat, j ≠ 27 + 19 * K → j ≠ 11 → rq_cnt G (27 + 19 * K) M 11 j = G j := fun j h1 h2 => rq_cntF h1 h2
  have g11 : rq_cnt G (27 + 19 * K) M 11 11 = g 11 + 1 := (rq_cntC (by omega)).trans (by rw [f 11 (by omega)])
  have g11i : (rq_cnt G (27 + 19 * K) M 11 11).toInt = K + 1 := by rw [g11, rf_p1 (by omega), hK]
  obtain ⟨a, c, p⟩ := h
  refine ⟨?_, fun v hv m hm hm1 => ?_, fun x hx m hm hm1 j hj => ?_⟩
  · rw [gF 1 (by omega) (by omega), f 1 (by omega)]; exact a
  · rw [g11i] at hv
    by_cases z : v = K
    · subst z
      rw [rq_cntP (by omega)] at hm
      have em : M = m := by
        have e := congrArg Int32.toInt hm
        rw [fl_on (by omega), fl_on (by omega)] at e
        omega
      rw [← em]
      exact ⟨fun j hj => by rw [gF _ (by omega) (by omega)]; exact V.1 j hj, fun j hj => by rw [gF _ (by omega) (by omega), gF _ (by omega) (by omega)]; exact V.2 j hj⟩
    · have hv2 : v < K := by omega
      rw [gF _ (by omega) (by omega), f _ (by omega)] at hm
      obtain ⟨c1, c2⟩ := c v (by omega) m hm hm1
      exact ⟨fun j hj => by rw [gF _ (by omega) (by omega), f _ (by omega)]; exact c1 j hj, fun j hj => by rw [gF _ (by omega) (by omega), f _ (by omega), gF _ (by omega) (by omega), f _ (by omega)]; exact c2 j hj⟩
  · rw [gF 10 (by omega) (by omega), f 10 (by omega)] at hx
    rw [gF _ (by omega) (by omega), f _ (by omega)] at hm
    rw [gF (97 + 37 * x + 3 * j) (by omega) (by omega), f (97 + 37 * x + 3 * j) (by omega), gF (99 + 37 * x + 3 * j) (by omega) (by omega), f (99 + 37 * x + 3 * j) (by omega)]
    exact p x hx m hm hm1 j hj
