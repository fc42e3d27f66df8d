/-! load(): what is known of the description -/
theorem fl_nv {b : Nat → Int32} {n p : Int32} {lo hi : Int} (h : lo ≤ rp_rv b n p ∧ rp_rv b n p ≤ hi) (h1 : -2147483648 ≤ lo) (h2 : hi ≤ 2147483647) : (rd_nv b n p).toInt = rp_rv b n p := by
  unfold rd_nv
  exact Int32.toInt_ofInt_of_le (by omega) (by omega)
/-- a kind, and its second number -/
def fl_kk (k s : Int32) : Prop := k = 0 ∨ k = 1 ∨ k = 2 ∨ k = 3 ∨ (k = 4 ∧ 1 ≤ s.toInt)
def fl_E (g : Nat → Int32) : Prop := (1 ≤ (g 1).toInt ∧ (g 1).toInt ≤ 1000000) ∧
  (∀ v : Nat, (v : Int) < (g 11).toInt → ∀ m : Nat, g (27 + 19 * v) = Int32.ofNat m → m ≤ 11 → (∀ j : Nat, j < m → 0 ≤ (g (28 + 19 * v + j)).toInt ∧ (g (28 + 19 * v + j)).toInt ≤ 5000) ∧ ∀ j : Nat, j + 1 < m → (g (28 + 19 * v + j)).toInt ≤ (g (28 + 19 * v + (j + 1))).toInt) ∧
  ∀ p : Nat, (p : Int) < (g 10).toInt → ∀ m : Nat, g (96 + 37 * p) = Int32.ofNat m → m ≤ 12 → ∀ j : Nat, j < m → fl_kk (g (97 + 37 * p + 3 * j)) (g (99 + 37 * p + 3 * j))
theorem fl_Eu {g : Nat → Int32} {i : Nat} {v : Int32} (h : fl_E g) (hi : i ≠ 1 ∧ i ≠ 10 ∧ i ≠ 11 ∧ i < 27) : fl_E (upd g i v) := by
  have n : ∀ j : Nat, j ≠ i → upd g i v j = g j := fun j hj => rf_upd_ne hj
  obtain ⟨a, c, p⟩ := h
  refine ⟨by rw [n 1 (by omega)]; exact a, fun v hv m hm hm1 => ?_, fun q hq m hm hm1 j hj => ?_⟩
  · rw [n 11 (by omega)] at hv
    rw [n (27 + 19 * v) (by omega)] at hm
    obtain ⟨c1, c2⟩ := c v hv m hm hm1
    exact ⟨fun j hj => by rw [n (28 + 19 * v + j) (by omega)]; exact c1 j hj, fun j hj => by rw [n (28 + 19 * v + j) (by omega), n (28 + 19 * v + (j + 1)) (by omega)]; exact c2 j hj⟩
  · rw [n 10 (by omega)] at hq
    rw [n (96 + 37 * q) (by omega)] at hm
    rw [n (97 + 37 * q + 3 * j) (by omega), n (99 + 37 * q + 3 * j) (by omega)]
    exact p q hq m hm hm1 j hj
theorem fl_Ef {g : Nat → Int32} {v : Int32} (h : fl_E g) (hv : 1 ≤ v.toInt ∧ v.toInt ≤ 1000000) : fl_E (upd g 1 v) := by
  have n : ∀ j : Nat, j ≠ 1 → upd g 1 v j = g j := fun j hj => rf_upd_ne hj
  obtain ⟨a, c, p⟩ := h
  refine ⟨by rw [rf_upd_eq]; exact hv, fun v hv m hm hm1 => ?_, fun q hq m hm hm1 j hj => ?_⟩
  · rw [n 11 (by omega)] at hv
    rw [n (27 + 19 * v) (by omega)] at hm
    obtain ⟨c1, c2⟩ := c v hv m hm hm1
    exact ⟨fun j hj => by rw [n (28 + 19 * v + j) (by omega)]; exact c1 j hj, fun j hj => by rw [n (28 + 19 * v + j) (by omega), n (28 + 19 * v + (j + 1)) (by omega)]; exact c2 j hj⟩
  · rw [n 10 (by omega)] at hq
    rw [n (96 + 37 * q) (by omega)] at hm
    rw [n (97 + 37 * q + 3 * j) (by omega), n (99 + 37 * q + 3 * j) (by omega)]
    exact p q hq m hm hm1 j hj
theorem fl_Eset {b : Nat → Int32} {n q : Int32} {g : Nat → Int32} (h : fl_E g) (k : rp_ek b n q = 0) : fl_E (rq_set b n q g) := by
  unfold rp_ek at k
  unfold rq_set
  split
  · exact fl_Eu h (by omega)
  · rename_i h1
    rw [if_neg h1] at k
    split
    · rename_i h2
      rw [if_pos h2] at k
      have r := (rp_rk0 k).2
      refine fl_Ef h ?_
      rw [fl_nv r (by omega) (by omega)]
      omega
    · rename_i h2
      split
      · exact fl_Eu (fl_Eu h (by omega)) (by omega)
      · split
        · exact fl_Eu (fl_Eu (fl_Eu h (by omega)) (by omega)) (by omega)
        · split
          · exact fl_Eu h (by omega)
          · split
            · exact fl_Eu (fl_Eu (fl_Eu h (by omega)) (by omega)) (by omega)
            · split
              · exact fl_Eu h (by omega)
              · exact h
/-- the voltages of a curve never fall -/
theorem fl_vvE {b : Nat → Int32} {n : Int32} {B : Nat} : ∀ (r m : Nat) (v : Int) (p : Int32) (g : Nat → Int32), (0 ≤ v ∧ v ≤ 5000) → (∀ j : Nat, j < m → 0 ≤ (g (B + j)).toInt ∧ (g (B + j)).toInt ≤ v) → (∀ j : Nat, j + 1 < m → (g (B + j)).toInt ≤ (g (B + (j + 1))).toInt) → rp_vk b n r m v p = 0 →
    (∀ j : Nat, j < rq_vn b n r m v p → 0 ≤ (rq_vv b n B r m v p g (B + j)).toInt ∧ (rq_vv b n B r m v p g (B + j)).toInt ≤ 5000) ∧ ∀ j : Nat, j + 1 < rq_vn b n r m v p → (rq_vv b n B r m v p g (B + j)).toInt ≤ (rq_vv b n B r m v p g (B + (j + 1))).toInt
  | 0, m, v, p, g, hv, h1, h2, k => ⟨fun j hj => ⟨(h1 j hj).1, by have := (h1 j hj).2; show (g (B + j)).toInt ≤ 5000; omega⟩, h2⟩
  | r + 1, m, v, p, g, hv, h1, h2, k => by
    unfold rp_vk at k
    unfold rq_vn rq_vv
    by_cases q : 2 ≤ m ∧ ¬ rp_dig b n (rp_sk b n p) = true
    · rw [if_pos q, if_pos q]
      exact ⟨fun j hj => ⟨(h1 j hj).1, by have := (h1 j hj).2; omega⟩, h2⟩
    · rw [if_neg q] at k
      rw [if_neg q, if_neg q]
      obtain ⟨k1, k2⟩ := rp_k20 k
      have rr := (rp_rk0 k1).2
      have e := fl_nv rr (by omega) (by omega)
      have n1 : ∀ j : Nat, j ≠ m → upd g (B + m) (rd_nv b n p) (B + j) = g (B + j) := fun j hj => rf_upd_ne (by omega)
      refine fl_vvE r (m + 1) (rp_rv b n p) (rp_rp b n v 5000 p) (upd g (B + m) (rd_nv b n p)) (by omega) (fun j hj => ?_) (fun j hj => ?_) k2
      · by_cases z : j = m
        · rw [z, rf_upd_eq, e]; omega
        · rw [n1 j z]
          have := h1 j (by omega)
          omega
      · by_cases z : j + 1 = m
        · rw [n1 j (by omega), z, rf_upd_eq, e]
          have := h1 j (by omega)
          omega
        · rw [n1 j (by omega), n1 (j + 1) (by omega)]
          exact h2 j (by omega)
theorem fl_vvo {b : Nat → Int32} {n : Int32} {B : Nat} : ∀ (r m : Nat) (v : Int) (p : Int32) (g : Nat → Int32) {j : Nat}, (j < B + m ∨ B + m + r ≤ j) → rq_vv b n B r m v p g j = g j
  | 0, m, v, p, g, j, h => rfl
  | r + 1, m, v, p, g, j, h => by
    unfold rq_vv
    by_cases q : 2 ≤ m ∧ ¬ rp_dig b n (rp_sk b n p) = true
    · rw [if_pos q]
    · rw [if_neg q]
      exact (fl_vvo r (m + 1) _ _ _ (by omega)).trans (rf_upd_ne (by omega))
theorem fl_vnb {b : Nat → Int32} {n : Int32} : ∀ (r m : Nat) (v : Int) (p : Int32), rq_vn b n r m v p ≤ m + r
  | 0, m, v, p => Nat.le_refl _
  | r + 1, m, v, p => by
    unfold rq_vn
    by_cases q : 2 ≤ m ∧ ¬ rp_dig b n (rp_sk b n p) = true
    · rw [if_pos q]; omega
    · rw [if_neg q]
      have := fl_vnb (b := b) (n := n) r (m + 1) (rp_rv b n p) (rp_rp b n v 5000 p)
      omega
theorem fl_Ecur {b : Nat → Int32} {n q : Int32} {N : List (List Int32)} {g : Nat → Int32} (h : fl_E g) (hc : 0 ≤ (g 11).toInt ∧ (g 11).toInt < 4) (h10 : (g 10).toInt ≤ 4) (hl : (rp_we b n (rp_q2 b n q) - rp_q2 b n q).toInt ≤ 6) (k : rp_vk b n 11 0 0 (rp_we b n (rp_q2 b n q)) = 0) : fl_E (rq_curve b n q g) := by
  obtain ⟨K, hK⟩ : ∃ K : Nat, (g 11).toInt = K := ⟨(g 11).toInt.toNat, by omega⟩
  have hKn : (g 11).toInt.toNat = K := by omega
  unfold rq_curve
  rw [hKn]
  generalize hG0 : rq_nm b (rp_q2 b n q) (20 + 19 * K) (rp_we b n (rp_q2 b n q) - rp_q2 b n q) g (rp_we b n (rp_q2 b n q) - rp_q2 b n q).toInt.toNat = G0
  have f0 : ∀ j : Nat, (j < 20 + 19 * K ∨ 27 + 19 * K ≤ j) → G0 j = g j := fun j hj => by rw [← hG0]; exact rq_nmF _ (by omega)
  have V := fl_vvE (b := b) (n := n) (B := 28 + 19 * K) 11 0 0 (rp_we b n (rp_q2 b n q)) G0 (by omega) (fun j hj => absurd hj (Nat.not_lt_zero j)) (fun j hj => absurd hj (by omega)) k
  have Vo := fun j => fl_vvo (b := b) (n := n) (B := 28 + 19 * K) 11 0 0 (rp_we b n (rp_q2 b n q)) G0 (j := j)
  have Vn := fl_vnb (b := b) (n := n) 11 0 0 (rp_we b n (rp_q2 b n q))
  generalize rq_vn b n 11 0 0 (rp_we b n (rp_q2 b n q)) = M at V Vn ⊢
  generalize rq_vv b n (28 + 19 * K) 11 0 0 (rp_we b n (rp_q2 b n q)) G0 = G at V Vo ⊢
  have f : ∀ j : Nat, (j < 20 + 19 * K ∨ 39 + 19 * K ≤ j) → G j = g j := fun j hj => (Vo j (by omega)).trans (f0 j (by omega))
  have gF : ∀ j : Nat, j ≠ 27 + 19 * K → j ≠ 11 → rq_cnt G (27 + 19 * K) M 11 j = G j := fun j h1 h2 => rq_cntF h1 h2
  have g11 : rq_cnt G (27 + 19 * K) M 11 11 = g 11 + 1 := (rq_cntC (by omega)).trans (by rw [f 11 (by omega)])
  have g11i : (rq_cnt G (27 + 19 * K) M 11 11).toInt = K + 1 := by rw [g11, rf_p1 (by omega), hK]
  obtain ⟨a, c, p⟩ := h
  refine ⟨?_, fun v hv m hm hm1 => ?_, fun x hx m hm hm1 j hj => ?_⟩
  · rw [gF 1 (by omega) (by omega), f 1 (by omega)]; exact a
  · rw [g11i] at hv
    by_cases z : v = K
    · subst z
      rw [rq_cntP (by omega)] at hm
      have em : M = m := by
        have e := congrArg Int32.toInt hm
        rw [fl_on (by omega), fl_on (by omega)] at e
        omega
      rw [← em]
      exact ⟨fun j hj => by rw [gF _ (by omega) (by omega)]; exact V.1 j hj, fun j hj => by rw [gF _ (by omega) (by omega), gF _ (by omega) (by omega)]; exact V.2 j hj⟩
    · have hv2 : v < K := by omega
      rw [gF _ (by omega) (by omega), f _ (by omega)] at hm
      obtain ⟨c1, c2⟩ := c v (by omega) m hm hm1
      exact ⟨fun j hj => by rw [gF _ (by omega) (by omega), f _ (by omega)]; exact c1 j hj, fun j hj => by rw [gF _ (by omega) (by omega), f _ (by omega), gF _ (by omega) (by omega), f _ (by omega)]; exact c2 j hj⟩
  · rw [gF 10 (by omega) (by omega), f 10 (by omega)] at hx
    rw [gF _ (by omega) (by omega), f _ (by omega)] at hm
    rw [gF (97 + 37 * x + 3 * j) (by omega) (by omega), f (97 + 37 * x + 3 * j) (by omega), gF (99 + 37 * x + 3 * j) (by omega) (by omega), f (99 + 37 * x + 3 * j) (by omega)]
    exact p x hx m hm hm1 j hj
/-- a step's kind and second number -/
theorem fl_stE {b : Nat → Int32} {n q : Int32} {m : Int} {P : Nat} {g : Nat → Int32} (k : rp_stk b n m q = 0) : fl_kk (rq_step b n m q P g P) (rq_step b n m q P g (P + 2)) ∧ ∀ j : Nat, (j < P ∨ P + 3 ≤ j) → rq_step b n m q P g j = g j := by
  unfold rp_stk at k
  unfold rq_step
  have o3 : ∀ {w : Nat → Int32} {x y z u : Int32} {j : Nat}, (j < P ∨ P + 3 ≤ j) → upd (upd (upd (upd w P x) (P + 2) y) (P + 1) z) (P + 2) u j = w j := fun h => by rw [rf_upd_ne (by omega), rf_upd_ne (by omega), rf_upd_ne (by omega), rf_upd_ne (by omega)]
  have o2 : ∀ {w : Nat → Int32} {x y z : Int32} {j : Nat}, (j < P ∨ P + 3 ≤ j) → upd (upd (upd w P x) (P + 2) y) (P + 1) z j = w j := fun h => by rw [rf_upd_ne (by omega), rf_upd_ne (by omega), rf_upd_ne (by omega)]
  have p3 : ∀ {w : Nat → Int32} {x y z u : Int32}, upd (upd (upd (upd w P x) (P + 2) y) (P + 1) z) (P + 2) u P = x := by
    intro w x y z u
    rw [rf_upd_ne (by omega), rf_upd_ne (by omega), rf_upd_ne (by omega), rf_upd_eq]
  have p2 : ∀ {w : Nat → Int32} {x y z : Int32}, upd (upd (upd w P x) (P + 2) y) (P + 1) z P = x := by
    intro w x y z
    rw [rf_upd_ne (by omega), rf_upd_ne (by omega), rf_upd_eq]
  split
  · exact ⟨Or.inl p3, fun j hj => o3 hj⟩
  · rename_i h1
    rw [if_neg h1] at k
    split
    · exact ⟨Or.inr (Or.inl p3), fun j hj => o3 hj⟩
    · rename_i h2
      rw [if_neg h2] at k
      split
      · exact ⟨Or.inr (Or.inr (Or.inl p3)), fun j hj => o3 hj⟩
      · rename_i h3
        rw [if_neg h3] at k
        split
        · exact ⟨Or.inr (Or.inr (Or.inr (Or.inl p2))), fun j hj => o2 hj⟩
        · rename_i h4
          rw [if_neg h4] at k
          split
          · rename_i h5
            rw [if_pos h5] at k
            obtain ⟨_, k2⟩ := rp_k20 k
            have r := (rp_rk0 k2).2
            refine ⟨Or.inr (Or.inr (Or.inr (Or.inr ⟨p3, ?_⟩))), fun j hj => o3 hj⟩
            rw [rf_upd_eq, fl_nv r (by omega) (by omega)]
            exact r.1
          · rename_i h5
            rw [if_neg h5] at k
            exact absurd k (by decide)
theorem fl_ssE {b : Nat → Int32} {n : Int32} {B : Nat} : ∀ (r m : Nat) (p : Int32) (g : Nat → Int32), (∀ j : Nat, j < m → fl_kk (g (B + 3 * j)) (g (B + 3 * j + 2))) → rp_ssk b n r m p = 0 →
    (∀ j : Nat, j < rq_sn b n r m p → fl_kk (rq_ss b n B r m p g (B + 3 * j)) (rq_ss b n B r m p g (B + 3 * j + 2))) ∧ (∀ j : Nat, (j < B + 3 * m ∨ B + 3 * m + 3 * r ≤ j) → rq_ss b n B r m p g j = g j) ∧ rq_sn b n r m p ≤ m + r
  | 0, m, p, g, h, k => ⟨h, fun _ _ => rfl, Nat.le_refl _⟩
  | r + 1, m, p, g, h, k => by
    unfold rp_ssk at k
    unfold rq_sn rq_ss
    by_cases q : rp_let b n (rp_sk b n p) = true
    · rw [if_pos q] at k
      rw [if_pos q, if_pos q]
      obtain ⟨k1, k2⟩ := rp_k20 k
      obtain ⟨s1, s2⟩ := fl_stE (P := B + 3 * m) (g := g) k1
      obtain ⟨a1, a2, a3⟩ := fl_ssE r (m + 1) (rp_stp b n m (rp_sk b n p)) (rq_step b n m (rp_sk b n p) (B + 3 * m) g) (fun j hj => by
        by_cases z : j = m
        · rw [z]; exact s1
        · rw [s2 _ (by omega), s2 _ (by omega)]
          exact h j (by omega)) k2
      exact ⟨a1, fun j hj => (a2 j (by omega)).trans (s2 j (by omega)), by omega⟩
    · rw [if_neg q, if_neg q]
      exact ⟨h, fun _ _ => rfl, by omega⟩
theorem fl_Eprg {b : Nat → Int32} {n q : Int32} {g : Nat → Int32} (h : fl_E g) (hc : 0 ≤ (g 10).toInt ∧ (g 10).toInt < 4) (h11 : (g 11).toInt ≤ 4) (k : rp_ssk b n 12 0 (rp_we b n q) = 0) : fl_E (rq_prog b n q g) := by
  obtain ⟨K, hK⟩ : ∃ K : Nat, (g 10).toInt = K := ⟨(g 10).toInt.toNat, by omega⟩
  have hKn : (g 10).toInt.toNat = K := by omega
  unfold rq_prog
  rw [hKn]
  obtain ⟨V, Vo, Vn⟩ := fl_ssE (b := b) (n := n) (B := 97 + 37 * K) 12 0 (rp_we b n q) g (fun j hj => absurd hj (Nat.not_lt_zero j)) k
  generalize rq_sn b n 12 0 (rp_we b n q) = M at V Vn ⊢
  generalize rq_ss b n (97 + 37 * K) 12 0 (rp_we b n q) g = G at V Vo ⊢
  have gF : ∀ j : Nat, j ≠ 96 + 37 * K → j ≠ 10 → rq_cnt G (96 + 37 * K) M 10 j = G j := fun j h1 h2 => rq_cntF h1 h2
  have g10 : rq_cnt G (96 + 37 * K) M 10 10 = g 10 + 1 := (rq_cntC (by omega)).trans (by rw [Vo 10 (by omega)])
  have g10i : (rq_cnt G (96 + 37 * K) M 10 10).toInt = K + 1 := by rw [g10, rf_p1 (by omega), hK]
  obtain ⟨a, c, p⟩ := h
  refine ⟨?_, fun v hv m hm hm1 => ?_, fun x hx m hm hm1 j hj => ?_⟩
  · rw [gF 1 (by omega) (by omega), Vo 1 (by omega)]; exact a
  · rw [gF 11 (by omega) (by omega), Vo 11 (by omega)] at hv
    rw [gF _ (by omega) (by omega), Vo _ (by omega)] at hm
    obtain ⟨c1, c2⟩ := c v hv m hm hm1
    exact ⟨fun j hj => by rw [gF _ (by omega) (by omega), Vo _ (by omega)]; exact c1 j hj, fun j hj => by rw [gF _ (by omega) (by omega), Vo _ (by omega), gF _ (by omega) (by omega), Vo _ (by omega)]; exact c2 j hj⟩
  · rw [g10i] at hx
    by_cases z : x = K
    · subst z
      rw [rq_cntP (by omega)] at hm
      have em : M = m := by
        have e := congrArg Int32.toInt hm
        rw [fl_on (by omega), fl_on (by omega)] at e
        omega
      rw [gF _ (by omega) (by omega), gF _ (by omega) (by omega), show 99 + 37 * x + 3 * j = 97 + 37 * x + 3 * j + 2 from by omega]
      exact V j (by omega)
    · rw [gF _ (by omega) (by omega), Vo _ (by omega)] at hm
      rw [gF (97 + 37 * x + 3 * j) (by omega) (by omega), Vo (97 + 37 * x + 3 * j) (by omega), gF (99 + 37 * x + 3 * j) (by omega) (by omega), Vo (99 + 37 * x + 3 * j) (by omega)]
      exact p x (by omega) m hm hm1 j hj
theorem fl_Eo {g g1 : Nat → Int32} (h : fl_E g) (h10 : (g 10).toInt ≤ 4) (h11 : (g 11).toInt ≤ 4) (e : ∀ j : Nat, j < 244 → j ≠ 8 → j ≠ 9 → j ≠ 12 → j ≠ 17 → g1 j = g j) : fl_E g1 := by
  obtain ⟨a, c, p⟩ := h
  refine ⟨by rw [e 1 (by omega) (by omega) (by omega) (by omega) (by omega)]; exact a, fun v hv m hm hm1 => ?_, fun x hx m hm hm1 j hj => ?_⟩
  · rw [e 11 (by omega) (by omega) (by omega) (by omega) (by omega)] at hv
    rw [e _ (by omega) (by omega) (by omega) (by omega) (by omega)] at hm
    obtain ⟨c1, c2⟩ := c v hv m hm hm1
    exact ⟨fun j hj => by rw [e _ (by omega) (by omega) (by omega) (by omega) (by omega)]; exact c1 j hj, fun j hj => by rw [e (28 + 19 * v + j) (by omega) (by omega) (by omega) (by omega) (by omega), e (28 + 19 * v + (j + 1)) (by omega) (by omega) (by omega) (by omega) (by omega)]; exact c2 j hj⟩
  · rw [e 10 (by omega) (by omega) (by omega) (by omega) (by omega)] at hx
    rw [e _ (by omega) (by omega) (by omega) (by omega) (by omega)] at hm
    rw [e (97 + 37 * x + 3 * j) (by omega) (by omega) (by omega) (by omega) (by omega), e (99 + 37 * x + 3 * j) (by omega) (by omega) (by omega) (by omega) (by omega)]
    exact p x hx m hm hm1 j hj
theorem fl_Ecel {b : Nat → Int32} {n : Int32} {N : List (List Int32)} {q : Int32} {g : Nat → Int32} (h : fl_E g) (h10 : (g 10).toInt ≤ 4) (h11 : (g 11).toInt ≤ 4) : fl_E (rq_cell b n N q g) := by
  refine fl_Eo h h10 h11 (fun j hj _ j9 _ _ => ?_)
  unfold rq_cell rq_cellV
  rw [rf_upd_ne j9, rf_upd_ne (by omega), rf_upd_ne (by omega), rf_upd_ne (by omega), rf_upd_ne (by omega), rf_upd_ne (by omega)]
/-- a statement, a text -/
theorem fl_Et {b : Nat → Int32} {n q : Int32} {N : List (List Int32)} {np nc : Int} {g : Nat → Int32} {W : fw_W} {x : Nat → fw_C} (hn : n.toInt ≤ 800) (hq : 0 ≤ q.toInt ∧ q.toInt ≤ n.toInt) (s : sd g W x) (hN : rp_N N (W.1 11) W.2.2) (e10 : (g 10).toInt = np) (h : fl_E g) (k : rp_tk b n N np nc q = 0) : fl_E (rq_t b n N q g) := by
  have hb := s.2.1
  unfold sd_bds at hb
  have e11 : (g 11).toInt = N.length := by rw [s.1.2.2.2.2]; exact hN.1
  have q20 : 0 ≤ (rp_q2 b n q).toInt ∧ (rp_q2 b n q).toInt ≤ n.toInt := by
    have w0 := rp_we_b (b := b) (p := q) hn (by omega)
    have := rp_sk_b (b := b) (p := rp_we b n q) hn (by omega)
    show 0 ≤ (rp_sk b n (rp_we b n q)).toInt ∧ (rp_sk b n (rp_we b n q)).toInt ≤ n.toInt
    omega
  unfold rp_tk at k
  unfold rq_t
  by_cases c1 : rp_wh b n q = 1
  · rw [c1] at k ⊢
    have k' : rp_ck b n N q = 0 := k
    have hB := rp_cB hn q20 hN k'
    have nw := hB.2.2.2 _ (List.mem_append_right N (List.mem_singleton.mpr rfl))
    have h4 : ¬ 4 ≤ N.length := fun z => by
      rw [show rp_ck b n N q = 4 from if_pos z] at k'
      exact absurd k' (by decide)
    refine fl_Ecur (N := N) h (by omega) (by omega) (sd_wl hn q20 nw.1.2) ?_
    unfold rp_ck at k'
    rw [if_neg h4] at k'
    by_cases l : ¬ rp_let b n (rp_q2 b n q) = true
    · rw [if_pos l] at k'; exact absurd k' (by decide)
    · rw [if_neg l] at k'
      by_cases z : 6 < (rp_w b n (rp_q2 b n q)).length ∨ rp_w b n (rp_q2 b n q) ∈ N
      · rw [if_pos z] at k'; exact absurd k' (by decide)
      · rw [if_neg z] at k'; exact k'
  · by_cases c2 : rp_wh b n q = 2
    · rw [c2]
      exact fl_Ecel h (by omega) (by omega)
    · by_cases c3 : rp_wh b n q = 3
      · rw [c3] at k ⊢
        have k' : rp_gk b n np q = 0 := k
        have h4 : ¬ 4 ≤ np := fun z => by
          rw [show rp_gk b n np q = 4 from if_pos z] at k'
          exact absurd k' (by decide)
        unfold rp_gk at k'
        rw [if_neg h4] at k'
        exact fl_Eprg h (by omega) (by omega) k'
      · have c0 := rp_t0' c1 c2 c3
        rw [c0] at k ⊢
        exact fl_Eset h k
theorem fl_Ex {b : Nat → Int32} {n : Int32} (hn : n.toInt ≤ 800) : ∀ (r : Nat) (N : List (List Int32)) (np nc : Int) (p : Int32) (g : Nat → Int32) (W : fw_W) (x : Nat → fw_C), (0 ≤ p.toInt ∧ p.toInt ≤ n.toInt) → sd g W x → rp_N N (W.1 11) W.2.2 → N.Nodup → (g 9).toInt = nc → (g 10).toInt = np → rp_xk b n r N np nc p = 0 → fl_E g → fl_E (rq_x b n r N np nc p g)
  | 0, N, np, nc, p, g, W, x, hp, h, hN, hD, e9, e10, k, E => absurd k (by show ¬ (1 : Int32) = 0; decide)
  | r + 1, N, np, nc, p, g, W, x, hp, h, hN, hD, e9, e10, k, E => by
    have s := rp_sk_b (b := b) (p := p) hn hp
    have t := rp_tpb (b := b) (N := N) (np := np) (nc := nc) (q := rp_sk b n p) hn (by omega)
    have s2 := rp_sk_b (b := b) (p := rp_tp b n N np nc (rp_sk b n p)) hn (by omega)
    unfold rp_xk at k
    by_cases k0 : rp_tk b n N np nc (rp_sk b n p) = 0
    · rw [if_neg (fun z => z k0)] at k
      obtain ⟨a1, a2, a3, a4, a5⟩ := sd_t hn (by omega) h hN hD e9 e10 k0
      have E1 := fl_Et hn (by omega) h hN e10 E k0
      unfold rq_x
      by_cases c : rf_bt b n (rp_sk b n (rp_tp b n N np nc (rp_sk b n p))) = 59
      · rw [if_pos c] at k
        rw [if_pos c]
        have l : (rp_sk b n (rp_tp b n N np nc (rp_sk b n p))).toInt < n.toInt := rp_btl (fun z => by rw [z] at c; exact absurd c (by decide))
        have e2 : (rp_sk b n (rp_tp b n N np nc (rp_sk b n p)) + 1).toInt = (rp_sk b n (rp_tp b n N np nc (rp_sk b n p))).toInt + 1 := rf_p1 (by omega)
        exact fl_Ex hn r _ _ _ _ _ _ _ (by omega) a1 a2 a3 a4 a5 k E1
      · rw [if_neg c]
        exact E1
    · rw [if_pos k0] at k
      exact absurd k k0
/-- both together say all that is asked -/
theorem fl_DE {g : Nat → Int32} {W : fw_W} {x : Nat → fw_C} (s : sd g W x) (l : rf_L g) (E : fl_E g) : fl_D g := by
  obtain ⟨⟨s1, s2, s3, s4, s5, s6, s7, s8, s9, s10⟩, ⟨l1, l2⟩, l3, _⟩ := l
  obtain ⟨_, _, c, p, _⟩ := s
  obtain ⟨E1, E2, E3⟩ := E
  refine ⟨⟨s1, E1, l2, s2, l3⟩, fun v hv j hj => ?_, fun q hq => ?_⟩
  · obtain ⟨m, m1, m2, m3, _⟩ := c v (by omega)
    rw [m3, fl_on (by omega)] at hj
    exact (E2 v hv m m3 m2).1 j (by omega)
  · obtain ⟨a1, a2, a3⟩ := s6 q hq
    obtain ⟨m, m2, m3, _⟩ := p q (by omega)
    refine ⟨a1, fun j hj => ?_⟩
    have hj2 := hj
    rw [m3, fl_on (by omega)] at hj2
    refine ⟨s8 _ (by omega) (by omega), ?_⟩
    rcases E3 q hq m m3 m2 j (by omega) with z | z | z | z | ⟨z, z2⟩
    · exact Or.inl z
    · exact Or.inr (Or.inl z)
    · exact Or.inr (Or.inr (Or.inl z))
    · exact Or.inr (Or.inr (Or.inr (Or.inl z)))
    · exact Or.inr (Or.inr (Or.inr (Or.inr ⟨z, a3 j hj z, z2⟩)))
/-- what reading leaves of the class's world -/
def fl_j3 (j : Nat) : Prop := j = 8 ∨ j = 12 ∨ j = 18
theorem fl_rds {b : Nat → Int32} {n q : Int32} {W : fw_W} {j : Nat} (h : fl_j3 j) : (rd_set b n q W).1 j = W.1 j := by
  unfold rd_set
  split
  · rcases h with z | z | z <;> subst z <;> rfl
  · split
    · rcases h with z | z | z <;> subst z <;> rfl
    · split
      · rcases h with z | z | z <;> subst z <;> rfl
      · split
        · rcases h with z | z | z <;> subst z <;> rfl
        · split
          · rcases h with z | z | z <;> subst z <;> rfl
          · split
            · rcases h with z | z | z <;> subst z <;> rfl
            · split
              · rcases h with z | z | z <;> subst z <;> rfl
              · rfl
theorem fl_rdt {b : Nat → Int32} {n q : Int32} {W : fw_W} {x : Nat → fw_C} {j : Nat} (h : fl_j3 j) : (rd_tW b n q (W, x)).1.1 j = W.1 j := by
  unfold rd_tW
  by_cases c1 : rp_wh b n q = 1
  · rw [c1]
    show (rd_curve b n q W).1 j = W.1 j
    unfold rd_curve
    rw [(rd_vvx (b := b) (n := n) 11 0 0 (rp_we b n (rp_q2 b n q)) (fw_addC W (rp_cd (rp_w b n (rp_q2 b n q))))).1]
    rcases h with z | z | z <;> subst z <;> rfl
  · by_cases c2 : rp_wh b n q = 2
    · rw [c2]
      show (rd_cellW W).1 j = W.1 j
      rcases h with z | z | z <;> subst z <;> rfl
    · by_cases c3 : rp_wh b n q = 3
      · rw [c3]
        show (rd_prog b n q W).1 j = W.1 j
        unfold rd_prog
        rw [(rd_ssx (b := b) (n := n) 12 0 (rp_we b n q) (fw_addP W)).1]
        rcases h with z | z | z <;> subst z <;> rfl
      · have c0 := rp_t0' c1 c2 c3
        rw [c0]
        exact fl_rds h
theorem fl_rdx {b : Nat → Int32} {n : Int32} {j : Nat} (h : fl_j3 j) : ∀ (r : Nat) (N : List (List Int32)) (np nc : Int) (p : Int32) (W : fw_W) (x : Nat → fw_C), (rd_x b n r N np nc p (W, x)).1.1 j = W.1 j
  | 0, N, np, nc, p, W, x => rfl
  | r + 1, N, np, nc, p, W, x => by
    unfold rd_x
    split
    · exact (fl_rdx h r _ _ _ _ (rd_tW b n (rp_sk b n p) (W, x)).1 (rd_tW b n (rp_sk b n p) (W, x)).2).trans (fl_rdt h)
    · exact fl_rdt h
/-- the beginning of each channel stays -/
theorem fl_ldN {g : Nat → Int32} {k j : Nat} (hj : j < 298 + 54 * k) : ∀ m : Nat, rq_ld g (k + 1 + m) j = rq_ld g (k + 1) j
  | 0 => rfl
  | m + 1 => by
    have h : j < 244 + 54 * (k + 1 + m) := by omega
    have e : rq_ld g (k + 1 + (m + 1)) j = rq_ld g (k + 1 + m) j := rq_begF (Or.inl h)
    exact e.trans (fl_ldN hj m)
theorem fl_rq0 : rq_W0 1 = 100000 ∧ rq_W0 10 = 0 ∧ rq_W0 11 = 0 ∧ rq_W0 9 = 0 ∧ rq_W0 8 = 0 ∧ rq_W0 12 = 0 ∧ rq_W0 0 = 990 ∧ rq_W0 2 = 100 ∧ rq_W0 6 = 600 ∧ rq_W0 16 = 0 := ⟨rfl, rfl, rfl, rfl, rfl, rfl, rfl, rfl, rfl, rfl⟩
theorem fl_E0 {g0 : Nat → Int32} (e : q_eq 958 rq_W0 g0) : fl_E g0 := by
  obtain ⟨q1, q10, q11, _⟩ := fl_rq0
  have z : (0 : Int32).toInt = 0 := by decide
  refine ⟨by rw [e 1 (by omega), q1]; decide, fun v hv => ?_, fun p hp => ?_⟩
  · rw [e 11 (by omega), q11, z] at hv
    omega
  · rw [e 10 (by omega), q10, z] at hp
    omega
theorem sd_00 {g0 : Nat → Int32} (e : q_eq 958 rq_W0 g0) : sd g0 fw_W0 fw_X0 ∧ sd_N g0 fw_W0 := by
  have g9 : g0 9 = 0 := e 9 (by omega)
  have g10 : g0 10 = 0 := e 10 (by omega)
  have g11 : g0 11 = 0 := e 11 (by omega)
  refine ⟨⟨⟨fun j hj => ?_, fun j j1 j2 => ?_, g9, g10, g11⟩, ⟨?_, ?_, ?_⟩, ?_, ?_, ?_⟩, [], rp_N0 _, List.nodup_nil, rm_N0 g11⟩
  · rw [e j (by omega)]
    rcases (by omega : j = 0 ∨ j = 1 ∨ j = 2 ∨ j = 3 ∨ j = 4 ∨ j = 5 ∨ j = 6 ∨ j = 7) with z | z | z | z | z | z | z | z <;> subst z <;> rfl
  · rw [e j (by omega)]
    rcases (by omega : j = 13 ∨ j = 14 ∨ j = 15 ∨ j = 16) with z | z | z | z <;> subst z <;> rfl
  · rw [g9]; decide
  · rw [g10]; decide
  · rw [g11]; decide
  · rw [g11]; exact fun i hi => absurd hi (by rw [show (0 : Int32).toInt.toNat = 0 from by decide]; omega)
  · rw [g10]; exact fun i hi => absurd hi (by rw [show (0 : Int32).toInt.toNat = 0 from by decide]; omega)
  · rw [g9]; exact fun i hi => absurd hi (by rw [show (0 : Int32).toInt.toNat = 0 from by decide]; omega)
/-- a new object -/
theorem fl_Z0 {g0 : Nat → Int32} {su : Nat → Int64} (e : q_eq 958 rq_W0 g0) : fl_Z True g0 su fw_W0 fw_X0 := by
  obtain ⟨q1, q10, q11, q9, q8, q12, q0, q2, q6, q16⟩ := fl_rq0
  have z : (0 : Int32).toInt = 0 := by decide
  have w8 : fw_W0.1 8 = 0 := rfl
  have w12 : fw_W0.1 12 = 0 := rfl
  have w18 : fw_W0.1 18 = 0 := rfl
  refine ⟨(sd_00 e).1, ⟨⟨by rw [e 0 (by omega), q0]; decide, by rw [e 1 (by omega), q1]; decide, by rw [e 2 (by omega), q2]; decide, by rw [e 6 (by omega), q6]; decide, by rw [e 16 (by omega), q16]; decide⟩, fun v hv => ?_, fun p hp => ?_⟩, fun _ => by rw [e 8 (by omega), q8, w8], ?_, fun k hk => ?_⟩
  · rw [e 11 (by omega), q11, z] at hv
    omega
  · rw [e 10 (by omega), q10, z] at hp
    omega
  · refine ⟨by rw [e 12 (by omega), q12, w12], by rw [e 12 (by omega), q12, z]; omega, by rw [w18, z]; omega, fun _ => by rw [w18, z], fun i m hi => ?_⟩
    rw [e 12 (by omega), q12, z] at hi
    omega
  · rw [e 9 (by omega), q9, z] at hk
    omega
/-- a cell as it is behind insertCell() -/
theorem fl_inC {qa u : fw_C} {chg amb : Int32} {sta prg stp las wai hel chg1 lft cap thr pz tmp het cun vol res mca mre trr wfo wct : Int32} {bin bou sbo cin cou ein eou : Int64} {fbd ftb : Nat → Int32} (h : a_X1_insertCell (qa.1 12) (qa.2.2 3) (qa.2.2 0) chg amb sta prg stp las wai bin bou hel sbo chg1 lft cap thr pz tmp het cun vol cin cou ein eou res mca mre trr wfo wct fbd ftb)
    (hu : u = (fw_sr (fw_sl (fw_sl (fw_sl (fw_sl (fw_sr (fw_si (fw_si (fw_si (fw_si (fw_si (fw_si (fw_si (fw_si (fw_si (fw_si (fw_si (fw_si (fw_si (fw_si (fw_si (fw_sl (fw_si (fw_sl (fw_sl (fw_si (fw_si (fw_si (fw_si (fw_si qa 0 sta) 1 prg) 2 stp) 3 las) 39 wai) 4 bin) 5 bou) 21 hel) 6 sbo) 6 chg1) 16 lft) 7 cap) 18 thr) 8 pz) 9 tmp) 17 het) 4 cun) 5 vol) 19 res) 20 mca) 38 mre) 10 trr) 37 wfo) 36 wct) 0 ftb) 0 cin) 1 cou) 2 ein) 3 eou) 3 fbd)) :
    (∀ J : Nat, (J ≤ 1 ∨ J = 3 ∨ (4 ≤ J ∧ J ≤ 10) ∨ (16 ≤ J ∧ J ≤ 21) ∨ (36 ≤ J ∧ J ≤ 39)) → u.1 J = if J = 9 then amb else if J = 38 then -1 else if J = 20 then -1 else if J = 19 then -1 else if J = 7 then qa.1 12 else if J = 6 then chg else if J = 1 then -1 else 0) ∧ (∀ j : Nat, j < 7 → u.2.1 j = 0) ∧ (∀ j : Nat, j < 12 → u.2.2 0 j = 0) ∧ (∀ j : Nat, j < 10 → u.2.2 3 j = 0) ∧ sd_C qa u := by
  obtain ⟨re8, mc8, mr8, tr8, wf8, wc8, fb8, ⟨fb9, hf9, f1', f2', f3', f4', f5', f6', f7'⟩, tb8, ht8, i1, i2, i3, i4, i5, i6, i7, i8, i9, i10, i11, i12, i13, i14, i15, i16, i17, i18, i19, i20, i21, i22, i23, i24, i25, i26, i27, i28, i29, i30⟩ := h
  refine ⟨fun J hJ => ?_, fun j hj => ?_, fun j hj => ?_, fun j hj => ?_, ?_⟩
  · subst hu
    rcases fl_Jx hJ with z | z | z | z | z | z | z | z | z | z | z | z | z | z | z | z | z | z | z | z <;> subst z <;> first | exact i1 | exact i2 | exact i4 | exact i5 | exact i8 | exact i10 | exact i11 | exact i12 | exact i13 | exact i14 | exact i15 | exact i16 | exact i17 | exact i18 | exact i23.trans f1' | exact i24.trans f2' | exact i25.trans f3' | exact i26.trans f4' | exact i27.trans f5' | exact i28.trans f6'
  · subst hu
    rcases (by omega : j = 0 ∨ j = 1 ∨ j = 2 ∨ j = 3 ∨ j = 4 ∨ j = 5 ∨ j = 6) with z | z | z | z | z | z | z <;> subst z <;> first | exact i19 | exact i20 | exact i21 | exact i22 | exact i6 | exact i7 | exact i9
  · subst hu
    show ftb j = 0
    rw [i30, ht8 j, if_pos hj]
  · subst hu
    show fbd j = 0
    rw [i29, f7', hf9 j, if_pos hj]
  · subst hu
    exact sd_Csr (sd_Csl (sd_Csl (sd_Csl (sd_Csl (sd_Csr (fl_Ci sd_Cr) (by decide)))))) (by decide)
/-- the cells' curves never fall -/
def fl_mx (x : Nat → fw_C) (N : Int) : Prop := ∀ k : Nat, (k : Int) < N → ∀ n : Nat, (x k).1 11 = Int32.ofNat n → n ≤ 11 → ∀ j : Nat, j + 1 < n → ((x k).2.2 2 j).toInt ≤ ((x k).2.2 2 (j + 1)).toInt
theorem fl_mxn {W V : fw_W} {x : Nat → fw_C} (h : fl_mx x (W.1 9).toInt) (e : V.1 9 = W.1 9) : fl_mx x (V.1 9).toInt := by
  rw [e]
  exact h
theorem fl_mxs {x y : Nat → fw_C} {N : Int} (h : fl_mx x N) (s : sd_X N.toNat x y) : fl_mx y N := by
  intro k hk n hn n11 j hj
  obtain ⟨s1, s2⟩ := s k (by omega)
  rw [s1 11 (by omega) (by omega)] at hn
  rw [s2 j (by omega), s2 (j + 1) (by omega)]
  exact h k hk n hn n11 j hj
theorem fl_mxt {W V : fw_W} {x y : Nat → fw_C} (h : fl_mx x (W.1 9).toInt) (w : sd_W W V) (s : sd_X (W.1 9).toInt.toNat x y) : fl_mx y (V.1 9).toInt := fl_mxn (fl_mxs h s) (w.1 9 (by omega))
theorem fl_mxE {f : Nat → Int32} {W : fw_W} {x : Nat → fw_C} (E : fl_E f) (s : sd f W x) : fl_mx x (W.1 9).toInt := by
  obtain ⟨s1, b, c, _, o⟩ := s
  unfold sd_bds at b
  have h9 : f 9 = W.1 9 := s1.2.2.1
  intro k hk m hm m11 j hj
  obtain ⟨v, v1, v2, v3, v4, v5⟩ := o k (by rw [h9]; omega)
  obtain ⟨n, n1, n2, n3, n4, n5⟩ := c v v1
  have en := congrArg Int32.toInt (hm.symm.trans (v3.trans n4))
  rw [fl_on (by omega), fl_on (by omega)] at en
  have emn : m = n := by omega
  subst emn
  have e := (E.2.1 v (by omega) m n3 (by omega)).2 j hj
  rw [n5 j (by omega), n5 (j + 1) (by omega)] at e
  rw [n4, fl_on (by omega)] at v5
  rw [v5 j (by omega), v5 (j + 1) (by omega)]
  exact e
theorem fl_9_setAmbient {p r : Int32} {o o1 : Nat → Int64} {W V : fw_W} (c : t_L_setAmbient p o W r V o1) : V.1 9 = W.1 9 := by
  rcases c with ⟨_, rc, vc, ⟨c1, d, hd, c2, c3⟩, c4, c5, c6⟩ | ⟨c1, c2, c3, c4⟩
  · rw [c5, c3, hd]
    rfl
  · rw [c3]
theorem fl_9_setDerate {p r : Int32} {o o1 : Nat → Int64} {W V : fw_W} (c : t_L_setDerate p o W r V o1) : V.1 9 = W.1 9 := by
  rcases c with ⟨_, rc, vc, ⟨c1, d, hd, c2, c3⟩, c4, c5, c6⟩ | ⟨c1, c2, c3, c4⟩
  · rw [c5, c3, hd]
    rfl
  · rw [c3]
theorem fl_9_setLimits {p p2 r : Int32} {o o1 : Nat → Int64} {W V : fw_W} {x : Nat → fw_C} (c : t_L_setLimits p p2 o W x r V o1) : V.1 9 = W.1 9 := by
  rcases c with ⟨_, rc, vc, ⟨c1, c2, W3, hW, y1, y2, ⟨⟨b1, b2⟩, b3⟩, b4, b5, b6⟩, c4, c5, c6⟩ | ⟨c1, c2, c3, c4⟩
  · rw [c5, b6, hW]
    rfl
  · rw [c3]
theorem fl_mxc {tt : Prop} {f : Nat → Int32} {su : Nat → Int64} {W W0 V : fw_W} {x x0 y : Nat → fw_C} (Z : fl_Z tt f su W x) (h : fl_mx x (W.1 9).toInt) (c : t_copyFrom W0 W x0 x V y) : fl_mx y (V.1 9).toInt := by
  obtain ⟨d1, d2⟩ := sd_copy c
  have b := Z.1.2.1
  unfold sd_bds at b
  rw [Z.1.1.2.2.1] at b
  exact fl_mxt h d1 (d2 _ (by omega))
theorem fl_mx0 : fl_mx fw_X0 (fw_W0.1 9).toInt := fun k hk => absurd hk (by
  rw [show (fw_W0.1 9).toInt = 0 from by decide]
  omega)
/-- a slot's -/
def lw_sM (o : Option ((Nat → Nat) × fw_W × (Nat → fw_C))) : Prop := match o with
  | none => True
  | some q => fl_mx q.2.2 (q.2.1.1 9).toInt
theorem zl_load {f f1 : Nat → Int32} {b : Nat → Int32} {n r le1 : Int32} {va vb va1 vb1 : fw_W} {xa xb xa1 xb1 : Nat → fw_C} {su su1 : Nat → Int64} (hn : 0 ≤ n.toInt ∧ n.toInt ≤ 800) (Z : fl_Z True f su va xa) (c : t_load n b va vb xb xa r va1 vb1 xb1 xa1 le1) (m : (¬ rp_K b n = 0 → f1 = f ∧ su1 = su) ∧ (rp_K b n = 0 → rq_L b n f1 su1)) : fl_Z True f1 su1 va1 xa1 ∧ (fl_mx xa (va.1 9).toInt → fl_mx xa1 (va1.1 9).toInt) := by
  obtain ⟨W0, hc, W, x, pl, ws, er, ep, ⟨hT, hx⟩, h⟩ := c
  rcases h with ⟨e0, x2, hi, V, y, hp, e1, e2, e3, e4, e5, e7⟩ | ⟨e0, e1, e2, e3, e4, e5, e7⟩
  · have k := (hT.1 e0).1
    have hr := hx e0
    obtain ⟨g0, g, q0, hg, hl, hf, hs⟩ := m.2 k
    obtain ⟨s0, n0, m0, e9, e10⟩ := sd_0 (x := xb) q0 hc
    have z : (0 : Int32).toInt = 0 := by decide
    obtain ⟨N1, a1, a2, a3, a4⟩ := sd_x hn.2 802 [] 0 0 0 g0 W0 xb (by rw [z]; omega) s0 n0 List.nodup_nil m0 (by rw [e9]; exact z) (by rw [e10]; exact z) k
    have E := fl_Ex hn.2 802 [] 0 0 0 g0 W0 xb (by rw [z]; omega) s0 n0 List.nodup_nil (by rw [e9]; exact z) (by rw [e10]; exact z) k (fl_E0 q0)
    have w3 : ∀ j : Nat, fl_j3 j → W.1 j = W0.1 j := fun j hj => by
      have h := fl_rdx (b := b) (n := n) hj 802 [] 0 0 0 W0 xb
      rw [← hr] at h
      exact h
    rw [← hr, ← hg] at a1
    rw [← hg] at E
    have D := fl_DE a1 hl E
    obtain ⟨V0, hV0, e8⟩ := hc
    subst e8 hV0
    have w8 : W.1 8 = 0 := (w3 8 (Or.inl rfl)).trans rfl
    have w12 : W.1 12 = 0 := (w3 12 (Or.inr (Or.inl rfl))).trans rfl
    have w18 : W.1 18 = 0 := (w3 18 (Or.inr (Or.inr rfl))).trans rfl
    have gb := a1.2.1
    unfold sd_bds at gb
    have c9 : (g 9).toInt = (W.1 9).toInt := by rw [a1.1.2.2.1]
    have fj : ∀ j : Nat, j < 244 → f1 j = g j := fun j hj => (hf j (by omega)).trans (rq_ldF (Or.inl hj) _)
    have ff : sd_f g f1 := ⟨fun j j1 _ _ _ => fj j j1, fun k j k6 j1 j2 => (hf j (by omega)).trans (rq_ldF (Or.inr ⟨k, j1, j2⟩) _)⟩
    obtain ⟨⟨_, _, _, _, _, _, _, _, st9, _⟩, _, l3, l12, _, l8⟩ := hl
    have sd2 : sd f1 W x2 := sd_to a1 ff sd_Wr (sd_ins hi _ (by omega))
    have f9 : f1 9 = g 9 := fj 9 (by omega)
    have Zb : fl_Z True f1 su1 W x2 := by
      refine ⟨sd2, fl_Dk a1 (fun j hj _ _ => fj j hj) D, fun _ => by rw [fj 8 (by omega), l8, w8], ?_, fun i hik => ?_⟩
      · refine ⟨by rw [fj 12 (by omega), l12, w12], by rw [fj 12 (by omega), l12, z]; omega, by rw [w18, z]; omega, fun _ => by rw [w18, z], fun i m hi => ?_⟩
        rw [fj 12 (by omega), l12, z] at hi
        omega
      · rw [f9] at hik
        obtain ⟨y2, x3, ⟨⟨y0, y1⟩, hc3, _⟩, hy3, e3'⟩ := hi
        subst e3'
        have hy4 : (W.1 9).toInt ≤ y2.toInt := Int32.le_iff_toInt_le.mp hy3
        obtain ⟨sta, prg, stp, las, wai, bin, bou, hel, sbo, chg1, lft, cap, thr, pz, tmp, het, cun, vol, cin, cou, ein, eou, res, mca, mre, trr, wfo, wct, fbd, ftb, hin, hu⟩ := hc3.1 i (by omega)
        obtain ⟨v1, v2, v3, v4, v5⟩ := fl_inC hin hu
        obtain ⟨cv, _, _, _, q4, _⟩ := a1.2.2.2.2 i (by omega)
        have q4 : ∀ J : Nat, 12 ≤ J → J ≤ 15 → (x i).1 J = g (244 + 54 * i + J) := q4
        obtain ⟨_, r12, r13, r14, r15⟩ := st9 i hik
        have ld : ∀ J : Nat, 12 ≤ J → J ≤ 15 → rq_ld g i (244 + 54 * i + J) = (x i).1 J := fun J j1 j2 => (rq_ldF (Or.inr ⟨i, by omega, by omega⟩) i).trans (q4 J j1 j2).symm
        have t2 : (2 : Int32).toInt = 2 := by decide
        rw [← q4 12 (by omega) (by omega)] at r12
        have ed : ((x i).1 12 / 2).toInt = ((x i).1 12).toInt / 2 := by rw [Jvm.Kit.i32_div (by omega), t2, Int.tdiv_eq_ediv_of_nonneg (by omega)]
        obtain ⟨mm, em⟩ : ∃ mm : Nat, (g 9).toInt.toNat = i + 1 + mm := ⟨(g 9).toInt.toNat - (i + 1), by omega⟩
        exact fl_ins (f := rq_ld g i) (g := f1) (t := su1) (k := i) (chg := (x i).1 12 / 2) (amb := W.1 7) (nom := (x i).1 12) (W := W) (u := x2 i) (by omega) ((rq_ldF (Or.inl (by omega)) i).trans (a1.1.1 7 (by omega))) (fun J hJ => by
            rw [hf _ (by omega), em, fl_ldN (by omega) mm]
            show rq_beg (rq_ld g i) (244 + 54 * i) (rq_ld g i (244 + 54 * i + 12) / 2) _ = _
            rw [ld 12 (by omega) (by omega)]) (fun j hj => hs _ (by omega)) (ld 12 (by omega) (by omega)) (fun J j1 j2 => (v5.1 J (by omega) j2).trans (ld J j1 j2).symm) v1 v2 v3 v4
          (by rw [v5.1 12 (by omega) (by omega), v5.1 13 (by omega) (by omega), v5.1 14 (by omega) (by omega), v5.1 15 (by omega) (by omega), q4 13 (by omega) (by omega), q4 14 (by omega) (by omega), q4 15 (by omega) (by omega)]; exact ⟨r12, r13, r14, r15⟩) (by rw [ed]; omega)
    have Zn := fl_Zy Zb hp
    have E1 : fl_E f1 := fl_Eo E (by omega) (by omega) (fun j hj _ _ _ _ => fj j hj)
    rw [e2, e5]
    exact ⟨Zn, fun _ => fl_mxE E1 Zn.1⟩
  · have k := hT.2 e0
    have kn : ¬ rp_K b n = 0 := by rw [k.1]; exact e0
    obtain ⟨m1, m2⟩ := m.1 kn
    rw [e2, e5, m1, m2]
    exact ⟨Z, fun h => h⟩
/-- a slot on both sides -/
def lw_sZ (t : Nat → Int32) (z : Nat → Int64) (o : Option ((Nat → Nat) × fw_W × (Nat → fw_C))) : Prop := match o with
  | none => True
  | some q => fl_Z True t z q.2.1 q.2.2
theorem fl_Zsv {f s : Nat → Int32} {su z : Nat → Int64} {W W0 V : fw_W} {x x0 y : Nat → fw_C} (Z : fl_Z True f su W x) (a : q_eq 958 f s) (b : q_cs su z) (h : t_copyFrom W0 W x0 x V y) : fl_Z True s z V y := fl_Zf (fl_Zy Z h) a b
