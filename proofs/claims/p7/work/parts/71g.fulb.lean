/-- a step's kind and second number -/
theorem fl_stE {b : Nat → Int32} {n q : Int32} {m : Int} {P : Nat} {g : Nat → Int32} (k : rp_stk b n m q = 0) : fl_kk (rq_step b n m q P g P) (rq_step b n m q P g (P + 2)) ∧ ∀ j : Nat, (j < P ∨ P + 3 ≤ j) → rq_step b n m q P g j = g j := by
  unfold rp_stk at k
  unfold rq_step
  have o3 : ∀ {w : Nat → Int32} {x y z u : Int32} {j : Nat}, (j < P ∨ P + 3 ≤ j) → upd (upd (upd (upd w P x) (P + 2) y) (P + 1) z) (P + 2) u j = w j := fun h => by rw [rf_upd_ne (by omega), rf_upd_ne (by omega), rf_upd_ne (by omega), rf_upd_ne (by omega)]
  have o2 : ∀ {w : Nat → Int32} {x y z : Int32} {j : Nat}, (j < P ∨ P + 3 ≤ j) → upd (upd (upd w P x) (P + 2) y) (P + 1) z j = w j := fun h => by rw [rf_upd_ne (by omega), rf_upd_ne (by omega), rf_upd_ne (by omega)]
  have p3 : ∀ {w : Nat → Int32} {x y z u : Int32}, upd (upd (upd (upd w P x) (P + 2) y) (P + 1) z) (P + 2) u P = x := by
    intro w x y z u
    rw [rf_upd_ne (by omega), rf_upd_ne (by omega), rf_upd_ne (by omega), rf_upd_eq]
  have p2 : ∀ {w : Nat → Int32} {x y z : Int32}, upd (upd (upd w P x) (P + 2) y) (P + 1) z P = x := by
    intro w x y z
    rw [rf_upd_ne (by omega), rf_upd_ne (by omega), rf_upd_eq]
  split
  · exact ⟨Or.inl p3, fun j hj => o3 hj⟩
  · rename_i h1
    rw [if_neg h1] at k
    split
    · exact ⟨Or.inr (Or.inl p3), fun j hj => o3 hj⟩
    · rename_i h2
      rw [if_neg h2] at k
      split
      · exact ⟨Or.inr (Or.inr (Or.inl p3)), fun j hj => o3 hj⟩
      · rename_i h3
        rw [if_neg h3] at k
        split
        · exact ⟨Or.inr (Or.inr (Or.inr (Or.inl p2))), fun j hj => o2 hj⟩
        · rename_i h4
          rw [if_neg h4] at k
          split
          · rename_i h5
            rw [if_pos h5] at k
            obtain ⟨_, k2⟩ := rp_k20 k
            have r := (rp_rk0 k2).2
            refine ⟨Or.inr (Or.inr (Or.inr (Or.inr ⟨p3, ?_⟩))), fun j hj => o3 hj⟩
            rw [rf_upd_eq, fl_nv r (by omega) (by omega)]
            exact r.1
          · rename_i h5
            rw [if_neg h5] at k
            exact absurd k (by decide)
theorem fl_ssE {b : Nat → Int32} {n : Int32} {B : Nat} : ∀ (r m : Nat) (p : Int32) (g : Nat → Int32), (∀ j : Nat, j < m → fl_kk (g (B + 3 * j)) (g (B + 3 * j + 2))) → rp_ssk b n r m p = 0 →
    (∀ j : Nat, j < rq_sn b n r m p → fl_kk (rq_ss b n B r m p g (B + 3 * j)) (rq_ss b n B r m p g (B + 3 * j + 2))) ∧ (∀ j : Nat, (j < B + 3 * m ∨ B + 3 * m + 3 * r ≤ j) → rq_ss b n B r m p g j = g j) ∧ rq_sn b n r m p ≤ m + r
  | 0, m, p, g, h, k => ⟨h, fun _ _ => rfl, Nat.le_refl _⟩
  | r + 1, m, p, g, h, k => by
    unfold rp_ssk at k
    unfold rq_sn rq_ss
    by_cases q : rp_let b n (rp_sk b n p) = true
    · rw [if_pos q] at k
      rw [if_pos q, if_pos q]
      obtain ⟨k1, k2⟩ := rp_k20 k
      obtain ⟨s1, s2⟩ := fl_stE (P := B + 3 * m) (g := g) k1
      obtain ⟨a1, a2, a3⟩ := fl_ssE r (m + 1) (rp_stp b n m (rp_sk b n p)) (rq_step b n m (rp_sk b n p) (B + 3 * m) g) (fun j hj => by
        by_cases z : j = m
        · rw [z]; exact s1
        · rw [s2 _ (by omega), s2 _ (by omega)]
          exact h j (by omega)) k2
      exact ⟨a1, fun j hj => (a2 j (by omega)).trans (s2 j (by omega)), by omega⟩
    · rw [if_neg q, if_neg q]
      exact ⟨h, fun _ _ => rfl, by omega⟩
theorem fl_Eprg {b : Nat → Int32} {n q : Int32} {g : Nat → Int32} (h : fl_E g) (hc : 0 ≤ (g 10).toInt ∧ (g 10).toInt < 4) (h11 : (g 11).toInt ≤ 4) (k : rp_ssk b n 12 0 (rp_we b n q) = 0) : fl_E (rq_prog b n q g) := by
  obtain ⟨K, hK⟩ : ∃ K : Nat, (g 10).toInt = K := ⟨(g 10).toInt.toNat, by omega⟩
  have hKn : (g 10).toInt.toNat = K := by omega
  unfold rq_prog
  rw [hKn]
  obtain ⟨V, Vo, Vn⟩ := fl_ssE (b := b) (n := n) (B := 97 + 37 * K) 12 0 (rp_we b n q) g (fun j hj => absurd hj (Nat.not_lt_zero j)) k
  generalize rq_sn b n 12 0 (rp_we b n q) = M at V Vn ⊢
  generalize rq_ss b n (97 + 37 * K) 12 0 (rp_we b n q) g = G at V Vo ⊢
  have gF : ∀ j : Nat, j ≠ 96 + 37 * K → j ≠ 10 → rq_cnt G (96 + 37 * K) M 10 j = G j := fun j h1 h2 => rq_cntF h1 h2
  have g10 : rq_cnt G (96 + 37 * K) M 10 10 = g 10 + 1 := (rq_cntC (by omega)).trans (by rw [Vo 10 (by omega)])
  have g10i : (rq_cnt G (96 + 37 * K) M 10 10).toInt = K + 1 := by rw [g10, rf_p1 (by omega), hK]
  obtain ⟨a, c, p⟩ := h
  refine ⟨?_, fun v hv m hm hm1 => ?_, fun x hx m hm hm1 j hj => ?_⟩
  · rw [gF 1 (by omega) (by omega), Vo 1 (by omega)]; exact a
  · rw [gF 11 (by omega) (by omega), Vo 11 (by omega)] at hv
    rw [gF _ (by omega) (by omega), Vo _ (by omega)] at hm
    obtain ⟨c1, c2⟩ := c v hv m hm hm1
    exact ⟨fun j hj => by rw [gF _ (by omega) (by omega), Vo _ (by omega)]; exact c1 j hj, fun j hj => by rw [gF _ (by omega) (by omega), Vo _ (by omega), gF _ (by omega) (by omega), Vo _ (by omega)]; exact c2 j hj⟩
  · rw [g10i] at hx
    by_cases z : x = K
    · subst z
      rw [rq_cntP (by omega)] at hm
      have em : M = m := by
        have e := congrArg Int32.toInt hm
        rw [fl_on (by omega), fl_on (by omega)] at e
        omega
      rw [gF _ (by omega) (by omega), gF _ (by omega) (by omega), show 99 + 37 * x + 3 * j = 97 + 37 * x + 3 * j + 2 from by omega]
      exact V j (by omega)
    · rw [gF _ (by omega) (by omega), Vo _ (by omega)] at hm
      rw [gF (97 + 37 * x + 3 * j) (by omega) (by omega), Vo (97 + 37 * x + 3 * j) (by omega), gF (99 + 37 * x + 3 * j) (by omega) (by omega), Vo (99 + 37 * x + 3 * j) (by omega)]
      exact p x (by omega) m hm hm1 j hj
theorem fl_Eo {g g1 : Nat → Int32} (h : fl_E g) (h10 : (g 10).toInt ≤ 4) (h11 : (g 11).toInt ≤ 4) (e : ∀ j : Nat, j < 244 → j ≠ 8 → j ≠ 9 → j ≠ 12 → j ≠ 17 → g1 j = g j) : fl_E g1 := by
  obtain ⟨a, c, p⟩ := h
  refine ⟨by rw [e 1 (by omega) (by omega) (by omega) (by omega) (by omega)]; exact a, fun v hv m hm hm1 => ?_, fun x hx m hm hm1 j hj => ?_⟩
  · rw [e 11 (by omega) (by omega) (by omega) (by omega) (by omega)] at hv
    rw [e _ (by omega) (by omega) (by omega) (by omega) (by omega)] at hm
    obtain ⟨c1, c2⟩ := c v hv m hm hm1
    exact ⟨fun j hj => by rw [e _ (by omega) (by omega) (by omega) (by omega) (by omega)]; exact c1 j hj, fun j hj => by rw [e (28 + 19 * v + j) (by omega) (by omega) (by omega) (by omega) (by omega), e (28 + 19 * v + (j + 1)) (by omega) (by omega) (by omega) (by omega) (by omega)]; exact c2 j hj⟩
  · rw [e 10 (by omega) (by omega) (by omega) (by omega) (by omega)] at hx
    rw [e _ (by omega) (by omega) (by omega) (by omega) (by omega)] at hm
    rw [e (97 + 37 * x + 3 * j) (by omega) (by omega) (by omega) (by omega) (by omega), e (99 + 37 * x + 3 * j) (by omega) (by omega) (by omega) (by omega) (by omega)]
    exact p x hx m hm hm1 j hj
theorem fl_Ecel {b : Nat → Int32} {n : Int32} {N : List (List Int32)} {q : Int32} {g : Nat → Int32} (h : fl_E g) (h10 : (g 10).toInt ≤ 4) (h11 : (g 11).toInt ≤ 4) : fl_E (rq_cell b n N q g) := by
  refine fl_Eo h h10 h11 (fun j hj _ j9 _ _ => ?_)
  unfold rq_cell rq_cellV
  rw [rf_upd_ne j9, rf_upd_ne (by omega), rf_upd_ne (by omega), rf_upd_ne (by omega), rf_upd_ne (by omega), rf_upd_ne (by omega)]
/-- a statement, a text -/
theorem fl_Et {b : Nat → Int32} {n q : Int32} {N : List (List Int32)} {np nc : Int} {g : Nat → Int32} {W : fw_W} {x : Nat → fw_C} (hn : n.toInt ≤ 800) (hq : 0 ≤ q.toInt ∧ q.toInt ≤ n.toInt) (s : sd g W x) (hN : rp_N N (W.1 11) W.2.2) (e10 : (g 10).toInt = np) (h : fl_E g) (k : rp_tk b n N np nc q = 0) : fl_E (rq_t b n N q g) := by
  have hb := s.2.1
  unfold sd_bds at hb
  have e11 : (g 11).toInt = N.length := by rw [s.1.2.2.2.2]; exact hN.1
  have q20 : 0 ≤ (rp_q2 b n q).toInt ∧ (rp_q2 b n q).toInt ≤ n.toInt := by
    have w0 := rp_we_b (b := b) (p := q) hn (by omega)
    have := rp_sk_b (b := b) (p := rp_we b n q) hn (by omega)
    show 0 ≤ (rp_sk b n (rp_we b n q)).toInt ∧ (rp_sk b n (rp_we b n q)).toInt ≤ n.toInt
    omega
  unfold rp_tk at k
  unfold rq_t
  by_cases c1 : rp_wh b n q = 1
  · rw [c1] at k ⊢
    have k' : rp_ck b n N q = 0 := k
    have hB := rp_cB hn q20 hN k'
    have nw := hB.2.2.2 _ (List.mem_append_right N (List.mem_singleton.mpr rfl))
    have h4 : ¬ 4 ≤ N.length := fun z => by
      rw [show rp_ck b n N q = 4 from if_pos z] at k'
      exact absurd k' (by decide)
    refine fl_Ecur (N := N) h (by omega) (by omega) (sd_wl hn q20 nw.1.2) ?_
    unfold rp_ck at k'
    rw [if_neg h4] at k'
    by_cases l : ¬ rp_let b n (rp_q2 b n q) = true
    · rw [if_pos l] at k'; exact absurd k' (by decide)
    · rw [if_neg l] at k'
      by_cases z : 6 < (rp_w b n (rp_q2 b n q)).length ∨ rp_w b n (rp_q2 b n q) ∈ N
      · rw [if_pos z] at k'; exact absurd k' (by decide)
      · rw [if_neg z] at k'; exact k'
  · by_cases c2 : rp_wh b n q = 2
    · rw [c2]
      exact fl_Ecel h (by omega) (by omega)
    · by_cases c3 : rp_wh b n q = 3
      · rw [c3] at k ⊢
        have k' : rp_gk b n np q = 0 := k
        have h4 : ¬ 4 ≤ np := fun z => by
          rw [show rp_gk b n np q = 4 from if_pos z] at k'
          exact absurd k' (by decide)
        unfold rp_gk at k'
        rw [if_neg h4] at k'
        exact fl_Eprg h (by omega) (by omega) k'
      · have c0 := rp_t0' c1 c2 c3
        rw [c0] at k ⊢
        exact fl_Eset h k
