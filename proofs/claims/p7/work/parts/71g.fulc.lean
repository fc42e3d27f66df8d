theorem fl_Ex {b : Nat → Int32} {n : Int32} (hn : n.toInt ≤ 800) : ∀ (r : Nat) (N : List (List Int32)) (np nc : Int) (p : Int32) (g : Nat → Int32) (W : fw_W) (x : Nat → fw_C), (0 ≤ p.toInt ∧ p.toInt ≤ n.toInt) → sd g W x → rp_N N (W.1 11) W.2.2 → N.Nodup → (g 9).toInt = nc → (g 10).toInt = np → rp_xk b n r N np nc p = 0 → fl_E g → fl_E (rq_x b n r N np nc p g)
  | 0, N, np, nc, p, g, W, x, hp, h, hN, hD, e9, e10, k, E => absurd k (by show ¬ (1 : Int32) = 0; decide)
  | r + 1, N, np, nc, p, g, W, x, hp, h, hN, hD, e9, e10, k, E => by
    have s := rp_sk_b (b := b) (p := p) hn hp
    have t := rp_tpb (b := b) (N := N) (np := np) (nc := nc) (q := rp_sk b n p) hn (by omega)
    have s2 := rp_sk_b (b := b) (p := rp_tp b n N np nc (rp_sk b n p)) hn (by omega)
    unfold rp_xk at k
    by_cases k0 : rp_tk b n N np nc (rp_sk b n p) = 0
    · rw [if_neg (fun z => z k0)] at k
      obtain ⟨a1, a2, a3, a4, a5⟩ := sd_t hn (by omega) h hN hD e9 e10 k0
      have E1 := fl_Et hn (by omega) h hN e10 E k0
      unfold rq_x
      by_cases c : rf_bt b n (rp_sk b n (rp_tp b n N np nc (rp_sk b n p))) = 59
      · rw [if_pos c] at k
        rw [if_pos c]
        have l : (rp_sk b n (rp_tp b n N np nc (rp_sk b n p))).toInt < n.toInt := rp_btl (fun z => by rw [z] at c; exact absurd c (by decide))
        have e2 : (rp_sk b n (rp_tp b n N np nc (rp_sk b n p)) + 1).toInt = (rp_sk b n (rp_tp b n N np nc (rp_sk b n p))).toInt + 1 := rf_p1 (by omega)
        exact fl_Ex hn r _ _ _ _ _ _ _ (by omega) a1 a2 a3 a4 a5 k E1
      · rw [if_neg c]
        exact E1
    · rw [if_pos k0] at k
      exact absurd k k0
/-- both together say all that is asked -/
theorem fl_DE {g : Nat → Int32} {W : fw_W} {x : Nat → fw_C} (s : sd g W x) (l : rf_L g) (E : fl_E g) : fl_D g := by
  obtain ⟨⟨s1, s2, s3, s4, s5, s6, s7, s8, s9, s10⟩, ⟨l1, l2⟩, l3, _⟩ := l
  obtain ⟨_, _, c, p, _⟩ := s
  obtain ⟨E1, E2, E3⟩ := E
  refine ⟨⟨s1, E1, l2, s2, l3⟩, fun v hv j hj => ?_, fun q hq => ?_⟩
  · obtain ⟨m, m1, m2, m3, _⟩ := c v (by omega)
    rw [m3, fl_on (by omega)] at hj
    exact (E2 v hv m m3 m2).1 j (by omega)
  · obtain ⟨a1, a2, a3⟩ := s6 q hq
    obtain ⟨m, m2, m3, _⟩ := p q (by omega)
    refine ⟨a1, fun j hj => ?_⟩
    have hj2 := hj
    rw [m3, fl_on (by omega)] at hj2
    refine ⟨s8 _ (by omega) (by omega), ?_⟩
    rcases E3 q hq m m3 m2 j (by omega) with z | z | z | z | ⟨z, z2⟩
    · exact Or.inl z
    · exact Or.inr (Or.inl z)
    · exact Or.inr (Or.inr (Or.inl z))
    · exact Or.inr (Or.inr (Or.inr (Or.inl z)))
    · exact Or.inr (Or.inr (Or.inr (Or.inr ⟨z, a3 j hj z, z2⟩)))
/-- what reading leaves of the class's world -/
def fl_j3 (j : Nat) : Prop := j = 8 ∨ j = 12 ∨ j = 18
theorem fl_rds {b : Nat → Int32} {n q : Int32} {W : fw_W} {j : Nat} (h : fl_j3 j) : (rd_set b n q W).1 j = W.1 j := by
  unfold rd_set
  split
  · rcases h with z | z | z <;> subst z <;> rfl
  · split
    · rcases h with z | z | z <;> subst z <;> rfl
    · split
      · rcases h with z | z | z <;> subst z <;> rfl
      · split
        · rcases h with z | z | z <;> subst z <;> rfl
        · split
          · rcases h with z | z | z <;> subst z <;> rfl
          · split
            · rcases h with z | z | z <;> subst z <;> rfl
            · split
              · rcases h with z | z | z <;> subst z <;> rfl
              · rfl
theorem fl_rdt {b : Nat → Int32} {n q : Int32} {W : fw_W} {x : Nat → fw_C} {j : Nat} (h : fl_j3 j) : (rd_tW b n q (W, x)).1.1 j = W.1 j := by
  unfold rd_tW
  by_cases c1 : rp_wh b n q = 1
  · rw [c1]
    show (rd_curve b n q W).1 j = W.1 j
    unfold rd_curve
    rw [(rd_vvx (b := b) (n := n) 11 0 0 (rp_we b n (rp_q2 b n q)) (fw_addC W (rp_cd (rp_w b n (rp_q2 b n q))))).1]
    rcases h with z | z | z <;> subst z <;> rfl
  · by_cases c2 : rp_wh b n q = 2
    · rw [c2]
      show (rd_cellW W).1 j = W.1 j
      rcases h with z | z | z <;> subst z <;> rfl
    · by_cases c3 : rp_wh b n q = 3
      · rw [c3]
        show (rd_prog b n q W).1 j = W.1 j
        unfold rd_prog
        rw [(rd_ssx (b := b) (n := n) 12 0 (rp_we b n q) (fw_addP W)).1]
        rcases h with z | z | z <;> subst z <;> rfl
      · have c0 := rp_t0' c1 c2 c3
        rw [c0]
        exact fl_rds h
theorem fl_rdx {b : Nat → Int32} {n : Int32} {j : Nat} (h : fl_j3 j) : ∀ (r : Nat) (N : List (List Int32)) (np nc : Int) (p : Int32) (W : fw_W) (x : Nat → fw_C), (rd_x b n r N np nc p (W, x)).1.1 j = W.1 j
  | 0, N, np, nc, p, W, x => rfl
  | r + 1, N, np, nc, p, W, x => by
    unfold rd_x
    split
    · exact (fl_rdx h r _ _ _ _ (rd_tW b n (rp_sk b n p) (W, x)).1 (rd_tW b n (rp_sk b n p) (W, x)).2).trans (fl_rdt h)
    · exact fl_rdt h
/-- the beginning of each channel stays -/
theorem fl_ldN {g : Nat → Int32} {k j : Nat} (hj : j < 298 + 54 * k) : ∀ m : Nat, rq_ld g (k + 1 + m) j = rq_ld g (k + 1) j
  | 0 => rfl
  | m + 1 => by
    have h : j < 244 + 54 * (k + 1 + m) := by omega
    have e : rq_ld g (k + 1 + (m + 1)) j = rq_ld g (k + 1 + m) j := rq_begF (Or.inl h)
    exact e.trans (fl_ldN hj m)
theorem fl_rq0 : rq_W0 1 = 100000 ∧ rq_W0 10 = 0 ∧ rq_W0 11 = 0 ∧ rq_W0 9 = 0 ∧ rq_W0 8 = 0 ∧ rq_W0 12 = 0 ∧ rq_W0 0 = 990 ∧ rq_W0 2 = 100 ∧ rq_W0 6 = 600 ∧ rq_W0 16 = 0 := ⟨rfl, rfl, rfl, rfl, rfl, rfl, rfl, rfl, rfl, rfl⟩
theorem fl_E0 {g0 : Nat → Int32} (e : q_eq 958 rq_W0 g0) : fl_E g0 := by
  obtain ⟨q1, q10, q11, _⟩ := fl_rq0
  have z : (0 : Int32).toInt = 0 := by decide
  refine ⟨by rw [e 1 (by omega), q1]; decide, fun v hv => ?_, fun p hp => ?_⟩
  · rw [e 11 (by omega), q11, z] at hv
    omega
  · rw [e 10 (by omega), q10, z] at hp
    omega
theorem sd_00 {g0 : Nat → Int32} (e : q_eq 958 rq_W0 g0) : sd g0 fw_W0 fw_X0 ∧ sd_N g0 fw_W0 := by
  have g9 : g0 9 = 0 := e 9 (by omega)
  have g10 : g0 10 = 0 := e 10 (by omega)
  have g11 : g0 11 = 0 := e 11 (by omega)
  refine ⟨⟨⟨fun j hj => ?_, fun j j1 j2 => ?_, g9, g10, g11⟩, ⟨?_, ?_, ?_⟩, ?_, ?_, ?_⟩, [], rp_N0 _, List.nodup_nil, rm_N0 g11⟩
  · rw [e j (by omega)]
    rcases (by omega : j = 0 ∨ j = 1 ∨ j = 2 ∨ j = 3 ∨ j = 4 ∨ j = 5 ∨ j = 6 ∨ j = 7) with z | z | z | z | z | z | z | z <;> subst z <;> rfl
  · rw [e j (by omega)]
    rcases (by omega : j = 13 ∨ j = 14 ∨ j = 15 ∨ j = 16) with z | z | z | z <;> subst z <;> rfl
  · rw [g9]; decide
  · rw [g10]; decide
  · rw [g11]; decide
  · rw [g11]; exact fun i hi => absurd hi (by rw [show (0 : Int32).toInt.toNat = 0 from by decide]; omega)
  · rw [g10]; exact fun i hi => absurd hi (by rw [show (0 : Int32).toInt.toNat = 0 from by decide]; omega)
  · rw [g9]; exact fun i hi => absurd hi (by rw [show (0 : Int32).toInt.toNat = 0 from by decide]; omega)
