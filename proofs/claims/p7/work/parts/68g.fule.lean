/-- a tick of a channel -/
theorem fl_tk {tt : Prop} {f f1 G : Nat → Int32} {su t : Nat → Int64} {men men1 r : Int32} {k : Nat} {qa1 : fw_C} {va va1 : fw_W} {x : Nat → fw_C} (s : sd f va x) (D : fl_D f) (hk : (k : Int) < (f 9).toInt) (C : fl_C f su k (x k)) (N : fl_nu (x k)) (A : fl_PA va (x k)) (R : fl_R tt f va) (e8 : tt → f 8 = va.1 8) (hr : q_X11_goes men f G su (Int32.ofNat k) men1 f1 t) (hb : t_tick k (x k) va r qa1 va1) : fl_C f1 t k qa1 ∧ fl_nu qa1 ∧ fl_PA va qa1 ∧ fl_R tt f1 va1 ∧ fl_out (Int32.ofNat k) f f1 ∧ (∀ j : Nat, (j < 7 * (Int32.ofNat k).toInt.toNat ∨ 7 * (Int32.ofNat k).toInt.toNat + 7 ≤ j) → t j = su j) ∧ men1 = (if r = 0 then men else men + 1) ∧ (∀ J : Nat, 11 ≤ J → J ≤ 15 → rf_of f1 (Int32.ofNat k) J = rf_of f (Int32.ofNat k) J) := by
  by_cases n1 : (x k).1 0 = 1
  · exact fl_tk1 s D hk C N A R e8 n1 hr hb
  · exact fl_tk0 s D hk C N A R e8 n1 hr hb
/-! the whole state of both sides -/
def fl_Z (tt : Prop) (f : Nat → Int32) (su : Nat → Int64) (W : fw_W) (x : Nat → fw_C) : Prop :=
  sd f W x ∧ fl_D f ∧ (tt → f 8 = W.1 8) ∧ fl_R tt f W ∧ ∀ k : Nat, (k : Int) < (f 9).toInt → fl_C f su k (x k) ∧ fl_nu (x k) ∧ fl_PA W (x k)
theorem fl_Dk {f g : Nat → Int32} {W : fw_W} {x : Nat → fw_C} (s : sd f W x) (a : fl_sm f g) (D : fl_D f) : fl_D g := by
  obtain ⟨_, ⟨b9, b10, b11⟩, c, p, _⟩ := s
  obtain ⟨d1, d2, d3⟩ := D
  unfold fl_D
  rw [a 0 (by omega) (by omega) (by omega), a 1 (by omega) (by omega) (by omega), a 2 (by omega) (by omega) (by omega), a 6 (by omega) (by omega) (by omega), a 16 (by omega) (by omega) (by omega), a 10 (by omega) (by omega) (by omega), a 11 (by omega) (by omega) (by omega)]
  refine ⟨d1, fun v hv j hj => ?_, fun q hq => ?_⟩
  · obtain ⟨n, n1, n2, n3, _⟩ := c v (by omega)
    rw [a (27 + 19 * v) (by omega) (by omega) (by omega)] at hj
    have hj2 := hj
    rw [n3, fl_on (by omega)] at hj2
    rw [a (28 + 19 * v + j) (by omega) (by omega) (by omega)]
    exact d2 v hv j hj
  · obtain ⟨e1, e2⟩ := d3 q hq
    rw [a (96 + 37 * q) (by omega) (by omega) (by omega)]
    refine ⟨e1, fun j hj => ?_⟩
    rw [a (97 + 37 * q + 3 * j) (by omega) (by omega) (by omega), a (98 + 37 * q + 3 * j) (by omega) (by omega) (by omega), a (99 + 37 * q + 3 * j) (by omega) (by omega) (by omega)]
    exact e2 j hj
theorem fl_Ck {f g : Nat → Int32} {su t : Nat → Int64} {k : Nat} {q : fw_C} (a : ∀ J : Nat, J < 54 → rf_of g (Int32.ofNat k) J = rf_of f (Int32.ofNat k) J) (b : ∀ j : Nat, j < 7 → t (7 * (Int32.ofNat k).toInt.toNat + j) = su (7 * (Int32.ofNat k).toInt.toNat + j)) (hw : (q.1 39).toInt ≤ 4) (C : fl_C f su k q) : fl_C g t k q := by
  obtain ⟨⟨⟨u0, u1, u39, u21⟩, ut, uq, ⟨us0, us1, us4, us5⟩, ua, un⟩, e, c2, c3, cb⟩ := C
  exact ⟨⟨⟨(a 0 (by omega)).trans u0, (a 1 (by omega)).trans u1, (a 39 (by omega)).trans u39, (a 21 (by omega)).trans u21⟩, fun j hj => (a _ (by omega)).trans (ut j hj), fun j hj => (a _ (by omega)).trans (uq j hj), ⟨(b 0 (by omega)).trans us0, (b 1 (by omega)).trans us1, (b 4 (by omega)).trans us4, (b 5 (by omega)).trans us5⟩, fun z => ⟨(a 2 (by omega)).trans (ua z).1, (a 3 (by omega)).trans (ua z).2.1, (b 6 (by omega)).trans (ua z).2.2⟩, fun z => ⟨(a 2 (by omega)).trans (un z).1, (a 3 (by omega)).trans (un z).2⟩⟩,
    fun J hJ => (a J (by unfold fl_e at hJ; omega)).trans (e J hJ), (b 2 (by omega)).trans c2, (b 3 (by omega)).trans c3, fun j hj => (a _ (by omega)).trans (cb j hj)⟩
theorem fl_PAk {W V : fw_W} {q : fw_C} (w : sd_W W V) (h4 : (W.1 10).toInt ≤ 4) (A : fl_PA W q) : fl_PA V q := by
  obtain ⟨w1, _, _, w2, w3, _⟩ := w
  have w10 := w1 10 (by omega)
  obtain ⟨a1, a2, a3⟩ := A
  unfold fl_PA
  rw [w10]
  refine ⟨fun z => ?_, a2, ?_⟩
  · obtain ⟨P, n, S, p1, p2, p3, p12, p4, p5, p6, p7⟩ := a1 z
    refine ⟨P, n, S, p1, p2, (w2 P (by omega)).trans p3, p12, p4, p5, fun j hj h => p6 j hj ((w3 3 (by omega) (by omega) _ (by omega)).symm.trans h), fun h => p7 ((w3 3 (by omega) (by omega) _ (by omega)).symm.trans h)⟩
  · rcases a3 with z | ⟨P, n, p1, p2, p3, p12, h⟩
    · exact Or.inl z
    · exact Or.inr ⟨P, n, p1, p2, (w2 P (by omega)).trans p3, p12, h⟩
theorem fl_Wx {x : Nat → fw_C} {k j : Nat} {c : fw_C} : fw_sx x k c j = if j = k then c else x j := rfl
/-- one channel moves, the rest stays -/
theorem fl_Zc {tt : Prop} {f f1 : Nat → Int32} {su t : Nat → Int64} {k : Nat} {qa1 : fw_C} {W W1 : fw_W} {x : Nat → fw_C} (Z : fl_Z tt f su W x) (hk : (k : Int) < (f 9).toInt) (o1 : fl_out (Int32.ofNat k) f f1) (t1 : ∀ j : Nat, (j < 7 * (Int32.ofNat k).toInt.toNat ∨ 7 * (Int32.ofNat k).toInt.toNat + 7 ≤ j) → t j = su j) (k1 : ∀ J : Nat, 11 ≤ J → J ≤ 15 → rf_of f1 (Int32.ofNat k) J = rf_of f (Int32.ofNat k) J)
    (d1 : sd_W W W1) (d2 : sd_C (x k) qa1) (w8 : W1.1 8 = W.1 8) (R1 : fl_R tt f1 W1) (C1 : fl_C f1 t k qa1) (N1 : fl_nu qa1) (A1 : fl_PA W qa1) : fl_Z tt f1 t W1 (fw_sx x k qa1) ∧ f1 9 = f 9 := by
  obtain ⟨s, D, e8, R, Q⟩ := Z
  have b9 := s.2.1.1
  have b10 := s.2.1.2.1
  have g10 := s.1.2.2.2.1
  have ek : (Int32.ofNat k).toInt = k := fl_on (by omega)
  have ekn : (Int32.ofNat k).toInt.toNat = k := by omega
  have sm := fl_outs o1
  have f9 : f1 9 = f 9 := sm 9 (by omega) (by omega) (by omega)
  have f8 : f1 8 = f 8 := sm 8 (by omega) (by omega) (by omega)
  have fs : sd_f f f1 := by
    refine ⟨fun j h1 h2 h3 h4 => sm j h1 h3 (by omega), fun i j hi h1 h2 => ?_⟩
    by_cases z : i = k
    · subst z
      have h := k1 (j - (244 + 54 * i)) (by omega) (by omega)
      unfold rf_of at h
      rw [ekn, show 244 + 54 * i + (j - (244 + 54 * i)) = j from by omega] at h
      exact h
    · exact o1 j (by omega) (by omega) (by omega) (by omega)
  refine ⟨⟨sd_to s fs d1 (sd_Xs d2), fl_Dk s sm D, fun y => f8.trans ((e8 y).trans w8.symm), R1, fun i hi => ?_⟩, f9⟩
  rw [f9] at hi
  rw [fl_Wx]
  by_cases z : i = k
  · subst z
    rw [if_pos rfl]
    exact ⟨C1, N1, fl_PAk d1 (by rw [← g10]; exact b10.2) A1⟩
  · rw [if_neg z]
    obtain ⟨C2, N2, A2⟩ := Q i hi
    have ei : (Int32.ofNat i).toInt = i := fl_on (by omega)
    have ein : (Int32.ofNat i).toInt.toNat = i := by omega
    exact ⟨fl_Ck (fun J hJ => o1 _ (by omega) (by omega) (by omega) (by omega)) (fun j hj => t1 _ (by omega)) N2.2.2.2.2.2 C2, N2, fl_PAk d1 (by rw [← g10]; exact b10.2) A2⟩
/-- a channel's tick in the whole state -/
theorem fl_zk {tt : Prop} {f f1 G : Nat → Int32} {su t : Nat → Int64} {men men1 r : Int32} {k : Nat} {qa1 : fw_C} {W W1 : fw_W} {x : Nat → fw_C} (Z : fl_Z tt f su W x) (hk : (k : Int) < (f 9).toInt) (hr : q_X11_goes men f G su (Int32.ofNat k) men1 f1 t) (hb : t_tick k (x k) W r qa1 W1) :
    fl_Z tt f1 t W1 (fw_sx x k qa1) ∧ men1 = (if r = 0 then men else men + 1) ∧ f1 9 = f 9 := by
  have ZZ := Z
  obtain ⟨s, D, e8, R, Q⟩ := ZZ
  obtain ⟨C, N, A⟩ := Q k hk
  obtain ⟨C1, N1, A1, R1, o1, t1, m1, k1⟩ := fl_tk s D hk C N A R e8 hr hb
  obtain ⟨d1, d2⟩ := d_tick hb
  have w8 : W1.1 8 = W.1 8 := by
    unfold t_tick at hb
    obtain ⟨_, _, _, _, _, _, _, _, _, _, _, _, _, _, _, _, _, _, _, _, _, _, _, _, _, _, _, _, _, _, _, _, _, _, _, _, _, _, _, ev1⟩ := hb
    exact (fl_v1 ev1).2.2.2
  obtain ⟨Z1, f9⟩ := fl_Zc Z hk o1 t1 k1 d1 d2 w8 R1 C1 N1 A1
  exact ⟨Z1, m1, f9⟩
/-- all channels' tick -/
theorem fl_gs {tt : Prop} {G : Nat → Int32} : ∀ (n : Nat) {f f1 : Nat → Int32} {su t : Nat → Int64} {men men1 e e1 : Int32} {W W1 : fw_W} {x x1 : Nat → fw_C}, (n : Int) ≤ (f 9).toInt → fl_Z tt f su W x → men = e → q_gs G n men f su men1 f1 t → fw_cs n x W e x1 W1 e1 → fl_Z tt f1 t W1 x1 ∧ men1 = e1 ∧ f1 9 = f 9
  | 0, f, f1, su, t, men, men1, e, e1, W, W1, x, x1, hn, Z, hm, h, g => by
    obtain ⟨h1, h2, h3⟩ := h
    obtain ⟨g1, g2, g3⟩ := g
    rw [h1, h2, h3, g1, g2, g3]
    exact ⟨Z, hm, rfl⟩
  | n + 1, f, f1, su, t, men, men1, e, e1, W, W1, x, x1, hn, Z, hm, h, g => by
    obtain ⟨m2, f2, s2, h1, h2⟩ := h
    obtain ⟨x2, W2, e2, r, c, g1, g2, g3, g4⟩ := g
    obtain ⟨Z2, q2, q3⟩ := fl_gs n (by omega) Z hm h1 g1
    obtain ⟨Z1, q4, q5⟩ := fl_zk Z2 (by rw [q3]; omega) h2 g2
    rw [g3, g4]
    refine ⟨Z1, ?_, q5.trans q3⟩
    rw [q4, q2, show Int32.ofInt 1 = (1 : Int32) from by decide]
theorem fl_cp {x : Nat → fw_C} {W : fw_W} {e : Int32} : ∀ (m : Nat) {n : Nat} {x1 : Nat → fw_C} {W1 : fw_W} {e1 : Int32}, fw_cs (n + m) x W e x1 W1 e1 → ∃ (x2 : Nat → fw_C) (W2 : fw_W) (e2 : Int32), fw_cs n x W e x2 W2 e2
  | 0, n, x1, W1, e1, h => ⟨x1, W1, e1, h⟩
  | m + 1, n, x1, W1, e1, h => by
    obtain ⟨x2, W2, e2, _, _, h1, _⟩ := h
    exact fl_cp m h1
/-- the time goes on -/
theorem fl_Zt {tt : Prop} {f : Nat → Int32} {su : Nat → Int64} {W : fw_W} {x : Nat → fw_C} {v w : Int32} (Z : fl_Z tt f su W x) (h : tt → v = w) : fl_Z tt (upd f 8 v) su (fw_si W 8 w) x := by
  obtain ⟨s, D, e8, R, Q⟩ := Z
  have n : ∀ j : Nat, j ≠ 8 → upd f 8 v j = f j := fun j hj => rf_upd_ne hj
  have dW : sd_W W (fw_si W 8 w) := sd_Wsi sd_Wr (Or.inl rfl)
  have g10 := s.1.2.2.2.1
  have b10 := s.2.1.2.1
  refine ⟨sd_to s ⟨fun j _ h2 _ _ => n j h2, fun i j _ h1 _ => n j (by omega)⟩ dW sd_Xr, ?_, fun y => ?_, fl_Rw R (fun j hj => n j (by omega)) rfl rfl rfl, fun k hk => ?_⟩
  · obtain ⟨d1, d2, d3⟩ := D
    unfold fl_D
    rw [n 0 (by omega), n 1 (by omega), n 2 (by omega), n 6 (by omega), n 16 (by omega), n 10 (by omega), n 11 (by omega)]
    refine ⟨d1, fun v hv j hj => ?_, fun q hq => ?_⟩
    · rw [n _ (by omega)] at hj
      rw [n _ (by omega)]
      exact d2 v hv j hj
    · rw [n _ (by omega)]
      refine ⟨(d3 q hq).1, fun j hj => ?_⟩
      rw [n _ (by omega), n _ (by omega), n _ (by omega)]
      exact (d3 q hq).2 j hj
  · rw [rf_upd_eq]
    exact h y
  · rw [n 9 (by omega)] at hk
    obtain ⟨C, N, A⟩ := Q k hk
    exact ⟨fl_Ck (fun J hJ => n _ (by omega)) (fun _ _ => rfl) N.2.2.2.2.2 C, N, fl_PAk dW (by rw [← g10]; exact b10.2) A⟩
