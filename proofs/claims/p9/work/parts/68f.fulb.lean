/-! the queue, and how a step is left -/
theorem fl_at4 {b : Nat → Int32} {i r : Int32} {K : Nat} (hi : i.toInt = K) (hK : K < 4) (h : a_X10_at_4 b i r) : r = b K := by
  have t : (4 : Int32).toInt = 4 := by decide
  have z : (0 : Int32).toInt = 0 := by decide
  rcases h with ⟨n, _⟩ | ⟨_, ⟨_, h⟩ | ⟨n, _⟩⟩
  · rw [Int32.lt_iff_toInt_lt] at n; omega
  · rw [h]
    exact congrArg b (by show i.toInt.toNat = K; omega)
  · rw [Int32.lt_iff_toInt_lt] at n; omega
theorem fl_ql {f f1 : Nat → Int32} {c wai r r2 wai1 : Int32} {fqu fqu1 : Nat → Int32} (hc : 0 ≤ c.toInt ∧ c.toInt < 6) (hw : 1 ≤ wai.toInt ∧ wai.toInt ≤ 4) (u39 : rf_of f c 39 = wai) (uq : ∀ j : Nat, (j : Int) < wai.toInt → rf_of f c (40 + j) = fqu j) (h : q_X11_leavesQueue f c r f1) (g : a_X1_takeWaiting wai fqu r2 wai1 fqu1) :
    r = fqu 0 ∧ r2 = fqu 0 ∧ wai1.toInt = wai.toInt - 1 ∧ rf_of f1 c 39 = wai1 ∧ (∀ j : Nat, (j : Int) < wai1.toInt → rf_of f1 c (40 + j) = fqu1 j) ∧ (∀ j : Nat, (j : Int) < wai1.toInt → fqu1 j = fqu (j + 1)) ∧ (∀ J : Nat, (J < 39 ∨ 43 ≤ J) → rf_of f1 c J = rf_of f c J) ∧ fl_out c f f1 ∧ fl_rec f f1 := by
  obtain ⟨a1, e1, a2, e2, a3, e3, a4, e4, er, e5⟩ := h
  obtain ⟨g1, g2, g3⟩ := g
  have o1 : (1 : Int32).toInt = 1 := by decide
  have z0 : (0 : Int32).toInt = 0 := by decide
  have ew : (wai - 1).toInt = wai.toInt - 1 := by rw [Jvm.Kit.i32_sub (by omega) (by omega), o1]
  have g4 : wai1 = wai - 1 := by
    by_cases q : (0 : Int32) < wai - 1
    · rw [g2, if_pos q]
    · rw [g2, if_neg q]
      rw [Int32.lt_iff_toInt_lt] at q
      exact Int32.toInt_inj.mp (by omega)
  have i1 : wai1.toInt = wai.toInt - 1 := by rw [g4]; exact ew
  have R1 : rf_of a1 c = upd (rf_of f c) 40 (rf_of f c 41) := by rw [e1, fl_ofu]
  have R2 : rf_of a2 c = upd (rf_of a1 c) 41 (rf_of f c 42) := by rw [e2, fl_ofu]; congr 1; rw [R1]; rfl
  have R3 : rf_of a3 c = upd (rf_of a2 c) 42 (rf_of f c 43) := by rw [e3, fl_ofu]; congr 1; rw [R2, R1]; rfl
  have R4 : rf_of f1 c = upd (rf_of a3 c) 39 (wai - 1) := by
    rw [e5, e4, fl_ofu]
    have : rf_of a3 c 39 = wai := by rw [R3, R2, R1, ← u39]; rfl
    rw [this]
  have w0 : rf_of f c 40 = fqu 0 := uq 0 (by omega)
  have q1 : ∀ j : Nat, (j : Int) < wai1.toInt → fqu1 j = fqu (j + 1) := fun j hj => by rw [g3 j (by omega), if_pos (by omega), if_pos (by omega)]
  refine ⟨by rw [er]; exact w0, fl_at4 (K := 0) (by decide) (by omega) g1, i1, ?_, fun j hj => ?_, q1, fun J hJ => ?_, ?_, ?_⟩
  · rw [R4, g4]; rfl
  · rw [q1 j hj, R4, R3, R2, R1, ← uq (j + 1) (by omega)]
    rcases (by omega : j = 0 ∨ j = 1 ∨ j = 2) with e | e | e <;> subst e <;> rfl
  · rw [R4, R3, R2, R1]
    unfold upd
    rw [if_neg (by omega), if_neg (by omega), if_neg (by omega), if_neg (by omega)]
  · rw [e5, e4, e3, e2, e1]
    exact fl_outt (fl_outu (by omega)) (fl_outt (fl_outu (by omega)) (fl_outt (fl_outu (by omega)) (fl_outu (by omega))))
  · rw [e5, e4, e3, e2, e1]
    exact fl_rect (fl_recu hc (by omega)) (fl_rect (fl_recu hc (by omega)) (fl_rect (fl_recu hc (by omega)) (fl_recu hc (by omega))))
theorem fl_stK {n k k1 : Nat} {K T M K2 T2 M2 B B1 : Nat → Int32} (e : ∀ j : Nat, j < n → K2 j = K j ∧ T2 j = T j ∧ M2 j = M j) (h : fl_stp n K T M k B k1 B1) : fl_stp n K2 T2 M2 k B k1 B1 := by
  obtain ⟨a, b, c⟩ := h
  obtain ⟨e1, e2, e3⟩ := e k a
  unfold fl_stp
  rw [e1, e2, e3]
  exact ⟨a, b, c⟩
theorem fl_rnK {n : Nat} {K T M K2 T2 M2 : Nat → Int32} (e : ∀ j : Nat, j < n → K2 j = K j ∧ T2 j = T j ∧ M2 j = M j) : ∀ (m : Nat) {k k1 : Nat} {B B1 : Nat → Int32}, fl_run n K T M m k B k1 B1 → fl_run n K2 T2 M2 m k B k1 B1
  | 0, _, _, _, _, h => h
  | m + 1, _, _, _, _, ⟨x, X, s, h⟩ => ⟨x, X, fl_stK e s, fl_rnK e m h⟩
/-- behind the last step nothing is counted -/
def fl_tu (n : Nat) (B C : Nat → Int32) : Prop := ∀ j : Nat, n ≤ j → j < 12 → C j = B j
theorem fl_rnt {n : Nat} {K T M : Nat → Int32} : ∀ (m : Nat) {k k1 : Nat} {B B1 : Nat → Int32}, fl_run n K T M m k B k1 B1 → fl_tu n B B1
  | 0, k, k1, B, B1, h => fun j _ hj => h.2 j hj
  | m + 1, k, k1, B, B1, h => fun j hn hj => by
    obtain ⟨k2, B2, ⟨a1, _, a3⟩, hr⟩ := h
    refine (fl_rnt m hr j hn hj).trans ?_
    rcases a3 with ⟨_, _, e⟩ | ⟨_, _, e⟩
    · rw [e j hj, if_neg (by omega)]
    · rw [e j hj, if_neg (by omega)]
/-- the step behind, on both sides -/
theorem fl_wy {f f5 : Nat → Int32} {c prg k y r : Int32} {P S n : Nat} {fsps fk ff fs B C : Nat → Int32} (hc : 0 ≤ c.toInt ∧ c.toInt < 6) (hp : prg.toInt = P) (hP : P < 4) (hs : fsps P = Int32.ofNat n) (hf : f (96 + 37 * P) = Int32.ofNat n)
    (e : ∀ j : Nat, j < n → f (97 + 37 * P + 3 * j) = fk (12 * P + j) ∧ f (98 + 37 * P + 3 * j) = ff (12 * P + j) ∧ f (99 + 37 * P + 3 * j) = fs (12 * P + j)) (pg : fl_pg n (fun j => fk (12 * P + j)) (fun j => ff (12 * P + j)) (fun j => fs (12 * P + j)))
    (hk : k.toInt = S) (hS : S ≤ n) (hb : ∀ j : Nat, j < 12 → rf_of f c (24 + j) = B j) (hl : fl_lo (fun j => fk (12 * P + j)) S B)
    (h : q_wy c prg k f y f5) (he : f5 (96 + 37 * P) ≤ y ∨ ¬ f5 (97 + 37 * P + 3 * y.toInt.toNat + 0) = 4) (g : a_sb fsps fk ff fs prg 48 k B r C) :
    r = y ∧ (∃ y0 : Nat, y.toInt = y0 ∧ y0 ≤ n ∧ fl_lo (fun j => fk (12 * P + j)) y0 C ∧ ¬ fl_go n (fun j => fk (12 * P + j)) y0) ∧ (∀ j : Nat, j < 12 → rf_of f5 c (24 + j) = C j) ∧ (∀ j : Nat, (j < 268 + 54 * c.toInt.toNat ∨ 280 + 54 * c.toInt.toNat ≤ j) → f5 j = f j) ∧ fl_tu n B C := by
  obtain ⟨m, h⟩ := h
  obtain ⟨q, r0, _, q2, q3, q4⟩ := fl_sb hp hP hs pg 48 hk hS g
  obtain ⟨b1, b2, b3⟩ := fl_rnb pg hS hl q3
  have q5 : ¬ fl_go n (fun j => fk (12 * P + j)) r0 := q4.resolve_left (by omega)
  have pg2 : fl_pg n (fun j => f (97 + 37 * P + 3 * j)) (fun j => f (98 + 37 * P + 3 * j)) (fun j => f (99 + 37 * P + 3 * j)) := ⟨pg.1, fun j hj hk => by
    obtain ⟨x1, x2, x3⟩ := e j hj
    have := pg.2 j hj (x1.symm.trans hk)
    show 0 ≤ (f (98 + 37 * P + 3 * j)).toInt ∧ (f (98 + 37 * P + 3 * j)).toInt < (j : Int) ∧ 1 ≤ (f (99 + 37 * P + 3 * j)).toInt
    rw [x2, x3]; exact this⟩
  obtain ⟨y0, y1, y2, y3, y4⟩ := fl_qw hc hp hP hf pg2 m hk hS h
  have y5 := fl_rnK (K2 := fun j => fk (12 * P + j)) (T2 := fun j => ff (12 * P + j)) (M2 := fun j => fs (12 * P + j)) (fun j hj => ⟨(e j hj).1.symm, (e j hj).2.1.symm, (e j hj).2.2.symm⟩) m y3
  have y6 : ¬ fl_go n (fun j => fk (12 * P + j)) y0 := fun ⟨z1, z2⟩ => by
    have hn12 := pg.1
    rcases he with he | he
    · rw [y4 _ (Or.inl (by omega)), hf, Int32.le_iff_toInt_le, fl_on (by omega)] at he
      omega
    · rw [y4 _ (Or.inl (by omega)), show y.toInt.toNat = y0 from by omega] at he
      exact he ((e y0 z1).1.trans z2)
  have q9 := fl_rnt q q3
  obtain ⟨_, w2, w3⟩ := fl_rn1 pg.1 q m hb q3 y5 q5 y6
  subst w2
  exact ⟨Int32.toInt_inj.mp (by omega), ⟨y0, y1, y2, b3, y6⟩, w3, y4, q9⟩
/-- a program on both sides -/
def fl_Pg (f fsps fk ff fs : Nat → Int32) (P n : Nat) : Prop := fsps P = Int32.ofNat n ∧ f (96 + 37 * P) = Int32.ofNat n ∧ (∀ j : Nat, j < n → f (97 + 37 * P + 3 * j) = fk (12 * P + j) ∧ f (98 + 37 * P + 3 * j) = ff (12 * P + j) ∧ f (99 + 37 * P + 3 * j) = fs (12 * P + j)) ∧ fl_pg n (fun j => fk (12 * P + j)) (fun j => ff (12 * P + j)) (fun j => fs (12 * P + j))
/-- the places of a channel that leaving a step leaves as they are -/
def fl_sq (J : Nat) : Prop := (4 ≤ J ∧ J ≤ 20) ∨ J = 22 ∨ J = 23 ∨ (36 ≤ J ∧ J < 39) ∨ (44 ≤ J ∧ J < 54)
theorem fl_sqt {J : Nat} (h : fl_sq J) : fl_st J := by
  unfold fl_sq at h
  unfold fl_st
  omega
theorem fl_lv {f f1 G : Nat → Int32} {su t : Nat → Int64} {c k idx tim llim lwid lold lsiz sta prg stp las wai hel sta1 prg1 stp1 las1 wai1 hel1 : Int32} {fln ftb fqu ftb1 fqu1 fsps fk ff fs : Nat → Int32} {bin bou sbo cin cou bin1 bou1 sbo1 : Int64} {P n S : Nat} (hc : 0 ≤ c.toInt ∧ c.toInt < 6) (hp : prg.toInt = P) (hP : P < 4) (pg : fl_Pg f fsps fk ff fs P n) (hS : stp.toInt = S) (hSn : S < n) (hl : fl_lo (fun j => fk (12 * P + j)) (S + 1) ftb) (hw : 0 ≤ wai.toInt ∧ wai.toInt ≤ 4) (ha : fl_ac sta) (U : fl_U f su c sta prg stp las wai hel bin bou sbo cin cou ftb fqu) (hk : k = stp + 1)
    (hr : q_comes f G su c k f1 t) (hb : a_X1_leaveStep idx sta prg stp las wai bin bou hel sbo cin cou ftb fqu tim fsps fk ff fs llim lwid lold lsiz fln sta1 prg1 stp1 las1 wai1 bin1 bou1 hel1 sbo1 ftb1 fqu1) :
    fl_U f1 t c sta1 prg1 stp1 las1 wai1 hel1 bin1 bou1 sbo1 cin cou ftb1 fqu1 ∧ (∀ J : Nat, fl_sq J → rf_of f1 c J = rf_of f c J) ∧ fl_out c f f1 ∧ fl_rec f f1 ∧ fl_su c su t ∧ (hel1 = hel ∨ hel1 = 0) ∧
    ((sta1 = sta ∧ prg1 = prg ∧ (∃ S1 : Nat, stp1.toInt = S1 ∧ S1 < n ∧ fl_lo (fun j => fk (12 * P + j)) S1 ftb1 ∧ ¬ fk (12 * P + S1) = 4) ∧ las1 = 0 ∧ wai1 = wai ∧ fqu1 = fqu ∧ fl_tu n ftb ftb1) ∨
      (sta1 = 3 ∧ prg1 = prg ∧ wai1 = wai ∧ fqu1 = fqu ∧ fl_tu n ftb ftb1) ∨
      (1 ≤ wai.toInt ∧ sta1 = 1 ∧ prg1 = fqu 0 ∧ stp1 = 0 ∧ wai1.toInt = wai.toInt - 1 ∧ (∀ j : Nat, (j : Int) < wai1.toInt → fqu1 j = fqu (j + 1)) ∧ ∀ j : Nat, j < 12 → ftb1 j = 0)) := by
  obtain ⟨⟨u0, u1, u39, u21⟩, ut, uq, ⟨us0, us1, us4, us5⟩, ua, un⟩ := U
  obtain ⟨p1, p2, p3, p4⟩ := pg
  have hn12 := p4.1
  obtain ⟨y, f5, g6, ⟨_, hwy, eg⟩, hbr⟩ := hr
  obtain ⟨_, _, _, _, r, ftb2, hsb, st, hst, hb⟩ := hb
  have eP : prg.toInt.toNat = P := by omega
  rw [u1] at hwy hbr
  rw [eP] at hbr
  rw [eg] at hbr
  have hk2 : k.toInt = (S + 1 : Nat) := by rw [hk, rf_p1 (by omega)]; omega
  have hsb : a_sb fsps fk ff fs prg 48 k ftb r ftb2 := by rw [hk]; exact hsb
  obtain ⟨er, ⟨y0, y1, y2, y3, y4⟩, eb, ef, et⟩ := fl_wy hc hp hP p1 p2 p3 p4 hk2 (by omega) ut hl hwy (hbr.elim (fun x => Or.inl x.1) (fun x => Or.inr x.2.1)) hsb
  have e5 : f5 (96 + 37 * P) = Int32.ofNat n := (ef _ (Or.inl (by omega))).trans p2
  have est : st = Int32.ofNat n := (fl_so hp hP hst).trans p1
  have ni : (Int32.ofNat n).toInt = n := fl_on (by omega)
  rw [e5] at hbr
  rw [er, est] at hb
  have o5 : ∀ J : Nat, (J < 24 ∨ 36 ≤ J) → rf_of f5 c J = rf_of f c J := fun J hJ => ef (244 + 54 * c.toInt.toNat + J) (by omega)
  have out5 : fl_out c f f5 := fun j h1 h2 h3 h4 => ef j (by omega)
  have rec5 : fl_rec f f5 := fun j hj => ef j (by omega)
  by_cases q : Int32.ofNat n ≤ y
  · have q2 : y = Int32.ofNat n := by
      rw [Int32.le_iff_toInt_le, ni] at q
      exact Int32.toInt_inj.mp (by omega)
    have hbr := (hbr.resolve_right (fun z => z.1 q)).2
    have hbr := hbr.resolve_left (fun z => z.1 q2)
    obtain ⟨_, a1, h1, a2, h2, r1, hr1, t1, ht1, f9, t9, ⟨b1, k1, b2, k2, hx⟩, e1, e2⟩ := hbr
    obtain ⟨_, _, _, _, _, hq⟩ := hb.resolve_right (fun z => z.1 q)
    have s1 := fl_sum hc (K := 1) (by decide) (by omega) hr1
    have s2 := fl_put hc (K := 6) (by decide) (by omega) ht1
    have T : t1 = vp_updL su (7 * c.toInt.toNat + 6) cou := by rw [s2, s1, us1]
    have Rb : ∀ J : Nat, J < 54 → rf_of b2 c J = upd (upd (upd (rf_of f5 c) 2 (-1)) 3 0) 0 3 J := fun J hJ => by
      rw [fl_kpr hc k2 hJ, k1, fl_ofu, h2, fl_ofu, h1, fl_ofu]
    have rb : ∀ J : Nat, (4 ≤ J ∧ J < 54) → rf_of b2 c J = rf_of f5 c J := fun J hJ => by
      rw [Rb J (by omega)]
      unfold upd
      rw [if_neg (by omega), if_neg (by omega), if_neg (by omega)]
    have rb1 : rf_of b2 c 1 = prg := by rw [Rb 1 (by omega)]; exact (o5 1 (by omega)).trans u1
    have w39 : rf_of b2 c 39 = wai := by rw [rb 39 (by omega), o5 39 (by omega)]; exact u39
    have sub : fl_su c su t1 := by rw [T]; exact fl_suu (by omega) (by omega)
    have outb : fl_out c f b2 := by
      refine fl_outt out5 (fl_outt ?_ (fl_kpo k2))
      rw [k1, h2, h1]
      exact fl_outt (fl_outu (by omega)) (fl_outt (fl_outu (by omega)) (fl_outu (by omega)))
    have recb : fl_rec f b2 := by
      refine fl_rect rec5 (fl_rect ?_ (fl_reck k2))
      rw [k1, h2, h1]
      exact fl_rect (fl_recu hc (by omega)) (fl_rect (fl_recu hc (by omega)) (fl_recu hc (by omega)))
    have n3 : ¬ fl_ac 3 := by
      unfold fl_ac
      decide
    have Ub : ∀ stp9 las9 sbo9, fl_U b2 t1 c 3 prg stp9 las9 wai hel bin bou sbo9 cin cou ftb2 fqu := fun stp9 las9 sbo9 => by
      refine ⟨⟨by rw [Rb 0 (by omega)]; rfl, rb1, w39, ?_⟩, fun j hj => ?_, fun j hj => ?_, ⟨?_, ?_, ?_, ?_⟩, fun z => absurd z n3, fun _ => ⟨by rw [Rb 2 (by omega)]; rfl, by rw [Rb 3 (by omega)]; rfl⟩⟩
      · rw [rb 21 (by omega), o5 21 (by omega)]; exact u21
      · rw [rb (24 + j) (by omega)]; exact eb j hj
      · rw [rb (40 + j) (by omega), o5 (40 + j) (by omega)]; exact uq j hj
      · rw [T, fl_uL, if_neg (by omega)]; exact us0
      · rw [T, fl_uL, if_neg (by omega)]; exact us1
      · rw [T, fl_uL, if_neg (by omega)]; exact us4
      · rw [T, fl_uL, if_neg (by omega)]; exact us5
    have sqb : ∀ J : Nat, fl_sq J → rf_of b2 c J = rf_of f c J := fun J hJ => by
      unfold fl_sq at hJ
      rw [rb J (by omega), o5 J (by omega)]
    rw [w39] at hx
    rw [e1, e2]
    rcases hq with ⟨z1, c1, c2, c3, c4, c5, c6, c7, c8, c9, c10, c11⟩ | ⟨z1, r2, wai2, fqu2, htk, sta2, prg2, stp2, las2, bin2, bou2, hel2, sbo2, ftb3, lo3, ls3, fl3, hbg, c1, c2, c3, c4, c5, c6, c7, c8, c9, c10, c11⟩
    · obtain ⟨_, x1, x2⟩ := hx.resolve_right (fun z => z.1 z1)
      rw [x1, x2, c1, c2, c3, c4, c5, c6, c7, c8, c9, c10, c11]
      exact ⟨Ub _ _ _, sqb, outb, recb, sub, Or.inl rfl, Or.inr (Or.inl ⟨rfl, rfl, rfl, rfl, et⟩)⟩
    · obtain ⟨_, r3, f31, hlq, f44, t45, hso, x1, x2⟩ := hx.resolve_left (fun z => z1 z.1)
      have w1 : 1 ≤ wai.toInt := by
        rw [Int32.le_iff_toInt_le, show (0 : Int32).toInt = 0 from by decide] at z1
        omega
      obtain ⟨l1, l2, l3, l4, l5, l6, l7, l8, l9⟩ := fl_ql hc ⟨w1, hw.2⟩ w39 (Ub stp las sbo).2.2.1 hlq htk
      rw [l1] at hso
      rw [l2] at hbg
      have U4 : fl_U f31 t1 c 3 prg stp las wai2 hel bin bou sbo cin cou ftb2 fqu2 := by
        obtain ⟨⟨v0, v1, v39, v21⟩, vt, vq, vs, va, vn⟩ := Ub stp las sbo
        refine ⟨⟨by rw [l7 0 (by omega)]; exact v0, by rw [l7 1 (by omega)]; exact v1, l4, by rw [l7 21 (by omega)]; exact v21⟩, fun j hj => ?_, l5, vs, fun z => absurd z n3, fun z => ⟨by rw [l7 2 (by omega)]; exact (vn z).1, by rw [l7 3 (by omega)]; exact (vn z).2⟩⟩
        rw [l7 (24 + j) (by omega)]; exact vt j hj
      obtain ⟨d1, d2, d3, d4, d5, d6, d7, d8, d9, d10⟩ := fl_bg hc (by omega) U4 hso hbg
      rw [x1, x2, c1, c2, c3, c4, c5, c6, c7, c8, c9, c10, c11]
      refine ⟨d1, fun J hJ => ?_, fl_outt outb (fl_outt l8 d3), fl_rect recb (fl_rect l9 d4), fl_sut sub d5, Or.inr d9, Or.inr (Or.inr ⟨w1, d6, d7, d8, l3, l6, d10⟩)⟩
      rw [d2 J (fl_sqt hJ), l7 J (by unfold fl_sq at hJ; omega)]
      exact sqb J hJ
  · have hbr := (hbr.resolve_left (fun z => q z.1)).2.2
    have q2 : ¬ y = Int32.ofNat n := fun z => q (by rw [z]; exact Int32.le_refl _)
    obtain ⟨_, a1, h1, a2, h2, r1, hr1, t1, ht1, e1, e2⟩ := hbr.resolve_right (fun z => q2 z.1)
    obtain ⟨_, c1, c2, c3, c4, c5, c6, c7, c8, c9, c10, c11⟩ := hb.resolve_left (fun z => q z.1)
    have s1 := fl_sum hc (K := 1) (by decide) (by omega) hr1
    have s2 := fl_put hc (K := 6) (by decide) (by omega) ht1
    have T : t1 = vp_updL su (7 * c.toInt.toNat + 6) cou := by rw [s2, s1, us1]
    have R : rf_of a2 c = upd (upd (rf_of f5 c) 2 y) 3 0 := by rw [h2, fl_ofu, h1, fl_ofu]
    have rb : ∀ J : Nat, (J < 2 ∨ 4 ≤ J) → rf_of a2 c J = rf_of f5 c J := fun J hJ => by
      rw [R]
      unfold upd
      rw [if_neg (by omega), if_neg (by omega)]
    have yn : y0 < n := by
      rw [Int32.le_iff_toInt_le, ni] at q
      omega
    rw [e1, e2, c1, c2, c3, c4, c5, c6, c7, c8, c9, c10, c11]
    refine ⟨⟨⟨?_, ?_, ?_, ?_⟩, fun j hj => ?_, fun j hj => ?_, ⟨?_, ?_, ?_, ?_⟩, fun _ => ⟨by rw [R]; rfl, by rw [R]; rfl, ?_⟩, fun z => absurd ha z⟩, fun J hJ => ?_, ?_, ?_, ?_, Or.inl rfl, Or.inl ⟨rfl, rfl, ⟨y0, y1, yn, y3, fun z => y4 ⟨yn, z⟩⟩, rfl, rfl, rfl, et⟩⟩
    · rw [rb 0 (by omega), o5 0 (by omega)]; exact u0
    · rw [rb 1 (by omega), o5 1 (by omega)]; exact u1
    · rw [rb 39 (by omega), o5 39 (by omega)]; exact u39
    · rw [rb 21 (by omega), o5 21 (by omega)]; exact u21
    · rw [rb (24 + j) (by omega)]; exact eb j hj
    · rw [rb (40 + j) (by omega), o5 (40 + j) (by omega)]; exact uq j hj
    · rw [T, fl_uL, if_neg (by omega)]; exact us0
    · rw [T, fl_uL, if_neg (by omega)]; exact us1
    · rw [T, fl_uL, if_neg (by omega)]; exact us4
    · rw [T, fl_uL, if_neg (by omega)]; exact us5
    · rw [T, fl_uL, if_pos rfl]
    · unfold fl_sq at hJ
      rw [rb J (by omega), o5 J (by omega)]
    · rw [h2, h1]; exact fl_outt out5 (fl_outt (fl_outu (by omega)) (fl_outu (by omega)))
    · rw [h2, h1]; exact fl_rect rec5 (fl_rect (fl_recu hc (by omega)) (fl_recu hc (by omega)))
    · rw [T]; exact fl_suu (by omega) (by omega)
/-! how full, and what is counted of it -/
def fl_pm (chg cap : Int32) : Int32 := ((1000 * chg.toInt64) / cap.toInt64).toInt32
def fl_bi (p : Int32) : Int32 := if 9 < p / 100 then 9 else p / 100
theorem fl_pmc {chg cap r : Int32} (hC : 1 ≤ cap.toInt) (h : a_X0_thousandths chg cap r) : r = fl_pm chg cap := by
  obtain ⟨q, h1, h2⟩ := h
  rw [h2, fl_q h1 (by rw [Jvm.Kit.i64_of_i32]; omega)]
  rfl
theorem fl_pmm {f : Nat → Int32} {c r : Int32} (h : q_X11_filled f c r) : r = fl_pm (rf_of f c 6) (rf_of f c 7) := h
theorem fl_pmb {chg cap : Int32} (hC : 1 ≤ cap.toInt) (hq : 0 ≤ chg.toInt ∧ chg.toInt ≤ 1000000) : 0 ≤ (fl_pm chg cap).toInt := by
  have k : (1000 : Int64).toInt = 1000 := by decide
  have e1 : (1000 * chg.toInt64).toInt = 1000 * chg.toInt := by rw [Jvm.Kit.i64_mul (by rw [k, Jvm.Kit.i64_of_i32]; omega) (by rw [k, Jvm.Kit.i64_of_i32]; omega), k, Jvm.Kit.i64_of_i32]
  have e2 : ((1000 * chg.toInt64) / cap.toInt64).toInt = (1000 * chg.toInt) / cap.toInt := by
    rw [Jvm.Kit.i64_div (by rw [Jvm.Kit.i64_of_i32]; omega), e1, Jvm.Kit.i64_of_i32, Int.tdiv_eq_ediv_of_nonneg (by omega)]
  have b1 := Int.ediv_nonneg (a := 1000 * chg.toInt) (b := cap.toInt) (by omega) (by omega)
  have b2 : (1000 * chg.toInt) / cap.toInt ≤ 1000 * chg.toInt := Int.ediv_le_self _ (by omega)
  unfold fl_pm
  rw [Jvm.Kit.i32_of_i64 (by rw [e2]; omega) (by rw [e2]; omega), e2]
  exact b1
theorem fl_bib {p : Int32} (h : 0 ≤ p.toInt) : 0 ≤ (fl_bi p).toInt ∧ (fl_bi p).toInt ≤ 9 := by
  have k : (100 : Int32).toInt = 100 := by decide
  have k9 : (9 : Int32).toInt = 9 := by decide
  have b := Int32.toInt_lt p
  have e : (p / 100).toInt = p.toInt / 100 := by rw [Jvm.Kit.i32_div (by omega), k, Int.tdiv_eq_ediv_of_nonneg h]
  unfold fl_bi
  by_cases q : 9 < p / 100
  · rw [if_pos q, k9]; omega
  · rw [if_neg q, e]
    rw [Int32.lt_iff_toInt_lt, k9, e] at q
    omega
theorem fl_b44 {p : Int32} (h : 0 ≤ p.toInt) : (44 + (if (p / 100) < 9 then (p / 100) else 9)).toInt.toNat = 44 + (fl_bi p).toInt.toNat := by
  have e : (if (p / 100) < 9 then (p / 100) else 9) = fl_bi p := fl_min
  have b := fl_bib h
  have k : (44 : Int32).toInt = 44 := by decide
  rw [e, Jvm.Kit.i32_add (by omega) (by omega), k]
  omega
theorem fl_at10 {b : Nat → Int32} {i r : Int32} {K : Nat} (hi : i.toInt = K) (hK : K < 10) (h : a_X10_at_10 b i r) : r = b K := by
  have t : (10 : Int32).toInt = 10 := by decide
  have z : (0 : Int32).toInt = 0 := by decide
  rcases h with ⟨n, _⟩ | ⟨_, ⟨_, h⟩ | ⟨n, _⟩⟩
  · rw [Int32.lt_iff_toInt_lt] at n; omega
  · rw [h]
    exact congrArg b (by show i.toInt.toNat = K; omega)
  · rw [Int32.lt_iff_toInt_lt] at n; omega
theorem fl_p10 {b b1 : Nat → Int32} {i v : Int32} {K : Nat} (hi : i.toInt = K) (hK : K < 10) (h : a_X10_put_10 b i v b1) : b1 = upd b K v := by
  have t : (10 : Int32).toInt = 10 := by decide
  have z : (0 : Int32).toInt = 0 := by decide
  rcases h with ⟨n, _⟩ | ⟨_, ⟨n, _⟩ | ⟨_, h⟩⟩
  · rw [Int32.lt_iff_toInt_lt] at n; omega
  · rw [Int32.le_iff_toInt_le] at n; omega
  · rw [h, show i.toNatClampNeg = K from by show i.toInt.toNat = K; omega]
theorem fl_cf {fbd fbd1 : Nat → Int32} {p : Int32} (hp : 0 ≤ p.toInt) (h : a_X4_countFilling fbd p fbd1) : fbd1 = upd fbd (fl_bi p).toInt.toNat (fbd (fl_bi p).toInt.toNat + 1) := by
  have b := fl_bib hp
  obtain ⟨r, h1, b1, h2, e⟩ := h
  have e1 := fl_at10 (i := fl_bi p) (K := (fl_bi p).toInt.toNat) (by omega) (by omega) h1
  have e2 := fl_p10 (i := fl_bi p) (K := (fl_bi p).toInt.toNat) (by omega) (by omega) h2
  rw [e, e2, e1]
/-! the current that is asked for -/
def fl_w (k a rest pz ohm : Int32) : Int32 := if k = 0 then a else if k = 1 then fl_h a rest pz ohm else if k = 2 then - a else 0
theorem fl_wmm {f : Nat → Int32} {c r : Int32} {n v : Nat} (ok : fl_ok f c n v) (hk : rf_st3 f c 0 = 0 ∨ rf_st3 f c 0 = 1 ∨ rf_st3 f c 0 = 2 ∨ rf_st3 f c 0 = 3) (h : q_X11_wantedOf f c r) : r = fl_w (rf_st3 f c 0) (rf_st3 f c 1) (fl_V (fun j => f (28 + 19 * v + j)) (Int32.ofNat n) (rf_of f c 7) (rf_of f c 6)) (rf_of f c 8) (rf_of f c 13) := by
  have d0 : ¬ (1 : Int32) = 0 := by decide
  have d1 : ¬ (2 : Int32) = 0 := by decide
  have d2 : ¬ (2 : Int32) = 1 := by decide
  have d3 : ¬ (3 : Int32) = 0 := by decide
  have d4 : ¬ (3 : Int32) = 1 := by decide
  have d5 : ¬ (3 : Int32) = 2 := by decide
  have b := fl_okC ok
  obtain ⟨⟨_, ⟨o1, o2⟩, o3, o4⟩, _, ⟨o5, _⟩, _⟩ := ok
  unfold fl_w
  rcases h with ⟨n0, ⟨n3, ⟨n2, rest, h1, h2⟩ | ⟨k2, h2⟩⟩ | ⟨k3, h2⟩⟩ | ⟨k0, h2⟩
  · have k1 : rf_st3 f c 0 = 1 := hk.elim (fun z => absurd z n0) (fun z => z.elim id (fun z => z.elim (fun z => absurd z n2) (fun z => absurd z n3)))
    have e := fl_Rm o1 o2 o3 o4 (by omega) o5.1 h1
    rw [k1, if_neg d0, if_pos rfl, ← e]
    exact h2
  · rw [k2, if_neg d1, if_neg d2, if_pos rfl]; exact h2
  · rw [k3, if_neg d3, if_neg d4, if_neg d5]; exact h2
  · rw [if_pos k0]; exact h2
theorem fl_wcc {sta prg stp pts ohm chg cap pz r : Int32} {cv fk ff : Nat → Int32} {P S n : Nat} (hp : prg.toInt = P) (hs : stp.toInt = S) (hP : P < 4) (hS : S < 12) (hr : sta = 1) (hn : pts = Int32.ofNat n) (hn2 : 2 ≤ n ∧ n ≤ 11) (hC : 50 ≤ cap.toInt ∧ cap.toInt ≤ 100000) (hq : 0 ≤ chg.toInt ∧ chg.toInt ≤ 4 * cap.toInt + 2) (hz : -2500 ≤ pz.toInt ∧ pz.toInt ≤ 2500) (ho : 1 ≤ ohm.toInt) (hv : ∀ j : Nat, j < n → 0 ≤ (cv j).toInt ∧ (cv j).toInt ≤ 5000) (ha : 0 ≤ (ff (12 * P + S)).toInt ∧ (ff (12 * P + S)).toInt ≤ 5000) (h : a_X1_wantedCurrent sta prg stp pts ohm chg cap pz cv fk ff r) : r = fl_w (fk (12 * P + S)) (ff (12 * P + S)) (fl_V cv pts cap chg) pz ohm := by
  obtain ⟨_, a, h1, k, h2, h⟩ := h.resolve_right (fun z => z.1 hr)
  have e1 := fl_fs hp hs hP hS h1
  have e2 := fl_kd hp hs hP hS h2
  rw [← e1] at ha
  rw [← e1, ← e2]
  unfold fl_w
  rcases h with ⟨k0, h⟩ | ⟨k0, ⟨k1, x, ⟨rest, h3, q, h4, h5⟩, h⟩ | ⟨k1, ⟨k2, h⟩ | ⟨k2, h⟩⟩⟩
  · rw [if_pos k0]; exact h
  · have er := fl_Rc hn hn2 (by omega) hq.1 h3
    have vb := fl_Vb (a := cv) (n := n) (C := cap) (q := chg) hn2 hC.1 hq hC.2 hv
    rw [← hn, ← er] at vb
    rw [if_neg k0, if_pos k1, h, ← er]
    exact fl_hc ho ha vb hz h4 h5
  · rw [if_neg k0, if_neg k1, if_pos k2]; exact h
  · rw [if_neg k0, if_neg k1, if_neg k2]; exact h
theorem fl_wb {k a rest pz ohm : Int32} (ha : 0 ≤ a.toInt ∧ a.toInt ≤ 5000) : -5000 ≤ (fl_w k a rest pz ohm).toInt ∧ (fl_w k a rest pz ohm).toInt ≤ 5000 := by
  have z : (0 : Int32).toInt = 0 := by decide
  have b := fl_hb (held := a) (rest := rest) (pz := pz) (ohm := ohm)
  have e : (-a).toInt = -a.toInt := Jvm.Kit.i32_neg (by omega)
  unfold fl_w
  by_cases k0 : k = 0
  · rw [if_pos k0]; omega
  · rw [if_neg k0]
    by_cases k1 : k = 1
    · rw [if_pos k1]; omega
    · rw [if_neg k1]
      by_cases k2 : k = 2
      · rw [if_pos k2]; omega
      · rw [if_neg k2]; omega
theorem fl_w0 {sta prg stp pts ohm chg cap pz r : Int32} {cv fk ff : Nat → Int32} (hr : ¬ sta = 1) (h : a_X1_wantedCurrent sta prg stp pts ohm chg cap pz cv fk ff r) : r = 0 := (h.resolve_left (fun z => hr z.1)).2
theorem fl_A0 {spa hot tmp chg : Int32} (hs : 0 ≤ spa.toInt) (hc : 0 ≤ chg.toInt) : fl_A spa hot tmp chg 0 = 0 := by
  have z : (0 : Int32).toInt = 0 := by decide
  have e : (-chg).toInt = -chg.toInt := Jvm.Kit.i32_neg (by have := Int32.toInt_lt chg; omega)
  have d : fl_dr spa hot tmp 0 = 0 := by
    unfold fl_dr
    by_cases q : spa = 0
    · rw [if_pos q]
    · rw [if_neg q]
      by_cases w : tmp ≤ hot - spa
      · rw [if_pos w]
      · rw [if_neg w, Int32.zero_mul, Int32.zero_div]
  unfold fl_A
  rw [d, if_neg (by rw [Int32.lt_iff_toInt_lt, e, z]; omega)]
/-! what the end of a step measures -/
theorem fl_Uk {f f1 : Nat → Int32} {su t : Nat → Int64} {c sta prg stp las wai hel hel1 : Int32} {bin bou sbo cin cou bin1 bou1 : Int64} {ftb fqu : Nat → Int32} (hw : wai.toInt ≤ 4) (U : fl_U f su c sta prg stp las wai hel bin bou sbo cin cou ftb fqu) (k : ∀ J : Nat, J < 54 → J ≠ 19 → J ≠ 20 → J ≠ 21 → rf_of f1 c J = rf_of f c J) (h21 : rf_of f1 c 21 = hel1) (s0 : t (7 * c.toInt.toNat + 0) = su (7 * c.toInt.toNat + 0)) (s1 : t (7 * c.toInt.toNat + 1) = su (7 * c.toInt.toNat + 1)) (s6 : t (7 * c.toInt.toNat + 6) = su (7 * c.toInt.toNat + 6)) (s4 : t (7 * c.toInt.toNat + 4) = cin - bin1) (s5 : t (7 * c.toInt.toNat + 5) = cou - bou1) : fl_U f1 t c sta prg stp las wai hel1 bin1 bou1 sbo cin cou ftb fqu := by
  obtain ⟨⟨u0, u1, u39, u21⟩, ut, uq, ⟨us0, us1, us4, us5⟩, ua, un⟩ := U
  refine ⟨⟨?_, ?_, ?_, h21⟩, fun j hj => ?_, fun j hj => ?_, ⟨s0.trans us0, s1.trans us1, s4, s5⟩, fun z => ?_, fun z => ?_⟩
  · rw [k 0 (by omega) (by omega) (by omega) (by omega)]; exact u0
  · rw [k 1 (by omega) (by omega) (by omega) (by omega)]; exact u1
  · rw [k 39 (by omega) (by omega) (by omega) (by omega)]; exact u39
  · rw [k (24 + j) (by omega) (by omega) (by omega) (by omega)]; exact ut j hj
  · rw [k (40 + j) (by omega) (by omega) (by omega) (by omega)]; exact uq j hj
  · rw [k 2 (by omega) (by omega) (by omega) (by omega), k 3 (by omega) (by omega) (by omega) (by omega), s6]; exact ua z
  · rw [k 2 (by omega) (by omega) (by omega) (by omega), k 3 (by omega) (by omega) (by omega) (by omega)]; exact un z
theorem fl_cl {f f1 : Nat → Int32} {su t : Nat → Int64} {c : Int32} (hc : 0 ≤ c.toInt ∧ c.toInt < 6) (h : q_X11_clears f su c f1 t) : f1 = upd f (244 + 54 * c.toInt.toNat + 21) 0 ∧ t = vp_updL (vp_updL su (7 * c.toInt.toNat + 4) 0) (7 * c.toInt.toNat + 5) 0 := by
  obtain ⟨s1, h1, s2, h2, g, h3, e1, e2⟩ := h
  have a1 := fl_put hc (K := 4) (by decide) (by omega) h1
  have a2 := fl_put hc (K := 5) (by decide) (by omega) h2
  exact ⟨by rw [e1, h3], by rw [e2, a2, a1]⟩
/-- a record, and what it leaves: m is the measured place 20 -/
theorem fl_e2 {tt : Prop} {f fa f1 : Nat → Int32} {su t : Nat → Int64} {c prg stp vol tim old siz mca mca1 old1 siz1 hel hel1 sta las wai b m : Int32} {bin bou sbo cin cou bin1 bou1 : Int64} {fs fr fr1 ftb fqu : Nat → Int32} {W : fw_W} {P S : Nat} (hc : 0 ≤ c.toInt ∧ c.toInt < 6) (hp : prg.toInt = P) (hs : stp.toInt = S) (hP : P < 4) (hS : S < 12) (hw : wai.toInt ≤ 4) (e8 : tt → f 8 = tim) (R : fl_R tt f W) (w12 : W.1 12 = siz) (w18 : W.1 18 = old) (w6 : W.2.1 6 = fr)
    (U : fl_U f su c sta prg stp las wai hel bin bou sbo cin cou ftb fqu) (hb : (if b = 0 then (0 : Int32) else 1) = if ¬ fs (12 * P + S) < vol ∧ ¬ hel = 0 then 1 else 0) (hm : m = if ¬ fs (12 * P + S) < vol ∧ ¬ hel = 0 then (cou - sbo).toInt32 else mca)
    (h1 : q_X11_records f su c b fa) (h2 : f1 = upd (upd fa (244 + 54 * c.toInt.toNat + 20) m) (244 + 54 * c.toInt.toNat + 21) 0) (h3 : t = vp_updL (vp_updL su (7 * c.toInt.toNat + 4) 0) (7 * c.toInt.toNat + 5) 0)
    (h : a_X1_makeRecord c prg stp bin bou hel sbo vol cin cou mca tim fs 30 5 old siz fr bin1 bou1 hel1 mca1 old1 siz1 fr1) :
    fl_U f1 t c sta prg stp las wai hel1 bin1 bou1 sbo cin cou ftb fqu ∧ rf_of f1 c 20 = mca1 ∧ (∀ J : Nat, J < 54 → J ≠ 20 → J ≠ 21 → rf_of f1 c J = rf_of f c J) ∧ fl_out c f f1 ∧ fl_su c su t ∧ hel1 = 0 ∧ ∀ X : fw_W, X.1 12 = siz1 → X.1 18 = old1 → X.2.1 6 = fr1 → fl_R tt f1 X := by
  have RR := R
  obtain ⟨r1, r2, r3, r4, _⟩ := R
  rw [r1, w12] at r2 r4
  rw [w18] at r3 r4
  obtain ⟨a1, a2, a3, a4, K, k1, k2, k3⟩ := fl_rcc hp hs hP hS r3 r2 r4 h
  have g := fl_rcm hc (by rw [r1, w12]; exact r2) h1
  have us := U.2.2.2.1
  rw [us.2.2.1, us.2.2.2, hb] at g
  have ra : ∀ J : Nat, J < 54 → rf_of fa c J = rf_of f c J := fun J hJ => g.1 (244 + 54 * c.toInt.toNat + J) (by omega) (by omega)
  have rr : rf_of f1 c = upd (upd (rf_of fa c) 20 m) 21 0 := by rw [h2, fl_ofu, fl_ofu]
  have kk : ∀ J : Nat, J < 54 → J ≠ 20 → J ≠ 21 → rf_of f1 c J = rf_of f c J := fun J hJ j1 j2 => by
    rw [rr]
    unfold upd
    rw [if_neg j2, if_neg j1]
    exact ra J hJ
  have zz : ∀ x : Int64, x - x = 0 := fun x => Int64.sub_self x
  have out : fl_out c f f1 := by
    refine fl_outt (fun j j1 j2 _ _ => g.1 j j1 j2) ?_
    rw [h2]
    exact fl_outt (fl_outu (by omega)) (fl_outu (by omega))
  have rcd : fl_rec fa f1 := by
    rw [h2]
    exact fl_rect (fl_recu hc (by omega)) (fl_recu hc (by omega))
  refine ⟨?_, by rw [rr, a4, ← hm]; rfl, kk, out, ?_, a3, fun X x1 x2 x3 => ?_⟩
  · rw [a1, a2, a3]
    refine fl_Uk hw U (fun J hJ _ j2 j3 => kk J hJ j2 j3) (by rw [rr]; rfl) ?_ ?_ ?_ ?_ ?_
    · rw [h3, fl_uL, fl_uL, if_neg (by omega), if_neg (by omega)]
    · rw [h3, fl_uL, fl_uL, if_neg (by omega), if_neg (by omega)]
    · rw [h3, fl_uL, fl_uL, if_neg (by omega), if_neg (by omega)]
    · rw [h3, fl_uL, fl_uL, if_neg (by omega), if_pos (by omega), zz]
    · rw [h3, fl_uL, if_pos (by omega), zz]
  · rw [h3]; exact fl_sut (fl_suu (by omega) (by omega)) (fl_suu (by omega) (by omega))
  · exact fl_Rw (fl_Rn RR g (fl_v5e e8) k1 (by rw [w6]; exact k2) (by rw [w12, w18]; exact k3) X x1 x2 x3) rcd rfl rfl rfl
theorem fl_en {tt : Prop} {f f1 : Nat → Int32} {su t : Nat → Int64} {c prg stp vol tim old siz res mca res1 mca1 old1 siz1 hel hel1 sta las wai : Int32} {bin bou sbo cin cou bin1 bou1 : Int64} {fk fs fr fr1 ftb fqu : Nat → Int32} {W : fw_W} {P S : Nat} (hc : 0 ≤ c.toInt ∧ c.toInt < 6) (hp : prg.toInt = P) (hs : stp.toInt = S) (hP : P < 4) (hS : S < 12) (hw : wai.toInt ≤ 4) (hk : rf_st3 f c 0 = fk (12 * P + S)) (hk2 : rf_st3 f c 2 = fs (12 * P + S)) (h01 : hel = 0 ∨ hel = 1) (e5 : rf_of f c 5 = vol) (e8 : tt → f 8 = tim) (e19 : rf_of f c 19 = res) (e20 : rf_of f c 20 = mca) (R : fl_R tt f W) (w12 : W.1 12 = siz) (w18 : W.1 18 = old) (w6 : W.2.1 6 = fr)
    (U : fl_U f su c sta prg stp las wai hel bin bou sbo cin cou ftb fqu) (ha : fl_ac sta) (hr : q_X11_ends f su c f1 t) (hb : a_X1_measureEnd c prg stp bin bou hel sbo vol cin cou res mca tim fk fs 30 5 old siz fr bin1 bou1 hel1 res1 mca1 old1 siz1 fr1) :
    fl_U f1 t c sta prg stp las wai hel1 bin1 bou1 sbo cin cou ftb fqu ∧ rf_of f1 c 19 = res1 ∧ rf_of f1 c 20 = mca1 ∧ (∀ J : Nat, J < 54 → J ≠ 19 → J ≠ 20 → J ≠ 21 → rf_of f1 c J = rf_of f c J) ∧ fl_out c f f1 ∧ fl_su c su t ∧ (hel1 = 0 ∨ hel1 = 1) ∧ ∀ X : fw_W, X.1 12 = siz1 → X.1 18 = old1 → X.2.1 6 = fr1 → fl_R tt f1 X := by
  have d1 : ¬ (1 : Int32) = 3 := by decide
  have d2 : ¬ (1 : Int32) = 2 := by decide
  have d3 : ¬ (2 : Int32) = 1 := by decide
  have d4 : ¬ (2 : Int32) = 3 := by decide
  have d5 : ¬ (3 : Int32) = 1 := by decide
  have d6 : ¬ (3 : Int32) = 2 := by decide
  have u21 : rf_of f c 21 = hel := U.1.2.2.2
  have us := U.2.2.2.1
  obtain ⟨k, h1, hb⟩ := hb
  have ek := (fl_kd hp hs hP hS h1).trans hk.symm
  subst ek
  have R2 : ∀ {g : Nat → Int32}, fl_rec f g → ∀ X : fw_W, X.1 12 = siz → X.1 18 = old → X.2.1 6 = fr → fl_R tt g X := fun a X x1 x2 x3 => fl_Rw R a (x1.trans w12.symm) (x2.trans w18.symm) (x3.trans w6.symm)
  rcases hb with ⟨k1, c1, c2, c3, c4, c5, c6, c7, c8⟩ | ⟨k1, ⟨k2, x1, x2, x3, x4, x5, x6, x7, hm, c1, c2, c3, c4, c5, c6, c7, c8⟩ | ⟨k2, ⟨k3, c1, c2, c3, c4, c5, c6, c7, c8⟩ | ⟨k3, c1, c2, c3, c4, c5, c6, c7, c8⟩⟩⟩
  · obtain ⟨_, g, hg, hr⟩ := hr.resolve_left (fun z => z.1 k1)
    have hr := (hr.resolve_right (fun z => d1 (k1.symm.trans z.1))).2
    obtain ⟨_, e1, e2⟩ := hr.resolve_left (fun z => d2 (k1.symm.trans z.1))
    rw [c1, c2, c3, c4, c5, c6, c7, c8, e1, e2]
    have rr : rf_of g c = upd (rf_of f c) 21 1 := by rw [hg, fl_ofu]
    have kk : ∀ J : Nat, J < 54 → J ≠ 21 → rf_of g c J = rf_of f c J := fun J hJ j2 => by
      rw [rr]
      unfold upd
      rw [if_neg j2]
    refine ⟨fl_Uk hw U (fun J hJ _ _ j3 => kk J hJ j3) (by rw [rr]; rfl) rfl rfl rfl us.2.2.1 us.2.2.2, (kk 19 (by omega) (by omega)).trans e19, (kk 20 (by omega) (by omega)).trans e20, fun J hJ _ _ j3 => kk J hJ j3, ?_, fl_sur, Or.inr rfl, R2 ?_⟩
    · rw [hg]; exact fl_outu (by omega)
    · rw [hg]; exact fl_recu hc (by omega)
  · have hr := (hr.resolve_right (fun z => k1 z.1)).2
    have hr := (hr.resolve_right (fun z => d4 (k2.symm.trans z.1))).2
    have hr := (hr.resolve_right (fun z => z.1 k2)).2
    rw [c1, c2, c3, c4, c5, c6, c7, c8]
    rw [u21, hk2, e5] at hr
    have same : ∀ {fa : Nat → Int32} {b : Int32}, q_X11_records f su c b fa → upd fa (244 + 54 * c.toInt.toNat + 20) mca = fa := fun {fa b} q => by
      have g := fl_rcm hc R.2.1 q
      funext j
      unfold upd
      by_cases w : j = 244 + 54 * c.toInt.toNat + 20
      · rw [if_pos w, w, g.1 _ (by omega) (by omega)]; exact e20.symm
      · rw [if_neg w]
    rcases hr with ⟨n1, fa, q1, fb, tb, q2, e1, e2⟩ | ⟨y1, ⟨n2, fa, q1, fb, tb, q2, e1, e2⟩ | ⟨n2, fa, q1, x, s1, y, s2, fb, q2, fd, td, q3, e1, e2⟩⟩
    · have h0 : hel = 0 := h01.resolve_right n1
      have nn : ¬ (¬ fs (12 * P + S) < vol ∧ ¬ hel = 0) := fun z => z.2 h0
      obtain ⟨p1, p2⟩ := fl_cl hc q2
      obtain ⟨v1, v2, v3, v4, v5, v6, v7⟩ := fl_e2 (f1 := f1) (t := t) (b := 0) (m := mca) hc hp hs hP hS hw e8 R w12 w18 w6 U (by rw [if_neg nn, if_pos rfl]) (by rw [if_neg nn]) q1 (by rw [same q1, e1, p1]) (by rw [e2, p2]) hm
      exact ⟨v1, (v3 19 (by omega) (by omega) (by omega)).trans e19, v2, fun J hJ _ j2 j3 => v3 J hJ j2 j3, v4, v5, Or.inl v6, v7⟩
    · have nn : ¬ (¬ fs (12 * P + S) < vol ∧ ¬ hel = 0) := fun z => z.1 n2
      obtain ⟨p1, p2⟩ := fl_cl hc q2
      obtain ⟨v1, v2, v3, v4, v5, v6, v7⟩ := fl_e2 (f1 := f1) (t := t) (b := 0) (m := mca) hc hp hs hP hS hw e8 R w12 w18 w6 U (by rw [if_neg nn, if_pos rfl]) (by rw [if_neg nn]) q1 (by rw [same q1, e1, p1]) (by rw [e2, p2]) hm
      exact ⟨v1, (v3 19 (by omega) (by omega) (by omega)).trans e19, v2, fun J hJ _ j2 j3 => v3 J hJ j2 j3, v4, v5, Or.inl v6, v7⟩
    · have yy : ¬ fs (12 * P + S) < vol ∧ ¬ hel = 0 := ⟨n2, fun z => by rw [z] at y1; exact absurd y1 (by decide)⟩
      obtain ⟨p1, p2⟩ := fl_cl hc q3
      have y2 := fl_sum hc (K := 1) (by decide) (by omega) s1
      have y3 := fl_sum hc (K := 6) (by decide) (by omega) s2
      have y6 : su (7 * c.toInt.toNat + 6) = sbo := (U.2.2.2.2.1 ha).2.2
      obtain ⟨v1, v2, v3, v4, v5, v6, v7⟩ := fl_e2 (f1 := f1) (t := t) (b := 1) (m := (cou - sbo).toInt32) hc hp hs hP hS hw e8 R w12 w18 w6 U (by rw [if_pos yy, if_neg (by decide)]) (by rw [if_pos yy]) q1 (by rw [e1, p1, q2, y2, y3, us.2.1, y6]) (by rw [e2, p2]) hm
      exact ⟨v1, (v3 19 (by omega) (by omega) (by omega)).trans e19, v2, fun J hJ _ j2 j3 => v3 J hJ j2 j3, v4, v5, Or.inl v6, v7⟩
  · have hr := (hr.resolve_right (fun z => k1 z.1)).2
    obtain ⟨_, g, hg, hr⟩ := hr.resolve_left (fun z => z.1 k3)
    obtain ⟨_, e1, e2⟩ := hr.resolve_left (fun z => k2 z.1)
    rw [c1, c2, c3, c4, c5, c6, c7, c8, e1, e2]
    have rr : rf_of g c = upd (rf_of f c) 19 (rf_of f c 5) := by rw [hg, fl_ofu]
    have kk : ∀ J : Nat, J < 54 → J ≠ 19 → rf_of g c J = rf_of f c J := fun J hJ j2 => by
      rw [rr]
      unfold upd
      rw [if_neg j2]
    refine ⟨fl_Uk hw U (fun J hJ j1 _ _ => kk J hJ j1) ((kk 21 (by omega) (by omega)).trans u21) rfl rfl rfl us.2.2.1 us.2.2.2, by rw [rr]; exact e5, (kk 20 (by omega) (by omega)).trans e20, fun J hJ j1 _ _ => kk J hJ j1, ?_, fl_sur, h01, R2 ?_⟩
    · rw [hg]; exact fl_outu (by omega)
    · rw [hg]; exact fl_recu hc (by omega)
  · have hr := (hr.resolve_right (fun z => k1 z.1)).2
    have hr := (hr.resolve_right (fun z => k3 z.1)).2
    obtain ⟨_, e1, e2⟩ := hr.resolve_left (fun z => k2 z.1)
    rw [c1, c2, c3, c4, c5, c6, c7, c8, e1, e2]
    exact ⟨U, e19, e20, fun _ _ _ _ _ => rfl, fl_outr, fl_sur, h01, R2 fl_recr⟩
/-! how a running channel's tick ends -/
theorem fl_tr0 {las tmp vol low hig hot : Int32} {o : Bool} (h : fl_tr las tmp vol low hig hot o ≤ 0) : fl_tr las tmp vol low hig hot o = 0 := by
  unfold fl_tr at h ⊢
  by_cases a : vol ≤ hig
  · rw [if_pos a] at h ⊢
    by_cases b : low ≤ vol
    · rw [if_pos b] at h ⊢
      by_cases d : tmp ≤ hot
      · rw [if_pos d] at h ⊢
        by_cases e : las < 20000
        · rw [if_pos e]
        · rw [if_neg e] at h ⊢
          by_cases g : o = true
          · rw [if_pos g]
          · rw [if_neg g] at h; exact absurd h (by decide)
      · rw [if_neg d] at h; exact absurd h (by decide)
    · rw [if_neg b] at h; exact absurd h (by decide)
  · rw [if_neg a] at h; exact absurd h (by decide)
theorem fl_Ul {f : Nat → Int32} {su : Nat → Int64} {c sta prg stp las wai hel v : Int32} {bin bou sbo cin cou : Int64} {ftb fqu : Nat → Int32} (ha : fl_ac sta) (U : fl_U f su c sta prg stp las wai hel bin bou sbo cin cou ftb fqu) : fl_U (upd f (244 + 54 * c.toInt.toNat + 3) v) su c sta prg stp v wai hel bin bou sbo cin cou ftb fqu := by
  obtain ⟨⟨u0, u1, u39, u21⟩, ut, uq, us, ua, un⟩ := U
  have k : ∀ J : Nat, J ≠ 3 → rf_of (upd f (244 + 54 * c.toInt.toNat + 3) v) c J = rf_of f c J := fun J hJ => by
    rw [fl_ofu]
    unfold upd
    rw [if_neg hJ]
  refine ⟨⟨(k 0 (by omega)).trans u0, (k 1 (by omega)).trans u1, (k 39 (by omega)).trans u39, (k 21 (by omega)).trans u21⟩, fun j hj => (k _ (by omega)).trans (ut j hj), fun j hj => (k _ (by omega)).trans (uq j hj), us, fun z => ⟨(k 2 (by omega)).trans (ua z).1, ?_, (ua z).2.2⟩, fun z => absurd ha z⟩
  rw [fl_ofu]
  rfl
/-- the class's part, told once (its relation has it three times) -/
def fl_tl (c prg stp las wai : Int32) (bin bou : Int64) (hel : Int32) (sbo cin cou : Int64) (chg cun vol tmp res mca trr : Int32) (ftb fqu : Nat → Int32) (tim low hig hot : Int32) (fsps fk ff fs : Nat → Int32) (old siz : Int32) (fr : Nat → Int32) (llim lwid lold lsiz : Int32) (fln : Nat → Int32)
    (r sta1 prg1 stp1 las1 wai1 : Int32) (bin1 bou1 : Int64) (hel1 : Int32) (sbo1 : Int64) (res1 mca1 trr1 : Int32) (ftb1 fqu1 : Nat → Int32) (old1 siz1 : Int32) (fr1 : Nat → Int32) : Prop :=
  ∃ o : Int32, a_X1_stepEnds prg stp (las + 1) chg cun vol fk ff fs o ∧ ∃ w : Int32, a_X1_tripReason (las + 1) tmp vol low hig hot o w ∧
    ((w = 0 ∧ ((o = 0 ∧ (r = o ∧ sta1 = 1 ∧ prg1 = prg ∧ stp1 = stp ∧ las1 = las + 1 ∧ wai1 = wai ∧ bin1 = bin ∧ bou1 = bou ∧ hel1 = hel ∧ sbo1 = sbo ∧ res1 = res ∧ mca1 = mca ∧ trr1 = trr ∧ ftb1 = ftb ∧ fqu1 = fqu ∧ old1 = old ∧ siz1 = siz ∧ fr1 = fr)) ∨
      (¬ o = 0 ∧ ∃ (b2 o2 : Int64) (h2 : Int32), a_X1_measureEnd c prg stp bin bou hel sbo vol cin cou res mca tim fk fs 30 5 old siz fr b2 o2 h2 res1 mca1 old1 siz1 fr1 ∧
        a_X1_leaveStep c 1 prg stp (las + 1) wai b2 o2 h2 sbo cin cou ftb fqu tim fsps fk ff fs llim lwid lold lsiz fln sta1 prg1 stp1 las1 wai1 bin1 bou1 hel1 sbo1 ftb1 fqu1 ∧ r = o ∧ trr1 = trr))) ∨
     (¬ w = 0 ∧ r = 0 ∧ sta1 = 4 ∧ trr1 = w ∧ prg1 = prg ∧ stp1 = stp ∧ las1 = las + 1 ∧ wai1 = wai ∧ bin1 = bin ∧ bou1 = bou ∧ hel1 = hel ∧ sbo1 = sbo ∧ res1 = res ∧ mca1 = mca ∧ ftb1 = ftb ∧ fqu1 = fqu ∧ old1 = old ∧ siz1 = siz ∧ fr1 = fr))
/-- the places of a channel that the end of a tick leaves as they are -/
def fl_sw (J : Nat) : Prop := (4 ≤ J ∧ J ≤ 9) ∨ (11 ≤ J ∧ J ≤ 18) ∨ J = 22 ∨ J = 23 ∨ (36 ≤ J ∧ J < 39) ∨ (44 ≤ J ∧ J < 54)
def fl_nx (fk : Nat → Int32) (P n : Nat) (prg wai : Int32) (ftb fqu : Nat → Int32) (sta1 prg1 stp1 wai1 : Int32) (ftb1 fqu1 : Nat → Int32) : Prop :=
  ((sta1 = 1 ∨ sta1 = 4) ∧ prg1 = prg ∧ (∃ S1 : Nat, stp1.toInt = S1 ∧ S1 < n ∧ fl_lo (fun j => fk (12 * P + j)) S1 ftb1 ∧ ¬ fk (12 * P + S1) = 4) ∧ wai1 = wai ∧ fqu1 = fqu ∧ fl_tu n ftb ftb1) ∨
  (sta1 = 3 ∧ prg1 = prg ∧ wai1 = wai ∧ fqu1 = fqu ∧ fl_tu n ftb ftb1) ∨
  (1 ≤ wai.toInt ∧ sta1 = 1 ∧ prg1 = fqu 0 ∧ stp1 = 0 ∧ wai1.toInt = wai.toInt - 1 ∧ (∀ j : Nat, (j : Int) < wai1.toInt → fqu1 j = fqu (j + 1)) ∧ ∀ j : Nat, j < 12 → ftb1 j = 0)
theorem fl_wt {tt : Prop} {f f1 G : Nat → Int32} {su t : Nat → Int64} {men men1 c prg stp las wai chg cun vol tmp res mca trr tim low hig hot old siz llim lwid lold lsiz r sta1 prg1 stp1 las1 wai1 hel hel1 res1 mca1 trr1 old1 siz1 : Int32} {bin bou sbo cin cou bin1 bou1 sbo1 : Int64} {ftb fqu fsps fk ff fs fr fln ftb1 fqu1 fr1 : Nat → Int32} {W : fw_W} {P n S : Nat}
    (hc : 0 ≤ c.toInt ∧ c.toInt < 6) (hp : prg.toInt = P) (hP : P < 4) (pg : fl_Pg f fsps fk ff fs P n) (hS : stp.toInt = S) (hSn : S < n) (hl : fl_lo (fun j => fk (12 * P + j)) S ftb) (hk4 : ¬ fk (12 * P + S) = 4) (hw : 0 ≤ wai.toInt ∧ wai.toInt ≤ 4) (h01 : hel = 0 ∨ hel = 1)
    (e4 : rf_of f c 4 = cun) (e5 : rf_of f c 5 = vol) (e6 : rf_of f c 6 = chg) (e9 : rf_of f c 9 = tmp) (e10 : rf_of f c 10 = trr) (e19 : rf_of f c 19 = res) (e20 : rf_of f c 20 = mca) (g4 : f 4 = low) (g5 : f 5 = hig) (g6 : f 6 = hot) (e8 : tt → f 8 = tim)
    (R : fl_R tt f W) (w12 : W.1 12 = siz) (w18 : W.1 18 = old) (w6 : W.2.1 6 = fr) (U : fl_U f su c 1 prg stp las wai hel bin bou sbo cin cou ftb fqu)
    (hr : q_X11_watches men f G su c men1 f1 t) (hb : fl_tl c prg stp las wai bin bou hel sbo cin cou chg cun vol tmp res mca trr ftb fqu tim low hig hot fsps fk ff fs old siz fr llim lwid lold lsiz fln r sta1 prg1 stp1 las1 wai1 bin1 bou1 hel1 sbo1 res1 mca1 trr1 ftb1 fqu1 old1 siz1 fr1) :
    fl_U f1 t c sta1 prg1 stp1 las1 wai1 hel1 bin1 bou1 sbo1 cin cou ftb1 fqu1 ∧ (rf_of f1 c 10 = trr1 ∧ rf_of f1 c 19 = res1 ∧ rf_of f1 c 20 = mca1) ∧ (∀ J : Nat, fl_sw J → rf_of f1 c J = rf_of f c J) ∧ fl_out c f f1 ∧ fl_su c su t ∧ (hel1 = 0 ∨ hel1 = 1) ∧ (∀ X : fw_W, X.1 12 = siz1 → X.1 18 = old1 → X.2.1 6 = fr1 → fl_R tt f1 X) ∧ men1 = (if r = 0 then men else men + 1) ∧ fl_nx fk P n prg wai ftb fqu sta1 prg1 stp1 wai1 ftb1 fqu1 := by
  obtain ⟨f7, h7, w, hw2, hr⟩ := hr
  obtain ⟨o, ho, v, hv, hb⟩ := hb
  have hn12 := pg.2.2.2.1
  have ac1 : fl_ac 1 := Or.inl rfl
  have ua := U.2.2.2.2.1 ac1
  have U7 : fl_U f7 su c 1 prg stp (las + 1) wai hel bin bou sbo cin cou ftb fqu := by
    rw [h7, ua.2.1]; exact fl_Ul ac1 U
  have R7 : rf_of f7 c = upd (rf_of f c) 3 (las + 1) := by rw [h7, fl_ofu, ua.2.1]
  have k7 : ∀ J : Nat, J ≠ 3 → rf_of f7 c J = rf_of f c J := fun J hJ => by
    rw [R7]
    unfold upd
    rw [if_neg hJ]
  have o7 : fl_out c f f7 := by rw [h7]; exact fl_outu (by omega)
  have r7 : fl_rec f f7 := by rw [h7]; exact fl_recu hc (by omega)
  have s7 : ∀ j : Nat, j < 244 → f7 j = f j := fun j hj => by rw [h7]; exact rf_upd_ne (by omega)
  have st : ∀ x : Nat, rf_st3 f7 c x = f7 (97 + 37 * P + 3 * S + x) := fun x => by
    unfold rf_st3
    rw [U7.1.2.1, (U7.2.2.2.2.1 ac1).1, show prg.toInt.toNat = P from by omega, show stp.toInt.toNat = S from by omega]
  have st0 : rf_st3 f7 c 0 = fk (12 * P + S) := by rw [st, s7 _ (by omega)]; exact (pg.2.2.1 S hSn).1
  have st1 : rf_st3 f7 c 1 = ff (12 * P + S) := by rw [st, s7 _ (by omega), show 97 + 37 * P + 3 * S + 1 = 98 + 37 * P + 3 * S from by omega]; exact (pg.2.2.1 S hSn).2.1
  have st2 : rf_st3 f7 c 2 = fs (12 * P + S) := by rw [st, s7 _ (by omega), show 97 + 37 * P + 3 * S + 2 = 99 + 37 * P + 3 * S from by omega]; exact (pg.2.2.1 S hSn).2.2
  have l3 : rf_of f7 c 3 = las + 1 := by rw [R7]; rfl
  have eo := fl_ova hp hS hP (by omega) ho
  rw [eo] at hv
  have ev := fl_tra hv
  have ew := fl_trm hw2
  rw [st0, st1, st2, l3, k7 9 (by omega), k7 5 (by omega), k7 6 (by omega), k7 4 (by omega), s7 4 (by omega), s7 5 (by omega), s7 6 (by omega), e4, e5, e6, e9, g4, g5, g6, ← ev] at ew
  have out7 : ∀ J : Nat, fl_sw J → rf_of f7 c J = rf_of f c J := fun J hJ => k7 J (by unfold fl_sw at hJ; omega)
  have l1 : fl_lo (fun j => fk (12 * P + j)) (S + 1) ftb := fun j hj hk => by
    by_cases q : j = S
    · subst q; exact absurd hk hk4
    · exact hl j (by omega) hk
  rcases hr with ⟨z, x, hx, hr⟩ | ⟨z, f8, h8, f9, h9, f10, h10, m1, q1, q2⟩
  · have z0 : v = 0 := by
      rw [ew, ev] at z
      rw [ev]; exact fl_tr0 z
    have hb := hb.resolve_right (fun q => q.1 z0)
    have ex := fl_ovm hx
    rw [st0, st1, st2, l3, k7 6 (by omega), k7 4 (by omega), k7 5 (by omega), e4, e5, e6, ← eo] at ex
    rcases hb.2 with ⟨y, b1, c1, c2, c3, c4, c5, c6, c7, c8, c9, c10, c11, c12, c13, c14, c15, c16, c17⟩ | ⟨y, b2, o2, h2, hm, hlv, b1, c12⟩
    · obtain ⟨_, m1, q1, q2⟩ := hr.resolve_right (fun q => q.1 (ex.trans y))
      rw [b1, c1, c2, c3, c4, c5, c6, c7, c8, c9, c10, c11, c12, c13, c14, c15, c16, c17, m1, q1, q2, if_pos y]
      exact ⟨U7, ⟨(k7 10 (by omega)).trans e10, (k7 19 (by omega)).trans e19, (k7 20 (by omega)).trans e20⟩, out7, o7, fl_sur, h01, fun X x1 x2 x3 => fl_Rw R r7 (x1.trans w12.symm) (x2.trans w18.symm) (x3.trans w6.symm), rfl, Or.inl ⟨Or.inl rfl, rfl, ⟨S, hS, hSn, hl, hk4⟩, rfl, rfl, fun _ _ _ => rfl⟩⟩
    · obtain ⟨_, fa, sa, hen, fb, hkp, fc, sc, hco, m1, q1, q2⟩ := hr.resolve_left (fun q => y (ex.symm.trans q.1))
      have R7w : fl_R tt f7 W := fl_Rw R r7 rfl rfl rfl
      obtain ⟨a1, a2, a3, a4, a5, a6, a7, a8⟩ := fl_en hc hp hS hP (by omega) hw.2 st0 st2 h01 ((k7 5 (by omega)).trans e5) (fun q => (s7 8 (by omega)).trans (e8 q)) ((k7 19 (by omega)).trans e19) ((k7 20 (by omega)).trans e20) R7w w12 w18 w6 U7 ac1 hen hm
      have kb : ∀ J : Nat, J < 54 → rf_of fb c J = rf_of fa c J := fun J hJ => fl_kpr hc hkp hJ
      have Ub : fl_U fb sa c 1 prg stp (las + 1) wai h2 b2 o2 sbo cin cou ftb fqu := fl_Uk hw.2 a1 (fun J hJ _ _ _ => kb J hJ) ((kb 21 (by omega)).trans a1.1.2.2.2) rfl rfl rfl a1.2.2.2.1.2.2.1 a1.2.2.2.1.2.2.2
      have ob : fl_out c f fb := fl_outt o7 (fl_outt a5 (fl_kpo hkp))
      have pgb : fl_Pg fb fsps fk ff fs P n := ⟨pg.1, (ob _ (by omega) (by omega) (by omega) (by omega)).trans pg.2.1, fun j hj => ⟨(ob _ (by omega) (by omega) (by omega) (by omega)).trans (pg.2.2.1 j hj).1, (ob _ (by omega) (by omega) (by omega) (by omega)).trans (pg.2.2.1 j hj).2.1, (ob _ (by omega) (by omega) (by omega) (by omega)).trans (pg.2.2.1 j hj).2.2⟩, pg.2.2.2⟩
      obtain ⟨d1, d2, d3, d4, d5, dh, d6⟩ := fl_lv hc hp hP pgb hS hSn l1 hw ac1 Ub (by rw [(Ub.2.2.2.2.1 ac1).1]) hco hlv
      have hel1e : hel1 = 0 ∨ hel1 = 1 := dh.elim (fun q => by rw [q]; exact a7) Or.inl
      rw [b1, c12, m1, q1, q2, if_neg y]
      refine ⟨d1, ⟨?_, ?_, ?_⟩, fun J hJ => ?_, fl_outt ob d3, fl_sut a6 d5, hel1e, fun X x1 x2 x3 => fl_Rw (a8 X x1 x2 x3) (fl_rect (fl_reck hkp) d4) rfl rfl rfl, rfl, ?_⟩
      · rw [d2 10 (Or.inl (by omega)), kb 10 (by omega), a4 10 (by omega) (by omega) (by omega) (by omega), k7 10 (by omega)]; exact e10
      · rw [d2 19 (Or.inl (by omega)), kb 19 (by omega)]; exact a2
      · rw [d2 20 (Or.inl (by omega)), kb 20 (by omega)]; exact a3
      · have hJ2 : fl_sq J := by
          unfold fl_sw at hJ
          unfold fl_sq
          omega
        have hJ3 := hJ
        unfold fl_sw at hJ3
        rw [d2 J hJ2, kb J (by omega), a4 J (by omega) (by omega) (by omega) (by omega)]
        exact out7 J hJ
      · rcases d6 with ⟨z1, z2, z3, z4, z5, z6, z7⟩ | ⟨z1, z2, z3, z4, z5⟩ | z1
        · exact Or.inl ⟨Or.inl z1, z2, z3, z5, z6, z7⟩
        · exact Or.inr (Or.inl ⟨z1, z2, z3, z4, z5⟩)
        · exact Or.inr (Or.inr z1)
  · have z0 : ¬ v = 0 := fun q => z (by rw [ew, q]; decide)
    obtain ⟨_, b1, c1, c12, c2, c3, c4, c5, c6, c7, c8, c9, c10, c11, c13, c14, c15, c16, c17⟩ := hb.resolve_left (fun q => z0 q.1)
    have ac4 : fl_ac 4 := Or.inr (Or.inr rfl)
    have R9 : rf_of f9 c = upd (upd (rf_of f7 c) 0 4) 10 w := by rw [h9, fl_ofu, h8, fl_ofu]
    have k9 : ∀ J : Nat, J < 54 → J ≠ 0 → J ≠ 10 → rf_of f10 c J = rf_of f7 c J := fun J hJ j1 j2 => by
      rw [fl_kpr hc h10 hJ, R9]
      unfold upd
      rw [if_neg j2, if_neg j1]
    have o9 : fl_out c f f10 := by
      refine fl_outt o7 (fl_outt ?_ (fl_kpo h10))
      rw [h9, h8]
      exact fl_outt (fl_outu (by omega)) (fl_outu (by omega))
    have r9 : fl_rec f f10 := by
      refine fl_rect r7 (fl_rect ?_ (fl_reck h10))
      rw [h9, h8]
      exact fl_rect (fl_recu hc (by omega)) (fl_recu hc (by omega))
    obtain ⟨⟨u0, u1, u39, u21⟩, ut, uq, us, ub, un⟩ := U7
    rw [b1, c1, c2, c3, c4, c5, c6, c7, c8, c9, c10, c11, c12, c13, c14, c15, c16, c17, m1, q1, q2, if_pos rfl]
    refine ⟨⟨⟨?_, ?_, ?_, ?_⟩, fun j hj => ?_, fun j hj => ?_, us, fun _ => ⟨?_, ?_, (ub ac1).2.2⟩, fun q => absurd ac4 q⟩, ⟨?_, ?_, ?_⟩, fun J hJ => ?_, o9, fl_sur, h01, fun X x1 x2 x3 => fl_Rw R r9 (x1.trans w12.symm) (x2.trans w18.symm) (x3.trans w6.symm), rfl, Or.inl ⟨Or.inr rfl, rfl, ⟨S, hS, hSn, hl, hk4⟩, rfl, rfl, fun _ _ _ => rfl⟩⟩
    · rw [fl_kpr hc h10 (by omega), R9]; rfl
    · rw [k9 1 (by omega) (by omega) (by omega)]; exact u1
    · rw [k9 39 (by omega) (by omega) (by omega)]; exact u39
    · rw [k9 21 (by omega) (by omega) (by omega)]; exact u21
    · rw [k9 (24 + j) (by omega) (by omega) (by omega)]; exact ut j hj
    · rw [k9 (40 + j) (by omega) (by omega) (by omega)]; exact uq j hj
    · rw [k9 2 (by omega) (by omega) (by omega)]; exact (ub ac1).1
    · rw [k9 3 (by omega) (by omega) (by omega)]; exact (ub ac1).2.1
    · rw [fl_kpr hc h10 (by omega), R9]; exact ew
    · rw [k9 19 (by omega) (by omega) (by omega), k7 19 (by omega)]; exact e19
    · rw [k9 20 (by omega) (by omega) (by omega), k7 20 (by omega)]; exact e20
    · have hJ2 := hJ
      unfold fl_sw at hJ2
      rw [k9 J (by omega) (by omega) (by omega)]
      exact out7 J hJ
/-! the class's tick of a running channel, its end told once (statements made from the relation's text) -/
theorem fl_tlc {idx prg stp las wai hel res mca trr wfo wct tim low hig hot wlo whi who rold rsiz llim lwid lold lsiz r sta1 prg1 stp1 las1 wai1 hel1 chg1 lft1 cap1 thr1 pz1 tmp1 het1 cun1 vol1 res1 mca1 mre1 trr1 wfo1 wct1 rold1 rsiz1 chg1_ lft1_ cap1_ thr1_ pz1_ tmp1_ het1_ cun1_ vol1_ mm : Int32} {bin bou sbo bin1 bou1 sbo1 cin1 cou1 ein1 eou1 cin1_ cou1_ ein1_ eou1_ : Int64} {ftb fqu fsps fkds ffst fscs frn fln fbd1 ftb1 fqu1 frn1 fbd1_ : Nat → Int32} (h : (∃ (wfo1_116 : Int32) (wct1_117 : Int32) (lold1_118 : Int32) (lsiz1_119 : Int32) (fln1_120 : Nat → Int32), (a_X1_warn idx tmp1_ vol1_ wfo wct tim wlo whi who llim lwid lold lsiz fln wfo1_116 wct1_117) ∧ (∃ (r_123 : Int32), (a_X1_stepEnds prg stp (las + 1) chg1_ cun1_ vol1_ fkds ffst fscs r_123) ∧ (∃ (r_130 : Int32), (a_X1_tripReason (las + 1) tmp1_ vol1_ low hig hot r_123 r_130) ∧ ((r_130 = (0 : Int32) ∧ ((r_123 = (0 : Int32) ∧ (r = r_123 ∧ sta1 = 1 ∧ prg1 = prg ∧ stp1 = stp ∧ las1 = (las + 1) ∧ wai1 = wai ∧ bin1 = bin ∧ bou1 = bou ∧ hel1 = hel ∧ sbo1 = sbo ∧ chg1 = chg1_ ∧ lft1 = lft1_ ∧ cap1 = cap1_ ∧ thr1 = thr1_ ∧ pz1 = pz1_ ∧ tmp1 = tmp1_ ∧ het1 = het1_ ∧ cun1 = cun1_ ∧ vol1 = vol1_ ∧ cin1 = cin1_ ∧ cou1 = cou1_ ∧ ein1 = ein1_ ∧ eou1 = eou1_ ∧ res1 = res ∧ mca1 = mca ∧ mre1 = mm ∧ trr1 = trr ∧ wfo1 = wfo1_116 ∧ wct1 = wct1_117 ∧ fbd1 = fbd1_ ∧ ftb1 = ftb ∧ fqu1 = fqu ∧ rold1 = rold ∧ rsiz1 = rsiz ∧ frn1 = frn)) ∨ (¬ r_123 = (0 : Int32) ∧ (∃ (bin1_140 : Int64) (bou1_141 : Int64) (hel1_142 : Int32) (res1_143 : Int32) (mca1_144 : Int32) (rold1_145 : Int32) (rsiz1_146 : Int32) (frn1_147 : Nat → Int32), (a_X1_measureEnd idx prg stp bin bou hel sbo vol1_ cin1_ cou1_ res mca tim fkds fscs 30 5 rold rsiz frn bin1_140 bou1_141 hel1_142 res1_143 mca1_144 rold1_145 rsiz1_146 frn1_147) ∧ (∃ (sta1_155 : Int32) (prg1_156 : Int32) (stp1_157 : Int32) (las1_158 : Int32) (wai1_159 : Int32) (bin1_160 : Int64) (bou1_161 : Int64) (hel1_162 : Int32) (sbo1_163 : Int64) (ftb1_164 : Nat → Int32) (fqu1_165 : Nat → Int32) (lold1_166 : Int32) (lsiz1_167 : Int32) (fln1_168 : Nat → Int32), (a_X1_leaveStep idx 1 prg stp (las + 1) wai bin1_140 bou1_141 hel1_142 sbo cin1_ cou1_ ftb fqu tim fsps fkds ffst fscs llim lwid lold1_118 lsiz1_119 fln1_120 sta1_155 prg1_156 stp1_157 las1_158 wai1_159 bin1_160 bou1_161 hel1_162 sbo1_163 ftb1_164 fqu1_165) ∧ (r = r_123 ∧ sta1 = sta1_155 ∧ prg1 = prg1_156 ∧ stp1 = stp1_157 ∧ las1 = las1_158 ∧ wai1 = wai1_159 ∧ bin1 = bin1_160 ∧ bou1 = bou1_161 ∧ hel1 = hel1_162 ∧ sbo1 = sbo1_163 ∧ chg1 = chg1_ ∧ lft1 = lft1_ ∧ cap1 = cap1_ ∧ thr1 = thr1_ ∧ pz1 = pz1_ ∧ tmp1 = tmp1_ ∧ het1 = het1_ ∧ cun1 = cun1_ ∧ vol1 = vol1_ ∧ cin1 = cin1_ ∧ cou1 = cou1_ ∧ ein1 = ein1_ ∧ eou1 = eou1_ ∧ res1 = res1_143 ∧ mca1 = mca1_144 ∧ mre1 = mm ∧ trr1 = trr ∧ wfo1 = wfo1_116 ∧ wct1 = wct1_117 ∧ fbd1 = fbd1_ ∧ ftb1 = ftb1_164 ∧ fqu1 = fqu1_165 ∧ rold1 = rold1_145 ∧ rsiz1 = rsiz1_146 ∧ frn1 = frn1_147)))))) ∨ (¬ r_130 = (0 : Int32) ∧ (∃ (sta1_176 : Int32) (trr1_177 : Int32) (lold1_178 : Int32) (lsiz1_179 : Int32) (fln1_180 : Nat → Int32), (a_X1_trip idx tim llim lwid lold1_118 lsiz1_119 fln1_120 r_130 sta1_176 trr1_177) ∧ (r = 0 ∧ sta1 = sta1_176 ∧ prg1 = prg ∧ stp1 = stp ∧ las1 = (las + 1) ∧ wai1 = wai ∧ bin1 = bin ∧ bou1 = bou ∧ hel1 = hel ∧ sbo1 = sbo ∧ chg1 = chg1_ ∧ lft1 = lft1_ ∧ cap1 = cap1_ ∧ thr1 = thr1_ ∧ pz1 = pz1_ ∧ tmp1 = tmp1_ ∧ het1 = het1_ ∧ cun1 = cun1_ ∧ vol1 = vol1_ ∧ cin1 = cin1_ ∧ cou1 = cou1_ ∧ ein1 = ein1_ ∧ eou1 = eou1_ ∧ res1 = res ∧ mca1 = mca ∧ mre1 = mm ∧ trr1 = trr1_177 ∧ wfo1 = wfo1_116 ∧ wct1 = wct1_117 ∧ fbd1 = fbd1_ ∧ ftb1 = ftb ∧ fqu1 = fqu ∧ rold1 = rold ∧ rsiz1 = rsiz ∧ frn1 = frn)))))))) :
    (∃ (lo ls : Int32) (fl : Nat → Int32), fl_tl idx prg stp las wai bin bou hel sbo cin1_ cou1_ chg1_ cun1_ vol1_ tmp1_ res mca trr ftb fqu tim low hig hot fsps fkds ffst fscs rold rsiz frn llim lwid lo ls fl r sta1 prg1 stp1 las1 wai1 bin1 bou1 hel1 sbo1 res1 mca1 trr1 ftb1 fqu1 rold1 rsiz1 frn1) ∧ a_X1_warn idx tmp1_ vol1_ wfo wct tim wlo whi who llim lwid lold lsiz fln wfo1 wct1 ∧ chg1 = chg1_ ∧ lft1 = lft1_ ∧ cap1 = cap1_ ∧ thr1 = thr1_ ∧ pz1 = pz1_ ∧ tmp1 = tmp1_ ∧ het1 = het1_ ∧ cun1 = cun1_ ∧ vol1 = vol1_ ∧ cin1 = cin1_ ∧ cou1 = cou1_ ∧ ein1 = ein1_ ∧ eou1 = eou1_ ∧ mre1 = mm ∧ fbd1 = fbd1_ := by
  obtain ⟨wfo2, wct2, lo, ls, fl, hw, o, ho, w, hv, h⟩ := h
  rcases h with ⟨z, ⟨y, e1, e2, e3, e4, e5, e6, e7, e8, e9, e10, e11, e12, e13, e14, e15, e16, e17, e18, e19, e20, e21, e22, e23, e24, e25, e26, e27, e28, e29, e30, e31, e32, e33, e34, e35⟩ | ⟨y, b2, o2, h2, re2, mc2, ro2, rs2, fr2, hm, s2, p2, t2, l2, w2, b3, o3, h3, sb3, tb3, qu3, lo2, ls2, fl2, hl, e1, e2, e3, e4, e5, e6, e7, e8, e9, e10, e11, e12, e13, e14, e15, e16, e17, e18, e19, e20, e21, e22, e23, e24, e25, e26, e27, e28, e29, e30, e31, e32, e33, e34, e35⟩⟩ | ⟨z, st, tr, lo3, ls3, fl3, ht, e1, e2, e3, e4, e5, e6, e7, e8, e9, e10, e11, e12, e13, e14, e15, e16, e17, e18, e19, e20, e21, e22, e23, e24, e25, e26, e27, e28, e29, e30, e31, e32, e33, e34, e35⟩
  · exact ⟨⟨lo, ls, fl, o, ho, w, hv, Or.inl ⟨z, Or.inl ⟨y, e1, e2, e3, e4, e5, e6, e7, e8, e9, e10, e24, e25, e27, e31, e32, e33, e34, e35⟩⟩⟩, by rw [e28, e29]; exact hw, e11, e12, e13, e14, e15, e16, e17, e18, e19, e20, e21, e22, e23, e26, e30⟩
  · exact ⟨⟨lo, ls, fl, o, ho, w, hv, Or.inl ⟨z, Or.inr ⟨y, b2, o2, h2, by rw [e24, e25, e33, e34, e35]; exact hm, by rw [e2, e3, e4, e5, e6, e7, e8, e9, e10, e31, e32]; exact hl, e1, e27⟩⟩⟩, by rw [e28, e29]; exact hw, e11, e12, e13, e14, e15, e16, e17, e18, e19, e20, e21, e22, e23, e26, e30⟩
  · obtain ⟨_, _, _, _, t1, t3⟩ := ht
    exact ⟨⟨lo, ls, fl, o, ho, w, hv, Or.inr ⟨z, e1, e2.trans t1, e27.trans t3, e3, e4, e5, e6, e7, e8, e9, e10, e24, e25, e31, e32, e33, e34, e35⟩⟩, by rw [e28, e29]; exact hw, e11, e12, e13, e14, e15, e16, e17, e18, e19, e20, e21, e22, e23, e26, e30⟩
theorem fl_pt {idx prg stp las wai hel pts nom ohm pol tau chg lft cap thr pz tmp het cun vol res mca mre trr wfo wct tim efc fad hea coo low hig hot amb wlo whi who spa rold rsiz llim lwid lold lsiz r sta1 prg1 stp1 las1 wai1 hel1 chg1 lft1 cap1 thr1 pz1 tmp1 het1 cun1 vol1 res1 mca1 mre1 trr1 wfo1 wct1 rold1 rsiz1 : Int32} {bin bou sbo cin cou ein eou bin1 bou1 sbo1 cin1 cou1 ein1 eou1 : Int64} {cv fbd ftb fqu fsps fkds ffst fscs frn fln fbd1 ftb1 fqu1 frn1 : Nat → Int32} (h : a_X1_passTick idx 1 prg stp las wai bin bou hel sbo pts nom ohm pol tau chg lft cap thr pz tmp het cun vol cv cin cou ein eou res mca mre trr wfo wct fbd ftb fqu tim efc fad hea coo low hig hot amb wlo whi who spa fsps fkds ffst fscs 30 5 rold rsiz frn llim lwid lold lsiz fln r sta1 prg1 stp1 las1 wai1 bin1 bou1 hel1 sbo1 chg1 lft1 cap1 thr1 pz1 tmp1 het1 cun1 vol1 cin1 cou1 ein1 eou1 res1 mca1 mre1 trr1 wfo1 wct1 fbd1 ftb1 fqu1 rold1 rsiz1 frn1) :
    (∃ (w_ : Int32), (a_X1_wantedCurrent 1 prg stp pts ohm chg cap pz cv fkds ffst w_) ∧ (∃ (r_ : Int32), (a_X0_allowed chg tmp hot spa w_ r_) ∧ (∃ (chg1_ : Int32) (lft1_ : Int32) (cap1_ : Int32) (thr1_ : Int32) (pz1_ : Int32) (tmp1_ : Int32) (het1_ : Int32) (cun1_ : Int32) (vol1_ : Int32) (cin1_ : Int64) (cou1_ : Int64) (ein1_ : Int64) (eou1_ : Int64), (a_X0_passCurrent pts nom ohm pol tau chg lft cap thr pz tmp het cv cin cou ein eou efc fad hea coo amb r_ chg1_ lft1_ cap1_ thr1_ pz1_ tmp1_ het1_ cun1_ vol1_ cin1_ cou1_ ein1_ eou1_) ∧ (∃ (r_ : Int32), (a_X0_thousandths chg1_ cap1_ r_) ∧ (∃ (fbd1_ : Nat → Int32), (a_X4_countFilling fbd r_ fbd1_) ∧ (∃ mm : Int32, ((mm = mre ∧ (¬ las = 0 ∨ cun1_ = cun)) ∨ (las = 0 ∧ ¬ cun1_ = cun ∧ ∃ q : Int64, a_X10_quotient (1000 * ((vol1_ - vol).toInt64)) ((cun1_ - cun).toInt64) q ∧ mm = q.toInt32)) ∧ (∃ (lo ls : Int32) (fl : Nat → Int32), fl_tl idx prg stp las wai bin bou hel sbo cin1_ cou1_ chg1_ cun1_ vol1_ tmp1_ res mca trr ftb fqu tim low hig hot fsps fkds ffst fscs rold rsiz frn llim lwid lo ls fl r sta1 prg1 stp1 las1 wai1 bin1 bou1 hel1 sbo1 res1 mca1 trr1 ftb1 fqu1 rold1 rsiz1 frn1) ∧ a_X1_warn idx tmp1_ vol1_ wfo wct tim wlo whi who llim lwid lold lsiz fln wfo1 wct1 ∧ chg1 = chg1_ ∧ lft1 = lft1_ ∧ cap1 = cap1_ ∧ thr1 = thr1_ ∧ pz1 = pz1_ ∧ tmp1 = tmp1_ ∧ het1 = het1_ ∧ cun1 = cun1_ ∧ vol1 = vol1_ ∧ cin1 = cin1_ ∧ cou1 = cou1_ ∧ ein1 = ein1_ ∧ eou1 = eou1_ ∧ mre1 = mm ∧ fbd1 = fbd1_)))))) := by
  obtain ⟨i0, h1, i1, h2, a1, a2, a3, a4, a5, a6, a7, a8, a9, a10, a11, a12, a13, h3, pm, h4, fb, h5, h⟩ := h
  refine ⟨i0, h1, i1, h2, a1, a2, a3, a4, a5, a6, a7, a8, a9, a10, a11, a12, a13, h3, pm, h4, fb, h5, ?_⟩
  rcases h with ⟨_, ⟨n, h⟩ | ⟨z, ⟨y, h⟩ | ⟨y, q, hq, h⟩⟩⟩ | ⟨n, _⟩
  · exact ⟨_, Or.inl ⟨rfl, Or.inl n⟩, fl_tlc h⟩
  · exact ⟨_, Or.inl ⟨rfl, Or.inr y⟩, fl_tlc h⟩
  · exact ⟨_, Or.inr ⟨z, y, q, hq, rfl⟩, fl_tlc h⟩
  · exact absurd rfl n
