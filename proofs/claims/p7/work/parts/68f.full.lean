theorem fl_ql {f f1 : Nat → Int32} {c wai r r2 wai1 : Int32} {fqu fqu1 : Nat → Int32} (hc : 0 ≤ c.toInt ∧ c.toInt < 6) (hw : 1 ≤ wai.toInt ∧ wai.toInt ≤ 4) (u39 : rf_of f c 39 = wai) (uq : ∀ j : Nat, (j : Int) < wai.toInt → rf_of f c (40 + j) = fqu j) (h : q_X11_leavesQueue f c r f1) (g : a_X1_takeWaiting wai fqu r2 wai1 fqu1) :
    r = fqu 0 ∧ r2 = fqu 0 ∧ wai1.toInt = wai.toInt - 1 ∧ rf_of f1 c 39 = wai1 ∧ (∀ j : Nat, (j : Int) < wai1.toInt → rf_of f1 c (40 + j) = fqu1 j) ∧ (∀ j : Nat, (j : Int) < wai1.toInt → fqu1 j = fqu (j + 1)) ∧ (∀ J : Nat, (J < 39 ∨ 43 ≤ J) → rf_of f1 c J = rf_of f c J) ∧ fl_out c f f1 ∧ fl_rec f f1 := by
  obtain ⟨a1, e1, a2, e2, a3, e3, a4, e4, er, e5⟩ := h
  obtain ⟨g1, g2, g3⟩ := g
  have o1 : (1 : Int32).toInt = 1 := by decide
  have z0 : (0 : Int32).toInt = 0 := by decide
  have ew : (wai - 1).toInt = wai.toInt - 1 := by rw [Jvm.Kit.i32_sub (by omega) (by omega), o1]
  have g4 : wai1 = wai - 1 := by
    by_cases q : (0 : Int32) < wai - 1
    · rw [g2, if_pos q]
    · rw [g2, if_neg q]
      rw [Int32.lt_iff_toInt_lt] at q
      exact Int32.toInt_inj.mp (by omega)
  have i1 : wai1.toInt = wai.toInt - 1 := by rw [g4]; exact ew
  have R1 : rf_of a1 c = upd (rf_of f c) 40 (rf_of f c 41) := by rw [e1, fl_ofu]
  have R2 : rf_of a2 c = upd (rf_of a1 c) 41 (rf_of f c 42) := by rw [e2, fl_ofu]; congr 1; rw [R1]; rfl
  have R3 : rf_of a3 c = upd (rf_of a2 c) 42 (rf_of f c 43) := by rw [e3, fl_ofu]; congr 1; rw [R2, R1]; rfl
  have R4 : rf_of f1 c = upd (rf_of a3 c) 39 (wai - 1) := by
    rw [e5, e4, fl_ofu]
    have : rf_of a3 c 39 = wai := by rw [R3, R2, R1, ← u39]; rfl
    rw [this]
  have w0 : rf_of f c 40 = fqu 0 := uq 0 (by omega)
  have q1 : ∀ j : Nat, (j : Int) < wai1.toInt → fqu1 j = fqu (j + 1) := fun j hj => by rw [g3 j (by omega), if_pos (by omega), if_pos (by omega)]
  refine ⟨by rw [er]; exact w0, fl_at4 (K := 0) (by decide) (by omega) g1, i1, ?_, fun j hj => ?_, q1, fun J hJ => ?_, ?_, ?_⟩
  · rw [R4, g4]; rfl
  · rw [q1 j hj, R4, R3, R2, R1, ← uq (j + 1) (by omega)]
    rcases (by omega : j = 0 ∨ j = 1 ∨ j = 2) with e | e | e <;> subst e <;> rfl
  · rw [R4, R3, R2, R1]
    unfold upd
    rw [if_neg (by omega), if_neg (by omega), if_neg (by omega), if_neg (by omega)]
  · rw [e5, e4, e3, e2, e1]
    exact fl_outt (fl_outu (by omega)) (fl_outt (fl_outu (by omega)) (fl_outt (fl_outu (by omega)) (fl_outu (by omega))))
  · rw [e5, e4, e3, e2, e1]
    exact fl_rect (fl_recu hc (by omega)) (fl_rect (fl_recu hc (by omega)) (fl_rect (fl_recu hc (by omega)) (fl_recu hc (by omega))))
theorem fl_stK {n k k1 : Nat} {K T M K2 T2 M2 B B1 : Nat → Int32} (e : ∀ j : Nat, j < n → K2 j = K j ∧ T2 j = T j ∧ M2 j = M j) (h : fl_stp n K T M k B k1 B1) : fl_stp n K2 T2 M2 k B k1 B1 := by
  obtain ⟨a, b, c⟩ := h
  obtain ⟨e1, e2, e3⟩ := e k a
  unfold fl_stp
  rw [e1, e2, e3]
  exact ⟨a, b, c⟩
theorem fl_rnK {n : Nat} {K T M K2 T2 M2 : Nat → Int32} (e : ∀ j : Nat, j < n → K2 j = K j ∧ T2 j = T j ∧ M2 j = M j) : ∀ (m : Nat) {k k1 : Nat} {B B1 : Nat → Int32}, fl_run n K T M m k B k1 B1 → fl_run n K2 T2 M2 m k B k1 B1
  | 0, _, _, _, _, h => h
  | m + 1, _, _, _, _, ⟨x, X, s, h⟩ => ⟨x, X, fl_stK e s, fl_rnK e m h⟩
/-- behind the last step nothing is counted -/
def fl_tu (n : Nat) (B C : Nat → Int32) : Prop := ∀ j : Nat, n ≤ j → j < 12 → C j = B j
theorem fl_rnt {n : Nat} {K T M : Nat → Int32} : ∀ (m : Nat) {k k1 : Nat} {B B1 : Nat → Int32}, fl_run n K T M m k B k1 B1 → fl_tu n B B1
  | 0, k, k1, B, B1, h => fun j _ hj => h.2 j hj
  | m + 1, k, k1, B, B1, h => fun j hn hj => by
    obtain ⟨k2, B2, ⟨a1, _, a3⟩, hr⟩ := h
    refine (fl_rnt m hr j hn hj).trans ?_
    rcases a3 with ⟨_, _, e⟩ | ⟨_, _, e⟩
    · rw [e j hj, if_neg (by omega)]
    · rw [e j hj, if_neg (by omega)]
/-- the step behind, on both sides -/
theorem fl_wy {f f5 : Nat → Int32} {c prg k y r : Int32} {P S n : Nat} {fsps fk ff fs B C : Nat → Int32} (hc : 0 ≤ c.toInt ∧ c.toInt < 6) (hp : prg.toInt = P) (hP : P < 4) (hs : fsps P = Int32.ofNat n) (hf : f (96 + 37 * P) = Int32.ofNat n)
    (e : ∀ j : Nat, j < n → f (97 + 37 * P + 3 * j) = fk (12 * P + j) ∧ f (98 + 37 * P + 3 * j) = ff (12 * P + j) ∧ f (99 + 37 * P + 3 * j) = fs (12 * P + j)) (pg : fl_pg n (fun j => fk (12 * P + j)) (fun j => ff (12 * P + j)) (fun j => fs (12 * P + j)))
    (hk : k.toInt = S) (hS : S ≤ n) (hb : ∀ j : Nat, j < 12 → rf_of f c (24 + j) = B j) (hl : fl_lo (fun j => fk (12 * P + j)) S B)
    (h : q_wy c prg k f y f5) (he : f5 (96 + 37 * P) ≤ y ∨ ¬ f5 (97 + 37 * P + 3 * y.toInt.toNat + 0) = 4) (g : a_sb fsps fk ff fs prg 48 k B r C) :
    r = y ∧ (∃ y0 : Nat, y.toInt = y0 ∧ y0 ≤ n ∧ fl_lo (fun j => fk (12 * P + j)) y0 C ∧ ¬ fl_go n (fun j => fk (12 * P + j)) y0) ∧ (∀ j : Nat, j < 12 → rf_of f5 c (24 + j) = C j) ∧ (∀ j : Nat, (j < 268 + 54 * c.toInt.toNat ∨ 280 + 54 * c.toInt.toNat ≤ j) → f5 j = f j) ∧ fl_tu n B C := by
  obtain ⟨m, h⟩ := h
  obtain ⟨q, r0, _, q2, q3, q4⟩ := fl_sb hp hP hs pg 48 hk hS g
  obtain ⟨b1, b2, b3⟩ := fl_rnb pg hS hl q3
  have q5 : ¬ fl_go n (fun j => fk (12 * P + j)) r0 := q4.resolve_left (by omega)
  have pg2 : fl_pg n (fun j => f (97 + 37 * P + 3 * j)) (fun j => f (98 + 37 * P + 3 * j)) (fun j => f (99 + 37 * P + 3 * j)) := ⟨pg.1, fun j hj hk => by
    obtain ⟨x1, x2, x3⟩ := e j hj
    have := pg.2 j hj (x1.symm.trans hk)
    show 0 ≤ (f (98 + 37 * P + 3 * j)).toInt ∧ (f (98 + 37 * P + 3 * j)).toInt < (j : Int) ∧ 1 ≤ (f (99 + 37 * P + 3 * j)).toInt
    rw [x2, x3]; exact this⟩
  obtain ⟨y0, y1, y2, y3, y4⟩ := fl_qw hc hp hP hf pg2 m hk hS h
  have y5 := fl_rnK (K2 := fun j => fk (12 * P + j)) (T2 := fun j => ff (12 * P + j)) (M2 := fun j => fs (12 * P + j)) (fun j hj => ⟨(e j hj).1.symm, (e j hj).2.1.symm, (e j hj).2.2.symm⟩) m y3
  have y6 : ¬ fl_go n (fun j => fk (12 * P + j)) y0 := fun ⟨z1, z2⟩ => by
    have hn12 := pg.1
    rcases he with he | he
    · rw [y4 _ (Or.inl (by omega)), hf, Int32.le_iff_toInt_le, fl_on (by omega)] at he
      omega
    · rw [y4 _ (Or.inl (by omega)), show y.toInt.toNat = y0 from by omega] at he
      exact he ((e y0 z1).1.trans z2)
  have q9 := fl_rnt q q3
  obtain ⟨_, w2, w3⟩ := fl_rn1 pg.1 q m hb q3 y5 q5 y6
  subst w2
  exact ⟨Int32.toInt_inj.mp (by omega), ⟨y0, y1, y2, b3, y6⟩, w3, y4, q9⟩
/-- a program on both sides -/
def fl_Pg (f fsps fk ff fs : Nat → Int32) (P n : Nat) : Prop := fsps P = Int32.ofNat n ∧ f (96 + 37 * P) = Int32.ofNat n ∧ (∀ j : Nat, j < n → f (97 + 37 * P + 3 * j) = fk (12 * P + j) ∧ f (98 + 37 * P + 3 * j) = ff (12 * P + j) ∧ f (99 + 37 * P + 3 * j) = fs (12 * P + j)) ∧ fl_pg n (fun j => fk (12 * P + j)) (fun j => ff (12 * P + j)) (fun j => fs (12 * P + j))
/-- the places of a channel that leaving a step leaves as they are -/
def fl_sq (J : Nat) : Prop := (4 ≤ J ∧ J ≤ 20) ∨ J = 22 ∨ J = 23 ∨ (36 ≤ J ∧ J < 39) ∨ (44 ≤ J ∧ J < 54)
theorem fl_sqt {J : Nat} (h : fl_sq J) : fl_st J := by
  unfold fl_sq at h
  unfold fl_st
  omega
theorem fl_lv {f f1 G : Nat → Int32} {su t : Nat → Int64} {c k idx tim llim lwid lold lsiz sta prg stp las wai hel sta1 prg1 stp1 las1 wai1 hel1 : Int32} {fln ftb fqu ftb1 fqu1 fsps fk ff fs : Nat → Int32} {bin bou sbo cin cou bin1 bou1 sbo1 : Int64} {P n S : Nat} (hc : 0 ≤ c.toInt ∧ c.toInt < 6) (hp : prg.toInt = P) (hP : P < 4) (pg : fl_Pg f fsps fk ff fs P n) (hS : stp.toInt = S) (hSn : S < n) (hl : fl_lo (fun j => fk (12 * P + j)) (S + 1) ftb) (hw : 0 ≤ wai.toInt ∧ wai.toInt ≤ 4) (ha : fl_ac sta) (U : fl_U f su c sta prg stp las wai hel bin bou sbo cin cou ftb fqu) (hk : k = stp + 1)
    (hr : q_comes f G su c k f1 t) (hb : a_X1_leaveStep idx sta prg stp las wai bin bou hel sbo cin cou ftb fqu tim fsps fk ff fs llim lwid lold lsiz fln sta1 prg1 stp1 las1 wai1 bin1 bou1 hel1 sbo1 ftb1 fqu1) :
    fl_U f1 t c sta1 prg1 stp1 las1 wai1 hel1 bin1 bou1 sbo1 cin cou ftb1 fqu1 ∧ (∀ J : Nat, fl_sq J → rf_of f1 c J = rf_of f c J) ∧ fl_out c f f1 ∧ fl_rec f f1 ∧ fl_su c su t ∧ (hel1 = hel ∨ hel1 = 0) ∧
    ((sta1 = sta ∧ prg1 = prg ∧ (∃ S1 : Nat, stp1.toInt = S1 ∧ S1 < n ∧ fl_lo (fun j => fk (12 * P + j)) S1 ftb1 ∧ ¬ fk (12 * P + S1) = 4) ∧ las1 = 0 ∧ wai1 = wai ∧ fqu1 = fqu ∧ fl_tu n ftb ftb1) ∨
      (sta1 = 3 ∧ prg1 = prg ∧ wai1 = wai ∧ fqu1 = fqu ∧ fl_tu n ftb ftb1) ∨
      (1 ≤ wai.toInt ∧ sta1 = 1 ∧ prg1 = fqu 0 ∧ stp1 = 0 ∧ wai1.toInt = wai.toInt - 1 ∧ (∀ j : Nat, (j : Int) < wai1.toInt → fqu1 j = fqu (j + 1)) ∧ ∀ j : Nat, j < 12 → ftb1 j = 0)) := by
  obtain ⟨⟨u0, u1, u39, u21⟩, ut, uq, ⟨us0, us1, us4, us5⟩, ua, un⟩ := U
  obtain ⟨p1, p2, p3, p4⟩ := pg
  have hn12 := p4.1
  obtain ⟨y, f5, g6, ⟨_, hwy, eg⟩, hbr⟩ := hr
  obtain ⟨_, _, _, _, r, ftb2, hsb, st, hst, hb⟩ := hb
  have eP : prg.toInt.toNat = P := by omega
  rw [u1] at hwy hbr
  rw [eP] at hbr
  rw [eg] at hbr
  have hk2 : k.toInt = (S + 1 : Nat) := by rw [hk, rf_p1 (by omega)]; omega
  have hsb : a_sb fsps fk ff fs prg 48 k ftb r ftb2 := by rw [hk]; exact hsb
  obtain ⟨er, ⟨y0, y1, y2, y3, y4⟩, eb, ef, et⟩ := fl_wy hc hp hP p1 p2 p3 p4 hk2 (by omega) ut hl hwy (hbr.elim (fun x => Or.inl x.1) (fun x => Or.inr x.2.1)) hsb
  have e5 : f5 (96 + 37 * P) = Int32.ofNat n := (ef _ (Or.inl (by omega))).trans p2
  have est : st = Int32.ofNat n := (fl_so hp hP hst).trans p1
  have ni : (Int32.ofNat n).toInt = n := fl_on (by omega)
  rw [e5] at hbr
  rw [er, est] at hb
  have o5 : ∀ J : Nat, (J < 24 ∨ 36 ≤ J) → rf_of f5 c J = rf_of f c J := fun J hJ => ef (244 + 54 * c.toInt.toNat + J) (by omega)
  have out5 : fl_out c f f5 := fun j h1 h2 h3 h4 => ef j (by omega)
  have rec5 : fl_rec f f5 := fun j hj => ef j (by omega)
  by_cases q : Int32.ofNat n ≤ y
  · have q2 : y = Int32.ofNat n := by
      rw [Int32.le_iff_toInt_le, ni] at q
      exact Int32.toInt_inj.mp (by omega)
    have hbr := (hbr.resolve_right (fun z => z.1 q)).2
    have hbr := hbr.resolve_left (fun z => z.1 q2)
    obtain ⟨_, a1, h1, a2, h2, r1, hr1, t1, ht1, f9, t9, ⟨b1, k1, b2, k2, hx⟩, e1, e2⟩ := hbr
    obtain ⟨_, _, _, _, _, hq⟩ := hb.resolve_right (fun z => z.1 q)
    have s1 := fl_sum hc (K := 1) (by decide) (by omega) hr1
    have s2 := fl_put hc (K := 6) (by decide) (by omega) ht1
    have T : t1 = vp_updL su (7 * c.toInt.toNat + 6) cou := by rw [s2, s1, us1]
    have Rb : ∀ J : Nat, J < 54 → rf_of b2 c J = upd (upd (upd (rf_of f5 c) 2 (-1)) 3 0) 0 3 J := fun J hJ => by
      rw [fl_kpr hc k2 hJ, k1, fl_ofu, h2, fl_ofu, h1, fl_ofu]
    have rb : ∀ J : Nat, (4 ≤ J ∧ J < 54) → rf_of b2 c J = rf_of f5 c J := fun J hJ => by
      rw [Rb J (by omega)]
      unfold upd
      rw [if_neg (by omega), if_neg (by omega), if_neg (by omega)]
    have rb1 : rf_of b2 c 1 = prg := by rw [Rb 1 (by omega)]; exact (o5 1 (by omega)).trans u1
    have w39 : rf_of b2 c 39 = wai := by rw [rb 39 (by omega), o5 39 (by omega)]; exact u39
    have sub : fl_su c su t1 := by rw [T]; exact fl_suu (by omega) (by omega)
    have outb : fl_out c f b2 := by
      refine fl_outt out5 (fl_outt ?_ (fl_kpo k2))
      rw [k1, h2, h1]
      exact fl_outt (fl_outu (by omega)) (fl_outt (fl_outu (by omega)) (fl_outu (by omega)))
    have recb : fl_rec f b2 := by
      refine fl_rect rec5 (fl_rect ?_ (fl_reck k2))
      rw [k1, h2, h1]
      exact fl_rect (fl_recu hc (by omega)) (fl_rect (fl_recu hc (by omega)) (fl_recu hc (by omega)))
    have n3 : ¬ fl_ac 3 := by
      unfold fl_ac
      decide
    have Ub : ∀ stp9 las9 sbo9, fl_U b2 t1 c 3 prg stp9 las9 wai hel bin bou sbo9 cin cou ftb2 fqu := fun stp9 las9 sbo9 => by
      refine ⟨⟨by rw [Rb 0 (by omega)]; rfl, rb1, w39, ?_⟩, fun j hj => ?_, fun j hj => ?_, ⟨?_, ?_, ?_, ?_⟩, fun z => absurd z n3, fun _ => ⟨by rw [Rb 2 (by omega)]; rfl, by rw [Rb 3 (by omega)]; rfl⟩⟩
      · rw [rb 21 (by omega), o5 21 (by omega)]; exact u21
      · rw [rb (24 + j) (by omega)]; exact eb j hj
      · rw [rb (40 + j) (by omega), o5 (40 + j) (by omega)]; exact uq j hj
      · rw [T, fl_uL, if_neg (by omega)]; exact us0
      · rw [T, fl_uL, if_neg (by omega)]; exact us1
      · rw [T, fl_uL, if_neg (by omega)]; exact us4
      · rw [T, fl_uL, if_neg (by omega)]; exact us5
    have sqb : ∀ J : Nat, fl_sq J → rf_of b2 c J = rf_of f c J := fun J hJ => by
      unfold fl_sq at hJ
      rw [rb J (by omega), o5 J (by omega)]
    rw [w39] at hx
    rw [e1, e2]
    rcases hq with ⟨z1, c1, c2, c3, c4, c5, c6, c7, c8, c9, c10, c11⟩ | ⟨z1, r2, wai2, fqu2, htk, sta2, prg2, stp2, las2, bin2, bou2, hel2, sbo2, ftb3, lo3, ls3, fl3, hbg, c1, c2, c3, c4, c5, c6, c7, c8, c9, c10, c11⟩
    · obtain ⟨_, x1, x2⟩ := hx.resolve_right (fun z => z.1 z1)
      rw [x1, x2, c1, c2, c3, c4, c5, c6, c7, c8, c9, c10, c11]
      exact ⟨Ub _ _ _, sqb, outb, recb, sub, Or.inl rfl, Or.inr (Or.inl ⟨rfl, rfl, rfl, rfl, et⟩)⟩
    · obtain ⟨_, r3, f31, hlq, f44, t45, hso, x1, x2⟩ := hx.resolve_left (fun z => z1 z.1)
      have w1 : 1 ≤ wai.toInt := by
        rw [Int32.le_iff_toInt_le, show (0 : Int32).toInt = 0 from by decide] at z1
        omega
      obtain ⟨l1, l2, l3, l4, l5, l6, l7, l8, l9⟩ := fl_ql hc ⟨w1, hw.2⟩ w39 (Ub stp las sbo).2.2.1 hlq htk
      rw [l1] at hso
      rw [l2] at hbg
      have U4 : fl_U f31 t1 c 3 prg stp las wai2 hel bin bou sbo cin cou ftb2 fqu2 := by
        obtain ⟨⟨v0, v1, v39, v21⟩, vt, vq, vs, va, vn⟩ := Ub stp las sbo
        refine ⟨⟨by rw [l7 0 (by omega)]; exact v0, by rw [l7 1 (by omega)]; exact v1, l4, by rw [l7 21 (by omega)]; exact v21⟩, fun j hj => ?_, l5, vs, fun z => absurd z n3, fun z => ⟨by rw [l7 2 (by omega)]; exact (vn z).1, by rw [l7 3 (by omega)]; exact (vn z).2⟩⟩
        rw [l7 (24 + j) (by omega)]; exact vt j hj
      obtain ⟨d1, d2, d3, d4, d5, d6, d7, d8, d9, d10⟩ := fl_bg hc (by omega) U4 hso hbg
      rw [x1, x2, c1, c2, c3, c4, c5, c6, c7, c8, c9, c10, c11]
      refine ⟨d1, fun J hJ => ?_, fl_outt outb (fl_outt l8 d3), fl_rect recb (fl_rect l9 d4), fl_sut sub d5, Or.inr d9, Or.inr (Or.inr ⟨w1, d6, d7, d8, l3, l6, d10⟩)⟩
      rw [d2 J (fl_sqt hJ), l7 J (by unfold fl_sq at hJ; omega)]
      exact sqb J hJ
  · have hbr := (hbr.resolve_left (fun z => q z.1)).2.2
    have q2 : ¬ y = Int32.ofNat n := fun z => q (by rw [z]; exact Int32.le_refl _)
    obtain ⟨_, a1, h1, a2, h2, r1, hr1, t1, ht1, e1, e2⟩ := hbr.resolve_right (fun z => q2 z.1)
    obtain ⟨_, c1, c2, c3, c4, c5, c6, c7, c8, c9, c10, c11⟩ := hb.resolve_left (fun z => q z.1)
    have s1 := fl_sum hc (K := 1) (by decide) (by omega) hr1
    have s2 := fl_put hc (K := 6) (by decide) (by omega) ht1
    have T : t1 = vp_updL su (7 * c.toInt.toNat + 6) cou := by rw [s2, s1, us1]
    have R : rf_of a2 c = upd (upd (rf_of f5 c) 2 y) 3 0 := by rw [h2, fl_ofu, h1, fl_ofu]
    have rb : ∀ J : Nat, (J < 2 ∨ 4 ≤ J) → rf_of a2 c J = rf_of f5 c J := fun J hJ => by
      rw [R]
      unfold upd
      rw [if_neg (by omega), if_neg (by omega)]
    have yn : y0 < n := by
      rw [Int32.le_iff_toInt_le, ni] at q
      omega
    rw [e1, e2, c1, c2, c3, c4, c5, c6, c7, c8, c9, c10, c11]
    refine ⟨⟨⟨?_, ?_, ?_, ?_⟩, fun j hj => ?_, fun j hj => ?_, ⟨?_, ?_, ?_, ?_⟩, fun _ => ⟨by rw [R]; rfl, by rw [R]; rfl, ?_⟩, fun z => absurd ha z⟩, fun J hJ => ?_, ?_, ?_, ?_, Or.inl rfl, Or.inl ⟨rfl, rfl, ⟨y0, y1, yn, y3, fun z => y4 ⟨yn, z⟩⟩, rfl, rfl, rfl, et⟩⟩
    · rw [rb 0 (by omega), o5 0 (by omega)]; exact u0
    · rw [rb 1 (by omega), o5 1 (by omega)]; exact u1
    · rw [rb 39 (by omega), o5 39 (by omega)]; exact u39
    · rw [rb 21 (by omega), o5 21 (by omega)]; exact u21
    · rw [rb (24 + j) (by omega)]; exact eb j hj
    · rw [rb (40 + j) (by omega), o5 (40 + j) (by omega)]; exact uq j hj
    · rw [T, fl_uL, if_neg (by omega)]; exact us0
    · rw [T, fl_uL, if_neg (by omega)]; exact us1
    · rw [T, fl_uL, if_neg (by omega)]; exact us4
    · rw [T, fl_uL, if_neg (by omega)]; exact us5
    · rw [T, fl_uL, if_pos rfl]
    · unfold fl_sq at hJ
      rw [rb J (by omega), o5 J (by omega)]
    · rw [h2, h1]; exact fl_outt out5 (fl_outt (fl_outu (by omega)) (fl_outu (by omega)))
    · rw [h2, h1]; exact fl_rect rec5 (fl_rect (fl_recu hc (by omega)) (fl_recu hc (by omega)))
    · rw [T]; exact fl_suu (by omega) (by omega)
