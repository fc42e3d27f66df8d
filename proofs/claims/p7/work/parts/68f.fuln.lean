/-! what the end of a step measures -/
theorem fl_Uk {f f1 : Nat → Int32} {su t : Nat → Int64} {c sta prg stp las wai hel hel1 : Int32} {bin bou sbo cin cou bin1 bou1 : Int64} {ftb fqu : Nat → Int32} (hw : wai.toInt ≤ 4) (U : fl_U f su c sta prg stp las wai hel bin bou sbo cin cou ftb fqu) (k : ∀ J : Nat, J < 54 → J ≠ 19 → J ≠ 20 → J ≠ 21 → rf_of f1 c J = rf_of f c J) (h21 : rf_of f1 c 21 = hel1) (s0 : t (7 * c.toInt.toNat + 0) = su (7 * c.toInt.toNat + 0)) (s1 : t (7 * c.toInt.toNat + 1) = su (7 * c.toInt.toNat + 1)) (s6 : t (7 * c.toInt.toNat + 6) = su (7 * c.toInt.toNat + 6)) (s4 : t (7 * c.toInt.toNat + 4) = cin - bin1) (s5 : t (7 * c.toInt.toNat + 5) = cou - bou1) : fl_U f1 t c sta prg stp las wai hel1 bin1 bou1 sbo cin cou ftb fqu := by
  obtain ⟨⟨u0, u1, u39, u21⟩, ut, uq, ⟨us0, us1, us4, us5⟩, ua, un⟩ := U
  refine ⟨⟨?_, ?_, ?_, h21⟩, fun j hj => ?_, fun j hj => ?_, ⟨s0.trans us0, s1.trans us1, s4, s5⟩, fun z => ?_, fun z => ?_⟩
  · rw [k 0 (by omega) (by omega) (by omega) (by omega)]; exact u0
  · rw [k 1 (by omega) (by omega) (by omega) (by omega)]; exact u1
  · rw [k 39 (by omega) (by omega) (by omega) (by omega)]; exact u39
  · rw [k (24 + j) (by omega) (by omega) (by omega) (by omega)]; exact ut j hj
  · rw [k (40 + j) (by omega) (by omega) (by omega) (by omega)]; exact uq j hj
  · rw [k 2 (by omega) (by omega) (by omega) (by omega), k 3 (by omega) (by omega) (by omega) (by omega), s6]; exact ua z
  · rw [k 2 (by omega) (by omega) (by omega) (by omega), k 3 (by omega) (by omega) (by omega) (by omega)]; exact un z
theorem fl_cl {f f1 : Nat → Int32} {su t : Nat → Int64} {c : Int32} (hc : 0 ≤ c.toInt ∧ c.toInt < 6) (h : q_X11_clears f su c f1 t) : f1 = upd f (244 + 54 * c.toInt.toNat + 21) 0 ∧ t = vp_updL (vp_updL su (7 * c.toInt.toNat + 4) 0) (7 * c.toInt.toNat + 5) 0 := by
  obtain ⟨s1, h1, s2, h2, g, h3, e1, e2⟩ := h
  have a1 := fl_put hc (K := 4) (by decide) (by omega) h1
  have a2 := fl_put hc (K := 5) (by decide) (by omega) h2
  exact ⟨by rw [e1, h3], by rw [e2, a2, a1]⟩
/-- a record, and what it leaves: m is the measured place 20 -/
theorem fl_e2 {tt : Prop} {f fa f1 : Nat → Int32} {su t : Nat → Int64} {c prg stp vol tim old siz mca mca1 old1 siz1 hel hel1 sta las wai b m : Int32} {bin bou sbo cin cou bin1 bou1 : Int64} {fs fr fr1 ftb fqu : Nat → Int32} {W : fw_W} {P S : Nat} (hc : 0 ≤ c.toInt ∧ c.toInt < 6) (hp : prg.toInt = P) (hs : stp.toInt = S) (hP : P < 4) (hS : S < 12) (hw : wai.toInt ≤ 4) (e8 : tt → f 8 = tim) (R : fl_R tt f W) (w12 : W.1 12 = siz) (w18 : W.1 18 = old) (w6 : W.2.1 6 = fr)
    (U : fl_U f su c sta prg stp las wai hel bin bou sbo cin cou ftb fqu) (hb : (if b = 0 then (0 : Int32) else 1) = if ¬ fs (12 * P + S) < vol ∧ ¬ hel = 0 then 1 else 0) (hm : m = if ¬ fs (12 * P + S) < vol ∧ ¬ hel = 0 then (cou - sbo).toInt32 else mca)
    (h1 : q_X11_records f su c b fa) (h2 : f1 = upd (upd fa (244 + 54 * c.toInt.toNat + 20) m) (244 + 54 * c.toInt.toNat + 21) 0) (h3 : t = vp_updL (vp_updL su (7 * c.toInt.toNat + 4) 0) (7 * c.toInt.toNat + 5) 0)
    (h : a_X1_makeRecord c prg stp bin bou hel sbo vol cin cou mca tim fs 30 5 old siz fr bin1 bou1 hel1 mca1 old1 siz1 fr1) :
    fl_U f1 t c sta prg stp las wai hel1 bin1 bou1 sbo cin cou ftb fqu ∧ rf_of f1 c 20 = mca1 ∧ (∀ J : Nat, J < 54 → J ≠ 20 → J ≠ 21 → rf_of f1 c J = rf_of f c J) ∧ fl_out c f f1 ∧ fl_su c su t ∧ hel1 = 0 ∧ ∀ X : fw_W, X.1 12 = siz1 → X.1 18 = old1 → X.2.1 6 = fr1 → fl_R tt f1 X := by
  have RR := R
  obtain ⟨r1, r2, r3, r4, _⟩ := R
  rw [r1, w12] at r2 r4
  rw [w18] at r3 r4
  obtain ⟨a1, a2, a3, a4, K, k1, k2, k3⟩ := fl_rcc hp hs hP hS r3 r2 r4 h
  have g := fl_rcm hc (by rw [r1, w12]; exact r2) h1
  have us := U.2.2.2.1
  rw [us.2.2.1, us.2.2.2, hb] at g
  have ra : ∀ J : Nat, J < 54 → rf_of fa c J = rf_of f c J := fun J hJ => g.1 (244 + 54 * c.toInt.toNat + J) (by omega) (by omega)
  have rr : rf_of f1 c = upd (upd (rf_of fa c) 20 m) 21 0 := by rw [h2, fl_ofu, fl_ofu]
  have kk : ∀ J : Nat, J < 54 → J ≠ 20 → J ≠ 21 → rf_of f1 c J = rf_of f c J := fun J hJ j1 j2 => by
    rw [rr]
    unfold upd
    rw [if_neg j2, if_neg j1]
    exact ra J hJ
  have zz : ∀ x : Int64, x - x = 0 := fun x => Int64.sub_self x
  have out : fl_out c f f1 := by
    refine fl_outt (fun j j1 j2 _ _ => g.1 j j1 j2) ?_
    rw [h2]
    exact fl_outt (fl_outu (by omega)) (fl_outu (by omega))
  have rcd : fl_rec fa f1 := by
    rw [h2]
    exact fl_rect (fl_recu hc (by omega)) (fl_recu hc (by omega))
  refine ⟨?_, by rw [rr, a4, ← hm]; rfl, kk, out, ?_, a3, fun X x1 x2 x3 => ?_⟩
  · rw [a1, a2, a3]
    refine fl_Uk hw U (fun J hJ _ j2 j3 => kk J hJ j2 j3) (by rw [rr]; rfl) ?_ ?_ ?_ ?_ ?_
    · rw [h3, fl_uL, fl_uL, if_neg (by omega), if_neg (by omega)]
    · rw [h3, fl_uL, fl_uL, if_neg (by omega), if_neg (by omega)]
    · rw [h3, fl_uL, fl_uL, if_neg (by omega), if_neg (by omega)]
    · rw [h3, fl_uL, fl_uL, if_neg (by omega), if_pos (by omega), zz]
    · rw [h3, fl_uL, if_pos (by omega), zz]
  · rw [h3]; exact fl_sut (fl_suu (by omega) (by omega)) (fl_suu (by omega) (by omega))
  · exact fl_Rw (fl_Rn RR g (fl_v5e e8) k1 (by rw [w6]; exact k2) (by rw [w12, w18]; exact k3) X x1 x2 x3) rcd rfl rfl rfl
theorem fl_en {tt : Prop} {f f1 : Nat → Int32} {su t : Nat → Int64} {c prg stp vol tim old siz res mca res1 mca1 old1 siz1 hel hel1 sta las wai : Int32} {bin bou sbo cin cou bin1 bou1 : Int64} {fk fs fr fr1 ftb fqu : Nat → Int32} {W : fw_W} {P S : Nat} (hc : 0 ≤ c.toInt ∧ c.toInt < 6) (hp : prg.toInt = P) (hs : stp.toInt = S) (hP : P < 4) (hS : S < 12) (hw : wai.toInt ≤ 4) (hk : rf_st3 f c 0 = fk (12 * P + S)) (hk2 : rf_st3 f c 2 = fs (12 * P + S)) (h01 : hel = 0 ∨ hel = 1) (e5 : rf_of f c 5 = vol) (e8 : tt → f 8 = tim) (e19 : rf_of f c 19 = res) (e20 : rf_of f c 20 = mca) (R : fl_R tt f W) (w12 : W.1 12 = siz) (w18 : W.1 18 = old) (w6 : W.2.1 6 = fr)
    (U : fl_U f su c sta prg stp las wai hel bin bou sbo cin cou ftb fqu) (ha : fl_ac sta) (hr : q_X11_ends f su c f1 t) (hb : a_X1_measureEnd c prg stp bin bou hel sbo vol cin cou res mca tim fk fs 30 5 old siz fr bin1 bou1 hel1 res1 mca1 old1 siz1 fr1) :
    fl_U f1 t c sta prg stp las wai hel1 bin1 bou1 sbo cin cou ftb fqu ∧ rf_of f1 c 19 = res1 ∧ rf_of f1 c 20 = mca1 ∧ (∀ J : Nat, J < 54 → J ≠ 19 → J ≠ 20 → J ≠ 21 → rf_of f1 c J = rf_of f c J) ∧ fl_out c f f1 ∧ fl_su c su t ∧ (hel1 = 0 ∨ hel1 = 1) ∧ ∀ X : fw_W, X.1 12 = siz1 → X.1 18 = old1 → X.2.1 6 = fr1 → fl_R tt f1 X := by
  have d1 : ¬ (1 : Int32) = 3 := by decide
  have d2 : ¬ (1 : Int32) = 2 := by decide
  have d3 : ¬ (2 : Int32) = 1 := by decide
  have d4 : ¬ (2 : Int32) = 3 := by decide
  have d5 : ¬ (3 : Int32) = 1 := by decide
  have d6 : ¬ (3 : Int32) = 2 := by decide
  have u21 : rf_of f c 21 = hel := U.1.2.2.2
  have us := U.2.2.2.1
  obtain ⟨k, h1, hb⟩ := hb
  have ek := (fl_kd hp hs hP hS h1).trans hk.symm
  subst ek
  have R2 : ∀ {g : Nat → Int32}, fl_rec f g → ∀ X : fw_W, X.1 12 = siz → X.1 18 = old → X.2.1 6 = fr → fl_R tt g X := fun a X x1 x2 x3 => fl_Rw R a (x1.trans w12.symm) (x2.trans w18.symm) (x3.trans w6.symm)
  rcases hb with ⟨k1, c1, c2, c3, c4, c5, c6, c7, c8⟩ | ⟨k1, ⟨k2, x1, x2, x3, x4, x5, x6, x7, hm, c1, c2, c3, c4, c5, c6, c7, c8⟩ | ⟨k2, ⟨k3, c1, c2, c3, c4, c5, c6, c7, c8⟩ | ⟨k3, c1, c2, c3, c4, c5, c6, c7, c8⟩⟩⟩
  · obtain ⟨_, g, hg, hr⟩ := hr.resolve_left (fun z => z.1 k1)
    have hr := (hr.resolve_right (fun z => d1 (k1.symm.trans z.1))).2
    obtain ⟨_, e1, e2⟩ := hr.resolve_left (fun z => d2 (k1.symm.trans z.1))
    rw [c1, c2, c3, c4, c5, c6, c7, c8, e1, e2]
    have rr : rf_of g c = upd (rf_of f c) 21 1 := by rw [hg, fl_ofu]
    have kk : ∀ J : Nat, J < 54 → J ≠ 21 → rf_of g c J = rf_of f c J := fun J hJ j2 => by
      rw [rr]
      unfold upd
      rw [if_neg j2]
    refine ⟨fl_Uk hw U (fun J hJ _ _ j3 => kk J hJ j3) (by rw [rr]; rfl) rfl rfl rfl us.2.2.1 us.2.2.2, (kk 19 (by omega) (by omega)).trans e19, (kk 20 (by omega) (by omega)).trans e20, fun J hJ _ _ j3 => kk J hJ j3, ?_, fl_sur, Or.inr rfl, R2 ?_⟩
    · rw [hg]; exact fl_outu (by omega)
    · rw [hg]; exact fl_recu hc (by omega)
  · have hr := (hr.resolve_right (fun z => k1 z.1)).2
    have hr := (hr.resolve_right (fun z => d4 (k2.symm.trans z.1))).2
    have hr := (hr.resolve_right (fun z => z.1 k2)).2
    rw [c1, c2, c3, c4, c5, c6, c7, c8]
    rw [u21, hk2, e5] at hr
    have same : ∀ {fa : Nat → Int32} {b : Int32}, q_X11_records f su c b fa → upd fa (244 + 54 * c.toInt.toNat + 20) mca = fa := fun {fa b} q => by
      have g := fl_rcm hc R.2.1 q
      funext j
      unfold upd
      by_cases w : j = 244 + 54 * c.toInt.toNat + 20
      · rw [if_pos w, w, g.1 _ (by omega) (by omega)]; exact e20.symm
      · rw [if_neg w]
    rcases hr with ⟨n1, fa, q1, fb, tb, q2, e1, e2⟩ | ⟨y1, ⟨n2, fa, q1, fb, tb, q2, e1, e2⟩ | ⟨n2, fa, q1, x, s1, y, s2, fb, q2, fd, td, q3, e1, e2⟩⟩
    · have h0 : hel = 0 := h01.resolve_right n1
      have nn : ¬ (¬ fs (12 * P + S) < vol ∧ ¬ hel = 0) := fun z => z.2 h0
      obtain ⟨p1, p2⟩ := fl_cl hc q2
      obtain ⟨v1, v2, v3, v4, v5, v6, v7⟩ := fl_e2 (f1 := f1) (t := t) (b := 0) (m := mca) hc hp hs hP hS hw e8 R w12 w18 w6 U (by rw [if_neg nn, if_pos rfl]) (by rw [if_neg nn]) q1 (by rw [same q1, e1, p1]) (by rw [e2, p2]) hm
      exact ⟨v1, (v3 19 (by omega) (by omega) (by omega)).trans e19, v2, fun J hJ _ j2 j3 => v3 J hJ j2 j3, v4, v5, Or.inl v6, v7⟩
    · have nn : ¬ (¬ fs (12 * P + S) < vol ∧ ¬ hel = 0) := fun z => z.1 n2
      obtain ⟨p1, p2⟩ := fl_cl hc q2
      obtain ⟨v1, v2, v3, v4, v5, v6, v7⟩ := fl_e2 (f1 := f1) (t := t) (b := 0) (m := mca) hc hp hs hP hS hw e8 R w12 w18 w6 U (by rw [if_neg nn, if_pos rfl]) (by rw [if_neg nn]) q1 (by rw [same q1, e1, p1]) (by rw [e2, p2]) hm
      exact ⟨v1, (v3 19 (by omega) (by omega) (by omega)).trans e19, v2, fun J hJ _ j2 j3 => v3 J hJ j2 j3, v4, v5, Or.inl v6, v7⟩
    · have yy : ¬ fs (12 * P + S) < vol ∧ ¬ hel = 0 := ⟨n2, fun z => by rw [z] at y1; exact absurd y1 (by decide)⟩
      obtain ⟨p1, p2⟩ := fl_cl hc q3
      have y2 := fl_sum hc (K := 1) (by decide) (by omega) s1
      have y3 := fl_sum hc (K := 6) (by decide) (by omega) s2
      have y6 : su (7 * c.toInt.toNat + 6) = sbo := (U.2.2.2.2.1 ha).2.2
      obtain ⟨v1, v2, v3, v4, v5, v6, v7⟩ := fl_e2 (f1 := f1) (t := t) (b := 1) (m := (cou - sbo).toInt32) hc hp hs hP hS hw e8 R w12 w18 w6 U (by rw [if_pos yy, if_neg (by decide)]) (by rw [if_pos yy]) q1 (by rw [e1, p1, q2, y2, y3, us.2.1, y6]) (by rw [e2, p2]) hm
      exact ⟨v1, (v3 19 (by omega) (by omega) (by omega)).trans e19, v2, fun J hJ _ j2 j3 => v3 J hJ j2 j3, v4, v5, Or.inl v6, v7⟩
  · have hr := (hr.resolve_right (fun z => k1 z.1)).2
    obtain ⟨_, g, hg, hr⟩ := hr.resolve_left (fun z => z.1 k3)
    obtain ⟨_, e1, e2⟩ := hr.resolve_left (fun z => k2 z.1)
    rw [c1, c2, c3, c4, c5, c6, c7, c8, e1, e2]
    have rr : rf_of g c = upd (rf_of f c) 19 (rf_of f c 5) := by rw [hg, fl_ofu]
    have kk : ∀ J : Nat, J < 54 → J ≠ 19 → rf_of g c J = rf_of f c J := fun J hJ j2 => by
      rw [rr]
      unfold upd
      rw [if_neg j2]
    refine ⟨fl_Uk hw U (fun J hJ j1 _ _ => kk J hJ j1) ((kk 21 (by omega) (by omega)).trans u21) rfl rfl rfl us.2.2.1 us.2.2.2, by rw [rr]; exact e5, (kk 20 (by omega) (by omega)).trans e20, fun J hJ j1 _ _ => kk J hJ j1, ?_, fl_sur, h01, R2 ?_⟩
    · rw [hg]; exact fl_outu (by omega)
    · rw [hg]; exact fl_recu hc (by omega)
  · have hr := (hr.resolve_right (fun z => k1 z.1)).2
    have hr := (hr.resolve_right (fun z => k3 z.1)).2
    obtain ⟨_, e1, e2⟩ := hr.resolve_left (fun z => k2 z.1)
    rw [c1, c2, c3, c4, c5, c6, c7, c8, e1, e2]
    exact ⟨U, e19, e20, fun _ _ _ _ _ => rfl, fl_outr, fl_sur, h01, R2 fl_recr⟩
