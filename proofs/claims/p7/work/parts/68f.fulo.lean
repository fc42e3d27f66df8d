/-! how a running channel's tick ends -/
theorem fl_tr0 {las tmp vol low hig hot : Int32} {o : Bool} (h : fl_tr las tmp vol low hig hot o ≤ 0) : fl_tr las tmp vol low hig hot o = 0 := by
  unfold fl_tr at h ⊢
  by_cases a : vol ≤ hig
  · rw [if_pos a] at h ⊢
    by_cases b : low ≤ vol
    · rw [if_pos b] at h ⊢
      by_cases d : tmp ≤ hot
      · rw [if_pos d] at h ⊢
        by_cases e : las < 20000
        · rw [if_pos e]
        · rw [if_neg e] at h ⊢
          by_cases g : o = true
          · rw [if_pos g]
          · rw [if_neg g] at h; exact absurd h (by decide)
      · rw [if_neg d] at h; exact absurd h (by decide)
    · rw [if_neg b] at h; exact absurd h (by decide)
  · rw [if_neg a] at h; exact absurd h (by decide)
theorem fl_Ul {f : Nat → Int32} {su : Nat → Int64} {c sta prg stp las wai hel v : Int32} {bin bou sbo cin cou : Int64} {ftb fqu : Nat → Int32} (ha : fl_ac sta) (U : fl_U f su c sta prg stp las wai hel bin bou sbo cin cou ftb fqu) : fl_U (upd f (244 + 54 * c.toInt.toNat + 3) v) su c sta prg stp v wai hel bin bou sbo cin cou ftb fqu := by
  obtain ⟨⟨u0, u1, u39, u21⟩, ut, uq, us, ua, un⟩ := U
  have k : ∀ J : Nat, J ≠ 3 → rf_of (upd f (244 + 54 * c.toInt.toNat + 3) v) c J = rf_of f c J := fun J hJ => by
    rw [fl_ofu]
    unfold upd
    rw [if_neg hJ]
  refine ⟨⟨(k 0 (by omega)).trans u0, (k 1 (by omega)).trans u1, (k 39 (by omega)).trans u39, (k 21 (by omega)).trans u21⟩, fun j hj => (k _ (by omega)).trans (ut j hj), fun j hj => (k _ (by omega)).trans (uq j hj), us, fun z => ⟨(k 2 (by omega)).trans (ua z).1, ?_, (ua z).2.2⟩, fun z => absurd ha z⟩
  rw [fl_ofu]
  rfl
/-- the class's part, told once (its relation has it three times) -/
def fl_tl (c prg stp las wai : Int32) (bin bou : Int64) (hel : Int32) (sbo cin cou : Int64) (chg cun vol tmp res mca trr : Int32) (ftb fqu : Nat → Int32) (tim low hig hot : Int32) (fsps fk ff fs : Nat → Int32) (old siz : Int32) (fr : Nat → Int32) (llim lwid lold lsiz : Int32) (fln : Nat → Int32)
    (r sta1 prg1 stp1 las1 wai1 : Int32) (bin1 bou1 : Int64) (hel1 : Int32) (sbo1 : Int64) (res1 mca1 trr1 : Int32) (ftb1 fqu1 : Nat → Int32) (old1 siz1 : Int32) (fr1 : Nat → Int32) : Prop :=
  ∃ o : Int32, a_X1_stepEnds prg stp (las + 1) chg cun vol fk ff fs o ∧ ∃ w : Int32, a_X1_tripReason (las + 1) tmp vol low hig hot o w ∧
    ((w = 0 ∧ ((o = 0 ∧ (r = o ∧ sta1 = 1 ∧ prg1 = prg ∧ stp1 = stp ∧ las1 = las + 1 ∧ wai1 = wai ∧ bin1 = bin ∧ bou1 = bou ∧ hel1 = hel ∧ sbo1 = sbo ∧ res1 = res ∧ mca1 = mca ∧ trr1 = trr ∧ ftb1 = ftb ∧ fqu1 = fqu ∧ old1 = old ∧ siz1 = siz ∧ fr1 = fr)) ∨
      (¬ o = 0 ∧ ∃ (b2 o2 : Int64) (h2 : Int32), a_X1_measureEnd c prg stp bin bou hel sbo vol cin cou res mca tim fk fs 30 5 old siz fr b2 o2 h2 res1 mca1 old1 siz1 fr1 ∧
        a_X1_leaveStep c 1 prg stp (las + 1) wai b2 o2 h2 sbo cin cou ftb fqu tim fsps fk ff fs llim lwid lold lsiz fln sta1 prg1 stp1 las1 wai1 bin1 bou1 hel1 sbo1 ftb1 fqu1 ∧ r = o ∧ trr1 = trr))) ∨
     (¬ w = 0 ∧ r = 0 ∧ sta1 = 4 ∧ trr1 = w ∧ prg1 = prg ∧ stp1 = stp ∧ las1 = las + 1 ∧ wai1 = wai ∧ bin1 = bin ∧ bou1 = bou ∧ hel1 = hel ∧ sbo1 = sbo ∧ res1 = res ∧ mca1 = mca ∧ ftb1 = ftb ∧ fqu1 = fqu ∧ old1 = old ∧ siz1 = siz ∧ fr1 = fr))
/-- the places of a channel that the end of a tick leaves as they are -/
def fl_sw (J : Nat) : Prop := (4 ≤ J ∧ J ≤ 9) ∨ (11 ≤ J ∧ J ≤ 18) ∨ J = 22 ∨ J = 23 ∨ (36 ≤ J ∧ J < 39) ∨ (44 ≤ J ∧ J < 54)
def fl_nx (fk : Nat → Int32) (P n : Nat) (prg wai : Int32) (ftb fqu : Nat → Int32) (sta1 prg1 stp1 wai1 : Int32) (ftb1 fqu1 : Nat → Int32) : Prop :=
  ((sta1 = 1 ∨ sta1 = 4) ∧ prg1 = prg ∧ (∃ S1 : Nat, stp1.toInt = S1 ∧ S1 < n ∧ fl_lo (fun j => fk (12 * P + j)) S1 ftb1 ∧ ¬ fk (12 * P + S1) = 4) ∧ wai1 = wai ∧ fqu1 = fqu ∧ fl_tu n ftb ftb1) ∨
  (sta1 = 3 ∧ prg1 = prg ∧ wai1 = wai ∧ fqu1 = fqu ∧ fl_tu n ftb ftb1) ∨
  (1 ≤ wai.toInt ∧ sta1 = 1 ∧ prg1 = fqu 0 ∧ stp1 = 0 ∧ wai1.toInt = wai.toInt - 1 ∧ (∀ j : Nat, (j : Int) < wai1.toInt → fqu1 j = fqu (j + 1)) ∧ ∀ j : Nat, j < 12 → ftb1 j = 0)
theorem fl_wt {tt : Prop} {f f1 G : Nat → Int32} {su t : Nat → Int64} {men men1 c prg stp las wai chg cun vol tmp res mca trr tim low hig hot old siz llim lwid lold lsiz r sta1 prg1 stp1 las1 wai1 hel hel1 res1 mca1 trr1 old1 siz1 : Int32} {bin bou sbo cin cou bin1 bou1 sbo1 : Int64} {ftb fqu fsps fk ff fs fr fln ftb1 fqu1 fr1 : Nat → Int32} {W : fw_W} {P n S : Nat}
    (hc : 0 ≤ c.toInt ∧ c.toInt < 6) (hp : prg.toInt = P) (hP : P < 4) (pg : fl_Pg f fsps fk ff fs P n) (hS : stp.toInt = S) (hSn : S < n) (hl : fl_lo (fun j => fk (12 * P + j)) S ftb) (hk4 : ¬ fk (12 * P + S) = 4) (hw : 0 ≤ wai.toInt ∧ wai.toInt ≤ 4) (h01 : hel = 0 ∨ hel = 1)
    (e4 : rf_of f c 4 = cun) (e5 : rf_of f c 5 = vol) (e6 : rf_of f c 6 = chg) (e9 : rf_of f c 9 = tmp) (e10 : rf_of f c 10 = trr) (e19 : rf_of f c 19 = res) (e20 : rf_of f c 20 = mca) (g4 : f 4 = low) (g5 : f 5 = hig) (g6 : f 6 = hot) (e8 : tt → f 8 = tim)
    (R : fl_R tt f W) (w12 : W.1 12 = siz) (w18 : W.1 18 = old) (w6 : W.2.1 6 = fr) (U : fl_U f su c 1 prg stp las wai hel bin bou sbo cin cou ftb fqu)
    (hr : q_X11_watches men f G su c men1 f1 t) (hb : fl_tl c prg stp las wai bin bou hel sbo cin cou chg cun vol tmp res mca trr ftb fqu tim low hig hot fsps fk ff fs old siz fr llim lwid lold lsiz fln r sta1 prg1 stp1 las1 wai1 bin1 bou1 hel1 sbo1 res1 mca1 trr1 ftb1 fqu1 old1 siz1 fr1) :
    fl_U f1 t c sta1 prg1 stp1 las1 wai1 hel1 bin1 bou1 sbo1 cin cou ftb1 fqu1 ∧ (rf_of f1 c 10 = trr1 ∧ rf_of f1 c 19 = res1 ∧ rf_of f1 c 20 = mca1) ∧ (∀ J : Nat, fl_sw J → rf_of f1 c J = rf_of f c J) ∧ fl_out c f f1 ∧ fl_su c su t ∧ (hel1 = 0 ∨ hel1 = 1) ∧ (∀ X : fw_W, X.1 12 = siz1 → X.1 18 = old1 → X.2.1 6 = fr1 → fl_R tt f1 X) ∧ men1 = (if r = 0 then men else men + 1) ∧ fl_nx fk P n prg wai ftb fqu sta1 prg1 stp1 wai1 ftb1 fqu1 := by
  obtain ⟨f7, h7, w, hw2, hr⟩ := hr
  obtain ⟨o, ho, v, hv, hb⟩ := hb
  have hn12 := pg.2.2.2.1
  have ac1 : fl_ac 1 := Or.inl rfl
  have ua := U.2.2.2.2.1 ac1
  have U7 : fl_U f7 su c 1 prg stp (las + 1) wai hel bin bou sbo cin cou ftb fqu := by
    rw [h7, ua.2.1]; exact fl_Ul ac1 U
  have R7 : rf_of f7 c = upd (rf_of f c) 3 (las + 1) := by rw [h7, fl_ofu, ua.2.1]
  have k7 : ∀ J : Nat, J ≠ 3 → rf_of f7 c J = rf_of f c J := fun J hJ => by
    rw [R7]
    unfold upd
    rw [if_neg hJ]
  have o7 : fl_out c f f7 := by rw [h7]; exact fl_outu (by omega)
  have r7 : fl_rec f f7 := by rw [h7]; exact fl_recu hc (by omega)
  have s7 : ∀ j : Nat, j < 244 → f7 j = f j := fun j hj => by rw [h7]; exact rf_upd_ne (by omega)
  have st : ∀ x : Nat, rf_st3 f7 c x = f7 (97 + 37 * P + 3 * S + x) := fun x => by
    unfold rf_st3
    rw [U7.1.2.1, (U7.2.2.2.2.1 ac1).1, show prg.toInt.toNat = P from by omega, show stp.toInt.toNat = S from by omega]
  have st0 : rf_st3 f7 c 0 = fk (12 * P + S) := by rw [st, s7 _ (by omega)]; exact (pg.2.2.1 S hSn).1
  have st1 : rf_st3 f7 c 1 = ff (12 * P + S) := by rw [st, s7 _ (by omega), show 97 + 37 * P + 3 * S + 1 = 98 + 37 * P + 3 * S from by omega]; exact (pg.2.2.1 S hSn).2.1
  have st2 : rf_st3 f7 c 2 = fs (12 * P + S) := by rw [st, s7 _ (by omega), show 97 + 37 * P + 3 * S + 2 = 99 + 37 * P + 3 * S from by omega]; exact (pg.2.2.1 S hSn).2.2
  have l3 : rf_of f7 c 3 = las + 1 := by rw [R7]; rfl
  have eo := fl_ova hp hS hP (by omega) ho
  rw [eo] at hv
  have ev := fl_tra hv
  have ew := fl_trm hw2
  rw [st0, st1, st2, l3, k7 9 (by omega), k7 5 (by omega), k7 6 (by omega), k7 4 (by omega), s7 4 (by omega), s7 5 (by omega), s7 6 (by omega), e4, e5, e6, e9, g4, g5, g6, ← ev] at ew
  have out7 : ∀ J : Nat, fl_sw J → rf_of f7 c J = rf_of f c J := fun J hJ => k7 J (by unfold fl_sw at hJ; omega)
  have l1 : fl_lo (fun j => fk (12 * P + j)) (S + 1) ftb := fun j hj hk => by
    by_cases q : j = S
    · subst q; exact absurd hk hk4
    · exact hl j (by omega) hk
  rcases hr with ⟨z, x, hx, hr⟩ | ⟨z, f8, h8, f9, h9, f10, h10, m1, q1, q2⟩
  · have z0 : v = 0 := by
      rw [ew, ev] at z
      rw [ev]; exact fl_tr0 z
    have hb := hb.resolve_right (fun q => q.1 z0)
    have ex := fl_ovm hx
    rw [st0, st1, st2, l3, k7 6 (by omega), k7 4 (by omega), k7 5 (by omega), e4, e5, e6, ← eo] at ex
    rcases hb.2 with ⟨y, b1, c1, c2, c3, c4, c5, c6, c7, c8, c9, c10, c11, c12, c13, c14, c15, c16, c17⟩ | ⟨y, b2, o2, h2, hm, hlv, b1, c12⟩
    · obtain ⟨_, m1, q1, q2⟩ := hr.resolve_right (fun q => q.1 (ex.trans y))
      rw [b1, c1, c2, c3, c4, c5, c6, c7, c8, c9, c10, c11, c12, c13, c14, c15, c16, c17, m1, q1, q2, if_pos y]
      exact ⟨U7, ⟨(k7 10 (by omega)).trans e10, (k7 19 (by omega)).trans e19, (k7 20 (by omega)).trans e20⟩, out7, o7, fl_sur, h01, fun X x1 x2 x3 => fl_Rw R r7 (x1.trans w12.symm) (x2.trans w18.symm) (x3.trans w6.symm), rfl, Or.inl ⟨Or.inl rfl, rfl, ⟨S, hS, hSn, hl, hk4⟩, rfl, rfl, fun _ _ _ => rfl⟩⟩
    · obtain ⟨_, fa, sa, hen, fb, hkp, fc, sc, hco, m1, q1, q2⟩ := hr.resolve_left (fun q => y (ex.symm.trans q.1))
      have R7w : fl_R tt f7 W := fl_Rw R r7 rfl rfl rfl
      obtain ⟨a1, a2, a3, a4, a5, a6, a7, a8⟩ := fl_en hc hp hS hP (by omega) hw.2 st0 st2 h01 ((k7 5 (by omega)).trans e5) (fun q => (s7 8 (by omega)).trans (e8 q)) ((k7 19 (by omega)).trans e19) ((k7 20 (by omega)).trans e20) R7w w12 w18 w6 U7 ac1 hen hm
      have kb : ∀ J : Nat, J < 54 → rf_of fb c J = rf_of fa c J := fun J hJ => fl_kpr hc hkp hJ
      have Ub : fl_U fb sa c 1 prg stp (las + 1) wai h2 b2 o2 sbo cin cou ftb fqu := fl_Uk hw.2 a1 (fun J hJ _ _ _ => kb J hJ) ((kb 21 (by omega)).trans a1.1.2.2.2) rfl rfl rfl a1.2.2.2.1.2.2.1 a1.2.2.2.1.2.2.2
      have ob : fl_out c f fb := fl_outt o7 (fl_outt a5 (fl_kpo hkp))
      have pgb : fl_Pg fb fsps fk ff fs P n := ⟨pg.1, (ob _ (by omega) (by omega) (by omega) (by omega)).trans pg.2.1, fun j hj => ⟨(ob _ (by omega) (by omega) (by omega) (by omega)).trans (pg.2.2.1 j hj).1, (ob _ (by omega) (by omega) (by omega) (by omega)).trans (pg.2.2.1 j hj).2.1, (ob _ (by omega) (by omega) (by omega) (by omega)).trans (pg.2.2.1 j hj).2.2⟩, pg.2.2.2⟩
      obtain ⟨d1, d2, d3, d4, d5, dh, d6⟩ := fl_lv hc hp hP pgb hS hSn l1 hw ac1 Ub (by rw [(Ub.2.2.2.2.1 ac1).1]) hco hlv
      have hel1e : hel1 = 0 ∨ hel1 = 1 := dh.elim (fun q => by rw [q]; exact a7) Or.inl
      rw [b1, c12, m1, q1, q2, if_neg y]
      refine ⟨d1, ⟨?_, ?_, ?_⟩, fun J hJ => ?_, fl_outt ob d3, fl_sut a6 d5, hel1e, fun X x1 x2 x3 => fl_Rw (a8 X x1 x2 x3) (fl_rect (fl_reck hkp) d4) rfl rfl rfl, rfl, ?_⟩
      · rw [d2 10 (Or.inl (by omega)), kb 10 (by omega), a4 10 (by omega) (by omega) (by omega) (by omega), k7 10 (by omega)]; exact e10
      · rw [d2 19 (Or.inl (by omega)), kb 19 (by omega)]; exact a2
      · rw [d2 20 (Or.inl (by omega)), kb 20 (by omega)]; exact a3
      · have hJ2 : fl_sq J := by
          unfold fl_sw at hJ
          unfold fl_sq
          omega
        have hJ3 := hJ
        unfold fl_sw at hJ3
        rw [d2 J hJ2, kb J (by omega), a4 J (by omega) (by omega) (by omega) (by omega)]
        exact out7 J hJ
      · rcases d6 with ⟨z1, z2, z3, z4, z5, z6, z7⟩ | ⟨z1, z2, z3, z4, z5⟩ | z1
        · exact Or.inl ⟨Or.inl z1, z2, z3, z5, z6, z7⟩
        · exact Or.inr (Or.inl ⟨z1, z2, z3, z4, z5⟩)
        · exact Or.inr (Or.inr z1)
  · have z0 : ¬ v = 0 := fun q => z (by rw [ew, q]; decide)
    obtain ⟨_, b1, c1, c12, c2, c3, c4, c5, c6, c7, c8, c9, c10, c11, c13, c14, c15, c16, c17⟩ := hb.resolve_left (fun q => z0 q.1)
    have ac4 : fl_ac 4 := Or.inr (Or.inr rfl)
    have R9 : rf_of f9 c = upd (upd (rf_of f7 c) 0 4) 10 w := by rw [h9, fl_ofu, h8, fl_ofu]
    have k9 : ∀ J : Nat, J < 54 → J ≠ 0 → J ≠ 10 → rf_of f10 c J = rf_of f7 c J := fun J hJ j1 j2 => by
      rw [fl_kpr hc h10 hJ, R9]
      unfold upd
      rw [if_neg j2, if_neg j1]
    have o9 : fl_out c f f10 := by
      refine fl_outt o7 (fl_outt ?_ (fl_kpo h10))
      rw [h9, h8]
      exact fl_outt (fl_outu (by omega)) (fl_outu (by omega))
    have r9 : fl_rec f f10 := by
      refine fl_rect r7 (fl_rect ?_ (fl_reck h10))
      rw [h9, h8]
      exact fl_rect (fl_recu hc (by omega)) (fl_recu hc (by omega))
    obtain ⟨⟨u0, u1, u39, u21⟩, ut, uq, us, ub, un⟩ := U7
    rw [b1, c1, c2, c3, c4, c5, c6, c7, c8, c9, c10, c11, c12, c13, c14, c15, c16, c17, m1, q1, q2, if_pos rfl]
    refine ⟨⟨⟨?_, ?_, ?_, ?_⟩, fun j hj => ?_, fun j hj => ?_, us, fun _ => ⟨?_, ?_, (ub ac1).2.2⟩, fun q => absurd ac4 q⟩, ⟨?_, ?_, ?_⟩, fun J hJ => ?_, o9, fl_sur, h01, fun X x1 x2 x3 => fl_Rw R r9 (x1.trans w12.symm) (x2.trans w18.symm) (x3.trans w6.symm), rfl, Or.inl ⟨Or.inr rfl, rfl, ⟨S, hS, hSn, hl, hk4⟩, rfl, rfl, fun _ _ _ => rfl⟩⟩
    · rw [fl_kpr hc h10 (by omega), R9]; rfl
    · rw [k9 1 (by omega) (by omega) (by omega)]; exact u1
    · rw [k9 39 (by omega) (by omega) (by omega)]; exact u39
    · rw [k9 21 (by omega) (by omega) (by omega)]; exact u21
    · rw [k9 (24 + j) (by omega) (by omega) (by omega)]; exact ut j hj
    · rw [k9 (40 + j) (by omega) (by omega) (by omega)]; exact uq j hj
    · rw [k9 2 (by omega) (by omega) (by omega)]; exact (ub ac1).1
    · rw [k9 3 (by omega) (by omega) (by omega)]; exact (ub ac1).2.1
    · rw [fl_kpr hc h10 (by omega), R9]; exact ew
    · rw [k9 19 (by omega) (by omega) (by omega), k7 19 (by omega)]; exact e19
    · rw [k9 20 (by omega) (by omega) (by omega), k7 20 (by omega)]; exact e20
    · have hJ2 := hJ
      unfold fl_sw at hJ2
      rw [k9 J (by omega) (by omega) (by omega)]
      exact out7 J hJ
