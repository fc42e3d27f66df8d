/-- the class's cell behind a current -/
theorem fl_Fc {E FD HT CO AM i : Int32} {n : Nat} {cv F : Nat → Int32} {chg1 lft1 cap1 thr1 pz1 tmp1 het1 cun1 vol1 : Int32} {cin cou ein eou cin1 cou1 ein1 eou1 : Int64}
    (hn : 2 ≤ n ∧ n ≤ 11) (ht : 1 ≤ (F 15).toInt) (hf : 1 ≤ FD.toInt) (hh : 1 ≤ HT.toInt) (hC : 1 ≤ (fl_W (F 12) (F 7) FD (F 18) i).toInt) (hQ : 0 ≤ (fl_Q (F 12) E (F 6) (F 16) i).toInt)
    (h : a_X0_passCurrent (Int32.ofNat n) (F 12) (F 13) (F 14) (F 15) (F 6) (F 16) (F 7) (F 18) (F 8) (F 9) (F 17) cv cin cou ein eou E FD HT CO AM i chg1 lft1 cap1 thr1 pz1 tmp1 het1 cun1 vol1 cin1 cou1 ein1 eou1) :
    (chg1 = fl_F E FD HT CO AM cv (Int32.ofNat n) i F 6 ∧ lft1 = fl_F E FD HT CO AM cv (Int32.ofNat n) i F 16 ∧ cap1 = fl_F E FD HT CO AM cv (Int32.ofNat n) i F 7 ∧ thr1 = fl_F E FD HT CO AM cv (Int32.ofNat n) i F 18 ∧ pz1 = fl_F E FD HT CO AM cv (Int32.ofNat n) i F 8 ∧ tmp1 = fl_F E FD HT CO AM cv (Int32.ofNat n) i F 9 ∧ het1 = fl_F E FD HT CO AM cv (Int32.ofNat n) i F 17 ∧ cun1 = fl_F E FD HT CO AM cv (Int32.ofNat n) i F 4 ∧ vol1 = fl_F E FD HT CO AM cv (Int32.ofNat n) i F 5) ∧
    cin1 = (if i ≤ 0 then cin else cin + i.toInt64) ∧ cou1 = (if i ≤ 0 then cou - i.toInt64 else cou) ∧ ein1 = (if i ≤ 0 then ein else ein + i.toInt64 * vol1.toInt64) ∧ eou1 = (if i ≤ 0 then eou + (- i.toInt64) * vol1.toInt64 else eou) := by
  obtain ⟨pz, h1, chg, lft, ci, co, h2, cap, thr, h3, tmp, het, h4, r, h5, h6⟩ := h
  have e1 := fl_Pc ht h1
  obtain ⟨e2, e3, e4, e5⟩ := fl_Mc h2
  obtain ⟨e6, e7⟩ := fl_Wc hf h3
  obtain ⟨a, h7, b, h8, h9, h10⟩ := h4
  have ea := fl_q h7 (by rw [Jvm.Kit.i64_of_i32]; omega)
  have eb := fl_m h8 (by rw [Jvm.Kit.i64_of_i32]; omega)
  have ha : ∀ x y z : Int32, x + (y - z) = x + y - z := fun x y z => by rw [Int32.sub_eq_add_neg, Int32.sub_eq_add_neg, Int32.add_assoc]
  rw [ha] at ea eb
  subst ea eb
  rw [fl_d hh] at h9
  rw [fl_r hh] at h10
  subst e2 e6
  have er := fl_Rc rfl hn hC hQ h5
  subst er e1 e3 e7 h9 h10 e4 e5
  rcases h6 with ⟨q, g1, g2, g3, g4, g5, g6, g7, g8, g9, g10, g11, g12, g13⟩ | ⟨q, g1, g2, g3, g4, g5, g6, g7, g8, g9, g10, g11, g12, g13⟩
  · subst g1 g2 g3 g4 g5 g6 g7 g8 g9 g10 g11 g12 g13
    refine ⟨⟨rfl, rfl, rfl, rfl, rfl, rfl, rfl, rfl, rfl⟩, rfl, rfl, ?_, ?_⟩
    · rw [if_pos q]
    · rw [if_pos q]
  · subst g1 g2 g3 g4 g5 g6 g7 g8 g9 g10 g11 g12 g13
    refine ⟨⟨rfl, rfl, rfl, rfl, rfl, rfl, rfl, rfl, rfl⟩, rfl, rfl, ?_, ?_⟩
    · rw [if_neg q]
    · rw [if_neg q]
/-- warnings -/
def fl_wr (vol tmp lo hi ho : Int32) : Int32 := if vol ≤ hi then if lo ≤ vol then if tmp ≤ ho then 0 else 3 else 2 else 1
def fl_wc (r wfo wct : Int32) : Int32 := if r = 0 ∨ r = wfo then wct else wct + 1
theorem fl_wa {idx tmp vol wfo wct tim wlo whi who llim lwid lold lsiz wfo1 wct1 : Int32} {fln : Nat → Int32} (h : a_X1_warn idx tmp vol wfo wct tim wlo whi who llim lwid lold lsiz fln wfo1 wct1) : wfo1 = fl_wr vol tmp wlo whi who ∧ wct1 = fl_wc (fl_wr vol tmp wlo whi who) wfo wct := by
  unfold fl_wr fl_wc
  rcases h with ⟨a, ⟨b, ⟨c, h1, h2⟩ | ⟨c, ⟨d, h1, h2⟩ | ⟨d, _, _, _, _, h1, h2⟩⟩⟩ | ⟨b, ⟨d, h1, h2⟩ | ⟨d, _, _, _, _, h1, h2⟩⟩⟩ | ⟨a, ⟨d, h1, h2⟩ | ⟨d, _, _, _, _, h1, h2⟩⟩
  · rw [if_pos a, if_pos b, if_pos c]
    exact ⟨h1, by rw [if_pos (Or.inl rfl)]; exact h2⟩
  · rw [if_pos a, if_pos b, if_neg c]
    exact ⟨h1, by rw [if_pos (Or.inr d)]; exact h2⟩
  · rw [if_pos a, if_pos b, if_neg c]
    exact ⟨h1, by rw [if_neg (fun z => z.elim (fun y => absurd y (by decide)) d)]; exact h2⟩
  · rw [if_pos a, if_neg b]
    exact ⟨h1, by rw [if_pos (Or.inr d)]; exact h2⟩
  · rw [if_pos a, if_neg b]
    exact ⟨h1, by rw [if_neg (fun z => z.elim (fun y => absurd y (by decide)) d)]; exact h2⟩
  · rw [if_neg a]
    exact ⟨h1, by rw [if_pos (Or.inr d)]; exact h2⟩
  · rw [if_neg a]
    exact ⟨h1, by rw [if_neg (fun z => z.elim (fun y => absurd y (by decide)) d)]; exact h2⟩
theorem fl_wm {f : Nat → Int32} {c r : Int32} (h : q_X11_warningNow f c r) : r = fl_wr (rf_of f c 5) (rf_of f c 9) (f 13) (f 14) (f 15) := by
  unfold fl_wr
  rcases h with ⟨a, ⟨b, ⟨d, h1⟩ | ⟨d, h1⟩⟩ | ⟨b, h1⟩⟩ | ⟨a, h1⟩
  · rw [if_pos a, if_pos b, if_pos d]; exact h1
  · rw [if_pos a, if_pos b, if_neg d]; exact h1
  · rw [if_pos a, if_neg b]; exact h1
  · rw [if_neg a]; exact h1
/-- the log lies beside all that is told here -/
theorem fl_kpo {c : Int32} {f g : Nat → Int32} (h : q_kp 718 17 f g) : fl_out c f g := fun j h1 _ h3 _ => h j (by omega) h3
theorem fl_kpr {c : Int32} {f g : Nat → Int32} (hc : 0 ≤ c.toInt ∧ c.toInt < 6) (h : q_kp 718 17 f g) {J : Nat} (hJ : J < 54) : rf_of g c J = rf_of f c J := h _ (by omega) (by omega)
def fl_rec (f g : Nat → Int32) : Prop := ∀ j : Nat, ((568 ≤ j ∧ j < 718) ∨ j = 12) → g j = f j
theorem fl_recr {f : Nat → Int32} : fl_rec f f := fun _ _ => rfl
theorem fl_rect {f g h : Nat → Int32} (a : fl_rec f g) (b : fl_rec g h) : fl_rec f h := fun j q => (b j q).trans (a j q)
theorem fl_recu {f : Nat → Int32} {c v : Int32} {a : Nat} (hc : 0 ≤ c.toInt ∧ c.toInt < 6) (h : a < 54) : fl_rec f (upd f (244 + 54 * c.toInt.toNat + a) v) := fun j q => rf_upd_ne (by omega)
theorem fl_reck {f g : Nat → Int32} (h : q_kp 718 17 f g) : fl_rec f g := fun j q => h j (by omega) (by omega)
theorem fl_ws {f f1 : Nat → Int32} {c : Int32} (hc : 0 ≤ c.toInt ∧ c.toInt < 6) (h : q_X11_warns f c f1) : (∀ J : Nat, J < 54 → rf_of f1 c J = upd (upd (rf_of f c) 36 (fl_wc (fl_wr (rf_of f c 5) (rf_of f c 9) (f 13) (f 14) (f 15)) (rf_of f c 37) (rf_of f c 36))) 37 (fl_wr (rf_of f c 5) (rf_of f c 9) (f 13) (f 14) (f 15)) J) ∧ fl_out c f f1 ∧ fl_rec f f1 := by
  obtain ⟨r, h1, h2⟩ := h
  have er := fl_wm h1
  rw [← er]
  unfold fl_wc
  rcases h2 with ⟨a, g, h3, h4⟩ | ⟨a, ⟨b, g, h3, h4⟩ | ⟨b, g, h3, g2, h5, g3, h6, h7⟩⟩
  · rw [if_pos (Or.inl a)]
    refine ⟨fun J _ => ?_, by rw [h4, h3]; exact fl_outu (by omega), by rw [h4, h3]; exact fl_recu hc (by omega)⟩
    rw [h4, h3, fl_ofu]
    unfold upd
    by_cases q : J = 37
    · rw [if_pos q, if_pos q]
    · rw [if_neg q, if_neg q]
      by_cases w : J = 36
      · rw [if_pos w, w]
      · rw [if_neg w]
  · rw [if_pos (Or.inr b)]
    refine ⟨fun J _ => ?_, by rw [h4, h3]; exact fl_outu (by omega), by rw [h4, h3]; exact fl_recu hc (by omega)⟩
    rw [h4, h3, fl_ofu]
    unfold upd
    by_cases q : J = 37
    · rw [if_pos q, if_pos q]
    · rw [if_neg q, if_neg q]
      by_cases w : J = 36
      · rw [if_pos w, w]
      · rw [if_neg w]
  · rw [if_neg (fun z => z.elim a b)]
    refine ⟨fun J hJ => ?_, by rw [h7, h6]; exact fl_outt (by rw [h3]; exact fl_outu (by omega)) (fl_outt (fl_kpo h5) (fl_outu (by omega))), by rw [h7, h6]; exact fl_rect (by rw [h3]; exact fl_recu hc (by omega)) (fl_rect (fl_reck h5) (fl_recu hc (by omega)))⟩
    rw [h7, h6, fl_ofu]
    unfold upd
    by_cases q : J = 37
    · rw [if_pos q, if_pos q]
    · rw [if_neg q, if_neg q, fl_kpr hc h5 hJ, h3, fl_ofu]
      rfl
/-- does the step end, does the channel trip -/
def fl_ov (kd a b las chg cun vol : Int32) : Bool := if kd = 0 then decide (¬ vol < b) else if kd = 1 then decide (¬ b < cun) else if kd = 2 then decide (vol ≤ b ∨ chg = 0) else decide (¬ las < a)
def fl_tr (las tmp vol low hig hot : Int32) (o : Bool) : Int32 := if vol ≤ hig then if low ≤ vol then if tmp ≤ hot then if las < 20000 then 0 else if o = true then 0 else 4 else 3 else 2 else 1
theorem fl_ova {prg stp las chg cun vol r : Int32} {fk ff fs : Nat → Int32} {P S : Nat} (hp : prg.toInt = P) (hs : stp.toInt = S) (hP : P < 4) (hS : S < 12) (h : a_X1_stepEnds prg stp las chg cun vol fk ff fs r) : r = if fl_ov (fk (12 * P + S)) (ff (12 * P + S)) (fs (12 * P + S)) las chg cun vol = true then 1 else 0 := by
  obtain ⟨a, h1, b, h2, k, h3, h4⟩ := h
  have e1 := fl_fs hp hs hP hS h1
  have e2 := fl_sc hp hs hP hS h2
  have e3 := fl_kd hp hs hP hS h3
  subst e1 e2 e3
  unfold fl_ov
  rcases h4 with ⟨q, ⟨w, h5⟩ | ⟨w, h5⟩⟩ | ⟨q, ⟨q2, ⟨w, h5⟩ | ⟨w, h5⟩⟩ | ⟨q2, ⟨q3, ⟨w, h5⟩ | ⟨w, ⟨w2, h5⟩ | ⟨w2, h5⟩⟩⟩ | ⟨q3, ⟨w, h5⟩ | ⟨w, h5⟩⟩⟩⟩
  · rw [if_pos q, if_neg (by simpa using w)]; exact h5
  · rw [if_pos q, if_pos (by simpa using w)]; exact h5
  · rw [if_neg q, if_pos q2, if_neg (by simpa using w)]; exact h5
  · rw [if_neg q, if_pos q2, if_pos (by simpa using w)]; exact h5
  · rw [if_neg q, if_neg q2, if_pos q3, if_pos (decide_eq_true (Or.inl w))]; exact h5
  · rw [if_neg q, if_neg q2, if_pos q3, if_neg (fun z => (of_decide_eq_true z).elim w w2)]; exact h5
  · rw [if_neg q, if_neg q2, if_pos q3, if_pos (decide_eq_true (Or.inr w2))]; exact h5
  · rw [if_neg q, if_neg q2, if_neg q3, if_neg (by simpa using w)]; exact h5
  · rw [if_neg q, if_neg q2, if_neg q3, if_pos (by simpa using w)]; exact h5
theorem fl_ovm {f : Nat → Int32} {c r : Int32} (h : q_X11_isOver f c r) : r = if fl_ov (rf_st3 f c 0) (rf_st3 f c 1) (rf_st3 f c 2) (rf_of f c 3) (rf_of f c 6) (rf_of f c 4) (rf_of f c 5) = true then 1 else 0 := by
  unfold fl_ov
  rcases h with ⟨q, ⟨w, h5⟩ | ⟨w, h5⟩⟩ | ⟨q, ⟨q2, ⟨w, h5⟩ | ⟨w, h5⟩⟩ | ⟨q2, ⟨q3, ⟨w, h5⟩ | ⟨w, ⟨w2, h5⟩ | ⟨w2, h5⟩⟩⟩ | ⟨q3, ⟨w, h5⟩ | ⟨w, h5⟩⟩⟩⟩
  · rw [if_pos q, if_neg (by simpa using w)]; exact h5
  · rw [if_pos q, if_pos (by simpa using w)]; exact h5
  · rw [if_neg q, if_pos q2, if_neg (by simpa using w)]; exact h5
  · rw [if_neg q, if_pos q2, if_pos (by simpa using w)]; exact h5
  · rw [if_neg q, if_neg q2, if_pos q3, if_pos (decide_eq_true (Or.inl w))]; exact h5
  · rw [if_neg q, if_neg q2, if_pos q3, if_neg (fun z => (of_decide_eq_true z).elim w w2)]; exact h5
  · rw [if_neg q, if_neg q2, if_pos q3, if_pos (decide_eq_true (Or.inr w2))]; exact h5
  · rw [if_neg q, if_neg q2, if_neg q3, if_neg (by simpa using w)]; exact h5
  · rw [if_neg q, if_neg q2, if_neg q3, if_pos (by simpa using w)]; exact h5
