/-- what a current does is the same where the rows are the same -/
theorem fl_Fx {E FD HT CO AM i : Int32} {a b F F' : Nat → Int32} {n : Nat} (hn : 2 ≤ n ∧ n ≤ 11) (hv : ∀ j : Nat, j < n → a j = b j) (h : ∀ J : Nat, fl_e J → F J = F' J) (hC : 1 ≤ (fl_W (F' 12) (F' 7) FD (F' 18) i).toInt) (hQ : 0 ≤ (fl_Q (F' 12) E (F' 6) (F' 16) i).toInt) {J : Nat} (hJ : fl_e J) : fl_F E FD HT CO AM a (Int32.ofNat n) i F J = fl_F E FD HT CO AM b (Int32.ofNat n) i F' J := by
  unfold fl_F
  rw [h 14 (by unfold fl_e; omega), h 15 (by unfold fl_e; omega), h 8 (by unfold fl_e; omega), h 12 (by unfold fl_e; omega), h 6 (by unfold fl_e; omega), h 16 (by unfold fl_e; omega), h 7 (by unfold fl_e; omega), h 18 (by unfold fl_e; omega), h 9 (by unfold fl_e; omega), h 17 (by unfold fl_e; omega), h 13 (by unfold fl_e; omega), fl_Vx hn hC hQ hv]
  exact fl_uc (fl_uc (fl_uc (fl_uc (fl_uc (fl_uc (fl_uc (fl_uc (fl_uc (h J hJ) rfl) rfl) rfl) rfl) rfl) rfl) rfl) rfl) rfl
theorem fl_Fo {E FD HT CO AM n i : Int32} {a F : Nat → Int32} {J : Nat} (hJ : J < 4 ∨ (10 ≤ J ∧ J < 16) ∨ 19 ≤ J) : fl_F E FD HT CO AM a n i F J = F J := by
  unfold fl_F
  rw [rf_upd_ne (by omega), rf_upd_ne (by omega), rf_upd_ne (by omega), rf_upd_ne (by omega), rf_upd_ne (by omega), rf_upd_ne (by omega), rf_upd_ne (by omega), rf_upd_ne (by omega), rf_upd_ne (by omega)]
/-- the current flows, the filling is counted -/
theorem fl_md {f f2 f3 : Nat → Int32} {su t2 : Nat → Int64} {k n v : Nat} {i pm pm2 : Int32} {q : fw_C} {W : fw_W} {chg1 lft1 cap1 thr1 pz1 tmp1 het1 cun1 vol1 : Int32} {cin1 cou1 ein1 eou1 : Int64} {fbd1 : Nat → Int32}
    (ok : fl_ok f (Int32.ofNat k) n v) (hp : q.1 11 = Int32.ofNat n) (hcv : ∀ j : Nat, j < n → f (28 + 19 * v + j) = q.2.2 2 j)
    (s0 : f 0 = W.1 0) (s1 : f 1 = W.1 1) (s2 : f 2 = W.1 2) (s3 : f 3 = W.1 3) (s7 : f 7 = W.1 7) (C : fl_C f su k q) (hi : -5000 ≤ i.toInt ∧ i.toInt ≤ 5000) (hq : -(rf_of f (Int32.ofNat k) 6).toInt ≤ i.toInt)
    (h1 : q_X11_flows f su (Int32.ofNat k) i f2 t2) (h2 : q_X11_filled f2 (Int32.ofNat k) pm) (h3 : f3 = upd f2 (244 + 54 * (Int32.ofNat k).toInt.toNat + (44 + (if (pm / 100) < 9 then (pm / 100) else 9)).toInt.toNat) ((rf_of f2 (Int32.ofNat k) (44 + (if (pm / 100) < 9 then (pm / 100) else 9)).toInt.toNat) + 1))
    (g1 : a_X0_passCurrent (q.1 11) (q.1 12) (q.1 13) (q.1 14) (q.1 15) (q.1 6) (q.1 16) (q.1 7) (q.1 18) (q.1 8) (q.1 9) (q.1 17) (q.2.2 2) (q.2.1 0) (q.2.1 1) (q.2.1 2) (q.2.1 3) (W.1 0) (W.1 1) (W.1 2) (W.1 3) (W.1 7) i chg1 lft1 cap1 thr1 pz1 tmp1 het1 cun1 vol1 cin1 cou1 ein1 eou1)
    (g2 : a_X0_thousandths chg1 cap1 pm2) (g3 : a_X4_countFilling (q.2.2 3) pm2 fbd1) :
    (∀ J : Nat, (J < 4 ∨ (10 ≤ J ∧ J < 16) ∨ (19 ≤ J ∧ J < 44)) → rf_of f3 (Int32.ofNat k) J = rf_of f (Int32.ofNat k) J) ∧
    (rf_of f3 (Int32.ofNat k) 4 = cun1 ∧ rf_of f3 (Int32.ofNat k) 5 = vol1 ∧ rf_of f3 (Int32.ofNat k) 6 = chg1 ∧ rf_of f3 (Int32.ofNat k) 7 = cap1 ∧ rf_of f3 (Int32.ofNat k) 8 = pz1 ∧ rf_of f3 (Int32.ofNat k) 9 = tmp1 ∧ rf_of f3 (Int32.ofNat k) 16 = lft1 ∧ rf_of f3 (Int32.ofNat k) 17 = het1 ∧ rf_of f3 (Int32.ofNat k) 18 = thr1) ∧
    (∀ j : Nat, j < 10 → rf_of f3 (Int32.ofNat k) (44 + j) = fbd1 j) ∧
    (t2 (7 * (Int32.ofNat k).toInt.toNat + 0) = cin1 ∧ t2 (7 * (Int32.ofNat k).toInt.toNat + 1) = cou1 ∧ t2 (7 * (Int32.ofNat k).toInt.toNat + 2) = ein1 ∧ t2 (7 * (Int32.ofNat k).toInt.toNat + 3) = eou1 ∧ t2 (7 * (Int32.ofNat k).toInt.toNat + 4) = cin1 - q.2.1 4 ∧ t2 (7 * (Int32.ofNat k).toInt.toNat + 5) = cou1 - q.2.1 5 ∧ t2 (7 * (Int32.ofNat k).toInt.toNat + 6) = su (7 * (Int32.ofNat k).toInt.toNat + 6)) ∧
    (∀ j : Nat, (j < 7 * (Int32.ofNat k).toInt.toNat ∨ 7 * (Int32.ofNat k).toInt.toNat + 7 ≤ j) → t2 j = su j) ∧ fl_out (Int32.ofNat k) f f3 ∧ (∀ j : Nat, (568 ≤ j ∨ j = 12 ∨ j = 17) → f3 j = f j) ∧
    ((0 ≤ chg1.toInt ∧ chg1.toInt ≤ 2 * (q.1 12).toInt) ∧ ((q.1 12).toInt / 2 ≤ cap1.toInt ∧ cap1.toInt ≤ (q.1 12).toInt) ∧ (0 ≤ lft1.toInt ∧ lft1.toInt ≤ 999) ∧ (0 ≤ thr1.toInt ∧ thr1.toInt ≤ 1000000) ∧ (-2500 ≤ pz1.toInt ∧ pz1.toInt ≤ 2500)) ∧ (-5000 ≤ cun1.toInt ∧ cun1.toInt ≤ 5000) ∧ (-300000 ≤ vol1.toInt ∧ vol1.toInt ≤ 300000) := by
  obtain ⟨U, e, c2, c3, cb⟩ := C
  have e12 := e 12 (by unfold fl_e; omega)
  have e7 := e 7 (by unfold fl_e; omega)
  have e18 := e 18 (by unfold fl_e; omega)
  have e6 := e 6 (by unfold fl_e; omega)
  have e16 := e 16 (by unfold fl_e; omega)
  have e15 := e 15 (by unfold fl_e; omega)
  have e13 := e 13 (by unfold fl_e; omega)
  obtain ⟨m1, m2, m3, m4⟩ := fl_Fm ok hi hq h1
  obtain ⟨⟨hc, ⟨hv, hv4⟩, hn, hn2⟩, ⟨k12, k13, k14, k15⟩, ⟨k6, k7, k16, k18, k8⟩, ⟨o0, o1, o2, o6, o16⟩, hcv2⟩ := ok
  rw [hp, ← s0, ← s1, ← s2, ← s3, ← s7] at g1
  have hT := fl_Tn k18 hi
  have bQ := fl_Qb k12 o0 k6 k16 hi hq
  have bW := fl_Wb k12 o1.1 k7 hT
  have bP := fl_Pb k14 k15.1 k8 hi
  have bL := fl_Lb o0 k16 hi
  have bH := fl_Hb o1 hT
  have hC : 1 ≤ (fl_W (q.1 12) (q.1 7) (f 1) (q.1 18) i).toInt := by rw [← e12, ← e7, ← e18]; omega
  have hQ : 0 ≤ (fl_Q (q.1 12) (f 0) (q.1 6) (q.1 16) i).toInt := by rw [← e12, ← e6, ← e16]; omega
  obtain ⟨⟨x6, x16, x7, x18, x8, x9, x17, x4, x5⟩, y0, y1, y2, y3⟩ := fl_Fc hn2 (by rw [← e15]; exact k15.1) o1.1 o2 hC hQ g1
  have X : ∀ J : Nat, fl_e J → rf_of f2 (Int32.ofNat k) J = fl_F (f 0) (f 1) (f 2) (f 3) (f 7) (q.2.2 2) (Int32.ofNat n) i q.1 J := fun J hJ => by
    rw [m1]
    exact fl_Fx hn2 hcv e hC hQ hJ
  have w4 := (X 4 (by unfold fl_e; omega)).trans x4.symm
  have w5 := (X 5 (by unfold fl_e; omega)).trans x5.symm
  have w6 := (X 6 (by unfold fl_e; omega)).trans x6.symm
  have w7 := (X 7 (by unfold fl_e; omega)).trans x7.symm
  have w8 := (X 8 (by unfold fl_e; omega)).trans x8.symm
  have w9 := (X 9 (by unfold fl_e; omega)).trans x9.symm
  have w16 := (X 16 (by unfold fl_e; omega)).trans x16.symm
  have w17 := (X 17 (by unfold fl_e; omega)).trans x17.symm
  have w18 := (X 18 (by unfold fl_e; omega)).trans x18.symm
  have z4 : cun1 = i := by rw [← w4, m1]; rfl
  have z6 : chg1 = fl_Q (rf_of f (Int32.ofNat k) 12) (f 0) (rf_of f (Int32.ofNat k) 6) (rf_of f (Int32.ofNat k) 16) i := by rw [← w6, m1]; rfl
  have z7 : cap1 = fl_W (rf_of f (Int32.ofNat k) 12) (rf_of f (Int32.ofNat k) 7) (f 1) (rf_of f (Int32.ofNat k) 18) i := by rw [← w7, m1]; rfl
  have z8 : pz1 = fl_P (rf_of f (Int32.ofNat k) 14) (rf_of f (Int32.ofNat k) 15) (rf_of f (Int32.ofNat k) 8) i := by rw [← w8, m1]; rfl
  have z16 : lft1 = fl_L (f 0) (rf_of f (Int32.ofNat k) 16) i := by rw [← w16, m1]; rfl
  have z18 : thr1 = fl_H (f 1) (rf_of f (Int32.ofNat k) 18) i := by rw [← w18, m1]; rfl
  have z5 : vol1 = (fl_V (fun j => f (28 + 19 * v + j)) (Int32.ofNat n) (fl_W (rf_of f (Int32.ofNat k) 12) (rf_of f (Int32.ofNat k) 7) (f 1) (rf_of f (Int32.ofNat k) 18) i) (fl_Q (rf_of f (Int32.ofNat k) 12) (f 0) (rf_of f (Int32.ofNat k) 6) (rf_of f (Int32.ofNat k) 16) i) + ((i * (rf_of f (Int32.ofNat k) 13)) / 1000)) + fl_P (rf_of f (Int32.ofNat k) 14) (rf_of f (Int32.ofNat k) 15) (rf_of f (Int32.ofNat k) 8) i := by rw [← w5, m1]; rfl
  rw [← z7, ← z6, ← z8] at z5
  rw [← z6] at bQ
  rw [← z7] at bW
  rw [← z8] at bP
  rw [← z16] at bL
  rw [← z18] at bH
  have bV := fl_Vb (a := fun j => f (28 + 19 * v + j)) (C := cap1) (q := chg1) hn2 (by omega) (by omega) (by omega) hcv2
  have tk : (1000 : Int32).toInt = 1000 := by decide
  have a1 := Int.mul_le_mul_of_nonneg_right hi.2 (show 0 ≤ (rf_of f (Int32.ofNat k) 13).toInt by omega)
  have a0 := Int.mul_le_mul_of_nonneg_right hi.1 (show 0 ≤ (rf_of f (Int32.ofNat k) 13).toInt by omega)
  have em : (i * rf_of f (Int32.ofNat k) 13).toInt = i.toInt * (rf_of f (Int32.ofNat k) 13).toInt := Jvm.Kit.i32_mul (by omega) (by omega)
  have gd := rf_tdiv (x := i.toInt * (rf_of f (Int32.ofNat k) 13).toInt) (s := 1000) (B := 2500) (by omega) (by omega) (by omega) (by omega)
  have ed : ((i * rf_of f (Int32.ofNat k) 13) / 1000).toInt = (i.toInt * (rf_of f (Int32.ofNat k) 13).toInt).tdiv 1000 := by rw [Jvm.Kit.i32_div (by omega), em, tk]
  generalize (i.toInt * (rf_of f (Int32.ofNat k) 13).toInt).tdiv 1000 = G at gd ed
  generalize (i * rf_of f (Int32.ofNat k) 13) / 1000 = g at z5 ed
  generalize fl_V (fun j => f (28 + 19 * v + j)) (Int32.ofNat n) cap1 chg1 = V at z5 bV
  have ev1 : (V + g).toInt = V.toInt + g.toInt := Jvm.Kit.i32_add (by omega) (by omega)
  have ev : vol1.toInt = V.toInt + g.toInt + pz1.toInt := by rw [z5, Jvm.Kit.i32_add (by omega) (by omega), ev1]
  have ep2 := fl_pmc (by omega) g2
  have ep : pm = pm2 := by rw [ep2, fl_pmm h2, w6, w7]
  have hp0 : 0 ≤ pm2.toInt := by rw [ep2]; exact fl_pmb (by omega) (by omega)
  rw [ep, fl_b44 hp0] at h3
  have eb := fl_cf hp0 g3
  have bb := fl_bib hp0
  generalize hB : (fl_bi pm2).toInt.toNat = B at h3 eb
  have hB9 : B ≤ 9 := by omega
  have r3 : rf_of f3 (Int32.ofNat k) = upd (rf_of f2 (Int32.ofNat k)) (44 + B) (rf_of f2 (Int32.ofNat k) (44 + B) + 1) := by rw [h3, fl_ofu]
  have k3 : ∀ J : Nat, J < 44 → rf_of f3 (Int32.ofNat k) J = rf_of f2 (Int32.ofNat k) J := fun J hJ => by
    rw [r3]
    exact rf_upd_ne (by omega)
  obtain ⟨us0, us1, us4, us5⟩ := U.2.2.2.1
  obtain ⟨n0, n1, n2, n3, n4, n5, n6, n7⟩ := m4
  have b2 : ∀ J : Nat, (J < 4 ∨ (10 ≤ J ∧ J < 16) ∨ 19 ≤ J) → rf_of f2 (Int32.ofNat k) J = rf_of f (Int32.ofNat k) J := fun J hJ => by
    rw [m1]
    exact fl_Fo hJ
  rw [w5] at n2 n3
  refine ⟨fun J hJ => ?_, ⟨(k3 4 (by omega)).trans w4, (k3 5 (by omega)).trans w5, (k3 6 (by omega)).trans w6, (k3 7 (by omega)).trans w7, (k3 8 (by omega)).trans w8, (k3 9 (by omega)).trans w9, (k3 16 (by omega)).trans w16, (k3 17 (by omega)).trans w17, (k3 18 (by omega)).trans w18⟩, fun j hj => ?_, ⟨?_, ?_, ?_, ?_, ?_, ?_, n6⟩, n7, ?_, fun j hj => ?_, ⟨by rw [← e12]; exact bQ, by rw [← e12]; exact bW, bL, bH, bP⟩, by rw [z4]; exact hi, by omega⟩
  · rw [k3 J (by omega)]
    exact b2 J (by omega)
  · rw [r3, eb]
    by_cases w : j = B
    · subst w
      rw [rf_upd_eq, rf_upd_eq, b2 _ (by omega), cb j hj]
    · rw [rf_upd_ne (by omega), rf_upd_ne w, b2 _ (by omega)]
      exact cb j hj
  · rw [n0, y0, us0]
  · rw [n1, y1, us1]
  · rw [n2, y2, c2]
  · rw [n3, y3, c3]
  · rw [n4, y0, us4]
    by_cases w : i ≤ 0
    · rw [if_pos w, if_pos w]
    · rw [if_neg w, if_neg w, fl_s1]
  · rw [n5, y1, us5]
    by_cases w : i ≤ 0
    · rw [if_pos w, if_pos w, fl_s2]
    · rw [if_neg w, if_neg w]
  · rw [h3]
    exact fl_outt m2 (fl_outu (by omega))
  · rw [h3]
    exact (rf_upd_ne (by omega)).trans (m3 j hj)
