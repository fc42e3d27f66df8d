/-! predictions: the channel alone, on both sides -/
theorem fl_si8 {W : fw_W} : fw_si W 8 (W.1 8) = W := by
  have e : (fun i => if i = 8 then W.1 8 else W.1 i) = W.1 := by
    funext i
    by_cases h : i = 8
    · rw [if_pos h, h]
    · rw [if_neg h]
  show ((fun i => if i = 8 then W.1 8 else W.1 i), W.2) = W
  rw [e]
theorem fl_sxx {x : Nat → fw_C} {k : Nat} {c d : fw_C} : fw_sx (fw_sx x k c) k d = fw_sx x k d := by
  funext j
  show (if j = k then d else (if j = k then c else x j)) = (if j = k then d else x j)
  by_cases h : j = k
  · rw [if_pos h, if_pos h]
  · rw [if_neg h, if_neg h, if_neg h]
theorem fl_Zw {f : Nat → Int32} {su : Nat → Int64} {W : fw_W} {x : Nat → fw_C} (Z : fl_Z True f su W x) : fl_Z False f su W x := by
  obtain ⟨s, D, _, ⟨r1, r2, r3, r4, r5⟩, Q⟩ := Z
  exact ⟨s, D, fun h => h.elim, ⟨r1, r2, r3, r4, fun i m hi hm _ => r5 i m hi hm (fun _ => trivial)⟩, Q⟩
theorem fl_zst {tt : Prop} {f : Nat → Int32} {su : Nat → Int64} {W : fw_W} {x : Nat → fw_C} {k : Nat} {p : Int32} {c : fw_C} (Z : fl_Z tt f su W (fw_sx x k c)) (hk : (k : Int) < (f 9).toInt) (ek : Int32.ofNat k = p) : fl_C f su k c ∧ rf_of f p 0 = c.1 0 ∧ ∀ J : Nat, fl_e J → rf_of f p J = c.1 J := by
  obtain ⟨C, _, _⟩ := Z.2.2.2.2 k hk
  rw [show fw_sx x k c k = c from if_pos rfl] at C
  obtain ⟨U, e, _⟩ := id C
  rw [ek] at U e
  exact ⟨C, U.1.1, e⟩
/-- one tick of the channel alone -/
theorem fl_zp {f f1 G : Nat → Int32} {su su1 : Nat → Int64} {W W1 : fw_W} {x : Nat → fw_C} {c c1 : fw_C} {k : Nat} {p e e1 r : Int32} (Z : fl_Z False f su W (fw_sx x k c)) (hk : (k : Int) < (f 9).toInt) (ek : Int32.ofNat k = p) (hq : q_X11_alone e f G su p e1 f1 su1) (ht : t_tick k c W r c1 W1) : fl_Z False f1 su1 W1 (fw_sx x k c1) ∧ e1 = (if r = 0 then e else e + 1) ∧ f1 9 = f 9 := by
  obtain ⟨f2, h2, e3, f3, s3, h3, i1, i2, i3⟩ := hq
  rw [← ek] at h3
  rw [show (8 : Int32).toNatClampNeg = 8 from by decide] at h2
  have Zt : fl_Z False f2 su W (fw_sx x k c) := by
    have z := fl_Zt (v := f 8 + 1) (w := W.1 8) Z (fun h => h.elim)
    rw [fl_si8, h2] at z
    exact z
  have f9 : f2 9 = f 9 := by
    rw [← h2]
    exact rf_upd_ne (by omega)
  have hb : t_tick k (fw_sx x k c k) W r c1 W1 := by
    rw [show fw_sx x k c k = c from if_pos rfl]
    exact ht
  obtain ⟨Z1, m1, n9⟩ := fl_zk Zt (by rw [f9]; exact hk) h3 hb
  rw [fl_sxx] at Z1
  rw [i1, i2, i3]
  exact ⟨Z1, m1, n9.trans f9⟩
/-- the ways of both sides, as functions of the ticks -/
theorem fl_tjc {k : Nat} {P : fw_C → Int32 → fw_C → Prop} : ∀ (n : Nat) {c c1 : fw_C} {W W1 : fw_W}, fw_ch9 k P n c W c1 W1 → ∃ (C : Nat → fw_C) (V : Nat → fw_W), C 0 = c ∧ V 0 = W ∧ C n = c1 ∧ V n = W1 ∧ ∀ i : Nat, i < n → ∃ r : Int32, P (C i) r (C (i + 1)) ∧ t_tick k (C i) (V i) r (C (i + 1)) (V (i + 1))
  | 0, c, c1, W, W1, h => ⟨fun _ => c, fun _ => W, rfl, rfl, h.1.symm, h.2.symm, fun i hi => absurd hi (Nat.not_lt_zero i)⟩
  | n + 1, c, c1, W, W1, h => by
    obtain ⟨c2, W2, r, h1, h2, h3⟩ := h
    obtain ⟨C, V, a1, a2, a3, a4, a5⟩ := fl_tjc n h1
    refine ⟨fun i => if i ≤ n then C i else c1, fun i => if i ≤ n then V i else W1, ?_, ?_, ?_, ?_, fun i hi => ?_⟩
    · show (if 0 ≤ n then C 0 else c1) = c
      rw [if_pos (Nat.zero_le n), a1]
    · show (if 0 ≤ n then V 0 else W1) = W
      rw [if_pos (Nat.zero_le n), a2]
    · show (if n + 1 ≤ n then C (n + 1) else c1) = c1
      rw [if_neg (show ¬ n + 1 ≤ n by omega)]
    · show (if n + 1 ≤ n then V (n + 1) else W1) = W1
      rw [if_neg (show ¬ n + 1 ≤ n by omega)]
    · by_cases z : i = n
      · refine ⟨r, ?_⟩
        rw [z]
        show P (if n ≤ n then C n else c1) r (if n + 1 ≤ n then C (n + 1) else c1) ∧ t_tick k (if n ≤ n then C n else c1) (if n ≤ n then V n else W1) r (if n + 1 ≤ n then C (n + 1) else c1) (if n + 1 ≤ n then V (n + 1) else W1)
        rw [if_pos (Nat.le_refl n), if_neg (show ¬ n + 1 ≤ n by omega), if_pos (Nat.le_refl n), if_neg (show ¬ n + 1 ≤ n by omega), a3, a4]
        exact ⟨h2, h3⟩
      · obtain ⟨r2, b1, b2⟩ := a5 i (by omega)
        refine ⟨r2, ?_⟩
        show P (if i ≤ n then C i else c1) r2 (if i + 1 ≤ n then C (i + 1) else c1) ∧ t_tick k (if i ≤ n then C i else c1) (if i ≤ n then V i else W1) r2 (if i + 1 ≤ n then C (i + 1) else c1) (if i + 1 ≤ n then V (i + 1) else W1)
        rw [if_pos (show i ≤ n by omega), if_pos (show i + 1 ≤ n by omega), if_pos (show i ≤ n by omega), if_pos (show i + 1 ≤ n by omega)]
        exact ⟨b1, b2⟩
theorem fl_tjq {G : Nat → Int32} {p : Int32} {Q : Int32 → (Nat → Int32) → Prop} : ∀ (n : Nat) {e e1 : Int32} {f f1 : Nat → Int32} {s s1 : Nat → Int64}, q_ch G p Q n e f s e1 f1 s1 → ∃ (E : Nat → Int32) (F : Nat → Nat → Int32) (S : Nat → Nat → Int64), E 0 = e ∧ F 0 = f ∧ S 0 = s ∧ E n = e1 ∧ F n = f1 ∧ S n = s1 ∧ ∀ i : Nat, i < n → Q (E i) (F i) ∧ q_X11_alone (E i) (F i) G (S i) p (E (i + 1)) (F (i + 1)) (S (i + 1))
  | 0, e, e1, f, f1, s, s1, h => ⟨fun _ => e, fun _ => f, fun _ => s, rfl, rfl, rfl, h.1.symm, h.2.1.symm, h.2.2.symm, fun i hi => absurd hi (Nat.not_lt_zero i)⟩
  | n + 1, e, e1, f, f1, s, s1, h => by
    obtain ⟨e2, f2, s2, h1, h2, h3⟩ := h
    obtain ⟨E, F, S, a1, a2, a3, b1, b2, b3, a5⟩ := fl_tjq n h1
    have nn : ¬ n + 1 ≤ n := by omega
    refine ⟨fun i => if i ≤ n then E i else e1, fun i => if i ≤ n then F i else f1, fun i => if i ≤ n then S i else s1, ?_, ?_, ?_, ?_, ?_, ?_, fun i hi => ?_⟩
    · show (if 0 ≤ n then E 0 else e1) = e
      rw [if_pos (Nat.zero_le n), a1]
    · show (if 0 ≤ n then F 0 else f1) = f
      rw [if_pos (Nat.zero_le n), a2]
    · show (if 0 ≤ n then S 0 else s1) = s
      rw [if_pos (Nat.zero_le n), a3]
    · show (if n + 1 ≤ n then E (n + 1) else e1) = e1
      rw [if_neg nn]
    · show (if n + 1 ≤ n then F (n + 1) else f1) = f1
      rw [if_neg nn]
    · show (if n + 1 ≤ n then S (n + 1) else s1) = s1
      rw [if_neg nn]
    · by_cases z : i = n
      · rw [z]
        show Q (if n ≤ n then E n else e1) (if n ≤ n then F n else f1) ∧ q_X11_alone (if n ≤ n then E n else e1) (if n ≤ n then F n else f1) G (if n ≤ n then S n else s1) p (if n + 1 ≤ n then E (n + 1) else e1) (if n + 1 ≤ n then F (n + 1) else f1) (if n + 1 ≤ n then S (n + 1) else s1)
        rw [if_pos (Nat.le_refl n), if_pos (Nat.le_refl n), if_pos (Nat.le_refl n), if_neg nn, if_neg nn, if_neg nn, b1, b2, b3]
        exact ⟨h2, h3⟩
      · have l1 : i ≤ n := by omega
        have l2 : i + 1 ≤ n := by omega
        show Q (if i ≤ n then E i else e1) (if i ≤ n then F i else f1) ∧ q_X11_alone (if i ≤ n then E i else e1) (if i ≤ n then F i else f1) G (if i ≤ n then S i else s1) p (if i + 1 ≤ n then E (i + 1) else e1) (if i + 1 ≤ n then F (i + 1) else f1) (if i + 1 ≤ n then S (i + 1) else s1)
        rw [if_pos l1, if_pos l1, if_pos l1, if_pos l2, if_pos l2, if_pos l2]
        exact a5 i (by omega)
theorem fl_tj {G : Nat → Int32} {k : Nat} {p : Int32} {C : Nat → fw_C} {V : Nat → fw_W} {E : Nat → Int32} {F : Nat → Nat → Int32} {S : Nat → Nat → Int64} {x : Nat → fw_C} (ek : Int32.ofNat k = p) (hk : (k : Int) < (F 0 9).toInt) (Z : fl_Z False (F 0) (S 0) (V 0) (fw_sx x k (C 0))) : ∀ n : Nat, (∀ i : Nat, i < n → ∃ r : Int32, t_tick k (C i) (V i) r (C (i + 1)) (V (i + 1))) → (∀ i : Nat, i < n → q_X11_alone (E i) (F i) G (S i) p (E (i + 1)) (F (i + 1)) (S (i + 1))) → fl_Z False (F n) (S n) (V n) (fw_sx x k (C n)) ∧ F n 9 = F 0 9
  | 0, _, _ => ⟨Z, rfl⟩
  | n + 1, hc, hq => by
    obtain ⟨Z1, n9⟩ := fl_tj ek hk Z n (fun i hi => hc i (by omega)) (fun i hi => hq i (by omega))
    obtain ⟨r, ht⟩ := hc n (by omega)
    obtain ⟨Z2, _, m9⟩ := fl_zp Z1 (by rw [n9]; exact hk) ek (hq n (by omega)) ht
    exact ⟨Z2, m9.trans n9⟩
/-- until a state is reached, or none: both sides say the same -/
theorem fl_un2 {f f1 G : Nat → Int32} {su su1 : Nat → Int64} {W : fw_W} {x : Nat → fw_C} {c c1 : fw_C} {k : Nat} {p p2 r re m1 : Int32} (Z : fl_Z False f su W (fw_sx x k c)) (hk : (k : Int) < (f 9).toInt) (ek : Int32.ofNat k = p) (h1 : ¬ p2 = 1) (hs : c.1 0 = 1) (t : t_ticksUntil k p2 W c r c1) (q : q_X11_until 0 f G su p p2 re m1 f1 su1) : r = re ∧ (¬ r = -1 → ∃ V : fw_W, fl_Z False f1 su1 V (fw_sx x k c1) ∧ f1 9 = f 9) := by
  obtain ⟨y1, W2, c3, ⟨⟨b1, b2⟩, hch⟩, t⟩ := t
  obtain ⟨y, ee, f3, s3, ⟨⟨d1, d2⟩, hqc⟩, q⟩ := q
  obtain ⟨C, V, c0, v0, cn, vn, hc⟩ := fl_tjc _ hch
  obtain ⟨E, F, S, e0, f0, s0, en, fn, sn, hq⟩ := fl_tjq _ hqc
  obtain ⟨N, hN⟩ : ∃ N : Nat, y1.toInt = N + 1 := ⟨y1.toInt.toNat - 1, by omega⟩
  obtain ⟨M, hM⟩ : ∃ M : Nat, y.toInt = M := ⟨y.toInt.toNat, by omega⟩
  rw [show y1.toInt.toNat - 1 = N from by omega] at cn vn hc
  rw [show y.toInt.toNat = M from by omega] at en fn sn hq
  have t30 : (30000 : Int32).toInt = 30000 := by decide
  have Z0 : fl_Z False (F 0) (S 0) (V 0) (fw_sx x k (C 0)) := by
    rw [f0, s0, v0, c0]
    exact Z
  have hk0 : (k : Int) < (F 0 9).toInt := by
    rw [f0]
    exact hk
  have Zi : ∀ i : Nat, i ≤ N → i ≤ M → fl_Z False (F i) (S i) (V i) (fw_sx x k (C i)) ∧ F i 9 = F 0 9 := fun i hi hj => fl_tj ek hk0 Z0 i (fun j hj2 => by
    obtain ⟨r, _, h⟩ := hc j (by omega)
    exact ⟨r, h⟩) (fun j hj2 => (hq j (by omega)).2)
  have st : ∀ i : Nat, i ≤ N → i ≤ M → rf_of (F i) p 0 = (C i).1 0 := fun i hi hj => (fl_zst (Zi i hi hj).1 (by rw [(Zi i hi hj).2]; exact hk0) ek).2.1
  have cs : ∀ i : Nat, i < N → (C i).1 0 = 1 ∧ ¬ (C (i + 1)).1 0 = p2 := fun i hi => by
    obtain ⟨r, h, _⟩ := hc i hi
    exact h
  have qs : ∀ i : Nat, i < M → rf_of (F i) p 0 = 1 := fun i hi => (hq i hi).1
  have c00 : (C 0).1 0 = 1 := by rw [c0]; exact hs
  rw [← fn] at q
  have r30 : rf_of (F M) p 0 = 1 → 30000 ≤ M := fun h => by
    rcases q with ⟨q1, _⟩ | ⟨_, q2, _⟩
    · exact absurd h q1
    · rw [Int32.le_iff_toInt_le, t30, hM] at q2
      omega
  rcases t with ⟨h30, hr, hc1⟩ | ⟨h30, ⟨hs3, hr, hc1⟩ | ⟨hs3, r6, c51, W53, htk, hp2, hr, hc1⟩⟩
  · rw [Int32.lt_iff_toInt_lt, t30, hN] at h30
    have hN3 : N = 30000 := by omega
    have hMN : M ≤ N := by omega
    have ls := st M hMN (Nat.le_refl M)
    refine ⟨?_, fun z => absurd hr z⟩
    have np : ¬ rf_of (F M) p 0 = p2 := fun z => by
      rw [ls] at z
      by_cases m0 : M = 0
      · rw [m0, c00] at z
        exact h1 z.symm
      · obtain ⟨m, hm⟩ : ∃ m : Nat, M = m + 1 := ⟨M - 1, by omega⟩
        rw [hm] at z
        exact (cs m (by omega)).2 z
    rcases q with ⟨_, ⟨_, q3, _⟩ | ⟨q2, _⟩⟩ | ⟨_, _, ⟨_, q4, _⟩ | ⟨q3, _⟩⟩
    · exact hr.trans q3.symm
    · exact absurd q2 np
    · exact hr.trans q4.symm
    · exact absurd q3 np
  · rw [Int32.lt_iff_toInt_lt, t30, hN] at h30
    rw [← cn] at hs3
    have hMN : M = N := by
      by_cases z1 : M < N
      · have h := r30 ((st M (by omega) (Nat.le_refl M)).trans (cs M z1).1)
        omega
      · by_cases z2 : N < M
        · exact absurd ((st N (Nat.le_refl N) (by omega)).symm.trans (qs N z2)) hs3
        · omega
    have ls := st M (by omega) (Nat.le_refl M)
    refine ⟨?_, fun z => absurd hr z⟩
    have np : ¬ rf_of (F M) p 0 = p2 := fun z => by
      rw [ls] at z
      by_cases m0 : M = 0
      · rw [m0, c00] at z
        exact h1 z.symm
      · obtain ⟨m, hm⟩ : ∃ m : Nat, M = m + 1 := ⟨M - 1, by omega⟩
        rw [hm] at z
        exact (cs m (by omega)).2 z
    rcases q with ⟨_, ⟨_, q3, _⟩ | ⟨q2, _⟩⟩ | ⟨_, _, ⟨_, q4, _⟩ | ⟨q3, _⟩⟩
    · exact hr.trans q3.symm
    · exact absurd q2 np
    · exact hr.trans q4.symm
    · exact absurd q3 np
  · rw [Int32.lt_iff_toInt_lt, t30, hN] at h30
    rw [← cn] at hs3 htk
    rw [← vn] at htk
    have hNM : N < M := by
      by_cases z1 : M < N
      · have h := r30 ((st M (by omega) (Nat.le_refl M)).trans (cs M z1).1)
        omega
      · by_cases z2 : M = N
        · have h := r30 ((st M (by omega) (Nat.le_refl M)).trans (by rw [z2]; exact hs3))
          omega
        · omega
    obtain ⟨ZN, n9⟩ := Zi N (Nat.le_refl N) (by omega)
    obtain ⟨Z1, _, m9⟩ := fl_zp ZN (by rw [n9]; exact hk0) ek (hq N hNM).2 htk
    have s1 : rf_of (F (N + 1)) p 0 = p2 := (fl_zst Z1 (by rw [m9, n9]; exact hk0) ek).2.1.trans hp2
    have hM1 : M = N + 1 := by
      by_cases z : N + 1 < M
      · exact absurd (s1.symm.trans (qs (N + 1) z)) h1
      · omega
    rw [hM1] at q fn sn
    rcases q with ⟨_, ⟨q2, _⟩ | ⟨_, q3, _, q5, q6⟩⟩ | ⟨q1, _⟩
    · exact absurd s1 q2
    · refine ⟨?_, fun _ => ⟨W53, ?_, ?_⟩⟩
      · rw [hr, q3]
        exact Int32.toInt_inj.mp (by rw [hN, hM, hM1]; omega)
      · rw [q5, q6, hc1, ← sn]
        exact Z1
      · rw [q5, m9, n9, f0]
    · exact absurd (s1.symm.trans q1) h1
