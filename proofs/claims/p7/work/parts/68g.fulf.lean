/-- many ticks -/
theorem fl_ta {tt : Prop} {G : Nat → Int32} : ∀ (n : Nat) {f f1 : Nat → Int32} {su t : Nat → Int64} {men men1 e e1 : Int32} {W W1 : fw_W} {x x1 : Nat → fw_C}, f 9 = G 9 → fl_Z tt f su W x → men = e → q_ta G n men f su men1 f1 t → fw_as n x W e x1 W1 e1 → fl_Z tt f1 t W1 x1 ∧ men1 = e1 ∧ f1 9 = f 9
  | 0, f, f1, su, t, men, men1, e, e1, W, W1, x, x1, hG, Z, hm, h, g => by
    obtain ⟨h1, h2, h3⟩ := h
    obtain ⟨g1, g2, g3⟩ := g
    rw [h1, h2, h3, g1, g2, g3]
    exact ⟨Z, hm, rfl⟩
  | n + 1, f, f1, su, t, men, men1, e, e1, W, W1, x, x1, hG, Z, hm, h, g => by
    obtain ⟨m2, f2, s2, h1, h2⟩ := h
    obtain ⟨x2, W2, e2, g1, g2⟩ := g
    obtain ⟨Z2, q2, q3⟩ := fl_ta n hG Z hm h1 g1
    obtain ⟨_, _, y, m3, f3, s3, ⟨⟨y0, y1⟩, hg⟩, y2, k1, k2, k3⟩ := h2
    have e8n : (8 : Int32).toNatClampNeg = 8 := by decide
    rw [e8n] at hg
    have Z3 : fl_Z tt (upd f2 8 (f2 8 + 1)) s2 (fw_si W2 8 (W2.1 8 + 1)) x2 := fl_Zt Z2 (fun z => by rw [Z2.2.2.1 z])
    have e9 : W2.1 9 = f2 9 := Z2.1.1.2.2.1.symm
    have n9 : (upd f2 8 (f2 8 + 1)) 9 = f2 9 := rf_upd_ne (by omega)
    have hle : (y.toInt.toNat : Int) ≤ ((upd f2 8 (f2 8 + 1)) 9).toInt := by rw [n9, q3, hG]; omega
    rw [e9] at g2
    rw [← hG, ← q3] at y1
    obtain ⟨x5, W5, e5, g5⟩ := fl_cp ((f2 9).toInt.toNat - y.toInt.toNat) (n := y.toInt.toNat) (by rw [show y.toInt.toNat + ((f2 9).toInt.toNat - y.toInt.toNat) = (f2 9).toInt.toNat from by omega]; exact g2)
    have f39 : f3 9 = f2 9 := ((fl_gs _ hle Z3 q2 hg g5).2.2).trans n9
    have ey : y = f2 9 := by
      rw [f39, Int32.le_iff_toInt_le] at y2
      exact Int32.toInt_inj.mp (by omega)
    rw [ey] at hg
    obtain ⟨Z4, r1, r2⟩ := fl_gs _ (by rw [n9]; have := Z2.1.2.1.1; omega) Z3 q2 hg g2
    rw [k1, k2, k3]
    exact ⟨Z4, r1, (r2.trans n9).trans q3⟩
