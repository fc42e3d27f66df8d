theorem fl_tra {las tmp vol low hig hot r : Int32} {o : Bool} (h : a_X1_tripReason las tmp vol low hig hot (if o = true then 1 else 0) r) : r = fl_tr las tmp vol low hig hot o := by
  unfold fl_tr
  rcases h with ⟨a, ⟨b, ⟨d, ⟨e, h1⟩ | ⟨e, ⟨g, h1⟩ | ⟨g, h1⟩⟩⟩ | ⟨d, h1⟩⟩ | ⟨b, h1⟩⟩ | ⟨a, h1⟩
  · rw [if_pos a, if_pos b, if_pos d, if_pos e]; exact h1
  · cases o
    · exact absurd rfl g
    · rw [if_pos a, if_pos b, if_pos d, if_neg e, if_pos rfl]; exact h1
  · cases o
    · rw [if_pos a, if_pos b, if_pos d, if_neg e, if_neg (by decide)]; exact h1
    · exact absurd g (by decide)
  · rw [if_pos a, if_pos b, if_neg d]; exact h1
  · rw [if_pos a, if_neg b]; exact h1
  · rw [if_neg a]; exact h1
theorem fl_trm {f : Nat → Int32} {c r : Int32} (h : q_X11_reasonNow f c r) : r = fl_tr (rf_of f c 3) (rf_of f c 9) (rf_of f c 5) (f 4) (f 5) (f 6) (fl_ov (rf_st3 f c 0) (rf_st3 f c 1) (rf_st3 f c 2) (rf_of f c 3) (rf_of f c 6) (rf_of f c 4) (rf_of f c 5)) := by
  unfold fl_tr
  rcases h with ⟨a, ⟨b, ⟨d, ⟨e, h1⟩ | ⟨e, x, hx, ⟨g, h1⟩ | ⟨g, h1⟩⟩⟩ | ⟨d, h1⟩⟩ | ⟨b, h1⟩⟩ | ⟨a, h1⟩
  · rw [if_pos a, if_pos b, if_pos d, if_pos e]; exact h1
  · have k := fl_ovm hx
    rw [if_pos a, if_pos b, if_pos d, if_neg e]
    by_cases o : fl_ov (rf_st3 f c 0) (rf_st3 f c 1) (rf_st3 f c 2) (rf_of f c 3) (rf_of f c 6) (rf_of f c 4) (rf_of f c 5) = true
    · rw [if_pos o]; exact h1
    · rw [if_neg o] at k; exact absurd k g
  · have k := fl_ovm hx
    rw [if_pos a, if_pos b, if_pos d, if_neg e]
    by_cases o : fl_ov (rf_st3 f c 0) (rf_st3 f c 1) (rf_st3 f c 2) (rf_of f c 3) (rf_of f c 6) (rf_of f c 4) (rf_of f c 5) = true
    · rw [if_pos o] at k; rw [k] at g; exact absurd g (by decide)
    · rw [if_neg o]; exact h1
  · rw [if_pos a, if_pos b, if_neg d]; exact h1
  · rw [if_pos a, if_neg b]; exact h1
  · rw [if_neg a]; exact h1
/-! the records: a row that is shifted, and a ring -/
def fl_v5 (a b d e g : Int32) (m : Nat) : Int32 := if m = 0 then a else if m = 1 then b else if m = 2 then d else if m = 3 then e else g
def fl_rm1 (f f1 : Nat → Int32) (V : Nat → Int32) : Prop := (∀ j : Nat, j < 568 → j ≠ 12 → f1 j = f j) ∧
  ((¬ f 12 = 30 ∧ f1 12 = f 12 + 1 ∧ ∀ j : Nat, 568 ≤ j → j < 718 → f1 j = if 568 + 5 * (f 12).toInt.toNat ≤ j ∧ j < 573 + 5 * (f 12).toInt.toNat then V (j - (568 + 5 * (f 12).toInt.toNat)) else f j) ∨
   (f 12 = 30 ∧ f1 12 = 30 ∧ ∀ j : Nat, 568 ≤ j → j < 718 → f1 j = if 713 ≤ j then V (j - 713) else f (j + 5)))
theorem fl_rix {s k : Int32} {K : Nat} (hs : 0 ≤ s.toInt ∧ s.toInt ≤ 29) (hk : k.toInt = K) (hK : K ≤ 4) : ((568 + (5 * s)) + k).toNatClampNeg = 568 + 5 * s.toInt.toNat + K := by
  have t5 : (5 : Int32).toInt = 5 := by decide
  have t8 : (568 : Int32).toInt = 568 := by decide
  have e1 : (5 * s).toInt = 5 * s.toInt := by rw [Jvm.Kit.i32_mul (by rw [t5]; omega) (by rw [t5]; omega), t5]
  have e2 : (568 + (5 * s)).toInt = 568 + 5 * s.toInt := by rw [Jvm.Kit.i32_add (by omega) (by omega), e1, t8]
  have e3 : ((568 + (5 * s)) + k).toInt = 568 + 5 * s.toInt + K := by rw [Jvm.Kit.i32_add (by omega) (by omega), e2, hk]
  show ((568 + (5 * s)) + k).toInt.toNat = _
  omega
theorem fl_rix0 {s : Int32} (hs : 0 ≤ s.toInt ∧ s.toInt ≤ 29) : (568 + (5 * s)).toNatClampNeg = 568 + 5 * s.toInt.toNat := by
  have := fl_rix hs (k := 0) (K := 0) (by decide) (by omega)
  rw [Int32.add_zero] at this
  exact this
/-- five numbers that are written, and the count -/
theorem fl_r5 {f f1 g a1 a2 a3 a4 a5 a6 : Nat → Int32} {s x0 x1 x2 x3 x4 s1 : Int32} (hs : 0 ≤ s.toInt ∧ s.toInt ≤ 29) (h0 : upd g (568 + (5 * s)).toNatClampNeg x0 = a1) (h1 : upd a1 ((568 + (5 * s)) + 1).toNatClampNeg x1 = a2) (h2 : upd a2 ((568 + (5 * s)) + 2).toNatClampNeg x2 = a3) (h3 : upd a3 ((568 + (5 * s)) + 3).toNatClampNeg x3 = a4) (h4 : upd a4 ((568 + (5 * s)) + 4).toNatClampNeg x4 = a5) (h5 : upd a5 (12 : Int32).toNatClampNeg s1 = a6) : ∀ j : Nat, a6 j = if j = 12 then s1 else if 568 + 5 * s.toInt.toNat ≤ j ∧ j < 573 + 5 * s.toInt.toNat then fl_v5 x0 x1 x2 x3 x4 (j - (568 + 5 * s.toInt.toNat)) else g j := by
  rw [fl_rix0 hs] at h0
  rw [fl_rix hs (K := 1) (by decide) (by omega)] at h1
  rw [fl_rix hs (K := 2) (by decide) (by omega)] at h2
  rw [fl_rix hs (K := 3) (by decide) (by omega)] at h3
  rw [fl_rix hs (K := 4) (by decide) (by omega)] at h4
  rw [show (12 : Int32).toNatClampNeg = 12 from by decide] at h5
  intro j
  rw [← h5, ← h4, ← h3, ← h2, ← h1, ← h0]
  unfold upd fl_v5
  by_cases q : j = 12
  · rw [if_pos q, if_pos q]
  · rw [if_neg q, if_neg q]
    by_cases w : 568 + 5 * s.toInt.toNat ≤ j ∧ j < 573 + 5 * s.toInt.toNat
    · rw [if_pos w]
      obtain ⟨m, hm⟩ : ∃ m : Nat, j = 568 + 5 * s.toInt.toNat + m := ⟨j - (568 + 5 * s.toInt.toNat), by omega⟩
      have m5 : m < 5 := by omega
      rw [hm, show 568 + 5 * s.toInt.toNat + m - (568 + 5 * s.toInt.toNat) = m from by omega]
      rcases (by omega : m = 0 ∨ m = 1 ∨ m = 2 ∨ m = 3 ∨ m = 4) with e | e | e | e | e
      · subst e
        rw [if_neg (by omega), if_neg (by omega), if_neg (by omega), if_neg (by omega), if_pos (by omega), if_pos rfl]
      · subst e
        rw [if_neg (by omega), if_neg (by omega), if_neg (by omega), if_pos rfl, if_neg (by omega), if_pos rfl]
      · subst e
        rw [if_neg (by omega), if_neg (by omega), if_pos rfl, if_neg (by omega), if_neg (by omega), if_pos rfl]
      · subst e
        rw [if_neg (by omega), if_pos rfl, if_neg (by omega), if_neg (by omega), if_neg (by omega), if_pos rfl]
      · subst e
        rw [if_pos rfl, if_neg (by omega), if_neg (by omega), if_neg (by omega), if_neg (by omega)]
    · rw [if_neg w, if_neg (by omega), if_neg (by omega), if_neg (by omega), if_neg (by omega), if_neg (by omega)]
theorem fl_rcm {f f1 : Nat → Int32} {su : Nat → Int64} {c b : Int32} (hc : 0 ≤ c.toInt ∧ c.toInt < 6) (hs : 0 ≤ (f 12).toInt ∧ (f 12).toInt ≤ 30) (h : q_X11_records f su c b f1) : fl_rm1 f f1 (fl_v5 c (su (7 * c.toInt.toNat + 4)).toInt32 (su (7 * c.toInt.toNat + 5)).toInt32 (f 8) (if b = 0 then 0 else 1)) := by
  have t12 : (12 : Int32).toNatClampNeg = 12 := by decide
  rcases h with ⟨n, hb, a1, h0, r, hr, a2, h1, r2, hr2, a3, h2, a4, h3, h4⟩ | ⟨n, y, g, ⟨hy, h12, hg⟩, hy2, g2, hg2, hb, a1, h0, r, hr, a2, h1, r2, hr2, a3, h2, a4, h3, h4⟩
  · have e1 := fl_sum hc (K := 4) (by decide) (by omega) hr
    have e2 := fl_sum hc (K := 5) (by decide) (by omega) hr2
    have e8 : a3 8 = f 8 := by
      rw [← h2, ← h1, ← h0, rf_upd_ne (by rw [fl_rix hb (K := 2) (by decide) (by omega)]; omega), rf_upd_ne (by rw [fl_rix hb (K := 1) (by decide) (by omega)]; omega), rf_upd_ne (by rw [fl_rix0 hb]; omega)]
    rw [e8] at h3
    subst e1 e2
    have fin : ∃ a5, upd a4 ((568 + (5 * (f 12))) + 4).toNatClampNeg (if b = 0 then 0 else 1) = a5 ∧ upd a5 (12 : Int32).toNatClampNeg (a5 12 + 1) = f1 := by
      rcases h4 with ⟨q, a5, h5, a6, h6, h7⟩ | ⟨q, a5, h5, a6, h6, h7⟩
      · exact ⟨a5, by rw [if_pos q]; exact h5, by rw [h7]; exact h6⟩
      · exact ⟨a5, by rw [if_neg q]; exact h5, by rw [h7]; exact h6⟩
    obtain ⟨a5, h5, h6⟩ := fin
    have e12 : a5 12 = f 12 := by
      rw [← h5, ← h3, ← h2, ← h1, ← h0, rf_upd_ne (by rw [fl_rix hb (K := 4) (by decide) (by omega)]; omega), rf_upd_ne (by rw [fl_rix hb (K := 3) (by decide) (by omega)]; omega), rf_upd_ne (by rw [fl_rix hb (K := 2) (by decide) (by omega)]; omega), rf_upd_ne (by rw [fl_rix hb (K := 1) (by decide) (by omega)]; omega), rf_upd_ne (by rw [fl_rix0 hb]; omega)]
    rw [e12] at h6
    have k := fl_r5 (f := f) (f1 := f1) hb h0 h1 h2 h3 h5 h6
    refine ⟨fun j hj h => ?_, Or.inl ⟨n, ?_, fun j h1 h2 => ?_⟩⟩
    · rw [k, if_neg h, if_neg (by omega)]
    · rw [k, if_pos rfl]
    · rw [k, if_neg (by omega)]
  · have t713 : (713 : Int32).toInt = 713 := by decide
    rw [Int32.le_iff_toInt_le, t713] at hy2
    have y713 : y.toInt = 713 := by omega
    have e12g : g2 12 = 29 := by
      rw [← hg2, t12, rf_upd_eq, h12]
      decide
    rw [e12g] at hb h0 h1 h2 h3 h4
    have e1 := fl_sum hc (K := 4) (by decide) (by omega) hr
    have e2 := fl_sum hc (K := 5) (by decide) (by omega) hr2
    have e8 : a3 8 = f 8 := by
      rw [← h2, ← h1, ← h0, rf_upd_ne (by rw [fl_rix hb (K := 2) (by decide) (by omega)]; omega), rf_upd_ne (by rw [fl_rix hb (K := 1) (by decide) (by omega)]; omega), rf_upd_ne (by rw [fl_rix0 hb]; omega), ← hg2, t12, rf_upd_ne (by omega), hg, if_neg (by omega)]
    rw [e8] at h3
    subst e1 e2
    have fin : ∃ a5, upd a4 ((568 + (5 * (29 : Int32))) + 4).toNatClampNeg (if b = 0 then 0 else 1) = a5 ∧ upd a5 (12 : Int32).toNatClampNeg (a5 12 + 1) = f1 := by
      rcases h4 with ⟨q, a5, h5, a6, h6, h7⟩ | ⟨q, a5, h5, a6, h6, h7⟩
      · exact ⟨a5, by rw [if_pos q]; exact h5, by rw [h7]; exact h6⟩
      · exact ⟨a5, by rw [if_neg q]; exact h5, by rw [h7]; exact h6⟩
    obtain ⟨a5, h5, h6⟩ := fin
    have e12 : a5 12 = 29 := by
      rw [← h5, ← h3, ← h2, ← h1, ← h0, rf_upd_ne (by rw [fl_rix hb (K := 4) (by decide) (by omega)]; omega), rf_upd_ne (by rw [fl_rix hb (K := 3) (by decide) (by omega)]; omega), rf_upd_ne (by rw [fl_rix hb (K := 2) (by decide) (by omega)]; omega), rf_upd_ne (by rw [fl_rix hb (K := 1) (by decide) (by omega)]; omega), rf_upd_ne (by rw [fl_rix0 hb]; omega), e12g]
    rw [e12, show (29 : Int32) + 1 = 30 from by decide] at h6
    have k := fl_r5 (f := f) (f1 := f1) hb h0 h1 h2 h3 h5 h6
    rw [show (29 : Int32).toInt.toNat = 29 from by decide] at k
    have gg : ∀ j : Nat, j ≠ 12 → g2 j = g j := fun j hj => by rw [← hg2, t12, rf_upd_ne hj]
    refine ⟨fun j hj h => ?_, Or.inr ⟨n, ?_, fun j h1 h2 => ?_⟩⟩
    · rw [k, if_neg h, if_neg (by omega), gg j h, hg, if_neg (by omega)]
    · rw [k, if_pos rfl]
    · rw [k, if_neg (by omega)]
      by_cases q : 713 ≤ j
      · rw [if_pos (by omega), if_pos q]
      · rw [if_neg (by omega), if_neg q, gg j (by omega), hg, if_pos (by omega)]
