theorem fl_bcd : ∀ m : Nat, m < 64 → ∀ n : Nat, n < 7 → a_J6_bitCount_0f7a4 (fl_cm m n) (fl_cn m n) := by
  unfold a_J6_bitCount_0f7a4
  decide +kernel
theorem cp_start {f f1 G : Nat → Int32} {su su1 : Nat → Int64} {p p2 r th re : Int32} {o o1 : Nat → Int64} {W V : fw_W} {x y : Nat → fw_C} (Z : fl_Z True f su W x) (hG : f 9 = G 9 ∧ f 10 = G 10) (c : t_L_start p p2 o W x r V y o1) (m : q_X11_start f G su p p2 re th f1 su1) : cp_R r th re o1 := by
  obtain ⟨Z1, s1, s2⟩ := zl_start Z hG c m
  by_cases q : r = 0
  · obtain ⟨t0, v, o9, h⟩ := s1 q
    refine Or.inr ⟨q, by rw [t0, q], ?_⟩
    rw [o9]
    rcases h with ⟨h1, h2⟩ | ⟨z, k, hz, hb, hk, hk2, hr⟩
    · rw [h1, h2]
    · obtain ⟨y1, y2, ⟨⟨a1, a2⟩, a3⟩, a4, a5⟩ := hz
      have w9 : V.1 9 = f1 9 := Z1.1.1.2.2.1.symm
      rw [w9] at a2 a4
      have b0 := Z1.1.2.1
      unfold sd_bds at b0
      obtain ⟨mm, m1, m2⟩ := fl_msk (fun i => (y i).1 0 = 1) 6
      have hm := fl_bcd mm m1 (f1 9).toInt.toNat (by omega)
      rw [a5, a3, fl_lp rfl a2 a4, fl_cme m2 _ (by omega)] at hb
      rw [hr, fl_lp rfl hk.2 hk2, fl_cne Z1 m2 _ (by omega) (by omega)]
      exact congrArg Int32.toInt64 (Eq.trans hb (Eq.symm hm))
  · exact Or.inl ⟨q, s2 q⟩
