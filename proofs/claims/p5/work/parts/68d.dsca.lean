theorem sd_Wsi {W V : fw_W} {j : Nat} {v : Int32} (h : sd_W W V) (hj : j = 8 ∨ j = 12 ∨ 17 ≤ j) : sd_W W (fw_si V j v) :=
  ⟨fun i hi => (if_neg (by omega)).trans (h.1 i hi), h.2⟩
theorem sd_Wwr {W V : fw_W} {j : Nat} {g : Nat → Int32} (h : sd_W W V) (hj : 6 ≤ j) : sd_W W (fw_wr V j g) :=
  ⟨h.1, fun i hi => by show (if 0 = j then g else V.2.1 0) i = _; rw [if_neg (by omega)]; exact h.2.1 i hi, fun i hi => by show (if 1 = j then g else V.2.1 1) i = _; rw [if_neg (by omega)]; exact h.2.2.1 i hi, fun i hi => by show (if 2 = j then g else V.2.1 2) i = _; rw [if_neg (by omega)]; exact h.2.2.2.1 i hi, fun t t1 t2 i hi => by show (if t = j then g else V.2.1 t) i = _; rw [if_neg (by omega)]; exact h.2.2.2.2.1 t t1 t2 i hi, h.2.2.2.2.2⟩
theorem sd_Csi {c d : fw_C} {j : Nat} {v : Int32} (h : sd_C c d) (hj : j < 11 ∨ 15 < j) : sd_C c (fw_si d j v) :=
  ⟨fun i i1 i2 => (if_neg (by omega)).trans (h.1 i i1 i2), h.2⟩
theorem sd_Csl {c d : fw_C} {j : Nat} {v : Int64} (h : sd_C c d) : sd_C c (fw_sl d j v) := ⟨h.1, h.2⟩
theorem sd_Csr {c d : fw_C} {j : Nat} {g : Nat → Int32} (h : sd_C c d) (hj : j ≠ 2) : sd_C c (fw_sr d j g) :=
  ⟨h.1, fun i hi => by show (if 2 = j then g else d.2.2 2) i = _; rw [if_neg (fun q => hj q.symm)]; exact h.2 i hi⟩
theorem d_pause {qa : fw_C} {r : Int32} {qa1 : fw_C} (h : t_pause qa r qa1) : sd_C qa qa1 := by
  unfold t_pause at h
  rcases h with ho1 | ho2
  · obtain ⟨ha3, hb4⟩ := ho1
    obtain ⟨c_6, hx5⟩ := hb4
    obtain ⟨ha6, hb7⟩ := hx5
    exact (by rw [hb7.2]; exact (by rw [ha6]; exact (sd_Csi sd_Cr (by decide))))
  · obtain ⟨ha8, hb9⟩ := ho2
    exact (by rw [hb9.2]; exact sd_Cr)
theorem d_resume {qa : fw_C} {r : Int32} {qa1 : fw_C} (h : t_resume qa r qa1) : sd_C qa qa1 := by
  unfold t_resume at h
  rcases h with ho1 | ho2
  · obtain ⟨ha3, hb4⟩ := ho1
    obtain ⟨c_6, hx5⟩ := hb4
    obtain ⟨ha6, hb7⟩ := hx5
    exact (by rw [hb7.2]; exact (by rw [ha6]; exact (sd_Csi sd_Cr (by decide))))
  · obtain ⟨ha8, hb9⟩ := ho2
    exact (by rw [hb9.2]; exact sd_Cr)
theorem d_stop {qa : fw_C} {r : Int32} {qa1 : fw_C} (h : t_stop qa r qa1) : sd_C qa qa1 := by
  unfold t_stop at h
  obtain ⟨c_5, hx1⟩ := h
  obtain ⟨ha2, hb3⟩ := hx1
  exact (by rw [hb3.2]; exact (by rw [ha2]; exact (sd_Csi sd_Cr (by decide))))
theorem d_dequeue {qa : fw_C} {r : Int32} {qa1 : fw_C} (h : t_dequeue qa r qa1) : sd_C qa qa1 := by
  unfold t_dequeue at h
  rcases h with ho1 | ho2
  · obtain ⟨ha3, hb4⟩ := ho1
    obtain ⟨r_6, hx5⟩ := hb4
    obtain ⟨ha6, hb7⟩ := hx5
    obtain ⟨c_11, hx8⟩ := hb7
    obtain ⟨ha9, hb10⟩ := hx8
    exact (by rw [hb10.2]; exact (by rw [ha9]; exact (sd_Csi sd_Cr (by decide))))
  · obtain ⟨ha11, hb12⟩ := ho2
    exact (by rw [hb12.2]; exact sd_Cr)
theorem d_skip {p1 : Int32} {va : fw_W} {qa : fw_C} {r : Int32} {va1 : fw_W} {qa1 : fw_C} (h : t_skip p1 va qa r va1 qa1) : sd_W va va1 ∧ sd_C qa qa1 := by
  unfold t_skip at h
  rcases h with ho1 | ho2
  · obtain ⟨ha3, hb4⟩ := ho1
    obtain ⟨sta1_9, prg1_10, stp1_11, las1_12, wai1_13, bin1_14, bou1_15, hel1_16, sbo1_17, ftb1_18, fqu1_19, lold1_20, lsiz1_21, fln1_22, hx5⟩ := hb4
    obtain ⟨ha6, hb7⟩ := hx5
    rcases hb7 with ho8 | ho9
    · obtain ⟨ha10, hb11⟩ := ho8
      obtain ⟨W_28, hx12⟩ := hb11
      obtain ⟨ha13, hb14⟩ := hx12
      obtain ⟨c_30, hx15⟩ := hb14
      obtain ⟨ha16, hb17⟩ := hx15
      exact ⟨(by rw [hb17.2.1]; exact (by rw [ha13]; exact (sd_Wwr (sd_Wsi (sd_Wsi sd_Wr (by decide)) (by decide)) (by decide)))), (by rw [hb17.2.2]; exact (by rw [ha16]; exact (sd_Csr (sd_Csr (sd_Csl (sd_Csi (sd_Csl (sd_Csl (sd_Csi (sd_Csi (sd_Csi (sd_Csi (sd_Csi sd_Cr (by decide)) (by decide)) (by decide)) (by decide)) (by decide)))) (by decide))) (by decide)) (by decide))))⟩
    · obtain ⟨ha18, hb19⟩ := ho9
      obtain ⟨W_32, hx20⟩ := hb19
      obtain ⟨ha21, hb22⟩ := hx20
      obtain ⟨c_34, hx23⟩ := hb22
      obtain ⟨ha24, hb25⟩ := hx23
      exact ⟨(by rw [hb25.2.1]; exact (by rw [ha21]; exact (sd_Wwr (sd_Wsi (sd_Wsi sd_Wr (by decide)) (by decide)) (by decide)))), (by rw [hb25.2.2]; exact (by rw [ha24]; exact (sd_Csr (sd_Csr (sd_Csl (sd_Csi (sd_Csl (sd_Csl (sd_Csi (sd_Csi (sd_Csi (sd_Csi (sd_Csi sd_Cr (by decide)) (by decide)) (by decide)) (by decide)) (by decide)))) (by decide))) (by decide)) (by decide))))⟩
  · obtain ⟨ha26, hb27⟩ := ho2
    exact ⟨(by rw [hb27.2.1]; exact sd_Wr), (by rw [hb27.2.2]; exact sd_Cr)⟩
theorem d_startNext {p1 : Int32} {va : fw_W} {qa : fw_C} {r : Int32} {va1 : fw_W} {qa1 : fw_C} (h : t_startNext p1 va qa r va1 qa1) : sd_W va va1 ∧ sd_C qa qa1 := by
  unfold t_startNext at h
  obtain ⟨r_5, hx1⟩ := h
  obtain ⟨ha2, hb3⟩ := hx1
  rcases hb3 with ho4 | ho5
  · obtain ⟨ha6, hb7⟩ := ho4
    rcases hb7 with ho8 | ho9
    · obtain ⟨ha10, hb11⟩ := ho8
      obtain ⟨r_14, wai1_17, fqu1_18, hx12⟩ := hb11
      obtain ⟨ha13, hb14⟩ := hx12
      obtain ⟨sta1_24, prg1_25, stp1_26, las1_27, bin1_28, bou1_29, hel1_30, sbo1_31, ftb1_32, lold1_33, lsiz1_34, fln1_35, hx15⟩ := hb14
      obtain ⟨ha16, hb17⟩ := hx15
      obtain ⟨W_40, hx18⟩ := hb17
      obtain ⟨ha19, hb20⟩ := hx18
      obtain ⟨c_42, hx21⟩ := hb20
      obtain ⟨ha22, hb23⟩ := hx21
      exact ⟨(by rw [hb23.2.1]; exact (by rw [ha19]; exact (sd_Wwr (sd_Wsi (sd_Wsi sd_Wr (by decide)) (by decide)) (by decide)))), (by rw [hb23.2.2]; exact (by rw [ha22]; exact (sd_Csr (sd_Csr (sd_Csl (sd_Csi (sd_Csl (sd_Csl (sd_Csi (sd_Csi (sd_Csi (sd_Csi (sd_Csi sd_Cr (by decide)) (by decide)) (by decide)) (by decide)) (by decide)))) (by decide))) (by decide)) (by decide))))⟩
    · obtain ⟨ha24, hb25⟩ := ho9
      exact ⟨(by rw [hb25.2.1]; exact sd_Wr), (by rw [hb25.2.2]; exact sd_Cr)⟩
  · obtain ⟨ha26, hb27⟩ := ho5
    exact ⟨(by rw [hb27.2.1]; exact sd_Wr), (by rw [hb27.2.2]; exact sd_Cr)⟩
theorem d_replace {p1 : Int32} {p2 : Int32} {va : fw_W} {qa : fw_C} {r : Int32} {va1 : fw_W} {qa1 : fw_C} (h : t_replace p1 p2 va qa r va1 qa1) : sd_W va va1 ∧ sd_C qa qa1 := by
  unfold t_replace at h
  obtain ⟨ha1, hb2⟩ := h
  rcases hb2 with ho3 | ho4
  · obtain ⟨ha5, hb6⟩ := ho3
    exact ⟨(by rw [hb6.2.1]; exact sd_Wr), (by rw [hb6.2.2]; exact sd_Cr)⟩
  · obtain ⟨ha7, hb8⟩ := ho4
    rcases hb8 with ho9 | ho10
    · obtain ⟨ha11, hb12⟩ := ho9
      obtain ⟨sta1_16, prg1_17, stp1_18, las1_19, wai1_20, bin1_21, bou1_22, hel1_23, sbo1_24, chg1_25, lft1_26, cap1_27, thr1_28, pz1_29, tmp1_30, het1_31, cun1_32, vol1_33, cin1_34, cou1_35, ein1_36, eou1_37, res1_38, mca1_39, mre1_40, trr1_41, wfo1_42, wct1_43, fbd1_44, ftb1_45, hx13⟩ := hb12
      obtain ⟨ha14, hb15⟩ := hx13
      obtain ⟨lold1_53, lsiz1_54, fln1_55, hx16⟩ := hb15
      obtain ⟨ha17, hb18⟩ := hx16
      obtain ⟨W_58, hx19⟩ := hb18
      obtain ⟨ha20, hb21⟩ := hx19
      obtain ⟨c_60, hx22⟩ := hb21
      obtain ⟨ha23, hb24⟩ := hx22
      exact ⟨(by rw [hb24.2.1]; exact (by rw [ha20]; exact (sd_Wwr (sd_Wsi (sd_Wsi sd_Wr (by decide)) (by decide)) (by decide)))), (by rw [hb24.2.2]; exact (by rw [ha23]; exact (sd_Csr (sd_Csl (sd_Csl (sd_Csl (sd_Csl (sd_Csr (sd_Csi (sd_Csi (sd_Csi (sd_Csi (sd_Csi (sd_Csi (sd_Csi (sd_Csi (sd_Csi (sd_Csi (sd_Csi (sd_Csi (sd_Csi (sd_Csi (sd_Csi (sd_Csl (sd_Csi (sd_Csl (sd_Csl (sd_Csi (sd_Csi (sd_Csi (sd_Csi (sd_Csi sd_Cr (by decide)) (by decide)) (by decide)) (by decide)) (by decide)))) (by decide))) (by decide)) (by decide)) (by decide)) (by decide)) (by decide)) (by decide)) (by decide)) (by decide)) (by decide)) (by decide)) (by decide)) (by decide)) (by decide)) (by decide)) (by decide)) (by decide)))))) (by decide))))⟩
    · obtain ⟨ha25, hb26⟩ := ho10
      exact ⟨(by rw [hb26.2.1]; exact sd_Wr), (by rw [hb26.2.2]; exact sd_Cr)⟩
theorem d_enqueue {p2 : Int32} {va : fw_W} {qa : fw_C} {r : Int32} {qa1 : fw_C} (h : t_enqueue p2 va qa r qa1) : sd_C qa qa1 := by
  unfold t_enqueue at h
  obtain ⟨ha1, hb2⟩ := h
  rcases hb2 with ho3 | ho4
  · obtain ⟨ha5, hb6⟩ := ho3
    obtain ⟨b1_15, hx7⟩ := hb6
    obtain ⟨ha8, hb9⟩ := hx7
    obtain ⟨c_18, hx10⟩ := hb9
    obtain ⟨ha11, hb12⟩ := hx10
    exact (by rw [hb12.2]; exact (by rw [ha11]; exact (sd_Csr (sd_Csi sd_Cr (by decide)) (by decide))))
  · obtain ⟨ha13, hb14⟩ := ho4
    exact (by rw [hb14.2]; exact sd_Cr)
theorem d_start {p1 : Int32} {p2 : Int32} {va : fw_W} {xa : Nat → fw_C} {r : Int32} {va1 : fw_W} {xa1 : Nat → fw_C} (h : t_start p1 p2 va xa r va1 xa1) : sd_W va va1 ∧ ∀ n9 : Nat, sd_X n9 xa xa1 := by
  unfold t_start at h
  obtain ⟨r_9, hx1⟩ := h
  obtain ⟨ha2, hb3⟩ := hx1
  rcases hb3 with ho4 | ho5
  · obtain ⟨ha6, hb7⟩ := ho4
    obtain ⟨sta1_20, prg1_21, stp1_22, las1_23, bin1_24, bou1_25, hel1_26, sbo1_27, ftb1_28, lold1_29, lsiz1_30, fln1_31, hx8⟩ := hb7
    obtain ⟨ha9, hb10⟩ := hx8
    obtain ⟨c_36, hx11⟩ := hb10
    obtain ⟨ha12, hb13⟩ := hx11
    obtain ⟨W_38, hx14⟩ := hb13
    obtain ⟨ha15, hb16⟩ := hx14
    obtain ⟨r_40, hx17⟩ := hb16
    obtain ⟨ha18, hb19⟩ := hx17
    obtain ⟨r_44, hx20⟩ := hb19
    obtain ⟨ha21, hb22⟩ := hx20
    exact ⟨(by rw [hb22.2.1]; exact (by rw [ha15]; exact (sd_Wwr (sd_Wsi (sd_Wsi sd_Wr (by decide)) (by decide)) (by decide)))), (fun n9 => (by rw [hb22.2.2]; exact (sd_Xs (by rw [ha12]; exact (sd_Csr (sd_Csl (sd_Csi (sd_Csl (sd_Csl (sd_Csi (sd_Csi (sd_Csi (sd_Csi sd_Cr (by decide)) (by decide)) (by decide)) (by decide)))) (by decide))) (by decide))))))⟩
  · obtain ⟨ha23, hb24⟩ := ho5
    exact ⟨(by rw [hb24.2.1]; exact sd_Wr), (fun n9 => (by rw [hb24.2.2]; exact sd_Xr))⟩
theorem d_tick {k : Nat} {qa : fw_C} {va : fw_W} {r : Int32} {qa1 : fw_C} {va1 : fw_W} (h : t_tick k qa va r qa1 va1) : sd_W va va1 ∧ sd_C qa qa1 := by
  unfold t_tick at h
  obtain ⟨sta1_, prg1_, stp1_, las1_, wai1_, bin1_, bou1_, hel1_, sbo1_, chg1_, lft1_, cap1_, thr1_, pz1_, tmp1_, het1_, cun1_, vol1_, cin1_, cou1_, ein1_, eou1_, res1_, mca1_, mre1_, trr1_, wfo1_, wct1_, fbd1_, ftb1_, fqu1_, rold1_, rsiz1_, frn1_, lold1_, lsiz1_, fln1_, hx1⟩ := h
  obtain ⟨ha2, hb3⟩ := hx1
  exact ⟨(by rw [hb3.2]; exact (sd_Wwr (sd_Wsi (sd_Wsi (sd_Wwr (sd_Wsi (sd_Wsi sd_Wr (by decide)) (by decide)) (by decide)) (by decide)) (by decide)) (by decide))), (by rw [hb3.1]; exact (sd_Csr (sd_Csl (sd_Csl (sd_Csl (sd_Csl (sd_Csr (sd_Csr (sd_Csi (sd_Csi (sd_Csi (sd_Csi (sd_Csi (sd_Csi (sd_Csi (sd_Csi (sd_Csi (sd_Csi (sd_Csi (sd_Csi (sd_Csi (sd_Csi (sd_Csi (sd_Csl (sd_Csi (sd_Csl (sd_Csl (sd_Csi (sd_Csi (sd_Csi (sd_Csi (sd_Csi sd_Cr (by decide)) (by decide)) (by decide)) (by decide)) (by decide)))) (by decide))) (by decide)) (by decide)) (by decide)) (by decide)) (by decide)) (by decide)) (by decide)) (by decide)) (by decide)) (by decide)) (by decide)) (by decide)) (by decide)) (by decide)) (by decide)) (by decide)) (by decide)))))) (by decide)))⟩
theorem d_cs : ∀ (n : Nat) {x x1 : Nat → fw_C} {W W1 : fw_W} {e e1 : Int32}, fw_cs n x W e x1 W1 e1 → sd_W W W1 ∧ ∀ m : Nat, sd_X m x x1
  | 0, x, x1, W, W1, e, e1, h => by
    obtain ⟨h1, h2, _⟩ := h
    subst h1 h2
    exact ⟨sd_Wr, fun _ => sd_Xr⟩
  | n + 1, x, x1, W, W1, e, e1, h => by
    obtain ⟨x2, W2, e2, r, c, h1, h2, h3, _⟩ := h
    obtain ⟨a1, a2⟩ := d_cs n h1
    obtain ⟨b1, b2⟩ := d_tick h2
    subst h3
    exact ⟨sd_Wt a1 b1, fun m => sd_Xt (a2 m) (sd_Xs b2)⟩
theorem d_as : ∀ (n : Nat) {x x1 : Nat → fw_C} {W W1 : fw_W} {e e1 : Int32}, fw_as n x W e x1 W1 e1 → sd_W W W1 ∧ ∀ m : Nat, sd_X m x x1
  | 0, x, x1, W, W1, e, e1, h => by
    obtain ⟨h1, h2, _⟩ := h
    subst h1 h2
    exact ⟨sd_Wr, fun _ => sd_Xr⟩
  | n + 1, x, x1, W, W1, e, e1, h => by
    obtain ⟨x2, W2, e2, h1, h2⟩ := h
    obtain ⟨a1, a2⟩ := d_as n h1
    obtain ⟨b1, b2⟩ := d_cs _ h2
    exact ⟨sd_Wt a1 (sd_Wt (sd_Wsi sd_Wr (by decide)) b1), fun m => sd_Xt (a2 m) (b2 m)⟩
theorem d_advance {p1 : Int32} {va : fw_W} {xa : Nat → fw_C} {r : Int32} {va1 : fw_W} {xa1 : Nat → fw_C} (h : t_advance p1 va xa r va1 xa1) : sd_W va va1 ∧ ∀ m : Nat, sd_X m xa xa1 := by
  obtain ⟨_, ⟨_, y, z, W, x, ⟨_, _, h1, _⟩, _, _, e1, e2⟩ | ⟨_, _, e1, e2⟩⟩ := h
  · subst e1 e2
    exact d_as _ h1
  · subst e1 e2
    exact ⟨sd_Wr, fun _ => sd_Xr⟩
