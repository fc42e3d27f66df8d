theorem rf_Lcl {g : Nat → Int32} {x cv v1 v2 v3 v4 : Int32} {d1 d2 d3 d4 : Nat → Int32} (h : rf_L g) (h6 : (g 9).toInt < 6) (hx : x.toInt = 244 + 54 * (g 9).toInt) (hv : 0 ≤ cv.toInt ∧ cv.toInt < (g 11).toInt)
    (e1 : d1 = upd (upd g (x + 11).toNatClampNeg cv) (x + 12).toInt.toNat v1) (e2 : d2 = upd d1 (x + 13).toInt.toNat v2) (e3 : d3 = upd d2 (x + 14).toInt.toNat v3) (e4 : d4 = upd d3 (x + 15).toInt.toNat v4)
    (q1 : 100 ≤ v1.toInt ∧ v1.toInt ≤ 100000) (q2 : 1 ≤ v2.toInt ∧ v2.toInt ≤ 500) (q3 : 0 ≤ v3.toInt ∧ v3.toInt ≤ 500) (q4 : 1 ≤ v4.toInt ∧ v4.toInt ≤ 200) : rf_L (upd d4 (9 : Int32).toNatClampNeg ((d4 9) + 1)) := by
  have s := h.1.2.2.1
  have k1 := rf_pk (x := x) (k := 11) (K := 11) (by decide) (by omega) (by omega)
  have k2 := rf_pk (x := x) (k := 12) (K := 12) (by decide) (by omega) (by omega)
  have k3 := rf_pk (x := x) (k := 13) (K := 13) (by decide) (by omega) (by omega)
  have k4 := rf_pk (x := x) (k := 14) (K := 14) (by decide) (by omega) (by omega)
  have k5 := rf_pk (x := x) (k := 15) (K := 15) (by decide) (by omega) (by omega)
  have n1 : (x + 11).toNatClampNeg = 244 + 54 * (g 9).toInt.toNat + 11 := by
    show (x + 11).toInt.toNat = _
    omega
  have n2 : (x + 12).toInt.toNat = 244 + 54 * (g 9).toInt.toNat + 12 := by omega
  have n3 : (x + 13).toInt.toNat = 244 + 54 * (g 9).toInt.toNat + 13 := by omega
  have n4 : (x + 14).toInt.toNat = 244 + 54 * (g 9).toInt.toNat + 14 := by omega
  have n5 : (x + 15).toInt.toNat = 244 + 54 * (g 9).toInt.toNat + 15 := by omega
  have a0 : rf_La g (upd g (x + 11).toNatClampNeg cv) := rf_La1 (rf_La0 h) (by omega)
  have a1 : rf_La g d1 := by
    rw [e1]
    exact rf_La1 (x := x + 12) a0 (by omega)
  have a2 : rf_La g d2 := by
    rw [e2]
    exact rf_La1 (x := x + 13) a1 (by omega)
  have a3 : rf_La g d3 := by
    rw [e3]
    exact rf_La1 (x := x + 14) a2 (by omega)
  have a4 : rf_La g d4 := by
    rw [e4]
    exact rf_La1 (x := x + 15) a3 (by omega)
  have e9 : d4 9 = g 9 := a4.2 9 (by omega)
  have e11 : d4 11 = g 11 := a4.2 11 (by omega)
  rw [n1, n2] at e1
  rw [n3] at e2
  rw [n4] at e3
  rw [n5] at e4
  refine rf_Lm (i := 9) a4.1 (Or.inl rfl) (rf_p1 (by rw [e9]; omega)) (fun _ => ?_) (fun q => absurd q (by omega)) (fun q => absurd q (by omega))
  rw [e9, e11]
  have f5 : d4 (244 + 54 * (g 9).toInt.toNat + 15) = v4 := by rw [e4, rf_upd_eq]
  have f4 : d4 (244 + 54 * (g 9).toInt.toNat + 14) = v3 := by rw [e4, rf_upd_ne (by omega), e3, rf_upd_eq]
  have f3 : d4 (244 + 54 * (g 9).toInt.toNat + 13) = v2 := by rw [e4, rf_upd_ne (by omega), e3, rf_upd_ne (by omega), e2, rf_upd_eq]
  have f2 : d4 (244 + 54 * (g 9).toInt.toNat + 12) = v1 := by rw [e4, rf_upd_ne (by omega), e3, rf_upd_ne (by omega), e2, rf_upd_ne (by omega), e1, rf_upd_eq]
  have f1 : d4 (244 + 54 * (g 9).toInt.toNat + 11) = cv := by rw [e4, rf_upd_ne (by omega), e3, rf_upd_ne (by omega), e2, rf_upd_ne (by omega), e1, rf_upd_ne (by omega), rf_upd_eq]
  rw [f1, f2, f3, f4, f5]
  exact ⟨h6, hv, q1, q2, q3, q4⟩
theorem rm_clo {g d1 d2 d3 d4 : Nat → Int32} {x cv v1 v2 v3 v4 : Int32} (hx : 244 ≤ x.toInt ∧ x.toInt ≤ 1000) (e1 : d1 = upd (upd g (x + 11).toNatClampNeg cv) (x + 12).toInt.toNat v1) (e2 : d2 = upd d1 (x + 13).toInt.toNat v2) (e3 : d3 = upd d2 (x + 14).toInt.toNat v3) (e4 : d4 = upd d3 (x + 15).toInt.toNat v4) : ∀ j : Nat, j < 244 → d4 j = g j := by
  intro j hj
  have k1 := rf_pk (x := x) (k := 11) (K := 11) (by decide) (by omega) (by omega)
  have k2 := rf_pk (x := x) (k := 12) (K := 12) (by decide) (by omega) (by omega)
  have k3 := rf_pk (x := x) (k := 13) (K := 13) (by decide) (by omega) (by omega)
  have k4 := rf_pk (x := x) (k := 14) (K := 14) (by decide) (by omega) (by omega)
  have k5 := rf_pk (x := x) (k := 15) (K := 15) (by decide) (by omega) (by omega)
  have n1 : (x + 11).toNatClampNeg = (x + 11).toInt.toNat := rfl
  rw [e4, rf_upd_ne (by omega), e3, rf_upd_ne (by omega), e2, rf_upd_ne (by omega), e1, rf_upd_ne (by omega), rf_upd_ne (by omega)]
theorem rm_clN {g d1 d2 d3 d4 : Nat → Int32} {N : List (List Int32)} {x cv v1 v2 v3 v4 w : Int32} (hN : rm_N N g) (hn : (g 11).toInt = N.length) (hx : (244 ≤ x.toInt ∧ x.toInt ≤ 1000) ∧ (g 11).toInt ≤ 4) (e1 : d1 = upd (upd g (x + 11).toNatClampNeg cv) (x + 12).toInt.toNat v1) (e2 : d2 = upd d1 (x + 13).toInt.toNat v2) (e3 : d3 = upd d2 (x + 14).toInt.toNat v3) (e4 : d4 = upd d3 (x + 15).toInt.toNat v4) : rm_N N (upd d4 (9 : Int32).toNatClampNeg w) := by
  have e0 : (9 : Int32).toNatClampNeg = 9 := by decide
  have l := rm_clo hx.1 e1 e2 e3 e4
  rw [e0]
  exact rm_Nk hN (by omega) (by rw [rf_upd_ne (by omega)]; exact l 11 (by omega)) (fun j h1 h2 => by rw [rf_upd_ne (by omega)]; exact l j (by omega))
theorem rm_cl9 {g d1 d2 d3 d4 : Nat → Int32} {x cv v1 v2 v3 v4 : Int32} (hx : (244 ≤ x.toInt ∧ x.toInt ≤ 1000) ∧ 0 ≤ (g 9).toInt ∧ (g 9).toInt ≤ 6) (e1 : d1 = upd (upd g (x + 11).toNatClampNeg cv) (x + 12).toInt.toNat v1) (e2 : d2 = upd d1 (x + 13).toInt.toNat v2) (e3 : d3 = upd d2 (x + 14).toInt.toNat v3) (e4 : d4 = upd d3 (x + 15).toInt.toNat v4) : ((upd d4 (9 : Int32).toNatClampNeg ((d4 9) + 1)) 9).toInt = (g 9).toInt + 1 ∧ (upd d4 (9 : Int32).toNatClampNeg ((d4 9) + 1)) 10 = g 10 := by
  have e0 : (9 : Int32).toNatClampNeg = 9 := by decide
  have l := rm_clo hx.1 e1 e2 e3 e4
  rw [e0]
  refine ⟨by rw [rf_upd_eq, l 9 (by omega), rf_p1 (by omega)], ?_⟩
  rw [rf_upd_ne (by omega)]
  exact l 10 (by omega)
theorem dX11_readCell_0 : decode cX11_readCell 0 = .ok (.aload_n 0, 1) := by decide +kernel
theorem dX11_readCell_1 : decode cX11_readCell 1 = .ok (.getfield 16, 3) := by decide +kernel
theorem dX11_readCell_4 : decode cX11_readCell 4 = .ok (.bipush 9, 2) := by decide +kernel
theorem dX11_readCell_6 : decode cX11_readCell 6 = .ok (.iaload, 1) := by decide +kernel
theorem dX11_readCell_7 : decode cX11_readCell 7 = .ok (.bipush 6, 2) := by decide +kernel
theorem dX11_readCell_9 : decode cX11_readCell 9 = .ok (.if_icmp .ne 9, 3) := by decide +kernel
theorem dX11_readCell_12 : decode cX11_readCell 12 = .ok (.aload_n 0, 1) := by decide +kernel
theorem dX11_readCell_13 : decode cX11_readCell 13 = .ok (.iconst 4, 1) := by decide +kernel
theorem dX11_readCell_14 : decode cX11_readCell 14 = .ok (.invokevirtual 112, 3) := by decide +kernel
theorem dX11_readCell_17 : decode cX11_readCell 17 = .ok (.ireturn, 1) := by decide +kernel
theorem dX11_readCell_18 : decode cX11_readCell 18 = .ok (.sipush 244, 3) := by decide +kernel
theorem dX11_readCell_21 : decode cX11_readCell 21 = .ok (.bipush 54, 2) := by decide +kernel
theorem dX11_readCell_23 : decode cX11_readCell 23 = .ok (.aload_n 0, 1) := by decide +kernel
theorem dX11_readCell_24 : decode cX11_readCell 24 = .ok (.getfield 16, 3) := by decide +kernel
theorem dX11_readCell_27 : decode cX11_readCell 27 = .ok (.bipush 9, 2) := by decide +kernel
theorem dX11_readCell_29 : decode cX11_readCell 29 = .ok (.iaload, 1) := by decide +kernel
theorem dX11_readCell_30 : decode cX11_readCell 30 = .ok (.imul, 1) := by decide +kernel
theorem dX11_readCell_31 : decode cX11_readCell 31 = .ok (.iadd, 1) := by decide +kernel
theorem dX11_readCell_32 : decode cX11_readCell 32 = .ok (.istore_n 1, 1) := by decide +kernel
theorem dX11_readCell_33 : decode cX11_readCell 33 = .ok (.aload_n 0, 1) := by decide +kernel
theorem dX11_readCell_34 : decode cX11_readCell 34 = .ok (.invokevirtual 133, 3) := by decide +kernel
theorem dX11_readCell_37 : decode cX11_readCell 37 = .ok (.pop, 1) := by decide +kernel
theorem dX11_readCell_38 : decode cX11_readCell 38 = .ok (.aload_n 0, 1) := by decide +kernel
theorem dX11_readCell_39 : decode cX11_readCell 39 = .ok (.invokevirtual 106, 3) := by decide +kernel
theorem dX11_readCell_42 : decode cX11_readCell 42 = .ok (.pop, 1) := by decide +kernel
theorem dX11_readCell_43 : decode cX11_readCell 43 = .ok (.aload_n 0, 1) := by decide +kernel
theorem dX11_readCell_44 : decode cX11_readCell 44 = .ok (.aload_n 0, 1) := by decide +kernel
theorem dX11_readCell_45 : decode cX11_readCell 45 = .ok (.getfield 81, 3) := by decide +kernel
theorem dX11_readCell_48 : decode cX11_readCell 48 = .ok (.invokevirtual 90, 3) := by decide +kernel
theorem dX11_readCell_51 : decode cX11_readCell 51 = .ok (.ifCond .ne 9, 3) := by decide +kernel
theorem dX11_readCell_54 : decode cX11_readCell 54 = .ok (.aload_n 0, 1) := by decide +kernel
theorem dX11_readCell_55 : decode cX11_readCell 55 = .ok (.iconst 1, 1) := by decide +kernel
theorem dX11_readCell_56 : decode cX11_readCell 56 = .ok (.invokevirtual 112, 3) := by decide +kernel
theorem dX11_readCell_59 : decode cX11_readCell 59 = .ok (.ireturn, 1) := by decide +kernel
theorem dX11_readCell_60 : decode cX11_readCell 60 = .ok (.aload_n 0, 1) := by decide +kernel
theorem dX11_readCell_61 : decode cX11_readCell 61 = .ok (.aload_n 0, 1) := by decide +kernel
theorem dX11_readCell_62 : decode cX11_readCell 62 = .ok (.getfield 16, 3) := by decide +kernel
theorem dX11_readCell_65 : decode cX11_readCell 65 = .ok (.aload_n 0, 1) := by decide +kernel
theorem dX11_readCell_66 : decode cX11_readCell 66 = .ok (.getfield 81, 3) := by decide +kernel
theorem dX11_readCell_69 : decode cX11_readCell 69 = .ok (.aload_n 0, 1) := by decide +kernel
theorem dX11_readCell_70 : decode cX11_readCell 70 = .ok (.invokevirtual 94, 3) := by decide +kernel
theorem dX11_readCell_73 : decode cX11_readCell 73 = .ok (.aload_n 0, 1) := by decide +kernel
theorem dX11_readCell_74 : decode cX11_readCell 74 = .ok (.getfield 81, 3) := by decide +kernel
theorem dX11_readCell_77 : decode cX11_readCell 77 = .ok (.isub, 1) := by decide +kernel
theorem dX11_readCell_78 : decode cX11_readCell 78 = .ok (.invokevirtual 129, 3) := by decide +kernel
theorem dX11_readCell_81 : decode cX11_readCell 81 = .ok (.istore_n 2, 1) := by decide +kernel
theorem dX11_readCell_82 : decode cX11_readCell 82 = .ok (.iload_n 2, 1) := by decide +kernel
theorem dX11_readCell_83 : decode cX11_readCell 83 = .ok (.iconst (-1), 1) := by decide +kernel
theorem dX11_readCell_84 : decode cX11_readCell 84 = .ok (.if_icmp .ne 9, 3) := by decide +kernel
theorem dX11_readCell_87 : decode cX11_readCell 87 = .ok (.aload_n 0, 1) := by decide +kernel
theorem dX11_readCell_88 : decode cX11_readCell 88 = .ok (.iconst 3, 1) := by decide +kernel
theorem dX11_readCell_89 : decode cX11_readCell 89 = .ok (.invokevirtual 112, 3) := by decide +kernel
theorem dX11_readCell_92 : decode cX11_readCell 92 = .ok (.ireturn, 1) := by decide +kernel
theorem dX11_readCell_93 : decode cX11_readCell 93 = .ok (.aload_n 0, 1) := by decide +kernel
theorem dX11_readCell_94 : decode cX11_readCell 94 = .ok (.invokevirtual 133, 3) := by decide +kernel
theorem dX11_readCell_97 : decode cX11_readCell 97 = .ok (.pop, 1) := by decide +kernel
theorem dX11_readCell_98 : decode cX11_readCell 98 = .ok (.aload_n 0, 1) := by decide +kernel
theorem dX11_readCell_99 : decode cX11_readCell 99 = .ok (.getfield 16, 3) := by decide +kernel
theorem dX11_readCell_102 : decode cX11_readCell 102 = .ok (.iload_n 1, 1) := by decide +kernel
theorem dX11_readCell_103 : decode cX11_readCell 103 = .ok (.bipush 11, 2) := by decide +kernel
theorem dX11_readCell_105 : decode cX11_readCell 105 = .ok (.iadd, 1) := by decide +kernel
theorem dX11_readCell_106 : decode cX11_readCell 106 = .ok (.iload_n 2, 1) := by decide +kernel
theorem dX11_readCell_107 : decode cX11_readCell 107 = .ok (.iastore, 1) := by decide +kernel
theorem dX11_readCell_108 : decode cX11_readCell 108 = .ok (.aload_n 0, 1) := by decide +kernel
theorem dX11_readCell_109 : decode cX11_readCell 109 = .ok (.iload_n 1, 1) := by decide +kernel
theorem dX11_readCell_110 : decode cX11_readCell 110 = .ok (.bipush 12, 2) := by decide +kernel
theorem dX11_readCell_112 : decode cX11_readCell 112 = .ok (.iadd, 1) := by decide +kernel
theorem dX11_readCell_113 : decode cX11_readCell 113 = .ok (.bipush 100, 2) := by decide +kernel
theorem dX11_readCell_115 : decode cX11_readCell 115 = .ok (.ldc 53, 2) := by decide +kernel
theorem dX11_readCell_117 : decode cX11_readCell 117 = .ok (.invokevirtual 140, 3) := by decide +kernel
theorem dX11_readCell_120 : decode cX11_readCell 120 = .ok (.ifCond .eq 48, 3) := by decide +kernel
theorem dX11_readCell_123 : decode cX11_readCell 123 = .ok (.aload_n 0, 1) := by decide +kernel
theorem dX11_readCell_124 : decode cX11_readCell 124 = .ok (.iload_n 1, 1) := by decide +kernel
theorem dX11_readCell_125 : decode cX11_readCell 125 = .ok (.bipush 13, 2) := by decide +kernel
theorem dX11_readCell_127 : decode cX11_readCell 127 = .ok (.iadd, 1) := by decide +kernel
theorem dX11_readCell_128 : decode cX11_readCell 128 = .ok (.iconst 1, 1) := by decide +kernel
theorem dX11_readCell_129 : decode cX11_readCell 129 = .ok (.sipush 500, 3) := by decide +kernel
theorem dX11_readCell_132 : decode cX11_readCell 132 = .ok (.invokevirtual 140, 3) := by decide +kernel
theorem dX11_readCell_135 : decode cX11_readCell 135 = .ok (.ifCond .eq 33, 3) := by decide +kernel
theorem dX11_readCell_138 : decode cX11_readCell 138 = .ok (.aload_n 0, 1) := by decide +kernel
theorem dX11_readCell_139 : decode cX11_readCell 139 = .ok (.iload_n 1, 1) := by decide +kernel
theorem dX11_readCell_140 : decode cX11_readCell 140 = .ok (.bipush 14, 2) := by decide +kernel
theorem dX11_readCell_142 : decode cX11_readCell 142 = .ok (.iadd, 1) := by decide +kernel
theorem dX11_readCell_143 : decode cX11_readCell 143 = .ok (.iconst 0, 1) := by decide +kernel
theorem dX11_readCell_144 : decode cX11_readCell 144 = .ok (.sipush 500, 3) := by decide +kernel
theorem dX11_readCell_147 : decode cX11_readCell 147 = .ok (.invokevirtual 140, 3) := by decide +kernel
theorem dX11_readCell_150 : decode cX11_readCell 150 = .ok (.ifCond .eq 18, 3) := by decide +kernel
theorem dX11_readCell_153 : decode cX11_readCell 153 = .ok (.aload_n 0, 1) := by decide +kernel
theorem dX11_readCell_154 : decode cX11_readCell 154 = .ok (.iload_n 1, 1) := by decide +kernel
theorem dX11_readCell_155 : decode cX11_readCell 155 = .ok (.bipush 15, 2) := by decide +kernel
theorem dX11_readCell_157 : decode cX11_readCell 157 = .ok (.iadd, 1) := by decide +kernel
theorem dX11_readCell_158 : decode cX11_readCell 158 = .ok (.iconst 1, 1) := by decide +kernel
theorem dX11_readCell_159 : decode cX11_readCell 159 = .ok (.sipush 200, 3) := by decide +kernel
theorem dX11_readCell_162 : decode cX11_readCell 162 = .ok (.invokevirtual 140, 3) := by decide +kernel
theorem dX11_readCell_165 : decode cX11_readCell 165 = .ok (.ifCond .ne 5, 3) := by decide +kernel
theorem dX11_readCell_168 : decode cX11_readCell 168 = .ok (.iconst 0, 1) := by decide +kernel
theorem dX11_readCell_169 : decode cX11_readCell 169 = .ok (.ireturn, 1) := by decide +kernel
theorem dX11_readCell_170 : decode cX11_readCell 170 = .ok (.aload_n 0, 1) := by decide +kernel
theorem dX11_readCell_171 : decode cX11_readCell 171 = .ok (.getfield 16, 3) := by decide +kernel
theorem dX11_readCell_174 : decode cX11_readCell 174 = .ok (.bipush 9, 2) := by decide +kernel
theorem dX11_readCell_176 : decode cX11_readCell 176 = .ok (.dup2, 1) := by decide +kernel
theorem dX11_readCell_177 : decode cX11_readCell 177 = .ok (.iaload, 1) := by decide +kernel
theorem dX11_readCell_178 : decode cX11_readCell 178 = .ok (.iconst 1, 1) := by decide +kernel
theorem dX11_readCell_179 : decode cX11_readCell 179 = .ok (.iadd, 1) := by decide +kernel
theorem dX11_readCell_180 : decode cX11_readCell 180 = .ok (.iastore, 1) := by decide +kernel
theorem dX11_readCell_181 : decode cX11_readCell 181 = .ok (.iconst 1, 1) := by decide +kernel
theorem dX11_readCell_182 : decode cX11_readCell 182 = .ok (.ireturn, 1) := by decide +kernel
set_option maxRecDepth 100000 in
set_option maxHeartbeats 4000000 in
theorem m_X11_readCell (l : Launch) (D : va_G) (ct : Nat → ClassId) (S : ty_S) (ws : va_W) (ph : va_W → Prop) (xx : Nat → Nat → Nat → Prop) (mo : Nat) (mw : Nat) (ma : Nat) (mf : Nat) (m0 : Nat) (m1 : Nat) (mu : Nat) (mv : Nat) (u0 : Nat) (u1 : Nat) (iz : Nat) (mb : Nat) (th : Int32) (mn : Int32) (mpt : Int32) (mbg : Int32) (mwr : Int32) (mlf : Int32) (men : Int32) (b : Nat → Int32) (g : Nat → Int32) (N : List (List Int32)) (sz : Nat) (hT : ty_V ct S ph ws) (hph : ty_C ph xx) (hy1 : ty_y1 xx) (hmn : 0 ≤ mn.toInt ∧ mn.toInt ≤ 800) (hpt : 0 ≤ mpt.toInt ∧ mpt.toInt ≤ mn.toInt) (hb2 : mpt.toInt ≤ mbg.toInt ∧ mbg.toInt ≤ mn.toInt) (hL : rf_L g) (hN : rm_N N g) : Met l yX11_readCell (ws_ yX11_readCell cX11_readCell 3 (some .boolean)) ({ frames := 4, cells := 0, slots := 0, locals := 87 } : Room) (va_Pc [.ref mo] (cmP D ct sz ([(rf_MO mo mw ma mf m0 m1 mu mv u0 u1 iz th mb mn mpt mbg mwr (0) mlf men), (rf_RW ct 0 mb 800 b), (rf_RW ct 0 mf 958 g)] ++ ws))) (va_Qi (fun (r : Int32) (u : va_W × Int32 × Int32 × Int32 × Int32 × (Nat → Int32)) => match u with | (u9, mpt1, mbg1, mwr1, mwk1, g1) => ty_V ct S ph u9 ∧ ((mpt.toInt ≤ mpt1.toInt ∧ mpt1.toInt ≤ mn.toInt) ∧ 0 ≤ mbg1.toInt ∧ mbg1.toInt ≤ mn.toInt) ∧ ((r = 0 ∧ rm_B b mn (rp_lk b mn N (g 9).toInt mbg) (rp_lp b mn N (g 9).toInt mbg) mwk1 mwr1) ∨ (r = 1 ∧ (rp_lk b mn N (g 9).toInt mbg) = 0 ∧ mwk1 = 0 ∧ rp_sk b mn mpt1 = rp_sk b mn (rp_lp b mn N (g 9).toInt mbg) ∧ rf_L g1 ∧ rm_N N g1 ∧ (g1 9).toInt = (g 9).toInt + 1 ∧ g1 10 = g 10))) (cmB D ([(rf_MO mo mw ma mf m0 m1 mu mv u0 u1 iz th mb mn mpt mbg mwr (0) mlf men), (rf_RW ct 0 mb 800 b), (rf_RW ct 0 mf 958 g)] ++ ws) sz (fun (u : va_W × Int32 × Int32 × Int32 × Int32 × (Nat → Int32)) => match u with | (u9, mpt1, mbg1, mwr1, mwk1, g1) => ([(rf_MO mo mw ma mf m0 m1 mu mv u0 u1 iz th mb mn mpt1 mbg1 mwr1 mwk1 mlf men), (rf_RW ct 0 mb 800 b), (rf_RW ct 0 mf 958 g1)] ++ u9))) (va_A ([(rf_MO mo mw ma mf m0 m1 mu mv u0 u1 iz th mb mn mpt mbg mwr (0) mlf men), (rf_RW ct 0 mb 800 b), (rf_RW ct 0 mf 958 g)] ++ ws) sz)) 0 0 (va_A ([(rf_MO mo mw ma mf m0 m1 mu mv u0 u1 iz th mb mn mpt mbg mwr (0) mlf men), (rf_RW ct 0 mb 800 b), (rf_RW ct 0 mf 958 g)] ++ ws) sz) := sorry