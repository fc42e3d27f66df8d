def rf_pq (g c : Nat → Int32) (n : Int32) : Prop := rf_L c ∧ c 10 = g 10 ∧ ∀ j : Nat, (j : Int) < n.toInt → c (97 + 37 * (g 10).toInt.toNat + 3 * j) = 4 → (c (98 + 37 * (g 10).toInt.toNat + 3 * j)).toInt < (j : Int)
theorem rf_pq0 {g : Nat → Int32} (h : rf_L g) : rf_pq g g 0 := ⟨h, rfl, fun j hj => absurd hj (by have z : (0 : Int32).toInt = 0 := (by decide); omega)⟩
theorem rf_pqn {g c d : Nat → Int32} {n x : Int32} (h : rf_pq g c n) (hn : 0 ≤ n.toInt ∧ n.toInt ≤ 11) (h4 : 0 ≤ (g 10).toInt ∧ (g 10).toInt < 4) (hx : x.toInt = 97 + 37 * (g 10).toInt + 3 * n.toInt) (s : rf_sp c d x.toInt.toNat n) : rf_pq g d (n + Int32.ofInt 1) := by
  refine ⟨s.1, (s.2.1 10 (by omega)).trans h.2.1, fun j hj hq => ?_⟩
  rw [rf_oi (by omega)] at hj
  by_cases e : (j : Int) = n.toInt
  · have e1 : 97 + 37 * (g 10).toInt.toNat + 3 * j = x.toInt.toNat := by omega
    have e2 : 98 + 37 * (g 10).toInt.toNat + 3 * j = x.toInt.toNat + 1 := by omega
    rw [e1] at hq
    rw [e2, e]
    exact s.2.2 hq
  · rw [s.2.1 _ (by omega)] at hq
    rw [s.2.1 _ (by omega)]
    exact h.2.2 j (by omega) hq
theorem rf_m3 {n : Int32} (h : 0 ≤ n.toInt ∧ n.toInt ≤ 100) : (3 * n).toInt = 3 * n.toInt := by
  have t : (3 : Int32).toInt = 3 := by decide
  rw [Jvm.Kit.i32_mul (by rw [t]; omega) (by rw [t]; omega), t]
theorem rf_Lpg {g c : Nat → Int32} {x n : Int32} (h : rf_pq g c n) (hn : 1 ≤ n.toInt ∧ n.toInt ≤ 12) (h4 : 0 ≤ (g 10).toInt ∧ (g 10).toInt < 4) (hx : x.toInt = 96 + 37 * (g 10).toInt) : rf_L (upd (upd c x.toNatClampNeg n) (10 : Int32).toNatClampNeg ((upd c x.toNatClampNeg n) 10 + 1)) := by
  have ec : c 10 = g 10 := h.2.1
  have d := rf_La1 (x := x) (v := n) (rf_La0 h.1) (by rw [ec]; omega)
  have e1 : (upd c x.toNatClampNeg n) 10 = g 10 := (d.2 10 (by omega)).trans ec
  have ex : x.toNatClampNeg = 96 + 37 * (g 10).toInt.toNat := by
    show x.toInt.toNat = _
    omega
  refine rf_Lm (i := 10) d.1 (Or.inr (Or.inl rfl)) (rf_p1 (by rw [e1]; omega)) (fun q => absurd q (by omega)) (fun _ => ?_) (fun q => absurd q (by omega))
  rw [e1, ex, rf_upd_eq]
  refine ⟨h4.2, hn, fun j hj hq => ?_⟩
  rw [rf_upd_ne (by omega)] at hq
  rw [rf_upd_ne (by omega)]
  exact h.2.2 j hj hq
theorem rm_gjsP {b : Nat → Int32} {n w u : Int32} {np : Int} (J : rm_gJ b n np w 0 u) (hl : rp_let b n u = true) (hn : n.toInt ≤ 800) (k : rp_stk b n (0 : Int32).toInt u = 0) : rm_gJ b n np w 1 (rp_sk b n (rp_stp b n (0 : Int32).toInt u)) := by
  have h := rm_gjs J (by decide) hl hn k
  have e : (0 + Int32.ofInt 1 : Int32) = 1 := by decide
  rwa [e] at h
theorem rm_pgN {g c d : Nat → Int32} {N : List (List Int32)} {x n : Int32} (hN : rm_N N c) (h4 : N.length ≤ 4) (hx : 97 ≤ x.toInt) (s : rf_sp c d x.toInt.toNat n) (h9 : c 9 = g 9) : rm_N N d ∧ d 9 = g 9 :=
  ⟨rm_Nk hN h4 (s.2.1 11 (by omega)) (fun j h1 h2 => s.2.1 j (by omega)), (s.2.1 9 (by omega)).trans h9⟩
theorem rm_pgO {g c : Nat → Int32} {N : List (List Int32)} {x n : Int32} (hN : rm_N N c) (h4 : N.length ≤ 4) (hx : 96 ≤ x.toInt) (h9 : c 9 = g 9) (h10 : c 10 = g 10) (hs : 0 ≤ (g 10).toInt ∧ (g 10).toInt ≤ 4) : rm_N N (upd (upd c x.toNatClampNeg n) (10 : Int32).toNatClampNeg ((upd c x.toNatClampNeg n) 10 + 1)) ∧ (upd (upd c x.toNatClampNeg n) (10 : Int32).toNatClampNeg ((upd c x.toNatClampNeg n) 10 + 1)) 9 = g 9 ∧ ((upd (upd c x.toNatClampNeg n) (10 : Int32).toNatClampNeg ((upd c x.toNatClampNeg n) 10 + 1)) 10).toInt = (g 10).toInt + 1 := by
  have ex : x.toNatClampNeg = x.toInt.toNat := rfl
  have e0 : (10 : Int32).toNatClampNeg = 10 := by decide
  rw [e0, ex]
  refine ⟨rm_Nk hN h4 (by rw [rf_upd_ne (by omega), rf_upd_ne (by omega)]) (fun j h1 h2 => by rw [rf_upd_ne (by omega), rf_upd_ne (by omega)]), by rw [rf_upd_ne (by omega), rf_upd_ne (by omega)]; exact h9, ?_⟩
  rw [rf_upd_eq, rf_upd_ne (by omega), h10, rf_p1 (by omega)]
theorem rm_NL {g : Nat → Int32} {N : List (List Int32)} (hN : rm_N N g) (hL : rf_L g) : N.length ≤ 4 := by
  have a := (rf_Ls hL).2.2
  have b := hN.1
  omega
/-- a number of the description is put down -/
theorem rm_set1 {g g1 : Nat → Int32} {N : List (List Int32)} {i : Nat} {v : Int32} (hN : rm_N N g) (h4 : N.length ≤ 4) (hi : i < 20 ∧ ¬ i = 9 ∧ ¬ i = 10 ∧ ¬ i = 11) (e : g1 = upd g i v) : rm_N N g1 ∧ g1 9 = g 9 ∧ g1 10 = g 10 := by
  rw [e]
  exact ⟨rm_Nk hN h4 (rf_upd_ne (by omega)) (fun j h1 h2 => rf_upd_ne (by omega)), rf_upd_ne (by omega), rf_upd_ne (by omega)⟩
theorem rm_setv {g g1 : Nat → Int32} {i j : Nat} {v : Int32} {x : Int} (e : g1 = upd g i v) (h : j = i) (hv : v.toInt = x) : (g1 j).toInt = x := by
  rw [e, rm_ue h, hv]
theorem rm_setm {g g1 : Nat → Int32} {i j : Nat} {v : Int32} {x : Int} (e : g1 = upd g i v) (h : j = i) (hv : v.toInt = x) : (if (g1 j) < (100 : Int32) then (g1 j) else 100).toInt = min 100 x := by
  rw [rp_min100, rm_setv e h hv]
theorem rm_t0 {b : Nat → Int32} {n q K P : Int32} {N : List (List Int32)} {np nc : Int} (h : rp_wh b n q = 0) (hk : rp_ek b n q = K) (hp : rp_ep b n q = P) : rp_tk b n N np nc q = K ∧ rp_tp b n N np nc q = P ∧ rp_tN b n N q = N ∧ rp_tc b n q nc = nc ∧ rp_tg b n q np = np := by
  have t := rp_t0 (N := N) (np := np) (nc := nc) h
  exact ⟨t.1.trans hk, t.2.1.trans hp, t.2.2⟩
theorem rm_wh0 {b : Nat → Int32} {n q : Int32} (h1 : ¬ rp_w b n q = [99, 117, 114, 118, 101]) (h2 : ¬ rp_w b n q = [99, 101, 108, 108]) (h3 : ¬ rp_w b n q = [112, 114, 111, 103, 114, 97, 109]) : rp_wh b n q = 0 := (if_neg h1).trans ((if_neg h2).trans (if_neg h3))
theorem rm_A1 {b : Nat → Int32} {n wk wr : Int32} (h : ¬ wk = 0 ∧ rp_K b n = wk ∧ rp_P b n = wr) : -100 - wr = rp_A b n := by
  unfold rp_A
  rw [if_neg (by rw [h.2.1]; exact h.1), h.2.2]
theorem rm_A0 {b : Nat → Int32} {n x : Int32} (h : rp_K b n = 0) (e : rp_C b n = x.toInt) : x = rp_A b n := by
  unfold rp_A
  rw [if_pos h, e, Int32.ofInt_toInt]
theorem rm_e_eff {b : Nat → Int32} {n q : Int32} (hw : rp_w b n q = [101, 102, 102, 105, 99, 105, 101, 110, 99, 121]) : rp_wh b n q = 0 ∧ rp_ek b n q = rp_rk b n 500 1000 (rp_we b n q) ∧ rp_ep b n q = rp_rp b n 500 1000 (rp_we b n q) := by
  refine ⟨?_, ?_, ?_⟩
  · unfold rp_wh
    rw [hw, if_neg (by decide), if_neg (by decide), if_neg (by decide)]
  · unfold rp_ek
    rw [hw, if_pos rfl]
  · unfold rp_ep
    rw [hw, if_pos rfl]
theorem rm_e_fad {b : Nat → Int32} {n q : Int32} (hw : rp_w b n q = [102, 97, 100, 101]) : rp_wh b n q = 0 ∧ rp_ek b n q = rp_rk b n 100 1000000 (rp_we b n q) ∧ rp_ep b n q = rp_rp b n 100 1000000 (rp_we b n q) := by
  refine ⟨?_, ?_, ?_⟩
  · unfold rp_wh
    rw [hw, if_neg (by decide), if_neg (by decide), if_neg (by decide)]
  · unfold rp_ek
    rw [hw, if_neg (by decide), if_pos rfl]
  · unfold rp_ep
    rw [hw, if_neg (by decide), if_pos rfl]
theorem rm_e_hea {b : Nat → Int32} {n q : Int32} (hw : rp_w b n q = [104, 101, 97, 116]) : rp_wh b n q = 0 ∧ rp_ek b n q = rp_dk b n 1 10000 0 (min 100 (rp_rv b n (rp_we b n q))) (rp_we b n q) ∧ rp_ep b n q = rp_dp b n 1 10000 0 (min 100 (rp_rv b n (rp_we b n q))) (rp_we b n q) := by
  refine ⟨?_, ?_, ?_⟩
  · unfold rp_wh
    rw [hw, if_neg (by decide), if_neg (by decide), if_neg (by decide)]
  · unfold rp_ek
    rw [hw, if_neg (by decide), if_neg (by decide), if_pos rfl]
  · unfold rp_ep
    rw [hw, if_neg (by decide), if_neg (by decide), if_pos rfl]
theorem rm_e_lim {b : Nat → Int32} {n q : Int32} (hw : rp_w b n q = [108, 105, 109, 105, 116, 115]) : rp_wh b n q = 0 ∧ rp_ek b n q = rp_3k b n 250 1000 (rp_we b n q) ∧ rp_ep b n q = rp_3p b n 250 1000 (rp_we b n q) := by
  refine ⟨?_, ?_, ?_⟩
  · unfold rp_wh
    rw [hw, if_neg (by decide), if_neg (by decide), if_neg (by decide)]
  · unfold rp_ek
    rw [hw, if_neg (by decide), if_neg (by decide), if_neg (by decide), if_pos rfl]
  · unfold rp_ep
    rw [hw, if_neg (by decide), if_neg (by decide), if_neg (by decide), if_pos rfl]
theorem rm_e_amb {b : Nat → Int32} {n q : Int32} (hw : rp_w b n q = [97, 109, 98, 105, 101, 110, 116]) : rp_wh b n q = 0 ∧ rp_ek b n q = rp_rk b n 0 500 (rp_we b n q) ∧ rp_ep b n q = rp_rp b n 0 500 (rp_we b n q) := by
  refine ⟨?_, ?_, ?_⟩
  · unfold rp_wh
    rw [hw, if_neg (by decide), if_neg (by decide), if_neg (by decide)]
  · unfold rp_ek
    rw [hw, if_neg (by decide), if_neg (by decide), if_neg (by decide), if_neg (by decide), if_pos rfl]
  · unfold rp_ep
    rw [hw, if_neg (by decide), if_neg (by decide), if_neg (by decide), if_neg (by decide), if_pos rfl]
theorem rm_e_war {b : Nat → Int32} {n q : Int32} (hw : rp_w b n q = [119, 97, 114, 110]) : rp_wh b n q = 0 ∧ rp_ek b n q = rp_3k b n 0 1000 (rp_we b n q) ∧ rp_ep b n q = rp_3p b n 0 1000 (rp_we b n q) := by
  refine ⟨?_, ?_, ?_⟩
  · unfold rp_wh
    rw [hw, if_neg (by decide), if_neg (by decide), if_neg (by decide)]
  · unfold rp_ek
    rw [hw, if_neg (by decide), if_neg (by decide), if_neg (by decide), if_neg (by decide), if_neg (by decide), if_pos rfl]
  · unfold rp_ep
    rw [hw, if_neg (by decide), if_neg (by decide), if_neg (by decide), if_neg (by decide), if_neg (by decide), if_pos rfl]
theorem rm_e_der {b : Nat → Int32} {n q : Int32} (hw : rp_w b n q = [100, 101, 114, 97, 116, 101]) : rp_wh b n q = 0 ∧ rp_ek b n q = rp_rk b n 0 200 (rp_we b n q) ∧ rp_ep b n q = rp_rp b n 0 200 (rp_we b n q) := by
  refine ⟨?_, ?_, ?_⟩
  · unfold rp_wh
    rw [hw, if_neg (by decide), if_neg (by decide), if_neg (by decide)]
  · unfold rp_ek
    rw [hw, if_neg (by decide), if_neg (by decide), if_neg (by decide), if_neg (by decide), if_neg (by decide), if_neg (by decide), if_pos rfl]
  · unfold rp_ep
    rw [hw, if_neg (by decide), if_neg (by decide), if_neg (by decide), if_neg (by decide), if_neg (by decide), if_neg (by decide), if_pos rfl]
theorem rm_e_no {b : Nat → Int32} {n q : Int32} (h0 : ¬ rp_w b n q = [101, 102, 102, 105, 99, 105, 101, 110, 99, 121]) (h1 : ¬ rp_w b n q = [102, 97, 100, 101]) (h2 : ¬ rp_w b n q = [104, 101, 97, 116]) (h3 : ¬ rp_w b n q = [108, 105, 109, 105, 116, 115]) (h4 : ¬ rp_w b n q = [97, 109, 98, 105, 101, 110, 116]) (h5 : ¬ rp_w b n q = [119, 97, 114, 110]) (h6 : ¬ rp_w b n q = [100, 101, 114, 97, 116, 101]) : rp_ek b n q = 1 ∧ rp_ep b n q = q := by
  refine ⟨?_, ?_⟩
  · unfold rp_ek
    rw [if_neg h0, if_neg h1, if_neg h2, if_neg h3, if_neg h4, if_neg h5, if_neg h6]
  · unfold rp_ep
    rw [if_neg h0, if_neg h1, if_neg h2, if_neg h3, if_neg h4, if_neg h5, if_neg h6]
set_option maxRecDepth 100000 in
set_option maxHeartbeats 4000000 in
theorem m_X11_readProgram (l : Launch) (D : va_G) (ct : Nat → ClassId) (S : ty_S) (ws : va_W) (ph : va_W → Prop) (xx : Nat → Nat → Nat → Prop) (mo : Nat) (mw : Nat) (ma : Nat) (mf : Nat) (m0 : Nat) (m1 : Nat) (mu : Nat) (mv : Nat) (u0 : Nat) (u1 : Nat) (iz : Nat) (mb : Nat) (th : Int32) (mn : Int32) (mpt : Int32) (mbg : Int32) (mwr : Int32) (mlf : Int32) (men : Int32) (b : Nat → Int32) (g : Nat → Int32) (N : List (List Int32)) (sz : Nat) (hT : ty_V ct S ph ws) (hph : ty_C ph xx) (hy1 : ty_y1 xx) (hmn : 0 ≤ mn.toInt ∧ mn.toInt ≤ 800) (hpt : 0 ≤ mpt.toInt ∧ mpt.toInt ≤ mn.toInt) (hb2 : mpt.toInt ≤ mbg.toInt ∧ mbg.toInt ≤ mn.toInt) (hL : rf_L g) (hN : rm_N N g) : Met l yX11_readProgram (ws_ yX11_readProgram cX11_readProgram 3 (some .boolean)) ({ frames := 6, cells := 0, slots := 0, locals := 133 } : Room) (va_Pc [.ref mo] (cmP D ct sz ([(rf_MO mo mw ma mf m0 m1 mu mv u0 u1 iz th mb mn mpt mbg mwr (0) mlf men), (rf_RW ct 0 mb 800 b), (rf_RW ct 0 mf 958 g)] ++ ws))) (va_Qi (fun (r : Int32) (u : va_W × Int32 × Int32 × Int32 × Int32 × (Nat → Int32)) => match u with | (u9, mpt1, mbg1, mwr1, mwk1, g1) => ty_V ct S ph u9 ∧ ((mpt.toInt ≤ mpt1.toInt ∧ mpt1.toInt ≤ mn.toInt) ∧ 0 ≤ mbg1.toInt ∧ mbg1.toInt ≤ mn.toInt) ∧ ((r = 0 ∧ rm_B b mn (rp_gk b mn (g 10).toInt mbg) (rp_gp b mn (g 10).toInt mbg) mwk1 mwr1) ∨ (r = 1 ∧ (rp_gk b mn (g 10).toInt mbg) = 0 ∧ mwk1 = 0 ∧ rp_sk b mn mpt1 = rp_sk b mn (rp_gp b mn (g 10).toInt mbg) ∧ rf_L g1 ∧ rm_N N g1 ∧ g1 9 = g 9 ∧ (g1 10).toInt = (g 10).toInt + 1 ∧ g1 = rq_prog b mn mbg g))) (cmB D ([(rf_MO mo mw ma mf m0 m1 mu mv u0 u1 iz th mb mn mpt mbg mwr (0) mlf men), (rf_RW ct 0 mb 800 b), (rf_RW ct 0 mf 958 g)] ++ ws) sz (fun (u : va_W × Int32 × Int32 × Int32 × Int32 × (Nat → Int32)) => match u with | (u9, mpt1, mbg1, mwr1, mwk1, g1) => ([(rf_MO mo mw ma mf m0 m1 mu mv u0 u1 iz th mb mn mpt1 mbg1 mwr1 mwk1 mlf men), (rf_RW ct 0 mb 800 b), (rf_RW ct 0 mf 958 g1)] ++ u9))) (va_A ([(rf_MO mo mw ma mf m0 m1 mu mv u0 u1 iz th mb mn mpt mbg mwr (0) mlf men), (rf_RW ct 0 mb 800 b), (rf_RW ct 0 mf 958 g)] ++ ws) sz)) 0 0 (va_A ([(rf_MO mo mw ma mf m0 m1 mu mv u0 u1 iz th mb mn mpt mbg mwr (0) mlf men), (rf_RW ct 0 mb 800 b), (rf_RW ct 0 mf 958 g)] ++ ws) sz) := by
  refine Met.ofW (cc := cX11_readProgram) (maxL := 3) (ret := (some .boolean)) (by decide) rfl ?_
  intro p e s m args below meth c s₁ B hml hv
  obtain ⟨rfl, hsz, hP, hK, hD0, hX⟩ := hv
  have hx := B.exec
  have hb := B.bytes
  have hr := B.returns
  have hts := ws_all (atoms_spec (ws := ws_ yX11_readProgram cX11_readProgram 3 (some .boolean)) B.pre)
  have hown : s.vm.findClass RX11 = some m.cls := findClass_of_methodNamed B.named
  have hlocks := B.notSynchronized
  subst hsz
  have hD := hD0.self (sz := s.heap.size)
  generalize hAe : va_A ([(rf_MO mo mw ma mf m0 m1 mu mv u0 u1 iz th mb mn mpt mbg mwr (0) mlf men), (rf_RW ct 0 mb 800 b), (rf_RW ct 0 mf 958 g)] ++ ws) s.heap.size = A at hD hX ⊢
  have hA : ∀ q : Nat, s.heap.size ≤ q → A q := fun q h => by rw [← hAe]; exact Or.inr h
  have hS : va_S A s.heap s.heap [] := va_S.rf
  have hl := lv_entry ([.ref mo]) (n := 3) (Nat.le_of_ble_eq_true rfl)
  rw [lg_entry_eq]
  generalize (lg_sl ([.ref mo]) ++ List.replicate (3 - (lg_sl ([.ref mo])).length) Slot.unset).toArray = ls at hl ⊢
  have hl : lv_has ls 3 [(0, .ref mo)] := hl
  refine lv_aload_n hx hb dX11_readProgram_0 rfl (lv_at hl 0 rfl) ?_
  refine va_get (v := .ref mf) (D := D) (ci := 11) (C := RX11) (T := TX11) (N := 19) hx hb hts in_X11 hown hK hP 0 rfl rfl 2 (by decide) (hts _ kl_RX11_16) (fun _ h9 => h9) rfl dX11_readProgram_1 ?_
  refine lv_bipush (v := 10) hx hb dX11_readProgram_4 (by decide) ?_
  refine va_iald hx hb hK hP 2 0 rfl rfl (cm_vin (by decide)) dX11_readProgram_6 ?_
  refine cm_cst (y := (g 10)) (by first | rfl | decide +kernel) ?_
  refine lv_iconst (v := 4) hx hb dX11_readProgram_7 (by decide) ?_
  refine lv_icmp_ne (tgt := 17) hx hb dX11_readProgram_8 (by decide) (fun hc_1 => ?_) (fun hc_1 => ?_)
  · refine lv_bipush (v := 96) hx hb dX11_readProgram_17 (by decide) ?_
    refine lv_bipush (v := 37) hx hb dX11_readProgram_19 (by decide) ?_
    refine lv_aload_n hx hb dX11_readProgram_21 rfl (lv_at hl 0 rfl) ?_
    refine va_get (v := .ref mf) (D := D) (ci := 11) (C := RX11) (T := TX11) (N := 19) hx hb hts in_X11 hown hK hP 0 rfl rfl 2 (by decide) (hts _ kl_RX11_16) (fun _ h9 => h9) rfl dX11_readProgram_22 ?_
    refine lv_bipush (v := 10) hx hb dX11_readProgram_25 (by decide) ?_
    refine va_iald hx hb hK hP 2 0 rfl rfl (cm_vin (by decide)) dX11_readProgram_27 ?_
    refine cm_cst (y := (g 10)) (by first | rfl | decide +kernel) ?_
    refine lv_imul hx hb dX11_readProgram_28 ?_
    refine lv_iadd hx hb dX11_readProgram_29 ?_
    refine lv_istore_n (lv' := [(1, .int (96 + (37 * (g 10)))), (0, .ref mo)]) hx hb dX11_readProgram_30 rfl hl (by decide) rfl (fun ls hl => ?_)
    refine lv_aload_n hx hb dX11_readProgram_31 rfl (lv_at hl 1 rfl) ?_
    obtain ⟨hP, hD⟩ := ty_opPD (E1 := [(rf_RW ct 0 mf 958 g)]) (E2 := [(rf_MO mo mw ma mf m0 m1 mu mv u0 u1 iz th mb mn mpt mbg mwr (0) mlf men), (rf_RW ct 0 mb 800 b)]) (n := 3) [2, 0, 1] hP hD rfl rfl (by decide +kernel) ty_mva
    refine ty_Ki hP hD hS hA (va_runV (As := []) (rest := []) ⟨hx, hb, hml, hown, hts⟩ (m_X11_passes l D ct S ws ph xx mo mw ma mf m0 m1 mu mv u0 u1 iz mb th mn mpt mbg mwr (0 : Int32) mlf men b _ hT hph hy1 hmn (by omega)) (cm_V 0 hts kc_X11_passes ki_RX11 kl_RX11_133 kv_X11_passes kx_X11_passes kd_X11_passes ⟨Nat.le_of_ble_eq_true rfl, Nat.le_of_ble_eq_true rfl⟩) (ty_preE (ci := 11) (q0 := 1) hP hK hD hS hA hX rfl rfl) rfl rfl hl.1 rfl (lv_room (Nat.le_of_ble_eq_true rfl)) dX11_readProgram_32 ⟨Nat.le_of_ble_eq_true rfl, Nat.le_of_ble_eq_true rfl⟩) (fun r_2 u H locs hw_3 hP hD hS => ?_)
    obtain ⟨ws_4, rfl⟩ : ∃ z, z = u := ⟨_, rfl⟩
    obtain ⟨hT, rfl⟩ := hw_3
    obtain ⟨hP, hD⟩ := ty_shPD (w2 := ([(rf_RW ct 0 mf 958 g), (rf_MO mo mw ma mf m0 m1 mu mv u0 u1 iz th mb mn (rp_we b mn mbg) mbg mwr (0) mlf men), (rf_RW ct 0 mb 800 b)] ++ ws_4)) hP hD rfl
    have hs_5 := rp_we_b (b := b) (p := mbg) hmn.2 (by omega)
    refine lv_pop hx hb dX11_readProgram_35 rfl ?_
    refine lv_aload_n hx hb dX11_readProgram_36 rfl (lv_at hl 1 rfl) ?_
    obtain ⟨hP, hD⟩ := ty_ipPD (E1 := [(rf_RW ct 0 mf 958 g)]) (E2 := [(rf_MO mo mw ma mf m0 m1 mu mv u0 u1 iz th mb mn (rp_we b mn mbg) mbg mwr (0) mlf men), (rf_RW ct 0 mb 800 b)]) hP hD rfl ty_mva
    refine ty_Ki hP hD hS hA (va_runV (As := []) (rest := []) ⟨hx, hb, hml, hown, hts⟩ (m_X11_see l D ct S ws_4 ph xx mo mw ma mf m0 m1 mu mv u0 u1 iz mb th mn (rp_we b mn mbg) mbg mwr (0 : Int32) mlf men b _ hT hph hy1 hmn (by omega)) (cm_V 0 hts kc_X11_see ki_RX11 kl_RX11_106 kv_X11_see kx_X11_see kd_X11_see ⟨Nat.le_of_ble_eq_true rfl, Nat.le_of_ble_eq_true rfl⟩) (ty_preE (ci := 11) (q0 := 1) hP hK hD hS hA hX rfl rfl) rfl rfl hl.1 rfl (lv_room (Nat.le_of_ble_eq_true rfl)) dX11_readProgram_37 ⟨Nat.le_of_ble_eq_true rfl, Nat.le_of_ble_eq_true rfl⟩) (fun r_6 u H locs hw_7 hP hD hS => ?_)
    obtain ⟨ws_8, rfl⟩ : ∃ z, z = u := ⟨_, rfl⟩
    obtain ⟨hT, rfl⟩ := hw_7
    obtain ⟨hP, hD⟩ := ty_shPD (w2 := ([(rf_RW ct 0 mf 958 g), (rf_MO mo mw ma mf m0 m1 mu mv u0 u1 iz th mb mn (rp_sk b mn (rp_we b mn mbg)) (rp_sk b mn (rp_we b mn mbg)) mwr (0) mlf men), (rf_RW ct 0 mb 800 b)] ++ ws_8)) hP hD rfl
    have hs_9 := rp_sk_b (b := b) (p := (rp_we b mn mbg)) hmn.2 (by omega)
    refine lv_pop hx hb dX11_readProgram_40 rfl ?_
    refine lv_aload_n hx hb dX11_readProgram_41 rfl (lv_at hl 1 rfl) ?_
    refine lv_aload_n hx hb dX11_readProgram_42 rfl (lv_at hl 1 rfl) ?_
    refine va_get (v := .int (rp_sk b mn (rp_we b mn mbg))) (D := D) (ci := 11) (C := RX11) (T := TX11) (N := 19) hx hb hts in_X11 hown hK hP 1 rfl rfl 14 (by decide) (hts _ kl_RX11_81) (fun _ h9 => h9) rfl dX11_readProgram_43 ?_
    obtain ⟨hP, hD⟩ := ty_ipPD (E1 := [(rf_RW ct 0 mf 958 g)]) (E2 := [(rf_MO mo mw ma mf m0 m1 mu mv u0 u1 iz th mb mn (rp_sk b mn (rp_we b mn mbg)) (rp_sk b mn (rp_we b mn mbg)) mwr (0) mlf men), (rf_RW ct 0 mb 800 b)]) hP hD rfl ty_mva
    refine ty_Ki hP hD hS hA (va_runV (As := [.int (rp_sk b mn (rp_we b mn mbg))]) (rest := []) ⟨hx, hb, hml, hown, hts⟩ (m_X11_isLetter l D ct S ws_8 ph xx mo mw ma mf m0 m1 mu mv u0 u1 iz mb th mn (rp_sk b mn (rp_we b mn mbg)) (rp_sk b mn (rp_we b mn mbg)) mwr (0 : Int32) mlf men b (rp_sk b mn (rp_we b mn mbg)) _ hT hph hy1 hmn (by omega)) (cm_V 1 hts kc_X11_isLetter ki_RX11 kl_RX11_90 kv_X11_isLetter kx_X11_isLetter kd_X11_isLetter ⟨Nat.le_of_ble_eq_true rfl, Nat.le_of_ble_eq_true rfl⟩) (ty_preE (ci := 11) (q0 := 1) hP hK hD hS hA hX rfl rfl) rfl rfl hl.1 rfl (lv_room (Nat.le_of_ble_eq_true rfl)) dX11_readProgram_46 ⟨Nat.le_of_ble_eq_true rfl, Nat.le_of_ble_eq_true rfl⟩) (fun r_10 u H locs hw_11 hP hD hS => ?_)
    obtain ⟨ws_12, rfl⟩ : ∃ z, z = u := ⟨_, rfl⟩
    obtain ⟨hT, rfl⟩ := hw_11
    obtain ⟨hP, hD⟩ := ty_shPD (w2 := ([(rf_RW ct 0 mf 958 g), (rf_MO mo mw ma mf m0 m1 mu mv u0 u1 iz th mb mn (rp_sk b mn (rp_we b mn mbg)) (rp_sk b mn (rp_we b mn mbg)) mwr (0) mlf men), (rf_RW ct 0 mb 800 b)] ++ ws_12)) hP hD rfl
    refine lv_if_ne (tgt := 58) hx hb dX11_readProgram_49 (by decide) (fun hc_13 => ?_) (fun hc_13 => ?_)
    · refine lv_iconst (v := 0) hx hb dX11_readProgram_58 (by decide) ?_
      refine lv_istore_n (lv' := [(2, .int 0), (1, .int (96 + (37 * (g 10)))), (0, .ref mo)]) hx hb dX11_readProgram_59 rfl hl (by decide) rfl (fun ls hl => ?_)
      refine lv_aload_n hx hb dX11_readProgram_60 rfl (lv_at hl 2 rfl) ?_
      refine lv_aload_n hx hb dX11_readProgram_61 rfl (lv_at hl 2 rfl) ?_
      refine va_get (v := .int (rp_sk b mn (rp_we b mn mbg))) (D := D) (ci := 11) (C := RX11) (T := TX11) (N := 19) hx hb hts in_X11 hown hK hP 1 rfl rfl 14 (by decide) (hts _ kl_RX11_81) (fun _ h9 => h9) rfl dX11_readProgram_62 ?_
      obtain ⟨hP, hD⟩ := ty_ipPD (E1 := [(rf_RW ct 0 mf 958 g)]) (E2 := [(rf_MO mo mw ma mf m0 m1 mu mv u0 u1 iz th mb mn (rp_sk b mn (rp_we b mn mbg)) (rp_sk b mn (rp_we b mn mbg)) mwr (0) mlf men), (rf_RW ct 0 mb 800 b)]) hP hD rfl ty_mva
      refine ty_Ki hP hD hS hA (va_runV (As := [.int (rp_sk b mn (rp_we b mn mbg))]) (rest := []) ⟨hx, hb, hml, hown, hts⟩ (m_X11_isLetter l D ct S ws_12 ph xx mo mw ma mf m0 m1 mu mv u0 u1 iz mb th mn (rp_sk b mn (rp_we b mn mbg)) (rp_sk b mn (rp_we b mn mbg)) mwr (0 : Int32) mlf men b (rp_sk b mn (rp_we b mn mbg)) _ hT hph hy1 hmn (by omega)) (cm_V 1 hts kc_X11_isLetter ki_RX11 kl_RX11_90 kv_X11_isLetter kx_X11_isLetter kd_X11_isLetter ⟨Nat.le_of_ble_eq_true rfl, Nat.le_of_ble_eq_true rfl⟩) (ty_preE (ci := 11) (q0 := 1) hP hK hD hS hA hX rfl rfl) rfl rfl hl.1 rfl (lv_room (Nat.le_of_ble_eq_true rfl)) dX11_readProgram_65 ⟨Nat.le_of_ble_eq_true rfl, Nat.le_of_ble_eq_true rfl⟩) (fun r_14 u H locs hw_15 hP hD hS => ?_)
      obtain ⟨ws_16, rfl⟩ : ∃ z, z = u := ⟨_, rfl⟩
      obtain ⟨hT, rfl⟩ := hw_15
      obtain ⟨hP, hD⟩ := ty_shPD (w2 := ([(rf_RW ct 0 mf 958 g), (rf_MO mo mw ma mf m0 m1 mu mv u0 u1 iz th mb mn (rp_sk b mn (rp_we b mn mbg)) (rp_sk b mn (rp_we b mn mbg)) mwr (0) mlf men), (rf_RW ct 0 mb 800 b)] ++ ws_16)) hP hD rfl
      refine lv_if_eq (tgt := 99) hx hb dX11_readProgram_68 (by decide) (fun hc_17 => ?_) (fun hc_17 => ?_)
      · exact absurd hc_17 hc_13
      · refine lv_aload_n hx hb dX11_readProgram_71 rfl (lv_at hl 2 rfl) ?_
        refine lv_iload_n hx hb dX11_readProgram_72 rfl (lv_at hl 1 rfl) ?_
        refine lv_iconst (v := 1) hx hb dX11_readProgram_73 (by decide) ?_
        refine lv_iadd hx hb dX11_readProgram_74 ?_
        refine lv_iconst (v := 3) hx hb dX11_readProgram_75 (by decide) ?_
        refine lv_iload_n hx hb dX11_readProgram_76 rfl (lv_at hl 0 rfl) ?_
        refine lv_imul hx hb dX11_readProgram_77 ?_
        refine cm_cst (y := 0) (by decide) ?_
        refine lv_iadd hx hb dX11_readProgram_78 ?_
        refine lv_iload_n hx hb dX11_readProgram_79 rfl (lv_at hl 0 rfl) ?_
        obtain ⟨hP, hD⟩ := ty_opPD (E1 := []) (E2 := [(rf_MO mo mw ma mf m0 m1 mu mv u0 u1 iz th mb mn (rp_sk b mn (rp_we b mn mbg)) (rp_sk b mn (rp_we b mn mbg)) mwr (0) mlf men), (rf_RW ct 0 mb 800 b), (rf_RW ct 0 mf 958 g)]) (n := 3) [1, 2, 0] hP hD rfl rfl (by decide +kernel) ty_mva
        refine ty_Ki hP hD hS hA (va_runV (As := [.int (((96 + (37 * (g 10))) + 1) + 0), .int 0]) (rest := []) ⟨hx, hb, hml, hown, hts⟩ (m_X11_readStep l D ct S ws_16 ph xx mo mw ma mf m0 m1 mu mv u0 u1 iz mb th mn (rp_sk b mn (rp_we b mn mbg)) (rp_sk b mn (rp_we b mn mbg)) mwr mlf men b (((96 + (37 * (g 10))) + 1) + 0) (0 : Int32) g _ hT hph hy1 hmn (by omega) (by omega) (rf_pq0 hL).1 (by have e10 := congrArg Int32.toInt (rf_pq0 hL).2.1; have := rf_n4b (rf_Ls hL).2.1 hc_1; omega) (by have e10 := congrArg Int32.toInt (rf_pq0 hL).2.1; have := (rf_Ls hL).2.1; have := rf_n4b (rf_Ls hL).2.1 hc_1; have e40 := rf_mk9 (a := 96) (b := 37) (k := (g 10)) (A := 96) (B := 37) (by decide) (by decide) (by omega) (by omega) (by omega); have e41 := rf_pk (x := (96 + (37 * (g 10)))) (k := 1) (K := 1) (by decide) (by omega) (by omega); have z0 : (0 : Int32).toInt = 0 := (by decide); have e42 := rf_pk (x := ((96 + (37 * (g 10))) + 1)) (k := 0) (K := 0) (by decide) (by omega) (by omega); omega) (by decide)) (cm_V 2 hts kc_X11_readStep ki_RX11 kl_RX11_158 kv_X11_readStep kx_X11_readStep kd_X11_readStep ⟨Nat.le_of_ble_eq_true rfl, Nat.le_of_ble_eq_true rfl⟩) (ty_preE (ci := 11) (q0 := 0) hP hK hD hS hA hX rfl rfl) rfl rfl hl.1 rfl (lv_room (Nat.le_of_ble_eq_true rfl)) dX11_readProgram_80 ⟨Nat.le_of_ble_eq_true rfl, Nat.le_of_ble_eq_true rfl⟩) (fun r_18 u H locs hw_19 hP hD hS => ?_)
        obtain ⟨ws_20, mpt1_21, mbg1_22, mwr1_23, mwk1_24, g1_25⟩ := u
        obtain ⟨hT, hp_26⟩ := hw_19
        have hp_26 : (((rp_sk b mn (rp_we b mn mbg)).toInt ≤ mpt1_21.toInt ∧ mpt1_21.toInt ≤ mn.toInt) ∧ 0 ≤ mbg1_22.toInt ∧ mbg1_22.toInt ≤ mn.toInt) ∧ ((r_18 = 0 ∧ (((0 : Int32) = 12 ∧ mwk1_24 = 1 ∧ mwr1_23 = (rp_sk b mn (rp_we b mn mbg))) ∨ (¬ (0 : Int32) = 12 ∧ rm_f (rp_stk b mn (0 : Int32).toInt (rp_sk b mn (rp_we b mn mbg))) (rp_stp b mn (0 : Int32).toInt (rp_sk b mn (rp_we b mn mbg))) mwk1_24 mwr1_23))) ∨ (r_18 = 1 ∧ (rp_stk b mn (0 : Int32).toInt (rp_sk b mn (rp_we b mn mbg))) = 0 ∧ mwk1_24 = 0 ∧ mpt1_21 = (rp_stp b mn (0 : Int32).toInt (rp_sk b mn (rp_we b mn mbg))) ∧ (0 : Int32).toInt ≤ 11 ∧ rf_sp g g1_25 (((96 + (37 * (g 10))) + 1) + 0).toInt.toNat (0 : Int32) ∧ g1_25 = rq_step b mn (0 : Int32).toInt (rp_sk b mn (rp_we b mn mbg)) (((96 + (37 * (g 10))) + 1) + 0).toInt.toNat g)) := hp_26
        obtain ⟨hP, hD⟩ := ty_shPD (w2 := ([(rf_MO mo mw ma mf m0 m1 mu mv u0 u1 iz th mb mn mpt1_21 mbg1_22 mwr1_23 mwk1_24 mlf men), (rf_RW ct 0 mb 800 b), (rf_RW ct 0 mf 958 g1_25)] ++ ws_20)) hP hD rfl
        obtain ⟨hb_27, hc_28⟩ := hp_26
        rcases hc_28 with ⟨rfl, hz_29⟩ | ⟨rfl, hz_30⟩
        · refine lv_if_ne (tgt := 88) hx hb dX11_readProgram_83 (by decide) (fun hc => absurd (by decide) hc) (fun _ => ?_)
          refine lv_iconst (v := 0) hx hb dX11_readProgram_86 (by decide) ?_
          exact W.zret (v := 0) hx hb hr (by decide) (fun t ht hW => ⟨⟨0, (ws_20, mpt1_21, mbg1_22, mwr1_23, mwk1_24, g1_25), rfl, ⟨hT, ⟨by omega, Or.inl ⟨rfl, (hz_29.elim (fun z => absurd z.1 (by decide)) (fun z => rm_fB (rm_gjf (rm_gj0 (fun z => by have := rf_n4b (rf_Ls hL).2.1 hc_1; omega) (by omega)) (by decide) (rm_let hc_17) z.2)))⟩⟩⟩, by rw [ht]; exact hP, by rw [hAe]; exact hD⟩, hS.F ht⟩) hS.2.2 dX11_readProgram_87
        · obtain ⟨hq_31, hq_32, hq_33, hq_34, hq_35, hq_36⟩ := hz_30
          subst hq_32
          subst hq_33
          have hb_37 := rp_stb (b := b) (q := (rp_sk b mn (rp_we b mn mbg))) (m := (0 : Int32).toInt) hmn.2 (by omega)
          refine lv_if_ne (tgt := 88) hx hb dX11_readProgram_83 (by decide) (fun _ => ?_) (fun hc => absurd hc (by decide))
          refine lv_iinc (v := 1) (lv' := [(2, .int 1), (1, .int (96 + (37 * (g 10)))), (0, .ref mo)]) hx hb dX11_readProgram_88 hl (k := 0) rfl (by decide) (by decide) rfl (fun ls hl => ?_)
          refine lv_aload_n hx hb dX11_readProgram_91 rfl (lv_at hl 2 rfl) ?_
          obtain ⟨hP, hD⟩ := ty_opPD (E1 := [(rf_RW ct 0 mf 958 g1_25)]) (E2 := [(rf_MO mo mw ma mf m0 m1 mu mv u0 u1 iz th mb mn (rp_stp b mn (0 : Int32).toInt (rp_sk b mn (rp_we b mn mbg))) mbg1_22 mwr1_23 (0) mlf men), (rf_RW ct 0 mb 800 b)]) (n := 3) [2, 0, 1] hP hD rfl rfl (by decide +kernel) ty_mva
          refine ty_Ki hP hD hS hA (va_runV (As := []) (rest := []) ⟨hx, hb, hml, hown, hts⟩ (m_X11_see l D ct S ws_20 ph xx mo mw ma mf m0 m1 mu mv u0 u1 iz mb th mn (rp_stp b mn (0 : Int32).toInt (rp_sk b mn (rp_we b mn mbg))) mbg1_22 mwr1_23 (0 : Int32) mlf men b _ hT hph hy1 hmn (by omega)) (cm_V 0 hts kc_X11_see ki_RX11 kl_RX11_106 kv_X11_see kx_X11_see kd_X11_see ⟨Nat.le_of_ble_eq_true rfl, Nat.le_of_ble_eq_true rfl⟩) (ty_preE (ci := 11) (q0 := 1) hP hK hD hS hA hX rfl rfl) rfl rfl hl.1 rfl (lv_room (Nat.le_of_ble_eq_true rfl)) dX11_readProgram_92 ⟨Nat.le_of_ble_eq_true rfl, Nat.le_of_ble_eq_true rfl⟩) (fun r_38 u H locs hw_39 hP hD hS => ?_)
          obtain ⟨ws_40, rfl⟩ : ∃ z, z = u := ⟨_, rfl⟩
          obtain ⟨hT, rfl⟩ := hw_39
          obtain ⟨hP, hD⟩ := ty_shPD (w2 := ([(rf_RW ct 0 mf 958 g1_25), (rf_MO mo mw ma mf m0 m1 mu mv u0 u1 iz th mb mn (rp_sk b mn (rp_stp b mn (0 : Int32).toInt (rp_sk b mn (rp_we b mn mbg)))) (rp_sk b mn (rp_stp b mn (0 : Int32).toInt (rp_sk b mn (rp_we b mn mbg)))) mwr1_23 (0) mlf men), (rf_RW ct 0 mb 800 b)] ++ ws_40)) hP hD rfl
          have hs_41 := rp_sk_b (b := b) (p := (rp_stp b mn (0 : Int32).toInt (rp_sk b mn (rp_we b mn mbg)))) hmn.2 (by omega)
          refine lv_pop hx hb dX11_readProgram_95 rfl ?_
          refine lv_goto (tgt := 60) hx hb dX11_readProgram_96 (by decide) ?_
          refine ty_loop (I := fun μ H locs ls => ∃ (ws : va_W) (y_42 : Int32) (y_43 : Int32) (y_44 : Int32) (y_45 : Int32) (g_46 : Nat → Int32), μ = (13 - y_42.toInt).toNat ∧ ty_V ct S ph ws ∧ va_P D vwCl ([(rf_RW ct 0 mf 958 g_46), (rf_MO mo mw ma mf m0 m1 mu mv u0 u1 iz th mb mn y_43 y_44 y_45 (0) mlf men), (rf_RW ct 0 mb 800 b)] ++ ws) H ∧ va_D A ([(rf_RW ct 0 mf 958 g_46), (rf_MO mo mw ma mf m0 m1 mu mv u0 u1 iz th mb mn y_43 y_44 y_45 (0) mlf men), (rf_RW ct 0 mb 800 b)] ++ ws) ∧ va_S A s.heap H locs ∧ lv_has ls 3 [(0, .ref mo), (1, .int (96 + (37 * (g 10)))), (2, .int y_42)] ∧ (1 ≤ y_42.toInt ∧ y_42.toInt ≤ 12) ∧ ((mpt.toInt ≤ y_43.toInt ∧ y_43.toInt ≤ mn.toInt) ∧ y_43 = y_44) ∧ rf_pq g g_46 y_42 ∧ rm_N N g_46 ∧ g_46 9 = g 9 ∧ rm_gJ b mn (g 10).toInt mbg y_42 y_44 ∧ rq_gJ b mn (97 + 37 * (g 10).toInt.toNat) (rp_we b mn mbg) g y_42 y_44 g_46) ⟨_, ws_40, (1 : Int32), (rp_sk b mn (rp_stp b mn (0 : Int32).toInt (rp_sk b mn (rp_we b mn mbg)))), (rp_sk b mn (rp_stp b mn (0 : Int32).toInt (rp_sk b mn (rp_we b mn mbg)))), mwr1_23, g1_25, rfl, hT, hP, hD, hS, (lv_sub hl [2, 1, 0] rfl), (by have := hq_34; have z0 : (0 : Int32).toInt = 0 := (by decide); have z1 : (1 : Int32).toInt = 1 := (by decide); omega), ⟨(by omega), rfl⟩, (rf_pqn (x := (((96 + (37 * (g 10))) + 1) + 0)) (rf_pq0 hL) (by decide) ⟨(rf_Ls hL).2.1.1, rf_n4b (rf_Ls hL).2.1 hc_1⟩ (by have := (rf_Ls hL).2.1; have := rf_n4b (rf_Ls hL).2.1 hc_1; have e40 := rf_mk9 (a := 96) (b := 37) (k := (g 10)) (A := 96) (B := 37) (by decide) (by decide) (by omega) (by omega) (by omega); have e41 := rf_pk (x := (96 + (37 * (g 10)))) (k := 1) (K := 1) (by decide) (by omega) (by omega); have z0 : (0 : Int32).toInt = 0 := (by decide); have e42 := rf_pk (x := ((96 + (37 * (g 10))) + 1)) (k := 0) (K := 0) (by decide) (by omega) (by omega); omega) hq_35), (rm_pgN hN (rm_NL hN hL) (by have := (rf_Ls hL).2.1; have := rf_n4b (rf_Ls hL).2.1 hc_1; have e40 := rf_mk9 (a := 96) (b := 37) (k := (g 10)) (A := 96) (B := 37) (by decide) (by decide) (by omega) (by omega) (by omega); have e41 := rf_pk (x := (96 + (37 * (g 10)))) (k := 1) (K := 1) (by decide) (by omega) (by omega); have z0 : (0 : Int32).toInt = 0 := (by decide); have e42 := rf_pk (x := ((96 + (37 * (g 10))) + 1)) (k := 0) (K := 0) (by decide) (by omega) (by omega); omega) hq_35 (rfl : g 9 = g 9)).1, (rm_pgN hN (rm_NL hN hL) (by have := (rf_Ls hL).2.1; have := rf_n4b (rf_Ls hL).2.1 hc_1; have e40 := rf_mk9 (a := 96) (b := 37) (k := (g 10)) (A := 96) (B := 37) (by decide) (by decide) (by omega) (by omega) (by omega); have e41 := rf_pk (x := (96 + (37 * (g 10)))) (k := 1) (K := 1) (by decide) (by omega) (by omega); have z0 : (0 : Int32).toInt = 0 := (by decide); have e42 := rf_pk (x := ((96 + (37 * (g 10))) + 1)) (k := 0) (K := 0) (by decide) (by omega) (by omega); omega) hq_35 (rfl : g 9 = g 9)).2, (rm_gjsP (rm_gj0 (fun z => by have := rf_n4b (rf_Ls hL).2.1 hc_1; omega) (by omega)) (rm_let hc_17) hmn.2 hq_31), (rq_gs rq_gJ0 (by decide) (rm_let hc_17) (by have := (rf_Ls hL).2.1; have := rf_n4b (rf_Ls hL).2.1 hc_1; have e40 := rf_mk9 (a := 96) (b := 37) (k := (g 10)) (A := 96) (B := 37) (by decide) (by decide) (by omega) (by omega) (by omega); have e41 := rf_pk (x := (96 + (37 * (g 10)))) (k := 1) (K := 1) (by decide) (by omega) (by omega); have z0 : (0 : Int32).toInt = 0 := (by decide); have e42 := rf_pk (x := ((96 + (37 * (g 10))) + 1)) (k := 0) (K := 0) (by decide) (by omega) (by omega); omega) hq_36)⟩ (fun μ H locs ls hI ih_60 => ?_)
          obtain ⟨ws, y_42, y_43, y_44, y_45, g_46, rfl, hT, hP, hD, hS, hl, hex_60⟩ := hI
          refine lv_aload_n hx hb dX11_readProgram_60 rfl (lv_at hl 0 rfl) ?_
          have eyb := congrArg Int32.toInt hex_60.2.1.2
          refine lv_aload_n hx hb dX11_readProgram_61 rfl (lv_at hl 0 rfl) ?_
          refine va_get (v := .int y_44) (D := D) (ci := 11) (C := RX11) (T := TX11) (N := 19) hx hb hts in_X11 hown hK hP 1 rfl rfl 14 (by decide) (hts _ kl_RX11_81) (fun _ h9 => h9) rfl dX11_readProgram_62 ?_
          obtain ⟨hP, hD⟩ := ty_ipPD (E1 := [(rf_RW ct 0 mf 958 g_46)]) (E2 := [(rf_MO mo mw ma mf m0 m1 mu mv u0 u1 iz th mb mn y_43 y_44 y_45 (0) mlf men), (rf_RW ct 0 mb 800 b)]) hP hD rfl ty_mva
          refine ty_Ki hP hD hS hA (va_runV (As := [.int y_44]) (rest := []) ⟨hx, hb, hml, hown, hts⟩ (m_X11_isLetter l D ct S ws ph xx mo mw ma mf m0 m1 mu mv u0 u1 iz mb th mn y_43 y_44 y_45 (0 : Int32) mlf men b y_44 _ hT hph hy1 hmn (by omega)) (cm_V 1 hts kc_X11_isLetter ki_RX11 kl_RX11_90 kv_X11_isLetter kx_X11_isLetter kd_X11_isLetter ⟨Nat.le_of_ble_eq_true rfl, Nat.le_of_ble_eq_true rfl⟩) (ty_preE (ci := 11) (q0 := 1) hP hK hD hS hA hX rfl rfl) rfl rfl hl.1 rfl (lv_room (Nat.le_of_ble_eq_true rfl)) dX11_readProgram_65 ⟨Nat.le_of_ble_eq_true rfl, Nat.le_of_ble_eq_true rfl⟩) (fun r_47 u H locs hw_48 hP hD hS => ?_)
          obtain ⟨ws_49, rfl⟩ : ∃ z, z = u := ⟨_, rfl⟩
          obtain ⟨hT, rfl⟩ := hw_48
          obtain ⟨hP, hD⟩ := ty_shPD (w2 := ([(rf_RW ct 0 mf 958 g_46), (rf_MO mo mw ma mf m0 m1 mu mv u0 u1 iz th mb mn y_43 y_44 y_45 (0) mlf men), (rf_RW ct 0 mb 800 b)] ++ ws_49)) hP hD rfl
          refine lv_if_eq (tgt := 99) hx hb dX11_readProgram_68 (by decide) (fun hc_50 => ?_) (fun hc_50 => ?_)
          · refine lv_aload_n hx hb dX11_readProgram_99 rfl (lv_at hl 0 rfl) ?_
            refine va_get (v := .ref mf) (D := D) (ci := 11) (C := RX11) (T := TX11) (N := 19) hx hb hts in_X11 hown hK hP 1 rfl rfl 2 (by decide) (hts _ kl_RX11_16) (fun _ h9 => h9) rfl dX11_readProgram_100 ?_
            refine lv_iload_n hx hb dX11_readProgram_103 rfl (lv_at hl 1 rfl) ?_
            refine lv_iload_n hx hb dX11_readProgram_104 rfl (lv_at hl 2 rfl) ?_
            refine va_iast hx hb hK hP hD hS 0 0 rfl rfl (rf_vin (by have := (rf_Ls hL).2.1; have := rf_n4b (rf_Ls hL).2.1 hc_1; have e40 := rf_mk9 (a := 96) (b := 37) (k := (g 10)) (A := 96) (B := 37) (by decide) (by decide) (by omega) (by omega) (by omega); omega)) dX11_readProgram_105 (fun H locs hP hD hS => ?_)
            have hP : va_P D vwCl ([(rf_RW ct 0 mf 958 (upd g_46 (96 + (37 * (g 10))).toNatClampNeg y_42)), (rf_MO mo mw ma mf m0 m1 mu mv u0 u1 iz th mb mn y_43 y_44 y_45 (0) mlf men), (rf_RW ct 0 mb 800 b)] ++ ws_49) H := hP
            have hD : va_D A ([(rf_RW ct 0 mf 958 (upd g_46 (96 + (37 * (g 10))).toNatClampNeg y_42)), (rf_MO mo mw ma mf m0 m1 mu mv u0 u1 iz th mb mn y_43 y_44 y_45 (0) mlf men), (rf_RW ct 0 mb 800 b)] ++ ws_49) := hD
            refine lv_aload_n hx hb dX11_readProgram_106 rfl (lv_at hl 0 rfl) ?_
            refine va_get (v := .ref mf) (D := D) (ci := 11) (C := RX11) (T := TX11) (N := 19) hx hb hts in_X11 hown hK hP 1 rfl rfl 2 (by decide) (hts _ kl_RX11_16) (fun _ h9 => h9) rfl dX11_readProgram_107 ?_
            refine lv_bipush (v := 10) hx hb dX11_readProgram_110 (by decide) ?_
            refine lv_dup2_11 hx hb dX11_readProgram_112 rfl rfl ?_
            refine va_iald hx hb hK hP 0 0 rfl rfl (cm_vin (by decide)) dX11_readProgram_113 ?_
            refine cm_cst (y := ((upd g_46 (96 + (37 * (g 10))).toNatClampNeg y_42) 10)) (by first | rfl | decide +kernel) ?_
            refine lv_iconst (v := 1) hx hb dX11_readProgram_114 (by decide) ?_
            refine lv_iadd hx hb dX11_readProgram_115 ?_
            refine va_iast hx hb hK hP hD hS 0 0 rfl rfl (cm_vin (by decide)) dX11_readProgram_116 (fun H locs hP hD hS => ?_)
            have hP : va_P D vwCl ([(rf_RW ct 0 mf 958 (upd (upd g_46 (96 + (37 * (g 10))).toNatClampNeg y_42) (10 : Int32).toNatClampNeg (((upd g_46 (96 + (37 * (g 10))).toNatClampNeg y_42) 10) + 1))), (rf_MO mo mw ma mf m0 m1 mu mv u0 u1 iz th mb mn y_43 y_44 y_45 (0) mlf men), (rf_RW ct 0 mb 800 b)] ++ ws_49) H := hP
            have hD : va_D A ([(rf_RW ct 0 mf 958 (upd (upd g_46 (96 + (37 * (g 10))).toNatClampNeg y_42) (10 : Int32).toNatClampNeg (((upd g_46 (96 + (37 * (g 10))).toNatClampNeg y_42) 10) + 1))), (rf_MO mo mw ma mf m0 m1 mu mv u0 u1 iz th mb mn y_43 y_44 y_45 (0) mlf men), (rf_RW ct 0 mb 800 b)] ++ ws_49) := hD
            refine lv_iconst (v := 1) hx hb dX11_readProgram_117 (by decide) ?_
            obtain ⟨hP, hD⟩ := ty_ordPD (E2 := [(rf_MO mo mw ma mf m0 m1 mu mv u0 u1 iz th mb mn y_43 y_44 y_45 (0) mlf men), (rf_RW ct 0 mb 800 b), (rf_RW ct 0 mf 958 (upd (upd g_46 (96 + (37 * (g 10))).toNatClampNeg y_42) (10 : Int32).toNatClampNeg (((upd g_46 (96 + (37 * (g 10))).toNatClampNeg y_42) 10) + 1)))]) (n := 3) [1, 2, 0] hP hD rfl rfl (by decide +kernel)
            exact W.zret (v := 1) hx hb hr (by decide) (fun t ht hW => ⟨⟨1, (ws_49, y_43, y_44, y_45, (0 : Int32), (upd (upd g_46 (96 + (37 * (g 10))).toNatClampNeg y_42) (10 : Int32).toNatClampNeg (((upd g_46 (96 + (37 * (g 10))).toNatClampNeg y_42) 10) + 1))), rfl, ⟨hT, ⟨by omega, Or.inr ⟨rfl, (rm_gje hex_60.2.2.2.2.2.1 hex_60.1 (rm_letN hc_50) hmn.2).1, rfl, (by rw [hex_60.2.1.2]; exact (rm_gje hex_60.2.2.2.2.2.1 hex_60.1 (rm_letN hc_50) hmn.2).2), rf_Lpg hex_60.2.2.1 hex_60.1 ⟨(rf_Ls hL).2.1.1, rf_n4b (rf_Ls hL).2.1 hc_1⟩ (by have := (rf_Ls hL).2.1; have := rf_n4b (rf_Ls hL).2.1 hc_1; have e40 := rf_mk9 (a := 96) (b := 37) (k := (g 10)) (A := 96) (B := 37) (by decide) (by decide) (by omega) (by omega) (by omega); omega), (rm_pgO hex_60.2.2.2.1 (rm_NL hN hL) (by have := (rf_Ls hL).2.1; have := rf_n4b (rf_Ls hL).2.1 hc_1; have e40 := rf_mk9 (a := 96) (b := 37) (k := (g 10)) (A := 96) (B := 37) (by decide) (by decide) (by omega) (by omega) (by omega); omega) hex_60.2.2.2.2.1 hex_60.2.2.1.2.1 (rf_Ls hL).2.1).1, (rm_pgO hex_60.2.2.2.1 (rm_NL hN hL) (by have := (rf_Ls hL).2.1; have := rf_n4b (rf_Ls hL).2.1 hc_1; have e40 := rf_mk9 (a := 96) (b := 37) (k := (g 10)) (A := 96) (B := 37) (by decide) (by decide) (by omega) (by omega) (by omega); omega) hex_60.2.2.2.2.1 hex_60.2.2.1.2.1 (rf_Ls hL).2.1).2.1, (rm_pgO hex_60.2.2.2.1 (rm_NL hN hL) (by have := (rf_Ls hL).2.1; have := rf_n4b (rf_Ls hL).2.1 hc_1; have e40 := rf_mk9 (a := 96) (b := 37) (k := (g 10)) (A := 96) (B := 37) (by decide) (by decide) (by omega) (by omega) (by omega); omega) hex_60.2.2.2.2.1 hex_60.2.2.1.2.1 (rf_Ls hL).2.1).2.2, (by have v9 := rq_ge hex_60.2.2.2.2.2.2 (by have := hex_60.1; omega) (rm_letN hc_50); exact rq_cntE (by have := (rf_Ls hL).2.1; have := rf_n4b (rf_Ls hL).2.1 hc_1; have e40 := rf_mk9 (a := 96) (b := 37) (k := (g 10)) (A := 96) (B := 37) (by decide) (by decide) (by omega) (by omega) (by omega); omega) v9.2 (by decide) v9.1.symm)⟩⟩⟩, by rw [ht]; exact hP, by rw [hAe]; exact hD⟩, hS.F ht⟩) hS.2.2 dX11_readProgram_118
          · refine lv_aload_n hx hb dX11_readProgram_71 rfl (lv_at hl 0 rfl) ?_
            refine lv_iload_n hx hb dX11_readProgram_72 rfl (lv_at hl 1 rfl) ?_
            refine lv_iconst (v := 1) hx hb dX11_readProgram_73 (by decide) ?_
            refine lv_iadd hx hb dX11_readProgram_74 ?_
            refine lv_iconst (v := 3) hx hb dX11_readProgram_75 (by decide) ?_
            refine lv_iload_n hx hb dX11_readProgram_76 rfl (lv_at hl 2 rfl) ?_
            refine lv_imul hx hb dX11_readProgram_77 ?_
            refine lv_iadd hx hb dX11_readProgram_78 ?_
            refine lv_iload_n hx hb dX11_readProgram_79 rfl (lv_at hl 2 rfl) ?_
            obtain ⟨hP, hD⟩ := ty_opPD (E1 := []) (E2 := [(rf_MO mo mw ma mf m0 m1 mu mv u0 u1 iz th mb mn y_43 y_44 y_45 (0) mlf men), (rf_RW ct 0 mb 800 b), (rf_RW ct 0 mf 958 g_46)]) (n := 3) [1, 2, 0] hP hD rfl rfl (by decide +kernel) ty_mva
            refine ty_Ki hP hD hS hA (va_runV (As := [.int (((96 + (37 * (g 10))) + 1) + (3 * y_42)), .int y_42]) (rest := []) ⟨hx, hb, hml, hown, hts⟩ (m_X11_readStep l D ct S ws_49 ph xx mo mw ma mf m0 m1 mu mv u0 u1 iz mb th mn y_43 y_44 y_45 mlf men b (((96 + (37 * (g 10))) + 1) + (3 * y_42)) y_42 g_46 _ hT hph hy1 hmn (by omega) (by omega) hex_60.2.2.1.1 (by have e10 := congrArg Int32.toInt hex_60.2.2.1.2.1; have := rf_n4b (rf_Ls hL).2.1 hc_1; omega) (by have e10 := congrArg Int32.toInt hex_60.2.2.1.2.1; have := (rf_Ls hL).2.1; have := rf_n4b (rf_Ls hL).2.1 hc_1; have e40 := rf_mk9 (a := 96) (b := 37) (k := (g 10)) (A := 96) (B := 37) (by decide) (by decide) (by omega) (by omega) (by omega); have e41 := rf_pk (x := (96 + (37 * (g 10)))) (k := 1) (K := 1) (by decide) (by omega) (by omega); have := hex_60.1; have e43 := rf_m3 (n := y_42) (by omega); have e42 := rf_pk (x := ((96 + (37 * (g 10))) + 1)) (k := (3 * y_42)) (K := 3 * y_42.toInt) e43 (by omega) (by omega); omega) (by have := hex_60.1; omega)) (cm_V 2 hts kc_X11_readStep ki_RX11 kl_RX11_158 kv_X11_readStep kx_X11_readStep kd_X11_readStep ⟨Nat.le_of_ble_eq_true rfl, Nat.le_of_ble_eq_true rfl⟩) (ty_preE (ci := 11) (q0 := 0) hP hK hD hS hA hX rfl rfl) rfl rfl hl.1 rfl (lv_room (Nat.le_of_ble_eq_true rfl)) dX11_readProgram_80 ⟨Nat.le_of_ble_eq_true rfl, Nat.le_of_ble_eq_true rfl⟩) (fun r_51 u H locs hw_52 hP hD hS => ?_)
            obtain ⟨ws_53, mpt1_54, mbg1_55, mwr1_56, mwk1_57, g1_58⟩ := u
            obtain ⟨hT, hp_59⟩ := hw_52
            have hp_59 : ((y_43.toInt ≤ mpt1_54.toInt ∧ mpt1_54.toInt ≤ mn.toInt) ∧ 0 ≤ mbg1_55.toInt ∧ mbg1_55.toInt ≤ mn.toInt) ∧ ((r_51 = 0 ∧ ((y_42 = 12 ∧ mwk1_57 = 1 ∧ mwr1_56 = y_44) ∨ (¬ y_42 = 12 ∧ rm_f (rp_stk b mn y_42.toInt y_44) (rp_stp b mn y_42.toInt y_44) mwk1_57 mwr1_56))) ∨ (r_51 = 1 ∧ (rp_stk b mn y_42.toInt y_44) = 0 ∧ mwk1_57 = 0 ∧ mpt1_54 = (rp_stp b mn y_42.toInt y_44) ∧ y_42.toInt ≤ 11 ∧ rf_sp g_46 g1_58 (((96 + (37 * (g 10))) + 1) + (3 * y_42)).toInt.toNat y_42 ∧ g1_58 = rq_step b mn y_42.toInt y_44 (((96 + (37 * (g 10))) + 1) + (3 * y_42)).toInt.toNat g_46)) := hp_59
            obtain ⟨hP, hD⟩ := ty_shPD (w2 := ([(rf_MO mo mw ma mf m0 m1 mu mv u0 u1 iz th mb mn mpt1_54 mbg1_55 mwr1_56 mwk1_57 mlf men), (rf_RW ct 0 mb 800 b), (rf_RW ct 0 mf 958 g1_58)] ++ ws_53)) hP hD rfl
            obtain ⟨hb_60, hc_61⟩ := hp_59
            rcases hc_61 with ⟨rfl, hz_62⟩ | ⟨rfl, hz_63⟩
            · refine lv_if_ne (tgt := 88) hx hb dX11_readProgram_83 (by decide) (fun hc => absurd (by decide) hc) (fun _ => ?_)
              refine lv_iconst (v := 0) hx hb dX11_readProgram_86 (by decide) ?_
              exact W.zret (v := 0) hx hb hr (by decide) (fun t ht hW => ⟨⟨0, (ws_53, mpt1_54, mbg1_55, mwr1_56, mwk1_57, g1_58), rfl, ⟨hT, ⟨by omega, Or.inl ⟨rfl, (hz_62.elim (fun z => rm_gj12 hex_60.2.2.2.2.2.1 z.1 (rm_let hc_50) z.2) (fun z => rm_fB (rm_gjf hex_60.2.2.2.2.2.1 (by have := hex_60.1; have := rf_ne9 (K := 12) z.1 (by decide); omega) (rm_let hc_50) z.2)))⟩⟩⟩, by rw [ht]; exact hP, by rw [hAe]; exact hD⟩, hS.F ht⟩) hS.2.2 dX11_readProgram_87
            · obtain ⟨hq_64, hq_65, hq_66, hq_67, hq_68, hq_69⟩ := hz_63
              subst hq_65
              subst hq_66
              have hb_70 := rp_stb (b := b) (q := y_44) (m := y_42.toInt) hmn.2 (by omega)
              refine lv_if_ne (tgt := 88) hx hb dX11_readProgram_83 (by decide) (fun _ => ?_) (fun hc => absurd hc (by decide))
              refine lv_iinc (v := (y_42 + Int32.ofInt 1)) (lv' := [(2, .int (y_42 + Int32.ofInt 1)), (0, .ref mo), (1, .int (96 + (37 * (g 10))))]) hx hb dX11_readProgram_88 hl (k := 2) rfl rfl (by decide) rfl (fun ls hl => ?_)
              refine lv_aload_n hx hb dX11_readProgram_91 rfl (lv_at hl 1 rfl) ?_
              obtain ⟨hP, hD⟩ := ty_opPD (E1 := [(rf_RW ct 0 mf 958 g1_58)]) (E2 := [(rf_MO mo mw ma mf m0 m1 mu mv u0 u1 iz th mb mn (rp_stp b mn y_42.toInt y_44) mbg1_55 mwr1_56 (0) mlf men), (rf_RW ct 0 mb 800 b)]) (n := 3) [2, 0, 1] hP hD rfl rfl (by decide +kernel) ty_mva
              refine ty_Ki hP hD hS hA (va_runV (As := []) (rest := []) ⟨hx, hb, hml, hown, hts⟩ (m_X11_see l D ct S ws_53 ph xx mo mw ma mf m0 m1 mu mv u0 u1 iz mb th mn (rp_stp b mn y_42.toInt y_44) mbg1_55 mwr1_56 (0 : Int32) mlf men b _ hT hph hy1 hmn (by omega)) (cm_V 0 hts kc_X11_see ki_RX11 kl_RX11_106 kv_X11_see kx_X11_see kd_X11_see ⟨Nat.le_of_ble_eq_true rfl, Nat.le_of_ble_eq_true rfl⟩) (ty_preE (ci := 11) (q0 := 1) hP hK hD hS hA hX rfl rfl) rfl rfl hl.1 rfl (lv_room (Nat.le_of_ble_eq_true rfl)) dX11_readProgram_92 ⟨Nat.le_of_ble_eq_true rfl, Nat.le_of_ble_eq_true rfl⟩) (fun r_71 u H locs hw_72 hP hD hS => ?_)
              obtain ⟨ws_73, rfl⟩ : ∃ z, z = u := ⟨_, rfl⟩
              obtain ⟨hT, rfl⟩ := hw_72
              obtain ⟨hP, hD⟩ := ty_shPD (w2 := ([(rf_RW ct 0 mf 958 g1_58), (rf_MO mo mw ma mf m0 m1 mu mv u0 u1 iz th mb mn (rp_sk b mn (rp_stp b mn y_42.toInt y_44)) (rp_sk b mn (rp_stp b mn y_42.toInt y_44)) mwr1_56 (0) mlf men), (rf_RW ct 0 mb 800 b)] ++ ws_73)) hP hD rfl
              have hs_74 := rp_sk_b (b := b) (p := (rp_stp b mn y_42.toInt y_44)) hmn.2 (by omega)
              refine lv_pop hx hb dX11_readProgram_95 rfl ?_
              refine lv_goto (tgt := 60) hx hb dX11_readProgram_96 (by decide) ?_
              exact ih_60 _ _ _ _ (by have := hex_60.1; have := hq_67; have := rf_oi (n := y_42) (by omega); omega) ⟨ws_73, (y_42 + Int32.ofInt 1), (rp_sk b mn (rp_stp b mn y_42.toInt y_44)), (rp_sk b mn (rp_stp b mn y_42.toInt y_44)), mwr1_56, g1_58, rfl, hT, hP, hD, hS, (lv_sub hl [1, 2, 0] rfl), (by have := hex_60.1; have := hq_67; have := rf_oi (n := y_42) (by omega); omega), ⟨(by omega), rfl⟩, (rf_pqn (x := (((96 + (37 * (g 10))) + 1) + (3 * y_42))) hex_60.2.2.1 (by have := hex_60.1; have := hq_67; omega) ⟨(rf_Ls hL).2.1.1, rf_n4b (rf_Ls hL).2.1 hc_1⟩ (by have := (rf_Ls hL).2.1; have := rf_n4b (rf_Ls hL).2.1 hc_1; have e40 := rf_mk9 (a := 96) (b := 37) (k := (g 10)) (A := 96) (B := 37) (by decide) (by decide) (by omega) (by omega) (by omega); have e41 := rf_pk (x := (96 + (37 * (g 10)))) (k := 1) (K := 1) (by decide) (by omega) (by omega); have := hex_60.1; have e43 := rf_m3 (n := y_42) (by omega); have e42 := rf_pk (x := ((96 + (37 * (g 10))) + 1)) (k := (3 * y_42)) (K := 3 * y_42.toInt) e43 (by omega) (by omega); omega) hq_68), (rm_pgN hex_60.2.2.2.1 (rm_NL hN hL) (by have := (rf_Ls hL).2.1; have := rf_n4b (rf_Ls hL).2.1 hc_1; have e40 := rf_mk9 (a := 96) (b := 37) (k := (g 10)) (A := 96) (B := 37) (by decide) (by decide) (by omega) (by omega) (by omega); have e41 := rf_pk (x := (96 + (37 * (g 10)))) (k := 1) (K := 1) (by decide) (by omega) (by omega); have := hex_60.1; have e43 := rf_m3 (n := y_42) (by omega); have e42 := rf_pk (x := ((96 + (37 * (g 10))) + 1)) (k := (3 * y_42)) (K := 3 * y_42.toInt) e43 (by omega) (by omega); omega) hq_68 hex_60.2.2.2.2.1).1, (rm_pgN hex_60.2.2.2.1 (rm_NL hN hL) (by have := (rf_Ls hL).2.1; have := rf_n4b (rf_Ls hL).2.1 hc_1; have e40 := rf_mk9 (a := 96) (b := 37) (k := (g 10)) (A := 96) (B := 37) (by decide) (by decide) (by omega) (by omega) (by omega); have e41 := rf_pk (x := (96 + (37 * (g 10)))) (k := 1) (K := 1) (by decide) (by omega) (by omega); have := hex_60.1; have e43 := rf_m3 (n := y_42) (by omega); have e42 := rf_pk (x := ((96 + (37 * (g 10))) + 1)) (k := (3 * y_42)) (K := 3 * y_42.toInt) e43 (by omega) (by omega); omega) hq_68 hex_60.2.2.2.2.1).2, (rm_gjs hex_60.2.2.2.2.2.1 (by have := hex_60.1; have := hq_67; omega) (rm_let hc_50) hmn.2 hq_64), (rq_gs hex_60.2.2.2.2.2.2 (by have := hex_60.1; have := hq_67; omega) (rm_let hc_50) (by have := (rf_Ls hL).2.1; have := rf_n4b (rf_Ls hL).2.1 hc_1; have e40 := rf_mk9 (a := 96) (b := 37) (k := (g 10)) (A := 96) (B := 37) (by decide) (by decide) (by omega) (by omega) (by omega); have e41 := rf_pk (x := (96 + (37 * (g 10)))) (k := 1) (K := 1) (by decide) (by omega) (by omega); have := hex_60.1; have e43 := rf_m3 (n := y_42) (by omega); have e42 := rf_pk (x := ((96 + (37 * (g 10))) + 1)) (k := (3 * y_42)) (K := 3 * y_42.toInt) e43 (by omega) (by omega); omega) hq_69)⟩
    · refine lv_aload_n hx hb dX11_readProgram_52 rfl (lv_at hl 1 rfl) ?_
      refine lv_iconst (v := 1) hx hb dX11_readProgram_53 (by decide) ?_
      obtain ⟨hP, hD⟩ := ty_opPD (E1 := [(rf_RW ct 0 mf 958 g), (rf_RW ct 0 mb 800 b)]) (E2 := [(rf_MO mo mw ma mf m0 m1 mu mv u0 u1 iz th mb mn (rp_sk b mn (rp_we b mn mbg)) (rp_sk b mn (rp_we b mn mbg)) mwr (0) mlf men)]) (n := 3) [0, 2, 1] hP hD rfl rfl (by decide +kernel) ty_mva
      refine ty_Ki hP hD hS hA (va_runV (As := [.int 1]) (rest := []) ⟨hx, hb, hml, hown, hts⟩ (m_X11_fails l D ct S ws_12 ph xx mo mw ma mf m0 m1 mu mv u0 u1 iz mb th mn (rp_sk b mn (rp_we b mn mbg)) (rp_sk b mn (rp_we b mn mbg)) mwr mlf men (1 : Int32) _ hT hph hy1) (cm_V 1 hts kc_X11_fails ki_RX11 kl_RX11_112 kv_X11_fails kx_X11_fails kd_X11_fails ⟨Nat.le_of_ble_eq_true rfl, Nat.le_of_ble_eq_true rfl⟩) (ty_preE (ci := 11) (q0 := 2) hP hK hD hS hA hX rfl rfl) rfl rfl hl.1 rfl (lv_room (Nat.le_of_ble_eq_true rfl)) dX11_readProgram_54 ⟨Nat.le_of_ble_eq_true rfl, Nat.le_of_ble_eq_true rfl⟩) (fun r_75 u H locs hw_76 hP hD hS => ?_)
      obtain ⟨ws_77, rfl⟩ : ∃ z, z = u := ⟨_, rfl⟩
      obtain ⟨hT, rfl⟩ := hw_76
      obtain ⟨hP, hD⟩ := ty_shPD (w2 := ([(rf_RW ct 0 mf 958 g), (rf_RW ct 0 mb 800 b), (rf_MO mo mw ma mf m0 m1 mu mv u0 u1 iz th mb mn (rp_sk b mn (rp_we b mn mbg)) (rp_sk b mn (rp_we b mn mbg)) (rp_sk b mn (rp_we b mn mbg)) (1) mlf men)] ++ ws_77)) hP hD rfl
      obtain ⟨hP, hD⟩ := ty_ordPD (E2 := [(rf_MO mo mw ma mf m0 m1 mu mv u0 u1 iz th mb mn (rp_sk b mn (rp_we b mn mbg)) (rp_sk b mn (rp_we b mn mbg)) (rp_sk b mn (rp_we b mn mbg)) (1) mlf men), (rf_RW ct 0 mb 800 b), (rf_RW ct 0 mf 958 g)]) (n := 3) [2, 1, 0] hP hD rfl rfl (by decide +kernel)
      exact W.zret (v := 0) hx hb hr (by decide) (fun t ht hW => ⟨⟨0, (ws_77, (rp_sk b mn (rp_we b mn mbg)), (rp_sk b mn (rp_we b mn mbg)), (rp_sk b mn (rp_we b mn mbg)), (1 : Int32), g), rfl, ⟨hT, ⟨by omega, Or.inl ⟨rfl, rm_fB (rm_gj1 (fun z => by have := rf_n4b (rf_Ls hL).2.1 hc_1; omega) (rm_letN hc_13))⟩⟩⟩, by rw [ht]; exact hP, by rw [hAe]; exact hD⟩, hS.F ht⟩) hS.2.2 dX11_readProgram_57
  · refine lv_aload_n hx hb dX11_readProgram_11 rfl (lv_at hl 0 rfl) ?_
    refine lv_iconst (v := 4) hx hb dX11_readProgram_12 (by decide) ?_
    obtain ⟨hP, hD⟩ := ty_opPD (E1 := [(rf_RW ct 0 mb 800 b), (rf_RW ct 0 mf 958 g)]) (E2 := [(rf_MO mo mw ma mf m0 m1 mu mv u0 u1 iz th mb mn mpt mbg mwr (0) mlf men)]) (n := 3) [1, 2, 0] hP hD rfl rfl (by decide +kernel) ty_mva
    refine ty_Ki hP hD hS hA (va_runV (As := [.int 4]) (rest := []) ⟨hx, hb, hml, hown, hts⟩ (m_X11_fails l D ct S ws ph xx mo mw ma mf m0 m1 mu mv u0 u1 iz mb th mn mpt mbg mwr mlf men (4 : Int32) _ hT hph hy1) (cm_V 1 hts kc_X11_fails ki_RX11 kl_RX11_112 kv_X11_fails kx_X11_fails kd_X11_fails ⟨Nat.le_of_ble_eq_true rfl, Nat.le_of_ble_eq_true rfl⟩) (ty_preE (ci := 11) (q0 := 2) hP hK hD hS hA hX rfl rfl) rfl rfl hl.1 rfl (lv_room (Nat.le_of_ble_eq_true rfl)) dX11_readProgram_13 ⟨Nat.le_of_ble_eq_true rfl, Nat.le_of_ble_eq_true rfl⟩) (fun r_78 u H locs hw_79 hP hD hS => ?_)
    obtain ⟨ws_80, rfl⟩ : ∃ z, z = u := ⟨_, rfl⟩
    obtain ⟨hT, rfl⟩ := hw_79
    obtain ⟨hP, hD⟩ := ty_shPD (w2 := ([(rf_RW ct 0 mb 800 b), (rf_RW ct 0 mf 958 g), (rf_MO mo mw ma mf m0 m1 mu mv u0 u1 iz th mb mn mpt mbg mbg (4) mlf men)] ++ ws_80)) hP hD rfl
    obtain ⟨hP, hD⟩ := ty_ordPD (E2 := [(rf_MO mo mw ma mf m0 m1 mu mv u0 u1 iz th mb mn mpt mbg mbg (4) mlf men), (rf_RW ct 0 mb 800 b), (rf_RW ct 0 mf 958 g)]) (n := 3) [2, 0, 1] hP hD rfl rfl (by decide +kernel)
    exact W.zret (v := 0) hx hb hr (by decide) (fun t ht hW => ⟨⟨0, (ws_80, mpt, mbg, mbg, (4 : Int32), g), rfl, ⟨hT, ⟨by omega, Or.inl ⟨rfl, rm_fB (rm_g4 (rm_E4 hc_1))⟩⟩⟩, by rw [ht]; exact hP, by rw [hAe]; exact hD⟩, hS.F ht⟩) hS.2.2 dX11_readProgram_16
