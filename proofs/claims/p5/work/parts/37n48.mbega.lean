theorem rf_st0 {y : Int32} {h : Nat → Int32} (hy : (0 ≤ y.toInt ∧ y.toInt ≤ 958) ∧ ∀ j : Nat, (j : Int) < y.toInt → h j = 0) (h0 : ¬ 958 ≤ y) : (0 ≤ (y + Int32.ofInt 1).toInt ∧ (y + Int32.ofInt 1).toInt ≤ 958) ∧ ∀ j : Nat, (j : Int) < (y + Int32.ofInt 1).toInt → upd h y.toNatClampNeg 0 j = 0 := by
  have o : (Int32.ofInt 1).toInt = 1 := by decide
  have h1 := rf_ng (b := 958) (by decide) h0
  have e : (y + Int32.ofInt 1).toInt = y.toInt + 1 := by rw [Jvm.Kit.i32_add (by rw [o]; omega) (by rw [o]; omega), o]
  rw [e]
  refine ⟨by omega, fun j hj => ?_⟩
  by_cases q : j = y.toNatClampNeg
  · rw [q, rf_upd_eq]
  · rw [rf_upd_ne q]
    have e2 : y.toNatClampNeg = y.toInt.toNat := rfl
    exact hy.2 j (by omega)
theorem rf_stz {y : Int32} {h : Nat → Int32} (hy : (0 ≤ y.toInt ∧ y.toInt ≤ 958) ∧ ∀ j : Nat, (j : Int) < y.toInt → h j = 0) (h0 : 958 ≤ y) : ∀ j : Nat, j < 958 → h j = 0 := by
  have h1 := rf_dn h0
  exact fun j hj => hy.2 j (by omega)
theorem rf_Lz2 {h : Nat → Int32} (hz : ∀ j : Nat, j < 958 → h j = 0) : (upd (upd (upd (upd (upd (upd (upd (upd (upd h 0 990) 1 100000) 2 100) 3 5) 5 5000) 6 600) 7 250) 14 5000) 15 1000) 10 = 0 ∧ (upd (upd (upd (upd (upd (upd (upd (upd (upd h 0 990) 1 100000) 2 100) 3 5) 5 5000) 6 600) 7 250) 14 5000) 15 1000) 11 = 0 := by
  refine ⟨?_, ?_⟩
  · rw [rf_upd_ne (by decide), rf_upd_ne (by decide), rf_upd_ne (by decide), rf_upd_ne (by decide), rf_upd_ne (by decide), rf_upd_ne (by decide), rf_upd_ne (by decide), rf_upd_ne (by decide), rf_upd_ne (by decide)]
    exact hz 10 (by omega)
  · rw [rf_upd_ne (by decide), rf_upd_ne (by decide), rf_upd_ne (by decide), rf_upd_ne (by decide), rf_upd_ne (by decide), rf_upd_ne (by decide), rf_upd_ne (by decide), rf_upd_ne (by decide), rf_upd_ne (by decide)]
    exact hz 11 (by omega)
/-- the row at the start, and a channel's places behind a description -/
def rq_W0 : Nat → Int32 := upd (upd (upd (upd (upd (upd (upd (upd (upd (fun _ => 0) 0 990) 1 100000) 2 100) 3 5) 5 5000) 6 600) 7 250) 14 5000) 15 1000
theorem q_equ {n i : Nat} {v : Int32} {a b : Nat → Int32} (h : q_eq n a b) : q_eq n (upd a i v) (upd b i v) := fun j hj => by
  show (if j = i then v else b j) = (if j = i then v else a j)
  rw [h j hj]
theorem rq_W0E {h : Nat → Int32} (hz : ∀ j : Nat, j < 958 → h j = 0) : q_eq 958 rq_W0 (upd (upd (upd (upd (upd (upd (upd (upd (upd h 0 990) 1 100000) 2 100) 3 5) 5 5000) 6 600) 7 250) 14 5000) 15 1000) := q_equ (q_equ (q_equ (q_equ (q_equ (q_equ (q_equ (q_equ (q_equ (fun j hj => hz j hj)))))))))
def rq_beg (f : Nat → Int32) (P : Nat) (q : Int32) : Nat → Int32 := upd (upd (upd (upd (upd (upd (upd (upd (rf_bz f P 54) (P + 1) (-1)) (P + 2) (-1)) (P + 6) q) (P + 7) (f (P + 12))) (P + 19) (-1)) (P + 20) (-1)) (P + 38) (-1)) (P + 9) (f 7)
theorem rq_begE {f c : Nat → Int32} {p q v7 v9 y : Int32} (hp : 244 ≤ p.toInt ∧ p.toInt ≤ 904) (hy : (0 ≤ y.toInt ∧ y.toInt ≤ 54) ∧ ∀ j : Nat, c j = rf_bz f p.toInt.toNat y.toInt.toNat j) (hy2 : 54 ≤ y) (h7 : v7 = f (p.toInt.toNat + 12)) (h9 : v9 = f 7) :
    upd (upd (upd (upd (upd (upd (upd (upd c (p + 1).toNatClampNeg (-1)) (p + 2).toNatClampNeg (-1)) (p + 6).toNatClampNeg q) (p + 7).toNatClampNeg v7) (p + 19).toNatClampNeg (-1)) (p + 20).toNatClampNeg (-1)) (p + 38).toNatClampNeg (-1)) (p + 9).toNatClampNeg v9 = rq_beg f p.toInt.toNat q := by
  have e54 := rf_ge54 hy2
  have en : y.toInt.toNat = 54 := by omega
  have h := hy.2
  rw [en] at h
  have hc : c = rf_bz f p.toInt.toNat 54 := funext h
  rw [rf_bzn hp (n := 1) (by decide) (by omega), rf_bzn hp (n := 2) (by decide) (by omega), rf_bzn hp (n := 6) (by decide) (by omega), rf_bzn hp (n := 7) (by decide) (by omega), rf_bzn hp (n := 19) (by decide) (by omega), rf_bzn hp (n := 20) (by decide) (by omega), rf_bzn hp (n := 38) (by decide) (by omega), rf_bzn hp (n := 9) (by decide) (by omega), hc, h7, h9]
  rfl
theorem rq_bg9 {f c : Nat → Int32} {p q v7 y : Int32} (hp : 244 ≤ p.toInt ∧ p.toInt ≤ 904) (hy : (0 ≤ y.toInt ∧ y.toInt ≤ 54) ∧ ∀ j : Nat, c j = rf_bz f p.toInt.toNat y.toInt.toNat j) : (upd (upd (upd (upd (upd (upd (upd c (p + 1).toNatClampNeg (-1)) (p + 2).toNatClampNeg (-1)) (p + 6).toNatClampNeg q) (p + 7).toNatClampNeg v7) (p + 19).toNatClampNeg (-1)) (p + 20).toNatClampNeg (-1)) (p + 38).toNatClampNeg (-1)) (7 : Int32).toNatClampNeg = f 7 := by
  rw [rf_bzn hp (n := 1) (by decide) (by omega), rf_bzn hp (n := 2) (by decide) (by omega), rf_bzn hp (n := 6) (by decide) (by omega), rf_bzn hp (n := 7) (by decide) (by omega), rf_bzn hp (n := 19) (by decide) (by omega), rf_bzn hp (n := 20) (by decide) (by omega), rf_bzn hp (n := 38) (by decide) (by omega), show (7 : Int32).toNatClampNeg = 7 from by decide]
  rw [rf_upd_ne (by omega), rf_upd_ne (by omega), rf_upd_ne (by omega), rf_upd_ne (by omega), rf_upd_ne (by omega), rf_upd_ne (by omega), rf_upd_ne (by omega), hy.2]
  unfold rf_bz
  rw [if_neg (by omega)]
/-- the channels of a row that was read begin, one after another -/
def rq_ld (g : Nat → Int32) : Nat → Nat → Int32
  | 0 => g
  | n + 1 => rq_beg (rq_ld g n) (244 + 54 * n) (rq_ld g n (244 + 54 * n + 12) / 2)
set_option maxRecDepth 100000 in
set_option maxHeartbeats 4000000 in
theorem m_starts (l : Launch) (D : va_G) (ct : Nat → ClassId) (S : ty_S) (ws : va_W) (ph : va_W → Prop) (xx : Nat → Nat → Nat → Prop) (p1 : Nat) (f : Nat → Int32) (sz : Nat) (hT : ty_V ct S ph ws) (hph : ty_C ph xx) (hy1 : ty_y1 xx) : Met l yX11_starts (ws_ yX11_starts cX11_starts 2 none) ({ frames := 0, cells := 0, slots := 0, locals := 0 } : Room) (va_Pc [.ref p1] (cmP D ct sz ([(rf_RW ct 0 p1 958 f)] ++ ws))) (va_Qv (fun (u : va_W × (Nat → Int32)) => match u with | (u9, h) => ty_V ct S ph u9 ∧ (rf_L h ∧ h 9 = 0 ∧ h 10 = 0 ∧ h 11 = 0) ∧ q_eq 958 rq_W0 h) (cmB D ([(rf_RW ct 0 p1 958 f)] ++ ws) sz (fun (u : va_W × (Nat → Int32)) => match u with | (u9, h) => ([(rf_RW ct 0 p1 958 h)] ++ u9))) (va_A ([(rf_RW ct 0 p1 958 f)] ++ ws) sz)) 0 0 (va_A ([(rf_RW ct 0 p1 958 f)] ++ ws) sz) := by
  refine Met.ofW (cc := cX11_starts) (maxL := 2) (ret := none) (by decide) rfl ?_
  intro p e s m args below meth c s₁ B hml hv
  obtain ⟨rfl, hsz, hP, hK, hD0, hX⟩ := hv
  have hx := B.exec
  have hb := B.bytes
  have hr := B.returns
  have hts := ws_all (atoms_spec (ws := ws_ yX11_starts cX11_starts 2 none) B.pre)
  have hown : s.vm.findClass RX11 = some m.cls := findClass_of_methodNamed B.named
  have hlocks := B.notSynchronized
  subst hsz
  have hD := hD0.self (sz := s.heap.size)
  generalize hAe : va_A ([(rf_RW ct 0 p1 958 f)] ++ ws) s.heap.size = A at hD hX ⊢
  have hA : ∀ q : Nat, s.heap.size ≤ q → A q := fun q h => by rw [← hAe]; exact Or.inr h
  have hS : va_S A s.heap s.heap [] := va_S.rf
  have hl := lv_entry ([.ref p1]) (n := 2) (Nat.le_of_ble_eq_true rfl)
  rw [lg_entry_eq]
  generalize (lg_sl ([.ref p1]) ++ List.replicate (2 - (lg_sl ([.ref p1])).length) Slot.unset).toArray = ls at hl ⊢
  have hl : lv_has ls 2 [(0, .ref p1)] := hl
  refine lv_iconst (v := 0) hx hb dX11_starts_0 (by decide) ?_
  refine lv_istore_n (lv' := [(1, .int 0), (0, .ref p1)]) hx hb dX11_starts_1 rfl hl (by decide) rfl (fun ls hl => ?_)
  refine ty_loop (I := fun μ H locs ls => ∃ (ws : va_W) (y_1 : Int32) (g_2 : Nat → Int32), μ = (2147483648 - y_1.toInt).toNat ∧ ty_V ct S ph ws ∧ va_P D vwCl ([(rf_RW ct 0 p1 958 g_2)] ++ ws) H ∧ va_D A ([(rf_RW ct 0 p1 958 g_2)] ++ ws) ∧ va_S A s.heap H locs ∧ lv_has ls 2 [(0, .ref p1), (1, .int y_1)] ∧ (0 ≤ y_1.toInt ∧ y_1.toInt ≤ 958) ∧ ∀ j : Nat, (j : Int) < y_1.toInt → g_2 j = 0) ⟨_, ws, (0 : Int32), f, rfl, hT, hP, hD, hS, (lv_sub hl [1, 0] rfl), ⟨by decide, fun j hj => absurd hj (by have z : (0 : Int32).toInt = 0 := (by decide); omega)⟩⟩ (fun μ H locs ls hI ih_2 => ?_)
  obtain ⟨ws, y_1, g_2, rfl, hT, hP, hD, hS, hl, hex_2⟩ := hI
  refine lv_iload_n hx hb dX11_starts_2 rfl (lv_at hl 1 rfl) ?_
  refine lv_sipush (v := 958) hx hb dX11_starts_3 (by decide) ?_
  refine lv_icmp_ge (tgt := 19) hx hb dX11_starts_6 (by decide) (fun hc_3 => ?_) (fun hc_3 => ?_)
  · refine lv_aload_n hx hb dX11_starts_19 rfl (lv_at hl 0 rfl) ?_
    refine lv_iconst (v := 0) hx hb dX11_starts_20 (by decide) ?_
    refine lv_sipush (v := 990) hx hb dX11_starts_21 (by decide) ?_
    refine va_iast hx hb hK hP hD hS 0 0 rfl rfl (cm_vin (by decide)) dX11_starts_24 (fun H locs hP hD hS => ?_)
    have hP : va_P D vwCl ([(rf_RW ct 0 p1 958 (upd g_2 (0 : Int32).toNatClampNeg 990))] ++ ws) H := hP
    have hD : va_D A ([(rf_RW ct 0 p1 958 (upd g_2 (0 : Int32).toNatClampNeg 990))] ++ ws) := hD
    refine lv_aload_n hx hb dX11_starts_25 rfl (lv_at hl 0 rfl) ?_
    refine lv_iconst (v := 1) hx hb dX11_starts_26 (by decide) ?_
    refine lv_ldc hx hb hown (hts _ kl_RX11_53) dX11_starts_27 ?_
    refine va_iast hx hb hK hP hD hS 0 0 rfl rfl (cm_vin (by decide)) dX11_starts_29 (fun H locs hP hD hS => ?_)
    have hP : va_P D vwCl ([(rf_RW ct 0 p1 958 (upd (upd g_2 (0 : Int32).toNatClampNeg 990) (1 : Int32).toNatClampNeg 100000))] ++ ws) H := hP
    have hD : va_D A ([(rf_RW ct 0 p1 958 (upd (upd g_2 (0 : Int32).toNatClampNeg 990) (1 : Int32).toNatClampNeg 100000))] ++ ws) := hD
    refine lv_aload_n hx hb dX11_starts_30 rfl (lv_at hl 0 rfl) ?_
    refine lv_iconst (v := 2) hx hb dX11_starts_31 (by decide) ?_
    refine lv_bipush (v := 100) hx hb dX11_starts_32 (by decide) ?_
    refine va_iast hx hb hK hP hD hS 0 0 rfl rfl (cm_vin (by decide)) dX11_starts_34 (fun H locs hP hD hS => ?_)
    have hP : va_P D vwCl ([(rf_RW ct 0 p1 958 (upd (upd (upd g_2 (0 : Int32).toNatClampNeg 990) (1 : Int32).toNatClampNeg 100000) (2 : Int32).toNatClampNeg 100))] ++ ws) H := hP
    have hD : va_D A ([(rf_RW ct 0 p1 958 (upd (upd (upd g_2 (0 : Int32).toNatClampNeg 990) (1 : Int32).toNatClampNeg 100000) (2 : Int32).toNatClampNeg 100))] ++ ws) := hD
    refine lv_aload_n hx hb dX11_starts_35 rfl (lv_at hl 0 rfl) ?_
    refine lv_iconst (v := 3) hx hb dX11_starts_36 (by decide) ?_
    refine lv_iconst (v := 5) hx hb dX11_starts_37 (by decide) ?_
    refine va_iast hx hb hK hP hD hS 0 0 rfl rfl (cm_vin (by decide)) dX11_starts_38 (fun H locs hP hD hS => ?_)
    have hP : va_P D vwCl ([(rf_RW ct 0 p1 958 (upd (upd (upd (upd g_2 (0 : Int32).toNatClampNeg 990) (1 : Int32).toNatClampNeg 100000) (2 : Int32).toNatClampNeg 100) (3 : Int32).toNatClampNeg 5))] ++ ws) H := hP
    have hD : va_D A ([(rf_RW ct 0 p1 958 (upd (upd (upd (upd g_2 (0 : Int32).toNatClampNeg 990) (1 : Int32).toNatClampNeg 100000) (2 : Int32).toNatClampNeg 100) (3 : Int32).toNatClampNeg 5))] ++ ws) := hD
    refine lv_aload_n hx hb dX11_starts_39 rfl (lv_at hl 0 rfl) ?_
    refine lv_iconst (v := 5) hx hb dX11_starts_40 (by decide) ?_
    refine lv_sipush (v := 5000) hx hb dX11_starts_41 (by decide) ?_
    refine va_iast hx hb hK hP hD hS 0 0 rfl rfl (cm_vin (by decide)) dX11_starts_44 (fun H locs hP hD hS => ?_)
    have hP : va_P D vwCl ([(rf_RW ct 0 p1 958 (upd (upd (upd (upd (upd g_2 (0 : Int32).toNatClampNeg 990) (1 : Int32).toNatClampNeg 100000) (2 : Int32).toNatClampNeg 100) (3 : Int32).toNatClampNeg 5) (5 : Int32).toNatClampNeg 5000))] ++ ws) H := hP
    have hD : va_D A ([(rf_RW ct 0 p1 958 (upd (upd (upd (upd (upd g_2 (0 : Int32).toNatClampNeg 990) (1 : Int32).toNatClampNeg 100000) (2 : Int32).toNatClampNeg 100) (3 : Int32).toNatClampNeg 5) (5 : Int32).toNatClampNeg 5000))] ++ ws) := hD
    refine lv_aload_n hx hb dX11_starts_45 rfl (lv_at hl 0 rfl) ?_
    refine lv_bipush (v := 6) hx hb dX11_starts_46 (by decide) ?_
    refine lv_sipush (v := 600) hx hb dX11_starts_48 (by decide) ?_
    refine va_iast hx hb hK hP hD hS 0 0 rfl rfl (cm_vin (by decide)) dX11_starts_51 (fun H locs hP hD hS => ?_)
    have hP : va_P D vwCl ([(rf_RW ct 0 p1 958 (upd (upd (upd (upd (upd (upd g_2 (0 : Int32).toNatClampNeg 990) (1 : Int32).toNatClampNeg 100000) (2 : Int32).toNatClampNeg 100) (3 : Int32).toNatClampNeg 5) (5 : Int32).toNatClampNeg 5000) (6 : Int32).toNatClampNeg 600))] ++ ws) H := hP
    have hD : va_D A ([(rf_RW ct 0 p1 958 (upd (upd (upd (upd (upd (upd g_2 (0 : Int32).toNatClampNeg 990) (1 : Int32).toNatClampNeg 100000) (2 : Int32).toNatClampNeg 100) (3 : Int32).toNatClampNeg 5) (5 : Int32).toNatClampNeg 5000) (6 : Int32).toNatClampNeg 600))] ++ ws) := hD
    refine lv_aload_n hx hb dX11_starts_52 rfl (lv_at hl 0 rfl) ?_
    refine lv_bipush (v := 7) hx hb dX11_starts_53 (by decide) ?_
    refine lv_sipush (v := 250) hx hb dX11_starts_55 (by decide) ?_
    refine va_iast hx hb hK hP hD hS 0 0 rfl rfl (cm_vin (by decide)) dX11_starts_58 (fun H locs hP hD hS => ?_)
    have hP : va_P D vwCl ([(rf_RW ct 0 p1 958 (upd (upd (upd (upd (upd (upd (upd g_2 (0 : Int32).toNatClampNeg 990) (1 : Int32).toNatClampNeg 100000) (2 : Int32).toNatClampNeg 100) (3 : Int32).toNatClampNeg 5) (5 : Int32).toNatClampNeg 5000) (6 : Int32).toNatClampNeg 600) (7 : Int32).toNatClampNeg 250))] ++ ws) H := hP
    have hD : va_D A ([(rf_RW ct 0 p1 958 (upd (upd (upd (upd (upd (upd (upd g_2 (0 : Int32).toNatClampNeg 990) (1 : Int32).toNatClampNeg 100000) (2 : Int32).toNatClampNeg 100) (3 : Int32).toNatClampNeg 5) (5 : Int32).toNatClampNeg 5000) (6 : Int32).toNatClampNeg 600) (7 : Int32).toNatClampNeg 250))] ++ ws) := hD
    refine lv_aload_n hx hb dX11_starts_59 rfl (lv_at hl 0 rfl) ?_
    refine lv_bipush (v := 14) hx hb dX11_starts_60 (by decide) ?_
    refine lv_sipush (v := 5000) hx hb dX11_starts_62 (by decide) ?_
    refine va_iast hx hb hK hP hD hS 0 0 rfl rfl (cm_vin (by decide)) dX11_starts_65 (fun H locs hP hD hS => ?_)
    have hP : va_P D vwCl ([(rf_RW ct 0 p1 958 (upd (upd (upd (upd (upd (upd (upd (upd g_2 (0 : Int32).toNatClampNeg 990) (1 : Int32).toNatClampNeg 100000) (2 : Int32).toNatClampNeg 100) (3 : Int32).toNatClampNeg 5) (5 : Int32).toNatClampNeg 5000) (6 : Int32).toNatClampNeg 600) (7 : Int32).toNatClampNeg 250) (14 : Int32).toNatClampNeg 5000))] ++ ws) H := hP
    have hD : va_D A ([(rf_RW ct 0 p1 958 (upd (upd (upd (upd (upd (upd (upd (upd g_2 (0 : Int32).toNatClampNeg 990) (1 : Int32).toNatClampNeg 100000) (2 : Int32).toNatClampNeg 100) (3 : Int32).toNatClampNeg 5) (5 : Int32).toNatClampNeg 5000) (6 : Int32).toNatClampNeg 600) (7 : Int32).toNatClampNeg 250) (14 : Int32).toNatClampNeg 5000))] ++ ws) := hD
    refine lv_aload_n hx hb dX11_starts_66 rfl (lv_at hl 0 rfl) ?_
    refine lv_bipush (v := 15) hx hb dX11_starts_67 (by decide) ?_
    refine lv_sipush (v := 1000) hx hb dX11_starts_69 (by decide) ?_
    refine va_iast hx hb hK hP hD hS 0 0 rfl rfl (cm_vin (by decide)) dX11_starts_72 (fun H locs hP hD hS => ?_)
    have hP : va_P D vwCl ([(rf_RW ct 0 p1 958 (upd (upd (upd (upd (upd (upd (upd (upd (upd g_2 (0 : Int32).toNatClampNeg 990) (1 : Int32).toNatClampNeg 100000) (2 : Int32).toNatClampNeg 100) (3 : Int32).toNatClampNeg 5) (5 : Int32).toNatClampNeg 5000) (6 : Int32).toNatClampNeg 600) (7 : Int32).toNatClampNeg 250) (14 : Int32).toNatClampNeg 5000) (15 : Int32).toNatClampNeg 1000))] ++ ws) H := hP
    have hD : va_D A ([(rf_RW ct 0 p1 958 (upd (upd (upd (upd (upd (upd (upd (upd (upd g_2 (0 : Int32).toNatClampNeg 990) (1 : Int32).toNatClampNeg 100000) (2 : Int32).toNatClampNeg 100) (3 : Int32).toNatClampNeg 5) (5 : Int32).toNatClampNeg 5000) (6 : Int32).toNatClampNeg 600) (7 : Int32).toNatClampNeg 250) (14 : Int32).toNatClampNeg 5000) (15 : Int32).toNatClampNeg 1000))] ++ ws) := hD
    exact W.vret hx hb hr (fun t ht hW => ⟨⟨(ws, (upd (upd (upd (upd (upd (upd (upd (upd (upd g_2 (0 : Int32).toNatClampNeg 990) (1 : Int32).toNatClampNeg 100000) (2 : Int32).toNatClampNeg 100) (3 : Int32).toNatClampNeg 5) (5 : Int32).toNatClampNeg 5000) (6 : Int32).toNatClampNeg 600) (7 : Int32).toNatClampNeg 250) (14 : Int32).toNatClampNeg 5000) (15 : Int32).toNatClampNeg 1000)), rfl, ⟨hT, ⟨⟨(rf_Lz (rf_stz hex_2 hc_3)).1, (rf_Lz (rf_stz hex_2 hc_3)).2, rf_Lz2 (rf_stz hex_2 hc_3)⟩, rq_W0E (rf_stz hex_2 hc_3)⟩⟩, by rw [ht]; exact hP, by rw [hAe]; exact hD⟩, hS.F ht⟩) hS.2.2 dX11_starts_73
  · refine lv_aload_n hx hb dX11_starts_9 rfl (lv_at hl 0 rfl) ?_
    refine lv_iload_n hx hb dX11_starts_10 rfl (lv_at hl 1 rfl) ?_
    refine lv_iconst (v := 0) hx hb dX11_starts_11 (by decide) ?_
    refine va_iast hx hb hK hP hD hS 0 0 rfl rfl (rf_in1 (by have := hex_2.1; have := rf_ng (b := 958) (by decide) hc_3; omega)) dX11_starts_12 (fun H locs hP hD hS => ?_)
    have hP : va_P D vwCl ([(rf_RW ct 0 p1 958 (upd g_2 y_1.toNatClampNeg 0))] ++ ws) H := hP
    have hD : va_D A ([(rf_RW ct 0 p1 958 (upd g_2 y_1.toNatClampNeg 0))] ++ ws) := hD
    refine lv_iinc (v := (y_1 + Int32.ofInt 1)) (lv' := [(1, .int (y_1 + Int32.ofInt 1)), (0, .ref p1)]) hx hb dX11_starts_13 hl (k := 1) rfl rfl (by decide) rfl (fun ls hl => ?_)
    refine lv_goto (tgt := 2) hx hb dX11_starts_16 (by decide) ?_
    exact ih_2 _ _ _ _ (ty_inc (cm_lt hc_3)) ⟨ws, (y_1 + Int32.ofInt 1), (upd g_2 y_1.toNatClampNeg 0), rfl, hT, hP, hD, hS, (lv_sub hl [1, 0] rfl), (rf_st0 hex_2 hc_3)⟩
set_option maxRecDepth 100000 in
set_option maxHeartbeats 4000000 in
theorem m_begins (l : Launch) (D : va_G) (ct : Nat → ClassId) (S : ty_S) (ws : va_W) (ph : va_W → Prop) (xx : Nat → Nat → Nat → Prop) (p1 : Nat) (p2 : Int32) (p3 : Int32) (f : Nat → Int32) (sz : Nat) (hT : ty_V ct S ph ws) (hph : ty_C ph xx) (hy1 : ty_y1 xx) (hp2 : 244 ≤ p2.toInt ∧ p2.toInt ≤ 904) : Met l yX11_begins (ws_ yX11_begins cX11_begins 4 none) ({ frames := 0, cells := 0, slots := 0, locals := 0 } : Room) (va_Pc [.ref p1, .int p2, .int p3] (cmP D ct sz ([(rf_RW ct 0 p1 958 f)] ++ ws))) (va_Qv (fun (u : va_W × (Nat → Int32)) => match u with | (u9, h) => ty_V ct S ph u9 ∧ rf_bg f h p2.toInt.toNat p3 ∧ h = rq_beg f p2.toInt.toNat p3) (cmB D ([(rf_RW ct 0 p1 958 f)] ++ ws) sz (fun (u : va_W × (Nat → Int32)) => match u with | (u9, h) => ([(rf_RW ct 0 p1 958 h)] ++ u9))) (va_A ([(rf_RW ct 0 p1 958 f)] ++ ws) sz)) 0 0 (va_A ([(rf_RW ct 0 p1 958 f)] ++ ws) sz) := by
  refine Met.ofW (cc := cX11_begins) (maxL := 4) (ret := none) (by decide) rfl ?_
  intro p e s m args below meth c s₁ B hml hv
  obtain ⟨rfl, hsz, hP, hK, hD0, hX⟩ := hv
  have hx := B.exec
  have hb := B.bytes
  have hr := B.returns
  have hts := ws_all (atoms_spec (ws := ws_ yX11_begins cX11_begins 4 none) B.pre)
  have hown : s.vm.findClass RX11 = some m.cls := findClass_of_methodNamed B.named
  have hlocks := B.notSynchronized
  subst hsz
  have hD := hD0.self (sz := s.heap.size)
  generalize hAe : va_A ([(rf_RW ct 0 p1 958 f)] ++ ws) s.heap.size = A at hD hX ⊢
  have hA : ∀ q : Nat, s.heap.size ≤ q → A q := fun q h => by rw [← hAe]; exact Or.inr h
  have hS : va_S A s.heap s.heap [] := va_S.rf
  have hl := lv_entry ([.ref p1, .int p2, .int p3]) (n := 4) (Nat.le_of_ble_eq_true rfl)
  rw [lg_entry_eq]
  generalize (lg_sl ([.ref p1, .int p2, .int p3]) ++ List.replicate (4 - (lg_sl ([.ref p1, .int p2, .int p3])).length) Slot.unset).toArray = ls at hl ⊢
  have hl : lv_has ls 4 [(0, .ref p1), (1, .int p2), (2, .int p3)] := hl
  refine lv_iconst (v := 0) hx hb dX11_begins_0 (by decide) ?_
  refine lv_istore_n (lv' := [(3, .int 0), (0, .ref p1), (1, .int p2), (2, .int p3)]) hx hb dX11_begins_1 rfl hl (by decide) rfl (fun ls hl => ?_)
  refine ty_loop (I := fun μ H locs ls => ∃ (ws : va_W) (y_1 : Int32) (g_2 : Nat → Int32), μ = (2147483648 - y_1.toInt).toNat ∧ ty_V ct S ph ws ∧ va_P D vwCl ([(rf_RW ct 0 p1 958 g_2)] ++ ws) H ∧ va_D A ([(rf_RW ct 0 p1 958 g_2)] ++ ws) ∧ va_S A s.heap H locs ∧ lv_has ls 4 [(0, .ref p1), (1, .int p2), (2, .int p3), (3, .int y_1)] ∧ (0 ≤ y_1.toInt ∧ y_1.toInt ≤ 54) ∧ ∀ j : Nat, g_2 j = rf_bz f p2.toInt.toNat y_1.toInt.toNat j) ⟨_, ws, (0 : Int32), f, rfl, hT, hP, hD, hS, (lv_sub hl [1, 2, 3, 0] rfl), ⟨by decide, rf_bz0⟩⟩ (fun μ H locs ls hI ih_2 => ?_)
  obtain ⟨ws, y_1, g_2, rfl, hT, hP, hD, hS, hl, hex_2⟩ := hI
  refine lv_iload_n hx hb dX11_begins_2 rfl (lv_at hl 3 rfl) ?_
  refine lv_bipush (v := 54) hx hb dX11_begins_3 (by decide) ?_
  refine lv_icmp_ge (tgt := 32) hx hb dX11_begins_5 (by decide) (fun hc_3 => ?_) (fun hc_3 => ?_)
  · refine lv_aload_n hx hb dX11_begins_32 rfl (lv_at hl 0 rfl) ?_
    refine lv_iload_n hx hb dX11_begins_33 rfl (lv_at hl 1 rfl) ?_
    refine lv_iconst (v := 1) hx hb dX11_begins_34 (by decide) ?_
    refine lv_iadd hx hb dX11_begins_35 ?_
    refine lv_iconst (v := (-1)) hx hb dX11_begins_36 (by decide) ?_
    refine va_iast hx hb hK hP hD hS 0 0 rfl rfl (rf_in (rf_bze hp2 (y := 1) (by decide)) (by have z9 : (1 : Int32).toInt = 1 := (by decide); omega)) dX11_begins_37 (fun H locs hP hD hS => ?_)
    have hP : va_P D vwCl ([(rf_RW ct 0 p1 958 (upd g_2 (p2 + 1).toNatClampNeg (-1)))] ++ ws) H := hP
    have hD : va_D A ([(rf_RW ct 0 p1 958 (upd g_2 (p2 + 1).toNatClampNeg (-1)))] ++ ws) := hD
    refine lv_aload_n hx hb dX11_begins_38 rfl (lv_at hl 0 rfl) ?_
    refine lv_iload_n hx hb dX11_begins_39 rfl (lv_at hl 1 rfl) ?_
    refine lv_iconst (v := 2) hx hb dX11_begins_40 (by decide) ?_
    refine lv_iadd hx hb dX11_begins_41 ?_
    refine lv_iconst (v := (-1)) hx hb dX11_begins_42 (by decide) ?_
    refine va_iast hx hb hK hP hD hS 0 0 rfl rfl (rf_in (rf_bze hp2 (y := 2) (by decide)) (by have z9 : (2 : Int32).toInt = 2 := (by decide); omega)) dX11_begins_43 (fun H locs hP hD hS => ?_)
    have hP : va_P D vwCl ([(rf_RW ct 0 p1 958 (upd (upd g_2 (p2 + 1).toNatClampNeg (-1)) (p2 + 2).toNatClampNeg (-1)))] ++ ws) H := hP
    have hD : va_D A ([(rf_RW ct 0 p1 958 (upd (upd g_2 (p2 + 1).toNatClampNeg (-1)) (p2 + 2).toNatClampNeg (-1)))] ++ ws) := hD
    refine lv_aload_n hx hb dX11_begins_44 rfl (lv_at hl 0 rfl) ?_
    refine lv_iload_n hx hb dX11_begins_45 rfl (lv_at hl 1 rfl) ?_
    refine lv_bipush (v := 6) hx hb dX11_begins_46 (by decide) ?_
    refine lv_iadd hx hb dX11_begins_48 ?_
    refine lv_iload_n hx hb dX11_begins_49 rfl (lv_at hl 2 rfl) ?_
    refine va_iast hx hb hK hP hD hS 0 0 rfl rfl (rf_in (rf_bze hp2 (y := 6) (by decide)) (by have z9 : (6 : Int32).toInt = 6 := (by decide); omega)) dX11_begins_50 (fun H locs hP hD hS => ?_)
    have hP : va_P D vwCl ([(rf_RW ct 0 p1 958 (upd (upd (upd g_2 (p2 + 1).toNatClampNeg (-1)) (p2 + 2).toNatClampNeg (-1)) (p2 + 6).toNatClampNeg p3))] ++ ws) H := hP
    have hD : va_D A ([(rf_RW ct 0 p1 958 (upd (upd (upd g_2 (p2 + 1).toNatClampNeg (-1)) (p2 + 2).toNatClampNeg (-1)) (p2 + 6).toNatClampNeg p3))] ++ ws) := hD
    refine lv_aload_n hx hb dX11_begins_51 rfl (lv_at hl 0 rfl) ?_
    refine lv_iload_n hx hb dX11_begins_52 rfl (lv_at hl 1 rfl) ?_
    refine lv_bipush (v := 7) hx hb dX11_begins_53 (by decide) ?_
    refine lv_iadd hx hb dX11_begins_55 ?_
    refine lv_aload_n hx hb dX11_begins_56 rfl (lv_at hl 0 rfl) ?_
    refine lv_iload_n hx hb dX11_begins_57 rfl (lv_at hl 1 rfl) ?_
    refine lv_bipush (v := 12) hx hb dX11_begins_58 (by decide) ?_
    refine lv_iadd hx hb dX11_begins_60 ?_
    refine va_iald hx hb hK hP 0 0 rfl rfl (rf_in (rf_bze hp2 (y := 12) (by decide)) (by have z9 : (12 : Int32).toInt = 12 := (by decide); omega)) dX11_begins_61 ?_
    refine va_iast hx hb hK hP hD hS 0 0 rfl rfl (rf_in (rf_bze hp2 (y := 7) (by decide)) (by have z9 : (7 : Int32).toInt = 7 := (by decide); omega)) dX11_begins_62 (fun H locs hP hD hS => ?_)
    have hP : va_P D vwCl ([(rf_RW ct 0 p1 958 (upd (upd (upd (upd g_2 (p2 + 1).toNatClampNeg (-1)) (p2 + 2).toNatClampNeg (-1)) (p2 + 6).toNatClampNeg p3) (p2 + 7).toNatClampNeg ((upd (upd (upd g_2 (p2 + 1).toNatClampNeg (-1)) (p2 + 2).toNatClampNeg (-1)) (p2 + 6).toNatClampNeg p3) (p2 + 12).toNatClampNeg)))] ++ ws) H := hP
    have hD : va_D A ([(rf_RW ct 0 p1 958 (upd (upd (upd (upd g_2 (p2 + 1).toNatClampNeg (-1)) (p2 + 2).toNatClampNeg (-1)) (p2 + 6).toNatClampNeg p3) (p2 + 7).toNatClampNeg ((upd (upd (upd g_2 (p2 + 1).toNatClampNeg (-1)) (p2 + 2).toNatClampNeg (-1)) (p2 + 6).toNatClampNeg p3) (p2 + 12).toNatClampNeg)))] ++ ws) := hD
    refine lv_aload_n hx hb dX11_begins_63 rfl (lv_at hl 0 rfl) ?_
    refine lv_iload_n hx hb dX11_begins_64 rfl (lv_at hl 1 rfl) ?_
    refine lv_bipush (v := 19) hx hb dX11_begins_65 (by decide) ?_
    refine lv_iadd hx hb dX11_begins_67 ?_
    refine lv_iconst (v := (-1)) hx hb dX11_begins_68 (by decide) ?_
    refine va_iast hx hb hK hP hD hS 0 0 rfl rfl (rf_in (rf_bze hp2 (y := 19) (by decide)) (by have z9 : (19 : Int32).toInt = 19 := (by decide); omega)) dX11_begins_69 (fun H locs hP hD hS => ?_)
    have hP : va_P D vwCl ([(rf_RW ct 0 p1 958 (upd (upd (upd (upd (upd g_2 (p2 + 1).toNatClampNeg (-1)) (p2 + 2).toNatClampNeg (-1)) (p2 + 6).toNatClampNeg p3) (p2 + 7).toNatClampNeg ((upd (upd (upd g_2 (p2 + 1).toNatClampNeg (-1)) (p2 + 2).toNatClampNeg (-1)) (p2 + 6).toNatClampNeg p3) (p2 + 12).toNatClampNeg)) (p2 + 19).toNatClampNeg (-1)))] ++ ws) H := hP
    have hD : va_D A ([(rf_RW ct 0 p1 958 (upd (upd (upd (upd (upd g_2 (p2 + 1).toNatClampNeg (-1)) (p2 + 2).toNatClampNeg (-1)) (p2 + 6).toNatClampNeg p3) (p2 + 7).toNatClampNeg ((upd (upd (upd g_2 (p2 + 1).toNatClampNeg (-1)) (p2 + 2).toNatClampNeg (-1)) (p2 + 6).toNatClampNeg p3) (p2 + 12).toNatClampNeg)) (p2 + 19).toNatClampNeg (-1)))] ++ ws) := hD
    refine lv_aload_n hx hb dX11_begins_70 rfl (lv_at hl 0 rfl) ?_
    refine lv_iload_n hx hb dX11_begins_71 rfl (lv_at hl 1 rfl) ?_
    refine lv_bipush (v := 20) hx hb dX11_begins_72 (by decide) ?_
    refine lv_iadd hx hb dX11_begins_74 ?_
    refine lv_iconst (v := (-1)) hx hb dX11_begins_75 (by decide) ?_
    refine va_iast hx hb hK hP hD hS 0 0 rfl rfl (rf_in (rf_bze hp2 (y := 20) (by decide)) (by have z9 : (20 : Int32).toInt = 20 := (by decide); omega)) dX11_begins_76 (fun H locs hP hD hS => ?_)
    have hP : va_P D vwCl ([(rf_RW ct 0 p1 958 (upd (upd (upd (upd (upd (upd g_2 (p2 + 1).toNatClampNeg (-1)) (p2 + 2).toNatClampNeg (-1)) (p2 + 6).toNatClampNeg p3) (p2 + 7).toNatClampNeg ((upd (upd (upd g_2 (p2 + 1).toNatClampNeg (-1)) (p2 + 2).toNatClampNeg (-1)) (p2 + 6).toNatClampNeg p3) (p2 + 12).toNatClampNeg)) (p2 + 19).toNatClampNeg (-1)) (p2 + 20).toNatClampNeg (-1)))] ++ ws) H := hP
    have hD : va_D A ([(rf_RW ct 0 p1 958 (upd (upd (upd (upd (upd (upd g_2 (p2 + 1).toNatClampNeg (-1)) (p2 + 2).toNatClampNeg (-1)) (p2 + 6).toNatClampNeg p3) (p2 + 7).toNatClampNeg ((upd (upd (upd g_2 (p2 + 1).toNatClampNeg (-1)) (p2 + 2).toNatClampNeg (-1)) (p2 + 6).toNatClampNeg p3) (p2 + 12).toNatClampNeg)) (p2 + 19).toNatClampNeg (-1)) (p2 + 20).toNatClampNeg (-1)))] ++ ws) := hD
    refine lv_aload_n hx hb dX11_begins_77 rfl (lv_at hl 0 rfl) ?_
    refine lv_iload_n hx hb dX11_begins_78 rfl (lv_at hl 1 rfl) ?_
    refine lv_bipush (v := 38) hx hb dX11_begins_79 (by decide) ?_
    refine lv_iadd hx hb dX11_begins_81 ?_
    refine lv_iconst (v := (-1)) hx hb dX11_begins_82 (by decide) ?_
    refine va_iast hx hb hK hP hD hS 0 0 rfl rfl (rf_in (rf_bze hp2 (y := 38) (by decide)) (by have z9 : (38 : Int32).toInt = 38 := (by decide); omega)) dX11_begins_83 (fun H locs hP hD hS => ?_)
    have hP : va_P D vwCl ([(rf_RW ct 0 p1 958 (upd (upd (upd (upd (upd (upd (upd g_2 (p2 + 1).toNatClampNeg (-1)) (p2 + 2).toNatClampNeg (-1)) (p2 + 6).toNatClampNeg p3) (p2 + 7).toNatClampNeg ((upd (upd (upd g_2 (p2 + 1).toNatClampNeg (-1)) (p2 + 2).toNatClampNeg (-1)) (p2 + 6).toNatClampNeg p3) (p2 + 12).toNatClampNeg)) (p2 + 19).toNatClampNeg (-1)) (p2 + 20).toNatClampNeg (-1)) (p2 + 38).toNatClampNeg (-1)))] ++ ws) H := hP
    have hD : va_D A ([(rf_RW ct 0 p1 958 (upd (upd (upd (upd (upd (upd (upd g_2 (p2 + 1).toNatClampNeg (-1)) (p2 + 2).toNatClampNeg (-1)) (p2 + 6).toNatClampNeg p3) (p2 + 7).toNatClampNeg ((upd (upd (upd g_2 (p2 + 1).toNatClampNeg (-1)) (p2 + 2).toNatClampNeg (-1)) (p2 + 6).toNatClampNeg p3) (p2 + 12).toNatClampNeg)) (p2 + 19).toNatClampNeg (-1)) (p2 + 20).toNatClampNeg (-1)) (p2 + 38).toNatClampNeg (-1)))] ++ ws) := hD
    refine lv_aload_n hx hb dX11_begins_84 rfl (lv_at hl 0 rfl) ?_
    refine lv_iload_n hx hb dX11_begins_85 rfl (lv_at hl 1 rfl) ?_
    refine lv_bipush (v := 9) hx hb dX11_begins_86 (by decide) ?_
    refine lv_iadd hx hb dX11_begins_88 ?_
    refine lv_aload_n hx hb dX11_begins_89 rfl (lv_at hl 0 rfl) ?_
    refine lv_bipush (v := 7) hx hb dX11_begins_90 (by decide) ?_
    refine va_iald hx hb hK hP 0 0 rfl rfl (cm_vin (by decide)) dX11_begins_92 ?_
    refine va_iast hx hb hK hP hD hS 0 0 rfl rfl (rf_in (rf_bze hp2 (y := 9) (by decide)) (by have z9 : (9 : Int32).toInt = 9 := (by decide); omega)) dX11_begins_93 (fun H locs hP hD hS => ?_)
    have hP : va_P D vwCl ([(rf_RW ct 0 p1 958 (upd (upd (upd (upd (upd (upd (upd (upd g_2 (p2 + 1).toNatClampNeg (-1)) (p2 + 2).toNatClampNeg (-1)) (p2 + 6).toNatClampNeg p3) (p2 + 7).toNatClampNeg ((upd (upd (upd g_2 (p2 + 1).toNatClampNeg (-1)) (p2 + 2).toNatClampNeg (-1)) (p2 + 6).toNatClampNeg p3) (p2 + 12).toNatClampNeg)) (p2 + 19).toNatClampNeg (-1)) (p2 + 20).toNatClampNeg (-1)) (p2 + 38).toNatClampNeg (-1)) (p2 + 9).toNatClampNeg ((upd (upd (upd (upd (upd (upd (upd g_2 (p2 + 1).toNatClampNeg (-1)) (p2 + 2).toNatClampNeg (-1)) (p2 + 6).toNatClampNeg p3) (p2 + 7).toNatClampNeg ((upd (upd (upd g_2 (p2 + 1).toNatClampNeg (-1)) (p2 + 2).toNatClampNeg (-1)) (p2 + 6).toNatClampNeg p3) (p2 + 12).toNatClampNeg)) (p2 + 19).toNatClampNeg (-1)) (p2 + 20).toNatClampNeg (-1)) (p2 + 38).toNatClampNeg (-1)) (7 : Int32).toNatClampNeg)))] ++ ws) H := hP
    have hD : va_D A ([(rf_RW ct 0 p1 958 (upd (upd (upd (upd (upd (upd (upd (upd g_2 (p2 + 1).toNatClampNeg (-1)) (p2 + 2).toNatClampNeg (-1)) (p2 + 6).toNatClampNeg p3) (p2 + 7).toNatClampNeg ((upd (upd (upd g_2 (p2 + 1).toNatClampNeg (-1)) (p2 + 2).toNatClampNeg (-1)) (p2 + 6).toNatClampNeg p3) (p2 + 12).toNatClampNeg)) (p2 + 19).toNatClampNeg (-1)) (p2 + 20).toNatClampNeg (-1)) (p2 + 38).toNatClampNeg (-1)) (p2 + 9).toNatClampNeg ((upd (upd (upd (upd (upd (upd (upd g_2 (p2 + 1).toNatClampNeg (-1)) (p2 + 2).toNatClampNeg (-1)) (p2 + 6).toNatClampNeg p3) (p2 + 7).toNatClampNeg ((upd (upd (upd g_2 (p2 + 1).toNatClampNeg (-1)) (p2 + 2).toNatClampNeg (-1)) (p2 + 6).toNatClampNeg p3) (p2 + 12).toNatClampNeg)) (p2 + 19).toNatClampNeg (-1)) (p2 + 20).toNatClampNeg (-1)) (p2 + 38).toNatClampNeg (-1)) (7 : Int32).toNatClampNeg)))] ++ ws) := hD
    exact W.vret hx hb hr (fun t ht hW => ⟨⟨(ws, (upd (upd (upd (upd (upd (upd (upd (upd g_2 (p2 + 1).toNatClampNeg (-1)) (p2 + 2).toNatClampNeg (-1)) (p2 + 6).toNatClampNeg p3) (p2 + 7).toNatClampNeg ((upd (upd (upd g_2 (p2 + 1).toNatClampNeg (-1)) (p2 + 2).toNatClampNeg (-1)) (p2 + 6).toNatClampNeg p3) (p2 + 12).toNatClampNeg)) (p2 + 19).toNatClampNeg (-1)) (p2 + 20).toNatClampNeg (-1)) (p2 + 38).toNatClampNeg (-1)) (p2 + 9).toNatClampNeg ((upd (upd (upd (upd (upd (upd (upd g_2 (p2 + 1).toNatClampNeg (-1)) (p2 + 2).toNatClampNeg (-1)) (p2 + 6).toNatClampNeg p3) (p2 + 7).toNatClampNeg ((upd (upd (upd g_2 (p2 + 1).toNatClampNeg (-1)) (p2 + 2).toNatClampNeg (-1)) (p2 + 6).toNatClampNeg p3) (p2 + 12).toNatClampNeg)) (p2 + 19).toNatClampNeg (-1)) (p2 + 20).toNatClampNeg (-1)) (p2 + 38).toNatClampNeg (-1)) (7 : Int32).toNatClampNeg))), rfl, ⟨hT, ⟨rf_bgl hp2 hex_2 hc_3 (rf_bg7 hp2 hex_2), rq_begE hp2 hex_2 hc_3 (rf_bg7 hp2 hex_2) (rq_bg9 hp2 hex_2)⟩⟩, by rw [ht]; exact hP, by rw [hAe]; exact hD⟩, hS.F ht⟩) hS.2.2 dX11_begins_94
  · refine lv_iload_n hx hb dX11_begins_8 rfl (lv_at hl 3 rfl) ?_
    refine lv_bipush (v := 11) hx hb dX11_begins_9 (by decide) ?_
    refine lv_icmp_lt (tgt := 20) hx hb dX11_begins_11 (by decide) (fun hc_4 => ?_) (fun hc_4 => ?_)
    · refine lv_aload_n hx hb dX11_begins_20 rfl (lv_at hl 0 rfl) ?_
      refine lv_iload_n hx hb dX11_begins_21 rfl (lv_at hl 1 rfl) ?_
      refine lv_iload_n hx hb dX11_begins_22 rfl (lv_at hl 3 rfl) ?_
      refine lv_iadd hx hb dX11_begins_23 ?_
      refine lv_iconst (v := 0) hx hb dX11_begins_24 (by decide) ?_
      refine va_iast hx hb hK hP hD hS 0 0 rfl rfl (rf_in (rf_bze hp2 ⟨by have := hex_2.1; omega, rf_lt54 hc_3⟩) (by have := rf_lt54 hc_3; have := hex_2.1; omega)) dX11_begins_25 (fun H locs hP hD hS => ?_)
      have hP : va_P D vwCl ([(rf_RW ct 0 p1 958 (upd g_2 (p2 + y_1).toNatClampNeg 0))] ++ ws) H := hP
      have hD : va_D A ([(rf_RW ct 0 p1 958 (upd g_2 (p2 + y_1).toNatClampNeg 0))] ++ ws) := hD
      refine lv_iinc (v := (y_1 + Int32.ofInt 1)) (lv' := [(3, .int (y_1 + Int32.ofInt 1)), (0, .ref p1), (1, .int p2), (2, .int p3)]) hx hb dX11_begins_26 hl (k := 3) rfl rfl (by decide) rfl (fun ls hl => ?_)
      refine lv_goto (tgt := 2) hx hb dX11_begins_29 (by decide) ?_
      exact ih_2 _ _ _ _ (ty_inc (cm_lt hc_3)) ⟨ws, (y_1 + Int32.ofInt 1), (upd g_2 (p2 + y_1).toNatClampNeg 0), rfl, hT, hP, hD, hS, (lv_sub hl [1, 2, 3, 0] rfl), (rf_bz1 hp2 ⟨by have := hex_2.1; omega, rf_lt54 hc_3⟩ hex_2.2 (Or.inl (rf_lt11 hc_4)))⟩
    · refine lv_iload_n hx hb dX11_begins_14 rfl (lv_at hl 3 rfl) ?_
      refine lv_bipush (v := 15) hx hb dX11_begins_15 (by decide) ?_
      refine lv_icmp_le (tgt := 26) hx hb dX11_begins_17 (by decide) (fun hc_5 => ?_) (fun hc_5 => ?_)
      · refine lv_iinc (v := (y_1 + Int32.ofInt 1)) (lv' := [(3, .int (y_1 + Int32.ofInt 1)), (0, .ref p1), (1, .int p2), (2, .int p3)]) hx hb dX11_begins_26 hl (k := 3) rfl rfl (by decide) rfl (fun ls hl => ?_)
        refine lv_goto (tgt := 2) hx hb dX11_begins_29 (by decide) ?_
        exact ih_2 _ _ _ _ (ty_inc (cm_lt hc_3)) ⟨ws, (y_1 + Int32.ofInt 1), g_2, rfl, hT, hP, hD, hS, (lv_sub hl [1, 2, 3, 0] rfl), (rf_bz2 ⟨by have := hex_2.1; omega, rf_lt54 hc_3⟩ hex_2.2 ⟨rf_ge11 hc_4, rf_le15 hc_5⟩)⟩
      · refine lv_aload_n hx hb dX11_begins_20 rfl (lv_at hl 0 rfl) ?_
        refine lv_iload_n hx hb dX11_begins_21 rfl (lv_at hl 1 rfl) ?_
        refine lv_iload_n hx hb dX11_begins_22 rfl (lv_at hl 3 rfl) ?_
        refine lv_iadd hx hb dX11_begins_23 ?_
        refine lv_iconst (v := 0) hx hb dX11_begins_24 (by decide) ?_
        refine va_iast hx hb hK hP hD hS 0 0 rfl rfl (rf_in (rf_bze hp2 ⟨by have := hex_2.1; omega, rf_lt54 hc_3⟩) (by have := rf_lt54 hc_3; have := hex_2.1; omega)) dX11_begins_25 (fun H locs hP hD hS => ?_)
        have hP : va_P D vwCl ([(rf_RW ct 0 p1 958 (upd g_2 (p2 + y_1).toNatClampNeg 0))] ++ ws) H := hP
        have hD : va_D A ([(rf_RW ct 0 p1 958 (upd g_2 (p2 + y_1).toNatClampNeg 0))] ++ ws) := hD
        refine lv_iinc (v := (y_1 + Int32.ofInt 1)) (lv' := [(3, .int (y_1 + Int32.ofInt 1)), (0, .ref p1), (1, .int p2), (2, .int p3)]) hx hb dX11_begins_26 hl (k := 3) rfl rfl (by decide) rfl (fun ls hl => ?_)
        refine lv_goto (tgt := 2) hx hb dX11_begins_29 (by decide) ?_
        exact ih_2 _ _ _ _ (ty_inc (cm_lt hc_3)) ⟨ws, (y_1 + Int32.ofInt 1), (upd g_2 (p2 + y_1).toNatClampNeg 0), rfl, hT, hP, hD, hS, (lv_sub hl [1, 2, 3, 0] rfl), (rf_bz1 hp2 ⟨by have := hex_2.1; omega, rf_lt54 hc_3⟩ hex_2.2 (Or.inr (rf_gt15 hc_5)))⟩
