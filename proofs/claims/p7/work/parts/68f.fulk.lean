/-- the reference goes the same way -/
theorem fl_qw {f : Nat → Int32} {c p : Int32} {P n : Nat} (hc : 0 ≤ c.toInt ∧ c.toInt < 6) (hp : p.toInt = P) (hP : P < 4) (hs : f (96 + 37 * P) = Int32.ofNat n) (pg : fl_pg n (fun j => f (97 + 37 * P + 3 * j)) (fun j => f (98 + 37 * P + 3 * j)) (fun j => f (99 + 37 * P + 3 * j))) : ∀ (m : Nat) {k k1 : Int32} {f1 : Nat → Int32} {k0 : Nat}, k.toInt = k0 → k0 ≤ n → q_way c p m k f k1 f1 → ∃ r0 : Nat, k1.toInt = r0 ∧ r0 ≤ n ∧ fl_run n (fun j => f (97 + 37 * P + 3 * j)) (fun j => f (98 + 37 * P + 3 * j)) (fun j => f (99 + 37 * P + 3 * j)) m k0 (fun j => rf_of f c (24 + j)) r0 (fun j => rf_of f1 c (24 + j)) ∧ ∀ j : Nat, (j < 268 + 54 * c.toInt.toNat ∨ 280 + 54 * c.toInt.toNat ≤ j) → f1 j = f j
  | 0, k, k1, f1, k0, hk, hn, h => by
    obtain ⟨e1, e2⟩ := h
    subst e1 e2
    exact ⟨k0, hk, hn, ⟨rfl, fun _ _ => rfl⟩, fun _ _ => rfl⟩
  | m + 1, k, k1, f1, k0, hk, hn, h => by
    obtain ⟨u, g, h1, s1, s2, s3⟩ := h
    obtain ⟨u0, e1, e2, e3, e4⟩ := fl_qw hc hp hP hs pg m hk hn h1
    have hn12 := pg.1
    have ep : p.toInt.toNat = P := by omega
    have eu : u.toInt.toNat = u0 := by omega
    have t24 : (24 : Int32).toInt = 24 := by decide
    have e24 : (24 + u).toInt.toNat = 24 + u0 := by rw [Jvm.Kit.i32_add (by omega) (by omega), t24]; omega
    have go : ∀ j : Nat, j < 244 → g j = f j := fun j hj => e4 j (by omega)
    rw [ep, go _ (by omega), hs, Int32.le_iff_toInt_le, fl_on (by omega), e1] at s1
    rw [ep, eu, go _ (by omega)] at s2
    rw [ep, eu, e24, go _ (by omega), go _ (by omega)] at s3
    have kk : f (97 + 37 * P + 3 * u0) = 4 := s2
    obtain ⟨p1, p2, p3⟩ := pg.2 u0 (by omega) kk
    have eM : f (97 + 37 * P + 3 * u0 + 2) = f (99 + 37 * P + 3 * u0) := congrArg f (by omega)
    have eT : f (97 + 37 * P + 3 * u0 + 1) = f (98 + 37 * P + 3 * u0) := congrArg f (by omega)
    rw [eM, eT] at s3
    have out : ∀ {v : Int32} {j : Nat}, (j < 268 + 54 * c.toInt.toNat ∨ 280 + 54 * c.toInt.toNat ≤ j) → upd g (244 + 54 * c.toInt.toNat + (24 + u0)) v j = f j := fun {v j} hj => by rw [rf_upd_ne (by omega)]; exact e4 j hj
    have row : ∀ {v : Int32} (j : Nat), j < 12 → rf_of (upd g (244 + 54 * c.toInt.toNat + (24 + u0)) v) c (24 + j) = if j = u0 then v else rf_of g c (24 + j) := fun {v} j hj => by
      rw [fl_ofu]
      unfold upd
      by_cases q : j = u0
      · rw [if_pos (by omega), if_pos q]
      · rw [if_neg (by omega), if_neg q]
    rcases s3 with ⟨a1, a2, a3⟩ | ⟨a1, a2, a3⟩
    · refine ⟨(f (98 + 37 * P + 3 * u0)).toInt.toNat, ?_, ?_, fl_snoc hn12 m e3 ⟨by omega, kk, Or.inl ⟨a1, rfl, fun j hj => ?_⟩⟩, fun j hj => ?_⟩
      · rw [a3]
        have q : 0 ≤ (f (98 + 37 * P + 3 * u0)).toInt := p1
        omega
      · have q : (f (98 + 37 * P + 3 * u0)).toInt < (u0 : Int) := p2
        omega
      · rw [a2]; exact row j hj
      · rw [a2]; exact out hj
    · refine ⟨u0 + 1, ?_, by omega, fl_snoc hn12 m e3 ⟨by omega, kk, Or.inr ⟨a1, rfl, fun j hj => ?_⟩⟩, fun j hj => ?_⟩
      · rw [a3, rf_oi (by omega)]; omega
      · rw [a2]; exact row j hj
      · rw [a2]; exact out hj
/-! who runs what: the part of a channel that a program moves -/
def fl_ac (s : Int32) : Prop := s = 1 ∨ s = 2 ∨ s = 4
def fl_U (f : Nat → Int32) (su : Nat → Int64) (c : Int32) (sta prg stp las wai hel : Int32) (bin bou sbo cin cou : Int64) (ftb fqu : Nat → Int32) : Prop :=
  (rf_of f c 0 = sta ∧ rf_of f c 1 = prg ∧ rf_of f c 39 = wai ∧ rf_of f c 21 = hel) ∧ (∀ j : Nat, j < 12 → rf_of f c (24 + j) = ftb j) ∧ (∀ j : Nat, (j : Int) < wai.toInt → rf_of f c (40 + j) = fqu j) ∧
  (su (7 * c.toInt.toNat + 0) = cin ∧ su (7 * c.toInt.toNat + 1) = cou ∧ su (7 * c.toInt.toNat + 4) = cin - bin ∧ su (7 * c.toInt.toNat + 5) = cou - bou) ∧
  (fl_ac sta → rf_of f c 2 = stp ∧ rf_of f c 3 = las ∧ su (7 * c.toInt.toNat + 6) = sbo) ∧ (¬ fl_ac sta → rf_of f c 2 = -1 ∧ rf_of f c 3 = 0)
/-- the sums of the others, and this channel's own that stay -/
def fl_su (c : Int32) (su t : Nat → Int64) : Prop := (∀ j : Nat, (j < 7 * c.toInt.toNat ∨ 7 * c.toInt.toNat + 7 ≤ j) → t j = su j) ∧ ∀ j : Nat, j < 4 → t (7 * c.toInt.toNat + j) = su (7 * c.toInt.toNat + j)
theorem fl_sur {c : Int32} {su : Nat → Int64} : fl_su c su su := ⟨fun _ _ => rfl, fun _ _ => rfl⟩
theorem fl_sut {c : Int32} {su t u : Nat → Int64} (a : fl_su c su t) (b : fl_su c t u) : fl_su c su u := ⟨fun j h => (b.1 j h).trans (a.1 j h), fun j h => (b.2 j h).trans (a.2 j h)⟩
theorem fl_suu {c : Int32} {su : Nat → Int64} {K : Nat} {v : Int64} (h : 4 ≤ K) (h7 : K < 7) : fl_su c su (vp_updL su (7 * c.toInt.toNat + K) v) := ⟨fun j q => by rw [fl_uL, if_neg (by omega)], fun j q => by rw [fl_uL, if_neg (by omega)]⟩
/-- the places of a channel that a start leaves as they are -/
def fl_st (J : Nat) : Prop := (4 ≤ J ∧ J ≤ 20) ∨ J = 22 ∨ J = 23 ∨ (36 ≤ J ∧ J < 54)
theorem fl_bg {f f1 : Nat → Int32} {su t : Nat → Int64} {c p idx tim llim lwid lold lsiz sta prg stp las wai hel sta1 prg1 stp1 las1 hel1 : Int32} {fln ftb fqu ftb1 : Nat → Int32} {bin bou sbo cin cou bin1 bou1 sbo1 : Int64} (hc : 0 ≤ c.toInt ∧ c.toInt < 6) (hw : wai.toInt ≤ 4) (U : fl_U f su c sta prg stp las wai hel bin bou sbo cin cou ftb fqu) (hr : q_X11_startsOn f su c p f1 t) (hb : a_X1_begin idx cin cou ftb tim llim lwid lold lsiz fln p sta1 prg1 stp1 las1 bin1 bou1 hel1 sbo1 ftb1) :
    fl_U f1 t c sta1 prg1 stp1 las1 wai hel1 bin1 bou1 sbo1 cin cou ftb1 fqu ∧ (∀ J : Nat, fl_st J → rf_of f1 c J = rf_of f c J) ∧ fl_out c f f1 ∧ fl_rec f f1 ∧ fl_su c su t ∧ sta1 = 1 ∧ prg1 = p ∧ stp1 = 0 ∧ hel1 = 0 ∧ ∀ j : Nat, j < 12 → ftb1 j = 0 := by
  obtain ⟨b, hz, _, _, _, _, e1, e2, e3, e4, e5, e6, e7, e8, e9⟩ := hb
  have e2 := e2.symm
  have e5 := e5.symm
  have e6 := e6.symm
  have e8 := e8.symm
  subst e1 e2 e3 e4 e5 e6 e7 e8 e9
  obtain ⟨⟨u0, u1, u39, u21⟩, ut, uq, ⟨us0, us1, us4, us5⟩, ua, un⟩ := U
  obtain ⟨a1, h1, a2, h2, a3, h3, a4, h4, a5, h5, a6, h6, a7, h7, a8, h8, a9, h9, a10, h10, a11, h11, a12, h12, a13, h13, a14, h14, a15, t1, ⟨x1, hx1, x2, hx2, a16, h16, h17, h18⟩, a17, hk, a18, t2, ⟨y1, hy1, y2, hy2, r, hr1, t3, ht3, hf2, ht2⟩, hf, ht⟩ := hr
  have R14 : rf_of a14 c = upd (upd (upd (upd (upd (upd (upd (upd (upd (upd (upd (upd (upd (upd (rf_of f c) 0 1) 1 p) 24 0) 25 0) 26 0) 27 0) 28 0) 29 0) 30 0) 31 0) 32 0) 33 0) 34 0) 35 0 := by
    rw [h14, fl_ofu, h13, fl_ofu, h12, fl_ofu, h11, fl_ofu, h10, fl_ofu, h9, fl_ofu, h8, fl_ofu, h7, fl_ofu, h6, fl_ofu, h5, fl_ofu, h4, fl_ofu, h3, fl_ofu, h2, fl_ofu, h1, fl_ofu]
  have R15 : rf_of a15 c = upd (rf_of a14 c) 21 0 := by rw [h17, h16, fl_ofu]
  have R17 : ∀ J : Nat, J < 54 → rf_of a17 c J = rf_of a15 c J := fun J hJ => fl_kpr hc hk hJ
  have R1 : ∀ J : Nat, J < 54 → rf_of f1 c J = upd (upd (rf_of a15 c) 2 0) 3 0 J := fun J hJ => by
    rw [hf, hf2, hy2, fl_ofu, hy1, fl_ofu]
    unfold upd
    by_cases q : J = 3
    · rw [if_pos q, if_pos q]
    · rw [if_neg q, if_neg q]
      by_cases w : J = 2
      · rw [if_pos w, if_pos w]
      · rw [if_neg w, if_neg w]; exact R17 J hJ
  have s1 := fl_put hc (K := 4) (by decide) (by omega) hx1
  have s2 := fl_put hc (K := 5) (by decide) (by omega) hx2
  have s3 := fl_sum hc (K := 1) (by decide) (by omega) hr1
  have s4 := fl_put hc (K := 6) (by decide) (by omega) ht3
  have T : t = vp_updL (vp_updL (vp_updL su (7 * c.toInt.toNat + 4) 0) (7 * c.toInt.toNat + 5) 0) (7 * c.toInt.toNat + 6) cou := by
    rw [ht, ht2, s4, s3, h18, s2, s1, fl_uL, fl_uL, if_neg (by omega), if_neg (by omega), us1]
  have zz : ∀ x : Int64, x - x = 0 := fun x => Int64.sub_self x
  have zr : ∀ j : Nat, j < 12 → rf_of f1 c (24 + j) = 0 := fun j hj => by
    rw [R1 _ (by omega), R15, R14]
    rcases (by omega : j = 0 ∨ j = 1 ∨ j = 2 ∨ j = 3 ∨ j = 4 ∨ j = 5 ∨ j = 6 ∨ j = 7 ∨ j = 8 ∨ j = 9 ∨ j = 10 ∨ j = 11) with e | e | e | e | e | e | e | e | e | e | e | e <;> subst e <;> rfl
  have st : ∀ J : Nat, fl_st J → rf_of f1 c J = rf_of f c J := fun J hJ => by
    unfold fl_st at hJ
    rw [R1 J (by omega), R15, R14]
    unfold upd
    rw [if_neg (by omega), if_neg (by omega), if_neg (by omega), if_neg (by omega), if_neg (by omega), if_neg (by omega), if_neg (by omega), if_neg (by omega), if_neg (by omega), if_neg (by omega), if_neg (by omega), if_neg (by omega), if_neg (by omega), if_neg (by omega), if_neg (by omega), if_neg (by omega), if_neg (by omega)]
  refine ⟨⟨⟨by rw [R1 0 (by omega), R15, R14]; rfl, by rw [R1 1 (by omega), R15, R14]; rfl, ?_, by rw [R1 21 (by omega), R15]; rfl⟩, fun j hj => ?_, fun j hj => ?_, ⟨?_, ?_, ?_, ?_⟩, fun _ => ⟨by rw [R1 2 (by omega)]; rfl, by rw [R1 3 (by omega)]; rfl, ?_⟩, fun n => absurd (Or.inl rfl) n⟩, st, ?_, ?_, ?_, rfl, rfl, rfl, rfl, fun j hj => ?_⟩
  · rw [st 39 (Or.inr (Or.inr (Or.inr (by omega))))]; exact u39
  · rw [zr j hj, hz j, if_pos hj]
  · by_cases q : 40 + j < 54
    · rw [st (40 + j) (Or.inr (Or.inr (Or.inr (by omega))))]; exact uq j hj
    · omega
  · rw [T, fl_uL, fl_uL, fl_uL, if_neg (by omega), if_neg (by omega), if_neg (by omega)]; exact us0
  · rw [T, fl_uL, fl_uL, fl_uL, if_neg (by omega), if_neg (by omega), if_neg (by omega)]; exact us1
  · rw [T, fl_uL, fl_uL, fl_uL, if_neg (by omega), if_neg (by omega), if_pos (by omega), zz]
  · rw [T, fl_uL, fl_uL, if_neg (by omega), if_pos (by omega), zz]
  · rw [T, fl_uL, if_pos rfl]
  · rw [hf, hf2]
    refine fl_outt ?_ (fl_outt (fl_kpo hk) (by rw [hy2, hy1]; exact fl_outt (fl_outu (by omega)) (fl_outu (by omega))))
    rw [h17, h16, h14, h13, h12, h11, h10, h9, h8, h7, h6, h5, h4, h3, h2, h1]
    exact fl_outt (fl_outu (by omega)) (fl_outt (fl_outu (by omega)) (fl_outt (fl_outu (by omega)) (fl_outt (fl_outu (by omega)) (fl_outt (fl_outu (by omega)) (fl_outt (fl_outu (by omega)) (fl_outt (fl_outu (by omega)) (fl_outt (fl_outu (by omega)) (fl_outt (fl_outu (by omega)) (fl_outt (fl_outu (by omega)) (fl_outt (fl_outu (by omega)) (fl_outt (fl_outu (by omega)) (fl_outt (fl_outu (by omega)) (fl_outt (fl_outu (by omega)) (fl_outu (by omega)))))))))))))))
  · rw [hf, hf2]
    refine fl_rect ?_ (fl_rect (fl_reck hk) (by rw [hy2, hy1]; exact fl_rect (fl_recu hc (by omega)) (fl_recu hc (by omega))))
    rw [h17, h16, h14, h13, h12, h11, h10, h9, h8, h7, h6, h5, h4, h3, h2, h1]
    exact fl_rect (fl_recu hc (by omega)) (fl_rect (fl_recu hc (by omega)) (fl_rect (fl_recu hc (by omega)) (fl_rect (fl_recu hc (by omega)) (fl_rect (fl_recu hc (by omega)) (fl_rect (fl_recu hc (by omega)) (fl_rect (fl_recu hc (by omega)) (fl_rect (fl_recu hc (by omega)) (fl_rect (fl_recu hc (by omega)) (fl_rect (fl_recu hc (by omega)) (fl_rect (fl_recu hc (by omega)) (fl_rect (fl_recu hc (by omega)) (fl_rect (fl_recu hc (by omega)) (fl_rect (fl_recu hc (by omega)) (fl_recu hc (by omega)))))))))))))))
  · rw [T]
    exact fl_sut (fl_suu (by omega) (by omega)) (fl_sut (fl_suu (by omega) (by omega)) (fl_suu (by omega) (by omega)))
  · rw [hz j, if_pos hj]
/-! the queue, and how a step is left -/
theorem fl_at4 {b : Nat → Int32} {i r : Int32} {K : Nat} (hi : i.toInt = K) (hK : K < 4) (h : a_X10_at_4 b i r) : r = b K := by
  have t : (4 : Int32).toInt = 4 := by decide
  have z : (0 : Int32).toInt = 0 := by decide
  rcases h with ⟨n, _⟩ | ⟨_, ⟨_, h⟩ | ⟨n, _⟩⟩
  · rw [Int32.lt_iff_toInt_lt] at n; omega
  · rw [h]
    exact congrArg b (by show i.toInt.toNat = K; omega)
  · rw [Int32.lt_iff_toInt_lt] at n; omega
