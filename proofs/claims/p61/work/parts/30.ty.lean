/-! typed worlds: each address has a kind, each reference leads to its kind; a method that needs no more is proved over any world of that shape -/
abbrev ty_K : Type := Nat ⊕ (Nat × Nat)
abbrev ty_S : Type := Nat → Option ty_K
abbrev ty_Q : Type := ty_S → Value → Prop
def ty_I : ty_Q := fun _ v => ∃ x : Int32, v = .int x
def ty_J : ty_Q := fun _ v => ∃ x : Int64, v = .long x
def ty_Z : ty_Q := fun _ v => ∃ x : Int32, v = .int x ∧ vp_nar .boolean x = x
def ty_B (lo hi : Int) : ty_Q := fun _ v => ∃ x : Int32, v = .int x ∧ lo ≤ x.toInt ∧ x.toInt ≤ hi
def ty_R (c : Nat) : ty_Q := fun S v => ∃ a : Nat, v = .ref a ∧ S a = some (.inl c)
def ty_A (k : Nat) : ty_Q := fun S v => ∃ a n : Nat, v = .ref a ∧ S a = some (.inr (k, n))
def ty_F : Nat → List ty_Q
  | 0 => [ty_A 0, ty_I, ty_I, ty_I, ty_I, ty_I, ty_I, ty_I, ty_I, ty_I, ty_I, ty_I, ty_I, ty_I, ty_I, ty_R 3]
  | 1 => [ty_I, ty_R 0, ty_R 4, ty_I, ty_I, ty_I, ty_I, ty_A 0, ty_A 0, ty_I, ty_J, ty_J, ty_Z, ty_J]
  | 2 => [ty_I, ty_A 1, ty_A 0, ty_A 0]
  | 3 => [ty_J, ty_J, ty_J, ty_J]
  | 4 => [ty_I, ty_I, ty_I, ty_I, ty_I, ty_I, ty_A 0]
  | 5 => [ty_B 0 4, ty_A 0, ty_A 0, ty_A 0, ty_A 0]
  | 6 => []
  | 7 => [ty_I, ty_I, ty_I, ty_I, ty_I, ty_I, ty_I, ty_I, ty_I, ty_I, ty_I, ty_I]
  | 8 => [ty_I, ty_I, ty_A 0, ty_I, ty_I]
  | 9 => [ty_I, ty_R 7, ty_R 2, ty_R 5, ty_I, ty_A 3, ty_R 8, ty_R 8]
  | _ + 10 => []
def ty_ar (ct : Nat → ClassId) (S : ty_S) (n : Nat) (e : va_E) : Nat → Prop
  | 0 => ∃ f : Nat → Int32, e = .inl (ct 0, n, .inl f)
  | 1 => ∃ f : Nat → Int64, e = .inl (ct 1, n, .inr (.inl f))
  | 2 => False
  | 3 => ∃ f : Nat → Option Nat, e = .inl (ct 3, n, .inr (.inr (.inr (.inr f)))) ∧ ∀ (j b : Nat), f j = some b → S b = some (.inl 1)
  | 4 => ∃ f : Nat → Option Nat, e = .inl (ct 4, n, .inr (.inr (.inr (.inr f)))) ∧ ∀ (j b : Nat), f j = some b → S b = some (.inl 9)
  | _ + 5 => False
def ty_ok (ct : Nat → ClassId) (S : ty_S) (κ : ty_K) (e : va_E) : Prop := match κ with
  | .inl c => ∃ fs : List Value, e = .inr (c, fs) ∧ fs.length = (ty_F c).length ∧ ∀ (k : Nat) (q : ty_Q), (ty_F c)[k]? = some q → ∃ v, fs[k]? = some v ∧ q S v
  | .inr q => q.2 < 2 ^ 31 ∧ ty_ar ct S q.2 e q.1
def ty_W (ct : Nat → ClassId) (S : ty_S) (ws : va_W) : Prop := ∀ (a : Nat) (κ : ty_K), S a = some κ → ∃ (j : Nat) (e : va_E), ws[j]? = some (a, e) ∧ ty_ok ct S κ e
/-- a predicate on worlds that is kept by stores: to fields where xx allows it, to rows of numbers, to new cells -/
def ty_C (ph : va_W → Prop) (xx : Nat → Nat → Nat → Prop) : Prop :=
  (∀ (ws : va_W) (j b c k : Nat) (fs : List Value) (v : Value), ws[j]? = some (b, .inr (c, fs)) → xx c k b → ph ws → ph (ws.set j (b, .inr (c, fs.set k v)))) ∧
  (∀ (ws : va_W) (j b n : Nat) (cA : ClassId) (f g : Nat → Int32), ws[j]? = some (b, .inl (cA, n, .inl f)) → ph ws → ph (ws.set j (b, .inl (cA, n, .inl g)))) ∧
  (∀ (ws : va_W) (j b n : Nat) (cA : ClassId) (f g : Nat → Int64), ws[j]? = some (b, .inl (cA, n, .inr (.inl f))) → xx 11 0 b → ph ws → ph (ws.set j (b, .inl (cA, n, .inr (.inl g))))) ∧
  (∀ (ws : va_W) (j b n : Nat) (cA : ClassId) (f g : Nat → Option Nat), ws[j]? = some (b, .inl (cA, n, .inr (.inr (.inr (.inr f))))) → xx 14 0 b → ph ws → ph (ws.set j (b, .inl (cA, n, .inr (.inr (.inr (.inr g))))))) ∧
  (∀ (ws : va_W) (x : Nat × va_E), ph ws → ph (x :: ws))
def ty_V (ct : Nat → ClassId) (S : ty_S) (ph : va_W → Prop) (ws : va_W) : Prop := ty_W ct S ws ∧ ph ws
def ty_fr (c : Nat) : Bool := !(c == 9 || c == 2 || c == 5 || c == 7 || c == 11 || c == 14)
def ty_y1 (xx : Nat → Nat → Nat → Prop) : Prop := ∀ c k b : Nat, ty_fr c = true → xx c k b
def ty_y9 (xx : Nat → Nat → Nat → Prop) : Prop := ∀ b : Nat, xx 9 0 b ∧ xx 9 4 b
def ty_y0 (xx : Nat → Nat → Nat → Prop) (c : Nat) : Prop := ∀ b : Nat, xx c 0 b
def ty_yc (xx : Nat → Nat → Nat → Prop) (c : Nat) : Prop := ∀ k b : Nat, xx c k b
theorem ty_set {ct : Nat → ClassId} {S : ty_S} {ws : va_W} (h : ty_W ct S ws) {j a : Nat} {e0 e : va_E} {κ : ty_K} (hj : ws[j]? = some (a, e0)) (ha : S a = some κ) (he : ty_ok ct S κ e) : ty_W ct S (ws.set j (a, e)) := by
  intro b κ' hb
  obtain ⟨i, e', hi, ho⟩ := h b κ' hb
  have hl : j < ws.length := (List.getElem?_eq_some_iff.mp hj).1
  by_cases hij : i = j
  · subst hij
    have h1 : (a, e0) = (b, e') := Option.some.inj (hj.symm.trans hi)
    have h2 : a = b := congrArg Prod.fst h1
    subst h2
    have h3 : κ = κ' := Option.some.inj (ha.symm.trans hb)
    subst h3
    exact ⟨i, e, List.getElem?_set_self hl, he⟩
  · exact ⟨i, e', by rw [List.getElem?_set_ne (fun q => hij q.symm)]; exact hi, ho⟩
theorem ty_lt {ct : Nat → ClassId} {S : ty_S} {ws : va_W} (h : ty_W ct S ws) {a k n : Nat} (ha : S a = some (.inr (k, n))) : n < 2 ^ 31 := by
  obtain ⟨j, e, -, ho⟩ := h a _ ha
  exact ho.1
theorem ty_app {E ws : va_W} {j : Nat} {x : Nat × va_E} (h : ws[j]? = some x) : (E ++ ws)[E.length + j]? = some x := by
  rw [List.getElem?_append_right (Nat.le_add_right _ _), Nat.add_sub_cancel_left]
  exact h
theorem ty_aset {E ws : va_W} (j : Nat) (x : Nat × va_E) : (E ++ ws).set (E.length + j) x = E ++ ws.set j x := by
  rw [List.set_append_right _ _ (Nat.le_add_right _ _), Nat.add_sub_cancel_left]
theorem ty_rng : ∀ (ws E : va_W), (List.range' E.length ws.length).map (fun i => (E ++ ws)[i]?) = ws.map some
  | [], E => rfl
  | w :: ws, E => by
    have h := ty_rng ws (E ++ [w])
    rw [List.length_append, List.append_assoc] at h
    rw [List.length_cons, List.range'_succ, List.map_cons, List.map_cons]
    have h0 : (E ++ w :: ws)[E.length]? = some w := by
      rw [List.getElem?_append_right (Nat.le_refl _), Nat.sub_self]
      rfl
    rw [h0]
    exact congrArg (some w :: ·) h
theorem ty_rng0 : ∀ (ws E : va_W), (List.range' 0 E.length).map (fun i => (E ++ ws)[i]?) = E.map some := by
  intro ws E
  apply List.ext_getElem?
  intro i
  by_cases h : i < E.length
  · simp [h, List.getElem?_append_left h]
  · simp [Nat.not_lt.mp h]
theorem ty_nd (s n : Nat) : va_nd (List.range' s n) = true := by
  have key : ∀ l : List Nat, l.Nodup → va_nd l = true := by
    intro l
    induction l with
    | nil => intro _; rfl
    | cons a l ih =>
      intro h
      rw [List.nodup_cons] at h
      simp only [va_nd, Bool.and_eq_true, decide_eq_true_eq]
      exact ⟨h.1, ih h.2⟩
  exact key _ List.nodup_range'
theorem ty_fil {ws wc : va_W} {is : List Nat} (h : is.map (fun i => ws[i]?) = wc.map some) : is.filterMap (fun i => ws[i]?) = wc := by
  have h1 : is.filterMap (fun i => ws[i]?) = (is.map (fun i => ws[i]?)).filterMap id := by
    rw [List.filterMap_map]
    rfl
  rw [h1, h, List.filterMap_map]
  exact List.filterMap_some
theorem ty_dis {a b : Nat} : ∀ i ∈ List.range' 0 a, i ∉ List.range' a b := by
  intro i h1 h2
  rw [List.mem_range'_1] at h1 h2
  omega
/-- the class's object and its reader, folded -/
def ty_XO (x w sp sv bu : Nat) (bl le : Int32) : Nat × va_E := (x, .inr (10, [.ref w, .ref sp, .ref sv, .ref bu, .int bl, .int le]))
def rf_RW (ct : Nat → ClassId) (j a n : Nat) (f : Nat → Int32) : Nat × va_E := (a, .inl (ct j, n, .inl f))
def ty_RD (rd bt : Nat) (ln : Int32) (tg : Nat) (pl wst er ep : Int32) : Nat × va_E := (rd, .inr (6, [.ref bt, .int ln, .ref tg, .int pl, .int wst, .int er, .int ep]))
/-- a field that is read again -/
def ty_fd (ws : va_W) (b k : Nat) (v : Value) : Prop := ∃ (j ci : Nat) (fs : List Value), ws[j]? = some (b, .inr (ci, fs)) ∧ fs[k]? = some v
theorem ty_fdu {A : Nat → Prop} {E ws : va_W} {b k j ci : Nat} {v : Value} {fs : List Value} (hD : va_D A (E ++ ws)) (hf : ty_fd ws b k v) (hj : ws[j]? = some (b, .inr (ci, fs))) : fs[k]? = some v := by
  obtain ⟨j2, c2, f2, h2, hv⟩ := hf
  have e := hD.1 (E.length + j) (E.length + j2) _ _ (ty_app hj) (ty_app h2) rfl
  have e2 : j = j2 := by omega
  subst e2
  have e3 := Option.some.inj (hj.symm.trans h2)
  cases e3
  exact hv
/-- facts of a world, and by what stores they are kept -/
def ty_fc (a c k : Nat) (v : Value) (ws : va_W) : Prop := ∃ (j : Nat) (fs : List Value), ws[j]? = some (a, .inr (c, fs)) ∧ fs[k]? = some v
def ty_fl (a : Nat) (f : Nat → Int64) (ws : va_W) : Prop := ∃ (j n : Nat) (cA : ClassId), ws[j]? = some (a, .inl (cA, n, .inr (.inl f)))
def ty_fq (a : Nat) (ws : va_W) : Prop := ∃ (j n : Nat) (cA : ClassId) (f : Nat → Option Nat), ws[j]? = some (a, .inl (cA, n, .inr (.inr (.inr (.inr f))))) ∧ ∀ i : Nat, i < 6 → f i ≠ none
theorem ty_flu {A : Nat → Prop} {E ws : va_W} {b j n : Nat} {cA : ClassId} {nf f : Nat → Int64} (hD : va_D A (E ++ ws)) (hf : ty_fl b nf ws) (hj : ws[j]? = some (b, .inl (cA, n, .inr (.inl f)))) : f = nf := by
  obtain ⟨j2, n2, c2, h2⟩ := hf
  have e := hD.1 (E.length + j) (E.length + j2) _ _ (ty_app hj) (ty_app h2) rfl
  have e2 : j = j2 := by omega
  subst e2
  have e3 := Option.some.inj (hj.symm.trans h2)
  cases e3
  rfl
theorem ty_fqu {A : Nat → Prop} {E ws : va_W} {b j n : Nat} {cA : ClassId} {f : Nat → Option Nat} (hD : va_D A (E ++ ws)) (hf : ty_fq b ws) (hj : ws[j]? = some (b, .inl (cA, n, .inr (.inr (.inr (.inr f)))))) (i : Nat) (hi : i < 6) : f i ≠ none := by
  obtain ⟨j2, n2, c2, f2, h2, hv⟩ := hf
  have e := hD.1 (E.length + j) (E.length + j2) _ _ (ty_app hj) (ty_app h2) rfl
  have e2 : j = j2 := by omega
  subst e2
  have e3 := Option.some.inj (hj.symm.trans h2)
  cases e3
  exact hv i hi
def ty_fdle (ws ws' : va_W) : Prop := ∀ (b k : Nat) (v : Value), ty_fd ws b k v → ty_fd ws' b k v
theorem ty_fds {ws : va_W} {j a : Nat} {x y : ClassId × vp_A} (hj : ws[j]? = some (a, .inl x)) : ty_fdle ws (ws.set j (a, .inl y)) := by
  intro b k v h
  obtain ⟨j2, c2, f2, h2, hv⟩ := h
  refine ⟨j2, c2, f2, ?_, hv⟩
  have hne : j ≠ j2 := by
    intro q
    subst q
    rw [hj] at h2
    cases h2
  rw [List.getElem?_set_ne hne]
  exact h2
def cmBY (D : va_G) (W0 : va_W) (sz : Nat) {S : Type} (EX : List String) (OX : S → va_W) (E : String) (u : S) (t : State) : Prop := E ∈ EX ∧ va_P D vwCl (OX u) t.heap ∧ va_D (va_A W0 sz) (OX u)
theorem ty_mem {E : String} {L1 L2 : List String} (h : E ∈ L1) (hs : ∀ x ∈ L1, x ∈ L2) : E ∈ L2 := hs E h
section TY
variable {p : Program} {l : Launch} {e : Env} {R : Room} {s : State} {m : MethodId} {args : Array Value} {below : List Frame} {meth : Method} {c : Code} {H : Heap} {locs : List Loc} {cells slots : Nat} {Q : State → Prop}
variable {mc ms : Nat} {A : Nat → Prop} {H0 : Heap} {a : Array Value} {pc : Nat} {ls : Array Slot} {st0 rest : List Value} {D : va_G} {ct : Nat → ClassId} {ws wc wr E : va_W} {free : Addr → Prop} {S : ty_S} {b : Nat} {ph : va_W → Prop} {xx : Nat → Nat → Nat → Prop}
theorem ty_get {cc : ByteArray} (hexec : p.tables.exec = Jvm.exec) (hb : c.code = cc) {own ref C : String} {T : u_T} {N ci index : Nat} {Ts : List Cond} (hts : ∀ w ∈ Ts, w.before args s = true) (hin : ∀ w ∈ u_ws C T N, w ∈ Ts) (hown : s.vm.findClass own = some m.cls) (hK : va_K D vwCl (cT ct) s) (hP : va_P D vwCl (E ++ ws) H) (hT : ty_V ct S ph ws) (ha : S b = some (.inl ci)) (hc : vwCl[ci]? = some (C, T, N)) (k : Nat) (hk : k < N) (hlink : (Cond.fieldLink own index ref (T k).2.1 (T k).2.2.1).before args s = true) (hsame : ∀ x, s.fieldFound? (T k).1 (T k).2.1 (T k).2.2.1 = some x → s.fieldFound? ref (T k).2.1 (T k).2.2.1 = some x) {q : ty_Q} (hq : (ty_F ci)[k]? = some q) (hdg : decode cc pc = .ok (.getfield index, 3))
    (kk : ∀ v : Value, q S v → ty_fd ws b k v → W p l e R s m args below meth c H locs cells slots Q (F0 m (pc + 3) ls (v :: rest))) : W p l e R s m args below meth c H locs cells slots Q (F0 m pc ls (.ref b :: rest)) := by
  obtain ⟨j, e9, hj, ho⟩ := hT.1 b _ ha
  obtain ⟨fs, rfl, hl, hf⟩ := ho
  obtain ⟨v, hv, hqv⟩ := hf k q hq
  exact va_get hexec hb hts hin hown hK hP (E.length + j) (ty_app hj) hc k hk hlink hsame hv hdg (kk v hqv ⟨j, ci, fs, hj, hv⟩)
theorem ty_getD {cc : ByteArray} (hexec : p.tables.exec = Jvm.exec) (hb : c.code = cc) {own ref C : String} {T : u_T} {N ci index : Nat} {Ts : List Cond} (hts : ∀ w ∈ Ts, w.before args s = true) (hin : ∀ w ∈ u_ws C T N, w ∈ Ts) (hown : s.vm.findClass own = some m.cls) (hK : va_K D vwCl (cT ct) s) (hP : va_P D vwCl (E ++ ws) H) (hD : va_D A (E ++ ws)) (hT : ty_V ct S ph ws) (ha : S b = some (.inl ci)) (hc : vwCl[ci]? = some (C, T, N)) (k : Nat) (hk : k < N) (hlink : (Cond.fieldLink own index ref (T k).2.1 (T k).2.2.1).before args s = true) (hsame : ∀ x, s.fieldFound? (T k).1 (T k).2.1 (T k).2.2.1 = some x → s.fieldFound? ref (T k).2.1 (T k).2.2.1 = some x) {v : Value} (hf9 : ty_fd ws b k v) (hdg : decode cc pc = .ok (.getfield index, 3))
    (kk : W p l e R s m args below meth c H locs cells slots Q (F0 m (pc + 3) ls (v :: rest))) : W p l e R s m args below meth c H locs cells slots Q (F0 m pc ls (.ref b :: rest)) := by
  obtain ⟨j, e9, hj, ho⟩ := hT.1 b _ ha
  obtain ⟨fs, rfl, hl, hf⟩ := ho
  exact va_get hexec hb hts hin hown hK hP (E.length + j) (ty_app hj) hc k hk hlink hsame (ty_fdu hD hf9 hj) hdg kk
theorem ty_getN {cc : ByteArray} (hexec : p.tables.exec = Jvm.exec) (hb : c.code = cc) {own ref C host : String} {T : u_T} {N ci index : Nat} {Ts : List Cond} (hts : ∀ w ∈ Ts, w.before args s = true) (hin : ∀ w ∈ u_ws C T N, w ∈ Ts) (hown : s.vm.findClass own = some m.cls) (hK : va_K D vwCl (cT ct) s) (hP : va_P D vwCl (E ++ ws) H) (hT : ty_V ct S ph ws) (ha : S b = some (.inl ci)) (hc : vwCl[ci]? = some (C, T, N)) (k : Nat) (hk : k < N) (hlink : (Cond.fieldLinkNest own index ref (T k).2.1 (T k).2.2.1 host).before args s = true) (hsame : ∀ x, s.fieldFound? (T k).1 (T k).2.1 (T k).2.2.1 = some x → s.fieldFound? ref (T k).2.1 (T k).2.2.1 = some x) {q : ty_Q} (hq : (ty_F ci)[k]? = some q) (hdg : decode cc pc = .ok (.getfield index, 3))
    (kk : ∀ v : Value, q S v → ty_fd ws b k v → W p l e R s m args below meth c H locs cells slots Q (F0 m (pc + 3) ls (v :: rest))) : W p l e R s m args below meth c H locs cells slots Q (F0 m pc ls (.ref b :: rest)) := by
  obtain ⟨j, e9, hj, ho⟩ := hT.1 b _ ha
  obtain ⟨fs, rfl, hl, hf⟩ := ho
  obtain ⟨v, hv, hqv⟩ := hf k q hq
  exact va_getN hexec hb hts hin hown hK hP (E.length + j) (ty_app hj) hc k hk hlink hsame hv hdg (kk v hqv ⟨j, ci, fs, hj, hv⟩)
theorem ty_getDN {cc : ByteArray} (hexec : p.tables.exec = Jvm.exec) (hb : c.code = cc) {own ref C host : String} {T : u_T} {N ci index : Nat} {Ts : List Cond} (hts : ∀ w ∈ Ts, w.before args s = true) (hin : ∀ w ∈ u_ws C T N, w ∈ Ts) (hown : s.vm.findClass own = some m.cls) (hK : va_K D vwCl (cT ct) s) (hP : va_P D vwCl (E ++ ws) H) (hD : va_D A (E ++ ws)) (hT : ty_V ct S ph ws) (ha : S b = some (.inl ci)) (hc : vwCl[ci]? = some (C, T, N)) (k : Nat) (hk : k < N) (hlink : (Cond.fieldLinkNest own index ref (T k).2.1 (T k).2.2.1 host).before args s = true) (hsame : ∀ x, s.fieldFound? (T k).1 (T k).2.1 (T k).2.2.1 = some x → s.fieldFound? ref (T k).2.1 (T k).2.2.1 = some x) {v : Value} (hf9 : ty_fd ws b k v) (hdg : decode cc pc = .ok (.getfield index, 3))
    (kk : W p l e R s m args below meth c H locs cells slots Q (F0 m (pc + 3) ls (v :: rest))) : W p l e R s m args below meth c H locs cells slots Q (F0 m pc ls (.ref b :: rest)) := by
  obtain ⟨j, e9, hj, ho⟩ := hT.1 b _ ha
  obtain ⟨fs, rfl, hl, hf⟩ := ho
  exact va_getN hexec hb hts hin hown hK hP (E.length + j) (ty_app hj) hc k hk hlink hsame (ty_fdu hD hf9 hj) hdg kk
theorem ty_fs {ci k : Nat} {q : ty_Q} {fs : List Value} {v : Value} (hl : fs.length = (ty_F ci).length) (hf : ∀ (k : Nat) (q : ty_Q), (ty_F ci)[k]? = some q → ∃ v, fs[k]? = some v ∧ q S v) (hq : (ty_F ci)[k]? = some q) (hv : q S v) : ty_ok ct S (.inl ci) (.inr (ci, fs.set k v)) := by
  have hkl : k < fs.length := by rw [hl]; exact (List.getElem?_eq_some_iff.mp hq).1
  refine ⟨fs.set k v, rfl, by rw [List.length_set]; exact hl, fun k' q' hq' => ?_⟩
  by_cases h : k = k'
  · subst h
    have h2 : q = q' := Option.some.inj (hq.symm.trans hq')
    subst h2
    exact ⟨v, List.getElem?_set_self hkl, hv⟩
  · obtain ⟨v', h1, h2⟩ := hf k' q' hq'
    exact ⟨v', by rw [List.getElem?_set_ne h]; exact h1, h2⟩
theorem ty_put {cc : ByteArray} (hexec : p.tables.exec = Jvm.exec) (hb : c.code = cc) {own ref C : String} {T : u_T} {N ci index : Nat} {Ts : List Cond} (hts : ∀ w ∈ Ts, w.before args s = true) (hin : ∀ w ∈ u_ws C T N, w ∈ Ts) (ty0 : Nat → FieldType) (hty : ∀ k, k < N → parseFieldDescriptor (T k).2.2.1 = some (ty0 k)) (hnm : ∀ a, a < N → ∀ b, b < N → a ≠ b → (T a).2.1 ≠ (T b).2.1) (hown : s.vm.findClass own = some m.cls) (hK : va_K D vwCl (cT ct) s) (hP : va_P D vwCl (E ++ ws) H) (hD : va_D A (E ++ ws)) (hS0 : va_S A H0 H locs) (hT : ty_V ct S ph ws) (ha : S b = some (.inl ci)) (hc : vwCl[ci]? = some (C, T, N)) (k : Nat) (hk : k < N) (hlink : (Cond.fieldLink own index ref (T k).2.1 (T k).2.2.1).before args s = true) (hsame : ∀ x, s.fieldFound? (T k).1 (T k).2.1 (T k).2.2.1 = some x → s.fieldFound? ref (T k).2.1 (T k).2.2.1 = some x) (hfin : (T k).2.2.2 = false) {ty : FieldType} {v : Value} (hd : parseFieldDescriptor (T k).2.2.1 = some ty) (hn : narrow ty v = v) (hfit : fits ty v = true) {q : ty_Q} (hq : (ty_F ci)[k]? = some q) (hqv : q S v) (hdg : decode cc pc = .ok (.putfield index, 3)) (hcl : ty_C ph xx) (hxx : xx ci k b)
    (kk : ∀ (ws : va_W) (H1 : Heap) (locs1 : List Loc), ty_V ct S ph ws → va_P D vwCl (E ++ ws) H1 → va_D A (E ++ ws) → va_S A H0 H1 locs1 → W p l e R s m args below meth c H1 locs1 cells slots Q (F0 m (pc + 3) ls rest)) : W p l e R s m args below meth c H locs cells slots Q (F0 m pc ls (v :: .ref b :: rest)) := by
  obtain ⟨j, e9, hj, ho⟩ := hT.1 b _ ha
  obtain ⟨fs, rfl, hl, hf⟩ := ho
  have hkl : k < fs.length := by rw [hl]; exact (List.getElem?_eq_some_iff.mp hq).1
  refine va_put hexec hb hts hin ty0 hty hnm hown hK hP hD hS0 (E.length + j) (ty_app hj) hc k hk hlink hsame hfin hd hn hfit hkl hdg (fun H1 locs1 hP1 hD1 hS1 => ?_)
  rw [ty_aset] at hP1 hD1
  exact kk _ H1 locs1 ⟨ty_set hT.1 hj ha (ty_fs hl hf hq hqv), hcl.1 _ _ _ _ _ _ _ hj hxx hT.2⟩ hP1 hD1 hS1
theorem ty_putN {cc : ByteArray} (hexec : p.tables.exec = Jvm.exec) (hb : c.code = cc) {own ref C host : String} {T : u_T} {N ci index : Nat} {Ts : List Cond} (hts : ∀ w ∈ Ts, w.before args s = true) (hin : ∀ w ∈ u_ws C T N, w ∈ Ts) (ty0 : Nat → FieldType) (hty : ∀ k, k < N → parseFieldDescriptor (T k).2.2.1 = some (ty0 k)) (hnm : ∀ a, a < N → ∀ b, b < N → a ≠ b → (T a).2.1 ≠ (T b).2.1) (hown : s.vm.findClass own = some m.cls) (hK : va_K D vwCl (cT ct) s) (hP : va_P D vwCl (E ++ ws) H) (hD : va_D A (E ++ ws)) (hS0 : va_S A H0 H locs) (hT : ty_V ct S ph ws) (ha : S b = some (.inl ci)) (hc : vwCl[ci]? = some (C, T, N)) (k : Nat) (hk : k < N) (hlink : (Cond.fieldLinkNest own index ref (T k).2.1 (T k).2.2.1 host).before args s = true) (hsame : ∀ x, s.fieldFound? (T k).1 (T k).2.1 (T k).2.2.1 = some x → s.fieldFound? ref (T k).2.1 (T k).2.2.1 = some x) (hfin : (T k).2.2.2 = false) {ty : FieldType} {v : Value} (hd : parseFieldDescriptor (T k).2.2.1 = some ty) (hn : narrow ty v = v) (hfit : fits ty v = true) {q : ty_Q} (hq : (ty_F ci)[k]? = some q) (hqv : q S v) (hdg : decode cc pc = .ok (.putfield index, 3)) (hcl : ty_C ph xx) (hxx : xx ci k b)
    (kk : ∀ (ws : va_W) (H1 : Heap) (locs1 : List Loc), ty_V ct S ph ws → va_P D vwCl (E ++ ws) H1 → va_D A (E ++ ws) → va_S A H0 H1 locs1 → W p l e R s m args below meth c H1 locs1 cells slots Q (F0 m (pc + 3) ls rest)) : W p l e R s m args below meth c H locs cells slots Q (F0 m pc ls (v :: .ref b :: rest)) := by
  obtain ⟨j, e9, hj, ho⟩ := hT.1 b _ ha
  obtain ⟨fs, rfl, hl, hf⟩ := ho
  have hkl : k < fs.length := by rw [hl]; exact (List.getElem?_eq_some_iff.mp hq).1
  refine va_putN hexec hb hts hin ty0 hty hnm hown hK hP hD hS0 (E.length + j) (ty_app hj) hc k hk hlink hsame hfin hd hn hfit hkl hdg (fun H1 locs1 hP1 hD1 hS1 => ?_)
  rw [ty_aset] at hP1 hD1
  exact kk _ H1 locs1 ⟨ty_set hT.1 hj ha (ty_fs hl hf hq hqv), hcl.1 _ _ _ _ _ _ _ hj hxx hT.2⟩ hP1 hD1 hS1
theorem ty_alen0 {cc : ByteArray} (hexec : p.tables.exec = Jvm.exec) (hb : c.code = cc) (hK : va_K D vwCl (cT ct) s) (hP : va_P D vwCl (E ++ ws) H) (hT : ty_V ct S ph ws) {n : Nat} (ha : S b = some (.inr (0, n))) (hdg : decode cc pc = .ok (.arraylength, 1))
    (kk : W p l e R s m args below meth c H locs cells slots Q (F0 m (pc + 1) ls (.int (Int32.ofNat n) :: rest))) : W p l e R s m args below meth c H locs cells slots Q (F0 m pc ls (.ref b :: rest)) := by
  obtain ⟨j, e9, hj, hn, f, rfl⟩ := hT.1 b _ ha
  exact va_alen hexec hb hK hP (E.length + j) 0 (ty_app hj) rfl rfl hdg kk
theorem ty_alen1 {cc : ByteArray} (hexec : p.tables.exec = Jvm.exec) (hb : c.code = cc) (hK : va_K D vwCl (cT ct) s) (hP : va_P D vwCl (E ++ ws) H) (hT : ty_V ct S ph ws) {n : Nat} (ha : S b = some (.inr (1, n))) (hdg : decode cc pc = .ok (.arraylength, 1))
    (kk : W p l e R s m args below meth c H locs cells slots Q (F0 m (pc + 1) ls (.int (Int32.ofNat n) :: rest))) : W p l e R s m args below meth c H locs cells slots Q (F0 m pc ls (.ref b :: rest)) := by
  obtain ⟨j, e9, hj, hn, f, rfl⟩ := hT.1 b _ ha
  exact va_alen hexec hb hK hP (E.length + j) 1 (ty_app hj) rfl rfl hdg kk
theorem ty_alen3 {cc : ByteArray} (hexec : p.tables.exec = Jvm.exec) (hb : c.code = cc) (hK : va_K D vwCl (cT ct) s) (hP : va_P D vwCl (E ++ ws) H) (hT : ty_V ct S ph ws) {n : Nat} (ha : S b = some (.inr (3, n))) (hdg : decode cc pc = .ok (.arraylength, 1))
    (kk : W p l e R s m args below meth c H locs cells slots Q (F0 m (pc + 1) ls (.int (Int32.ofNat n) :: rest))) : W p l e R s m args below meth c H locs cells slots Q (F0 m pc ls (.ref b :: rest)) := by
  obtain ⟨j, e9, hj, hn, f, rfl, hf⟩ := hT.1 b _ ha
  exact va_alen hexec hb hK hP (E.length + j) 3 (ty_app hj) rfl rfl hdg kk
theorem ty_alen4 {cc : ByteArray} (hexec : p.tables.exec = Jvm.exec) (hb : c.code = cc) (hK : va_K D vwCl (cT ct) s) (hP : va_P D vwCl (E ++ ws) H) (hT : ty_V ct S ph ws) {n : Nat} (ha : S b = some (.inr (4, n))) (hdg : decode cc pc = .ok (.arraylength, 1))
    (kk : W p l e R s m args below meth c H locs cells slots Q (F0 m (pc + 1) ls (.int (Int32.ofNat n) :: rest))) : W p l e R s m args below meth c H locs cells slots Q (F0 m pc ls (.ref b :: rest)) := by
  obtain ⟨j, e9, hj, hn, f, rfl, hf⟩ := hT.1 b _ ha
  exact va_alen hexec hb hK hP (E.length + j) 4 (ty_app hj) rfl rfl hdg kk
theorem ty_iald {cc : ByteArray} (hexec : p.tables.exec = Jvm.exec) (hb : c.code = cc) (hK : va_K D vwCl (cT ct) s) (hP : va_P D vwCl (E ++ ws) H) (hT : ty_V ct S ph ws) {n : Nat} (ha : S b = some (.inr (0, n))) {i : Int32} (hin : vp_in i n) (hdg : decode cc pc = .ok (.iaload, 1))
    (kk : ∀ x : Int32, W p l e R s m args below meth c H locs cells slots Q (F0 m (pc + 1) ls (.int x :: rest))) : W p l e R s m args below meth c H locs cells slots Q (F0 m pc ls (.int i :: .ref b :: rest)) := by
  obtain ⟨j, e9, hj, hn, f, rfl⟩ := hT.1 b _ ha
  exact va_iald hexec hb hK hP (E.length + j) 0 (ty_app hj) rfl hin hdg (kk _)
theorem ty_lald {cc : ByteArray} (hexec : p.tables.exec = Jvm.exec) (hb : c.code = cc) (hK : va_K D vwCl (cT ct) s) (hP : va_P D vwCl (E ++ ws) H) (hT : ty_V ct S ph ws) {n : Nat} (ha : S b = some (.inr (1, n))) {i : Int32} (hin : vp_in i n) (hdg : decode cc pc = .ok (.laload, 1))
    (kk : ∀ x : Int64, W p l e R s m args below meth c H locs cells slots Q (F0 m (pc + 1) ls (.long x :: rest))) : W p l e R s m args below meth c H locs cells slots Q (F0 m pc ls (.int i :: .ref b :: rest)) := by
  obtain ⟨j, e9, hj, hn, f, rfl⟩ := hT.1 b _ ha
  exact va_lald hexec hb hK hP (E.length + j) 1 (ty_app hj) rfl hin hdg (kk _)
theorem ty_aald3 {cc : ByteArray} (hexec : p.tables.exec = Jvm.exec) (hb : c.code = cc) (hK : va_K D vwCl (cT ct) s) (hP : va_P D vwCl (E ++ ws) H) (hT : ty_V ct S ph ws) {n : Nat} (ha : S b = some (.inr (3, n))) {i : Int32} (hin : vp_in i n) (hdg : decode cc pc = .ok (.aaload, 1))
    (k0 : W p l e R s m args below meth c H locs cells slots Q (F0 m (pc + 1) ls (.null :: rest)))
    (kk : ∀ x : Nat, S x = some (.inl 1) → W p l e R s m args below meth c H locs cells slots Q (F0 m (pc + 1) ls (.ref x :: rest))) : W p l e R s m args below meth c H locs cells slots Q (F0 m pc ls (.int i :: .ref b :: rest)) := by
  obtain ⟨j, e9, hj, hn, f, rfl, hf⟩ := hT.1 b _ ha
  refine va_aldq hexec hb hK hP (E.length + j) 3 (ty_app hj) rfl hin hdg ?_
  cases hx : f i.toNatClampNeg with
  | none => exact k0
  | some x => exact kk x (hf _ _ hx)
theorem ty_aald4 {cc : ByteArray} (hexec : p.tables.exec = Jvm.exec) (hb : c.code = cc) (hK : va_K D vwCl (cT ct) s) (hP : va_P D vwCl (E ++ ws) H) (hT : ty_V ct S ph ws) {n : Nat} (ha : S b = some (.inr (4, n))) {i : Int32} (hin : vp_in i n) (hdg : decode cc pc = .ok (.aaload, 1))
    (k0 : W p l e R s m args below meth c H locs cells slots Q (F0 m (pc + 1) ls (.null :: rest)))
    (kk : ∀ x : Nat, S x = some (.inl 9) → W p l e R s m args below meth c H locs cells slots Q (F0 m (pc + 1) ls (.ref x :: rest))) : W p l e R s m args below meth c H locs cells slots Q (F0 m pc ls (.int i :: .ref b :: rest)) := by
  obtain ⟨j, e9, hj, hn, f, rfl, hf⟩ := hT.1 b _ ha
  refine va_aldq hexec hb hK hP (E.length + j) 4 (ty_app hj) rfl hin hdg ?_
  cases hx : f i.toNatClampNeg with
  | none => exact k0
  | some x => exact kk x (hf _ _ hx)
theorem ty_iast {cc : ByteArray} (hexec : p.tables.exec = Jvm.exec) (hb : c.code = cc) (hK : va_K D vwCl (cT ct) s) {ws9 : va_W} (hP : va_P D vwCl (E ++ ws9) H) (hD : va_D A (E ++ ws9)) (hS0 : va_S A H0 H locs) (hT : ty_V ct S ph ws9) {n : Nat} (ha : S b = some (.inr (0, n))) {i x : Int32} (hin : vp_in i n) (hdg : decode cc pc = .ok (.iastore, 1)) (hcl : ty_C ph xx)
    (kk : ∀ (ws : va_W) (H1 : Heap) (locs1 : List Loc), ty_V ct S ph ws → va_P D vwCl (E ++ ws) H1 → va_D A (E ++ ws) → va_S A H0 H1 locs1 → ty_fdle ws9 ws → W p l e R s m args below meth c H1 locs1 cells slots Q (F0 m (pc + 1) ls rest)) : W p l e R s m args below meth c H locs cells slots Q (F0 m pc ls (.int x :: .int i :: .ref b :: rest)) := by
  obtain ⟨j, e9, hj, hn, f, rfl⟩ := hT.1 b _ ha
  refine va_iast hexec hb hK hP hD hS0 (E.length + j) 0 (ty_app hj) rfl hin hdg (fun H1 locs1 hP1 hD1 hS1 => ?_)
  rw [ty_aset] at hP1 hD1
  exact kk _ H1 locs1 ⟨ty_set hT.1 hj ha ⟨hn, _, rfl⟩, hcl.2.1 _ _ _ _ _ _ _ hj hT.2⟩ hP1 hD1 hS1 (ty_fds hj)
theorem ty_last {cc : ByteArray} (hexec : p.tables.exec = Jvm.exec) (hb : c.code = cc) (hK : va_K D vwCl (cT ct) s) (hP : va_P D vwCl (E ++ ws) H) (hD : va_D A (E ++ ws)) (hS0 : va_S A H0 H locs) (hT : ty_V ct S ph ws) {n : Nat} (ha : S b = some (.inr (1, n))) {i : Int32} {x : Int64} (hin : vp_in i n) (hdg : decode cc pc = .ok (.lastore, 1)) (hcl : ty_C ph xx) (hxx : xx 11 0 b)
    (kk : ∀ (ws : va_W) (H1 : Heap) (locs1 : List Loc), ty_V ct S ph ws → va_P D vwCl (E ++ ws) H1 → va_D A (E ++ ws) → va_S A H0 H1 locs1 → W p l e R s m args below meth c H1 locs1 cells slots Q (F0 m (pc + 1) ls rest)) : W p l e R s m args below meth c H locs cells slots Q (F0 m pc ls (.long x :: .int i :: .ref b :: rest)) := by
  obtain ⟨j, e9, hj, hn, f, rfl⟩ := hT.1 b _ ha
  refine va_last hexec hb hK hP hD hS0 (E.length + j) 1 (ty_app hj) rfl hin hdg (fun H1 locs1 hP1 hD1 hS1 => ?_)
  rw [ty_aset] at hP1 hD1
  exact kk _ H1 locs1 ⟨ty_set hT.1 hj ha ⟨hn, _, rfl⟩, hcl.2.2.1 _ _ _ _ _ _ _ hj hxx hT.2⟩ hP1 hD1 hS1
theorem ty_aast4 {cc : ByteArray} (hexec : p.tables.exec = Jvm.exec) (hb : c.code = cc) (hK : va_K D vwCl (cT ct) s) (hP : va_P D vwCl (E ++ ws) H) (hD : va_D A (E ++ ws)) (hS0 : va_S A H0 H locs) (hT : ty_V ct S ph ws) {n v : Nat} (ha : S b = some (.inr (4, n))) (hv : S v = some (.inl 9)) {i : Int32} (hin : vp_in i n) (hdg : decode cc pc = .ok (.aastore, 1)) (hcl : ty_C ph xx) (hxx : xx 14 0 b)
    (kk : ∀ (ws : va_W) (H1 : Heap) (locs1 : List Loc), ty_V ct S ph ws → va_P D vwCl (E ++ ws) H1 → va_D A (E ++ ws) → va_S A H0 H1 locs1 → W p l e R s m args below meth c H1 locs1 cells slots Q (F0 m (pc + 1) ls rest)) : W p l e R s m args below meth c H locs cells slots Q (F0 m pc ls (.ref v :: .int i :: .ref b :: rest)) := by
  obtain ⟨j, e9, hj, hn, f, rfl, hf⟩ := hT.1 b _ ha
  obtain ⟨j2, e2, hj2, fs, rfl, -, -⟩ := hT.1 v _ hv
  refine va_astq hexec hb hK hP hD hS0 (E.length + j) 4 (E.length + j2) 9 (ty_app hj) rfl (ty_app hj2) rfl hin hdg (fun H1 locs1 hP1 hD1 hS1 => ?_)
  rw [ty_aset] at hP1 hD1
  refine kk _ H1 locs1 ⟨ty_set hT.1 hj ha ⟨hn, _, rfl, fun j3 b3 h3 => ?_⟩, hcl.2.2.2.1 _ _ _ _ _ _ _ hj hxx hT.2⟩ hP1 hD1 hS1
  unfold va_up at h3
  split at h3
  · cases h3; exact hv
  · exact hf _ _ h3
theorem ty_aast3 {cc : ByteArray} (hexec : p.tables.exec = Jvm.exec) (hb : c.code = cc) (hK : va_K D vwCl (cT ct) s) (hP : va_P D vwCl (E ++ ws) H) (hD : va_D A (E ++ ws)) (hS0 : va_S A H0 H locs) (hT : ty_V ct S ph ws) {n v : Nat} (ha : S b = some (.inr (3, n))) (hv : S v = some (.inl 1)) {i : Int32} (hin : vp_in i n) (hdg : decode cc pc = .ok (.aastore, 1)) (hcl : ty_C ph xx) (hxx : xx 14 0 b)
    (kk : ∀ (ws : va_W) (H1 : Heap) (locs1 : List Loc), ty_V ct S ph ws → va_P D vwCl (E ++ ws) H1 → va_D A (E ++ ws) → va_S A H0 H1 locs1 → W p l e R s m args below meth c H1 locs1 cells slots Q (F0 m (pc + 1) ls rest)) : W p l e R s m args below meth c H locs cells slots Q (F0 m pc ls (.ref v :: .int i :: .ref b :: rest)) := by
  obtain ⟨j, e9, hj, hn, f, rfl, hf⟩ := hT.1 b _ ha
  obtain ⟨j2, e2, hj2, fs, rfl, -, -⟩ := hT.1 v _ hv
  refine va_astq hexec hb hK hP hD hS0 (E.length + j) 3 (E.length + j2) 1 (ty_app hj) rfl (ty_app hj2) rfl hin hdg (fun H1 locs1 hP1 hD1 hS1 => ?_)
  rw [ty_aset] at hP1 hD1
  refine kk _ H1 locs1 ⟨ty_set hT.1 hj ha ⟨hn, _, rfl, fun j3 b3 h3 => ?_⟩, hcl.2.2.2.1 _ _ _ _ _ _ _ hj hxx hT.2⟩ hP1 hD1 hS1
  unfold va_up at h3
  split at h3
  · cases h3; exact hv
  · exact hf _ _ h3
theorem ty_astx {cc : ByteArray} (hexec : p.tables.exec = Jvm.exec) (hb : c.code = cc) (hK : va_K D vwCl (cT ct) s) (hP : va_P D vwCl (E ++ ws) H) (hD : va_D A (E ++ ws)) (hS0 : va_S A H0 H locs) (hT : ty_V ct S ph ws) {n v : Nat} {f : Nat → Option Nat} (hv : S v = some (.inl 1)) (q0 : Nat) (hq : (E ++ ws)[q0]? = some (b, .inl (ct 3, n, .inr (.inr (.inr (.inr f)))))) {i : Int32} (hin : vp_in i n) (hdg : decode cc pc = .ok (.aastore, 1))
    (kk : ∀ (H1 : Heap) (locs1 : List Loc), va_P D vwCl ((E ++ ws).set q0 (b, .inl (ct 3, n, .inr (.inr (.inr (.inr (va_up f i.toNatClampNeg (some v)))))))) H1 → va_D A ((E ++ ws).set q0 (b, .inl (ct 3, n, .inr (.inr (.inr (.inr (va_up f i.toNatClampNeg (some v)))))))) → va_S A H0 H1 locs1 → W p l e R s m args below meth c H1 locs1 cells slots Q (F0 m (pc + 1) ls rest)) : W p l e R s m args below meth c H locs cells slots Q (F0 m pc ls (.ref v :: .int i :: .ref b :: rest)) := by
  obtain ⟨j2, e2, hj2, fs, rfl, -, -⟩ := hT.1 v _ hv
  exact va_astq hexec hb hK hP hD hS0 q0 3 (E.length + j2) 1 hq rfl (ty_app hj2) rfl hin hdg kk
theorem ty_putT {cc : ByteArray} (hexec : p.tables.exec = Jvm.exec) (hb : c.code = cc) {own ref C : String} {T : u_T} {N ci index : Nat} {Ts : List Cond} (hts : ∀ w ∈ Ts, w.before args s = true) (hin : ∀ w ∈ u_ws C T N, w ∈ Ts) (ty0 : Nat → FieldType) (hty : ∀ k, k < N → parseFieldDescriptor (T k).2.2.1 = some (ty0 k)) (hnm : ∀ a, a < N → ∀ b, b < N → a ≠ b → (T a).2.1 ≠ (T b).2.1) (hown : s.vm.findClass own = some m.cls) (hK : va_K D vwCl (cT ct) s) (hP : va_P D vwCl (E ++ ws) H) (hD : va_D A (E ++ ws)) (hS0 : va_S A H0 H locs) (hT : ty_V ct S ph ws) (ha : S b = some (.inl ci)) (hc : vwCl[ci]? = some (C, T, N)) (k : Nat) (hk : k < N) (hlink : (Cond.fieldLink own index ref (T k).2.1 (T k).2.2.1).before args s = true) (hsame : ∀ x, s.fieldFound? (T k).1 (T k).2.1 (T k).2.2.1 = some x → s.fieldFound? ref (T k).2.1 (T k).2.2.1 = some x) (hfin : (T k).2.2.2 = false) {ty : FieldType} {v : Value} (hd : parseFieldDescriptor (T k).2.2.1 = some ty) (hn : narrow ty v = v) (hfit : fits ty v = true) {q : ty_Q} (hq : (ty_F ci)[k]? = some q) (hqv : q S v) (hdg : decode cc pc = .ok (.putfield index, 3)) {ph2 : va_W → Prop} (hcl : ∀ (j : Nat) (fs : List Value), ws[j]? = some (b, .inr (ci, fs)) → fs.length = (ty_F ci).length → ph ws → ph2 (ws.set j (b, .inr (ci, fs.set k v))))
    (kk : ∀ (ws : va_W) (H1 : Heap) (locs1 : List Loc), ty_V ct S ph2 ws → ty_fd ws b k v → va_P D vwCl (E ++ ws) H1 → va_D A (E ++ ws) → va_S A H0 H1 locs1 → W p l e R s m args below meth c H1 locs1 cells slots Q (F0 m (pc + 3) ls rest)) : W p l e R s m args below meth c H locs cells slots Q (F0 m pc ls (v :: .ref b :: rest)) := by
  obtain ⟨j, e9, hj, ho⟩ := hT.1 b _ ha
  obtain ⟨fs, rfl, hl, hf⟩ := ho
  have hkl : k < fs.length := by rw [hl]; exact (List.getElem?_eq_some_iff.mp hq).1
  refine va_put hexec hb hts hin ty0 hty hnm hown hK hP hD hS0 (E.length + j) (ty_app hj) hc k hk hlink hsame hfin hd hn hfit hkl hdg (fun H1 locs1 hP1 hD1 hS1 => ?_)
  rw [ty_aset] at hP1 hD1
  exact kk _ H1 locs1 ⟨ty_set hT.1 hj ha (ty_fs hl hf hq hqv), hcl _ _ hj hl hT.2⟩ ⟨j, ci, _, List.getElem?_set_self (List.getElem?_eq_some_iff.mp hj).1, List.getElem?_set_self hkl⟩ hP1 hD1 hS1
theorem ty_putNT {cc : ByteArray} (hexec : p.tables.exec = Jvm.exec) (hb : c.code = cc) {own ref C host : String} {T : u_T} {N ci index : Nat} {Ts : List Cond} (hts : ∀ w ∈ Ts, w.before args s = true) (hin : ∀ w ∈ u_ws C T N, w ∈ Ts) (ty0 : Nat → FieldType) (hty : ∀ k, k < N → parseFieldDescriptor (T k).2.2.1 = some (ty0 k)) (hnm : ∀ a, a < N → ∀ b, b < N → a ≠ b → (T a).2.1 ≠ (T b).2.1) (hown : s.vm.findClass own = some m.cls) (hK : va_K D vwCl (cT ct) s) (hP : va_P D vwCl (E ++ ws) H) (hD : va_D A (E ++ ws)) (hS0 : va_S A H0 H locs) (hT : ty_V ct S ph ws) (ha : S b = some (.inl ci)) (hc : vwCl[ci]? = some (C, T, N)) (k : Nat) (hk : k < N) (hlink : (Cond.fieldLinkNest own index ref (T k).2.1 (T k).2.2.1 host).before args s = true) (hsame : ∀ x, s.fieldFound? (T k).1 (T k).2.1 (T k).2.2.1 = some x → s.fieldFound? ref (T k).2.1 (T k).2.2.1 = some x) (hfin : (T k).2.2.2 = false) {ty : FieldType} {v : Value} (hd : parseFieldDescriptor (T k).2.2.1 = some ty) (hn : narrow ty v = v) (hfit : fits ty v = true) {q : ty_Q} (hq : (ty_F ci)[k]? = some q) (hqv : q S v) (hdg : decode cc pc = .ok (.putfield index, 3)) {ph2 : va_W → Prop} (hcl : ∀ (j : Nat) (fs : List Value), ws[j]? = some (b, .inr (ci, fs)) → fs.length = (ty_F ci).length → ph ws → ph2 (ws.set j (b, .inr (ci, fs.set k v))))
    (kk : ∀ (ws : va_W) (H1 : Heap) (locs1 : List Loc), ty_V ct S ph2 ws → ty_fd ws b k v → va_P D vwCl (E ++ ws) H1 → va_D A (E ++ ws) → va_S A H0 H1 locs1 → W p l e R s m args below meth c H1 locs1 cells slots Q (F0 m (pc + 3) ls rest)) : W p l e R s m args below meth c H locs cells slots Q (F0 m pc ls (v :: .ref b :: rest)) := by
  obtain ⟨j, e9, hj, ho⟩ := hT.1 b _ ha
  obtain ⟨fs, rfl, hl, hf⟩ := ho
  have hkl : k < fs.length := by rw [hl]; exact (List.getElem?_eq_some_iff.mp hq).1
  refine va_putN hexec hb hts hin ty0 hty hnm hown hK hP hD hS0 (E.length + j) (ty_app hj) hc k hk hlink hsame hfin hd hn hfit hkl hdg (fun H1 locs1 hP1 hD1 hS1 => ?_)
  rw [ty_aset] at hP1 hD1
  exact kk _ H1 locs1 ⟨ty_set hT.1 hj ha (ty_fs hl hf hq hqv), hcl _ _ hj hl hT.2⟩ ⟨j, ci, _, List.getElem?_set_self (List.getElem?_eq_some_iff.mp hj).1, List.getElem?_set_self hkl⟩ hP1 hD1 hS1
theorem ty_laldE {cc : ByteArray} (hexec : p.tables.exec = Jvm.exec) (hb : c.code = cc) (hK : va_K D vwCl (cT ct) s) (hP : va_P D vwCl (E ++ ws) H) (hD : va_D A (E ++ ws)) (hT : ty_V ct S ph ws) {nf : Nat → Int64} (hfl : ty_fl b nf ws) {n : Nat} (ha : S b = some (.inr (1, n))) {i : Int32} (hin : vp_in i n) (hdg : decode cc pc = .ok (.laload, 1))
    (kk : W p l e R s m args below meth c H locs cells slots Q (F0 m (pc + 1) ls (.long (nf i.toNatClampNeg) :: rest))) : W p l e R s m args below meth c H locs cells slots Q (F0 m pc ls (.int i :: .ref b :: rest)) := by
  obtain ⟨j, e9, hj, hn, f, rfl⟩ := hT.1 b _ ha
  have hu := ty_flu hD hfl hj
  subst hu
  exact va_lald hexec hb hK hP (E.length + j) 1 (ty_app hj) rfl hin hdg kk
theorem ty_lastT {cc : ByteArray} (hexec : p.tables.exec = Jvm.exec) (hb : c.code = cc) (hK : va_K D vwCl (cT ct) s) (hP : va_P D vwCl (E ++ ws) H) (hD : va_D A (E ++ ws)) (hS0 : va_S A H0 H locs) (hT : ty_V ct S ph ws) {n : Nat} (ha : S b = some (.inr (1, n))) {i : Int32} {x : Int64} (hin : vp_in i n) (hdg : decode cc pc = .ok (.lastore, 1)) {nf : Nat → Int64} (hfl : ty_fl b nf ws) {ph2 : va_W → Prop} (hcl : ∀ (j : Nat) (cA : ClassId), ws[j]? = some (b, .inl (cA, n, .inr (.inl nf))) → ph ws → ph2 (ws.set j (b, .inl (cA, n, .inr (.inl (vp_updL nf i.toNatClampNeg x))))))
    (kk : ∀ (ws : va_W) (H1 : Heap) (locs1 : List Loc), ty_V ct S ph2 ws → va_P D vwCl (E ++ ws) H1 → va_D A (E ++ ws) → va_S A H0 H1 locs1 → W p l e R s m args below meth c H1 locs1 cells slots Q (F0 m (pc + 1) ls rest)) : W p l e R s m args below meth c H locs cells slots Q (F0 m pc ls (.long x :: .int i :: .ref b :: rest)) := by
  obtain ⟨j, e9, hj, hn, f, rfl⟩ := hT.1 b _ ha
  have hu := ty_flu hD hfl hj
  subst hu
  refine va_last hexec hb hK hP hD hS0 (E.length + j) 1 (ty_app hj) rfl hin hdg (fun H1 locs1 hP1 hD1 hS1 => ?_)
  rw [ty_aset] at hP1 hD1
  exact kk _ H1 locs1 ⟨ty_set hT.1 hj ha ⟨hn, _, rfl⟩, hcl _ _ hj hT.2⟩ hP1 hD1 hS1
theorem ty_aald3N {cc : ByteArray} (hexec : p.tables.exec = Jvm.exec) (hb : c.code = cc) (hK : va_K D vwCl (cT ct) s) (hP : va_P D vwCl (E ++ ws) H) (hD : va_D A (E ++ ws)) (hT : ty_V ct S ph ws) (hfq : ty_fq b ws) {n : Nat} (ha : S b = some (.inr (3, n))) {i : Int32} (hin : vp_in i n) (hdg : decode cc pc = .ok (.aaload, 1))
    (hi6 : i.toNatClampNeg < 6)
    (kk : ∀ x : Nat, S x = some (.inl 1) → W p l e R s m args below meth c H locs cells slots Q (F0 m (pc + 1) ls (.ref x :: rest))) : W p l e R s m args below meth c H locs cells slots Q (F0 m pc ls (.int i :: .ref b :: rest)) := by
  obtain ⟨j, e9, hj, hn, f, rfl, hf⟩ := hT.1 b _ ha
  refine va_aldq hexec hb hK hP (E.length + j) 3 (ty_app hj) rfl hin hdg ?_
  cases hx : f i.toNatClampNeg with
  | none => exact absurd hx (ty_fqu hD hfq hj _ hi6)
  | some x => exact kk x (hf _ _ hx)
/-- the calls: the callee's world is the tail -/
theorem ty_preS {As : List Value} (hP : va_P D vwCl (wr ++ wc) H) (hK : va_K D vwCl (cT ct) s) (hD : va_D A (wr ++ wc)) (hS : va_S A s.heap H locs) (hA : ∀ q, s.heap.size ≤ q → A q) (hX : cmX A s s.heap) : PreS s H (va_Pc As (cmP D ct H.size wc)) As :=
  cm_preS (wc := wc) hP hK hD hS hA hX (List.range' wr.length wc.length) (ty_rng wc wr) (ty_nd _ _) (ty_fil (ty_rng wc wr))
theorem ty_preV {ci : Nat} {q : vw_C} {As : List Value} (hP : va_P D vwCl (wr ++ (E ++ ws)) H) (hK : va_K D vwCl (cT ct) s) (hD : va_D A (wr ++ (E ++ ws))) (hS : va_S A s.heap H locs) (hA : ∀ q, s.heap.size ≤ q → A q) (hX : cmX A s s.heap) (hT : ty_V ct S ph ws) (hc : vwCl[ci]? = some q) (ha : S b = some (.inl ci)) : PreV s H q.1 b (va_Pc (.ref b :: As) (cmP D ct H.size (E ++ ws))) As := by
  obtain ⟨j, e9, hj, fs, rfl, -, -⟩ := hT.1 b _ ha
  exact cm_preV (wc := E ++ ws) hP hK hD hS hA hX (List.range' wr.length (E ++ ws).length) (ty_rng _ wr) (ty_nd _ _) (ty_fil (ty_rng _ wr)) hc (ty_app (ty_app hj))
theorem ty_preE {ci q0 : Nat} {q : vw_C} {fs : List Value} {As : List Value} (hP : va_P D vwCl (wr ++ wc) H) (hK : va_K D vwCl (cT ct) s) (hD : va_D A (wr ++ wc)) (hS : va_S A s.heap H locs) (hA : ∀ q, s.heap.size ≤ q → A q) (hX : cmX A s s.heap) (hc : vwCl[ci]? = some q) (he : (wr ++ wc)[q0]? = some (b, .inr (ci, fs))) : PreV s H q.1 b (va_Pc (.ref b :: As) (cmP D ct H.size wc)) As :=
  cm_preV (wc := wc) hP hK hD hS hA hX (List.range' wr.length wc.length) (ty_rng _ wr) (ty_nd _ _) (ty_fil (ty_rng _ wr)) hc he
theorem ty_ki {S9 : Type} {post : Int32 → S9 → Prop} {OUT : S9 → va_W} (hr : va_Run p l e R s m args below meth c H locs cells slots mc ms (F0 m pc ls st0) rest (va_Qi post (cmB D wc H.size OUT) (va_A wc H.size) a) (va_A wc H.size)) (hP : va_P D vwCl (wr ++ wc) H) (hD : va_D A (wr ++ wc)) (hS : va_S A H0 H locs) (hA : ∀ q, H0.size ≤ q → A q)
    (kk : ∀ (r : Int32) (u : S9) (H1 : Heap) (locs1 : List Loc), post r u → va_P D vwCl (wr ++ OUT u) H1 → va_D A (wr ++ OUT u) → va_S A H0 H1 locs1 → W p l e R s m args below meth c H1 locs1 (cells + mc) (slots + ms) Q (F0 m (pc + 3) ls (.int r :: rest))) : W p l e R s m args below meth c H locs cells slots Q (F0 m pc ls st0) :=
  cm_ki hr hP hD hS hA (List.range' wr.length wc.length) (List.range' 0 wr.length) (ty_rng wc wr) (ty_rng0 wc wr) (ty_nd _ _) ty_dis kk

theorem ty_kl {S9 : Type} {post : Int64 → S9 → Prop} {OUT : S9 → va_W} (hr : va_Run p l e R s m args below meth c H locs cells slots mc ms (F0 m pc ls st0) rest (va_Ql post (cmB D wc H.size OUT) (va_A wc H.size) a) (va_A wc H.size)) (hP : va_P D vwCl (wr ++ wc) H) (hD : va_D A (wr ++ wc)) (hS : va_S A H0 H locs) (hA : ∀ q, H0.size ≤ q → A q)
    (kk : ∀ (r : Int64) (u : S9) (H1 : Heap) (locs1 : List Loc), post r u → va_P D vwCl (wr ++ OUT u) H1 → va_D A (wr ++ OUT u) → va_S A H0 H1 locs1 → W p l e R s m args below meth c H1 locs1 (cells + mc) (slots + ms) Q (F0 m (pc + 3) ls (.long r :: rest))) : W p l e R s m args below meth c H locs cells slots Q (F0 m pc ls st0) :=
  cm_kl hr hP hD hS hA (List.range' wr.length wc.length) (List.range' 0 wr.length) (ty_rng wc wr) (ty_rng0 wc wr) (ty_nd _ _) ty_dis kk

theorem ty_kv {S9 : Type} {post : S9 → Prop} {OUT : S9 → va_W} (hr : va_Run p l e R s m args below meth c H locs cells slots mc ms (F0 m pc ls st0) rest (va_Qv post (cmB D wc H.size OUT) (va_A wc H.size) a) (va_A wc H.size)) (hP : va_P D vwCl (wr ++ wc) H) (hD : va_D A (wr ++ wc)) (hS : va_S A H0 H locs) (hA : ∀ q, H0.size ≤ q → A q)
    (kk : ∀ (u : S9) (H1 : Heap) (locs1 : List Loc), post u → va_P D vwCl (wr ++ OUT u) H1 → va_D A (wr ++ OUT u) → va_S A H0 H1 locs1 → W p l e R s m args below meth c H1 locs1 (cells + mc) (slots + ms) Q (F0 m (pc + 3) ls rest)) : W p l e R s m args below meth c H locs cells slots Q (F0 m pc ls st0) :=
  cm_kv hr hP hD hS hA (List.range' wr.length wc.length) (List.range' 0 wr.length) (ty_rng wc wr) (ty_rng0 wc wr) (ty_nd _ _) ty_dis kk

theorem ty_kq {S9 : Type} {post : Option Nat → S9 → Prop} {OUT : S9 → va_W} (hr : va_Run p l e R s m args below meth c H locs cells slots mc ms (F0 m pc ls st0) rest (va_Qq post (cmB D wc H.size OUT) (va_A wc H.size) a) (va_A wc H.size)) (hP : va_P D vwCl (wr ++ wc) H) (hD : va_D A (wr ++ wc)) (hS : va_S A H0 H locs) (hA : ∀ q, H0.size ≤ q → A q)
    (kk : ∀ (r : Option Nat) (u : S9) (H1 : Heap) (locs1 : List Loc), post r u → va_P D vwCl (wr ++ OUT u) H1 → va_D A (wr ++ OUT u) → va_S A H0 H1 locs1 → W p l e R s m args below meth c H1 locs1 (cells + mc) (slots + ms) Q (F0 m (pc + 3) ls (va_rf r :: rest))) : W p l e R s m args below meth c H locs cells slots Q (F0 m pc ls st0) :=
  cm_kq hr hP hD hS hA (List.range' wr.length wc.length) (List.range' 0 wr.length) (ty_rng wc wr) (ty_rng0 wc wr) (ty_nd _ _) ty_dis kk

theorem ty_xi {S9 SX : Type} {post : Int32 → S9 → Prop} {px : SX → Prop} {EX : List String} {OUT : S9 → va_W} {OX : SX → va_W} (hr : vx_Run p l e R s m args below meth c H locs cells slots mc ms (F0 m pc ls st0) rest (va_Qi post (cmB D wc H.size OUT) (va_A wc H.size) a) (vx_X px (cmBY D wc H.size EX OX) (va_A wc H.size)) (va_A wc H.size)) (hP : va_P D vwCl (wr ++ wc) H) (hD : va_D A (wr ++ wc)) (hS : va_S A H0 H locs) (hA : ∀ q, H0.size ≤ q → A q)
    (kx : ∀ (E : String) (ce : Cell) (q9 : Addr) (u : SX) (H1 : Heap) (locs1 : List Loc), px u → E ∈ EX → va_P D vwCl (wr ++ OX u) H1 → va_D A (wr ++ OX u) → va_S A H0 H1 locs1 → H1[q9]? = some ce → ce.vm = .none → s.vm.findClass E = some ce.cls → vx_W p l e R s m args below meth c H1 locs1 (cells + mc) (slots + ms) Q (F0 m pc ls rest) q9)
    (kk : ∀ (r : Int32) (u : S9) (H1 : Heap) (locs1 : List Loc), post r u → va_P D vwCl (wr ++ OUT u) H1 → va_D A (wr ++ OUT u) → va_S A H0 H1 locs1 → W p l e R s m args below meth c H1 locs1 (cells + mc) (slots + ms) Q (F0 m (pc + 3) ls (.int r :: rest))) : W p l e R s m args below meth c H locs cells slots Q (F0 m pc ls st0) := by
  have hF := va_free hD hS hA (List.range' wr.length wc.length) (ty_rng wc wr)
  refine vx_calli hr hS (fun q _ h => hF q h) hF (fun q _ h => hF q h) (fun E ce q9 u t H1 locs1 ht hvm hu hB hz1 hk1 hS1 hce hcv hcl => ?_) (fun r u t H1 locs1 ht hvm hw hB hz1 hk1 hS1 => ?_)
  · obtain ⟨hE, hP1, hD1⟩ := hB
    rw [ht] at hP1
    obtain ⟨hP2, hD2⟩ := va_join hP hD (List.range' wr.length wc.length) (List.range' 0 wr.length) (ty_rng wc wr) (ty_rng0 wc wr) (ty_nd _ _) ty_dis hk1 hF hP1 hD1
    exact kx E ce q9 u H1 locs1 hu hE hP2 hD2 hS1 hce hcv hcl
  · obtain ⟨hP1, hD1⟩ := hB
    rw [ht] at hP1
    obtain ⟨hP2, hD2⟩ := va_join hP hD (List.range' wr.length wc.length) (List.range' 0 wr.length) (ty_rng wc wr) (ty_rng0 wc wr) (ty_nd _ _) ty_dis hk1 hF hP1 hD1
    exact kk r u H1 locs1 hw hP2 hD2 hS1

theorem ty_xl {S9 SX : Type} {post : Int64 → S9 → Prop} {px : SX → Prop} {EX : List String} {OUT : S9 → va_W} {OX : SX → va_W} (hr : vx_Run p l e R s m args below meth c H locs cells slots mc ms (F0 m pc ls st0) rest (va_Ql post (cmB D wc H.size OUT) (va_A wc H.size) a) (vx_X px (cmBY D wc H.size EX OX) (va_A wc H.size)) (va_A wc H.size)) (hP : va_P D vwCl (wr ++ wc) H) (hD : va_D A (wr ++ wc)) (hS : va_S A H0 H locs) (hA : ∀ q, H0.size ≤ q → A q)
    (kx : ∀ (E : String) (ce : Cell) (q9 : Addr) (u : SX) (H1 : Heap) (locs1 : List Loc), px u → E ∈ EX → va_P D vwCl (wr ++ OX u) H1 → va_D A (wr ++ OX u) → va_S A H0 H1 locs1 → H1[q9]? = some ce → ce.vm = .none → s.vm.findClass E = some ce.cls → vx_W p l e R s m args below meth c H1 locs1 (cells + mc) (slots + ms) Q (F0 m pc ls rest) q9)
    (kk : ∀ (r : Int64) (u : S9) (H1 : Heap) (locs1 : List Loc), post r u → va_P D vwCl (wr ++ OUT u) H1 → va_D A (wr ++ OUT u) → va_S A H0 H1 locs1 → W p l e R s m args below meth c H1 locs1 (cells + mc) (slots + ms) Q (F0 m (pc + 3) ls (.long r :: rest))) : W p l e R s m args below meth c H locs cells slots Q (F0 m pc ls st0) := by
  have hF := va_free hD hS hA (List.range' wr.length wc.length) (ty_rng wc wr)
  refine vx_calll hr hS (fun q _ h => hF q h) hF (fun q _ h => hF q h) (fun E ce q9 u t H1 locs1 ht hvm hu hB hz1 hk1 hS1 hce hcv hcl => ?_) (fun r u t H1 locs1 ht hvm hw hB hz1 hk1 hS1 => ?_)
  · obtain ⟨hE, hP1, hD1⟩ := hB
    rw [ht] at hP1
    obtain ⟨hP2, hD2⟩ := va_join hP hD (List.range' wr.length wc.length) (List.range' 0 wr.length) (ty_rng wc wr) (ty_rng0 wc wr) (ty_nd _ _) ty_dis hk1 hF hP1 hD1
    exact kx E ce q9 u H1 locs1 hu hE hP2 hD2 hS1 hce hcv hcl
  · obtain ⟨hP1, hD1⟩ := hB
    rw [ht] at hP1
    obtain ⟨hP2, hD2⟩ := va_join hP hD (List.range' wr.length wc.length) (List.range' 0 wr.length) (ty_rng wc wr) (ty_rng0 wc wr) (ty_nd _ _) ty_dis hk1 hF hP1 hD1
    exact kk r u H1 locs1 hw hP2 hD2 hS1

theorem ty_xf {S9 SX : Type} {post : UInt32 → S9 → Prop} {px : SX → Prop} {EX : List String} {OUT : S9 → va_W} {OX : SX → va_W} (hr : vx_Run p l e R s m args below meth c H locs cells slots mc ms (F0 m pc ls st0) rest (va_Qf post (cmB D wc H.size OUT) (va_A wc H.size) a) (vx_X px (cmBY D wc H.size EX OX) (va_A wc H.size)) (va_A wc H.size)) (hP : va_P D vwCl (wr ++ wc) H) (hD : va_D A (wr ++ wc)) (hS : va_S A H0 H locs) (hA : ∀ q, H0.size ≤ q → A q)
    (kx : ∀ (E : String) (ce : Cell) (q9 : Addr) (u : SX) (H1 : Heap) (locs1 : List Loc), px u → E ∈ EX → va_P D vwCl (wr ++ OX u) H1 → va_D A (wr ++ OX u) → va_S A H0 H1 locs1 → H1[q9]? = some ce → ce.vm = .none → s.vm.findClass E = some ce.cls → vx_W p l e R s m args below meth c H1 locs1 (cells + mc) (slots + ms) Q (F0 m pc ls rest) q9)
    (kk : ∀ (r : UInt32) (u : S9) (H1 : Heap) (locs1 : List Loc), post r u → va_P D vwCl (wr ++ OUT u) H1 → va_D A (wr ++ OUT u) → va_S A H0 H1 locs1 → W p l e R s m args below meth c H1 locs1 (cells + mc) (slots + ms) Q (F0 m (pc + 3) ls (.float r :: rest))) : W p l e R s m args below meth c H locs cells slots Q (F0 m pc ls st0) := by
  have hF := va_free hD hS hA (List.range' wr.length wc.length) (ty_rng wc wr)
  refine vx_callf hr hS (fun q _ h => hF q h) hF (fun q _ h => hF q h) (fun E ce q9 u t H1 locs1 ht hvm hu hB hz1 hk1 hS1 hce hcv hcl => ?_) (fun r u t H1 locs1 ht hvm hw hB hz1 hk1 hS1 => ?_)
  · obtain ⟨hE, hP1, hD1⟩ := hB
    rw [ht] at hP1
    obtain ⟨hP2, hD2⟩ := va_join hP hD (List.range' wr.length wc.length) (List.range' 0 wr.length) (ty_rng wc wr) (ty_rng0 wc wr) (ty_nd _ _) ty_dis hk1 hF hP1 hD1
    exact kx E ce q9 u H1 locs1 hu hE hP2 hD2 hS1 hce hcv hcl
  · obtain ⟨hP1, hD1⟩ := hB
    rw [ht] at hP1
    obtain ⟨hP2, hD2⟩ := va_join hP hD (List.range' wr.length wc.length) (List.range' 0 wr.length) (ty_rng wc wr) (ty_rng0 wc wr) (ty_nd _ _) ty_dis hk1 hF hP1 hD1
    exact kk r u H1 locs1 hw hP2 hD2 hS1

theorem ty_xd {S9 SX : Type} {post : UInt64 → S9 → Prop} {px : SX → Prop} {EX : List String} {OUT : S9 → va_W} {OX : SX → va_W} (hr : vx_Run p l e R s m args below meth c H locs cells slots mc ms (F0 m pc ls st0) rest (va_Qd post (cmB D wc H.size OUT) (va_A wc H.size) a) (vx_X px (cmBY D wc H.size EX OX) (va_A wc H.size)) (va_A wc H.size)) (hP : va_P D vwCl (wr ++ wc) H) (hD : va_D A (wr ++ wc)) (hS : va_S A H0 H locs) (hA : ∀ q, H0.size ≤ q → A q)
    (kx : ∀ (E : String) (ce : Cell) (q9 : Addr) (u : SX) (H1 : Heap) (locs1 : List Loc), px u → E ∈ EX → va_P D vwCl (wr ++ OX u) H1 → va_D A (wr ++ OX u) → va_S A H0 H1 locs1 → H1[q9]? = some ce → ce.vm = .none → s.vm.findClass E = some ce.cls → vx_W p l e R s m args below meth c H1 locs1 (cells + mc) (slots + ms) Q (F0 m pc ls rest) q9)
    (kk : ∀ (r : UInt64) (u : S9) (H1 : Heap) (locs1 : List Loc), post r u → va_P D vwCl (wr ++ OUT u) H1 → va_D A (wr ++ OUT u) → va_S A H0 H1 locs1 → W p l e R s m args below meth c H1 locs1 (cells + mc) (slots + ms) Q (F0 m (pc + 3) ls (.double r :: rest))) : W p l e R s m args below meth c H locs cells slots Q (F0 m pc ls st0) := by
  have hF := va_free hD hS hA (List.range' wr.length wc.length) (ty_rng wc wr)
  refine vx_calld hr hS (fun q _ h => hF q h) hF (fun q _ h => hF q h) (fun E ce q9 u t H1 locs1 ht hvm hu hB hz1 hk1 hS1 hce hcv hcl => ?_) (fun r u t H1 locs1 ht hvm hw hB hz1 hk1 hS1 => ?_)
  · obtain ⟨hE, hP1, hD1⟩ := hB
    rw [ht] at hP1
    obtain ⟨hP2, hD2⟩ := va_join hP hD (List.range' wr.length wc.length) (List.range' 0 wr.length) (ty_rng wc wr) (ty_rng0 wc wr) (ty_nd _ _) ty_dis hk1 hF hP1 hD1
    exact kx E ce q9 u H1 locs1 hu hE hP2 hD2 hS1 hce hcv hcl
  · obtain ⟨hP1, hD1⟩ := hB
    rw [ht] at hP1
    obtain ⟨hP2, hD2⟩ := va_join hP hD (List.range' wr.length wc.length) (List.range' 0 wr.length) (ty_rng wc wr) (ty_rng0 wc wr) (ty_nd _ _) ty_dis hk1 hF hP1 hD1
    exact kk r u H1 locs1 hw hP2 hD2 hS1

theorem ty_xv {S9 SX : Type} {post : S9 → Prop} {px : SX → Prop} {EX : List String} {OUT : S9 → va_W} {OX : SX → va_W} (hr : vx_Run p l e R s m args below meth c H locs cells slots mc ms (F0 m pc ls st0) rest (va_Qv post (cmB D wc H.size OUT) (va_A wc H.size) a) (vx_X px (cmBY D wc H.size EX OX) (va_A wc H.size)) (va_A wc H.size)) (hP : va_P D vwCl (wr ++ wc) H) (hD : va_D A (wr ++ wc)) (hS : va_S A H0 H locs) (hA : ∀ q, H0.size ≤ q → A q)
    (kx : ∀ (E : String) (ce : Cell) (q9 : Addr) (u : SX) (H1 : Heap) (locs1 : List Loc), px u → E ∈ EX → va_P D vwCl (wr ++ OX u) H1 → va_D A (wr ++ OX u) → va_S A H0 H1 locs1 → H1[q9]? = some ce → ce.vm = .none → s.vm.findClass E = some ce.cls → vx_W p l e R s m args below meth c H1 locs1 (cells + mc) (slots + ms) Q (F0 m pc ls rest) q9)
    (kk : ∀ (u : S9) (H1 : Heap) (locs1 : List Loc), post u → va_P D vwCl (wr ++ OUT u) H1 → va_D A (wr ++ OUT u) → va_S A H0 H1 locs1 → W p l e R s m args below meth c H1 locs1 (cells + mc) (slots + ms) Q (F0 m (pc + 3) ls (rest))) : W p l e R s m args below meth c H locs cells slots Q (F0 m pc ls st0) := by
  have hF := va_free hD hS hA (List.range' wr.length wc.length) (ty_rng wc wr)
  refine vx_callv hr hS (fun q _ h => hF q h) hF (fun q _ h => hF q h) (fun E ce q9 u t H1 locs1 ht hvm hu hB hz1 hk1 hS1 hce hcv hcl => ?_) (fun u t H1 locs1 ht hvm hw hB hz1 hk1 hS1 => ?_)
  · obtain ⟨hE, hP1, hD1⟩ := hB
    rw [ht] at hP1
    obtain ⟨hP2, hD2⟩ := va_join hP hD (List.range' wr.length wc.length) (List.range' 0 wr.length) (ty_rng wc wr) (ty_rng0 wc wr) (ty_nd _ _) ty_dis hk1 hF hP1 hD1
    exact kx E ce q9 u H1 locs1 hu hE hP2 hD2 hS1 hce hcv hcl
  · obtain ⟨hP1, hD1⟩ := hB
    rw [ht] at hP1
    obtain ⟨hP2, hD2⟩ := va_join hP hD (List.range' wr.length wc.length) (List.range' 0 wr.length) (ty_rng wc wr) (ty_rng0 wc wr) (ty_nd _ _) ty_dis hk1 hF hP1 hD1
    exact kk u H1 locs1 hw hP2 hD2 hS1

theorem ty_xq {S9 SX : Type} {post : Option Nat → S9 → Prop} {px : SX → Prop} {EX : List String} {OUT : S9 → va_W} {OX : SX → va_W} (hr : vx_Run p l e R s m args below meth c H locs cells slots mc ms (F0 m pc ls st0) rest (va_Qq post (cmB D wc H.size OUT) (va_A wc H.size) a) (vx_X px (cmBY D wc H.size EX OX) (va_A wc H.size)) (va_A wc H.size)) (hP : va_P D vwCl (wr ++ wc) H) (hD : va_D A (wr ++ wc)) (hS : va_S A H0 H locs) (hA : ∀ q, H0.size ≤ q → A q)
    (kx : ∀ (E : String) (ce : Cell) (q9 : Addr) (u : SX) (H1 : Heap) (locs1 : List Loc), px u → E ∈ EX → va_P D vwCl (wr ++ OX u) H1 → va_D A (wr ++ OX u) → va_S A H0 H1 locs1 → H1[q9]? = some ce → ce.vm = .none → s.vm.findClass E = some ce.cls → vx_W p l e R s m args below meth c H1 locs1 (cells + mc) (slots + ms) Q (F0 m pc ls rest) q9)
    (kk : ∀ (r : Option Nat) (u : S9) (H1 : Heap) (locs1 : List Loc), post r u → va_P D vwCl (wr ++ OUT u) H1 → va_D A (wr ++ OUT u) → va_S A H0 H1 locs1 → W p l e R s m args below meth c H1 locs1 (cells + mc) (slots + ms) Q (F0 m (pc + 3) ls (va_rf r :: rest))) : W p l e R s m args below meth c H locs cells slots Q (F0 m pc ls st0) := by
  have hF := va_free hD hS hA (List.range' wr.length wc.length) (ty_rng wc wr)
  refine vx_callq hr hS (fun q _ h => hF q h) hF (fun q _ h => hF q h) (fun E ce q9 u t H1 locs1 ht hvm hu hB hz1 hk1 hS1 hce hcv hcl => ?_) (fun r u t H1 locs1 ht hvm hw hB hz1 hk1 hS1 => ?_)
  · obtain ⟨hE, hP1, hD1⟩ := hB
    rw [ht] at hP1
    obtain ⟨hP2, hD2⟩ := va_join hP hD (List.range' wr.length wc.length) (List.range' 0 wr.length) (ty_rng wc wr) (ty_rng0 wc wr) (ty_nd _ _) ty_dis hk1 hF hP1 hD1
    exact kx E ce q9 u H1 locs1 hu hE hP2 hD2 hS1 hce hcv hcl
  · obtain ⟨hP1, hD1⟩ := hB
    rw [ht] at hP1
    obtain ⟨hP2, hD2⟩ := va_join hP hD (List.range' wr.length wc.length) (List.range' 0 wr.length) (ty_rng wc wr) (ty_rng0 wc wr) (ty_nd _ _) ty_dis hk1 hF hP1 hD1
    exact kk r u H1 locs1 hw hP2 hD2 hS1
theorem ty_loop {I : Nat → Heap → List Loc → Array Slot → Prop} (h0 : ∃ n, I n H locs ls) (step : ∀ (n : Nat) (H : Heap) (locs : List Loc) (ls : Array Slot), I n H locs ls → (∀ (n' : Nat) (H' : Heap) (locs' : List Loc) (ls' : Array Slot), n' < n → I n' H' locs' ls' → W p l e R s m args below meth c H' locs' cells slots Q (F0 m pc ls' rest)) → W p l e R s m args below meth c H locs cells slots Q (F0 m pc ls rest)) : W p l e R s m args below meth c H locs cells slots Q (F0 m pc ls rest) := by
  have K : ∀ (n : Nat) (H : Heap) (locs : List Loc) (ls : Array Slot), I n H locs ls → W p l e R s m args below meth c H locs cells slots Q (F0 m pc ls rest) := by
    intro n
    induction n using Nat.strongRecOn with
    | ind n ih =>
      intro H locs ls h
      exact step n H locs ls h (fun n' H' locs' ls' hn h' => ih n' hn H' locs' ls' h')
  obtain ⟨n, h⟩ := h0
  exact K n H locs ls h
theorem ty_min {n0 n1 : Nat} (h0 : n0 < 2 ^ 31) (h1 : n1 < 2 ^ 31) : ¬ (if (Int32.ofNat n1) < (Int32.ofNat n0) then (Int32.ofNat n1) else (Int32.ofNat n0)) < 0 ∧ (if (Int32.ofNat n1) < (Int32.ofNat n0) then (Int32.ofNat n1) else (Int32.ofNat n0)).toNatClampNeg ≤ n0 ∧ (if (Int32.ofNat n1) < (Int32.ofNat n0) then (Int32.ofNat n1) else (Int32.ofNat n0)).toNatClampNeg ≤ n1 := by
  have e0 : (Int32.ofNat n0).toInt = (n0 : Int) := nI_toInt h0
  have e1 : (Int32.ofNat n1).toInt = (n1 : Int) := nI_toInt h1
  have c0 : (Int32.ofNat n0).toNatClampNeg = n0 := nI_clamp h0
  have c1 : (Int32.ofNat n1).toNatClampNeg = n1 := nI_clamp h1
  have z : (0 : Int32).toInt = 0 := by decide
  split
  · rename_i h
    rw [Int32.lt_iff_toInt_lt] at h
    rw [Int32.lt_iff_toInt_lt, c1]
    omega
  · rename_i h
    rw [Int32.lt_iff_toInt_lt] at h
    rw [Int32.lt_iff_toInt_lt, c0]
    omega
theorem ty_copyi {cc : ByteArray} (hexec : p.tables.exec = Jvm.exec) (hb : c.code = cc) (hml : c.maxLocals = ls.size) {own : String} {index : Nat} (hown : s.vm.findClass own = some m.cls) (hlink : (Cond.methodLink own index arraycopyName).before args s = true) (hnat : (Cond.native arraycopyName).before args s = true) (hstat : (Cond.static arraycopyName).before args s = true) (hini : (Cond.initialized "java/lang/System").before args s = true) (hK : va_K D vwCl (cT ct) s) (hP : va_P D vwCl (E ++ ws) H) (hD : va_D A (E ++ ws)) (hS : va_S A H0 H locs) (hT : ty_V ct S ph ws) {b0 n0 n1 : Nat} (ha0 : S b0 = some (.inr (0, n0))) (ha1 : S b = some (.inr (0, n1)))
    (hframes : 1 ≤ R.frames) (hlocals : (rest.map fun v => v.category).sum + (nativeFrameWords "java/lang/System" "arraycopy" 5 + 11) ≤ R.locals) (hdg : decode cc pc = .ok (.invokestatic index, 3)) (hcl : ty_C ph xx)
    (kk : ∀ (ws : va_W) (H1 : Heap) (locs1 : List Loc), ty_V ct S ph ws → va_P D vwCl (E ++ ws) H1 → va_D A (E ++ ws) → va_S A H0 H1 locs1 → W p l e R s m args below meth c H1 locs1 cells slots Q (F0 m (pc + 3) ls rest)) : W p l e R s m args below meth c H locs cells slots Q (F0 m pc ls (.int (if (Int32.ofNat n1) < (Int32.ofNat n0) then (Int32.ofNat n1) else (Int32.ofNat n0)) :: .int 0 :: .ref b :: .int 0 :: .ref b0 :: rest)) := by
  have hm := ty_min (ty_lt hT.1 ha0) (ty_lt hT.1 ha1)
  have z0 : (0 : Int32).toNatClampNeg = 0 := by decide
  obtain ⟨j0, e0, hj0, hn0, f0, rfl⟩ := hT.1 b0 _ ha0
  obtain ⟨j, e9, hj, hn, f, rfl⟩ := hT.1 b _ ha1
  refine va_copyi hexec hb hml hown hlink hnat hstat hini hK hP hD hS (E.length + j0) (E.length + j) 0 0 (ty_app hj0) (ty_app hj) rfl rfl rfl (by decide) (by decide) hm.1 (by rw [z0, Nat.zero_add]; exact hm.2.1) (by rw [z0, Nat.zero_add]; exact hm.2.2) (fun _ _ => rfl) hframes hlocals hdg (fun H1 locs1 hP1 hD1 hS1 => ?_)
  rw [ty_aset] at hP1 hD1
  exact kk _ H1 locs1 ⟨ty_set hT.1 hj ha1 ⟨hn, _, rfl⟩, hcl.2.1 _ _ _ _ _ _ _ hj hT.2⟩ hP1 hD1 hS1
theorem ty_copyl {cc : ByteArray} (hexec : p.tables.exec = Jvm.exec) (hb : c.code = cc) (hml : c.maxLocals = ls.size) {own : String} {index : Nat} (hown : s.vm.findClass own = some m.cls) (hlink : (Cond.methodLink own index arraycopyName).before args s = true) (hnat : (Cond.native arraycopyName).before args s = true) (hstat : (Cond.static arraycopyName).before args s = true) (hini : (Cond.initialized "java/lang/System").before args s = true) (hK : va_K D vwCl (cT ct) s) (hP : va_P D vwCl (E ++ ws) H) (hD : va_D A (E ++ ws)) (hS : va_S A H0 H locs) (hT : ty_V ct S ph ws) {b0 n0 n1 : Nat} (ha0 : S b0 = some (.inr (1, n0))) (ha1 : S b = some (.inr (1, n1)))
    (hframes : 1 ≤ R.frames) (hlocals : (rest.map fun v => v.category).sum + (nativeFrameWords "java/lang/System" "arraycopy" 5 + 11) ≤ R.locals) (hdg : decode cc pc = .ok (.invokestatic index, 3)) (hcl : ty_C ph xx) (hxx : xx 11 0 b)
    (kk : ∀ (ws : va_W) (H1 : Heap) (locs1 : List Loc), ty_V ct S ph ws → va_P D vwCl (E ++ ws) H1 → va_D A (E ++ ws) → va_S A H0 H1 locs1 → W p l e R s m args below meth c H1 locs1 cells slots Q (F0 m (pc + 3) ls rest)) : W p l e R s m args below meth c H locs cells slots Q (F0 m pc ls (.int (if (Int32.ofNat n1) < (Int32.ofNat n0) then (Int32.ofNat n1) else (Int32.ofNat n0)) :: .int 0 :: .ref b :: .int 0 :: .ref b0 :: rest)) := by
  have hm := ty_min (ty_lt hT.1 ha0) (ty_lt hT.1 ha1)
  have z0 : (0 : Int32).toNatClampNeg = 0 := by decide
  obtain ⟨j0, e0, hj0, hn0, f0, rfl⟩ := hT.1 b0 _ ha0
  obtain ⟨j, e9, hj, hn, f, rfl⟩ := hT.1 b _ ha1
  refine va_copyl hexec hb hml hown hlink hnat hstat hini hK hP hD hS (E.length + j0) (E.length + j) 1 1 (ty_app hj0) (ty_app hj) rfl rfl rfl (by decide) (by decide) hm.1 (by rw [z0, Nat.zero_add]; exact hm.2.1) (by rw [z0, Nat.zero_add]; exact hm.2.2) (fun _ _ => rfl) hframes hlocals hdg (fun H1 locs1 hP1 hD1 hS1 => ?_)
  rw [ty_aset] at hP1 hD1
  exact kk _ H1 locs1 ⟨ty_set hT.1 hj ha1 ⟨hn, _, rfl⟩, hcl.2.2.1 _ _ _ _ _ _ _ hj hxx hT.2⟩ hP1 hD1 hS1
theorem ty_cut {I : Heap → List Loc → Array Slot → Prop} {cells' slots' pc' : Nat} {rest' : List Value} (k1 : (∀ (H' : Heap) (locs' : List Loc) (ls' : Array Slot), I H' locs' ls' → W p l e R s m args below meth c H' locs' cells' slots' Q (F0 m pc' ls' rest')) → W p l e R s m args below meth c H locs cells slots Q (F0 m pc ls rest)) (k2 : ∀ (H' : Heap) (locs' : List Loc) (ls' : Array Slot), I H' locs' ls' → W p l e R s m args below meth c H' locs' cells' slots' Q (F0 m pc' ls' rest')) : W p l e R s m args below meth c H locs cells slots Q (F0 m pc ls rest) := k1 k2
end TY
theorem cm_lceq (x : Int64) : lg_cmp x x = 0 := by
  unfold lg_cmp
  have h : ¬ x > x := by
    rw [gt_iff_lt, Int64.lt_iff_toInt_lt]
    omega
  rw [if_neg h, if_pos rfl]
theorem ty_nneg {y : Int32} (h : 0 ≤ y.toInt) : ¬ y < 0 := by
  rw [Int32.lt_iff_toInt_lt, show (0 : Int32).toInt = 0 from by decide]
  omega
theorem ty_nn {y N : Int32} (h0 : 0 ≤ y.toInt) (h : y < N) : 0 ≤ (y + Int32.ofInt 1).toInt := by
  have h1 : y.toInt < N.toInt := Int32.lt_iff_toInt_lt.mp h
  have h2 : N.toInt < 2147483648 := N.toInt_lt
  have e : (y + Int32.ofInt 1).toInt = y.toInt + 1 := by
    rw [Int32.toInt_add, show (Int32.ofInt 1).toInt = 1 from by decide]
    exact Jvm.Kit.bmod32 (by omega) (by omega)
  omega
theorem ty_zn {x : Int32} (h : vp_nar .boolean x = x) : narrow .boolean (.int x) = .int x := by
  have h2 : narrow .boolean (.int x) = .int (vp_nar .boolean x) := rfl
  rw [h2, h]
theorem ty_zf {x : Int32} (h : vp_nar .boolean x = x) : fits .boolean (.int x) = true := by
  have h2 := fits_narrow_boolean x
  rwa [ty_zn h] at h2
theorem ty_inc {y N : Int32} (h : y < N) : (2147483648 - (y + Int32.ofInt 1).toInt).toNat < (2147483648 - y.toInt).toNat := by
  have h1 : y.toInt < N.toInt := Int32.lt_iff_toInt_lt.mp h
  have h2 : N.toInt < 2147483648 := N.toInt_lt
  have h3 : -2147483648 ≤ y.toInt := y.le_toInt
  have e : (y + Int32.ofInt 1).toInt = y.toInt + 1 := by
    rw [Int32.toInt_add, show (Int32.ofInt 1).toInt = 1 from by decide]
    exact Jvm.Kit.bmod32 (by omega) (by omega)
  rw [e]
  omega
theorem ty_inc1 {y N : Int32} (h : y < N) : (2147483648 - (y + 1).toInt).toNat < (2147483648 - y.toInt).toNat := ty_inc h
theorem ty_add4 {c : Int32} (h : 0 ≤ c.toInt ∧ c.toInt < 4) : 0 ≤ (c + 1).toInt ∧ (c + 1).toInt ≤ 4 := by
  have e : (c + 1).toInt = c.toInt + 1 := by
    rw [Int32.toInt_add, show (1 : Int32).toInt = 1 from by decide]
    exact Jvm.Kit.bmod32 (by omega) (by omega)
  rw [e]
  omega
theorem ty_lk01 {x : Int32} {a b d : Int} (h0 : ¬ x = 0) (h1 : ¬ x = 1) : Op.lookupswitch.offset [(0, a), (1, b)] d x.toInt = d := by
  have e0 : ¬ (0 : Int) = x.toInt := fun q => h0 (Int32.toInt_inj.mp (q.symm.trans (by decide)))
  have e1 : ¬ (1 : Int) = x.toInt := fun q => h1 (Int32.toInt_inj.mp (q.symm.trans (by decide)))
  show (if (0 : Int) = x.toInt then a else if (1 : Int) = x.toInt then b else d) = d
  rw [if_neg e0, if_neg e1]
theorem ty_incle {y N : Int32} (h : ¬ N < y) (hN : N.toInt < 2147483647) : (2147483648 - (y + Int32.ofInt 1).toInt).toNat < (2147483648 - y.toInt).toNat := by
  rw [Int32.lt_iff_toInt_lt] at h
  have h3 : -2147483648 ≤ y.toInt := y.le_toInt
  have e : (y + Int32.ofInt 1).toInt = y.toInt + 1 := by
    rw [Int32.toInt_add, show (Int32.ofInt 1).toInt = 1 from by decide]
    exact Jvm.Kit.bmod32 (by omega) (by omega)
  rw [e]
  omega
theorem ty_dec {y k d : Int32} (h : ¬ y ≤ k) (hd : d.toInt < 0) (hk : -1000000 ≤ d.toInt ∧ -1000000 ≤ k.toInt) : ((y + d).toInt + 2147483648).toNat < (y.toInt + 2147483648).toNat := by
  rw [Int32.le_iff_toInt_le] at h
  have h2 : y.toInt < 2147483648 := y.toInt_lt
  have e : (y + d).toInt = y.toInt + d.toInt := by
    rw [Int32.toInt_add]
    exact Jvm.Kit.bmod32 (by omega) (by omega)
  rw [e]
  omega
theorem ty_permP {D : va_G} {cl : List vw_C} {w1 w2 : va_W} {H : Heap} (h : va_P D cl w1 H) (hp : w1.Perm w2) : va_P D cl w2 H := by
  intro k q hk
  obtain ⟨j, hj⟩ := List.getElem?_of_mem (hp.mem_iff.mpr (List.mem_of_getElem? hk))
  exact h j q hj
theorem ty_Dnd {A : Nat → Prop} {ws : va_W} (h : va_D A ws) : (ws.map Prod.fst).Nodup := by
  rw [List.nodup_iff_pairwise_ne, List.pairwise_iff_getElem]
  intro i j hi hj hij he
  rw [List.length_map] at hi hj
  rw [List.getElem_map, List.getElem_map] at he
  exact absurd (h.1 i j _ _ (List.getElem?_eq_getElem hi) (List.getElem?_eq_getElem hj) he) (by omega)
theorem ty_Dof {A : Nat → Prop} {ws : va_W} (h1 : (ws.map Prod.fst).Nodup) (h2 : ∀ q ∈ ws, A q.1) : va_D A ws := by
  refine ⟨fun i j p q hi hj he => ?_, fun k q hk => h2 q (List.mem_of_getElem? hk)⟩
  have hl : i < (ws.map Prod.fst).length := by rw [List.length_map]; exact (List.getElem?_eq_some_iff.mp hi).1
  refine (List.getElem?_inj hl h1).mp ?_
  rw [List.getElem?_map, List.getElem?_map, hi, hj]
  exact congrArg some he
theorem ty_permD {A : Nat → Prop} {w1 w2 : va_W} (h : va_D A w1) (hp : w1.Perm w2) : va_D A w2 := by
  refine ty_Dof ((hp.map Prod.fst).nodup_iff.mp (ty_Dnd h)) (fun q hq => ?_)
  obtain ⟨j, hj⟩ := List.getElem?_of_mem (hp.mem_iff.mpr hq)
  exact h.2 j q hj
theorem ty_ordp {E E2 ws : va_W} {n : Nat} (is : List Nat) (hE : is.map (fun i => E[i]?) = E2.map some) (hn : E.length = n) (hp : is.Perm (List.range' 0 n)) : (E ++ ws).Perm (E2 ++ ws) := by
  refine List.Perm.append_right ws ?_
  have h1 : E2 = is.filterMap (fun i => E[i]?) := (ty_fil hE).symm
  have h2 : (List.range' 0 n).filterMap (fun i => E[i]?) = E := by
    subst hn
    have h3 := ty_rng0 [] E
    rw [List.append_nil] at h3
    exact ty_fil h3
  have h4 := hp.filterMap (fun i => E[i]?)
  rw [← h1, h2] at h4
  exact h4.symm
def ty_le (S S' : ty_S) : Prop := ∀ (a : Nat) (κ : ty_K), S a = some κ → S' a = some κ
def ty_up (S : ty_S) (a : Nat) (κ : ty_K) : ty_S := fun b => if b = a then some κ else S b
def ty_mono (q : ty_Q) : Prop := ∀ (S S' : ty_S) (v : Value), ty_le S S' → q S v → q S' v
theorem ty_mI : ty_mono ty_I := fun _ _ _ _ h => h
theorem ty_mJ : ty_mono ty_J := fun _ _ _ _ h => h
theorem ty_mZ : ty_mono ty_Z := fun _ _ _ _ h => h
theorem ty_mB (lo hi : Int) : ty_mono (ty_B lo hi) := fun _ _ _ _ h => h
theorem ty_mR (c : Nat) : ty_mono (ty_R c) := fun _ _ _ hle h => by
  obtain ⟨a, h1, h2⟩ := h
  exact ⟨a, h1, hle _ _ h2⟩
theorem ty_mA (k : Nat) : ty_mono (ty_A k) := fun _ _ _ hle h => by
  obtain ⟨a, n, h1, h2⟩ := h
  exact ⟨a, n, h1, hle _ _ h2⟩
theorem ty_Fm_0 : ∀ q ∈ ty_F 0, ty_mono q := List.forall_mem_cons.mpr ⟨(ty_mA 0), List.forall_mem_cons.mpr ⟨ty_mI, List.forall_mem_cons.mpr ⟨ty_mI, List.forall_mem_cons.mpr ⟨ty_mI, List.forall_mem_cons.mpr ⟨ty_mI, List.forall_mem_cons.mpr ⟨ty_mI, List.forall_mem_cons.mpr ⟨ty_mI, List.forall_mem_cons.mpr ⟨ty_mI, List.forall_mem_cons.mpr ⟨ty_mI, List.forall_mem_cons.mpr ⟨ty_mI, List.forall_mem_cons.mpr ⟨ty_mI, List.forall_mem_cons.mpr ⟨ty_mI, List.forall_mem_cons.mpr ⟨ty_mI, List.forall_mem_cons.mpr ⟨ty_mI, List.forall_mem_cons.mpr ⟨ty_mI, List.forall_mem_cons.mpr ⟨(ty_mR 3), List.forall_mem_nil _⟩⟩⟩⟩⟩⟩⟩⟩⟩⟩⟩⟩⟩⟩⟩⟩
theorem ty_Fm_1 : ∀ q ∈ ty_F 1, ty_mono q := List.forall_mem_cons.mpr ⟨ty_mI, List.forall_mem_cons.mpr ⟨(ty_mR 0), List.forall_mem_cons.mpr ⟨(ty_mR 4), List.forall_mem_cons.mpr ⟨ty_mI, List.forall_mem_cons.mpr ⟨ty_mI, List.forall_mem_cons.mpr ⟨ty_mI, List.forall_mem_cons.mpr ⟨ty_mI, List.forall_mem_cons.mpr ⟨(ty_mA 0), List.forall_mem_cons.mpr ⟨(ty_mA 0), List.forall_mem_cons.mpr ⟨ty_mI, List.forall_mem_cons.mpr ⟨ty_mJ, List.forall_mem_cons.mpr ⟨ty_mJ, List.forall_mem_cons.mpr ⟨ty_mZ, List.forall_mem_cons.mpr ⟨ty_mJ, List.forall_mem_nil _⟩⟩⟩⟩⟩⟩⟩⟩⟩⟩⟩⟩⟩⟩
theorem ty_Fm_2 : ∀ q ∈ ty_F 2, ty_mono q := List.forall_mem_cons.mpr ⟨ty_mI, List.forall_mem_cons.mpr ⟨(ty_mA 1), List.forall_mem_cons.mpr ⟨(ty_mA 0), List.forall_mem_cons.mpr ⟨(ty_mA 0), List.forall_mem_nil _⟩⟩⟩⟩
theorem ty_Fm_3 : ∀ q ∈ ty_F 3, ty_mono q := List.forall_mem_cons.mpr ⟨ty_mJ, List.forall_mem_cons.mpr ⟨ty_mJ, List.forall_mem_cons.mpr ⟨ty_mJ, List.forall_mem_cons.mpr ⟨ty_mJ, List.forall_mem_nil _⟩⟩⟩⟩
theorem ty_Fm_4 : ∀ q ∈ ty_F 4, ty_mono q := List.forall_mem_cons.mpr ⟨ty_mI, List.forall_mem_cons.mpr ⟨ty_mI, List.forall_mem_cons.mpr ⟨ty_mI, List.forall_mem_cons.mpr ⟨ty_mI, List.forall_mem_cons.mpr ⟨ty_mI, List.forall_mem_cons.mpr ⟨ty_mI, List.forall_mem_cons.mpr ⟨(ty_mA 0), List.forall_mem_nil _⟩⟩⟩⟩⟩⟩⟩
theorem ty_Fm_5 : ∀ q ∈ ty_F 5, ty_mono q := List.forall_mem_cons.mpr ⟨(ty_mB 0 4), List.forall_mem_cons.mpr ⟨(ty_mA 0), List.forall_mem_cons.mpr ⟨(ty_mA 0), List.forall_mem_cons.mpr ⟨(ty_mA 0), List.forall_mem_cons.mpr ⟨(ty_mA 0), List.forall_mem_nil _⟩⟩⟩⟩⟩
theorem ty_Fm_6 : ∀ q ∈ ty_F 6, ty_mono q := fun q h => by cases h
theorem ty_Fm_7 : ∀ q ∈ ty_F 7, ty_mono q := List.forall_mem_cons.mpr ⟨ty_mI, List.forall_mem_cons.mpr ⟨ty_mI, List.forall_mem_cons.mpr ⟨ty_mI, List.forall_mem_cons.mpr ⟨ty_mI, List.forall_mem_cons.mpr ⟨ty_mI, List.forall_mem_cons.mpr ⟨ty_mI, List.forall_mem_cons.mpr ⟨ty_mI, List.forall_mem_cons.mpr ⟨ty_mI, List.forall_mem_cons.mpr ⟨ty_mI, List.forall_mem_cons.mpr ⟨ty_mI, List.forall_mem_cons.mpr ⟨ty_mI, List.forall_mem_cons.mpr ⟨ty_mI, List.forall_mem_nil _⟩⟩⟩⟩⟩⟩⟩⟩⟩⟩⟩⟩
theorem ty_Fm_8 : ∀ q ∈ ty_F 8, ty_mono q := List.forall_mem_cons.mpr ⟨ty_mI, List.forall_mem_cons.mpr ⟨ty_mI, List.forall_mem_cons.mpr ⟨(ty_mA 0), List.forall_mem_cons.mpr ⟨ty_mI, List.forall_mem_cons.mpr ⟨ty_mI, List.forall_mem_nil _⟩⟩⟩⟩⟩
theorem ty_Fm_9 : ∀ q ∈ ty_F 9, ty_mono q := List.forall_mem_cons.mpr ⟨ty_mI, List.forall_mem_cons.mpr ⟨(ty_mR 7), List.forall_mem_cons.mpr ⟨(ty_mR 2), List.forall_mem_cons.mpr ⟨(ty_mR 5), List.forall_mem_cons.mpr ⟨ty_mI, List.forall_mem_cons.mpr ⟨(ty_mA 3), List.forall_mem_cons.mpr ⟨(ty_mR 8), List.forall_mem_cons.mpr ⟨(ty_mR 8), List.forall_mem_nil _⟩⟩⟩⟩⟩⟩⟩⟩
theorem ty_Fm (c : Nat) : ∀ q ∈ ty_F c, ty_mono q := match c with
  | 0 => ty_Fm_0
  | 1 => ty_Fm_1
  | 2 => ty_Fm_2
  | 3 => ty_Fm_3
  | 4 => ty_Fm_4
  | 5 => ty_Fm_5
  | 6 => ty_Fm_6
  | 7 => ty_Fm_7
  | 8 => ty_Fm_8
  | 9 => ty_Fm_9
  | _ + 10 => fun q h => by cases h
theorem ty_ok_mono {ct : Nat → ClassId} {S S' : ty_S} {κ : ty_K} {e : va_E} (hle : ty_le S S') (h : ty_ok ct S κ e) : ty_ok ct S' κ e := by
  match κ, h with
  | .inl c, h =>
    obtain ⟨fs, h1, h2, h3⟩ := h
    refine ⟨fs, h1, h2, fun k q hq => ?_⟩
    obtain ⟨v, h4, h5⟩ := h3 k q hq
    exact ⟨v, h4, ty_Fm c q (List.mem_of_getElem? hq) S S' v hle h5⟩
  | .inr (0, n), h => exact h
  | .inr (1, n), h => exact h
  | .inr (2, n), h => exact h
  | .inr (3, n), h =>
    obtain ⟨h1, f, h2, h3⟩ := h
    exact ⟨h1, f, h2, fun j b hj => hle _ _ (h3 j b hj)⟩
  | .inr (4, n), h =>
    obtain ⟨h1, f, h2, h3⟩ := h
    exact ⟨h1, f, h2, fun j b hj => hle _ _ (h3 j b hj)⟩
  | .inr (k + 5, n), h => exact h
theorem ty_abs {D : va_G} {cl : List vw_C} {A : Nat → Prop} {ct : Nat → ClassId} {S : ty_S} {H : Heap} {E1 ws : va_W} {a : Nat} {e : va_E} {κ : ty_K} (hP : va_P D cl ((E1 ++ [(a, e)]) ++ ws) H) (hD : va_D A ((E1 ++ [(a, e)]) ++ ws)) {ph : va_W → Prop} {xx : Nat → Nat → Nat → Prop} (hT : ty_V ct S ph ws) (hcl : ty_C ph xx) (ho : ty_ok ct S κ e) :
    ∃ (ws' : va_W) (S' : ty_S), ty_V ct S' ph ws' ∧ ty_le S S' ∧ S' a = some κ ∧ va_P D cl (E1 ++ ws') H ∧ va_D A (E1 ++ ws') ∧ ws'[0]? = some (a, e) := by
  have hn : S a = none := by
    cases hs : S a with
    | none => rfl
    | some κ0 =>
      obtain ⟨j, e0, hj, -⟩ := hT.1 a κ0 hs
      have h1 : ((E1 ++ [(a, e)]) ++ ws)[E1.length]? = some (a, e) := by
        rw [List.getElem?_append_left (by rw [List.length_append]; exact Nat.lt_succ_self _), List.getElem?_append_right (Nat.le_refl _), Nat.sub_self]
        rfl
      have h2 := hD.1 _ _ _ _ h1 (ty_app (E := E1 ++ [(a, e)]) hj) rfl
      rw [List.length_append] at h2
      exact absurd h2 (by simp; omega)
  have hle : ty_le S (ty_up S a κ) := by
    intro b κ1 hb
    have hne : ¬ b = a := by
      intro q
      subst q
      rw [hn] at hb
      cases hb
    show (if b = a then some κ else S b) = some κ1
    rw [if_neg hne]
    exact hb
  have hself : ty_up S a κ a = some κ := by
    show (if a = a then some κ else S a) = some κ
    rw [if_pos rfl]
  rw [List.append_assoc] at hP hD
  refine ⟨(a, e) :: ws, ty_up S a κ, ⟨?_, hcl.2.2.2.2 _ _ hT.2⟩, hle, hself, hP, hD, rfl⟩
  intro b κ1 hb
  by_cases hba : b = a
  · subst hba
    rw [hself] at hb
    cases hb
    exact ⟨0, e, rfl, ty_ok_mono hle ho⟩
  · have hb2 : S b = some κ1 := by
      have h3 : (if b = a then some κ else S b) = some κ1 := hb
      rw [if_neg hba] at h3
      exact h3
    obtain ⟨j, e0, hj, ho0⟩ := hT.1 b κ1 hb2
    exact ⟨j + 1, e0, hj, ty_ok_mono hle ho0⟩
def ty_all (S : ty_S) : List ty_Q → List Value → Prop
  | [], [] => True
  | q :: qs, v :: vs => q S v ∧ ty_all S qs vs
  | [], _ :: _ => False
  | _ :: _, [] => False
theorem ty_of_all {S : ty_S} : ∀ {qs : List ty_Q} {fs : List Value}, ty_all S qs fs → fs.length = qs.length ∧ ∀ (k : Nat) (q : ty_Q), qs[k]? = some q → ∃ v, fs[k]? = some v ∧ q S v
  | [], [], _ => ⟨rfl, fun k q h => by simp at h⟩
  | q :: qs, v :: vs, h => by
    obtain ⟨h1, h2⟩ := h
    obtain ⟨h3, h4⟩ := ty_of_all h2
    refine ⟨by rw [List.length_cons, List.length_cons, h3], fun k q' hk => ?_⟩
    cases k with
    | zero => cases hk; exact ⟨v, rfl, h1⟩
    | succ k => exact h4 k q' hk
theorem ty_subP {D : va_G} {cl : List vw_C} {w1 w2 : va_W} {H : Heap} (h : va_P D cl w1 H) (hs : w2.Sublist w1) : va_P D cl w2 H := by
  intro k q hk
  obtain ⟨j, hj⟩ := List.getElem?_of_mem (hs.subset (List.mem_of_getElem? hk))
  exact h j q hj
theorem ty_subD {A : Nat → Prop} {w1 w2 : va_W} (h : va_D A w1) (hs : w2.Sublist w1) : va_D A w2 := by
  refine ty_Dof ((hs.map Prod.fst).nodup (ty_Dnd h)) (fun q hq => ?_)
  obtain ⟨j, hj⟩ := List.getElem?_of_mem (hs.subset hq)
  exact h.2 j q hj
theorem ty_dr1 {E ws : va_W} {x : Nat × va_E} : (E ++ ws).Sublist ((E ++ [x]) ++ ws) := by
  rw [List.append_assoc]
  exact List.Sublist.append (List.Sublist.refl E) (List.sublist_cons_self x ws)
theorem ty_upq {S : ty_S} {f : Nat → Option Nat} {k a : Nat} (hf : ∀ (j b : Nat), f j = some b → S b = some (.inl 1)) (ha : S a = some (.inl 1)) : ∀ (j b : Nat), va_up f k (some a) j = some b → S b = some (.inl 1) := by
  intro j b h
  unfold va_up at h
  by_cases q : j = k
  · rw [if_pos q] at h
    cases h
    exact ha
  · rw [if_neg q] at h
    exact hf j b h
theorem ty_nnq {f : Nat → Option Nat} {a k : Nat} {i : Int32} (hi : i.toNatClampNeg = k) (hf : ∀ j : Nat, j < k → f j ≠ none) : ∀ j : Nat, j < k + 1 → va_up f i.toNatClampNeg (some a) j ≠ none := by
  intro j hj
  unfold va_up
  rw [hi]
  by_cases q : j = k
  · rw [if_pos q]
    exact fun h => by cases h
  · rw [if_neg q]
    exact hf j (by omega)
theorem ty_fcd {a c k : Nat} {v : Value} {ws : va_W} (h : ty_fc a c k v ws) : ty_fd ws a k v := by
  obtain ⟨j, fs, h1, h2⟩ := h
  exact ⟨j, c, fs, h1, h2⟩
theorem ty_fcn {a c k : Nat} {v : Value} {ws : va_W} {x : Nat × va_E} (h : ty_fc a c k v ws) : ty_fc a c k v (x :: ws) := by
  obtain ⟨j, fs, h1, h2⟩ := h
  exact ⟨j + 1, fs, h1, h2⟩
/-- a store elsewhere, to a cell that isn't this one or to another field -/
theorem ty_fcs {a c k : Nat} {v : Value} {ws : va_W} {j : Nat} {x y : Nat × va_E} (h : ty_fc a c k v ws) (hj : ws[j]? = some x) (hn : ∀ fs : List Value, x = (a, .inr (c, fs)) → fs[k]? = some v → ∃ gs : List Value, y = (a, .inr (c, gs)) ∧ gs[k]? = some v) : ty_fc a c k v (ws.set j y) := by
  obtain ⟨i, fs, h1, h2⟩ := h
  have hl : j < ws.length := (List.getElem?_eq_some_iff.mp hj).1
  by_cases q : i = j
  · subst q
    obtain ⟨gs, g1, g2⟩ := hn fs (Option.some.inj (hj.symm.trans h1)) h2
    exact ⟨i, gs, by rw [List.getElem?_set_self hl, g1], g2⟩
  · exact ⟨i, fs, by rw [List.getElem?_set_ne (fun p => q p.symm)]; exact h1, h2⟩
theorem ty_fcC {a c k : Nat} {v : Value} : ty_C (ty_fc a c k v) (fun c' k' _ => ¬ (c' = c ∧ k' = k)) := by
  refine ⟨fun ws j b c' k' fs v' hj hx h => ty_fcs h hj (fun gs e g => ?_), fun ws j b n cA f g hj h => ty_fcs h hj (fun gs e g => by cases e), fun ws j b n cA f g hj _ h => ty_fcs h hj (fun gs e g => by cases e), fun ws j b n cA f g hj _ h => ty_fcs h hj (fun gs e g => by cases e), fun ws x h => ty_fcn h⟩
  cases e
  have hk : k ≠ k' := fun q => hx ⟨rfl, q.symm⟩
  exact ⟨_, rfl, by rw [List.getElem?_set_ne (fun p => hk p.symm)]; exact g⟩
theorem ty_fqC {a : Nat} : ty_C (ty_fq a) (fun c' _ b' => c' = 14 → b' ≠ a) := by
  have key : ∀ (ws : va_W) (j : Nat) (x y : Nat × va_E), ty_fq a ws → ws[j]? = some x → (∀ (n : Nat) (cA : ClassId) (f : Nat → Option Nat), x ≠ (a, .inl (cA, n, .inr (.inr (.inr (.inr f)))))) → ty_fq a (ws.set j y) := by
    intro ws j x y h hj hn
    obtain ⟨i, n, cA, f, h1, h2⟩ := h
    have q : ¬ i = j := by
      intro q
      subst q
      exact hn n cA f (Option.some.inj (hj.symm.trans h1))
    exact ⟨i, n, cA, f, by rw [List.getElem?_set_ne (fun p => q p.symm)]; exact h1, h2⟩
  refine ⟨fun ws j b c' k' fs v' hj hx h => key ws j _ _ h hj (fun n cA f e => by cases e), fun ws j b n cA f g hj h => key ws j _ _ h hj (fun n cA f e => by cases e), fun ws j b n cA f g hj _ h => key ws j _ _ h hj (fun n cA f e => by cases e), fun ws j b n cA f g hj hx h => key ws j _ _ h hj (fun n cA f e => ?_), fun ws x h => ?_⟩
  · cases e
    exact hx rfl rfl
  · obtain ⟨i, n, cA, f, h1, h2⟩ := h
    exact ⟨i + 1, n, cA, f, h1, h2⟩
theorem ty_Cand {p q : va_W → Prop} {x y : Nat → Nat → Nat → Prop} (h : ty_C p x) (k : ty_C q y) : ty_C (fun ws => p ws ∧ q ws) (fun c k b => x c k b ∧ y c k b) :=
  ⟨fun ws j b c i fs v e a z => ⟨h.1 ws j b c i fs v e a.1 z.1, k.1 ws j b c i fs v e a.2 z.2⟩, fun ws j b n cA f g e z => ⟨h.2.1 ws j b n cA f g e z.1, k.2.1 ws j b n cA f g e z.2⟩, fun ws j b n cA f g e a z => ⟨h.2.2.1 ws j b n cA f g e a.1 z.1, k.2.2.1 ws j b n cA f g e a.2 z.2⟩, fun ws j b n cA f g e a z => ⟨h.2.2.2.1 ws j b n cA f g e a.1 z.1, k.2.2.2.1 ws j b n cA f g e a.2 z.2⟩, fun ws x z => ⟨h.2.2.2.2 ws x z.1, k.2.2.2.2 ws x z.2⟩⟩
/-- a store to another cell keeps the field, too -/
theorem ty_fcB {a c k : Nat} {v : Value} : ty_C (ty_fc a c k v) (fun c' k' b' => ¬ (c' = c ∧ k' = k ∧ b' = a)) := by
  refine ⟨fun ws j b c' k' fs v' hj hx h => ty_fcs h hj (fun gs e g => ?_), fun ws j b n cA f g hj h => ty_fcs h hj (fun gs e g => by cases e), fun ws j b n cA f g hj _ h => ty_fcs h hj (fun gs e g => by cases e), fun ws j b n cA f g hj _ h => ty_fcs h hj (fun gs e g => by cases e), fun ws x h => ty_fcn h⟩
  cases e
  have hk : k ≠ k' := fun q => hx ⟨rfl, q.symm, rfl⟩
  exact ⟨_, rfl, by rw [List.getElem?_set_ne (fun p => hk p.symm)]; exact g⟩
/-- what else is known, and which stores keep it -/
def rp_PS (sp : Nat) : Type := { q : (va_W → Prop) × (Nat → Nat → Nat → Prop) // ty_C q.1 q.2 ∧ (∀ c k b : Nat, c ≠ 9 → c ≠ 14 → q.2 c k b) ∧ ∀ k : Nat, k ≠ 0 → q.2 9 k sp }
def rp_PS.p {sp : Nat} (ps : rp_PS sp) : va_W → Prop := ps.1.1
def rp_PS.x {sp : Nat} (ps : rp_PS sp) : Nat → Nat → Nat → Prop := ps.1.2
theorem rp_PS.c {sp : Nat} (ps : rp_PS sp) : ty_C ps.p ps.x := ps.2.1
theorem rp_PS.a1 {sp : Nat} (ps : rp_PS sp) : ∀ c k b : Nat, c ≠ 9 → c ≠ 14 → ps.x c k b := ps.2.2.1
theorem rp_PS.a2 {sp : Nat} (ps : rp_PS sp) : ∀ k : Nat, k ≠ 0 → ps.x 9 k sp := ps.2.2.2
/-- the time of a world that may be there -/
def rp_ot (a : Option Nat) (t : Int32) (ws : va_W) : Prop := ∀ v : Nat, a = some v → ty_fc v 9 0 (.int t) ws
theorem rp_otC {a : Option Nat} {t : Int32} : ty_C (rp_ot a t) (fun c k b => ¬ (c = 9 ∧ k = 0 ∧ a = some b)) :=
  ⟨fun ws j b c k fs v e x h u hu => ty_fcB.1 ws j b c k fs v e (fun q => x ⟨q.1, q.2.1, by rw [hu, q.2.2]⟩) (h u hu), fun ws j b n cA f g e h u hu => ty_fcB.2.1 ws j b n cA f g e (h u hu), fun ws j b n cA f g e x h u hu => ty_fcB.2.2.1 ws j b n cA f g e (fun q => absurd q.1 (by decide)) (h u hu), fun ws j b n cA f g e x h u hu => ty_fcB.2.2.2.1 ws j b n cA f g e (fun q => absurd q.1 (by decide)) (h u hu), fun ws x h u hu => ty_fcB.2.2.2.2 ws x (h u hu)⟩
/-- the row of the slots -/
def rp_rw (a : Nat) (v0 v1 : Option Nat) (ws : va_W) : Prop := ∃ (i n : Nat) (cA : ClassId) (f : Nat → Option Nat), ws[i]? = some (a, .inl (cA, n, .inr (.inr (.inr (.inr f))))) ∧ f 0 = v0 ∧ f 1 = v1
theorem rp_rwC {a : Nat} {v0 v1 : Option Nat} : ty_C (rp_rw a v0 v1) (fun c' _ b' => c' = 14 → b' ≠ a) := by
  have key : ∀ (ws : va_W) (j : Nat) (x y : Nat × va_E), rp_rw a v0 v1 ws → ws[j]? = some x → (∀ (n : Nat) (cA : ClassId) (f : Nat → Option Nat), x ≠ (a, .inl (cA, n, .inr (.inr (.inr (.inr f)))))) → rp_rw a v0 v1 (ws.set j y) := by
    intro ws j x y h hj hn
    obtain ⟨i, n, cA, f, h1, h2⟩ := h
    have q : ¬ i = j := by
      intro q
      subst q
      exact hn n cA f (Option.some.inj (hj.symm.trans h1))
    exact ⟨i, n, cA, f, by rw [List.getElem?_set_ne (fun p => q p.symm)]; exact h1, h2⟩
  refine ⟨fun ws j b c' k' fs v' hj hx h => key ws j _ _ h hj (fun n cA f e => by cases e), fun ws j b n cA f g hj h => key ws j _ _ h hj (fun n cA f e => by cases e), fun ws j b n cA f g hj _ h => key ws j _ _ h hj (fun n cA f e => by cases e), fun ws j b n cA f g hj hx h => key ws j _ _ h hj (fun n cA f e => ?_), fun ws x h => ?_⟩
  · cases e
    exact hx rfl rfl
  · obtain ⟨i, n, cA, f, h1, h2⟩ := h
    exact ⟨i + 1, n, cA, f, h1, h2⟩
/-- the slots, and the times of up to three worlds -/
def rp_P3 (sp sv : Nat) (v0 v1 aw q0 q1 : Option Nat) (t τ0 τ1 : Int32) : rp_PS sp :=
  ⟨(fun ws => rp_rw sv v0 v1 ws ∧ rp_ot aw t ws ∧ rp_ot q0 τ0 ws ∧ rp_ot q1 τ1 ws,
    fun c k b => (c = 14 → b ≠ sv) ∧ ¬ (c = 9 ∧ k = 0 ∧ aw = some b) ∧ ¬ (c = 9 ∧ k = 0 ∧ q0 = some b) ∧ ¬ (c = 9 ∧ k = 0 ∧ q1 = some b)),
    ty_Cand rp_rwC (ty_Cand rp_otC (ty_Cand rp_otC rp_otC)),
    fun c k b h1 h2 => ⟨fun q => absurd q h2, fun q => h1 q.1, fun q => h1 q.1, fun q => h1 q.1⟩,
    fun k h => ⟨fun q => absurd q (by decide), fun q => h q.2.1, fun q => h q.2.1, fun q => h q.2.1⟩⟩
/-- nothing else -/
def rp_P0 (sp : Nat) : rp_PS sp :=
  ⟨(fun _ => True, fun _ _ _ => True), ⟨fun _ _ _ _ _ _ _ _ _ _ => trivial, fun _ _ _ _ _ _ _ _ _ => trivial, fun _ _ _ _ _ _ _ _ _ _ => trivial, fun _ _ _ _ _ _ _ _ _ _ => trivial, fun _ _ _ => trivial⟩, fun _ _ _ _ _ => trivial, fun _ _ => trivial⟩
/-- and the spare world's time is 0 -/
def rp_Pe {sp : Nat} (ps : rp_PS sp) : rp_PS sp :=
  ⟨(fun ws => ps.p ws ∧ ty_fc sp 9 0 (.int 0) ws, fun c k b => ps.x c k b ∧ ¬ (c = 9 ∧ k = 0 ∧ b = sp)), ty_Cand ps.c ty_fcB, fun c k b h1 h2 => ⟨ps.a1 c k b h1 h2, fun q => h1 q.1⟩, fun k h => ⟨ps.a2 k h, fun q => h q.2.1⟩⟩
/-- what is known of a world that descriptions are read into -/
def rp_S {sp : Nat} (ps : rp_PS sp) (cu na pr ch : Nat) (ws : va_W) : Prop := ty_fc sp 9 2 (.ref cu) ws ∧ ty_fc cu 2 1 (.ref na) ws ∧ ty_fc sp 9 3 (.ref pr) ws ∧ ty_fc sp 9 5 (.ref ch) ws ∧ ty_fq ch ws ∧ ps.p ws
def rp_xS {sp : Nat} (ps : rp_PS sp) (ch : Nat) (c k b : Nat) : Prop := (¬ (c = 9 ∧ k = 2) ∧ ¬ (c = 2 ∧ k = 1) ∧ ¬ (c = 9 ∧ k = 3) ∧ ¬ (c = 9 ∧ k = 5)) ∧ (c = 14 → b ≠ ch) ∧ ps.x c k b
theorem rp_SC {sp : Nat} {ps : rp_PS sp} {cu na pr ch : Nat} : ty_C (rp_S ps cu na pr ch) (rp_xS ps ch) := by
  have h := ty_Cand (ty_fcC (a := sp) (c := 9) (k := 2) (v := .ref cu)) (ty_Cand (ty_fcC (a := cu) (c := 2) (k := 1) (v := .ref na)) (ty_Cand (ty_fcC (a := sp) (c := 9) (k := 3) (v := .ref pr)) (ty_Cand (ty_fcC (a := sp) (c := 9) (k := 5) (v := .ref ch)) (ty_Cand (ty_fqC (a := ch)) ps.c))))
  exact ⟨fun ws j b c i fs v e a => h.1 ws j b c i fs v e ⟨a.1.1, a.1.2.1, a.1.2.2.1, a.1.2.2.2, a.2⟩, h.2.1, fun ws j b n cA f g e a => h.2.2.1 ws j b n cA f g e ⟨a.1.1, a.1.2.1, a.1.2.2.1, a.1.2.2.2, a.2⟩, fun ws j b n cA f g e a => h.2.2.2.1 ws j b n cA f g e ⟨a.1.1, a.1.2.1, a.1.2.2.1, a.1.2.2.2, a.2⟩, h.2.2.2.2⟩
theorem ty_frm {c : Nat} (h : ty_fr c = true) : c ≠ 9 ∧ c ≠ 2 ∧ c ≠ 5 ∧ c ≠ 7 ∧ c ≠ 11 ∧ c ≠ 14 := by
  refine ⟨?_, ?_, ?_, ?_, ?_, ?_⟩ <;> (intro q; subst q; cases h)
/-- a store into a field of a world: what it holds is known, too -/
theorem rp_cv {ph : va_W → Prop} {xx : Nat → Nat → Nat → Prop} {h0 k : Nat} {v : Value} {ws : va_W} (hc : ty_C ph xx) (hx : xx 9 k h0) (hk : k < 8) (j : Nat) (fs : List Value) (hj : ws[j]? = some (h0, .inr (9, fs))) (hl : fs.length = (ty_F 9).length) (h : ph ws) : ph (ws.set j (h0, .inr (9, fs.set k v))) ∧ ty_fc h0 9 k v (ws.set j (h0, .inr (9, fs.set k v))) :=
  ⟨hc.1 _ _ _ _ _ _ _ hj hx h, ⟨j, _, List.getElem?_set_self (List.getElem?_eq_some_iff.mp hj).1, List.getElem?_set_self (by rw [hl]; exact hk)⟩⟩
theorem rp_m1 {xx : Nat → Nat → Nat → Prop} {i a : Nat} (h : ty_y1 xx) : ty_y1 (fun c k b => xx c k b ∧ ¬ (c = 9 ∧ k = i ∧ b = a)) := fun c k b q => ⟨h c k b q, fun z => (ty_frm q).1 z.1⟩
theorem rp_m7 {xx : Nat → Nat → Nat → Prop} {i a : Nat} (h : ty_yc xx 7) : ty_yc (fun c k b => xx c k b ∧ ¬ (c = 9 ∧ k = i ∧ b = a)) 7 := fun k b => ⟨h k b, fun z => absurd z.1 (by decide)⟩
theorem rp_m0 {xx : Nat → Nat → Nat → Prop} {i a c : Nat} (hc : c ≠ 9) (h : ty_y0 xx c) : ty_y0 (fun c k b => xx c k b ∧ ¬ (c = 9 ∧ k = i ∧ b = a)) c := fun b => ⟨h b, fun z => hc z.1⟩
/-- what is known of a world that has just been made -/
def rp_S0 (sp cu na pr ch : Nat) (ws : va_W) : Prop := rp_S (rp_P0 sp) cu na pr ch ws ∧ ty_fc sp 9 0 (.int 0) ws
theorem rp_S0C {sp cu na pr ch : Nat} : ty_C (rp_S0 sp cu na pr ch) (fun c k b => rp_xS (rp_P0 sp) ch c k b ∧ ¬ (c = 9 ∧ k = 0 ∧ b = sp)) := ty_Cand rp_SC ty_fcB
theorem ty_frn {c : Nat} (h : ty_fr c = true) : c ≠ 9 ∧ c ≠ 2 ∧ c ≠ 5 ∧ c ≠ 7 ∧ c ≠ 11 ∧ c ≠ 14 := by
  refine ⟨?_, ?_, ?_, ?_, ?_, ?_⟩ <;> (intro q; subst q; cases h)
theorem rp_S1 {sp ch : Nat} {ps : rp_PS sp} : ty_y1 (rp_xS ps ch) := fun c k b h => by
  have f := ty_frn h
  exact ⟨⟨fun q => f.1 q.1, fun q => f.2.1 q.1, fun q => f.1 q.1, fun q => f.1 q.1⟩, fun q => absurd q f.2.2.2.2.2, ps.a1 c k b f.1 f.2.2.2.2.2⟩
theorem rp_Sx {sp ch : Nat} {ps : rp_PS sp} {k b : Nat} (hk : k = 0 ∨ k = 4) (h : ps.x 9 k b) : rp_xS ps ch 9 k b := ⟨⟨by omega, by omega, by omega, by omega⟩, by omega, h⟩
theorem rp_S9 {sp ch : Nat} {ps : rp_PS sp} (h : ps.x 9 0 sp) : rp_xS ps ch 9 0 sp ∧ rp_xS ps ch 9 4 sp := ⟨rp_Sx (Or.inl rfl) h, rp_Sx (Or.inr rfl) (ps.a2 4 (by decide))⟩
theorem rp_S7 {sp ch : Nat} {ps : rp_PS sp} : ty_yc (rp_xS ps ch) 7 := fun k b => ⟨⟨by omega, by omega, by omega, by omega⟩, by omega, ps.a1 7 k b (by decide) (by decide)⟩
theorem rp_S0y {sp ch : Nat} {ps : rp_PS sp} (c : Nat) (h : c = 2 ∨ c = 5 ∨ c = 11) : ty_y0 (rp_xS ps ch) c := fun b => ⟨⟨by omega, by omega, by omega, by omega⟩, by omega, ps.a1 c 0 b (by omega) (by omega)⟩
/-- less is asked of what else is known -/
theorem rp_Sm {sp : Nat} {ps qs : rp_PS sp} {cu na pr ch : Nat} {ws : va_W} (h : rp_S ps cu na pr ch ws) (k : ps.p ws → qs.p ws) : rp_S qs cu na pr ch ws := ⟨h.1, h.2.1, h.2.2.1, h.2.2.2.1, h.2.2.2.2.1, k h.2.2.2.2.2⟩
/-- the law's facts: the spare world's, the slots, the times of the world and of the worlds in the slots -/
abbrev rp_L (w sp sv cu na pr ch : Nat) (v0 v1 : Option Nat) (t τ0 τ1 : Int32) : va_W → Prop := rp_S (rp_P3 sp sv v0 v1 (some w) v0 v1 t τ0 τ1) cu na pr ch
abbrev rp_xL (w sp sv ch : Nat) (v0 v1 : Option Nat) (t τ0 τ1 : Int32) : Nat → Nat → Nat → Prop := rp_xS (rp_P3 sp sv v0 v1 (some w) v0 v1 t τ0 τ1) ch
/-- the worlds are four at most, each another -/
def rp_sd (w sp : Nat) (v0 v1 : Option Nat) : Prop := ¬ w = sp ∧ (∀ v : Nat, v0 = some v → ¬ v = w ∧ ¬ v = sp) ∧ (∀ v : Nat, v1 = some v → ¬ v = w ∧ ¬ v = sp) ∧ ∀ v : Nat, v0 = some v → ¬ v1 = some v
theorem rp_Px {w sp sv : Nat} {v0 v1 : Option Nat} {t τ0 τ1 : Int32} (h : rp_sd w sp v0 v1) : (rp_P3 sp sv v0 v1 (some w) v0 v1 t τ0 τ1).x 9 0 sp :=
  ⟨fun q => absurd q (by decide), fun q => h.1 (Option.some.inj q.2.2), fun q => (h.2.1 _ q.2.2).2 rfl, fun q => (h.2.2.1 _ q.2.2).2 rfl⟩
theorem rp_xLw {w sp sv ch : Nat} {v0 v1 : Option Nat} {t τ0 τ1 t2 : Int32} {cu na pr : Nat} {ws : va_W} (h : rp_sd w sp v0 v1) (j : Nat) (fs : List Value) (hj : ws[j]? = some (w, .inr (9, fs))) (hl : fs.length = (ty_F 9).length) (hp : rp_L w sp sv cu na pr ch v0 v1 t τ0 τ1 ws) : rp_L w sp sv cu na pr ch v0 v1 t2 τ0 τ1 (ws.set j (w, .inr (9, fs.set 0 (.int t2)))) := by
  have a := rp_Sm (qs := rp_P3 sp sv v0 v1 none v0 v1 t τ0 τ1) hp (fun z => ⟨z.1, (fun v q => by cases q), z.2.2⟩)
  have b := rp_cv (v := .int t2) (rp_SC (ps := rp_P3 sp sv v0 v1 none v0 v1 t τ0 τ1) (cu := cu) (na := na) (pr := pr) (ch := ch)) (rp_Sx (Or.inl rfl) ⟨fun q => absurd q (by decide), (fun q => by cases q.2.2), fun q => (h.2.1 _ q.2.2).1 rfl, fun q => (h.2.2.1 _ q.2.2).1 rfl⟩) (by decide) j fs hj hl a
  exact rp_Sm b.1 (fun z => ⟨z.1, fun v q => by rw [← Option.some.inj q]; exact b.2, z.2.2⟩)
theorem rp_Lw {w sp sv ch : Nat} {v0 v1 : Option Nat} {t τ0 τ1 : Int32} {cu na pr : Nat} {ws : va_W} (h : rp_L w sp sv cu na pr ch v0 v1 t τ0 τ1 ws) : ty_fc w 9 0 (.int t) ws := h.2.2.2.2.2.2.1 w rfl
/-- what a field of numbers holds can be named -/
theorem rp_fcx {ct : Nat → ClassId} {S : ty_S} {ws : va_W} (h : ty_W ct S ws) {a : Nat} (ha : S a = some (.inl 9)) : ∃ n : Int32, ty_fc a 9 4 (.int n) ws := by
  obtain ⟨j, e, hj, fs, rfl, hl, hf⟩ := h a _ ha
  obtain ⟨v, hv, x, rfl⟩ := hf 4 ty_I rfl
  exact ⟨x, j, fs, hj, hv⟩
/-- an explicit cell isn't one of the typed world -/
theorem ty_neq {A : Nat → Prop} {E ws : va_W} {ct : Nat → ClassId} {S : ty_S} {a q : Nat} {κ : ty_K} {e : va_E} (i : Nat) (hD : va_D A (E ++ ws)) (hE : E[i]? = some (q, e)) (hW : ty_W ct S ws) (ha : S a = some κ) : ¬ a = q := by
  intro h
  subst h
  obtain ⟨j, e2, hj, -⟩ := hW a κ ha
  have l : i < E.length := (List.getElem?_eq_some_iff.mp hE).1
  have d := hD.1 _ _ _ _ (show (E ++ ws)[i]? = some (a, e) by rw [List.getElem?_append_left l]; exact hE) (ty_app hj) rfl
  omega
theorem ty_k34 {S : ty_S} {a b n m : Nat} (h : S a = some (.inr (4, n))) (k : S b = some (.inr (3, m))) : a ≠ b := by
  intro q
  subst q
  rw [h] at k
  cases k
/-- a call that needs nothing of the typed world: it stays in the frame -/
theorem ty_V0 {ct : Nat → ClassId} : ty_V ct (fun _ => none) (fun _ => True) [] := ⟨fun b κ h => (by cases h), trivial⟩
theorem ty_C0 : ty_C (fun _ => True) (fun _ _ _ => True) := ⟨fun _ _ _ _ _ _ _ _ _ _ => trivial, fun _ _ _ _ _ _ _ _ _ => trivial, fun _ _ _ _ _ _ _ _ _ _ => trivial, fun _ _ _ _ _ _ _ _ _ _ => trivial, fun _ _ _ => trivial⟩
theorem ty_y10 : ty_y1 (fun _ _ _ => True) := fun _ _ _ _ => trivial
theorem ty_mv2 {E1 E2 ws : va_W} : ((E1 ++ E2) ++ ws).Perm ((E1 ++ ws) ++ (E2 ++ [])) := by
  rw [List.append_nil, List.append_assoc, List.append_assoc]
  exact List.Perm.append_left E1 List.perm_append_comm
theorem ty_mv3 {E1 E2 ws u : va_W} : ((E1 ++ ws) ++ (E2 ++ u)).Perm (((E1 ++ E2) ++ ws) ++ u) := by
  rw [← List.append_assoc, List.append_assoc E1 ws E2, List.append_assoc E1 E2 ws]
  exact List.Perm.append_right u (List.Perm.append_left E1 List.perm_append_comm)
theorem ty_bkP {D : va_G} {cl : List vw_C} {E1 E2 ws u : va_W} {H : Heap} (h : va_P D cl ((E1 ++ ws) ++ (E2 ++ u)) H) : va_P D cl ((E1 ++ E2) ++ ws) H := ty_subP (ty_permP h ty_mv3) (List.sublist_append_left _ u)
theorem ty_bkD {A : Nat → Prop} {E1 E2 ws u : va_W} (h : va_D A ((E1 ++ ws) ++ (E2 ++ u))) : va_D A ((E1 ++ E2) ++ ws) := ty_subD (ty_permD h ty_mv3) (List.sublist_append_left _ u)
theorem ty_bl {x : Int32} (h : 0 ≤ x.toInt ∧ x.toInt ≤ 800) : x.toInt < 2147483647 := by omega
theorem ty_decn {y : Int32} (h : ¬ y < 0) : ((y + Int32.ofInt (-8)).toInt + 2147483648).toNat < (y.toInt + 2147483648).toNat := by
  rw [Int32.lt_iff_toInt_lt, show (0 : Int32).toInt = 0 from by decide] at h
  have h2 : y.toInt < 2147483648 := y.toInt_lt
  have e : (y + Int32.ofInt (-8)).toInt = y.toInt - 8 := by
    rw [Int32.toInt_add, show (Int32.ofInt (-8)).toInt = -8 from by decide]
    exact Jvm.Kit.bmod32 (by omega) (by omega)
  rw [e]
  omega
theorem ty_le4 {x : Int32} (h : 0 ≤ x.toInt ∧ x.toInt ≤ 4) : x ≤ 4 := by
  rw [Int32.le_iff_toInt_le, show (4 : Int32).toInt = 4 from by decide]
  exact h.2
theorem ty_mvp {E ws : va_W} {x : Nat × va_E} : ((E ++ ws) ++ [x]).Perm ((E ++ [x]) ++ ws) := by
  rw [List.append_assoc, List.append_assoc]
  exact List.Perm.append_left E List.perm_append_comm
theorem ty_sw0_3 {x : Int32} (h0 : ¬ x = 0) (h1 : ¬ x = 1) (h2 : ¬ x = 2) (h3 : ¬ x = 3) : x.toInt < 0 ∨ 3 < x.toInt := by
  have e0 : x.toInt ≠ 0 := fun q => h0 (Int32.toInt_inj.mp (q.trans (by decide)))
  have e1 : x.toInt ≠ 1 := fun q => h1 (Int32.toInt_inj.mp (q.trans (by decide)))
  have e2 : x.toInt ≠ 2 := fun q => h2 (Int32.toInt_inj.mp (q.trans (by decide)))
  have e3 : x.toInt ≠ 3 := fun q => h3 (Int32.toInt_inj.mp (q.trans (by decide)))
  omega
theorem ty_sw0_4 {x : Int32} (h0 : ¬ x = 0) (h1 : ¬ x = 1) (h2 : ¬ x = 2) (h3 : ¬ x = 3) (h4 : ¬ x = 4) : x.toInt < 0 ∨ 4 < x.toInt := by
  have e0 : x.toInt ≠ 0 := fun q => h0 (Int32.toInt_inj.mp (q.trans (by decide)))
  have e1 : x.toInt ≠ 1 := fun q => h1 (Int32.toInt_inj.mp (q.trans (by decide)))
  have e2 : x.toInt ≠ 2 := fun q => h2 (Int32.toInt_inj.mp (q.trans (by decide)))
  have e3 : x.toInt ≠ 3 := fun q => h3 (Int32.toInt_inj.mp (q.trans (by decide)))
  have e4 : x.toInt ≠ 4 := fun q => h4 (Int32.toInt_inj.mp (q.trans (by decide)))
  omega
theorem ty_sw0_2 {x : Int32} (h0 : ¬ x = 0) (h1 : ¬ x = 1) (h2 : ¬ x = 2) : x.toInt < 0 ∨ 2 < x.toInt := by
  have e0 : x.toInt ≠ 0 := fun q => h0 (Int32.toInt_inj.mp (q.trans (by decide)))
  have e1 : x.toInt ≠ 1 := fun q => h1 (Int32.toInt_inj.mp (q.trans (by decide)))
  have e2 : x.toInt ≠ 2 := fun q => h2 (Int32.toInt_inj.mp (q.trans (by decide)))
  omega
theorem ty_sw0_10 {x : Int32} (h0 : ¬ x = 0) (h1 : ¬ x = 1) (h2 : ¬ x = 2) (h3 : ¬ x = 3) (h4 : ¬ x = 4) (h5 : ¬ x = 5) (h6 : ¬ x = 6) (h7 : ¬ x = 7) (h8 : ¬ x = 8) (h9 : ¬ x = 9) (h10 : ¬ x = 10) : x.toInt < 0 ∨ 10 < x.toInt := by
  have e0 : x.toInt ≠ 0 := fun q => h0 (Int32.toInt_inj.mp (q.trans (by decide)))
  have e1 : x.toInt ≠ 1 := fun q => h1 (Int32.toInt_inj.mp (q.trans (by decide)))
  have e2 : x.toInt ≠ 2 := fun q => h2 (Int32.toInt_inj.mp (q.trans (by decide)))
  have e3 : x.toInt ≠ 3 := fun q => h3 (Int32.toInt_inj.mp (q.trans (by decide)))
  have e4 : x.toInt ≠ 4 := fun q => h4 (Int32.toInt_inj.mp (q.trans (by decide)))
  have e5 : x.toInt ≠ 5 := fun q => h5 (Int32.toInt_inj.mp (q.trans (by decide)))
  have e6 : x.toInt ≠ 6 := fun q => h6 (Int32.toInt_inj.mp (q.trans (by decide)))
  have e7 : x.toInt ≠ 7 := fun q => h7 (Int32.toInt_inj.mp (q.trans (by decide)))
  have e8 : x.toInt ≠ 8 := fun q => h8 (Int32.toInt_inj.mp (q.trans (by decide)))
  have e9 : x.toInt ≠ 9 := fun q => h9 (Int32.toInt_inj.mp (q.trans (by decide)))
  have e10 : x.toInt ≠ 10 := fun q => h10 (Int32.toInt_inj.mp (q.trans (by decide)))
  omega
theorem ty_sw0_7 {x : Int32} (h0 : ¬ x = 0) (h1 : ¬ x = 1) (h2 : ¬ x = 2) (h3 : ¬ x = 3) (h4 : ¬ x = 4) (h5 : ¬ x = 5) (h6 : ¬ x = 6) (h7 : ¬ x = 7) : x.toInt < 0 ∨ 7 < x.toInt := by
  have e0 : x.toInt ≠ 0 := fun q => h0 (Int32.toInt_inj.mp (q.trans (by decide)))
  have e1 : x.toInt ≠ 1 := fun q => h1 (Int32.toInt_inj.mp (q.trans (by decide)))
  have e2 : x.toInt ≠ 2 := fun q => h2 (Int32.toInt_inj.mp (q.trans (by decide)))
  have e3 : x.toInt ≠ 3 := fun q => h3 (Int32.toInt_inj.mp (q.trans (by decide)))
  have e4 : x.toInt ≠ 4 := fun q => h4 (Int32.toInt_inj.mp (q.trans (by decide)))
  have e5 : x.toInt ≠ 5 := fun q => h5 (Int32.toInt_inj.mp (q.trans (by decide)))
  have e6 : x.toInt ≠ 6 := fun q => h6 (Int32.toInt_inj.mp (q.trans (by decide)))
  have e7 : x.toInt ≠ 7 := fun q => h7 (Int32.toInt_inj.mp (q.trans (by decide)))
  omega
theorem ty_sw0_1 {x : Int32} (h0 : ¬ x = 0) (h1 : ¬ x = 1) : x.toInt < 0 ∨ 1 < x.toInt := by
  have e0 : x.toInt ≠ 0 := fun q => h0 (Int32.toInt_inj.mp (q.trans (by decide)))
  have e1 : x.toInt ≠ 1 := fun q => h1 (Int32.toInt_inj.mp (q.trans (by decide)))
  omega
theorem ty_sw1_3 {x : Int32} (h1 : ¬ x = 1) (h2 : ¬ x = 2) (h3 : ¬ x = 3) : x.toInt < 1 ∨ 3 < x.toInt := by
  have e1 : x.toInt ≠ 1 := fun q => h1 (Int32.toInt_inj.mp (q.trans (by decide)))
  have e2 : x.toInt ≠ 2 := fun q => h2 (Int32.toInt_inj.mp (q.trans (by decide)))
  have e3 : x.toInt ≠ 3 := fun q => h3 (Int32.toInt_inj.mp (q.trans (by decide)))
  omega
theorem ty_sw0_6 {x : Int32} (h0 : ¬ x = 0) (h1 : ¬ x = 1) (h2 : ¬ x = 2) (h3 : ¬ x = 3) (h4 : ¬ x = 4) (h5 : ¬ x = 5) (h6 : ¬ x = 6) : x.toInt < 0 ∨ 6 < x.toInt := by
  have e0 : x.toInt ≠ 0 := fun q => h0 (Int32.toInt_inj.mp (q.trans (by decide)))
  have e1 : x.toInt ≠ 1 := fun q => h1 (Int32.toInt_inj.mp (q.trans (by decide)))
  have e2 : x.toInt ≠ 2 := fun q => h2 (Int32.toInt_inj.mp (q.trans (by decide)))
  have e3 : x.toInt ≠ 3 := fun q => h3 (Int32.toInt_inj.mp (q.trans (by decide)))
  have e4 : x.toInt ≠ 4 := fun q => h4 (Int32.toInt_inj.mp (q.trans (by decide)))
  have e5 : x.toInt ≠ 5 := fun q => h5 (Int32.toInt_inj.mp (q.trans (by decide)))
  have e6 : x.toInt ≠ 6 := fun q => h6 (Int32.toInt_inj.mp (q.trans (by decide)))
  omega
theorem ty_sw0_5 {x : Int32} (h0 : ¬ x = 0) (h1 : ¬ x = 1) (h2 : ¬ x = 2) (h3 : ¬ x = 3) (h4 : ¬ x = 4) (h5 : ¬ x = 5) : x.toInt < 0 ∨ 5 < x.toInt := by
  have e0 : x.toInt ≠ 0 := fun q => h0 (Int32.toInt_inj.mp (q.trans (by decide)))
  have e1 : x.toInt ≠ 1 := fun q => h1 (Int32.toInt_inj.mp (q.trans (by decide)))
  have e2 : x.toInt ≠ 2 := fun q => h2 (Int32.toInt_inj.mp (q.trans (by decide)))
  have e3 : x.toInt ≠ 3 := fun q => h3 (Int32.toInt_inj.mp (q.trans (by decide)))
  have e4 : x.toInt ≠ 4 := fun q => h4 (Int32.toInt_inj.mp (q.trans (by decide)))
  have e5 : x.toInt ≠ 5 := fun q => h5 (Int32.toInt_inj.mp (q.trans (by decide)))
  omega
theorem ty_sw0_9 {x : Int32} (h0 : ¬ x = 0) (h1 : ¬ x = 1) (h2 : ¬ x = 2) (h3 : ¬ x = 3) (h4 : ¬ x = 4) (h5 : ¬ x = 5) (h6 : ¬ x = 6) (h7 : ¬ x = 7) (h8 : ¬ x = 8) (h9 : ¬ x = 9) : x.toInt < 0 ∨ 9 < x.toInt := by
  have e0 : x.toInt ≠ 0 := fun q => h0 (Int32.toInt_inj.mp (q.trans (by decide)))
  have e1 : x.toInt ≠ 1 := fun q => h1 (Int32.toInt_inj.mp (q.trans (by decide)))
  have e2 : x.toInt ≠ 2 := fun q => h2 (Int32.toInt_inj.mp (q.trans (by decide)))
  have e3 : x.toInt ≠ 3 := fun q => h3 (Int32.toInt_inj.mp (q.trans (by decide)))
  have e4 : x.toInt ≠ 4 := fun q => h4 (Int32.toInt_inj.mp (q.trans (by decide)))
  have e5 : x.toInt ≠ 5 := fun q => h5 (Int32.toInt_inj.mp (q.trans (by decide)))
  have e6 : x.toInt ≠ 6 := fun q => h6 (Int32.toInt_inj.mp (q.trans (by decide)))
  have e7 : x.toInt ≠ 7 := fun q => h7 (Int32.toInt_inj.mp (q.trans (by decide)))
  have e8 : x.toInt ≠ 8 := fun q => h8 (Int32.toInt_inj.mp (q.trans (by decide)))
  have e9 : x.toInt ≠ 9 := fun q => h9 (Int32.toInt_inj.mp (q.trans (by decide)))
  omega
