/-! typed worlds: each address has a kind, each reference leads to its kind; a method that needs no more is proved over any world of that shape -/
abbrev ty_K : Type := Nat ⊕ (Nat × Nat)
abbrev ty_S : Type := Nat → Option ty_K
abbrev ty_Q : Type := ty_S → Value → Prop
def ty_I : ty_Q := fun _ v => ∃ x : Int32, v = .int x
def ty_J : ty_Q := fun _ v => ∃ x : Int64, v = .long x
def ty_Z : ty_Q := fun _ v => ∃ x : Int32, v = .int x ∧ vp_nar .boolean x = x
def ty_B (lo hi : Int) : ty_Q := fun _ v => ∃ x : Int32, v = .int x ∧ lo ≤ x.toInt ∧ x.toInt ≤ hi
def ty_R (c : Nat) : ty_Q := fun S v => ∃ a : Nat, v = .ref a ∧ S a = some (.inl c)
def ty_A (k : Nat) : ty_Q := fun S v => ∃ a n : Nat, v = .ref a ∧ S a = some (.inr (k, n))
def ty_F : Nat → List ty_Q
  | 0 => [ty_A 0, ty_I, ty_I, ty_I, ty_I, ty_I, ty_I, ty_I, ty_I, ty_I, ty_I, ty_I, ty_I, ty_I, ty_I, ty_R 3]
  | 1 => [ty_I, ty_R 0, ty_R 4, ty_I, ty_I, ty_I, ty_I, ty_A 0, ty_A 0, ty_I, ty_J, ty_J, ty_Z, ty_J]
  | 2 => [ty_I, ty_A 1, ty_A 0, ty_A 0]
  | 3 => [ty_J, ty_J, ty_J, ty_J]
  | 4 => [ty_I, ty_I, ty_I, ty_I, ty_I, ty_I, ty_A 0]
  | 5 => [ty_B 0 4, ty_A 0, ty_A 0, ty_A 0, ty_A 0]
  | 6 => []
  | 7 => [ty_I, ty_I, ty_I, ty_I, ty_I, ty_I, ty_I, ty_I, ty_I, ty_I, ty_I, ty_I]
  | 8 => [ty_I, ty_I, ty_A 0, ty_I, ty_I]
  | 9 => [ty_I, ty_R 7, ty_R 2, ty_R 5, ty_I, ty_A 3, ty_R 8, ty_R 8]
  | _ + 10 => []
def ty_ar (ct : Nat → ClassId) (S : ty_S) (n : Nat) (e : va_E) : Nat → Prop
  | 0 => ∃ f : Nat → Int32, e = .inl (ct 0, n, .inl f)
  | 1 => ∃ f : Nat → Int64, e = .inl (ct 1, n, .inr (.inl f))
  | 2 => False
  | 3 => ∃ f : Nat → Option Nat, e = .inl (ct 3, n, .inr (.inr (.inr (.inr f)))) ∧ ∀ (j b : Nat), f j = some b → S b = some (.inl 1)
  | 4 => ∃ f : Nat → Option Nat, e = .inl (ct 4, n, .inr (.inr (.inr (.inr f)))) ∧ ∀ (j b : Nat), f j = some b → S b = some (.inl 9)
  | _ + 5 => False
def ty_ok (ct : Nat → ClassId) (S : ty_S) (κ : ty_K) (e : va_E) : Prop := match κ with
  | .inl c => ∃ fs : List Value, e = .inr (c, fs) ∧ fs.length = (ty_F c).length ∧ ∀ (k : Nat) (q : ty_Q), (ty_F c)[k]? = some q → ∃ v, fs[k]? = some v ∧ q S v
  | .inr q => q.2 < 2 ^ 31 ∧ ty_ar ct S q.2 e q.1
def ty_W (ct : Nat → ClassId) (S : ty_S) (ws : va_W) : Prop := ∀ (a : Nat) (κ : ty_K), S a = some κ → ∃ (j : Nat) (e : va_E), ws[j]? = some (a, e) ∧ ty_ok ct S κ e
/-- a predicate on worlds that is kept by stores: to fields where xx allows it, to rows of numbers, to new cells -/
def ty_C (ph : va_W → Prop) (xx : Nat → Nat → Nat → Prop) : Prop :=
  (∀ (ws : va_W) (j b c k : Nat) (fs : List Value) (v : Value), ws[j]? = some (b, .inr (c, fs)) → xx c k b → ph ws → ph (ws.set j (b, .inr (c, fs.set k v)))) ∧
  (∀ (ws : va_W) (j b n : Nat) (cA : ClassId) (f g : Nat → Int32), ws[j]? = some (b, .inl (cA, n, .inl f)) → ph ws → ph (ws.set j (b, .inl (cA, n, .inl g)))) ∧
  (∀ (ws : va_W) (j b n : Nat) (cA : ClassId) (f g : Nat → Int64), ws[j]? = some (b, .inl (cA, n, .inr (.inl f))) → xx 11 0 b → ph ws → ph (ws.set j (b, .inl (cA, n, .inr (.inl g))))) ∧
  (∀ (ws : va_W) (j b n : Nat) (cA : ClassId) (f g : Nat → Option Nat), ws[j]? = some (b, .inl (cA, n, .inr (.inr (.inr (.inr f))))) → xx 14 0 b → ph ws → ph (ws.set j (b, .inl (cA, n, .inr (.inr (.inr (.inr g))))))) ∧
  (∀ (ws : va_W) (x : Nat × va_E), ph ws → ph (x :: ws))
def ty_V (ct : Nat → ClassId) (S : ty_S) (ph : va_W → Prop) (ws : va_W) : Prop := ty_W ct S ws ∧ ph ws
def ty_fr (c : Nat) : Bool := !(c == 9 || c == 2 || c == 5 || c == 7 || c == 11 || c == 14)
def ty_y1 (xx : Nat → Nat → Nat → Prop) : Prop := ∀ c k b : Nat, ty_fr c = true → xx c k b
def ty_y0 (xx : Nat → Nat → Nat → Prop) (c : Nat) : Prop := ∀ b : Nat, xx c 0 b
theorem ty_app {E ws : va_W} {j : Nat} {x : Nat × va_E} (h : ws[j]? = some x) : (E ++ ws)[E.length + j]? = some x := by
  rw [List.getElem?_append_right (Nat.le_add_right _ _), Nat.add_sub_cancel_left]
  exact h
theorem ty_rng : ∀ (ws E : va_W), (List.range' E.length ws.length).map (fun i => (E ++ ws)[i]?) = ws.map some
  | [], E => rfl
  | w :: ws, E => by
    have h := ty_rng ws (E ++ [w])
    rw [List.length_append, List.append_assoc] at h
    rw [List.length_cons, List.range'_succ, List.map_cons, List.map_cons]
    have h0 : (E ++ w :: ws)[E.length]? = some w := by
      rw [List.getElem?_append_right (Nat.le_refl _), Nat.sub_self]
      rfl
    rw [h0]
    exact congrArg (some w :: ·) h
theorem ty_rng0 : ∀ (ws E : va_W), (List.range' 0 E.length).map (fun i => (E ++ ws)[i]?) = E.map some := by
  intro ws E
  apply List.ext_getElem?
  intro i
  by_cases h : i < E.length
  · simp [h, List.getElem?_append_left h]
  · simp [Nat.not_lt.mp h]
theorem ty_nd (s n : Nat) : va_nd (List.range' s n) = true := by
  have key : ∀ l : List Nat, l.Nodup → va_nd l = true := by
    intro l
    induction l with
    | nil => intro _; rfl
    | cons a l ih =>
      intro h
      rw [List.nodup_cons] at h
      simp only [va_nd, Bool.and_eq_true, decide_eq_true_eq]
      exact ⟨h.1, ih h.2⟩
  exact key _ List.nodup_range'
theorem ty_fil {ws wc : va_W} {is : List Nat} (h : is.map (fun i => ws[i]?) = wc.map some) : is.filterMap (fun i => ws[i]?) = wc := by
  have h1 : is.filterMap (fun i => ws[i]?) = (is.map (fun i => ws[i]?)).filterMap id := by
    rw [List.filterMap_map]
    rfl
  rw [h1, h, List.filterMap_map]
  exact List.filterMap_some
theorem ty_dis {a b : Nat} : ∀ i ∈ List.range' 0 a, i ∉ List.range' a b := by
  intro i h1 h2
  rw [List.mem_range'_1] at h1 h2
  omega
/-- the class's object and its reader, folded -/
def ty_XO (x w sp sv bu : Nat) (bl le : Int32) : Nat × va_E := (x, .inr (10, [.ref w, .ref sp, .ref sv, .ref bu, .int bl, .int le]))
def rf_RW (ct : Nat → ClassId) (j a n : Nat) (f : Nat → Int32) : Nat × va_E := (a, .inl (ct j, n, .inl f))
def ty_RD (rd bt : Nat) (ln : Int32) (tg : Nat) (pl wst er ep : Int32) : Nat × va_E := (rd, .inr (6, [.ref bt, .int ln, .ref tg, .int pl, .int wst, .int er, .int ep]))
/-- facts of a world, and by what stores they are kept -/
def cmBY (D : va_G) (W0 : va_W) (sz : Nat) {S : Type} (EX : List String) (OX : S → va_W) (E : String) (u : S) (t : State) : Prop := E ∈ EX ∧ va_P D vwCl (OX u) t.heap ∧ va_D (va_A W0 sz) (OX u)
section TY
variable {p : Program} {l : Launch} {e : Env} {R : Room} {s : State} {m : MethodId} {args : Array Value} {below : List Frame} {meth : Method} {c : Code} {H : Heap} {locs : List Loc} {cells slots : Nat} {Q : State → Prop}
variable {mc ms : Nat} {A : Nat → Prop} {H0 : Heap} {a : Array Value} {pc : Nat} {ls : Array Slot} {st0 rest : List Value} {D : va_G} {ct : Nat → ClassId} {ws wc wr E : va_W} {free : Addr → Prop} {S : ty_S} {b : Nat} {ph : va_W → Prop} {xx : Nat → Nat → Nat → Prop}
/-- the calls: the callee's world is the tail -/
theorem ty_preS {As : List Value} (hP : va_P D vwCl (wr ++ wc) H) (hK : va_K D vwCl (cT ct) s) (hD : va_D A (wr ++ wc)) (hS : va_S A s.heap H locs) (hA : ∀ q, s.heap.size ≤ q → A q) (hX : cmX A s s.heap) : PreS s H (va_Pc As (cmP D ct H.size wc)) As :=
  cm_preS (wc := wc) hP hK hD hS hA hX (List.range' wr.length wc.length) (ty_rng wc wr) (ty_nd _ _) (ty_fil (ty_rng wc wr))
theorem ty_preE {ci q0 : Nat} {q : vw_C} {fs : List Value} {As : List Value} (hP : va_P D vwCl (wr ++ wc) H) (hK : va_K D vwCl (cT ct) s) (hD : va_D A (wr ++ wc)) (hS : va_S A s.heap H locs) (hA : ∀ q, s.heap.size ≤ q → A q) (hX : cmX A s s.heap) (hc : vwCl[ci]? = some q) (he : (wr ++ wc)[q0]? = some (b, .inr (ci, fs))) : PreV s H q.1 b (va_Pc (.ref b :: As) (cmP D ct H.size wc)) As :=
  cm_preV (wc := wc) hP hK hD hS hA hX (List.range' wr.length wc.length) (ty_rng _ wr) (ty_nd _ _) (ty_fil (ty_rng _ wr)) hc he
theorem ty_ki {S9 : Type} {post : Int32 → S9 → Prop} {OUT : S9 → va_W} (hr : va_Run p l e R s m args below meth c H locs cells slots mc ms (F0 m pc ls st0) rest (va_Qi post (cmB D wc H.size OUT) (va_A wc H.size) a) (va_A wc H.size)) (hP : va_P D vwCl (wr ++ wc) H) (hD : va_D A (wr ++ wc)) (hS : va_S A H0 H locs) (hA : ∀ q, H0.size ≤ q → A q)
    (kk : ∀ (r : Int32) (u : S9) (H1 : Heap) (locs1 : List Loc), post r u → va_P D vwCl (wr ++ OUT u) H1 → va_D A (wr ++ OUT u) → va_S A H0 H1 locs1 → W p l e R s m args below meth c H1 locs1 (cells + mc) (slots + ms) Q (F0 m (pc + 3) ls (.int r :: rest))) : W p l e R s m args below meth c H locs cells slots Q (F0 m pc ls st0) :=
  cm_ki hr hP hD hS hA (List.range' wr.length wc.length) (List.range' 0 wr.length) (ty_rng wc wr) (ty_rng0 wc wr) (ty_nd _ _) ty_dis kk

theorem ty_Ki {S9 : Type} {post : Int32 → S9 → Prop} {OUT : S9 → va_W} (hP : va_P D vwCl (wr ++ wc) H) (hD : va_D A (wr ++ wc)) (hS : va_S A H0 H locs) (hA : ∀ q, H0.size ≤ q → A q) (hr : va_Run p l e R s m args below meth c H locs cells slots mc ms (F0 m pc ls st0) rest (va_Qi post (cmB D wc H.size OUT) (va_A wc H.size) a) (va_A wc H.size))
    (kk : ∀ (r : Int32) (u : S9) (H1 : Heap) (locs1 : List Loc), post r u → va_P D vwCl (wr ++ OUT u) H1 → va_D A (wr ++ OUT u) → va_S A H0 H1 locs1 → W p l e R s m args below meth c H1 locs1 (cells + mc) (slots + ms) Q (F0 m (pc + 3) ls (.int r :: rest))) : W p l e R s m args below meth c H locs cells slots Q (F0 m pc ls st0) :=
  ty_ki hr hP hD hS hA kk
theorem ty_kl {S9 : Type} {post : Int64 → S9 → Prop} {OUT : S9 → va_W} (hr : va_Run p l e R s m args below meth c H locs cells slots mc ms (F0 m pc ls st0) rest (va_Ql post (cmB D wc H.size OUT) (va_A wc H.size) a) (va_A wc H.size)) (hP : va_P D vwCl (wr ++ wc) H) (hD : va_D A (wr ++ wc)) (hS : va_S A H0 H locs) (hA : ∀ q, H0.size ≤ q → A q)
    (kk : ∀ (r : Int64) (u : S9) (H1 : Heap) (locs1 : List Loc), post r u → va_P D vwCl (wr ++ OUT u) H1 → va_D A (wr ++ OUT u) → va_S A H0 H1 locs1 → W p l e R s m args below meth c H1 locs1 (cells + mc) (slots + ms) Q (F0 m (pc + 3) ls (.long r :: rest))) : W p l e R s m args below meth c H locs cells slots Q (F0 m pc ls st0) :=
  cm_kl hr hP hD hS hA (List.range' wr.length wc.length) (List.range' 0 wr.length) (ty_rng wc wr) (ty_rng0 wc wr) (ty_nd _ _) ty_dis kk

theorem ty_Kl {S9 : Type} {post : Int64 → S9 → Prop} {OUT : S9 → va_W} (hP : va_P D vwCl (wr ++ wc) H) (hD : va_D A (wr ++ wc)) (hS : va_S A H0 H locs) (hA : ∀ q, H0.size ≤ q → A q) (hr : va_Run p l e R s m args below meth c H locs cells slots mc ms (F0 m pc ls st0) rest (va_Ql post (cmB D wc H.size OUT) (va_A wc H.size) a) (va_A wc H.size))
    (kk : ∀ (r : Int64) (u : S9) (H1 : Heap) (locs1 : List Loc), post r u → va_P D vwCl (wr ++ OUT u) H1 → va_D A (wr ++ OUT u) → va_S A H0 H1 locs1 → W p l e R s m args below meth c H1 locs1 (cells + mc) (slots + ms) Q (F0 m (pc + 3) ls (.long r :: rest))) : W p l e R s m args below meth c H locs cells slots Q (F0 m pc ls st0) :=
  ty_kl hr hP hD hS hA kk
theorem ty_kv {S9 : Type} {post : S9 → Prop} {OUT : S9 → va_W} (hr : va_Run p l e R s m args below meth c H locs cells slots mc ms (F0 m pc ls st0) rest (va_Qv post (cmB D wc H.size OUT) (va_A wc H.size) a) (va_A wc H.size)) (hP : va_P D vwCl (wr ++ wc) H) (hD : va_D A (wr ++ wc)) (hS : va_S A H0 H locs) (hA : ∀ q, H0.size ≤ q → A q)
    (kk : ∀ (u : S9) (H1 : Heap) (locs1 : List Loc), post u → va_P D vwCl (wr ++ OUT u) H1 → va_D A (wr ++ OUT u) → va_S A H0 H1 locs1 → W p l e R s m args below meth c H1 locs1 (cells + mc) (slots + ms) Q (F0 m (pc + 3) ls rest)) : W p l e R s m args below meth c H locs cells slots Q (F0 m pc ls st0) :=
  cm_kv hr hP hD hS hA (List.range' wr.length wc.length) (List.range' 0 wr.length) (ty_rng wc wr) (ty_rng0 wc wr) (ty_nd _ _) ty_dis kk

theorem ty_Kv {S9 : Type} {post : S9 → Prop} {OUT : S9 → va_W} (hP : va_P D vwCl (wr ++ wc) H) (hD : va_D A (wr ++ wc)) (hS : va_S A H0 H locs) (hA : ∀ q, H0.size ≤ q → A q) (hr : va_Run p l e R s m args below meth c H locs cells slots mc ms (F0 m pc ls st0) rest (va_Qv post (cmB D wc H.size OUT) (va_A wc H.size) a) (va_A wc H.size))
    (kk : ∀ (u : S9) (H1 : Heap) (locs1 : List Loc), post u → va_P D vwCl (wr ++ OUT u) H1 → va_D A (wr ++ OUT u) → va_S A H0 H1 locs1 → W p l e R s m args below meth c H1 locs1 (cells + mc) (slots + ms) Q (F0 m (pc + 3) ls rest)) : W p l e R s m args below meth c H locs cells slots Q (F0 m pc ls st0) :=
  ty_kv hr hP hD hS hA kk
theorem ty_kq {S9 : Type} {post : Option Nat → S9 → Prop} {OUT : S9 → va_W} (hr : va_Run p l e R s m args below meth c H locs cells slots mc ms (F0 m pc ls st0) rest (va_Qq post (cmB D wc H.size OUT) (va_A wc H.size) a) (va_A wc H.size)) (hP : va_P D vwCl (wr ++ wc) H) (hD : va_D A (wr ++ wc)) (hS : va_S A H0 H locs) (hA : ∀ q, H0.size ≤ q → A q)
    (kk : ∀ (r : Option Nat) (u : S9) (H1 : Heap) (locs1 : List Loc), post r u → va_P D vwCl (wr ++ OUT u) H1 → va_D A (wr ++ OUT u) → va_S A H0 H1 locs1 → W p l e R s m args below meth c H1 locs1 (cells + mc) (slots + ms) Q (F0 m (pc + 3) ls (va_rf r :: rest))) : W p l e R s m args below meth c H locs cells slots Q (F0 m pc ls st0) :=
  cm_kq hr hP hD hS hA (List.range' wr.length wc.length) (List.range' 0 wr.length) (ty_rng wc wr) (ty_rng0 wc wr) (ty_nd _ _) ty_dis kk

theorem ty_Kq {S9 : Type} {post : Option Nat → S9 → Prop} {OUT : S9 → va_W} (hP : va_P D vwCl (wr ++ wc) H) (hD : va_D A (wr ++ wc)) (hS : va_S A H0 H locs) (hA : ∀ q, H0.size ≤ q → A q) (hr : va_Run p l e R s m args below meth c H locs cells slots mc ms (F0 m pc ls st0) rest (va_Qq post (cmB D wc H.size OUT) (va_A wc H.size) a) (va_A wc H.size))
    (kk : ∀ (r : Option Nat) (u : S9) (H1 : Heap) (locs1 : List Loc), post r u → va_P D vwCl (wr ++ OUT u) H1 → va_D A (wr ++ OUT u) → va_S A H0 H1 locs1 → W p l e R s m args below meth c H1 locs1 (cells + mc) (slots + ms) Q (F0 m (pc + 3) ls (va_rf r :: rest))) : W p l e R s m args below meth c H locs cells slots Q (F0 m pc ls st0) :=
  ty_kq hr hP hD hS hA kk
theorem ty_xi {S9 SX : Type} {post : Int32 → S9 → Prop} {px : SX → Prop} {EX : List String} {OUT : S9 → va_W} {OX : SX → va_W} (hr : vx_Run p l e R s m args below meth c H locs cells slots mc ms (F0 m pc ls st0) rest (va_Qi post (cmB D wc H.size OUT) (va_A wc H.size) a) (vx_X px (cmBY D wc H.size EX OX) (va_A wc H.size)) (va_A wc H.size)) (hP : va_P D vwCl (wr ++ wc) H) (hD : va_D A (wr ++ wc)) (hS : va_S A H0 H locs) (hA : ∀ q, H0.size ≤ q → A q)
    (kx : ∀ (E : String) (ce : Cell) (q9 : Addr) (u : SX) (H1 : Heap) (locs1 : List Loc), px u → E ∈ EX → va_P D vwCl (wr ++ OX u) H1 → va_D A (wr ++ OX u) → va_S A H0 H1 locs1 → H1[q9]? = some ce → ce.vm = .none → s.vm.findClass E = some ce.cls → vx_W p l e R s m args below meth c H1 locs1 (cells + mc) (slots + ms) Q (F0 m pc ls rest) q9)
    (kk : ∀ (r : Int32) (u : S9) (H1 : Heap) (locs1 : List Loc), post r u → va_P D vwCl (wr ++ OUT u) H1 → va_D A (wr ++ OUT u) → va_S A H0 H1 locs1 → W p l e R s m args below meth c H1 locs1 (cells + mc) (slots + ms) Q (F0 m (pc + 3) ls (.int r :: rest))) : W p l e R s m args below meth c H locs cells slots Q (F0 m pc ls st0) := by
  have hF := va_free hD hS hA (List.range' wr.length wc.length) (ty_rng wc wr)
  refine vx_calli hr hS (fun q _ h => hF q h) hF (fun q _ h => hF q h) (fun E ce q9 u t H1 locs1 ht hvm hu hB hz1 hk1 hS1 hce hcv hcl => ?_) (fun r u t H1 locs1 ht hvm hw hB hz1 hk1 hS1 => ?_)
  · obtain ⟨hE, hP1, hD1⟩ := hB
    rw [ht] at hP1
    obtain ⟨hP2, hD2⟩ := va_join hP hD (List.range' wr.length wc.length) (List.range' 0 wr.length) (ty_rng wc wr) (ty_rng0 wc wr) (ty_nd _ _) ty_dis hk1 hF hP1 hD1
    exact kx E ce q9 u H1 locs1 hu hE hP2 hD2 hS1 hce hcv hcl
  · obtain ⟨hP1, hD1⟩ := hB
    rw [ht] at hP1
    obtain ⟨hP2, hD2⟩ := va_join hP hD (List.range' wr.length wc.length) (List.range' 0 wr.length) (ty_rng wc wr) (ty_rng0 wc wr) (ty_nd _ _) ty_dis hk1 hF hP1 hD1
    exact kk r u H1 locs1 hw hP2 hD2 hS1

theorem ty_Xi {S9 SX : Type} {post : Int32 → S9 → Prop} {px : SX → Prop} {EX : List String} {OUT : S9 → va_W} {OX : SX → va_W} (hP : va_P D vwCl (wr ++ wc) H) (hD : va_D A (wr ++ wc)) (hS : va_S A H0 H locs) (hA : ∀ q, H0.size ≤ q → A q) (hr : vx_Run p l e R s m args below meth c H locs cells slots mc ms (F0 m pc ls st0) rest (va_Qi post (cmB D wc H.size OUT) (va_A wc H.size) a) (vx_X px (cmBY D wc H.size EX OX) (va_A wc H.size)) (va_A wc H.size))
    (kx : ∀ (E : String) (ce : Cell) (q9 : Addr) (u : SX) (H1 : Heap) (locs1 : List Loc), px u → E ∈ EX → va_P D vwCl (wr ++ OX u) H1 → va_D A (wr ++ OX u) → va_S A H0 H1 locs1 → H1[q9]? = some ce → ce.vm = .none → s.vm.findClass E = some ce.cls → vx_W p l e R s m args below meth c H1 locs1 (cells + mc) (slots + ms) Q (F0 m pc ls rest) q9)
    (kk : ∀ (r : Int32) (u : S9) (H1 : Heap) (locs1 : List Loc), post r u → va_P D vwCl (wr ++ OUT u) H1 → va_D A (wr ++ OUT u) → va_S A H0 H1 locs1 → W p l e R s m args below meth c H1 locs1 (cells + mc) (slots + ms) Q (F0 m (pc + 3) ls (.int r :: rest))) : W p l e R s m args below meth c H locs cells slots Q (F0 m pc ls st0) :=
  ty_xi hr hP hD hS hA kx kk
theorem ty_xl {S9 SX : Type} {post : Int64 → S9 → Prop} {px : SX → Prop} {EX : List String} {OUT : S9 → va_W} {OX : SX → va_W} (hr : vx_Run p l e R s m args below meth c H locs cells slots mc ms (F0 m pc ls st0) rest (va_Ql post (cmB D wc H.size OUT) (va_A wc H.size) a) (vx_X px (cmBY D wc H.size EX OX) (va_A wc H.size)) (va_A wc H.size)) (hP : va_P D vwCl (wr ++ wc) H) (hD : va_D A (wr ++ wc)) (hS : va_S A H0 H locs) (hA : ∀ q, H0.size ≤ q → A q)
    (kx : ∀ (E : String) (ce : Cell) (q9 : Addr) (u : SX) (H1 : Heap) (locs1 : List Loc), px u → E ∈ EX → va_P D vwCl (wr ++ OX u) H1 → va_D A (wr ++ OX u) → va_S A H0 H1 locs1 → H1[q9]? = some ce → ce.vm = .none → s.vm.findClass E = some ce.cls → vx_W p l e R s m args below meth c H1 locs1 (cells + mc) (slots + ms) Q (F0 m pc ls rest) q9)
    (kk : ∀ (r : Int64) (u : S9) (H1 : Heap) (locs1 : List Loc), post r u → va_P D vwCl (wr ++ OUT u) H1 → va_D A (wr ++ OUT u) → va_S A H0 H1 locs1 → W p l e R s m args below meth c H1 locs1 (cells + mc) (slots + ms) Q (F0 m (pc + 3) ls (.long r :: rest))) : W p l e R s m args below meth c H locs cells slots Q (F0 m pc ls st0) := by
  have hF := va_free hD hS hA (List.range' wr.length wc.length) (ty_rng wc wr)
  refine vx_calll hr hS (fun q _ h => hF q h) hF (fun q _ h => hF q h) (fun E ce q9 u t H1 locs1 ht hvm hu hB hz1 hk1 hS1 hce hcv hcl => ?_) (fun r u t H1 locs1 ht hvm hw hB hz1 hk1 hS1 => ?_)
  · obtain ⟨hE, hP1, hD1⟩ := hB
    rw [ht] at hP1
    obtain ⟨hP2, hD2⟩ := va_join hP hD (List.range' wr.length wc.length) (List.range' 0 wr.length) (ty_rng wc wr) (ty_rng0 wc wr) (ty_nd _ _) ty_dis hk1 hF hP1 hD1
    exact kx E ce q9 u H1 locs1 hu hE hP2 hD2 hS1 hce hcv hcl
  · obtain ⟨hP1, hD1⟩ := hB
    rw [ht] at hP1
    obtain ⟨hP2, hD2⟩ := va_join hP hD (List.range' wr.length wc.length) (List.range' 0 wr.length) (ty_rng wc wr) (ty_rng0 wc wr) (ty_nd _ _) ty_dis hk1 hF hP1 hD1
    exact kk r u H1 locs1 hw hP2 hD2 hS1

theorem ty_Xl {S9 SX : Type} {post : Int64 → S9 → Prop} {px : SX → Prop} {EX : List String} {OUT : S9 → va_W} {OX : SX → va_W} (hP : va_P D vwCl (wr ++ wc) H) (hD : va_D A (wr ++ wc)) (hS : va_S A H0 H locs) (hA : ∀ q, H0.size ≤ q → A q) (hr : vx_Run p l e R s m args below meth c H locs cells slots mc ms (F0 m pc ls st0) rest (va_Ql post (cmB D wc H.size OUT) (va_A wc H.size) a) (vx_X px (cmBY D wc H.size EX OX) (va_A wc H.size)) (va_A wc H.size))
    (kx : ∀ (E : String) (ce : Cell) (q9 : Addr) (u : SX) (H1 : Heap) (locs1 : List Loc), px u → E ∈ EX → va_P D vwCl (wr ++ OX u) H1 → va_D A (wr ++ OX u) → va_S A H0 H1 locs1 → H1[q9]? = some ce → ce.vm = .none → s.vm.findClass E = some ce.cls → vx_W p l e R s m args below meth c H1 locs1 (cells + mc) (slots + ms) Q (F0 m pc ls rest) q9)
    (kk : ∀ (r : Int64) (u : S9) (H1 : Heap) (locs1 : List Loc), post r u → va_P D vwCl (wr ++ OUT u) H1 → va_D A (wr ++ OUT u) → va_S A H0 H1 locs1 → W p l e R s m args below meth c H1 locs1 (cells + mc) (slots + ms) Q (F0 m (pc + 3) ls (.long r :: rest))) : W p l e R s m args below meth c H locs cells slots Q (F0 m pc ls st0) :=
  ty_xl hr hP hD hS hA kx kk
theorem ty_xf {S9 SX : Type} {post : UInt32 → S9 → Prop} {px : SX → Prop} {EX : List String} {OUT : S9 → va_W} {OX : SX → va_W} (hr : vx_Run p l e R s m args below meth c H locs cells slots mc ms (F0 m pc ls st0) rest (va_Qf post (cmB D wc H.size OUT) (va_A wc H.size) a) (vx_X px (cmBY D wc H.size EX OX) (va_A wc H.size)) (va_A wc H.size)) (hP : va_P D vwCl (wr ++ wc) H) (hD : va_D A (wr ++ wc)) (hS : va_S A H0 H locs) (hA : ∀ q, H0.size ≤ q → A q)
    (kx : ∀ (E : String) (ce : Cell) (q9 : Addr) (u : SX) (H1 : Heap) (locs1 : List Loc), px u → E ∈ EX → va_P D vwCl (wr ++ OX u) H1 → va_D A (wr ++ OX u) → va_S A H0 H1 locs1 → H1[q9]? = some ce → ce.vm = .none → s.vm.findClass E = some ce.cls → vx_W p l e R s m args below meth c H1 locs1 (cells + mc) (slots + ms) Q (F0 m pc ls rest) q9)
    (kk : ∀ (r : UInt32) (u : S9) (H1 : Heap) (locs1 : List Loc), post r u → va_P D vwCl (wr ++ OUT u) H1 → va_D A (wr ++ OUT u) → va_S A H0 H1 locs1 → W p l e R s m args below meth c H1 locs1 (cells + mc) (slots + ms) Q (F0 m (pc + 3) ls (.float r :: rest))) : W p l e R s m args below meth c H locs cells slots Q (F0 m pc ls st0) := by
  have hF := va_free hD hS hA (List.range' wr.length wc.length) (ty_rng wc wr)
  refine vx_callf hr hS (fun q _ h => hF q h) hF (fun q _ h => hF q h) (fun E ce q9 u t H1 locs1 ht hvm hu hB hz1 hk1 hS1 hce hcv hcl => ?_) (fun r u t H1 locs1 ht hvm hw hB hz1 hk1 hS1 => ?_)
  · obtain ⟨hE, hP1, hD1⟩ := hB
    rw [ht] at hP1
    obtain ⟨hP2, hD2⟩ := va_join hP hD (List.range' wr.length wc.length) (List.range' 0 wr.length) (ty_rng wc wr) (ty_rng0 wc wr) (ty_nd _ _) ty_dis hk1 hF hP1 hD1
    exact kx E ce q9 u H1 locs1 hu hE hP2 hD2 hS1 hce hcv hcl
  · obtain ⟨hP1, hD1⟩ := hB
    rw [ht] at hP1
    obtain ⟨hP2, hD2⟩ := va_join hP hD (List.range' wr.length wc.length) (List.range' 0 wr.length) (ty_rng wc wr) (ty_rng0 wc wr) (ty_nd _ _) ty_dis hk1 hF hP1 hD1
    exact kk r u H1 locs1 hw hP2 hD2 hS1

theorem ty_Xf {S9 SX : Type} {post : UInt32 → S9 → Prop} {px : SX → Prop} {EX : List String} {OUT : S9 → va_W} {OX : SX → va_W} (hP : va_P D vwCl (wr ++ wc) H) (hD : va_D A (wr ++ wc)) (hS : va_S A H0 H locs) (hA : ∀ q, H0.size ≤ q → A q) (hr : vx_Run p l e R s m args below meth c H locs cells slots mc ms (F0 m pc ls st0) rest (va_Qf post (cmB D wc H.size OUT) (va_A wc H.size) a) (vx_X px (cmBY D wc H.size EX OX) (va_A wc H.size)) (va_A wc H.size))
    (kx : ∀ (E : String) (ce : Cell) (q9 : Addr) (u : SX) (H1 : Heap) (locs1 : List Loc), px u → E ∈ EX → va_P D vwCl (wr ++ OX u) H1 → va_D A (wr ++ OX u) → va_S A H0 H1 locs1 → H1[q9]? = some ce → ce.vm = .none → s.vm.findClass E = some ce.cls → vx_W p l e R s m args below meth c H1 locs1 (cells + mc) (slots + ms) Q (F0 m pc ls rest) q9)
    (kk : ∀ (r : UInt32) (u : S9) (H1 : Heap) (locs1 : List Loc), post r u → va_P D vwCl (wr ++ OUT u) H1 → va_D A (wr ++ OUT u) → va_S A H0 H1 locs1 → W p l e R s m args below meth c H1 locs1 (cells + mc) (slots + ms) Q (F0 m (pc + 3) ls (.float r :: rest))) : W p l e R s m args below meth c H locs cells slots Q (F0 m pc ls st0) :=
  ty_xf hr hP hD hS hA kx kk
theorem ty_xd {S9 SX : Type} {post : UInt64 → S9 → Prop} {px : SX → Prop} {EX : List String} {OUT : S9 → va_W} {OX : SX → va_W} (hr : vx_Run p l e R s m args below meth c H locs cells slots mc ms (F0 m pc ls st0) rest (va_Qd post (cmB D wc H.size OUT) (va_A wc H.size) a) (vx_X px (cmBY D wc H.size EX OX) (va_A wc H.size)) (va_A wc H.size)) (hP : va_P D vwCl (wr ++ wc) H) (hD : va_D A (wr ++ wc)) (hS : va_S A H0 H locs) (hA : ∀ q, H0.size ≤ q → A q)
    (kx : ∀ (E : String) (ce : Cell) (q9 : Addr) (u : SX) (H1 : Heap) (locs1 : List Loc), px u → E ∈ EX → va_P D vwCl (wr ++ OX u) H1 → va_D A (wr ++ OX u) → va_S A H0 H1 locs1 → H1[q9]? = some ce → ce.vm = .none → s.vm.findClass E = some ce.cls → vx_W p l e R s m args below meth c H1 locs1 (cells + mc) (slots + ms) Q (F0 m pc ls rest) q9)
    (kk : ∀ (r : UInt64) (u : S9) (H1 : Heap) (locs1 : List Loc), post r u → va_P D vwCl (wr ++ OUT u) H1 → va_D A (wr ++ OUT u) → va_S A H0 H1 locs1 → W p l e R s m args below meth c H1 locs1 (cells + mc) (slots + ms) Q (F0 m (pc + 3) ls (.double r :: rest))) : W p l e R s m args below meth c H locs cells slots Q (F0 m pc ls st0) := by
  have hF := va_free hD hS hA (List.range' wr.length wc.length) (ty_rng wc wr)
  refine vx_calld hr hS (fun q _ h => hF q h) hF (fun q _ h => hF q h) (fun E ce q9 u t H1 locs1 ht hvm hu hB hz1 hk1 hS1 hce hcv hcl => ?_) (fun r u t H1 locs1 ht hvm hw hB hz1 hk1 hS1 => ?_)
  · obtain ⟨hE, hP1, hD1⟩ := hB
    rw [ht] at hP1
    obtain ⟨hP2, hD2⟩ := va_join hP hD (List.range' wr.length wc.length) (List.range' 0 wr.length) (ty_rng wc wr) (ty_rng0 wc wr) (ty_nd _ _) ty_dis hk1 hF hP1 hD1
    exact kx E ce q9 u H1 locs1 hu hE hP2 hD2 hS1 hce hcv hcl
  · obtain ⟨hP1, hD1⟩ := hB
    rw [ht] at hP1
    obtain ⟨hP2, hD2⟩ := va_join hP hD (List.range' wr.length wc.length) (List.range' 0 wr.length) (ty_rng wc wr) (ty_rng0 wc wr) (ty_nd _ _) ty_dis hk1 hF hP1 hD1
    exact kk r u H1 locs1 hw hP2 hD2 hS1

theorem ty_Xd {S9 SX : Type} {post : UInt64 → S9 → Prop} {px : SX → Prop} {EX : List String} {OUT : S9 → va_W} {OX : SX → va_W} (hP : va_P D vwCl (wr ++ wc) H) (hD : va_D A (wr ++ wc)) (hS : va_S A H0 H locs) (hA : ∀ q, H0.size ≤ q → A q) (hr : vx_Run p l e R s m args below meth c H locs cells slots mc ms (F0 m pc ls st0) rest (va_Qd post (cmB D wc H.size OUT) (va_A wc H.size) a) (vx_X px (cmBY D wc H.size EX OX) (va_A wc H.size)) (va_A wc H.size))
    (kx : ∀ (E : String) (ce : Cell) (q9 : Addr) (u : SX) (H1 : Heap) (locs1 : List Loc), px u → E ∈ EX → va_P D vwCl (wr ++ OX u) H1 → va_D A (wr ++ OX u) → va_S A H0 H1 locs1 → H1[q9]? = some ce → ce.vm = .none → s.vm.findClass E = some ce.cls → vx_W p l e R s m args below meth c H1 locs1 (cells + mc) (slots + ms) Q (F0 m pc ls rest) q9)
    (kk : ∀ (r : UInt64) (u : S9) (H1 : Heap) (locs1 : List Loc), post r u → va_P D vwCl (wr ++ OUT u) H1 → va_D A (wr ++ OUT u) → va_S A H0 H1 locs1 → W p l e R s m args below meth c H1 locs1 (cells + mc) (slots + ms) Q (F0 m (pc + 3) ls (.double r :: rest))) : W p l e R s m args below meth c H locs cells slots Q (F0 m pc ls st0) :=
  ty_xd hr hP hD hS hA kx kk
theorem ty_xv {S9 SX : Type} {post : S9 → Prop} {px : SX → Prop} {EX : List String} {OUT : S9 → va_W} {OX : SX → va_W} (hr : vx_Run p l e R s m args below meth c H locs cells slots mc ms (F0 m pc ls st0) rest (va_Qv post (cmB D wc H.size OUT) (va_A wc H.size) a) (vx_X px (cmBY D wc H.size EX OX) (va_A wc H.size)) (va_A wc H.size)) (hP : va_P D vwCl (wr ++ wc) H) (hD : va_D A (wr ++ wc)) (hS : va_S A H0 H locs) (hA : ∀ q, H0.size ≤ q → A q)
    (kx : ∀ (E : String) (ce : Cell) (q9 : Addr) (u : SX) (H1 : Heap) (locs1 : List Loc), px u → E ∈ EX → va_P D vwCl (wr ++ OX u) H1 → va_D A (wr ++ OX u) → va_S A H0 H1 locs1 → H1[q9]? = some ce → ce.vm = .none → s.vm.findClass E = some ce.cls → vx_W p l e R s m args below meth c H1 locs1 (cells + mc) (slots + ms) Q (F0 m pc ls rest) q9)
    (kk : ∀ (u : S9) (H1 : Heap) (locs1 : List Loc), post u → va_P D vwCl (wr ++ OUT u) H1 → va_D A (wr ++ OUT u) → va_S A H0 H1 locs1 → W p l e R s m args below meth c H1 locs1 (cells + mc) (slots + ms) Q (F0 m (pc + 3) ls (rest))) : W p l e R s m args below meth c H locs cells slots Q (F0 m pc ls st0) := by
  have hF := va_free hD hS hA (List.range' wr.length wc.length) (ty_rng wc wr)
  refine vx_callv hr hS (fun q _ h => hF q h) hF (fun q _ h => hF q h) (fun E ce q9 u t H1 locs1 ht hvm hu hB hz1 hk1 hS1 hce hcv hcl => ?_) (fun u t H1 locs1 ht hvm hw hB hz1 hk1 hS1 => ?_)
  · obtain ⟨hE, hP1, hD1⟩ := hB
    rw [ht] at hP1
    obtain ⟨hP2, hD2⟩ := va_join hP hD (List.range' wr.length wc.length) (List.range' 0 wr.length) (ty_rng wc wr) (ty_rng0 wc wr) (ty_nd _ _) ty_dis hk1 hF hP1 hD1
    exact kx E ce q9 u H1 locs1 hu hE hP2 hD2 hS1 hce hcv hcl
  · obtain ⟨hP1, hD1⟩ := hB
    rw [ht] at hP1
    obtain ⟨hP2, hD2⟩ := va_join hP hD (List.range' wr.length wc.length) (List.range' 0 wr.length) (ty_rng wc wr) (ty_rng0 wc wr) (ty_nd _ _) ty_dis hk1 hF hP1 hD1
    exact kk u H1 locs1 hw hP2 hD2 hS1

theorem ty_Xv {S9 SX : Type} {post : S9 → Prop} {px : SX → Prop} {EX : List String} {OUT : S9 → va_W} {OX : SX → va_W} (hP : va_P D vwCl (wr ++ wc) H) (hD : va_D A (wr ++ wc)) (hS : va_S A H0 H locs) (hA : ∀ q, H0.size ≤ q → A q) (hr : vx_Run p l e R s m args below meth c H locs cells slots mc ms (F0 m pc ls st0) rest (va_Qv post (cmB D wc H.size OUT) (va_A wc H.size) a) (vx_X px (cmBY D wc H.size EX OX) (va_A wc H.size)) (va_A wc H.size))
    (kx : ∀ (E : String) (ce : Cell) (q9 : Addr) (u : SX) (H1 : Heap) (locs1 : List Loc), px u → E ∈ EX → va_P D vwCl (wr ++ OX u) H1 → va_D A (wr ++ OX u) → va_S A H0 H1 locs1 → H1[q9]? = some ce → ce.vm = .none → s.vm.findClass E = some ce.cls → vx_W p l e R s m args below meth c H1 locs1 (cells + mc) (slots + ms) Q (F0 m pc ls rest) q9)
    (kk : ∀ (u : S9) (H1 : Heap) (locs1 : List Loc), post u → va_P D vwCl (wr ++ OUT u) H1 → va_D A (wr ++ OUT u) → va_S A H0 H1 locs1 → W p l e R s m args below meth c H1 locs1 (cells + mc) (slots + ms) Q (F0 m (pc + 3) ls (rest))) : W p l e R s m args below meth c H locs cells slots Q (F0 m pc ls st0) :=
  ty_xv hr hP hD hS hA kx kk
theorem ty_xq {S9 SX : Type} {post : Option Nat → S9 → Prop} {px : SX → Prop} {EX : List String} {OUT : S9 → va_W} {OX : SX → va_W} (hr : vx_Run p l e R s m args below meth c H locs cells slots mc ms (F0 m pc ls st0) rest (va_Qq post (cmB D wc H.size OUT) (va_A wc H.size) a) (vx_X px (cmBY D wc H.size EX OX) (va_A wc H.size)) (va_A wc H.size)) (hP : va_P D vwCl (wr ++ wc) H) (hD : va_D A (wr ++ wc)) (hS : va_S A H0 H locs) (hA : ∀ q, H0.size ≤ q → A q)
    (kx : ∀ (E : String) (ce : Cell) (q9 : Addr) (u : SX) (H1 : Heap) (locs1 : List Loc), px u → E ∈ EX → va_P D vwCl (wr ++ OX u) H1 → va_D A (wr ++ OX u) → va_S A H0 H1 locs1 → H1[q9]? = some ce → ce.vm = .none → s.vm.findClass E = some ce.cls → vx_W p l e R s m args below meth c H1 locs1 (cells + mc) (slots + ms) Q (F0 m pc ls rest) q9)
    (kk : ∀ (r : Option Nat) (u : S9) (H1 : Heap) (locs1 : List Loc), post r u → va_P D vwCl (wr ++ OUT u) H1 → va_D A (wr ++ OUT u) → va_S A H0 H1 locs1 → W p l e R s m args below meth c H1 locs1 (cells + mc) (slots + ms) Q (F0 m (pc + 3) ls (va_rf r :: rest))) : W p l e R s m args below meth c H locs cells slots Q (F0 m pc ls st0) := by
  have hF := va_free hD hS hA (List.range' wr.length wc.length) (ty_rng wc wr)
  refine vx_callq hr hS (fun q _ h => hF q h) hF (fun q _ h => hF q h) (fun E ce q9 u t H1 locs1 ht hvm hu hB hz1 hk1 hS1 hce hcv hcl => ?_) (fun r u t H1 locs1 ht hvm hw hB hz1 hk1 hS1 => ?_)
  · obtain ⟨hE, hP1, hD1⟩ := hB
    rw [ht] at hP1
    obtain ⟨hP2, hD2⟩ := va_join hP hD (List.range' wr.length wc.length) (List.range' 0 wr.length) (ty_rng wc wr) (ty_rng0 wc wr) (ty_nd _ _) ty_dis hk1 hF hP1 hD1
    exact kx E ce q9 u H1 locs1 hu hE hP2 hD2 hS1 hce hcv hcl
  · obtain ⟨hP1, hD1⟩ := hB
    rw [ht] at hP1
    obtain ⟨hP2, hD2⟩ := va_join hP hD (List.range' wr.length wc.length) (List.range' 0 wr.length) (ty_rng wc wr) (ty_rng0 wc wr) (ty_nd _ _) ty_dis hk1 hF hP1 hD1
    exact kk r u H1 locs1 hw hP2 hD2 hS1
theorem ty_Xq {S9 SX : Type} {post : Option Nat → S9 → Prop} {px : SX → Prop} {EX : List String} {OUT : S9 → va_W} {OX : SX → va_W} (hP : va_P D vwCl (wr ++ wc) H) (hD : va_D A (wr ++ wc)) (hS : va_S A H0 H locs) (hA : ∀ q, H0.size ≤ q → A q) (hr : vx_Run p l e R s m args below meth c H locs cells slots mc ms (F0 m pc ls st0) rest (va_Qq post (cmB D wc H.size OUT) (va_A wc H.size) a) (vx_X px (cmBY D wc H.size EX OX) (va_A wc H.size)) (va_A wc H.size))
    (kx : ∀ (E : String) (ce : Cell) (q9 : Addr) (u : SX) (H1 : Heap) (locs1 : List Loc), px u → E ∈ EX → va_P D vwCl (wr ++ OX u) H1 → va_D A (wr ++ OX u) → va_S A H0 H1 locs1 → H1[q9]? = some ce → ce.vm = .none → s.vm.findClass E = some ce.cls → vx_W p l e R s m args below meth c H1 locs1 (cells + mc) (slots + ms) Q (F0 m pc ls rest) q9)
    (kk : ∀ (r : Option Nat) (u : S9) (H1 : Heap) (locs1 : List Loc), post r u → va_P D vwCl (wr ++ OUT u) H1 → va_D A (wr ++ OUT u) → va_S A H0 H1 locs1 → W p l e R s m args below meth c H1 locs1 (cells + mc) (slots + ms) Q (F0 m (pc + 3) ls (va_rf r :: rest))) : W p l e R s m args below meth c H locs cells slots Q (F0 m pc ls st0) :=
  ty_xq hr hP hD hS hA kx kk
theorem ty_loop {I : Nat → Heap → List Loc → Array Slot → Prop} (h0 : ∃ n, I n H locs ls) (step : ∀ (n : Nat) (H : Heap) (locs : List Loc) (ls : Array Slot), I n H locs ls → (∀ (n' : Nat) (H' : Heap) (locs' : List Loc) (ls' : Array Slot), n' < n → I n' H' locs' ls' → W p l e R s m args below meth c H' locs' cells slots Q (F0 m pc ls' rest)) → W p l e R s m args below meth c H locs cells slots Q (F0 m pc ls rest)) : W p l e R s m args below meth c H locs cells slots Q (F0 m pc ls rest) := by
  have K : ∀ (n : Nat) (H : Heap) (locs : List Loc) (ls : Array Slot), I n H locs ls → W p l e R s m args below meth c H locs cells slots Q (F0 m pc ls rest) := by
    intro n
    induction n using Nat.strongRecOn with
    | ind n ih =>
      intro H locs ls h
      exact step n H locs ls h (fun n' H' locs' ls' hn h' => ih n' hn H' locs' ls' h')
  obtain ⟨n, h⟩ := h0
  exact K n H locs ls h
end TY
theorem cm_lceq (x : Int64) : lg_cmp x x = 0 := by
  unfold lg_cmp
  have h : ¬ x > x := by
    rw [gt_iff_lt, Int64.lt_iff_toInt_lt]
    omega
  rw [if_neg h, if_pos rfl]
theorem ty_nneg {y : Int32} (h : 0 ≤ y.toInt) : ¬ y < 0 := by
  rw [Int32.lt_iff_toInt_lt, show (0 : Int32).toInt = 0 from by decide]
  omega
theorem ty_nn {y N : Int32} (h0 : 0 ≤ y.toInt) (h : y < N) : 0 ≤ (y + Int32.ofInt 1).toInt := by
  have h1 : y.toInt < N.toInt := Int32.lt_iff_toInt_lt.mp h
  have h2 : N.toInt < 2147483648 := N.toInt_lt
  have e : (y + Int32.ofInt 1).toInt = y.toInt + 1 := by
    rw [Int32.toInt_add, show (Int32.ofInt 1).toInt = 1 from by decide]
    exact Jvm.Kit.bmod32 (by omega) (by omega)
  omega
theorem ty_inc {y N : Int32} (h : y < N) : (2147483648 - (y + Int32.ofInt 1).toInt).toNat < (2147483648 - y.toInt).toNat := by
  have h1 : y.toInt < N.toInt := Int32.lt_iff_toInt_lt.mp h
  have h2 : N.toInt < 2147483648 := N.toInt_lt
  have h3 : -2147483648 ≤ y.toInt := y.le_toInt
  have e : (y + Int32.ofInt 1).toInt = y.toInt + 1 := by
    rw [Int32.toInt_add, show (Int32.ofInt 1).toInt = 1 from by decide]
    exact Jvm.Kit.bmod32 (by omega) (by omega)
  rw [e]
  omega
theorem ty_inc1 {y N : Int32} (h : y < N) : (2147483648 - (y + 1).toInt).toNat < (2147483648 - y.toInt).toNat := ty_inc h
theorem ty_lk01 {x : Int32} {a b d : Int} (h0 : ¬ x = 0) (h1 : ¬ x = 1) : Op.lookupswitch.offset [(0, a), (1, b)] d x.toInt = d := by
  have e0 : ¬ (0 : Int) = x.toInt := fun q => h0 (Int32.toInt_inj.mp (q.symm.trans (by decide)))
  have e1 : ¬ (1 : Int) = x.toInt := fun q => h1 (Int32.toInt_inj.mp (q.symm.trans (by decide)))
  show (if (0 : Int) = x.toInt then a else if (1 : Int) = x.toInt then b else d) = d
  rw [if_neg e0, if_neg e1]
theorem ty_incle {y N : Int32} (h : ¬ N < y) (hN : N.toInt < 2147483647) : (2147483648 - (y + Int32.ofInt 1).toInt).toNat < (2147483648 - y.toInt).toNat := by
  rw [Int32.lt_iff_toInt_lt] at h
  have h3 : -2147483648 ≤ y.toInt := y.le_toInt
  have e : (y + Int32.ofInt 1).toInt = y.toInt + 1 := by
    rw [Int32.toInt_add, show (Int32.ofInt 1).toInt = 1 from by decide]
    exact Jvm.Kit.bmod32 (by omega) (by omega)
  rw [e]
  omega
theorem ty_dec {y k d : Int32} (h : ¬ y ≤ k) (hd : d.toInt < 0) (hk : -1000000 ≤ d.toInt ∧ -1000000 ≤ k.toInt) : ((y + d).toInt + 2147483648).toNat < (y.toInt + 2147483648).toNat := by
  rw [Int32.le_iff_toInt_le] at h
  have h2 : y.toInt < 2147483648 := y.toInt_lt
  have e : (y + d).toInt = y.toInt + d.toInt := by
    rw [Int32.toInt_add]
    exact Jvm.Kit.bmod32 (by omega) (by omega)
  rw [e]
  omega
theorem ty_permP {D : va_G} {cl : List vw_C} {w1 w2 : va_W} {H : Heap} (h : va_P D cl w1 H) (hp : w1.Perm w2) : va_P D cl w2 H := by
  intro k q hk
  obtain ⟨j, hj⟩ := List.getElem?_of_mem (hp.mem_iff.mpr (List.mem_of_getElem? hk))
  exact h j q hj
theorem ty_Dnd {A : Nat → Prop} {ws : va_W} (h : va_D A ws) : (ws.map Prod.fst).Nodup := by
  rw [List.nodup_iff_pairwise_ne, List.pairwise_iff_getElem]
  intro i j hi hj hij he
  rw [List.length_map] at hi hj
  rw [List.getElem_map, List.getElem_map] at he
  exact absurd (h.1 i j _ _ (List.getElem?_eq_getElem hi) (List.getElem?_eq_getElem hj) he) (by omega)
theorem ty_Dof {A : Nat → Prop} {ws : va_W} (h1 : (ws.map Prod.fst).Nodup) (h2 : ∀ q ∈ ws, A q.1) : va_D A ws := by
  refine ⟨fun i j p q hi hj he => ?_, fun k q hk => h2 q (List.mem_of_getElem? hk)⟩
  have hl : i < (ws.map Prod.fst).length := by rw [List.length_map]; exact (List.getElem?_eq_some_iff.mp hi).1
  refine (List.getElem?_inj hl h1).mp ?_
  rw [List.getElem?_map, List.getElem?_map, hi, hj]
  exact congrArg some he
theorem ty_permD {A : Nat → Prop} {w1 w2 : va_W} (h : va_D A w1) (hp : w1.Perm w2) : va_D A w2 := by
  refine ty_Dof ((hp.map Prod.fst).nodup_iff.mp (ty_Dnd h)) (fun q hq => ?_)
  obtain ⟨j, hj⟩ := List.getElem?_of_mem (hp.mem_iff.mpr hq)
  exact h.2 j q hj
theorem ty_ordp {E E2 ws : va_W} {n : Nat} (is : List Nat) (hE : is.map (fun i => E[i]?) = E2.map some) (hn : E.length = n) (hp : is.Perm (List.range' 0 n)) : (E ++ ws).Perm (E2 ++ ws) := by
  refine List.Perm.append_right ws ?_
  have h1 : E2 = is.filterMap (fun i => E[i]?) := (ty_fil hE).symm
  have h2 : (List.range' 0 n).filterMap (fun i => E[i]?) = E := by
    subst hn
    have h3 := ty_rng0 [] E
    rw [List.append_nil] at h3
    exact ty_fil h3
  have h4 := hp.filterMap (fun i => E[i]?)
  rw [← h1, h2] at h4
  exact h4.symm
def ty_le (S S' : ty_S) : Prop := ∀ (a : Nat) (κ : ty_K), S a = some κ → S' a = some κ
theorem ty_subP {D : va_G} {cl : List vw_C} {w1 w2 : va_W} {H : Heap} (h : va_P D cl w1 H) (hs : w2.Sublist w1) : va_P D cl w2 H := by
  intro k q hk
  obtain ⟨j, hj⟩ := List.getElem?_of_mem (hs.subset (List.mem_of_getElem? hk))
  exact h j q hj
theorem ty_subD {A : Nat → Prop} {w1 w2 : va_W} (h : va_D A w1) (hs : w2.Sublist w1) : va_D A w2 := by
  refine ty_Dof ((hs.map Prod.fst).nodup (ty_Dnd h)) (fun q hq => ?_)
  obtain ⟨j, hj⟩ := List.getElem?_of_mem (hs.subset hq)
  exact h.2 j q hj
theorem ty_dr1 {E ws : va_W} {x : Nat × va_E} : (E ++ ws).Sublist ((E ++ [x]) ++ ws) := by
  rw [List.append_assoc]
  exact List.Sublist.append (List.Sublist.refl E) (List.sublist_cons_self x ws)
/-- what else is known, and which stores keep it -/
def rp_PS (sp : Nat) : Type := { q : (va_W → Prop) × (Nat → Nat → Nat → Prop) // ty_C q.1 q.2 ∧ (∀ c k b : Nat, c ≠ 9 → c ≠ 14 → q.2 c k b) ∧ ∀ k : Nat, k ≠ 0 → q.2 9 k sp }
def rp_PS.p {sp : Nat} (ps : rp_PS sp) : va_W → Prop := ps.1.1
def rp_PS.x {sp : Nat} (ps : rp_PS sp) : Nat → Nat → Nat → Prop := ps.1.2
/-- a call that needs nothing of the typed world: it stays in the frame -/
theorem ty_V0 {ct : Nat → ClassId} : ty_V ct (fun _ => none) (fun _ => True) [] := ⟨fun b κ h => (by cases h), trivial⟩
theorem ty_C0 : ty_C (fun _ => True) (fun _ _ _ => True) := ⟨fun _ _ _ _ _ _ _ _ _ _ => trivial, fun _ _ _ _ _ _ _ _ _ => trivial, fun _ _ _ _ _ _ _ _ _ _ => trivial, fun _ _ _ _ _ _ _ _ _ _ => trivial, fun _ _ _ => trivial⟩
theorem ty_y10 : ty_y1 (fun _ _ _ => True) := fun _ _ _ _ => trivial
theorem ty_mv2 {E1 E2 ws : va_W} : ((E1 ++ E2) ++ ws).Perm ((E1 ++ ws) ++ (E2 ++ [])) := by
  rw [List.append_nil, List.append_assoc, List.append_assoc]
  exact List.Perm.append_left E1 List.perm_append_comm
theorem ty_mv3 {E1 E2 ws u : va_W} : ((E1 ++ ws) ++ (E2 ++ u)).Perm (((E1 ++ E2) ++ ws) ++ u) := by
  rw [← List.append_assoc, List.append_assoc E1 ws E2, List.append_assoc E1 E2 ws]
  exact List.Perm.append_right u (List.Perm.append_left E1 List.perm_append_comm)
theorem ty_bkP {D : va_G} {cl : List vw_C} {E1 E2 ws u : va_W} {H : Heap} (h : va_P D cl ((E1 ++ ws) ++ (E2 ++ u)) H) : va_P D cl ((E1 ++ E2) ++ ws) H := ty_subP (ty_permP h ty_mv3) (List.sublist_append_left _ u)
theorem ty_bkD {A : Nat → Prop} {E1 E2 ws u : va_W} (h : va_D A ((E1 ++ ws) ++ (E2 ++ u))) : va_D A ((E1 ++ E2) ++ ws) := ty_subD (ty_permD h ty_mv3) (List.sublist_append_left _ u)
theorem ty_mva {E1 E2 ws : va_W} : ((E1 ++ E2) ++ ws).Perm (E1 ++ (E2 ++ ws)) := by
  exact List.Perm.of_eq (List.append_assoc _ _ _)
/-- both facts of a world at once: reordered, split for a call, put together behind it, said anew -/
theorem ty_ordPD {D : va_G} {cl : List vw_C} {A : Nat → Prop} {E E2 ws : va_W} {H : Heap} {n : Nat} (is : List Nat) (h : va_P D cl (E ++ ws) H) (g : va_D A (E ++ ws)) (hE : is.map (fun i => E[i]?) = E2.map some) (hn : E.length = n) (hp : is.Perm (List.range' 0 n)) : va_P D cl (E2 ++ ws) H ∧ va_D A (E2 ++ ws) :=
  ⟨ty_permP h (ty_ordp is hE hn hp), ty_permD g (ty_ordp is hE hn hp)⟩
theorem ty_opPD {D : va_G} {cl : List vw_C} {A : Nat → Prop} {E E1 E2 ws w2 : va_W} {H : Heap} {n : Nat} (is : List Nat) (h : va_P D cl (E ++ ws) H) (g : va_D A (E ++ ws)) (hE : is.map (fun i => E[i]?) = (E1 ++ E2).map some) (hn : E.length = n) (hp : is.Perm (List.range' 0 n)) (mv : ((E1 ++ E2) ++ ws).Perm w2) : va_P D cl w2 H ∧ va_D A w2 :=
  ⟨ty_permP (ty_permP h (ty_ordp is hE hn hp)) mv, ty_permD (ty_permD g (ty_ordp is hE hn hp)) mv⟩
theorem ty_ipPD {D : va_G} {cl : List vw_C} {A : Nat → Prop} {E E1 E2 ws w2 : va_W} {H : Heap} (h : va_P D cl (E ++ ws) H) (g : va_D A (E ++ ws)) (e : E = E1 ++ E2) (mv : ((E1 ++ E2) ++ ws).Perm w2) : va_P D cl w2 H ∧ va_D A w2 := by
  rw [e] at h g
  exact ⟨ty_permP h mv, ty_permD g mv⟩
theorem ty_bkPD {D : va_G} {cl : List vw_C} {A : Nat → Prop} {E E1 E2 ws u : va_W} {H : Heap} (h : va_P D cl ((E1 ++ ws) ++ (E2 ++ u)) H) (g : va_D A ((E1 ++ ws) ++ (E2 ++ u))) (e : E1 ++ E2 = E) : va_P D cl (E ++ ws) H ∧ va_D A (E ++ ws) := by
  rw [← e]
  exact ⟨ty_bkP h, ty_bkD g⟩
theorem ty_shPD {D : va_G} {cl : List vw_C} {A : Nat → Prop} {w1 w2 : va_W} {H : Heap} (h : va_P D cl w1 H) (g : va_D A w1) (e : w1 = w2) : va_P D cl w2 H ∧ va_D A w2 := by
  rw [← e]
  exact ⟨h, g⟩
theorem ty_pmPD {D : va_G} {cl : List vw_C} {A : Nat → Prop} {w1 w2 : va_W} {H : Heap} (h : va_P D cl w1 H) (g : va_D A w1) (e : w1.Perm w2) : va_P D cl w2 H ∧ va_D A w2 := ⟨ty_permP h e, ty_permD g e⟩
theorem ty_decn {y : Int32} (h : ¬ y < 0) : ((y + Int32.ofInt (-8)).toInt + 2147483648).toNat < (y.toInt + 2147483648).toNat := by
  rw [Int32.lt_iff_toInt_lt, show (0 : Int32).toInt = 0 from by decide] at h
  have h2 : y.toInt < 2147483648 := y.toInt_lt
  have e : (y + Int32.ofInt (-8)).toInt = y.toInt - 8 := by
    rw [Int32.toInt_add, show (Int32.ofInt (-8)).toInt = -8 from by decide]
    exact Jvm.Kit.bmod32 (by omega) (by omega)
  rw [e]
  omega
theorem ty_mvp {E ws : va_W} {x : Nat × va_E} : ((E ++ ws) ++ [x]).Perm ((E ++ [x]) ++ ws) := by
  rw [List.append_assoc, List.append_assoc]
  exact List.Perm.append_left E List.perm_append_comm
theorem ty_sw0_3 {x : Int32} (h0 : ¬ x = 0) (h1 : ¬ x = 1) (h2 : ¬ x = 2) (h3 : ¬ x = 3) : x.toInt < 0 ∨ 3 < x.toInt := by
  have e0 : x.toInt ≠ 0 := fun q => h0 (Int32.toInt_inj.mp (q.trans (by decide)))
  have e1 : x.toInt ≠ 1 := fun q => h1 (Int32.toInt_inj.mp (q.trans (by decide)))
  have e2 : x.toInt ≠ 2 := fun q => h2 (Int32.toInt_inj.mp (q.trans (by decide)))
  have e3 : x.toInt ≠ 3 := fun q => h3 (Int32.toInt_inj.mp (q.trans (by decide)))
  omega
theorem ty_sw0_2 {x : Int32} (h0 : ¬ x = 0) (h1 : ¬ x = 1) (h2 : ¬ x = 2) : x.toInt < 0 ∨ 2 < x.toInt := by
  have e0 : x.toInt ≠ 0 := fun q => h0 (Int32.toInt_inj.mp (q.trans (by decide)))
  have e1 : x.toInt ≠ 1 := fun q => h1 (Int32.toInt_inj.mp (q.trans (by decide)))
  have e2 : x.toInt ≠ 2 := fun q => h2 (Int32.toInt_inj.mp (q.trans (by decide)))
  omega
theorem ty_sw1_3 {x : Int32} (h1 : ¬ x = 1) (h2 : ¬ x = 2) (h3 : ¬ x = 3) : x.toInt < 1 ∨ 3 < x.toInt := by
  have e1 : x.toInt ≠ 1 := fun q => h1 (Int32.toInt_inj.mp (q.trans (by decide)))
  have e2 : x.toInt ≠ 2 := fun q => h2 (Int32.toInt_inj.mp (q.trans (by decide)))
  have e3 : x.toInt ≠ 3 := fun q => h3 (Int32.toInt_inj.mp (q.trans (by decide)))
  omega
theorem ty_sw0_6 {x : Int32} (h0 : ¬ x = 0) (h1 : ¬ x = 1) (h2 : ¬ x = 2) (h3 : ¬ x = 3) (h4 : ¬ x = 4) (h5 : ¬ x = 5) (h6 : ¬ x = 6) : x.toInt < 0 ∨ 6 < x.toInt := by
  have e0 : x.toInt ≠ 0 := fun q => h0 (Int32.toInt_inj.mp (q.trans (by decide)))
  have e1 : x.toInt ≠ 1 := fun q => h1 (Int32.toInt_inj.mp (q.trans (by decide)))
  have e2 : x.toInt ≠ 2 := fun q => h2 (Int32.toInt_inj.mp (q.trans (by decide)))
  have e3 : x.toInt ≠ 3 := fun q => h3 (Int32.toInt_inj.mp (q.trans (by decide)))
  have e4 : x.toInt ≠ 4 := fun q => h4 (Int32.toInt_inj.mp (q.trans (by decide)))
  have e5 : x.toInt ≠ 5 := fun q => h5 (Int32.toInt_inj.mp (q.trans (by decide)))
  have e6 : x.toInt ≠ 6 := fun q => h6 (Int32.toInt_inj.mp (q.trans (by decide)))
  omega
theorem ty_sw0_9 {x : Int32} (h0 : ¬ x = 0) (h1 : ¬ x = 1) (h2 : ¬ x = 2) (h3 : ¬ x = 3) (h4 : ¬ x = 4) (h5 : ¬ x = 5) (h6 : ¬ x = 6) (h7 : ¬ x = 7) (h8 : ¬ x = 8) (h9 : ¬ x = 9) : x.toInt < 0 ∨ 9 < x.toInt := by
  have e0 : x.toInt ≠ 0 := fun q => h0 (Int32.toInt_inj.mp (q.trans (by decide)))
  have e1 : x.toInt ≠ 1 := fun q => h1 (Int32.toInt_inj.mp (q.trans (by decide)))
  have e2 : x.toInt ≠ 2 := fun q => h2 (Int32.toInt_inj.mp (q.trans (by decide)))
  have e3 : x.toInt ≠ 3 := fun q => h3 (Int32.toInt_inj.mp (q.trans (by decide)))
  have e4 : x.toInt ≠ 4 := fun q => h4 (Int32.toInt_inj.mp (q.trans (by decide)))
  have e5 : x.toInt ≠ 5 := fun q => h5 (Int32.toInt_inj.mp (q.trans (by decide)))
  have e6 : x.toInt ≠ 6 := fun q => h6 (Int32.toInt_inj.mp (q.trans (by decide)))
  have e7 : x.toInt ≠ 7 := fun q => h7 (Int32.toInt_inj.mp (q.trans (by decide)))
  have e8 : x.toInt ≠ 8 := fun q => h8 (Int32.toInt_inj.mp (q.trans (by decide)))
  have e9 : x.toInt ≠ 9 := fun q => h9 (Int32.toInt_inj.mp (q.trans (by decide)))
  omega
