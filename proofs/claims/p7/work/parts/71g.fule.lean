/-! the slots -/
/-- a slot on both sides -/
def lw_sZ (t : Nat → Int32) (z : Nat → Int64) (o : Option ((Nat → Nat) × fw_W × (Nat → fw_C))) : Prop := match o with
  | none => True
  | some q => fl_Z True t z q.2.1 q.2.2
theorem fl_Zsv {f s : Nat → Int32} {su z : Nat → Int64} {W W0 V : fw_W} {x x0 y : Nat → fw_C} (Z : fl_Z True f su W x) (a : q_eq 958 f s) (b : q_cs su z) (h : t_copyFrom W0 W x0 x V y) : fl_Z True s z V y := fl_Zf (fl_Zy Z h) a b
