theorem d_L_advance {p1 : Int32} {o : Nat → Int64} {va : fw_W} {xa : Nat → fw_C} {r : Int32} {va1 : fw_W} {xa1 : Nat → fw_C} {o1 : Nat → Int64} (h : t_L_advance p1 o va xa r va1 xa1 o1) : sd_W va va1 ∧ ∀ n9 : Nat, sd_X n9 xa xa1 := by
  unfold t_L_advance at h
  rcases h with ho1 | ho2
  · obtain ⟨ha3, hb4⟩ := ho1
    obtain ⟨r_1, va1_5, xa1_6, hx5⟩ := hb4
    obtain ⟨ha6, hb7⟩ := hx5
    exact ⟨(by rw [hb7.2.1]; exact (d_advance ha6).1), (fun n9 => (by rw [hb7.2.2.1]; exact ((d_advance ha6).2 _)))⟩
  · obtain ⟨ha8, hb9⟩ := ho2
    exact ⟨(by rw [hb9.2.1]; exact sd_Wr), (fun n9 => (by rw [hb9.2.2.1]; exact sd_Xr))⟩
theorem d_L_start {p1 : Int32} {p2 : Int32} {o : Nat → Int64} {va : fw_W} {xa : Nat → fw_C} {r : Int32} {va1 : fw_W} {xa1 : Nat → fw_C} {o1 : Nat → Int64} (h : t_L_start p1 p2 o va xa r va1 xa1 o1) : sd_W va va1 ∧ ∀ n9 : Nat, sd_X n9 xa xa1 := by
  unfold t_L_start at h
  rcases h with ho1 | ho2
  · obtain ⟨ha3, hb4⟩ := ho1
    rcases hb4 with ho5 | ho6
    · obtain ⟨ha7, hb8⟩ := ho5
      obtain ⟨r_1, va1_4, xa1_5, hx9⟩ := hb8
      obtain ⟨ha10, hb11⟩ := hx9
      exact ⟨(by rw [hb11.2.1]; exact (d_start ha10).1), (fun n9 => (by rw [hb11.2.2.1]; exact ((d_start ha10).2 _)))⟩
    · obtain ⟨ha12, hb13⟩ := ho6
      exact ⟨(by rw [hb13.2.1]; exact sd_Wr), (fun n9 => (by rw [hb13.2.2.1]; exact sd_Xr))⟩
  · obtain ⟨ha14, hb15⟩ := ho2
    exact ⟨(by rw [hb15.2.1]; exact sd_Wr), (fun n9 => (by rw [hb15.2.2.1]; exact sd_Xr))⟩
theorem d_L_pause {p1 : Int32} {o : Nat → Int64} {va : fw_W} {xa : Nat → fw_C} {r : Int32} {xa1 : Nat → fw_C} {o1 : Nat → Int64} (h : t_L_pause p1 o va xa r xa1 o1) : ∀ n9 : Nat, sd_X n9 xa xa1 := by
  unfold t_L_pause at h
  rcases h with ho1 | ho2
  · obtain ⟨ha3, hb4⟩ := ho1
    obtain ⟨r_1, qa1_4, hx5⟩ := hb4
    obtain ⟨ha6, hb7⟩ := hx5
    exact (fun n9 => (by rw [hb7.2.1]; exact (sd_Xs (d_pause ha6))))
  · obtain ⟨ha8, hb9⟩ := ho2
    exact (fun n9 => (by rw [hb9.2.1]; exact sd_Xr))
theorem d_L_resume {p1 : Int32} {o : Nat → Int64} {va : fw_W} {xa : Nat → fw_C} {r : Int32} {xa1 : Nat → fw_C} {o1 : Nat → Int64} (h : t_L_resume p1 o va xa r xa1 o1) : ∀ n9 : Nat, sd_X n9 xa xa1 := by
  unfold t_L_resume at h
  rcases h with ho1 | ho2
  · obtain ⟨ha3, hb4⟩ := ho1
    obtain ⟨r_1, qa1_4, hx5⟩ := hb4
    obtain ⟨ha6, hb7⟩ := hx5
    exact (fun n9 => (by rw [hb7.2.1]; exact (sd_Xs (d_resume ha6))))
  · obtain ⟨ha8, hb9⟩ := ho2
    exact (fun n9 => (by rw [hb9.2.1]; exact sd_Xr))
theorem d_L_stop {p1 : Int32} {o : Nat → Int64} {va : fw_W} {xa : Nat → fw_C} {r : Int32} {xa1 : Nat → fw_C} {o1 : Nat → Int64} (h : t_L_stop p1 o va xa r xa1 o1) : ∀ n9 : Nat, sd_X n9 xa xa1 := by
  unfold t_L_stop at h
  rcases h with ho1 | ho2
  · obtain ⟨ha3, hb4⟩ := ho1
    obtain ⟨r_1, qa1_4, hx5⟩ := hb4
    obtain ⟨ha6, hb7⟩ := hx5
    exact (fun n9 => (by rw [hb7.2.1]; exact (sd_Xs (d_stop ha6))))
  · obtain ⟨ha8, hb9⟩ := ho2
    exact (fun n9 => (by rw [hb9.2.1]; exact sd_Xr))
theorem d_L_skip {p1 : Int32} {o : Nat → Int64} {va : fw_W} {xa : Nat → fw_C} {r : Int32} {va1 : fw_W} {xa1 : Nat → fw_C} {o1 : Nat → Int64} (h : t_L_skip p1 o va xa r va1 xa1 o1) : sd_W va va1 ∧ ∀ n9 : Nat, sd_X n9 xa xa1 := by
  unfold t_L_skip at h
  rcases h with ho1 | ho2
  · obtain ⟨ha3, hb4⟩ := ho1
    obtain ⟨r_1, va1_4, qa1_5, hx5⟩ := hb4
    obtain ⟨ha6, hb7⟩ := hx5
    exact ⟨(by rw [hb7.2.1]; exact (d_skip ha6).1), (fun n9 => (by rw [hb7.2.2.1]; exact (sd_Xs (d_skip ha6).2)))⟩
  · obtain ⟨ha8, hb9⟩ := ho2
    exact ⟨(by rw [hb9.2.1]; exact sd_Wr), (fun n9 => (by rw [hb9.2.2.1]; exact sd_Xr))⟩
theorem d_L_replace {p1 : Int32} {p2 : Int32} {o : Nat → Int64} {va : fw_W} {xa : Nat → fw_C} {r : Int32} {va1 : fw_W} {xa1 : Nat → fw_C} {o1 : Nat → Int64} (h : t_L_replace p1 p2 o va xa r va1 xa1 o1) : sd_W va va1 ∧ ∀ n9 : Nat, sd_X n9 xa xa1 := by
  unfold t_L_replace at h
  rcases h with ho1 | ho2
  · obtain ⟨ha3, hb4⟩ := ho1
    rcases hb4 with ho5 | ho6
    · obtain ⟨ha7, hb8⟩ := ho5
      obtain ⟨r_1, va1_5, qa1_6, hx9⟩ := hb8
      obtain ⟨ha10, hb11⟩ := hx9
      exact ⟨(by rw [hb11.2.1]; exact (d_replace ha10).1), (fun n9 => (by rw [hb11.2.2.1]; exact (sd_Xs (d_replace ha10).2)))⟩
    · obtain ⟨ha12, hb13⟩ := ho6
      exact ⟨(by rw [hb13.2.1]; exact sd_Wr), (fun n9 => (by rw [hb13.2.2.1]; exact sd_Xr))⟩
  · obtain ⟨ha14, hb15⟩ := ho2
    exact ⟨(by rw [hb15.2.1]; exact sd_Wr), (fun n9 => (by rw [hb15.2.2.1]; exact sd_Xr))⟩
theorem d_L_enqueue {p1 : Int32} {p2 : Int32} {o : Nat → Int64} {va : fw_W} {xa : Nat → fw_C} {r : Int32} {xa1 : Nat → fw_C} {o1 : Nat → Int64} (h : t_L_enqueue p1 p2 o va xa r xa1 o1) : ∀ n9 : Nat, sd_X n9 xa xa1 := by
  unfold t_L_enqueue at h
  rcases h with ho1 | ho2
  · obtain ⟨ha3, hb4⟩ := ho1
    rcases hb4 with ho5 | ho6
    · obtain ⟨ha7, hb8⟩ := ho5
      obtain ⟨r_1, qa1_5, hx9⟩ := hb8
      obtain ⟨ha10, hb11⟩ := hx9
      exact (fun n9 => (by rw [hb11.2.1]; exact (sd_Xs (d_enqueue ha10))))
    · obtain ⟨ha12, hb13⟩ := ho6
      exact (fun n9 => (by rw [hb13.2.1]; exact sd_Xr))
  · obtain ⟨ha14, hb15⟩ := ho2
    exact (fun n9 => (by rw [hb15.2.1]; exact sd_Xr))
theorem d_L_dequeue {p1 : Int32} {o : Nat → Int64} {va : fw_W} {xa : Nat → fw_C} {r : Int32} {xa1 : Nat → fw_C} {o1 : Nat → Int64} (h : t_L_dequeue p1 o va xa r xa1 o1) : ∀ n9 : Nat, sd_X n9 xa xa1 := by
  unfold t_L_dequeue at h
  rcases h with ho1 | ho2
  · obtain ⟨ha3, hb4⟩ := ho1
    obtain ⟨r_1, qa1_4, hx5⟩ := hb4
    obtain ⟨ha6, hb7⟩ := hx5
    exact (fun n9 => (by rw [hb7.2.1]; exact (sd_Xs (d_dequeue ha6))))
  · obtain ⟨ha8, hb9⟩ := ho2
    exact (fun n9 => (by rw [hb9.2.1]; exact sd_Xr))
theorem d_L_startNext {p1 : Int32} {o : Nat → Int64} {va : fw_W} {xa : Nat → fw_C} {r : Int32} {va1 : fw_W} {xa1 : Nat → fw_C} {o1 : Nat → Int64} (h : t_L_startNext p1 o va xa r va1 xa1 o1) : sd_W va va1 ∧ ∀ n9 : Nat, sd_X n9 xa xa1 := by
  unfold t_L_startNext at h
  rcases h with ho1 | ho2
  · obtain ⟨ha3, hb4⟩ := ho1
    obtain ⟨r_1, va1_4, qa1_5, hx5⟩ := hb4
    obtain ⟨ha6, hb7⟩ := hx5
    exact ⟨(by rw [hb7.2.1]; exact (d_startNext ha6).1), (fun n9 => (by rw [hb7.2.2.1]; exact (sd_Xs (d_startNext ha6).2)))⟩
  · obtain ⟨ha8, hb9⟩ := ho2
    exact ⟨(by rw [hb9.2.1]; exact sd_Wr), (fun n9 => (by rw [hb9.2.2.1]; exact sd_Xr))⟩
