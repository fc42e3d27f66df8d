theorem zq_duration {tt : Prop} {W : fw_W} {x : Nat → fw_C} {men : Int32} {f : Nat → Int32} {G : Nat → Int32} {fa : Nat → Int32} {su : Nat → Int64} {sv : Nat → Int64} {p1 : Int32} {p2 : Int32} {r : Int32} {men1 : Int32} {th1 : Int32} {f1 : Nat → Int32} {fa1 : Nat → Int32} {su1 : Nat → Int64} {sv1 : Nat → Int64} (Z : fl_Z tt f su W x) (m : q_X11_duration men f G fa su sv p1 p2 r men1 th1 f1 fa1 su1 sv1) : fl_Z tt f1 su1 W x := by
  obtain ⟨th1_4, e_1⟩ := m
  obtain ⟨a_2, b_3⟩ := e_1
  rcases b_3 with o_4 | o_5
  · obtain ⟨a_6, b_7⟩ := o_4
    obtain ⟨a_8, b_9⟩ := a_6
    obtain ⟨a_10, b_11⟩ := a_8
    obtain ⟨a_12, b_13⟩ := a_10
    obtain ⟨a_14, b_15⟩ := b_11
    obtain ⟨r_9, men1_12, f1_13, fa1_14, su1_15, sv1_16, e_16⟩ := b_7
    obtain ⟨a_17, b_18⟩ := e_16
    obtain ⟨a_19, b_20⟩ := b_18
    obtain ⟨a_21, b_22⟩ := b_20
    obtain ⟨a_23, b_24⟩ := b_22
    obtain ⟨a_25, b_26⟩ := b_24
    obtain ⟨a_27, b_28⟩ := b_26
    obtain ⟨a_29, b_30⟩ := b_28
    rw [a_25, a_29]; exact (fl_Zd Z a_17)
  · obtain ⟨a_31, b_32⟩ := o_5
    obtain ⟨a_33, b_34⟩ := a_31
    obtain ⟨a_35, b_36⟩ := b_32
    obtain ⟨a_37, b_38⟩ := b_36
    obtain ⟨a_39, b_40⟩ := b_38
    obtain ⟨a_41, b_42⟩ := b_40
    obtain ⟨a_43, b_44⟩ := b_42
    obtain ⟨a_45, b_46⟩ := b_44
    rw [a_41, a_45]; exact Z
theorem zq_shortest {tt : Prop} {W : fw_W} {x : Nat → fw_C} {men : Int32} {f : Nat → Int32} {G : Nat → Int32} {fa : Nat → Int32} {su : Nat → Int64} {sv : Nat → Int64} {p1 : Int32} {r : Int32} {men1 : Int32} {th1 : Int32} {f1 : Nat → Int32} {fa1 : Nat → Int32} {su1 : Nat → Int64} {sv1 : Nat → Int64} (Z : fl_Z tt f su W x) (m : q_X11_shortest men f G fa su sv p1 r men1 th1 f1 fa1 su1 sv1) : fl_Z tt f1 su1 W x := by
  obtain ⟨th1_4, e_1⟩ := m
  obtain ⟨a_2, b_3⟩ := e_1
  rcases b_3 with o_4 | o_5
  · obtain ⟨a_6, b_7⟩ := o_4
    obtain ⟨a_8, b_9⟩ := a_6
    obtain ⟨a_10, b_11⟩ := a_8
    obtain ⟨y_9, y_10, y_11, y_12, f_13, g_14, g_15, g_16, e_12⟩ := b_7
    obtain ⟨a_13, b_14⟩ := e_12
    obtain ⟨a_15, b_16⟩ := a_13
    obtain ⟨a_17, b_18⟩ := a_15
    obtain ⟨a_19, b_20⟩ := a_17
    obtain ⟨a_21, b_22⟩ := b_18
    obtain ⟨a_23, b_24⟩ := b_14
    obtain ⟨a_25, b_26⟩ := b_24
    obtain ⟨a_27, b_28⟩ := b_26
    obtain ⟨a_29, b_30⟩ := b_28
    obtain ⟨a_31, b_32⟩ := b_30
    obtain ⟨a_33, b_34⟩ := b_32
    obtain ⟨a_35, b_36⟩ := b_34
    rw [a_31, a_35]; exact (fl_Zf Z a_21 b_22)
  · obtain ⟨a_37, b_38⟩ := o_5
    obtain ⟨a_39, b_40⟩ := a_37
    obtain ⟨a_41, b_42⟩ := b_38
    obtain ⟨a_43, b_44⟩ := b_42
    obtain ⟨a_45, b_46⟩ := b_44
    obtain ⟨a_47, b_48⟩ := b_46
    obtain ⟨a_49, b_50⟩ := b_48
    obtain ⟨a_51, b_52⟩ := b_50
    rw [a_47, a_51]; exact Z
theorem zq_capacityIf {tt : Prop} {W : fw_W} {x : Nat → fw_C} {men : Int32} {f : Nat → Int32} {G : Nat → Int32} {fa : Nat → Int32} {su : Nat → Int64} {sv : Nat → Int64} {p1 : Int32} {p2 : Int32} {r : Int32} {men1 : Int32} {th1 : Int32} {f1 : Nat → Int32} {fa1 : Nat → Int32} {su1 : Nat → Int64} {sv1 : Nat → Int64} (Z : fl_Z tt f su W x) (m : q_X11_capacityIf men f G fa su sv p1 p2 r men1 th1 f1 fa1 su1 sv1) : fl_Z tt f1 su1 W x := by
  obtain ⟨th1_4, e_1⟩ := m
  obtain ⟨a_2, b_3⟩ := e_1
  rcases b_3 with o_4 | o_5
  · obtain ⟨a_6, b_7⟩ := o_4
    obtain ⟨a_8, b_9⟩ := a_6
    obtain ⟨a_10, b_11⟩ := a_8
    obtain ⟨a_12, b_13⟩ := a_10
    obtain ⟨a_14, b_15⟩ := b_11
    obtain ⟨fa1_12, sv1_13, e_16⟩ := b_7
    obtain ⟨a_17, b_18⟩ := e_16
    obtain ⟨a_19, b_20⟩ := a_17
    obtain ⟨f1_18, e_21⟩ := b_18
    obtain ⟨a_22, b_23⟩ := e_21
    obtain ⟨f1_28, su1_29, e_24⟩ := b_23
    obtain ⟨a_25, b_26⟩ := e_24
    obtain ⟨r_38, men1_41, f1_42, su1_43, e_27⟩ := b_26
    obtain ⟨a_28, b_29⟩ := e_27
    rcases b_29 with o_30 | o_31
    · obtain ⟨a_32, b_33⟩ := o_30
      obtain ⟨f1_56, su1_57, e_34⟩ := b_33
      obtain ⟨a_35, b_36⟩ := e_34
      obtain ⟨a_37, b_38⟩ := a_35
      obtain ⟨a_39, b_40⟩ := b_36
      obtain ⟨a_41, b_42⟩ := b_40
      obtain ⟨a_43, b_44⟩ := b_42
      obtain ⟨a_45, b_46⟩ := b_44
      obtain ⟨a_47, b_48⟩ := b_46
      obtain ⟨a_49, b_50⟩ := b_48
      rw [a_45, a_49]; exact (fl_Zf (fl_Zf Z a_19 b_20) a_37 b_38)
    · obtain ⟨a_51, b_52⟩ := o_31
      obtain ⟨f1_65, su1_66, e_53⟩ := b_52
      obtain ⟨a_54, b_55⟩ := e_53
      obtain ⟨a_56, b_57⟩ := a_54
      obtain ⟨a_58, b_59⟩ := b_55
      obtain ⟨a_60, b_61⟩ := b_59
      obtain ⟨a_62, b_63⟩ := b_61
      obtain ⟨a_64, b_65⟩ := b_63
      obtain ⟨a_66, b_67⟩ := b_65
      obtain ⟨a_68, b_69⟩ := b_67
      rw [a_64, a_68]; exact (fl_Zf (fl_Zf Z a_19 b_20) a_56 b_57)
  · obtain ⟨a_70, b_71⟩ := o_5
    obtain ⟨a_72, b_73⟩ := a_70
    obtain ⟨a_74, b_75⟩ := b_71
    obtain ⟨a_76, b_77⟩ := b_75
    obtain ⟨a_78, b_79⟩ := b_77
    obtain ⟨a_80, b_81⟩ := b_79
    obtain ⟨a_82, b_83⟩ := b_81
    obtain ⟨a_84, b_85⟩ := b_83
    rw [a_80, a_84]; exact Z
theorem zq_safeCurrent {tt : Prop} {W : fw_W} {x : Nat → fw_C} {men : Int32} {f : Nat → Int32} {G : Nat → Int32} {fa : Nat → Int32} {su : Nat → Int64} {sv : Nat → Int64} {p1 : Int32} {p2 : Int32} {r : Int32} {men1 : Int32} {th1 : Int32} {f1 : Nat → Int32} {fa1 : Nat → Int32} {su1 : Nat → Int64} {sv1 : Nat → Int64} (Z : fl_Z tt f su W x) (m : q_X11_safeCurrent men f G fa su sv p1 p2 r men1 th1 f1 fa1 su1 sv1) : fl_Z tt f1 su1 W x := by
  obtain ⟨th1_4, e_1⟩ := m
  obtain ⟨a_2, b_3⟩ := e_1
  rcases b_3 with o_4 | o_5
  · obtain ⟨a_6, b_7⟩ := o_4
    obtain ⟨a_8, b_9⟩ := a_6
    obtain ⟨a_10, b_11⟩ := a_8
    rcases b_7 with o_12 | o_13
    · obtain ⟨a_14, b_15⟩ := o_12
      obtain ⟨th1_16, e_16⟩ := b_15
      obtain ⟨a_17, b_18⟩ := e_16
      obtain ⟨a_19, b_20⟩ := b_18
      obtain ⟨a_21, b_22⟩ := a_19
      obtain ⟨y_21, y_22, f_23, g_24, g_25, g_26, e_23⟩ := b_20
      obtain ⟨a_24, b_25⟩ := e_23
      obtain ⟨a_26, b_27⟩ := a_24
      obtain ⟨a_28, b_29⟩ := b_27
      rcases b_25 with o_30 | o_31
      · obtain ⟨a_32, b_33⟩ := o_30
        obtain ⟨a_34, b_35⟩ := b_33
        obtain ⟨a_36, b_37⟩ := b_35
        obtain ⟨a_38, b_39⟩ := b_37
        obtain ⟨a_40, b_41⟩ := b_39
        obtain ⟨a_42, b_43⟩ := b_41
        obtain ⟨a_44, b_45⟩ := b_43
        rw [a_40, a_44]; exact (fl_Zf Z a_28 b_29)
      · obtain ⟨a_46, b_47⟩ := o_31
        obtain ⟨r_28, men1_31, f1_32, fa1_33, su1_34, sv1_35, e_48⟩ := b_47
        obtain ⟨a_49, b_50⟩ := e_48
        obtain ⟨a_51, b_52⟩ := b_50
        obtain ⟨a_53, b_54⟩ := b_52
        obtain ⟨a_55, b_56⟩ := b_54
        obtain ⟨a_57, b_58⟩ := b_56
        obtain ⟨a_59, b_60⟩ := b_58
        obtain ⟨a_61, b_62⟩ := b_60
        obtain ⟨a_63, b_64⟩ := b_62
        rw [a_59, a_63]; exact (fl_Zi (fl_Zf Z a_28 b_29) a_49)
    · obtain ⟨a_65, b_66⟩ := o_13
      obtain ⟨th1_48, e_67⟩ := b_66
      obtain ⟨a_68, b_69⟩ := e_67
      obtain ⟨a_70, b_71⟩ := b_69
      obtain ⟨a_72, b_73⟩ := a_70
      obtain ⟨a_74, b_75⟩ := b_71
      obtain ⟨a_76, b_77⟩ := b_75
      obtain ⟨a_78, b_79⟩ := b_77
      obtain ⟨a_80, b_81⟩ := b_79
      obtain ⟨a_82, b_83⟩ := b_81
      obtain ⟨a_84, b_85⟩ := b_83
      rw [a_80, a_84]; exact Z
  · obtain ⟨a_86, b_87⟩ := o_5
    obtain ⟨a_88, b_89⟩ := a_86
    obtain ⟨a_90, b_91⟩ := b_87
    obtain ⟨a_92, b_93⟩ := b_91
    obtain ⟨a_94, b_95⟩ := b_93
    obtain ⟨a_96, b_97⟩ := b_95
    obtain ⟨a_98, b_99⟩ := b_97
    obtain ⟨a_100, b_101⟩ := b_99
    rw [a_96, a_100]; exact Z
