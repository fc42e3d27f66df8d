theorem zq_doneIn {tt : Prop} {W : fw_W} {x : Nat → fw_C} {men : Int32} {f : Nat → Int32} {G : Nat → Int32} {fa : Nat → Int32} {su : Nat → Int64} {sv : Nat → Int64} {p1 : Int32} {r : Int32} {men1 : Int32} {th1 : Int32} {f1 : Nat → Int32} {fa1 : Nat → Int32} {su1 : Nat → Int64} {sv1 : Nat → Int64} (Z : fl_Z tt f su W x) (m : q_X11_doneIn men f G fa su sv p1 r men1 th1 f1 fa1 su1 sv1) : fl_Z tt f1 su1 W x := by
  obtain ⟨th1_4, e_1⟩ := m
  obtain ⟨a_2, b_3⟩ := e_1
  rcases b_3 with o_4 | o_5
  · obtain ⟨a_6, b_7⟩ := o_4
    obtain ⟨a_8, b_9⟩ := a_6
    obtain ⟨a_10, b_11⟩ := a_8
    rcases b_7 with o_12 | o_13
    · obtain ⟨a_14, b_15⟩ := o_12
      rcases b_15 with o_16 | o_17
      · obtain ⟨a_18, b_19⟩ := o_16
        obtain ⟨a_20, b_21⟩ := b_19
        obtain ⟨a_22, b_23⟩ := b_21
        obtain ⟨a_24, b_25⟩ := b_23
        obtain ⟨a_26, b_27⟩ := b_25
        obtain ⟨a_28, b_29⟩ := b_27
        obtain ⟨a_30, b_31⟩ := b_29
        rw [a_26, a_30]; exact Z
      · obtain ⟨a_32, b_33⟩ := o_17
        obtain ⟨r_21, men1_24, f1_25, fa1_26, su1_27, sv1_28, e_34⟩ := b_33
        obtain ⟨a_35, b_36⟩ := e_34
        obtain ⟨a_37, b_38⟩ := b_36
        obtain ⟨a_39, b_40⟩ := b_38
        obtain ⟨a_41, b_42⟩ := b_40
        obtain ⟨a_43, b_44⟩ := b_42
        obtain ⟨a_45, b_46⟩ := b_44
        obtain ⟨a_47, b_48⟩ := b_46
        rw [a_43, a_47]; exact (fl_Zu Z a_35)
    · obtain ⟨a_49, b_50⟩ := o_13
      obtain ⟨a_51, b_52⟩ := b_50
      obtain ⟨a_53, b_54⟩ := b_52
      obtain ⟨a_55, b_56⟩ := b_54
      obtain ⟨a_57, b_58⟩ := b_56
      obtain ⟨a_59, b_60⟩ := b_58
      obtain ⟨a_61, b_62⟩ := b_60
      rw [a_57, a_61]; exact Z
  · obtain ⟨a_63, b_64⟩ := o_5
    obtain ⟨a_65, b_66⟩ := a_63
    obtain ⟨a_67, b_68⟩ := b_64
    obtain ⟨a_69, b_70⟩ := b_68
    obtain ⟨a_71, b_72⟩ := b_70
    obtain ⟨a_73, b_74⟩ := b_72
    obtain ⟨a_75, b_76⟩ := b_74
    obtain ⟨a_77, b_78⟩ := b_76
    rw [a_73, a_77]; exact Z
theorem zq_tripsIn {tt : Prop} {W : fw_W} {x : Nat → fw_C} {men : Int32} {f : Nat → Int32} {G : Nat → Int32} {fa : Nat → Int32} {su : Nat → Int64} {sv : Nat → Int64} {p1 : Int32} {r : Int32} {men1 : Int32} {th1 : Int32} {f1 : Nat → Int32} {fa1 : Nat → Int32} {su1 : Nat → Int64} {sv1 : Nat → Int64} (Z : fl_Z tt f su W x) (m : q_X11_tripsIn men f G fa su sv p1 r men1 th1 f1 fa1 su1 sv1) : fl_Z tt f1 su1 W x := by
  obtain ⟨th1_4, e_1⟩ := m
  obtain ⟨a_2, b_3⟩ := e_1
  rcases b_3 with o_4 | o_5
  · obtain ⟨a_6, b_7⟩ := o_4
    obtain ⟨a_8, b_9⟩ := a_6
    obtain ⟨a_10, b_11⟩ := a_8
    rcases b_7 with o_12 | o_13
    · obtain ⟨a_14, b_15⟩ := o_12
      obtain ⟨a_16, b_17⟩ := b_15
      obtain ⟨a_18, b_19⟩ := b_17
      obtain ⟨a_20, b_21⟩ := b_19
      obtain ⟨a_22, b_23⟩ := b_21
      obtain ⟨a_24, b_25⟩ := b_23
      obtain ⟨a_26, b_27⟩ := b_25
      rw [a_22, a_26]; exact Z
    · obtain ⟨a_28, b_29⟩ := o_13
      obtain ⟨r_15, men1_18, f1_19, fa1_20, su1_21, sv1_22, e_30⟩ := b_29
      obtain ⟨a_31, b_32⟩ := e_30
      obtain ⟨a_33, b_34⟩ := b_32
      obtain ⟨a_35, b_36⟩ := b_34
      obtain ⟨a_37, b_38⟩ := b_36
      obtain ⟨a_39, b_40⟩ := b_38
      obtain ⟨a_41, b_42⟩ := b_40
      obtain ⟨a_43, b_44⟩ := b_42
      rw [a_39, a_43]; exact (fl_Zu Z a_31)
  · obtain ⟨a_45, b_46⟩ := o_5
    obtain ⟨a_47, b_48⟩ := a_45
    obtain ⟨a_49, b_50⟩ := b_46
    obtain ⟨a_51, b_52⟩ := b_50
    obtain ⟨a_53, b_54⟩ := b_52
    obtain ⟨a_55, b_56⟩ := b_54
    obtain ⟨a_57, b_58⟩ := b_56
    obtain ⟨a_59, b_60⟩ := b_58
    rw [a_55, a_59]; exact Z
theorem zq_valueAfter {tt : Prop} {W : fw_W} {x : Nat → fw_C} {men : Int32} {f : Nat → Int32} {G : Nat → Int32} {fa : Nat → Int32} {su : Nat → Int64} {sv : Nat → Int64} {p1 : Int32} {p2 : Int32} {p3 : Int32} {r : Int32} {men1 : Int32} {th1 : Int32} {f1 : Nat → Int32} {fa1 : Nat → Int32} {su1 : Nat → Int64} {sv1 : Nat → Int64} (Z : fl_Z tt f su W x) (m : q_X11_valueAfter men f G fa su sv p1 p2 p3 r men1 th1 f1 fa1 su1 sv1) : fl_Z tt f1 su1 W x := by
  obtain ⟨th1_4, e_1⟩ := m
  obtain ⟨a_2, b_3⟩ := e_1
  rcases b_3 with o_4 | o_5
  · obtain ⟨a_6, b_7⟩ := o_4
    obtain ⟨a_8, b_9⟩ := a_6
    obtain ⟨a_10, b_11⟩ := a_8
    rcases b_7 with o_12 | o_13
    · obtain ⟨a_14, b_15⟩ := o_12
      obtain ⟨th1_16, e_16⟩ := b_15
      obtain ⟨a_17, b_18⟩ := e_16
      obtain ⟨a_19, b_20⟩ := b_18
      obtain ⟨a_21, b_22⟩ := a_19
      obtain ⟨a_23, b_24⟩ := b_20
      obtain ⟨a_25, b_26⟩ := b_24
      obtain ⟨a_27, b_28⟩ := b_26
      obtain ⟨a_29, b_30⟩ := b_28
      obtain ⟨a_31, b_32⟩ := b_30
      obtain ⟨a_33, b_34⟩ := b_32
      rw [a_29, a_33]; exact Z
    · obtain ⟨a_35, b_36⟩ := o_13
      rcases b_36 with o_37 | o_38
      · obtain ⟨a_39, b_40⟩ := o_37
        obtain ⟨th1_28, e_41⟩ := b_40
        obtain ⟨a_42, b_43⟩ := e_41
        obtain ⟨a_44, b_45⟩ := b_43
        obtain ⟨a_46, b_47⟩ := a_44
        obtain ⟨fa1_36, sv1_37, e_48⟩ := b_45
        obtain ⟨a_49, b_50⟩ := e_48
        obtain ⟨a_51, b_52⟩ := a_49
        obtain ⟨y_39, y_40, f_41, g_42, e_53⟩ := b_50
        obtain ⟨a_54, b_55⟩ := e_53
        obtain ⟨a_56, b_57⟩ := a_54
        obtain ⟨a_58, b_59⟩ := a_56
        obtain ⟨a_60, b_61⟩ := b_55
        obtain ⟨f1_50, su1_51, e_62⟩ := b_61
        obtain ⟨a_63, b_64⟩ := e_62
        obtain ⟨a_65, b_66⟩ := a_63
        obtain ⟨a_67, b_68⟩ := b_64
        obtain ⟨a_69, b_70⟩ := b_68
        obtain ⟨a_71, b_72⟩ := b_70
        obtain ⟨a_73, b_74⟩ := b_72
        obtain ⟨a_75, b_76⟩ := b_74
        obtain ⟨a_77, b_78⟩ := b_76
        rw [a_73, a_77]; exact (fl_Zf (fl_Zf Z a_51 b_52) a_65 b_66)
      · obtain ⟨a_79, b_80⟩ := o_38
        obtain ⟨th1_72, e_81⟩ := b_80
        obtain ⟨a_82, b_83⟩ := e_81
        obtain ⟨a_84, b_85⟩ := b_83
        obtain ⟨a_86, b_87⟩ := a_84
        obtain ⟨a_88, b_89⟩ := b_85
        obtain ⟨a_90, b_91⟩ := b_89
        obtain ⟨a_92, b_93⟩ := b_91
        obtain ⟨a_94, b_95⟩ := b_93
        obtain ⟨a_96, b_97⟩ := b_95
        obtain ⟨a_98, b_99⟩ := b_97
        rw [a_94, a_98]; exact Z
  · obtain ⟨a_100, b_101⟩ := o_5
    obtain ⟨a_102, b_103⟩ := a_100
    obtain ⟨a_104, b_105⟩ := b_101
    obtain ⟨a_106, b_107⟩ := b_105
    obtain ⟨a_108, b_109⟩ := b_107
    obtain ⟨a_110, b_111⟩ := b_109
    obtain ⟨a_112, b_113⟩ := b_111
    obtain ⟨a_114, b_115⟩ := b_113
    rw [a_110, a_114]; exact Z
