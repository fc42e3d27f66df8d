theorem zq_peakTemperature {tt : Prop} {W : fw_W} {x : Nat → fw_C} {men : Int32} {f : Nat → Int32} {G : Nat → Int32} {fa : Nat → Int32} {su : Nat → Int64} {sv : Nat → Int64} {p1 : Int32} {p2 : Int32} {r : Int32} {men1 : Int32} {th1 : Int32} {f1 : Nat → Int32} {fa1 : Nat → Int32} {su1 : Nat → Int64} {sv1 : Nat → Int64} (Z : fl_Z tt f su W x) (m : q_X11_peakTemperature men f G fa su sv p1 p2 r men1 th1 f1 fa1 su1 sv1) : fl_Z tt f1 su1 W x := by
  obtain ⟨th1_4, e_1⟩ := m
  obtain ⟨a_2, b_3⟩ := e_1
  rcases b_3 with o_4 | o_5
  · obtain ⟨a_6, b_7⟩ := o_4
    obtain ⟨a_8, b_9⟩ := a_6
    obtain ⟨a_10, b_11⟩ := a_8
    rcases b_7 with o_12 | o_13
    · obtain ⟨a_14, b_15⟩ := o_12
      obtain ⟨th1_16, e_16⟩ := b_15
      obtain ⟨a_17, b_18⟩ := e_16
      obtain ⟨a_19, b_20⟩ := b_18
      obtain ⟨a_21, b_22⟩ := a_19
      obtain ⟨fa1_24, sv1_25, e_23⟩ := b_20
      obtain ⟨a_24, b_25⟩ := e_23
      obtain ⟨a_26, b_27⟩ := a_24
      obtain ⟨y_30, y_31, y_32, f_33, g_34, e_28⟩ := b_25
      obtain ⟨a_29, b_30⟩ := e_28
      obtain ⟨a_31, b_32⟩ := a_29
      obtain ⟨a_33, b_34⟩ := a_31
      obtain ⟨a_35, b_36⟩ := b_30
      obtain ⟨f1_39, su1_40, e_37⟩ := b_36
      obtain ⟨a_38, b_39⟩ := e_37
      obtain ⟨a_40, b_41⟩ := a_38
      obtain ⟨a_42, b_43⟩ := b_39
      obtain ⟨a_44, b_45⟩ := b_43
      obtain ⟨a_46, b_47⟩ := b_45
      obtain ⟨a_48, b_49⟩ := b_47
      obtain ⟨a_50, b_51⟩ := b_49
      obtain ⟨a_52, b_53⟩ := b_51
      rw [a_48, a_52]; exact (fl_Zf (fl_Zf Z a_26 b_27) a_40 b_41)
    · obtain ⟨a_54, b_55⟩ := o_13
      obtain ⟨th1_64, e_56⟩ := b_55
      obtain ⟨a_57, b_58⟩ := e_56
      obtain ⟨a_59, b_60⟩ := b_58
      obtain ⟨a_61, b_62⟩ := a_59
      obtain ⟨a_63, b_64⟩ := b_60
      obtain ⟨a_65, b_66⟩ := b_64
      obtain ⟨a_67, b_68⟩ := b_66
      obtain ⟨a_69, b_70⟩ := b_68
      obtain ⟨a_71, b_72⟩ := b_70
      obtain ⟨a_73, b_74⟩ := b_72
      rw [a_69, a_73]; exact Z
  · obtain ⟨a_75, b_76⟩ := o_5
    obtain ⟨a_77, b_78⟩ := a_75
    obtain ⟨a_79, b_80⟩ := b_76
    obtain ⟨a_81, b_82⟩ := b_80
    obtain ⟨a_83, b_84⟩ := b_82
    obtain ⟨a_85, b_86⟩ := b_84
    obtain ⟨a_87, b_88⟩ := b_86
    obtain ⟨a_89, b_90⟩ := b_88
    rw [a_85, a_89]; exact Z
theorem zq_settledIn {tt : Prop} {W : fw_W} {x : Nat → fw_C} {men : Int32} {f : Nat → Int32} {G : Nat → Int32} {fa : Nat → Int32} {su : Nat → Int64} {sv : Nat → Int64} {p1 : Int32} {r : Int32} {men1 : Int32} {th1 : Int32} {f1 : Nat → Int32} {fa1 : Nat → Int32} {su1 : Nat → Int64} {sv1 : Nat → Int64} (Z : fl_Z tt f su W x) (m : q_X11_settledIn men f G fa su sv p1 r men1 th1 f1 fa1 su1 sv1) : fl_Z tt f1 su1 W x := by
  obtain ⟨th1_4, e_1⟩ := m
  obtain ⟨a_2, b_3⟩ := e_1
  rcases b_3 with o_4 | o_5
  · obtain ⟨a_6, b_7⟩ := o_4
    obtain ⟨a_8, b_9⟩ := a_6
    obtain ⟨a_10, b_11⟩ := a_8
    rcases b_7 with o_12 | o_13
    · obtain ⟨a_14, b_15⟩ := o_12
      obtain ⟨fa1_18, sv1_19, e_16⟩ := b_15
      obtain ⟨a_17, b_18⟩ := e_16
      obtain ⟨a_19, b_20⟩ := a_17
      obtain ⟨y_21, y_22, f_23, g_24, e_21⟩ := b_18
      obtain ⟨a_22, b_23⟩ := e_21
      obtain ⟨a_24, b_25⟩ := a_22
      obtain ⟨a_26, b_27⟩ := a_24
      rcases b_23 with o_28 | o_29
      · obtain ⟨a_30, b_31⟩ := o_28
        obtain ⟨f1_32, su1_33, e_32⟩ := b_31
        obtain ⟨a_33, b_34⟩ := e_32
        obtain ⟨a_35, b_36⟩ := a_33
        rcases b_34 with o_37 | o_38
        · obtain ⟨a_39, b_40⟩ := o_37
          obtain ⟨a_41, b_42⟩ := b_40
          obtain ⟨a_43, b_44⟩ := b_42
          obtain ⟨a_45, b_46⟩ := b_44
          obtain ⟨a_47, b_48⟩ := b_46
          obtain ⟨a_49, b_50⟩ := b_48
          obtain ⟨a_51, b_52⟩ := b_50
          rw [a_47, a_51]; exact (fl_Zf (fl_Zf Z a_19 b_20) a_35 b_36)
        · obtain ⟨a_53, b_54⟩ := o_38
          obtain ⟨a_55, b_56⟩ := b_54
          obtain ⟨a_57, b_58⟩ := b_56
          obtain ⟨a_59, b_60⟩ := b_58
          obtain ⟨a_61, b_62⟩ := b_60
          obtain ⟨a_63, b_64⟩ := b_62
          obtain ⟨a_65, b_66⟩ := b_64
          rw [a_61, a_65]; exact (fl_Zf (fl_Zf Z a_19 b_20) a_35 b_36)
      · obtain ⟨a_67, b_68⟩ := o_29
        obtain ⟨a_69, b_70⟩ := b_68
        obtain ⟨f1_43, su1_44, e_71⟩ := b_70
        obtain ⟨a_72, b_73⟩ := e_71
        obtain ⟨a_74, b_75⟩ := a_72
        rcases b_73 with o_76 | o_77
        · obtain ⟨a_78, b_79⟩ := o_76
          obtain ⟨a_80, b_81⟩ := b_79
          obtain ⟨a_82, b_83⟩ := b_81
          obtain ⟨a_84, b_85⟩ := b_83
          obtain ⟨a_86, b_87⟩ := b_85
          obtain ⟨a_88, b_89⟩ := b_87
          obtain ⟨a_90, b_91⟩ := b_89
          rw [a_86, a_90]; exact (fl_Zf (fl_Zf Z a_19 b_20) a_74 b_75)
        · obtain ⟨a_92, b_93⟩ := o_77
          obtain ⟨a_94, b_95⟩ := b_93
          obtain ⟨a_96, b_97⟩ := b_95
          obtain ⟨a_98, b_99⟩ := b_97
          obtain ⟨a_100, b_101⟩ := b_99
          obtain ⟨a_102, b_103⟩ := b_101
          obtain ⟨a_104, b_105⟩ := b_103
          rw [a_100, a_104]; exact (fl_Zf (fl_Zf Z a_19 b_20) a_74 b_75)
    · obtain ⟨a_106, b_107⟩ := o_13
      obtain ⟨a_108, b_109⟩ := b_107
      obtain ⟨a_110, b_111⟩ := b_109
      obtain ⟨a_112, b_113⟩ := b_111
      obtain ⟨a_114, b_115⟩ := b_113
      obtain ⟨a_116, b_117⟩ := b_115
      obtain ⟨a_118, b_119⟩ := b_117
      rw [a_114, a_118]; exact Z
  · obtain ⟨a_120, b_121⟩ := o_5
    obtain ⟨a_122, b_123⟩ := a_120
    obtain ⟨a_124, b_125⟩ := b_121
    obtain ⟨a_126, b_127⟩ := b_125
    obtain ⟨a_128, b_129⟩ := b_127
    obtain ⟨a_130, b_131⟩ := b_129
    obtain ⟨a_132, b_133⟩ := b_131
    obtain ⟨a_134, b_135⟩ := b_133
    rw [a_130, a_134]; exact Z
