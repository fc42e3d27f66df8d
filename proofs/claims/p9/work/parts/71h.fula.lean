/-! predictions leave all as it was -/
theorem fl_Zu {tt : Prop} {W : fw_W} {x : Nat → fw_C} {f : Nat → Int32} {G : Nat → Int32} {su : Nat → Int64} {p1 : Int32} {p2 : Int32} {r : Int32} {men1 : Int32} {f1 : Nat → Int32} {fa1 : Nat → Int32} {su1 : Nat → Int64} {sv1 : Nat → Int64} (Z : fl_Z tt f su W x) (m : q_X11_untilAside f G su p1 p2 r men1 f1 fa1 su1 sv1) : fl_Z tt f1 su1 W x := by
  obtain ⟨fa1_4, sv1_5, e_1⟩ := m
  obtain ⟨a_2, b_3⟩ := e_1
  obtain ⟨a_4, b_5⟩ := a_2
  obtain ⟨r_7, men1_10, f1_11, su1_12, e_6⟩ := b_3
  obtain ⟨a_7, b_8⟩ := e_6
  obtain ⟨f1_21, su1_22, e_9⟩ := b_8
  obtain ⟨a_10, b_11⟩ := e_9
  obtain ⟨a_12, b_13⟩ := a_10
  obtain ⟨a_14, b_15⟩ := b_11
  obtain ⟨a_16, b_17⟩ := b_15
  obtain ⟨a_18, b_19⟩ := b_17
  obtain ⟨a_20, b_21⟩ := b_19
  obtain ⟨a_22, b_23⟩ := b_21
  rw [a_18, a_22]; exact (fl_Zf (fl_Zf Z a_4 b_5) a_12 b_13)
theorem fl_Zd {tt : Prop} {W : fw_W} {x : Nat → fw_C} {f : Nat → Int32} {G : Nat → Int32} {su : Nat → Int64} {p1 : Int32} {p2 : Int32} {r : Int32} {men1 : Int32} {f1 : Nat → Int32} {fa1 : Nat → Int32} {su1 : Nat → Int64} {sv1 : Nat → Int64} (Z : fl_Z tt f su W x) (m : q_X11_durationOf f G su p1 p2 r men1 f1 fa1 su1 sv1) : fl_Z tt f1 su1 W x := by
  obtain ⟨fa1_4, sv1_5, e_1⟩ := m
  obtain ⟨a_2, b_3⟩ := e_1
  obtain ⟨a_4, b_5⟩ := a_2
  obtain ⟨f1_10, e_6⟩ := b_3
  obtain ⟨a_7, b_8⟩ := e_6
  obtain ⟨f1_20, su1_21, e_9⟩ := b_8
  obtain ⟨a_10, b_11⟩ := e_9
  obtain ⟨r_30, men1_33, f1_34, su1_35, e_12⟩ := b_11
  obtain ⟨a_13, b_14⟩ := e_12
  obtain ⟨f1_44, su1_45, e_15⟩ := b_14
  obtain ⟨a_16, b_17⟩ := e_15
  obtain ⟨a_18, b_19⟩ := a_16
  obtain ⟨a_20, b_21⟩ := b_17
  obtain ⟨a_22, b_23⟩ := b_21
  obtain ⟨a_24, b_25⟩ := b_23
  obtain ⟨a_26, b_27⟩ := b_25
  obtain ⟨a_28, b_29⟩ := b_27
  rw [a_24, a_28]; exact (fl_Zf (fl_Zf Z a_4 b_5) a_18 b_19)
theorem fl_Zi {tt : Prop} {W : fw_W} {x : Nat → fw_C} {f : Nat → Int32} {su : Nat → Int64} {p3 : Int32} {r : Int32} {men1 : Int32} {f1 : Nat → Int32} {fa1 : Nat → Int32} {su1 : Nat → Int64} {sv1 : Nat → Int64} (Z : fl_Z tt f su W x) (m : q_X11_isSafe f su p3 r men1 f1 fa1 su1 sv1) : fl_Z tt f1 su1 W x := by
  obtain ⟨fa1_4, sv1_5, e_1⟩ := m
  obtain ⟨a_2, b_3⟩ := e_1
  obtain ⟨a_4, b_5⟩ := a_2
  obtain ⟨y_7, y_8, f_9, g_10, e_6⟩ := b_3
  obtain ⟨a_7, b_8⟩ := e_6
  rcases a_7 with o_9 | o_10
  · rcases b_8 with o_11 | o_12
    · obtain ⟨a_13, b_14⟩ := o_11
      obtain ⟨f1_15, su1_16, e_15⟩ := b_14
      obtain ⟨a_16, b_17⟩ := e_15
      obtain ⟨a_18, b_19⟩ := a_16
      obtain ⟨a_20, b_21⟩ := b_17
      obtain ⟨a_22, b_23⟩ := b_21
      obtain ⟨a_24, b_25⟩ := b_23
      obtain ⟨a_26, b_27⟩ := b_25
      obtain ⟨a_28, b_29⟩ := b_27
      rw [a_24, a_28]; exact (fl_Zf (fl_Zf Z a_4 b_5) a_18 b_19)
    · obtain ⟨a_30, b_31⟩ := o_12
      obtain ⟨a_32, b_33⟩ := b_31
      obtain ⟨f1_25, su1_26, e_34⟩ := b_33
      obtain ⟨a_35, b_36⟩ := e_34
      obtain ⟨a_37, b_38⟩ := a_35
      obtain ⟨a_39, b_40⟩ := b_36
      obtain ⟨a_41, b_42⟩ := b_40
      obtain ⟨a_43, b_44⟩ := b_42
      obtain ⟨a_45, b_46⟩ := b_44
      obtain ⟨a_47, b_48⟩ := b_46
      rw [a_43, a_47]; exact (fl_Zf (fl_Zf Z a_4 b_5) a_37 b_38)
  · rcases b_8 with o_49 | o_50
    · obtain ⟨a_51, b_52⟩ := o_49
      obtain ⟨f1_15, su1_16, e_53⟩ := b_52
      obtain ⟨a_54, b_55⟩ := e_53
      obtain ⟨a_56, b_57⟩ := a_54
      obtain ⟨a_58, b_59⟩ := b_55
      obtain ⟨a_60, b_61⟩ := b_59
      obtain ⟨a_62, b_63⟩ := b_61
      obtain ⟨a_64, b_65⟩ := b_63
      obtain ⟨a_66, b_67⟩ := b_65
      rw [a_62, a_66]; exact (fl_Zf (fl_Zf Z a_4 b_5) a_56 b_57)
    · obtain ⟨a_68, b_69⟩ := o_50
      obtain ⟨a_70, b_71⟩ := b_69
      obtain ⟨f1_25, su1_26, e_72⟩ := b_71
      obtain ⟨a_73, b_74⟩ := e_72
      obtain ⟨a_75, b_76⟩ := a_73
      obtain ⟨a_77, b_78⟩ := b_74
      obtain ⟨a_79, b_80⟩ := b_78
      obtain ⟨a_81, b_82⟩ := b_80
      obtain ⟨a_83, b_84⟩ := b_82
      obtain ⟨a_85, b_86⟩ := b_84
      rw [a_81, a_85]; exact (fl_Zf (fl_Zf Z a_4 b_5) a_75 b_76)
theorem zq_stepEndsIn {tt : Prop} {W : fw_W} {x : Nat → fw_C} {men : Int32} {f : Nat → Int32} {G : Nat → Int32} {fa : Nat → Int32} {su : Nat → Int64} {sv : Nat → Int64} {p1 : Int32} {r : Int32} {men1 : Int32} {th1 : Int32} {f1 : Nat → Int32} {fa1 : Nat → Int32} {su1 : Nat → Int64} {sv1 : Nat → Int64} (Z : fl_Z tt f su W x) (m : q_X11_stepEndsIn men f G fa su sv p1 r men1 th1 f1 fa1 su1 sv1) : fl_Z tt f1 su1 W x := by
  obtain ⟨th1_4, e_1⟩ := m
  obtain ⟨a_2, b_3⟩ := e_1
  rcases b_3 with o_4 | o_5
  · obtain ⟨a_6, b_7⟩ := o_4
    obtain ⟨a_8, b_9⟩ := a_6
    obtain ⟨a_10, b_11⟩ := a_8
    rcases b_7 with o_12 | o_13
    · obtain ⟨a_14, b_15⟩ := o_12
      obtain ⟨a_16, b_17⟩ := b_15
      obtain ⟨a_18, b_19⟩ := b_17
      obtain ⟨a_20, b_21⟩ := b_19
      obtain ⟨a_22, b_23⟩ := b_21
      obtain ⟨a_24, b_25⟩ := b_23
      obtain ⟨a_26, b_27⟩ := b_25
      rw [a_22, a_26]; exact Z
    · obtain ⟨a_28, b_29⟩ := o_13
      obtain ⟨fa1_18, sv1_19, e_30⟩ := b_29
      obtain ⟨a_31, b_32⟩ := e_30
      obtain ⟨a_33, b_34⟩ := a_31
      obtain ⟨y_21, y_22, f_23, g_24, e_35⟩ := b_32
      obtain ⟨a_36, b_37⟩ := e_35
      obtain ⟨a_38, b_39⟩ := a_36
      obtain ⟨a_40, b_41⟩ := a_38
      rcases b_37 with o_42 | o_43
      · obtain ⟨a_44, b_45⟩ := o_42
        rcases b_45 with o_46 | o_47
        · obtain ⟨a_48, b_49⟩ := o_46
          obtain ⟨f1_30, su1_31, e_50⟩ := b_49
          obtain ⟨a_51, b_52⟩ := e_50
          obtain ⟨a_53, b_54⟩ := a_51
          obtain ⟨a_55, b_56⟩ := b_52
          obtain ⟨a_57, b_58⟩ := b_56
          obtain ⟨a_59, b_60⟩ := b_58
          obtain ⟨a_61, b_62⟩ := b_60
          obtain ⟨a_63, b_64⟩ := b_62
          obtain ⟨a_65, b_66⟩ := b_64
          rw [a_61, a_65]; exact (fl_Zf (fl_Zf Z a_33 b_34) a_53 b_54)
        · obtain ⟨a_67, b_68⟩ := o_47
          obtain ⟨f1_39, su1_40, e_69⟩ := b_68
          obtain ⟨a_70, b_71⟩ := e_69
          obtain ⟨a_72, b_73⟩ := a_70
          obtain ⟨a_74, b_75⟩ := b_71
          obtain ⟨a_76, b_77⟩ := b_75
          obtain ⟨a_78, b_79⟩ := b_77
          obtain ⟨a_80, b_81⟩ := b_79
          obtain ⟨a_82, b_83⟩ := b_81
          obtain ⟨a_84, b_85⟩ := b_83
          rw [a_80, a_84]; exact (fl_Zf (fl_Zf Z a_33 b_34) a_72 b_73)
      · obtain ⟨a_86, b_87⟩ := o_43
        rcases b_87 with o_88 | o_89
        · obtain ⟨a_90, b_91⟩ := o_88
          rcases b_91 with o_92 | o_93
          · obtain ⟨a_94, b_95⟩ := o_92
            obtain ⟨f1_55, su1_56, e_96⟩ := b_95
            obtain ⟨a_97, b_98⟩ := e_96
            obtain ⟨a_99, b_100⟩ := a_97
            obtain ⟨a_101, b_102⟩ := b_98
            obtain ⟨a_103, b_104⟩ := b_102
            obtain ⟨a_105, b_106⟩ := b_104
            obtain ⟨a_107, b_108⟩ := b_106
            obtain ⟨a_109, b_110⟩ := b_108
            obtain ⟨a_111, b_112⟩ := b_110
            rw [a_107, a_111]; exact (fl_Zf (fl_Zf Z a_33 b_34) a_99 b_100)
          · obtain ⟨a_113, b_114⟩ := o_93
            obtain ⟨f1_64, su1_65, e_115⟩ := b_114
            obtain ⟨a_116, b_117⟩ := e_115
            obtain ⟨a_118, b_119⟩ := a_116
            obtain ⟨a_120, b_121⟩ := b_117
            obtain ⟨a_122, b_123⟩ := b_121
            obtain ⟨a_124, b_125⟩ := b_123
            obtain ⟨a_126, b_127⟩ := b_125
            obtain ⟨a_128, b_129⟩ := b_127
            obtain ⟨a_130, b_131⟩ := b_129
            rw [a_126, a_130]; exact (fl_Zf (fl_Zf Z a_33 b_34) a_118 b_119)
        · obtain ⟨a_132, b_133⟩ := o_89
          obtain ⟨a_134, b_135⟩ := b_133
          rcases b_135 with o_136 | o_137
          · obtain ⟨a_138, b_139⟩ := o_136
            obtain ⟨f1_75, su1_76, e_140⟩ := b_139
            obtain ⟨a_141, b_142⟩ := e_140
            obtain ⟨a_143, b_144⟩ := a_141
            obtain ⟨a_145, b_146⟩ := b_142
            obtain ⟨a_147, b_148⟩ := b_146
            obtain ⟨a_149, b_150⟩ := b_148
            obtain ⟨a_151, b_152⟩ := b_150
            obtain ⟨a_153, b_154⟩ := b_152
            obtain ⟨a_155, b_156⟩ := b_154
            rw [a_151, a_155]; exact (fl_Zf (fl_Zf Z a_33 b_34) a_143 b_144)
          · obtain ⟨a_157, b_158⟩ := o_137
            obtain ⟨f1_84, su1_85, e_159⟩ := b_158
            obtain ⟨a_160, b_161⟩ := e_159
            obtain ⟨a_162, b_163⟩ := a_160
            obtain ⟨a_164, b_165⟩ := b_161
            obtain ⟨a_166, b_167⟩ := b_165
            obtain ⟨a_168, b_169⟩ := b_167
            obtain ⟨a_170, b_171⟩ := b_169
            obtain ⟨a_172, b_173⟩ := b_171
            obtain ⟨a_174, b_175⟩ := b_173
            rw [a_170, a_174]; exact (fl_Zf (fl_Zf Z a_33 b_34) a_162 b_163)
  · obtain ⟨a_176, b_177⟩ := o_5
    obtain ⟨a_178, b_179⟩ := a_176
    obtain ⟨a_180, b_181⟩ := b_177
    obtain ⟨a_182, b_183⟩ := b_181
    obtain ⟨a_184, b_185⟩ := b_183
    obtain ⟨a_186, b_187⟩ := b_185
    obtain ⟨a_188, b_189⟩ := b_187
    obtain ⟨a_190, b_191⟩ := b_189
    rw [a_186, a_190]; exact Z
theorem zq_doneIn {tt : Prop} {W : fw_W} {x : Nat → fw_C} {men : Int32} {f : Nat → Int32} {G : Nat → Int32} {fa : Nat → Int32} {su : Nat → Int64} {sv : Nat → Int64} {p1 : Int32} {r : Int32} {men1 : Int32} {th1 : Int32} {f1 : Nat → Int32} {fa1 : Nat → Int32} {su1 : Nat → Int64} {sv1 : Nat → Int64} (Z : fl_Z tt f su W x) (m : q_X11_doneIn men f G fa su sv p1 r men1 th1 f1 fa1 su1 sv1) : fl_Z tt f1 su1 W x := by
  obtain ⟨th1_4, e_1⟩ := m
  obtain ⟨a_2, b_3⟩ := e_1
  rcases b_3 with o_4 | o_5
  · obtain ⟨a_6, b_7⟩ := o_4
    obtain ⟨a_8, b_9⟩ := a_6
    obtain ⟨a_10, b_11⟩ := a_8
    rcases b_7 with o_12 | o_13
    · obtain ⟨a_14, b_15⟩ := o_12
      rcases b_15 with o_16 | o_17
      · obtain ⟨a_18, b_19⟩ := o_16
        obtain ⟨a_20, b_21⟩ := b_19
        obtain ⟨a_22, b_23⟩ := b_21
        obtain ⟨a_24, b_25⟩ := b_23
        obtain ⟨a_26, b_27⟩ := b_25
        obtain ⟨a_28, b_29⟩ := b_27
        obtain ⟨a_30, b_31⟩ := b_29
        rw [a_26, a_30]; exact Z
      · obtain ⟨a_32, b_33⟩ := o_17
        obtain ⟨r_21, men1_24, f1_25, fa1_26, su1_27, sv1_28, e_34⟩ := b_33
        obtain ⟨a_35, b_36⟩ := e_34
        obtain ⟨a_37, b_38⟩ := b_36
        obtain ⟨a_39, b_40⟩ := b_38
        obtain ⟨a_41, b_42⟩ := b_40
        obtain ⟨a_43, b_44⟩ := b_42
        obtain ⟨a_45, b_46⟩ := b_44
        obtain ⟨a_47, b_48⟩ := b_46
        rw [a_43, a_47]; exact (fl_Zu Z a_35)
    · obtain ⟨a_49, b_50⟩ := o_13
      obtain ⟨a_51, b_52⟩ := b_50
      obtain ⟨a_53, b_54⟩ := b_52
      obtain ⟨a_55, b_56⟩ := b_54
      obtain ⟨a_57, b_58⟩ := b_56
      obtain ⟨a_59, b_60⟩ := b_58
      obtain ⟨a_61, b_62⟩ := b_60
      rw [a_57, a_61]; exact Z
  · obtain ⟨a_63, b_64⟩ := o_5
    obtain ⟨a_65, b_66⟩ := a_63
    obtain ⟨a_67, b_68⟩ := b_64
    obtain ⟨a_69, b_70⟩ := b_68
    obtain ⟨a_71, b_72⟩ := b_70
    obtain ⟨a_73, b_74⟩ := b_72
    obtain ⟨a_75, b_76⟩ := b_74
    obtain ⟨a_77, b_78⟩ := b_76
    rw [a_73, a_77]; exact Z
theorem zq_tripsIn {tt : Prop} {W : fw_W} {x : Nat → fw_C} {men : Int32} {f : Nat → Int32} {G : Nat → Int32} {fa : Nat → Int32} {su : Nat → Int64} {sv : Nat → Int64} {p1 : Int32} {r : Int32} {men1 : Int32} {th1 : Int32} {f1 : Nat → Int32} {fa1 : Nat → Int32} {su1 : Nat → Int64} {sv1 : Nat → Int64} (Z : fl_Z tt f su W x) (m : q_X11_tripsIn men f G fa su sv p1 r men1 th1 f1 fa1 su1 sv1) : fl_Z tt f1 su1 W x := by
  obtain ⟨th1_4, e_1⟩ := m
  obtain ⟨a_2, b_3⟩ := e_1
  rcases b_3 with o_4 | o_5
  · obtain ⟨a_6, b_7⟩ := o_4
    obtain ⟨a_8, b_9⟩ := a_6
    obtain ⟨a_10, b_11⟩ := a_8
    rcases b_7 with o_12 | o_13
    · obtain ⟨a_14, b_15⟩ := o_12
      obtain ⟨a_16, b_17⟩ := b_15
      obtain ⟨a_18, b_19⟩ := b_17
      obtain ⟨a_20, b_21⟩ := b_19
      obtain ⟨a_22, b_23⟩ := b_21
      obtain ⟨a_24, b_25⟩ := b_23
      obtain ⟨a_26, b_27⟩ := b_25
      rw [a_22, a_26]; exact Z
    · obtain ⟨a_28, b_29⟩ := o_13
      obtain ⟨r_15, men1_18, f1_19, fa1_20, su1_21, sv1_22, e_30⟩ := b_29
      obtain ⟨a_31, b_32⟩ := e_30
      obtain ⟨a_33, b_34⟩ := b_32
      obtain ⟨a_35, b_36⟩ := b_34
      obtain ⟨a_37, b_38⟩ := b_36
      obtain ⟨a_39, b_40⟩ := b_38
      obtain ⟨a_41, b_42⟩ := b_40
      obtain ⟨a_43, b_44⟩ := b_42
      rw [a_39, a_43]; exact (fl_Zu Z a_31)
  · obtain ⟨a_45, b_46⟩ := o_5
    obtain ⟨a_47, b_48⟩ := a_45
    obtain ⟨a_49, b_50⟩ := b_46
    obtain ⟨a_51, b_52⟩ := b_50
    obtain ⟨a_53, b_54⟩ := b_52
    obtain ⟨a_55, b_56⟩ := b_54
    obtain ⟨a_57, b_58⟩ := b_56
    obtain ⟨a_59, b_60⟩ := b_58
    rw [a_55, a_59]; exact Z
theorem zq_valueAfter {tt : Prop} {W : fw_W} {x : Nat → fw_C} {men : Int32} {f : Nat → Int32} {G : Nat → Int32} {fa : Nat → Int32} {su : Nat → Int64} {sv : Nat → Int64} {p1 : Int32} {p2 : Int32} {p3 : Int32} {r : Int32} {men1 : Int32} {th1 : Int32} {f1 : Nat → Int32} {fa1 : Nat → Int32} {su1 : Nat → Int64} {sv1 : Nat → Int64} (Z : fl_Z tt f su W x) (m : q_X11_valueAfter men f G fa su sv p1 p2 p3 r men1 th1 f1 fa1 su1 sv1) : fl_Z tt f1 su1 W x := by
  obtain ⟨th1_4, e_1⟩ := m
  obtain ⟨a_2, b_3⟩ := e_1
  rcases b_3 with o_4 | o_5
  · obtain ⟨a_6, b_7⟩ := o_4
    obtain ⟨a_8, b_9⟩ := a_6
    obtain ⟨a_10, b_11⟩ := a_8
    rcases b_7 with o_12 | o_13
    · obtain ⟨a_14, b_15⟩ := o_12
      obtain ⟨th1_16, e_16⟩ := b_15
      obtain ⟨a_17, b_18⟩ := e_16
      obtain ⟨a_19, b_20⟩ := b_18
      obtain ⟨a_21, b_22⟩ := a_19
      obtain ⟨a_23, b_24⟩ := b_20
      obtain ⟨a_25, b_26⟩ := b_24
      obtain ⟨a_27, b_28⟩ := b_26
      obtain ⟨a_29, b_30⟩ := b_28
      obtain ⟨a_31, b_32⟩ := b_30
      obtain ⟨a_33, b_34⟩ := b_32
      rw [a_29, a_33]; exact Z
    · obtain ⟨a_35, b_36⟩ := o_13
      rcases b_36 with o_37 | o_38
      · obtain ⟨a_39, b_40⟩ := o_37
        obtain ⟨th1_28, e_41⟩ := b_40
        obtain ⟨a_42, b_43⟩ := e_41
        obtain ⟨a_44, b_45⟩ := b_43
        obtain ⟨a_46, b_47⟩ := a_44
        obtain ⟨fa1_36, sv1_37, e_48⟩ := b_45
        obtain ⟨a_49, b_50⟩ := e_48
        obtain ⟨a_51, b_52⟩ := a_49
        obtain ⟨y_39, y_40, f_41, g_42, e_53⟩ := b_50
        obtain ⟨a_54, b_55⟩ := e_53
        obtain ⟨a_56, b_57⟩ := a_54
        obtain ⟨a_58, b_59⟩ := a_56
        obtain ⟨a_60, b_61⟩ := b_55
        obtain ⟨f1_50, su1_51, e_62⟩ := b_61
        obtain ⟨a_63, b_64⟩ := e_62
        obtain ⟨a_65, b_66⟩ := a_63
        obtain ⟨a_67, b_68⟩ := b_64
        obtain ⟨a_69, b_70⟩ := b_68
        obtain ⟨a_71, b_72⟩ := b_70
        obtain ⟨a_73, b_74⟩ := b_72
        obtain ⟨a_75, b_76⟩ := b_74
        obtain ⟨a_77, b_78⟩ := b_76
        rw [a_73, a_77]; exact (fl_Zf (fl_Zf Z a_51 b_52) a_65 b_66)
      · obtain ⟨a_79, b_80⟩ := o_38
        obtain ⟨th1_72, e_81⟩ := b_80
        obtain ⟨a_82, b_83⟩ := e_81
        obtain ⟨a_84, b_85⟩ := b_83
        obtain ⟨a_86, b_87⟩ := a_84
        obtain ⟨a_88, b_89⟩ := b_85
        obtain ⟨a_90, b_91⟩ := b_89
        obtain ⟨a_92, b_93⟩ := b_91
        obtain ⟨a_94, b_95⟩ := b_93
        obtain ⟨a_96, b_97⟩ := b_95
        obtain ⟨a_98, b_99⟩ := b_97
        rw [a_94, a_98]; exact Z
  · obtain ⟨a_100, b_101⟩ := o_5
    obtain ⟨a_102, b_103⟩ := a_100
    obtain ⟨a_104, b_105⟩ := b_101
    obtain ⟨a_106, b_107⟩ := b_105
    obtain ⟨a_108, b_109⟩ := b_107
    obtain ⟨a_110, b_111⟩ := b_109
    obtain ⟨a_112, b_113⟩ := b_111
    obtain ⟨a_114, b_115⟩ := b_113
    rw [a_110, a_114]; exact Z
theorem zq_peakTemperature {tt : Prop} {W : fw_W} {x : Nat → fw_C} {men : Int32} {f : Nat → Int32} {G : Nat → Int32} {fa : Nat → Int32} {su : Nat → Int64} {sv : Nat → Int64} {p1 : Int32} {p2 : Int32} {r : Int32} {men1 : Int32} {th1 : Int32} {f1 : Nat → Int32} {fa1 : Nat → Int32} {su1 : Nat → Int64} {sv1 : Nat → Int64} (Z : fl_Z tt f su W x) (m : q_X11_peakTemperature men f G fa su sv p1 p2 r men1 th1 f1 fa1 su1 sv1) : fl_Z tt f1 su1 W x := by
  obtain ⟨th1_4, e_1⟩ := m
  obtain ⟨a_2, b_3⟩ := e_1
  rcases b_3 with o_4 | o_5
  · obtain ⟨a_6, b_7⟩ := o_4
    obtain ⟨a_8, b_9⟩ := a_6
    obtain ⟨a_10, b_11⟩ := a_8
    rcases b_7 with o_12 | o_13
    · obtain ⟨a_14, b_15⟩ := o_12
      obtain ⟨th1_16, e_16⟩ := b_15
      obtain ⟨a_17, b_18⟩ := e_16
      obtain ⟨a_19, b_20⟩ := b_18
      obtain ⟨a_21, b_22⟩ := a_19
      obtain ⟨fa1_24, sv1_25, e_23⟩ := b_20
      obtain ⟨a_24, b_25⟩ := e_23
      obtain ⟨a_26, b_27⟩ := a_24
      obtain ⟨y_30, y_31, y_32, f_33, g_34, e_28⟩ := b_25
      obtain ⟨a_29, b_30⟩ := e_28
      obtain ⟨a_31, b_32⟩ := a_29
      obtain ⟨a_33, b_34⟩ := a_31
      obtain ⟨a_35, b_36⟩ := b_30
      obtain ⟨f1_39, su1_40, e_37⟩ := b_36
      obtain ⟨a_38, b_39⟩ := e_37
      obtain ⟨a_40, b_41⟩ := a_38
      obtain ⟨a_42, b_43⟩ := b_39
      obtain ⟨a_44, b_45⟩ := b_43
      obtain ⟨a_46, b_47⟩ := b_45
      obtain ⟨a_48, b_49⟩ := b_47
      obtain ⟨a_50, b_51⟩ := b_49
      obtain ⟨a_52, b_53⟩ := b_51
      rw [a_48, a_52]; exact (fl_Zf (fl_Zf Z a_26 b_27) a_40 b_41)
    · obtain ⟨a_54, b_55⟩ := o_13
      obtain ⟨th1_64, e_56⟩ := b_55
      obtain ⟨a_57, b_58⟩ := e_56
      obtain ⟨a_59, b_60⟩ := b_58
      obtain ⟨a_61, b_62⟩ := a_59
      obtain ⟨a_63, b_64⟩ := b_60
      obtain ⟨a_65, b_66⟩ := b_64
      obtain ⟨a_67, b_68⟩ := b_66
      obtain ⟨a_69, b_70⟩ := b_68
      obtain ⟨a_71, b_72⟩ := b_70
      obtain ⟨a_73, b_74⟩ := b_72
      rw [a_69, a_73]; exact Z
  · obtain ⟨a_75, b_76⟩ := o_5
    obtain ⟨a_77, b_78⟩ := a_75
    obtain ⟨a_79, b_80⟩ := b_76
    obtain ⟨a_81, b_82⟩ := b_80
    obtain ⟨a_83, b_84⟩ := b_82
    obtain ⟨a_85, b_86⟩ := b_84
    obtain ⟨a_87, b_88⟩ := b_86
    obtain ⟨a_89, b_90⟩ := b_88
    rw [a_85, a_89]; exact Z
theorem zq_settledIn {tt : Prop} {W : fw_W} {x : Nat → fw_C} {men : Int32} {f : Nat → Int32} {G : Nat → Int32} {fa : Nat → Int32} {su : Nat → Int64} {sv : Nat → Int64} {p1 : Int32} {r : Int32} {men1 : Int32} {th1 : Int32} {f1 : Nat → Int32} {fa1 : Nat → Int32} {su1 : Nat → Int64} {sv1 : Nat → Int64} (Z : fl_Z tt f su W x) (m : q_X11_settledIn men f G fa su sv p1 r men1 th1 f1 fa1 su1 sv1) : fl_Z tt f1 su1 W x := by
  obtain ⟨th1_4, e_1⟩ := m
  obtain ⟨a_2, b_3⟩ := e_1
  rcases b_3 with o_4 | o_5
  · obtain ⟨a_6, b_7⟩ := o_4
    obtain ⟨a_8, b_9⟩ := a_6
    obtain ⟨a_10, b_11⟩ := a_8
    rcases b_7 with o_12 | o_13
    · obtain ⟨a_14, b_15⟩ := o_12
      obtain ⟨fa1_18, sv1_19, e_16⟩ := b_15
      obtain ⟨a_17, b_18⟩ := e_16
      obtain ⟨a_19, b_20⟩ := a_17
      obtain ⟨y_21, y_22, f_23, g_24, e_21⟩ := b_18
      obtain ⟨a_22, b_23⟩ := e_21
      obtain ⟨a_24, b_25⟩ := a_22
      obtain ⟨a_26, b_27⟩ := a_24
      rcases b_23 with o_28 | o_29
      · obtain ⟨a_30, b_31⟩ := o_28
        obtain ⟨f1_32, su1_33, e_32⟩ := b_31
        obtain ⟨a_33, b_34⟩ := e_32
        obtain ⟨a_35, b_36⟩ := a_33
        rcases b_34 with o_37 | o_38
        · obtain ⟨a_39, b_40⟩ := o_37
          obtain ⟨a_41, b_42⟩ := b_40
          obtain ⟨a_43, b_44⟩ := b_42
          obtain ⟨a_45, b_46⟩ := b_44
          obtain ⟨a_47, b_48⟩ := b_46
          obtain ⟨a_49, b_50⟩ := b_48
          obtain ⟨a_51, b_52⟩ := b_50
          rw [a_47, a_51]; exact (fl_Zf (fl_Zf Z a_19 b_20) a_35 b_36)
        · obtain ⟨a_53, b_54⟩ := o_38
          obtain ⟨a_55, b_56⟩ := b_54
          obtain ⟨a_57, b_58⟩ := b_56
          obtain ⟨a_59, b_60⟩ := b_58
          obtain ⟨a_61, b_62⟩ := b_60
          obtain ⟨a_63, b_64⟩ := b_62
          obtain ⟨a_65, b_66⟩ := b_64
          rw [a_61, a_65]; exact (fl_Zf (fl_Zf Z a_19 b_20) a_35 b_36)
      · obtain ⟨a_67, b_68⟩ := o_29
        obtain ⟨a_69, b_70⟩ := b_68
        obtain ⟨f1_43, su1_44, e_71⟩ := b_70
        obtain ⟨a_72, b_73⟩ := e_71
        obtain ⟨a_74, b_75⟩ := a_72
        rcases b_73 with o_76 | o_77
        · obtain ⟨a_78, b_79⟩ := o_76
          obtain ⟨a_80, b_81⟩ := b_79
          obtain ⟨a_82, b_83⟩ := b_81
          obtain ⟨a_84, b_85⟩ := b_83
          obtain ⟨a_86, b_87⟩ := b_85
          obtain ⟨a_88, b_89⟩ := b_87
          obtain ⟨a_90, b_91⟩ := b_89
          rw [a_86, a_90]; exact (fl_Zf (fl_Zf Z a_19 b_20) a_74 b_75)
        · obtain ⟨a_92, b_93⟩ := o_77
          obtain ⟨a_94, b_95⟩ := b_93
          obtain ⟨a_96, b_97⟩ := b_95
          obtain ⟨a_98, b_99⟩ := b_97
          obtain ⟨a_100, b_101⟩ := b_99
          obtain ⟨a_102, b_103⟩ := b_101
          obtain ⟨a_104, b_105⟩ := b_103
          rw [a_100, a_104]; exact (fl_Zf (fl_Zf Z a_19 b_20) a_74 b_75)
    · obtain ⟨a_106, b_107⟩ := o_13
      obtain ⟨a_108, b_109⟩ := b_107
      obtain ⟨a_110, b_111⟩ := b_109
      obtain ⟨a_112, b_113⟩ := b_111
      obtain ⟨a_114, b_115⟩ := b_113
      obtain ⟨a_116, b_117⟩ := b_115
      obtain ⟨a_118, b_119⟩ := b_117
      rw [a_114, a_118]; exact Z
  · obtain ⟨a_120, b_121⟩ := o_5
    obtain ⟨a_122, b_123⟩ := a_120
    obtain ⟨a_124, b_125⟩ := b_121
    obtain ⟨a_126, b_127⟩ := b_125
    obtain ⟨a_128, b_129⟩ := b_127
    obtain ⟨a_130, b_131⟩ := b_129
    obtain ⟨a_132, b_133⟩ := b_131
    obtain ⟨a_134, b_135⟩ := b_133
    rw [a_130, a_134]; exact Z
theorem zq_duration {tt : Prop} {W : fw_W} {x : Nat → fw_C} {men : Int32} {f : Nat → Int32} {G : Nat → Int32} {fa : Nat → Int32} {su : Nat → Int64} {sv : Nat → Int64} {p1 : Int32} {p2 : Int32} {r : Int32} {men1 : Int32} {th1 : Int32} {f1 : Nat → Int32} {fa1 : Nat → Int32} {su1 : Nat → Int64} {sv1 : Nat → Int64} (Z : fl_Z tt f su W x) (m : q_X11_duration men f G fa su sv p1 p2 r men1 th1 f1 fa1 su1 sv1) : fl_Z tt f1 su1 W x := by
  obtain ⟨th1_4, e_1⟩ := m
  obtain ⟨a_2, b_3⟩ := e_1
  rcases b_3 with o_4 | o_5
  · obtain ⟨a_6, b_7⟩ := o_4
    obtain ⟨a_8, b_9⟩ := a_6
    obtain ⟨a_10, b_11⟩ := a_8
    obtain ⟨a_12, b_13⟩ := a_10
    obtain ⟨a_14, b_15⟩ := b_11
    obtain ⟨r_9, men1_12, f1_13, fa1_14, su1_15, sv1_16, e_16⟩ := b_7
    obtain ⟨a_17, b_18⟩ := e_16
    obtain ⟨a_19, b_20⟩ := b_18
    obtain ⟨a_21, b_22⟩ := b_20
    obtain ⟨a_23, b_24⟩ := b_22
    obtain ⟨a_25, b_26⟩ := b_24
    obtain ⟨a_27, b_28⟩ := b_26
    obtain ⟨a_29, b_30⟩ := b_28
    rw [a_25, a_29]; exact (fl_Zd Z a_17)
  · obtain ⟨a_31, b_32⟩ := o_5
    obtain ⟨a_33, b_34⟩ := a_31
    obtain ⟨a_35, b_36⟩ := b_32
    obtain ⟨a_37, b_38⟩ := b_36
    obtain ⟨a_39, b_40⟩ := b_38
    obtain ⟨a_41, b_42⟩ := b_40
    obtain ⟨a_43, b_44⟩ := b_42
    obtain ⟨a_45, b_46⟩ := b_44
    rw [a_41, a_45]; exact Z
theorem zq_shortest {tt : Prop} {W : fw_W} {x : Nat → fw_C} {men : Int32} {f : Nat → Int32} {G : Nat → Int32} {fa : Nat → Int32} {su : Nat → Int64} {sv : Nat → Int64} {p1 : Int32} {r : Int32} {men1 : Int32} {th1 : Int32} {f1 : Nat → Int32} {fa1 : Nat → Int32} {su1 : Nat → Int64} {sv1 : Nat → Int64} (Z : fl_Z tt f su W x) (m : q_X11_shortest men f G fa su sv p1 r men1 th1 f1 fa1 su1 sv1) : fl_Z tt f1 su1 W x := by
  obtain ⟨th1_4, e_1⟩ := m
  obtain ⟨a_2, b_3⟩ := e_1
  rcases b_3 with o_4 | o_5
  · obtain ⟨a_6, b_7⟩ := o_4
    obtain ⟨a_8, b_9⟩ := a_6
    obtain ⟨a_10, b_11⟩ := a_8
    obtain ⟨y_9, y_10, y_11, y_12, f_13, g_14, g_15, g_16, e_12⟩ := b_7
    obtain ⟨a_13, b_14⟩ := e_12
    obtain ⟨a_15, b_16⟩ := a_13
    obtain ⟨a_17, b_18⟩ := a_15
    obtain ⟨a_19, b_20⟩ := a_17
    obtain ⟨a_21, b_22⟩ := b_18
    obtain ⟨a_23, b_24⟩ := b_14
    obtain ⟨a_25, b_26⟩ := b_24
    obtain ⟨a_27, b_28⟩ := b_26
    obtain ⟨a_29, b_30⟩ := b_28
    obtain ⟨a_31, b_32⟩ := b_30
    obtain ⟨a_33, b_34⟩ := b_32
    obtain ⟨a_35, b_36⟩ := b_34
    rw [a_31, a_35]; exact (fl_Zf Z a_21 b_22)
  · obtain ⟨a_37, b_38⟩ := o_5
    obtain ⟨a_39, b_40⟩ := a_37
    obtain ⟨a_41, b_42⟩ := b_38
    obtain ⟨a_43, b_44⟩ := b_42
    obtain ⟨a_45, b_46⟩ := b_44
    obtain ⟨a_47, b_48⟩ := b_46
    obtain ⟨a_49, b_50⟩ := b_48
    obtain ⟨a_51, b_52⟩ := b_50
    rw [a_47, a_51]; exact Z
theorem zq_capacityIf {tt : Prop} {W : fw_W} {x : Nat → fw_C} {men : Int32} {f : Nat → Int32} {G : Nat → Int32} {fa : Nat → Int32} {su : Nat → Int64} {sv : Nat → Int64} {p1 : Int32} {p2 : Int32} {r : Int32} {men1 : Int32} {th1 : Int32} {f1 : Nat → Int32} {fa1 : Nat → Int32} {su1 : Nat → Int64} {sv1 : Nat → Int64} (Z : fl_Z tt f su W x) (m : q_X11_capacityIf men f G fa su sv p1 p2 r men1 th1 f1 fa1 su1 sv1) : fl_Z tt f1 su1 W x := by
  obtain ⟨th1_4, e_1⟩ := m
  obtain ⟨a_2, b_3⟩ := e_1
  rcases b_3 with o_4 | o_5
  · obtain ⟨a_6, b_7⟩ := o_4
    obtain ⟨a_8, b_9⟩ := a_6
    obtain ⟨a_10, b_11⟩ := a_8
    obtain ⟨a_12, b_13⟩ := a_10
    obtain ⟨a_14, b_15⟩ := b_11
    obtain ⟨fa1_12, sv1_13, e_16⟩ := b_7
    obtain ⟨a_17, b_18⟩ := e_16
    obtain ⟨a_19, b_20⟩ := a_17
    obtain ⟨f1_18, e_21⟩ := b_18
    obtain ⟨a_22, b_23⟩ := e_21
    obtain ⟨f1_28, su1_29, e_24⟩ := b_23
    obtain ⟨a_25, b_26⟩ := e_24
    obtain ⟨r_38, men1_41, f1_42, su1_43, e_27⟩ := b_26
    obtain ⟨a_28, b_29⟩ := e_27
    rcases b_29 with o_30 | o_31
    · obtain ⟨a_32, b_33⟩ := o_30
      obtain ⟨f1_56, su1_57, e_34⟩ := b_33
      obtain ⟨a_35, b_36⟩ := e_34
      obtain ⟨a_37, b_38⟩ := a_35
      obtain ⟨a_39, b_40⟩ := b_36
      obtain ⟨a_41, b_42⟩ := b_40
      obtain ⟨a_43, b_44⟩ := b_42
      obtain ⟨a_45, b_46⟩ := b_44
      obtain ⟨a_47, b_48⟩ := b_46
      obtain ⟨a_49, b_50⟩ := b_48
      rw [a_45, a_49]; exact (fl_Zf (fl_Zf Z a_19 b_20) a_37 b_38)
    · obtain ⟨a_51, b_52⟩ := o_31
      obtain ⟨f1_65, su1_66, e_53⟩ := b_52
      obtain ⟨a_54, b_55⟩ := e_53
      obtain ⟨a_56, b_57⟩ := a_54
      obtain ⟨a_58, b_59⟩ := b_55
      obtain ⟨a_60, b_61⟩ := b_59
      obtain ⟨a_62, b_63⟩ := b_61
      obtain ⟨a_64, b_65⟩ := b_63
      obtain ⟨a_66, b_67⟩ := b_65
      obtain ⟨a_68, b_69⟩ := b_67
      rw [a_64, a_68]; exact (fl_Zf (fl_Zf Z a_19 b_20) a_56 b_57)
  · obtain ⟨a_70, b_71⟩ := o_5
    obtain ⟨a_72, b_73⟩ := a_70
    obtain ⟨a_74, b_75⟩ := b_71
    obtain ⟨a_76, b_77⟩ := b_75
    obtain ⟨a_78, b_79⟩ := b_77
    obtain ⟨a_80, b_81⟩ := b_79
    obtain ⟨a_82, b_83⟩ := b_81
    obtain ⟨a_84, b_85⟩ := b_83
    rw [a_80, a_84]; exact Z
theorem zq_safeCurrent {tt : Prop} {W : fw_W} {x : Nat → fw_C} {men : Int32} {f : Nat → Int32} {G : Nat → Int32} {fa : Nat → Int32} {su : Nat → Int64} {sv : Nat → Int64} {p1 : Int32} {p2 : Int32} {r : Int32} {men1 : Int32} {th1 : Int32} {f1 : Nat → Int32} {fa1 : Nat → Int32} {su1 : Nat → Int64} {sv1 : Nat → Int64} (Z : fl_Z tt f su W x) (m : q_X11_safeCurrent men f G fa su sv p1 p2 r men1 th1 f1 fa1 su1 sv1) : fl_Z tt f1 su1 W x := by
  obtain ⟨th1_4, e_1⟩ := m
  obtain ⟨a_2, b_3⟩ := e_1
  rcases b_3 with o_4 | o_5
  · obtain ⟨a_6, b_7⟩ := o_4
    obtain ⟨a_8, b_9⟩ := a_6
    obtain ⟨a_10, b_11⟩ := a_8
    rcases b_7 with o_12 | o_13
    · obtain ⟨a_14, b_15⟩ := o_12
      obtain ⟨th1_16, e_16⟩ := b_15
      obtain ⟨a_17, b_18⟩ := e_16
      obtain ⟨a_19, b_20⟩ := b_18
      obtain ⟨a_21, b_22⟩ := a_19
      obtain ⟨y_21, y_22, f_23, g_24, g_25, g_26, e_23⟩ := b_20
      obtain ⟨a_24, b_25⟩ := e_23
      obtain ⟨a_26, b_27⟩ := a_24
      obtain ⟨a_28, b_29⟩ := b_27
      rcases b_25 with o_30 | o_31
      · obtain ⟨a_32, b_33⟩ := o_30
        obtain ⟨a_34, b_35⟩ := b_33
        obtain ⟨a_36, b_37⟩ := b_35
        obtain ⟨a_38, b_39⟩ := b_37
        obtain ⟨a_40, b_41⟩ := b_39
        obtain ⟨a_42, b_43⟩ := b_41
        obtain ⟨a_44, b_45⟩ := b_43
        rw [a_40, a_44]; exact (fl_Zf Z a_28 b_29)
      · obtain ⟨a_46, b_47⟩ := o_31
        obtain ⟨r_28, men1_31, f1_32, fa1_33, su1_34, sv1_35, e_48⟩ := b_47
        obtain ⟨a_49, b_50⟩ := e_48
        obtain ⟨a_51, b_52⟩ := b_50
        obtain ⟨a_53, b_54⟩ := b_52
        obtain ⟨a_55, b_56⟩ := b_54
        obtain ⟨a_57, b_58⟩ := b_56
        obtain ⟨a_59, b_60⟩ := b_58
        obtain ⟨a_61, b_62⟩ := b_60
        obtain ⟨a_63, b_64⟩ := b_62
        rw [a_59, a_63]; exact (fl_Zi (fl_Zf Z a_28 b_29) a_49)
    · obtain ⟨a_65, b_66⟩ := o_13
      obtain ⟨th1_48, e_67⟩ := b_66
      obtain ⟨a_68, b_69⟩ := e_67
      obtain ⟨a_70, b_71⟩ := b_69
      obtain ⟨a_72, b_73⟩ := a_70
      obtain ⟨a_74, b_75⟩ := b_71
      obtain ⟨a_76, b_77⟩ := b_75
      obtain ⟨a_78, b_79⟩ := b_77
      obtain ⟨a_80, b_81⟩ := b_79
      obtain ⟨a_82, b_83⟩ := b_81
      obtain ⟨a_84, b_85⟩ := b_83
      rw [a_80, a_84]; exact Z
  · obtain ⟨a_86, b_87⟩ := o_5
    obtain ⟨a_88, b_89⟩ := a_86
    obtain ⟨a_90, b_91⟩ := b_87
    obtain ⟨a_92, b_93⟩ := b_91
    obtain ⟨a_94, b_95⟩ := b_93
    obtain ⟨a_96, b_97⟩ := b_95
    obtain ⟨a_98, b_99⟩ := b_97
    obtain ⟨a_100, b_101⟩ := b_99
    rw [a_96, a_100]; exact Z
