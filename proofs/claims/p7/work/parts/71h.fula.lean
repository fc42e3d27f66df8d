/-! predictions leave all as it was -/
theorem fl_Zu {tt : Prop} {W : fw_W} {x : Nat → fw_C} {f : Nat → Int32} {G : Nat → Int32} {su : Nat → Int64} {p1 : Int32} {p2 : Int32} {r : Int32} {men1 : Int32} {f1 : Nat → Int32} {fa1 : Nat → Int32} {su1 : Nat → Int64} {sv1 : Nat → Int64} (Z : fl_Z tt f su W x) (m : q_X11_untilAside f G su p1 p2 r men1 f1 fa1 su1 sv1) : fl_Z tt f1 su1 W x := by
  obtain ⟨fa1_4, sv1_5, e_1⟩ := m
  obtain ⟨a_2, b_3⟩ := e_1
  obtain ⟨a_4, b_5⟩ := a_2
  obtain ⟨r_7, men1_10, f1_11, su1_12, e_6⟩ := b_3
  obtain ⟨a_7, b_8⟩ := e_6
  obtain ⟨f1_21, su1_22, e_9⟩ := b_8
  obtain ⟨a_10, b_11⟩ := e_9
  obtain ⟨a_12, b_13⟩ := a_10
  obtain ⟨a_14, b_15⟩ := b_11
  obtain ⟨a_16, b_17⟩ := b_15
  obtain ⟨a_18, b_19⟩ := b_17
  obtain ⟨a_20, b_21⟩ := b_19
  obtain ⟨a_22, b_23⟩ := b_21
  rw [a_18, a_22]; exact (fl_Zf (fl_Zf Z a_4 b_5) a_12 b_13)
theorem fl_Zd {tt : Prop} {W : fw_W} {x : Nat → fw_C} {f : Nat → Int32} {G : Nat → Int32} {su : Nat → Int64} {p1 : Int32} {p2 : Int32} {r : Int32} {men1 : Int32} {f1 : Nat → Int32} {fa1 : Nat → Int32} {su1 : Nat → Int64} {sv1 : Nat → Int64} (Z : fl_Z tt f su W x) (m : q_X11_durationOf f G su p1 p2 r men1 f1 fa1 su1 sv1) : fl_Z tt f1 su1 W x := by
  obtain ⟨fa1_4, sv1_5, e_1⟩ := m
  obtain ⟨a_2, b_3⟩ := e_1
  obtain ⟨a_4, b_5⟩ := a_2
  obtain ⟨f1_10, e_6⟩ := b_3
  obtain ⟨a_7, b_8⟩ := e_6
  obtain ⟨f1_20, su1_21, e_9⟩ := b_8
  obtain ⟨a_10, b_11⟩ := e_9
  obtain ⟨r_30, men1_33, f1_34, su1_35, e_12⟩ := b_11
  obtain ⟨a_13, b_14⟩ := e_12
  obtain ⟨f1_44, su1_45, e_15⟩ := b_14
  obtain ⟨a_16, b_17⟩ := e_15
  obtain ⟨a_18, b_19⟩ := a_16
  obtain ⟨a_20, b_21⟩ := b_17
  obtain ⟨a_22, b_23⟩ := b_21
  obtain ⟨a_24, b_25⟩ := b_23
  obtain ⟨a_26, b_27⟩ := b_25
  obtain ⟨a_28, b_29⟩ := b_27
  rw [a_24, a_28]; exact (fl_Zf (fl_Zf Z a_4 b_5) a_18 b_19)
theorem fl_Zi {tt : Prop} {W : fw_W} {x : Nat → fw_C} {f : Nat → Int32} {su : Nat → Int64} {p3 : Int32} {r : Int32} {men1 : Int32} {f1 : Nat → Int32} {fa1 : Nat → Int32} {su1 : Nat → Int64} {sv1 : Nat → Int64} (Z : fl_Z tt f su W x) (m : q_X11_isSafe f su p3 r men1 f1 fa1 su1 sv1) : fl_Z tt f1 su1 W x := by
  obtain ⟨fa1_4, sv1_5, e_1⟩ := m
  obtain ⟨a_2, b_3⟩ := e_1
  obtain ⟨a_4, b_5⟩ := a_2
  obtain ⟨y_7, y_8, f_9, g_10, e_6⟩ := b_3
  obtain ⟨a_7, b_8⟩ := e_6
  rcases a_7 with o_9 | o_10
  · rcases b_8 with o_11 | o_12
    · obtain ⟨a_13, b_14⟩ := o_11
      obtain ⟨f1_15, su1_16, e_15⟩ := b_14
      obtain ⟨a_16, b_17⟩ := e_15
      obtain ⟨a_18, b_19⟩ := a_16
      obtain ⟨a_20, b_21⟩ := b_17
      obtain ⟨a_22, b_23⟩ := b_21
      obtain ⟨a_24, b_25⟩ := b_23
      obtain ⟨a_26, b_27⟩ := b_25
      obtain ⟨a_28, b_29⟩ := b_27
      rw [a_24, a_28]; exact (fl_Zf (fl_Zf Z a_4 b_5) a_18 b_19)
    · obtain ⟨a_30, b_31⟩ := o_12
      obtain ⟨a_32, b_33⟩ := b_31
      obtain ⟨f1_25, su1_26, e_34⟩ := b_33
      obtain ⟨a_35, b_36⟩ := e_34
      obtain ⟨a_37, b_38⟩ := a_35
      obtain ⟨a_39, b_40⟩ := b_36
      obtain ⟨a_41, b_42⟩ := b_40
      obtain ⟨a_43, b_44⟩ := b_42
      obtain ⟨a_45, b_46⟩ := b_44
      obtain ⟨a_47, b_48⟩ := b_46
      rw [a_43, a_47]; exact (fl_Zf (fl_Zf Z a_4 b_5) a_37 b_38)
  · rcases b_8 with o_49 | o_50
    · obtain ⟨a_51, b_52⟩ := o_49
      obtain ⟨f1_15, su1_16, e_53⟩ := b_52
      obtain ⟨a_54, b_55⟩ := e_53
      obtain ⟨a_56, b_57⟩ := a_54
      obtain ⟨a_58, b_59⟩ := b_55
      obtain ⟨a_60, b_61⟩ := b_59
      obtain ⟨a_62, b_63⟩ := b_61
      obtain ⟨a_64, b_65⟩ := b_63
      obtain ⟨a_66, b_67⟩ := b_65
      rw [a_62, a_66]; exact (fl_Zf (fl_Zf Z a_4 b_5) a_56 b_57)
    · obtain ⟨a_68, b_69⟩ := o_50
      obtain ⟨a_70, b_71⟩ := b_69
      obtain ⟨f1_25, su1_26, e_72⟩ := b_71
      obtain ⟨a_73, b_74⟩ := e_72
      obtain ⟨a_75, b_76⟩ := a_73
      obtain ⟨a_77, b_78⟩ := b_74
      obtain ⟨a_79, b_80⟩ := b_78
      obtain ⟨a_81, b_82⟩ := b_80
      obtain ⟨a_83, b_84⟩ := b_82
      obtain ⟨a_85, b_86⟩ := b_84
      rw [a_81, a_85]; exact (fl_Zf (fl_Zf Z a_4 b_5) a_75 b_76)
theorem zq_stepEndsIn {tt : Prop} {W : fw_W} {x : Nat → fw_C} {men : Int32} {f : Nat → Int32} {G : Nat → Int32} {fa : Nat → Int32} {su : Nat → Int64} {sv : Nat → Int64} {p1 : Int32} {r : Int32} {men1 : Int32} {th1 : Int32} {f1 : Nat → Int32} {fa1 : Nat → Int32} {su1 : Nat → Int64} {sv1 : Nat → Int64} (Z : fl_Z tt f su W x) (m : q_X11_stepEndsIn men f G fa su sv p1 r men1 th1 f1 fa1 su1 sv1) : fl_Z tt f1 su1 W x := by
  obtain ⟨th1_4, e_1⟩ := m
  obtain ⟨a_2, b_3⟩ := e_1
  rcases b_3 with o_4 | o_5
  · obtain ⟨a_6, b_7⟩ := o_4
    obtain ⟨a_8, b_9⟩ := a_6
    obtain ⟨a_10, b_11⟩ := a_8
    rcases b_7 with o_12 | o_13
    · obtain ⟨a_14, b_15⟩ := o_12
      obtain ⟨a_16, b_17⟩ := b_15
      obtain ⟨a_18, b_19⟩ := b_17
      obtain ⟨a_20, b_21⟩ := b_19
      obtain ⟨a_22, b_23⟩ := b_21
      obtain ⟨a_24, b_25⟩ := b_23
      obtain ⟨a_26, b_27⟩ := b_25
      rw [a_22, a_26]; exact Z
    · obtain ⟨a_28, b_29⟩ := o_13
      obtain ⟨fa1_18, sv1_19, e_30⟩ := b_29
      obtain ⟨a_31, b_32⟩ := e_30
      obtain ⟨a_33, b_34⟩ := a_31
      obtain ⟨y_21, y_22, f_23, g_24, e_35⟩ := b_32
      obtain ⟨a_36, b_37⟩ := e_35
      obtain ⟨a_38, b_39⟩ := a_36
      obtain ⟨a_40, b_41⟩ := a_38
      rcases b_37 with o_42 | o_43
      · obtain ⟨a_44, b_45⟩ := o_42
        rcases b_45 with o_46 | o_47
        · obtain ⟨a_48, b_49⟩ := o_46
          obtain ⟨f1_30, su1_31, e_50⟩ := b_49
          obtain ⟨a_51, b_52⟩ := e_50
          obtain ⟨a_53, b_54⟩ := a_51
          obtain ⟨a_55, b_56⟩ := b_52
          obtain ⟨a_57, b_58⟩ := b_56
          obtain ⟨a_59, b_60⟩ := b_58
          obtain ⟨a_61, b_62⟩ := b_60
          obtain ⟨a_63, b_64⟩ := b_62
          obtain ⟨a_65, b_66⟩ := b_64
          rw [a_61, a_65]; exact (fl_Zf (fl_Zf Z a_33 b_34) a_53 b_54)
        · obtain ⟨a_67, b_68⟩ := o_47
          obtain ⟨f1_39, su1_40, e_69⟩ := b_68
          obtain ⟨a_70, b_71⟩ := e_69
          obtain ⟨a_72, b_73⟩ := a_70
          obtain ⟨a_74, b_75⟩ := b_71
          obtain ⟨a_76, b_77⟩ := b_75
          obtain ⟨a_78, b_79⟩ := b_77
          obtain ⟨a_80, b_81⟩ := b_79
          obtain ⟨a_82, b_83⟩ := b_81
          obtain ⟨a_84, b_85⟩ := b_83
          rw [a_80, a_84]; exact (fl_Zf (fl_Zf Z a_33 b_34) a_72 b_73)
      · obtain ⟨a_86, b_87⟩ := o_43
        rcases b_87 with o_88 | o_89
        · obtain ⟨a_90, b_91⟩ := o_88
          rcases b_91 with o_92 | o_93
          · obtain ⟨a_94, b_95⟩ := o_92
            obtain ⟨f1_55, su1_56, e_96⟩ := b_95
            obtain ⟨a_97, b_98⟩ := e_96
            obtain ⟨a_99, b_100⟩ := a_97
            obtain ⟨a_101, b_102⟩ := b_98
            obtain ⟨a_103, b_104⟩ := b_102
            obtain ⟨a_105, b_106⟩ := b_104
            obtain ⟨a_107, b_108⟩ := b_106
            obtain ⟨a_109, b_110⟩ := b_108
            obtain ⟨a_111, b_112⟩ := b_110
            rw [a_107, a_111]; exact (fl_Zf (fl_Zf Z a_33 b_34) a_99 b_100)
          · obtain ⟨a_113, b_114⟩ := o_93
            obtain ⟨f1_64, su1_65, e_115⟩ := b_114
            obtain ⟨a_116, b_117⟩ := e_115
            obtain ⟨a_118, b_119⟩ := a_116
            obtain ⟨a_120, b_121⟩ := b_117
            obtain ⟨a_122, b_123⟩ := b_121
            obtain ⟨a_124, b_125⟩ := b_123
            obtain ⟨a_126, b_127⟩ := b_125
            obtain ⟨a_128, b_129⟩ := b_127
            obtain ⟨a_130, b_131⟩ := b_129
            rw [a_126, a_130]; exact (fl_Zf (fl_Zf Z a_33 b_34) a_118 b_119)
        · obtain ⟨a_132, b_133⟩ := o_89
          obtain ⟨a_134, b_135⟩ := b_133
          rcases b_135 with o_136 | o_137
          · obtain ⟨a_138, b_139⟩ := o_136
            obtain ⟨f1_75, su1_76, e_140⟩ := b_139
            obtain ⟨a_141, b_142⟩ := e_140
            obtain ⟨a_143, b_144⟩ := a_141
            obtain ⟨a_145, b_146⟩ := b_142
            obtain ⟨a_147, b_148⟩ := b_146
            obtain ⟨a_149, b_150⟩ := b_148
            obtain ⟨a_151, b_152⟩ := b_150
            obtain ⟨a_153, b_154⟩ := b_152
            obtain ⟨a_155, b_156⟩ := b_154
            rw [a_151, a_155]; exact (fl_Zf (fl_Zf Z a_33 b_34) a_143 b_144)
          · obtain ⟨a_157, b_158⟩ := o_137
            obtain ⟨f1_84, su1_85, e_159⟩ := b_158
            obtain ⟨a_160, b_161⟩ := e_159
            obtain ⟨a_162, b_163⟩ := a_160
            obtain ⟨a_164, b_165⟩ := b_161
            obtain ⟨a_166, b_167⟩ := b_165
            obtain ⟨a_168, b_169⟩ := b_167
            obtain ⟨a_170, b_171⟩ := b_169
            obtain ⟨a_172, b_173⟩ := b_171
            obtain ⟨a_174, b_175⟩ := b_173
            rw [a_170, a_174]; exact (fl_Zf (fl_Zf Z a_33 b_34) a_162 b_163)
  · obtain ⟨a_176, b_177⟩ := o_5
    obtain ⟨a_178, b_179⟩ := a_176
    obtain ⟨a_180, b_181⟩ := b_177
    obtain ⟨a_182, b_183⟩ := b_181
    obtain ⟨a_184, b_185⟩ := b_183
    obtain ⟨a_186, b_187⟩ := b_185
    obtain ⟨a_188, b_189⟩ := b_187
    obtain ⟨a_190, b_191⟩ := b_189
    rw [a_186, a_190]; exact Z
