noncomputable abbrev wd_0 : Cond := Cond.code yX4_init cX4_init 4 none
noncomputable abbrev wd_1 : Cond := Cond.methodLink RX4 1 objectInit
noncomputable abbrev wd_2 : Cond := Cond.instanceMethod objectInit
noncomputable abbrev wd_3 : Cond := Cond.code objectInit ⟨#[0xb1]⟩ 1 none
noncomputable abbrev wd_4 : Cond := Cond.fieldLink RX4 7 "NineMowers$Mower" "kind" "I"
noncomputable abbrev wd_5 : Cond := Cond.fieldLink RX4 13 "NineMowers$Mower" "number" "I"
noncomputable abbrev wd_6 : Cond := Cond.fieldLink RX4 16 "NineMowers$Mower" "v" "I"
noncomputable def wsX4_init : List Cond := wd_0 :: ([wd_1, wd_2, wd_3, wd_4, wd_5, wd_6] ++ wsX00 ++ wsX30 ++ wsX40 ++ wsX60 ++ wsX70 ++ wsX80 ++ wsX100)
noncomputable abbrev wd_7 : Cond := Cond.code yX0_init cX0_init 4 none
noncomputable abbrev wd_8 : Cond := Cond.methodLink RX0 1 yX4_init
noncomputable abbrev wd_9 : Cond := Cond.instanceMethod yX4_init
noncomputable abbrev wd_10 : Cond := Cond.initialized RX4
noncomputable def wsX0_init : List Cond := wd_7 :: ([wd_8, wd_9, wd_10, wd_0, wd_1, wd_2, wd_3, wd_4, wd_5, wd_6] ++ wsX00 ++ wsX30 ++ wsX40 ++ wsX60 ++ wsX70 ++ wsX80 ++ wsX100)
noncomputable abbrev wd_11 : Cond := Cond.code yX4_strides cX4_strides 5 (some .int)
noncomputable abbrev wd_12 : Cond := Cond.fieldLink RX4 19 "NineMowers$Course" "tired" "[I"
noncomputable def wsX4_strides : List Cond := wd_11 :: ([wd_12, wd_5] ++ wsX10 ++ wsX00 ++ wsX30 ++ wsX40 ++ wsX60 ++ wsX70 ++ wsX80 ++ wsX100)
noncomputable abbrev wd_13 : Cond := Cond.code yX0_strides cX0_strides 4 (some .int)
noncomputable abbrev wd_14 : Cond := Cond.methodLink RX0 7 yX4_strides
noncomputable abbrev wd_15 : Cond := Cond.sameMethod "NineMowers$Mower" "NineMowers$Mower" "strides" "(ILNineMowers$Course;I)I"
noncomputable abbrev wd_16 : Cond := Cond.superclass RX0 RX4
noncomputable abbrev wd_17 : Cond := Cond.instanceMethod yX4_strides
noncomputable def wsX0_strides : List Cond := wd_13 :: ([wd_14, wd_15, wd_16, wd_17, wd_10, wd_11, wd_12, wd_5] ++ wsX10 ++ wsX00 ++ wsX30 ++ wsX40 ++ wsX60 ++ wsX70 ++ wsX80 ++ wsX100)
noncomputable abbrev wd_18 : Cond := Cond.code yX5_comes cX5_comes 2 none
noncomputable abbrev wd_19 : Cond := Cond.fieldLink RX5 7 "NineMowers$Numbers" "size" "I"
noncomputable abbrev wd_20 : Cond := Cond.fieldLink RX5 13 "NineMowers$Numbers" "kept" "[I"
noncomputable def wsX5_comes : List Cond := wd_18 :: ([wd_19, wd_20] ++ wsX50)
noncomputable abbrev wd_21 : Cond := Cond.code yX4_mowing cX4_mowing 3 (some .int)
noncomputable abbrev wd_22 : Cond := Cond.methodLink RX4 25 yX5_comes
noncomputable abbrev wd_23 : Cond := Cond.instanceMethod yX5_comes
noncomputable abbrev wd_24 : Cond := Cond.selects RX5 yX5_comes yX5_comes
noncomputable abbrev wd_25 : Cond := Cond.initialized RX5
noncomputable def wsX4_mowing : List Cond := wd_21 :: ([wd_5, wd_22, wd_23, wd_24, wd_25, wd_18, wd_19, wd_20] ++ wsX00 ++ wsX30 ++ wsX40 ++ wsX60 ++ wsX70 ++ wsX80 ++ wsX100 ++ wsX50)
noncomputable abbrev wd_26 : Cond := Cond.code yX3_mowing cX3_mowing 3 (some .int)
noncomputable abbrev wd_27 : Cond := Cond.methodLink RX3 26 yX5_comes
noncomputable abbrev wd_28 : Cond := Cond.methodLink RX3 32 yX4_mowing
noncomputable abbrev wd_29 : Cond := Cond.sameMethod "NineMowers$Mower" "NineMowers$Mower" "mowing" "(ILNineMowers$Numbers;)I"
noncomputable abbrev wd_30 : Cond := Cond.superclass RX3 RX4
noncomputable abbrev wd_31 : Cond := Cond.instanceMethod yX4_mowing
noncomputable def wsX3_mowing : List Cond := wd_26 :: ([wd_27, wd_23, wd_24, wd_25, wd_18, wd_19, wd_20, wd_28, wd_29, wd_30, wd_31, wd_10, wd_21, wd_5, wd_22] ++ wsX50 ++ wsX00 ++ wsX30 ++ wsX40 ++ wsX60 ++ wsX70 ++ wsX80 ++ wsX100)
noncomputable abbrev wd_32 : Cond := Cond.code yX6_mowing cX6_mowing 3 (some .int)
noncomputable abbrev wd_33 : Cond := Cond.methodLink RX6 17 yX5_comes
noncomputable def wsX6_mowing : List Cond := wd_32 :: ([wd_33, wd_23, wd_24, wd_25, wd_18, wd_19, wd_20] ++ wsX50)
noncomputable abbrev wd_34 : Cond := Cond.code yX10_mowing cX10_mowing 3 (some .int)
noncomputable abbrev wd_35 : Cond := Cond.fieldLink RX10 39 "NineMowers$Told" "v" "I"
noncomputable abbrev wd_36 : Cond := Cond.sameField "NineMowers$Told" "NineMowers$Mower" "v" "I"
noncomputable abbrev wd_37 : Cond := Cond.methodLink RX10 26 yX5_comes
noncomputable def wsX10_mowing : List Cond := wd_34 :: ([wd_35, wd_36, wd_37, wd_23, wd_24, wd_25, wd_18, wd_19, wd_20] ++ wsX00 ++ wsX30 ++ wsX40 ++ wsX60 ++ wsX70 ++ wsX80 ++ wsX100 ++ wsX50)
noncomputable abbrev wd_38 : Cond := Cond.methodLink RX4 31 ⟨"NineMowers$Mower", "mowing", "(ILNineMowers$Numbers;)I"⟩
noncomputable abbrev wd_39 : Cond := Cond.selects RX0 ⟨"NineMowers$Mower", "mowing", "(ILNineMowers$Numbers;)I"⟩ yX4_mowing
noncomputable abbrev wd_40 : Cond := Cond.instanceMethod ⟨"NineMowers$Mower", "mowing", "(ILNineMowers$Numbers;)I"⟩
noncomputable abbrev wd_41 : Cond := Cond.selects RX3 ⟨"NineMowers$Mower", "mowing", "(ILNineMowers$Numbers;)I"⟩ yX3_mowing
noncomputable abbrev wd_42 : Cond := Cond.instanceMethod yX3_mowing
noncomputable abbrev wd_43 : Cond := Cond.initialized RX3
noncomputable abbrev wd_44 : Cond := Cond.methodLink RX4 31 yX4_mowing
noncomputable def wsX4_whetting_r1 : List Cond := [wd_6, wd_22, wd_23, wd_24, wd_25, wd_18, wd_19, wd_20, wd_38, wd_29, wd_39, wd_31, wd_10, wd_21, wd_5, wd_40, wd_41, wd_42, wd_43, wd_26, wd_27, wd_28, wd_30, wd_44]
noncomputable abbrev wd_45 : Cond := Cond.selects RX4 yX4_mowing yX4_mowing
noncomputable abbrev wd_46 : Cond := Cond.selects RX6 ⟨"NineMowers$Mower", "mowing", "(ILNineMowers$Numbers;)I"⟩ yX6_mowing
noncomputable abbrev wd_47 : Cond := Cond.instanceMethod yX6_mowing
noncomputable abbrev wd_48 : Cond := Cond.initialized RX6
noncomputable abbrev wd_49 : Cond := Cond.selects RX7 ⟨"NineMowers$Mower", "mowing", "(ILNineMowers$Numbers;)I"⟩ yX3_mowing
noncomputable abbrev wd_50 : Cond := Cond.selects RX8 ⟨"NineMowers$Mower", "mowing", "(ILNineMowers$Numbers;)I"⟩ yX4_mowing
noncomputable abbrev wd_51 : Cond := Cond.selects RX10 ⟨"NineMowers$Mower", "mowing", "(ILNineMowers$Numbers;)I"⟩ yX10_mowing
noncomputable abbrev wd_52 : Cond := Cond.instanceMethod yX10_mowing
noncomputable abbrev wd_53 : Cond := Cond.initialized RX10
noncomputable def wsX4_whetting_r2 : List Cond := [wd_45, wd_46, wd_47, wd_48, wd_32, wd_33, wd_49, wd_50, wd_51, wd_52, wd_53, wd_34, wd_35, wd_36, wd_37]
noncomputable abbrev wd_54 : Cond := Cond.code yX4_whetting cX4_whetting 3 (some .int)
noncomputable def wsX4_whetting : List Cond := wd_54 :: ((wsX4_whetting_r1 ++ wsX4_whetting_r2) ++ wsX00 ++ wsX30 ++ wsX40 ++ wsX60 ++ wsX70 ++ wsX80 ++ wsX100 ++ wsX50)
noncomputable abbrev wd_55 : Cond := Cond.methodLink RX8 7 yX5_comes
noncomputable abbrev wd_56 : Cond := Cond.methodLink RX8 13 yX4_whetting
noncomputable abbrev wd_57 : Cond := Cond.sameMethod "NineMowers$Mower" "NineMowers$Mower" "whetting" "(ILNineMowers$Numbers;)I"
noncomputable abbrev wd_58 : Cond := Cond.superclass RX8 RX4
noncomputable abbrev wd_59 : Cond := Cond.instanceMethod yX4_whetting
noncomputable def wsX8_whetting_r1 : List Cond := [wd_55, wd_23, wd_24, wd_25, wd_18, wd_19, wd_20, wd_56, wd_57, wd_58, wd_59, wd_10, wd_54, wd_6, wd_22, wd_38, wd_29, wd_39, wd_31, wd_21, wd_5, wd_40, wd_41, wd_42]
noncomputable def wsX8_whetting_r2 : List Cond := [wd_43, wd_26, wd_27, wd_28, wd_30, wd_44, wd_45, wd_46, wd_47, wd_48, wd_32, wd_33, wd_49, wd_50, wd_51, wd_52, wd_53, wd_34, wd_35, wd_36, wd_37]
noncomputable abbrev wd_60 : Cond := Cond.code yX8_whetting cX8_whetting 3 (some .int)
noncomputable def wsX8_whetting : List Cond := wd_60 :: ((wsX8_whetting_r1 ++ wsX8_whetting_r2) ++ wsX50 ++ wsX00 ++ wsX30 ++ wsX40 ++ wsX60 ++ wsX70 ++ wsX80 ++ wsX100)
noncomputable abbrev wd_61 : Cond := Cond.methodLink RX6 27 yX8_whetting
noncomputable abbrev wd_62 : Cond := Cond.sameMethod "NineMowers$Steady" "NineMowers$Steady" "whetting" "(ILNineMowers$Numbers;)I"
noncomputable abbrev wd_63 : Cond := Cond.superclass RX6 RX8
noncomputable abbrev wd_64 : Cond := Cond.instanceMethod yX8_whetting
noncomputable abbrev wd_65 : Cond := Cond.initialized RX8
noncomputable def wsX6_whetting_r1 : List Cond := [wd_33, wd_23, wd_24, wd_25, wd_18, wd_19, wd_20, wd_61, wd_62, wd_63, wd_64, wd_65, wd_60, wd_55, wd_56, wd_57, wd_58, wd_59, wd_10, wd_54, wd_6, wd_22, wd_38, wd_29]
noncomputable def wsX6_whetting_r2 : List Cond := [wd_39, wd_31, wd_21, wd_5, wd_40, wd_41, wd_42, wd_43, wd_26, wd_27, wd_28, wd_30, wd_44, wd_45, wd_46, wd_47, wd_48, wd_32, wd_49, wd_50, wd_51, wd_52, wd_53, wd_34]
noncomputable def wsX6_whetting_r3 : List Cond := [wd_35, wd_36, wd_37]
noncomputable abbrev wd_66 : Cond := Cond.code yX6_whetting cX6_whetting 3 (some .int)
noncomputable def wsX6_whetting : List Cond := wd_66 :: ((wsX6_whetting_r1 ++ (wsX6_whetting_r2 ++ wsX6_whetting_r3)) ++ wsX50 ++ wsX00 ++ wsX30 ++ wsX40 ++ wsX60 ++ wsX70 ++ wsX80 ++ wsX100)
noncomputable abbrev wd_67 : Cond := Cond.code yX10_whetting cX10_whetting 3 (some .int)
noncomputable def wsX10_whetting : List Cond := wd_67 :: ([wd_37, wd_23, wd_24, wd_25, wd_18, wd_19, wd_20] ++ wsX50)
noncomputable abbrev wd_68 : Cond := Cond.methodLink RX4 35 ⟨"NineMowers$Mower", "whetting", "(ILNineMowers$Numbers;)I"⟩
noncomputable abbrev wd_69 : Cond := Cond.selects RX0 ⟨"NineMowers$Mower", "whetting", "(ILNineMowers$Numbers;)I"⟩ yX4_whetting
noncomputable def wsX4_telling_r1 : List Cond := [wd_22, wd_23, wd_24, wd_25, wd_18, wd_19, wd_20, wd_68, wd_57, wd_69, wd_59, wd_10, wd_54, wd_6, wd_38, wd_29, wd_39, wd_31, wd_21, wd_5, wd_40, wd_41, wd_42, wd_43]
noncomputable abbrev wd_70 : Cond := Cond.selects RX3 ⟨"NineMowers$Mower", "whetting", "(ILNineMowers$Numbers;)I"⟩ yX4_whetting
noncomputable abbrev wd_71 : Cond := Cond.methodLink RX4 35 yX4_whetting
noncomputable abbrev wd_72 : Cond := Cond.selects RX4 yX4_whetting yX4_whetting
noncomputable abbrev wd_73 : Cond := Cond.instanceMethod ⟨"NineMowers$Mower", "whetting", "(ILNineMowers$Numbers;)I"⟩
noncomputable def wsX4_telling_r2 : List Cond := [wd_26, wd_27, wd_28, wd_30, wd_44, wd_45, wd_46, wd_47, wd_48, wd_32, wd_33, wd_49, wd_50, wd_51, wd_52, wd_53, wd_34, wd_35, wd_36, wd_37, wd_70, wd_71, wd_72, wd_73]
noncomputable abbrev wd_74 : Cond := Cond.selects RX6 ⟨"NineMowers$Mower", "whetting", "(ILNineMowers$Numbers;)I"⟩ yX6_whetting
noncomputable abbrev wd_75 : Cond := Cond.instanceMethod yX6_whetting
noncomputable abbrev wd_76 : Cond := Cond.selects RX7 ⟨"NineMowers$Mower", "whetting", "(ILNineMowers$Numbers;)I"⟩ yX4_whetting
noncomputable abbrev wd_77 : Cond := Cond.selects RX8 ⟨"NineMowers$Mower", "whetting", "(ILNineMowers$Numbers;)I"⟩ yX8_whetting
noncomputable abbrev wd_78 : Cond := Cond.selects RX10 ⟨"NineMowers$Mower", "whetting", "(ILNineMowers$Numbers;)I"⟩ yX10_whetting
noncomputable abbrev wd_79 : Cond := Cond.instanceMethod yX10_whetting
noncomputable def wsX4_telling_r3 : List Cond := [wd_74, wd_75, wd_66, wd_61, wd_62, wd_63, wd_64, wd_65, wd_60, wd_55, wd_56, wd_58, wd_76, wd_77, wd_78, wd_79, wd_67]
noncomputable abbrev wd_80 : Cond := Cond.code yX4_telling cX4_telling 3 (some .int)
noncomputable def wsX4_telling : List Cond := wd_80 :: ((wsX4_telling_r1 ++ (wsX4_telling_r2 ++ wsX4_telling_r3)) ++ wsX50 ++ wsX00 ++ wsX30 ++ wsX40 ++ wsX60 ++ wsX70 ++ wsX80 ++ wsX100)
noncomputable abbrev wd_81 : Cond := Cond.methodLink RX0 11 yX5_comes
noncomputable abbrev wd_82 : Cond := Cond.methodLink RX0 17 yX4_telling
noncomputable abbrev wd_83 : Cond := Cond.sameMethod "NineMowers$Mower" "NineMowers$Mower" "telling" "(ILNineMowers$Numbers;)I"
noncomputable abbrev wd_84 : Cond := Cond.instanceMethod yX4_telling
noncomputable def wsX0_telling_r1 : List Cond := [wd_81, wd_23, wd_24, wd_25, wd_18, wd_19, wd_20, wd_82, wd_83, wd_16, wd_84, wd_10, wd_80, wd_22, wd_68, wd_57, wd_69, wd_59, wd_54, wd_6, wd_38, wd_29, wd_39, wd_31]
noncomputable def wsX0_telling_r2 : List Cond := [wd_21, wd_5, wd_40, wd_41, wd_42, wd_43, wd_26, wd_27, wd_28, wd_30, wd_44, wd_45, wd_46, wd_47, wd_48, wd_32, wd_33, wd_49, wd_50, wd_51, wd_52, wd_53, wd_34, wd_35]
noncomputable abbrev wd_85 : Cond := Cond.methodLink RX0 21 ⟨"NineMowers$Boy", "whetting", "(ILNineMowers$Numbers;)I"⟩
noncomputable def wsX0_telling_r3 : List Cond := [wd_36, wd_37, wd_70, wd_71, wd_72, wd_73, wd_74, wd_75, wd_66, wd_61, wd_62, wd_63, wd_64, wd_65, wd_60, wd_55, wd_56, wd_58, wd_76, wd_77, wd_78, wd_79, wd_67, wd_85]
noncomputable abbrev wd_86 : Cond := Cond.sameMethod "NineMowers$Boy" "NineMowers$Mower" "whetting" "(ILNineMowers$Numbers;)I"
noncomputable abbrev wd_87 : Cond := Cond.selects RX0 ⟨"NineMowers$Boy", "whetting", "(ILNineMowers$Numbers;)I"⟩ yX4_whetting
noncomputable abbrev wd_88 : Cond := Cond.selects RX10 ⟨"NineMowers$Boy", "whetting", "(ILNineMowers$Numbers;)I"⟩ yX10_whetting
noncomputable def wsX0_telling_r4 : List Cond := [wd_86, wd_87, wd_88]
noncomputable abbrev wd_89 : Cond := Cond.code yX0_telling cX0_telling 3 (some .int)
noncomputable def wsX0_telling : List Cond := wd_89 :: ((wsX0_telling_r1 ++ (wsX0_telling_r2 ++ (wsX0_telling_r3 ++ wsX0_telling_r4))) ++ wsX50 ++ wsX00 ++ wsX30 ++ wsX40 ++ wsX60 ++ wsX70 ++ wsX80 ++ wsX100)
noncomputable abbrev wd_90 : Cond := Cond.code yX5_init cX5_init 2 none
noncomputable abbrev wd_91 : Cond := Cond.methodLink RX5 1 objectInit
noncomputable abbrev wd_92 : Cond := Cond.arrayClass .int
noncomputable def wsX5_init : List Cond := wd_90 :: ([wd_91, wd_2, wd_3, wd_19, wd_92, wd_20] ++ wsX50)
noncomputable abbrev wd_93 : Cond := Cond.methodLink RX1 3 objectInit
noncomputable abbrev wd_94 : Cond := Cond.classLink RX1 9 RX4
noncomputable abbrev wd_95 : Cond := Cond.fieldLink RX1 11 "NineMowers$Course" "mowers" "[LNineMowers$Mower;"
noncomputable abbrev wd_96 : Cond := Cond.fieldLink RX1 17 "NineMowers$Course" "count" "I"
noncomputable abbrev wd_97 : Cond := Cond.fieldLink RX1 21 "NineMowers$Course" "line" "[I"
noncomputable abbrev wd_98 : Cond := Cond.fieldLink RX1 25 "NineMowers$Course" "inLine" "I"
noncomputable abbrev wd_99 : Cond := Cond.fieldLink RX1 28 "NineMowers$Course" "at" "[I"
noncomputable abbrev wd_100 : Cond := Cond.fieldLink RX1 31 "NineMowers$Course" "edge" "[I"
noncomputable abbrev wd_101 : Cond := Cond.fieldLink RX1 34 "NineMowers$Course" "tired" "[I"
noncomputable abbrev wd_102 : Cond := Cond.fieldLink RX1 37 "NineMowers$Course" "stopped" "[I"
noncomputable abbrev wd_103 : Cond := Cond.fieldLink RX1 40 "NineMowers$Course" "told" "[I"
noncomputable abbrev wd_104 : Cond := Cond.fieldLink RX1 43 "NineMowers$Course" "minute" "I"
noncomputable abbrev wd_105 : Cond := Cond.fieldLink RX1 46 "NineMowers$Course" "field" "LNineMowers$Field;"
noncomputable abbrev wd_106 : Cond := Cond.fieldLink RX1 50 "NineMowers$Course" "otherGap" "I"
noncomputable abbrev wd_107 : Cond := Cond.classLink RX1 53 RX5
noncomputable abbrev wd_108 : Cond := Cond.instantiable RX5 2
noncomputable abbrev wd_109 : Cond := Cond.fieldLink RX1 58 "NineMowers$Course" "seen" "LNineMowers$Numbers;"
noncomputable abbrev wd_110 : Cond := Cond.fieldLink RX1 62 "NineMowers$Course" "plan" "LNineMowers$Numbers;"
noncomputable abbrev wd_111 : Cond := Cond.fieldLink RX1 65 "NineMowers$Course" "book" "LNineMowers$Numbers;"
noncomputable abbrev wd_112 : Cond := Cond.fieldLink RX1 68 "NineMowers$Course" "strides" "[I"
noncomputable def wsX1_init_r1 : List Cond := [wd_93, wd_2, wd_3, wd_94, wd_95, wd_96, wd_92, wd_97, wd_98, wd_99, wd_100, wd_101, wd_102, wd_103, wd_104, wd_105, wd_106, wd_107, wd_108, wd_25, wd_109, wd_110, wd_111, wd_112]
noncomputable abbrev wd_113 : Cond := Cond.fieldLink RX1 71 "NineMowers$Course" "letters" "[I"
noncomputable abbrev wd_114 : Cond := Cond.methodLink RX1 55 yX5_init
noncomputable abbrev wd_115 : Cond := Cond.instanceMethod yX5_init
noncomputable def wsX1_init_r2 : List Cond := [wd_113, wd_114, wd_115, wd_90, wd_91, wd_19, wd_20]
noncomputable abbrev wd_116 : Cond := Cond.code yX1_init cX1_init 1 none
noncomputable def wsX1_init : List Cond := wd_116 :: ((wsX1_init_r1 ++ wsX1_init_r2) ++ wsX10 ++ wsX50)
noncomputable abbrev wd_117 : Cond := Cond.code yX1_becomes cX1_becomes 3 none
noncomputable abbrev wd_118 : Cond := Cond.methodLink RX1 74 arraycopyName
noncomputable abbrev wd_119 : Cond := Cond.native arraycopyName
noncomputable abbrev wd_120 : Cond := Cond.static arraycopyName
noncomputable abbrev wd_121 : Cond := Cond.initialized "java/lang/System"
noncomputable def wsX1_becomes : List Cond := wd_117 :: ([wd_96, wd_98, wd_104, wd_105, wd_106, wd_95, wd_97, wd_99, wd_100, wd_101, wd_102, wd_103, wd_118, wd_119, wd_120, wd_121] ++ wsX10)
noncomputable abbrev wd_122 : Cond := Cond.code yX5_becomes cX5_becomes 2 none
noncomputable abbrev wd_123 : Cond := Cond.methodLink RX5 17 Lib.Math.min.name
noncomputable abbrev wd_124 : Cond := Cond.static Lib.Math.min.name
noncomputable abbrev wd_125 : Cond := Cond.initialized "java/lang/Math"
noncomputable abbrev wd_126 : Cond := Cond.code Lib.Math.min.name Lib.Math.min.code 2 (some .int)
noncomputable abbrev wd_127 : Cond := Cond.methodLink RX5 23 arraycopyName
noncomputable def wsX5_becomes : List Cond := wd_122 :: ([wd_19, wd_20, wd_123, wd_124, wd_125, wd_126, wd_127, wd_119, wd_120, wd_121] ++ wsX50)
noncomputable abbrev wd_128 : Cond := Cond.code yX1_becomesTold cX1_becomesTold 2 none
noncomputable abbrev wd_129 : Cond := Cond.methodLink RX1 80 yX5_becomes
noncomputable abbrev wd_130 : Cond := Cond.instanceMethod yX5_becomes
noncomputable abbrev wd_131 : Cond := Cond.selects RX5 yX5_becomes yX5_becomes
noncomputable def wsX1_becomesTold : List Cond := wd_128 :: ([wd_109, wd_110, wd_111, wd_129, wd_130, wd_131, wd_25, wd_122, wd_19, wd_20, wd_123, wd_124, wd_125, wd_126, wd_127, wd_119, wd_120, wd_121] ++ wsX10 ++ wsX50)
noncomputable abbrev wd_132 : Cond := Cond.code yX1_comes cX1_comes 3 (some .int)
noncomputable abbrev wd_133 : Cond := Cond.fieldLink RX1 84 "NineMowers$Mower" "number" "I"
noncomputable def wsX1_comes : List Cond := wd_132 :: ([wd_133, wd_95, wd_100, wd_97, wd_96, wd_98] ++ wsX00 ++ wsX30 ++ wsX40 ++ wsX60 ++ wsX70 ++ wsX80 ++ wsX100 ++ wsX10)
noncomputable abbrev wd_134 : Cond := Cond.code yX1_placeOf cX1_placeOf 3 (some .int)
noncomputable def wsX1_placeOf : List Cond := wd_134 :: ([wd_98, wd_97] ++ wsX10)
noncomputable abbrev wd_135 : Cond := Cond.code yX1_moves cX1_moves 5 (some .int)
noncomputable abbrev wd_136 : Cond := Cond.methodLink RX1 87 yX1_placeOf
noncomputable abbrev wd_137 : Cond := Cond.instanceMethod yX1_placeOf
noncomputable abbrev wd_138 : Cond := Cond.selects RX1 yX1_placeOf yX1_placeOf
noncomputable abbrev wd_139 : Cond := Cond.initialized RX1
noncomputable def wsX1_moves : List Cond := wd_135 :: ([wd_97, wd_136, wd_137, wd_138, wd_139, wd_134, wd_98] ++ wsX10)
noncomputable abbrev wd_140 : Cond := Cond.code yX1_numbersOf cX1_numbersOf 2 (some (.array .int))
noncomputable def wsX1_numbersOf : List Cond := wd_140 :: ([wd_99, wd_100, wd_101, wd_102] ++ wsX10)
noncomputable abbrev wd_141 : Cond := Cond.code yX1_gap cX1_gap 1 (some .int)
noncomputable abbrev wd_142 : Cond := Cond.fieldLink RX1 91 "NineMowers$Field" "gap" "I"
noncomputable def wsX1_gap : List Cond := wd_141 :: ([wd_106, wd_105, wd_142] ++ wsX10 ++ wsX20)
noncomputable abbrev wd_143 : Cond := Cond.code yX2_holds cX2_holds 10 (some .boolean)
noncomputable abbrev wd_144 : Cond := Cond.fieldLink RX2 25 "NineMowers$Field" "codeSize" "I"
noncomputable abbrev wd_145 : Cond := Cond.fieldLink RX2 21 "NineMowers$Field" "code" "[I"
noncomputable def wsX2_holds : List Cond := wd_143 :: ([wd_144, wd_145] ++ wsX20)
noncomputable abbrev wd_146 : Cond := Cond.code yX2_paceOf cX2_paceOf 5 (some .int)
noncomputable abbrev wd_147 : Cond := Cond.fieldLink RX2 37 "NineMowers$Field" "clauses" "I"
noncomputable abbrev wd_148 : Cond := Cond.fieldLink RX2 28 "NineMowers$Field" "words" "[I"
noncomputable abbrev wd_149 : Cond := Cond.fieldLink RX2 34 "NineMowers$Field" "codeEnds" "[I"
noncomputable abbrev wd_150 : Cond := Cond.fieldLink RX2 31 "NineMowers$Field" "numbers" "[I"
noncomputable abbrev wd_151 : Cond := Cond.methodLink RX2 137 yX2_holds
noncomputable abbrev wd_152 : Cond := Cond.instanceMethod yX2_holds
noncomputable abbrev wd_153 : Cond := Cond.selects RX2 yX2_holds yX2_holds
noncomputable abbrev wd_154 : Cond := Cond.initialized RX2
noncomputable def wsX2_paceOf : List Cond := wd_146 :: ([wd_147, wd_148, wd_149, wd_150, wd_151, wd_152, wd_153, wd_154, wd_143, wd_144, wd_145] ++ wsX20)
noncomputable abbrev wd_155 : Cond := Cond.code yX1_paceAt cX1_paceAt 3 (some .int)
noncomputable abbrev wd_156 : Cond := Cond.fieldLink RX1 96 "NineMowers$Mower" "kind" "I"
noncomputable abbrev wd_157 : Cond := Cond.methodLink RX1 99 yX2_paceOf
noncomputable abbrev wd_158 : Cond := Cond.instanceMethod yX2_paceOf
noncomputable abbrev wd_159 : Cond := Cond.selects RX2 yX2_paceOf yX2_paceOf
noncomputable def wsX1_paceAt : List Cond := wd_155 :: ([wd_97, wd_113, wd_95, wd_156, wd_100, wd_101, wd_104, wd_105, wd_157, wd_158, wd_159, wd_154, wd_146, wd_147, wd_148, wd_149, wd_150, wd_151, wd_152, wd_153, wd_143, wd_144, wd_145] ++ wsX10 ++ wsX00 ++ wsX30 ++ wsX40 ++ wsX60 ++ wsX70 ++ wsX80 ++ wsX100 ++ wsX20)
noncomputable abbrev wd_160 : Cond := Cond.code yX3_strides cX3_strides 4 (some .int)
noncomputable abbrev wd_161 : Cond := Cond.fieldLink RX3 11 "NineMowers$Course" "edge" "[I"
noncomputable abbrev wd_162 : Cond := Cond.fieldLink RX3 17 "NineMowers$Hasty" "number" "I"
noncomputable abbrev wd_163 : Cond := Cond.sameField "NineMowers$Hasty" "NineMowers$Mower" "number" "I"
noncomputable abbrev wd_164 : Cond := Cond.fieldLink RX3 23 "NineMowers$Hasty" "v" "I"
noncomputable abbrev wd_165 : Cond := Cond.sameField "NineMowers$Hasty" "NineMowers$Mower" "v" "I"
noncomputable abbrev wd_166 : Cond := Cond.methodLink RX3 7 yX4_strides
noncomputable def wsX3_strides : List Cond := wd_160 :: ([wd_161, wd_162, wd_163, wd_164, wd_165, wd_166, wd_15, wd_30, wd_17, wd_10, wd_11, wd_12, wd_5] ++ wsX10 ++ wsX00 ++ wsX30 ++ wsX40 ++ wsX60 ++ wsX70 ++ wsX80 ++ wsX100)
noncomputable abbrev wd_167 : Cond := Cond.code yX8_strides cX8_strides 4 (some .int)
noncomputable def wsX8_strides : List Cond := wd_167 :: ([])
noncomputable abbrev wd_168 : Cond := Cond.code yX6_strides cX6_strides 5 (some .int)
noncomputable abbrev wd_169 : Cond := Cond.fieldLink RX6 11 "NineMowers$Old" "v" "I"
noncomputable abbrev wd_170 : Cond := Cond.sameField "NineMowers$Old" "NineMowers$Mower" "v" "I"
noncomputable abbrev wd_171 : Cond := Cond.methodLink RX6 7 yX8_strides
noncomputable abbrev wd_172 : Cond := Cond.sameMethod "NineMowers$Steady" "NineMowers$Steady" "strides" "(ILNineMowers$Course;I)I"
noncomputable abbrev wd_173 : Cond := Cond.instanceMethod yX8_strides
noncomputable def wsX6_strides : List Cond := wd_168 :: ([wd_169, wd_170, wd_171, wd_172, wd_63, wd_173, wd_65, wd_167] ++ wsX00 ++ wsX30 ++ wsX40 ++ wsX60 ++ wsX70 ++ wsX80 ++ wsX100)
noncomputable abbrev wd_174 : Cond := Cond.code yX1_isPressedAt cX1_isPressedAt 2 (some .boolean)
noncomputable abbrev wd_175 : Cond := Cond.methodLink RX1 109 yX1_gap
noncomputable abbrev wd_176 : Cond := Cond.instanceMethod yX1_gap
noncomputable abbrev wd_177 : Cond := Cond.selects RX1 yX1_gap yX1_gap
noncomputable def wsX1_isPressedAt : List Cond := wd_174 :: ([wd_98, wd_99, wd_97, wd_175, wd_176, wd_177, wd_139, wd_141, wd_106, wd_105, wd_142] ++ wsX10 ++ wsX20)
noncomputable abbrev wd_178 : Cond := Cond.methodLink RX7 7 yX3_strides
noncomputable abbrev wd_179 : Cond := Cond.sameMethod "NineMowers$Hasty" "NineMowers$Hasty" "strides" "(ILNineMowers$Course;I)I"
noncomputable abbrev wd_180 : Cond := Cond.superclass RX7 RX3
noncomputable abbrev wd_181 : Cond := Cond.instanceMethod yX3_strides
noncomputable abbrev wd_182 : Cond := Cond.methodLink RX7 11 yX1_isPressedAt
noncomputable abbrev wd_183 : Cond := Cond.instanceMethod yX1_isPressedAt
noncomputable abbrev wd_184 : Cond := Cond.selects RX1 yX1_isPressedAt yX1_isPressedAt
noncomputable def wsX7_strides_r1 : List Cond := [wd_178, wd_179, wd_180, wd_181, wd_43, wd_160, wd_161, wd_162, wd_163, wd_164, wd_165, wd_166, wd_15, wd_30, wd_17, wd_10, wd_11, wd_12, wd_5, wd_182, wd_183, wd_184, wd_139, wd_174]
noncomputable def wsX7_strides_r2 : List Cond := [wd_98, wd_99, wd_97, wd_175, wd_176, wd_177, wd_141, wd_106, wd_105, wd_142]
noncomputable abbrev wd_185 : Cond := Cond.code yX7_strides cX7_strides 4 (some .int)
noncomputable def wsX7_strides : List Cond := wd_185 :: ((wsX7_strides_r1 ++ wsX7_strides_r2) ++ wsX10 ++ wsX00 ++ wsX30 ++ wsX40 ++ wsX60 ++ wsX70 ++ wsX80 ++ wsX100 ++ wsX20)
noncomputable abbrev wd_186 : Cond := Cond.code yX10_strides cX10_strides 4 (some .int)
noncomputable abbrev wd_187 : Cond := Cond.fieldLink RX10 11 "NineMowers$Course" "told" "[I"
noncomputable abbrev wd_188 : Cond := Cond.fieldLink RX10 17 "NineMowers$Told" "number" "I"
noncomputable abbrev wd_189 : Cond := Cond.sameField "NineMowers$Told" "NineMowers$Mower" "number" "I"
noncomputable abbrev wd_190 : Cond := Cond.fieldLink RX10 23 "NineMowers$Course" "minute" "I"
noncomputable abbrev wd_191 : Cond := Cond.methodLink RX10 7 yX0_strides
noncomputable abbrev wd_192 : Cond := Cond.sameMethod "NineMowers$Boy" "NineMowers$Boy" "strides" "(ILNineMowers$Course;I)I"
noncomputable abbrev wd_193 : Cond := Cond.superclass RX10 RX0
noncomputable abbrev wd_194 : Cond := Cond.instanceMethod yX0_strides
noncomputable abbrev wd_195 : Cond := Cond.initialized RX0
noncomputable def wsX10_strides : List Cond := wd_186 :: ([wd_187, wd_188, wd_189, wd_190, wd_191, wd_192, wd_193, wd_194, wd_195, wd_13, wd_14, wd_15, wd_16, wd_17, wd_10, wd_11, wd_12, wd_5] ++ wsX10 ++ wsX00 ++ wsX30 ++ wsX40 ++ wsX60 ++ wsX70 ++ wsX80 ++ wsX100)
noncomputable abbrev wd_196 : Cond := Cond.methodLink RX1 103 yX1_paceAt
noncomputable abbrev wd_197 : Cond := Cond.instanceMethod yX1_paceAt
noncomputable abbrev wd_198 : Cond := Cond.selects RX1 yX1_paceAt yX1_paceAt
noncomputable def wsX1_strideAt_r1 : List Cond := [wd_97, wd_95, wd_100, wd_196, wd_197, wd_198, wd_139, wd_155, wd_113, wd_156, wd_101, wd_104, wd_105, wd_157, wd_158, wd_159, wd_154, wd_146, wd_147, wd_148, wd_149, wd_150, wd_151, wd_152]
noncomputable abbrev wd_199 : Cond := Cond.methodLink RX1 106 ⟨"NineMowers$Mower", "strides", "(ILNineMowers$Course;I)I"⟩
noncomputable abbrev wd_200 : Cond := Cond.instanceMethod ⟨"NineMowers$Mower", "strides", "(ILNineMowers$Course;I)I"⟩
noncomputable abbrev wd_201 : Cond := Cond.selects RX0 ⟨"NineMowers$Mower", "strides", "(ILNineMowers$Course;I)I"⟩ yX0_strides
noncomputable abbrev wd_202 : Cond := Cond.selects RX3 ⟨"NineMowers$Mower", "strides", "(ILNineMowers$Course;I)I"⟩ yX3_strides
noncomputable def wsX1_strideAt_r2 : List Cond := [wd_153, wd_143, wd_144, wd_145, wd_199, wd_15, wd_200, wd_201, wd_194, wd_195, wd_13, wd_14, wd_16, wd_17, wd_10, wd_11, wd_12, wd_5, wd_202, wd_181, wd_43, wd_160, wd_161, wd_162]
noncomputable abbrev wd_203 : Cond := Cond.methodLink RX1 106 yX4_strides
noncomputable abbrev wd_204 : Cond := Cond.selects RX4 yX4_strides yX4_strides
noncomputable abbrev wd_205 : Cond := Cond.selects RX6 ⟨"NineMowers$Mower", "strides", "(ILNineMowers$Course;I)I"⟩ yX6_strides
noncomputable abbrev wd_206 : Cond := Cond.instanceMethod yX6_strides
noncomputable abbrev wd_207 : Cond := Cond.selects RX7 ⟨"NineMowers$Mower", "strides", "(ILNineMowers$Course;I)I"⟩ yX7_strides
noncomputable abbrev wd_208 : Cond := Cond.instanceMethod yX7_strides
noncomputable abbrev wd_209 : Cond := Cond.initialized RX7
noncomputable def wsX1_strideAt_r3 : List Cond := [wd_163, wd_164, wd_165, wd_166, wd_30, wd_203, wd_204, wd_205, wd_206, wd_48, wd_168, wd_169, wd_170, wd_171, wd_172, wd_63, wd_173, wd_65, wd_167, wd_207, wd_208, wd_209, wd_185, wd_178]
noncomputable abbrev wd_210 : Cond := Cond.selects RX8 ⟨"NineMowers$Mower", "strides", "(ILNineMowers$Course;I)I"⟩ yX8_strides
noncomputable abbrev wd_211 : Cond := Cond.selects RX10 ⟨"NineMowers$Mower", "strides", "(ILNineMowers$Course;I)I"⟩ yX10_strides
noncomputable abbrev wd_212 : Cond := Cond.instanceMethod yX10_strides
noncomputable def wsX1_strideAt_r4 : List Cond := [wd_179, wd_180, wd_182, wd_183, wd_184, wd_174, wd_98, wd_99, wd_175, wd_176, wd_177, wd_141, wd_106, wd_142, wd_210, wd_211, wd_212, wd_53, wd_186, wd_187, wd_188, wd_189, wd_190, wd_191]
noncomputable def wsX1_strideAt_r5 : List Cond := [wd_192, wd_193]
noncomputable abbrev wd_213 : Cond := Cond.code yX1_strideAt cX1_strideAt 4 (some .int)
noncomputable def wsX1_strideAt : List Cond := wd_213 :: ((wsX1_strideAt_r1 ++ (wsX1_strideAt_r2 ++ (wsX1_strideAt_r3 ++ (wsX1_strideAt_r4 ++ wsX1_strideAt_r5)))) ++ wsX10 ++ wsX00 ++ wsX30 ++ wsX40 ++ wsX60 ++ wsX70 ++ wsX80 ++ wsX100 ++ wsX20)
noncomputable abbrev wd_214 : Cond := Cond.code yX1_roomAt cX1_roomAt 4 (some .int)
noncomputable abbrev wd_215 : Cond := Cond.methodLink RX1 125 Lib.Math.min.name
noncomputable abbrev wd_216 : Cond := Cond.methodLink RX1 131 Lib.Math.max.name
noncomputable abbrev wd_217 : Cond := Cond.static Lib.Math.max.name
noncomputable abbrev wd_218 : Cond := Cond.code Lib.Math.max.name Lib.Math.max.code 2 (some .int)
noncomputable def wsX1_roomAt : List Cond := wd_214 :: ([wd_97, wd_99, wd_112, wd_215, wd_124, wd_125, wd_126, wd_216, wd_217, wd_218, wd_175, wd_176, wd_177, wd_139, wd_141, wd_106, wd_105, wd_142] ++ wsX10 ++ wsX20)
noncomputable abbrev wd_219 : Cond := Cond.code yX1_wears cX1_wears 3 none
noncomputable abbrev wd_220 : Cond := Cond.fieldLink RX1 134 "NineMowers$Field" "tire" "I"
noncomputable def wsX1_wears : List Cond := wd_219 :: ([wd_100, wd_216, wd_217, wd_125, wd_218, wd_101, wd_105, wd_220, wd_215, wd_124, wd_126] ++ wsX10 ++ wsX20)
noncomputable abbrev wd_221 : Cond := Cond.methodLink RX1 115 yX1_strideAt
noncomputable abbrev wd_222 : Cond := Cond.instanceMethod yX1_strideAt
noncomputable abbrev wd_223 : Cond := Cond.selects RX1 yX1_strideAt yX1_strideAt
noncomputable def wsX1_goesMinute_r1 : List Cond := [wd_98, wd_112, wd_97, wd_102, wd_99, wd_104, wd_221, wd_222, wd_223, wd_139, wd_213, wd_95, wd_100, wd_196, wd_197, wd_198, wd_155, wd_113, wd_156, wd_101, wd_105, wd_157, wd_158, wd_159]
noncomputable def wsX1_goesMinute_r2 : List Cond := [wd_154, wd_146, wd_147, wd_148, wd_149, wd_150, wd_151, wd_152, wd_153, wd_143, wd_144, wd_145, wd_199, wd_15, wd_200, wd_201, wd_194, wd_195, wd_13, wd_14, wd_16, wd_17, wd_10, wd_11]
noncomputable def wsX1_goesMinute_r3 : List Cond := [wd_12, wd_5, wd_202, wd_181, wd_43, wd_160, wd_161, wd_162, wd_163, wd_164, wd_165, wd_166, wd_30, wd_203, wd_204, wd_205, wd_206, wd_48, wd_168, wd_169, wd_170, wd_171, wd_172, wd_63]
noncomputable def wsX1_goesMinute_r4 : List Cond := [wd_173, wd_65, wd_167, wd_207, wd_208, wd_209, wd_185, wd_178, wd_179, wd_180, wd_182, wd_183, wd_184, wd_174, wd_175, wd_176, wd_177, wd_141, wd_106, wd_142, wd_210, wd_211, wd_212, wd_53]
noncomputable abbrev wd_224 : Cond := Cond.methodLink RX1 118 yX1_roomAt
noncomputable abbrev wd_225 : Cond := Cond.instanceMethod yX1_roomAt
noncomputable abbrev wd_226 : Cond := Cond.selects RX1 yX1_roomAt yX1_roomAt
noncomputable abbrev wd_227 : Cond := Cond.methodLink RX1 121 yX1_wears
noncomputable abbrev wd_228 : Cond := Cond.instanceMethod yX1_wears
noncomputable abbrev wd_229 : Cond := Cond.selects RX1 yX1_wears yX1_wears
noncomputable def wsX1_goesMinute_r5 : List Cond := [wd_186, wd_187, wd_188, wd_189, wd_190, wd_191, wd_192, wd_193, wd_224, wd_225, wd_226, wd_214, wd_215, wd_124, wd_125, wd_126, wd_216, wd_217, wd_218, wd_227, wd_228, wd_229, wd_219, wd_220]
noncomputable abbrev wd_230 : Cond := Cond.code yX1_goesMinute cX1_goesMinute 5 (some .int)
noncomputable def wsX1_goesMinute : List Cond := wd_230 :: ((wsX1_goesMinute_r1 ++ (wsX1_goesMinute_r2 ++ (wsX1_goesMinute_r3 ++ (wsX1_goesMinute_r4 ++ wsX1_goesMinute_r5)))) ++ wsX10 ++ wsX00 ++ wsX30 ++ wsX40 ++ wsX60 ++ wsX70 ++ wsX80 ++ wsX100 ++ wsX20)
noncomputable abbrev wd_231 : Cond := Cond.methodLink RX1 112 yX1_goesMinute
noncomputable abbrev wd_232 : Cond := Cond.instanceMethod yX1_goesMinute
noncomputable abbrev wd_233 : Cond := Cond.selects RX1 yX1_goesMinute yX1_goesMinute
noncomputable def wsX1_goes_r1 : List Cond := [wd_231, wd_232, wd_233, wd_139, wd_230, wd_98, wd_112, wd_97, wd_102, wd_99, wd_104, wd_221, wd_222, wd_223, wd_213, wd_95, wd_100, wd_196, wd_197, wd_198, wd_155, wd_113, wd_156, wd_101]
noncomputable def wsX1_goes_r2 : List Cond := [wd_105, wd_157, wd_158, wd_159, wd_154, wd_146, wd_147, wd_148, wd_149, wd_150, wd_151, wd_152, wd_153, wd_143, wd_144, wd_145, wd_199, wd_15, wd_200, wd_201, wd_194, wd_195, wd_13, wd_14]
noncomputable def wsX1_goes_r3 : List Cond := [wd_16, wd_17, wd_10, wd_11, wd_12, wd_5, wd_202, wd_181, wd_43, wd_160, wd_161, wd_162, wd_163, wd_164, wd_165, wd_166, wd_30, wd_203, wd_204, wd_205, wd_206, wd_48, wd_168, wd_169]
noncomputable def wsX1_goes_r4 : List Cond := [wd_170, wd_171, wd_172, wd_63, wd_173, wd_65, wd_167, wd_207, wd_208, wd_209, wd_185, wd_178, wd_179, wd_180, wd_182, wd_183, wd_184, wd_174, wd_175, wd_176, wd_177, wd_141, wd_106, wd_142]
noncomputable def wsX1_goes_r5 : List Cond := [wd_210, wd_211, wd_212, wd_53, wd_186, wd_187, wd_188, wd_189, wd_190, wd_191, wd_192, wd_193, wd_224, wd_225, wd_226, wd_214, wd_215, wd_124, wd_125, wd_126, wd_216, wd_217, wd_218, wd_227]
noncomputable def wsX1_goes_r6 : List Cond := [wd_228, wd_229, wd_219, wd_220]
noncomputable abbrev wd_234 : Cond := Cond.code yX1_goes cX1_goes 3 none
noncomputable def wsX1_goes : List Cond := wd_234 :: ((wsX1_goes_r1 ++ (wsX1_goes_r2 ++ (wsX1_goes_r3 ++ (wsX1_goes_r4 ++ (wsX1_goes_r5 ++ wsX1_goes_r6))))) ++ wsX10 ++ wsX00 ++ wsX30 ++ wsX40 ++ wsX60 ++ wsX70 ++ wsX80 ++ wsX100 ++ wsX20)
noncomputable abbrev wd_235 : Cond := Cond.code yX1_passes cX1_passes 4 none
noncomputable def wsX1_passes : List Cond := wd_235 :: ([wd_96, wd_101, wd_216, wd_217, wd_125, wd_218, wd_102, wd_104] ++ wsX10)
noncomputable abbrev wd_236 : Cond := Cond.code yX1_whetsAll cX1_whetsAll 2 none
noncomputable abbrev wd_237 : Cond := Cond.methodLink RX1 137 yX1_passes
noncomputable abbrev wd_238 : Cond := Cond.instanceMethod yX1_passes
noncomputable abbrev wd_239 : Cond := Cond.selects RX1 yX1_passes yX1_passes
noncomputable def wsX1_whetsAll : List Cond := wd_236 :: ([wd_96, wd_100, wd_237, wd_238, wd_239, wd_139, wd_235, wd_101, wd_216, wd_217, wd_125, wd_218, wd_102, wd_104] ++ wsX10)
noncomputable abbrev wd_240 : Cond := Cond.code yX1_rests cX1_rests 2 none
noncomputable def wsX1_rests : List Cond := wd_240 :: ([wd_237, wd_238, wd_239, wd_139, wd_235, wd_96, wd_101, wd_216, wd_217, wd_125, wd_218, wd_102, wd_104] ++ wsX10)
noncomputable abbrev wd_241 : Cond := Cond.code yX1_allAt cX1_allAt 3 (some .int)
noncomputable def wsX1_allAt : List Cond := wd_241 :: ([wd_96, wd_99] ++ wsX10)
noncomputable abbrev wd_242 : Cond := Cond.code yX1_isDone cX1_isDone 2 (some .boolean)
noncomputable abbrev wd_243 : Cond := Cond.fieldLink RX1 141 "NineMowers$Field" "length" "I"
noncomputable def wsX1_isDone : List Cond := wd_242 :: ([wd_96, wd_99, wd_105, wd_243] ++ wsX10 ++ wsX20)
noncomputable abbrev wd_244 : Cond := Cond.code yX2_init cX2_init 1 none
noncomputable abbrev wd_245 : Cond := Cond.methodLink RX2 3 objectInit
noncomputable abbrev wd_246 : Cond := Cond.fieldLink RX2 9 "NineMowers$Field" "gap" "I"
noncomputable abbrev wd_247 : Cond := Cond.fieldLink RX2 15 "NineMowers$Field" "tire" "I"
noncomputable abbrev wd_248 : Cond := Cond.fieldLink RX2 18 "NineMowers$Field" "length" "I"
noncomputable abbrev wd_249 : Cond := Cond.fieldLink RX2 40 "NineMowers$Field" "signs" "[B"
noncomputable abbrev wd_250 : Cond := Cond.fieldLink RX2 44 "NineMowers$Field" "end" "I"
noncomputable abbrev wd_251 : Cond := Cond.fieldLink RX2 47 "NineMowers$Field" "pos" "I"
noncomputable def wsX2_init : List Cond := wd_244 :: ([wd_245, wd_2, wd_3, wd_246, wd_247, wd_248, wd_92, wd_145, wd_144, wd_148, wd_150, wd_149, wd_147, wd_249, wd_250, wd_251] ++ wsX20)
noncomputable abbrev wd_252 : Cond := Cond.code yX2_sign cX2_sign 1 (some .int)
noncomputable def wsX2_sign : List Cond := wd_252 :: ([wd_249, wd_251, wd_250] ++ wsX20)
noncomputable abbrev wd_253 : Cond := Cond.code yJ0_isLatin1_aae02 cJ0_isLatin1_aae02 1 (some .boolean)
noncomputable abbrev wd_254 : Cond := Cond.fieldLink RJ0 38 "java/lang/String" "COMPACT_STRINGS" "Z"
noncomputable abbrev wd_255 : Cond := Cond.fieldLink RJ0 15 "java/lang/String" "coder" "B"
noncomputable def wsJ0_isLatin1_aae02 : List Cond := wd_253 :: ([wd_254, wd_255])
noncomputable abbrev wd_256 : Cond := Cond.code yJ0_coder_7d493 cJ0_coder_7d493 1 (some .byte)
noncomputable def wsJ0_coder_7d493 : List Cond := wd_256 :: ([wd_254, wd_255])
noncomputable abbrev wd_257 : Cond := Cond.code yJ0_length_8abf5 cJ0_length_8abf5 1 (some .int)
noncomputable abbrev wd_258 : Cond := Cond.fieldLink RJ0 9 "java/lang/String" "value" "[B"
noncomputable abbrev wd_259 : Cond := Cond.methodLink RJ0 335 yJ0_coder_7d493
noncomputable abbrev wd_260 : Cond := Cond.instanceMethod yJ0_coder_7d493
noncomputable abbrev wd_261 : Cond := Cond.selects RJ0 yJ0_coder_7d493 yJ0_coder_7d493
noncomputable abbrev wd_262 : Cond := Cond.initialized RJ0
noncomputable def wsJ0_length_8abf5 : List Cond := wd_257 :: ([wd_258, wd_259, wd_260, wd_261, wd_262, wd_256, wd_254, wd_255])
noncomputable abbrev wd_263 : Cond := Cond.code yJ1_canEncode_9a6ad cJ1_canEncode_9a6ad 1 (some .boolean)
noncomputable def wsJ1_canEncode_9a6ad : List Cond := wd_263 :: ([])
noncomputable abbrev wd_264 : Cond := Cond.code yJ1_indexOfChar_4cfef cJ1_indexOfChar_4cfef 6 (some .int)
noncomputable def wsJ1_indexOfChar_4cfef : List Cond := wd_264 :: ([])
noncomputable abbrev wd_265 : Cond := Cond.code yJ1_indexOf_4cfef cJ1_indexOf_4cfef 4 (some .int)
noncomputable abbrev wd_266 : Cond := Cond.methodLink RJ1 92 Lib.Math.max.name
noncomputable abbrev wd_267 : Cond := Cond.methodLink RJ1 38 Lib.Math.min.name
noncomputable abbrev wd_268 : Cond := Cond.methodLink RJ1 88 yJ1_canEncode_9a6ad
noncomputable abbrev wd_269 : Cond := Cond.static yJ1_canEncode_9a6ad
noncomputable abbrev wd_270 : Cond := Cond.initialized RJ1
noncomputable abbrev wd_271 : Cond := Cond.methodLink RJ1 95 yJ1_indexOfChar_4cfef
noncomputable abbrev wd_272 : Cond := Cond.static yJ1_indexOfChar_4cfef
noncomputable def wsJ1_indexOf_4cfef : List Cond := wd_265 :: ([wd_266, wd_217, wd_125, wd_218, wd_267, wd_124, wd_126, wd_268, wd_269, wd_270, wd_263, wd_271, wd_272, wd_264])
noncomputable abbrev wd_273 : Cond := Cond.code yJ2_length_9d52b cJ2_length_9d52b 1 (some .int)
noncomputable abbrev wd_274 : Cond := Cond.code yJ3_checkFromToIndex_8c36e cJ3_checkFromToIndex_8c36e 4 (some .int)
noncomputable abbrev wd_275 : Cond := Cond.code yJ0_checkBoundsBeginEnd_23922 cJ0_checkBoundsBeginEnd_23922 3 none
noncomputable abbrev wd_276 : Cond := Cond.fieldLink RJ0 1053 "jdk/internal/util/Preconditions" "SIOOBE_FORMATTER" "Ljava/util/function/BiFunction;"
noncomputable abbrev wd_277 : Cond := Cond.methodLink RJ0 1062 yJ3_checkFromToIndex_8c36e
noncomputable abbrev wd_278 : Cond := Cond.static yJ3_checkFromToIndex_8c36e
noncomputable abbrev wd_279 : Cond := Cond.initialized RJ3
noncomputable abbrev wd_280 : Cond := Cond.code yJ2_checkBoundsBeginEnd_d044e cJ2_checkBoundsBeginEnd_d044e 3 none
noncomputable abbrev wd_281 : Cond := Cond.methodLink RJ2 48 yJ2_length_9d52b
noncomputable abbrev wd_282 : Cond := Cond.static yJ2_length_9d52b
noncomputable abbrev wd_283 : Cond := Cond.initialized RJ2
noncomputable abbrev wd_284 : Cond := Cond.methodLink RJ2 241 yJ0_checkBoundsBeginEnd_23922
noncomputable abbrev wd_285 : Cond := Cond.static yJ0_checkBoundsBeginEnd_23922
noncomputable abbrev wd_286 : Cond := Cond.code yJ2_getChar_3b067 cJ2_getChar_3b067 2 (some .char)
noncomputable abbrev wd_287 : Cond := Cond.fieldLink RJ2 44 "java/lang/StringUTF16" "$assertionsDisabled" "Z"
noncomputable abbrev wd_288 : Cond := Cond.fieldLink RJ2 59 "java/lang/StringUTF16" "HI_BYTE_SHIFT" "I"
noncomputable abbrev wd_289 : Cond := Cond.fieldLink RJ2 63 "java/lang/StringUTF16" "LO_BYTE_SHIFT" "I"
noncomputable abbrev wd_290 : Cond := Cond.code yJ2_indexOfCharUnsafe_4cfef cJ2_indexOfCharUnsafe_4cfef 5 (some .int)
noncomputable abbrev wd_291 : Cond := Cond.methodLink RJ2 71 yJ2_getChar_3b067
noncomputable abbrev wd_292 : Cond := Cond.static yJ2_getChar_3b067
noncomputable abbrev wd_293 : Cond := Cond.methodLink RJ2 96 yJ2_checkBoundsBeginEnd_d044e
noncomputable abbrev wd_294 : Cond := Cond.static yJ2_checkBoundsBeginEnd_d044e
noncomputable abbrev wd_295 : Cond := Cond.methodLink RJ2 244 yJ2_indexOfCharUnsafe_4cfef
noncomputable abbrev wd_296 : Cond := Cond.static yJ2_indexOfCharUnsafe_4cfef
noncomputable abbrev wd_297 : Cond := Cond.code yJ2_indexOfChar_4cfef cJ2_indexOfChar_4cfef 4 (some .int)
noncomputable abbrev wd_298 : Cond := Cond.code yJ11_isValidCodePoint_9a6ad cJ11_isValidCodePoint_9a6ad 2 (some .boolean)
noncomputable abbrev wd_299 : Cond := Cond.code yJ11_highSurrogate_5068e cJ11_highSurrogate_5068e 1 (some .char)
noncomputable abbrev wd_300 : Cond := Cond.constant RJ11 110 (55232)
noncomputable abbrev wd_301 : Cond := Cond.code yJ11_lowSurrogate_5068e cJ11_lowSurrogate_5068e 1 (some .char)
noncomputable abbrev wd_302 : Cond := Cond.constant RJ11 76 (56320)
noncomputable abbrev wd_303 : Cond := Cond.methodLink RJ2 164 yJ11_isValidCodePoint_9a6ad
noncomputable abbrev wd_304 : Cond := Cond.static yJ11_isValidCodePoint_9a6ad
noncomputable abbrev wd_305 : Cond := Cond.initialized RJ11
noncomputable abbrev wd_306 : Cond := Cond.methodLink RJ2 157 yJ11_highSurrogate_5068e
noncomputable abbrev wd_307 : Cond := Cond.static yJ11_highSurrogate_5068e
noncomputable abbrev wd_308 : Cond := Cond.methodLink RJ2 161 yJ11_lowSurrogate_5068e
noncomputable abbrev wd_309 : Cond := Cond.static yJ11_lowSurrogate_5068e
noncomputable abbrev wd_310 : Cond := Cond.code yJ2_indexOfSupplementary_4cfef cJ2_indexOfSupplementary_4cfef 7 (some .int)
noncomputable abbrev wd_311 : Cond := Cond.methodLink RJ2 224 Lib.Math.max.name
noncomputable abbrev wd_312 : Cond := Cond.methodLink RJ2 183 Lib.Math.min.name
noncomputable abbrev wd_313 : Cond := Cond.constant RJ2 227 (65536)
noncomputable abbrev wd_314 : Cond := Cond.methodLink RJ2 228 yJ2_indexOfChar_4cfef
noncomputable abbrev wd_315 : Cond := Cond.static yJ2_indexOfChar_4cfef
noncomputable abbrev wd_316 : Cond := Cond.methodLink RJ2 232 yJ2_indexOfSupplementary_4cfef
noncomputable abbrev wd_317 : Cond := Cond.static yJ2_indexOfSupplementary_4cfef
noncomputable abbrev wd_318 : Cond := Cond.code yJ2_indexOf_4cfef cJ2_indexOf_4cfef 4 (some .int)
noncomputable abbrev wd_319 : Cond := Cond.methodLink RJ0 492 yJ0_isLatin1_aae02
noncomputable abbrev wd_320 : Cond := Cond.instanceMethod yJ0_isLatin1_aae02
noncomputable abbrev wd_321 : Cond := Cond.selects RJ0 yJ0_isLatin1_aae02 yJ0_isLatin1_aae02
noncomputable abbrev wd_322 : Cond := Cond.methodLink RJ0 505 yJ0_length_8abf5
noncomputable abbrev wd_323 : Cond := Cond.instanceMethod yJ0_length_8abf5
noncomputable abbrev wd_324 : Cond := Cond.selects RJ0 yJ0_length_8abf5 yJ0_length_8abf5
noncomputable abbrev wd_325 : Cond := Cond.methodLink RJ0 637 yJ1_indexOf_4cfef
noncomputable abbrev wd_326 : Cond := Cond.static yJ1_indexOf_4cfef
noncomputable def wsJ0_indexOf_7cf53_r1 : List Cond := [wd_258, wd_319, wd_320, wd_321, wd_262, wd_253, wd_254, wd_255, wd_322, wd_323, wd_324, wd_257, wd_259, wd_260, wd_261, wd_256, wd_325, wd_326, wd_270, wd_265, wd_266, wd_217, wd_125, wd_218]
noncomputable abbrev wd_327 : Cond := Cond.methodLink RJ0 640 yJ2_indexOf_4cfef
noncomputable abbrev wd_328 : Cond := Cond.static yJ2_indexOf_4cfef
noncomputable def wsJ0_indexOf_7cf53_r2 : List Cond := [wd_267, wd_124, wd_126, wd_268, wd_269, wd_263, wd_271, wd_272, wd_264, wd_327, wd_328, wd_283, wd_318, wd_311, wd_312, wd_313, wd_314, wd_315, wd_297, wd_293, wd_294, wd_280, wd_281, wd_282]
noncomputable def wsJ0_indexOf_7cf53_r3 : List Cond := [wd_273, wd_284, wd_285, wd_275, wd_276, wd_277, wd_278, wd_279, wd_274, wd_295, wd_296, wd_290, wd_291, wd_292, wd_286, wd_287, wd_288, wd_289, wd_316, wd_317, wd_310, wd_303, wd_304, wd_305]
noncomputable def wsJ0_indexOf_7cf53_r4 : List Cond := [wd_298, wd_306, wd_307, wd_299, wd_300, wd_308, wd_309, wd_301, wd_302]
noncomputable abbrev wd_329 : Cond := Cond.code yJ0_indexOf_7cf53 cJ0_indexOf_7cf53 3 (some .int)
noncomputable def wsJ0_indexOf_7cf53 : List Cond := wd_329 :: ((wsJ0_indexOf_7cf53_r1 ++ (wsJ0_indexOf_7cf53_r2 ++ (wsJ0_indexOf_7cf53_r3 ++ wsJ0_indexOf_7cf53_r4))))
noncomputable abbrev wd_330 : Cond := Cond.methodLink RJ0 633 yJ0_indexOf_7cf53
noncomputable abbrev wd_331 : Cond := Cond.instanceMethod yJ0_indexOf_7cf53
noncomputable abbrev wd_332 : Cond := Cond.selects RJ0 yJ0_indexOf_7cf53 yJ0_indexOf_7cf53
noncomputable def wsJ0_indexOf_0f7a4_r1 : List Cond := [wd_330, wd_331, wd_332, wd_262, wd_329, wd_258, wd_319, wd_320, wd_321, wd_253, wd_254, wd_255, wd_322, wd_323, wd_324, wd_257, wd_259, wd_260, wd_261, wd_256, wd_325, wd_326, wd_270, wd_265]
noncomputable def wsJ0_indexOf_0f7a4_r2 : List Cond := [wd_266, wd_217, wd_125, wd_218, wd_267, wd_124, wd_126, wd_268, wd_269, wd_263, wd_271, wd_272, wd_264, wd_327, wd_328, wd_283, wd_318, wd_311, wd_312, wd_313, wd_314, wd_315, wd_297, wd_293]
noncomputable def wsJ0_indexOf_0f7a4_r3 : List Cond := [wd_294, wd_280, wd_281, wd_282, wd_273, wd_284, wd_285, wd_275, wd_276, wd_277, wd_278, wd_279, wd_274, wd_295, wd_296, wd_290, wd_291, wd_292, wd_286, wd_287, wd_288, wd_289, wd_316, wd_317]
noncomputable def wsJ0_indexOf_0f7a4_r4 : List Cond := [wd_310, wd_303, wd_304, wd_305, wd_298, wd_306, wd_307, wd_299, wd_300, wd_308, wd_309, wd_301, wd_302]
noncomputable abbrev wd_333 : Cond := Cond.code yJ0_indexOf_0f7a4 cJ0_indexOf_0f7a4 2 (some .int)
noncomputable def wsJ0_indexOf_0f7a4 : List Cond := wd_333 :: ((wsJ0_indexOf_0f7a4_r1 ++ (wsJ0_indexOf_0f7a4_r2 ++ (wsJ0_indexOf_0f7a4_r3 ++ wsJ0_indexOf_0f7a4_r4))))
noncomputable abbrev wd_334 : Cond := Cond.methodLink RX2 130 yX2_sign
noncomputable abbrev wd_335 : Cond := Cond.instanceMethod yX2_sign
noncomputable abbrev wd_336 : Cond := Cond.selects RX2 yX2_sign yX2_sign
noncomputable abbrev wd_337 : Cond := Cond.methodLink RX2 133 yJ0_indexOf_0f7a4
noncomputable abbrev wd_338 : Cond := Cond.instanceMethod yJ0_indexOf_0f7a4
noncomputable abbrev wd_339 : Cond := Cond.selects RJ0 yJ0_indexOf_0f7a4 yJ0_indexOf_0f7a4
noncomputable def wsX2_signAmong_r1 : List Cond := [wd_334, wd_335, wd_336, wd_154, wd_252, wd_249, wd_251, wd_250, wd_337, wd_338, wd_339, wd_262, wd_333, wd_330, wd_331, wd_332, wd_329, wd_258, wd_319, wd_320, wd_321, wd_253, wd_254, wd_255]
noncomputable def wsX2_signAmong_r2 : List Cond := [wd_322, wd_323, wd_324, wd_257, wd_259, wd_260, wd_261, wd_256, wd_325, wd_326, wd_270, wd_265, wd_266, wd_217, wd_125, wd_218, wd_267, wd_124, wd_126, wd_268, wd_269, wd_263, wd_271, wd_272]
noncomputable def wsX2_signAmong_r3 : List Cond := [wd_264, wd_327, wd_328, wd_283, wd_318, wd_311, wd_312, wd_313, wd_314, wd_315, wd_297, wd_293, wd_294, wd_280, wd_281, wd_282, wd_273, wd_284, wd_285, wd_275, wd_276, wd_277, wd_278, wd_279]
noncomputable def wsX2_signAmong_r4 : List Cond := [wd_274, wd_295, wd_296, wd_290, wd_291, wd_292, wd_286, wd_287, wd_288, wd_289, wd_316, wd_317, wd_310, wd_303, wd_304, wd_305, wd_298, wd_306, wd_307, wd_299, wd_300, wd_308, wd_309, wd_301]
noncomputable def wsX2_signAmong_r5 : List Cond := [wd_302]
noncomputable abbrev wd_340 : Cond := Cond.code yX2_signAmong cX2_signAmong 3 (some .int)
noncomputable def wsX2_signAmong : List Cond := wd_340 :: ((wsX2_signAmong_r1 ++ (wsX2_signAmong_r2 ++ (wsX2_signAmong_r3 ++ (wsX2_signAmong_r4 ++ wsX2_signAmong_r5)))) ++ wsX20)
noncomputable abbrev wd_341 : Cond := Cond.code yX2_wordOf cX2_wordOf 1 (some (.object "java/lang/String"))
noncomputable def wsX2_wordOf : List Cond := wd_341 :: ([])
noncomputable abbrev wd_342 : Cond := Cond.code yJ3_checkIndex_8e157 cJ3_checkIndex_8e157 3 (some .int)
noncomputable def wsJ3_checkIndex_8e157 : List Cond := wd_342 :: ([])
noncomputable abbrev wd_343 : Cond := Cond.code yJ0_checkIndex_df160 cJ0_checkIndex_df160 2 none
noncomputable abbrev wd_344 : Cond := Cond.methodLink RJ0 1059 yJ3_checkIndex_8e157
noncomputable abbrev wd_345 : Cond := Cond.static yJ3_checkIndex_8e157
noncomputable def wsJ0_checkIndex_df160 : List Cond := wd_343 :: ([wd_276, wd_344, wd_345, wd_279, wd_342])
noncomputable abbrev wd_346 : Cond := Cond.code yJ1_charAt_3b067 cJ1_charAt_3b067 2 (some .char)
noncomputable abbrev wd_347 : Cond := Cond.methodLink RJ1 9 yJ0_checkIndex_df160
noncomputable abbrev wd_348 : Cond := Cond.static yJ0_checkIndex_df160
noncomputable def wsJ1_charAt_3b067 : List Cond := wd_346 :: ([wd_347, wd_348, wd_262, wd_343, wd_276, wd_344, wd_345, wd_279, wd_342])
noncomputable abbrev wd_349 : Cond := Cond.code yJ2_checkIndex_2214a cJ2_checkIndex_2214a 2 none
noncomputable abbrev wd_350 : Cond := Cond.methodLink RJ2 414 yJ0_checkIndex_df160
noncomputable abbrev wd_351 : Cond := Cond.code yJ2_charAt_3b067 cJ2_charAt_3b067 2 (some .char)
noncomputable abbrev wd_352 : Cond := Cond.methodLink RJ2 67 yJ2_checkIndex_2214a
noncomputable abbrev wd_353 : Cond := Cond.static yJ2_checkIndex_2214a
noncomputable abbrev wd_354 : Cond := Cond.methodLink RJ0 495 yJ1_charAt_3b067
noncomputable abbrev wd_355 : Cond := Cond.static yJ1_charAt_3b067
noncomputable abbrev wd_356 : Cond := Cond.methodLink RJ0 498 yJ2_charAt_3b067
noncomputable abbrev wd_357 : Cond := Cond.static yJ2_charAt_3b067
noncomputable def wsJ0_charAt_5068e_r1 : List Cond := [wd_258, wd_319, wd_320, wd_321, wd_262, wd_253, wd_254, wd_255, wd_354, wd_355, wd_270, wd_346, wd_347, wd_348, wd_343, wd_276, wd_344, wd_345, wd_279, wd_342, wd_356, wd_357, wd_283, wd_351]
noncomputable def wsJ0_charAt_5068e_r2 : List Cond := [wd_352, wd_353, wd_349, wd_281, wd_282, wd_273, wd_350, wd_291, wd_292, wd_286, wd_287, wd_288, wd_289]
noncomputable abbrev wd_358 : Cond := Cond.code yJ0_charAt_5068e cJ0_charAt_5068e 2 (some .char)
noncomputable def wsJ0_charAt_5068e : List Cond := wd_358 :: ((wsJ0_charAt_5068e_r1 ++ wsJ0_charAt_5068e_r2))
noncomputable abbrev wd_359 : Cond := Cond.code yX2_takes cX2_takes 2 (some .boolean)
noncomputable def wsX2_takes : List Cond := wd_359 :: ([wd_251, wd_334, wd_335, wd_336, wd_154, wd_252, wd_249, wd_250] ++ wsX20)
noncomputable abbrev wd_360 : Cond := Cond.methodLink RX2 85 yX2_wordOf
noncomputable abbrev wd_361 : Cond := Cond.static yX2_wordOf
noncomputable abbrev wd_362 : Cond := Cond.methodLink RX2 89 yJ0_length_8abf5
noncomputable abbrev wd_363 : Cond := Cond.methodLink RX2 93 yJ0_charAt_5068e
noncomputable abbrev wd_364 : Cond := Cond.instanceMethod yJ0_charAt_5068e
noncomputable abbrev wd_365 : Cond := Cond.selects RJ0 yJ0_charAt_5068e yJ0_charAt_5068e
noncomputable def wsX2_readsWord_r1 : List Cond := [wd_360, wd_361, wd_154, wd_341, wd_362, wd_323, wd_324, wd_262, wd_257, wd_258, wd_259, wd_260, wd_261, wd_256, wd_254, wd_255, wd_363, wd_364, wd_365, wd_358, wd_319, wd_320, wd_321, wd_253]
noncomputable def wsX2_readsWord_r2 : List Cond := [wd_354, wd_355, wd_270, wd_346, wd_347, wd_348, wd_343, wd_276, wd_344, wd_345, wd_279, wd_342, wd_356, wd_357, wd_283, wd_351, wd_352, wd_353, wd_349, wd_281, wd_282, wd_273, wd_350, wd_291]
noncomputable abbrev wd_366 : Cond := Cond.methodLink RX2 60 yX2_takes
noncomputable abbrev wd_367 : Cond := Cond.instanceMethod yX2_takes
noncomputable abbrev wd_368 : Cond := Cond.selects RX2 yX2_takes yX2_takes
noncomputable def wsX2_readsWord_r3 : List Cond := [wd_292, wd_286, wd_287, wd_288, wd_289, wd_366, wd_367, wd_368, wd_359, wd_251, wd_334, wd_335, wd_336, wd_252, wd_249, wd_250]
noncomputable abbrev wd_369 : Cond := Cond.code yX2_readsWord cX2_readsWord 4 (some .boolean)
noncomputable def wsX2_readsWord : List Cond := wd_369 :: ((wsX2_readsWord_r1 ++ (wsX2_readsWord_r2 ++ wsX2_readsWord_r3)) ++ wsX20)
noncomputable abbrev wd_370 : Cond := Cond.code yX2_isDigit cX2_isDigit 1 (some .boolean)
noncomputable def wsX2_isDigit : List Cond := wd_370 :: ([wd_334, wd_335, wd_336, wd_154, wd_252, wd_249, wd_251, wd_250] ++ wsX20)
noncomputable abbrev wd_371 : Cond := Cond.code yX2_readsNumber cX2_readsNumber 2 (some .int)
noncomputable abbrev wd_372 : Cond := Cond.methodLink RX2 127 yX2_isDigit
noncomputable abbrev wd_373 : Cond := Cond.instanceMethod yX2_isDigit
noncomputable abbrev wd_374 : Cond := Cond.selects RX2 yX2_isDigit yX2_isDigit
noncomputable def wsX2_readsNumber : List Cond := wd_371 :: ([wd_251, wd_372, wd_373, wd_374, wd_154, wd_370, wd_334, wd_335, wd_336, wd_252, wd_249, wd_250] ++ wsX20)
noncomputable abbrev wd_375 : Cond := Cond.code yX2_writes cX2_writes 2 none
noncomputable def wsX2_writes : List Cond := wd_375 :: ([wd_144, wd_145] ++ wsX20)
noncomputable abbrev wd_376 : Cond := Cond.methodLink RX2 66 yX2_signAmong
noncomputable abbrev wd_377 : Cond := Cond.instanceMethod yX2_signAmong
noncomputable abbrev wd_378 : Cond := Cond.selects RX2 yX2_signAmong yX2_signAmong
noncomputable def wsX2_readsTest_r1 : List Cond := [wd_251, wd_376, wd_377, wd_378, wd_154, wd_340, wd_334, wd_335, wd_336, wd_252, wd_249, wd_250, wd_337, wd_338, wd_339, wd_262, wd_333, wd_330, wd_331, wd_332, wd_329, wd_258, wd_319, wd_320]
noncomputable def wsX2_readsTest_r2 : List Cond := [wd_321, wd_253, wd_254, wd_255, wd_322, wd_323, wd_324, wd_257, wd_259, wd_260, wd_261, wd_256, wd_325, wd_326, wd_270, wd_265, wd_266, wd_217, wd_125, wd_218, wd_267, wd_124, wd_126, wd_268]
noncomputable def wsX2_readsTest_r3 : List Cond := [wd_269, wd_263, wd_271, wd_272, wd_264, wd_327, wd_328, wd_283, wd_318, wd_311, wd_312, wd_313, wd_314, wd_315, wd_297, wd_293, wd_294, wd_280, wd_281, wd_282, wd_273, wd_284, wd_285, wd_275]
noncomputable def wsX2_readsTest_r4 : List Cond := [wd_276, wd_277, wd_278, wd_279, wd_274, wd_295, wd_296, wd_290, wd_291, wd_292, wd_286, wd_287, wd_288, wd_289, wd_316, wd_317, wd_310, wd_303, wd_304, wd_305, wd_298, wd_306, wd_307, wd_299]
noncomputable abbrev wd_379 : Cond := Cond.methodLink RX2 74 yX2_readsNumber
noncomputable abbrev wd_380 : Cond := Cond.instanceMethod yX2_readsNumber
noncomputable abbrev wd_381 : Cond := Cond.selects RX2 yX2_readsNumber yX2_readsNumber
noncomputable abbrev wd_382 : Cond := Cond.methodLink RX2 113 yX2_writes
noncomputable abbrev wd_383 : Cond := Cond.instanceMethod yX2_writes
noncomputable abbrev wd_384 : Cond := Cond.selects RX2 yX2_writes yX2_writes
noncomputable def wsX2_readsTest_r5 : List Cond := [wd_300, wd_308, wd_309, wd_301, wd_302, wd_379, wd_380, wd_381, wd_371, wd_372, wd_373, wd_374, wd_370, wd_382, wd_383, wd_384, wd_375, wd_144, wd_145]
noncomputable abbrev wd_385 : Cond := Cond.code yX2_readsTest cX2_readsTest 4 (some .boolean)
noncomputable def wsX2_readsTest : List Cond := wd_385 :: ((wsX2_readsTest_r1 ++ (wsX2_readsTest_r2 ++ (wsX2_readsTest_r3 ++ (wsX2_readsTest_r4 ++ wsX2_readsTest_r5)))) ++ wsX20)
noncomputable abbrev wd_386 : Cond := Cond.methodLink RX2 117 yX2_readsPart
noncomputable abbrev wd_387 : Cond := Cond.instanceMethod yX2_readsPart
noncomputable abbrev wd_388 : Cond := Cond.selects RX2 yX2_readsPart yX2_readsPart
noncomputable abbrev wd_389 : Cond := Cond.code yX2_readsEither cX2_readsEither 3 (some .boolean)
noncomputable abbrev wd_390 : Cond := Cond.methodLink RX2 110 yX2_readsBoth
noncomputable abbrev wd_391 : Cond := Cond.instanceMethod yX2_readsBoth
noncomputable def wsX2_readsBoth_r1 : List Cond := [wd_386, wd_387, wd_388, wd_154, wd_366, wd_367, wd_368, wd_359, wd_251, wd_334, wd_335, wd_336, wd_252, wd_249, wd_250, wd_382, wd_383, wd_384, wd_375, wd_144, wd_145, wd_389, wd_390, wd_391]
noncomputable abbrev wd_392 : Cond := Cond.selects RX2 yX2_readsBoth yX2_readsBoth
noncomputable abbrev wd_393 : Cond := Cond.code yX2_readsPart cX2_readsPart 2 (some .boolean)
noncomputable abbrev wd_394 : Cond := Cond.methodLink RX2 78 yX2_readsEither
noncomputable abbrev wd_395 : Cond := Cond.instanceMethod yX2_readsEither
noncomputable abbrev wd_396 : Cond := Cond.selects RX2 yX2_readsEither yX2_readsEither
noncomputable abbrev wd_397 : Cond := Cond.methodLink RX2 120 yX2_readsTest
noncomputable abbrev wd_398 : Cond := Cond.instanceMethod yX2_readsTest
noncomputable abbrev wd_399 : Cond := Cond.selects RX2 yX2_readsTest yX2_readsTest
noncomputable def wsX2_readsBoth_r2 : List Cond := [wd_392, wd_393, wd_394, wd_395, wd_396, wd_397, wd_398, wd_399, wd_385, wd_376, wd_377, wd_378, wd_340, wd_337, wd_338, wd_339, wd_262, wd_333, wd_330, wd_331, wd_332, wd_329, wd_258, wd_319]
noncomputable def wsX2_readsBoth_r3 : List Cond := [wd_320, wd_321, wd_253, wd_254, wd_255, wd_322, wd_323, wd_324, wd_257, wd_259, wd_260, wd_261, wd_256, wd_325, wd_326, wd_270, wd_265, wd_266, wd_217, wd_125, wd_218, wd_267, wd_124, wd_126]
noncomputable def wsX2_readsBoth_r4 : List Cond := [wd_268, wd_269, wd_263, wd_271, wd_272, wd_264, wd_327, wd_328, wd_283, wd_318, wd_311, wd_312, wd_313, wd_314, wd_315, wd_297, wd_293, wd_294, wd_280, wd_281, wd_282, wd_273, wd_284, wd_285]
noncomputable def wsX2_readsBoth_r5 : List Cond := [wd_275, wd_276, wd_277, wd_278, wd_279, wd_274, wd_295, wd_296, wd_290, wd_291, wd_292, wd_286, wd_287, wd_288, wd_289, wd_316, wd_317, wd_310, wd_303, wd_304, wd_305, wd_298, wd_306, wd_307]
noncomputable def wsX2_readsBoth_r6 : List Cond := [wd_299, wd_300, wd_308, wd_309, wd_301, wd_302, wd_379, wd_380, wd_381, wd_371, wd_372, wd_373, wd_374, wd_370]
noncomputable abbrev wd_400 : Cond := Cond.code yX2_readsBoth cX2_readsBoth 3 (some .boolean)
noncomputable def wsX2_readsBoth : List Cond := wd_400 :: ((wsX2_readsBoth_r1 ++ (wsX2_readsBoth_r2 ++ (wsX2_readsBoth_r3 ++ (wsX2_readsBoth_r4 ++ (wsX2_readsBoth_r5 ++ wsX2_readsBoth_r6))))) ++ wsX20)
noncomputable def wsX2_readsEither_r1 : List Cond := [wd_390, wd_391, wd_392, wd_154, wd_366, wd_367, wd_368, wd_359, wd_251, wd_334, wd_335, wd_336, wd_252, wd_249, wd_250, wd_382, wd_383, wd_384, wd_375, wd_144, wd_145, wd_400, wd_386, wd_387]
noncomputable def wsX2_readsEither_r2 : List Cond := [wd_388, wd_393, wd_394, wd_395, wd_396, wd_397, wd_398, wd_399, wd_385, wd_376, wd_377, wd_378, wd_340, wd_337, wd_338, wd_339, wd_262, wd_333, wd_330, wd_331, wd_332, wd_329, wd_258, wd_319]
noncomputable def wsX2_readsEither_r3 : List Cond := [wd_320, wd_321, wd_253, wd_254, wd_255, wd_322, wd_323, wd_324, wd_257, wd_259, wd_260, wd_261, wd_256, wd_325, wd_326, wd_270, wd_265, wd_266, wd_217, wd_125, wd_218, wd_267, wd_124, wd_126]
noncomputable def wsX2_readsEither_r4 : List Cond := [wd_268, wd_269, wd_263, wd_271, wd_272, wd_264, wd_327, wd_328, wd_283, wd_318, wd_311, wd_312, wd_313, wd_314, wd_315, wd_297, wd_293, wd_294, wd_280, wd_281, wd_282, wd_273, wd_284, wd_285]
noncomputable def wsX2_readsEither_r5 : List Cond := [wd_275, wd_276, wd_277, wd_278, wd_279, wd_274, wd_295, wd_296, wd_290, wd_291, wd_292, wd_286, wd_287, wd_288, wd_289, wd_316, wd_317, wd_310, wd_303, wd_304, wd_305, wd_298, wd_306, wd_307]
noncomputable def wsX2_readsEither_r6 : List Cond := [wd_299, wd_300, wd_308, wd_309, wd_301, wd_302, wd_379, wd_380, wd_381, wd_371, wd_372, wd_373, wd_374, wd_370]
noncomputable def wsX2_readsEither : List Cond := wd_389 :: ((wsX2_readsEither_r1 ++ (wsX2_readsEither_r2 ++ (wsX2_readsEither_r3 ++ (wsX2_readsEither_r4 ++ (wsX2_readsEither_r5 ++ wsX2_readsEither_r6))))) ++ wsX20)
noncomputable def wsX2_readsPart_r1 : List Cond := [wd_366, wd_367, wd_368, wd_154, wd_359, wd_251, wd_334, wd_335, wd_336, wd_252, wd_249, wd_250, wd_386, wd_387, wd_388, wd_382, wd_383, wd_384, wd_375, wd_144, wd_145, wd_394, wd_395, wd_396]
noncomputable def wsX2_readsPart_r2 : List Cond := [wd_397, wd_398, wd_399, wd_385, wd_376, wd_377, wd_378, wd_340, wd_337, wd_338, wd_339, wd_262, wd_333, wd_330, wd_331, wd_332, wd_329, wd_258, wd_319, wd_320, wd_321, wd_253, wd_254, wd_255]
noncomputable def wsX2_readsPart_r3 : List Cond := [wd_322, wd_323, wd_324, wd_257, wd_259, wd_260, wd_261, wd_256, wd_325, wd_326, wd_270, wd_265, wd_266, wd_217, wd_125, wd_218, wd_267, wd_124, wd_126, wd_268, wd_269, wd_263, wd_271, wd_272]
noncomputable def wsX2_readsPart_r4 : List Cond := [wd_264, wd_327, wd_328, wd_283, wd_318, wd_311, wd_312, wd_313, wd_314, wd_315, wd_297, wd_293, wd_294, wd_280, wd_281, wd_282, wd_273, wd_284, wd_285, wd_275, wd_276, wd_277, wd_278, wd_279]
noncomputable def wsX2_readsPart_r5 : List Cond := [wd_274, wd_295, wd_296, wd_290, wd_291, wd_292, wd_286, wd_287, wd_288, wd_289, wd_316, wd_317, wd_310, wd_303, wd_304, wd_305, wd_298, wd_306, wd_307, wd_299, wd_300, wd_308, wd_309, wd_301]
noncomputable def wsX2_readsPart_r6 : List Cond := [wd_302, wd_379, wd_380, wd_381, wd_371, wd_372, wd_373, wd_374, wd_370, wd_400, wd_389, wd_390, wd_391, wd_392]
noncomputable def wsX2_readsPart : List Cond := wd_393 :: ((wsX2_readsPart_r1 ++ (wsX2_readsPart_r2 ++ (wsX2_readsPart_r3 ++ (wsX2_readsPart_r4 ++ (wsX2_readsPart_r5 ++ wsX2_readsPart_r6))))) ++ wsX20)
noncomputable abbrev wd_401 : Cond := Cond.code yX2_keeps cX2_keeps 3 none
noncomputable abbrev wd_402 : Cond := Cond.methodLink RX2 107 Lib.Math.max.name
noncomputable def wsX2_keeps : List Cond := wd_401 :: ([wd_246, wd_247, wd_402, wd_217, wd_125, wd_218, wd_248, wd_147, wd_148, wd_150, wd_149, wd_144] ++ wsX20)
noncomputable def wsX2_readsClause_r1 : List Cond := [wd_376, wd_377, wd_378, wd_154, wd_340, wd_334, wd_335, wd_336, wd_252, wd_249, wd_251, wd_250, wd_337, wd_338, wd_339, wd_262, wd_333, wd_330, wd_331, wd_332, wd_329, wd_258, wd_319, wd_320]
noncomputable def wsX2_readsClause_r2 : List Cond := [wd_321, wd_253, wd_254, wd_255, wd_322, wd_323, wd_324, wd_257, wd_259, wd_260, wd_261, wd_256, wd_325, wd_326, wd_270, wd_265, wd_266, wd_217, wd_125, wd_218, wd_267, wd_124, wd_126, wd_268]
noncomputable def wsX2_readsClause_r3 : List Cond := [wd_269, wd_263, wd_271, wd_272, wd_264, wd_327, wd_328, wd_283, wd_318, wd_311, wd_312, wd_313, wd_314, wd_315, wd_297, wd_293, wd_294, wd_280, wd_281, wd_282, wd_273, wd_284, wd_285, wd_275]
noncomputable def wsX2_readsClause_r4 : List Cond := [wd_276, wd_277, wd_278, wd_279, wd_274, wd_295, wd_296, wd_290, wd_291, wd_292, wd_286, wd_287, wd_288, wd_289, wd_316, wd_317, wd_310, wd_303, wd_304, wd_305, wd_298, wd_306, wd_307, wd_299]
noncomputable abbrev wd_403 : Cond := Cond.methodLink RX2 70 yX2_readsWord
noncomputable abbrev wd_404 : Cond := Cond.instanceMethod yX2_readsWord
noncomputable abbrev wd_405 : Cond := Cond.selects RX2 yX2_readsWord yX2_readsWord
noncomputable def wsX2_readsClause_r5 : List Cond := [wd_300, wd_308, wd_309, wd_301, wd_302, wd_403, wd_404, wd_405, wd_369, wd_360, wd_361, wd_341, wd_362, wd_363, wd_364, wd_365, wd_358, wd_354, wd_355, wd_346, wd_347, wd_348, wd_343, wd_344]
noncomputable def wsX2_readsClause_r6 : List Cond := [wd_345, wd_342, wd_356, wd_357, wd_351, wd_352, wd_353, wd_349, wd_350, wd_366, wd_367, wd_368, wd_359, wd_379, wd_380, wd_381, wd_371, wd_372, wd_373, wd_374, wd_370, wd_394, wd_395, wd_396]
noncomputable abbrev wd_406 : Cond := Cond.methodLink RX2 81 yX2_keeps
noncomputable abbrev wd_407 : Cond := Cond.instanceMethod yX2_keeps
noncomputable abbrev wd_408 : Cond := Cond.selects RX2 yX2_keeps yX2_keeps
noncomputable def wsX2_readsClause_r7 : List Cond := [wd_389, wd_390, wd_391, wd_392, wd_382, wd_383, wd_384, wd_375, wd_144, wd_145, wd_400, wd_386, wd_387, wd_388, wd_393, wd_397, wd_398, wd_399, wd_385, wd_406, wd_407, wd_408, wd_401, wd_246]
noncomputable def wsX2_readsClause_r8 : List Cond := [wd_247, wd_402, wd_248, wd_147, wd_148, wd_150, wd_149]
noncomputable abbrev wd_409 : Cond := Cond.code yX2_readsClause cX2_readsClause 3 (some .boolean)
noncomputable def wsX2_readsClause : List Cond := wd_409 :: ((wsX2_readsClause_r1 ++ (wsX2_readsClause_r2 ++ (wsX2_readsClause_r3 ++ (wsX2_readsClause_r4 ++ (wsX2_readsClause_r5 ++ (wsX2_readsClause_r6 ++ (wsX2_readsClause_r7 ++ wsX2_readsClause_r8))))))) ++ wsX20)
noncomputable abbrev wd_410 : Cond := Cond.methodLink RX2 50 Lib.Math.min.name
noncomputable abbrev wd_411 : Cond := Cond.methodLink RX2 56 yX2_readsClause
noncomputable abbrev wd_412 : Cond := Cond.instanceMethod yX2_readsClause
noncomputable abbrev wd_413 : Cond := Cond.selects RX2 yX2_readsClause yX2_readsClause
noncomputable def wsX2_reads_r1 : List Cond := [wd_246, wd_247, wd_248, wd_144, wd_147, wd_249, wd_410, wd_124, wd_125, wd_126, wd_250, wd_251, wd_411, wd_412, wd_413, wd_154, wd_409, wd_376, wd_377, wd_378, wd_340, wd_334, wd_335, wd_336]
noncomputable def wsX2_reads_r2 : List Cond := [wd_252, wd_337, wd_338, wd_339, wd_262, wd_333, wd_330, wd_331, wd_332, wd_329, wd_258, wd_319, wd_320, wd_321, wd_253, wd_254, wd_255, wd_322, wd_323, wd_324, wd_257, wd_259, wd_260, wd_261]
noncomputable def wsX2_reads_r3 : List Cond := [wd_256, wd_325, wd_326, wd_270, wd_265, wd_266, wd_217, wd_218, wd_267, wd_268, wd_269, wd_263, wd_271, wd_272, wd_264, wd_327, wd_328, wd_283, wd_318, wd_311, wd_312, wd_313, wd_314, wd_315]
noncomputable def wsX2_reads_r4 : List Cond := [wd_297, wd_293, wd_294, wd_280, wd_281, wd_282, wd_273, wd_284, wd_285, wd_275, wd_276, wd_277, wd_278, wd_279, wd_274, wd_295, wd_296, wd_290, wd_291, wd_292, wd_286, wd_287, wd_288, wd_289]
noncomputable def wsX2_reads_r5 : List Cond := [wd_316, wd_317, wd_310, wd_303, wd_304, wd_305, wd_298, wd_306, wd_307, wd_299, wd_300, wd_308, wd_309, wd_301, wd_302, wd_403, wd_404, wd_405, wd_369, wd_360, wd_361, wd_341, wd_362, wd_363]
noncomputable def wsX2_reads_r6 : List Cond := [wd_364, wd_365, wd_358, wd_354, wd_355, wd_346, wd_347, wd_348, wd_343, wd_344, wd_345, wd_342, wd_356, wd_357, wd_351, wd_352, wd_353, wd_349, wd_350, wd_366, wd_367, wd_368, wd_359, wd_379]
noncomputable def wsX2_reads_r7 : List Cond := [wd_380, wd_381, wd_371, wd_372, wd_373, wd_374, wd_370, wd_394, wd_395, wd_396, wd_389, wd_390, wd_391, wd_392, wd_382, wd_383, wd_384, wd_375, wd_145, wd_400, wd_386, wd_387, wd_388, wd_393]
noncomputable def wsX2_reads_r8 : List Cond := [wd_397, wd_398, wd_399, wd_385, wd_406, wd_407, wd_408, wd_401, wd_402, wd_148, wd_150, wd_149]
noncomputable abbrev wd_414 : Cond := Cond.code yX2_reads cX2_reads 4 (some .boolean)
noncomputable def wsX2_reads : List Cond := wd_414 :: ((wsX2_reads_r1 ++ (wsX2_reads_r2 ++ (wsX2_reads_r3 ++ (wsX2_reads_r4 ++ (wsX2_reads_r5 ++ (wsX2_reads_r6 ++ (wsX2_reads_r7 ++ wsX2_reads_r8))))))) ++ wsX20)
noncomputable abbrev wd_415 : Cond := Cond.code yX2_fault cX2_fault 1 (some .int)
noncomputable def wsX2_fault : List Cond := wd_415 :: ([wd_251] ++ wsX20)
noncomputable abbrev wd_416 : Cond := Cond.code yX3_init cX3_init 4 none
noncomputable abbrev wd_417 : Cond := Cond.methodLink RX3 1 yX4_init
noncomputable def wsX3_init : List Cond := wd_416 :: ([wd_417, wd_9, wd_10, wd_0, wd_1, wd_2, wd_3, wd_4, wd_5, wd_6] ++ wsX00 ++ wsX30 ++ wsX40 ++ wsX60 ++ wsX70 ++ wsX80 ++ wsX100)
noncomputable abbrev wd_418 : Cond := Cond.code yX5_isFull cX5_isFull 1 (some .boolean)
noncomputable def wsX5_isFull : List Cond := wd_418 :: ([wd_19, wd_20] ++ wsX50)
noncomputable abbrev wd_419 : Cond := Cond.code yX5_has cX5_has 2 (some .boolean)
noncomputable def wsX5_has : List Cond := wd_419 :: ([wd_19, wd_20] ++ wsX50)
noncomputable abbrev wd_420 : Cond := Cond.code yX8_init cX8_init 4 none
noncomputable abbrev wd_421 : Cond := Cond.methodLink RX8 1 yX4_init
noncomputable def wsX8_init : List Cond := wd_420 :: ([wd_421, wd_9, wd_10, wd_0, wd_1, wd_2, wd_3, wd_4, wd_5, wd_6] ++ wsX00 ++ wsX30 ++ wsX40 ++ wsX60 ++ wsX70 ++ wsX80 ++ wsX100)
noncomputable abbrev wd_422 : Cond := Cond.code yX6_init cX6_init 4 none
noncomputable abbrev wd_423 : Cond := Cond.methodLink RX6 1 yX8_init
noncomputable abbrev wd_424 : Cond := Cond.instanceMethod yX8_init
noncomputable def wsX6_init : List Cond := wd_422 :: ([wd_423, wd_424, wd_65, wd_420, wd_421, wd_9, wd_10, wd_0, wd_1, wd_2, wd_3, wd_4, wd_5, wd_6] ++ wsX00 ++ wsX30 ++ wsX40 ++ wsX60 ++ wsX70 ++ wsX80 ++ wsX100)
noncomputable abbrev wd_425 : Cond := Cond.code yX7_init cX7_init 4 none
noncomputable abbrev wd_426 : Cond := Cond.methodLink RX7 1 yX3_init
noncomputable abbrev wd_427 : Cond := Cond.instanceMethod yX3_init
noncomputable def wsX7_init : List Cond := wd_425 :: ([wd_426, wd_427, wd_43, wd_416, wd_417, wd_9, wd_10, wd_0, wd_1, wd_2, wd_3, wd_4, wd_5, wd_6] ++ wsX00 ++ wsX30 ++ wsX40 ++ wsX60 ++ wsX70 ++ wsX80 ++ wsX100)
noncomputable abbrev wd_428 : Cond := Cond.code yX7_telling cX7_telling 3 (some .int)
noncomputable abbrev wd_429 : Cond := Cond.fieldLink RX7 23 "NineMowers$Pressed" "number" "I"
noncomputable abbrev wd_430 : Cond := Cond.sameField "NineMowers$Pressed" "NineMowers$Mower" "number" "I"
noncomputable abbrev wd_431 : Cond := Cond.methodLink RX7 17 yX5_comes
noncomputable def wsX7_telling : List Cond := wd_428 :: ([wd_429, wd_430, wd_431, wd_23, wd_24, wd_25, wd_18, wd_19, wd_20] ++ wsX00 ++ wsX30 ++ wsX40 ++ wsX60 ++ wsX70 ++ wsX80 ++ wsX100 ++ wsX50)
noncomputable abbrev wd_432 : Cond := Cond.code yX9_init cX9_init 1 none
noncomputable abbrev wd_433 : Cond := Cond.methodLink RX9 1 objectInit
noncomputable abbrev wd_434 : Cond := Cond.arrayClass .long
noncomputable abbrev wd_435 : Cond := Cond.fieldLink RX9 9 "NineMowers$Tape" "items" "[J"
noncomputable abbrev wd_436 : Cond := Cond.fieldLink RX9 13 "NineMowers$Tape" "sort" "I"
noncomputable abbrev wd_437 : Cond := Cond.fieldLink RX9 17 "NineMowers$Tape" "size" "I"
noncomputable def wsX9_init : List Cond := wd_432 :: ([wd_433, wd_2, wd_3, wd_434, wd_435, wd_436, wd_437] ++ wsX90)
noncomputable abbrev wd_438 : Cond := Cond.code yJ7_fill_d0a16 cJ7_fill_d0a16 5 none
noncomputable def wsJ7_fill_d0a16 : List Cond := wd_438 :: ([])
noncomputable abbrev wd_439 : Cond := Cond.code yX9_becomes cX9_becomes 3 none
noncomputable abbrev wd_440 : Cond := Cond.methodLink RX9 20 yJ7_fill_d0a16
noncomputable abbrev wd_441 : Cond := Cond.static yJ7_fill_d0a16
noncomputable abbrev wd_442 : Cond := Cond.initialized RJ7
noncomputable def wsX9_becomes : List Cond := wd_439 :: ([wd_436, wd_437, wd_435, wd_440, wd_441, wd_442, wd_438] ++ wsX90)
noncomputable abbrev wd_443 : Cond := Cond.code yX9_isEmpty cX9_isEmpty 1 (some .boolean)
noncomputable def wsX9_isEmpty : List Cond := wd_443 :: ([wd_436] ++ wsX90)
noncomputable abbrev wd_444 : Cond := Cond.code yX9_has cX9_has 2 (some .boolean)
noncomputable def wsX9_has : List Cond := wd_444 :: ([wd_437] ++ wsX90)
noncomputable abbrev wd_445 : Cond := Cond.code yX9_hasPart cX9_hasPart 3 (some .boolean)
noncomputable def wsX9_hasPart : List Cond := wd_445 :: ([wd_437] ++ wsX90)
noncomputable abbrev wd_446 : Cond := Cond.code yX9_cut cX9_cut 3 (some .long)
noncomputable def wsX9_cut : List Cond := wd_446 :: ([wd_436] ++ wsX90)
noncomputable abbrev wd_447 : Cond := Cond.code yX10_init cX10_init 4 none
noncomputable abbrev wd_448 : Cond := Cond.methodLink RX10 1 yX0_init
noncomputable abbrev wd_449 : Cond := Cond.instanceMethod yX0_init
noncomputable def wsX10_init : List Cond := wd_447 :: ([wd_448, wd_449, wd_195, wd_7, wd_8, wd_9, wd_10, wd_0, wd_1, wd_2, wd_3, wd_4, wd_5, wd_6] ++ wsX00 ++ wsX30 ++ wsX40 ++ wsX60 ++ wsX70 ++ wsX80 ++ wsX100)
noncomputable abbrev wd_450 : Cond := Cond.methodLink RX11 3 objectInit
noncomputable abbrev wd_451 : Cond := Cond.classLink RX11 9 RX1
noncomputable abbrev wd_452 : Cond := Cond.instantiable RX1 17
noncomputable abbrev wd_453 : Cond := Cond.fieldLink RX11 12 "NineMowers" "now" "LNineMowers$Course;"
noncomputable abbrev wd_454 : Cond := Cond.fieldLink RX11 18 "NineMowers" "image" "LNineMowers$Course;"
noncomputable abbrev wd_455 : Cond := Cond.fieldLink RX11 21 "NineMowers" "trial" "LNineMowers$Course;"
noncomputable abbrev wd_456 : Cond := Cond.fieldLink RX11 24 "NineMowers" "imageTaken" "Z"
noncomputable abbrev wd_457 : Cond := Cond.classLink RX11 28 RX2
noncomputable abbrev wd_458 : Cond := Cond.fieldLink RX11 30 "NineMowers" "fields" "[LNineMowers$Field;"
noncomputable abbrev wd_459 : Cond := Cond.fieldLink RX11 34 "NineMowers" "fieldCount" "I"
noncomputable abbrev wd_460 : Cond := Cond.arrayClass .byte
noncomputable abbrev wd_461 : Cond := Cond.fieldLink RX11 38 "NineMowers" "text" "[B"
noncomputable abbrev wd_462 : Cond := Cond.fieldLink RX11 42 "NineMowers" "textLength" "I"
noncomputable abbrev wd_463 : Cond := Cond.classLink RX11 45 RX9
noncomputable abbrev wd_464 : Cond := Cond.fieldLink RX11 47 "NineMowers" "tapes" "[LNineMowers$Tape;"
noncomputable abbrev wd_465 : Cond := Cond.classLink RX11 51 RX5
noncomputable abbrev wd_466 : Cond := Cond.fieldLink RX11 56 "NineMowers" "trace" "LNineMowers$Numbers;"
noncomputable abbrev wd_467 : Cond := Cond.fieldLink RX11 60 "NineMowers" "tried" "[I"
noncomputable def wsX11_init_r1 : List Cond := [wd_450, wd_2, wd_3, wd_451, wd_452, wd_139, wd_453, wd_454, wd_455, wd_456, wd_457, wd_458, wd_459, wd_460, wd_461, wd_462, wd_463, wd_464, wd_465, wd_108, wd_25, wd_466, wd_92, wd_467]
noncomputable abbrev wd_468 : Cond := Cond.fieldLink RX11 64 "NineMowers" "bestOrder" "[I"
noncomputable abbrev wd_469 : Cond := Cond.fieldLink RX11 67 "NineMowers" "asItIs" "[I"
noncomputable abbrev wd_470 : Cond := Cond.instantiable RX2 12
noncomputable abbrev wd_471 : Cond := Cond.fieldLink RX11 71 "NineMowers$Course" "field" "LNineMowers$Field;"
noncomputable abbrev wd_472 : Cond := Cond.instantiable RX9 3
noncomputable abbrev wd_473 : Cond := Cond.initialized RX9
noncomputable abbrev wd_474 : Cond := Cond.instanceMethod yX1_init
noncomputable def wsX11_init_r2 : List Cond := [wd_468, wd_469, wd_470, wd_154, wd_471, wd_472, wd_473, wd_474, wd_116, wd_93, wd_94, wd_95, wd_96, wd_97, wd_98, wd_99, wd_100, wd_101, wd_102, wd_103, wd_104, wd_105, wd_106, wd_107]
noncomputable abbrev wd_475 : Cond := Cond.methodLink RX11 53 yX5_init
noncomputable abbrev wd_476 : Cond := Cond.instanceMethod yX2_init
noncomputable def wsX11_init_r3 : List Cond := [wd_109, wd_110, wd_111, wd_112, wd_113, wd_114, wd_115, wd_90, wd_91, wd_19, wd_20, wd_475, wd_476, wd_244, wd_245, wd_246, wd_247, wd_248, wd_145, wd_144, wd_148, wd_150, wd_149, wd_147]
noncomputable abbrev wd_477 : Cond := Cond.instanceMethod yX9_init
noncomputable def wsX11_init_r4 : List Cond := [wd_249, wd_250, wd_251, wd_477, wd_432, wd_433, wd_434, wd_435, wd_436, wd_437]
noncomputable abbrev wd_478 : Cond := Cond.code yX11_init cX11_init 3 none
noncomputable def wsX11_init : List Cond := wd_478 :: ((wsX11_init_r1 ++ (wsX11_init_r2 ++ (wsX11_init_r3 ++ wsX11_init_r4))) ++ wsX10 ++ wsX110 ++ wsX50 ++ wsX20 ++ wsX90)
noncomputable abbrev wd_479 : Cond := Cond.classLink RX11 87 RX8
noncomputable abbrev wd_480 : Cond := Cond.instantiable RX8 3
noncomputable abbrev wd_481 : Cond := Cond.classLink RX11 92 RX3
noncomputable abbrev wd_482 : Cond := Cond.instantiable RX3 3
noncomputable abbrev wd_483 : Cond := Cond.classLink RX11 95 RX0
noncomputable abbrev wd_484 : Cond := Cond.instantiable RX0 3
noncomputable abbrev wd_485 : Cond := Cond.classLink RX11 98 RX6
noncomputable abbrev wd_486 : Cond := Cond.instantiable RX6 3
noncomputable abbrev wd_487 : Cond := Cond.classLink RX11 101 RX7
noncomputable abbrev wd_488 : Cond := Cond.instantiable RX7 3
noncomputable abbrev wd_489 : Cond := Cond.classLink RX11 104 RX10
noncomputable abbrev wd_490 : Cond := Cond.instantiable RX10 3
noncomputable abbrev wd_491 : Cond := Cond.classLink RX11 107 RX4
noncomputable abbrev wd_492 : Cond := Cond.instantiable RX4 3
noncomputable abbrev wd_493 : Cond := Cond.methodLink RX11 89 yX8_init
noncomputable def wsX11_made_r1 : List Cond := [wd_479, wd_480, wd_65, wd_481, wd_482, wd_43, wd_483, wd_484, wd_195, wd_485, wd_486, wd_48, wd_487, wd_488, wd_209, wd_489, wd_490, wd_53, wd_491, wd_492, wd_10, wd_493, wd_424, wd_420]
noncomputable abbrev wd_494 : Cond := Cond.methodLink RX11 94 yX3_init
noncomputable abbrev wd_495 : Cond := Cond.methodLink RX11 97 yX0_init
noncomputable abbrev wd_496 : Cond := Cond.methodLink RX11 100 yX6_init
noncomputable abbrev wd_497 : Cond := Cond.instanceMethod yX6_init
noncomputable abbrev wd_498 : Cond := Cond.methodLink RX11 103 yX7_init
noncomputable abbrev wd_499 : Cond := Cond.instanceMethod yX7_init
noncomputable def wsX11_made_r2 : List Cond := [wd_421, wd_9, wd_0, wd_1, wd_2, wd_3, wd_4, wd_5, wd_6, wd_494, wd_427, wd_416, wd_417, wd_495, wd_449, wd_7, wd_8, wd_496, wd_497, wd_422, wd_423, wd_498, wd_499, wd_425]
noncomputable abbrev wd_500 : Cond := Cond.methodLink RX11 106 yX10_init
noncomputable abbrev wd_501 : Cond := Cond.instanceMethod yX10_init
noncomputable abbrev wd_502 : Cond := Cond.methodLink RX11 109 yX4_init
noncomputable def wsX11_made_r3 : List Cond := [wd_426, wd_500, wd_501, wd_447, wd_448, wd_502]
noncomputable abbrev wd_503 : Cond := Cond.code yX11_made cX11_made 3 (some (.object "NineMowers$Mower"))
noncomputable def wsX11_made : List Cond := wd_503 :: ((wsX11_made_r1 ++ (wsX11_made_r2 ++ wsX11_made_r3)) ++ wsX80 ++ wsX30 ++ wsX00 ++ wsX60 ++ wsX70 ++ wsX100 ++ wsX40)
noncomputable abbrev wd_504 : Cond := Cond.fieldLink RX11 76 "NineMowers$Course" "count" "I"
noncomputable abbrev wd_505 : Cond := Cond.methodLink RX11 79 yX11_made
noncomputable abbrev wd_506 : Cond := Cond.static yX11_made
noncomputable abbrev wd_507 : Cond := Cond.initialized RX11
noncomputable def wsX11_mower_r1 : List Cond := [wd_453, wd_504, wd_505, wd_506, wd_507, wd_503, wd_479, wd_480, wd_65, wd_481, wd_482, wd_43, wd_483, wd_484, wd_195, wd_485, wd_486, wd_48, wd_487, wd_488, wd_209, wd_489, wd_490, wd_53]
noncomputable def wsX11_mower_r2 : List Cond := [wd_491, wd_492, wd_10, wd_493, wd_424, wd_420, wd_421, wd_9, wd_0, wd_1, wd_2, wd_3, wd_4, wd_5, wd_6, wd_494, wd_427, wd_416, wd_417, wd_495, wd_449, wd_7, wd_8, wd_496]
noncomputable abbrev wd_508 : Cond := Cond.methodLink RX11 83 yX1_comes
noncomputable abbrev wd_509 : Cond := Cond.instanceMethod yX1_comes
noncomputable abbrev wd_510 : Cond := Cond.selects RX1 yX1_comes yX1_comes
noncomputable def wsX11_mower_r3 : List Cond := [wd_497, wd_422, wd_423, wd_498, wd_499, wd_425, wd_426, wd_500, wd_501, wd_447, wd_448, wd_502, wd_508, wd_509, wd_510, wd_139, wd_132, wd_133, wd_95, wd_100, wd_97, wd_96, wd_98]
noncomputable abbrev wd_511 : Cond := Cond.code yX11_mower cX11_mower 3 (some .int)
noncomputable def wsX11_mower : List Cond := wd_511 :: ((wsX11_mower_r1 ++ (wsX11_mower_r2 ++ wsX11_mower_r3)) ++ wsX110 ++ wsX10 ++ wsX80 ++ wsX30 ++ wsX00 ++ wsX60 ++ wsX70 ++ wsX100 ++ wsX40)
noncomputable abbrev wd_512 : Cond := Cond.code yX11_isMower cX11_isMower 2 (some .boolean)
noncomputable def wsX11_isMower : List Cond := wd_512 :: ([wd_453, wd_504] ++ wsX110 ++ wsX10)
noncomputable abbrev wd_513 : Cond := Cond.fieldLink RX11 114 "NineMowers$Course" "mowers" "[LNineMowers$Mower;"
noncomputable abbrev wd_514 : Cond := Cond.fieldLink RX11 118 "NineMowers$Mower" "kind" "I"
noncomputable abbrev wd_515 : Cond := Cond.fieldLink RX11 121 "NineMowers$Mower" "v" "I"
noncomputable abbrev wd_516 : Cond := Cond.fieldLink RX11 124 "NineMowers$Course" "at" "[I"
noncomputable abbrev wd_517 : Cond := Cond.fieldLink RX11 127 "NineMowers$Course" "edge" "[I"
noncomputable abbrev wd_518 : Cond := Cond.fieldLink RX11 130 "NineMowers$Course" "tired" "[I"
noncomputable abbrev wd_519 : Cond := Cond.fieldLink RX11 133 "NineMowers$Course" "stopped" "[I"
noncomputable abbrev wd_520 : Cond := Cond.methodLink RX11 110 yX11_isMower
noncomputable abbrev wd_521 : Cond := Cond.instanceMethod yX11_isMower
noncomputable abbrev wd_522 : Cond := Cond.selects RX11 yX11_isMower yX11_isMower
noncomputable abbrev wd_523 : Cond := Cond.methodLink RX11 136 yX1_placeOf
noncomputable abbrev wd_524 : Cond := Cond.methodLink RX11 140 yX1_paceAt
noncomputable def wsX11_of_r1 : List Cond := [wd_453, wd_513, wd_514, wd_515, wd_516, wd_517, wd_518, wd_519, wd_520, wd_521, wd_522, wd_507, wd_512, wd_504, wd_523, wd_137, wd_138, wd_139, wd_134, wd_98, wd_97, wd_524, wd_197, wd_198]
noncomputable abbrev wd_525 : Cond := Cond.methodLink RX11 143 yX1_strideAt
noncomputable def wsX11_of_r2 : List Cond := [wd_155, wd_113, wd_95, wd_156, wd_100, wd_101, wd_104, wd_105, wd_157, wd_158, wd_159, wd_154, wd_146, wd_147, wd_148, wd_149, wd_150, wd_151, wd_152, wd_153, wd_143, wd_144, wd_145, wd_525]
noncomputable def wsX11_of_r3 : List Cond := [wd_222, wd_223, wd_213, wd_196, wd_199, wd_15, wd_200, wd_201, wd_194, wd_195, wd_13, wd_14, wd_16, wd_17, wd_10, wd_11, wd_12, wd_5, wd_202, wd_181, wd_43, wd_160, wd_161, wd_162]
noncomputable def wsX11_of_r4 : List Cond := [wd_163, wd_164, wd_165, wd_166, wd_30, wd_203, wd_204, wd_205, wd_206, wd_48, wd_168, wd_169, wd_170, wd_171, wd_172, wd_63, wd_173, wd_65, wd_167, wd_207, wd_208, wd_209, wd_185, wd_178]
noncomputable def wsX11_of_r5 : List Cond := [wd_179, wd_180, wd_182, wd_183, wd_184, wd_174, wd_99, wd_175, wd_176, wd_177, wd_141, wd_106, wd_142, wd_210, wd_211, wd_212, wd_53, wd_186, wd_187, wd_188, wd_189, wd_190, wd_191, wd_192]
noncomputable def wsX11_of_r6 : List Cond := [wd_193]
noncomputable abbrev wd_526 : Cond := Cond.code yX11_of cX11_of 3 (some .int)
noncomputable def wsX11_of : List Cond := wd_526 :: ((wsX11_of_r1 ++ (wsX11_of_r2 ++ (wsX11_of_r3 ++ (wsX11_of_r4 ++ (wsX11_of_r5 ++ wsX11_of_r6))))) ++ wsX110 ++ wsX10 ++ wsX00 ++ wsX30 ++ wsX40 ++ wsX60 ++ wsX70 ++ wsX80 ++ wsX100 ++ wsX20)
noncomputable abbrev wd_527 : Cond := Cond.code yX11_set cX11_set 7 (some .int)
noncomputable abbrev wd_528 : Cond := Cond.methodLink RX11 146 yX1_numbersOf
noncomputable abbrev wd_529 : Cond := Cond.instanceMethod yX1_numbersOf
noncomputable abbrev wd_530 : Cond := Cond.selects RX1 yX1_numbersOf yX1_numbersOf
noncomputable def wsX11_set : List Cond := wd_527 :: ([wd_453, wd_520, wd_521, wd_522, wd_507, wd_512, wd_504, wd_528, wd_529, wd_530, wd_139, wd_140, wd_99, wd_100, wd_101, wd_102] ++ wsX110 ++ wsX10)
noncomputable abbrev wd_531 : Cond := Cond.code yX11_row cX11_row 5 (some .int)
noncomputable abbrev wd_532 : Cond := Cond.classLink RX11 104 "NineMowers$Told"
noncomputable abbrev wd_533 : Cond := Cond.fieldLink RX11 150 "NineMowers$Course" "told" "[I"
noncomputable def wsX11_row : List Cond := wd_531 :: ([wd_453, wd_513, wd_532, wd_533, wd_520, wd_521, wd_522, wd_507, wd_512, wd_504] ++ wsX110 ++ wsX10)
noncomputable abbrev wd_534 : Cond := Cond.code yX11_place cX11_place 3 (some .int)
noncomputable abbrev wd_535 : Cond := Cond.methodLink RX11 153 yX1_moves
noncomputable abbrev wd_536 : Cond := Cond.instanceMethod yX1_moves
noncomputable abbrev wd_537 : Cond := Cond.selects RX1 yX1_moves yX1_moves
noncomputable def wsX11_place : List Cond := wd_534 :: ([wd_453, wd_504, wd_520, wd_521, wd_522, wd_507, wd_512, wd_535, wd_536, wd_537, wd_139, wd_135, wd_97, wd_136, wd_137, wd_138, wd_134, wd_98] ++ wsX110 ++ wsX10)
noncomputable abbrev wd_538 : Cond := Cond.code yX11_feed cX11_feed 2 (some .int)
noncomputable def wsX11_feed : List Cond := wd_538 :: ([wd_462, wd_461] ++ wsX110)
noncomputable def wsX11_field_r1 : List Cond := [wd_459, wd_458, wd_457, wd_470, wd_154, wd_461, wd_462, wd_453, wd_471, wd_476, wd_244, wd_245, wd_2, wd_3, wd_246, wd_247, wd_248, wd_92, wd_145, wd_144, wd_148, wd_150, wd_149, wd_147]
noncomputable abbrev wd_539 : Cond := Cond.methodLink RX11 157 yX2_reads
noncomputable abbrev wd_540 : Cond := Cond.instanceMethod yX2_reads
noncomputable abbrev wd_541 : Cond := Cond.selects RX2 yX2_reads yX2_reads
noncomputable def wsX11_field_r2 : List Cond := [wd_249, wd_250, wd_251, wd_539, wd_540, wd_541, wd_414, wd_410, wd_124, wd_125, wd_126, wd_411, wd_412, wd_413, wd_409, wd_376, wd_377, wd_378, wd_340, wd_334, wd_335, wd_336, wd_252, wd_337]
noncomputable def wsX11_field_r3 : List Cond := [wd_338, wd_339, wd_262, wd_333, wd_330, wd_331, wd_332, wd_329, wd_258, wd_319, wd_320, wd_321, wd_253, wd_254, wd_255, wd_322, wd_323, wd_324, wd_257, wd_259, wd_260, wd_261, wd_256, wd_325]
noncomputable def wsX11_field_r4 : List Cond := [wd_326, wd_270, wd_265, wd_266, wd_217, wd_218, wd_267, wd_268, wd_269, wd_263, wd_271, wd_272, wd_264, wd_327, wd_328, wd_283, wd_318, wd_311, wd_312, wd_313, wd_314, wd_315, wd_297, wd_293]
noncomputable def wsX11_field_r5 : List Cond := [wd_294, wd_280, wd_281, wd_282, wd_273, wd_284, wd_285, wd_275, wd_276, wd_277, wd_278, wd_279, wd_274, wd_295, wd_296, wd_290, wd_291, wd_292, wd_286, wd_287, wd_288, wd_289, wd_316, wd_317]
noncomputable def wsX11_field_r6 : List Cond := [wd_310, wd_303, wd_304, wd_305, wd_298, wd_306, wd_307, wd_299, wd_300, wd_308, wd_309, wd_301, wd_302, wd_403, wd_404, wd_405, wd_369, wd_360, wd_361, wd_341, wd_362, wd_363, wd_364, wd_365]
noncomputable def wsX11_field_r7 : List Cond := [wd_358, wd_354, wd_355, wd_346, wd_347, wd_348, wd_343, wd_344, wd_345, wd_342, wd_356, wd_357, wd_351, wd_352, wd_353, wd_349, wd_350, wd_366, wd_367, wd_368, wd_359, wd_379, wd_380, wd_381]
noncomputable def wsX11_field_r8 : List Cond := [wd_371, wd_372, wd_373, wd_374, wd_370, wd_394, wd_395, wd_396, wd_389, wd_390, wd_391, wd_392, wd_382, wd_383, wd_384, wd_375, wd_400, wd_386, wd_387, wd_388, wd_393, wd_397, wd_398, wd_399]
noncomputable abbrev wd_542 : Cond := Cond.methodLink RX11 161 yX2_fault
noncomputable abbrev wd_543 : Cond := Cond.instanceMethod yX2_fault
noncomputable abbrev wd_544 : Cond := Cond.selects RX2 yX2_fault yX2_fault
noncomputable def wsX11_field_r9 : List Cond := [wd_385, wd_406, wd_407, wd_408, wd_401, wd_402, wd_542, wd_543, wd_544, wd_415]
noncomputable abbrev wd_545 : Cond := Cond.code yX11_field cX11_field 3 (some .int)
noncomputable def wsX11_field : List Cond := wd_545 :: ((wsX11_field_r1 ++ (wsX11_field_r2 ++ (wsX11_field_r3 ++ (wsX11_field_r4 ++ (wsX11_field_r5 ++ (wsX11_field_r6 ++ (wsX11_field_r7 ++ (wsX11_field_r8 ++ wsX11_field_r9)))))))) ++ wsX110 ++ wsX20 ++ wsX10)
noncomputable abbrev wd_546 : Cond := Cond.code yX11_told cX11_told 2 (some .int)
noncomputable abbrev wd_547 : Cond := Cond.fieldLink RX11 165 "NineMowers$Course" "minute" "I"
noncomputable abbrev wd_548 : Cond := Cond.fieldLink RX11 168 "NineMowers$Field" "gap" "I"
noncomputable abbrev wd_549 : Cond := Cond.fieldLink RX11 171 "NineMowers$Field" "tire" "I"
noncomputable abbrev wd_550 : Cond := Cond.fieldLink RX11 174 "NineMowers$Field" "length" "I"
noncomputable abbrev wd_551 : Cond := Cond.fieldLink RX11 177 "NineMowers$Course" "line" "[I"
noncomputable def wsX11_told : List Cond := wd_546 :: ([wd_453, wd_547, wd_471, wd_548, wd_549, wd_550, wd_504, wd_551] ++ wsX110 ++ wsX10 ++ wsX20)
noncomputable abbrev wd_552 : Cond := Cond.methodLink RX11 180 yX1_goesMinute
noncomputable def wsX11_minute_r1 : List Cond := [wd_453, wd_547, wd_552, wd_232, wd_233, wd_139, wd_230, wd_98, wd_112, wd_97, wd_102, wd_99, wd_104, wd_221, wd_222, wd_223, wd_213, wd_95, wd_100, wd_196, wd_197, wd_198, wd_155, wd_113]
noncomputable def wsX11_minute_r2 : List Cond := [wd_156, wd_101, wd_105, wd_157, wd_158, wd_159, wd_154, wd_146, wd_147, wd_148, wd_149, wd_150, wd_151, wd_152, wd_153, wd_143, wd_144, wd_145, wd_199, wd_15, wd_200, wd_201, wd_194, wd_195]
noncomputable def wsX11_minute_r3 : List Cond := [wd_13, wd_14, wd_16, wd_17, wd_10, wd_11, wd_12, wd_5, wd_202, wd_181, wd_43, wd_160, wd_161, wd_162, wd_163, wd_164, wd_165, wd_166, wd_30, wd_203, wd_204, wd_205, wd_206, wd_48]
noncomputable def wsX11_minute_r4 : List Cond := [wd_168, wd_169, wd_170, wd_171, wd_172, wd_63, wd_173, wd_65, wd_167, wd_207, wd_208, wd_209, wd_185, wd_178, wd_179, wd_180, wd_182, wd_183, wd_184, wd_174, wd_175, wd_176, wd_177, wd_141]
noncomputable def wsX11_minute_r5 : List Cond := [wd_106, wd_142, wd_210, wd_211, wd_212, wd_53, wd_186, wd_187, wd_188, wd_189, wd_190, wd_191, wd_192, wd_193, wd_224, wd_225, wd_226, wd_214, wd_215, wd_124, wd_125, wd_126, wd_216, wd_217]
noncomputable def wsX11_minute_r6 : List Cond := [wd_218, wd_227, wd_228, wd_229, wd_219, wd_220]
noncomputable abbrev wd_553 : Cond := Cond.code yX11_minute cX11_minute 1 (some .int)
noncomputable def wsX11_minute : List Cond := wd_553 :: ((wsX11_minute_r1 ++ (wsX11_minute_r2 ++ (wsX11_minute_r3 ++ (wsX11_minute_r4 ++ (wsX11_minute_r5 ++ wsX11_minute_r6))))) ++ wsX110 ++ wsX10 ++ wsX00 ++ wsX30 ++ wsX40 ++ wsX60 ++ wsX70 ++ wsX80 ++ wsX100 ++ wsX20)
noncomputable abbrev wd_554 : Cond := Cond.code yX11_whet cX11_whet 1 (some .int)
noncomputable abbrev wd_555 : Cond := Cond.methodLink RX11 183 yX1_whetsAll
noncomputable abbrev wd_556 : Cond := Cond.instanceMethod yX1_whetsAll
noncomputable abbrev wd_557 : Cond := Cond.selects RX1 yX1_whetsAll yX1_whetsAll
noncomputable def wsX11_whet : List Cond := wd_554 :: ([wd_453, wd_547, wd_555, wd_556, wd_557, wd_139, wd_236, wd_96, wd_100, wd_237, wd_238, wd_239, wd_235, wd_101, wd_216, wd_217, wd_125, wd_218, wd_102, wd_104] ++ wsX110 ++ wsX10)
noncomputable abbrev wd_558 : Cond := Cond.code yX11_pause cX11_pause 2 (some .int)
noncomputable abbrev wd_559 : Cond := Cond.methodLink RX11 186 yX1_rests
noncomputable abbrev wd_560 : Cond := Cond.instanceMethod yX1_rests
noncomputable abbrev wd_561 : Cond := Cond.selects RX1 yX1_rests yX1_rests
noncomputable def wsX11_pause : List Cond := wd_558 :: ([wd_453, wd_547, wd_559, wd_560, wd_561, wd_139, wd_240, wd_237, wd_238, wd_239, wd_235, wd_96, wd_101, wd_216, wd_217, wd_125, wd_218, wd_102, wd_104] ++ wsX110 ++ wsX10)
noncomputable def wsX11_heldTimes_r1 : List Cond := [wd_455, wd_552, wd_232, wd_233, wd_139, wd_230, wd_98, wd_112, wd_97, wd_102, wd_99, wd_104, wd_221, wd_222, wd_223, wd_213, wd_95, wd_100, wd_196, wd_197, wd_198, wd_155, wd_113, wd_156]
noncomputable def wsX11_heldTimes_r2 : List Cond := [wd_101, wd_105, wd_157, wd_158, wd_159, wd_154, wd_146, wd_147, wd_148, wd_149, wd_150, wd_151, wd_152, wd_153, wd_143, wd_144, wd_145, wd_199, wd_15, wd_200, wd_201, wd_194, wd_195, wd_13]
noncomputable def wsX11_heldTimes_r3 : List Cond := [wd_14, wd_16, wd_17, wd_10, wd_11, wd_12, wd_5, wd_202, wd_181, wd_43, wd_160, wd_161, wd_162, wd_163, wd_164, wd_165, wd_166, wd_30, wd_203, wd_204, wd_205, wd_206, wd_48, wd_168]
noncomputable def wsX11_heldTimes_r4 : List Cond := [wd_169, wd_170, wd_171, wd_172, wd_63, wd_173, wd_65, wd_167, wd_207, wd_208, wd_209, wd_185, wd_178, wd_179, wd_180, wd_182, wd_183, wd_184, wd_174, wd_175, wd_176, wd_177, wd_141, wd_106]
noncomputable def wsX11_heldTimes_r5 : List Cond := [wd_142, wd_210, wd_211, wd_212, wd_53, wd_186, wd_187, wd_188, wd_189, wd_190, wd_191, wd_192, wd_193, wd_224, wd_225, wd_226, wd_214, wd_215, wd_124, wd_125, wd_126, wd_216, wd_217, wd_218]
noncomputable def wsX11_heldTimes_r6 : List Cond := [wd_227, wd_228, wd_229, wd_219, wd_220]
noncomputable abbrev wd_562 : Cond := Cond.code yX11_heldTimes cX11_heldTimes 5 (some .int)
noncomputable def wsX11_heldTimes : List Cond := wd_562 :: ((wsX11_heldTimes_r1 ++ (wsX11_heldTimes_r2 ++ (wsX11_heldTimes_r3 ++ (wsX11_heldTimes_r4 ++ (wsX11_heldTimes_r5 ++ wsX11_heldTimes_r6))))) ++ wsX110 ++ wsX10 ++ wsX00 ++ wsX30 ++ wsX40 ++ wsX60 ++ wsX70 ++ wsX80 ++ wsX100 ++ wsX20)
noncomputable abbrev wd_563 : Cond := Cond.methodLink RX11 189 yX1_becomes
noncomputable abbrev wd_564 : Cond := Cond.instanceMethod yX1_becomes
noncomputable abbrev wd_565 : Cond := Cond.selects RX1 yX1_becomes yX1_becomes
noncomputable def wsX11_on_r1 : List Cond := [wd_455, wd_453, wd_516, wd_520, wd_521, wd_522, wd_507, wd_512, wd_504, wd_563, wd_564, wd_565, wd_139, wd_117, wd_96, wd_98, wd_104, wd_105, wd_106, wd_95, wd_97, wd_99, wd_100, wd_101]
noncomputable abbrev wd_566 : Cond := Cond.methodLink RX11 193 yX11_heldTimes
noncomputable abbrev wd_567 : Cond := Cond.instanceMethod yX11_heldTimes
noncomputable abbrev wd_568 : Cond := Cond.selects RX11 yX11_heldTimes yX11_heldTimes
noncomputable def wsX11_on_r2 : List Cond := [wd_102, wd_103, wd_118, wd_119, wd_120, wd_121, wd_566, wd_567, wd_568, wd_562, wd_552, wd_232, wd_233, wd_230, wd_112, wd_221, wd_222, wd_223, wd_213, wd_196, wd_197, wd_198, wd_155, wd_113]
noncomputable def wsX11_on_r3 : List Cond := [wd_156, wd_157, wd_158, wd_159, wd_154, wd_146, wd_147, wd_148, wd_149, wd_150, wd_151, wd_152, wd_153, wd_143, wd_144, wd_145, wd_199, wd_15, wd_200, wd_201, wd_194, wd_195, wd_13, wd_14]
noncomputable def wsX11_on_r4 : List Cond := [wd_16, wd_17, wd_10, wd_11, wd_12, wd_5, wd_202, wd_181, wd_43, wd_160, wd_161, wd_162, wd_163, wd_164, wd_165, wd_166, wd_30, wd_203, wd_204, wd_205, wd_206, wd_48, wd_168, wd_169]
noncomputable def wsX11_on_r5 : List Cond := [wd_170, wd_171, wd_172, wd_63, wd_173, wd_65, wd_167, wd_207, wd_208, wd_209, wd_185, wd_178, wd_179, wd_180, wd_182, wd_183, wd_184, wd_174, wd_175, wd_176, wd_177, wd_141, wd_142, wd_210]
noncomputable def wsX11_on_r6 : List Cond := [wd_211, wd_212, wd_53, wd_186, wd_187, wd_188, wd_189, wd_190, wd_191, wd_192, wd_193, wd_224, wd_225, wd_226, wd_214, wd_215, wd_124, wd_125, wd_126, wd_216, wd_217, wd_218, wd_227, wd_228]
noncomputable abbrev wd_569 : Cond := Cond.methodLink RX11 196 yX1_goes
noncomputable abbrev wd_570 : Cond := Cond.instanceMethod yX1_goes
noncomputable abbrev wd_571 : Cond := Cond.selects RX1 yX1_goes yX1_goes
noncomputable abbrev wd_572 : Cond := Cond.methodLink RX11 199 yX1_allAt
noncomputable abbrev wd_573 : Cond := Cond.instanceMethod yX1_allAt
noncomputable abbrev wd_574 : Cond := Cond.selects RX1 yX1_allAt yX1_allAt
noncomputable def wsX11_on_r7 : List Cond := [wd_229, wd_219, wd_220, wd_569, wd_570, wd_571, wd_234, wd_231, wd_572, wd_573, wd_574, wd_241]
noncomputable abbrev wd_575 : Cond := Cond.code yX11_on cX11_on 5 (some .int)
noncomputable def wsX11_on : List Cond := wd_575 :: ((wsX11_on_r1 ++ (wsX11_on_r2 ++ (wsX11_on_r3 ++ (wsX11_on_r4 ++ (wsX11_on_r5 ++ (wsX11_on_r6 ++ wsX11_on_r7)))))) ++ wsX110 ++ wsX10 ++ wsX00 ++ wsX30 ++ wsX40 ++ wsX60 ++ wsX70 ++ wsX80 ++ wsX100 ++ wsX20)
noncomputable abbrev wd_576 : Cond := Cond.methodLink RX11 202 yX1_isDone
noncomputable def wsX11_done_r1 : List Cond := [wd_455, wd_453, wd_563, wd_564, wd_565, wd_139, wd_117, wd_96, wd_98, wd_104, wd_105, wd_106, wd_95, wd_97, wd_99, wd_100, wd_101, wd_102, wd_103, wd_118, wd_119, wd_120, wd_121, wd_576]
noncomputable abbrev wd_577 : Cond := Cond.instanceMethod yX1_isDone
noncomputable abbrev wd_578 : Cond := Cond.selects RX1 yX1_isDone yX1_isDone
noncomputable def wsX11_done_r2 : List Cond := [wd_577, wd_578, wd_242, wd_243, wd_552, wd_232, wd_233, wd_230, wd_112, wd_221, wd_222, wd_223, wd_213, wd_196, wd_197, wd_198, wd_155, wd_113, wd_156, wd_157, wd_158, wd_159, wd_154, wd_146]
noncomputable def wsX11_done_r3 : List Cond := [wd_147, wd_148, wd_149, wd_150, wd_151, wd_152, wd_153, wd_143, wd_144, wd_145, wd_199, wd_15, wd_200, wd_201, wd_194, wd_195, wd_13, wd_14, wd_16, wd_17, wd_10, wd_11, wd_12, wd_5]
noncomputable def wsX11_done_r4 : List Cond := [wd_202, wd_181, wd_43, wd_160, wd_161, wd_162, wd_163, wd_164, wd_165, wd_166, wd_30, wd_203, wd_204, wd_205, wd_206, wd_48, wd_168, wd_169, wd_170, wd_171, wd_172, wd_63, wd_173, wd_65]
noncomputable def wsX11_done_r5 : List Cond := [wd_167, wd_207, wd_208, wd_209, wd_185, wd_178, wd_179, wd_180, wd_182, wd_183, wd_184, wd_174, wd_175, wd_176, wd_177, wd_141, wd_142, wd_210, wd_211, wd_212, wd_53, wd_186, wd_187, wd_188]
noncomputable def wsX11_done_r6 : List Cond := [wd_189, wd_190, wd_191, wd_192, wd_193, wd_224, wd_225, wd_226, wd_214, wd_215, wd_124, wd_125, wd_126, wd_216, wd_217, wd_218, wd_227, wd_228, wd_229, wd_219, wd_220]
noncomputable abbrev wd_579 : Cond := Cond.code yX11_done cX11_done 2 (some .int)
noncomputable def wsX11_done : List Cond := wd_579 :: ((wsX11_done_r1 ++ (wsX11_done_r2 ++ (wsX11_done_r3 ++ (wsX11_done_r4 ++ (wsX11_done_r5 ++ wsX11_done_r6))))) ++ wsX110 ++ wsX10 ++ wsX20 ++ wsX00 ++ wsX30 ++ wsX40 ++ wsX60 ++ wsX70 ++ wsX80 ++ wsX100)
noncomputable def wsX11_totalInOrder_r1 : List Cond := [wd_455, wd_453, wd_504, wd_551, wd_467, wd_516, wd_563, wd_564, wd_565, wd_139, wd_117, wd_96, wd_98, wd_104, wd_105, wd_106, wd_95, wd_97, wd_99, wd_100, wd_101, wd_102, wd_103, wd_118]
noncomputable def wsX11_totalInOrder_r2 : List Cond := [wd_119, wd_120, wd_121, wd_552, wd_232, wd_233, wd_230, wd_112, wd_221, wd_222, wd_223, wd_213, wd_196, wd_197, wd_198, wd_155, wd_113, wd_156, wd_157, wd_158, wd_159, wd_154, wd_146, wd_147]
noncomputable def wsX11_totalInOrder_r3 : List Cond := [wd_148, wd_149, wd_150, wd_151, wd_152, wd_153, wd_143, wd_144, wd_145, wd_199, wd_15, wd_200, wd_201, wd_194, wd_195, wd_13, wd_14, wd_16, wd_17, wd_10, wd_11, wd_12, wd_5, wd_202]
noncomputable def wsX11_totalInOrder_r4 : List Cond := [wd_181, wd_43, wd_160, wd_161, wd_162, wd_163, wd_164, wd_165, wd_166, wd_30, wd_203, wd_204, wd_205, wd_206, wd_48, wd_168, wd_169, wd_170, wd_171, wd_172, wd_63, wd_173, wd_65, wd_167]
noncomputable def wsX11_totalInOrder_r5 : List Cond := [wd_207, wd_208, wd_209, wd_185, wd_178, wd_179, wd_180, wd_182, wd_183, wd_184, wd_174, wd_175, wd_176, wd_177, wd_141, wd_142, wd_210, wd_211, wd_212, wd_53, wd_186, wd_187, wd_188, wd_189]
noncomputable def wsX11_totalInOrder_r6 : List Cond := [wd_190, wd_191, wd_192, wd_193, wd_224, wd_225, wd_226, wd_214, wd_215, wd_124, wd_125, wd_126, wd_216, wd_217, wd_218, wd_227, wd_228, wd_229, wd_219, wd_220, wd_572, wd_573, wd_574, wd_241]
noncomputable abbrev wd_580 : Cond := Cond.code yX11_totalInOrder cX11_totalInOrder 3 (some .int)
noncomputable def wsX11_totalInOrder : List Cond := wd_580 :: ((wsX11_totalInOrder_r1 ++ (wsX11_totalInOrder_r2 ++ (wsX11_totalInOrder_r3 ++ (wsX11_totalInOrder_r4 ++ (wsX11_totalInOrder_r5 ++ wsX11_totalInOrder_r6))))) ++ wsX110 ++ wsX10 ++ wsX00 ++ wsX30 ++ wsX40 ++ wsX60 ++ wsX70 ++ wsX80 ++ wsX100 ++ wsX20)
noncomputable abbrev wd_581 : Cond := Cond.code yX11_swapsTried cX11_swapsTried 4 none
noncomputable def wsX11_swapsTried : List Cond := wd_581 :: ([wd_467] ++ wsX110)
noncomputable abbrev wd_582 : Cond := Cond.code yX11_triesNextOrder cX11_triesNextOrder 6 (some .boolean)
noncomputable abbrev wd_583 : Cond := Cond.methodLink RX11 226 yX11_swapsTried
noncomputable abbrev wd_584 : Cond := Cond.instanceMethod yX11_swapsTried
noncomputable abbrev wd_585 : Cond := Cond.selects RX11 yX11_swapsTried yX11_swapsTried
noncomputable def wsX11_triesNextOrder : List Cond := wd_582 :: ([wd_467, wd_583, wd_584, wd_585, wd_507, wd_581] ++ wsX110)
noncomputable abbrev wd_586 : Cond := Cond.methodLink RX11 209 Lib.Math.min.name
noncomputable abbrev wd_587 : Cond := Cond.methodLink RX11 217 arraycopyName
noncomputable abbrev wd_588 : Cond := Cond.methodLink RX11 214 yX11_totalInOrder
noncomputable abbrev wd_589 : Cond := Cond.instanceMethod yX11_totalInOrder
noncomputable abbrev wd_590 : Cond := Cond.selects RX11 yX11_totalInOrder yX11_totalInOrder
noncomputable def wsX11_findsBestOrder_r1 : List Cond := [wd_453, wd_504, wd_586, wd_124, wd_125, wd_126, wd_467, wd_468, wd_587, wd_119, wd_120, wd_121, wd_588, wd_589, wd_590, wd_507, wd_580, wd_455, wd_551, wd_516, wd_563, wd_564, wd_565, wd_139]
noncomputable def wsX11_findsBestOrder_r2 : List Cond := [wd_117, wd_96, wd_98, wd_104, wd_105, wd_106, wd_95, wd_97, wd_99, wd_100, wd_101, wd_102, wd_103, wd_118, wd_552, wd_232, wd_233, wd_230, wd_112, wd_221, wd_222, wd_223, wd_213, wd_196]
noncomputable def wsX11_findsBestOrder_r3 : List Cond := [wd_197, wd_198, wd_155, wd_113, wd_156, wd_157, wd_158, wd_159, wd_154, wd_146, wd_147, wd_148, wd_149, wd_150, wd_151, wd_152, wd_153, wd_143, wd_144, wd_145, wd_199, wd_15, wd_200, wd_201]
noncomputable def wsX11_findsBestOrder_r4 : List Cond := [wd_194, wd_195, wd_13, wd_14, wd_16, wd_17, wd_10, wd_11, wd_12, wd_5, wd_202, wd_181, wd_43, wd_160, wd_161, wd_162, wd_163, wd_164, wd_165, wd_166, wd_30, wd_203, wd_204, wd_205]
noncomputable def wsX11_findsBestOrder_r5 : List Cond := [wd_206, wd_48, wd_168, wd_169, wd_170, wd_171, wd_172, wd_63, wd_173, wd_65, wd_167, wd_207, wd_208, wd_209, wd_185, wd_178, wd_179, wd_180, wd_182, wd_183, wd_184, wd_174, wd_175, wd_176]
noncomputable def wsX11_findsBestOrder_r6 : List Cond := [wd_177, wd_141, wd_142, wd_210, wd_211, wd_212, wd_53, wd_186, wd_187, wd_188, wd_189, wd_190, wd_191, wd_192, wd_193, wd_224, wd_225, wd_226, wd_214, wd_215, wd_216, wd_217, wd_218, wd_227]
noncomputable abbrev wd_591 : Cond := Cond.methodLink RX11 223 yX11_triesNextOrder
noncomputable abbrev wd_592 : Cond := Cond.instanceMethod yX11_triesNextOrder
noncomputable abbrev wd_593 : Cond := Cond.selects RX11 yX11_triesNextOrder yX11_triesNextOrder
noncomputable def wsX11_findsBestOrder_r7 : List Cond := [wd_228, wd_229, wd_219, wd_220, wd_572, wd_573, wd_574, wd_241, wd_591, wd_592, wd_593, wd_582, wd_583, wd_584, wd_585, wd_581]
noncomputable abbrev wd_594 : Cond := Cond.code yX11_findsBestOrder cX11_findsBestOrder 7 (some .int)
noncomputable def wsX11_findsBestOrder : List Cond := wd_594 :: ((wsX11_findsBestOrder_r1 ++ (wsX11_findsBestOrder_r2 ++ (wsX11_findsBestOrder_r3 ++ (wsX11_findsBestOrder_r4 ++ (wsX11_findsBestOrder_r5 ++ (wsX11_findsBestOrder_r6 ++ wsX11_findsBestOrder_r7)))))) ++ wsX110 ++ wsX10 ++ wsX00 ++ wsX30 ++ wsX40 ++ wsX60 ++ wsX70 ++ wsX80 ++ wsX100 ++ wsX20)
noncomputable abbrev wd_595 : Cond := Cond.methodLink RX11 206 yX11_findsBestOrder
noncomputable abbrev wd_596 : Cond := Cond.instanceMethod yX11_findsBestOrder
noncomputable abbrev wd_597 : Cond := Cond.selects RX11 yX11_findsBestOrder yX11_findsBestOrder
noncomputable def wsX11_order_r1 : List Cond := [wd_453, wd_504, wd_468, wd_595, wd_596, wd_597, wd_507, wd_594, wd_586, wd_124, wd_125, wd_126, wd_467, wd_587, wd_119, wd_120, wd_121, wd_588, wd_589, wd_590, wd_580, wd_455, wd_551, wd_516]
noncomputable def wsX11_order_r2 : List Cond := [wd_563, wd_564, wd_565, wd_139, wd_117, wd_96, wd_98, wd_104, wd_105, wd_106, wd_95, wd_97, wd_99, wd_100, wd_101, wd_102, wd_103, wd_118, wd_552, wd_232, wd_233, wd_230, wd_112, wd_221]
noncomputable def wsX11_order_r3 : List Cond := [wd_222, wd_223, wd_213, wd_196, wd_197, wd_198, wd_155, wd_113, wd_156, wd_157, wd_158, wd_159, wd_154, wd_146, wd_147, wd_148, wd_149, wd_150, wd_151, wd_152, wd_153, wd_143, wd_144, wd_145]
noncomputable def wsX11_order_r4 : List Cond := [wd_199, wd_15, wd_200, wd_201, wd_194, wd_195, wd_13, wd_14, wd_16, wd_17, wd_10, wd_11, wd_12, wd_5, wd_202, wd_181, wd_43, wd_160, wd_161, wd_162, wd_163, wd_164, wd_165, wd_166]
noncomputable def wsX11_order_r5 : List Cond := [wd_30, wd_203, wd_204, wd_205, wd_206, wd_48, wd_168, wd_169, wd_170, wd_171, wd_172, wd_63, wd_173, wd_65, wd_167, wd_207, wd_208, wd_209, wd_185, wd_178, wd_179, wd_180, wd_182, wd_183]
noncomputable def wsX11_order_r6 : List Cond := [wd_184, wd_174, wd_175, wd_176, wd_177, wd_141, wd_142, wd_210, wd_211, wd_212, wd_53, wd_186, wd_187, wd_188, wd_189, wd_190, wd_191, wd_192, wd_193, wd_224, wd_225, wd_226, wd_214, wd_215]
noncomputable def wsX11_order_r7 : List Cond := [wd_216, wd_217, wd_218, wd_227, wd_228, wd_229, wd_219, wd_220, wd_572, wd_573, wd_574, wd_241, wd_591, wd_592, wd_593, wd_582, wd_583, wd_584, wd_585, wd_581]
noncomputable abbrev wd_598 : Cond := Cond.code yX11_order cX11_order 4 (some .int)
noncomputable def wsX11_order : List Cond := wd_598 :: ((wsX11_order_r1 ++ (wsX11_order_r2 ++ (wsX11_order_r3 ++ (wsX11_order_r4 ++ (wsX11_order_r5 ++ (wsX11_order_r6 ++ wsX11_order_r7)))))) ++ wsX110 ++ wsX10 ++ wsX00 ++ wsX30 ++ wsX40 ++ wsX60 ++ wsX70 ++ wsX80 ++ wsX100 ++ wsX20)
noncomputable abbrev wd_599 : Cond := Cond.code yX11_whetsIn cX11_whetsIn 2 (some .boolean)
noncomputable def wsX11_whetsIn : List Cond := wd_599 :: ([])
noncomputable abbrev wd_600 : Cond := Cond.fieldLink RX11 238 "NineMowers$Course" "otherGap" "I"
noncomputable def wsX11_totalBy_r1 : List Cond := [wd_455, wd_453, wd_600, wd_519, wd_563, wd_564, wd_565, wd_139, wd_117, wd_96, wd_98, wd_104, wd_105, wd_106, wd_95, wd_97, wd_99, wd_100, wd_101, wd_102, wd_103, wd_118, wd_119, wd_120]
noncomputable abbrev wd_601 : Cond := Cond.methodLink RX11 241 yX11_whetsIn
noncomputable abbrev wd_602 : Cond := Cond.static yX11_whetsIn
noncomputable def wsX11_totalBy_r2 : List Cond := [wd_121, wd_520, wd_521, wd_522, wd_507, wd_512, wd_504, wd_559, wd_560, wd_561, wd_240, wd_237, wd_238, wd_239, wd_235, wd_216, wd_217, wd_125, wd_218, wd_601, wd_602, wd_599, wd_555, wd_556]
noncomputable def wsX11_totalBy_r3 : List Cond := [wd_557, wd_236, wd_552, wd_232, wd_233, wd_230, wd_112, wd_221, wd_222, wd_223, wd_213, wd_196, wd_197, wd_198, wd_155, wd_113, wd_156, wd_157, wd_158, wd_159, wd_154, wd_146, wd_147, wd_148]
noncomputable def wsX11_totalBy_r4 : List Cond := [wd_149, wd_150, wd_151, wd_152, wd_153, wd_143, wd_144, wd_145, wd_199, wd_15, wd_200, wd_201, wd_194, wd_195, wd_13, wd_14, wd_16, wd_17, wd_10, wd_11, wd_12, wd_5, wd_202, wd_181]
noncomputable def wsX11_totalBy_r5 : List Cond := [wd_43, wd_160, wd_161, wd_162, wd_163, wd_164, wd_165, wd_166, wd_30, wd_203, wd_204, wd_205, wd_206, wd_48, wd_168, wd_169, wd_170, wd_171, wd_172, wd_63, wd_173, wd_65, wd_167, wd_207]
noncomputable def wsX11_totalBy_r6 : List Cond := [wd_208, wd_209, wd_185, wd_178, wd_179, wd_180, wd_182, wd_183, wd_184, wd_174, wd_175, wd_176, wd_177, wd_141, wd_142, wd_210, wd_211, wd_212, wd_53, wd_186, wd_187, wd_188, wd_189, wd_190]
noncomputable def wsX11_totalBy_r7 : List Cond := [wd_191, wd_192, wd_193, wd_224, wd_225, wd_226, wd_214, wd_215, wd_124, wd_126, wd_227, wd_228, wd_229, wd_219, wd_220, wd_572, wd_573, wd_574, wd_241]
noncomputable abbrev wd_603 : Cond := Cond.code yX11_totalBy cX11_totalBy 5 (some .int)
noncomputable def wsX11_totalBy : List Cond := wd_603 :: ((wsX11_totalBy_r1 ++ (wsX11_totalBy_r2 ++ (wsX11_totalBy_r3 ++ (wsX11_totalBy_r4 ++ (wsX11_totalBy_r5 ++ (wsX11_totalBy_r6 ++ wsX11_totalBy_r7)))))) ++ wsX110 ++ wsX10 ++ wsX00 ++ wsX30 ++ wsX40 ++ wsX60 ++ wsX70 ++ wsX80 ++ wsX100 ++ wsX20)
noncomputable abbrev wd_604 : Cond := Cond.methodLink RX11 234 yX11_totalBy
noncomputable abbrev wd_605 : Cond := Cond.instanceMethod yX11_totalBy
noncomputable abbrev wd_606 : Cond := Cond.selects RX11 yX11_totalBy yX11_totalBy
noncomputable def wsX11_mostBy_r1 : List Cond := [wd_604, wd_605, wd_606, wd_507, wd_603, wd_455, wd_453, wd_600, wd_519, wd_563, wd_564, wd_565, wd_139, wd_117, wd_96, wd_98, wd_104, wd_105, wd_106, wd_95, wd_97, wd_99, wd_100, wd_101]
noncomputable def wsX11_mostBy_r2 : List Cond := [wd_102, wd_103, wd_118, wd_119, wd_120, wd_121, wd_520, wd_521, wd_522, wd_512, wd_504, wd_559, wd_560, wd_561, wd_240, wd_237, wd_238, wd_239, wd_235, wd_216, wd_217, wd_125, wd_218, wd_601]
noncomputable def wsX11_mostBy_r3 : List Cond := [wd_602, wd_599, wd_555, wd_556, wd_557, wd_236, wd_552, wd_232, wd_233, wd_230, wd_112, wd_221, wd_222, wd_223, wd_213, wd_196, wd_197, wd_198, wd_155, wd_113, wd_156, wd_157, wd_158, wd_159]
noncomputable def wsX11_mostBy_r4 : List Cond := [wd_154, wd_146, wd_147, wd_148, wd_149, wd_150, wd_151, wd_152, wd_153, wd_143, wd_144, wd_145, wd_199, wd_15, wd_200, wd_201, wd_194, wd_195, wd_13, wd_14, wd_16, wd_17, wd_10, wd_11]
noncomputable def wsX11_mostBy_r5 : List Cond := [wd_12, wd_5, wd_202, wd_181, wd_43, wd_160, wd_161, wd_162, wd_163, wd_164, wd_165, wd_166, wd_30, wd_203, wd_204, wd_205, wd_206, wd_48, wd_168, wd_169, wd_170, wd_171, wd_172, wd_63]
noncomputable def wsX11_mostBy_r6 : List Cond := [wd_173, wd_65, wd_167, wd_207, wd_208, wd_209, wd_185, wd_178, wd_179, wd_180, wd_182, wd_183, wd_184, wd_174, wd_175, wd_176, wd_177, wd_141, wd_142, wd_210, wd_211, wd_212, wd_53, wd_186]
noncomputable def wsX11_mostBy_r7 : List Cond := [wd_187, wd_188, wd_189, wd_190, wd_191, wd_192, wd_193, wd_224, wd_225, wd_226, wd_214, wd_215, wd_124, wd_126, wd_227, wd_228, wd_229, wd_219, wd_220, wd_572, wd_573, wd_574, wd_241]
noncomputable abbrev wd_607 : Cond := Cond.code yX11_mostBy cX11_mostBy 10 (some .int)
noncomputable def wsX11_mostBy : List Cond := wd_607 :: ((wsX11_mostBy_r1 ++ (wsX11_mostBy_r2 ++ (wsX11_mostBy_r3 ++ (wsX11_mostBy_r4 ++ (wsX11_mostBy_r5 ++ (wsX11_mostBy_r6 ++ wsX11_mostBy_r7)))))) ++ wsX110 ++ wsX10 ++ wsX00 ++ wsX30 ++ wsX40 ++ wsX60 ++ wsX70 ++ wsX80 ++ wsX100 ++ wsX20)
noncomputable abbrev wd_608 : Cond := Cond.methodLink RX11 230 yX11_mostBy
noncomputable abbrev wd_609 : Cond := Cond.instanceMethod yX11_mostBy
noncomputable abbrev wd_610 : Cond := Cond.selects RX11 yX11_mostBy yX11_mostBy
noncomputable def wsX11_whets_r1 : List Cond := [wd_608, wd_609, wd_610, wd_507, wd_607, wd_604, wd_605, wd_606, wd_603, wd_455, wd_453, wd_600, wd_519, wd_563, wd_564, wd_565, wd_139, wd_117, wd_96, wd_98, wd_104, wd_105, wd_106, wd_95]
noncomputable def wsX11_whets_r2 : List Cond := [wd_97, wd_99, wd_100, wd_101, wd_102, wd_103, wd_118, wd_119, wd_120, wd_121, wd_520, wd_521, wd_522, wd_512, wd_504, wd_559, wd_560, wd_561, wd_240, wd_237, wd_238, wd_239, wd_235, wd_216]
noncomputable def wsX11_whets_r3 : List Cond := [wd_217, wd_125, wd_218, wd_601, wd_602, wd_599, wd_555, wd_556, wd_557, wd_236, wd_552, wd_232, wd_233, wd_230, wd_112, wd_221, wd_222, wd_223, wd_213, wd_196, wd_197, wd_198, wd_155, wd_113]
noncomputable def wsX11_whets_r4 : List Cond := [wd_156, wd_157, wd_158, wd_159, wd_154, wd_146, wd_147, wd_148, wd_149, wd_150, wd_151, wd_152, wd_153, wd_143, wd_144, wd_145, wd_199, wd_15, wd_200, wd_201, wd_194, wd_195, wd_13, wd_14]
noncomputable def wsX11_whets_r5 : List Cond := [wd_16, wd_17, wd_10, wd_11, wd_12, wd_5, wd_202, wd_181, wd_43, wd_160, wd_161, wd_162, wd_163, wd_164, wd_165, wd_166, wd_30, wd_203, wd_204, wd_205, wd_206, wd_48, wd_168, wd_169]
noncomputable def wsX11_whets_r6 : List Cond := [wd_170, wd_171, wd_172, wd_63, wd_173, wd_65, wd_167, wd_207, wd_208, wd_209, wd_185, wd_178, wd_179, wd_180, wd_182, wd_183, wd_184, wd_174, wd_175, wd_176, wd_177, wd_141, wd_142, wd_210]
noncomputable def wsX11_whets_r7 : List Cond := [wd_211, wd_212, wd_53, wd_186, wd_187, wd_188, wd_189, wd_190, wd_191, wd_192, wd_193, wd_224, wd_225, wd_226, wd_214, wd_215, wd_124, wd_126, wd_227, wd_228, wd_229, wd_219, wd_220, wd_572]
noncomputable def wsX11_whets_r8 : List Cond := [wd_573, wd_574, wd_241]
noncomputable abbrev wd_611 : Cond := Cond.code yX11_whets cX11_whets 3 (some .int)
noncomputable def wsX11_whets : List Cond := wd_611 :: ((wsX11_whets_r1 ++ (wsX11_whets_r2 ++ (wsX11_whets_r3 ++ (wsX11_whets_r4 ++ (wsX11_whets_r5 ++ (wsX11_whets_r6 ++ (wsX11_whets_r7 ++ wsX11_whets_r8))))))) ++ wsX110 ++ wsX10 ++ wsX00 ++ wsX30 ++ wsX40 ++ wsX60 ++ wsX70 ++ wsX80 ++ wsX100 ++ wsX20)
noncomputable def wsX11_apart_r1 : List Cond := [wd_608, wd_609, wd_610, wd_507, wd_607, wd_604, wd_605, wd_606, wd_603, wd_455, wd_453, wd_600, wd_519, wd_563, wd_564, wd_565, wd_139, wd_117, wd_96, wd_98, wd_104, wd_105, wd_106, wd_95]
noncomputable def wsX11_apart_r2 : List Cond := [wd_97, wd_99, wd_100, wd_101, wd_102, wd_103, wd_118, wd_119, wd_120, wd_121, wd_520, wd_521, wd_522, wd_512, wd_504, wd_559, wd_560, wd_561, wd_240, wd_237, wd_238, wd_239, wd_235, wd_216]
noncomputable def wsX11_apart_r3 : List Cond := [wd_217, wd_125, wd_218, wd_601, wd_602, wd_599, wd_555, wd_556, wd_557, wd_236, wd_552, wd_232, wd_233, wd_230, wd_112, wd_221, wd_222, wd_223, wd_213, wd_196, wd_197, wd_198, wd_155, wd_113]
noncomputable def wsX11_apart_r4 : List Cond := [wd_156, wd_157, wd_158, wd_159, wd_154, wd_146, wd_147, wd_148, wd_149, wd_150, wd_151, wd_152, wd_153, wd_143, wd_144, wd_145, wd_199, wd_15, wd_200, wd_201, wd_194, wd_195, wd_13, wd_14]
noncomputable def wsX11_apart_r5 : List Cond := [wd_16, wd_17, wd_10, wd_11, wd_12, wd_5, wd_202, wd_181, wd_43, wd_160, wd_161, wd_162, wd_163, wd_164, wd_165, wd_166, wd_30, wd_203, wd_204, wd_205, wd_206, wd_48, wd_168, wd_169]
noncomputable def wsX11_apart_r6 : List Cond := [wd_170, wd_171, wd_172, wd_63, wd_173, wd_65, wd_167, wd_207, wd_208, wd_209, wd_185, wd_178, wd_179, wd_180, wd_182, wd_183, wd_184, wd_174, wd_175, wd_176, wd_177, wd_141, wd_142, wd_210]
noncomputable def wsX11_apart_r7 : List Cond := [wd_211, wd_212, wd_53, wd_186, wd_187, wd_188, wd_189, wd_190, wd_191, wd_192, wd_193, wd_224, wd_225, wd_226, wd_214, wd_215, wd_124, wd_126, wd_227, wd_228, wd_229, wd_219, wd_220, wd_572]
noncomputable def wsX11_apart_r8 : List Cond := [wd_573, wd_574, wd_241]
noncomputable abbrev wd_612 : Cond := Cond.code yX11_apart cX11_apart 3 (some .int)
noncomputable def wsX11_apart : List Cond := wd_612 :: ((wsX11_apart_r1 ++ (wsX11_apart_r2 ++ (wsX11_apart_r3 ++ (wsX11_apart_r4 ++ (wsX11_apart_r5 ++ (wsX11_apart_r6 ++ (wsX11_apart_r7 ++ wsX11_apart_r8))))))) ++ wsX110 ++ wsX10 ++ wsX00 ++ wsX30 ++ wsX40 ++ wsX60 ++ wsX70 ++ wsX80 ++ wsX100 ++ wsX20)
noncomputable abbrev wd_613 : Cond := Cond.code yX11_hits cX11_hits 4 (some .int)
noncomputable def wsX11_hits : List Cond := wd_613 :: ([wd_455, wd_504, wd_516, wd_469] ++ wsX110 ++ wsX10)
noncomputable abbrev wd_614 : Cond := Cond.constant RX11 245 (-100001)
noncomputable abbrev wd_615 : Cond := Cond.constant RX11 246 (-100002)
noncomputable def wsX11_stop_r1 : List Cond := [wd_614, wd_615, wd_455, wd_453, wd_516, wd_469, wd_587, wd_119, wd_120, wd_121, wd_519, wd_520, wd_521, wd_522, wd_507, wd_512, wd_504, wd_563, wd_564, wd_565, wd_139, wd_117, wd_96, wd_98]
noncomputable def wsX11_stop_r2 : List Cond := [wd_104, wd_105, wd_106, wd_95, wd_97, wd_99, wd_100, wd_101, wd_102, wd_103, wd_118, wd_569, wd_570, wd_571, wd_234, wd_231, wd_232, wd_233, wd_230, wd_112, wd_221, wd_222, wd_223, wd_213]
noncomputable def wsX11_stop_r3 : List Cond := [wd_196, wd_197, wd_198, wd_155, wd_113, wd_156, wd_157, wd_158, wd_159, wd_154, wd_146, wd_147, wd_148, wd_149, wd_150, wd_151, wd_152, wd_153, wd_143, wd_144, wd_145, wd_199, wd_15, wd_200]
noncomputable def wsX11_stop_r4 : List Cond := [wd_201, wd_194, wd_195, wd_13, wd_14, wd_16, wd_17, wd_10, wd_11, wd_12, wd_5, wd_202, wd_181, wd_43, wd_160, wd_161, wd_162, wd_163, wd_164, wd_165, wd_166, wd_30, wd_203, wd_204]
noncomputable def wsX11_stop_r5 : List Cond := [wd_205, wd_206, wd_48, wd_168, wd_169, wd_170, wd_171, wd_172, wd_63, wd_173, wd_65, wd_167, wd_207, wd_208, wd_209, wd_185, wd_178, wd_179, wd_180, wd_182, wd_183, wd_184, wd_174, wd_175]
noncomputable def wsX11_stop_r6 : List Cond := [wd_176, wd_177, wd_141, wd_142, wd_210, wd_211, wd_212, wd_53, wd_186, wd_187, wd_188, wd_189, wd_190, wd_191, wd_192, wd_193, wd_224, wd_225, wd_226, wd_214, wd_215, wd_124, wd_125, wd_126]
noncomputable abbrev wd_616 : Cond := Cond.methodLink RX11 247 yX11_hits
noncomputable abbrev wd_617 : Cond := Cond.instanceMethod yX11_hits
noncomputable abbrev wd_618 : Cond := Cond.selects RX11 yX11_hits yX11_hits
noncomputable def wsX11_stop_r7 : List Cond := [wd_216, wd_217, wd_218, wd_227, wd_228, wd_229, wd_219, wd_220, wd_572, wd_573, wd_574, wd_241, wd_616, wd_617, wd_618, wd_613]
noncomputable abbrev wd_619 : Cond := Cond.code yX11_stop cX11_stop 6 (some .int)
noncomputable def wsX11_stop : List Cond := wd_619 :: ((wsX11_stop_r1 ++ (wsX11_stop_r2 ++ (wsX11_stop_r3 ++ (wsX11_stop_r4 ++ (wsX11_stop_r5 ++ (wsX11_stop_r6 ++ wsX11_stop_r7)))))) ++ wsX110 ++ wsX10 ++ wsX00 ++ wsX30 ++ wsX40 ++ wsX60 ++ wsX70 ++ wsX80 ++ wsX100 ++ wsX20)
noncomputable abbrev wd_620 : Cond := Cond.fieldLink RX11 250 "NineMowers$Course" "inLine" "I"
noncomputable def wsX11_alone_r1 : List Cond := [wd_615, wd_455, wd_453, wd_504, wd_551, wd_620, wd_516, wd_563, wd_564, wd_565, wd_139, wd_117, wd_96, wd_98, wd_104, wd_105, wd_106, wd_95, wd_97, wd_99, wd_100, wd_101, wd_102, wd_103]
noncomputable def wsX11_alone_r2 : List Cond := [wd_118, wd_119, wd_120, wd_121, wd_569, wd_570, wd_571, wd_234, wd_231, wd_232, wd_233, wd_230, wd_112, wd_221, wd_222, wd_223, wd_213, wd_196, wd_197, wd_198, wd_155, wd_113, wd_156, wd_157]
noncomputable def wsX11_alone_r3 : List Cond := [wd_158, wd_159, wd_154, wd_146, wd_147, wd_148, wd_149, wd_150, wd_151, wd_152, wd_153, wd_143, wd_144, wd_145, wd_199, wd_15, wd_200, wd_201, wd_194, wd_195, wd_13, wd_14, wd_16, wd_17]
noncomputable def wsX11_alone_r4 : List Cond := [wd_10, wd_11, wd_12, wd_5, wd_202, wd_181, wd_43, wd_160, wd_161, wd_162, wd_163, wd_164, wd_165, wd_166, wd_30, wd_203, wd_204, wd_205, wd_206, wd_48, wd_168, wd_169, wd_170, wd_171]
noncomputable def wsX11_alone_r5 : List Cond := [wd_172, wd_63, wd_173, wd_65, wd_167, wd_207, wd_208, wd_209, wd_185, wd_178, wd_179, wd_180, wd_182, wd_183, wd_184, wd_174, wd_175, wd_176, wd_177, wd_141, wd_142, wd_210, wd_211, wd_212]
noncomputable def wsX11_alone_r6 : List Cond := [wd_53, wd_186, wd_187, wd_188, wd_189, wd_190, wd_191, wd_192, wd_193, wd_224, wd_225, wd_226, wd_214, wd_215, wd_124, wd_125, wd_126, wd_216, wd_217, wd_218, wd_227, wd_228, wd_229, wd_219]
noncomputable def wsX11_alone_r7 : List Cond := [wd_220, wd_572, wd_573, wd_574, wd_241]
noncomputable abbrev wd_621 : Cond := Cond.code yX11_alone cX11_alone 4 (some .int)
noncomputable def wsX11_alone : List Cond := wd_621 :: ((wsX11_alone_r1 ++ (wsX11_alone_r2 ++ (wsX11_alone_r3 ++ (wsX11_alone_r4 ++ (wsX11_alone_r5 ++ (wsX11_alone_r6 ++ wsX11_alone_r7)))))) ++ wsX110 ++ wsX10 ++ wsX00 ++ wsX30 ++ wsX40 ++ wsX60 ++ wsX70 ++ wsX80 ++ wsX100 ++ wsX20)
noncomputable def wsX11_rest_r1 : List Cond := [wd_453, wd_504, wd_608, wd_609, wd_610, wd_507, wd_607, wd_604, wd_605, wd_606, wd_603, wd_455, wd_600, wd_519, wd_563, wd_564, wd_565, wd_139, wd_117, wd_96, wd_98, wd_104, wd_105, wd_106]
noncomputable def wsX11_rest_r2 : List Cond := [wd_95, wd_97, wd_99, wd_100, wd_101, wd_102, wd_103, wd_118, wd_119, wd_120, wd_121, wd_520, wd_521, wd_522, wd_512, wd_559, wd_560, wd_561, wd_240, wd_237, wd_238, wd_239, wd_235, wd_216]
noncomputable def wsX11_rest_r3 : List Cond := [wd_217, wd_125, wd_218, wd_601, wd_602, wd_599, wd_555, wd_556, wd_557, wd_236, wd_552, wd_232, wd_233, wd_230, wd_112, wd_221, wd_222, wd_223, wd_213, wd_196, wd_197, wd_198, wd_155, wd_113]
noncomputable def wsX11_rest_r4 : List Cond := [wd_156, wd_157, wd_158, wd_159, wd_154, wd_146, wd_147, wd_148, wd_149, wd_150, wd_151, wd_152, wd_153, wd_143, wd_144, wd_145, wd_199, wd_15, wd_200, wd_201, wd_194, wd_195, wd_13, wd_14]
noncomputable def wsX11_rest_r5 : List Cond := [wd_16, wd_17, wd_10, wd_11, wd_12, wd_5, wd_202, wd_181, wd_43, wd_160, wd_161, wd_162, wd_163, wd_164, wd_165, wd_166, wd_30, wd_203, wd_204, wd_205, wd_206, wd_48, wd_168, wd_169]
noncomputable def wsX11_rest_r6 : List Cond := [wd_170, wd_171, wd_172, wd_63, wd_173, wd_65, wd_167, wd_207, wd_208, wd_209, wd_185, wd_178, wd_179, wd_180, wd_182, wd_183, wd_184, wd_174, wd_175, wd_176, wd_177, wd_141, wd_142, wd_210]
noncomputable def wsX11_rest_r7 : List Cond := [wd_211, wd_212, wd_53, wd_186, wd_187, wd_188, wd_189, wd_190, wd_191, wd_192, wd_193, wd_224, wd_225, wd_226, wd_214, wd_215, wd_124, wd_126, wd_227, wd_228, wd_229, wd_219, wd_220, wd_572]
noncomputable def wsX11_rest_r8 : List Cond := [wd_573, wd_574, wd_241]
noncomputable abbrev wd_622 : Cond := Cond.code yX11_rest cX11_rest 4 (some .int)
noncomputable def wsX11_rest : List Cond := wd_622 :: ((wsX11_rest_r1 ++ (wsX11_rest_r2 ++ (wsX11_rest_r3 ++ (wsX11_rest_r4 ++ (wsX11_rest_r5 ++ (wsX11_rest_r6 ++ (wsX11_rest_r7 ++ wsX11_rest_r8))))))) ++ wsX110 ++ wsX10 ++ wsX00 ++ wsX30 ++ wsX40 ++ wsX60 ++ wsX70 ++ wsX80 ++ wsX100 ++ wsX20)
noncomputable def wsX11_paused_r1 : List Cond := [wd_608, wd_609, wd_610, wd_507, wd_607, wd_604, wd_605, wd_606, wd_603, wd_455, wd_453, wd_600, wd_519, wd_563, wd_564, wd_565, wd_139, wd_117, wd_96, wd_98, wd_104, wd_105, wd_106, wd_95]
noncomputable def wsX11_paused_r2 : List Cond := [wd_97, wd_99, wd_100, wd_101, wd_102, wd_103, wd_118, wd_119, wd_120, wd_121, wd_520, wd_521, wd_522, wd_512, wd_504, wd_559, wd_560, wd_561, wd_240, wd_237, wd_238, wd_239, wd_235, wd_216]
noncomputable def wsX11_paused_r3 : List Cond := [wd_217, wd_125, wd_218, wd_601, wd_602, wd_599, wd_555, wd_556, wd_557, wd_236, wd_552, wd_232, wd_233, wd_230, wd_112, wd_221, wd_222, wd_223, wd_213, wd_196, wd_197, wd_198, wd_155, wd_113]
noncomputable def wsX11_paused_r4 : List Cond := [wd_156, wd_157, wd_158, wd_159, wd_154, wd_146, wd_147, wd_148, wd_149, wd_150, wd_151, wd_152, wd_153, wd_143, wd_144, wd_145, wd_199, wd_15, wd_200, wd_201, wd_194, wd_195, wd_13, wd_14]
noncomputable def wsX11_paused_r5 : List Cond := [wd_16, wd_17, wd_10, wd_11, wd_12, wd_5, wd_202, wd_181, wd_43, wd_160, wd_161, wd_162, wd_163, wd_164, wd_165, wd_166, wd_30, wd_203, wd_204, wd_205, wd_206, wd_48, wd_168, wd_169]
noncomputable def wsX11_paused_r6 : List Cond := [wd_170, wd_171, wd_172, wd_63, wd_173, wd_65, wd_167, wd_207, wd_208, wd_209, wd_185, wd_178, wd_179, wd_180, wd_182, wd_183, wd_184, wd_174, wd_175, wd_176, wd_177, wd_141, wd_142, wd_210]
noncomputable def wsX11_paused_r7 : List Cond := [wd_211, wd_212, wd_53, wd_186, wd_187, wd_188, wd_189, wd_190, wd_191, wd_192, wd_193, wd_224, wd_225, wd_226, wd_214, wd_215, wd_124, wd_126, wd_227, wd_228, wd_229, wd_219, wd_220, wd_572]
noncomputable def wsX11_paused_r8 : List Cond := [wd_573, wd_574, wd_241]
noncomputable abbrev wd_623 : Cond := Cond.code yX11_paused cX11_paused 3 (some .int)
noncomputable def wsX11_paused : List Cond := wd_623 :: ((wsX11_paused_r1 ++ (wsX11_paused_r2 ++ (wsX11_paused_r3 ++ (wsX11_paused_r4 ++ (wsX11_paused_r5 ++ (wsX11_paused_r6 ++ (wsX11_paused_r7 ++ wsX11_paused_r8))))))) ++ wsX110 ++ wsX10 ++ wsX00 ++ wsX30 ++ wsX40 ++ wsX60 ++ wsX70 ++ wsX80 ++ wsX100 ++ wsX20)
noncomputable abbrev wd_624 : Cond := Cond.code yX11_see cX11_see 4 (some .int)
noncomputable abbrev wd_625 : Cond := Cond.fieldLink RX11 253 "NineMowers$Course" "seen" "LNineMowers$Numbers;"
noncomputable abbrev wd_626 : Cond := Cond.fieldLink RX11 256 "NineMowers$Numbers" "size" "I"
noncomputable abbrev wd_627 : Cond := Cond.methodLink RX11 259 yX5_isFull
noncomputable abbrev wd_628 : Cond := Cond.instanceMethod yX5_isFull
noncomputable abbrev wd_629 : Cond := Cond.selects RX5 yX5_isFull yX5_isFull
noncomputable abbrev wd_630 : Cond := Cond.methodLink RX11 262 yX5_comes
noncomputable def wsX11_see : List Cond := wd_624 :: ([wd_453, wd_625, wd_626, wd_520, wd_521, wd_522, wd_507, wd_512, wd_504, wd_627, wd_628, wd_629, wd_25, wd_418, wd_19, wd_20, wd_630, wd_23, wd_24, wd_18] ++ wsX110 ++ wsX10 ++ wsX50)
noncomputable abbrev wd_631 : Cond := Cond.code yX11_seenIsSo cX11_seenIsSo 4 (some .boolean)
noncomputable abbrev wd_632 : Cond := Cond.fieldLink RX11 270 "NineMowers$Numbers" "kept" "[I"
noncomputable def wsX11_seenIsSo : List Cond := wd_631 :: ([wd_453, wd_625, wd_632, wd_626, wd_455, wd_516] ++ wsX110 ++ wsX10 ++ wsX50)
noncomputable abbrev wd_633 : Cond := Cond.methodLink RX11 267 yX11_seenIsSo
noncomputable abbrev wd_634 : Cond := Cond.instanceMethod yX11_seenIsSo
noncomputable abbrev wd_635 : Cond := Cond.selects RX11 yX11_seenIsSo yX11_seenIsSo
noncomputable def wsX11_allSeenIsSo_r1 : List Cond := [wd_455, wd_633, wd_634, wd_635, wd_507, wd_631, wd_453, wd_625, wd_632, wd_626, wd_516, wd_552, wd_232, wd_233, wd_139, wd_230, wd_98, wd_112, wd_97, wd_102, wd_99, wd_104, wd_221, wd_222]
noncomputable def wsX11_allSeenIsSo_r2 : List Cond := [wd_223, wd_213, wd_95, wd_100, wd_196, wd_197, wd_198, wd_155, wd_113, wd_156, wd_101, wd_105, wd_157, wd_158, wd_159, wd_154, wd_146, wd_147, wd_148, wd_149, wd_150, wd_151, wd_152, wd_153]
noncomputable def wsX11_allSeenIsSo_r3 : List Cond := [wd_143, wd_144, wd_145, wd_199, wd_15, wd_200, wd_201, wd_194, wd_195, wd_13, wd_14, wd_16, wd_17, wd_10, wd_11, wd_12, wd_5, wd_202, wd_181, wd_43, wd_160, wd_161, wd_162, wd_163]
noncomputable def wsX11_allSeenIsSo_r4 : List Cond := [wd_164, wd_165, wd_166, wd_30, wd_203, wd_204, wd_205, wd_206, wd_48, wd_168, wd_169, wd_170, wd_171, wd_172, wd_63, wd_173, wd_65, wd_167, wd_207, wd_208, wd_209, wd_185, wd_178, wd_179]
noncomputable def wsX11_allSeenIsSo_r5 : List Cond := [wd_180, wd_182, wd_183, wd_184, wd_174, wd_175, wd_176, wd_177, wd_141, wd_106, wd_142, wd_210, wd_211, wd_212, wd_53, wd_186, wd_187, wd_188, wd_189, wd_190, wd_191, wd_192, wd_193, wd_224]
noncomputable def wsX11_allSeenIsSo_r6 : List Cond := [wd_225, wd_226, wd_214, wd_215, wd_124, wd_125, wd_126, wd_216, wd_217, wd_218, wd_227, wd_228, wd_229, wd_219, wd_220]
noncomputable abbrev wd_636 : Cond := Cond.code yX11_allSeenIsSo cX11_allSeenIsSo 2 (some .boolean)
noncomputable def wsX11_allSeenIsSo : List Cond := wd_636 :: ((wsX11_allSeenIsSo_r1 ++ (wsX11_allSeenIsSo_r2 ++ (wsX11_allSeenIsSo_r3 ++ (wsX11_allSeenIsSo_r4 ++ (wsX11_allSeenIsSo_r5 ++ wsX11_allSeenIsSo_r6))))) ++ wsX110 ++ wsX10 ++ wsX50 ++ wsX00 ++ wsX30 ++ wsX40 ++ wsX60 ++ wsX70 ++ wsX80 ++ wsX100 ++ wsX20)
noncomputable def wsX11_who_r1 : List Cond := [wd_453, wd_504, wd_455, wd_519, wd_563, wd_564, wd_565, wd_139, wd_117, wd_96, wd_98, wd_104, wd_105, wd_106, wd_95, wd_97, wd_99, wd_100, wd_101, wd_102, wd_103, wd_118, wd_119, wd_120]
noncomputable abbrev wd_637 : Cond := Cond.methodLink RX11 264 yX11_allSeenIsSo
noncomputable abbrev wd_638 : Cond := Cond.instanceMethod yX11_allSeenIsSo
noncomputable abbrev wd_639 : Cond := Cond.selects RX11 yX11_allSeenIsSo yX11_allSeenIsSo
noncomputable def wsX11_who_r2 : List Cond := [wd_121, wd_637, wd_638, wd_639, wd_507, wd_636, wd_633, wd_634, wd_635, wd_631, wd_625, wd_632, wd_626, wd_516, wd_552, wd_232, wd_233, wd_230, wd_112, wd_221, wd_222, wd_223, wd_213, wd_196]
noncomputable def wsX11_who_r3 : List Cond := [wd_197, wd_198, wd_155, wd_113, wd_156, wd_157, wd_158, wd_159, wd_154, wd_146, wd_147, wd_148, wd_149, wd_150, wd_151, wd_152, wd_153, wd_143, wd_144, wd_145, wd_199, wd_15, wd_200, wd_201]
noncomputable def wsX11_who_r4 : List Cond := [wd_194, wd_195, wd_13, wd_14, wd_16, wd_17, wd_10, wd_11, wd_12, wd_5, wd_202, wd_181, wd_43, wd_160, wd_161, wd_162, wd_163, wd_164, wd_165, wd_166, wd_30, wd_203, wd_204, wd_205]
noncomputable def wsX11_who_r5 : List Cond := [wd_206, wd_48, wd_168, wd_169, wd_170, wd_171, wd_172, wd_63, wd_173, wd_65, wd_167, wd_207, wd_208, wd_209, wd_185, wd_178, wd_179, wd_180, wd_182, wd_183, wd_184, wd_174, wd_175, wd_176]
noncomputable def wsX11_who_r6 : List Cond := [wd_177, wd_141, wd_142, wd_210, wd_211, wd_212, wd_53, wd_186, wd_187, wd_188, wd_189, wd_190, wd_191, wd_192, wd_193, wd_224, wd_225, wd_226, wd_214, wd_215, wd_124, wd_125, wd_126, wd_216]
noncomputable def wsX11_who_r7 : List Cond := [wd_217, wd_218, wd_227, wd_228, wd_229, wd_219, wd_220]
noncomputable abbrev wd_640 : Cond := Cond.code yX11_who cX11_who 3 (some .int)
noncomputable def wsX11_who : List Cond := wd_640 :: ((wsX11_who_r1 ++ (wsX11_who_r2 ++ (wsX11_who_r3 ++ (wsX11_who_r4 ++ (wsX11_who_r5 ++ (wsX11_who_r6 ++ wsX11_who_r7)))))) ++ wsX110 ++ wsX10 ++ wsX50 ++ wsX00 ++ wsX30 ++ wsX40 ++ wsX60 ++ wsX70 ++ wsX80 ++ wsX100 ++ wsX20)
noncomputable abbrev wd_641 : Cond := Cond.code yX11_lowest cX11_lowest 7 (some .long)
noncomputable abbrev wd_642 : Cond := Cond.constantLong RX11 273 (-9223372036854775808)
noncomputable def wsX11_lowest : List Cond := wd_641 :: ([wd_642])
noncomputable def wsX11_odds_r1 : List Cond := [wd_642, wd_453, wd_504, wd_455, wd_519, wd_520, wd_521, wd_522, wd_507, wd_512, wd_563, wd_564, wd_565, wd_139, wd_117, wd_96, wd_98, wd_104, wd_105, wd_106, wd_95, wd_97, wd_99, wd_100]
noncomputable def wsX11_odds_r2 : List Cond := [wd_101, wd_102, wd_103, wd_118, wd_119, wd_120, wd_121, wd_566, wd_567, wd_568, wd_562, wd_552, wd_232, wd_233, wd_230, wd_112, wd_221, wd_222, wd_223, wd_213, wd_196, wd_197, wd_198, wd_155]
noncomputable def wsX11_odds_r3 : List Cond := [wd_113, wd_156, wd_157, wd_158, wd_159, wd_154, wd_146, wd_147, wd_148, wd_149, wd_150, wd_151, wd_152, wd_153, wd_143, wd_144, wd_145, wd_199, wd_15, wd_200, wd_201, wd_194, wd_195, wd_13]
noncomputable def wsX11_odds_r4 : List Cond := [wd_14, wd_16, wd_17, wd_10, wd_11, wd_12, wd_5, wd_202, wd_181, wd_43, wd_160, wd_161, wd_162, wd_163, wd_164, wd_165, wd_166, wd_30, wd_203, wd_204, wd_205, wd_206, wd_48, wd_168]
noncomputable def wsX11_odds_r5 : List Cond := [wd_169, wd_170, wd_171, wd_172, wd_63, wd_173, wd_65, wd_167, wd_207, wd_208, wd_209, wd_185, wd_178, wd_179, wd_180, wd_182, wd_183, wd_184, wd_174, wd_175, wd_176, wd_177, wd_141, wd_142]
noncomputable def wsX11_odds_r6 : List Cond := [wd_210, wd_211, wd_212, wd_53, wd_186, wd_187, wd_188, wd_189, wd_190, wd_191, wd_192, wd_193, wd_224, wd_225, wd_226, wd_214, wd_215, wd_124, wd_125, wd_126, wd_216, wd_217, wd_218, wd_227]
noncomputable abbrev wd_643 : Cond := Cond.methodLink RX11 275 yX11_lowest
noncomputable abbrev wd_644 : Cond := Cond.static yX11_lowest
noncomputable def wsX11_odds_r7 : List Cond := [wd_228, wd_229, wd_219, wd_220, wd_643, wd_644, wd_641]
noncomputable abbrev wd_645 : Cond := Cond.code yX11_odds cX11_odds 6 (some .long)
noncomputable def wsX11_odds : List Cond := wd_645 :: ((wsX11_odds_r1 ++ (wsX11_odds_r2 ++ (wsX11_odds_r3 ++ (wsX11_odds_r4 ++ (wsX11_odds_r5 ++ (wsX11_odds_r6 ++ wsX11_odds_r7)))))) ++ wsX110 ++ wsX10 ++ wsX00 ++ wsX30 ++ wsX40 ++ wsX60 ++ wsX70 ++ wsX80 ++ wsX100 ++ wsX20)
noncomputable def wsX11_mean_r1 : List Cond := [wd_453, wd_504, wd_642, wd_455, wd_563, wd_564, wd_565, wd_139, wd_117, wd_96, wd_98, wd_104, wd_105, wd_106, wd_95, wd_97, wd_99, wd_100, wd_101, wd_102, wd_103, wd_118, wd_119, wd_120]
noncomputable def wsX11_mean_r2 : List Cond := [wd_121, wd_569, wd_570, wd_571, wd_234, wd_231, wd_232, wd_233, wd_230, wd_112, wd_221, wd_222, wd_223, wd_213, wd_196, wd_197, wd_198, wd_155, wd_113, wd_156, wd_157, wd_158, wd_159, wd_154]
noncomputable def wsX11_mean_r3 : List Cond := [wd_146, wd_147, wd_148, wd_149, wd_150, wd_151, wd_152, wd_153, wd_143, wd_144, wd_145, wd_199, wd_15, wd_200, wd_201, wd_194, wd_195, wd_13, wd_14, wd_16, wd_17, wd_10, wd_11, wd_12]
noncomputable def wsX11_mean_r4 : List Cond := [wd_5, wd_202, wd_181, wd_43, wd_160, wd_161, wd_162, wd_163, wd_164, wd_165, wd_166, wd_30, wd_203, wd_204, wd_205, wd_206, wd_48, wd_168, wd_169, wd_170, wd_171, wd_172, wd_63, wd_173]
noncomputable def wsX11_mean_r5 : List Cond := [wd_65, wd_167, wd_207, wd_208, wd_209, wd_185, wd_178, wd_179, wd_180, wd_182, wd_183, wd_184, wd_174, wd_175, wd_176, wd_177, wd_141, wd_142, wd_210, wd_211, wd_212, wd_53, wd_186, wd_187]
noncomputable def wsX11_mean_r6 : List Cond := [wd_188, wd_189, wd_190, wd_191, wd_192, wd_193, wd_224, wd_225, wd_226, wd_214, wd_215, wd_124, wd_125, wd_126, wd_216, wd_217, wd_218, wd_227, wd_228, wd_229, wd_219, wd_220, wd_572, wd_573]
noncomputable def wsX11_mean_r7 : List Cond := [wd_574, wd_241, wd_643, wd_644, wd_507, wd_641]
noncomputable abbrev wd_646 : Cond := Cond.code yX11_mean cX11_mean 3 (some .long)
noncomputable def wsX11_mean : List Cond := wd_646 :: ((wsX11_mean_r1 ++ (wsX11_mean_r2 ++ (wsX11_mean_r3 ++ (wsX11_mean_r4 ++ (wsX11_mean_r5 ++ (wsX11_mean_r6 ++ wsX11_mean_r7)))))) ++ wsX110 ++ wsX10 ++ wsX00 ++ wsX30 ++ wsX40 ++ wsX60 ++ wsX70 ++ wsX80 ++ wsX100 ++ wsX20)
noncomputable abbrev wd_647 : Cond := Cond.code yX11_plan cX11_plan 2 (some .int)
noncomputable abbrev wd_648 : Cond := Cond.fieldLink RX11 279 "NineMowers$Course" "plan" "LNineMowers$Numbers;"
noncomputable def wsX11_plan : List Cond := wd_647 :: ([wd_453, wd_648, wd_626, wd_627, wd_628, wd_629, wd_25, wd_418, wd_19, wd_20, wd_630, wd_23, wd_24, wd_18] ++ wsX110 ++ wsX10 ++ wsX50)
noncomputable def wsX11_planned_r1 : List Cond := [wd_455, wd_453, wd_648, wd_626, wd_632, wd_563, wd_564, wd_565, wd_139, wd_117, wd_96, wd_98, wd_104, wd_105, wd_106, wd_95, wd_97, wd_99, wd_100, wd_101, wd_102, wd_103, wd_118, wd_119]
noncomputable def wsX11_planned_r2 : List Cond := [wd_120, wd_121, wd_552, wd_232, wd_233, wd_230, wd_112, wd_221, wd_222, wd_223, wd_213, wd_196, wd_197, wd_198, wd_155, wd_113, wd_156, wd_157, wd_158, wd_159, wd_154, wd_146, wd_147, wd_148]
noncomputable def wsX11_planned_r3 : List Cond := [wd_149, wd_150, wd_151, wd_152, wd_153, wd_143, wd_144, wd_145, wd_199, wd_15, wd_200, wd_201, wd_194, wd_195, wd_13, wd_14, wd_16, wd_17, wd_10, wd_11, wd_12, wd_5, wd_202, wd_181]
noncomputable def wsX11_planned_r4 : List Cond := [wd_43, wd_160, wd_161, wd_162, wd_163, wd_164, wd_165, wd_166, wd_30, wd_203, wd_204, wd_205, wd_206, wd_48, wd_168, wd_169, wd_170, wd_171, wd_172, wd_63, wd_173, wd_65, wd_167, wd_207]
noncomputable def wsX11_planned_r5 : List Cond := [wd_208, wd_209, wd_185, wd_178, wd_179, wd_180, wd_182, wd_183, wd_184, wd_174, wd_175, wd_176, wd_177, wd_141, wd_142, wd_210, wd_211, wd_212, wd_53, wd_186, wd_187, wd_188, wd_189, wd_190]
noncomputable def wsX11_planned_r6 : List Cond := [wd_191, wd_192, wd_193, wd_224, wd_225, wd_226, wd_214, wd_215, wd_124, wd_125, wd_126, wd_216, wd_217, wd_218, wd_227, wd_228, wd_229, wd_219, wd_220, wd_555, wd_556, wd_557, wd_236, wd_237]
noncomputable def wsX11_planned_r7 : List Cond := [wd_238, wd_239, wd_235, wd_559, wd_560, wd_561, wd_240, wd_572, wd_573, wd_574, wd_241]
noncomputable abbrev wd_649 : Cond := Cond.code yX11_planned cX11_planned 3 (some .int)
noncomputable def wsX11_planned : List Cond := wd_649 :: ((wsX11_planned_r1 ++ (wsX11_planned_r2 ++ (wsX11_planned_r3 ++ (wsX11_planned_r4 ++ (wsX11_planned_r5 ++ (wsX11_planned_r6 ++ wsX11_planned_r7)))))) ++ wsX110 ++ wsX10 ++ wsX50 ++ wsX00 ++ wsX30 ++ wsX40 ++ wsX60 ++ wsX70 ++ wsX80 ++ wsX100 ++ wsX20)
noncomputable abbrev wd_650 : Cond := Cond.code yX11_book cX11_book 2 (some .int)
noncomputable abbrev wd_651 : Cond := Cond.fieldLink RX11 282 "NineMowers$Course" "book" "LNineMowers$Numbers;"
noncomputable def wsX11_book : List Cond := wd_650 :: ([wd_453, wd_651, wd_626, wd_520, wd_521, wd_522, wd_507, wd_512, wd_504, wd_627, wd_628, wd_629, wd_25, wd_418, wd_19, wd_20, wd_630, wd_23, wd_24, wd_18] ++ wsX110 ++ wsX10 ++ wsX50)
noncomputable def wsX11_looked_r1 : List Cond := [wd_455, wd_453, wd_651, wd_626, wd_632, wd_563, wd_564, wd_565, wd_139, wd_117, wd_96, wd_98, wd_104, wd_105, wd_106, wd_95, wd_97, wd_99, wd_100, wd_101, wd_102, wd_103, wd_118, wd_119]
noncomputable def wsX11_looked_r2 : List Cond := [wd_120, wd_121, wd_552, wd_232, wd_233, wd_230, wd_112, wd_221, wd_222, wd_223, wd_213, wd_196, wd_197, wd_198, wd_155, wd_113, wd_156, wd_157, wd_158, wd_159, wd_154, wd_146, wd_147, wd_148]
noncomputable def wsX11_looked_r3 : List Cond := [wd_149, wd_150, wd_151, wd_152, wd_153, wd_143, wd_144, wd_145, wd_199, wd_15, wd_200, wd_201, wd_194, wd_195, wd_13, wd_14, wd_16, wd_17, wd_10, wd_11, wd_12, wd_5, wd_202, wd_181]
noncomputable def wsX11_looked_r4 : List Cond := [wd_43, wd_160, wd_161, wd_162, wd_163, wd_164, wd_165, wd_166, wd_30, wd_203, wd_204, wd_205, wd_206, wd_48, wd_168, wd_169, wd_170, wd_171, wd_172, wd_63, wd_173, wd_65, wd_167, wd_207]
noncomputable def wsX11_looked_r5 : List Cond := [wd_208, wd_209, wd_185, wd_178, wd_179, wd_180, wd_182, wd_183, wd_184, wd_174, wd_175, wd_176, wd_177, wd_141, wd_142, wd_210, wd_211, wd_212, wd_53, wd_186, wd_187, wd_188, wd_189, wd_190]
noncomputable def wsX11_looked_r6 : List Cond := [wd_191, wd_192, wd_193, wd_224, wd_225, wd_226, wd_214, wd_215, wd_124, wd_125, wd_126, wd_216, wd_217, wd_218, wd_227, wd_228, wd_229, wd_219, wd_220]
noncomputable abbrev wd_652 : Cond := Cond.code yX11_looked cX11_looked 4 (some .int)
noncomputable def wsX11_looked : List Cond := wd_652 :: ((wsX11_looked_r1 ++ (wsX11_looked_r2 ++ (wsX11_looked_r3 ++ (wsX11_looked_r4 ++ (wsX11_looked_r5 ++ wsX11_looked_r6))))) ++ wsX110 ++ wsX10 ++ wsX50 ++ wsX00 ++ wsX30 ++ wsX40 ++ wsX60 ++ wsX70 ++ wsX80 ++ wsX100 ++ wsX20)
noncomputable abbrev wd_653 : Cond := Cond.code yX11_isTape cX11_isTape 1 (some .boolean)
noncomputable def wsX11_isTape : List Cond := wd_653 :: ([])
noncomputable abbrev wd_654 : Cond := Cond.code yX11_judge cX11_judge 5 (some .int)
noncomputable abbrev wd_655 : Cond := Cond.fieldLink RX11 291 "NineMowers$Tape" "sort" "I"
noncomputable abbrev wd_656 : Cond := Cond.fieldLink RX11 297 "NineMowers$Tape" "items" "[J"
noncomputable abbrev wd_657 : Cond := Cond.methodLink RX11 285 yX11_isTape
noncomputable abbrev wd_658 : Cond := Cond.static yX11_isTape
noncomputable abbrev wd_659 : Cond := Cond.methodLink RX11 288 yX9_isEmpty
noncomputable abbrev wd_660 : Cond := Cond.instanceMethod yX9_isEmpty
noncomputable abbrev wd_661 : Cond := Cond.selects RX9 yX9_isEmpty yX9_isEmpty
noncomputable abbrev wd_662 : Cond := Cond.methodLink RX11 294 yX9_has
noncomputable abbrev wd_663 : Cond := Cond.instanceMethod yX9_has
noncomputable abbrev wd_664 : Cond := Cond.selects RX9 yX9_has yX9_has
noncomputable def wsX11_judge : List Cond := wd_654 :: ([wd_464, wd_655, wd_453, wd_504, wd_656, wd_516, wd_657, wd_658, wd_507, wd_653, wd_659, wd_660, wd_661, wd_473, wd_443, wd_436, wd_662, wd_663, wd_664, wd_444, wd_437] ++ wsX110 ++ wsX90 ++ wsX10)
noncomputable def wsX11_image_r1 : List Cond := [wd_454, wd_453, wd_456, wd_504, wd_563, wd_564, wd_565, wd_139, wd_117, wd_96, wd_98, wd_104, wd_105, wd_106, wd_95, wd_97, wd_99, wd_100, wd_101, wd_102, wd_103, wd_118, wd_119, wd_120]
noncomputable abbrev wd_665 : Cond := Cond.methodLink RX11 301 yX1_becomesTold
noncomputable abbrev wd_666 : Cond := Cond.instanceMethod yX1_becomesTold
noncomputable abbrev wd_667 : Cond := Cond.selects RX1 yX1_becomesTold yX1_becomesTold
noncomputable def wsX11_image_r2 : List Cond := [wd_121, wd_665, wd_666, wd_667, wd_128, wd_109, wd_110, wd_111, wd_129, wd_130, wd_131, wd_25, wd_122, wd_19, wd_20, wd_123, wd_124, wd_125, wd_126, wd_127]
noncomputable abbrev wd_668 : Cond := Cond.code yX11_image cX11_image 1 (some .int)
noncomputable def wsX11_image : List Cond := wd_668 :: ((wsX11_image_r1 ++ wsX11_image_r2) ++ wsX110 ++ wsX10 ++ wsX50)
noncomputable def wsX11_undo_r1 : List Cond := [wd_456, wd_453, wd_454, wd_504, wd_563, wd_564, wd_565, wd_139, wd_117, wd_96, wd_98, wd_104, wd_105, wd_106, wd_95, wd_97, wd_99, wd_100, wd_101, wd_102, wd_103, wd_118, wd_119, wd_120]
noncomputable def wsX11_undo_r2 : List Cond := [wd_121, wd_665, wd_666, wd_667, wd_128, wd_109, wd_110, wd_111, wd_129, wd_130, wd_131, wd_25, wd_122, wd_19, wd_20, wd_123, wd_124, wd_125, wd_126, wd_127]
noncomputable abbrev wd_669 : Cond := Cond.code yX11_undo cX11_undo 1 (some .int)
noncomputable def wsX11_undo : List Cond := wd_669 :: ((wsX11_undo_r1 ++ wsX11_undo_r2) ++ wsX110 ++ wsX10 ++ wsX50)
noncomputable abbrev wd_670 : Cond := Cond.methodLink RX11 304 ⟨"NineMowers$Mower", "mowing", "(ILNineMowers$Numbers;)I"⟩
noncomputable def wsX11_act_r1 : List Cond := [wd_466, wd_626, wd_453, wd_513, wd_520, wd_521, wd_522, wd_507, wd_512, wd_504, wd_670, wd_29, wd_39, wd_31, wd_10, wd_21, wd_5, wd_22, wd_23, wd_24, wd_25, wd_18, wd_19, wd_20]
noncomputable abbrev wd_671 : Cond := Cond.methodLink RX11 304 yX4_mowing
noncomputable def wsX11_act_r2 : List Cond := [wd_40, wd_41, wd_42, wd_43, wd_26, wd_27, wd_28, wd_30, wd_671, wd_45, wd_46, wd_47, wd_48, wd_32, wd_33, wd_49, wd_50, wd_51, wd_52, wd_53, wd_34, wd_35, wd_36, wd_37]
noncomputable abbrev wd_672 : Cond := Cond.methodLink RX11 308 ⟨"NineMowers$Mower", "whetting", "(ILNineMowers$Numbers;)I"⟩
noncomputable abbrev wd_673 : Cond := Cond.methodLink RX11 308 yX4_whetting
noncomputable def wsX11_act_r3 : List Cond := [wd_672, wd_57, wd_69, wd_59, wd_54, wd_6, wd_38, wd_44, wd_70, wd_673, wd_72, wd_73, wd_74, wd_75, wd_66, wd_61, wd_62, wd_63, wd_64, wd_65, wd_60, wd_55, wd_56, wd_58]
noncomputable abbrev wd_674 : Cond := Cond.methodLink RX11 311 ⟨"NineMowers$Mower", "telling", "(ILNineMowers$Numbers;)I"⟩
noncomputable abbrev wd_675 : Cond := Cond.instanceMethod ⟨"NineMowers$Mower", "telling", "(ILNineMowers$Numbers;)I"⟩
noncomputable abbrev wd_676 : Cond := Cond.selects RX0 ⟨"NineMowers$Mower", "telling", "(ILNineMowers$Numbers;)I"⟩ yX0_telling
noncomputable abbrev wd_677 : Cond := Cond.instanceMethod yX0_telling
noncomputable abbrev wd_678 : Cond := Cond.selects RX3 ⟨"NineMowers$Mower", "telling", "(ILNineMowers$Numbers;)I"⟩ yX4_telling
noncomputable def wsX11_act_r4 : List Cond := [wd_76, wd_77, wd_78, wd_79, wd_67, wd_674, wd_83, wd_675, wd_676, wd_677, wd_195, wd_89, wd_81, wd_82, wd_16, wd_84, wd_80, wd_68, wd_71, wd_85, wd_86, wd_87, wd_88, wd_678]
noncomputable abbrev wd_679 : Cond := Cond.methodLink RX11 311 yX4_telling
noncomputable abbrev wd_680 : Cond := Cond.selects RX4 yX4_telling yX4_telling
noncomputable abbrev wd_681 : Cond := Cond.selects RX6 ⟨"NineMowers$Mower", "telling", "(ILNineMowers$Numbers;)I"⟩ yX4_telling
noncomputable abbrev wd_682 : Cond := Cond.selects RX7 ⟨"NineMowers$Mower", "telling", "(ILNineMowers$Numbers;)I"⟩ yX7_telling
noncomputable abbrev wd_683 : Cond := Cond.instanceMethod yX7_telling
noncomputable abbrev wd_684 : Cond := Cond.selects RX8 ⟨"NineMowers$Mower", "telling", "(ILNineMowers$Numbers;)I"⟩ yX4_telling
noncomputable abbrev wd_685 : Cond := Cond.selects RX10 ⟨"NineMowers$Mower", "telling", "(ILNineMowers$Numbers;)I"⟩ yX0_telling
noncomputable def wsX11_act_r5 : List Cond := [wd_679, wd_680, wd_681, wd_682, wd_683, wd_209, wd_428, wd_429, wd_430, wd_431, wd_684, wd_685]
noncomputable abbrev wd_686 : Cond := Cond.code yX11_act cX11_act 5 (some .int)
noncomputable def wsX11_act : List Cond := wd_686 :: ((wsX11_act_r1 ++ (wsX11_act_r2 ++ (wsX11_act_r3 ++ (wsX11_act_r4 ++ wsX11_act_r5)))) ++ wsX110 ++ wsX50 ++ wsX10 ++ wsX00 ++ wsX30 ++ wsX40 ++ wsX60 ++ wsX70 ++ wsX80 ++ wsX100)
noncomputable abbrev wd_687 : Cond := Cond.code yX11_trace cX11_trace 2 (some .int)
noncomputable abbrev wd_688 : Cond := Cond.methodLink RX11 314 yX5_has
noncomputable abbrev wd_689 : Cond := Cond.instanceMethod yX5_has
noncomputable abbrev wd_690 : Cond := Cond.selects RX5 yX5_has yX5_has
noncomputable def wsX11_trace : List Cond := wd_687 :: ([wd_466, wd_632, wd_688, wd_689, wd_690, wd_25, wd_419, wd_19, wd_20] ++ wsX110 ++ wsX50)
noncomputable abbrev wd_691 : Cond := Cond.code yX11_isOfKind cX11_isOfKind 2 (some .boolean)
noncomputable abbrev wd_692 : Cond := Cond.classLink RX11 87 "NineMowers$Steady"
noncomputable abbrev wd_693 : Cond := Cond.classLink RX11 92 "NineMowers$Hasty"
noncomputable abbrev wd_694 : Cond := Cond.classLink RX11 95 "NineMowers$Boy"
noncomputable abbrev wd_695 : Cond := Cond.classLink RX11 98 "NineMowers$Old"
noncomputable abbrev wd_696 : Cond := Cond.classLink RX11 101 "NineMowers$Pressed"
noncomputable def wsX11_isOfKind : List Cond := wd_691 :: ([wd_692, wd_693, wd_694, wd_695, wd_696, wd_532])
noncomputable abbrev wd_697 : Cond := Cond.code yX11_taken cX11_taken 3 (some .int)
noncomputable abbrev wd_698 : Cond := Cond.methodLink RX11 315 yX11_isOfKind
noncomputable abbrev wd_699 : Cond := Cond.static yX11_isOfKind
noncomputable def wsX11_taken : List Cond := wd_697 :: ([wd_453, wd_513, wd_514, wd_520, wd_521, wd_522, wd_507, wd_512, wd_504, wd_698, wd_699, wd_691, wd_692, wd_693, wd_694, wd_695, wd_696, wd_532] ++ wsX110 ++ wsX10 ++ wsX00 ++ wsX30 ++ wsX40 ++ wsX60 ++ wsX70 ++ wsX80 ++ wsX100)
noncomputable abbrev wd_700 : Cond := Cond.code yX11_count cX11_count 2 (some .int)
noncomputable def wsX11_count : List Cond := wd_700 :: ([wd_453, wd_504, wd_459, wd_625, wd_626, wd_648, wd_651, wd_462, wd_466] ++ wsX110 ++ wsX10 ++ wsX50)
noncomputable abbrev wd_701 : Cond := Cond.code yX11_tape cX11_tape 4 (some .int)
noncomputable abbrev wd_702 : Cond := Cond.methodLink RX11 319 yX9_becomes
noncomputable abbrev wd_703 : Cond := Cond.instanceMethod yX9_becomes
noncomputable abbrev wd_704 : Cond := Cond.selects RX9 yX9_becomes yX9_becomes
noncomputable def wsX11_tape : List Cond := wd_701 :: ([wd_464, wd_657, wd_658, wd_507, wd_653, wd_702, wd_703, wd_704, wd_473, wd_439, wd_436, wd_437, wd_435, wd_440, wd_441, wd_442, wd_438] ++ wsX110 ++ wsX90)
noncomputable abbrev wd_705 : Cond := Cond.code yX11_item cX11_item 6 (some .int)
noncomputable abbrev wd_706 : Cond := Cond.methodLink RX11 321 yX9_cut
noncomputable abbrev wd_707 : Cond := Cond.instanceMethod yX9_cut
noncomputable abbrev wd_708 : Cond := Cond.selects RX9 yX9_cut yX9_cut
noncomputable def wsX11_item : List Cond := wd_705 :: ([wd_464, wd_656, wd_657, wd_658, wd_507, wd_653, wd_659, wd_660, wd_661, wd_473, wd_443, wd_436, wd_662, wd_663, wd_664, wd_444, wd_437, wd_706, wd_707, wd_708, wd_446] ++ wsX110 ++ wsX90)
noncomputable abbrev wd_709 : Cond := Cond.code yX11_read cX11_read 3 (some .long)
noncomputable def wsX11_read : List Cond := wd_709 :: ([wd_464, wd_656, wd_642, wd_657, wd_658, wd_507, wd_653, wd_662, wd_663, wd_664, wd_473, wd_444, wd_437] ++ wsX110 ++ wsX90)
noncomputable abbrev wd_710 : Cond := Cond.code yX11_shift cX11_shift 8 (some .int)
noncomputable abbrev wd_711 : Cond := Cond.methodLink RX11 325 yX9_hasPart
noncomputable abbrev wd_712 : Cond := Cond.instanceMethod yX9_hasPart
noncomputable abbrev wd_713 : Cond := Cond.selects RX9 yX9_hasPart yX9_hasPart
noncomputable def wsX11_shift : List Cond := wd_710 :: ([wd_464, wd_655, wd_656, wd_587, wd_119, wd_120, wd_121, wd_657, wd_658, wd_507, wd_653, wd_659, wd_660, wd_661, wd_473, wd_443, wd_436, wd_711, wd_712, wd_713, wd_445, wd_437] ++ wsX110 ++ wsX90)
noncomputable abbrev wd_714 : Cond := Cond.methodLink RX12 1 objectInit
noncomputable abbrev wd_715 : Cond := Cond.fieldLink RX12 7 "NineMowersModel" "mowers" "I"
noncomputable abbrev wd_716 : Cond := Cond.fieldLink RX12 13 "NineMowersModel" "minutes" "I"
noncomputable abbrev wd_717 : Cond := Cond.fieldLink RX12 16 "NineMowersModel" "rowed" "I"
noncomputable abbrev wd_718 : Cond := Cond.fieldLink RX12 19 "NineMowersModel" "kind" "[I"
noncomputable abbrev wd_719 : Cond := Cond.fieldLink RX12 23 "NineMowersModel" "v" "[I"
noncomputable abbrev wd_720 : Cond := Cond.fieldLink RX12 26 "NineMowersModel" "where" "[I"
noncomputable abbrev wd_721 : Cond := Cond.fieldLink RX12 29 "NineMowersModel" "edge" "[I"
noncomputable abbrev wd_722 : Cond := Cond.fieldLink RX12 32 "NineMowersModel" "tired" "[I"
noncomputable abbrev wd_723 : Cond := Cond.fieldLink RX12 35 "NineMowersModel" "stopped" "[I"
noncomputable abbrev wd_724 : Cond := Cond.fieldLink RX12 38 "NineMowersModel" "rows" "[I"
noncomputable abbrev wd_725 : Cond := Cond.fieldLink RX12 41 "NineMowersModel" "line" "[I"
noncomputable abbrev wd_726 : Cond := Cond.fieldLink RX12 44 "NineMowersModel" "fields" "I"
noncomputable abbrev wd_727 : Cond := Cond.fieldLink RX12 47 "NineMowersModel" "the" "I"
noncomputable abbrev wd_728 : Cond := Cond.fieldLink RX12 50 "NineMowersModel" "fed" "I"
noncomputable abbrev wd_729 : Cond := Cond.fieldLink RX12 53 "NineMowersModel" "at" "I"
noncomputable abbrev wd_730 : Cond := Cond.fieldLink RX12 56 "NineMowersModel" "digits" "I"
noncomputable abbrev wd_731 : Cond := Cond.fieldLink RX12 59 "NineMowersModel" "text" "[I"
noncomputable abbrev wd_732 : Cond := Cond.fieldLink RX12 62 "NineMowersModel" "clauses" "[I"
noncomputable abbrev wd_733 : Cond := Cond.fieldLink RX12 65 "NineMowersModel" "word" "[I"
noncomputable abbrev wd_734 : Cond := Cond.fieldLink RX12 68 "NineMowersModel" "number" "[I"
noncomputable def wsX12_init_r1 : List Cond := [wd_714, wd_2, wd_3, wd_715, wd_716, wd_717, wd_92, wd_718, wd_719, wd_720, wd_721, wd_722, wd_723, wd_724, wd_725, wd_726, wd_727, wd_728, wd_729, wd_730, wd_731, wd_732, wd_733, wd_734]
noncomputable abbrev wd_735 : Cond := Cond.fieldLink RX12 71 "NineMowersModel" "from" "[I"
noncomputable abbrev wd_736 : Cond := Cond.fieldLink RX12 74 "NineMowersModel" "to" "[I"
noncomputable abbrev wd_737 : Cond := Cond.fieldLink RX12 77 "NineMowersModel" "sign" "[I"
noncomputable abbrev wd_738 : Cond := Cond.fieldLink RX12 80 "NineMowersModel" "waits" "[I"
noncomputable abbrev wd_739 : Cond := Cond.fieldLink RX12 83 "NineMowersModel" "signs" "I"
noncomputable abbrev wd_740 : Cond := Cond.fieldLink RX12 86 "NineMowersModel" "waiting" "I"
noncomputable abbrev wd_741 : Cond := Cond.fieldLink RX12 89 "NineMowersModel" "open" "I"
noncomputable abbrev wd_742 : Cond := Cond.fieldLink RX12 92 "NineMowersModel" "letters" "[I"
noncomputable abbrev wd_743 : Cond := Cond.fieldLink RX12 95 "NineMowersModel" "gapTold" "I"
noncomputable abbrev wd_744 : Cond := Cond.arrayClass .boolean
noncomputable abbrev wd_745 : Cond := Cond.fieldLink RX12 98 "NineMowersModel" "pile" "[Z"
noncomputable abbrev wd_746 : Cond := Cond.fieldLink RX12 102 "NineMowersModel" "placeSeen" "I"
noncomputable abbrev wd_747 : Cond := Cond.fieldLink RX12 105 "NineMowersModel" "stride" "[I"
noncomputable abbrev wd_748 : Cond := Cond.fieldLink RX12 108 "NineMowersModel" "heldTimes" "[I"
noncomputable abbrev wd_749 : Cond := Cond.fieldLink RX12 111 "NineMowersModel" "keptMinutes" "I"
noncomputable abbrev wd_750 : Cond := Cond.fieldLink RX12 114 "NineMowersModel" "keptWhere" "[I"
noncomputable abbrev wd_751 : Cond := Cond.fieldLink RX12 117 "NineMowersModel" "keptEdge" "[I"
noncomputable abbrev wd_752 : Cond := Cond.fieldLink RX12 120 "NineMowersModel" "keptTired" "[I"
noncomputable abbrev wd_753 : Cond := Cond.fieldLink RX12 123 "NineMowersModel" "keptStopped" "[I"
noncomputable abbrev wd_754 : Cond := Cond.fieldLink RX12 126 "NineMowersModel" "keptLine" "[I"
noncomputable abbrev wd_755 : Cond := Cond.fieldLink RX12 129 "NineMowersModel" "bestLine" "[I"
noncomputable abbrev wd_756 : Cond := Cond.fieldLink RX12 132 "NineMowersModel" "asIs" "[I"
noncomputable abbrev wd_757 : Cond := Cond.fieldLink RX12 135 "NineMowersModel" "seen" "I"
noncomputable abbrev wd_758 : Cond := Cond.fieldLink RX12 138 "NineMowersModel" "seenWho" "[I"
noncomputable def wsX12_init_r2 : List Cond := [wd_735, wd_736, wd_737, wd_738, wd_739, wd_740, wd_741, wd_742, wd_743, wd_744, wd_745, wd_746, wd_747, wd_748, wd_749, wd_750, wd_751, wd_752, wd_753, wd_754, wd_755, wd_756, wd_757, wd_758]
noncomputable abbrev wd_759 : Cond := Cond.fieldLink RX12 141 "NineMowersModel" "seenWhen" "[I"
noncomputable abbrev wd_760 : Cond := Cond.fieldLink RX12 144 "NineMowersModel" "seenAt" "[I"
noncomputable abbrev wd_761 : Cond := Cond.fieldLink RX12 147 "NineMowersModel" "plans" "I"
noncomputable abbrev wd_762 : Cond := Cond.fieldLink RX12 150 "NineMowersModel" "books" "I"
noncomputable abbrev wd_763 : Cond := Cond.fieldLink RX12 153 "NineMowersModel" "plan" "[I"
noncomputable abbrev wd_764 : Cond := Cond.fieldLink RX12 156 "NineMowersModel" "book" "[I"
noncomputable abbrev wd_765 : Cond := Cond.fieldLink RX12 159 "NineMowersModel" "hasImage" "Z"
noncomputable abbrev wd_766 : Cond := Cond.fieldLink RX12 163 "NineMowersModel" "imageThe" "I"
noncomputable abbrev wd_767 : Cond := Cond.fieldLink RX12 166 "NineMowersModel" "imageMowers" "I"
noncomputable abbrev wd_768 : Cond := Cond.fieldLink RX12 169 "NineMowersModel" "imageMinutes" "I"
noncomputable abbrev wd_769 : Cond := Cond.fieldLink RX12 172 "NineMowersModel" "imageSeen" "I"
noncomputable abbrev wd_770 : Cond := Cond.fieldLink RX12 175 "NineMowersModel" "imagePlans" "I"
noncomputable abbrev wd_771 : Cond := Cond.fieldLink RX12 178 "NineMowersModel" "imageBooks" "I"
noncomputable abbrev wd_772 : Cond := Cond.fieldLink RX12 181 "NineMowersModel" "imageKind" "[I"
noncomputable abbrev wd_773 : Cond := Cond.fieldLink RX12 184 "NineMowersModel" "imageV" "[I"
noncomputable abbrev wd_774 : Cond := Cond.fieldLink RX12 187 "NineMowersModel" "imageWhere" "[I"
noncomputable abbrev wd_775 : Cond := Cond.fieldLink RX12 190 "NineMowersModel" "imageEdge" "[I"
noncomputable abbrev wd_776 : Cond := Cond.fieldLink RX12 193 "NineMowersModel" "imageTired" "[I"
noncomputable abbrev wd_777 : Cond := Cond.fieldLink RX12 196 "NineMowersModel" "imageStopped" "[I"
noncomputable abbrev wd_778 : Cond := Cond.fieldLink RX12 199 "NineMowersModel" "imageLine" "[I"
noncomputable abbrev wd_779 : Cond := Cond.fieldLink RX12 202 "NineMowersModel" "imageRows" "[I"
noncomputable abbrev wd_780 : Cond := Cond.fieldLink RX12 205 "NineMowersModel" "imageWho" "[I"
noncomputable abbrev wd_781 : Cond := Cond.fieldLink RX12 208 "NineMowersModel" "imageWhen" "[I"
noncomputable abbrev wd_782 : Cond := Cond.fieldLink RX12 211 "NineMowersModel" "imageAt" "[I"
noncomputable def wsX12_init_r3 : List Cond := [wd_759, wd_760, wd_761, wd_762, wd_763, wd_764, wd_765, wd_766, wd_767, wd_768, wd_769, wd_770, wd_771, wd_772, wd_773, wd_774, wd_775, wd_776, wd_777, wd_778, wd_779, wd_780, wd_781, wd_782]
noncomputable abbrev wd_783 : Cond := Cond.fieldLink RX12 214 "NineMowersModel" "imagePlan" "[I"
noncomputable abbrev wd_784 : Cond := Cond.fieldLink RX12 217 "NineMowersModel" "imageBook" "[I"
noncomputable abbrev wd_785 : Cond := Cond.fieldLink RX12 220 "NineMowersModel" "ran" "I"
noncomputable abbrev wd_786 : Cond := Cond.fieldLink RX12 223 "NineMowersModel" "bodies" "[I"
noncomputable abbrev wd_787 : Cond := Cond.fieldLink RX12 226 "NineMowersModel" "sort" "[I"
noncomputable abbrev wd_788 : Cond := Cond.fieldLink RX12 229 "NineMowersModel" "length" "[I"
noncomputable abbrev wd_789 : Cond := Cond.fieldLink RX12 232 "NineMowersModel" "item" "[J"
noncomputable abbrev wd_790 : Cond := Cond.fieldLink RX12 236 "NineMowersModel" "aside" "[J"
noncomputable def wsX12_init_r4 : List Cond := [wd_783, wd_784, wd_785, wd_786, wd_787, wd_788, wd_434, wd_789, wd_790]
noncomputable abbrev wd_791 : Cond := Cond.code yX12_init cX12_init 1 none
noncomputable def wsX12_init : List Cond := wd_791 :: ((wsX12_init_r1 ++ (wsX12_init_r2 ++ (wsX12_init_r3 ++ wsX12_init_r4))) ++ wsX120)
noncomputable abbrev wd_792 : Cond := Cond.code yX12_in cX12_in 4 (some .boolean)
noncomputable def wsX12_in : List Cond := wd_792 :: ([])
noncomputable abbrev wd_793 : Cond := Cond.code yX12_has cX12_has 3 (some .boolean)
noncomputable def wsX12_has : List Cond := wd_793 :: ([])
noncomputable abbrev wd_794 : Cond := Cond.code yX12_least cX12_least 3 (some .int)
noncomputable def wsX12_least : List Cond := wd_794 :: ([])
noncomputable abbrev wd_795 : Cond := Cond.code yX12_most cX12_most 3 (some .int)
noncomputable def wsX12_most : List Cond := wd_795 :: ([])
noncomputable abbrev wd_796 : Cond := Cond.code yX12_isMower cX12_isMower 2 (some .boolean)
noncomputable abbrev wd_797 : Cond := Cond.methodLink RX12 239 yX12_in
noncomputable abbrev wd_798 : Cond := Cond.instanceMethod yX12_in
noncomputable abbrev wd_799 : Cond := Cond.selects RX12 yX12_in yX12_in
noncomputable abbrev wd_800 : Cond := Cond.initialized RX12
noncomputable def wsX12_isMower : List Cond := wd_796 :: ([wd_715, wd_797, wd_798, wd_799, wd_800, wd_792] ++ wsX120)
noncomputable abbrev wd_801 : Cond := Cond.code yX12_mower cX12_mower 4 (some .int)
noncomputable def wsX12_mower : List Cond := wd_801 :: ([wd_715, wd_718, wd_719, wd_720, wd_721, wd_722, wd_723, wd_725, wd_724, wd_717, wd_797, wd_798, wd_799, wd_800, wd_792] ++ wsX120)
noncomputable abbrev wd_802 : Cond := Cond.code yX12_set cX12_set 5 (some .int)
noncomputable abbrev wd_803 : Cond := Cond.methodLink RX12 243 yX12_isMower
noncomputable abbrev wd_804 : Cond := Cond.instanceMethod yX12_isMower
noncomputable abbrev wd_805 : Cond := Cond.selects RX12 yX12_isMower yX12_isMower
noncomputable def wsX12_set : List Cond := wd_802 :: ([wd_720, wd_721, wd_722, wd_723, wd_803, wd_804, wd_805, wd_800, wd_796, wd_715, wd_797, wd_798, wd_799, wd_792] ++ wsX120)
noncomputable abbrev wd_806 : Cond := Cond.code yX12_row cX12_row 5 (some .int)
noncomputable def wsX12_row : List Cond := wd_806 :: ([wd_718, wd_724, wd_803, wd_804, wd_805, wd_800, wd_796, wd_715, wd_797, wd_798, wd_799, wd_792] ++ wsX120)
noncomputable abbrev wd_807 : Cond := Cond.code yX12_placeOf cX12_placeOf 3 (some .int)
noncomputable def wsX12_placeOf : List Cond := wd_807 :: ([wd_725] ++ wsX120)
noncomputable abbrev wd_808 : Cond := Cond.code yX12_place cX12_place 5 (some .int)
noncomputable abbrev wd_809 : Cond := Cond.methodLink RX12 247 yX12_placeOf
noncomputable abbrev wd_810 : Cond := Cond.instanceMethod yX12_placeOf
noncomputable abbrev wd_811 : Cond := Cond.selects RX12 yX12_placeOf yX12_placeOf
noncomputable def wsX12_place : List Cond := wd_808 :: ([wd_715, wd_725, wd_803, wd_804, wd_805, wd_800, wd_796, wd_797, wd_798, wd_799, wd_792, wd_809, wd_810, wd_811, wd_807] ++ wsX120)
noncomputable abbrev wd_812 : Cond := Cond.code yX12_feed cX12_feed 2 (some .int)
noncomputable def wsX12_feed : List Cond := wd_812 :: ([wd_728, wd_731, wd_797, wd_798, wd_799, wd_800, wd_792] ++ wsX120)
noncomputable abbrev wd_813 : Cond := Cond.code yX12_next cX12_next 1 (some .int)
noncomputable def wsX12_next : List Cond := wd_813 :: ([wd_729, wd_728, wd_731] ++ wsX120)
noncomputable abbrev wd_814 : Cond := Cond.code yX12_takes cX12_takes 2 (some .boolean)
noncomputable abbrev wd_815 : Cond := Cond.methodLink RX12 251 yX12_next
noncomputable abbrev wd_816 : Cond := Cond.instanceMethod yX12_next
noncomputable abbrev wd_817 : Cond := Cond.selects RX12 yX12_next yX12_next
noncomputable def wsX12_takes : List Cond := wd_814 :: ([wd_729, wd_815, wd_816, wd_817, wd_800, wd_813, wd_728, wd_731] ++ wsX120)
noncomputable abbrev wd_818 : Cond := Cond.code yX12_takesWord cX12_takesWord 4 (some .boolean)
noncomputable abbrev wd_819 : Cond := Cond.methodLink RX12 255 yX12_takes
noncomputable abbrev wd_820 : Cond := Cond.instanceMethod yX12_takes
noncomputable abbrev wd_821 : Cond := Cond.selects RX12 yX12_takes yX12_takes
noncomputable def wsX12_takesWord : List Cond := wd_818 :: ([wd_742, wd_819, wd_820, wd_821, wd_800, wd_814, wd_729, wd_815, wd_816, wd_817, wd_813, wd_728, wd_731] ++ wsX120)
noncomputable abbrev wd_822 : Cond := Cond.code yX12_isDigit cX12_isDigit 1 (some .boolean)
noncomputable def wsX12_isDigit : List Cond := wd_822 :: ([wd_815, wd_816, wd_817, wd_800, wd_813, wd_729, wd_728, wd_731, wd_797, wd_798, wd_799, wd_792] ++ wsX120)
noncomputable abbrev wd_823 : Cond := Cond.code yX12_takesNumber cX12_takesNumber 2 (some .boolean)
noncomputable abbrev wd_824 : Cond := Cond.methodLink RX12 258 yX12_isDigit
noncomputable abbrev wd_825 : Cond := Cond.instanceMethod yX12_isDigit
noncomputable abbrev wd_826 : Cond := Cond.selects RX12 yX12_isDigit yX12_isDigit
noncomputable def wsX12_takesNumber : List Cond := wd_823 :: ([wd_730, wd_729, wd_824, wd_825, wd_826, wd_800, wd_822, wd_815, wd_816, wd_817, wd_813, wd_728, wd_731, wd_797, wd_798, wd_799, wd_792] ++ wsX120)
noncomputable abbrev wd_827 : Cond := Cond.code yX12_emits cX12_emits 2 none
noncomputable def wsX12_emits : List Cond := wd_827 :: ([wd_737, wd_739] ++ wsX120)
noncomputable abbrev wd_828 : Cond := Cond.code yX12_whole cX12_whole 1 none
noncomputable abbrev wd_829 : Cond := Cond.methodLink RX12 262 yX12_emits
noncomputable abbrev wd_830 : Cond := Cond.instanceMethod yX12_emits
noncomputable abbrev wd_831 : Cond := Cond.selects RX12 yX12_emits yX12_emits
noncomputable def wsX12_whole : List Cond := wd_828 :: ([wd_740, wd_738, wd_741, wd_829, wd_830, wd_831, wd_800, wd_827, wd_737, wd_739] ++ wsX120)
noncomputable abbrev wd_832 : Cond := Cond.code yX12_settle cX12_settle 2 none
noncomputable def wsX12_settle : List Cond := wd_832 :: ([wd_740, wd_738, wd_829, wd_830, wd_831, wd_800, wd_827, wd_737, wd_739] ++ wsX120)
noncomputable abbrev wd_833 : Cond := Cond.code yX12_letterAt cX12_letterAt 2 (some .int)
noncomputable def wsX12_letterAt : List Cond := wd_833 :: ([])
noncomputable abbrev wd_834 : Cond := Cond.methodLink RX12 266 yX12_letterAt
noncomputable abbrev wd_835 : Cond := Cond.instanceMethod yX12_letterAt
noncomputable abbrev wd_836 : Cond := Cond.selects RX12 yX12_letterAt yX12_letterAt
noncomputable abbrev wd_837 : Cond := Cond.methodLink RX12 269 yX12_takesNumber
noncomputable abbrev wd_838 : Cond := Cond.instanceMethod yX12_takesNumber
noncomputable abbrev wd_839 : Cond := Cond.selects RX12 yX12_takesNumber yX12_takesNumber
noncomputable def wsX12_takesTest_r1 : List Cond := [wd_729, wd_730, wd_815, wd_816, wd_817, wd_800, wd_813, wd_728, wd_731, wd_834, wd_835, wd_836, wd_833, wd_797, wd_798, wd_799, wd_792, wd_837, wd_838, wd_839, wd_823, wd_824, wd_825, wd_826]
noncomputable abbrev wd_840 : Cond := Cond.methodLink RX12 272 yX12_whole
noncomputable abbrev wd_841 : Cond := Cond.instanceMethod yX12_whole
noncomputable abbrev wd_842 : Cond := Cond.selects RX12 yX12_whole yX12_whole
noncomputable def wsX12_takesTest_r2 : List Cond := [wd_822, wd_829, wd_830, wd_831, wd_827, wd_737, wd_739, wd_840, wd_841, wd_842, wd_828, wd_740, wd_738, wd_741]
noncomputable abbrev wd_843 : Cond := Cond.code yX12_takesTest cX12_takesTest 3 (some .boolean)
noncomputable def wsX12_takesTest : List Cond := wd_843 :: ((wsX12_takesTest_r1 ++ wsX12_takesTest_r2) ++ wsX120)
noncomputable abbrev wd_844 : Cond := Cond.methodLink RX12 275 yX12_takesTest
noncomputable abbrev wd_845 : Cond := Cond.instanceMethod yX12_takesTest
noncomputable abbrev wd_846 : Cond := Cond.selects RX12 yX12_takesTest yX12_takesTest
noncomputable def wsX12_takesE_r1 : List Cond := [wd_740, wd_741, wd_735, wd_739, wd_738, wd_729, wd_736, wd_815, wd_816, wd_817, wd_800, wd_813, wd_728, wd_731, wd_844, wd_845, wd_846, wd_843, wd_730, wd_834, wd_835, wd_836, wd_833, wd_797]
noncomputable abbrev wd_847 : Cond := Cond.methodLink RX12 278 yX12_settle
noncomputable abbrev wd_848 : Cond := Cond.instanceMethod yX12_settle
noncomputable abbrev wd_849 : Cond := Cond.selects RX12 yX12_settle yX12_settle
noncomputable def wsX12_takesE_r2 : List Cond := [wd_798, wd_799, wd_792, wd_837, wd_838, wd_839, wd_823, wd_824, wd_825, wd_826, wd_822, wd_829, wd_830, wd_831, wd_827, wd_737, wd_840, wd_841, wd_842, wd_828, wd_847, wd_848, wd_849, wd_832]
noncomputable abbrev wd_850 : Cond := Cond.code yX12_takesE cX12_takesE 4 (some .boolean)
noncomputable def wsX12_takesE : List Cond := wd_850 :: ((wsX12_takesE_r1 ++ wsX12_takesE_r2) ++ wsX120)
noncomputable abbrev wd_851 : Cond := Cond.code yX12_takesHead cX12_takesHead 2 (some .boolean)
noncomputable abbrev wd_852 : Cond := Cond.methodLink RX12 281 yX12_takesWord
noncomputable abbrev wd_853 : Cond := Cond.instanceMethod yX12_takesWord
noncomputable abbrev wd_854 : Cond := Cond.selects RX12 yX12_takesWord yX12_takesWord
noncomputable def wsX12_takesHead : List Cond := wd_851 :: ([wd_733, wd_815, wd_816, wd_817, wd_800, wd_813, wd_729, wd_728, wd_731, wd_852, wd_853, wd_854, wd_818, wd_742, wd_819, wd_820, wd_821, wd_814] ++ wsX120)
noncomputable abbrev wd_855 : Cond := Cond.methodLink RX12 285 yX12_takesHead
noncomputable abbrev wd_856 : Cond := Cond.instanceMethod yX12_takesHead
noncomputable abbrev wd_857 : Cond := Cond.selects RX12 yX12_takesHead yX12_takesHead
noncomputable def wsX12_takesClause_r1 : List Cond := [wd_734, wd_730, wd_733, wd_855, wd_856, wd_857, wd_800, wd_851, wd_815, wd_816, wd_817, wd_813, wd_729, wd_728, wd_731, wd_852, wd_853, wd_854, wd_818, wd_742, wd_819, wd_820, wd_821, wd_814]
noncomputable abbrev wd_858 : Cond := Cond.methodLink RX12 288 yX12_takesE
noncomputable abbrev wd_859 : Cond := Cond.instanceMethod yX12_takesE
noncomputable abbrev wd_860 : Cond := Cond.selects RX12 yX12_takesE yX12_takesE
noncomputable def wsX12_takesClause_r2 : List Cond := [wd_837, wd_838, wd_839, wd_823, wd_824, wd_825, wd_826, wd_822, wd_797, wd_798, wd_799, wd_792, wd_858, wd_859, wd_860, wd_850, wd_740, wd_741, wd_735, wd_739, wd_738, wd_736, wd_844, wd_845]
noncomputable def wsX12_takesClause_r3 : List Cond := [wd_846, wd_843, wd_834, wd_835, wd_836, wd_833, wd_829, wd_830, wd_831, wd_827, wd_737, wd_840, wd_841, wd_842, wd_828, wd_847, wd_848, wd_849, wd_832]
noncomputable abbrev wd_861 : Cond := Cond.code yX12_takesClause cX12_takesClause 2 (some .boolean)
noncomputable def wsX12_takesClause : List Cond := wd_861 :: ((wsX12_takesClause_r1 ++ (wsX12_takesClause_r2 ++ wsX12_takesClause_r3)) ++ wsX120)
noncomputable abbrev wd_862 : Cond := Cond.methodLink RX12 291 yX12_takesClause
noncomputable abbrev wd_863 : Cond := Cond.instanceMethod yX12_takesClause
noncomputable abbrev wd_864 : Cond := Cond.selects RX12 yX12_takesClause yX12_takesClause
noncomputable def wsX12_goesText_r1 : List Cond := [wd_729, wd_739, wd_732, wd_728, wd_862, wd_863, wd_864, wd_800, wd_861, wd_734, wd_730, wd_733, wd_855, wd_856, wd_857, wd_851, wd_815, wd_816, wd_817, wd_813, wd_731, wd_852, wd_853, wd_854]
noncomputable def wsX12_goesText_r2 : List Cond := [wd_818, wd_742, wd_819, wd_820, wd_821, wd_814, wd_837, wd_838, wd_839, wd_823, wd_824, wd_825, wd_826, wd_822, wd_797, wd_798, wd_799, wd_792, wd_858, wd_859, wd_860, wd_850, wd_740, wd_741]
noncomputable def wsX12_goesText_r3 : List Cond := [wd_735, wd_738, wd_736, wd_844, wd_845, wd_846, wd_843, wd_834, wd_835, wd_836, wd_833, wd_829, wd_830, wd_831, wd_827, wd_737, wd_840, wd_841, wd_842, wd_828, wd_847, wd_848, wd_849, wd_832]
noncomputable abbrev wd_865 : Cond := Cond.code yX12_goesText cX12_goesText 3 (some .boolean)
noncomputable def wsX12_goesText : List Cond := wd_865 :: ((wsX12_goesText_r1 ++ (wsX12_goesText_r2 ++ wsX12_goesText_r3)) ++ wsX120)
noncomputable abbrev wd_866 : Cond := Cond.methodLink RX12 294 yX12_goesText
noncomputable abbrev wd_867 : Cond := Cond.instanceMethod yX12_goesText
noncomputable abbrev wd_868 : Cond := Cond.selects RX12 yX12_goesText yX12_goesText
noncomputable def wsX12_field_r1 : List Cond := [wd_726, wd_728, wd_729, wd_727, wd_866, wd_867, wd_868, wd_800, wd_865, wd_739, wd_732, wd_862, wd_863, wd_864, wd_861, wd_734, wd_730, wd_733, wd_855, wd_856, wd_857, wd_851, wd_815, wd_816]
noncomputable def wsX12_field_r2 : List Cond := [wd_817, wd_813, wd_731, wd_852, wd_853, wd_854, wd_818, wd_742, wd_819, wd_820, wd_821, wd_814, wd_837, wd_838, wd_839, wd_823, wd_824, wd_825, wd_826, wd_822, wd_797, wd_798, wd_799, wd_792]
noncomputable def wsX12_field_r3 : List Cond := [wd_858, wd_859, wd_860, wd_850, wd_740, wd_741, wd_735, wd_738, wd_736, wd_844, wd_845, wd_846, wd_843, wd_834, wd_835, wd_836, wd_833, wd_829, wd_830, wd_831, wd_827, wd_737, wd_840, wd_841]
noncomputable def wsX12_field_r4 : List Cond := [wd_842, wd_828, wd_847, wd_848, wd_849, wd_832]
noncomputable abbrev wd_869 : Cond := Cond.code yX12_field cX12_field 2 (some .int)
noncomputable def wsX12_field : List Cond := wd_869 :: ((wsX12_field_r1 ++ (wsX12_field_r2 ++ (wsX12_field_r3 ++ wsX12_field_r4))) ++ wsX120)
noncomputable abbrev wd_870 : Cond := Cond.code yX12_begin cX12_begin 1 (some .int)
noncomputable def wsX12_begin : List Cond := wd_870 :: ([wd_727] ++ wsX120)
noncomputable abbrev wd_871 : Cond := Cond.code yX12_behind cX12_behind 1 (some .int)
noncomputable def wsX12_behind : List Cond := wd_871 :: ([wd_727, wd_732] ++ wsX120)
noncomputable abbrev wd_872 : Cond := Cond.code yX12_lastOf cX12_lastOf 5 (some .int)
noncomputable abbrev wd_873 : Cond := Cond.methodLink RX12 297 yX12_begin
noncomputable abbrev wd_874 : Cond := Cond.instanceMethod yX12_begin
noncomputable abbrev wd_875 : Cond := Cond.selects RX12 yX12_begin yX12_begin
noncomputable abbrev wd_876 : Cond := Cond.methodLink RX12 300 yX12_behind
noncomputable abbrev wd_877 : Cond := Cond.instanceMethod yX12_behind
noncomputable abbrev wd_878 : Cond := Cond.selects RX12 yX12_behind yX12_behind
noncomputable def wsX12_lastOf : List Cond := wd_872 :: ([wd_733, wd_734, wd_873, wd_874, wd_875, wd_800, wd_870, wd_727, wd_876, wd_877, wd_878, wd_871, wd_732] ++ wsX120)
noncomputable abbrev wd_879 : Cond := Cond.code yX12_gap cX12_gap 1 (some .int)
noncomputable abbrev wd_880 : Cond := Cond.methodLink RX12 303 yX12_lastOf
noncomputable abbrev wd_881 : Cond := Cond.instanceMethod yX12_lastOf
noncomputable abbrev wd_882 : Cond := Cond.selects RX12 yX12_lastOf yX12_lastOf
noncomputable def wsX12_gap : List Cond := wd_879 :: ([wd_743, wd_880, wd_881, wd_882, wd_800, wd_872, wd_733, wd_734, wd_873, wd_874, wd_875, wd_870, wd_727, wd_876, wd_877, wd_878, wd_871, wd_732] ++ wsX120)
noncomputable abbrev wd_883 : Cond := Cond.code yX12_fieldLong cX12_fieldLong 1 (some .int)
noncomputable abbrev wd_884 : Cond := Cond.methodLink RX12 307 yX12_most
noncomputable abbrev wd_885 : Cond := Cond.instanceMethod yX12_most
noncomputable abbrev wd_886 : Cond := Cond.selects RX12 yX12_most yX12_most
noncomputable def wsX12_fieldLong : List Cond := wd_883 :: ([wd_880, wd_881, wd_882, wd_800, wd_872, wd_733, wd_734, wd_873, wd_874, wd_875, wd_870, wd_727, wd_876, wd_877, wd_878, wd_871, wd_732, wd_884, wd_885, wd_886, wd_795] ++ wsX120)
noncomputable abbrev wd_887 : Cond := Cond.code yX12_factOf cX12_factOf 3 (some .int)
noncomputable def wsX12_factOf : List Cond := wd_887 :: ([wd_718, wd_746, wd_721, wd_722, wd_716] ++ wsX120)
noncomputable abbrev wd_888 : Cond := Cond.code yX12_holds cX12_holds 8 (some .boolean)
noncomputable abbrev wd_889 : Cond := Cond.methodLink RX12 310 yX12_factOf
noncomputable abbrev wd_890 : Cond := Cond.instanceMethod yX12_factOf
noncomputable abbrev wd_891 : Cond := Cond.selects RX12 yX12_factOf yX12_factOf
noncomputable def wsX12_holds : List Cond := wd_888 :: ([wd_735, wd_736, wd_737, wd_745, wd_889, wd_890, wd_891, wd_800, wd_887, wd_718, wd_746, wd_721, wd_722, wd_716] ++ wsX120)
noncomputable abbrev wd_892 : Cond := Cond.methodLink RX12 313 yX12_holds
noncomputable abbrev wd_893 : Cond := Cond.instanceMethod yX12_holds
noncomputable abbrev wd_894 : Cond := Cond.selects RX12 yX12_holds yX12_holds
noncomputable def wsX12_paceAt_r1 : List Cond := [wd_746, wd_733, wd_725, wd_734, wd_873, wd_874, wd_875, wd_800, wd_870, wd_727, wd_876, wd_877, wd_878, wd_871, wd_732, wd_892, wd_893, wd_894, wd_888, wd_735, wd_736, wd_737, wd_745, wd_889]
noncomputable def wsX12_paceAt_r2 : List Cond := [wd_890, wd_891, wd_887, wd_718, wd_721, wd_722, wd_716, wd_884, wd_885, wd_886, wd_795]
noncomputable abbrev wd_895 : Cond := Cond.code yX12_paceAt cX12_paceAt 4 (some .int)
noncomputable def wsX12_paceAt : List Cond := wd_895 :: ((wsX12_paceAt_r1 ++ wsX12_paceAt_r2) ++ wsX120)
noncomputable abbrev wd_896 : Cond := Cond.code yX12_hasty cX12_hasty 3 (some .int)
noncomputable def wsX12_hasty : List Cond := wd_896 :: ([wd_721, wd_719] ++ wsX120)
noncomputable abbrev wd_897 : Cond := Cond.methodLink RX12 316 yX12_gap
noncomputable abbrev wd_898 : Cond := Cond.instanceMethod yX12_gap
noncomputable abbrev wd_899 : Cond := Cond.selects RX12 yX12_gap yX12_gap
noncomputable def wsX12_isPressed_r1 : List Cond := [wd_717, wd_720, wd_725, wd_897, wd_898, wd_899, wd_800, wd_879, wd_743, wd_880, wd_881, wd_882, wd_872, wd_733, wd_734, wd_873, wd_874, wd_875, wd_870, wd_727, wd_876, wd_877, wd_878, wd_871]
noncomputable def wsX12_isPressed_r2 : List Cond := [wd_732]
noncomputable abbrev wd_900 : Cond := Cond.code yX12_isPressed cX12_isPressed 2 (some .boolean)
noncomputable def wsX12_isPressed : List Cond := wd_900 :: ((wsX12_isPressed_r1 ++ wsX12_isPressed_r2) ++ wsX120)
noncomputable abbrev wd_901 : Cond := Cond.methodLink RX12 319 yX12_hasty
noncomputable abbrev wd_902 : Cond := Cond.instanceMethod yX12_hasty
noncomputable abbrev wd_903 : Cond := Cond.selects RX12 yX12_hasty yX12_hasty
noncomputable abbrev wd_904 : Cond := Cond.methodLink RX12 322 yX12_isPressed
noncomputable abbrev wd_905 : Cond := Cond.instanceMethod yX12_isPressed
noncomputable abbrev wd_906 : Cond := Cond.selects RX12 yX12_isPressed yX12_isPressed
noncomputable def wsX12_strideOf_r1 : List Cond := [wd_722, wd_718, wd_719, wd_724, wd_716, wd_884, wd_885, wd_886, wd_800, wd_795, wd_901, wd_902, wd_903, wd_896, wd_721, wd_904, wd_905, wd_906, wd_900, wd_717, wd_720, wd_725, wd_897, wd_898]
noncomputable def wsX12_strideOf_r2 : List Cond := [wd_899, wd_879, wd_743, wd_880, wd_881, wd_882, wd_872, wd_733, wd_734, wd_873, wd_874, wd_875, wd_870, wd_727, wd_876, wd_877, wd_878, wd_871, wd_732]
noncomputable abbrev wd_907 : Cond := Cond.code yX12_strideOf cX12_strideOf 5 (some .int)
noncomputable def wsX12_strideOf : List Cond := wd_907 :: ((wsX12_strideOf_r1 ++ wsX12_strideOf_r2) ++ wsX120)
noncomputable abbrev wd_908 : Cond := Cond.methodLink RX12 325 yX12_paceAt
noncomputable abbrev wd_909 : Cond := Cond.instanceMethod yX12_paceAt
noncomputable abbrev wd_910 : Cond := Cond.selects RX12 yX12_paceAt yX12_paceAt
noncomputable def wsX12_strideAt_r1 : List Cond := [wd_725, wd_721, wd_908, wd_909, wd_910, wd_800, wd_895, wd_746, wd_733, wd_734, wd_873, wd_874, wd_875, wd_870, wd_727, wd_876, wd_877, wd_878, wd_871, wd_732, wd_892, wd_893, wd_894, wd_888]
noncomputable abbrev wd_911 : Cond := Cond.methodLink RX12 328 yX12_strideOf
noncomputable abbrev wd_912 : Cond := Cond.instanceMethod yX12_strideOf
noncomputable abbrev wd_913 : Cond := Cond.selects RX12 yX12_strideOf yX12_strideOf
noncomputable def wsX12_strideAt_r2 : List Cond := [wd_735, wd_736, wd_737, wd_745, wd_889, wd_890, wd_891, wd_887, wd_718, wd_722, wd_716, wd_884, wd_885, wd_886, wd_795, wd_911, wd_912, wd_913, wd_907, wd_719, wd_724, wd_901, wd_902, wd_903]
noncomputable def wsX12_strideAt_r3 : List Cond := [wd_896, wd_904, wd_905, wd_906, wd_900, wd_717, wd_720, wd_897, wd_898, wd_899, wd_879, wd_743, wd_880, wd_881, wd_882, wd_872]
noncomputable abbrev wd_914 : Cond := Cond.code yX12_strideAt cX12_strideAt 4 (some .int)
noncomputable def wsX12_strideAt : List Cond := wd_914 :: ((wsX12_strideAt_r1 ++ (wsX12_strideAt_r2 ++ wsX12_strideAt_r3)) ++ wsX120)
noncomputable def wsX12_of_r1 : List Cond := [wd_718, wd_719, wd_720, wd_721, wd_722, wd_723, wd_803, wd_804, wd_805, wd_800, wd_796, wd_715, wd_797, wd_798, wd_799, wd_792, wd_809, wd_810, wd_811, wd_807, wd_725, wd_908, wd_909, wd_910]
noncomputable def wsX12_of_r2 : List Cond := [wd_895, wd_746, wd_733, wd_734, wd_873, wd_874, wd_875, wd_870, wd_727, wd_876, wd_877, wd_878, wd_871, wd_732, wd_892, wd_893, wd_894, wd_888, wd_735, wd_736, wd_737, wd_745, wd_889, wd_890]
noncomputable abbrev wd_915 : Cond := Cond.methodLink RX12 332 yX12_strideAt
noncomputable abbrev wd_916 : Cond := Cond.instanceMethod yX12_strideAt
noncomputable abbrev wd_917 : Cond := Cond.selects RX12 yX12_strideAt yX12_strideAt
noncomputable def wsX12_of_r3 : List Cond := [wd_891, wd_887, wd_716, wd_884, wd_885, wd_886, wd_795, wd_915, wd_916, wd_917, wd_914, wd_911, wd_912, wd_913, wd_907, wd_724, wd_901, wd_902, wd_903, wd_896, wd_904, wd_905, wd_906, wd_900]
noncomputable def wsX12_of_r4 : List Cond := [wd_717, wd_897, wd_898, wd_899, wd_879, wd_743, wd_880, wd_881, wd_882, wd_872]
noncomputable abbrev wd_918 : Cond := Cond.code yX12_of cX12_of 3 (some .int)
noncomputable def wsX12_of : List Cond := wd_918 :: ((wsX12_of_r1 ++ (wsX12_of_r2 ++ (wsX12_of_r3 ++ wsX12_of_r4))) ++ wsX120)
noncomputable def wsX12_told_r1 : List Cond := [wd_715, wd_725, wd_716, wd_797, wd_798, wd_799, wd_800, wd_792, wd_897, wd_898, wd_899, wd_879, wd_743, wd_880, wd_881, wd_882, wd_872, wd_733, wd_734, wd_873, wd_874, wd_875, wd_870, wd_727]
noncomputable abbrev wd_919 : Cond := Cond.methodLink RX12 335 yX12_fieldLong
noncomputable abbrev wd_920 : Cond := Cond.instanceMethod yX12_fieldLong
noncomputable abbrev wd_921 : Cond := Cond.selects RX12 yX12_fieldLong yX12_fieldLong
noncomputable def wsX12_told_r2 : List Cond := [wd_876, wd_877, wd_878, wd_871, wd_732, wd_919, wd_920, wd_921, wd_883, wd_884, wd_885, wd_886, wd_795]
noncomputable abbrev wd_922 : Cond := Cond.code yX12_told cX12_told 2 (some .int)
noncomputable def wsX12_told : List Cond := wd_922 :: ((wsX12_told_r1 ++ wsX12_told_r2) ++ wsX120)
noncomputable def wsX12_goes_r1 : List Cond := [wd_725, wd_723, wd_722, wd_720, wd_747, wd_721, wd_884, wd_885, wd_886, wd_800, wd_795, wd_897, wd_898, wd_899, wd_879, wd_743, wd_880, wd_881, wd_882, wd_872, wd_733, wd_734, wd_873, wd_874]
noncomputable abbrev wd_923 : Cond := Cond.methodLink RX12 338 yX12_least
noncomputable abbrev wd_924 : Cond := Cond.instanceMethod yX12_least
noncomputable abbrev wd_925 : Cond := Cond.selects RX12 yX12_least yX12_least
noncomputable def wsX12_goes_r2 : List Cond := [wd_875, wd_870, wd_727, wd_876, wd_877, wd_878, wd_871, wd_732, wd_923, wd_924, wd_925, wd_794]
noncomputable abbrev wd_926 : Cond := Cond.code yX12_goes cX12_goes 6 (some .boolean)
noncomputable def wsX12_goes : List Cond := wd_926 :: ((wsX12_goes_r1 ++ wsX12_goes_r2) ++ wsX120)
noncomputable def wsX12_goMinute_r1 : List Cond := [wd_717, wd_747, wd_725, wd_748, wd_716, wd_915, wd_916, wd_917, wd_800, wd_914, wd_721, wd_908, wd_909, wd_910, wd_895, wd_746, wd_733, wd_734, wd_873, wd_874, wd_875, wd_870, wd_727, wd_876]
noncomputable def wsX12_goMinute_r2 : List Cond := [wd_877, wd_878, wd_871, wd_732, wd_892, wd_893, wd_894, wd_888, wd_735, wd_736, wd_737, wd_745, wd_889, wd_890, wd_891, wd_887, wd_718, wd_722, wd_884, wd_885, wd_886, wd_795, wd_911, wd_912]
noncomputable abbrev wd_927 : Cond := Cond.methodLink RX12 341 yX12_goes
noncomputable abbrev wd_928 : Cond := Cond.instanceMethod yX12_goes
noncomputable def wsX12_goMinute_r3 : List Cond := [wd_913, wd_907, wd_719, wd_724, wd_901, wd_902, wd_903, wd_896, wd_904, wd_905, wd_906, wd_900, wd_720, wd_897, wd_898, wd_899, wd_879, wd_743, wd_880, wd_881, wd_882, wd_872, wd_927, wd_928]
noncomputable abbrev wd_929 : Cond := Cond.selects RX12 yX12_goes yX12_goes
noncomputable def wsX12_goMinute_r4 : List Cond := [wd_929, wd_926, wd_723, wd_923, wd_924, wd_925, wd_794]
noncomputable abbrev wd_930 : Cond := Cond.code yX12_goMinute cX12_goMinute 3 (some .int)
noncomputable def wsX12_goMinute : List Cond := wd_930 :: ((wsX12_goMinute_r1 ++ (wsX12_goMinute_r2 ++ (wsX12_goMinute_r3 ++ wsX12_goMinute_r4))) ++ wsX120)
noncomputable abbrev wd_931 : Cond := Cond.code yX12_goWhet cX12_goWhet 2 none
noncomputable def wsX12_goWhet : List Cond := wd_931 :: ([wd_715, wd_721, wd_722, wd_723, wd_716, wd_884, wd_885, wd_886, wd_800, wd_795] ++ wsX120)
noncomputable abbrev wd_932 : Cond := Cond.code yX12_goPause cX12_goPause 3 none
noncomputable def wsX12_goPause : List Cond := wd_932 :: ([wd_715, wd_722, wd_723, wd_716, wd_884, wd_885, wd_886, wd_800, wd_795] ++ wsX120)
noncomputable abbrev wd_933 : Cond := Cond.methodLink RX12 344 yX12_goMinute
noncomputable abbrev wd_934 : Cond := Cond.instanceMethod yX12_goMinute
noncomputable abbrev wd_935 : Cond := Cond.selects RX12 yX12_goMinute yX12_goMinute
noncomputable def wsX12_goMinutes_r1 : List Cond := [wd_933, wd_934, wd_935, wd_800, wd_930, wd_717, wd_747, wd_725, wd_748, wd_716, wd_915, wd_916, wd_917, wd_914, wd_721, wd_908, wd_909, wd_910, wd_895, wd_746, wd_733, wd_734, wd_873, wd_874]
noncomputable def wsX12_goMinutes_r2 : List Cond := [wd_875, wd_870, wd_727, wd_876, wd_877, wd_878, wd_871, wd_732, wd_892, wd_893, wd_894, wd_888, wd_735, wd_736, wd_737, wd_745, wd_889, wd_890, wd_891, wd_887, wd_718, wd_722, wd_884, wd_885]
noncomputable def wsX12_goMinutes_r3 : List Cond := [wd_886, wd_795, wd_911, wd_912, wd_913, wd_907, wd_719, wd_724, wd_901, wd_902, wd_903, wd_896, wd_904, wd_905, wd_906, wd_900, wd_720, wd_897, wd_898, wd_899, wd_879, wd_743, wd_880, wd_881]
noncomputable def wsX12_goMinutes_r4 : List Cond := [wd_882, wd_872, wd_927, wd_928, wd_929, wd_926, wd_723, wd_923, wd_924, wd_925, wd_794]
noncomputable abbrev wd_936 : Cond := Cond.code yX12_goMinutes cX12_goMinutes 4 none
noncomputable def wsX12_goMinutes : List Cond := wd_936 :: ((wsX12_goMinutes_r1 ++ (wsX12_goMinutes_r2 ++ (wsX12_goMinutes_r3 ++ wsX12_goMinutes_r4))) ++ wsX120)
noncomputable def wsX12_minute_r1 : List Cond := [wd_716, wd_933, wd_934, wd_935, wd_800, wd_930, wd_717, wd_747, wd_725, wd_748, wd_915, wd_916, wd_917, wd_914, wd_721, wd_908, wd_909, wd_910, wd_895, wd_746, wd_733, wd_734, wd_873, wd_874]
noncomputable def wsX12_minute_r2 : List Cond := [wd_875, wd_870, wd_727, wd_876, wd_877, wd_878, wd_871, wd_732, wd_892, wd_893, wd_894, wd_888, wd_735, wd_736, wd_737, wd_745, wd_889, wd_890, wd_891, wd_887, wd_718, wd_722, wd_884, wd_885]
noncomputable def wsX12_minute_r3 : List Cond := [wd_886, wd_795, wd_911, wd_912, wd_913, wd_907, wd_719, wd_724, wd_901, wd_902, wd_903, wd_896, wd_904, wd_905, wd_906, wd_900, wd_720, wd_897, wd_898, wd_899, wd_879, wd_743, wd_880, wd_881]
noncomputable def wsX12_minute_r4 : List Cond := [wd_882, wd_872, wd_927, wd_928, wd_929, wd_926, wd_723, wd_923, wd_924, wd_925, wd_794]
noncomputable abbrev wd_937 : Cond := Cond.code yX12_minute cX12_minute 1 (some .int)
noncomputable def wsX12_minute : List Cond := wd_937 :: ((wsX12_minute_r1 ++ (wsX12_minute_r2 ++ (wsX12_minute_r3 ++ wsX12_minute_r4))) ++ wsX120)
noncomputable abbrev wd_938 : Cond := Cond.code yX12_whet cX12_whet 1 (some .int)
noncomputable abbrev wd_939 : Cond := Cond.methodLink RX12 347 yX12_goWhet
noncomputable abbrev wd_940 : Cond := Cond.instanceMethod yX12_goWhet
noncomputable abbrev wd_941 : Cond := Cond.selects RX12 yX12_goWhet yX12_goWhet
noncomputable def wsX12_whet : List Cond := wd_938 :: ([wd_716, wd_939, wd_940, wd_941, wd_800, wd_931, wd_715, wd_721, wd_722, wd_723, wd_884, wd_885, wd_886, wd_795] ++ wsX120)
noncomputable abbrev wd_942 : Cond := Cond.code yX12_pause cX12_pause 2 (some .int)
noncomputable abbrev wd_943 : Cond := Cond.methodLink RX12 350 yX12_goPause
noncomputable abbrev wd_944 : Cond := Cond.instanceMethod yX12_goPause
noncomputable abbrev wd_945 : Cond := Cond.selects RX12 yX12_goPause yX12_goPause
noncomputable def wsX12_pause : List Cond := wd_942 :: ([wd_716, wd_797, wd_798, wd_799, wd_800, wd_792, wd_943, wd_944, wd_945, wd_932, wd_715, wd_722, wd_723, wd_884, wd_885, wd_886, wd_795] ++ wsX120)
noncomputable abbrev wd_946 : Cond := Cond.code yX12_save cX12_save 2 none
noncomputable def wsX12_save : List Cond := wd_946 :: ([wd_716, wd_749, wd_750, wd_720, wd_751, wd_721, wd_752, wd_722, wd_753, wd_723, wd_748] ++ wsX120)
noncomputable abbrev wd_947 : Cond := Cond.code yX12_putBack cX12_putBack 2 none
noncomputable def wsX12_putBack : List Cond := wd_947 :: ([wd_749, wd_716, wd_720, wd_750, wd_721, wd_751, wd_722, wd_752, wd_723, wd_753] ++ wsX120)
noncomputable abbrev wd_948 : Cond := Cond.code yX12_all cX12_all 3 (some .int)
noncomputable def wsX12_all : List Cond := wd_948 :: ([wd_715, wd_720] ++ wsX120)
noncomputable abbrev wd_949 : Cond := Cond.methodLink RX12 353 yX12_save
noncomputable abbrev wd_950 : Cond := Cond.instanceMethod yX12_save
noncomputable abbrev wd_951 : Cond := Cond.selects RX12 yX12_save yX12_save
noncomputable abbrev wd_952 : Cond := Cond.methodLink RX12 356 yX12_goMinutes
noncomputable abbrev wd_953 : Cond := Cond.instanceMethod yX12_goMinutes
noncomputable abbrev wd_954 : Cond := Cond.selects RX12 yX12_goMinutes yX12_goMinutes
noncomputable def wsX12_allBehind_r1 : List Cond := [wd_949, wd_950, wd_951, wd_800, wd_946, wd_716, wd_749, wd_750, wd_720, wd_751, wd_721, wd_752, wd_722, wd_753, wd_723, wd_748, wd_952, wd_953, wd_954, wd_936, wd_933, wd_934, wd_935, wd_930]
noncomputable def wsX12_allBehind_r2 : List Cond := [wd_717, wd_747, wd_725, wd_915, wd_916, wd_917, wd_914, wd_908, wd_909, wd_910, wd_895, wd_746, wd_733, wd_734, wd_873, wd_874, wd_875, wd_870, wd_727, wd_876, wd_877, wd_878, wd_871, wd_732]
noncomputable def wsX12_allBehind_r3 : List Cond := [wd_892, wd_893, wd_894, wd_888, wd_735, wd_736, wd_737, wd_745, wd_889, wd_890, wd_891, wd_887, wd_718, wd_884, wd_885, wd_886, wd_795, wd_911, wd_912, wd_913, wd_907, wd_719, wd_724, wd_901]
noncomputable def wsX12_allBehind_r4 : List Cond := [wd_902, wd_903, wd_896, wd_904, wd_905, wd_906, wd_900, wd_897, wd_898, wd_899, wd_879, wd_743, wd_880, wd_881, wd_882, wd_872, wd_927, wd_928, wd_929, wd_926, wd_923, wd_924, wd_925, wd_794]
noncomputable abbrev wd_955 : Cond := Cond.methodLink RX12 359 yX12_all
noncomputable abbrev wd_956 : Cond := Cond.instanceMethod yX12_all
noncomputable abbrev wd_957 : Cond := Cond.selects RX12 yX12_all yX12_all
noncomputable abbrev wd_958 : Cond := Cond.methodLink RX12 362 yX12_putBack
noncomputable abbrev wd_959 : Cond := Cond.instanceMethod yX12_putBack
noncomputable abbrev wd_960 : Cond := Cond.selects RX12 yX12_putBack yX12_putBack
noncomputable def wsX12_allBehind_r5 : List Cond := [wd_955, wd_956, wd_957, wd_948, wd_715, wd_958, wd_959, wd_960, wd_947]
noncomputable abbrev wd_961 : Cond := Cond.code yX12_allBehind cX12_allBehind 3 (some .int)
noncomputable def wsX12_allBehind : List Cond := wd_961 :: ((wsX12_allBehind_r1 ++ (wsX12_allBehind_r2 ++ (wsX12_allBehind_r3 ++ (wsX12_allBehind_r4 ++ wsX12_allBehind_r5)))) ++ wsX120)
noncomputable def wsX12_on_r1 : List Cond := [wd_715, wd_720, wd_748, wd_797, wd_798, wd_799, wd_800, wd_792, wd_949, wd_950, wd_951, wd_946, wd_716, wd_749, wd_750, wd_751, wd_721, wd_752, wd_722, wd_753, wd_723, wd_952, wd_953, wd_954]
noncomputable def wsX12_on_r2 : List Cond := [wd_936, wd_933, wd_934, wd_935, wd_930, wd_717, wd_747, wd_725, wd_915, wd_916, wd_917, wd_914, wd_908, wd_909, wd_910, wd_895, wd_746, wd_733, wd_734, wd_873, wd_874, wd_875, wd_870, wd_727]
noncomputable def wsX12_on_r3 : List Cond := [wd_876, wd_877, wd_878, wd_871, wd_732, wd_892, wd_893, wd_894, wd_888, wd_735, wd_736, wd_737, wd_745, wd_889, wd_890, wd_891, wd_887, wd_718, wd_884, wd_885, wd_886, wd_795, wd_911, wd_912]
noncomputable def wsX12_on_r4 : List Cond := [wd_913, wd_907, wd_719, wd_724, wd_901, wd_902, wd_903, wd_896, wd_904, wd_905, wd_906, wd_900, wd_897, wd_898, wd_899, wd_879, wd_743, wd_880, wd_881, wd_882, wd_872, wd_927, wd_928, wd_929]
noncomputable def wsX12_on_r5 : List Cond := [wd_926, wd_923, wd_924, wd_925, wd_794, wd_955, wd_956, wd_957, wd_948, wd_958, wd_959, wd_960, wd_947]
noncomputable abbrev wd_962 : Cond := Cond.code yX12_on cX12_on 4 (some .int)
noncomputable def wsX12_on : List Cond := wd_962 :: ((wsX12_on_r1 ++ (wsX12_on_r2 ++ (wsX12_on_r3 ++ (wsX12_on_r4 ++ wsX12_on_r5)))) ++ wsX120)
noncomputable def wsX12_isDone_r1 : List Cond := [wd_715, wd_720, wd_919, wd_920, wd_921, wd_800, wd_883, wd_880, wd_881, wd_882, wd_872, wd_733, wd_734, wd_873, wd_874, wd_875, wd_870, wd_727, wd_876, wd_877, wd_878, wd_871, wd_732, wd_884]
noncomputable def wsX12_isDone_r2 : List Cond := [wd_885, wd_886, wd_795]
noncomputable abbrev wd_963 : Cond := Cond.code yX12_isDone cX12_isDone 2 (some .boolean)
noncomputable def wsX12_isDone : List Cond := wd_963 :: ((wsX12_isDone_r1 ++ wsX12_isDone_r2) ++ wsX120)
noncomputable abbrev wd_964 : Cond := Cond.methodLink RX12 365 yX12_isDone
noncomputable abbrev wd_965 : Cond := Cond.instanceMethod yX12_isDone
noncomputable abbrev wd_966 : Cond := Cond.selects RX12 yX12_isDone yX12_isDone
noncomputable def wsX12_done_r1 : List Cond := [wd_949, wd_950, wd_951, wd_800, wd_946, wd_716, wd_749, wd_750, wd_720, wd_751, wd_721, wd_752, wd_722, wd_753, wd_723, wd_748, wd_964, wd_965, wd_966, wd_963, wd_715, wd_919, wd_920, wd_921]
noncomputable def wsX12_done_r2 : List Cond := [wd_883, wd_880, wd_881, wd_882, wd_872, wd_733, wd_734, wd_873, wd_874, wd_875, wd_870, wd_727, wd_876, wd_877, wd_878, wd_871, wd_732, wd_884, wd_885, wd_886, wd_795, wd_952, wd_953, wd_954]
noncomputable def wsX12_done_r3 : List Cond := [wd_936, wd_933, wd_934, wd_935, wd_930, wd_717, wd_747, wd_725, wd_915, wd_916, wd_917, wd_914, wd_908, wd_909, wd_910, wd_895, wd_746, wd_892, wd_893, wd_894, wd_888, wd_735, wd_736, wd_737]
noncomputable def wsX12_done_r4 : List Cond := [wd_745, wd_889, wd_890, wd_891, wd_887, wd_718, wd_911, wd_912, wd_913, wd_907, wd_719, wd_724, wd_901, wd_902, wd_903, wd_896, wd_904, wd_905, wd_906, wd_900, wd_897, wd_898, wd_899, wd_879]
noncomputable def wsX12_done_r5 : List Cond := [wd_743, wd_927, wd_928, wd_929, wd_926, wd_923, wd_924, wd_925, wd_794, wd_958, wd_959, wd_960, wd_947]
noncomputable abbrev wd_967 : Cond := Cond.code yX12_done cX12_done 2 (some .int)
noncomputable def wsX12_done : List Cond := wd_967 :: ((wsX12_done_r1 ++ (wsX12_done_r2 ++ (wsX12_done_r3 ++ (wsX12_done_r4 ++ wsX12_done_r5)))) ++ wsX120)
noncomputable abbrev wd_968 : Cond := Cond.code yX12_layOrder cX12_layOrder 8 (some .boolean)
noncomputable abbrev wd_969 : Cond := Cond.methodLink RX12 368 yX12_has
noncomputable abbrev wd_970 : Cond := Cond.instanceMethod yX12_has
noncomputable abbrev wd_971 : Cond := Cond.selects RX12 yX12_has yX12_has
noncomputable def wsX12_layOrder : List Cond := wd_968 :: ([wd_715, wd_725, wd_969, wd_970, wd_971, wd_800, wd_793] ++ wsX120)
noncomputable def wsX12_fromTheStart_r1 : List Cond := [wd_715, wd_720, wd_949, wd_950, wd_951, wd_800, wd_946, wd_716, wd_749, wd_750, wd_751, wd_721, wd_752, wd_722, wd_753, wd_723, wd_748, wd_952, wd_953, wd_954, wd_936, wd_933, wd_934, wd_935]
noncomputable def wsX12_fromTheStart_r2 : List Cond := [wd_930, wd_717, wd_747, wd_725, wd_915, wd_916, wd_917, wd_914, wd_908, wd_909, wd_910, wd_895, wd_746, wd_733, wd_734, wd_873, wd_874, wd_875, wd_870, wd_727, wd_876, wd_877, wd_878, wd_871]
noncomputable def wsX12_fromTheStart_r3 : List Cond := [wd_732, wd_892, wd_893, wd_894, wd_888, wd_735, wd_736, wd_737, wd_745, wd_889, wd_890, wd_891, wd_887, wd_718, wd_884, wd_885, wd_886, wd_795, wd_911, wd_912, wd_913, wd_907, wd_719, wd_724]
noncomputable def wsX12_fromTheStart_r4 : List Cond := [wd_901, wd_902, wd_903, wd_896, wd_904, wd_905, wd_906, wd_900, wd_897, wd_898, wd_899, wd_879, wd_743, wd_880, wd_881, wd_882, wd_872, wd_927, wd_928, wd_929, wd_926, wd_923, wd_924, wd_925]
noncomputable def wsX12_fromTheStart_r5 : List Cond := [wd_794, wd_955, wd_956, wd_957, wd_948, wd_958, wd_959, wd_960, wd_947]
noncomputable abbrev wd_972 : Cond := Cond.code yX12_fromTheStart cX12_fromTheStart 3 (some .int)
noncomputable def wsX12_fromTheStart : List Cond := wd_972 :: ((wsX12_fromTheStart_r1 ++ (wsX12_fromTheStart_r2 ++ (wsX12_fromTheStart_r3 ++ (wsX12_fromTheStart_r4 ++ wsX12_fromTheStart_r5)))) ++ wsX120)
noncomputable abbrev wd_973 : Cond := Cond.methodLink RX12 371 yX12_layOrder
noncomputable abbrev wd_974 : Cond := Cond.instanceMethod yX12_layOrder
noncomputable abbrev wd_975 : Cond := Cond.selects RX12 yX12_layOrder yX12_layOrder
noncomputable abbrev wd_976 : Cond := Cond.methodLink RX12 374 yX12_fromTheStart
noncomputable abbrev wd_977 : Cond := Cond.instanceMethod yX12_fromTheStart
noncomputable abbrev wd_978 : Cond := Cond.selects RX12 yX12_fromTheStart yX12_fromTheStart
noncomputable def wsX12_order_r1 : List Cond := [wd_715, wd_754, wd_725, wd_755, wd_797, wd_798, wd_799, wd_800, wd_792, wd_973, wd_974, wd_975, wd_968, wd_969, wd_970, wd_971, wd_793, wd_976, wd_977, wd_978, wd_972, wd_720, wd_949, wd_950]
noncomputable def wsX12_order_r2 : List Cond := [wd_951, wd_946, wd_716, wd_749, wd_750, wd_751, wd_721, wd_752, wd_722, wd_753, wd_723, wd_748, wd_952, wd_953, wd_954, wd_936, wd_933, wd_934, wd_935, wd_930, wd_717, wd_747, wd_915, wd_916]
noncomputable def wsX12_order_r3 : List Cond := [wd_917, wd_914, wd_908, wd_909, wd_910, wd_895, wd_746, wd_733, wd_734, wd_873, wd_874, wd_875, wd_870, wd_727, wd_876, wd_877, wd_878, wd_871, wd_732, wd_892, wd_893, wd_894, wd_888, wd_735]
noncomputable def wsX12_order_r4 : List Cond := [wd_736, wd_737, wd_745, wd_889, wd_890, wd_891, wd_887, wd_718, wd_884, wd_885, wd_886, wd_795, wd_911, wd_912, wd_913, wd_907, wd_719, wd_724, wd_901, wd_902, wd_903, wd_896, wd_904, wd_905]
noncomputable def wsX12_order_r5 : List Cond := [wd_906, wd_900, wd_897, wd_898, wd_899, wd_879, wd_743, wd_880, wd_881, wd_882, wd_872, wd_927, wd_928, wd_929, wd_926, wd_923, wd_924, wd_925, wd_794, wd_955, wd_956, wd_957, wd_948, wd_958]
noncomputable def wsX12_order_r6 : List Cond := [wd_959, wd_960, wd_947]
noncomputable abbrev wd_979 : Cond := Cond.code yX12_order cX12_order 7 (some .int)
noncomputable def wsX12_order : List Cond := wd_979 :: ((wsX12_order_r1 ++ (wsX12_order_r2 ++ (wsX12_order_r3 ++ (wsX12_order_r4 ++ (wsX12_order_r5 ++ wsX12_order_r6))))) ++ wsX120)
noncomputable def wsX12_whetted_r1 : List Cond := [wd_949, wd_950, wd_951, wd_800, wd_946, wd_716, wd_749, wd_750, wd_720, wd_751, wd_721, wd_752, wd_722, wd_753, wd_723, wd_748, wd_939, wd_940, wd_941, wd_931, wd_715, wd_884, wd_885, wd_886]
noncomputable def wsX12_whetted_r2 : List Cond := [wd_795, wd_952, wd_953, wd_954, wd_936, wd_933, wd_934, wd_935, wd_930, wd_717, wd_747, wd_725, wd_915, wd_916, wd_917, wd_914, wd_908, wd_909, wd_910, wd_895, wd_746, wd_733, wd_734, wd_873]
noncomputable def wsX12_whetted_r3 : List Cond := [wd_874, wd_875, wd_870, wd_727, wd_876, wd_877, wd_878, wd_871, wd_732, wd_892, wd_893, wd_894, wd_888, wd_735, wd_736, wd_737, wd_745, wd_889, wd_890, wd_891, wd_887, wd_718, wd_911, wd_912]
noncomputable def wsX12_whetted_r4 : List Cond := [wd_913, wd_907, wd_719, wd_724, wd_901, wd_902, wd_903, wd_896, wd_904, wd_905, wd_906, wd_900, wd_897, wd_898, wd_899, wd_879, wd_743, wd_880, wd_881, wd_882, wd_872, wd_927, wd_928, wd_929]
noncomputable def wsX12_whetted_r5 : List Cond := [wd_926, wd_923, wd_924, wd_925, wd_794, wd_955, wd_956, wd_957, wd_948, wd_958, wd_959, wd_960, wd_947]
noncomputable abbrev wd_980 : Cond := Cond.code yX12_whetted cX12_whetted 4 (some .int)
noncomputable def wsX12_whetted : List Cond := wd_980 :: ((wsX12_whetted_r1 ++ (wsX12_whetted_r2 ++ (wsX12_whetted_r3 ++ (wsX12_whetted_r4 ++ wsX12_whetted_r5)))) ++ wsX120)
noncomputable abbrev wd_981 : Cond := Cond.methodLink RX12 377 yX12_whetted
noncomputable abbrev wd_982 : Cond := Cond.instanceMethod yX12_whetted
noncomputable abbrev wd_983 : Cond := Cond.selects RX12 yX12_whetted yX12_whetted
noncomputable def wsX12_whets_r1 : List Cond := [wd_797, wd_798, wd_799, wd_800, wd_792, wd_981, wd_982, wd_983, wd_980, wd_949, wd_950, wd_951, wd_946, wd_716, wd_749, wd_750, wd_720, wd_751, wd_721, wd_752, wd_722, wd_753, wd_723, wd_748]
noncomputable def wsX12_whets_r2 : List Cond := [wd_939, wd_940, wd_941, wd_931, wd_715, wd_884, wd_885, wd_886, wd_795, wd_952, wd_953, wd_954, wd_936, wd_933, wd_934, wd_935, wd_930, wd_717, wd_747, wd_725, wd_915, wd_916, wd_917, wd_914]
noncomputable def wsX12_whets_r3 : List Cond := [wd_908, wd_909, wd_910, wd_895, wd_746, wd_733, wd_734, wd_873, wd_874, wd_875, wd_870, wd_727, wd_876, wd_877, wd_878, wd_871, wd_732, wd_892, wd_893, wd_894, wd_888, wd_735, wd_736, wd_737]
noncomputable def wsX12_whets_r4 : List Cond := [wd_745, wd_889, wd_890, wd_891, wd_887, wd_718, wd_911, wd_912, wd_913, wd_907, wd_719, wd_724, wd_901, wd_902, wd_903, wd_896, wd_904, wd_905, wd_906, wd_900, wd_897, wd_898, wd_899, wd_879]
noncomputable def wsX12_whets_r5 : List Cond := [wd_743, wd_880, wd_881, wd_882, wd_872, wd_927, wd_928, wd_929, wd_926, wd_923, wd_924, wd_925, wd_794, wd_955, wd_956, wd_957, wd_948, wd_958, wd_959, wd_960, wd_947]
noncomputable abbrev wd_984 : Cond := Cond.code yX12_whets cX12_whets 7 (some .int)
noncomputable def wsX12_whets : List Cond := wd_984 :: ((wsX12_whets_r1 ++ (wsX12_whets_r2 ++ (wsX12_whets_r3 ++ (wsX12_whets_r4 ++ wsX12_whets_r5)))) ++ wsX120)
noncomputable abbrev wd_985 : Cond := Cond.methodLink RX12 380 yX12_allBehind
noncomputable abbrev wd_986 : Cond := Cond.instanceMethod yX12_allBehind
noncomputable abbrev wd_987 : Cond := Cond.selects RX12 yX12_allBehind yX12_allBehind
noncomputable def wsX12_apart_r1 : List Cond := [wd_743, wd_797, wd_798, wd_799, wd_800, wd_792, wd_985, wd_986, wd_987, wd_961, wd_949, wd_950, wd_951, wd_946, wd_716, wd_749, wd_750, wd_720, wd_751, wd_721, wd_752, wd_722, wd_753, wd_723]
noncomputable def wsX12_apart_r2 : List Cond := [wd_748, wd_952, wd_953, wd_954, wd_936, wd_933, wd_934, wd_935, wd_930, wd_717, wd_747, wd_725, wd_915, wd_916, wd_917, wd_914, wd_908, wd_909, wd_910, wd_895, wd_746, wd_733, wd_734, wd_873]
noncomputable def wsX12_apart_r3 : List Cond := [wd_874, wd_875, wd_870, wd_727, wd_876, wd_877, wd_878, wd_871, wd_732, wd_892, wd_893, wd_894, wd_888, wd_735, wd_736, wd_737, wd_745, wd_889, wd_890, wd_891, wd_887, wd_718, wd_884, wd_885]
noncomputable def wsX12_apart_r4 : List Cond := [wd_886, wd_795, wd_911, wd_912, wd_913, wd_907, wd_719, wd_724, wd_901, wd_902, wd_903, wd_896, wd_904, wd_905, wd_906, wd_900, wd_897, wd_898, wd_899, wd_879, wd_880, wd_881, wd_882, wd_872]
noncomputable def wsX12_apart_r5 : List Cond := [wd_927, wd_928, wd_929, wd_926, wd_923, wd_924, wd_925, wd_794, wd_955, wd_956, wd_957, wd_948, wd_715, wd_958, wd_959, wd_960, wd_947]
noncomputable abbrev wd_988 : Cond := Cond.code yX12_apart cX12_apart 7 (some .int)
noncomputable def wsX12_apart : List Cond := wd_988 :: ((wsX12_apart_r1 ++ (wsX12_apart_r2 ++ (wsX12_apart_r3 ++ (wsX12_apart_r4 ++ wsX12_apart_r5)))) ++ wsX120)
noncomputable abbrev wd_989 : Cond := Cond.constant RX12 383 (-100001)
noncomputable abbrev wd_990 : Cond := Cond.constant RX12 384 (-100002)
noncomputable def wsX12_stop_r1 : List Cond := [wd_989, wd_990, wd_756, wd_720, wd_723, wd_715, wd_803, wd_804, wd_805, wd_800, wd_796, wd_797, wd_798, wd_799, wd_792, wd_949, wd_950, wd_951, wd_946, wd_716, wd_749, wd_750, wd_751, wd_721]
noncomputable def wsX12_stop_r2 : List Cond := [wd_752, wd_722, wd_753, wd_748, wd_952, wd_953, wd_954, wd_936, wd_933, wd_934, wd_935, wd_930, wd_717, wd_747, wd_725, wd_915, wd_916, wd_917, wd_914, wd_908, wd_909, wd_910, wd_895, wd_746]
noncomputable def wsX12_stop_r3 : List Cond := [wd_733, wd_734, wd_873, wd_874, wd_875, wd_870, wd_727, wd_876, wd_877, wd_878, wd_871, wd_732, wd_892, wd_893, wd_894, wd_888, wd_735, wd_736, wd_737, wd_745, wd_889, wd_890, wd_891, wd_887]
noncomputable def wsX12_stop_r4 : List Cond := [wd_718, wd_884, wd_885, wd_886, wd_795, wd_911, wd_912, wd_913, wd_907, wd_719, wd_724, wd_901, wd_902, wd_903, wd_896, wd_904, wd_905, wd_906, wd_900, wd_897, wd_898, wd_899, wd_879, wd_743]
noncomputable def wsX12_stop_r5 : List Cond := [wd_880, wd_881, wd_882, wd_872, wd_927, wd_928, wd_929, wd_926, wd_923, wd_924, wd_925, wd_794, wd_955, wd_956, wd_957, wd_948, wd_958, wd_959, wd_960, wd_947]
noncomputable abbrev wd_991 : Cond := Cond.code yX12_stop cX12_stop 8 (some .int)
noncomputable def wsX12_stop : List Cond := wd_991 :: ((wsX12_stop_r1 ++ (wsX12_stop_r2 ++ (wsX12_stop_r3 ++ (wsX12_stop_r4 ++ wsX12_stop_r5)))) ++ wsX120)
noncomputable def wsX12_aloneBehind_r1 : List Cond := [wd_754, wd_725, wd_717, wd_720, wd_715, wd_949, wd_950, wd_951, wd_800, wd_946, wd_716, wd_749, wd_750, wd_751, wd_721, wd_752, wd_722, wd_753, wd_723, wd_748, wd_952, wd_953, wd_954, wd_936]
noncomputable def wsX12_aloneBehind_r2 : List Cond := [wd_933, wd_934, wd_935, wd_930, wd_747, wd_915, wd_916, wd_917, wd_914, wd_908, wd_909, wd_910, wd_895, wd_746, wd_733, wd_734, wd_873, wd_874, wd_875, wd_870, wd_727, wd_876, wd_877, wd_878]
noncomputable def wsX12_aloneBehind_r3 : List Cond := [wd_871, wd_732, wd_892, wd_893, wd_894, wd_888, wd_735, wd_736, wd_737, wd_745, wd_889, wd_890, wd_891, wd_887, wd_718, wd_884, wd_885, wd_886, wd_795, wd_911, wd_912, wd_913, wd_907, wd_719]
noncomputable def wsX12_aloneBehind_r4 : List Cond := [wd_724, wd_901, wd_902, wd_903, wd_896, wd_904, wd_905, wd_906, wd_900, wd_897, wd_898, wd_899, wd_879, wd_743, wd_880, wd_881, wd_882, wd_872, wd_927, wd_928, wd_929, wd_926, wd_923, wd_924]
noncomputable def wsX12_aloneBehind_r5 : List Cond := [wd_925, wd_794, wd_958, wd_959, wd_960, wd_947]
noncomputable abbrev wd_992 : Cond := Cond.code yX12_aloneBehind cX12_aloneBehind 5 (some .int)
noncomputable def wsX12_aloneBehind : List Cond := wd_992 :: ((wsX12_aloneBehind_r1 ++ (wsX12_aloneBehind_r2 ++ (wsX12_aloneBehind_r3 ++ (wsX12_aloneBehind_r4 ++ wsX12_aloneBehind_r5)))) ++ wsX120)
noncomputable def wsX12_alone_r1 : List Cond := [wd_990, wd_715, wd_797, wd_798, wd_799, wd_800, wd_792, wd_985, wd_986, wd_987, wd_961, wd_949, wd_950, wd_951, wd_946, wd_716, wd_749, wd_750, wd_720, wd_751, wd_721, wd_752, wd_722, wd_753]
noncomputable def wsX12_alone_r2 : List Cond := [wd_723, wd_748, wd_952, wd_953, wd_954, wd_936, wd_933, wd_934, wd_935, wd_930, wd_717, wd_747, wd_725, wd_915, wd_916, wd_917, wd_914, wd_908, wd_909, wd_910, wd_895, wd_746, wd_733, wd_734]
noncomputable def wsX12_alone_r3 : List Cond := [wd_873, wd_874, wd_875, wd_870, wd_727, wd_876, wd_877, wd_878, wd_871, wd_732, wd_892, wd_893, wd_894, wd_888, wd_735, wd_736, wd_737, wd_745, wd_889, wd_890, wd_891, wd_887, wd_718, wd_884]
noncomputable def wsX12_alone_r4 : List Cond := [wd_885, wd_886, wd_795, wd_911, wd_912, wd_913, wd_907, wd_719, wd_724, wd_901, wd_902, wd_903, wd_896, wd_904, wd_905, wd_906, wd_900, wd_897, wd_898, wd_899, wd_879, wd_743, wd_880, wd_881]
noncomputable abbrev wd_993 : Cond := Cond.methodLink RX12 385 yX12_aloneBehind
noncomputable abbrev wd_994 : Cond := Cond.instanceMethod yX12_aloneBehind
noncomputable abbrev wd_995 : Cond := Cond.selects RX12 yX12_aloneBehind yX12_aloneBehind
noncomputable def wsX12_alone_r5 : List Cond := [wd_882, wd_872, wd_927, wd_928, wd_929, wd_926, wd_923, wd_924, wd_925, wd_794, wd_955, wd_956, wd_957, wd_948, wd_958, wd_959, wd_960, wd_947, wd_993, wd_994, wd_995, wd_992, wd_754]
noncomputable abbrev wd_996 : Cond := Cond.code yX12_alone cX12_alone 4 (some .int)
noncomputable def wsX12_alone : List Cond := wd_996 :: ((wsX12_alone_r1 ++ (wsX12_alone_r2 ++ (wsX12_alone_r3 ++ (wsX12_alone_r4 ++ wsX12_alone_r5)))) ++ wsX120)
noncomputable def wsX12_allStopped_r1 : List Cond := [wd_723, wd_949, wd_950, wd_951, wd_800, wd_946, wd_716, wd_749, wd_750, wd_720, wd_751, wd_721, wd_752, wd_722, wd_753, wd_748, wd_952, wd_953, wd_954, wd_936, wd_933, wd_934, wd_935, wd_930]
noncomputable def wsX12_allStopped_r2 : List Cond := [wd_717, wd_747, wd_725, wd_915, wd_916, wd_917, wd_914, wd_908, wd_909, wd_910, wd_895, wd_746, wd_733, wd_734, wd_873, wd_874, wd_875, wd_870, wd_727, wd_876, wd_877, wd_878, wd_871, wd_732]
noncomputable def wsX12_allStopped_r3 : List Cond := [wd_892, wd_893, wd_894, wd_888, wd_735, wd_736, wd_737, wd_745, wd_889, wd_890, wd_891, wd_887, wd_718, wd_884, wd_885, wd_886, wd_795, wd_911, wd_912, wd_913, wd_907, wd_719, wd_724, wd_901]
noncomputable def wsX12_allStopped_r4 : List Cond := [wd_902, wd_903, wd_896, wd_904, wd_905, wd_906, wd_900, wd_897, wd_898, wd_899, wd_879, wd_743, wd_880, wd_881, wd_882, wd_872, wd_927, wd_928, wd_929, wd_926, wd_923, wd_924, wd_925, wd_794]
noncomputable def wsX12_allStopped_r5 : List Cond := [wd_955, wd_956, wd_957, wd_948, wd_715, wd_958, wd_959, wd_960, wd_947]
noncomputable abbrev wd_997 : Cond := Cond.code yX12_allStopped cX12_allStopped 5 (some .int)
noncomputable def wsX12_allStopped : List Cond := wd_997 :: ((wsX12_allStopped_r1 ++ (wsX12_allStopped_r2 ++ (wsX12_allStopped_r3 ++ (wsX12_allStopped_r4 ++ wsX12_allStopped_r5)))) ++ wsX120)
noncomputable def wsX12_rest_r1 : List Cond := [wd_715, wd_797, wd_798, wd_799, wd_800, wd_792, wd_985, wd_986, wd_987, wd_961, wd_949, wd_950, wd_951, wd_946, wd_716, wd_749, wd_750, wd_720, wd_751, wd_721, wd_752, wd_722, wd_753, wd_723]
noncomputable def wsX12_rest_r2 : List Cond := [wd_748, wd_952, wd_953, wd_954, wd_936, wd_933, wd_934, wd_935, wd_930, wd_717, wd_747, wd_725, wd_915, wd_916, wd_917, wd_914, wd_908, wd_909, wd_910, wd_895, wd_746, wd_733, wd_734, wd_873]
noncomputable def wsX12_rest_r3 : List Cond := [wd_874, wd_875, wd_870, wd_727, wd_876, wd_877, wd_878, wd_871, wd_732, wd_892, wd_893, wd_894, wd_888, wd_735, wd_736, wd_737, wd_745, wd_889, wd_890, wd_891, wd_887, wd_718, wd_884, wd_885]
noncomputable def wsX12_rest_r4 : List Cond := [wd_886, wd_795, wd_911, wd_912, wd_913, wd_907, wd_719, wd_724, wd_901, wd_902, wd_903, wd_896, wd_904, wd_905, wd_906, wd_900, wd_897, wd_898, wd_899, wd_879, wd_743, wd_880, wd_881, wd_882]
noncomputable abbrev wd_998 : Cond := Cond.methodLink RX12 388 yX12_allStopped
noncomputable abbrev wd_999 : Cond := Cond.instanceMethod yX12_allStopped
noncomputable abbrev wd_1000 : Cond := Cond.selects RX12 yX12_allStopped yX12_allStopped
noncomputable def wsX12_rest_r5 : List Cond := [wd_872, wd_927, wd_928, wd_929, wd_926, wd_923, wd_924, wd_925, wd_794, wd_955, wd_956, wd_957, wd_948, wd_958, wd_959, wd_960, wd_947, wd_998, wd_999, wd_1000, wd_997]
noncomputable abbrev wd_1001 : Cond := Cond.code yX12_rest cX12_rest 7 (some .int)
noncomputable def wsX12_rest : List Cond := wd_1001 :: ((wsX12_rest_r1 ++ (wsX12_rest_r2 ++ (wsX12_rest_r3 ++ (wsX12_rest_r4 ++ wsX12_rest_r5)))) ++ wsX120)
noncomputable def wsX12_paused_r1 : List Cond := [wd_797, wd_798, wd_799, wd_800, wd_792, wd_949, wd_950, wd_951, wd_946, wd_716, wd_749, wd_750, wd_720, wd_751, wd_721, wd_752, wd_722, wd_753, wd_723, wd_748, wd_952, wd_953, wd_954, wd_936]
noncomputable def wsX12_paused_r2 : List Cond := [wd_933, wd_934, wd_935, wd_930, wd_717, wd_747, wd_725, wd_915, wd_916, wd_917, wd_914, wd_908, wd_909, wd_910, wd_895, wd_746, wd_733, wd_734, wd_873, wd_874, wd_875, wd_870, wd_727, wd_876]
noncomputable def wsX12_paused_r3 : List Cond := [wd_877, wd_878, wd_871, wd_732, wd_892, wd_893, wd_894, wd_888, wd_735, wd_736, wd_737, wd_745, wd_889, wd_890, wd_891, wd_887, wd_718, wd_884, wd_885, wd_886, wd_795, wd_911, wd_912, wd_913]
noncomputable def wsX12_paused_r4 : List Cond := [wd_907, wd_719, wd_724, wd_901, wd_902, wd_903, wd_896, wd_904, wd_905, wd_906, wd_900, wd_897, wd_898, wd_899, wd_879, wd_743, wd_880, wd_881, wd_882, wd_872, wd_927, wd_928, wd_929, wd_926]
noncomputable def wsX12_paused_r5 : List Cond := [wd_923, wd_924, wd_925, wd_794, wd_943, wd_944, wd_945, wd_932, wd_715, wd_955, wd_956, wd_957, wd_948, wd_958, wd_959, wd_960, wd_947]
noncomputable abbrev wd_1002 : Cond := Cond.code yX12_paused cX12_paused 7 (some .int)
noncomputable def wsX12_paused : List Cond := wd_1002 :: ((wsX12_paused_r1 ++ (wsX12_paused_r2 ++ (wsX12_paused_r3 ++ (wsX12_paused_r4 ++ wsX12_paused_r5)))) ++ wsX120)
noncomputable abbrev wd_1003 : Cond := Cond.code yX12_see cX12_see 4 (some .int)
noncomputable def wsX12_see : List Cond := wd_1003 :: ([wd_757, wd_758, wd_759, wd_760, wd_803, wd_804, wd_805, wd_800, wd_796, wd_715, wd_797, wd_798, wd_799, wd_792] ++ wsX120)
noncomputable def wsX12_isSeen_r1 : List Cond := [wd_723, wd_759, wd_720, wd_758, wd_760, wd_949, wd_950, wd_951, wd_800, wd_946, wd_716, wd_749, wd_750, wd_751, wd_721, wd_752, wd_722, wd_753, wd_748, wd_952, wd_953, wd_954, wd_936, wd_933]
noncomputable def wsX12_isSeen_r2 : List Cond := [wd_934, wd_935, wd_930, wd_717, wd_747, wd_725, wd_915, wd_916, wd_917, wd_914, wd_908, wd_909, wd_910, wd_895, wd_746, wd_733, wd_734, wd_873, wd_874, wd_875, wd_870, wd_727, wd_876, wd_877]
noncomputable def wsX12_isSeen_r3 : List Cond := [wd_878, wd_871, wd_732, wd_892, wd_893, wd_894, wd_888, wd_735, wd_736, wd_737, wd_745, wd_889, wd_890, wd_891, wd_887, wd_718, wd_884, wd_885, wd_886, wd_795, wd_911, wd_912, wd_913, wd_907]
noncomputable def wsX12_isSeen_r4 : List Cond := [wd_719, wd_724, wd_901, wd_902, wd_903, wd_896, wd_904, wd_905, wd_906, wd_900, wd_897, wd_898, wd_899, wd_879, wd_743, wd_880, wd_881, wd_882, wd_872, wd_927, wd_928, wd_929, wd_926, wd_923]
noncomputable def wsX12_isSeen_r5 : List Cond := [wd_924, wd_925, wd_794, wd_958, wd_959, wd_960, wd_947]
noncomputable abbrev wd_1004 : Cond := Cond.code yX12_isSeen cX12_isSeen 4 (some .boolean)
noncomputable def wsX12_isSeen : List Cond := wd_1004 :: ((wsX12_isSeen_r1 ++ (wsX12_isSeen_r2 ++ (wsX12_isSeen_r3 ++ (wsX12_isSeen_r4 ++ wsX12_isSeen_r5)))) ++ wsX120)
noncomputable abbrev wd_1005 : Cond := Cond.methodLink RX12 391 yX12_isSeen
noncomputable abbrev wd_1006 : Cond := Cond.instanceMethod yX12_isSeen
noncomputable abbrev wd_1007 : Cond := Cond.selects RX12 yX12_isSeen yX12_isSeen
noncomputable def wsX12_who_r1 : List Cond := [wd_715, wd_757, wd_1005, wd_1006, wd_1007, wd_800, wd_1004, wd_723, wd_759, wd_720, wd_758, wd_760, wd_949, wd_950, wd_951, wd_946, wd_716, wd_749, wd_750, wd_751, wd_721, wd_752, wd_722, wd_753]
noncomputable def wsX12_who_r2 : List Cond := [wd_748, wd_952, wd_953, wd_954, wd_936, wd_933, wd_934, wd_935, wd_930, wd_717, wd_747, wd_725, wd_915, wd_916, wd_917, wd_914, wd_908, wd_909, wd_910, wd_895, wd_746, wd_733, wd_734, wd_873]
noncomputable def wsX12_who_r3 : List Cond := [wd_874, wd_875, wd_870, wd_727, wd_876, wd_877, wd_878, wd_871, wd_732, wd_892, wd_893, wd_894, wd_888, wd_735, wd_736, wd_737, wd_745, wd_889, wd_890, wd_891, wd_887, wd_718, wd_884, wd_885]
noncomputable def wsX12_who_r4 : List Cond := [wd_886, wd_795, wd_911, wd_912, wd_913, wd_907, wd_719, wd_724, wd_901, wd_902, wd_903, wd_896, wd_904, wd_905, wd_906, wd_900, wd_897, wd_898, wd_899, wd_879, wd_743, wd_880, wd_881, wd_882]
noncomputable def wsX12_who_r5 : List Cond := [wd_872, wd_927, wd_928, wd_929, wd_926, wd_923, wd_924, wd_925, wd_794, wd_958, wd_959, wd_960, wd_947]
noncomputable abbrev wd_1008 : Cond := Cond.code yX12_who cX12_who 5 (some .int)
noncomputable def wsX12_who : List Cond := wd_1008 :: ((wsX12_who_r1 ++ (wsX12_who_r2 ++ (wsX12_who_r3 ++ (wsX12_who_r4 ++ wsX12_who_r5)))) ++ wsX120)
noncomputable abbrev wd_1009 : Cond := Cond.code yX12_divisor cX12_divisor 6 (some .int)
noncomputable def wsX12_divisor : List Cond := wd_1009 :: ([])
noncomputable abbrev wd_1010 : Cond := Cond.code yX12_lowest cX12_lowest 5 (some .long)
noncomputable abbrev wd_1011 : Cond := Cond.methodLink RX12 394 yX12_divisor
noncomputable abbrev wd_1012 : Cond := Cond.instanceMethod yX12_divisor
noncomputable abbrev wd_1013 : Cond := Cond.selects RX12 yX12_divisor yX12_divisor
noncomputable def wsX12_lowest : List Cond := wd_1010 :: ([wd_1011, wd_1012, wd_1013, wd_800, wd_1009])
noncomputable abbrev wd_1014 : Cond := Cond.constantLong RX12 397 (-9223372036854775808)
noncomputable def wsX12_odds_r1 : List Cond := [wd_1014, wd_715, wd_723, wd_748, wd_803, wd_804, wd_805, wd_800, wd_796, wd_797, wd_798, wd_799, wd_792, wd_949, wd_950, wd_951, wd_946, wd_716, wd_749, wd_750, wd_720, wd_751, wd_721, wd_752]
noncomputable def wsX12_odds_r2 : List Cond := [wd_722, wd_753, wd_952, wd_953, wd_954, wd_936, wd_933, wd_934, wd_935, wd_930, wd_717, wd_747, wd_725, wd_915, wd_916, wd_917, wd_914, wd_908, wd_909, wd_910, wd_895, wd_746, wd_733, wd_734]
noncomputable def wsX12_odds_r3 : List Cond := [wd_873, wd_874, wd_875, wd_870, wd_727, wd_876, wd_877, wd_878, wd_871, wd_732, wd_892, wd_893, wd_894, wd_888, wd_735, wd_736, wd_737, wd_745, wd_889, wd_890, wd_891, wd_887, wd_718, wd_884]
noncomputable def wsX12_odds_r4 : List Cond := [wd_885, wd_886, wd_795, wd_911, wd_912, wd_913, wd_907, wd_719, wd_724, wd_901, wd_902, wd_903, wd_896, wd_904, wd_905, wd_906, wd_900, wd_897, wd_898, wd_899, wd_879, wd_743, wd_880, wd_881]
noncomputable abbrev wd_1015 : Cond := Cond.methodLink RX12 399 yX12_lowest
noncomputable abbrev wd_1016 : Cond := Cond.instanceMethod yX12_lowest
noncomputable abbrev wd_1017 : Cond := Cond.selects RX12 yX12_lowest yX12_lowest
noncomputable def wsX12_odds_r5 : List Cond := [wd_882, wd_872, wd_927, wd_928, wd_929, wd_926, wd_923, wd_924, wd_925, wd_794, wd_958, wd_959, wd_960, wd_947, wd_1015, wd_1016, wd_1017, wd_1010, wd_1011, wd_1012, wd_1013, wd_1009]
noncomputable abbrev wd_1018 : Cond := Cond.code yX12_odds cX12_odds 6 (some .long)
noncomputable def wsX12_odds : List Cond := wd_1018 :: ((wsX12_odds_r1 ++ (wsX12_odds_r2 ++ (wsX12_odds_r3 ++ (wsX12_odds_r4 ++ wsX12_odds_r5)))) ++ wsX120)
noncomputable def wsX12_mean_r1 : List Cond := [wd_715, wd_1014, wd_797, wd_798, wd_799, wd_800, wd_792, wd_985, wd_986, wd_987, wd_961, wd_949, wd_950, wd_951, wd_946, wd_716, wd_749, wd_750, wd_720, wd_751, wd_721, wd_752, wd_722, wd_753]
noncomputable def wsX12_mean_r2 : List Cond := [wd_723, wd_748, wd_952, wd_953, wd_954, wd_936, wd_933, wd_934, wd_935, wd_930, wd_717, wd_747, wd_725, wd_915, wd_916, wd_917, wd_914, wd_908, wd_909, wd_910, wd_895, wd_746, wd_733, wd_734]
noncomputable def wsX12_mean_r3 : List Cond := [wd_873, wd_874, wd_875, wd_870, wd_727, wd_876, wd_877, wd_878, wd_871, wd_732, wd_892, wd_893, wd_894, wd_888, wd_735, wd_736, wd_737, wd_745, wd_889, wd_890, wd_891, wd_887, wd_718, wd_884]
noncomputable def wsX12_mean_r4 : List Cond := [wd_885, wd_886, wd_795, wd_911, wd_912, wd_913, wd_907, wd_719, wd_724, wd_901, wd_902, wd_903, wd_896, wd_904, wd_905, wd_906, wd_900, wd_897, wd_898, wd_899, wd_879, wd_743, wd_880, wd_881]
noncomputable def wsX12_mean_r5 : List Cond := [wd_882, wd_872, wd_927, wd_928, wd_929, wd_926, wd_923, wd_924, wd_925, wd_794, wd_955, wd_956, wd_957, wd_948, wd_958, wd_959, wd_960, wd_947, wd_1015, wd_1016, wd_1017, wd_1010, wd_1011, wd_1012]
noncomputable def wsX12_mean_r6 : List Cond := [wd_1013, wd_1009]
noncomputable abbrev wd_1019 : Cond := Cond.code yX12_mean cX12_mean 3 (some .long)
noncomputable def wsX12_mean : List Cond := wd_1019 :: ((wsX12_mean_r1 ++ (wsX12_mean_r2 ++ (wsX12_mean_r3 ++ (wsX12_mean_r4 ++ (wsX12_mean_r5 ++ wsX12_mean_r6))))) ++ wsX120)
noncomputable abbrev wd_1020 : Cond := Cond.code yX12_plan cX12_plan 2 (some .int)
noncomputable def wsX12_plan : List Cond := wd_1020 :: ([wd_761, wd_763, wd_797, wd_798, wd_799, wd_800, wd_792] ++ wsX120)
noncomputable def wsX12_planned_r1 : List Cond := [wd_761, wd_763, wd_949, wd_950, wd_951, wd_800, wd_946, wd_716, wd_749, wd_750, wd_720, wd_751, wd_721, wd_752, wd_722, wd_753, wd_723, wd_748, wd_952, wd_953, wd_954, wd_936, wd_933, wd_934]
noncomputable def wsX12_planned_r2 : List Cond := [wd_935, wd_930, wd_717, wd_747, wd_725, wd_915, wd_916, wd_917, wd_914, wd_908, wd_909, wd_910, wd_895, wd_746, wd_733, wd_734, wd_873, wd_874, wd_875, wd_870, wd_727, wd_876, wd_877, wd_878]
noncomputable def wsX12_planned_r3 : List Cond := [wd_871, wd_732, wd_892, wd_893, wd_894, wd_888, wd_735, wd_736, wd_737, wd_745, wd_889, wd_890, wd_891, wd_887, wd_718, wd_884, wd_885, wd_886, wd_795, wd_911, wd_912, wd_913, wd_907, wd_719]
noncomputable def wsX12_planned_r4 : List Cond := [wd_724, wd_901, wd_902, wd_903, wd_896, wd_904, wd_905, wd_906, wd_900, wd_897, wd_898, wd_899, wd_879, wd_743, wd_880, wd_881, wd_882, wd_872, wd_927, wd_928, wd_929, wd_926, wd_923, wd_924]
noncomputable def wsX12_planned_r5 : List Cond := [wd_925, wd_794, wd_939, wd_940, wd_941, wd_931, wd_715, wd_943, wd_944, wd_945, wd_932, wd_955, wd_956, wd_957, wd_948, wd_958, wd_959, wd_960, wd_947]
noncomputable abbrev wd_1021 : Cond := Cond.code yX12_planned cX12_planned 2 (some .int)
noncomputable def wsX12_planned : List Cond := wd_1021 :: ((wsX12_planned_r1 ++ (wsX12_planned_r2 ++ (wsX12_planned_r3 ++ (wsX12_planned_r4 ++ wsX12_planned_r5)))) ++ wsX120)
noncomputable abbrev wd_1022 : Cond := Cond.code yX12_book cX12_book 2 (some .int)
noncomputable def wsX12_book : List Cond := wd_1022 :: ([wd_762, wd_764, wd_803, wd_804, wd_805, wd_800, wd_796, wd_715, wd_797, wd_798, wd_799, wd_792] ++ wsX120)
noncomputable def wsX12_looked_r1 : List Cond := [wd_762, wd_764, wd_949, wd_950, wd_951, wd_800, wd_946, wd_716, wd_749, wd_750, wd_720, wd_751, wd_721, wd_752, wd_722, wd_753, wd_723, wd_748, wd_933, wd_934, wd_935, wd_930, wd_717, wd_747]
noncomputable def wsX12_looked_r2 : List Cond := [wd_725, wd_915, wd_916, wd_917, wd_914, wd_908, wd_909, wd_910, wd_895, wd_746, wd_733, wd_734, wd_873, wd_874, wd_875, wd_870, wd_727, wd_876, wd_877, wd_878, wd_871, wd_732, wd_892, wd_893]
noncomputable def wsX12_looked_r3 : List Cond := [wd_894, wd_888, wd_735, wd_736, wd_737, wd_745, wd_889, wd_890, wd_891, wd_887, wd_718, wd_884, wd_885, wd_886, wd_795, wd_911, wd_912, wd_913, wd_907, wd_719, wd_724, wd_901, wd_902, wd_903]
noncomputable def wsX12_looked_r4 : List Cond := [wd_896, wd_904, wd_905, wd_906, wd_900, wd_897, wd_898, wd_899, wd_879, wd_743, wd_880, wd_881, wd_882, wd_872, wd_927, wd_928, wd_929, wd_926, wd_923, wd_924, wd_925, wd_794, wd_958, wd_959]
noncomputable def wsX12_looked_r5 : List Cond := [wd_960, wd_947, wd_969, wd_970, wd_971, wd_793]
noncomputable abbrev wd_1023 : Cond := Cond.code yX12_looked cX12_looked 3 (some .int)
noncomputable def wsX12_looked : List Cond := wd_1023 :: ((wsX12_looked_r1 ++ (wsX12_looked_r2 ++ (wsX12_looked_r3 ++ (wsX12_looked_r4 ++ wsX12_looked_r5)))) ++ wsX120)
noncomputable abbrev wd_1024 : Cond := Cond.code yX12_isTape cX12_isTape 2 (some .boolean)
noncomputable def wsX12_isTape : List Cond := wd_1024 :: ([wd_797, wd_798, wd_799, wd_800, wd_792])
noncomputable abbrev wd_1025 : Cond := Cond.code yX12_judge cX12_judge 4 (some .int)
noncomputable abbrev wd_1026 : Cond := Cond.methodLink RX12 403 yX12_isTape
noncomputable abbrev wd_1027 : Cond := Cond.instanceMethod yX12_isTape
noncomputable abbrev wd_1028 : Cond := Cond.selects RX12 yX12_isTape yX12_isTape
noncomputable def wsX12_judge : List Cond := wd_1025 :: ([wd_787, wd_715, wd_788, wd_789, wd_720, wd_1026, wd_1027, wd_1028, wd_800, wd_1024, wd_797, wd_798, wd_799, wd_792] ++ wsX120)
noncomputable def wsX12_image_r1 : List Cond := [wd_765, wd_727, wd_766, wd_715, wd_767, wd_716, wd_768, wd_757, wd_769, wd_761, wd_770, wd_762, wd_771, wd_772, wd_718, wd_773, wd_719, wd_774, wd_720, wd_775, wd_721, wd_776, wd_722, wd_777]
noncomputable def wsX12_image_r2 : List Cond := [wd_723, wd_778, wd_725, wd_780, wd_758, wd_781, wd_759, wd_782, wd_760, wd_779, wd_724, wd_783, wd_763, wd_784, wd_764]
noncomputable abbrev wd_1029 : Cond := Cond.code yX12_image cX12_image 2 (some .int)
noncomputable def wsX12_image : List Cond := wd_1029 :: ((wsX12_image_r1 ++ wsX12_image_r2) ++ wsX120)
noncomputable def wsX12_undo_r1 : List Cond := [wd_765, wd_766, wd_727, wd_767, wd_715, wd_717, wd_768, wd_716, wd_769, wd_757, wd_770, wd_761, wd_771, wd_762, wd_718, wd_772, wd_719, wd_773, wd_720, wd_774, wd_721, wd_775, wd_722, wd_776]
noncomputable def wsX12_undo_r2 : List Cond := [wd_723, wd_777, wd_725, wd_778, wd_758, wd_780, wd_759, wd_781, wd_760, wd_782, wd_724, wd_779, wd_763, wd_783, wd_764, wd_784]
noncomputable abbrev wd_1030 : Cond := Cond.code yX12_undo cX12_undo 2 (some .int)
noncomputable def wsX12_undo : List Cond := wd_1030 :: ((wsX12_undo_r1 ++ wsX12_undo_r2) ++ wsX120)
noncomputable abbrev wd_1031 : Cond := Cond.code yX12_body cX12_body 2 none
noncomputable def wsX12_body : List Cond := wd_1031 :: ([wd_785, wd_786] ++ wsX120)
noncomputable abbrev wd_1032 : Cond := Cond.code yX12_mowerMows cX12_mowerMows 3 (some .int)
noncomputable abbrev wd_1033 : Cond := Cond.methodLink RX12 406 yX12_body
noncomputable abbrev wd_1034 : Cond := Cond.instanceMethod yX12_body
noncomputable abbrev wd_1035 : Cond := Cond.selects RX12 yX12_body yX12_body
noncomputable def wsX12_mowerMows : List Cond := wd_1032 :: ([wd_1033, wd_1034, wd_1035, wd_800, wd_1031, wd_785, wd_786] ++ wsX120)
noncomputable abbrev wd_1036 : Cond := Cond.code yX12_mowsAct cX12_mowsAct 3 (some .int)
noncomputable abbrev wd_1037 : Cond := Cond.methodLink RX12 409 yX12_mowerMows
noncomputable abbrev wd_1038 : Cond := Cond.instanceMethod yX12_mowerMows
noncomputable abbrev wd_1039 : Cond := Cond.selects RX12 yX12_mowerMows yX12_mowerMows
noncomputable def wsX12_mowsAct : List Cond := wd_1036 :: ([wd_718, wd_719, wd_1033, wd_1034, wd_1035, wd_800, wd_1031, wd_785, wd_786, wd_1037, wd_1038, wd_1039, wd_1032] ++ wsX120)
noncomputable abbrev wd_1040 : Cond := Cond.code yX12_mowerWhets cX12_mowerWhets 3 (some .int)
noncomputable abbrev wd_1041 : Cond := Cond.methodLink RX12 412 yX12_mowsAct
noncomputable abbrev wd_1042 : Cond := Cond.instanceMethod yX12_mowsAct
noncomputable abbrev wd_1043 : Cond := Cond.selects RX12 yX12_mowsAct yX12_mowsAct
noncomputable def wsX12_mowerWhets : List Cond := wd_1040 :: ([wd_719, wd_1033, wd_1034, wd_1035, wd_800, wd_1031, wd_785, wd_786, wd_1041, wd_1042, wd_1043, wd_1036, wd_718, wd_1037, wd_1038, wd_1039, wd_1032] ++ wsX120)
noncomputable abbrev wd_1044 : Cond := Cond.code yX12_steadyWhets cX12_steadyWhets 3 (some .int)
noncomputable abbrev wd_1045 : Cond := Cond.methodLink RX12 415 yX12_mowerWhets
noncomputable abbrev wd_1046 : Cond := Cond.instanceMethod yX12_mowerWhets
noncomputable abbrev wd_1047 : Cond := Cond.selects RX12 yX12_mowerWhets yX12_mowerWhets
noncomputable def wsX12_steadyWhets : List Cond := wd_1044 :: ([wd_1033, wd_1034, wd_1035, wd_800, wd_1031, wd_785, wd_786, wd_1045, wd_1046, wd_1047, wd_1040, wd_719, wd_1041, wd_1042, wd_1043, wd_1036, wd_718, wd_1037, wd_1038, wd_1039, wd_1032] ++ wsX120)
noncomputable abbrev wd_1048 : Cond := Cond.methodLink RX12 418 yX12_steadyWhets
noncomputable abbrev wd_1049 : Cond := Cond.instanceMethod yX12_steadyWhets
noncomputable abbrev wd_1050 : Cond := Cond.selects RX12 yX12_steadyWhets yX12_steadyWhets
noncomputable def wsX12_whetsAct_r1 : List Cond := [wd_718, wd_1048, wd_1049, wd_1050, wd_800, wd_1044, wd_1033, wd_1034, wd_1035, wd_1031, wd_785, wd_786, wd_1045, wd_1046, wd_1047, wd_1040, wd_719, wd_1041, wd_1042, wd_1043, wd_1036, wd_1037, wd_1038, wd_1039]
noncomputable def wsX12_whetsAct_r2 : List Cond := [wd_1032]
noncomputable abbrev wd_1051 : Cond := Cond.code yX12_whetsAct cX12_whetsAct 4 (some .int)
noncomputable def wsX12_whetsAct : List Cond := wd_1051 :: ((wsX12_whetsAct_r1 ++ wsX12_whetsAct_r2) ++ wsX120)
noncomputable abbrev wd_1052 : Cond := Cond.methodLink RX12 421 yX12_whetsAct
noncomputable abbrev wd_1053 : Cond := Cond.instanceMethod yX12_whetsAct
noncomputable abbrev wd_1054 : Cond := Cond.selects RX12 yX12_whetsAct yX12_whetsAct
noncomputable def wsX12_mowerTells_r1 : List Cond := [wd_1033, wd_1034, wd_1035, wd_800, wd_1031, wd_785, wd_786, wd_1052, wd_1053, wd_1054, wd_1051, wd_718, wd_1048, wd_1049, wd_1050, wd_1044, wd_1045, wd_1046, wd_1047, wd_1040, wd_719, wd_1041, wd_1042, wd_1043]
noncomputable def wsX12_mowerTells_r2 : List Cond := [wd_1036, wd_1037, wd_1038, wd_1039, wd_1032]
noncomputable abbrev wd_1055 : Cond := Cond.code yX12_mowerTells cX12_mowerTells 3 (some .int)
noncomputable def wsX12_mowerTells : List Cond := wd_1055 :: ((wsX12_mowerTells_r1 ++ wsX12_mowerTells_r2) ++ wsX120)
noncomputable abbrev wd_1056 : Cond := Cond.methodLink RX12 424 yX12_mowerTells
noncomputable abbrev wd_1057 : Cond := Cond.instanceMethod yX12_mowerTells
noncomputable abbrev wd_1058 : Cond := Cond.selects RX12 yX12_mowerTells yX12_mowerTells
noncomputable def wsX12_tellsAct_r1 : List Cond := [wd_718, wd_1033, wd_1034, wd_1035, wd_800, wd_1031, wd_785, wd_786, wd_1056, wd_1057, wd_1058, wd_1055, wd_1052, wd_1053, wd_1054, wd_1051, wd_1048, wd_1049, wd_1050, wd_1044, wd_1045, wd_1046, wd_1047, wd_1040]
noncomputable def wsX12_tellsAct_r2 : List Cond := [wd_719, wd_1041, wd_1042, wd_1043, wd_1036, wd_1037, wd_1038, wd_1039, wd_1032]
noncomputable abbrev wd_1059 : Cond := Cond.code yX12_tellsAct cX12_tellsAct 4 (some .int)
noncomputable def wsX12_tellsAct : List Cond := wd_1059 :: ((wsX12_tellsAct_r1 ++ wsX12_tellsAct_r2) ++ wsX120)
noncomputable def wsX12_act_r1 : List Cond := [wd_785, wd_803, wd_804, wd_805, wd_800, wd_796, wd_715, wd_797, wd_798, wd_799, wd_792, wd_1041, wd_1042, wd_1043, wd_1036, wd_718, wd_719, wd_1033, wd_1034, wd_1035, wd_1031, wd_786, wd_1037, wd_1038]
noncomputable abbrev wd_1060 : Cond := Cond.methodLink RX12 427 yX12_tellsAct
noncomputable abbrev wd_1061 : Cond := Cond.instanceMethod yX12_tellsAct
noncomputable abbrev wd_1062 : Cond := Cond.selects RX12 yX12_tellsAct yX12_tellsAct
noncomputable def wsX12_act_r2 : List Cond := [wd_1039, wd_1032, wd_1052, wd_1053, wd_1054, wd_1051, wd_1048, wd_1049, wd_1050, wd_1044, wd_1045, wd_1046, wd_1047, wd_1040, wd_1060, wd_1061, wd_1062, wd_1059, wd_1056, wd_1057, wd_1058, wd_1055]
noncomputable abbrev wd_1063 : Cond := Cond.code yX12_act cX12_act 4 (some .int)
noncomputable def wsX12_act : List Cond := wd_1063 :: ((wsX12_act_r1 ++ wsX12_act_r2) ++ wsX120)
noncomputable abbrev wd_1064 : Cond := Cond.code yX12_trace cX12_trace 2 (some .int)
noncomputable def wsX12_trace : List Cond := wd_1064 :: ([wd_785, wd_786, wd_797, wd_798, wd_799, wd_800, wd_792] ++ wsX120)
noncomputable abbrev wd_1065 : Cond := Cond.code yX12_taken cX12_taken 4 (some .int)
noncomputable def wsX12_taken : List Cond := wd_1065 :: ([wd_718, wd_797, wd_798, wd_799, wd_800, wd_792, wd_803, wd_804, wd_805, wd_796, wd_715] ++ wsX120)
noncomputable abbrev wd_1066 : Cond := Cond.code yX12_count cX12_count 2 (some .int)
noncomputable def wsX12_count : List Cond := wd_1066 :: ([wd_715, wd_726, wd_757, wd_761, wd_762, wd_728, wd_785] ++ wsX120)
noncomputable abbrev wd_1067 : Cond := Cond.code yX12_tape cX12_tape 5 (some .int)
noncomputable def wsX12_tape : List Cond := wd_1067 :: ([wd_787, wd_788, wd_789, wd_1026, wd_1027, wd_1028, wd_800, wd_1024, wd_797, wd_798, wd_799, wd_792] ++ wsX120)
noncomputable abbrev wd_1068 : Cond := Cond.code yX12_narrow cX12_narrow 4 (some .long)
noncomputable def wsX12_narrow : List Cond := wd_1068 :: ([])
noncomputable abbrev wd_1069 : Cond := Cond.code yX12_item cX12_item 5 (some .int)
noncomputable abbrev wd_1070 : Cond := Cond.methodLink RX12 430 yX12_narrow
noncomputable abbrev wd_1071 : Cond := Cond.instanceMethod yX12_narrow
noncomputable abbrev wd_1072 : Cond := Cond.selects RX12 yX12_narrow yX12_narrow
noncomputable def wsX12_item : List Cond := wd_1069 :: ([wd_787, wd_788, wd_789, wd_1026, wd_1027, wd_1028, wd_800, wd_1024, wd_797, wd_798, wd_799, wd_792, wd_1070, wd_1071, wd_1072, wd_1068] ++ wsX120)
noncomputable abbrev wd_1073 : Cond := Cond.code yX12_read cX12_read 3 (some .long)
noncomputable def wsX12_read : List Cond := wd_1073 :: ([wd_787, wd_788, wd_1014, wd_789, wd_1026, wd_1027, wd_1028, wd_800, wd_1024, wd_797, wd_798, wd_799, wd_792] ++ wsX120)
noncomputable abbrev wd_1074 : Cond := Cond.code yX12_shift cX12_shift 7 (some .int)
noncomputable def wsX12_shift : List Cond := wd_1074 :: ([wd_787, wd_788, wd_790, wd_789, wd_1026, wd_1027, wd_1028, wd_800, wd_1024, wd_797, wd_798, wd_799, wd_792] ++ wsX120)
noncomputable abbrev wd_1077 : Cond := Cond.classLink RL 7 RX11
noncomputable abbrev wd_1078 : Cond := Cond.instantiable RX11 13
noncomputable abbrev wd_1079 : Cond := Cond.classLink RL 10 RX12
noncomputable abbrev wd_1080 : Cond := Cond.instantiable RX12 75
noncomputable abbrev wd_1081 : Cond := Cond.constantLong RL 164 (4294967295)
noncomputable abbrev wd_1082 : Cond := Cond.methodLink RL 9 yX11_init
noncomputable abbrev wd_1083 : Cond := Cond.instanceMethod yX11_init
noncomputable def wsL_law_r1 : List Cond := [wd_1077, wd_1078, wd_507, wd_1079, wd_1080, wd_800, wd_1081, wd_1082, wd_1083, wd_478, wd_450, wd_2, wd_3, wd_451, wd_452, wd_139, wd_453, wd_454, wd_455, wd_456, wd_457, wd_458, wd_459, wd_460]
noncomputable def wsL_law_r2 : List Cond := [wd_461, wd_462, wd_463, wd_464, wd_465, wd_108, wd_25, wd_466, wd_92, wd_467, wd_468, wd_469, wd_470, wd_154, wd_471, wd_472, wd_473, wd_474, wd_116, wd_93, wd_94, wd_95, wd_96, wd_97]
noncomputable def wsL_law_r3 : List Cond := [wd_98, wd_99, wd_100, wd_101, wd_102, wd_103, wd_104, wd_105, wd_106, wd_107, wd_109, wd_110, wd_111, wd_112, wd_113, wd_114, wd_115, wd_90, wd_91, wd_19, wd_20, wd_475, wd_476, wd_244]
noncomputable abbrev wd_1084 : Cond := Cond.methodLink RL 12 yX12_init
noncomputable abbrev wd_1085 : Cond := Cond.instanceMethod yX12_init
noncomputable def wsL_law_r4 : List Cond := [wd_245, wd_246, wd_247, wd_248, wd_145, wd_144, wd_148, wd_150, wd_149, wd_147, wd_249, wd_250, wd_251, wd_477, wd_432, wd_433, wd_434, wd_435, wd_436, wd_437, wd_1084, wd_1085, wd_791, wd_714]
noncomputable def wsL_law_r5 : List Cond := [wd_715, wd_716, wd_717, wd_718, wd_719, wd_720, wd_721, wd_722, wd_723, wd_724, wd_725, wd_726, wd_727, wd_728, wd_729, wd_730, wd_731, wd_732, wd_733, wd_734, wd_735, wd_736, wd_737, wd_738]
noncomputable def wsL_law_r6 : List Cond := [wd_739, wd_740, wd_741, wd_742, wd_743, wd_744, wd_745, wd_746, wd_747, wd_748, wd_749, wd_750, wd_751, wd_752, wd_753, wd_754, wd_755, wd_756, wd_757, wd_758, wd_759, wd_760, wd_761, wd_762]
noncomputable def wsL_law_r7 : List Cond := [wd_763, wd_764, wd_765, wd_766, wd_767, wd_768, wd_769, wd_770, wd_771, wd_772, wd_773, wd_774, wd_775, wd_776, wd_777, wd_778, wd_779, wd_780, wd_781, wd_782, wd_783, wd_784, wd_785, wd_786]
noncomputable abbrev wd_1086 : Cond := Cond.methodLink RL 13 yX11_mower
noncomputable abbrev wd_1087 : Cond := Cond.instanceMethod yX11_mower
noncomputable abbrev wd_1088 : Cond := Cond.selects RX11 yX11_mower yX11_mower
noncomputable def wsL_law_r8 : List Cond := [wd_787, wd_788, wd_789, wd_790, wd_1086, wd_1087, wd_1088, wd_511, wd_504, wd_505, wd_506, wd_503, wd_479, wd_480, wd_65, wd_481, wd_482, wd_43, wd_483, wd_484, wd_195, wd_485, wd_486, wd_48]
noncomputable def wsL_law_r9 : List Cond := [wd_487, wd_488, wd_209, wd_489, wd_490, wd_53, wd_491, wd_492, wd_10, wd_493, wd_424, wd_420, wd_421, wd_9, wd_0, wd_1, wd_4, wd_5, wd_6, wd_494, wd_427, wd_416, wd_417, wd_495]
noncomputable abbrev wd_1089 : Cond := Cond.methodLink RL 17 yX12_mower
noncomputable abbrev wd_1090 : Cond := Cond.instanceMethod yX12_mower
noncomputable abbrev wd_1091 : Cond := Cond.selects RX12 yX12_mower yX12_mower
noncomputable def wsL_law_r10 : List Cond := [wd_449, wd_7, wd_8, wd_496, wd_497, wd_422, wd_423, wd_498, wd_499, wd_425, wd_426, wd_500, wd_501, wd_447, wd_448, wd_502, wd_508, wd_509, wd_510, wd_132, wd_133, wd_1089, wd_1090, wd_1091]
noncomputable abbrev wd_1092 : Cond := Cond.methodLink RL 18 yX11_of
noncomputable abbrev wd_1093 : Cond := Cond.instanceMethod yX11_of
noncomputable abbrev wd_1094 : Cond := Cond.selects RX11 yX11_of yX11_of
noncomputable def wsL_law_r11 : List Cond := [wd_801, wd_797, wd_798, wd_799, wd_792, wd_1092, wd_1093, wd_1094, wd_526, wd_513, wd_514, wd_515, wd_516, wd_517, wd_518, wd_519, wd_520, wd_521, wd_522, wd_512, wd_523, wd_137, wd_138, wd_134]
noncomputable def wsL_law_r12 : List Cond := [wd_524, wd_197, wd_198, wd_155, wd_156, wd_157, wd_158, wd_159, wd_146, wd_151, wd_152, wd_153, wd_143, wd_525, wd_222, wd_223, wd_213, wd_196, wd_199, wd_15, wd_200, wd_201, wd_194, wd_13]
noncomputable def wsL_law_r13 : List Cond := [wd_14, wd_16, wd_17, wd_11, wd_12, wd_202, wd_181, wd_160, wd_161, wd_162, wd_163, wd_164, wd_165, wd_166, wd_30, wd_203, wd_204, wd_205, wd_206, wd_168, wd_169, wd_170, wd_171, wd_172]
noncomputable def wsL_law_r14 : List Cond := [wd_63, wd_173, wd_167, wd_207, wd_208, wd_185, wd_178, wd_179, wd_180, wd_182, wd_183, wd_184, wd_174, wd_175, wd_176, wd_177, wd_141, wd_142, wd_210, wd_211, wd_212, wd_186, wd_187, wd_188]
noncomputable abbrev wd_1095 : Cond := Cond.methodLink RL 21 yX12_of
noncomputable abbrev wd_1096 : Cond := Cond.instanceMethod yX12_of
noncomputable abbrev wd_1097 : Cond := Cond.selects RX12 yX12_of yX12_of
noncomputable def wsL_law_r15 : List Cond := [wd_189, wd_190, wd_191, wd_192, wd_193, wd_1095, wd_1096, wd_1097, wd_918, wd_803, wd_804, wd_805, wd_796, wd_809, wd_810, wd_811, wd_807, wd_908, wd_909, wd_910, wd_895, wd_873, wd_874, wd_875]
noncomputable def wsL_law_r16 : List Cond := [wd_870, wd_876, wd_877, wd_878, wd_871, wd_892, wd_893, wd_894, wd_888, wd_889, wd_890, wd_891, wd_887, wd_884, wd_885, wd_886, wd_795, wd_915, wd_916, wd_917, wd_914, wd_911, wd_912, wd_913]
noncomputable abbrev wd_1098 : Cond := Cond.methodLink RL 22 yX11_set
noncomputable abbrev wd_1099 : Cond := Cond.instanceMethod yX11_set
noncomputable abbrev wd_1100 : Cond := Cond.selects RX11 yX11_set yX11_set
noncomputable def wsL_law_r17 : List Cond := [wd_907, wd_901, wd_902, wd_903, wd_896, wd_904, wd_905, wd_906, wd_900, wd_897, wd_898, wd_899, wd_879, wd_880, wd_881, wd_882, wd_872, wd_1098, wd_1099, wd_1100, wd_527, wd_528, wd_529, wd_530]
noncomputable abbrev wd_1101 : Cond := Cond.methodLink RL 26 yX12_set
noncomputable abbrev wd_1102 : Cond := Cond.instanceMethod yX12_set
noncomputable abbrev wd_1103 : Cond := Cond.selects RX12 yX12_set yX12_set
noncomputable abbrev wd_1104 : Cond := Cond.methodLink RL 27 yX11_row
noncomputable abbrev wd_1105 : Cond := Cond.instanceMethod yX11_row
noncomputable abbrev wd_1106 : Cond := Cond.selects RX11 yX11_row yX11_row
noncomputable abbrev wd_1107 : Cond := Cond.methodLink RL 30 yX12_row
noncomputable abbrev wd_1108 : Cond := Cond.instanceMethod yX12_row
noncomputable abbrev wd_1109 : Cond := Cond.selects RX12 yX12_row yX12_row
noncomputable abbrev wd_1110 : Cond := Cond.methodLink RL 31 yX11_place
noncomputable abbrev wd_1111 : Cond := Cond.instanceMethod yX11_place
noncomputable abbrev wd_1112 : Cond := Cond.selects RX11 yX11_place yX11_place
noncomputable def wsL_law_r18 : List Cond := [wd_140, wd_1101, wd_1102, wd_1103, wd_802, wd_1104, wd_1105, wd_1106, wd_531, wd_532, wd_533, wd_1107, wd_1108, wd_1109, wd_806, wd_1110, wd_1111, wd_1112, wd_534, wd_535, wd_536, wd_537, wd_135, wd_136]
noncomputable abbrev wd_1113 : Cond := Cond.methodLink RL 34 yX12_place
noncomputable abbrev wd_1114 : Cond := Cond.instanceMethod yX12_place
noncomputable abbrev wd_1115 : Cond := Cond.selects RX12 yX12_place yX12_place
noncomputable abbrev wd_1116 : Cond := Cond.methodLink RL 35 yX11_feed
noncomputable abbrev wd_1117 : Cond := Cond.instanceMethod yX11_feed
noncomputable abbrev wd_1118 : Cond := Cond.selects RX11 yX11_feed yX11_feed
noncomputable abbrev wd_1119 : Cond := Cond.methodLink RL 39 yX12_feed
noncomputable abbrev wd_1120 : Cond := Cond.instanceMethod yX12_feed
noncomputable abbrev wd_1121 : Cond := Cond.selects RX12 yX12_feed yX12_feed
noncomputable abbrev wd_1122 : Cond := Cond.methodLink RL 40 yX11_field
noncomputable abbrev wd_1123 : Cond := Cond.instanceMethod yX11_field
noncomputable abbrev wd_1124 : Cond := Cond.selects RX11 yX11_field yX11_field
noncomputable def wsL_law_r19 : List Cond := [wd_1113, wd_1114, wd_1115, wd_808, wd_1116, wd_1117, wd_1118, wd_538, wd_1119, wd_1120, wd_1121, wd_812, wd_1122, wd_1123, wd_1124, wd_545, wd_539, wd_540, wd_541, wd_414, wd_410, wd_124, wd_125, wd_126]
noncomputable def wsL_law_r20 : List Cond := [wd_411, wd_412, wd_413, wd_409, wd_376, wd_377, wd_378, wd_340, wd_334, wd_335, wd_336, wd_252, wd_337, wd_338, wd_339, wd_262, wd_333, wd_330, wd_331, wd_332, wd_329, wd_258, wd_319, wd_320]
noncomputable def wsL_law_r21 : List Cond := [wd_321, wd_253, wd_254, wd_255, wd_322, wd_323, wd_324, wd_257, wd_259, wd_260, wd_261, wd_256, wd_325, wd_326, wd_270, wd_265, wd_266, wd_217, wd_218, wd_267, wd_268, wd_269, wd_263, wd_271]
noncomputable def wsL_law_r22 : List Cond := [wd_272, wd_264, wd_327, wd_328, wd_283, wd_318, wd_311, wd_312, wd_313, wd_314, wd_315, wd_297, wd_293, wd_294, wd_280, wd_281, wd_282, wd_273, wd_284, wd_285, wd_275, wd_276, wd_277, wd_278]
noncomputable def wsL_law_r23 : List Cond := [wd_279, wd_274, wd_295, wd_296, wd_290, wd_291, wd_292, wd_286, wd_287, wd_288, wd_289, wd_316, wd_317, wd_310, wd_303, wd_304, wd_305, wd_298, wd_306, wd_307, wd_299, wd_300, wd_308, wd_309]
noncomputable def wsL_law_r24 : List Cond := [wd_301, wd_302, wd_403, wd_404, wd_405, wd_369, wd_360, wd_361, wd_341, wd_362, wd_363, wd_364, wd_365, wd_358, wd_354, wd_355, wd_346, wd_347, wd_348, wd_343, wd_344, wd_345, wd_342, wd_356]
noncomputable def wsL_law_r25 : List Cond := [wd_357, wd_351, wd_352, wd_353, wd_349, wd_350, wd_366, wd_367, wd_368, wd_359, wd_379, wd_380, wd_381, wd_371, wd_372, wd_373, wd_374, wd_370, wd_394, wd_395, wd_396, wd_389, wd_390, wd_391]
noncomputable abbrev wd_1125 : Cond := Cond.methodLink RL 44 yX12_field
noncomputable def wsL_law_r26 : List Cond := [wd_392, wd_382, wd_383, wd_384, wd_375, wd_400, wd_386, wd_387, wd_388, wd_393, wd_397, wd_398, wd_399, wd_385, wd_406, wd_407, wd_408, wd_401, wd_402, wd_542, wd_543, wd_544, wd_415, wd_1125]
noncomputable abbrev wd_1126 : Cond := Cond.instanceMethod yX12_field
noncomputable abbrev wd_1127 : Cond := Cond.selects RX12 yX12_field yX12_field
noncomputable def wsL_law_r27 : List Cond := [wd_1126, wd_1127, wd_869, wd_866, wd_867, wd_868, wd_865, wd_862, wd_863, wd_864, wd_861, wd_855, wd_856, wd_857, wd_851, wd_815, wd_816, wd_817, wd_813, wd_852, wd_853, wd_854, wd_818, wd_819]
noncomputable def wsL_law_r28 : List Cond := [wd_820, wd_821, wd_814, wd_837, wd_838, wd_839, wd_823, wd_824, wd_825, wd_826, wd_822, wd_858, wd_859, wd_860, wd_850, wd_844, wd_845, wd_846, wd_843, wd_834, wd_835, wd_836, wd_833, wd_829]
noncomputable abbrev wd_1128 : Cond := Cond.methodLink RL 45 yX11_told
noncomputable abbrev wd_1129 : Cond := Cond.instanceMethod yX11_told
noncomputable abbrev wd_1130 : Cond := Cond.selects RX11 yX11_told yX11_told
noncomputable abbrev wd_1131 : Cond := Cond.methodLink RL 48 yX12_told
noncomputable abbrev wd_1132 : Cond := Cond.instanceMethod yX12_told
noncomputable abbrev wd_1133 : Cond := Cond.selects RX12 yX12_told yX12_told
noncomputable def wsL_law_r29 : List Cond := [wd_830, wd_831, wd_827, wd_840, wd_841, wd_842, wd_828, wd_847, wd_848, wd_849, wd_832, wd_1128, wd_1129, wd_1130, wd_546, wd_547, wd_548, wd_549, wd_550, wd_551, wd_1131, wd_1132, wd_1133, wd_922]
noncomputable abbrev wd_1134 : Cond := Cond.methodLink RL 49 yX11_minute
noncomputable abbrev wd_1135 : Cond := Cond.instanceMethod yX11_minute
noncomputable abbrev wd_1136 : Cond := Cond.selects RX11 yX11_minute yX11_minute
noncomputable def wsL_law_r30 : List Cond := [wd_919, wd_920, wd_921, wd_883, wd_1134, wd_1135, wd_1136, wd_553, wd_552, wd_232, wd_233, wd_230, wd_221, wd_224, wd_225, wd_226, wd_214, wd_215, wd_216, wd_227, wd_228, wd_229, wd_219, wd_220]
noncomputable abbrev wd_1137 : Cond := Cond.methodLink RL 52 yX12_minute
noncomputable abbrev wd_1138 : Cond := Cond.instanceMethod yX12_minute
noncomputable abbrev wd_1139 : Cond := Cond.selects RX12 yX12_minute yX12_minute
noncomputable abbrev wd_1140 : Cond := Cond.methodLink RL 53 yX11_whet
noncomputable abbrev wd_1141 : Cond := Cond.instanceMethod yX11_whet
noncomputable abbrev wd_1142 : Cond := Cond.selects RX11 yX11_whet yX11_whet
noncomputable def wsL_law_r31 : List Cond := [wd_1137, wd_1138, wd_1139, wd_937, wd_933, wd_934, wd_935, wd_930, wd_927, wd_928, wd_929, wd_926, wd_923, wd_924, wd_925, wd_794, wd_1140, wd_1141, wd_1142, wd_554, wd_555, wd_556, wd_557, wd_236]
noncomputable abbrev wd_1143 : Cond := Cond.methodLink RL 56 yX12_whet
noncomputable abbrev wd_1144 : Cond := Cond.instanceMethod yX12_whet
noncomputable abbrev wd_1145 : Cond := Cond.selects RX12 yX12_whet yX12_whet
noncomputable abbrev wd_1146 : Cond := Cond.methodLink RL 57 yX11_pause
noncomputable abbrev wd_1147 : Cond := Cond.instanceMethod yX11_pause
noncomputable abbrev wd_1148 : Cond := Cond.selects RX11 yX11_pause yX11_pause
noncomputable abbrev wd_1149 : Cond := Cond.methodLink RL 60 yX12_pause
noncomputable abbrev wd_1150 : Cond := Cond.instanceMethod yX12_pause
noncomputable abbrev wd_1151 : Cond := Cond.selects RX12 yX12_pause yX12_pause
noncomputable def wsL_law_r32 : List Cond := [wd_237, wd_238, wd_239, wd_235, wd_1143, wd_1144, wd_1145, wd_938, wd_939, wd_940, wd_941, wd_931, wd_1146, wd_1147, wd_1148, wd_558, wd_559, wd_560, wd_561, wd_240, wd_1149, wd_1150, wd_1151, wd_942]
noncomputable abbrev wd_1152 : Cond := Cond.methodLink RL 61 yX11_on
noncomputable abbrev wd_1153 : Cond := Cond.instanceMethod yX11_on
noncomputable abbrev wd_1154 : Cond := Cond.selects RX11 yX11_on yX11_on
noncomputable def wsL_law_r33 : List Cond := [wd_943, wd_944, wd_945, wd_932, wd_1152, wd_1153, wd_1154, wd_575, wd_563, wd_564, wd_565, wd_117, wd_118, wd_119, wd_120, wd_121, wd_566, wd_567, wd_568, wd_562, wd_569, wd_570, wd_571, wd_234]
noncomputable abbrev wd_1155 : Cond := Cond.methodLink RL 64 yX12_on
noncomputable abbrev wd_1156 : Cond := Cond.instanceMethod yX12_on
noncomputable abbrev wd_1157 : Cond := Cond.selects RX12 yX12_on yX12_on
noncomputable def wsL_law_r34 : List Cond := [wd_231, wd_572, wd_573, wd_574, wd_241, wd_1155, wd_1156, wd_1157, wd_962, wd_949, wd_950, wd_951, wd_946, wd_952, wd_953, wd_954, wd_936, wd_955, wd_956, wd_957, wd_948, wd_958, wd_959, wd_960]
noncomputable abbrev wd_1158 : Cond := Cond.methodLink RL 65 yX11_done
noncomputable abbrev wd_1159 : Cond := Cond.instanceMethod yX11_done
noncomputable abbrev wd_1160 : Cond := Cond.selects RX11 yX11_done yX11_done
noncomputable abbrev wd_1161 : Cond := Cond.methodLink RL 68 yX12_done
noncomputable abbrev wd_1162 : Cond := Cond.instanceMethod yX12_done
noncomputable abbrev wd_1163 : Cond := Cond.selects RX12 yX12_done yX12_done
noncomputable abbrev wd_1164 : Cond := Cond.methodLink RL 69 yX11_order
noncomputable abbrev wd_1165 : Cond := Cond.instanceMethod yX11_order
noncomputable abbrev wd_1166 : Cond := Cond.selects RX11 yX11_order yX11_order
noncomputable def wsL_law_r35 : List Cond := [wd_947, wd_1158, wd_1159, wd_1160, wd_579, wd_576, wd_577, wd_578, wd_242, wd_243, wd_1161, wd_1162, wd_1163, wd_967, wd_964, wd_965, wd_966, wd_963, wd_1164, wd_1165, wd_1166, wd_598, wd_595, wd_596]
noncomputable abbrev wd_1167 : Cond := Cond.methodLink RL 72 yX12_order
noncomputable abbrev wd_1168 : Cond := Cond.instanceMethod yX12_order
noncomputable abbrev wd_1169 : Cond := Cond.selects RX12 yX12_order yX12_order
noncomputable def wsL_law_r36 : List Cond := [wd_597, wd_594, wd_586, wd_587, wd_588, wd_589, wd_590, wd_580, wd_591, wd_592, wd_593, wd_582, wd_583, wd_584, wd_585, wd_581, wd_1167, wd_1168, wd_1169, wd_979, wd_973, wd_974, wd_975, wd_968]
noncomputable abbrev wd_1170 : Cond := Cond.methodLink RL 73 yX11_whets
noncomputable abbrev wd_1171 : Cond := Cond.instanceMethod yX11_whets
noncomputable abbrev wd_1172 : Cond := Cond.selects RX11 yX11_whets yX11_whets
noncomputable def wsL_law_r37 : List Cond := [wd_969, wd_970, wd_971, wd_793, wd_976, wd_977, wd_978, wd_972, wd_1170, wd_1171, wd_1172, wd_611, wd_608, wd_609, wd_610, wd_607, wd_604, wd_605, wd_606, wd_603, wd_600, wd_601, wd_602, wd_599]
noncomputable abbrev wd_1173 : Cond := Cond.methodLink RL 76 yX12_whets
noncomputable abbrev wd_1174 : Cond := Cond.instanceMethod yX12_whets
noncomputable abbrev wd_1175 : Cond := Cond.selects RX12 yX12_whets yX12_whets
noncomputable abbrev wd_1176 : Cond := Cond.methodLink RL 77 yX11_apart
noncomputable abbrev wd_1177 : Cond := Cond.instanceMethod yX11_apart
noncomputable abbrev wd_1178 : Cond := Cond.selects RX11 yX11_apart yX11_apart
noncomputable abbrev wd_1179 : Cond := Cond.methodLink RL 80 yX12_apart
noncomputable abbrev wd_1180 : Cond := Cond.instanceMethod yX12_apart
noncomputable abbrev wd_1181 : Cond := Cond.selects RX12 yX12_apart yX12_apart
noncomputable abbrev wd_1182 : Cond := Cond.methodLink RL 81 yX11_stop
noncomputable abbrev wd_1183 : Cond := Cond.instanceMethod yX11_stop
noncomputable abbrev wd_1184 : Cond := Cond.selects RX11 yX11_stop yX11_stop
noncomputable def wsL_law_r38 : List Cond := [wd_1173, wd_1174, wd_1175, wd_984, wd_981, wd_982, wd_983, wd_980, wd_1176, wd_1177, wd_1178, wd_612, wd_1179, wd_1180, wd_1181, wd_988, wd_985, wd_986, wd_987, wd_961, wd_1182, wd_1183, wd_1184, wd_619]
noncomputable abbrev wd_1185 : Cond := Cond.methodLink RL 85 yX12_stop
noncomputable abbrev wd_1186 : Cond := Cond.instanceMethod yX12_stop
noncomputable abbrev wd_1187 : Cond := Cond.selects RX12 yX12_stop yX12_stop
noncomputable abbrev wd_1188 : Cond := Cond.methodLink RL 86 yX11_alone
noncomputable abbrev wd_1189 : Cond := Cond.instanceMethod yX11_alone
noncomputable abbrev wd_1190 : Cond := Cond.selects RX11 yX11_alone yX11_alone
noncomputable abbrev wd_1191 : Cond := Cond.methodLink RL 89 yX12_alone
noncomputable abbrev wd_1192 : Cond := Cond.instanceMethod yX12_alone
noncomputable abbrev wd_1193 : Cond := Cond.selects RX12 yX12_alone yX12_alone
noncomputable def wsL_law_r39 : List Cond := [wd_614, wd_615, wd_616, wd_617, wd_618, wd_613, wd_1185, wd_1186, wd_1187, wd_991, wd_989, wd_990, wd_1188, wd_1189, wd_1190, wd_621, wd_620, wd_1191, wd_1192, wd_1193, wd_996, wd_993, wd_994, wd_995]
noncomputable abbrev wd_1194 : Cond := Cond.methodLink RL 90 yX11_rest
noncomputable abbrev wd_1195 : Cond := Cond.instanceMethod yX11_rest
noncomputable abbrev wd_1196 : Cond := Cond.selects RX11 yX11_rest yX11_rest
noncomputable abbrev wd_1197 : Cond := Cond.methodLink RL 93 yX12_rest
noncomputable abbrev wd_1198 : Cond := Cond.instanceMethod yX12_rest
noncomputable abbrev wd_1199 : Cond := Cond.selects RX12 yX12_rest yX12_rest
noncomputable abbrev wd_1200 : Cond := Cond.methodLink RL 94 yX11_paused
noncomputable abbrev wd_1201 : Cond := Cond.instanceMethod yX11_paused
noncomputable abbrev wd_1202 : Cond := Cond.selects RX11 yX11_paused yX11_paused
noncomputable abbrev wd_1203 : Cond := Cond.methodLink RL 97 yX12_paused
noncomputable abbrev wd_1204 : Cond := Cond.instanceMethod yX12_paused
noncomputable abbrev wd_1205 : Cond := Cond.selects RX12 yX12_paused yX12_paused
noncomputable abbrev wd_1206 : Cond := Cond.methodLink RL 98 yX11_see
noncomputable abbrev wd_1207 : Cond := Cond.instanceMethod yX11_see
noncomputable abbrev wd_1208 : Cond := Cond.selects RX11 yX11_see yX11_see
noncomputable def wsL_law_r40 : List Cond := [wd_992, wd_1194, wd_1195, wd_1196, wd_622, wd_1197, wd_1198, wd_1199, wd_1001, wd_998, wd_999, wd_1000, wd_997, wd_1200, wd_1201, wd_1202, wd_623, wd_1203, wd_1204, wd_1205, wd_1002, wd_1206, wd_1207, wd_1208]
noncomputable abbrev wd_1209 : Cond := Cond.methodLink RL 101 yX12_see
noncomputable abbrev wd_1210 : Cond := Cond.instanceMethod yX12_see
noncomputable abbrev wd_1211 : Cond := Cond.selects RX12 yX12_see yX12_see
noncomputable abbrev wd_1212 : Cond := Cond.methodLink RL 102 yX11_who
noncomputable abbrev wd_1213 : Cond := Cond.instanceMethod yX11_who
noncomputable abbrev wd_1214 : Cond := Cond.selects RX11 yX11_who yX11_who
noncomputable def wsL_law_r41 : List Cond := [wd_624, wd_625, wd_626, wd_627, wd_628, wd_629, wd_418, wd_630, wd_23, wd_24, wd_18, wd_1209, wd_1210, wd_1211, wd_1003, wd_1212, wd_1213, wd_1214, wd_640, wd_637, wd_638, wd_639, wd_636, wd_633]
noncomputable abbrev wd_1215 : Cond := Cond.methodLink RL 105 yX12_who
noncomputable abbrev wd_1216 : Cond := Cond.instanceMethod yX12_who
noncomputable abbrev wd_1217 : Cond := Cond.selects RX12 yX12_who yX12_who
noncomputable abbrev wd_1218 : Cond := Cond.methodLink RL 106 yX11_odds
noncomputable abbrev wd_1219 : Cond := Cond.instanceMethod yX11_odds
noncomputable abbrev wd_1220 : Cond := Cond.selects RX11 yX11_odds yX11_odds
noncomputable abbrev wd_1221 : Cond := Cond.methodLink RL 110 yX12_odds
noncomputable abbrev wd_1222 : Cond := Cond.instanceMethod yX12_odds
noncomputable abbrev wd_1223 : Cond := Cond.selects RX12 yX12_odds yX12_odds
noncomputable def wsL_law_r42 : List Cond := [wd_634, wd_635, wd_631, wd_632, wd_1215, wd_1216, wd_1217, wd_1008, wd_1005, wd_1006, wd_1007, wd_1004, wd_1218, wd_1219, wd_1220, wd_645, wd_642, wd_643, wd_644, wd_641, wd_1221, wd_1222, wd_1223, wd_1018]
noncomputable abbrev wd_1224 : Cond := Cond.methodLink RL 111 yX11_mean
noncomputable abbrev wd_1225 : Cond := Cond.instanceMethod yX11_mean
noncomputable abbrev wd_1226 : Cond := Cond.selects RX11 yX11_mean yX11_mean
noncomputable abbrev wd_1227 : Cond := Cond.methodLink RL 115 yX12_mean
noncomputable abbrev wd_1228 : Cond := Cond.instanceMethod yX12_mean
noncomputable abbrev wd_1229 : Cond := Cond.selects RX12 yX12_mean yX12_mean
noncomputable abbrev wd_1230 : Cond := Cond.methodLink RL 116 yX11_plan
noncomputable abbrev wd_1231 : Cond := Cond.instanceMethod yX11_plan
noncomputable abbrev wd_1232 : Cond := Cond.selects RX11 yX11_plan yX11_plan
noncomputable abbrev wd_1233 : Cond := Cond.methodLink RL 119 yX12_plan
noncomputable abbrev wd_1234 : Cond := Cond.instanceMethod yX12_plan
noncomputable def wsL_law_r43 : List Cond := [wd_1014, wd_1015, wd_1016, wd_1017, wd_1010, wd_1011, wd_1012, wd_1013, wd_1009, wd_1224, wd_1225, wd_1226, wd_646, wd_1227, wd_1228, wd_1229, wd_1019, wd_1230, wd_1231, wd_1232, wd_647, wd_648, wd_1233, wd_1234]
noncomputable abbrev wd_1235 : Cond := Cond.selects RX12 yX12_plan yX12_plan
noncomputable abbrev wd_1236 : Cond := Cond.methodLink RL 120 yX11_planned
noncomputable abbrev wd_1237 : Cond := Cond.instanceMethod yX11_planned
noncomputable abbrev wd_1238 : Cond := Cond.selects RX11 yX11_planned yX11_planned
noncomputable abbrev wd_1239 : Cond := Cond.methodLink RL 123 yX12_planned
noncomputable abbrev wd_1240 : Cond := Cond.instanceMethod yX12_planned
noncomputable abbrev wd_1241 : Cond := Cond.selects RX12 yX12_planned yX12_planned
noncomputable abbrev wd_1242 : Cond := Cond.methodLink RL 124 yX11_book
noncomputable abbrev wd_1243 : Cond := Cond.instanceMethod yX11_book
noncomputable abbrev wd_1244 : Cond := Cond.selects RX11 yX11_book yX11_book
noncomputable abbrev wd_1245 : Cond := Cond.methodLink RL 127 yX12_book
noncomputable abbrev wd_1246 : Cond := Cond.instanceMethod yX12_book
noncomputable abbrev wd_1247 : Cond := Cond.selects RX12 yX12_book yX12_book
noncomputable abbrev wd_1248 : Cond := Cond.methodLink RL 128 yX11_looked
noncomputable abbrev wd_1249 : Cond := Cond.instanceMethod yX11_looked
noncomputable abbrev wd_1250 : Cond := Cond.selects RX11 yX11_looked yX11_looked
noncomputable abbrev wd_1251 : Cond := Cond.methodLink RL 131 yX12_looked
noncomputable def wsL_law_r44 : List Cond := [wd_1235, wd_1020, wd_1236, wd_1237, wd_1238, wd_649, wd_1239, wd_1240, wd_1241, wd_1021, wd_1242, wd_1243, wd_1244, wd_650, wd_651, wd_1245, wd_1246, wd_1247, wd_1022, wd_1248, wd_1249, wd_1250, wd_652, wd_1251]
noncomputable abbrev wd_1252 : Cond := Cond.instanceMethod yX12_looked
noncomputable abbrev wd_1253 : Cond := Cond.selects RX12 yX12_looked yX12_looked
noncomputable abbrev wd_1254 : Cond := Cond.methodLink RL 132 yX11_judge
noncomputable abbrev wd_1255 : Cond := Cond.instanceMethod yX11_judge
noncomputable abbrev wd_1256 : Cond := Cond.selects RX11 yX11_judge yX11_judge
noncomputable abbrev wd_1257 : Cond := Cond.methodLink RL 135 yX12_judge
noncomputable abbrev wd_1258 : Cond := Cond.instanceMethod yX12_judge
noncomputable abbrev wd_1259 : Cond := Cond.selects RX12 yX12_judge yX12_judge
noncomputable def wsL_law_r45 : List Cond := [wd_1252, wd_1253, wd_1023, wd_1254, wd_1255, wd_1256, wd_654, wd_655, wd_656, wd_657, wd_658, wd_653, wd_659, wd_660, wd_661, wd_443, wd_662, wd_663, wd_664, wd_444, wd_1257, wd_1258, wd_1259, wd_1025]
noncomputable abbrev wd_1260 : Cond := Cond.methodLink RL 136 yX11_image
noncomputable abbrev wd_1261 : Cond := Cond.instanceMethod yX11_image
noncomputable abbrev wd_1262 : Cond := Cond.selects RX11 yX11_image yX11_image
noncomputable abbrev wd_1263 : Cond := Cond.methodLink RL 139 yX12_image
noncomputable abbrev wd_1264 : Cond := Cond.instanceMethod yX12_image
noncomputable abbrev wd_1265 : Cond := Cond.selects RX12 yX12_image yX12_image
noncomputable abbrev wd_1266 : Cond := Cond.methodLink RL 140 yX11_undo
noncomputable abbrev wd_1267 : Cond := Cond.instanceMethod yX11_undo
noncomputable def wsL_law_r46 : List Cond := [wd_1026, wd_1027, wd_1028, wd_1024, wd_1260, wd_1261, wd_1262, wd_668, wd_665, wd_666, wd_667, wd_128, wd_129, wd_130, wd_131, wd_122, wd_123, wd_127, wd_1263, wd_1264, wd_1265, wd_1029, wd_1266, wd_1267]
noncomputable abbrev wd_1268 : Cond := Cond.selects RX11 yX11_undo yX11_undo
noncomputable abbrev wd_1269 : Cond := Cond.methodLink RL 143 yX12_undo
noncomputable abbrev wd_1270 : Cond := Cond.instanceMethod yX12_undo
noncomputable abbrev wd_1271 : Cond := Cond.selects RX12 yX12_undo yX12_undo
noncomputable abbrev wd_1272 : Cond := Cond.methodLink RL 144 yX11_act
noncomputable abbrev wd_1273 : Cond := Cond.instanceMethod yX11_act
noncomputable abbrev wd_1274 : Cond := Cond.selects RX11 yX11_act yX11_act
noncomputable def wsL_law_r47 : List Cond := [wd_1268, wd_669, wd_1269, wd_1270, wd_1271, wd_1030, wd_1272, wd_1273, wd_1274, wd_686, wd_670, wd_29, wd_39, wd_31, wd_21, wd_22, wd_40, wd_41, wd_42, wd_26, wd_27, wd_28, wd_671, wd_45]
noncomputable def wsL_law_r48 : List Cond := [wd_46, wd_47, wd_32, wd_33, wd_49, wd_50, wd_51, wd_52, wd_34, wd_35, wd_36, wd_37, wd_672, wd_57, wd_69, wd_59, wd_54, wd_38, wd_44, wd_70, wd_673, wd_72, wd_73, wd_74]
noncomputable def wsL_law_r49 : List Cond := [wd_75, wd_66, wd_61, wd_62, wd_64, wd_60, wd_55, wd_56, wd_58, wd_76, wd_77, wd_78, wd_79, wd_67, wd_674, wd_83, wd_675, wd_676, wd_677, wd_89, wd_81, wd_82, wd_84, wd_80]
noncomputable abbrev wd_1275 : Cond := Cond.methodLink RL 147 yX12_act
noncomputable abbrev wd_1276 : Cond := Cond.instanceMethod yX12_act
noncomputable abbrev wd_1277 : Cond := Cond.selects RX12 yX12_act yX12_act
noncomputable def wsL_law_r50 : List Cond := [wd_68, wd_71, wd_85, wd_86, wd_87, wd_88, wd_678, wd_679, wd_680, wd_681, wd_682, wd_683, wd_428, wd_429, wd_430, wd_431, wd_684, wd_685, wd_1275, wd_1276, wd_1277, wd_1063, wd_1041, wd_1042]
noncomputable def wsL_law_r51 : List Cond := [wd_1043, wd_1036, wd_1033, wd_1034, wd_1035, wd_1031, wd_1037, wd_1038, wd_1039, wd_1032, wd_1052, wd_1053, wd_1054, wd_1051, wd_1048, wd_1049, wd_1050, wd_1044, wd_1045, wd_1046, wd_1047, wd_1040, wd_1060, wd_1061]
noncomputable abbrev wd_1278 : Cond := Cond.methodLink RL 148 yX11_trace
noncomputable abbrev wd_1279 : Cond := Cond.instanceMethod yX11_trace
noncomputable abbrev wd_1280 : Cond := Cond.selects RX11 yX11_trace yX11_trace
noncomputable abbrev wd_1281 : Cond := Cond.methodLink RL 151 yX12_trace
noncomputable abbrev wd_1282 : Cond := Cond.instanceMethod yX12_trace
noncomputable abbrev wd_1283 : Cond := Cond.selects RX12 yX12_trace yX12_trace
noncomputable abbrev wd_1284 : Cond := Cond.methodLink RL 152 yX11_taken
noncomputable abbrev wd_1285 : Cond := Cond.instanceMethod yX11_taken
noncomputable abbrev wd_1286 : Cond := Cond.selects RX11 yX11_taken yX11_taken
noncomputable def wsL_law_r52 : List Cond := [wd_1062, wd_1059, wd_1056, wd_1057, wd_1058, wd_1055, wd_1278, wd_1279, wd_1280, wd_687, wd_688, wd_689, wd_690, wd_419, wd_1281, wd_1282, wd_1283, wd_1064, wd_1284, wd_1285, wd_1286, wd_697, wd_698, wd_699]
noncomputable abbrev wd_1287 : Cond := Cond.methodLink RL 155 yX12_taken
noncomputable abbrev wd_1288 : Cond := Cond.instanceMethod yX12_taken
noncomputable abbrev wd_1289 : Cond := Cond.selects RX12 yX12_taken yX12_taken
noncomputable abbrev wd_1290 : Cond := Cond.methodLink RL 156 yX11_count
noncomputable abbrev wd_1291 : Cond := Cond.instanceMethod yX11_count
noncomputable abbrev wd_1292 : Cond := Cond.selects RX11 yX11_count yX11_count
noncomputable abbrev wd_1293 : Cond := Cond.methodLink RL 159 yX12_count
noncomputable abbrev wd_1294 : Cond := Cond.instanceMethod yX12_count
noncomputable abbrev wd_1295 : Cond := Cond.selects RX12 yX12_count yX12_count
noncomputable abbrev wd_1296 : Cond := Cond.methodLink RL 160 yX11_tape
noncomputable abbrev wd_1297 : Cond := Cond.instanceMethod yX11_tape
noncomputable abbrev wd_1298 : Cond := Cond.selects RX11 yX11_tape yX11_tape
noncomputable def wsL_law_r53 : List Cond := [wd_691, wd_692, wd_693, wd_694, wd_695, wd_696, wd_1287, wd_1288, wd_1289, wd_1065, wd_1290, wd_1291, wd_1292, wd_700, wd_1293, wd_1294, wd_1295, wd_1066, wd_1296, wd_1297, wd_1298, wd_701, wd_702, wd_703]
noncomputable abbrev wd_1299 : Cond := Cond.methodLink RL 163 yX12_tape
noncomputable abbrev wd_1300 : Cond := Cond.instanceMethod yX12_tape
noncomputable abbrev wd_1301 : Cond := Cond.selects RX12 yX12_tape yX12_tape
noncomputable abbrev wd_1302 : Cond := Cond.methodLink RL 166 yX11_item
noncomputable abbrev wd_1303 : Cond := Cond.instanceMethod yX11_item
noncomputable abbrev wd_1304 : Cond := Cond.selects RX11 yX11_item yX11_item
noncomputable abbrev wd_1305 : Cond := Cond.methodLink RL 170 yX12_item
noncomputable abbrev wd_1306 : Cond := Cond.instanceMethod yX12_item
noncomputable abbrev wd_1307 : Cond := Cond.selects RX12 yX12_item yX12_item
noncomputable def wsL_law_r54 : List Cond := [wd_704, wd_439, wd_440, wd_441, wd_442, wd_438, wd_1299, wd_1300, wd_1301, wd_1067, wd_1302, wd_1303, wd_1304, wd_705, wd_706, wd_707, wd_708, wd_446, wd_1305, wd_1306, wd_1307, wd_1069, wd_1070, wd_1071]
noncomputable abbrev wd_1308 : Cond := Cond.methodLink RL 171 yX11_read
noncomputable abbrev wd_1309 : Cond := Cond.instanceMethod yX11_read
noncomputable abbrev wd_1310 : Cond := Cond.selects RX11 yX11_read yX11_read
noncomputable abbrev wd_1311 : Cond := Cond.methodLink RL 174 yX12_read
noncomputable abbrev wd_1312 : Cond := Cond.instanceMethod yX12_read
noncomputable abbrev wd_1313 : Cond := Cond.selects RX12 yX12_read yX12_read
noncomputable abbrev wd_1314 : Cond := Cond.methodLink RL 175 yX11_shift
noncomputable abbrev wd_1315 : Cond := Cond.instanceMethod yX11_shift
noncomputable abbrev wd_1316 : Cond := Cond.selects RX11 yX11_shift yX11_shift
noncomputable abbrev wd_1317 : Cond := Cond.methodLink RL 179 yX12_shift
noncomputable abbrev wd_1318 : Cond := Cond.instanceMethod yX12_shift
noncomputable abbrev wd_1319 : Cond := Cond.selects RX12 yX12_shift yX12_shift
noncomputable def wsL_law_r55 : List Cond := [wd_1072, wd_1068, wd_1308, wd_1309, wd_1310, wd_709, wd_1311, wd_1312, wd_1313, wd_1073, wd_1314, wd_1315, wd_1316, wd_710, wd_711, wd_712, wd_713, wd_445, wd_1317, wd_1318, wd_1319, wd_1074]
noncomputable abbrev vwCl : List vw_C := [(RX0, TX0, 3), (RX1, TX1, 17), (RX2, TX2, 12), (RX3, TX3, 3), (RX4, TX4, 3), (RX5, TX5, 2), (RX6, TX6, 3), (RX7, TX7, 3), (RX8, TX8, 3), (RX9, TX9, 3), (RX10, TX10, 3), (RX11, TX11, 13), (RX12, TX12, 75)]
/-! the bytes at a place, and what each opcode decodes to: one theorem for each opcode -/
noncomputable def by1 (c : ByteArray) (p n : Nat) : Bool := match c.data.toList.drop p with
  | x :: _ => Nat.beq x.toNat n
  | _ => false
noncomputable def by2 (c : ByteArray) (p n : Nat) (q : Nat → Bool) : Bool := match c.data.toList.drop p with
  | x :: y :: _ => Nat.beq x.toNat n && q y.toNat
  | _ => false
noncomputable def by3 (c : ByteArray) (p n : Nat) (q : Nat → Nat → Bool) : Bool := match c.data.toList.drop p with
  | x :: y :: z :: _ => Nat.beq x.toNat n && q y.toNat z.toNat
  | _ => false
theorem u1_get {c : ByteArray} {p : Nat} {x : UInt8} {l : List UInt8} (h : c.data.toList.drop p = x :: l) : (Reader.u1 : Decoder Nat) c p = .ok (x.toNat, p + 1) ∧ c.data.toList.drop (p + 1) = l := by
  have hp : p < c.data.toList.length := by
    rcases Nat.lt_or_ge p c.data.toList.length with h2 | h2
    · exact h2
    · rw [List.drop_eq_nil_of_le h2] at h; cases h
  have h3 := List.drop_eq_getElem_cons hp
  rw [h] at h3
  injection h3 with h4 h5
  refine ⟨?_, h5.symm⟩
  have hs : p < c.size := hp
  have hx : c[p] = x := h4.symm
  unfold Reader.u1
  show (dite (p < c.size) _ _ : Decoder Nat) c p = _
  rw [dif_pos hs]
  show (Except.ok ((c[p]'hs).toNat, p + 1) : Except DecodeError (Nat × Nat)) = _
  rw [hx]
theorem by1_u {c : ByteArray} {p n : Nat} (h : by1 c p n = true) : (Reader.u1 : Decoder Nat) c p = .ok (n, p + 1) := by
  unfold by1 at h
  split at h
  · next x l e => rw [(u1_get e).1, Nat.eq_of_beq_eq_true h]
  · cases h
theorem by2_u {c : ByteArray} {p n : Nat} {q : Nat → Bool} (h : by2 c p n q = true) : (Reader.u1 : Decoder Nat) c p = .ok (n, p + 1) ∧ ∃ a, (Reader.u1 : Decoder Nat) c (p + 1) = .ok (a, p + 1 + 1) ∧ q a = true := by
  unfold by2 at h
  split at h
  · next x y l e =>
    have h1 := u1_get e
    have h2 := u1_get h1.2
    rw [Bool.and_eq_true] at h
    exact ⟨by rw [h1.1, Nat.eq_of_beq_eq_true h.1], _, h2.1, h.2⟩
  · cases h
theorem by3_u {c : ByteArray} {p n : Nat} {q : Nat → Nat → Bool} (h : by3 c p n q = true) : (Reader.u1 : Decoder Nat) c p = .ok (n, p + 1) ∧ ∃ a b, (Reader.u1 : Decoder Nat) c (p + 1) = .ok (a, p + 1 + 1) ∧ (Reader.u1 : Decoder Nat) c (p + 1 + 1) = .ok (b, p + 1 + 1 + 1) ∧ q a b = true := by
  unfold by3 at h
  split at h
  · next x y z l e =>
    have h1 := u1_get e
    have h2 := u1_get h1.2
    have h3 := u1_get h2.2
    rw [Bool.and_eq_true] at h
    exact ⟨by rw [h1.1, Nat.eq_of_beq_eq_true h.1], _, _, h2.1, h3.1, h.2⟩
  · cases h
theorem dec_in {c : ByteArray} {p q L : Nat} {i : Instr} (h : Decoder.instr p c p = .ok (i, q)) (hq : q - p = L) : decode c p = .ok (i, L) := by
  show (Except.bind (Decoder.instr p c p) _) = _
  rw [h, ← hq]; rfl
theorem l1 (p : Nat) : p + 1 - p = 1 := by omega
theorem l2 (p : Nat) : p + 1 + 1 - p = 2 := by omega
theorem l3 (p : Nat) : p + 1 + 1 + 1 - p = 3 := by omega
noncomputable def opU1 (v : Nat) : Nat → Bool := fun y => Nat.beq y v
noncomputable def opS1 (v : Int) : Nat → Bool := fun y => decide (Reader.signed 8 y = v)
noncomputable def opU2 (v : Nat) : Nat → Nat → Bool := fun y z => Nat.beq (y * 256 + z) v
noncomputable def opS2 (v : Int) : Nat → Nat → Bool := fun y z => decide (Reader.signed 16 (y * 256 + z) = v)
noncomputable def opI (k : Nat) (v : Int) : Nat → Nat → Bool := fun y z => Nat.beq y k && decide (Reader.signed 8 z = v)
theorem s1_ok {c : ByteArray} {p a q : Nat} (h : (Reader.u1 : Decoder Nat) c p = .ok (a, q)) : (Reader.s1 : Decoder Int) c p = .ok (Reader.signed 8 a, q) := by
  unfold Reader.s1
  first
    | (show Except.bind ((Reader.u1 : Decoder Nat) c p) _ = _; rw [h]; rfl)
    | (show Except.map _ ((Reader.u1 : Decoder Nat) c p) = _; rw [h]; rfl)
theorem u2_ok {c : ByteArray} {p a b q r : Nat} (h : (Reader.u1 : Decoder Nat) c p = .ok (a, q)) (h2 : (Reader.u1 : Decoder Nat) c q = .ok (b, r)) : (Reader.u2 : Decoder Nat) c p = .ok (a * 256 + b, r) := by
  unfold Reader.u2
  show Except.bind ((Reader.u1 : Decoder Nat) c p) _ = _; rw [h]
  show Except.bind ((Reader.u1 : Decoder Nat) c q) _ = _; rw [h2]; rfl
theorem s2_ok {c : ByteArray} {p a b q r : Nat} (h : (Reader.u1 : Decoder Nat) c p = .ok (a, q)) (h2 : (Reader.u1 : Decoder Nat) c q = .ok (b, r)) : (Reader.s2 : Decoder Int) c p = .ok (Reader.signed 16 (a * 256 + b), r) := by
  unfold Reader.s2
  have e := u2_ok h h2
  first
    | (show Except.bind ((Reader.u2 : Decoder Nat) c p) _ = _; rw [e]; rfl)
    | (show Except.map _ ((Reader.u2 : Decoder Nat) c p) = _; rw [e]; rfl)
theorem o_1 {c : ByteArray} {p : Nat} (h : by1 c p 1 = true) : decode c p = .ok (.aconst_null, 1) := by
  refine dec_in (q := p + 1) ?_ (l1 p)
  have e := by1_u h
  unfold Decoder.instr
  show Except.bind ((Reader.u1 : Decoder Nat) c p) _ = _
  rw [e]
  rfl
theorem o_2 {c : ByteArray} {p : Nat} (h : by1 c p 2 = true) : decode c p = .ok (.iconst (-1), 1) := by
  refine dec_in (q := p + 1) ?_ (l1 p)
  have e := by1_u h
  unfold Decoder.instr
  show Except.bind ((Reader.u1 : Decoder Nat) c p) _ = _
  rw [e]
  rfl
theorem o_3 {c : ByteArray} {p : Nat} (h : by1 c p 3 = true) : decode c p = .ok (.iconst 0, 1) := by
  refine dec_in (q := p + 1) ?_ (l1 p)
  have e := by1_u h
  unfold Decoder.instr
  show Except.bind ((Reader.u1 : Decoder Nat) c p) _ = _
  rw [e]
  rfl
theorem o_4 {c : ByteArray} {p : Nat} (h : by1 c p 4 = true) : decode c p = .ok (.iconst 1, 1) := by
  refine dec_in (q := p + 1) ?_ (l1 p)
  have e := by1_u h
  unfold Decoder.instr
  show Except.bind ((Reader.u1 : Decoder Nat) c p) _ = _
  rw [e]
  rfl
theorem o_5 {c : ByteArray} {p : Nat} (h : by1 c p 5 = true) : decode c p = .ok (.iconst 2, 1) := by
  refine dec_in (q := p + 1) ?_ (l1 p)
  have e := by1_u h
  unfold Decoder.instr
  show Except.bind ((Reader.u1 : Decoder Nat) c p) _ = _
  rw [e]
  rfl
theorem o_6 {c : ByteArray} {p : Nat} (h : by1 c p 6 = true) : decode c p = .ok (.iconst 3, 1) := by
  refine dec_in (q := p + 1) ?_ (l1 p)
  have e := by1_u h
  unfold Decoder.instr
  show Except.bind ((Reader.u1 : Decoder Nat) c p) _ = _
  rw [e]
  rfl
theorem o_7 {c : ByteArray} {p : Nat} (h : by1 c p 7 = true) : decode c p = .ok (.iconst 4, 1) := by
  refine dec_in (q := p + 1) ?_ (l1 p)
  have e := by1_u h
  unfold Decoder.instr
  show Except.bind ((Reader.u1 : Decoder Nat) c p) _ = _
  rw [e]
  rfl
theorem o_8 {c : ByteArray} {p : Nat} (h : by1 c p 8 = true) : decode c p = .ok (.iconst 5, 1) := by
  refine dec_in (q := p + 1) ?_ (l1 p)
  have e := by1_u h
  unfold Decoder.instr
  show Except.bind ((Reader.u1 : Decoder Nat) c p) _ = _
  rw [e]
  rfl
theorem o_9 {c : ByteArray} {p : Nat} (h : by1 c p 9 = true) : decode c p = .ok (.lconst 0, 1) := by
  refine dec_in (q := p + 1) ?_ (l1 p)
  have e := by1_u h
  unfold Decoder.instr
  show Except.bind ((Reader.u1 : Decoder Nat) c p) _ = _
  rw [e]
  rfl
theorem o_10 {c : ByteArray} {p : Nat} (h : by1 c p 10 = true) : decode c p = .ok (.lconst 1, 1) := by
  refine dec_in (q := p + 1) ?_ (l1 p)
  have e := by1_u h
  unfold Decoder.instr
  show Except.bind ((Reader.u1 : Decoder Nat) c p) _ = _
  rw [e]
  rfl
theorem o_16 {c : ByteArray} {p : Nat} {v : Int} (h : by2 c p 16 (opS1 v) = true) : decode c p = .ok (.bipush v, 2) := by
  refine dec_in (q := p + 1 + 1) ?_ (l2 p)
  obtain ⟨e, a, e2, hv⟩ := by2_u h
  have hv := of_decide_eq_true hv
  subst hv
  unfold Decoder.instr
  show Except.bind ((Reader.u1 : Decoder Nat) c p) _ = _
  rw [e]
  show Except.bind ((Reader.s1 : Decoder Int) c (p + 1)) _ = _; rw [s1_ok e2]; rfl
theorem o_17 {c : ByteArray} {p : Nat} {v : Int} (h : by3 c p 17 (opS2 v) = true) : decode c p = .ok (.sipush v, 3) := by
  refine dec_in (q := p + 1 + 1 + 1) ?_ (l3 p)
  obtain ⟨e, a, b, e2, e3, hv⟩ := by3_u h
  have hv := of_decide_eq_true hv
  subst hv
  unfold Decoder.instr
  show Except.bind ((Reader.u1 : Decoder Nat) c p) _ = _
  rw [e]
  show Except.bind ((Reader.s2 : Decoder Int) c (p + 1)) _ = _; rw [s2_ok e2 e3]; rfl
theorem o_18 {c : ByteArray} {p : Nat} {v : Nat} (h : by2 c p 18 (opU1 v) = true) : decode c p = .ok (.ldc v, 2) := by
  refine dec_in (q := p + 1 + 1) ?_ (l2 p)
  obtain ⟨e, a, e2, hv⟩ := by2_u h
  have hv := Nat.eq_of_beq_eq_true hv
  subst hv
  unfold Decoder.instr
  show Except.bind ((Reader.u1 : Decoder Nat) c p) _ = _
  rw [e]
  show Except.bind ((Reader.u1 : Decoder Nat) c (p + 1)) _ = _; rw [e2]; rfl
theorem o_19 {c : ByteArray} {p : Nat} {v : Nat} (h : by3 c p 19 (opU2 v) = true) : decode c p = .ok (.ldc_w v, 3) := by
  refine dec_in (q := p + 1 + 1 + 1) ?_ (l3 p)
  obtain ⟨e, a, b, e2, e3, hv⟩ := by3_u h
  have hv := Nat.eq_of_beq_eq_true hv
  subst hv
  unfold Decoder.instr
  show Except.bind ((Reader.u1 : Decoder Nat) c p) _ = _
  rw [e]
  show Except.bind ((Reader.u2 : Decoder Nat) c (p + 1)) _ = _; rw [u2_ok e2 e3]; rfl
theorem o_20 {c : ByteArray} {p : Nat} {v : Nat} (h : by3 c p 20 (opU2 v) = true) : decode c p = .ok (.ldc2_w v, 3) := by
  refine dec_in (q := p + 1 + 1 + 1) ?_ (l3 p)
  obtain ⟨e, a, b, e2, e3, hv⟩ := by3_u h
  have hv := Nat.eq_of_beq_eq_true hv
  subst hv
  unfold Decoder.instr
  show Except.bind ((Reader.u1 : Decoder Nat) c p) _ = _
  rw [e]
  show Except.bind ((Reader.u2 : Decoder Nat) c (p + 1)) _ = _; rw [u2_ok e2 e3]; rfl
theorem o_21 {c : ByteArray} {p : Nat} {v : Nat} (h : by2 c p 21 (opU1 v) = true) : decode c p = .ok (.iload v, 2) := by
  refine dec_in (q := p + 1 + 1) ?_ (l2 p)
  obtain ⟨e, a, e2, hv⟩ := by2_u h
  have hv := Nat.eq_of_beq_eq_true hv
  subst hv
  unfold Decoder.instr
  show Except.bind ((Reader.u1 : Decoder Nat) c p) _ = _
  rw [e]
  show Except.bind ((Reader.u1 : Decoder Nat) c (p + 1)) _ = _; rw [e2]; rfl
theorem o_25 {c : ByteArray} {p : Nat} {v : Nat} (h : by2 c p 25 (opU1 v) = true) : decode c p = .ok (.aload v, 2) := by
  refine dec_in (q := p + 1 + 1) ?_ (l2 p)
  obtain ⟨e, a, e2, hv⟩ := by2_u h
  have hv := Nat.eq_of_beq_eq_true hv
  subst hv
  unfold Decoder.instr
  show Except.bind ((Reader.u1 : Decoder Nat) c p) _ = _
  rw [e]
  show Except.bind ((Reader.u1 : Decoder Nat) c (p + 1)) _ = _; rw [e2]; rfl
theorem o_26 {c : ByteArray} {p : Nat} (h : by1 c p 26 = true) : decode c p = .ok (.iload_n 0, 1) := by
  refine dec_in (q := p + 1) ?_ (l1 p)
  have e := by1_u h
  unfold Decoder.instr
  show Except.bind ((Reader.u1 : Decoder Nat) c p) _ = _
  rw [e]
  rfl
theorem o_27 {c : ByteArray} {p : Nat} (h : by1 c p 27 = true) : decode c p = .ok (.iload_n 1, 1) := by
  refine dec_in (q := p + 1) ?_ (l1 p)
  have e := by1_u h
  unfold Decoder.instr
  show Except.bind ((Reader.u1 : Decoder Nat) c p) _ = _
  rw [e]
  rfl
theorem o_28 {c : ByteArray} {p : Nat} (h : by1 c p 28 = true) : decode c p = .ok (.iload_n 2, 1) := by
  refine dec_in (q := p + 1) ?_ (l1 p)
  have e := by1_u h
  unfold Decoder.instr
  show Except.bind ((Reader.u1 : Decoder Nat) c p) _ = _
  rw [e]
  rfl
theorem o_29 {c : ByteArray} {p : Nat} (h : by1 c p 29 = true) : decode c p = .ok (.iload_n 3, 1) := by
  refine dec_in (q := p + 1) ?_ (l1 p)
  have e := by1_u h
  unfold Decoder.instr
  show Except.bind ((Reader.u1 : Decoder Nat) c p) _ = _
  rw [e]
  rfl
theorem o_31 {c : ByteArray} {p : Nat} (h : by1 c p 31 = true) : decode c p = .ok (.lload_n 1, 1) := by
  refine dec_in (q := p + 1) ?_ (l1 p)
  have e := by1_u h
  unfold Decoder.instr
  show Except.bind ((Reader.u1 : Decoder Nat) c p) _ = _
  rw [e]
  rfl
theorem o_32 {c : ByteArray} {p : Nat} (h : by1 c p 32 = true) : decode c p = .ok (.lload_n 2, 1) := by
  refine dec_in (q := p + 1) ?_ (l1 p)
  have e := by1_u h
  unfold Decoder.instr
  show Except.bind ((Reader.u1 : Decoder Nat) c p) _ = _
  rw [e]
  rfl
theorem o_33 {c : ByteArray} {p : Nat} (h : by1 c p 33 = true) : decode c p = .ok (.lload_n 3, 1) := by
  refine dec_in (q := p + 1) ?_ (l1 p)
  have e := by1_u h
  unfold Decoder.instr
  show Except.bind ((Reader.u1 : Decoder Nat) c p) _ = _
  rw [e]
  rfl
theorem o_42 {c : ByteArray} {p : Nat} (h : by1 c p 42 = true) : decode c p = .ok (.aload_n 0, 1) := by
  refine dec_in (q := p + 1) ?_ (l1 p)
  have e := by1_u h
  unfold Decoder.instr
  show Except.bind ((Reader.u1 : Decoder Nat) c p) _ = _
  rw [e]
  rfl
theorem o_43 {c : ByteArray} {p : Nat} (h : by1 c p 43 = true) : decode c p = .ok (.aload_n 1, 1) := by
  refine dec_in (q := p + 1) ?_ (l1 p)
  have e := by1_u h
  unfold Decoder.instr
  show Except.bind ((Reader.u1 : Decoder Nat) c p) _ = _
  rw [e]
  rfl
theorem o_44 {c : ByteArray} {p : Nat} (h : by1 c p 44 = true) : decode c p = .ok (.aload_n 2, 1) := by
  refine dec_in (q := p + 1) ?_ (l1 p)
  have e := by1_u h
  unfold Decoder.instr
  show Except.bind ((Reader.u1 : Decoder Nat) c p) _ = _
  rw [e]
  rfl
theorem o_45 {c : ByteArray} {p : Nat} (h : by1 c p 45 = true) : decode c p = .ok (.aload_n 3, 1) := by
  refine dec_in (q := p + 1) ?_ (l1 p)
  have e := by1_u h
  unfold Decoder.instr
  show Except.bind ((Reader.u1 : Decoder Nat) c p) _ = _
  rw [e]
  rfl
theorem o_46 {c : ByteArray} {p : Nat} (h : by1 c p 46 = true) : decode c p = .ok (.iaload, 1) := by
  refine dec_in (q := p + 1) ?_ (l1 p)
  have e := by1_u h
  unfold Decoder.instr
  show Except.bind ((Reader.u1 : Decoder Nat) c p) _ = _
  rw [e]
  rfl
theorem o_47 {c : ByteArray} {p : Nat} (h : by1 c p 47 = true) : decode c p = .ok (.laload, 1) := by
  refine dec_in (q := p + 1) ?_ (l1 p)
  have e := by1_u h
  unfold Decoder.instr
  show Except.bind ((Reader.u1 : Decoder Nat) c p) _ = _
  rw [e]
  rfl
theorem o_50 {c : ByteArray} {p : Nat} (h : by1 c p 50 = true) : decode c p = .ok (.aaload, 1) := by
  refine dec_in (q := p + 1) ?_ (l1 p)
  have e := by1_u h
  unfold Decoder.instr
  show Except.bind ((Reader.u1 : Decoder Nat) c p) _ = _
  rw [e]
  rfl
theorem o_51 {c : ByteArray} {p : Nat} (h : by1 c p 51 = true) : decode c p = .ok (.baload, 1) := by
  refine dec_in (q := p + 1) ?_ (l1 p)
  have e := by1_u h
  unfold Decoder.instr
  show Except.bind ((Reader.u1 : Decoder Nat) c p) _ = _
  rw [e]
  rfl
theorem o_54 {c : ByteArray} {p : Nat} {v : Nat} (h : by2 c p 54 (opU1 v) = true) : decode c p = .ok (.istore v, 2) := by
  refine dec_in (q := p + 1 + 1) ?_ (l2 p)
  obtain ⟨e, a, e2, hv⟩ := by2_u h
  have hv := Nat.eq_of_beq_eq_true hv
  subst hv
  unfold Decoder.instr
  show Except.bind ((Reader.u1 : Decoder Nat) c p) _ = _
  rw [e]
  show Except.bind ((Reader.u1 : Decoder Nat) c (p + 1)) _ = _; rw [e2]; rfl
theorem o_58 {c : ByteArray} {p : Nat} {v : Nat} (h : by2 c p 58 (opU1 v) = true) : decode c p = .ok (.astore v, 2) := by
  refine dec_in (q := p + 1 + 1) ?_ (l2 p)
  obtain ⟨e, a, e2, hv⟩ := by2_u h
  have hv := Nat.eq_of_beq_eq_true hv
  subst hv
  unfold Decoder.instr
  show Except.bind ((Reader.u1 : Decoder Nat) c p) _ = _
  rw [e]
  show Except.bind ((Reader.u1 : Decoder Nat) c (p + 1)) _ = _; rw [e2]; rfl
theorem o_60 {c : ByteArray} {p : Nat} (h : by1 c p 60 = true) : decode c p = .ok (.istore_n 1, 1) := by
  refine dec_in (q := p + 1) ?_ (l1 p)
  have e := by1_u h
  unfold Decoder.instr
  show Except.bind ((Reader.u1 : Decoder Nat) c p) _ = _
  rw [e]
  rfl
theorem o_61 {c : ByteArray} {p : Nat} (h : by1 c p 61 = true) : decode c p = .ok (.istore_n 2, 1) := by
  refine dec_in (q := p + 1) ?_ (l1 p)
  have e := by1_u h
  unfold Decoder.instr
  show Except.bind ((Reader.u1 : Decoder Nat) c p) _ = _
  rw [e]
  rfl
theorem o_62 {c : ByteArray} {p : Nat} (h : by1 c p 62 = true) : decode c p = .ok (.istore_n 3, 1) := by
  refine dec_in (q := p + 1) ?_ (l1 p)
  have e := by1_u h
  unfold Decoder.instr
  show Except.bind ((Reader.u1 : Decoder Nat) c p) _ = _
  rw [e]
  rfl
theorem o_76 {c : ByteArray} {p : Nat} (h : by1 c p 76 = true) : decode c p = .ok (.astore_n 1, 1) := by
  refine dec_in (q := p + 1) ?_ (l1 p)
  have e := by1_u h
  unfold Decoder.instr
  show Except.bind ((Reader.u1 : Decoder Nat) c p) _ = _
  rw [e]
  rfl
theorem o_77 {c : ByteArray} {p : Nat} (h : by1 c p 77 = true) : decode c p = .ok (.astore_n 2, 1) := by
  refine dec_in (q := p + 1) ?_ (l1 p)
  have e := by1_u h
  unfold Decoder.instr
  show Except.bind ((Reader.u1 : Decoder Nat) c p) _ = _
  rw [e]
  rfl
theorem o_78 {c : ByteArray} {p : Nat} (h : by1 c p 78 = true) : decode c p = .ok (.astore_n 3, 1) := by
  refine dec_in (q := p + 1) ?_ (l1 p)
  have e := by1_u h
  unfold Decoder.instr
  show Except.bind ((Reader.u1 : Decoder Nat) c p) _ = _
  rw [e]
  rfl
theorem o_79 {c : ByteArray} {p : Nat} (h : by1 c p 79 = true) : decode c p = .ok (.iastore, 1) := by
  refine dec_in (q := p + 1) ?_ (l1 p)
  have e := by1_u h
  unfold Decoder.instr
  show Except.bind ((Reader.u1 : Decoder Nat) c p) _ = _
  rw [e]
  rfl
theorem o_80 {c : ByteArray} {p : Nat} (h : by1 c p 80 = true) : decode c p = .ok (.lastore, 1) := by
  refine dec_in (q := p + 1) ?_ (l1 p)
  have e := by1_u h
  unfold Decoder.instr
  show Except.bind ((Reader.u1 : Decoder Nat) c p) _ = _
  rw [e]
  rfl
theorem o_83 {c : ByteArray} {p : Nat} (h : by1 c p 83 = true) : decode c p = .ok (.aastore, 1) := by
  refine dec_in (q := p + 1) ?_ (l1 p)
  have e := by1_u h
  unfold Decoder.instr
  show Except.bind ((Reader.u1 : Decoder Nat) c p) _ = _
  rw [e]
  rfl
theorem o_84 {c : ByteArray} {p : Nat} (h : by1 c p 84 = true) : decode c p = .ok (.bastore, 1) := by
  refine dec_in (q := p + 1) ?_ (l1 p)
  have e := by1_u h
  unfold Decoder.instr
  show Except.bind ((Reader.u1 : Decoder Nat) c p) _ = _
  rw [e]
  rfl
theorem o_87 {c : ByteArray} {p : Nat} (h : by1 c p 87 = true) : decode c p = .ok (.pop, 1) := by
  refine dec_in (q := p + 1) ?_ (l1 p)
  have e := by1_u h
  unfold Decoder.instr
  show Except.bind ((Reader.u1 : Decoder Nat) c p) _ = _
  rw [e]
  rfl
theorem o_88 {c : ByteArray} {p : Nat} (h : by1 c p 88 = true) : decode c p = .ok (.pop2, 1) := by
  refine dec_in (q := p + 1) ?_ (l1 p)
  have e := by1_u h
  unfold Decoder.instr
  show Except.bind ((Reader.u1 : Decoder Nat) c p) _ = _
  rw [e]
  rfl
theorem o_89 {c : ByteArray} {p : Nat} (h : by1 c p 89 = true) : decode c p = .ok (.dup, 1) := by
  refine dec_in (q := p + 1) ?_ (l1 p)
  have e := by1_u h
  unfold Decoder.instr
  show Except.bind ((Reader.u1 : Decoder Nat) c p) _ = _
  rw [e]
  rfl
theorem o_92 {c : ByteArray} {p : Nat} (h : by1 c p 92 = true) : decode c p = .ok (.dup2, 1) := by
  refine dec_in (q := p + 1) ?_ (l1 p)
  have e := by1_u h
  unfold Decoder.instr
  show Except.bind ((Reader.u1 : Decoder Nat) c p) _ = _
  rw [e]
  rfl
theorem o_96 {c : ByteArray} {p : Nat} (h : by1 c p 96 = true) : decode c p = .ok (.iadd, 1) := by
  refine dec_in (q := p + 1) ?_ (l1 p)
  have e := by1_u h
  unfold Decoder.instr
  show Except.bind ((Reader.u1 : Decoder Nat) c p) _ = _
  rw [e]
  rfl
theorem o_100 {c : ByteArray} {p : Nat} (h : by1 c p 100 = true) : decode c p = .ok (.isub, 1) := by
  refine dec_in (q := p + 1) ?_ (l1 p)
  have e := by1_u h
  unfold Decoder.instr
  show Except.bind ((Reader.u1 : Decoder Nat) c p) _ = _
  rw [e]
  rfl
theorem o_104 {c : ByteArray} {p : Nat} (h : by1 c p 104 = true) : decode c p = .ok (.imul, 1) := by
  refine dec_in (q := p + 1) ?_ (l1 p)
  have e := by1_u h
  unfold Decoder.instr
  show Except.bind ((Reader.u1 : Decoder Nat) c p) _ = _
  rw [e]
  rfl
theorem o_108 {c : ByteArray} {p : Nat} (h : by1 c p 108 = true) : decode c p = .ok (.idiv, 1) := by
  refine dec_in (q := p + 1) ?_ (l1 p)
  have e := by1_u h
  unfold Decoder.instr
  show Except.bind ((Reader.u1 : Decoder Nat) c p) _ = _
  rw [e]
  rfl
theorem o_112 {c : ByteArray} {p : Nat} (h : by1 c p 112 = true) : decode c p = .ok (.irem, 1) := by
  refine dec_in (q := p + 1) ?_ (l1 p)
  have e := by1_u h
  unfold Decoder.instr
  show Except.bind ((Reader.u1 : Decoder Nat) c p) _ = _
  rw [e]
  rfl
theorem o_116 {c : ByteArray} {p : Nat} (h : by1 c p 116 = true) : decode c p = .ok (.ineg, 1) := by
  refine dec_in (q := p + 1) ?_ (l1 p)
  have e := by1_u h
  unfold Decoder.instr
  show Except.bind ((Reader.u1 : Decoder Nat) c p) _ = _
  rw [e]
  rfl
theorem o_120 {c : ByteArray} {p : Nat} (h : by1 c p 120 = true) : decode c p = .ok (.ishl, 1) := by
  refine dec_in (q := p + 1) ?_ (l1 p)
  have e := by1_u h
  unfold Decoder.instr
  show Except.bind ((Reader.u1 : Decoder Nat) c p) _ = _
  rw [e]
  rfl
theorem o_121 {c : ByteArray} {p : Nat} (h : by1 c p 121 = true) : decode c p = .ok (.lshl, 1) := by
  refine dec_in (q := p + 1) ?_ (l1 p)
  have e := by1_u h
  unfold Decoder.instr
  show Except.bind ((Reader.u1 : Decoder Nat) c p) _ = _
  rw [e]
  rfl
theorem o_122 {c : ByteArray} {p : Nat} (h : by1 c p 122 = true) : decode c p = .ok (.ishr, 1) := by
  refine dec_in (q := p + 1) ?_ (l1 p)
  have e := by1_u h
  unfold Decoder.instr
  show Except.bind ((Reader.u1 : Decoder Nat) c p) _ = _
  rw [e]
  rfl
theorem o_126 {c : ByteArray} {p : Nat} (h : by1 c p 126 = true) : decode c p = .ok (.iand, 1) := by
  refine dec_in (q := p + 1) ?_ (l1 p)
  have e := by1_u h
  unfold Decoder.instr
  show Except.bind ((Reader.u1 : Decoder Nat) c p) _ = _
  rw [e]
  rfl
theorem o_127 {c : ByteArray} {p : Nat} (h : by1 c p 127 = true) : decode c p = .ok (.land, 1) := by
  refine dec_in (q := p + 1) ?_ (l1 p)
  have e := by1_u h
  unfold Decoder.instr
  show Except.bind ((Reader.u1 : Decoder Nat) c p) _ = _
  rw [e]
  rfl
theorem o_128 {c : ByteArray} {p : Nat} (h : by1 c p 128 = true) : decode c p = .ok (.ior, 1) := by
  refine dec_in (q := p + 1) ?_ (l1 p)
  have e := by1_u h
  unfold Decoder.instr
  show Except.bind ((Reader.u1 : Decoder Nat) c p) _ = _
  rw [e]
  rfl
theorem o_129 {c : ByteArray} {p : Nat} (h : by1 c p 129 = true) : decode c p = .ok (.lor, 1) := by
  refine dec_in (q := p + 1) ?_ (l1 p)
  have e := by1_u h
  unfold Decoder.instr
  show Except.bind ((Reader.u1 : Decoder Nat) c p) _ = _
  rw [e]
  rfl
theorem o_130 {c : ByteArray} {p : Nat} (h : by1 c p 130 = true) : decode c p = .ok (.ixor, 1) := by
  refine dec_in (q := p + 1) ?_ (l1 p)
  have e := by1_u h
  unfold Decoder.instr
  show Except.bind ((Reader.u1 : Decoder Nat) c p) _ = _
  rw [e]
  rfl
theorem o_132 {c : ByteArray} {p k : Nat} {v : Int} (h : by3 c p 132 (opI k v) = true) : decode c p = .ok (.iinc k v, 3) := by
  refine dec_in (q := p + 1 + 1 + 1) ?_ (l3 p)
  obtain ⟨e, a, b, e2, e3, hv⟩ := by3_u h
  have hw := (Bool.and_eq_true _ _).mp hv
  have h1 := Nat.eq_of_beq_eq_true hw.1
  have h2 := of_decide_eq_true hw.2
  subst h1; subst h2
  unfold Decoder.instr
  show Except.bind ((Reader.u1 : Decoder Nat) c p) _ = _
  rw [e]
  show Except.bind ((Reader.u1 : Decoder Nat) c (p + 1)) _ = _; rw [e2]
  show Except.bind ((Reader.s1 : Decoder Int) c (p + 1 + 1)) _ = _; rw [s1_ok e3]; rfl
theorem o_133 {c : ByteArray} {p : Nat} (h : by1 c p 133 = true) : decode c p = .ok (.i2l, 1) := by
  refine dec_in (q := p + 1) ?_ (l1 p)
  have e := by1_u h
  unfold Decoder.instr
  show Except.bind ((Reader.u1 : Decoder Nat) c p) _ = _
  rw [e]
  rfl
theorem o_136 {c : ByteArray} {p : Nat} (h : by1 c p 136 = true) : decode c p = .ok (.l2i, 1) := by
  refine dec_in (q := p + 1) ?_ (l1 p)
  have e := by1_u h
  unfold Decoder.instr
  show Except.bind ((Reader.u1 : Decoder Nat) c p) _ = _
  rw [e]
  rfl
theorem o_145 {c : ByteArray} {p : Nat} (h : by1 c p 145 = true) : decode c p = .ok (.i2b, 1) := by
  refine dec_in (q := p + 1) ?_ (l1 p)
  have e := by1_u h
  unfold Decoder.instr
  show Except.bind ((Reader.u1 : Decoder Nat) c p) _ = _
  rw [e]
  rfl
theorem o_146 {c : ByteArray} {p : Nat} (h : by1 c p 146 = true) : decode c p = .ok (.i2c, 1) := by
  refine dec_in (q := p + 1) ?_ (l1 p)
  have e := by1_u h
  unfold Decoder.instr
  show Except.bind ((Reader.u1 : Decoder Nat) c p) _ = _
  rw [e]
  rfl
theorem o_147 {c : ByteArray} {p : Nat} (h : by1 c p 147 = true) : decode c p = .ok (.i2s, 1) := by
  refine dec_in (q := p + 1) ?_ (l1 p)
  have e := by1_u h
  unfold Decoder.instr
  show Except.bind ((Reader.u1 : Decoder Nat) c p) _ = _
  rw [e]
  rfl
theorem o_148 {c : ByteArray} {p : Nat} (h : by1 c p 148 = true) : decode c p = .ok (.lcmp, 1) := by
  refine dec_in (q := p + 1) ?_ (l1 p)
  have e := by1_u h
  unfold Decoder.instr
  show Except.bind ((Reader.u1 : Decoder Nat) c p) _ = _
  rw [e]
  rfl
theorem o_153 {c : ByteArray} {p : Nat} {v : Int} (h : by3 c p 153 (opS2 v) = true) : decode c p = .ok (.ifCond .eq v, 3) := by
  refine dec_in (q := p + 1 + 1 + 1) ?_ (l3 p)
  obtain ⟨e, a, b, e2, e3, hv⟩ := by3_u h
  have hv := of_decide_eq_true hv
  subst hv
  unfold Decoder.instr
  show Except.bind ((Reader.u1 : Decoder Nat) c p) _ = _
  rw [e]
  show Except.bind ((Reader.s2 : Decoder Int) c (p + 1)) _ = _; rw [s2_ok e2 e3]; rfl
theorem o_154 {c : ByteArray} {p : Nat} {v : Int} (h : by3 c p 154 (opS2 v) = true) : decode c p = .ok (.ifCond .ne v, 3) := by
  refine dec_in (q := p + 1 + 1 + 1) ?_ (l3 p)
  obtain ⟨e, a, b, e2, e3, hv⟩ := by3_u h
  have hv := of_decide_eq_true hv
  subst hv
  unfold Decoder.instr
  show Except.bind ((Reader.u1 : Decoder Nat) c p) _ = _
  rw [e]
  show Except.bind ((Reader.s2 : Decoder Int) c (p + 1)) _ = _; rw [s2_ok e2 e3]; rfl
theorem o_155 {c : ByteArray} {p : Nat} {v : Int} (h : by3 c p 155 (opS2 v) = true) : decode c p = .ok (.ifCond .lt v, 3) := by
  refine dec_in (q := p + 1 + 1 + 1) ?_ (l3 p)
  obtain ⟨e, a, b, e2, e3, hv⟩ := by3_u h
  have hv := of_decide_eq_true hv
  subst hv
  unfold Decoder.instr
  show Except.bind ((Reader.u1 : Decoder Nat) c p) _ = _
  rw [e]
  show Except.bind ((Reader.s2 : Decoder Int) c (p + 1)) _ = _; rw [s2_ok e2 e3]; rfl
theorem o_156 {c : ByteArray} {p : Nat} {v : Int} (h : by3 c p 156 (opS2 v) = true) : decode c p = .ok (.ifCond .ge v, 3) := by
  refine dec_in (q := p + 1 + 1 + 1) ?_ (l3 p)
  obtain ⟨e, a, b, e2, e3, hv⟩ := by3_u h
  have hv := of_decide_eq_true hv
  subst hv
  unfold Decoder.instr
  show Except.bind ((Reader.u1 : Decoder Nat) c p) _ = _
  rw [e]
  show Except.bind ((Reader.s2 : Decoder Int) c (p + 1)) _ = _; rw [s2_ok e2 e3]; rfl
theorem o_158 {c : ByteArray} {p : Nat} {v : Int} (h : by3 c p 158 (opS2 v) = true) : decode c p = .ok (.ifCond .le v, 3) := by
  refine dec_in (q := p + 1 + 1 + 1) ?_ (l3 p)
  obtain ⟨e, a, b, e2, e3, hv⟩ := by3_u h
  have hv := of_decide_eq_true hv
  subst hv
  unfold Decoder.instr
  show Except.bind ((Reader.u1 : Decoder Nat) c p) _ = _
  rw [e]
  show Except.bind ((Reader.s2 : Decoder Int) c (p + 1)) _ = _; rw [s2_ok e2 e3]; rfl
theorem o_159 {c : ByteArray} {p : Nat} {v : Int} (h : by3 c p 159 (opS2 v) = true) : decode c p = .ok (.if_icmp .eq v, 3) := by
  refine dec_in (q := p + 1 + 1 + 1) ?_ (l3 p)
  obtain ⟨e, a, b, e2, e3, hv⟩ := by3_u h
  have hv := of_decide_eq_true hv
  subst hv
  unfold Decoder.instr
  show Except.bind ((Reader.u1 : Decoder Nat) c p) _ = _
  rw [e]
  show Except.bind ((Reader.s2 : Decoder Int) c (p + 1)) _ = _; rw [s2_ok e2 e3]; rfl
theorem o_160 {c : ByteArray} {p : Nat} {v : Int} (h : by3 c p 160 (opS2 v) = true) : decode c p = .ok (.if_icmp .ne v, 3) := by
  refine dec_in (q := p + 1 + 1 + 1) ?_ (l3 p)
  obtain ⟨e, a, b, e2, e3, hv⟩ := by3_u h
  have hv := of_decide_eq_true hv
  subst hv
  unfold Decoder.instr
  show Except.bind ((Reader.u1 : Decoder Nat) c p) _ = _
  rw [e]
  show Except.bind ((Reader.s2 : Decoder Int) c (p + 1)) _ = _; rw [s2_ok e2 e3]; rfl
theorem o_161 {c : ByteArray} {p : Nat} {v : Int} (h : by3 c p 161 (opS2 v) = true) : decode c p = .ok (.if_icmp .lt v, 3) := by
  refine dec_in (q := p + 1 + 1 + 1) ?_ (l3 p)
  obtain ⟨e, a, b, e2, e3, hv⟩ := by3_u h
  have hv := of_decide_eq_true hv
  subst hv
  unfold Decoder.instr
  show Except.bind ((Reader.u1 : Decoder Nat) c p) _ = _
  rw [e]
  show Except.bind ((Reader.s2 : Decoder Int) c (p + 1)) _ = _; rw [s2_ok e2 e3]; rfl
theorem o_162 {c : ByteArray} {p : Nat} {v : Int} (h : by3 c p 162 (opS2 v) = true) : decode c p = .ok (.if_icmp .ge v, 3) := by
  refine dec_in (q := p + 1 + 1 + 1) ?_ (l3 p)
  obtain ⟨e, a, b, e2, e3, hv⟩ := by3_u h
  have hv := of_decide_eq_true hv
  subst hv
  unfold Decoder.instr
  show Except.bind ((Reader.u1 : Decoder Nat) c p) _ = _
  rw [e]
  show Except.bind ((Reader.s2 : Decoder Int) c (p + 1)) _ = _; rw [s2_ok e2 e3]; rfl
theorem o_163 {c : ByteArray} {p : Nat} {v : Int} (h : by3 c p 163 (opS2 v) = true) : decode c p = .ok (.if_icmp .gt v, 3) := by
  refine dec_in (q := p + 1 + 1 + 1) ?_ (l3 p)
  obtain ⟨e, a, b, e2, e3, hv⟩ := by3_u h
  have hv := of_decide_eq_true hv
  subst hv
  unfold Decoder.instr
  show Except.bind ((Reader.u1 : Decoder Nat) c p) _ = _
  rw [e]
  show Except.bind ((Reader.s2 : Decoder Int) c (p + 1)) _ = _; rw [s2_ok e2 e3]; rfl
theorem o_164 {c : ByteArray} {p : Nat} {v : Int} (h : by3 c p 164 (opS2 v) = true) : decode c p = .ok (.if_icmp .le v, 3) := by
  refine dec_in (q := p + 1 + 1 + 1) ?_ (l3 p)
  obtain ⟨e, a, b, e2, e3, hv⟩ := by3_u h
  have hv := of_decide_eq_true hv
  subst hv
  unfold Decoder.instr
  show Except.bind ((Reader.u1 : Decoder Nat) c p) _ = _
  rw [e]
  show Except.bind ((Reader.s2 : Decoder Int) c (p + 1)) _ = _; rw [s2_ok e2 e3]; rfl
theorem o_167 {c : ByteArray} {p : Nat} {v : Int} (h : by3 c p 167 (opS2 v) = true) : decode c p = .ok (.goto v, 3) := by
  refine dec_in (q := p + 1 + 1 + 1) ?_ (l3 p)
  obtain ⟨e, a, b, e2, e3, hv⟩ := by3_u h
  have hv := of_decide_eq_true hv
  subst hv
  unfold Decoder.instr
  show Except.bind ((Reader.u1 : Decoder Nat) c p) _ = _
  rw [e]
  show Except.bind ((Reader.s2 : Decoder Int) c (p + 1)) _ = _; rw [s2_ok e2 e3]; rfl
theorem o_172 {c : ByteArray} {p : Nat} (h : by1 c p 172 = true) : decode c p = .ok (.ireturn, 1) := by
  refine dec_in (q := p + 1) ?_ (l1 p)
  have e := by1_u h
  unfold Decoder.instr
  show Except.bind ((Reader.u1 : Decoder Nat) c p) _ = _
  rw [e]
  rfl
theorem o_173 {c : ByteArray} {p : Nat} (h : by1 c p 173 = true) : decode c p = .ok (.lreturn, 1) := by
  refine dec_in (q := p + 1) ?_ (l1 p)
  have e := by1_u h
  unfold Decoder.instr
  show Except.bind ((Reader.u1 : Decoder Nat) c p) _ = _
  rw [e]
  rfl
theorem o_176 {c : ByteArray} {p : Nat} (h : by1 c p 176 = true) : decode c p = .ok (.areturn, 1) := by
  refine dec_in (q := p + 1) ?_ (l1 p)
  have e := by1_u h
  unfold Decoder.instr
  show Except.bind ((Reader.u1 : Decoder Nat) c p) _ = _
  rw [e]
  rfl
theorem o_177 {c : ByteArray} {p : Nat} (h : by1 c p 177 = true) : decode c p = .ok (.return_, 1) := by
  refine dec_in (q := p + 1) ?_ (l1 p)
  have e := by1_u h
  unfold Decoder.instr
  show Except.bind ((Reader.u1 : Decoder Nat) c p) _ = _
  rw [e]
  rfl
theorem o_178 {c : ByteArray} {p : Nat} {v : Nat} (h : by3 c p 178 (opU2 v) = true) : decode c p = .ok (.getstatic v, 3) := by
  refine dec_in (q := p + 1 + 1 + 1) ?_ (l3 p)
  obtain ⟨e, a, b, e2, e3, hv⟩ := by3_u h
  have hv := Nat.eq_of_beq_eq_true hv
  subst hv
  unfold Decoder.instr
  show Except.bind ((Reader.u1 : Decoder Nat) c p) _ = _
  rw [e]
  show Except.bind ((Reader.u2 : Decoder Nat) c (p + 1)) _ = _; rw [u2_ok e2 e3]; rfl
theorem o_180 {c : ByteArray} {p : Nat} {v : Nat} (h : by3 c p 180 (opU2 v) = true) : decode c p = .ok (.getfield v, 3) := by
  refine dec_in (q := p + 1 + 1 + 1) ?_ (l3 p)
  obtain ⟨e, a, b, e2, e3, hv⟩ := by3_u h
  have hv := Nat.eq_of_beq_eq_true hv
  subst hv
  unfold Decoder.instr
  show Except.bind ((Reader.u1 : Decoder Nat) c p) _ = _
  rw [e]
  show Except.bind ((Reader.u2 : Decoder Nat) c (p + 1)) _ = _; rw [u2_ok e2 e3]; rfl
theorem o_181 {c : ByteArray} {p : Nat} {v : Nat} (h : by3 c p 181 (opU2 v) = true) : decode c p = .ok (.putfield v, 3) := by
  refine dec_in (q := p + 1 + 1 + 1) ?_ (l3 p)
  obtain ⟨e, a, b, e2, e3, hv⟩ := by3_u h
  have hv := Nat.eq_of_beq_eq_true hv
  subst hv
  unfold Decoder.instr
  show Except.bind ((Reader.u1 : Decoder Nat) c p) _ = _
  rw [e]
  show Except.bind ((Reader.u2 : Decoder Nat) c (p + 1)) _ = _; rw [u2_ok e2 e3]; rfl
theorem o_182 {c : ByteArray} {p : Nat} {v : Nat} (h : by3 c p 182 (opU2 v) = true) : decode c p = .ok (.invokevirtual v, 3) := by
  refine dec_in (q := p + 1 + 1 + 1) ?_ (l3 p)
  obtain ⟨e, a, b, e2, e3, hv⟩ := by3_u h
  have hv := Nat.eq_of_beq_eq_true hv
  subst hv
  unfold Decoder.instr
  show Except.bind ((Reader.u1 : Decoder Nat) c p) _ = _
  rw [e]
  show Except.bind ((Reader.u2 : Decoder Nat) c (p + 1)) _ = _; rw [u2_ok e2 e3]; rfl
theorem o_183 {c : ByteArray} {p : Nat} {v : Nat} (h : by3 c p 183 (opU2 v) = true) : decode c p = .ok (.invokespecial v, 3) := by
  refine dec_in (q := p + 1 + 1 + 1) ?_ (l3 p)
  obtain ⟨e, a, b, e2, e3, hv⟩ := by3_u h
  have hv := Nat.eq_of_beq_eq_true hv
  subst hv
  unfold Decoder.instr
  show Except.bind ((Reader.u1 : Decoder Nat) c p) _ = _
  rw [e]
  show Except.bind ((Reader.u2 : Decoder Nat) c (p + 1)) _ = _; rw [u2_ok e2 e3]; rfl
theorem o_184 {c : ByteArray} {p : Nat} {v : Nat} (h : by3 c p 184 (opU2 v) = true) : decode c p = .ok (.invokestatic v, 3) := by
  refine dec_in (q := p + 1 + 1 + 1) ?_ (l3 p)
  obtain ⟨e, a, b, e2, e3, hv⟩ := by3_u h
  have hv := Nat.eq_of_beq_eq_true hv
  subst hv
  unfold Decoder.instr
  show Except.bind ((Reader.u1 : Decoder Nat) c p) _ = _
  rw [e]
  show Except.bind ((Reader.u2 : Decoder Nat) c (p + 1)) _ = _; rw [u2_ok e2 e3]; rfl
theorem o_187 {c : ByteArray} {p : Nat} {v : Nat} (h : by3 c p 187 (opU2 v) = true) : decode c p = .ok (.new v, 3) := by
  refine dec_in (q := p + 1 + 1 + 1) ?_ (l3 p)
  obtain ⟨e, a, b, e2, e3, hv⟩ := by3_u h
  have hv := Nat.eq_of_beq_eq_true hv
  subst hv
  unfold Decoder.instr
  show Except.bind ((Reader.u1 : Decoder Nat) c p) _ = _
  rw [e]
  show Except.bind ((Reader.u2 : Decoder Nat) c (p + 1)) _ = _; rw [u2_ok e2 e3]; rfl
theorem o_189 {c : ByteArray} {p : Nat} {v : Nat} (h : by3 c p 189 (opU2 v) = true) : decode c p = .ok (.anewarray v, 3) := by
  refine dec_in (q := p + 1 + 1 + 1) ?_ (l3 p)
  obtain ⟨e, a, b, e2, e3, hv⟩ := by3_u h
  have hv := Nat.eq_of_beq_eq_true hv
  subst hv
  unfold Decoder.instr
  show Except.bind ((Reader.u1 : Decoder Nat) c p) _ = _
  rw [e]
  show Except.bind ((Reader.u2 : Decoder Nat) c (p + 1)) _ = _; rw [u2_ok e2 e3]; rfl
theorem o_190 {c : ByteArray} {p : Nat} (h : by1 c p 190 = true) : decode c p = .ok (.arraylength, 1) := by
  refine dec_in (q := p + 1) ?_ (l1 p)
  have e := by1_u h
  unfold Decoder.instr
  show Except.bind ((Reader.u1 : Decoder Nat) c p) _ = _
  rw [e]
  rfl
theorem o_193 {c : ByteArray} {p : Nat} {v : Nat} (h : by3 c p 193 (opU2 v) = true) : decode c p = .ok (.instanceof v, 3) := by
  refine dec_in (q := p + 1 + 1 + 1) ?_ (l3 p)
  obtain ⟨e, a, b, e2, e3, hv⟩ := by3_u h
  have hv := Nat.eq_of_beq_eq_true hv
  subst hv
  unfold Decoder.instr
  show Except.bind ((Reader.u1 : Decoder Nat) c p) _ = _
  rw [e]
  show Except.bind ((Reader.u2 : Decoder Nat) c (p + 1)) _ = _; rw [u2_ok e2 e3]; rfl
theorem o_198 {c : ByteArray} {p : Nat} {v : Int} (h : by3 c p 198 (opS2 v) = true) : decode c p = .ok (.ifnull v, 3) := by
  refine dec_in (q := p + 1 + 1 + 1) ?_ (l3 p)
  obtain ⟨e, a, b, e2, e3, hv⟩ := by3_u h
  have hv := of_decide_eq_true hv
  subst hv
  unfold Decoder.instr
  show Except.bind ((Reader.u1 : Decoder Nat) c p) _ = _
  rw [e]
  show Except.bind ((Reader.s2 : Decoder Int) c (p + 1)) _ = _; rw [s2_ok e2 e3]; rfl
theorem o_199 {c : ByteArray} {p : Nat} {v : Int} (h : by3 c p 199 (opS2 v) = true) : decode c p = .ok (.ifnonnull v, 3) := by
  refine dec_in (q := p + 1 + 1 + 1) ?_ (l3 p)
  obtain ⟨e, a, b, e2, e3, hv⟩ := by3_u h
  have hv := of_decide_eq_true hv
  subst hv
  unfold Decoder.instr
  show Except.bind ((Reader.u1 : Decoder Nat) c p) _ = _
  rw [e]
  show Except.bind ((Reader.s2 : Decoder Int) c (p + 1)) _ = _; rw [s2_ok e2 e3]; rfl
theorem on_boolean {c : ByteArray} {p : Nat} (h : by2 c p 188 (opU1 4) = true) : decode c p = .ok (.newarray .boolean, 2) := by
  refine dec_in (q := p + 1 + 1) ?_ (l2 p)
  obtain ⟨e, a, e2, hv⟩ := by2_u h
  have hv := Nat.eq_of_beq_eq_true hv
  subst hv
  unfold Decoder.instr
  show Except.bind ((Reader.u1 : Decoder Nat) c p) _ = _
  rw [e]
  show Except.bind ((Reader.u1 : Decoder Nat) c (p + 1)) _ = _; rw [e2]; rfl
theorem on_byte {c : ByteArray} {p : Nat} (h : by2 c p 188 (opU1 8) = true) : decode c p = .ok (.newarray .byte, 2) := by
  refine dec_in (q := p + 1 + 1) ?_ (l2 p)
  obtain ⟨e, a, e2, hv⟩ := by2_u h
  have hv := Nat.eq_of_beq_eq_true hv
  subst hv
  unfold Decoder.instr
  show Except.bind ((Reader.u1 : Decoder Nat) c p) _ = _
  rw [e]
  show Except.bind ((Reader.u1 : Decoder Nat) c (p + 1)) _ = _; rw [e2]; rfl
theorem on_int {c : ByteArray} {p : Nat} (h : by2 c p 188 (opU1 10) = true) : decode c p = .ok (.newarray .int, 2) := by
  refine dec_in (q := p + 1 + 1) ?_ (l2 p)
  obtain ⟨e, a, e2, hv⟩ := by2_u h
  have hv := Nat.eq_of_beq_eq_true hv
  subst hv
  unfold Decoder.instr
  show Except.bind ((Reader.u1 : Decoder Nat) c p) _ = _
  rw [e]
  show Except.bind ((Reader.u1 : Decoder Nat) c (p + 1)) _ = _; rw [e2]; rfl
theorem on_long {c : ByteArray} {p : Nat} (h : by2 c p 188 (opU1 11) = true) : decode c p = .ok (.newarray .long, 2) := by
  refine dec_in (q := p + 1 + 1) ?_ (l2 p)
  obtain ⟨e, a, e2, hv⟩ := by2_u h
  have hv := Nat.eq_of_beq_eq_true hv
  subst hv
  unfold Decoder.instr
  show Except.bind ((Reader.u1 : Decoder Nat) c p) _ = _
  rw [e]
  show Except.bind ((Reader.u1 : Decoder Nat) c (p + 1)) _ = _; rw [e2]; rfl
noncomputable def byl1 (l : List UInt8) (n : Nat) : Bool := match l with
  | x :: _ => Nat.beq x.toNat n
  | _ => false
noncomputable def byl2 (l : List UInt8) (n : Nat) (q : Nat → Bool) : Bool := match l with
  | x :: y :: _ => Nat.beq x.toNat n && q y.toNat
  | _ => false
noncomputable def byl3 (l : List UInt8) (n : Nat) (q : Nat → Nat → Bool) : Bool := match l with
  | x :: y :: z :: _ => Nat.beq x.toNat n && q y.toNat z.toNat
  | _ => false
theorem pre_at {L l : List UInt8} {k j m : Nat} (h : (L.drop k).take m = l) : l.drop j = (L.drop (k + j)).take (m - j) := by
  rw [← h, List.drop_take, List.drop_drop]
theorem by1_at {c : ByteArray} {k j m n : Nat} {l : List UInt8} (h : (c.data.toList.drop k).take m = l) (hb : byl1 (l.drop j) n = true) : by1 c (k + j) n = true := by
  rw [pre_at (j := j) h] at hb
  generalize m - j = w at hb
  unfold by1
  cases e : c.data.toList.drop (k + j) with
  | nil => rw [e, List.take_nil] at hb; cases hb
  | cons x r =>
    rw [e] at hb
    cases w with
    | zero => cases hb
    | succ i => exact hb
theorem by2_at {c : ByteArray} {k j m n : Nat} {q : Nat → Bool} {l : List UInt8} (h : (c.data.toList.drop k).take m = l) (hb : byl2 (l.drop j) n q = true) : by2 c (k + j) n q = true := by
  rw [pre_at (j := j) h] at hb
  generalize m - j = w at hb
  unfold by2
  rcases e : c.data.toList.drop (k + j) with _ | ⟨x, _ | ⟨y, r⟩⟩
  · rw [e, List.take_nil] at hb; cases hb
  · rw [e] at hb; rcases w with _ | i
    · cases hb
    · rw [List.take_succ_cons, List.take_nil] at hb; cases hb
  · rw [e] at hb; rcases w with _ | _ | i
    · cases hb
    · cases hb
    · exact hb
theorem by3_at {c : ByteArray} {k j m n : Nat} {q : Nat → Nat → Bool} {l : List UInt8} (h : (c.data.toList.drop k).take m = l) (hb : byl3 (l.drop j) n q = true) : by3 c (k + j) n q = true := by
  rw [pre_at (j := j) h] at hb
  generalize m - j = w at hb
  unfold by3
  rcases e : c.data.toList.drop (k + j) with _ | ⟨x, _ | ⟨y, _ | ⟨z, r⟩⟩⟩
  · rw [e, List.take_nil] at hb; cases hb
  · rw [e] at hb; rcases w with _ | i
    · cases hb
    · rw [List.take_succ_cons, List.take_nil] at hb; cases hb
  · rw [e] at hb; rcases w with _ | _ | i
    · cases hb
    · cases hb
    · rw [List.take_succ_cons, List.take_succ_cons, List.take_nil] at hb; cases hb
  · rw [e] at hb; rcases w with _ | _ | _ | i
    · cases hb
    · cases hb
    · cases hb
    · exact hb
