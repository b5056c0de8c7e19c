/-! WORDS OF THE TABLES, each by its place -/
theorem in_s {q : MethodName × Nat} (h : q ∈ lw_privs) : Cond.selects q.1.cls q.1 q.1 ∈ lw_tbl := List.mem_append_left _ (List.mem_map_of_mem (f := fun q : MethodName × Nat => Cond.selects q.1.cls q.1 q.1) h)
theorem in_1 {w : Cond} (h : w ∈ tables_1_1) : w ∈ lw_tbl := List.mem_append_right _ (List.mem_append_left _ h)
theorem in_2 {w : Cond} (h : w ∈ tables_1_2) : w ∈ lw_tbl := List.mem_append_right _ (List.mem_append_right _ (List.mem_append_left _ h))
theorem in_3 {w : Cond} (h : w ∈ tables_1_3) : w ∈ lw_tbl := List.mem_append_right _ (List.mem_append_right _ (List.mem_append_right _ (List.mem_append_left _ h)))
theorem in_4 {w : Cond} (h : w ∈ tables_1_4) : w ∈ lw_tbl := List.mem_append_right _ (List.mem_append_right _ (List.mem_append_right _ (List.mem_append_right _ (List.mem_append_left _ h))))
theorem in_5 {w : Cond} (h : w ∈ tables_1_5) : w ∈ lw_tbl := List.mem_append_right _ (List.mem_append_right _ (List.mem_append_right _ (List.mem_append_right _ (List.mem_append_right _ (List.mem_append_left _ h)))))
theorem in_6 {w : Cond} (h : w ∈ tables_1_6) : w ∈ lw_tbl := List.mem_append_right _ (List.mem_append_right _ (List.mem_append_right _ (List.mem_append_right _ (List.mem_append_right _ (List.mem_append_right _ (h))))))
theorem q1_0 : Cond.initialized RL ∈ zT := zT_in (in_1 (List.mem_of_getElem? (i := 0) (by decide +kernel))) rfl
theorem q1_1 : Cond.initialized RX9 ∈ zT := zT_in (in_1 (List.mem_of_getElem? (i := 1) (by decide +kernel))) rfl
theorem q1_2 : Cond.initialized RX6 ∈ zT := zT_in (in_1 (List.mem_of_getElem? (i := 2) (by decide +kernel))) rfl
theorem q1_3 : Cond.initialized RX5 ∈ zT := zT_in (in_1 (List.mem_of_getElem? (i := 3) (by decide +kernel))) rfl
theorem q1_4 : Cond.initialized RX8 ∈ zT := zT_in (in_1 (List.mem_of_getElem? (i := 4) (by decide +kernel))) rfl
theorem q1_5 : Cond.initialized RX0 ∈ zT := zT_in (in_1 (List.mem_of_getElem? (i := 5) (by decide +kernel))) rfl
theorem q1_6 : Cond.initialized RX7 ∈ zT := zT_in (in_1 (List.mem_of_getElem? (i := 6) (by decide +kernel))) rfl
theorem q1_7 : Cond.initialized RX4 ∈ zT := zT_in (in_1 (List.mem_of_getElem? (i := 7) (by decide +kernel))) rfl
theorem q1_8 : Cond.initialized RX1 ∈ zT := zT_in (in_1 (List.mem_of_getElem? (i := 8) (by decide +kernel))) rfl
theorem q1_9 : Cond.initialized RX2 ∈ zT := zT_in (in_1 (List.mem_of_getElem? (i := 9) (by decide +kernel))) rfl
theorem q1_10 : Cond.initialized RX3 ∈ zT := zT_in (in_1 (List.mem_of_getElem? (i := 10) (by decide +kernel))) rfl
theorem q1_11 : Cond.initialized RX10 ∈ zT := zT_in (in_1 (List.mem_of_getElem? (i := 11) (by decide +kernel))) rfl
theorem q1_12 : Cond.initialized RJ9 ∈ zT := zT_in (in_1 (List.mem_of_getElem? (i := 12) (by decide +kernel))) rfl
theorem q1_13 : Cond.initialized RJ6 ∈ zT := zT_in (in_1 (List.mem_of_getElem? (i := 13) (by decide +kernel))) rfl
theorem q1_14 : Cond.initialized RJ0 ∈ zT := zT_in (in_1 (List.mem_of_getElem? (i := 14) (by decide +kernel))) rfl
theorem q1_15 : Cond.initialized RJ1 ∈ zT := zT_in (in_1 (List.mem_of_getElem? (i := 15) (by decide +kernel))) rfl
theorem q1_16 : Cond.initialized RJ3 ∈ zT := zT_in (in_1 (List.mem_of_getElem? (i := 16) (by decide +kernel))) rfl
theorem q1_17 : Cond.initialized RJ2 ∈ zT := zT_in (in_1 (List.mem_of_getElem? (i := 17) (by decide +kernel))) rfl
theorem q1_18 : Cond.initialized RJ11 ∈ zT := zT_in (in_1 (List.mem_of_getElem? (i := 18) (by decide +kernel))) rfl
theorem q1_19 : Cond.initialized RJ10 ∈ zT := zT_in (in_1 (List.mem_of_getElem? (i := 19) (by decide +kernel))) rfl
theorem q1_20 : Cond.classLink RL 7 RX9 ∈ zT := zT_in (in_1 (List.mem_of_getElem? (i := 20) (by decide +kernel))) rfl
theorem q1_21 : Cond.instantiable RX9 11 ∈ zT := zT_in (in_1 (List.mem_of_getElem? (i := 21) (by decide +kernel))) rfl
theorem q1_22 : Cond.methodLink RL 9 yX9_init ∈ zT := zT_in (in_1 (List.mem_of_getElem? (i := 22) (by decide +kernel))) rfl
theorem q1_23 : Cond.instanceMethod yX9_init ∈ zT := zT_in (in_1 (List.mem_of_getElem? (i := 23) (by decide +kernel))) rfl
theorem q1_24 : Cond.code yX9_init cX9_init 2 none ∈ zT := zT_in (in_1 (List.mem_of_getElem? (i := 24) (by decide +kernel))) rfl
theorem q1_25 : Cond.methodLink RX9 3 objectInit ∈ zT := zT_in (in_1 (List.mem_of_getElem? (i := 25) (by decide +kernel))) rfl
theorem q1_26 : Cond.instanceMethod objectInit ∈ zT := zT_in (in_1 (List.mem_of_getElem? (i := 26) (by decide +kernel))) rfl
theorem q1_28 : Cond.classLink RX9 9 RX6 ∈ zT := zT_in (in_1 (List.mem_of_getElem? (i := 28) (by decide +kernel))) rfl
theorem q1_29 : Cond.instantiable RX6 2 ∈ zT := zT_in (in_1 (List.mem_of_getElem? (i := 29) (by decide +kernel))) rfl
theorem q1_30 : Cond.methodLink RX9 11 yX6_init ∈ zT := zT_in (in_1 (List.mem_of_getElem? (i := 30) (by decide +kernel))) rfl
theorem q1_31 : Cond.instanceMethod yX6_init ∈ zT := zT_in (in_1 (List.mem_of_getElem? (i := 31) (by decide +kernel))) rfl
theorem q1_32 : Cond.code yX6_init cX6_init 2 none ∈ zT := zT_in (in_1 (List.mem_of_getElem? (i := 32) (by decide +kernel))) rfl
theorem q1_33 : Cond.methodLink RX6 3 objectInit ∈ zT := zT_in (in_1 (List.mem_of_getElem? (i := 33) (by decide +kernel))) rfl
theorem q1_34 : Cond.classLink RX6 9 RX5 ∈ zT := zT_in (in_1 (List.mem_of_getElem? (i := 34) (by decide +kernel))) rfl
theorem q1_36 : Cond.instantiable RX5 4 ∈ zT := zT_in (in_1 (List.mem_of_getElem? (i := 36) (by decide +kernel))) rfl
theorem q1_38 : Cond.instanceMethod yX5_init ∈ zT := zT_in (in_1 (List.mem_of_getElem? (i := 38) (by decide +kernel))) rfl
theorem q1_39 : Cond.code yX5_init cX5_init 1 none ∈ zT := zT_in (in_1 (List.mem_of_getElem? (i := 39) (by decide +kernel))) rfl
theorem q1_40 : Cond.methodLink RX5 3 objectInit ∈ zT := zT_in (in_1 (List.mem_of_getElem? (i := 40) (by decide +kernel))) rfl
theorem q1_41 : Cond.fieldLink RX5 9 "MeanSafe$Text" "key" "I" ∈ zT := zT_in (in_1 (List.mem_of_getElem? (i := 41) (by decide +kernel))) rfl
theorem q1_42 : Cond.fieldLink RX1 77 "MeanSafe$Text" "key" "I" ∈ zT := zT_in (in_1 (List.mem_of_getElem? (i := 42) (by decide +kernel))) rfl
theorem q1_43 : Cond.fieldLink RX8 65 "MeanSafe$Text" "key" "I" ∈ zT := zT_in (in_1 (List.mem_of_getElem? (i := 43) (by decide +kernel))) rfl
theorem q1_44 : Cond.fieldLink RX9 240 "MeanSafe$Text" "key" "I" ∈ zT := zT_in (in_1 (List.mem_of_getElem? (i := 44) (by decide +kernel))) rfl
theorem q1_45 : Cond.fieldLink RX5 15 "MeanSafe$Text" "leaves" "I" ∈ zT := zT_in (in_1 (List.mem_of_getElem? (i := 45) (by decide +kernel))) rfl
theorem q1_46 : Cond.fieldLink RX1 45 "MeanSafe$Text" "leaves" "I" ∈ zT := zT_in (in_1 (List.mem_of_getElem? (i := 46) (by decide +kernel))) rfl
theorem q1_47 : Cond.fieldLink RX9 243 "MeanSafe$Text" "leaves" "I" ∈ zT := zT_in (in_1 (List.mem_of_getElem? (i := 47) (by decide +kernel))) rfl
theorem q1_48 : Cond.fieldLink RX5 18 "MeanSafe$Text" "length" "I" ∈ zT := zT_in (in_1 (List.mem_of_getElem? (i := 48) (by decide +kernel))) rfl
theorem q1_49 : Cond.fieldLink RX1 48 "MeanSafe$Text" "length" "I" ∈ zT := zT_in (in_1 (List.mem_of_getElem? (i := 49) (by decide +kernel))) rfl
theorem q1_50 : Cond.fieldLink RX6 22 "MeanSafe$Text" "length" "I" ∈ zT := zT_in (in_1 (List.mem_of_getElem? (i := 50) (by decide +kernel))) rfl
theorem q1_51 : Cond.fieldLink RX5 21 "MeanSafe$Text" "code" "[I" ∈ zT := zT_in (in_1 (List.mem_of_getElem? (i := 51) (by decide +kernel))) rfl
theorem q1_52 : Cond.fieldLink RX6 26 "MeanSafe$Text" "code" "[I" ∈ zT := zT_in (in_1 (List.mem_of_getElem? (i := 52) (by decide +kernel))) rfl
theorem q1_53 : Cond.lays RX5 "MeanSafe$Text" "key" "I" ∈ zT := zT_in (in_1 (List.mem_of_getElem? (i := 53) (by decide +kernel))) rfl
theorem q1_55 : Cond.lays RX5 "MeanSafe$Text" "leaves" "I" ∈ zT := zT_in (in_1 (List.mem_of_getElem? (i := 55) (by decide +kernel))) rfl
theorem q1_57 : Cond.lays RX5 "MeanSafe$Text" "length" "I" ∈ zT := zT_in (in_1 (List.mem_of_getElem? (i := 57) (by decide +kernel))) rfl
theorem q1_59 : Cond.laysFinal RX5 "MeanSafe$Text" "code" "[I" ∈ zT := zT_in (in_1 (List.mem_of_getElem? (i := 59) (by decide +kernel))) rfl
theorem q1_62 : Cond.arrayClass .int ∈ zT := zT_in (in_1 (List.mem_of_getElem? (i := 62) (by decide +kernel))) rfl
theorem q1_63 : Cond.fieldLink RX6 11 "MeanSafe$Texts" "all" "[LMeanSafe$Text;" ∈ zT := zT_in (in_1 (List.mem_of_getElem? (i := 63) (by decide +kernel))) rfl
theorem q1_64 : Cond.fieldLink RX8 59 "MeanSafe$Texts" "all" "[LMeanSafe$Text;" ∈ zT := zT_in (in_1 (List.mem_of_getElem? (i := 64) (by decide +kernel))) rfl
theorem q1_65 : Cond.fieldLink RX9 227 "MeanSafe$Texts" "all" "[LMeanSafe$Text;" ∈ zT := zT_in (in_1 (List.mem_of_getElem? (i := 65) (by decide +kernel))) rfl
theorem q1_66 : Cond.fieldLink RX6 17 "MeanSafe$Texts" "stack" "[I" ∈ zT := zT_in (in_1 (List.mem_of_getElem? (i := 66) (by decide +kernel))) rfl
theorem q1_67 : Cond.laysFinal RX6 "MeanSafe$Texts" "all" "[LMeanSafe$Text;" ∈ zT := zT_in (in_1 (List.mem_of_getElem? (i := 67) (by decide +kernel))) rfl
theorem q1_69 : Cond.laysFinal RX6 "MeanSafe$Texts" "stack" "[I" ∈ zT := zT_in (in_1 (List.mem_of_getElem? (i := 69) (by decide +kernel))) rfl
theorem q1_72 : Cond.classLink RX9 16 RX8 ∈ zT := zT_in (in_1 (List.mem_of_getElem? (i := 72) (by decide +kernel))) rfl
theorem q1_73 : Cond.instantiable RX8 12 ∈ zT := zT_in (in_1 (List.mem_of_getElem? (i := 73) (by decide +kernel))) rfl
theorem q1_74 : Cond.methodLink RX9 18 yX8_init ∈ zT := zT_in (in_1 (List.mem_of_getElem? (i := 74) (by decide +kernel))) rfl
theorem q1_75 : Cond.instanceMethod yX8_init ∈ zT := zT_in (in_1 (List.mem_of_getElem? (i := 75) (by decide +kernel))) rfl
theorem q1_76 : Cond.code yX8_init cX8_init 3 none ∈ zT := zT_in (in_1 (List.mem_of_getElem? (i := 76) (by decide +kernel))) rfl
theorem q1_77 : Cond.methodLink RX8 3 objectInit ∈ zT := zT_in (in_1 (List.mem_of_getElem? (i := 77) (by decide +kernel))) rfl
theorem q1_78 : Cond.classLink RX8 9 RX0 ∈ zT := zT_in (in_1 (List.mem_of_getElem? (i := 78) (by decide +kernel))) rfl
theorem q1_80 : Cond.instantiable RX0 7 ∈ zT := zT_in (in_1 (List.mem_of_getElem? (i := 80) (by decide +kernel))) rfl
theorem q1_82 : Cond.instanceMethod yX0_init ∈ zT := zT_in (in_1 (List.mem_of_getElem? (i := 82) (by decide +kernel))) rfl
theorem q1_83 : Cond.code yX0_init cX0_init 1 none ∈ zT := zT_in (in_1 (List.mem_of_getElem? (i := 83) (by decide +kernel))) rfl
theorem q1_84 : Cond.methodLink RX0 3 objectInit ∈ zT := zT_in (in_1 (List.mem_of_getElem? (i := 84) (by decide +kernel))) rfl
theorem q1_85 : Cond.fieldLink RX9 103 "MeanSafe$Person" "kind" "I" ∈ zT := zT_in (in_1 (List.mem_of_getElem? (i := 85) (by decide +kernel))) rfl
theorem q1_86 : Cond.fieldLink RX0 25 "MeanSafe$Person" "kind" "I" ∈ zT := zT_in (in_1 (List.mem_of_getElem? (i := 86) (by decide +kernel))) rfl
theorem q1_87 : Cond.fieldLink RX8 70 "MeanSafe$Person" "kind" "I" ∈ zT := zT_in (in_1 (List.mem_of_getElem? (i := 87) (by decide +kernel))) rfl
theorem q1_88 : Cond.fieldLink RX0 11 "MeanSafe$Person" "dial" "I" ∈ zT := zT_in (in_1 (List.mem_of_getElem? (i := 88) (by decide +kernel))) rfl
theorem q1_89 : Cond.fieldLink RX9 133 "MeanSafe$Person" "dial" "I" ∈ zT := zT_in (in_1 (List.mem_of_getElem? (i := 89) (by decide +kernel))) rfl
theorem q1_90 : Cond.fieldLink RX8 73 "MeanSafe$Person" "dial" "I" ∈ zT := zT_in (in_1 (List.mem_of_getElem? (i := 90) (by decide +kernel))) rfl
theorem q1_91 : Cond.fieldLink RX0 15 "MeanSafe$Person" "weight" "I" ∈ zT := zT_in (in_1 (List.mem_of_getElem? (i := 91) (by decide +kernel))) rfl
theorem q1_92 : Cond.fieldLink RX8 76 "MeanSafe$Person" "weight" "I" ∈ zT := zT_in (in_1 (List.mem_of_getElem? (i := 92) (by decide +kernel))) rfl
theorem q1_93 : Cond.fieldLink RX9 209 "MeanSafe$Person" "weight" "I" ∈ zT := zT_in (in_1 (List.mem_of_getElem? (i := 93) (by decide +kernel))) rfl
theorem q1_94 : Cond.fieldLink RX0 18 "MeanSafe$Person" "bias" "I" ∈ zT := zT_in (in_1 (List.mem_of_getElem? (i := 94) (by decide +kernel))) rfl
theorem q1_95 : Cond.fieldLink RX8 79 "MeanSafe$Person" "bias" "I" ∈ zT := zT_in (in_1 (List.mem_of_getElem? (i := 95) (by decide +kernel))) rfl
theorem q1_96 : Cond.fieldLink RX9 106 "MeanSafe$Person" "low" "I" ∈ zT := zT_in (in_1 (List.mem_of_getElem? (i := 96) (by decide +kernel))) rfl
theorem q1_97 : Cond.fieldLink RX0 28 "MeanSafe$Person" "low" "I" ∈ zT := zT_in (in_1 (List.mem_of_getElem? (i := 97) (by decide +kernel))) rfl
theorem q1_98 : Cond.fieldLink RX9 109 "MeanSafe$Person" "high" "I" ∈ zT := zT_in (in_1 (List.mem_of_getElem? (i := 98) (by decide +kernel))) rfl
theorem q1_99 : Cond.fieldLink RX0 31 "MeanSafe$Person" "high" "I" ∈ zT := zT_in (in_1 (List.mem_of_getElem? (i := 99) (by decide +kernel))) rfl
theorem q1_100 : Cond.fieldLink RX0 21 "MeanSafe$Person" "hears" "Z" ∈ zT := zT_in (in_1 (List.mem_of_getElem? (i := 100) (by decide +kernel))) rfl
theorem q1_101 : Cond.fieldLink RX8 82 "MeanSafe$Person" "hears" "Z" ∈ zT := zT_in (in_1 (List.mem_of_getElem? (i := 101) (by decide +kernel))) rfl
theorem q1_102 : Cond.lays RX0 "MeanSafe$Person" "kind" "I" ∈ zT := zT_in (in_1 (List.mem_of_getElem? (i := 102) (by decide +kernel))) rfl
theorem q1_104 : Cond.lays RX0 "MeanSafe$Person" "dial" "I" ∈ zT := zT_in (in_1 (List.mem_of_getElem? (i := 104) (by decide +kernel))) rfl
theorem q1_106 : Cond.lays RX0 "MeanSafe$Person" "weight" "I" ∈ zT := zT_in (in_1 (List.mem_of_getElem? (i := 106) (by decide +kernel))) rfl
theorem q1_108 : Cond.lays RX0 "MeanSafe$Person" "bias" "I" ∈ zT := zT_in (in_1 (List.mem_of_getElem? (i := 108) (by decide +kernel))) rfl
theorem q1_110 : Cond.lays RX0 "MeanSafe$Person" "low" "I" ∈ zT := zT_in (in_1 (List.mem_of_getElem? (i := 110) (by decide +kernel))) rfl
theorem q1_112 : Cond.lays RX0 "MeanSafe$Person" "high" "I" ∈ zT := zT_in (in_1 (List.mem_of_getElem? (i := 112) (by decide +kernel))) rfl
theorem q1_114 : Cond.lays RX0 "MeanSafe$Person" "hears" "Z" ∈ zT := zT_in (in_1 (List.mem_of_getElem? (i := 114) (by decide +kernel))) rfl
theorem q1_117 : Cond.fieldLink RX8 50 "MeanSafe$World" "texts" "LMeanSafe$Texts;" ∈ zT := zT_in (in_1 (List.mem_of_getElem? (i := 117) (by decide +kernel))) rfl
theorem q1_118 : Cond.fieldLink RX8 11 "MeanSafe$World" "people" "[LMeanSafe$Person;" ∈ zT := zT_in (in_1 (List.mem_of_getElem? (i := 118) (by decide +kernel))) rfl
theorem q1_119 : Cond.fieldLink RX9 99 "MeanSafe$World" "people" "[LMeanSafe$Person;" ∈ zT := zT_in (in_1 (List.mem_of_getElem? (i := 119) (by decide +kernel))) rfl
theorem q1_120 : Cond.fieldLink RX8 17 "MeanSafe$World" "size" "I" ∈ zT := zT_in (in_1 (List.mem_of_getElem? (i := 120) (by decide +kernel))) rfl
theorem q1_121 : Cond.fieldLink RX9 88 "MeanSafe$World" "size" "I" ∈ zT := zT_in (in_1 (List.mem_of_getElem? (i := 121) (by decide +kernel))) rfl
theorem q1_122 : Cond.fieldLink RX7 46 "MeanSafe$World" "size" "I" ∈ zT := zT_in (in_1 (List.mem_of_getElem? (i := 122) (by decide +kernel))) rfl
theorem q1_123 : Cond.fieldLink RX8 21 "MeanSafe$World" "number" "I" ∈ zT := zT_in (in_1 (List.mem_of_getElem? (i := 123) (by decide +kernel))) rfl
theorem q1_124 : Cond.fieldLink RX9 186 "MeanSafe$World" "number" "I" ∈ zT := zT_in (in_1 (List.mem_of_getElem? (i := 124) (by decide +kernel))) rfl
theorem q1_125 : Cond.fieldLink RX8 24 "MeanSafe$World" "law" "I" ∈ zT := zT_in (in_1 (List.mem_of_getElem? (i := 125) (by decide +kernel))) rfl
theorem q1_126 : Cond.fieldLink RX8 27 "MeanSafe$World" "drift" "I" ∈ zT := zT_in (in_1 (List.mem_of_getElem? (i := 126) (by decide +kernel))) rfl
theorem q1_127 : Cond.fieldLink RX8 30 "MeanSafe$World" "bolts" "I" ∈ zT := zT_in (in_1 (List.mem_of_getElem? (i := 127) (by decide +kernel))) rfl
theorem q1_128 : Cond.fieldLink RX9 203 "MeanSafe$World" "bolts" "I" ∈ zT := zT_in (in_1 (List.mem_of_getElem? (i := 128) (by decide +kernel))) rfl
theorem q1_129 : Cond.fieldLink RX8 33 "MeanSafe$World" "open" "Z" ∈ zT := zT_in (in_1 (List.mem_of_getElem? (i := 129) (by decide +kernel))) rfl
theorem q1_130 : Cond.fieldLink RX7 42 "MeanSafe$World" "open" "Z" ∈ zT := zT_in (in_1 (List.mem_of_getElem? (i := 130) (by decide +kernel))) rfl
theorem q1_131 : Cond.fieldLink RX9 189 "MeanSafe$World" "open" "Z" ∈ zT := zT_in (in_1 (List.mem_of_getElem? (i := 131) (by decide +kernel))) rfl
theorem q1_132 : Cond.fieldLink RX8 37 "MeanSafe$World" "tried" "I" ∈ zT := zT_in (in_1 (List.mem_of_getElem? (i := 132) (by decide +kernel))) rfl
theorem q1_133 : Cond.fieldLink RX9 164 "MeanSafe$World" "tried" "I" ∈ zT := zT_in (in_1 (List.mem_of_getElem? (i := 133) (by decide +kernel))) rfl
theorem q1_134 : Cond.fieldLink RX8 40 "MeanSafe$World" "z" "I" ∈ zT := zT_in (in_1 (List.mem_of_getElem? (i := 134) (by decide +kernel))) rfl
theorem q1_135 : Cond.fieldLink RX9 153 "MeanSafe$World" "z" "I" ∈ zT := zT_in (in_1 (List.mem_of_getElem? (i := 135) (by decide +kernel))) rfl
theorem q1_136 : Cond.fieldLink RX8 43 "MeanSafe$World" "textCount" "I" ∈ zT := zT_in (in_1 (List.mem_of_getElem? (i := 136) (by decide +kernel))) rfl
theorem q1_137 : Cond.fieldLink RX9 224 "MeanSafe$World" "textCount" "I" ∈ zT := zT_in (in_1 (List.mem_of_getElem? (i := 137) (by decide +kernel))) rfl
theorem q1_138 : Cond.fieldLink RX8 46 "MeanSafe$World" "laws" "[I" ∈ zT := zT_in (in_1 (List.mem_of_getElem? (i := 138) (by decide +kernel))) rfl
theorem q1_139 : Cond.laysFinal RX8 "MeanSafe$World" "texts" "LMeanSafe$Texts;" ∈ zT := zT_in (in_1 (List.mem_of_getElem? (i := 139) (by decide +kernel))) rfl
theorem q1_141 : Cond.laysFinal RX8 "MeanSafe$World" "people" "[LMeanSafe$Person;" ∈ zT := zT_in (in_1 (List.mem_of_getElem? (i := 141) (by decide +kernel))) rfl
theorem q1_143 : Cond.lays RX8 "MeanSafe$World" "size" "I" ∈ zT := zT_in (in_1 (List.mem_of_getElem? (i := 143) (by decide +kernel))) rfl
theorem q1_145 : Cond.lays RX8 "MeanSafe$World" "number" "I" ∈ zT := zT_in (in_1 (List.mem_of_getElem? (i := 145) (by decide +kernel))) rfl
theorem q1_147 : Cond.lays RX8 "MeanSafe$World" "law" "I" ∈ zT := zT_in (in_1 (List.mem_of_getElem? (i := 147) (by decide +kernel))) rfl
theorem q1_149 : Cond.lays RX8 "MeanSafe$World" "drift" "I" ∈ zT := zT_in (in_1 (List.mem_of_getElem? (i := 149) (by decide +kernel))) rfl
theorem q1_151 : Cond.lays RX8 "MeanSafe$World" "bolts" "I" ∈ zT := zT_in (in_1 (List.mem_of_getElem? (i := 151) (by decide +kernel))) rfl
theorem q1_153 : Cond.lays RX8 "MeanSafe$World" "open" "Z" ∈ zT := zT_in (in_1 (List.mem_of_getElem? (i := 153) (by decide +kernel))) rfl
theorem q1_155 : Cond.lays RX8 "MeanSafe$World" "tried" "I" ∈ zT := zT_in (in_1 (List.mem_of_getElem? (i := 155) (by decide +kernel))) rfl
theorem q1_157 : Cond.lays RX8 "MeanSafe$World" "z" "I" ∈ zT := zT_in (in_1 (List.mem_of_getElem? (i := 157) (by decide +kernel))) rfl
theorem q1_159 : Cond.lays RX8 "MeanSafe$World" "textCount" "I" ∈ zT := zT_in (in_1 (List.mem_of_getElem? (i := 159) (by decide +kernel))) rfl
theorem q1_161 : Cond.laysFinal RX8 "MeanSafe$World" "laws" "[I" ∈ zT := zT_in (in_1 (List.mem_of_getElem? (i := 161) (by decide +kernel))) rfl
theorem q1_164 : Cond.classLink RX9 28 RX7 ∈ zT := zT_in (in_1 (List.mem_of_getElem? (i := 164) (by decide +kernel))) rfl
theorem q1_165 : Cond.instantiable RX7 4 ∈ zT := zT_in (in_1 (List.mem_of_getElem? (i := 165) (by decide +kernel))) rfl
theorem q1_166 : Cond.methodLink RX9 30 yX7_init ∈ zT := zT_in (in_1 (List.mem_of_getElem? (i := 166) (by decide +kernel))) rfl
theorem q1_167 : Cond.instanceMethod yX7_init ∈ zT := zT_in (in_1 (List.mem_of_getElem? (i := 167) (by decide +kernel))) rfl
theorem q1_168 : Cond.code yX7_init cX7_init 3 none ∈ zT := zT_in (in_1 (List.mem_of_getElem? (i := 168) (by decide +kernel))) rfl
theorem q1_169 : Cond.methodLink RX7 3 objectInit ∈ zT := zT_in (in_1 (List.mem_of_getElem? (i := 169) (by decide +kernel))) rfl
theorem q1_170 : Cond.classLink RX7 9 RX8 ∈ zT := zT_in (in_1 (List.mem_of_getElem? (i := 170) (by decide +kernel))) rfl
theorem q1_172 : Cond.classLink RX7 17 "[[I" ∈ zT := zT_in (in_1 (List.mem_of_getElem? (i := 172) (by decide +kernel))) rfl
theorem q1_174 : Cond.methodLink RX7 29 yX8_init ∈ zT := zT_in (in_1 (List.mem_of_getElem? (i := 174) (by decide +kernel))) rfl
theorem q1_175 : Cond.fieldLink RX7 11 "MeanSafe$Thought" "worlds" "[LMeanSafe$World;" ∈ zT := zT_in (in_1 (List.mem_of_getElem? (i := 175) (by decide +kernel))) rfl
theorem q1_176 : Cond.fieldLink RX7 19 "MeanSafe$Thought" "groups" "[[I" ∈ zT := zT_in (in_1 (List.mem_of_getElem? (i := 176) (by decide +kernel))) rfl
theorem q1_177 : Cond.fieldLink RX7 22 "MeanSafe$Thought" "sizes" "[I" ∈ zT := zT_in (in_1 (List.mem_of_getElem? (i := 177) (by decide +kernel))) rfl
theorem q1_178 : Cond.fieldLink RX7 26 "MeanSafe$Thought" "needed" "[I" ∈ zT := zT_in (in_1 (List.mem_of_getElem? (i := 178) (by decide +kernel))) rfl
theorem q1_179 : Cond.fieldLink RX9 179 "MeanSafe$Thought" "needed" "[I" ∈ zT := zT_in (in_1 (List.mem_of_getElem? (i := 179) (by decide +kernel))) rfl
theorem q1_180 : Cond.laysFinal RX7 "MeanSafe$Thought" "worlds" "[LMeanSafe$World;" ∈ zT := zT_in (in_1 (List.mem_of_getElem? (i := 180) (by decide +kernel))) rfl
theorem q1_182 : Cond.laysFinal RX7 "MeanSafe$Thought" "groups" "[[I" ∈ zT := zT_in (in_1 (List.mem_of_getElem? (i := 182) (by decide +kernel))) rfl
theorem q1_184 : Cond.laysFinal RX7 "MeanSafe$Thought" "sizes" "[I" ∈ zT := zT_in (in_1 (List.mem_of_getElem? (i := 184) (by decide +kernel))) rfl
theorem q1_186 : Cond.laysFinal RX7 "MeanSafe$Thought" "needed" "[I" ∈ zT := zT_in (in_1 (List.mem_of_getElem? (i := 186) (by decide +kernel))) rfl
theorem q1_189 : Cond.classLink RX9 35 RX4 ∈ zT := zT_in (in_1 (List.mem_of_getElem? (i := 189) (by decide +kernel))) rfl
theorem q1_190 : Cond.instantiable RX4 2 ∈ zT := zT_in (in_1 (List.mem_of_getElem? (i := 190) (by decide +kernel))) rfl
theorem q1_192 : Cond.instanceMethod yX4_init ∈ zT := zT_in (in_1 (List.mem_of_getElem? (i := 192) (by decide +kernel))) rfl
theorem q1_193 : Cond.code yX4_init cX4_init 1 none ∈ zT := zT_in (in_1 (List.mem_of_getElem? (i := 193) (by decide +kernel))) rfl
theorem q1_194 : Cond.methodLink RX4 3 objectInit ∈ zT := zT_in (in_1 (List.mem_of_getElem? (i := 194) (by decide +kernel))) rfl
theorem q1_195 : Cond.fieldLink RX4 9 "MeanSafe$Tape" "bytes" "[I" ∈ zT := zT_in (in_1 (List.mem_of_getElem? (i := 195) (by decide +kernel))) rfl
theorem q1_196 : Cond.fieldLink RX4 15 "MeanSafe$Tape" "length" "I" ∈ zT := zT_in (in_1 (List.mem_of_getElem? (i := 196) (by decide +kernel))) rfl
theorem q1_197 : Cond.fieldLink RX1 61 "MeanSafe$Tape" "length" "I" ∈ zT := zT_in (in_1 (List.mem_of_getElem? (i := 197) (by decide +kernel))) rfl
theorem q1_198 : Cond.fieldLink RX9 212 "MeanSafe$Tape" "length" "I" ∈ zT := zT_in (in_1 (List.mem_of_getElem? (i := 198) (by decide +kernel))) rfl
theorem q1_199 : Cond.laysFinal RX4 "MeanSafe$Tape" "bytes" "[I" ∈ zT := zT_in (in_1 (List.mem_of_getElem? (i := 199) (by decide +kernel))) rfl
theorem q1_201 : Cond.lays RX4 "MeanSafe$Tape" "length" "I" ∈ zT := zT_in (in_1 (List.mem_of_getElem? (i := 201) (by decide +kernel))) rfl
theorem q1_204 : Cond.classLink RX9 42 RX1 ∈ zT := zT_in (in_1 (List.mem_of_getElem? (i := 204) (by decide +kernel))) rfl
theorem q1_205 : Cond.instantiable RX1 9 ∈ zT := zT_in (in_1 (List.mem_of_getElem? (i := 205) (by decide +kernel))) rfl
theorem q1_206 : Cond.methodLink RX9 44 yX1_init ∈ zT := zT_in (in_1 (List.mem_of_getElem? (i := 206) (by decide +kernel))) rfl
theorem q1_207 : Cond.instanceMethod yX1_init ∈ zT := zT_in (in_1 (List.mem_of_getElem? (i := 207) (by decide +kernel))) rfl
theorem q1_208 : Cond.code yX1_init cX1_init 2 none ∈ zT := zT_in (in_1 (List.mem_of_getElem? (i := 208) (by decide +kernel))) rfl
theorem q1_209 : Cond.methodLink RX1 3 objectInit ∈ zT := zT_in (in_1 (List.mem_of_getElem? (i := 209) (by decide +kernel))) rfl
theorem q1_210 : Cond.classLink RX1 9 RX5 ∈ zT := zT_in (in_1 (List.mem_of_getElem? (i := 210) (by decide +kernel))) rfl
theorem q1_212 : Cond.fieldLink RX1 41 "MeanSafe$Reader" "tape" "LMeanSafe$Tape;" ∈ zT := zT_in (in_1 (List.mem_of_getElem? (i := 212) (by decide +kernel))) rfl
theorem q1_213 : Cond.fieldLink RX1 12 "MeanSafe$Reader" "read" "LMeanSafe$Text;" ∈ zT := zT_in (in_1 (List.mem_of_getElem? (i := 213) (by decide +kernel))) rfl
theorem q1_214 : Cond.fieldLink RX5 25 "MeanSafe$Reader" "read" "LMeanSafe$Text;" ∈ zT := zT_in (in_1 (List.mem_of_getElem? (i := 214) (by decide +kernel))) rfl
theorem q1_215 : Cond.fieldLink RX1 18 "MeanSafe$Reader" "start" "I" ∈ zT := zT_in (in_1 (List.mem_of_getElem? (i := 215) (by decide +kernel))) rfl
theorem q1_216 : Cond.fieldLink RX9 221 "MeanSafe$Reader" "start" "I" ∈ zT := zT_in (in_1 (List.mem_of_getElem? (i := 216) (by decide +kernel))) rfl
theorem q1_217 : Cond.fieldLink RX1 22 "MeanSafe$Reader" "end" "I" ∈ zT := zT_in (in_1 (List.mem_of_getElem? (i := 217) (by decide +kernel))) rfl
theorem q1_218 : Cond.fieldLink RX1 25 "MeanSafe$Reader" "sort" "I" ∈ zT := zT_in (in_1 (List.mem_of_getElem? (i := 218) (by decide +kernel))) rfl
theorem q1_219 : Cond.fieldLink RX1 28 "MeanSafe$Reader" "glued" "Z" ∈ zT := zT_in (in_1 (List.mem_of_getElem? (i := 219) (by decide +kernel))) rfl
theorem q1_220 : Cond.fieldLink RX1 32 "MeanSafe$Reader" "failed" "Z" ∈ zT := zT_in (in_1 (List.mem_of_getElem? (i := 220) (by decide +kernel))) rfl
theorem q1_221 : Cond.fieldLink RX1 35 "MeanSafe$Reader" "brackets" "I" ∈ zT := zT_in (in_1 (List.mem_of_getElem? (i := 221) (by decide +kernel))) rfl
theorem q1_222 : Cond.fieldLink RX1 38 "MeanSafe$Reader" "nots" "I" ∈ zT := zT_in (in_1 (List.mem_of_getElem? (i := 222) (by decide +kernel))) rfl
theorem q1_223 : Cond.laysFinal RX1 "MeanSafe$Reader" "tape" "LMeanSafe$Tape;" ∈ zT := zT_in (in_1 (List.mem_of_getElem? (i := 223) (by decide +kernel))) rfl
theorem q1_225 : Cond.laysFinal RX1 "MeanSafe$Reader" "read" "LMeanSafe$Text;" ∈ zT := zT_in (in_1 (List.mem_of_getElem? (i := 225) (by decide +kernel))) rfl
theorem q1_227 : Cond.lays RX1 "MeanSafe$Reader" "start" "I" ∈ zT := zT_in (in_1 (List.mem_of_getElem? (i := 227) (by decide +kernel))) rfl
theorem q1_229 : Cond.lays RX1 "MeanSafe$Reader" "end" "I" ∈ zT := zT_in (in_1 (List.mem_of_getElem? (i := 229) (by decide +kernel))) rfl
theorem q1_231 : Cond.lays RX1 "MeanSafe$Reader" "sort" "I" ∈ zT := zT_in (in_1 (List.mem_of_getElem? (i := 231) (by decide +kernel))) rfl
theorem q1_233 : Cond.lays RX1 "MeanSafe$Reader" "glued" "Z" ∈ zT := zT_in (in_1 (List.mem_of_getElem? (i := 233) (by decide +kernel))) rfl
theorem q1_235 : Cond.lays RX1 "MeanSafe$Reader" "failed" "Z" ∈ zT := zT_in (in_1 (List.mem_of_getElem? (i := 235) (by decide +kernel))) rfl
theorem q1_237 : Cond.lays RX1 "MeanSafe$Reader" "brackets" "I" ∈ zT := zT_in (in_1 (List.mem_of_getElem? (i := 237) (by decide +kernel))) rfl
theorem q1_239 : Cond.lays RX1 "MeanSafe$Reader" "nots" "I" ∈ zT := zT_in (in_1 (List.mem_of_getElem? (i := 239) (by decide +kernel))) rfl
theorem q2_2 : Cond.classLink RX9 51 RX2 ∈ zT := zT_in (in_2 (List.mem_of_getElem? (i := 2) (by decide +kernel))) rfl
theorem q2_4 : Cond.classLink RX9 57 RX3 ∈ zT := zT_in (in_2 (List.mem_of_getElem? (i := 4) (by decide +kernel))) rfl
theorem q2_6 : Cond.instantiable RX2 3 ∈ zT := zT_in (in_2 (List.mem_of_getElem? (i := 6) (by decide +kernel))) rfl
theorem q2_8 : Cond.instanceMethod yX2_init ∈ zT := zT_in (in_2 (List.mem_of_getElem? (i := 8) (by decide +kernel))) rfl
theorem q2_9 : Cond.code yX2_init cX2_init 1 none ∈ zT := zT_in (in_2 (List.mem_of_getElem? (i := 9) (by decide +kernel))) rfl
theorem q2_10 : Cond.methodLink RX2 3 objectInit ∈ zT := zT_in (in_2 (List.mem_of_getElem? (i := 10) (by decide +kernel))) rfl
theorem q2_11 : Cond.fieldLink RX2 9 "MeanSafe$Sheet" "sort" "I" ∈ zT := zT_in (in_2 (List.mem_of_getElem? (i := 11) (by decide +kernel))) rfl
theorem q2_12 : Cond.fieldLink RX9 195 "MeanSafe$Sheet" "sort" "I" ∈ zT := zT_in (in_2 (List.mem_of_getElem? (i := 12) (by decide +kernel))) rfl
theorem q2_13 : Cond.fieldLink RX2 15 "MeanSafe$Sheet" "size" "I" ∈ zT := zT_in (in_2 (List.mem_of_getElem? (i := 13) (by decide +kernel))) rfl
theorem q2_14 : Cond.fieldLink RX8 144 "MeanSafe$Sheet" "size" "I" ∈ zT := zT_in (in_2 (List.mem_of_getElem? (i := 14) (by decide +kernel))) rfl
theorem q2_15 : Cond.fieldLink RX9 259 "MeanSafe$Sheet" "size" "I" ∈ zT := zT_in (in_2 (List.mem_of_getElem? (i := 15) (by decide +kernel))) rfl
theorem q2_16 : Cond.fieldLink RX2 18 "MeanSafe$Sheet" "places" "[I" ∈ zT := zT_in (in_2 (List.mem_of_getElem? (i := 16) (by decide +kernel))) rfl
theorem q2_17 : Cond.fieldLink RX8 147 "MeanSafe$Sheet" "places" "[I" ∈ zT := zT_in (in_2 (List.mem_of_getElem? (i := 17) (by decide +kernel))) rfl
theorem q2_18 : Cond.fieldLink RX9 254 "MeanSafe$Sheet" "places" "[I" ∈ zT := zT_in (in_2 (List.mem_of_getElem? (i := 18) (by decide +kernel))) rfl
theorem q2_19 : Cond.lays RX2 "MeanSafe$Sheet" "sort" "I" ∈ zT := zT_in (in_2 (List.mem_of_getElem? (i := 19) (by decide +kernel))) rfl
theorem q2_21 : Cond.lays RX2 "MeanSafe$Sheet" "size" "I" ∈ zT := zT_in (in_2 (List.mem_of_getElem? (i := 21) (by decide +kernel))) rfl
theorem q2_23 : Cond.laysFinal RX2 "MeanSafe$Sheet" "places" "[I" ∈ zT := zT_in (in_2 (List.mem_of_getElem? (i := 23) (by decide +kernel))) rfl
theorem q2_26 : Cond.instantiable RX3 4 ∈ zT := zT_in (in_2 (List.mem_of_getElem? (i := 26) (by decide +kernel))) rfl
theorem q2_28 : Cond.instanceMethod yX3_init ∈ zT := zT_in (in_2 (List.mem_of_getElem? (i := 28) (by decide +kernel))) rfl
theorem q2_29 : Cond.code yX3_init cX3_init 1 none ∈ zT := zT_in (in_2 (List.mem_of_getElem? (i := 29) (by decide +kernel))) rfl
theorem q2_30 : Cond.methodLink RX3 3 objectInit ∈ zT := zT_in (in_2 (List.mem_of_getElem? (i := 30) (by decide +kernel))) rfl
theorem q2_31 : Cond.classLink RX3 15 RX0 ∈ zT := zT_in (in_2 (List.mem_of_getElem? (i := 31) (by decide +kernel))) rfl
theorem q2_33 : Cond.classLink RX3 22 RX2 ∈ zT := zT_in (in_2 (List.mem_of_getElem? (i := 33) (by decide +kernel))) rfl
theorem q2_35 : Cond.fieldLink RX3 9 "MeanSafe$Slot" "thing" "I" ∈ zT := zT_in (in_2 (List.mem_of_getElem? (i := 35) (by decide +kernel))) rfl
theorem q2_36 : Cond.fieldLink RX9 275 "MeanSafe$Slot" "thing" "I" ∈ zT := zT_in (in_2 (List.mem_of_getElem? (i := 36) (by decide +kernel))) rfl
theorem q2_37 : Cond.fieldLink RX3 18 "MeanSafe$Slot" "one" "LMeanSafe$Person;" ∈ zT := zT_in (in_2 (List.mem_of_getElem? (i := 37) (by decide +kernel))) rfl
theorem q2_38 : Cond.fieldLink RX9 278 "MeanSafe$Slot" "one" "LMeanSafe$Person;" ∈ zT := zT_in (in_2 (List.mem_of_getElem? (i := 38) (by decide +kernel))) rfl
theorem q2_39 : Cond.fieldLink RX3 25 "MeanSafe$Slot" "sheet" "LMeanSafe$Sheet;" ∈ zT := zT_in (in_2 (List.mem_of_getElem? (i := 39) (by decide +kernel))) rfl
theorem q2_40 : Cond.fieldLink RX9 285 "MeanSafe$Slot" "sheet" "LMeanSafe$Sheet;" ∈ zT := zT_in (in_2 (List.mem_of_getElem? (i := 40) (by decide +kernel))) rfl
theorem q2_41 : Cond.fieldLink RX3 29 "MeanSafe$Slot" "number" "I" ∈ zT := zT_in (in_2 (List.mem_of_getElem? (i := 41) (by decide +kernel))) rfl
theorem q2_42 : Cond.fieldLink RX9 292 "MeanSafe$Slot" "number" "I" ∈ zT := zT_in (in_2 (List.mem_of_getElem? (i := 42) (by decide +kernel))) rfl
theorem q2_43 : Cond.lays RX3 "MeanSafe$Slot" "thing" "I" ∈ zT := zT_in (in_2 (List.mem_of_getElem? (i := 43) (by decide +kernel))) rfl
theorem q2_45 : Cond.laysFinal RX3 "MeanSafe$Slot" "one" "LMeanSafe$Person;" ∈ zT := zT_in (in_2 (List.mem_of_getElem? (i := 45) (by decide +kernel))) rfl
theorem q2_47 : Cond.laysFinal RX3 "MeanSafe$Slot" "sheet" "LMeanSafe$Sheet;" ∈ zT := zT_in (in_2 (List.mem_of_getElem? (i := 47) (by decide +kernel))) rfl
theorem q2_49 : Cond.lays RX3 "MeanSafe$Slot" "number" "I" ∈ zT := zT_in (in_2 (List.mem_of_getElem? (i := 49) (by decide +kernel))) rfl
theorem q2_52 : Cond.fieldLink RX9 12 "MeanSafe" "texts" "LMeanSafe$Texts;" ∈ zT := zT_in (in_2 (List.mem_of_getElem? (i := 52) (by decide +kernel))) rfl
theorem q2_53 : Cond.fieldLink RX9 21 "MeanSafe" "now" "LMeanSafe$World;" ∈ zT := zT_in (in_2 (List.mem_of_getElem? (i := 53) (by decide +kernel))) rfl
theorem q2_54 : Cond.fieldLink RX9 25 "MeanSafe" "image" "LMeanSafe$World;" ∈ zT := zT_in (in_2 (List.mem_of_getElem? (i := 54) (by decide +kernel))) rfl
theorem q2_55 : Cond.fieldLink RX9 31 "MeanSafe" "thought" "LMeanSafe$Thought;" ∈ zT := zT_in (in_2 (List.mem_of_getElem? (i := 55) (by decide +kernel))) rfl
theorem q2_56 : Cond.fieldLink RX9 38 "MeanSafe" "tape" "LMeanSafe$Tape;" ∈ zT := zT_in (in_2 (List.mem_of_getElem? (i := 56) (by decide +kernel))) rfl
theorem q2_57 : Cond.fieldLink RX9 47 "MeanSafe" "reader" "LMeanSafe$Reader;" ∈ zT := zT_in (in_2 (List.mem_of_getElem? (i := 57) (by decide +kernel))) rfl
theorem q2_58 : Cond.fieldLink RX9 53 "MeanSafe" "sheets" "[LMeanSafe$Sheet;" ∈ zT := zT_in (in_2 (List.mem_of_getElem? (i := 58) (by decide +kernel))) rfl
theorem q2_59 : Cond.fieldLink RX9 59 "MeanSafe" "slots" "[LMeanSafe$Slot;" ∈ zT := zT_in (in_2 (List.mem_of_getElem? (i := 59) (by decide +kernel))) rfl
theorem q2_60 : Cond.fieldLink RX9 63 "MeanSafe" "waits" "[I" ∈ zT := zT_in (in_2 (List.mem_of_getElem? (i := 60) (by decide +kernel))) rfl
theorem q2_61 : Cond.fieldLink RX9 67 "MeanSafe" "waiting" "I" ∈ zT := zT_in (in_2 (List.mem_of_getElem? (i := 61) (by decide +kernel))) rfl
theorem q2_62 : Cond.fieldLink RX9 71 "MeanSafe" "kept" "Z" ∈ zT := zT_in (in_2 (List.mem_of_getElem? (i := 62) (by decide +kernel))) rfl
theorem q2_63 : Cond.laysFinal RX9 "MeanSafe" "texts" "LMeanSafe$Texts;" ∈ zT := zT_in (in_2 (List.mem_of_getElem? (i := 63) (by decide +kernel))) rfl
theorem q2_65 : Cond.laysFinal RX9 "MeanSafe" "now" "LMeanSafe$World;" ∈ zT := zT_in (in_2 (List.mem_of_getElem? (i := 65) (by decide +kernel))) rfl
theorem q2_67 : Cond.laysFinal RX9 "MeanSafe" "image" "LMeanSafe$World;" ∈ zT := zT_in (in_2 (List.mem_of_getElem? (i := 67) (by decide +kernel))) rfl
theorem q2_69 : Cond.laysFinal RX9 "MeanSafe" "thought" "LMeanSafe$Thought;" ∈ zT := zT_in (in_2 (List.mem_of_getElem? (i := 69) (by decide +kernel))) rfl
theorem q2_71 : Cond.laysFinal RX9 "MeanSafe" "tape" "LMeanSafe$Tape;" ∈ zT := zT_in (in_2 (List.mem_of_getElem? (i := 71) (by decide +kernel))) rfl
theorem q2_73 : Cond.laysFinal RX9 "MeanSafe" "reader" "LMeanSafe$Reader;" ∈ zT := zT_in (in_2 (List.mem_of_getElem? (i := 73) (by decide +kernel))) rfl
theorem q2_75 : Cond.laysFinal RX9 "MeanSafe" "sheets" "[LMeanSafe$Sheet;" ∈ zT := zT_in (in_2 (List.mem_of_getElem? (i := 75) (by decide +kernel))) rfl
theorem q2_77 : Cond.laysFinal RX9 "MeanSafe" "slots" "[LMeanSafe$Slot;" ∈ zT := zT_in (in_2 (List.mem_of_getElem? (i := 77) (by decide +kernel))) rfl
theorem q2_79 : Cond.laysFinal RX9 "MeanSafe" "waits" "[I" ∈ zT := zT_in (in_2 (List.mem_of_getElem? (i := 79) (by decide +kernel))) rfl
theorem q2_81 : Cond.lays RX9 "MeanSafe" "waiting" "I" ∈ zT := zT_in (in_2 (List.mem_of_getElem? (i := 81) (by decide +kernel))) rfl
theorem q2_83 : Cond.lays RX9 "MeanSafe" "kept" "Z" ∈ zT := zT_in (in_2 (List.mem_of_getElem? (i := 83) (by decide +kernel))) rfl
theorem q2_86 : Cond.methodLink RL 13 yX9_person ∈ zT := zT_in (in_2 (List.mem_of_getElem? (i := 86) (by decide +kernel))) rfl
theorem q2_87 : Cond.instanceMethod yX9_person ∈ zT := zT_in (in_2 (List.mem_of_getElem? (i := 87) (by decide +kernel))) rfl
theorem q2_88 : Cond.selects RX9 yX9_person yX9_person ∈ zT := zT_in (in_2 (List.mem_of_getElem? (i := 88) (by decide +kernel))) rfl
theorem q2_89 : Cond.code yX9_person cX9_person 4 (some .int) ∈ zT := zT_in (in_2 (List.mem_of_getElem? (i := 89) (by decide +kernel))) rfl
theorem q2_90 : Cond.methodLink RX9 77 yX9_isKind ∈ zT := zT_in (in_2 (List.mem_of_getElem? (i := 90) (by decide +kernel))) rfl
theorem q2_91 : Cond.static yX9_isKind ∈ zT := zT_in (in_2 (List.mem_of_getElem? (i := 91) (by decide +kernel))) rfl
theorem q2_92 : Cond.code yX9_isKind cX9_isKind 1 (some .boolean) ∈ zT := zT_in (in_2 (List.mem_of_getElem? (i := 92) (by decide +kernel))) rfl
theorem q2_93 : Cond.methodLink RX9 83 yX0_mayBe ∈ zT := zT_in (in_2 (List.mem_of_getElem? (i := 93) (by decide +kernel))) rfl
theorem q2_94 : Cond.static yX0_mayBe ∈ zT := zT_in (in_2 (List.mem_of_getElem? (i := 94) (by decide +kernel))) rfl
theorem q2_95 : Cond.code yX0_mayBe cX0_mayBe 2 (some .boolean) ∈ zT := zT_in (in_2 (List.mem_of_getElem? (i := 95) (by decide +kernel))) rfl
theorem q2_96 : Cond.constant RX9 87 (-1000000001) ∈ zT := zT_in (in_2 (List.mem_of_getElem? (i := 96) (by decide +kernel))) rfl
theorem q2_97 : Cond.constant RX9 91 (-1000000003) ∈ zT := zT_in (in_2 (List.mem_of_getElem? (i := 97) (by decide +kernel))) rfl
theorem q2_98 : Cond.methodLink RX9 92 yX8_welcome ∈ zT := zT_in (in_2 (List.mem_of_getElem? (i := 98) (by decide +kernel))) rfl
theorem q2_99 : Cond.instanceMethod yX8_welcome ∈ zT := zT_in (in_2 (List.mem_of_getElem? (i := 99) (by decide +kernel))) rfl
theorem q2_100 : Cond.selects RX8 yX8_welcome yX8_welcome ∈ zT := zT_in (in_2 (List.mem_of_getElem? (i := 100) (by decide +kernel))) rfl
theorem q2_101 : Cond.code yX8_welcome cX8_welcome 7 (some .int) ∈ zT := zT_in (in_2 (List.mem_of_getElem? (i := 101) (by decide +kernel))) rfl
theorem q2_102 : Cond.methodLink RX8 85 yX0_believeAll ∈ zT := zT_in (in_2 (List.mem_of_getElem? (i := 102) (by decide +kernel))) rfl
theorem q2_103 : Cond.instanceMethod yX0_believeAll ∈ zT := zT_in (in_2 (List.mem_of_getElem? (i := 103) (by decide +kernel))) rfl
theorem q2_104 : Cond.selects RX0 yX0_believeAll yX0_believeAll ∈ zT := zT_in (in_2 (List.mem_of_getElem? (i := 104) (by decide +kernel))) rfl
theorem q2_105 : Cond.code yX0_believeAll cX0_believeAll 1 none ∈ zT := zT_in (in_2 (List.mem_of_getElem? (i := 105) (by decide +kernel))) rfl
theorem q2_106 : Cond.methodLink RL 18 yX9_told ∈ zT := zT_in (in_2 (List.mem_of_getElem? (i := 106) (by decide +kernel))) rfl
theorem q2_107 : Cond.instanceMethod yX9_told ∈ zT := zT_in (in_2 (List.mem_of_getElem? (i := 107) (by decide +kernel))) rfl
theorem q2_108 : Cond.selects RX9 yX9_told yX9_told ∈ zT := zT_in (in_2 (List.mem_of_getElem? (i := 108) (by decide +kernel))) rfl
theorem q2_109 : Cond.code yX9_told cX9_told 4 (some .int) ∈ zT := zT_in (in_2 (List.mem_of_getElem? (i := 109) (by decide +kernel))) rfl
theorem q2_110 : Cond.methodLink RX9 96 yX9_isOne ∈ zT := zT_in (in_2 (List.mem_of_getElem? (i := 110) (by decide +kernel))) rfl
theorem q2_112 : Cond.instanceMethod yX9_isOne ∈ zT := zT_in (in_2 (List.mem_of_getElem? (i := 112) (by decide +kernel))) rfl
theorem q2_113 : Cond.code yX9_isOne cX9_isOne 2 (some .boolean) ∈ zT := zT_in (in_2 (List.mem_of_getElem? (i := 113) (by decide +kernel))) rfl
theorem q2_114 : Cond.methodLink RX9 112 yX8_lawOf ∈ zT := zT_in (in_2 (List.mem_of_getElem? (i := 114) (by decide +kernel))) rfl
theorem q2_115 : Cond.instanceMethod yX8_lawOf ∈ zT := zT_in (in_2 (List.mem_of_getElem? (i := 115) (by decide +kernel))) rfl
theorem q2_116 : Cond.selects RX8 yX8_lawOf yX8_lawOf ∈ zT := zT_in (in_2 (List.mem_of_getElem? (i := 116) (by decide +kernel))) rfl
theorem q2_117 : Cond.code yX8_lawOf cX8_lawOf 2 (some .int) ∈ zT := zT_in (in_2 (List.mem_of_getElem? (i := 117) (by decide +kernel))) rfl
theorem q2_118 : Cond.methodLink RX9 116 yX0_setting ∈ zT := zT_in (in_2 (List.mem_of_getElem? (i := 118) (by decide +kernel))) rfl
theorem q2_119 : Cond.instanceMethod yX0_setting ∈ zT := zT_in (in_2 (List.mem_of_getElem? (i := 119) (by decide +kernel))) rfl
theorem q2_120 : Cond.selects RX0 yX0_setting yX0_setting ∈ zT := zT_in (in_2 (List.mem_of_getElem? (i := 120) (by decide +kernel))) rfl
theorem q2_121 : Cond.code yX0_setting cX0_setting 4 (some .int) ∈ zT := zT_in (in_2 (List.mem_of_getElem? (i := 121) (by decide +kernel))) rfl
theorem q2_122 : Cond.methodLink RX0 38 yX6_give ∈ zT := zT_in (in_2 (List.mem_of_getElem? (i := 122) (by decide +kernel))) rfl
theorem q2_123 : Cond.instanceMethod yX6_give ∈ zT := zT_in (in_2 (List.mem_of_getElem? (i := 123) (by decide +kernel))) rfl
theorem q2_124 : Cond.selects RX6 yX6_give yX6_give ∈ zT := zT_in (in_2 (List.mem_of_getElem? (i := 124) (by decide +kernel))) rfl
theorem q2_125 : Cond.code yX6_give cX6_give 9 (some .int) ∈ zT := zT_in (in_2 (List.mem_of_getElem? (i := 125) (by decide +kernel))) rfl
theorem q2_126 : Cond.methodLink RX6 29 yX6_leaf ∈ zT := zT_in (in_2 (List.mem_of_getElem? (i := 126) (by decide +kernel))) rfl
theorem q2_127 : Cond.static yX6_leaf ∈ zT := zT_in (in_2 (List.mem_of_getElem? (i := 127) (by decide +kernel))) rfl
theorem q2_128 : Cond.code yX6_leaf cX6_leaf 4 (some .int) ∈ zT := zT_in (in_2 (List.mem_of_getElem? (i := 128) (by decide +kernel))) rfl
theorem q2_129 : Cond.methodLink RX6 33 yX6_join ∈ zT := zT_in (in_2 (List.mem_of_getElem? (i := 129) (by decide +kernel))) rfl
theorem q2_130 : Cond.static yX6_join ∈ zT := zT_in (in_2 (List.mem_of_getElem? (i := 130) (by decide +kernel))) rfl
theorem q2_131 : Cond.code yX6_join cX6_join 3 (some .int) ∈ zT := zT_in (in_2 (List.mem_of_getElem? (i := 131) (by decide +kernel))) rfl
theorem q2_133 : Cond.static yX9_held ∈ zT := zT_in (in_2 (List.mem_of_getElem? (i := 133) (by decide +kernel))) rfl
theorem q2_134 : Cond.code yX9_held cX9_held 1 (some .int) ∈ zT := zT_in (in_2 (List.mem_of_getElem? (i := 134) (by decide +kernel))) rfl
theorem q2_135 : Cond.methodLink RX9 144 yJ9_min_7cf53 ∈ zT := zT_in (in_2 (List.mem_of_getElem? (i := 135) (by decide +kernel))) rfl
theorem q2_136 : Cond.static yJ9_min_7cf53 ∈ zT := zT_in (in_2 (List.mem_of_getElem? (i := 136) (by decide +kernel))) rfl
theorem q2_137 : Cond.code yJ9_min_7cf53 cJ9_min_7cf53 2 (some .int) ∈ zT := zT_in (in_2 (List.mem_of_getElem? (i := 137) (by decide +kernel))) rfl
theorem q2_138 : Cond.methodLink RX9 300 yJ9_max_7cf53 ∈ zT := zT_in (in_2 (List.mem_of_getElem? (i := 138) (by decide +kernel))) rfl
theorem q2_139 : Cond.static yJ9_max_7cf53 ∈ zT := zT_in (in_2 (List.mem_of_getElem? (i := 139) (by decide +kernel))) rfl
theorem q2_140 : Cond.code yJ9_max_7cf53 cJ9_max_7cf53 2 (some .int) ∈ zT := zT_in (in_2 (List.mem_of_getElem? (i := 140) (by decide +kernel))) rfl
theorem q2_141 : Cond.methodLink RX9 120 yX0_worth ∈ zT := zT_in (in_2 (List.mem_of_getElem? (i := 141) (by decide +kernel))) rfl
theorem q2_142 : Cond.instanceMethod yX0_worth ∈ zT := zT_in (in_2 (List.mem_of_getElem? (i := 142) (by decide +kernel))) rfl
theorem q2_143 : Cond.selects RX0 yX0_worth yX0_worth ∈ zT := zT_in (in_2 (List.mem_of_getElem? (i := 143) (by decide +kernel))) rfl
theorem q2_144 : Cond.code yX0_worth cX0_worth 1 (some .int) ∈ zT := zT_in (in_2 (List.mem_of_getElem? (i := 144) (by decide +kernel))) rfl
theorem q2_145 : Cond.methodLink RX9 124 yX0_isTrait ∈ zT := zT_in (in_2 (List.mem_of_getElem? (i := 145) (by decide +kernel))) rfl
theorem q2_146 : Cond.static yX0_isTrait ∈ zT := zT_in (in_2 (List.mem_of_getElem? (i := 146) (by decide +kernel))) rfl
theorem q2_147 : Cond.code yX0_isTrait cX0_isTrait 1 (some .boolean) ∈ zT := zT_in (in_2 (List.mem_of_getElem? (i := 147) (by decide +kernel))) rfl
theorem q2_148 : Cond.methodLink RX9 127 yX0_trait ∈ zT := zT_in (in_2 (List.mem_of_getElem? (i := 148) (by decide +kernel))) rfl
theorem q2_149 : Cond.instanceMethod yX0_trait ∈ zT := zT_in (in_2 (List.mem_of_getElem? (i := 149) (by decide +kernel))) rfl
theorem q2_150 : Cond.selects RX0 yX0_trait yX0_trait ∈ zT := zT_in (in_2 (List.mem_of_getElem? (i := 150) (by decide +kernel))) rfl
theorem q2_151 : Cond.code yX0_trait cX0_trait 2 (some .int) ∈ zT := zT_in (in_2 (List.mem_of_getElem? (i := 151) (by decide +kernel))) rfl
theorem q2_152 : Cond.methodLink RL 23 yX9_as ∈ zT := zT_in (in_2 (List.mem_of_getElem? (i := 152) (by decide +kernel))) rfl
theorem q2_153 : Cond.instanceMethod yX9_as ∈ zT := zT_in (in_2 (List.mem_of_getElem? (i := 153) (by decide +kernel))) rfl
theorem q2_154 : Cond.selects RX9 yX9_as yX9_as ∈ zT := zT_in (in_2 (List.mem_of_getElem? (i := 154) (by decide +kernel))) rfl
theorem q2_155 : Cond.code yX9_as cX9_as 4 (some .int) ∈ zT := zT_in (in_2 (List.mem_of_getElem? (i := 155) (by decide +kernel))) rfl
theorem q2_156 : Cond.methodLink RX9 130 yX0_isOf ∈ zT := zT_in (in_2 (List.mem_of_getElem? (i := 156) (by decide +kernel))) rfl
theorem q2_157 : Cond.instanceMethod yX0_isOf ∈ zT := zT_in (in_2 (List.mem_of_getElem? (i := 157) (by decide +kernel))) rfl
theorem q2_158 : Cond.selects RX0 yX0_isOf yX0_isOf ∈ zT := zT_in (in_2 (List.mem_of_getElem? (i := 158) (by decide +kernel))) rfl
theorem q2_159 : Cond.code yX0_isOf cX0_isOf 4 (some .boolean) ∈ zT := zT_in (in_2 (List.mem_of_getElem? (i := 159) (by decide +kernel))) rfl
theorem q2_162 : Cond.constant RX9 136 (-1000000012) ∈ zT := zT_in (in_2 (List.mem_of_getElem? (i := 162) (by decide +kernel))) rfl
theorem q2_163 : Cond.methodLink RL 27 yX9_turns ∈ zT := zT_in (in_2 (List.mem_of_getElem? (i := 163) (by decide +kernel))) rfl
theorem q2_164 : Cond.instanceMethod yX9_turns ∈ zT := zT_in (in_2 (List.mem_of_getElem? (i := 164) (by decide +kernel))) rfl
theorem q2_165 : Cond.selects RX9 yX9_turns yX9_turns ∈ zT := zT_in (in_2 (List.mem_of_getElem? (i := 165) (by decide +kernel))) rfl
theorem q2_166 : Cond.code yX9_turns cX9_turns 5 (some .int) ∈ zT := zT_in (in_2 (List.mem_of_getElem? (i := 166) (by decide +kernel))) rfl
theorem q2_167 : Cond.methodLink RL 31 yX9_set ∈ zT := zT_in (in_2 (List.mem_of_getElem? (i := 167) (by decide +kernel))) rfl
theorem q2_168 : Cond.instanceMethod yX9_set ∈ zT := zT_in (in_2 (List.mem_of_getElem? (i := 168) (by decide +kernel))) rfl
theorem q2_169 : Cond.selects RX9 yX9_set yX9_set ∈ zT := zT_in (in_2 (List.mem_of_getElem? (i := 169) (by decide +kernel))) rfl
theorem q2_170 : Cond.code yX9_set cX9_set 6 (some .int) ∈ zT := zT_in (in_2 (List.mem_of_getElem? (i := 170) (by decide +kernel))) rfl
theorem q2_171 : Cond.methodLink RX9 137 yX0_change ∈ zT := zT_in (in_2 (List.mem_of_getElem? (i := 171) (by decide +kernel))) rfl
theorem q2_172 : Cond.instanceMethod yX0_change ∈ zT := zT_in (in_2 (List.mem_of_getElem? (i := 172) (by decide +kernel))) rfl
theorem q2_173 : Cond.selects RX0 yX0_change yX0_change ∈ zT := zT_in (in_2 (List.mem_of_getElem? (i := 173) (by decide +kernel))) rfl
theorem q2_174 : Cond.code yX0_change cX0_change 3 none ∈ zT := zT_in (in_2 (List.mem_of_getElem? (i := 174) (by decide +kernel))) rfl
theorem q2_175 : Cond.methodLink RL 35 yX9_forget ∈ zT := zT_in (in_2 (List.mem_of_getElem? (i := 175) (by decide +kernel))) rfl
theorem q2_176 : Cond.instanceMethod yX9_forget ∈ zT := zT_in (in_2 (List.mem_of_getElem? (i := 176) (by decide +kernel))) rfl
theorem q2_177 : Cond.selects RX9 yX9_forget yX9_forget ∈ zT := zT_in (in_2 (List.mem_of_getElem? (i := 177) (by decide +kernel))) rfl
theorem q2_178 : Cond.code yX9_forget cX9_forget 4 (some .int) ∈ zT := zT_in (in_2 (List.mem_of_getElem? (i := 178) (by decide +kernel))) rfl
theorem q2_179 : Cond.methodLink RX9 141 yX0_believeAll ∈ zT := zT_in (in_2 (List.mem_of_getElem? (i := 179) (by decide +kernel))) rfl
theorem q2_180 : Cond.methodLink RL 40 yX9_deal ∈ zT := zT_in (in_2 (List.mem_of_getElem? (i := 180) (by decide +kernel))) rfl
theorem q2_181 : Cond.instanceMethod yX9_deal ∈ zT := zT_in (in_2 (List.mem_of_getElem? (i := 181) (by decide +kernel))) rfl
theorem q2_182 : Cond.selects RX9 yX9_deal yX9_deal ∈ zT := zT_in (in_2 (List.mem_of_getElem? (i := 182) (by decide +kernel))) rfl
theorem q2_183 : Cond.code yX9_deal cX9_deal 5 (some .int) ∈ zT := zT_in (in_2 (List.mem_of_getElem? (i := 183) (by decide +kernel))) rfl
theorem q2_184 : Cond.methodLink RX9 150 yX8_drawOne ∈ zT := zT_in (in_2 (List.mem_of_getElem? (i := 184) (by decide +kernel))) rfl
theorem q2_185 : Cond.instanceMethod yX8_drawOne ∈ zT := zT_in (in_2 (List.mem_of_getElem? (i := 185) (by decide +kernel))) rfl
theorem q2_186 : Cond.selects RX8 yX8_drawOne yX8_drawOne ∈ zT := zT_in (in_2 (List.mem_of_getElem? (i := 186) (by decide +kernel))) rfl
theorem q2_187 : Cond.code yX8_drawOne cX8_drawOne 5 none ∈ zT := zT_in (in_2 (List.mem_of_getElem? (i := 187) (by decide +kernel))) rfl
theorem q2_188 : Cond.methodLink RX8 88 yX8_draw ∈ zT := zT_in (in_2 (List.mem_of_getElem? (i := 188) (by decide +kernel))) rfl
theorem q2_190 : Cond.instanceMethod yX8_draw ∈ zT := zT_in (in_2 (List.mem_of_getElem? (i := 190) (by decide +kernel))) rfl
theorem q2_191 : Cond.code yX8_draw cX8_draw 1 (some .int) ∈ zT := zT_in (in_2 (List.mem_of_getElem? (i := 191) (by decide +kernel))) rfl
theorem q2_192 : Cond.constant RX8 96 (1103515245) ∈ zT := zT_in (in_2 (List.mem_of_getElem? (i := 192) (by decide +kernel))) rfl
theorem q2_193 : Cond.methodLink RX8 92 yX8_welcome ∈ zT := zT_in (in_2 (List.mem_of_getElem? (i := 193) (by decide +kernel))) rfl
theorem q2_194 : Cond.methodLink RL 45 yX9_seed ∈ zT := zT_in (in_2 (List.mem_of_getElem? (i := 194) (by decide +kernel))) rfl
theorem q2_195 : Cond.instanceMethod yX9_seed ∈ zT := zT_in (in_2 (List.mem_of_getElem? (i := 195) (by decide +kernel))) rfl
theorem q2_196 : Cond.selects RX9 yX9_seed yX9_seed ∈ zT := zT_in (in_2 (List.mem_of_getElem? (i := 196) (by decide +kernel))) rfl
theorem q2_197 : Cond.code yX9_seed cX9_seed 3 (some .int) ∈ zT := zT_in (in_2 (List.mem_of_getElem? (i := 197) (by decide +kernel))) rfl
theorem q2_198 : Cond.methodLink RL 49 yX9_safe ∈ zT := zT_in (in_2 (List.mem_of_getElem? (i := 198) (by decide +kernel))) rfl
theorem q2_199 : Cond.instanceMethod yX9_safe ∈ zT := zT_in (in_2 (List.mem_of_getElem? (i := 199) (by decide +kernel))) rfl
theorem q2_200 : Cond.selects RX9 yX9_safe yX9_safe ∈ zT := zT_in (in_2 (List.mem_of_getElem? (i := 200) (by decide +kernel))) rfl
theorem q2_201 : Cond.code yX9_safe cX9_safe 4 (some .int) ∈ zT := zT_in (in_2 (List.mem_of_getElem? (i := 201) (by decide +kernel))) rfl
theorem q2_202 : Cond.methodLink RX9 156 yX8_mayBe ∈ zT := zT_in (in_2 (List.mem_of_getElem? (i := 202) (by decide +kernel))) rfl
theorem q2_203 : Cond.static yX8_mayBe ∈ zT := zT_in (in_2 (List.mem_of_getElem? (i := 203) (by decide +kernel))) rfl
theorem q2_204 : Cond.code yX8_mayBe cX8_mayBe 2 (some .boolean) ∈ zT := zT_in (in_2 (List.mem_of_getElem? (i := 204) (by decide +kernel))) rfl
theorem q2_205 : Cond.methodLink RX9 157 yX8_part ∈ zT := zT_in (in_2 (List.mem_of_getElem? (i := 205) (by decide +kernel))) rfl
theorem q2_206 : Cond.instanceMethod yX8_part ∈ zT := zT_in (in_2 (List.mem_of_getElem? (i := 206) (by decide +kernel))) rfl
theorem q2_207 : Cond.selects RX8 yX8_part yX8_part ∈ zT := zT_in (in_2 (List.mem_of_getElem? (i := 207) (by decide +kernel))) rfl
theorem q2_208 : Cond.code yX8_part cX8_part 2 (some .int) ∈ zT := zT_in (in_2 (List.mem_of_getElem? (i := 208) (by decide +kernel))) rfl
theorem q2_209 : Cond.methodLink RX9 160 yX8_change ∈ zT := zT_in (in_2 (List.mem_of_getElem? (i := 209) (by decide +kernel))) rfl
theorem q2_210 : Cond.instanceMethod yX8_change ∈ zT := zT_in (in_2 (List.mem_of_getElem? (i := 210) (by decide +kernel))) rfl
theorem q2_211 : Cond.selects RX8 yX8_change yX8_change ∈ zT := zT_in (in_2 (List.mem_of_getElem? (i := 211) (by decide +kernel))) rfl
theorem q2_212 : Cond.code yX8_change cX8_change 3 none ∈ zT := zT_in (in_2 (List.mem_of_getElem? (i := 212) (by decide +kernel))) rfl
theorem q2_213 : Cond.methodLink RL 53 yX9_says ∈ zT := zT_in (in_2 (List.mem_of_getElem? (i := 213) (by decide +kernel))) rfl
theorem q2_214 : Cond.instanceMethod yX9_says ∈ zT := zT_in (in_2 (List.mem_of_getElem? (i := 214) (by decide +kernel))) rfl
theorem q2_215 : Cond.selects RX9 yX9_says yX9_says ∈ zT := zT_in (in_2 (List.mem_of_getElem? (i := 215) (by decide +kernel))) rfl
theorem q2_216 : Cond.code yX9_says cX9_says 1 (some .int) ∈ zT := zT_in (in_2 (List.mem_of_getElem? (i := 216) (by decide +kernel))) rfl
theorem q2_217 : Cond.methodLink RX9 161 yX8_voice ∈ zT := zT_in (in_2 (List.mem_of_getElem? (i := 217) (by decide +kernel))) rfl
theorem q2_218 : Cond.instanceMethod yX8_voice ∈ zT := zT_in (in_2 (List.mem_of_getElem? (i := 218) (by decide +kernel))) rfl
theorem q2_219 : Cond.selects RX8 yX8_voice yX8_voice ∈ zT := zT_in (in_2 (List.mem_of_getElem? (i := 219) (by decide +kernel))) rfl
theorem q2_220 : Cond.code yX8_voice cX8_voice 1 (some .int) ∈ zT := zT_in (in_2 (List.mem_of_getElem? (i := 220) (by decide +kernel))) rfl
theorem q2_221 : Cond.methodLink RX8 97 yX8_mean ∈ zT := zT_in (in_2 (List.mem_of_getElem? (i := 221) (by decide +kernel))) rfl
theorem q2_223 : Cond.instanceMethod yX8_mean ∈ zT := zT_in (in_2 (List.mem_of_getElem? (i := 223) (by decide +kernel))) rfl
theorem q2_224 : Cond.code yX8_mean cX8_mean 3 (some .int) ∈ zT := zT_in (in_2 (List.mem_of_getElem? (i := 224) (by decide +kernel))) rfl
theorem q2_225 : Cond.methodLink RX8 106 yX8_weightUpTo ∈ zT := zT_in (in_2 (List.mem_of_getElem? (i := 225) (by decide +kernel))) rfl
theorem q2_227 : Cond.instanceMethod yX8_weightUpTo ∈ zT := zT_in (in_2 (List.mem_of_getElem? (i := 227) (by decide +kernel))) rfl
theorem q2_228 : Cond.code yX8_weightUpTo cX8_weightUpTo 4 (some .int) ∈ zT := zT_in (in_2 (List.mem_of_getElem? (i := 228) (by decide +kernel))) rfl
theorem q2_229 : Cond.methodLink RX8 100 yX8_middle ∈ zT := zT_in (in_2 (List.mem_of_getElem? (i := 229) (by decide +kernel))) rfl
theorem q2_231 : Cond.instanceMethod yX8_middle ∈ zT := zT_in (in_2 (List.mem_of_getElem? (i := 231) (by decide +kernel))) rfl
theorem q2_232 : Cond.code yX8_middle cX8_middle 5 (some .int) ∈ zT := zT_in (in_2 (List.mem_of_getElem? (i := 232) (by decide +kernel))) rfl
theorem q2_233 : Cond.methodLink RX8 103 yX8_greatest ∈ zT := zT_in (in_2 (List.mem_of_getElem? (i := 233) (by decide +kernel))) rfl
theorem q2_235 : Cond.instanceMethod yX8_greatest ∈ zT := zT_in (in_2 (List.mem_of_getElem? (i := 235) (by decide +kernel))) rfl
theorem q2_236 : Cond.code yX8_greatest cX8_greatest 3 (some .int) ∈ zT := zT_in (in_2 (List.mem_of_getElem? (i := 236) (by decide +kernel))) rfl
theorem q2_237 : Cond.methodLink RX8 110 yJ9_max_7cf53 ∈ zT := zT_in (in_2 (List.mem_of_getElem? (i := 237) (by decide +kernel))) rfl
theorem q2_238 : Cond.methodLink RL 57 yX9_tries ∈ zT := zT_in (in_2 (List.mem_of_getElem? (i := 238) (by decide +kernel))) rfl
theorem q2_239 : Cond.instanceMethod yX9_tries ∈ zT := zT_in (in_2 (List.mem_of_getElem? (i := 239) (by decide +kernel))) rfl
theorem q3_0 : Cond.selects RX9 yX9_tries yX9_tries ∈ zT := zT_in (in_3 (List.mem_of_getElem? (i := 0) (by decide +kernel))) rfl
theorem q3_1 : Cond.code yX9_tries cX9_tries 3 (some .int) ∈ zT := zT_in (in_3 (List.mem_of_getElem? (i := 1) (by decide +kernel))) rfl
theorem q3_2 : Cond.methodLink RX9 167 yX8_attempt ∈ zT := zT_in (in_3 (List.mem_of_getElem? (i := 2) (by decide +kernel))) rfl
theorem q3_3 : Cond.instanceMethod yX8_attempt ∈ zT := zT_in (in_3 (List.mem_of_getElem? (i := 3) (by decide +kernel))) rfl
theorem q3_4 : Cond.selects RX8 yX8_attempt yX8_attempt ∈ zT := zT_in (in_3 (List.mem_of_getElem? (i := 4) (by decide +kernel))) rfl
theorem q3_5 : Cond.code yX8_attempt cX8_attempt 1 (some .boolean) ∈ zT := zT_in (in_3 (List.mem_of_getElem? (i := 5) (by decide +kernel))) rfl
theorem q3_6 : Cond.methodLink RX8 116 yX8_turn ∈ zT := zT_in (in_3 (List.mem_of_getElem? (i := 6) (by decide +kernel))) rfl
theorem q3_8 : Cond.instanceMethod yX8_turn ∈ zT := zT_in (in_3 (List.mem_of_getElem? (i := 8) (by decide +kernel))) rfl
theorem q3_9 : Cond.code yX8_turn cX8_turn 3 (some .int) ∈ zT := zT_in (in_3 (List.mem_of_getElem? (i := 9) (by decide +kernel))) rfl
theorem q3_10 : Cond.methodLink RX8 119 yX8_voice ∈ zT := zT_in (in_3 (List.mem_of_getElem? (i := 10) (by decide +kernel))) rfl
theorem q3_11 : Cond.methodLink RX8 122 yJ6_compare_7cf53 ∈ zT := zT_in (in_3 (List.mem_of_getElem? (i := 11) (by decide +kernel))) rfl
theorem q3_12 : Cond.static yJ6_compare_7cf53 ∈ zT := zT_in (in_3 (List.mem_of_getElem? (i := 12) (by decide +kernel))) rfl
theorem q3_13 : Cond.code yJ6_compare_7cf53 cJ6_compare_7cf53 2 (some .int) ∈ zT := zT_in (in_3 (List.mem_of_getElem? (i := 13) (by decide +kernel))) rfl
theorem q3_14 : Cond.methodLink RX8 127 yX8_spread ∈ zT := zT_in (in_3 (List.mem_of_getElem? (i := 14) (by decide +kernel))) rfl
theorem q3_15 : Cond.instanceMethod yX8_spread ∈ zT := zT_in (in_3 (List.mem_of_getElem? (i := 15) (by decide +kernel))) rfl
theorem q3_16 : Cond.selects RX8 yX8_spread yX8_spread ∈ zT := zT_in (in_3 (List.mem_of_getElem? (i := 16) (by decide +kernel))) rfl
theorem q3_17 : Cond.code yX8_spread cX8_spread 6 none ∈ zT := zT_in (in_3 (List.mem_of_getElem? (i := 17) (by decide +kernel))) rfl
theorem q3_18 : Cond.methodLink RX8 134 yX0_hear ∈ zT := zT_in (in_3 (List.mem_of_getElem? (i := 18) (by decide +kernel))) rfl
theorem q3_19 : Cond.instanceMethod yX0_hear ∈ zT := zT_in (in_3 (List.mem_of_getElem? (i := 19) (by decide +kernel))) rfl
theorem q3_20 : Cond.selects RX0 yX0_hear yX0_hear ∈ zT := zT_in (in_3 (List.mem_of_getElem? (i := 20) (by decide +kernel))) rfl
theorem q3_21 : Cond.code yX0_hear cX0_hear 3 none ∈ zT := zT_in (in_3 (List.mem_of_getElem? (i := 21) (by decide +kernel))) rfl
theorem q3_22 : Cond.methodLink RX0 48 yX0_believeAll ∈ zT := zT_in (in_3 (List.mem_of_getElem? (i := 22) (by decide +kernel))) rfl
theorem q3_23 : Cond.methodLink RX8 137 yX0_setting ∈ zT := zT_in (in_3 (List.mem_of_getElem? (i := 23) (by decide +kernel))) rfl
theorem q3_24 : Cond.methodLink RX8 131 yX8_drifted ∈ zT := zT_in (in_3 (List.mem_of_getElem? (i := 24) (by decide +kernel))) rfl
theorem q3_25 : Cond.instanceMethod yX8_drifted ∈ zT := zT_in (in_3 (List.mem_of_getElem? (i := 25) (by decide +kernel))) rfl
theorem q3_26 : Cond.selects RX8 yX8_drifted yX8_drifted ∈ zT := zT_in (in_3 (List.mem_of_getElem? (i := 26) (by decide +kernel))) rfl
theorem q3_27 : Cond.code yX8_drifted cX8_drifted 3 (some .int) ∈ zT := zT_in (in_3 (List.mem_of_getElem? (i := 27) (by decide +kernel))) rfl
theorem q3_28 : Cond.methodLink RX8 141 yJ9_floorMod_7cf53 ∈ zT := zT_in (in_3 (List.mem_of_getElem? (i := 28) (by decide +kernel))) rfl
theorem q3_29 : Cond.static yJ9_floorMod_7cf53 ∈ zT := zT_in (in_3 (List.mem_of_getElem? (i := 29) (by decide +kernel))) rfl
theorem q3_30 : Cond.code yJ9_floorMod_7cf53 cJ9_floorMod_7cf53 3 (some .int) ∈ zT := zT_in (in_3 (List.mem_of_getElem? (i := 30) (by decide +kernel))) rfl
theorem q3_31 : Cond.methodLink RL 61 yX9_needs ∈ zT := zT_in (in_3 (List.mem_of_getElem? (i := 31) (by decide +kernel))) rfl
theorem q3_32 : Cond.instanceMethod yX9_needs ∈ zT := zT_in (in_3 (List.mem_of_getElem? (i := 32) (by decide +kernel))) rfl
theorem q3_33 : Cond.selects RX9 yX9_needs yX9_needs ∈ zT := zT_in (in_3 (List.mem_of_getElem? (i := 33) (by decide +kernel))) rfl
theorem q3_34 : Cond.code yX9_needs cX9_needs 3 (some .int) ∈ zT := zT_in (in_3 (List.mem_of_getElem? (i := 34) (by decide +kernel))) rfl
theorem q3_35 : Cond.methodLink RX9 171 yX7_begin ∈ zT := zT_in (in_3 (List.mem_of_getElem? (i := 35) (by decide +kernel))) rfl
theorem q3_36 : Cond.instanceMethod yX7_begin ∈ zT := zT_in (in_3 (List.mem_of_getElem? (i := 36) (by decide +kernel))) rfl
theorem q3_37 : Cond.selects RX7 yX7_begin yX7_begin ∈ zT := zT_in (in_3 (List.mem_of_getElem? (i := 37) (by decide +kernel))) rfl
theorem q3_38 : Cond.code yX7_begin cX7_begin 2 (some (.object "MeanSafe$World")) ∈ zT := zT_in (in_3 (List.mem_of_getElem? (i := 38) (by decide +kernel))) rfl
theorem q3_39 : Cond.methodLink RX7 32 yX8_become ∈ zT := zT_in (in_3 (List.mem_of_getElem? (i := 39) (by decide +kernel))) rfl
theorem q3_40 : Cond.instanceMethod yX8_become ∈ zT := zT_in (in_3 (List.mem_of_getElem? (i := 40) (by decide +kernel))) rfl
theorem q3_41 : Cond.selects RX8 yX8_become yX8_become ∈ zT := zT_in (in_3 (List.mem_of_getElem? (i := 41) (by decide +kernel))) rfl
theorem q3_42 : Cond.code yX8_become cX8_become 3 none ∈ zT := zT_in (in_3 (List.mem_of_getElem? (i := 42) (by decide +kernel))) rfl
theorem q3_43 : Cond.methodLink RX8 55 yX0_become ∈ zT := zT_in (in_3 (List.mem_of_getElem? (i := 43) (by decide +kernel))) rfl
theorem q3_44 : Cond.instanceMethod yX0_become ∈ zT := zT_in (in_3 (List.mem_of_getElem? (i := 44) (by decide +kernel))) rfl
theorem q3_45 : Cond.selects RX0 yX0_become yX0_become ∈ zT := zT_in (in_3 (List.mem_of_getElem? (i := 45) (by decide +kernel))) rfl
theorem q3_46 : Cond.code yX0_become cX0_become 2 none ∈ zT := zT_in (in_3 (List.mem_of_getElem? (i := 46) (by decide +kernel))) rfl
theorem q3_47 : Cond.methodLink RX9 175 yX7_ponder ∈ zT := zT_in (in_3 (List.mem_of_getElem? (i := 47) (by decide +kernel))) rfl
theorem q3_48 : Cond.instanceMethod yX7_ponder ∈ zT := zT_in (in_3 (List.mem_of_getElem? (i := 48) (by decide +kernel))) rfl
theorem q3_49 : Cond.selects RX7 yX7_ponder yX7_ponder ∈ zT := zT_in (in_3 (List.mem_of_getElem? (i := 49) (by decide +kernel))) rfl
theorem q3_50 : Cond.code yX7_ponder cX7_ponder 7 (some .int) ∈ zT := zT_in (in_3 (List.mem_of_getElem? (i := 50) (by decide +kernel))) rfl
theorem q3_51 : Cond.methodLink RX7 36 yJ9_max_7cf53 ∈ zT := zT_in (in_3 (List.mem_of_getElem? (i := 51) (by decide +kernel))) rfl
theorem q3_52 : Cond.methodLink RX7 50 yX7_branch ∈ zT := zT_in (in_3 (List.mem_of_getElem? (i := 52) (by decide +kernel))) rfl
theorem q3_54 : Cond.instanceMethod yX7_branch ∈ zT := zT_in (in_3 (List.mem_of_getElem? (i := 54) (by decide +kernel))) rfl
theorem q3_55 : Cond.code yX7_branch cX7_branch 7 none ∈ zT := zT_in (in_3 (List.mem_of_getElem? (i := 55) (by decide +kernel))) rfl
theorem q3_56 : Cond.methodLink RX7 54 yX8_voice ∈ zT := zT_in (in_3 (List.mem_of_getElem? (i := 56) (by decide +kernel))) rfl
theorem q3_57 : Cond.methodLink RX7 58 yX8_drifted ∈ zT := zT_in (in_3 (List.mem_of_getElem? (i := 57) (by decide +kernel))) rfl
theorem q3_58 : Cond.methodLink RX7 61 yX7_gather ∈ zT := zT_in (in_3 (List.mem_of_getElem? (i := 58) (by decide +kernel))) rfl
theorem q3_60 : Cond.instanceMethod yX7_gather ∈ zT := zT_in (in_3 (List.mem_of_getElem? (i := 60) (by decide +kernel))) rfl
theorem q3_61 : Cond.code yX7_gather cX7_gather 7 (some .int) ∈ zT := zT_in (in_3 (List.mem_of_getElem? (i := 61) (by decide +kernel))) rfl
theorem q3_62 : Cond.methodLink RX7 69 yJ6_compare_7cf53 ∈ zT := zT_in (in_3 (List.mem_of_getElem? (i := 62) (by decide +kernel))) rfl
theorem q3_63 : Cond.methodLink RX7 65 yX8_spread ∈ zT := zT_in (in_3 (List.mem_of_getElem? (i := 63) (by decide +kernel))) rfl
theorem q3_64 : Cond.constant RX9 178 (-1000000005) ∈ zT := zT_in (in_3 (List.mem_of_getElem? (i := 64) (by decide +kernel))) rfl
theorem q3_65 : Cond.methodLink RL 65 yX9_worst ∈ zT := zT_in (in_3 (List.mem_of_getElem? (i := 65) (by decide +kernel))) rfl
theorem q3_66 : Cond.instanceMethod yX9_worst ∈ zT := zT_in (in_3 (List.mem_of_getElem? (i := 66) (by decide +kernel))) rfl
theorem q3_67 : Cond.selects RX9 yX9_worst yX9_worst ∈ zT := zT_in (in_3 (List.mem_of_getElem? (i := 67) (by decide +kernel))) rfl
theorem q3_68 : Cond.code yX9_worst cX9_worst 4 (some .int) ∈ zT := zT_in (in_3 (List.mem_of_getElem? (i := 68) (by decide +kernel))) rfl
theorem q3_69 : Cond.methodLink RL 69 yX9_had ∈ zT := zT_in (in_3 (List.mem_of_getElem? (i := 69) (by decide +kernel))) rfl
theorem q3_70 : Cond.instanceMethod yX9_had ∈ zT := zT_in (in_3 (List.mem_of_getElem? (i := 70) (by decide +kernel))) rfl
theorem q3_71 : Cond.selects RX9 yX9_had yX9_had ∈ zT := zT_in (in_3 (List.mem_of_getElem? (i := 71) (by decide +kernel))) rfl
theorem q3_72 : Cond.code yX9_had cX9_had 4 (some .int) ∈ zT := zT_in (in_3 (List.mem_of_getElem? (i := 72) (by decide +kernel))) rfl
theorem q3_73 : Cond.methodLink RL 73 yX9_start ∈ zT := zT_in (in_3 (List.mem_of_getElem? (i := 73) (by decide +kernel))) rfl
theorem q3_74 : Cond.instanceMethod yX9_start ∈ zT := zT_in (in_3 (List.mem_of_getElem? (i := 74) (by decide +kernel))) rfl
theorem q3_75 : Cond.selects RX9 yX9_start yX9_start ∈ zT := zT_in (in_3 (List.mem_of_getElem? (i := 75) (by decide +kernel))) rfl
theorem q3_76 : Cond.code yX9_start cX9_start 8 (some .int) ∈ zT := zT_in (in_3 (List.mem_of_getElem? (i := 76) (by decide +kernel))) rfl
theorem q3_77 : Cond.methodLink RL 77 yX9_tells ∈ zT := zT_in (in_3 (List.mem_of_getElem? (i := 77) (by decide +kernel))) rfl
theorem q3_78 : Cond.instanceMethod yX9_tells ∈ zT := zT_in (in_3 (List.mem_of_getElem? (i := 78) (by decide +kernel))) rfl
theorem q3_79 : Cond.selects RX9 yX9_tells yX9_tells ∈ zT := zT_in (in_3 (List.mem_of_getElem? (i := 79) (by decide +kernel))) rfl
theorem q3_80 : Cond.code yX9_tells cX9_tells 6 (some .int) ∈ zT := zT_in (in_3 (List.mem_of_getElem? (i := 80) (by decide +kernel))) rfl
theorem q3_81 : Cond.methodLink RX9 182 yX8_onlyHears ∈ zT := zT_in (in_3 (List.mem_of_getElem? (i := 81) (by decide +kernel))) rfl
theorem q3_82 : Cond.instanceMethod yX8_onlyHears ∈ zT := zT_in (in_3 (List.mem_of_getElem? (i := 82) (by decide +kernel))) rfl
theorem q3_83 : Cond.selects RX8 yX8_onlyHears yX8_onlyHears ∈ zT := zT_in (in_3 (List.mem_of_getElem? (i := 83) (by decide +kernel))) rfl
theorem q3_84 : Cond.code yX8_onlyHears cX8_onlyHears 3 none ∈ zT := zT_in (in_3 (List.mem_of_getElem? (i := 84) (by decide +kernel))) rfl
theorem q3_85 : Cond.methodLink RL 81 yX9_keeps ∈ zT := zT_in (in_3 (List.mem_of_getElem? (i := 85) (by decide +kernel))) rfl
theorem q3_86 : Cond.instanceMethod yX9_keeps ∈ zT := zT_in (in_3 (List.mem_of_getElem? (i := 86) (by decide +kernel))) rfl
theorem q3_87 : Cond.selects RX9 yX9_keeps yX9_keeps ∈ zT := zT_in (in_3 (List.mem_of_getElem? (i := 87) (by decide +kernel))) rfl
theorem q3_88 : Cond.code yX9_keeps cX9_keeps 4 (some .int) ∈ zT := zT_in (in_3 (List.mem_of_getElem? (i := 88) (by decide +kernel))) rfl
theorem q3_89 : Cond.methodLink RL 85 yX9_behind ∈ zT := zT_in (in_3 (List.mem_of_getElem? (i := 89) (by decide +kernel))) rfl
theorem q3_90 : Cond.instanceMethod yX9_behind ∈ zT := zT_in (in_3 (List.mem_of_getElem? (i := 90) (by decide +kernel))) rfl
theorem q3_91 : Cond.selects RX9 yX9_behind yX9_behind ∈ zT := zT_in (in_3 (List.mem_of_getElem? (i := 91) (by decide +kernel))) rfl
theorem q3_92 : Cond.code yX9_behind cX9_behind 6 (some .int) ∈ zT := zT_in (in_3 (List.mem_of_getElem? (i := 92) (by decide +kernel))) rfl
theorem q3_93 : Cond.methodLink RL 89 yX9_left ∈ zT := zT_in (in_3 (List.mem_of_getElem? (i := 93) (by decide +kernel))) rfl
theorem q3_94 : Cond.instanceMethod yX9_left ∈ zT := zT_in (in_3 (List.mem_of_getElem? (i := 94) (by decide +kernel))) rfl
theorem q3_95 : Cond.selects RX9 yX9_left yX9_left ∈ zT := zT_in (in_3 (List.mem_of_getElem? (i := 95) (by decide +kernel))) rfl
theorem q3_96 : Cond.code yX9_left cX9_left 7 (some .int) ∈ zT := zT_in (in_3 (List.mem_of_getElem? (i := 96) (by decide +kernel))) rfl
theorem q3_97 : Cond.methodLink RX9 192 yX9_isSheet ∈ zT := zT_in (in_3 (List.mem_of_getElem? (i := 97) (by decide +kernel))) rfl
theorem q3_98 : Cond.static yX9_isSheet ∈ zT := zT_in (in_3 (List.mem_of_getElem? (i := 98) (by decide +kernel))) rfl
theorem q3_99 : Cond.code yX9_isSheet cX9_isSheet 1 (some .boolean) ∈ zT := zT_in (in_3 (List.mem_of_getElem? (i := 99) (by decide +kernel))) rfl
theorem q3_100 : Cond.constant RX9 198 (-1000000011) ∈ zT := zT_in (in_3 (List.mem_of_getElem? (i := 100) (by decide +kernel))) rfl
theorem q3_101 : Cond.methodLink RX9 199 yX8_wouldAnswer ∈ zT := zT_in (in_3 (List.mem_of_getElem? (i := 101) (by decide +kernel))) rfl
theorem q3_102 : Cond.instanceMethod yX8_wouldAnswer ∈ zT := zT_in (in_3 (List.mem_of_getElem? (i := 102) (by decide +kernel))) rfl
theorem q3_103 : Cond.selects RX8 yX8_wouldAnswer yX8_wouldAnswer ∈ zT := zT_in (in_3 (List.mem_of_getElem? (i := 103) (by decide +kernel))) rfl
theorem q3_104 : Cond.code yX8_wouldAnswer cX8_wouldAnswer 5 (some .boolean) ∈ zT := zT_in (in_3 (List.mem_of_getElem? (i := 104) (by decide +kernel))) rfl
theorem q3_105 : Cond.constant RX8 150 (-1000000005) ∈ zT := zT_in (in_3 (List.mem_of_getElem? (i := 105) (by decide +kernel))) rfl
theorem q3_106 : Cond.methodLink RL 93 yX9_fee ∈ zT := zT_in (in_3 (List.mem_of_getElem? (i := 106) (by decide +kernel))) rfl
theorem q3_107 : Cond.instanceMethod yX9_fee ∈ zT := zT_in (in_3 (List.mem_of_getElem? (i := 107) (by decide +kernel))) rfl
theorem q3_108 : Cond.selects RX9 yX9_fee yX9_fee ∈ zT := zT_in (in_3 (List.mem_of_getElem? (i := 108) (by decide +kernel))) rfl
theorem q3_109 : Cond.code yX9_fee cX9_fee 2 (some .int) ∈ zT := zT_in (in_3 (List.mem_of_getElem? (i := 109) (by decide +kernel))) rfl
theorem q3_110 : Cond.methodLink RX9 206 yX6_give ∈ zT := zT_in (in_3 (List.mem_of_getElem? (i := 110) (by decide +kernel))) rfl
theorem q3_111 : Cond.methodLink RL 97 yX9_fine ∈ zT := zT_in (in_3 (List.mem_of_getElem? (i := 111) (by decide +kernel))) rfl
theorem q3_112 : Cond.instanceMethod yX9_fine ∈ zT := zT_in (in_3 (List.mem_of_getElem? (i := 112) (by decide +kernel))) rfl
theorem q3_113 : Cond.selects RX9 yX9_fine yX9_fine ∈ zT := zT_in (in_3 (List.mem_of_getElem? (i := 113) (by decide +kernel))) rfl
theorem q3_114 : Cond.code yX9_fine cX9_fine 4 (some .int) ∈ zT := zT_in (in_3 (List.mem_of_getElem? (i := 114) (by decide +kernel))) rfl
theorem q3_115 : Cond.methodLink RL 101 yX9_feed ∈ zT := zT_in (in_3 (List.mem_of_getElem? (i := 115) (by decide +kernel))) rfl
theorem q3_116 : Cond.instanceMethod yX9_feed ∈ zT := zT_in (in_3 (List.mem_of_getElem? (i := 116) (by decide +kernel))) rfl
theorem q3_117 : Cond.selects RX9 yX9_feed yX9_feed ∈ zT := zT_in (in_3 (List.mem_of_getElem? (i := 117) (by decide +kernel))) rfl
theorem q3_118 : Cond.code yX9_feed cX9_feed 4 (some .int) ∈ zT := zT_in (in_3 (List.mem_of_getElem? (i := 118) (by decide +kernel))) rfl
theorem q3_119 : Cond.methodLink RX9 215 yX4_take ∈ zT := zT_in (in_3 (List.mem_of_getElem? (i := 119) (by decide +kernel))) rfl
theorem q3_120 : Cond.instanceMethod yX4_take ∈ zT := zT_in (in_3 (List.mem_of_getElem? (i := 120) (by decide +kernel))) rfl
theorem q3_121 : Cond.selects RX4 yX4_take yX4_take ∈ zT := zT_in (in_3 (List.mem_of_getElem? (i := 121) (by decide +kernel))) rfl
theorem q3_122 : Cond.code yX4_take cX4_take 3 none ∈ zT := zT_in (in_3 (List.mem_of_getElem? (i := 122) (by decide +kernel))) rfl
theorem q3_123 : Cond.methodLink RL 105 yX9_trim ∈ zT := zT_in (in_3 (List.mem_of_getElem? (i := 123) (by decide +kernel))) rfl
theorem q3_124 : Cond.instanceMethod yX9_trim ∈ zT := zT_in (in_3 (List.mem_of_getElem? (i := 124) (by decide +kernel))) rfl
theorem q3_125 : Cond.selects RX9 yX9_trim yX9_trim ∈ zT := zT_in (in_3 (List.mem_of_getElem? (i := 125) (by decide +kernel))) rfl
theorem q3_126 : Cond.code yX9_trim cX9_trim 2 (some .int) ∈ zT := zT_in (in_3 (List.mem_of_getElem? (i := 126) (by decide +kernel))) rfl
theorem q3_127 : Cond.methodLink RL 109 yX9_text ∈ zT := zT_in (in_3 (List.mem_of_getElem? (i := 127) (by decide +kernel))) rfl
theorem q3_128 : Cond.instanceMethod yX9_text ∈ zT := zT_in (in_3 (List.mem_of_getElem? (i := 128) (by decide +kernel))) rfl
theorem q3_129 : Cond.selects RX9 yX9_text yX9_text ∈ zT := zT_in (in_3 (List.mem_of_getElem? (i := 129) (by decide +kernel))) rfl
theorem q3_130 : Cond.code yX9_text cX9_text 2 (some .int) ∈ zT := zT_in (in_3 (List.mem_of_getElem? (i := 130) (by decide +kernel))) rfl
theorem q3_131 : Cond.methodLink RX9 218 yX1_readsWhole ∈ zT := zT_in (in_3 (List.mem_of_getElem? (i := 131) (by decide +kernel))) rfl
theorem q3_132 : Cond.instanceMethod yX1_readsWhole ∈ zT := zT_in (in_3 (List.mem_of_getElem? (i := 132) (by decide +kernel))) rfl
theorem q3_133 : Cond.selects RX1 yX1_readsWhole yX1_readsWhole ∈ zT := zT_in (in_3 (List.mem_of_getElem? (i := 133) (by decide +kernel))) rfl
theorem q3_134 : Cond.code yX1_readsWhole cX1_readsWhole 1 (some .boolean) ∈ zT := zT_in (in_3 (List.mem_of_getElem? (i := 134) (by decide +kernel))) rfl
theorem q3_135 : Cond.methodLink RX1 51 yX1_advance ∈ zT := zT_in (in_3 (List.mem_of_getElem? (i := 135) (by decide +kernel))) rfl
theorem q3_137 : Cond.instanceMethod yX1_advance ∈ zT := zT_in (in_3 (List.mem_of_getElem? (i := 137) (by decide +kernel))) rfl
theorem q3_138 : Cond.code yX1_advance cX1_advance 3 none ∈ zT := zT_in (in_3 (List.mem_of_getElem? (i := 138) (by decide +kernel))) rfl
theorem q3_139 : Cond.methodLink RX1 64 yX4_at ∈ zT := zT_in (in_3 (List.mem_of_getElem? (i := 139) (by decide +kernel))) rfl
theorem q3_140 : Cond.instanceMethod yX4_at ∈ zT := zT_in (in_3 (List.mem_of_getElem? (i := 140) (by decide +kernel))) rfl
theorem q3_141 : Cond.selects RX4 yX4_at yX4_at ∈ zT := zT_in (in_3 (List.mem_of_getElem? (i := 141) (by decide +kernel))) rfl
theorem q3_142 : Cond.code yX4_at cX4_at 2 (some .int) ∈ zT := zT_in (in_3 (List.mem_of_getElem? (i := 142) (by decide +kernel))) rfl
theorem q3_143 : Cond.methodLink RX1 68 yX1_sortOf ∈ zT := zT_in (in_3 (List.mem_of_getElem? (i := 143) (by decide +kernel))) rfl
theorem q3_144 : Cond.static yX1_sortOf ∈ zT := zT_in (in_3 (List.mem_of_getElem? (i := 144) (by decide +kernel))) rfl
theorem q3_145 : Cond.code yX1_sortOf cX1_sortOf 1 (some .int) ∈ zT := zT_in (in_3 (List.mem_of_getElem? (i := 145) (by decide +kernel))) rfl
theorem q3_146 : Cond.methodLink RX1 54 yX1_readKey ∈ zT := zT_in (in_3 (List.mem_of_getElem? (i := 146) (by decide +kernel))) rfl
theorem q3_148 : Cond.instanceMethod yX1_readKey ∈ zT := zT_in (in_3 (List.mem_of_getElem? (i := 148) (by decide +kernel))) rfl
theorem q3_149 : Cond.code yX1_readKey cX1_readKey 1 none ∈ zT := zT_in (in_3 (List.mem_of_getElem? (i := 149) (by decide +kernel))) rfl
theorem q3_151 : Cond.methodLink RX1 73 yX1_isWord ∈ zT := zT_in (in_3 (List.mem_of_getElem? (i := 151) (by decide +kernel))) rfl
theorem q3_153 : Cond.instanceMethod yX1_isWord ∈ zT := zT_in (in_3 (List.mem_of_getElem? (i := 153) (by decide +kernel))) rfl
theorem q3_154 : Cond.code yX1_isWord cX1_isWord 3 (some .boolean) ∈ zT := zT_in (in_3 (List.mem_of_getElem? (i := 154) (by decide +kernel))) rfl
theorem q3_155 : Cond.methodLink RX1 84 yJ0_length_8abf5 ∈ zT := zT_in (in_3 (List.mem_of_getElem? (i := 155) (by decide +kernel))) rfl
theorem q3_156 : Cond.instanceMethod yJ0_length_8abf5 ∈ zT := zT_in (in_3 (List.mem_of_getElem? (i := 156) (by decide +kernel))) rfl
theorem q3_157 : Cond.selects RJ0 yJ0_length_8abf5 yJ0_length_8abf5 ∈ zT := zT_in (in_3 (List.mem_of_getElem? (i := 157) (by decide +kernel))) rfl
theorem q3_158 : Cond.code yJ0_length_8abf5 cJ0_length_8abf5 1 (some .int) ∈ zT := zT_in (in_3 (List.mem_of_getElem? (i := 158) (by decide +kernel))) rfl
theorem q3_159 : Cond.methodLink RJ0 335 yJ0_coder_7d493 ∈ zT := zT_in (in_3 (List.mem_of_getElem? (i := 159) (by decide +kernel))) rfl
theorem q3_160 : Cond.instanceMethod yJ0_coder_7d493 ∈ zT := zT_in (in_3 (List.mem_of_getElem? (i := 160) (by decide +kernel))) rfl
theorem q3_161 : Cond.selects RJ0 yJ0_coder_7d493 yJ0_coder_7d493 ∈ zT := zT_in (in_3 (List.mem_of_getElem? (i := 161) (by decide +kernel))) rfl
theorem q3_162 : Cond.code yJ0_coder_7d493 cJ0_coder_7d493 1 (some .byte) ∈ zT := zT_in (in_3 (List.mem_of_getElem? (i := 162) (by decide +kernel))) rfl
theorem q3_163 : Cond.fieldLink RJ0 38 "java/lang/String" "COMPACT_STRINGS" "Z" ∈ zT := zT_in (in_3 (List.mem_of_getElem? (i := 163) (by decide +kernel))) rfl
theorem q3_165 : Cond.methodLink RX1 89 yJ0_charAt_5068e ∈ zT := zT_in (in_3 (List.mem_of_getElem? (i := 165) (by decide +kernel))) rfl
theorem q3_166 : Cond.instanceMethod yJ0_charAt_5068e ∈ zT := zT_in (in_3 (List.mem_of_getElem? (i := 166) (by decide +kernel))) rfl
theorem q3_167 : Cond.selects RJ0 yJ0_charAt_5068e yJ0_charAt_5068e ∈ zT := zT_in (in_3 (List.mem_of_getElem? (i := 167) (by decide +kernel))) rfl
theorem q3_168 : Cond.code yJ0_charAt_5068e cJ0_charAt_5068e 2 (some .char) ∈ zT := zT_in (in_3 (List.mem_of_getElem? (i := 168) (by decide +kernel))) rfl
theorem q3_169 : Cond.methodLink RJ0 492 yJ0_isLatin1_aae02 ∈ zT := zT_in (in_3 (List.mem_of_getElem? (i := 169) (by decide +kernel))) rfl
theorem q3_170 : Cond.instanceMethod yJ0_isLatin1_aae02 ∈ zT := zT_in (in_3 (List.mem_of_getElem? (i := 170) (by decide +kernel))) rfl
theorem q3_171 : Cond.selects RJ0 yJ0_isLatin1_aae02 yJ0_isLatin1_aae02 ∈ zT := zT_in (in_3 (List.mem_of_getElem? (i := 171) (by decide +kernel))) rfl
theorem q3_172 : Cond.code yJ0_isLatin1_aae02 cJ0_isLatin1_aae02 1 (some .boolean) ∈ zT := zT_in (in_3 (List.mem_of_getElem? (i := 172) (by decide +kernel))) rfl
theorem q3_173 : Cond.methodLink RJ0 495 yJ1_charAt_3b067 ∈ zT := zT_in (in_3 (List.mem_of_getElem? (i := 173) (by decide +kernel))) rfl
theorem q3_174 : Cond.static yJ1_charAt_3b067 ∈ zT := zT_in (in_3 (List.mem_of_getElem? (i := 174) (by decide +kernel))) rfl
theorem q3_175 : Cond.code yJ1_charAt_3b067 cJ1_charAt_3b067 2 (some .char) ∈ zT := zT_in (in_3 (List.mem_of_getElem? (i := 175) (by decide +kernel))) rfl
theorem q3_176 : Cond.methodLink RJ1 9 yJ0_checkIndex_df160 ∈ zT := zT_in (in_3 (List.mem_of_getElem? (i := 176) (by decide +kernel))) rfl
theorem q3_177 : Cond.static yJ0_checkIndex_df160 ∈ zT := zT_in (in_3 (List.mem_of_getElem? (i := 177) (by decide +kernel))) rfl
theorem q3_178 : Cond.code yJ0_checkIndex_df160 cJ0_checkIndex_df160 2 none ∈ zT := zT_in (in_3 (List.mem_of_getElem? (i := 178) (by decide +kernel))) rfl
theorem q3_179 : Cond.fieldLink RJ0 1053 "jdk/internal/util/Preconditions" "SIOOBE_FORMATTER" "Ljava/util/function/BiFunction;" ∈ zT := zT_in (in_3 (List.mem_of_getElem? (i := 179) (by decide +kernel))) rfl
theorem q3_181 : Cond.methodLink RJ0 1059 yJ3_checkIndex_8e157 ∈ zT := zT_in (in_3 (List.mem_of_getElem? (i := 181) (by decide +kernel))) rfl
theorem q3_182 : Cond.static yJ3_checkIndex_8e157 ∈ zT := zT_in (in_3 (List.mem_of_getElem? (i := 182) (by decide +kernel))) rfl
theorem q3_183 : Cond.code yJ3_checkIndex_8e157 cJ3_checkIndex_8e157 3 (some .int) ∈ zT := zT_in (in_3 (List.mem_of_getElem? (i := 183) (by decide +kernel))) rfl
theorem q3_184 : Cond.methodLink RJ0 498 yJ2_charAt_3b067 ∈ zT := zT_in (in_3 (List.mem_of_getElem? (i := 184) (by decide +kernel))) rfl
theorem q3_185 : Cond.static yJ2_charAt_3b067 ∈ zT := zT_in (in_3 (List.mem_of_getElem? (i := 185) (by decide +kernel))) rfl
theorem q3_186 : Cond.code yJ2_charAt_3b067 cJ2_charAt_3b067 2 (some .char) ∈ zT := zT_in (in_3 (List.mem_of_getElem? (i := 186) (by decide +kernel))) rfl
theorem q3_187 : Cond.methodLink RJ2 67 yJ2_checkIndex_2214a ∈ zT := zT_in (in_3 (List.mem_of_getElem? (i := 187) (by decide +kernel))) rfl
theorem q3_188 : Cond.static yJ2_checkIndex_2214a ∈ zT := zT_in (in_3 (List.mem_of_getElem? (i := 188) (by decide +kernel))) rfl
theorem q3_189 : Cond.code yJ2_checkIndex_2214a cJ2_checkIndex_2214a 2 none ∈ zT := zT_in (in_3 (List.mem_of_getElem? (i := 189) (by decide +kernel))) rfl
theorem q3_190 : Cond.methodLink RJ2 48 yJ2_length_9d52b ∈ zT := zT_in (in_3 (List.mem_of_getElem? (i := 190) (by decide +kernel))) rfl
theorem q3_191 : Cond.static yJ2_length_9d52b ∈ zT := zT_in (in_3 (List.mem_of_getElem? (i := 191) (by decide +kernel))) rfl
theorem q3_192 : Cond.code yJ2_length_9d52b cJ2_length_9d52b 1 (some .int) ∈ zT := zT_in (in_3 (List.mem_of_getElem? (i := 192) (by decide +kernel))) rfl
theorem q3_193 : Cond.methodLink RJ2 414 yJ0_checkIndex_df160 ∈ zT := zT_in (in_3 (List.mem_of_getElem? (i := 193) (by decide +kernel))) rfl
theorem q3_194 : Cond.methodLink RJ2 71 yJ2_getChar_3b067 ∈ zT := zT_in (in_3 (List.mem_of_getElem? (i := 194) (by decide +kernel))) rfl
theorem q3_195 : Cond.static yJ2_getChar_3b067 ∈ zT := zT_in (in_3 (List.mem_of_getElem? (i := 195) (by decide +kernel))) rfl
theorem q3_196 : Cond.code yJ2_getChar_3b067 cJ2_getChar_3b067 2 (some .char) ∈ zT := zT_in (in_3 (List.mem_of_getElem? (i := 196) (by decide +kernel))) rfl
theorem q3_197 : Cond.fieldLink RJ2 44 "java/lang/StringUTF16" "$assertionsDisabled" "Z" ∈ zT := zT_in (in_3 (List.mem_of_getElem? (i := 197) (by decide +kernel))) rfl
theorem q3_199 : Cond.fieldLink RJ2 59 "java/lang/StringUTF16" "HI_BYTE_SHIFT" "I" ∈ zT := zT_in (in_3 (List.mem_of_getElem? (i := 199) (by decide +kernel))) rfl
theorem q3_201 : Cond.fieldLink RJ2 63 "java/lang/StringUTF16" "LO_BYTE_SHIFT" "I" ∈ zT := zT_in (in_3 (List.mem_of_getElem? (i := 201) (by decide +kernel))) rfl
theorem q3_205 : Cond.methodLink RX1 57 yX1_level ∈ zT := zT_in (in_3 (List.mem_of_getElem? (i := 205) (by decide +kernel))) rfl
theorem q3_207 : Cond.instanceMethod yX1_level ∈ zT := zT_in (in_3 (List.mem_of_getElem? (i := 207) (by decide +kernel))) rfl
theorem q3_208 : Cond.code yX1_level cX1_level 5 none ∈ zT := zT_in (in_3 (List.mem_of_getElem? (i := 208) (by decide +kernel))) rfl
theorem q3_209 : Cond.methodLink RX1 93 yX1_piece ∈ zT := zT_in (in_3 (List.mem_of_getElem? (i := 209) (by decide +kernel))) rfl
theorem q3_211 : Cond.instanceMethod yX1_piece ∈ zT := zT_in (in_3 (List.mem_of_getElem? (i := 211) (by decide +kernel))) rfl
theorem q3_212 : Cond.code yX1_piece cX1_piece 1 none ∈ zT := zT_in (in_3 (List.mem_of_getElem? (i := 212) (by decide +kernel))) rfl
theorem q3_213 : Cond.methodLink RX1 105 yX1_readNumber ∈ zT := zT_in (in_3 (List.mem_of_getElem? (i := 213) (by decide +kernel))) rfl
theorem q3_215 : Cond.instanceMethod yX1_readNumber ∈ zT := zT_in (in_3 (List.mem_of_getElem? (i := 215) (by decide +kernel))) rfl
theorem q3_216 : Cond.code yX1_readNumber cX1_readNumber 3 none ∈ zT := zT_in (in_3 (List.mem_of_getElem? (i := 216) (by decide +kernel))) rfl
theorem q3_217 : Cond.methodLink RX1 102 yX5_add ∈ zT := zT_in (in_3 (List.mem_of_getElem? (i := 217) (by decide +kernel))) rfl
theorem q3_218 : Cond.instanceMethod yX5_add ∈ zT := zT_in (in_3 (List.mem_of_getElem? (i := 218) (by decide +kernel))) rfl
theorem q3_219 : Cond.selects RX5 yX5_add yX5_add ∈ zT := zT_in (in_3 (List.mem_of_getElem? (i := 219) (by decide +kernel))) rfl
theorem q3_220 : Cond.code yX5_add cX5_add 2 none ∈ zT := zT_in (in_3 (List.mem_of_getElem? (i := 220) (by decide +kernel))) rfl
theorem q3_221 : Cond.methodLink RX1 108 yX1_readName ∈ zT := zT_in (in_3 (List.mem_of_getElem? (i := 221) (by decide +kernel))) rfl
theorem q3_223 : Cond.instanceMethod yX1_readName ∈ zT := zT_in (in_3 (List.mem_of_getElem? (i := 223) (by decide +kernel))) rfl
theorem q3_224 : Cond.code yX1_readName cX1_readName 2 none ∈ zT := zT_in (in_3 (List.mem_of_getElem? (i := 224) (by decide +kernel))) rfl
theorem q3_225 : Cond.methodLink RX1 117 yX1_lettersOf ∈ zT := zT_in (in_3 (List.mem_of_getElem? (i := 225) (by decide +kernel))) rfl
theorem q3_226 : Cond.static yX1_lettersOf ∈ zT := zT_in (in_3 (List.mem_of_getElem? (i := 226) (by decide +kernel))) rfl
theorem q3_227 : Cond.code yX1_lettersOf cX1_lettersOf 1 (some (.object "java/lang/String")) ∈ zT := zT_in (in_3 (List.mem_of_getElem? (i := 227) (by decide +kernel))) rfl
theorem q3_231 : Cond.methodLink RX1 121 yJ0_indexOf_0f7a4 ∈ zT := zT_in (in_3 (List.mem_of_getElem? (i := 231) (by decide +kernel))) rfl
theorem q3_232 : Cond.instanceMethod yJ0_indexOf_0f7a4 ∈ zT := zT_in (in_3 (List.mem_of_getElem? (i := 232) (by decide +kernel))) rfl
theorem q3_233 : Cond.selects RJ0 yJ0_indexOf_0f7a4 yJ0_indexOf_0f7a4 ∈ zT := zT_in (in_3 (List.mem_of_getElem? (i := 233) (by decide +kernel))) rfl
theorem q3_234 : Cond.code yJ0_indexOf_0f7a4 cJ0_indexOf_0f7a4 2 (some .int) ∈ zT := zT_in (in_3 (List.mem_of_getElem? (i := 234) (by decide +kernel))) rfl
theorem q3_235 : Cond.methodLink RJ0 633 yJ0_indexOf_7cf53 ∈ zT := zT_in (in_3 (List.mem_of_getElem? (i := 235) (by decide +kernel))) rfl
theorem q3_236 : Cond.instanceMethod yJ0_indexOf_7cf53 ∈ zT := zT_in (in_3 (List.mem_of_getElem? (i := 236) (by decide +kernel))) rfl
theorem q3_237 : Cond.selects RJ0 yJ0_indexOf_7cf53 yJ0_indexOf_7cf53 ∈ zT := zT_in (in_3 (List.mem_of_getElem? (i := 237) (by decide +kernel))) rfl
theorem q3_238 : Cond.code yJ0_indexOf_7cf53 cJ0_indexOf_7cf53 3 (some .int) ∈ zT := zT_in (in_3 (List.mem_of_getElem? (i := 238) (by decide +kernel))) rfl
theorem q3_239 : Cond.methodLink RJ0 505 yJ0_length_8abf5 ∈ zT := zT_in (in_3 (List.mem_of_getElem? (i := 239) (by decide +kernel))) rfl
theorem q4_0 : Cond.methodLink RJ0 637 yJ1_indexOf_4cfef ∈ zT := zT_in (in_4 (List.mem_of_getElem? (i := 0) (by decide +kernel))) rfl
theorem q4_1 : Cond.static yJ1_indexOf_4cfef ∈ zT := zT_in (in_4 (List.mem_of_getElem? (i := 1) (by decide +kernel))) rfl
theorem q4_2 : Cond.code yJ1_indexOf_4cfef cJ1_indexOf_4cfef 4 (some .int) ∈ zT := zT_in (in_4 (List.mem_of_getElem? (i := 2) (by decide +kernel))) rfl
theorem q4_3 : Cond.methodLink RJ1 88 yJ1_canEncode_9a6ad ∈ zT := zT_in (in_4 (List.mem_of_getElem? (i := 3) (by decide +kernel))) rfl
theorem q4_4 : Cond.static yJ1_canEncode_9a6ad ∈ zT := zT_in (in_4 (List.mem_of_getElem? (i := 4) (by decide +kernel))) rfl
theorem q4_5 : Cond.code yJ1_canEncode_9a6ad cJ1_canEncode_9a6ad 1 (some .boolean) ∈ zT := zT_in (in_4 (List.mem_of_getElem? (i := 5) (by decide +kernel))) rfl
theorem q4_6 : Cond.methodLink RJ1 92 yJ9_max_7cf53 ∈ zT := zT_in (in_4 (List.mem_of_getElem? (i := 6) (by decide +kernel))) rfl
theorem q4_7 : Cond.methodLink RJ1 38 yJ9_min_7cf53 ∈ zT := zT_in (in_4 (List.mem_of_getElem? (i := 7) (by decide +kernel))) rfl
theorem q4_8 : Cond.methodLink RJ1 95 yJ1_indexOfChar_4cfef ∈ zT := zT_in (in_4 (List.mem_of_getElem? (i := 8) (by decide +kernel))) rfl
theorem q4_9 : Cond.static yJ1_indexOfChar_4cfef ∈ zT := zT_in (in_4 (List.mem_of_getElem? (i := 9) (by decide +kernel))) rfl
theorem q4_10 : Cond.code yJ1_indexOfChar_4cfef cJ1_indexOfChar_4cfef 6 (some .int) ∈ zT := zT_in (in_4 (List.mem_of_getElem? (i := 10) (by decide +kernel))) rfl
theorem q4_11 : Cond.methodLink RJ0 640 yJ2_indexOf_4cfef ∈ zT := zT_in (in_4 (List.mem_of_getElem? (i := 11) (by decide +kernel))) rfl
theorem q4_12 : Cond.static yJ2_indexOf_4cfef ∈ zT := zT_in (in_4 (List.mem_of_getElem? (i := 12) (by decide +kernel))) rfl
theorem q4_13 : Cond.code yJ2_indexOf_4cfef cJ2_indexOf_4cfef 4 (some .int) ∈ zT := zT_in (in_4 (List.mem_of_getElem? (i := 13) (by decide +kernel))) rfl
theorem q4_14 : Cond.methodLink RJ2 224 yJ9_max_7cf53 ∈ zT := zT_in (in_4 (List.mem_of_getElem? (i := 14) (by decide +kernel))) rfl
theorem q4_15 : Cond.methodLink RJ2 183 yJ9_min_7cf53 ∈ zT := zT_in (in_4 (List.mem_of_getElem? (i := 15) (by decide +kernel))) rfl
theorem q4_16 : Cond.constant RJ2 227 (65536) ∈ zT := zT_in (in_4 (List.mem_of_getElem? (i := 16) (by decide +kernel))) rfl
theorem q4_17 : Cond.methodLink RJ2 228 yJ2_indexOfChar_4cfef ∈ zT := zT_in (in_4 (List.mem_of_getElem? (i := 17) (by decide +kernel))) rfl
theorem q4_18 : Cond.static yJ2_indexOfChar_4cfef ∈ zT := zT_in (in_4 (List.mem_of_getElem? (i := 18) (by decide +kernel))) rfl
theorem q4_19 : Cond.code yJ2_indexOfChar_4cfef cJ2_indexOfChar_4cfef 4 (some .int) ∈ zT := zT_in (in_4 (List.mem_of_getElem? (i := 19) (by decide +kernel))) rfl
theorem q4_20 : Cond.methodLink RJ2 96 yJ2_checkBoundsBeginEnd_d044e ∈ zT := zT_in (in_4 (List.mem_of_getElem? (i := 20) (by decide +kernel))) rfl
theorem q4_21 : Cond.static yJ2_checkBoundsBeginEnd_d044e ∈ zT := zT_in (in_4 (List.mem_of_getElem? (i := 21) (by decide +kernel))) rfl
theorem q4_22 : Cond.code yJ2_checkBoundsBeginEnd_d044e cJ2_checkBoundsBeginEnd_d044e 3 none ∈ zT := zT_in (in_4 (List.mem_of_getElem? (i := 22) (by decide +kernel))) rfl
theorem q4_23 : Cond.methodLink RJ2 241 yJ0_checkBoundsBeginEnd_23922 ∈ zT := zT_in (in_4 (List.mem_of_getElem? (i := 23) (by decide +kernel))) rfl
theorem q4_24 : Cond.static yJ0_checkBoundsBeginEnd_23922 ∈ zT := zT_in (in_4 (List.mem_of_getElem? (i := 24) (by decide +kernel))) rfl
theorem q4_25 : Cond.code yJ0_checkBoundsBeginEnd_23922 cJ0_checkBoundsBeginEnd_23922 3 none ∈ zT := zT_in (in_4 (List.mem_of_getElem? (i := 25) (by decide +kernel))) rfl
theorem q4_26 : Cond.methodLink RJ0 1062 yJ3_checkFromToIndex_8c36e ∈ zT := zT_in (in_4 (List.mem_of_getElem? (i := 26) (by decide +kernel))) rfl
theorem q4_27 : Cond.static yJ3_checkFromToIndex_8c36e ∈ zT := zT_in (in_4 (List.mem_of_getElem? (i := 27) (by decide +kernel))) rfl
theorem q4_28 : Cond.code yJ3_checkFromToIndex_8c36e cJ3_checkFromToIndex_8c36e 4 (some .int) ∈ zT := zT_in (in_4 (List.mem_of_getElem? (i := 28) (by decide +kernel))) rfl
theorem q4_29 : Cond.methodLink RJ2 244 yJ2_indexOfCharUnsafe_4cfef ∈ zT := zT_in (in_4 (List.mem_of_getElem? (i := 29) (by decide +kernel))) rfl
theorem q4_30 : Cond.static yJ2_indexOfCharUnsafe_4cfef ∈ zT := zT_in (in_4 (List.mem_of_getElem? (i := 30) (by decide +kernel))) rfl
theorem q4_31 : Cond.code yJ2_indexOfCharUnsafe_4cfef cJ2_indexOfCharUnsafe_4cfef 5 (some .int) ∈ zT := zT_in (in_4 (List.mem_of_getElem? (i := 31) (by decide +kernel))) rfl
theorem q4_32 : Cond.methodLink RJ2 232 yJ2_indexOfSupplementary_4cfef ∈ zT := zT_in (in_4 (List.mem_of_getElem? (i := 32) (by decide +kernel))) rfl
theorem q4_33 : Cond.static yJ2_indexOfSupplementary_4cfef ∈ zT := zT_in (in_4 (List.mem_of_getElem? (i := 33) (by decide +kernel))) rfl
theorem q4_34 : Cond.code yJ2_indexOfSupplementary_4cfef cJ2_indexOfSupplementary_4cfef 7 (some .int) ∈ zT := zT_in (in_4 (List.mem_of_getElem? (i := 34) (by decide +kernel))) rfl
theorem q4_35 : Cond.methodLink RJ2 164 yJ11_isValidCodePoint_9a6ad ∈ zT := zT_in (in_4 (List.mem_of_getElem? (i := 35) (by decide +kernel))) rfl
theorem q4_36 : Cond.static yJ11_isValidCodePoint_9a6ad ∈ zT := zT_in (in_4 (List.mem_of_getElem? (i := 36) (by decide +kernel))) rfl
theorem q4_37 : Cond.code yJ11_isValidCodePoint_9a6ad cJ11_isValidCodePoint_9a6ad 2 (some .boolean) ∈ zT := zT_in (in_4 (List.mem_of_getElem? (i := 37) (by decide +kernel))) rfl
theorem q4_38 : Cond.methodLink RJ2 157 yJ11_highSurrogate_5068e ∈ zT := zT_in (in_4 (List.mem_of_getElem? (i := 38) (by decide +kernel))) rfl
theorem q4_39 : Cond.static yJ11_highSurrogate_5068e ∈ zT := zT_in (in_4 (List.mem_of_getElem? (i := 39) (by decide +kernel))) rfl
theorem q4_40 : Cond.code yJ11_highSurrogate_5068e cJ11_highSurrogate_5068e 1 (some .char) ∈ zT := zT_in (in_4 (List.mem_of_getElem? (i := 40) (by decide +kernel))) rfl
theorem q4_41 : Cond.constant RJ11 110 (55232) ∈ zT := zT_in (in_4 (List.mem_of_getElem? (i := 41) (by decide +kernel))) rfl
theorem q4_42 : Cond.methodLink RJ2 161 yJ11_lowSurrogate_5068e ∈ zT := zT_in (in_4 (List.mem_of_getElem? (i := 42) (by decide +kernel))) rfl
theorem q4_43 : Cond.static yJ11_lowSurrogate_5068e ∈ zT := zT_in (in_4 (List.mem_of_getElem? (i := 43) (by decide +kernel))) rfl
theorem q4_44 : Cond.code yJ11_lowSurrogate_5068e cJ11_lowSurrogate_5068e 1 (some .char) ∈ zT := zT_in (in_4 (List.mem_of_getElem? (i := 44) (by decide +kernel))) rfl
theorem q4_45 : Cond.constant RJ11 76 (56320) ∈ zT := zT_in (in_4 (List.mem_of_getElem? (i := 45) (by decide +kernel))) rfl
theorem q4_46 : Cond.methodLink RX1 96 yX1_sign ∈ zT := zT_in (in_4 (List.mem_of_getElem? (i := 46) (by decide +kernel))) rfl
theorem q4_48 : Cond.instanceMethod yX1_sign ∈ zT := zT_in (in_4 (List.mem_of_getElem? (i := 48) (by decide +kernel))) rfl
theorem q4_49 : Cond.code yX1_sign cX1_sign 1 (some .int) ∈ zT := zT_in (in_4 (List.mem_of_getElem? (i := 49) (by decide +kernel))) rfl
theorem q4_50 : Cond.methodLink RX1 111 yX1_readNot ∈ zT := zT_in (in_4 (List.mem_of_getElem? (i := 50) (by decide +kernel))) rfl
theorem q4_52 : Cond.instanceMethod yX1_readNot ∈ zT := zT_in (in_4 (List.mem_of_getElem? (i := 52) (by decide +kernel))) rfl
theorem q4_53 : Cond.code yX1_readNot cX1_readNot 1 none ∈ zT := zT_in (in_4 (List.mem_of_getElem? (i := 53) (by decide +kernel))) rfl
theorem q4_54 : Cond.methodLink RX1 114 yX1_readBracket ∈ zT := zT_in (in_4 (List.mem_of_getElem? (i := 54) (by decide +kernel))) rfl
theorem q4_56 : Cond.instanceMethod yX1_readBracket ∈ zT := zT_in (in_4 (List.mem_of_getElem? (i := 56) (by decide +kernel))) rfl
theorem q4_57 : Cond.code yX1_readBracket cX1_readBracket 1 none ∈ zT := zT_in (in_4 (List.mem_of_getElem? (i := 57) (by decide +kernel))) rfl
theorem q4_58 : Cond.methodLink RX1 99 yX1_levelOf ∈ zT := zT_in (in_4 (List.mem_of_getElem? (i := 58) (by decide +kernel))) rfl
theorem q4_59 : Cond.static yX1_levelOf ∈ zT := zT_in (in_4 (List.mem_of_getElem? (i := 59) (by decide +kernel))) rfl
theorem q4_60 : Cond.code yX1_levelOf cX1_levelOf 1 (some .int) ∈ zT := zT_in (in_4 (List.mem_of_getElem? (i := 60) (by decide +kernel))) rfl
theorem q4_61 : Cond.methodLink RX9 231 yX5_write ∈ zT := zT_in (in_4 (List.mem_of_getElem? (i := 61) (by decide +kernel))) rfl
theorem q4_62 : Cond.instanceMethod yX5_write ∈ zT := zT_in (in_4 (List.mem_of_getElem? (i := 62) (by decide +kernel))) rfl
theorem q4_63 : Cond.selects RX5 yX5_write yX5_write ∈ zT := zT_in (in_4 (List.mem_of_getElem? (i := 63) (by decide +kernel))) rfl
theorem q4_64 : Cond.code yX5_write cX5_write 3 none ∈ zT := zT_in (in_4 (List.mem_of_getElem? (i := 64) (by decide +kernel))) rfl
theorem q4_65 : Cond.methodLink RX5 31 arraycopyName ∈ zT := zT_in (in_4 (List.mem_of_getElem? (i := 65) (by decide +kernel))) rfl
theorem q4_66 : Cond.static arraycopyName ∈ zT := zT_in (in_4 (List.mem_of_getElem? (i := 66) (by decide +kernel))) rfl
theorem q4_67 : Cond.native arraycopyName ∈ zT := zT_in (in_4 (List.mem_of_getElem? (i := 67) (by decide +kernel))) rfl
theorem q4_68 : Cond.methodLink RX9 237 yX8_addText ∈ zT := zT_in (in_4 (List.mem_of_getElem? (i := 68) (by decide +kernel))) rfl
theorem q4_69 : Cond.instanceMethod yX8_addText ∈ zT := zT_in (in_4 (List.mem_of_getElem? (i := 69) (by decide +kernel))) rfl
theorem q4_70 : Cond.selects RX8 yX8_addText yX8_addText ∈ zT := zT_in (in_4 (List.mem_of_getElem? (i := 70) (by decide +kernel))) rfl
theorem q4_71 : Cond.code yX8_addText cX8_addText 3 (some .int) ∈ zT := zT_in (in_4 (List.mem_of_getElem? (i := 71) (by decide +kernel))) rfl
theorem q4_72 : Cond.arrayClass .byte ∈ zT := zT_in (in_4 (List.mem_of_getElem? (i := 72) (by decide +kernel))) rfl
theorem q4_73 : Cond.methodLink RL 113 yX9_textTold ∈ zT := zT_in (in_4 (List.mem_of_getElem? (i := 73) (by decide +kernel))) rfl
theorem q4_74 : Cond.instanceMethod yX9_textTold ∈ zT := zT_in (in_4 (List.mem_of_getElem? (i := 74) (by decide +kernel))) rfl
theorem q4_75 : Cond.selects RX9 yX9_textTold yX9_textTold ∈ zT := zT_in (in_4 (List.mem_of_getElem? (i := 75) (by decide +kernel))) rfl
theorem q4_76 : Cond.code yX9_textTold cX9_textTold 3 (some .int) ∈ zT := zT_in (in_4 (List.mem_of_getElem? (i := 76) (by decide +kernel))) rfl
theorem q4_77 : Cond.methodLink RL 117 yX9_why ∈ zT := zT_in (in_4 (List.mem_of_getElem? (i := 77) (by decide +kernel))) rfl
theorem q4_78 : Cond.instanceMethod yX9_why ∈ zT := zT_in (in_4 (List.mem_of_getElem? (i := 78) (by decide +kernel))) rfl
theorem q4_79 : Cond.selects RX9 yX9_why yX9_why ∈ zT := zT_in (in_4 (List.mem_of_getElem? (i := 79) (by decide +kernel))) rfl
theorem q4_80 : Cond.code yX9_why cX9_why 3 (some .int) ∈ zT := zT_in (in_4 (List.mem_of_getElem? (i := 80) (by decide +kernel))) rfl
theorem q4_81 : Cond.methodLink RL 121 yX9_sheet ∈ zT := zT_in (in_4 (List.mem_of_getElem? (i := 81) (by decide +kernel))) rfl
theorem q4_82 : Cond.instanceMethod yX9_sheet ∈ zT := zT_in (in_4 (List.mem_of_getElem? (i := 82) (by decide +kernel))) rfl
theorem q4_83 : Cond.selects RX9 yX9_sheet yX9_sheet ∈ zT := zT_in (in_4 (List.mem_of_getElem? (i := 83) (by decide +kernel))) rfl
theorem q4_84 : Cond.code yX9_sheet cX9_sheet 4 (some .int) ∈ zT := zT_in (in_4 (List.mem_of_getElem? (i := 84) (by decide +kernel))) rfl
theorem q4_85 : Cond.methodLink RX9 246 yX2_become ∈ zT := zT_in (in_4 (List.mem_of_getElem? (i := 85) (by decide +kernel))) rfl
theorem q4_86 : Cond.instanceMethod yX2_become ∈ zT := zT_in (in_4 (List.mem_of_getElem? (i := 86) (by decide +kernel))) rfl
theorem q4_87 : Cond.selects RX2 yX2_become yX2_become ∈ zT := zT_in (in_4 (List.mem_of_getElem? (i := 87) (by decide +kernel))) rfl
theorem q4_88 : Cond.code yX2_become cX2_become 4 none ∈ zT := zT_in (in_4 (List.mem_of_getElem? (i := 88) (by decide +kernel))) rfl
theorem q4_89 : Cond.constant RX9 249 (-1000000014) ∈ zT := zT_in (in_4 (List.mem_of_getElem? (i := 89) (by decide +kernel))) rfl
theorem q4_90 : Cond.methodLink RL 125 yX9_mark ∈ zT := zT_in (in_4 (List.mem_of_getElem? (i := 90) (by decide +kernel))) rfl
theorem q4_91 : Cond.instanceMethod yX9_mark ∈ zT := zT_in (in_4 (List.mem_of_getElem? (i := 91) (by decide +kernel))) rfl
theorem q4_92 : Cond.selects RX9 yX9_mark yX9_mark ∈ zT := zT_in (in_4 (List.mem_of_getElem? (i := 92) (by decide +kernel))) rfl
theorem q4_93 : Cond.code yX9_mark cX9_mark 5 (some .int) ∈ zT := zT_in (in_4 (List.mem_of_getElem? (i := 93) (by decide +kernel))) rfl
theorem q4_94 : Cond.methodLink RX9 250 yX2_hasPlace ∈ zT := zT_in (in_4 (List.mem_of_getElem? (i := 94) (by decide +kernel))) rfl
theorem q4_95 : Cond.instanceMethod yX2_hasPlace ∈ zT := zT_in (in_4 (List.mem_of_getElem? (i := 95) (by decide +kernel))) rfl
theorem q4_96 : Cond.selects RX2 yX2_hasPlace yX2_hasPlace ∈ zT := zT_in (in_4 (List.mem_of_getElem? (i := 96) (by decide +kernel))) rfl
theorem q4_97 : Cond.code yX2_hasPlace cX2_hasPlace 2 (some .boolean) ∈ zT := zT_in (in_4 (List.mem_of_getElem? (i := 97) (by decide +kernel))) rfl
theorem q4_98 : Cond.constant RX9 253 (-1000000013) ∈ zT := zT_in (in_4 (List.mem_of_getElem? (i := 98) (by decide +kernel))) rfl
theorem q4_99 : Cond.constant RX9 257 (-99999) ∈ zT := zT_in (in_4 (List.mem_of_getElem? (i := 99) (by decide +kernel))) rfl
theorem q4_100 : Cond.constant RX9 258 (99999) ∈ zT := zT_in (in_4 (List.mem_of_getElem? (i := 100) (by decide +kernel))) rfl
theorem q4_101 : Cond.methodLink RL 129 yX9_pour ∈ zT := zT_in (in_4 (List.mem_of_getElem? (i := 101) (by decide +kernel))) rfl
theorem q4_102 : Cond.instanceMethod yX9_pour ∈ zT := zT_in (in_4 (List.mem_of_getElem? (i := 102) (by decide +kernel))) rfl
theorem q4_103 : Cond.selects RX9 yX9_pour yX9_pour ∈ zT := zT_in (in_4 (List.mem_of_getElem? (i := 103) (by decide +kernel))) rfl
theorem q4_104 : Cond.code yX9_pour cX9_pour 7 (some .int) ∈ zT := zT_in (in_4 (List.mem_of_getElem? (i := 104) (by decide +kernel))) rfl
theorem q4_105 : Cond.methodLink RX9 260 yX9_held ∈ zT := zT_in (in_4 (List.mem_of_getElem? (i := 105) (by decide +kernel))) rfl
theorem q4_106 : Cond.methodLink RL 133 yX9_reads ∈ zT := zT_in (in_4 (List.mem_of_getElem? (i := 106) (by decide +kernel))) rfl
theorem q4_107 : Cond.instanceMethod yX9_reads ∈ zT := zT_in (in_4 (List.mem_of_getElem? (i := 107) (by decide +kernel))) rfl
theorem q4_108 : Cond.selects RX9 yX9_reads yX9_reads ∈ zT := zT_in (in_4 (List.mem_of_getElem? (i := 108) (by decide +kernel))) rfl
theorem q4_109 : Cond.code yX9_reads cX9_reads 4 (some .int) ∈ zT := zT_in (in_4 (List.mem_of_getElem? (i := 109) (by decide +kernel))) rfl
theorem q4_110 : Cond.methodLink RL 137 yX9_copy ∈ zT := zT_in (in_4 (List.mem_of_getElem? (i := 110) (by decide +kernel))) rfl
theorem q4_111 : Cond.instanceMethod yX9_copy ∈ zT := zT_in (in_4 (List.mem_of_getElem? (i := 111) (by decide +kernel))) rfl
theorem q4_112 : Cond.selects RX9 yX9_copy yX9_copy ∈ zT := zT_in (in_4 (List.mem_of_getElem? (i := 112) (by decide +kernel))) rfl
theorem q4_113 : Cond.code yX9_copy cX9_copy 8 (some .int) ∈ zT := zT_in (in_4 (List.mem_of_getElem? (i := 113) (by decide +kernel))) rfl
theorem q4_114 : Cond.methodLink RX9 263 yX2_hasRun ∈ zT := zT_in (in_4 (List.mem_of_getElem? (i := 114) (by decide +kernel))) rfl
theorem q4_115 : Cond.instanceMethod yX2_hasRun ∈ zT := zT_in (in_4 (List.mem_of_getElem? (i := 115) (by decide +kernel))) rfl
theorem q4_116 : Cond.selects RX2 yX2_hasRun yX2_hasRun ∈ zT := zT_in (in_4 (List.mem_of_getElem? (i := 116) (by decide +kernel))) rfl
theorem q4_117 : Cond.code yX2_hasRun cX2_hasRun 3 (some .boolean) ∈ zT := zT_in (in_4 (List.mem_of_getElem? (i := 117) (by decide +kernel))) rfl
theorem q4_118 : Cond.methodLink RX9 266 arraycopyName ∈ zT := zT_in (in_4 (List.mem_of_getElem? (i := 118) (by decide +kernel))) rfl
theorem q4_119 : Cond.methodLink RL 142 yX9_lay ∈ zT := zT_in (in_4 (List.mem_of_getElem? (i := 119) (by decide +kernel))) rfl
theorem q4_120 : Cond.instanceMethod yX9_lay ∈ zT := zT_in (in_4 (List.mem_of_getElem? (i := 120) (by decide +kernel))) rfl
theorem q4_121 : Cond.selects RX9 yX9_lay yX9_lay ∈ zT := zT_in (in_4 (List.mem_of_getElem? (i := 121) (by decide +kernel))) rfl
theorem q4_122 : Cond.code yX9_lay cX9_lay 6 (some .int) ∈ zT := zT_in (in_4 (List.mem_of_getElem? (i := 122) (by decide +kernel))) rfl
theorem q4_123 : Cond.methodLink RX9 272 yX9_isSlot ∈ zT := zT_in (in_4 (List.mem_of_getElem? (i := 123) (by decide +kernel))) rfl
theorem q4_124 : Cond.static yX9_isSlot ∈ zT := zT_in (in_4 (List.mem_of_getElem? (i := 124) (by decide +kernel))) rfl
theorem q4_125 : Cond.code yX9_isSlot cX9_isSlot 1 (some .boolean) ∈ zT := zT_in (in_4 (List.mem_of_getElem? (i := 125) (by decide +kernel))) rfl
theorem q4_126 : Cond.methodLink RX9 282 yX0_become ∈ zT := zT_in (in_4 (List.mem_of_getElem? (i := 126) (by decide +kernel))) rfl
theorem q4_127 : Cond.methodLink RX9 289 yX2_become_ ∈ zT := zT_in (in_4 (List.mem_of_getElem? (i := 127) (by decide +kernel))) rfl
theorem q4_128 : Cond.instanceMethod yX2_become_ ∈ zT := zT_in (in_4 (List.mem_of_getElem? (i := 128) (by decide +kernel))) rfl
theorem q4_129 : Cond.selects RX2 yX2_become_ yX2_become_ ∈ zT := zT_in (in_4 (List.mem_of_getElem? (i := 129) (by decide +kernel))) rfl
theorem q4_130 : Cond.code yX2_become_ cX2_become_ 2 none ∈ zT := zT_in (in_4 (List.mem_of_getElem? (i := 130) (by decide +kernel))) rfl
theorem q4_131 : Cond.methodLink RX2 22 arraycopyName ∈ zT := zT_in (in_4 (List.mem_of_getElem? (i := 131) (by decide +kernel))) rfl
theorem q4_132 : Cond.methodLink RL 146 yX9_ask ∈ zT := zT_in (in_4 (List.mem_of_getElem? (i := 132) (by decide +kernel))) rfl
theorem q4_133 : Cond.instanceMethod yX9_ask ∈ zT := zT_in (in_4 (List.mem_of_getElem? (i := 133) (by decide +kernel))) rfl
theorem q4_134 : Cond.selects RX9 yX9_ask yX9_ask ∈ zT := zT_in (in_4 (List.mem_of_getElem? (i := 134) (by decide +kernel))) rfl
theorem q4_135 : Cond.code yX9_ask cX9_ask 4 (some .int) ∈ zT := zT_in (in_4 (List.mem_of_getElem? (i := 135) (by decide +kernel))) rfl
theorem q4_136 : Cond.methodLink RL 150 yX9_item ∈ zT := zT_in (in_4 (List.mem_of_getElem? (i := 136) (by decide +kernel))) rfl
theorem q4_137 : Cond.instanceMethod yX9_item ∈ zT := zT_in (in_4 (List.mem_of_getElem? (i := 137) (by decide +kernel))) rfl
theorem q4_138 : Cond.selects RX9 yX9_item yX9_item ∈ zT := zT_in (in_4 (List.mem_of_getElem? (i := 138) (by decide +kernel))) rfl
theorem q4_139 : Cond.code yX9_item cX9_item 4 (some .int) ∈ zT := zT_in (in_4 (List.mem_of_getElem? (i := 139) (by decide +kernel))) rfl
theorem q4_140 : Cond.methodLink RL 154 yX9_rest ∈ zT := zT_in (in_4 (List.mem_of_getElem? (i := 140) (by decide +kernel))) rfl
theorem q4_141 : Cond.instanceMethod yX9_rest ∈ zT := zT_in (in_4 (List.mem_of_getElem? (i := 141) (by decide +kernel))) rfl
theorem q4_142 : Cond.selects RX9 yX9_rest yX9_rest ∈ zT := zT_in (in_4 (List.mem_of_getElem? (i := 142) (by decide +kernel))) rfl
theorem q4_143 : Cond.code yX9_rest cX9_rest 4 (some .int) ∈ zT := zT_in (in_4 (List.mem_of_getElem? (i := 143) (by decide +kernel))) rfl
theorem q4_144 : Cond.constant RX9 293 (-1000000002) ∈ zT := zT_in (in_4 (List.mem_of_getElem? (i := 144) (by decide +kernel))) rfl
theorem q4_145 : Cond.methodLink RL 158 yX9_tell ∈ zT := zT_in (in_4 (List.mem_of_getElem? (i := 145) (by decide +kernel))) rfl
theorem q4_146 : Cond.instanceMethod yX9_tell ∈ zT := zT_in (in_4 (List.mem_of_getElem? (i := 146) (by decide +kernel))) rfl
theorem q4_147 : Cond.selects RX9 yX9_tell yX9_tell ∈ zT := zT_in (in_4 (List.mem_of_getElem? (i := 147) (by decide +kernel))) rfl
theorem q4_148 : Cond.code yX9_tell cX9_tell 2 (some .int) ∈ zT := zT_in (in_4 (List.mem_of_getElem? (i := 148) (by decide +kernel))) rfl
theorem q4_149 : Cond.methodLink RL 162 yX9_check ∈ zT := zT_in (in_4 (List.mem_of_getElem? (i := 149) (by decide +kernel))) rfl
theorem q4_150 : Cond.instanceMethod yX9_check ∈ zT := zT_in (in_4 (List.mem_of_getElem? (i := 150) (by decide +kernel))) rfl
theorem q4_151 : Cond.selects RX9 yX9_check yX9_check ∈ zT := zT_in (in_4 (List.mem_of_getElem? (i := 151) (by decide +kernel))) rfl
theorem q4_152 : Cond.code yX9_check cX9_check 6 (some .int) ∈ zT := zT_in (in_4 (List.mem_of_getElem? (i := 152) (by decide +kernel))) rfl
theorem q4_153 : Cond.methodLink RL 166 yX9_keep ∈ zT := zT_in (in_4 (List.mem_of_getElem? (i := 153) (by decide +kernel))) rfl
theorem q4_154 : Cond.instanceMethod yX9_keep ∈ zT := zT_in (in_4 (List.mem_of_getElem? (i := 154) (by decide +kernel))) rfl
theorem q4_155 : Cond.selects RX9 yX9_keep yX9_keep ∈ zT := zT_in (in_4 (List.mem_of_getElem? (i := 155) (by decide +kernel))) rfl
theorem q4_156 : Cond.code yX9_keep cX9_keep 1 (some .int) ∈ zT := zT_in (in_4 (List.mem_of_getElem? (i := 156) (by decide +kernel))) rfl
theorem q4_157 : Cond.methodLink RX9 294 yX8_become ∈ zT := zT_in (in_4 (List.mem_of_getElem? (i := 157) (by decide +kernel))) rfl
theorem q4_158 : Cond.methodLink RL 170 yX9_back ∈ zT := zT_in (in_4 (List.mem_of_getElem? (i := 158) (by decide +kernel))) rfl
theorem q4_159 : Cond.instanceMethod yX9_back ∈ zT := zT_in (in_4 (List.mem_of_getElem? (i := 159) (by decide +kernel))) rfl
theorem q4_160 : Cond.selects RX9 yX9_back yX9_back ∈ zT := zT_in (in_4 (List.mem_of_getElem? (i := 160) (by decide +kernel))) rfl
theorem q4_161 : Cond.code yX9_back cX9_back 1 (some .int) ∈ zT := zT_in (in_4 (List.mem_of_getElem? (i := 161) (by decide +kernel))) rfl
theorem q4_162 : Cond.methodLink RL 174 yX9_count ∈ zT := zT_in (in_4 (List.mem_of_getElem? (i := 162) (by decide +kernel))) rfl
theorem q4_163 : Cond.instanceMethod yX9_count ∈ zT := zT_in (in_4 (List.mem_of_getElem? (i := 163) (by decide +kernel))) rfl
theorem q4_164 : Cond.selects RX9 yX9_count yX9_count ∈ zT := zT_in (in_4 (List.mem_of_getElem? (i := 164) (by decide +kernel))) rfl
theorem q4_165 : Cond.code yX9_count cX9_count 2 (some .int) ∈ zT := zT_in (in_4 (List.mem_of_getElem? (i := 165) (by decide +kernel))) rfl
theorem q4_166 : Cond.methodLink RX9 297 yX8_whoHear ∈ zT := zT_in (in_4 (List.mem_of_getElem? (i := 166) (by decide +kernel))) rfl
theorem q4_167 : Cond.instanceMethod yX8_whoHear ∈ zT := zT_in (in_4 (List.mem_of_getElem? (i := 167) (by decide +kernel))) rfl
theorem q4_168 : Cond.selects RX8 yX8_whoHear yX8_whoHear ∈ zT := zT_in (in_4 (List.mem_of_getElem? (i := 168) (by decide +kernel))) rfl
theorem q4_169 : Cond.code yX8_whoHear cX8_whoHear 3 (some .int) ∈ zT := zT_in (in_4 (List.mem_of_getElem? (i := 169) (by decide +kernel))) rfl
theorem q4_170 : Cond.classLink RL 10 RX10 ∈ zT := zT_in (in_4 (List.mem_of_getElem? (i := 170) (by decide +kernel))) rfl
theorem q4_171 : Cond.instantiable RX10 34 ∈ zT := zT_in (in_4 (List.mem_of_getElem? (i := 171) (by decide +kernel))) rfl
theorem q4_172 : Cond.methodLink RL 12 yX10_init ∈ zT := zT_in (in_4 (List.mem_of_getElem? (i := 172) (by decide +kernel))) rfl
theorem q4_173 : Cond.instanceMethod yX10_init ∈ zT := zT_in (in_4 (List.mem_of_getElem? (i := 173) (by decide +kernel))) rfl
theorem q4_174 : Cond.code yX10_init cX10_init 1 none ∈ zT := zT_in (in_4 (List.mem_of_getElem? (i := 174) (by decide +kernel))) rfl
theorem q4_175 : Cond.methodLink RX10 1 objectInit ∈ zT := zT_in (in_4 (List.mem_of_getElem? (i := 175) (by decide +kernel))) rfl
theorem q4_176 : Cond.fieldLink RX10 9 "MeanSafeModel" "now" "[I" ∈ zT := zT_in (in_4 (List.mem_of_getElem? (i := 176) (by decide +kernel))) rfl
theorem q4_177 : Cond.fieldLink RX10 13 "MeanSafeModel" "image" "[I" ∈ zT := zT_in (in_4 (List.mem_of_getElem? (i := 177) (by decide +kernel))) rfl
theorem q4_178 : Cond.fieldLink RX10 16 "MeanSafeModel" "aside" "[I" ∈ zT := zT_in (in_4 (List.mem_of_getElem? (i := 178) (by decide +kernel))) rfl
theorem q4_179 : Cond.fieldLink RX10 283 "MeanSafeModel" "hasImage" "Z" ∈ zT := zT_in (in_4 (List.mem_of_getElem? (i := 179) (by decide +kernel))) rfl
theorem q4_180 : Cond.fieldLink RX10 19 "MeanSafeModel" "before" "[I" ∈ zT := zT_in (in_4 (List.mem_of_getElem? (i := 180) (by decide +kernel))) rfl
theorem q4_181 : Cond.fieldLink RX10 22 "MeanSafeModel" "begins" "[I" ∈ zT := zT_in (in_4 (List.mem_of_getElem? (i := 181) (by decide +kernel))) rfl
theorem q4_182 : Cond.fieldLink RX10 25 "MeanSafeModel" "tape" "[I" ∈ zT := zT_in (in_4 (List.mem_of_getElem? (i := 182) (by decide +kernel))) rfl
theorem q4_183 : Cond.fieldLink RX10 205 "MeanSafeModel" "taped" "I" ∈ zT := zT_in (in_4 (List.mem_of_getElem? (i := 183) (by decide +kernel))) rfl
theorem q4_184 : Cond.fieldLink RX10 209 "MeanSafeModel" "next" "I" ∈ zT := zT_in (in_4 (List.mem_of_getElem? (i := 184) (by decide +kernel))) rfl
theorem q4_185 : Cond.fieldLink RX10 212 "MeanSafeModel" "from" "I" ∈ zT := zT_in (in_4 (List.mem_of_getElem? (i := 185) (by decide +kernel))) rfl
theorem q4_186 : Cond.fieldLink RX10 218 "MeanSafeModel" "token" "I" ∈ zT := zT_in (in_4 (List.mem_of_getElem? (i := 186) (by decide +kernel))) rfl
theorem q4_187 : Cond.fieldLink RX10 224 "MeanSafeModel" "value" "I" ∈ zT := zT_in (in_4 (List.mem_of_getElem? (i := 187) (by decide +kernel))) rfl
theorem q4_188 : Cond.fieldLink RX10 215 "MeanSafeModel" "ended" "I" ∈ zT := zT_in (in_4 (List.mem_of_getElem? (i := 188) (by decide +kernel))) rfl
theorem q4_189 : Cond.fieldLink RX10 230 "MeanSafeModel" "key" "I" ∈ zT := zT_in (in_4 (List.mem_of_getElem? (i := 189) (by decide +kernel))) rfl
theorem q4_190 : Cond.fieldLink RX10 28 "MeanSafeModel" "keys" "[C" ∈ zT := zT_in (in_4 (List.mem_of_getElem? (i := 190) (by decide +kernel))) rfl
theorem q4_191 : Cond.fieldLink RX10 32 "MeanSafeModel" "keyAt" "[I" ∈ zT := zT_in (in_4 (List.mem_of_getElem? (i := 191) (by decide +kernel))) rfl
theorem q4_192 : Cond.fieldLink RX10 35 "MeanSafeModel" "code" "[I" ∈ zT := zT_in (in_4 (List.mem_of_getElem? (i := 192) (by decide +kernel))) rfl
theorem q4_193 : Cond.fieldLink RX10 242 "MeanSafeModel" "codes" "I" ∈ zT := zT_in (in_4 (List.mem_of_getElem? (i := 193) (by decide +kernel))) rfl
theorem q4_194 : Cond.fieldLink RX10 248 "MeanSafeModel" "atoms" "I" ∈ zT := zT_in (in_4 (List.mem_of_getElem? (i := 194) (by decide +kernel))) rfl
theorem q4_195 : Cond.fieldLink RX10 38 "MeanSafeModel" "waits" "[I" ∈ zT := zT_in (in_4 (List.mem_of_getElem? (i := 195) (by decide +kernel))) rfl
theorem q4_196 : Cond.fieldLink RX10 236 "MeanSafeModel" "held" "I" ∈ zT := zT_in (in_4 (List.mem_of_getElem? (i := 196) (by decide +kernel))) rfl
theorem q4_197 : Cond.fieldLink RX10 41 "MeanSafeModel" "tested" "[Z" ∈ zT := zT_in (in_4 (List.mem_of_getElem? (i := 197) (by decide +kernel))) rfl
theorem q4_198 : Cond.fieldLink RX10 45 "MeanSafeModel" "stack" "[I" ∈ zT := zT_in (in_4 (List.mem_of_getElem? (i := 198) (by decide +kernel))) rfl
theorem q4_199 : Cond.fieldLink RX10 48 "MeanSafeModel" "facts" "[I" ∈ zT := zT_in (in_4 (List.mem_of_getElem? (i := 199) (by decide +kernel))) rfl
theorem q4_200 : Cond.fieldLink RX10 51 "MeanSafeModel" "sorts" "[I" ∈ zT := zT_in (in_4 (List.mem_of_getElem? (i := 200) (by decide +kernel))) rfl
theorem q4_201 : Cond.fieldLink RX10 54 "MeanSafeModel" "sizes" "[I" ∈ zT := zT_in (in_4 (List.mem_of_getElem? (i := 201) (by decide +kernel))) rfl
theorem q4_202 : Cond.fieldLink RX10 57 "MeanSafeModel" "cells" "[I" ∈ zT := zT_in (in_4 (List.mem_of_getElem? (i := 202) (by decide +kernel))) rfl
theorem q4_203 : Cond.fieldLink RX10 60 "MeanSafeModel" "holds" "[I" ∈ zT := zT_in (in_4 (List.mem_of_getElem? (i := 203) (by decide +kernel))) rfl
theorem q4_204 : Cond.fieldLink RX10 63 "MeanSafeModel" "holdsA" "[I" ∈ zT := zT_in (in_4 (List.mem_of_getElem? (i := 204) (by decide +kernel))) rfl
theorem q4_205 : Cond.fieldLink RX10 66 "MeanSafeModel" "holdsB" "[I" ∈ zT := zT_in (in_4 (List.mem_of_getElem? (i := 205) (by decide +kernel))) rfl
theorem q4_206 : Cond.fieldLink RX10 69 "MeanSafeModel" "heldCells" "[I" ∈ zT := zT_in (in_4 (List.mem_of_getElem? (i := 206) (by decide +kernel))) rfl
theorem q4_207 : Cond.fieldLink RX10 72 "MeanSafeModel" "moved" "[I" ∈ zT := zT_in (in_4 (List.mem_of_getElem? (i := 207) (by decide +kernel))) rfl
theorem q4_208 : Cond.fieldLink RX10 75 "MeanSafeModel" "told0" "[I" ∈ zT := zT_in (in_4 (List.mem_of_getElem? (i := 208) (by decide +kernel))) rfl
theorem q4_209 : Cond.fieldLink RX10 280 "MeanSafeModel" "waiting" "I" ∈ zT := zT_in (in_4 (List.mem_of_getElem? (i := 209) (by decide +kernel))) rfl
theorem q4_210 : Cond.laysFinal RX10 "MeanSafeModel" "now" "[I" ∈ zT := zT_in (in_4 (List.mem_of_getElem? (i := 210) (by decide +kernel))) rfl
theorem q4_212 : Cond.laysFinal RX10 "MeanSafeModel" "image" "[I" ∈ zT := zT_in (in_4 (List.mem_of_getElem? (i := 212) (by decide +kernel))) rfl
theorem q4_214 : Cond.laysFinal RX10 "MeanSafeModel" "aside" "[I" ∈ zT := zT_in (in_4 (List.mem_of_getElem? (i := 214) (by decide +kernel))) rfl
theorem q4_216 : Cond.lays RX10 "MeanSafeModel" "hasImage" "Z" ∈ zT := zT_in (in_4 (List.mem_of_getElem? (i := 216) (by decide +kernel))) rfl
theorem q4_218 : Cond.laysFinal RX10 "MeanSafeModel" "before" "[I" ∈ zT := zT_in (in_4 (List.mem_of_getElem? (i := 218) (by decide +kernel))) rfl
theorem q4_220 : Cond.laysFinal RX10 "MeanSafeModel" "begins" "[I" ∈ zT := zT_in (in_4 (List.mem_of_getElem? (i := 220) (by decide +kernel))) rfl
theorem q4_222 : Cond.laysFinal RX10 "MeanSafeModel" "tape" "[I" ∈ zT := zT_in (in_4 (List.mem_of_getElem? (i := 222) (by decide +kernel))) rfl
theorem q4_224 : Cond.lays RX10 "MeanSafeModel" "taped" "I" ∈ zT := zT_in (in_4 (List.mem_of_getElem? (i := 224) (by decide +kernel))) rfl
theorem q4_226 : Cond.lays RX10 "MeanSafeModel" "next" "I" ∈ zT := zT_in (in_4 (List.mem_of_getElem? (i := 226) (by decide +kernel))) rfl
theorem q4_228 : Cond.lays RX10 "MeanSafeModel" "from" "I" ∈ zT := zT_in (in_4 (List.mem_of_getElem? (i := 228) (by decide +kernel))) rfl
theorem q4_230 : Cond.lays RX10 "MeanSafeModel" "token" "I" ∈ zT := zT_in (in_4 (List.mem_of_getElem? (i := 230) (by decide +kernel))) rfl
theorem q4_232 : Cond.lays RX10 "MeanSafeModel" "value" "I" ∈ zT := zT_in (in_4 (List.mem_of_getElem? (i := 232) (by decide +kernel))) rfl
theorem q4_234 : Cond.lays RX10 "MeanSafeModel" "ended" "I" ∈ zT := zT_in (in_4 (List.mem_of_getElem? (i := 234) (by decide +kernel))) rfl
theorem q4_236 : Cond.lays RX10 "MeanSafeModel" "key" "I" ∈ zT := zT_in (in_4 (List.mem_of_getElem? (i := 236) (by decide +kernel))) rfl
theorem q4_238 : Cond.laysFinal RX10 "MeanSafeModel" "keys" "[C" ∈ zT := zT_in (in_4 (List.mem_of_getElem? (i := 238) (by decide +kernel))) rfl
theorem q5_0 : Cond.laysFinal RX10 "MeanSafeModel" "keyAt" "[I" ∈ zT := zT_in (in_5 (List.mem_of_getElem? (i := 0) (by decide +kernel))) rfl
theorem q5_2 : Cond.laysFinal RX10 "MeanSafeModel" "code" "[I" ∈ zT := zT_in (in_5 (List.mem_of_getElem? (i := 2) (by decide +kernel))) rfl
theorem q5_4 : Cond.lays RX10 "MeanSafeModel" "codes" "I" ∈ zT := zT_in (in_5 (List.mem_of_getElem? (i := 4) (by decide +kernel))) rfl
theorem q5_6 : Cond.lays RX10 "MeanSafeModel" "atoms" "I" ∈ zT := zT_in (in_5 (List.mem_of_getElem? (i := 6) (by decide +kernel))) rfl
theorem q5_8 : Cond.laysFinal RX10 "MeanSafeModel" "waits" "[I" ∈ zT := zT_in (in_5 (List.mem_of_getElem? (i := 8) (by decide +kernel))) rfl
theorem q5_10 : Cond.lays RX10 "MeanSafeModel" "held" "I" ∈ zT := zT_in (in_5 (List.mem_of_getElem? (i := 10) (by decide +kernel))) rfl
theorem q5_12 : Cond.laysFinal RX10 "MeanSafeModel" "tested" "[Z" ∈ zT := zT_in (in_5 (List.mem_of_getElem? (i := 12) (by decide +kernel))) rfl
theorem q5_14 : Cond.laysFinal RX10 "MeanSafeModel" "stack" "[I" ∈ zT := zT_in (in_5 (List.mem_of_getElem? (i := 14) (by decide +kernel))) rfl
theorem q5_16 : Cond.laysFinal RX10 "MeanSafeModel" "facts" "[I" ∈ zT := zT_in (in_5 (List.mem_of_getElem? (i := 16) (by decide +kernel))) rfl
theorem q5_18 : Cond.laysFinal RX10 "MeanSafeModel" "sorts" "[I" ∈ zT := zT_in (in_5 (List.mem_of_getElem? (i := 18) (by decide +kernel))) rfl
theorem q5_20 : Cond.laysFinal RX10 "MeanSafeModel" "sizes" "[I" ∈ zT := zT_in (in_5 (List.mem_of_getElem? (i := 20) (by decide +kernel))) rfl
theorem q5_22 : Cond.laysFinal RX10 "MeanSafeModel" "cells" "[I" ∈ zT := zT_in (in_5 (List.mem_of_getElem? (i := 22) (by decide +kernel))) rfl
theorem q5_24 : Cond.laysFinal RX10 "MeanSafeModel" "holds" "[I" ∈ zT := zT_in (in_5 (List.mem_of_getElem? (i := 24) (by decide +kernel))) rfl
theorem q5_26 : Cond.laysFinal RX10 "MeanSafeModel" "holdsA" "[I" ∈ zT := zT_in (in_5 (List.mem_of_getElem? (i := 26) (by decide +kernel))) rfl
theorem q5_28 : Cond.laysFinal RX10 "MeanSafeModel" "holdsB" "[I" ∈ zT := zT_in (in_5 (List.mem_of_getElem? (i := 28) (by decide +kernel))) rfl
theorem q5_30 : Cond.laysFinal RX10 "MeanSafeModel" "heldCells" "[I" ∈ zT := zT_in (in_5 (List.mem_of_getElem? (i := 30) (by decide +kernel))) rfl
theorem q5_32 : Cond.laysFinal RX10 "MeanSafeModel" "moved" "[I" ∈ zT := zT_in (in_5 (List.mem_of_getElem? (i := 32) (by decide +kernel))) rfl
theorem q5_34 : Cond.laysFinal RX10 "MeanSafeModel" "told0" "[I" ∈ zT := zT_in (in_5 (List.mem_of_getElem? (i := 34) (by decide +kernel))) rfl
theorem q5_36 : Cond.lays RX10 "MeanSafeModel" "waiting" "I" ∈ zT := zT_in (in_5 (List.mem_of_getElem? (i := 36) (by decide +kernel))) rfl
theorem q5_39 : Cond.arrayClass .char ∈ zT := zT_in (in_5 (List.mem_of_getElem? (i := 39) (by decide +kernel))) rfl
theorem q5_40 : Cond.arrayClass .boolean ∈ zT := zT_in (in_5 (List.mem_of_getElem? (i := 40) (by decide +kernel))) rfl
theorem q5_41 : Cond.methodLink RL 17 yX10_person ∈ zT := zT_in (in_5 (List.mem_of_getElem? (i := 41) (by decide +kernel))) rfl
theorem q5_42 : Cond.instanceMethod yX10_person ∈ zT := zT_in (in_5 (List.mem_of_getElem? (i := 42) (by decide +kernel))) rfl
theorem q5_43 : Cond.selects RX10 yX10_person yX10_person ∈ zT := zT_in (in_5 (List.mem_of_getElem? (i := 43) (by decide +kernel))) rfl
theorem q5_44 : Cond.code yX10_person cX10_person 4 (some .int) ∈ zT := zT_in (in_5 (List.mem_of_getElem? (i := 44) (by decide +kernel))) rfl
theorem q5_45 : Cond.methodLink RX10 78 yX10_in ∈ zT := zT_in (in_5 (List.mem_of_getElem? (i := 45) (by decide +kernel))) rfl
theorem q5_46 : Cond.static yX10_in ∈ zT := zT_in (in_5 (List.mem_of_getElem? (i := 46) (by decide +kernel))) rfl
theorem q5_47 : Cond.code yX10_in cX10_in 3 (some .boolean) ∈ zT := zT_in (in_5 (List.mem_of_getElem? (i := 47) (by decide +kernel))) rfl
theorem q5_48 : Cond.constant RX10 86 (-1000000001) ∈ zT := zT_in (in_5 (List.mem_of_getElem? (i := 48) (by decide +kernel))) rfl
theorem q5_49 : Cond.constant RX10 87 (-1000000003) ∈ zT := zT_in (in_5 (List.mem_of_getElem? (i := 49) (by decide +kernel))) rfl
theorem q5_50 : Cond.methodLink RX10 88 yX10_comes ∈ zT := zT_in (in_5 (List.mem_of_getElem? (i := 50) (by decide +kernel))) rfl
theorem q5_52 : Cond.instanceMethod yX10_comes ∈ zT := zT_in (in_5 (List.mem_of_getElem? (i := 52) (by decide +kernel))) rfl
theorem q5_53 : Cond.code yX10_comes cX10_comes 6 (some .int) ∈ zT := zT_in (in_5 (List.mem_of_getElem? (i := 53) (by decide +kernel))) rfl
theorem q5_54 : Cond.methodLink RX10 82 yX10_put ∈ zT := zT_in (in_5 (List.mem_of_getElem? (i := 54) (by decide +kernel))) rfl
theorem q5_56 : Cond.instanceMethod yX10_put ∈ zT := zT_in (in_5 (List.mem_of_getElem? (i := 56) (by decide +kernel))) rfl
theorem q5_57 : Cond.code yX10_put cX10_put 4 none ∈ zT := zT_in (in_5 (List.mem_of_getElem? (i := 57) (by decide +kernel))) rfl
theorem q5_58 : Cond.methodLink RL 22 yX10_told ∈ zT := zT_in (in_5 (List.mem_of_getElem? (i := 58) (by decide +kernel))) rfl
theorem q5_59 : Cond.instanceMethod yX10_told ∈ zT := zT_in (in_5 (List.mem_of_getElem? (i := 59) (by decide +kernel))) rfl
theorem q5_60 : Cond.selects RX10 yX10_told yX10_told ∈ zT := zT_in (in_5 (List.mem_of_getElem? (i := 60) (by decide +kernel))) rfl
theorem q5_61 : Cond.code yX10_told cX10_told 3 (some .int) ∈ zT := zT_in (in_5 (List.mem_of_getElem? (i := 61) (by decide +kernel))) rfl
theorem q5_62 : Cond.methodLink RX10 107 yX10_isOne ∈ zT := zT_in (in_5 (List.mem_of_getElem? (i := 62) (by decide +kernel))) rfl
theorem q5_64 : Cond.instanceMethod yX10_isOne ∈ zT := zT_in (in_5 (List.mem_of_getElem? (i := 64) (by decide +kernel))) rfl
theorem q5_65 : Cond.code yX10_isOne cX10_isOne 2 (some .boolean) ∈ zT := zT_in (in_5 (List.mem_of_getElem? (i := 65) (by decide +kernel))) rfl
theorem q5_66 : Cond.methodLink RX10 96 yX10_of ∈ zT := zT_in (in_5 (List.mem_of_getElem? (i := 66) (by decide +kernel))) rfl
theorem q5_68 : Cond.instanceMethod yX10_of ∈ zT := zT_in (in_5 (List.mem_of_getElem? (i := 68) (by decide +kernel))) rfl
theorem q5_69 : Cond.code yX10_of cX10_of 3 (some .int) ∈ zT := zT_in (in_5 (List.mem_of_getElem? (i := 69) (by decide +kernel))) rfl
theorem q5_70 : Cond.methodLink RX10 111 yX10_setsTo ∈ zT := zT_in (in_5 (List.mem_of_getElem? (i := 70) (by decide +kernel))) rfl
theorem q5_72 : Cond.instanceMethod yX10_setsTo ∈ zT := zT_in (in_5 (List.mem_of_getElem? (i := 72) (by decide +kernel))) rfl
theorem q5_73 : Cond.code yX10_setsTo cX10_setsTo 5 (some .int) ∈ zT := zT_in (in_5 (List.mem_of_getElem? (i := 73) (by decide +kernel))) rfl
theorem q5_74 : Cond.methodLink RX10 92 yX10_counts ∈ zT := zT_in (in_5 (List.mem_of_getElem? (i := 74) (by decide +kernel))) rfl
theorem q5_76 : Cond.instanceMethod yX10_counts ∈ zT := zT_in (in_5 (List.mem_of_getElem? (i := 76) (by decide +kernel))) rfl
theorem q5_77 : Cond.code yX10_counts cX10_counts 3 (some .int) ∈ zT := zT_in (in_5 (List.mem_of_getElem? (i := 77) (by decide +kernel))) rfl
theorem q5_78 : Cond.methodLink RX10 100 yX10_worksOut ∈ zT := zT_in (in_5 (List.mem_of_getElem? (i := 78) (by decide +kernel))) rfl
theorem q5_80 : Cond.instanceMethod yX10_worksOut ∈ zT := zT_in (in_5 (List.mem_of_getElem? (i := 80) (by decide +kernel))) rfl
theorem q5_81 : Cond.code yX10_worksOut cX10_worksOut 6 (some .int) ∈ zT := zT_in (in_5 (List.mem_of_getElem? (i := 81) (by decide +kernel))) rfl
theorem q5_82 : Cond.methodLink RX10 269 yX10_two ∈ zT := zT_in (in_5 (List.mem_of_getElem? (i := 82) (by decide +kernel))) rfl
theorem q5_83 : Cond.static yX10_two ∈ zT := zT_in (in_5 (List.mem_of_getElem? (i := 83) (by decide +kernel))) rfl
theorem q5_84 : Cond.code yX10_two cX10_two 3 (some .int) ∈ zT := zT_in (in_5 (List.mem_of_getElem? (i := 84) (by decide +kernel))) rfl
theorem q5_85 : Cond.methodLink RX10 103 yX10_within ∈ zT := zT_in (in_5 (List.mem_of_getElem? (i := 85) (by decide +kernel))) rfl
theorem q5_86 : Cond.static yX10_within ∈ zT := zT_in (in_5 (List.mem_of_getElem? (i := 86) (by decide +kernel))) rfl
theorem q5_87 : Cond.code yX10_within cX10_within 3 (some .int) ∈ zT := zT_in (in_5 (List.mem_of_getElem? (i := 87) (by decide +kernel))) rfl
theorem q5_88 : Cond.methodLink RX10 114 yX10_worthOf ∈ zT := zT_in (in_5 (List.mem_of_getElem? (i := 88) (by decide +kernel))) rfl
theorem q5_90 : Cond.instanceMethod yX10_worthOf ∈ zT := zT_in (in_5 (List.mem_of_getElem? (i := 90) (by decide +kernel))) rfl
theorem q5_91 : Cond.code yX10_worthOf cX10_worthOf 3 (some .int) ∈ zT := zT_in (in_5 (List.mem_of_getElem? (i := 91) (by decide +kernel))) rfl
theorem q5_92 : Cond.methodLink RL 26 yX10_as ∈ zT := zT_in (in_5 (List.mem_of_getElem? (i := 92) (by decide +kernel))) rfl
theorem q5_93 : Cond.instanceMethod yX10_as ∈ zT := zT_in (in_5 (List.mem_of_getElem? (i := 93) (by decide +kernel))) rfl
theorem q5_94 : Cond.selects RX10 yX10_as yX10_as ∈ zT := zT_in (in_5 (List.mem_of_getElem? (i := 94) (by decide +kernel))) rfl
theorem q5_95 : Cond.code yX10_as cX10_as 3 (some .int) ∈ zT := zT_in (in_5 (List.mem_of_getElem? (i := 95) (by decide +kernel))) rfl
theorem q5_96 : Cond.methodLink RX10 117 yX10_isUnder ∈ zT := zT_in (in_5 (List.mem_of_getElem? (i := 96) (by decide +kernel))) rfl
theorem q5_97 : Cond.static yX10_isUnder ∈ zT := zT_in (in_5 (List.mem_of_getElem? (i := 97) (by decide +kernel))) rfl
theorem q5_98 : Cond.code yX10_isUnder cX10_isUnder 2 (some .boolean) ∈ zT := zT_in (in_5 (List.mem_of_getElem? (i := 98) (by decide +kernel))) rfl
theorem q5_99 : Cond.constant RX10 121 (-1000000012) ∈ zT := zT_in (in_5 (List.mem_of_getElem? (i := 99) (by decide +kernel))) rfl
theorem q5_100 : Cond.methodLink RL 30 yX10_turns ∈ zT := zT_in (in_5 (List.mem_of_getElem? (i := 100) (by decide +kernel))) rfl
theorem q5_101 : Cond.instanceMethod yX10_turns ∈ zT := zT_in (in_5 (List.mem_of_getElem? (i := 101) (by decide +kernel))) rfl
theorem q5_102 : Cond.selects RX10 yX10_turns yX10_turns ∈ zT := zT_in (in_5 (List.mem_of_getElem? (i := 102) (by decide +kernel))) rfl
theorem q5_103 : Cond.code yX10_turns cX10_turns 3 (some .int) ∈ zT := zT_in (in_5 (List.mem_of_getElem? (i := 103) (by decide +kernel))) rfl
theorem q5_104 : Cond.methodLink RX10 122 yX10_becomes ∈ zT := zT_in (in_5 (List.mem_of_getElem? (i := 104) (by decide +kernel))) rfl
theorem q5_106 : Cond.instanceMethod yX10_becomes ∈ zT := zT_in (in_5 (List.mem_of_getElem? (i := 106) (by decide +kernel))) rfl
theorem q5_107 : Cond.code yX10_becomes cX10_becomes 4 (some .int) ∈ zT := zT_in (in_5 (List.mem_of_getElem? (i := 107) (by decide +kernel))) rfl
theorem q5_108 : Cond.methodLink RL 34 yX10_set ∈ zT := zT_in (in_5 (List.mem_of_getElem? (i := 108) (by decide +kernel))) rfl
theorem q5_109 : Cond.instanceMethod yX10_set ∈ zT := zT_in (in_5 (List.mem_of_getElem? (i := 109) (by decide +kernel))) rfl
theorem q5_110 : Cond.selects RX10 yX10_set yX10_set ∈ zT := zT_in (in_5 (List.mem_of_getElem? (i := 110) (by decide +kernel))) rfl
theorem q5_111 : Cond.code yX10_set cX10_set 4 (some .int) ∈ zT := zT_in (in_5 (List.mem_of_getElem? (i := 111) (by decide +kernel))) rfl
theorem q5_112 : Cond.methodLink RX10 125 yX10_leastOf ∈ zT := zT_in (in_5 (List.mem_of_getElem? (i := 112) (by decide +kernel))) rfl
theorem q5_113 : Cond.static yX10_leastOf ∈ zT := zT_in (in_5 (List.mem_of_getElem? (i := 113) (by decide +kernel))) rfl
theorem q5_114 : Cond.code yX10_leastOf cX10_leastOf 1 (some .int) ∈ zT := zT_in (in_5 (List.mem_of_getElem? (i := 114) (by decide +kernel))) rfl
theorem q5_115 : Cond.methodLink RX10 128 yX10_mostOf ∈ zT := zT_in (in_5 (List.mem_of_getElem? (i := 115) (by decide +kernel))) rfl
theorem q5_116 : Cond.static yX10_mostOf ∈ zT := zT_in (in_5 (List.mem_of_getElem? (i := 116) (by decide +kernel))) rfl
theorem q5_117 : Cond.code yX10_mostOf cX10_mostOf 1 (some .int) ∈ zT := zT_in (in_5 (List.mem_of_getElem? (i := 117) (by decide +kernel))) rfl
theorem q5_118 : Cond.methodLink RL 39 yX10_forget ∈ zT := zT_in (in_5 (List.mem_of_getElem? (i := 118) (by decide +kernel))) rfl
theorem q5_119 : Cond.instanceMethod yX10_forget ∈ zT := zT_in (in_5 (List.mem_of_getElem? (i := 119) (by decide +kernel))) rfl
theorem q5_120 : Cond.selects RX10 yX10_forget yX10_forget ∈ zT := zT_in (in_5 (List.mem_of_getElem? (i := 120) (by decide +kernel))) rfl
theorem q5_121 : Cond.code yX10_forget cX10_forget 3 (some .int) ∈ zT := zT_in (in_5 (List.mem_of_getElem? (i := 121) (by decide +kernel))) rfl
theorem q5_122 : Cond.methodLink RX10 131 yX10_believesAll ∈ zT := zT_in (in_5 (List.mem_of_getElem? (i := 122) (by decide +kernel))) rfl
theorem q5_124 : Cond.instanceMethod yX10_believesAll ∈ zT := zT_in (in_5 (List.mem_of_getElem? (i := 124) (by decide +kernel))) rfl
theorem q5_125 : Cond.code yX10_believesAll cX10_believesAll 2 none ∈ zT := zT_in (in_5 (List.mem_of_getElem? (i := 125) (by decide +kernel))) rfl
theorem q5_126 : Cond.methodLink RL 44 yX10_deal ∈ zT := zT_in (in_5 (List.mem_of_getElem? (i := 126) (by decide +kernel))) rfl
theorem q5_127 : Cond.instanceMethod yX10_deal ∈ zT := zT_in (in_5 (List.mem_of_getElem? (i := 127) (by decide +kernel))) rfl
theorem q5_128 : Cond.selects RX10 yX10_deal yX10_deal ∈ zT := zT_in (in_5 (List.mem_of_getElem? (i := 128) (by decide +kernel))) rfl
theorem q5_129 : Cond.code yX10_deal cX10_deal 7 (some .int) ∈ zT := zT_in (in_5 (List.mem_of_getElem? (i := 129) (by decide +kernel))) rfl
theorem q5_130 : Cond.methodLink RX10 136 yX10_draw ∈ zT := zT_in (in_5 (List.mem_of_getElem? (i := 130) (by decide +kernel))) rfl
theorem q5_132 : Cond.instanceMethod yX10_draw ∈ zT := zT_in (in_5 (List.mem_of_getElem? (i := 132) (by decide +kernel))) rfl
theorem q5_133 : Cond.code yX10_draw cX10_draw 1 (some .int) ∈ zT := zT_in (in_5 (List.mem_of_getElem? (i := 133) (by decide +kernel))) rfl
theorem q5_134 : Cond.constant RX10 135 (1103515245) ∈ zT := zT_in (in_5 (List.mem_of_getElem? (i := 134) (by decide +kernel))) rfl
theorem q5_135 : Cond.methodLink RL 48 yX10_seed ∈ zT := zT_in (in_5 (List.mem_of_getElem? (i := 135) (by decide +kernel))) rfl
theorem q5_136 : Cond.instanceMethod yX10_seed ∈ zT := zT_in (in_5 (List.mem_of_getElem? (i := 136) (by decide +kernel))) rfl
theorem q5_137 : Cond.selects RX10 yX10_seed yX10_seed ∈ zT := zT_in (in_5 (List.mem_of_getElem? (i := 137) (by decide +kernel))) rfl
theorem q5_138 : Cond.code yX10_seed cX10_seed 2 (some .int) ∈ zT := zT_in (in_5 (List.mem_of_getElem? (i := 138) (by decide +kernel))) rfl
theorem q5_139 : Cond.methodLink RL 52 yX10_safe ∈ zT := zT_in (in_5 (List.mem_of_getElem? (i := 139) (by decide +kernel))) rfl
theorem q5_140 : Cond.instanceMethod yX10_safe ∈ zT := zT_in (in_5 (List.mem_of_getElem? (i := 140) (by decide +kernel))) rfl
theorem q5_141 : Cond.selects RX10 yX10_safe yX10_safe ∈ zT := zT_in (in_5 (List.mem_of_getElem? (i := 141) (by decide +kernel))) rfl
theorem q5_142 : Cond.code yX10_safe cX10_safe 3 (some .int) ∈ zT := zT_in (in_5 (List.mem_of_getElem? (i := 142) (by decide +kernel))) rfl
theorem q5_143 : Cond.methodLink RL 56 yX10_says ∈ zT := zT_in (in_5 (List.mem_of_getElem? (i := 143) (by decide +kernel))) rfl
theorem q5_144 : Cond.instanceMethod yX10_says ∈ zT := zT_in (in_5 (List.mem_of_getElem? (i := 144) (by decide +kernel))) rfl
theorem q5_145 : Cond.selects RX10 yX10_says yX10_says ∈ zT := zT_in (in_5 (List.mem_of_getElem? (i := 145) (by decide +kernel))) rfl
theorem q5_146 : Cond.code yX10_says cX10_says 1 (some .int) ∈ zT := zT_in (in_5 (List.mem_of_getElem? (i := 146) (by decide +kernel))) rfl
theorem q5_147 : Cond.methodLink RX10 155 yX10_saysNow ∈ zT := zT_in (in_5 (List.mem_of_getElem? (i := 147) (by decide +kernel))) rfl
theorem q5_149 : Cond.instanceMethod yX10_saysNow ∈ zT := zT_in (in_5 (List.mem_of_getElem? (i := 149) (by decide +kernel))) rfl
theorem q5_150 : Cond.code yX10_saysNow cX10_saysNow 1 (some .int) ∈ zT := zT_in (in_5 (List.mem_of_getElem? (i := 150) (by decide +kernel))) rfl
theorem q5_151 : Cond.methodLink RX10 146 yX10_mean ∈ zT := zT_in (in_5 (List.mem_of_getElem? (i := 151) (by decide +kernel))) rfl
theorem q5_153 : Cond.instanceMethod yX10_mean ∈ zT := zT_in (in_5 (List.mem_of_getElem? (i := 153) (by decide +kernel))) rfl
theorem q5_154 : Cond.code yX10_mean cX10_mean 3 (some .int) ∈ zT := zT_in (in_5 (List.mem_of_getElem? (i := 154) (by decide +kernel))) rfl
theorem q5_155 : Cond.methodLink RX10 140 yX10_weights ∈ zT := zT_in (in_5 (List.mem_of_getElem? (i := 155) (by decide +kernel))) rfl
theorem q5_157 : Cond.instanceMethod yX10_weights ∈ zT := zT_in (in_5 (List.mem_of_getElem? (i := 157) (by decide +kernel))) rfl
theorem q5_158 : Cond.code yX10_weights cX10_weights 3 (some .int) ∈ zT := zT_in (in_5 (List.mem_of_getElem? (i := 158) (by decide +kernel))) rfl
theorem q5_159 : Cond.methodLink RX10 149 yX10_middle ∈ zT := zT_in (in_5 (List.mem_of_getElem? (i := 159) (by decide +kernel))) rfl
theorem q5_161 : Cond.instanceMethod yX10_middle ∈ zT := zT_in (in_5 (List.mem_of_getElem? (i := 161) (by decide +kernel))) rfl
theorem q5_162 : Cond.code yX10_middle cX10_middle 5 (some .int) ∈ zT := zT_in (in_5 (List.mem_of_getElem? (i := 162) (by decide +kernel))) rfl
theorem q5_163 : Cond.methodLink RX10 143 yX10_upTo ∈ zT := zT_in (in_5 (List.mem_of_getElem? (i := 163) (by decide +kernel))) rfl
theorem q5_165 : Cond.instanceMethod yX10_upTo ∈ zT := zT_in (in_5 (List.mem_of_getElem? (i := 165) (by decide +kernel))) rfl
theorem q5_166 : Cond.code yX10_upTo cX10_upTo 4 (some .int) ∈ zT := zT_in (in_5 (List.mem_of_getElem? (i := 166) (by decide +kernel))) rfl
theorem q5_167 : Cond.methodLink RX10 152 yX10_greatest ∈ zT := zT_in (in_5 (List.mem_of_getElem? (i := 167) (by decide +kernel))) rfl
theorem q5_169 : Cond.instanceMethod yX10_greatest ∈ zT := zT_in (in_5 (List.mem_of_getElem? (i := 169) (by decide +kernel))) rfl
theorem q5_170 : Cond.code yX10_greatest cX10_greatest 3 (some .int) ∈ zT := zT_in (in_5 (List.mem_of_getElem? (i := 170) (by decide +kernel))) rfl
theorem q5_171 : Cond.methodLink RL 60 yX10_tries ∈ zT := zT_in (in_5 (List.mem_of_getElem? (i := 171) (by decide +kernel))) rfl
theorem q5_172 : Cond.instanceMethod yX10_tries ∈ zT := zT_in (in_5 (List.mem_of_getElem? (i := 172) (by decide +kernel))) rfl
theorem q5_173 : Cond.selects RX10 yX10_tries yX10_tries ∈ zT := zT_in (in_5 (List.mem_of_getElem? (i := 173) (by decide +kernel))) rfl
theorem q5_174 : Cond.code yX10_tries cX10_tries 2 (some .int) ∈ zT := zT_in (in_5 (List.mem_of_getElem? (i := 174) (by decide +kernel))) rfl
theorem q5_175 : Cond.methodLink RX10 172 yX10_goesOn ∈ zT := zT_in (in_5 (List.mem_of_getElem? (i := 175) (by decide +kernel))) rfl
theorem q5_177 : Cond.instanceMethod yX10_goesOn ∈ zT := zT_in (in_5 (List.mem_of_getElem? (i := 177) (by decide +kernel))) rfl
theorem q5_178 : Cond.code yX10_goesOn cX10_goesOn 4 (some .int) ∈ zT := zT_in (in_5 (List.mem_of_getElem? (i := 178) (by decide +kernel))) rfl
theorem q5_179 : Cond.methodLink RX10 169 yX10_aTry ∈ zT := zT_in (in_5 (List.mem_of_getElem? (i := 179) (by decide +kernel))) rfl
theorem q5_181 : Cond.instanceMethod yX10_aTry ∈ zT := zT_in (in_5 (List.mem_of_getElem? (i := 181) (by decide +kernel))) rfl
theorem q5_182 : Cond.code yX10_aTry cX10_aTry 2 (some .int) ∈ zT := zT_in (in_5 (List.mem_of_getElem? (i := 182) (by decide +kernel))) rfl
theorem q5_183 : Cond.methodLink RX10 162 yX10_isStill ∈ zT := zT_in (in_5 (List.mem_of_getElem? (i := 183) (by decide +kernel))) rfl
theorem q5_185 : Cond.instanceMethod yX10_isStill ∈ zT := zT_in (in_5 (List.mem_of_getElem? (i := 185) (by decide +kernel))) rfl
theorem q5_186 : Cond.code yX10_isStill cX10_isStill 1 (some .boolean) ∈ zT := zT_in (in_5 (List.mem_of_getElem? (i := 186) (by decide +kernel))) rfl
theorem q5_187 : Cond.methodLink RX10 166 yX10_turn ∈ zT := zT_in (in_5 (List.mem_of_getElem? (i := 187) (by decide +kernel))) rfl
theorem q5_189 : Cond.instanceMethod yX10_turn ∈ zT := zT_in (in_5 (List.mem_of_getElem? (i := 189) (by decide +kernel))) rfl
theorem q5_190 : Cond.code yX10_turn cX10_turn 3 (some .int) ∈ zT := zT_in (in_5 (List.mem_of_getElem? (i := 190) (by decide +kernel))) rfl
theorem q5_191 : Cond.methodLink RX10 158 yX10_hears ∈ zT := zT_in (in_5 (List.mem_of_getElem? (i := 191) (by decide +kernel))) rfl
theorem q5_193 : Cond.instanceMethod yX10_hears ∈ zT := zT_in (in_5 (List.mem_of_getElem? (i := 193) (by decide +kernel))) rfl
theorem q5_194 : Cond.code yX10_hears cX10_hears 3 none ∈ zT := zT_in (in_5 (List.mem_of_getElem? (i := 194) (by decide +kernel))) rfl
theorem q5_195 : Cond.methodLink RL 64 yX10_needs ∈ zT := zT_in (in_5 (List.mem_of_getElem? (i := 195) (by decide +kernel))) rfl
theorem q5_196 : Cond.instanceMethod yX10_needs ∈ zT := zT_in (in_5 (List.mem_of_getElem? (i := 196) (by decide +kernel))) rfl
theorem q5_197 : Cond.selects RX10 yX10_needs yX10_needs ∈ zT := zT_in (in_5 (List.mem_of_getElem? (i := 197) (by decide +kernel))) rfl
theorem q5_198 : Cond.code yX10_needs cX10_needs 3 (some .int) ∈ zT := zT_in (in_5 (List.mem_of_getElem? (i := 198) (by decide +kernel))) rfl
theorem q5_199 : Cond.methodLink RX10 182 yX10_needsBy ∈ zT := zT_in (in_5 (List.mem_of_getElem? (i := 199) (by decide +kernel))) rfl
theorem q5_201 : Cond.instanceMethod yX10_needsBy ∈ zT := zT_in (in_5 (List.mem_of_getElem? (i := 201) (by decide +kernel))) rfl
theorem q5_202 : Cond.code yX10_needsBy cX10_needsBy 3 (some .int) ∈ zT := zT_in (in_5 (List.mem_of_getElem? (i := 202) (by decide +kernel))) rfl
theorem q5_203 : Cond.methodLink RX10 175 yX10_takes ∈ zT := zT_in (in_5 (List.mem_of_getElem? (i := 203) (by decide +kernel))) rfl
theorem q5_205 : Cond.instanceMethod yX10_takes ∈ zT := zT_in (in_5 (List.mem_of_getElem? (i := 205) (by decide +kernel))) rfl
theorem q5_206 : Cond.code yX10_takes cX10_takes 4 none ∈ zT := zT_in (in_5 (List.mem_of_getElem? (i := 206) (by decide +kernel))) rfl
theorem q5_207 : Cond.methodLink RX10 179 yX10_needsOf ∈ zT := zT_in (in_5 (List.mem_of_getElem? (i := 207) (by decide +kernel))) rfl
theorem q5_209 : Cond.instanceMethod yX10_needsOf ∈ zT := zT_in (in_5 (List.mem_of_getElem? (i := 209) (by decide +kernel))) rfl
theorem q5_210 : Cond.code yX10_needsOf cX10_needsOf 4 (some .int) ∈ zT := zT_in (in_5 (List.mem_of_getElem? (i := 210) (by decide +kernel))) rfl
theorem q5_211 : Cond.constant RX10 185 (-1000000005) ∈ zT := zT_in (in_5 (List.mem_of_getElem? (i := 211) (by decide +kernel))) rfl
theorem q5_212 : Cond.methodLink RL 68 yX10_worst ∈ zT := zT_in (in_5 (List.mem_of_getElem? (i := 212) (by decide +kernel))) rfl
theorem q5_213 : Cond.instanceMethod yX10_worst ∈ zT := zT_in (in_5 (List.mem_of_getElem? (i := 213) (by decide +kernel))) rfl
theorem q5_214 : Cond.selects RX10 yX10_worst yX10_worst ∈ zT := zT_in (in_5 (List.mem_of_getElem? (i := 214) (by decide +kernel))) rfl
theorem q5_215 : Cond.code yX10_worst cX10_worst 6 (some .int) ∈ zT := zT_in (in_5 (List.mem_of_getElem? (i := 215) (by decide +kernel))) rfl
theorem q5_216 : Cond.methodLink RL 72 yX10_had ∈ zT := zT_in (in_5 (List.mem_of_getElem? (i := 216) (by decide +kernel))) rfl
theorem q5_217 : Cond.instanceMethod yX10_had ∈ zT := zT_in (in_5 (List.mem_of_getElem? (i := 217) (by decide +kernel))) rfl
theorem q5_218 : Cond.selects RX10 yX10_had yX10_had ∈ zT := zT_in (in_5 (List.mem_of_getElem? (i := 218) (by decide +kernel))) rfl
theorem q5_219 : Cond.code yX10_had cX10_had 4 (some .int) ∈ zT := zT_in (in_5 (List.mem_of_getElem? (i := 219) (by decide +kernel))) rfl
theorem q5_220 : Cond.methodLink RL 76 yX10_start ∈ zT := zT_in (in_5 (List.mem_of_getElem? (i := 220) (by decide +kernel))) rfl
theorem q5_221 : Cond.instanceMethod yX10_start ∈ zT := zT_in (in_5 (List.mem_of_getElem? (i := 221) (by decide +kernel))) rfl
theorem q5_222 : Cond.selects RX10 yX10_start yX10_start ∈ zT := zT_in (in_5 (List.mem_of_getElem? (i := 222) (by decide +kernel))) rfl
theorem q5_223 : Cond.code yX10_start cX10_start 8 (some .int) ∈ zT := zT_in (in_5 (List.mem_of_getElem? (i := 223) (by decide +kernel))) rfl
theorem q5_224 : Cond.methodLink RX10 186 yX10_needsAll ∈ zT := zT_in (in_5 (List.mem_of_getElem? (i := 224) (by decide +kernel))) rfl
theorem q5_226 : Cond.instanceMethod yX10_needsAll ∈ zT := zT_in (in_5 (List.mem_of_getElem? (i := 226) (by decide +kernel))) rfl
theorem q5_227 : Cond.code yX10_needsAll cX10_needsAll 3 (some .int) ∈ zT := zT_in (in_5 (List.mem_of_getElem? (i := 227) (by decide +kernel))) rfl
theorem q5_228 : Cond.methodLink RL 80 yX10_tells ∈ zT := zT_in (in_5 (List.mem_of_getElem? (i := 228) (by decide +kernel))) rfl
theorem q5_229 : Cond.instanceMethod yX10_tells ∈ zT := zT_in (in_5 (List.mem_of_getElem? (i := 229) (by decide +kernel))) rfl
theorem q5_230 : Cond.selects RX10 yX10_tells yX10_tells ∈ zT := zT_in (in_5 (List.mem_of_getElem? (i := 230) (by decide +kernel))) rfl
theorem q5_231 : Cond.code yX10_tells cX10_tells 6 (some .int) ∈ zT := zT_in (in_5 (List.mem_of_getElem? (i := 231) (by decide +kernel))) rfl
theorem q5_232 : Cond.methodLink RX10 189 yX10_thinks ∈ zT := zT_in (in_5 (List.mem_of_getElem? (i := 232) (by decide +kernel))) rfl
theorem q5_234 : Cond.instanceMethod yX10_thinks ∈ zT := zT_in (in_5 (List.mem_of_getElem? (i := 234) (by decide +kernel))) rfl
theorem q5_235 : Cond.code yX10_thinks cX10_thinks 1 none ∈ zT := zT_in (in_5 (List.mem_of_getElem? (i := 235) (by decide +kernel))) rfl
theorem q5_236 : Cond.methodLink RX10 192 yX10_putsBack ∈ zT := zT_in (in_5 (List.mem_of_getElem? (i := 236) (by decide +kernel))) rfl
theorem q5_238 : Cond.instanceMethod yX10_putsBack ∈ zT := zT_in (in_5 (List.mem_of_getElem? (i := 238) (by decide +kernel))) rfl
theorem q5_239 : Cond.code yX10_putsBack cX10_putsBack 1 none ∈ zT := zT_in (in_5 (List.mem_of_getElem? (i := 239) (by decide +kernel))) rfl
theorem q6_0 : Cond.methodLink RL 84 yX10_keeps ∈ zT := zT_in (in_6 (List.mem_of_getElem? (i := 0) (by decide +kernel))) rfl
theorem q6_1 : Cond.instanceMethod yX10_keeps ∈ zT := zT_in (in_6 (List.mem_of_getElem? (i := 1) (by decide +kernel))) rfl
theorem q6_2 : Cond.selects RX10 yX10_keeps yX10_keeps ∈ zT := zT_in (in_6 (List.mem_of_getElem? (i := 2) (by decide +kernel))) rfl
theorem q6_3 : Cond.code yX10_keeps cX10_keeps 5 (some .int) ∈ zT := zT_in (in_6 (List.mem_of_getElem? (i := 3) (by decide +kernel))) rfl
theorem q6_4 : Cond.methodLink RL 88 yX10_behind ∈ zT := zT_in (in_6 (List.mem_of_getElem? (i := 4) (by decide +kernel))) rfl
theorem q6_5 : Cond.instanceMethod yX10_behind ∈ zT := zT_in (in_6 (List.mem_of_getElem? (i := 5) (by decide +kernel))) rfl
theorem q6_6 : Cond.selects RX10 yX10_behind yX10_behind ∈ zT := zT_in (in_6 (List.mem_of_getElem? (i := 6) (by decide +kernel))) rfl
theorem q6_7 : Cond.code yX10_behind cX10_behind 6 (some .int) ∈ zT := zT_in (in_6 (List.mem_of_getElem? (i := 7) (by decide +kernel))) rfl
theorem q6_8 : Cond.methodLink RL 92 yX10_left ∈ zT := zT_in (in_6 (List.mem_of_getElem? (i := 8) (by decide +kernel))) rfl
theorem q6_9 : Cond.instanceMethod yX10_left ∈ zT := zT_in (in_6 (List.mem_of_getElem? (i := 9) (by decide +kernel))) rfl
theorem q6_10 : Cond.selects RX10 yX10_left yX10_left ∈ zT := zT_in (in_6 (List.mem_of_getElem? (i := 10) (by decide +kernel))) rfl
theorem q6_11 : Cond.code yX10_left cX10_left 7 (some .int) ∈ zT := zT_in (in_6 (List.mem_of_getElem? (i := 11) (by decide +kernel))) rfl
theorem q6_12 : Cond.methodLink RX10 198 yX10_isSheet ∈ zT := zT_in (in_6 (List.mem_of_getElem? (i := 12) (by decide +kernel))) rfl
theorem q6_13 : Cond.static yX10_isSheet ∈ zT := zT_in (in_6 (List.mem_of_getElem? (i := 13) (by decide +kernel))) rfl
theorem q6_14 : Cond.code yX10_isSheet cX10_isSheet 1 (some .boolean) ∈ zT := zT_in (in_6 (List.mem_of_getElem? (i := 14) (by decide +kernel))) rfl
theorem q6_15 : Cond.constant RX10 201 (-1000000011) ∈ zT := zT_in (in_6 (List.mem_of_getElem? (i := 15) (by decide +kernel))) rfl
theorem q6_16 : Cond.methodLink RX10 202 yX10_answersBy ∈ zT := zT_in (in_6 (List.mem_of_getElem? (i := 16) (by decide +kernel))) rfl
theorem q6_18 : Cond.instanceMethod yX10_answersBy ∈ zT := zT_in (in_6 (List.mem_of_getElem? (i := 18) (by decide +kernel))) rfl
theorem q6_19 : Cond.code yX10_answersBy cX10_answersBy 7 (some .boolean) ∈ zT := zT_in (in_6 (List.mem_of_getElem? (i := 19) (by decide +kernel))) rfl
theorem q6_20 : Cond.methodLink RX10 195 yX10_answer ∈ zT := zT_in (in_6 (List.mem_of_getElem? (i := 20) (by decide +kernel))) rfl
theorem q6_22 : Cond.instanceMethod yX10_answer ∈ zT := zT_in (in_6 (List.mem_of_getElem? (i := 22) (by decide +kernel))) rfl
theorem q6_23 : Cond.code yX10_answer cX10_answer 3 (some .int) ∈ zT := zT_in (in_6 (List.mem_of_getElem? (i := 23) (by decide +kernel))) rfl
theorem q6_24 : Cond.methodLink RL 96 yX10_fee ∈ zT := zT_in (in_6 (List.mem_of_getElem? (i := 24) (by decide +kernel))) rfl
theorem q6_25 : Cond.instanceMethod yX10_fee ∈ zT := zT_in (in_6 (List.mem_of_getElem? (i := 25) (by decide +kernel))) rfl
theorem q6_26 : Cond.selects RX10 yX10_fee yX10_fee ∈ zT := zT_in (in_6 (List.mem_of_getElem? (i := 26) (by decide +kernel))) rfl
theorem q6_27 : Cond.code yX10_fee cX10_fee 2 (some .int) ∈ zT := zT_in (in_6 (List.mem_of_getElem? (i := 27) (by decide +kernel))) rfl
theorem q6_28 : Cond.methodLink RL 100 yX10_fine ∈ zT := zT_in (in_6 (List.mem_of_getElem? (i := 28) (by decide +kernel))) rfl
theorem q6_29 : Cond.instanceMethod yX10_fine ∈ zT := zT_in (in_6 (List.mem_of_getElem? (i := 29) (by decide +kernel))) rfl
theorem q6_30 : Cond.selects RX10 yX10_fine yX10_fine ∈ zT := zT_in (in_6 (List.mem_of_getElem? (i := 30) (by decide +kernel))) rfl
theorem q6_31 : Cond.code yX10_fine cX10_fine 3 (some .int) ∈ zT := zT_in (in_6 (List.mem_of_getElem? (i := 31) (by decide +kernel))) rfl
theorem q6_32 : Cond.methodLink RL 104 yX10_feed ∈ zT := zT_in (in_6 (List.mem_of_getElem? (i := 32) (by decide +kernel))) rfl
theorem q6_33 : Cond.instanceMethod yX10_feed ∈ zT := zT_in (in_6 (List.mem_of_getElem? (i := 33) (by decide +kernel))) rfl
theorem q6_34 : Cond.selects RX10 yX10_feed yX10_feed ∈ zT := zT_in (in_6 (List.mem_of_getElem? (i := 34) (by decide +kernel))) rfl
theorem q6_35 : Cond.code yX10_feed cX10_feed 6 (some .int) ∈ zT := zT_in (in_6 (List.mem_of_getElem? (i := 35) (by decide +kernel))) rfl
theorem q6_36 : Cond.methodLink RL 108 yX10_trim ∈ zT := zT_in (in_6 (List.mem_of_getElem? (i := 36) (by decide +kernel))) rfl
theorem q6_37 : Cond.instanceMethod yX10_trim ∈ zT := zT_in (in_6 (List.mem_of_getElem? (i := 37) (by decide +kernel))) rfl
theorem q6_38 : Cond.selects RX10 yX10_trim yX10_trim ∈ zT := zT_in (in_6 (List.mem_of_getElem? (i := 38) (by decide +kernel))) rfl
theorem q6_39 : Cond.code yX10_trim cX10_trim 2 (some .int) ∈ zT := zT_in (in_6 (List.mem_of_getElem? (i := 39) (by decide +kernel))) rfl
theorem q6_40 : Cond.methodLink RL 112 yX10_text ∈ zT := zT_in (in_6 (List.mem_of_getElem? (i := 40) (by decide +kernel))) rfl
theorem q6_41 : Cond.instanceMethod yX10_text ∈ zT := zT_in (in_6 (List.mem_of_getElem? (i := 41) (by decide +kernel))) rfl
theorem q6_42 : Cond.selects RX10 yX10_text yX10_text ∈ zT := zT_in (in_6 (List.mem_of_getElem? (i := 42) (by decide +kernel))) rfl
theorem q6_43 : Cond.code yX10_text cX10_text 4 (some .int) ∈ zT := zT_in (in_6 (List.mem_of_getElem? (i := 43) (by decide +kernel))) rfl
theorem q6_44 : Cond.methodLink RX10 233 yX10_go ∈ zT := zT_in (in_6 (List.mem_of_getElem? (i := 44) (by decide +kernel))) rfl
theorem q6_46 : Cond.instanceMethod yX10_go ∈ zT := zT_in (in_6 (List.mem_of_getElem? (i := 46) (by decide +kernel))) rfl
theorem q6_47 : Cond.code yX10_go cX10_go 2 none ∈ zT := zT_in (in_6 (List.mem_of_getElem? (i := 47) (by decide +kernel))) rfl
theorem q6_48 : Cond.methodLink RX10 221 yX10_isLetter ∈ zT := zT_in (in_6 (List.mem_of_getElem? (i := 48) (by decide +kernel))) rfl
theorem q6_50 : Cond.instanceMethod yX10_isLetter ∈ zT := zT_in (in_6 (List.mem_of_getElem? (i := 50) (by decide +kernel))) rfl
theorem q6_51 : Cond.code yX10_isLetter cX10_isLetter 2 (some .boolean) ∈ zT := zT_in (in_6 (List.mem_of_getElem? (i := 51) (by decide +kernel))) rfl
theorem q6_52 : Cond.methodLink RX10 227 yX10_isFigure ∈ zT := zT_in (in_6 (List.mem_of_getElem? (i := 52) (by decide +kernel))) rfl
theorem q6_54 : Cond.instanceMethod yX10_isFigure ∈ zT := zT_in (in_6 (List.mem_of_getElem? (i := 54) (by decide +kernel))) rfl
theorem q6_55 : Cond.code yX10_isFigure cX10_isFigure 2 (some .boolean) ∈ zT := zT_in (in_6 (List.mem_of_getElem? (i := 55) (by decide +kernel))) rfl
theorem q6_56 : Cond.methodLink RX10 263 yX10_takesKey ∈ zT := zT_in (in_6 (List.mem_of_getElem? (i := 56) (by decide +kernel))) rfl
theorem q6_58 : Cond.instanceMethod yX10_takesKey ∈ zT := zT_in (in_6 (List.mem_of_getElem? (i := 58) (by decide +kernel))) rfl
theorem q6_59 : Cond.code yX10_takesKey cX10_takesKey 5 (some .boolean) ∈ zT := zT_in (in_6 (List.mem_of_getElem? (i := 59) (by decide +kernel))) rfl
theorem q6_60 : Cond.methodLink RX10 266 yX10_takesE ∈ zT := zT_in (in_6 (List.mem_of_getElem? (i := 60) (by decide +kernel))) rfl
theorem q6_62 : Cond.instanceMethod yX10_takesE ∈ zT := zT_in (in_6 (List.mem_of_getElem? (i := 62) (by decide +kernel))) rfl
theorem q6_63 : Cond.code yX10_takesE cX10_takesE 5 (some .boolean) ∈ zT := zT_in (in_6 (List.mem_of_getElem? (i := 63) (by decide +kernel))) rfl
theorem q6_64 : Cond.methodLink RX10 254 yX10_takesPart ∈ zT := zT_in (in_6 (List.mem_of_getElem? (i := 64) (by decide +kernel))) rfl
theorem q6_66 : Cond.instanceMethod yX10_takesPart ∈ zT := zT_in (in_6 (List.mem_of_getElem? (i := 66) (by decide +kernel))) rfl
theorem q6_67 : Cond.code yX10_takesPart cX10_takesPart 2 (some .boolean) ∈ zT := zT_in (in_6 (List.mem_of_getElem? (i := 67) (by decide +kernel))) rfl
theorem q6_68 : Cond.methodLink RX10 245 yX10_nameOf ∈ zT := zT_in (in_6 (List.mem_of_getElem? (i := 68) (by decide +kernel))) rfl
theorem q6_70 : Cond.instanceMethod yX10_nameOf ∈ zT := zT_in (in_6 (List.mem_of_getElem? (i := 70) (by decide +kernel))) rfl
theorem q6_71 : Cond.code yX10_nameOf cX10_nameOf 2 (some .int) ∈ zT := zT_in (in_6 (List.mem_of_getElem? (i := 71) (by decide +kernel))) rfl
theorem q6_72 : Cond.methodLink RX10 251 yX10_settle ∈ zT := zT_in (in_6 (List.mem_of_getElem? (i := 72) (by decide +kernel))) rfl
theorem q6_74 : Cond.instanceMethod yX10_settle ∈ zT := zT_in (in_6 (List.mem_of_getElem? (i := 74) (by decide +kernel))) rfl
theorem q6_75 : Cond.code yX10_settle cX10_settle 2 none ∈ zT := zT_in (in_6 (List.mem_of_getElem? (i := 75) (by decide +kernel))) rfl
theorem q6_76 : Cond.methodLink RX10 239 yX10_rank ∈ zT := zT_in (in_6 (List.mem_of_getElem? (i := 76) (by decide +kernel))) rfl
theorem q6_77 : Cond.static yX10_rank ∈ zT := zT_in (in_6 (List.mem_of_getElem? (i := 77) (by decide +kernel))) rfl
theorem q6_78 : Cond.code yX10_rank cX10_rank 1 (some .int) ∈ zT := zT_in (in_6 (List.mem_of_getElem? (i := 78) (by decide +kernel))) rfl
theorem q6_79 : Cond.methodLink RX10 257 yX10_notsOpen ∈ zT := zT_in (in_6 (List.mem_of_getElem? (i := 79) (by decide +kernel))) rfl
theorem q6_81 : Cond.instanceMethod yX10_notsOpen ∈ zT := zT_in (in_6 (List.mem_of_getElem? (i := 81) (by decide +kernel))) rfl
theorem q6_82 : Cond.code yX10_notsOpen cX10_notsOpen 3 (some .int) ∈ zT := zT_in (in_6 (List.mem_of_getElem? (i := 82) (by decide +kernel))) rfl
theorem q6_83 : Cond.methodLink RX10 260 yX10_signHere ∈ zT := zT_in (in_6 (List.mem_of_getElem? (i := 83) (by decide +kernel))) rfl
theorem q6_85 : Cond.instanceMethod yX10_signHere ∈ zT := zT_in (in_6 (List.mem_of_getElem? (i := 85) (by decide +kernel))) rfl
theorem q6_86 : Cond.code yX10_signHere cX10_signHere 1 (some .int) ∈ zT := zT_in (in_6 (List.mem_of_getElem? (i := 86) (by decide +kernel))) rfl
theorem q6_87 : Cond.methodLink RL 116 yX10_textTold ∈ zT := zT_in (in_6 (List.mem_of_getElem? (i := 87) (by decide +kernel))) rfl
theorem q6_88 : Cond.instanceMethod yX10_textTold ∈ zT := zT_in (in_6 (List.mem_of_getElem? (i := 88) (by decide +kernel))) rfl
theorem q6_89 : Cond.selects RX10 yX10_textTold yX10_textTold ∈ zT := zT_in (in_6 (List.mem_of_getElem? (i := 89) (by decide +kernel))) rfl
theorem q6_90 : Cond.code yX10_textTold cX10_textTold 3 (some .int) ∈ zT := zT_in (in_6 (List.mem_of_getElem? (i := 90) (by decide +kernel))) rfl
theorem q6_91 : Cond.methodLink RL 120 yX10_why ∈ zT := zT_in (in_6 (List.mem_of_getElem? (i := 91) (by decide +kernel))) rfl
theorem q6_92 : Cond.instanceMethod yX10_why ∈ zT := zT_in (in_6 (List.mem_of_getElem? (i := 92) (by decide +kernel))) rfl
theorem q6_93 : Cond.selects RX10 yX10_why yX10_why ∈ zT := zT_in (in_6 (List.mem_of_getElem? (i := 93) (by decide +kernel))) rfl
theorem q6_94 : Cond.code yX10_why cX10_why 3 (some .int) ∈ zT := zT_in (in_6 (List.mem_of_getElem? (i := 94) (by decide +kernel))) rfl
theorem q6_95 : Cond.methodLink RL 124 yX10_sheet ∈ zT := zT_in (in_6 (List.mem_of_getElem? (i := 95) (by decide +kernel))) rfl
theorem q6_96 : Cond.instanceMethod yX10_sheet ∈ zT := zT_in (in_6 (List.mem_of_getElem? (i := 96) (by decide +kernel))) rfl
theorem q6_97 : Cond.selects RX10 yX10_sheet yX10_sheet ∈ zT := zT_in (in_6 (List.mem_of_getElem? (i := 97) (by decide +kernel))) rfl
theorem q6_98 : Cond.code yX10_sheet cX10_sheet 5 (some .int) ∈ zT := zT_in (in_6 (List.mem_of_getElem? (i := 98) (by decide +kernel))) rfl
theorem q6_99 : Cond.constant RX10 272 (-1000000014) ∈ zT := zT_in (in_6 (List.mem_of_getElem? (i := 99) (by decide +kernel))) rfl
theorem q6_100 : Cond.methodLink RL 128 yX10_mark ∈ zT := zT_in (in_6 (List.mem_of_getElem? (i := 100) (by decide +kernel))) rfl
theorem q6_101 : Cond.instanceMethod yX10_mark ∈ zT := zT_in (in_6 (List.mem_of_getElem? (i := 101) (by decide +kernel))) rfl
theorem q6_102 : Cond.selects RX10 yX10_mark yX10_mark ∈ zT := zT_in (in_6 (List.mem_of_getElem? (i := 102) (by decide +kernel))) rfl
theorem q6_103 : Cond.code yX10_mark cX10_mark 4 (some .int) ∈ zT := zT_in (in_6 (List.mem_of_getElem? (i := 103) (by decide +kernel))) rfl
theorem q6_104 : Cond.constant RX10 273 (-1000000013) ∈ zT := zT_in (in_6 (List.mem_of_getElem? (i := 104) (by decide +kernel))) rfl
theorem q6_105 : Cond.constant RX10 274 (-99999) ∈ zT := zT_in (in_6 (List.mem_of_getElem? (i := 105) (by decide +kernel))) rfl
theorem q6_106 : Cond.constant RX10 275 (99999) ∈ zT := zT_in (in_6 (List.mem_of_getElem? (i := 106) (by decide +kernel))) rfl
theorem q6_107 : Cond.methodLink RL 132 yX10_pour ∈ zT := zT_in (in_6 (List.mem_of_getElem? (i := 107) (by decide +kernel))) rfl
theorem q6_108 : Cond.instanceMethod yX10_pour ∈ zT := zT_in (in_6 (List.mem_of_getElem? (i := 108) (by decide +kernel))) rfl
theorem q6_109 : Cond.selects RX10 yX10_pour yX10_pour ∈ zT := zT_in (in_6 (List.mem_of_getElem? (i := 109) (by decide +kernel))) rfl
theorem q6_110 : Cond.code yX10_pour cX10_pour 6 (some .int) ∈ zT := zT_in (in_6 (List.mem_of_getElem? (i := 110) (by decide +kernel))) rfl
theorem q6_111 : Cond.methodLink RL 136 yX10_reads ∈ zT := zT_in (in_6 (List.mem_of_getElem? (i := 111) (by decide +kernel))) rfl
theorem q6_112 : Cond.instanceMethod yX10_reads ∈ zT := zT_in (in_6 (List.mem_of_getElem? (i := 112) (by decide +kernel))) rfl
theorem q6_113 : Cond.selects RX10 yX10_reads yX10_reads ∈ zT := zT_in (in_6 (List.mem_of_getElem? (i := 113) (by decide +kernel))) rfl
theorem q6_114 : Cond.code yX10_reads cX10_reads 4 (some .int) ∈ zT := zT_in (in_6 (List.mem_of_getElem? (i := 114) (by decide +kernel))) rfl
theorem q6_115 : Cond.methodLink RL 141 yX10_copy ∈ zT := zT_in (in_6 (List.mem_of_getElem? (i := 115) (by decide +kernel))) rfl
theorem q6_116 : Cond.instanceMethod yX10_copy ∈ zT := zT_in (in_6 (List.mem_of_getElem? (i := 116) (by decide +kernel))) rfl
theorem q6_117 : Cond.selects RX10 yX10_copy yX10_copy ∈ zT := zT_in (in_6 (List.mem_of_getElem? (i := 117) (by decide +kernel))) rfl
theorem q6_118 : Cond.code yX10_copy cX10_copy 7 (some .int) ∈ zT := zT_in (in_6 (List.mem_of_getElem? (i := 118) (by decide +kernel))) rfl
theorem q6_119 : Cond.methodLink RL 145 yX10_lay ∈ zT := zT_in (in_6 (List.mem_of_getElem? (i := 119) (by decide +kernel))) rfl
theorem q6_120 : Cond.instanceMethod yX10_lay ∈ zT := zT_in (in_6 (List.mem_of_getElem? (i := 120) (by decide +kernel))) rfl
theorem q6_121 : Cond.selects RX10 yX10_lay yX10_lay ∈ zT := zT_in (in_6 (List.mem_of_getElem? (i := 121) (by decide +kernel))) rfl
theorem q6_122 : Cond.code yX10_lay cX10_lay 6 (some .int) ∈ zT := zT_in (in_6 (List.mem_of_getElem? (i := 122) (by decide +kernel))) rfl
theorem q6_123 : Cond.methodLink RX10 276 yX10_isSlot ∈ zT := zT_in (in_6 (List.mem_of_getElem? (i := 123) (by decide +kernel))) rfl
theorem q6_124 : Cond.static yX10_isSlot ∈ zT := zT_in (in_6 (List.mem_of_getElem? (i := 124) (by decide +kernel))) rfl
theorem q6_125 : Cond.code yX10_isSlot cX10_isSlot 1 (some .boolean) ∈ zT := zT_in (in_6 (List.mem_of_getElem? (i := 125) (by decide +kernel))) rfl
theorem q6_126 : Cond.methodLink RL 149 yX10_ask ∈ zT := zT_in (in_6 (List.mem_of_getElem? (i := 126) (by decide +kernel))) rfl
theorem q6_127 : Cond.instanceMethod yX10_ask ∈ zT := zT_in (in_6 (List.mem_of_getElem? (i := 127) (by decide +kernel))) rfl
theorem q6_128 : Cond.selects RX10 yX10_ask yX10_ask ∈ zT := zT_in (in_6 (List.mem_of_getElem? (i := 128) (by decide +kernel))) rfl
theorem q6_129 : Cond.code yX10_ask cX10_ask 3 (some .int) ∈ zT := zT_in (in_6 (List.mem_of_getElem? (i := 129) (by decide +kernel))) rfl
theorem q6_130 : Cond.methodLink RL 153 yX10_item ∈ zT := zT_in (in_6 (List.mem_of_getElem? (i := 130) (by decide +kernel))) rfl
theorem q6_131 : Cond.instanceMethod yX10_item ∈ zT := zT_in (in_6 (List.mem_of_getElem? (i := 131) (by decide +kernel))) rfl
theorem q6_132 : Cond.selects RX10 yX10_item yX10_item ∈ zT := zT_in (in_6 (List.mem_of_getElem? (i := 132) (by decide +kernel))) rfl
theorem q6_133 : Cond.code yX10_item cX10_item 4 (some .int) ∈ zT := zT_in (in_6 (List.mem_of_getElem? (i := 133) (by decide +kernel))) rfl
theorem q6_134 : Cond.methodLink RL 157 yX10_rest ∈ zT := zT_in (in_6 (List.mem_of_getElem? (i := 134) (by decide +kernel))) rfl
theorem q6_135 : Cond.instanceMethod yX10_rest ∈ zT := zT_in (in_6 (List.mem_of_getElem? (i := 135) (by decide +kernel))) rfl
theorem q6_136 : Cond.selects RX10 yX10_rest yX10_rest ∈ zT := zT_in (in_6 (List.mem_of_getElem? (i := 136) (by decide +kernel))) rfl
theorem q6_137 : Cond.code yX10_rest cX10_rest 3 (some .int) ∈ zT := zT_in (in_6 (List.mem_of_getElem? (i := 137) (by decide +kernel))) rfl
theorem q6_138 : Cond.constant RX10 279 (-1000000002) ∈ zT := zT_in (in_6 (List.mem_of_getElem? (i := 138) (by decide +kernel))) rfl
theorem q6_139 : Cond.methodLink RL 161 yX10_tell ∈ zT := zT_in (in_6 (List.mem_of_getElem? (i := 139) (by decide +kernel))) rfl
theorem q6_140 : Cond.instanceMethod yX10_tell ∈ zT := zT_in (in_6 (List.mem_of_getElem? (i := 140) (by decide +kernel))) rfl
theorem q6_141 : Cond.selects RX10 yX10_tell yX10_tell ∈ zT := zT_in (in_6 (List.mem_of_getElem? (i := 141) (by decide +kernel))) rfl
theorem q6_142 : Cond.code yX10_tell cX10_tell 2 (some .int) ∈ zT := zT_in (in_6 (List.mem_of_getElem? (i := 142) (by decide +kernel))) rfl
theorem q6_143 : Cond.methodLink RL 165 yX10_check ∈ zT := zT_in (in_6 (List.mem_of_getElem? (i := 143) (by decide +kernel))) rfl
theorem q6_144 : Cond.instanceMethod yX10_check ∈ zT := zT_in (in_6 (List.mem_of_getElem? (i := 144) (by decide +kernel))) rfl
theorem q6_145 : Cond.selects RX10 yX10_check yX10_check ∈ zT := zT_in (in_6 (List.mem_of_getElem? (i := 145) (by decide +kernel))) rfl
theorem q6_146 : Cond.code yX10_check cX10_check 6 (some .int) ∈ zT := zT_in (in_6 (List.mem_of_getElem? (i := 146) (by decide +kernel))) rfl
theorem q6_147 : Cond.methodLink RX10 287 yX10_copyAll ∈ zT := zT_in (in_6 (List.mem_of_getElem? (i := 147) (by decide +kernel))) rfl
theorem q6_148 : Cond.static yX10_copyAll ∈ zT := zT_in (in_6 (List.mem_of_getElem? (i := 148) (by decide +kernel))) rfl
theorem q6_149 : Cond.code yX10_copyAll cX10_copyAll 3 none ∈ zT := zT_in (in_6 (List.mem_of_getElem? (i := 149) (by decide +kernel))) rfl
theorem q6_150 : Cond.methodLink RL 169 yX10_keep ∈ zT := zT_in (in_6 (List.mem_of_getElem? (i := 150) (by decide +kernel))) rfl
theorem q6_151 : Cond.instanceMethod yX10_keep ∈ zT := zT_in (in_6 (List.mem_of_getElem? (i := 151) (by decide +kernel))) rfl
theorem q6_152 : Cond.selects RX10 yX10_keep yX10_keep ∈ zT := zT_in (in_6 (List.mem_of_getElem? (i := 152) (by decide +kernel))) rfl
theorem q6_153 : Cond.code yX10_keep cX10_keep 1 (some .int) ∈ zT := zT_in (in_6 (List.mem_of_getElem? (i := 153) (by decide +kernel))) rfl
theorem q6_154 : Cond.methodLink RL 173 yX10_back ∈ zT := zT_in (in_6 (List.mem_of_getElem? (i := 154) (by decide +kernel))) rfl
theorem q6_155 : Cond.instanceMethod yX10_back ∈ zT := zT_in (in_6 (List.mem_of_getElem? (i := 155) (by decide +kernel))) rfl
theorem q6_156 : Cond.selects RX10 yX10_back yX10_back ∈ zT := zT_in (in_6 (List.mem_of_getElem? (i := 156) (by decide +kernel))) rfl
theorem q6_157 : Cond.code yX10_back cX10_back 1 (some .int) ∈ zT := zT_in (in_6 (List.mem_of_getElem? (i := 157) (by decide +kernel))) rfl
theorem q6_158 : Cond.methodLink RL 177 yX10_count ∈ zT := zT_in (in_6 (List.mem_of_getElem? (i := 158) (by decide +kernel))) rfl
theorem q6_159 : Cond.instanceMethod yX10_count ∈ zT := zT_in (in_6 (List.mem_of_getElem? (i := 159) (by decide +kernel))) rfl
theorem q6_160 : Cond.selects RX10 yX10_count yX10_count ∈ zT := zT_in (in_6 (List.mem_of_getElem? (i := 160) (by decide +kernel))) rfl
theorem q6_161 : Cond.code yX10_count cX10_count 2 (some .int) ∈ zT := zT_in (in_6 (List.mem_of_getElem? (i := 161) (by decide +kernel))) rfl
theorem q6_162 : Cond.methodLink RX10 290 yX10_hearing ∈ zT := zT_in (in_6 (List.mem_of_getElem? (i := 162) (by decide +kernel))) rfl
theorem q6_164 : Cond.instanceMethod yX10_hearing ∈ zT := zT_in (in_6 (List.mem_of_getElem? (i := 164) (by decide +kernel))) rfl
theorem q6_165 : Cond.code yX10_hearing cX10_hearing 3 (some .int) ∈ zT := zT_in (in_6 (List.mem_of_getElem? (i := 165) (by decide +kernel))) rfl
theorem q6_166 : Cond.fieldLink RJ0 9 "java/lang/String" "value" "[B" ∈ zT := zT_in (in_6 (List.mem_of_getElem? (i := 166) (by decide +kernel))) rfl
theorem q6_167 : Cond.fieldLink RJ0 15 "java/lang/String" "coder" "B" ∈ zT := zT_in (in_6 (List.mem_of_getElem? (i := 167) (by decide +kernel))) rfl
theorem qp1_0 : Cond.selects RX9 yX9_isOne yX9_isOne ∈ zT := zT_in (in_s (q := (yX9_isOne, 11)) (List.mem_append_left _ (List.mem_of_getElem? (i := 0) (by decide +kernel)))) rfl
theorem qp1_1 : Cond.selects RX8 yX8_draw yX8_draw ∈ zT := zT_in (in_s (q := (yX8_draw, 12)) (List.mem_append_left _ (List.mem_of_getElem? (i := 1) (by decide +kernel)))) rfl
theorem qp1_2 : Cond.selects RX8 yX8_mean yX8_mean ∈ zT := zT_in (in_s (q := (yX8_mean, 12)) (List.mem_append_left _ (List.mem_of_getElem? (i := 2) (by decide +kernel)))) rfl
theorem qp1_3 : Cond.selects RX8 yX8_weightUpTo yX8_weightUpTo ∈ zT := zT_in (in_s (q := (yX8_weightUpTo, 12)) (List.mem_append_left _ (List.mem_of_getElem? (i := 3) (by decide +kernel)))) rfl
theorem qp1_4 : Cond.selects RX8 yX8_middle yX8_middle ∈ zT := zT_in (in_s (q := (yX8_middle, 12)) (List.mem_append_left _ (List.mem_of_getElem? (i := 4) (by decide +kernel)))) rfl
theorem qp1_5 : Cond.selects RX8 yX8_greatest yX8_greatest ∈ zT := zT_in (in_s (q := (yX8_greatest, 12)) (List.mem_append_left _ (List.mem_of_getElem? (i := 5) (by decide +kernel)))) rfl
theorem qp1_6 : Cond.selects RX8 yX8_turn yX8_turn ∈ zT := zT_in (in_s (q := (yX8_turn, 12)) (List.mem_append_left _ (List.mem_of_getElem? (i := 6) (by decide +kernel)))) rfl
theorem qp1_7 : Cond.selects RX7 yX7_branch yX7_branch ∈ zT := zT_in (in_s (q := (yX7_branch, 4)) (List.mem_append_left _ (List.mem_of_getElem? (i := 7) (by decide +kernel)))) rfl
theorem qp1_8 : Cond.selects RX7 yX7_gather yX7_gather ∈ zT := zT_in (in_s (q := (yX7_gather, 4)) (List.mem_append_left _ (List.mem_of_getElem? (i := 8) (by decide +kernel)))) rfl
theorem qp1_9 : Cond.selects RX1 yX1_advance yX1_advance ∈ zT := zT_in (in_s (q := (yX1_advance, 9)) (List.mem_append_left _ (List.mem_of_getElem? (i := 9) (by decide +kernel)))) rfl
theorem qp1_10 : Cond.selects RX1 yX1_readKey yX1_readKey ∈ zT := zT_in (in_s (q := (yX1_readKey, 9)) (List.mem_append_left _ (List.mem_of_getElem? (i := 10) (by decide +kernel)))) rfl
theorem qp1_11 : Cond.selects RX1 yX1_isWord yX1_isWord ∈ zT := zT_in (in_s (q := (yX1_isWord, 9)) (List.mem_append_left _ (List.mem_of_getElem? (i := 11) (by decide +kernel)))) rfl
theorem qp1_12 : Cond.selects RX1 yX1_level yX1_level ∈ zT := zT_in (in_s (q := (yX1_level, 9)) (List.mem_append_left _ (List.mem_of_getElem? (i := 12) (by decide +kernel)))) rfl
theorem qp1_13 : Cond.selects RX1 yX1_piece yX1_piece ∈ zT := zT_in (in_s (q := (yX1_piece, 9)) (List.mem_append_left _ (List.mem_of_getElem? (i := 13) (by decide +kernel)))) rfl
theorem qp1_14 : Cond.selects RX1 yX1_readNumber yX1_readNumber ∈ zT := zT_in (in_s (q := (yX1_readNumber, 9)) (List.mem_append_left _ (List.mem_of_getElem? (i := 14) (by decide +kernel)))) rfl
theorem qp1_15 : Cond.selects RX1 yX1_readName yX1_readName ∈ zT := zT_in (in_s (q := (yX1_readName, 9)) (List.mem_append_left _ (List.mem_of_getElem? (i := 15) (by decide +kernel)))) rfl
theorem qp2_0 : Cond.selects RX1 yX1_sign yX1_sign ∈ zT := zT_in (in_s (q := (yX1_sign, 9)) (List.mem_append_right _ (List.mem_append_left _ (List.mem_of_getElem? (i := 0) (by decide +kernel))))) rfl
theorem qp2_1 : Cond.selects RX1 yX1_readNot yX1_readNot ∈ zT := zT_in (in_s (q := (yX1_readNot, 9)) (List.mem_append_right _ (List.mem_append_left _ (List.mem_of_getElem? (i := 1) (by decide +kernel))))) rfl
theorem qp2_2 : Cond.selects RX1 yX1_readBracket yX1_readBracket ∈ zT := zT_in (in_s (q := (yX1_readBracket, 9)) (List.mem_append_right _ (List.mem_append_left _ (List.mem_of_getElem? (i := 2) (by decide +kernel))))) rfl
theorem qp2_3 : Cond.selects RX10 yX10_comes yX10_comes ∈ zT := zT_in (in_s (q := (yX10_comes, 34)) (List.mem_append_right _ (List.mem_append_left _ (List.mem_of_getElem? (i := 3) (by decide +kernel))))) rfl
theorem qp2_4 : Cond.selects RX10 yX10_put yX10_put ∈ zT := zT_in (in_s (q := (yX10_put, 34)) (List.mem_append_right _ (List.mem_append_left _ (List.mem_of_getElem? (i := 4) (by decide +kernel))))) rfl
theorem qp2_5 : Cond.selects RX10 yX10_isOne yX10_isOne ∈ zT := zT_in (in_s (q := (yX10_isOne, 34)) (List.mem_append_right _ (List.mem_append_left _ (List.mem_of_getElem? (i := 5) (by decide +kernel))))) rfl
theorem qp2_6 : Cond.selects RX10 yX10_of yX10_of ∈ zT := zT_in (in_s (q := (yX10_of, 34)) (List.mem_append_right _ (List.mem_append_left _ (List.mem_of_getElem? (i := 6) (by decide +kernel))))) rfl
theorem qp2_7 : Cond.selects RX10 yX10_setsTo yX10_setsTo ∈ zT := zT_in (in_s (q := (yX10_setsTo, 34)) (List.mem_append_right _ (List.mem_append_left _ (List.mem_of_getElem? (i := 7) (by decide +kernel))))) rfl
theorem qp2_8 : Cond.selects RX10 yX10_counts yX10_counts ∈ zT := zT_in (in_s (q := (yX10_counts, 34)) (List.mem_append_right _ (List.mem_append_left _ (List.mem_of_getElem? (i := 8) (by decide +kernel))))) rfl
theorem qp2_9 : Cond.selects RX10 yX10_worksOut yX10_worksOut ∈ zT := zT_in (in_s (q := (yX10_worksOut, 34)) (List.mem_append_right _ (List.mem_append_left _ (List.mem_of_getElem? (i := 9) (by decide +kernel))))) rfl
theorem qp2_10 : Cond.selects RX10 yX10_worthOf yX10_worthOf ∈ zT := zT_in (in_s (q := (yX10_worthOf, 34)) (List.mem_append_right _ (List.mem_append_left _ (List.mem_of_getElem? (i := 10) (by decide +kernel))))) rfl
theorem qp2_11 : Cond.selects RX10 yX10_becomes yX10_becomes ∈ zT := zT_in (in_s (q := (yX10_becomes, 34)) (List.mem_append_right _ (List.mem_append_left _ (List.mem_of_getElem? (i := 11) (by decide +kernel))))) rfl
theorem qp2_12 : Cond.selects RX10 yX10_believesAll yX10_believesAll ∈ zT := zT_in (in_s (q := (yX10_believesAll, 34)) (List.mem_append_right _ (List.mem_append_left _ (List.mem_of_getElem? (i := 12) (by decide +kernel))))) rfl
theorem qp2_13 : Cond.selects RX10 yX10_draw yX10_draw ∈ zT := zT_in (in_s (q := (yX10_draw, 34)) (List.mem_append_right _ (List.mem_append_left _ (List.mem_of_getElem? (i := 13) (by decide +kernel))))) rfl
theorem qp2_14 : Cond.selects RX10 yX10_saysNow yX10_saysNow ∈ zT := zT_in (in_s (q := (yX10_saysNow, 34)) (List.mem_append_right _ (List.mem_append_left _ (List.mem_of_getElem? (i := 14) (by decide +kernel))))) rfl
theorem qp2_15 : Cond.selects RX10 yX10_mean yX10_mean ∈ zT := zT_in (in_s (q := (yX10_mean, 34)) (List.mem_append_right _ (List.mem_append_left _ (List.mem_of_getElem? (i := 15) (by decide +kernel))))) rfl
theorem qp3_0 : Cond.selects RX10 yX10_weights yX10_weights ∈ zT := zT_in (in_s (q := (yX10_weights, 34)) (List.mem_append_right _ (List.mem_append_right _ (List.mem_append_left _ (List.mem_of_getElem? (i := 0) (by decide +kernel)))))) rfl
theorem qp3_1 : Cond.selects RX10 yX10_middle yX10_middle ∈ zT := zT_in (in_s (q := (yX10_middle, 34)) (List.mem_append_right _ (List.mem_append_right _ (List.mem_append_left _ (List.mem_of_getElem? (i := 1) (by decide +kernel)))))) rfl
theorem qp3_2 : Cond.selects RX10 yX10_upTo yX10_upTo ∈ zT := zT_in (in_s (q := (yX10_upTo, 34)) (List.mem_append_right _ (List.mem_append_right _ (List.mem_append_left _ (List.mem_of_getElem? (i := 2) (by decide +kernel)))))) rfl
theorem qp3_3 : Cond.selects RX10 yX10_greatest yX10_greatest ∈ zT := zT_in (in_s (q := (yX10_greatest, 34)) (List.mem_append_right _ (List.mem_append_right _ (List.mem_append_left _ (List.mem_of_getElem? (i := 3) (by decide +kernel)))))) rfl
theorem qp3_4 : Cond.selects RX10 yX10_goesOn yX10_goesOn ∈ zT := zT_in (in_s (q := (yX10_goesOn, 34)) (List.mem_append_right _ (List.mem_append_right _ (List.mem_append_left _ (List.mem_of_getElem? (i := 4) (by decide +kernel)))))) rfl
theorem qp3_5 : Cond.selects RX10 yX10_aTry yX10_aTry ∈ zT := zT_in (in_s (q := (yX10_aTry, 34)) (List.mem_append_right _ (List.mem_append_right _ (List.mem_append_left _ (List.mem_of_getElem? (i := 5) (by decide +kernel)))))) rfl
theorem qp3_6 : Cond.selects RX10 yX10_isStill yX10_isStill ∈ zT := zT_in (in_s (q := (yX10_isStill, 34)) (List.mem_append_right _ (List.mem_append_right _ (List.mem_append_left _ (List.mem_of_getElem? (i := 6) (by decide +kernel)))))) rfl
theorem qp3_7 : Cond.selects RX10 yX10_turn yX10_turn ∈ zT := zT_in (in_s (q := (yX10_turn, 34)) (List.mem_append_right _ (List.mem_append_right _ (List.mem_append_left _ (List.mem_of_getElem? (i := 7) (by decide +kernel)))))) rfl
theorem qp3_8 : Cond.selects RX10 yX10_hears yX10_hears ∈ zT := zT_in (in_s (q := (yX10_hears, 34)) (List.mem_append_right _ (List.mem_append_right _ (List.mem_append_left _ (List.mem_of_getElem? (i := 8) (by decide +kernel)))))) rfl
theorem qp3_9 : Cond.selects RX10 yX10_needsBy yX10_needsBy ∈ zT := zT_in (in_s (q := (yX10_needsBy, 34)) (List.mem_append_right _ (List.mem_append_right _ (List.mem_append_left _ (List.mem_of_getElem? (i := 9) (by decide +kernel)))))) rfl
theorem qp3_10 : Cond.selects RX10 yX10_takes yX10_takes ∈ zT := zT_in (in_s (q := (yX10_takes, 34)) (List.mem_append_right _ (List.mem_append_right _ (List.mem_append_left _ (List.mem_of_getElem? (i := 10) (by decide +kernel)))))) rfl
theorem qp3_11 : Cond.selects RX10 yX10_needsOf yX10_needsOf ∈ zT := zT_in (in_s (q := (yX10_needsOf, 34)) (List.mem_append_right _ (List.mem_append_right _ (List.mem_append_left _ (List.mem_of_getElem? (i := 11) (by decide +kernel)))))) rfl
theorem qp3_12 : Cond.selects RX10 yX10_needsAll yX10_needsAll ∈ zT := zT_in (in_s (q := (yX10_needsAll, 34)) (List.mem_append_right _ (List.mem_append_right _ (List.mem_append_left _ (List.mem_of_getElem? (i := 12) (by decide +kernel)))))) rfl
theorem qp3_13 : Cond.selects RX10 yX10_thinks yX10_thinks ∈ zT := zT_in (in_s (q := (yX10_thinks, 34)) (List.mem_append_right _ (List.mem_append_right _ (List.mem_append_left _ (List.mem_of_getElem? (i := 13) (by decide +kernel)))))) rfl
theorem qp3_14 : Cond.selects RX10 yX10_putsBack yX10_putsBack ∈ zT := zT_in (in_s (q := (yX10_putsBack, 34)) (List.mem_append_right _ (List.mem_append_right _ (List.mem_append_left _ (List.mem_of_getElem? (i := 14) (by decide +kernel)))))) rfl
theorem qp3_15 : Cond.selects RX10 yX10_answersBy yX10_answersBy ∈ zT := zT_in (in_s (q := (yX10_answersBy, 34)) (List.mem_append_right _ (List.mem_append_right _ (List.mem_append_left _ (List.mem_of_getElem? (i := 15) (by decide +kernel)))))) rfl
theorem qp4_0 : Cond.selects RX10 yX10_answer yX10_answer ∈ zT := zT_in (in_s (q := (yX10_answer, 34)) (List.mem_append_right _ (List.mem_append_right _ (List.mem_append_right _ ((List.mem_of_getElem? (i := 0) (by decide +kernel))))))) rfl
theorem qp4_1 : Cond.selects RX10 yX10_go yX10_go ∈ zT := zT_in (in_s (q := (yX10_go, 34)) (List.mem_append_right _ (List.mem_append_right _ (List.mem_append_right _ ((List.mem_of_getElem? (i := 1) (by decide +kernel))))))) rfl
theorem qp4_2 : Cond.selects RX10 yX10_isLetter yX10_isLetter ∈ zT := zT_in (in_s (q := (yX10_isLetter, 34)) (List.mem_append_right _ (List.mem_append_right _ (List.mem_append_right _ ((List.mem_of_getElem? (i := 2) (by decide +kernel))))))) rfl
theorem qp4_3 : Cond.selects RX10 yX10_isFigure yX10_isFigure ∈ zT := zT_in (in_s (q := (yX10_isFigure, 34)) (List.mem_append_right _ (List.mem_append_right _ (List.mem_append_right _ ((List.mem_of_getElem? (i := 3) (by decide +kernel))))))) rfl
theorem qp4_4 : Cond.selects RX10 yX10_takesKey yX10_takesKey ∈ zT := zT_in (in_s (q := (yX10_takesKey, 34)) (List.mem_append_right _ (List.mem_append_right _ (List.mem_append_right _ ((List.mem_of_getElem? (i := 4) (by decide +kernel))))))) rfl
theorem qp4_5 : Cond.selects RX10 yX10_takesE yX10_takesE ∈ zT := zT_in (in_s (q := (yX10_takesE, 34)) (List.mem_append_right _ (List.mem_append_right _ (List.mem_append_right _ ((List.mem_of_getElem? (i := 5) (by decide +kernel))))))) rfl
theorem qp4_6 : Cond.selects RX10 yX10_takesPart yX10_takesPart ∈ zT := zT_in (in_s (q := (yX10_takesPart, 34)) (List.mem_append_right _ (List.mem_append_right _ (List.mem_append_right _ ((List.mem_of_getElem? (i := 6) (by decide +kernel))))))) rfl
theorem qp4_7 : Cond.selects RX10 yX10_nameOf yX10_nameOf ∈ zT := zT_in (in_s (q := (yX10_nameOf, 34)) (List.mem_append_right _ (List.mem_append_right _ (List.mem_append_right _ ((List.mem_of_getElem? (i := 7) (by decide +kernel))))))) rfl
theorem qp4_8 : Cond.selects RX10 yX10_settle yX10_settle ∈ zT := zT_in (in_s (q := (yX10_settle, 34)) (List.mem_append_right _ (List.mem_append_right _ (List.mem_append_right _ ((List.mem_of_getElem? (i := 8) (by decide +kernel))))))) rfl
theorem qp4_9 : Cond.selects RX10 yX10_notsOpen yX10_notsOpen ∈ zT := zT_in (in_s (q := (yX10_notsOpen, 34)) (List.mem_append_right _ (List.mem_append_right _ (List.mem_append_right _ ((List.mem_of_getElem? (i := 9) (by decide +kernel))))))) rfl
theorem qp4_10 : Cond.selects RX10 yX10_signHere yX10_signHere ∈ zT := zT_in (in_s (q := (yX10_signHere, 34)) (List.mem_append_right _ (List.mem_append_right _ (List.mem_append_right _ ((List.mem_of_getElem? (i := 10) (by decide +kernel))))))) rfl
theorem qp4_11 : Cond.selects RX10 yX10_hearing yX10_hearing ∈ zT := zT_in (in_s (q := (yX10_hearing, 34)) (List.mem_append_right _ (List.mem_append_right _ (List.mem_append_right _ ((List.mem_of_getElem? (i := 11) (by decide +kernel))))))) rfl
theorem inZ0 : ∀ w ∈ u_ws RX0 TX0 7, w ∈ zT := by
  show ∀ w ∈ ([Cond.lays RX0 "MeanSafe$Person" "kind" "I", Cond.lays RX0 "MeanSafe$Person" "dial" "I", Cond.lays RX0 "MeanSafe$Person" "weight" "I", Cond.lays RX0 "MeanSafe$Person" "bias" "I", Cond.lays RX0 "MeanSafe$Person" "low" "I", Cond.lays RX0 "MeanSafe$Person" "high" "I", Cond.lays RX0 "MeanSafe$Person" "hears" "Z"] : List Cond), w ∈ zT
  exact List.forall_mem_cons.mpr ⟨q1_102, List.forall_mem_cons.mpr ⟨q1_104, List.forall_mem_cons.mpr ⟨q1_106, List.forall_mem_cons.mpr ⟨q1_108, List.forall_mem_cons.mpr ⟨q1_110, List.forall_mem_cons.mpr ⟨q1_112, List.forall_mem_cons.mpr ⟨q1_114, fun _ h => absurd h List.not_mem_nil⟩⟩⟩⟩⟩⟩⟩
theorem inZ1 : ∀ w ∈ u_ws RX1 TX1 9, w ∈ zT := by
  show ∀ w ∈ ([Cond.laysFinal RX1 "MeanSafe$Reader" "tape" "LMeanSafe$Tape;", Cond.laysFinal RX1 "MeanSafe$Reader" "read" "LMeanSafe$Text;", Cond.lays RX1 "MeanSafe$Reader" "start" "I", Cond.lays RX1 "MeanSafe$Reader" "end" "I", Cond.lays RX1 "MeanSafe$Reader" "sort" "I", Cond.lays RX1 "MeanSafe$Reader" "glued" "Z", Cond.lays RX1 "MeanSafe$Reader" "failed" "Z", Cond.lays RX1 "MeanSafe$Reader" "brackets" "I", Cond.lays RX1 "MeanSafe$Reader" "nots" "I"] : List Cond), w ∈ zT
  exact List.forall_mem_cons.mpr ⟨q1_223, List.forall_mem_cons.mpr ⟨q1_225, List.forall_mem_cons.mpr ⟨q1_227, List.forall_mem_cons.mpr ⟨q1_229, List.forall_mem_cons.mpr ⟨q1_231, List.forall_mem_cons.mpr ⟨q1_233, List.forall_mem_cons.mpr ⟨q1_235, List.forall_mem_cons.mpr ⟨q1_237, List.forall_mem_cons.mpr ⟨q1_239, fun _ h => absurd h List.not_mem_nil⟩⟩⟩⟩⟩⟩⟩⟩⟩
theorem inZ2 : ∀ w ∈ u_ws RX2 TX2 3, w ∈ zT := by
  show ∀ w ∈ ([Cond.lays RX2 "MeanSafe$Sheet" "sort" "I", Cond.lays RX2 "MeanSafe$Sheet" "size" "I", Cond.laysFinal RX2 "MeanSafe$Sheet" "places" "[I"] : List Cond), w ∈ zT
  exact List.forall_mem_cons.mpr ⟨q2_19, List.forall_mem_cons.mpr ⟨q2_21, List.forall_mem_cons.mpr ⟨q2_23, fun _ h => absurd h List.not_mem_nil⟩⟩⟩
theorem inZ3 : ∀ w ∈ u_ws RX3 TX3 4, w ∈ zT := by
  show ∀ w ∈ ([Cond.lays RX3 "MeanSafe$Slot" "thing" "I", Cond.laysFinal RX3 "MeanSafe$Slot" "one" "LMeanSafe$Person;", Cond.laysFinal RX3 "MeanSafe$Slot" "sheet" "LMeanSafe$Sheet;", Cond.lays RX3 "MeanSafe$Slot" "number" "I"] : List Cond), w ∈ zT
  exact List.forall_mem_cons.mpr ⟨q2_43, List.forall_mem_cons.mpr ⟨q2_45, List.forall_mem_cons.mpr ⟨q2_47, List.forall_mem_cons.mpr ⟨q2_49, fun _ h => absurd h List.not_mem_nil⟩⟩⟩⟩
theorem inZ4 : ∀ w ∈ u_ws RX4 TX4 2, w ∈ zT := by
  show ∀ w ∈ ([Cond.laysFinal RX4 "MeanSafe$Tape" "bytes" "[I", Cond.lays RX4 "MeanSafe$Tape" "length" "I"] : List Cond), w ∈ zT
  exact List.forall_mem_cons.mpr ⟨q1_199, List.forall_mem_cons.mpr ⟨q1_201, fun _ h => absurd h List.not_mem_nil⟩⟩
theorem inZ5 : ∀ w ∈ u_ws RX5 TX5 4, w ∈ zT := by
  show ∀ w ∈ ([Cond.lays RX5 "MeanSafe$Text" "key" "I", Cond.lays RX5 "MeanSafe$Text" "leaves" "I", Cond.lays RX5 "MeanSafe$Text" "length" "I", Cond.laysFinal RX5 "MeanSafe$Text" "code" "[I"] : List Cond), w ∈ zT
  exact List.forall_mem_cons.mpr ⟨q1_53, List.forall_mem_cons.mpr ⟨q1_55, List.forall_mem_cons.mpr ⟨q1_57, List.forall_mem_cons.mpr ⟨q1_59, fun _ h => absurd h List.not_mem_nil⟩⟩⟩⟩
theorem inZ6 : ∀ w ∈ u_ws RX6 TX6 2, w ∈ zT := by
  show ∀ w ∈ ([Cond.laysFinal RX6 "MeanSafe$Texts" "all" "[LMeanSafe$Text;", Cond.laysFinal RX6 "MeanSafe$Texts" "stack" "[I"] : List Cond), w ∈ zT
  exact List.forall_mem_cons.mpr ⟨q1_67, List.forall_mem_cons.mpr ⟨q1_69, fun _ h => absurd h List.not_mem_nil⟩⟩
theorem inZ7 : ∀ w ∈ u_ws RX7 TX7 4, w ∈ zT := by
  show ∀ w ∈ ([Cond.laysFinal RX7 "MeanSafe$Thought" "worlds" "[LMeanSafe$World;", Cond.laysFinal RX7 "MeanSafe$Thought" "groups" "[[I", Cond.laysFinal RX7 "MeanSafe$Thought" "sizes" "[I", Cond.laysFinal RX7 "MeanSafe$Thought" "needed" "[I"] : List Cond), w ∈ zT
  exact List.forall_mem_cons.mpr ⟨q1_180, List.forall_mem_cons.mpr ⟨q1_182, List.forall_mem_cons.mpr ⟨q1_184, List.forall_mem_cons.mpr ⟨q1_186, fun _ h => absurd h List.not_mem_nil⟩⟩⟩⟩
theorem inZ8 : ∀ w ∈ u_ws RX8 TX8 12, w ∈ zT := by
  show ∀ w ∈ ([Cond.laysFinal RX8 "MeanSafe$World" "texts" "LMeanSafe$Texts;", Cond.laysFinal RX8 "MeanSafe$World" "people" "[LMeanSafe$Person;", Cond.lays RX8 "MeanSafe$World" "size" "I", Cond.lays RX8 "MeanSafe$World" "number" "I", Cond.lays RX8 "MeanSafe$World" "law" "I", Cond.lays RX8 "MeanSafe$World" "drift" "I", Cond.lays RX8 "MeanSafe$World" "bolts" "I", Cond.lays RX8 "MeanSafe$World" "open" "Z", Cond.lays RX8 "MeanSafe$World" "tried" "I", Cond.lays RX8 "MeanSafe$World" "z" "I", Cond.lays RX8 "MeanSafe$World" "textCount" "I", Cond.laysFinal RX8 "MeanSafe$World" "laws" "[I"] : List Cond), w ∈ zT
  exact List.forall_mem_cons.mpr ⟨q1_139, List.forall_mem_cons.mpr ⟨q1_141, List.forall_mem_cons.mpr ⟨q1_143, List.forall_mem_cons.mpr ⟨q1_145, List.forall_mem_cons.mpr ⟨q1_147, List.forall_mem_cons.mpr ⟨q1_149, List.forall_mem_cons.mpr ⟨q1_151, List.forall_mem_cons.mpr ⟨q1_153, List.forall_mem_cons.mpr ⟨q1_155, List.forall_mem_cons.mpr ⟨q1_157, List.forall_mem_cons.mpr ⟨q1_159, List.forall_mem_cons.mpr ⟨q1_161, fun _ h => absurd h List.not_mem_nil⟩⟩⟩⟩⟩⟩⟩⟩⟩⟩⟩⟩
theorem inZ9 : ∀ w ∈ u_ws RX9 TX9 11, w ∈ zT := by
  show ∀ w ∈ ([Cond.laysFinal RX9 "MeanSafe" "texts" "LMeanSafe$Texts;", Cond.laysFinal RX9 "MeanSafe" "now" "LMeanSafe$World;", Cond.laysFinal RX9 "MeanSafe" "image" "LMeanSafe$World;", Cond.laysFinal RX9 "MeanSafe" "thought" "LMeanSafe$Thought;", Cond.laysFinal RX9 "MeanSafe" "tape" "LMeanSafe$Tape;", Cond.laysFinal RX9 "MeanSafe" "reader" "LMeanSafe$Reader;", Cond.laysFinal RX9 "MeanSafe" "sheets" "[LMeanSafe$Sheet;", Cond.laysFinal RX9 "MeanSafe" "slots" "[LMeanSafe$Slot;", Cond.laysFinal RX9 "MeanSafe" "waits" "[I", Cond.lays RX9 "MeanSafe" "waiting" "I", Cond.lays RX9 "MeanSafe" "kept" "Z"] : List Cond), w ∈ zT
  exact List.forall_mem_cons.mpr ⟨q2_63, List.forall_mem_cons.mpr ⟨q2_65, List.forall_mem_cons.mpr ⟨q2_67, List.forall_mem_cons.mpr ⟨q2_69, List.forall_mem_cons.mpr ⟨q2_71, List.forall_mem_cons.mpr ⟨q2_73, List.forall_mem_cons.mpr ⟨q2_75, List.forall_mem_cons.mpr ⟨q2_77, List.forall_mem_cons.mpr ⟨q2_79, List.forall_mem_cons.mpr ⟨q2_81, List.forall_mem_cons.mpr ⟨q2_83, fun _ h => absurd h List.not_mem_nil⟩⟩⟩⟩⟩⟩⟩⟩⟩⟩⟩
theorem inZ10 : ∀ w ∈ u_ws RX10 TX10 34, w ∈ zT := by
  show ∀ w ∈ ([Cond.laysFinal RX10 "MeanSafeModel" "now" "[I", Cond.laysFinal RX10 "MeanSafeModel" "image" "[I", Cond.laysFinal RX10 "MeanSafeModel" "aside" "[I", Cond.lays RX10 "MeanSafeModel" "hasImage" "Z", Cond.laysFinal RX10 "MeanSafeModel" "before" "[I", Cond.laysFinal RX10 "MeanSafeModel" "begins" "[I", Cond.laysFinal RX10 "MeanSafeModel" "tape" "[I", Cond.lays RX10 "MeanSafeModel" "taped" "I", Cond.lays RX10 "MeanSafeModel" "next" "I", Cond.lays RX10 "MeanSafeModel" "from" "I", Cond.lays RX10 "MeanSafeModel" "token" "I", Cond.lays RX10 "MeanSafeModel" "value" "I", Cond.lays RX10 "MeanSafeModel" "ended" "I", Cond.lays RX10 "MeanSafeModel" "key" "I", Cond.laysFinal RX10 "MeanSafeModel" "keys" "[C", Cond.laysFinal RX10 "MeanSafeModel" "keyAt" "[I", Cond.laysFinal RX10 "MeanSafeModel" "code" "[I", Cond.lays RX10 "MeanSafeModel" "codes" "I", Cond.lays RX10 "MeanSafeModel" "atoms" "I", Cond.laysFinal RX10 "MeanSafeModel" "waits" "[I", Cond.lays RX10 "MeanSafeModel" "held" "I", Cond.laysFinal RX10 "MeanSafeModel" "tested" "[Z", Cond.laysFinal RX10 "MeanSafeModel" "stack" "[I", Cond.laysFinal RX10 "MeanSafeModel" "facts" "[I", Cond.laysFinal RX10 "MeanSafeModel" "sorts" "[I", Cond.laysFinal RX10 "MeanSafeModel" "sizes" "[I", Cond.laysFinal RX10 "MeanSafeModel" "cells" "[I", Cond.laysFinal RX10 "MeanSafeModel" "holds" "[I", Cond.laysFinal RX10 "MeanSafeModel" "holdsA" "[I", Cond.laysFinal RX10 "MeanSafeModel" "holdsB" "[I", Cond.laysFinal RX10 "MeanSafeModel" "heldCells" "[I", Cond.laysFinal RX10 "MeanSafeModel" "moved" "[I", Cond.laysFinal RX10 "MeanSafeModel" "told0" "[I", Cond.lays RX10 "MeanSafeModel" "waiting" "I"] : List Cond), w ∈ zT
  exact List.forall_mem_cons.mpr ⟨q4_210, List.forall_mem_cons.mpr ⟨q4_212, List.forall_mem_cons.mpr ⟨q4_214, List.forall_mem_cons.mpr ⟨q4_216, List.forall_mem_cons.mpr ⟨q4_218, List.forall_mem_cons.mpr ⟨q4_220, List.forall_mem_cons.mpr ⟨q4_222, List.forall_mem_cons.mpr ⟨q4_224, List.forall_mem_cons.mpr ⟨q4_226, List.forall_mem_cons.mpr ⟨q4_228, List.forall_mem_cons.mpr ⟨q4_230, List.forall_mem_cons.mpr ⟨q4_232, List.forall_mem_cons.mpr ⟨q4_234, List.forall_mem_cons.mpr ⟨q4_236, List.forall_mem_cons.mpr ⟨q4_238, List.forall_mem_cons.mpr ⟨q5_0, List.forall_mem_cons.mpr ⟨q5_2, List.forall_mem_cons.mpr ⟨q5_4, List.forall_mem_cons.mpr ⟨q5_6, List.forall_mem_cons.mpr ⟨q5_8, List.forall_mem_cons.mpr ⟨q5_10, List.forall_mem_cons.mpr ⟨q5_12, List.forall_mem_cons.mpr ⟨q5_14, List.forall_mem_cons.mpr ⟨q5_16, List.forall_mem_cons.mpr ⟨q5_18, List.forall_mem_cons.mpr ⟨q5_20, List.forall_mem_cons.mpr ⟨q5_22, List.forall_mem_cons.mpr ⟨q5_24, List.forall_mem_cons.mpr ⟨q5_26, List.forall_mem_cons.mpr ⟨q5_28, List.forall_mem_cons.mpr ⟨q5_30, List.forall_mem_cons.mpr ⟨q5_32, List.forall_mem_cons.mpr ⟨q5_34, List.forall_mem_cons.mpr ⟨q5_36, fun _ h => absurd h List.not_mem_nil⟩⟩⟩⟩⟩⟩⟩⟩⟩⟩⟩⟩⟩⟩⟩⟩⟩⟩⟩⟩⟩⟩⟩⟩⟩⟩⟩⟩⟩⟩⟩⟩⟩⟩
theorem fX5_9 : zFld RX5 9 5 0 false .int := ⟨RX5, "MeanSafe$Text", TX5, 4, tyX5, rfl, by decide, q1_41, rfl, inZ5, rfl, tyX5_ok, nmX5, by decide +kernel⟩
theorem fX1_77 : zFld RX1 77 5 0 false .int := ⟨RX5, "MeanSafe$Text", TX5, 4, tyX5, rfl, by decide, q1_42, rfl, inZ5, rfl, tyX5_ok, nmX5, by decide +kernel⟩
theorem fX8_65 : zFld RX8 65 5 0 false .int := ⟨RX5, "MeanSafe$Text", TX5, 4, tyX5, rfl, by decide, q1_43, rfl, inZ5, rfl, tyX5_ok, nmX5, by decide +kernel⟩
theorem fX9_240 : zFld RX9 240 5 0 false .int := ⟨RX5, "MeanSafe$Text", TX5, 4, tyX5, rfl, by decide, q1_44, rfl, inZ5, rfl, tyX5_ok, nmX5, by decide +kernel⟩
theorem fX5_15 : zFld RX5 15 5 1 false .int := ⟨RX5, "MeanSafe$Text", TX5, 4, tyX5, rfl, by decide, q1_45, rfl, inZ5, rfl, tyX5_ok, nmX5, by decide +kernel⟩
theorem fX1_45 : zFld RX1 45 5 1 false .int := ⟨RX5, "MeanSafe$Text", TX5, 4, tyX5, rfl, by decide, q1_46, rfl, inZ5, rfl, tyX5_ok, nmX5, by decide +kernel⟩
theorem fX9_243 : zFld RX9 243 5 1 false .int := ⟨RX5, "MeanSafe$Text", TX5, 4, tyX5, rfl, by decide, q1_47, rfl, inZ5, rfl, tyX5_ok, nmX5, by decide +kernel⟩
theorem fX5_18 : zFld RX5 18 5 2 false .int := ⟨RX5, "MeanSafe$Text", TX5, 4, tyX5, rfl, by decide, q1_48, rfl, inZ5, rfl, tyX5_ok, nmX5, by decide +kernel⟩
theorem fX1_48 : zFld RX1 48 5 2 false .int := ⟨RX5, "MeanSafe$Text", TX5, 4, tyX5, rfl, by decide, q1_49, rfl, inZ5, rfl, tyX5_ok, nmX5, by decide +kernel⟩
theorem fX6_22 : zFld RX6 22 5 2 false .int := ⟨RX5, "MeanSafe$Text", TX5, 4, tyX5, rfl, by decide, q1_50, rfl, inZ5, rfl, tyX5_ok, nmX5, by decide +kernel⟩
theorem fX5_21 : zFld RX5 21 5 3 true (.array .int) := ⟨RX5, "MeanSafe$Text", TX5, 4, tyX5, rfl, by decide, q1_51, rfl, inZ5, rfl, tyX5_ok, nmX5, by decide +kernel⟩
theorem fX6_26 : zFld RX6 26 5 3 true (.array .int) := ⟨RX5, "MeanSafe$Text", TX5, 4, tyX5, rfl, by decide, q1_52, rfl, inZ5, rfl, tyX5_ok, nmX5, by decide +kernel⟩
theorem fX6_11 : zFld RX6 11 6 0 true (.array (.object "MeanSafe$Text")) := ⟨RX6, "MeanSafe$Texts", TX6, 2, tyX6, rfl, by decide, q1_63, rfl, inZ6, rfl, tyX6_ok, nmX6, by decide +kernel⟩
theorem fX8_59 : zFld RX8 59 6 0 true (.array (.object "MeanSafe$Text")) := ⟨RX6, "MeanSafe$Texts", TX6, 2, tyX6, rfl, by decide, q1_64, rfl, inZ6, rfl, tyX6_ok, nmX6, by decide +kernel⟩
theorem fX9_227 : zFld RX9 227 6 0 true (.array (.object "MeanSafe$Text")) := ⟨RX6, "MeanSafe$Texts", TX6, 2, tyX6, rfl, by decide, q1_65, rfl, inZ6, rfl, tyX6_ok, nmX6, by decide +kernel⟩
theorem fX6_17 : zFld RX6 17 6 1 true (.array .int) := ⟨RX6, "MeanSafe$Texts", TX6, 2, tyX6, rfl, by decide, q1_66, rfl, inZ6, rfl, tyX6_ok, nmX6, by decide +kernel⟩
theorem fX9_103 : zFld RX9 103 0 0 false .int := ⟨RX0, "MeanSafe$Person", TX0, 7, tyX0, rfl, by decide, q1_85, rfl, inZ0, rfl, tyX0_ok, nmX0, by decide +kernel⟩
theorem fX0_25 : zFld RX0 25 0 0 false .int := ⟨RX0, "MeanSafe$Person", TX0, 7, tyX0, rfl, by decide, q1_86, rfl, inZ0, rfl, tyX0_ok, nmX0, by decide +kernel⟩
theorem fX8_70 : zFld RX8 70 0 0 false .int := ⟨RX0, "MeanSafe$Person", TX0, 7, tyX0, rfl, by decide, q1_87, rfl, inZ0, rfl, tyX0_ok, nmX0, by decide +kernel⟩
theorem fX0_11 : zFld RX0 11 0 1 false .int := ⟨RX0, "MeanSafe$Person", TX0, 7, tyX0, rfl, by decide, q1_88, rfl, inZ0, rfl, tyX0_ok, nmX0, by decide +kernel⟩
theorem fX9_133 : zFld RX9 133 0 1 false .int := ⟨RX0, "MeanSafe$Person", TX0, 7, tyX0, rfl, by decide, q1_89, rfl, inZ0, rfl, tyX0_ok, nmX0, by decide +kernel⟩
theorem fX8_73 : zFld RX8 73 0 1 false .int := ⟨RX0, "MeanSafe$Person", TX0, 7, tyX0, rfl, by decide, q1_90, rfl, inZ0, rfl, tyX0_ok, nmX0, by decide +kernel⟩
theorem fX0_15 : zFld RX0 15 0 2 false .int := ⟨RX0, "MeanSafe$Person", TX0, 7, tyX0, rfl, by decide, q1_91, rfl, inZ0, rfl, tyX0_ok, nmX0, by decide +kernel⟩
theorem fX8_76 : zFld RX8 76 0 2 false .int := ⟨RX0, "MeanSafe$Person", TX0, 7, tyX0, rfl, by decide, q1_92, rfl, inZ0, rfl, tyX0_ok, nmX0, by decide +kernel⟩
theorem fX9_209 : zFld RX9 209 0 2 false .int := ⟨RX0, "MeanSafe$Person", TX0, 7, tyX0, rfl, by decide, q1_93, rfl, inZ0, rfl, tyX0_ok, nmX0, by decide +kernel⟩
theorem fX0_18 : zFld RX0 18 0 3 false .int := ⟨RX0, "MeanSafe$Person", TX0, 7, tyX0, rfl, by decide, q1_94, rfl, inZ0, rfl, tyX0_ok, nmX0, by decide +kernel⟩
theorem fX8_79 : zFld RX8 79 0 3 false .int := ⟨RX0, "MeanSafe$Person", TX0, 7, tyX0, rfl, by decide, q1_95, rfl, inZ0, rfl, tyX0_ok, nmX0, by decide +kernel⟩
theorem fX9_106 : zFld RX9 106 0 4 false .int := ⟨RX0, "MeanSafe$Person", TX0, 7, tyX0, rfl, by decide, q1_96, rfl, inZ0, rfl, tyX0_ok, nmX0, by decide +kernel⟩
theorem fX0_28 : zFld RX0 28 0 4 false .int := ⟨RX0, "MeanSafe$Person", TX0, 7, tyX0, rfl, by decide, q1_97, rfl, inZ0, rfl, tyX0_ok, nmX0, by decide +kernel⟩
theorem fX9_109 : zFld RX9 109 0 5 false .int := ⟨RX0, "MeanSafe$Person", TX0, 7, tyX0, rfl, by decide, q1_98, rfl, inZ0, rfl, tyX0_ok, nmX0, by decide +kernel⟩
theorem fX0_31 : zFld RX0 31 0 5 false .int := ⟨RX0, "MeanSafe$Person", TX0, 7, tyX0, rfl, by decide, q1_99, rfl, inZ0, rfl, tyX0_ok, nmX0, by decide +kernel⟩
theorem fX0_21 : zFld RX0 21 0 6 false .boolean := ⟨RX0, "MeanSafe$Person", TX0, 7, tyX0, rfl, by decide, q1_100, rfl, inZ0, rfl, tyX0_ok, nmX0, by decide +kernel⟩
theorem fX8_82 : zFld RX8 82 0 6 false .boolean := ⟨RX0, "MeanSafe$Person", TX0, 7, tyX0, rfl, by decide, q1_101, rfl, inZ0, rfl, tyX0_ok, nmX0, by decide +kernel⟩
theorem fX8_50 : zFld RX8 50 8 0 true (.object "MeanSafe$Texts") := ⟨RX8, "MeanSafe$World", TX8, 12, tyX8, rfl, by decide, q1_117, rfl, inZ8, rfl, tyX8_ok, nmX8, by decide +kernel⟩
theorem fX8_11 : zFld RX8 11 8 1 true (.array (.object "MeanSafe$Person")) := ⟨RX8, "MeanSafe$World", TX8, 12, tyX8, rfl, by decide, q1_118, rfl, inZ8, rfl, tyX8_ok, nmX8, by decide +kernel⟩
theorem fX9_99 : zFld RX9 99 8 1 true (.array (.object "MeanSafe$Person")) := ⟨RX8, "MeanSafe$World", TX8, 12, tyX8, rfl, by decide, q1_119, rfl, inZ8, rfl, tyX8_ok, nmX8, by decide +kernel⟩
theorem fX8_17 : zFld RX8 17 8 2 false .int := ⟨RX8, "MeanSafe$World", TX8, 12, tyX8, rfl, by decide, q1_120, rfl, inZ8, rfl, tyX8_ok, nmX8, by decide +kernel⟩
theorem fX9_88 : zFld RX9 88 8 2 false .int := ⟨RX8, "MeanSafe$World", TX8, 12, tyX8, rfl, by decide, q1_121, rfl, inZ8, rfl, tyX8_ok, nmX8, by decide +kernel⟩
theorem fX7_46 : zFld RX7 46 8 2 false .int := ⟨RX8, "MeanSafe$World", TX8, 12, tyX8, rfl, by decide, q1_122, rfl, inZ8, rfl, tyX8_ok, nmX8, by decide +kernel⟩
theorem fX8_21 : zFld RX8 21 8 3 false .int := ⟨RX8, "MeanSafe$World", TX8, 12, tyX8, rfl, by decide, q1_123, rfl, inZ8, rfl, tyX8_ok, nmX8, by decide +kernel⟩
theorem fX9_186 : zFld RX9 186 8 3 false .int := ⟨RX8, "MeanSafe$World", TX8, 12, tyX8, rfl, by decide, q1_124, rfl, inZ8, rfl, tyX8_ok, nmX8, by decide +kernel⟩
theorem fX8_24 : zFld RX8 24 8 4 false .int := ⟨RX8, "MeanSafe$World", TX8, 12, tyX8, rfl, by decide, q1_125, rfl, inZ8, rfl, tyX8_ok, nmX8, by decide +kernel⟩
theorem fX8_27 : zFld RX8 27 8 5 false .int := ⟨RX8, "MeanSafe$World", TX8, 12, tyX8, rfl, by decide, q1_126, rfl, inZ8, rfl, tyX8_ok, nmX8, by decide +kernel⟩
theorem fX8_30 : zFld RX8 30 8 6 false .int := ⟨RX8, "MeanSafe$World", TX8, 12, tyX8, rfl, by decide, q1_127, rfl, inZ8, rfl, tyX8_ok, nmX8, by decide +kernel⟩
theorem fX9_203 : zFld RX9 203 8 6 false .int := ⟨RX8, "MeanSafe$World", TX8, 12, tyX8, rfl, by decide, q1_128, rfl, inZ8, rfl, tyX8_ok, nmX8, by decide +kernel⟩
theorem fX8_33 : zFld RX8 33 8 7 false .boolean := ⟨RX8, "MeanSafe$World", TX8, 12, tyX8, rfl, by decide, q1_129, rfl, inZ8, rfl, tyX8_ok, nmX8, by decide +kernel⟩
theorem fX7_42 : zFld RX7 42 8 7 false .boolean := ⟨RX8, "MeanSafe$World", TX8, 12, tyX8, rfl, by decide, q1_130, rfl, inZ8, rfl, tyX8_ok, nmX8, by decide +kernel⟩
theorem fX9_189 : zFld RX9 189 8 7 false .boolean := ⟨RX8, "MeanSafe$World", TX8, 12, tyX8, rfl, by decide, q1_131, rfl, inZ8, rfl, tyX8_ok, nmX8, by decide +kernel⟩
theorem fX8_37 : zFld RX8 37 8 8 false .int := ⟨RX8, "MeanSafe$World", TX8, 12, tyX8, rfl, by decide, q1_132, rfl, inZ8, rfl, tyX8_ok, nmX8, by decide +kernel⟩
theorem fX9_164 : zFld RX9 164 8 8 false .int := ⟨RX8, "MeanSafe$World", TX8, 12, tyX8, rfl, by decide, q1_133, rfl, inZ8, rfl, tyX8_ok, nmX8, by decide +kernel⟩
theorem fX8_40 : zFld RX8 40 8 9 false .int := ⟨RX8, "MeanSafe$World", TX8, 12, tyX8, rfl, by decide, q1_134, rfl, inZ8, rfl, tyX8_ok, nmX8, by decide +kernel⟩
theorem fX9_153 : zFld RX9 153 8 9 false .int := ⟨RX8, "MeanSafe$World", TX8, 12, tyX8, rfl, by decide, q1_135, rfl, inZ8, rfl, tyX8_ok, nmX8, by decide +kernel⟩
theorem fX8_43 : zFld RX8 43 8 10 false .int := ⟨RX8, "MeanSafe$World", TX8, 12, tyX8, rfl, by decide, q1_136, rfl, inZ8, rfl, tyX8_ok, nmX8, by decide +kernel⟩
theorem fX9_224 : zFld RX9 224 8 10 false .int := ⟨RX8, "MeanSafe$World", TX8, 12, tyX8, rfl, by decide, q1_137, rfl, inZ8, rfl, tyX8_ok, nmX8, by decide +kernel⟩
theorem fX8_46 : zFld RX8 46 8 11 true (.array .int) := ⟨RX8, "MeanSafe$World", TX8, 12, tyX8, rfl, by decide, q1_138, rfl, inZ8, rfl, tyX8_ok, nmX8, by decide +kernel⟩
theorem fX7_11 : zFld RX7 11 7 0 true (.array (.object "MeanSafe$World")) := ⟨RX7, "MeanSafe$Thought", TX7, 4, tyX7, rfl, by decide, q1_175, rfl, inZ7, rfl, tyX7_ok, nmX7, by decide +kernel⟩
theorem fX7_19 : zFld RX7 19 7 1 true (.array (.array .int)) := ⟨RX7, "MeanSafe$Thought", TX7, 4, tyX7, rfl, by decide, q1_176, rfl, inZ7, rfl, tyX7_ok, nmX7, by decide +kernel⟩
theorem fX7_22 : zFld RX7 22 7 2 true (.array .int) := ⟨RX7, "MeanSafe$Thought", TX7, 4, tyX7, rfl, by decide, q1_177, rfl, inZ7, rfl, tyX7_ok, nmX7, by decide +kernel⟩
theorem fX7_26 : zFld RX7 26 7 3 true (.array .int) := ⟨RX7, "MeanSafe$Thought", TX7, 4, tyX7, rfl, by decide, q1_178, rfl, inZ7, rfl, tyX7_ok, nmX7, by decide +kernel⟩
theorem fX9_179 : zFld RX9 179 7 3 true (.array .int) := ⟨RX7, "MeanSafe$Thought", TX7, 4, tyX7, rfl, by decide, q1_179, rfl, inZ7, rfl, tyX7_ok, nmX7, by decide +kernel⟩
theorem fX4_9 : zFld RX4 9 4 0 true (.array .int) := ⟨RX4, "MeanSafe$Tape", TX4, 2, tyX4, rfl, by decide, q1_195, rfl, inZ4, rfl, tyX4_ok, nmX4, by decide +kernel⟩
theorem fX4_15 : zFld RX4 15 4 1 false .int := ⟨RX4, "MeanSafe$Tape", TX4, 2, tyX4, rfl, by decide, q1_196, rfl, inZ4, rfl, tyX4_ok, nmX4, by decide +kernel⟩
theorem fX1_61 : zFld RX1 61 4 1 false .int := ⟨RX4, "MeanSafe$Tape", TX4, 2, tyX4, rfl, by decide, q1_197, rfl, inZ4, rfl, tyX4_ok, nmX4, by decide +kernel⟩
theorem fX9_212 : zFld RX9 212 4 1 false .int := ⟨RX4, "MeanSafe$Tape", TX4, 2, tyX4, rfl, by decide, q1_198, rfl, inZ4, rfl, tyX4_ok, nmX4, by decide +kernel⟩
theorem fX1_41 : zFld RX1 41 1 0 true (.object "MeanSafe$Tape") := ⟨RX1, "MeanSafe$Reader", TX1, 9, tyX1, rfl, by decide, q1_212, rfl, inZ1, rfl, tyX1_ok, nmX1, by decide +kernel⟩
theorem fX1_12 : zFld RX1 12 1 1 true (.object "MeanSafe$Text") := ⟨RX1, "MeanSafe$Reader", TX1, 9, tyX1, rfl, by decide, q1_213, rfl, inZ1, rfl, tyX1_ok, nmX1, by decide +kernel⟩
theorem fX5_25 : zFld RX5 25 1 1 true (.object "MeanSafe$Text") := ⟨RX1, "MeanSafe$Reader", TX1, 9, tyX1, rfl, by decide, q1_214, rfl, inZ1, rfl, tyX1_ok, nmX1, by decide +kernel⟩
theorem fX1_18 : zFld RX1 18 1 2 false .int := ⟨RX1, "MeanSafe$Reader", TX1, 9, tyX1, rfl, by decide, q1_215, rfl, inZ1, rfl, tyX1_ok, nmX1, by decide +kernel⟩
theorem fX9_221 : zFld RX9 221 1 2 false .int := ⟨RX1, "MeanSafe$Reader", TX1, 9, tyX1, rfl, by decide, q1_216, rfl, inZ1, rfl, tyX1_ok, nmX1, by decide +kernel⟩
theorem fX1_22 : zFld RX1 22 1 3 false .int := ⟨RX1, "MeanSafe$Reader", TX1, 9, tyX1, rfl, by decide, q1_217, rfl, inZ1, rfl, tyX1_ok, nmX1, by decide +kernel⟩
theorem fX1_25 : zFld RX1 25 1 4 false .int := ⟨RX1, "MeanSafe$Reader", TX1, 9, tyX1, rfl, by decide, q1_218, rfl, inZ1, rfl, tyX1_ok, nmX1, by decide +kernel⟩
theorem fX1_28 : zFld RX1 28 1 5 false .boolean := ⟨RX1, "MeanSafe$Reader", TX1, 9, tyX1, rfl, by decide, q1_219, rfl, inZ1, rfl, tyX1_ok, nmX1, by decide +kernel⟩
theorem fX1_32 : zFld RX1 32 1 6 false .boolean := ⟨RX1, "MeanSafe$Reader", TX1, 9, tyX1, rfl, by decide, q1_220, rfl, inZ1, rfl, tyX1_ok, nmX1, by decide +kernel⟩
theorem fX1_35 : zFld RX1 35 1 7 false .int := ⟨RX1, "MeanSafe$Reader", TX1, 9, tyX1, rfl, by decide, q1_221, rfl, inZ1, rfl, tyX1_ok, nmX1, by decide +kernel⟩
theorem fX1_38 : zFld RX1 38 1 8 false .int := ⟨RX1, "MeanSafe$Reader", TX1, 9, tyX1, rfl, by decide, q1_222, rfl, inZ1, rfl, tyX1_ok, nmX1, by decide +kernel⟩
theorem fX2_9 : zFld RX2 9 2 0 false .int := ⟨RX2, "MeanSafe$Sheet", TX2, 3, tyX2, rfl, by decide, q2_11, rfl, inZ2, rfl, tyX2_ok, nmX2, by decide +kernel⟩
theorem fX9_195 : zFld RX9 195 2 0 false .int := ⟨RX2, "MeanSafe$Sheet", TX2, 3, tyX2, rfl, by decide, q2_12, rfl, inZ2, rfl, tyX2_ok, nmX2, by decide +kernel⟩
theorem fX2_15 : zFld RX2 15 2 1 false .int := ⟨RX2, "MeanSafe$Sheet", TX2, 3, tyX2, rfl, by decide, q2_13, rfl, inZ2, rfl, tyX2_ok, nmX2, by decide +kernel⟩
theorem fX8_144 : zFld RX8 144 2 1 false .int := ⟨RX2, "MeanSafe$Sheet", TX2, 3, tyX2, rfl, by decide, q2_14, rfl, inZ2, rfl, tyX2_ok, nmX2, by decide +kernel⟩
theorem fX9_259 : zFld RX9 259 2 1 false .int := ⟨RX2, "MeanSafe$Sheet", TX2, 3, tyX2, rfl, by decide, q2_15, rfl, inZ2, rfl, tyX2_ok, nmX2, by decide +kernel⟩
theorem fX2_18 : zFld RX2 18 2 2 true (.array .int) := ⟨RX2, "MeanSafe$Sheet", TX2, 3, tyX2, rfl, by decide, q2_16, rfl, inZ2, rfl, tyX2_ok, nmX2, by decide +kernel⟩
theorem fX8_147 : zFld RX8 147 2 2 true (.array .int) := ⟨RX2, "MeanSafe$Sheet", TX2, 3, tyX2, rfl, by decide, q2_17, rfl, inZ2, rfl, tyX2_ok, nmX2, by decide +kernel⟩
theorem fX9_254 : zFld RX9 254 2 2 true (.array .int) := ⟨RX2, "MeanSafe$Sheet", TX2, 3, tyX2, rfl, by decide, q2_18, rfl, inZ2, rfl, tyX2_ok, nmX2, by decide +kernel⟩
theorem fX3_9 : zFld RX3 9 3 0 false .int := ⟨RX3, "MeanSafe$Slot", TX3, 4, tyX3, rfl, by decide, q2_35, rfl, inZ3, rfl, tyX3_ok, nmX3, by decide +kernel⟩
theorem fX9_275 : zFld RX9 275 3 0 false .int := ⟨RX3, "MeanSafe$Slot", TX3, 4, tyX3, rfl, by decide, q2_36, rfl, inZ3, rfl, tyX3_ok, nmX3, by decide +kernel⟩
theorem fX3_18 : zFld RX3 18 3 1 true (.object "MeanSafe$Person") := ⟨RX3, "MeanSafe$Slot", TX3, 4, tyX3, rfl, by decide, q2_37, rfl, inZ3, rfl, tyX3_ok, nmX3, by decide +kernel⟩
theorem fX9_278 : zFld RX9 278 3 1 true (.object "MeanSafe$Person") := ⟨RX3, "MeanSafe$Slot", TX3, 4, tyX3, rfl, by decide, q2_38, rfl, inZ3, rfl, tyX3_ok, nmX3, by decide +kernel⟩
theorem fX3_25 : zFld RX3 25 3 2 true (.object "MeanSafe$Sheet") := ⟨RX3, "MeanSafe$Slot", TX3, 4, tyX3, rfl, by decide, q2_39, rfl, inZ3, rfl, tyX3_ok, nmX3, by decide +kernel⟩
theorem fX9_285 : zFld RX9 285 3 2 true (.object "MeanSafe$Sheet") := ⟨RX3, "MeanSafe$Slot", TX3, 4, tyX3, rfl, by decide, q2_40, rfl, inZ3, rfl, tyX3_ok, nmX3, by decide +kernel⟩
theorem fX3_29 : zFld RX3 29 3 3 false .int := ⟨RX3, "MeanSafe$Slot", TX3, 4, tyX3, rfl, by decide, q2_41, rfl, inZ3, rfl, tyX3_ok, nmX3, by decide +kernel⟩
theorem fX9_292 : zFld RX9 292 3 3 false .int := ⟨RX3, "MeanSafe$Slot", TX3, 4, tyX3, rfl, by decide, q2_42, rfl, inZ3, rfl, tyX3_ok, nmX3, by decide +kernel⟩
theorem fX9_12 : zFld RX9 12 9 0 true (.object "MeanSafe$Texts") := ⟨RX9, "MeanSafe", TX9, 11, tyX9, rfl, by decide, q2_52, rfl, inZ9, rfl, tyX9_ok, nmX9, by decide +kernel⟩
theorem fX9_21 : zFld RX9 21 9 1 true (.object "MeanSafe$World") := ⟨RX9, "MeanSafe", TX9, 11, tyX9, rfl, by decide, q2_53, rfl, inZ9, rfl, tyX9_ok, nmX9, by decide +kernel⟩
theorem fX9_25 : zFld RX9 25 9 2 true (.object "MeanSafe$World") := ⟨RX9, "MeanSafe", TX9, 11, tyX9, rfl, by decide, q2_54, rfl, inZ9, rfl, tyX9_ok, nmX9, by decide +kernel⟩
theorem fX9_31 : zFld RX9 31 9 3 true (.object "MeanSafe$Thought") := ⟨RX9, "MeanSafe", TX9, 11, tyX9, rfl, by decide, q2_55, rfl, inZ9, rfl, tyX9_ok, nmX9, by decide +kernel⟩
theorem fX9_38 : zFld RX9 38 9 4 true (.object "MeanSafe$Tape") := ⟨RX9, "MeanSafe", TX9, 11, tyX9, rfl, by decide, q2_56, rfl, inZ9, rfl, tyX9_ok, nmX9, by decide +kernel⟩
theorem fX9_47 : zFld RX9 47 9 5 true (.object "MeanSafe$Reader") := ⟨RX9, "MeanSafe", TX9, 11, tyX9, rfl, by decide, q2_57, rfl, inZ9, rfl, tyX9_ok, nmX9, by decide +kernel⟩
theorem fX9_53 : zFld RX9 53 9 6 true (.array (.object "MeanSafe$Sheet")) := ⟨RX9, "MeanSafe", TX9, 11, tyX9, rfl, by decide, q2_58, rfl, inZ9, rfl, tyX9_ok, nmX9, by decide +kernel⟩
theorem fX9_59 : zFld RX9 59 9 7 true (.array (.object "MeanSafe$Slot")) := ⟨RX9, "MeanSafe", TX9, 11, tyX9, rfl, by decide, q2_59, rfl, inZ9, rfl, tyX9_ok, nmX9, by decide +kernel⟩
theorem fX9_63 : zFld RX9 63 9 8 true (.array .int) := ⟨RX9, "MeanSafe", TX9, 11, tyX9, rfl, by decide, q2_60, rfl, inZ9, rfl, tyX9_ok, nmX9, by decide +kernel⟩
theorem fX9_67 : zFld RX9 67 9 9 false .int := ⟨RX9, "MeanSafe", TX9, 11, tyX9, rfl, by decide, q2_61, rfl, inZ9, rfl, tyX9_ok, nmX9, by decide +kernel⟩
theorem fX9_71 : zFld RX9 71 9 10 false .boolean := ⟨RX9, "MeanSafe", TX9, 11, tyX9, rfl, by decide, q2_62, rfl, inZ9, rfl, tyX9_ok, nmX9, by decide +kernel⟩
theorem fX10_9 : zFld RX10 9 10 0 true (.array .int) := ⟨RX10, "MeanSafeModel", TX10, 34, tyX10, rfl, by decide, q4_176, rfl, inZ10, rfl, tyX10_ok, nmX10, by decide +kernel⟩
theorem fX10_13 : zFld RX10 13 10 1 true (.array .int) := ⟨RX10, "MeanSafeModel", TX10, 34, tyX10, rfl, by decide, q4_177, rfl, inZ10, rfl, tyX10_ok, nmX10, by decide +kernel⟩
theorem fX10_16 : zFld RX10 16 10 2 true (.array .int) := ⟨RX10, "MeanSafeModel", TX10, 34, tyX10, rfl, by decide, q4_178, rfl, inZ10, rfl, tyX10_ok, nmX10, by decide +kernel⟩
theorem fX10_283 : zFld RX10 283 10 3 false .boolean := ⟨RX10, "MeanSafeModel", TX10, 34, tyX10, rfl, by decide, q4_179, rfl, inZ10, rfl, tyX10_ok, nmX10, by decide +kernel⟩
theorem fX10_19 : zFld RX10 19 10 4 true (.array .int) := ⟨RX10, "MeanSafeModel", TX10, 34, tyX10, rfl, by decide, q4_180, rfl, inZ10, rfl, tyX10_ok, nmX10, by decide +kernel⟩
theorem fX10_22 : zFld RX10 22 10 5 true (.array .int) := ⟨RX10, "MeanSafeModel", TX10, 34, tyX10, rfl, by decide, q4_181, rfl, inZ10, rfl, tyX10_ok, nmX10, by decide +kernel⟩
theorem fX10_25 : zFld RX10 25 10 6 true (.array .int) := ⟨RX10, "MeanSafeModel", TX10, 34, tyX10, rfl, by decide, q4_182, rfl, inZ10, rfl, tyX10_ok, nmX10, by decide +kernel⟩
theorem fX10_205 : zFld RX10 205 10 7 false .int := ⟨RX10, "MeanSafeModel", TX10, 34, tyX10, rfl, by decide, q4_183, rfl, inZ10, rfl, tyX10_ok, nmX10, by decide +kernel⟩
theorem fX10_209 : zFld RX10 209 10 8 false .int := ⟨RX10, "MeanSafeModel", TX10, 34, tyX10, rfl, by decide, q4_184, rfl, inZ10, rfl, tyX10_ok, nmX10, by decide +kernel⟩
theorem fX10_212 : zFld RX10 212 10 9 false .int := ⟨RX10, "MeanSafeModel", TX10, 34, tyX10, rfl, by decide, q4_185, rfl, inZ10, rfl, tyX10_ok, nmX10, by decide +kernel⟩
theorem fX10_218 : zFld RX10 218 10 10 false .int := ⟨RX10, "MeanSafeModel", TX10, 34, tyX10, rfl, by decide, q4_186, rfl, inZ10, rfl, tyX10_ok, nmX10, by decide +kernel⟩
theorem fX10_224 : zFld RX10 224 10 11 false .int := ⟨RX10, "MeanSafeModel", TX10, 34, tyX10, rfl, by decide, q4_187, rfl, inZ10, rfl, tyX10_ok, nmX10, by decide +kernel⟩
theorem fX10_215 : zFld RX10 215 10 12 false .int := ⟨RX10, "MeanSafeModel", TX10, 34, tyX10, rfl, by decide, q4_188, rfl, inZ10, rfl, tyX10_ok, nmX10, by decide +kernel⟩
theorem fX10_230 : zFld RX10 230 10 13 false .int := ⟨RX10, "MeanSafeModel", TX10, 34, tyX10, rfl, by decide, q4_189, rfl, inZ10, rfl, tyX10_ok, nmX10, by decide +kernel⟩
theorem fX10_28 : zFld RX10 28 10 14 true (.array .char) := ⟨RX10, "MeanSafeModel", TX10, 34, tyX10, rfl, by decide, q4_190, rfl, inZ10, rfl, tyX10_ok, nmX10, by decide +kernel⟩
theorem fX10_32 : zFld RX10 32 10 15 true (.array .int) := ⟨RX10, "MeanSafeModel", TX10, 34, tyX10, rfl, by decide, q4_191, rfl, inZ10, rfl, tyX10_ok, nmX10, by decide +kernel⟩
theorem fX10_35 : zFld RX10 35 10 16 true (.array .int) := ⟨RX10, "MeanSafeModel", TX10, 34, tyX10, rfl, by decide, q4_192, rfl, inZ10, rfl, tyX10_ok, nmX10, by decide +kernel⟩
theorem fX10_242 : zFld RX10 242 10 17 false .int := ⟨RX10, "MeanSafeModel", TX10, 34, tyX10, rfl, by decide, q4_193, rfl, inZ10, rfl, tyX10_ok, nmX10, by decide +kernel⟩
theorem fX10_248 : zFld RX10 248 10 18 false .int := ⟨RX10, "MeanSafeModel", TX10, 34, tyX10, rfl, by decide, q4_194, rfl, inZ10, rfl, tyX10_ok, nmX10, by decide +kernel⟩
theorem fX10_38 : zFld RX10 38 10 19 true (.array .int) := ⟨RX10, "MeanSafeModel", TX10, 34, tyX10, rfl, by decide, q4_195, rfl, inZ10, rfl, tyX10_ok, nmX10, by decide +kernel⟩
theorem fX10_236 : zFld RX10 236 10 20 false .int := ⟨RX10, "MeanSafeModel", TX10, 34, tyX10, rfl, by decide, q4_196, rfl, inZ10, rfl, tyX10_ok, nmX10, by decide +kernel⟩
theorem fX10_41 : zFld RX10 41 10 21 true (.array .boolean) := ⟨RX10, "MeanSafeModel", TX10, 34, tyX10, rfl, by decide, q4_197, rfl, inZ10, rfl, tyX10_ok, nmX10, by decide +kernel⟩
theorem fX10_45 : zFld RX10 45 10 22 true (.array .int) := ⟨RX10, "MeanSafeModel", TX10, 34, tyX10, rfl, by decide, q4_198, rfl, inZ10, rfl, tyX10_ok, nmX10, by decide +kernel⟩
theorem fX10_48 : zFld RX10 48 10 23 true (.array .int) := ⟨RX10, "MeanSafeModel", TX10, 34, tyX10, rfl, by decide, q4_199, rfl, inZ10, rfl, tyX10_ok, nmX10, by decide +kernel⟩
theorem fX10_51 : zFld RX10 51 10 24 true (.array .int) := ⟨RX10, "MeanSafeModel", TX10, 34, tyX10, rfl, by decide, q4_200, rfl, inZ10, rfl, tyX10_ok, nmX10, by decide +kernel⟩
theorem fX10_54 : zFld RX10 54 10 25 true (.array .int) := ⟨RX10, "MeanSafeModel", TX10, 34, tyX10, rfl, by decide, q4_201, rfl, inZ10, rfl, tyX10_ok, nmX10, by decide +kernel⟩
theorem fX10_57 : zFld RX10 57 10 26 true (.array .int) := ⟨RX10, "MeanSafeModel", TX10, 34, tyX10, rfl, by decide, q4_202, rfl, inZ10, rfl, tyX10_ok, nmX10, by decide +kernel⟩
theorem fX10_60 : zFld RX10 60 10 27 true (.array .int) := ⟨RX10, "MeanSafeModel", TX10, 34, tyX10, rfl, by decide, q4_203, rfl, inZ10, rfl, tyX10_ok, nmX10, by decide +kernel⟩
theorem fX10_63 : zFld RX10 63 10 28 true (.array .int) := ⟨RX10, "MeanSafeModel", TX10, 34, tyX10, rfl, by decide, q4_204, rfl, inZ10, rfl, tyX10_ok, nmX10, by decide +kernel⟩
theorem fX10_66 : zFld RX10 66 10 29 true (.array .int) := ⟨RX10, "MeanSafeModel", TX10, 34, tyX10, rfl, by decide, q4_205, rfl, inZ10, rfl, tyX10_ok, nmX10, by decide +kernel⟩
theorem fX10_69 : zFld RX10 69 10 30 true (.array .int) := ⟨RX10, "MeanSafeModel", TX10, 34, tyX10, rfl, by decide, q4_206, rfl, inZ10, rfl, tyX10_ok, nmX10, by decide +kernel⟩
theorem fX10_72 : zFld RX10 72 10 31 true (.array .int) := ⟨RX10, "MeanSafeModel", TX10, 34, tyX10, rfl, by decide, q4_207, rfl, inZ10, rfl, tyX10_ok, nmX10, by decide +kernel⟩
theorem fX10_75 : zFld RX10 75 10 32 true (.array .int) := ⟨RX10, "MeanSafeModel", TX10, 34, tyX10, rfl, by decide, q4_208, rfl, inZ10, rfl, tyX10_ok, nmX10, by decide +kernel⟩
theorem fX10_280 : zFld RX10 280 10 33 false .int := ⟨RX10, "MeanSafeModel", TX10, 34, tyX10, rfl, by decide, q4_209, rfl, inZ10, rfl, tyX10_ok, nmX10, by decide +kernel⟩
theorem kL_13 : zCV RL 13 yX9_person cX9_person 4 (some .int) 3 := ⟨q2_89, q2_86, q2_87, q2_88, q1_1, ⟨by decide, by decide, by decide +kernel⟩, by decide⟩
theorem kX9_77 : zCS RX9 77 yX9_isKind cX9_isKind 1 (some .boolean) 1 := ⟨q2_92, q2_90, q2_91, q1_1, ⟨by decide, by decide, by decide +kernel⟩, by decide⟩
theorem kX9_83 : zCS RX9 83 yX0_mayBe cX0_mayBe 2 (some .boolean) 2 := ⟨q2_95, q2_93, q2_94, q1_5, ⟨by decide, by decide, by decide +kernel⟩, by decide⟩
theorem kX9_92 : zCV RX9 92 yX8_welcome cX8_welcome 7 (some .int) 4 := ⟨q2_101, q2_98, q2_99, q2_100, q1_4, ⟨by decide, by decide, by decide +kernel⟩, by decide⟩
theorem kX8_85 : zCV RX8 85 yX0_believeAll cX0_believeAll 1 none 0 := ⟨q2_105, q2_102, q2_103, q2_104, q1_5, ⟨by decide, by decide, by decide +kernel⟩, by decide⟩
theorem kL_18 : zCV RL 18 yX9_told cX9_told 4 (some .int) 2 := ⟨q2_109, q2_106, q2_107, q2_108, q1_1, ⟨by decide, by decide, by decide +kernel⟩, by decide⟩
theorem kX9_96 : zCV RX9 96 yX9_isOne cX9_isOne 2 (some .boolean) 1 := ⟨q2_113, q2_110, q2_112, qp1_0, q1_1, ⟨by decide, by decide, by decide +kernel⟩, by decide⟩
theorem kX9_112 : zCV RX9 112 yX8_lawOf cX8_lawOf 2 (some .int) 1 := ⟨q2_117, q2_114, q2_115, q2_116, q1_4, ⟨by decide, by decide, by decide +kernel⟩, by decide⟩
theorem kX9_116 : zCV RX9 116 yX0_setting cX0_setting 4 (some .int) 2 := ⟨q2_121, q2_118, q2_119, q2_120, q1_5, ⟨by decide, by decide, by decide +kernel⟩, by decide⟩
theorem kX0_38 : zCV RX0 38 yX6_give cX6_give 9 (some .int) 4 := ⟨q2_125, q2_122, q2_123, q2_124, q1_2, ⟨by decide, by decide, by decide +kernel⟩, by decide⟩
theorem kX6_29 : zCS RX6 29 yX6_leaf cX6_leaf 4 (some .int) 4 := ⟨q2_128, q2_126, q2_127, q1_2, ⟨by decide, by decide, by decide +kernel⟩, by decide⟩
theorem kX6_33 : zCS RX6 33 yX6_join cX6_join 3 (some .int) 3 := ⟨q2_131, q2_129, q2_130, q1_2, ⟨by decide, by decide, by decide +kernel⟩, by decide⟩
theorem kX9_144 : zCS RX9 144 yJ9_min_7cf53 cJ9_min_7cf53 2 (some .int) 2 := ⟨q2_137, q2_135, q2_136, q1_12, ⟨by decide, by decide, by decide +kernel⟩, by decide⟩
theorem kX9_300 : zCS RX9 300 yJ9_max_7cf53 cJ9_max_7cf53 2 (some .int) 2 := ⟨q2_140, q2_138, q2_139, q1_12, ⟨by decide, by decide, by decide +kernel⟩, by decide⟩
theorem kX9_120 : zCV RX9 120 yX0_worth cX0_worth 1 (some .int) 0 := ⟨q2_144, q2_141, q2_142, q2_143, q1_5, ⟨by decide, by decide, by decide +kernel⟩, by decide⟩
theorem kX9_124 : zCS RX9 124 yX0_isTrait cX0_isTrait 1 (some .boolean) 1 := ⟨q2_147, q2_145, q2_146, q1_5, ⟨by decide, by decide, by decide +kernel⟩, by decide⟩
theorem kX9_127 : zCV RX9 127 yX0_trait cX0_trait 2 (some .int) 1 := ⟨q2_151, q2_148, q2_149, q2_150, q1_5, ⟨by decide, by decide, by decide +kernel⟩, by decide⟩
theorem kL_23 : zCV RL 23 yX9_as cX9_as 4 (some .int) 2 := ⟨q2_155, q2_152, q2_153, q2_154, q1_1, ⟨by decide, by decide, by decide +kernel⟩, by decide⟩
theorem kX9_130 : zCV RX9 130 yX0_isOf cX0_isOf 4 (some .boolean) 1 := ⟨q2_159, q2_156, q2_157, q2_158, q1_5, ⟨by decide, by decide, by decide +kernel⟩, by decide⟩
theorem kL_27 : zCV RL 27 yX9_turns cX9_turns 5 (some .int) 2 := ⟨q2_166, q2_163, q2_164, q2_165, q1_1, ⟨by decide, by decide, by decide +kernel⟩, by decide⟩
theorem kL_31 : zCV RL 31 yX9_set cX9_set 6 (some .int) 3 := ⟨q2_170, q2_167, q2_168, q2_169, q1_1, ⟨by decide, by decide, by decide +kernel⟩, by decide⟩
theorem kX9_137 : zCV RX9 137 yX0_change cX0_change 3 none 2 := ⟨q2_174, q2_171, q2_172, q2_173, q1_5, ⟨by decide, by decide, by decide +kernel⟩, by decide⟩
theorem kL_35 : zCV RL 35 yX9_forget cX9_forget 4 (some .int) 0 := ⟨q2_178, q2_175, q2_176, q2_177, q1_1, ⟨by decide, by decide, by decide +kernel⟩, by decide⟩
theorem kX9_141 : zCV RX9 141 yX0_believeAll cX0_believeAll 1 none 0 := ⟨q2_105, q2_179, q2_103, q2_104, q1_5, ⟨by decide, by decide, by decide +kernel⟩, by decide⟩
theorem kL_40 : zCV RL 40 yX9_deal cX9_deal 5 (some .int) 1 := ⟨q2_183, q2_180, q2_181, q2_182, q1_1, ⟨by decide, by decide, by decide +kernel⟩, by decide⟩
theorem kX9_150 : zCV RX9 150 yX8_drawOne cX8_drawOne 5 none 0 := ⟨q2_187, q2_184, q2_185, q2_186, q1_4, ⟨by decide, by decide, by decide +kernel⟩, by decide⟩
theorem kX8_88 : zCV RX8 88 yX8_draw cX8_draw 1 (some .int) 0 := ⟨q2_191, q2_188, q2_190, qp1_1, q1_4, ⟨by decide, by decide, by decide +kernel⟩, by decide⟩
theorem kX8_92 : zCV RX8 92 yX8_welcome cX8_welcome 7 (some .int) 4 := ⟨q2_101, q2_193, q2_99, q2_100, q1_4, ⟨by decide, by decide, by decide +kernel⟩, by decide⟩
theorem kL_45 : zCV RL 45 yX9_seed cX9_seed 3 (some .int) 1 := ⟨q2_197, q2_194, q2_195, q2_196, q1_1, ⟨by decide, by decide, by decide +kernel⟩, by decide⟩
theorem kL_49 : zCV RL 49 yX9_safe cX9_safe 4 (some .int) 2 := ⟨q2_201, q2_198, q2_199, q2_200, q1_1, ⟨by decide, by decide, by decide +kernel⟩, by decide⟩
theorem kX9_156 : zCS RX9 156 yX8_mayBe cX8_mayBe 2 (some .boolean) 2 := ⟨q2_204, q2_202, q2_203, q1_4, ⟨by decide, by decide, by decide +kernel⟩, by decide⟩
theorem kX9_157 : zCV RX9 157 yX8_part cX8_part 2 (some .int) 1 := ⟨q2_208, q2_205, q2_206, q2_207, q1_4, ⟨by decide, by decide, by decide +kernel⟩, by decide⟩
theorem kX9_160 : zCV RX9 160 yX8_change cX8_change 3 none 2 := ⟨q2_212, q2_209, q2_210, q2_211, q1_4, ⟨by decide, by decide, by decide +kernel⟩, by decide⟩
theorem kL_53 : zCV RL 53 yX9_says cX9_says 1 (some .int) 0 := ⟨q2_216, q2_213, q2_214, q2_215, q1_1, ⟨by decide, by decide, by decide +kernel⟩, by decide⟩
theorem kX9_161 : zCV RX9 161 yX8_voice cX8_voice 1 (some .int) 0 := ⟨q2_220, q2_217, q2_218, q2_219, q1_4, ⟨by decide, by decide, by decide +kernel⟩, by decide⟩
theorem kX8_97 : zCV RX8 97 yX8_mean cX8_mean 3 (some .int) 0 := ⟨q2_224, q2_221, q2_223, qp1_2, q1_4, ⟨by decide, by decide, by decide +kernel⟩, by decide⟩
theorem kX8_106 : zCV RX8 106 yX8_weightUpTo cX8_weightUpTo 4 (some .int) 1 := ⟨q2_228, q2_225, q2_227, qp1_3, q1_4, ⟨by decide, by decide, by decide +kernel⟩, by decide⟩
theorem kX8_100 : zCV RX8 100 yX8_middle cX8_middle 5 (some .int) 0 := ⟨q2_232, q2_229, q2_231, qp1_4, q1_4, ⟨by decide, by decide, by decide +kernel⟩, by decide⟩
theorem kX8_103 : zCV RX8 103 yX8_greatest cX8_greatest 3 (some .int) 0 := ⟨q2_236, q2_233, q2_235, qp1_5, q1_4, ⟨by decide, by decide, by decide +kernel⟩, by decide⟩
theorem kX8_110 : zCS RX8 110 yJ9_max_7cf53 cJ9_max_7cf53 2 (some .int) 2 := ⟨q2_140, q2_237, q2_139, q1_12, ⟨by decide, by decide, by decide +kernel⟩, by decide⟩
theorem kL_57 : zCV RL 57 yX9_tries cX9_tries 3 (some .int) 1 := ⟨q3_1, q2_238, q2_239, q3_0, q1_1, ⟨by decide, by decide, by decide +kernel⟩, by decide⟩
theorem kX9_167 : zCV RX9 167 yX8_attempt cX8_attempt 1 (some .boolean) 0 := ⟨q3_5, q3_2, q3_3, q3_4, q1_4, ⟨by decide, by decide, by decide +kernel⟩, by decide⟩
theorem kX8_116 : zCV RX8 116 yX8_turn cX8_turn 3 (some .int) 0 := ⟨q3_9, q3_6, q3_8, qp1_6, q1_4, ⟨by decide, by decide, by decide +kernel⟩, by decide⟩
theorem kX8_119 : zCV RX8 119 yX8_voice cX8_voice 1 (some .int) 0 := ⟨q2_220, q3_10, q2_218, q2_219, q1_4, ⟨by decide, by decide, by decide +kernel⟩, by decide⟩
theorem kX8_122 : zCS RX8 122 yJ6_compare_7cf53 cJ6_compare_7cf53 2 (some .int) 2 := ⟨q3_13, q3_11, q3_12, q1_13, ⟨by decide, by decide, by decide +kernel⟩, by decide⟩
theorem kX8_127 : zCV RX8 127 yX8_spread cX8_spread 6 none 2 := ⟨q3_17, q3_14, q3_15, q3_16, q1_4, ⟨by decide, by decide, by decide +kernel⟩, by decide⟩
theorem kX8_134 : zCV RX8 134 yX0_hear cX0_hear 3 none 2 := ⟨q3_21, q3_18, q3_19, q3_20, q1_5, ⟨by decide, by decide, by decide +kernel⟩, by decide⟩
theorem kX0_48 : zCV RX0 48 yX0_believeAll cX0_believeAll 1 none 0 := ⟨q2_105, q3_22, q2_103, q2_104, q1_5, ⟨by decide, by decide, by decide +kernel⟩, by decide⟩
theorem kX8_137 : zCV RX8 137 yX0_setting cX0_setting 4 (some .int) 2 := ⟨q2_121, q3_23, q2_119, q2_120, q1_5, ⟨by decide, by decide, by decide +kernel⟩, by decide⟩
theorem kX8_131 : zCV RX8 131 yX8_drifted cX8_drifted 3 (some .int) 2 := ⟨q3_27, q3_24, q3_25, q3_26, q1_4, ⟨by decide, by decide, by decide +kernel⟩, by decide⟩
theorem kX8_141 : zCS RX8 141 yJ9_floorMod_7cf53 cJ9_floorMod_7cf53 3 (some .int) 2 := ⟨q3_30, q3_28, q3_29, q1_12, ⟨by decide, by decide, by decide +kernel⟩, by decide⟩
theorem kL_61 : zCV RL 61 yX9_needs cX9_needs 3 (some .int) 1 := ⟨q3_34, q3_31, q3_32, q3_33, q1_1, ⟨by decide, by decide, by decide +kernel⟩, by decide⟩
theorem kX9_171 : zCV RX9 171 yX7_begin cX7_begin 2 (some (.object "MeanSafe$World")) 1 := ⟨q3_38, q3_35, q3_36, q3_37, q1_6, ⟨by decide, by decide, by decide +kernel⟩, by decide⟩
theorem kX7_32 : zCV RX7 32 yX8_become cX8_become 3 none 1 := ⟨q3_42, q3_39, q3_40, q3_41, q1_4, ⟨by decide, by decide, by decide +kernel⟩, by decide⟩
theorem kX8_55 : zCV RX8 55 yX0_become cX0_become 2 none 1 := ⟨q3_46, q3_43, q3_44, q3_45, q1_5, ⟨by decide, by decide, by decide +kernel⟩, by decide⟩
theorem kX9_175 : zCV RX9 175 yX7_ponder cX7_ponder 7 (some .int) 2 := ⟨q3_50, q3_47, q3_48, q3_49, q1_6, ⟨by decide, by decide, by decide +kernel⟩, by decide⟩
theorem kX7_36 : zCS RX7 36 yJ9_max_7cf53 cJ9_max_7cf53 2 (some .int) 2 := ⟨q2_140, q3_51, q2_139, q1_12, ⟨by decide, by decide, by decide +kernel⟩, by decide⟩
theorem kX7_50 : zCV RX7 50 yX7_branch cX7_branch 7 none 1 := ⟨q3_55, q3_52, q3_54, qp1_7, q1_6, ⟨by decide, by decide, by decide +kernel⟩, by decide⟩
theorem kX7_54 : zCV RX7 54 yX8_voice cX8_voice 1 (some .int) 0 := ⟨q2_220, q3_56, q2_218, q2_219, q1_4, ⟨by decide, by decide, by decide +kernel⟩, by decide⟩
theorem kX7_58 : zCV RX7 58 yX8_drifted cX8_drifted 3 (some .int) 2 := ⟨q3_27, q3_57, q3_25, q3_26, q1_4, ⟨by decide, by decide, by decide +kernel⟩, by decide⟩
theorem kX7_61 : zCV RX7 61 yX7_gather cX7_gather 7 (some .int) 3 := ⟨q3_61, q3_58, q3_60, qp1_8, q1_6, ⟨by decide, by decide, by decide +kernel⟩, by decide⟩
theorem kX7_69 : zCS RX7 69 yJ6_compare_7cf53 cJ6_compare_7cf53 2 (some .int) 2 := ⟨q3_13, q3_62, q3_12, q1_13, ⟨by decide, by decide, by decide +kernel⟩, by decide⟩
theorem kX7_65 : zCV RX7 65 yX8_spread cX8_spread 6 none 2 := ⟨q3_17, q3_63, q3_15, q3_16, q1_4, ⟨by decide, by decide, by decide +kernel⟩, by decide⟩
theorem kL_65 : zCV RL 65 yX9_worst cX9_worst 4 (some .int) 1 := ⟨q3_68, q3_65, q3_66, q3_67, q1_1, ⟨by decide, by decide, by decide +kernel⟩, by decide⟩
theorem kL_69 : zCV RL 69 yX9_had cX9_had 4 (some .int) 1 := ⟨q3_72, q3_69, q3_70, q3_71, q1_1, ⟨by decide, by decide, by decide +kernel⟩, by decide⟩
theorem kL_73 : zCV RL 73 yX9_start cX9_start 8 (some .int) 2 := ⟨q3_76, q3_73, q3_74, q3_75, q1_1, ⟨by decide, by decide, by decide +kernel⟩, by decide⟩
theorem kL_77 : zCV RL 77 yX9_tells cX9_tells 6 (some .int) 1 := ⟨q3_80, q3_77, q3_78, q3_79, q1_1, ⟨by decide, by decide, by decide +kernel⟩, by decide⟩
theorem kX9_182 : zCV RX9 182 yX8_onlyHears cX8_onlyHears 3 none 1 := ⟨q3_84, q3_81, q3_82, q3_83, q1_4, ⟨by decide, by decide, by decide +kernel⟩, by decide⟩
theorem kL_81 : zCV RL 81 yX9_keeps cX9_keeps 4 (some .int) 1 := ⟨q3_88, q3_85, q3_86, q3_87, q1_1, ⟨by decide, by decide, by decide +kernel⟩, by decide⟩
theorem kL_85 : zCV RL 85 yX9_behind cX9_behind 6 (some .int) 3 := ⟨q3_92, q3_89, q3_90, q3_91, q1_1, ⟨by decide, by decide, by decide +kernel⟩, by decide⟩
theorem kL_89 : zCV RL 89 yX9_left cX9_left 7 (some .int) 2 := ⟨q3_96, q3_93, q3_94, q3_95, q1_1, ⟨by decide, by decide, by decide +kernel⟩, by decide⟩
theorem kX9_192 : zCS RX9 192 yX9_isSheet cX9_isSheet 1 (some .boolean) 1 := ⟨q3_99, q3_97, q3_98, q1_1, ⟨by decide, by decide, by decide +kernel⟩, by decide⟩
theorem kX9_199 : zCV RX9 199 yX8_wouldAnswer cX8_wouldAnswer 5 (some .boolean) 2 := ⟨q3_104, q3_101, q3_102, q3_103, q1_4, ⟨by decide, by decide, by decide +kernel⟩, by decide⟩
theorem kL_93 : zCV RL 93 yX9_fee cX9_fee 2 (some .int) 0 := ⟨q3_109, q3_106, q3_107, q3_108, q1_1, ⟨by decide, by decide, by decide +kernel⟩, by decide⟩
theorem kX9_206 : zCV RX9 206 yX6_give cX6_give 9 (some .int) 4 := ⟨q2_125, q3_110, q2_123, q2_124, q1_2, ⟨by decide, by decide, by decide +kernel⟩, by decide⟩
theorem kL_97 : zCV RL 97 yX9_fine cX9_fine 4 (some .int) 1 := ⟨q3_114, q3_111, q3_112, q3_113, q1_1, ⟨by decide, by decide, by decide +kernel⟩, by decide⟩
theorem kL_101 : zCV RL 101 yX9_feed cX9_feed 4 (some .int) 3 := ⟨q3_118, q3_115, q3_116, q3_117, q1_1, ⟨by decide, by decide, by decide +kernel⟩, by decide⟩
theorem kX9_215 : zCV RX9 215 yX4_take cX4_take 3 none 1 := ⟨q3_122, q3_119, q3_120, q3_121, q1_7, ⟨by decide, by decide, by decide +kernel⟩, by decide⟩
theorem kL_105 : zCV RL 105 yX9_trim cX9_trim 2 (some .int) 1 := ⟨q3_126, q3_123, q3_124, q3_125, q1_1, ⟨by decide, by decide, by decide +kernel⟩, by decide⟩
theorem kL_109 : zCV RL 109 yX9_text cX9_text 2 (some .int) 0 := ⟨q3_130, q3_127, q3_128, q3_129, q1_1, ⟨by decide, by decide, by decide +kernel⟩, by decide⟩
theorem kX9_218 : zCV RX9 218 yX1_readsWhole cX1_readsWhole 1 (some .boolean) 0 := ⟨q3_134, q3_131, q3_132, q3_133, q1_8, ⟨by decide, by decide, by decide +kernel⟩, by decide⟩
theorem kX1_51 : zCV RX1 51 yX1_advance cX1_advance 3 none 0 := ⟨q3_138, q3_135, q3_137, qp1_9, q1_8, ⟨by decide, by decide, by decide +kernel⟩, by decide⟩
theorem kX1_64 : zCV RX1 64 yX4_at cX4_at 2 (some .int) 1 := ⟨q3_142, q3_139, q3_140, q3_141, q1_7, ⟨by decide, by decide, by decide +kernel⟩, by decide⟩
theorem kX1_68 : zCS RX1 68 yX1_sortOf cX1_sortOf 1 (some .int) 1 := ⟨q3_145, q3_143, q3_144, q1_8, ⟨by decide, by decide, by decide +kernel⟩, by decide⟩
theorem kX1_54 : zCV RX1 54 yX1_readKey cX1_readKey 1 none 0 := ⟨q3_149, q3_146, q3_148, qp1_10, q1_8, ⟨by decide, by decide, by decide +kernel⟩, by decide⟩
theorem kX1_73 : zCV RX1 73 yX1_isWord cX1_isWord 3 (some .boolean) 1 := ⟨q3_154, q3_151, q3_153, qp1_11, q1_8, ⟨by decide, by decide, by decide +kernel⟩, by decide⟩
theorem kX1_84 : zCV RX1 84 yJ0_length_8abf5 cJ0_length_8abf5 1 (some .int) 0 := ⟨q3_158, q3_155, q3_156, q3_157, q1_14, ⟨by decide, by decide, by decide +kernel⟩, by decide⟩
theorem kJ0_335 : zCV RJ0 335 yJ0_coder_7d493 cJ0_coder_7d493 1 (some .byte) 0 := ⟨q3_162, q3_159, q3_160, q3_161, q1_14, ⟨by decide, by decide, by decide +kernel⟩, by decide⟩
theorem kX1_89 : zCV RX1 89 yJ0_charAt_5068e cJ0_charAt_5068e 2 (some .char) 1 := ⟨q3_168, q3_165, q3_166, q3_167, q1_14, ⟨by decide, by decide, by decide +kernel⟩, by decide⟩
theorem kJ0_492 : zCV RJ0 492 yJ0_isLatin1_aae02 cJ0_isLatin1_aae02 1 (some .boolean) 0 := ⟨q3_172, q3_169, q3_170, q3_171, q1_14, ⟨by decide, by decide, by decide +kernel⟩, by decide⟩
theorem kJ0_495 : zCS RJ0 495 yJ1_charAt_3b067 cJ1_charAt_3b067 2 (some .char) 2 := ⟨q3_175, q3_173, q3_174, q1_15, ⟨by decide, by decide, by decide +kernel⟩, by decide⟩
theorem kJ1_9 : zCS RJ1 9 yJ0_checkIndex_df160 cJ0_checkIndex_df160 2 none 2 := ⟨q3_178, q3_176, q3_177, q1_14, ⟨by decide, by decide, by decide +kernel⟩, by decide⟩
theorem kJ0_1059 : zCS RJ0 1059 yJ3_checkIndex_8e157 cJ3_checkIndex_8e157 3 (some .int) 3 := ⟨q3_183, q3_181, q3_182, q1_16, ⟨by decide, by decide, by decide +kernel⟩, by decide⟩
theorem kJ0_498 : zCS RJ0 498 yJ2_charAt_3b067 cJ2_charAt_3b067 2 (some .char) 2 := ⟨q3_186, q3_184, q3_185, q1_17, ⟨by decide, by decide, by decide +kernel⟩, by decide⟩
theorem kJ2_67 : zCS RJ2 67 yJ2_checkIndex_2214a cJ2_checkIndex_2214a 2 none 2 := ⟨q3_189, q3_187, q3_188, q1_17, ⟨by decide, by decide, by decide +kernel⟩, by decide⟩
theorem kJ2_48 : zCS RJ2 48 yJ2_length_9d52b cJ2_length_9d52b 1 (some .int) 1 := ⟨q3_192, q3_190, q3_191, q1_17, ⟨by decide, by decide, by decide +kernel⟩, by decide⟩
theorem kJ2_414 : zCS RJ2 414 yJ0_checkIndex_df160 cJ0_checkIndex_df160 2 none 2 := ⟨q3_178, q3_193, q3_177, q1_14, ⟨by decide, by decide, by decide +kernel⟩, by decide⟩
theorem kJ2_71 : zCS RJ2 71 yJ2_getChar_3b067 cJ2_getChar_3b067 2 (some .char) 2 := ⟨q3_196, q3_194, q3_195, q1_17, ⟨by decide, by decide, by decide +kernel⟩, by decide⟩
theorem kX1_57 : zCV RX1 57 yX1_level cX1_level 5 none 1 := ⟨q3_208, q3_205, q3_207, qp1_12, q1_8, ⟨by decide, by decide, by decide +kernel⟩, by decide⟩
theorem kX1_93 : zCV RX1 93 yX1_piece cX1_piece 1 none 0 := ⟨q3_212, q3_209, q3_211, qp1_13, q1_8, ⟨by decide, by decide, by decide +kernel⟩, by decide⟩
theorem kX1_105 : zCV RX1 105 yX1_readNumber cX1_readNumber 3 none 0 := ⟨q3_216, q3_213, q3_215, qp1_14, q1_8, ⟨by decide, by decide, by decide +kernel⟩, by decide⟩
theorem kX1_102 : zCV RX1 102 yX5_add cX5_add 2 none 1 := ⟨q3_220, q3_217, q3_218, q3_219, q1_3, ⟨by decide, by decide, by decide +kernel⟩, by decide⟩
theorem kX1_108 : zCV RX1 108 yX1_readName cX1_readName 2 none 0 := ⟨q3_224, q3_221, q3_223, qp1_15, q1_8, ⟨by decide, by decide, by decide +kernel⟩, by decide⟩
theorem kX1_117 : zCS RX1 117 yX1_lettersOf cX1_lettersOf 1 (some (.object "java/lang/String")) 1 := ⟨q3_227, q3_225, q3_226, q1_8, ⟨by decide, by decide, by decide +kernel⟩, by decide⟩
theorem kX1_121 : zCV RX1 121 yJ0_indexOf_0f7a4 cJ0_indexOf_0f7a4 2 (some .int) 1 := ⟨q3_234, q3_231, q3_232, q3_233, q1_14, ⟨by decide, by decide, by decide +kernel⟩, by decide⟩
theorem kJ0_633 : zCV RJ0 633 yJ0_indexOf_7cf53 cJ0_indexOf_7cf53 3 (some .int) 2 := ⟨q3_238, q3_235, q3_236, q3_237, q1_14, ⟨by decide, by decide, by decide +kernel⟩, by decide⟩
theorem kJ0_505 : zCV RJ0 505 yJ0_length_8abf5 cJ0_length_8abf5 1 (some .int) 0 := ⟨q3_158, q3_239, q3_156, q3_157, q1_14, ⟨by decide, by decide, by decide +kernel⟩, by decide⟩
theorem kJ0_637 : zCS RJ0 637 yJ1_indexOf_4cfef cJ1_indexOf_4cfef 4 (some .int) 4 := ⟨q4_2, q4_0, q4_1, q1_15, ⟨by decide, by decide, by decide +kernel⟩, by decide⟩
theorem kJ1_88 : zCS RJ1 88 yJ1_canEncode_9a6ad cJ1_canEncode_9a6ad 1 (some .boolean) 1 := ⟨q4_5, q4_3, q4_4, q1_15, ⟨by decide, by decide, by decide +kernel⟩, by decide⟩
theorem kJ1_92 : zCS RJ1 92 yJ9_max_7cf53 cJ9_max_7cf53 2 (some .int) 2 := ⟨q2_140, q4_6, q2_139, q1_12, ⟨by decide, by decide, by decide +kernel⟩, by decide⟩
theorem kJ1_38 : zCS RJ1 38 yJ9_min_7cf53 cJ9_min_7cf53 2 (some .int) 2 := ⟨q2_137, q4_7, q2_136, q1_12, ⟨by decide, by decide, by decide +kernel⟩, by decide⟩
theorem kJ1_95 : zCS RJ1 95 yJ1_indexOfChar_4cfef cJ1_indexOfChar_4cfef 6 (some .int) 4 := ⟨q4_10, q4_8, q4_9, q1_15, ⟨by decide, by decide, by decide +kernel⟩, by decide⟩
theorem kJ0_640 : zCS RJ0 640 yJ2_indexOf_4cfef cJ2_indexOf_4cfef 4 (some .int) 4 := ⟨q4_13, q4_11, q4_12, q1_17, ⟨by decide, by decide, by decide +kernel⟩, by decide⟩
theorem kJ2_224 : zCS RJ2 224 yJ9_max_7cf53 cJ9_max_7cf53 2 (some .int) 2 := ⟨q2_140, q4_14, q2_139, q1_12, ⟨by decide, by decide, by decide +kernel⟩, by decide⟩
theorem kJ2_183 : zCS RJ2 183 yJ9_min_7cf53 cJ9_min_7cf53 2 (some .int) 2 := ⟨q2_137, q4_15, q2_136, q1_12, ⟨by decide, by decide, by decide +kernel⟩, by decide⟩
theorem kJ2_228 : zCS RJ2 228 yJ2_indexOfChar_4cfef cJ2_indexOfChar_4cfef 4 (some .int) 4 := ⟨q4_19, q4_17, q4_18, q1_17, ⟨by decide, by decide, by decide +kernel⟩, by decide⟩
theorem kJ2_96 : zCS RJ2 96 yJ2_checkBoundsBeginEnd_d044e cJ2_checkBoundsBeginEnd_d044e 3 none 3 := ⟨q4_22, q4_20, q4_21, q1_17, ⟨by decide, by decide, by decide +kernel⟩, by decide⟩
theorem kJ2_241 : zCS RJ2 241 yJ0_checkBoundsBeginEnd_23922 cJ0_checkBoundsBeginEnd_23922 3 none 3 := ⟨q4_25, q4_23, q4_24, q1_14, ⟨by decide, by decide, by decide +kernel⟩, by decide⟩
theorem kJ0_1062 : zCS RJ0 1062 yJ3_checkFromToIndex_8c36e cJ3_checkFromToIndex_8c36e 4 (some .int) 4 := ⟨q4_28, q4_26, q4_27, q1_16, ⟨by decide, by decide, by decide +kernel⟩, by decide⟩
theorem kJ2_244 : zCS RJ2 244 yJ2_indexOfCharUnsafe_4cfef cJ2_indexOfCharUnsafe_4cfef 5 (some .int) 4 := ⟨q4_31, q4_29, q4_30, q1_17, ⟨by decide, by decide, by decide +kernel⟩, by decide⟩
theorem kJ2_232 : zCS RJ2 232 yJ2_indexOfSupplementary_4cfef cJ2_indexOfSupplementary_4cfef 7 (some .int) 4 := ⟨q4_34, q4_32, q4_33, q1_17, ⟨by decide, by decide, by decide +kernel⟩, by decide⟩
theorem kJ2_164 : zCS RJ2 164 yJ11_isValidCodePoint_9a6ad cJ11_isValidCodePoint_9a6ad 2 (some .boolean) 1 := ⟨q4_37, q4_35, q4_36, q1_18, ⟨by decide, by decide, by decide +kernel⟩, by decide⟩
theorem kJ2_157 : zCS RJ2 157 yJ11_highSurrogate_5068e cJ11_highSurrogate_5068e 1 (some .char) 1 := ⟨q4_40, q4_38, q4_39, q1_18, ⟨by decide, by decide, by decide +kernel⟩, by decide⟩
theorem kJ2_161 : zCS RJ2 161 yJ11_lowSurrogate_5068e cJ11_lowSurrogate_5068e 1 (some .char) 1 := ⟨q4_44, q4_42, q4_43, q1_18, ⟨by decide, by decide, by decide +kernel⟩, by decide⟩
theorem kX1_96 : zCV RX1 96 yX1_sign cX1_sign 1 (some .int) 0 := ⟨q4_49, q4_46, q4_48, qp2_0, q1_8, ⟨by decide, by decide, by decide +kernel⟩, by decide⟩
theorem kX1_111 : zCV RX1 111 yX1_readNot cX1_readNot 1 none 0 := ⟨q4_53, q4_50, q4_52, qp2_1, q1_8, ⟨by decide, by decide, by decide +kernel⟩, by decide⟩
theorem kX1_114 : zCV RX1 114 yX1_readBracket cX1_readBracket 1 none 0 := ⟨q4_57, q4_54, q4_56, qp2_2, q1_8, ⟨by decide, by decide, by decide +kernel⟩, by decide⟩
theorem kX1_99 : zCS RX1 99 yX1_levelOf cX1_levelOf 1 (some .int) 1 := ⟨q4_60, q4_58, q4_59, q1_8, ⟨by decide, by decide, by decide +kernel⟩, by decide⟩
theorem kX9_231 : zCV RX9 231 yX5_write cX5_write 3 none 1 := ⟨q4_64, q4_61, q4_62, q4_63, q1_3, ⟨by decide, by decide, by decide +kernel⟩, by decide⟩
theorem kX9_237 : zCV RX9 237 yX8_addText cX8_addText 3 (some .int) 0 := ⟨q4_71, q4_68, q4_69, q4_70, q1_4, ⟨by decide, by decide, by decide +kernel⟩, by decide⟩
theorem kL_113 : zCV RL 113 yX9_textTold cX9_textTold 3 (some .int) 2 := ⟨q4_76, q4_73, q4_74, q4_75, q1_1, ⟨by decide, by decide, by decide +kernel⟩, by decide⟩
theorem kL_117 : zCV RL 117 yX9_why cX9_why 3 (some .int) 1 := ⟨q4_80, q4_77, q4_78, q4_79, q1_1, ⟨by decide, by decide, by decide +kernel⟩, by decide⟩
theorem kL_121 : zCV RL 121 yX9_sheet cX9_sheet 4 (some .int) 3 := ⟨q4_84, q4_81, q4_82, q4_83, q1_1, ⟨by decide, by decide, by decide +kernel⟩, by decide⟩
theorem kX9_246 : zCV RX9 246 yX2_become cX2_become 4 none 2 := ⟨q4_88, q4_85, q4_86, q4_87, q1_9, ⟨by decide, by decide, by decide +kernel⟩, by decide⟩
theorem kL_125 : zCV RL 125 yX9_mark cX9_mark 5 (some .int) 3 := ⟨q4_93, q4_90, q4_91, q4_92, q1_1, ⟨by decide, by decide, by decide +kernel⟩, by decide⟩
theorem kX9_250 : zCV RX9 250 yX2_hasPlace cX2_hasPlace 2 (some .boolean) 1 := ⟨q4_97, q4_94, q4_95, q4_96, q1_9, ⟨by decide, by decide, by decide +kernel⟩, by decide⟩
theorem kL_129 : zCV RL 129 yX9_pour cX9_pour 7 (some .int) 1 := ⟨q4_104, q4_101, q4_102, q4_103, q1_1, ⟨by decide, by decide, by decide +kernel⟩, by decide⟩
theorem kX9_260 : zCS RX9 260 yX9_held cX9_held 1 (some .int) 1 := ⟨q2_134, q4_105, q2_133, q1_1, ⟨by decide, by decide, by decide +kernel⟩, by decide⟩
theorem kL_133 : zCV RL 133 yX9_reads cX9_reads 4 (some .int) 1 := ⟨q4_109, q4_106, q4_107, q4_108, q1_1, ⟨by decide, by decide, by decide +kernel⟩, by decide⟩
theorem kL_137 : zCV RL 137 yX9_copy cX9_copy 8 (some .int) 5 := ⟨q4_113, q4_110, q4_111, q4_112, q1_1, ⟨by decide, by decide, by decide +kernel⟩, by decide⟩
theorem kX9_263 : zCV RX9 263 yX2_hasRun cX2_hasRun 3 (some .boolean) 2 := ⟨q4_117, q4_114, q4_115, q4_116, q1_9, ⟨by decide, by decide, by decide +kernel⟩, by decide⟩
theorem kL_142 : zCV RL 142 yX9_lay cX9_lay 6 (some .int) 3 := ⟨q4_122, q4_119, q4_120, q4_121, q1_1, ⟨by decide, by decide, by decide +kernel⟩, by decide⟩
theorem kX9_272 : zCS RX9 272 yX9_isSlot cX9_isSlot 1 (some .boolean) 1 := ⟨q4_125, q4_123, q4_124, q1_1, ⟨by decide, by decide, by decide +kernel⟩, by decide⟩
theorem kX9_282 : zCV RX9 282 yX0_become cX0_become 2 none 1 := ⟨q3_46, q4_126, q3_44, q3_45, q1_5, ⟨by decide, by decide, by decide +kernel⟩, by decide⟩
theorem kX9_289 : zCV RX9 289 yX2_become_ cX2_become_ 2 none 1 := ⟨q4_130, q4_127, q4_128, q4_129, q1_9, ⟨by decide, by decide, by decide +kernel⟩, by decide⟩
theorem kL_146 : zCV RL 146 yX9_ask cX9_ask 4 (some .int) 2 := ⟨q4_135, q4_132, q4_133, q4_134, q1_1, ⟨by decide, by decide, by decide +kernel⟩, by decide⟩
theorem kL_150 : zCV RL 150 yX9_item cX9_item 4 (some .int) 2 := ⟨q4_139, q4_136, q4_137, q4_138, q1_1, ⟨by decide, by decide, by decide +kernel⟩, by decide⟩
theorem kL_154 : zCV RL 154 yX9_rest cX9_rest 4 (some .int) 2 := ⟨q4_143, q4_140, q4_141, q4_142, q1_1, ⟨by decide, by decide, by decide +kernel⟩, by decide⟩
theorem kL_158 : zCV RL 158 yX9_tell cX9_tell 2 (some .int) 1 := ⟨q4_148, q4_145, q4_146, q4_147, q1_1, ⟨by decide, by decide, by decide +kernel⟩, by decide⟩
theorem kL_162 : zCV RL 162 yX9_check cX9_check 6 (some .int) 1 := ⟨q4_152, q4_149, q4_150, q4_151, q1_1, ⟨by decide, by decide, by decide +kernel⟩, by decide⟩
theorem kL_166 : zCV RL 166 yX9_keep cX9_keep 1 (some .int) 0 := ⟨q4_156, q4_153, q4_154, q4_155, q1_1, ⟨by decide, by decide, by decide +kernel⟩, by decide⟩
theorem kX9_294 : zCV RX9 294 yX8_become cX8_become 3 none 1 := ⟨q3_42, q4_157, q3_40, q3_41, q1_4, ⟨by decide, by decide, by decide +kernel⟩, by decide⟩
theorem kL_170 : zCV RL 170 yX9_back cX9_back 1 (some .int) 0 := ⟨q4_161, q4_158, q4_159, q4_160, q1_1, ⟨by decide, by decide, by decide +kernel⟩, by decide⟩
theorem kL_174 : zCV RL 174 yX9_count cX9_count 2 (some .int) 1 := ⟨q4_165, q4_162, q4_163, q4_164, q1_1, ⟨by decide, by decide, by decide +kernel⟩, by decide⟩
theorem kX9_297 : zCV RX9 297 yX8_whoHear cX8_whoHear 3 (some .int) 0 := ⟨q4_169, q4_166, q4_167, q4_168, q1_4, ⟨by decide, by decide, by decide +kernel⟩, by decide⟩
theorem kL_17 : zCV RL 17 yX10_person cX10_person 4 (some .int) 3 := ⟨q5_44, q5_41, q5_42, q5_43, q1_11, ⟨by decide, by decide, by decide +kernel⟩, by decide⟩
theorem kX10_78 : zCS RX10 78 yX10_in cX10_in 3 (some .boolean) 3 := ⟨q5_47, q5_45, q5_46, q1_11, ⟨by decide, by decide, by decide +kernel⟩, by decide⟩
theorem kX10_88 : zCV RX10 88 yX10_comes cX10_comes 6 (some .int) 4 := ⟨q5_53, q5_50, q5_52, qp2_3, q1_11, ⟨by decide, by decide, by decide +kernel⟩, by decide⟩
theorem kX10_82 : zCV RX10 82 yX10_put cX10_put 4 none 3 := ⟨q5_57, q5_54, q5_56, qp2_4, q1_11, ⟨by decide, by decide, by decide +kernel⟩, by decide⟩
theorem kL_22 : zCV RL 22 yX10_told cX10_told 3 (some .int) 2 := ⟨q5_61, q5_58, q5_59, q5_60, q1_11, ⟨by decide, by decide, by decide +kernel⟩, by decide⟩
theorem kX10_107 : zCV RX10 107 yX10_isOne cX10_isOne 2 (some .boolean) 1 := ⟨q5_65, q5_62, q5_64, qp2_5, q1_11, ⟨by decide, by decide, by decide +kernel⟩, by decide⟩
theorem kX10_96 : zCV RX10 96 yX10_of cX10_of 3 (some .int) 2 := ⟨q5_69, q5_66, q5_68, qp2_6, q1_11, ⟨by decide, by decide, by decide +kernel⟩, by decide⟩
theorem kX10_111 : zCV RX10 111 yX10_setsTo cX10_setsTo 5 (some .int) 1 := ⟨q5_73, q5_70, q5_72, qp2_7, q1_11, ⟨by decide, by decide, by decide +kernel⟩, by decide⟩
theorem kX10_92 : zCV RX10 92 yX10_counts cX10_counts 3 (some .int) 1 := ⟨q5_77, q5_74, q5_76, qp2_8, q1_11, ⟨by decide, by decide, by decide +kernel⟩, by decide⟩
theorem kX10_100 : zCV RX10 100 yX10_worksOut cX10_worksOut 6 (some .int) 1 := ⟨q5_81, q5_78, q5_80, qp2_9, q1_11, ⟨by decide, by decide, by decide +kernel⟩, by decide⟩
theorem kX10_269 : zCS RX10 269 yX10_two cX10_two 3 (some .int) 3 := ⟨q5_84, q5_82, q5_83, q1_11, ⟨by decide, by decide, by decide +kernel⟩, by decide⟩
theorem kX10_103 : zCS RX10 103 yX10_within cX10_within 3 (some .int) 3 := ⟨q5_87, q5_85, q5_86, q1_11, ⟨by decide, by decide, by decide +kernel⟩, by decide⟩
theorem kX10_114 : zCV RX10 114 yX10_worthOf cX10_worthOf 3 (some .int) 1 := ⟨q5_91, q5_88, q5_90, qp2_10, q1_11, ⟨by decide, by decide, by decide +kernel⟩, by decide⟩
theorem kL_26 : zCV RL 26 yX10_as cX10_as 3 (some .int) 2 := ⟨q5_95, q5_92, q5_93, q5_94, q1_11, ⟨by decide, by decide, by decide +kernel⟩, by decide⟩
theorem kX10_117 : zCS RX10 117 yX10_isUnder cX10_isUnder 2 (some .boolean) 2 := ⟨q5_98, q5_96, q5_97, q1_11, ⟨by decide, by decide, by decide +kernel⟩, by decide⟩
theorem kL_30 : zCV RL 30 yX10_turns cX10_turns 3 (some .int) 2 := ⟨q5_103, q5_100, q5_101, q5_102, q1_11, ⟨by decide, by decide, by decide +kernel⟩, by decide⟩
theorem kX10_122 : zCV RX10 122 yX10_becomes cX10_becomes 4 (some .int) 2 := ⟨q5_107, q5_104, q5_106, qp2_11, q1_11, ⟨by decide, by decide, by decide +kernel⟩, by decide⟩
theorem kL_34 : zCV RL 34 yX10_set cX10_set 4 (some .int) 3 := ⟨q5_111, q5_108, q5_109, q5_110, q1_11, ⟨by decide, by decide, by decide +kernel⟩, by decide⟩
theorem kX10_125 : zCS RX10 125 yX10_leastOf cX10_leastOf 1 (some .int) 1 := ⟨q5_114, q5_112, q5_113, q1_11, ⟨by decide, by decide, by decide +kernel⟩, by decide⟩
theorem kX10_128 : zCS RX10 128 yX10_mostOf cX10_mostOf 1 (some .int) 1 := ⟨q5_117, q5_115, q5_116, q1_11, ⟨by decide, by decide, by decide +kernel⟩, by decide⟩
theorem kL_39 : zCV RL 39 yX10_forget cX10_forget 3 (some .int) 0 := ⟨q5_121, q5_118, q5_119, q5_120, q1_11, ⟨by decide, by decide, by decide +kernel⟩, by decide⟩
theorem kX10_131 : zCV RX10 131 yX10_believesAll cX10_believesAll 2 none 1 := ⟨q5_125, q5_122, q5_124, qp2_12, q1_11, ⟨by decide, by decide, by decide +kernel⟩, by decide⟩
theorem kL_44 : zCV RL 44 yX10_deal cX10_deal 7 (some .int) 1 := ⟨q5_129, q5_126, q5_127, q5_128, q1_11, ⟨by decide, by decide, by decide +kernel⟩, by decide⟩
theorem kX10_136 : zCV RX10 136 yX10_draw cX10_draw 1 (some .int) 0 := ⟨q5_133, q5_130, q5_132, qp2_13, q1_11, ⟨by decide, by decide, by decide +kernel⟩, by decide⟩
theorem kL_48 : zCV RL 48 yX10_seed cX10_seed 2 (some .int) 1 := ⟨q5_138, q5_135, q5_136, q5_137, q1_11, ⟨by decide, by decide, by decide +kernel⟩, by decide⟩
theorem kL_52 : zCV RL 52 yX10_safe cX10_safe 3 (some .int) 2 := ⟨q5_142, q5_139, q5_140, q5_141, q1_11, ⟨by decide, by decide, by decide +kernel⟩, by decide⟩
theorem kL_56 : zCV RL 56 yX10_says cX10_says 1 (some .int) 0 := ⟨q5_146, q5_143, q5_144, q5_145, q1_11, ⟨by decide, by decide, by decide +kernel⟩, by decide⟩
theorem kX10_155 : zCV RX10 155 yX10_saysNow cX10_saysNow 1 (some .int) 0 := ⟨q5_150, q5_147, q5_149, qp2_14, q1_11, ⟨by decide, by decide, by decide +kernel⟩, by decide⟩
theorem kX10_146 : zCV RX10 146 yX10_mean cX10_mean 3 (some .int) 0 := ⟨q5_154, q5_151, q5_153, qp2_15, q1_11, ⟨by decide, by decide, by decide +kernel⟩, by decide⟩
theorem kX10_140 : zCV RX10 140 yX10_weights cX10_weights 3 (some .int) 0 := ⟨q5_158, q5_155, q5_157, qp3_0, q1_11, ⟨by decide, by decide, by decide +kernel⟩, by decide⟩
theorem kX10_149 : zCV RX10 149 yX10_middle cX10_middle 5 (some .int) 0 := ⟨q5_162, q5_159, q5_161, qp3_1, q1_11, ⟨by decide, by decide, by decide +kernel⟩, by decide⟩
theorem kX10_143 : zCV RX10 143 yX10_upTo cX10_upTo 4 (some .int) 1 := ⟨q5_166, q5_163, q5_165, qp3_2, q1_11, ⟨by decide, by decide, by decide +kernel⟩, by decide⟩
theorem kX10_152 : zCV RX10 152 yX10_greatest cX10_greatest 3 (some .int) 0 := ⟨q5_170, q5_167, q5_169, qp3_3, q1_11, ⟨by decide, by decide, by decide +kernel⟩, by decide⟩
theorem kL_60 : zCV RL 60 yX10_tries cX10_tries 2 (some .int) 1 := ⟨q5_174, q5_171, q5_172, q5_173, q1_11, ⟨by decide, by decide, by decide +kernel⟩, by decide⟩
theorem kX10_172 : zCV RX10 172 yX10_goesOn cX10_goesOn 4 (some .int) 1 := ⟨q5_178, q5_175, q5_177, qp3_4, q1_11, ⟨by decide, by decide, by decide +kernel⟩, by decide⟩
theorem kX10_169 : zCV RX10 169 yX10_aTry cX10_aTry 2 (some .int) 0 := ⟨q5_182, q5_179, q5_181, qp3_5, q1_11, ⟨by decide, by decide, by decide +kernel⟩, by decide⟩
theorem kX10_162 : zCV RX10 162 yX10_isStill cX10_isStill 1 (some .boolean) 0 := ⟨q5_186, q5_183, q5_185, qp3_6, q1_11, ⟨by decide, by decide, by decide +kernel⟩, by decide⟩
theorem kX10_166 : zCV RX10 166 yX10_turn cX10_turn 3 (some .int) 0 := ⟨q5_190, q5_187, q5_189, qp3_7, q1_11, ⟨by decide, by decide, by decide +kernel⟩, by decide⟩
theorem kX10_158 : zCV RX10 158 yX10_hears cX10_hears 3 none 2 := ⟨q5_194, q5_191, q5_193, qp3_8, q1_11, ⟨by decide, by decide, by decide +kernel⟩, by decide⟩
theorem kL_64 : zCV RL 64 yX10_needs cX10_needs 3 (some .int) 1 := ⟨q5_198, q5_195, q5_196, q5_197, q1_11, ⟨by decide, by decide, by decide +kernel⟩, by decide⟩
theorem kX10_182 : zCV RX10 182 yX10_needsBy cX10_needsBy 3 (some .int) 1 := ⟨q5_202, q5_199, q5_201, qp3_9, q1_11, ⟨by decide, by decide, by decide +kernel⟩, by decide⟩
theorem kX10_175 : zCV RX10 175 yX10_takes cX10_takes 4 none 2 := ⟨q5_206, q5_203, q5_205, qp3_10, q1_11, ⟨by decide, by decide, by decide +kernel⟩, by decide⟩
theorem kX10_179 : zCV RX10 179 yX10_needsOf cX10_needsOf 4 (some .int) 1 := ⟨q5_210, q5_207, q5_209, qp3_11, q1_11, ⟨by decide, by decide, by decide +kernel⟩, by decide⟩
theorem kL_68 : zCV RL 68 yX10_worst cX10_worst 6 (some .int) 1 := ⟨q5_215, q5_212, q5_213, q5_214, q1_11, ⟨by decide, by decide, by decide +kernel⟩, by decide⟩
theorem kL_72 : zCV RL 72 yX10_had cX10_had 4 (some .int) 1 := ⟨q5_219, q5_216, q5_217, q5_218, q1_11, ⟨by decide, by decide, by decide +kernel⟩, by decide⟩
theorem kL_76 : zCV RL 76 yX10_start cX10_start 8 (some .int) 2 := ⟨q5_223, q5_220, q5_221, q5_222, q1_11, ⟨by decide, by decide, by decide +kernel⟩, by decide⟩
theorem kX10_186 : zCV RX10 186 yX10_needsAll cX10_needsAll 3 (some .int) 0 := ⟨q5_227, q5_224, q5_226, qp3_12, q1_11, ⟨by decide, by decide, by decide +kernel⟩, by decide⟩
theorem kL_80 : zCV RL 80 yX10_tells cX10_tells 6 (some .int) 1 := ⟨q5_231, q5_228, q5_229, q5_230, q1_11, ⟨by decide, by decide, by decide +kernel⟩, by decide⟩
theorem kX10_189 : zCV RX10 189 yX10_thinks cX10_thinks 1 none 0 := ⟨q5_235, q5_232, q5_234, qp3_13, q1_11, ⟨by decide, by decide, by decide +kernel⟩, by decide⟩
theorem kX10_192 : zCV RX10 192 yX10_putsBack cX10_putsBack 1 none 0 := ⟨q5_239, q5_236, q5_238, qp3_14, q1_11, ⟨by decide, by decide, by decide +kernel⟩, by decide⟩
theorem kL_84 : zCV RL 84 yX10_keeps cX10_keeps 5 (some .int) 1 := ⟨q6_3, q6_0, q6_1, q6_2, q1_11, ⟨by decide, by decide, by decide +kernel⟩, by decide⟩
theorem kL_88 : zCV RL 88 yX10_behind cX10_behind 6 (some .int) 3 := ⟨q6_7, q6_4, q6_5, q6_6, q1_11, ⟨by decide, by decide, by decide +kernel⟩, by decide⟩
theorem kL_92 : zCV RL 92 yX10_left cX10_left 7 (some .int) 2 := ⟨q6_11, q6_8, q6_9, q6_10, q1_11, ⟨by decide, by decide, by decide +kernel⟩, by decide⟩
theorem kX10_198 : zCS RX10 198 yX10_isSheet cX10_isSheet 1 (some .boolean) 1 := ⟨q6_14, q6_12, q6_13, q1_11, ⟨by decide, by decide, by decide +kernel⟩, by decide⟩
theorem kX10_202 : zCV RX10 202 yX10_answersBy cX10_answersBy 7 (some .boolean) 2 := ⟨q6_19, q6_16, q6_18, qp3_15, q1_11, ⟨by decide, by decide, by decide +kernel⟩, by decide⟩
theorem kX10_195 : zCV RX10 195 yX10_answer cX10_answer 3 (some .int) 0 := ⟨q6_23, q6_20, q6_22, qp4_0, q1_11, ⟨by decide, by decide, by decide +kernel⟩, by decide⟩
theorem kL_96 : zCV RL 96 yX10_fee cX10_fee 2 (some .int) 0 := ⟨q6_27, q6_24, q6_25, q6_26, q1_11, ⟨by decide, by decide, by decide +kernel⟩, by decide⟩
theorem kL_100 : zCV RL 100 yX10_fine cX10_fine 3 (some .int) 1 := ⟨q6_31, q6_28, q6_29, q6_30, q1_11, ⟨by decide, by decide, by decide +kernel⟩, by decide⟩
theorem kL_104 : zCV RL 104 yX10_feed cX10_feed 6 (some .int) 3 := ⟨q6_35, q6_32, q6_33, q6_34, q1_11, ⟨by decide, by decide, by decide +kernel⟩, by decide⟩
theorem kL_108 : zCV RL 108 yX10_trim cX10_trim 2 (some .int) 1 := ⟨q6_39, q6_36, q6_37, q6_38, q1_11, ⟨by decide, by decide, by decide +kernel⟩, by decide⟩
theorem kL_112 : zCV RL 112 yX10_text cX10_text 4 (some .int) 0 := ⟨q6_43, q6_40, q6_41, q6_42, q1_11, ⟨by decide, by decide, by decide +kernel⟩, by decide⟩
theorem kX10_233 : zCV RX10 233 yX10_go cX10_go 2 none 0 := ⟨q6_47, q6_44, q6_46, qp4_1, q1_11, ⟨by decide, by decide, by decide +kernel⟩, by decide⟩
theorem kX10_221 : zCV RX10 221 yX10_isLetter cX10_isLetter 2 (some .boolean) 1 := ⟨q6_51, q6_48, q6_50, qp4_2, q1_11, ⟨by decide, by decide, by decide +kernel⟩, by decide⟩
theorem kX10_227 : zCV RX10 227 yX10_isFigure cX10_isFigure 2 (some .boolean) 1 := ⟨q6_55, q6_52, q6_54, qp4_3, q1_11, ⟨by decide, by decide, by decide +kernel⟩, by decide⟩
theorem kX10_263 : zCV RX10 263 yX10_takesKey cX10_takesKey 5 (some .boolean) 0 := ⟨q6_59, q6_56, q6_58, qp4_4, q1_11, ⟨by decide, by decide, by decide +kernel⟩, by decide⟩
theorem kX10_266 : zCV RX10 266 yX10_takesE cX10_takesE 5 (some .boolean) 0 := ⟨q6_63, q6_60, q6_62, qp4_5, q1_11, ⟨by decide, by decide, by decide +kernel⟩, by decide⟩
theorem kX10_254 : zCV RX10 254 yX10_takesPart cX10_takesPart 2 (some .boolean) 0 := ⟨q6_67, q6_64, q6_66, qp4_6, q1_11, ⟨by decide, by decide, by decide +kernel⟩, by decide⟩
theorem kX10_245 : zCV RX10 245 yX10_nameOf cX10_nameOf 2 (some .int) 1 := ⟨q6_71, q6_68, q6_70, qp4_7, q1_11, ⟨by decide, by decide, by decide +kernel⟩, by decide⟩
theorem kX10_251 : zCV RX10 251 yX10_settle cX10_settle 2 none 1 := ⟨q6_75, q6_72, q6_74, qp4_8, q1_11, ⟨by decide, by decide, by decide +kernel⟩, by decide⟩
theorem kX10_239 : zCS RX10 239 yX10_rank cX10_rank 1 (some .int) 1 := ⟨q6_78, q6_76, q6_77, q1_11, ⟨by decide, by decide, by decide +kernel⟩, by decide⟩
theorem kX10_257 : zCV RX10 257 yX10_notsOpen cX10_notsOpen 3 (some .int) 0 := ⟨q6_82, q6_79, q6_81, qp4_9, q1_11, ⟨by decide, by decide, by decide +kernel⟩, by decide⟩
theorem kX10_260 : zCV RX10 260 yX10_signHere cX10_signHere 1 (some .int) 0 := ⟨q6_86, q6_83, q6_85, qp4_10, q1_11, ⟨by decide, by decide, by decide +kernel⟩, by decide⟩
theorem kL_116 : zCV RL 116 yX10_textTold cX10_textTold 3 (some .int) 2 := ⟨q6_90, q6_87, q6_88, q6_89, q1_11, ⟨by decide, by decide, by decide +kernel⟩, by decide⟩
theorem kL_120 : zCV RL 120 yX10_why cX10_why 3 (some .int) 1 := ⟨q6_94, q6_91, q6_92, q6_93, q1_11, ⟨by decide, by decide, by decide +kernel⟩, by decide⟩
theorem kL_124 : zCV RL 124 yX10_sheet cX10_sheet 5 (some .int) 3 := ⟨q6_98, q6_95, q6_96, q6_97, q1_11, ⟨by decide, by decide, by decide +kernel⟩, by decide⟩
theorem kL_128 : zCV RL 128 yX10_mark cX10_mark 4 (some .int) 3 := ⟨q6_103, q6_100, q6_101, q6_102, q1_11, ⟨by decide, by decide, by decide +kernel⟩, by decide⟩
theorem kL_132 : zCV RL 132 yX10_pour cX10_pour 6 (some .int) 1 := ⟨q6_110, q6_107, q6_108, q6_109, q1_11, ⟨by decide, by decide, by decide +kernel⟩, by decide⟩
theorem kL_136 : zCV RL 136 yX10_reads cX10_reads 4 (some .int) 1 := ⟨q6_114, q6_111, q6_112, q6_113, q1_11, ⟨by decide, by decide, by decide +kernel⟩, by decide⟩
theorem kL_141 : zCV RL 141 yX10_copy cX10_copy 7 (some .int) 5 := ⟨q6_118, q6_115, q6_116, q6_117, q1_11, ⟨by decide, by decide, by decide +kernel⟩, by decide⟩
theorem kL_145 : zCV RL 145 yX10_lay cX10_lay 6 (some .int) 3 := ⟨q6_122, q6_119, q6_120, q6_121, q1_11, ⟨by decide, by decide, by decide +kernel⟩, by decide⟩
theorem kX10_276 : zCS RX10 276 yX10_isSlot cX10_isSlot 1 (some .boolean) 1 := ⟨q6_125, q6_123, q6_124, q1_11, ⟨by decide, by decide, by decide +kernel⟩, by decide⟩
theorem kL_149 : zCV RL 149 yX10_ask cX10_ask 3 (some .int) 2 := ⟨q6_129, q6_126, q6_127, q6_128, q1_11, ⟨by decide, by decide, by decide +kernel⟩, by decide⟩
theorem kL_153 : zCV RL 153 yX10_item cX10_item 4 (some .int) 2 := ⟨q6_133, q6_130, q6_131, q6_132, q1_11, ⟨by decide, by decide, by decide +kernel⟩, by decide⟩
theorem kL_157 : zCV RL 157 yX10_rest cX10_rest 3 (some .int) 2 := ⟨q6_137, q6_134, q6_135, q6_136, q1_11, ⟨by decide, by decide, by decide +kernel⟩, by decide⟩
theorem kL_161 : zCV RL 161 yX10_tell cX10_tell 2 (some .int) 1 := ⟨q6_142, q6_139, q6_140, q6_141, q1_11, ⟨by decide, by decide, by decide +kernel⟩, by decide⟩
theorem kL_165 : zCV RL 165 yX10_check cX10_check 6 (some .int) 1 := ⟨q6_146, q6_143, q6_144, q6_145, q1_11, ⟨by decide, by decide, by decide +kernel⟩, by decide⟩
theorem kX10_287 : zCS RX10 287 yX10_copyAll cX10_copyAll 3 none 2 := ⟨q6_149, q6_147, q6_148, q1_11, ⟨by decide, by decide, by decide +kernel⟩, by decide⟩
theorem kL_169 : zCV RL 169 yX10_keep cX10_keep 1 (some .int) 0 := ⟨q6_153, q6_150, q6_151, q6_152, q1_11, ⟨by decide, by decide, by decide +kernel⟩, by decide⟩
theorem kL_173 : zCV RL 173 yX10_back cX10_back 1 (some .int) 0 := ⟨q6_157, q6_154, q6_155, q6_156, q1_11, ⟨by decide, by decide, by decide +kernel⟩, by decide⟩
theorem kL_177 : zCV RL 177 yX10_count cX10_count 2 (some .int) 1 := ⟨q6_161, q6_158, q6_159, q6_160, q1_11, ⟨by decide, by decide, by decide +kernel⟩, by decide⟩
theorem kX10_290 : zCV RX10 290 yX10_hearing cX10_hearing 3 (some .int) 0 := ⟨q6_165, q6_162, q6_164, qp4_11, q1_11, ⟨by decide, by decide, by decide +kernel⟩, by decide⟩
