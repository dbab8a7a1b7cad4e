theorem wt_0 : ∀ w ∈ tables_1_1, goodWord w = true → w ∈ xALL := fun _ h q => List.mem_filter.mpr ⟨List.mem_append_right _ (List.mem_append_left _ h), q⟩
theorem wt_1 : ∀ w ∈ tables_1_2, goodWord w = true → w ∈ xALL := fun _ h q => List.mem_filter.mpr ⟨List.mem_append_right _ (List.mem_append_right _ (List.mem_append_left _ h)), q⟩
theorem wt_2 : ∀ w ∈ tables_1_3, goodWord w = true → w ∈ xALL := fun _ h q => List.mem_filter.mpr ⟨List.mem_append_right _ (List.mem_append_right _ (List.mem_append_right _ (List.mem_append_left _ h))), q⟩
theorem wt_3 : ∀ w ∈ tables_1_4, goodWord w = true → w ∈ xALL := fun _ h q => List.mem_filter.mpr ⟨List.mem_append_right _ (List.mem_append_right _ (List.mem_append_right _ (List.mem_append_right _ (h)))), q⟩
theorem wt_s : ∀ w ∈ k2_sels lw_privs, goodWord w = true → w ∈ xALL := fun _ h q => List.mem_filter.mpr ⟨List.mem_append_left _ h, q⟩
theorem q_0 : (Cond.classLink RL 7 RX3) ∈ xALL := wt_0 _ (List.mem_of_getElem? (i := 11) (by decide +kernel)) rfl
theorem q_1 : (Cond.instantiable RX3 6) ∈ xALL := wt_0 _ (List.mem_of_getElem? (i := 12) (by decide +kernel)) rfl
theorem q_2 : (Cond.initialized RX3) ∈ xALL := wt_0 _ (List.mem_of_getElem? (i := 1) (by decide +kernel)) rfl
theorem q_3 : (Cond.classLink RL 10 RX4) ∈ xALL := wt_2 _ (List.mem_of_getElem? (i := 5) (by decide +kernel)) rfl
theorem q_4 : (Cond.instantiable RX4 11) ∈ xALL := wt_2 _ (List.mem_of_getElem? (i := 6) (by decide +kernel)) rfl
theorem q_5 : (Cond.initialized RX4) ∈ xALL := wt_0 _ (List.mem_of_getElem? (i := 6) (by decide +kernel)) rfl
theorem q_6 : (Cond.methodLink RL 9 yX3_init) ∈ xALL := wt_0 _ (List.mem_of_getElem? (i := 13) (by decide +kernel)) rfl
theorem q_7 : (Cond.instanceMethod yX3_init) ∈ xALL := wt_0 _ (List.mem_of_getElem? (i := 14) (by decide +kernel)) rfl
theorem q_8 : (Cond.code yX3_init cX3_init 1 none) ∈ xALL := wt_0 _ (List.mem_of_getElem? (i := 15) (by decide +kernel)) rfl
theorem q_9 : (Cond.methodLink RX3 1 objectInit) ∈ xALL := wt_0 _ (List.mem_of_getElem? (i := 16) (by decide +kernel)) rfl
theorem q_10 : (Cond.instanceMethod objectInit) ∈ xALL := wt_0 _ (List.mem_of_getElem? (i := 17) (by decide +kernel)) rfl
theorem q_11 : (Cond.code objectInit ⟨#[0xb1]⟩ 1 none) ∈ xALL := wt_0 _ (List.mem_of_getElem? (i := 18) (by decide +kernel)) rfl
theorem q_12 : (Cond.classLink RX3 7 RX1) ∈ xALL := wt_0 _ (List.mem_of_getElem? (i := 19) (by decide +kernel)) rfl
theorem q_13 : (Cond.instantiable RX1 7) ∈ xALL := wt_0 _ (List.mem_of_getElem? (i := 20) (by decide +kernel)) rfl
theorem q_14 : (Cond.initialized RX1) ∈ xALL := wt_0 _ (List.mem_of_getElem? (i := 2) (by decide +kernel)) rfl
theorem q_15 : (Cond.fieldLink RX3 10 "DittoLog" "log" "LDittoLog$Log;") ∈ xALL := wt_0 _ (List.mem_of_getElem? (i := 93) (by decide +kernel)) rfl
theorem q_16 : (Cond.fieldLink RX3 16 "DittoLog" "snapshot" "LDittoLog$Log;") ∈ xALL := wt_0 _ (List.mem_of_getElem? (i := 94) (by decide +kernel)) rfl
theorem q_17 : (Cond.fieldLink RX3 19 "DittoLog" "hasSnapshot" "Z") ∈ xALL := wt_0 _ (List.mem_of_getElem? (i := 95) (by decide +kernel)) rfl
theorem q_18 : (Cond.classLink RX3 23 RX0) ∈ xALL := wt_0 _ (List.mem_of_getElem? (i := 52) (by decide +kernel)) rfl
theorem q_19 : (Cond.instantiable RX0 3) ∈ xALL := wt_0 _ (List.mem_of_getElem? (i := 53) (by decide +kernel)) rfl
theorem q_20 : (Cond.initialized RX0) ∈ xALL := wt_0 _ (List.mem_of_getElem? (i := 4) (by decide +kernel)) rfl
theorem q_21 : (Cond.fieldLink RX3 26 "DittoLog" "history" "LDittoLog$History;") ∈ xALL := wt_0 _ (List.mem_of_getElem? (i := 96) (by decide +kernel)) rfl
theorem q_22 : (Cond.classLink RX3 30 RX2) ∈ xALL := wt_0 _ (List.mem_of_getElem? (i := 72) (by decide +kernel)) rfl
theorem q_23 : (Cond.instantiable RX2 4) ∈ xALL := wt_0 _ (List.mem_of_getElem? (i := 73) (by decide +kernel)) rfl
theorem q_24 : (Cond.initialized RX2) ∈ xALL := wt_0 _ (List.mem_of_getElem? (i := 5) (by decide +kernel)) rfl
theorem q_25 : (Cond.fieldLink RX3 33 "DittoLog" "text" "LDittoLog$RowsText;") ∈ xALL := wt_0 _ (List.mem_of_getElem? (i := 97) (by decide +kernel)) rfl
theorem q_26 : (Cond.arrayClass .int) ∈ xALL := wt_0 _ (List.mem_of_getElem? (i := 51) (by decide +kernel)) rfl
theorem q_27 : (Cond.fieldLink RX3 37 "DittoLog" "tally" "[I") ∈ xALL := wt_0 _ (List.mem_of_getElem? (i := 98) (by decide +kernel)) rfl
theorem q_28 : (Cond.instanceMethod yX1_init) ∈ xALL := wt_0 _ (List.mem_of_getElem? (i := 22) (by decide +kernel)) rfl
theorem q_29 : (Cond.code yX1_init cX1_init 1 none) ∈ xALL := wt_0 _ (List.mem_of_getElem? (i := 23) (by decide +kernel)) rfl
theorem q_30 : (Cond.methodLink RX1 3 objectInit) ∈ xALL := wt_0 _ (List.mem_of_getElem? (i := 24) (by decide +kernel)) rfl
theorem q_31 : (Cond.fieldLink RX1 9 "DittoLog$Log" "entries" "[I") ∈ xALL := wt_0 _ (List.mem_of_getElem? (i := 28) (by decide +kernel)) rfl
theorem q_32 : (Cond.fieldLink RX1 15 "DittoLog$Log" "entryCounts" "[I") ∈ xALL := wt_0 _ (List.mem_of_getElem? (i := 29) (by decide +kernel)) rfl
theorem q_33 : (Cond.fieldLink RX1 18 "DittoLog$Log" "sums" "[I") ∈ xALL := wt_0 _ (List.mem_of_getElem? (i := 30) (by decide +kernel)) rfl
theorem q_34 : (Cond.fieldLink RX1 27 "DittoLog$Log" "rows" "I") ∈ xALL := wt_0 _ (List.mem_of_getElem? (i := 31) (by decide +kernel)) rfl
theorem q_35 : (Cond.fieldLink RX1 31 "DittoLog$Log" "pageRows" "I") ∈ xALL := wt_0 _ (List.mem_of_getElem? (i := 33) (by decide +kernel)) rfl
theorem q_36 : (Cond.fieldLink RX1 34 "DittoLog$Log" "stopsAtPages" "I") ∈ xALL := wt_0 _ (List.mem_of_getElem? (i := 34) (by decide +kernel)) rfl
theorem q_37 : (Cond.fieldLink RX1 37 "DittoLog$Log" "watchRows" "I") ∈ xALL := wt_0 _ (List.mem_of_getElem? (i := 35) (by decide +kernel)) rfl
theorem q_38 : (Cond.methodLink RX1 21 yJ7_fill_53178) ∈ xALL := wt_0 _ (List.mem_of_getElem? (i := 25) (by decide +kernel)) rfl
theorem q_39 : (Cond.static yJ7_fill_53178) ∈ xALL := wt_0 _ (List.mem_of_getElem? (i := 26) (by decide +kernel)) rfl
theorem q_40 : (Cond.initialized RJ7) ∈ xALL := wt_0 _ (List.mem_of_getElem? (i := 3) (by decide +kernel)) rfl
theorem q_41 : (Cond.code yJ7_fill_53178 cJ7_fill_53178 4 none) ∈ xALL := wt_0 _ (List.mem_of_getElem? (i := 27) (by decide +kernel)) rfl
theorem q_42 : (Cond.instanceMethod yX0_init) ∈ xALL := wt_0 _ (List.mem_of_getElem? (i := 55) (by decide +kernel)) rfl
theorem q_43 : (Cond.code yX0_init cX0_init 2 none) ∈ xALL := wt_0 _ (List.mem_of_getElem? (i := 56) (by decide +kernel)) rfl
theorem q_44 : (Cond.methodLink RX0 3 objectInit) ∈ xALL := wt_0 _ (List.mem_of_getElem? (i := 57) (by decide +kernel)) rfl
theorem q_45 : (Cond.classLink RX0 9 RX1) ∈ xALL := wt_0 _ (List.mem_of_getElem? (i := 58) (by decide +kernel)) rfl
theorem q_46 : (Cond.fieldLink RX0 11 "DittoLog$History" "states" "[LDittoLog$Log;") ∈ xALL := wt_0 _ (List.mem_of_getElem? (i := 61) (by decide +kernel)) rfl
theorem q_47 : (Cond.fieldLink RX0 18 "DittoLog$History" "oldest" "I") ∈ xALL := wt_0 _ (List.mem_of_getElem? (i := 62) (by decide +kernel)) rfl
theorem q_48 : (Cond.fieldLink RX0 22 "DittoLog$History" "size" "I") ∈ xALL := wt_0 _ (List.mem_of_getElem? (i := 63) (by decide +kernel)) rfl
theorem q_49 : (Cond.instanceMethod yX2_init) ∈ xALL := wt_0 _ (List.mem_of_getElem? (i := 75) (by decide +kernel)) rfl
theorem q_50 : (Cond.code yX2_init cX2_init 1 none) ∈ xALL := wt_0 _ (List.mem_of_getElem? (i := 76) (by decide +kernel)) rfl
theorem q_51 : (Cond.methodLink RX2 3 objectInit) ∈ xALL := wt_0 _ (List.mem_of_getElem? (i := 77) (by decide +kernel)) rfl
theorem q_52 : (Cond.arrayClass .char) ∈ xALL := wt_0 _ (List.mem_of_getElem? (i := 92) (by decide +kernel)) rfl
theorem q_53 : (Cond.fieldLink RX2 9 "DittoLog$RowsText" "characters" "[C") ∈ xALL := wt_0 _ (List.mem_of_getElem? (i := 78) (by decide +kernel)) rfl
theorem q_54 : (Cond.fieldLink RX2 15 "DittoLog$RowsText" "cells" "[I") ∈ xALL := wt_0 _ (List.mem_of_getElem? (i := 79) (by decide +kernel)) rfl
theorem q_55 : (Cond.fieldLink RX2 19 "DittoLog$RowsText" "length" "I") ∈ xALL := wt_0 _ (List.mem_of_getElem? (i := 80) (by decide +kernel)) rfl
theorem q_56 : (Cond.fieldLink RX2 23 "DittoLog$RowsText" "cellsRead" "I") ∈ xALL := wt_0 _ (List.mem_of_getElem? (i := 82) (by decide +kernel)) rfl
theorem q_57 : (Cond.methodLink RL 12 yX4_init) ∈ xALL := wt_2 _ (List.mem_of_getElem? (i := 7) (by decide +kernel)) rfl
theorem q_58 : (Cond.instanceMethod yX4_init) ∈ xALL := wt_2 _ (List.mem_of_getElem? (i := 8) (by decide +kernel)) rfl
theorem q_59 : (Cond.code yX4_init cX4_init 2 none) ∈ xALL := wt_2 _ (List.mem_of_getElem? (i := 9) (by decide +kernel)) rfl
theorem q_60 : (Cond.methodLink RX4 1 objectInit) ∈ xALL := wt_2 _ (List.mem_of_getElem? (i := 10) (by decide +kernel)) rfl
theorem q_61 : (Cond.fieldLink RX4 7 "DittoLogModel" "now" "[I") ∈ xALL := wt_2 _ (List.mem_of_getElem? (i := 11) (by decide +kernel)) rfl
theorem q_62 : (Cond.fieldLink RX4 13 "DittoLogModel" "past" "[I") ∈ xALL := wt_2 _ (List.mem_of_getElem? (i := 12) (by decide +kernel)) rfl
theorem q_63 : (Cond.fieldLink RX4 16 "DittoLogModel" "snapshot" "[I") ∈ xALL := wt_2 _ (List.mem_of_getElem? (i := 14) (by decide +kernel)) rfl
theorem q_64 : (Cond.fieldLink RX4 19 "DittoLogModel" "text" "[C") ∈ xALL := wt_2 _ (List.mem_of_getElem? (i := 16) (by decide +kernel)) rfl
theorem q_65 : (Cond.fieldLink RX4 23 "DittoLogModel" "meant" "[I") ∈ xALL := wt_2 _ (List.mem_of_getElem? (i := 18) (by decide +kernel)) rfl
theorem q_66 : (Cond.fieldLink RX4 26 "DittoLogModel" "told" "[I") ∈ xALL := wt_2 _ (List.mem_of_getElem? (i := 20) (by decide +kernel)) rfl
theorem q_67 : (Cond.methodLink RL 13 yX3_addRow) ∈ xALL := wt_0 _ (List.mem_of_getElem? (i := 112) (by decide +kernel)) rfl
theorem q_68 : (Cond.instanceMethod yX3_addRow) ∈ xALL := wt_0 _ (List.mem_of_getElem? (i := 113) (by decide +kernel)) rfl
theorem q_69 : (Cond.selects RX3 yX3_addRow yX3_addRow) ∈ xALL := wt_0 _ (List.mem_of_getElem? (i := 114) (by decide +kernel)) rfl
theorem q_70 : (Cond.code yX3_addRow cX3_addRow 5 (some .int)) ∈ xALL := wt_0 _ (List.mem_of_getElem? (i := 115) (by decide +kernel)) rfl
theorem q_71 : (Cond.methodLink RX3 41 yX3_isEntry) ∈ xALL := wt_0 _ (List.mem_of_getElem? (i := 116) (by decide +kernel)) rfl
theorem q_72 : (Cond.static yX3_isEntry) ∈ xALL := wt_0 _ (List.mem_of_getElem? (i := 117) (by decide +kernel)) rfl
theorem q_73 : (Cond.code yX3_isEntry cX3_isEntry 2 (some .boolean)) ∈ xALL := wt_0 _ (List.mem_of_getElem? (i := 118) (by decide +kernel)) rfl
theorem q_74 : (Cond.fieldLink RX3 224 "DittoLog" "COLUMN_MAX" "[I") ∈ xALL := wt_0 _ (List.mem_of_getElem? (i := 119) (by decide +kernel)) rfl
theorem q_75 : (Cond.methodLink RX3 105 yX3_at) ∈ xALL := wt_0 _ (List.mem_of_getElem? (i := 121) (by decide +kernel)) rfl
theorem q_76 : (Cond.static yX3_at) ∈ xALL := wt_0 _ (List.mem_of_getElem? (i := 122) (by decide +kernel)) rfl
theorem q_77 : (Cond.code yX3_at cX3_at 2 (some .int)) ∈ xALL := wt_0 _ (List.mem_of_getElem? (i := 123) (by decide +kernel)) rfl
theorem q_78 : (Cond.instanceMethod yX0_remember) ∈ xALL := wt_0 _ (List.mem_of_getElem? (i := 126) (by decide +kernel)) rfl
theorem q_79 : (Cond.selects RX0 yX0_remember yX0_remember) ∈ xALL := wt_s _ (List.mem_of_getElem? (i := 0) (by decide +kernel)) rfl
theorem q_80 : (Cond.code yX0_remember cX0_remember 3 none) ∈ xALL := wt_0 _ (List.mem_of_getElem? (i := 127) (by decide +kernel)) rfl
theorem q_81 : (Cond.methodLink RX0 25 yX0_latest) ∈ xALL := wt_0 _ (List.mem_of_getElem? (i := 128) (by decide +kernel)) rfl
theorem q_82 : (Cond.instanceMethod yX0_latest) ∈ xALL := wt_0 _ (List.mem_of_getElem? (i := 130) (by decide +kernel)) rfl
theorem q_83 : (Cond.selects RX0 yX0_latest yX0_latest) ∈ xALL := wt_s _ (List.mem_of_getElem? (i := 1) (by decide +kernel)) rfl
theorem q_84 : (Cond.code yX0_latest cX0_latest 2 (some (.object "DittoLog$Log"))) ∈ xALL := wt_0 _ (List.mem_of_getElem? (i := 131) (by decide +kernel)) rfl
theorem q_85 : (Cond.instanceMethod yX1_copyFrom) ∈ xALL := wt_0 _ (List.mem_of_getElem? (i := 134) (by decide +kernel)) rfl
theorem q_86 : (Cond.selects RX1 yX1_copyFrom yX1_copyFrom) ∈ xALL := wt_s _ (List.mem_of_getElem? (i := 2) (by decide +kernel)) rfl
theorem q_87 : (Cond.code yX1_copyFrom cX1_copyFrom 2 none) ∈ xALL := wt_0 _ (List.mem_of_getElem? (i := 135) (by decide +kernel)) rfl
theorem q_88 : (Cond.static yX3_copyInto) ∈ xALL := wt_0 _ (List.mem_of_getElem? (i := 137) (by decide +kernel)) rfl
theorem q_89 : (Cond.code yX3_copyInto cX3_copyInto 2 none) ∈ xALL := wt_0 _ (List.mem_of_getElem? (i := 138) (by decide +kernel)) rfl
theorem q_90 : (Cond.methodLink RX3 227 Lib.Math.min.name) ∈ xALL := wt_0 _ (List.mem_of_getElem? (i := 139) (by decide +kernel)) rfl
theorem q_91 : (Cond.static Lib.Math.min.name) ∈ xALL := wt_0 _ (List.mem_of_getElem? (i := 140) (by decide +kernel)) rfl
theorem q_92 : (Cond.initialized "java/lang/Math") ∈ xALL := wt_0 _ (List.mem_of_getElem? (i := 7) (by decide +kernel)) rfl
theorem q_93 : (Cond.code Lib.Math.min.name Lib.Math.min.code 2 (some .int)) ∈ xALL := wt_0 _ (List.mem_of_getElem? (i := 141) (by decide +kernel)) rfl
theorem q_94 : (Cond.methodLink RX3 232 arraycopyName) ∈ xALL := wt_0 _ (List.mem_of_getElem? (i := 142) (by decide +kernel)) rfl
theorem q_95 : (Cond.native arraycopyName) ∈ xALL := wt_0 _ (List.mem_of_getElem? (i := 144) (by decide +kernel)) rfl
theorem q_96 : (Cond.static arraycopyName) ∈ xALL := wt_0 _ (List.mem_of_getElem? (i := 143) (by decide +kernel)) rfl
theorem q_97 : (Cond.initialized "java/lang/System") ∈ xALL := wt_0 _ (List.mem_of_getElem? (i := 8) (by decide +kernel)) rfl
theorem q_98 : (Cond.instanceMethod yX1_appendRow) ∈ xALL := wt_0 _ (List.mem_of_getElem? (i := 147) (by decide +kernel)) rfl
theorem q_99 : (Cond.selects RX1 yX1_appendRow yX1_appendRow) ∈ xALL := wt_s _ (List.mem_of_getElem? (i := 3) (by decide +kernel)) rfl
theorem q_100 : (Cond.code yX1_appendRow cX1_appendRow 6 none) ∈ xALL := wt_0 _ (List.mem_of_getElem? (i := 148) (by decide +kernel)) rfl
theorem q_101 : (Cond.methodLink RX1 55 yX1_startCell) ∈ xALL := wt_0 _ (List.mem_of_getElem? (i := 149) (by decide +kernel)) rfl
theorem q_102 : (Cond.instanceMethod yX1_startCell) ∈ xALL := wt_0 _ (List.mem_of_getElem? (i := 151) (by decide +kernel)) rfl
theorem q_103 : (Cond.selects RX1 yX1_startCell yX1_startCell) ∈ xALL := wt_s _ (List.mem_of_getElem? (i := 4) (by decide +kernel)) rfl
theorem q_104 : (Cond.code yX1_startCell cX1_startCell 5 none) ∈ xALL := wt_0 _ (List.mem_of_getElem? (i := 152) (by decide +kernel)) rfl
theorem q_105 : (Cond.methodLink RX1 59 yX1_pushEntry) ∈ xALL := wt_0 _ (List.mem_of_getElem? (i := 153) (by decide +kernel)) rfl
theorem q_106 : (Cond.instanceMethod yX1_pushEntry) ∈ xALL := wt_0 _ (List.mem_of_getElem? (i := 155) (by decide +kernel)) rfl
theorem q_107 : (Cond.selects RX1 yX1_pushEntry yX1_pushEntry) ∈ xALL := wt_s _ (List.mem_of_getElem? (i := 5) (by decide +kernel)) rfl
theorem q_108 : (Cond.code yX1_pushEntry cX1_pushEntry 6 none) ∈ xALL := wt_0 _ (List.mem_of_getElem? (i := 156) (by decide +kernel)) rfl
theorem q_109 : (Cond.methodLink RL 17 yX4_addRow) ∈ xALL := wt_2 _ (List.mem_of_getElem? (i := 45) (by decide +kernel)) rfl
theorem q_110 : (Cond.instanceMethod yX4_addRow) ∈ xALL := wt_2 _ (List.mem_of_getElem? (i := 46) (by decide +kernel)) rfl
theorem q_111 : (Cond.selects RX4 yX4_addRow yX4_addRow) ∈ xALL := wt_2 _ (List.mem_of_getElem? (i := 47) (by decide +kernel)) rfl
theorem q_112 : (Cond.code yX4_addRow cX4_addRow 6 (some .int)) ∈ xALL := wt_2 _ (List.mem_of_getElem? (i := 48) (by decide +kernel)) rfl
theorem q_113 : (Cond.methodLink RX4 69 yX4_isEntry) ∈ xALL := wt_2 _ (List.mem_of_getElem? (i := 49) (by decide +kernel)) rfl
theorem q_114 : (Cond.static yX4_isEntry) ∈ xALL := wt_2 _ (List.mem_of_getElem? (i := 50) (by decide +kernel)) rfl
theorem q_115 : (Cond.code yX4_isEntry cX4_isEntry 2 (some .boolean)) ∈ xALL := wt_2 _ (List.mem_of_getElem? (i := 51) (by decide +kernel)) rfl
theorem q_116 : (Cond.methodLink RX4 48 yX4_most) ∈ xALL := wt_2 _ (List.mem_of_getElem? (i := 52) (by decide +kernel)) rfl
theorem q_117 : (Cond.static yX4_most) ∈ xALL := wt_2 _ (List.mem_of_getElem? (i := 53) (by decide +kernel)) rfl
theorem q_118 : (Cond.code yX4_most cX4_most 1 (some .int)) ∈ xALL := wt_2 _ (List.mem_of_getElem? (i := 54) (by decide +kernel)) rfl
theorem q_119 : (Cond.methodLink RX4 37 yX4_in) ∈ xALL := wt_2 _ (List.mem_of_getElem? (i := 55) (by decide +kernel)) rfl
theorem q_120 : (Cond.static yX4_in) ∈ xALL := wt_2 _ (List.mem_of_getElem? (i := 56) (by decide +kernel)) rfl
theorem q_121 : (Cond.code yX4_in cX4_in 3 (some .boolean)) ∈ xALL := wt_2 _ (List.mem_of_getElem? (i := 57) (by decide +kernel)) rfl
theorem q_122 : (Cond.methodLink RX4 72 yX4_records) ∈ xALL := wt_2 _ (List.mem_of_getElem? (i := 58) (by decide +kernel)) rfl
theorem q_123 : (Cond.instanceMethod yX4_records) ∈ xALL := wt_2 _ (List.mem_of_getElem? (i := 60) (by decide +kernel)) rfl
theorem q_124 : (Cond.selects RX4 yX4_records yX4_records) ∈ xALL := wt_s _ (List.mem_of_getElem? (i := 55) (by decide +kernel)) rfl
theorem q_125 : (Cond.code yX4_records cX4_records 2 none) ∈ xALL := wt_2 _ (List.mem_of_getElem? (i := 61) (by decide +kernel)) rfl
theorem q_126 : (Cond.fieldLink RX4 29 "DittoLogModel" "states" "I") ∈ xALL := wt_2 _ (List.mem_of_getElem? (i := 13) (by decide +kernel)) rfl
theorem q_127 : (Cond.methodLink RX4 33 yX4_lays) ∈ xALL := wt_2 _ (List.mem_of_getElem? (i := 62) (by decide +kernel)) rfl
theorem q_128 : (Cond.static yX4_lays) ∈ xALL := wt_2 _ (List.mem_of_getElem? (i := 63) (by decide +kernel)) rfl
theorem q_129 : (Cond.code yX4_lays cX4_lays 5 none) ∈ xALL := wt_2 _ (List.mem_of_getElem? (i := 64) (by decide +kernel)) rfl
theorem q_130 : (Cond.methodLink RX4 75 yX4_comes) ∈ xALL := wt_2 _ (List.mem_of_getElem? (i := 65) (by decide +kernel)) rfl
theorem q_131 : (Cond.instanceMethod yX4_comes) ∈ xALL := wt_2 _ (List.mem_of_getElem? (i := 67) (by decide +kernel)) rfl
theorem q_132 : (Cond.selects RX4 yX4_comes yX4_comes) ∈ xALL := wt_s _ (List.mem_of_getElem? (i := 56) (by decide +kernel)) rfl
theorem q_133 : (Cond.code yX4_comes cX4_comes 5 none) ∈ xALL := wt_2 _ (List.mem_of_getElem? (i := 68) (by decide +kernel)) rfl
theorem q_134 : (Cond.methodLink RX4 52 yX4_cellAt) ∈ xALL := wt_2 _ (List.mem_of_getElem? (i := 69) (by decide +kernel)) rfl
theorem q_135 : (Cond.static yX4_cellAt) ∈ xALL := wt_2 _ (List.mem_of_getElem? (i := 70) (by decide +kernel)) rfl
theorem q_136 : (Cond.code yX4_cellAt cX4_cellAt 2 (some .int)) ∈ xALL := wt_2 _ (List.mem_of_getElem? (i := 71) (by decide +kernel)) rfl
theorem q_137 : (Cond.methodLink RL 18 yX3_addRows) ∈ xALL := wt_0 _ (List.mem_of_getElem? (i := 157) (by decide +kernel)) rfl
theorem q_138 : (Cond.instanceMethod yX3_addRows) ∈ xALL := wt_0 _ (List.mem_of_getElem? (i := 158) (by decide +kernel)) rfl
theorem q_139 : (Cond.selects RX3 yX3_addRows yX3_addRows) ∈ xALL := wt_0 _ (List.mem_of_getElem? (i := 159) (by decide +kernel)) rfl
theorem q_140 : (Cond.code yX3_addRows cX3_addRows 4 (some .int)) ∈ xALL := wt_0 _ (List.mem_of_getElem? (i := 160) (by decide +kernel)) rfl
theorem q_141 : (Cond.instanceMethod yX2_readRows) ∈ xALL := wt_0 _ (List.mem_of_getElem? (i := 163) (by decide +kernel)) rfl
theorem q_142 : (Cond.selects RX2 yX2_readRows yX2_readRows) ∈ xALL := wt_s _ (List.mem_of_getElem? (i := 6) (by decide +kernel)) rfl
theorem q_143 : (Cond.code yX2_readRows cX2_readRows 5 (some .int)) ∈ xALL := wt_0 _ (List.mem_of_getElem? (i := 164) (by decide +kernel)) rfl
theorem q_144 : (Cond.methodLink RX2 26 yX2_grownBy) ∈ xALL := wt_0 _ (List.mem_of_getElem? (i := 165) (by decide +kernel)) rfl
theorem q_145 : (Cond.instanceMethod yX2_grownBy) ∈ xALL := wt_0 _ (List.mem_of_getElem? (i := 167) (by decide +kernel)) rfl
theorem q_146 : (Cond.selects RX2 yX2_grownBy yX2_grownBy) ∈ xALL := wt_s _ (List.mem_of_getElem? (i := 7) (by decide +kernel)) rfl
theorem q_147 : (Cond.code yX2_grownBy cX2_grownBy 3 (some .int)) ∈ xALL := wt_0 _ (List.mem_of_getElem? (i := 168) (by decide +kernel)) rfl
theorem q_148 : (Cond.methodLink RX2 42 yX2_withDigit) ∈ xALL := wt_0 _ (List.mem_of_getElem? (i := 169) (by decide +kernel)) rfl
theorem q_149 : (Cond.instanceMethod yX2_withDigit) ∈ xALL := wt_0 _ (List.mem_of_getElem? (i := 171) (by decide +kernel)) rfl
theorem q_150 : (Cond.selects RX2 yX2_withDigit yX2_withDigit) ∈ xALL := wt_s _ (List.mem_of_getElem? (i := 8) (by decide +kernel)) rfl
theorem q_151 : (Cond.code yX2_withDigit cX2_withDigit 4 (some .int)) ∈ xALL := wt_0 _ (List.mem_of_getElem? (i := 172) (by decide +kernel)) rfl
theorem q_152 : (Cond.methodLink RX2 38 yX2_columnRead) ∈ xALL := wt_0 _ (List.mem_of_getElem? (i := 174) (by decide +kernel)) rfl
theorem q_153 : (Cond.instanceMethod yX2_columnRead) ∈ xALL := wt_0 _ (List.mem_of_getElem? (i := 176) (by decide +kernel)) rfl
theorem q_154 : (Cond.selects RX2 yX2_columnRead yX2_columnRead) ∈ xALL := wt_s _ (List.mem_of_getElem? (i := 9) (by decide +kernel)) rfl
theorem q_155 : (Cond.code yX2_columnRead cX2_columnRead 1 (some .int)) ∈ xALL := wt_0 _ (List.mem_of_getElem? (i := 177) (by decide +kernel)) rfl
theorem q_156 : (Cond.methodLink RX2 30 yX2_separator) ∈ xALL := wt_0 _ (List.mem_of_getElem? (i := 179) (by decide +kernel)) rfl
theorem q_157 : (Cond.instanceMethod yX2_separator) ∈ xALL := wt_0 _ (List.mem_of_getElem? (i := 181) (by decide +kernel)) rfl
theorem q_158 : (Cond.selects RX2 yX2_separator yX2_separator) ∈ xALL := wt_s _ (List.mem_of_getElem? (i := 10) (by decide +kernel)) rfl
theorem q_159 : (Cond.code yX2_separator cX2_separator 1 (some .char)) ∈ xALL := wt_0 _ (List.mem_of_getElem? (i := 182) (by decide +kernel)) rfl
theorem q_160 : (Cond.methodLink RX2 34 yX2_endCell) ∈ xALL := wt_0 _ (List.mem_of_getElem? (i := 183) (by decide +kernel)) rfl
theorem q_161 : (Cond.instanceMethod yX2_endCell) ∈ xALL := wt_0 _ (List.mem_of_getElem? (i := 185) (by decide +kernel)) rfl
theorem q_162 : (Cond.selects RX2 yX2_endCell yX2_endCell) ∈ xALL := wt_s _ (List.mem_of_getElem? (i := 11) (by decide +kernel)) rfl
theorem q_163 : (Cond.code yX2_endCell cX2_endCell 2 none) ∈ xALL := wt_0 _ (List.mem_of_getElem? (i := 186) (by decide +kernel)) rfl
theorem q_164 : (Cond.instanceMethod yX2_rowsRead) ∈ xALL := wt_0 _ (List.mem_of_getElem? (i := 189) (by decide +kernel)) rfl
theorem q_165 : (Cond.selects RX2 yX2_rowsRead yX2_rowsRead) ∈ xALL := wt_s _ (List.mem_of_getElem? (i := 12) (by decide +kernel)) rfl
theorem q_166 : (Cond.code yX2_rowsRead cX2_rowsRead 1 (some .int)) ∈ xALL := wt_0 _ (List.mem_of_getElem? (i := 190) (by decide +kernel)) rfl
theorem q_167 : (Cond.instanceMethod yX2_read) ∈ xALL := wt_0 _ (List.mem_of_getElem? (i := 193) (by decide +kernel)) rfl
theorem q_168 : (Cond.selects RX2 yX2_read yX2_read) ∈ xALL := wt_s _ (List.mem_of_getElem? (i := 13) (by decide +kernel)) rfl
theorem q_169 : (Cond.code yX2_read cX2_read 3 (some .int)) ∈ xALL := wt_0 _ (List.mem_of_getElem? (i := 194) (by decide +kernel)) rfl
theorem q_170 : (Cond.methodLink RL 22 yX4_addRows) ∈ xALL := wt_2 _ (List.mem_of_getElem? (i := 72) (by decide +kernel)) rfl
theorem q_171 : (Cond.instanceMethod yX4_addRows) ∈ xALL := wt_2 _ (List.mem_of_getElem? (i := 73) (by decide +kernel)) rfl
theorem q_172 : (Cond.selects RX4 yX4_addRows yX4_addRows) ∈ xALL := wt_2 _ (List.mem_of_getElem? (i := 74) (by decide +kernel)) rfl
theorem q_173 : (Cond.code yX4_addRows cX4_addRows 3 (some .int)) ∈ xALL := wt_2 _ (List.mem_of_getElem? (i := 75) (by decide +kernel)) rfl
theorem q_174 : (Cond.fieldLink RX4 83 "DittoLogModel" "toldRows" "I") ∈ xALL := wt_2 _ (List.mem_of_getElem? (i := 21) (by decide +kernel)) rfl
theorem q_175 : (Cond.methodLink RX4 79 yX4_fault) ∈ xALL := wt_2 _ (List.mem_of_getElem? (i := 76) (by decide +kernel)) rfl
theorem q_176 : (Cond.instanceMethod yX4_fault) ∈ xALL := wt_2 _ (List.mem_of_getElem? (i := 78) (by decide +kernel)) rfl
theorem q_177 : (Cond.selects RX4 yX4_fault yX4_fault) ∈ xALL := wt_s _ (List.mem_of_getElem? (i := 57) (by decide +kernel)) rfl
theorem q_178 : (Cond.code yX4_fault cX4_fault 2 (some .int)) ∈ xALL := wt_2 _ (List.mem_of_getElem? (i := 79) (by decide +kernel)) rfl
theorem q_179 : (Cond.fieldLink RX4 108 "DittoLogModel" "spot" "I") ∈ xALL := wt_2 _ (List.mem_of_getElem? (i := 19) (by decide +kernel)) rfl
theorem q_180 : (Cond.fieldLink RX4 105 "DittoLogModel" "length" "I") ∈ xALL := wt_2 _ (List.mem_of_getElem? (i := 17) (by decide +kernel)) rfl
theorem q_181 : (Cond.methodLink RX4 120 yX4_isRowNext) ∈ xALL := wt_2 _ (List.mem_of_getElem? (i := 80) (by decide +kernel)) rfl
theorem q_182 : (Cond.instanceMethod yX4_isRowNext) ∈ xALL := wt_2 _ (List.mem_of_getElem? (i := 82) (by decide +kernel)) rfl
theorem q_183 : (Cond.selects RX4 yX4_isRowNext yX4_isRowNext) ∈ xALL := wt_s _ (List.mem_of_getElem? (i := 58) (by decide +kernel)) rfl
theorem q_184 : (Cond.code yX4_isRowNext cX4_isRowNext 2 (some .boolean)) ∈ xALL := wt_2 _ (List.mem_of_getElem? (i := 83) (by decide +kernel)) rfl
theorem q_185 : (Cond.methodLink RX4 117 yX4_isCellNext) ∈ xALL := wt_2 _ (List.mem_of_getElem? (i := 84) (by decide +kernel)) rfl
theorem q_186 : (Cond.instanceMethod yX4_isCellNext) ∈ xALL := wt_2 _ (List.mem_of_getElem? (i := 86) (by decide +kernel)) rfl
theorem q_187 : (Cond.selects RX4 yX4_isCellNext yX4_isCellNext) ∈ xALL := wt_s _ (List.mem_of_getElem? (i := 59) (by decide +kernel)) rfl
theorem q_188 : (Cond.code yX4_isCellNext cX4_isCellNext 4 (some .boolean)) ∈ xALL := wt_2 _ (List.mem_of_getElem? (i := 87) (by decide +kernel)) rfl
theorem q_189 : (Cond.methodLink RX4 114 yX4_takes) ∈ xALL := wt_2 _ (List.mem_of_getElem? (i := 88) (by decide +kernel)) rfl
theorem q_190 : (Cond.instanceMethod yX4_takes) ∈ xALL := wt_2 _ (List.mem_of_getElem? (i := 90) (by decide +kernel)) rfl
theorem q_191 : (Cond.selects RX4 yX4_takes yX4_takes) ∈ xALL := wt_s _ (List.mem_of_getElem? (i := 60) (by decide +kernel)) rfl
theorem q_192 : (Cond.code yX4_takes cX4_takes 3 (some .boolean)) ∈ xALL := wt_2 _ (List.mem_of_getElem? (i := 91) (by decide +kernel)) rfl
theorem q_193 : (Cond.methodLink RX4 111 yX4_sees) ∈ xALL := wt_2 _ (List.mem_of_getElem? (i := 92) (by decide +kernel)) rfl
theorem q_194 : (Cond.instanceMethod yX4_sees) ∈ xALL := wt_2 _ (List.mem_of_getElem? (i := 94) (by decide +kernel)) rfl
theorem q_195 : (Cond.selects RX4 yX4_sees yX4_sees) ∈ xALL := wt_s _ (List.mem_of_getElem? (i := 61) (by decide +kernel)) rfl
theorem q_196 : (Cond.code yX4_sees cX4_sees 3 (some .boolean)) ∈ xALL := wt_2 _ (List.mem_of_getElem? (i := 95) (by decide +kernel)) rfl
theorem q_197 : (Cond.methodLink RL 23 yX3_removeRow) ∈ xALL := wt_0 _ (List.mem_of_getElem? (i := 195) (by decide +kernel)) rfl
theorem q_198 : (Cond.instanceMethod yX3_removeRow) ∈ xALL := wt_0 _ (List.mem_of_getElem? (i := 196) (by decide +kernel)) rfl
theorem q_199 : (Cond.selects RX3 yX3_removeRow yX3_removeRow) ∈ xALL := wt_0 _ (List.mem_of_getElem? (i := 197) (by decide +kernel)) rfl
theorem q_200 : (Cond.code yX3_removeRow cX3_removeRow 1 (some .int)) ∈ xALL := wt_0 _ (List.mem_of_getElem? (i := 198) (by decide +kernel)) rfl
theorem q_201 : (Cond.instanceMethod yX1_dropRow) ∈ xALL := wt_0 _ (List.mem_of_getElem? (i := 201) (by decide +kernel)) rfl
theorem q_202 : (Cond.selects RX1 yX1_dropRow yX1_dropRow) ∈ xALL := wt_s _ (List.mem_of_getElem? (i := 14) (by decide +kernel)) rfl
theorem q_203 : (Cond.code yX1_dropRow cX1_dropRow 1 none) ∈ xALL := wt_0 _ (List.mem_of_getElem? (i := 202) (by decide +kernel)) rfl
theorem q_204 : (Cond.methodLink RL 26 yX4_removeRow) ∈ xALL := wt_2 _ (List.mem_of_getElem? (i := 96) (by decide +kernel)) rfl
theorem q_205 : (Cond.instanceMethod yX4_removeRow) ∈ xALL := wt_2 _ (List.mem_of_getElem? (i := 97) (by decide +kernel)) rfl
theorem q_206 : (Cond.selects RX4 yX4_removeRow yX4_removeRow) ∈ xALL := wt_2 _ (List.mem_of_getElem? (i := 98) (by decide +kernel)) rfl
theorem q_207 : (Cond.code yX4_removeRow cX4_removeRow 1 (some .int)) ∈ xALL := wt_2 _ (List.mem_of_getElem? (i := 99) (by decide +kernel)) rfl
theorem q_208 : (Cond.methodLink RX4 86 yX4_leaves) ∈ xALL := wt_2 _ (List.mem_of_getElem? (i := 100) (by decide +kernel)) rfl
theorem q_209 : (Cond.instanceMethod yX4_leaves) ∈ xALL := wt_2 _ (List.mem_of_getElem? (i := 102) (by decide +kernel)) rfl
theorem q_210 : (Cond.selects RX4 yX4_leaves yX4_leaves) ∈ xALL := wt_s _ (List.mem_of_getElem? (i := 62) (by decide +kernel)) rfl
theorem q_211 : (Cond.code yX4_leaves cX4_leaves 3 none) ∈ xALL := wt_2 _ (List.mem_of_getElem? (i := 103) (by decide +kernel)) rfl
theorem q_212 : (Cond.methodLink RL 27 yX3_correct) ∈ xALL := wt_0 _ (List.mem_of_getElem? (i := 203) (by decide +kernel)) rfl
theorem q_213 : (Cond.instanceMethod yX3_correct) ∈ xALL := wt_0 _ (List.mem_of_getElem? (i := 204) (by decide +kernel)) rfl
theorem q_214 : (Cond.selects RX3 yX3_correct yX3_correct) ∈ xALL := wt_0 _ (List.mem_of_getElem? (i := 205) (by decide +kernel)) rfl
theorem q_215 : (Cond.code yX3_correct cX3_correct 5 (some .int)) ∈ xALL := wt_0 _ (List.mem_of_getElem? (i := 206) (by decide +kernel)) rfl
theorem q_216 : (Cond.instanceMethod yX1_isCell) ∈ xALL := wt_0 _ (List.mem_of_getElem? (i := 209) (by decide +kernel)) rfl
theorem q_217 : (Cond.selects RX1 yX1_isCell yX1_isCell) ∈ xALL := wt_s _ (List.mem_of_getElem? (i := 15) (by decide +kernel)) rfl
theorem q_218 : (Cond.code yX1_isCell cX1_isCell 3 (some .boolean)) ∈ xALL := wt_0 _ (List.mem_of_getElem? (i := 210) (by decide +kernel)) rfl
theorem q_219 : (Cond.methodLink RX1 48 yX1_isRow) ∈ xALL := wt_0 _ (List.mem_of_getElem? (i := 211) (by decide +kernel)) rfl
theorem q_220 : (Cond.instanceMethod yX1_isRow) ∈ xALL := wt_0 _ (List.mem_of_getElem? (i := 213) (by decide +kernel)) rfl
theorem q_221 : (Cond.selects RX1 yX1_isRow yX1_isRow) ∈ xALL := wt_s _ (List.mem_of_getElem? (i := 16) (by decide +kernel)) rfl
theorem q_222 : (Cond.code yX1_isRow cX1_isRow 2 (some .boolean)) ∈ xALL := wt_0 _ (List.mem_of_getElem? (i := 214) (by decide +kernel)) rfl
theorem q_223 : (Cond.static yX3_isColumn) ∈ xALL := wt_0 _ (List.mem_of_getElem? (i := 216) (by decide +kernel)) rfl
theorem q_224 : (Cond.code yX3_isColumn cX3_isColumn 1 (some .boolean)) ∈ xALL := wt_0 _ (List.mem_of_getElem? (i := 217) (by decide +kernel)) rfl
theorem q_225 : (Cond.instanceMethod yX1_entriesOf) ∈ xALL := wt_0 _ (List.mem_of_getElem? (i := 220) (by decide +kernel)) rfl
theorem q_226 : (Cond.selects RX1 yX1_entriesOf yX1_entriesOf) ∈ xALL := wt_s _ (List.mem_of_getElem? (i := 17) (by decide +kernel)) rfl
theorem q_227 : (Cond.code yX1_entriesOf cX1_entriesOf 3 (some .int)) ∈ xALL := wt_0 _ (List.mem_of_getElem? (i := 221) (by decide +kernel)) rfl
theorem q_228 : (Cond.instanceMethod yX1_latestOf) ∈ xALL := wt_0 _ (List.mem_of_getElem? (i := 225) (by decide +kernel)) rfl
theorem q_229 : (Cond.selects RX1 yX1_latestOf yX1_latestOf) ∈ xALL := wt_s _ (List.mem_of_getElem? (i := 18) (by decide +kernel)) rfl
theorem q_230 : (Cond.code yX1_latestOf cX1_latestOf 5 (some .int)) ∈ xALL := wt_0 _ (List.mem_of_getElem? (i := 226) (by decide +kernel)) rfl
theorem q_231 : (Cond.instanceMethod yX1_changedBy) ∈ xALL := wt_0 _ (List.mem_of_getElem? (i := 229) (by decide +kernel)) rfl
theorem q_232 : (Cond.selects RX1 yX1_changedBy yX1_changedBy) ∈ xALL := wt_s _ (List.mem_of_getElem? (i := 19) (by decide +kernel)) rfl
theorem q_233 : (Cond.code yX1_changedBy cX1_changedBy 4 (some .int)) ∈ xALL := wt_0 _ (List.mem_of_getElem? (i := 230) (by decide +kernel)) rfl
theorem q_234 : (Cond.methodLink RX1 82 yX1_meaningWith) ∈ xALL := wt_0 _ (List.mem_of_getElem? (i := 231) (by decide +kernel)) rfl
theorem q_235 : (Cond.instanceMethod yX1_meaningWith) ∈ xALL := wt_0 _ (List.mem_of_getElem? (i := 233) (by decide +kernel)) rfl
theorem q_236 : (Cond.selects RX1 yX1_meaningWith yX1_meaningWith) ∈ xALL := wt_s _ (List.mem_of_getElem? (i := 20) (by decide +kernel)) rfl
theorem q_237 : (Cond.code yX1_meaningWith cX1_meaningWith 4 (some .int)) ∈ xALL := wt_0 _ (List.mem_of_getElem? (i := 234) (by decide +kernel)) rfl
theorem q_238 : (Cond.methodLink RX1 66 yX1_hasAbove) ∈ xALL := wt_0 _ (List.mem_of_getElem? (i := 235) (by decide +kernel)) rfl
theorem q_239 : (Cond.instanceMethod yX1_hasAbove) ∈ xALL := wt_0 _ (List.mem_of_getElem? (i := 237) (by decide +kernel)) rfl
theorem q_240 : (Cond.selects RX1 yX1_hasAbove yX1_hasAbove) ∈ xALL := wt_s _ (List.mem_of_getElem? (i := 21) (by decide +kernel)) rfl
theorem q_241 : (Cond.code yX1_hasAbove cX1_hasAbove 2 (some .boolean)) ∈ xALL := wt_0 _ (List.mem_of_getElem? (i := 238) (by decide +kernel)) rfl
theorem q_242 : (Cond.methodLink RX1 79 yX1_meaningOf) ∈ xALL := wt_0 _ (List.mem_of_getElem? (i := 239) (by decide +kernel)) rfl
theorem q_243 : (Cond.instanceMethod yX1_meaningOf) ∈ xALL := wt_1 _ (List.mem_of_getElem? (i := 1) (by decide +kernel)) rfl
theorem q_244 : (Cond.selects RX1 yX1_meaningOf yX1_meaningOf) ∈ xALL := wt_s _ (List.mem_of_getElem? (i := 22) (by decide +kernel)) rfl
theorem q_245 : (Cond.code yX1_meaningOf cX1_meaningOf 4 (some .int)) ∈ xALL := wt_1 _ (List.mem_of_getElem? (i := 2) (by decide +kernel)) rfl
theorem q_246 : (Cond.methodLink RX1 73 yX1_topOfChain) ∈ xALL := wt_1 _ (List.mem_of_getElem? (i := 3) (by decide +kernel)) rfl
theorem q_247 : (Cond.instanceMethod yX1_topOfChain) ∈ xALL := wt_1 _ (List.mem_of_getElem? (i := 5) (by decide +kernel)) rfl
theorem q_248 : (Cond.selects RX1 yX1_topOfChain yX1_topOfChain) ∈ xALL := wt_s _ (List.mem_of_getElem? (i := 23) (by decide +kernel)) rfl
theorem q_249 : (Cond.code yX1_topOfChain cX1_topOfChain 4 (some .int)) ∈ xALL := wt_1 _ (List.mem_of_getElem? (i := 6) (by decide +kernel)) rfl
theorem q_250 : (Cond.methodLink RX1 69 yX1_leansUp) ∈ xALL := wt_1 _ (List.mem_of_getElem? (i := 7) (by decide +kernel)) rfl
theorem q_251 : (Cond.instanceMethod yX1_leansUp) ∈ xALL := wt_1 _ (List.mem_of_getElem? (i := 9) (by decide +kernel)) rfl
theorem q_252 : (Cond.selects RX1 yX1_leansUp yX1_leansUp) ∈ xALL := wt_s _ (List.mem_of_getElem? (i := 24) (by decide +kernel)) rfl
theorem q_253 : (Cond.code yX1_leansUp cX1_leansUp 3 (some .boolean)) ∈ xALL := wt_1 _ (List.mem_of_getElem? (i := 10) (by decide +kernel)) rfl
theorem q_254 : (Cond.methodLink RX1 62 yX1_latestOf) ∈ xALL := wt_1 _ (List.mem_of_getElem? (i := 11) (by decide +kernel)) rfl
theorem q_255 : (Cond.methodLink RX1 86 yX1_followersOf) ∈ xALL := wt_1 _ (List.mem_of_getElem? (i := 12) (by decide +kernel)) rfl
theorem q_256 : (Cond.instanceMethod yX1_followersOf) ∈ xALL := wt_1 _ (List.mem_of_getElem? (i := 14) (by decide +kernel)) rfl
theorem q_257 : (Cond.selects RX1 yX1_followersOf yX1_followersOf) ∈ xALL := wt_s _ (List.mem_of_getElem? (i := 25) (by decide +kernel)) rfl
theorem q_258 : (Cond.code yX1_followersOf cX1_followersOf 4 (some .int)) ∈ xALL := wt_1 _ (List.mem_of_getElem? (i := 15) (by decide +kernel)) rfl
theorem q_259 : (Cond.methodLink RL 31 yX4_correct) ∈ xALL := wt_2 _ (List.mem_of_getElem? (i := 104) (by decide +kernel)) rfl
theorem q_260 : (Cond.instanceMethod yX4_correct) ∈ xALL := wt_2 _ (List.mem_of_getElem? (i := 105) (by decide +kernel)) rfl
theorem q_261 : (Cond.selects RX4 yX4_correct yX4_correct) ∈ xALL := wt_2 _ (List.mem_of_getElem? (i := 106) (by decide +kernel)) rfl
theorem q_262 : (Cond.code yX4_correct cX4_correct 5 (some .int)) ∈ xALL := wt_2 _ (List.mem_of_getElem? (i := 107) (by decide +kernel)) rfl
theorem q_263 : (Cond.methodLink RX4 93 yX4_isCell) ∈ xALL := wt_2 _ (List.mem_of_getElem? (i := 108) (by decide +kernel)) rfl
theorem q_264 : (Cond.instanceMethod yX4_isCell) ∈ xALL := wt_2 _ (List.mem_of_getElem? (i := 110) (by decide +kernel)) rfl
theorem q_265 : (Cond.selects RX4 yX4_isCell yX4_isCell) ∈ xALL := wt_s _ (List.mem_of_getElem? (i := 63) (by decide +kernel)) rfl
theorem q_266 : (Cond.code yX4_isCell cX4_isCell 3 (some .boolean)) ∈ xALL := wt_2 _ (List.mem_of_getElem? (i := 111) (by decide +kernel)) rfl
theorem q_267 : (Cond.methodLink RX4 41 yX4_isRow) ∈ xALL := wt_2 _ (List.mem_of_getElem? (i := 112) (by decide +kernel)) rfl
theorem q_268 : (Cond.instanceMethod yX4_isRow) ∈ xALL := wt_2 _ (List.mem_of_getElem? (i := 114) (by decide +kernel)) rfl
theorem q_269 : (Cond.selects RX4 yX4_isRow yX4_isRow) ∈ xALL := wt_s _ (List.mem_of_getElem? (i := 64) (by decide +kernel)) rfl
theorem q_270 : (Cond.code yX4_isRow cX4_isRow 2 (some .boolean)) ∈ xALL := wt_2 _ (List.mem_of_getElem? (i := 115) (by decide +kernel)) rfl
theorem q_271 : (Cond.methodLink RX4 45 yX4_isColumn) ∈ xALL := wt_2 _ (List.mem_of_getElem? (i := 116) (by decide +kernel)) rfl
theorem q_272 : (Cond.static yX4_isColumn) ∈ xALL := wt_2 _ (List.mem_of_getElem? (i := 117) (by decide +kernel)) rfl
theorem q_273 : (Cond.code yX4_isColumn cX4_isColumn 1 (some .boolean)) ∈ xALL := wt_2 _ (List.mem_of_getElem? (i := 118) (by decide +kernel)) rfl
theorem q_274 : (Cond.methodLink RX4 56 yX4_entries) ∈ xALL := wt_2 _ (List.mem_of_getElem? (i := 119) (by decide +kernel)) rfl
theorem q_275 : (Cond.instanceMethod yX4_entries) ∈ xALL := wt_2 _ (List.mem_of_getElem? (i := 121) (by decide +kernel)) rfl
theorem q_276 : (Cond.selects RX4 yX4_entries yX4_entries) ∈ xALL := wt_s _ (List.mem_of_getElem? (i := 65) (by decide +kernel)) rfl
theorem q_277 : (Cond.code yX4_entries cX4_entries 3 (some .int)) ∈ xALL := wt_2 _ (List.mem_of_getElem? (i := 122) (by decide +kernel)) rfl
theorem q_278 : (Cond.methodLink RX4 59 yX4_latest) ∈ xALL := wt_2 _ (List.mem_of_getElem? (i := 123) (by decide +kernel)) rfl
theorem q_279 : (Cond.instanceMethod yX4_latest) ∈ xALL := wt_2 _ (List.mem_of_getElem? (i := 125) (by decide +kernel)) rfl
theorem q_280 : (Cond.selects RX4 yX4_latest yX4_latest) ∈ xALL := wt_s _ (List.mem_of_getElem? (i := 66) (by decide +kernel)) rfl
theorem q_281 : (Cond.code yX4_latest cX4_latest 3 (some .int)) ∈ xALL := wt_2 _ (List.mem_of_getElem? (i := 126) (by decide +kernel)) rfl
theorem q_282 : (Cond.methodLink RX4 96 yX4_laysMeant) ∈ xALL := wt_2 _ (List.mem_of_getElem? (i := 127) (by decide +kernel)) rfl
theorem q_283 : (Cond.instanceMethod yX4_laysMeant) ∈ xALL := wt_2 _ (List.mem_of_getElem? (i := 129) (by decide +kernel)) rfl
theorem q_284 : (Cond.selects RX4 yX4_laysMeant yX4_laysMeant) ∈ xALL := wt_s _ (List.mem_of_getElem? (i := 67) (by decide +kernel)) rfl
theorem q_285 : (Cond.code yX4_laysMeant cX4_laysMeant 3 none) ∈ xALL := wt_2 _ (List.mem_of_getElem? (i := 130) (by decide +kernel)) rfl
theorem q_286 : (Cond.methodLink RX4 90 yX4_means) ∈ xALL := wt_2 _ (List.mem_of_getElem? (i := 131) (by decide +kernel)) rfl
theorem q_287 : (Cond.instanceMethod yX4_means) ∈ xALL := wt_2 _ (List.mem_of_getElem? (i := 133) (by decide +kernel)) rfl
theorem q_288 : (Cond.selects RX4 yX4_means yX4_means) ∈ xALL := wt_s _ (List.mem_of_getElem? (i := 68) (by decide +kernel)) rfl
theorem q_289 : (Cond.code yX4_means cX4_means 4 (some .int)) ∈ xALL := wt_2 _ (List.mem_of_getElem? (i := 134) (by decide +kernel)) rfl
theorem q_290 : (Cond.methodLink RX4 66 yX4_end) ∈ xALL := wt_2 _ (List.mem_of_getElem? (i := 135) (by decide +kernel)) rfl
theorem q_291 : (Cond.instanceMethod yX4_end) ∈ xALL := wt_2 _ (List.mem_of_getElem? (i := 137) (by decide +kernel)) rfl
theorem q_292 : (Cond.selects RX4 yX4_end yX4_end) ∈ xALL := wt_s _ (List.mem_of_getElem? (i := 69) (by decide +kernel)) rfl
theorem q_293 : (Cond.code yX4_end cX4_end 4 (some .int)) ∈ xALL := wt_2 _ (List.mem_of_getElem? (i := 138) (by decide +kernel)) rfl
theorem q_294 : (Cond.methodLink RX4 62 yX4_goesUp) ∈ xALL := wt_2 _ (List.mem_of_getElem? (i := 139) (by decide +kernel)) rfl
theorem q_295 : (Cond.instanceMethod yX4_goesUp) ∈ xALL := wt_2 _ (List.mem_of_getElem? (i := 141) (by decide +kernel)) rfl
theorem q_296 : (Cond.selects RX4 yX4_goesUp yX4_goesUp) ∈ xALL := wt_s _ (List.mem_of_getElem? (i := 70) (by decide +kernel)) rfl
theorem q_297 : (Cond.code yX4_goesUp cX4_goesUp 4 (some .boolean)) ∈ xALL := wt_2 _ (List.mem_of_getElem? (i := 142) (by decide +kernel)) rfl
theorem q_298 : (Cond.methodLink RX4 99 yX4_others) ∈ xALL := wt_2 _ (List.mem_of_getElem? (i := 143) (by decide +kernel)) rfl
theorem q_299 : (Cond.instanceMethod yX4_others) ∈ xALL := wt_2 _ (List.mem_of_getElem? (i := 145) (by decide +kernel)) rfl
theorem q_300 : (Cond.selects RX4 yX4_others yX4_others) ∈ xALL := wt_s _ (List.mem_of_getElem? (i := 71) (by decide +kernel)) rfl
theorem q_301 : (Cond.code yX4_others cX4_others 4 (some .int)) ∈ xALL := wt_2 _ (List.mem_of_getElem? (i := 146) (by decide +kernel)) rfl
theorem q_302 : (Cond.methodLink RL 32 yX3_takeBack) ∈ xALL := wt_1 _ (List.mem_of_getElem? (i := 17) (by decide +kernel)) rfl
theorem q_303 : (Cond.instanceMethod yX3_takeBack) ∈ xALL := wt_1 _ (List.mem_of_getElem? (i := 18) (by decide +kernel)) rfl
theorem q_304 : (Cond.selects RX3 yX3_takeBack yX3_takeBack) ∈ xALL := wt_1 _ (List.mem_of_getElem? (i := 19) (by decide +kernel)) rfl
theorem q_305 : (Cond.code yX3_takeBack cX3_takeBack 5 (some .int)) ∈ xALL := wt_1 _ (List.mem_of_getElem? (i := 20) (by decide +kernel)) rfl
theorem q_306 : (Cond.instanceMethod yX1_entryOf) ∈ xALL := wt_1 _ (List.mem_of_getElem? (i := 23) (by decide +kernel)) rfl
theorem q_307 : (Cond.selects RX1 yX1_entryOf yX1_entryOf) ∈ xALL := wt_s _ (List.mem_of_getElem? (i := 26) (by decide +kernel)) rfl
theorem q_308 : (Cond.code yX1_entryOf cX1_entryOf 4 (some .int)) ∈ xALL := wt_1 _ (List.mem_of_getElem? (i := 24) (by decide +kernel)) rfl
theorem q_309 : (Cond.instanceMethod yX1_popEntry) ∈ xALL := wt_1 _ (List.mem_of_getElem? (i := 27) (by decide +kernel)) rfl
theorem q_310 : (Cond.selects RX1 yX1_popEntry yX1_popEntry) ∈ xALL := wt_s _ (List.mem_of_getElem? (i := 27) (by decide +kernel)) rfl
theorem q_311 : (Cond.code yX1_popEntry cX1_popEntry 4 none) ∈ xALL := wt_1 _ (List.mem_of_getElem? (i := 28) (by decide +kernel)) rfl
theorem q_312 : (Cond.methodLink RL 36 yX4_takeBack) ∈ xALL := wt_2 _ (List.mem_of_getElem? (i := 147) (by decide +kernel)) rfl
theorem q_313 : (Cond.instanceMethod yX4_takeBack) ∈ xALL := wt_2 _ (List.mem_of_getElem? (i := 148) (by decide +kernel)) rfl
theorem q_314 : (Cond.selects RX4 yX4_takeBack yX4_takeBack) ∈ xALL := wt_2 _ (List.mem_of_getElem? (i := 149) (by decide +kernel)) rfl
theorem q_315 : (Cond.code yX4_takeBack cX4_takeBack 4 (some .int)) ∈ xALL := wt_2 _ (List.mem_of_getElem? (i := 150) (by decide +kernel)) rfl
theorem q_316 : (Cond.methodLink RL 37 yX3_claim) ∈ xALL := wt_1 _ (List.mem_of_getElem? (i := 29) (by decide +kernel)) rfl
theorem q_317 : (Cond.instanceMethod yX3_claim) ∈ xALL := wt_1 _ (List.mem_of_getElem? (i := 30) (by decide +kernel)) rfl
theorem q_318 : (Cond.selects RX3 yX3_claim yX3_claim) ∈ xALL := wt_1 _ (List.mem_of_getElem? (i := 31) (by decide +kernel)) rfl
theorem q_319 : (Cond.code yX3_claim cX3_claim 4 (some .int)) ∈ xALL := wt_1 _ (List.mem_of_getElem? (i := 32) (by decide +kernel)) rfl
theorem q_320 : (Cond.instanceMethod yX1_sumOf) ∈ xALL := wt_1 _ (List.mem_of_getElem? (i := 35) (by decide +kernel)) rfl
theorem q_321 : (Cond.selects RX1 yX1_sumOf yX1_sumOf) ∈ xALL := wt_s _ (List.mem_of_getElem? (i := 28) (by decide +kernel)) rfl
theorem q_322 : (Cond.code yX1_sumOf cX1_sumOf 2 (some .int)) ∈ xALL := wt_1 _ (List.mem_of_getElem? (i := 36) (by decide +kernel)) rfl
theorem q_323 : (Cond.instanceMethod yX1_writeSum) ∈ xALL := wt_1 _ (List.mem_of_getElem? (i := 39) (by decide +kernel)) rfl
theorem q_324 : (Cond.selects RX1 yX1_writeSum yX1_writeSum) ∈ xALL := wt_s _ (List.mem_of_getElem? (i := 29) (by decide +kernel)) rfl
theorem q_325 : (Cond.code yX1_writeSum cX1_writeSum 3 none) ∈ xALL := wt_1 _ (List.mem_of_getElem? (i := 40) (by decide +kernel)) rfl
theorem q_326 : (Cond.methodLink RL 40 yX4_claim) ∈ xALL := wt_2 _ (List.mem_of_getElem? (i := 151) (by decide +kernel)) rfl
theorem q_327 : (Cond.instanceMethod yX4_claim) ∈ xALL := wt_2 _ (List.mem_of_getElem? (i := 152) (by decide +kernel)) rfl
theorem q_328 : (Cond.selects RX4 yX4_claim yX4_claim) ∈ xALL := wt_2 _ (List.mem_of_getElem? (i := 153) (by decide +kernel)) rfl
theorem q_329 : (Cond.code yX4_claim cX4_claim 4 (some .int)) ∈ xALL := wt_2 _ (List.mem_of_getElem? (i := 154) (by decide +kernel)) rfl
theorem q_330 : (Cond.methodLink RL 41 yX3_set) ∈ xALL := wt_1 _ (List.mem_of_getElem? (i := 41) (by decide +kernel)) rfl
theorem q_331 : (Cond.instanceMethod yX3_set) ∈ xALL := wt_1 _ (List.mem_of_getElem? (i := 42) (by decide +kernel)) rfl
theorem q_332 : (Cond.selects RX3 yX3_set yX3_set) ∈ xALL := wt_1 _ (List.mem_of_getElem? (i := 43) (by decide +kernel)) rfl
theorem q_333 : (Cond.code yX3_set cX3_set 4 (some .int)) ∈ xALL := wt_1 _ (List.mem_of_getElem? (i := 44) (by decide +kernel)) rfl
theorem q_334 : (Cond.fieldLink RX3 102 "DittoLog" "SETTING_MIN" "[I") ∈ xALL := wt_1 _ (List.mem_of_getElem? (i := 45) (by decide +kernel)) rfl
theorem q_335 : (Cond.fieldLink RX3 109 "DittoLog" "SETTING_MAX" "[I") ∈ xALL := wt_1 _ (List.mem_of_getElem? (i := 47) (by decide +kernel)) rfl
theorem q_336 : (Cond.instanceMethod yX1_settingOf) ∈ xALL := wt_1 _ (List.mem_of_getElem? (i := 51) (by decide +kernel)) rfl
theorem q_337 : (Cond.selects RX1 yX1_settingOf yX1_settingOf) ∈ xALL := wt_s _ (List.mem_of_getElem? (i := 30) (by decide +kernel)) rfl
theorem q_338 : (Cond.code yX1_settingOf cX1_settingOf 2 (some .int)) ∈ xALL := wt_1 _ (List.mem_of_getElem? (i := 52) (by decide +kernel)) rfl
theorem q_339 : (Cond.instanceMethod yX1_changeSetting) ∈ xALL := wt_1 _ (List.mem_of_getElem? (i := 55) (by decide +kernel)) rfl
theorem q_340 : (Cond.selects RX1 yX1_changeSetting yX1_changeSetting) ∈ xALL := wt_s _ (List.mem_of_getElem? (i := 31) (by decide +kernel)) rfl
theorem q_341 : (Cond.code yX1_changeSetting cX1_changeSetting 3 none) ∈ xALL := wt_1 _ (List.mem_of_getElem? (i := 56) (by decide +kernel)) rfl
theorem q_342 : (Cond.methodLink RL 44 yX4_set) ∈ xALL := wt_2 _ (List.mem_of_getElem? (i := 155) (by decide +kernel)) rfl
theorem q_343 : (Cond.instanceMethod yX4_set) ∈ xALL := wt_2 _ (List.mem_of_getElem? (i := 156) (by decide +kernel)) rfl
theorem q_344 : (Cond.selects RX4 yX4_set yX4_set) ∈ xALL := wt_2 _ (List.mem_of_getElem? (i := 157) (by decide +kernel)) rfl
theorem q_345 : (Cond.code yX4_set cX4_set 4 (some .int)) ∈ xALL := wt_2 _ (List.mem_of_getElem? (i := 158) (by decide +kernel)) rfl
theorem q_346 : (Cond.methodLink RX4 102 yX4_isSetting) ∈ xALL := wt_2 _ (List.mem_of_getElem? (i := 159) (by decide +kernel)) rfl
theorem q_347 : (Cond.static yX4_isSetting) ∈ xALL := wt_2 _ (List.mem_of_getElem? (i := 160) (by decide +kernel)) rfl
theorem q_348 : (Cond.code yX4_isSetting cX4_isSetting 2 (some .boolean)) ∈ xALL := wt_2 _ (List.mem_of_getElem? (i := 161) (by decide +kernel)) rfl
theorem q_349 : (Cond.methodLink RL 45 yX3_type) ∈ xALL := wt_1 _ (List.mem_of_getElem? (i := 57) (by decide +kernel)) rfl
theorem q_350 : (Cond.instanceMethod yX3_type) ∈ xALL := wt_1 _ (List.mem_of_getElem? (i := 58) (by decide +kernel)) rfl
theorem q_351 : (Cond.selects RX3 yX3_type yX3_type) ∈ xALL := wt_1 _ (List.mem_of_getElem? (i := 59) (by decide +kernel)) rfl
theorem q_352 : (Cond.code yX3_type cX3_type 2 (some .int)) ∈ xALL := wt_1 _ (List.mem_of_getElem? (i := 60) (by decide +kernel)) rfl
theorem q_353 : (Cond.instanceMethod yX2_append) ∈ xALL := wt_1 _ (List.mem_of_getElem? (i := 63) (by decide +kernel)) rfl
theorem q_354 : (Cond.selects RX2 yX2_append yX2_append) ∈ xALL := wt_s _ (List.mem_of_getElem? (i := 32) (by decide +kernel)) rfl
theorem q_355 : (Cond.code yX2_append cX2_append 2 (some .boolean)) ∈ xALL := wt_1 _ (List.mem_of_getElem? (i := 64) (by decide +kernel)) rfl
theorem q_356 : (Cond.methodLink RL 49 yX4_type) ∈ xALL := wt_2 _ (List.mem_of_getElem? (i := 162) (by decide +kernel)) rfl
theorem q_357 : (Cond.instanceMethod yX4_type) ∈ xALL := wt_2 _ (List.mem_of_getElem? (i := 163) (by decide +kernel)) rfl
theorem q_358 : (Cond.selects RX4 yX4_type yX4_type) ∈ xALL := wt_2 _ (List.mem_of_getElem? (i := 164) (by decide +kernel)) rfl
theorem q_359 : (Cond.code yX4_type cX4_type 2 (some .int)) ∈ xALL := wt_2 _ (List.mem_of_getElem? (i := 165) (by decide +kernel)) rfl
theorem q_360 : (Cond.methodLink RL 50 yX3_clearText) ∈ xALL := wt_1 _ (List.mem_of_getElem? (i := 65) (by decide +kernel)) rfl
theorem q_361 : (Cond.instanceMethod yX3_clearText) ∈ xALL := wt_1 _ (List.mem_of_getElem? (i := 66) (by decide +kernel)) rfl
theorem q_362 : (Cond.selects RX3 yX3_clearText yX3_clearText) ∈ xALL := wt_1 _ (List.mem_of_getElem? (i := 67) (by decide +kernel)) rfl
theorem q_363 : (Cond.code yX3_clearText cX3_clearText 2 (some .int)) ∈ xALL := wt_1 _ (List.mem_of_getElem? (i := 68) (by decide +kernel)) rfl
theorem q_364 : (Cond.methodLink RL 53 yX4_clearText) ∈ xALL := wt_2 _ (List.mem_of_getElem? (i := 166) (by decide +kernel)) rfl
theorem q_365 : (Cond.instanceMethod yX4_clearText) ∈ xALL := wt_2 _ (List.mem_of_getElem? (i := 167) (by decide +kernel)) rfl
theorem q_366 : (Cond.selects RX4 yX4_clearText yX4_clearText) ∈ xALL := wt_2 _ (List.mem_of_getElem? (i := 168) (by decide +kernel)) rfl
theorem q_367 : (Cond.code yX4_clearText cX4_clearText 2 (some .int)) ∈ xALL := wt_2 _ (List.mem_of_getElem? (i := 169) (by decide +kernel)) rfl
theorem q_368 : (Cond.methodLink RL 54 yX3_undo) ∈ xALL := wt_1 _ (List.mem_of_getElem? (i := 69) (by decide +kernel)) rfl
theorem q_369 : (Cond.instanceMethod yX3_undo) ∈ xALL := wt_1 _ (List.mem_of_getElem? (i := 70) (by decide +kernel)) rfl
theorem q_370 : (Cond.selects RX3 yX3_undo yX3_undo) ∈ xALL := wt_1 _ (List.mem_of_getElem? (i := 71) (by decide +kernel)) rfl
theorem q_371 : (Cond.code yX3_undo cX3_undo 1 (some .int)) ∈ xALL := wt_1 _ (List.mem_of_getElem? (i := 72) (by decide +kernel)) rfl
theorem q_372 : (Cond.instanceMethod yX0_takeInto) ∈ xALL := wt_1 _ (List.mem_of_getElem? (i := 75) (by decide +kernel)) rfl
theorem q_373 : (Cond.selects RX0 yX0_takeInto yX0_takeInto) ∈ xALL := wt_s _ (List.mem_of_getElem? (i := 33) (by decide +kernel)) rfl
theorem q_374 : (Cond.code yX0_takeInto cX0_takeInto 3 (some .boolean)) ∈ xALL := wt_1 _ (List.mem_of_getElem? (i := 76) (by decide +kernel)) rfl
theorem q_375 : (Cond.methodLink RL 57 yX4_undo) ∈ xALL := wt_2 _ (List.mem_of_getElem? (i := 170) (by decide +kernel)) rfl
theorem q_376 : (Cond.instanceMethod yX4_undo) ∈ xALL := wt_2 _ (List.mem_of_getElem? (i := 171) (by decide +kernel)) rfl
theorem q_377 : (Cond.selects RX4 yX4_undo yX4_undo) ∈ xALL := wt_2 _ (List.mem_of_getElem? (i := 172) (by decide +kernel)) rfl
theorem q_378 : (Cond.code yX4_undo cX4_undo 1 (some .int)) ∈ xALL := wt_2 _ (List.mem_of_getElem? (i := 173) (by decide +kernel)) rfl
theorem q_379 : (Cond.methodLink RL 58 yX3_keep) ∈ xALL := wt_1 _ (List.mem_of_getElem? (i := 77) (by decide +kernel)) rfl
theorem q_380 : (Cond.instanceMethod yX3_keep) ∈ xALL := wt_1 _ (List.mem_of_getElem? (i := 78) (by decide +kernel)) rfl
theorem q_381 : (Cond.selects RX3 yX3_keep yX3_keep) ∈ xALL := wt_1 _ (List.mem_of_getElem? (i := 79) (by decide +kernel)) rfl
theorem q_382 : (Cond.code yX3_keep cX3_keep 1 (some .int)) ∈ xALL := wt_1 _ (List.mem_of_getElem? (i := 80) (by decide +kernel)) rfl
theorem q_383 : (Cond.methodLink RL 61 yX4_keep) ∈ xALL := wt_2 _ (List.mem_of_getElem? (i := 174) (by decide +kernel)) rfl
theorem q_384 : (Cond.instanceMethod yX4_keep) ∈ xALL := wt_2 _ (List.mem_of_getElem? (i := 175) (by decide +kernel)) rfl
theorem q_385 : (Cond.selects RX4 yX4_keep yX4_keep) ∈ xALL := wt_2 _ (List.mem_of_getElem? (i := 176) (by decide +kernel)) rfl
theorem q_386 : (Cond.code yX4_keep cX4_keep 1 (some .int)) ∈ xALL := wt_2 _ (List.mem_of_getElem? (i := 177) (by decide +kernel)) rfl
theorem q_387 : (Cond.fieldLink RX4 124 "DittoLogModel" "isKept" "Z") ∈ xALL := wt_2 _ (List.mem_of_getElem? (i := 15) (by decide +kernel)) rfl
theorem q_388 : (Cond.methodLink RL 62 yX3_restore) ∈ xALL := wt_1 _ (List.mem_of_getElem? (i := 82) (by decide +kernel)) rfl
theorem q_389 : (Cond.instanceMethod yX3_restore) ∈ xALL := wt_1 _ (List.mem_of_getElem? (i := 83) (by decide +kernel)) rfl
theorem q_390 : (Cond.selects RX3 yX3_restore yX3_restore) ∈ xALL := wt_1 _ (List.mem_of_getElem? (i := 84) (by decide +kernel)) rfl
theorem q_391 : (Cond.code yX3_restore cX3_restore 1 (some .int)) ∈ xALL := wt_1 _ (List.mem_of_getElem? (i := 85) (by decide +kernel)) rfl
theorem q_392 : (Cond.methodLink RL 65 yX4_restore) ∈ xALL := wt_2 _ (List.mem_of_getElem? (i := 178) (by decide +kernel)) rfl
theorem q_393 : (Cond.instanceMethod yX4_restore) ∈ xALL := wt_2 _ (List.mem_of_getElem? (i := 179) (by decide +kernel)) rfl
theorem q_394 : (Cond.selects RX4 yX4_restore yX4_restore) ∈ xALL := wt_2 _ (List.mem_of_getElem? (i := 180) (by decide +kernel)) rfl
theorem q_395 : (Cond.code yX4_restore cX4_restore 1 (some .int)) ∈ xALL := wt_2 _ (List.mem_of_getElem? (i := 181) (by decide +kernel)) rfl
theorem q_396 : (Cond.methodLink RL 66 yX3_cell) ∈ xALL := wt_1 _ (List.mem_of_getElem? (i := 86) (by decide +kernel)) rfl
theorem q_397 : (Cond.instanceMethod yX3_cell) ∈ xALL := wt_1 _ (List.mem_of_getElem? (i := 87) (by decide +kernel)) rfl
theorem q_398 : (Cond.selects RX3 yX3_cell yX3_cell) ∈ xALL := wt_1 _ (List.mem_of_getElem? (i := 88) (by decide +kernel)) rfl
theorem q_399 : (Cond.code yX3_cell cX3_cell 4 (some .int)) ∈ xALL := wt_1 _ (List.mem_of_getElem? (i := 89) (by decide +kernel)) rfl
theorem q_400 : (Cond.instanceMethod yX1_sourceOf) ∈ xALL := wt_1 _ (List.mem_of_getElem? (i := 93) (by decide +kernel)) rfl
theorem q_401 : (Cond.selects RX1 yX1_sourceOf yX1_sourceOf) ∈ xALL := wt_s _ (List.mem_of_getElem? (i := 34) (by decide +kernel)) rfl
theorem q_402 : (Cond.code yX1_sourceOf cX1_sourceOf 4 (some .int)) ∈ xALL := wt_1 _ (List.mem_of_getElem? (i := 94) (by decide +kernel)) rfl
theorem q_403 : (Cond.instanceMethod yX1_chainOf) ∈ xALL := wt_1 _ (List.mem_of_getElem? (i := 97) (by decide +kernel)) rfl
theorem q_404 : (Cond.selects RX1 yX1_chainOf yX1_chainOf) ∈ xALL := wt_s _ (List.mem_of_getElem? (i := 35) (by decide +kernel)) rfl
theorem q_405 : (Cond.code yX1_chainOf cX1_chainOf 3 (some .int)) ∈ xALL := wt_1 _ (List.mem_of_getElem? (i := 98) (by decide +kernel)) rfl
theorem q_406 : (Cond.instanceMethod yX1_isDoubtful) ∈ xALL := wt_1 _ (List.mem_of_getElem? (i := 101) (by decide +kernel)) rfl
theorem q_407 : (Cond.selects RX1 yX1_isDoubtful yX1_isDoubtful) ∈ xALL := wt_s _ (List.mem_of_getElem? (i := 36) (by decide +kernel)) rfl
theorem q_408 : (Cond.code yX1_isDoubtful cX1_isDoubtful 5 (some .boolean)) ∈ xALL := wt_1 _ (List.mem_of_getElem? (i := 102) (by decide +kernel)) rfl
theorem q_409 : (Cond.methodLink RX1 76 yX1_entriesOf) ∈ xALL := wt_1 _ (List.mem_of_getElem? (i := 103) (by decide +kernel)) rfl
theorem q_410 : (Cond.methodLink RL 69 yX4_cell) ∈ xALL := wt_2 _ (List.mem_of_getElem? (i := 182) (by decide +kernel)) rfl
theorem q_411 : (Cond.instanceMethod yX4_cell) ∈ xALL := wt_2 _ (List.mem_of_getElem? (i := 183) (by decide +kernel)) rfl
theorem q_412 : (Cond.selects RX4 yX4_cell yX4_cell) ∈ xALL := wt_2 _ (List.mem_of_getElem? (i := 184) (by decide +kernel)) rfl
theorem q_413 : (Cond.code yX4_cell cX4_cell 4 (some .int)) ∈ xALL := wt_2 _ (List.mem_of_getElem? (i := 185) (by decide +kernel)) rfl
theorem q_414 : (Cond.methodLink RX4 128 yX4_source) ∈ xALL := wt_2 _ (List.mem_of_getElem? (i := 186) (by decide +kernel)) rfl
theorem q_415 : (Cond.instanceMethod yX4_source) ∈ xALL := wt_2 _ (List.mem_of_getElem? (i := 188) (by decide +kernel)) rfl
theorem q_416 : (Cond.selects RX4 yX4_source yX4_source) ∈ xALL := wt_s _ (List.mem_of_getElem? (i := 72) (by decide +kernel)) rfl
theorem q_417 : (Cond.code yX4_source cX4_source 4 (some .int)) ∈ xALL := wt_2 _ (List.mem_of_getElem? (i := 189) (by decide +kernel)) rfl
theorem q_418 : (Cond.methodLink RX4 131 yX4_chain) ∈ xALL := wt_2 _ (List.mem_of_getElem? (i := 190) (by decide +kernel)) rfl
theorem q_419 : (Cond.instanceMethod yX4_chain) ∈ xALL := wt_2 _ (List.mem_of_getElem? (i := 192) (by decide +kernel)) rfl
theorem q_420 : (Cond.selects RX4 yX4_chain yX4_chain) ∈ xALL := wt_s _ (List.mem_of_getElem? (i := 73) (by decide +kernel)) rfl
theorem q_421 : (Cond.code yX4_chain cX4_chain 3 (some .int)) ∈ xALL := wt_2 _ (List.mem_of_getElem? (i := 193) (by decide +kernel)) rfl
theorem q_422 : (Cond.methodLink RX4 134 yX4_isDoubtful) ∈ xALL := wt_2 _ (List.mem_of_getElem? (i := 194) (by decide +kernel)) rfl
theorem q_423 : (Cond.instanceMethod yX4_isDoubtful) ∈ xALL := wt_2 _ (List.mem_of_getElem? (i := 196) (by decide +kernel)) rfl
theorem q_424 : (Cond.selects RX4 yX4_isDoubtful yX4_isDoubtful) ∈ xALL := wt_s _ (List.mem_of_getElem? (i := 74) (by decide +kernel)) rfl
theorem q_425 : (Cond.code yX4_isDoubtful cX4_isDoubtful 5 (some .boolean)) ∈ xALL := wt_2 _ (List.mem_of_getElem? (i := 197) (by decide +kernel)) rfl
theorem q_426 : (Cond.methodLink RX4 137 yX4_below) ∈ xALL := wt_2 _ (List.mem_of_getElem? (i := 198) (by decide +kernel)) rfl
theorem q_427 : (Cond.instanceMethod yX4_below) ∈ xALL := wt_2 _ (List.mem_of_getElem? (i := 200) (by decide +kernel)) rfl
theorem q_428 : (Cond.selects RX4 yX4_below yX4_below) ∈ xALL := wt_s _ (List.mem_of_getElem? (i := 75) (by decide +kernel)) rfl
theorem q_429 : (Cond.code yX4_below cX4_below 4 (some .int)) ∈ xALL := wt_2 _ (List.mem_of_getElem? (i := 201) (by decide +kernel)) rfl
theorem q_430 : (Cond.methodLink RL 70 yX3_entry) ∈ xALL := wt_1 _ (List.mem_of_getElem? (i := 105) (by decide +kernel)) rfl
theorem q_431 : (Cond.instanceMethod yX3_entry) ∈ xALL := wt_1 _ (List.mem_of_getElem? (i := 106) (by decide +kernel)) rfl
theorem q_432 : (Cond.selects RX3 yX3_entry yX3_entry) ∈ xALL := wt_1 _ (List.mem_of_getElem? (i := 107) (by decide +kernel)) rfl
theorem q_433 : (Cond.code yX3_entry cX3_entry 4 (some .int)) ∈ xALL := wt_1 _ (List.mem_of_getElem? (i := 108) (by decide +kernel)) rfl
theorem q_434 : (Cond.methodLink RL 73 yX4_entry) ∈ xALL := wt_2 _ (List.mem_of_getElem? (i := 202) (by decide +kernel)) rfl
theorem q_435 : (Cond.instanceMethod yX4_entry) ∈ xALL := wt_2 _ (List.mem_of_getElem? (i := 203) (by decide +kernel)) rfl
theorem q_436 : (Cond.selects RX4 yX4_entry yX4_entry) ∈ xALL := wt_2 _ (List.mem_of_getElem? (i := 204) (by decide +kernel)) rfl
theorem q_437 : (Cond.code yX4_entry cX4_entry 4 (some .int)) ∈ xALL := wt_2 _ (List.mem_of_getElem? (i := 205) (by decide +kernel)) rfl
theorem q_438 : (Cond.methodLink RL 74 yX3_isWritten) ∈ xALL := wt_1 _ (List.mem_of_getElem? (i := 109) (by decide +kernel)) rfl
theorem q_439 : (Cond.instanceMethod yX3_isWritten) ∈ xALL := wt_1 _ (List.mem_of_getElem? (i := 110) (by decide +kernel)) rfl
theorem q_440 : (Cond.selects RX3 yX3_isWritten yX3_isWritten) ∈ xALL := wt_1 _ (List.mem_of_getElem? (i := 111) (by decide +kernel)) rfl
theorem q_441 : (Cond.code yX3_isWritten cX3_isWritten 2 (some .int)) ∈ xALL := wt_1 _ (List.mem_of_getElem? (i := 112) (by decide +kernel)) rfl
theorem q_442 : (Cond.instanceMethod yX1_isWrittenOut) ∈ xALL := wt_1 _ (List.mem_of_getElem? (i := 116) (by decide +kernel)) rfl
theorem q_443 : (Cond.selects RX1 yX1_isWrittenOut yX1_isWrittenOut) ∈ xALL := wt_s _ (List.mem_of_getElem? (i := 37) (by decide +kernel)) rfl
theorem q_444 : (Cond.code yX1_isWrittenOut cX1_isWrittenOut 3 (some .boolean)) ∈ xALL := wt_1 _ (List.mem_of_getElem? (i := 117) (by decide +kernel)) rfl
theorem q_445 : (Cond.methodLink RL 78 yX4_isWritten) ∈ xALL := wt_2 _ (List.mem_of_getElem? (i := 206) (by decide +kernel)) rfl
theorem q_446 : (Cond.instanceMethod yX4_isWritten) ∈ xALL := wt_2 _ (List.mem_of_getElem? (i := 207) (by decide +kernel)) rfl
theorem q_447 : (Cond.selects RX4 yX4_isWritten yX4_isWritten) ∈ xALL := wt_2 _ (List.mem_of_getElem? (i := 208) (by decide +kernel)) rfl
theorem q_448 : (Cond.code yX4_isWritten cX4_isWritten 2 (some .int)) ∈ xALL := wt_2 _ (List.mem_of_getElem? (i := 209) (by decide +kernel)) rfl
theorem q_449 : (Cond.methodLink RX4 140 yX4_written) ∈ xALL := wt_2 _ (List.mem_of_getElem? (i := 210) (by decide +kernel)) rfl
theorem q_450 : (Cond.instanceMethod yX4_written) ∈ xALL := wt_2 _ (List.mem_of_getElem? (i := 212) (by decide +kernel)) rfl
theorem q_451 : (Cond.selects RX4 yX4_written yX4_written) ∈ xALL := wt_s _ (List.mem_of_getElem? (i := 76) (by decide +kernel)) rfl
theorem q_452 : (Cond.code yX4_written cX4_written 4 (some .int)) ∈ xALL := wt_2 _ (List.mem_of_getElem? (i := 213) (by decide +kernel)) rfl
theorem q_453 : (Cond.methodLink RL 79 yX3_column) ∈ xALL := wt_1 _ (List.mem_of_getElem? (i := 118) (by decide +kernel)) rfl
theorem q_454 : (Cond.instanceMethod yX3_column) ∈ xALL := wt_1 _ (List.mem_of_getElem? (i := 119) (by decide +kernel)) rfl
theorem q_455 : (Cond.selects RX3 yX3_column yX3_column) ∈ xALL := wt_1 _ (List.mem_of_getElem? (i := 120) (by decide +kernel)) rfl
theorem q_456 : (Cond.code yX3_column cX3_column 4 (some .int)) ∈ xALL := wt_1 _ (List.mem_of_getElem? (i := 121) (by decide +kernel)) rfl
theorem q_457 : (Cond.methodLink RX3 157 yX3_isColumn) ∈ xALL := wt_1 _ (List.mem_of_getElem? (i := 122) (by decide +kernel)) rfl
theorem q_458 : (Cond.instanceMethod yX1_countLatest) ∈ xALL := wt_1 _ (List.mem_of_getElem? (i := 125) (by decide +kernel)) rfl
theorem q_459 : (Cond.selects RX1 yX1_countLatest yX1_countLatest) ∈ xALL := wt_s _ (List.mem_of_getElem? (i := 38) (by decide +kernel)) rfl
theorem q_460 : (Cond.code yX1_countLatest cX1_countLatest 5 (some .int)) ∈ xALL := wt_1 _ (List.mem_of_getElem? (i := 126) (by decide +kernel)) rfl
theorem q_461 : (Cond.instanceMethod yX1_countCorrections) ∈ xALL := wt_1 _ (List.mem_of_getElem? (i := 129) (by decide +kernel)) rfl
theorem q_462 : (Cond.selects RX1 yX1_countCorrections yX1_countCorrections) ∈ xALL := wt_s _ (List.mem_of_getElem? (i := 39) (by decide +kernel)) rfl
theorem q_463 : (Cond.code yX1_countCorrections cX1_countCorrections 4 (some .int)) ∈ xALL := wt_1 _ (List.mem_of_getElem? (i := 130) (by decide +kernel)) rfl
theorem q_464 : (Cond.instanceMethod yX1_countMeaningless) ∈ xALL := wt_1 _ (List.mem_of_getElem? (i := 133) (by decide +kernel)) rfl
theorem q_465 : (Cond.selects RX1 yX1_countMeaningless yX1_countMeaningless) ∈ xALL := wt_s _ (List.mem_of_getElem? (i := 40) (by decide +kernel)) rfl
theorem q_466 : (Cond.code yX1_countMeaningless cX1_countMeaningless 6 (some .int)) ∈ xALL := wt_1 _ (List.mem_of_getElem? (i := 134) (by decide +kernel)) rfl
theorem q_467 : (Cond.instanceMethod yX1_longestChain) ∈ xALL := wt_1 _ (List.mem_of_getElem? (i := 137) (by decide +kernel)) rfl
theorem q_468 : (Cond.selects RX1 yX1_longestChain yX1_longestChain) ∈ xALL := wt_s _ (List.mem_of_getElem? (i := 41) (by decide +kernel)) rfl
theorem q_469 : (Cond.code yX1_longestChain cX1_longestChain 4 (some .int)) ∈ xALL := wt_1 _ (List.mem_of_getElem? (i := 138) (by decide +kernel)) rfl
theorem q_470 : (Cond.methodLink RX1 95 Lib.Math.max.name) ∈ xALL := wt_1 _ (List.mem_of_getElem? (i := 140) (by decide +kernel)) rfl
theorem q_471 : (Cond.static Lib.Math.max.name) ∈ xALL := wt_1 _ (List.mem_of_getElem? (i := 141) (by decide +kernel)) rfl
theorem q_472 : (Cond.code Lib.Math.max.name Lib.Math.max.code 2 (some .int)) ∈ xALL := wt_1 _ (List.mem_of_getElem? (i := 142) (by decide +kernel)) rfl
theorem q_473 : (Cond.methodLink RX1 92 yX1_chainOf) ∈ xALL := wt_1 _ (List.mem_of_getElem? (i := 139) (by decide +kernel)) rfl
theorem q_474 : (Cond.methodLink RX3 172 yX3_mostMeant) ∈ xALL := wt_1 _ (List.mem_of_getElem? (i := 143) (by decide +kernel)) rfl
theorem q_475 : (Cond.instanceMethod yX3_mostMeant) ∈ xALL := wt_1 _ (List.mem_of_getElem? (i := 145) (by decide +kernel)) rfl
theorem q_476 : (Cond.selects RX3 yX3_mostMeant yX3_mostMeant) ∈ xALL := wt_s _ (List.mem_of_getElem? (i := 42) (by decide +kernel)) rfl
theorem q_477 : (Cond.code yX3_mostMeant cX3_mostMeant 7 (some .int)) ∈ xALL := wt_1 _ (List.mem_of_getElem? (i := 146) (by decide +kernel)) rfl
theorem q_478 : (Cond.methodLink RX3 218 yJ7_fill_53178) ∈ xALL := wt_1 _ (List.mem_of_getElem? (i := 147) (by decide +kernel)) rfl
theorem q_479 : (Cond.instanceMethod yX1_countDoubtful) ∈ xALL := wt_1 _ (List.mem_of_getElem? (i := 150) (by decide +kernel)) rfl
theorem q_480 : (Cond.selects RX1 yX1_countDoubtful yX1_countDoubtful) ∈ xALL := wt_s _ (List.mem_of_getElem? (i := 43) (by decide +kernel)) rfl
theorem q_481 : (Cond.code yX1_countDoubtful cX1_countDoubtful 6 (some .int)) ∈ xALL := wt_1 _ (List.mem_of_getElem? (i := 151) (by decide +kernel)) rfl
theorem q_482 : (Cond.methodLink RX1 89 yX1_isDoubtful) ∈ xALL := wt_1 _ (List.mem_of_getElem? (i := 152) (by decide +kernel)) rfl
theorem q_483 : (Cond.methodLink RL 82 yX4_column) ∈ xALL := wt_2 _ (List.mem_of_getElem? (i := 214) (by decide +kernel)) rfl
theorem q_484 : (Cond.instanceMethod yX4_column) ∈ xALL := wt_2 _ (List.mem_of_getElem? (i := 215) (by decide +kernel)) rfl
theorem q_485 : (Cond.selects RX4 yX4_column yX4_column) ∈ xALL := wt_2 _ (List.mem_of_getElem? (i := 216) (by decide +kernel)) rfl
theorem q_486 : (Cond.code yX4_column cX4_column 4 (some .int)) ∈ xALL := wt_2 _ (List.mem_of_getElem? (i := 217) (by decide +kernel)) rfl
theorem q_487 : (Cond.methodLink RX4 147 yX4_withLatest) ∈ xALL := wt_2 _ (List.mem_of_getElem? (i := 218) (by decide +kernel)) rfl
theorem q_488 : (Cond.instanceMethod yX4_withLatest) ∈ xALL := wt_2 _ (List.mem_of_getElem? (i := 220) (by decide +kernel)) rfl
theorem q_489 : (Cond.selects RX4 yX4_withLatest yX4_withLatest) ∈ xALL := wt_s _ (List.mem_of_getElem? (i := 77) (by decide +kernel)) rfl
theorem q_490 : (Cond.code yX4_withLatest cX4_withLatest 5 (some .int)) ∈ xALL := wt_2 _ (List.mem_of_getElem? (i := 221) (by decide +kernel)) rfl
theorem q_491 : (Cond.methodLink RX4 150 yX4_corrections) ∈ xALL := wt_2 _ (List.mem_of_getElem? (i := 222) (by decide +kernel)) rfl
theorem q_492 : (Cond.instanceMethod yX4_corrections) ∈ xALL := wt_2 _ (List.mem_of_getElem? (i := 224) (by decide +kernel)) rfl
theorem q_493 : (Cond.selects RX4 yX4_corrections yX4_corrections) ∈ xALL := wt_s _ (List.mem_of_getElem? (i := 78) (by decide +kernel)) rfl
theorem q_494 : (Cond.code yX4_corrections cX4_corrections 4 (some .int)) ∈ xALL := wt_2 _ (List.mem_of_getElem? (i := 225) (by decide +kernel)) rfl
theorem q_495 : (Cond.methodLink RX4 143 yX4_meaning) ∈ xALL := wt_2 _ (List.mem_of_getElem? (i := 226) (by decide +kernel)) rfl
theorem q_496 : (Cond.instanceMethod yX4_meaning) ∈ xALL := wt_2 _ (List.mem_of_getElem? (i := 228) (by decide +kernel)) rfl
theorem q_497 : (Cond.selects RX4 yX4_meaning yX4_meaning) ∈ xALL := wt_s _ (List.mem_of_getElem? (i := 79) (by decide +kernel)) rfl
theorem q_498 : (Cond.code yX4_meaning cX4_meaning 7 (some .int)) ∈ xALL := wt_2 _ (List.mem_of_getElem? (i := 229) (by decide +kernel)) rfl
theorem q_499 : (Cond.methodLink RX4 153 yX4_longest) ∈ xALL := wt_2 _ (List.mem_of_getElem? (i := 230) (by decide +kernel)) rfl
theorem q_500 : (Cond.instanceMethod yX4_longest) ∈ xALL := wt_2 _ (List.mem_of_getElem? (i := 232) (by decide +kernel)) rfl
theorem q_501 : (Cond.selects RX4 yX4_longest yX4_longest) ∈ xALL := wt_s _ (List.mem_of_getElem? (i := 80) (by decide +kernel)) rfl
theorem q_502 : (Cond.code yX4_longest cX4_longest 4 (some .int)) ∈ xALL := wt_2 _ (List.mem_of_getElem? (i := 233) (by decide +kernel)) rfl
theorem q_503 : (Cond.methodLink RX4 156 yX4_commonest) ∈ xALL := wt_2 _ (List.mem_of_getElem? (i := 234) (by decide +kernel)) rfl
theorem q_504 : (Cond.instanceMethod yX4_commonest) ∈ xALL := wt_2 _ (List.mem_of_getElem? (i := 236) (by decide +kernel)) rfl
theorem q_505 : (Cond.selects RX4 yX4_commonest yX4_commonest) ∈ xALL := wt_s _ (List.mem_of_getElem? (i := 81) (by decide +kernel)) rfl
theorem q_506 : (Cond.code yX4_commonest cX4_commonest 8 (some .int)) ∈ xALL := wt_2 _ (List.mem_of_getElem? (i := 237) (by decide +kernel)) rfl
theorem q_507 : (Cond.methodLink RX4 160 yX4_doubtful) ∈ xALL := wt_2 _ (List.mem_of_getElem? (i := 238) (by decide +kernel)) rfl
theorem q_508 : (Cond.instanceMethod yX4_doubtful) ∈ xALL := wt_3 _ (List.mem_of_getElem? (i := 0) (by decide +kernel)) rfl
theorem q_509 : (Cond.selects RX4 yX4_doubtful yX4_doubtful) ∈ xALL := wt_s _ (List.mem_of_getElem? (i := 82) (by decide +kernel)) rfl
theorem q_510 : (Cond.code yX4_doubtful cX4_doubtful 6 (some .int)) ∈ xALL := wt_3 _ (List.mem_of_getElem? (i := 1) (by decide +kernel)) rfl
theorem q_511 : (Cond.methodLink RL 83 yX3_watch) ∈ xALL := wt_1 _ (List.mem_of_getElem? (i := 153) (by decide +kernel)) rfl
theorem q_512 : (Cond.instanceMethod yX3_watch) ∈ xALL := wt_1 _ (List.mem_of_getElem? (i := 154) (by decide +kernel)) rfl
theorem q_513 : (Cond.selects RX3 yX3_watch yX3_watch) ∈ xALL := wt_1 _ (List.mem_of_getElem? (i := 155) (by decide +kernel)) rfl
theorem q_514 : (Cond.code yX3_watch cX3_watch 5 (some .int)) ∈ xALL := wt_1 _ (List.mem_of_getElem? (i := 156) (by decide +kernel)) rfl
theorem q_515 : (Cond.instanceMethod yX1_watches) ∈ xALL := wt_1 _ (List.mem_of_getElem? (i := 159) (by decide +kernel)) rfl
theorem q_516 : (Cond.selects RX1 yX1_watches yX1_watches) ∈ xALL := wt_s _ (List.mem_of_getElem? (i := 44) (by decide +kernel)) rfl
theorem q_517 : (Cond.code yX1_watches cX1_watches 1 (some .int)) ∈ xALL := wt_1 _ (List.mem_of_getElem? (i := 160) (by decide +kernel)) rfl
theorem q_518 : (Cond.instanceMethod yX1_firstRowOf) ∈ xALL := wt_1 _ (List.mem_of_getElem? (i := 163) (by decide +kernel)) rfl
theorem q_519 : (Cond.selects RX1 yX1_firstRowOf yX1_firstRowOf) ∈ xALL := wt_s _ (List.mem_of_getElem? (i := 45) (by decide +kernel)) rfl
theorem q_520 : (Cond.code yX1_firstRowOf cX1_firstRowOf 2 (some .int)) ∈ xALL := wt_1 _ (List.mem_of_getElem? (i := 164) (by decide +kernel)) rfl
theorem q_521 : (Cond.instanceMethod yX1_lastRowOf) ∈ xALL := wt_1 _ (List.mem_of_getElem? (i := 167) (by decide +kernel)) rfl
theorem q_522 : (Cond.selects RX1 yX1_lastRowOf yX1_lastRowOf) ∈ xALL := wt_s _ (List.mem_of_getElem? (i := 46) (by decide +kernel)) rfl
theorem q_523 : (Cond.code yX1_lastRowOf cX1_lastRowOf 2 (some .int)) ∈ xALL := wt_1 _ (List.mem_of_getElem? (i := 168) (by decide +kernel)) rfl
theorem q_524 : (Cond.methodLink RX1 103 Lib.Math.min.name) ∈ xALL := wt_1 _ (List.mem_of_getElem? (i := 169) (by decide +kernel)) rfl
theorem q_525 : (Cond.instanceMethod yX1_runOf) ∈ xALL := wt_1 _ (List.mem_of_getElem? (i := 172) (by decide +kernel)) rfl
theorem q_526 : (Cond.selects RX1 yX1_runOf yX1_runOf) ∈ xALL := wt_s _ (List.mem_of_getElem? (i := 47) (by decide +kernel)) rfl
theorem q_527 : (Cond.code yX1_runOf cX1_runOf 5 (some .int)) ∈ xALL := wt_1 _ (List.mem_of_getElem? (i := 173) (by decide +kernel)) rfl
theorem q_528 : (Cond.methodLink RX3 190 yX3_doubtfulCells) ∈ xALL := wt_1 _ (List.mem_of_getElem? (i := 174) (by decide +kernel)) rfl
theorem q_529 : (Cond.instanceMethod yX3_doubtfulCells) ∈ xALL := wt_1 _ (List.mem_of_getElem? (i := 176) (by decide +kernel)) rfl
theorem q_530 : (Cond.selects RX3 yX3_doubtfulCells yX3_doubtfulCells) ∈ xALL := wt_s _ (List.mem_of_getElem? (i := 48) (by decide +kernel)) rfl
theorem q_531 : (Cond.code yX3_doubtfulCells cX3_doubtfulCells 5 (some .int)) ∈ xALL := wt_1 _ (List.mem_of_getElem? (i := 177) (by decide +kernel)) rfl
theorem q_532 : (Cond.methodLink RL 86 yX4_watch) ∈ xALL := wt_3 _ (List.mem_of_getElem? (i := 2) (by decide +kernel)) rfl
theorem q_533 : (Cond.instanceMethod yX4_watch) ∈ xALL := wt_3 _ (List.mem_of_getElem? (i := 3) (by decide +kernel)) rfl
theorem q_534 : (Cond.selects RX4 yX4_watch yX4_watch) ∈ xALL := wt_3 _ (List.mem_of_getElem? (i := 4) (by decide +kernel)) rfl
theorem q_535 : (Cond.code yX4_watch cX4_watch 6 (some .int)) ∈ xALL := wt_3 _ (List.mem_of_getElem? (i := 5) (by decide +kernel)) rfl
theorem q_536 : (Cond.methodLink RX4 163 yX4_watches) ∈ xALL := wt_3 _ (List.mem_of_getElem? (i := 6) (by decide +kernel)) rfl
theorem q_537 : (Cond.instanceMethod yX4_watches) ∈ xALL := wt_3 _ (List.mem_of_getElem? (i := 8) (by decide +kernel)) rfl
theorem q_538 : (Cond.selects RX4 yX4_watches yX4_watches) ∈ xALL := wt_s _ (List.mem_of_getElem? (i := 83) (by decide +kernel)) rfl
theorem q_539 : (Cond.code yX4_watches cX4_watches 1 (some .int)) ∈ xALL := wt_3 _ (List.mem_of_getElem? (i := 9) (by decide +kernel)) rfl
theorem q_540 : (Cond.methodLink RX4 166 yX4_lastOf) ∈ xALL := wt_3 _ (List.mem_of_getElem? (i := 10) (by decide +kernel)) rfl
theorem q_541 : (Cond.instanceMethod yX4_lastOf) ∈ xALL := wt_3 _ (List.mem_of_getElem? (i := 12) (by decide +kernel)) rfl
theorem q_542 : (Cond.selects RX4 yX4_lastOf yX4_lastOf) ∈ xALL := wt_s _ (List.mem_of_getElem? (i := 84) (by decide +kernel)) rfl
theorem q_543 : (Cond.code yX4_lastOf cX4_lastOf 3 (some .int)) ∈ xALL := wt_3 _ (List.mem_of_getElem? (i := 13) (by decide +kernel)) rfl
theorem q_544 : (Cond.methodLink RX4 169 yX4_runOf) ∈ xALL := wt_3 _ (List.mem_of_getElem? (i := 14) (by decide +kernel)) rfl
theorem q_545 : (Cond.instanceMethod yX4_runOf) ∈ xALL := wt_3 _ (List.mem_of_getElem? (i := 16) (by decide +kernel)) rfl
theorem q_546 : (Cond.selects RX4 yX4_runOf yX4_runOf) ∈ xALL := wt_s _ (List.mem_of_getElem? (i := 85) (by decide +kernel)) rfl
theorem q_547 : (Cond.code yX4_runOf cX4_runOf 5 (some .int)) ∈ xALL := wt_3 _ (List.mem_of_getElem? (i := 17) (by decide +kernel)) rfl
theorem q_548 : (Cond.methodLink RX4 172 yX4_inDoubt) ∈ xALL := wt_3 _ (List.mem_of_getElem? (i := 18) (by decide +kernel)) rfl
theorem q_549 : (Cond.instanceMethod yX4_inDoubt) ∈ xALL := wt_3 _ (List.mem_of_getElem? (i := 20) (by decide +kernel)) rfl
theorem q_550 : (Cond.selects RX4 yX4_inDoubt yX4_inDoubt) ∈ xALL := wt_s _ (List.mem_of_getElem? (i := 86) (by decide +kernel)) rfl
theorem q_551 : (Cond.code yX4_inDoubt cX4_inDoubt 5 (some .int)) ∈ xALL := wt_3 _ (List.mem_of_getElem? (i := 21) (by decide +kernel)) rfl
theorem q_552 : (Cond.methodLink RL 87 yX3_run) ∈ xALL := wt_1 _ (List.mem_of_getElem? (i := 178) (by decide +kernel)) rfl
theorem q_553 : (Cond.instanceMethod yX3_run) ∈ xALL := wt_1 _ (List.mem_of_getElem? (i := 179) (by decide +kernel)) rfl
theorem q_554 : (Cond.selects RX3 yX3_run yX3_run) ∈ xALL := wt_1 _ (List.mem_of_getElem? (i := 180) (by decide +kernel)) rfl
theorem q_555 : (Cond.code yX3_run cX3_run 3 (some .int)) ∈ xALL := wt_1 _ (List.mem_of_getElem? (i := 181) (by decide +kernel)) rfl
theorem q_556 : (Cond.methodLink RL 90 yX4_run) ∈ xALL := wt_3 _ (List.mem_of_getElem? (i := 22) (by decide +kernel)) rfl
theorem q_557 : (Cond.instanceMethod yX4_run) ∈ xALL := wt_3 _ (List.mem_of_getElem? (i := 23) (by decide +kernel)) rfl
theorem q_558 : (Cond.selects RX4 yX4_run yX4_run) ∈ xALL := wt_3 _ (List.mem_of_getElem? (i := 24) (by decide +kernel)) rfl
theorem q_559 : (Cond.code yX4_run cX4_run 4 (some .int)) ∈ xALL := wt_3 _ (List.mem_of_getElem? (i := 25) (by decide +kernel)) rfl
theorem q_560 : (Cond.methodLink RX4 175 yX4_mayGo) ∈ xALL := wt_3 _ (List.mem_of_getElem? (i := 26) (by decide +kernel)) rfl
theorem q_561 : (Cond.instanceMethod yX4_mayGo) ∈ xALL := wt_3 _ (List.mem_of_getElem? (i := 28) (by decide +kernel)) rfl
theorem q_562 : (Cond.selects RX4 yX4_mayGo yX4_mayGo) ∈ xALL := wt_s _ (List.mem_of_getElem? (i := 87) (by decide +kernel)) rfl
theorem q_563 : (Cond.code yX4_mayGo cX4_mayGo 3 (some .int)) ∈ xALL := wt_3 _ (List.mem_of_getElem? (i := 29) (by decide +kernel)) rfl
theorem q_564 : (Cond.methodLink RL 91 yX3_north) ∈ xALL := wt_1 _ (List.mem_of_getElem? (i := 182) (by decide +kernel)) rfl
theorem q_565 : (Cond.instanceMethod yX3_north) ∈ xALL := wt_1 _ (List.mem_of_getElem? (i := 183) (by decide +kernel)) rfl
theorem q_566 : (Cond.selects RX3 yX3_north yX3_north) ∈ xALL := wt_1 _ (List.mem_of_getElem? (i := 184) (by decide +kernel)) rfl
theorem q_567 : (Cond.code yX3_north cX3_north 3 (some .double)) ∈ xALL := wt_1 _ (List.mem_of_getElem? (i := 185) (by decide +kernel)) rfl
theorem q_568 : (Cond.constantDouble RX3 200 (13890094659566305280)) ∈ xALL := wt_1 _ (List.mem_of_getElem? (i := 201) (by decide +kernel)) rfl
theorem q_569 : (Cond.instanceMethod yX1_areRows) ∈ xALL := wt_1 _ (List.mem_of_getElem? (i := 188) (by decide +kernel)) rfl
theorem q_570 : (Cond.selects RX1 yX1_areRows yX1_areRows) ∈ xALL := wt_s _ (List.mem_of_getElem? (i := 49) (by decide +kernel)) rfl
theorem q_571 : (Cond.code yX1_areRows cX1_areRows 3 (some .boolean)) ∈ xALL := wt_1 _ (List.mem_of_getElem? (i := 189) (by decide +kernel)) rfl
theorem q_572 : (Cond.instanceMethod yX1_wayOf) ∈ xALL := wt_1 _ (List.mem_of_getElem? (i := 192) (by decide +kernel)) rfl
theorem q_573 : (Cond.selects RX1 yX1_wayOf yX1_wayOf) ∈ xALL := wt_s _ (List.mem_of_getElem? (i := 50) (by decide +kernel)) rfl
theorem q_574 : (Cond.code yX1_wayOf cX1_wayOf 9 (some .double)) ∈ xALL := wt_1 _ (List.mem_of_getElem? (i := 193) (by decide +kernel)) rfl
theorem q_575 : (Cond.constantDouble RX1 123 (4621819117588971520)) ∈ xALL := wt_1 _ (List.mem_of_getElem? (i := 194) (by decide +kernel)) rfl
theorem q_576 : (Cond.static yX3_wayNorth) ∈ xALL := wt_1 _ (List.mem_of_getElem? (i := 196) (by decide +kernel)) rfl
theorem q_577 : (Cond.code yX3_wayNorth cX3_wayNorth 1 (some .double)) ∈ xALL := wt_1 _ (List.mem_of_getElem? (i := 197) (by decide +kernel)) rfl
theorem q_578 : (Cond.constantDouble RX3 238 (4604544210138303771)) ∈ xALL := wt_1 _ (List.mem_of_getElem? (i := 198) (by decide +kernel)) rfl
theorem q_579 : (Cond.constantDouble RX3 240 (13827916246993079579)) ∈ xALL := wt_1 _ (List.mem_of_getElem? (i := 199) (by decide +kernel)) rfl
theorem q_580 : (Cond.constantDouble RX3 242 (13830554455654793216)) ∈ xALL := wt_1 _ (List.mem_of_getElem? (i := 200) (by decide +kernel)) rfl
theorem q_581 : (Cond.methodLink RL 95 yX4_north) ∈ xALL := wt_3 _ (List.mem_of_getElem? (i := 30) (by decide +kernel)) rfl
theorem q_582 : (Cond.instanceMethod yX4_north) ∈ xALL := wt_3 _ (List.mem_of_getElem? (i := 31) (by decide +kernel)) rfl
theorem q_583 : (Cond.selects RX4 yX4_north yX4_north) ∈ xALL := wt_3 _ (List.mem_of_getElem? (i := 32) (by decide +kernel)) rfl
theorem q_584 : (Cond.code yX4_north cX4_north 3 (some .double)) ∈ xALL := wt_3 _ (List.mem_of_getElem? (i := 33) (by decide +kernel)) rfl
theorem q_585 : (Cond.constantDouble RX4 190 (13890094659566305280)) ∈ xALL := wt_3 _ (List.mem_of_getElem? (i := 34) (by decide +kernel)) rfl
theorem q_586 : (Cond.methodLink RX4 192 yX4_brings) ∈ xALL := wt_3 _ (List.mem_of_getElem? (i := 35) (by decide +kernel)) rfl
theorem q_587 : (Cond.instanceMethod yX4_brings) ∈ xALL := wt_3 _ (List.mem_of_getElem? (i := 37) (by decide +kernel)) rfl
theorem q_588 : (Cond.selects RX4 yX4_brings yX4_brings) ∈ xALL := wt_s _ (List.mem_of_getElem? (i := 88) (by decide +kernel)) rfl
theorem q_589 : (Cond.code yX4_brings cX4_brings 9 (some .double)) ∈ xALL := wt_3 _ (List.mem_of_getElem? (i := 38) (by decide +kernel)) rfl
theorem q_590 : (Cond.constantDouble RX4 184 (4621819117588971520)) ∈ xALL := wt_3 _ (List.mem_of_getElem? (i := 39) (by decide +kernel)) rfl
theorem q_591 : (Cond.methodLink RX4 186 yX4_northBy) ∈ xALL := wt_3 _ (List.mem_of_getElem? (i := 40) (by decide +kernel)) rfl
theorem q_592 : (Cond.static yX4_northBy) ∈ xALL := wt_3 _ (List.mem_of_getElem? (i := 41) (by decide +kernel)) rfl
theorem q_593 : (Cond.code yX4_northBy cX4_northBy 1 (some .double)) ∈ xALL := wt_3 _ (List.mem_of_getElem? (i := 42) (by decide +kernel)) rfl
theorem q_594 : (Cond.constantDouble RX4 178 (4604544210138303771)) ∈ xALL := wt_3 _ (List.mem_of_getElem? (i := 43) (by decide +kernel)) rfl
theorem q_595 : (Cond.constantDouble RX4 180 (13827916246993079579)) ∈ xALL := wt_3 _ (List.mem_of_getElem? (i := 44) (by decide +kernel)) rfl
theorem q_596 : (Cond.constantDouble RX4 182 (13830554455654793216)) ∈ xALL := wt_3 _ (List.mem_of_getElem? (i := 45) (by decide +kernel)) rfl
theorem q_597 : (Cond.methodLink RL 96 yX3_east) ∈ xALL := wt_1 _ (List.mem_of_getElem? (i := 202) (by decide +kernel)) rfl
theorem q_598 : (Cond.instanceMethod yX3_east) ∈ xALL := wt_1 _ (List.mem_of_getElem? (i := 203) (by decide +kernel)) rfl
theorem q_599 : (Cond.selects RX3 yX3_east yX3_east) ∈ xALL := wt_1 _ (List.mem_of_getElem? (i := 204) (by decide +kernel)) rfl
theorem q_600 : (Cond.code yX3_east cX3_east 3 (some .double)) ∈ xALL := wt_1 _ (List.mem_of_getElem? (i := 205) (by decide +kernel)) rfl
theorem q_601 : (Cond.methodLink RL 99 yX4_east) ∈ xALL := wt_3 _ (List.mem_of_getElem? (i := 46) (by decide +kernel)) rfl
theorem q_602 : (Cond.instanceMethod yX4_east) ∈ xALL := wt_3 _ (List.mem_of_getElem? (i := 47) (by decide +kernel)) rfl
theorem q_603 : (Cond.selects RX4 yX4_east yX4_east) ∈ xALL := wt_3 _ (List.mem_of_getElem? (i := 48) (by decide +kernel)) rfl
theorem q_604 : (Cond.code yX4_east cX4_east 3 (some .double)) ∈ xALL := wt_3 _ (List.mem_of_getElem? (i := 49) (by decide +kernel)) rfl
theorem q_605 : (Cond.methodLink RL 100 yX3_squareBits) ∈ xALL := wt_1 _ (List.mem_of_getElem? (i := 206) (by decide +kernel)) rfl
theorem q_606 : (Cond.instanceMethod yX3_squareBits) ∈ xALL := wt_1 _ (List.mem_of_getElem? (i := 207) (by decide +kernel)) rfl
theorem q_607 : (Cond.selects RX3 yX3_squareBits yX3_squareBits) ∈ xALL := wt_1 _ (List.mem_of_getElem? (i := 208) (by decide +kernel)) rfl
theorem q_608 : (Cond.code yX3_squareBits cX3_squareBits 7 (some .int)) ∈ xALL := wt_1 _ (List.mem_of_getElem? (i := 209) (by decide +kernel)) rfl
theorem q_609 : (Cond.methodLink RX3 202 yX3_bitsOf) ∈ xALL := wt_1 _ (List.mem_of_getElem? (i := 210) (by decide +kernel)) rfl
theorem q_610 : (Cond.static yX3_bitsOf) ∈ xALL := wt_1 _ (List.mem_of_getElem? (i := 211) (by decide +kernel)) rfl
theorem q_611 : (Cond.code yX3_bitsOf cX3_bitsOf 5 (some .int)) ∈ xALL := wt_1 _ (List.mem_of_getElem? (i := 212) (by decide +kernel)) rfl
theorem q_612 : (Cond.constantDouble RX3 244 (4611686018427387904)) ∈ xALL := wt_1 _ (List.mem_of_getElem? (i := 213) (by decide +kernel)) rfl
theorem q_613 : (Cond.constantDouble RX3 246 (4710765210229538816)) ∈ xALL := wt_1 _ (List.mem_of_getElem? (i := 214) (by decide +kernel)) rfl
theorem q_614 : (Cond.methodLink RL 103 yX4_squareBits) ∈ xALL := wt_3 _ (List.mem_of_getElem? (i := 50) (by decide +kernel)) rfl
theorem q_615 : (Cond.instanceMethod yX4_squareBits) ∈ xALL := wt_3 _ (List.mem_of_getElem? (i := 51) (by decide +kernel)) rfl
theorem q_616 : (Cond.selects RX4 yX4_squareBits yX4_squareBits) ∈ xALL := wt_3 _ (List.mem_of_getElem? (i := 52) (by decide +kernel)) rfl
theorem q_617 : (Cond.code yX4_squareBits cX4_squareBits 4 (some .int)) ∈ xALL := wt_3 _ (List.mem_of_getElem? (i := 53) (by decide +kernel)) rfl
theorem q_618 : (Cond.methodLink RX4 202 yX4_square) ∈ xALL := wt_3 _ (List.mem_of_getElem? (i := 54) (by decide +kernel)) rfl
theorem q_619 : (Cond.instanceMethod yX4_square) ∈ xALL := wt_3 _ (List.mem_of_getElem? (i := 56) (by decide +kernel)) rfl
theorem q_620 : (Cond.selects RX4 yX4_square yX4_square) ∈ xALL := wt_s _ (List.mem_of_getElem? (i := 89) (by decide +kernel)) rfl
theorem q_621 : (Cond.code yX4_square cX4_square 7 (some .int)) ∈ xALL := wt_3 _ (List.mem_of_getElem? (i := 57) (by decide +kernel)) rfl
theorem q_622 : (Cond.methodLink RX4 196 yJxf58ca_floatToIntBits_5c35a) ∈ xALL := wt_3 _ (List.mem_of_getElem? (i := 58) (by decide +kernel)) rfl
theorem q_623 : (Cond.static yJxf58ca_floatToIntBits_5c35a) ∈ xALL := wt_3 _ (List.mem_of_getElem? (i := 59) (by decide +kernel)) rfl
theorem q_624 : (Cond.initialized RJxf58ca) ∈ xALL := wt_0 _ (List.mem_of_getElem? (i := 10) (by decide +kernel)) rfl
theorem q_625 : (Cond.code yJxf58ca_floatToIntBits_5c35a cJxf58ca_floatToIntBits_5c35a 1 (some .int)) ∈ xALL := wt_3 _ (List.mem_of_getElem? (i := 60) (by decide +kernel)) rfl
theorem q_626 : (Cond.methodLink RJxf58ca 74 ⟨"java/lang/Float", "floatToRawIntBits", "(F)I"⟩) ∈ xALL := wt_3 _ (List.mem_of_getElem? (i := 64) (by decide +kernel)) rfl
theorem q_627 : (Cond.native ⟨"java/lang/Float", "floatToRawIntBits", "(F)I"⟩) ∈ xALL := wt_3 _ (List.mem_of_getElem? (i := 66) (by decide +kernel)) rfl
theorem q_628 : (Cond.static ⟨"java/lang/Float", "floatToRawIntBits", "(F)I"⟩) ∈ xALL := wt_3 _ (List.mem_of_getElem? (i := 65) (by decide +kernel)) rfl
theorem q_629 : (Cond.initialized "java/lang/Float") ∈ xALL := wt_0 _ (List.mem_of_getElem? (i := 10) (by decide +kernel)) rfl
theorem q_630 : (Cond.constant RJxf58ca 77 (2143289344)) ∈ xALL := wt_3 _ (List.mem_of_getElem? (i := 67) (by decide +kernel)) rfl
theorem q_631 : (Cond.methodLink RJxf58ca 59 yJxf58ca_isNaN_12338) ∈ xALL := wt_3 _ (List.mem_of_getElem? (i := 61) (by decide +kernel)) rfl
theorem q_632 : (Cond.static yJxf58ca_isNaN_12338) ∈ xALL := wt_3 _ (List.mem_of_getElem? (i := 62) (by decide +kernel)) rfl
theorem q_633 : (Cond.code yJxf58ca_isNaN_12338 cJxf58ca_isNaN_12338 1 (some .boolean)) ∈ xALL := wt_3 _ (List.mem_of_getElem? (i := 63) (by decide +kernel)) rfl
theorem q_634 : (Cond.methodLink RL 104 yX3_wouldChange) ∈ xALL := wt_1 _ (List.mem_of_getElem? (i := 215) (by decide +kernel)) rfl
theorem q_635 : (Cond.instanceMethod yX3_wouldChange) ∈ xALL := wt_1 _ (List.mem_of_getElem? (i := 216) (by decide +kernel)) rfl
theorem q_636 : (Cond.selects RX3 yX3_wouldChange yX3_wouldChange) ∈ xALL := wt_1 _ (List.mem_of_getElem? (i := 217) (by decide +kernel)) rfl
theorem q_637 : (Cond.code yX3_wouldChange cX3_wouldChange 4 (some .int)) ∈ xALL := wt_1 _ (List.mem_of_getElem? (i := 218) (by decide +kernel)) rfl
theorem q_638 : (Cond.methodLink RL 107 yX4_wouldChange) ∈ xALL := wt_3 _ (List.mem_of_getElem? (i := 68) (by decide +kernel)) rfl
theorem q_639 : (Cond.instanceMethod yX4_wouldChange) ∈ xALL := wt_3 _ (List.mem_of_getElem? (i := 69) (by decide +kernel)) rfl
theorem q_640 : (Cond.selects RX4 yX4_wouldChange yX4_wouldChange) ∈ xALL := wt_3 _ (List.mem_of_getElem? (i := 70) (by decide +kernel)) rfl
theorem q_641 : (Cond.code yX4_wouldChange cX4_wouldChange 7 (some .int)) ∈ xALL := wt_3 _ (List.mem_of_getElem? (i := 71) (by decide +kernel)) rfl
theorem q_642 : (Cond.methodLink RL 108 yX3_count) ∈ xALL := wt_1 _ (List.mem_of_getElem? (i := 219) (by decide +kernel)) rfl
theorem q_643 : (Cond.instanceMethod yX3_count) ∈ xALL := wt_1 _ (List.mem_of_getElem? (i := 220) (by decide +kernel)) rfl
theorem q_644 : (Cond.selects RX3 yX3_count yX3_count) ∈ xALL := wt_1 _ (List.mem_of_getElem? (i := 221) (by decide +kernel)) rfl
theorem q_645 : (Cond.code yX3_count cX3_count 2 (some .int)) ∈ xALL := wt_1 _ (List.mem_of_getElem? (i := 222) (by decide +kernel)) rfl
theorem q_646 : (Cond.methodLink RX3 206 yX3_dittos) ∈ xALL := wt_1 _ (List.mem_of_getElem? (i := 223) (by decide +kernel)) rfl
theorem q_647 : (Cond.instanceMethod yX3_dittos) ∈ xALL := wt_1 _ (List.mem_of_getElem? (i := 225) (by decide +kernel)) rfl
theorem q_648 : (Cond.selects RX3 yX3_dittos yX3_dittos) ∈ xALL := wt_s _ (List.mem_of_getElem? (i := 51) (by decide +kernel)) rfl
theorem q_649 : (Cond.code yX3_dittos cX3_dittos 3 (some .int)) ∈ xALL := wt_1 _ (List.mem_of_getElem? (i := 226) (by decide +kernel)) rfl
theorem q_650 : (Cond.methodLink RX3 209 yX3_corrections) ∈ xALL := wt_1 _ (List.mem_of_getElem? (i := 227) (by decide +kernel)) rfl
theorem q_651 : (Cond.instanceMethod yX3_corrections) ∈ xALL := wt_1 _ (List.mem_of_getElem? (i := 229) (by decide +kernel)) rfl
theorem q_652 : (Cond.selects RX3 yX3_corrections yX3_corrections) ∈ xALL := wt_s _ (List.mem_of_getElem? (i := 52) (by decide +kernel)) rfl
theorem q_653 : (Cond.code yX3_corrections cX3_corrections 3 (some .int)) ∈ xALL := wt_1 _ (List.mem_of_getElem? (i := 230) (by decide +kernel)) rfl
theorem q_654 : (Cond.instanceMethod yX1_countWrittenOut) ∈ xALL := wt_1 _ (List.mem_of_getElem? (i := 233) (by decide +kernel)) rfl
theorem q_655 : (Cond.selects RX1 yX1_countWrittenOut yX1_countWrittenOut) ∈ xALL := wt_s _ (List.mem_of_getElem? (i := 53) (by decide +kernel)) rfl
theorem q_656 : (Cond.code yX1_countWrittenOut cX1_countWrittenOut 3 (some .int)) ∈ xALL := wt_1 _ (List.mem_of_getElem? (i := 234) (by decide +kernel)) rfl
theorem q_657 : (Cond.methodLink RX1 100 yX1_isWrittenOut) ∈ xALL := wt_1 _ (List.mem_of_getElem? (i := 235) (by decide +kernel)) rfl
theorem q_658 : (Cond.instanceMethod yX1_countWrongSums) ∈ xALL := wt_1 _ (List.mem_of_getElem? (i := 238) (by decide +kernel)) rfl
theorem q_659 : (Cond.selects RX1 yX1_countWrongSums yX1_countWrongSums) ∈ xALL := wt_s _ (List.mem_of_getElem? (i := 54) (by decide +kernel)) rfl
theorem q_660 : (Cond.code yX1_countWrongSums cX1_countWrongSums 5 (some .int)) ∈ xALL := wt_1 _ (List.mem_of_getElem? (i := 239) (by decide +kernel)) rfl
theorem q_661 : (Cond.methodLink RX1 106 yX1_watches) ∈ xALL := wt_2 _ (List.mem_of_getElem? (i := 0) (by decide +kernel)) rfl
theorem q_662 : (Cond.methodLink RX1 110 yX1_sumOf) ∈ xALL := wt_2 _ (List.mem_of_getElem? (i := 1) (by decide +kernel)) rfl
theorem q_663 : (Cond.methodLink RX1 114 yX1_firstRowOf) ∈ xALL := wt_2 _ (List.mem_of_getElem? (i := 2) (by decide +kernel)) rfl
theorem q_664 : (Cond.methodLink RX1 117 yX1_lastRowOf) ∈ xALL := wt_2 _ (List.mem_of_getElem? (i := 3) (by decide +kernel)) rfl
theorem q_665 : (Cond.methodLink RX1 120 yX1_runOf) ∈ xALL := wt_2 _ (List.mem_of_getElem? (i := 4) (by decide +kernel)) rfl
theorem q_666 : (Cond.methodLink RL 111 yX4_count) ∈ xALL := wt_3 _ (List.mem_of_getElem? (i := 72) (by decide +kernel)) rfl
theorem q_667 : (Cond.instanceMethod yX4_count) ∈ xALL := wt_3 _ (List.mem_of_getElem? (i := 73) (by decide +kernel)) rfl
theorem q_668 : (Cond.selects RX4 yX4_count yX4_count) ∈ xALL := wt_3 _ (List.mem_of_getElem? (i := 74) (by decide +kernel)) rfl
theorem q_669 : (Cond.code yX4_count cX4_count 2 (some .int)) ∈ xALL := wt_3 _ (List.mem_of_getElem? (i := 75) (by decide +kernel)) rfl
theorem q_670 : (Cond.methodLink RX4 208 yX4_overColumns) ∈ xALL := wt_3 _ (List.mem_of_getElem? (i := 76) (by decide +kernel)) rfl
theorem q_671 : (Cond.instanceMethod yX4_overColumns) ∈ xALL := wt_3 _ (List.mem_of_getElem? (i := 78) (by decide +kernel)) rfl
theorem q_672 : (Cond.selects RX4 yX4_overColumns yX4_overColumns) ∈ xALL := wt_s _ (List.mem_of_getElem? (i := 90) (by decide +kernel)) rfl
theorem q_673 : (Cond.code yX4_overColumns cX4_overColumns 4 (some .int)) ∈ xALL := wt_3 _ (List.mem_of_getElem? (i := 79) (by decide +kernel)) rfl
theorem q_674 : (Cond.methodLink RX4 205 yX4_column) ∈ xALL := wt_3 _ (List.mem_of_getElem? (i := 80) (by decide +kernel)) rfl
theorem q_675 : (Cond.methodLink RX4 211 yX4_allWritten) ∈ xALL := wt_3 _ (List.mem_of_getElem? (i := 81) (by decide +kernel)) rfl
theorem q_676 : (Cond.instanceMethod yX4_allWritten) ∈ xALL := wt_3 _ (List.mem_of_getElem? (i := 83) (by decide +kernel)) rfl
theorem q_677 : (Cond.selects RX4 yX4_allWritten yX4_allWritten) ∈ xALL := wt_s _ (List.mem_of_getElem? (i := 91) (by decide +kernel)) rfl
theorem q_678 : (Cond.code yX4_allWritten cX4_allWritten 3 (some .int)) ∈ xALL := wt_3 _ (List.mem_of_getElem? (i := 84) (by decide +kernel)) rfl
theorem q_679 : (Cond.methodLink RX4 214 yX4_unlike) ∈ xALL := wt_3 _ (List.mem_of_getElem? (i := 85) (by decide +kernel)) rfl
theorem q_680 : (Cond.instanceMethod yX4_unlike) ∈ xALL := wt_3 _ (List.mem_of_getElem? (i := 87) (by decide +kernel)) rfl
theorem q_681 : (Cond.selects RX4 yX4_unlike yX4_unlike) ∈ xALL := wt_s _ (List.mem_of_getElem? (i := 92) (by decide +kernel)) rfl
theorem q_682 : (Cond.code yX4_unlike cX4_unlike 4 (some .int)) ∈ xALL := wt_3 _ (List.mem_of_getElem? (i := 88) (by decide +kernel)) rfl
theorem inX0 : ∀ w ∈ wsX00, w ∈ xALL := List.forall_mem_cons.mpr ⟨wt_0 _ (List.mem_of_getElem? (i := 65) (by decide +kernel)) rfl, List.forall_mem_cons.mpr ⟨wt_0 _ (List.mem_of_getElem? (i := 67) (by decide +kernel)) rfl, List.forall_mem_cons.mpr ⟨wt_0 _ (List.mem_of_getElem? (i := 69) (by decide +kernel)) rfl, fun _ h => absurd h List.not_mem_nil⟩⟩⟩
theorem inX1 : ∀ w ∈ wsX10, w ∈ xALL := List.forall_mem_cons.mpr ⟨wt_0 _ (List.mem_of_getElem? (i := 36) (by decide +kernel)) rfl, List.forall_mem_cons.mpr ⟨wt_0 _ (List.mem_of_getElem? (i := 38) (by decide +kernel)) rfl, List.forall_mem_cons.mpr ⟨wt_0 _ (List.mem_of_getElem? (i := 40) (by decide +kernel)) rfl, List.forall_mem_cons.mpr ⟨wt_0 _ (List.mem_of_getElem? (i := 42) (by decide +kernel)) rfl, List.forall_mem_cons.mpr ⟨wt_0 _ (List.mem_of_getElem? (i := 44) (by decide +kernel)) rfl, List.forall_mem_cons.mpr ⟨wt_0 _ (List.mem_of_getElem? (i := 46) (by decide +kernel)) rfl, List.forall_mem_cons.mpr ⟨wt_0 _ (List.mem_of_getElem? (i := 48) (by decide +kernel)) rfl, fun _ h => absurd h List.not_mem_nil⟩⟩⟩⟩⟩⟩⟩
theorem inX2 : ∀ w ∈ wsX20, w ∈ xALL := List.forall_mem_cons.mpr ⟨wt_0 _ (List.mem_of_getElem? (i := 83) (by decide +kernel)) rfl, List.forall_mem_cons.mpr ⟨wt_0 _ (List.mem_of_getElem? (i := 85) (by decide +kernel)) rfl, List.forall_mem_cons.mpr ⟨wt_0 _ (List.mem_of_getElem? (i := 87) (by decide +kernel)) rfl, List.forall_mem_cons.mpr ⟨wt_0 _ (List.mem_of_getElem? (i := 89) (by decide +kernel)) rfl, fun _ h => absurd h List.not_mem_nil⟩⟩⟩⟩
theorem inX3 : ∀ w ∈ wsX30, w ∈ xALL := List.forall_mem_cons.mpr ⟨wt_0 _ (List.mem_of_getElem? (i := 99) (by decide +kernel)) rfl, List.forall_mem_cons.mpr ⟨wt_0 _ (List.mem_of_getElem? (i := 101) (by decide +kernel)) rfl, List.forall_mem_cons.mpr ⟨wt_0 _ (List.mem_of_getElem? (i := 103) (by decide +kernel)) rfl, List.forall_mem_cons.mpr ⟨wt_0 _ (List.mem_of_getElem? (i := 105) (by decide +kernel)) rfl, List.forall_mem_cons.mpr ⟨wt_0 _ (List.mem_of_getElem? (i := 107) (by decide +kernel)) rfl, List.forall_mem_cons.mpr ⟨wt_0 _ (List.mem_of_getElem? (i := 109) (by decide +kernel)) rfl, fun _ h => absurd h List.not_mem_nil⟩⟩⟩⟩⟩⟩
theorem inX4 : ∀ w ∈ wsX40, w ∈ xALL := List.forall_mem_cons.mpr ⟨wt_2 _ (List.mem_of_getElem? (i := 22) (by decide +kernel)) rfl, List.forall_mem_cons.mpr ⟨wt_2 _ (List.mem_of_getElem? (i := 24) (by decide +kernel)) rfl, List.forall_mem_cons.mpr ⟨wt_2 _ (List.mem_of_getElem? (i := 26) (by decide +kernel)) rfl, List.forall_mem_cons.mpr ⟨wt_2 _ (List.mem_of_getElem? (i := 28) (by decide +kernel)) rfl, List.forall_mem_cons.mpr ⟨wt_2 _ (List.mem_of_getElem? (i := 30) (by decide +kernel)) rfl, List.forall_mem_cons.mpr ⟨wt_2 _ (List.mem_of_getElem? (i := 32) (by decide +kernel)) rfl, List.forall_mem_cons.mpr ⟨wt_2 _ (List.mem_of_getElem? (i := 34) (by decide +kernel)) rfl, List.forall_mem_cons.mpr ⟨wt_2 _ (List.mem_of_getElem? (i := 36) (by decide +kernel)) rfl, List.forall_mem_cons.mpr ⟨wt_2 _ (List.mem_of_getElem? (i := 38) (by decide +kernel)) rfl, List.forall_mem_cons.mpr ⟨wt_2 _ (List.mem_of_getElem? (i := 40) (by decide +kernel)) rfl, List.forall_mem_cons.mpr ⟨wt_2 _ (List.mem_of_getElem? (i := 42) (by decide +kernel)) rfl, fun _ h => absurd h List.not_mem_nil⟩⟩⟩⟩⟩⟩⟩⟩⟩⟩⟩
def xNest : List Cond := [Cond.methodLinkNest RX3 9 yX1_init "DittoLog",
  Cond.fieldLinkNest RX3 45 "DittoLog$Log" "rows" "I" "DittoLog",
  Cond.methodLinkNest RX3 25 yX0_init "DittoLog",
  Cond.methodLinkNest RX0 17 yX1_init "DittoLog",
  Cond.fieldLinkNest RX3 129 "DittoLog$History" "size" "I" "DittoLog",
  Cond.methodLinkNest RX3 32 yX2_init "DittoLog",
  Cond.fieldLinkNest RX3 122 "DittoLog$RowsText" "length" "I" "DittoLog",
  Cond.methodLinkNest RX3 49 yX0_remember "DittoLog",
  Cond.methodLinkNest RX0 29 yX1_copyFrom "DittoLog",
  Cond.methodLinkNest RX1 40 yX3_copyInto "DittoLog",
  Cond.methodLinkNest RX3 53 yX1_appendRow "DittoLog",
  Cond.methodLinkNest RX3 57 yX2_readRows "DittoLog",
  Cond.fieldLinkNest RX2 46 "DittoLog" "COLUMN_MAX" "[I" "DittoLog",
  Cond.methodLinkNest RX2 49 yX3_at "DittoLog",
  Cond.methodLinkNest RX3 61 yX2_rowsRead "DittoLog",
  Cond.methodLinkNest RX3 64 yX2_read "DittoLog",
  Cond.methodLinkNest RX3 68 yX1_dropRow "DittoLog",
  Cond.methodLinkNest RX3 71 yX1_isCell "DittoLog",
  Cond.methodLinkNest RX1 52 yX3_isColumn "DittoLog",
  Cond.methodLinkNest RX3 74 yX1_entriesOf "DittoLog",
  Cond.methodLinkNest RX1 44 yX3_at "DittoLog",
  Cond.methodLinkNest RX3 77 yX1_latestOf "DittoLog",
  Cond.methodLinkNest RX3 80 yX1_changedBy "DittoLog",
  Cond.methodLinkNest RX3 84 yX1_pushEntry "DittoLog",
  Cond.methodLinkNest RX3 88 yX1_entryOf "DittoLog",
  Cond.methodLinkNest RX3 91 yX1_popEntry "DittoLog",
  Cond.methodLinkNest RX3 95 yX1_sumOf "DittoLog",
  Cond.methodLinkNest RX3 99 yX1_writeSum "DittoLog",
  Cond.methodLinkNest RX3 112 yX1_settingOf "DittoLog",
  Cond.methodLinkNest RX3 115 yX1_changeSetting "DittoLog",
  Cond.methodLinkNest RX3 118 yX2_append "DittoLog",
  Cond.methodLinkNest RX3 125 yX0_takeInto "DittoLog",
  Cond.methodLinkNest RX3 132 yX1_copyFrom "DittoLog",
  Cond.methodLinkNest RX3 135 yX1_meaningOf "DittoLog",
  Cond.methodLinkNest RX3 138 yX1_sourceOf "DittoLog",
  Cond.methodLinkNest RX3 141 yX1_chainOf "DittoLog",
  Cond.methodLinkNest RX3 144 yX1_isDoubtful "DittoLog",
  Cond.methodLinkNest RX3 147 yX1_followersOf "DittoLog",
  Cond.methodLinkNest RX3 150 yX1_isRow "DittoLog",
  Cond.methodLinkNest RX3 154 yX1_isWrittenOut "DittoLog",
  Cond.methodLinkNest RX3 160 yX1_countLatest "DittoLog",
  Cond.methodLinkNest RX3 163 yX1_countCorrections "DittoLog",
  Cond.methodLinkNest RX3 166 yX1_countMeaningless "DittoLog",
  Cond.methodLinkNest RX3 169 yX1_longestChain "DittoLog",
  Cond.methodLinkNest RX3 175 yX1_countDoubtful "DittoLog",
  Cond.methodLinkNest RX3 178 yX1_watches "DittoLog",
  Cond.methodLinkNest RX3 181 yX1_firstRowOf "DittoLog",
  Cond.methodLinkNest RX3 184 yX1_lastRowOf "DittoLog",
  Cond.methodLinkNest RX3 187 yX1_runOf "DittoLog",
  Cond.methodLinkNest RX3 193 yX1_areRows "DittoLog",
  Cond.methodLinkNest RX3 196 yX1_wayOf "DittoLog",
  Cond.methodLinkNest RX1 125 yX3_wayNorth "DittoLog",
  Cond.methodLinkNest RX3 212 yX1_countWrittenOut "DittoLog",
  Cond.methodLinkNest RX3 215 yX1_countWrongSums "DittoLog"]
theorem xt_0 : ∀ w ∈ tables_1_1, w ∈ lw_tbl := fun _ h => List.mem_append_right _ (List.mem_append_left _ h)
theorem xt_1 : ∀ w ∈ tables_1_2, w ∈ lw_tbl := fun _ h => List.mem_append_right _ (List.mem_append_right _ (List.mem_append_left _ h))
theorem xt_2 : ∀ w ∈ tables_1_3, w ∈ lw_tbl := fun _ h => List.mem_append_right _ (List.mem_append_right _ (List.mem_append_right _ (List.mem_append_left _ h)))
theorem xt_3 : ∀ w ∈ tables_1_4, w ∈ lw_tbl := fun _ h => List.mem_append_right _ (List.mem_append_right _ (List.mem_append_right _ (List.mem_append_right _ (h))))
theorem xn_0 : (Cond.methodLinkNest RX3 9 yX1_init "DittoLog") ∈ lw_tbl := xt_0 _ (List.mem_of_getElem? (i := 21) (by decide +kernel))
theorem xn_1 : (Cond.fieldLinkNest RX3 45 "DittoLog$Log" "rows" "I" "DittoLog") ∈ lw_tbl := xt_0 _ (List.mem_of_getElem? (i := 32) (by decide +kernel))
theorem xn_2 : (Cond.methodLinkNest RX3 25 yX0_init "DittoLog") ∈ lw_tbl := xt_0 _ (List.mem_of_getElem? (i := 54) (by decide +kernel))
theorem xn_3 : (Cond.methodLinkNest RX0 17 yX1_init "DittoLog") ∈ lw_tbl := xt_0 _ (List.mem_of_getElem? (i := 60) (by decide +kernel))
theorem xn_4 : (Cond.fieldLinkNest RX3 129 "DittoLog$History" "size" "I" "DittoLog") ∈ lw_tbl := xt_0 _ (List.mem_of_getElem? (i := 64) (by decide +kernel))
theorem xn_5 : (Cond.methodLinkNest RX3 32 yX2_init "DittoLog") ∈ lw_tbl := xt_0 _ (List.mem_of_getElem? (i := 74) (by decide +kernel))
theorem xn_6 : (Cond.fieldLinkNest RX3 122 "DittoLog$RowsText" "length" "I" "DittoLog") ∈ lw_tbl := xt_0 _ (List.mem_of_getElem? (i := 81) (by decide +kernel))
theorem xn_7 : (Cond.methodLinkNest RX3 49 yX0_remember "DittoLog") ∈ lw_tbl := xt_0 _ (List.mem_of_getElem? (i := 124) (by decide +kernel))
theorem xn_8 : (Cond.methodLinkNest RX0 29 yX1_copyFrom "DittoLog") ∈ lw_tbl := xt_0 _ (List.mem_of_getElem? (i := 132) (by decide +kernel))
theorem xn_9 : (Cond.methodLinkNest RX1 40 yX3_copyInto "DittoLog") ∈ lw_tbl := xt_0 _ (List.mem_of_getElem? (i := 136) (by decide +kernel))
theorem xn_10 : (Cond.methodLinkNest RX3 53 yX1_appendRow "DittoLog") ∈ lw_tbl := xt_0 _ (List.mem_of_getElem? (i := 145) (by decide +kernel))
theorem xn_11 : (Cond.methodLinkNest RX3 57 yX2_readRows "DittoLog") ∈ lw_tbl := xt_0 _ (List.mem_of_getElem? (i := 161) (by decide +kernel))
theorem xn_12 : (Cond.fieldLinkNest RX2 46 "DittoLog" "COLUMN_MAX" "[I" "DittoLog") ∈ lw_tbl := xt_0 _ (List.mem_of_getElem? (i := 173) (by decide +kernel))
theorem xn_13 : (Cond.methodLinkNest RX2 49 yX3_at "DittoLog") ∈ lw_tbl := xt_0 _ (List.mem_of_getElem? (i := 178) (by decide +kernel))
theorem xn_14 : (Cond.methodLinkNest RX3 61 yX2_rowsRead "DittoLog") ∈ lw_tbl := xt_0 _ (List.mem_of_getElem? (i := 187) (by decide +kernel))
theorem xn_15 : (Cond.methodLinkNest RX3 64 yX2_read "DittoLog") ∈ lw_tbl := xt_0 _ (List.mem_of_getElem? (i := 191) (by decide +kernel))
theorem xn_16 : (Cond.methodLinkNest RX3 68 yX1_dropRow "DittoLog") ∈ lw_tbl := xt_0 _ (List.mem_of_getElem? (i := 199) (by decide +kernel))
theorem xn_17 : (Cond.methodLinkNest RX3 71 yX1_isCell "DittoLog") ∈ lw_tbl := xt_0 _ (List.mem_of_getElem? (i := 207) (by decide +kernel))
theorem xn_18 : (Cond.methodLinkNest RX1 52 yX3_isColumn "DittoLog") ∈ lw_tbl := xt_0 _ (List.mem_of_getElem? (i := 215) (by decide +kernel))
theorem xn_19 : (Cond.methodLinkNest RX3 74 yX1_entriesOf "DittoLog") ∈ lw_tbl := xt_0 _ (List.mem_of_getElem? (i := 218) (by decide +kernel))
theorem xn_20 : (Cond.methodLinkNest RX1 44 yX3_at "DittoLog") ∈ lw_tbl := xt_0 _ (List.mem_of_getElem? (i := 222) (by decide +kernel))
theorem xn_21 : (Cond.methodLinkNest RX3 77 yX1_latestOf "DittoLog") ∈ lw_tbl := xt_0 _ (List.mem_of_getElem? (i := 223) (by decide +kernel))
theorem xn_22 : (Cond.methodLinkNest RX3 80 yX1_changedBy "DittoLog") ∈ lw_tbl := xt_0 _ (List.mem_of_getElem? (i := 227) (by decide +kernel))
theorem xn_23 : (Cond.methodLinkNest RX3 84 yX1_pushEntry "DittoLog") ∈ lw_tbl := xt_1 _ (List.mem_of_getElem? (i := 16) (by decide +kernel))
theorem xn_24 : (Cond.methodLinkNest RX3 88 yX1_entryOf "DittoLog") ∈ lw_tbl := xt_1 _ (List.mem_of_getElem? (i := 21) (by decide +kernel))
theorem xn_25 : (Cond.methodLinkNest RX3 91 yX1_popEntry "DittoLog") ∈ lw_tbl := xt_1 _ (List.mem_of_getElem? (i := 25) (by decide +kernel))
theorem xn_26 : (Cond.methodLinkNest RX3 95 yX1_sumOf "DittoLog") ∈ lw_tbl := xt_1 _ (List.mem_of_getElem? (i := 33) (by decide +kernel))
theorem xn_27 : (Cond.methodLinkNest RX3 99 yX1_writeSum "DittoLog") ∈ lw_tbl := xt_1 _ (List.mem_of_getElem? (i := 37) (by decide +kernel))
theorem xn_28 : (Cond.methodLinkNest RX3 112 yX1_settingOf "DittoLog") ∈ lw_tbl := xt_1 _ (List.mem_of_getElem? (i := 49) (by decide +kernel))
theorem xn_29 : (Cond.methodLinkNest RX3 115 yX1_changeSetting "DittoLog") ∈ lw_tbl := xt_1 _ (List.mem_of_getElem? (i := 53) (by decide +kernel))
theorem xn_30 : (Cond.methodLinkNest RX3 118 yX2_append "DittoLog") ∈ lw_tbl := xt_1 _ (List.mem_of_getElem? (i := 61) (by decide +kernel))
theorem xn_31 : (Cond.methodLinkNest RX3 125 yX0_takeInto "DittoLog") ∈ lw_tbl := xt_1 _ (List.mem_of_getElem? (i := 73) (by decide +kernel))
theorem xn_32 : (Cond.methodLinkNest RX3 132 yX1_copyFrom "DittoLog") ∈ lw_tbl := xt_1 _ (List.mem_of_getElem? (i := 81) (by decide +kernel))
theorem xn_33 : (Cond.methodLinkNest RX3 135 yX1_meaningOf "DittoLog") ∈ lw_tbl := xt_1 _ (List.mem_of_getElem? (i := 90) (by decide +kernel))
theorem xn_34 : (Cond.methodLinkNest RX3 138 yX1_sourceOf "DittoLog") ∈ lw_tbl := xt_1 _ (List.mem_of_getElem? (i := 91) (by decide +kernel))
theorem xn_35 : (Cond.methodLinkNest RX3 141 yX1_chainOf "DittoLog") ∈ lw_tbl := xt_1 _ (List.mem_of_getElem? (i := 95) (by decide +kernel))
theorem xn_36 : (Cond.methodLinkNest RX3 144 yX1_isDoubtful "DittoLog") ∈ lw_tbl := xt_1 _ (List.mem_of_getElem? (i := 99) (by decide +kernel))
theorem xn_37 : (Cond.methodLinkNest RX3 147 yX1_followersOf "DittoLog") ∈ lw_tbl := xt_1 _ (List.mem_of_getElem? (i := 104) (by decide +kernel))
theorem xn_38 : (Cond.methodLinkNest RX3 150 yX1_isRow "DittoLog") ∈ lw_tbl := xt_1 _ (List.mem_of_getElem? (i := 113) (by decide +kernel))
theorem xn_39 : (Cond.methodLinkNest RX3 154 yX1_isWrittenOut "DittoLog") ∈ lw_tbl := xt_1 _ (List.mem_of_getElem? (i := 114) (by decide +kernel))
theorem xn_40 : (Cond.methodLinkNest RX3 160 yX1_countLatest "DittoLog") ∈ lw_tbl := xt_1 _ (List.mem_of_getElem? (i := 123) (by decide +kernel))
theorem xn_41 : (Cond.methodLinkNest RX3 163 yX1_countCorrections "DittoLog") ∈ lw_tbl := xt_1 _ (List.mem_of_getElem? (i := 127) (by decide +kernel))
theorem xn_42 : (Cond.methodLinkNest RX3 166 yX1_countMeaningless "DittoLog") ∈ lw_tbl := xt_1 _ (List.mem_of_getElem? (i := 131) (by decide +kernel))
theorem xn_43 : (Cond.methodLinkNest RX3 169 yX1_longestChain "DittoLog") ∈ lw_tbl := xt_1 _ (List.mem_of_getElem? (i := 135) (by decide +kernel))
theorem xn_44 : (Cond.methodLinkNest RX3 175 yX1_countDoubtful "DittoLog") ∈ lw_tbl := xt_1 _ (List.mem_of_getElem? (i := 148) (by decide +kernel))
theorem xn_45 : (Cond.methodLinkNest RX3 178 yX1_watches "DittoLog") ∈ lw_tbl := xt_1 _ (List.mem_of_getElem? (i := 157) (by decide +kernel))
theorem xn_46 : (Cond.methodLinkNest RX3 181 yX1_firstRowOf "DittoLog") ∈ lw_tbl := xt_1 _ (List.mem_of_getElem? (i := 161) (by decide +kernel))
theorem xn_47 : (Cond.methodLinkNest RX3 184 yX1_lastRowOf "DittoLog") ∈ lw_tbl := xt_1 _ (List.mem_of_getElem? (i := 165) (by decide +kernel))
theorem xn_48 : (Cond.methodLinkNest RX3 187 yX1_runOf "DittoLog") ∈ lw_tbl := xt_1 _ (List.mem_of_getElem? (i := 170) (by decide +kernel))
theorem xn_49 : (Cond.methodLinkNest RX3 193 yX1_areRows "DittoLog") ∈ lw_tbl := xt_1 _ (List.mem_of_getElem? (i := 186) (by decide +kernel))
theorem xn_50 : (Cond.methodLinkNest RX3 196 yX1_wayOf "DittoLog") ∈ lw_tbl := xt_1 _ (List.mem_of_getElem? (i := 190) (by decide +kernel))
theorem xn_51 : (Cond.methodLinkNest RX1 125 yX3_wayNorth "DittoLog") ∈ lw_tbl := xt_1 _ (List.mem_of_getElem? (i := 195) (by decide +kernel))
theorem xn_52 : (Cond.methodLinkNest RX3 212 yX1_countWrittenOut "DittoLog") ∈ lw_tbl := xt_1 _ (List.mem_of_getElem? (i := 231) (by decide +kernel))
theorem xn_53 : (Cond.methodLinkNest RX3 215 yX1_countWrongSums "DittoLog") ∈ lw_tbl := xt_1 _ (List.mem_of_getElem? (i := 236) (by decide +kernel))
theorem xNest_tbl : ∀ w ∈ xNest, w ∈ lw_tbl := List.forall_mem_cons.mpr ⟨xn_0, List.forall_mem_cons.mpr ⟨xn_1, List.forall_mem_cons.mpr ⟨xn_2, List.forall_mem_cons.mpr ⟨xn_3, List.forall_mem_cons.mpr ⟨xn_4, List.forall_mem_cons.mpr ⟨xn_5, List.forall_mem_cons.mpr ⟨xn_6, List.forall_mem_cons.mpr ⟨xn_7, List.forall_mem_cons.mpr ⟨xn_8, List.forall_mem_cons.mpr ⟨xn_9, List.forall_mem_cons.mpr ⟨xn_10, List.forall_mem_cons.mpr ⟨xn_11, List.forall_mem_cons.mpr ⟨xn_12, List.forall_mem_cons.mpr ⟨xn_13, List.forall_mem_cons.mpr ⟨xn_14, List.forall_mem_cons.mpr ⟨xn_15, List.forall_mem_cons.mpr ⟨xn_16, List.forall_mem_cons.mpr ⟨xn_17, List.forall_mem_cons.mpr ⟨xn_18, List.forall_mem_cons.mpr ⟨xn_19, List.forall_mem_cons.mpr ⟨xn_20, List.forall_mem_cons.mpr ⟨xn_21, List.forall_mem_cons.mpr ⟨xn_22, List.forall_mem_cons.mpr ⟨xn_23, List.forall_mem_cons.mpr ⟨xn_24, List.forall_mem_cons.mpr ⟨xn_25, List.forall_mem_cons.mpr ⟨xn_26, List.forall_mem_cons.mpr ⟨xn_27, List.forall_mem_cons.mpr ⟨xn_28, List.forall_mem_cons.mpr ⟨xn_29, List.forall_mem_cons.mpr ⟨xn_30, List.forall_mem_cons.mpr ⟨xn_31, List.forall_mem_cons.mpr ⟨xn_32, List.forall_mem_cons.mpr ⟨xn_33, List.forall_mem_cons.mpr ⟨xn_34, List.forall_mem_cons.mpr ⟨xn_35, List.forall_mem_cons.mpr ⟨xn_36, List.forall_mem_cons.mpr ⟨xn_37, List.forall_mem_cons.mpr ⟨xn_38, List.forall_mem_cons.mpr ⟨xn_39, List.forall_mem_cons.mpr ⟨xn_40, List.forall_mem_cons.mpr ⟨xn_41, List.forall_mem_cons.mpr ⟨xn_42, List.forall_mem_cons.mpr ⟨xn_43, List.forall_mem_cons.mpr ⟨xn_44, List.forall_mem_cons.mpr ⟨xn_45, List.forall_mem_cons.mpr ⟨xn_46, List.forall_mem_cons.mpr ⟨xn_47, List.forall_mem_cons.mpr ⟨xn_48, List.forall_mem_cons.mpr ⟨xn_49, List.forall_mem_cons.mpr ⟨xn_50, List.forall_mem_cons.mpr ⟨xn_51, List.forall_mem_cons.mpr ⟨xn_52, List.forall_mem_cons.mpr ⟨xn_53, fun _ h => absurd h List.not_mem_nil⟩⟩⟩⟩⟩⟩⟩⟩⟩⟩⟩⟩⟩⟩⟩⟩⟩⟩⟩⟩⟩⟩⟩⟩⟩⟩⟩⟩⟩⟩⟩⟩⟩⟩⟩⟩⟩⟩⟩⟩⟩⟩⟩⟩⟩⟩⟩⟩⟩⟩⟩⟩⟩⟩
theorem n_0 : (Cond.methodLinkNest RX3 9 yX1_init "DittoLog") ∈ xNest := List.mem_of_getElem? (i := 0) rfl
theorem n_1 : (Cond.fieldLinkNest RX3 45 "DittoLog$Log" "rows" "I" "DittoLog") ∈ xNest := List.mem_of_getElem? (i := 1) rfl
theorem n_2 : (Cond.methodLinkNest RX3 25 yX0_init "DittoLog") ∈ xNest := List.mem_of_getElem? (i := 2) rfl
theorem n_3 : (Cond.methodLinkNest RX0 17 yX1_init "DittoLog") ∈ xNest := List.mem_of_getElem? (i := 3) rfl
theorem n_4 : (Cond.fieldLinkNest RX3 129 "DittoLog$History" "size" "I" "DittoLog") ∈ xNest := List.mem_of_getElem? (i := 4) rfl
theorem n_5 : (Cond.methodLinkNest RX3 32 yX2_init "DittoLog") ∈ xNest := List.mem_of_getElem? (i := 5) rfl
theorem n_6 : (Cond.fieldLinkNest RX3 122 "DittoLog$RowsText" "length" "I" "DittoLog") ∈ xNest := List.mem_of_getElem? (i := 6) rfl
theorem n_7 : (Cond.methodLinkNest RX3 49 yX0_remember "DittoLog") ∈ xNest := List.mem_of_getElem? (i := 7) rfl
theorem n_8 : (Cond.methodLinkNest RX0 29 yX1_copyFrom "DittoLog") ∈ xNest := List.mem_of_getElem? (i := 8) rfl
theorem n_9 : (Cond.methodLinkNest RX1 40 yX3_copyInto "DittoLog") ∈ xNest := List.mem_of_getElem? (i := 9) rfl
theorem n_10 : (Cond.methodLinkNest RX3 53 yX1_appendRow "DittoLog") ∈ xNest := List.mem_of_getElem? (i := 10) rfl
theorem n_11 : (Cond.methodLinkNest RX3 57 yX2_readRows "DittoLog") ∈ xNest := List.mem_of_getElem? (i := 11) rfl
theorem n_12 : (Cond.fieldLinkNest RX2 46 "DittoLog" "COLUMN_MAX" "[I" "DittoLog") ∈ xNest := List.mem_of_getElem? (i := 12) rfl
theorem n_13 : (Cond.methodLinkNest RX2 49 yX3_at "DittoLog") ∈ xNest := List.mem_of_getElem? (i := 13) rfl
theorem n_14 : (Cond.methodLinkNest RX3 61 yX2_rowsRead "DittoLog") ∈ xNest := List.mem_of_getElem? (i := 14) rfl
theorem n_15 : (Cond.methodLinkNest RX3 64 yX2_read "DittoLog") ∈ xNest := List.mem_of_getElem? (i := 15) rfl
theorem n_16 : (Cond.methodLinkNest RX3 68 yX1_dropRow "DittoLog") ∈ xNest := List.mem_of_getElem? (i := 16) rfl
theorem n_17 : (Cond.methodLinkNest RX3 71 yX1_isCell "DittoLog") ∈ xNest := List.mem_of_getElem? (i := 17) rfl
theorem n_18 : (Cond.methodLinkNest RX1 52 yX3_isColumn "DittoLog") ∈ xNest := List.mem_of_getElem? (i := 18) rfl
theorem n_19 : (Cond.methodLinkNest RX3 74 yX1_entriesOf "DittoLog") ∈ xNest := List.mem_of_getElem? (i := 19) rfl
theorem n_20 : (Cond.methodLinkNest RX1 44 yX3_at "DittoLog") ∈ xNest := List.mem_of_getElem? (i := 20) rfl
theorem n_21 : (Cond.methodLinkNest RX3 77 yX1_latestOf "DittoLog") ∈ xNest := List.mem_of_getElem? (i := 21) rfl
theorem n_22 : (Cond.methodLinkNest RX3 80 yX1_changedBy "DittoLog") ∈ xNest := List.mem_of_getElem? (i := 22) rfl
theorem n_23 : (Cond.methodLinkNest RX3 84 yX1_pushEntry "DittoLog") ∈ xNest := List.mem_of_getElem? (i := 23) rfl
theorem n_24 : (Cond.methodLinkNest RX3 88 yX1_entryOf "DittoLog") ∈ xNest := List.mem_of_getElem? (i := 24) rfl
theorem n_25 : (Cond.methodLinkNest RX3 91 yX1_popEntry "DittoLog") ∈ xNest := List.mem_of_getElem? (i := 25) rfl
theorem n_26 : (Cond.methodLinkNest RX3 95 yX1_sumOf "DittoLog") ∈ xNest := List.mem_of_getElem? (i := 26) rfl
theorem n_27 : (Cond.methodLinkNest RX3 99 yX1_writeSum "DittoLog") ∈ xNest := List.mem_of_getElem? (i := 27) rfl
theorem n_28 : (Cond.methodLinkNest RX3 112 yX1_settingOf "DittoLog") ∈ xNest := List.mem_of_getElem? (i := 28) rfl
theorem n_29 : (Cond.methodLinkNest RX3 115 yX1_changeSetting "DittoLog") ∈ xNest := List.mem_of_getElem? (i := 29) rfl
theorem n_30 : (Cond.methodLinkNest RX3 118 yX2_append "DittoLog") ∈ xNest := List.mem_of_getElem? (i := 30) rfl
theorem n_31 : (Cond.methodLinkNest RX3 125 yX0_takeInto "DittoLog") ∈ xNest := List.mem_of_getElem? (i := 31) rfl
theorem n_32 : (Cond.methodLinkNest RX3 132 yX1_copyFrom "DittoLog") ∈ xNest := List.mem_of_getElem? (i := 32) rfl
theorem n_33 : (Cond.methodLinkNest RX3 135 yX1_meaningOf "DittoLog") ∈ xNest := List.mem_of_getElem? (i := 33) rfl
theorem n_34 : (Cond.methodLinkNest RX3 138 yX1_sourceOf "DittoLog") ∈ xNest := List.mem_of_getElem? (i := 34) rfl
theorem n_35 : (Cond.methodLinkNest RX3 141 yX1_chainOf "DittoLog") ∈ xNest := List.mem_of_getElem? (i := 35) rfl
theorem n_36 : (Cond.methodLinkNest RX3 144 yX1_isDoubtful "DittoLog") ∈ xNest := List.mem_of_getElem? (i := 36) rfl
theorem n_37 : (Cond.methodLinkNest RX3 147 yX1_followersOf "DittoLog") ∈ xNest := List.mem_of_getElem? (i := 37) rfl
theorem n_38 : (Cond.methodLinkNest RX3 150 yX1_isRow "DittoLog") ∈ xNest := List.mem_of_getElem? (i := 38) rfl
theorem n_39 : (Cond.methodLinkNest RX3 154 yX1_isWrittenOut "DittoLog") ∈ xNest := List.mem_of_getElem? (i := 39) rfl
theorem n_40 : (Cond.methodLinkNest RX3 160 yX1_countLatest "DittoLog") ∈ xNest := List.mem_of_getElem? (i := 40) rfl
theorem n_41 : (Cond.methodLinkNest RX3 163 yX1_countCorrections "DittoLog") ∈ xNest := List.mem_of_getElem? (i := 41) rfl
theorem n_42 : (Cond.methodLinkNest RX3 166 yX1_countMeaningless "DittoLog") ∈ xNest := List.mem_of_getElem? (i := 42) rfl
theorem n_43 : (Cond.methodLinkNest RX3 169 yX1_longestChain "DittoLog") ∈ xNest := List.mem_of_getElem? (i := 43) rfl
theorem n_44 : (Cond.methodLinkNest RX3 175 yX1_countDoubtful "DittoLog") ∈ xNest := List.mem_of_getElem? (i := 44) rfl
theorem n_45 : (Cond.methodLinkNest RX3 178 yX1_watches "DittoLog") ∈ xNest := List.mem_of_getElem? (i := 45) rfl
theorem n_46 : (Cond.methodLinkNest RX3 181 yX1_firstRowOf "DittoLog") ∈ xNest := List.mem_of_getElem? (i := 46) rfl
theorem n_47 : (Cond.methodLinkNest RX3 184 yX1_lastRowOf "DittoLog") ∈ xNest := List.mem_of_getElem? (i := 47) rfl
theorem n_48 : (Cond.methodLinkNest RX3 187 yX1_runOf "DittoLog") ∈ xNest := List.mem_of_getElem? (i := 48) rfl
theorem n_49 : (Cond.methodLinkNest RX3 193 yX1_areRows "DittoLog") ∈ xNest := List.mem_of_getElem? (i := 49) rfl
theorem n_50 : (Cond.methodLinkNest RX3 196 yX1_wayOf "DittoLog") ∈ xNest := List.mem_of_getElem? (i := 50) rfl
theorem n_51 : (Cond.methodLinkNest RX1 125 yX3_wayNorth "DittoLog") ∈ xNest := List.mem_of_getElem? (i := 51) rfl
theorem n_52 : (Cond.methodLinkNest RX3 212 yX1_countWrittenOut "DittoLog") ∈ xNest := List.mem_of_getElem? (i := 52) rfl
theorem n_53 : (Cond.methodLinkNest RX3 215 yX1_countWrongSums "DittoLog") ∈ xNest := List.mem_of_getElem? (i := 53) rfl
