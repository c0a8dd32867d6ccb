/-- the words of the tables that stay good in every callee -/
def GW : List Cond := lw_tbl.filter goodWord
theorem mem_gw {w : Cond} {i : Nat} (h : tables_1[i]? = some w) (hg : goodWord w = true) : w ∈ GW := List.mem_filter.mpr ⟨List.mem_append_right _ (List.mem_of_getElem? h), hg⟩
theorem mem_gw1 {w : Cond} {i : Nat} (h : tables_1_1[i]? = some w) (hg : goodWord w = true) : w ∈ GW := List.mem_filter.mpr ⟨List.mem_append_right _ (List.mem_append_left _ (List.mem_of_getElem? h)), hg⟩
theorem mem_gw2 {w : Cond} {i : Nat} (h : tables_1_2[i]? = some w) (hg : goodWord w = true) : w ∈ GW := List.mem_filter.mpr ⟨List.mem_append_right _ (List.mem_append_right _ (List.mem_append_left _ (List.mem_of_getElem? h))), hg⟩
theorem mem_gw3 {w : Cond} {i : Nat} (h : tables_1_3[i]? = some w) (hg : goodWord w = true) : w ∈ GW := List.mem_filter.mpr ⟨List.mem_append_right _ (List.mem_append_right _ (List.mem_append_right _ (List.mem_append_left _ (List.mem_of_getElem? h)))), hg⟩
theorem mem_gw4 {w : Cond} {i : Nat} (h : tables_1_4[i]? = some w) (hg : goodWord w = true) : w ∈ GW := List.mem_filter.mpr ⟨List.mem_append_right _ (List.mem_append_right _ (List.mem_append_right _ (List.mem_append_right _ (List.mem_append_left _ (List.mem_of_getElem? h))))), hg⟩
theorem mem_gw5 {w : Cond} {i : Nat} (h : tables_1_5[i]? = some w) (hg : goodWord w = true) : w ∈ GW := List.mem_filter.mpr ⟨List.mem_append_right _ (List.mem_append_right _ (List.mem_append_right _ (List.mem_append_right _ (List.mem_append_right _ (List.mem_of_getElem? h))))), hg⟩
theorem gw_tbl {w : Cond} (h : w ∈ GW) : w ∈ lw_tbl := (List.mem_filter.mp h).1
theorem gw_good {w : Cond} (h : w ∈ GW) : (w.onTables && w.keeps) = true ∨ ∃ ty, w = .arrayClass ty := good_of_word (List.mem_filter.mp h).2
theorem k0 : Cond.initialized "ContextMixLaw" ∈ GW := mem_gw1 (i := 0) rfl rfl
theorem k1 : Cond.initialized "ContextMix" ∈ GW := mem_gw1 (i := 1) rfl rfl
theorem k2 : Cond.initialized "ContextMix$Numbers" ∈ GW := mem_gw1 (i := 2) rfl rfl
theorem k3 : Cond.initialized "java/lang/Math" ∈ GW := mem_gw1 (i := 3) rfl rfl
theorem k4 : Cond.initialized "ContextMix$Predictors" ∈ GW := mem_gw1 (i := 4) rfl rfl
theorem k5 : Cond.initialized "ContextMix$Side" ∈ GW := mem_gw1 (i := 5) rfl rfl
theorem k6 : Cond.initialized "ContextMix$History" ∈ GW := mem_gw1 (i := 6) rfl rfl
theorem k7 : Cond.initialized "ContextMix$Mixer" ∈ GW := mem_gw1 (i := 7) rfl rfl
theorem k8 : Cond.initialized "java/util/Arrays" ∈ GW := mem_gw1 (i := 8) rfl rfl
theorem k9 : Cond.initialized "ContextMix$Corrections" ∈ GW := mem_gw1 (i := 9) rfl rfl
theorem k10 : Cond.initialized "java/lang/System" ∈ GW := mem_gw1 (i := 10) rfl rfl
theorem k11 : Cond.initialized "ContextMix$Slots" ∈ GW := mem_gw1 (i := 11) rfl rfl
theorem k12 : Cond.initialized "ContextMix$Match" ∈ GW := mem_gw1 (i := 12) rfl rfl
theorem k13 : Cond.initialized "ContextMix$Output" ∈ GW := mem_gw1 (i := 13) rfl rfl
theorem k14 : Cond.initialized "ContextMix$Coder" ∈ GW := mem_gw1 (i := 14) rfl rfl
theorem k15 : Cond.initialized "ContextMixModel" ∈ GW := mem_gw1 (i := 15) rfl rfl
theorem k16 : Cond.initialized "java/lang/Throwable" ∈ GW := mem_gw1 (i := 16) rfl rfl
theorem k17 : Cond.initialized "java/lang/Exception" ∈ GW := mem_gw1 (i := 17) rfl rfl
theorem k18 : Cond.initialized "java/lang/RuntimeException" ∈ GW := mem_gw1 (i := 18) rfl rfl
theorem k19 : Cond.initialized "java/lang/IndexOutOfBoundsException" ∈ GW := mem_gw1 (i := 19) rfl rfl
theorem k20 : Cond.initialized "java/lang/ArrayIndexOutOfBoundsException" ∈ GW := mem_gw1 (i := 20) rfl rfl
theorem k21 : Cond.initialized "java/lang/String" ∈ GW := mem_gw1 (i := 21) rfl rfl
theorem k22 : Cond.classLink "ContextMixLaw" (8) "ContextMix" ∈ GW := mem_gw1 (i := 22) rfl rfl
theorem k23 : Cond.instantiable "ContextMix" (10) ∈ GW := mem_gw1 (i := 23) rfl rfl
theorem k24 : Cond.methodLink "ContextMixLaw" (21) ⟨"ContextMix", "<init>", "(I)V"⟩ ∈ GW := mem_gw1 (i := 24) rfl rfl
theorem k25 : Cond.instanceMethod ⟨"ContextMix", "<init>", "(I)V"⟩ ∈ GW := mem_gw1 (i := 25) rfl rfl
theorem k26 : Cond.code ⟨"ContextMix", "<init>", "(I)V"⟩ prog_1_method_1_code (3) (Option.none : Option FieldType) ∈ GW := mem_gw1 (i := 26) rfl rfl
theorem k27 : Cond.methodLink "ContextMix" (1) ⟨"java/lang/Object", "<init>", "()V"⟩ ∈ GW := mem_gw1 (i := 27) rfl rfl
theorem k28 : Cond.instanceMethod ⟨"java/lang/Object", "<init>", "()V"⟩ ∈ GW := mem_gw1 (i := 28) rfl rfl
theorem k29 : Cond.code ⟨"java/lang/Object", "<init>", "()V"⟩ object_method_1_code (1) (Option.none : Option FieldType) ∈ GW := mem_gw1 (i := 29) rfl rfl
theorem k30 : Cond.methodLink "ContextMix" (9) ⟨"ContextMix$Numbers", "bound", "(III)I"⟩ ∈ GW := mem_gw1 (i := 30) rfl rfl
theorem k31 : Cond.static ⟨"ContextMix$Numbers", "bound", "(III)I"⟩ ∈ GW := mem_gw1 (i := 31) rfl rfl
theorem k32 : Cond.code ⟨"ContextMix$Numbers", "bound", "(III)I"⟩ prog_7_method_5_code (3) (Option.some FieldType.int) ∈ GW := mem_gw1 (i := 32) rfl rfl
theorem k33 : Cond.methodLink "ContextMix$Numbers" (27) ⟨"java/lang/Math", "min", "(II)I"⟩ ∈ GW := mem_gw1 (i := 33) rfl rfl
theorem k34 : Cond.static ⟨"java/lang/Math", "min", "(II)I"⟩ ∈ GW := mem_gw1 (i := 34) rfl rfl
theorem k35 : Cond.code ⟨"java/lang/Math", "min", "(II)I"⟩ prog_17_method_69_code (2) (Option.some FieldType.int) ∈ GW := mem_gw1 (i := 35) rfl rfl
theorem k36 : Cond.methodLink "ContextMix$Numbers" (33) ⟨"java/lang/Math", "max", "(II)I"⟩ ∈ GW := mem_gw1 (i := 36) rfl rfl
theorem k37 : Cond.static ⟨"java/lang/Math", "max", "(II)I"⟩ ∈ GW := mem_gw1 (i := 37) rfl rfl
theorem k38 : Cond.code ⟨"java/lang/Math", "max", "(II)I"⟩ prog_17_method_65_code (2) (Option.some FieldType.int) ∈ GW := mem_gw1 (i := 38) rfl rfl
theorem k39 : Cond.classLink "ContextMix" (10) "ContextMix$Numbers" ∈ GW := mem_gw1 (i := 39) rfl rfl
theorem k40 : Cond.instantiable "ContextMix$Numbers" (1) ∈ GW := mem_gw1 (i := 40) rfl rfl
theorem k41 : Cond.methodLink "ContextMix" (15) ⟨"ContextMix$Numbers", "<init>", "()V"⟩ ∈ GW := mem_gw1 (i := 41) rfl rfl
theorem k42 : Cond.instanceMethod ⟨"ContextMix$Numbers", "<init>", "()V"⟩ ∈ GW := mem_gw1 (i := 42) rfl rfl
theorem k43 : Cond.code ⟨"ContextMix$Numbers", "<init>", "()V"⟩ prog_7_method_1_code (3) (Option.none : Option FieldType) ∈ GW := mem_gw1 (i := 43) rfl rfl
theorem k44 : Cond.methodLink "ContextMix$Numbers" (1) ⟨"java/lang/Object", "<init>", "()V"⟩ ∈ GW := mem_gw1 (i := 44) rfl rfl
theorem k45 : Cond.methodLink "ContextMix$Numbers" (13) ⟨"ContextMix$Numbers", "squashed", "(I)I"⟩ ∈ GW := mem_gw1 (i := 45) rfl rfl
theorem k46 : Cond.static ⟨"ContextMix$Numbers", "squashed", "(I)I"⟩ ∈ GW := mem_gw1 (i := 46) rfl rfl
theorem k47 : Cond.code ⟨"ContextMix$Numbers", "squashed", "(I)I"⟩ prog_7_method_3_code (3) (Option.some FieldType.int) ∈ GW := mem_gw1 (i := 47) rfl rfl
theorem k48 : Cond.fieldLink "ContextMix$Numbers" (21) "ContextMix$Numbers" "CURVE" "[I" ∈ GW := mem_gw1 (i := 48) rfl rfl
theorem k50 : Cond.fieldLink "ContextMix$Numbers" (7) "ContextMix$Numbers" "stretches" "[I" ∈ GW := mem_gw1 (i := 50) rfl rfl
theorem k51 : Cond.laysFinal "ContextMix$Numbers" "ContextMix$Numbers" "stretches" "[I" ∈ GW := mem_gw1 (i := 51) rfl rfl
theorem k54 : Cond.arrayClass FieldType.int ∈ GW := mem_gw1 (i := 54) rfl rfl
theorem k55 : Cond.classLink "ContextMix" (20) "ContextMix$Predictors" ∈ GW := mem_gw1 (i := 55) rfl rfl
theorem k56 : Cond.instantiable "ContextMix$Predictors" (4) ∈ GW := mem_gw1 (i := 56) rfl rfl
theorem k58 : Cond.instanceMethod ⟨"ContextMix$Predictors", "<init>", "()V"⟩ ∈ GW := mem_gw1 (i := 58) rfl rfl
theorem k59 : Cond.code ⟨"ContextMix$Predictors", "<init>", "()V"⟩ prog_9_method_1_code (1) (Option.none : Option FieldType) ∈ GW := mem_gw1 (i := 59) rfl rfl
theorem k60 : Cond.methodLink "ContextMix$Predictors" (3) ⟨"java/lang/Object", "<init>", "()V"⟩ ∈ GW := mem_gw1 (i := 60) rfl rfl
theorem k61 : Cond.fieldLink "ContextMix$Predictors" (9) "ContextMix$Predictors" "kinds" "[I" ∈ GW := mem_gw1 (i := 61) rfl rfl
theorem k63 : Cond.fieldLink "ContextMix$Predictors" (15) "ContextMix$Predictors" "ns" "[I" ∈ GW := mem_gw1 (i := 63) rfl rfl
theorem k65 : Cond.fieldLink "ContextMix$Predictors" (18) "ContextMix$Predictors" "offs" "[Z" ∈ GW := mem_gw1 (i := 65) rfl rfl
theorem k67 : Cond.fieldLink "ContextMix$Predictors" (22) "ContextMix$Predictors" "size" "I" ∈ GW := mem_gw1 (i := 67) rfl rfl
theorem k70 : Cond.laysFinal "ContextMix$Predictors" "ContextMix$Predictors" "kinds" "[I" ∈ GW := mem_gw1 (i := 70) rfl rfl
theorem k72 : Cond.laysFinal "ContextMix$Predictors" "ContextMix$Predictors" "ns" "[I" ∈ GW := mem_gw1 (i := 72) rfl rfl
theorem k74 : Cond.laysFinal "ContextMix$Predictors" "ContextMix$Predictors" "offs" "[Z" ∈ GW := mem_gw1 (i := 74) rfl rfl
theorem k76 : Cond.lays "ContextMix$Predictors" "ContextMix$Predictors" "size" "I" ∈ GW := mem_gw1 (i := 76) rfl rfl
theorem k79 : Cond.arrayClass FieldType.boolean ∈ GW := mem_gw1 (i := 79) rfl rfl
theorem k80 : Cond.classLink "ContextMix" (27) "ContextMix$Side" ∈ GW := mem_gw1 (i := 80) rfl rfl
theorem k81 : Cond.instantiable "ContextMix$Side" (10) ∈ GW := mem_gw1 (i := 81) rfl rfl
theorem k82 : Cond.methodLink "ContextMix" (29) ⟨"ContextMix$Side", "<init>", "(ILContextMix$Predictors;LContextMix$Numbers;)V"⟩ ∈ GW := mem_gw1 (i := 82) rfl rfl
theorem k83 : Cond.instanceMethod ⟨"ContextMix$Side", "<init>", "(ILContextMix$Predictors;LContextMix$Numbers;)V"⟩ ∈ GW := mem_gw1 (i := 83) rfl rfl
theorem k84 : Cond.code ⟨"ContextMix$Side", "<init>", "(ILContextMix$Predictors;LContextMix$Numbers;)V"⟩ prog_10_method_1_code (5) (Option.none : Option FieldType) ∈ GW := mem_gw1 (i := 84) rfl rfl
theorem k85 : Cond.methodLink "ContextMix$Side" (3) ⟨"java/lang/Object", "<init>", "()V"⟩ ∈ GW := mem_gw1 (i := 85) rfl rfl
theorem k86 : Cond.classLink "ContextMix$Side" (9) "ContextMix$History" ∈ GW := mem_gw1 (i := 86) rfl rfl
theorem k87 : Cond.instantiable "ContextMix$History" (4) ∈ GW := mem_gw1 (i := 87) rfl rfl
theorem k89 : Cond.instanceMethod ⟨"ContextMix$History", "<init>", "()V"⟩ ∈ GW := mem_gw1 (i := 89) rfl rfl
theorem k90 : Cond.code ⟨"ContextMix$History", "<init>", "()V"⟩ prog_4_method_1_code (1) (Option.none : Option FieldType) ∈ GW := mem_gw1 (i := 90) rfl rfl
theorem k91 : Cond.methodLink "ContextMix$History" (3) ⟨"java/lang/Object", "<init>", "()V"⟩ ∈ GW := mem_gw1 (i := 91) rfl rfl
theorem k92 : Cond.fieldLink "ContextMix$History" (9) "ContextMix$History" "bytes" "[I" ∈ GW := mem_gw1 (i := 92) rfl rfl
theorem k93 : Cond.fieldLink "ContextMix$History" (19) "ContextMix$History" "size" "I" ∈ GW := mem_gw1 (i := 93) rfl rfl
theorem k96 : Cond.fieldLink "ContextMix$History" (15) "ContextMix$History" "node" "I" ∈ GW := mem_gw1 (i := 96) rfl rfl
theorem k99 : Cond.fieldLink "ContextMix$History" (22) "ContextMix$History" "bitsGoing" "I" ∈ GW := mem_gw1 (i := 99) rfl rfl
theorem k102 : Cond.laysFinal "ContextMix$History" "ContextMix$History" "bytes" "[I" ∈ GW := mem_gw1 (i := 102) rfl rfl
theorem k104 : Cond.lays "ContextMix$History" "ContextMix$History" "size" "I" ∈ GW := mem_gw1 (i := 104) rfl rfl
theorem k106 : Cond.lays "ContextMix$History" "ContextMix$History" "node" "I" ∈ GW := mem_gw1 (i := 106) rfl rfl
theorem k108 : Cond.lays "ContextMix$History" "ContextMix$History" "bitsGoing" "I" ∈ GW := mem_gw1 (i := 108) rfl rfl
theorem k111 : Cond.classLink "ContextMix$Side" (18) "ContextMix$Mixer" ∈ GW := mem_gw1 (i := 111) rfl rfl
theorem k112 : Cond.instantiable "ContextMix$Mixer" (3) ∈ GW := mem_gw1 (i := 112) rfl rfl
theorem k113 : Cond.methodLink "ContextMix$Side" (20) ⟨"ContextMix$Mixer", "<init>", "()V"⟩ ∈ GW := mem_gw1 (i := 113) rfl rfl
theorem k114 : Cond.instanceMethod ⟨"ContextMix$Mixer", "<init>", "()V"⟩ ∈ GW := mem_gw1 (i := 114) rfl rfl
theorem k115 : Cond.code ⟨"ContextMix$Mixer", "<init>", "()V"⟩ prog_6_method_1_code (1) (Option.none : Option FieldType) ∈ GW := mem_gw1 (i := 115) rfl rfl
theorem k116 : Cond.methodLink "ContextMix$Mixer" (3) ⟨"java/lang/Object", "<init>", "()V"⟩ ∈ GW := mem_gw1 (i := 116) rfl rfl
theorem k117 : Cond.methodLink "ContextMix$Mixer" (15) ⟨"ContextMix$Mixer", "fill", "([I)V"⟩ ∈ GW := mem_gw1 (i := 117) rfl rfl
theorem k118 : Cond.static ⟨"ContextMix$Mixer", "fill", "([I)V"⟩ ∈ GW := mem_gw1 (i := 118) rfl rfl
theorem k119 : Cond.code ⟨"ContextMix$Mixer", "fill", "([I)V"⟩ prog_6_method_3_code (2) (Option.none : Option FieldType) ∈ GW := mem_gw1 (i := 119) rfl rfl
theorem k120 : Cond.methodLink "ContextMix$Mixer" (19) ⟨"java/util/Arrays", "fill", "([II)V"⟩ ∈ GW := mem_gw1 (i := 120) rfl rfl
theorem k121 : Cond.static ⟨"java/util/Arrays", "fill", "([II)V"⟩ ∈ GW := mem_gw1 (i := 121) rfl rfl
theorem k122 : Cond.code ⟨"java/util/Arrays", "fill", "([II)V"⟩ prog_22_method_103_code (4) (Option.none : Option FieldType) ∈ GW := mem_gw1 (i := 122) rfl rfl
theorem k123 : Cond.fieldLink "ContextMix$Mixer" (11) "ContextMix$Mixer" "weights" "[I" ∈ GW := mem_gw1 (i := 123) rfl rfl
theorem k125 : Cond.fieldLink "ContextMix$Mixer" (30) "ContextMix$Mixer" "row" "I" ∈ GW := mem_gw1 (i := 125) rfl rfl
theorem k126 : Cond.fieldLink "ContextMix$Mixer" (51) "ContextMix$Mixer" "told" "I" ∈ GW := mem_gw1 (i := 126) rfl rfl
theorem k127 : Cond.laysFinal "ContextMix$Mixer" "ContextMix$Mixer" "weights" "[I" ∈ GW := mem_gw1 (i := 127) rfl rfl
theorem k129 : Cond.lays "ContextMix$Mixer" "ContextMix$Mixer" "row" "I" ∈ GW := mem_gw1 (i := 129) rfl rfl
theorem k131 : Cond.lays "ContextMix$Mixer" "ContextMix$Mixer" "told" "I" ∈ GW := mem_gw1 (i := 131) rfl rfl
theorem k134 : Cond.classLink "ContextMix$Side" (28) "ContextMix$Corrections" ∈ GW := mem_gw1 (i := 134) rfl rfl
theorem k135 : Cond.instantiable "ContextMix$Corrections" (2) ∈ GW := mem_gw1 (i := 135) rfl rfl
theorem k136 : Cond.methodLink "ContextMix$Side" (30) ⟨"ContextMix$Corrections", "<init>", "()V"⟩ ∈ GW := mem_gw1 (i := 136) rfl rfl
theorem k137 : Cond.instanceMethod ⟨"ContextMix$Corrections", "<init>", "()V"⟩ ∈ GW := mem_gw1 (i := 137) rfl rfl
theorem k138 : Cond.code ⟨"ContextMix$Corrections", "<init>", "()V"⟩ prog_3_method_1_code (1) (Option.none : Option FieldType) ∈ GW := mem_gw1 (i := 138) rfl rfl
theorem k139 : Cond.methodLink "ContextMix$Corrections" (1) ⟨"java/lang/Object", "<init>", "()V"⟩ ∈ GW := mem_gw1 (i := 139) rfl rfl
theorem k140 : Cond.methodLink "ContextMix$Corrections" (13) ⟨"ContextMix$Corrections", "fill", "([I)V"⟩ ∈ GW := mem_gw1 (i := 140) rfl rfl
theorem k141 : Cond.static ⟨"ContextMix$Corrections", "fill", "([I)V"⟩ ∈ GW := mem_gw1 (i := 141) rfl rfl
theorem k142 : Cond.code ⟨"ContextMix$Corrections", "fill", "([I)V"⟩ prog_3_method_3_code (2) (Option.none : Option FieldType) ∈ GW := mem_gw1 (i := 142) rfl rfl
theorem k143 : Cond.methodLink "ContextMix$Corrections" (17) ⟨"ContextMix$Numbers", "squashed", "(I)I"⟩ ∈ GW := mem_gw1 (i := 143) rfl rfl
theorem k144 : Cond.methodLink "ContextMix$Corrections" (23) ⟨"java/lang/System", "arraycopy", "(Ljava/lang/Object;ILjava/lang/Object;II)V"⟩ ∈ GW := mem_gw1 (i := 144) rfl rfl
theorem k145 : Cond.static ⟨"java/lang/System", "arraycopy", "(Ljava/lang/Object;ILjava/lang/Object;II)V"⟩ ∈ GW := mem_gw1 (i := 145) rfl rfl
theorem k146 : Cond.native ⟨"java/lang/System", "arraycopy", "(Ljava/lang/Object;ILjava/lang/Object;II)V"⟩ ∈ GW := mem_gw1 (i := 146) rfl rfl
theorem k147 : Cond.fieldLink "ContextMix$Corrections" (9) "ContextMix$Corrections" "cells" "[I" ∈ GW := mem_gw1 (i := 147) rfl rfl
theorem k149 : Cond.fieldLink "ContextMix$Corrections" (37) "ContextMix$Corrections" "nearest" "I" ∈ GW := mem_gw1 (i := 149) rfl rfl
theorem k150 : Cond.laysFinal "ContextMix$Corrections" "ContextMix$Corrections" "cells" "[I" ∈ GW := mem_gw1 (i := 150) rfl rfl
theorem k152 : Cond.lays "ContextMix$Corrections" "ContextMix$Corrections" "nearest" "I" ∈ GW := mem_gw1 (i := 152) rfl rfl
theorem k155 : Cond.classLink "ContextMix$Side" (35) "ContextMix$Match" ∈ GW := mem_gw1 (i := 155) rfl rfl
theorem k157 : Cond.classLink "ContextMix$Side" (56) "ContextMix$Slots" ∈ GW := mem_gw1 (i := 157) rfl rfl
theorem k158 : Cond.instantiable "ContextMix$Slots" (2) ∈ GW := mem_gw1 (i := 158) rfl rfl
theorem k159 : Cond.methodLink "ContextMix$Side" (58) ⟨"ContextMix$Slots", "<init>", "(I)V"⟩ ∈ GW := mem_gw1 (i := 159) rfl rfl
theorem k160 : Cond.instanceMethod ⟨"ContextMix$Slots", "<init>", "(I)V"⟩ ∈ GW := mem_gw1 (i := 160) rfl rfl
theorem k161 : Cond.code ⟨"ContextMix$Slots", "<init>", "(I)V"⟩ prog_11_method_1_code (3) (Option.none : Option FieldType) ∈ GW := mem_gw1 (i := 161) rfl rfl
theorem k162 : Cond.methodLink "ContextMix$Slots" (3) ⟨"java/lang/Object", "<init>", "()V"⟩ ∈ GW := mem_gw1 (i := 162) rfl rfl
theorem k163 : Cond.methodLink "ContextMix$Slots" (9) ⟨"ContextMix$Numbers", "bound", "(III)I"⟩ ∈ GW := mem_gw1 (i := 163) rfl rfl
theorem k164 : Cond.constant "ContextMix$Slots" (24) (32768) ∈ GW := mem_gw1 (i := 164) rfl rfl
theorem k165 : Cond.methodLink "ContextMix$Slots" (25) ⟨"java/util/Arrays", "fill", "([II)V"⟩ ∈ GW := mem_gw1 (i := 165) rfl rfl
theorem k166 : Cond.fieldLink "ContextMix$Slots" (15) "ContextMix$Slots" "chances" "[I" ∈ GW := mem_gw1 (i := 166) rfl rfl
theorem k169 : Cond.fieldLink "ContextMix$Slots" (21) "ContextMix$Slots" "counts" "[I" ∈ GW := mem_gw1 (i := 169) rfl rfl
theorem k171 : Cond.laysFinal "ContextMix$Slots" "ContextMix$Slots" "chances" "[I" ∈ GW := mem_gw1 (i := 171) rfl rfl
theorem k173 : Cond.laysFinal "ContextMix$Slots" "ContextMix$Slots" "counts" "[I" ∈ GW := mem_gw1 (i := 173) rfl rfl
theorem k176 : Cond.instantiable "ContextMix$Match" (2) ∈ GW := mem_gw1 (i := 176) rfl rfl
theorem k178 : Cond.instanceMethod ⟨"ContextMix$Match", "<init>", "()V"⟩ ∈ GW := mem_gw1 (i := 178) rfl rfl
theorem k179 : Cond.code ⟨"ContextMix$Match", "<init>", "()V"⟩ prog_5_method_1_code (1) (Option.none : Option FieldType) ∈ GW := mem_gw1 (i := 179) rfl rfl
theorem k180 : Cond.methodLink "ContextMix$Match" (3) ⟨"java/lang/Object", "<init>", "()V"⟩ ∈ GW := mem_gw1 (i := 180) rfl rfl
theorem k181 : Cond.fieldLink "ContextMix$Match" (15) "ContextMix$Match" "place" "I" ∈ GW := mem_gw1 (i := 181) rfl rfl
theorem k182 : Cond.fieldLink "ContextMix$Match" (9) "ContextMix$Match" "length" "I" ∈ GW := mem_gw1 (i := 182) rfl rfl
theorem k184 : Cond.lays "ContextMix$Match" "ContextMix$Match" "place" "I" ∈ GW := mem_gw1 (i := 184) rfl rfl
theorem k186 : Cond.lays "ContextMix$Match" "ContextMix$Match" "length" "I" ∈ GW := mem_gw1 (i := 186) rfl rfl
theorem k189 : Cond.fieldLink "ContextMix$Side" (48) "ContextMix$Side" "predictors" "LContextMix$Predictors;" ∈ GW := mem_gw1 (i := 189) rfl rfl
theorem k190 : Cond.fieldLink "ContextMix$Side" (52) "ContextMix$Side" "numbers" "LContextMix$Numbers;" ∈ GW := mem_gw1 (i := 190) rfl rfl
theorem k191 : Cond.fieldLink "ContextMix$Side" (12) "ContextMix$Side" "history" "LContextMix$History;" ∈ GW := mem_gw1 (i := 191) rfl rfl
theorem k193 : Cond.fieldLink "ContextMix$Side" (61) "ContextMix$Side" "slots" "LContextMix$Slots;" ∈ GW := mem_gw1 (i := 193) rfl rfl
theorem k195 : Cond.fieldLink "ContextMix$Side" (21) "ContextMix$Side" "byNode" "LContextMix$Mixer;" ∈ GW := mem_gw1 (i := 195) rfl rfl
theorem k197 : Cond.fieldLink "ContextMix$Side" (25) "ContextMix$Side" "byLatest" "LContextMix$Mixer;" ∈ GW := mem_gw1 (i := 197) rfl rfl
theorem k199 : Cond.fieldLink "ContextMix$Side" (31) "ContextMix$Side" "corrections" "LContextMix$Corrections;" ∈ GW := mem_gw1 (i := 199) rfl rfl
theorem k201 : Cond.fieldLink "ContextMix$Side" (37) "ContextMix$Side" "matches" "[LContextMix$Match;" ∈ GW := mem_gw1 (i := 201) rfl rfl
theorem k202 : Cond.fieldLink "ContextMix$Side" (41) "ContextMix$Side" "contexts" "[I" ∈ GW := mem_gw1 (i := 202) rfl rfl
theorem k203 : Cond.fieldLink "ContextMix$Side" (45) "ContextMix$Side" "inputs" "[I" ∈ GW := mem_gw1 (i := 203) rfl rfl
theorem k204 : Cond.laysFinal "ContextMix$Side" "ContextMix$Side" "predictors" "LContextMix$Predictors;" ∈ GW := mem_gw1 (i := 204) rfl rfl
theorem k206 : Cond.laysFinal "ContextMix$Side" "ContextMix$Side" "numbers" "LContextMix$Numbers;" ∈ GW := mem_gw1 (i := 206) rfl rfl
theorem k208 : Cond.laysFinal "ContextMix$Side" "ContextMix$Side" "history" "LContextMix$History;" ∈ GW := mem_gw1 (i := 208) rfl rfl
theorem k210 : Cond.laysFinal "ContextMix$Side" "ContextMix$Side" "slots" "LContextMix$Slots;" ∈ GW := mem_gw1 (i := 210) rfl rfl
theorem k212 : Cond.laysFinal "ContextMix$Side" "ContextMix$Side" "byNode" "LContextMix$Mixer;" ∈ GW := mem_gw1 (i := 212) rfl rfl
theorem k214 : Cond.laysFinal "ContextMix$Side" "ContextMix$Side" "byLatest" "LContextMix$Mixer;" ∈ GW := mem_gw1 (i := 214) rfl rfl
theorem k216 : Cond.laysFinal "ContextMix$Side" "ContextMix$Side" "corrections" "LContextMix$Corrections;" ∈ GW := mem_gw1 (i := 216) rfl rfl
theorem k218 : Cond.laysFinal "ContextMix$Side" "ContextMix$Side" "matches" "[LContextMix$Match;" ∈ GW := mem_gw1 (i := 218) rfl rfl
theorem k220 : Cond.laysFinal "ContextMix$Side" "ContextMix$Side" "contexts" "[I" ∈ GW := mem_gw1 (i := 220) rfl rfl
theorem k222 : Cond.laysFinal "ContextMix$Side" "ContextMix$Side" "inputs" "[I" ∈ GW := mem_gw1 (i := 222) rfl rfl
theorem k225 : Cond.classLink "ContextMix" (39) "ContextMix$Output" ∈ GW := mem_gw1 (i := 225) rfl rfl
theorem k226 : Cond.instantiable "ContextMix$Output" (2) ∈ GW := mem_gw1 (i := 226) rfl rfl
theorem k228 : Cond.instanceMethod ⟨"ContextMix$Output", "<init>", "()V"⟩ ∈ GW := mem_gw1 (i := 228) rfl rfl
theorem k229 : Cond.code ⟨"ContextMix$Output", "<init>", "()V"⟩ prog_8_method_1_code (1) (Option.none : Option FieldType) ∈ GW := mem_gw1 (i := 229) rfl rfl
theorem k230 : Cond.methodLink "ContextMix$Output" (5) ⟨"java/lang/Object", "<init>", "()V"⟩ ∈ GW := mem_gw1 (i := 230) rfl rfl
theorem k231 : Cond.fieldLink "ContextMix$Output" (13) "ContextMix$Output" "bytes" "[I" ∈ GW := mem_gw1 (i := 231) rfl rfl
theorem k232 : Cond.fieldLink "ContextMix$Output" (17) "ContextMix$Output" "size" "I" ∈ GW := mem_gw1 (i := 232) rfl rfl
theorem k234 : Cond.laysFinal "ContextMix$Output" "ContextMix$Output" "bytes" "[I" ∈ GW := mem_gw1 (i := 234) rfl rfl
theorem k236 : Cond.lays "ContextMix$Output" "ContextMix$Output" "size" "I" ∈ GW := mem_gw1 (i := 236) rfl rfl
theorem k239 : Cond.classLink "ContextMix" (46) "ContextMix$Coder" ∈ GW := mem_gw1 (i := 239) rfl rfl
theorem k240 : Cond.instantiable "ContextMix$Coder" (2) ∈ GW := mem_gw2 (i := 0) rfl rfl
theorem k242 : Cond.instanceMethod ⟨"ContextMix$Coder", "<init>", "()V"⟩ ∈ GW := mem_gw2 (i := 2) rfl rfl
theorem k243 : Cond.code ⟨"ContextMix$Coder", "<init>", "()V"⟩ prog_2_method_1_code (1) (Option.none : Option FieldType) ∈ GW := mem_gw2 (i := 3) rfl rfl
theorem k244 : Cond.methodLink "ContextMix$Coder" (1) ⟨"java/lang/Object", "<init>", "()V"⟩ ∈ GW := mem_gw2 (i := 4) rfl rfl
theorem k245 : Cond.constantLong "ContextMix$Coder" (9) (4294967295) ∈ GW := mem_gw2 (i := 5) rfl rfl
theorem k246 : Cond.fieldLink "ContextMix$Coder" (15) "ContextMix$Coder" "low" "J" ∈ GW := mem_gw2 (i := 6) rfl rfl
theorem k247 : Cond.fieldLink "ContextMix$Coder" (11) "ContextMix$Coder" "high" "J" ∈ GW := mem_gw2 (i := 7) rfl rfl
theorem k248 : Cond.lays "ContextMix$Coder" "ContextMix$Coder" "low" "J" ∈ GW := mem_gw2 (i := 8) rfl rfl
theorem k250 : Cond.lays "ContextMix$Coder" "ContextMix$Coder" "high" "J" ∈ GW := mem_gw2 (i := 10) rfl rfl
theorem k253 : Cond.fieldLink "ContextMix" (16) "ContextMix" "numbers" "LContextMix$Numbers;" ∈ GW := mem_gw2 (i := 13) rfl rfl
theorem k254 : Cond.fieldLink "ContextMix" (23) "ContextMix" "predictors" "LContextMix$Predictors;" ∈ GW := mem_gw2 (i := 14) rfl rfl
theorem k255 : Cond.fieldLink "ContextMix" (32) "ContextMix" "writer" "LContextMix$Side;" ∈ GW := mem_gw2 (i := 15) rfl rfl
theorem k256 : Cond.fieldLink "ContextMix" (36) "ContextMix" "reader" "LContextMix$Side;" ∈ GW := mem_gw2 (i := 16) rfl rfl
theorem k257 : Cond.fieldLink "ContextMix" (42) "ContextMix" "output" "LContextMix$Output;" ∈ GW := mem_gw2 (i := 17) rfl rfl
theorem k258 : Cond.fieldLink "ContextMix" (49) "ContextMix" "writing" "LContextMix$Coder;" ∈ GW := mem_gw2 (i := 18) rfl rfl
theorem k259 : Cond.fieldLink "ContextMix" (53) "ContextMix" "reading" "LContextMix$Coder;" ∈ GW := mem_gw2 (i := 19) rfl rfl
theorem k260 : Cond.fieldLink "ContextMix" (217) "ContextMix" "code" "J" ∈ GW := mem_gw2 (i := 20) rfl rfl
theorem k261 : Cond.fieldLink "ContextMix" (224) "ContextMix" "codePlace" "I" ∈ GW := mem_gw2 (i := 21) rfl rfl
theorem k262 : Cond.fieldLink "ContextMix" (60) "ContextMix" "ended" "Z" ∈ GW := mem_gw2 (i := 22) rfl rfl
theorem k263 : Cond.laysFinal "ContextMix" "ContextMix" "numbers" "LContextMix$Numbers;" ∈ GW := mem_gw2 (i := 23) rfl rfl
theorem k265 : Cond.laysFinal "ContextMix" "ContextMix" "predictors" "LContextMix$Predictors;" ∈ GW := mem_gw2 (i := 25) rfl rfl
theorem k267 : Cond.laysFinal "ContextMix" "ContextMix" "writer" "LContextMix$Side;" ∈ GW := mem_gw2 (i := 27) rfl rfl
theorem k269 : Cond.laysFinal "ContextMix" "ContextMix" "reader" "LContextMix$Side;" ∈ GW := mem_gw2 (i := 29) rfl rfl
theorem k271 : Cond.laysFinal "ContextMix" "ContextMix" "output" "LContextMix$Output;" ∈ GW := mem_gw2 (i := 31) rfl rfl
theorem k273 : Cond.laysFinal "ContextMix" "ContextMix" "writing" "LContextMix$Coder;" ∈ GW := mem_gw2 (i := 33) rfl rfl
theorem k275 : Cond.laysFinal "ContextMix" "ContextMix" "reading" "LContextMix$Coder;" ∈ GW := mem_gw2 (i := 35) rfl rfl
theorem k277 : Cond.lays "ContextMix" "ContextMix" "code" "J" ∈ GW := mem_gw2 (i := 37) rfl rfl
theorem k279 : Cond.lays "ContextMix" "ContextMix" "codePlace" "I" ∈ GW := mem_gw2 (i := 39) rfl rfl
theorem k281 : Cond.lays "ContextMix" "ContextMix" "ended" "Z" ∈ GW := mem_gw2 (i := 41) rfl rfl
theorem k284 : Cond.methodLink "ContextMixLaw" (27) ⟨"ContextMix", "predictor", "(II)I"⟩ ∈ GW := mem_gw2 (i := 44) rfl rfl
theorem k285 : Cond.instanceMethod ⟨"ContextMix", "predictor", "(II)I"⟩ ∈ GW := mem_gw2 (i := 45) rfl rfl
theorem k286 : Cond.selects "ContextMix" ⟨"ContextMix", "predictor", "(II)I"⟩ ⟨"ContextMix", "predictor", "(II)I"⟩ ∈ GW := mem_gw2 (i := 46) rfl rfl
theorem k287 : Cond.code ⟨"ContextMix", "predictor", "(II)I"⟩ prog_1_method_2_code (4) (Option.some FieldType.int) ∈ GW := mem_gw2 (i := 47) rfl rfl
theorem k288 : Cond.methodLink "ContextMix" (56) ⟨"ContextMix$Predictors", "allows", "(II)Z"⟩ ∈ GW := mem_gw2 (i := 48) rfl rfl
theorem k289 : Cond.static ⟨"ContextMix$Predictors", "allows", "(II)Z"⟩ ∈ GW := mem_gw2 (i := 49) rfl rfl
theorem k290 : Cond.code ⟨"ContextMix$Predictors", "allows", "(II)Z"⟩ prog_9_method_2_code (2) (Option.some FieldType.boolean) ∈ GW := mem_gw2 (i := 50) rfl rfl
theorem k291 : Cond.methodLink "ContextMix" (68) ⟨"ContextMix$History", "begun", "()Z"⟩ ∈ GW := mem_gw2 (i := 51) rfl rfl
theorem k292 : Cond.instanceMethod ⟨"ContextMix$History", "begun", "()Z"⟩ ∈ GW := mem_gw2 (i := 52) rfl rfl
theorem k293 : Cond.selects "ContextMix$History" ⟨"ContextMix$History", "begun", "()Z"⟩ ⟨"ContextMix$History", "begun", "()Z"⟩ ∈ GW := mem_gw2 (i := 53) rfl rfl
theorem k294 : Cond.code ⟨"ContextMix$History", "begun", "()Z"⟩ prog_4_method_3_code (1) (Option.some FieldType.boolean) ∈ GW := mem_gw2 (i := 54) rfl rfl
theorem k295 : Cond.methodLink "ContextMix" (74) ⟨"ContextMix$Predictors", "add", "(II)I"⟩ ∈ GW := mem_gw2 (i := 55) rfl rfl
theorem k296 : Cond.instanceMethod ⟨"ContextMix$Predictors", "add", "(II)I"⟩ ∈ GW := mem_gw2 (i := 56) rfl rfl
theorem k297 : Cond.selects "ContextMix$Predictors" ⟨"ContextMix$Predictors", "add", "(II)I"⟩ ⟨"ContextMix$Predictors", "add", "(II)I"⟩ ∈ GW := mem_gw2 (i := 57) rfl rfl
theorem k298 : Cond.code ⟨"ContextMix$Predictors", "add", "(II)I"⟩ prog_9_method_4_code (3) (Option.some FieldType.int) ∈ GW := mem_gw2 (i := 58) rfl rfl
theorem k299 : Cond.methodLink "ContextMix" (78) ⟨"ContextMix$Side", "beginByte", "()V"⟩ ∈ GW := mem_gw2 (i := 59) rfl rfl
theorem k300 : Cond.instanceMethod ⟨"ContextMix$Side", "beginByte", "()V"⟩ ∈ GW := mem_gw2 (i := 60) rfl rfl
theorem k301 : Cond.selects "ContextMix$Side" ⟨"ContextMix$Side", "beginByte", "()V"⟩ ⟨"ContextMix$Side", "beginByte", "()V"⟩ ∈ GW := mem_gw2 (i := 61) rfl rfl
theorem k302 : Cond.code ⟨"ContextMix$Side", "beginByte", "()V"⟩ prog_10_method_3_code (4) (Option.none : Option FieldType) ∈ GW := mem_gw2 (i := 62) rfl rfl
theorem k303 : Cond.methodLink "ContextMix$Side" (90) ⟨"ContextMix$Match", "follow", "(LContextMix$History;)V"⟩ ∈ GW := mem_gw2 (i := 63) rfl rfl
theorem k304 : Cond.instanceMethod ⟨"ContextMix$Match", "follow", "(LContextMix$History;)V"⟩ ∈ GW := mem_gw2 (i := 64) rfl rfl
theorem k305 : Cond.selects "ContextMix$Match" ⟨"ContextMix$Match", "follow", "(LContextMix$History;)V"⟩ ⟨"ContextMix$Match", "follow", "(LContextMix$History;)V"⟩ ∈ GW := mem_gw2 (i := 65) rfl rfl
theorem k306 : Cond.code ⟨"ContextMix$Match", "follow", "(LContextMix$History;)V"⟩ prog_5_method_2_code (2) (Option.none : Option FieldType) ∈ GW := mem_gw2 (i := 66) rfl rfl
theorem k307 : Cond.methodLink "ContextMix$Match" (18) ⟨"ContextMix$History", "byteAt", "(I)I"⟩ ∈ GW := mem_gw2 (i := 67) rfl rfl
theorem k308 : Cond.instanceMethod ⟨"ContextMix$History", "byteAt", "(I)I"⟩ ∈ GW := mem_gw2 (i := 68) rfl rfl
theorem k309 : Cond.selects "ContextMix$History" ⟨"ContextMix$History", "byteAt", "(I)I"⟩ ⟨"ContextMix$History", "byteAt", "(I)I"⟩ ∈ GW := mem_gw2 (i := 69) rfl rfl
theorem k310 : Cond.code ⟨"ContextMix$History", "byteAt", "(I)I"⟩ prog_4_method_4_code (2) (Option.some FieldType.int) ∈ GW := mem_gw2 (i := 70) rfl rfl
theorem k311 : Cond.methodLink "ContextMix$Match" (24) ⟨"ContextMix$History", "back", "(I)I"⟩ ∈ GW := mem_gw2 (i := 71) rfl rfl
theorem k312 : Cond.instanceMethod ⟨"ContextMix$History", "back", "(I)I"⟩ ∈ GW := mem_gw2 (i := 72) rfl rfl
theorem k313 : Cond.selects "ContextMix$History" ⟨"ContextMix$History", "back", "(I)I"⟩ ⟨"ContextMix$History", "back", "(I)I"⟩ ∈ GW := mem_gw2 (i := 73) rfl rfl
theorem k314 : Cond.code ⟨"ContextMix$History", "back", "(I)I"⟩ prog_4_method_5_code (3) (Option.some FieldType.int) ∈ GW := mem_gw2 (i := 74) rfl rfl
theorem k315 : Cond.methodLink "ContextMix$Match" (27) ⟨"java/lang/Math", "min", "(II)I"⟩ ∈ GW := mem_gw2 (i := 75) rfl rfl
theorem k316 : Cond.methodLink "ContextMix$Side" (94) ⟨"ContextMix$Match", "find", "(LContextMix$History;I)V"⟩ ∈ GW := mem_gw2 (i := 76) rfl rfl
theorem k317 : Cond.instanceMethod ⟨"ContextMix$Match", "find", "(LContextMix$History;I)V"⟩ ∈ GW := mem_gw2 (i := 77) rfl rfl
theorem k318 : Cond.selects "ContextMix$Match" ⟨"ContextMix$Match", "find", "(LContextMix$History;I)V"⟩ ⟨"ContextMix$Match", "find", "(LContextMix$History;I)V"⟩ ∈ GW := mem_gw2 (i := 78) rfl rfl
theorem k319 : Cond.code ⟨"ContextMix$Match", "find", "(LContextMix$History;I)V"⟩ prog_5_method_3_code (5) (Option.none : Option FieldType) ∈ GW := mem_gw2 (i := 79) rfl rfl
theorem k320 : Cond.methodLink "ContextMix$Match" (36) ⟨"java/lang/Math", "max", "(II)I"⟩ ∈ GW := mem_gw2 (i := 80) rfl rfl
theorem k321 : Cond.methodLink "ContextMix$Match" (39) ⟨"ContextMix$History", "sameBefore", "(II)Z"⟩ ∈ GW := mem_gw2 (i := 81) rfl rfl
theorem k322 : Cond.instanceMethod ⟨"ContextMix$History", "sameBefore", "(II)Z"⟩ ∈ GW := mem_gw2 (i := 82) rfl rfl
theorem k323 : Cond.selects "ContextMix$History" ⟨"ContextMix$History", "sameBefore", "(II)Z"⟩ ⟨"ContextMix$History", "sameBefore", "(II)Z"⟩ ∈ GW := mem_gw2 (i := 83) rfl rfl
theorem k324 : Cond.code ⟨"ContextMix$History", "sameBefore", "(II)Z"⟩ prog_4_method_12_code (4) (Option.some FieldType.boolean) ∈ GW := mem_gw2 (i := 84) rfl rfl
theorem k325 : Cond.methodLink "ContextMix$History" (52) ⟨"ContextMix$History", "byteAt", "(I)I"⟩ ∈ GW := mem_gw2 (i := 85) rfl rfl
theorem k326 : Cond.methodLink "ContextMix$History" (45) ⟨"ContextMix$History", "back", "(I)I"⟩ ∈ GW := mem_gw2 (i := 86) rfl rfl
theorem k327 : Cond.methodLink "ContextMix$Side" (98) ⟨"ContextMix$History", "contextOf", "(II)I"⟩ ∈ GW := mem_gw2 (i := 87) rfl rfl
theorem k328 : Cond.instanceMethod ⟨"ContextMix$History", "contextOf", "(II)I"⟩ ∈ GW := mem_gw2 (i := 88) rfl rfl
theorem k329 : Cond.selects "ContextMix$History" ⟨"ContextMix$History", "contextOf", "(II)I"⟩ ⟨"ContextMix$History", "contextOf", "(II)I"⟩ ∈ GW := mem_gw2 (i := 89) rfl rfl
theorem k330 : Cond.code ⟨"ContextMix$History", "contextOf", "(II)I"⟩ prog_4_method_7_code (3) (Option.some FieldType.int) ∈ GW := mem_gw2 (i := 90) rfl rfl
theorem k331 : Cond.methodLink "ContextMix$History" (25) ⟨"ContextMix$History", "latestContext", "(I)I"⟩ ∈ GW := mem_gw2 (i := 91) rfl rfl
theorem k333 : Cond.instanceMethod ⟨"ContextMix$History", "latestContext", "(I)I"⟩ ∈ GW := mem_gw2 (i := 93) rfl rfl
theorem k334 : Cond.code ⟨"ContextMix$History", "latestContext", "(I)I"⟩ prog_4_method_8_code (4) (Option.some FieldType.int) ∈ GW := mem_gw2 (i := 94) rfl rfl
theorem k335 : Cond.methodLink "ContextMix$History" (39) ⟨"ContextMix$Numbers", "hash", "(II)I"⟩ ∈ GW := mem_gw2 (i := 95) rfl rfl
theorem k336 : Cond.static ⟨"ContextMix$Numbers", "hash", "(II)I"⟩ ∈ GW := mem_gw2 (i := 96) rfl rfl
theorem k337 : Cond.code ⟨"ContextMix$Numbers", "hash", "(II)I"⟩ prog_7_method_4_code (3) (Option.some FieldType.int) ∈ GW := mem_gw2 (i := 97) rfl rfl
theorem k338 : Cond.constant "ContextMix$Numbers" (24) (625341585) ∈ GW := mem_gw2 (i := 98) rfl rfl
theorem k339 : Cond.constant "ContextMix$Numbers" (25) (-1640531535) ∈ GW := mem_gw2 (i := 99) rfl rfl
theorem k340 : Cond.constant "ContextMix$Numbers" (26) (-2048144789) ∈ GW := mem_gw2 (i := 100) rfl rfl
theorem k341 : Cond.methodLink "ContextMix$History" (29) ⟨"ContextMix$History", "wordContext", "()I"⟩ ∈ GW := mem_gw2 (i := 101) rfl rfl
theorem k343 : Cond.instanceMethod ⟨"ContextMix$History", "wordContext", "()I"⟩ ∈ GW := mem_gw2 (i := 103) rfl rfl
theorem k344 : Cond.code ⟨"ContextMix$History", "wordContext", "()I"⟩ prog_4_method_9_code (4) (Option.some FieldType.int) ∈ GW := mem_gw2 (i := 104) rfl rfl
theorem k345 : Cond.methodLink "ContextMix$History" (48) ⟨"ContextMix$History", "isLetter", "(I)Z"⟩ ∈ GW := mem_gw2 (i := 105) rfl rfl
theorem k346 : Cond.static ⟨"ContextMix$History", "isLetter", "(I)Z"⟩ ∈ GW := mem_gw2 (i := 106) rfl rfl
theorem k347 : Cond.code ⟨"ContextMix$History", "isLetter", "(I)Z"⟩ prog_4_method_14_code (1) (Option.some FieldType.boolean) ∈ GW := mem_gw2 (i := 107) rfl rfl
theorem k348 : Cond.methodLink "ContextMix$History" (33) ⟨"ContextMix$History", "columnContext", "(I)I"⟩ ∈ GW := mem_gw2 (i := 108) rfl rfl
theorem k350 : Cond.instanceMethod ⟨"ContextMix$History", "columnContext", "(I)I"⟩ ∈ GW := mem_gw2 (i := 110) rfl rfl
theorem k351 : Cond.code ⟨"ContextMix$History", "columnContext", "(I)I"⟩ prog_4_method_10_code (4) (Option.some FieldType.int) ∈ GW := mem_gw2 (i := 111) rfl rfl
theorem k352 : Cond.methodLink "ContextMix$History" (36) ⟨"ContextMix$History", "apartContext", "(I)I"⟩ ∈ GW := mem_gw2 (i := 112) rfl rfl
theorem k354 : Cond.instanceMethod ⟨"ContextMix$History", "apartContext", "(I)I"⟩ ∈ GW := mem_gw2 (i := 114) rfl rfl
theorem k355 : Cond.code ⟨"ContextMix$History", "apartContext", "(I)I"⟩ prog_4_method_11_code (4) (Option.some FieldType.int) ∈ GW := mem_gw2 (i := 115) rfl rfl
theorem k356 : Cond.methodLink "ContextMixLaw" (31) ⟨"ContextMix", "off", "(I)I"⟩ ∈ GW := mem_gw2 (i := 116) rfl rfl
theorem k357 : Cond.instanceMethod ⟨"ContextMix", "off", "(I)I"⟩ ∈ GW := mem_gw2 (i := 117) rfl rfl
theorem k358 : Cond.selects "ContextMix" ⟨"ContextMix", "off", "(I)I"⟩ ⟨"ContextMix", "off", "(I)I"⟩ ∈ GW := mem_gw2 (i := 118) rfl rfl
theorem k359 : Cond.code ⟨"ContextMix", "off", "(I)I"⟩ prog_1_method_3_code (2) (Option.some FieldType.int) ∈ GW := mem_gw2 (i := 119) rfl rfl
theorem k360 : Cond.methodLink "ContextMix" (81) ⟨"ContextMix$Predictors", "has", "(I)Z"⟩ ∈ GW := mem_gw2 (i := 120) rfl rfl
theorem k361 : Cond.instanceMethod ⟨"ContextMix$Predictors", "has", "(I)Z"⟩ ∈ GW := mem_gw2 (i := 121) rfl rfl
theorem k362 : Cond.selects "ContextMix$Predictors" ⟨"ContextMix$Predictors", "has", "(I)Z"⟩ ⟨"ContextMix$Predictors", "has", "(I)Z"⟩ ∈ GW := mem_gw2 (i := 122) rfl rfl
theorem k363 : Cond.code ⟨"ContextMix$Predictors", "has", "(I)Z"⟩ prog_9_method_3_code (2) (Option.some FieldType.boolean) ∈ GW := mem_gw2 (i := 123) rfl rfl
theorem k364 : Cond.methodLink "ContextMix" (85) ⟨"ContextMix$Predictors", "turnOff", "(I)Z"⟩ ∈ GW := mem_gw2 (i := 124) rfl rfl
theorem k365 : Cond.instanceMethod ⟨"ContextMix$Predictors", "turnOff", "(I)Z"⟩ ∈ GW := mem_gw2 (i := 125) rfl rfl
theorem k366 : Cond.selects "ContextMix$Predictors" ⟨"ContextMix$Predictors", "turnOff", "(I)Z"⟩ ⟨"ContextMix$Predictors", "turnOff", "(I)Z"⟩ ∈ GW := mem_gw2 (i := 126) rfl rfl
theorem k367 : Cond.code ⟨"ContextMix$Predictors", "turnOff", "(I)Z"⟩ prog_9_method_5_code (2) (Option.some FieldType.boolean) ∈ GW := mem_gw2 (i := 127) rfl rfl
theorem k368 : Cond.methodLink "ContextMix$Predictors" (26) ⟨"ContextMix$Predictors", "has", "(I)Z"⟩ ∈ GW := mem_gw2 (i := 128) rfl rfl
theorem k369 : Cond.methodLink "ContextMixLaw" (36) ⟨"ContextMix", "bit", "(Z)I"⟩ ∈ GW := mem_gw2 (i := 129) rfl rfl
theorem k370 : Cond.instanceMethod ⟨"ContextMix", "bit", "(Z)I"⟩ ∈ GW := mem_gw2 (i := 130) rfl rfl
theorem k371 : Cond.selects "ContextMix" ⟨"ContextMix", "bit", "(Z)I"⟩ ⟨"ContextMix", "bit", "(Z)I"⟩ ∈ GW := mem_gw2 (i := 131) rfl rfl
theorem k372 : Cond.code ⟨"ContextMix", "bit", "(Z)I"⟩ prog_1_method_4_code (2) (Option.some FieldType.int) ∈ GW := mem_gw2 (i := 132) rfl rfl
theorem k373 : Cond.methodLink "ContextMix" (88) ⟨"ContextMix", "isFull", "()Z"⟩ ∈ GW := mem_gw2 (i := 133) rfl rfl
theorem k375 : Cond.instanceMethod ⟨"ContextMix", "isFull", "()Z"⟩ ∈ GW := mem_gw2 (i := 135) rfl rfl
theorem k376 : Cond.code ⟨"ContextMix", "isFull", "()Z"⟩ prog_1_method_23_code (1) (Option.some FieldType.boolean) ∈ GW := mem_gw2 (i := 136) rfl rfl
theorem k377 : Cond.methodLink "ContextMix" (91) ⟨"ContextMix", "writeBit", "(Z)V"⟩ ∈ GW := mem_gw2 (i := 137) rfl rfl
theorem k379 : Cond.instanceMethod ⟨"ContextMix", "writeBit", "(Z)V"⟩ ∈ GW := mem_gw2 (i := 139) rfl rfl
theorem k380 : Cond.code ⟨"ContextMix", "writeBit", "(Z)V"⟩ prog_1_method_24_code (3) (Option.none : Option FieldType) ∈ GW := mem_gw2 (i := 140) rfl rfl
theorem k381 : Cond.methodLink "ContextMix" (136) ⟨"ContextMix$Side", "foretell", "()I"⟩ ∈ GW := mem_gw2 (i := 141) rfl rfl
theorem k382 : Cond.instanceMethod ⟨"ContextMix$Side", "foretell", "()I"⟩ ∈ GW := mem_gw2 (i := 142) rfl rfl
theorem k383 : Cond.selects "ContextMix$Side" ⟨"ContextMix$Side", "foretell", "()I"⟩ ⟨"ContextMix$Side", "foretell", "()I"⟩ ∈ GW := mem_gw2 (i := 143) rfl rfl
theorem k384 : Cond.code ⟨"ContextMix$Side", "foretell", "()I"⟩ prog_10_method_5_code (4) (Option.some FieldType.int) ∈ GW := mem_gw2 (i := 144) rfl rfl
theorem k385 : Cond.methodLink "ContextMix$Side" (129) ⟨"ContextMix$Side", "inputOf", "(I)I"⟩ ∈ GW := mem_gw2 (i := 145) rfl rfl
theorem k386 : Cond.instanceMethod ⟨"ContextMix$Side", "inputOf", "(I)I"⟩ ∈ GW := mem_gw2 (i := 146) rfl rfl
theorem k387 : Cond.selects "ContextMix$Side" ⟨"ContextMix$Side", "inputOf", "(I)I"⟩ ⟨"ContextMix$Side", "inputOf", "(I)I"⟩ ∈ GW := mem_gw2 (i := 147) rfl rfl
theorem k388 : Cond.code ⟨"ContextMix$Side", "inputOf", "(I)I"⟩ prog_10_method_4_code (2) (Option.some FieldType.int) ∈ GW := mem_gw2 (i := 148) rfl rfl
theorem k389 : Cond.methodLink "ContextMix$Side" (102) ⟨"ContextMix$Predictors", "has", "(I)Z"⟩ ∈ GW := mem_gw2 (i := 149) rfl rfl
theorem k390 : Cond.methodLink "ContextMix$Side" (110) ⟨"ContextMix$Match", "told", "(LContextMix$History;)I"⟩ ∈ GW := mem_gw2 (i := 150) rfl rfl
theorem k391 : Cond.instanceMethod ⟨"ContextMix$Match", "told", "(LContextMix$History;)I"⟩ ∈ GW := mem_gw2 (i := 151) rfl rfl
theorem k392 : Cond.selects "ContextMix$Match" ⟨"ContextMix$Match", "told", "(LContextMix$History;)I"⟩ ⟨"ContextMix$Match", "told", "(LContextMix$History;)I"⟩ ∈ GW := mem_gw2 (i := 152) rfl rfl
theorem k393 : Cond.code ⟨"ContextMix$Match", "told", "(LContextMix$History;)I"⟩ prog_5_method_4_code (5) (Option.some FieldType.int) ∈ GW := mem_gw2 (i := 153) rfl rfl
theorem k394 : Cond.methodLink "ContextMix$Side" (120) ⟨"ContextMix$Slots", "placeOf", "(II)I"⟩ ∈ GW := mem_gw2 (i := 154) rfl rfl
theorem k395 : Cond.instanceMethod ⟨"ContextMix$Slots", "placeOf", "(II)I"⟩ ∈ GW := mem_gw2 (i := 155) rfl rfl
theorem k396 : Cond.selects "ContextMix$Slots" ⟨"ContextMix$Slots", "placeOf", "(II)I"⟩ ⟨"ContextMix$Slots", "placeOf", "(II)I"⟩ ∈ GW := mem_gw2 (i := 156) rfl rfl
theorem k397 : Cond.code ⟨"ContextMix$Slots", "placeOf", "(II)I"⟩ prog_11_method_4_code (3) (Option.some FieldType.int) ∈ GW := mem_gw2 (i := 157) rfl rfl
theorem k398 : Cond.methodLink "ContextMix$Slots" (31) ⟨"ContextMix$Numbers", "hash", "(II)I"⟩ ∈ GW := mem_gw2 (i := 158) rfl rfl
theorem k399 : Cond.methodLink "ContextMix$Side" (123) ⟨"ContextMix$Numbers", "stretched", "(I)I"⟩ ∈ GW := mem_gw2 (i := 159) rfl rfl
theorem k400 : Cond.instanceMethod ⟨"ContextMix$Numbers", "stretched", "(I)I"⟩ ∈ GW := mem_gw2 (i := 160) rfl rfl
theorem k401 : Cond.selects "ContextMix$Numbers" ⟨"ContextMix$Numbers", "stretched", "(I)I"⟩ ⟨"ContextMix$Numbers", "stretched", "(I)I"⟩ ∈ GW := mem_gw2 (i := 161) rfl rfl
theorem k402 : Cond.code ⟨"ContextMix$Numbers", "stretched", "(I)I"⟩ prog_7_method_2_code (2) (Option.some FieldType.int) ∈ GW := mem_gw2 (i := 162) rfl rfl
theorem k403 : Cond.methodLink "ContextMix$Numbers" (17) ⟨"ContextMix$Numbers", "bound", "(III)I"⟩ ∈ GW := mem_gw2 (i := 163) rfl rfl
theorem k404 : Cond.methodLink "ContextMix$Side" (132) ⟨"ContextMix$Mixer", "tell", "(I[I)I"⟩ ∈ GW := mem_gw2 (i := 164) rfl rfl
theorem k405 : Cond.instanceMethod ⟨"ContextMix$Mixer", "tell", "(I[I)I"⟩ ∈ GW := mem_gw2 (i := 165) rfl rfl
theorem k406 : Cond.selects "ContextMix$Mixer" ⟨"ContextMix$Mixer", "tell", "(I[I)I"⟩ ⟨"ContextMix$Mixer", "tell", "(I[I)I"⟩ ∈ GW := mem_gw2 (i := 166) rfl rfl
theorem k407 : Cond.code ⟨"ContextMix$Mixer", "tell", "(I[I)I"⟩ prog_6_method_5_code (7) (Option.some FieldType.int) ∈ GW := mem_gw2 (i := 167) rfl rfl
theorem k408 : Cond.methodLink "ContextMix$Mixer" (24) ⟨"ContextMix$Numbers", "bound", "(III)I"⟩ ∈ GW := mem_gw2 (i := 168) rfl rfl
theorem k409 : Cond.constantLong "ContextMix$Mixer" (34) (-2047) ∈ GW := mem_gw2 (i := 169) rfl rfl
theorem k410 : Cond.constantLong "ContextMix$Mixer" (36) (2047) ∈ GW := mem_gw2 (i := 170) rfl rfl
theorem k411 : Cond.methodLink "ContextMix$Mixer" (38) ⟨"java/lang/Math", "min", "(JJ)J"⟩ ∈ GW := mem_gw2 (i := 171) rfl rfl
theorem k412 : Cond.static ⟨"java/lang/Math", "min", "(JJ)J"⟩ ∈ GW := mem_gw2 (i := 172) rfl rfl
theorem k413 : Cond.code ⟨"java/lang/Math", "min", "(JJ)J"⟩ prog_17_method_70_code (4) (Option.some FieldType.long) ∈ GW := mem_gw2 (i := 173) rfl rfl
theorem k414 : Cond.methodLink "ContextMix$Mixer" (44) ⟨"java/lang/Math", "max", "(JJ)J"⟩ ∈ GW := mem_gw2 (i := 174) rfl rfl
theorem k415 : Cond.static ⟨"java/lang/Math", "max", "(JJ)J"⟩ ∈ GW := mem_gw2 (i := 175) rfl rfl
theorem k416 : Cond.code ⟨"java/lang/Math", "max", "(JJ)J"⟩ prog_17_method_66_code (4) (Option.some FieldType.long) ∈ GW := mem_gw2 (i := 176) rfl rfl
theorem k417 : Cond.methodLink "ContextMix$Mixer" (47) ⟨"ContextMix$Numbers", "squashed", "(I)I"⟩ ∈ GW := mem_gw2 (i := 177) rfl rfl
theorem k418 : Cond.methodLink "ContextMix$Side" (136) ⟨"ContextMix$History", "back", "(I)I"⟩ ∈ GW := mem_gw2 (i := 178) rfl rfl
theorem k419 : Cond.methodLink "ContextMix$Side" (139) ⟨"ContextMix$Corrections", "correct", "(II)I"⟩ ∈ GW := mem_gw2 (i := 179) rfl rfl
theorem k420 : Cond.instanceMethod ⟨"ContextMix$Corrections", "correct", "(II)I"⟩ ∈ GW := mem_gw2 (i := 180) rfl rfl
theorem k421 : Cond.selects "ContextMix$Corrections" ⟨"ContextMix$Corrections", "correct", "(II)I"⟩ ⟨"ContextMix$Corrections", "correct", "(II)I"⟩ ∈ GW := mem_gw2 (i := 181) rfl rfl
theorem k422 : Cond.code ⟨"ContextMix$Corrections", "correct", "(II)I"⟩ prog_3_method_6_code (6) (Option.some FieldType.int) ∈ GW := mem_gw2 (i := 182) rfl rfl
theorem k423 : Cond.methodLink "ContextMix$Corrections" (33) ⟨"ContextMix$Numbers", "bound", "(III)I"⟩ ∈ GW := mem_gw2 (i := 183) rfl rfl
theorem k424 : Cond.methodLink "ContextMix$Corrections" (41) ⟨"ContextMix$Corrections", "cellAt", "(II)I"⟩ ∈ GW := mem_gw2 (i := 184) rfl rfl
theorem k425 : Cond.instanceMethod ⟨"ContextMix$Corrections", "cellAt", "(II)I"⟩ ∈ GW := mem_gw2 (i := 185) rfl rfl
theorem k426 : Cond.selects "ContextMix$Corrections" ⟨"ContextMix$Corrections", "cellAt", "(II)I"⟩ ⟨"ContextMix$Corrections", "cellAt", "(II)I"⟩ ∈ GW := mem_gw2 (i := 186) rfl rfl
theorem k427 : Cond.code ⟨"ContextMix$Corrections", "cellAt", "(II)I"⟩ prog_3_method_5_code (3) (Option.some FieldType.int) ∈ GW := mem_gw2 (i := 187) rfl rfl
theorem k428 : Cond.methodLink "ContextMix$Corrections" (29) ⟨"ContextMix$Corrections", "has", "(II)Z"⟩ ∈ GW := mem_gw2 (i := 188) rfl rfl
theorem k429 : Cond.static ⟨"ContextMix$Corrections", "has", "(II)Z"⟩ ∈ GW := mem_gw2 (i := 189) rfl rfl
theorem k430 : Cond.code ⟨"ContextMix$Corrections", "has", "(II)Z"⟩ prog_3_method_4_code (2) (Option.some FieldType.boolean) ∈ GW := mem_gw2 (i := 190) rfl rfl
theorem k431 : Cond.methodLink "ContextMix$Side" (142) ⟨"ContextMix$Numbers", "bound", "(III)I"⟩ ∈ GW := mem_gw2 (i := 191) rfl rfl
theorem k432 : Cond.methodLink "ContextMix" (203) ⟨"ContextMix$Coder", "middle", "(I)J"⟩ ∈ GW := mem_gw2 (i := 192) rfl rfl
theorem k433 : Cond.instanceMethod ⟨"ContextMix$Coder", "middle", "(I)J"⟩ ∈ GW := mem_gw2 (i := 193) rfl rfl
theorem k434 : Cond.selects "ContextMix$Coder" ⟨"ContextMix$Coder", "middle", "(I)J"⟩ ⟨"ContextMix$Coder", "middle", "(I)J"⟩ ∈ GW := mem_gw2 (i := 194) rfl rfl
theorem k435 : Cond.code ⟨"ContextMix$Coder", "middle", "(I)J"⟩ prog_2_method_3_code (2) (Option.some FieldType.long) ∈ GW := mem_gw2 (i := 195) rfl rfl
theorem k436 : Cond.methodLink "ContextMix" (207) ⟨"ContextMix$Coder", "narrow", "(ZJ)V"⟩ ∈ GW := mem_gw2 (i := 196) rfl rfl
theorem k437 : Cond.instanceMethod ⟨"ContextMix$Coder", "narrow", "(ZJ)V"⟩ ∈ GW := mem_gw2 (i := 197) rfl rfl
theorem k438 : Cond.selects "ContextMix$Coder" ⟨"ContextMix$Coder", "narrow", "(ZJ)V"⟩ ⟨"ContextMix$Coder", "narrow", "(ZJ)V"⟩ ∈ GW := mem_gw2 (i := 198) rfl rfl
theorem k439 : Cond.code ⟨"ContextMix$Coder", "narrow", "(ZJ)V"⟩ prog_2_method_4_code (4) (Option.none : Option FieldType) ∈ GW := mem_gw2 (i := 199) rfl rfl
theorem k440 : Cond.methodLink "ContextMix" (211) ⟨"ContextMix$Coder", "settled", "()Z"⟩ ∈ GW := mem_gw2 (i := 200) rfl rfl
theorem k441 : Cond.instanceMethod ⟨"ContextMix$Coder", "settled", "()Z"⟩ ∈ GW := mem_gw2 (i := 201) rfl rfl
theorem k442 : Cond.selects "ContextMix$Coder" ⟨"ContextMix$Coder", "settled", "()Z"⟩ ⟨"ContextMix$Coder", "settled", "()Z"⟩ ∈ GW := mem_gw2 (i := 202) rfl rfl
theorem k443 : Cond.code ⟨"ContextMix$Coder", "settled", "()Z"⟩ prog_2_method_5_code (1) (Option.some FieldType.boolean) ∈ GW := mem_gw2 (i := 203) rfl rfl
theorem k444 : Cond.methodLink "ContextMix" (102) ⟨"ContextMix$Coder", "highestOfLow", "()I"⟩ ∈ GW := mem_gw2 (i := 204) rfl rfl
theorem k445 : Cond.instanceMethod ⟨"ContextMix$Coder", "highestOfLow", "()I"⟩ ∈ GW := mem_gw2 (i := 205) rfl rfl
theorem k446 : Cond.selects "ContextMix$Coder" ⟨"ContextMix$Coder", "highestOfLow", "()I"⟩ ⟨"ContextMix$Coder", "highestOfLow", "()I"⟩ ∈ GW := mem_gw2 (i := 206) rfl rfl
theorem k447 : Cond.code ⟨"ContextMix$Coder", "highestOfLow", "()I"⟩ prog_2_method_6_code (1) (Option.some FieldType.int) ∈ GW := mem_gw2 (i := 207) rfl rfl
theorem k448 : Cond.methodLink "ContextMix" (106) ⟨"ContextMix$Output", "add", "(I)V"⟩ ∈ GW := mem_gw2 (i := 208) rfl rfl
theorem k449 : Cond.instanceMethod ⟨"ContextMix$Output", "add", "(I)V"⟩ ∈ GW := mem_gw2 (i := 209) rfl rfl
theorem k450 : Cond.selects "ContextMix$Output" ⟨"ContextMix$Output", "add", "(I)V"⟩ ⟨"ContextMix$Output", "add", "(I)V"⟩ ∈ GW := mem_gw2 (i := 210) rfl rfl
theorem k451 : Cond.code ⟨"ContextMix$Output", "add", "(I)V"⟩ prog_8_method_4_code (2) (Option.none : Option FieldType) ∈ GW := mem_gw2 (i := 211) rfl rfl
theorem k452 : Cond.methodLink "ContextMix" (109) ⟨"ContextMix$Coder", "shift", "()V"⟩ ∈ GW := mem_gw2 (i := 212) rfl rfl
theorem k453 : Cond.instanceMethod ⟨"ContextMix$Coder", "shift", "()V"⟩ ∈ GW := mem_gw2 (i := 213) rfl rfl
theorem k454 : Cond.selects "ContextMix$Coder" ⟨"ContextMix$Coder", "shift", "()V"⟩ ⟨"ContextMix$Coder", "shift", "()V"⟩ ∈ GW := mem_gw2 (i := 214) rfl rfl
theorem k455 : Cond.code ⟨"ContextMix$Coder", "shift", "()V"⟩ prog_2_method_7_code (1) (Option.none : Option FieldType) ∈ GW := mem_gw2 (i := 215) rfl rfl
theorem k456 : Cond.constantLong "ContextMix$Coder" (18) (255) ∈ GW := mem_gw2 (i := 216) rfl rfl
theorem k457 : Cond.methodLink "ContextMix" (214) ⟨"ContextMix$Side", "learn", "(Z)V"⟩ ∈ GW := mem_gw2 (i := 217) rfl rfl
theorem k458 : Cond.instanceMethod ⟨"ContextMix$Side", "learn", "(Z)V"⟩ ∈ GW := mem_gw2 (i := 218) rfl rfl
theorem k459 : Cond.selects "ContextMix$Side" ⟨"ContextMix$Side", "learn", "(Z)V"⟩ ⟨"ContextMix$Side", "learn", "(Z)V"⟩ ∈ GW := mem_gw2 (i := 219) rfl rfl
theorem k460 : Cond.code ⟨"ContextMix$Side", "learn", "(Z)V"⟩ prog_10_method_6_code (3) (Option.none : Option FieldType) ∈ GW := mem_gw2 (i := 220) rfl rfl
theorem k461 : Cond.methodLink "ContextMix$Side" (146) ⟨"ContextMix$Mixer", "learn", "(Z[I)V"⟩ ∈ GW := mem_gw2 (i := 221) rfl rfl
theorem k462 : Cond.instanceMethod ⟨"ContextMix$Mixer", "learn", "(Z[I)V"⟩ ∈ GW := mem_gw2 (i := 222) rfl rfl
theorem k463 : Cond.selects "ContextMix$Mixer" ⟨"ContextMix$Mixer", "learn", "(Z[I)V"⟩ ⟨"ContextMix$Mixer", "learn", "(Z[I)V"⟩ ∈ GW := mem_gw2 (i := 223) rfl rfl
theorem k464 : Cond.code ⟨"ContextMix$Mixer", "learn", "(Z[I)V"⟩ prog_6_method_6_code (6) (Option.none : Option FieldType) ∈ GW := mem_gw2 (i := 224) rfl rfl
theorem k465 : Cond.constant "ContextMix$Mixer" (54) (32768) ∈ GW := mem_gw2 (i := 225) rfl rfl
theorem k466 : Cond.constant "ContextMix$Mixer" (55) (-1000000) ∈ GW := mem_gw2 (i := 226) rfl rfl
theorem k467 : Cond.constant "ContextMix$Mixer" (56) (1000000) ∈ GW := mem_gw2 (i := 227) rfl rfl
theorem k468 : Cond.methodLink "ContextMix$Side" (150) ⟨"ContextMix$Corrections", "learn", "(Z)V"⟩ ∈ GW := mem_gw2 (i := 228) rfl rfl
theorem k469 : Cond.instanceMethod ⟨"ContextMix$Corrections", "learn", "(Z)V"⟩ ∈ GW := mem_gw2 (i := 229) rfl rfl
theorem k470 : Cond.selects "ContextMix$Corrections" ⟨"ContextMix$Corrections", "learn", "(Z)V"⟩ ⟨"ContextMix$Corrections", "learn", "(Z)V"⟩ ∈ GW := mem_gw2 (i := 230) rfl rfl
theorem k471 : Cond.code ⟨"ContextMix$Corrections", "learn", "(Z)V"⟩ prog_3_method_7_code (2) (Option.none : Option FieldType) ∈ GW := mem_gw2 (i := 231) rfl rfl
theorem k472 : Cond.constant "ContextMix$Corrections" (45) (65535) ∈ GW := mem_gw2 (i := 232) rfl rfl
theorem k473 : Cond.methodLink "ContextMix$Side" (153) ⟨"ContextMix$Slots", "learn", "(IZ)V"⟩ ∈ GW := mem_gw2 (i := 233) rfl rfl
theorem k474 : Cond.instanceMethod ⟨"ContextMix$Slots", "learn", "(IZ)V"⟩ ∈ GW := mem_gw2 (i := 234) rfl rfl
theorem k475 : Cond.selects "ContextMix$Slots" ⟨"ContextMix$Slots", "learn", "(IZ)V"⟩ ⟨"ContextMix$Slots", "learn", "(IZ)V"⟩ ∈ GW := mem_gw2 (i := 235) rfl rfl
theorem k476 : Cond.code ⟨"ContextMix$Slots", "learn", "(IZ)V"⟩ prog_11_method_5_code (4) (Option.none : Option FieldType) ∈ GW := mem_gw2 (i := 236) rfl rfl
theorem k477 : Cond.methodLink "ContextMix$Slots" (35) ⟨"ContextMix$Slots", "has", "(I)Z"⟩ ∈ GW := mem_gw2 (i := 237) rfl rfl
theorem k478 : Cond.instanceMethod ⟨"ContextMix$Slots", "has", "(I)Z"⟩ ∈ GW := mem_gw2 (i := 238) rfl rfl
theorem k479 : Cond.selects "ContextMix$Slots" ⟨"ContextMix$Slots", "has", "(I)Z"⟩ ⟨"ContextMix$Slots", "has", "(I)Z"⟩ ∈ GW := mem_gw2 (i := 239) rfl rfl
theorem k480 : Cond.code ⟨"ContextMix$Slots", "has", "(I)Z"⟩ prog_11_method_3_code (2) (Option.some FieldType.boolean) ∈ GW := mem_gw3 (i := 0) rfl rfl
theorem k481 : Cond.constant "ContextMix$Slots" (39) (65536) ∈ GW := mem_gw3 (i := 1) rfl rfl
theorem k482 : Cond.methodLink "ContextMix$Slots" (40) ⟨"java/lang/Math", "max", "(II)I"⟩ ∈ GW := mem_gw3 (i := 2) rfl rfl
theorem k483 : Cond.constant "ContextMix$Slots" (45) (65535) ∈ GW := mem_gw3 (i := 3) rfl rfl
theorem k484 : Cond.methodLink "ContextMix$Slots" (46) ⟨"java/lang/Math", "min", "(II)I"⟩ ∈ GW := mem_gw3 (i := 4) rfl rfl
theorem k485 : Cond.methodLink "ContextMix$Side" (156) ⟨"ContextMix$History", "add", "(Z)Z"⟩ ∈ GW := mem_gw3 (i := 5) rfl rfl
theorem k486 : Cond.instanceMethod ⟨"ContextMix$History", "add", "(Z)Z"⟩ ∈ GW := mem_gw3 (i := 6) rfl rfl
theorem k487 : Cond.selects "ContextMix$History" ⟨"ContextMix$History", "add", "(Z)Z"⟩ ⟨"ContextMix$History", "add", "(Z)Z"⟩ ∈ GW := mem_gw3 (i := 7) rfl rfl
theorem k488 : Cond.code ⟨"ContextMix$History", "add", "(Z)Z"⟩ prog_4_method_6_code (2) (Option.some FieldType.boolean) ∈ GW := mem_gw3 (i := 8) rfl rfl
theorem k489 : Cond.methodLink "ContextMix$Side" (76) ⟨"ContextMix$Side", "beginByte", "()V"⟩ ∈ GW := mem_gw3 (i := 9) rfl rfl
theorem k490 : Cond.methodLink "ContextMixLaw" (41) ⟨"ContextMix", "octet", "(I)I"⟩ ∈ GW := mem_gw3 (i := 10) rfl rfl
theorem k491 : Cond.instanceMethod ⟨"ContextMix", "octet", "(I)I"⟩ ∈ GW := mem_gw3 (i := 11) rfl rfl
theorem k492 : Cond.selects "ContextMix" ⟨"ContextMix", "octet", "(I)I"⟩ ⟨"ContextMix", "octet", "(I)I"⟩ ∈ GW := mem_gw3 (i := 12) rfl rfl
theorem k493 : Cond.code ⟨"ContextMix", "octet", "(I)I"⟩ prog_1_method_5_code (3) (Option.some FieldType.int) ∈ GW := mem_gw3 (i := 13) rfl rfl
theorem k494 : Cond.methodLink "ContextMixLaw" (45) ⟨"ContextMix", "end", "()I"⟩ ∈ GW := mem_gw3 (i := 14) rfl rfl
theorem k495 : Cond.instanceMethod ⟨"ContextMix", "end", "()I"⟩ ∈ GW := mem_gw3 (i := 15) rfl rfl
theorem k496 : Cond.selects "ContextMix" ⟨"ContextMix", "end", "()I"⟩ ⟨"ContextMix", "end", "()I"⟩ ∈ GW := mem_gw3 (i := 16) rfl rfl
theorem k497 : Cond.code ⟨"ContextMix", "end", "()I"⟩ prog_1_method_6_code (2) (Option.some FieldType.int) ∈ GW := mem_gw3 (i := 17) rfl rfl
theorem k498 : Cond.methodLink "ContextMix" (112) ⟨"ContextMix", "beginReading", "()V"⟩ ∈ GW := mem_gw3 (i := 18) rfl rfl
theorem k500 : Cond.instanceMethod ⟨"ContextMix", "beginReading", "()V"⟩ ∈ GW := mem_gw3 (i := 20) rfl rfl
theorem k501 : Cond.code ⟨"ContextMix", "beginReading", "()V"⟩ prog_1_method_26_code (2) (Option.none : Option FieldType) ∈ GW := mem_gw3 (i := 21) rfl rfl
theorem k502 : Cond.methodLink "ContextMix" (122) ⟨"ContextMix$Coder", "reset", "()V"⟩ ∈ GW := mem_gw3 (i := 22) rfl rfl
theorem k503 : Cond.instanceMethod ⟨"ContextMix$Coder", "reset", "()V"⟩ ∈ GW := mem_gw3 (i := 23) rfl rfl
theorem k504 : Cond.selects "ContextMix$Coder" ⟨"ContextMix$Coder", "reset", "()V"⟩ ⟨"ContextMix$Coder", "reset", "()V"⟩ ∈ GW := mem_gw3 (i := 24) rfl rfl
theorem k505 : Cond.code ⟨"ContextMix$Coder", "reset", "()V"⟩ prog_2_method_2_code (1) (Option.none : Option FieldType) ∈ GW := mem_gw3 (i := 25) rfl rfl
theorem k506 : Cond.methodLink "ContextMix" (221) ⟨"ContextMix", "takeByte", "()V"⟩ ∈ GW := mem_gw3 (i := 26) rfl rfl
theorem k508 : Cond.instanceMethod ⟨"ContextMix", "takeByte", "()V"⟩ ∈ GW := mem_gw3 (i := 28) rfl rfl
theorem k509 : Cond.code ⟨"ContextMix", "takeByte", "()V"⟩ prog_1_method_27_code (2) (Option.none : Option FieldType) ∈ GW := mem_gw3 (i := 29) rfl rfl
theorem k510 : Cond.methodLink "ContextMix" (123) ⟨"ContextMix$Output", "has", "(I)Z"⟩ ∈ GW := mem_gw3 (i := 30) rfl rfl
theorem k511 : Cond.instanceMethod ⟨"ContextMix$Output", "has", "(I)Z"⟩ ∈ GW := mem_gw3 (i := 31) rfl rfl
theorem k512 : Cond.selects "ContextMix$Output" ⟨"ContextMix$Output", "has", "(I)Z"⟩ ⟨"ContextMix$Output", "has", "(I)Z"⟩ ∈ GW := mem_gw3 (i := 32) rfl rfl
theorem k513 : Cond.code ⟨"ContextMix$Output", "has", "(I)Z"⟩ prog_8_method_2_code (2) (Option.some FieldType.boolean) ∈ GW := mem_gw3 (i := 33) rfl rfl
theorem k514 : Cond.methodLink "ContextMix" (124) ⟨"ContextMix$Output", "byteAt", "(I)I"⟩ ∈ GW := mem_gw3 (i := 34) rfl rfl
theorem k515 : Cond.instanceMethod ⟨"ContextMix$Output", "byteAt", "(I)I"⟩ ∈ GW := mem_gw3 (i := 35) rfl rfl
theorem k516 : Cond.selects "ContextMix$Output" ⟨"ContextMix$Output", "byteAt", "(I)I"⟩ ⟨"ContextMix$Output", "byteAt", "(I)I"⟩ ∈ GW := mem_gw3 (i := 36) rfl rfl
theorem k517 : Cond.code ⟨"ContextMix$Output", "byteAt", "(I)I"⟩ prog_8_method_3_code (2) (Option.some FieldType.int) ∈ GW := mem_gw3 (i := 37) rfl rfl
theorem k518 : Cond.methodLink "ContextMix$Output" (21) ⟨"ContextMix$Output", "has", "(I)Z"⟩ ∈ GW := mem_gw3 (i := 38) rfl rfl
theorem k519 : Cond.constantLong "ContextMix" (227) (4294967295) ∈ GW := mem_gw3 (i := 39) rfl rfl
theorem k520 : Cond.methodLink "ContextMixLaw" (50) ⟨"ContextMix", "get", "()I"⟩ ∈ GW := mem_gw3 (i := 40) rfl rfl
theorem k521 : Cond.instanceMethod ⟨"ContextMix", "get", "()I"⟩ ∈ GW := mem_gw3 (i := 41) rfl rfl
theorem k522 : Cond.selects "ContextMix" ⟨"ContextMix", "get", "()I"⟩ ⟨"ContextMix", "get", "()I"⟩ ∈ GW := mem_gw3 (i := 42) rfl rfl
theorem k523 : Cond.code ⟨"ContextMix", "get", "()I"⟩ prog_1_method_7_code (3) (Option.some FieldType.int) ∈ GW := mem_gw3 (i := 43) rfl rfl
theorem k524 : Cond.methodLink "ContextMix" (116) ⟨"ContextMix", "readBit", "()Z"⟩ ∈ GW := mem_gw3 (i := 44) rfl rfl
theorem k526 : Cond.instanceMethod ⟨"ContextMix", "readBit", "()Z"⟩ ∈ GW := mem_gw3 (i := 46) rfl rfl
theorem k527 : Cond.code ⟨"ContextMix", "readBit", "()Z"⟩ prog_1_method_25_code (5) (Option.some FieldType.boolean) ∈ GW := mem_gw3 (i := 47) rfl rfl
theorem k528 : Cond.methodLink "ContextMixLaw" (54) ⟨"ContextMix", "again", "()I"⟩ ∈ GW := mem_gw3 (i := 48) rfl rfl
theorem k529 : Cond.instanceMethod ⟨"ContextMix", "again", "()I"⟩ ∈ GW := mem_gw3 (i := 49) rfl rfl
theorem k530 : Cond.selects "ContextMix" ⟨"ContextMix", "again", "()I"⟩ ⟨"ContextMix", "again", "()I"⟩ ∈ GW := mem_gw3 (i := 50) rfl rfl
theorem k531 : Cond.code ⟨"ContextMix", "again", "()I"⟩ prog_1_method_8_code (2) (Option.some FieldType.int) ∈ GW := mem_gw3 (i := 51) rfl rfl
theorem k532 : Cond.methodLink "ContextMix" (119) ⟨"ContextMix$Side", "reset", "()V"⟩ ∈ GW := mem_gw3 (i := 52) rfl rfl
theorem k533 : Cond.instanceMethod ⟨"ContextMix$Side", "reset", "()V"⟩ ∈ GW := mem_gw3 (i := 53) rfl rfl
theorem k534 : Cond.selects "ContextMix$Side" ⟨"ContextMix$Side", "reset", "()V"⟩ ⟨"ContextMix$Side", "reset", "()V"⟩ ∈ GW := mem_gw3 (i := 54) rfl rfl
theorem k535 : Cond.code ⟨"ContextMix$Side", "reset", "()V"⟩ prog_10_method_2_code (2) (Option.none : Option FieldType) ∈ GW := mem_gw3 (i := 55) rfl rfl
theorem k536 : Cond.methodLink "ContextMix$Side" (66) ⟨"ContextMix$History", "reset", "()V"⟩ ∈ GW := mem_gw3 (i := 56) rfl rfl
theorem k537 : Cond.instanceMethod ⟨"ContextMix$History", "reset", "()V"⟩ ∈ GW := mem_gw3 (i := 57) rfl rfl
theorem k538 : Cond.selects "ContextMix$History" ⟨"ContextMix$History", "reset", "()V"⟩ ⟨"ContextMix$History", "reset", "()V"⟩ ∈ GW := mem_gw3 (i := 58) rfl rfl
theorem k539 : Cond.code ⟨"ContextMix$History", "reset", "()V"⟩ prog_4_method_2_code (1) (Option.none : Option FieldType) ∈ GW := mem_gw3 (i := 59) rfl rfl
theorem k540 : Cond.methodLink "ContextMix$Side" (69) ⟨"ContextMix$Slots", "reset", "()V"⟩ ∈ GW := mem_gw3 (i := 60) rfl rfl
theorem k541 : Cond.instanceMethod ⟨"ContextMix$Slots", "reset", "()V"⟩ ∈ GW := mem_gw3 (i := 61) rfl rfl
theorem k542 : Cond.selects "ContextMix$Slots" ⟨"ContextMix$Slots", "reset", "()V"⟩ ⟨"ContextMix$Slots", "reset", "()V"⟩ ∈ GW := mem_gw3 (i := 62) rfl rfl
theorem k543 : Cond.code ⟨"ContextMix$Slots", "reset", "()V"⟩ prog_11_method_2_code (1) (Option.none : Option FieldType) ∈ GW := mem_gw3 (i := 63) rfl rfl
theorem k544 : Cond.methodLink "ContextMix$Side" (70) ⟨"ContextMix$Mixer", "reset", "()V"⟩ ∈ GW := mem_gw3 (i := 64) rfl rfl
theorem k545 : Cond.instanceMethod ⟨"ContextMix$Mixer", "reset", "()V"⟩ ∈ GW := mem_gw3 (i := 65) rfl rfl
theorem k546 : Cond.selects "ContextMix$Mixer" ⟨"ContextMix$Mixer", "reset", "()V"⟩ ⟨"ContextMix$Mixer", "reset", "()V"⟩ ∈ GW := mem_gw3 (i := 66) rfl rfl
theorem k547 : Cond.code ⟨"ContextMix$Mixer", "reset", "()V"⟩ prog_6_method_2_code (1) (Option.none : Option FieldType) ∈ GW := mem_gw3 (i := 67) rfl rfl
theorem k548 : Cond.methodLink "ContextMix$Side" (71) ⟨"ContextMix$Corrections", "reset", "()V"⟩ ∈ GW := mem_gw3 (i := 68) rfl rfl
theorem k549 : Cond.instanceMethod ⟨"ContextMix$Corrections", "reset", "()V"⟩ ∈ GW := mem_gw3 (i := 69) rfl rfl
theorem k550 : Cond.selects "ContextMix$Corrections" ⟨"ContextMix$Corrections", "reset", "()V"⟩ ⟨"ContextMix$Corrections", "reset", "()V"⟩ ∈ GW := mem_gw3 (i := 70) rfl rfl
theorem k551 : Cond.code ⟨"ContextMix$Corrections", "reset", "()V"⟩ prog_3_method_2_code (1) (Option.none : Option FieldType) ∈ GW := mem_gw3 (i := 71) rfl rfl
theorem k552 : Cond.methodLink "ContextMixLaw" (58) ⟨"ContextMix", "clear", "()I"⟩ ∈ GW := mem_gw3 (i := 72) rfl rfl
theorem k553 : Cond.instanceMethod ⟨"ContextMix", "clear", "()I"⟩ ∈ GW := mem_gw3 (i := 73) rfl rfl
theorem k554 : Cond.selects "ContextMix" ⟨"ContextMix", "clear", "()I"⟩ ⟨"ContextMix", "clear", "()I"⟩ ∈ GW := mem_gw3 (i := 74) rfl rfl
theorem k555 : Cond.code ⟨"ContextMix", "clear", "()I"⟩ prog_1_method_9_code (1) (Option.some FieldType.int) ∈ GW := mem_gw3 (i := 75) rfl rfl
theorem k556 : Cond.methodLink "ContextMixLaw" (62) ⟨"ContextMix", "out", "(I)I"⟩ ∈ GW := mem_gw3 (i := 76) rfl rfl
theorem k557 : Cond.instanceMethod ⟨"ContextMix", "out", "(I)I"⟩ ∈ GW := mem_gw3 (i := 77) rfl rfl
theorem k558 : Cond.selects "ContextMix" ⟨"ContextMix", "out", "(I)I"⟩ ⟨"ContextMix", "out", "(I)I"⟩ ∈ GW := mem_gw3 (i := 78) rfl rfl
theorem k559 : Cond.code ⟨"ContextMix", "out", "(I)I"⟩ prog_1_method_10_code (2) (Option.some FieldType.int) ∈ GW := mem_gw3 (i := 79) rfl rfl
theorem k560 : Cond.methodLink "ContextMixLaw" (66) ⟨"ContextMix", "spoil", "(II)I"⟩ ∈ GW := mem_gw3 (i := 80) rfl rfl
theorem k561 : Cond.instanceMethod ⟨"ContextMix", "spoil", "(II)I"⟩ ∈ GW := mem_gw3 (i := 81) rfl rfl
theorem k562 : Cond.selects "ContextMix" ⟨"ContextMix", "spoil", "(II)I"⟩ ⟨"ContextMix", "spoil", "(II)I"⟩ ∈ GW := mem_gw3 (i := 82) rfl rfl
theorem k563 : Cond.code ⟨"ContextMix", "spoil", "(II)I"⟩ prog_1_method_11_code (3) (Option.some FieldType.int) ∈ GW := mem_gw3 (i := 83) rfl rfl
theorem k564 : Cond.methodLink "ContextMix" (128) ⟨"ContextMix$Output", "flip", "(II)V"⟩ ∈ GW := mem_gw3 (i := 84) rfl rfl
theorem k565 : Cond.instanceMethod ⟨"ContextMix$Output", "flip", "(II)V"⟩ ∈ GW := mem_gw3 (i := 85) rfl rfl
theorem k566 : Cond.selects "ContextMix$Output" ⟨"ContextMix$Output", "flip", "(II)V"⟩ ⟨"ContextMix$Output", "flip", "(II)V"⟩ ∈ GW := mem_gw3 (i := 86) rfl rfl
theorem k567 : Cond.code ⟨"ContextMix$Output", "flip", "(II)V"⟩ prog_8_method_5_code (3) (Option.none : Option FieldType) ∈ GW := mem_gw3 (i := 87) rfl rfl
theorem k568 : Cond.methodLink "ContextMixLaw" (70) ⟨"ContextMix", "chance", "(I)I"⟩ ∈ GW := mem_gw3 (i := 88) rfl rfl
theorem k569 : Cond.instanceMethod ⟨"ContextMix", "chance", "(I)I"⟩ ∈ GW := mem_gw3 (i := 89) rfl rfl
theorem k570 : Cond.selects "ContextMix" ⟨"ContextMix", "chance", "(I)I"⟩ ⟨"ContextMix", "chance", "(I)I"⟩ ∈ GW := mem_gw3 (i := 90) rfl rfl
theorem k571 : Cond.code ⟨"ContextMix", "chance", "(I)I"⟩ prog_1_method_12_code (3) (Option.some FieldType.int) ∈ GW := mem_gw3 (i := 91) rfl rfl
theorem k572 : Cond.methodLink "ContextMix" (132) ⟨"ContextMix", "sideOf", "(I)LContextMix$Side;"⟩ ∈ GW := mem_gw3 (i := 92) rfl rfl
theorem k574 : Cond.instanceMethod ⟨"ContextMix", "sideOf", "(I)LContextMix$Side;"⟩ ∈ GW := mem_gw3 (i := 94) rfl rfl
theorem k575 : Cond.code ⟨"ContextMix", "sideOf", "(I)LContextMix$Side;"⟩ prog_1_method_22_code (2) (Option.some (FieldType.object "ContextMix$Side")) ∈ GW := mem_gw3 (i := 95) rfl rfl
theorem k576 : Cond.methodLink "ContextMixLaw" (74) ⟨"ContextMix", "input", "(II)I"⟩ ∈ GW := mem_gw3 (i := 96) rfl rfl
theorem k577 : Cond.instanceMethod ⟨"ContextMix", "input", "(II)I"⟩ ∈ GW := mem_gw3 (i := 97) rfl rfl
theorem k578 : Cond.selects "ContextMix" ⟨"ContextMix", "input", "(II)I"⟩ ⟨"ContextMix", "input", "(II)I"⟩ ∈ GW := mem_gw3 (i := 98) rfl rfl
theorem k579 : Cond.code ⟨"ContextMix", "input", "(II)I"⟩ prog_1_method_13_code (4) (Option.some FieldType.int) ∈ GW := mem_gw3 (i := 99) rfl rfl
theorem k580 : Cond.methodLink "ContextMix" (139) ⟨"ContextMix$Side", "inputOf", "(I)I"⟩ ∈ GW := mem_gw3 (i := 100) rfl rfl
theorem k581 : Cond.methodLink "ContextMixLaw" (78) ⟨"ContextMix", "weight", "(IIII)I"⟩ ∈ GW := mem_gw3 (i := 101) rfl rfl
theorem k582 : Cond.instanceMethod ⟨"ContextMix", "weight", "(IIII)I"⟩ ∈ GW := mem_gw3 (i := 102) rfl rfl
theorem k583 : Cond.selects "ContextMix" ⟨"ContextMix", "weight", "(IIII)I"⟩ ⟨"ContextMix", "weight", "(IIII)I"⟩ ∈ GW := mem_gw3 (i := 103) rfl rfl
theorem k584 : Cond.code ⟨"ContextMix", "weight", "(IIII)I"⟩ prog_1_method_14_code (7) (Option.some FieldType.int) ∈ GW := mem_gw3 (i := 104) rfl rfl
theorem k585 : Cond.constant "ContextMix" (144) (-2000000) ∈ GW := mem_gw3 (i := 105) rfl rfl
theorem k586 : Cond.methodLink "ContextMix" (153) ⟨"ContextMix$Mixer", "weightAt", "(II)I"⟩ ∈ GW := mem_gw3 (i := 106) rfl rfl
theorem k587 : Cond.instanceMethod ⟨"ContextMix$Mixer", "weightAt", "(II)I"⟩ ∈ GW := mem_gw3 (i := 107) rfl rfl
theorem k588 : Cond.selects "ContextMix$Mixer" ⟨"ContextMix$Mixer", "weightAt", "(II)I"⟩ ⟨"ContextMix$Mixer", "weightAt", "(II)I"⟩ ∈ GW := mem_gw3 (i := 108) rfl rfl
theorem k589 : Cond.code ⟨"ContextMix$Mixer", "weightAt", "(II)I"⟩ prog_6_method_4_code (3) (Option.some FieldType.int) ∈ GW := mem_gw3 (i := 109) rfl rfl
theorem k590 : Cond.methodLink "ContextMixLaw" (90) ⟨"ContextMix", "seen", "(II)I"⟩ ∈ GW := mem_gw3 (i := 110) rfl rfl
theorem k591 : Cond.instanceMethod ⟨"ContextMix", "seen", "(II)I"⟩ ∈ GW := mem_gw3 (i := 111) rfl rfl
theorem k592 : Cond.selects "ContextMix" ⟨"ContextMix", "seen", "(II)I"⟩ ⟨"ContextMix", "seen", "(II)I"⟩ ∈ GW := mem_gw3 (i := 112) rfl rfl
theorem k593 : Cond.code ⟨"ContextMix", "seen", "(II)I"⟩ prog_1_method_16_code (4) (Option.some FieldType.int) ∈ GW := mem_gw3 (i := 113) rfl rfl
theorem k594 : Cond.methodLink "ContextMix" (160) ⟨"ContextMix$Slots", "has", "(I)Z"⟩ ∈ GW := mem_gw3 (i := 114) rfl rfl
theorem k595 : Cond.methodLink "ContextMixLaw" (94) ⟨"ContextMix", "cell", "(III)I"⟩ ∈ GW := mem_gw3 (i := 115) rfl rfl
theorem k596 : Cond.instanceMethod ⟨"ContextMix", "cell", "(III)I"⟩ ∈ GW := mem_gw3 (i := 116) rfl rfl
theorem k597 : Cond.selects "ContextMix" ⟨"ContextMix", "cell", "(III)I"⟩ ⟨"ContextMix", "cell", "(III)I"⟩ ∈ GW := mem_gw3 (i := 117) rfl rfl
theorem k598 : Cond.code ⟨"ContextMix", "cell", "(III)I"⟩ prog_1_method_17_code (6) (Option.some FieldType.int) ∈ GW := mem_gw3 (i := 118) rfl rfl
theorem k599 : Cond.methodLink "ContextMix" (177) ⟨"ContextMix$Corrections", "has", "(II)Z"⟩ ∈ GW := mem_gw3 (i := 119) rfl rfl
theorem k600 : Cond.constant "ContextMix" (181) (40000) ∈ GW := mem_gw3 (i := 120) rfl rfl
theorem k601 : Cond.methodLink "ContextMix" (186) ⟨"ContextMix$Corrections", "cellAt", "(II)I"⟩ ∈ GW := mem_gw3 (i := 121) rfl rfl
theorem k602 : Cond.constant "ContextMix" (189) (65536) ∈ GW := mem_gw3 (i := 122) rfl rfl
theorem k603 : Cond.methodLink "ContextMixLaw" (98) ⟨"ContextMix", "squash", "(I)I"⟩ ∈ GW := mem_gw3 (i := 123) rfl rfl
theorem k604 : Cond.instanceMethod ⟨"ContextMix", "squash", "(I)I"⟩ ∈ GW := mem_gw3 (i := 124) rfl rfl
theorem k605 : Cond.selects "ContextMix" ⟨"ContextMix", "squash", "(I)I"⟩ ⟨"ContextMix", "squash", "(I)I"⟩ ∈ GW := mem_gw3 (i := 125) rfl rfl
theorem k606 : Cond.code ⟨"ContextMix", "squash", "(I)I"⟩ prog_1_method_18_code (2) (Option.some FieldType.int) ∈ GW := mem_gw3 (i := 126) rfl rfl
theorem k607 : Cond.methodLink "ContextMix" (190) ⟨"ContextMix$Numbers", "squashed", "(I)I"⟩ ∈ GW := mem_gw3 (i := 127) rfl rfl
theorem k608 : Cond.methodLink "ContextMixLaw" (102) ⟨"ContextMix", "stretch", "(I)I"⟩ ∈ GW := mem_gw3 (i := 128) rfl rfl
theorem k609 : Cond.instanceMethod ⟨"ContextMix", "stretch", "(I)I"⟩ ∈ GW := mem_gw3 (i := 129) rfl rfl
theorem k610 : Cond.selects "ContextMix" ⟨"ContextMix", "stretch", "(I)I"⟩ ⟨"ContextMix", "stretch", "(I)I"⟩ ∈ GW := mem_gw3 (i := 130) rfl rfl
theorem k611 : Cond.code ⟨"ContextMix", "stretch", "(I)I"⟩ prog_1_method_19_code (2) (Option.some FieldType.int) ∈ GW := mem_gw3 (i := 131) rfl rfl
theorem k612 : Cond.methodLink "ContextMix" (193) ⟨"ContextMix$Numbers", "stretched", "(I)I"⟩ ∈ GW := mem_gw3 (i := 132) rfl rfl
theorem k613 : Cond.methodLink "ContextMixLaw" (106) ⟨"ContextMix", "equal", "()I"⟩ ∈ GW := mem_gw3 (i := 133) rfl rfl
theorem k614 : Cond.instanceMethod ⟨"ContextMix", "equal", "()I"⟩ ∈ GW := mem_gw3 (i := 134) rfl rfl
theorem k615 : Cond.selects "ContextMix" ⟨"ContextMix", "equal", "()I"⟩ ⟨"ContextMix", "equal", "()I"⟩ ∈ GW := mem_gw3 (i := 135) rfl rfl
theorem k616 : Cond.code ⟨"ContextMix", "equal", "()I"⟩ prog_1_method_20_code (1) (Option.some FieldType.int) ∈ GW := mem_gw3 (i := 136) rfl rfl
theorem k617 : Cond.methodLink "ContextMix" (196) ⟨"ContextMix$Side", "sameAs", "(LContextMix$Side;)Z"⟩ ∈ GW := mem_gw3 (i := 137) rfl rfl
theorem k618 : Cond.instanceMethod ⟨"ContextMix$Side", "sameAs", "(LContextMix$Side;)Z"⟩ ∈ GW := mem_gw3 (i := 138) rfl rfl
theorem k619 : Cond.selects "ContextMix$Side" ⟨"ContextMix$Side", "sameAs", "(LContextMix$Side;)Z"⟩ ⟨"ContextMix$Side", "sameAs", "(LContextMix$Side;)Z"⟩ ∈ GW := mem_gw3 (i := 139) rfl rfl
theorem k620 : Cond.code ⟨"ContextMix$Side", "sameAs", "(LContextMix$Side;)Z"⟩ prog_10_method_8_code (2) (Option.some FieldType.boolean) ∈ GW := mem_gw3 (i := 140) rfl rfl
theorem k621 : Cond.methodLink "ContextMix$Side" (160) ⟨"ContextMix$History", "sameAs", "(LContextMix$History;)Z"⟩ ∈ GW := mem_gw3 (i := 141) rfl rfl
theorem k622 : Cond.instanceMethod ⟨"ContextMix$History", "sameAs", "(LContextMix$History;)Z"⟩ ∈ GW := mem_gw3 (i := 142) rfl rfl
theorem k623 : Cond.selects "ContextMix$History" ⟨"ContextMix$History", "sameAs", "(LContextMix$History;)Z"⟩ ⟨"ContextMix$History", "sameAs", "(LContextMix$History;)Z"⟩ ∈ GW := mem_gw3 (i := 143) rfl rfl
theorem k624 : Cond.code ⟨"ContextMix$History", "sameAs", "(LContextMix$History;)Z"⟩ prog_4_method_13_code (3) (Option.some FieldType.boolean) ∈ GW := mem_gw3 (i := 144) rfl rfl
theorem k625 : Cond.methodLink "ContextMix$Side" (164) ⟨"ContextMix$Slots", "sameAs", "(LContextMix$Slots;)Z"⟩ ∈ GW := mem_gw3 (i := 145) rfl rfl
theorem k626 : Cond.instanceMethod ⟨"ContextMix$Slots", "sameAs", "(LContextMix$Slots;)Z"⟩ ∈ GW := mem_gw3 (i := 146) rfl rfl
theorem k627 : Cond.selects "ContextMix$Slots" ⟨"ContextMix$Slots", "sameAs", "(LContextMix$Slots;)Z"⟩ ⟨"ContextMix$Slots", "sameAs", "(LContextMix$Slots;)Z"⟩ ∈ GW := mem_gw3 (i := 147) rfl rfl
theorem k628 : Cond.code ⟨"ContextMix$Slots", "sameAs", "(LContextMix$Slots;)Z"⟩ prog_11_method_6_code (2) (Option.some FieldType.boolean) ∈ GW := mem_gw3 (i := 148) rfl rfl
theorem k629 : Cond.methodLink "ContextMix$Slots" (49) ⟨"ContextMix$Numbers", "same", "([I[I)Z"⟩ ∈ GW := mem_gw3 (i := 149) rfl rfl
theorem k630 : Cond.static ⟨"ContextMix$Numbers", "same", "([I[I)Z"⟩ ∈ GW := mem_gw3 (i := 150) rfl rfl
theorem k631 : Cond.code ⟨"ContextMix$Numbers", "same", "([I[I)Z"⟩ prog_7_method_6_code (3) (Option.some FieldType.boolean) ∈ GW := mem_gw3 (i := 151) rfl rfl
theorem k632 : Cond.methodLink "ContextMix$Side" (170) ⟨"ContextMix$Numbers", "same", "([I[I)Z"⟩ ∈ GW := mem_gw3 (i := 152) rfl rfl
theorem k633 : Cond.methodLink "ContextMixLaw" (110) ⟨"ContextMix", "count", "(I)I"⟩ ∈ GW := mem_gw3 (i := 153) rfl rfl
theorem k634 : Cond.instanceMethod ⟨"ContextMix", "count", "(I)I"⟩ ∈ GW := mem_gw3 (i := 154) rfl rfl
theorem k635 : Cond.selects "ContextMix" ⟨"ContextMix", "count", "(I)I"⟩ ⟨"ContextMix", "count", "(I)I"⟩ ∈ GW := mem_gw3 (i := 155) rfl rfl
theorem k636 : Cond.code ⟨"ContextMix", "count", "(I)I"⟩ prog_1_method_21_code (2) (Option.some FieldType.int) ∈ GW := mem_gw3 (i := 156) rfl rfl
theorem k637 : Cond.methodLink "ContextMix" (200) ⟨"ContextMix$Side", "firstMatchLength", "()I"⟩ ∈ GW := mem_gw3 (i := 157) rfl rfl
theorem k638 : Cond.instanceMethod ⟨"ContextMix$Side", "firstMatchLength", "()I"⟩ ∈ GW := mem_gw3 (i := 158) rfl rfl
theorem k639 : Cond.selects "ContextMix$Side" ⟨"ContextMix$Side", "firstMatchLength", "()I"⟩ ⟨"ContextMix$Side", "firstMatchLength", "()I"⟩ ∈ GW := mem_gw3 (i := 159) rfl rfl
theorem k640 : Cond.code ⟨"ContextMix$Side", "firstMatchLength", "()I"⟩ prog_10_method_7_code (2) (Option.some FieldType.int) ∈ GW := mem_gw3 (i := 160) rfl rfl
theorem k641 : Cond.methodLink "ContextMixLaw" (15) ⟨"ContextMixLaw", "cell", "([II)I"⟩ ∈ GW := mem_gw3 (i := 161) rfl rfl
theorem k642 : Cond.static ⟨"ContextMixLaw", "cell", "([II)I"⟩ ∈ GW := mem_gw3 (i := 162) rfl rfl
theorem k643 : Cond.code ⟨"ContextMixLaw", "cell", "([II)I"⟩ method_2_code (2) (Option.some FieldType.int) ∈ GW := mem_gw3 (i := 163) rfl rfl
theorem k644 : Cond.methodLink "ContextMixLaw" (83) ⟨"ContextMixLaw", "slot", "(LContextMix;II[J)I"⟩ ∈ GW := mem_gw3 (i := 164) rfl rfl
theorem k645 : Cond.static ⟨"ContextMixLaw", "slot", "(LContextMix;II[J)I"⟩ ∈ GW := mem_gw3 (i := 165) rfl rfl
theorem k647 : Cond.classLink "ContextMixLaw" (13) "java/lang/ArrayIndexOutOfBoundsException" ∈ GW := mem_gw3 (i := 167) rfl rfl
theorem k648 : Cond.instantiable "java/lang/ArrayIndexOutOfBoundsException" (6) ∈ GW := mem_gw3 (i := 168) rfl rfl
theorem k649 : Cond.instanceMethod ⟨"java/lang/ArrayIndexOutOfBoundsException", "<init>", "(Ljava/lang/String;)V"⟩ ∈ GW := mem_gw3 (i := 169) rfl rfl
theorem k650 : Cond.code ⟨"java/lang/ArrayIndexOutOfBoundsException", "<init>", "(Ljava/lang/String;)V"⟩ prog_14_method_2_code (2) (Option.none : Option FieldType) ∈ GW := mem_gw3 (i := 170) rfl rfl
theorem k651 : Cond.methodLink "java/lang/ArrayIndexOutOfBoundsException" (7) ⟨"java/lang/IndexOutOfBoundsException", "<init>", "(Ljava/lang/String;)V"⟩ ∈ GW := mem_gw3 (i := 171) rfl rfl
theorem k652 : Cond.instanceMethod ⟨"java/lang/IndexOutOfBoundsException", "<init>", "(Ljava/lang/String;)V"⟩ ∈ GW := mem_gw3 (i := 172) rfl rfl
theorem k653 : Cond.code ⟨"java/lang/IndexOutOfBoundsException", "<init>", "(Ljava/lang/String;)V"⟩ prog_16_method_2_code (2) (Option.none : Option FieldType) ∈ GW := mem_gw3 (i := 173) rfl rfl
theorem k654 : Cond.methodLink "java/lang/IndexOutOfBoundsException" (7) ⟨"java/lang/RuntimeException", "<init>", "(Ljava/lang/String;)V"⟩ ∈ GW := mem_gw3 (i := 174) rfl rfl
theorem k655 : Cond.instanceMethod ⟨"java/lang/RuntimeException", "<init>", "(Ljava/lang/String;)V"⟩ ∈ GW := mem_gw3 (i := 175) rfl rfl
theorem k656 : Cond.code ⟨"java/lang/RuntimeException", "<init>", "(Ljava/lang/String;)V"⟩ prog_18_method_2_code (2) (Option.none : Option FieldType) ∈ GW := mem_gw3 (i := 176) rfl rfl
theorem k657 : Cond.methodLink "java/lang/RuntimeException" (7) ⟨"java/lang/Exception", "<init>", "(Ljava/lang/String;)V"⟩ ∈ GW := mem_gw3 (i := 177) rfl rfl
theorem k658 : Cond.instanceMethod ⟨"java/lang/Exception", "<init>", "(Ljava/lang/String;)V"⟩ ∈ GW := mem_gw3 (i := 178) rfl rfl
theorem k659 : Cond.code ⟨"java/lang/Exception", "<init>", "(Ljava/lang/String;)V"⟩ prog_15_method_2_code (2) (Option.none : Option FieldType) ∈ GW := mem_gw3 (i := 179) rfl rfl
theorem k660 : Cond.methodLink "java/lang/Exception" (7) ⟨"java/lang/Throwable", "<init>", "(Ljava/lang/String;)V"⟩ ∈ GW := mem_gw3 (i := 180) rfl rfl
theorem k661 : Cond.instanceMethod ⟨"java/lang/Throwable", "<init>", "(Ljava/lang/String;)V"⟩ ∈ GW := mem_gw3 (i := 181) rfl rfl
theorem k662 : Cond.code ⟨"java/lang/Throwable", "<init>", "(Ljava/lang/String;)V"⟩ prog_21_method_2_code (2) (Option.none : Option FieldType) ∈ GW := mem_gw3 (i := 182) rfl rfl
theorem k663 : Cond.methodLink "java/lang/Throwable" (1) ⟨"java/lang/Object", "<init>", "()V"⟩ ∈ GW := mem_gw3 (i := 183) rfl rfl
theorem k664 : Cond.fieldLink "java/lang/Throwable" (13) "java/lang/Throwable" "UNASSIGNED_STACK" "[Ljava/lang/StackTraceElement;" ∈ GW := mem_gw3 (i := 184) rfl rfl
theorem k666 : Cond.fieldLink "java/lang/Throwable" (20) "java/lang/Throwable" "SUPPRESSED_SENTINEL" "Ljava/util/List;" ∈ GW := mem_gw3 (i := 186) rfl rfl
theorem k668 : Cond.methodLink "java/lang/Throwable" (27) ⟨"java/lang/Throwable", "fillInStackTrace", "()Ljava/lang/Throwable;"⟩ ∈ GW := mem_gw3 (i := 188) rfl rfl
theorem k669 : Cond.instanceMethod ⟨"java/lang/Throwable", "fillInStackTrace", "()Ljava/lang/Throwable;"⟩ ∈ GW := mem_gw3 (i := 189) rfl rfl
theorem k671 : Cond.selects "java/lang/ArrayIndexOutOfBoundsException" ⟨"java/lang/Throwable", "fillInStackTrace", "()Ljava/lang/Throwable;"⟩ ⟨"java/lang/Throwable", "fillInStackTrace", "()Ljava/lang/Throwable;"⟩ ∈ GW := mem_gw3 (i := 191) rfl rfl
theorem k673 : Cond.methodLink "java/lang/Throwable" (202) ⟨"java/lang/Throwable", "fillInStackTrace", "(I)Ljava/lang/Throwable;"⟩ ∈ GW := mem_gw3 (i := 193) rfl rfl
theorem k675 : Cond.instanceMethod ⟨"java/lang/Throwable", "fillInStackTrace", "(I)Ljava/lang/Throwable;"⟩ ∈ GW := mem_gw3 (i := 195) rfl rfl
theorem k676 : Cond.instantiable "java/lang/Throwable" (6) ∈ GW := mem_gw3 (i := 196) rfl rfl
theorem k677 : Cond.native ⟨"java/lang/Throwable", "fillInStackTrace", "(I)Ljava/lang/Throwable;"⟩ ∈ GW := mem_gw3 (i := 197) rfl rfl
theorem k678 : Cond.fieldLink "java/lang/Throwable" (198) "java/lang/Throwable" "backtrace" "Ljava/lang/Object;" ∈ GW := mem_gw3 (i := 198) rfl rfl
theorem k679 : Cond.fieldLink "java/lang/Throwable" (31) "java/lang/Throwable" "detailMessage" "Ljava/lang/String;" ∈ GW := mem_gw3 (i := 199) rfl rfl
theorem k680 : Cond.fieldLink "java/lang/Throwable" (7) "java/lang/Throwable" "cause" "Ljava/lang/Throwable;" ∈ GW := mem_gw3 (i := 200) rfl rfl
theorem k681 : Cond.fieldLink "java/lang/Throwable" (17) "java/lang/Throwable" "stackTrace" "[Ljava/lang/StackTraceElement;" ∈ GW := mem_gw3 (i := 201) rfl rfl
theorem k682 : Cond.fieldLink "java/lang/Throwable" (24) "java/lang/Throwable" "suppressedExceptions" "Ljava/util/List;" ∈ GW := mem_gw3 (i := 202) rfl rfl
theorem k683 : Cond.lays "java/lang/ArrayIndexOutOfBoundsException" "java/lang/Throwable" "backtrace" "Ljava/lang/Object;" ∈ GW := mem_gw3 (i := 203) rfl rfl
theorem k685 : Cond.lays "java/lang/ArrayIndexOutOfBoundsException" "java/lang/Throwable" "detailMessage" "Ljava/lang/String;" ∈ GW := mem_gw3 (i := 205) rfl rfl
theorem k687 : Cond.lays "java/lang/ArrayIndexOutOfBoundsException" "java/lang/Throwable" "cause" "Ljava/lang/Throwable;" ∈ GW := mem_gw3 (i := 207) rfl rfl
theorem k689 : Cond.lays "java/lang/ArrayIndexOutOfBoundsException" "java/lang/Throwable" "stackTrace" "[Ljava/lang/StackTraceElement;" ∈ GW := mem_gw3 (i := 209) rfl rfl
theorem k691 : Cond.lays "java/lang/ArrayIndexOutOfBoundsException" "java/lang/Throwable" "depth" "I" ∈ GW := mem_gw3 (i := 211) rfl rfl
theorem k693 : Cond.lays "java/lang/ArrayIndexOutOfBoundsException" "java/lang/Throwable" "suppressedExceptions" "Ljava/util/List;" ∈ GW := mem_gw3 (i := 213) rfl rfl
theorem k705 : Cond.selects "java/lang/ArrayIndexOutOfBoundsException" ⟨"java/lang/Throwable", "fillInStackTrace", "(I)Ljava/lang/Throwable;"⟩ ⟨"java/lang/Throwable", "fillInStackTrace", "(I)Ljava/lang/Throwable;"⟩ ∈ GW := mem_gw3 (i := 225) rfl rfl
theorem k706 : Cond.lays "java/lang/Throwable" "java/lang/Throwable" "cause" "Ljava/lang/Throwable;" ∈ GW := mem_gw3 (i := 226) rfl rfl
theorem k707 : Cond.lays "java/lang/Throwable" "java/lang/Throwable" "stackTrace" "[Ljava/lang/StackTraceElement;" ∈ GW := mem_gw3 (i := 227) rfl rfl
theorem k708 : Cond.lays "java/lang/Throwable" "java/lang/Throwable" "suppressedExceptions" "Ljava/util/List;" ∈ GW := mem_gw3 (i := 228) rfl rfl
theorem k709 : Cond.lays "java/lang/Throwable" "java/lang/Throwable" "detailMessage" "Ljava/lang/String;" ∈ GW := mem_gw3 (i := 229) rfl rfl
theorem k710 : Cond.lays "java/lang/Throwable" "java/lang/Throwable" "backtrace" "Ljava/lang/Object;" ∈ GW := mem_gw3 (i := 230) rfl rfl
theorem k711 : Cond.fieldLink "java/lang/Throwable" (198) "java/lang/Throwable" "backtrace" "Ljava/lang/Object;" ∈ GW := mem_gw3 (i := 231) rfl rfl
theorem k713 : Cond.instanceMethod ⟨"java/lang/Throwable", "<init>", "()V"⟩ ∈ GW := mem_gw3 (i := 233) rfl rfl
theorem k714 : Cond.code ⟨"java/lang/Throwable", "<init>", "()V"⟩ prog_21_method_1_code (1) (Option.none : Option FieldType) ∈ GW := mem_gw3 (i := 234) rfl rfl
theorem k715 : Cond.instantiable "java/lang/String" (4) ∈ GW := mem_gw3 (i := 235) rfl rfl
theorem k716 : Cond.arrayClass FieldType.byte ∈ GW := mem_gw3 (i := 236) rfl rfl
theorem k717 : Cond.laysFinal "java/lang/String" "java/lang/String" "value" "[B" ∈ GW := mem_gw3 (i := 237) rfl rfl
theorem k719 : Cond.laysFinal "java/lang/String" "java/lang/String" "coder" "B" ∈ GW := mem_gw3 (i := 239) rfl rfl
theorem k721 : Cond.methodLink "ContextMixLaw" (7) ⟨"ContextMix", "slot", "(II)I"⟩ ∈ GW := mem_gw4 (i := 1) rfl rfl
theorem k722 : Cond.instanceMethod ⟨"ContextMix", "slot", "(II)I"⟩ ∈ GW := mem_gw4 (i := 2) rfl rfl
theorem k723 : Cond.selects "ContextMix" ⟨"ContextMix", "slot", "(II)I"⟩ ⟨"ContextMix", "slot", "(II)I"⟩ ∈ GW := mem_gw4 (i := 3) rfl rfl
theorem k724 : Cond.code ⟨"ContextMix", "slot", "(II)I"⟩ prog_1_method_15_code (4) (Option.some FieldType.int) ∈ GW := mem_gw4 (i := 4) rfl rfl
theorem k725 : Cond.classLink "ContextMix" (163) "java/lang/ArrayIndexOutOfBoundsException" ∈ GW := mem_gw4 (i := 5) rfl rfl
theorem k727 : Cond.methodLink "ContextMix" (167) ⟨"java/lang/ArrayIndexOutOfBoundsException", "<init>", "(Ljava/lang/String;)V"⟩ ∈ GW := mem_gw4 (i := 7) rfl rfl
theorem k728 : Cond.classLink "ContextMixLaw" (24) "ContextMixModel" ∈ GW := mem_gw4 (i := 8) rfl rfl
theorem k729 : Cond.instantiable "ContextMixModel" (32) ∈ GW := mem_gw4 (i := 9) rfl rfl
theorem k730 : Cond.methodLink "ContextMixLaw" (26) ⟨"ContextMixModel", "<init>", "(I)V"⟩ ∈ GW := mem_gw4 (i := 10) rfl rfl
theorem k731 : Cond.instanceMethod ⟨"ContextMixModel", "<init>", "(I)V"⟩ ∈ GW := mem_gw4 (i := 11) rfl rfl
theorem k732 : Cond.code ⟨"ContextMixModel", "<init>", "(I)V"⟩ prog_13_method_1_code (4) (Option.none : Option FieldType) ∈ GW := mem_gw4 (i := 12) rfl rfl
theorem k733 : Cond.methodLink "ContextMixModel" (1) ⟨"java/lang/Object", "<init>", "()V"⟩ ∈ GW := mem_gw4 (i := 13) rfl rfl
theorem k734 : Cond.methodLink "ContextMixModel" (70) ⟨"ContextMixModel", "squashed", "(I)I"⟩ ∈ GW := mem_gw4 (i := 14) rfl rfl
theorem k735 : Cond.static ⟨"ContextMixModel", "squashed", "(I)I"⟩ ∈ GW := mem_gw4 (i := 15) rfl rfl
theorem k736 : Cond.code ⟨"ContextMixModel", "squashed", "(I)I"⟩ prog_13_method_3_code (3) (Option.some FieldType.int) ∈ GW := mem_gw4 (i := 16) rfl rfl
theorem k737 : Cond.fieldLink "ContextMixModel" (80) "ContextMixModel" "T" "[I" ∈ GW := mem_gw4 (i := 17) rfl rfl
theorem k739 : Cond.methodLink "ContextMixModel" (74) ⟨"ContextMixModel", "freshAll", "()V"⟩ ∈ GW := mem_gw4 (i := 19) rfl rfl
theorem k741 : Cond.instanceMethod ⟨"ContextMixModel", "freshAll", "()V"⟩ ∈ GW := mem_gw4 (i := 21) rfl rfl
theorem k742 : Cond.code ⟨"ContextMixModel", "freshAll", "()V"⟩ prog_13_method_9_code (1) (Option.none : Option FieldType) ∈ GW := mem_gw4 (i := 22) rfl rfl
theorem k743 : Cond.methodLink "ContextMixModel" (100) ⟨"ContextMixModel", "fresh", "(I)V"⟩ ∈ GW := mem_gw4 (i := 23) rfl rfl
theorem k745 : Cond.instanceMethod ⟨"ContextMixModel", "fresh", "(I)V"⟩ ∈ GW := mem_gw4 (i := 25) rfl rfl
theorem k746 : Cond.code ⟨"ContextMixModel", "fresh", "(I)V"⟩ prog_13_method_8_code (5) (Option.none : Option FieldType) ∈ GW := mem_gw4 (i := 26) rfl rfl
theorem k747 : Cond.constant "ContextMixModel" (86) (32768) ∈ GW := mem_gw4 (i := 27) rfl rfl
theorem k748 : Cond.methodLink "ContextMixModel" (87) ⟨"ContextMixModel", "weightAt", "(IIII)I"⟩ ∈ GW := mem_gw4 (i := 28) rfl rfl
theorem k749 : Cond.static ⟨"ContextMixModel", "weightAt", "(IIII)I"⟩ ∈ GW := mem_gw4 (i := 29) rfl rfl
theorem k750 : Cond.code ⟨"ContextMixModel", "weightAt", "(IIII)I"⟩ prog_13_method_10_code (4) (Option.some FieldType.int) ∈ GW := mem_gw4 (i := 30) rfl rfl
theorem k751 : Cond.constantLong "ContextMixModel" (94) (4294967295) ∈ GW := mem_gw4 (i := 31) rfl rfl
theorem k752 : Cond.methodLink "ContextMixModel" (96) ⟨"ContextMixModel", "byteBegins", "(IZ)V"⟩ ∈ GW := mem_gw4 (i := 32) rfl rfl
theorem k754 : Cond.instanceMethod ⟨"ContextMixModel", "byteBegins", "(IZ)V"⟩ ∈ GW := mem_gw4 (i := 34) rfl rfl
theorem k755 : Cond.code ⟨"ContextMixModel", "byteBegins", "(IZ)V"⟩ prog_13_method_14_code (4) (Option.none : Option FieldType) ∈ GW := mem_gw4 (i := 35) rfl rfl
theorem k756 : Cond.methodLink "ContextMixModel" (128) ⟨"ContextMixModel", "contextOf", "(II)I"⟩ ∈ GW := mem_gw4 (i := 36) rfl rfl
theorem k758 : Cond.instanceMethod ⟨"ContextMixModel", "contextOf", "(II)I"⟩ ∈ GW := mem_gw4 (i := 38) rfl rfl
theorem k759 : Cond.code ⟨"ContextMixModel", "contextOf", "(II)I"⟩ prog_13_method_13_code (7) (Option.some FieldType.int) ∈ GW := mem_gw4 (i := 39) rfl rfl
theorem k760 : Cond.methodLink "ContextMixModel" (117) ⟨"ContextMixModel", "hash", "(II)I"⟩ ∈ GW := mem_gw4 (i := 40) rfl rfl
theorem k761 : Cond.static ⟨"ContextMixModel", "hash", "(II)I"⟩ ∈ GW := mem_gw4 (i := 41) rfl rfl
theorem k762 : Cond.code ⟨"ContextMixModel", "hash", "(II)I"⟩ prog_13_method_4_code (3) (Option.some FieldType.int) ∈ GW := mem_gw4 (i := 42) rfl rfl
theorem k763 : Cond.constant "ContextMixModel" (83) (625341585) ∈ GW := mem_gw4 (i := 43) rfl rfl
theorem k764 : Cond.constant "ContextMixModel" (84) (-1640531535) ∈ GW := mem_gw4 (i := 44) rfl rfl
theorem k765 : Cond.constant "ContextMixModel" (85) (-2048144789) ∈ GW := mem_gw4 (i := 45) rfl rfl
theorem k766 : Cond.methodLink "ContextMixModel" (121) ⟨"ContextMixModel", "latest", "(II)I"⟩ ∈ GW := mem_gw4 (i := 46) rfl rfl
theorem k768 : Cond.instanceMethod ⟨"ContextMixModel", "latest", "(II)I"⟩ ∈ GW := mem_gw4 (i := 48) rfl rfl
theorem k769 : Cond.code ⟨"ContextMixModel", "latest", "(II)I"⟩ prog_13_method_11_code (3) (Option.some FieldType.int) ∈ GW := mem_gw4 (i := 49) rfl rfl
theorem k770 : Cond.methodLink "ContextMixModel" (124) ⟨"ContextMixModel", "isLetter", "(I)Z"⟩ ∈ GW := mem_gw4 (i := 50) rfl rfl
theorem k771 : Cond.static ⟨"ContextMixModel", "isLetter", "(I)Z"⟩ ∈ GW := mem_gw4 (i := 51) rfl rfl
theorem k772 : Cond.code ⟨"ContextMixModel", "isLetter", "(I)Z"⟩ prog_13_method_12_code (1) (Option.some FieldType.boolean) ∈ GW := mem_gw4 (i := 52) rfl rfl
theorem k773 : Cond.methodLink "ContextMixModel" (131) ⟨"ContextMixModel", "match", "(IIZ)V"⟩ ∈ GW := mem_gw4 (i := 53) rfl rfl
theorem k775 : Cond.instanceMethod ⟨"ContextMixModel", "match", "(IIZ)V"⟩ ∈ GW := mem_gw4 (i := 55) rfl rfl
theorem k776 : Cond.code ⟨"ContextMixModel", "match", "(IIZ)V"⟩ prog_13_method_15_code (9) (Option.none : Option FieldType) ∈ GW := mem_gw4 (i := 56) rfl rfl
theorem k777 : Cond.fieldLink "ContextMixModel" (66) "ContextMixModel" "room" "I" ∈ GW := mem_gw4 (i := 57) rfl rfl
theorem k778 : Cond.fieldLink "ContextMixModel" (7) "ContextMixModel" "stretched" "[I" ∈ GW := mem_gw4 (i := 58) rfl rfl
theorem k779 : Cond.fieldLink "ContextMixModel" (77) "ContextMixModel" "thrown" "I" ∈ GW := mem_gw4 (i := 59) rfl rfl
theorem k780 : Cond.fieldLink "ContextMixModel" (91) "ContextMixModel" "many" "I" ∈ GW := mem_gw4 (i := 60) rfl rfl
theorem k781 : Cond.fieldLink "ContextMixModel" (13) "ContextMixModel" "kind" "[I" ∈ GW := mem_gw4 (i := 61) rfl rfl
theorem k782 : Cond.fieldLink "ContextMixModel" (16) "ContextMixModel" "size" "[I" ∈ GW := mem_gw4 (i := 62) rfl rfl
theorem k783 : Cond.fieldLink "ContextMixModel" (19) "ContextMixModel" "isOff" "[Z" ∈ GW := mem_gw4 (i := 63) rfl rfl
theorem k784 : Cond.fieldLink "ContextMixModel" (23) "ContextMixModel" "bytes" "[I" ∈ GW := mem_gw4 (i := 64) rfl rfl
theorem k785 : Cond.fieldLink "ContextMixModel" (26) "ContextMixModel" "went" "[I" ∈ GW := mem_gw4 (i := 65) rfl rfl
theorem k786 : Cond.fieldLink "ContextMixModel" (29) "ContextMixModel" "node" "[I" ∈ GW := mem_gw4 (i := 66) rfl rfl
theorem k787 : Cond.fieldLink "ContextMixModel" (32) "ContextMixModel" "context" "[I" ∈ GW := mem_gw4 (i := 67) rfl rfl
theorem k788 : Cond.fieldLink "ContextMixModel" (35) "ContextMixModel" "points" "[I" ∈ GW := mem_gw4 (i := 68) rfl rfl
theorem k789 : Cond.fieldLink "ContextMixModel" (38) "ContextMixModel" "length" "[I" ∈ GW := mem_gw4 (i := 69) rfl rfl
theorem k790 : Cond.fieldLink "ContextMixModel" (41) "ContextMixModel" "slotChance" "[I" ∈ GW := mem_gw4 (i := 70) rfl rfl
theorem k791 : Cond.fieldLink "ContextMixModel" (44) "ContextMixModel" "slotSeen" "[I" ∈ GW := mem_gw4 (i := 71) rfl rfl
theorem k792 : Cond.fieldLink "ContextMixModel" (47) "ContextMixModel" "weights" "[I" ∈ GW := mem_gw4 (i := 72) rfl rfl
theorem k793 : Cond.fieldLink "ContextMixModel" (50) "ContextMixModel" "cells" "[I" ∈ GW := mem_gw4 (i := 73) rfl rfl
theorem k794 : Cond.fieldLink "ContextMixModel" (53) "ContextMixModel" "low" "[J" ∈ GW := mem_gw4 (i := 74) rfl rfl
theorem k795 : Cond.fieldLink "ContextMixModel" (57) "ContextMixModel" "high" "[J" ∈ GW := mem_gw4 (i := 75) rfl rfl
theorem k796 : Cond.fieldLink "ContextMixModel" (60) "ContextMixModel" "out" "[I" ∈ GW := mem_gw4 (i := 76) rfl rfl
theorem k797 : Cond.fieldLink "ContextMixModel" (104) "ContextMixModel" "outSize" "I" ∈ GW := mem_gw4 (i := 77) rfl rfl
theorem k798 : Cond.fieldLink "ContextMixModel" (107) "ContextMixModel" "bitsOf" "I" ∈ GW := mem_gw4 (i := 78) rfl rfl
theorem k799 : Cond.fieldLink "ContextMixModel" (110) "ContextMixModel" "isEnded" "Z" ∈ GW := mem_gw4 (i := 79) rfl rfl
theorem k800 : Cond.fieldLink "ContextMixModel" (201) "ContextMixModel" "x" "J" ∈ GW := mem_gw4 (i := 80) rfl rfl
theorem k801 : Cond.fieldLink "ContextMixModel" (114) "ContextMixModel" "readAt" "I" ∈ GW := mem_gw4 (i := 81) rfl rfl
theorem k802 : Cond.fieldLink "ContextMixModel" (63) "ContextMixModel" "inputs" "[I" ∈ GW := mem_gw4 (i := 82) rfl rfl
theorem k803 : Cond.fieldLink "ContextMixModel" (155) "ContextMixModel" "told0" "I" ∈ GW := mem_gw4 (i := 83) rfl rfl
theorem k804 : Cond.fieldLink "ContextMixModel" (158) "ContextMixModel" "told1" "I" ∈ GW := mem_gw4 (i := 84) rfl rfl
theorem k805 : Cond.fieldLink "ContextMixModel" (148) "ContextMixModel" "set1" "I" ∈ GW := mem_gw4 (i := 85) rfl rfl
theorem k806 : Cond.fieldLink "ContextMixModel" (164) "ContextMixModel" "cellAt" "I" ∈ GW := mem_gw4 (i := 86) rfl rfl
theorem k807 : Cond.fieldLink "ContextMixModel" (161) "ContextMixModel" "cellPart" "I" ∈ GW := mem_gw4 (i := 87) rfl rfl
theorem k808 : Cond.fieldLink "ContextMixModel" (170) "ContextMixModel" "chanceNow" "I" ∈ GW := mem_gw4 (i := 88) rfl rfl
theorem k809 : Cond.laysFinal "ContextMixModel" "ContextMixModel" "room" "I" ∈ GW := mem_gw4 (i := 89) rfl rfl
theorem k811 : Cond.laysFinal "ContextMixModel" "ContextMixModel" "stretched" "[I" ∈ GW := mem_gw4 (i := 91) rfl rfl
theorem k813 : Cond.lays "ContextMixModel" "ContextMixModel" "thrown" "I" ∈ GW := mem_gw4 (i := 93) rfl rfl
theorem k815 : Cond.lays "ContextMixModel" "ContextMixModel" "many" "I" ∈ GW := mem_gw4 (i := 95) rfl rfl
theorem k817 : Cond.laysFinal "ContextMixModel" "ContextMixModel" "kind" "[I" ∈ GW := mem_gw4 (i := 97) rfl rfl
theorem k819 : Cond.laysFinal "ContextMixModel" "ContextMixModel" "size" "[I" ∈ GW := mem_gw4 (i := 99) rfl rfl
theorem k821 : Cond.laysFinal "ContextMixModel" "ContextMixModel" "isOff" "[Z" ∈ GW := mem_gw4 (i := 101) rfl rfl
theorem k823 : Cond.laysFinal "ContextMixModel" "ContextMixModel" "bytes" "[I" ∈ GW := mem_gw4 (i := 103) rfl rfl
theorem k825 : Cond.laysFinal "ContextMixModel" "ContextMixModel" "went" "[I" ∈ GW := mem_gw4 (i := 105) rfl rfl
theorem k827 : Cond.laysFinal "ContextMixModel" "ContextMixModel" "node" "[I" ∈ GW := mem_gw4 (i := 107) rfl rfl
theorem k829 : Cond.laysFinal "ContextMixModel" "ContextMixModel" "context" "[I" ∈ GW := mem_gw4 (i := 109) rfl rfl
theorem k831 : Cond.laysFinal "ContextMixModel" "ContextMixModel" "points" "[I" ∈ GW := mem_gw4 (i := 111) rfl rfl
theorem k833 : Cond.laysFinal "ContextMixModel" "ContextMixModel" "length" "[I" ∈ GW := mem_gw4 (i := 113) rfl rfl
theorem k835 : Cond.laysFinal "ContextMixModel" "ContextMixModel" "slotChance" "[I" ∈ GW := mem_gw4 (i := 115) rfl rfl
theorem k837 : Cond.laysFinal "ContextMixModel" "ContextMixModel" "slotSeen" "[I" ∈ GW := mem_gw4 (i := 117) rfl rfl
theorem k839 : Cond.laysFinal "ContextMixModel" "ContextMixModel" "weights" "[I" ∈ GW := mem_gw4 (i := 119) rfl rfl
theorem k841 : Cond.laysFinal "ContextMixModel" "ContextMixModel" "cells" "[I" ∈ GW := mem_gw4 (i := 121) rfl rfl
theorem k843 : Cond.laysFinal "ContextMixModel" "ContextMixModel" "low" "[J" ∈ GW := mem_gw4 (i := 123) rfl rfl
theorem k845 : Cond.laysFinal "ContextMixModel" "ContextMixModel" "high" "[J" ∈ GW := mem_gw4 (i := 125) rfl rfl
theorem k847 : Cond.laysFinal "ContextMixModel" "ContextMixModel" "out" "[I" ∈ GW := mem_gw4 (i := 127) rfl rfl
theorem k849 : Cond.lays "ContextMixModel" "ContextMixModel" "outSize" "I" ∈ GW := mem_gw4 (i := 129) rfl rfl
theorem k851 : Cond.lays "ContextMixModel" "ContextMixModel" "bitsOf" "I" ∈ GW := mem_gw4 (i := 131) rfl rfl
theorem k853 : Cond.lays "ContextMixModel" "ContextMixModel" "isEnded" "Z" ∈ GW := mem_gw4 (i := 133) rfl rfl
theorem k855 : Cond.lays "ContextMixModel" "ContextMixModel" "x" "J" ∈ GW := mem_gw4 (i := 135) rfl rfl
theorem k857 : Cond.lays "ContextMixModel" "ContextMixModel" "readAt" "I" ∈ GW := mem_gw4 (i := 137) rfl rfl
theorem k859 : Cond.laysFinal "ContextMixModel" "ContextMixModel" "inputs" "[I" ∈ GW := mem_gw4 (i := 139) rfl rfl
theorem k861 : Cond.lays "ContextMixModel" "ContextMixModel" "told0" "I" ∈ GW := mem_gw4 (i := 141) rfl rfl
theorem k863 : Cond.lays "ContextMixModel" "ContextMixModel" "told1" "I" ∈ GW := mem_gw4 (i := 143) rfl rfl
theorem k865 : Cond.lays "ContextMixModel" "ContextMixModel" "set1" "I" ∈ GW := mem_gw4 (i := 145) rfl rfl
theorem k867 : Cond.lays "ContextMixModel" "ContextMixModel" "cellAt" "I" ∈ GW := mem_gw4 (i := 147) rfl rfl
theorem k869 : Cond.lays "ContextMixModel" "ContextMixModel" "cellPart" "I" ∈ GW := mem_gw4 (i := 149) rfl rfl
theorem k871 : Cond.lays "ContextMixModel" "ContextMixModel" "chanceNow" "I" ∈ GW := mem_gw4 (i := 151) rfl rfl
theorem k874 : Cond.arrayClass FieldType.long ∈ GW := mem_gw4 (i := 154) rfl rfl
theorem k875 : Cond.methodLink "ContextMixLaw" (87) ⟨"ContextMixModel", "thrown", "()I"⟩ ∈ GW := mem_gw4 (i := 155) rfl rfl
theorem k876 : Cond.instanceMethod ⟨"ContextMixModel", "thrown", "()I"⟩ ∈ GW := mem_gw4 (i := 156) rfl rfl
theorem k877 : Cond.selects "ContextMixModel" ⟨"ContextMixModel", "thrown", "()I"⟩ ⟨"ContextMixModel", "thrown", "()I"⟩ ∈ GW := mem_gw4 (i := 157) rfl rfl
theorem k878 : Cond.code ⟨"ContextMixModel", "thrown", "()I"⟩ prog_13_method_2_code (1) (Option.some FieldType.int) ∈ GW := mem_gw4 (i := 158) rfl rfl
theorem k879 : Cond.methodLink "ContextMixLaw" (101) ⟨"ContextMixModel", "squash", "(I)I"⟩ ∈ GW := mem_gw4 (i := 159) rfl rfl
theorem k880 : Cond.instanceMethod ⟨"ContextMixModel", "squash", "(I)I"⟩ ∈ GW := mem_gw4 (i := 160) rfl rfl
theorem k881 : Cond.selects "ContextMixModel" ⟨"ContextMixModel", "squash", "(I)I"⟩ ⟨"ContextMixModel", "squash", "(I)I"⟩ ∈ GW := mem_gw4 (i := 161) rfl rfl
theorem k882 : Cond.code ⟨"ContextMixModel", "squash", "(I)I"⟩ prog_13_method_6_code (2) (Option.some FieldType.int) ∈ GW := mem_gw4 (i := 162) rfl rfl
theorem k883 : Cond.methodLink "ContextMixLaw" (105) ⟨"ContextMixModel", "stretch", "(I)I"⟩ ∈ GW := mem_gw4 (i := 163) rfl rfl
theorem k884 : Cond.instanceMethod ⟨"ContextMixModel", "stretch", "(I)I"⟩ ∈ GW := mem_gw4 (i := 164) rfl rfl
theorem k885 : Cond.selects "ContextMixModel" ⟨"ContextMixModel", "stretch", "(I)I"⟩ ⟨"ContextMixModel", "stretch", "(I)I"⟩ ∈ GW := mem_gw4 (i := 165) rfl rfl
theorem k886 : Cond.code ⟨"ContextMixModel", "stretch", "(I)I"⟩ prog_13_method_7_code (2) (Option.some FieldType.int) ∈ GW := mem_gw4 (i := 166) rfl rfl
theorem k887 : Cond.methodLink "ContextMixLaw" (30) ⟨"ContextMixModel", "predictor", "(II)I"⟩ ∈ GW := mem_gw4 (i := 167) rfl rfl
theorem k888 : Cond.instanceMethod ⟨"ContextMixModel", "predictor", "(II)I"⟩ ∈ GW := mem_gw4 (i := 168) rfl rfl
theorem k889 : Cond.selects "ContextMixModel" ⟨"ContextMixModel", "predictor", "(II)I"⟩ ⟨"ContextMixModel", "predictor", "(II)I"⟩ ∈ GW := mem_gw4 (i := 169) rfl rfl
theorem k890 : Cond.code ⟨"ContextMixModel", "predictor", "(II)I"⟩ prog_13_method_22_code (4) (Option.some FieldType.int) ∈ GW := mem_gw4 (i := 170) rfl rfl
theorem k891 : Cond.methodLink "ContextMixModel" (177) ⟨"ContextMixModel", "hasWritten", "()Z"⟩ ∈ GW := mem_gw4 (i := 171) rfl rfl
theorem k893 : Cond.instanceMethod ⟨"ContextMixModel", "hasWritten", "()Z"⟩ ∈ GW := mem_gw4 (i := 173) rfl rfl
theorem k894 : Cond.code ⟨"ContextMixModel", "hasWritten", "()Z"⟩ prog_13_method_23_code (1) (Option.some FieldType.boolean) ∈ GW := mem_gw4 (i := 174) rfl rfl
theorem k895 : Cond.methodLink "ContextMixLaw" (35) ⟨"ContextMixModel", "off", "(I)I"⟩ ∈ GW := mem_gw4 (i := 175) rfl rfl
theorem k896 : Cond.instanceMethod ⟨"ContextMixModel", "off", "(I)I"⟩ ∈ GW := mem_gw4 (i := 176) rfl rfl
theorem k897 : Cond.selects "ContextMixModel" ⟨"ContextMixModel", "off", "(I)I"⟩ ⟨"ContextMixModel", "off", "(I)I"⟩ ∈ GW := mem_gw4 (i := 177) rfl rfl
theorem k898 : Cond.code ⟨"ContextMixModel", "off", "(I)I"⟩ prog_13_method_24_code (3) (Option.some FieldType.int) ∈ GW := mem_gw4 (i := 178) rfl rfl
theorem k899 : Cond.methodLink "ContextMixLaw" (40) ⟨"ContextMixModel", "bit", "(Z)I"⟩ ∈ GW := mem_gw4 (i := 179) rfl rfl
theorem k900 : Cond.instanceMethod ⟨"ContextMixModel", "bit", "(Z)I"⟩ ∈ GW := mem_gw4 (i := 180) rfl rfl
theorem k901 : Cond.selects "ContextMixModel" ⟨"ContextMixModel", "bit", "(Z)I"⟩ ⟨"ContextMixModel", "bit", "(Z)I"⟩ ∈ GW := mem_gw4 (i := 181) rfl rfl
theorem k902 : Cond.code ⟨"ContextMixModel", "bit", "(Z)I"⟩ prog_13_method_27_code (2) (Option.some FieldType.int) ∈ GW := mem_gw4 (i := 182) rfl rfl
theorem k903 : Cond.methodLink "ContextMixModel" (192) ⟨"ContextMixModel", "isFull", "()Z"⟩ ∈ GW := mem_gw4 (i := 183) rfl rfl
theorem k905 : Cond.instanceMethod ⟨"ContextMixModel", "isFull", "()Z"⟩ ∈ GW := mem_gw4 (i := 185) rfl rfl
theorem k906 : Cond.code ⟨"ContextMixModel", "isFull", "()Z"⟩ prog_13_method_26_code (1) (Option.some FieldType.boolean) ∈ GW := mem_gw4 (i := 186) rfl rfl
theorem k907 : Cond.methodLink "ContextMixModel" (195) ⟨"ContextMixModel", "writeBit", "(I)V"⟩ ∈ GW := mem_gw4 (i := 187) rfl rfl
theorem k909 : Cond.instanceMethod ⟨"ContextMixModel", "writeBit", "(I)V"⟩ ∈ GW := mem_gw4 (i := 189) rfl rfl
theorem k910 : Cond.code ⟨"ContextMixModel", "writeBit", "(I)V"⟩ prog_13_method_25_code (4) (Option.none : Option FieldType) ∈ GW := mem_gw4 (i := 190) rfl rfl
theorem k911 : Cond.methodLink "ContextMixModel" (181) ⟨"ContextMixModel", "work", "(I)V"⟩ ∈ GW := mem_gw4 (i := 191) rfl rfl
theorem k913 : Cond.instanceMethod ⟨"ContextMixModel", "work", "(I)V"⟩ ∈ GW := mem_gw4 (i := 193) rfl rfl
theorem k914 : Cond.code ⟨"ContextMixModel", "work", "(I)V"⟩ prog_13_method_20_code (6) (Option.none : Option FieldType) ∈ GW := mem_gw4 (i := 194) rfl rfl
theorem k915 : Cond.methodLink "ContextMixModel" (145) ⟨"ContextMixModel", "inputOf", "(II)I"⟩ ∈ GW := mem_gw4 (i := 195) rfl rfl
theorem k917 : Cond.instanceMethod ⟨"ContextMixModel", "inputOf", "(II)I"⟩ ∈ GW := mem_gw4 (i := 197) rfl rfl
theorem k918 : Cond.code ⟨"ContextMixModel", "inputOf", "(II)I"⟩ prog_13_method_18_code (7) (Option.some FieldType.int) ∈ GW := mem_gw4 (i := 198) rfl rfl
theorem k919 : Cond.methodLink "ContextMixModel" (135) ⟨"ContextMixModel", "slotOf", "(II)I"⟩ ∈ GW := mem_gw4 (i := 199) rfl rfl
theorem k921 : Cond.instanceMethod ⟨"ContextMixModel", "slotOf", "(II)I"⟩ ∈ GW := mem_gw4 (i := 201) rfl rfl
theorem k922 : Cond.code ⟨"ContextMixModel", "slotOf", "(II)I"⟩ prog_13_method_17_code (3) (Option.some FieldType.int) ∈ GW := mem_gw4 (i := 202) rfl rfl
theorem k923 : Cond.methodLink "ContextMixModel" (138) ⟨"ContextMixModel", "bitsDone", "(I)I"⟩ ∈ GW := mem_gw4 (i := 203) rfl rfl
theorem k925 : Cond.instanceMethod ⟨"ContextMixModel", "bitsDone", "(I)I"⟩ ∈ GW := mem_gw4 (i := 205) rfl rfl
theorem k926 : Cond.code ⟨"ContextMixModel", "bitsDone", "(I)I"⟩ prog_13_method_16_code (3) (Option.some FieldType.int) ∈ GW := mem_gw4 (i := 206) rfl rfl
theorem k927 : Cond.methodLink "ContextMixModel" (151) ⟨"ContextMixModel", "told", "(III)I"⟩ ∈ GW := mem_gw4 (i := 207) rfl rfl
theorem k929 : Cond.instanceMethod ⟨"ContextMixModel", "told", "(III)I"⟩ ∈ GW := mem_gw4 (i := 209) rfl rfl
theorem k930 : Cond.code ⟨"ContextMixModel", "told", "(III)I"⟩ prog_13_method_19_code (8) (Option.some FieldType.int) ∈ GW := mem_gw4 (i := 210) rfl rfl
theorem k931 : Cond.constantLong "ContextMixModel" (141) (-2047) ∈ GW := mem_gw4 (i := 211) rfl rfl
theorem k932 : Cond.constantLong "ContextMixModel" (143) (2047) ∈ GW := mem_gw4 (i := 212) rfl rfl
theorem k933 : Cond.methodLink "ContextMixModel" (167) ⟨"ContextMixModel", "bound", "(III)I"⟩ ∈ GW := mem_gw4 (i := 213) rfl rfl
theorem k934 : Cond.static ⟨"ContextMixModel", "bound", "(III)I"⟩ ∈ GW := mem_gw4 (i := 214) rfl rfl
theorem k935 : Cond.code ⟨"ContextMixModel", "bound", "(III)I"⟩ prog_13_method_5_code (3) (Option.some FieldType.int) ∈ GW := mem_gw4 (i := 215) rfl rfl
theorem k936 : Cond.constantLong "ContextMixModel" (184) (4096) ∈ GW := mem_gw4 (i := 216) rfl rfl
theorem k937 : Cond.constantLong "ContextMixModel" (186) (255) ∈ GW := mem_gw4 (i := 217) rfl rfl
theorem k938 : Cond.methodLink "ContextMixModel" (188) ⟨"ContextMixModel", "learn", "(II)V"⟩ ∈ GW := mem_gw4 (i := 218) rfl rfl
theorem k940 : Cond.instanceMethod ⟨"ContextMixModel", "learn", "(II)V"⟩ ∈ GW := mem_gw4 (i := 220) rfl rfl
theorem k941 : Cond.code ⟨"ContextMixModel", "learn", "(II)V"⟩ prog_13_method_21_code (9) (Option.none : Option FieldType) ∈ GW := mem_gw4 (i := 221) rfl rfl
theorem k942 : Cond.constant "ContextMixModel" (173) (-1000000) ∈ GW := mem_gw4 (i := 222) rfl rfl
theorem k943 : Cond.constant "ContextMixModel" (174) (1000000) ∈ GW := mem_gw4 (i := 223) rfl rfl
theorem k944 : Cond.constant "ContextMixModel" (175) (65535) ∈ GW := mem_gw4 (i := 224) rfl rfl
theorem k945 : Cond.constant "ContextMixModel" (176) (65536) ∈ GW := mem_gw4 (i := 225) rfl rfl
theorem k946 : Cond.methodLink "ContextMixLaw" (44) ⟨"ContextMixModel", "octet", "(I)I"⟩ ∈ GW := mem_gw4 (i := 226) rfl rfl
theorem k947 : Cond.instanceMethod ⟨"ContextMixModel", "octet", "(I)I"⟩ ∈ GW := mem_gw4 (i := 227) rfl rfl
theorem k948 : Cond.selects "ContextMixModel" ⟨"ContextMixModel", "octet", "(I)I"⟩ ⟨"ContextMixModel", "octet", "(I)I"⟩ ∈ GW := mem_gw4 (i := 228) rfl rfl
theorem k949 : Cond.code ⟨"ContextMixModel", "octet", "(I)I"⟩ prog_13_method_28_code (3) (Option.some FieldType.int) ∈ GW := mem_gw4 (i := 229) rfl rfl
theorem k950 : Cond.methodLink "ContextMixLaw" (49) ⟨"ContextMixModel", "end", "()I"⟩ ∈ GW := mem_gw4 (i := 230) rfl rfl
theorem k951 : Cond.instanceMethod ⟨"ContextMixModel", "end", "()I"⟩ ∈ GW := mem_gw4 (i := 231) rfl rfl
theorem k952 : Cond.selects "ContextMixModel" ⟨"ContextMixModel", "end", "()I"⟩ ⟨"ContextMixModel", "end", "()I"⟩ ∈ GW := mem_gw4 (i := 232) rfl rfl
theorem k953 : Cond.code ⟨"ContextMixModel", "end", "()I"⟩ prog_13_method_29_code (2) (Option.some FieldType.int) ∈ GW := mem_gw4 (i := 233) rfl rfl
theorem k954 : Cond.methodLink "ContextMixModel" (198) ⟨"ContextMixModel", "loadX", "()V"⟩ ∈ GW := mem_gw4 (i := 234) rfl rfl
theorem k956 : Cond.instanceMethod ⟨"ContextMixModel", "loadX", "()V"⟩ ∈ GW := mem_gw4 (i := 236) rfl rfl
theorem k957 : Cond.code ⟨"ContextMixModel", "loadX", "()V"⟩ prog_13_method_31_code (2) (Option.none : Option FieldType) ∈ GW := mem_gw4 (i := 237) rfl rfl
theorem k958 : Cond.methodLink "ContextMixModel" (205) ⟨"ContextMixModel", "nextOut", "()I"⟩ ∈ GW := mem_gw4 (i := 238) rfl rfl
theorem k960 : Cond.instanceMethod ⟨"ContextMixModel", "nextOut", "()I"⟩ ∈ GW := mem_gw5 (i := 0) rfl rfl
theorem k961 : Cond.code ⟨"ContextMixModel", "nextOut", "()I"⟩ prog_13_method_30_code (2) (Option.some FieldType.int) ∈ GW := mem_gw5 (i := 1) rfl rfl
theorem k962 : Cond.methodLink "ContextMixLaw" (53) ⟨"ContextMixModel", "get", "()I"⟩ ∈ GW := mem_gw5 (i := 2) rfl rfl
theorem k963 : Cond.instanceMethod ⟨"ContextMixModel", "get", "()I"⟩ ∈ GW := mem_gw5 (i := 3) rfl rfl
theorem k964 : Cond.selects "ContextMixModel" ⟨"ContextMixModel", "get", "()I"⟩ ⟨"ContextMixModel", "get", "()I"⟩ ∈ GW := mem_gw5 (i := 4) rfl rfl
theorem k965 : Cond.code ⟨"ContextMixModel", "get", "()I"⟩ prog_13_method_32_code (5) (Option.some FieldType.int) ∈ GW := mem_gw5 (i := 5) rfl rfl
theorem k966 : Cond.methodLink "ContextMixLaw" (57) ⟨"ContextMixModel", "again", "()I"⟩ ∈ GW := mem_gw5 (i := 6) rfl rfl
theorem k967 : Cond.instanceMethod ⟨"ContextMixModel", "again", "()I"⟩ ∈ GW := mem_gw5 (i := 7) rfl rfl
theorem k968 : Cond.selects "ContextMixModel" ⟨"ContextMixModel", "again", "()I"⟩ ⟨"ContextMixModel", "again", "()I"⟩ ∈ GW := mem_gw5 (i := 8) rfl rfl
theorem k969 : Cond.code ⟨"ContextMixModel", "again", "()I"⟩ prog_13_method_33_code (2) (Option.some FieldType.int) ∈ GW := mem_gw5 (i := 9) rfl rfl
theorem k970 : Cond.methodLink "ContextMixLaw" (61) ⟨"ContextMixModel", "clear", "()I"⟩ ∈ GW := mem_gw5 (i := 10) rfl rfl
theorem k971 : Cond.instanceMethod ⟨"ContextMixModel", "clear", "()I"⟩ ∈ GW := mem_gw5 (i := 11) rfl rfl
theorem k972 : Cond.selects "ContextMixModel" ⟨"ContextMixModel", "clear", "()I"⟩ ⟨"ContextMixModel", "clear", "()I"⟩ ∈ GW := mem_gw5 (i := 12) rfl rfl
theorem k973 : Cond.code ⟨"ContextMixModel", "clear", "()I"⟩ prog_13_method_34_code (1) (Option.some FieldType.int) ∈ GW := mem_gw5 (i := 13) rfl rfl
theorem k974 : Cond.methodLink "ContextMixLaw" (65) ⟨"ContextMixModel", "out", "(I)I"⟩ ∈ GW := mem_gw5 (i := 14) rfl rfl
theorem k975 : Cond.instanceMethod ⟨"ContextMixModel", "out", "(I)I"⟩ ∈ GW := mem_gw5 (i := 15) rfl rfl
theorem k976 : Cond.selects "ContextMixModel" ⟨"ContextMixModel", "out", "(I)I"⟩ ⟨"ContextMixModel", "out", "(I)I"⟩ ∈ GW := mem_gw5 (i := 16) rfl rfl
theorem k977 : Cond.code ⟨"ContextMixModel", "out", "(I)I"⟩ prog_13_method_35_code (2) (Option.some FieldType.int) ∈ GW := mem_gw5 (i := 17) rfl rfl
theorem k978 : Cond.methodLink "ContextMixLaw" (69) ⟨"ContextMixModel", "spoil", "(II)I"⟩ ∈ GW := mem_gw5 (i := 18) rfl rfl
theorem k979 : Cond.instanceMethod ⟨"ContextMixModel", "spoil", "(II)I"⟩ ∈ GW := mem_gw5 (i := 19) rfl rfl
theorem k980 : Cond.selects "ContextMixModel" ⟨"ContextMixModel", "spoil", "(II)I"⟩ ⟨"ContextMixModel", "spoil", "(II)I"⟩ ∈ GW := mem_gw5 (i := 20) rfl rfl
theorem k981 : Cond.code ⟨"ContextMixModel", "spoil", "(II)I"⟩ prog_13_method_36_code (3) (Option.some FieldType.int) ∈ GW := mem_gw5 (i := 21) rfl rfl
theorem k982 : Cond.methodLink "ContextMixLaw" (73) ⟨"ContextMixModel", "chance", "(I)I"⟩ ∈ GW := mem_gw5 (i := 22) rfl rfl
theorem k983 : Cond.instanceMethod ⟨"ContextMixModel", "chance", "(I)I"⟩ ∈ GW := mem_gw5 (i := 23) rfl rfl
theorem k984 : Cond.selects "ContextMixModel" ⟨"ContextMixModel", "chance", "(I)I"⟩ ⟨"ContextMixModel", "chance", "(I)I"⟩ ∈ GW := mem_gw5 (i := 24) rfl rfl
theorem k985 : Cond.code ⟨"ContextMixModel", "chance", "(I)I"⟩ prog_13_method_38_code (2) (Option.some FieldType.int) ∈ GW := mem_gw5 (i := 25) rfl rfl
theorem k986 : Cond.methodLink "ContextMixModel" (209) ⟨"ContextMixModel", "isSide", "(I)Z"⟩ ∈ GW := mem_gw5 (i := 26) rfl rfl
theorem k987 : Cond.static ⟨"ContextMixModel", "isSide", "(I)Z"⟩ ∈ GW := mem_gw5 (i := 27) rfl rfl
theorem k988 : Cond.code ⟨"ContextMixModel", "isSide", "(I)Z"⟩ prog_13_method_37_code (1) (Option.some FieldType.boolean) ∈ GW := mem_gw5 (i := 28) rfl rfl
theorem k989 : Cond.methodLink "ContextMixLaw" (77) ⟨"ContextMixModel", "input", "(II)I"⟩ ∈ GW := mem_gw5 (i := 29) rfl rfl
theorem k990 : Cond.instanceMethod ⟨"ContextMixModel", "input", "(II)I"⟩ ∈ GW := mem_gw5 (i := 30) rfl rfl
theorem k991 : Cond.selects "ContextMixModel" ⟨"ContextMixModel", "input", "(II)I"⟩ ⟨"ContextMixModel", "input", "(II)I"⟩ ∈ GW := mem_gw5 (i := 31) rfl rfl
theorem k992 : Cond.code ⟨"ContextMixModel", "input", "(II)I"⟩ prog_13_method_39_code (3) (Option.some FieldType.int) ∈ GW := mem_gw5 (i := 32) rfl rfl
theorem k993 : Cond.methodLink "ContextMixLaw" (82) ⟨"ContextMixModel", "weight", "(IIII)I"⟩ ∈ GW := mem_gw5 (i := 33) rfl rfl
theorem k994 : Cond.instanceMethod ⟨"ContextMixModel", "weight", "(IIII)I"⟩ ∈ GW := mem_gw5 (i := 34) rfl rfl
theorem k995 : Cond.selects "ContextMixModel" ⟨"ContextMixModel", "weight", "(IIII)I"⟩ ⟨"ContextMixModel", "weight", "(IIII)I"⟩ ∈ GW := mem_gw5 (i := 35) rfl rfl
theorem k996 : Cond.code ⟨"ContextMixModel", "weight", "(IIII)I"⟩ prog_13_method_40_code (6) (Option.some FieldType.int) ∈ GW := mem_gw5 (i := 36) rfl rfl
theorem k997 : Cond.constant "ContextMixModel" (212) (-2000000) ∈ GW := mem_gw5 (i := 37) rfl rfl
theorem k998 : Cond.methodLink "ContextMixLaw" (86) ⟨"ContextMixModel", "slot", "(II)I"⟩ ∈ GW := mem_gw5 (i := 38) rfl rfl
theorem k999 : Cond.instanceMethod ⟨"ContextMixModel", "slot", "(II)I"⟩ ∈ GW := mem_gw5 (i := 39) rfl rfl
theorem k1000 : Cond.selects "ContextMixModel" ⟨"ContextMixModel", "slot", "(II)I"⟩ ⟨"ContextMixModel", "slot", "(II)I"⟩ ∈ GW := mem_gw5 (i := 40) rfl rfl
theorem k1001 : Cond.code ⟨"ContextMixModel", "slot", "(II)I"⟩ prog_13_method_41_code (3) (Option.some FieldType.int) ∈ GW := mem_gw5 (i := 41) rfl rfl
theorem k1002 : Cond.methodLink "ContextMixLaw" (93) ⟨"ContextMixModel", "seen", "(II)I"⟩ ∈ GW := mem_gw5 (i := 42) rfl rfl
theorem k1003 : Cond.instanceMethod ⟨"ContextMixModel", "seen", "(II)I"⟩ ∈ GW := mem_gw5 (i := 43) rfl rfl
theorem k1004 : Cond.selects "ContextMixModel" ⟨"ContextMixModel", "seen", "(II)I"⟩ ⟨"ContextMixModel", "seen", "(II)I"⟩ ∈ GW := mem_gw5 (i := 44) rfl rfl
theorem k1005 : Cond.code ⟨"ContextMixModel", "seen", "(II)I"⟩ prog_13_method_42_code (3) (Option.some FieldType.int) ∈ GW := mem_gw5 (i := 45) rfl rfl
theorem k1006 : Cond.methodLink "ContextMixLaw" (97) ⟨"ContextMixModel", "cell", "(III)I"⟩ ∈ GW := mem_gw5 (i := 46) rfl rfl
theorem k1007 : Cond.instanceMethod ⟨"ContextMixModel", "cell", "(III)I"⟩ ∈ GW := mem_gw5 (i := 47) rfl rfl
theorem k1008 : Cond.selects "ContextMixModel" ⟨"ContextMixModel", "cell", "(III)I"⟩ ⟨"ContextMixModel", "cell", "(III)I"⟩ ∈ GW := mem_gw5 (i := 48) rfl rfl
theorem k1009 : Cond.code ⟨"ContextMixModel", "cell", "(III)I"⟩ prog_13_method_43_code (5) (Option.some FieldType.int) ∈ GW := mem_gw5 (i := 49) rfl rfl
theorem k1010 : Cond.constant "ContextMixModel" (213) (40000) ∈ GW := mem_gw5 (i := 50) rfl rfl
theorem k1011 : Cond.methodLink "ContextMixLaw" (109) ⟨"ContextMixModel", "equal", "()I"⟩ ∈ GW := mem_gw5 (i := 51) rfl rfl
theorem k1012 : Cond.instanceMethod ⟨"ContextMixModel", "equal", "()I"⟩ ∈ GW := mem_gw5 (i := 52) rfl rfl
theorem k1013 : Cond.selects "ContextMixModel" ⟨"ContextMixModel", "equal", "()I"⟩ ⟨"ContextMixModel", "equal", "()I"⟩ ∈ GW := mem_gw5 (i := 53) rfl rfl
theorem k1014 : Cond.code ⟨"ContextMixModel", "equal", "()I"⟩ prog_13_method_44_code (3) (Option.some FieldType.int) ∈ GW := mem_gw5 (i := 54) rfl rfl
theorem k1015 : Cond.methodLink "ContextMixLaw" (113) ⟨"ContextMixModel", "count", "(I)I"⟩ ∈ GW := mem_gw5 (i := 55) rfl rfl
theorem k1016 : Cond.instanceMethod ⟨"ContextMixModel", "count", "(I)I"⟩ ∈ GW := mem_gw5 (i := 56) rfl rfl
theorem k1017 : Cond.selects "ContextMixModel" ⟨"ContextMixModel", "count", "(I)I"⟩ ⟨"ContextMixModel", "count", "(I)I"⟩ ∈ GW := mem_gw5 (i := 57) rfl rfl
theorem k1018 : Cond.code ⟨"ContextMixModel", "count", "(I)I"⟩ prog_13_method_45_code (2) (Option.some FieldType.int) ∈ GW := mem_gw5 (i := 58) rfl rfl
theorem k1019 : Cond.methodLink "ContextMixModel" (214) ⟨"ContextMixModel", "firstLength", "()I"⟩ ∈ GW := mem_gw5 (i := 59) rfl rfl
theorem k1021 : Cond.instanceMethod ⟨"ContextMixModel", "firstLength", "()I"⟩ ∈ GW := mem_gw5 (i := 61) rfl rfl
theorem k1022 : Cond.code ⟨"ContextMixModel", "firstLength", "()I"⟩ prog_13_method_46_code (2) (Option.some FieldType.int) ∈ GW := mem_gw5 (i := 62) rfl rfl
theorem s0 : Cond.selects "ContextMix$History" ⟨"ContextMix$History", "latestContext", "(I)I"⟩ ⟨"ContextMix$History", "latestContext", "(I)I"⟩ ∈ GW := List.mem_filter.mpr ⟨List.mem_append_left _ (List.mem_of_getElem? (i := 0) rfl), rfl⟩
theorem s1 : Cond.selects "ContextMix$History" ⟨"ContextMix$History", "wordContext", "()I"⟩ ⟨"ContextMix$History", "wordContext", "()I"⟩ ∈ GW := List.mem_filter.mpr ⟨List.mem_append_left _ (List.mem_of_getElem? (i := 1) rfl), rfl⟩
theorem s2 : Cond.selects "ContextMix$History" ⟨"ContextMix$History", "columnContext", "(I)I"⟩ ⟨"ContextMix$History", "columnContext", "(I)I"⟩ ∈ GW := List.mem_filter.mpr ⟨List.mem_append_left _ (List.mem_of_getElem? (i := 2) rfl), rfl⟩
theorem s3 : Cond.selects "ContextMix$History" ⟨"ContextMix$History", "apartContext", "(I)I"⟩ ⟨"ContextMix$History", "apartContext", "(I)I"⟩ ∈ GW := List.mem_filter.mpr ⟨List.mem_append_left _ (List.mem_of_getElem? (i := 3) rfl), rfl⟩
theorem s4 : Cond.selects "ContextMix" ⟨"ContextMix", "isFull", "()Z"⟩ ⟨"ContextMix", "isFull", "()Z"⟩ ∈ GW := List.mem_filter.mpr ⟨List.mem_append_left _ (List.mem_of_getElem? (i := 4) rfl), rfl⟩
theorem s5 : Cond.selects "ContextMix" ⟨"ContextMix", "writeBit", "(Z)V"⟩ ⟨"ContextMix", "writeBit", "(Z)V"⟩ ∈ GW := List.mem_filter.mpr ⟨List.mem_append_left _ (List.mem_of_getElem? (i := 5) rfl), rfl⟩
theorem s6 : Cond.selects "ContextMix" ⟨"ContextMix", "beginReading", "()V"⟩ ⟨"ContextMix", "beginReading", "()V"⟩ ∈ GW := List.mem_filter.mpr ⟨List.mem_append_left _ (List.mem_of_getElem? (i := 6) rfl), rfl⟩
theorem s7 : Cond.selects "ContextMix" ⟨"ContextMix", "takeByte", "()V"⟩ ⟨"ContextMix", "takeByte", "()V"⟩ ∈ GW := List.mem_filter.mpr ⟨List.mem_append_left _ (List.mem_of_getElem? (i := 7) rfl), rfl⟩
theorem s8 : Cond.selects "ContextMix" ⟨"ContextMix", "readBit", "()Z"⟩ ⟨"ContextMix", "readBit", "()Z"⟩ ∈ GW := List.mem_filter.mpr ⟨List.mem_append_left _ (List.mem_of_getElem? (i := 8) rfl), rfl⟩
theorem s9 : Cond.selects "ContextMix" ⟨"ContextMix", "sideOf", "(I)LContextMix$Side;"⟩ ⟨"ContextMix", "sideOf", "(I)LContextMix$Side;"⟩ ∈ GW := List.mem_filter.mpr ⟨List.mem_append_left _ (List.mem_of_getElem? (i := 9) rfl), rfl⟩
theorem s10 : Cond.selects "java/lang/Throwable" ⟨"java/lang/Throwable", "fillInStackTrace", "(I)Ljava/lang/Throwable;"⟩ ⟨"java/lang/Throwable", "fillInStackTrace", "(I)Ljava/lang/Throwable;"⟩ ∈ GW := List.mem_filter.mpr ⟨List.mem_append_left _ (List.mem_of_getElem? (i := 10) rfl), rfl⟩
theorem s11 : Cond.selects "ContextMixModel" ⟨"ContextMixModel", "freshAll", "()V"⟩ ⟨"ContextMixModel", "freshAll", "()V"⟩ ∈ GW := List.mem_filter.mpr ⟨List.mem_append_left _ (List.mem_of_getElem? (i := 11) rfl), rfl⟩
theorem s12 : Cond.selects "ContextMixModel" ⟨"ContextMixModel", "fresh", "(I)V"⟩ ⟨"ContextMixModel", "fresh", "(I)V"⟩ ∈ GW := List.mem_filter.mpr ⟨List.mem_append_left _ (List.mem_of_getElem? (i := 12) rfl), rfl⟩
theorem s13 : Cond.selects "ContextMixModel" ⟨"ContextMixModel", "byteBegins", "(IZ)V"⟩ ⟨"ContextMixModel", "byteBegins", "(IZ)V"⟩ ∈ GW := List.mem_filter.mpr ⟨List.mem_append_left _ (List.mem_of_getElem? (i := 13) rfl), rfl⟩
theorem s14 : Cond.selects "ContextMixModel" ⟨"ContextMixModel", "contextOf", "(II)I"⟩ ⟨"ContextMixModel", "contextOf", "(II)I"⟩ ∈ GW := List.mem_filter.mpr ⟨List.mem_append_left _ (List.mem_of_getElem? (i := 14) rfl), rfl⟩
theorem s15 : Cond.selects "ContextMixModel" ⟨"ContextMixModel", "latest", "(II)I"⟩ ⟨"ContextMixModel", "latest", "(II)I"⟩ ∈ GW := List.mem_filter.mpr ⟨List.mem_append_left _ (List.mem_of_getElem? (i := 15) rfl), rfl⟩
theorem s16 : Cond.selects "ContextMixModel" ⟨"ContextMixModel", "match", "(IIZ)V"⟩ ⟨"ContextMixModel", "match", "(IIZ)V"⟩ ∈ GW := List.mem_filter.mpr ⟨List.mem_append_left _ (List.mem_of_getElem? (i := 16) rfl), rfl⟩
theorem s17 : Cond.selects "ContextMixModel" ⟨"ContextMixModel", "hasWritten", "()Z"⟩ ⟨"ContextMixModel", "hasWritten", "()Z"⟩ ∈ GW := List.mem_filter.mpr ⟨List.mem_append_left _ (List.mem_of_getElem? (i := 17) rfl), rfl⟩
theorem s18 : Cond.selects "ContextMixModel" ⟨"ContextMixModel", "isFull", "()Z"⟩ ⟨"ContextMixModel", "isFull", "()Z"⟩ ∈ GW := List.mem_filter.mpr ⟨List.mem_append_left _ (List.mem_of_getElem? (i := 18) rfl), rfl⟩
theorem s19 : Cond.selects "ContextMixModel" ⟨"ContextMixModel", "writeBit", "(I)V"⟩ ⟨"ContextMixModel", "writeBit", "(I)V"⟩ ∈ GW := List.mem_filter.mpr ⟨List.mem_append_left _ (List.mem_of_getElem? (i := 19) rfl), rfl⟩
theorem s20 : Cond.selects "ContextMixModel" ⟨"ContextMixModel", "work", "(I)V"⟩ ⟨"ContextMixModel", "work", "(I)V"⟩ ∈ GW := List.mem_filter.mpr ⟨List.mem_append_left _ (List.mem_of_getElem? (i := 20) rfl), rfl⟩
theorem s21 : Cond.selects "ContextMixModel" ⟨"ContextMixModel", "inputOf", "(II)I"⟩ ⟨"ContextMixModel", "inputOf", "(II)I"⟩ ∈ GW := List.mem_filter.mpr ⟨List.mem_append_left _ (List.mem_of_getElem? (i := 21) rfl), rfl⟩
theorem s22 : Cond.selects "ContextMixModel" ⟨"ContextMixModel", "slotOf", "(II)I"⟩ ⟨"ContextMixModel", "slotOf", "(II)I"⟩ ∈ GW := List.mem_filter.mpr ⟨List.mem_append_left _ (List.mem_of_getElem? (i := 22) rfl), rfl⟩
theorem s23 : Cond.selects "ContextMixModel" ⟨"ContextMixModel", "bitsDone", "(I)I"⟩ ⟨"ContextMixModel", "bitsDone", "(I)I"⟩ ∈ GW := List.mem_filter.mpr ⟨List.mem_append_left _ (List.mem_of_getElem? (i := 23) rfl), rfl⟩
theorem s24 : Cond.selects "ContextMixModel" ⟨"ContextMixModel", "told", "(III)I"⟩ ⟨"ContextMixModel", "told", "(III)I"⟩ ∈ GW := List.mem_filter.mpr ⟨List.mem_append_left _ (List.mem_of_getElem? (i := 24) rfl), rfl⟩
theorem s25 : Cond.selects "ContextMixModel" ⟨"ContextMixModel", "learn", "(II)V"⟩ ⟨"ContextMixModel", "learn", "(II)V"⟩ ∈ GW := List.mem_filter.mpr ⟨List.mem_append_left _ (List.mem_of_getElem? (i := 25) rfl), rfl⟩
theorem s26 : Cond.selects "ContextMixModel" ⟨"ContextMixModel", "loadX", "()V"⟩ ⟨"ContextMixModel", "loadX", "()V"⟩ ∈ GW := List.mem_filter.mpr ⟨List.mem_append_left _ (List.mem_of_getElem? (i := 26) rfl), rfl⟩
theorem s27 : Cond.selects "ContextMixModel" ⟨"ContextMixModel", "nextOut", "()I"⟩ ⟨"ContextMixModel", "nextOut", "()I"⟩ ∈ GW := List.mem_filter.mpr ⟨List.mem_append_left _ (List.mem_of_getElem? (i := 27) rfl), rfl⟩
theorem s28 : Cond.selects "ContextMixModel" ⟨"ContextMixModel", "firstLength", "()I"⟩ ⟨"ContextMixModel", "firstLength", "()I"⟩ ∈ GW := List.mem_filter.mpr ⟨List.mem_append_left _ (List.mem_of_getElem? (i := 28) rfl), rfl⟩
theorem inX0 : ∀ w ∈ u_ws RX0 TX0 2, w ∈ GW := by
  intro w hw
  obtain ⟨k, hk, rfl⟩ := List.mem_map.mp hw
  have hk := List.mem_range.mp hk
  match k, hk with
  | 0, _ => exact k248
  | 1, _ => exact k250
  | k + 2, h => exact absurd h (by omega)
theorem inX1 : ∀ w ∈ u_ws RX1 TX1 2, w ∈ GW := by
  intro w hw
  obtain ⟨k, hk, rfl⟩ := List.mem_map.mp hw
  have hk := List.mem_range.mp hk
  match k, hk with
  | 0, _ => exact k150
  | 1, _ => exact k152
  | k + 2, h => exact absurd h (by omega)
theorem inX2 : ∀ w ∈ u_ws RX2 TX2 4, w ∈ GW := by
  intro w hw
  obtain ⟨k, hk, rfl⟩ := List.mem_map.mp hw
  have hk := List.mem_range.mp hk
  match k, hk with
  | 0, _ => exact k102
  | 1, _ => exact k104
  | 2, _ => exact k106
  | 3, _ => exact k108
  | k + 4, h => exact absurd h (by omega)
theorem inX3 : ∀ w ∈ u_ws RX3 TX3 2, w ∈ GW := by
  intro w hw
  obtain ⟨k, hk, rfl⟩ := List.mem_map.mp hw
  have hk := List.mem_range.mp hk
  match k, hk with
  | 0, _ => exact k184
  | 1, _ => exact k186
  | k + 2, h => exact absurd h (by omega)
theorem inX4 : ∀ w ∈ u_ws RX4 TX4 3, w ∈ GW := by
  intro w hw
  obtain ⟨k, hk, rfl⟩ := List.mem_map.mp hw
  have hk := List.mem_range.mp hk
  match k, hk with
  | 0, _ => exact k127
  | 1, _ => exact k129
  | 2, _ => exact k131
  | k + 3, h => exact absurd h (by omega)
theorem inX5 : ∀ w ∈ u_ws RX5 TX5 1, w ∈ GW := by
  intro w hw
  obtain ⟨k, hk, rfl⟩ := List.mem_map.mp hw
  have hk := List.mem_range.mp hk
  match k, hk with
  | 0, _ => exact k51
  | k + 1, h => exact absurd h (by omega)
theorem inX6 : ∀ w ∈ u_ws RX6 TX6 2, w ∈ GW := by
  intro w hw
  obtain ⟨k, hk, rfl⟩ := List.mem_map.mp hw
  have hk := List.mem_range.mp hk
  match k, hk with
  | 0, _ => exact k234
  | 1, _ => exact k236
  | k + 2, h => exact absurd h (by omega)
theorem inX7 : ∀ w ∈ u_ws RX7 TX7 4, w ∈ GW := by
  intro w hw
  obtain ⟨k, hk, rfl⟩ := List.mem_map.mp hw
  have hk := List.mem_range.mp hk
  match k, hk with
  | 0, _ => exact k70
  | 1, _ => exact k72
  | 2, _ => exact k74
  | 3, _ => exact k76
  | k + 4, h => exact absurd h (by omega)
theorem inX8 : ∀ w ∈ u_ws RX8 TX8 10, w ∈ GW := by
  intro w hw
  obtain ⟨k, hk, rfl⟩ := List.mem_map.mp hw
  have hk := List.mem_range.mp hk
  match k, hk with
  | 0, _ => exact k204
  | 1, _ => exact k206
  | 2, _ => exact k208
  | 3, _ => exact k210
  | 4, _ => exact k212
  | 5, _ => exact k214
  | 6, _ => exact k216
  | 7, _ => exact k218
  | 8, _ => exact k220
  | 9, _ => exact k222
  | k + 10, h => exact absurd h (by omega)
theorem inX9 : ∀ w ∈ u_ws RX9 TX9 2, w ∈ GW := by
  intro w hw
  obtain ⟨k, hk, rfl⟩ := List.mem_map.mp hw
  have hk := List.mem_range.mp hk
  match k, hk with
  | 0, _ => exact k171
  | 1, _ => exact k173
  | k + 2, h => exact absurd h (by omega)
theorem inX10 : ∀ w ∈ u_ws RX10 TX10 10, w ∈ GW := by
  intro w hw
  obtain ⟨k, hk, rfl⟩ := List.mem_map.mp hw
  have hk := List.mem_range.mp hk
  match k, hk with
  | 0, _ => exact k263
  | 1, _ => exact k265
  | 2, _ => exact k267
  | 3, _ => exact k269
  | 4, _ => exact k271
  | 5, _ => exact k273
  | 6, _ => exact k275
  | 7, _ => exact k277
  | 8, _ => exact k279
  | 9, _ => exact k281
  | k + 10, h => exact absurd h (by omega)
theorem inX11 : ∀ w ∈ u_ws RX11 TX11 32, w ∈ GW := by
  intro w hw
  obtain ⟨k, hk, rfl⟩ := List.mem_map.mp hw
  have hk := List.mem_range.mp hk
  match k, hk with
  | 0, _ => exact k809
  | 1, _ => exact k811
  | 2, _ => exact k813
  | 3, _ => exact k815
  | 4, _ => exact k817
  | 5, _ => exact k819
  | 6, _ => exact k821
  | 7, _ => exact k823
  | 8, _ => exact k825
  | 9, _ => exact k827
  | 10, _ => exact k829
  | 11, _ => exact k831
  | 12, _ => exact k833
  | 13, _ => exact k835
  | 14, _ => exact k837
  | 15, _ => exact k839
  | 16, _ => exact k841
  | 17, _ => exact k843
  | 18, _ => exact k845
  | 19, _ => exact k847
  | 20, _ => exact k849
  | 21, _ => exact k851
  | 22, _ => exact k853
  | 23, _ => exact k855
  | 24, _ => exact k857
  | 25, _ => exact k859
  | 26, _ => exact k861
  | 27, _ => exact k863
  | 28, _ => exact k865
  | 29, _ => exact k867
  | 30, _ => exact k869
  | 31, _ => exact k871
  | k + 32, h => exact absurd h (by omega)
