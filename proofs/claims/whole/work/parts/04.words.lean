/-! THE WORDS: tb has those words of the tables that hold through calls; a row says of each that it is there. -/
def tb : List Cond := lw_tbl.filter goodWord
theorem tb_t {w : Cond} (h : w ∈ tables_1) (hg : goodWord w = true) : w ∈ tb := List.mem_filter.mpr ⟨List.mem_append_right _ h, hg⟩
theorem tb_s {q : MethodName × Nat} (h : q ∈ lw_privs) : Cond.selects q.1.cls q.1 q.1 ∈ tb := List.mem_filter.mpr ⟨List.mem_append_left _ (List.mem_map.mpr ⟨q, h, rfl⟩), rfl⟩
theorem tb_good : ∀ w ∈ tb, goodWord w = true := fun w h => (List.mem_filter.mp h).2
theorem tb_lw : ∀ w ∈ tb, w ∈ lw_tbl := fun w h => (List.mem_filter.mp h).1
theorem tb_1 {w : Cond} (i : Nat) (h : tables_1_1[i]? = some w) (hg : goodWord w = true) : w ∈ tb := tb_t (by have h := List.mem_of_getElem? h; exact List.mem_append_left _ h) hg
theorem tb_2 {w : Cond} (i : Nat) (h : tables_1_2[i]? = some w) (hg : goodWord w = true) : w ∈ tb := tb_t (by have h := List.mem_of_getElem? h; exact List.mem_append_right _ (List.mem_append_left _ h)) hg
theorem tb_3 {w : Cond} (i : Nat) (h : tables_1_3[i]? = some w) (hg : goodWord w = true) : w ∈ tb := tb_t (by have h := List.mem_of_getElem? h; exact List.mem_append_right _ (List.mem_append_right _ (List.mem_append_left _ h))) hg
theorem tb_4 {w : Cond} (i : Nat) (h : tables_1_4[i]? = some w) (hg : goodWord w = true) : w ∈ tb := tb_t (by have h := List.mem_of_getElem? h; exact List.mem_append_right _ (List.mem_append_right _ (List.mem_append_right _ (h)))) hg
theorem gv {y : MethodName} {own : String} {idx : Nat} {b : ByteArray} {n : Nat} {r : Option FieldType} (h1 : Cond.methodLink own idx y ∈ tb) (h2 : Cond.instanceMethod y ∈ tb) (h3 : Cond.selects y.cls y y ∈ tb) (h4 : Cond.initialized y.cls ∈ tb) (h5 : Cond.code y b n r ∈ tb) : GoodIn tb (wsV own idx y.cls y (Cond.code y b n r :: tb)) := by
  intro w hw
  have hm : w ∈ tb := by
    simp only [wsV, List.cons_append, List.nil_append, List.mem_cons] at hw
    rcases hw with rfl | rfl | rfl | rfl | rfl | hw
    all_goals assumption
  exact ⟨hm, good_of_word (tb_good w hm)⟩
theorem gs {y : MethodName} {own : String} {idx : Nat} {b : ByteArray} {n : Nat} {r : Option FieldType} (h1 : Cond.methodLink own idx y ∈ tb) (h2 : Cond.static y ∈ tb) (h4 : Cond.initialized y.cls ∈ tb) (h5 : Cond.code y b n r ∈ tb) : GoodIn tb (va_wsS own idx y (Cond.code y b n r :: tb)) := by
  intro w hw
  have hm : w ∈ tb := by
    simp only [va_wsS, List.cons_append, List.nil_append, List.mem_cons] at hw
    rcases hw with rfl | rfl | rfl | rfl | hw
    all_goals assumption
  exact ⟨hm, good_of_word (tb_good w hm)⟩
theorem gi {y : MethodName} {b : ByteArray} {n : Nat} {r : Option FieldType} (h5 : Cond.code y b n r ∈ tb) : GoodIn tb (Cond.code y b n r :: tb) := by
  intro w hw
  have hm : w ∈ tb := by
    rcases List.mem_cons.mp hw with rfl | hw
    all_goals assumption
  exact ⟨hm, good_of_word (tb_good w hm)⟩
theorem m_n_RL : (Jvm.Cond.initialized "LimbKernelLaw") ∈ tb := tb_1 0 rfl rfl
theorem m_n_RX5 : (Jvm.Cond.initialized "LimbKernel") ∈ tb := tb_1 1 rfl rfl
theorem m_n_RX1 : (Jvm.Cond.initialized "LimbKernel$Memory") ∈ tb := tb_1 2 rfl rfl
theorem m_n_RJ9 : (Jvm.Cond.initialized "java/lang/Math") ∈ tb := tb_1 3 rfl rfl
theorem m_n_RJ7 : (Jvm.Cond.initialized "java/util/Arrays") ∈ tb := tb_1 4 rfl rfl
theorem m_n_RX4 : (Jvm.Cond.initialized "LimbKernel$Reckoner") ∈ tb := tb_1 5 rfl rfl
theorem m_n_RX0 : (Jvm.Cond.initialized "LimbKernel$Job") ∈ tb := tb_1 6 rfl rfl
theorem m_n_RX2 : (Jvm.Cond.initialized "LimbKernel$Numeral") ∈ tb := tb_1 7 rfl rfl
theorem m_n_RX3 : (Jvm.Cond.initialized "LimbKernel$Queue") ∈ tb := tb_1 8 rfl rfl
theorem m_n_RX6 : (Jvm.Cond.initialized "LimbKernelModel") ∈ tb := tb_1 9 rfl rfl
theorem m_n_RJ10 : (Jvm.Cond.initialized "java/lang/System") ∈ tb := tb_1 10 rfl rfl
theorem m_l_RL_15 : (Jvm.Cond.methodLink "LimbKernelLaw" (15 : Nat) ({ cls := "LimbKernel", name := "<init>", desc := "(IIII)V" } : Jvm.MethodName)) ∈ tb := tb_1 13 rfl rfl
theorem m_i_yX5_init : (Jvm.Cond.instanceMethod ({ cls := "LimbKernel", name := "<init>", desc := "(IIII)V" } : Jvm.MethodName)) ∈ tb := tb_1 14 rfl rfl
theorem m_c_yX5_init : (Jvm.Cond.code ({ cls := "LimbKernel", name := "<init>", desc := "(IIII)V" } : Jvm.MethodName) prog_1_method_1_code (6 : Nat) (Option.none : Option Jvm.ClassFile.FieldType)) ∈ tb := tb_1 15 rfl rfl
theorem m_l_RX5_1 : (Jvm.Cond.methodLink "LimbKernel" (1 : Nat) ({ cls := "java/lang/Object", name := "<init>", desc := "()V" } : Jvm.MethodName)) ∈ tb := tb_1 16 rfl rfl
theorem m_l_RX5_9 : (Jvm.Cond.methodLink "LimbKernel" (9 : Nat) ({ cls := "LimbKernel", name := "within", desc := "(III)I" } : Jvm.MethodName)) ∈ tb := tb_1 21 rfl rfl
theorem m_s_yX5_within : (Jvm.Cond.static ({ cls := "LimbKernel", name := "within", desc := "(III)I" } : Jvm.MethodName)) ∈ tb := tb_1 22 rfl rfl
theorem m_c_yX5_within : (Jvm.Cond.code ({ cls := "LimbKernel", name := "within", desc := "(III)I" } : Jvm.MethodName) prog_1_method_20_code (3 : Nat) (Option.some Jvm.ClassFile.FieldType.int)) ∈ tb := tb_1 23 rfl rfl
theorem m_l_RX5_196 : (Jvm.Cond.methodLink "LimbKernel" (196 : Nat) ({ cls := "java/lang/Math", name := "min", desc := "(II)I" } : Jvm.MethodName)) ∈ tb := tb_1 24 rfl rfl
theorem m_s_yJ9_min_7cf53 : (Jvm.Cond.static ({ cls := "java/lang/Math", name := "min", desc := "(II)I" } : Jvm.MethodName)) ∈ tb := tb_1 25 rfl rfl
theorem m_c_yJ9_min_7cf53 : (Jvm.Cond.code ({ cls := "java/lang/Math", name := "min", desc := "(II)I" } : Jvm.MethodName) prog_9_method_69_code (2 : Nat) (Option.some Jvm.ClassFile.FieldType.int)) ∈ tb := tb_1 26 rfl rfl
theorem m_l_RX5_201 : (Jvm.Cond.methodLink "LimbKernel" (201 : Nat) ({ cls := "java/lang/Math", name := "max", desc := "(II)I" } : Jvm.MethodName)) ∈ tb := tb_1 27 rfl rfl
theorem m_s_yJ9_max_7cf53 : (Jvm.Cond.static ({ cls := "java/lang/Math", name := "max", desc := "(II)I" } : Jvm.MethodName)) ∈ tb := tb_1 28 rfl rfl
theorem m_c_yJ9_max_7cf53 : (Jvm.Cond.code ({ cls := "java/lang/Math", name := "max", desc := "(II)I" } : Jvm.MethodName) prog_9_method_65_code (2 : Nat) (Option.some Jvm.ClassFile.FieldType.int)) ∈ tb := tb_1 29 rfl rfl
theorem m_l_RX5_15 : (Jvm.Cond.methodLink "LimbKernel" (15 : Nat) ({ cls := "LimbKernel$Memory", name := "<init>", desc := "(I)V" } : Jvm.MethodName)) ∈ tb := tb_1 30 rfl rfl
theorem m_i_yX1_init : (Jvm.Cond.instanceMethod ({ cls := "LimbKernel$Memory", name := "<init>", desc := "(I)V" } : Jvm.MethodName)) ∈ tb := tb_1 31 rfl rfl
theorem m_c_yX1_init : (Jvm.Cond.code ({ cls := "LimbKernel$Memory", name := "<init>", desc := "(I)V" } : Jvm.MethodName) prog_3_method_1_code (2 : Nat) (Option.none : Option Jvm.ClassFile.FieldType)) ∈ tb := tb_1 32 rfl rfl
theorem m_l_RX1_3 : (Jvm.Cond.methodLink "LimbKernel$Memory" (3 : Nat) ({ cls := "java/lang/Object", name := "<init>", desc := "()V" } : Jvm.MethodName)) ∈ tb := tb_1 33 rfl rfl
theorem m_l_RX1_25 : (Jvm.Cond.methodLink "LimbKernel$Memory" (25 : Nat) ({ cls := "LimbKernel$Memory", name := "clear", desc := "()V" } : Jvm.MethodName)) ∈ tb := tb_1 34 rfl rfl
theorem m_i_yX1_clear : (Jvm.Cond.instanceMethod ({ cls := "LimbKernel$Memory", name := "clear", desc := "()V" } : Jvm.MethodName)) ∈ tb := tb_1 35 rfl rfl
theorem m_e_yX1_clear : (Jvm.Cond.selects "LimbKernel$Memory" ({ cls := "LimbKernel$Memory", name := "clear", desc := "()V" } : Jvm.MethodName) ({ cls := "LimbKernel$Memory", name := "clear", desc := "()V" } : Jvm.MethodName)) ∈ tb := tb_1 36 rfl rfl
theorem m_c_yX1_clear : (Jvm.Cond.code ({ cls := "LimbKernel$Memory", name := "clear", desc := "()V" } : Jvm.MethodName) prog_3_method_2_code (1 : Nat) (Option.none : Option Jvm.ClassFile.FieldType)) ∈ tb := tb_1 37 rfl rfl
theorem m_l_RX1_28 : (Jvm.Cond.methodLink "LimbKernel$Memory" (28 : Nat) ({ cls := "java/util/Arrays", name := "fill", desc := "([II)V" } : Jvm.MethodName)) ∈ tb := tb_1 38 rfl rfl
theorem m_s_yJ7_fill_53178 : (Jvm.Cond.static ({ cls := "java/util/Arrays", name := "fill", desc := "([II)V" } : Jvm.MethodName)) ∈ tb := tb_1 39 rfl rfl
theorem m_c_yJ7_fill_53178 : (Jvm.Cond.code ({ cls := "java/util/Arrays", name := "fill", desc := "([II)V" } : Jvm.MethodName) prog_11_method_103_code (4 : Nat) (Option.none : Option Jvm.ClassFile.FieldType)) ∈ tb := tb_1 40 rfl rfl
theorem m_l_RX1_34 : (Jvm.Cond.methodLink "LimbKernel$Memory" (34 : Nat) ({ cls := "LimbKernel$Memory", name := "addFree", desc := "(II)V" } : Jvm.MethodName)) ∈ tb := tb_1 41 rfl rfl
theorem m_i_yX1_addFree : (Jvm.Cond.instanceMethod ({ cls := "LimbKernel$Memory", name := "addFree", desc := "(II)V" } : Jvm.MethodName)) ∈ tb := tb_1 43 rfl rfl
theorem m_c_yX1_addFree : (Jvm.Cond.code ({ cls := "LimbKernel$Memory", name := "addFree", desc := "(II)V" } : Jvm.MethodName) prog_3_method_10_code (3 : Nat) (Option.none : Option Jvm.ClassFile.FieldType)) ∈ tb := tb_1 44 rfl rfl
theorem m_f_RX1_9 : (Jvm.Cond.fieldLink "LimbKernel$Memory" (9 : Nat) "LimbKernel$Memory" "log" "I") ∈ tb := tb_1 45 rfl rfl
theorem m_f_RX5_177 : (Jvm.Cond.fieldLink "LimbKernel" (177 : Nat) "LimbKernel$Memory" "log" "I") ∈ tb := tb_1 46 rfl rfl
theorem m_f_RX1_15 : (Jvm.Cond.fieldLink "LimbKernel$Memory" (15 : Nat) "LimbKernel$Memory" "limbs" "[I") ∈ tb := tb_1 47 rfl rfl
theorem m_f_RX5_24 : (Jvm.Cond.fieldLink "LimbKernel" (24 : Nat) "LimbKernel$Memory" "limbs" "[I") ∈ tb := tb_1 48 rfl rfl
theorem m_f_RX1_19 : (Jvm.Cond.fieldLink "LimbKernel$Memory" (19 : Nat) "LimbKernel$Memory" "freeOf" "[I") ∈ tb := tb_1 49 rfl rfl
theorem m_f_RX5_180 : (Jvm.Cond.fieldLink "LimbKernel" (180 : Nat) "LimbKernel$Memory" "freeOf" "[I") ∈ tb := tb_1 50 rfl rfl
theorem m_f_RX1_22 : (Jvm.Cond.fieldLink "LimbKernel$Memory" (22 : Nat) "LimbKernel$Memory" "freeAt" "[I") ∈ tb := tb_1 51 rfl rfl
theorem m_l_RX5_28 : (Jvm.Cond.methodLink "LimbKernel" (28 : Nat) ({ cls := "LimbKernel$Reckoner", name := "<init>", desc := "([I)V" } : Jvm.MethodName)) ∈ tb := tb_1 64 rfl rfl
theorem m_i_yX4_init : (Jvm.Cond.instanceMethod ({ cls := "LimbKernel$Reckoner", name := "<init>", desc := "([I)V" } : Jvm.MethodName)) ∈ tb := tb_1 65 rfl rfl
theorem m_c_yX4_init : (Jvm.Cond.code ({ cls := "LimbKernel$Reckoner", name := "<init>", desc := "([I)V" } : Jvm.MethodName) prog_6_method_1_code (2 : Nat) (Option.none : Option Jvm.ClassFile.FieldType)) ∈ tb := tb_1 66 rfl rfl
theorem m_l_RX4_3 : (Jvm.Cond.methodLink "LimbKernel$Reckoner" (3 : Nat) ({ cls := "java/lang/Object", name := "<init>", desc := "()V" } : Jvm.MethodName)) ∈ tb := tb_1 67 rfl rfl
theorem m_f_RX4_9 : (Jvm.Cond.fieldLink "LimbKernel$Reckoner" (9 : Nat) "LimbKernel$Reckoner" "limbs" "[I") ∈ tb := tb_1 68 rfl rfl
theorem m_f_RX4_53 : (Jvm.Cond.fieldLink "LimbKernel$Reckoner" (53 : Nat) "LimbKernel$Reckoner" "divisor" "I") ∈ tb := tb_1 69 rfl rfl
theorem m_f_RX4_38 : (Jvm.Cond.fieldLink "LimbKernel$Reckoner" (38 : Nat) "LimbKernel$Reckoner" "divisorSize" "I") ∈ tb := tb_1 70 rfl rfl
theorem m_f_RX4_90 : (Jvm.Cond.fieldLink "LimbKernel$Reckoner" (90 : Nat) "LimbKernel$Reckoner" "shift" "I") ∈ tb := tb_1 71 rfl rfl
theorem m_f_RX4_93 : (Jvm.Cond.fieldLink "LimbKernel$Reckoner" (93 : Nat) "LimbKernel$Reckoner" "divisorTop" "J") ∈ tb := tb_1 72 rfl rfl
theorem m_f_RX4_97 : (Jvm.Cond.fieldLink "LimbKernel$Reckoner" (97 : Nat) "LimbKernel$Reckoner" "divisorNext" "J") ∈ tb := tb_1 73 rfl rfl
theorem m_i_yX0_init : (Jvm.Cond.instanceMethod ({ cls := "LimbKernel$Job", name := "<init>", desc := "()V" } : Jvm.MethodName)) ∈ tb := tb_1 91 rfl rfl
theorem m_c_yX0_init : (Jvm.Cond.code ({ cls := "LimbKernel$Job", name := "<init>", desc := "()V" } : Jvm.MethodName) prog_2_method_1_code (1 : Nat) (Option.none : Option Jvm.ClassFile.FieldType)) ∈ tb := tb_1 92 rfl rfl
theorem m_l_RX0_3 : (Jvm.Cond.methodLink "LimbKernel$Job" (3 : Nat) ({ cls := "java/lang/Object", name := "<init>", desc := "()V" } : Jvm.MethodName)) ∈ tb := tb_1 93 rfl rfl
theorem m_f_RX0_9 : (Jvm.Cond.fieldLink "LimbKernel$Job" (9 : Nat) "LimbKernel$Job" "state" "I") ∈ tb := tb_1 94 rfl rfl
theorem m_f_RX5_141 : (Jvm.Cond.fieldLink "LimbKernel" (141 : Nat) "LimbKernel$Job" "state" "I") ∈ tb := tb_1 95 rfl rfl
theorem m_f_RX0_24 : (Jvm.Cond.fieldLink "LimbKernel$Job" (24 : Nat) "LimbKernel$Job" "op" "I") ∈ tb := tb_1 96 rfl rfl
theorem m_f_RX5_125 : (Jvm.Cond.fieldLink "LimbKernel" (125 : Nat) "LimbKernel$Job" "op" "I") ∈ tb := tb_1 97 rfl rfl
theorem m_f_RX5_128 : (Jvm.Cond.fieldLink "LimbKernel" (128 : Nat) "LimbKernel$Job" "a" "I") ∈ tb := tb_1 98 rfl rfl
theorem m_f_RX5_131 : (Jvm.Cond.fieldLink "LimbKernel" (131 : Nat) "LimbKernel$Job" "b" "I") ∈ tb := tb_1 99 rfl rfl
theorem m_f_RX5_134 : (Jvm.Cond.fieldLink "LimbKernel" (134 : Nat) "LimbKernel$Job" "m" "I") ∈ tb := tb_1 100 rfl rfl
theorem m_f_RX0_15 : (Jvm.Cond.fieldLink "LimbKernel$Job" (15 : Nat) "LimbKernel$Job" "result" "I") ∈ tb := tb_1 101 rfl rfl
theorem m_f_RX5_113 : (Jvm.Cond.fieldLink "LimbKernel" (113 : Nat) "LimbKernel$Job" "result" "I") ∈ tb := tb_1 102 rfl rfl
theorem m_f_RX0_45 : (Jvm.Cond.fieldLink "LimbKernel$Job" (45 : Nat) "LimbKernel$Job" "resultSize" "I") ∈ tb := tb_1 103 rfl rfl
theorem m_f_RX5_242 : (Jvm.Cond.fieldLink "LimbKernel" (242 : Nat) "LimbKernel$Job" "resultSize" "I") ∈ tb := tb_1 104 rfl rfl
theorem m_f_RX0_54 : (Jvm.Cond.fieldLink "LimbKernel$Job" (54 : Nat) "LimbKernel$Job" "resultOrder" "I") ∈ tb := tb_1 105 rfl rfl
theorem m_f_RX5_232 : (Jvm.Cond.fieldLink "LimbKernel" (232 : Nat) "LimbKernel$Job" "resultOrder" "I") ∈ tb := tb_1 106 rfl rfl
theorem m_f_RX0_18 : (Jvm.Cond.fieldLink "LimbKernel$Job" (18 : Nat) "LimbKernel$Job" "room" "I") ∈ tb := tb_1 107 rfl rfl
theorem m_f_RX5_245 : (Jvm.Cond.fieldLink "LimbKernel" (245 : Nat) "LimbKernel$Job" "room" "I") ∈ tb := tb_1 108 rfl rfl
theorem m_f_RX0_21 : (Jvm.Cond.fieldLink "LimbKernel$Job" (21 : Nat) "LimbKernel$Job" "roomOrder" "I") ∈ tb := tb_1 109 rfl rfl
theorem m_f_RX5_235 : (Jvm.Cond.fieldLink "LimbKernel" (235 : Nat) "LimbKernel$Job" "roomOrder" "I") ∈ tb := tb_1 110 rfl rfl
theorem m_f_RX0_57 : (Jvm.Cond.fieldLink "LimbKernel$Job" (57 : Nat) "LimbKernel$Job" "work" "J") ∈ tb := tb_1 111 rfl rfl
theorem m_f_RX5_157 : (Jvm.Cond.fieldLink "LimbKernel" (157 : Nat) "LimbKernel$Job" "work" "J") ∈ tb := tb_1 112 rfl rfl
theorem m_i_yX2_init : (Jvm.Cond.instanceMethod ({ cls := "LimbKernel$Numeral", name := "<init>", desc := "()V" } : Jvm.MethodName)) ∈ tb := tb_1 140 rfl rfl
theorem m_c_yX2_init : (Jvm.Cond.code ({ cls := "LimbKernel$Numeral", name := "<init>", desc := "()V" } : Jvm.MethodName) prog_4_method_1_code (1 : Nat) (Option.none : Option Jvm.ClassFile.FieldType)) ∈ tb := tb_1 141 rfl rfl
theorem m_l_RX2_1 : (Jvm.Cond.methodLink "LimbKernel$Numeral" (1 : Nat) ({ cls := "java/lang/Object", name := "<init>", desc := "()V" } : Jvm.MethodName)) ∈ tb := tb_1 142 rfl rfl
theorem m_f_RX5_70 : (Jvm.Cond.fieldLink "LimbKernel" (70 : Nat) "LimbKernel$Numeral" "inUse" "Z") ∈ tb := tb_1 143 rfl rfl
theorem m_f_RX5_204 : (Jvm.Cond.fieldLink "LimbKernel" (204 : Nat) "LimbKernel$Numeral" "unfinished" "Z") ∈ tb := tb_1 144 rfl rfl
theorem m_f_RX2_7 : (Jvm.Cond.fieldLink "LimbKernel$Numeral" (7 : Nat) "LimbKernel$Numeral" "size" "I") ∈ tb := tb_1 145 rfl rfl
theorem m_f_RX4_23 : (Jvm.Cond.fieldLink "LimbKernel$Reckoner" (23 : Nat) "LimbKernel$Numeral" "size" "I") ∈ tb := tb_1 146 rfl rfl
theorem m_f_RX5_110 : (Jvm.Cond.fieldLink "LimbKernel" (110 : Nat) "LimbKernel$Numeral" "size" "I") ∈ tb := tb_1 147 rfl rfl
theorem m_f_RX4_17 : (Jvm.Cond.fieldLink "LimbKernel$Reckoner" (17 : Nat) "LimbKernel$Numeral" "address" "I") ∈ tb := tb_1 148 rfl rfl
theorem m_f_RX5_104 : (Jvm.Cond.fieldLink "LimbKernel" (104 : Nat) "LimbKernel$Numeral" "address" "I") ∈ tb := tb_1 149 rfl rfl
theorem m_f_RX5_187 : (Jvm.Cond.fieldLink "LimbKernel" (187 : Nat) "LimbKernel$Numeral" "order" "I") ∈ tb := tb_1 150 rfl rfl
theorem m_f_RX5_98 : (Jvm.Cond.fieldLink "LimbKernel" (98 : Nat) "LimbKernel$Numeral" "pins" "I") ∈ tb := tb_1 151 rfl rfl
theorem m_l_RX5_51 : (Jvm.Cond.methodLink "LimbKernel" (51 : Nat) ({ cls := "LimbKernel$Queue", name := "<init>", desc := "(I)V" } : Jvm.MethodName)) ∈ tb := tb_1 167 rfl rfl
theorem m_i_yX3_init : (Jvm.Cond.instanceMethod ({ cls := "LimbKernel$Queue", name := "<init>", desc := "(I)V" } : Jvm.MethodName)) ∈ tb := tb_1 168 rfl rfl
theorem m_c_yX3_init : (Jvm.Cond.code ({ cls := "LimbKernel$Queue", name := "<init>", desc := "(I)V" } : Jvm.MethodName) prog_5_method_1_code (2 : Nat) (Option.none : Option Jvm.ClassFile.FieldType)) ∈ tb := tb_1 169 rfl rfl
theorem m_l_RX3_3 : (Jvm.Cond.methodLink "LimbKernel$Queue" (3 : Nat) ({ cls := "java/lang/Object", name := "<init>", desc := "()V" } : Jvm.MethodName)) ∈ tb := tb_1 170 rfl rfl
theorem m_f_RX3_9 : (Jvm.Cond.fieldLink "LimbKernel$Queue" (9 : Nat) "LimbKernel$Queue" "ring" "[I") ∈ tb := tb_1 171 rfl rfl
theorem m_f_RX3_23 : (Jvm.Cond.fieldLink "LimbKernel$Queue" (23 : Nat) "LimbKernel$Queue" "head" "I") ∈ tb := tb_1 172 rfl rfl
theorem m_f_RX3_15 : (Jvm.Cond.fieldLink "LimbKernel$Queue" (15 : Nat) "LimbKernel$Queue" "length" "I") ∈ tb := tb_1 173 rfl rfl
theorem m_f_RX5_190 : (Jvm.Cond.fieldLink "LimbKernel" (190 : Nat) "LimbKernel$Queue" "length" "I") ∈ tb := tb_1 174 rfl rfl
theorem m_f_RX5_18 : (Jvm.Cond.fieldLink "LimbKernel" (18 : Nat) "LimbKernel" "memory" "LLimbKernel$Memory;") ∈ tb := tb_1 182 rfl rfl
theorem m_f_RX5_31 : (Jvm.Cond.fieldLink "LimbKernel" (31 : Nat) "LimbKernel" "reckoner" "LLimbKernel$Reckoner;") ∈ tb := tb_1 183 rfl rfl
theorem m_f_RX5_44 : (Jvm.Cond.fieldLink "LimbKernel" (44 : Nat) "LimbKernel" "numerals" "[LLimbKernel$Numeral;") ∈ tb := tb_1 184 rfl rfl
theorem m_f_RX5_37 : (Jvm.Cond.fieldLink "LimbKernel" (37 : Nat) "LimbKernel" "jobs" "[LLimbKernel$Job;") ∈ tb := tb_1 185 rfl rfl
theorem m_f_RX5_52 : (Jvm.Cond.fieldLink "LimbKernel" (52 : Nat) "LimbKernel" "queue" "LLimbKernel$Queue;") ∈ tb := tb_1 186 rfl rfl
theorem m_f_RX5_56 : (Jvm.Cond.fieldLink "LimbKernel" (56 : Nat) "LimbKernel" "quantum" "I") ∈ tb := tb_1 187 rfl rfl
theorem m_f_RX5_63 : (Jvm.Cond.fieldLink "LimbKernel" (63 : Nat) "LimbKernel" "handlesInUse" "I") ∈ tb := tb_1 188 rfl rfl
theorem m_f_RX5_60 : (Jvm.Cond.fieldLink "LimbKernel" (60 : Nat) "LimbKernel" "jobsInUse" "I") ∈ tb := tb_1 189 rfl rfl
theorem m_f_RX5_75 : (Jvm.Cond.fieldLink "LimbKernel" (75 : Nat) "LimbKernel" "turns" "I") ∈ tb := tb_1 190 rfl rfl
theorem m_l_RL_21 : (Jvm.Cond.methodLink "LimbKernelLaw" (21 : Nat) ({ cls := "LimbKernel", name := "init", desc := "()I" } : Jvm.MethodName)) ∈ tb := tb_1 210 rfl rfl
theorem m_i_yX5_init_ : (Jvm.Cond.instanceMethod ({ cls := "LimbKernel", name := "init", desc := "()I" } : Jvm.MethodName)) ∈ tb := tb_1 211 rfl rfl
theorem m_e_yX5_init_ : (Jvm.Cond.selects "LimbKernel" ({ cls := "LimbKernel", name := "init", desc := "()I" } : Jvm.MethodName) ({ cls := "LimbKernel", name := "init", desc := "()I" } : Jvm.MethodName)) ∈ tb := tb_1 212 rfl rfl
theorem m_c_yX5_init_ : (Jvm.Cond.code ({ cls := "LimbKernel", name := "init", desc := "()I" } : Jvm.MethodName) prog_1_method_2_code (3 : Nat) (Option.some Jvm.ClassFile.FieldType.int)) ∈ tb := tb_1 213 rfl rfl
theorem m_l_RX5_66 : (Jvm.Cond.methodLink "LimbKernel" (66 : Nat) ({ cls := "LimbKernel$Memory", name := "clear", desc := "()V" } : Jvm.MethodName)) ∈ tb := tb_1 214 rfl rfl
theorem m_l_RX5_69 : (Jvm.Cond.methodLink "LimbKernel" (69 : Nat) ({ cls := "LimbKernel$Queue", name := "clear", desc := "()V" } : Jvm.MethodName)) ∈ tb := tb_1 215 rfl rfl
theorem m_i_yX3_clear : (Jvm.Cond.instanceMethod ({ cls := "LimbKernel$Queue", name := "clear", desc := "()V" } : Jvm.MethodName)) ∈ tb := tb_1 216 rfl rfl
theorem m_e_yX3_clear : (Jvm.Cond.selects "LimbKernel$Queue" ({ cls := "LimbKernel$Queue", name := "clear", desc := "()V" } : Jvm.MethodName) ({ cls := "LimbKernel$Queue", name := "clear", desc := "()V" } : Jvm.MethodName)) ∈ tb := tb_1 217 rfl rfl
theorem m_c_yX3_clear : (Jvm.Cond.code ({ cls := "LimbKernel$Queue", name := "clear", desc := "()V" } : Jvm.MethodName) prog_5_method_2_code (1 : Nat) (Option.none : Option Jvm.ClassFile.FieldType)) ∈ tb := tb_1 218 rfl rfl
theorem m_l_RX5_74 : (Jvm.Cond.methodLink "LimbKernel" (74 : Nat) ({ cls := "LimbKernel$Job", name := "clear", desc := "()V" } : Jvm.MethodName)) ∈ tb := tb_1 219 rfl rfl
theorem m_i_yX0_clear : (Jvm.Cond.instanceMethod ({ cls := "LimbKernel$Job", name := "clear", desc := "()V" } : Jvm.MethodName)) ∈ tb := tb_1 220 rfl rfl
theorem m_e_yX0_clear : (Jvm.Cond.selects "LimbKernel$Job" ({ cls := "LimbKernel$Job", name := "clear", desc := "()V" } : Jvm.MethodName) ({ cls := "LimbKernel$Job", name := "clear", desc := "()V" } : Jvm.MethodName)) ∈ tb := tb_1 221 rfl rfl
theorem m_c_yX0_clear : (Jvm.Cond.code ({ cls := "LimbKernel$Job", name := "clear", desc := "()V" } : Jvm.MethodName) prog_2_method_2_code (1 : Nat) (Option.none : Option Jvm.ClassFile.FieldType)) ∈ tb := tb_1 222 rfl rfl
theorem m_l_RL_26 : (Jvm.Cond.methodLink "LimbKernelLaw" (26 : Nat) ({ cls := "LimbKernel", name := "newNumber", desc := "(I)I" } : Jvm.MethodName)) ∈ tb := tb_1 223 rfl rfl
theorem m_i_yX5_newNumber : (Jvm.Cond.instanceMethod ({ cls := "LimbKernel", name := "newNumber", desc := "(I)I" } : Jvm.MethodName)) ∈ tb := tb_1 224 rfl rfl
theorem m_e_yX5_newNumber : (Jvm.Cond.selects "LimbKernel" ({ cls := "LimbKernel", name := "newNumber", desc := "(I)I" } : Jvm.MethodName) ({ cls := "LimbKernel", name := "newNumber", desc := "(I)I" } : Jvm.MethodName)) ∈ tb := tb_1 225 rfl rfl
theorem m_c_yX5_newNumber : (Jvm.Cond.code ({ cls := "LimbKernel", name := "newNumber", desc := "(I)I" } : Jvm.MethodName) prog_1_method_3_code (5 : Nat) (Option.some Jvm.ClassFile.FieldType.int)) ∈ tb := tb_1 226 rfl rfl
theorem m_l_RX5_78 : (Jvm.Cond.methodLink "LimbKernel" (78 : Nat) ({ cls := "LimbKernel", name := "leastFreeHandle", desc := "()I" } : Jvm.MethodName)) ∈ tb := tb_1 227 rfl rfl
theorem m_i_yX5_leastFreeHandle : (Jvm.Cond.instanceMethod ({ cls := "LimbKernel", name := "leastFreeHandle", desc := "()I" } : Jvm.MethodName)) ∈ tb := tb_1 229 rfl rfl
theorem m_c_yX5_leastFreeHandle : (Jvm.Cond.code ({ cls := "LimbKernel", name := "leastFreeHandle", desc := "()I" } : Jvm.MethodName) prog_1_method_25_code (2 : Nat) (Option.some Jvm.ClassFile.FieldType.int)) ∈ tb := tb_1 230 rfl rfl
theorem m_l_RX5_82 : (Jvm.Cond.methodLink "LimbKernel" (82 : Nat) ({ cls := "LimbKernel$Memory", name := "orderFor", desc := "(J)I" } : Jvm.MethodName)) ∈ tb := tb_1 231 rfl rfl
theorem m_s_yX1_orderFor : (Jvm.Cond.static ({ cls := "LimbKernel$Memory", name := "orderFor", desc := "(J)I" } : Jvm.MethodName)) ∈ tb := tb_1 232 rfl rfl
theorem m_c_yX1_orderFor : (Jvm.Cond.code ({ cls := "LimbKernel$Memory", name := "orderFor", desc := "(J)I" } : Jvm.MethodName) prog_3_method_3_code (3 : Nat) (Option.some Jvm.ClassFile.FieldType.int)) ∈ tb := tb_1 233 rfl rfl
theorem m_l_RX5_86 : (Jvm.Cond.methodLink "LimbKernel" (86 : Nat) ({ cls := "LimbKernel$Memory", name := "give", desc := "(I)I" } : Jvm.MethodName)) ∈ tb := tb_1 234 rfl rfl
theorem m_i_yX1_give : (Jvm.Cond.instanceMethod ({ cls := "LimbKernel$Memory", name := "give", desc := "(I)I" } : Jvm.MethodName)) ∈ tb := tb_1 235 rfl rfl
theorem m_e_yX1_give : (Jvm.Cond.selects "LimbKernel$Memory" ({ cls := "LimbKernel$Memory", name := "give", desc := "(I)I" } : Jvm.MethodName) ({ cls := "LimbKernel$Memory", name := "give", desc := "(I)I" } : Jvm.MethodName)) ∈ tb := tb_1 236 rfl rfl
theorem m_c_yX1_give : (Jvm.Cond.code ({ cls := "LimbKernel$Memory", name := "give", desc := "(I)I" } : Jvm.MethodName) prog_3_method_5_code (5 : Nat) (Option.some Jvm.ClassFile.FieldType.int)) ∈ tb := tb_1 237 rfl rfl
theorem m_l_RX1_38 : (Jvm.Cond.methodLink "LimbKernel$Memory" (38 : Nat) ({ cls := "LimbKernel$Memory", name := "leastFreeOrder", desc := "(I)I" } : Jvm.MethodName)) ∈ tb := tb_1 238 rfl rfl
theorem m_i_yX1_leastFreeOrder : (Jvm.Cond.instanceMethod ({ cls := "LimbKernel$Memory", name := "leastFreeOrder", desc := "(I)I" } : Jvm.MethodName)) ∈ tb := tb_2 0 rfl rfl
theorem m_c_yX1_leastFreeOrder : (Jvm.Cond.code ({ cls := "LimbKernel$Memory", name := "leastFreeOrder", desc := "(I)I" } : Jvm.MethodName) prog_3_method_9_code (3 : Nat) (Option.some Jvm.ClassFile.FieldType.int)) ∈ tb := tb_2 1 rfl rfl
theorem m_l_RX1_42 : (Jvm.Cond.methodLink "LimbKernel$Memory" (42 : Nat) ({ cls := "LimbKernel$Memory", name := "addressOfFree", desc := "(II)I" } : Jvm.MethodName)) ∈ tb := tb_2 2 rfl rfl
theorem m_i_yX1_addressOfFree : (Jvm.Cond.instanceMethod ({ cls := "LimbKernel$Memory", name := "addressOfFree", desc := "(II)I" } : Jvm.MethodName)) ∈ tb := tb_2 3 rfl rfl
theorem m_e_yX1_addressOfFree : (Jvm.Cond.selects "LimbKernel$Memory" ({ cls := "LimbKernel$Memory", name := "addressOfFree", desc := "(II)I" } : Jvm.MethodName) ({ cls := "LimbKernel$Memory", name := "addressOfFree", desc := "(II)I" } : Jvm.MethodName)) ∈ tb := tb_2 4 rfl rfl
theorem m_c_yX1_addressOfFree : (Jvm.Cond.code ({ cls := "LimbKernel$Memory", name := "addressOfFree", desc := "(II)I" } : Jvm.MethodName) prog_3_method_8_code (5 : Nat) (Option.some Jvm.ClassFile.FieldType.int)) ∈ tb := tb_2 5 rfl rfl
theorem m_l_RX1_46 : (Jvm.Cond.methodLink "LimbKernel$Memory" (46 : Nat) ({ cls := "LimbKernel$Memory", name := "removeFree", desc := "(II)V" } : Jvm.MethodName)) ∈ tb := tb_2 6 rfl rfl
theorem m_i_yX1_removeFree : (Jvm.Cond.instanceMethod ({ cls := "LimbKernel$Memory", name := "removeFree", desc := "(II)V" } : Jvm.MethodName)) ∈ tb := tb_2 8 rfl rfl
theorem m_c_yX1_removeFree : (Jvm.Cond.code ({ cls := "LimbKernel$Memory", name := "removeFree", desc := "(II)V" } : Jvm.MethodName) prog_3_method_11_code (3 : Nat) (Option.none : Option Jvm.ClassFile.FieldType)) ∈ tb := tb_2 9 rfl rfl
theorem m_l_RX5_90 : (Jvm.Cond.methodLink "LimbKernel" (90 : Nat) ({ cls := "LimbKernel", name := "occupy", desc := "(IIII)V" } : Jvm.MethodName)) ∈ tb := tb_2 10 rfl rfl
theorem m_i_yX5_occupy : (Jvm.Cond.instanceMethod ({ cls := "LimbKernel", name := "occupy", desc := "(IIII)V" } : Jvm.MethodName)) ∈ tb := tb_2 12 rfl rfl
theorem m_c_yX5_occupy : (Jvm.Cond.code ({ cls := "LimbKernel", name := "occupy", desc := "(IIII)V" } : Jvm.MethodName) prog_1_method_27_code (6 : Nat) (Option.none : Option Jvm.ClassFile.FieldType)) ∈ tb := tb_2 13 rfl rfl
theorem m_l_RX5_210 : (Jvm.Cond.methodLink "LimbKernel" (210 : Nat) ({ cls := "java/util/Arrays", name := "fill", desc := "([IIII)V" } : Jvm.MethodName)) ∈ tb := tb_2 14 rfl rfl
theorem m_s_yJ7_fill_fda19 : (Jvm.Cond.static ({ cls := "java/util/Arrays", name := "fill", desc := "([IIII)V" } : Jvm.MethodName)) ∈ tb := tb_2 15 rfl rfl
theorem m_c_yJ7_fill_fda19 : (Jvm.Cond.code ({ cls := "java/util/Arrays", name := "fill", desc := "([IIII)V" } : Jvm.MethodName) prog_11_method_104_code (5 : Nat) (Option.none : Option Jvm.ClassFile.FieldType)) ∈ tb := tb_2 16 rfl rfl
theorem m_l_RJ7_13 : (Jvm.Cond.methodLink "java/util/Arrays" (13 : Nat) ({ cls := "java/util/Arrays", name := "rangeCheck", desc := "(III)V" } : Jvm.MethodName)) ∈ tb := tb_2 17 rfl rfl
theorem m_s_yJ7_rangeCheck_23922 : (Jvm.Cond.static ({ cls := "java/util/Arrays", name := "rangeCheck", desc := "(III)V" } : Jvm.MethodName)) ∈ tb := tb_2 18 rfl rfl
theorem m_c_yJ7_rangeCheck_23922 : (Jvm.Cond.code ({ cls := "java/util/Arrays", name := "rangeCheck", desc := "(III)V" } : Jvm.MethodName) prog_11_method_30_code (3 : Nat) (Option.none : Option Jvm.ClassFile.FieldType)) ∈ tb := tb_2 19 rfl rfl
theorem m_l_RL_31 : (Jvm.Cond.methodLink "LimbKernelLaw" (31 : Nat) ({ cls := "LimbKernel", name := "setLimb", desc := "(III)Z" } : Jvm.MethodName)) ∈ tb := tb_2 20 rfl rfl
theorem m_i_yX5_setLimb : (Jvm.Cond.instanceMethod ({ cls := "LimbKernel", name := "setLimb", desc := "(III)Z" } : Jvm.MethodName)) ∈ tb := tb_2 21 rfl rfl
theorem m_e_yX5_setLimb : (Jvm.Cond.selects "LimbKernel" ({ cls := "LimbKernel", name := "setLimb", desc := "(III)Z" } : Jvm.MethodName) ({ cls := "LimbKernel", name := "setLimb", desc := "(III)Z" } : Jvm.MethodName)) ∈ tb := tb_2 22 rfl rfl
theorem m_c_yX5_setLimb : (Jvm.Cond.code ({ cls := "LimbKernel", name := "setLimb", desc := "(III)Z" } : Jvm.MethodName) prog_1_method_4_code (4 : Nat) (Option.some Jvm.ClassFile.FieldType.boolean)) ∈ tb := tb_2 23 rfl rfl
theorem m_l_RX5_94 : (Jvm.Cond.methodLink "LimbKernel" (94 : Nat) ({ cls := "LimbKernel", name := "isNumber", desc := "(I)Z" } : Jvm.MethodName)) ∈ tb := tb_2 24 rfl rfl
theorem m_i_yX5_isNumber : (Jvm.Cond.instanceMethod ({ cls := "LimbKernel", name := "isNumber", desc := "(I)Z" } : Jvm.MethodName)) ∈ tb := tb_2 26 rfl rfl
theorem m_c_yX5_isNumber : (Jvm.Cond.code ({ cls := "LimbKernel", name := "isNumber", desc := "(I)Z" } : Jvm.MethodName) prog_1_method_21_code (2 : Nat) (Option.some Jvm.ClassFile.FieldType.boolean)) ∈ tb := tb_2 27 rfl rfl
theorem m_l_RX5_101 : (Jvm.Cond.methodLink "LimbKernel" (101 : Nat) ({ cls := "LimbKernel$Numeral", name := "hasLimb", desc := "(I)Z" } : Jvm.MethodName)) ∈ tb := tb_2 28 rfl rfl
theorem m_i_yX2_hasLimb : (Jvm.Cond.instanceMethod ({ cls := "LimbKernel$Numeral", name := "hasLimb", desc := "(I)Z" } : Jvm.MethodName)) ∈ tb := tb_2 29 rfl rfl
theorem m_e_yX2_hasLimb : (Jvm.Cond.selects "LimbKernel$Numeral" ({ cls := "LimbKernel$Numeral", name := "hasLimb", desc := "(I)Z" } : Jvm.MethodName) ({ cls := "LimbKernel$Numeral", name := "hasLimb", desc := "(I)Z" } : Jvm.MethodName)) ∈ tb := tb_2 30 rfl rfl
theorem m_c_yX2_hasLimb : (Jvm.Cond.code ({ cls := "LimbKernel$Numeral", name := "hasLimb", desc := "(I)Z" } : Jvm.MethodName) prog_4_method_2_code (2 : Nat) (Option.some Jvm.ClassFile.FieldType.boolean)) ∈ tb := tb_2 31 rfl rfl
theorem m_l_RL_36 : (Jvm.Cond.methodLink "LimbKernelLaw" (36 : Nat) ({ cls := "LimbKernel", name := "getLimb", desc := "(II)I" } : Jvm.MethodName)) ∈ tb := tb_2 32 rfl rfl
theorem m_i_yX5_getLimb : (Jvm.Cond.instanceMethod ({ cls := "LimbKernel", name := "getLimb", desc := "(II)I" } : Jvm.MethodName)) ∈ tb := tb_2 33 rfl rfl
theorem m_e_yX5_getLimb : (Jvm.Cond.selects "LimbKernel" ({ cls := "LimbKernel", name := "getLimb", desc := "(II)I" } : Jvm.MethodName) ({ cls := "LimbKernel", name := "getLimb", desc := "(II)I" } : Jvm.MethodName)) ∈ tb := tb_2 34 rfl rfl
theorem m_c_yX5_getLimb : (Jvm.Cond.code ({ cls := "LimbKernel", name := "getLimb", desc := "(II)I" } : Jvm.MethodName) prog_1_method_5_code (3 : Nat) (Option.some Jvm.ClassFile.FieldType.int)) ∈ tb := tb_2 35 rfl rfl
theorem m_l_RX5_107 : (Jvm.Cond.methodLink "LimbKernel" (107 : Nat) ({ cls := "LimbKernel", name := "isFinished", desc := "(I)Z" } : Jvm.MethodName)) ∈ tb := tb_2 36 rfl rfl
theorem m_i_yX5_isFinished : (Jvm.Cond.instanceMethod ({ cls := "LimbKernel", name := "isFinished", desc := "(I)Z" } : Jvm.MethodName)) ∈ tb := tb_2 38 rfl rfl
theorem m_c_yX5_isFinished : (Jvm.Cond.code ({ cls := "LimbKernel", name := "isFinished", desc := "(I)Z" } : Jvm.MethodName) prog_1_method_22_code (2 : Nat) (Option.some Jvm.ClassFile.FieldType.boolean)) ∈ tb := tb_2 39 rfl rfl
theorem m_l_RL_41 : (Jvm.Cond.methodLink "LimbKernelLaw" (41 : Nat) ({ cls := "LimbKernel", name := "sizeOf", desc := "(I)I" } : Jvm.MethodName)) ∈ tb := tb_2 40 rfl rfl
theorem m_i_yX5_sizeOf : (Jvm.Cond.instanceMethod ({ cls := "LimbKernel", name := "sizeOf", desc := "(I)I" } : Jvm.MethodName)) ∈ tb := tb_2 41 rfl rfl
theorem m_e_yX5_sizeOf : (Jvm.Cond.selects "LimbKernel" ({ cls := "LimbKernel", name := "sizeOf", desc := "(I)I" } : Jvm.MethodName) ({ cls := "LimbKernel", name := "sizeOf", desc := "(I)I" } : Jvm.MethodName)) ∈ tb := tb_2 42 rfl rfl
theorem m_c_yX5_sizeOf : (Jvm.Cond.code ({ cls := "LimbKernel", name := "sizeOf", desc := "(I)I" } : Jvm.MethodName) prog_1_method_6_code (2 : Nat) (Option.some Jvm.ClassFile.FieldType.int)) ∈ tb := tb_2 43 rfl rfl
theorem m_l_RL_45 : (Jvm.Cond.methodLink "LimbKernelLaw" (45 : Nat) ({ cls := "LimbKernel", name := "release", desc := "(I)Z" } : Jvm.MethodName)) ∈ tb := tb_2 44 rfl rfl
theorem m_i_yX5_release : (Jvm.Cond.instanceMethod ({ cls := "LimbKernel", name := "release", desc := "(I)Z" } : Jvm.MethodName)) ∈ tb := tb_2 45 rfl rfl
theorem m_e_yX5_release : (Jvm.Cond.selects "LimbKernel" ({ cls := "LimbKernel", name := "release", desc := "(I)Z" } : Jvm.MethodName) ({ cls := "LimbKernel", name := "release", desc := "(I)Z" } : Jvm.MethodName)) ∈ tb := tb_2 46 rfl rfl
theorem m_c_yX5_release : (Jvm.Cond.code ({ cls := "LimbKernel", name := "release", desc := "(I)Z" } : Jvm.MethodName) prog_1_method_7_code (3 : Nat) (Option.some Jvm.ClassFile.FieldType.boolean)) ∈ tb := tb_2 47 rfl rfl
theorem m_l_RX5_116 : (Jvm.Cond.methodLink "LimbKernel" (116 : Nat) ({ cls := "LimbKernel", name := "vacate", desc := "(I)V" } : Jvm.MethodName)) ∈ tb := tb_2 48 rfl rfl
theorem m_i_yX5_vacate : (Jvm.Cond.instanceMethod ({ cls := "LimbKernel", name := "vacate", desc := "(I)V" } : Jvm.MethodName)) ∈ tb := tb_2 50 rfl rfl
theorem m_c_yX5_vacate : (Jvm.Cond.code ({ cls := "LimbKernel", name := "vacate", desc := "(I)V" } : Jvm.MethodName) prog_1_method_28_code (2 : Nat) (Option.none : Option Jvm.ClassFile.FieldType)) ∈ tb := tb_2 51 rfl rfl
theorem m_l_RX5_216 : (Jvm.Cond.methodLink "LimbKernel" (216 : Nat) ({ cls := "LimbKernel$Memory", name := "takeBack", desc := "(II)V" } : Jvm.MethodName)) ∈ tb := tb_2 52 rfl rfl
theorem m_i_yX1_takeBack : (Jvm.Cond.instanceMethod ({ cls := "LimbKernel$Memory", name := "takeBack", desc := "(II)V" } : Jvm.MethodName)) ∈ tb := tb_2 53 rfl rfl
theorem m_e_yX1_takeBack : (Jvm.Cond.selects "LimbKernel$Memory" ({ cls := "LimbKernel$Memory", name := "takeBack", desc := "(II)V" } : Jvm.MethodName) ({ cls := "LimbKernel$Memory", name := "takeBack", desc := "(II)V" } : Jvm.MethodName)) ∈ tb := tb_2 54 rfl rfl
theorem m_c_yX1_takeBack : (Jvm.Cond.code ({ cls := "LimbKernel$Memory", name := "takeBack", desc := "(II)V" } : Jvm.MethodName) prog_3_method_6_code (5 : Nat) (Option.none : Option Jvm.ClassFile.FieldType)) ∈ tb := tb_2 55 rfl rfl
theorem m_l_RL_50 : (Jvm.Cond.methodLink "LimbKernelLaw" (50 : Nat) ({ cls := "LimbKernel", name := "submit", desc := "(IIII)I" } : Jvm.MethodName)) ∈ tb := tb_2 56 rfl rfl
theorem m_i_yX5_submit : (Jvm.Cond.instanceMethod ({ cls := "LimbKernel", name := "submit", desc := "(IIII)I" } : Jvm.MethodName)) ∈ tb := tb_2 57 rfl rfl
theorem m_e_yX5_submit : (Jvm.Cond.selects "LimbKernel" ({ cls := "LimbKernel", name := "submit", desc := "(IIII)I" } : Jvm.MethodName) ({ cls := "LimbKernel", name := "submit", desc := "(IIII)I" } : Jvm.MethodName)) ∈ tb := tb_2 58 rfl rfl
theorem m_c_yX5_submit : (Jvm.Cond.code ({ cls := "LimbKernel", name := "submit", desc := "(IIII)I" } : Jvm.MethodName) prog_1_method_8_code (7 : Nat) (Option.some Jvm.ClassFile.FieldType.int)) ∈ tb := tb_2 59 rfl rfl
theorem m_l_RX5_119 : (Jvm.Cond.methodLink "LimbKernel" (119 : Nat) ({ cls := "LimbKernel", name := "isZero", desc := "(I)Z" } : Jvm.MethodName)) ∈ tb := tb_2 60 rfl rfl
theorem m_i_yX5_isZero : (Jvm.Cond.instanceMethod ({ cls := "LimbKernel", name := "isZero", desc := "(I)Z" } : Jvm.MethodName)) ∈ tb := tb_2 62 rfl rfl
theorem m_c_yX5_isZero : (Jvm.Cond.code ({ cls := "LimbKernel", name := "isZero", desc := "(I)Z" } : Jvm.MethodName) prog_1_method_23_code (2 : Nat) (Option.some Jvm.ClassFile.FieldType.boolean)) ∈ tb := tb_2 63 rfl rfl
theorem m_l_RX5_207 : (Jvm.Cond.methodLink "LimbKernel" (207 : Nat) ({ cls := "LimbKernel$Reckoner", name := "significant", desc := "(II)I" } : Jvm.MethodName)) ∈ tb := tb_2 64 rfl rfl
theorem m_i_yX4_significant : (Jvm.Cond.instanceMethod ({ cls := "LimbKernel$Reckoner", name := "significant", desc := "(II)I" } : Jvm.MethodName)) ∈ tb := tb_2 65 rfl rfl
theorem m_e_yX4_significant : (Jvm.Cond.selects "LimbKernel$Reckoner" ({ cls := "LimbKernel$Reckoner", name := "significant", desc := "(II)I" } : Jvm.MethodName) ({ cls := "LimbKernel$Reckoner", name := "significant", desc := "(II)I" } : Jvm.MethodName)) ∈ tb := tb_2 66 rfl rfl
theorem m_c_yX4_significant : (Jvm.Cond.code ({ cls := "LimbKernel$Reckoner", name := "significant", desc := "(II)I" } : Jvm.MethodName) prog_6_method_2_code (4 : Nat) (Option.some Jvm.ClassFile.FieldType.int)) ∈ tb := tb_2 67 rfl rfl
theorem m_l_RX5_122 : (Jvm.Cond.methodLink "LimbKernel" (122 : Nat) ({ cls := "LimbKernel", name := "leastFreeJob", desc := "()I" } : Jvm.MethodName)) ∈ tb := tb_2 68 rfl rfl
theorem m_i_yX5_leastFreeJob : (Jvm.Cond.instanceMethod ({ cls := "LimbKernel", name := "leastFreeJob", desc := "()I" } : Jvm.MethodName)) ∈ tb := tb_2 70 rfl rfl
theorem m_c_yX5_leastFreeJob : (Jvm.Cond.code ({ cls := "LimbKernel", name := "leastFreeJob", desc := "()I" } : Jvm.MethodName) prog_1_method_26_code (2 : Nat) (Option.some Jvm.ClassFile.FieldType.int)) ∈ tb := tb_2 71 rfl rfl
theorem m_l_RX5_137 : (Jvm.Cond.methodLink "LimbKernel" (137 : Nat) ({ cls := "LimbKernel$Job", name := "plan", desc := "(JJJ)V" } : Jvm.MethodName)) ∈ tb := tb_2 72 rfl rfl
theorem m_i_yX0_plan : (Jvm.Cond.instanceMethod ({ cls := "LimbKernel$Job", name := "plan", desc := "(JJJ)V" } : Jvm.MethodName)) ∈ tb := tb_2 73 rfl rfl
theorem m_e_yX0_plan : (Jvm.Cond.selects "LimbKernel$Job" ({ cls := "LimbKernel$Job", name := "plan", desc := "(JJJ)V" } : Jvm.MethodName) ({ cls := "LimbKernel$Job", name := "plan", desc := "(JJJ)V" } : Jvm.MethodName)) ∈ tb := tb_2 74 rfl rfl
theorem m_c_yX0_plan : (Jvm.Cond.code ({ cls := "LimbKernel$Job", name := "plan", desc := "(JJJ)V" } : Jvm.MethodName) prog_2_method_4_code (7 : Nat) (Option.none : Option Jvm.ClassFile.FieldType)) ∈ tb := tb_2 75 rfl rfl
theorem m_l_RX0_27 : (Jvm.Cond.methodLink "LimbKernel$Job" (27 : Nat) ({ cls := "LimbKernel$Job", name := "need", desc := "(JJJ)V" } : Jvm.MethodName)) ∈ tb := tb_2 76 rfl rfl
theorem m_i_yX0_need : (Jvm.Cond.instanceMethod ({ cls := "LimbKernel$Job", name := "need", desc := "(JJJ)V" } : Jvm.MethodName)) ∈ tb := tb_2 78 rfl rfl
theorem m_c_yX0_need : (Jvm.Cond.code ({ cls := "LimbKernel$Job", name := "need", desc := "(JJJ)V" } : Jvm.MethodName) prog_2_method_5_code (7 : Nat) (Option.none : Option Jvm.ClassFile.FieldType)) ∈ tb := tb_2 79 rfl rfl
theorem m_l_RX0_48 : (Jvm.Cond.methodLink "LimbKernel$Job" (48 : Nat) ({ cls := "LimbKernel$Memory", name := "orderFor", desc := "(J)I" } : Jvm.MethodName)) ∈ tb := tb_2 80 rfl rfl
theorem m_k_RX0_31 : (Jvm.Cond.constantLong "LimbKernel$Job" (31 : Nat) (31 : Int64)) ∈ tb := tb_2 81 rfl rfl
theorem m_l_RX0_33 : (Jvm.Cond.methodLink "LimbKernel$Job" (33 : Nat) ({ cls := "java/lang/Math", name := "max", desc := "(JJ)J" } : Jvm.MethodName)) ∈ tb := tb_2 82 rfl rfl
theorem m_s_yJ9_max_f86c9 : (Jvm.Cond.static ({ cls := "java/lang/Math", name := "max", desc := "(JJ)J" } : Jvm.MethodName)) ∈ tb := tb_2 83 rfl rfl
theorem m_c_yJ9_max_f86c9 : (Jvm.Cond.code ({ cls := "java/lang/Math", name := "max", desc := "(JJ)J" } : Jvm.MethodName) prog_9_method_66_code (4 : Nat) (Option.some Jvm.ClassFile.FieldType.long)) ∈ tb := tb_2 84 rfl rfl
theorem m_k_RX0_39 : (Jvm.Cond.constantLong "LimbKernel$Job" (39 : Nat) (2 : Int64)) ∈ tb := tb_2 85 rfl rfl
theorem m_k_RX0_41 : (Jvm.Cond.constantLong "LimbKernel$Job" (41 : Nat) (3 : Int64)) ∈ tb := tb_2 86 rfl rfl
theorem m_k_RX0_43 : (Jvm.Cond.constantLong "LimbKernel$Job" (43 : Nat) (1922 : Int64)) ∈ tb := tb_2 87 rfl rfl
theorem m_l_RX5_144 : (Jvm.Cond.methodLink "LimbKernel" (144 : Nat) ({ cls := "LimbKernel", name := "changePins", desc := "(LLimbKernel$Job;I)V" } : Jvm.MethodName)) ∈ tb := tb_2 88 rfl rfl
theorem m_i_yX5_changePins : (Jvm.Cond.instanceMethod ({ cls := "LimbKernel", name := "changePins", desc := "(LLimbKernel$Job;I)V" } : Jvm.MethodName)) ∈ tb := tb_2 90 rfl rfl
theorem m_c_yX5_changePins : (Jvm.Cond.code ({ cls := "LimbKernel", name := "changePins", desc := "(LLimbKernel$Job;I)V" } : Jvm.MethodName) prog_1_method_29_code (3 : Nat) (Option.none : Option Jvm.ClassFile.FieldType)) ∈ tb := tb_2 91 rfl rfl
theorem m_l_RX5_148 : (Jvm.Cond.methodLink "LimbKernel" (148 : Nat) ({ cls := "LimbKernel$Queue", name := "append", desc := "(I)V" } : Jvm.MethodName)) ∈ tb := tb_2 92 rfl rfl
theorem m_i_yX3_append : (Jvm.Cond.instanceMethod ({ cls := "LimbKernel$Queue", name := "append", desc := "(I)V" } : Jvm.MethodName)) ∈ tb := tb_2 93 rfl rfl
theorem m_e_yX3_append : (Jvm.Cond.selects "LimbKernel$Queue" ({ cls := "LimbKernel$Queue", name := "append", desc := "(I)V" } : Jvm.MethodName) ({ cls := "LimbKernel$Queue", name := "append", desc := "(I)V" } : Jvm.MethodName)) ∈ tb := tb_2 94 rfl rfl
theorem m_c_yX3_append : (Jvm.Cond.code ({ cls := "LimbKernel$Queue", name := "append", desc := "(I)V" } : Jvm.MethodName) prog_5_method_4_code (2 : Nat) (Option.none : Option Jvm.ClassFile.FieldType)) ∈ tb := tb_2 95 rfl rfl
theorem m_l_RX3_19 : (Jvm.Cond.methodLink "LimbKernel$Queue" (19 : Nat) ({ cls := "LimbKernel$Queue", name := "slot", desc := "(I)I" } : Jvm.MethodName)) ∈ tb := tb_2 96 rfl rfl
theorem m_i_yX3_slot : (Jvm.Cond.instanceMethod ({ cls := "LimbKernel$Queue", name := "slot", desc := "(I)I" } : Jvm.MethodName)) ∈ tb := tb_2 98 rfl rfl
theorem m_c_yX3_slot : (Jvm.Cond.code ({ cls := "LimbKernel$Queue", name := "slot", desc := "(I)I" } : Jvm.MethodName) prog_5_method_7_code (3 : Nat) (Option.some Jvm.ClassFile.FieldType.int)) ∈ tb := tb_2 99 rfl rfl
theorem m_l_RL_55 : (Jvm.Cond.methodLink "LimbKernelLaw" (55 : Nat) ({ cls := "LimbKernel", name := "tick", desc := "()I" } : Jvm.MethodName)) ∈ tb := tb_2 100 rfl rfl
theorem m_i_yX5_tick : (Jvm.Cond.instanceMethod ({ cls := "LimbKernel", name := "tick", desc := "()I" } : Jvm.MethodName)) ∈ tb := tb_2 101 rfl rfl
theorem m_e_yX5_tick : (Jvm.Cond.selects "LimbKernel" ({ cls := "LimbKernel", name := "tick", desc := "()I" } : Jvm.MethodName) ({ cls := "LimbKernel", name := "tick", desc := "()I" } : Jvm.MethodName)) ∈ tb := tb_2 102 rfl rfl
theorem m_c_yX5_tick : (Jvm.Cond.code ({ cls := "LimbKernel", name := "tick", desc := "()I" } : Jvm.MethodName) prog_1_method_9_code (1 : Nat) (Option.some Jvm.ClassFile.FieldType.int)) ∈ tb := tb_2 103 rfl rfl
theorem m_l_RX5_151 : (Jvm.Cond.methodLink "LimbKernel" (151 : Nat) ({ cls := "LimbKernel", name := "takeTurn", desc := "()I" } : Jvm.MethodName)) ∈ tb := tb_2 104 rfl rfl
theorem m_i_yX5_takeTurn : (Jvm.Cond.instanceMethod ({ cls := "LimbKernel", name := "takeTurn", desc := "()I" } : Jvm.MethodName)) ∈ tb := tb_2 106 rfl rfl
theorem m_c_yX5_takeTurn : (Jvm.Cond.code ({ cls := "LimbKernel", name := "takeTurn", desc := "()I" } : Jvm.MethodName) prog_1_method_30_code (3 : Nat) (Option.some Jvm.ClassFile.FieldType.int)) ∈ tb := tb_2 107 rfl rfl
theorem m_l_RX5_220 : (Jvm.Cond.methodLink "LimbKernel" (220 : Nat) ({ cls := "LimbKernel$Queue", name := "takeFirst", desc := "()I" } : Jvm.MethodName)) ∈ tb := tb_2 108 rfl rfl
theorem m_i_yX3_takeFirst : (Jvm.Cond.instanceMethod ({ cls := "LimbKernel$Queue", name := "takeFirst", desc := "()I" } : Jvm.MethodName)) ∈ tb := tb_2 109 rfl rfl
theorem m_e_yX3_takeFirst : (Jvm.Cond.selects "LimbKernel$Queue" ({ cls := "LimbKernel$Queue", name := "takeFirst", desc := "()I" } : Jvm.MethodName) ({ cls := "LimbKernel$Queue", name := "takeFirst", desc := "()I" } : Jvm.MethodName)) ∈ tb := tb_2 110 rfl rfl
theorem m_c_yX3_takeFirst : (Jvm.Cond.code ({ cls := "LimbKernel$Queue", name := "takeFirst", desc := "()I" } : Jvm.MethodName) prog_5_method_5_code (2 : Nat) (Option.some Jvm.ClassFile.FieldType.int)) ∈ tb := tb_2 111 rfl rfl
theorem m_l_RX5_223 : (Jvm.Cond.methodLink "LimbKernel" (223 : Nat) ({ cls := "LimbKernel", name := "start", desc := "(LLimbKernel$Job;)V" } : Jvm.MethodName)) ∈ tb := tb_2 112 rfl rfl
theorem m_i_yX5_start : (Jvm.Cond.instanceMethod ({ cls := "LimbKernel", name := "start", desc := "(LLimbKernel$Job;)V" } : Jvm.MethodName)) ∈ tb := tb_2 114 rfl rfl
theorem m_c_yX5_start : (Jvm.Cond.code ({ cls := "LimbKernel", name := "start", desc := "(LLimbKernel$Job;)V" } : Jvm.MethodName) prog_1_method_31_code (3 : Nat) (Option.none : Option Jvm.ClassFile.FieldType)) ∈ tb := tb_2 115 rfl rfl
theorem m_l_RX5_238 : (Jvm.Cond.methodLink "LimbKernel" (238 : Nat) ({ cls := "LimbKernel$Memory", name := "canGive", desc := "(II)Z" } : Jvm.MethodName)) ∈ tb := tb_2 116 rfl rfl
theorem m_i_yX1_canGive : (Jvm.Cond.instanceMethod ({ cls := "LimbKernel$Memory", name := "canGive", desc := "(II)Z" } : Jvm.MethodName)) ∈ tb := tb_2 117 rfl rfl
theorem m_e_yX1_canGive : (Jvm.Cond.selects "LimbKernel$Memory" ({ cls := "LimbKernel$Memory", name := "canGive", desc := "(II)Z" } : Jvm.MethodName) ({ cls := "LimbKernel$Memory", name := "canGive", desc := "(II)Z" } : Jvm.MethodName)) ∈ tb := tb_2 118 rfl rfl
theorem m_c_yX1_canGive : (Jvm.Cond.code ({ cls := "LimbKernel$Memory", name := "canGive", desc := "(II)Z" } : Jvm.MethodName) prog_3_method_4_code (6 : Nat) (Option.some Jvm.ClassFile.FieldType.boolean)) ∈ tb := tb_2 119 rfl rfl
theorem m_l_RX5_226 : (Jvm.Cond.methodLink "LimbKernel" (226 : Nat) ({ cls := "LimbKernel", name := "reckon", desc := "(LLimbKernel$Job;)V" } : Jvm.MethodName)) ∈ tb := tb_2 120 rfl rfl
theorem m_i_yX5_reckon : (Jvm.Cond.instanceMethod ({ cls := "LimbKernel", name := "reckon", desc := "(LLimbKernel$Job;)V" } : Jvm.MethodName)) ∈ tb := tb_2 122 rfl rfl
theorem m_c_yX5_reckon : (Jvm.Cond.code ({ cls := "LimbKernel", name := "reckon", desc := "(LLimbKernel$Job;)V" } : Jvm.MethodName) prog_1_method_32_code (5 : Nat) (Option.none : Option Jvm.ClassFile.FieldType)) ∈ tb := tb_2 123 rfl rfl
theorem m_l_RX5_248 : (Jvm.Cond.methodLink "LimbKernel" (248 : Nat) ({ cls := "LimbKernel$Reckoner", name := "addProduct", desc := "(IIIII)V" } : Jvm.MethodName)) ∈ tb := tb_2 124 rfl rfl
theorem m_i_yX4_addProduct : (Jvm.Cond.instanceMethod ({ cls := "LimbKernel$Reckoner", name := "addProduct", desc := "(IIIII)V" } : Jvm.MethodName)) ∈ tb := tb_2 125 rfl rfl
theorem m_e_yX4_addProduct : (Jvm.Cond.selects "LimbKernel$Reckoner" ({ cls := "LimbKernel$Reckoner", name := "addProduct", desc := "(IIIII)V" } : Jvm.MethodName) ({ cls := "LimbKernel$Reckoner", name := "addProduct", desc := "(IIIII)V" } : Jvm.MethodName)) ∈ tb := tb_2 126 rfl rfl
theorem m_c_yX4_addProduct : (Jvm.Cond.code ({ cls := "LimbKernel$Reckoner", name := "addProduct", desc := "(IIIII)V" } : Jvm.MethodName) prog_6_method_3_code (15 : Nat) (Option.none : Option Jvm.ClassFile.FieldType)) ∈ tb := tb_2 127 rfl rfl
theorem m_k_RX4_15 : (Jvm.Cond.constantLong "LimbKernel$Reckoner" (15 : Nat) (2147483647 : Int64)) ∈ tb := tb_2 128 rfl rfl
theorem m_l_RX5_252 : (Jvm.Cond.methodLink "LimbKernel" (252 : Nat) ({ cls := "LimbKernel$Reckoner", name := "quotient", desc := "(LLimbKernel$Numeral;LLimbKernel$Numeral;LLimbKernel$Numeral;I)V" } : Jvm.MethodName)) ∈ tb := tb_2 129 rfl rfl
theorem m_i_yX4_quotient : (Jvm.Cond.instanceMethod ({ cls := "LimbKernel$Reckoner", name := "quotient", desc := "(LLimbKernel$Numeral;LLimbKernel$Numeral;LLimbKernel$Numeral;I)V" } : Jvm.MethodName)) ∈ tb := tb_2 130 rfl rfl
theorem m_e_yX4_quotient : (Jvm.Cond.selects "LimbKernel$Reckoner" ({ cls := "LimbKernel$Reckoner", name := "quotient", desc := "(LLimbKernel$Numeral;LLimbKernel$Numeral;LLimbKernel$Numeral;I)V" } : Jvm.MethodName) ({ cls := "LimbKernel$Reckoner", name := "quotient", desc := "(LLimbKernel$Numeral;LLimbKernel$Numeral;LLimbKernel$Numeral;I)V" } : Jvm.MethodName)) ∈ tb := tb_2 131 rfl rfl
theorem m_c_yX4_quotient : (Jvm.Cond.code ({ cls := "LimbKernel$Reckoner", name := "quotient", desc := "(LLimbKernel$Numeral;LLimbKernel$Numeral;LLimbKernel$Numeral;I)V" } : Jvm.MethodName) prog_6_method_4_code (5 : Nat) (Option.none : Option Jvm.ClassFile.FieldType)) ∈ tb := tb_2 132 rfl rfl
theorem m_l_RX4_26 : (Jvm.Cond.methodLink "LimbKernel$Reckoner" (26 : Nat) ({ cls := "LimbKernel$Reckoner", name := "chooseDivisor", desc := "(II)Z" } : Jvm.MethodName)) ∈ tb := tb_2 133 rfl rfl
theorem m_i_yX4_chooseDivisor : (Jvm.Cond.instanceMethod ({ cls := "LimbKernel$Reckoner", name := "chooseDivisor", desc := "(II)Z" } : Jvm.MethodName)) ∈ tb := tb_2 135 rfl rfl
theorem m_c_yX4_chooseDivisor : (Jvm.Cond.code ({ cls := "LimbKernel$Reckoner", name := "chooseDivisor", desc := "(II)Z" } : Jvm.MethodName) prog_6_method_12_code (8 : Nat) (Option.some Jvm.ClassFile.FieldType.boolean)) ∈ tb := tb_2 136 rfl rfl
theorem m_l_RX4_87 : (Jvm.Cond.methodLink "LimbKernel$Reckoner" (87 : Nat) ({ cls := "LimbKernel$Reckoner", name := "significant", desc := "(II)I" } : Jvm.MethodName)) ∈ tb := tb_2 137 rfl rfl
theorem m_l_RX4_30 : (Jvm.Cond.methodLink "LimbKernel$Reckoner" (30 : Nat) ({ cls := "LimbKernel$Reckoner", name := "load", desc := "(LLimbKernel$Numeral;I)V" } : Jvm.MethodName)) ∈ tb := tb_2 138 rfl rfl
theorem m_i_yX4_load : (Jvm.Cond.instanceMethod ({ cls := "LimbKernel$Reckoner", name := "load", desc := "(LLimbKernel$Numeral;I)V" } : Jvm.MethodName)) ∈ tb := tb_2 140 rfl rfl
theorem m_c_yX4_load : (Jvm.Cond.code ({ cls := "LimbKernel$Reckoner", name := "load", desc := "(LLimbKernel$Numeral;I)V" } : Jvm.MethodName) prog_6_method_9_code (3 : Nat) (Option.none : Option Jvm.ClassFile.FieldType)) ∈ tb := tb_2 141 rfl rfl
theorem m_l_RX4_47 : (Jvm.Cond.methodLink "LimbKernel$Reckoner" (47 : Nat) ({ cls := "java/lang/System", name := "arraycopy", desc := "(Ljava/lang/Object;ILjava/lang/Object;II)V" } : Jvm.MethodName)) ∈ tb := tb_2 142 rfl rfl
theorem m_l_RX4_34 : (Jvm.Cond.methodLink "LimbKernel$Reckoner" (34 : Nat) ({ cls := "LimbKernel$Reckoner", name := "reduce", desc := "(III)V" } : Jvm.MethodName)) ∈ tb := tb_2 145 rfl rfl
theorem m_i_yX4_reduce : (Jvm.Cond.instanceMethod ({ cls := "LimbKernel$Reckoner", name := "reduce", desc := "(III)V" } : Jvm.MethodName)) ∈ tb := tb_2 147 rfl rfl
theorem m_c_yX4_reduce : (Jvm.Cond.code ({ cls := "LimbKernel$Reckoner", name := "reduce", desc := "(III)V" } : Jvm.MethodName) prog_6_method_13_code (6 : Nat) (Option.none : Option Jvm.ClassFile.FieldType)) ∈ tb := tb_2 148 rfl rfl
theorem m_l_RX4_75 : (Jvm.Cond.methodLink "LimbKernel$Reckoner" (75 : Nat) ({ cls := "LimbKernel$Reckoner", name := "guessDigit", desc := "(I)J" } : Jvm.MethodName)) ∈ tb := tb_2 149 rfl rfl
theorem m_i_yX4_guessDigit : (Jvm.Cond.instanceMethod ({ cls := "LimbKernel$Reckoner", name := "guessDigit", desc := "(I)J" } : Jvm.MethodName)) ∈ tb := tb_2 151 rfl rfl
theorem m_c_yX4_guessDigit : (Jvm.Cond.code ({ cls := "LimbKernel$Reckoner", name := "guessDigit", desc := "(I)J" } : Jvm.MethodName) prog_6_method_14_code (14 : Nat) (Option.some Jvm.ClassFile.FieldType.long)) ∈ tb := tb_2 152 rfl rfl
theorem m_l_RX4_79 : (Jvm.Cond.methodLink "LimbKernel$Reckoner" (79 : Nat) ({ cls := "LimbKernel$Reckoner", name := "subtractTimes", desc := "(IJ)I" } : Jvm.MethodName)) ∈ tb := tb_2 153 rfl rfl
theorem m_i_yX4_subtractTimes : (Jvm.Cond.instanceMethod ({ cls := "LimbKernel$Reckoner", name := "subtractTimes", desc := "(IJ)I" } : Jvm.MethodName)) ∈ tb := tb_2 155 rfl rfl
theorem m_c_yX4_subtractTimes : (Jvm.Cond.code ({ cls := "LimbKernel$Reckoner", name := "subtractTimes", desc := "(IJ)I" } : Jvm.MethodName) prog_6_method_15_code (11 : Nat) (Option.some Jvm.ClassFile.FieldType.int)) ∈ tb := tb_2 156 rfl rfl
theorem m_l_RX5_256 : (Jvm.Cond.methodLink "LimbKernel" (256 : Nat) ({ cls := "LimbKernel$Reckoner", name := "greatestDivisor", desc := "(LLimbKernel$Numeral;LLimbKernel$Numeral;LLimbKernel$Numeral;I)V" } : Jvm.MethodName)) ∈ tb := tb_2 157 rfl rfl
theorem m_i_yX4_greatestDivisor : (Jvm.Cond.instanceMethod ({ cls := "LimbKernel$Reckoner", name := "greatestDivisor", desc := "(LLimbKernel$Numeral;LLimbKernel$Numeral;LLimbKernel$Numeral;I)V" } : Jvm.MethodName)) ∈ tb := tb_2 158 rfl rfl
theorem m_e_yX4_greatestDivisor : (Jvm.Cond.selects "LimbKernel$Reckoner" ({ cls := "LimbKernel$Reckoner", name := "greatestDivisor", desc := "(LLimbKernel$Numeral;LLimbKernel$Numeral;LLimbKernel$Numeral;I)V" } : Jvm.MethodName) ({ cls := "LimbKernel$Reckoner", name := "greatestDivisor", desc := "(LLimbKernel$Numeral;LLimbKernel$Numeral;LLimbKernel$Numeral;I)V" } : Jvm.MethodName)) ∈ tb := tb_2 159 rfl rfl
theorem m_c_yX4_greatestDivisor : (Jvm.Cond.code ({ cls := "LimbKernel$Reckoner", name := "greatestDivisor", desc := "(LLimbKernel$Numeral;LLimbKernel$Numeral;LLimbKernel$Numeral;I)V" } : Jvm.MethodName) prog_6_method_5_code (13 : Nat) (Option.none : Option Jvm.ClassFile.FieldType)) ∈ tb := tb_2 160 rfl rfl
theorem m_l_RX4_41 : (Jvm.Cond.methodLink "LimbKernel$Reckoner" (41 : Nat) ({ cls := "java/lang/Math", name := "min", desc := "(II)I" } : Jvm.MethodName)) ∈ tb := tb_2 161 rfl rfl
theorem m_l_RX5_259 : (Jvm.Cond.methodLink "LimbKernel" (259 : Nat) ({ cls := "LimbKernel$Reckoner", name := "powerModulo", desc := "(LLimbKernel$Numeral;LLimbKernel$Numeral;LLimbKernel$Numeral;LLimbKernel$Numeral;I)V" } : Jvm.MethodName)) ∈ tb := tb_2 162 rfl rfl
theorem m_i_yX4_powerModulo : (Jvm.Cond.instanceMethod ({ cls := "LimbKernel$Reckoner", name := "powerModulo", desc := "(LLimbKernel$Numeral;LLimbKernel$Numeral;LLimbKernel$Numeral;LLimbKernel$Numeral;I)V" } : Jvm.MethodName)) ∈ tb := tb_2 163 rfl rfl
theorem m_e_yX4_powerModulo : (Jvm.Cond.selects "LimbKernel$Reckoner" ({ cls := "LimbKernel$Reckoner", name := "powerModulo", desc := "(LLimbKernel$Numeral;LLimbKernel$Numeral;LLimbKernel$Numeral;LLimbKernel$Numeral;I)V" } : Jvm.MethodName) ({ cls := "LimbKernel$Reckoner", name := "powerModulo", desc := "(LLimbKernel$Numeral;LLimbKernel$Numeral;LLimbKernel$Numeral;LLimbKernel$Numeral;I)V" } : Jvm.MethodName)) ∈ tb := tb_2 164 rfl rfl
theorem m_c_yX4_powerModulo : (Jvm.Cond.code ({ cls := "LimbKernel$Reckoner", name := "powerModulo", desc := "(LLimbKernel$Numeral;LLimbKernel$Numeral;LLimbKernel$Numeral;LLimbKernel$Numeral;I)V" } : Jvm.MethodName) prog_6_method_6_code (11 : Nat) (Option.none : Option Jvm.ClassFile.FieldType)) ∈ tb := tb_2 165 rfl rfl
theorem m_l_RX4_56 : (Jvm.Cond.methodLink "LimbKernel$Reckoner" (56 : Nat) ({ cls := "LimbKernel$Reckoner", name := "isOne", desc := "(II)Z" } : Jvm.MethodName)) ∈ tb := tb_2 166 rfl rfl
theorem m_i_yX4_isOne : (Jvm.Cond.instanceMethod ({ cls := "LimbKernel$Reckoner", name := "isOne", desc := "(II)Z" } : Jvm.MethodName)) ∈ tb := tb_2 168 rfl rfl
theorem m_c_yX4_isOne : (Jvm.Cond.code ({ cls := "LimbKernel$Reckoner", name := "isOne", desc := "(II)Z" } : Jvm.MethodName) prog_6_method_7_code (3 : Nat) (Option.some Jvm.ClassFile.FieldType.boolean)) ∈ tb := tb_2 169 rfl rfl
theorem m_l_RX4_59 : (Jvm.Cond.methodLink "LimbKernel$Reckoner" (59 : Nat) ({ cls := "LimbKernel$Reckoner", name := "reduceToBase", desc := "(LLimbKernel$Numeral;II)V" } : Jvm.MethodName)) ∈ tb := tb_2 170 rfl rfl
theorem m_i_yX4_reduceToBase : (Jvm.Cond.instanceMethod ({ cls := "LimbKernel$Reckoner", name := "reduceToBase", desc := "(LLimbKernel$Numeral;II)V" } : Jvm.MethodName)) ∈ tb := tb_2 172 rfl rfl
theorem m_c_yX4_reduceToBase : (Jvm.Cond.code ({ cls := "LimbKernel$Reckoner", name := "reduceToBase", desc := "(LLimbKernel$Numeral;II)V" } : Jvm.MethodName) prog_6_method_10_code (5 : Nat) (Option.none : Option Jvm.ClassFile.FieldType)) ∈ tb := tb_2 173 rfl rfl
theorem m_l_RX4_69 : (Jvm.Cond.methodLink "LimbKernel$Reckoner" (69 : Nat) ({ cls := "java/util/Arrays", name := "fill", desc := "([IIII)V" } : Jvm.MethodName)) ∈ tb := tb_2 174 rfl rfl
theorem m_l_RX4_63 : (Jvm.Cond.methodLink "LimbKernel$Reckoner" (63 : Nat) ({ cls := "LimbKernel$Reckoner", name := "multiplyModulo", desc := "(III)V" } : Jvm.MethodName)) ∈ tb := tb_2 175 rfl rfl
theorem m_i_yX4_multiplyModulo : (Jvm.Cond.instanceMethod ({ cls := "LimbKernel$Reckoner", name := "multiplyModulo", desc := "(III)V" } : Jvm.MethodName)) ∈ tb := tb_2 177 rfl rfl
theorem m_c_yX4_multiplyModulo : (Jvm.Cond.code ({ cls := "LimbKernel$Reckoner", name := "multiplyModulo", desc := "(III)V" } : Jvm.MethodName) prog_6_method_11_code (5 : Nat) (Option.none : Option Jvm.ClassFile.FieldType)) ∈ tb := tb_2 178 rfl rfl
theorem m_l_RX4_83 : (Jvm.Cond.methodLink "LimbKernel$Reckoner" (83 : Nat) ({ cls := "LimbKernel$Reckoner", name := "addProduct", desc := "(IIIII)V" } : Jvm.MethodName)) ∈ tb := tb_2 179 rfl rfl
theorem m_l_RX4_66 : (Jvm.Cond.methodLink "LimbKernel$Reckoner" (66 : Nat) ({ cls := "LimbKernel$Reckoner", name := "hasBit", desc := "(II)Z" } : Jvm.MethodName)) ∈ tb := tb_2 180 rfl rfl
theorem m_i_yX4_hasBit : (Jvm.Cond.instanceMethod ({ cls := "LimbKernel$Reckoner", name := "hasBit", desc := "(II)Z" } : Jvm.MethodName)) ∈ tb := tb_2 182 rfl rfl
theorem m_c_yX4_hasBit : (Jvm.Cond.code ({ cls := "LimbKernel$Reckoner", name := "hasBit", desc := "(II)Z" } : Jvm.MethodName) prog_6_method_8_code (3 : Nat) (Option.some Jvm.ClassFile.FieldType.boolean)) ∈ tb := tb_2 183 rfl rfl
theorem m_l_RX5_229 : (Jvm.Cond.methodLink "LimbKernel" (229 : Nat) ({ cls := "LimbKernel", name := "settle", desc := "(LLimbKernel$Job;)V" } : Jvm.MethodName)) ∈ tb := tb_2 184 rfl rfl
theorem m_i_yX5_settle : (Jvm.Cond.instanceMethod ({ cls := "LimbKernel", name := "settle", desc := "(LLimbKernel$Job;)V" } : Jvm.MethodName)) ∈ tb := tb_2 186 rfl rfl
theorem m_c_yX5_settle : (Jvm.Cond.code ({ cls := "LimbKernel", name := "settle", desc := "(LLimbKernel$Job;)V" } : Jvm.MethodName) prog_1_method_33_code (2 : Nat) (Option.none : Option Jvm.ClassFile.FieldType)) ∈ tb := tb_2 187 rfl rfl
theorem m_l_RX5_170 : (Jvm.Cond.methodLink "LimbKernel" (170 : Nat) ({ cls := "LimbKernel", name := "giveUpRoom", desc := "(LLimbKernel$Job;)V" } : Jvm.MethodName)) ∈ tb := tb_2 188 rfl rfl
theorem m_i_yX5_giveUpRoom : (Jvm.Cond.instanceMethod ({ cls := "LimbKernel", name := "giveUpRoom", desc := "(LLimbKernel$Job;)V" } : Jvm.MethodName)) ∈ tb := tb_2 190 rfl rfl
theorem m_c_yX5_giveUpRoom : (Jvm.Cond.code ({ cls := "LimbKernel", name := "giveUpRoom", desc := "(LLimbKernel$Job;)V" } : Jvm.MethodName) prog_1_method_34_code (2 : Nat) (Option.none : Option Jvm.ClassFile.FieldType)) ∈ tb := tb_2 191 rfl rfl
theorem m_l_RX5_163 : (Jvm.Cond.methodLink "LimbKernel" (163 : Nat) ({ cls := "LimbKernel$Job", name := "isQueued", desc := "()Z" } : Jvm.MethodName)) ∈ tb := tb_2 192 rfl rfl
theorem m_i_yX0_isQueued : (Jvm.Cond.instanceMethod ({ cls := "LimbKernel$Job", name := "isQueued", desc := "()Z" } : Jvm.MethodName)) ∈ tb := tb_2 193 rfl rfl
theorem m_e_yX0_isQueued : (Jvm.Cond.selects "LimbKernel$Job" ({ cls := "LimbKernel$Job", name := "isQueued", desc := "()Z" } : Jvm.MethodName) ({ cls := "LimbKernel$Job", name := "isQueued", desc := "()Z" } : Jvm.MethodName)) ∈ tb := tb_2 194 rfl rfl
theorem m_c_yX0_isQueued : (Jvm.Cond.code ({ cls := "LimbKernel$Job", name := "isQueued", desc := "()Z" } : Jvm.MethodName) prog_2_method_3_code (1 : Nat) (Option.some Jvm.ClassFile.FieldType.boolean)) ∈ tb := tb_2 195 rfl rfl
theorem m_l_RL_59 : (Jvm.Cond.methodLink "LimbKernelLaw" (59 : Nat) ({ cls := "LimbKernel", name := "run", desc := "(I)I" } : Jvm.MethodName)) ∈ tb := tb_2 196 rfl rfl
theorem m_i_yX5_run : (Jvm.Cond.instanceMethod ({ cls := "LimbKernel", name := "run", desc := "(I)I" } : Jvm.MethodName)) ∈ tb := tb_2 197 rfl rfl
theorem m_e_yX5_run : (Jvm.Cond.selects "LimbKernel" ({ cls := "LimbKernel", name := "run", desc := "(I)I" } : Jvm.MethodName) ({ cls := "LimbKernel", name := "run", desc := "(I)I" } : Jvm.MethodName)) ∈ tb := tb_2 198 rfl rfl
theorem m_c_yX5_run : (Jvm.Cond.code ({ cls := "LimbKernel", name := "run", desc := "(I)I" } : Jvm.MethodName) prog_1_method_10_code (3 : Nat) (Option.some Jvm.ClassFile.FieldType.int)) ∈ tb := tb_2 199 rfl rfl
theorem m_l_RL_63 : (Jvm.Cond.methodLink "LimbKernelLaw" (63 : Nat) ({ cls := "LimbKernel", name := "jobState", desc := "(I)I" } : Jvm.MethodName)) ∈ tb := tb_2 200 rfl rfl
theorem m_i_yX5_jobState : (Jvm.Cond.instanceMethod ({ cls := "LimbKernel", name := "jobState", desc := "(I)I" } : Jvm.MethodName)) ∈ tb := tb_2 201 rfl rfl
theorem m_e_yX5_jobState : (Jvm.Cond.selects "LimbKernel" ({ cls := "LimbKernel", name := "jobState", desc := "(I)I" } : Jvm.MethodName) ({ cls := "LimbKernel", name := "jobState", desc := "(I)I" } : Jvm.MethodName)) ∈ tb := tb_2 202 rfl rfl
theorem m_c_yX5_jobState : (Jvm.Cond.code ({ cls := "LimbKernel", name := "jobState", desc := "(I)I" } : Jvm.MethodName) prog_1_method_11_code (2 : Nat) (Option.some Jvm.ClassFile.FieldType.int)) ∈ tb := tb_2 203 rfl rfl
theorem m_l_RX5_154 : (Jvm.Cond.methodLink "LimbKernel" (154 : Nat) ({ cls := "LimbKernel", name := "isJob", desc := "(I)Z" } : Jvm.MethodName)) ∈ tb := tb_2 204 rfl rfl
theorem m_i_yX5_isJob : (Jvm.Cond.instanceMethod ({ cls := "LimbKernel", name := "isJob", desc := "(I)Z" } : Jvm.MethodName)) ∈ tb := tb_2 206 rfl rfl
theorem m_c_yX5_isJob : (Jvm.Cond.code ({ cls := "LimbKernel", name := "isJob", desc := "(I)Z" } : Jvm.MethodName) prog_1_method_24_code (2 : Nat) (Option.some Jvm.ClassFile.FieldType.boolean)) ∈ tb := tb_2 207 rfl rfl
theorem m_l_RL_67 : (Jvm.Cond.methodLink "LimbKernelLaw" (67 : Nat) ({ cls := "LimbKernel", name := "jobResult", desc := "(I)I" } : Jvm.MethodName)) ∈ tb := tb_2 208 rfl rfl
theorem m_i_yX5_jobResult : (Jvm.Cond.instanceMethod ({ cls := "LimbKernel", name := "jobResult", desc := "(I)I" } : Jvm.MethodName)) ∈ tb := tb_2 209 rfl rfl
theorem m_e_yX5_jobResult : (Jvm.Cond.selects "LimbKernel" ({ cls := "LimbKernel", name := "jobResult", desc := "(I)I" } : Jvm.MethodName) ({ cls := "LimbKernel", name := "jobResult", desc := "(I)I" } : Jvm.MethodName)) ∈ tb := tb_2 210 rfl rfl
theorem m_c_yX5_jobResult : (Jvm.Cond.code ({ cls := "LimbKernel", name := "jobResult", desc := "(I)I" } : Jvm.MethodName) prog_1_method_12_code (2 : Nat) (Option.some Jvm.ClassFile.FieldType.int)) ∈ tb := tb_2 211 rfl rfl
theorem m_l_RL_71 : (Jvm.Cond.methodLink "LimbKernelLaw" (71 : Nat) ({ cls := "LimbKernel", name := "workLeft", desc := "(I)J" } : Jvm.MethodName)) ∈ tb := tb_2 212 rfl rfl
theorem m_i_yX5_workLeft : (Jvm.Cond.instanceMethod ({ cls := "LimbKernel", name := "workLeft", desc := "(I)J" } : Jvm.MethodName)) ∈ tb := tb_2 213 rfl rfl
theorem m_e_yX5_workLeft : (Jvm.Cond.selects "LimbKernel" ({ cls := "LimbKernel", name := "workLeft", desc := "(I)J" } : Jvm.MethodName) ({ cls := "LimbKernel", name := "workLeft", desc := "(I)J" } : Jvm.MethodName)) ∈ tb := tb_2 214 rfl rfl
theorem m_c_yX5_workLeft : (Jvm.Cond.code ({ cls := "LimbKernel", name := "workLeft", desc := "(I)J" } : Jvm.MethodName) prog_1_method_13_code (2 : Nat) (Option.some Jvm.ClassFile.FieldType.long)) ∈ tb := tb_2 215 rfl rfl
theorem m_k_RX5_161 : (Jvm.Cond.constantLong "LimbKernel" (161 : Nat) (-1 : Int64)) ∈ tb := tb_2 216 rfl rfl
theorem m_l_RL_76 : (Jvm.Cond.methodLink "LimbKernelLaw" (76 : Nat) ({ cls := "LimbKernel", name := "cancel", desc := "(I)Z" } : Jvm.MethodName)) ∈ tb := tb_2 217 rfl rfl
theorem m_i_yX5_cancel : (Jvm.Cond.instanceMethod ({ cls := "LimbKernel", name := "cancel", desc := "(I)Z" } : Jvm.MethodName)) ∈ tb := tb_2 218 rfl rfl
theorem m_e_yX5_cancel : (Jvm.Cond.selects "LimbKernel" ({ cls := "LimbKernel", name := "cancel", desc := "(I)Z" } : Jvm.MethodName) ({ cls := "LimbKernel", name := "cancel", desc := "(I)Z" } : Jvm.MethodName)) ∈ tb := tb_2 219 rfl rfl
theorem m_c_yX5_cancel : (Jvm.Cond.code ({ cls := "LimbKernel", name := "cancel", desc := "(I)Z" } : Jvm.MethodName) prog_1_method_14_code (3 : Nat) (Option.some Jvm.ClassFile.FieldType.boolean)) ∈ tb := tb_2 220 rfl rfl
theorem m_l_RX5_167 : (Jvm.Cond.methodLink "LimbKernel" (167 : Nat) ({ cls := "LimbKernel$Queue", name := "drop", desc := "(I)V" } : Jvm.MethodName)) ∈ tb := tb_2 221 rfl rfl
theorem m_i_yX3_drop : (Jvm.Cond.instanceMethod ({ cls := "LimbKernel$Queue", name := "drop", desc := "(I)V" } : Jvm.MethodName)) ∈ tb := tb_2 222 rfl rfl
theorem m_e_yX3_drop : (Jvm.Cond.selects "LimbKernel$Queue" ({ cls := "LimbKernel$Queue", name := "drop", desc := "(I)V" } : Jvm.MethodName) ({ cls := "LimbKernel$Queue", name := "drop", desc := "(I)V" } : Jvm.MethodName)) ∈ tb := tb_2 223 rfl rfl
theorem m_c_yX3_drop : (Jvm.Cond.code ({ cls := "LimbKernel$Queue", name := "drop", desc := "(I)V" } : Jvm.MethodName) prog_5_method_6_code (5 : Nat) (Option.none : Option Jvm.ClassFile.FieldType)) ∈ tb := tb_2 224 rfl rfl
theorem m_l_RX3_26 : (Jvm.Cond.methodLink "LimbKernel$Queue" (26 : Nat) ({ cls := "LimbKernel$Queue", name := "takeFirst", desc := "()I" } : Jvm.MethodName)) ∈ tb := tb_2 225 rfl rfl
theorem m_l_RX3_30 : (Jvm.Cond.methodLink "LimbKernel$Queue" (30 : Nat) ({ cls := "LimbKernel$Queue", name := "append", desc := "(I)V" } : Jvm.MethodName)) ∈ tb := tb_2 226 rfl rfl
theorem m_l_RL_80 : (Jvm.Cond.methodLink "LimbKernelLaw" (80 : Nat) ({ cls := "LimbKernel", name := "forget", desc := "(I)Z" } : Jvm.MethodName)) ∈ tb := tb_2 227 rfl rfl
theorem m_i_yX5_forget : (Jvm.Cond.instanceMethod ({ cls := "LimbKernel", name := "forget", desc := "(I)Z" } : Jvm.MethodName)) ∈ tb := tb_2 228 rfl rfl
theorem m_e_yX5_forget : (Jvm.Cond.selects "LimbKernel" ({ cls := "LimbKernel", name := "forget", desc := "(I)Z" } : Jvm.MethodName) ({ cls := "LimbKernel", name := "forget", desc := "(I)Z" } : Jvm.MethodName)) ∈ tb := tb_2 229 rfl rfl
theorem m_c_yX5_forget : (Jvm.Cond.code ({ cls := "LimbKernel", name := "forget", desc := "(I)Z" } : Jvm.MethodName) prog_1_method_15_code (2 : Nat) (Option.some Jvm.ClassFile.FieldType.boolean)) ∈ tb := tb_2 230 rfl rfl
theorem m_l_RL_84 : (Jvm.Cond.methodLink "LimbKernelLaw" (84 : Nat) ({ cls := "LimbKernel", name := "freeCells", desc := "()I" } : Jvm.MethodName)) ∈ tb := tb_2 231 rfl rfl
theorem m_i_yX5_freeCells : (Jvm.Cond.instanceMethod ({ cls := "LimbKernel", name := "freeCells", desc := "()I" } : Jvm.MethodName)) ∈ tb := tb_2 232 rfl rfl
theorem m_e_yX5_freeCells : (Jvm.Cond.selects "LimbKernel" ({ cls := "LimbKernel", name := "freeCells", desc := "()I" } : Jvm.MethodName) ({ cls := "LimbKernel", name := "freeCells", desc := "()I" } : Jvm.MethodName)) ∈ tb := tb_2 233 rfl rfl
theorem m_c_yX5_freeCells : (Jvm.Cond.code ({ cls := "LimbKernel", name := "freeCells", desc := "()I" } : Jvm.MethodName) prog_1_method_16_code (1 : Nat) (Option.some Jvm.ClassFile.FieldType.int)) ∈ tb := tb_2 234 rfl rfl
theorem m_l_RX5_174 : (Jvm.Cond.methodLink "LimbKernel" (174 : Nat) ({ cls := "LimbKernel$Memory", name := "freeLimbs", desc := "()I" } : Jvm.MethodName)) ∈ tb := tb_2 235 rfl rfl
theorem m_i_yX1_freeLimbs : (Jvm.Cond.instanceMethod ({ cls := "LimbKernel$Memory", name := "freeLimbs", desc := "()I" } : Jvm.MethodName)) ∈ tb := tb_2 236 rfl rfl
theorem m_e_yX1_freeLimbs : (Jvm.Cond.selects "LimbKernel$Memory" ({ cls := "LimbKernel$Memory", name := "freeLimbs", desc := "()I" } : Jvm.MethodName) ({ cls := "LimbKernel$Memory", name := "freeLimbs", desc := "()I" } : Jvm.MethodName)) ∈ tb := tb_2 237 rfl rfl
theorem m_c_yX1_freeLimbs : (Jvm.Cond.code ({ cls := "LimbKernel$Memory", name := "freeLimbs", desc := "()I" } : Jvm.MethodName) prog_3_method_7_code (3 : Nat) (Option.some Jvm.ClassFile.FieldType.int)) ∈ tb := tb_2 238 rfl rfl
theorem m_l_RL_88 : (Jvm.Cond.methodLink "LimbKernelLaw" (88 : Nat) ({ cls := "LimbKernel", name := "freeBlock", desc := "(II)I" } : Jvm.MethodName)) ∈ tb := tb_2 239 rfl rfl
theorem m_i_yX5_freeBlock : (Jvm.Cond.instanceMethod ({ cls := "LimbKernel", name := "freeBlock", desc := "(II)I" } : Jvm.MethodName)) ∈ tb := tb_3 0 rfl rfl
theorem m_e_yX5_freeBlock : (Jvm.Cond.selects "LimbKernel" ({ cls := "LimbKernel", name := "freeBlock", desc := "(II)I" } : Jvm.MethodName) ({ cls := "LimbKernel", name := "freeBlock", desc := "(II)I" } : Jvm.MethodName)) ∈ tb := tb_3 1 rfl rfl
theorem m_c_yX5_freeBlock : (Jvm.Cond.code ({ cls := "LimbKernel", name := "freeBlock", desc := "(II)I" } : Jvm.MethodName) prog_1_method_17_code (3 : Nat) (Option.some Jvm.ClassFile.FieldType.int)) ∈ tb := tb_3 2 rfl rfl
theorem m_l_RX5_183 : (Jvm.Cond.methodLink "LimbKernel" (183 : Nat) ({ cls := "LimbKernel$Memory", name := "addressOfFree", desc := "(II)I" } : Jvm.MethodName)) ∈ tb := tb_3 3 rfl rfl
theorem m_l_RL_92 : (Jvm.Cond.methodLink "LimbKernelLaw" (92 : Nat) ({ cls := "LimbKernel", name := "number", desc := "(II)I" } : Jvm.MethodName)) ∈ tb := tb_3 4 rfl rfl
theorem m_i_yX5_number : (Jvm.Cond.instanceMethod ({ cls := "LimbKernel", name := "number", desc := "(II)I" } : Jvm.MethodName)) ∈ tb := tb_3 5 rfl rfl
theorem m_e_yX5_number : (Jvm.Cond.selects "LimbKernel" ({ cls := "LimbKernel", name := "number", desc := "(II)I" } : Jvm.MethodName) ({ cls := "LimbKernel", name := "number", desc := "(II)I" } : Jvm.MethodName)) ∈ tb := tb_3 6 rfl rfl
theorem m_c_yX5_number : (Jvm.Cond.code ({ cls := "LimbKernel", name := "number", desc := "(II)I" } : Jvm.MethodName) prog_1_method_18_code (3 : Nat) (Option.some Jvm.ClassFile.FieldType.int)) ∈ tb := tb_3 7 rfl rfl
theorem m_l_RL_96 : (Jvm.Cond.methodLink "LimbKernelLaw" (96 : Nat) ({ cls := "LimbKernel", name := "count", desc := "(II)I" } : Jvm.MethodName)) ∈ tb := tb_3 8 rfl rfl
theorem m_i_yX5_count : (Jvm.Cond.instanceMethod ({ cls := "LimbKernel", name := "count", desc := "(II)I" } : Jvm.MethodName)) ∈ tb := tb_3 9 rfl rfl
theorem m_e_yX5_count : (Jvm.Cond.selects "LimbKernel" ({ cls := "LimbKernel", name := "count", desc := "(II)I" } : Jvm.MethodName) ({ cls := "LimbKernel", name := "count", desc := "(II)I" } : Jvm.MethodName)) ∈ tb := tb_3 10 rfl rfl
theorem m_c_yX5_count : (Jvm.Cond.code ({ cls := "LimbKernel", name := "count", desc := "(II)I" } : Jvm.MethodName) prog_1_method_19_code (3 : Nat) (Option.some Jvm.ClassFile.FieldType.int)) ∈ tb := tb_3 11 rfl rfl
theorem m_l_RX5_193 : (Jvm.Cond.methodLink "LimbKernel" (193 : Nat) ({ cls := "LimbKernel$Queue", name := "at", desc := "(I)I" } : Jvm.MethodName)) ∈ tb := tb_3 12 rfl rfl
theorem m_i_yX3_at : (Jvm.Cond.instanceMethod ({ cls := "LimbKernel$Queue", name := "at", desc := "(I)I" } : Jvm.MethodName)) ∈ tb := tb_3 13 rfl rfl
theorem m_e_yX3_at : (Jvm.Cond.selects "LimbKernel$Queue" ({ cls := "LimbKernel$Queue", name := "at", desc := "(I)I" } : Jvm.MethodName) ({ cls := "LimbKernel$Queue", name := "at", desc := "(I)I" } : Jvm.MethodName)) ∈ tb := tb_3 14 rfl rfl
theorem m_c_yX3_at : (Jvm.Cond.code ({ cls := "LimbKernel$Queue", name := "at", desc := "(I)I" } : Jvm.MethodName) prog_5_method_3_code (2 : Nat) (Option.some Jvm.ClassFile.FieldType.int)) ∈ tb := tb_3 15 rfl rfl
theorem m_l_RL_9 : (Jvm.Cond.methodLink "LimbKernelLaw" (9 : Nat) ({ cls := "LimbKernelLaw", name := "cell", desc := "([II)I" } : Jvm.MethodName)) ∈ tb := tb_3 16 rfl rfl
theorem m_s_yL_cell : (Jvm.Cond.static ({ cls := "LimbKernelLaw", name := "cell", desc := "([II)I" } : Jvm.MethodName)) ∈ tb := tb_3 17 rfl rfl
theorem m_c_yL_cell : (Jvm.Cond.code ({ cls := "LimbKernelLaw", name := "cell", desc := "([II)I" } : Jvm.MethodName) method_2_code (2 : Nat) (Option.some Jvm.ClassFile.FieldType.int)) ∈ tb := tb_3 18 rfl rfl
theorem m_l_RL_20 : (Jvm.Cond.methodLink "LimbKernelLaw" (20 : Nat) ({ cls := "LimbKernelModel", name := "<init>", desc := "(IIII)V" } : Jvm.MethodName)) ∈ tb := tb_3 21 rfl rfl
theorem m_i_yX6_init : (Jvm.Cond.instanceMethod ({ cls := "LimbKernelModel", name := "<init>", desc := "(IIII)V" } : Jvm.MethodName)) ∈ tb := tb_3 22 rfl rfl
theorem m_c_yX6_init : (Jvm.Cond.code ({ cls := "LimbKernelModel", name := "<init>", desc := "(IIII)V" } : Jvm.MethodName) prog_8_method_1_code (5 : Nat) (Option.none : Option Jvm.ClassFile.FieldType)) ∈ tb := tb_3 23 rfl rfl
theorem m_l_RX6_1 : (Jvm.Cond.methodLink "LimbKernelModel" (1 : Nat) ({ cls := "java/lang/Object", name := "<init>", desc := "()V" } : Jvm.MethodName)) ∈ tb := tb_3 24 rfl rfl
theorem m_l_RX6_81 : (Jvm.Cond.methodLink "LimbKernelModel" (81 : Nat) ({ cls := "LimbKernelModel", name := "within", desc := "(III)I" } : Jvm.MethodName)) ∈ tb := tb_3 25 rfl rfl
theorem m_s_yX6_within : (Jvm.Cond.static ({ cls := "LimbKernelModel", name := "within", desc := "(III)I" } : Jvm.MethodName)) ∈ tb := tb_3 26 rfl rfl
theorem m_c_yX6_within : (Jvm.Cond.code ({ cls := "LimbKernelModel", name := "within", desc := "(III)I" } : Jvm.MethodName) prog_8_method_2_code (3 : Nat) (Option.some Jvm.ClassFile.FieldType.int)) ∈ tb := tb_3 27 rfl rfl
theorem m_l_RX6_98 : (Jvm.Cond.methodLink "LimbKernelModel" (98 : Nat) ({ cls := "LimbKernelModel", name := "begin", desc := "()V" } : Jvm.MethodName)) ∈ tb := tb_3 28 rfl rfl
theorem m_i_yX6_begin : (Jvm.Cond.instanceMethod ({ cls := "LimbKernelModel", name := "begin", desc := "()V" } : Jvm.MethodName)) ∈ tb := tb_3 30 rfl rfl
theorem m_c_yX6_begin : (Jvm.Cond.code ({ cls := "LimbKernelModel", name := "begin", desc := "()V" } : Jvm.MethodName) prog_8_method_3_code (2 : Nat) (Option.none : Option Jvm.ClassFile.FieldType)) ∈ tb := tb_3 31 rfl rfl
theorem m_f_RX6_85 : (Jvm.Cond.fieldLink "LimbKernelModel" (85 : Nat) "LimbKernelModel" "poolLog" "I") ∈ tb := tb_3 32 rfl rfl
theorem m_f_RX6_89 : (Jvm.Cond.fieldLink "LimbKernelModel" (89 : Nat) "LimbKernelModel" "mostJobs" "I") ∈ tb := tb_3 33 rfl rfl
theorem m_f_RX6_92 : (Jvm.Cond.fieldLink "LimbKernelModel" (92 : Nat) "LimbKernelModel" "mostHandles" "I") ∈ tb := tb_3 34 rfl rfl
theorem m_f_RX6_95 : (Jvm.Cond.fieldLink "LimbKernelModel" (95 : Nat) "LimbKernelModel" "quantum" "I") ∈ tb := tb_3 35 rfl rfl
theorem m_f_RX6_7 : (Jvm.Cond.fieldLink "LimbKernelModel" (7 : Nat) "LimbKernelModel" "limbs" "[I") ∈ tb := tb_3 36 rfl rfl
theorem m_f_RX6_13 : (Jvm.Cond.fieldLink "LimbKernelModel" (13 : Nat) "LimbKernelModel" "freeOrder" "[I") ∈ tb := tb_3 37 rfl rfl
theorem m_f_RX6_16 : (Jvm.Cond.fieldLink "LimbKernelModel" (16 : Nat) "LimbKernelModel" "isNumber" "[Z") ∈ tb := tb_3 38 rfl rfl
theorem m_f_RX6_20 : (Jvm.Cond.fieldLink "LimbKernelModel" (20 : Nat) "LimbKernelModel" "size" "[I") ∈ tb := tb_3 39 rfl rfl
theorem m_f_RX6_23 : (Jvm.Cond.fieldLink "LimbKernelModel" (23 : Nat) "LimbKernelModel" "address" "[I") ∈ tb := tb_3 40 rfl rfl
theorem m_f_RX6_26 : (Jvm.Cond.fieldLink "LimbKernelModel" (26 : Nat) "LimbKernelModel" "order" "[I") ∈ tb := tb_3 41 rfl rfl
theorem m_f_RX6_29 : (Jvm.Cond.fieldLink "LimbKernelModel" (29 : Nat) "LimbKernelModel" "pins" "[I") ∈ tb := tb_3 42 rfl rfl
theorem m_f_RX6_32 : (Jvm.Cond.fieldLink "LimbKernelModel" (32 : Nat) "LimbKernelModel" "isOpen" "[Z") ∈ tb := tb_3 43 rfl rfl
theorem m_f_RX6_35 : (Jvm.Cond.fieldLink "LimbKernelModel" (35 : Nat) "LimbKernelModel" "state" "[I") ∈ tb := tb_3 44 rfl rfl
theorem m_f_RX6_38 : (Jvm.Cond.fieldLink "LimbKernelModel" (38 : Nat) "LimbKernelModel" "op" "[I") ∈ tb := tb_3 45 rfl rfl
theorem m_f_RX6_41 : (Jvm.Cond.fieldLink "LimbKernelModel" (41 : Nat) "LimbKernelModel" "first" "[I") ∈ tb := tb_3 46 rfl rfl
theorem m_f_RX6_44 : (Jvm.Cond.fieldLink "LimbKernelModel" (44 : Nat) "LimbKernelModel" "second" "[I") ∈ tb := tb_3 47 rfl rfl
theorem m_f_RX6_47 : (Jvm.Cond.fieldLink "LimbKernelModel" (47 : Nat) "LimbKernelModel" "third" "[I") ∈ tb := tb_3 48 rfl rfl
theorem m_f_RX6_50 : (Jvm.Cond.fieldLink "LimbKernelModel" (50 : Nat) "LimbKernelModel" "work" "[J") ∈ tb := tb_3 49 rfl rfl
theorem m_f_RX6_54 : (Jvm.Cond.fieldLink "LimbKernelModel" (54 : Nat) "LimbKernelModel" "result" "[I") ∈ tb := tb_3 50 rfl rfl
theorem m_f_RX6_57 : (Jvm.Cond.fieldLink "LimbKernelModel" (57 : Nat) "LimbKernelModel" "roomAddress" "[I") ∈ tb := tb_3 51 rfl rfl
theorem m_f_RX6_60 : (Jvm.Cond.fieldLink "LimbKernelModel" (60 : Nat) "LimbKernelModel" "roomOrder" "[I") ∈ tb := tb_3 52 rfl rfl
theorem m_f_RX6_63 : (Jvm.Cond.fieldLink "LimbKernelModel" (63 : Nat) "LimbKernelModel" "queue" "[I") ∈ tb := tb_3 53 rfl rfl
theorem m_f_RX6_101 : (Jvm.Cond.fieldLink "LimbKernelModel" (101 : Nat) "LimbKernelModel" "queued" "I") ∈ tb := tb_3 54 rfl rfl
theorem m_f_RX6_104 : (Jvm.Cond.fieldLink "LimbKernelModel" (104 : Nat) "LimbKernelModel" "turns" "I") ∈ tb := tb_3 55 rfl rfl
theorem m_f_RX6_66 : (Jvm.Cond.fieldLink "LimbKernelModel" (66 : Nat) "LimbKernelModel" "u" "[I") ∈ tb := tb_3 56 rfl rfl
theorem m_f_RX6_69 : (Jvm.Cond.fieldLink "LimbKernelModel" (69 : Nat) "LimbKernelModel" "v" "[I") ∈ tb := tb_3 57 rfl rfl
theorem m_f_RX6_72 : (Jvm.Cond.fieldLink "LimbKernelModel" (72 : Nat) "LimbKernelModel" "q" "[I") ∈ tb := tb_3 58 rfl rfl
theorem m_f_RX6_75 : (Jvm.Cond.fieldLink "LimbKernelModel" (75 : Nat) "LimbKernelModel" "x" "[I") ∈ tb := tb_3 59 rfl rfl
theorem m_f_RX6_78 : (Jvm.Cond.fieldLink "LimbKernelModel" (78 : Nat) "LimbKernelModel" "\x72" "[I") ∈ tb := tb_3 60 rfl rfl
theorem m_f_RX6_179 : (Jvm.Cond.fieldLink "LimbKernelModel" (179 : Nat) "LimbKernelModel" "uSize" "I") ∈ tb := tb_3 61 rfl rfl
theorem m_f_RX6_182 : (Jvm.Cond.fieldLink "LimbKernelModel" (182 : Nat) "LimbKernelModel" "vSize" "I") ∈ tb := tb_3 62 rfl rfl
theorem m_f_RX6_197 : (Jvm.Cond.fieldLink "LimbKernelModel" (197 : Nat) "LimbKernelModel" "xSize" "I") ∈ tb := tb_3 63 rfl rfl
theorem m_f_RX6_200 : (Jvm.Cond.fieldLink "LimbKernelModel" (200 : Nat) "LimbKernelModel" "rSize" "I") ∈ tb := tb_3 64 rfl rfl
theorem m_l_RL_25 : (Jvm.Cond.methodLink "LimbKernelLaw" (25 : Nat) ({ cls := "LimbKernelModel", name := "init", desc := "()I" } : Jvm.MethodName)) ∈ tb := tb_3 134 rfl rfl
theorem m_i_yX6_init_ : (Jvm.Cond.instanceMethod ({ cls := "LimbKernelModel", name := "init", desc := "()I" } : Jvm.MethodName)) ∈ tb := tb_3 135 rfl rfl
theorem m_e_yX6_init_ : (Jvm.Cond.selects "LimbKernelModel" ({ cls := "LimbKernelModel", name := "init", desc := "()I" } : Jvm.MethodName) ({ cls := "LimbKernelModel", name := "init", desc := "()I" } : Jvm.MethodName)) ∈ tb := tb_3 136 rfl rfl
theorem m_c_yX6_init_ : (Jvm.Cond.code ({ cls := "LimbKernelModel", name := "init", desc := "()I" } : Jvm.MethodName) prog_8_method_4_code (2 : Nat) (Option.some Jvm.ClassFile.FieldType.int)) ∈ tb := tb_3 137 rfl rfl
theorem m_l_RX6_107 : (Jvm.Cond.methodLink "LimbKernelModel" (107 : Nat) ({ cls := "LimbKernelModel", name := "handlesInUse", desc := "()I" } : Jvm.MethodName)) ∈ tb := tb_3 138 rfl rfl
theorem m_i_yX6_handlesInUse : (Jvm.Cond.instanceMethod ({ cls := "LimbKernelModel", name := "handlesInUse", desc := "()I" } : Jvm.MethodName)) ∈ tb := tb_3 140 rfl rfl
theorem m_c_yX6_handlesInUse : (Jvm.Cond.code ({ cls := "LimbKernelModel", name := "handlesInUse", desc := "()I" } : Jvm.MethodName) prog_8_method_5_code (3 : Nat) (Option.some Jvm.ClassFile.FieldType.int)) ∈ tb := tb_3 141 rfl rfl
theorem m_l_RX6_111 : (Jvm.Cond.methodLink "LimbKernelModel" (111 : Nat) ({ cls := "LimbKernelModel", name := "jobsThere", desc := "()I" } : Jvm.MethodName)) ∈ tb := tb_3 142 rfl rfl
theorem m_i_yX6_jobsThere : (Jvm.Cond.instanceMethod ({ cls := "LimbKernelModel", name := "jobsThere", desc := "()I" } : Jvm.MethodName)) ∈ tb := tb_3 144 rfl rfl
theorem m_c_yX6_jobsThere : (Jvm.Cond.code ({ cls := "LimbKernelModel", name := "jobsThere", desc := "()I" } : Jvm.MethodName) prog_8_method_6_code (3 : Nat) (Option.some Jvm.ClassFile.FieldType.int)) ∈ tb := tb_3 145 rfl rfl
theorem m_l_RL_30 : (Jvm.Cond.methodLink "LimbKernelLaw" (30 : Nat) ({ cls := "LimbKernelModel", name := "newNumber", desc := "(I)I" } : Jvm.MethodName)) ∈ tb := tb_3 146 rfl rfl
theorem m_i_yX6_newNumber : (Jvm.Cond.instanceMethod ({ cls := "LimbKernelModel", name := "newNumber", desc := "(I)I" } : Jvm.MethodName)) ∈ tb := tb_3 147 rfl rfl
theorem m_e_yX6_newNumber : (Jvm.Cond.selects "LimbKernelModel" ({ cls := "LimbKernelModel", name := "newNumber", desc := "(I)I" } : Jvm.MethodName) ({ cls := "LimbKernelModel", name := "newNumber", desc := "(I)I" } : Jvm.MethodName)) ∈ tb := tb_3 148 rfl rfl
theorem m_c_yX6_newNumber : (Jvm.Cond.code ({ cls := "LimbKernelModel", name := "newNumber", desc := "(I)I" } : Jvm.MethodName) prog_8_method_13_code (4 : Nat) (Option.some Jvm.ClassFile.FieldType.int)) ∈ tb := tb_3 149 rfl rfl
theorem m_l_RX6_114 : (Jvm.Cond.methodLink "LimbKernelModel" (114 : Nat) ({ cls := "LimbKernelModel", name := "pool", desc := "()I" } : Jvm.MethodName)) ∈ tb := tb_3 150 rfl rfl
theorem m_i_yX6_pool : (Jvm.Cond.instanceMethod ({ cls := "LimbKernelModel", name := "pool", desc := "()I" } : Jvm.MethodName)) ∈ tb := tb_3 152 rfl rfl
theorem m_c_yX6_pool : (Jvm.Cond.code ({ cls := "LimbKernelModel", name := "pool", desc := "()I" } : Jvm.MethodName) prog_8_method_7_code (1 : Nat) (Option.some Jvm.ClassFile.FieldType.int)) ∈ tb := tb_3 153 rfl rfl
theorem m_l_RX6_121 : (Jvm.Cond.methodLink "LimbKernelModel" (121 : Nat) ({ cls := "LimbKernelModel", name := "freeHandle", desc := "()I" } : Jvm.MethodName)) ∈ tb := tb_3 154 rfl rfl
theorem m_i_yX6_freeHandle : (Jvm.Cond.instanceMethod ({ cls := "LimbKernelModel", name := "freeHandle", desc := "()I" } : Jvm.MethodName)) ∈ tb := tb_3 156 rfl rfl
theorem m_c_yX6_freeHandle : (Jvm.Cond.code ({ cls := "LimbKernelModel", name := "freeHandle", desc := "()I" } : Jvm.MethodName) prog_8_method_11_code (2 : Nat) (Option.some Jvm.ClassFile.FieldType.int)) ∈ tb := tb_3 157 rfl rfl
theorem m_l_RX6_117 : (Jvm.Cond.methodLink "LimbKernelModel" (117 : Nat) ({ cls := "LimbKernelModel", name := "orderFor", desc := "(I)I" } : Jvm.MethodName)) ∈ tb := tb_3 158 rfl rfl
theorem m_s_yX6_orderFor : (Jvm.Cond.static ({ cls := "LimbKernelModel", name := "orderFor", desc := "(I)I" } : Jvm.MethodName)) ∈ tb := tb_3 159 rfl rfl
theorem m_c_yX6_orderFor : (Jvm.Cond.code ({ cls := "LimbKernelModel", name := "orderFor", desc := "(I)I" } : Jvm.MethodName) prog_8_method_8_code (2 : Nat) (Option.some Jvm.ClassFile.FieldType.int)) ∈ tb := tb_3 160 rfl rfl
theorem m_l_RX6_124 : (Jvm.Cond.methodLink "LimbKernelModel" (124 : Nat) ({ cls := "LimbKernelModel", name := "give", desc := "(I)I" } : Jvm.MethodName)) ∈ tb := tb_3 161 rfl rfl
theorem m_i_yX6_give : (Jvm.Cond.instanceMethod ({ cls := "LimbKernelModel", name := "give", desc := "(I)I" } : Jvm.MethodName)) ∈ tb := tb_3 163 rfl rfl
theorem m_c_yX6_give : (Jvm.Cond.code ({ cls := "LimbKernelModel", name := "give", desc := "(I)I" } : Jvm.MethodName) prog_8_method_9_code (4 : Nat) (Option.some Jvm.ClassFile.FieldType.int)) ∈ tb := tb_3 164 rfl rfl
theorem m_l_RX6_127 : (Jvm.Cond.methodLink "LimbKernelModel" (127 : Nat) ({ cls := "LimbKernelModel", name := "make", desc := "(III)V" } : Jvm.MethodName)) ∈ tb := tb_3 165 rfl rfl
theorem m_i_yX6_make : (Jvm.Cond.instanceMethod ({ cls := "LimbKernelModel", name := "make", desc := "(III)V" } : Jvm.MethodName)) ∈ tb := tb_3 167 rfl rfl
theorem m_c_yX6_make : (Jvm.Cond.code ({ cls := "LimbKernelModel", name := "make", desc := "(III)V" } : Jvm.MethodName) prog_8_method_12_code (5 : Nat) (Option.none : Option Jvm.ClassFile.FieldType)) ∈ tb := tb_3 168 rfl rfl
theorem m_l_RL_35 : (Jvm.Cond.methodLink "LimbKernelLaw" (35 : Nat) ({ cls := "LimbKernelModel", name := "setLimb", desc := "(III)Z" } : Jvm.MethodName)) ∈ tb := tb_3 169 rfl rfl
theorem m_i_yX6_setLimb : (Jvm.Cond.instanceMethod ({ cls := "LimbKernelModel", name := "setLimb", desc := "(III)Z" } : Jvm.MethodName)) ∈ tb := tb_3 170 rfl rfl
theorem m_e_yX6_setLimb : (Jvm.Cond.selects "LimbKernelModel" ({ cls := "LimbKernelModel", name := "setLimb", desc := "(III)Z" } : Jvm.MethodName) ({ cls := "LimbKernelModel", name := "setLimb", desc := "(III)Z" } : Jvm.MethodName)) ∈ tb := tb_3 171 rfl rfl
theorem m_c_yX6_setLimb : (Jvm.Cond.code ({ cls := "LimbKernelModel", name := "setLimb", desc := "(III)Z" } : Jvm.MethodName) prog_8_method_15_code (5 : Nat) (Option.some Jvm.ClassFile.FieldType.boolean)) ∈ tb := tb_3 172 rfl rfl
theorem m_l_RX6_131 : (Jvm.Cond.methodLink "LimbKernelModel" (131 : Nat) ({ cls := "LimbKernelModel", name := "isThere", desc := "(I)Z" } : Jvm.MethodName)) ∈ tb := tb_3 173 rfl rfl
theorem m_i_yX6_isThere : (Jvm.Cond.instanceMethod ({ cls := "LimbKernelModel", name := "isThere", desc := "(I)Z" } : Jvm.MethodName)) ∈ tb := tb_3 175 rfl rfl
theorem m_c_yX6_isThere : (Jvm.Cond.code ({ cls := "LimbKernelModel", name := "isThere", desc := "(I)Z" } : Jvm.MethodName) prog_8_method_14_code (2 : Nat) (Option.some Jvm.ClassFile.FieldType.boolean)) ∈ tb := tb_3 176 rfl rfl
theorem m_l_RL_40 : (Jvm.Cond.methodLink "LimbKernelLaw" (40 : Nat) ({ cls := "LimbKernelModel", name := "getLimb", desc := "(II)I" } : Jvm.MethodName)) ∈ tb := tb_3 177 rfl rfl
theorem m_i_yX6_getLimb : (Jvm.Cond.instanceMethod ({ cls := "LimbKernelModel", name := "getLimb", desc := "(II)I" } : Jvm.MethodName)) ∈ tb := tb_3 178 rfl rfl
theorem m_e_yX6_getLimb : (Jvm.Cond.selects "LimbKernelModel" ({ cls := "LimbKernelModel", name := "getLimb", desc := "(II)I" } : Jvm.MethodName) ({ cls := "LimbKernelModel", name := "getLimb", desc := "(II)I" } : Jvm.MethodName)) ∈ tb := tb_3 179 rfl rfl
theorem m_c_yX6_getLimb : (Jvm.Cond.code ({ cls := "LimbKernelModel", name := "getLimb", desc := "(II)I" } : Jvm.MethodName) prog_8_method_16_code (3 : Nat) (Option.some Jvm.ClassFile.FieldType.int)) ∈ tb := tb_3 180 rfl rfl
theorem m_l_RL_44 : (Jvm.Cond.methodLink "LimbKernelLaw" (44 : Nat) ({ cls := "LimbKernelModel", name := "sizeOf", desc := "(I)I" } : Jvm.MethodName)) ∈ tb := tb_3 181 rfl rfl
theorem m_i_yX6_sizeOf : (Jvm.Cond.instanceMethod ({ cls := "LimbKernelModel", name := "sizeOf", desc := "(I)I" } : Jvm.MethodName)) ∈ tb := tb_3 182 rfl rfl
theorem m_e_yX6_sizeOf : (Jvm.Cond.selects "LimbKernelModel" ({ cls := "LimbKernelModel", name := "sizeOf", desc := "(I)I" } : Jvm.MethodName) ({ cls := "LimbKernelModel", name := "sizeOf", desc := "(I)I" } : Jvm.MethodName)) ∈ tb := tb_3 183 rfl rfl
theorem m_c_yX6_sizeOf : (Jvm.Cond.code ({ cls := "LimbKernelModel", name := "sizeOf", desc := "(I)I" } : Jvm.MethodName) prog_8_method_17_code (2 : Nat) (Option.some Jvm.ClassFile.FieldType.int)) ∈ tb := tb_3 184 rfl rfl
theorem m_l_RL_49 : (Jvm.Cond.methodLink "LimbKernelLaw" (49 : Nat) ({ cls := "LimbKernelModel", name := "release", desc := "(I)Z" } : Jvm.MethodName)) ∈ tb := tb_3 185 rfl rfl
theorem m_i_yX6_release : (Jvm.Cond.instanceMethod ({ cls := "LimbKernelModel", name := "release", desc := "(I)Z" } : Jvm.MethodName)) ∈ tb := tb_3 186 rfl rfl
theorem m_e_yX6_release : (Jvm.Cond.selects "LimbKernelModel" ({ cls := "LimbKernelModel", name := "release", desc := "(I)Z" } : Jvm.MethodName) ({ cls := "LimbKernelModel", name := "release", desc := "(I)Z" } : Jvm.MethodName)) ∈ tb := tb_3 187 rfl rfl
theorem m_c_yX6_release : (Jvm.Cond.code ({ cls := "LimbKernelModel", name := "release", desc := "(I)Z" } : Jvm.MethodName) prog_8_method_19_code (2 : Nat) (Option.some Jvm.ClassFile.FieldType.boolean)) ∈ tb := tb_3 188 rfl rfl
theorem m_l_RX6_139 : (Jvm.Cond.methodLink "LimbKernelModel" (139 : Nat) ({ cls := "LimbKernelModel", name := "go", desc := "(I)V" } : Jvm.MethodName)) ∈ tb := tb_3 189 rfl rfl
theorem m_i_yX6_go : (Jvm.Cond.instanceMethod ({ cls := "LimbKernelModel", name := "go", desc := "(I)V" } : Jvm.MethodName)) ∈ tb := tb_3 191 rfl rfl
theorem m_c_yX6_go : (Jvm.Cond.code ({ cls := "LimbKernelModel", name := "go", desc := "(I)V" } : Jvm.MethodName) prog_8_method_18_code (3 : Nat) (Option.none : Option Jvm.ClassFile.FieldType)) ∈ tb := tb_3 192 rfl rfl
theorem m_l_RX6_135 : (Jvm.Cond.methodLink "LimbKernelModel" (135 : Nat) ({ cls := "LimbKernelModel", name := "free", desc := "(II)V" } : Jvm.MethodName)) ∈ tb := tb_3 193 rfl rfl
theorem m_i_yX6_free : (Jvm.Cond.instanceMethod ({ cls := "LimbKernelModel", name := "free", desc := "(II)V" } : Jvm.MethodName)) ∈ tb := tb_3 195 rfl rfl
theorem m_c_yX6_free : (Jvm.Cond.code ({ cls := "LimbKernelModel", name := "free", desc := "(II)V" } : Jvm.MethodName) prog_8_method_10_code (7 : Nat) (Option.none : Option Jvm.ClassFile.FieldType)) ∈ tb := tb_3 196 rfl rfl
theorem m_l_RL_54 : (Jvm.Cond.methodLink "LimbKernelLaw" (54 : Nat) ({ cls := "LimbKernelModel", name := "submit", desc := "(IIII)I" } : Jvm.MethodName)) ∈ tb := tb_3 197 rfl rfl
theorem m_i_yX6_submit : (Jvm.Cond.instanceMethod ({ cls := "LimbKernelModel", name := "submit", desc := "(IIII)I" } : Jvm.MethodName)) ∈ tb := tb_3 198 rfl rfl
theorem m_e_yX6_submit : (Jvm.Cond.selects "LimbKernelModel" ({ cls := "LimbKernelModel", name := "submit", desc := "(IIII)I" } : Jvm.MethodName) ({ cls := "LimbKernelModel", name := "submit", desc := "(IIII)I" } : Jvm.MethodName)) ∈ tb := tb_3 199 rfl rfl
theorem m_c_yX6_submit : (Jvm.Cond.code ({ cls := "LimbKernelModel", name := "submit", desc := "(IIII)I" } : Jvm.MethodName) prog_8_method_22_code (13 : Nat) (Option.some Jvm.ClassFile.FieldType.int)) ∈ tb := tb_3 200 rfl rfl
theorem m_l_RX6_143 : (Jvm.Cond.methodLink "LimbKernelModel" (143 : Nat) ({ cls := "LimbKernelModel", name := "isOperand", desc := "(I)Z" } : Jvm.MethodName)) ∈ tb := tb_3 201 rfl rfl
theorem m_i_yX6_isOperand : (Jvm.Cond.instanceMethod ({ cls := "LimbKernelModel", name := "isOperand", desc := "(I)Z" } : Jvm.MethodName)) ∈ tb := tb_3 203 rfl rfl
theorem m_c_yX6_isOperand : (Jvm.Cond.code ({ cls := "LimbKernelModel", name := "isOperand", desc := "(I)Z" } : Jvm.MethodName) prog_8_method_20_code (2 : Nat) (Option.some Jvm.ClassFile.FieldType.boolean)) ∈ tb := tb_3 204 rfl rfl
theorem m_l_RX6_146 : (Jvm.Cond.methodLink "LimbKernelModel" (146 : Nat) ({ cls := "LimbKernelModel", name := "length", desc := "(I)I" } : Jvm.MethodName)) ∈ tb := tb_3 205 rfl rfl
theorem m_i_yX6_length : (Jvm.Cond.instanceMethod ({ cls := "LimbKernelModel", name := "length", desc := "(I)I" } : Jvm.MethodName)) ∈ tb := tb_3 207 rfl rfl
theorem m_c_yX6_length : (Jvm.Cond.code ({ cls := "LimbKernelModel", name := "length", desc := "(I)I" } : Jvm.MethodName) prog_8_method_21_code (3 : Nat) (Option.some Jvm.ClassFile.FieldType.int)) ∈ tb := tb_3 208 rfl rfl
theorem m_k_RX6_149 : (Jvm.Cond.constantLong "LimbKernelModel" (149 : Nat) (31 : Int64)) ∈ tb := tb_3 209 rfl rfl
theorem m_k_RX6_151 : (Jvm.Cond.constantLong "LimbKernelModel" (151 : Nat) (1922 : Int64)) ∈ tb := tb_3 210 rfl rfl
theorem m_l_RL_58 : (Jvm.Cond.methodLink "LimbKernelLaw" (58 : Nat) ({ cls := "LimbKernelModel", name := "tick", desc := "()I" } : Jvm.MethodName)) ∈ tb := tb_3 211 rfl rfl
theorem m_i_yX6_tick : (Jvm.Cond.instanceMethod ({ cls := "LimbKernelModel", name := "tick", desc := "()I" } : Jvm.MethodName)) ∈ tb := tb_3 212 rfl rfl
theorem m_e_yX6_tick : (Jvm.Cond.selects "LimbKernelModel" ({ cls := "LimbKernelModel", name := "tick", desc := "()I" } : Jvm.MethodName) ({ cls := "LimbKernelModel", name := "tick", desc := "()I" } : Jvm.MethodName)) ∈ tb := tb_3 213 rfl rfl
theorem m_c_yX6_tick : (Jvm.Cond.code ({ cls := "LimbKernelModel", name := "tick", desc := "()I" } : Jvm.MethodName) prog_8_method_28_code (3 : Nat) (Option.some Jvm.ClassFile.FieldType.int)) ∈ tb := tb_3 214 rfl rfl
theorem m_l_RX6_162 : (Jvm.Cond.methodLink "LimbKernelModel" (162 : Nat) ({ cls := "LimbKernelModel", name := "start", desc := "(I)V" } : Jvm.MethodName)) ∈ tb := tb_3 215 rfl rfl
theorem m_i_yX6_start : (Jvm.Cond.instanceMethod ({ cls := "LimbKernelModel", name := "start", desc := "(I)V" } : Jvm.MethodName)) ∈ tb := tb_3 217 rfl rfl
theorem m_c_yX6_start : (Jvm.Cond.code ({ cls := "LimbKernelModel", name := "start", desc := "(I)V" } : Jvm.MethodName) prog_8_method_25_code (7 : Nat) (Option.none : Option Jvm.ClassFile.FieldType)) ∈ tb := tb_3 218 rfl rfl
theorem m_l_RX6_153 : (Jvm.Cond.methodLink "LimbKernelModel" (153 : Nat) ({ cls := "LimbKernelModel", name := "resultSize", desc := "(I)I" } : Jvm.MethodName)) ∈ tb := tb_3 219 rfl rfl
theorem m_i_yX6_resultSize : (Jvm.Cond.instanceMethod ({ cls := "LimbKernelModel", name := "resultSize", desc := "(I)I" } : Jvm.MethodName)) ∈ tb := tb_3 221 rfl rfl
theorem m_c_yX6_resultSize : (Jvm.Cond.code ({ cls := "LimbKernelModel", name := "resultSize", desc := "(I)I" } : Jvm.MethodName) prog_8_method_23_code (4 : Nat) (Option.some Jvm.ClassFile.FieldType.int)) ∈ tb := tb_3 222 rfl rfl
theorem m_l_RX6_156 : (Jvm.Cond.methodLink "LimbKernelModel" (156 : Nat) ({ cls := "LimbKernelModel", name := "roomSize", desc := "(I)I" } : Jvm.MethodName)) ∈ tb := tb_3 223 rfl rfl
theorem m_i_yX6_roomSize : (Jvm.Cond.instanceMethod ({ cls := "LimbKernelModel", name := "roomSize", desc := "(I)I" } : Jvm.MethodName)) ∈ tb := tb_3 225 rfl rfl
theorem m_c_yX6_roomSize : (Jvm.Cond.code ({ cls := "LimbKernelModel", name := "roomSize", desc := "(I)I" } : Jvm.MethodName) prog_8_method_24_code (4 : Nat) (Option.some Jvm.ClassFile.FieldType.int)) ∈ tb := tb_3 226 rfl rfl
theorem m_l_RX6_165 : (Jvm.Cond.methodLink "LimbKernelModel" (165 : Nat) ({ cls := "LimbKernelModel", name := "reckon", desc := "(I)V" } : Jvm.MethodName)) ∈ tb := tb_3 227 rfl rfl
theorem m_i_yX6_reckon : (Jvm.Cond.instanceMethod ({ cls := "LimbKernelModel", name := "reckon", desc := "(I)V" } : Jvm.MethodName)) ∈ tb := tb_3 229 rfl rfl
theorem m_c_yX6_reckon : (Jvm.Cond.code ({ cls := "LimbKernelModel", name := "reckon", desc := "(I)V" } : Jvm.MethodName) prog_8_method_48_code (5 : Nat) (Option.none : Option Jvm.ClassFile.FieldType)) ∈ tb := tb_3 230 rfl rfl
theorem m_l_RX6_203 : (Jvm.Cond.methodLink "LimbKernelModel" (203 : Nat) ({ cls := "LimbKernelModel", name := "loadU", desc := "(I)V" } : Jvm.MethodName)) ∈ tb := tb_3 231 rfl rfl
theorem m_i_yX6_loadU : (Jvm.Cond.instanceMethod ({ cls := "LimbKernelModel", name := "loadU", desc := "(I)V" } : Jvm.MethodName)) ∈ tb := tb_3 233 rfl rfl
theorem m_c_yX6_loadU : (Jvm.Cond.code ({ cls := "LimbKernelModel", name := "loadU", desc := "(I)V" } : Jvm.MethodName) prog_8_method_40_code (3 : Nat) (Option.none : Option Jvm.ClassFile.FieldType)) ∈ tb := tb_3 234 rfl rfl
theorem m_l_RX6_206 : (Jvm.Cond.methodLink "LimbKernelModel" (206 : Nat) ({ cls := "LimbKernelModel", name := "uToR", desc := "()V" } : Jvm.MethodName)) ∈ tb := tb_3 235 rfl rfl
theorem m_i_yX6_uToR : (Jvm.Cond.instanceMethod ({ cls := "LimbKernelModel", name := "uToR", desc := "()V" } : Jvm.MethodName)) ∈ tb := tb_3 237 rfl rfl
theorem m_c_yX6_uToR : (Jvm.Cond.code ({ cls := "LimbKernelModel", name := "uToR", desc := "()V" } : Jvm.MethodName) prog_8_method_47_code (2 : Nat) (Option.none : Option Jvm.ClassFile.FieldType)) ∈ tb := tb_3 238 rfl rfl
theorem m_l_RX6_209 : (Jvm.Cond.methodLink "LimbKernelModel" (209 : Nat) ({ cls := "LimbKernelModel", name := "times", desc := "(Z)V" } : Jvm.MethodName)) ∈ tb := tb_3 239 rfl rfl
theorem m_i_yX6_times : (Jvm.Cond.instanceMethod ({ cls := "LimbKernelModel", name := "times", desc := "(Z)V" } : Jvm.MethodName)) ∈ tb := tb_4 1 rfl rfl
theorem m_c_yX6_times : (Jvm.Cond.code ({ cls := "LimbKernelModel", name := "times", desc := "(Z)V" } : Jvm.MethodName) prog_8_method_45_code (9 : Nat) (Option.none : Option Jvm.ClassFile.FieldType)) ∈ tb := tb_4 2 rfl rfl
theorem m_k_RX6_189 : (Jvm.Cond.constantLong "LimbKernelModel" (189 : Nat) (2147483647 : Int64)) ∈ tb := tb_4 3 rfl rfl
theorem m_l_RX6_213 : (Jvm.Cond.methodLink "LimbKernelModel" (213 : Nat) ({ cls := "LimbKernelModel", name := "putU", desc := "(I)V" } : Jvm.MethodName)) ∈ tb := tb_4 4 rfl rfl
theorem m_i_yX6_putU : (Jvm.Cond.instanceMethod ({ cls := "LimbKernelModel", name := "putU", desc := "(I)V" } : Jvm.MethodName)) ∈ tb := tb_4 6 rfl rfl
theorem m_c_yX6_putU : (Jvm.Cond.code ({ cls := "LimbKernelModel", name := "putU", desc := "(I)V" } : Jvm.MethodName) prog_8_method_46_code (3 : Nat) (Option.none : Option Jvm.ClassFile.FieldType)) ∈ tb := tb_4 7 rfl rfl
theorem m_l_RX6_216 : (Jvm.Cond.methodLink "LimbKernelModel" (216 : Nat) ({ cls := "LimbKernelModel", name := "loadV", desc := "(I)V" } : Jvm.MethodName)) ∈ tb := tb_4 8 rfl rfl
theorem m_i_yX6_loadV : (Jvm.Cond.instanceMethod ({ cls := "LimbKernelModel", name := "loadV", desc := "(I)V" } : Jvm.MethodName)) ∈ tb := tb_4 10 rfl rfl
theorem m_c_yX6_loadV : (Jvm.Cond.code ({ cls := "LimbKernelModel", name := "loadV", desc := "(I)V" } : Jvm.MethodName) prog_8_method_41_code (3 : Nat) (Option.none : Option Jvm.ClassFile.FieldType)) ∈ tb := tb_4 11 rfl rfl
theorem m_l_RX6_219 : (Jvm.Cond.methodLink "LimbKernelModel" (219 : Nat) ({ cls := "LimbKernelModel", name := "divide", desc := "()V" } : Jvm.MethodName)) ∈ tb := tb_4 12 rfl rfl
theorem m_i_yX6_divide : (Jvm.Cond.instanceMethod ({ cls := "LimbKernelModel", name := "divide", desc := "()V" } : Jvm.MethodName)) ∈ tb := tb_4 14 rfl rfl
theorem m_c_yX6_divide : (Jvm.Cond.code ({ cls := "LimbKernelModel", name := "divide", desc := "()V" } : Jvm.MethodName) prog_8_method_43_code (5 : Nat) (Option.none : Option Jvm.ClassFile.FieldType)) ∈ tb := tb_4 15 rfl rfl
theorem m_l_RX6_186 : (Jvm.Cond.methodLink "LimbKernelModel" (186 : Nat) ({ cls := "LimbKernelModel", name := "shiftOfV", desc := "()I" } : Jvm.MethodName)) ∈ tb := tb_4 16 rfl rfl
theorem m_i_yX6_shiftOfV : (Jvm.Cond.instanceMethod ({ cls := "LimbKernelModel", name := "shiftOfV", desc := "()I" } : Jvm.MethodName)) ∈ tb := tb_4 18 rfl rfl
theorem m_c_yX6_shiftOfV : (Jvm.Cond.code ({ cls := "LimbKernelModel", name := "shiftOfV", desc := "()I" } : Jvm.MethodName) prog_8_method_42_code (2 : Nat) (Option.some Jvm.ClassFile.FieldType.int)) ∈ tb := tb_4 19 rfl rfl
theorem m_k_RX6_185 : (Jvm.Cond.constant "LimbKernelModel" (185 : Nat) (1073741824 : Int32)) ∈ tb := tb_4 20 rfl rfl
theorem m_l_RX6_191 : (Jvm.Cond.methodLink "LimbKernelModel" (191 : Nat) ({ cls := "LimbKernelModel", name := "digit", desc := "(II)J" } : Jvm.MethodName)) ∈ tb := tb_4 21 rfl rfl
theorem m_i_yX6_digit : (Jvm.Cond.instanceMethod ({ cls := "LimbKernelModel", name := "digit", desc := "(II)J" } : Jvm.MethodName)) ∈ tb := tb_4 23 rfl rfl
theorem m_c_yX6_digit : (Jvm.Cond.code ({ cls := "LimbKernelModel", name := "digit", desc := "(II)J" } : Jvm.MethodName) prog_8_method_44_code (21 : Nat) (Option.some Jvm.ClassFile.FieldType.long)) ∈ tb := tb_4 24 rfl rfl
theorem m_k_RX6_195 : (Jvm.Cond.constantLong "LimbKernelModel" (195 : Nat) (2147483648 : Int64)) ∈ tb := tb_4 25 rfl rfl
theorem m_l_RX6_222 : (Jvm.Cond.methodLink "LimbKernelModel" (222 : Nat) ({ cls := "LimbKernelModel", name := "common", desc := "(I)V" } : Jvm.MethodName)) ∈ tb := tb_4 26 rfl rfl
theorem m_i_yX6_common : (Jvm.Cond.instanceMethod ({ cls := "LimbKernelModel", name := "common", desc := "(I)V" } : Jvm.MethodName)) ∈ tb := tb_4 28 rfl rfl
theorem m_c_yX6_common : (Jvm.Cond.code ({ cls := "LimbKernelModel", name := "common", desc := "(I)V" } : Jvm.MethodName) prog_8_method_49_code (5 : Nat) (Option.none : Option Jvm.ClassFile.FieldType)) ∈ tb := tb_4 29 rfl rfl
theorem m_l_RX6_225 : (Jvm.Cond.methodLink "LimbKernelModel" (225 : Nat) ({ cls := "LimbKernelModel", name := "power", desc := "(I)V" } : Jvm.MethodName)) ∈ tb := tb_4 30 rfl rfl
theorem m_i_yX6_power : (Jvm.Cond.instanceMethod ({ cls := "LimbKernelModel", name := "power", desc := "(I)V" } : Jvm.MethodName)) ∈ tb := tb_4 32 rfl rfl
theorem m_c_yX6_power : (Jvm.Cond.code ({ cls := "LimbKernelModel", name := "power", desc := "(I)V" } : Jvm.MethodName) prog_8_method_50_code (4 : Nat) (Option.none : Option Jvm.ClassFile.FieldType)) ∈ tb := tb_4 33 rfl rfl
theorem m_l_RX6_168 : (Jvm.Cond.methodLink "LimbKernelModel" (168 : Nat) ({ cls := "LimbKernelModel", name := "leave", desc := "(I)V" } : Jvm.MethodName)) ∈ tb := tb_4 34 rfl rfl
theorem m_i_yX6_leave : (Jvm.Cond.instanceMethod ({ cls := "LimbKernelModel", name := "leave", desc := "(I)V" } : Jvm.MethodName)) ∈ tb := tb_4 36 rfl rfl
theorem m_c_yX6_leave : (Jvm.Cond.code ({ cls := "LimbKernelModel", name := "leave", desc := "(I)V" } : Jvm.MethodName) prog_8_method_27_code (4 : Nat) (Option.none : Option Jvm.ClassFile.FieldType)) ∈ tb := tb_4 37 rfl rfl
theorem m_l_RX6_159 : (Jvm.Cond.methodLink "LimbKernelModel" (159 : Nat) ({ cls := "LimbKernelModel", name := "unpin", desc := "(I)V" } : Jvm.MethodName)) ∈ tb := tb_4 38 rfl rfl
theorem m_i_yX6_unpin : (Jvm.Cond.instanceMethod ({ cls := "LimbKernelModel", name := "unpin", desc := "(I)V" } : Jvm.MethodName)) ∈ tb := tb_4 40 rfl rfl
theorem m_c_yX6_unpin : (Jvm.Cond.code ({ cls := "LimbKernelModel", name := "unpin", desc := "(I)V" } : Jvm.MethodName) prog_8_method_26_code (2 : Nat) (Option.none : Option Jvm.ClassFile.FieldType)) ∈ tb := tb_4 41 rfl rfl
theorem m_l_RL_62 : (Jvm.Cond.methodLink "LimbKernelLaw" (62 : Nat) ({ cls := "LimbKernelModel", name := "run", desc := "(I)I" } : Jvm.MethodName)) ∈ tb := tb_4 42 rfl rfl
theorem m_i_yX6_run : (Jvm.Cond.instanceMethod ({ cls := "LimbKernelModel", name := "run", desc := "(I)I" } : Jvm.MethodName)) ∈ tb := tb_4 43 rfl rfl
theorem m_e_yX6_run : (Jvm.Cond.selects "LimbKernelModel" ({ cls := "LimbKernelModel", name := "run", desc := "(I)I" } : Jvm.MethodName) ({ cls := "LimbKernelModel", name := "run", desc := "(I)I" } : Jvm.MethodName)) ∈ tb := tb_4 44 rfl rfl
theorem m_c_yX6_run : (Jvm.Cond.code ({ cls := "LimbKernelModel", name := "run", desc := "(I)I" } : Jvm.MethodName) prog_8_method_29_code (4 : Nat) (Option.some Jvm.ClassFile.FieldType.int)) ∈ tb := tb_4 45 rfl rfl
theorem m_l_RX6_171 : (Jvm.Cond.methodLink "LimbKernelModel" (171 : Nat) ({ cls := "LimbKernelModel", name := "tick", desc := "()I" } : Jvm.MethodName)) ∈ tb := tb_4 46 rfl rfl
theorem m_l_RL_66 : (Jvm.Cond.methodLink "LimbKernelLaw" (66 : Nat) ({ cls := "LimbKernelModel", name := "jobState", desc := "(I)I" } : Jvm.MethodName)) ∈ tb := tb_4 47 rfl rfl
theorem m_i_yX6_jobState : (Jvm.Cond.instanceMethod ({ cls := "LimbKernelModel", name := "jobState", desc := "(I)I" } : Jvm.MethodName)) ∈ tb := tb_4 48 rfl rfl
theorem m_e_yX6_jobState : (Jvm.Cond.selects "LimbKernelModel" ({ cls := "LimbKernelModel", name := "jobState", desc := "(I)I" } : Jvm.MethodName) ({ cls := "LimbKernelModel", name := "jobState", desc := "(I)I" } : Jvm.MethodName)) ∈ tb := tb_4 49 rfl rfl
theorem m_c_yX6_jobState : (Jvm.Cond.code ({ cls := "LimbKernelModel", name := "jobState", desc := "(I)I" } : Jvm.MethodName) prog_8_method_31_code (2 : Nat) (Option.some Jvm.ClassFile.FieldType.int)) ∈ tb := tb_4 50 rfl rfl
theorem m_l_RX6_174 : (Jvm.Cond.methodLink "LimbKernelModel" (174 : Nat) ({ cls := "LimbKernelModel", name := "isJob", desc := "(I)Z" } : Jvm.MethodName)) ∈ tb := tb_4 51 rfl rfl
theorem m_i_yX6_isJob : (Jvm.Cond.instanceMethod ({ cls := "LimbKernelModel", name := "isJob", desc := "(I)Z" } : Jvm.MethodName)) ∈ tb := tb_4 53 rfl rfl
theorem m_c_yX6_isJob : (Jvm.Cond.code ({ cls := "LimbKernelModel", name := "isJob", desc := "(I)Z" } : Jvm.MethodName) prog_8_method_30_code (2 : Nat) (Option.some Jvm.ClassFile.FieldType.boolean)) ∈ tb := tb_4 54 rfl rfl
theorem m_l_RL_70 : (Jvm.Cond.methodLink "LimbKernelLaw" (70 : Nat) ({ cls := "LimbKernelModel", name := "jobResult", desc := "(I)I" } : Jvm.MethodName)) ∈ tb := tb_4 55 rfl rfl
theorem m_i_yX6_jobResult : (Jvm.Cond.instanceMethod ({ cls := "LimbKernelModel", name := "jobResult", desc := "(I)I" } : Jvm.MethodName)) ∈ tb := tb_4 56 rfl rfl
theorem m_e_yX6_jobResult : (Jvm.Cond.selects "LimbKernelModel" ({ cls := "LimbKernelModel", name := "jobResult", desc := "(I)I" } : Jvm.MethodName) ({ cls := "LimbKernelModel", name := "jobResult", desc := "(I)I" } : Jvm.MethodName)) ∈ tb := tb_4 57 rfl rfl
theorem m_c_yX6_jobResult : (Jvm.Cond.code ({ cls := "LimbKernelModel", name := "jobResult", desc := "(I)I" } : Jvm.MethodName) prog_8_method_32_code (2 : Nat) (Option.some Jvm.ClassFile.FieldType.int)) ∈ tb := tb_4 58 rfl rfl
theorem m_l_RL_75 : (Jvm.Cond.methodLink "LimbKernelLaw" (75 : Nat) ({ cls := "LimbKernelModel", name := "workLeft", desc := "(I)J" } : Jvm.MethodName)) ∈ tb := tb_4 59 rfl rfl
theorem m_i_yX6_workLeft : (Jvm.Cond.instanceMethod ({ cls := "LimbKernelModel", name := "workLeft", desc := "(I)J" } : Jvm.MethodName)) ∈ tb := tb_4 60 rfl rfl
theorem m_e_yX6_workLeft : (Jvm.Cond.selects "LimbKernelModel" ({ cls := "LimbKernelModel", name := "workLeft", desc := "(I)J" } : Jvm.MethodName) ({ cls := "LimbKernelModel", name := "workLeft", desc := "(I)J" } : Jvm.MethodName)) ∈ tb := tb_4 61 rfl rfl
theorem m_c_yX6_workLeft : (Jvm.Cond.code ({ cls := "LimbKernelModel", name := "workLeft", desc := "(I)J" } : Jvm.MethodName) prog_8_method_33_code (2 : Nat) (Option.some Jvm.ClassFile.FieldType.long)) ∈ tb := tb_4 62 rfl rfl
theorem m_k_RX6_177 : (Jvm.Cond.constantLong "LimbKernelModel" (177 : Nat) (-1 : Int64)) ∈ tb := tb_4 63 rfl rfl
theorem m_l_RL_79 : (Jvm.Cond.methodLink "LimbKernelLaw" (79 : Nat) ({ cls := "LimbKernelModel", name := "cancel", desc := "(I)Z" } : Jvm.MethodName)) ∈ tb := tb_4 64 rfl rfl
theorem m_i_yX6_cancel : (Jvm.Cond.instanceMethod ({ cls := "LimbKernelModel", name := "cancel", desc := "(I)Z" } : Jvm.MethodName)) ∈ tb := tb_4 65 rfl rfl
theorem m_e_yX6_cancel : (Jvm.Cond.selects "LimbKernelModel" ({ cls := "LimbKernelModel", name := "cancel", desc := "(I)Z" } : Jvm.MethodName) ({ cls := "LimbKernelModel", name := "cancel", desc := "(I)Z" } : Jvm.MethodName)) ∈ tb := tb_4 66 rfl rfl
theorem m_c_yX6_cancel : (Jvm.Cond.code ({ cls := "LimbKernelModel", name := "cancel", desc := "(I)Z" } : Jvm.MethodName) prog_8_method_34_code (3 : Nat) (Option.some Jvm.ClassFile.FieldType.boolean)) ∈ tb := tb_4 67 rfl rfl
theorem m_l_RL_83 : (Jvm.Cond.methodLink "LimbKernelLaw" (83 : Nat) ({ cls := "LimbKernelModel", name := "forget", desc := "(I)Z" } : Jvm.MethodName)) ∈ tb := tb_4 68 rfl rfl
theorem m_i_yX6_forget : (Jvm.Cond.instanceMethod ({ cls := "LimbKernelModel", name := "forget", desc := "(I)Z" } : Jvm.MethodName)) ∈ tb := tb_4 69 rfl rfl
theorem m_e_yX6_forget : (Jvm.Cond.selects "LimbKernelModel" ({ cls := "LimbKernelModel", name := "forget", desc := "(I)Z" } : Jvm.MethodName) ({ cls := "LimbKernelModel", name := "forget", desc := "(I)Z" } : Jvm.MethodName)) ∈ tb := tb_4 70 rfl rfl
theorem m_c_yX6_forget : (Jvm.Cond.code ({ cls := "LimbKernelModel", name := "forget", desc := "(I)Z" } : Jvm.MethodName) prog_8_method_35_code (2 : Nat) (Option.some Jvm.ClassFile.FieldType.boolean)) ∈ tb := tb_4 71 rfl rfl
theorem m_l_RL_87 : (Jvm.Cond.methodLink "LimbKernelLaw" (87 : Nat) ({ cls := "LimbKernelModel", name := "freeCells", desc := "()I" } : Jvm.MethodName)) ∈ tb := tb_4 72 rfl rfl
theorem m_i_yX6_freeCells : (Jvm.Cond.instanceMethod ({ cls := "LimbKernelModel", name := "freeCells", desc := "()I" } : Jvm.MethodName)) ∈ tb := tb_4 73 rfl rfl
theorem m_e_yX6_freeCells : (Jvm.Cond.selects "LimbKernelModel" ({ cls := "LimbKernelModel", name := "freeCells", desc := "()I" } : Jvm.MethodName) ({ cls := "LimbKernelModel", name := "freeCells", desc := "()I" } : Jvm.MethodName)) ∈ tb := tb_4 74 rfl rfl
theorem m_c_yX6_freeCells : (Jvm.Cond.code ({ cls := "LimbKernelModel", name := "freeCells", desc := "()I" } : Jvm.MethodName) prog_8_method_36_code (3 : Nat) (Option.some Jvm.ClassFile.FieldType.int)) ∈ tb := tb_4 75 rfl rfl
theorem m_l_RL_91 : (Jvm.Cond.methodLink "LimbKernelLaw" (91 : Nat) ({ cls := "LimbKernelModel", name := "freeBlock", desc := "(II)I" } : Jvm.MethodName)) ∈ tb := tb_4 76 rfl rfl
theorem m_i_yX6_freeBlock : (Jvm.Cond.instanceMethod ({ cls := "LimbKernelModel", name := "freeBlock", desc := "(II)I" } : Jvm.MethodName)) ∈ tb := tb_4 77 rfl rfl
theorem m_e_yX6_freeBlock : (Jvm.Cond.selects "LimbKernelModel" ({ cls := "LimbKernelModel", name := "freeBlock", desc := "(II)I" } : Jvm.MethodName) ({ cls := "LimbKernelModel", name := "freeBlock", desc := "(II)I" } : Jvm.MethodName)) ∈ tb := tb_4 78 rfl rfl
theorem m_c_yX6_freeBlock : (Jvm.Cond.code ({ cls := "LimbKernelModel", name := "freeBlock", desc := "(II)I" } : Jvm.MethodName) prog_8_method_37_code (5 : Nat) (Option.some Jvm.ClassFile.FieldType.int)) ∈ tb := tb_4 79 rfl rfl
theorem m_l_RL_95 : (Jvm.Cond.methodLink "LimbKernelLaw" (95 : Nat) ({ cls := "LimbKernelModel", name := "number", desc := "(II)I" } : Jvm.MethodName)) ∈ tb := tb_4 80 rfl rfl
theorem m_i_yX6_number : (Jvm.Cond.instanceMethod ({ cls := "LimbKernelModel", name := "number", desc := "(II)I" } : Jvm.MethodName)) ∈ tb := tb_4 81 rfl rfl
theorem m_e_yX6_number : (Jvm.Cond.selects "LimbKernelModel" ({ cls := "LimbKernelModel", name := "number", desc := "(II)I" } : Jvm.MethodName) ({ cls := "LimbKernelModel", name := "number", desc := "(II)I" } : Jvm.MethodName)) ∈ tb := tb_4 82 rfl rfl
theorem m_c_yX6_number : (Jvm.Cond.code ({ cls := "LimbKernelModel", name := "number", desc := "(II)I" } : Jvm.MethodName) prog_8_method_38_code (3 : Nat) (Option.some Jvm.ClassFile.FieldType.int)) ∈ tb := tb_4 83 rfl rfl
theorem m_l_RL_99 : (Jvm.Cond.methodLink "LimbKernelLaw" (99 : Nat) ({ cls := "LimbKernelModel", name := "count", desc := "(II)I" } : Jvm.MethodName)) ∈ tb := tb_4 84 rfl rfl
theorem m_i_yX6_count : (Jvm.Cond.instanceMethod ({ cls := "LimbKernelModel", name := "count", desc := "(II)I" } : Jvm.MethodName)) ∈ tb := tb_4 85 rfl rfl
theorem m_e_yX6_count : (Jvm.Cond.selects "LimbKernelModel" ({ cls := "LimbKernelModel", name := "count", desc := "(II)I" } : Jvm.MethodName) ({ cls := "LimbKernelModel", name := "count", desc := "(II)I" } : Jvm.MethodName)) ∈ tb := tb_4 86 rfl rfl
theorem m_c_yX6_count : (Jvm.Cond.code ({ cls := "LimbKernelModel", name := "count", desc := "(II)I" } : Jvm.MethodName) prog_8_method_39_code (3 : Nat) (Option.some Jvm.ClassFile.FieldType.int)) ∈ tb := tb_4 87 rfl rfl
theorem m_e_yX1_addFree : Cond.selects "LimbKernel$Memory" ⟨"LimbKernel$Memory", "addFree", "(II)V"⟩ ⟨"LimbKernel$Memory", "addFree", "(II)V"⟩ ∈ tb := tb_s (q := (⟨"LimbKernel$Memory", "addFree", "(II)V"⟩, 4)) (List.mem_append_left _ (List.mem_of_getElem? (i := 0) rfl))
theorem m_e_yX5_leastFreeHandle : Cond.selects "LimbKernel" ⟨"LimbKernel", "leastFreeHandle", "()I"⟩ ⟨"LimbKernel", "leastFreeHandle", "()I"⟩ ∈ tb := tb_s (q := (⟨"LimbKernel", "leastFreeHandle", "()I"⟩, 9)) (List.mem_append_left _ (List.mem_of_getElem? (i := 1) rfl))
theorem m_e_yX1_leastFreeOrder : Cond.selects "LimbKernel$Memory" ⟨"LimbKernel$Memory", "leastFreeOrder", "(I)I"⟩ ⟨"LimbKernel$Memory", "leastFreeOrder", "(I)I"⟩ ∈ tb := tb_s (q := (⟨"LimbKernel$Memory", "leastFreeOrder", "(I)I"⟩, 4)) (List.mem_append_left _ (List.mem_of_getElem? (i := 2) rfl))
theorem m_e_yX1_removeFree : Cond.selects "LimbKernel$Memory" ⟨"LimbKernel$Memory", "removeFree", "(II)V"⟩ ⟨"LimbKernel$Memory", "removeFree", "(II)V"⟩ ∈ tb := tb_s (q := (⟨"LimbKernel$Memory", "removeFree", "(II)V"⟩, 4)) (List.mem_append_left _ (List.mem_of_getElem? (i := 3) rfl))
theorem m_e_yX5_occupy : Cond.selects "LimbKernel" ⟨"LimbKernel", "occupy", "(IIII)V"⟩ ⟨"LimbKernel", "occupy", "(IIII)V"⟩ ∈ tb := tb_s (q := (⟨"LimbKernel", "occupy", "(IIII)V"⟩, 9)) (List.mem_append_left _ (List.mem_of_getElem? (i := 4) rfl))
theorem m_e_yX5_isNumber : Cond.selects "LimbKernel" ⟨"LimbKernel", "isNumber", "(I)Z"⟩ ⟨"LimbKernel", "isNumber", "(I)Z"⟩ ∈ tb := tb_s (q := (⟨"LimbKernel", "isNumber", "(I)Z"⟩, 9)) (List.mem_append_left _ (List.mem_of_getElem? (i := 5) rfl))
theorem m_e_yX5_isFinished : Cond.selects "LimbKernel" ⟨"LimbKernel", "isFinished", "(I)Z"⟩ ⟨"LimbKernel", "isFinished", "(I)Z"⟩ ∈ tb := tb_s (q := (⟨"LimbKernel", "isFinished", "(I)Z"⟩, 9)) (List.mem_append_left _ (List.mem_of_getElem? (i := 6) rfl))
theorem m_e_yX5_vacate : Cond.selects "LimbKernel" ⟨"LimbKernel", "vacate", "(I)V"⟩ ⟨"LimbKernel", "vacate", "(I)V"⟩ ∈ tb := tb_s (q := (⟨"LimbKernel", "vacate", "(I)V"⟩, 9)) (List.mem_append_left _ (List.mem_of_getElem? (i := 7) rfl))
theorem m_e_yX5_isZero : Cond.selects "LimbKernel" ⟨"LimbKernel", "isZero", "(I)Z"⟩ ⟨"LimbKernel", "isZero", "(I)Z"⟩ ∈ tb := tb_s (q := (⟨"LimbKernel", "isZero", "(I)Z"⟩, 9)) (List.mem_append_left _ (List.mem_of_getElem? (i := 8) rfl))
theorem m_e_yX5_leastFreeJob : Cond.selects "LimbKernel" ⟨"LimbKernel", "leastFreeJob", "()I"⟩ ⟨"LimbKernel", "leastFreeJob", "()I"⟩ ∈ tb := tb_s (q := (⟨"LimbKernel", "leastFreeJob", "()I"⟩, 9)) (List.mem_append_left _ (List.mem_of_getElem? (i := 9) rfl))
theorem m_e_yX0_need : Cond.selects "LimbKernel$Job" ⟨"LimbKernel$Job", "need", "(JJJ)V"⟩ ⟨"LimbKernel$Job", "need", "(JJJ)V"⟩ ∈ tb := tb_s (q := (⟨"LimbKernel$Job", "need", "(JJJ)V"⟩, 11)) (List.mem_append_left _ (List.mem_of_getElem? (i := 10) rfl))
theorem m_e_yX5_changePins : Cond.selects "LimbKernel" ⟨"LimbKernel", "changePins", "(LLimbKernel$Job;I)V"⟩ ⟨"LimbKernel", "changePins", "(LLimbKernel$Job;I)V"⟩ ∈ tb := tb_s (q := (⟨"LimbKernel", "changePins", "(LLimbKernel$Job;I)V"⟩, 9)) (List.mem_append_left _ (List.mem_of_getElem? (i := 11) rfl))
theorem m_e_yX3_slot : Cond.selects "LimbKernel$Queue" ⟨"LimbKernel$Queue", "slot", "(I)I"⟩ ⟨"LimbKernel$Queue", "slot", "(I)I"⟩ ∈ tb := tb_s (q := (⟨"LimbKernel$Queue", "slot", "(I)I"⟩, 3)) (List.mem_append_left _ (List.mem_of_getElem? (i := 12) rfl))
theorem m_e_yX5_takeTurn : Cond.selects "LimbKernel" ⟨"LimbKernel", "takeTurn", "()I"⟩ ⟨"LimbKernel", "takeTurn", "()I"⟩ ∈ tb := tb_s (q := (⟨"LimbKernel", "takeTurn", "()I"⟩, 9)) (List.mem_append_left _ (List.mem_of_getElem? (i := 13) rfl))
theorem m_e_yX5_start : Cond.selects "LimbKernel" ⟨"LimbKernel", "start", "(LLimbKernel$Job;)V"⟩ ⟨"LimbKernel", "start", "(LLimbKernel$Job;)V"⟩ ∈ tb := tb_s (q := (⟨"LimbKernel", "start", "(LLimbKernel$Job;)V"⟩, 9)) (List.mem_append_left _ (List.mem_of_getElem? (i := 14) rfl))
theorem m_e_yX5_reckon : Cond.selects "LimbKernel" ⟨"LimbKernel", "reckon", "(LLimbKernel$Job;)V"⟩ ⟨"LimbKernel", "reckon", "(LLimbKernel$Job;)V"⟩ ∈ tb := tb_s (q := (⟨"LimbKernel", "reckon", "(LLimbKernel$Job;)V"⟩, 9)) (List.mem_append_left _ (List.mem_of_getElem? (i := 15) rfl))
theorem m_e_yX4_chooseDivisor : Cond.selects "LimbKernel$Reckoner" ⟨"LimbKernel$Reckoner", "chooseDivisor", "(II)Z"⟩ ⟨"LimbKernel$Reckoner", "chooseDivisor", "(II)Z"⟩ ∈ tb := tb_s (q := (⟨"LimbKernel$Reckoner", "chooseDivisor", "(II)Z"⟩, 6)) (List.mem_append_right _ (List.mem_append_left _ (List.mem_of_getElem? (i := 0) rfl)))
theorem m_e_yX4_load : Cond.selects "LimbKernel$Reckoner" ⟨"LimbKernel$Reckoner", "load", "(LLimbKernel$Numeral;I)V"⟩ ⟨"LimbKernel$Reckoner", "load", "(LLimbKernel$Numeral;I)V"⟩ ∈ tb := tb_s (q := (⟨"LimbKernel$Reckoner", "load", "(LLimbKernel$Numeral;I)V"⟩, 6)) (List.mem_append_right _ (List.mem_append_left _ (List.mem_of_getElem? (i := 1) rfl)))
theorem m_e_yX4_reduce : Cond.selects "LimbKernel$Reckoner" ⟨"LimbKernel$Reckoner", "reduce", "(III)V"⟩ ⟨"LimbKernel$Reckoner", "reduce", "(III)V"⟩ ∈ tb := tb_s (q := (⟨"LimbKernel$Reckoner", "reduce", "(III)V"⟩, 6)) (List.mem_append_right _ (List.mem_append_left _ (List.mem_of_getElem? (i := 2) rfl)))
theorem m_e_yX4_guessDigit : Cond.selects "LimbKernel$Reckoner" ⟨"LimbKernel$Reckoner", "guessDigit", "(I)J"⟩ ⟨"LimbKernel$Reckoner", "guessDigit", "(I)J"⟩ ∈ tb := tb_s (q := (⟨"LimbKernel$Reckoner", "guessDigit", "(I)J"⟩, 6)) (List.mem_append_right _ (List.mem_append_left _ (List.mem_of_getElem? (i := 3) rfl)))
theorem m_e_yX4_subtractTimes : Cond.selects "LimbKernel$Reckoner" ⟨"LimbKernel$Reckoner", "subtractTimes", "(IJ)I"⟩ ⟨"LimbKernel$Reckoner", "subtractTimes", "(IJ)I"⟩ ∈ tb := tb_s (q := (⟨"LimbKernel$Reckoner", "subtractTimes", "(IJ)I"⟩, 6)) (List.mem_append_right _ (List.mem_append_left _ (List.mem_of_getElem? (i := 4) rfl)))
theorem m_e_yX4_isOne : Cond.selects "LimbKernel$Reckoner" ⟨"LimbKernel$Reckoner", "isOne", "(II)Z"⟩ ⟨"LimbKernel$Reckoner", "isOne", "(II)Z"⟩ ∈ tb := tb_s (q := (⟨"LimbKernel$Reckoner", "isOne", "(II)Z"⟩, 6)) (List.mem_append_right _ (List.mem_append_left _ (List.mem_of_getElem? (i := 5) rfl)))
theorem m_e_yX4_reduceToBase : Cond.selects "LimbKernel$Reckoner" ⟨"LimbKernel$Reckoner", "reduceToBase", "(LLimbKernel$Numeral;II)V"⟩ ⟨"LimbKernel$Reckoner", "reduceToBase", "(LLimbKernel$Numeral;II)V"⟩ ∈ tb := tb_s (q := (⟨"LimbKernel$Reckoner", "reduceToBase", "(LLimbKernel$Numeral;II)V"⟩, 6)) (List.mem_append_right _ (List.mem_append_left _ (List.mem_of_getElem? (i := 6) rfl)))
theorem m_e_yX4_multiplyModulo : Cond.selects "LimbKernel$Reckoner" ⟨"LimbKernel$Reckoner", "multiplyModulo", "(III)V"⟩ ⟨"LimbKernel$Reckoner", "multiplyModulo", "(III)V"⟩ ∈ tb := tb_s (q := (⟨"LimbKernel$Reckoner", "multiplyModulo", "(III)V"⟩, 6)) (List.mem_append_right _ (List.mem_append_left _ (List.mem_of_getElem? (i := 7) rfl)))
theorem m_e_yX4_hasBit : Cond.selects "LimbKernel$Reckoner" ⟨"LimbKernel$Reckoner", "hasBit", "(II)Z"⟩ ⟨"LimbKernel$Reckoner", "hasBit", "(II)Z"⟩ ∈ tb := tb_s (q := (⟨"LimbKernel$Reckoner", "hasBit", "(II)Z"⟩, 6)) (List.mem_append_right _ (List.mem_append_left _ (List.mem_of_getElem? (i := 8) rfl)))
theorem m_e_yX5_settle : Cond.selects "LimbKernel" ⟨"LimbKernel", "settle", "(LLimbKernel$Job;)V"⟩ ⟨"LimbKernel", "settle", "(LLimbKernel$Job;)V"⟩ ∈ tb := tb_s (q := (⟨"LimbKernel", "settle", "(LLimbKernel$Job;)V"⟩, 9)) (List.mem_append_right _ (List.mem_append_left _ (List.mem_of_getElem? (i := 9) rfl)))
theorem m_e_yX5_giveUpRoom : Cond.selects "LimbKernel" ⟨"LimbKernel", "giveUpRoom", "(LLimbKernel$Job;)V"⟩ ⟨"LimbKernel", "giveUpRoom", "(LLimbKernel$Job;)V"⟩ ∈ tb := tb_s (q := (⟨"LimbKernel", "giveUpRoom", "(LLimbKernel$Job;)V"⟩, 9)) (List.mem_append_right _ (List.mem_append_left _ (List.mem_of_getElem? (i := 10) rfl)))
theorem m_e_yX5_isJob : Cond.selects "LimbKernel" ⟨"LimbKernel", "isJob", "(I)Z"⟩ ⟨"LimbKernel", "isJob", "(I)Z"⟩ ∈ tb := tb_s (q := (⟨"LimbKernel", "isJob", "(I)Z"⟩, 9)) (List.mem_append_right _ (List.mem_append_left _ (List.mem_of_getElem? (i := 11) rfl)))
theorem m_e_yX6_begin : Cond.selects "LimbKernelModel" ⟨"LimbKernelModel", "begin", "()V"⟩ ⟨"LimbKernelModel", "begin", "()V"⟩ ∈ tb := tb_s (q := (⟨"LimbKernelModel", "begin", "()V"⟩, 33)) (List.mem_append_right _ (List.mem_append_left _ (List.mem_of_getElem? (i := 12) rfl)))
theorem m_e_yX6_handlesInUse : Cond.selects "LimbKernelModel" ⟨"LimbKernelModel", "handlesInUse", "()I"⟩ ⟨"LimbKernelModel", "handlesInUse", "()I"⟩ ∈ tb := tb_s (q := (⟨"LimbKernelModel", "handlesInUse", "()I"⟩, 33)) (List.mem_append_right _ (List.mem_append_left _ (List.mem_of_getElem? (i := 13) rfl)))
theorem m_e_yX6_jobsThere : Cond.selects "LimbKernelModel" ⟨"LimbKernelModel", "jobsThere", "()I"⟩ ⟨"LimbKernelModel", "jobsThere", "()I"⟩ ∈ tb := tb_s (q := (⟨"LimbKernelModel", "jobsThere", "()I"⟩, 33)) (List.mem_append_right _ (List.mem_append_left _ (List.mem_of_getElem? (i := 14) rfl)))
theorem m_e_yX6_pool : Cond.selects "LimbKernelModel" ⟨"LimbKernelModel", "pool", "()I"⟩ ⟨"LimbKernelModel", "pool", "()I"⟩ ∈ tb := tb_s (q := (⟨"LimbKernelModel", "pool", "()I"⟩, 33)) (List.mem_append_right _ (List.mem_append_left _ (List.mem_of_getElem? (i := 15) rfl)))
theorem m_e_yX6_freeHandle : Cond.selects "LimbKernelModel" ⟨"LimbKernelModel", "freeHandle", "()I"⟩ ⟨"LimbKernelModel", "freeHandle", "()I"⟩ ∈ tb := tb_s (q := (⟨"LimbKernelModel", "freeHandle", "()I"⟩, 33)) (List.mem_append_right _ (List.mem_append_right _ (List.mem_append_left _ (List.mem_of_getElem? (i := 0) rfl))))
theorem m_e_yX6_give : Cond.selects "LimbKernelModel" ⟨"LimbKernelModel", "give", "(I)I"⟩ ⟨"LimbKernelModel", "give", "(I)I"⟩ ∈ tb := tb_s (q := (⟨"LimbKernelModel", "give", "(I)I"⟩, 33)) (List.mem_append_right _ (List.mem_append_right _ (List.mem_append_left _ (List.mem_of_getElem? (i := 1) rfl))))
theorem m_e_yX6_make : Cond.selects "LimbKernelModel" ⟨"LimbKernelModel", "make", "(III)V"⟩ ⟨"LimbKernelModel", "make", "(III)V"⟩ ∈ tb := tb_s (q := (⟨"LimbKernelModel", "make", "(III)V"⟩, 33)) (List.mem_append_right _ (List.mem_append_right _ (List.mem_append_left _ (List.mem_of_getElem? (i := 2) rfl))))
theorem m_e_yX6_isThere : Cond.selects "LimbKernelModel" ⟨"LimbKernelModel", "isThere", "(I)Z"⟩ ⟨"LimbKernelModel", "isThere", "(I)Z"⟩ ∈ tb := tb_s (q := (⟨"LimbKernelModel", "isThere", "(I)Z"⟩, 33)) (List.mem_append_right _ (List.mem_append_right _ (List.mem_append_left _ (List.mem_of_getElem? (i := 3) rfl))))
theorem m_e_yX6_go : Cond.selects "LimbKernelModel" ⟨"LimbKernelModel", "go", "(I)V"⟩ ⟨"LimbKernelModel", "go", "(I)V"⟩ ∈ tb := tb_s (q := (⟨"LimbKernelModel", "go", "(I)V"⟩, 33)) (List.mem_append_right _ (List.mem_append_right _ (List.mem_append_left _ (List.mem_of_getElem? (i := 4) rfl))))
theorem m_e_yX6_free : Cond.selects "LimbKernelModel" ⟨"LimbKernelModel", "free", "(II)V"⟩ ⟨"LimbKernelModel", "free", "(II)V"⟩ ∈ tb := tb_s (q := (⟨"LimbKernelModel", "free", "(II)V"⟩, 33)) (List.mem_append_right _ (List.mem_append_right _ (List.mem_append_left _ (List.mem_of_getElem? (i := 5) rfl))))
theorem m_e_yX6_isOperand : Cond.selects "LimbKernelModel" ⟨"LimbKernelModel", "isOperand", "(I)Z"⟩ ⟨"LimbKernelModel", "isOperand", "(I)Z"⟩ ∈ tb := tb_s (q := (⟨"LimbKernelModel", "isOperand", "(I)Z"⟩, 33)) (List.mem_append_right _ (List.mem_append_right _ (List.mem_append_left _ (List.mem_of_getElem? (i := 6) rfl))))
theorem m_e_yX6_length : Cond.selects "LimbKernelModel" ⟨"LimbKernelModel", "length", "(I)I"⟩ ⟨"LimbKernelModel", "length", "(I)I"⟩ ∈ tb := tb_s (q := (⟨"LimbKernelModel", "length", "(I)I"⟩, 33)) (List.mem_append_right _ (List.mem_append_right _ (List.mem_append_left _ (List.mem_of_getElem? (i := 7) rfl))))
theorem m_e_yX6_start : Cond.selects "LimbKernelModel" ⟨"LimbKernelModel", "start", "(I)V"⟩ ⟨"LimbKernelModel", "start", "(I)V"⟩ ∈ tb := tb_s (q := (⟨"LimbKernelModel", "start", "(I)V"⟩, 33)) (List.mem_append_right _ (List.mem_append_right _ (List.mem_append_left _ (List.mem_of_getElem? (i := 8) rfl))))
theorem m_e_yX6_resultSize : Cond.selects "LimbKernelModel" ⟨"LimbKernelModel", "resultSize", "(I)I"⟩ ⟨"LimbKernelModel", "resultSize", "(I)I"⟩ ∈ tb := tb_s (q := (⟨"LimbKernelModel", "resultSize", "(I)I"⟩, 33)) (List.mem_append_right _ (List.mem_append_right _ (List.mem_append_left _ (List.mem_of_getElem? (i := 9) rfl))))
theorem m_e_yX6_roomSize : Cond.selects "LimbKernelModel" ⟨"LimbKernelModel", "roomSize", "(I)I"⟩ ⟨"LimbKernelModel", "roomSize", "(I)I"⟩ ∈ tb := tb_s (q := (⟨"LimbKernelModel", "roomSize", "(I)I"⟩, 33)) (List.mem_append_right _ (List.mem_append_right _ (List.mem_append_left _ (List.mem_of_getElem? (i := 10) rfl))))
theorem m_e_yX6_reckon : Cond.selects "LimbKernelModel" ⟨"LimbKernelModel", "reckon", "(I)V"⟩ ⟨"LimbKernelModel", "reckon", "(I)V"⟩ ∈ tb := tb_s (q := (⟨"LimbKernelModel", "reckon", "(I)V"⟩, 33)) (List.mem_append_right _ (List.mem_append_right _ (List.mem_append_left _ (List.mem_of_getElem? (i := 11) rfl))))
theorem m_e_yX6_loadU : Cond.selects "LimbKernelModel" ⟨"LimbKernelModel", "loadU", "(I)V"⟩ ⟨"LimbKernelModel", "loadU", "(I)V"⟩ ∈ tb := tb_s (q := (⟨"LimbKernelModel", "loadU", "(I)V"⟩, 33)) (List.mem_append_right _ (List.mem_append_right _ (List.mem_append_left _ (List.mem_of_getElem? (i := 12) rfl))))
theorem m_e_yX6_uToR : Cond.selects "LimbKernelModel" ⟨"LimbKernelModel", "uToR", "()V"⟩ ⟨"LimbKernelModel", "uToR", "()V"⟩ ∈ tb := tb_s (q := (⟨"LimbKernelModel", "uToR", "()V"⟩, 33)) (List.mem_append_right _ (List.mem_append_right _ (List.mem_append_left _ (List.mem_of_getElem? (i := 13) rfl))))
theorem m_e_yX6_times : Cond.selects "LimbKernelModel" ⟨"LimbKernelModel", "times", "(Z)V"⟩ ⟨"LimbKernelModel", "times", "(Z)V"⟩ ∈ tb := tb_s (q := (⟨"LimbKernelModel", "times", "(Z)V"⟩, 33)) (List.mem_append_right _ (List.mem_append_right _ (List.mem_append_left _ (List.mem_of_getElem? (i := 14) rfl))))
theorem m_e_yX6_putU : Cond.selects "LimbKernelModel" ⟨"LimbKernelModel", "putU", "(I)V"⟩ ⟨"LimbKernelModel", "putU", "(I)V"⟩ ∈ tb := tb_s (q := (⟨"LimbKernelModel", "putU", "(I)V"⟩, 33)) (List.mem_append_right _ (List.mem_append_right _ (List.mem_append_left _ (List.mem_of_getElem? (i := 15) rfl))))
theorem m_e_yX6_loadV : Cond.selects "LimbKernelModel" ⟨"LimbKernelModel", "loadV", "(I)V"⟩ ⟨"LimbKernelModel", "loadV", "(I)V"⟩ ∈ tb := tb_s (q := (⟨"LimbKernelModel", "loadV", "(I)V"⟩, 33)) (List.mem_append_right _ (List.mem_append_right _ (List.mem_append_right _ (List.mem_of_getElem? (i := 0) rfl))))
theorem m_e_yX6_divide : Cond.selects "LimbKernelModel" ⟨"LimbKernelModel", "divide", "()V"⟩ ⟨"LimbKernelModel", "divide", "()V"⟩ ∈ tb := tb_s (q := (⟨"LimbKernelModel", "divide", "()V"⟩, 33)) (List.mem_append_right _ (List.mem_append_right _ (List.mem_append_right _ (List.mem_of_getElem? (i := 1) rfl))))
theorem m_e_yX6_shiftOfV : Cond.selects "LimbKernelModel" ⟨"LimbKernelModel", "shiftOfV", "()I"⟩ ⟨"LimbKernelModel", "shiftOfV", "()I"⟩ ∈ tb := tb_s (q := (⟨"LimbKernelModel", "shiftOfV", "()I"⟩, 33)) (List.mem_append_right _ (List.mem_append_right _ (List.mem_append_right _ (List.mem_of_getElem? (i := 2) rfl))))
theorem m_e_yX6_digit : Cond.selects "LimbKernelModel" ⟨"LimbKernelModel", "digit", "(II)J"⟩ ⟨"LimbKernelModel", "digit", "(II)J"⟩ ∈ tb := tb_s (q := (⟨"LimbKernelModel", "digit", "(II)J"⟩, 33)) (List.mem_append_right _ (List.mem_append_right _ (List.mem_append_right _ (List.mem_of_getElem? (i := 3) rfl))))
theorem m_e_yX6_common : Cond.selects "LimbKernelModel" ⟨"LimbKernelModel", "common", "(I)V"⟩ ⟨"LimbKernelModel", "common", "(I)V"⟩ ∈ tb := tb_s (q := (⟨"LimbKernelModel", "common", "(I)V"⟩, 33)) (List.mem_append_right _ (List.mem_append_right _ (List.mem_append_right _ (List.mem_of_getElem? (i := 4) rfl))))
theorem m_e_yX6_power : Cond.selects "LimbKernelModel" ⟨"LimbKernelModel", "power", "(I)V"⟩ ⟨"LimbKernelModel", "power", "(I)V"⟩ ∈ tb := tb_s (q := (⟨"LimbKernelModel", "power", "(I)V"⟩, 33)) (List.mem_append_right _ (List.mem_append_right _ (List.mem_append_right _ (List.mem_of_getElem? (i := 5) rfl))))
theorem m_e_yX6_leave : Cond.selects "LimbKernelModel" ⟨"LimbKernelModel", "leave", "(I)V"⟩ ⟨"LimbKernelModel", "leave", "(I)V"⟩ ∈ tb := tb_s (q := (⟨"LimbKernelModel", "leave", "(I)V"⟩, 33)) (List.mem_append_right _ (List.mem_append_right _ (List.mem_append_right _ (List.mem_of_getElem? (i := 6) rfl))))
theorem m_e_yX6_unpin : Cond.selects "LimbKernelModel" ⟨"LimbKernelModel", "unpin", "(I)V"⟩ ⟨"LimbKernelModel", "unpin", "(I)V"⟩ ∈ tb := tb_s (q := (⟨"LimbKernelModel", "unpin", "(I)V"⟩, 33)) (List.mem_append_right _ (List.mem_append_right _ (List.mem_append_right _ (List.mem_of_getElem? (i := 7) rfl))))
theorem m_e_yX6_isJob : Cond.selects "LimbKernelModel" ⟨"LimbKernelModel", "isJob", "(I)Z"⟩ ⟨"LimbKernelModel", "isJob", "(I)Z"⟩ ∈ tb := tb_s (q := (⟨"LimbKernelModel", "isJob", "(I)Z"⟩, 33)) (List.mem_append_right _ (List.mem_append_right _ (List.mem_append_right _ (List.mem_of_getElem? (i := 8) rfl))))
theorem m_w_0 : ∀ w ∈ u_ws RX0 TX0 11, w ∈ tb := by
  have h : (u_ws RX0 TX0 11).all (fun w => decide (w ∈ tables_1) && goodWord w) = true := by decide +kernel
  intro w hw
  have h1 := List.all_eq_true.mp h w hw
  rw [Bool.and_eq_true] at h1
  exact tb_t (of_decide_eq_true h1.1) h1.2
theorem m_w_1 : ∀ w ∈ u_ws RX1 TX1 4, w ∈ tb := by
  have h : (u_ws RX1 TX1 4).all (fun w => decide (w ∈ tables_1) && goodWord w) = true := by decide +kernel
  intro w hw
  have h1 := List.all_eq_true.mp h w hw
  rw [Bool.and_eq_true] at h1
  exact tb_t (of_decide_eq_true h1.1) h1.2
theorem m_w_2 : ∀ w ∈ u_ws RX2 TX2 6, w ∈ tb := by
  have h : (u_ws RX2 TX2 6).all (fun w => decide (w ∈ tables_1) && goodWord w) = true := by decide +kernel
  intro w hw
  have h1 := List.all_eq_true.mp h w hw
  rw [Bool.and_eq_true] at h1
  exact tb_t (of_decide_eq_true h1.1) h1.2
theorem m_w_3 : ∀ w ∈ u_ws RX3 TX3 3, w ∈ tb := by
  have h : (u_ws RX3 TX3 3).all (fun w => decide (w ∈ tables_1) && goodWord w) = true := by decide +kernel
  intro w hw
  have h1 := List.all_eq_true.mp h w hw
  rw [Bool.and_eq_true] at h1
  exact tb_t (of_decide_eq_true h1.1) h1.2
theorem m_w_4 : ∀ w ∈ u_ws RX4 TX4 6, w ∈ tb := by
  have h : (u_ws RX4 TX4 6).all (fun w => decide (w ∈ tables_1) && goodWord w) = true := by decide +kernel
  intro w hw
  have h1 := List.all_eq_true.mp h w hw
  rw [Bool.and_eq_true] at h1
  exact tb_t (of_decide_eq_true h1.1) h1.2
theorem m_w_5 : ∀ w ∈ u_ws RX5 TX5 9, w ∈ tb := by
  have h : (u_ws RX5 TX5 9).all (fun w => decide (w ∈ tables_1) && goodWord w) = true := by decide +kernel
  intro w hw
  have h1 := List.all_eq_true.mp h w hw
  rw [Bool.and_eq_true] at h1
  exact tb_t (of_decide_eq_true h1.1) h1.2
theorem m_w_6 : ∀ w ∈ u_ws RX6 TX6 33, w ∈ tb := by
  have h : (u_ws RX6 TX6 33).all (fun w => decide (w ∈ tables_1) && goodWord w) = true := by decide +kernel
  intro w hw
  have h1 := List.all_eq_true.mp h w hw
  rw [Bool.and_eq_true] at h1
  exact tb_t (of_decide_eq_true h1.1) h1.2
theorem g_RL_15 : GoodIn tb (Cond.code yX5_init cX5_init 6 none :: tb) := gi m_c_yX5_init
theorem g_RX5_9 : GoodIn tb (va_wsS RX5 9 yX5_within (Cond.code yX5_within cX5_within 3 (Option.some Jvm.ClassFile.FieldType.int) :: tb)) := gs m_l_RX5_9 m_s_yX5_within m_n_RX5 m_c_yX5_within
theorem g_RX5_196 : GoodIn tb (va_wsS RX5 196 yJ9_min_7cf53 (Cond.code yJ9_min_7cf53 cJ9_min_7cf53 2 (Option.some Jvm.ClassFile.FieldType.int) :: tb)) := gs m_l_RX5_196 m_s_yJ9_min_7cf53 m_n_RJ9 m_c_yJ9_min_7cf53
theorem g_RX5_201 : GoodIn tb (va_wsS RX5 201 yJ9_max_7cf53 (Cond.code yJ9_max_7cf53 cJ9_max_7cf53 2 (Option.some Jvm.ClassFile.FieldType.int) :: tb)) := gs m_l_RX5_201 m_s_yJ9_max_7cf53 m_n_RJ9 m_c_yJ9_max_7cf53
theorem g_RX5_15 : GoodIn tb (Cond.code yX1_init cX1_init 2 none :: tb) := gi m_c_yX1_init
theorem g_RX1_25 : GoodIn tb (wsV RX1 25 RX1 yX1_clear (Cond.code yX1_clear cX1_clear 1 none :: tb)) := gv m_l_RX1_25 m_i_yX1_clear m_e_yX1_clear m_n_RX1 m_c_yX1_clear
theorem g_RX1_28 : GoodIn tb (va_wsS RX1 28 yJ7_fill_53178 (Cond.code yJ7_fill_53178 cJ7_fill_53178 4 none :: tb)) := gs m_l_RX1_28 m_s_yJ7_fill_53178 m_n_RJ7 m_c_yJ7_fill_53178
theorem g_RX1_34 : GoodIn tb (wsV RX1 34 RX1 yX1_addFree (Cond.code yX1_addFree cX1_addFree 3 none :: tb)) := gv m_l_RX1_34 m_i_yX1_addFree m_e_yX1_addFree m_n_RX1 m_c_yX1_addFree
theorem g_RX5_28 : GoodIn tb (Cond.code yX4_init cX4_init 2 none :: tb) := gi m_c_yX4_init
theorem g_RX5_51 : GoodIn tb (Cond.code yX3_init cX3_init 2 none :: tb) := gi m_c_yX3_init
theorem g_RL_21 : GoodIn tb (wsV RL 21 RX5 yX5_init_ (Cond.code yX5_init_ cX5_init_ 3 (Option.some Jvm.ClassFile.FieldType.int) :: tb)) := gv m_l_RL_21 m_i_yX5_init_ m_e_yX5_init_ m_n_RX5 m_c_yX5_init_
theorem g_RX5_66 : GoodIn tb (wsV RX5 66 RX1 yX1_clear (Cond.code yX1_clear cX1_clear 1 none :: tb)) := gv m_l_RX5_66 m_i_yX1_clear m_e_yX1_clear m_n_RX1 m_c_yX1_clear
theorem g_RX5_69 : GoodIn tb (wsV RX5 69 RX3 yX3_clear (Cond.code yX3_clear cX3_clear 1 none :: tb)) := gv m_l_RX5_69 m_i_yX3_clear m_e_yX3_clear m_n_RX3 m_c_yX3_clear
theorem g_RX5_74 : GoodIn tb (wsV RX5 74 RX0 yX0_clear (Cond.code yX0_clear cX0_clear 1 none :: tb)) := gv m_l_RX5_74 m_i_yX0_clear m_e_yX0_clear m_n_RX0 m_c_yX0_clear
theorem g_RL_26 : GoodIn tb (wsV RL 26 RX5 yX5_newNumber (Cond.code yX5_newNumber cX5_newNumber 5 (Option.some Jvm.ClassFile.FieldType.int) :: tb)) := gv m_l_RL_26 m_i_yX5_newNumber m_e_yX5_newNumber m_n_RX5 m_c_yX5_newNumber
theorem g_RX5_78 : GoodIn tb (wsV RX5 78 RX5 yX5_leastFreeHandle (Cond.code yX5_leastFreeHandle cX5_leastFreeHandle 2 (Option.some Jvm.ClassFile.FieldType.int) :: tb)) := gv m_l_RX5_78 m_i_yX5_leastFreeHandle m_e_yX5_leastFreeHandle m_n_RX5 m_c_yX5_leastFreeHandle
theorem g_RX5_82 : GoodIn tb (va_wsS RX5 82 yX1_orderFor (Cond.code yX1_orderFor cX1_orderFor 3 (Option.some Jvm.ClassFile.FieldType.int) :: tb)) := gs m_l_RX5_82 m_s_yX1_orderFor m_n_RX1 m_c_yX1_orderFor
theorem g_RX5_86 : GoodIn tb (wsV RX5 86 RX1 yX1_give (Cond.code yX1_give cX1_give 5 (Option.some Jvm.ClassFile.FieldType.int) :: tb)) := gv m_l_RX5_86 m_i_yX1_give m_e_yX1_give m_n_RX1 m_c_yX1_give
theorem g_RX1_38 : GoodIn tb (wsV RX1 38 RX1 yX1_leastFreeOrder (Cond.code yX1_leastFreeOrder cX1_leastFreeOrder 3 (Option.some Jvm.ClassFile.FieldType.int) :: tb)) := gv m_l_RX1_38 m_i_yX1_leastFreeOrder m_e_yX1_leastFreeOrder m_n_RX1 m_c_yX1_leastFreeOrder
theorem g_RX1_42 : GoodIn tb (wsV RX1 42 RX1 yX1_addressOfFree (Cond.code yX1_addressOfFree cX1_addressOfFree 5 (Option.some Jvm.ClassFile.FieldType.int) :: tb)) := gv m_l_RX1_42 m_i_yX1_addressOfFree m_e_yX1_addressOfFree m_n_RX1 m_c_yX1_addressOfFree
theorem g_RX1_46 : GoodIn tb (wsV RX1 46 RX1 yX1_removeFree (Cond.code yX1_removeFree cX1_removeFree 3 none :: tb)) := gv m_l_RX1_46 m_i_yX1_removeFree m_e_yX1_removeFree m_n_RX1 m_c_yX1_removeFree
theorem g_RX5_90 : GoodIn tb (wsV RX5 90 RX5 yX5_occupy (Cond.code yX5_occupy cX5_occupy 6 none :: tb)) := gv m_l_RX5_90 m_i_yX5_occupy m_e_yX5_occupy m_n_RX5 m_c_yX5_occupy
theorem g_RX5_210 : GoodIn tb (va_wsS RX5 210 yJ7_fill_fda19 (Cond.code yJ7_fill_fda19 cJ7_fill_fda19 5 none :: tb)) := gs m_l_RX5_210 m_s_yJ7_fill_fda19 m_n_RJ7 m_c_yJ7_fill_fda19
theorem g_RJ7_13 : GoodIn tb (va_wsS RJ7 13 yJ7_rangeCheck_23922 (Cond.code yJ7_rangeCheck_23922 cJ7_rangeCheck_23922 3 none :: tb)) := gs m_l_RJ7_13 m_s_yJ7_rangeCheck_23922 m_n_RJ7 m_c_yJ7_rangeCheck_23922
theorem g_RL_31 : GoodIn tb (wsV RL 31 RX5 yX5_setLimb (Cond.code yX5_setLimb cX5_setLimb 4 (Option.some Jvm.ClassFile.FieldType.boolean) :: tb)) := gv m_l_RL_31 m_i_yX5_setLimb m_e_yX5_setLimb m_n_RX5 m_c_yX5_setLimb
theorem g_RX5_94 : GoodIn tb (wsV RX5 94 RX5 yX5_isNumber (Cond.code yX5_isNumber cX5_isNumber 2 (Option.some Jvm.ClassFile.FieldType.boolean) :: tb)) := gv m_l_RX5_94 m_i_yX5_isNumber m_e_yX5_isNumber m_n_RX5 m_c_yX5_isNumber
theorem g_RX5_101 : GoodIn tb (wsV RX5 101 RX2 yX2_hasLimb (Cond.code yX2_hasLimb cX2_hasLimb 2 (Option.some Jvm.ClassFile.FieldType.boolean) :: tb)) := gv m_l_RX5_101 m_i_yX2_hasLimb m_e_yX2_hasLimb m_n_RX2 m_c_yX2_hasLimb
theorem g_RL_36 : GoodIn tb (wsV RL 36 RX5 yX5_getLimb (Cond.code yX5_getLimb cX5_getLimb 3 (Option.some Jvm.ClassFile.FieldType.int) :: tb)) := gv m_l_RL_36 m_i_yX5_getLimb m_e_yX5_getLimb m_n_RX5 m_c_yX5_getLimb
theorem g_RX5_107 : GoodIn tb (wsV RX5 107 RX5 yX5_isFinished (Cond.code yX5_isFinished cX5_isFinished 2 (Option.some Jvm.ClassFile.FieldType.boolean) :: tb)) := gv m_l_RX5_107 m_i_yX5_isFinished m_e_yX5_isFinished m_n_RX5 m_c_yX5_isFinished
theorem g_RL_41 : GoodIn tb (wsV RL 41 RX5 yX5_sizeOf (Cond.code yX5_sizeOf cX5_sizeOf 2 (Option.some Jvm.ClassFile.FieldType.int) :: tb)) := gv m_l_RL_41 m_i_yX5_sizeOf m_e_yX5_sizeOf m_n_RX5 m_c_yX5_sizeOf
theorem g_RL_45 : GoodIn tb (wsV RL 45 RX5 yX5_release (Cond.code yX5_release cX5_release 3 (Option.some Jvm.ClassFile.FieldType.boolean) :: tb)) := gv m_l_RL_45 m_i_yX5_release m_e_yX5_release m_n_RX5 m_c_yX5_release
theorem g_RX5_116 : GoodIn tb (wsV RX5 116 RX5 yX5_vacate (Cond.code yX5_vacate cX5_vacate 2 none :: tb)) := gv m_l_RX5_116 m_i_yX5_vacate m_e_yX5_vacate m_n_RX5 m_c_yX5_vacate
theorem g_RX5_216 : GoodIn tb (wsV RX5 216 RX1 yX1_takeBack (Cond.code yX1_takeBack cX1_takeBack 5 none :: tb)) := gv m_l_RX5_216 m_i_yX1_takeBack m_e_yX1_takeBack m_n_RX1 m_c_yX1_takeBack
theorem g_RL_50 : GoodIn tb (wsV RL 50 RX5 yX5_submit (Cond.code yX5_submit cX5_submit 7 (Option.some Jvm.ClassFile.FieldType.int) :: tb)) := gv m_l_RL_50 m_i_yX5_submit m_e_yX5_submit m_n_RX5 m_c_yX5_submit
theorem g_RX5_119 : GoodIn tb (wsV RX5 119 RX5 yX5_isZero (Cond.code yX5_isZero cX5_isZero 2 (Option.some Jvm.ClassFile.FieldType.boolean) :: tb)) := gv m_l_RX5_119 m_i_yX5_isZero m_e_yX5_isZero m_n_RX5 m_c_yX5_isZero
theorem g_RX5_207 : GoodIn tb (wsV RX5 207 RX4 yX4_significant (Cond.code yX4_significant cX4_significant 4 (Option.some Jvm.ClassFile.FieldType.int) :: tb)) := gv m_l_RX5_207 m_i_yX4_significant m_e_yX4_significant m_n_RX4 m_c_yX4_significant
theorem g_RX5_122 : GoodIn tb (wsV RX5 122 RX5 yX5_leastFreeJob (Cond.code yX5_leastFreeJob cX5_leastFreeJob 2 (Option.some Jvm.ClassFile.FieldType.int) :: tb)) := gv m_l_RX5_122 m_i_yX5_leastFreeJob m_e_yX5_leastFreeJob m_n_RX5 m_c_yX5_leastFreeJob
theorem g_RX5_137 : GoodIn tb (wsV RX5 137 RX0 yX0_plan (Cond.code yX0_plan cX0_plan 7 none :: tb)) := gv m_l_RX5_137 m_i_yX0_plan m_e_yX0_plan m_n_RX0 m_c_yX0_plan
theorem g_RX0_27 : GoodIn tb (wsV RX0 27 RX0 yX0_need (Cond.code yX0_need cX0_need 7 none :: tb)) := gv m_l_RX0_27 m_i_yX0_need m_e_yX0_need m_n_RX0 m_c_yX0_need
theorem g_RX0_48 : GoodIn tb (va_wsS RX0 48 yX1_orderFor (Cond.code yX1_orderFor cX1_orderFor 3 (Option.some Jvm.ClassFile.FieldType.int) :: tb)) := gs m_l_RX0_48 m_s_yX1_orderFor m_n_RX1 m_c_yX1_orderFor
theorem g_RX0_33 : GoodIn tb (va_wsS RX0 33 yJ9_max_f86c9 (Cond.code yJ9_max_f86c9 cJ9_max_f86c9 4 (Option.some Jvm.ClassFile.FieldType.long) :: tb)) := gs m_l_RX0_33 m_s_yJ9_max_f86c9 m_n_RJ9 m_c_yJ9_max_f86c9
theorem g_RX5_144 : GoodIn tb (wsV RX5 144 RX5 yX5_changePins (Cond.code yX5_changePins cX5_changePins 3 none :: tb)) := gv m_l_RX5_144 m_i_yX5_changePins m_e_yX5_changePins m_n_RX5 m_c_yX5_changePins
theorem g_RX5_148 : GoodIn tb (wsV RX5 148 RX3 yX3_append (Cond.code yX3_append cX3_append 2 none :: tb)) := gv m_l_RX5_148 m_i_yX3_append m_e_yX3_append m_n_RX3 m_c_yX3_append
theorem g_RX3_19 : GoodIn tb (wsV RX3 19 RX3 yX3_slot (Cond.code yX3_slot cX3_slot 3 (Option.some Jvm.ClassFile.FieldType.int) :: tb)) := gv m_l_RX3_19 m_i_yX3_slot m_e_yX3_slot m_n_RX3 m_c_yX3_slot
theorem g_RL_55 : GoodIn tb (wsV RL 55 RX5 yX5_tick (Cond.code yX5_tick cX5_tick 1 (Option.some Jvm.ClassFile.FieldType.int) :: tb)) := gv m_l_RL_55 m_i_yX5_tick m_e_yX5_tick m_n_RX5 m_c_yX5_tick
theorem g_RX5_151 : GoodIn tb (wsV RX5 151 RX5 yX5_takeTurn (Cond.code yX5_takeTurn cX5_takeTurn 3 (Option.some Jvm.ClassFile.FieldType.int) :: tb)) := gv m_l_RX5_151 m_i_yX5_takeTurn m_e_yX5_takeTurn m_n_RX5 m_c_yX5_takeTurn
theorem g_RX5_220 : GoodIn tb (wsV RX5 220 RX3 yX3_takeFirst (Cond.code yX3_takeFirst cX3_takeFirst 2 (Option.some Jvm.ClassFile.FieldType.int) :: tb)) := gv m_l_RX5_220 m_i_yX3_takeFirst m_e_yX3_takeFirst m_n_RX3 m_c_yX3_takeFirst
theorem g_RX5_223 : GoodIn tb (wsV RX5 223 RX5 yX5_start (Cond.code yX5_start cX5_start 3 none :: tb)) := gv m_l_RX5_223 m_i_yX5_start m_e_yX5_start m_n_RX5 m_c_yX5_start
theorem g_RX5_238 : GoodIn tb (wsV RX5 238 RX1 yX1_canGive (Cond.code yX1_canGive cX1_canGive 6 (Option.some Jvm.ClassFile.FieldType.boolean) :: tb)) := gv m_l_RX5_238 m_i_yX1_canGive m_e_yX1_canGive m_n_RX1 m_c_yX1_canGive
theorem g_RX5_226 : GoodIn tb (wsV RX5 226 RX5 yX5_reckon (Cond.code yX5_reckon cX5_reckon 5 none :: tb)) := gv m_l_RX5_226 m_i_yX5_reckon m_e_yX5_reckon m_n_RX5 m_c_yX5_reckon
theorem g_RX5_248 : GoodIn tb (wsV RX5 248 RX4 yX4_addProduct (Cond.code yX4_addProduct cX4_addProduct 15 none :: tb)) := gv m_l_RX5_248 m_i_yX4_addProduct m_e_yX4_addProduct m_n_RX4 m_c_yX4_addProduct
theorem g_RX5_252 : GoodIn tb (wsV RX5 252 RX4 yX4_quotient (Cond.code yX4_quotient cX4_quotient 5 none :: tb)) := gv m_l_RX5_252 m_i_yX4_quotient m_e_yX4_quotient m_n_RX4 m_c_yX4_quotient
theorem g_RX4_26 : GoodIn tb (wsV RX4 26 RX4 yX4_chooseDivisor (Cond.code yX4_chooseDivisor cX4_chooseDivisor 8 (Option.some Jvm.ClassFile.FieldType.boolean) :: tb)) := gv m_l_RX4_26 m_i_yX4_chooseDivisor m_e_yX4_chooseDivisor m_n_RX4 m_c_yX4_chooseDivisor
theorem g_RX4_87 : GoodIn tb (wsV RX4 87 RX4 yX4_significant (Cond.code yX4_significant cX4_significant 4 (Option.some Jvm.ClassFile.FieldType.int) :: tb)) := gv m_l_RX4_87 m_i_yX4_significant m_e_yX4_significant m_n_RX4 m_c_yX4_significant
theorem g_RX4_30 : GoodIn tb (wsV RX4 30 RX4 yX4_load (Cond.code yX4_load cX4_load 3 none :: tb)) := gv m_l_RX4_30 m_i_yX4_load m_e_yX4_load m_n_RX4 m_c_yX4_load
theorem g_RX4_34 : GoodIn tb (wsV RX4 34 RX4 yX4_reduce (Cond.code yX4_reduce cX4_reduce 6 none :: tb)) := gv m_l_RX4_34 m_i_yX4_reduce m_e_yX4_reduce m_n_RX4 m_c_yX4_reduce
theorem g_RX4_75 : GoodIn tb (wsV RX4 75 RX4 yX4_guessDigit (Cond.code yX4_guessDigit cX4_guessDigit 14 (Option.some Jvm.ClassFile.FieldType.long) :: tb)) := gv m_l_RX4_75 m_i_yX4_guessDigit m_e_yX4_guessDigit m_n_RX4 m_c_yX4_guessDigit
theorem g_RX4_79 : GoodIn tb (wsV RX4 79 RX4 yX4_subtractTimes (Cond.code yX4_subtractTimes cX4_subtractTimes 11 (Option.some Jvm.ClassFile.FieldType.int) :: tb)) := gv m_l_RX4_79 m_i_yX4_subtractTimes m_e_yX4_subtractTimes m_n_RX4 m_c_yX4_subtractTimes
theorem g_RX5_256 : GoodIn tb (wsV RX5 256 RX4 yX4_greatestDivisor (Cond.code yX4_greatestDivisor cX4_greatestDivisor 13 none :: tb)) := gv m_l_RX5_256 m_i_yX4_greatestDivisor m_e_yX4_greatestDivisor m_n_RX4 m_c_yX4_greatestDivisor
theorem g_RX4_41 : GoodIn tb (va_wsS RX4 41 yJ9_min_7cf53 (Cond.code yJ9_min_7cf53 cJ9_min_7cf53 2 (Option.some Jvm.ClassFile.FieldType.int) :: tb)) := gs m_l_RX4_41 m_s_yJ9_min_7cf53 m_n_RJ9 m_c_yJ9_min_7cf53
theorem g_RX5_259 : GoodIn tb (wsV RX5 259 RX4 yX4_powerModulo (Cond.code yX4_powerModulo cX4_powerModulo 11 none :: tb)) := gv m_l_RX5_259 m_i_yX4_powerModulo m_e_yX4_powerModulo m_n_RX4 m_c_yX4_powerModulo
theorem g_RX4_56 : GoodIn tb (wsV RX4 56 RX4 yX4_isOne (Cond.code yX4_isOne cX4_isOne 3 (Option.some Jvm.ClassFile.FieldType.boolean) :: tb)) := gv m_l_RX4_56 m_i_yX4_isOne m_e_yX4_isOne m_n_RX4 m_c_yX4_isOne
theorem g_RX4_59 : GoodIn tb (wsV RX4 59 RX4 yX4_reduceToBase (Cond.code yX4_reduceToBase cX4_reduceToBase 5 none :: tb)) := gv m_l_RX4_59 m_i_yX4_reduceToBase m_e_yX4_reduceToBase m_n_RX4 m_c_yX4_reduceToBase
theorem g_RX4_69 : GoodIn tb (va_wsS RX4 69 yJ7_fill_fda19 (Cond.code yJ7_fill_fda19 cJ7_fill_fda19 5 none :: tb)) := gs m_l_RX4_69 m_s_yJ7_fill_fda19 m_n_RJ7 m_c_yJ7_fill_fda19
theorem g_RX4_63 : GoodIn tb (wsV RX4 63 RX4 yX4_multiplyModulo (Cond.code yX4_multiplyModulo cX4_multiplyModulo 5 none :: tb)) := gv m_l_RX4_63 m_i_yX4_multiplyModulo m_e_yX4_multiplyModulo m_n_RX4 m_c_yX4_multiplyModulo
theorem g_RX4_83 : GoodIn tb (wsV RX4 83 RX4 yX4_addProduct (Cond.code yX4_addProduct cX4_addProduct 15 none :: tb)) := gv m_l_RX4_83 m_i_yX4_addProduct m_e_yX4_addProduct m_n_RX4 m_c_yX4_addProduct
theorem g_RX4_66 : GoodIn tb (wsV RX4 66 RX4 yX4_hasBit (Cond.code yX4_hasBit cX4_hasBit 3 (Option.some Jvm.ClassFile.FieldType.boolean) :: tb)) := gv m_l_RX4_66 m_i_yX4_hasBit m_e_yX4_hasBit m_n_RX4 m_c_yX4_hasBit
theorem g_RX5_229 : GoodIn tb (wsV RX5 229 RX5 yX5_settle (Cond.code yX5_settle cX5_settle 2 none :: tb)) := gv m_l_RX5_229 m_i_yX5_settle m_e_yX5_settle m_n_RX5 m_c_yX5_settle
theorem g_RX5_170 : GoodIn tb (wsV RX5 170 RX5 yX5_giveUpRoom (Cond.code yX5_giveUpRoom cX5_giveUpRoom 2 none :: tb)) := gv m_l_RX5_170 m_i_yX5_giveUpRoom m_e_yX5_giveUpRoom m_n_RX5 m_c_yX5_giveUpRoom
theorem g_RX5_163 : GoodIn tb (wsV RX5 163 RX0 yX0_isQueued (Cond.code yX0_isQueued cX0_isQueued 1 (Option.some Jvm.ClassFile.FieldType.boolean) :: tb)) := gv m_l_RX5_163 m_i_yX0_isQueued m_e_yX0_isQueued m_n_RX0 m_c_yX0_isQueued
theorem g_RL_59 : GoodIn tb (wsV RL 59 RX5 yX5_run (Cond.code yX5_run cX5_run 3 (Option.some Jvm.ClassFile.FieldType.int) :: tb)) := gv m_l_RL_59 m_i_yX5_run m_e_yX5_run m_n_RX5 m_c_yX5_run
theorem g_RL_63 : GoodIn tb (wsV RL 63 RX5 yX5_jobState (Cond.code yX5_jobState cX5_jobState 2 (Option.some Jvm.ClassFile.FieldType.int) :: tb)) := gv m_l_RL_63 m_i_yX5_jobState m_e_yX5_jobState m_n_RX5 m_c_yX5_jobState
theorem g_RX5_154 : GoodIn tb (wsV RX5 154 RX5 yX5_isJob (Cond.code yX5_isJob cX5_isJob 2 (Option.some Jvm.ClassFile.FieldType.boolean) :: tb)) := gv m_l_RX5_154 m_i_yX5_isJob m_e_yX5_isJob m_n_RX5 m_c_yX5_isJob
theorem g_RL_67 : GoodIn tb (wsV RL 67 RX5 yX5_jobResult (Cond.code yX5_jobResult cX5_jobResult 2 (Option.some Jvm.ClassFile.FieldType.int) :: tb)) := gv m_l_RL_67 m_i_yX5_jobResult m_e_yX5_jobResult m_n_RX5 m_c_yX5_jobResult
theorem g_RL_71 : GoodIn tb (wsV RL 71 RX5 yX5_workLeft (Cond.code yX5_workLeft cX5_workLeft 2 (Option.some Jvm.ClassFile.FieldType.long) :: tb)) := gv m_l_RL_71 m_i_yX5_workLeft m_e_yX5_workLeft m_n_RX5 m_c_yX5_workLeft
theorem g_RL_76 : GoodIn tb (wsV RL 76 RX5 yX5_cancel (Cond.code yX5_cancel cX5_cancel 3 (Option.some Jvm.ClassFile.FieldType.boolean) :: tb)) := gv m_l_RL_76 m_i_yX5_cancel m_e_yX5_cancel m_n_RX5 m_c_yX5_cancel
theorem g_RX5_167 : GoodIn tb (wsV RX5 167 RX3 yX3_drop (Cond.code yX3_drop cX3_drop 5 none :: tb)) := gv m_l_RX5_167 m_i_yX3_drop m_e_yX3_drop m_n_RX3 m_c_yX3_drop
theorem g_RX3_26 : GoodIn tb (wsV RX3 26 RX3 yX3_takeFirst (Cond.code yX3_takeFirst cX3_takeFirst 2 (Option.some Jvm.ClassFile.FieldType.int) :: tb)) := gv m_l_RX3_26 m_i_yX3_takeFirst m_e_yX3_takeFirst m_n_RX3 m_c_yX3_takeFirst
theorem g_RX3_30 : GoodIn tb (wsV RX3 30 RX3 yX3_append (Cond.code yX3_append cX3_append 2 none :: tb)) := gv m_l_RX3_30 m_i_yX3_append m_e_yX3_append m_n_RX3 m_c_yX3_append
theorem g_RL_80 : GoodIn tb (wsV RL 80 RX5 yX5_forget (Cond.code yX5_forget cX5_forget 2 (Option.some Jvm.ClassFile.FieldType.boolean) :: tb)) := gv m_l_RL_80 m_i_yX5_forget m_e_yX5_forget m_n_RX5 m_c_yX5_forget
theorem g_RL_84 : GoodIn tb (wsV RL 84 RX5 yX5_freeCells (Cond.code yX5_freeCells cX5_freeCells 1 (Option.some Jvm.ClassFile.FieldType.int) :: tb)) := gv m_l_RL_84 m_i_yX5_freeCells m_e_yX5_freeCells m_n_RX5 m_c_yX5_freeCells
theorem g_RX5_174 : GoodIn tb (wsV RX5 174 RX1 yX1_freeLimbs (Cond.code yX1_freeLimbs cX1_freeLimbs 3 (Option.some Jvm.ClassFile.FieldType.int) :: tb)) := gv m_l_RX5_174 m_i_yX1_freeLimbs m_e_yX1_freeLimbs m_n_RX1 m_c_yX1_freeLimbs
theorem g_RL_88 : GoodIn tb (wsV RL 88 RX5 yX5_freeBlock (Cond.code yX5_freeBlock cX5_freeBlock 3 (Option.some Jvm.ClassFile.FieldType.int) :: tb)) := gv m_l_RL_88 m_i_yX5_freeBlock m_e_yX5_freeBlock m_n_RX5 m_c_yX5_freeBlock
theorem g_RX5_183 : GoodIn tb (wsV RX5 183 RX1 yX1_addressOfFree (Cond.code yX1_addressOfFree cX1_addressOfFree 5 (Option.some Jvm.ClassFile.FieldType.int) :: tb)) := gv m_l_RX5_183 m_i_yX1_addressOfFree m_e_yX1_addressOfFree m_n_RX1 m_c_yX1_addressOfFree
theorem g_RL_92 : GoodIn tb (wsV RL 92 RX5 yX5_number (Cond.code yX5_number cX5_number 3 (Option.some Jvm.ClassFile.FieldType.int) :: tb)) := gv m_l_RL_92 m_i_yX5_number m_e_yX5_number m_n_RX5 m_c_yX5_number
theorem g_RL_96 : GoodIn tb (wsV RL 96 RX5 yX5_count (Cond.code yX5_count cX5_count 3 (Option.some Jvm.ClassFile.FieldType.int) :: tb)) := gv m_l_RL_96 m_i_yX5_count m_e_yX5_count m_n_RX5 m_c_yX5_count
theorem g_RX5_193 : GoodIn tb (wsV RX5 193 RX3 yX3_at (Cond.code yX3_at cX3_at 2 (Option.some Jvm.ClassFile.FieldType.int) :: tb)) := gv m_l_RX5_193 m_i_yX3_at m_e_yX3_at m_n_RX3 m_c_yX3_at
theorem g_RL_9 : GoodIn tb (va_wsS RL 9 yL_cell (Cond.code yL_cell cL_cell 2 (Option.some Jvm.ClassFile.FieldType.int) :: tb)) := gs m_l_RL_9 m_s_yL_cell m_n_RL m_c_yL_cell
theorem g_RL_20 : GoodIn tb (Cond.code yX6_init cX6_init 5 none :: tb) := gi m_c_yX6_init
theorem g_RX6_81 : GoodIn tb (va_wsS RX6 81 yX6_within (Cond.code yX6_within cX6_within 3 (Option.some Jvm.ClassFile.FieldType.int) :: tb)) := gs m_l_RX6_81 m_s_yX6_within m_n_RX6 m_c_yX6_within
theorem g_RX6_98 : GoodIn tb (wsV RX6 98 RX6 yX6_begin (Cond.code yX6_begin cX6_begin 2 none :: tb)) := gv m_l_RX6_98 m_i_yX6_begin m_e_yX6_begin m_n_RX6 m_c_yX6_begin
theorem g_RL_25 : GoodIn tb (wsV RL 25 RX6 yX6_init_ (Cond.code yX6_init_ cX6_init_ 2 (Option.some Jvm.ClassFile.FieldType.int) :: tb)) := gv m_l_RL_25 m_i_yX6_init_ m_e_yX6_init_ m_n_RX6 m_c_yX6_init_
theorem g_RX6_107 : GoodIn tb (wsV RX6 107 RX6 yX6_handlesInUse (Cond.code yX6_handlesInUse cX6_handlesInUse 3 (Option.some Jvm.ClassFile.FieldType.int) :: tb)) := gv m_l_RX6_107 m_i_yX6_handlesInUse m_e_yX6_handlesInUse m_n_RX6 m_c_yX6_handlesInUse
theorem g_RX6_111 : GoodIn tb (wsV RX6 111 RX6 yX6_jobsThere (Cond.code yX6_jobsThere cX6_jobsThere 3 (Option.some Jvm.ClassFile.FieldType.int) :: tb)) := gv m_l_RX6_111 m_i_yX6_jobsThere m_e_yX6_jobsThere m_n_RX6 m_c_yX6_jobsThere
theorem g_RL_30 : GoodIn tb (wsV RL 30 RX6 yX6_newNumber (Cond.code yX6_newNumber cX6_newNumber 4 (Option.some Jvm.ClassFile.FieldType.int) :: tb)) := gv m_l_RL_30 m_i_yX6_newNumber m_e_yX6_newNumber m_n_RX6 m_c_yX6_newNumber
theorem g_RX6_114 : GoodIn tb (wsV RX6 114 RX6 yX6_pool (Cond.code yX6_pool cX6_pool 1 (Option.some Jvm.ClassFile.FieldType.int) :: tb)) := gv m_l_RX6_114 m_i_yX6_pool m_e_yX6_pool m_n_RX6 m_c_yX6_pool
theorem g_RX6_121 : GoodIn tb (wsV RX6 121 RX6 yX6_freeHandle (Cond.code yX6_freeHandle cX6_freeHandle 2 (Option.some Jvm.ClassFile.FieldType.int) :: tb)) := gv m_l_RX6_121 m_i_yX6_freeHandle m_e_yX6_freeHandle m_n_RX6 m_c_yX6_freeHandle
theorem g_RX6_117 : GoodIn tb (va_wsS RX6 117 yX6_orderFor (Cond.code yX6_orderFor cX6_orderFor 2 (Option.some Jvm.ClassFile.FieldType.int) :: tb)) := gs m_l_RX6_117 m_s_yX6_orderFor m_n_RX6 m_c_yX6_orderFor
theorem g_RX6_124 : GoodIn tb (wsV RX6 124 RX6 yX6_give (Cond.code yX6_give cX6_give 4 (Option.some Jvm.ClassFile.FieldType.int) :: tb)) := gv m_l_RX6_124 m_i_yX6_give m_e_yX6_give m_n_RX6 m_c_yX6_give
theorem g_RX6_127 : GoodIn tb (wsV RX6 127 RX6 yX6_make (Cond.code yX6_make cX6_make 5 none :: tb)) := gv m_l_RX6_127 m_i_yX6_make m_e_yX6_make m_n_RX6 m_c_yX6_make
theorem g_RL_35 : GoodIn tb (wsV RL 35 RX6 yX6_setLimb (Cond.code yX6_setLimb cX6_setLimb 5 (Option.some Jvm.ClassFile.FieldType.boolean) :: tb)) := gv m_l_RL_35 m_i_yX6_setLimb m_e_yX6_setLimb m_n_RX6 m_c_yX6_setLimb
theorem g_RX6_131 : GoodIn tb (wsV RX6 131 RX6 yX6_isThere (Cond.code yX6_isThere cX6_isThere 2 (Option.some Jvm.ClassFile.FieldType.boolean) :: tb)) := gv m_l_RX6_131 m_i_yX6_isThere m_e_yX6_isThere m_n_RX6 m_c_yX6_isThere
theorem g_RL_40 : GoodIn tb (wsV RL 40 RX6 yX6_getLimb (Cond.code yX6_getLimb cX6_getLimb 3 (Option.some Jvm.ClassFile.FieldType.int) :: tb)) := gv m_l_RL_40 m_i_yX6_getLimb m_e_yX6_getLimb m_n_RX6 m_c_yX6_getLimb
theorem g_RL_44 : GoodIn tb (wsV RL 44 RX6 yX6_sizeOf (Cond.code yX6_sizeOf cX6_sizeOf 2 (Option.some Jvm.ClassFile.FieldType.int) :: tb)) := gv m_l_RL_44 m_i_yX6_sizeOf m_e_yX6_sizeOf m_n_RX6 m_c_yX6_sizeOf
theorem g_RL_49 : GoodIn tb (wsV RL 49 RX6 yX6_release (Cond.code yX6_release cX6_release 2 (Option.some Jvm.ClassFile.FieldType.boolean) :: tb)) := gv m_l_RL_49 m_i_yX6_release m_e_yX6_release m_n_RX6 m_c_yX6_release
theorem g_RX6_139 : GoodIn tb (wsV RX6 139 RX6 yX6_go (Cond.code yX6_go cX6_go 3 none :: tb)) := gv m_l_RX6_139 m_i_yX6_go m_e_yX6_go m_n_RX6 m_c_yX6_go
theorem g_RX6_135 : GoodIn tb (wsV RX6 135 RX6 yX6_free (Cond.code yX6_free cX6_free 7 none :: tb)) := gv m_l_RX6_135 m_i_yX6_free m_e_yX6_free m_n_RX6 m_c_yX6_free
theorem g_RL_54 : GoodIn tb (wsV RL 54 RX6 yX6_submit (Cond.code yX6_submit cX6_submit 13 (Option.some Jvm.ClassFile.FieldType.int) :: tb)) := gv m_l_RL_54 m_i_yX6_submit m_e_yX6_submit m_n_RX6 m_c_yX6_submit
theorem g_RX6_143 : GoodIn tb (wsV RX6 143 RX6 yX6_isOperand (Cond.code yX6_isOperand cX6_isOperand 2 (Option.some Jvm.ClassFile.FieldType.boolean) :: tb)) := gv m_l_RX6_143 m_i_yX6_isOperand m_e_yX6_isOperand m_n_RX6 m_c_yX6_isOperand
theorem g_RX6_146 : GoodIn tb (wsV RX6 146 RX6 yX6_length (Cond.code yX6_length cX6_length 3 (Option.some Jvm.ClassFile.FieldType.int) :: tb)) := gv m_l_RX6_146 m_i_yX6_length m_e_yX6_length m_n_RX6 m_c_yX6_length
theorem g_RL_58 : GoodIn tb (wsV RL 58 RX6 yX6_tick (Cond.code yX6_tick cX6_tick 3 (Option.some Jvm.ClassFile.FieldType.int) :: tb)) := gv m_l_RL_58 m_i_yX6_tick m_e_yX6_tick m_n_RX6 m_c_yX6_tick
theorem g_RX6_162 : GoodIn tb (wsV RX6 162 RX6 yX6_start (Cond.code yX6_start cX6_start 7 none :: tb)) := gv m_l_RX6_162 m_i_yX6_start m_e_yX6_start m_n_RX6 m_c_yX6_start
theorem g_RX6_153 : GoodIn tb (wsV RX6 153 RX6 yX6_resultSize (Cond.code yX6_resultSize cX6_resultSize 4 (Option.some Jvm.ClassFile.FieldType.int) :: tb)) := gv m_l_RX6_153 m_i_yX6_resultSize m_e_yX6_resultSize m_n_RX6 m_c_yX6_resultSize
theorem g_RX6_156 : GoodIn tb (wsV RX6 156 RX6 yX6_roomSize (Cond.code yX6_roomSize cX6_roomSize 4 (Option.some Jvm.ClassFile.FieldType.int) :: tb)) := gv m_l_RX6_156 m_i_yX6_roomSize m_e_yX6_roomSize m_n_RX6 m_c_yX6_roomSize
theorem g_RX6_165 : GoodIn tb (wsV RX6 165 RX6 yX6_reckon (Cond.code yX6_reckon cX6_reckon 5 none :: tb)) := gv m_l_RX6_165 m_i_yX6_reckon m_e_yX6_reckon m_n_RX6 m_c_yX6_reckon
theorem g_RX6_203 : GoodIn tb (wsV RX6 203 RX6 yX6_loadU (Cond.code yX6_loadU cX6_loadU 3 none :: tb)) := gv m_l_RX6_203 m_i_yX6_loadU m_e_yX6_loadU m_n_RX6 m_c_yX6_loadU
theorem g_RX6_206 : GoodIn tb (wsV RX6 206 RX6 yX6_uToR (Cond.code yX6_uToR cX6_uToR 2 none :: tb)) := gv m_l_RX6_206 m_i_yX6_uToR m_e_yX6_uToR m_n_RX6 m_c_yX6_uToR
theorem g_RX6_209 : GoodIn tb (wsV RX6 209 RX6 yX6_times (Cond.code yX6_times cX6_times 9 none :: tb)) := gv m_l_RX6_209 m_i_yX6_times m_e_yX6_times m_n_RX6 m_c_yX6_times
theorem g_RX6_213 : GoodIn tb (wsV RX6 213 RX6 yX6_putU (Cond.code yX6_putU cX6_putU 3 none :: tb)) := gv m_l_RX6_213 m_i_yX6_putU m_e_yX6_putU m_n_RX6 m_c_yX6_putU
theorem g_RX6_216 : GoodIn tb (wsV RX6 216 RX6 yX6_loadV (Cond.code yX6_loadV cX6_loadV 3 none :: tb)) := gv m_l_RX6_216 m_i_yX6_loadV m_e_yX6_loadV m_n_RX6 m_c_yX6_loadV
theorem g_RX6_219 : GoodIn tb (wsV RX6 219 RX6 yX6_divide (Cond.code yX6_divide cX6_divide 5 none :: tb)) := gv m_l_RX6_219 m_i_yX6_divide m_e_yX6_divide m_n_RX6 m_c_yX6_divide
theorem g_RX6_186 : GoodIn tb (wsV RX6 186 RX6 yX6_shiftOfV (Cond.code yX6_shiftOfV cX6_shiftOfV 2 (Option.some Jvm.ClassFile.FieldType.int) :: tb)) := gv m_l_RX6_186 m_i_yX6_shiftOfV m_e_yX6_shiftOfV m_n_RX6 m_c_yX6_shiftOfV
theorem g_RX6_191 : GoodIn tb (wsV RX6 191 RX6 yX6_digit (Cond.code yX6_digit cX6_digit 21 (Option.some Jvm.ClassFile.FieldType.long) :: tb)) := gv m_l_RX6_191 m_i_yX6_digit m_e_yX6_digit m_n_RX6 m_c_yX6_digit
theorem g_RX6_222 : GoodIn tb (wsV RX6 222 RX6 yX6_common (Cond.code yX6_common cX6_common 5 none :: tb)) := gv m_l_RX6_222 m_i_yX6_common m_e_yX6_common m_n_RX6 m_c_yX6_common
theorem g_RX6_225 : GoodIn tb (wsV RX6 225 RX6 yX6_power (Cond.code yX6_power cX6_power 4 none :: tb)) := gv m_l_RX6_225 m_i_yX6_power m_e_yX6_power m_n_RX6 m_c_yX6_power
theorem g_RX6_168 : GoodIn tb (wsV RX6 168 RX6 yX6_leave (Cond.code yX6_leave cX6_leave 4 none :: tb)) := gv m_l_RX6_168 m_i_yX6_leave m_e_yX6_leave m_n_RX6 m_c_yX6_leave
theorem g_RX6_159 : GoodIn tb (wsV RX6 159 RX6 yX6_unpin (Cond.code yX6_unpin cX6_unpin 2 none :: tb)) := gv m_l_RX6_159 m_i_yX6_unpin m_e_yX6_unpin m_n_RX6 m_c_yX6_unpin
theorem g_RL_62 : GoodIn tb (wsV RL 62 RX6 yX6_run (Cond.code yX6_run cX6_run 4 (Option.some Jvm.ClassFile.FieldType.int) :: tb)) := gv m_l_RL_62 m_i_yX6_run m_e_yX6_run m_n_RX6 m_c_yX6_run
theorem g_RX6_171 : GoodIn tb (wsV RX6 171 RX6 yX6_tick (Cond.code yX6_tick cX6_tick 3 (Option.some Jvm.ClassFile.FieldType.int) :: tb)) := gv m_l_RX6_171 m_i_yX6_tick m_e_yX6_tick m_n_RX6 m_c_yX6_tick
theorem g_RL_66 : GoodIn tb (wsV RL 66 RX6 yX6_jobState (Cond.code yX6_jobState cX6_jobState 2 (Option.some Jvm.ClassFile.FieldType.int) :: tb)) := gv m_l_RL_66 m_i_yX6_jobState m_e_yX6_jobState m_n_RX6 m_c_yX6_jobState
theorem g_RX6_174 : GoodIn tb (wsV RX6 174 RX6 yX6_isJob (Cond.code yX6_isJob cX6_isJob 2 (Option.some Jvm.ClassFile.FieldType.boolean) :: tb)) := gv m_l_RX6_174 m_i_yX6_isJob m_e_yX6_isJob m_n_RX6 m_c_yX6_isJob
theorem g_RL_70 : GoodIn tb (wsV RL 70 RX6 yX6_jobResult (Cond.code yX6_jobResult cX6_jobResult 2 (Option.some Jvm.ClassFile.FieldType.int) :: tb)) := gv m_l_RL_70 m_i_yX6_jobResult m_e_yX6_jobResult m_n_RX6 m_c_yX6_jobResult
theorem g_RL_75 : GoodIn tb (wsV RL 75 RX6 yX6_workLeft (Cond.code yX6_workLeft cX6_workLeft 2 (Option.some Jvm.ClassFile.FieldType.long) :: tb)) := gv m_l_RL_75 m_i_yX6_workLeft m_e_yX6_workLeft m_n_RX6 m_c_yX6_workLeft
theorem g_RL_79 : GoodIn tb (wsV RL 79 RX6 yX6_cancel (Cond.code yX6_cancel cX6_cancel 3 (Option.some Jvm.ClassFile.FieldType.boolean) :: tb)) := gv m_l_RL_79 m_i_yX6_cancel m_e_yX6_cancel m_n_RX6 m_c_yX6_cancel
theorem g_RL_83 : GoodIn tb (wsV RL 83 RX6 yX6_forget (Cond.code yX6_forget cX6_forget 2 (Option.some Jvm.ClassFile.FieldType.boolean) :: tb)) := gv m_l_RL_83 m_i_yX6_forget m_e_yX6_forget m_n_RX6 m_c_yX6_forget
theorem g_RL_87 : GoodIn tb (wsV RL 87 RX6 yX6_freeCells (Cond.code yX6_freeCells cX6_freeCells 3 (Option.some Jvm.ClassFile.FieldType.int) :: tb)) := gv m_l_RL_87 m_i_yX6_freeCells m_e_yX6_freeCells m_n_RX6 m_c_yX6_freeCells
theorem g_RL_91 : GoodIn tb (wsV RL 91 RX6 yX6_freeBlock (Cond.code yX6_freeBlock cX6_freeBlock 5 (Option.some Jvm.ClassFile.FieldType.int) :: tb)) := gv m_l_RL_91 m_i_yX6_freeBlock m_e_yX6_freeBlock m_n_RX6 m_c_yX6_freeBlock
theorem g_RL_95 : GoodIn tb (wsV RL 95 RX6 yX6_number (Cond.code yX6_number cX6_number 3 (Option.some Jvm.ClassFile.FieldType.int) :: tb)) := gv m_l_RL_95 m_i_yX6_number m_e_yX6_number m_n_RX6 m_c_yX6_number
theorem g_RL_99 : GoodIn tb (wsV RL 99 RX6 yX6_count (Cond.code yX6_count cX6_count 3 (Option.some Jvm.ClassFile.FieldType.int) :: tb)) := gv m_l_RL_99 m_i_yX6_count m_e_yX6_count m_n_RX6 m_c_yX6_count
