/-! ===== the tables' good words, each by its place ===== -/
def wsA : List Cond := lw_tbl.filter goodWord
theorem inA {w : Cond} (h : w ∈ lw_tbl) (hg : goodWord w = true) : w ∈ wsA := List.mem_filter.mpr ⟨h, hg⟩
theorem tb1 {w : Cond} (h : w ∈ tables_1_1) : w ∈ lw_tbl := List.mem_append_right _ (List.mem_append_left _ h)
theorem tb2 {w : Cond} (h : w ∈ tables_1_2) : w ∈ lw_tbl := List.mem_append_right _ (List.mem_append_right _ (List.mem_append_left _ h))
theorem tb3 {w : Cond} (h : w ∈ tables_1_3) : w ∈ lw_tbl := List.mem_append_right _ (List.mem_append_right _ (List.mem_append_right _ (List.mem_append_left _ h)))
theorem tb4 {w : Cond} (h : w ∈ tables_1_4) : w ∈ lw_tbl := List.mem_append_right _ (List.mem_append_right _ (List.mem_append_right _ (List.mem_append_right _ h)))
theorem tbs {q : MethodName × Nat} (h : q ∈ lw_privs) : Cond.selects q.1.cls q.1 q.1 ∈ lw_tbl := List.mem_append_left _ (List.mem_map.mpr ⟨q, h, rfl⟩)
theorem mN_L : Cond.initialized RL ∈ wsA := inA (tb1 (List.mem_of_getElem? (i := 0) rfl)) rfl
theorem mN_X5 : Cond.initialized RX5 ∈ wsA := inA (tb1 (List.mem_of_getElem? (i := 1) rfl)) rfl
theorem mN_X1 : Cond.initialized RX1 ∈ wsA := inA (tb1 (List.mem_of_getElem? (i := 2) rfl)) rfl
theorem mN_X0 : Cond.initialized RX0 ∈ wsA := inA (tb1 (List.mem_of_getElem? (i := 3) rfl)) rfl
theorem mN_X2 : Cond.initialized RX2 ∈ wsA := inA (tb1 (List.mem_of_getElem? (i := 4) rfl)) rfl
theorem mN_X4 : Cond.initialized RX4 ∈ wsA := inA (tb1 (List.mem_of_getElem? (i := 5) rfl)) rfl
theorem mN_X3 : Cond.initialized RX3 ∈ wsA := inA (tb1 (List.mem_of_getElem? (i := 6) rfl)) rfl
theorem mN_X6 : Cond.initialized RX6 ∈ wsA := inA (tb1 (List.mem_of_getElem? (i := 7) rfl)) rfl
theorem mN_J0 : Cond.initialized RJ0 ∈ wsA := inA (tb1 (List.mem_of_getElem? (i := 8) rfl)) rfl
theorem mN_J1 : Cond.initialized RJ1 ∈ wsA := inA (tb1 (List.mem_of_getElem? (i := 9) rfl)) rfl
theorem mN_J9 : Cond.initialized RJ9 ∈ wsA := inA (tb1 (List.mem_of_getElem? (i := 10) rfl)) rfl
theorem mN_J2 : Cond.initialized RJ2 ∈ wsA := inA (tb1 (List.mem_of_getElem? (i := 11) rfl)) rfl
theorem mN_J3 : Cond.initialized RJ3 ∈ wsA := inA (tb1 (List.mem_of_getElem? (i := 12) rfl)) rfl
theorem mN_J11 : Cond.initialized RJ11 ∈ wsA := inA (tb1 (List.mem_of_getElem? (i := 13) rfl)) rfl
theorem mN_J6 : Cond.initialized RJ6 ∈ wsA := inA (tb1 (List.mem_of_getElem? (i := 14) rfl)) rfl
theorem mN_J10 : Cond.initialized RJ10 ∈ wsA := inA (tb1 (List.mem_of_getElem? (i := 15) rfl)) rfl
theorem mQ_L_7 : Cond.classLink RL 7 RX5 ∈ wsA := inA (tb1 (List.mem_of_getElem? (i := 16) rfl)) rfl
theorem mB_X5 : Cond.instantiable RX5 8 ∈ wsA := inA (tb1 (List.mem_of_getElem? (i := 17) rfl)) rfl
theorem mL_L_9 : Cond.methodLink RL 9 yX5_init ∈ wsA := inA (tb1 (List.mem_of_getElem? (i := 18) rfl)) rfl
theorem mI_X5_init : Cond.instanceMethod yX5_init ∈ wsA := inA (tb1 (List.mem_of_getElem? (i := 19) rfl)) rfl
theorem mC_X5_init : Cond.code yX5_init cX5_init 1 none ∈ wsA := inA (tb1 (List.mem_of_getElem? (i := 20) rfl)) rfl
theorem mL_X5_1 : Cond.methodLink RX5 1 objectInit ∈ wsA := inA (tb1 (List.mem_of_getElem? (i := 21) rfl)) rfl
theorem mI_objectInit : Cond.instanceMethod objectInit ∈ wsA := inA (tb1 (List.mem_of_getElem? (i := 22) rfl)) rfl
theorem mC_objectInit : Cond.code objectInit ⟨#[0xb1]⟩ 1 none ∈ wsA := inA (tb1 (List.mem_of_getElem? (i := 23) rfl)) rfl
theorem mQ_X5_7 : Cond.classLink RX5 7 RX1 ∈ wsA := inA (tb1 (List.mem_of_getElem? (i := 24) rfl)) rfl
theorem mB_X1 : Cond.instantiable RX1 2 ∈ wsA := inA (tb1 (List.mem_of_getElem? (i := 25) rfl)) rfl
theorem mL_X5_9 : Cond.methodLink RX5 9 yX1_init ∈ wsA := inA (tb1 (List.mem_of_getElem? (i := 26) rfl)) rfl
theorem mI_X1_init : Cond.instanceMethod yX1_init ∈ wsA := inA (tb1 (List.mem_of_getElem? (i := 27) rfl)) rfl
theorem mC_X1_init : Cond.code yX1_init cX1_init 1 none ∈ wsA := inA (tb1 (List.mem_of_getElem? (i := 28) rfl)) rfl
theorem mL_X1_3 : Cond.methodLink RX1 3 objectInit ∈ wsA := inA (tb1 (List.mem_of_getElem? (i := 29) rfl)) rfl
theorem mF_X1_9 : Cond.fieldLink RX1 9 "DugBySaid$Page" "codes" "[I" ∈ wsA := inA (tb1 (List.mem_of_getElem? (i := 30) rfl)) rfl
theorem mF_X1_15 : Cond.fieldLink RX1 15 "DugBySaid$Page" "length" "I" ∈ wsA := inA (tb1 (List.mem_of_getElem? (i := 31) rfl)) rfl
theorem mA_int : Cond.arrayClass .int ∈ wsA := inA (tb1 (List.mem_of_getElem? (i := 38) rfl)) rfl
theorem mQ_X5_16 : Cond.classLink RX5 16 RX0 ∈ wsA := inA (tb1 (List.mem_of_getElem? (i := 39) rfl)) rfl
theorem mB_X0 : Cond.instantiable RX0 3 ∈ wsA := inA (tb1 (List.mem_of_getElem? (i := 40) rfl)) rfl
theorem mL_X5_18 : Cond.methodLink RX5 18 yX0_init ∈ wsA := inA (tb1 (List.mem_of_getElem? (i := 41) rfl)) rfl
theorem mI_X0_init : Cond.instanceMethod yX0_init ∈ wsA := inA (tb1 (List.mem_of_getElem? (i := 42) rfl)) rfl
theorem mC_X0_init : Cond.code yX0_init cX0_init 1 none ∈ wsA := inA (tb1 (List.mem_of_getElem? (i := 43) rfl)) rfl
theorem mL_X0_3 : Cond.methodLink RX0 3 objectInit ∈ wsA := inA (tb1 (List.mem_of_getElem? (i := 44) rfl)) rfl
theorem mF_X0_9 : Cond.fieldLink RX0 9 "DugBySaid$Hill" "kinds" "[I" ∈ wsA := inA (tb1 (List.mem_of_getElem? (i := 45) rfl)) rfl
theorem mF_X0_15 : Cond.fieldLink RX0 15 "DugBySaid$Hill" "people" "I" ∈ wsA := inA (tb1 (List.mem_of_getElem? (i := 46) rfl)) rfl
theorem mF_X0_19 : Cond.fieldLink RX0 19 "DugBySaid$Hill" "river" "I" ∈ wsA := inA (tb1 (List.mem_of_getElem? (i := 50) rfl)) rfl
theorem mQ_X5_23 : Cond.classLink RX5 23 RX2 ∈ wsA := inA (tb1 (List.mem_of_getElem? (i := 59) rfl)) rfl
theorem mB_X2 : Cond.instantiable RX2 10 ∈ wsA := inA (tb1 (List.mem_of_getElem? (i := 60) rfl)) rfl
theorem mL_X5_25 : Cond.methodLink RX5 25 yX2_init ∈ wsA := inA (tb1 (List.mem_of_getElem? (i := 61) rfl)) rfl
theorem mI_X2_init : Cond.instanceMethod yX2_init ∈ wsA := inA (tb1 (List.mem_of_getElem? (i := 62) rfl)) rfl
theorem mC_X2_init : Cond.code yX2_init cX2_init 1 none ∈ wsA := inA (tb1 (List.mem_of_getElem? (i := 63) rfl)) rfl
theorem mL_X2_3 : Cond.methodLink RX2 3 objectInit ∈ wsA := inA (tb1 (List.mem_of_getElem? (i := 64) rfl)) rfl
theorem mF_X2_9 : Cond.fieldLink RX2 9 "DugBySaid$Past" "nexts" "[I" ∈ wsA := inA (tb1 (List.mem_of_getElem? (i := 65) rfl)) rfl
theorem mF_X2_15 : Cond.fieldLink RX2 15 "DugBySaid$Past" "listeners" "[I" ∈ wsA := inA (tb1 (List.mem_of_getElem? (i := 66) rfl)) rfl
theorem mF_X2_18 : Cond.fieldLink RX2 18 "DugBySaid$Past" "heard" "[I" ∈ wsA := inA (tb1 (List.mem_of_getElem? (i := 67) rfl)) rfl
theorem mF_X2_21 : Cond.fieldLink RX2 21 "DugBySaid$Past" "last" "[I" ∈ wsA := inA (tb1 (List.mem_of_getElem? (i := 69) rfl)) rfl
theorem mF_X2_24 : Cond.fieldLink RX2 24 "DugBySaid$Past" "denied" "[I" ∈ wsA := inA (tb1 (List.mem_of_getElem? (i := 71) rfl)) rfl
theorem mF_X2_27 : Cond.fieldLink RX2 27 "DugBySaid$Past" "askedWhom" "[I" ∈ wsA := inA (tb1 (List.mem_of_getElem? (i := 73) rfl)) rfl
theorem mF_X2_30 : Cond.fieldLink RX2 30 "DugBySaid$Past" "askedDay" "[I" ∈ wsA := inA (tb1 (List.mem_of_getElem? (i := 75) rfl)) rfl
theorem mF_X2_33 : Cond.fieldLink RX2 33 "DugBySaid$Past" "asked" "I" ∈ wsA := inA (tb1 (List.mem_of_getElem? (i := 77) rfl)) rfl
theorem mF_X2_37 : Cond.fieldLink RX2 37 "DugBySaid$Past" "days" "I" ∈ wsA := inA (tb1 (List.mem_of_getElem? (i := 80) rfl)) rfl
theorem mF_X2_40 : Cond.fieldLink RX2 40 "DugBySaid$Past" "changes" "I" ∈ wsA := inA (tb1 (List.mem_of_getElem? (i := 82) rfl)) rfl
theorem mQ_X5_33 : Cond.classLink RX5 33 RX4 ∈ wsA := inA (tb1 (List.mem_of_getElem? (i := 105) rfl)) rfl
theorem mB_X4 : Cond.instantiable RX4 2 ∈ wsA := inA (tb1 (List.mem_of_getElem? (i := 106) rfl)) rfl
theorem mL_X5_35 : Cond.methodLink RX5 35 yX4_init ∈ wsA := inA (tb1 (List.mem_of_getElem? (i := 107) rfl)) rfl
theorem mI_X4_init : Cond.instanceMethod yX4_init ∈ wsA := inA (tb1 (List.mem_of_getElem? (i := 108) rfl)) rfl
theorem mC_X4_init : Cond.code yX4_init cX4_init 3 none ∈ wsA := inA (tb1 (List.mem_of_getElem? (i := 109) rfl)) rfl
theorem mL_X4_3 : Cond.methodLink RX4 3 objectInit ∈ wsA := inA (tb1 (List.mem_of_getElem? (i := 110) rfl)) rfl
theorem mF_X4_9 : Cond.fieldLink RX4 9 "DugBySaid$Talk" "hill" "LDugBySaid$Hill;" ∈ wsA := inA (tb1 (List.mem_of_getElem? (i := 111) rfl)) rfl
theorem mF_X4_15 : Cond.fieldLink RX4 15 "DugBySaid$Talk" "past" "LDugBySaid$Past;" ∈ wsA := inA (tb1 (List.mem_of_getElem? (i := 112) rfl)) rfl
theorem mQ_X5_42 : Cond.classLink RX5 42 RX3 ∈ wsA := inA (tb1 (List.mem_of_getElem? (i := 118) rfl)) rfl
theorem mB_X3 : Cond.instantiable RX3 4 ∈ wsA := inA (tb1 (List.mem_of_getElem? (i := 119) rfl)) rfl
theorem mL_X5_44 : Cond.methodLink RX5 44 yX3_init ∈ wsA := inA (tb1 (List.mem_of_getElem? (i := 120) rfl)) rfl
theorem mI_X3_init : Cond.instanceMethod yX3_init ∈ wsA := inA (tb1 (List.mem_of_getElem? (i := 121) rfl)) rfl
theorem mC_X3_init : Cond.code yX3_init cX3_init 4 none ∈ wsA := inA (tb1 (List.mem_of_getElem? (i := 122) rfl)) rfl
theorem mL_X3_3 : Cond.methodLink RX3 3 objectInit ∈ wsA := inA (tb1 (List.mem_of_getElem? (i := 123) rfl)) rfl
theorem mF_X3_9 : Cond.fieldLink RX3 9 "DugBySaid$Riddle" "hill" "LDugBySaid$Hill;" ∈ wsA := inA (tb1 (List.mem_of_getElem? (i := 124) rfl)) rfl
theorem mF_X3_15 : Cond.fieldLink RX3 15 "DugBySaid$Riddle" "past" "LDugBySaid$Past;" ∈ wsA := inA (tb1 (List.mem_of_getElem? (i := 125) rfl)) rfl
theorem mF_X3_19 : Cond.fieldLink RX3 19 "DugBySaid$Riddle" "talk" "LDugBySaid$Talk;" ∈ wsA := inA (tb1 (List.mem_of_getElem? (i := 126) rfl)) rfl
theorem mF_X3_23 : Cond.fieldLink RX3 23 "DugBySaid$Riddle" "left" "[I" ∈ wsA := inA (tb1 (List.mem_of_getElem? (i := 127) rfl)) rfl
theorem mF_X5_10 : Cond.fieldLink RX5 10 "DugBySaid" "page" "LDugBySaid$Page;" ∈ wsA := inA (tb1 (List.mem_of_getElem? (i := 137) rfl)) rfl
theorem mF_X5_19 : Cond.fieldLink RX5 19 "DugBySaid" "ground" "LDugBySaid$Hill;" ∈ wsA := inA (tb1 (List.mem_of_getElem? (i := 138) rfl)) rfl
theorem mF_X5_26 : Cond.fieldLink RX5 26 "DugBySaid" "now" "LDugBySaid$Past;" ∈ wsA := inA (tb1 (List.mem_of_getElem? (i := 139) rfl)) rfl
theorem mF_X5_30 : Cond.fieldLink RX5 30 "DugBySaid" "kept" "LDugBySaid$Past;" ∈ wsA := inA (tb1 (List.mem_of_getElem? (i := 140) rfl)) rfl
theorem mF_X5_38 : Cond.fieldLink RX5 38 "DugBySaid" "talk" "LDugBySaid$Talk;" ∈ wsA := inA (tb1 (List.mem_of_getElem? (i := 141) rfl)) rfl
theorem mF_X5_47 : Cond.fieldLink RX5 47 "DugBySaid" "riddle" "LDugBySaid$Riddle;" ∈ wsA := inA (tb1 (List.mem_of_getElem? (i := 142) rfl)) rfl
theorem mF_X5_51 : Cond.fieldLink RX5 51 "DugBySaid" "hasImage" "Z" ∈ wsA := inA (tb1 (List.mem_of_getElem? (i := 143) rfl)) rfl
theorem mF_X5_55 : Cond.fieldLink RX5 55 "DugBySaid" "readings" "I" ∈ wsA := inA (tb1 (List.mem_of_getElem? (i := 144) rfl)) rfl
theorem mL_L_13 : Cond.methodLink RL 13 yX5_letter ∈ wsA := inA (tb1 (List.mem_of_getElem? (i := 162) rfl)) rfl
theorem mI_X5_letter : Cond.instanceMethod yX5_letter ∈ wsA := inA (tb1 (List.mem_of_getElem? (i := 163) rfl)) rfl
theorem mS_X5_letter : Cond.selects RX5 yX5_letter yX5_letter ∈ wsA := inA (tb1 (List.mem_of_getElem? (i := 164) rfl)) rfl
theorem mC_X5_letter : Cond.code yX5_letter cX5_letter 2 (some .int) ∈ wsA := inA (tb1 (List.mem_of_getElem? (i := 165) rfl)) rfl
theorem mL_X5_59 : Cond.methodLink RX5 59 yX1_put ∈ wsA := inA (tb1 (List.mem_of_getElem? (i := 166) rfl)) rfl
theorem mI_X1_put : Cond.instanceMethod yX1_put ∈ wsA := inA (tb1 (List.mem_of_getElem? (i := 167) rfl)) rfl
theorem mS_X1_put : Cond.selects RX1 yX1_put yX1_put ∈ wsA := inA (tb1 (List.mem_of_getElem? (i := 168) rfl)) rfl
theorem mC_X1_put : Cond.code yX1_put cX1_put 2 (some .boolean) ∈ wsA := inA (tb1 (List.mem_of_getElem? (i := 169) rfl)) rfl
theorem mL_L_18 : Cond.methodLink RL 18 yX5_blank ∈ wsA := inA (tb1 (List.mem_of_getElem? (i := 170) rfl)) rfl
theorem mI_X5_blank : Cond.instanceMethod yX5_blank ∈ wsA := inA (tb1 (List.mem_of_getElem? (i := 171) rfl)) rfl
theorem mS_X5_blank : Cond.selects RX5 yX5_blank yX5_blank ∈ wsA := inA (tb1 (List.mem_of_getElem? (i := 172) rfl)) rfl
theorem mC_X5_blank : Cond.code yX5_blank cX5_blank 2 (some .int) ∈ wsA := inA (tb1 (List.mem_of_getElem? (i := 173) rfl)) rfl
theorem mL_X5_66 : Cond.methodLink RX5 66 yX1_clear ∈ wsA := inA (tb1 (List.mem_of_getElem? (i := 174) rfl)) rfl
theorem mI_X1_clear : Cond.instanceMethod yX1_clear ∈ wsA := inA (tb1 (List.mem_of_getElem? (i := 175) rfl)) rfl
theorem mS_X1_clear : Cond.selects RX1 yX1_clear yX1_clear ∈ wsA := inA (tb1 (List.mem_of_getElem? (i := 176) rfl)) rfl
theorem mC_X1_clear : Cond.code yX1_clear cX1_clear 1 none ∈ wsA := inA (tb1 (List.mem_of_getElem? (i := 177) rfl)) rfl
theorem mL_L_23 : Cond.methodLink RL 23 yX5_fault ∈ wsA := inA (tb1 (List.mem_of_getElem? (i := 178) rfl)) rfl
theorem mI_X5_fault : Cond.instanceMethod yX5_fault ∈ wsA := inA (tb1 (List.mem_of_getElem? (i := 179) rfl)) rfl
theorem mS_X5_fault : Cond.selects RX5 yX5_fault yX5_fault ∈ wsA := inA (tb1 (List.mem_of_getElem? (i := 180) rfl)) rfl
theorem mC_X5_fault : Cond.code yX5_fault cX5_fault 1 (some .int) ∈ wsA := inA (tb1 (List.mem_of_getElem? (i := 181) rfl)) rfl
theorem mL_X5_69 : Cond.methodLink RX5 69 yX1_firstFault ∈ wsA := inA (tb1 (List.mem_of_getElem? (i := 182) rfl)) rfl
theorem mI_X1_firstFault : Cond.instanceMethod yX1_firstFault ∈ wsA := inA (tb1 (List.mem_of_getElem? (i := 183) rfl)) rfl
theorem mS_X1_firstFault : Cond.selects RX1 yX1_firstFault yX1_firstFault ∈ wsA := inA (tb1 (List.mem_of_getElem? (i := 184) rfl)) rfl
theorem mC_X1_firstFault : Cond.code yX1_firstFault cX1_firstFault 2 (some .int) ∈ wsA := inA (tb1 (List.mem_of_getElem? (i := 185) rfl)) rfl
theorem mL_X1_19 : Cond.methodLink RX1 19 yX1_fits ∈ wsA := inA (tb1 (List.mem_of_getElem? (i := 186) rfl)) rfl
theorem mI_X1_fits : Cond.instanceMethod yX1_fits ∈ wsA := inA (tb1 (List.mem_of_getElem? (i := 188) rfl)) rfl
theorem mC_X1_fits : Cond.code yX1_fits cX1_fits 4 (some .boolean) ∈ wsA := inA (tb1 (List.mem_of_getElem? (i := 189) rfl)) rfl
theorem mL_X1_23 : Cond.methodLink RX1 23 yX1_codeAt ∈ wsA := inA (tb1 (List.mem_of_getElem? (i := 190) rfl)) rfl
theorem mI_X1_codeAt : Cond.instanceMethod yX1_codeAt ∈ wsA := inA (tb1 (List.mem_of_getElem? (i := 191) rfl)) rfl
theorem mS_X1_codeAt : Cond.selects RX1 yX1_codeAt yX1_codeAt ∈ wsA := inA (tb1 (List.mem_of_getElem? (i := 192) rfl)) rfl
theorem mC_X1_codeAt : Cond.code yX1_codeAt cX1_codeAt 2 (some .int) ∈ wsA := inA (tb1 (List.mem_of_getElem? (i := 193) rfl)) rfl
theorem mL_X1_31 : Cond.methodLink RX1 31 yX1_kindOfLetter ∈ wsA := inA (tb1 (List.mem_of_getElem? (i := 194) rfl)) rfl
theorem mT_X1_kindOfLetter : Cond.static yX1_kindOfLetter ∈ wsA := inA (tb1 (List.mem_of_getElem? (i := 195) rfl)) rfl
theorem mC_X1_kindOfLetter : Cond.code yX1_kindOfLetter cX1_kindOfLetter 1 (some .int) ∈ wsA := inA (tb1 (List.mem_of_getElem? (i := 196) rfl)) rfl
theorem mL_X1_36 : Cond.methodLink RX1 36 yJ0_indexOf_0f7a4 ∈ wsA := inA (tb1 (List.mem_of_getElem? (i := 198) rfl)) rfl
theorem mI_J0_indexOf_0f7a4 : Cond.instanceMethod yJ0_indexOf_0f7a4 ∈ wsA := inA (tb1 (List.mem_of_getElem? (i := 199) rfl)) rfl
theorem mS_J0_indexOf_0f7a4 : Cond.selects RJ0 yJ0_indexOf_0f7a4 yJ0_indexOf_0f7a4 ∈ wsA := inA (tb1 (List.mem_of_getElem? (i := 200) rfl)) rfl
theorem mC_J0_indexOf_0f7a4 : Cond.code yJ0_indexOf_0f7a4 cJ0_indexOf_0f7a4 2 (some .int) ∈ wsA := inA (tb1 (List.mem_of_getElem? (i := 201) rfl)) rfl
theorem mL_J0_633 : Cond.methodLink RJ0 633 yJ0_indexOf_7cf53 ∈ wsA := inA (tb1 (List.mem_of_getElem? (i := 202) rfl)) rfl
theorem mI_J0_indexOf_7cf53 : Cond.instanceMethod yJ0_indexOf_7cf53 ∈ wsA := inA (tb1 (List.mem_of_getElem? (i := 203) rfl)) rfl
theorem mS_J0_indexOf_7cf53 : Cond.selects RJ0 yJ0_indexOf_7cf53 yJ0_indexOf_7cf53 ∈ wsA := inA (tb1 (List.mem_of_getElem? (i := 204) rfl)) rfl
theorem mC_J0_indexOf_7cf53 : Cond.code yJ0_indexOf_7cf53 cJ0_indexOf_7cf53 3 (some .int) ∈ wsA := inA (tb1 (List.mem_of_getElem? (i := 205) rfl)) rfl
theorem mL_J0_492 : Cond.methodLink RJ0 492 yJ0_isLatin1_aae02 ∈ wsA := inA (tb1 (List.mem_of_getElem? (i := 206) rfl)) rfl
theorem mI_J0_isLatin1_aae02 : Cond.instanceMethod yJ0_isLatin1_aae02 ∈ wsA := inA (tb1 (List.mem_of_getElem? (i := 207) rfl)) rfl
theorem mS_J0_isLatin1_aae02 : Cond.selects RJ0 yJ0_isLatin1_aae02 yJ0_isLatin1_aae02 ∈ wsA := inA (tb1 (List.mem_of_getElem? (i := 208) rfl)) rfl
theorem mC_J0_isLatin1_aae02 : Cond.code yJ0_isLatin1_aae02 cJ0_isLatin1_aae02 1 (some .boolean) ∈ wsA := inA (tb1 (List.mem_of_getElem? (i := 209) rfl)) rfl
theorem mF_J0_38 : Cond.fieldLink RJ0 38 "java/lang/String" "COMPACT_STRINGS" "Z" ∈ wsA := inA (tb1 (List.mem_of_getElem? (i := 210) rfl)) rfl
theorem mL_J0_505 : Cond.methodLink RJ0 505 yJ0_length_8abf5 ∈ wsA := inA (tb1 (List.mem_of_getElem? (i := 212) rfl)) rfl
theorem mI_J0_length_8abf5 : Cond.instanceMethod yJ0_length_8abf5 ∈ wsA := inA (tb1 (List.mem_of_getElem? (i := 213) rfl)) rfl
theorem mS_J0_length_8abf5 : Cond.selects RJ0 yJ0_length_8abf5 yJ0_length_8abf5 ∈ wsA := inA (tb1 (List.mem_of_getElem? (i := 214) rfl)) rfl
theorem mC_J0_length_8abf5 : Cond.code yJ0_length_8abf5 cJ0_length_8abf5 1 (some .int) ∈ wsA := inA (tb1 (List.mem_of_getElem? (i := 215) rfl)) rfl
theorem mL_J0_335 : Cond.methodLink RJ0 335 yJ0_coder_7d493 ∈ wsA := inA (tb1 (List.mem_of_getElem? (i := 216) rfl)) rfl
theorem mI_J0_coder_7d493 : Cond.instanceMethod yJ0_coder_7d493 ∈ wsA := inA (tb1 (List.mem_of_getElem? (i := 217) rfl)) rfl
theorem mS_J0_coder_7d493 : Cond.selects RJ0 yJ0_coder_7d493 yJ0_coder_7d493 ∈ wsA := inA (tb1 (List.mem_of_getElem? (i := 218) rfl)) rfl
theorem mC_J0_coder_7d493 : Cond.code yJ0_coder_7d493 cJ0_coder_7d493 1 (some .byte) ∈ wsA := inA (tb1 (List.mem_of_getElem? (i := 219) rfl)) rfl
theorem mL_J0_637 : Cond.methodLink RJ0 637 yJ1_indexOf_4cfef ∈ wsA := inA (tb1 (List.mem_of_getElem? (i := 220) rfl)) rfl
theorem mT_J1_indexOf_4cfef : Cond.static yJ1_indexOf_4cfef ∈ wsA := inA (tb1 (List.mem_of_getElem? (i := 221) rfl)) rfl
theorem mC_J1_indexOf_4cfef : Cond.code yJ1_indexOf_4cfef cJ1_indexOf_4cfef 4 (some .int) ∈ wsA := inA (tb1 (List.mem_of_getElem? (i := 222) rfl)) rfl
theorem mL_J1_88 : Cond.methodLink RJ1 88 yJ1_canEncode_9a6ad ∈ wsA := inA (tb1 (List.mem_of_getElem? (i := 223) rfl)) rfl
theorem mT_J1_canEncode_9a6ad : Cond.static yJ1_canEncode_9a6ad ∈ wsA := inA (tb1 (List.mem_of_getElem? (i := 224) rfl)) rfl
theorem mC_J1_canEncode_9a6ad : Cond.code yJ1_canEncode_9a6ad cJ1_canEncode_9a6ad 1 (some .boolean) ∈ wsA := inA (tb1 (List.mem_of_getElem? (i := 225) rfl)) rfl
theorem mL_J1_92 : Cond.methodLink RJ1 92 Lib.Math.max.name ∈ wsA := inA (tb1 (List.mem_of_getElem? (i := 226) rfl)) rfl
theorem mT_Lib_Math_max_name : Cond.static Lib.Math.max.name ∈ wsA := inA (tb1 (List.mem_of_getElem? (i := 227) rfl)) rfl
theorem mC_Lib_Math_max_name : Cond.code Lib.Math.max.name Lib.Math.max.code 2 (some .int) ∈ wsA := inA (tb1 (List.mem_of_getElem? (i := 228) rfl)) rfl
theorem mL_J1_38 : Cond.methodLink RJ1 38 Lib.Math.min.name ∈ wsA := inA (tb1 (List.mem_of_getElem? (i := 229) rfl)) rfl
theorem mT_Lib_Math_min_name : Cond.static Lib.Math.min.name ∈ wsA := inA (tb1 (List.mem_of_getElem? (i := 230) rfl)) rfl
theorem mC_Lib_Math_min_name : Cond.code Lib.Math.min.name Lib.Math.min.code 2 (some .int) ∈ wsA := inA (tb1 (List.mem_of_getElem? (i := 231) rfl)) rfl
theorem mL_J1_95 : Cond.methodLink RJ1 95 yJ1_indexOfChar_4cfef ∈ wsA := inA (tb1 (List.mem_of_getElem? (i := 232) rfl)) rfl
theorem mT_J1_indexOfChar_4cfef : Cond.static yJ1_indexOfChar_4cfef ∈ wsA := inA (tb1 (List.mem_of_getElem? (i := 233) rfl)) rfl
theorem mC_J1_indexOfChar_4cfef : Cond.code yJ1_indexOfChar_4cfef cJ1_indexOfChar_4cfef 6 (some .int) ∈ wsA := inA (tb1 (List.mem_of_getElem? (i := 234) rfl)) rfl
theorem mL_J0_640 : Cond.methodLink RJ0 640 yJ2_indexOf_4cfef ∈ wsA := inA (tb1 (List.mem_of_getElem? (i := 235) rfl)) rfl
theorem mT_J2_indexOf_4cfef : Cond.static yJ2_indexOf_4cfef ∈ wsA := inA (tb1 (List.mem_of_getElem? (i := 236) rfl)) rfl
theorem mC_J2_indexOf_4cfef : Cond.code yJ2_indexOf_4cfef cJ2_indexOf_4cfef 4 (some .int) ∈ wsA := inA (tb1 (List.mem_of_getElem? (i := 237) rfl)) rfl
theorem mL_J2_224 : Cond.methodLink RJ2 224 Lib.Math.max.name ∈ wsA := inA (tb1 (List.mem_of_getElem? (i := 238) rfl)) rfl
theorem mL_J2_183 : Cond.methodLink RJ2 183 Lib.Math.min.name ∈ wsA := inA (tb1 (List.mem_of_getElem? (i := 239) rfl)) rfl
theorem mK_J2_227 : Cond.constant RJ2 227 (65536) ∈ wsA := inA (tb2 (List.mem_of_getElem? (i := 0) rfl)) rfl
theorem mL_J2_228 : Cond.methodLink RJ2 228 yJ2_indexOfChar_4cfef ∈ wsA := inA (tb2 (List.mem_of_getElem? (i := 1) rfl)) rfl
theorem mT_J2_indexOfChar_4cfef : Cond.static yJ2_indexOfChar_4cfef ∈ wsA := inA (tb2 (List.mem_of_getElem? (i := 2) rfl)) rfl
theorem mC_J2_indexOfChar_4cfef : Cond.code yJ2_indexOfChar_4cfef cJ2_indexOfChar_4cfef 4 (some .int) ∈ wsA := inA (tb2 (List.mem_of_getElem? (i := 3) rfl)) rfl
theorem mL_J2_96 : Cond.methodLink RJ2 96 yJ2_checkBoundsBeginEnd_d044e ∈ wsA := inA (tb2 (List.mem_of_getElem? (i := 4) rfl)) rfl
theorem mT_J2_checkBoundsBeginEnd_d044e : Cond.static yJ2_checkBoundsBeginEnd_d044e ∈ wsA := inA (tb2 (List.mem_of_getElem? (i := 5) rfl)) rfl
theorem mC_J2_checkBoundsBeginEnd_d044e : Cond.code yJ2_checkBoundsBeginEnd_d044e cJ2_checkBoundsBeginEnd_d044e 3 none ∈ wsA := inA (tb2 (List.mem_of_getElem? (i := 6) rfl)) rfl
theorem mL_J2_48 : Cond.methodLink RJ2 48 yJ2_length_9d52b ∈ wsA := inA (tb2 (List.mem_of_getElem? (i := 7) rfl)) rfl
theorem mT_J2_length_9d52b : Cond.static yJ2_length_9d52b ∈ wsA := inA (tb2 (List.mem_of_getElem? (i := 8) rfl)) rfl
theorem mC_J2_length_9d52b : Cond.code yJ2_length_9d52b cJ2_length_9d52b 1 (some .int) ∈ wsA := inA (tb2 (List.mem_of_getElem? (i := 9) rfl)) rfl
theorem mL_J2_241 : Cond.methodLink RJ2 241 yJ0_checkBoundsBeginEnd_23922 ∈ wsA := inA (tb2 (List.mem_of_getElem? (i := 10) rfl)) rfl
theorem mT_J0_checkBoundsBeginEnd_23922 : Cond.static yJ0_checkBoundsBeginEnd_23922 ∈ wsA := inA (tb2 (List.mem_of_getElem? (i := 11) rfl)) rfl
theorem mC_J0_checkBoundsBeginEnd_23922 : Cond.code yJ0_checkBoundsBeginEnd_23922 cJ0_checkBoundsBeginEnd_23922 3 none ∈ wsA := inA (tb2 (List.mem_of_getElem? (i := 12) rfl)) rfl
theorem mF_J0_1053 : Cond.fieldLink RJ0 1053 "jdk/internal/util/Preconditions" "SIOOBE_FORMATTER" "Ljava/util/function/BiFunction;" ∈ wsA := inA (tb2 (List.mem_of_getElem? (i := 13) rfl)) rfl
theorem mL_J0_1062 : Cond.methodLink RJ0 1062 yJ3_checkFromToIndex_8c36e ∈ wsA := inA (tb2 (List.mem_of_getElem? (i := 15) rfl)) rfl
theorem mT_J3_checkFromToIndex_8c36e : Cond.static yJ3_checkFromToIndex_8c36e ∈ wsA := inA (tb2 (List.mem_of_getElem? (i := 16) rfl)) rfl
theorem mC_J3_checkFromToIndex_8c36e : Cond.code yJ3_checkFromToIndex_8c36e cJ3_checkFromToIndex_8c36e 4 (some .int) ∈ wsA := inA (tb2 (List.mem_of_getElem? (i := 17) rfl)) rfl
theorem mL_J2_244 : Cond.methodLink RJ2 244 yJ2_indexOfCharUnsafe_4cfef ∈ wsA := inA (tb2 (List.mem_of_getElem? (i := 18) rfl)) rfl
theorem mT_J2_indexOfCharUnsafe_4cfef : Cond.static yJ2_indexOfCharUnsafe_4cfef ∈ wsA := inA (tb2 (List.mem_of_getElem? (i := 19) rfl)) rfl
theorem mC_J2_indexOfCharUnsafe_4cfef : Cond.code yJ2_indexOfCharUnsafe_4cfef cJ2_indexOfCharUnsafe_4cfef 5 (some .int) ∈ wsA := inA (tb2 (List.mem_of_getElem? (i := 20) rfl)) rfl
theorem mL_J2_71 : Cond.methodLink RJ2 71 yJ2_getChar_3b067 ∈ wsA := inA (tb2 (List.mem_of_getElem? (i := 21) rfl)) rfl
theorem mT_J2_getChar_3b067 : Cond.static yJ2_getChar_3b067 ∈ wsA := inA (tb2 (List.mem_of_getElem? (i := 22) rfl)) rfl
theorem mC_J2_getChar_3b067 : Cond.code yJ2_getChar_3b067 cJ2_getChar_3b067 2 (some .char) ∈ wsA := inA (tb2 (List.mem_of_getElem? (i := 23) rfl)) rfl
theorem mF_J2_44 : Cond.fieldLink RJ2 44 "java/lang/StringUTF16" "$assertionsDisabled" "Z" ∈ wsA := inA (tb2 (List.mem_of_getElem? (i := 24) rfl)) rfl
theorem mF_J2_59 : Cond.fieldLink RJ2 59 "java/lang/StringUTF16" "HI_BYTE_SHIFT" "I" ∈ wsA := inA (tb2 (List.mem_of_getElem? (i := 26) rfl)) rfl
theorem mF_J2_63 : Cond.fieldLink RJ2 63 "java/lang/StringUTF16" "LO_BYTE_SHIFT" "I" ∈ wsA := inA (tb2 (List.mem_of_getElem? (i := 28) rfl)) rfl
theorem mL_J2_232 : Cond.methodLink RJ2 232 yJ2_indexOfSupplementary_4cfef ∈ wsA := inA (tb2 (List.mem_of_getElem? (i := 30) rfl)) rfl
theorem mT_J2_indexOfSupplementary_4cfef : Cond.static yJ2_indexOfSupplementary_4cfef ∈ wsA := inA (tb2 (List.mem_of_getElem? (i := 31) rfl)) rfl
theorem mC_J2_indexOfSupplementary_4cfef : Cond.code yJ2_indexOfSupplementary_4cfef cJ2_indexOfSupplementary_4cfef 7 (some .int) ∈ wsA := inA (tb2 (List.mem_of_getElem? (i := 32) rfl)) rfl
theorem mL_J2_164 : Cond.methodLink RJ2 164 yJ11_isValidCodePoint_9a6ad ∈ wsA := inA (tb2 (List.mem_of_getElem? (i := 33) rfl)) rfl
theorem mT_J11_isValidCodePoint_9a6ad : Cond.static yJ11_isValidCodePoint_9a6ad ∈ wsA := inA (tb2 (List.mem_of_getElem? (i := 34) rfl)) rfl
theorem mC_J11_isValidCodePoint_9a6ad : Cond.code yJ11_isValidCodePoint_9a6ad cJ11_isValidCodePoint_9a6ad 2 (some .boolean) ∈ wsA := inA (tb2 (List.mem_of_getElem? (i := 35) rfl)) rfl
theorem mL_J2_157 : Cond.methodLink RJ2 157 yJ11_highSurrogate_5068e ∈ wsA := inA (tb2 (List.mem_of_getElem? (i := 36) rfl)) rfl
theorem mT_J11_highSurrogate_5068e : Cond.static yJ11_highSurrogate_5068e ∈ wsA := inA (tb2 (List.mem_of_getElem? (i := 37) rfl)) rfl
theorem mC_J11_highSurrogate_5068e : Cond.code yJ11_highSurrogate_5068e cJ11_highSurrogate_5068e 1 (some .char) ∈ wsA := inA (tb2 (List.mem_of_getElem? (i := 38) rfl)) rfl
theorem mK_J11_110 : Cond.constant RJ11 110 (55232) ∈ wsA := inA (tb2 (List.mem_of_getElem? (i := 39) rfl)) rfl
theorem mL_J2_161 : Cond.methodLink RJ2 161 yJ11_lowSurrogate_5068e ∈ wsA := inA (tb2 (List.mem_of_getElem? (i := 40) rfl)) rfl
theorem mT_J11_lowSurrogate_5068e : Cond.static yJ11_lowSurrogate_5068e ∈ wsA := inA (tb2 (List.mem_of_getElem? (i := 41) rfl)) rfl
theorem mC_J11_lowSurrogate_5068e : Cond.code yJ11_lowSurrogate_5068e cJ11_lowSurrogate_5068e 1 (some .char) ∈ wsA := inA (tb2 (List.mem_of_getElem? (i := 42) rfl)) rfl
theorem mK_J11_76 : Cond.constant RJ11 76 (56320) ∈ wsA := inA (tb2 (List.mem_of_getElem? (i := 43) rfl)) rfl
theorem mA_byte : Cond.arrayClass .byte ∈ wsA := inA (tb2 (List.mem_of_getElem? (i := 44) rfl)) rfl
theorem mL_L_27 : Cond.methodLink RL 27 yX5_hill ∈ wsA := inA (tb2 (List.mem_of_getElem? (i := 45) rfl)) rfl
theorem mI_X5_hill : Cond.instanceMethod yX5_hill ∈ wsA := inA (tb2 (List.mem_of_getElem? (i := 46) rfl)) rfl
theorem mS_X5_hill : Cond.selects RX5 yX5_hill yX5_hill ∈ wsA := inA (tb2 (List.mem_of_getElem? (i := 47) rfl)) rfl
theorem mC_X5_hill : Cond.code yX5_hill cX5_hill 3 (some .int) ∈ wsA := inA (tb2 (List.mem_of_getElem? (i := 48) rfl)) rfl
theorem mL_X5_73 : Cond.methodLink RX5 73 yX1_isHill ∈ wsA := inA (tb2 (List.mem_of_getElem? (i := 49) rfl)) rfl
theorem mI_X1_isHill : Cond.instanceMethod yX1_isHill ∈ wsA := inA (tb2 (List.mem_of_getElem? (i := 50) rfl)) rfl
theorem mS_X1_isHill : Cond.selects RX1 yX1_isHill yX1_isHill ∈ wsA := inA (tb2 (List.mem_of_getElem? (i := 51) rfl)) rfl
theorem mC_X1_isHill : Cond.code yX1_isHill cX1_isHill 1 (some .boolean) ∈ wsA := inA (tb2 (List.mem_of_getElem? (i := 52) rfl)) rfl
theorem mL_X1_27 : Cond.methodLink RX1 27 yX1_firstFault ∈ wsA := inA (tb2 (List.mem_of_getElem? (i := 53) rfl)) rfl
theorem mL_X5_77 : Cond.methodLink RX5 77 yX0_read ∈ wsA := inA (tb2 (List.mem_of_getElem? (i := 54) rfl)) rfl
theorem mI_X0_read : Cond.instanceMethod yX0_read ∈ wsA := inA (tb2 (List.mem_of_getElem? (i := 55) rfl)) rfl
theorem mS_X0_read : Cond.selects RX0 yX0_read yX0_read ∈ wsA := inA (tb2 (List.mem_of_getElem? (i := 56) rfl)) rfl
theorem mC_X0_read : Cond.code yX0_read cX0_read 3 none ∈ wsA := inA (tb2 (List.mem_of_getElem? (i := 57) rfl)) rfl
theorem mL_X0_22 : Cond.methodLink RX0 22 yX1_peopleWritten ∈ wsA := inA (tb2 (List.mem_of_getElem? (i := 58) rfl)) rfl
theorem mI_X1_peopleWritten : Cond.instanceMethod yX1_peopleWritten ∈ wsA := inA (tb2 (List.mem_of_getElem? (i := 59) rfl)) rfl
theorem mS_X1_peopleWritten : Cond.selects RX1 yX1_peopleWritten yX1_peopleWritten ∈ wsA := inA (tb2 (List.mem_of_getElem? (i := 60) rfl)) rfl
theorem mC_X1_peopleWritten : Cond.code yX1_peopleWritten cX1_peopleWritten 1 (some .int) ∈ wsA := inA (tb2 (List.mem_of_getElem? (i := 61) rfl)) rfl
theorem mL_X0_28 : Cond.methodLink RX0 28 Lib.Math.min.name ∈ wsA := inA (tb2 (List.mem_of_getElem? (i := 62) rfl)) rfl
theorem mL_X0_34 : Cond.methodLink RX0 34 yX1_riverWritten ∈ wsA := inA (tb2 (List.mem_of_getElem? (i := 63) rfl)) rfl
theorem mI_X1_riverWritten : Cond.instanceMethod yX1_riverWritten ∈ wsA := inA (tb2 (List.mem_of_getElem? (i := 64) rfl)) rfl
theorem mS_X1_riverWritten : Cond.selects RX1 yX1_riverWritten yX1_riverWritten ∈ wsA := inA (tb2 (List.mem_of_getElem? (i := 65) rfl)) rfl
theorem mC_X1_riverWritten : Cond.code yX1_riverWritten cX1_riverWritten 1 (some .int) ∈ wsA := inA (tb2 (List.mem_of_getElem? (i := 66) rfl)) rfl
theorem mL_X0_37 : Cond.methodLink RX0 37 yX1_kindWritten ∈ wsA := inA (tb2 (List.mem_of_getElem? (i := 67) rfl)) rfl
theorem mI_X1_kindWritten : Cond.instanceMethod yX1_kindWritten ∈ wsA := inA (tb2 (List.mem_of_getElem? (i := 68) rfl)) rfl
theorem mS_X1_kindWritten : Cond.selects RX1 yX1_kindWritten yX1_kindWritten ∈ wsA := inA (tb2 (List.mem_of_getElem? (i := 69) rfl)) rfl
theorem mC_X1_kindWritten : Cond.code yX1_kindWritten cX1_kindWritten 2 (some .int) ∈ wsA := inA (tb2 (List.mem_of_getElem? (i := 70) rfl)) rfl
theorem mL_X5_81 : Cond.methodLink RX5 81 yX2_begin ∈ wsA := inA (tb2 (List.mem_of_getElem? (i := 71) rfl)) rfl
theorem mI_X2_begin : Cond.instanceMethod yX2_begin ∈ wsA := inA (tb2 (List.mem_of_getElem? (i := 72) rfl)) rfl
theorem mS_X2_begin : Cond.selects RX2 yX2_begin yX2_begin ∈ wsA := inA (tb2 (List.mem_of_getElem? (i := 73) rfl)) rfl
theorem mC_X2_begin : Cond.code yX2_begin cX2_begin 2 none ∈ wsA := inA (tb2 (List.mem_of_getElem? (i := 74) rfl)) rfl
theorem mL_X2_43 : Cond.methodLink RX2 43 yX2_setNext ∈ wsA := inA (tb2 (List.mem_of_getElem? (i := 75) rfl)) rfl
theorem mI_X2_setNext : Cond.instanceMethod yX2_setNext ∈ wsA := inA (tb2 (List.mem_of_getElem? (i := 76) rfl)) rfl
theorem mS_X2_setNext : Cond.selects RX2 yX2_setNext yX2_setNext ∈ wsA := inA (tb2 (List.mem_of_getElem? (i := 77) rfl)) rfl
theorem mC_X2_setNext : Cond.code yX2_setNext cX2_setNext 4 none ∈ wsA := inA (tb2 (List.mem_of_getElem? (i := 78) rfl)) rfl
theorem mL_X5_87 : Cond.methodLink RX5 87 yX1_nextWritten ∈ wsA := inA (tb2 (List.mem_of_getElem? (i := 79) rfl)) rfl
theorem mI_X1_nextWritten : Cond.instanceMethod yX1_nextWritten ∈ wsA := inA (tb2 (List.mem_of_getElem? (i := 80) rfl)) rfl
theorem mS_X1_nextWritten : Cond.selects RX1 yX1_nextWritten yX1_nextWritten ∈ wsA := inA (tb2 (List.mem_of_getElem? (i := 81) rfl)) rfl
theorem mC_X1_nextWritten : Cond.code yX1_nextWritten cX1_nextWritten 2 (some .int) ∈ wsA := inA (tb2 (List.mem_of_getElem? (i := 82) rfl)) rfl
theorem mL_X5_91 : Cond.methodLink RX5 91 yX0_has ∈ wsA := inA (tb2 (List.mem_of_getElem? (i := 83) rfl)) rfl
theorem mI_X0_has : Cond.instanceMethod yX0_has ∈ wsA := inA (tb2 (List.mem_of_getElem? (i := 84) rfl)) rfl
theorem mS_X0_has : Cond.selects RX0 yX0_has yX0_has ∈ wsA := inA (tb2 (List.mem_of_getElem? (i := 85) rfl)) rfl
theorem mC_X0_has : Cond.code yX0_has cX0_has 2 (some .boolean) ∈ wsA := inA (tb2 (List.mem_of_getElem? (i := 86) rfl)) rfl
theorem mL_X5_94 : Cond.methodLink RX5 94 yX5_point ∈ wsA := inA (tb2 (List.mem_of_getElem? (i := 87) rfl)) rfl
theorem mI_X5_point : Cond.instanceMethod yX5_point ∈ wsA := inA (tb2 (List.mem_of_getElem? (i := 89) rfl)) rfl
theorem mC_X5_point : Cond.code yX5_point cX5_point 4 none ∈ wsA := inA (tb2 (List.mem_of_getElem? (i := 90) rfl)) rfl
theorem mL_X5_123 : Cond.methodLink RX5 123 yX0_listeners ∈ wsA := inA (tb2 (List.mem_of_getElem? (i := 91) rfl)) rfl
theorem mI_X0_listeners : Cond.instanceMethod yX0_listeners ∈ wsA := inA (tb2 (List.mem_of_getElem? (i := 92) rfl)) rfl
theorem mS_X0_listeners : Cond.selects RX0 yX0_listeners yX0_listeners ∈ wsA := inA (tb2 (List.mem_of_getElem? (i := 93) rfl)) rfl
theorem mC_X0_listeners : Cond.code yX0_listeners cX0_listeners 6 (some .int) ∈ wsA := inA (tb2 (List.mem_of_getElem? (i := 94) rfl)) rfl
theorem mL_X0_41 : Cond.methodLink RX0 41 yX0_kindOf ∈ wsA := inA (tb2 (List.mem_of_getElem? (i := 95) rfl)) rfl
theorem mI_X0_kindOf : Cond.instanceMethod yX0_kindOf ∈ wsA := inA (tb2 (List.mem_of_getElem? (i := 96) rfl)) rfl
theorem mS_X0_kindOf : Cond.selects RX0 yX0_kindOf yX0_kindOf ∈ wsA := inA (tb2 (List.mem_of_getElem? (i := 97) rfl)) rfl
theorem mC_X0_kindOf : Cond.code yX0_kindOf cX0_kindOf 2 (some .int) ∈ wsA := inA (tb2 (List.mem_of_getElem? (i := 98) rfl)) rfl
theorem mL_X0_44 : Cond.methodLink RX0 44 yX0_has ∈ wsA := inA (tb2 (List.mem_of_getElem? (i := 99) rfl)) rfl
theorem mT_X5_isOfKind : Cond.static yX5_isOfKind ∈ wsA := inA (tb2 (List.mem_of_getElem? (i := 101) rfl)) rfl
theorem mC_X5_isOfKind : Cond.code yX5_isOfKind cX5_isOfKind 2 (some .boolean) ∈ wsA := inA (tb2 (List.mem_of_getElem? (i := 102) rfl)) rfl
theorem mL_X5_127 : Cond.methodLink RX5 127 yX2_setNext ∈ wsA := inA (tb2 (List.mem_of_getElem? (i := 103) rfl)) rfl
theorem mL_L_31 : Cond.methodLink RL 31 yX5_person ∈ wsA := inA (tb2 (List.mem_of_getElem? (i := 104) rfl)) rfl
theorem mI_X5_person : Cond.instanceMethod yX5_person ∈ wsA := inA (tb2 (List.mem_of_getElem? (i := 105) rfl)) rfl
theorem mS_X5_person : Cond.selects RX5 yX5_person yX5_person ∈ wsA := inA (tb2 (List.mem_of_getElem? (i := 106) rfl)) rfl
theorem mC_X5_person : Cond.code yX5_person cX5_person 3 (some .int) ∈ wsA := inA (tb2 (List.mem_of_getElem? (i := 107) rfl)) rfl
theorem mL_X5_98 : Cond.methodLink RX5 98 yX0_kindOf ∈ wsA := inA (tb2 (List.mem_of_getElem? (i := 108) rfl)) rfl
theorem mL_X5_101 : Cond.methodLink RX5 101 yX2_nextOf ∈ wsA := inA (tb2 (List.mem_of_getElem? (i := 109) rfl)) rfl
theorem mI_X2_nextOf : Cond.instanceMethod yX2_nextOf ∈ wsA := inA (tb2 (List.mem_of_getElem? (i := 110) rfl)) rfl
theorem mS_X2_nextOf : Cond.selects RX2 yX2_nextOf yX2_nextOf ∈ wsA := inA (tb2 (List.mem_of_getElem? (i := 111) rfl)) rfl
theorem mC_X2_nextOf : Cond.code yX2_nextOf cX2_nextOf 2 (some .int) ∈ wsA := inA (tb2 (List.mem_of_getElem? (i := 112) rfl)) rfl
theorem mL_X5_104 : Cond.methodLink RX5 104 yX2_listenersOf ∈ wsA := inA (tb2 (List.mem_of_getElem? (i := 113) rfl)) rfl
theorem mI_X2_listenersOf : Cond.instanceMethod yX2_listenersOf ∈ wsA := inA (tb2 (List.mem_of_getElem? (i := 114) rfl)) rfl
theorem mS_X2_listenersOf : Cond.selects RX2 yX2_listenersOf yX2_listenersOf ∈ wsA := inA (tb2 (List.mem_of_getElem? (i := 115) rfl)) rfl
theorem mC_X2_listenersOf : Cond.code yX2_listenersOf cX2_listenersOf 2 (some .int) ∈ wsA := inA (tb2 (List.mem_of_getElem? (i := 116) rfl)) rfl
theorem mL_X5_107 : Cond.methodLink RX5 107 yX2_tunnelsHeardBy ∈ wsA := inA (tb2 (List.mem_of_getElem? (i := 117) rfl)) rfl
theorem mI_X2_tunnelsHeardBy : Cond.instanceMethod yX2_tunnelsHeardBy ∈ wsA := inA (tb2 (List.mem_of_getElem? (i := 118) rfl)) rfl
theorem mS_X2_tunnelsHeardBy : Cond.selects RX2 yX2_tunnelsHeardBy yX2_tunnelsHeardBy ∈ wsA := inA (tb2 (List.mem_of_getElem? (i := 119) rfl)) rfl
theorem mC_X2_tunnelsHeardBy : Cond.code yX2_tunnelsHeardBy cX2_tunnelsHeardBy 4 (some .int) ∈ wsA := inA (tb2 (List.mem_of_getElem? (i := 120) rfl)) rfl
theorem mT_X5_isIn : Cond.static yX5_isIn ∈ wsA := inA (tb2 (List.mem_of_getElem? (i := 122) rfl)) rfl
theorem mC_X5_isIn : Cond.code yX5_isIn cX5_isIn 2 (some .boolean) ∈ wsA := inA (tb2 (List.mem_of_getElem? (i := 123) rfl)) rfl
theorem mL_X5_110 : Cond.methodLink RX5 110 yX4_ends ∈ wsA := inA (tb2 (List.mem_of_getElem? (i := 124) rfl)) rfl
theorem mI_X4_ends : Cond.instanceMethod yX4_ends ∈ wsA := inA (tb2 (List.mem_of_getElem? (i := 125) rfl)) rfl
theorem mS_X4_ends : Cond.selects RX4 yX4_ends yX4_ends ∈ wsA := inA (tb2 (List.mem_of_getElem? (i := 126) rfl)) rfl
theorem mC_X4_ends : Cond.code yX4_ends cX4_ends 2 (some .int) ∈ wsA := inA (tb2 (List.mem_of_getElem? (i := 127) rfl)) rfl
theorem mL_X4_35 : Cond.methodLink RX4 35 yX4_lengthInTheEnd ∈ wsA := inA (tb2 (List.mem_of_getElem? (i := 128) rfl)) rfl
theorem mI_X4_lengthInTheEnd : Cond.instanceMethod yX4_lengthInTheEnd ∈ wsA := inA (tb2 (List.mem_of_getElem? (i := 129) rfl)) rfl
theorem mS_X4_lengthInTheEnd : Cond.selects RX4 yX4_lengthInTheEnd yX4_lengthInTheEnd ∈ wsA := inA (tb2 (List.mem_of_getElem? (i := 130) rfl)) rfl
theorem mC_X4_lengthInTheEnd : Cond.code yX4_lengthInTheEnd cX4_lengthInTheEnd 7 (some .int) ∈ wsA := inA (tb2 (List.mem_of_getElem? (i := 131) rfl)) rfl
theorem mL_X4_39 : Cond.methodLink RX4 39 yX4_hearers ∈ wsA := inA (tb2 (List.mem_of_getElem? (i := 132) rfl)) rfl
theorem mI_X4_hearers : Cond.instanceMethod yX4_hearers ∈ wsA := inA (tb2 (List.mem_of_getElem? (i := 133) rfl)) rfl
theorem mS_X4_hearers : Cond.selects RX4 yX4_hearers yX4_hearers ∈ wsA := inA (tb2 (List.mem_of_getElem? (i := 134) rfl)) rfl
theorem mC_X4_hearers : Cond.code yX4_hearers cX4_hearers 5 (some .int) ∈ wsA := inA (tb2 (List.mem_of_getElem? (i := 135) rfl)) rfl
theorem mL_X4_29 : Cond.methodLink RX4 29 yX2_listenersOf ∈ wsA := inA (tb2 (List.mem_of_getElem? (i := 137) rfl)) rfl
theorem mL_X4_43 : Cond.methodLink RX4 43 yX0_length ∈ wsA := inA (tb2 (List.mem_of_getElem? (i := 138) rfl)) rfl
theorem mI_X0_length : Cond.instanceMethod yX0_length ∈ wsA := inA (tb2 (List.mem_of_getElem? (i := 139) rfl)) rfl
theorem mS_X0_length : Cond.selects RX0 yX0_length yX0_length ∈ wsA := inA (tb2 (List.mem_of_getElem? (i := 140) rfl)) rfl
theorem mC_X0_length : Cond.code yX0_length cX0_length 6 (some .int) ∈ wsA := inA (tb2 (List.mem_of_getElem? (i := 141) rfl)) rfl
theorem mL_X0_55 : Cond.methodLink RX0 55 yX0_yardsBy ∈ wsA := inA (tb2 (List.mem_of_getElem? (i := 143) rfl)) rfl
theorem mT_X0_yardsBy : Cond.static yX0_yardsBy ∈ wsA := inA (tb2 (List.mem_of_getElem? (i := 144) rfl)) rfl
theorem mC_X0_yardsBy : Cond.code yX0_yardsBy cX0_yardsBy 1 (some .int) ∈ wsA := inA (tb2 (List.mem_of_getElem? (i := 145) rfl)) rfl
theorem mL_X0_58 : Cond.methodLink RX0 58 Lib.Math.max.name ∈ wsA := inA (tb2 (List.mem_of_getElem? (i := 146) rfl)) rfl
theorem mL_X5_113 : Cond.methodLink RX5 113 yX4_lasts ∈ wsA := inA (tb2 (List.mem_of_getElem? (i := 147) rfl)) rfl
theorem mI_X4_lasts : Cond.instanceMethod yX4_lasts ∈ wsA := inA (tb2 (List.mem_of_getElem? (i := 148) rfl)) rfl
theorem mS_X4_lasts : Cond.selects RX4 yX4_lasts yX4_lasts ∈ wsA := inA (tb2 (List.mem_of_getElem? (i := 149) rfl)) rfl
theorem mC_X4_lasts : Cond.code yX4_lasts cX4_lasts 4 (some .int) ∈ wsA := inA (tb2 (List.mem_of_getElem? (i := 150) rfl)) rfl
theorem mL_X4_46 : Cond.methodLink RX4 46 yX4_dayHeard ∈ wsA := inA (tb2 (List.mem_of_getElem? (i := 151) rfl)) rfl
theorem mI_X4_dayHeard : Cond.instanceMethod yX4_dayHeard ∈ wsA := inA (tb2 (List.mem_of_getElem? (i := 152) rfl)) rfl
theorem mS_X4_dayHeard : Cond.selects RX4 yX4_dayHeard yX4_dayHeard ∈ wsA := inA (tb2 (List.mem_of_getElem? (i := 153) rfl)) rfl
theorem mC_X4_dayHeard : Cond.code yX4_dayHeard cX4_dayHeard 6 (some .int) ∈ wsA := inA (tb2 (List.mem_of_getElem? (i := 154) rfl)) rfl
theorem mL_X4_49 : Cond.methodLink RX4 49 Lib.Math.max.name ∈ wsA := inA (tb2 (List.mem_of_getElem? (i := 155) rfl)) rfl
theorem mL_L_36 : Cond.methodLink RL 36 yX5_as ∈ wsA := inA (tb2 (List.mem_of_getElem? (i := 156) rfl)) rfl
theorem mI_X5_as : Cond.instanceMethod yX5_as ∈ wsA := inA (tb2 (List.mem_of_getElem? (i := 157) rfl)) rfl
theorem mS_X5_as : Cond.selects RX5 yX5_as yX5_as ∈ wsA := inA (tb2 (List.mem_of_getElem? (i := 158) rfl)) rfl
theorem mC_X5_as : Cond.code yX5_as cX5_as 3 (some .int) ∈ wsA := inA (tb2 (List.mem_of_getElem? (i := 159) rfl)) rfl
theorem mL_X5_116 : Cond.methodLink RX5 116 yX5_isOfKind ∈ wsA := inA (tb2 (List.mem_of_getElem? (i := 160) rfl)) rfl
theorem mL_L_40 : Cond.methodLink RL 40 yX5_next ∈ wsA := inA (tb2 (List.mem_of_getElem? (i := 161) rfl)) rfl
theorem mI_X5_next : Cond.instanceMethod yX5_next ∈ wsA := inA (tb2 (List.mem_of_getElem? (i := 162) rfl)) rfl
theorem mS_X5_next : Cond.selects RX5 yX5_next yX5_next ∈ wsA := inA (tb2 (List.mem_of_getElem? (i := 163) rfl)) rfl
theorem mC_X5_next : Cond.code yX5_next cX5_next 4 (some .int) ∈ wsA := inA (tb2 (List.mem_of_getElem? (i := 164) rfl)) rfl
theorem mL_L_44 : Cond.methodLink RL 44 yX5_tell ∈ wsA := inA (tb2 (List.mem_of_getElem? (i := 165) rfl)) rfl
theorem mI_X5_tell : Cond.instanceMethod yX5_tell ∈ wsA := inA (tb2 (List.mem_of_getElem? (i := 166) rfl)) rfl
theorem mS_X5_tell : Cond.selects RX5 yX5_tell yX5_tell ∈ wsA := inA (tb2 (List.mem_of_getElem? (i := 167) rfl)) rfl
theorem mC_X5_tell : Cond.code yX5_tell cX5_tell 4 (some .int) ∈ wsA := inA (tb2 (List.mem_of_getElem? (i := 168) rfl)) rfl
theorem mL_X5_131 : Cond.methodLink RX5 131 yX5_isTunnel ∈ wsA := inA (tb2 (List.mem_of_getElem? (i := 169) rfl)) rfl
theorem mI_X5_isTunnel : Cond.instanceMethod yX5_isTunnel ∈ wsA := inA (tb2 (List.mem_of_getElem? (i := 171) rfl)) rfl
theorem mC_X5_isTunnel : Cond.code yX5_isTunnel cX5_isTunnel 2 (some .boolean) ∈ wsA := inA (tb2 (List.mem_of_getElem? (i := 172) rfl)) rfl
theorem mL_X5_144 : Cond.methodLink RX5 144 yX0_isThere ∈ wsA := inA (tb2 (List.mem_of_getElem? (i := 173) rfl)) rfl
theorem mI_X0_isThere : Cond.instanceMethod yX0_isThere ∈ wsA := inA (tb2 (List.mem_of_getElem? (i := 174) rfl)) rfl
theorem mS_X0_isThere : Cond.selects RX0 yX0_isThere yX0_isThere ∈ wsA := inA (tb2 (List.mem_of_getElem? (i := 175) rfl)) rfl
theorem mC_X0_isThere : Cond.code yX0_isThere cX0_isThere 1 (some .boolean) ∈ wsA := inA (tb2 (List.mem_of_getElem? (i := 176) rfl)) rfl
theorem mL_X5_141 : Cond.methodLink RX5 141 yX5_lengthOf ∈ wsA := inA (tb2 (List.mem_of_getElem? (i := 177) rfl)) rfl
theorem mI_X5_lengthOf : Cond.instanceMethod yX5_lengthOf ∈ wsA := inA (tb2 (List.mem_of_getElem? (i := 179) rfl)) rfl
theorem mC_X5_lengthOf : Cond.code yX5_lengthOf cX5_lengthOf 2 (some .int) ∈ wsA := inA (tb2 (List.mem_of_getElem? (i := 180) rfl)) rfl
theorem mL_X5_165 : Cond.methodLink RX5 165 yX0_length ∈ wsA := inA (tb2 (List.mem_of_getElem? (i := 181) rfl)) rfl
theorem mL_L_48 : Cond.methodLink RL 48 yX5_day ∈ wsA := inA (tb2 (List.mem_of_getElem? (i := 182) rfl)) rfl
theorem mI_X5_day : Cond.instanceMethod yX5_day ∈ wsA := inA (tb2 (List.mem_of_getElem? (i := 183) rfl)) rfl
theorem mS_X5_day : Cond.selects RX5 yX5_day yX5_day ∈ wsA := inA (tb2 (List.mem_of_getElem? (i := 184) rfl)) rfl
theorem mC_X5_day : Cond.code yX5_day cX5_day 3 (some .int) ∈ wsA := inA (tb2 (List.mem_of_getElem? (i := 185) rfl)) rfl
theorem mL_X5_150 : Cond.methodLink RX5 150 yX4_hearers ∈ wsA := inA (tb2 (List.mem_of_getElem? (i := 186) rfl)) rfl
theorem mL_X5_153 : Cond.methodLink RX5 153 yJ6_bitCount_0f7a4 ∈ wsA := inA (tb2 (List.mem_of_getElem? (i := 187) rfl)) rfl
theorem mT_J6_bitCount_0f7a4 : Cond.static yJ6_bitCount_0f7a4 ∈ wsA := inA (tb2 (List.mem_of_getElem? (i := 188) rfl)) rfl
theorem mC_J6_bitCount_0f7a4 : Cond.code yJ6_bitCount_0f7a4 cJ6_bitCount_0f7a4 1 (some .int) ∈ wsA := inA (tb2 (List.mem_of_getElem? (i := 189) rfl)) rfl
theorem mK_J6_265 : Cond.constant RJ6 265 (1431655765) ∈ wsA := inA (tb2 (List.mem_of_getElem? (i := 190) rfl)) rfl
theorem mK_J6_266 : Cond.constant RJ6 266 (858993459) ∈ wsA := inA (tb2 (List.mem_of_getElem? (i := 191) rfl)) rfl
theorem mK_J6_267 : Cond.constant RJ6 267 (252645135) ∈ wsA := inA (tb2 (List.mem_of_getElem? (i := 192) rfl)) rfl
theorem mL_L_52 : Cond.methodLink RL 52 yX5_deny ∈ wsA := inA (tb2 (List.mem_of_getElem? (i := 193) rfl)) rfl
theorem mI_X5_deny : Cond.instanceMethod yX5_deny ∈ wsA := inA (tb2 (List.mem_of_getElem? (i := 194) rfl)) rfl
theorem mS_X5_deny : Cond.selects RX5 yX5_deny yX5_deny ∈ wsA := inA (tb2 (List.mem_of_getElem? (i := 195) rfl)) rfl
theorem mC_X5_deny : Cond.code yX5_deny cX5_deny 2 (some .int) ∈ wsA := inA (tb2 (List.mem_of_getElem? (i := 196) rfl)) rfl
theorem mL_L_56 : Cond.methodLink RL 56 yX5_tunnel ∈ wsA := inA (tb2 (List.mem_of_getElem? (i := 197) rfl)) rfl
theorem mI_X5_tunnel : Cond.instanceMethod yX5_tunnel ∈ wsA := inA (tb2 (List.mem_of_getElem? (i := 198) rfl)) rfl
theorem mS_X5_tunnel : Cond.selects RX5 yX5_tunnel yX5_tunnel ∈ wsA := inA (tb2 (List.mem_of_getElem? (i := 199) rfl)) rfl
theorem mC_X5_tunnel : Cond.code yX5_tunnel cX5_tunnel 3 (some .int) ∈ wsA := inA (tb2 (List.mem_of_getElem? (i := 200) rfl)) rfl
theorem mL_X5_161 : Cond.methodLink RX5 161 yX4_lengthInTheEnd ∈ wsA := inA (tb2 (List.mem_of_getElem? (i := 201) rfl)) rfl
theorem mL_L_60 : Cond.methodLink RL 60 yX5_aim ∈ wsA := inA (tb2 (List.mem_of_getElem? (i := 202) rfl)) rfl
theorem mI_X5_aim : Cond.instanceMethod yX5_aim ∈ wsA := inA (tb2 (List.mem_of_getElem? (i := 203) rfl)) rfl
theorem mS_X5_aim : Cond.selects RX5 yX5_aim yX5_aim ∈ wsA := inA (tb2 (List.mem_of_getElem? (i := 204) rfl)) rfl
theorem mC_X5_aim : Cond.code yX5_aim cX5_aim 4 (some .int) ∈ wsA := inA (tb2 (List.mem_of_getElem? (i := 205) rfl)) rfl
theorem mL_X5_167 : Cond.methodLink RX5 167 yX5_fewestToTell ∈ wsA := inA (tb2 (List.mem_of_getElem? (i := 206) rfl)) rfl
theorem mI_X5_fewestToTell : Cond.instanceMethod yX5_fewestToTell ∈ wsA := inA (tb2 (List.mem_of_getElem? (i := 208) rfl)) rfl
theorem mC_X5_fewestToTell : Cond.code yX5_fewestToTell cX5_fewestToTell 5 (some .int) ∈ wsA := inA (tb2 (List.mem_of_getElem? (i := 209) rfl)) rfl
theorem mL_L_64 : Cond.methodLink RL 64 yX5_heard ∈ wsA := inA (tb2 (List.mem_of_getElem? (i := 210) rfl)) rfl
theorem mI_X5_heard : Cond.instanceMethod yX5_heard ∈ wsA := inA (tb2 (List.mem_of_getElem? (i := 211) rfl)) rfl
theorem mS_X5_heard : Cond.selects RX5 yX5_heard yX5_heard ∈ wsA := inA (tb2 (List.mem_of_getElem? (i := 212) rfl)) rfl
theorem mC_X5_heard : Cond.code yX5_heard cX5_heard 3 (some .int) ∈ wsA := inA (tb2 (List.mem_of_getElem? (i := 213) rfl)) rfl
theorem mL_X5_170 : Cond.methodLink RX5 170 yX2_note ∈ wsA := inA (tb2 (List.mem_of_getElem? (i := 214) rfl)) rfl
theorem mI_X2_note : Cond.instanceMethod yX2_note ∈ wsA := inA (tb2 (List.mem_of_getElem? (i := 215) rfl)) rfl
theorem mS_X2_note : Cond.selects RX2 yX2_note yX2_note ∈ wsA := inA (tb2 (List.mem_of_getElem? (i := 216) rfl)) rfl
theorem mC_X2_note : Cond.code yX2_note cX2_note 3 (some .boolean) ∈ wsA := inA (tb2 (List.mem_of_getElem? (i := 217) rfl)) rfl
theorem mL_L_68 : Cond.methodLink RL 68 yX5_forget ∈ wsA := inA (tb2 (List.mem_of_getElem? (i := 218) rfl)) rfl
theorem mI_X5_forget : Cond.instanceMethod yX5_forget ∈ wsA := inA (tb2 (List.mem_of_getElem? (i := 219) rfl)) rfl
theorem mS_X5_forget : Cond.selects RX5 yX5_forget yX5_forget ∈ wsA := inA (tb2 (List.mem_of_getElem? (i := 220) rfl)) rfl
theorem mC_X5_forget : Cond.code yX5_forget cX5_forget 2 (some .int) ∈ wsA := inA (tb2 (List.mem_of_getElem? (i := 221) rfl)) rfl
theorem mL_L_72 : Cond.methodLink RL 72 yX5_began ∈ wsA := inA (tb2 (List.mem_of_getElem? (i := 222) rfl)) rfl
theorem mI_X5_began : Cond.instanceMethod yX5_began ∈ wsA := inA (tb2 (List.mem_of_getElem? (i := 223) rfl)) rfl
theorem mS_X5_began : Cond.selects RX5 yX5_began yX5_began ∈ wsA := inA (tb2 (List.mem_of_getElem? (i := 224) rfl)) rfl
theorem mC_X5_began : Cond.code yX5_began cX5_began 1 (some .int) ∈ wsA := inA (tb2 (List.mem_of_getElem? (i := 225) rfl)) rfl
theorem mL_X5_176 : Cond.methodLink RX5 176 yX3_beginners ∈ wsA := inA (tb2 (List.mem_of_getElem? (i := 226) rfl)) rfl
theorem mI_X3_beginners : Cond.instanceMethod yX3_beginners ∈ wsA := inA (tb2 (List.mem_of_getElem? (i := 227) rfl)) rfl
theorem mS_X3_beginners : Cond.selects RX3 yX3_beginners yX3_beginners ∈ wsA := inA (tb2 (List.mem_of_getElem? (i := 228) rfl)) rfl
theorem mC_X3_beginners : Cond.code yX3_beginners cX3_beginners 3 (some .int) ∈ wsA := inA (tb2 (List.mem_of_getElem? (i := 229) rfl)) rfl
theorem mL_X3_33 : Cond.methodLink RX3 33 yX3_agrees ∈ wsA := inA (tb2 (List.mem_of_getElem? (i := 230) rfl)) rfl
theorem mI_X3_agrees : Cond.instanceMethod yX3_agrees ∈ wsA := inA (tb2 (List.mem_of_getElem? (i := 232) rfl)) rfl
theorem mC_X3_agrees : Cond.code yX3_agrees cX3_agrees 3 (some .boolean) ∈ wsA := inA (tb2 (List.mem_of_getElem? (i := 233) rfl)) rfl
theorem mL_X3_49 : Cond.methodLink RX3 49 yX4_dayHeard ∈ wsA := inA (tb2 (List.mem_of_getElem? (i := 234) rfl)) rfl
theorem mL_L_76 : Cond.methodLink RL 76 yX5_ask ∈ wsA := inA (tb2 (List.mem_of_getElem? (i := 235) rfl)) rfl
theorem mI_X5_ask : Cond.instanceMethod yX5_ask ∈ wsA := inA (tb2 (List.mem_of_getElem? (i := 236) rfl)) rfl
theorem mS_X5_ask : Cond.selects RX5 yX5_ask yX5_ask ∈ wsA := inA (tb2 (List.mem_of_getElem? (i := 237) rfl)) rfl
theorem mC_X5_ask : Cond.code yX5_ask cX5_ask 1 (some .int) ∈ wsA := inA (tb2 (List.mem_of_getElem? (i := 238) rfl)) rfl
theorem mL_X5_179 : Cond.methodLink RX5 179 yX3_bestToAsk ∈ wsA := inA (tb2 (List.mem_of_getElem? (i := 239) rfl)) rfl
theorem mI_X3_bestToAsk : Cond.instanceMethod yX3_bestToAsk ∈ wsA := inA (tb3 (List.mem_of_getElem? (i := 0) rfl)) rfl
theorem mS_X3_bestToAsk : Cond.selects RX3 yX3_bestToAsk yX3_bestToAsk ∈ wsA := inA (tb3 (List.mem_of_getElem? (i := 1) rfl)) rfl
theorem mC_X3_bestToAsk : Cond.code yX3_bestToAsk cX3_bestToAsk 6 (some .int) ∈ wsA := inA (tb3 (List.mem_of_getElem? (i := 2) rfl)) rfl
theorem mL_X3_37 : Cond.methodLink RX3 37 yX3_leftAtWorst ∈ wsA := inA (tb3 (List.mem_of_getElem? (i := 3) rfl)) rfl
theorem mI_X3_leftAtWorst : Cond.instanceMethod yX3_leftAtWorst ∈ wsA := inA (tb3 (List.mem_of_getElem? (i := 5) rfl)) rfl
theorem mC_X3_leftAtWorst : Cond.code yX3_leftAtWorst cX3_leftAtWorst 6 (some .int) ∈ wsA := inA (tb3 (List.mem_of_getElem? (i := 6) rfl)) rfl
theorem mL_X3_61 : Cond.methodLink RX3 61 Lib.Math.max.name ∈ wsA := inA (tb3 (List.mem_of_getElem? (i := 8) rfl)) rfl
theorem mL_L_80 : Cond.methodLink RL 80 yX5_markets ∈ wsA := inA (tb3 (List.mem_of_getElem? (i := 9) rfl)) rfl
theorem mI_X5_markets : Cond.instanceMethod yX5_markets ∈ wsA := inA (tb3 (List.mem_of_getElem? (i := 10) rfl)) rfl
theorem mS_X5_markets : Cond.selects RX5 yX5_markets yX5_markets ∈ wsA := inA (tb3 (List.mem_of_getElem? (i := 11) rfl)) rfl
theorem mC_X5_markets : Cond.code yX5_markets cX5_markets 10 (some .int) ∈ wsA := inA (tb3 (List.mem_of_getElem? (i := 12) rfl)) rfl
theorem mL_X5_182 : Cond.methodLink RX5 182 yX5_seedBehind ∈ wsA := inA (tb3 (List.mem_of_getElem? (i := 13) rfl)) rfl
theorem mT_X5_seedBehind : Cond.static yX5_seedBehind ∈ wsA := inA (tb3 (List.mem_of_getElem? (i := 14) rfl)) rfl
theorem mC_X5_seedBehind : Cond.code yX5_seedBehind cX5_seedBehind 1 (some .int) ∈ wsA := inA (tb3 (List.mem_of_getElem? (i := 15) rfl)) rfl
theorem mK_X5_191 : Cond.constant RX5 191 (1103515245) ∈ wsA := inA (tb3 (List.mem_of_getElem? (i := 16) rfl)) rfl
theorem mK_X5_192 : Cond.constant RX5 192 (2147483647) ∈ wsA := inA (tb3 (List.mem_of_getElem? (i := 17) rfl)) rfl
theorem mK_X5_185 : Cond.constant RX5 185 (65536) ∈ wsA := inA (tb3 (List.mem_of_getElem? (i := 18) rfl)) rfl
theorem mL_X5_186 : Cond.methodLink RX5 186 Lib.Math.max.name ∈ wsA := inA (tb3 (List.mem_of_getElem? (i := 19) rfl)) rfl
theorem mL_L_85 : Cond.methodLink RL 85 yX5_image ∈ wsA := inA (tb3 (List.mem_of_getElem? (i := 20) rfl)) rfl
theorem mI_X5_image : Cond.instanceMethod yX5_image ∈ wsA := inA (tb3 (List.mem_of_getElem? (i := 21) rfl)) rfl
theorem mS_X5_image : Cond.selects RX5 yX5_image yX5_image ∈ wsA := inA (tb3 (List.mem_of_getElem? (i := 22) rfl)) rfl
theorem mC_X5_image : Cond.code yX5_image cX5_image 1 (some .int) ∈ wsA := inA (tb3 (List.mem_of_getElem? (i := 23) rfl)) rfl
theorem mL_X5_193 : Cond.methodLink RX5 193 yX2_copy ∈ wsA := inA (tb3 (List.mem_of_getElem? (i := 24) rfl)) rfl
theorem mI_X2_copy : Cond.instanceMethod yX2_copy ∈ wsA := inA (tb3 (List.mem_of_getElem? (i := 25) rfl)) rfl
theorem mS_X2_copy : Cond.selects RX2 yX2_copy yX2_copy ∈ wsA := inA (tb3 (List.mem_of_getElem? (i := 26) rfl)) rfl
theorem mC_X2_copy : Cond.code yX2_copy cX2_copy 2 none ∈ wsA := inA (tb3 (List.mem_of_getElem? (i := 27) rfl)) rfl
theorem mL_X2_47 : Cond.methodLink RX2 47 arraycopyName ∈ wsA := inA (tb3 (List.mem_of_getElem? (i := 28) rfl)) rfl
theorem mT_arraycopy : Cond.static arraycopyName ∈ wsA := inA (tb3 (List.mem_of_getElem? (i := 29) rfl)) rfl
theorem mV_arraycopy : Cond.native arraycopyName ∈ wsA := inA (tb3 (List.mem_of_getElem? (i := 30) rfl)) rfl
theorem mL_L_89 : Cond.methodLink RL 89 yX5_restore ∈ wsA := inA (tb3 (List.mem_of_getElem? (i := 31) rfl)) rfl
theorem mI_X5_restore : Cond.instanceMethod yX5_restore ∈ wsA := inA (tb3 (List.mem_of_getElem? (i := 32) rfl)) rfl
theorem mS_X5_restore : Cond.selects RX5 yX5_restore yX5_restore ∈ wsA := inA (tb3 (List.mem_of_getElem? (i := 33) rfl)) rfl
theorem mC_X5_restore : Cond.code yX5_restore cX5_restore 1 (some .int) ∈ wsA := inA (tb3 (List.mem_of_getElem? (i := 34) rfl)) rfl
theorem mL_L_93 : Cond.methodLink RL 93 yX5_count ∈ wsA := inA (tb3 (List.mem_of_getElem? (i := 35) rfl)) rfl
theorem mI_X5_count : Cond.instanceMethod yX5_count ∈ wsA := inA (tb3 (List.mem_of_getElem? (i := 36) rfl)) rfl
theorem mS_X5_count : Cond.selects RX5 yX5_count yX5_count ∈ wsA := inA (tb3 (List.mem_of_getElem? (i := 37) rfl)) rfl
theorem mC_X5_count : Cond.code yX5_count cX5_count 2 (some .int) ∈ wsA := inA (tb3 (List.mem_of_getElem? (i := 38) rfl)) rfl
theorem mL_X5_200 : Cond.methodLink RX5 200 yX5_lengthOfAll ∈ wsA := inA (tb3 (List.mem_of_getElem? (i := 39) rfl)) rfl
theorem mI_X5_lengthOfAll : Cond.instanceMethod yX5_lengthOfAll ∈ wsA := inA (tb3 (List.mem_of_getElem? (i := 41) rfl)) rfl
theorem mC_X5_lengthOfAll : Cond.code yX5_lengthOfAll cX5_lengthOfAll 3 (some .int) ∈ wsA := inA (tb3 (List.mem_of_getElem? (i := 42) rfl)) rfl
theorem mL_X5_203 : Cond.methodLink RX5 203 yX2_hearings ∈ wsA := inA (tb3 (List.mem_of_getElem? (i := 43) rfl)) rfl
theorem mI_X2_hearings : Cond.instanceMethod yX2_hearings ∈ wsA := inA (tb3 (List.mem_of_getElem? (i := 44) rfl)) rfl
theorem mS_X2_hearings : Cond.selects RX2 yX2_hearings yX2_hearings ∈ wsA := inA (tb3 (List.mem_of_getElem? (i := 45) rfl)) rfl
theorem mC_X2_hearings : Cond.code yX2_hearings cX2_hearings 3 (some .int) ∈ wsA := inA (tb3 (List.mem_of_getElem? (i := 46) rfl)) rfl
theorem mL_X2_57 : Cond.methodLink RX2 57 yJ6_bitCount_0f7a4 ∈ wsA := inA (tb3 (List.mem_of_getElem? (i := 47) rfl)) rfl
theorem mL_L_97 : Cond.methodLink RL 97 yX5_digest ∈ wsA := inA (tb3 (List.mem_of_getElem? (i := 48) rfl)) rfl
theorem mI_X5_digest : Cond.instanceMethod yX5_digest ∈ wsA := inA (tb3 (List.mem_of_getElem? (i := 49) rfl)) rfl
theorem mS_X5_digest : Cond.selects RX5 yX5_digest yX5_digest ∈ wsA := inA (tb3 (List.mem_of_getElem? (i := 50) rfl)) rfl
theorem mC_X5_digest : Cond.code yX5_digest cX5_digest 4 (some .long) ∈ wsA := inA (tb3 (List.mem_of_getElem? (i := 51) rfl)) rfl
theorem mK_X5_206 : Cond.constantLong RX5 206 (1069) ∈ wsA := inA (tb3 (List.mem_of_getElem? (i := 52) rfl)) rfl
theorem mL_X5_208 : Cond.methodLink RX5 208 yX5_withPeople ∈ wsA := inA (tb3 (List.mem_of_getElem? (i := 53) rfl)) rfl
theorem mI_X5_withPeople : Cond.instanceMethod yX5_withPeople ∈ wsA := inA (tb3 (List.mem_of_getElem? (i := 55) rfl)) rfl
theorem mC_X5_withPeople : Cond.code yX5_withPeople cX5_withPeople 7 (some .long) ∈ wsA := inA (tb3 (List.mem_of_getElem? (i := 56) rfl)) rfl
theorem mL_X5_234 : Cond.methodLink RX5 234 yX5_person ∈ wsA := inA (tb3 (List.mem_of_getElem? (i := 57) rfl)) rfl
theorem mL_X5_218 : Cond.methodLink RX5 218 yX5_mixed ∈ wsA := inA (tb3 (List.mem_of_getElem? (i := 58) rfl)) rfl
theorem mT_X5_mixed : Cond.static yX5_mixed ∈ wsA := inA (tb3 (List.mem_of_getElem? (i := 59) rfl)) rfl
theorem mC_X5_mixed : Cond.code yX5_mixed cX5_mixed 4 (some .long) ∈ wsA := inA (tb3 (List.mem_of_getElem? (i := 60) rfl)) rfl
theorem mK_X5_243 : Cond.constantLong RX5 243 (31) ∈ wsA := inA (tb3 (List.mem_of_getElem? (i := 61) rfl)) rfl
theorem mL_X5_212 : Cond.methodLink RX5 212 yX5_withTunnels ∈ wsA := inA (tb3 (List.mem_of_getElem? (i := 62) rfl)) rfl
theorem mI_X5_withTunnels : Cond.instanceMethod yX5_withTunnels ∈ wsA := inA (tb3 (List.mem_of_getElem? (i := 64) rfl)) rfl
theorem mC_X5_withTunnels : Cond.code yX5_withTunnels cX5_withTunnels 7 (some .long) ∈ wsA := inA (tb3 (List.mem_of_getElem? (i := 65) rfl)) rfl
theorem mL_X5_237 : Cond.methodLink RX5 237 yX5_tunnel ∈ wsA := inA (tb3 (List.mem_of_getElem? (i := 66) rfl)) rfl
theorem mL_X5_215 : Cond.methodLink RX5 215 yX5_aim ∈ wsA := inA (tb3 (List.mem_of_getElem? (i := 67) rfl)) rfl
theorem mL_X5_222 : Cond.methodLink RX5 222 yX5_began ∈ wsA := inA (tb3 (List.mem_of_getElem? (i := 68) rfl)) rfl
theorem mL_X5_225 : Cond.methodLink RX5 225 yX5_ask ∈ wsA := inA (tb3 (List.mem_of_getElem? (i := 69) rfl)) rfl
theorem mL_X5_228 : Cond.methodLink RX5 228 yX5_withLetters ∈ wsA := inA (tb3 (List.mem_of_getElem? (i := 70) rfl)) rfl
theorem mI_X5_withLetters : Cond.instanceMethod yX5_withLetters ∈ wsA := inA (tb3 (List.mem_of_getElem? (i := 72) rfl)) rfl
theorem mC_X5_withLetters : Cond.code yX5_withLetters cX5_withLetters 6 (some .long) ∈ wsA := inA (tb3 (List.mem_of_getElem? (i := 73) rfl)) rfl
theorem mL_X5_240 : Cond.methodLink RX5 240 yX1_codeAt ∈ wsA := inA (tb3 (List.mem_of_getElem? (i := 74) rfl)) rfl
theorem mL_X5_231 : Cond.methodLink RX5 231 yX5_count ∈ wsA := inA (tb3 (List.mem_of_getElem? (i := 75) rfl)) rfl
theorem mQ_L_10 : Cond.classLink RL 10 RX6 ∈ wsA := inA (tb3 (List.mem_of_getElem? (i := 76) rfl)) rfl
theorem mB_X6 : Cond.instantiable RX6 22 ∈ wsA := inA (tb3 (List.mem_of_getElem? (i := 77) rfl)) rfl
theorem mL_L_12 : Cond.methodLink RL 12 yX6_init ∈ wsA := inA (tb3 (List.mem_of_getElem? (i := 78) rfl)) rfl
theorem mI_X6_init : Cond.instanceMethod yX6_init ∈ wsA := inA (tb3 (List.mem_of_getElem? (i := 79) rfl)) rfl
theorem mC_X6_init : Cond.code yX6_init cX6_init 1 none ∈ wsA := inA (tb3 (List.mem_of_getElem? (i := 80) rfl)) rfl
theorem mL_X6_1 : Cond.methodLink RX6 1 objectInit ∈ wsA := inA (tb3 (List.mem_of_getElem? (i := 81) rfl)) rfl
theorem mF_X6_7 : Cond.fieldLink RX6 7 "DugBySaidModel" "page" "[I" ∈ wsA := inA (tb3 (List.mem_of_getElem? (i := 82) rfl)) rfl
theorem mF_X6_44 : Cond.fieldLink RX6 44 "DugBySaidModel" "pageMany" "I" ∈ wsA := inA (tb3 (List.mem_of_getElem? (i := 83) rfl)) rfl
theorem mF_X6_47 : Cond.fieldLink RX6 47 "DugBySaidModel" "endAt" "I" ∈ wsA := inA (tb3 (List.mem_of_getElem? (i := 84) rfl)) rfl
theorem mF_X6_68 : Cond.fieldLink RX6 68 "DugBySaidModel" "people" "I" ∈ wsA := inA (tb3 (List.mem_of_getElem? (i := 85) rfl)) rfl
theorem mF_X6_71 : Cond.fieldLink RX6 71 "DugBySaidModel" "river" "I" ∈ wsA := inA (tb3 (List.mem_of_getElem? (i := 86) rfl)) rfl
theorem mF_X6_74 : Cond.fieldLink RX6 74 "DugBySaidModel" "days" "I" ∈ wsA := inA (tb3 (List.mem_of_getElem? (i := 87) rfl)) rfl
theorem mF_X6_77 : Cond.fieldLink RX6 77 "DugBySaidModel" "changes" "I" ∈ wsA := inA (tb3 (List.mem_of_getElem? (i := 88) rfl)) rfl
theorem mF_X6_83 : Cond.fieldLink RX6 83 "DugBySaidModel" "hillsRead" "I" ∈ wsA := inA (tb3 (List.mem_of_getElem? (i := 89) rfl)) rfl
theorem mF_X6_13 : Cond.fieldLink RX6 13 "DugBySaidModel" "rows" "[I" ∈ wsA := inA (tb3 (List.mem_of_getElem? (i := 90) rfl)) rfl
theorem mF_X6_16 : Cond.fieldLink RX6 16 "DugBySaidModel" "tunnels" "[I" ∈ wsA := inA (tb3 (List.mem_of_getElem? (i := 91) rfl)) rfl
theorem mF_X6_80 : Cond.fieldLink RX6 80 "DugBySaidModel" "askedMany" "I" ∈ wsA := inA (tb3 (List.mem_of_getElem? (i := 92) rfl)) rfl
theorem mF_X6_19 : Cond.fieldLink RX6 19 "DugBySaidModel" "askeds" "[I" ∈ wsA := inA (tb3 (List.mem_of_getElem? (i := 93) rfl)) rfl
theorem mF_X6_22 : Cond.fieldLink RX6 22 "DugBySaidModel" "parts" "[I" ∈ wsA := inA (tb3 (List.mem_of_getElem? (i := 94) rfl)) rfl
theorem mF_X6_159 : Cond.fieldLink RX6 159 "DugBySaidModel" "seedNow" "I" ∈ wsA := inA (tb3 (List.mem_of_getElem? (i := 95) rfl)) rfl
theorem mF_X6_34 : Cond.fieldLink RX6 34 "DugBySaidModel" "keptHill" "I" ∈ wsA := inA (tb3 (List.mem_of_getElem? (i := 96) rfl)) rfl
theorem mF_X6_176 : Cond.fieldLink RX6 176 "DugBySaidModel" "keptDays" "I" ∈ wsA := inA (tb3 (List.mem_of_getElem? (i := 97) rfl)) rfl
theorem mF_X6_179 : Cond.fieldLink RX6 179 "DugBySaidModel" "keptChanges" "I" ∈ wsA := inA (tb3 (List.mem_of_getElem? (i := 98) rfl)) rfl
theorem mF_X6_182 : Cond.fieldLink RX6 182 "DugBySaidModel" "keptAsked" "I" ∈ wsA := inA (tb3 (List.mem_of_getElem? (i := 99) rfl)) rfl
theorem mF_X6_25 : Cond.fieldLink RX6 25 "DugBySaidModel" "keptRows" "[I" ∈ wsA := inA (tb3 (List.mem_of_getElem? (i := 100) rfl)) rfl
theorem mF_X6_28 : Cond.fieldLink RX6 28 "DugBySaidModel" "keptTunnels" "[I" ∈ wsA := inA (tb3 (List.mem_of_getElem? (i := 101) rfl)) rfl
theorem mF_X6_31 : Cond.fieldLink RX6 31 "DugBySaidModel" "keptAskeds" "[I" ∈ wsA := inA (tb3 (List.mem_of_getElem? (i := 102) rfl)) rfl
theorem mF_X6_196 : Cond.fieldLink RX6 196 "DugBySaidModel" "hash" "J" ∈ wsA := inA (tb3 (List.mem_of_getElem? (i := 103) rfl)) rfl
theorem mL_L_17 : Cond.methodLink RL 17 yX6_letter ∈ wsA := inA (tb3 (List.mem_of_getElem? (i := 149) rfl)) rfl
theorem mI_X6_letter : Cond.instanceMethod yX6_letter ∈ wsA := inA (tb3 (List.mem_of_getElem? (i := 150) rfl)) rfl
theorem mS_X6_letter : Cond.selects RX6 yX6_letter yX6_letter ∈ wsA := inA (tb3 (List.mem_of_getElem? (i := 151) rfl)) rfl
theorem mC_X6_letter : Cond.code yX6_letter cX6_letter 2 (some .int) ∈ wsA := inA (tb3 (List.mem_of_getElem? (i := 152) rfl)) rfl
theorem mK_X6_38 : Cond.constantLong RX6 38 (126) ∈ wsA := inA (tb3 (List.mem_of_getElem? (i := 153) rfl)) rfl
theorem mL_X6_40 : Cond.methodLink RX6 40 yX6_in ∈ wsA := inA (tb3 (List.mem_of_getElem? (i := 154) rfl)) rfl
theorem mT_X6_in : Cond.static yX6_in ∈ wsA := inA (tb3 (List.mem_of_getElem? (i := 155) rfl)) rfl
theorem mC_X6_in : Cond.code yX6_in cX6_in 6 (some .boolean) ∈ wsA := inA (tb3 (List.mem_of_getElem? (i := 156) rfl)) rfl
theorem mL_L_22 : Cond.methodLink RL 22 yX6_blank ∈ wsA := inA (tb3 (List.mem_of_getElem? (i := 157) rfl)) rfl
theorem mI_X6_blank : Cond.instanceMethod yX6_blank ∈ wsA := inA (tb3 (List.mem_of_getElem? (i := 158) rfl)) rfl
theorem mS_X6_blank : Cond.selects RX6 yX6_blank yX6_blank ∈ wsA := inA (tb3 (List.mem_of_getElem? (i := 159) rfl)) rfl
theorem mC_X6_blank : Cond.code yX6_blank cX6_blank 2 (some .int) ∈ wsA := inA (tb3 (List.mem_of_getElem? (i := 160) rfl)) rfl
theorem mL_L_26 : Cond.methodLink RL 26 yX6_fault ∈ wsA := inA (tb3 (List.mem_of_getElem? (i := 161) rfl)) rfl
theorem mI_X6_fault : Cond.instanceMethod yX6_fault ∈ wsA := inA (tb3 (List.mem_of_getElem? (i := 162) rfl)) rfl
theorem mS_X6_fault : Cond.selects RX6 yX6_fault yX6_fault ∈ wsA := inA (tb3 (List.mem_of_getElem? (i := 163) rfl)) rfl
theorem mC_X6_fault : Cond.code yX6_fault cX6_fault 1 (some .int) ∈ wsA := inA (tb3 (List.mem_of_getElem? (i := 164) rfl)) rfl
theorem mL_X6_64 : Cond.methodLink RX6 64 yX6_faultOf ∈ wsA := inA (tb3 (List.mem_of_getElem? (i := 165) rfl)) rfl
theorem mI_X6_faultOf : Cond.instanceMethod yX6_faultOf ∈ wsA := inA (tb3 (List.mem_of_getElem? (i := 167) rfl)) rfl
theorem mC_X6_faultOf : Cond.code yX6_faultOf cX6_faultOf 2 (some .int) ∈ wsA := inA (tb3 (List.mem_of_getElem? (i := 168) rfl)) rfl
theorem mL_X6_60 : Cond.methodLink RX6 60 yX6_isGood ∈ wsA := inA (tb3 (List.mem_of_getElem? (i := 169) rfl)) rfl
theorem mI_X6_isGood : Cond.instanceMethod yX6_isGood ∈ wsA := inA (tb3 (List.mem_of_getElem? (i := 171) rfl)) rfl
theorem mC_X6_isGood : Cond.code yX6_isGood cX6_isGood 3 (some .boolean) ∈ wsA := inA (tb3 (List.mem_of_getElem? (i := 172) rfl)) rfl
theorem mK_X6_50 : Cond.constantLong RX6 50 (49) ∈ wsA := inA (tb3 (List.mem_of_getElem? (i := 173) rfl)) rfl
theorem mK_X6_52 : Cond.constantLong RX6 52 (57) ∈ wsA := inA (tb3 (List.mem_of_getElem? (i := 174) rfl)) rfl
theorem mL_X6_54 : Cond.methodLink RX6 54 yX6_kindBy ∈ wsA := inA (tb3 (List.mem_of_getElem? (i := 175) rfl)) rfl
theorem mT_X6_kindBy : Cond.static yX6_kindBy ∈ wsA := inA (tb3 (List.mem_of_getElem? (i := 176) rfl)) rfl
theorem mC_X6_kindBy : Cond.code yX6_kindBy cX6_kindBy 1 (some .int) ∈ wsA := inA (tb3 (List.mem_of_getElem? (i := 177) rfl)) rfl
theorem mK_X6_58 : Cond.constantLong RX6 58 (48) ∈ wsA := inA (tb3 (List.mem_of_getElem? (i := 178) rfl)) rfl
theorem mL_L_30 : Cond.methodLink RL 30 yX6_hill ∈ wsA := inA (tb3 (List.mem_of_getElem? (i := 179) rfl)) rfl
theorem mI_X6_hill : Cond.instanceMethod yX6_hill ∈ wsA := inA (tb3 (List.mem_of_getElem? (i := 180) rfl)) rfl
theorem mS_X6_hill : Cond.selects RX6 yX6_hill yX6_hill ∈ wsA := inA (tb3 (List.mem_of_getElem? (i := 181) rfl)) rfl
theorem mC_X6_hill : Cond.code yX6_hill cX6_hill 3 (some .int) ∈ wsA := inA (tb3 (List.mem_of_getElem? (i := 182) rfl)) rfl
theorem mL_L_35 : Cond.methodLink RL 35 yX6_person ∈ wsA := inA (tb3 (List.mem_of_getElem? (i := 183) rfl)) rfl
theorem mI_X6_person : Cond.instanceMethod yX6_person ∈ wsA := inA (tb3 (List.mem_of_getElem? (i := 184) rfl)) rfl
theorem mS_X6_person : Cond.selects RX6 yX6_person yX6_person ∈ wsA := inA (tb3 (List.mem_of_getElem? (i := 185) rfl)) rfl
theorem mC_X6_person : Cond.code yX6_person cX6_person 3 (some .int) ∈ wsA := inA (tb3 (List.mem_of_getElem? (i := 186) rfl)) rfl
theorem mL_X6_120 : Cond.methodLink RX6 120 yX6_isPerson ∈ wsA := inA (tb3 (List.mem_of_getElem? (i := 187) rfl)) rfl
theorem mI_X6_isPerson : Cond.instanceMethod yX6_isPerson ∈ wsA := inA (tb3 (List.mem_of_getElem? (i := 189) rfl)) rfl
theorem mC_X6_isPerson : Cond.code yX6_isPerson cX6_isPerson 2 (some .boolean) ∈ wsA := inA (tb3 (List.mem_of_getElem? (i := 190) rfl)) rfl
theorem mL_X6_123 : Cond.methodLink RX6 123 yX6_tellPerson ∈ wsA := inA (tb3 (List.mem_of_getElem? (i := 191) rfl)) rfl
theorem mI_X6_tellPerson : Cond.instanceMethod yX6_tellPerson ∈ wsA := inA (tb3 (List.mem_of_getElem? (i := 193) rfl)) rfl
theorem mC_X6_tellPerson : Cond.code yX6_tellPerson cX6_tellPerson 3 (some .int) ∈ wsA := inA (tb3 (List.mem_of_getElem? (i := 194) rfl)) rfl
theorem mL_X6_92 : Cond.methodLink RX6 92 yX6_tellsOf ∈ wsA := inA (tb3 (List.mem_of_getElem? (i := 195) rfl)) rfl
theorem mI_X6_tellsOf : Cond.instanceMethod yX6_tellsOf ∈ wsA := inA (tb3 (List.mem_of_getElem? (i := 197) rfl)) rfl
theorem mC_X6_tellsOf : Cond.code yX6_tellsOf cX6_tellsOf 6 (some .int) ∈ wsA := inA (tb3 (List.mem_of_getElem? (i := 198) rfl)) rfl
theorem mL_X6_111 : Cond.methodLink RX6 111 yX6_tunnelsOf ∈ wsA := inA (tb3 (List.mem_of_getElem? (i := 199) rfl)) rfl
theorem mI_X6_tunnelsOf : Cond.instanceMethod yX6_tunnelsOf ∈ wsA := inA (tb3 (List.mem_of_getElem? (i := 201) rfl)) rfl
theorem mC_X6_tunnelsOf : Cond.code yX6_tunnelsOf cX6_tunnelsOf 4 (some .int) ∈ wsA := inA (tb3 (List.mem_of_getElem? (i := 202) rfl)) rfl
theorem mL_X6_114 : Cond.methodLink RX6 114 yX6_endsOf ∈ wsA := inA (tb3 (List.mem_of_getElem? (i := 203) rfl)) rfl
theorem mI_X6_endsOf : Cond.instanceMethod yX6_endsOf ∈ wsA := inA (tb3 (List.mem_of_getElem? (i := 205) rfl)) rfl
theorem mC_X6_endsOf : Cond.code yX6_endsOf cX6_endsOf 2 (some .int) ∈ wsA := inA (tb3 (List.mem_of_getElem? (i := 206) rfl)) rfl
theorem mL_X6_101 : Cond.methodLink RX6 101 yX6_endBy ∈ wsA := inA (tb3 (List.mem_of_getElem? (i := 207) rfl)) rfl
theorem mI_X6_endBy : Cond.instanceMethod yX6_endBy ∈ wsA := inA (tb3 (List.mem_of_getElem? (i := 209) rfl)) rfl
theorem mC_X6_endBy : Cond.code yX6_endBy cX6_endBy 5 (some .int) ∈ wsA := inA (tb3 (List.mem_of_getElem? (i := 210) rfl)) rfl
theorem mL_X6_95 : Cond.methodLink RX6 95 yX6_toldBy ∈ wsA := inA (tb3 (List.mem_of_getElem? (i := 211) rfl)) rfl
theorem mI_X6_toldBy : Cond.instanceMethod yX6_toldBy ∈ wsA := inA (tb3 (List.mem_of_getElem? (i := 213) rfl)) rfl
theorem mC_X6_toldBy : Cond.code yX6_toldBy cX6_toldBy 4 (some .int) ∈ wsA := inA (tb3 (List.mem_of_getElem? (i := 214) rfl)) rfl
theorem mL_X6_105 : Cond.methodLink RX6 105 yX6_lengthBy ∈ wsA := inA (tb3 (List.mem_of_getElem? (i := 215) rfl)) rfl
theorem mI_X6_lengthBy : Cond.instanceMethod yX6_lengthBy ∈ wsA := inA (tb3 (List.mem_of_getElem? (i := 217) rfl)) rfl
theorem mC_X6_lengthBy : Cond.code yX6_lengthBy cX6_lengthBy 7 (some .int) ∈ wsA := inA (tb3 (List.mem_of_getElem? (i := 218) rfl)) rfl
theorem mL_X6_98 : Cond.methodLink RX6 98 yX6_yardsBy ∈ wsA := inA (tb3 (List.mem_of_getElem? (i := 219) rfl)) rfl
theorem mT_X6_yardsBy : Cond.static yX6_yardsBy ∈ wsA := inA (tb3 (List.mem_of_getElem? (i := 220) rfl)) rfl
theorem mC_X6_yardsBy : Cond.code yX6_yardsBy cX6_yardsBy 1 (some .int) ∈ wsA := inA (tb3 (List.mem_of_getElem? (i := 221) rfl)) rfl
theorem mL_X6_117 : Cond.methodLink RX6 117 yX6_lastsOf ∈ wsA := inA (tb3 (List.mem_of_getElem? (i := 222) rfl)) rfl
theorem mI_X6_lastsOf : Cond.instanceMethod yX6_lastsOf ∈ wsA := inA (tb3 (List.mem_of_getElem? (i := 224) rfl)) rfl
theorem mC_X6_lastsOf : Cond.code yX6_lastsOf cX6_lastsOf 5 (some .int) ∈ wsA := inA (tb3 (List.mem_of_getElem? (i := 225) rfl)) rfl
theorem mL_X6_108 : Cond.methodLink RX6 108 yX6_dayOf ∈ wsA := inA (tb3 (List.mem_of_getElem? (i := 226) rfl)) rfl
theorem mI_X6_dayOf : Cond.instanceMethod yX6_dayOf ∈ wsA := inA (tb3 (List.mem_of_getElem? (i := 228) rfl)) rfl
theorem mC_X6_dayOf : Cond.code yX6_dayOf cX6_dayOf 6 (some .int) ∈ wsA := inA (tb3 (List.mem_of_getElem? (i := 229) rfl)) rfl
theorem mL_L_39 : Cond.methodLink RL 39 yX6_as ∈ wsA := inA (tb3 (List.mem_of_getElem? (i := 230) rfl)) rfl
theorem mI_X6_as : Cond.instanceMethod yX6_as ∈ wsA := inA (tb3 (List.mem_of_getElem? (i := 231) rfl)) rfl
theorem mS_X6_as : Cond.selects RX6 yX6_as yX6_as ∈ wsA := inA (tb3 (List.mem_of_getElem? (i := 232) rfl)) rfl
theorem mC_X6_as : Cond.code yX6_as cX6_as 5 (some .int) ∈ wsA := inA (tb3 (List.mem_of_getElem? (i := 233) rfl)) rfl
theorem mK_X6_126 : Cond.constantLong RX6 126 (4) ∈ wsA := inA (tb3 (List.mem_of_getElem? (i := 234) rfl)) rfl
theorem mL_L_43 : Cond.methodLink RL 43 yX6_next ∈ wsA := inA (tb3 (List.mem_of_getElem? (i := 235) rfl)) rfl
theorem mI_X6_next : Cond.instanceMethod yX6_next ∈ wsA := inA (tb3 (List.mem_of_getElem? (i := 236) rfl)) rfl
theorem mS_X6_next : Cond.selects RX6 yX6_next yX6_next ∈ wsA := inA (tb3 (List.mem_of_getElem? (i := 237) rfl)) rfl
theorem mC_X6_next : Cond.code yX6_next cX6_next 4 (some .int) ∈ wsA := inA (tb3 (List.mem_of_getElem? (i := 238) rfl)) rfl
theorem mL_L_47 : Cond.methodLink RL 47 yX6_tell ∈ wsA := inA (tb3 (List.mem_of_getElem? (i := 239) rfl)) rfl
theorem mI_X6_tell : Cond.instanceMethod yX6_tell ∈ wsA := inA (tb4 (List.mem_of_getElem? (i := 0) rfl)) rfl
theorem mS_X6_tell : Cond.selects RX6 yX6_tell yX6_tell ∈ wsA := inA (tb4 (List.mem_of_getElem? (i := 1) rfl)) rfl
theorem mC_X6_tell : Cond.code yX6_tell cX6_tell 3 (some .int) ∈ wsA := inA (tb4 (List.mem_of_getElem? (i := 2) rfl)) rfl
theorem mL_X6_128 : Cond.methodLink RX6 128 yX6_isTunnel ∈ wsA := inA (tb4 (List.mem_of_getElem? (i := 3) rfl)) rfl
theorem mI_X6_isTunnel : Cond.instanceMethod yX6_isTunnel ∈ wsA := inA (tb4 (List.mem_of_getElem? (i := 5) rfl)) rfl
theorem mC_X6_isTunnel : Cond.code yX6_isTunnel cX6_isTunnel 2 (some .boolean) ∈ wsA := inA (tb4 (List.mem_of_getElem? (i := 6) rfl)) rfl
theorem mL_X6_86 : Cond.methodLink RX6 86 yX6_lacks ∈ wsA := inA (tb4 (List.mem_of_getElem? (i := 7) rfl)) rfl
theorem mI_X6_lacks : Cond.instanceMethod yX6_lacks ∈ wsA := inA (tb4 (List.mem_of_getElem? (i := 9) rfl)) rfl
theorem mC_X6_lacks : Cond.code yX6_lacks cX6_lacks 1 (some .boolean) ∈ wsA := inA (tb4 (List.mem_of_getElem? (i := 10) rfl)) rfl
theorem mK_X6_90 : Cond.constantLong RX6 90 (2) ∈ wsA := inA (tb4 (List.mem_of_getElem? (i := 11) rfl)) rfl
theorem mL_X6_131 : Cond.methodLink RX6 131 yX6_lengthOf ∈ wsA := inA (tb4 (List.mem_of_getElem? (i := 12) rfl)) rfl
theorem mI_X6_lengthOf : Cond.instanceMethod yX6_lengthOf ∈ wsA := inA (tb4 (List.mem_of_getElem? (i := 14) rfl)) rfl
theorem mC_X6_lengthOf : Cond.code yX6_lengthOf cX6_lengthOf 2 (some .int) ∈ wsA := inA (tb4 (List.mem_of_getElem? (i := 15) rfl)) rfl
theorem mL_L_51 : Cond.methodLink RL 51 yX6_day ∈ wsA := inA (tb4 (List.mem_of_getElem? (i := 16) rfl)) rfl
theorem mI_X6_day : Cond.instanceMethod yX6_day ∈ wsA := inA (tb4 (List.mem_of_getElem? (i := 17) rfl)) rfl
theorem mS_X6_day : Cond.selects RX6 yX6_day yX6_day ∈ wsA := inA (tb4 (List.mem_of_getElem? (i := 18) rfl)) rfl
theorem mC_X6_day : Cond.code yX6_day cX6_day 4 (some .int) ∈ wsA := inA (tb4 (List.mem_of_getElem? (i := 19) rfl)) rfl
theorem mL_X6_134 : Cond.methodLink RX6 134 yX6_ones ∈ wsA := inA (tb4 (List.mem_of_getElem? (i := 20) rfl)) rfl
theorem mT_X6_ones : Cond.static yX6_ones ∈ wsA := inA (tb4 (List.mem_of_getElem? (i := 21) rfl)) rfl
theorem mC_X6_ones : Cond.code yX6_ones cX6_ones 3 (some .int) ∈ wsA := inA (tb4 (List.mem_of_getElem? (i := 22) rfl)) rfl
theorem mL_L_55 : Cond.methodLink RL 55 yX6_deny ∈ wsA := inA (tb4 (List.mem_of_getElem? (i := 23) rfl)) rfl
theorem mI_X6_deny : Cond.instanceMethod yX6_deny ∈ wsA := inA (tb4 (List.mem_of_getElem? (i := 24) rfl)) rfl
theorem mS_X6_deny : Cond.selects RX6 yX6_deny yX6_deny ∈ wsA := inA (tb4 (List.mem_of_getElem? (i := 25) rfl)) rfl
theorem mC_X6_deny : Cond.code yX6_deny cX6_deny 2 (some .int) ∈ wsA := inA (tb4 (List.mem_of_getElem? (i := 26) rfl)) rfl
theorem mL_L_59 : Cond.methodLink RL 59 yX6_tunnel ∈ wsA := inA (tb4 (List.mem_of_getElem? (i := 27) rfl)) rfl
theorem mI_X6_tunnel : Cond.instanceMethod yX6_tunnel ∈ wsA := inA (tb4 (List.mem_of_getElem? (i := 28) rfl)) rfl
theorem mS_X6_tunnel : Cond.selects RX6 yX6_tunnel yX6_tunnel ∈ wsA := inA (tb4 (List.mem_of_getElem? (i := 29) rfl)) rfl
theorem mC_X6_tunnel : Cond.code yX6_tunnel cX6_tunnel 3 (some .int) ∈ wsA := inA (tb4 (List.mem_of_getElem? (i := 30) rfl)) rfl
theorem mL_X6_139 : Cond.methodLink RX6 139 yX6_tellTunnel ∈ wsA := inA (tb4 (List.mem_of_getElem? (i := 31) rfl)) rfl
theorem mI_X6_tellTunnel : Cond.instanceMethod yX6_tellTunnel ∈ wsA := inA (tb4 (List.mem_of_getElem? (i := 33) rfl)) rfl
theorem mC_X6_tellTunnel : Cond.code yX6_tellTunnel cX6_tellTunnel 3 (some .int) ∈ wsA := inA (tb4 (List.mem_of_getElem? (i := 34) rfl)) rfl
theorem mK_X6_137 : Cond.constantLong RX6 137 (3) ∈ wsA := inA (tb4 (List.mem_of_getElem? (i := 35) rfl)) rfl
theorem mL_L_63 : Cond.methodLink RL 63 yX6_aim ∈ wsA := inA (tb4 (List.mem_of_getElem? (i := 36) rfl)) rfl
theorem mI_X6_aim : Cond.instanceMethod yX6_aim ∈ wsA := inA (tb4 (List.mem_of_getElem? (i := 37) rfl)) rfl
theorem mS_X6_aim : Cond.selects RX6 yX6_aim yX6_aim ∈ wsA := inA (tb4 (List.mem_of_getElem? (i := 38) rfl)) rfl
theorem mC_X6_aim : Cond.code yX6_aim cX6_aim 3 (some .int) ∈ wsA := inA (tb4 (List.mem_of_getElem? (i := 39) rfl)) rfl
theorem mK_X6_142 : Cond.constantLong RX6 142 (12) ∈ wsA := inA (tb4 (List.mem_of_getElem? (i := 40) rfl)) rfl
theorem mL_X6_144 : Cond.methodLink RX6 144 yX6_aimOf ∈ wsA := inA (tb4 (List.mem_of_getElem? (i := 41) rfl)) rfl
theorem mI_X6_aimOf : Cond.instanceMethod yX6_aimOf ∈ wsA := inA (tb4 (List.mem_of_getElem? (i := 43) rfl)) rfl
theorem mC_X6_aimOf : Cond.code yX6_aimOf cX6_aimOf 6 (some .int) ∈ wsA := inA (tb4 (List.mem_of_getElem? (i := 44) rfl)) rfl
theorem mL_L_67 : Cond.methodLink RL 67 yX6_heard ∈ wsA := inA (tb4 (List.mem_of_getElem? (i := 45) rfl)) rfl
theorem mI_X6_heard : Cond.instanceMethod yX6_heard ∈ wsA := inA (tb4 (List.mem_of_getElem? (i := 46) rfl)) rfl
theorem mS_X6_heard : Cond.selects RX6 yX6_heard yX6_heard ∈ wsA := inA (tb4 (List.mem_of_getElem? (i := 47) rfl)) rfl
theorem mC_X6_heard : Cond.code yX6_heard cX6_heard 3 (some .int) ∈ wsA := inA (tb4 (List.mem_of_getElem? (i := 48) rfl)) rfl
theorem mK_X6_147 : Cond.constantLong RX6 147 (-1) ∈ wsA := inA (tb4 (List.mem_of_getElem? (i := 49) rfl)) rfl
theorem mK_X6_149 : Cond.constantLong RX6 149 (9) ∈ wsA := inA (tb4 (List.mem_of_getElem? (i := 50) rfl)) rfl
theorem mL_L_71 : Cond.methodLink RL 71 yX6_forget ∈ wsA := inA (tb4 (List.mem_of_getElem? (i := 51) rfl)) rfl
theorem mI_X6_forget : Cond.instanceMethod yX6_forget ∈ wsA := inA (tb4 (List.mem_of_getElem? (i := 52) rfl)) rfl
theorem mS_X6_forget : Cond.selects RX6 yX6_forget yX6_forget ∈ wsA := inA (tb4 (List.mem_of_getElem? (i := 53) rfl)) rfl
theorem mC_X6_forget : Cond.code yX6_forget cX6_forget 2 (some .int) ∈ wsA := inA (tb4 (List.mem_of_getElem? (i := 54) rfl)) rfl
theorem mL_L_75 : Cond.methodLink RL 75 yX6_began ∈ wsA := inA (tb4 (List.mem_of_getElem? (i := 55) rfl)) rfl
theorem mI_X6_began : Cond.instanceMethod yX6_began ∈ wsA := inA (tb4 (List.mem_of_getElem? (i := 56) rfl)) rfl
theorem mS_X6_began : Cond.selects RX6 yX6_began yX6_began ∈ wsA := inA (tb4 (List.mem_of_getElem? (i := 57) rfl)) rfl
theorem mC_X6_began : Cond.code yX6_began cX6_began 1 (some .int) ∈ wsA := inA (tb4 (List.mem_of_getElem? (i := 58) rfl)) rfl
theorem mL_X6_151 : Cond.methodLink RX6 151 yX6_beganOf ∈ wsA := inA (tb4 (List.mem_of_getElem? (i := 59) rfl)) rfl
theorem mI_X6_beganOf : Cond.instanceMethod yX6_beganOf ∈ wsA := inA (tb4 (List.mem_of_getElem? (i := 61) rfl)) rfl
theorem mC_X6_beganOf : Cond.code yX6_beganOf cX6_beganOf 5 (some .int) ∈ wsA := inA (tb4 (List.mem_of_getElem? (i := 62) rfl)) rfl
theorem mL_L_79 : Cond.methodLink RL 79 yX6_ask ∈ wsA := inA (tb4 (List.mem_of_getElem? (i := 63) rfl)) rfl
theorem mI_X6_ask : Cond.instanceMethod yX6_ask ∈ wsA := inA (tb4 (List.mem_of_getElem? (i := 64) rfl)) rfl
theorem mS_X6_ask : Cond.selects RX6 yX6_ask yX6_ask ∈ wsA := inA (tb4 (List.mem_of_getElem? (i := 65) rfl)) rfl
theorem mC_X6_ask : Cond.code yX6_ask cX6_ask 1 (some .int) ∈ wsA := inA (tb4 (List.mem_of_getElem? (i := 66) rfl)) rfl
theorem mL_X6_154 : Cond.methodLink RX6 154 yX6_askOf ∈ wsA := inA (tb4 (List.mem_of_getElem? (i := 67) rfl)) rfl
theorem mI_X6_askOf : Cond.instanceMethod yX6_askOf ∈ wsA := inA (tb4 (List.mem_of_getElem? (i := 69) rfl)) rfl
theorem mC_X6_askOf : Cond.code yX6_askOf cX6_askOf 8 (some .int) ∈ wsA := inA (tb4 (List.mem_of_getElem? (i := 70) rfl)) rfl
theorem mL_L_84 : Cond.methodLink RL 84 yX6_markets ∈ wsA := inA (tb4 (List.mem_of_getElem? (i := 71) rfl)) rfl
theorem mI_X6_markets : Cond.instanceMethod yX6_markets ∈ wsA := inA (tb4 (List.mem_of_getElem? (i := 72) rfl)) rfl
theorem mS_X6_markets : Cond.selects RX6 yX6_markets yX6_markets ∈ wsA := inA (tb4 (List.mem_of_getElem? (i := 73) rfl)) rfl
theorem mC_X6_markets : Cond.code yX6_markets cX6_markets 8 (some .int) ∈ wsA := inA (tb4 (List.mem_of_getElem? (i := 74) rfl)) rfl
theorem mK_X6_167 : Cond.constantLong RX6 167 (60) ∈ wsA := inA (tb4 (List.mem_of_getElem? (i := 75) rfl)) rfl
theorem mL_X6_169 : Cond.methodLink RX6 169 yX6_draw ∈ wsA := inA (tb4 (List.mem_of_getElem? (i := 76) rfl)) rfl
theorem mI_X6_draw : Cond.instanceMethod yX6_draw ∈ wsA := inA (tb4 (List.mem_of_getElem? (i := 78) rfl)) rfl
theorem mC_X6_draw : Cond.code yX6_draw cX6_draw 2 (some .int) ∈ wsA := inA (tb4 (List.mem_of_getElem? (i := 79) rfl)) rfl
theorem mK_X6_157 : Cond.constantLong RX6 157 (1103515245) ∈ wsA := inA (tb4 (List.mem_of_getElem? (i := 80) rfl)) rfl
theorem mK_X6_162 : Cond.constantLong RX6 162 (12345) ∈ wsA := inA (tb4 (List.mem_of_getElem? (i := 81) rfl)) rfl
theorem mK_X6_164 : Cond.constantLong RX6 164 (2147483647) ∈ wsA := inA (tb4 (List.mem_of_getElem? (i := 82) rfl)) rfl
theorem mK_X6_166 : Cond.constant RX6 166 (65536) ∈ wsA := inA (tb4 (List.mem_of_getElem? (i := 83) rfl)) rfl
theorem mL_L_88 : Cond.methodLink RL 88 yX6_image ∈ wsA := inA (tb4 (List.mem_of_getElem? (i := 84) rfl)) rfl
theorem mI_X6_image : Cond.instanceMethod yX6_image ∈ wsA := inA (tb4 (List.mem_of_getElem? (i := 85) rfl)) rfl
theorem mS_X6_image : Cond.selects RX6 yX6_image yX6_image ∈ wsA := inA (tb4 (List.mem_of_getElem? (i := 86) rfl)) rfl
theorem mC_X6_image : Cond.code yX6_image cX6_image 1 (some .int) ∈ wsA := inA (tb4 (List.mem_of_getElem? (i := 87) rfl)) rfl
theorem mL_X6_172 : Cond.methodLink RX6 172 yX6_copy ∈ wsA := inA (tb4 (List.mem_of_getElem? (i := 88) rfl)) rfl
theorem mT_X6_copy : Cond.static yX6_copy ∈ wsA := inA (tb4 (List.mem_of_getElem? (i := 89) rfl)) rfl
theorem mC_X6_copy : Cond.code yX6_copy cX6_copy 3 none ∈ wsA := inA (tb4 (List.mem_of_getElem? (i := 90) rfl)) rfl
theorem mL_L_92 : Cond.methodLink RL 92 yX6_restore ∈ wsA := inA (tb4 (List.mem_of_getElem? (i := 91) rfl)) rfl
theorem mI_X6_restore : Cond.instanceMethod yX6_restore ∈ wsA := inA (tb4 (List.mem_of_getElem? (i := 92) rfl)) rfl
theorem mS_X6_restore : Cond.selects RX6 yX6_restore yX6_restore ∈ wsA := inA (tb4 (List.mem_of_getElem? (i := 93) rfl)) rfl
theorem mC_X6_restore : Cond.code yX6_restore cX6_restore 1 (some .int) ∈ wsA := inA (tb4 (List.mem_of_getElem? (i := 94) rfl)) rfl
theorem mL_L_96 : Cond.methodLink RL 96 yX6_count ∈ wsA := inA (tb4 (List.mem_of_getElem? (i := 95) rfl)) rfl
theorem mI_X6_count : Cond.instanceMethod yX6_count ∈ wsA := inA (tb4 (List.mem_of_getElem? (i := 96) rfl)) rfl
theorem mS_X6_count : Cond.selects RX6 yX6_count yX6_count ∈ wsA := inA (tb4 (List.mem_of_getElem? (i := 97) rfl)) rfl
theorem mC_X6_count : Cond.code yX6_count cX6_count 2 (some .int) ∈ wsA := inA (tb4 (List.mem_of_getElem? (i := 98) rfl)) rfl
theorem mL_X6_191 : Cond.methodLink RX6 191 yX6_countOf ∈ wsA := inA (tb4 (List.mem_of_getElem? (i := 99) rfl)) rfl
theorem mI_X6_countOf : Cond.instanceMethod yX6_countOf ∈ wsA := inA (tb4 (List.mem_of_getElem? (i := 101) rfl)) rfl
theorem mC_X6_countOf : Cond.code yX6_countOf cX6_countOf 2 (some .int) ∈ wsA := inA (tb4 (List.mem_of_getElem? (i := 102) rfl)) rfl
theorem mL_X6_185 : Cond.methodLink RX6 185 yX6_lengthAll ∈ wsA := inA (tb4 (List.mem_of_getElem? (i := 103) rfl)) rfl
theorem mI_X6_lengthAll : Cond.instanceMethod yX6_lengthAll ∈ wsA := inA (tb4 (List.mem_of_getElem? (i := 105) rfl)) rfl
theorem mC_X6_lengthAll : Cond.code yX6_lengthAll cX6_lengthAll 3 (some .int) ∈ wsA := inA (tb4 (List.mem_of_getElem? (i := 106) rfl)) rfl
theorem mL_X6_188 : Cond.methodLink RX6 188 yX6_heardAll ∈ wsA := inA (tb4 (List.mem_of_getElem? (i := 107) rfl)) rfl
theorem mI_X6_heardAll : Cond.instanceMethod yX6_heardAll ∈ wsA := inA (tb4 (List.mem_of_getElem? (i := 109) rfl)) rfl
theorem mC_X6_heardAll : Cond.code yX6_heardAll cX6_heardAll 1 (some .int) ∈ wsA := inA (tb4 (List.mem_of_getElem? (i := 110) rfl)) rfl
theorem mL_L_101 : Cond.methodLink RL 101 yX6_digest ∈ wsA := inA (tb4 (List.mem_of_getElem? (i := 111) rfl)) rfl
theorem mI_X6_digest : Cond.instanceMethod yX6_digest ∈ wsA := inA (tb4 (List.mem_of_getElem? (i := 112) rfl)) rfl
theorem mS_X6_digest : Cond.selects RX6 yX6_digest yX6_digest ∈ wsA := inA (tb4 (List.mem_of_getElem? (i := 113) rfl)) rfl
theorem mC_X6_digest : Cond.code yX6_digest cX6_digest 3 (some .long) ∈ wsA := inA (tb4 (List.mem_of_getElem? (i := 114) rfl)) rfl
theorem mK_X6_204 : Cond.constantLong RX6 204 (1069) ∈ wsA := inA (tb4 (List.mem_of_getElem? (i := 115) rfl)) rfl
theorem mL_X6_200 : Cond.methodLink RX6 200 yX6_say ∈ wsA := inA (tb4 (List.mem_of_getElem? (i := 116) rfl)) rfl
theorem mI_X6_say : Cond.instanceMethod yX6_say ∈ wsA := inA (tb4 (List.mem_of_getElem? (i := 118) rfl)) rfl
theorem mC_X6_say : Cond.code yX6_say cX6_say 3 none ∈ wsA := inA (tb4 (List.mem_of_getElem? (i := 119) rfl)) rfl
theorem mK_X6_194 : Cond.constantLong RX6 194 (31) ∈ wsA := inA (tb4 (List.mem_of_getElem? (i := 120) rfl)) rfl
theorem mL_X6_206 : Cond.methodLink RX6 206 yX6_sayHill ∈ wsA := inA (tb4 (List.mem_of_getElem? (i := 121) rfl)) rfl
theorem mI_X6_sayHill : Cond.instanceMethod yX6_sayHill ∈ wsA := inA (tb4 (List.mem_of_getElem? (i := 123) rfl)) rfl
theorem mC_X6_sayHill : Cond.code yX6_sayHill cX6_sayHill 3 none ∈ wsA := inA (tb4 (List.mem_of_getElem? (i := 124) rfl)) rfl
theorem mF_J0_15 : Cond.fieldLink RJ0 15 "java/lang/String" "coder" "B" ∈ wsA := inA (tb4 (List.mem_of_getElem? (i := 125) rfl)) rfl
theorem mF_J0_9 : Cond.fieldLink RJ0 9 "java/lang/String" "value" "[B" ∈ wsA := inA (tb4 (List.mem_of_getElem? (i := 126) rfl)) rfl
theorem mS_X1_fits : Cond.selects RX1 yX1_fits yX1_fits ∈ wsA := inA (tbs (q := (yX1_fits, 2)) (List.mem_append_left _ (List.mem_of_getElem? (i := 0) rfl))) rfl
theorem mS_X5_point : Cond.selects RX5 yX5_point yX5_point ∈ wsA := inA (tbs (q := (yX5_point, 8)) (List.mem_append_left _ (List.mem_of_getElem? (i := 1) rfl))) rfl
theorem mS_X5_isTunnel : Cond.selects RX5 yX5_isTunnel yX5_isTunnel ∈ wsA := inA (tbs (q := (yX5_isTunnel, 8)) (List.mem_append_left _ (List.mem_of_getElem? (i := 2) rfl))) rfl
theorem mS_X5_lengthOf : Cond.selects RX5 yX5_lengthOf yX5_lengthOf ∈ wsA := inA (tbs (q := (yX5_lengthOf, 8)) (List.mem_append_left _ (List.mem_of_getElem? (i := 3) rfl))) rfl
theorem mS_X5_fewestToTell : Cond.selects RX5 yX5_fewestToTell yX5_fewestToTell ∈ wsA := inA (tbs (q := (yX5_fewestToTell, 8)) (List.mem_append_left _ (List.mem_of_getElem? (i := 4) rfl))) rfl
theorem mS_X3_agrees : Cond.selects RX3 yX3_agrees yX3_agrees ∈ wsA := inA (tbs (q := (yX3_agrees, 4)) (List.mem_append_left _ (List.mem_of_getElem? (i := 5) rfl))) rfl
theorem mS_X3_leftAtWorst : Cond.selects RX3 yX3_leftAtWorst yX3_leftAtWorst ∈ wsA := inA (tbs (q := (yX3_leftAtWorst, 4)) (List.mem_append_left _ (List.mem_of_getElem? (i := 6) rfl))) rfl
theorem mS_X5_lengthOfAll : Cond.selects RX5 yX5_lengthOfAll yX5_lengthOfAll ∈ wsA := inA (tbs (q := (yX5_lengthOfAll, 8)) (List.mem_append_left _ (List.mem_of_getElem? (i := 7) rfl))) rfl
theorem mS_X5_withPeople : Cond.selects RX5 yX5_withPeople yX5_withPeople ∈ wsA := inA (tbs (q := (yX5_withPeople, 8)) (List.mem_append_left _ (List.mem_of_getElem? (i := 8) rfl))) rfl
theorem mS_X5_withTunnels : Cond.selects RX5 yX5_withTunnels yX5_withTunnels ∈ wsA := inA (tbs (q := (yX5_withTunnels, 8)) (List.mem_append_left _ (List.mem_of_getElem? (i := 9) rfl))) rfl
theorem mS_X5_withLetters : Cond.selects RX5 yX5_withLetters yX5_withLetters ∈ wsA := inA (tbs (q := (yX5_withLetters, 8)) (List.mem_append_left _ (List.mem_of_getElem? (i := 10) rfl))) rfl
theorem mS_X6_faultOf : Cond.selects RX6 yX6_faultOf yX6_faultOf ∈ wsA := inA (tbs (q := (yX6_faultOf, 22)) (List.mem_append_left _ (List.mem_of_getElem? (i := 11) rfl))) rfl
theorem mS_X6_isGood : Cond.selects RX6 yX6_isGood yX6_isGood ∈ wsA := inA (tbs (q := (yX6_isGood, 22)) (List.mem_append_left _ (List.mem_of_getElem? (i := 12) rfl))) rfl
theorem mS_X6_isPerson : Cond.selects RX6 yX6_isPerson yX6_isPerson ∈ wsA := inA (tbs (q := (yX6_isPerson, 22)) (List.mem_append_left _ (List.mem_of_getElem? (i := 13) rfl))) rfl
theorem mS_X6_tellPerson : Cond.selects RX6 yX6_tellPerson yX6_tellPerson ∈ wsA := inA (tbs (q := (yX6_tellPerson, 22)) (List.mem_append_left _ (List.mem_of_getElem? (i := 14) rfl))) rfl
theorem mS_X6_tellsOf : Cond.selects RX6 yX6_tellsOf yX6_tellsOf ∈ wsA := inA (tbs (q := (yX6_tellsOf, 22)) (List.mem_append_left _ (List.mem_of_getElem? (i := 15) rfl))) rfl
theorem mS_X6_tunnelsOf : Cond.selects RX6 yX6_tunnelsOf yX6_tunnelsOf ∈ wsA := inA (tbs (q := (yX6_tunnelsOf, 22)) (List.mem_append_right _ (List.mem_append_left _ (List.mem_of_getElem? (i := 0) rfl)))) rfl
theorem mS_X6_endsOf : Cond.selects RX6 yX6_endsOf yX6_endsOf ∈ wsA := inA (tbs (q := (yX6_endsOf, 22)) (List.mem_append_right _ (List.mem_append_left _ (List.mem_of_getElem? (i := 1) rfl)))) rfl
theorem mS_X6_endBy : Cond.selects RX6 yX6_endBy yX6_endBy ∈ wsA := inA (tbs (q := (yX6_endBy, 22)) (List.mem_append_right _ (List.mem_append_left _ (List.mem_of_getElem? (i := 2) rfl)))) rfl
theorem mS_X6_toldBy : Cond.selects RX6 yX6_toldBy yX6_toldBy ∈ wsA := inA (tbs (q := (yX6_toldBy, 22)) (List.mem_append_right _ (List.mem_append_left _ (List.mem_of_getElem? (i := 3) rfl)))) rfl
theorem mS_X6_lengthBy : Cond.selects RX6 yX6_lengthBy yX6_lengthBy ∈ wsA := inA (tbs (q := (yX6_lengthBy, 22)) (List.mem_append_right _ (List.mem_append_left _ (List.mem_of_getElem? (i := 4) rfl)))) rfl
theorem mS_X6_lastsOf : Cond.selects RX6 yX6_lastsOf yX6_lastsOf ∈ wsA := inA (tbs (q := (yX6_lastsOf, 22)) (List.mem_append_right _ (List.mem_append_left _ (List.mem_of_getElem? (i := 5) rfl)))) rfl
theorem mS_X6_dayOf : Cond.selects RX6 yX6_dayOf yX6_dayOf ∈ wsA := inA (tbs (q := (yX6_dayOf, 22)) (List.mem_append_right _ (List.mem_append_left _ (List.mem_of_getElem? (i := 6) rfl)))) rfl
theorem mS_X6_isTunnel : Cond.selects RX6 yX6_isTunnel yX6_isTunnel ∈ wsA := inA (tbs (q := (yX6_isTunnel, 22)) (List.mem_append_right _ (List.mem_append_left _ (List.mem_of_getElem? (i := 7) rfl)))) rfl
theorem mS_X6_lacks : Cond.selects RX6 yX6_lacks yX6_lacks ∈ wsA := inA (tbs (q := (yX6_lacks, 22)) (List.mem_append_right _ (List.mem_append_left _ (List.mem_of_getElem? (i := 8) rfl)))) rfl
theorem mS_X6_lengthOf : Cond.selects RX6 yX6_lengthOf yX6_lengthOf ∈ wsA := inA (tbs (q := (yX6_lengthOf, 22)) (List.mem_append_right _ (List.mem_append_left _ (List.mem_of_getElem? (i := 9) rfl)))) rfl
theorem mS_X6_tellTunnel : Cond.selects RX6 yX6_tellTunnel yX6_tellTunnel ∈ wsA := inA (tbs (q := (yX6_tellTunnel, 22)) (List.mem_append_right _ (List.mem_append_left _ (List.mem_of_getElem? (i := 10) rfl)))) rfl
theorem mS_X6_aimOf : Cond.selects RX6 yX6_aimOf yX6_aimOf ∈ wsA := inA (tbs (q := (yX6_aimOf, 22)) (List.mem_append_right _ (List.mem_append_left _ (List.mem_of_getElem? (i := 11) rfl)))) rfl
theorem mS_X6_beganOf : Cond.selects RX6 yX6_beganOf yX6_beganOf ∈ wsA := inA (tbs (q := (yX6_beganOf, 22)) (List.mem_append_right _ (List.mem_append_left _ (List.mem_of_getElem? (i := 12) rfl)))) rfl
theorem mS_X6_askOf : Cond.selects RX6 yX6_askOf yX6_askOf ∈ wsA := inA (tbs (q := (yX6_askOf, 22)) (List.mem_append_right _ (List.mem_append_left _ (List.mem_of_getElem? (i := 13) rfl)))) rfl
theorem mS_X6_draw : Cond.selects RX6 yX6_draw yX6_draw ∈ wsA := inA (tbs (q := (yX6_draw, 22)) (List.mem_append_right _ (List.mem_append_left _ (List.mem_of_getElem? (i := 14) rfl)))) rfl
theorem mS_X6_countOf : Cond.selects RX6 yX6_countOf yX6_countOf ∈ wsA := inA (tbs (q := (yX6_countOf, 22)) (List.mem_append_right _ (List.mem_append_left _ (List.mem_of_getElem? (i := 15) rfl)))) rfl
theorem mS_X6_lengthAll : Cond.selects RX6 yX6_lengthAll yX6_lengthAll ∈ wsA := inA (tbs (q := (yX6_lengthAll, 22)) (List.mem_append_right _ (List.mem_append_right _ (List.mem_of_getElem? (i := 0) rfl)))) rfl
theorem mS_X6_heardAll : Cond.selects RX6 yX6_heardAll yX6_heardAll ∈ wsA := inA (tbs (q := (yX6_heardAll, 22)) (List.mem_append_right _ (List.mem_append_right _ (List.mem_of_getElem? (i := 1) rfl)))) rfl
theorem mS_X6_say : Cond.selects RX6 yX6_say yX6_say ∈ wsA := inA (tbs (q := (yX6_say, 22)) (List.mem_append_right _ (List.mem_append_right _ (List.mem_of_getElem? (i := 2) rfl)))) rfl
theorem mS_X6_sayHill : Cond.selects RX6 yX6_sayHill yX6_sayHill ∈ wsA := inA (tbs (q := (yX6_sayHill, 22)) (List.mem_append_right _ (List.mem_append_right _ (List.mem_of_getElem? (i := 3) rfl)))) rfl
theorem mY_X0_0 : u_lay RX0 TX0 0 ∈ wsA := inA (tb1 (List.mem_of_getElem? (i := 52) rfl)) rfl
theorem mY_X0_1 : u_lay RX0 TX0 1 ∈ wsA := inA (tb1 (List.mem_of_getElem? (i := 54) rfl)) rfl
theorem mY_X0_2 : u_lay RX0 TX0 2 ∈ wsA := inA (tb1 (List.mem_of_getElem? (i := 56) rfl)) rfl
theorem in_X0 : ∀ w ∈ u_ws RX0 TX0 3, w ∈ wsA := by
  intro w hw
  obtain ⟨k, hk, rfl⟩ := List.mem_map.mp hw
  have hk := List.mem_range.mp hk
  match k, hk with
  | 0, _ => exact mY_X0_0
  | 1, _ => exact mY_X0_1
  | 2, _ => exact mY_X0_2
theorem mY_X1_0 : u_lay RX1 TX1 0 ∈ wsA := inA (tb1 (List.mem_of_getElem? (i := 33) rfl)) rfl
theorem mY_X1_1 : u_lay RX1 TX1 1 ∈ wsA := inA (tb1 (List.mem_of_getElem? (i := 35) rfl)) rfl
theorem in_X1 : ∀ w ∈ u_ws RX1 TX1 2, w ∈ wsA := by
  intro w hw
  obtain ⟨k, hk, rfl⟩ := List.mem_map.mp hw
  have hk := List.mem_range.mp hk
  match k, hk with
  | 0, _ => exact mY_X1_0
  | 1, _ => exact mY_X1_1
theorem mY_X2_0 : u_lay RX2 TX2 0 ∈ wsA := inA (tb1 (List.mem_of_getElem? (i := 84) rfl)) rfl
theorem mY_X2_1 : u_lay RX2 TX2 1 ∈ wsA := inA (tb1 (List.mem_of_getElem? (i := 86) rfl)) rfl
theorem mY_X2_2 : u_lay RX2 TX2 2 ∈ wsA := inA (tb1 (List.mem_of_getElem? (i := 88) rfl)) rfl
theorem mY_X2_3 : u_lay RX2 TX2 3 ∈ wsA := inA (tb1 (List.mem_of_getElem? (i := 90) rfl)) rfl
theorem mY_X2_4 : u_lay RX2 TX2 4 ∈ wsA := inA (tb1 (List.mem_of_getElem? (i := 92) rfl)) rfl
theorem mY_X2_5 : u_lay RX2 TX2 5 ∈ wsA := inA (tb1 (List.mem_of_getElem? (i := 94) rfl)) rfl
theorem mY_X2_6 : u_lay RX2 TX2 6 ∈ wsA := inA (tb1 (List.mem_of_getElem? (i := 96) rfl)) rfl
theorem mY_X2_7 : u_lay RX2 TX2 7 ∈ wsA := inA (tb1 (List.mem_of_getElem? (i := 98) rfl)) rfl
theorem mY_X2_8 : u_lay RX2 TX2 8 ∈ wsA := inA (tb1 (List.mem_of_getElem? (i := 100) rfl)) rfl
theorem mY_X2_9 : u_lay RX2 TX2 9 ∈ wsA := inA (tb1 (List.mem_of_getElem? (i := 102) rfl)) rfl
theorem in_X2 : ∀ w ∈ u_ws RX2 TX2 10, w ∈ wsA := by
  intro w hw
  obtain ⟨k, hk, rfl⟩ := List.mem_map.mp hw
  have hk := List.mem_range.mp hk
  match k, hk with
  | 0, _ => exact mY_X2_0
  | 1, _ => exact mY_X2_1
  | 2, _ => exact mY_X2_2
  | 3, _ => exact mY_X2_3
  | 4, _ => exact mY_X2_4
  | 5, _ => exact mY_X2_5
  | 6, _ => exact mY_X2_6
  | 7, _ => exact mY_X2_7
  | 8, _ => exact mY_X2_8
  | 9, _ => exact mY_X2_9
theorem mY_X3_0 : u_lay RX3 TX3 0 ∈ wsA := inA (tb1 (List.mem_of_getElem? (i := 128) rfl)) rfl
theorem mY_X3_1 : u_lay RX3 TX3 1 ∈ wsA := inA (tb1 (List.mem_of_getElem? (i := 130) rfl)) rfl
theorem mY_X3_2 : u_lay RX3 TX3 2 ∈ wsA := inA (tb1 (List.mem_of_getElem? (i := 132) rfl)) rfl
theorem mY_X3_3 : u_lay RX3 TX3 3 ∈ wsA := inA (tb1 (List.mem_of_getElem? (i := 134) rfl)) rfl
theorem in_X3 : ∀ w ∈ u_ws RX3 TX3 4, w ∈ wsA := by
  intro w hw
  obtain ⟨k, hk, rfl⟩ := List.mem_map.mp hw
  have hk := List.mem_range.mp hk
  match k, hk with
  | 0, _ => exact mY_X3_0
  | 1, _ => exact mY_X3_1
  | 2, _ => exact mY_X3_2
  | 3, _ => exact mY_X3_3
theorem mY_X4_0 : u_lay RX4 TX4 0 ∈ wsA := inA (tb1 (List.mem_of_getElem? (i := 113) rfl)) rfl
theorem mY_X4_1 : u_lay RX4 TX4 1 ∈ wsA := inA (tb1 (List.mem_of_getElem? (i := 115) rfl)) rfl
theorem in_X4 : ∀ w ∈ u_ws RX4 TX4 2, w ∈ wsA := by
  intro w hw
  obtain ⟨k, hk, rfl⟩ := List.mem_map.mp hw
  have hk := List.mem_range.mp hk
  match k, hk with
  | 0, _ => exact mY_X4_0
  | 1, _ => exact mY_X4_1
theorem mY_X5_0 : u_lay RX5 TX5 0 ∈ wsA := inA (tb1 (List.mem_of_getElem? (i := 145) rfl)) rfl
theorem mY_X5_1 : u_lay RX5 TX5 1 ∈ wsA := inA (tb1 (List.mem_of_getElem? (i := 147) rfl)) rfl
theorem mY_X5_2 : u_lay RX5 TX5 2 ∈ wsA := inA (tb1 (List.mem_of_getElem? (i := 149) rfl)) rfl
theorem mY_X5_3 : u_lay RX5 TX5 3 ∈ wsA := inA (tb1 (List.mem_of_getElem? (i := 151) rfl)) rfl
theorem mY_X5_4 : u_lay RX5 TX5 4 ∈ wsA := inA (tb1 (List.mem_of_getElem? (i := 153) rfl)) rfl
theorem mY_X5_5 : u_lay RX5 TX5 5 ∈ wsA := inA (tb1 (List.mem_of_getElem? (i := 155) rfl)) rfl
theorem mY_X5_6 : u_lay RX5 TX5 6 ∈ wsA := inA (tb1 (List.mem_of_getElem? (i := 157) rfl)) rfl
theorem mY_X5_7 : u_lay RX5 TX5 7 ∈ wsA := inA (tb1 (List.mem_of_getElem? (i := 159) rfl)) rfl
theorem in_X5 : ∀ w ∈ u_ws RX5 TX5 8, w ∈ wsA := by
  intro w hw
  obtain ⟨k, hk, rfl⟩ := List.mem_map.mp hw
  have hk := List.mem_range.mp hk
  match k, hk with
  | 0, _ => exact mY_X5_0
  | 1, _ => exact mY_X5_1
  | 2, _ => exact mY_X5_2
  | 3, _ => exact mY_X5_3
  | 4, _ => exact mY_X5_4
  | 5, _ => exact mY_X5_5
  | 6, _ => exact mY_X5_6
  | 7, _ => exact mY_X5_7
theorem mY_X6_0 : u_lay RX6 TX6 0 ∈ wsA := inA (tb3 (List.mem_of_getElem? (i := 104) rfl)) rfl
theorem mY_X6_1 : u_lay RX6 TX6 1 ∈ wsA := inA (tb3 (List.mem_of_getElem? (i := 106) rfl)) rfl
theorem mY_X6_2 : u_lay RX6 TX6 2 ∈ wsA := inA (tb3 (List.mem_of_getElem? (i := 108) rfl)) rfl
theorem mY_X6_3 : u_lay RX6 TX6 3 ∈ wsA := inA (tb3 (List.mem_of_getElem? (i := 110) rfl)) rfl
theorem mY_X6_4 : u_lay RX6 TX6 4 ∈ wsA := inA (tb3 (List.mem_of_getElem? (i := 112) rfl)) rfl
theorem mY_X6_5 : u_lay RX6 TX6 5 ∈ wsA := inA (tb3 (List.mem_of_getElem? (i := 114) rfl)) rfl
theorem mY_X6_6 : u_lay RX6 TX6 6 ∈ wsA := inA (tb3 (List.mem_of_getElem? (i := 116) rfl)) rfl
theorem mY_X6_7 : u_lay RX6 TX6 7 ∈ wsA := inA (tb3 (List.mem_of_getElem? (i := 118) rfl)) rfl
theorem mY_X6_8 : u_lay RX6 TX6 8 ∈ wsA := inA (tb3 (List.mem_of_getElem? (i := 120) rfl)) rfl
theorem mY_X6_9 : u_lay RX6 TX6 9 ∈ wsA := inA (tb3 (List.mem_of_getElem? (i := 122) rfl)) rfl
theorem mY_X6_10 : u_lay RX6 TX6 10 ∈ wsA := inA (tb3 (List.mem_of_getElem? (i := 124) rfl)) rfl
theorem mY_X6_11 : u_lay RX6 TX6 11 ∈ wsA := inA (tb3 (List.mem_of_getElem? (i := 126) rfl)) rfl
theorem mY_X6_12 : u_lay RX6 TX6 12 ∈ wsA := inA (tb3 (List.mem_of_getElem? (i := 128) rfl)) rfl
theorem mY_X6_13 : u_lay RX6 TX6 13 ∈ wsA := inA (tb3 (List.mem_of_getElem? (i := 130) rfl)) rfl
theorem mY_X6_14 : u_lay RX6 TX6 14 ∈ wsA := inA (tb3 (List.mem_of_getElem? (i := 132) rfl)) rfl
theorem mY_X6_15 : u_lay RX6 TX6 15 ∈ wsA := inA (tb3 (List.mem_of_getElem? (i := 134) rfl)) rfl
theorem mY_X6_16 : u_lay RX6 TX6 16 ∈ wsA := inA (tb3 (List.mem_of_getElem? (i := 136) rfl)) rfl
theorem mY_X6_17 : u_lay RX6 TX6 17 ∈ wsA := inA (tb3 (List.mem_of_getElem? (i := 138) rfl)) rfl
theorem mY_X6_18 : u_lay RX6 TX6 18 ∈ wsA := inA (tb3 (List.mem_of_getElem? (i := 140) rfl)) rfl
theorem mY_X6_19 : u_lay RX6 TX6 19 ∈ wsA := inA (tb3 (List.mem_of_getElem? (i := 142) rfl)) rfl
theorem mY_X6_20 : u_lay RX6 TX6 20 ∈ wsA := inA (tb3 (List.mem_of_getElem? (i := 144) rfl)) rfl
theorem mY_X6_21 : u_lay RX6 TX6 21 ∈ wsA := inA (tb3 (List.mem_of_getElem? (i := 146) rfl)) rfl
theorem in_X6 : ∀ w ∈ u_ws RX6 TX6 22, w ∈ wsA := by
  intro w hw
  obtain ⟨k, hk, rfl⟩ := List.mem_map.mp hw
  have hk := List.mem_range.mp hk
  match k, hk with
  | 0, _ => exact mY_X6_0
  | 1, _ => exact mY_X6_1
  | 2, _ => exact mY_X6_2
  | 3, _ => exact mY_X6_3
  | 4, _ => exact mY_X6_4
  | 5, _ => exact mY_X6_5
  | 6, _ => exact mY_X6_6
  | 7, _ => exact mY_X6_7
  | 8, _ => exact mY_X6_8
  | 9, _ => exact mY_X6_9
  | 10, _ => exact mY_X6_10
  | 11, _ => exact mY_X6_11
  | 12, _ => exact mY_X6_12
  | 13, _ => exact mY_X6_13
  | 14, _ => exact mY_X6_14
  | 15, _ => exact mY_X6_15
  | 16, _ => exact mY_X6_16
  | 17, _ => exact mY_X6_17
  | 18, _ => exact mY_X6_18
  | 19, _ => exact mY_X6_19
  | 20, _ => exact mY_X6_20
  | 21, _ => exact mY_X6_21
  | k + 22, h => exact absurd h (by omega)
def nwF : List (String × Nat × String × String × String × String) := [(RX5, 63, "DugBySaid$Page", "length", "I", "DugBySaid"), (RX3, 27, "DugBySaid$Hill", "people", "I", "DugBySaid"), (RX4, 19, "DugBySaid$Hill", "people", "I", "DugBySaid"), (RX5, 84, "DugBySaid$Hill", "people", "I", "DugBySaid"), (RX5, 197, "DugBySaid$Hill", "river", "I", "DugBySaid"), (RX5, 134, "DugBySaid$Past", "heard", "[I", "DugBySaid"), (RX5, 138, "DugBySaid$Past", "last", "[I", "DugBySaid"), (RX5, 158, "DugBySaid$Past", "denied", "[I", "DugBySaid"), (RX3, 46, "DugBySaid$Past", "askedWhom", "[I", "DugBySaid"), (RX3, 54, "DugBySaid$Past", "askedDay", "[I", "DugBySaid"), (RX3, 41, "DugBySaid$Past", "asked", "I", "DugBySaid"), (RX5, 173, "DugBySaid$Past", "asked", "I", "DugBySaid"), (RX5, 147, "DugBySaid$Past", "days", "I", "DugBySaid"), (RX5, 120, "DugBySaid$Past", "changes", "I", "DugBySaid")]
def nwM : List (String × Nat × MethodName × String) := [(RX0, 48, yX5_isOfKind, "DugBySaid"), (RX2, 53, yX5_isIn, "DugBySaid"), (RX4, 25, yX5_isIn, "DugBySaid"), (RX0, 52, yX5_isIn, "DugBySaid"), (RX3, 57, yX5_isIn, "DugBySaid")]
theorem nwF_in : ∀ q ∈ nwF, Cond.fieldLinkNest q.1 q.2.1 q.2.2.1 q.2.2.2.1 q.2.2.2.2.1 q.2.2.2.2.2 ∈ lw_tbl := List.forall_mem_cons.mpr ⟨tb1 (List.mem_of_getElem? (i := 32) rfl), List.forall_mem_cons.mpr ⟨tb1 (List.mem_of_getElem? (i := 47) rfl), List.forall_mem_cons.mpr ⟨tb1 (List.mem_of_getElem? (i := 48) rfl), List.forall_mem_cons.mpr ⟨tb1 (List.mem_of_getElem? (i := 49) rfl), List.forall_mem_cons.mpr ⟨tb1 (List.mem_of_getElem? (i := 51) rfl), List.forall_mem_cons.mpr ⟨tb1 (List.mem_of_getElem? (i := 68) rfl), List.forall_mem_cons.mpr ⟨tb1 (List.mem_of_getElem? (i := 70) rfl), List.forall_mem_cons.mpr ⟨tb1 (List.mem_of_getElem? (i := 72) rfl), List.forall_mem_cons.mpr ⟨tb1 (List.mem_of_getElem? (i := 74) rfl), List.forall_mem_cons.mpr ⟨tb1 (List.mem_of_getElem? (i := 76) rfl), List.forall_mem_cons.mpr ⟨tb1 (List.mem_of_getElem? (i := 78) rfl), List.forall_mem_cons.mpr ⟨tb1 (List.mem_of_getElem? (i := 79) rfl), List.forall_mem_cons.mpr ⟨tb1 (List.mem_of_getElem? (i := 81) rfl), List.forall_mem_cons.mpr ⟨tb1 (List.mem_of_getElem? (i := 83) rfl), fun _ h => absurd h List.not_mem_nil⟩⟩⟩⟩⟩⟩⟩⟩⟩⟩⟩⟩⟩⟩
theorem nwM_in : ∀ q ∈ nwM, Cond.methodLinkNest q.1 q.2.1 q.2.2.1 q.2.2.2 ∈ lw_tbl := List.forall_mem_cons.mpr ⟨tb2 (List.mem_of_getElem? (i := 100) rfl), List.forall_mem_cons.mpr ⟨tb2 (List.mem_of_getElem? (i := 121) rfl), List.forall_mem_cons.mpr ⟨tb2 (List.mem_of_getElem? (i := 136) rfl), List.forall_mem_cons.mpr ⟨tb2 (List.mem_of_getElem? (i := 142) rfl), List.forall_mem_cons.mpr ⟨tb3 (List.mem_of_getElem? (i := 7) rfl), fun _ h => absurd h List.not_mem_nil⟩⟩⟩⟩⟩
