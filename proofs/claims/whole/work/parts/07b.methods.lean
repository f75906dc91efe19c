def mX0_init : mD := (RX0, cX0_init, 2, (Option.none : Option Jvm.ClassFile.FieldType), yX0_init, 2, 44, 2, 0, fun _ => 0)
theorem mkX0_init : mOK mX0_init 1 := ⟨by decide +kernel, rfl, wt367, ⟨by decide +kernel, by decide +kernel⟩, by decide +kernel, wt11, by decide +kernel⟩
def mX0_forget : mD := (RX0, cX0_forget, 1, (Option.none : Option Jvm.ClassFile.FieldType), yX0_forget, 1, 25, 0, 0, fun _ => 0)
theorem mkX0_forget : mOK mX0_forget 0 := ⟨by decide +kernel, rfl, wt659, ⟨by decide +kernel, by decide +kernel⟩, by decide +kernel, wt11, by decide +kernel⟩
def mX0_reach : mD := (RX0, cX0_reach, 3, (Option.some Jvm.ClassFile.FieldType.boolean), yX0_reach, 5, 121, 1, 0, fun _ => 0)
theorem mkX0_reach : mOK mX0_reach 1 := ⟨by decide +kernel, rfl, wt773, ⟨by decide +kernel, by decide +kernel⟩, by decide +kernel, wt11, by decide +kernel⟩
def mX0_settleRules : mD := (RX0, cX0_settleRules, 3, (Option.none : Option Jvm.ClassFile.FieldType), yX0_settleRules, 4, 89, 0, 0, fun _ => 0)
theorem mkX0_settleRules : mOK mX0_settleRules 1 := ⟨by decide +kernel, rfl, wt896, ⟨by decide +kernel, by decide +kernel⟩, by decide +kernel, wt11, by decide +kernel⟩
def mX0_treesOf : mD := (RX0, cX0_treesOf, 2, (Option.some Jvm.ClassFile.FieldType.int), yX0_treesOf, 0, 0, 0, 0, fun _ => 0)
theorem mkX0_treesOf : mOK mX0_treesOf 1 := ⟨by decide +kernel, rfl, wt791, ⟨by decide +kernel, by decide +kernel⟩, by decide +kernel, wt11, by decide +kernel⟩
def mX0_keyOf : mD := (RX0, cX0_keyOf, 4, (Option.some Jvm.ClassFile.FieldType.int), yX0_keyOf, 0, 0, 0, 0, fun _ => 0)
theorem mkX0_keyOf : mOK mX0_keyOf 2 := ⟨by decide +kernel, rfl, wt795, ⟨by decide +kernel, by decide +kernel⟩, by decide +kernel, wt11, by decide +kernel⟩
def mX0_isNormal : mD := (RX0, cX0_isNormal, 4, (Option.some Jvm.ClassFile.FieldType.boolean), yX0_isNormal, 0, 0, 0, 0, fun _ => 0)
theorem mkX0_isNormal : mOK mX0_isNormal 2 := ⟨by decide +kernel, rfl, wt847, ⟨by decide +kernel, by decide +kernel⟩, by decide +kernel, wt11, by decide +kernel⟩
def mX0_normalTree : mD := (RX0, cX0_normalTree, 5, (Option.some Jvm.ClassFile.FieldType.int), yX0_normalTree, 1, 23, 0, 0, fun _ => 0)
theorem mkX0_normalTree : mOK mX0_normalTree 2 := ⟨by decide +kernel, rfl, wt918, ⟨by decide +kernel, by decide +kernel⟩, by decide +kernel, wt11, by decide +kernel⟩
def mX0_listTrees : mD := (RX0, cX0_listTrees, 6, (Option.none : Option Jvm.ClassFile.FieldType), yX0_listTrees, 3, 83, 1, 0, fun _ => 0)
theorem mkX0_listTrees : mOK mX0_listTrees 1 := ⟨by decide +kernel, rfl, wt778, ⟨by decide +kernel, by decide +kernel⟩, by decide +kernel, wt11, by decide +kernel⟩
def mX0_insertKey : mD := (RX0, cX0_insertKey, 5, (Option.none : Option Jvm.ClassFile.FieldType), yX0_insertKey, 1, 30, 0, 0, fun _ => 0)
theorem mkX0_insertKey : mOK mX0_insertKey 2 := ⟨by decide +kernel, rfl, wt782, ⟨by decide +kernel, by decide +kernel⟩, by decide +kernel, wt11, by decide +kernel⟩
def mX0_placeOf : mD := (RX0, cX0_placeOf, 6, (Option.some Jvm.ClassFile.FieldType.int), yX0_placeOf, 0, 0, 0, 0, fun _ => 0)
theorem mkX0_placeOf : mOK mX0_placeOf 2 := ⟨by decide +kernel, rfl, wt786, ⟨by decide +kernel, by decide +kernel⟩, by decide +kernel, wt11, by decide +kernel⟩
def mX0_makeRoom : mD := (RX0, cX0_makeRoom, 2, (Option.none : Option Jvm.ClassFile.FieldType), yX0_makeRoom, 2, 62, 1, 0, fun _ => 0)
theorem mkX0_makeRoom : mOK mX0_makeRoom 1 := ⟨by decide +kernel, rfl, wt817, ⟨by decide +kernel, by decide +kernel⟩, by decide +kernel, wt11, by decide +kernel⟩
def mX0_ruleOf : mD := (RX0, cX0_ruleOf, 3, (Option.some Jvm.ClassFile.FieldType.int), yX0_ruleOf, 0, 0, 0, 0, fun _ => 0)
theorem mkX0_ruleOf : mOK mX0_ruleOf 2 := ⟨by decide +kernel, rfl, wt855, ⟨by decide +kernel, by decide +kernel⟩, by decide +kernel, wt11, by decide +kernel⟩
def mX0_clearVector : mD := (RX0, cX0_clearVector, 2, (Option.none : Option Jvm.ClassFile.FieldType), yX0_clearVector, 2, 46, 0, 0, fun _ => 0)
theorem mkX0_clearVector : mOK mX0_clearVector 1 := ⟨by decide +kernel, rfl, wt851, ⟨by decide +kernel, by decide +kernel⟩, by decide +kernel, wt11, by decide +kernel⟩
def mX0_addToVector : mD := (RX0, cX0_addToVector, 5, (Option.none : Option Jvm.ClassFile.FieldType), yX0_addToVector, 1, 25, 0, 0, fun _ => 0)
theorem mkX0_addToVector : mOK mX0_addToVector 3 := ⟨by decide +kernel, rfl, wt863, ⟨by decide +kernel, by decide +kernel⟩, by decide +kernel, wt11, by decide +kernel⟩
def mX0_reduceVector : mD := (RX0, cX0_reduceVector, 7, (Option.none : Option Jvm.ClassFile.FieldType), yX0_reduceVector, 1, 23, 0, 0, fun _ => 0)
theorem mkX0_reduceVector : mOK mX0_reduceVector 1 := ⟨by decide +kernel, rfl, wt868, ⟨by decide +kernel, by decide +kernel⟩, by decide +kernel, wt11, by decide +kernel⟩
def mX0_loadRule : mD := (RX0, cX0_loadRule, 3, (Option.none : Option Jvm.ClassFile.FieldType), yX0_loadRule, 3, 67, 0, 0, fun _ => 0)
theorem mkX0_loadRule : mOK mX0_loadRule 2 := ⟨by decide +kernel, rfl, wt900, ⟨by decide +kernel, by decide +kernel⟩, by decide +kernel, wt11, by decide +kernel⟩
def mX0_storeRule : mD := (RX0, cX0_storeRule, 6, (Option.none : Option Jvm.ClassFile.FieldType), yX0_storeRule, 1, 22, 0, 0, fun _ => 0)
theorem mkX0_storeRule : mOK mX0_storeRule 3 := ⟨by decide +kernel, rfl, wt872, ⟨by decide +kernel, by decide +kernel⟩, by decide +kernel, wt11, by decide +kernel⟩
def mX0_addRulesByEntries : mD := (RX0, cX0_addRulesByEntries, 3, (Option.none : Option Jvm.ClassFile.FieldType), yX0_addRulesByEntries, 4, 98, 0, 0, fun _ => 0)
theorem mkX0_addRulesByEntries : mOK mX0_addRulesByEntries 1 := ⟨by decide +kernel, rfl, wt831, ⟨by decide +kernel, by decide +kernel⟩, by decide +kernel, wt11, by decide +kernel⟩
def mX0_spreadByEntry : mD := (RX0, cX0_spreadByEntry, 12, (Option.some Jvm.ClassFile.FieldType.boolean), yX0_spreadByEntry, 3, 67, 0, 0, fun _ => 0)
theorem mkX0_spreadByEntry : mOK mX0_spreadByEntry 2 := ⟨by decide +kernel, rfl, wt835, ⟨by decide +kernel, by decide +kernel⟩, by decide +kernel, wt11, by decide +kernel⟩
def mX0_addLaws : mD := (RX0, cX0_addLaws, 4, (Option.none : Option Jvm.ClassFile.FieldType), yX0_addLaws, 3, 71, 0, 0, fun _ => 0)
theorem mkX0_addLaws : mOK mX0_addLaws 1 := ⟨by decide +kernel, rfl, wt876, ⟨by decide +kernel, by decide +kernel⟩, by decide +kernel, wt11, by decide +kernel⟩
def mX0_addPluggedLaws : mD := (RX0, cX0_addPluggedLaws, 6, (Option.none : Option Jvm.ClassFile.FieldType), yX0_addPluggedLaws, 4, 96, 0, 0, fun _ => 0)
theorem mkX0_addPluggedLaws : mOK mX0_addPluggedLaws 1 := ⟨by decide +kernel, rfl, wt888, ⟨by decide +kernel, by decide +kernel⟩, by decide +kernel, wt11, by decide +kernel⟩
def mX0_loadPlugged : mD := (RX0, cX0_loadPlugged, 10, (Option.none : Option Jvm.ClassFile.FieldType), yX0_loadPlugged, 3, 67, 0, 0, fun _ => 0)
theorem mkX0_loadPlugged : mOK mX0_loadPlugged 5 := ⟨by decide +kernel, rfl, wt892, ⟨by decide +kernel, by decide +kernel⟩, by decide +kernel, wt11, by decide +kernel⟩
def mX0_enterVector : mD := (RX0, cX0_enterVector, 3, (Option.none : Option Jvm.ClassFile.FieldType), yX0_enterVector, 2, 49, 0, 0, fun _ => 0)
theorem mkX0_enterVector : mOK mX0_enterVector 1 := ⟨by decide +kernel, rfl, wt880, ⟨by decide +kernel, by decide +kernel⟩, by decide +kernel, wt11, by decide +kernel⟩
def mX0_normalise : mD := (RX0, cX0_normalise, 4, (Option.none : Option Jvm.ClassFile.FieldType), yX0_normalise, 4, 109, 1, 0, fun _ => 0)
theorem mkX0_normalise : mOK mX0_normalise 1 := ⟨by decide +kernel, rfl, wt904, ⟨by decide +kernel, by decide +kernel⟩, by decide +kernel, wt11, by decide +kernel⟩
def mX0_countBare : mD := (RX0, cX0_countBare, 4, (Option.some Jvm.ClassFile.FieldType.int), yX0_countBare, 3, 78, 0, 0, fun _ => 0)
theorem mkX0_countBare : mOK mX0_countBare 1 := ⟨by decide +kernel, rfl, wt927, ⟨by decide +kernel, by decide +kernel⟩, by decide +kernel, wt11, by decide +kernel⟩
def mX0_isBare : mD := (RX0, cX0_isBare, 8, (Option.some Jvm.ClassFile.FieldType.boolean), yX0_isBare, 2, 51, 0, 0, fun _ => 0)
theorem mkX0_isBare : mOK mX0_isBare 2 := ⟨by decide +kernel, rfl, wt931, ⟨by decide +kernel, by decide +kernel⟩, by decide +kernel, wt11, by decide +kernel⟩
def mX0_standsAt : mD := (RX0, cX0_standsAt, 6, (Option.some Jvm.ClassFile.FieldType.boolean), yX0_standsAt, 1, 26, 0, 0, fun _ => 0)
theorem mkX0_standsAt : mOK mX0_standsAt 3 := ⟨by decide +kernel, rfl, wt935, ⟨by decide +kernel, by decide +kernel⟩, by decide +kernel, wt11, by decide +kernel⟩
def mX1_init : mD := (RX1, cX1_init, 1, (Option.none : Option Jvm.ClassFile.FieldType), yX1_init, 1, 24, 2, 0, fun _ => 0)
theorem mkX1_init : mOK mX1_init 0 := ⟨by decide +kernel, rfl, wt226, ⟨by decide +kernel, by decide +kernel⟩, by decide +kernel, wt8, by decide +kernel⟩
def mX1_isNothing : mD := (RX1, cX1_isNothing, 8, (Option.some Jvm.ClassFile.FieldType.boolean), yX1_isNothing, 3, 86, 1, 0, fun _ => 0)
theorem mkX1_isNothing : mOK mX1_isNothing 3 := ⟨by decide +kernel, rfl, wt1102, ⟨by decide +kernel, by decide +kernel⟩, by decide +kernel, wt8, by decide +kernel⟩
def mX1_makeRoom : mD := (RX1, cX1_makeRoom, 2, (Option.none : Option Jvm.ClassFile.FieldType), yX1_makeRoom, 0, 0, 1, 0, fun _ => 0)
theorem mkX1_makeRoom : mOK mX1_makeRoom 1 := ⟨by decide +kernel, rfl, wt1108, ⟨by decide +kernel, by decide +kernel⟩, by decide +kernel, wt8, by decide +kernel⟩
def mX1_fillBlock : mD := (RX1, cX1_fillBlock, 12, (Option.none : Option Jvm.ClassFile.FieldType), yX1_fillBlock, 2, 55, 0, 0, fun _ => 0)
theorem mkX1_fillBlock : mOK mX1_fillBlock 4 := ⟨by decide +kernel, rfl, wt1113, ⟨by decide +kernel, by decide +kernel⟩, by decide +kernel, wt8, by decide +kernel⟩
def mX1_putTable : mD := (RX1, cX1_putTable, 13, (Option.none : Option Jvm.ClassFile.FieldType), yX1_putTable, 1, 23, 0, 0, fun _ => 0)
theorem mkX1_putTable : mOK mX1_putTable 5 := ⟨by decide +kernel, rfl, wt1119, ⟨by decide +kernel, by decide +kernel⟩, by decide +kernel, wt8, by decide +kernel⟩
def mX1_outcome : mD := (RX1, cX1_outcome, 8, (Option.some Jvm.ClassFile.FieldType.int), yX1_outcome, 3, 86, 0, 0, fun _ => 0)
theorem mkX1_outcome : mOK mX1_outcome 5 := ⟨by decide +kernel, rfl, wt1132, ⟨by decide +kernel, by decide +kernel⟩, by decide +kernel, wt8, by decide +kernel⟩
def mX1_doTree : mD := (RX1, cX1_doTree, 12, (Option.none : Option Jvm.ClassFile.FieldType), yX1_doTree, 2, 55, 0, 0, fun _ => 0)
theorem mkX1_doTree : mOK mX1_doTree 5 := ⟨by decide +kernel, rfl, wt1136, ⟨by decide +kernel, by decide +kernel⟩, by decide +kernel, wt8, by decide +kernel⟩
def mX1_doAct : mD := (RX1, cX1_doAct, 13, (Option.none : Option Jvm.ClassFile.FieldType), yX1_doAct, 1, 23, 0, 0, fun _ => 0)
theorem mkX1_doAct : mOK mX1_doAct 4 := ⟨by decide +kernel, rfl, wt1140, ⟨by decide +kernel, by decide +kernel⟩, by decide +kernel, wt8, by decide +kernel⟩
def mX2_init : mD := (RX2, cX2_init, 1, (Option.none : Option Jvm.ClassFile.FieldType), yX2_init, 1, 24, 2, 0, fun _ => 0)
theorem mkX2_init : mOK mX2_init 0 := ⟨by decide +kernel, rfl, wt267, ⟨by decide +kernel, by decide +kernel⟩, by decide +kernel, wt10, by decide +kernel⟩
def mX2_make : mD := (RX2, cX2_make, 8, (Option.none : Option Jvm.ClassFile.FieldType), yX2_make, 4, 109, 1, 0, fun _ => 0)
theorem mkX2_make : mOK mX2_make 3 := ⟨by decide +kernel, rfl, wt982, ⟨by decide +kernel, by decide +kernel⟩, by decide +kernel, wt10, by decide +kernel⟩
def mX2_fillGrid : mD := (RX2, cX2_fillGrid, 5, (Option.none : Option Jvm.ClassFile.FieldType), yX2_fillGrid, 2, 54, 0, 0, fun _ => 0)
theorem mkX2_fillGrid : mOK mX2_fillGrid 2 := ⟨by decide +kernel, rfl, wt990, ⟨by decide +kernel, by decide +kernel⟩, by decide +kernel, wt10, by decide +kernel⟩
def mX2_fillRow : mD := (RX2, cX2_fillRow, 8, (Option.none : Option Jvm.ClassFile.FieldType), yX2_fillRow, 1, 27, 0, 0, fun _ => 0)
theorem mkX2_fillRow : mOK mX2_fillRow 4 := ⟨by decide +kernel, rfl, wt994, ⟨by decide +kernel, by decide +kernel⟩, by decide +kernel, wt10, by decide +kernel⟩
def mX2_numberOf : mD := (RX2, cX2_numberOf, 4, (Option.some Jvm.ClassFile.FieldType.int), yX2_numberOf, 0, 0, 0, 0, fun _ => 0)
theorem mkX2_numberOf : mOK mX2_numberOf 3 := ⟨by decide +kernel, rfl, wt999, ⟨by decide +kernel, by decide +kernel⟩, by decide +kernel, wt10, by decide +kernel⟩
def mX2_clearColumns : mD := (RX2, cX2_clearColumns, 7, (Option.none : Option Jvm.ClassFile.FieldType), yX2_clearColumns, 3, 73, 0, 0, fun _ => 0)
theorem mkX2_clearColumns : mOK mX2_clearColumns 3 := ⟨by decide +kernel, rfl, wt1004, ⟨by decide +kernel, by decide +kernel⟩, by decide +kernel, wt10, by decide +kernel⟩
def mX2_swapRows : mD := (RX2, cX2_swapRows, 5, (Option.none : Option Jvm.ClassFile.FieldType), yX2_swapRows, 0, 0, 0, 0, fun _ => 0)
theorem mkX2_swapRows : mOK mX2_swapRows 2 := ⟨by decide +kernel, rfl, wt1008, ⟨by decide +kernel, by decide +kernel⟩, by decide +kernel, wt10, by decide +kernel⟩
def mX2_clearColumn : mD := (RX2, cX2_clearColumn, 10, (Option.none : Option Jvm.ClassFile.FieldType), yX2_clearColumn, 2, 44, 0, 0, fun _ => 0)
theorem mkX2_clearColumn : mOK mX2_clearColumn 5 := ⟨by decide +kernel, rfl, wt1012, ⟨by decide +kernel, by decide +kernel⟩, by decide +kernel, wt10, by decide +kernel⟩
def mX3_init : mD := (RX3, cX3_init, 2, (Option.none : Option Jvm.ClassFile.FieldType), yX3_init, 2, 44, 2, 0, fun _ => 0)
theorem mkX3_init : mOK mX3_init 0 := ⟨by decide +kernel, rfl, wt197, ⟨by decide +kernel, by decide +kernel⟩, by decide +kernel, wt7, by decide +kernel⟩
def mX3_bringLaws : mD := (RX3, cX3_bringLaws, 6, (Option.some Jvm.ClassFile.FieldType.int), yX3_bringLaws, 7, 191, 1, 0, fun _ => 0)
theorem mkX3_bringLaws : mOK mX3_bringLaws 3 := ⟨by decide +kernel, rfl, wt1060, ⟨by decide +kernel, by decide +kernel⟩, by decide +kernel, wt7, by decide +kernel⟩
def mX3_isKept : mD := (RX3, cX3_isKept, 6, (Option.some Jvm.ClassFile.FieldType.boolean), yX3_isKept, 6, 166, 1, 0, fun _ => 0)
theorem mkX3_isKept : mOK mX3_isKept 4 := ⟨by decide +kernel, rfl, wt1064, ⟨by decide +kernel, by decide +kernel⟩, by decide +kernel, wt7, by decide +kernel⟩
def mX3_bring : mD := (RX3, cX3_bring, 10, (Option.none : Option Jvm.ClassFile.FieldType), yX3_bring, 5, 137, 1, 0, fun _ => 0)
theorem mkX3_bring : mOK mX3_bring 4 := ⟨by decide +kernel, rfl, wt1069, ⟨by decide +kernel, by decide +kernel⟩, by decide +kernel, wt7, by decide +kernel⟩
def mX4_init : mD := (RX4, cX4_init, 1, (Option.none : Option Jvm.ClassFile.FieldType), yX4_init, 2, 44, 2, 0, fun _ => 0)
theorem mkX4_init : mOK mX4_init 0 := ⟨by decide +kernel, rfl, wt117, ⟨by decide +kernel, by decide +kernel⟩, by decide +kernel, wt5, by decide +kernel⟩
def mX4_begin : mD := (RX4, cX4_begin, 8, (Option.none : Option Jvm.ClassFile.FieldType), yX4_begin, 2, 48, 0, 0, fun _ => 0)
theorem mkX4_begin : mOK mX4_begin 3 := ⟨by decide +kernel, rfl, wt510, ⟨by decide +kernel, by decide +kernel⟩, by decide +kernel, wt5, by decide +kernel⟩
def mX4_isSmall : mD := (RX4, cX4_isSmall, 1, (Option.some Jvm.ClassFile.FieldType.boolean), yX4_isSmall, 0, 0, 0, 0, fun _ => 0)
theorem mkX4_isSmall : mOK mX4_isSmall 1 := ⟨by decide +kernel, rfl, wt516, ⟨by decide +kernel, by decide +kernel⟩, by decide +kernel, wt5, by decide +kernel⟩
def mX4_isDigit : mD := (RX4, cX4_isDigit, 1, (Option.some Jvm.ClassFile.FieldType.boolean), yX4_isDigit, 0, 0, 0, 0, fun _ => 0)
theorem mkX4_isDigit : mOK mX4_isDigit 1 := ⟨by decide +kernel, rfl, wt519, ⟨by decide +kernel, by decide +kernel⟩, by decide +kernel, wt5, by decide +kernel⟩
def mX4_isSign : mD := (RX4, cX4_isSign, 1, (Option.some Jvm.ClassFile.FieldType.boolean), yX4_isSign, 0, 0, 0, 0, fun _ => 0)
theorem mkX4_isSign : mOK mX4_isSign 1 := ⟨by decide +kernel, rfl, wt528, ⟨by decide +kernel, by decide +kernel⟩, by decide +kernel, wt5, by decide +kernel⟩
def mX4_addToken : mD := (RX4, cX4_addToken, 9, (Option.none : Option Jvm.ClassFile.FieldType), yX4_addToken, 1, 20, 0, 0, fun _ => 0)
theorem mkX4_addToken : mOK mX4_addToken 3 := ⟨by decide +kernel, rfl, wt523, ⟨by decide +kernel, by decide +kernel⟩, by decide +kernel, wt5, by decide +kernel⟩
def mX4_advance : mD := (RX4, cX4_advance, 1, (Option.none : Option Jvm.ClassFile.FieldType), yX4_advance, 0, 0, 0, 0, fun _ => 0)
theorem mkX4_advance : mOK mX4_advance 0 := ⟨by decide +kernel, rfl, wt532, ⟨by decide +kernel, by decide +kernel⟩, by decide +kernel, wt5, by decide +kernel⟩
def mX4_fail : mD := (RX4, cX4_fail, 3, (Option.some Jvm.ClassFile.FieldType.boolean), yX4_fail, 0, 0, 0, 0, fun _ => 0)
theorem mkX4_fail : mOK mX4_fail 2 := ⟨by decide +kernel, rfl, wt553, ⟨by decide +kernel, by decide +kernel⟩, by decide +kernel, wt5, by decide +kernel⟩
def mX4_isWord : mD := (RX4, cX4_isWord, 3, (Option.some Jvm.ClassFile.FieldType.boolean), yX4_isWord, 0, 0, 0, 0, fun _ => 0)
theorem mkX4_isWord : mOK mX4_isWord 1 := ⟨by decide +kernel, rfl, wt545, ⟨by decide +kernel, by decide +kernel⟩, by decide +kernel, wt5, by decide +kernel⟩
def mX4_isName : mD := (RX4, cX4_isName, 1, (Option.some Jvm.ClassFile.FieldType.boolean), yX4_isName, 0, 0, 0, 0, fun _ => 0)
theorem mkX4_isName : mOK mX4_isName 0 := ⟨by decide +kernel, rfl, wt565, ⟨by decide +kernel, by decide +kernel⟩, by decide +kernel, wt5, by decide +kernel⟩
def mX4_skip : mD := (RX4, cX4_skip, 2, (Option.some Jvm.ClassFile.FieldType.boolean), yX4_skip, 1, 22, 0, 0, fun _ => 0)
theorem mkX4_skip : mOK mX4_skip 1 := ⟨by decide +kernel, rfl, wt597, ⟨by decide +kernel, by decide +kernel⟩, by decide +kernel, wt5, by decide +kernel⟩
def mX4_readWorld : mD := (RX4, cX4_readWorld, 4, (Option.some Jvm.ClassFile.FieldType.int), yX4_readWorld, 6, 159, 1, 0, fun _ => 0)
theorem mkX4_readWorld : mOK mX4_readWorld 1 := ⟨by decide +kernel, rfl, wt536, ⟨by decide +kernel, by decide +kernel⟩, by decide +kernel, wt5, by decide +kernel⟩
def mX4_readPrime : mD := (RX4, cX4_readPrime, 2, (Option.some Jvm.ClassFile.FieldType.boolean), yX4_readPrime, 1, 22, 0, 0, fun _ => 0)
theorem mkX4_readPrime : mOK mX4_readPrime 1 := ⟨by decide +kernel, rfl, wt549, ⟨by decide +kernel, by decide +kernel⟩, by decide +kernel, wt5, by decide +kernel⟩
def mX4_isPrime : mD := (RX4, cX4_isPrime, 2, (Option.some Jvm.ClassFile.FieldType.boolean), yX4_isPrime, 0, 0, 0, 0, fun _ => 0)
theorem mkX4_isPrime : mOK mX4_isPrime 1 := ⟨by decide +kernel, rfl, wt556, ⟨by decide +kernel, by decide +kernel⟩, by decide +kernel, wt5, by decide +kernel⟩
def mX4_readAct : mD := (RX4, cX4_readAct, 4, (Option.some Jvm.ClassFile.FieldType.boolean), yX4_readAct, 1, 23, 0, 0, fun _ => 0)
theorem mkX4_readAct : mOK mX4_readAct 1 := ⟨by decide +kernel, rfl, wt561, ⟨by decide +kernel, by decide +kernel⟩, by decide +kernel, wt5, by decide +kernel⟩
def mX4_readLaw : mD := (RX4, cX4_readLaw, 2, (Option.some Jvm.ClassFile.FieldType.boolean), yX4_readLaw, 5, 138, 1, 0, fun _ => 0)
theorem mkX4_readLaw : mOK mX4_readLaw 1 := ⟨by decide +kernel, rfl, wt581, ⟨by decide +kernel, by decide +kernel⟩, by decide +kernel, wt5, by decide +kernel⟩
def mX4_readSumAlone : mD := (RX4, cX4_readSumAlone, 2, (Option.some Jvm.ClassFile.FieldType.boolean), yX4_readSumAlone, 5, 138, 1, 0, fun _ => 0)
theorem mkX4_readSumAlone : mOK mX4_readSumAlone 1 := ⟨by decide +kernel, rfl, wt728, ⟨by decide +kernel, by decide +kernel⟩, by decide +kernel, wt5, by decide +kernel⟩
def mX4_readTerms : mD := (RX4, cX4_readTerms, 10, (Option.some Jvm.ClassFile.FieldType.boolean), yX4_readTerms, 4, 109, 1, 0, fun _ => 0)
theorem mkX4_readTerms : mOK mX4_readTerms 4 := ⟨by decide +kernel, rfl, wt585, ⟨by decide +kernel, by decide +kernel⟩, by decide +kernel, wt5, by decide +kernel⟩
def mX4_readTree : mD := (RX4, cX4_readTree, 5, (Option.some Jvm.ClassFile.FieldType.boolean), yX4_readTree, 3, 65, 0, 0, fun _ => 0)
theorem mkX4_readTree : mOK mX4_readTree 1 := ⟨by decide +kernel, rfl, wt589, ⟨by decide +kernel, by decide +kernel⟩, by decide +kernel, wt5, by decide +kernel⟩
def mX4_readActName : mD := (RX4, cX4_readActName, 3, (Option.some Jvm.ClassFile.FieldType.int), yX4_readActName, 1, 23, 0, 0, fun _ => 0)
theorem mkX4_readActName : mOK mX4_readActName 1 := ⟨by decide +kernel, rfl, wt593, ⟨by decide +kernel, by decide +kernel⟩, by decide +kernel, wt5, by decide +kernel⟩
def mX4_closeActs : mD := (RX4, cX4_closeActs, 3, (Option.some Jvm.ClassFile.FieldType.int), yX4_closeActs, 2, 43, 0, 0, fun _ => 0)
theorem mkX4_closeActs : mOK mX4_closeActs 1 := ⟨by decide +kernel, rfl, wt601, ⟨by decide +kernel, by decide +kernel⟩, by decide +kernel, wt5, by decide +kernel⟩
def mX4_readMap : mD := (RX4, cX4_readMap, 7, (Option.some Jvm.ClassFile.FieldType.boolean), yX4_readMap, 5, 138, 1, 0, fun _ => 0)
theorem mkX4_readMap : mOK mX4_readMap 3 := ⟨by decide +kernel, rfl, wt1052, ⟨by decide +kernel, by decide +kernel⟩, by decide +kernel, wt5, by decide +kernel⟩
def mX4_areAllTold : mD := (RX4, cX4_areAllTold, 4, (Option.some Jvm.ClassFile.FieldType.boolean), yX4_areAllTold, 1, 22, 0, 0, fun _ => 0)
theorem mkX4_areAllTold : mOK mX4_areAllTold 2 := ⟨by decide +kernel, rfl, wt1056, ⟨by decide +kernel, by decide +kernel⟩, by decide +kernel, wt5, by decide +kernel⟩
def mX5_init : mD := (RX5, cX5_init, 1, (Option.none : Option Jvm.ClassFile.FieldType), yX5_init, 1, 24, 2, 0, fun _ => 0)
theorem mkX5_init : mOK mX5_init 0 := ⟨by decide +kernel, rfl, wt251, ⟨by decide +kernel, by decide +kernel⟩, by decide +kernel, wt9, by decide +kernel⟩
def mX5_raise : mD := (RX5, cX5_raise, 8, (Option.none : Option Jvm.ClassFile.FieldType), yX5_raise, 0, 0, 0, 0, fun _ => 0)
theorem mkX5_raise : mOK mX5_raise 2 := ⟨by decide +kernel, rfl, wt1028, ⟨by decide +kernel, by decide +kernel⟩, by decide +kernel, wt9, by decide +kernel⟩
def mX5_invert : mD := (RX5, cX5_invert, 6, (Option.none : Option Jvm.ClassFile.FieldType), yX5_invert, 0, 0, 0, 0, fun _ => 0)
theorem mkX5_invert : mOK mX5_invert 1 := ⟨by decide +kernel, rfl, wt1032, ⟨by decide +kernel, by decide +kernel⟩, by decide +kernel, wt9, by decide +kernel⟩
def mX5_over : mD := (RX5, cX5_over, 6, (Option.some Jvm.ClassFile.FieldType.long), yX5_over, 0, 0, 0, 0, fun _ => 0)
theorem mkX5_over : mOK mX5_over 2 := ⟨by decide +kernel, rfl, wt1044, ⟨by decide +kernel, by decide +kernel⟩, by decide +kernel, wt9, by decide +kernel⟩
def mX6_init : mD := (RX6, cX6_init, 1, (Option.none : Option Jvm.ClassFile.FieldType), yX6_init, 1, 24, 2, 0, fun _ => 0)
theorem mkX6_init : mOK mX6_init 0 := ⟨by decide +kernel, rfl, wt95, ⟨by decide +kernel, by decide +kernel⟩, by decide +kernel, wt4, by decide +kernel⟩
def mX6_keyOfAct : mD := (RX6, cX6_keyOfAct, 1, (Option.some Jvm.ClassFile.FieldType.int), yX6_keyOfAct, 0, 0, 0, 0, fun _ => 0)
theorem mkX6_keyOfAct : mOK mX6_keyOfAct 1 := ⟨by decide +kernel, rfl, wt798, ⟨by decide +kernel, by decide +kernel⟩, by decide +kernel, wt4, by decide +kernel⟩
def mX6_open : mD := (RX6, cX6_open, 8, (Option.some Jvm.ClassFile.FieldType.int), yX6_open, 0, 0, 0, 0, fun _ => 0)
theorem mkX6_open : mOK mX6_open 3 := ⟨by decide +kernel, rfl, wt747, ⟨by decide +kernel, by decide +kernel⟩, by decide +kernel, wt4, by decide +kernel⟩
def mX6_code : mD := (RX6, cX6_code, 8, (Option.some Jvm.ClassFile.FieldType.int), yX6_code, 0, 0, 0, 0, fun _ => 0)
theorem mkX6_code : mOK mX6_code 3 := ⟨by decide +kernel, rfl, wt608, ⟨by decide +kernel, by decide +kernel⟩, by decide +kernel, wt4, by decide +kernel⟩
def mX6_endOf : mD := (RX6, cX6_endOf, 7, (Option.some Jvm.ClassFile.FieldType.int), yX6_endOf, 0, 0, 0, 0, fun _ => 0)
theorem mkX6_endOf : mOK mX6_endOf 4 := ⟨by decide +kernel, rfl, wt839, ⟨by decide +kernel, by decide +kernel⟩, by decide +kernel, wt4, by decide +kernel⟩
def mX6_leavesIn : mD := (RX6, cX6_leavesIn, 5, (Option.some Jvm.ClassFile.FieldType.int), yX6_leavesIn, 0, 0, 0, 0, fun _ => 0)
theorem mkX6_leavesIn : mOK mX6_leavesIn 3 := ⟨by decide +kernel, rfl, wt842, ⟨by decide +kernel, by decide +kernel⟩, by decide +kernel, wt4, by decide +kernel⟩
def mX6_replaced : mD := (RX6, cX6_replaced, 7, (Option.some Jvm.ClassFile.FieldType.int), yX6_replaced, 1, 27, 0, 0, fun _ => 0)
theorem mkX6_replaced : mOK mX6_replaced 5 := ⟨by decide +kernel, rfl, wt859, ⟨by decide +kernel, by decide +kernel⟩, by decide +kernel, wt4, by decide +kernel⟩
def mX6_grafted : mD := (RX6, cX6_grafted, 9, (Option.some Jvm.ClassFile.FieldType.int), yX6_grafted, 1, 27, 0, 0, fun _ => 0)
theorem mkX6_grafted : mOK mX6_grafted 5 := ⟨by decide +kernel, rfl, wt803, ⟨by decide +kernel, by decide +kernel⟩, by decide +kernel, wt4, by decide +kernel⟩
def mX6_splice : mD := (RX6, cX6_splice, 7, (Option.some Jvm.ClassFile.FieldType.int), yX6_splice, 0, 0, 0, 0, fun _ => 0)
theorem mkX6_splice : mOK mX6_splice 4 := ⟨by decide +kernel, rfl, wt812, ⟨by decide +kernel, by decide +kernel⟩, by decide +kernel, wt4, by decide +kernel⟩
def mX6_placeOfLeaf : mD := (RX6, cX6_placeOfLeaf, 5, (Option.some Jvm.ClassFile.FieldType.int), yX6_placeOfLeaf, 0, 0, 0, 0, fun _ => 0)
theorem mkX6_placeOfLeaf : mOK mX6_placeOfLeaf 2 := ⟨by decide +kernel, rfl, wt808, ⟨by decide +kernel, by decide +kernel⟩, by decide +kernel, wt4, by decide +kernel⟩
def mX6_join : mD := (RX6, cX6_join, 9, (Option.none : Option Jvm.ClassFile.FieldType), yX6_join, 4, 109, 1, 0, fun _ => 0)
theorem mkX6_join : mOK mX6_join 5 := ⟨by decide +kernel, rfl, wt947, ⟨by decide +kernel, by decide +kernel⟩, by decide +kernel, wt4, by decide +kernel⟩
def mX7_init : mD := (RX7, cX7_init, 1, (Option.none : Option Jvm.ClassFile.FieldType), yX7_init, 1, 24, 2, 0, fun _ => 0)
theorem mkX7_init : mOK mX7_init 0 := ⟨by decide +kernel, rfl, wt35, ⟨by decide +kernel, by decide +kernel⟩, by decide +kernel, wt2, by decide +kernel⟩
def mX7_clear : mD := (RX7, cX7_clear, 2, (Option.none : Option Jvm.ClassFile.FieldType), yX7_clear, 1, 23, 0, 0, fun _ => 0)
theorem mkX7_clear : mOK mX7_clear 1 := ⟨by decide +kernel, rfl, wt667, ⟨by decide +kernel, by decide +kernel⟩, by decide +kernel, wt2, by decide +kernel⟩
def mX7_copy : mD := (RX7, cX7_copy, 2, (Option.none : Option Jvm.ClassFile.FieldType), yX7_copy, 1, 30, 0, 0, fun _ => 0)
theorem mkX7_copy : mOK mX7_copy 1 := ⟨by decide +kernel, rfl, wt1156, ⟨by decide +kernel, by decide +kernel⟩, by decide +kernel, wt2, by decide +kernel⟩
def mX7_set : mD := (RX7, cX7_set, 4, (Option.none : Option Jvm.ClassFile.FieldType), yX7_set, 0, 0, 0, 0, fun _ => 0)
theorem mkX7_set : mOK mX7_set 3 := ⟨by decide +kernel, rfl, wt1094, ⟨by decide +kernel, by decide +kernel⟩, by decide +kernel, wt2, by decide +kernel⟩
def mX7_get : mD := (RX7, cX7_get, 3, (Option.some Jvm.ClassFile.FieldType.int), yX7_get, 0, 0, 0, 0, fun _ => 0)
theorem mkX7_get : mOK mX7_get 2 := ⟨by decide +kernel, rfl, wt1123, ⟨by decide +kernel, by decide +kernel⟩, by decide +kernel, wt2, by decide +kernel⟩
def mX8_init : mD := (RX8, cX8_init, 1, (Option.none : Option Jvm.ClassFile.FieldType), yX8_init, 1, 24, 2, 0, fun _ => 0)
theorem mkX8_init : mOK mX8_init 0 := ⟨by decide +kernel, rfl, wt53, ⟨by decide +kernel, by decide +kernel⟩, by decide +kernel, wt3, by decide +kernel⟩
def mX8_clear : mD := (RX8, cX8_clear, 2, (Option.none : Option Jvm.ClassFile.FieldType), yX8_clear, 0, 0, 0, 0, fun _ => 0)
theorem mkX8_clear : mOK mX8_clear 1 := ⟨by decide +kernel, rfl, wt605, ⟨by decide +kernel, by decide +kernel⟩, by decide +kernel, wt3, by decide +kernel⟩
def mX8_copy : mD := (RX8, cX8_copy, 2, (Option.none : Option Jvm.ClassFile.FieldType), yX8_copy, 3, 84, 1, 0, fun _ => 0)
theorem mkX8_copy : mOK mX8_copy 1 := ⟨by decide +kernel, rfl, wt710, ⟨by decide +kernel, by decide +kernel⟩, by decide +kernel, wt3, by decide +kernel⟩
def mX8_makeRoom : mD := (RX8, cX8_makeRoom, 3, (Option.none : Option Jvm.ClassFile.FieldType), yX8_makeRoom, 2, 62, 1, 0, fun _ => 0)
theorem mkX8_makeRoom : mOK mX8_makeRoom 1 := ⟨by decide +kernel, rfl, wt623, ⟨by decide +kernel, by decide +kernel⟩, by decide +kernel, wt3, by decide +kernel⟩
def mX8_put : mD := (RX8, cX8_put, 6, (Option.none : Option Jvm.ClassFile.FieldType), yX8_put, 3, 84, 1, 0, fun _ => 0)
theorem mkX8_put : mOK mX8_put 3 := ⟨by decide +kernel, rfl, wt612, ⟨by decide +kernel, by decide +kernel⟩, by decide +kernel, wt3, by decide +kernel⟩
def mX8_putAll : mD := (RX8, cX8_putAll, 5, (Option.none : Option Jvm.ClassFile.FieldType), yX8_putAll, 4, 109, 1, 0, fun _ => 0)
theorem mkX8_putAll : mOK mX8_putAll 3 := ⟨by decide +kernel, rfl, wt961, ⟨by decide +kernel, by decide +kernel⟩, by decide +kernel, wt3, by decide +kernel⟩
def mX8_placeOf : mD := (RX8, cX8_placeOf, 5, (Option.some Jvm.ClassFile.FieldType.int), yX8_placeOf, 0, 0, 0, 0, fun _ => 0)
theorem mkX8_placeOf : mOK mX8_placeOf 1 := ⟨by decide +kernel, rfl, wt619, ⟨by decide +kernel, by decide +kernel⟩, by decide +kernel, wt3, by decide +kernel⟩
def mX8_insert : mD := (RX8, cX8_insert, 4, (Option.none : Option Jvm.ClassFile.FieldType), yX8_insert, 1, 30, 0, 0, fun _ => 0)
theorem mkX8_insert : mOK mX8_insert 3 := ⟨by decide +kernel, rfl, wt645, ⟨by decide +kernel, by decide +kernel⟩, by decide +kernel, wt3, by decide +kernel⟩
def mX8_remove : mD := (RX8, cX8_remove, 2, (Option.none : Option Jvm.ClassFile.FieldType), yX8_remove, 1, 30, 0, 0, fun _ => 0)
theorem mkX8_remove : mOK mX8_remove 1 := ⟨by decide +kernel, rfl, wt650, ⟨by decide +kernel, by decide +kernel⟩, by decide +kernel, wt3, by decide +kernel⟩
def mX9_init : mD := (RX9, cX9_init, 1, (Option.none : Option Jvm.ClassFile.FieldType), yX9_init, 1, 24, 2, 0, fun _ => 0)
theorem mkX9_init : mOK mX9_init 0 := ⟨by decide +kernel, rfl, wt286, ⟨by decide +kernel, by decide +kernel⟩, by decide +kernel, wt12, by decide +kernel⟩
def mX9_clear : mD := (RX9, cX9_clear, 1, (Option.none : Option Jvm.ClassFile.FieldType), yX9_clear, 0, 0, 0, 0, fun _ => 0)
theorem mkX9_clear : mOK mX9_clear 0 := ⟨by decide +kernel, rfl, wt540, ⟨by decide +kernel, by decide +kernel⟩, by decide +kernel, wt12, by decide +kernel⟩
def mX9_hasAct : mD := (RX9, cX9_hasAct, 2, (Option.some Jvm.ClassFile.FieldType.boolean), yX9_hasAct, 0, 0, 0, 0, fun _ => 0)
theorem mkX9_hasAct : mOK mX9_hasAct 1 := ⟨by decide +kernel, rfl, wt685, ⟨by decide +kernel, by decide +kernel⟩, by decide +kernel, wt12, by decide +kernel⟩
def mX9_hasLaw : mD := (RX9, cX9_hasLaw, 2, (Option.some Jvm.ClassFile.FieldType.boolean), yX9_hasLaw, 0, 0, 0, 0, fun _ => 0)
theorem mkX9_hasLaw : mOK mX9_hasLaw 1 := ⟨by decide +kernel, rfl, wt693, ⟨by decide +kernel, by decide +kernel⟩, by decide +kernel, wt12, by decide +kernel⟩
def mX9_findAct : mD := (RX9, cX9_findAct, 4, (Option.some Jvm.ClassFile.FieldType.int), yX9_findAct, 0, 0, 0, 0, fun _ => 0)
theorem mkX9_findAct : mOK mX9_findAct 1 := ⟨by decide +kernel, rfl, wt571, ⟨by decide +kernel, by decide +kernel⟩, by decide +kernel, wt12, by decide +kernel⟩
def mX9_addAct : mD := (RX9, cX9_addAct, 4, (Option.none : Option Jvm.ClassFile.FieldType), yX9_addAct, 0, 0, 0, 0, fun _ => 0)
theorem mkX9_addAct : mOK mX9_addAct 2 := ⟨by decide +kernel, rfl, wt577, ⟨by decide +kernel, by decide +kernel⟩, by decide +kernel, wt12, by decide +kernel⟩
def mX9_addLaw : mD := (RX9, cX9_addLaw, 3, (Option.none : Option Jvm.ClassFile.FieldType), yX9_addLaw, 1, 30, 0, 0, fun _ => 0)
theorem mkX9_addLaw : mOK mX9_addLaw 1 := ⟨by decide +kernel, rfl, wt654, ⟨by decide +kernel, by decide +kernel⟩, by decide +kernel, wt12, by decide +kernel⟩
def mX9_lawInto : mD := (RX9, cX9_lawInto, 5, (Option.none : Option Jvm.ClassFile.FieldType), yX9_lawInto, 4, 109, 1, 0, fun _ => 0)
theorem mkX9_lawInto : mOK mX9_lawInto 3 := ⟨by decide +kernel, rfl, wt701, ⟨by decide +kernel, by decide +kernel⟩, by decide +kernel, wt12, by decide +kernel⟩
def mX9_hasDual : mD := (RX9, cX9_hasDual, 2, (Option.some Jvm.ClassFile.FieldType.boolean), yX9_hasDual, 0, 0, 0, 0, fun _ => 0)
theorem mkX9_hasDual : mOK mX9_hasDual 0 := ⟨by decide +kernel, rfl, wt978, ⟨by decide +kernel, by decide +kernel⟩, by decide +kernel, wt12, by decide +kernel⟩
def mX9_countTrees : mD := (RX9, cX9_countTrees, 6, (Option.none : Option Jvm.ClassFile.FieldType), yX9_countTrees, 0, 0, 0, 0, fun _ => 0)
theorem mkX9_countTrees : mOK mX9_countTrees 0 := ⟨by decide +kernel, rfl, wt663, ⟨by decide +kernel, by decide +kernel⟩, by decide +kernel, wt12, by decide +kernel⟩
def mX10_init : mD := (RX10, cX10_init, 1, (Option.none : Option Jvm.ClassFile.FieldType), yX10_init, 1, 24, 2, 0, fun _ => 0)
theorem mkX10_init : mOK mX10_init 0 := ⟨by decide +kernel, rfl, wt178, ⟨by decide +kernel, by decide +kernel⟩, by decide +kernel, wt6, by decide +kernel⟩
def mX10_byteOf : mD := (RX10, cX10_byteOf, 5, (Option.some Jvm.ClassFile.FieldType.int), yX10_byteOf, 3, 72, 0, 0, fun _ => 0)
theorem mkX10_byteOf : mOK mX10_byteOf 4 := ⟨by decide +kernel, rfl, wt740, ⟨by decide +kernel, by decide +kernel⟩, by decide +kernel, wt6, by decide +kernel⟩
def mX10_write : mD := (RX10, cX10_write, 8, (Option.none : Option Jvm.ClassFile.FieldType), yX10_write, 2, 45, 0, 0, fun _ => 0)
theorem mkX10_write : mOK mX10_write 3 := ⟨by decide +kernel, rfl, wt744, ⟨by decide +kernel, by decide +kernel⟩, by decide +kernel, wt6, by decide +kernel⟩
def mX10_writeClosings : mD := (RX10, cX10_writeClosings, 3, (Option.some Jvm.ClassFile.FieldType.int), yX10_writeClosings, 1, 21, 0, 0, fun _ => 0)
theorem mkX10_writeClosings : mOK mX10_writeClosings 1 := ⟨by decide +kernel, rfl, wt761, ⟨by decide +kernel, by decide +kernel⟩, by decide +kernel, wt6, by decide +kernel⟩
def mX10_writeName : mD := (RX10, cX10_writeName, 5, (Option.none : Option Jvm.ClassFile.FieldType), yX10_writeName, 1, 21, 0, 0, fun _ => 0)
theorem mkX10_writeName : mOK mX10_writeName 1 := ⟨by decide +kernel, rfl, wt752, ⟨by decide +kernel, by decide +kernel⟩, by decide +kernel, wt6, by decide +kernel⟩
def mX10_writeByte : mD := (RX10, cX10_writeByte, 2, (Option.none : Option Jvm.ClassFile.FieldType), yX10_writeByte, 0, 0, 0, 0, fun _ => 0)
theorem mkX10_writeByte : mOK mX10_writeByte 1 := ⟨by decide +kernel, rfl, wt757, ⟨by decide +kernel, by decide +kernel⟩, by decide +kernel, wt6, by decide +kernel⟩
def mX11_init : mD := (RX11, cX11_init, 2, (Option.none : Option Jvm.ClassFile.FieldType), yX11_init, 3, 65, 2, 0, fun _ => 0)
theorem mkX11_init : mOK mX11_init 0 := ⟨by decide +kernel, rfl, wt25, ⟨by decide +kernel, by decide +kernel⟩, by decide +kernel, wt1, by decide +kernel⟩
def mX11_feed : mD := (RX11, cX11_feed, 6, (Option.some Jvm.ClassFile.FieldType.int), yX11_feed, 1, 22, 0, 0, fun _ => 0)
theorem mkX11_feed : mOK mX11_feed 5 := ⟨by decide +kernel, rfl, wt486, ⟨by decide +kernel, by decide +kernel⟩, by decide +kernel, wt1, by decide +kernel⟩
def mX11_feedOne : mD := (RX11, cX11_feedOne, 3, (Option.none : Option Jvm.ClassFile.FieldType), yX11_feedOne, 0, 0, 0, 0, fun _ => 0)
theorem mkX11_feedOne : mOK mX11_feedOne 1 := ⟨by decide +kernel, rfl, wt490, ⟨by decide +kernel, by decide +kernel⟩, by decide +kernel, wt1, by decide +kernel⟩
def mX11_end : mD := (RX11, cX11_end, 2, (Option.some Jvm.ClassFile.FieldType.boolean), yX11_end, 0, 0, 0, 0, fun _ => 0)
theorem mkX11_end : mOK mX11_end 1 := ⟨by decide +kernel, rfl, wt494, ⟨by decide +kernel, by decide +kernel⟩, by decide +kernel, wt1, by decide +kernel⟩
def mX11_emptyTape : mD := (RX11, cX11_emptyTape, 2, (Option.some Jvm.ClassFile.FieldType.int), yX11_emptyTape, 0, 0, 0, 0, fun _ => 0)
theorem mkX11_emptyTape : mOK mX11_emptyTape 0 := ⟨by decide +kernel, rfl, wt506, ⟨by decide +kernel, by decide +kernel⟩, by decide +kernel, wt1, by decide +kernel⟩
def mX11_world : mD := (RX11, cX11_world, 4, (Option.some Jvm.ClassFile.FieldType.int), yX11_world, 7, 182, 1, 0, fun _ => 0)
theorem mkX11_world : mOK mX11_world 0 := ⟨by decide +kernel, rfl, wt498, ⟨by decide +kernel, by decide +kernel⟩, by decide +kernel, wt1, by decide +kernel⟩
def mX11_freeSlot : mD := (RX11, cX11_freeSlot, 2, (Option.some Jvm.ClassFile.FieldType.int), yX11_freeSlot, 0, 0, 0, 0, fun _ => 0)
theorem mkX11_freeSlot : mOK mX11_freeSlot 0 := ⟨by decide +kernel, rfl, wt502, ⟨by decide +kernel, by decide +kernel⟩, by decide +kernel, wt1, by decide +kernel⟩
def mX11_basisHere : mD := (RX11, cX11_basisHere, 1, (Option.some (Jvm.ClassFile.FieldType.object "LeafWorlds$Basis")), yX11_basisHere, 0, 0, 0, 0, fun _ => 0)
theorem mkX11_basisHere : mOK mX11_basisHere 0 := ⟨by decide +kernel, rfl, wt769, ⟨by decide +kernel, by decide +kernel⟩, by decide +kernel, wt1, by decide +kernel⟩
def mX11_worldHere : mD := (RX11, cX11_worldHere, 1, (Option.some (Jvm.ClassFile.FieldType.object "LeafWorlds$World")), yX11_worldHere, 0, 0, 0, 0, fun _ => 0)
theorem mkX11_worldHere : mOK mX11_worldHere 0 := ⟨by decide +kernel, rfl, wt681, ⟨by decide +kernel, by decide +kernel⟩, by decide +kernel, wt1, by decide +kernel⟩
def mX11_basisKept : mD := (RX11, cX11_basisKept, 3, (Option.some (Jvm.ClassFile.FieldType.object "LeafWorlds$Basis")), yX11_basisKept, 0, 0, 0, 0, fun _ => 0)
theorem mkX11_basisKept : mOK mX11_basisKept 1 := ⟨by decide +kernel, rfl, wt1040, ⟨by decide +kernel, by decide +kernel⟩, by decide +kernel, wt1, by decide +kernel⟩
def mX11_fault : mD := (RX11, cX11_fault, 1, (Option.some Jvm.ClassFile.FieldType.int), yX11_fault, 0, 0, 0, 0, fun _ => 0)
theorem mkX11_fault : mOK mX11_fault 0 := ⟨by decide +kernel, rfl, wt673, ⟨by decide +kernel, by decide +kernel⟩, by decide +kernel, wt1, by decide +kernel⟩
def mX11_act : mD := (RX11, cX11_act, 3, (Option.some Jvm.ClassFile.FieldType.int), yX11_act, 1, 21, 0, 0, fun _ => 0)
theorem mkX11_act : mOK mX11_act 1 := ⟨by decide +kernel, rfl, wt677, ⟨by decide +kernel, by decide +kernel⟩, by decide +kernel, wt1, by decide +kernel⟩
def mX11_law : mD := (RX11, cX11_law, 4, (Option.some Jvm.ClassFile.FieldType.int), yX11_law, 1, 21, 0, 0, fun _ => 0)
theorem mkX11_law : mOK mX11_law 2 := ⟨by decide +kernel, rfl, wt689, ⟨by decide +kernel, by decide +kernel⟩, by decide +kernel, wt1, by decide +kernel⟩
def mX11_take : mD := (RX11, cX11_take, 3, (Option.some Jvm.ClassFile.FieldType.int), yX11_take, 5, 133, 1, 0, fun _ => 0)
theorem mkX11_take : mOK mX11_take 1 := ⟨by decide +kernel, rfl, wt697, ⟨by decide +kernel, by decide +kernel⟩, by decide +kernel, wt1, by decide +kernel⟩
def mX11_keepMade : mD := (RX11, cX11_keepMade, 1, (Option.some Jvm.ClassFile.FieldType.int), yX11_keepMade, 4, 105, 1, 0, fun _ => 0)
theorem mkX11_keepMade : mOK mX11_keepMade 0 := ⟨by decide +kernel, rfl, wt706, ⟨by decide +kernel, by decide +kernel⟩, by decide +kernel, wt1, by decide +kernel⟩
def mX11_trees : mD := (RX11, cX11_trees, 2, (Option.some Jvm.ClassFile.FieldType.long), yX11_trees, 1, 20, 0, 0, fun _ => 0)
theorem mkX11_trees : mOK mX11_trees 1 := ⟨by decide +kernel, rfl, wt715, ⟨by decide +kernel, by decide +kernel⟩, by decide +kernel, wt1, by decide +kernel⟩
def mX11_sum : mD := (RX11, cX11_sum, 1, (Option.some Jvm.ClassFile.FieldType.int), yX11_sum, 7, 179, 1, 0, fun _ => 0)
theorem mkX11_sum : mOK mX11_sum 0 := ⟨by decide +kernel, rfl, wt720, ⟨by decide +kernel, by decide +kernel⟩, by decide +kernel, wt1, by decide +kernel⟩
def mX11_readSumHere : mD := (RX11, cX11_readSumHere, 1, (Option.some Jvm.ClassFile.FieldType.boolean), yX11_readSumHere, 6, 159, 1, 0, fun _ => 0)
theorem mkX11_readSumHere : mOK mX11_readSumHere 0 := ⟨by decide +kernel, rfl, wt724, ⟨by decide +kernel, by decide +kernel⟩, by decide +kernel, wt1, by decide +kernel⟩
def mX11_leaves : mD := (RX11, cX11_leaves, 1, (Option.some Jvm.ClassFile.FieldType.int), yX11_leaves, 0, 0, 0, 0, fun _ => 0)
theorem mkX11_leaves : mOK mX11_leaves 0 := ⟨by decide +kernel, rfl, wt732, ⟨by decide +kernel, by decide +kernel⟩, by decide +kernel, wt1, by decide +kernel⟩
def mX11_term : mD := (RX11, cX11_term, 2, (Option.some Jvm.ClassFile.FieldType.int), yX11_term, 7, 160, 0, 0, fun _ => 0)
theorem mkX11_term : mOK mX11_term 1 := ⟨by decide +kernel, rfl, wt1173, ⟨by decide +kernel, by decide +kernel⟩, by decide +kernel, wt1, by decide +kernel⟩
def mX11_termAt : mD := (RX11, cX11_termAt, 3, (Option.some Jvm.ClassFile.FieldType.int), yX11_termAt, 4, 96, 0, 0, fun _ => 0)
theorem mkX11_termAt : mOK mX11_termAt 2 := ⟨by decide +kernel, rfl, wt736, ⟨by decide +kernel, by decide +kernel⟩, by decide +kernel, wt1, by decide +kernel⟩
def mX11_reduce : mD := (RX11, cX11_reduce, 2, (Option.some Jvm.ClassFile.FieldType.int), yX11_reduce, 6, 143, 1, 0, fun _ => 0)
theorem mkX11_reduce : mOK mX11_reduce 0 := ⟨by decide +kernel, rfl, wt765, ⟨by decide +kernel, by decide +kernel⟩, by decide +kernel, wt1, by decide +kernel⟩
def mX11_size : mD := (RX11, cX11_size, 3, (Option.some Jvm.ClassFile.FieldType.int), yX11_size, 6, 143, 1, 0, fun _ => 0)
theorem mkX11_size : mOK mX11_size 1 := ⟨by decide +kernel, rfl, wt910, ⟨by decide +kernel, by decide +kernel⟩, by decide +kernel, wt1, by decide +kernel⟩
def mX11_normalAt : mD := (RX11, cX11_normalAt, 6, (Option.some Jvm.ClassFile.FieldType.int), yX11_normalAt, 6, 143, 1, 0, fun _ => 0)
theorem mkX11_normalAt : mOK mX11_normalAt 3 := ⟨by decide +kernel, rfl, wt914, ⟨by decide +kernel, by decide +kernel⟩, by decide +kernel, wt1, by decide +kernel⟩
def mX11_bare : mD := (RX11, cX11_bare, 3, (Option.some Jvm.ClassFile.FieldType.int), yX11_bare, 6, 143, 1, 0, fun _ => 0)
theorem mkX11_bare : mOK mX11_bare 1 := ⟨by decide +kernel, rfl, wt923, ⟨by decide +kernel, by decide +kernel⟩, by decide +kernel, wt1, by decide +kernel⟩
def mX11_closed : mD := (RX11, cX11_closed, 4, (Option.some Jvm.ClassFile.FieldType.int), yX11_closed, 6, 143, 1, 0, fun _ => 0)
theorem mkX11_closed : mOK mX11_closed 1 := ⟨by decide +kernel, rfl, wt939, ⟨by decide +kernel, by decide +kernel⟩, by decide +kernel, wt1, by decide +kernel⟩
def mX11_plug : mD := (RX11, cX11_plug, 3, (Option.some Jvm.ClassFile.FieldType.int), yX11_plug, 7, 179, 1, 0, fun _ => 0)
theorem mkX11_plug : mOK mX11_plug 1 := ⟨by decide +kernel, rfl, wt943, ⟨by decide +kernel, by decide +kernel⟩, by decide +kernel, wt1, by decide +kernel⟩
def mX11_times : mD := (RX11, cX11_times, 2, (Option.some Jvm.ClassFile.FieldType.int), yX11_times, 5, 133, 1, 0, fun _ => 0)
theorem mkX11_times : mOK mX11_times 1 := ⟨by decide +kernel, rfl, wt954, ⟨by decide +kernel, by decide +kernel⟩, by decide +kernel, wt1, by decide +kernel⟩
def mX11_isFactor : mD := (RX11, cX11_isFactor, 1, (Option.some Jvm.ClassFile.FieldType.boolean), yX11_isFactor, 0, 0, 0, 0, fun _ => 0)
theorem mkX11_isFactor : mOK mX11_isFactor 1 := ⟨by decide +kernel, rfl, wt957, ⟨by decide +kernel, by decide +kernel⟩, by decide +kernel, wt1, by decide +kernel⟩
def mX11_add : mD := (RX11, cX11_add, 4, (Option.some Jvm.ClassFile.FieldType.int), yX11_add, 5, 133, 1, 0, fun _ => 0)
theorem mkX11_add : mOK mX11_add 2 := ⟨by decide +kernel, rfl, wt966, ⟨by decide +kernel, by decide +kernel⟩, by decide +kernel, wt1, by decide +kernel⟩
def mX11_undo : mD := (RX11, cX11_undo, 1, (Option.some Jvm.ClassFile.FieldType.int), yX11_undo, 4, 105, 1, 0, fun _ => 0)
theorem mkX11_undo : mOK mX11_undo 0 := ⟨by decide +kernel, rfl, wt970, ⟨by decide +kernel, by decide +kernel⟩, by decide +kernel, wt1, by decide +kernel⟩
def mX11_dual : mD := (RX11, cX11_dual, 3, (Option.some Jvm.ClassFile.FieldType.int), yX11_dual, 6, 143, 1, 0, fun _ => 0)
theorem mkX11_dual : mOK mX11_dual 0 := ⟨by decide +kernel, rfl, wt974, ⟨by decide +kernel, by decide +kernel⟩, by decide +kernel, wt1, by decide +kernel⟩
def mX11_undone : mD := (RX11, cX11_undone, 3, (Option.some Jvm.ClassFile.FieldType.long), yX11_undone, 7, 160, 1, 0, fun _ => 0)
theorem mkX11_undone : mOK mX11_undone 1 := ⟨by decide +kernel, rfl, wt1245, ⟨by decide +kernel, by decide +kernel⟩, by decide +kernel, wt1, by decide +kernel⟩
def mX11_koszul : mD := (RX11, cX11_koszul, 7, (Option.some Jvm.ClassFile.FieldType.int), yX11_koszul, 7, 167, 1, 0, fun _ => 0)
theorem mkX11_koszul : mOK mX11_koszul 1 := ⟨by decide +kernel, rfl, wt1020, ⟨by decide +kernel, by decide +kernel⟩, by decide +kernel, wt1, by decide +kernel⟩
def mX11_findDualSizes : mD := (RX11, cX11_findDualSizes, 5, (Option.none : Option Jvm.ClassFile.FieldType), yX11_findDualSizes, 6, 143, 1, 0, fun _ => 0)
theorem mkX11_findDualSizes : mOK mX11_findDualSizes 2 := ⟨by decide +kernel, rfl, wt1024, ⟨by decide +kernel, by decide +kernel⟩, by decide +kernel, wt1, by decide +kernel⟩
def mX11_layered : mD := (RX11, cX11_layered, 5, (Option.some Jvm.ClassFile.FieldType.long), yX11_layered, 6, 143, 1, 0, fun _ => 0)
theorem mkX11_layered : mOK mX11_layered 2 := ⟨by decide +kernel, rfl, wt1036, ⟨by decide +kernel, by decide +kernel⟩, by decide +kernel, wt1, by decide +kernel⟩
def mX11_map : mD := (RX11, cX11_map, 5, (Option.some Jvm.ClassFile.FieldType.int), yX11_map, 8, 216, 1, 0, fun _ => 0)
theorem mkX11_map : mOK mX11_map 1 := ⟨by decide +kernel, rfl, wt1048, ⟨by decide +kernel, by decide +kernel⟩, by decide +kernel, wt1, by decide +kernel⟩
def mX11_broken : mD := (RX11, cX11_broken, 1, (Option.some Jvm.ClassFile.FieldType.int), yX11_broken, 0, 0, 0, 0, fun _ => 0)
theorem mkX11_broken : mOK mX11_broken 0 := ⟨by decide +kernel, rfl, wt1079, ⟨by decide +kernel, by decide +kernel⟩, by decide +kernel, wt1, by decide +kernel⟩
def mX11_space : mD := (RX11, cX11_space, 2, (Option.some Jvm.ClassFile.FieldType.boolean), yX11_space, 2, 44, 0, 0, fun _ => 0)
theorem mkX11_space : mOK mX11_space 1 := ⟨by decide +kernel, rfl, wt1083, ⟨by decide +kernel, by decide +kernel⟩, by decide +kernel, wt1, by decide +kernel⟩
def mX11_table : mD := (RX11, cX11_table, 5, (Option.some Jvm.ClassFile.FieldType.boolean), yX11_table, 1, 23, 0, 0, fun _ => 0)
theorem mkX11_table : mOK mX11_table 1 := ⟨by decide +kernel, rfl, wt1087, ⟨by decide +kernel, by decide +kernel⟩, by decide +kernel, wt1, by decide +kernel⟩
def mX11_holds : mD := (RX11, cX11_holds, 3, (Option.some Jvm.ClassFile.FieldType.int), yX11_holds, 4, 113, 1, 0, fun _ => 0)
theorem mkX11_holds : mOK mX11_holds 1 := ⟨by decide +kernel, rfl, wt1098, ⟨by decide +kernel, by decide +kernel⟩, by decide +kernel, wt1, by decide +kernel⟩
def mX11_done : mD := (RX11, cX11_done, 4, (Option.some Jvm.ClassFile.FieldType.int), yX11_done, 4, 113, 0, 0, fun _ => 0)
theorem mkX11_done : mOK mX11_done 1 := ⟨by decide +kernel, rfl, wt1128, ⟨by decide +kernel, by decide +kernel⟩, by decide +kernel, wt1, by decide +kernel⟩
def mX11_drawn : mD := (RX11, cX11_drawn, 6, (Option.some Jvm.ClassFile.FieldType.int), yX11_drawn, 6, 143, 1, 0, fun _ => 0)
theorem mkX11_drawn : mOK mX11_drawn 2 := ⟨by decide +kernel, rfl, wt1145, ⟨by decide +kernel, by decide +kernel⟩, by decide +kernel, wt1, by decide +kernel⟩
def mX11_image : mD := (RX11, cX11_image, 2, (Option.some Jvm.ClassFile.FieldType.boolean), yX11_image, 4, 105, 1, 0, fun _ => 0)
theorem mkX11_image : mOK mX11_image 1 := ⟨by decide +kernel, rfl, wt1152, ⟨by decide +kernel, by decide +kernel⟩, by decide +kernel, wt1, by decide +kernel⟩
def mX11_restore : mD := (RX11, cX11_restore, 2, (Option.some Jvm.ClassFile.FieldType.boolean), yX11_restore, 4, 105, 1, 0, fun _ => 0)
theorem mkX11_restore : mOK mX11_restore 1 := ⟨by decide +kernel, rfl, wt1161, ⟨by decide +kernel, by decide +kernel⟩, by decide +kernel, wt1, by decide +kernel⟩
def mX11_count : mD := (RX11, cX11_count, 2, (Option.some Jvm.ClassFile.FieldType.int), yX11_count, 1, 20, 0, 0, fun _ => 0)
theorem mkX11_count : mOK mX11_count 1 := ⟨by decide +kernel, rfl, wt1165, ⟨by decide +kernel, by decide +kernel⟩, by decide +kernel, wt1, by decide +kernel⟩
def mX11_rest : mD := (RX11, cX11_rest, 3, (Option.some Jvm.ClassFile.FieldType.int), yX11_rest, 0, 0, 0, 0, fun _ => 0)
theorem mkX11_rest : mOK mX11_rest 2 := ⟨by decide +kernel, rfl, wt615, ⟨by decide +kernel, by decide +kernel⟩, by decide +kernel, wt1, by decide +kernel⟩
def mX11_inverseOf : mD := (RX11, cX11_inverseOf, 3, (Option.some Jvm.ClassFile.FieldType.int), yX11_inverseOf, 1, 22, 0, 0, fun _ => 0)
theorem mkX11_inverseOf : mOK mX11_inverseOf 2 := ⟨by decide +kernel, rfl, wt883, ⟨by decide +kernel, by decide +kernel⟩, by decide +kernel, wt1, by decide +kernel⟩
def mX11_power : mD := (RX11, cX11_power, 4, (Option.some Jvm.ClassFile.FieldType.int), yX11_power, 0, 0, 0, 0, fun _ => 0)
theorem mkX11_power : mOK mX11_power 2 := ⟨by decide +kernel, rfl, wt1090, ⟨by decide +kernel, by decide +kernel⟩, by decide +kernel, wt1, by decide +kernel⟩
def mX12_thrown : mD := (RX12, cX12_thrown, 1, (Option.some Jvm.ClassFile.FieldType.int), yX12_thrown, 0, 0, 0, 0, fun _ => 0)
theorem mkX12_thrown : mOK mX12_thrown 0 := ⟨by decide +kernel, rfl, wt1250, ⟨by decide +kernel, by decide +kernel⟩, by decide +kernel, wt14, by decide +kernel⟩
def mX12_throwsIf : mD := (RX12, cX12_throwsIf, 2, (Option.some Jvm.ClassFile.FieldType.boolean), yX12_throwsIf, 0, 0, 0, 0, fun _ => 0)
theorem mkX12_throwsIf : mOK mX12_throwsIf 1 := ⟨by decide +kernel, rfl, wt1737, ⟨by decide +kernel, by decide +kernel⟩, by decide +kernel, wt14, by decide +kernel⟩
def mX12_feed : mD := (RX12, cX12_feed, 6, (Option.some Jvm.ClassFile.FieldType.int), yX12_feed, 1, 22, 0, 0, fun _ => 0)
theorem mkX12_feed : mOK mX12_feed 5 := ⟨by decide +kernel, rfl, wt1254, ⟨by decide +kernel, by decide +kernel⟩, by decide +kernel, wt14, by decide +kernel⟩
def mX12_four : mD := (RX12, cX12_four, 3, (Option.none : Option Jvm.ClassFile.FieldType), yX12_four, 0, 0, 0, 0, fun _ => 0)
theorem mkX12_four : mOK mX12_four 1 := ⟨by decide +kernel, rfl, wt1259, ⟨by decide +kernel, by decide +kernel⟩, by decide +kernel, wt14, by decide +kernel⟩
def mX12_end : mD := (RX12, cX12_end, 2, (Option.some Jvm.ClassFile.FieldType.boolean), yX12_end, 0, 0, 0, 0, fun _ => 0)
theorem mkX12_end : mOK mX12_end 1 := ⟨by decide +kernel, rfl, wt1263, ⟨by decide +kernel, by decide +kernel⟩, by decide +kernel, wt14, by decide +kernel⟩
def mX12_taken : mD := (RX12, cX12_taken, 2, (Option.none : Option Jvm.ClassFile.FieldType), yX12_taken, 0, 0, 0, 0, fun _ => 0)
theorem mkX12_taken : mOK mX12_taken 1 := ⟨by decide +kernel, rfl, wt1568, ⟨by decide +kernel, by decide +kernel⟩, by decide +kernel, wt14, by decide +kernel⟩
def mX12_isIn : mD := (RX12, cX12_isIn, 3, (Option.some Jvm.ClassFile.FieldType.boolean), yX12_isIn, 0, 0, 0, 0, fun _ => 0)
theorem mkX12_isIn : mOK mX12_isIn 3 := ⟨by decide +kernel, rfl, wt1616, ⟨by decide +kernel, by decide +kernel⟩, by decide +kernel, wt14, by decide +kernel⟩
def mX12_octet : mD := (RX12, cX12_octet, 2, (Option.some Jvm.ClassFile.FieldType.int), yX12_octet, 0, 0, 0, 0, fun _ => 0)
theorem mkX12_octet : mOK mX12_octet 1 := ⟨by decide +kernel, rfl, wt1987, ⟨by decide +kernel, by decide +kernel⟩, by decide +kernel, wt14, by decide +kernel⟩
def mX12_init : mD := (RX12, cX12_init, 2, (Option.none : Option Jvm.ClassFile.FieldType), yX12_init, 1, 24, 2, 0, fun _ => 0)
theorem mkX12_init : mOK mX12_init 0 := ⟨by decide +kernel, rfl, wt1267, ⟨by decide +kernel, by decide +kernel⟩, by decide +kernel, wt14, by decide +kernel⟩
def mX12_plainWorld : mD := (RX12, cX12_plainWorld, 2, (Option.none : Option Jvm.ClassFile.FieldType), yX12_plainWorld, 0, 0, 0, 0, fun _ => 0)
theorem mkX12_plainWorld : mOK mX12_plainWorld 0 := ⟨by decide +kernel, rfl, wt1273, ⟨by decide +kernel, by decide +kernel⟩, by decide +kernel, wt14, by decide +kernel⟩
def mX12_plainSum : mD := (RX12, cX12_plainSum, 1, (Option.none : Option Jvm.ClassFile.FieldType), yX12_plainSum, 0, 0, 0, 0, fun _ => 0)
theorem mkX12_plainSum : mOK mX12_plainSum 0 := ⟨by decide +kernel, rfl, wt1277, ⟨by decide +kernel, by decide +kernel⟩, by decide +kernel, wt14, by decide +kernel⟩
def mX12_peek : mD := (RX12, cX12_peek, 1, (Option.some Jvm.ClassFile.FieldType.int), yX12_peek, 0, 0, 0, 0, fun _ => 0)
theorem mkX12_peek : mOK mX12_peek 0 := ⟨by decide +kernel, rfl, wt1580, ⟨by decide +kernel, by decide +kernel⟩, by decide +kernel, wt14, by decide +kernel⟩
def mX12_isSmall : mD := (RX12, cX12_isSmall, 1, (Option.some Jvm.ClassFile.FieldType.boolean), yX12_isSmall, 0, 0, 0, 0, fun _ => 0)
theorem mkX12_isSmall : mOK mX12_isSmall 1 := ⟨by decide +kernel, rfl, wt1583, ⟨by decide +kernel, by decide +kernel⟩, by decide +kernel, wt14, by decide +kernel⟩
def mX12_isDigit : mD := (RX12, cX12_isDigit, 1, (Option.some Jvm.ClassFile.FieldType.boolean), yX12_isDigit, 0, 0, 0, 0, fun _ => 0)
theorem mkX12_isDigit : mOK mX12_isDigit 1 := ⟨by decide +kernel, rfl, wt1586, ⟨by decide +kernel, by decide +kernel⟩, by decide +kernel, wt14, by decide +kernel⟩
def mX12_next : mD := (RX12, cX12_next, 4, (Option.none : Option Jvm.ClassFile.FieldType), yX12_next, 1, 20, 0, 0, fun _ => 0)
theorem mkX12_next : mOK mX12_next 0 := ⟨by decide +kernel, rfl, wt1576, ⟨by decide +kernel, by decide +kernel⟩, by decide +kernel, wt14, by decide +kernel⟩
def mX12_bad : mD := (RX12, cX12_bad, 2, (Option.some Jvm.ClassFile.FieldType.boolean), yX12_bad, 0, 0, 0, 0, fun _ => 0)
theorem mkX12_bad : mOK mX12_bad 1 := ⟨by decide +kernel, rfl, wt1599, ⟨by decide +kernel, by decide +kernel⟩, by decide +kernel, wt14, by decide +kernel⟩
def mX12_isWord : mD := (RX12, cX12_isWord, 3, (Option.some Jvm.ClassFile.FieldType.boolean), yX12_isWord, 0, 0, 0, 0, fun _ => 0)
theorem mkX12_isWord : mOK mX12_isWord 1 := ⟨by decide +kernel, rfl, wt1595, ⟨by decide +kernel, by decide +kernel⟩, by decide +kernel, wt14, by decide +kernel⟩
def mX12_isSign : mD := (RX12, cX12_isSign, 2, (Option.some Jvm.ClassFile.FieldType.boolean), yX12_isSign, 0, 0, 0, 0, fun _ => 0)
theorem mkX12_isSign : mOK mX12_isSign 1 := ⟨by decide +kernel, rfl, wt1624, ⟨by decide +kernel, by decide +kernel⟩, by decide +kernel, wt14, by decide +kernel⟩
def mX12_sign : mD := (RX12, cX12_sign, 2, (Option.some Jvm.ClassFile.FieldType.boolean), yX12_sign, 2, 43, 0, 0, fun _ => 0)
theorem mkX12_sign : mOK mX12_sign 1 := ⟨by decide +kernel, rfl, wt1636, ⟨by decide +kernel, by decide +kernel⟩, by decide +kernel, wt14, by decide +kernel⟩
def mX12_tokens : mD := (RX12, cX12_tokens, 3, (Option.none : Option Jvm.ClassFile.FieldType), yX12_tokens, 0, 0, 0, 0, fun _ => 0)
theorem mkX12_tokens : mOK mX12_tokens 1 := ⟨by decide +kernel, rfl, wt1652, ⟨by decide +kernel, by decide +kernel⟩, by decide +kernel, wt14, by decide +kernel⟩
def mX12_join : mD := (RX12, cX12_join, 3, (Option.some Jvm.ClassFile.FieldType.int), yX12_join, 0, 0, 0, 0, fun _ => 0)
theorem mkX12_join : mOK mX12_join 2 := ⟨by decide +kernel, rfl, wt1794, ⟨by decide +kernel, by decide +kernel⟩, by decide +kernel, wt14, by decide +kernel⟩
def mX12_paths : mD := (RX12, cX12_paths, 6, (Option.none : Option Jvm.ClassFile.FieldType), yX12_paths, 1, 22, 0, 0, fun _ => 0)
theorem mkX12_paths : mOK mX12_paths 2 := ⟨by decide +kernel, rfl, wt1648, ⟨by decide +kernel, by decide +kernel⟩, by decide +kernel, wt14, by decide +kernel⟩
def mX12_ownWorld : mD := (RX12, cX12_ownWorld, 2, (Option.none : Option Jvm.ClassFile.FieldType), yX12_ownWorld, 0, 0, 0, 0, fun _ => 0)
theorem mkX12_ownWorld : mOK mX12_ownWorld 0 := ⟨by decide +kernel, rfl, wt1689, ⟨by decide +kernel, by decide +kernel⟩, by decide +kernel, wt14, by decide +kernel⟩
def mX12_otherWorld : mD := (RX12, cX12_otherWorld, 1, (Option.none : Option Jvm.ClassFile.FieldType), yX12_otherWorld, 0, 0, 0, 0, fun _ => 0)
theorem mkX12_otherWorld : mOK mX12_otherWorld 0 := ⟨by decide +kernel, rfl, wt1572, ⟨by decide +kernel, by decide +kernel⟩, by decide +kernel, wt14, by decide +kernel⟩
def mX12_totals : mD := (RX12, cX12_totals, 6, (Option.none : Option Jvm.ClassFile.FieldType), yX12_totals, 1, 26, 0, 0, fun _ => 0)
theorem mkX12_totals : mOK mX12_totals 1 := ⟨by decide +kernel, rfl, wt1693, ⟨by decide +kernel, by decide +kernel⟩, by decide +kernel, wt14, by decide +kernel⟩
def mX12_forests : mD := (RX12, cX12_forests, 7, (Option.some Jvm.ClassFile.FieldType.long), yX12_forests, 0, 0, 0, 0, fun _ => 0)
theorem mkX12_forests : mOK mX12_forests 3 := ⟨by decide +kernel, rfl, wt1697, ⟨by decide +kernel, by decide +kernel⟩, by decide +kernel, wt14, by decide +kernel⟩
def mX12_firstParts : mD := (RX12, cX12_firstParts, 5, (Option.some Jvm.ClassFile.FieldType.boolean), yX12_firstParts, 2, 44, 0, 0, fun _ => 0)
theorem mkX12_firstParts : mOK mX12_firstParts 3 := ⟨by decide +kernel, rfl, wt1779, ⟨by decide +kernel, by decide +kernel⟩, by decide +kernel, wt14, by decide +kernel⟩
def mX12_hasParts : mD := (RX12, cX12_hasParts, 2, (Option.some Jvm.ClassFile.FieldType.boolean), yX12_hasParts, 0, 0, 0, 0, fun _ => 0)
theorem mkX12_hasParts : mOK mX12_hasParts 0 := ⟨by decide +kernel, rfl, wt1783, ⟨by decide +kernel, by decide +kernel⟩, by decide +kernel, wt14, by decide +kernel⟩
def mX12_nextParts : mD := (RX12, cX12_nextParts, 2, (Option.some Jvm.ClassFile.FieldType.boolean), yX12_nextParts, 2, 44, 0, 0, fun _ => 0)
theorem mkX12_nextParts : mOK mX12_nextParts 0 := ⟨by decide +kernel, rfl, wt1798, ⟨by decide +kernel, by decide +kernel⟩, by decide +kernel, wt14, by decide +kernel⟩
def mX12_nextSizes : mD := (RX12, cX12_nextSizes, 4, (Option.some Jvm.ClassFile.FieldType.boolean), yX12_nextSizes, 1, 21, 0, 0, fun _ => 0)
theorem mkX12_nextSizes : mOK mX12_nextSizes 0 := ⟨by decide +kernel, rfl, wt1787, ⟨by decide +kernel, by decide +kernel⟩, by decide +kernel, wt14, by decide +kernel⟩
def mX12_partCode : mD := (RX12, cX12_partCode, 2, (Option.some Jvm.ClassFile.FieldType.int), yX12_partCode, 0, 0, 0, 0, fun _ => 0)
theorem mkX12_partCode : mOK mX12_partCode 1 := ⟨by decide +kernel, rfl, wt1791, ⟨by decide +kernel, by decide +kernel⟩, by decide +kernel, wt14, by decide +kernel⟩
def mX12_list : mD := (RX12, cX12_list, 9, (Option.none : Option Jvm.ClassFile.FieldType), yX12_list, 3, 73, 0, 0, fun _ => 0)
theorem mkX12_list : mOK mX12_list 2 := ⟨by decide +kernel, rfl, wt1767, ⟨by decide +kernel, by decide +kernel⟩, by decide +kernel, wt14, by decide +kernel⟩
def mX12_putTree : mD := (RX12, cX12_putTree, 7, (Option.none : Option Jvm.ClassFile.FieldType), yX12_putTree, 2, 47, 0, 0, fun _ => 0)
theorem mkX12_putTree : mOK mX12_putTree 3 := ⟨by decide +kernel, rfl, wt1771, ⟨by decide +kernel, by decide +kernel⟩, by decide +kernel, wt14, by decide +kernel⟩
def mX12_isAhead : mD := (RX12, cX12_isAhead, 4, (Option.some Jvm.ClassFile.FieldType.boolean), yX12_isAhead, 0, 0, 0, 0, fun _ => 0)
theorem mkX12_isAhead : mOK mX12_isAhead 2 := ⟨by decide +kernel, rfl, wt1775, ⟨by decide +kernel, by decide +kernel⟩, by decide +kernel, wt14, by decide +kernel⟩
def mX12_place : mD := (RX12, cX12_place, 8, (Option.some Jvm.ClassFile.FieldType.int), yX12_place, 0, 0, 0, 0, fun _ => 0)
theorem mkX12_place : mOK mX12_place 3 := ⟨by decide +kernel, rfl, wt1819, ⟨by decide +kernel, by decide +kernel⟩, by decide +kernel, wt14, by decide +kernel⟩
def mX12_settleInverses : mD := (RX12, cX12_settleInverses, 5, (Option.none : Option Jvm.ClassFile.FieldType), yX12_settleInverses, 0, 0, 0, 0, fun _ => 0)
theorem mkX12_settleInverses : mOK mX12_settleInverses 1 := ⟨by decide +kernel, rfl, wt1763, ⟨by decide +kernel, by decide +kernel⟩, by decide +kernel, wt14, by decide +kernel⟩
def mX12_rowAt : mD := (RX12, cX12_rowAt, 4, (Option.some Jvm.ClassFile.FieldType.int), yX12_rowAt, 0, 0, 0, 0, fun _ => 0)
theorem mkX12_rowAt : mOK mX12_rowAt 3 := ⟨by decide +kernel, rfl, wt1811, ⟨by decide +kernel, by decide +kernel⟩, by decide +kernel, wt14, by decide +kernel⟩
def mX12_clearRow : mD := (RX12, cX12_clearRow, 3, (Option.none : Option Jvm.ClassFile.FieldType), yX12_clearRow, 0, 0, 0, 0, fun _ => 0)
theorem mkX12_clearRow : mOK mX12_clearRow 1 := ⟨by decide +kernel, rfl, wt1815, ⟨by decide +kernel, by decide +kernel⟩, by decide +kernel, wt14, by decide +kernel⟩
def mX12_lessen : mD := (RX12, cX12_lessen, 10, (Option.none : Option Jvm.ClassFile.FieldType), yX12_lessen, 1, 23, 0, 0, fun _ => 0)
theorem mkX12_lessen : mOK mX12_lessen 2 := ⟨by decide +kernel, rfl, wt1827, ⟨by decide +kernel, by decide +kernel⟩, by decide +kernel, wt14, by decide +kernel⟩
def mX12_insert : mD := (RX12, cX12_insert, 13, (Option.none : Option Jvm.ClassFile.FieldType), yX12_insert, 2, 52, 0, 0, fun _ => 0)
theorem mkX12_insert : mOK mX12_insert 2 := ⟨by decide +kernel, rfl, wt1823, ⟨by decide +kernel, by decide +kernel⟩, by decide +kernel, wt14, by decide +kernel⟩
def mX12_settle : mD := (RX12, cX12_settle, 5, (Option.none : Option Jvm.ClassFile.FieldType), yX12_settle, 4, 115, 0, 0, fun _ => 0)
theorem mkX12_settle : mOK mX12_settle 2 := ⟨by decide +kernel, rfl, wt1759, ⟨by decide +kernel, by decide +kernel⟩, by decide +kernel, wt14, by decide +kernel⟩
def mX12_isFull : mD := (RX12, cX12_isFull, 3, (Option.some Jvm.ClassFile.FieldType.boolean), yX12_isFull, 0, 0, 0, 0, fun _ => 0)
theorem mkX12_isFull : mOK mX12_isFull 2 := ⟨by decide +kernel, rfl, wt1807, ⟨by decide +kernel, by decide +kernel⟩, by decide +kernel, wt14, by decide +kernel⟩
def mX12_acted : mD := (RX12, cX12_acted, 12, (Option.none : Option Jvm.ClassFile.FieldType), yX12_acted, 3, 84, 0, 0, fun _ => 0)
theorem mkX12_acted : mOK mX12_acted 2 := ⟨by decide +kernel, rfl, wt1803, ⟨by decide +kernel, by decide +kernel⟩, by decide +kernel, wt14, by decide +kernel⟩
def mX12_lawful : mD := (RX12, cX12_lawful, 8, (Option.none : Option Jvm.ClassFile.FieldType), yX12_lawful, 3, 84, 0, 0, fun _ => 0)
theorem mkX12_lawful : mOK mX12_lawful 2 := ⟨by decide +kernel, rfl, wt1831, ⟨by decide +kernel, by decide +kernel⟩, by decide +kernel, wt14, by decide +kernel⟩
def mX12_filled : mD := (RX12, cX12_filled, 5, (Option.some Jvm.ClassFile.FieldType.int), yX12_filled, 1, 22, 0, 0, fun _ => 0)
theorem mkX12_filled : mOK mX12_filled 1 := ⟨by decide +kernel, rfl, wt1835, ⟨by decide +kernel, by decide +kernel⟩, by decide +kernel, wt14, by decide +kernel⟩
def mX12_isBeyond : mD := (RX12, cX12_isBeyond, 3, (Option.some Jvm.ClassFile.FieldType.boolean), yX12_isBeyond, 5, 139, 0, 0, fun _ => 0)
theorem mkX12_isBeyond : mOK mX12_isBeyond 2 := ⟨by decide +kernel, rfl, wt1754, ⟨by decide +kernel, by decide +kernel⟩, by decide +kernel, wt14, by decide +kernel⟩
def mX12_sizeOf : mD := (RX12, cX12_sizeOf, 3, (Option.some Jvm.ClassFile.FieldType.int), yX12_sizeOf, 0, 0, 0, 0, fun _ => 0)
theorem mkX12_sizeOf : mOK mX12_sizeOf 2 := ⟨by decide +kernel, rfl, wt1847, ⟨by decide +kernel, by decide +kernel⟩, by decide +kernel, wt14, by decide +kernel⟩
def mX12_noSum : mD := (RX12, cX12_noSum, 2, (Option.none : Option Jvm.ClassFile.FieldType), yX12_noSum, 0, 0, 0, 0, fun _ => 0)
theorem mkX12_noSum : mOK mX12_noSum 1 := ⟨by decide +kernel, rfl, wt1628, ⟨by decide +kernel, by decide +kernel⟩, by decide +kernel, wt14, by decide +kernel⟩
def mX12_addTerm : mD := (RX12, cX12_addTerm, 8, (Option.none : Option Jvm.ClassFile.FieldType), yX12_addTerm, 2, 47, 0, 0, fun _ => 0)
theorem mkX12_addTerm : mOK mX12_addTerm 4 := ⟨by decide +kernel, rfl, wt1644, ⟨by decide +kernel, by decide +kernel⟩, by decide +kernel, wt14, by decide +kernel⟩
def mX12_isGreater : mD := (RX12, cX12_isGreater, 3, (Option.some Jvm.ClassFile.FieldType.boolean), yX12_isGreater, 0, 0, 0, 0, fun _ => 0)
theorem mkX12_isGreater : mOK mX12_isGreater 1 := ⟨by decide +kernel, rfl, wt1656, ⟨by decide +kernel, by decide +kernel⟩, by decide +kernel, wt14, by decide +kernel⟩
def mX12_noZeros : mD := (RX12, cX12_noZeros, 3, (Option.none : Option Jvm.ClassFile.FieldType), yX12_noZeros, 0, 0, 0, 0, fun _ => 0)
theorem mkX12_noZeros : mOK mX12_noZeros 0 := ⟨by decide +kernel, rfl, wt1660, ⟨by decide +kernel, by decide +kernel⟩, by decide +kernel, wt14, by decide +kernel⟩
def mX12_isName : mD := (RX12, cX12_isName, 1, (Option.some Jvm.ClassFile.FieldType.boolean), yX12_isName, 0, 0, 0, 0, fun _ => 0)
theorem mkX12_isName : mOK mX12_isName 0 := ⟨by decide +kernel, rfl, wt1611, ⟨by decide +kernel, by decide +kernel⟩, by decide +kernel, wt14, by decide +kernel⟩
def mX12_readTree : mD := (RX12, cX12_readTree, 4, (Option.some Jvm.ClassFile.FieldType.boolean), yX12_readTree, 3, 64, 0, 0, fun _ => 0)
theorem mkX12_readTree : mOK mX12_readTree 0 := ⟨by decide +kernel, rfl, wt1632, ⟨by decide +kernel, by decide +kernel⟩, by decide +kernel, wt14, by decide +kernel⟩
def mX12_badAt : mD := (RX12, cX12_badAt, 3, (Option.some Jvm.ClassFile.FieldType.boolean), yX12_badAt, 0, 0, 0, 0, fun _ => 0)
theorem mkX12_badAt : mOK mX12_badAt 2 := ⟨by decide +kernel, rfl, wt1640, ⟨by decide +kernel, by decide +kernel⟩, by decide +kernel, wt14, by decide +kernel⟩
def mX12_readSum : mD := (RX12, cX12_readSum, 6, (Option.some Jvm.ClassFile.FieldType.boolean), yX12_readSum, 4, 87, 0, 0, fun _ => 0)
theorem mkX12_readSum : mOK mX12_readSum 2 := ⟨by decide +kernel, rfl, wt1620, ⟨by decide +kernel, by decide +kernel⟩, by decide +kernel, wt14, by decide +kernel⟩
def mX12_isPrime : mD := (RX12, cX12_isPrime, 2, (Option.some Jvm.ClassFile.FieldType.boolean), yX12_isPrime, 0, 0, 0, 0, fun _ => 0)
theorem mkX12_isPrime : mOK mX12_isPrime 1 := ⟨by decide +kernel, rfl, wt1602, ⟨by decide +kernel, by decide +kernel⟩, by decide +kernel, wt14, by decide +kernel⟩
def mX12_line : mD := (RX12, cX12_line, 4, (Option.some Jvm.ClassFile.FieldType.boolean), yX12_line, 5, 112, 0, 0, fun _ => 0)
theorem mkX12_line : mOK mX12_line 0 := ⟨by decide +kernel, rfl, wt1590, ⟨by decide +kernel, by decide +kernel⟩, by decide +kernel, wt14, by decide +kernel⟩
def mX12_readAct : mD := (RX12, cX12_readAct, 3, (Option.some Jvm.ClassFile.FieldType.boolean), yX12_readAct, 2, 43, 0, 0, fun _ => 0)
theorem mkX12_readAct : mOK mX12_readAct 0 := ⟨by decide +kernel, rfl, wt1607, ⟨by decide +kernel, by decide +kernel⟩, by decide +kernel, wt14, by decide +kernel⟩
def mX12_world : mD := (RX12, cX12_world, 2, (Option.some Jvm.ClassFile.FieldType.int), yX12_world, 6, 135, 0, 0, fun _ => 0)
theorem mkX12_world : mOK mX12_world 0 := ⟨by decide +kernel, rfl, wt1564, ⟨by decide +kernel, by decide +kernel⟩, by decide +kernel, wt14, by decide +kernel⟩
def mX12_fault : mD := (RX12, cX12_fault, 1, (Option.some Jvm.ClassFile.FieldType.int), yX12_fault, 0, 0, 0, 0, fun _ => 0)
theorem mkX12_fault : mOK mX12_fault 0 := ⟨by decide +kernel, rfl, wt1664, ⟨by decide +kernel, by decide +kernel⟩, by decide +kernel, wt14, by decide +kernel⟩
def mX12_isAct : mD := (RX12, cX12_isAct, 2, (Option.some Jvm.ClassFile.FieldType.boolean), yX12_isAct, 1, 22, 0, 0, fun _ => 0)
theorem mkX12_isAct : mOK mX12_isAct 1 := ⟨by decide +kernel, rfl, wt1672, ⟨by decide +kernel, by decide +kernel⟩, by decide +kernel, wt14, by decide +kernel⟩
def mX12_isLaw : mD := (RX12, cX12_isLaw, 2, (Option.some Jvm.ClassFile.FieldType.boolean), yX12_isLaw, 1, 22, 0, 0, fun _ => 0)
theorem mkX12_isLaw : mOK mX12_isLaw 1 := ⟨by decide +kernel, rfl, wt1680, ⟨by decide +kernel, by decide +kernel⟩, by decide +kernel, wt14, by decide +kernel⟩
def mX12_act : mD := (RX12, cX12_act, 2, (Option.some Jvm.ClassFile.FieldType.int), yX12_act, 2, 43, 0, 0, fun _ => 0)
theorem mkX12_act : mOK mX12_act 1 := ⟨by decide +kernel, rfl, wt1668, ⟨by decide +kernel, by decide +kernel⟩, by decide +kernel, wt14, by decide +kernel⟩
def mX12_law : mD := (RX12, cX12_law, 3, (Option.some Jvm.ClassFile.FieldType.int), yX12_law, 2, 43, 0, 0, fun _ => 0)
theorem mkX12_law : mOK mX12_law 2 := ⟨by decide +kernel, rfl, wt1676, ⟨by decide +kernel, by decide +kernel⟩, by decide +kernel, wt14, by decide +kernel⟩
def mX12_trees : mD := (RX12, cX12_trees, 2, (Option.some Jvm.ClassFile.FieldType.long), yX12_trees, 2, 51, 0, 0, fun _ => 0)
theorem mkX12_trees : mOK mX12_trees 1 := ⟨by decide +kernel, rfl, wt1684, ⟨by decide +kernel, by decide +kernel⟩, by decide +kernel, wt14, by decide +kernel⟩
def mX12_hold : mD := (RX12, cX12_hold, 2, (Option.none : Option Jvm.ClassFile.FieldType), yX12_hold, 0, 0, 0, 0, fun _ => 0)
theorem mkX12_hold : mOK mX12_hold 0 := ⟨by decide +kernel, rfl, wt1717, ⟨by decide +kernel, by decide +kernel⟩, by decide +kernel, wt14, by decide +kernel⟩
def mX12_keepSum : mD := (RX12, cX12_keepSum, 2, (Option.some Jvm.ClassFile.FieldType.int), yX12_keepSum, 1, 21, 0, 0, fun _ => 0)
theorem mkX12_keepSum : mOK mX12_keepSum 0 := ⟨by decide +kernel, rfl, wt1713, ⟨by decide +kernel, by decide +kernel⟩, by decide +kernel, wt14, by decide +kernel⟩
def mX12_undo : mD := (RX12, cX12_undo, 2, (Option.some Jvm.ClassFile.FieldType.int), yX12_undo, 0, 0, 0, 0, fun _ => 0)
theorem mkX12_undo : mOK mX12_undo 0 := ⟨by decide +kernel, rfl, wt1701, ⟨by decide +kernel, by decide +kernel⟩, by decide +kernel, wt14, by decide +kernel⟩
def mX12_addLaw : mD := (RX12, cX12_addLaw, 4, (Option.none : Option Jvm.ClassFile.FieldType), yX12_addLaw, 3, 74, 0, 0, fun _ => 0)
theorem mkX12_addLaw : mOK mX12_addLaw 2 := ⟨by decide +kernel, rfl, wt1709, ⟨by decide +kernel, by decide +kernel⟩, by decide +kernel, wt14, by decide +kernel⟩
def mX12_addHere : mD := (RX12, cX12_addHere, 3, (Option.none : Option Jvm.ClassFile.FieldType), yX12_addHere, 3, 74, 0, 0, fun _ => 0)
theorem mkX12_addHere : mOK mX12_addHere 1 := ⟨by decide +kernel, rfl, wt1891, ⟨by decide +kernel, by decide +kernel⟩, by decide +kernel, wt14, by decide +kernel⟩
def mX12_rest : mD := (RX12, cX12_rest, 2, (Option.some Jvm.ClassFile.FieldType.int), yX12_rest, 0, 0, 0, 0, fun _ => 0)
theorem mkX12_rest : mOK mX12_rest 1 := ⟨by decide +kernel, rfl, wt1887, ⟨by decide +kernel, by decide +kernel⟩, by decide +kernel, wt14, by decide +kernel⟩
def mX12_take : mD := (RX12, cX12_take, 2, (Option.some Jvm.ClassFile.FieldType.int), yX12_take, 4, 97, 0, 0, fun _ => 0)
theorem mkX12_take : mOK mX12_take 1 := ⟨by decide +kernel, rfl, wt1705, ⟨by decide +kernel, by decide +kernel⟩, by decide +kernel, wt14, by decide +kernel⟩
def mX12_readOwn : mD := (RX12, cX12_readOwn, 1, (Option.some Jvm.ClassFile.FieldType.boolean), yX12_readOwn, 5, 112, 0, 0, fun _ => 0)
theorem mkX12_readOwn : mOK mX12_readOwn 0 := ⟨by decide +kernel, rfl, wt1725, ⟨by decide +kernel, by decide +kernel⟩, by decide +kernel, wt14, by decide +kernel⟩
def mX12_sum : mD := (RX12, cX12_sum, 1, (Option.some Jvm.ClassFile.FieldType.int), yX12_sum, 6, 132, 0, 0, fun _ => 0)
theorem mkX12_sum : mOK mX12_sum 0 := ⟨by decide +kernel, rfl, wt1721, ⟨by decide +kernel, by decide +kernel⟩, by decide +kernel, wt14, by decide +kernel⟩
def mX12_leaves : mD := (RX12, cX12_leaves, 1, (Option.some Jvm.ClassFile.FieldType.int), yX12_leaves, 0, 0, 0, 0, fun _ => 0)
theorem mkX12_leaves : mOK mX12_leaves 0 := ⟨by decide +kernel, rfl, wt1729, ⟨by decide +kernel, by decide +kernel⟩, by decide +kernel, wt14, by decide +kernel⟩
def mX12_term : mD := (RX12, cX12_term, 2, (Option.some Jvm.ClassFile.FieldType.int), yX12_term, 1, 22, 0, 0, fun _ => 0)
theorem mkX12_term : mOK mX12_term 1 := ⟨by decide +kernel, rfl, wt1733, ⟨by decide +kernel, by decide +kernel⟩, by decide +kernel, wt14, by decide +kernel⟩
def mX12_write : mD := (RX12, cX12_write, 8, (Option.some Jvm.ClassFile.FieldType.int), yX12_write, 1, 22, 0, 0, fun _ => 0)
theorem mkX12_write : mOK mX12_write 1 := ⟨by decide +kernel, rfl, wt1745, ⟨by decide +kernel, by decide +kernel⟩, by decide +kernel, wt14, by decide +kernel⟩
def mX12_termAt : mD := (RX12, cX12_termAt, 4, (Option.some Jvm.ClassFile.FieldType.int), yX12_termAt, 2, 49, 0, 0, fun _ => 0)
theorem mkX12_termAt : mOK mX12_termAt 2 := ⟨by decide +kernel, rfl, wt1741, ⟨by decide +kernel, by decide +kernel⟩, by decide +kernel, wt14, by decide +kernel⟩
def mX12_rowSum : mD := (RX12, cX12_rowSum, 3, (Option.none : Option Jvm.ClassFile.FieldType), yX12_rowSum, 3, 74, 0, 0, fun _ => 0)
theorem mkX12_rowSum : mOK mX12_rowSum 1 := ⟨by decide +kernel, rfl, wt1839, ⟨by decide +kernel, by decide +kernel⟩, by decide +kernel, wt14, by decide +kernel⟩
def mX12_reduce : mD := (RX12, cX12_reduce, 3, (Option.some Jvm.ClassFile.FieldType.int), yX12_reduce, 6, 161, 0, 0, fun _ => 0)
theorem mkX12_reduce : mOK mX12_reduce 0 := ⟨by decide +kernel, rfl, wt1750, ⟨by decide +kernel, by decide +kernel⟩, by decide +kernel, wt14, by decide +kernel⟩
def mX12_size : mD := (RX12, cX12_size, 2, (Option.some Jvm.ClassFile.FieldType.int), yX12_size, 6, 161, 0, 0, fun _ => 0)
theorem mkX12_size : mOK mX12_size 1 := ⟨by decide +kernel, rfl, wt1843, ⟨by decide +kernel, by decide +kernel⟩, by decide +kernel, wt14, by decide +kernel⟩
def mX12_normalAt : mD := (RX12, cX12_normalAt, 7, (Option.some Jvm.ClassFile.FieldType.int), yX12_normalAt, 6, 161, 0, 0, fun _ => 0)
theorem mkX12_normalAt : mOK mX12_normalAt 3 := ⟨by decide +kernel, rfl, wt1851, ⟨by decide +kernel, by decide +kernel⟩, by decide +kernel, wt14, by decide +kernel⟩
def mX12_endOf : mD := (RX12, cX12_endOf, 4, (Option.some Jvm.ClassFile.FieldType.int), yX12_endOf, 0, 0, 0, 0, fun _ => 0)
theorem mkX12_endOf : mOK mX12_endOf 1 := ⟨by decide +kernel, rfl, wt1867, ⟨by decide +kernel, by decide +kernel⟩, by decide +kernel, wt14, by decide +kernel⟩
def mX12_hasPiece : mD := (RX12, cX12_hasPiece, 7, (Option.some Jvm.ClassFile.FieldType.boolean), yX12_hasPiece, 1, 23, 0, 0, fun _ => 0)
theorem mkX12_hasPiece : mOK mX12_hasPiece 1 := ⟨by decide +kernel, rfl, wt1863, ⟨by decide +kernel, by decide +kernel⟩, by decide +kernel, wt14, by decide +kernel⟩
def mX12_bareOf : mD := (RX12, cX12_bareOf, 6, (Option.some Jvm.ClassFile.FieldType.int), yX12_bareOf, 2, 49, 0, 0, fun _ => 0)
theorem mkX12_bareOf : mOK mX12_bareOf 1 := ⟨by decide +kernel, rfl, wt1859, ⟨by decide +kernel, by decide +kernel⟩, by decide +kernel, wt14, by decide +kernel⟩
def mX12_bare : mD := (RX12, cX12_bare, 2, (Option.some Jvm.ClassFile.FieldType.int), yX12_bare, 6, 161, 0, 0, fun _ => 0)
theorem mkX12_bare : mOK mX12_bare 1 := ⟨by decide +kernel, rfl, wt1855, ⟨by decide +kernel, by decide +kernel⟩, by decide +kernel, wt14, by decide +kernel⟩
def mX12_closed : mD := (RX12, cX12_closed, 3, (Option.some Jvm.ClassFile.FieldType.int), yX12_closed, 6, 161, 0, 0, fun _ => 0)
theorem mkX12_closed : mOK mX12_closed 1 := ⟨by decide +kernel, rfl, wt1871, ⟨by decide +kernel, by decide +kernel⟩, by decide +kernel, wt14, by decide +kernel⟩
def mX12_plugged : mD := (RX12, cX12_plugged, 8, (Option.some Jvm.ClassFile.FieldType.int), yX12_plugged, 1, 22, 0, 0, fun _ => 0)
theorem mkX12_plugged : mOK mX12_plugged 3 := ⟨by decide +kernel, rfl, wt1879, ⟨by decide +kernel, by decide +kernel⟩, by decide +kernel, wt14, by decide +kernel⟩
def mX12_plug : mD := (RX12, cX12_plug, 5, (Option.some Jvm.ClassFile.FieldType.int), yX12_plug, 6, 132, 0, 0, fun _ => 0)
theorem mkX12_plug : mOK mX12_plug 1 := ⟨by decide +kernel, rfl, wt1875, ⟨by decide +kernel, by decide +kernel⟩, by decide +kernel, wt14, by decide +kernel⟩
def mX12_times : mD := (RX12, cX12_times, 2, (Option.some Jvm.ClassFile.FieldType.int), yX12_times, 4, 96, 0, 0, fun _ => 0)
theorem mkX12_times : mOK mX12_times 1 := ⟨by decide +kernel, rfl, wt1883, ⟨by decide +kernel, by decide +kernel⟩, by decide +kernel, wt14, by decide +kernel⟩
def mX12_add : mD := (RX12, cX12_add, 3, (Option.some Jvm.ClassFile.FieldType.int), yX12_add, 4, 97, 0, 0, fun _ => 0)
theorem mkX12_add : mOK mX12_add 2 := ⟨by decide +kernel, rfl, wt1895, ⟨by decide +kernel, by decide +kernel⟩, by decide +kernel, wt14, by decide +kernel⟩
def mX12_hasDual : mD := (RX12, cX12_hasDual, 2, (Option.some Jvm.ClassFile.FieldType.boolean), yX12_hasDual, 0, 0, 0, 0, fun _ => 0)
theorem mkX12_hasDual : mOK mX12_hasDual 0 := ⟨by decide +kernel, rfl, wt1903, ⟨by decide +kernel, by decide +kernel⟩, by decide +kernel, wt14, by decide +kernel⟩
def mX12_makeDual : mD := (RX12, cX12_makeDual, 8, (Option.none : Option Jvm.ClassFile.FieldType), yX12_makeDual, 5, 139, 0, 0, fun _ => 0)
theorem mkX12_makeDual : mOK mX12_makeDual 0 := ⟨by decide +kernel, rfl, wt1907, ⟨by decide +kernel, by decide +kernel⟩, by decide +kernel, wt14, by decide +kernel⟩
def mX12_equations : mD := (RX12, cX12_equations, 11, (Option.none : Option Jvm.ClassFile.FieldType), yX12_equations, 1, 27, 0, 0, fun _ => 0)
theorem mkX12_equations : mOK mX12_equations 2 := ⟨by decide +kernel, rfl, wt1911, ⟨by decide +kernel, by decide +kernel⟩, by decide +kernel, wt14, by decide +kernel⟩
def mX12_dual : mD := (RX12, cX12_dual, 2, (Option.some Jvm.ClassFile.FieldType.int), yX12_dual, 6, 166, 0, 0, fun _ => 0)
theorem mkX12_dual : mOK mX12_dual 0 := ⟨by decide +kernel, rfl, wt1899, ⟨by decide +kernel, by decide +kernel⟩, by decide +kernel, wt14, by decide +kernel⟩
def mX12_series : mD := (RX12, cX12_series, 4, (Option.some Jvm.ClassFile.FieldType.boolean), yX12_series, 6, 161, 0, 0, fun _ => 0)
theorem mkX12_series : mOK mX12_series 2 := ⟨by decide +kernel, rfl, wt1919, ⟨by decide +kernel, by decide +kernel⟩, by decide +kernel, wt14, by decide +kernel⟩
def mX12_powers : mD := (RX12, cX12_powers, 8, (Option.none : Option Jvm.ClassFile.FieldType), yX12_powers, 0, 0, 0, 0, fun _ => 0)
theorem mkX12_powers : mOK mX12_powers 2 := ⟨by decide +kernel, rfl, wt1927, ⟨by decide +kernel, by decide +kernel⟩, by decide +kernel, wt14, by decide +kernel⟩
def mX12_back : mD := (RX12, cX12_back, 4, (Option.none : Option Jvm.ClassFile.FieldType), yX12_back, 1, 27, 0, 0, fun _ => 0)
theorem mkX12_back : mOK mX12_back 1 := ⟨by decide +kernel, rfl, wt1923, ⟨by decide +kernel, by decide +kernel⟩, by decide +kernel, wt14, by decide +kernel⟩
def mX12_undone : mD := (RX12, cX12_undone, 2, (Option.some Jvm.ClassFile.FieldType.long), yX12_undone, 7, 184, 0, 0, fun _ => 0)
theorem mkX12_undone : mOK mX12_undone 1 := ⟨by decide +kernel, rfl, wt1915, ⟨by decide +kernel, by decide +kernel⟩, by decide +kernel, wt14, by decide +kernel⟩
def mX12_koszul : mD := (RX12, cX12_koszul, 3, (Option.some Jvm.ClassFile.FieldType.int), yX12_koszul, 7, 184, 0, 0, fun _ => 0)
theorem mkX12_koszul : mOK mX12_koszul 1 := ⟨by decide +kernel, rfl, wt1931, ⟨by decide +kernel, by decide +kernel⟩, by decide +kernel, wt14, by decide +kernel⟩
def mX12_isKeptAt : mD := (RX12, cX12_isKeptAt, 2, (Option.some Jvm.ClassFile.FieldType.boolean), yX12_isKeptAt, 1, 22, 0, 0, fun _ => 0)
theorem mkX12_isKeptAt : mOK mX12_isKeptAt 1 := ⟨by decide +kernel, rfl, wt1939, ⟨by decide +kernel, by decide +kernel⟩, by decide +kernel, wt14, by decide +kernel⟩
def mX12_loads : mD := (RX12, cX12_loads, 3, (Option.none : Option Jvm.ClassFile.FieldType), yX12_loads, 1, 20, 0, 0, fun _ => 0)
theorem mkX12_loads : mOK mX12_loads 1 := ⟨by decide +kernel, rfl, wt1943, ⟨by decide +kernel, by decide +kernel⟩, by decide +kernel, wt14, by decide +kernel⟩
def mX12_layered : mD := (RX12, cX12_layered, 6, (Option.some Jvm.ClassFile.FieldType.long), yX12_layered, 7, 184, 0, 0, fun _ => 0)
theorem mkX12_layered : mOK mX12_layered 2 := ⟨by decide +kernel, rfl, wt1935, ⟨by decide +kernel, by decide +kernel⟩, by decide +kernel, wt14, by decide +kernel⟩
def mX12_readMap : mD := (RX12, cX12_readMap, 4, (Option.some Jvm.ClassFile.FieldType.boolean), yX12_readMap, 5, 112, 0, 0, fun _ => 0)
theorem mkX12_readMap : mOK mX12_readMap 0 := ⟨by decide +kernel, rfl, wt1951, ⟨by decide +kernel, by decide +kernel⟩, by decide +kernel, wt14, by decide +kernel⟩
def mX12_isGreatThere : mD := (RX12, cX12_isGreatThere, 7, (Option.some Jvm.ClassFile.FieldType.boolean), yX12_isGreatThere, 1, 23, 0, 0, fun _ => 0)
theorem mkX12_isGreatThere : mOK mX12_isGreatThere 1 := ⟨by decide +kernel, rfl, wt1955, ⟨by decide +kernel, by decide +kernel⟩, by decide +kernel, wt14, by decide +kernel⟩
def mX12_graft : mD := (RX12, cX12_graft, 10, (Option.none : Option Jvm.ClassFile.FieldType), yX12_graft, 1, 27, 0, 0, fun _ => 0)
theorem mkX12_graft : mOK mX12_graft 1 := ⟨by decide +kernel, rfl, wt1967, ⟨by decide +kernel, by decide +kernel⟩, by decide +kernel, wt14, by decide +kernel⟩
def mX12_actMapped : mD := (RX12, cX12_actMapped, 10, (Option.none : Option Jvm.ClassFile.FieldType), yX12_actMapped, 2, 56, 0, 0, fun _ => 0)
theorem mkX12_actMapped : mOK mX12_actMapped 1 := ⟨by decide +kernel, rfl, wt1963, ⟨by decide +kernel, by decide +kernel⟩, by decide +kernel, wt14, by decide +kernel⟩
def mX12_keeps : mD := (RX12, cX12_keeps, 8, (Option.some Jvm.ClassFile.FieldType.boolean), yX12_keeps, 3, 85, 0, 0, fun _ => 0)
theorem mkX12_keeps : mOK mX12_keeps 1 := ⟨by decide +kernel, rfl, wt1959, ⟨by decide +kernel, by decide +kernel⟩, by decide +kernel, wt14, by decide +kernel⟩
def mX12_map : mD := (RX12, cX12_map, 5, (Option.some Jvm.ClassFile.FieldType.int), yX12_map, 6, 139, 0, 0, fun _ => 0)
theorem mkX12_map : mOK mX12_map 1 := ⟨by decide +kernel, rfl, wt1947, ⟨by decide +kernel, by decide +kernel⟩, by decide +kernel, wt14, by decide +kernel⟩
def mX12_broken : mD := (RX12, cX12_broken, 1, (Option.some Jvm.ClassFile.FieldType.int), yX12_broken, 0, 0, 0, 0, fun _ => 0)
theorem mkX12_broken : mOK mX12_broken 0 := ⟨by decide +kernel, rfl, wt1971, ⟨by decide +kernel, by decide +kernel⟩, by decide +kernel, wt14, by decide +kernel⟩
def mX12_table0 : mD := (RX12, cX12_table0, 4, (Option.some Jvm.ClassFile.FieldType.int), yX12_table0, 0, 0, 0, 0, fun _ => 0)
theorem mkX12_table0 : mOK mX12_table0 1 := ⟨by decide +kernel, rfl, wt1983, ⟨by decide +kernel, by decide +kernel⟩, by decide +kernel, wt14, by decide +kernel⟩
def mX12_space : mD := (RX12, cX12_space, 3, (Option.some Jvm.ClassFile.FieldType.boolean), yX12_space, 1, 22, 0, 0, fun _ => 0)
theorem mkX12_space : mOK mX12_space 1 := ⟨by decide +kernel, rfl, wt1975, ⟨by decide +kernel, by decide +kernel⟩, by decide +kernel, wt14, by decide +kernel⟩
def mX12_table : mD := (RX12, cX12_table, 3, (Option.some Jvm.ClassFile.FieldType.boolean), yX12_table, 2, 43, 0, 0, fun _ => 0)
theorem mkX12_table : mOK mX12_table 1 := ⟨by decide +kernel, rfl, wt1979, ⟨by decide +kernel, by decide +kernel⟩, by decide +kernel, wt14, by decide +kernel⟩
def mX12_doTree : mD := (RX12, cX12_doTree, 14, (Option.none : Option Jvm.ClassFile.FieldType), yX12_doTree, 1, 23, 0, 0, fun _ => 0)
theorem mkX12_doTree : mOK mX12_doTree 2 := ⟨by decide +kernel, rfl, wt1995, ⟨by decide +kernel, by decide +kernel⟩, by decide +kernel, wt14, by decide +kernel⟩
def mX12_holds : mD := (RX12, cX12_holds, 7, (Option.some Jvm.ClassFile.FieldType.int), yX12_holds, 2, 56, 0, 0, fun _ => 0)
theorem mkX12_holds : mOK mX12_holds 1 := ⟨by decide +kernel, rfl, wt1991, ⟨by decide +kernel, by decide +kernel⟩, by decide +kernel, wt14, by decide +kernel⟩
def mX12_done : mD := (RX12, cX12_done, 3, (Option.some Jvm.ClassFile.FieldType.int), yX12_done, 2, 56, 0, 0, fun _ => 0)
theorem mkX12_done : mOK mX12_done 1 := ⟨by decide +kernel, rfl, wt1999, ⟨by decide +kernel, by decide +kernel⟩, by decide +kernel, wt14, by decide +kernel⟩
def mX12_draw : mD := (RX12, cX12_draw, 2, (Option.some Jvm.ClassFile.FieldType.int), yX12_draw, 0, 0, 0, 0, fun _ => 0)
theorem mkX12_draw : mOK mX12_draw 1 := ⟨by decide +kernel, rfl, wt2007, ⟨by decide +kernel, by decide +kernel⟩, by decide +kernel, wt14, by decide +kernel⟩
def mX12_drawn : mD := (RX12, cX12_drawn, 4, (Option.some Jvm.ClassFile.FieldType.int), yX12_drawn, 6, 161, 0, 0, fun _ => 0)
theorem mkX12_drawn : mOK mX12_drawn 2 := ⟨by decide +kernel, rfl, wt2003, ⟨by decide +kernel, by decide +kernel⟩, by decide +kernel, wt14, by decide +kernel⟩
def mX12_image : mD := (RX12, cX12_image, 3, (Option.some Jvm.ClassFile.FieldType.boolean), yX12_image, 1, 22, 0, 0, fun _ => 0)
theorem mkX12_image : mOK mX12_image 1 := ⟨by decide +kernel, rfl, wt2012, ⟨by decide +kernel, by decide +kernel⟩, by decide +kernel, wt14, by decide +kernel⟩
def mX12_restore : mD := (RX12, cX12_restore, 3, (Option.some Jvm.ClassFile.FieldType.boolean), yX12_restore, 1, 22, 0, 0, fun _ => 0)
theorem mkX12_restore : mOK mX12_restore 1 := ⟨by decide +kernel, rfl, wt2016, ⟨by decide +kernel, by decide +kernel⟩, by decide +kernel, wt14, by decide +kernel⟩
def mX12_count : mD := (RX12, cX12_count, 2, (Option.some Jvm.ClassFile.FieldType.int), yX12_count, 0, 0, 0, 0, fun _ => 0)
theorem mkX12_count : mOK mX12_count 1 := ⟨by decide +kernel, rfl, wt2020, ⟨by decide +kernel, by decide +kernel⟩, by decide +kernel, wt14, by decide +kernel⟩
def mJ9_max_7cf53 : mD := (RJ9, cJ9_max_7cf53, 2, (Option.some Jvm.ClassFile.FieldType.int), yJ9_max_7cf53, 0, 0, 0, 0, fun _ => 0)
def mJ9_min_7cf53 : mD := (RJ9, cJ9_min_7cf53, 2, (Option.some Jvm.ClassFile.FieldType.int), yJ9_min_7cf53, 0, 0, 0, 0, fun _ => 0)
def mJ7_rangeCheck_23922 : mD := (RJ7, cJ7_rangeCheck_23922, 3, (Option.none : Option Jvm.ClassFile.FieldType), yJ7_rangeCheck_23922, 0, 0, 0, 0, fun _ => 0)
theorem mkJ7_rangeCheck_23922 : mOK mJ7_rangeCheck_23922 3 := ⟨by decide +kernel, rfl, wt827, ⟨by decide +kernel, by decide +kernel⟩, by decide +kernel, wt13, by decide +kernel⟩
def mJ7_fill_53178 : mD := (RJ7, cJ7_fill_53178, 4, (Option.none : Option Jvm.ClassFile.FieldType), yJ7_fill_53178, 0, 0, 0, 0, fun _ => 0)
theorem mkJ7_fill_53178 : mOK mJ7_fill_53178 2 := ⟨by decide +kernel, rfl, wt373, ⟨by decide +kernel, by decide +kernel⟩, by decide +kernel, wt13, by decide +kernel⟩
def mJ7_fill_fda19 : mD := (RJ7, cJ7_fill_fda19, 5, (Option.none : Option Jvm.ClassFile.FieldType), yJ7_fill_fda19, 1, 22, 0, 0, fun _ => 0)
theorem mkJ7_fill_fda19 : mOK mJ7_fill_fda19 4 := ⟨by decide +kernel, rfl, wt824, ⟨by decide +kernel, by decide +kernel⟩, by decide +kernel, wt13, by decide +kernel⟩
def mJ7_copyOf_59c91 : mD := (RJ7, cJ7_copyOf_59c91, 3, (Option.some (Jvm.ClassFile.FieldType.array Jvm.ClassFile.FieldType.int)), yJ7_copyOf_59c91, 1, 40, 1, 0, fun _ => 0)
theorem mkJ7_copyOf_59c91 : mOK mJ7_copyOf_59c91 2 := ⟨by decide +kernel, rfl, wt630, ⟨by decide +kernel, by decide +kernel⟩, by decide +kernel, wt13, by decide +kernel⟩
