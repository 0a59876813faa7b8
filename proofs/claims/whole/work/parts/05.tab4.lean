def px_chk (b : ByteArray) (a : Nat → Option Instr) (n : Nat) : Bool := (List.range n).all (fun pc => match a pc with | none => true | some i => decide (decode b pc = .ok (i, px_sz pc i)))
def px_mtP (q : px_Me) : Prop := px_on q.1 = q.2.1.cls ∧ plainFor q.2.1 = true ∧ px_chk q.2.2.1 q.2.2.2.2.2.2 q.2.2.2.2.2.1 = true
theorem px_k_Circles_init : px_chk prog_2_method_1_code px_a_Circles_init 76 = true := by decide +kernel
theorem px_k_Circles_find : px_chk prog_2_method_5_code px_a_Circles_find 19 = true := by decide +kernel
theorem px_k_Circles_listDefined : px_chk prog_2_method_6_code px_a_Circles_listDefined 65 = true := by decide +kernel
theorem px_k_Circles_gatherReads : px_chk prog_2_method_7_code px_a_Circles_gatherReads 64 = true := by decide +kernel
theorem px_k_Circles_followOn : px_chk prog_2_method_8_code px_a_Circles_followOn 78 = true := by decide +kernel
theorem px_k_Circles_group : px_chk prog_2_method_9_code px_a_Circles_group 77 = true := by decide +kernel
theorem px_k_Circles_findLeast : px_chk prog_2_method_10_code px_a_Circles_findLeast 78 = true := by decide +kernel
theorem px_k_Circles_leastOf : px_chk prog_2_method_2_code px_a_Circles_leastOf 22 = true := by decide +kernel
theorem px_k_Circles_circleCount : px_chk prog_2_method_3_code px_a_Circles_circleCount 5 = true := by decide +kernel
theorem px_k_Circles_selfCount : px_chk prog_2_method_4_code px_a_Circles_selfCount 5 = true := by decide +kernel
theorem px_k_Expression_init : px_chk prog_3_method_1_code px_a_Expression_init 66 = true := by decide +kernel
theorem px_k_Expression_add : px_chk prog_3_method_2_code px_a_Expression_add 72 = true := by decide +kernel
theorem px_k_Expression_workOut : px_chk prog_3_method_3_code px_a_Expression_workOut 48 = true := by decide +kernel
theorem px_k_Expression_valueOf : px_chk prog_3_method_5_code px_a_Expression_valueOf 140 = true := by decide +kernel
theorem px_k_Expression_valueAt : px_chk prog_3_method_4_code px_a_Expression_valueAt 24 = true := by decide +kernel
theorem px_k_Expression_findFaults : px_chk prog_3_method_6_code px_a_Expression_findFaults 52 = true := by decide +kernel
theorem px_k_Expression_faultOf : px_chk prog_3_method_7_code px_a_Expression_faultOf 115 = true := by decide +kernel
theorem px_k_Faults_init : px_chk prog_4_method_1_code px_a_Faults_init 27 = true := by decide +kernel
theorem px_k_Faults_clear : px_chk prog_4_method_2_code px_a_Faults_clear 30 = true := by decide +kernel
theorem px_k_Faults_add : px_chk prog_4_method_3_code px_a_Faults_add 40 = true := by decide +kernel
theorem px_k_Faults_size : px_chk prog_4_method_4_code px_a_Faults_size 5 = true := by decide +kernel
theorem px_k_Faults_placeOf : px_chk prog_4_method_5_code px_a_Faults_placeOf 39 = true := by decide +kernel
theorem px_k_Faults_codeOf : px_chk prog_4_method_6_code px_a_Faults_codeOf 30 = true := by decide +kernel
theorem px_k_History_init : px_chk prog_6_method_1_code px_a_History_init 27 = true := by decide +kernel
theorem px_k_History_keep : px_chk prog_6_method_3_code px_a_History_keep 44 = true := by decide +kernel
theorem px_k_History_loseOldest : px_chk prog_6_method_4_code px_a_History_loseOldest 49 = true := by decide +kernel
theorem px_k_History_forget : px_chk prog_6_method_8_code px_a_History_forget 27 = true := by decide +kernel
theorem px_k_History_size : px_chk prog_6_method_2_code px_a_History_size 5 = true := by decide +kernel
theorem px_k_History_lastPlace : px_chk prog_6_method_5_code px_a_History_lastPlace 23 = true := by decide +kernel
theorem px_k_History_lastLine : px_chk prog_6_method_6_code px_a_History_lastLine 23 = true := by decide +kernel
theorem px_k_History_removeLast : px_chk prog_6_method_7_code px_a_History_removeLast 28 = true := by decide +kernel
theorem px_k_Line_init0 : px_chk prog_7_method_1_code px_a_Line_init0 54 = true := by decide +kernel
theorem px_k_Line_init1 : px_chk prog_7_method_2_code px_a_Line_init1 59 = true := by decide +kernel
theorem px_k_Line_defined : px_chk prog_7_method_3_code px_a_Line_defined 5 = true := by decide +kernel
theorem px_k_Line_reads : px_chk prog_7_method_4_code px_a_Line_reads 12 = true := by decide +kernel
theorem px_k_Line_says : px_chk prog_7_method_7_code px_a_Line_says 20 = true := by decide +kernel
theorem px_k_Line_workOut : px_chk prog_7_method_8_code px_a_Line_workOut 13 = true := by decide +kernel
theorem px_k_Line_findFaults : px_chk prog_7_method_9_code px_a_Line_findFaults 60 = true := by decide +kernel
theorem px_k_Line_isMismatch : px_chk prog_7_method_10_code px_a_Line_isMismatch 43 = true := by decide +kernel
theorem px_k_Line_symbolsRead : px_chk prog_7_method_5_code px_a_Line_symbolsRead 8 = true := by decide +kernel
theorem px_k_Line_tellAbout : px_chk prog_7_method_11_code px_a_Line_tellAbout 99 = true := by decide +kernel
theorem px_k_Line_faults : px_chk prog_7_method_6_code px_a_Line_faults 5 = true := by decide +kernel
theorem px_k_Parser_init : px_chk prog_8_method_1_code px_a_Parser_init 64 = true := by decide +kernel
theorem px_k_Parser_read : px_chk prog_8_method_2_code px_a_Parser_read 80 = true := by decide +kernel
theorem px_k_Parser_readHead : px_chk prog_8_method_6_code px_a_Parser_readHead 75 = true := by decide +kernel
theorem px_k_Parser_next : px_chk prog_8_method_3_code px_a_Parser_next 63 = true := by decide +kernel
theorem px_k_Parser_isName : px_chk prog_8_method_5_code px_a_Parser_isName 18 = true := by decide +kernel
theorem px_k_Parser_take : px_chk prog_8_method_4_code px_a_Parser_take 22 = true := by decide +kernel
theorem px_k_Parser_readTypeWord : px_chk prog_8_method_7_code px_a_Parser_readTypeWord 105 = true := by decide +kernel
theorem px_k_Parser_readSum : px_chk prog_8_method_8_code px_a_Parser_readSum 84 = true := by decide +kernel
theorem px_k_Parser_readOr : px_chk prog_8_method_9_code px_a_Parser_readOr 84 = true := by decide +kernel
theorem px_k_Parser_readPart : px_chk prog_8_method_10_code px_a_Parser_readPart 43 = true := by decide +kernel
theorem px_k_Parser_readAtom : px_chk prog_8_method_13_code px_a_Parser_readAtom 208 = true := by decide +kernel
theorem px_k_Parser_readName : px_chk prog_8_method_14_code px_a_Parser_readName 60 = true := by decide +kernel
theorem px_k_Parser_isEnding : px_chk prog_8_method_11_code px_a_Parser_isEnding 24 = true := by decide +kernel
theorem px_k_Parser_readEnding : px_chk prog_8_method_12_code px_a_Parser_readEnding 118 = true := by decide +kernel
theorem px_k_SymbolSet_init : px_chk prog_9_method_1_code px_a_SymbolSet_init 12 = true := by decide +kernel
theorem px_k_SymbolSet_add : px_chk prog_9_method_2_code px_a_SymbolSet_add 30 = true := by decide +kernel
theorem px_k_SymbolSet_clear : px_chk prog_9_method_5_code px_a_SymbolSet_clear 21 = true := by decide +kernel
theorem px_k_SymbolSet_has : px_chk prog_9_method_3_code px_a_SymbolSet_has 38 = true := by decide +kernel
theorem px_k_SymbolSet_addAll : px_chk prog_9_method_4_code px_a_SymbolSet_addAll 29 = true := by decide +kernel
theorem px_k_SymbolSet_size : px_chk prog_9_method_6_code px_a_SymbolSet_size 29 = true := by decide +kernel
theorem px_k_Symbols_init : px_chk prog_10_method_1_code px_a_Symbols_init 46 = true := by decide +kernel
theorem px_k_Symbols_addDefiners : px_chk prog_10_method_5_code px_a_Symbols_addDefiners 18 = true := by decide +kernel
theorem px_k_Symbols_isSymbol : px_chk prog_10_method_2_code px_a_Symbols_isSymbol 17 = true := by decide +kernel
theorem px_k_Symbols_restart : px_chk prog_10_method_6_code px_a_Symbols_restart 29 = true := by decide +kernel
theorem px_k_Symbols_grow : px_chk prog_10_method_7_code px_a_Symbols_grow 34 = true := by decide +kernel
theorem px_k_Symbols_typeOf : px_chk prog_10_method_3_code px_a_Symbols_typeOf 19 = true := by decide +kernel
theorem px_k_Symbols_definersOf : px_chk prog_10_method_4_code px_a_Symbols_definersOf 18 = true := by decide +kernel
theorem px_k_Symbols_definedCount : px_chk prog_10_method_8_code px_a_Symbols_definedCount 31 = true := by decide +kernel
theorem px_k_Workspace_init : px_chk prog_11_method_1_code px_a_Workspace_init 82 = true := by decide +kernel
theorem px_k_Workspace_lineAt : px_chk prog_11_method_2_code px_a_Workspace_lineAt 21 = true := by decide +kernel
theorem px_k_Workspace_edit : px_chk prog_11_method_3_code px_a_Workspace_edit 98 = true := by decide +kernel
theorem px_k_Workspace_startLooking : px_chk prog_11_method_4_code px_a_Workspace_startLooking 34 = true := by decide +kernel
theorem px_k_Workspace_leave : px_chk prog_11_method_5_code px_a_Workspace_leave 25 = true := by decide +kernel
theorem px_k_Workspace_touch : px_chk prog_11_method_7_code px_a_Workspace_touch 55 = true := by decide +kernel
theorem px_k_Workspace_enter : px_chk prog_11_method_6_code px_a_Workspace_enter 25 = true := by decide +kernel
theorem px_k_Workspace_lookOn : px_chk prog_11_method_8_code px_a_Workspace_lookOn 96 = true := by decide +kernel
theorem px_k_Workspace_restartTypes : px_chk prog_11_method_9_code px_a_Workspace_restartTypes 113 = true := by decide +kernel
theorem px_k_Workspace_workOutWaiting : px_chk prog_11_method_10_code px_a_Workspace_workOutWaiting 81 = true := by decide +kernel
theorem px_k_Workspace_wakeReaders : px_chk prog_11_method_11_code px_a_Workspace_wakeReaders 41 = true := by decide +kernel
theorem px_k_Workspace_findFaults : px_chk prog_11_method_12_code px_a_Workspace_findFaults 43 = true := by decide +kernel
theorem px_k_Workspace_tellSymbol : px_chk prog_11_method_13_code px_a_Workspace_tellSymbol 78 = true := by decide +kernel
theorem px_k_Workspace_readersOf : px_chk prog_11_method_14_code px_a_Workspace_readersOf 43 = true := by decide +kernel
theorem px_k_Workspace_freshCircles : px_chk prog_11_method_15_code px_a_Workspace_freshCircles 32 = true := by decide +kernel
theorem px_k_Workspace_tellFault : px_chk prog_11_method_16_code px_a_Workspace_tellFault 68 = true := by decide +kernel
theorem px_k_Workspace_tellFaultAt : px_chk prog_11_method_17_code px_a_Workspace_tellFaultAt 50 = true := by decide +kernel
theorem px_k_Workspace_howMany : px_chk prog_11_method_18_code px_a_Workspace_howMany 66 = true := by decide +kernel
theorem px_k_Workspace_faultCount : px_chk prog_11_method_19_code px_a_Workspace_faultCount 39 = true := by decide +kernel
theorem px_k_Workspace_lineCount : px_chk prog_11_method_20_code px_a_Workspace_lineCount 30 = true := by decide +kernel
theorem px_k_Daemon_init : px_chk prog_1_method_1_code px_a_Daemon_init 40 = true := by decide +kernel
theorem px_k_Daemon_erase : px_chk prog_1_method_3_code px_a_Daemon_erase 12 = true := by decide +kernel
theorem px_k_Daemon_type : px_chk prog_1_method_2_code px_a_Daemon_type 82 = true := by decide +kernel
theorem px_k_Daemon_charactersIn : px_chk prog_1_method_12_code px_a_Daemon_charactersIn 30 = true := by decide +kernel
theorem px_k_Daemon_append : px_chk prog_1_method_13_code px_a_Daemon_append 58 = true := by decide +kernel
theorem px_k_Daemon_put : px_chk prog_1_method_4_code px_a_Daemon_put 89 = true := by decide +kernel
theorem px_k_Daemon_isPlace : px_chk prog_1_method_11_code px_a_Daemon_isPlace 26 = true := by decide +kernel
theorem px_k_Daemon_isBlank : px_chk prog_1_method_14_code px_a_Daemon_isBlank 40 = true := by decide +kernel
theorem px_k_Daemon_drop : px_chk prog_1_method_5_code px_a_Daemon_drop 79 = true := by decide +kernel
theorem px_k_Daemon_undo : px_chk prog_1_method_6_code px_a_Daemon_undo 53 = true := by decide +kernel
theorem px_k_Daemon_symbol : px_chk prog_1_method_7_code px_a_Daemon_symbol 54 = true := by decide +kernel
theorem px_k_Daemon_line : px_chk prog_1_method_8_code px_a_Daemon_line 58 = true := by decide +kernel
theorem px_k_Daemon_diagnostic : px_chk prog_1_method_9_code px_a_Daemon_diagnostic 37 = true := by decide +kernel
theorem px_k_Daemon_count : px_chk prog_1_method_10_code px_a_Daemon_count 43 = true := by decide +kernel
theorem px_k_Model_init : px_chk prog_13_method_1_code px_a_Model_init 251 = true := by decide +kernel
theorem px_k_Model_thrown : px_chk prog_13_method_2_code px_a_Model_thrown 5 = true := by decide +kernel
theorem px_k_Model_type : px_chk prog_13_method_6_code px_a_Model_type 79 = true := by decide +kernel
theorem px_k_Model_feed : px_chk prog_13_method_5_code px_a_Model_feed 52 = true := by decide +kernel
theorem px_k_Model_refused : px_chk prog_13_method_3_code px_a_Model_refused 15 = true := by decide +kernel
theorem px_k_Model_erase : px_chk prog_13_method_7_code px_a_Model_erase 17 = true := by decide +kernel
theorem px_k_Model_put : px_chk prog_13_method_38_code px_a_Model_put 81 = true := by decide +kernel
theorem px_k_Model_isIn : px_chk prog_13_method_4_code px_a_Model_isIn 16 = true := by decide +kernel
theorem px_k_Model_remember : px_chk prog_13_method_37_code px_a_Model_remember 166 = true := by decide +kernel
theorem px_k_Model_isBlank : px_chk prog_13_method_36_code px_a_Model_isBlank 41 = true := by decide +kernel
theorem px_k_Model_edit : px_chk prog_13_method_34_code px_a_Model_edit 315 = true := by decide +kernel
theorem px_k_Model_read : px_chk prog_13_method_20_code px_a_Model_read 163 = true := by decide +kernel
theorem px_k_Model_look : px_chk prog_13_method_9_code px_a_Model_look 51 = true := by decide +kernel
theorem px_k_Model_charAt : px_chk prog_13_method_8_code px_a_Model_charAt 32 = true := by decide +kernel
theorem px_k_Model_isSymbol : px_chk prog_13_method_12_code px_a_Model_isSymbol 18 = true := by decide +kernel
theorem px_k_Model_readWord : px_chk prog_13_method_14_code px_a_Model_readWord 160 = true := by decide +kernel
theorem px_k_Model_letterOf : px_chk prog_13_method_11_code px_a_Model_letterOf 52 = true := by decide +kernel
theorem px_k_Model_wrong : px_chk prog_13_method_10_code px_a_Model_wrong 15 = true := by decide +kernel
theorem px_k_Model_readExpression : px_chk prog_13_method_19_code px_a_Model_readExpression 273 = true := by decide +kernel
theorem px_k_Model_readAtom : px_chk prog_13_method_17_code px_a_Model_readAtom 207 = true := by decide +kernel
theorem px_k_Model_step : px_chk prog_13_method_13_code px_a_Model_step 57 = true := by decide +kernel
theorem px_k_Model_brackets : px_chk prog_13_method_16_code px_a_Model_brackets 50 = true := by decide +kernel
theorem px_k_Model_readBehind : px_chk prog_13_method_18_code px_a_Model_readBehind 138 = true := by decide +kernel
theorem px_k_Model_join : px_chk prog_13_method_15_code px_a_Model_join 92 = true := by decide +kernel
theorem px_k_Model_grow : px_chk prog_13_method_31_code px_a_Model_grow 231 = true := by decide +kernel
theorem px_k_Model_isRead : px_chk prog_13_method_21_code px_a_Model_isRead 24 = true := by decide +kernel
theorem px_k_Model_value : px_chk prog_13_method_29_code px_a_Model_value 378 = true := by decide +kernel
theorem px_k_Model_note : px_chk prog_13_method_28_code px_a_Model_note 41 = true := by decide +kernel
theorem px_k_Model_lacksSum : px_chk prog_13_method_27_code px_a_Model_lacksSum 72 = true := by decide +kernel
theorem px_k_Model_sumOf : px_chk prog_13_method_26_code px_a_Model_sumOf 73 = true := by decide +kernel
theorem px_k_Model_sum : px_chk prog_13_method_25_code px_a_Model_sum 75 = true := by decide +kernel
theorem px_k_Model_isFirst : px_chk prog_13_method_24_code px_a_Model_isFirst 13 = true := by decide +kernel
theorem px_k_Model_changed : px_chk prog_13_method_30_code px_a_Model_changed 58 = true := by decide +kernel
theorem px_k_Model_wrapped : px_chk prog_13_method_23_code px_a_Model_wrapped 23 = true := by decide +kernel
theorem px_k_Model_judgeAll : px_chk prog_13_method_33_code px_a_Model_judgeAll 34 = true := by decide +kernel
theorem px_k_Model_judge : px_chk prog_13_method_32_code px_a_Model_judge 250 = true := by decide +kernel
theorem px_k_Model_readsStale : px_chk prog_13_method_35_code px_a_Model_readsStale 72 = true := by decide +kernel
theorem px_k_Model_drop : px_chk prog_13_method_39_code px_a_Model_drop 97 = true := by decide +kernel
theorem px_k_Model_undo : px_chk prog_13_method_40_code px_a_Model_undo 46 = true := by decide +kernel
theorem px_k_Model_symbol : px_chk prog_13_method_45_code px_a_Model_symbol 159 = true := by decide +kernel
theorem px_k_Model_know : px_chk prog_13_method_41_code px_a_Model_know 205 = true := by decide +kernel
theorem px_k_Model_leastOf : px_chk prog_13_method_43_code px_a_Model_leastOf 31 = true := by decide +kernel
theorem px_k_Model_areOne : px_chk prog_13_method_42_code px_a_Model_areOne 41 = true := by decide +kernel
theorem px_k_Model_reads : px_chk prog_13_method_22_code px_a_Model_reads 72 = true := by decide +kernel
theorem px_k_Model_line : px_chk prog_13_method_47_code px_a_Model_line 188 = true := by decide +kernel
theorem px_k_Model_readCount : px_chk prog_13_method_46_code px_a_Model_readCount 36 = true := by decide +kernel
theorem px_k_Model_diagnostic : px_chk prog_13_method_48_code px_a_Model_diagnostic 91 = true := by decide +kernel
theorem px_k_Model_count : px_chk prog_13_method_49_code px_a_Model_count 193 = true := by decide +kernel
theorem px_k_Model_sizeOf : px_chk prog_13_method_44_code px_a_Model_sizeOf 36 = true := by decide +kernel
theorem px_k_Forms_letterOf : px_chk prog_5_method_2_code px_a_Forms_letterOf 64 = true := by decide +kernel
theorem px_k_Forms_listed : px_chk prog_5_method_4_code px_a_Forms_listed 28 = true := by decide +kernel
theorem px_k_Forms_inLists : px_chk prog_5_method_3_code px_a_Forms_inLists 7 = true := by decide +kernel
theorem px_k_Forms_unlisted : px_chk prog_5_method_5_code px_a_Forms_unlisted 9 = true := by decide +kernel
theorem px_k_Forms_withoutNil : px_chk prog_5_method_7_code px_a_Forms_withoutNil 5 = true := by decide +kernel
theorem px_k_Forms_narrowed : px_chk prog_5_method_8_code px_a_Forms_narrowed 19 = true := by decide +kernel
theorem px_k_Forms_sum : px_chk prog_5_method_9_code px_a_Forms_sum 90 = true := by decide +kernel
theorem px_k_Forms_makesFloat : px_chk prog_5_method_10_code px_a_Forms_makesFloat 18 = true := by decide +kernel
theorem px_k_Forms_unlistingLoses : px_chk prog_5_method_6_code px_a_Forms_unlistingLoses 16 = true := by decide +kernel
theorem px_k_Forms_summingLoses : px_chk prog_5_method_11_code px_a_Forms_summingLoses 97 = true := by decide +kernel
theorem px_k_Long_bitCount : px_chk prog_17_method_50_code px_a_Long_bitCount 61 = true := by decide +kernel
theorem px_k_Math_min : px_chk prog_18_method_69_code px_a_Math_min 11 = true := by decide +kernel
theorem px_k_Math_max : px_chk prog_18_method_65_code px_a_Math_max 11 = true := by decide +kernel
set_option maxRecDepth 100000 in
theorem px_mt_ok : ∀ q ∈ px_mt, px_mtP q := List.forall_mem_cons.mpr ⟨⟨rfl, by decide +kernel, px_k_Circles_init⟩, List.forall_mem_cons.mpr ⟨⟨rfl, by decide +kernel, px_k_Circles_find⟩, List.forall_mem_cons.mpr ⟨⟨rfl, by decide +kernel, px_k_Circles_listDefined⟩, List.forall_mem_cons.mpr ⟨⟨rfl, by decide +kernel, px_k_Circles_gatherReads⟩, List.forall_mem_cons.mpr ⟨⟨rfl, by decide +kernel, px_k_Circles_followOn⟩, List.forall_mem_cons.mpr ⟨⟨rfl, by decide +kernel, px_k_Circles_group⟩, List.forall_mem_cons.mpr ⟨⟨rfl, by decide +kernel, px_k_Circles_findLeast⟩, List.forall_mem_cons.mpr ⟨⟨rfl, by decide +kernel, px_k_Circles_leastOf⟩, List.forall_mem_cons.mpr ⟨⟨rfl, by decide +kernel, px_k_Circles_circleCount⟩, List.forall_mem_cons.mpr ⟨⟨rfl, by decide +kernel, px_k_Circles_selfCount⟩, List.forall_mem_cons.mpr ⟨⟨rfl, by decide +kernel, px_k_Expression_init⟩, List.forall_mem_cons.mpr ⟨⟨rfl, by decide +kernel, px_k_Expression_add⟩, List.forall_mem_cons.mpr ⟨⟨rfl, by decide +kernel, px_k_Expression_workOut⟩, List.forall_mem_cons.mpr ⟨⟨rfl, by decide +kernel, px_k_Expression_valueOf⟩, List.forall_mem_cons.mpr ⟨⟨rfl, by decide +kernel, px_k_Expression_valueAt⟩, List.forall_mem_cons.mpr ⟨⟨rfl, by decide +kernel, px_k_Expression_findFaults⟩, List.forall_mem_cons.mpr ⟨⟨rfl, by decide +kernel, px_k_Expression_faultOf⟩, List.forall_mem_cons.mpr ⟨⟨rfl, by decide +kernel, px_k_Faults_init⟩, List.forall_mem_cons.mpr ⟨⟨rfl, by decide +kernel, px_k_Faults_clear⟩, List.forall_mem_cons.mpr ⟨⟨rfl, by decide +kernel, px_k_Faults_add⟩, List.forall_mem_cons.mpr ⟨⟨rfl, by decide +kernel, px_k_Faults_size⟩, List.forall_mem_cons.mpr ⟨⟨rfl, by decide +kernel, px_k_Faults_placeOf⟩, List.forall_mem_cons.mpr ⟨⟨rfl, by decide +kernel, px_k_Faults_codeOf⟩, List.forall_mem_cons.mpr ⟨⟨rfl, by decide +kernel, px_k_History_init⟩, List.forall_mem_cons.mpr ⟨⟨rfl, by decide +kernel, px_k_History_keep⟩, List.forall_mem_cons.mpr ⟨⟨rfl, by decide +kernel, px_k_History_loseOldest⟩, List.forall_mem_cons.mpr ⟨⟨rfl, by decide +kernel, px_k_History_forget⟩, List.forall_mem_cons.mpr ⟨⟨rfl, by decide +kernel, px_k_History_size⟩, List.forall_mem_cons.mpr ⟨⟨rfl, by decide +kernel, px_k_History_lastPlace⟩, List.forall_mem_cons.mpr ⟨⟨rfl, by decide +kernel, px_k_History_lastLine⟩, List.forall_mem_cons.mpr ⟨⟨rfl, by decide +kernel, px_k_History_removeLast⟩, List.forall_mem_cons.mpr ⟨⟨rfl, by decide +kernel, px_k_Line_init0⟩, List.forall_mem_cons.mpr ⟨⟨rfl, by decide +kernel, px_k_Line_init1⟩, List.forall_mem_cons.mpr ⟨⟨rfl, by decide +kernel, px_k_Line_defined⟩, List.forall_mem_cons.mpr ⟨⟨rfl, by decide +kernel, px_k_Line_reads⟩, List.forall_mem_cons.mpr ⟨⟨rfl, by decide +kernel, px_k_Line_says⟩, List.forall_mem_cons.mpr ⟨⟨rfl, by decide +kernel, px_k_Line_workOut⟩, List.forall_mem_cons.mpr ⟨⟨rfl, by decide +kernel, px_k_Line_findFaults⟩, List.forall_mem_cons.mpr ⟨⟨rfl, by decide +kernel, px_k_Line_isMismatch⟩, List.forall_mem_cons.mpr ⟨⟨rfl, by decide +kernel, px_k_Line_symbolsRead⟩, List.forall_mem_cons.mpr ⟨⟨rfl, by decide +kernel, px_k_Line_tellAbout⟩, List.forall_mem_cons.mpr ⟨⟨rfl, by decide +kernel, px_k_Line_faults⟩, List.forall_mem_cons.mpr ⟨⟨rfl, by decide +kernel, px_k_Parser_init⟩, List.forall_mem_cons.mpr ⟨⟨rfl, by decide +kernel, px_k_Parser_read⟩, List.forall_mem_cons.mpr ⟨⟨rfl, by decide +kernel, px_k_Parser_readHead⟩, List.forall_mem_cons.mpr ⟨⟨rfl, by decide +kernel, px_k_Parser_next⟩, List.forall_mem_cons.mpr ⟨⟨rfl, by decide +kernel, px_k_Parser_isName⟩, List.forall_mem_cons.mpr ⟨⟨rfl, by decide +kernel, px_k_Parser_take⟩, List.forall_mem_cons.mpr ⟨⟨rfl, by decide +kernel, px_k_Parser_readTypeWord⟩, List.forall_mem_cons.mpr ⟨⟨rfl, by decide +kernel, px_k_Parser_readSum⟩, List.forall_mem_cons.mpr ⟨⟨rfl, by decide +kernel, px_k_Parser_readOr⟩, List.forall_mem_cons.mpr ⟨⟨rfl, by decide +kernel, px_k_Parser_readPart⟩, List.forall_mem_cons.mpr ⟨⟨rfl, by decide +kernel, px_k_Parser_readAtom⟩, List.forall_mem_cons.mpr ⟨⟨rfl, by decide +kernel, px_k_Parser_readName⟩, List.forall_mem_cons.mpr ⟨⟨rfl, by decide +kernel, px_k_Parser_isEnding⟩, List.forall_mem_cons.mpr ⟨⟨rfl, by decide +kernel, px_k_Parser_readEnding⟩, List.forall_mem_cons.mpr ⟨⟨rfl, by decide +kernel, px_k_SymbolSet_init⟩, List.forall_mem_cons.mpr ⟨⟨rfl, by decide +kernel, px_k_SymbolSet_add⟩, List.forall_mem_cons.mpr ⟨⟨rfl, by decide +kernel, px_k_SymbolSet_clear⟩, List.forall_mem_cons.mpr ⟨⟨rfl, by decide +kernel, px_k_SymbolSet_has⟩, List.forall_mem_cons.mpr ⟨⟨rfl, by decide +kernel, px_k_SymbolSet_addAll⟩, List.forall_mem_cons.mpr ⟨⟨rfl, by decide +kernel, px_k_SymbolSet_size⟩, List.forall_mem_cons.mpr ⟨⟨rfl, by decide +kernel, px_k_Symbols_init⟩, List.forall_mem_cons.mpr ⟨⟨rfl, by decide +kernel, px_k_Symbols_addDefiners⟩, List.forall_mem_cons.mpr ⟨⟨rfl, by decide +kernel, px_k_Symbols_isSymbol⟩, List.forall_mem_cons.mpr ⟨⟨rfl, by decide +kernel, px_k_Symbols_restart⟩, List.forall_mem_cons.mpr ⟨⟨rfl, by decide +kernel, px_k_Symbols_grow⟩, List.forall_mem_cons.mpr ⟨⟨rfl, by decide +kernel, px_k_Symbols_typeOf⟩, List.forall_mem_cons.mpr ⟨⟨rfl, by decide +kernel, px_k_Symbols_definersOf⟩, List.forall_mem_cons.mpr ⟨⟨rfl, by decide +kernel, px_k_Symbols_definedCount⟩, List.forall_mem_cons.mpr ⟨⟨rfl, by decide +kernel, px_k_Workspace_init⟩, List.forall_mem_cons.mpr ⟨⟨rfl, by decide +kernel, px_k_Workspace_lineAt⟩, List.forall_mem_cons.mpr ⟨⟨rfl, by decide +kernel, px_k_Workspace_edit⟩, List.forall_mem_cons.mpr ⟨⟨rfl, by decide +kernel, px_k_Workspace_startLooking⟩, List.forall_mem_cons.mpr ⟨⟨rfl, by decide +kernel, px_k_Workspace_leave⟩, List.forall_mem_cons.mpr ⟨⟨rfl, by decide +kernel, px_k_Workspace_touch⟩, List.forall_mem_cons.mpr ⟨⟨rfl, by decide +kernel, px_k_Workspace_enter⟩, List.forall_mem_cons.mpr ⟨⟨rfl, by decide +kernel, px_k_Workspace_lookOn⟩, List.forall_mem_cons.mpr ⟨⟨rfl, by decide +kernel, px_k_Workspace_restartTypes⟩, List.forall_mem_cons.mpr ⟨⟨rfl, by decide +kernel, px_k_Workspace_workOutWaiting⟩, List.forall_mem_cons.mpr ⟨⟨rfl, by decide +kernel, px_k_Workspace_wakeReaders⟩, List.forall_mem_cons.mpr ⟨⟨rfl, by decide +kernel, px_k_Workspace_findFaults⟩, List.forall_mem_cons.mpr ⟨⟨rfl, by decide +kernel, px_k_Workspace_tellSymbol⟩, List.forall_mem_cons.mpr ⟨⟨rfl, by decide +kernel, px_k_Workspace_readersOf⟩, List.forall_mem_cons.mpr ⟨⟨rfl, by decide +kernel, px_k_Workspace_freshCircles⟩, List.forall_mem_cons.mpr ⟨⟨rfl, by decide +kernel, px_k_Workspace_tellFault⟩, List.forall_mem_cons.mpr ⟨⟨rfl, by decide +kernel, px_k_Workspace_tellFaultAt⟩, List.forall_mem_cons.mpr ⟨⟨rfl, by decide +kernel, px_k_Workspace_howMany⟩, List.forall_mem_cons.mpr ⟨⟨rfl, by decide +kernel, px_k_Workspace_faultCount⟩, List.forall_mem_cons.mpr ⟨⟨rfl, by decide +kernel, px_k_Workspace_lineCount⟩, List.forall_mem_cons.mpr ⟨⟨rfl, by decide +kernel, px_k_Daemon_init⟩, List.forall_mem_cons.mpr ⟨⟨rfl, by decide +kernel, px_k_Daemon_erase⟩, List.forall_mem_cons.mpr ⟨⟨rfl, by decide +kernel, px_k_Daemon_type⟩, List.forall_mem_cons.mpr ⟨⟨rfl, by decide +kernel, px_k_Daemon_charactersIn⟩, List.forall_mem_cons.mpr ⟨⟨rfl, by decide +kernel, px_k_Daemon_append⟩, List.forall_mem_cons.mpr ⟨⟨rfl, by decide +kernel, px_k_Daemon_put⟩, List.forall_mem_cons.mpr ⟨⟨rfl, by decide +kernel, px_k_Daemon_isPlace⟩, List.forall_mem_cons.mpr ⟨⟨rfl, by decide +kernel, px_k_Daemon_isBlank⟩, List.forall_mem_cons.mpr ⟨⟨rfl, by decide +kernel, px_k_Daemon_drop⟩, List.forall_mem_cons.mpr ⟨⟨rfl, by decide +kernel, px_k_Daemon_undo⟩, List.forall_mem_cons.mpr ⟨⟨rfl, by decide +kernel, px_k_Daemon_symbol⟩, List.forall_mem_cons.mpr ⟨⟨rfl, by decide +kernel, px_k_Daemon_line⟩, List.forall_mem_cons.mpr ⟨⟨rfl, by decide +kernel, px_k_Daemon_diagnostic⟩, List.forall_mem_cons.mpr ⟨⟨rfl, by decide +kernel, px_k_Daemon_count⟩, List.forall_mem_cons.mpr ⟨⟨rfl, by decide +kernel, px_k_Model_init⟩, List.forall_mem_cons.mpr ⟨⟨rfl, by decide +kernel, px_k_Model_thrown⟩, List.forall_mem_cons.mpr ⟨⟨rfl, by decide +kernel, px_k_Model_type⟩, List.forall_mem_cons.mpr ⟨⟨rfl, by decide +kernel, px_k_Model_feed⟩, List.forall_mem_cons.mpr ⟨⟨rfl, by decide +kernel, px_k_Model_refused⟩, List.forall_mem_cons.mpr ⟨⟨rfl, by decide +kernel, px_k_Model_erase⟩, List.forall_mem_cons.mpr ⟨⟨rfl, by decide +kernel, px_k_Model_put⟩, List.forall_mem_cons.mpr ⟨⟨rfl, by decide +kernel, px_k_Model_isIn⟩, List.forall_mem_cons.mpr ⟨⟨rfl, by decide +kernel, px_k_Model_remember⟩, List.forall_mem_cons.mpr ⟨⟨rfl, by decide +kernel, px_k_Model_isBlank⟩, List.forall_mem_cons.mpr ⟨⟨rfl, by decide +kernel, px_k_Model_edit⟩, List.forall_mem_cons.mpr ⟨⟨rfl, by decide +kernel, px_k_Model_read⟩, List.forall_mem_cons.mpr ⟨⟨rfl, by decide +kernel, px_k_Model_look⟩, List.forall_mem_cons.mpr ⟨⟨rfl, by decide +kernel, px_k_Model_charAt⟩, List.forall_mem_cons.mpr ⟨⟨rfl, by decide +kernel, px_k_Model_isSymbol⟩, List.forall_mem_cons.mpr ⟨⟨rfl, by decide +kernel, px_k_Model_readWord⟩, List.forall_mem_cons.mpr ⟨⟨rfl, by decide +kernel, px_k_Model_letterOf⟩, List.forall_mem_cons.mpr ⟨⟨rfl, by decide +kernel, px_k_Model_wrong⟩, List.forall_mem_cons.mpr ⟨⟨rfl, by decide +kernel, px_k_Model_readExpression⟩, List.forall_mem_cons.mpr ⟨⟨rfl, by decide +kernel, px_k_Model_readAtom⟩, List.forall_mem_cons.mpr ⟨⟨rfl, by decide +kernel, px_k_Model_step⟩, List.forall_mem_cons.mpr ⟨⟨rfl, by decide +kernel, px_k_Model_brackets⟩, List.forall_mem_cons.mpr ⟨⟨rfl, by decide +kernel, px_k_Model_readBehind⟩, List.forall_mem_cons.mpr ⟨⟨rfl, by decide +kernel, px_k_Model_join⟩, List.forall_mem_cons.mpr ⟨⟨rfl, by decide +kernel, px_k_Model_grow⟩, List.forall_mem_cons.mpr ⟨⟨rfl, by decide +kernel, px_k_Model_isRead⟩, List.forall_mem_cons.mpr ⟨⟨rfl, by decide +kernel, px_k_Model_value⟩, List.forall_mem_cons.mpr ⟨⟨rfl, by decide +kernel, px_k_Model_note⟩, List.forall_mem_cons.mpr ⟨⟨rfl, by decide +kernel, px_k_Model_lacksSum⟩, List.forall_mem_cons.mpr ⟨⟨rfl, by decide +kernel, px_k_Model_sumOf⟩, List.forall_mem_cons.mpr ⟨⟨rfl, by decide +kernel, px_k_Model_sum⟩, List.forall_mem_cons.mpr ⟨⟨rfl, by decide +kernel, px_k_Model_isFirst⟩, List.forall_mem_cons.mpr ⟨⟨rfl, by decide +kernel, px_k_Model_changed⟩, List.forall_mem_cons.mpr ⟨⟨rfl, by decide +kernel, px_k_Model_wrapped⟩, List.forall_mem_cons.mpr ⟨⟨rfl, by decide +kernel, px_k_Model_judgeAll⟩, List.forall_mem_cons.mpr ⟨⟨rfl, by decide +kernel, px_k_Model_judge⟩, List.forall_mem_cons.mpr ⟨⟨rfl, by decide +kernel, px_k_Model_readsStale⟩, List.forall_mem_cons.mpr ⟨⟨rfl, by decide +kernel, px_k_Model_drop⟩, List.forall_mem_cons.mpr ⟨⟨rfl, by decide +kernel, px_k_Model_undo⟩, List.forall_mem_cons.mpr ⟨⟨rfl, by decide +kernel, px_k_Model_symbol⟩, List.forall_mem_cons.mpr ⟨⟨rfl, by decide +kernel, px_k_Model_know⟩, List.forall_mem_cons.mpr ⟨⟨rfl, by decide +kernel, px_k_Model_leastOf⟩, List.forall_mem_cons.mpr ⟨⟨rfl, by decide +kernel, px_k_Model_areOne⟩, List.forall_mem_cons.mpr ⟨⟨rfl, by decide +kernel, px_k_Model_reads⟩, List.forall_mem_cons.mpr ⟨⟨rfl, by decide +kernel, px_k_Model_line⟩, List.forall_mem_cons.mpr ⟨⟨rfl, by decide +kernel, px_k_Model_readCount⟩, List.forall_mem_cons.mpr ⟨⟨rfl, by decide +kernel, px_k_Model_diagnostic⟩, List.forall_mem_cons.mpr ⟨⟨rfl, by decide +kernel, px_k_Model_count⟩, List.forall_mem_cons.mpr ⟨⟨rfl, by decide +kernel, px_k_Model_sizeOf⟩, List.forall_mem_cons.mpr ⟨⟨rfl, by decide +kernel, px_k_Forms_letterOf⟩, List.forall_mem_cons.mpr ⟨⟨rfl, by decide +kernel, px_k_Forms_listed⟩, List.forall_mem_cons.mpr ⟨⟨rfl, by decide +kernel, px_k_Forms_inLists⟩, List.forall_mem_cons.mpr ⟨⟨rfl, by decide +kernel, px_k_Forms_unlisted⟩, List.forall_mem_cons.mpr ⟨⟨rfl, by decide +kernel, px_k_Forms_withoutNil⟩, List.forall_mem_cons.mpr ⟨⟨rfl, by decide +kernel, px_k_Forms_narrowed⟩, List.forall_mem_cons.mpr ⟨⟨rfl, by decide +kernel, px_k_Forms_sum⟩, List.forall_mem_cons.mpr ⟨⟨rfl, by decide +kernel, px_k_Forms_makesFloat⟩, List.forall_mem_cons.mpr ⟨⟨rfl, by decide +kernel, px_k_Forms_unlistingLoses⟩, List.forall_mem_cons.mpr ⟨⟨rfl, by decide +kernel, px_k_Forms_summingLoses⟩, List.forall_mem_cons.mpr ⟨⟨rfl, by decide +kernel, px_k_Long_bitCount⟩, List.forall_mem_cons.mpr ⟨⟨rfl, by decide +kernel, px_k_Math_min⟩, List.forall_mem_cons.mpr ⟨⟨rfl, by decide +kernel, px_k_Math_max⟩, fun _ h => absurd h List.not_mem_nil⟩⟩⟩⟩⟩⟩⟩⟩⟩⟩⟩⟩⟩⟩⟩⟩⟩⟩⟩⟩⟩⟩⟩⟩⟩⟩⟩⟩⟩⟩⟩⟩⟩⟩⟩⟩⟩⟩⟩⟩⟩⟩⟩⟩⟩⟩⟩⟩⟩⟩⟩⟩⟩⟩⟩⟩⟩⟩⟩⟩⟩⟩⟩⟩⟩⟩⟩⟩⟩⟩⟩⟩⟩⟩⟩⟩⟩⟩⟩⟩⟩⟩⟩⟩⟩⟩⟩⟩⟩⟩⟩⟩⟩⟩⟩⟩⟩⟩⟩⟩⟩⟩⟩⟩⟩⟩⟩⟩⟩⟩⟩⟩⟩⟩⟩⟩⟩⟩⟩⟩⟩⟩⟩⟩⟩⟩⟩⟩⟩⟩⟩⟩⟩⟩⟩⟩⟩⟩⟩⟩⟩⟩⟩⟩⟩⟩⟩⟩⟩⟩⟩⟩⟩⟩⟩⟩⟩⟩⟩⟩⟩⟩⟩⟩⟩⟩
theorem px_me_mem (mi : Nat) : px_me mi ∈ px_mt := by
  unfold px_me
  rw [List.getD_eq_getElem?_getD]
  cases h : px_mt[mi]? with
  | none => exact List.mem_of_getElem? (i := 56) rfl
  | some q => exact List.mem_of_getElem? h
theorem px_on_ok (mi : Nat) : px_on (px_cn mi) = (px_y mi).cls := (px_mt_ok _ (px_me_mem mi)).1
theorem px_pl (mi : Nat) : plainFor (px_y mi) = true := (px_mt_ok _ (px_me_mem mi)).2.1
theorem px_at_ok {mi pc : Nat} {i : Instr} (h : px_at mi pc = some i) : decode (px_b mi) pc = .ok (i, px_sz pc i) := by
  unfold px_at at h
  cases hc : Nat.blt pc (px_me mi).2.2.2.2.2.1 with
  | false => rw [hc] at h; cases h
  | true =>
    rw [hc] at h
    simp only [cond_true] at h
    have h1 := List.all_eq_true.mp (px_mt_ok _ (px_me_mem mi)).2.2 pc (List.mem_range.mpr (Nat.le_of_ble_eq_true hc))
    rw [h] at h1
    exact of_decide_eq_true h1
theorem px_isI_ok {mi : Nat} (h : px_isI mi = true) : (px_y mi).name = "<init>" := of_decide_eq_true h
theorem px_fl_ok {cn ix ci k : Nat} (h : px_fl cn ix = some (ci, k)) : px_flP cn (ix, ci, k) := px_fl_all _ (px_find_mem h)
theorem px_ca_ok0 {cn ix : Nat} {v : Nat × Nat × Nat} (h : px_ca cn ix = some v) : px_caP cn (ix, v) := px_ca_all _ (px_find_mem h)
theorem px_nc_ok {cn ix ci : Nat} (h : px_nc cn ix = some ci) : px_ncP cn (ix, ci) := px_nc_all _ (px_find_mem h)
theorem px_an_ok {cn ix t : Nat} (h : px_an cn ix = some t) : px_anP cn (ix, t) := px_an_all _ (px_find_mem h)
theorem px_kc_ok {cn ix : Nat} {v : Int32} (h : px_kc cn ix = some v) : Cond.constant (px_on cn) ix v ∈ px_tbl := px_kc_all _ (px_find_mem h)
theorem px_kl_ok {cn ix : Nat} {v : Int64} (h : px_kl cn ix = some v) : Cond.constantLong (px_on cn) ix v ∈ px_tbl := px_kl_all _ (px_find_mem h)
theorem px_oi_ok {cn ix : Nat} (h : px_oi cn ix = true) : Cond.methodLink (px_on cn) ix Lib.objectInit ∈ px_tbl := by
  unfold px_oi at h
  cases hq : px_obq cn ix with
  | none => rw [hq] at h; cases h
  | some v => exact px_ob_all _ (px_find_mem hq)
theorem px_tr_ok {t : Nat} (h : px_tr t = true) : ∃ C, t < px_nty ∧ px_ty t = .object C := by
  simp only [px_tr, Bool.and_eq_true] at h
  have h1 := Nat.le_of_ble_eq_true h.1
  have h2 : t < px_nty := Nat.le_of_ble_eq_true h.2
  have h3 : t < 6 := h2
  rcases (show t = 4 ∨ t = 5 by omega) with rfl | rfl
  · exact ⟨_, h2, rfl⟩
  · exact ⟨_, h2, rfl⟩
theorem px_tc_ok {t ci : Nat} {C : String} (h : px_tc t ci = true) (hC : px_ty t = .object C) : ∃ rc, px_cl[ci]? = some rc ∧ rc.1 = C := by
  simp only [px_tc, Bool.and_eq_true] at h
  obtain ⟨C', h2, -⟩ := px_tr_ok h.1
  have h1 := h.1
  simp only [px_tr, Bool.and_eq_true] at h1
  have h4 := Nat.le_of_ble_eq_true h1.1
  have h3 : t < 6 := h2
  have h5 := Nat.eq_of_beq_eq_true h.2
  rcases (show t = 4 ∨ t = 5 by omega) with rfl | rfl
  · cases h5; cases hC; exact ⟨_, rfl, rfl⟩
  · cases h5; cases hC; exact ⟨_, rfl, rfl⟩
theorem px_nw_t : ∀ w ∈ px_nw, w.onTables = true := by
  intro w hw
  rcases List.mem_append.mp hw with h | h
  · obtain ⟨q, -, rfl⟩ := List.mem_map.mp h; rfl
  · obtain ⟨q, -, rfl⟩ := List.mem_map.mp h; rfl
theorem px_nw_w {s U : State} : ∀ w ∈ px_nw, s.WarmedH U.vm → va_Nw w s → va_Nw w U := by
  intro w hw hW
  rcases List.mem_append.mp hw with h | h
  · obtain ⟨q, -, rfl⟩ := List.mem_map.mp h; exact va_Nw.warmF hW
  · obtain ⟨q, -, rfl⟩ := List.mem_map.mp h; exact va_Nw.warmM hW
theorem px_may_ok {mi ci k : Nat} (h : px_may mi ci k = true) : (((px_cl.getD ci (px_R0, px_T0, 0)).2.1 k).2.2.2 = false) ∨ (px_isI mi = true ∧ px_cn mi = ci) := by
  simp only [px_may, Bool.or_eq_true, Bool.not_eq_true', Bool.and_eq_true] at h
  rcases h with h | h
  · exact Or.inl h
  · exact Or.inr ⟨h.1, Nat.eq_of_beq_eq_true h.2⟩
