/-- the words that a method may carry along -/
def px_tbl : List Cond := lw_tbl.filter goodWord
theorem px_mem (i : Nat) {w : Cond} (h : lw_tbl[i]? = some w) (hg : goodWord w = true) : w ∈ px_tbl := List.mem_filter.mpr ⟨List.mem_of_getElem? h, hg⟩
theorem px_w142 : (Jvm.Cond.laysFinal "CheckDaemon$Circles" "CheckDaemon$Circles" "hangs" "[LCheckDaemon$SymbolSet;") ∈ px_tbl := px_mem 142 (by decide +kernel) rfl
theorem px_w144 : (Jvm.Cond.laysFinal "CheckDaemon$Circles" "CheckDaemon$Circles" "least" "[I") ∈ px_tbl := px_mem 144 (by decide +kernel) rfl
theorem px_w146 : (Jvm.Cond.laysFinal "CheckDaemon$Circles" "CheckDaemon$Circles" "defined" "[I") ∈ px_tbl := px_mem 146 (by decide +kernel) rfl
theorem px_w148 : (Jvm.Cond.lays "CheckDaemon$Circles" "CheckDaemon$Circles" "definedSize" "I") ∈ px_tbl := px_mem 148 (by decide +kernel) rfl
theorem px_w150 : (Jvm.Cond.lays "CheckDaemon$Circles" "CheckDaemon$Circles" "circleCount" "I") ∈ px_tbl := px_mem 150 (by decide +kernel) rfl
theorem px_w152 : (Jvm.Cond.lays "CheckDaemon$Circles" "CheckDaemon$Circles" "selfCount" "I") ∈ px_tbl := px_mem 152 (by decide +kernel) rfl
theorem px_w359 : (Jvm.Cond.laysFinal "CheckDaemon$Expression" "CheckDaemon$Expression" "kinds" "[I") ∈ px_tbl := px_mem 359 (by decide +kernel) rfl
theorem px_w361 : (Jvm.Cond.laysFinal "CheckDaemon$Expression" "CheckDaemon$Expression" "firsts" "[I") ∈ px_tbl := px_mem 361 (by decide +kernel) rfl
theorem px_w363 : (Jvm.Cond.laysFinal "CheckDaemon$Expression" "CheckDaemon$Expression" "seconds" "[I") ∈ px_tbl := px_mem 363 (by decide +kernel) rfl
theorem px_w365 : (Jvm.Cond.laysFinal "CheckDaemon$Expression" "CheckDaemon$Expression" "places" "[I") ∈ px_tbl := px_mem 365 (by decide +kernel) rfl
theorem px_w367 : (Jvm.Cond.laysFinal "CheckDaemon$Expression" "CheckDaemon$Expression" "values" "[I") ∈ px_tbl := px_mem 367 (by decide +kernel) rfl
theorem px_w369 : (Jvm.Cond.lays "CheckDaemon$Expression" "CheckDaemon$Expression" "size" "I") ∈ px_tbl := px_mem 369 (by decide +kernel) rfl
theorem px_w371 : (Jvm.Cond.laysFinal "CheckDaemon$Expression" "CheckDaemon$Expression" "reads" "LCheckDaemon$SymbolSet;") ∈ px_tbl := px_mem 371 (by decide +kernel) rfl
theorem px_w474 : (Jvm.Cond.laysFinal "CheckDaemon$Faults" "CheckDaemon$Faults" "codes" "[I") ∈ px_tbl := px_mem 474 (by decide +kernel) rfl
theorem px_w476 : (Jvm.Cond.lays "CheckDaemon$Faults" "CheckDaemon$Faults" "size" "I") ∈ px_tbl := px_mem 476 (by decide +kernel) rfl
theorem px_w193 : (Jvm.Cond.laysFinal "CheckDaemon$History" "CheckDaemon$History" "places" "[I") ∈ px_tbl := px_mem 193 (by decide +kernel) rfl
theorem px_w195 : (Jvm.Cond.laysFinal "CheckDaemon$History" "CheckDaemon$History" "lines" "[LCheckDaemon$Line;") ∈ px_tbl := px_mem 195 (by decide +kernel) rfl
theorem px_w197 : (Jvm.Cond.lays "CheckDaemon$History" "CheckDaemon$History" "size" "I") ∈ px_tbl := px_mem 197 (by decide +kernel) rfl
theorem px_w487 : (Jvm.Cond.laysFinal "CheckDaemon$Line" "CheckDaemon$Line" "length" "I") ∈ px_tbl := px_mem 487 (by decide +kernel) rfl
theorem px_w489 : (Jvm.Cond.laysFinal "CheckDaemon$Line" "CheckDaemon$Line" "defines" "I") ∈ px_tbl := px_mem 489 (by decide +kernel) rfl
theorem px_w491 : (Jvm.Cond.laysFinal "CheckDaemon$Line" "CheckDaemon$Line" "declares" "I") ∈ px_tbl := px_mem 491 (by decide +kernel) rfl
theorem px_w493 : (Jvm.Cond.laysFinal "CheckDaemon$Line" "CheckDaemon$Line" "equalsAt" "I") ∈ px_tbl := px_mem 493 (by decide +kernel) rfl
theorem px_w495 : (Jvm.Cond.laysFinal "CheckDaemon$Line" "CheckDaemon$Line" "wrongAt" "I") ∈ px_tbl := px_mem 495 (by decide +kernel) rfl
theorem px_w497 : (Jvm.Cond.laysFinal "CheckDaemon$Line" "CheckDaemon$Line" "expression" "LCheckDaemon$Expression;") ∈ px_tbl := px_mem 497 (by decide +kernel) rfl
theorem px_w499 : (Jvm.Cond.laysFinal "CheckDaemon$Line" "CheckDaemon$Line" "faults" "LCheckDaemon$Faults;") ∈ px_tbl := px_mem 499 (by decide +kernel) rfl
theorem px_w501 : (Jvm.Cond.lays "CheckDaemon$Line" "CheckDaemon$Line" "expressionType" "I") ∈ px_tbl := px_mem 501 (by decide +kernel) rfl
theorem px_w382 : (Jvm.Cond.laysFinal "CheckDaemon$Parser" "CheckDaemon$Parser" "text" "[I") ∈ px_tbl := px_mem 382 (by decide +kernel) rfl
theorem px_w384 : (Jvm.Cond.laysFinal "CheckDaemon$Parser" "CheckDaemon$Parser" "length" "I") ∈ px_tbl := px_mem 384 (by decide +kernel) rfl
theorem px_w386 : (Jvm.Cond.laysFinal "CheckDaemon$Parser" "CheckDaemon$Parser" "module" "I") ∈ px_tbl := px_mem 386 (by decide +kernel) rfl
theorem px_w388 : (Jvm.Cond.laysFinal "CheckDaemon$Parser" "CheckDaemon$Parser" "made" "LCheckDaemon$Expression;") ∈ px_tbl := px_mem 388 (by decide +kernel) rfl
theorem px_w390 : (Jvm.Cond.lays "CheckDaemon$Parser" "CheckDaemon$Parser" "at" "I") ∈ px_tbl := px_mem 390 (by decide +kernel) rfl
theorem px_w392 : (Jvm.Cond.lays "CheckDaemon$Parser" "CheckDaemon$Parser" "defines" "I") ∈ px_tbl := px_mem 392 (by decide +kernel) rfl
theorem px_w394 : (Jvm.Cond.lays "CheckDaemon$Parser" "CheckDaemon$Parser" "declares" "I") ∈ px_tbl := px_mem 394 (by decide +kernel) rfl
theorem px_w396 : (Jvm.Cond.lays "CheckDaemon$Parser" "CheckDaemon$Parser" "equalsAt" "I") ∈ px_tbl := px_mem 396 (by decide +kernel) rfl
theorem px_w122 : (Jvm.Cond.laysFinal "CheckDaemon$SymbolSet" "CheckDaemon$SymbolSet" "words" "[J") ∈ px_tbl := px_mem 122 (by decide +kernel) rfl
theorem px_w109 : (Jvm.Cond.laysFinal "CheckDaemon$Symbols" "CheckDaemon$Symbols" "types" "[I") ∈ px_tbl := px_mem 109 (by decide +kernel) rfl
theorem px_w111 : (Jvm.Cond.laysFinal "CheckDaemon$Symbols" "CheckDaemon$Symbols" "definers" "[I") ∈ px_tbl := px_mem 111 (by decide +kernel) rfl
theorem px_w164 : (Jvm.Cond.laysFinal "CheckDaemon$Workspace" "CheckDaemon$Workspace" "lines" "[LCheckDaemon$Line;") ∈ px_tbl := px_mem 164 (by decide +kernel) rfl
theorem px_w166 : (Jvm.Cond.laysFinal "CheckDaemon$Workspace" "CheckDaemon$Workspace" "symbols" "LCheckDaemon$Symbols;") ∈ px_tbl := px_mem 166 (by decide +kernel) rfl
theorem px_w168 : (Jvm.Cond.laysFinal "CheckDaemon$Workspace" "CheckDaemon$Workspace" "looked" "[Z") ∈ px_tbl := px_mem 168 (by decide +kernel) rfl
theorem px_w170 : (Jvm.Cond.laysFinal "CheckDaemon$Workspace" "CheckDaemon$Workspace" "waiting" "[Z") ∈ px_tbl := px_mem 170 (by decide +kernel) rfl
theorem px_w172 : (Jvm.Cond.laysFinal "CheckDaemon$Workspace" "CheckDaemon$Workspace" "touched" "LCheckDaemon$SymbolSet;") ∈ px_tbl := px_mem 172 (by decide +kernel) rfl
theorem px_w174 : (Jvm.Cond.laysFinal "CheckDaemon$Workspace" "CheckDaemon$Workspace" "touchedInOrder" "[I") ∈ px_tbl := px_mem 174 (by decide +kernel) rfl
theorem px_w176 : (Jvm.Cond.lays "CheckDaemon$Workspace" "CheckDaemon$Workspace" "touchedSize" "I") ∈ px_tbl := px_mem 176 (by decide +kernel) rfl
theorem px_w178 : (Jvm.Cond.laysFinal "CheckDaemon$Workspace" "CheckDaemon$Workspace" "circles" "LCheckDaemon$Circles;") ∈ px_tbl := px_mem 178 (by decide +kernel) rfl
theorem px_w180 : (Jvm.Cond.lays "CheckDaemon$Workspace" "CheckDaemon$Workspace" "circlesAreOld" "Z") ∈ px_tbl := px_mem 180 (by decide +kernel) rfl
theorem px_w204 : (Jvm.Cond.laysFinal "CheckDaemon" "CheckDaemon" "typed" "[I") ∈ px_tbl := px_mem 204 (by decide +kernel) rfl
theorem px_w206 : (Jvm.Cond.lays "CheckDaemon" "CheckDaemon" "typedLength" "I") ∈ px_tbl := px_mem 206 (by decide +kernel) rfl
theorem px_w208 : (Jvm.Cond.laysFinal "CheckDaemon" "CheckDaemon" "workspace" "LCheckDaemon$Workspace;") ∈ px_tbl := px_mem 208 (by decide +kernel) rfl
theorem px_w210 : (Jvm.Cond.laysFinal "CheckDaemon" "CheckDaemon" "history" "LCheckDaemon$History;") ∈ px_tbl := px_mem 210 (by decide +kernel) rfl
theorem px_w900 : (Jvm.Cond.lays "CheckDaemonModel" "CheckDaemonModel" "fault" "I") ∈ px_tbl := px_mem 900 (by decide +kernel) rfl
theorem px_w902 : (Jvm.Cond.laysFinal "CheckDaemonModel" "CheckDaemonModel" "typed" "[C") ∈ px_tbl := px_mem 902 (by decide +kernel) rfl
theorem px_w904 : (Jvm.Cond.lays "CheckDaemonModel" "CheckDaemonModel" "typedSize" "I") ∈ px_tbl := px_mem 904 (by decide +kernel) rfl
theorem px_w906 : (Jvm.Cond.laysFinal "CheckDaemonModel" "CheckDaemonModel" "sizes" "[I") ∈ px_tbl := px_mem 906 (by decide +kernel) rfl
theorem px_w908 : (Jvm.Cond.laysFinal "CheckDaemonModel" "CheckDaemonModel" "texts" "[C") ∈ px_tbl := px_mem 908 (by decide +kernel) rfl
theorem px_w910 : (Jvm.Cond.laysFinal "CheckDaemonModel" "CheckDaemonModel" "wrongAt" "[I") ∈ px_tbl := px_mem 910 (by decide +kernel) rfl
theorem px_w912 : (Jvm.Cond.laysFinal "CheckDaemonModel" "CheckDaemonModel" "defines" "[I") ∈ px_tbl := px_mem 912 (by decide +kernel) rfl
theorem px_w914 : (Jvm.Cond.laysFinal "CheckDaemonModel" "CheckDaemonModel" "words" "[I") ∈ px_tbl := px_mem 914 (by decide +kernel) rfl
theorem px_w916 : (Jvm.Cond.laysFinal "CheckDaemonModel" "CheckDaemonModel" "equalAt" "[I") ∈ px_tbl := px_mem 916 (by decide +kernel) rfl
theorem px_w918 : (Jvm.Cond.laysFinal "CheckDaemonModel" "CheckDaemonModel" "stepCount" "[I") ∈ px_tbl := px_mem 918 (by decide +kernel) rfl
theorem px_w920 : (Jvm.Cond.laysFinal "CheckDaemonModel" "CheckDaemonModel" "stepKind" "[I") ∈ px_tbl := px_mem 920 (by decide +kernel) rfl
theorem px_w922 : (Jvm.Cond.laysFinal "CheckDaemonModel" "CheckDaemonModel" "stepWith" "[I") ∈ px_tbl := px_mem 922 (by decide +kernel) rfl
theorem px_w924 : (Jvm.Cond.laysFinal "CheckDaemonModel" "CheckDaemonModel" "stepAt" "[I") ∈ px_tbl := px_mem 924 (by decide +kernel) rfl
theorem px_w926 : (Jvm.Cond.laysFinal "CheckDaemonModel" "CheckDaemonModel" "typeOf" "[I") ∈ px_tbl := px_mem 926 (by decide +kernel) rfl
theorem px_w928 : (Jvm.Cond.laysFinal "CheckDaemonModel" "CheckDaemonModel" "types" "[I") ∈ px_tbl := px_mem 928 (by decide +kernel) rfl
theorem px_w930 : (Jvm.Cond.laysFinal "CheckDaemonModel" "CheckDaemonModel" "isDefined" "[Z") ∈ px_tbl := px_mem 930 (by decide +kernel) rfl
theorem px_w932 : (Jvm.Cond.lays "CheckDaemonModel" "CheckDaemonModel" "found" "I") ∈ px_tbl := px_mem 932 (by decide +kernel) rfl
theorem px_w934 : (Jvm.Cond.laysFinal "CheckDaemonModel" "CheckDaemonModel" "foundLine" "[I") ∈ px_tbl := px_mem 934 (by decide +kernel) rfl
theorem px_w936 : (Jvm.Cond.laysFinal "CheckDaemonModel" "CheckDaemonModel" "foundAt" "[I") ∈ px_tbl := px_mem 936 (by decide +kernel) rfl
theorem px_w938 : (Jvm.Cond.laysFinal "CheckDaemonModel" "CheckDaemonModel" "foundCode" "[I") ∈ px_tbl := px_mem 938 (by decide +kernel) rfl
theorem px_w940 : (Jvm.Cond.lays "CheckDaemonModel" "CheckDaemonModel" "undos" "I") ∈ px_tbl := px_mem 940 (by decide +kernel) rfl
theorem px_w942 : (Jvm.Cond.laysFinal "CheckDaemonModel" "CheckDaemonModel" "undoLine" "[I") ∈ px_tbl := px_mem 942 (by decide +kernel) rfl
theorem px_w944 : (Jvm.Cond.laysFinal "CheckDaemonModel" "CheckDaemonModel" "undoSize" "[I") ∈ px_tbl := px_mem 944 (by decide +kernel) rfl
theorem px_w946 : (Jvm.Cond.laysFinal "CheckDaemonModel" "CheckDaemonModel" "undoText" "[C") ∈ px_tbl := px_mem 946 (by decide +kernel) rfl
theorem px_w948 : (Jvm.Cond.lays "CheckDaemonModel" "CheckDaemonModel" "isKnown" "Z") ∈ px_tbl := px_mem 948 (by decide +kernel) rfl
theorem px_w950 : (Jvm.Cond.laysFinal "CheckDaemonModel" "CheckDaemonModel" "hangs" "[Z") ∈ px_tbl := px_mem 950 (by decide +kernel) rfl
theorem px_w952 : (Jvm.Cond.laysFinal "CheckDaemonModel" "CheckDaemonModel" "isLooked" "[Z") ∈ px_tbl := px_mem 952 (by decide +kernel) rfl
theorem px_w954 : (Jvm.Cond.laysFinal "CheckDaemonModel" "CheckDaemonModel" "isStale" "[Z") ∈ px_tbl := px_mem 954 (by decide +kernel) rfl
theorem px_w956 : (Jvm.Cond.lays "CheckDaemonModel" "CheckDaemonModel" "at" "I") ∈ px_tbl := px_mem 956 (by decide +kernel) rfl
theorem px_w958 : (Jvm.Cond.lays "CheckDaemonModel" "CheckDaemonModel" "line" "I") ∈ px_tbl := px_mem 958 (by decide +kernel) rfl
theorem px_w960 : (Jvm.Cond.lays "CheckDaemonModel" "CheckDaemonModel" "depth" "I") ∈ px_tbl := px_mem 960 (by decide +kernel) rfl
theorem px_w962 : (Jvm.Cond.laysFinal "CheckDaemonModel" "CheckDaemonModel" "open" "[I") ∈ px_tbl := px_mem 962 (by decide +kernel) rfl
theorem px_w964 : (Jvm.Cond.laysFinal "CheckDaemonModel" "CheckDaemonModel" "pile" "[I") ∈ px_tbl := px_mem 964 (by decide +kernel) rfl
theorem px_w966 : (Jvm.Cond.lays "CheckDaemonModel" "CheckDaemonModel" "top" "I") ∈ px_tbl := px_mem 966 (by decide +kernel) rfl
theorem px_w136 : (Jvm.Cond.fieldLink "CheckDaemon$Circles" (11 : Nat) "CheckDaemon$Circles" "hangs" "[LCheckDaemon$SymbolSet;") ∈ px_tbl := px_mem 136 (by decide +kernel) rfl
theorem px_w137 : (Jvm.Cond.fieldLink "CheckDaemon$Circles" (17 : Nat) "CheckDaemon$Circles" "least" "[I") ∈ px_tbl := px_mem 137 (by decide +kernel) rfl
theorem px_w138 : (Jvm.Cond.fieldLink "CheckDaemon$Circles" (21 : Nat) "CheckDaemon$Circles" "defined" "[I") ∈ px_tbl := px_mem 138 (by decide +kernel) rfl
theorem px_w139 : (Jvm.Cond.fieldLink "CheckDaemon$Circles" (24 : Nat) "CheckDaemon$Circles" "definedSize" "I") ∈ px_tbl := px_mem 139 (by decide +kernel) rfl
theorem px_w140 : (Jvm.Cond.fieldLink "CheckDaemon$Circles" (28 : Nat) "CheckDaemon$Circles" "circleCount" "I") ∈ px_tbl := px_mem 140 (by decide +kernel) rfl
theorem px_w141 : (Jvm.Cond.fieldLink "CheckDaemon$Circles" (31 : Nat) "CheckDaemon$Circles" "selfCount" "I") ∈ px_tbl := px_mem 141 (by decide +kernel) rfl
theorem px_w350 : (Jvm.Cond.fieldLink "CheckDaemon$Expression" (22 : Nat) "CheckDaemon$Expression" "kinds" "[I") ∈ px_tbl := px_mem 350 (by decide +kernel) rfl
theorem px_w351 : (Jvm.Cond.fieldLink "CheckDaemon$Expression" (26 : Nat) "CheckDaemon$Expression" "firsts" "[I") ∈ px_tbl := px_mem 351 (by decide +kernel) rfl
theorem px_w352 : (Jvm.Cond.fieldLink "CheckDaemon$Expression" (29 : Nat) "CheckDaemon$Expression" "seconds" "[I") ∈ px_tbl := px_mem 352 (by decide +kernel) rfl
theorem px_w353 : (Jvm.Cond.fieldLink "CheckDaemon$Expression" (32 : Nat) "CheckDaemon$Expression" "places" "[I") ∈ px_tbl := px_mem 353 (by decide +kernel) rfl
theorem px_w354 : (Jvm.Cond.fieldLink "CheckDaemon$Expression" (35 : Nat) "CheckDaemon$Expression" "values" "[I") ∈ px_tbl := px_mem 354 (by decide +kernel) rfl
theorem px_w355 : (Jvm.Cond.fieldLink "CheckDaemon$Expression" (9 : Nat) "CheckDaemon$Expression" "size" "I") ∈ px_tbl := px_mem 355 (by decide +kernel) rfl
theorem px_w356 : (Jvm.Cond.fieldLink "CheckDaemon$Expression" (18 : Nat) "CheckDaemon$Expression" "reads" "LCheckDaemon$SymbolSet;") ∈ px_tbl := px_mem 356 (by decide +kernel) rfl
theorem px_w472 : (Jvm.Cond.fieldLink "CheckDaemon$Faults" (15 : Nat) "CheckDaemon$Faults" "codes" "[I") ∈ px_tbl := px_mem 472 (by decide +kernel) rfl
theorem px_w473 : (Jvm.Cond.fieldLink "CheckDaemon$Faults" (9 : Nat) "CheckDaemon$Faults" "size" "I") ∈ px_tbl := px_mem 473 (by decide +kernel) rfl
theorem px_w190 : (Jvm.Cond.fieldLink "CheckDaemon$History" (9 : Nat) "CheckDaemon$History" "places" "[I") ∈ px_tbl := px_mem 190 (by decide +kernel) rfl
theorem px_w191 : (Jvm.Cond.fieldLink "CheckDaemon$History" (17 : Nat) "CheckDaemon$History" "lines" "[LCheckDaemon$Line;") ∈ px_tbl := px_mem 191 (by decide +kernel) rfl
theorem px_w192 : (Jvm.Cond.fieldLink "CheckDaemon$History" (21 : Nat) "CheckDaemon$History" "size" "I") ∈ px_tbl := px_mem 192 (by decide +kernel) rfl
theorem px_w479 : (Jvm.Cond.fieldLink "CheckDaemon$Line" (15 : Nat) "CheckDaemon$Line" "length" "I") ∈ px_tbl := px_mem 479 (by decide +kernel) rfl
theorem px_w480 : (Jvm.Cond.fieldLink "CheckDaemon$Line" (18 : Nat) "CheckDaemon$Line" "defines" "I") ∈ px_tbl := px_mem 480 (by decide +kernel) rfl
theorem px_w481 : (Jvm.Cond.fieldLink "CheckDaemon$Line" (21 : Nat) "CheckDaemon$Line" "declares" "I") ∈ px_tbl := px_mem 481 (by decide +kernel) rfl
theorem px_w482 : (Jvm.Cond.fieldLink "CheckDaemon$Line" (24 : Nat) "CheckDaemon$Line" "equalsAt" "I") ∈ px_tbl := px_mem 482 (by decide +kernel) rfl
theorem px_w483 : (Jvm.Cond.fieldLink "CheckDaemon$Line" (27 : Nat) "CheckDaemon$Line" "wrongAt" "I") ∈ px_tbl := px_mem 483 (by decide +kernel) rfl
theorem px_w484 : (Jvm.Cond.fieldLink "CheckDaemon$Line" (30 : Nat) "CheckDaemon$Line" "expression" "LCheckDaemon$Expression;") ∈ px_tbl := px_mem 484 (by decide +kernel) rfl
theorem px_w485 : (Jvm.Cond.fieldLink "CheckDaemon$Line" (39 : Nat) "CheckDaemon$Line" "faults" "LCheckDaemon$Faults;") ∈ px_tbl := px_mem 485 (by decide +kernel) rfl
theorem px_w486 : (Jvm.Cond.fieldLink "CheckDaemon$Line" (9 : Nat) "CheckDaemon$Line" "expressionType" "I") ∈ px_tbl := px_mem 486 (by decide +kernel) rfl
theorem px_w374 : (Jvm.Cond.fieldLink "CheckDaemon$Parser" (24 : Nat) "CheckDaemon$Parser" "text" "[I") ∈ px_tbl := px_mem 374 (by decide +kernel) rfl
theorem px_w375 : (Jvm.Cond.fieldLink "CheckDaemon$Parser" (37 : Nat) "CheckDaemon$Parser" "length" "I") ∈ px_tbl := px_mem 375 (by decide +kernel) rfl
theorem px_w376 : (Jvm.Cond.fieldLink "CheckDaemon$Parser" (40 : Nat) "CheckDaemon$Parser" "module" "I") ∈ px_tbl := px_mem 376 (by decide +kernel) rfl
theorem px_w377 : (Jvm.Cond.fieldLink "CheckDaemon$Parser" (48 : Nat) "CheckDaemon$Parser" "made" "LCheckDaemon$Expression;") ∈ px_tbl := px_mem 377 (by decide +kernel) rfl
theorem px_w378 : (Jvm.Cond.fieldLink "CheckDaemon$Parser" (9 : Nat) "CheckDaemon$Parser" "at" "I") ∈ px_tbl := px_mem 378 (by decide +kernel) rfl
theorem px_w379 : (Jvm.Cond.fieldLink "CheckDaemon$Parser" (15 : Nat) "CheckDaemon$Parser" "defines" "I") ∈ px_tbl := px_mem 379 (by decide +kernel) rfl
theorem px_w380 : (Jvm.Cond.fieldLink "CheckDaemon$Parser" (18 : Nat) "CheckDaemon$Parser" "declares" "I") ∈ px_tbl := px_mem 380 (by decide +kernel) rfl
theorem px_w381 : (Jvm.Cond.fieldLink "CheckDaemon$Parser" (21 : Nat) "CheckDaemon$Parser" "equalsAt" "I") ∈ px_tbl := px_mem 381 (by decide +kernel) rfl
theorem px_w121 : (Jvm.Cond.fieldLink "CheckDaemon$SymbolSet" (11 : Nat) "CheckDaemon$SymbolSet" "words" "[J") ∈ px_tbl := px_mem 121 (by decide +kernel) rfl
theorem px_w107 : (Jvm.Cond.fieldLink "CheckDaemon$Symbols" (9 : Nat) "CheckDaemon$Symbols" "types" "[I") ∈ px_tbl := px_mem 107 (by decide +kernel) rfl
theorem px_w108 : (Jvm.Cond.fieldLink "CheckDaemon$Symbols" (15 : Nat) "CheckDaemon$Symbols" "definers" "[I") ∈ px_tbl := px_mem 108 (by decide +kernel) rfl
theorem px_w155 : (Jvm.Cond.fieldLink "CheckDaemon$Workspace" (13 : Nat) "CheckDaemon$Workspace" "lines" "[LCheckDaemon$Line;") ∈ px_tbl := px_mem 155 (by decide +kernel) rfl
theorem px_w156 : (Jvm.Cond.fieldLink "CheckDaemon$Workspace" (22 : Nat) "CheckDaemon$Workspace" "symbols" "LCheckDaemon$Symbols;") ∈ px_tbl := px_mem 156 (by decide +kernel) rfl
theorem px_w157 : (Jvm.Cond.fieldLink "CheckDaemon$Workspace" (26 : Nat) "CheckDaemon$Workspace" "looked" "[Z") ∈ px_tbl := px_mem 157 (by decide +kernel) rfl
theorem px_w158 : (Jvm.Cond.fieldLink "CheckDaemon$Workspace" (30 : Nat) "CheckDaemon$Workspace" "waiting" "[Z") ∈ px_tbl := px_mem 158 (by decide +kernel) rfl
theorem px_w159 : (Jvm.Cond.fieldLink "CheckDaemon$Workspace" (36 : Nat) "CheckDaemon$Workspace" "touched" "LCheckDaemon$SymbolSet;") ∈ px_tbl := px_mem 159 (by decide +kernel) rfl
theorem px_w160 : (Jvm.Cond.fieldLink "CheckDaemon$Workspace" (40 : Nat) "CheckDaemon$Workspace" "touchedInOrder" "[I") ∈ px_tbl := px_mem 160 (by decide +kernel) rfl
theorem px_w161 : (Jvm.Cond.fieldLink "CheckDaemon$Workspace" (44 : Nat) "CheckDaemon$Workspace" "touchedSize" "I") ∈ px_tbl := px_mem 161 (by decide +kernel) rfl
theorem px_w162 : (Jvm.Cond.fieldLink "CheckDaemon$Workspace" (51 : Nat) "CheckDaemon$Workspace" "circles" "LCheckDaemon$Circles;") ∈ px_tbl := px_mem 162 (by decide +kernel) rfl
theorem px_w163 : (Jvm.Cond.fieldLink "CheckDaemon$Workspace" (55 : Nat) "CheckDaemon$Workspace" "circlesAreOld" "Z") ∈ px_tbl := px_mem 163 (by decide +kernel) rfl
theorem px_w200 : (Jvm.Cond.fieldLink "CheckDaemon" (9 : Nat) "CheckDaemon" "typed" "[I") ∈ px_tbl := px_mem 200 (by decide +kernel) rfl
theorem px_w201 : (Jvm.Cond.fieldLink "CheckDaemon" (13 : Nat) "CheckDaemon" "typedLength" "I") ∈ px_tbl := px_mem 201 (by decide +kernel) rfl
theorem px_w202 : (Jvm.Cond.fieldLink "CheckDaemon" (20 : Nat) "CheckDaemon" "workspace" "LCheckDaemon$Workspace;") ∈ px_tbl := px_mem 202 (by decide +kernel) rfl
theorem px_w203 : (Jvm.Cond.fieldLink "CheckDaemon" (27 : Nat) "CheckDaemon" "history" "LCheckDaemon$History;") ∈ px_tbl := px_mem 203 (by decide +kernel) rfl
theorem px_w866 : (Jvm.Cond.fieldLink "CheckDaemonModel" (88 : Nat) "CheckDaemonModel" "fault" "I") ∈ px_tbl := px_mem 866 (by decide +kernel) rfl
theorem px_w867 : (Jvm.Cond.fieldLink "CheckDaemonModel" (7 : Nat) "CheckDaemonModel" "typed" "[C") ∈ px_tbl := px_mem 867 (by decide +kernel) rfl
theorem px_w868 : (Jvm.Cond.fieldLink "CheckDaemonModel" (92 : Nat) "CheckDaemonModel" "typedSize" "I") ∈ px_tbl := px_mem 868 (by decide +kernel) rfl
theorem px_w869 : (Jvm.Cond.fieldLink "CheckDaemonModel" (13 : Nat) "CheckDaemonModel" "sizes" "[I") ∈ px_tbl := px_mem 869 (by decide +kernel) rfl
theorem px_w870 : (Jvm.Cond.fieldLink "CheckDaemonModel" (17 : Nat) "CheckDaemonModel" "texts" "[C") ∈ px_tbl := px_mem 870 (by decide +kernel) rfl
theorem px_w871 : (Jvm.Cond.fieldLink "CheckDaemonModel" (20 : Nat) "CheckDaemonModel" "wrongAt" "[I") ∈ px_tbl := px_mem 871 (by decide +kernel) rfl
theorem px_w872 : (Jvm.Cond.fieldLink "CheckDaemonModel" (23 : Nat) "CheckDaemonModel" "defines" "[I") ∈ px_tbl := px_mem 872 (by decide +kernel) rfl
theorem px_w873 : (Jvm.Cond.fieldLink "CheckDaemonModel" (26 : Nat) "CheckDaemonModel" "words" "[I") ∈ px_tbl := px_mem 873 (by decide +kernel) rfl
theorem px_w874 : (Jvm.Cond.fieldLink "CheckDaemonModel" (29 : Nat) "CheckDaemonModel" "equalAt" "[I") ∈ px_tbl := px_mem 874 (by decide +kernel) rfl
theorem px_w875 : (Jvm.Cond.fieldLink "CheckDaemonModel" (32 : Nat) "CheckDaemonModel" "stepCount" "[I") ∈ px_tbl := px_mem 875 (by decide +kernel) rfl
theorem px_w876 : (Jvm.Cond.fieldLink "CheckDaemonModel" (35 : Nat) "CheckDaemonModel" "stepKind" "[I") ∈ px_tbl := px_mem 876 (by decide +kernel) rfl
theorem px_w877 : (Jvm.Cond.fieldLink "CheckDaemonModel" (38 : Nat) "CheckDaemonModel" "stepWith" "[I") ∈ px_tbl := px_mem 877 (by decide +kernel) rfl
theorem px_w878 : (Jvm.Cond.fieldLink "CheckDaemonModel" (41 : Nat) "CheckDaemonModel" "stepAt" "[I") ∈ px_tbl := px_mem 878 (by decide +kernel) rfl
theorem px_w879 : (Jvm.Cond.fieldLink "CheckDaemonModel" (44 : Nat) "CheckDaemonModel" "typeOf" "[I") ∈ px_tbl := px_mem 879 (by decide +kernel) rfl
theorem px_w880 : (Jvm.Cond.fieldLink "CheckDaemonModel" (47 : Nat) "CheckDaemonModel" "types" "[I") ∈ px_tbl := px_mem 880 (by decide +kernel) rfl
theorem px_w881 : (Jvm.Cond.fieldLink "CheckDaemonModel" (50 : Nat) "CheckDaemonModel" "isDefined" "[Z") ∈ px_tbl := px_mem 881 (by decide +kernel) rfl
theorem px_w882 : (Jvm.Cond.fieldLink "CheckDaemonModel" (164 : Nat) "CheckDaemonModel" "found" "I") ∈ px_tbl := px_mem 882 (by decide +kernel) rfl
theorem px_w883 : (Jvm.Cond.fieldLink "CheckDaemonModel" (54 : Nat) "CheckDaemonModel" "foundLine" "[I") ∈ px_tbl := px_mem 883 (by decide +kernel) rfl
theorem px_w884 : (Jvm.Cond.fieldLink "CheckDaemonModel" (57 : Nat) "CheckDaemonModel" "foundAt" "[I") ∈ px_tbl := px_mem 884 (by decide +kernel) rfl
theorem px_w885 : (Jvm.Cond.fieldLink "CheckDaemonModel" (60 : Nat) "CheckDaemonModel" "foundCode" "[I") ∈ px_tbl := px_mem 885 (by decide +kernel) rfl
theorem px_w886 : (Jvm.Cond.fieldLink "CheckDaemonModel" (199 : Nat) "CheckDaemonModel" "undos" "I") ∈ px_tbl := px_mem 886 (by decide +kernel) rfl
theorem px_w887 : (Jvm.Cond.fieldLink "CheckDaemonModel" (63 : Nat) "CheckDaemonModel" "undoLine" "[I") ∈ px_tbl := px_mem 887 (by decide +kernel) rfl
theorem px_w888 : (Jvm.Cond.fieldLink "CheckDaemonModel" (66 : Nat) "CheckDaemonModel" "undoSize" "[I") ∈ px_tbl := px_mem 888 (by decide +kernel) rfl
theorem px_w889 : (Jvm.Cond.fieldLink "CheckDaemonModel" (69 : Nat) "CheckDaemonModel" "undoText" "[C") ∈ px_tbl := px_mem 889 (by decide +kernel) rfl
theorem px_w890 : (Jvm.Cond.fieldLink "CheckDaemonModel" (205 : Nat) "CheckDaemonModel" "isKnown" "Z") ∈ px_tbl := px_mem 890 (by decide +kernel) rfl
theorem px_w891 : (Jvm.Cond.fieldLink "CheckDaemonModel" (73 : Nat) "CheckDaemonModel" "hangs" "[Z") ∈ px_tbl := px_mem 891 (by decide +kernel) rfl
theorem px_w892 : (Jvm.Cond.fieldLink "CheckDaemonModel" (76 : Nat) "CheckDaemonModel" "isLooked" "[Z") ∈ px_tbl := px_mem 892 (by decide +kernel) rfl
theorem px_w893 : (Jvm.Cond.fieldLink "CheckDaemonModel" (79 : Nat) "CheckDaemonModel" "isStale" "[Z") ∈ px_tbl := px_mem 893 (by decide +kernel) rfl
theorem px_w894 : (Jvm.Cond.fieldLink "CheckDaemonModel" (106 : Nat) "CheckDaemonModel" "at" "I") ∈ px_tbl := px_mem 894 (by decide +kernel) rfl
theorem px_w895 : (Jvm.Cond.fieldLink "CheckDaemonModel" (103 : Nat) "CheckDaemonModel" "line" "I") ∈ px_tbl := px_mem 895 (by decide +kernel) rfl
theorem px_w896 : (Jvm.Cond.fieldLink "CheckDaemonModel" (125 : Nat) "CheckDaemonModel" "depth" "I") ∈ px_tbl := px_mem 896 (by decide +kernel) rfl
theorem px_w897 : (Jvm.Cond.fieldLink "CheckDaemonModel" (82 : Nat) "CheckDaemonModel" "open" "[I") ∈ px_tbl := px_mem 897 (by decide +kernel) rfl
theorem px_w898 : (Jvm.Cond.fieldLink "CheckDaemonModel" (85 : Nat) "CheckDaemonModel" "pile" "[I") ∈ px_tbl := px_mem 898 (by decide +kernel) rfl
theorem px_w899 : (Jvm.Cond.fieldLink "CheckDaemonModel" (167 : Nat) "CheckDaemonModel" "top" "I") ∈ px_tbl := px_mem 899 (by decide +kernel) rfl
theorem px_w118 : (Jvm.Cond.instanceMethod ({ cls := "CheckDaemon$SymbolSet", name := "<init>", desc := "()V" } : Jvm.MethodName)) ∈ px_tbl := px_mem 118 (by decide +kernel) rfl
set_option maxRecDepth 20000 in
theorem px_w119 : (Jvm.Cond.code ({ cls := "CheckDaemon$SymbolSet", name := "<init>", desc := "()V" } : Jvm.MethodName) prog_9_method_1_code (1 : Nat) (Option.none : Option Jvm.ClassFile.FieldType)) ∈ px_tbl := px_mem 119 rfl rfl
theorem px_w69 : (Jvm.Cond.initialized "CheckDaemon$SymbolSet") ∈ px_tbl := px_mem 69 (by decide +kernel) rfl
theorem px_w737 : (Jvm.Cond.methodLink "CheckDaemon$Circles" (35 : Nat) ({ cls := "CheckDaemon$Circles", name := "listDefined", desc := "(LCheckDaemon$Symbols;)V" } : Jvm.MethodName)) ∈ px_tbl := px_mem 737 (by decide +kernel) rfl
theorem px_w739 : (Jvm.Cond.instanceMethod ({ cls := "CheckDaemon$Circles", name := "listDefined", desc := "(LCheckDaemon$Symbols;)V" } : Jvm.MethodName)) ∈ px_tbl := px_mem 739 (by decide +kernel) rfl
theorem px_w29 : Cond.selects "CheckDaemon$Circles" ⟨"CheckDaemon$Circles", "listDefined", "(LCheckDaemon$Symbols;)V"⟩ ⟨"CheckDaemon$Circles", "listDefined", "(LCheckDaemon$Symbols;)V"⟩ ∈ px_tbl := px_mem 29 (by decide +kernel) rfl
set_option maxRecDepth 20000 in
theorem px_w740 : (Jvm.Cond.code ({ cls := "CheckDaemon$Circles", name := "listDefined", desc := "(LCheckDaemon$Symbols;)V" } : Jvm.MethodName) prog_2_method_6_code (3 : Nat) (Option.none : Option Jvm.ClassFile.FieldType)) ∈ px_tbl := px_mem 740 rfl rfl
theorem px_w70 : (Jvm.Cond.initialized "CheckDaemon$Circles") ∈ px_tbl := px_mem 70 (by decide +kernel) rfl
theorem px_w741 : (Jvm.Cond.methodLink "CheckDaemon$Circles" (49 : Nat) ({ cls := "CheckDaemon$SymbolSet", name := "clear", desc := "()V" } : Jvm.MethodName)) ∈ px_tbl := px_mem 741 (by decide +kernel) rfl
theorem px_w530 : (Jvm.Cond.instanceMethod ({ cls := "CheckDaemon$SymbolSet", name := "clear", desc := "()V" } : Jvm.MethodName)) ∈ px_tbl := px_mem 530 (by decide +kernel) rfl
theorem px_w531 : (Jvm.Cond.selects "CheckDaemon$SymbolSet" ({ cls := "CheckDaemon$SymbolSet", name := "clear", desc := "()V" } : Jvm.MethodName) ({ cls := "CheckDaemon$SymbolSet", name := "clear", desc := "()V" } : Jvm.MethodName)) ∈ px_tbl := px_mem 531 (by decide +kernel) rfl
set_option maxRecDepth 20000 in
theorem px_w532 : (Jvm.Cond.code ({ cls := "CheckDaemon$SymbolSet", name := "clear", desc := "()V" } : Jvm.MethodName) prog_9_method_5_code (2 : Nat) (Option.none : Option Jvm.ClassFile.FieldType)) ∈ px_tbl := px_mem 532 rfl rfl
theorem px_w742 : (Jvm.Cond.methodLink "CheckDaemon$Circles" (52 : Nat) ({ cls := "CheckDaemon$Symbols", name := "definersOf", desc := "(I)I" } : Jvm.MethodName)) ∈ px_tbl := px_mem 742 (by decide +kernel) rfl
theorem px_w661 : (Jvm.Cond.instanceMethod ({ cls := "CheckDaemon$Symbols", name := "definersOf", desc := "(I)I" } : Jvm.MethodName)) ∈ px_tbl := px_mem 661 (by decide +kernel) rfl
theorem px_w662 : (Jvm.Cond.selects "CheckDaemon$Symbols" ({ cls := "CheckDaemon$Symbols", name := "definersOf", desc := "(I)I" } : Jvm.MethodName) ({ cls := "CheckDaemon$Symbols", name := "definersOf", desc := "(I)I" } : Jvm.MethodName)) ∈ px_tbl := px_mem 662 (by decide +kernel) rfl
set_option maxRecDepth 20000 in
theorem px_w663 : (Jvm.Cond.code ({ cls := "CheckDaemon$Symbols", name := "definersOf", desc := "(I)I" } : Jvm.MethodName) prog_10_method_4_code (2 : Nat) (Option.some Jvm.ClassFile.FieldType.int)) ∈ px_tbl := px_mem 663 rfl rfl
theorem px_w68 : (Jvm.Cond.initialized "CheckDaemon$Symbols") ∈ px_tbl := px_mem 68 (by decide +kernel) rfl
theorem px_w743 : (Jvm.Cond.methodLink "CheckDaemon$Circles" (39 : Nat) ({ cls := "CheckDaemon$Circles", name := "gatherReads", desc := "([LCheckDaemon$Line;)V" } : Jvm.MethodName)) ∈ px_tbl := px_mem 743 (by decide +kernel) rfl
theorem px_w745 : (Jvm.Cond.instanceMethod ({ cls := "CheckDaemon$Circles", name := "gatherReads", desc := "([LCheckDaemon$Line;)V" } : Jvm.MethodName)) ∈ px_tbl := px_mem 745 (by decide +kernel) rfl
theorem px_w30 : Cond.selects "CheckDaemon$Circles" ⟨"CheckDaemon$Circles", "gatherReads", "([LCheckDaemon$Line;)V"⟩ ⟨"CheckDaemon$Circles", "gatherReads", "([LCheckDaemon$Line;)V"⟩ ∈ px_tbl := px_mem 30 (by decide +kernel) rfl
set_option maxRecDepth 20000 in
theorem px_w746 : (Jvm.Cond.code ({ cls := "CheckDaemon$Circles", name := "gatherReads", desc := "([LCheckDaemon$Line;)V" } : Jvm.MethodName) prog_2_method_7_code (5 : Nat) (Option.none : Option Jvm.ClassFile.FieldType)) ∈ px_tbl := px_mem 746 rfl rfl
theorem px_w747 : (Jvm.Cond.methodLink "CheckDaemon$Circles" (58 : Nat) ({ cls := "CheckDaemon$Line", name := "defined", desc := "()I" } : Jvm.MethodName)) ∈ px_tbl := px_mem 747 (by decide +kernel) rfl
theorem px_w538 : (Jvm.Cond.instanceMethod ({ cls := "CheckDaemon$Line", name := "defined", desc := "()I" } : Jvm.MethodName)) ∈ px_tbl := px_mem 538 (by decide +kernel) rfl
theorem px_w539 : (Jvm.Cond.selects "CheckDaemon$Line" ({ cls := "CheckDaemon$Line", name := "defined", desc := "()I" } : Jvm.MethodName) ({ cls := "CheckDaemon$Line", name := "defined", desc := "()I" } : Jvm.MethodName)) ∈ px_tbl := px_mem 539 (by decide +kernel) rfl
set_option maxRecDepth 20000 in
theorem px_w540 : (Jvm.Cond.code ({ cls := "CheckDaemon$Line", name := "defined", desc := "()I" } : Jvm.MethodName) prog_7_method_3_code (1 : Nat) (Option.some Jvm.ClassFile.FieldType.int)) ∈ px_tbl := px_mem 540 rfl rfl
theorem px_w82 : (Jvm.Cond.initialized "CheckDaemon$Line") ∈ px_tbl := px_mem 82 (by decide +kernel) rfl
theorem px_w748 : (Jvm.Cond.methodLink "CheckDaemon$Circles" (63 : Nat) ({ cls := "CheckDaemon$Line", name := "symbolsRead", desc := "()LCheckDaemon$SymbolSet;" } : Jvm.MethodName)) ∈ px_tbl := px_mem 748 (by decide +kernel) rfl
theorem px_w749 : (Jvm.Cond.instanceMethod ({ cls := "CheckDaemon$Line", name := "symbolsRead", desc := "()LCheckDaemon$SymbolSet;" } : Jvm.MethodName)) ∈ px_tbl := px_mem 749 (by decide +kernel) rfl
theorem px_w750 : (Jvm.Cond.selects "CheckDaemon$Line" ({ cls := "CheckDaemon$Line", name := "symbolsRead", desc := "()LCheckDaemon$SymbolSet;" } : Jvm.MethodName) ({ cls := "CheckDaemon$Line", name := "symbolsRead", desc := "()LCheckDaemon$SymbolSet;" } : Jvm.MethodName)) ∈ px_tbl := px_mem 750 (by decide +kernel) rfl
set_option maxRecDepth 20000 in
theorem px_w751 : (Jvm.Cond.code ({ cls := "CheckDaemon$Line", name := "symbolsRead", desc := "()LCheckDaemon$SymbolSet;" } : Jvm.MethodName) prog_7_method_5_code (1 : Nat) (Option.some (Jvm.ClassFile.FieldType.object "CheckDaemon$SymbolSet"))) ∈ px_tbl := px_mem 751 rfl rfl
theorem px_w752 : (Jvm.Cond.methodLink "CheckDaemon$Circles" (67 : Nat) ({ cls := "CheckDaemon$SymbolSet", name := "addAll", desc := "(LCheckDaemon$SymbolSet;)V" } : Jvm.MethodName)) ∈ px_tbl := px_mem 752 (by decide +kernel) rfl
theorem px_w753 : (Jvm.Cond.instanceMethod ({ cls := "CheckDaemon$SymbolSet", name := "addAll", desc := "(LCheckDaemon$SymbolSet;)V" } : Jvm.MethodName)) ∈ px_tbl := px_mem 753 (by decide +kernel) rfl
theorem px_w754 : (Jvm.Cond.selects "CheckDaemon$SymbolSet" ({ cls := "CheckDaemon$SymbolSet", name := "addAll", desc := "(LCheckDaemon$SymbolSet;)V" } : Jvm.MethodName) ({ cls := "CheckDaemon$SymbolSet", name := "addAll", desc := "(LCheckDaemon$SymbolSet;)V" } : Jvm.MethodName)) ∈ px_tbl := px_mem 754 (by decide +kernel) rfl
set_option maxRecDepth 20000 in
theorem px_w755 : (Jvm.Cond.code ({ cls := "CheckDaemon$SymbolSet", name := "addAll", desc := "(LCheckDaemon$SymbolSet;)V" } : Jvm.MethodName) prog_9_method_4_code (3 : Nat) (Option.none : Option Jvm.ClassFile.FieldType)) ∈ px_tbl := px_mem 755 rfl rfl
theorem px_w756 : (Jvm.Cond.methodLink "CheckDaemon$Circles" (43 : Nat) ({ cls := "CheckDaemon$Circles", name := "followOn", desc := "()V" } : Jvm.MethodName)) ∈ px_tbl := px_mem 756 (by decide +kernel) rfl
theorem px_w758 : (Jvm.Cond.instanceMethod ({ cls := "CheckDaemon$Circles", name := "followOn", desc := "()V" } : Jvm.MethodName)) ∈ px_tbl := px_mem 758 (by decide +kernel) rfl
theorem px_w31 : Cond.selects "CheckDaemon$Circles" ⟨"CheckDaemon$Circles", "followOn", "()V"⟩ ⟨"CheckDaemon$Circles", "followOn", "()V"⟩ ∈ px_tbl := px_mem 31 (by decide +kernel) rfl
set_option maxRecDepth 20000 in
theorem px_w759 : (Jvm.Cond.code ({ cls := "CheckDaemon$Circles", name := "followOn", desc := "()V" } : Jvm.MethodName) prog_2_method_8_code (5 : Nat) (Option.none : Option Jvm.ClassFile.FieldType)) ∈ px_tbl := px_mem 759 rfl rfl
theorem px_w760 : (Jvm.Cond.methodLink "CheckDaemon$Circles" (71 : Nat) ({ cls := "CheckDaemon$SymbolSet", name := "has", desc := "(I)Z" } : Jvm.MethodName)) ∈ px_tbl := px_mem 760 (by decide +kernel) rfl
theorem px_w553 : (Jvm.Cond.instanceMethod ({ cls := "CheckDaemon$SymbolSet", name := "has", desc := "(I)Z" } : Jvm.MethodName)) ∈ px_tbl := px_mem 553 (by decide +kernel) rfl
theorem px_w554 : (Jvm.Cond.selects "CheckDaemon$SymbolSet" ({ cls := "CheckDaemon$SymbolSet", name := "has", desc := "(I)Z" } : Jvm.MethodName) ({ cls := "CheckDaemon$SymbolSet", name := "has", desc := "(I)Z" } : Jvm.MethodName)) ∈ px_tbl := px_mem 554 (by decide +kernel) rfl
set_option maxRecDepth 20000 in
theorem px_w555 : (Jvm.Cond.code ({ cls := "CheckDaemon$SymbolSet", name := "has", desc := "(I)Z" } : Jvm.MethodName) prog_9_method_3_code (2 : Nat) (Option.some Jvm.ClassFile.FieldType.boolean)) ∈ px_tbl := px_mem 555 rfl rfl
theorem px_w761 : (Jvm.Cond.methodLink "CheckDaemon$Circles" (46 : Nat) ({ cls := "CheckDaemon$Circles", name := "group", desc := "()V" } : Jvm.MethodName)) ∈ px_tbl := px_mem 761 (by decide +kernel) rfl
theorem px_w763 : (Jvm.Cond.instanceMethod ({ cls := "CheckDaemon$Circles", name := "group", desc := "()V" } : Jvm.MethodName)) ∈ px_tbl := px_mem 763 (by decide +kernel) rfl
theorem px_w32 : Cond.selects "CheckDaemon$Circles" ⟨"CheckDaemon$Circles", "group", "()V"⟩ ⟨"CheckDaemon$Circles", "group", "()V"⟩ ∈ px_tbl := px_mem 32 (by decide +kernel) rfl
set_option maxRecDepth 20000 in
theorem px_w764 : (Jvm.Cond.code ({ cls := "CheckDaemon$Circles", name := "group", desc := "()V" } : Jvm.MethodName) prog_2_method_9_code (3 : Nat) (Option.none : Option Jvm.ClassFile.FieldType)) ∈ px_tbl := px_mem 764 rfl rfl
theorem px_w765 : (Jvm.Cond.methodLink "CheckDaemon$Circles" (75 : Nat) ({ cls := "CheckDaemon$Circles", name := "findLeast", desc := "(II)I" } : Jvm.MethodName)) ∈ px_tbl := px_mem 765 (by decide +kernel) rfl
theorem px_w767 : (Jvm.Cond.instanceMethod ({ cls := "CheckDaemon$Circles", name := "findLeast", desc := "(II)I" } : Jvm.MethodName)) ∈ px_tbl := px_mem 767 (by decide +kernel) rfl
theorem px_w33 : Cond.selects "CheckDaemon$Circles" ⟨"CheckDaemon$Circles", "findLeast", "(II)I"⟩ ⟨"CheckDaemon$Circles", "findLeast", "(II)I"⟩ ∈ px_tbl := px_mem 33 (by decide +kernel) rfl
set_option maxRecDepth 20000 in
theorem px_w768 : (Jvm.Cond.code ({ cls := "CheckDaemon$Circles", name := "findLeast", desc := "(II)I" } : Jvm.MethodName) prog_2_method_10_code (6 : Nat) (Option.some Jvm.ClassFile.FieldType.int)) ∈ px_tbl := px_mem 768 rfl rfl
theorem px_w598 : (Jvm.Cond.methodLink "CheckDaemon$Expression" (38 : Nat) ({ cls := "CheckDaemon$Expression", name := "valueOf", desc := "(ILCheckDaemon$Symbols;)I" } : Jvm.MethodName)) ∈ px_tbl := px_mem 598 (by decide +kernel) rfl
theorem px_w600 : (Jvm.Cond.instanceMethod ({ cls := "CheckDaemon$Expression", name := "valueOf", desc := "(ILCheckDaemon$Symbols;)I" } : Jvm.MethodName)) ∈ px_tbl := px_mem 600 (by decide +kernel) rfl
theorem px_w21 : Cond.selects "CheckDaemon$Expression" ⟨"CheckDaemon$Expression", "valueOf", "(ILCheckDaemon$Symbols;)I"⟩ ⟨"CheckDaemon$Expression", "valueOf", "(ILCheckDaemon$Symbols;)I"⟩ ∈ px_tbl := px_mem 21 (by decide +kernel) rfl
set_option maxRecDepth 20000 in
theorem px_w601 : (Jvm.Cond.code ({ cls := "CheckDaemon$Expression", name := "valueOf", desc := "(ILCheckDaemon$Symbols;)I" } : Jvm.MethodName) prog_3_method_5_code (5 : Nat) (Option.some Jvm.ClassFile.FieldType.int)) ∈ px_tbl := px_mem 601 rfl rfl
theorem px_w80 : (Jvm.Cond.initialized "CheckDaemon$Expression") ∈ px_tbl := px_mem 80 (by decide +kernel) rfl
theorem px_w602 : (Jvm.Cond.methodLink "CheckDaemon$Expression" (46 : Nat) ({ cls := "CheckDaemon$Symbols", name := "typeOf", desc := "(I)I" } : Jvm.MethodName)) ∈ px_tbl := px_mem 602 (by decide +kernel) rfl
theorem px_w603 : (Jvm.Cond.instanceMethod ({ cls := "CheckDaemon$Symbols", name := "typeOf", desc := "(I)I" } : Jvm.MethodName)) ∈ px_tbl := px_mem 603 (by decide +kernel) rfl
theorem px_w604 : (Jvm.Cond.selects "CheckDaemon$Symbols" ({ cls := "CheckDaemon$Symbols", name := "typeOf", desc := "(I)I" } : Jvm.MethodName) ({ cls := "CheckDaemon$Symbols", name := "typeOf", desc := "(I)I" } : Jvm.MethodName)) ∈ px_tbl := px_mem 604 (by decide +kernel) rfl
set_option maxRecDepth 20000 in
theorem px_w605 : (Jvm.Cond.code ({ cls := "CheckDaemon$Symbols", name := "typeOf", desc := "(I)I" } : Jvm.MethodName) prog_10_method_3_code (2 : Nat) (Option.some Jvm.ClassFile.FieldType.int)) ∈ px_tbl := px_mem 605 rfl rfl
theorem px_w606 : (Jvm.Cond.methodLink "CheckDaemon$Expression" (42 : Nat) ({ cls := "CheckDaemon$Expression", name := "valueAt", desc := "(I)I" } : Jvm.MethodName)) ∈ px_tbl := px_mem 606 (by decide +kernel) rfl
theorem px_w608 : (Jvm.Cond.instanceMethod ({ cls := "CheckDaemon$Expression", name := "valueAt", desc := "(I)I" } : Jvm.MethodName)) ∈ px_tbl := px_mem 608 (by decide +kernel) rfl
theorem px_w22 : Cond.selects "CheckDaemon$Expression" ⟨"CheckDaemon$Expression", "valueAt", "(I)I"⟩ ⟨"CheckDaemon$Expression", "valueAt", "(I)I"⟩ ∈ px_tbl := px_mem 22 (by decide +kernel) rfl
set_option maxRecDepth 20000 in
theorem px_w609 : (Jvm.Cond.code ({ cls := "CheckDaemon$Expression", name := "valueAt", desc := "(I)I" } : Jvm.MethodName) prog_3_method_4_code (2 : Nat) (Option.some Jvm.ClassFile.FieldType.int)) ∈ px_tbl := px_mem 609 rfl rfl
theorem px_w610 : (Jvm.Cond.methodLink "CheckDaemon$Expression" (51 : Nat) ({ cls := "CheckDaemon$Forms", name := "listed", desc := "(I)I" } : Jvm.MethodName)) ∈ px_tbl := px_mem 610 (by decide +kernel) rfl
theorem px_w611 : (Jvm.Cond.static ({ cls := "CheckDaemon$Forms", name := "listed", desc := "(I)I" } : Jvm.MethodName)) ∈ px_tbl := px_mem 611 (by decide +kernel) rfl
set_option maxRecDepth 20000 in
theorem px_w612 : (Jvm.Cond.code ({ cls := "CheckDaemon$Forms", name := "listed", desc := "(I)I" } : Jvm.MethodName) prog_5_method_4_code (3 : Nat) (Option.some Jvm.ClassFile.FieldType.int)) ∈ px_tbl := px_mem 612 rfl rfl
theorem px_w81 : (Jvm.Cond.initialized "CheckDaemon$Forms") ∈ px_tbl := px_mem 81 (by decide +kernel) rfl
theorem px_w617 : (Jvm.Cond.methodLink "CheckDaemon$Expression" (56 : Nat) ({ cls := "CheckDaemon$Forms", name := "unlisted", desc := "(I)I" } : Jvm.MethodName)) ∈ px_tbl := px_mem 617 (by decide +kernel) rfl
theorem px_w618 : (Jvm.Cond.static ({ cls := "CheckDaemon$Forms", name := "unlisted", desc := "(I)I" } : Jvm.MethodName)) ∈ px_tbl := px_mem 618 (by decide +kernel) rfl
set_option maxRecDepth 20000 in
theorem px_w619 : (Jvm.Cond.code ({ cls := "CheckDaemon$Forms", name := "unlisted", desc := "(I)I" } : Jvm.MethodName) prog_5_method_5_code (1 : Nat) (Option.some Jvm.ClassFile.FieldType.int)) ∈ px_tbl := px_mem 619 rfl rfl
theorem px_w620 : (Jvm.Cond.methodLink "CheckDaemon$Expression" (59 : Nat) ({ cls := "CheckDaemon$Forms", name := "withoutNil", desc := "(I)I" } : Jvm.MethodName)) ∈ px_tbl := px_mem 620 (by decide +kernel) rfl
theorem px_w621 : (Jvm.Cond.static ({ cls := "CheckDaemon$Forms", name := "withoutNil", desc := "(I)I" } : Jvm.MethodName)) ∈ px_tbl := px_mem 621 (by decide +kernel) rfl
set_option maxRecDepth 20000 in
theorem px_w622 : (Jvm.Cond.code ({ cls := "CheckDaemon$Forms", name := "withoutNil", desc := "(I)I" } : Jvm.MethodName) prog_5_method_7_code (1 : Nat) (Option.some Jvm.ClassFile.FieldType.int)) ∈ px_tbl := px_mem 622 rfl rfl
theorem px_w623 : (Jvm.Cond.methodLink "CheckDaemon$Expression" (62 : Nat) ({ cls := "CheckDaemon$Forms", name := "narrowed", desc := "(II)I" } : Jvm.MethodName)) ∈ px_tbl := px_mem 623 (by decide +kernel) rfl
theorem px_w624 : (Jvm.Cond.static ({ cls := "CheckDaemon$Forms", name := "narrowed", desc := "(II)I" } : Jvm.MethodName)) ∈ px_tbl := px_mem 624 (by decide +kernel) rfl
set_option maxRecDepth 20000 in
theorem px_w625 : (Jvm.Cond.code ({ cls := "CheckDaemon$Forms", name := "narrowed", desc := "(II)I" } : Jvm.MethodName) prog_5_method_8_code (3 : Nat) (Option.some Jvm.ClassFile.FieldType.int)) ∈ px_tbl := px_mem 625 rfl rfl
theorem px_w626 : (Jvm.Cond.methodLink "CheckDaemon$Expression" (66 : Nat) ({ cls := "CheckDaemon$Forms", name := "sum", desc := "(II)I" } : Jvm.MethodName)) ∈ px_tbl := px_mem 626 (by decide +kernel) rfl
theorem px_w627 : (Jvm.Cond.static ({ cls := "CheckDaemon$Forms", name := "sum", desc := "(II)I" } : Jvm.MethodName)) ∈ px_tbl := px_mem 627 (by decide +kernel) rfl
set_option maxRecDepth 20000 in
theorem px_w628 : (Jvm.Cond.code ({ cls := "CheckDaemon$Forms", name := "sum", desc := "(II)I" } : Jvm.MethodName) prog_5_method_9_code (6 : Nat) (Option.some Jvm.ClassFile.FieldType.int)) ∈ px_tbl := px_mem 628 rfl rfl
theorem px_w656 : (Jvm.Cond.methodLink "CheckDaemon$Expression" (69 : Nat) ({ cls := "CheckDaemon$Expression", name := "faultOf", desc := "(ILCheckDaemon$Symbols;)I" } : Jvm.MethodName)) ∈ px_tbl := px_mem 656 (by decide +kernel) rfl
theorem px_w658 : (Jvm.Cond.instanceMethod ({ cls := "CheckDaemon$Expression", name := "faultOf", desc := "(ILCheckDaemon$Symbols;)I" } : Jvm.MethodName)) ∈ px_tbl := px_mem 658 (by decide +kernel) rfl
theorem px_w25 : Cond.selects "CheckDaemon$Expression" ⟨"CheckDaemon$Expression", "faultOf", "(ILCheckDaemon$Symbols;)I"⟩ ⟨"CheckDaemon$Expression", "faultOf", "(ILCheckDaemon$Symbols;)I"⟩ ∈ px_tbl := px_mem 25 (by decide +kernel) rfl
set_option maxRecDepth 20000 in
theorem px_w659 : (Jvm.Cond.code ({ cls := "CheckDaemon$Expression", name := "faultOf", desc := "(ILCheckDaemon$Symbols;)I" } : Jvm.MethodName) prog_3_method_7_code (3 : Nat) (Option.some Jvm.ClassFile.FieldType.int)) ∈ px_tbl := px_mem 659 rfl rfl
theorem px_w660 : (Jvm.Cond.methodLink "CheckDaemon$Expression" (78 : Nat) ({ cls := "CheckDaemon$Symbols", name := "definersOf", desc := "(I)I" } : Jvm.MethodName)) ∈ px_tbl := px_mem 660 (by decide +kernel) rfl
theorem px_w664 : (Jvm.Cond.methodLink "CheckDaemon$Expression" (81 : Nat) ({ cls := "CheckDaemon$Forms", name := "unlistingLoses", desc := "(I)Z" } : Jvm.MethodName)) ∈ px_tbl := px_mem 664 (by decide +kernel) rfl
theorem px_w665 : (Jvm.Cond.static ({ cls := "CheckDaemon$Forms", name := "unlistingLoses", desc := "(I)Z" } : Jvm.MethodName)) ∈ px_tbl := px_mem 665 (by decide +kernel) rfl
set_option maxRecDepth 20000 in
theorem px_w666 : (Jvm.Cond.code ({ cls := "CheckDaemon$Forms", name := "unlistingLoses", desc := "(I)Z" } : Jvm.MethodName) prog_5_method_6_code (1 : Nat) (Option.some Jvm.ClassFile.FieldType.boolean)) ∈ px_tbl := px_mem 666 rfl rfl
theorem px_w667 : (Jvm.Cond.methodLink "CheckDaemon$Expression" (85 : Nat) ({ cls := "CheckDaemon$Forms", name := "summingLoses", desc := "(II)Z" } : Jvm.MethodName)) ∈ px_tbl := px_mem 667 (by decide +kernel) rfl
theorem px_w668 : (Jvm.Cond.static ({ cls := "CheckDaemon$Forms", name := "summingLoses", desc := "(II)Z" } : Jvm.MethodName)) ∈ px_tbl := px_mem 668 (by decide +kernel) rfl
set_option maxRecDepth 20000 in
theorem px_w669 : (Jvm.Cond.code ({ cls := "CheckDaemon$Forms", name := "summingLoses", desc := "(II)Z" } : Jvm.MethodName) prog_5_method_11_code (7 : Nat) (Option.some Jvm.ClassFile.FieldType.boolean)) ∈ px_tbl := px_mem 669 rfl rfl
theorem px_w670 : (Jvm.Cond.methodLink "CheckDaemon$Expression" (72 : Nat) ({ cls := "CheckDaemon$Faults", name := "add", desc := "(II)V" } : Jvm.MethodName)) ∈ px_tbl := px_mem 670 (by decide +kernel) rfl
theorem px_w649 : (Jvm.Cond.instanceMethod ({ cls := "CheckDaemon$Faults", name := "add", desc := "(II)V" } : Jvm.MethodName)) ∈ px_tbl := px_mem 649 (by decide +kernel) rfl
theorem px_w650 : (Jvm.Cond.selects "CheckDaemon$Faults" ({ cls := "CheckDaemon$Faults", name := "add", desc := "(II)V" } : Jvm.MethodName) ({ cls := "CheckDaemon$Faults", name := "add", desc := "(II)V" } : Jvm.MethodName)) ∈ px_tbl := px_mem 650 (by decide +kernel) rfl
set_option maxRecDepth 20000 in
theorem px_w651 : (Jvm.Cond.code ({ cls := "CheckDaemon$Faults", name := "add", desc := "(II)V" } : Jvm.MethodName) prog_4_method_3_code (3 : Nat) (Option.none : Option Jvm.ClassFile.FieldType)) ∈ px_tbl := px_mem 651 rfl rfl
theorem px_w83 : (Jvm.Cond.initialized "CheckDaemon$Faults") ∈ px_tbl := px_mem 83 (by decide +kernel) rfl
theorem px_w827 : (Jvm.Cond.methodLink "CheckDaemon$Faults" (19 : Nat) ({ cls := "CheckDaemon$Faults", name := "placeOf", desc := "(I)I" } : Jvm.MethodName)) ∈ px_tbl := px_mem 827 (by decide +kernel) rfl
theorem px_w820 : (Jvm.Cond.instanceMethod ({ cls := "CheckDaemon$Faults", name := "placeOf", desc := "(I)I" } : Jvm.MethodName)) ∈ px_tbl := px_mem 820 (by decide +kernel) rfl
theorem px_w821 : (Jvm.Cond.selects "CheckDaemon$Faults" ({ cls := "CheckDaemon$Faults", name := "placeOf", desc := "(I)I" } : Jvm.MethodName) ({ cls := "CheckDaemon$Faults", name := "placeOf", desc := "(I)I" } : Jvm.MethodName)) ∈ px_tbl := px_mem 821 (by decide +kernel) rfl
set_option maxRecDepth 20000 in
theorem px_w822 : (Jvm.Cond.code ({ cls := "CheckDaemon$Faults", name := "placeOf", desc := "(I)I" } : Jvm.MethodName) prog_4_method_5_code (4 : Nat) (Option.some Jvm.ClassFile.FieldType.int)) ∈ px_tbl := px_mem 822 rfl rfl
theorem px_w517 : (Jvm.Cond.methodLink "CheckDaemon$History" (25 : Nat) ({ cls := "CheckDaemon$History", name := "loseOldest", desc := "()V" } : Jvm.MethodName)) ∈ px_tbl := px_mem 517 (by decide +kernel) rfl
theorem px_w519 : (Jvm.Cond.instanceMethod ({ cls := "CheckDaemon$History", name := "loseOldest", desc := "()V" } : Jvm.MethodName)) ∈ px_tbl := px_mem 519 (by decide +kernel) rfl
theorem px_w13 : Cond.selects "CheckDaemon$History" ⟨"CheckDaemon$History", "loseOldest", "()V"⟩ ⟨"CheckDaemon$History", "loseOldest", "()V"⟩ ∈ px_tbl := px_mem 13 (by decide +kernel) rfl
set_option maxRecDepth 20000 in
theorem px_w520 : (Jvm.Cond.code ({ cls := "CheckDaemon$History", name := "loseOldest", desc := "()V" } : Jvm.MethodName) prog_6_method_4_code (2 : Nat) (Option.none : Option Jvm.ClassFile.FieldType)) ∈ px_tbl := px_mem 520 rfl rfl
theorem px_w71 : (Jvm.Cond.initialized "CheckDaemon$History") ∈ px_tbl := px_mem 71 (by decide +kernel) rfl
theorem px_w468 : (Jvm.Cond.methodLink "CheckDaemon$Line" (36 : Nat) ({ cls := "CheckDaemon$Faults", name := "<init>", desc := "(I)V" } : Jvm.MethodName)) ∈ px_tbl := px_mem 468 (by decide +kernel) rfl
theorem px_w469 : (Jvm.Cond.instanceMethod ({ cls := "CheckDaemon$Faults", name := "<init>", desc := "(I)V" } : Jvm.MethodName)) ∈ px_tbl := px_mem 469 (by decide +kernel) rfl
set_option maxRecDepth 20000 in
theorem px_w470 : (Jvm.Cond.code ({ cls := "CheckDaemon$Faults", name := "<init>", desc := "(I)V" } : Jvm.MethodName) prog_4_method_1_code (2 : Nat) (Option.none : Option Jvm.ClassFile.FieldType)) ∈ px_tbl := px_mem 470 rfl rfl
theorem px_w508 : (Jvm.Cond.methodLink "CheckDaemon$Line" (45 : Nat) ({ cls := "CheckDaemon$Expression", name := "<init>", desc := "(I)V" } : Jvm.MethodName)) ∈ px_tbl := px_mem 508 (by decide +kernel) rfl
theorem px_w345 : (Jvm.Cond.instanceMethod ({ cls := "CheckDaemon$Expression", name := "<init>", desc := "(I)V" } : Jvm.MethodName)) ∈ px_tbl := px_mem 345 (by decide +kernel) rfl
set_option maxRecDepth 20000 in
theorem px_w346 : (Jvm.Cond.code ({ cls := "CheckDaemon$Expression", name := "<init>", desc := "(I)V" } : Jvm.MethodName) prog_3_method_1_code (3 : Nat) (Option.none : Option Jvm.ClassFile.FieldType)) ∈ px_tbl := px_mem 346 rfl rfl
theorem px_w569 : (Jvm.Cond.methodLink "CheckDaemon$Line" (50 : Nat) ({ cls := "CheckDaemon$SymbolSet", name := "has", desc := "(I)Z" } : Jvm.MethodName)) ∈ px_tbl := px_mem 569 (by decide +kernel) rfl
theorem px_w594 : (Jvm.Cond.methodLink "CheckDaemon$Line" (56 : Nat) ({ cls := "CheckDaemon$Expression", name := "workOut", desc := "(LCheckDaemon$Symbols;)I" } : Jvm.MethodName)) ∈ px_tbl := px_mem 594 (by decide +kernel) rfl
theorem px_w595 : (Jvm.Cond.instanceMethod ({ cls := "CheckDaemon$Expression", name := "workOut", desc := "(LCheckDaemon$Symbols;)I" } : Jvm.MethodName)) ∈ px_tbl := px_mem 595 (by decide +kernel) rfl
theorem px_w596 : (Jvm.Cond.selects "CheckDaemon$Expression" ({ cls := "CheckDaemon$Expression", name := "workOut", desc := "(LCheckDaemon$Symbols;)I" } : Jvm.MethodName) ({ cls := "CheckDaemon$Expression", name := "workOut", desc := "(LCheckDaemon$Symbols;)I" } : Jvm.MethodName)) ∈ px_tbl := px_mem 596 (by decide +kernel) rfl
set_option maxRecDepth 20000 in
theorem px_w597 : (Jvm.Cond.code ({ cls := "CheckDaemon$Expression", name := "workOut", desc := "(LCheckDaemon$Symbols;)I" } : Jvm.MethodName) prog_3_method_3_code (3 : Nat) (Option.some Jvm.ClassFile.FieldType.int)) ∈ px_tbl := px_mem 597 rfl rfl
theorem px_w644 : (Jvm.Cond.methodLink "CheckDaemon$Line" (60 : Nat) ({ cls := "CheckDaemon$Faults", name := "clear", desc := "()V" } : Jvm.MethodName)) ∈ px_tbl := px_mem 644 (by decide +kernel) rfl
theorem px_w645 : (Jvm.Cond.instanceMethod ({ cls := "CheckDaemon$Faults", name := "clear", desc := "()V" } : Jvm.MethodName)) ∈ px_tbl := px_mem 645 (by decide +kernel) rfl
theorem px_w646 : (Jvm.Cond.selects "CheckDaemon$Faults" ({ cls := "CheckDaemon$Faults", name := "clear", desc := "()V" } : Jvm.MethodName) ({ cls := "CheckDaemon$Faults", name := "clear", desc := "()V" } : Jvm.MethodName)) ∈ px_tbl := px_mem 646 (by decide +kernel) rfl
set_option maxRecDepth 20000 in
theorem px_w647 : (Jvm.Cond.code ({ cls := "CheckDaemon$Faults", name := "clear", desc := "()V" } : Jvm.MethodName) prog_4_method_2_code (2 : Nat) (Option.none : Option Jvm.ClassFile.FieldType)) ∈ px_tbl := px_mem 647 rfl rfl
theorem px_w648 : (Jvm.Cond.methodLink "CheckDaemon$Line" (63 : Nat) ({ cls := "CheckDaemon$Faults", name := "add", desc := "(II)V" } : Jvm.MethodName)) ∈ px_tbl := px_mem 648 (by decide +kernel) rfl
theorem px_w652 : (Jvm.Cond.methodLink "CheckDaemon$Line" (67 : Nat) ({ cls := "CheckDaemon$Expression", name := "findFaults", desc := "(LCheckDaemon$Symbols;LCheckDaemon$Faults;)V" } : Jvm.MethodName)) ∈ px_tbl := px_mem 652 (by decide +kernel) rfl
theorem px_w653 : (Jvm.Cond.instanceMethod ({ cls := "CheckDaemon$Expression", name := "findFaults", desc := "(LCheckDaemon$Symbols;LCheckDaemon$Faults;)V" } : Jvm.MethodName)) ∈ px_tbl := px_mem 653 (by decide +kernel) rfl
theorem px_w654 : (Jvm.Cond.selects "CheckDaemon$Expression" ({ cls := "CheckDaemon$Expression", name := "findFaults", desc := "(LCheckDaemon$Symbols;LCheckDaemon$Faults;)V" } : Jvm.MethodName) ({ cls := "CheckDaemon$Expression", name := "findFaults", desc := "(LCheckDaemon$Symbols;LCheckDaemon$Faults;)V" } : Jvm.MethodName)) ∈ px_tbl := px_mem 654 (by decide +kernel) rfl
set_option maxRecDepth 20000 in
theorem px_w655 : (Jvm.Cond.code ({ cls := "CheckDaemon$Expression", name := "findFaults", desc := "(LCheckDaemon$Symbols;LCheckDaemon$Faults;)V" } : Jvm.MethodName) prog_3_method_6_code (5 : Nat) (Option.none : Option Jvm.ClassFile.FieldType)) ∈ px_tbl := px_mem 655 rfl rfl
theorem px_w671 : (Jvm.Cond.methodLink "CheckDaemon$Line" (71 : Nat) ({ cls := "CheckDaemon$Line", name := "isMismatch", desc := "()Z" } : Jvm.MethodName)) ∈ px_tbl := px_mem 671 (by decide +kernel) rfl
theorem px_w673 : (Jvm.Cond.instanceMethod ({ cls := "CheckDaemon$Line", name := "isMismatch", desc := "()Z" } : Jvm.MethodName)) ∈ px_tbl := px_mem 673 (by decide +kernel) rfl
theorem px_w26 : Cond.selects "CheckDaemon$Line" ⟨"CheckDaemon$Line", "isMismatch", "()Z"⟩ ⟨"CheckDaemon$Line", "isMismatch", "()Z"⟩ ∈ px_tbl := px_mem 26 (by decide +kernel) rfl
set_option maxRecDepth 20000 in
theorem px_w674 : (Jvm.Cond.code ({ cls := "CheckDaemon$Line", name := "isMismatch", desc := "()Z" } : Jvm.MethodName) prog_7_method_10_code (1 : Nat) (Option.some Jvm.ClassFile.FieldType.boolean)) ∈ px_tbl := px_mem 674 rfl rfl
theorem px_w785 : (Jvm.Cond.methodLink "CheckDaemon$Line" (77 : Nat) ({ cls := "CheckDaemon$Faults", name := "size", desc := "()I" } : Jvm.MethodName)) ∈ px_tbl := px_mem 785 (by decide +kernel) rfl
theorem px_w786 : (Jvm.Cond.instanceMethod ({ cls := "CheckDaemon$Faults", name := "size", desc := "()I" } : Jvm.MethodName)) ∈ px_tbl := px_mem 786 (by decide +kernel) rfl
theorem px_w787 : (Jvm.Cond.selects "CheckDaemon$Faults" ({ cls := "CheckDaemon$Faults", name := "size", desc := "()I" } : Jvm.MethodName) ({ cls := "CheckDaemon$Faults", name := "size", desc := "()I" } : Jvm.MethodName)) ∈ px_tbl := px_mem 787 (by decide +kernel) rfl
set_option maxRecDepth 20000 in
theorem px_w788 : (Jvm.Cond.code ({ cls := "CheckDaemon$Faults", name := "size", desc := "()I" } : Jvm.MethodName) prog_4_method_4_code (1 : Nat) (Option.some Jvm.ClassFile.FieldType.int)) ∈ px_tbl := px_mem 788 rfl rfl
theorem px_w789 : (Jvm.Cond.methodLink "CheckDaemon$Line" (81 : Nat) ({ cls := "CheckDaemon$SymbolSet", name := "size", desc := "()I" } : Jvm.MethodName)) ∈ px_tbl := px_mem 789 (by decide +kernel) rfl
theorem px_w790 : (Jvm.Cond.instanceMethod ({ cls := "CheckDaemon$SymbolSet", name := "size", desc := "()I" } : Jvm.MethodName)) ∈ px_tbl := px_mem 790 (by decide +kernel) rfl
theorem px_w791 : (Jvm.Cond.selects "CheckDaemon$SymbolSet" ({ cls := "CheckDaemon$SymbolSet", name := "size", desc := "()I" } : Jvm.MethodName) ({ cls := "CheckDaemon$SymbolSet", name := "size", desc := "()I" } : Jvm.MethodName)) ∈ px_tbl := px_mem 791 (by decide +kernel) rfl
set_option maxRecDepth 20000 in
theorem px_w792 : (Jvm.Cond.code ({ cls := "CheckDaemon$SymbolSet", name := "size", desc := "()I" } : Jvm.MethodName) prog_9_method_6_code (3 : Nat) (Option.some Jvm.ClassFile.FieldType.int)) ∈ px_tbl := px_mem 792 rfl rfl
theorem px_w336 : (Jvm.Cond.methodLink "CheckDaemon$Parser" (28 : Nat) ({ cls := "java/lang/Math", name := "min", desc := "(II)I" } : Jvm.MethodName)) ∈ px_tbl := px_mem 336 (by decide +kernel) rfl
theorem px_w337 : (Jvm.Cond.static ({ cls := "java/lang/Math", name := "min", desc := "(II)I" } : Jvm.MethodName)) ∈ px_tbl := px_mem 337 (by decide +kernel) rfl
set_option maxRecDepth 20000 in
theorem px_w338 : (Jvm.Cond.code ({ cls := "java/lang/Math", name := "min", desc := "(II)I" } : Jvm.MethodName) prog_18_method_69_code (2 : Nat) (Option.some Jvm.ClassFile.FieldType.int)) ∈ px_tbl := px_mem 338 rfl rfl
theorem px_w79 : (Jvm.Cond.initialized "java/lang/Math") ∈ px_tbl := px_mem 79 (by decide +kernel) rfl
theorem px_w339 : (Jvm.Cond.methodLink "CheckDaemon$Parser" (34 : Nat) ({ cls := "java/lang/Math", name := "max", desc := "(II)I" } : Jvm.MethodName)) ∈ px_tbl := px_mem 339 (by decide +kernel) rfl
theorem px_w340 : (Jvm.Cond.static ({ cls := "java/lang/Math", name := "max", desc := "(II)I" } : Jvm.MethodName)) ∈ px_tbl := px_mem 340 (by decide +kernel) rfl
set_option maxRecDepth 20000 in
theorem px_w341 : (Jvm.Cond.code ({ cls := "java/lang/Math", name := "max", desc := "(II)I" } : Jvm.MethodName) prog_18_method_65_code (2 : Nat) (Option.some Jvm.ClassFile.FieldType.int)) ∈ px_tbl := px_mem 341 rfl rfl
theorem px_w344 : (Jvm.Cond.methodLink "CheckDaemon$Parser" (45 : Nat) ({ cls := "CheckDaemon$Expression", name := "<init>", desc := "(I)V" } : Jvm.MethodName)) ∈ px_tbl := px_mem 344 (by decide +kernel) rfl
theorem px_w403 : (Jvm.Cond.methodLink "CheckDaemon$Parser" (52 : Nat) ({ cls := "CheckDaemon$Parser", name := "readHead", desc := "()Z" } : Jvm.MethodName)) ∈ px_tbl := px_mem 403 (by decide +kernel) rfl
theorem px_w405 : (Jvm.Cond.instanceMethod ({ cls := "CheckDaemon$Parser", name := "readHead", desc := "()Z" } : Jvm.MethodName)) ∈ px_tbl := px_mem 405 (by decide +kernel) rfl
theorem px_w3 : Cond.selects "CheckDaemon$Parser" ⟨"CheckDaemon$Parser", "readHead", "()Z"⟩ ⟨"CheckDaemon$Parser", "readHead", "()Z"⟩ ∈ px_tbl := px_mem 3 (by decide +kernel) rfl
set_option maxRecDepth 20000 in
theorem px_w406 : (Jvm.Cond.code ({ cls := "CheckDaemon$Parser", name := "readHead", desc := "()Z" } : Jvm.MethodName) prog_8_method_6_code (3 : Nat) (Option.some Jvm.ClassFile.FieldType.boolean)) ∈ px_tbl := px_mem 406 rfl rfl
theorem px_w78 : (Jvm.Cond.initialized "CheckDaemon$Parser") ∈ px_tbl := px_mem 78 (by decide +kernel) rfl
theorem px_w407 : (Jvm.Cond.methodLink "CheckDaemon$Parser" (60 : Nat) ({ cls := "CheckDaemon$Parser", name := "next", desc := "()I" } : Jvm.MethodName)) ∈ px_tbl := px_mem 407 (by decide +kernel) rfl
theorem px_w409 : (Jvm.Cond.instanceMethod ({ cls := "CheckDaemon$Parser", name := "next", desc := "()I" } : Jvm.MethodName)) ∈ px_tbl := px_mem 409 (by decide +kernel) rfl
theorem px_w4 : Cond.selects "CheckDaemon$Parser" ⟨"CheckDaemon$Parser", "next", "()I"⟩ ⟨"CheckDaemon$Parser", "next", "()I"⟩ ∈ px_tbl := px_mem 4 (by decide +kernel) rfl
set_option maxRecDepth 20000 in
theorem px_w410 : (Jvm.Cond.code ({ cls := "CheckDaemon$Parser", name := "next", desc := "()I" } : Jvm.MethodName) prog_8_method_3_code (1 : Nat) (Option.some Jvm.ClassFile.FieldType.int)) ∈ px_tbl := px_mem 410 rfl rfl
theorem px_w411 : (Jvm.Cond.methodLink "CheckDaemon$Parser" (72 : Nat) ({ cls := "CheckDaemon$Parser", name := "isName", desc := "(I)Z" } : Jvm.MethodName)) ∈ px_tbl := px_mem 411 (by decide +kernel) rfl
theorem px_w412 : (Jvm.Cond.static ({ cls := "CheckDaemon$Parser", name := "isName", desc := "(I)Z" } : Jvm.MethodName)) ∈ px_tbl := px_mem 412 (by decide +kernel) rfl
set_option maxRecDepth 20000 in
theorem px_w413 : (Jvm.Cond.code ({ cls := "CheckDaemon$Parser", name := "isName", desc := "(I)Z" } : Jvm.MethodName) prog_8_method_5_code (1 : Nat) (Option.some Jvm.ClassFile.FieldType.boolean)) ∈ px_tbl := px_mem 413 rfl rfl
theorem px_w414 : (Jvm.Cond.methodLink "CheckDaemon$Parser" (76 : Nat) ({ cls := "CheckDaemon$Parser", name := "take", desc := "(I)Z" } : Jvm.MethodName)) ∈ px_tbl := px_mem 414 (by decide +kernel) rfl
theorem px_w416 : (Jvm.Cond.instanceMethod ({ cls := "CheckDaemon$Parser", name := "take", desc := "(I)Z" } : Jvm.MethodName)) ∈ px_tbl := px_mem 416 (by decide +kernel) rfl
theorem px_w5 : Cond.selects "CheckDaemon$Parser" ⟨"CheckDaemon$Parser", "take", "(I)Z"⟩ ⟨"CheckDaemon$Parser", "take", "(I)Z"⟩ ∈ px_tbl := px_mem 5 (by decide +kernel) rfl
set_option maxRecDepth 20000 in
theorem px_w417 : (Jvm.Cond.code ({ cls := "CheckDaemon$Parser", name := "take", desc := "(I)Z" } : Jvm.MethodName) prog_8_method_4_code (2 : Nat) (Option.some Jvm.ClassFile.FieldType.boolean)) ∈ px_tbl := px_mem 417 rfl rfl
theorem px_w418 : (Jvm.Cond.methodLink "CheckDaemon$Parser" (79 : Nat) ({ cls := "CheckDaemon$Parser", name := "readTypeWord", desc := "()Z" } : Jvm.MethodName)) ∈ px_tbl := px_mem 418 (by decide +kernel) rfl
theorem px_w420 : (Jvm.Cond.instanceMethod ({ cls := "CheckDaemon$Parser", name := "readTypeWord", desc := "()Z" } : Jvm.MethodName)) ∈ px_tbl := px_mem 420 (by decide +kernel) rfl
theorem px_w6 : Cond.selects "CheckDaemon$Parser" ⟨"CheckDaemon$Parser", "readTypeWord", "()Z"⟩ ⟨"CheckDaemon$Parser", "readTypeWord", "()Z"⟩ ∈ px_tbl := px_mem 6 (by decide +kernel) rfl
set_option maxRecDepth 20000 in
theorem px_w421 : (Jvm.Cond.code ({ cls := "CheckDaemon$Parser", name := "readTypeWord", desc := "()Z" } : Jvm.MethodName) prog_8_method_7_code (4 : Nat) (Option.some Jvm.ClassFile.FieldType.boolean)) ∈ px_tbl := px_mem 421 rfl rfl
theorem px_w422 : (Jvm.Cond.methodLink "CheckDaemon$Parser" (82 : Nat) ({ cls := "CheckDaemon$Forms", name := "letterOf", desc := "(I)I" } : Jvm.MethodName)) ∈ px_tbl := px_mem 422 (by decide +kernel) rfl
theorem px_w423 : (Jvm.Cond.static ({ cls := "CheckDaemon$Forms", name := "letterOf", desc := "(I)I" } : Jvm.MethodName)) ∈ px_tbl := px_mem 423 (by decide +kernel) rfl
set_option maxRecDepth 20000 in
theorem px_w424 : (Jvm.Cond.code ({ cls := "CheckDaemon$Forms", name := "letterOf", desc := "(I)I" } : Jvm.MethodName) prog_5_method_2_code (1 : Nat) (Option.some Jvm.ClassFile.FieldType.int)) ∈ px_tbl := px_mem 424 rfl rfl
theorem px_w425 : (Jvm.Cond.methodLink "CheckDaemon$Parser" (56 : Nat) ({ cls := "CheckDaemon$Parser", name := "readSum", desc := "(I)I" } : Jvm.MethodName)) ∈ px_tbl := px_mem 425 (by decide +kernel) rfl
theorem px_w427 : (Jvm.Cond.instanceMethod ({ cls := "CheckDaemon$Parser", name := "readSum", desc := "(I)I" } : Jvm.MethodName)) ∈ px_tbl := px_mem 427 (by decide +kernel) rfl
theorem px_w7 : Cond.selects "CheckDaemon$Parser" ⟨"CheckDaemon$Parser", "readSum", "(I)I"⟩ ⟨"CheckDaemon$Parser", "readSum", "(I)I"⟩ ∈ px_tbl := px_mem 7 (by decide +kernel) rfl
set_option maxRecDepth 20000 in
theorem px_w428 : (Jvm.Cond.code ({ cls := "CheckDaemon$Parser", name := "readSum", desc := "(I)I" } : Jvm.MethodName) prog_8_method_8_code (6 : Nat) (Option.some Jvm.ClassFile.FieldType.int)) ∈ px_tbl := px_mem 428 rfl rfl
theorem px_w429 : (Jvm.Cond.methodLink "CheckDaemon$Parser" (87 : Nat) ({ cls := "CheckDaemon$Parser", name := "readOr", desc := "(I)I" } : Jvm.MethodName)) ∈ px_tbl := px_mem 429 (by decide +kernel) rfl
theorem px_w431 : (Jvm.Cond.instanceMethod ({ cls := "CheckDaemon$Parser", name := "readOr", desc := "(I)I" } : Jvm.MethodName)) ∈ px_tbl := px_mem 431 (by decide +kernel) rfl
theorem px_w8 : Cond.selects "CheckDaemon$Parser" ⟨"CheckDaemon$Parser", "readOr", "(I)I"⟩ ⟨"CheckDaemon$Parser", "readOr", "(I)I"⟩ ∈ px_tbl := px_mem 8 (by decide +kernel) rfl
set_option maxRecDepth 20000 in
theorem px_w432 : (Jvm.Cond.code ({ cls := "CheckDaemon$Parser", name := "readOr", desc := "(I)I" } : Jvm.MethodName) prog_8_method_9_code (6 : Nat) (Option.some Jvm.ClassFile.FieldType.int)) ∈ px_tbl := px_mem 432 rfl rfl
theorem px_w433 : (Jvm.Cond.methodLink "CheckDaemon$Parser" (94 : Nat) ({ cls := "CheckDaemon$Parser", name := "readPart", desc := "(I)I" } : Jvm.MethodName)) ∈ px_tbl := px_mem 433 (by decide +kernel) rfl
theorem px_w435 : (Jvm.Cond.instanceMethod ({ cls := "CheckDaemon$Parser", name := "readPart", desc := "(I)I" } : Jvm.MethodName)) ∈ px_tbl := px_mem 435 (by decide +kernel) rfl
theorem px_w9 : Cond.selects "CheckDaemon$Parser" ⟨"CheckDaemon$Parser", "readPart", "(I)I"⟩ ⟨"CheckDaemon$Parser", "readPart", "(I)I"⟩ ∈ px_tbl := px_mem 9 (by decide +kernel) rfl
set_option maxRecDepth 20000 in
theorem px_w436 : (Jvm.Cond.code ({ cls := "CheckDaemon$Parser", name := "readPart", desc := "(I)I" } : Jvm.MethodName) prog_8_method_10_code (4 : Nat) (Option.some Jvm.ClassFile.FieldType.int)) ∈ px_tbl := px_mem 436 rfl rfl
theorem px_w437 : (Jvm.Cond.methodLink "CheckDaemon$Parser" (97 : Nat) ({ cls := "CheckDaemon$Parser", name := "readAtom", desc := "(I)I" } : Jvm.MethodName)) ∈ px_tbl := px_mem 437 (by decide +kernel) rfl
theorem px_w439 : (Jvm.Cond.instanceMethod ({ cls := "CheckDaemon$Parser", name := "readAtom", desc := "(I)I" } : Jvm.MethodName)) ∈ px_tbl := px_mem 439 (by decide +kernel) rfl
theorem px_w10 : Cond.selects "CheckDaemon$Parser" ⟨"CheckDaemon$Parser", "readAtom", "(I)I"⟩ ⟨"CheckDaemon$Parser", "readAtom", "(I)I"⟩ ∈ px_tbl := px_mem 10 (by decide +kernel) rfl
set_option maxRecDepth 20000 in
theorem px_w440 : (Jvm.Cond.code ({ cls := "CheckDaemon$Parser", name := "readAtom", desc := "(I)I" } : Jvm.MethodName) prog_8_method_13_code (7 : Nat) (Option.some Jvm.ClassFile.FieldType.int)) ∈ px_tbl := px_mem 440 rfl rfl
theorem px_w441 : (Jvm.Cond.methodLink "CheckDaemon$Parser" (90 : Nat) ({ cls := "CheckDaemon$Expression", name := "add", desc := "(IIII)I" } : Jvm.MethodName)) ∈ px_tbl := px_mem 441 (by decide +kernel) rfl
theorem px_w442 : (Jvm.Cond.instanceMethod ({ cls := "CheckDaemon$Expression", name := "add", desc := "(IIII)I" } : Jvm.MethodName)) ∈ px_tbl := px_mem 442 (by decide +kernel) rfl
theorem px_w443 : (Jvm.Cond.selects "CheckDaemon$Expression" ({ cls := "CheckDaemon$Expression", name := "add", desc := "(IIII)I" } : Jvm.MethodName) ({ cls := "CheckDaemon$Expression", name := "add", desc := "(IIII)I" } : Jvm.MethodName)) ∈ px_tbl := px_mem 443 (by decide +kernel) rfl
set_option maxRecDepth 20000 in
theorem px_w444 : (Jvm.Cond.code ({ cls := "CheckDaemon$Expression", name := "add", desc := "(IIII)I" } : Jvm.MethodName) prog_3_method_2_code (5 : Nat) (Option.some Jvm.ClassFile.FieldType.int)) ∈ px_tbl := px_mem 444 rfl rfl
theorem px_w445 : (Jvm.Cond.methodLink "CheckDaemon$Parser" (106 : Nat) ({ cls := "CheckDaemon$Parser", name := "readName", desc := "(II)I" } : Jvm.MethodName)) ∈ px_tbl := px_mem 445 (by decide +kernel) rfl
theorem px_w447 : (Jvm.Cond.instanceMethod ({ cls := "CheckDaemon$Parser", name := "readName", desc := "(II)I" } : Jvm.MethodName)) ∈ px_tbl := px_mem 447 (by decide +kernel) rfl
theorem px_w11 : Cond.selects "CheckDaemon$Parser" ⟨"CheckDaemon$Parser", "readName", "(II)I"⟩ ⟨"CheckDaemon$Parser", "readName", "(II)I"⟩ ∈ px_tbl := px_mem 11 (by decide +kernel) rfl
set_option maxRecDepth 20000 in
theorem px_w448 : (Jvm.Cond.code ({ cls := "CheckDaemon$Parser", name := "readName", desc := "(II)I" } : Jvm.MethodName) prog_8_method_14_code (5 : Nat) (Option.some Jvm.ClassFile.FieldType.int)) ∈ px_tbl := px_mem 448 rfl rfl
theorem px_w449 : (Jvm.Cond.methodLink "CheckDaemon$Parser" (113 : Nat) ({ cls := "CheckDaemon$SymbolSet", name := "add", desc := "(I)V" } : Jvm.MethodName)) ∈ px_tbl := px_mem 449 (by decide +kernel) rfl
theorem px_w450 : (Jvm.Cond.instanceMethod ({ cls := "CheckDaemon$SymbolSet", name := "add", desc := "(I)V" } : Jvm.MethodName)) ∈ px_tbl := px_mem 450 (by decide +kernel) rfl
theorem px_w451 : (Jvm.Cond.selects "CheckDaemon$SymbolSet" ({ cls := "CheckDaemon$SymbolSet", name := "add", desc := "(I)V" } : Jvm.MethodName) ({ cls := "CheckDaemon$SymbolSet", name := "add", desc := "(I)V" } : Jvm.MethodName)) ∈ px_tbl := px_mem 451 (by decide +kernel) rfl
set_option maxRecDepth 20000 in
theorem px_w452 : (Jvm.Cond.code ({ cls := "CheckDaemon$SymbolSet", name := "add", desc := "(I)V" } : Jvm.MethodName) prog_9_method_2_code (2 : Nat) (Option.none : Option Jvm.ClassFile.FieldType)) ∈ px_tbl := px_mem 452 rfl rfl
theorem px_w453 : (Jvm.Cond.methodLink "CheckDaemon$Parser" (100 : Nat) ({ cls := "CheckDaemon$Parser", name := "isEnding", desc := "(I)Z" } : Jvm.MethodName)) ∈ px_tbl := px_mem 453 (by decide +kernel) rfl
theorem px_w454 : (Jvm.Cond.static ({ cls := "CheckDaemon$Parser", name := "isEnding", desc := "(I)Z" } : Jvm.MethodName)) ∈ px_tbl := px_mem 454 (by decide +kernel) rfl
set_option maxRecDepth 20000 in
theorem px_w455 : (Jvm.Cond.code ({ cls := "CheckDaemon$Parser", name := "isEnding", desc := "(I)Z" } : Jvm.MethodName) prog_8_method_11_code (1 : Nat) (Option.some Jvm.ClassFile.FieldType.boolean)) ∈ px_tbl := px_mem 455 rfl rfl
theorem px_w456 : (Jvm.Cond.methodLink "CheckDaemon$Parser" (103 : Nat) ({ cls := "CheckDaemon$Parser", name := "readEnding", desc := "(I)I" } : Jvm.MethodName)) ∈ px_tbl := px_mem 456 (by decide +kernel) rfl
theorem px_w458 : (Jvm.Cond.instanceMethod ({ cls := "CheckDaemon$Parser", name := "readEnding", desc := "(I)I" } : Jvm.MethodName)) ∈ px_tbl := px_mem 458 (by decide +kernel) rfl
theorem px_w12 : Cond.selects "CheckDaemon$Parser" ⟨"CheckDaemon$Parser", "readEnding", "(I)I"⟩ ⟨"CheckDaemon$Parser", "readEnding", "(I)I"⟩ ∈ px_tbl := px_mem 12 (by decide +kernel) rfl
set_option maxRecDepth 20000 in
theorem px_w459 : (Jvm.Cond.code ({ cls := "CheckDaemon$Parser", name := "readEnding", desc := "(I)I" } : Jvm.MethodName) prog_8_method_12_code (5 : Nat) (Option.some Jvm.ClassFile.FieldType.int)) ∈ px_tbl := px_mem 459 rfl rfl
theorem px_w462 : (Jvm.Cond.methodLink "CheckDaemon$Parser" (66 : Nat) ({ cls := "CheckDaemon$Line", name := "<init>", desc := "(IIIILCheckDaemon$Expression;)V" } : Jvm.MethodName)) ∈ px_tbl := px_mem 462 (by decide +kernel) rfl
theorem px_w463 : (Jvm.Cond.instanceMethod ({ cls := "CheckDaemon$Line", name := "<init>", desc := "(IIIILCheckDaemon$Expression;)V" } : Jvm.MethodName)) ∈ px_tbl := px_mem 463 (by decide +kernel) rfl
set_option maxRecDepth 20000 in
theorem px_w464 : (Jvm.Cond.code ({ cls := "CheckDaemon$Line", name := "<init>", desc := "(IIIILCheckDaemon$Expression;)V" } : Jvm.MethodName) prog_7_method_1_code (6 : Nat) (Option.none : Option Jvm.ClassFile.FieldType)) ∈ px_tbl := px_mem 464 rfl rfl
theorem px_w504 : (Jvm.Cond.methodLink "CheckDaemon$Parser" (69 : Nat) ({ cls := "CheckDaemon$Line", name := "<init>", desc := "(II)V" } : Jvm.MethodName)) ∈ px_tbl := px_mem 504 (by decide +kernel) rfl
theorem px_w505 : (Jvm.Cond.instanceMethod ({ cls := "CheckDaemon$Line", name := "<init>", desc := "(II)V" } : Jvm.MethodName)) ∈ px_tbl := px_mem 505 (by decide +kernel) rfl
set_option maxRecDepth 20000 in
theorem px_w506 : (Jvm.Cond.code ({ cls := "CheckDaemon$Line", name := "<init>", desc := "(II)V" } : Jvm.MethodName) prog_7_method_2_code (3 : Nat) (Option.none : Option Jvm.ClassFile.FieldType)) ∈ px_tbl := px_mem 506 rfl rfl
theorem px_w793 : (Jvm.Cond.methodLink "CheckDaemon$SymbolSet" (15 : Nat) ({ cls := "java/lang/Long", name := "bitCount", desc := "(J)I" } : Jvm.MethodName)) ∈ px_tbl := px_mem 793 (by decide +kernel) rfl
theorem px_w794 : (Jvm.Cond.static ({ cls := "java/lang/Long", name := "bitCount", desc := "(J)I" } : Jvm.MethodName)) ∈ px_tbl := px_mem 794 (by decide +kernel) rfl
set_option maxRecDepth 20000 in
theorem px_w795 : (Jvm.Cond.code ({ cls := "java/lang/Long", name := "bitCount", desc := "(J)I" } : Jvm.MethodName) prog_17_method_50_code (2 : Nat) (Option.some Jvm.ClassFile.FieldType.int)) ∈ px_tbl := px_mem 795 rfl rfl
theorem px_w84 : (Jvm.Cond.initialized "java/lang/Long") ∈ px_tbl := px_mem 84 (by decide +kernel) rfl
theorem px_w545 : (Jvm.Cond.methodLink "CheckDaemon$Symbols" (20 : Nat) ({ cls := "CheckDaemon$Symbols", name := "isSymbol", desc := "(I)Z" } : Jvm.MethodName)) ∈ px_tbl := px_mem 545 (by decide +kernel) rfl
theorem px_w546 : (Jvm.Cond.static ({ cls := "CheckDaemon$Symbols", name := "isSymbol", desc := "(I)Z" } : Jvm.MethodName)) ∈ px_tbl := px_mem 546 (by decide +kernel) rfl
set_option maxRecDepth 20000 in
theorem px_w547 : (Jvm.Cond.code ({ cls := "CheckDaemon$Symbols", name := "isSymbol", desc := "(I)Z" } : Jvm.MethodName) prog_10_method_2_code (1 : Nat) (Option.some Jvm.ClassFile.FieldType.boolean)) ∈ px_tbl := px_mem 547 rfl rfl
theorem px_w103 : (Jvm.Cond.methodLink "CheckDaemon$Workspace" (21 : Nat) ({ cls := "CheckDaemon$Symbols", name := "<init>", desc := "()V" } : Jvm.MethodName)) ∈ px_tbl := px_mem 103 (by decide +kernel) rfl
theorem px_w104 : (Jvm.Cond.instanceMethod ({ cls := "CheckDaemon$Symbols", name := "<init>", desc := "()V" } : Jvm.MethodName)) ∈ px_tbl := px_mem 104 (by decide +kernel) rfl
set_option maxRecDepth 20000 in
theorem px_w105 : (Jvm.Cond.code ({ cls := "CheckDaemon$Symbols", name := "<init>", desc := "()V" } : Jvm.MethodName) prog_10_method_1_code (2 : Nat) (Option.none : Option Jvm.ClassFile.FieldType)) ∈ px_tbl := px_mem 105 rfl rfl
theorem px_w129 : (Jvm.Cond.methodLink "CheckDaemon$Workspace" (50 : Nat) ({ cls := "CheckDaemon$Circles", name := "<init>", desc := "()V" } : Jvm.MethodName)) ∈ px_tbl := px_mem 129 (by decide +kernel) rfl
theorem px_w130 : (Jvm.Cond.instanceMethod ({ cls := "CheckDaemon$Circles", name := "<init>", desc := "()V" } : Jvm.MethodName)) ∈ px_tbl := px_mem 130 (by decide +kernel) rfl
set_option maxRecDepth 20000 in
theorem px_w131 : (Jvm.Cond.code ({ cls := "CheckDaemon$Circles", name := "<init>", desc := "()V" } : Jvm.MethodName) prog_2_method_1_code (2 : Nat) (Option.none : Option Jvm.ClassFile.FieldType)) ∈ px_tbl := px_mem 131 rfl rfl
theorem px_w525 : (Jvm.Cond.methodLink "CheckDaemon$Workspace" (59 : Nat) ({ cls := "CheckDaemon$Workspace", name := "startLooking", desc := "()V" } : Jvm.MethodName)) ∈ px_tbl := px_mem 525 (by decide +kernel) rfl
theorem px_w527 : (Jvm.Cond.instanceMethod ({ cls := "CheckDaemon$Workspace", name := "startLooking", desc := "()V" } : Jvm.MethodName)) ∈ px_tbl := px_mem 527 (by decide +kernel) rfl
theorem px_w14 : Cond.selects "CheckDaemon$Workspace" ⟨"CheckDaemon$Workspace", "startLooking", "()V"⟩ ⟨"CheckDaemon$Workspace", "startLooking", "()V"⟩ ∈ px_tbl := px_mem 14 (by decide +kernel) rfl
set_option maxRecDepth 20000 in
theorem px_w528 : (Jvm.Cond.code ({ cls := "CheckDaemon$Workspace", name := "startLooking", desc := "()V" } : Jvm.MethodName) prog_11_method_4_code (2 : Nat) (Option.none : Option Jvm.ClassFile.FieldType)) ∈ px_tbl := px_mem 528 rfl rfl
theorem px_w67 : (Jvm.Cond.initialized "CheckDaemon$Workspace") ∈ px_tbl := px_mem 67 (by decide +kernel) rfl
theorem px_w529 : (Jvm.Cond.methodLink "CheckDaemon$Workspace" (83 : Nat) ({ cls := "CheckDaemon$SymbolSet", name := "clear", desc := "()V" } : Jvm.MethodName)) ∈ px_tbl := px_mem 529 (by decide +kernel) rfl
theorem px_w533 : (Jvm.Cond.methodLink "CheckDaemon$Workspace" (62 : Nat) ({ cls := "CheckDaemon$Workspace", name := "leave", desc := "(LCheckDaemon$Line;)V" } : Jvm.MethodName)) ∈ px_tbl := px_mem 533 (by decide +kernel) rfl
theorem px_w535 : (Jvm.Cond.instanceMethod ({ cls := "CheckDaemon$Workspace", name := "leave", desc := "(LCheckDaemon$Line;)V" } : Jvm.MethodName)) ∈ px_tbl := px_mem 535 (by decide +kernel) rfl
theorem px_w15 : Cond.selects "CheckDaemon$Workspace" ⟨"CheckDaemon$Workspace", "leave", "(LCheckDaemon$Line;)V"⟩ ⟨"CheckDaemon$Workspace", "leave", "(LCheckDaemon$Line;)V"⟩ ∈ px_tbl := px_mem 15 (by decide +kernel) rfl
set_option maxRecDepth 20000 in
theorem px_w536 : (Jvm.Cond.code ({ cls := "CheckDaemon$Workspace", name := "leave", desc := "(LCheckDaemon$Line;)V" } : Jvm.MethodName) prog_11_method_5_code (2 : Nat) (Option.none : Option Jvm.ClassFile.FieldType)) ∈ px_tbl := px_mem 536 rfl rfl
theorem px_w537 : (Jvm.Cond.methodLink "CheckDaemon$Workspace" (86 : Nat) ({ cls := "CheckDaemon$Line", name := "defined", desc := "()I" } : Jvm.MethodName)) ∈ px_tbl := px_mem 537 (by decide +kernel) rfl
theorem px_w541 : (Jvm.Cond.methodLink "CheckDaemon$Workspace" (89 : Nat) ({ cls := "CheckDaemon$Symbols", name := "addDefiners", desc := "(II)V" } : Jvm.MethodName)) ∈ px_tbl := px_mem 541 (by decide +kernel) rfl
theorem px_w542 : (Jvm.Cond.instanceMethod ({ cls := "CheckDaemon$Symbols", name := "addDefiners", desc := "(II)V" } : Jvm.MethodName)) ∈ px_tbl := px_mem 542 (by decide +kernel) rfl
theorem px_w543 : (Jvm.Cond.selects "CheckDaemon$Symbols" ({ cls := "CheckDaemon$Symbols", name := "addDefiners", desc := "(II)V" } : Jvm.MethodName) ({ cls := "CheckDaemon$Symbols", name := "addDefiners", desc := "(II)V" } : Jvm.MethodName)) ∈ px_tbl := px_mem 543 (by decide +kernel) rfl
set_option maxRecDepth 20000 in
theorem px_w544 : (Jvm.Cond.code ({ cls := "CheckDaemon$Symbols", name := "addDefiners", desc := "(II)V" } : Jvm.MethodName) prog_10_method_5_code (3 : Nat) (Option.none : Option Jvm.ClassFile.FieldType)) ∈ px_tbl := px_mem 544 rfl rfl
theorem px_w548 : (Jvm.Cond.methodLink "CheckDaemon$Workspace" (93 : Nat) ({ cls := "CheckDaemon$Workspace", name := "touch", desc := "(I)V" } : Jvm.MethodName)) ∈ px_tbl := px_mem 548 (by decide +kernel) rfl
theorem px_w550 : (Jvm.Cond.instanceMethod ({ cls := "CheckDaemon$Workspace", name := "touch", desc := "(I)V" } : Jvm.MethodName)) ∈ px_tbl := px_mem 550 (by decide +kernel) rfl
theorem px_w16 : Cond.selects "CheckDaemon$Workspace" ⟨"CheckDaemon$Workspace", "touch", "(I)V"⟩ ⟨"CheckDaemon$Workspace", "touch", "(I)V"⟩ ∈ px_tbl := px_mem 16 (by decide +kernel) rfl
set_option maxRecDepth 20000 in
theorem px_w551 : (Jvm.Cond.code ({ cls := "CheckDaemon$Workspace", name := "touch", desc := "(I)V" } : Jvm.MethodName) prog_11_method_7_code (2 : Nat) (Option.none : Option Jvm.ClassFile.FieldType)) ∈ px_tbl := px_mem 551 rfl rfl
theorem px_w552 : (Jvm.Cond.methodLink "CheckDaemon$Workspace" (97 : Nat) ({ cls := "CheckDaemon$SymbolSet", name := "has", desc := "(I)Z" } : Jvm.MethodName)) ∈ px_tbl := px_mem 552 (by decide +kernel) rfl
theorem px_w556 : (Jvm.Cond.methodLink "CheckDaemon$Workspace" (101 : Nat) ({ cls := "CheckDaemon$SymbolSet", name := "add", desc := "(I)V" } : Jvm.MethodName)) ∈ px_tbl := px_mem 556 (by decide +kernel) rfl
theorem px_w557 : (Jvm.Cond.methodLink "CheckDaemon$Workspace" (66 : Nat) ({ cls := "CheckDaemon$Workspace", name := "enter", desc := "(LCheckDaemon$Line;)V" } : Jvm.MethodName)) ∈ px_tbl := px_mem 557 (by decide +kernel) rfl
theorem px_w559 : (Jvm.Cond.instanceMethod ({ cls := "CheckDaemon$Workspace", name := "enter", desc := "(LCheckDaemon$Line;)V" } : Jvm.MethodName)) ∈ px_tbl := px_mem 559 (by decide +kernel) rfl
theorem px_w17 : Cond.selects "CheckDaemon$Workspace" ⟨"CheckDaemon$Workspace", "enter", "(LCheckDaemon$Line;)V"⟩ ⟨"CheckDaemon$Workspace", "enter", "(LCheckDaemon$Line;)V"⟩ ∈ px_tbl := px_mem 17 (by decide +kernel) rfl
set_option maxRecDepth 20000 in
theorem px_w560 : (Jvm.Cond.code ({ cls := "CheckDaemon$Workspace", name := "enter", desc := "(LCheckDaemon$Line;)V" } : Jvm.MethodName) prog_11_method_6_code (2 : Nat) (Option.none : Option Jvm.ClassFile.FieldType)) ∈ px_tbl := px_mem 560 rfl rfl
theorem px_w561 : (Jvm.Cond.methodLink "CheckDaemon$Workspace" (69 : Nat) ({ cls := "CheckDaemon$Workspace", name := "lookOn", desc := "()I" } : Jvm.MethodName)) ∈ px_tbl := px_mem 561 (by decide +kernel) rfl
theorem px_w563 : (Jvm.Cond.instanceMethod ({ cls := "CheckDaemon$Workspace", name := "lookOn", desc := "()I" } : Jvm.MethodName)) ∈ px_tbl := px_mem 563 (by decide +kernel) rfl
theorem px_w18 : Cond.selects "CheckDaemon$Workspace" ⟨"CheckDaemon$Workspace", "lookOn", "()I"⟩ ⟨"CheckDaemon$Workspace", "lookOn", "()I"⟩ ∈ px_tbl := px_mem 18 (by decide +kernel) rfl
set_option maxRecDepth 20000 in
theorem px_w564 : (Jvm.Cond.code ({ cls := "CheckDaemon$Workspace", name := "lookOn", desc := "()I" } : Jvm.MethodName) prog_11_method_8_code (5 : Nat) (Option.some Jvm.ClassFile.FieldType.int)) ∈ px_tbl := px_mem 564 rfl rfl
theorem px_w565 : (Jvm.Cond.methodLink "CheckDaemon$Workspace" (104 : Nat) ({ cls := "CheckDaemon$Line", name := "reads", desc := "(I)Z" } : Jvm.MethodName)) ∈ px_tbl := px_mem 565 (by decide +kernel) rfl
theorem px_w566 : (Jvm.Cond.instanceMethod ({ cls := "CheckDaemon$Line", name := "reads", desc := "(I)Z" } : Jvm.MethodName)) ∈ px_tbl := px_mem 566 (by decide +kernel) rfl
theorem px_w567 : (Jvm.Cond.selects "CheckDaemon$Line" ({ cls := "CheckDaemon$Line", name := "reads", desc := "(I)Z" } : Jvm.MethodName) ({ cls := "CheckDaemon$Line", name := "reads", desc := "(I)Z" } : Jvm.MethodName)) ∈ px_tbl := px_mem 567 (by decide +kernel) rfl
set_option maxRecDepth 20000 in
theorem px_w568 : (Jvm.Cond.code ({ cls := "CheckDaemon$Line", name := "reads", desc := "(I)Z" } : Jvm.MethodName) prog_7_method_4_code (2 : Nat) (Option.some Jvm.ClassFile.FieldType.boolean)) ∈ px_tbl := px_mem 568 rfl rfl
theorem px_w570 : (Jvm.Cond.methodLink "CheckDaemon$Workspace" (73 : Nat) ({ cls := "CheckDaemon$Workspace", name := "restartTypes", desc := "()V" } : Jvm.MethodName)) ∈ px_tbl := px_mem 570 (by decide +kernel) rfl
theorem px_w572 : (Jvm.Cond.instanceMethod ({ cls := "CheckDaemon$Workspace", name := "restartTypes", desc := "()V" } : Jvm.MethodName)) ∈ px_tbl := px_mem 572 (by decide +kernel) rfl
theorem px_w19 : Cond.selects "CheckDaemon$Workspace" ⟨"CheckDaemon$Workspace", "restartTypes", "()V"⟩ ⟨"CheckDaemon$Workspace", "restartTypes", "()V"⟩ ∈ px_tbl := px_mem 19 (by decide +kernel) rfl
set_option maxRecDepth 20000 in
theorem px_w573 : (Jvm.Cond.code ({ cls := "CheckDaemon$Workspace", name := "restartTypes", desc := "()V" } : Jvm.MethodName) prog_11_method_9_code (3 : Nat) (Option.none : Option Jvm.ClassFile.FieldType)) ∈ px_tbl := px_mem 573 rfl rfl
theorem px_w574 : (Jvm.Cond.methodLink "CheckDaemon$Workspace" (107 : Nat) ({ cls := "CheckDaemon$Symbols", name := "restart", desc := "(I)V" } : Jvm.MethodName)) ∈ px_tbl := px_mem 574 (by decide +kernel) rfl
theorem px_w575 : (Jvm.Cond.instanceMethod ({ cls := "CheckDaemon$Symbols", name := "restart", desc := "(I)V" } : Jvm.MethodName)) ∈ px_tbl := px_mem 575 (by decide +kernel) rfl
theorem px_w576 : (Jvm.Cond.selects "CheckDaemon$Symbols" ({ cls := "CheckDaemon$Symbols", name := "restart", desc := "(I)V" } : Jvm.MethodName) ({ cls := "CheckDaemon$Symbols", name := "restart", desc := "(I)V" } : Jvm.MethodName)) ∈ px_tbl := px_mem 576 (by decide +kernel) rfl
set_option maxRecDepth 20000 in
theorem px_w577 : (Jvm.Cond.code ({ cls := "CheckDaemon$Symbols", name := "restart", desc := "(I)V" } : Jvm.MethodName) prog_10_method_6_code (2 : Nat) (Option.none : Option Jvm.ClassFile.FieldType)) ∈ px_tbl := px_mem 577 rfl rfl
theorem px_w578 : (Jvm.Cond.methodLink "CheckDaemon$Workspace" (110 : Nat) ({ cls := "CheckDaemon$Line", name := "says", desc := "()I" } : Jvm.MethodName)) ∈ px_tbl := px_mem 578 (by decide +kernel) rfl
theorem px_w579 : (Jvm.Cond.instanceMethod ({ cls := "CheckDaemon$Line", name := "says", desc := "()I" } : Jvm.MethodName)) ∈ px_tbl := px_mem 579 (by decide +kernel) rfl
theorem px_w580 : (Jvm.Cond.selects "CheckDaemon$Line" ({ cls := "CheckDaemon$Line", name := "says", desc := "()I" } : Jvm.MethodName) ({ cls := "CheckDaemon$Line", name := "says", desc := "()I" } : Jvm.MethodName)) ∈ px_tbl := px_mem 580 (by decide +kernel) rfl
set_option maxRecDepth 20000 in
theorem px_w581 : (Jvm.Cond.code ({ cls := "CheckDaemon$Line", name := "says", desc := "()I" } : Jvm.MethodName) prog_7_method_7_code (1 : Nat) (Option.some Jvm.ClassFile.FieldType.int)) ∈ px_tbl := px_mem 581 rfl rfl
theorem px_w582 : (Jvm.Cond.methodLink "CheckDaemon$Workspace" (113 : Nat) ({ cls := "CheckDaemon$Symbols", name := "grow", desc := "(II)Z" } : Jvm.MethodName)) ∈ px_tbl := px_mem 582 (by decide +kernel) rfl
theorem px_w583 : (Jvm.Cond.instanceMethod ({ cls := "CheckDaemon$Symbols", name := "grow", desc := "(II)Z" } : Jvm.MethodName)) ∈ px_tbl := px_mem 583 (by decide +kernel) rfl
theorem px_w584 : (Jvm.Cond.selects "CheckDaemon$Symbols" ({ cls := "CheckDaemon$Symbols", name := "grow", desc := "(II)Z" } : Jvm.MethodName) ({ cls := "CheckDaemon$Symbols", name := "grow", desc := "(II)Z" } : Jvm.MethodName)) ∈ px_tbl := px_mem 584 (by decide +kernel) rfl
set_option maxRecDepth 20000 in
theorem px_w585 : (Jvm.Cond.code ({ cls := "CheckDaemon$Symbols", name := "grow", desc := "(II)Z" } : Jvm.MethodName) prog_10_method_7_code (3 : Nat) (Option.some Jvm.ClassFile.FieldType.boolean)) ∈ px_tbl := px_mem 585 rfl rfl
theorem px_w586 : (Jvm.Cond.methodLink "CheckDaemon$Workspace" (76 : Nat) ({ cls := "CheckDaemon$Workspace", name := "workOutWaiting", desc := "()Z" } : Jvm.MethodName)) ∈ px_tbl := px_mem 586 (by decide +kernel) rfl
theorem px_w588 : (Jvm.Cond.instanceMethod ({ cls := "CheckDaemon$Workspace", name := "workOutWaiting", desc := "()Z" } : Jvm.MethodName)) ∈ px_tbl := px_mem 588 (by decide +kernel) rfl
theorem px_w20 : Cond.selects "CheckDaemon$Workspace" ⟨"CheckDaemon$Workspace", "workOutWaiting", "()Z"⟩ ⟨"CheckDaemon$Workspace", "workOutWaiting", "()Z"⟩ ∈ px_tbl := px_mem 20 (by decide +kernel) rfl
set_option maxRecDepth 20000 in
theorem px_w589 : (Jvm.Cond.code ({ cls := "CheckDaemon$Workspace", name := "workOutWaiting", desc := "()Z" } : Jvm.MethodName) prog_11_method_10_code (4 : Nat) (Option.some Jvm.ClassFile.FieldType.boolean)) ∈ px_tbl := px_mem 589 rfl rfl
theorem px_w590 : (Jvm.Cond.methodLink "CheckDaemon$Workspace" (117 : Nat) ({ cls := "CheckDaemon$Line", name := "workOut", desc := "(LCheckDaemon$Symbols;)V" } : Jvm.MethodName)) ∈ px_tbl := px_mem 590 (by decide +kernel) rfl
theorem px_w591 : (Jvm.Cond.instanceMethod ({ cls := "CheckDaemon$Line", name := "workOut", desc := "(LCheckDaemon$Symbols;)V" } : Jvm.MethodName)) ∈ px_tbl := px_mem 591 (by decide +kernel) rfl
theorem px_w592 : (Jvm.Cond.selects "CheckDaemon$Line" ({ cls := "CheckDaemon$Line", name := "workOut", desc := "(LCheckDaemon$Symbols;)V" } : Jvm.MethodName) ({ cls := "CheckDaemon$Line", name := "workOut", desc := "(LCheckDaemon$Symbols;)V" } : Jvm.MethodName)) ∈ px_tbl := px_mem 592 (by decide +kernel) rfl
set_option maxRecDepth 20000 in
theorem px_w593 : (Jvm.Cond.code ({ cls := "CheckDaemon$Line", name := "workOut", desc := "(LCheckDaemon$Symbols;)V" } : Jvm.MethodName) prog_7_method_8_code (2 : Nat) (Option.none : Option Jvm.ClassFile.FieldType)) ∈ px_tbl := px_mem 593 rfl rfl
theorem px_w632 : (Jvm.Cond.methodLink "CheckDaemon$Workspace" (121 : Nat) ({ cls := "CheckDaemon$Workspace", name := "wakeReaders", desc := "(I)V" } : Jvm.MethodName)) ∈ px_tbl := px_mem 632 (by decide +kernel) rfl
theorem px_w634 : (Jvm.Cond.instanceMethod ({ cls := "CheckDaemon$Workspace", name := "wakeReaders", desc := "(I)V" } : Jvm.MethodName)) ∈ px_tbl := px_mem 634 (by decide +kernel) rfl
theorem px_w23 : Cond.selects "CheckDaemon$Workspace" ⟨"CheckDaemon$Workspace", "wakeReaders", "(I)V"⟩ ⟨"CheckDaemon$Workspace", "wakeReaders", "(I)V"⟩ ∈ px_tbl := px_mem 23 (by decide +kernel) rfl
set_option maxRecDepth 20000 in
theorem px_w635 : (Jvm.Cond.code ({ cls := "CheckDaemon$Workspace", name := "wakeReaders", desc := "(I)V" } : Jvm.MethodName) prog_11_method_11_code (4 : Nat) (Option.none : Option Jvm.ClassFile.FieldType)) ∈ px_tbl := px_mem 635 rfl rfl
theorem px_w636 : (Jvm.Cond.methodLink "CheckDaemon$Workspace" (80 : Nat) ({ cls := "CheckDaemon$Workspace", name := "findFaults", desc := "()V" } : Jvm.MethodName)) ∈ px_tbl := px_mem 636 (by decide +kernel) rfl
theorem px_w638 : (Jvm.Cond.instanceMethod ({ cls := "CheckDaemon$Workspace", name := "findFaults", desc := "()V" } : Jvm.MethodName)) ∈ px_tbl := px_mem 638 (by decide +kernel) rfl
theorem px_w24 : Cond.selects "CheckDaemon$Workspace" ⟨"CheckDaemon$Workspace", "findFaults", "()V"⟩ ⟨"CheckDaemon$Workspace", "findFaults", "()V"⟩ ∈ px_tbl := px_mem 24 (by decide +kernel) rfl
set_option maxRecDepth 20000 in
theorem px_w639 : (Jvm.Cond.code ({ cls := "CheckDaemon$Workspace", name := "findFaults", desc := "()V" } : Jvm.MethodName) prog_11_method_12_code (3 : Nat) (Option.none : Option Jvm.ClassFile.FieldType)) ∈ px_tbl := px_mem 639 rfl rfl
theorem px_w640 : (Jvm.Cond.methodLink "CheckDaemon$Workspace" (124 : Nat) ({ cls := "CheckDaemon$Line", name := "findFaults", desc := "(LCheckDaemon$Symbols;)V" } : Jvm.MethodName)) ∈ px_tbl := px_mem 640 (by decide +kernel) rfl
theorem px_w641 : (Jvm.Cond.instanceMethod ({ cls := "CheckDaemon$Line", name := "findFaults", desc := "(LCheckDaemon$Symbols;)V" } : Jvm.MethodName)) ∈ px_tbl := px_mem 641 (by decide +kernel) rfl
theorem px_w642 : (Jvm.Cond.selects "CheckDaemon$Line" ({ cls := "CheckDaemon$Line", name := "findFaults", desc := "(LCheckDaemon$Symbols;)V" } : Jvm.MethodName) ({ cls := "CheckDaemon$Line", name := "findFaults", desc := "(LCheckDaemon$Symbols;)V" } : Jvm.MethodName)) ∈ px_tbl := px_mem 642 (by decide +kernel) rfl
set_option maxRecDepth 20000 in
theorem px_w643 : (Jvm.Cond.code ({ cls := "CheckDaemon$Line", name := "findFaults", desc := "(LCheckDaemon$Symbols;)V" } : Jvm.MethodName) prog_7_method_9_code (2 : Nat) (Option.none : Option Jvm.ClassFile.FieldType)) ∈ px_tbl := px_mem 643 rfl rfl
theorem px_w723 : (Jvm.Cond.methodLink "CheckDaemon$Workspace" (126 : Nat) ({ cls := "CheckDaemon$Symbols", name := "definersOf", desc := "(I)I" } : Jvm.MethodName)) ∈ px_tbl := px_mem 723 (by decide +kernel) rfl
theorem px_w724 : (Jvm.Cond.methodLink "CheckDaemon$Workspace" (130 : Nat) ({ cls := "CheckDaemon$Symbols", name := "typeOf", desc := "(I)I" } : Jvm.MethodName)) ∈ px_tbl := px_mem 724 (by decide +kernel) rfl
theorem px_w725 : (Jvm.Cond.methodLink "CheckDaemon$Workspace" (133 : Nat) ({ cls := "CheckDaemon$Workspace", name := "readersOf", desc := "(I)I" } : Jvm.MethodName)) ∈ px_tbl := px_mem 725 (by decide +kernel) rfl
theorem px_w727 : (Jvm.Cond.instanceMethod ({ cls := "CheckDaemon$Workspace", name := "readersOf", desc := "(I)I" } : Jvm.MethodName)) ∈ px_tbl := px_mem 727 (by decide +kernel) rfl
theorem px_w27 : Cond.selects "CheckDaemon$Workspace" ⟨"CheckDaemon$Workspace", "readersOf", "(I)I"⟩ ⟨"CheckDaemon$Workspace", "readersOf", "(I)I"⟩ ∈ px_tbl := px_mem 27 (by decide +kernel) rfl
set_option maxRecDepth 20000 in
theorem px_w728 : (Jvm.Cond.code ({ cls := "CheckDaemon$Workspace", name := "readersOf", desc := "(I)I" } : Jvm.MethodName) prog_11_method_14_code (5 : Nat) (Option.some Jvm.ClassFile.FieldType.int)) ∈ px_tbl := px_mem 728 rfl rfl
theorem px_w729 : (Jvm.Cond.methodLink "CheckDaemon$Workspace" (136 : Nat) ({ cls := "CheckDaemon$Workspace", name := "freshCircles", desc := "()LCheckDaemon$Circles;" } : Jvm.MethodName)) ∈ px_tbl := px_mem 729 (by decide +kernel) rfl
theorem px_w731 : (Jvm.Cond.instanceMethod ({ cls := "CheckDaemon$Workspace", name := "freshCircles", desc := "()LCheckDaemon$Circles;" } : Jvm.MethodName)) ∈ px_tbl := px_mem 731 (by decide +kernel) rfl
theorem px_w28 : Cond.selects "CheckDaemon$Workspace" ⟨"CheckDaemon$Workspace", "freshCircles", "()LCheckDaemon$Circles;"⟩ ⟨"CheckDaemon$Workspace", "freshCircles", "()LCheckDaemon$Circles;"⟩ ∈ px_tbl := px_mem 28 (by decide +kernel) rfl
set_option maxRecDepth 20000 in
theorem px_w732 : (Jvm.Cond.code ({ cls := "CheckDaemon$Workspace", name := "freshCircles", desc := "()LCheckDaemon$Circles;" } : Jvm.MethodName) prog_11_method_15_code (1 : Nat) (Option.some (Jvm.ClassFile.FieldType.object "CheckDaemon$Circles"))) ∈ px_tbl := px_mem 732 rfl rfl
theorem px_w733 : (Jvm.Cond.methodLink "CheckDaemon$Workspace" (143 : Nat) ({ cls := "CheckDaemon$Circles", name := "find", desc := "([LCheckDaemon$Line;LCheckDaemon$Symbols;)V" } : Jvm.MethodName)) ∈ px_tbl := px_mem 733 (by decide +kernel) rfl
theorem px_w734 : (Jvm.Cond.instanceMethod ({ cls := "CheckDaemon$Circles", name := "find", desc := "([LCheckDaemon$Line;LCheckDaemon$Symbols;)V" } : Jvm.MethodName)) ∈ px_tbl := px_mem 734 (by decide +kernel) rfl
theorem px_w735 : (Jvm.Cond.selects "CheckDaemon$Circles" ({ cls := "CheckDaemon$Circles", name := "find", desc := "([LCheckDaemon$Line;LCheckDaemon$Symbols;)V" } : Jvm.MethodName) ({ cls := "CheckDaemon$Circles", name := "find", desc := "([LCheckDaemon$Line;LCheckDaemon$Symbols;)V" } : Jvm.MethodName)) ∈ px_tbl := px_mem 735 (by decide +kernel) rfl
set_option maxRecDepth 20000 in
theorem px_w736 : (Jvm.Cond.code ({ cls := "CheckDaemon$Circles", name := "find", desc := "([LCheckDaemon$Line;LCheckDaemon$Symbols;)V" } : Jvm.MethodName) prog_2_method_5_code (3 : Nat) (Option.none : Option Jvm.ClassFile.FieldType)) ∈ px_tbl := px_mem 736 rfl rfl
theorem px_w769 : (Jvm.Cond.methodLink "CheckDaemon$Workspace" (140 : Nat) ({ cls := "CheckDaemon$Circles", name := "leastOf", desc := "(I)I" } : Jvm.MethodName)) ∈ px_tbl := px_mem 769 (by decide +kernel) rfl
theorem px_w770 : (Jvm.Cond.instanceMethod ({ cls := "CheckDaemon$Circles", name := "leastOf", desc := "(I)I" } : Jvm.MethodName)) ∈ px_tbl := px_mem 770 (by decide +kernel) rfl
theorem px_w771 : (Jvm.Cond.selects "CheckDaemon$Circles" ({ cls := "CheckDaemon$Circles", name := "leastOf", desc := "(I)I" } : Jvm.MethodName) ({ cls := "CheckDaemon$Circles", name := "leastOf", desc := "(I)I" } : Jvm.MethodName)) ∈ px_tbl := px_mem 771 (by decide +kernel) rfl
set_option maxRecDepth 20000 in
theorem px_w772 : (Jvm.Cond.code ({ cls := "CheckDaemon$Circles", name := "leastOf", desc := "(I)I" } : Jvm.MethodName) prog_2_method_2_code (2 : Nat) (Option.some Jvm.ClassFile.FieldType.int)) ∈ px_tbl := px_mem 772 rfl rfl
theorem px_w811 : (Jvm.Cond.methodLink "CheckDaemon$Workspace" (147 : Nat) ({ cls := "CheckDaemon$Line", name := "faults", desc := "()LCheckDaemon$Faults;" } : Jvm.MethodName)) ∈ px_tbl := px_mem 811 (by decide +kernel) rfl
theorem px_w812 : (Jvm.Cond.instanceMethod ({ cls := "CheckDaemon$Line", name := "faults", desc := "()LCheckDaemon$Faults;" } : Jvm.MethodName)) ∈ px_tbl := px_mem 812 (by decide +kernel) rfl
theorem px_w813 : (Jvm.Cond.selects "CheckDaemon$Line" ({ cls := "CheckDaemon$Line", name := "faults", desc := "()LCheckDaemon$Faults;" } : Jvm.MethodName) ({ cls := "CheckDaemon$Line", name := "faults", desc := "()LCheckDaemon$Faults;" } : Jvm.MethodName)) ∈ px_tbl := px_mem 813 (by decide +kernel) rfl
set_option maxRecDepth 20000 in
theorem px_w814 : (Jvm.Cond.code ({ cls := "CheckDaemon$Line", name := "faults", desc := "()LCheckDaemon$Faults;" } : Jvm.MethodName) prog_7_method_6_code (1 : Nat) (Option.some (Jvm.ClassFile.FieldType.object "CheckDaemon$Faults"))) ∈ px_tbl := px_mem 814 rfl rfl
theorem px_w815 : (Jvm.Cond.methodLink "CheckDaemon$Workspace" (151 : Nat) ({ cls := "CheckDaemon$Faults", name := "size", desc := "()I" } : Jvm.MethodName)) ∈ px_tbl := px_mem 815 (by decide +kernel) rfl
theorem px_w816 : (Jvm.Cond.methodLink "CheckDaemon$Workspace" (156 : Nat) ({ cls := "CheckDaemon$Workspace", name := "tellFaultAt", desc := "(ILCheckDaemon$Faults;II)I" } : Jvm.MethodName)) ∈ px_tbl := px_mem 816 (by decide +kernel) rfl
theorem px_w817 : (Jvm.Cond.static ({ cls := "CheckDaemon$Workspace", name := "tellFaultAt", desc := "(ILCheckDaemon$Faults;II)I" } : Jvm.MethodName)) ∈ px_tbl := px_mem 817 (by decide +kernel) rfl
set_option maxRecDepth 20000 in
theorem px_w818 : (Jvm.Cond.code ({ cls := "CheckDaemon$Workspace", name := "tellFaultAt", desc := "(ILCheckDaemon$Faults;II)I" } : Jvm.MethodName) prog_11_method_17_code (4 : Nat) (Option.some Jvm.ClassFile.FieldType.int)) ∈ px_tbl := px_mem 818 rfl rfl
theorem px_w819 : (Jvm.Cond.methodLink "CheckDaemon$Workspace" (160 : Nat) ({ cls := "CheckDaemon$Faults", name := "placeOf", desc := "(I)I" } : Jvm.MethodName)) ∈ px_tbl := px_mem 819 (by decide +kernel) rfl
theorem px_w823 : (Jvm.Cond.methodLink "CheckDaemon$Workspace" (163 : Nat) ({ cls := "CheckDaemon$Faults", name := "codeOf", desc := "(I)I" } : Jvm.MethodName)) ∈ px_tbl := px_mem 823 (by decide +kernel) rfl
theorem px_w824 : (Jvm.Cond.instanceMethod ({ cls := "CheckDaemon$Faults", name := "codeOf", desc := "(I)I" } : Jvm.MethodName)) ∈ px_tbl := px_mem 824 (by decide +kernel) rfl
theorem px_w825 : (Jvm.Cond.selects "CheckDaemon$Faults" ({ cls := "CheckDaemon$Faults", name := "codeOf", desc := "(I)I" } : Jvm.MethodName) ({ cls := "CheckDaemon$Faults", name := "codeOf", desc := "(I)I" } : Jvm.MethodName)) ∈ px_tbl := px_mem 825 (by decide +kernel) rfl
set_option maxRecDepth 20000 in
theorem px_w826 : (Jvm.Cond.code ({ cls := "CheckDaemon$Faults", name := "codeOf", desc := "(I)I" } : Jvm.MethodName) prog_4_method_6_code (3 : Nat) (Option.some Jvm.ClassFile.FieldType.int)) ∈ px_tbl := px_mem 826 rfl rfl
theorem px_w839 : (Jvm.Cond.methodLink "CheckDaemon$Workspace" (166 : Nat) ({ cls := "CheckDaemon$Workspace", name := "faultCount", desc := "()I" } : Jvm.MethodName)) ∈ px_tbl := px_mem 839 (by decide +kernel) rfl
theorem px_w841 : (Jvm.Cond.instanceMethod ({ cls := "CheckDaemon$Workspace", name := "faultCount", desc := "()I" } : Jvm.MethodName)) ∈ px_tbl := px_mem 841 (by decide +kernel) rfl
theorem px_w34 : Cond.selects "CheckDaemon$Workspace" ⟨"CheckDaemon$Workspace", "faultCount", "()I"⟩ ⟨"CheckDaemon$Workspace", "faultCount", "()I"⟩ ∈ px_tbl := px_mem 34 (by decide +kernel) rfl
set_option maxRecDepth 20000 in
theorem px_w842 : (Jvm.Cond.code ({ cls := "CheckDaemon$Workspace", name := "faultCount", desc := "()I" } : Jvm.MethodName) prog_11_method_19_code (4 : Nat) (Option.some Jvm.ClassFile.FieldType.int)) ∈ px_tbl := px_mem 842 rfl rfl
theorem px_w843 : (Jvm.Cond.methodLink "CheckDaemon$Workspace" (169 : Nat) ({ cls := "CheckDaemon$Symbols", name := "definedCount", desc := "()I" } : Jvm.MethodName)) ∈ px_tbl := px_mem 843 (by decide +kernel) rfl
theorem px_w844 : (Jvm.Cond.instanceMethod ({ cls := "CheckDaemon$Symbols", name := "definedCount", desc := "()I" } : Jvm.MethodName)) ∈ px_tbl := px_mem 844 (by decide +kernel) rfl
theorem px_w845 : (Jvm.Cond.selects "CheckDaemon$Symbols" ({ cls := "CheckDaemon$Symbols", name := "definedCount", desc := "()I" } : Jvm.MethodName) ({ cls := "CheckDaemon$Symbols", name := "definedCount", desc := "()I" } : Jvm.MethodName)) ∈ px_tbl := px_mem 845 (by decide +kernel) rfl
set_option maxRecDepth 20000 in
theorem px_w846 : (Jvm.Cond.code ({ cls := "CheckDaemon$Symbols", name := "definedCount", desc := "()I" } : Jvm.MethodName) prog_10_method_8_code (3 : Nat) (Option.some Jvm.ClassFile.FieldType.int)) ∈ px_tbl := px_mem 846 rfl rfl
theorem px_w847 : (Jvm.Cond.methodLink "CheckDaemon$Workspace" (172 : Nat) ({ cls := "CheckDaemon$Circles", name := "circleCount", desc := "()I" } : Jvm.MethodName)) ∈ px_tbl := px_mem 847 (by decide +kernel) rfl
theorem px_w848 : (Jvm.Cond.instanceMethod ({ cls := "CheckDaemon$Circles", name := "circleCount", desc := "()I" } : Jvm.MethodName)) ∈ px_tbl := px_mem 848 (by decide +kernel) rfl
theorem px_w849 : (Jvm.Cond.selects "CheckDaemon$Circles" ({ cls := "CheckDaemon$Circles", name := "circleCount", desc := "()I" } : Jvm.MethodName) ({ cls := "CheckDaemon$Circles", name := "circleCount", desc := "()I" } : Jvm.MethodName)) ∈ px_tbl := px_mem 849 (by decide +kernel) rfl
set_option maxRecDepth 20000 in
theorem px_w850 : (Jvm.Cond.code ({ cls := "CheckDaemon$Circles", name := "circleCount", desc := "()I" } : Jvm.MethodName) prog_2_method_3_code (1 : Nat) (Option.some Jvm.ClassFile.FieldType.int)) ∈ px_tbl := px_mem 850 rfl rfl
theorem px_w851 : (Jvm.Cond.methodLink "CheckDaemon$Workspace" (175 : Nat) ({ cls := "CheckDaemon$Circles", name := "selfCount", desc := "()I" } : Jvm.MethodName)) ∈ px_tbl := px_mem 851 (by decide +kernel) rfl
theorem px_w852 : (Jvm.Cond.instanceMethod ({ cls := "CheckDaemon$Circles", name := "selfCount", desc := "()I" } : Jvm.MethodName)) ∈ px_tbl := px_mem 852 (by decide +kernel) rfl
theorem px_w853 : (Jvm.Cond.selects "CheckDaemon$Circles" ({ cls := "CheckDaemon$Circles", name := "selfCount", desc := "()I" } : Jvm.MethodName) ({ cls := "CheckDaemon$Circles", name := "selfCount", desc := "()I" } : Jvm.MethodName)) ∈ px_tbl := px_mem 853 (by decide +kernel) rfl
set_option maxRecDepth 20000 in
theorem px_w854 : (Jvm.Cond.code ({ cls := "CheckDaemon$Circles", name := "selfCount", desc := "()I" } : Jvm.MethodName) prog_2_method_4_code (1 : Nat) (Option.some Jvm.ClassFile.FieldType.int)) ∈ px_tbl := px_mem 854 rfl rfl
theorem px_w855 : (Jvm.Cond.methodLink "CheckDaemon$Workspace" (178 : Nat) ({ cls := "CheckDaemon$Workspace", name := "lineCount", desc := "()I" } : Jvm.MethodName)) ∈ px_tbl := px_mem 855 (by decide +kernel) rfl
theorem px_w857 : (Jvm.Cond.instanceMethod ({ cls := "CheckDaemon$Workspace", name := "lineCount", desc := "()I" } : Jvm.MethodName)) ∈ px_tbl := px_mem 857 (by decide +kernel) rfl
theorem px_w35 : Cond.selects "CheckDaemon$Workspace" ⟨"CheckDaemon$Workspace", "lineCount", "()I"⟩ ⟨"CheckDaemon$Workspace", "lineCount", "()I"⟩ ∈ px_tbl := px_mem 35 (by decide +kernel) rfl
set_option maxRecDepth 20000 in
theorem px_w858 : (Jvm.Cond.code ({ cls := "CheckDaemon$Workspace", name := "lineCount", desc := "()I" } : Jvm.MethodName) prog_11_method_20_code (3 : Nat) (Option.some Jvm.ClassFile.FieldType.int)) ∈ px_tbl := px_mem 858 rfl rfl
theorem px_w96 : (Jvm.Cond.instanceMethod ({ cls := "CheckDaemon$Workspace", name := "<init>", desc := "()V" } : Jvm.MethodName)) ∈ px_tbl := px_mem 96 (by decide +kernel) rfl
set_option maxRecDepth 20000 in
theorem px_w97 : (Jvm.Cond.code ({ cls := "CheckDaemon$Workspace", name := "<init>", desc := "()V" } : Jvm.MethodName) prog_11_method_1_code (1 : Nat) (Option.none : Option Jvm.ClassFile.FieldType)) ∈ px_tbl := px_mem 97 rfl rfl
theorem px_w186 : (Jvm.Cond.instanceMethod ({ cls := "CheckDaemon$History", name := "<init>", desc := "()V" } : Jvm.MethodName)) ∈ px_tbl := px_mem 186 (by decide +kernel) rfl
set_option maxRecDepth 20000 in
theorem px_w187 : (Jvm.Cond.code ({ cls := "CheckDaemon$History", name := "<init>", desc := "()V" } : Jvm.MethodName) prog_6_method_1_code (1 : Nat) (Option.none : Option Jvm.ClassFile.FieldType)) ∈ px_tbl := px_mem 187 rfl rfl
theorem px_w225 : (Jvm.Cond.methodLink "CheckDaemon" (31 : Nat) ({ cls := "CheckDaemon", name := "charactersIn", desc := "(I)I" } : Jvm.MethodName)) ∈ px_tbl := px_mem 225 (by decide +kernel) rfl
theorem px_w226 : (Jvm.Cond.static ({ cls := "CheckDaemon", name := "charactersIn", desc := "(I)I" } : Jvm.MethodName)) ∈ px_tbl := px_mem 226 (by decide +kernel) rfl
set_option maxRecDepth 20000 in
theorem px_w227 : (Jvm.Cond.code ({ cls := "CheckDaemon", name := "charactersIn", desc := "(I)I" } : Jvm.MethodName) prog_1_method_12_code (3 : Nat) (Option.some Jvm.ClassFile.FieldType.int)) ∈ px_tbl := px_mem 227 rfl rfl
theorem px_w66 : (Jvm.Cond.initialized "CheckDaemon") ∈ px_tbl := px_mem 66 (by decide +kernel) rfl
theorem px_w295 : (Jvm.Cond.methodLink "CheckDaemon" (42 : Nat) ({ cls := "CheckDaemon", name := "append", desc := "(I)V" } : Jvm.MethodName)) ∈ px_tbl := px_mem 295 (by decide +kernel) rfl
theorem px_w297 : (Jvm.Cond.instanceMethod ({ cls := "CheckDaemon", name := "append", desc := "(I)V" } : Jvm.MethodName)) ∈ px_tbl := px_mem 297 (by decide +kernel) rfl
theorem px_w1 : Cond.selects "CheckDaemon" ⟨"CheckDaemon", "append", "(I)V"⟩ ⟨"CheckDaemon", "append", "(I)V"⟩ ∈ px_tbl := px_mem 1 (by decide +kernel) rfl
set_option maxRecDepth 20000 in
theorem px_w298 : (Jvm.Cond.code ({ cls := "CheckDaemon", name := "append", desc := "(I)V" } : Jvm.MethodName) prog_1_method_13_code (4 : Nat) (Option.none : Option Jvm.ClassFile.FieldType)) ∈ px_tbl := px_mem 298 rfl rfl
theorem px_w307 : (Jvm.Cond.methodLink "CheckDaemon" (46 : Nat) ({ cls := "CheckDaemon", name := "isPlace", desc := "(II)Z" } : Jvm.MethodName)) ∈ px_tbl := px_mem 307 (by decide +kernel) rfl
theorem px_w308 : (Jvm.Cond.static ({ cls := "CheckDaemon", name := "isPlace", desc := "(II)Z" } : Jvm.MethodName)) ∈ px_tbl := px_mem 308 (by decide +kernel) rfl
set_option maxRecDepth 20000 in
theorem px_w309 : (Jvm.Cond.code ({ cls := "CheckDaemon", name := "isPlace", desc := "(II)Z" } : Jvm.MethodName) prog_1_method_11_code (2 : Nat) (Option.some Jvm.ClassFile.FieldType.boolean)) ∈ px_tbl := px_mem 309 rfl rfl
theorem px_w326 : (Jvm.Cond.methodLink "CheckDaemon" (55 : Nat) ({ cls := "CheckDaemon", name := "isBlank", desc := "()Z" } : Jvm.MethodName)) ∈ px_tbl := px_mem 326 (by decide +kernel) rfl
theorem px_w328 : (Jvm.Cond.instanceMethod ({ cls := "CheckDaemon", name := "isBlank", desc := "()Z" } : Jvm.MethodName)) ∈ px_tbl := px_mem 328 (by decide +kernel) rfl
theorem px_w2 : Cond.selects "CheckDaemon" ⟨"CheckDaemon", "isBlank", "()Z"⟩ ⟨"CheckDaemon", "isBlank", "()Z"⟩ ∈ px_tbl := px_mem 2 (by decide +kernel) rfl
set_option maxRecDepth 20000 in
theorem px_w329 : (Jvm.Cond.code ({ cls := "CheckDaemon", name := "isBlank", desc := "()Z" } : Jvm.MethodName) prog_1_method_14_code (2 : Nat) (Option.some Jvm.ClassFile.FieldType.boolean)) ∈ px_tbl := px_mem 329 rfl rfl
theorem px_w332 : (Jvm.Cond.methodLink "CheckDaemon" (61 : Nat) ({ cls := "CheckDaemon$Parser", name := "<init>", desc := "([III)V" } : Jvm.MethodName)) ∈ px_tbl := px_mem 332 (by decide +kernel) rfl
theorem px_w333 : (Jvm.Cond.instanceMethod ({ cls := "CheckDaemon$Parser", name := "<init>", desc := "([III)V" } : Jvm.MethodName)) ∈ px_tbl := px_mem 333 (by decide +kernel) rfl
set_option maxRecDepth 20000 in
theorem px_w334 : (Jvm.Cond.code ({ cls := "CheckDaemon$Parser", name := "<init>", desc := "([III)V" } : Jvm.MethodName) prog_8_method_1_code (4 : Nat) (Option.none : Option Jvm.ClassFile.FieldType)) ∈ px_tbl := px_mem 334 rfl rfl
theorem px_w399 : (Jvm.Cond.methodLink "CheckDaemon" (64 : Nat) ({ cls := "CheckDaemon$Parser", name := "read", desc := "()LCheckDaemon$Line;" } : Jvm.MethodName)) ∈ px_tbl := px_mem 399 (by decide +kernel) rfl
theorem px_w400 : (Jvm.Cond.instanceMethod ({ cls := "CheckDaemon$Parser", name := "read", desc := "()LCheckDaemon$Line;" } : Jvm.MethodName)) ∈ px_tbl := px_mem 400 (by decide +kernel) rfl
theorem px_w401 : (Jvm.Cond.selects "CheckDaemon$Parser" ({ cls := "CheckDaemon$Parser", name := "read", desc := "()LCheckDaemon$Line;" } : Jvm.MethodName) ({ cls := "CheckDaemon$Parser", name := "read", desc := "()LCheckDaemon$Line;" } : Jvm.MethodName)) ∈ px_tbl := px_mem 401 (by decide +kernel) rfl
set_option maxRecDepth 20000 in
theorem px_w402 : (Jvm.Cond.code ({ cls := "CheckDaemon$Parser", name := "read", desc := "()LCheckDaemon$Line;" } : Jvm.MethodName) prog_8_method_2_code (2 : Nat) (Option.some (Jvm.ClassFile.FieldType.object "CheckDaemon$Line"))) ∈ px_tbl := px_mem 402 rfl rfl
theorem px_w509 : (Jvm.Cond.methodLink "CheckDaemon" (68 : Nat) ({ cls := "CheckDaemon$Workspace", name := "lineAt", desc := "(I)LCheckDaemon$Line;" } : Jvm.MethodName)) ∈ px_tbl := px_mem 509 (by decide +kernel) rfl
theorem px_w510 : (Jvm.Cond.instanceMethod ({ cls := "CheckDaemon$Workspace", name := "lineAt", desc := "(I)LCheckDaemon$Line;" } : Jvm.MethodName)) ∈ px_tbl := px_mem 510 (by decide +kernel) rfl
theorem px_w511 : (Jvm.Cond.selects "CheckDaemon$Workspace" ({ cls := "CheckDaemon$Workspace", name := "lineAt", desc := "(I)LCheckDaemon$Line;" } : Jvm.MethodName) ({ cls := "CheckDaemon$Workspace", name := "lineAt", desc := "(I)LCheckDaemon$Line;" } : Jvm.MethodName)) ∈ px_tbl := px_mem 511 (by decide +kernel) rfl
set_option maxRecDepth 20000 in
theorem px_w512 : (Jvm.Cond.code ({ cls := "CheckDaemon$Workspace", name := "lineAt", desc := "(I)LCheckDaemon$Line;" } : Jvm.MethodName) prog_11_method_2_code (2 : Nat) (Option.some (Jvm.ClassFile.FieldType.object "CheckDaemon$Line"))) ∈ px_tbl := px_mem 512 rfl rfl
theorem px_w513 : (Jvm.Cond.methodLink "CheckDaemon" (72 : Nat) ({ cls := "CheckDaemon$History", name := "keep", desc := "(ILCheckDaemon$Line;)V" } : Jvm.MethodName)) ∈ px_tbl := px_mem 513 (by decide +kernel) rfl
theorem px_w514 : (Jvm.Cond.instanceMethod ({ cls := "CheckDaemon$History", name := "keep", desc := "(ILCheckDaemon$Line;)V" } : Jvm.MethodName)) ∈ px_tbl := px_mem 514 (by decide +kernel) rfl
theorem px_w515 : (Jvm.Cond.selects "CheckDaemon$History" ({ cls := "CheckDaemon$History", name := "keep", desc := "(ILCheckDaemon$Line;)V" } : Jvm.MethodName) ({ cls := "CheckDaemon$History", name := "keep", desc := "(ILCheckDaemon$Line;)V" } : Jvm.MethodName)) ∈ px_tbl := px_mem 515 (by decide +kernel) rfl
set_option maxRecDepth 20000 in
theorem px_w516 : (Jvm.Cond.code ({ cls := "CheckDaemon$History", name := "keep", desc := "(ILCheckDaemon$Line;)V" } : Jvm.MethodName) prog_6_method_3_code (3 : Nat) (Option.none : Option Jvm.ClassFile.FieldType)) ∈ px_tbl := px_mem 516 rfl rfl
theorem px_w521 : (Jvm.Cond.methodLink "CheckDaemon" (76 : Nat) ({ cls := "CheckDaemon$Workspace", name := "edit", desc := "(ILCheckDaemon$Line;)I" } : Jvm.MethodName)) ∈ px_tbl := px_mem 521 (by decide +kernel) rfl
theorem px_w522 : (Jvm.Cond.instanceMethod ({ cls := "CheckDaemon$Workspace", name := "edit", desc := "(ILCheckDaemon$Line;)I" } : Jvm.MethodName)) ∈ px_tbl := px_mem 522 (by decide +kernel) rfl
theorem px_w523 : (Jvm.Cond.selects "CheckDaemon$Workspace" ({ cls := "CheckDaemon$Workspace", name := "edit", desc := "(ILCheckDaemon$Line;)I" } : Jvm.MethodName) ({ cls := "CheckDaemon$Workspace", name := "edit", desc := "(ILCheckDaemon$Line;)I" } : Jvm.MethodName)) ∈ px_tbl := px_mem 523 (by decide +kernel) rfl
set_option maxRecDepth 20000 in
theorem px_w524 : (Jvm.Cond.code ({ cls := "CheckDaemon$Workspace", name := "edit", desc := "(ILCheckDaemon$Line;)I" } : Jvm.MethodName) prog_11_method_3_code (6 : Nat) (Option.some Jvm.ClassFile.FieldType.int)) ∈ px_tbl := px_mem 524 rfl rfl
theorem px_w683 : (Jvm.Cond.methodLink "CheckDaemon" (82 : Nat) ({ cls := "CheckDaemon$History", name := "forget", desc := "()V" } : Jvm.MethodName)) ∈ px_tbl := px_mem 683 (by decide +kernel) rfl
theorem px_w684 : (Jvm.Cond.instanceMethod ({ cls := "CheckDaemon$History", name := "forget", desc := "()V" } : Jvm.MethodName)) ∈ px_tbl := px_mem 684 (by decide +kernel) rfl
theorem px_w685 : (Jvm.Cond.selects "CheckDaemon$History" ({ cls := "CheckDaemon$History", name := "forget", desc := "()V" } : Jvm.MethodName) ({ cls := "CheckDaemon$History", name := "forget", desc := "()V" } : Jvm.MethodName)) ∈ px_tbl := px_mem 685 (by decide +kernel) rfl
set_option maxRecDepth 20000 in
theorem px_w686 : (Jvm.Cond.code ({ cls := "CheckDaemon$History", name := "forget", desc := "()V" } : Jvm.MethodName) prog_6_method_8_code (2 : Nat) (Option.none : Option Jvm.ClassFile.FieldType)) ∈ px_tbl := px_mem 686 rfl rfl
theorem px_w694 : (Jvm.Cond.methodLink "CheckDaemon" (85 : Nat) ({ cls := "CheckDaemon$History", name := "size", desc := "()I" } : Jvm.MethodName)) ∈ px_tbl := px_mem 694 (by decide +kernel) rfl
theorem px_w695 : (Jvm.Cond.instanceMethod ({ cls := "CheckDaemon$History", name := "size", desc := "()I" } : Jvm.MethodName)) ∈ px_tbl := px_mem 695 (by decide +kernel) rfl
theorem px_w696 : (Jvm.Cond.selects "CheckDaemon$History" ({ cls := "CheckDaemon$History", name := "size", desc := "()I" } : Jvm.MethodName) ({ cls := "CheckDaemon$History", name := "size", desc := "()I" } : Jvm.MethodName)) ∈ px_tbl := px_mem 696 (by decide +kernel) rfl
set_option maxRecDepth 20000 in
theorem px_w697 : (Jvm.Cond.code ({ cls := "CheckDaemon$History", name := "size", desc := "()I" } : Jvm.MethodName) prog_6_method_2_code (1 : Nat) (Option.some Jvm.ClassFile.FieldType.int)) ∈ px_tbl := px_mem 697 rfl rfl
theorem px_w699 : (Jvm.Cond.methodLink "CheckDaemon" (91 : Nat) ({ cls := "CheckDaemon$History", name := "lastPlace", desc := "()I" } : Jvm.MethodName)) ∈ px_tbl := px_mem 699 (by decide +kernel) rfl
theorem px_w700 : (Jvm.Cond.instanceMethod ({ cls := "CheckDaemon$History", name := "lastPlace", desc := "()I" } : Jvm.MethodName)) ∈ px_tbl := px_mem 700 (by decide +kernel) rfl
theorem px_w701 : (Jvm.Cond.selects "CheckDaemon$History" ({ cls := "CheckDaemon$History", name := "lastPlace", desc := "()I" } : Jvm.MethodName) ({ cls := "CheckDaemon$History", name := "lastPlace", desc := "()I" } : Jvm.MethodName)) ∈ px_tbl := px_mem 701 (by decide +kernel) rfl
set_option maxRecDepth 20000 in
theorem px_w702 : (Jvm.Cond.code ({ cls := "CheckDaemon$History", name := "lastPlace", desc := "()I" } : Jvm.MethodName) prog_6_method_5_code (1 : Nat) (Option.some Jvm.ClassFile.FieldType.int)) ∈ px_tbl := px_mem 702 rfl rfl
theorem px_w703 : (Jvm.Cond.methodLink "CheckDaemon" (94 : Nat) ({ cls := "CheckDaemon$History", name := "lastLine", desc := "()LCheckDaemon$Line;" } : Jvm.MethodName)) ∈ px_tbl := px_mem 703 (by decide +kernel) rfl
theorem px_w704 : (Jvm.Cond.instanceMethod ({ cls := "CheckDaemon$History", name := "lastLine", desc := "()LCheckDaemon$Line;" } : Jvm.MethodName)) ∈ px_tbl := px_mem 704 (by decide +kernel) rfl
theorem px_w705 : (Jvm.Cond.selects "CheckDaemon$History" ({ cls := "CheckDaemon$History", name := "lastLine", desc := "()LCheckDaemon$Line;" } : Jvm.MethodName) ({ cls := "CheckDaemon$History", name := "lastLine", desc := "()LCheckDaemon$Line;" } : Jvm.MethodName)) ∈ px_tbl := px_mem 705 (by decide +kernel) rfl
set_option maxRecDepth 20000 in
theorem px_w706 : (Jvm.Cond.code ({ cls := "CheckDaemon$History", name := "lastLine", desc := "()LCheckDaemon$Line;" } : Jvm.MethodName) prog_6_method_6_code (1 : Nat) (Option.some (Jvm.ClassFile.FieldType.object "CheckDaemon$Line"))) ∈ px_tbl := px_mem 706 rfl rfl
theorem px_w707 : (Jvm.Cond.methodLink "CheckDaemon" (97 : Nat) ({ cls := "CheckDaemon$History", name := "removeLast", desc := "()V" } : Jvm.MethodName)) ∈ px_tbl := px_mem 707 (by decide +kernel) rfl
theorem px_w708 : (Jvm.Cond.instanceMethod ({ cls := "CheckDaemon$History", name := "removeLast", desc := "()V" } : Jvm.MethodName)) ∈ px_tbl := px_mem 708 (by decide +kernel) rfl
theorem px_w709 : (Jvm.Cond.selects "CheckDaemon$History" ({ cls := "CheckDaemon$History", name := "removeLast", desc := "()V" } : Jvm.MethodName) ({ cls := "CheckDaemon$History", name := "removeLast", desc := "()V" } : Jvm.MethodName)) ∈ px_tbl := px_mem 709 (by decide +kernel) rfl
set_option maxRecDepth 20000 in
theorem px_w710 : (Jvm.Cond.code ({ cls := "CheckDaemon$History", name := "removeLast", desc := "()V" } : Jvm.MethodName) prog_6_method_7_code (1 : Nat) (Option.none : Option Jvm.ClassFile.FieldType)) ∈ px_tbl := px_mem 710 rfl rfl
theorem px_w719 : (Jvm.Cond.methodLink "CheckDaemon" (102 : Nat) ({ cls := "CheckDaemon$Workspace", name := "tellSymbol", desc := "(II)I" } : Jvm.MethodName)) ∈ px_tbl := px_mem 719 (by decide +kernel) rfl
theorem px_w720 : (Jvm.Cond.instanceMethod ({ cls := "CheckDaemon$Workspace", name := "tellSymbol", desc := "(II)I" } : Jvm.MethodName)) ∈ px_tbl := px_mem 720 (by decide +kernel) rfl
theorem px_w721 : (Jvm.Cond.selects "CheckDaemon$Workspace" ({ cls := "CheckDaemon$Workspace", name := "tellSymbol", desc := "(II)I" } : Jvm.MethodName) ({ cls := "CheckDaemon$Workspace", name := "tellSymbol", desc := "(II)I" } : Jvm.MethodName)) ∈ px_tbl := px_mem 721 (by decide +kernel) rfl
set_option maxRecDepth 20000 in
theorem px_w722 : (Jvm.Cond.code ({ cls := "CheckDaemon$Workspace", name := "tellSymbol", desc := "(II)I" } : Jvm.MethodName) prog_11_method_13_code (4 : Nat) (Option.some Jvm.ClassFile.FieldType.int)) ∈ px_tbl := px_mem 722 rfl rfl
theorem px_w781 : (Jvm.Cond.methodLink "CheckDaemon" (108 : Nat) ({ cls := "CheckDaemon$Line", name := "tellAbout", desc := "(I)I" } : Jvm.MethodName)) ∈ px_tbl := px_mem 781 (by decide +kernel) rfl
theorem px_w782 : (Jvm.Cond.instanceMethod ({ cls := "CheckDaemon$Line", name := "tellAbout", desc := "(I)I" } : Jvm.MethodName)) ∈ px_tbl := px_mem 782 (by decide +kernel) rfl
theorem px_w783 : (Jvm.Cond.selects "CheckDaemon$Line" ({ cls := "CheckDaemon$Line", name := "tellAbout", desc := "(I)I" } : Jvm.MethodName) ({ cls := "CheckDaemon$Line", name := "tellAbout", desc := "(I)I" } : Jvm.MethodName)) ∈ px_tbl := px_mem 783 (by decide +kernel) rfl
set_option maxRecDepth 20000 in
theorem px_w784 : (Jvm.Cond.code ({ cls := "CheckDaemon$Line", name := "tellAbout", desc := "(I)I" } : Jvm.MethodName) prog_7_method_11_code (2 : Nat) (Option.some Jvm.ClassFile.FieldType.int)) ∈ px_tbl := px_mem 784 rfl rfl
theorem px_w807 : (Jvm.Cond.methodLink "CheckDaemon" (115 : Nat) ({ cls := "CheckDaemon$Workspace", name := "tellFault", desc := "(II)I" } : Jvm.MethodName)) ∈ px_tbl := px_mem 807 (by decide +kernel) rfl
theorem px_w808 : (Jvm.Cond.instanceMethod ({ cls := "CheckDaemon$Workspace", name := "tellFault", desc := "(II)I" } : Jvm.MethodName)) ∈ px_tbl := px_mem 808 (by decide +kernel) rfl
theorem px_w809 : (Jvm.Cond.selects "CheckDaemon$Workspace" ({ cls := "CheckDaemon$Workspace", name := "tellFault", desc := "(II)I" } : Jvm.MethodName) ({ cls := "CheckDaemon$Workspace", name := "tellFault", desc := "(II)I" } : Jvm.MethodName)) ∈ px_tbl := px_mem 809 (by decide +kernel) rfl
set_option maxRecDepth 20000 in
theorem px_w810 : (Jvm.Cond.code ({ cls := "CheckDaemon$Workspace", name := "tellFault", desc := "(II)I" } : Jvm.MethodName) prog_11_method_16_code (7 : Nat) (Option.some Jvm.ClassFile.FieldType.int)) ∈ px_tbl := px_mem 810 rfl rfl
theorem px_w835 : (Jvm.Cond.methodLink "CheckDaemon" (118 : Nat) ({ cls := "CheckDaemon$Workspace", name := "howMany", desc := "(I)I" } : Jvm.MethodName)) ∈ px_tbl := px_mem 835 (by decide +kernel) rfl
theorem px_w836 : (Jvm.Cond.instanceMethod ({ cls := "CheckDaemon$Workspace", name := "howMany", desc := "(I)I" } : Jvm.MethodName)) ∈ px_tbl := px_mem 836 (by decide +kernel) rfl
theorem px_w837 : (Jvm.Cond.selects "CheckDaemon$Workspace" ({ cls := "CheckDaemon$Workspace", name := "howMany", desc := "(I)I" } : Jvm.MethodName) ({ cls := "CheckDaemon$Workspace", name := "howMany", desc := "(I)I" } : Jvm.MethodName)) ∈ px_tbl := px_mem 837 (by decide +kernel) rfl
set_option maxRecDepth 20000 in
theorem px_w838 : (Jvm.Cond.code ({ cls := "CheckDaemon$Workspace", name := "howMany", desc := "(I)I" } : Jvm.MethodName) prog_11_method_18_code (2 : Nat) (Option.some Jvm.ClassFile.FieldType.int)) ∈ px_tbl := px_mem 838 rfl rfl
theorem px_w978 : (Jvm.Cond.methodLink "CheckDaemonModel" (95 : Nat) ({ cls := "CheckDaemonModel", name := "feed", desc := "(II)I" } : Jvm.MethodName)) ∈ px_tbl := px_mem 978 (by decide +kernel) rfl
theorem px_w980 : (Jvm.Cond.instanceMethod ({ cls := "CheckDaemonModel", name := "feed", desc := "(II)I" } : Jvm.MethodName)) ∈ px_tbl := px_mem 980 (by decide +kernel) rfl
theorem px_w36 : Cond.selects "CheckDaemonModel" ⟨"CheckDaemonModel", "feed", "(II)I"⟩ ⟨"CheckDaemonModel", "feed", "(II)I"⟩ ∈ px_tbl := px_mem 36 (by decide +kernel) rfl
set_option maxRecDepth 20000 in
theorem px_w981 : (Jvm.Cond.code ({ cls := "CheckDaemonModel", name := "feed", desc := "(II)I" } : Jvm.MethodName) prog_13_method_5_code (6 : Nat) (Option.some Jvm.ClassFile.FieldType.int)) ∈ px_tbl := px_mem 981 rfl rfl
theorem px_w72 : (Jvm.Cond.initialized "CheckDaemonModel") ∈ px_tbl := px_mem 72 (by decide +kernel) rfl
theorem px_w982 : (Jvm.Cond.methodLink "CheckDaemonModel" (99 : Nat) ({ cls := "CheckDaemonModel", name := "refused", desc := "(I)Z" } : Jvm.MethodName)) ∈ px_tbl := px_mem 982 (by decide +kernel) rfl
theorem px_w984 : (Jvm.Cond.instanceMethod ({ cls := "CheckDaemonModel", name := "refused", desc := "(I)Z" } : Jvm.MethodName)) ∈ px_tbl := px_mem 984 (by decide +kernel) rfl
theorem px_w37 : Cond.selects "CheckDaemonModel" ⟨"CheckDaemonModel", "refused", "(I)Z"⟩ ⟨"CheckDaemonModel", "refused", "(I)Z"⟩ ∈ px_tbl := px_mem 37 (by decide +kernel) rfl
set_option maxRecDepth 20000 in
theorem px_w985 : (Jvm.Cond.code ({ cls := "CheckDaemonModel", name := "refused", desc := "(I)Z" } : Jvm.MethodName) prog_13_method_3_code (2 : Nat) (Option.some Jvm.ClassFile.FieldType.boolean)) ∈ px_tbl := px_mem 985 rfl rfl
theorem px_w994 : (Jvm.Cond.methodLink "CheckDaemonModel" (218 : Nat) ({ cls := "CheckDaemonModel", name := "isIn", desc := "(III)Z" } : Jvm.MethodName)) ∈ px_tbl := px_mem 994 (by decide +kernel) rfl
theorem px_w995 : (Jvm.Cond.static ({ cls := "CheckDaemonModel", name := "isIn", desc := "(III)Z" } : Jvm.MethodName)) ∈ px_tbl := px_mem 995 (by decide +kernel) rfl
set_option maxRecDepth 20000 in
theorem px_w996 : (Jvm.Cond.code ({ cls := "CheckDaemonModel", name := "isIn", desc := "(III)Z" } : Jvm.MethodName) prog_13_method_4_code (3 : Nat) (Option.some Jvm.ClassFile.FieldType.boolean)) ∈ px_tbl := px_mem 996 rfl rfl
theorem px_w997 : (Jvm.Cond.methodLink "CheckDaemonModel" (222 : Nat) ({ cls := "CheckDaemonModel", name := "remember", desc := "(I)V" } : Jvm.MethodName)) ∈ px_tbl := px_mem 997 (by decide +kernel) rfl
theorem px_w999 : (Jvm.Cond.instanceMethod ({ cls := "CheckDaemonModel", name := "remember", desc := "(I)V" } : Jvm.MethodName)) ∈ px_tbl := px_mem 999 (by decide +kernel) rfl
theorem px_w38 : Cond.selects "CheckDaemonModel" ⟨"CheckDaemonModel", "remember", "(I)V"⟩ ⟨"CheckDaemonModel", "remember", "(I)V"⟩ ∈ px_tbl := px_mem 38 (by decide +kernel) rfl
set_option maxRecDepth 20000 in
theorem px_w1000 : (Jvm.Cond.code ({ cls := "CheckDaemonModel", name := "remember", desc := "(I)V" } : Jvm.MethodName) prog_13_method_37_code (3 : Nat) (Option.none : Option Jvm.ClassFile.FieldType)) ∈ px_tbl := px_mem 1000 rfl rfl
theorem px_w1001 : (Jvm.Cond.methodLink "CheckDaemonModel" (225 : Nat) ({ cls := "CheckDaemonModel", name := "isBlank", desc := "()Z" } : Jvm.MethodName)) ∈ px_tbl := px_mem 1001 (by decide +kernel) rfl
theorem px_w1003 : (Jvm.Cond.instanceMethod ({ cls := "CheckDaemonModel", name := "isBlank", desc := "()Z" } : Jvm.MethodName)) ∈ px_tbl := px_mem 1003 (by decide +kernel) rfl
theorem px_w39 : Cond.selects "CheckDaemonModel" ⟨"CheckDaemonModel", "isBlank", "()Z"⟩ ⟨"CheckDaemonModel", "isBlank", "()Z"⟩ ∈ px_tbl := px_mem 39 (by decide +kernel) rfl
set_option maxRecDepth 20000 in
theorem px_w1004 : (Jvm.Cond.code ({ cls := "CheckDaemonModel", name := "isBlank", desc := "()Z" } : Jvm.MethodName) prog_13_method_36_code (3 : Nat) (Option.some Jvm.ClassFile.FieldType.boolean)) ∈ px_tbl := px_mem 1004 rfl rfl
theorem px_w1005 : (Jvm.Cond.methodLink "CheckDaemonModel" (228 : Nat) ({ cls := "CheckDaemonModel", name := "edit", desc := "(IZ)I" } : Jvm.MethodName)) ∈ px_tbl := px_mem 1005 (by decide +kernel) rfl
theorem px_w1007 : (Jvm.Cond.instanceMethod ({ cls := "CheckDaemonModel", name := "edit", desc := "(IZ)I" } : Jvm.MethodName)) ∈ px_tbl := px_mem 1007 (by decide +kernel) rfl
theorem px_w40 : Cond.selects "CheckDaemonModel" ⟨"CheckDaemonModel", "edit", "(IZ)I"⟩ ⟨"CheckDaemonModel", "edit", "(IZ)I"⟩ ∈ px_tbl := px_mem 40 (by decide +kernel) rfl
set_option maxRecDepth 20000 in
theorem px_w1008 : (Jvm.Cond.code ({ cls := "CheckDaemonModel", name := "edit", desc := "(IZ)I" } : Jvm.MethodName) prog_13_method_34_code (6 : Nat) (Option.some Jvm.ClassFile.FieldType.int)) ∈ px_tbl := px_mem 1008 rfl rfl
theorem px_w1009 : (Jvm.Cond.methodLink "CheckDaemonModel" (202 : Nat) ({ cls := "CheckDaemonModel", name := "read", desc := "(I)V" } : Jvm.MethodName)) ∈ px_tbl := px_mem 1009 (by decide +kernel) rfl
theorem px_w1011 : (Jvm.Cond.instanceMethod ({ cls := "CheckDaemonModel", name := "read", desc := "(I)V" } : Jvm.MethodName)) ∈ px_tbl := px_mem 1011 (by decide +kernel) rfl
theorem px_w41 : Cond.selects "CheckDaemonModel" ⟨"CheckDaemonModel", "read", "(I)V"⟩ ⟨"CheckDaemonModel", "read", "(I)V"⟩ ∈ px_tbl := px_mem 41 (by decide +kernel) rfl
set_option maxRecDepth 20000 in
theorem px_w1012 : (Jvm.Cond.code ({ cls := "CheckDaemonModel", name := "read", desc := "(I)V" } : Jvm.MethodName) prog_13_method_20_code (3 : Nat) (Option.none : Option Jvm.ClassFile.FieldType)) ∈ px_tbl := px_mem 1012 rfl rfl
theorem px_w1013 : (Jvm.Cond.methodLink "CheckDaemonModel" (113 : Nat) ({ cls := "CheckDaemonModel", name := "look", desc := "()C" } : Jvm.MethodName)) ∈ px_tbl := px_mem 1013 (by decide +kernel) rfl
theorem px_w1015 : (Jvm.Cond.instanceMethod ({ cls := "CheckDaemonModel", name := "look", desc := "()C" } : Jvm.MethodName)) ∈ px_tbl := px_mem 1015 (by decide +kernel) rfl
theorem px_w42 : Cond.selects "CheckDaemonModel" ⟨"CheckDaemonModel", "look", "()C"⟩ ⟨"CheckDaemonModel", "look", "()C"⟩ ∈ px_tbl := px_mem 42 (by decide +kernel) rfl
set_option maxRecDepth 20000 in
theorem px_w1016 : (Jvm.Cond.code ({ cls := "CheckDaemonModel", name := "look", desc := "()C" } : Jvm.MethodName) prog_13_method_9_code (1 : Nat) (Option.some Jvm.ClassFile.FieldType.char)) ∈ px_tbl := px_mem 1016 rfl rfl
theorem px_w1017 : (Jvm.Cond.methodLink "CheckDaemonModel" (109 : Nat) ({ cls := "CheckDaemonModel", name := "charAt", desc := "(I)C" } : Jvm.MethodName)) ∈ px_tbl := px_mem 1017 (by decide +kernel) rfl
theorem px_w1019 : (Jvm.Cond.instanceMethod ({ cls := "CheckDaemonModel", name := "charAt", desc := "(I)C" } : Jvm.MethodName)) ∈ px_tbl := px_mem 1019 (by decide +kernel) rfl
theorem px_w43 : Cond.selects "CheckDaemonModel" ⟨"CheckDaemonModel", "charAt", "(I)C"⟩ ⟨"CheckDaemonModel", "charAt", "(I)C"⟩ ∈ px_tbl := px_mem 43 (by decide +kernel) rfl
set_option maxRecDepth 20000 in
theorem px_w1020 : (Jvm.Cond.code ({ cls := "CheckDaemonModel", name := "charAt", desc := "(I)C" } : Jvm.MethodName) prog_13_method_8_code (2 : Nat) (Option.some Jvm.ClassFile.FieldType.char)) ∈ px_tbl := px_mem 1020 rfl rfl
theorem px_w1021 : (Jvm.Cond.methodLink "CheckDaemonModel" (132 : Nat) ({ cls := "CheckDaemonModel", name := "isSymbol", desc := "(C)Z" } : Jvm.MethodName)) ∈ px_tbl := px_mem 1021 (by decide +kernel) rfl
theorem px_w1022 : (Jvm.Cond.static ({ cls := "CheckDaemonModel", name := "isSymbol", desc := "(C)Z" } : Jvm.MethodName)) ∈ px_tbl := px_mem 1022 (by decide +kernel) rfl
set_option maxRecDepth 20000 in
theorem px_w1023 : (Jvm.Cond.code ({ cls := "CheckDaemonModel", name := "isSymbol", desc := "(C)Z" } : Jvm.MethodName) prog_13_method_12_code (1 : Nat) (Option.some Jvm.ClassFile.FieldType.boolean)) ∈ px_tbl := px_mem 1023 rfl rfl
theorem px_w1024 : (Jvm.Cond.methodLink "CheckDaemonModel" (150 : Nat) ({ cls := "CheckDaemonModel", name := "readWord", desc := "()Z" } : Jvm.MethodName)) ∈ px_tbl := px_mem 1024 (by decide +kernel) rfl
theorem px_w1026 : (Jvm.Cond.instanceMethod ({ cls := "CheckDaemonModel", name := "readWord", desc := "()Z" } : Jvm.MethodName)) ∈ px_tbl := px_mem 1026 (by decide +kernel) rfl
theorem px_w44 : Cond.selects "CheckDaemonModel" ⟨"CheckDaemonModel", "readWord", "()Z"⟩ ⟨"CheckDaemonModel", "readWord", "()Z"⟩ ∈ px_tbl := px_mem 44 (by decide +kernel) rfl
set_option maxRecDepth 20000 in
theorem px_w1027 : (Jvm.Cond.code ({ cls := "CheckDaemonModel", name := "readWord", desc := "()Z" } : Jvm.MethodName) prog_13_method_14_code (5 : Nat) (Option.some Jvm.ClassFile.FieldType.boolean)) ∈ px_tbl := px_mem 1027 rfl rfl
theorem px_w1028 : (Jvm.Cond.methodLink "CheckDaemonModel" (117 : Nat) ({ cls := "CheckDaemonModel", name := "letterOf", desc := "(C)I" } : Jvm.MethodName)) ∈ px_tbl := px_mem 1028 (by decide +kernel) rfl
theorem px_w1029 : (Jvm.Cond.static ({ cls := "CheckDaemonModel", name := "letterOf", desc := "(C)I" } : Jvm.MethodName)) ∈ px_tbl := px_mem 1029 (by decide +kernel) rfl
set_option maxRecDepth 20000 in
theorem px_w1030 : (Jvm.Cond.code ({ cls := "CheckDaemonModel", name := "letterOf", desc := "(C)I" } : Jvm.MethodName) prog_13_method_11_code (1 : Nat) (Option.some Jvm.ClassFile.FieldType.int)) ∈ px_tbl := px_mem 1030 rfl rfl
theorem px_w1031 : (Jvm.Cond.methodLink "CheckDaemonModel" (121 : Nat) ({ cls := "CheckDaemonModel", name := "wrong", desc := "()Z" } : Jvm.MethodName)) ∈ px_tbl := px_mem 1031 (by decide +kernel) rfl
theorem px_w1033 : (Jvm.Cond.instanceMethod ({ cls := "CheckDaemonModel", name := "wrong", desc := "()Z" } : Jvm.MethodName)) ∈ px_tbl := px_mem 1033 (by decide +kernel) rfl
theorem px_w45 : Cond.selects "CheckDaemonModel" ⟨"CheckDaemonModel", "wrong", "()Z"⟩ ⟨"CheckDaemonModel", "wrong", "()Z"⟩ ∈ px_tbl := px_mem 45 (by decide +kernel) rfl
set_option maxRecDepth 20000 in
theorem px_w1034 : (Jvm.Cond.code ({ cls := "CheckDaemonModel", name := "wrong", desc := "()Z" } : Jvm.MethodName) prog_13_method_10_code (1 : Nat) (Option.some Jvm.ClassFile.FieldType.boolean)) ∈ px_tbl := px_mem 1034 rfl rfl
theorem px_w1035 : (Jvm.Cond.methodLink "CheckDaemonModel" (153 : Nat) ({ cls := "CheckDaemonModel", name := "readExpression", desc := "()Z" } : Jvm.MethodName)) ∈ px_tbl := px_mem 1035 (by decide +kernel) rfl
theorem px_w1037 : (Jvm.Cond.instanceMethod ({ cls := "CheckDaemonModel", name := "readExpression", desc := "()Z" } : Jvm.MethodName)) ∈ px_tbl := px_mem 1037 (by decide +kernel) rfl
theorem px_w46 : Cond.selects "CheckDaemonModel" ⟨"CheckDaemonModel", "readExpression", "()Z"⟩ ⟨"CheckDaemonModel", "readExpression", "()Z"⟩ ∈ px_tbl := px_mem 46 (by decide +kernel) rfl
set_option maxRecDepth 20000 in
theorem px_w1038 : (Jvm.Cond.code ({ cls := "CheckDaemonModel", name := "readExpression", desc := "()Z" } : Jvm.MethodName) prog_13_method_19_code (3 : Nat) (Option.some Jvm.ClassFile.FieldType.boolean)) ∈ px_tbl := px_mem 1038 rfl rfl
theorem px_w1039 : (Jvm.Cond.methodLink "CheckDaemonModel" (140 : Nat) ({ cls := "CheckDaemonModel", name := "readAtom", desc := "()I" } : Jvm.MethodName)) ∈ px_tbl := px_mem 1039 (by decide +kernel) rfl
theorem px_w1041 : (Jvm.Cond.instanceMethod ({ cls := "CheckDaemonModel", name := "readAtom", desc := "()I" } : Jvm.MethodName)) ∈ px_tbl := px_mem 1041 (by decide +kernel) rfl
theorem px_w47 : Cond.selects "CheckDaemonModel" ⟨"CheckDaemonModel", "readAtom", "()I"⟩ ⟨"CheckDaemonModel", "readAtom", "()I"⟩ ∈ px_tbl := px_mem 47 (by decide +kernel) rfl
set_option maxRecDepth 20000 in
theorem px_w1042 : (Jvm.Cond.code ({ cls := "CheckDaemonModel", name := "readAtom", desc := "()I" } : Jvm.MethodName) prog_13_method_17_code (3 : Nat) (Option.some Jvm.ClassFile.FieldType.int)) ∈ px_tbl := px_mem 1042 rfl rfl
theorem px_w1043 : (Jvm.Cond.methodLink "CheckDaemonModel" (128 : Nat) ({ cls := "CheckDaemonModel", name := "step", desc := "(III)V" } : Jvm.MethodName)) ∈ px_tbl := px_mem 1043 (by decide +kernel) rfl
theorem px_w1045 : (Jvm.Cond.instanceMethod ({ cls := "CheckDaemonModel", name := "step", desc := "(III)V" } : Jvm.MethodName)) ∈ px_tbl := px_mem 1045 (by decide +kernel) rfl
theorem px_w48 : Cond.selects "CheckDaemonModel" ⟨"CheckDaemonModel", "step", "(III)V"⟩ ⟨"CheckDaemonModel", "step", "(III)V"⟩ ∈ px_tbl := px_mem 48 (by decide +kernel) rfl
set_option maxRecDepth 20000 in
theorem px_w1046 : (Jvm.Cond.code ({ cls := "CheckDaemonModel", name := "step", desc := "(III)V" } : Jvm.MethodName) prog_13_method_13_code (5 : Nat) (Option.none : Option Jvm.ClassFile.FieldType)) ∈ px_tbl := px_mem 1046 rfl rfl
theorem px_w1047 : (Jvm.Cond.methodLink "CheckDaemonModel" (136 : Nat) ({ cls := "CheckDaemonModel", name := "brackets", desc := "()I" } : Jvm.MethodName)) ∈ px_tbl := px_mem 1047 (by decide +kernel) rfl
theorem px_w1049 : (Jvm.Cond.instanceMethod ({ cls := "CheckDaemonModel", name := "brackets", desc := "()I" } : Jvm.MethodName)) ∈ px_tbl := px_mem 1049 (by decide +kernel) rfl
theorem px_w49 : Cond.selects "CheckDaemonModel" ⟨"CheckDaemonModel", "brackets", "()I"⟩ ⟨"CheckDaemonModel", "brackets", "()I"⟩ ∈ px_tbl := px_mem 49 (by decide +kernel) rfl
set_option maxRecDepth 20000 in
theorem px_w1050 : (Jvm.Cond.code ({ cls := "CheckDaemonModel", name := "brackets", desc := "()I" } : Jvm.MethodName) prog_13_method_16_code (4 : Nat) (Option.some Jvm.ClassFile.FieldType.int)) ∈ px_tbl := px_mem 1050 rfl rfl
theorem px_w1051 : (Jvm.Cond.methodLink "CheckDaemonModel" (143 : Nat) ({ cls := "CheckDaemonModel", name := "readBehind", desc := "()Z" } : Jvm.MethodName)) ∈ px_tbl := px_mem 1051 (by decide +kernel) rfl
theorem px_w1053 : (Jvm.Cond.instanceMethod ({ cls := "CheckDaemonModel", name := "readBehind", desc := "()Z" } : Jvm.MethodName)) ∈ px_tbl := px_mem 1053 (by decide +kernel) rfl
theorem px_w50 : Cond.selects "CheckDaemonModel" ⟨"CheckDaemonModel", "readBehind", "()Z"⟩ ⟨"CheckDaemonModel", "readBehind", "()Z"⟩ ∈ px_tbl := px_mem 50 (by decide +kernel) rfl
set_option maxRecDepth 20000 in
theorem px_w1054 : (Jvm.Cond.code ({ cls := "CheckDaemonModel", name := "readBehind", desc := "()Z" } : Jvm.MethodName) prog_13_method_18_code (4 : Nat) (Option.some Jvm.ClassFile.FieldType.boolean)) ∈ px_tbl := px_mem 1054 rfl rfl
theorem px_w1055 : (Jvm.Cond.methodLink "CheckDaemonModel" (146 : Nat) ({ cls := "CheckDaemonModel", name := "join", desc := "(Z)V" } : Jvm.MethodName)) ∈ px_tbl := px_mem 1055 (by decide +kernel) rfl
theorem px_w1057 : (Jvm.Cond.instanceMethod ({ cls := "CheckDaemonModel", name := "join", desc := "(Z)V" } : Jvm.MethodName)) ∈ px_tbl := px_mem 1057 (by decide +kernel) rfl
theorem px_w51 : Cond.selects "CheckDaemonModel" ⟨"CheckDaemonModel", "join", "(Z)V"⟩ ⟨"CheckDaemonModel", "join", "(Z)V"⟩ ∈ px_tbl := px_mem 51 (by decide +kernel) rfl
set_option maxRecDepth 20000 in
theorem px_w1058 : (Jvm.Cond.code ({ cls := "CheckDaemonModel", name := "join", desc := "(Z)V" } : Jvm.MethodName) prog_13_method_15_code (2 : Nat) (Option.none : Option Jvm.ClassFile.FieldType)) ∈ px_tbl := px_mem 1058 rfl rfl
theorem px_w1059 : (Jvm.Cond.methodLink "CheckDaemonModel" (209 : Nat) ({ cls := "CheckDaemonModel", name := "grow", desc := "()V" } : Jvm.MethodName)) ∈ px_tbl := px_mem 1059 (by decide +kernel) rfl
theorem px_w1061 : (Jvm.Cond.instanceMethod ({ cls := "CheckDaemonModel", name := "grow", desc := "()V" } : Jvm.MethodName)) ∈ px_tbl := px_mem 1061 (by decide +kernel) rfl
theorem px_w52 : Cond.selects "CheckDaemonModel" ⟨"CheckDaemonModel", "grow", "()V"⟩ ⟨"CheckDaemonModel", "grow", "()V"⟩ ∈ px_tbl := px_mem 52 (by decide +kernel) rfl
set_option maxRecDepth 20000 in
theorem px_w1062 : (Jvm.Cond.code ({ cls := "CheckDaemonModel", name := "grow", desc := "()V" } : Jvm.MethodName) prog_13_method_31_code (4 : Nat) (Option.none : Option Jvm.ClassFile.FieldType)) ∈ px_tbl := px_mem 1062 rfl rfl
theorem px_w1063 : (Jvm.Cond.methodLink "CheckDaemonModel" (156 : Nat) ({ cls := "CheckDaemonModel", name := "isRead", desc := "(I)Z" } : Jvm.MethodName)) ∈ px_tbl := px_mem 1063 (by decide +kernel) rfl
theorem px_w1065 : (Jvm.Cond.instanceMethod ({ cls := "CheckDaemonModel", name := "isRead", desc := "(I)Z" } : Jvm.MethodName)) ∈ px_tbl := px_mem 1065 (by decide +kernel) rfl
theorem px_w53 : Cond.selects "CheckDaemonModel" ⟨"CheckDaemonModel", "isRead", "(I)Z"⟩ ⟨"CheckDaemonModel", "isRead", "(I)Z"⟩ ∈ px_tbl := px_mem 53 (by decide +kernel) rfl
set_option maxRecDepth 20000 in
theorem px_w1066 : (Jvm.Cond.code ({ cls := "CheckDaemonModel", name := "isRead", desc := "(I)Z" } : Jvm.MethodName) prog_13_method_21_code (2 : Nat) (Option.some Jvm.ClassFile.FieldType.boolean)) ∈ px_tbl := px_mem 1066 rfl rfl
theorem px_w1067 : (Jvm.Cond.methodLink "CheckDaemonModel" (191 : Nat) ({ cls := "CheckDaemonModel", name := "value", desc := "(IZ)I" } : Jvm.MethodName)) ∈ px_tbl := px_mem 1067 (by decide +kernel) rfl
theorem px_w1069 : (Jvm.Cond.instanceMethod ({ cls := "CheckDaemonModel", name := "value", desc := "(IZ)I" } : Jvm.MethodName)) ∈ px_tbl := px_mem 1069 (by decide +kernel) rfl
theorem px_w54 : Cond.selects "CheckDaemonModel" ⟨"CheckDaemonModel", "value", "(IZ)I"⟩ ⟨"CheckDaemonModel", "value", "(IZ)I"⟩ ∈ px_tbl := px_mem 54 (by decide +kernel) rfl
set_option maxRecDepth 20000 in
theorem px_w1070 : (Jvm.Cond.code ({ cls := "CheckDaemonModel", name := "value", desc := "(IZ)I" } : Jvm.MethodName) prog_13_method_29_code (6 : Nat) (Option.some Jvm.ClassFile.FieldType.int)) ∈ px_tbl := px_mem 1070 rfl rfl
theorem px_w1071 : (Jvm.Cond.methodLink "CheckDaemonModel" (170 : Nat) ({ cls := "CheckDaemonModel", name := "note", desc := "(III)V" } : Jvm.MethodName)) ∈ px_tbl := px_mem 1071 (by decide +kernel) rfl
theorem px_w1073 : (Jvm.Cond.instanceMethod ({ cls := "CheckDaemonModel", name := "note", desc := "(III)V" } : Jvm.MethodName)) ∈ px_tbl := px_mem 1073 (by decide +kernel) rfl
theorem px_w55 : Cond.selects "CheckDaemonModel" ⟨"CheckDaemonModel", "note", "(III)V"⟩ ⟨"CheckDaemonModel", "note", "(III)V"⟩ ∈ px_tbl := px_mem 55 (by decide +kernel) rfl
set_option maxRecDepth 20000 in
theorem px_w1074 : (Jvm.Cond.code ({ cls := "CheckDaemonModel", name := "note", desc := "(III)V" } : Jvm.MethodName) prog_13_method_28_code (4 : Nat) (Option.none : Option Jvm.ClassFile.FieldType)) ∈ px_tbl := px_mem 1074 rfl rfl
theorem px_w1075 : (Jvm.Cond.methodLink "CheckDaemonModel" (173 : Nat) ({ cls := "CheckDaemonModel", name := "lacksSum", desc := "(II)Z" } : Jvm.MethodName)) ∈ px_tbl := px_mem 1075 (by decide +kernel) rfl
theorem px_w1076 : (Jvm.Cond.static ({ cls := "CheckDaemonModel", name := "lacksSum", desc := "(II)Z" } : Jvm.MethodName)) ∈ px_tbl := px_mem 1076 (by decide +kernel) rfl
set_option maxRecDepth 20000 in
theorem px_w1077 : (Jvm.Cond.code ({ cls := "CheckDaemonModel", name := "lacksSum", desc := "(II)Z" } : Jvm.MethodName) prog_13_method_27_code (5 : Nat) (Option.some Jvm.ClassFile.FieldType.boolean)) ∈ px_tbl := px_mem 1077 rfl rfl
theorem px_w1078 : (Jvm.Cond.methodLink "CheckDaemonModel" (161 : Nat) ({ cls := "CheckDaemonModel", name := "sumOf", desc := "(II)I" } : Jvm.MethodName)) ∈ px_tbl := px_mem 1078 (by decide +kernel) rfl
theorem px_w1079 : (Jvm.Cond.static ({ cls := "CheckDaemonModel", name := "sumOf", desc := "(II)I" } : Jvm.MethodName)) ∈ px_tbl := px_mem 1079 (by decide +kernel) rfl
set_option maxRecDepth 20000 in
theorem px_w1080 : (Jvm.Cond.code ({ cls := "CheckDaemonModel", name := "sumOf", desc := "(II)I" } : Jvm.MethodName) prog_13_method_26_code (2 : Nat) (Option.some Jvm.ClassFile.FieldType.int)) ∈ px_tbl := px_mem 1080 rfl rfl
theorem px_w1081 : (Jvm.Cond.methodLink "CheckDaemonModel" (177 : Nat) ({ cls := "CheckDaemonModel", name := "sum", desc := "(II)I" } : Jvm.MethodName)) ∈ px_tbl := px_mem 1081 (by decide +kernel) rfl
theorem px_w1082 : (Jvm.Cond.static ({ cls := "CheckDaemonModel", name := "sum", desc := "(II)I" } : Jvm.MethodName)) ∈ px_tbl := px_mem 1082 (by decide +kernel) rfl
set_option maxRecDepth 20000 in
theorem px_w1083 : (Jvm.Cond.code ({ cls := "CheckDaemonModel", name := "sum", desc := "(II)I" } : Jvm.MethodName) prog_13_method_25_code (6 : Nat) (Option.some Jvm.ClassFile.FieldType.int)) ∈ px_tbl := px_mem 1083 rfl rfl
theorem px_w1084 : (Jvm.Cond.methodLink "CheckDaemonModel" (180 : Nat) ({ cls := "CheckDaemonModel", name := "isFirst", desc := "(I)Z" } : Jvm.MethodName)) ∈ px_tbl := px_mem 1084 (by decide +kernel) rfl
theorem px_w1085 : (Jvm.Cond.static ({ cls := "CheckDaemonModel", name := "isFirst", desc := "(I)Z" } : Jvm.MethodName)) ∈ px_tbl := px_mem 1085 (by decide +kernel) rfl
set_option maxRecDepth 20000 in
theorem px_w1086 : (Jvm.Cond.code ({ cls := "CheckDaemonModel", name := "isFirst", desc := "(I)Z" } : Jvm.MethodName) prog_13_method_24_code (1 : Nat) (Option.some Jvm.ClassFile.FieldType.boolean)) ∈ px_tbl := px_mem 1086 rfl rfl
theorem px_w1087 : (Jvm.Cond.methodLink "CheckDaemonModel" (183 : Nat) ({ cls := "CheckDaemonModel", name := "changed", desc := "(III)I" } : Jvm.MethodName)) ∈ px_tbl := px_mem 1087 (by decide +kernel) rfl
theorem px_w1088 : (Jvm.Cond.static ({ cls := "CheckDaemonModel", name := "changed", desc := "(III)I" } : Jvm.MethodName)) ∈ px_tbl := px_mem 1088 (by decide +kernel) rfl
set_option maxRecDepth 20000 in
theorem px_w1089 : (Jvm.Cond.code ({ cls := "CheckDaemonModel", name := "changed", desc := "(III)I" } : Jvm.MethodName) prog_13_method_30_code (3 : Nat) (Option.some Jvm.ClassFile.FieldType.int)) ∈ px_tbl := px_mem 1089 rfl rfl
theorem px_w1090 : (Jvm.Cond.methodLink "CheckDaemonModel" (187 : Nat) ({ cls := "CheckDaemonModel", name := "wrapped", desc := "(I)I" } : Jvm.MethodName)) ∈ px_tbl := px_mem 1090 (by decide +kernel) rfl
theorem px_w1091 : (Jvm.Cond.static ({ cls := "CheckDaemonModel", name := "wrapped", desc := "(I)I" } : Jvm.MethodName)) ∈ px_tbl := px_mem 1091 (by decide +kernel) rfl
set_option maxRecDepth 20000 in
theorem px_w1092 : (Jvm.Cond.code ({ cls := "CheckDaemonModel", name := "wrapped", desc := "(I)I" } : Jvm.MethodName) prog_13_method_23_code (2 : Nat) (Option.some Jvm.ClassFile.FieldType.int)) ∈ px_tbl := px_mem 1092 rfl rfl
theorem px_w1095 : (Jvm.Cond.methodLink "CheckDaemonModel" (212 : Nat) ({ cls := "CheckDaemonModel", name := "judgeAll", desc := "()V" } : Jvm.MethodName)) ∈ px_tbl := px_mem 1095 (by decide +kernel) rfl
theorem px_w1097 : (Jvm.Cond.instanceMethod ({ cls := "CheckDaemonModel", name := "judgeAll", desc := "()V" } : Jvm.MethodName)) ∈ px_tbl := px_mem 1097 (by decide +kernel) rfl
theorem px_w56 : Cond.selects "CheckDaemonModel" ⟨"CheckDaemonModel", "judgeAll", "()V"⟩ ⟨"CheckDaemonModel", "judgeAll", "()V"⟩ ∈ px_tbl := px_mem 56 (by decide +kernel) rfl
set_option maxRecDepth 20000 in
theorem px_w1098 : (Jvm.Cond.code ({ cls := "CheckDaemonModel", name := "judgeAll", desc := "()V" } : Jvm.MethodName) prog_13_method_33_code (2 : Nat) (Option.none : Option Jvm.ClassFile.FieldType)) ∈ px_tbl := px_mem 1098 rfl rfl
theorem px_w1099 : (Jvm.Cond.methodLink "CheckDaemonModel" (195 : Nat) ({ cls := "CheckDaemonModel", name := "judge", desc := "(I)V" } : Jvm.MethodName)) ∈ px_tbl := px_mem 1099 (by decide +kernel) rfl
theorem px_w1101 : (Jvm.Cond.instanceMethod ({ cls := "CheckDaemonModel", name := "judge", desc := "(I)V" } : Jvm.MethodName)) ∈ px_tbl := px_mem 1101 (by decide +kernel) rfl
theorem px_w57 : Cond.selects "CheckDaemonModel" ⟨"CheckDaemonModel", "judge", "(I)V"⟩ ⟨"CheckDaemonModel", "judge", "(I)V"⟩ ∈ px_tbl := px_mem 57 (by decide +kernel) rfl
set_option maxRecDepth 20000 in
theorem px_w1102 : (Jvm.Cond.code ({ cls := "CheckDaemonModel", name := "judge", desc := "(I)V" } : Jvm.MethodName) prog_13_method_32_code (8 : Nat) (Option.none : Option Jvm.ClassFile.FieldType)) ∈ px_tbl := px_mem 1102 rfl rfl
theorem px_w1103 : (Jvm.Cond.methodLink "CheckDaemonModel" (215 : Nat) ({ cls := "CheckDaemonModel", name := "readsStale", desc := "(I)Z" } : Jvm.MethodName)) ∈ px_tbl := px_mem 1103 (by decide +kernel) rfl
theorem px_w1105 : (Jvm.Cond.instanceMethod ({ cls := "CheckDaemonModel", name := "readsStale", desc := "(I)Z" } : Jvm.MethodName)) ∈ px_tbl := px_mem 1105 (by decide +kernel) rfl
theorem px_w58 : Cond.selects "CheckDaemonModel" ⟨"CheckDaemonModel", "readsStale", "(I)Z"⟩ ⟨"CheckDaemonModel", "readsStale", "(I)Z"⟩ ∈ px_tbl := px_mem 58 (by decide +kernel) rfl
set_option maxRecDepth 20000 in
theorem px_w1106 : (Jvm.Cond.code ({ cls := "CheckDaemonModel", name := "readsStale", desc := "(I)Z" } : Jvm.MethodName) prog_13_method_35_code (4 : Nat) (Option.some Jvm.ClassFile.FieldType.boolean)) ∈ px_tbl := px_mem 1106 rfl rfl
theorem px_w1119 : (Jvm.Cond.methodLink "CheckDaemonModel" (234 : Nat) ({ cls := "CheckDaemonModel", name := "know", desc := "()V" } : Jvm.MethodName)) ∈ px_tbl := px_mem 1119 (by decide +kernel) rfl
theorem px_w1121 : (Jvm.Cond.instanceMethod ({ cls := "CheckDaemonModel", name := "know", desc := "()V" } : Jvm.MethodName)) ∈ px_tbl := px_mem 1121 (by decide +kernel) rfl
theorem px_w59 : Cond.selects "CheckDaemonModel" ⟨"CheckDaemonModel", "know", "()V"⟩ ⟨"CheckDaemonModel", "know", "()V"⟩ ∈ px_tbl := px_mem 59 (by decide +kernel) rfl
set_option maxRecDepth 20000 in
theorem px_w1122 : (Jvm.Cond.code ({ cls := "CheckDaemonModel", name := "know", desc := "()V" } : Jvm.MethodName) prog_13_method_41_code (7 : Nat) (Option.none : Option Jvm.ClassFile.FieldType)) ∈ px_tbl := px_mem 1122 rfl rfl
theorem px_w1123 : (Jvm.Cond.methodLink "CheckDaemonModel" (237 : Nat) ({ cls := "CheckDaemonModel", name := "leastOf", desc := "(I)I" } : Jvm.MethodName)) ∈ px_tbl := px_mem 1123 (by decide +kernel) rfl
theorem px_w1125 : (Jvm.Cond.instanceMethod ({ cls := "CheckDaemonModel", name := "leastOf", desc := "(I)I" } : Jvm.MethodName)) ∈ px_tbl := px_mem 1125 (by decide +kernel) rfl
theorem px_w60 : Cond.selects "CheckDaemonModel" ⟨"CheckDaemonModel", "leastOf", "(I)I"⟩ ⟨"CheckDaemonModel", "leastOf", "(I)I"⟩ ∈ px_tbl := px_mem 60 (by decide +kernel) rfl
set_option maxRecDepth 20000 in
theorem px_w1126 : (Jvm.Cond.code ({ cls := "CheckDaemonModel", name := "leastOf", desc := "(I)I" } : Jvm.MethodName) prog_13_method_43_code (4 : Nat) (Option.some Jvm.ClassFile.FieldType.int)) ∈ px_tbl := px_mem 1126 rfl rfl
theorem px_w1127 : (Jvm.Cond.methodLink "CheckDaemonModel" (231 : Nat) ({ cls := "CheckDaemonModel", name := "areOne", desc := "(II)Z" } : Jvm.MethodName)) ∈ px_tbl := px_mem 1127 (by decide +kernel) rfl
theorem px_w1129 : (Jvm.Cond.instanceMethod ({ cls := "CheckDaemonModel", name := "areOne", desc := "(II)Z" } : Jvm.MethodName)) ∈ px_tbl := px_mem 1129 (by decide +kernel) rfl
theorem px_w61 : Cond.selects "CheckDaemonModel" ⟨"CheckDaemonModel", "areOne", "(II)Z"⟩ ⟨"CheckDaemonModel", "areOne", "(II)Z"⟩ ∈ px_tbl := px_mem 61 (by decide +kernel) rfl
set_option maxRecDepth 20000 in
theorem px_w1130 : (Jvm.Cond.code ({ cls := "CheckDaemonModel", name := "areOne", desc := "(II)Z" } : Jvm.MethodName) prog_13_method_42_code (3 : Nat) (Option.some Jvm.ClassFile.FieldType.boolean)) ∈ px_tbl := px_mem 1130 rfl rfl
theorem px_w1131 : (Jvm.Cond.methodLink "CheckDaemonModel" (240 : Nat) ({ cls := "CheckDaemonModel", name := "reads", desc := "(II)Z" } : Jvm.MethodName)) ∈ px_tbl := px_mem 1131 (by decide +kernel) rfl
theorem px_w1133 : (Jvm.Cond.instanceMethod ({ cls := "CheckDaemonModel", name := "reads", desc := "(II)Z" } : Jvm.MethodName)) ∈ px_tbl := px_mem 1133 (by decide +kernel) rfl
theorem px_w62 : Cond.selects "CheckDaemonModel" ⟨"CheckDaemonModel", "reads", "(II)Z"⟩ ⟨"CheckDaemonModel", "reads", "(II)Z"⟩ ∈ px_tbl := px_mem 62 (by decide +kernel) rfl
set_option maxRecDepth 20000 in
theorem px_w1134 : (Jvm.Cond.code ({ cls := "CheckDaemonModel", name := "reads", desc := "(II)Z" } : Jvm.MethodName) prog_13_method_22_code (5 : Nat) (Option.some Jvm.ClassFile.FieldType.boolean)) ∈ px_tbl := px_mem 1134 rfl rfl
theorem px_w1139 : (Jvm.Cond.methodLink "CheckDaemonModel" (243 : Nat) ({ cls := "CheckDaemonModel", name := "readCount", desc := "(I)I" } : Jvm.MethodName)) ∈ px_tbl := px_mem 1139 (by decide +kernel) rfl
theorem px_w1141 : (Jvm.Cond.instanceMethod ({ cls := "CheckDaemonModel", name := "readCount", desc := "(I)I" } : Jvm.MethodName)) ∈ px_tbl := px_mem 1141 (by decide +kernel) rfl
theorem px_w63 : Cond.selects "CheckDaemonModel" ⟨"CheckDaemonModel", "readCount", "(I)I"⟩ ⟨"CheckDaemonModel", "readCount", "(I)I"⟩ ∈ px_tbl := px_mem 63 (by decide +kernel) rfl
set_option maxRecDepth 20000 in
theorem px_w1142 : (Jvm.Cond.code ({ cls := "CheckDaemonModel", name := "readCount", desc := "(I)I" } : Jvm.MethodName) prog_13_method_46_code (4 : Nat) (Option.some Jvm.ClassFile.FieldType.int)) ∈ px_tbl := px_mem 1142 rfl rfl
theorem px_w1151 : (Jvm.Cond.methodLink "CheckDaemonModel" (246 : Nat) ({ cls := "CheckDaemonModel", name := "sizeOf", desc := "(I)I" } : Jvm.MethodName)) ∈ px_tbl := px_mem 1151 (by decide +kernel) rfl
theorem px_w1153 : (Jvm.Cond.instanceMethod ({ cls := "CheckDaemonModel", name := "sizeOf", desc := "(I)I" } : Jvm.MethodName)) ∈ px_tbl := px_mem 1153 (by decide +kernel) rfl
theorem px_w64 : Cond.selects "CheckDaemonModel" ⟨"CheckDaemonModel", "sizeOf", "(I)I"⟩ ⟨"CheckDaemonModel", "sizeOf", "(I)I"⟩ ∈ px_tbl := px_mem 64 (by decide +kernel) rfl
set_option maxRecDepth 20000 in
theorem px_w1154 : (Jvm.Cond.code ({ cls := "CheckDaemonModel", name := "sizeOf", desc := "(I)I" } : Jvm.MethodName) prog_13_method_44_code (4 : Nat) (Option.some Jvm.ClassFile.FieldType.int)) ∈ px_tbl := px_mem 1154 rfl rfl
theorem px_w613 : (Jvm.Cond.methodLink "CheckDaemon$Forms" (11 : Nat) ({ cls := "CheckDaemon$Forms", name := "inLists", desc := "(I)I" } : Jvm.MethodName)) ∈ px_tbl := px_mem 613 (by decide +kernel) rfl
theorem px_w614 : (Jvm.Cond.static ({ cls := "CheckDaemon$Forms", name := "inLists", desc := "(I)I" } : Jvm.MethodName)) ∈ px_tbl := px_mem 614 (by decide +kernel) rfl
set_option maxRecDepth 20000 in
theorem px_w615 : (Jvm.Cond.code ({ cls := "CheckDaemon$Forms", name := "inLists", desc := "(I)I" } : Jvm.MethodName) prog_5_method_3_code (1 : Nat) (Option.some Jvm.ClassFile.FieldType.int)) ∈ px_tbl := px_mem 615 rfl rfl
theorem px_w629 : (Jvm.Cond.methodLink "CheckDaemon$Forms" (16 : Nat) ({ cls := "CheckDaemon$Forms", name := "makesFloat", desc := "(II)Z" } : Jvm.MethodName)) ∈ px_tbl := px_mem 629 (by decide +kernel) rfl
theorem px_w630 : (Jvm.Cond.static ({ cls := "CheckDaemon$Forms", name := "makesFloat", desc := "(II)Z" } : Jvm.MethodName)) ∈ px_tbl := px_mem 630 (by decide +kernel) rfl
set_option maxRecDepth 20000 in
theorem px_w631 : (Jvm.Cond.code ({ cls := "CheckDaemon$Forms", name := "makesFloat", desc := "(II)Z" } : Jvm.MethodName) prog_5_method_10_code (2 : Nat) (Option.some Jvm.ClassFile.FieldType.boolean)) ∈ px_tbl := px_mem 631 rfl rfl
theorem px_w133 : (Jvm.Cond.classLink "CheckDaemon$Circles" (9 : Nat) "CheckDaemon$SymbolSet") ∈ px_tbl := px_mem 133 (by decide +kernel) rfl
theorem px_w116 : (Jvm.Cond.instantiable "CheckDaemon$SymbolSet" (1 : Nat)) ∈ px_tbl := px_mem 116 (by decide +kernel) rfl
theorem px_w348 : (Jvm.Cond.classLink "CheckDaemon$Expression" (15 : Nat) "CheckDaemon$SymbolSet") ∈ px_tbl := px_mem 348 (by decide +kernel) rfl
theorem px_w466 : (Jvm.Cond.classLink "CheckDaemon$Line" (34 : Nat) "CheckDaemon$Faults") ∈ px_tbl := px_mem 466 (by decide +kernel) rfl
theorem px_w467 : (Jvm.Cond.instantiable "CheckDaemon$Faults" (2 : Nat)) ∈ px_tbl := px_mem 467 (by decide +kernel) rfl
theorem px_w507 : (Jvm.Cond.classLink "CheckDaemon$Line" (43 : Nat) "CheckDaemon$Expression") ∈ px_tbl := px_mem 507 (by decide +kernel) rfl
theorem px_w343 : (Jvm.Cond.instantiable "CheckDaemon$Expression" (7 : Nat)) ∈ px_tbl := px_mem 343 (by decide +kernel) rfl
theorem px_w342 : (Jvm.Cond.classLink "CheckDaemon$Parser" (43 : Nat) "CheckDaemon$Expression") ∈ px_tbl := px_mem 342 (by decide +kernel) rfl
theorem px_w460 : (Jvm.Cond.classLink "CheckDaemon$Parser" (64 : Nat) "CheckDaemon$Line") ∈ px_tbl := px_mem 460 (by decide +kernel) rfl
theorem px_w461 : (Jvm.Cond.instantiable "CheckDaemon$Line" (8 : Nat)) ∈ px_tbl := px_mem 461 (by decide +kernel) rfl
theorem px_w101 : (Jvm.Cond.classLink "CheckDaemon$Workspace" (19 : Nat) "CheckDaemon$Symbols") ∈ px_tbl := px_mem 101 (by decide +kernel) rfl
theorem px_w102 : (Jvm.Cond.instantiable "CheckDaemon$Symbols" (2 : Nat)) ∈ px_tbl := px_mem 102 (by decide +kernel) rfl
theorem px_w115 : (Jvm.Cond.classLink "CheckDaemon$Workspace" (33 : Nat) "CheckDaemon$SymbolSet") ∈ px_tbl := px_mem 115 (by decide +kernel) rfl
theorem px_w127 : (Jvm.Cond.classLink "CheckDaemon$Workspace" (48 : Nat) "CheckDaemon$Circles") ∈ px_tbl := px_mem 127 (by decide +kernel) rfl
theorem px_w128 : (Jvm.Cond.instantiable "CheckDaemon$Circles" (6 : Nat)) ∈ px_tbl := px_mem 128 (by decide +kernel) rfl
theorem px_w93 : (Jvm.Cond.classLink "CheckDaemon" (17 : Nat) "CheckDaemon$Workspace") ∈ px_tbl := px_mem 93 (by decide +kernel) rfl
theorem px_w94 : (Jvm.Cond.instantiable "CheckDaemon$Workspace" (9 : Nat)) ∈ px_tbl := px_mem 94 (by decide +kernel) rfl
theorem px_w183 : (Jvm.Cond.classLink "CheckDaemon" (24 : Nat) "CheckDaemon$History") ∈ px_tbl := px_mem 183 (by decide +kernel) rfl
theorem px_w184 : (Jvm.Cond.instantiable "CheckDaemon$History" (3 : Nat)) ∈ px_tbl := px_mem 184 (by decide +kernel) rfl
theorem px_w330 : (Jvm.Cond.classLink "CheckDaemon" (59 : Nat) "CheckDaemon$Parser") ∈ px_tbl := px_mem 330 (by decide +kernel) rfl
theorem px_w331 : (Jvm.Cond.instantiable "CheckDaemon$Parser" (8 : Nat)) ∈ px_tbl := px_mem 331 (by decide +kernel) rfl
theorem px_w189 : (Jvm.Cond.classLink "CheckDaemon$History" (15 : Nat) "CheckDaemon$Line") ∈ px_tbl := px_mem 189 (by decide +kernel) rfl
theorem px_w99 : (Jvm.Cond.classLink "CheckDaemon$Workspace" (11 : Nat) "CheckDaemon$Line") ∈ px_tbl := px_mem 99 (by decide +kernel) rfl
theorem px_w865 : (Jvm.Cond.constant "CheckDaemonModel" (72 : Nat) (43264 : Int32)) ∈ px_tbl := px_mem 865 (by decide +kernel) rfl
theorem px_w1093 : (Jvm.Cond.constant "CheckDaemonModel" (159 : Nat) (1048575 : Int32)) ∈ px_tbl := px_mem 1093 (by decide +kernel) rfl
theorem px_w1094 : (Jvm.Cond.constant "CheckDaemonModel" (160 : Nat) (524288 : Int32)) ∈ px_tbl := px_mem 1094 (by decide +kernel) rfl
theorem px_w616 : (Jvm.Cond.constant "CheckDaemon$Forms" (15 : Nat) (524288 : Int32)) ∈ px_tbl := px_mem 616 (by decide +kernel) rfl
theorem px_w796 : (Jvm.Cond.constantLong "java/lang/Long" (314 : Nat) (6148914691236517205 : Int64)) ∈ px_tbl := px_mem 796 (by decide +kernel) rfl
theorem px_w797 : (Jvm.Cond.constantLong "java/lang/Long" (316 : Nat) (3689348814741910323 : Int64)) ∈ px_tbl := px_mem 797 (by decide +kernel) rfl
theorem px_w798 : (Jvm.Cond.constantLong "java/lang/Long" (318 : Nat) (1085102592571150095 : Int64)) ∈ px_tbl := px_mem 798 (by decide +kernel) rfl
theorem px_w132 : (Jvm.Cond.methodLink "CheckDaemon$Circles" (3 : Nat) ({ cls := "java/lang/Object", name := "<init>", desc := "()V" } : Jvm.MethodName)) ∈ px_tbl := px_mem 132 (by decide +kernel) rfl
theorem px_w347 : (Jvm.Cond.methodLink "CheckDaemon$Expression" (3 : Nat) ({ cls := "java/lang/Object", name := "<init>", desc := "()V" } : Jvm.MethodName)) ∈ px_tbl := px_mem 347 (by decide +kernel) rfl
theorem px_w471 : (Jvm.Cond.methodLink "CheckDaemon$Faults" (3 : Nat) ({ cls := "java/lang/Object", name := "<init>", desc := "()V" } : Jvm.MethodName)) ∈ px_tbl := px_mem 471 (by decide +kernel) rfl
theorem px_w188 : (Jvm.Cond.methodLink "CheckDaemon$History" (3 : Nat) ({ cls := "java/lang/Object", name := "<init>", desc := "()V" } : Jvm.MethodName)) ∈ px_tbl := px_mem 188 (by decide +kernel) rfl
theorem px_w465 : (Jvm.Cond.methodLink "CheckDaemon$Line" (3 : Nat) ({ cls := "java/lang/Object", name := "<init>", desc := "()V" } : Jvm.MethodName)) ∈ px_tbl := px_mem 465 (by decide +kernel) rfl
theorem px_w335 : (Jvm.Cond.methodLink "CheckDaemon$Parser" (3 : Nat) ({ cls := "java/lang/Object", name := "<init>", desc := "()V" } : Jvm.MethodName)) ∈ px_tbl := px_mem 335 (by decide +kernel) rfl
theorem px_w120 : (Jvm.Cond.methodLink "CheckDaemon$SymbolSet" (3 : Nat) ({ cls := "java/lang/Object", name := "<init>", desc := "()V" } : Jvm.MethodName)) ∈ px_tbl := px_mem 120 (by decide +kernel) rfl
theorem px_w106 : (Jvm.Cond.methodLink "CheckDaemon$Symbols" (3 : Nat) ({ cls := "java/lang/Object", name := "<init>", desc := "()V" } : Jvm.MethodName)) ∈ px_tbl := px_mem 106 (by decide +kernel) rfl
theorem px_w98 : (Jvm.Cond.methodLink "CheckDaemon$Workspace" (5 : Nat) ({ cls := "java/lang/Object", name := "<init>", desc := "()V" } : Jvm.MethodName)) ∈ px_tbl := px_mem 98 (by decide +kernel) rfl
theorem px_w90 : (Jvm.Cond.methodLink "CheckDaemon" (3 : Nat) ({ cls := "java/lang/Object", name := "<init>", desc := "()V" } : Jvm.MethodName)) ∈ px_tbl := px_mem 90 (by decide +kernel) rfl
theorem px_w864 : (Jvm.Cond.methodLink "CheckDaemonModel" (1 : Nat) ({ cls := "java/lang/Object", name := "<init>", desc := "()V" } : Jvm.MethodName)) ∈ px_tbl := px_mem 864 (by decide +kernel) rfl
theorem px_w91 : (Jvm.Cond.instanceMethod ({ cls := "java/lang/Object", name := "<init>", desc := "()V" } : Jvm.MethodName)) ∈ px_tbl := px_mem 91 (by decide +kernel) rfl
set_option maxRecDepth 20000 in
theorem px_w92 : (Jvm.Cond.code ({ cls := "java/lang/Object", name := "<init>", desc := "()V" } : Jvm.MethodName) object_method_1_code (1 : Nat) (Option.none : Option Jvm.ClassFile.FieldType)) ∈ px_tbl := px_mem 92 rfl rfl
theorem px_w114 : (Jvm.Cond.arrayClass Jvm.ClassFile.FieldType.int) ∈ px_tbl := px_mem 114 (by decide +kernel) rfl
theorem px_w126 : (Jvm.Cond.arrayClass Jvm.ClassFile.FieldType.long) ∈ px_tbl := px_mem 126 (by decide +kernel) rfl
theorem px_w125 : (Jvm.Cond.arrayClass Jvm.ClassFile.FieldType.boolean) ∈ px_tbl := px_mem 125 (by decide +kernel) rfl
theorem px_w969 : (Jvm.Cond.arrayClass Jvm.ClassFile.FieldType.char) ∈ px_tbl := px_mem 969 (by decide +kernel) rfl
theorem px_in0 : ∀ w ∈ u_ws px_R0 px_T0 6, w ∈ px_tbl := by
  show ∀ w ∈ [u_lay px_R0 px_T0 0, u_lay px_R0 px_T0 1, u_lay px_R0 px_T0 2, u_lay px_R0 px_T0 3, u_lay px_R0 px_T0 4, u_lay px_R0 px_T0 5], w ∈ px_tbl
  exact List.forall_mem_cons.mpr ⟨px_w142, List.forall_mem_cons.mpr ⟨px_w144, List.forall_mem_cons.mpr ⟨px_w146, List.forall_mem_cons.mpr ⟨px_w148, List.forall_mem_cons.mpr ⟨px_w150, List.forall_mem_cons.mpr ⟨px_w152, fun _ h => absurd h List.not_mem_nil⟩⟩⟩⟩⟩⟩
theorem px_ty0_ok : ∀ k, k < 6 → parseFieldDescriptor (px_T0 k).2.2.1 = some (px_Y0 k) := by decide +kernel
theorem px_nm0 : ∀ a, a < 6 → ∀ b, b < 6 → a ≠ b → (px_T0 a).2.1 ≠ (px_T0 b).2.1 := by decide +kernel
theorem px_in1 : ∀ w ∈ u_ws px_R1 px_T1 7, w ∈ px_tbl := by
  show ∀ w ∈ [u_lay px_R1 px_T1 0, u_lay px_R1 px_T1 1, u_lay px_R1 px_T1 2, u_lay px_R1 px_T1 3, u_lay px_R1 px_T1 4, u_lay px_R1 px_T1 5, u_lay px_R1 px_T1 6], w ∈ px_tbl
  exact List.forall_mem_cons.mpr ⟨px_w359, List.forall_mem_cons.mpr ⟨px_w361, List.forall_mem_cons.mpr ⟨px_w363, List.forall_mem_cons.mpr ⟨px_w365, List.forall_mem_cons.mpr ⟨px_w367, List.forall_mem_cons.mpr ⟨px_w369, List.forall_mem_cons.mpr ⟨px_w371, fun _ h => absurd h List.not_mem_nil⟩⟩⟩⟩⟩⟩⟩
theorem px_ty1_ok : ∀ k, k < 7 → parseFieldDescriptor (px_T1 k).2.2.1 = some (px_Y1 k) := by decide +kernel
theorem px_nm1 : ∀ a, a < 7 → ∀ b, b < 7 → a ≠ b → (px_T1 a).2.1 ≠ (px_T1 b).2.1 := by decide +kernel
theorem px_in2 : ∀ w ∈ u_ws px_R2 px_T2 2, w ∈ px_tbl := by
  show ∀ w ∈ [u_lay px_R2 px_T2 0, u_lay px_R2 px_T2 1], w ∈ px_tbl
  exact List.forall_mem_cons.mpr ⟨px_w474, List.forall_mem_cons.mpr ⟨px_w476, fun _ h => absurd h List.not_mem_nil⟩⟩
theorem px_ty2_ok : ∀ k, k < 2 → parseFieldDescriptor (px_T2 k).2.2.1 = some (px_Y2 k) := by decide +kernel
theorem px_nm2 : ∀ a, a < 2 → ∀ b, b < 2 → a ≠ b → (px_T2 a).2.1 ≠ (px_T2 b).2.1 := by decide +kernel
theorem px_in3 : ∀ w ∈ u_ws px_R3 px_T3 3, w ∈ px_tbl := by
  show ∀ w ∈ [u_lay px_R3 px_T3 0, u_lay px_R3 px_T3 1, u_lay px_R3 px_T3 2], w ∈ px_tbl
  exact List.forall_mem_cons.mpr ⟨px_w193, List.forall_mem_cons.mpr ⟨px_w195, List.forall_mem_cons.mpr ⟨px_w197, fun _ h => absurd h List.not_mem_nil⟩⟩⟩
theorem px_ty3_ok : ∀ k, k < 3 → parseFieldDescriptor (px_T3 k).2.2.1 = some (px_Y3 k) := by decide +kernel
theorem px_nm3 : ∀ a, a < 3 → ∀ b, b < 3 → a ≠ b → (px_T3 a).2.1 ≠ (px_T3 b).2.1 := by decide +kernel
theorem px_in4 : ∀ w ∈ u_ws px_R4 px_T4 8, w ∈ px_tbl := by
  show ∀ w ∈ [u_lay px_R4 px_T4 0, u_lay px_R4 px_T4 1, u_lay px_R4 px_T4 2, u_lay px_R4 px_T4 3, u_lay px_R4 px_T4 4, u_lay px_R4 px_T4 5, u_lay px_R4 px_T4 6, u_lay px_R4 px_T4 7], w ∈ px_tbl
  exact List.forall_mem_cons.mpr ⟨px_w487, List.forall_mem_cons.mpr ⟨px_w489, List.forall_mem_cons.mpr ⟨px_w491, List.forall_mem_cons.mpr ⟨px_w493, List.forall_mem_cons.mpr ⟨px_w495, List.forall_mem_cons.mpr ⟨px_w497, List.forall_mem_cons.mpr ⟨px_w499, List.forall_mem_cons.mpr ⟨px_w501, fun _ h => absurd h List.not_mem_nil⟩⟩⟩⟩⟩⟩⟩⟩
theorem px_ty4_ok : ∀ k, k < 8 → parseFieldDescriptor (px_T4 k).2.2.1 = some (px_Y4 k) := by decide +kernel
theorem px_nm4 : ∀ a, a < 8 → ∀ b, b < 8 → a ≠ b → (px_T4 a).2.1 ≠ (px_T4 b).2.1 := by decide +kernel
theorem px_in5 : ∀ w ∈ u_ws px_R5 px_T5 8, w ∈ px_tbl := by
  show ∀ w ∈ [u_lay px_R5 px_T5 0, u_lay px_R5 px_T5 1, u_lay px_R5 px_T5 2, u_lay px_R5 px_T5 3, u_lay px_R5 px_T5 4, u_lay px_R5 px_T5 5, u_lay px_R5 px_T5 6, u_lay px_R5 px_T5 7], w ∈ px_tbl
  exact List.forall_mem_cons.mpr ⟨px_w382, List.forall_mem_cons.mpr ⟨px_w384, List.forall_mem_cons.mpr ⟨px_w386, List.forall_mem_cons.mpr ⟨px_w388, List.forall_mem_cons.mpr ⟨px_w390, List.forall_mem_cons.mpr ⟨px_w392, List.forall_mem_cons.mpr ⟨px_w394, List.forall_mem_cons.mpr ⟨px_w396, fun _ h => absurd h List.not_mem_nil⟩⟩⟩⟩⟩⟩⟩⟩
theorem px_ty5_ok : ∀ k, k < 8 → parseFieldDescriptor (px_T5 k).2.2.1 = some (px_Y5 k) := by decide +kernel
theorem px_nm5 : ∀ a, a < 8 → ∀ b, b < 8 → a ≠ b → (px_T5 a).2.1 ≠ (px_T5 b).2.1 := by decide +kernel
theorem px_in6 : ∀ w ∈ u_ws px_R6 px_T6 1, w ∈ px_tbl := by
  show ∀ w ∈ [u_lay px_R6 px_T6 0], w ∈ px_tbl
  exact List.forall_mem_cons.mpr ⟨px_w122, fun _ h => absurd h List.not_mem_nil⟩
theorem px_ty6_ok : ∀ k, k < 1 → parseFieldDescriptor (px_T6 k).2.2.1 = some (px_Y6 k) := by decide +kernel
theorem px_nm6 : ∀ a, a < 1 → ∀ b, b < 1 → a ≠ b → (px_T6 a).2.1 ≠ (px_T6 b).2.1 := by decide +kernel
theorem px_in7 : ∀ w ∈ u_ws px_R7 px_T7 2, w ∈ px_tbl := by
  show ∀ w ∈ [u_lay px_R7 px_T7 0, u_lay px_R7 px_T7 1], w ∈ px_tbl
  exact List.forall_mem_cons.mpr ⟨px_w109, List.forall_mem_cons.mpr ⟨px_w111, fun _ h => absurd h List.not_mem_nil⟩⟩
theorem px_ty7_ok : ∀ k, k < 2 → parseFieldDescriptor (px_T7 k).2.2.1 = some (px_Y7 k) := by decide +kernel
theorem px_nm7 : ∀ a, a < 2 → ∀ b, b < 2 → a ≠ b → (px_T7 a).2.1 ≠ (px_T7 b).2.1 := by decide +kernel
theorem px_in8 : ∀ w ∈ u_ws px_R8 px_T8 9, w ∈ px_tbl := by
  show ∀ w ∈ [u_lay px_R8 px_T8 0, u_lay px_R8 px_T8 1, u_lay px_R8 px_T8 2, u_lay px_R8 px_T8 3, u_lay px_R8 px_T8 4, u_lay px_R8 px_T8 5, u_lay px_R8 px_T8 6, u_lay px_R8 px_T8 7, u_lay px_R8 px_T8 8], w ∈ px_tbl
  exact List.forall_mem_cons.mpr ⟨px_w164, List.forall_mem_cons.mpr ⟨px_w166, List.forall_mem_cons.mpr ⟨px_w168, List.forall_mem_cons.mpr ⟨px_w170, List.forall_mem_cons.mpr ⟨px_w172, List.forall_mem_cons.mpr ⟨px_w174, List.forall_mem_cons.mpr ⟨px_w176, List.forall_mem_cons.mpr ⟨px_w178, List.forall_mem_cons.mpr ⟨px_w180, fun _ h => absurd h List.not_mem_nil⟩⟩⟩⟩⟩⟩⟩⟩⟩
theorem px_ty8_ok : ∀ k, k < 9 → parseFieldDescriptor (px_T8 k).2.2.1 = some (px_Y8 k) := by decide +kernel
theorem px_nm8 : ∀ a, a < 9 → ∀ b, b < 9 → a ≠ b → (px_T8 a).2.1 ≠ (px_T8 b).2.1 := by decide +kernel
theorem px_in9 : ∀ w ∈ u_ws px_R9 px_T9 4, w ∈ px_tbl := by
  show ∀ w ∈ [u_lay px_R9 px_T9 0, u_lay px_R9 px_T9 1, u_lay px_R9 px_T9 2, u_lay px_R9 px_T9 3], w ∈ px_tbl
  exact List.forall_mem_cons.mpr ⟨px_w204, List.forall_mem_cons.mpr ⟨px_w206, List.forall_mem_cons.mpr ⟨px_w208, List.forall_mem_cons.mpr ⟨px_w210, fun _ h => absurd h List.not_mem_nil⟩⟩⟩⟩
theorem px_ty9_ok : ∀ k, k < 4 → parseFieldDescriptor (px_T9 k).2.2.1 = some (px_Y9 k) := by decide +kernel
theorem px_nm9 : ∀ a, a < 4 → ∀ b, b < 4 → a ≠ b → (px_T9 a).2.1 ≠ (px_T9 b).2.1 := by decide +kernel
theorem px_in10 : ∀ w ∈ u_ws px_R10 px_T10 34, w ∈ px_tbl := by
  show ∀ w ∈ [u_lay px_R10 px_T10 0, u_lay px_R10 px_T10 1, u_lay px_R10 px_T10 2, u_lay px_R10 px_T10 3, u_lay px_R10 px_T10 4, u_lay px_R10 px_T10 5, u_lay px_R10 px_T10 6, u_lay px_R10 px_T10 7, u_lay px_R10 px_T10 8, u_lay px_R10 px_T10 9, u_lay px_R10 px_T10 10, u_lay px_R10 px_T10 11, u_lay px_R10 px_T10 12, u_lay px_R10 px_T10 13, u_lay px_R10 px_T10 14, u_lay px_R10 px_T10 15, u_lay px_R10 px_T10 16, u_lay px_R10 px_T10 17, u_lay px_R10 px_T10 18, u_lay px_R10 px_T10 19, u_lay px_R10 px_T10 20, u_lay px_R10 px_T10 21, u_lay px_R10 px_T10 22, u_lay px_R10 px_T10 23, u_lay px_R10 px_T10 24, u_lay px_R10 px_T10 25, u_lay px_R10 px_T10 26, u_lay px_R10 px_T10 27, u_lay px_R10 px_T10 28, u_lay px_R10 px_T10 29, u_lay px_R10 px_T10 30, u_lay px_R10 px_T10 31, u_lay px_R10 px_T10 32, u_lay px_R10 px_T10 33], w ∈ px_tbl
  exact List.forall_mem_cons.mpr ⟨px_w900, List.forall_mem_cons.mpr ⟨px_w902, List.forall_mem_cons.mpr ⟨px_w904, List.forall_mem_cons.mpr ⟨px_w906, List.forall_mem_cons.mpr ⟨px_w908, List.forall_mem_cons.mpr ⟨px_w910, List.forall_mem_cons.mpr ⟨px_w912, List.forall_mem_cons.mpr ⟨px_w914, List.forall_mem_cons.mpr ⟨px_w916, List.forall_mem_cons.mpr ⟨px_w918, List.forall_mem_cons.mpr ⟨px_w920, List.forall_mem_cons.mpr ⟨px_w922, List.forall_mem_cons.mpr ⟨px_w924, List.forall_mem_cons.mpr ⟨px_w926, List.forall_mem_cons.mpr ⟨px_w928, List.forall_mem_cons.mpr ⟨px_w930, List.forall_mem_cons.mpr ⟨px_w932, List.forall_mem_cons.mpr ⟨px_w934, List.forall_mem_cons.mpr ⟨px_w936, List.forall_mem_cons.mpr ⟨px_w938, List.forall_mem_cons.mpr ⟨px_w940, List.forall_mem_cons.mpr ⟨px_w942, List.forall_mem_cons.mpr ⟨px_w944, List.forall_mem_cons.mpr ⟨px_w946, List.forall_mem_cons.mpr ⟨px_w948, List.forall_mem_cons.mpr ⟨px_w950, List.forall_mem_cons.mpr ⟨px_w952, List.forall_mem_cons.mpr ⟨px_w954, List.forall_mem_cons.mpr ⟨px_w956, List.forall_mem_cons.mpr ⟨px_w958, List.forall_mem_cons.mpr ⟨px_w960, List.forall_mem_cons.mpr ⟨px_w962, List.forall_mem_cons.mpr ⟨px_w964, List.forall_mem_cons.mpr ⟨px_w966, fun _ h => absurd h List.not_mem_nil⟩⟩⟩⟩⟩⟩⟩⟩⟩⟩⟩⟩⟩⟩⟩⟩⟩⟩⟩⟩⟩⟩⟩⟩⟩⟩⟩⟩⟩⟩⟩⟩⟩⟩
theorem px_ty10_ok : ∀ k, k < 34 → parseFieldDescriptor (px_T10 k).2.2.1 = some (px_Y10 k) := by decide +kernel
theorem px_nm10 : ∀ a, a < 34 → ∀ b, b < 34 → a ≠ b → (px_T10 a).2.1 ≠ (px_T10 b).2.1 := by decide +kernel
def px_CF (ci : Nat) (r : vw_C) : Prop := px_cl[ci]? = some r ∧ (∀ w ∈ u_ws r.1 r.2.1 r.2.2, w ∈ px_tbl) ∧ (∃ ty0 : Nat → FieldType, (∀ k, k < r.2.2 → parseFieldDescriptor (r.2.1 k).2.2.1 = some (ty0 k)) ∧ (∀ k, k < r.2.2 → ty0 k = px_ft ci k) ∧ ∀ k, k < r.2.2 → defaultValue (ty0 k) = vp_V (px_def ci) k) ∧ (∀ a, a < r.2.2 → ∀ b, b < r.2.2 → a ≠ b → (r.2.1 a).2.1 ≠ (r.2.1 b).2.1) ∧ px_nf ci = r.2.2
theorem px_CF0 : px_CF 0 (px_R0, px_T0, 6) := ⟨rfl, px_in0, ⟨px_Y0, px_ty0_ok, fun _ _ => rfl, by decide +kernel⟩, px_nm0, rfl⟩
theorem px_CF1 : px_CF 1 (px_R1, px_T1, 7) := ⟨rfl, px_in1, ⟨px_Y1, px_ty1_ok, fun _ _ => rfl, by decide +kernel⟩, px_nm1, rfl⟩
theorem px_CF2 : px_CF 2 (px_R2, px_T2, 2) := ⟨rfl, px_in2, ⟨px_Y2, px_ty2_ok, fun _ _ => rfl, by decide +kernel⟩, px_nm2, rfl⟩
theorem px_CF3 : px_CF 3 (px_R3, px_T3, 3) := ⟨rfl, px_in3, ⟨px_Y3, px_ty3_ok, fun _ _ => rfl, by decide +kernel⟩, px_nm3, rfl⟩
theorem px_CF4 : px_CF 4 (px_R4, px_T4, 8) := ⟨rfl, px_in4, ⟨px_Y4, px_ty4_ok, fun _ _ => rfl, by decide +kernel⟩, px_nm4, rfl⟩
theorem px_CF5 : px_CF 5 (px_R5, px_T5, 8) := ⟨rfl, px_in5, ⟨px_Y5, px_ty5_ok, fun _ _ => rfl, by decide +kernel⟩, px_nm5, rfl⟩
theorem px_CF6 : px_CF 6 (px_R6, px_T6, 1) := ⟨rfl, px_in6, ⟨px_Y6, px_ty6_ok, fun _ _ => rfl, by decide +kernel⟩, px_nm6, rfl⟩
theorem px_CF7 : px_CF 7 (px_R7, px_T7, 2) := ⟨rfl, px_in7, ⟨px_Y7, px_ty7_ok, fun _ _ => rfl, by decide +kernel⟩, px_nm7, rfl⟩
theorem px_CF8 : px_CF 8 (px_R8, px_T8, 9) := ⟨rfl, px_in8, ⟨px_Y8, px_ty8_ok, fun _ _ => rfl, by decide +kernel⟩, px_nm8, rfl⟩
theorem px_CF9 : px_CF 9 (px_R9, px_T9, 4) := ⟨rfl, px_in9, ⟨px_Y9, px_ty9_ok, fun _ _ => rfl, by decide +kernel⟩, px_nm9, rfl⟩
theorem px_CF10 : px_CF 10 (px_R10, px_T10, 34) := ⟨rfl, px_in10, ⟨px_Y10, px_ty10_ok, fun _ _ => rfl, by decide +kernel⟩, px_nm10, rfl⟩
def px_flP (cn : Nat) (q : Nat × Nat × Nat) : Prop := ∃ r : vw_C, px_CF q.2.1 r ∧ q.2.2 < r.2.2 ∧ (Cond.fieldLink (px_on cn) q.1 (r.2.1 q.2.2).1 (r.2.1 q.2.2).2.1 (r.2.1 q.2.2).2.2.1 ∈ px_tbl ∨ ∃ host, Cond.fieldLinkNest (px_on cn) q.1 (r.2.1 q.2.2).1 (r.2.1 q.2.2).2.1 (r.2.1 q.2.2).2.2.1 host ∈ px_nw)
theorem px_fl_c0 : ∀ q ∈ px_flL0, px_flP 0 q := List.forall_mem_cons.mpr ⟨⟨_, px_CF0, by decide, Or.inl px_w136⟩, List.forall_mem_cons.mpr ⟨⟨_, px_CF0, by decide, Or.inl px_w137⟩, List.forall_mem_cons.mpr ⟨⟨_, px_CF0, by decide, Or.inl px_w138⟩, List.forall_mem_cons.mpr ⟨⟨_, px_CF0, by decide, Or.inl px_w139⟩, List.forall_mem_cons.mpr ⟨⟨_, px_CF0, by decide, Or.inl px_w140⟩, List.forall_mem_cons.mpr ⟨⟨_, px_CF0, by decide, Or.inl px_w141⟩, fun _ h => absurd h List.not_mem_nil⟩⟩⟩⟩⟩⟩
theorem px_fl_c1 : ∀ q ∈ px_flL1, px_flP 1 q := List.forall_mem_cons.mpr ⟨⟨_, px_CF1, by decide, Or.inl px_w350⟩, List.forall_mem_cons.mpr ⟨⟨_, px_CF1, by decide, Or.inl px_w351⟩, List.forall_mem_cons.mpr ⟨⟨_, px_CF1, by decide, Or.inl px_w352⟩, List.forall_mem_cons.mpr ⟨⟨_, px_CF1, by decide, Or.inl px_w353⟩, List.forall_mem_cons.mpr ⟨⟨_, px_CF1, by decide, Or.inl px_w354⟩, List.forall_mem_cons.mpr ⟨⟨_, px_CF1, by decide, Or.inl px_w355⟩, List.forall_mem_cons.mpr ⟨⟨_, px_CF1, by decide, Or.inl px_w356⟩, fun _ h => absurd h List.not_mem_nil⟩⟩⟩⟩⟩⟩⟩
theorem px_fl_c2 : ∀ q ∈ px_flL2, px_flP 2 q := List.forall_mem_cons.mpr ⟨⟨_, px_CF2, by decide, Or.inl px_w472⟩, List.forall_mem_cons.mpr ⟨⟨_, px_CF2, by decide, Or.inl px_w473⟩, fun _ h => absurd h List.not_mem_nil⟩⟩
theorem px_fl_c3 : ∀ q ∈ px_flL3, px_flP 3 q := List.forall_mem_cons.mpr ⟨⟨_, px_CF3, by decide, Or.inl px_w190⟩, List.forall_mem_cons.mpr ⟨⟨_, px_CF3, by decide, Or.inl px_w191⟩, List.forall_mem_cons.mpr ⟨⟨_, px_CF3, by decide, Or.inl px_w192⟩, fun _ h => absurd h List.not_mem_nil⟩⟩⟩
theorem px_fl_c4 : ∀ q ∈ px_flL4, px_flP 4 q := List.forall_mem_cons.mpr ⟨⟨_, px_CF1, by decide, Or.inr ⟨"CheckDaemon", List.mem_append_left _ (List.mem_map.mpr ⟨_, List.mem_of_getElem? (i := 0) rfl, rfl⟩)⟩⟩, List.forall_mem_cons.mpr ⟨⟨_, px_CF4, by decide, Or.inl px_w479⟩, List.forall_mem_cons.mpr ⟨⟨_, px_CF4, by decide, Or.inl px_w480⟩, List.forall_mem_cons.mpr ⟨⟨_, px_CF4, by decide, Or.inl px_w481⟩, List.forall_mem_cons.mpr ⟨⟨_, px_CF4, by decide, Or.inl px_w482⟩, List.forall_mem_cons.mpr ⟨⟨_, px_CF4, by decide, Or.inl px_w483⟩, List.forall_mem_cons.mpr ⟨⟨_, px_CF4, by decide, Or.inl px_w484⟩, List.forall_mem_cons.mpr ⟨⟨_, px_CF4, by decide, Or.inl px_w485⟩, List.forall_mem_cons.mpr ⟨⟨_, px_CF4, by decide, Or.inl px_w486⟩, fun _ h => absurd h List.not_mem_nil⟩⟩⟩⟩⟩⟩⟩⟩⟩
theorem px_fl_c5 : ∀ q ∈ px_flL5, px_flP 5 q := List.forall_mem_cons.mpr ⟨⟨_, px_CF1, by decide, Or.inr ⟨"CheckDaemon", List.mem_append_left _ (List.mem_map.mpr ⟨_, List.mem_of_getElem? (i := 1) rfl, rfl⟩)⟩⟩, List.forall_mem_cons.mpr ⟨⟨_, px_CF5, by decide, Or.inl px_w374⟩, List.forall_mem_cons.mpr ⟨⟨_, px_CF5, by decide, Or.inl px_w375⟩, List.forall_mem_cons.mpr ⟨⟨_, px_CF5, by decide, Or.inl px_w376⟩, List.forall_mem_cons.mpr ⟨⟨_, px_CF5, by decide, Or.inl px_w377⟩, List.forall_mem_cons.mpr ⟨⟨_, px_CF5, by decide, Or.inl px_w378⟩, List.forall_mem_cons.mpr ⟨⟨_, px_CF5, by decide, Or.inl px_w379⟩, List.forall_mem_cons.mpr ⟨⟨_, px_CF5, by decide, Or.inl px_w380⟩, List.forall_mem_cons.mpr ⟨⟨_, px_CF5, by decide, Or.inl px_w381⟩, fun _ h => absurd h List.not_mem_nil⟩⟩⟩⟩⟩⟩⟩⟩⟩
theorem px_fl_c6 : ∀ q ∈ px_flL6, px_flP 6 q := List.forall_mem_cons.mpr ⟨⟨_, px_CF6, by decide, Or.inl px_w121⟩, fun _ h => absurd h List.not_mem_nil⟩
theorem px_fl_c7 : ∀ q ∈ px_flL7, px_flP 7 q := List.forall_mem_cons.mpr ⟨⟨_, px_CF7, by decide, Or.inl px_w107⟩, List.forall_mem_cons.mpr ⟨⟨_, px_CF7, by decide, Or.inl px_w108⟩, fun _ h => absurd h List.not_mem_nil⟩⟩
theorem px_fl_c8 : ∀ q ∈ px_flL8, px_flP 8 q := List.forall_mem_cons.mpr ⟨⟨_, px_CF8, by decide, Or.inl px_w155⟩, List.forall_mem_cons.mpr ⟨⟨_, px_CF8, by decide, Or.inl px_w156⟩, List.forall_mem_cons.mpr ⟨⟨_, px_CF8, by decide, Or.inl px_w157⟩, List.forall_mem_cons.mpr ⟨⟨_, px_CF8, by decide, Or.inl px_w158⟩, List.forall_mem_cons.mpr ⟨⟨_, px_CF8, by decide, Or.inl px_w159⟩, List.forall_mem_cons.mpr ⟨⟨_, px_CF8, by decide, Or.inl px_w160⟩, List.forall_mem_cons.mpr ⟨⟨_, px_CF8, by decide, Or.inl px_w161⟩, List.forall_mem_cons.mpr ⟨⟨_, px_CF8, by decide, Or.inl px_w162⟩, List.forall_mem_cons.mpr ⟨⟨_, px_CF8, by decide, Or.inl px_w163⟩, fun _ h => absurd h List.not_mem_nil⟩⟩⟩⟩⟩⟩⟩⟩⟩
theorem px_fl_c9 : ∀ q ∈ px_flL9, px_flP 9 q := List.forall_mem_cons.mpr ⟨⟨_, px_CF9, by decide, Or.inl px_w200⟩, List.forall_mem_cons.mpr ⟨⟨_, px_CF9, by decide, Or.inl px_w201⟩, List.forall_mem_cons.mpr ⟨⟨_, px_CF9, by decide, Or.inl px_w202⟩, List.forall_mem_cons.mpr ⟨⟨_, px_CF9, by decide, Or.inl px_w203⟩, fun _ h => absurd h List.not_mem_nil⟩⟩⟩⟩
theorem px_fl_c10 : ∀ q ∈ px_flL10, px_flP 10 q := List.forall_mem_cons.mpr ⟨⟨_, px_CF10, by decide, Or.inl px_w866⟩, List.forall_mem_cons.mpr ⟨⟨_, px_CF10, by decide, Or.inl px_w867⟩, List.forall_mem_cons.mpr ⟨⟨_, px_CF10, by decide, Or.inl px_w868⟩, List.forall_mem_cons.mpr ⟨⟨_, px_CF10, by decide, Or.inl px_w869⟩, List.forall_mem_cons.mpr ⟨⟨_, px_CF10, by decide, Or.inl px_w870⟩, List.forall_mem_cons.mpr ⟨⟨_, px_CF10, by decide, Or.inl px_w871⟩, List.forall_mem_cons.mpr ⟨⟨_, px_CF10, by decide, Or.inl px_w872⟩, List.forall_mem_cons.mpr ⟨⟨_, px_CF10, by decide, Or.inl px_w873⟩, List.forall_mem_cons.mpr ⟨⟨_, px_CF10, by decide, Or.inl px_w874⟩, List.forall_mem_cons.mpr ⟨⟨_, px_CF10, by decide, Or.inl px_w875⟩, List.forall_mem_cons.mpr ⟨⟨_, px_CF10, by decide, Or.inl px_w876⟩, List.forall_mem_cons.mpr ⟨⟨_, px_CF10, by decide, Or.inl px_w877⟩, List.forall_mem_cons.mpr ⟨⟨_, px_CF10, by decide, Or.inl px_w878⟩, List.forall_mem_cons.mpr ⟨⟨_, px_CF10, by decide, Or.inl px_w879⟩, List.forall_mem_cons.mpr ⟨⟨_, px_CF10, by decide, Or.inl px_w880⟩, List.forall_mem_cons.mpr ⟨⟨_, px_CF10, by decide, Or.inl px_w881⟩, List.forall_mem_cons.mpr ⟨⟨_, px_CF10, by decide, Or.inl px_w882⟩, List.forall_mem_cons.mpr ⟨⟨_, px_CF10, by decide, Or.inl px_w883⟩, List.forall_mem_cons.mpr ⟨⟨_, px_CF10, by decide, Or.inl px_w884⟩, List.forall_mem_cons.mpr ⟨⟨_, px_CF10, by decide, Or.inl px_w885⟩, List.forall_mem_cons.mpr ⟨⟨_, px_CF10, by decide, Or.inl px_w886⟩, List.forall_mem_cons.mpr ⟨⟨_, px_CF10, by decide, Or.inl px_w887⟩, List.forall_mem_cons.mpr ⟨⟨_, px_CF10, by decide, Or.inl px_w888⟩, List.forall_mem_cons.mpr ⟨⟨_, px_CF10, by decide, Or.inl px_w889⟩, List.forall_mem_cons.mpr ⟨⟨_, px_CF10, by decide, Or.inl px_w890⟩, List.forall_mem_cons.mpr ⟨⟨_, px_CF10, by decide, Or.inl px_w891⟩, List.forall_mem_cons.mpr ⟨⟨_, px_CF10, by decide, Or.inl px_w892⟩, List.forall_mem_cons.mpr ⟨⟨_, px_CF10, by decide, Or.inl px_w893⟩, List.forall_mem_cons.mpr ⟨⟨_, px_CF10, by decide, Or.inl px_w894⟩, List.forall_mem_cons.mpr ⟨⟨_, px_CF10, by decide, Or.inl px_w895⟩, List.forall_mem_cons.mpr ⟨⟨_, px_CF10, by decide, Or.inl px_w896⟩, List.forall_mem_cons.mpr ⟨⟨_, px_CF10, by decide, Or.inl px_w897⟩, List.forall_mem_cons.mpr ⟨⟨_, px_CF10, by decide, Or.inl px_w898⟩, List.forall_mem_cons.mpr ⟨⟨_, px_CF10, by decide, Or.inl px_w899⟩, fun _ h => absurd h List.not_mem_nil⟩⟩⟩⟩⟩⟩⟩⟩⟩⟩⟩⟩⟩⟩⟩⟩⟩⟩⟩⟩⟩⟩⟩⟩⟩⟩⟩⟩⟩⟩⟩⟩⟩⟩
theorem px_fl_all {cn : Nat} : ∀ q ∈ px_flT.getD cn [], px_flP cn q := by
  rcases Nat.lt_or_ge cn 14 with h | h
  · match cn, h with
    | 0, _ => exact px_fl_c0
    | 1, _ => exact px_fl_c1
    | 2, _ => exact px_fl_c2
    | 3, _ => exact px_fl_c3
    | 4, _ => exact px_fl_c4
    | 5, _ => exact px_fl_c5
    | 6, _ => exact px_fl_c6
    | 7, _ => exact px_fl_c7
    | 8, _ => exact px_fl_c8
    | 9, _ => exact px_fl_c9
    | 10, _ => exact px_fl_c10
    | 11, _ => exact fun _ h => absurd h List.not_mem_nil
    | 12, _ => exact fun _ h => absurd h List.not_mem_nil
    | 13, _ => exact fun _ h => absurd h List.not_mem_nil
  · intro q hq
    rw [List.getD_eq_getElem?_getD, List.getElem?_eq_none (by show 14 ≤ cn; exact h)] at hq
    exact absurd hq List.not_mem_nil
def px_caP (cn : Nat) (q : Nat × Nat × Nat × Nat) : Prop := Cond.code (px_y q.2.2.1) (px_b q.2.2.1) (px_ml q.2.2.1) (px_rt q.2.2.1) ∈ px_tbl ∧ Cond.initialized (px_y q.2.2.1).cls ∈ px_tbl ∧ ((px_y q.2.2.1).cls ≠ "java/lang/invoke/MethodHandle" ∧ (px_y q.2.2.1).cls ≠ "java/lang/invoke/VarHandle") ∧
  (parseMethodDescriptor (px_y q.2.2.1).desc).map (fun d => d.parameters.length) = some q.2.2.2 ∧ px_ml q.2.2.1 ≤ 80 ∧ (Cond.methodLink (px_on cn) q.1 (px_y q.2.2.1) ∈ px_tbl ∨ ∃ host, Cond.methodLinkNest (px_on cn) q.1 (px_y q.2.2.1) host ∈ px_nw) ∧
  (q.2.1 = 0 → Cond.static (px_y q.2.2.1) ∈ px_tbl) ∧ (q.2.1 = 1 → Cond.instanceMethod (px_y q.2.2.1) ∈ px_tbl ∧ Cond.selects (px_y q.2.2.1).cls (px_y q.2.2.1) (px_y q.2.2.1) ∈ px_tbl ∧ ∃ rc, px_cl[px_yc q.2.2.1]? = some rc ∧ rc.1 = (px_y q.2.2.1).cls) ∧
  (q.2.1 = 2 → (px_y q.2.2.1).name = "<init>" ∧ Cond.instanceMethod (px_y q.2.2.1) ∈ px_tbl ∧ px_rt q.2.2.1 = none)
theorem px_ca_c0 : ∀ q ∈ px_caL0, px_caP 0 q := List.forall_mem_cons.mpr ⟨⟨px_w119, px_w69, ⟨by decide, by decide⟩, by decide +kernel, by decide, Or.inr ⟨"CheckDaemon", List.mem_append_right _ (List.mem_map.mpr ⟨_, List.mem_of_getElem? (i := 2) rfl, rfl⟩)⟩, fun h => absurd h (by decide), fun h => absurd h (by decide), fun _ => ⟨rfl, px_w118, rfl⟩⟩, List.forall_mem_cons.mpr ⟨⟨px_w740, px_w70, ⟨by decide, by decide⟩, by decide +kernel, by decide, Or.inl px_w737, fun h => absurd h (by decide), fun _ => ⟨px_w739, px_w29, _, rfl, rfl⟩, fun h => absurd h (by decide)⟩, List.forall_mem_cons.mpr ⟨⟨px_w532, px_w69, ⟨by decide, by decide⟩, by decide +kernel, by decide, Or.inl px_w741, fun h => absurd h (by decide), fun _ => ⟨px_w530, px_w531, _, rfl, rfl⟩, fun h => absurd h (by decide)⟩, List.forall_mem_cons.mpr ⟨⟨px_w663, px_w68, ⟨by decide, by decide⟩, by decide +kernel, by decide, Or.inl px_w742, fun h => absurd h (by decide), fun _ => ⟨px_w661, px_w662, _, rfl, rfl⟩, fun h => absurd h (by decide)⟩, List.forall_mem_cons.mpr ⟨⟨px_w746, px_w70, ⟨by decide, by decide⟩, by decide +kernel, by decide, Or.inl px_w743, fun h => absurd h (by decide), fun _ => ⟨px_w745, px_w30, _, rfl, rfl⟩, fun h => absurd h (by decide)⟩, List.forall_mem_cons.mpr ⟨⟨px_w540, px_w82, ⟨by decide, by decide⟩, by decide +kernel, by decide, Or.inl px_w747, fun h => absurd h (by decide), fun _ => ⟨px_w538, px_w539, _, rfl, rfl⟩, fun h => absurd h (by decide)⟩, List.forall_mem_cons.mpr ⟨⟨px_w751, px_w82, ⟨by decide, by decide⟩, by decide +kernel, by decide, Or.inl px_w748, fun h => absurd h (by decide), fun _ => ⟨px_w749, px_w750, _, rfl, rfl⟩, fun h => absurd h (by decide)⟩, List.forall_mem_cons.mpr ⟨⟨px_w755, px_w69, ⟨by decide, by decide⟩, by decide +kernel, by decide, Or.inl px_w752, fun h => absurd h (by decide), fun _ => ⟨px_w753, px_w754, _, rfl, rfl⟩, fun h => absurd h (by decide)⟩, List.forall_mem_cons.mpr ⟨⟨px_w759, px_w70, ⟨by decide, by decide⟩, by decide +kernel, by decide, Or.inl px_w756, fun h => absurd h (by decide), fun _ => ⟨px_w758, px_w31, _, rfl, rfl⟩, fun h => absurd h (by decide)⟩, List.forall_mem_cons.mpr ⟨⟨px_w555, px_w69, ⟨by decide, by decide⟩, by decide +kernel, by decide, Or.inl px_w760, fun h => absurd h (by decide), fun _ => ⟨px_w553, px_w554, _, rfl, rfl⟩, fun h => absurd h (by decide)⟩, List.forall_mem_cons.mpr ⟨⟨px_w764, px_w70, ⟨by decide, by decide⟩, by decide +kernel, by decide, Or.inl px_w761, fun h => absurd h (by decide), fun _ => ⟨px_w763, px_w32, _, rfl, rfl⟩, fun h => absurd h (by decide)⟩, List.forall_mem_cons.mpr ⟨⟨px_w768, px_w70, ⟨by decide, by decide⟩, by decide +kernel, by decide, Or.inl px_w765, fun h => absurd h (by decide), fun _ => ⟨px_w767, px_w33, _, rfl, rfl⟩, fun h => absurd h (by decide)⟩, fun _ h => absurd h List.not_mem_nil⟩⟩⟩⟩⟩⟩⟩⟩⟩⟩⟩⟩
theorem px_ca_c1 : ∀ q ∈ px_caL1, px_caP 1 q := List.forall_mem_cons.mpr ⟨⟨px_w119, px_w69, ⟨by decide, by decide⟩, by decide +kernel, by decide, Or.inr ⟨"CheckDaemon", List.mem_append_right _ (List.mem_map.mpr ⟨_, List.mem_of_getElem? (i := 4) rfl, rfl⟩)⟩, fun h => absurd h (by decide), fun h => absurd h (by decide), fun _ => ⟨rfl, px_w118, rfl⟩⟩, List.forall_mem_cons.mpr ⟨⟨px_w601, px_w80, ⟨by decide, by decide⟩, by decide +kernel, by decide, Or.inl px_w598, fun h => absurd h (by decide), fun _ => ⟨px_w600, px_w21, _, rfl, rfl⟩, fun h => absurd h (by decide)⟩, List.forall_mem_cons.mpr ⟨⟨px_w605, px_w68, ⟨by decide, by decide⟩, by decide +kernel, by decide, Or.inl px_w602, fun h => absurd h (by decide), fun _ => ⟨px_w603, px_w604, _, rfl, rfl⟩, fun h => absurd h (by decide)⟩, List.forall_mem_cons.mpr ⟨⟨px_w609, px_w80, ⟨by decide, by decide⟩, by decide +kernel, by decide, Or.inl px_w606, fun h => absurd h (by decide), fun _ => ⟨px_w608, px_w22, _, rfl, rfl⟩, fun h => absurd h (by decide)⟩, List.forall_mem_cons.mpr ⟨⟨px_w612, px_w81, ⟨by decide, by decide⟩, by decide +kernel, by decide, Or.inl px_w610, fun _ => px_w611, fun h => absurd h (by decide), fun h => absurd h (by decide)⟩, List.forall_mem_cons.mpr ⟨⟨px_w619, px_w81, ⟨by decide, by decide⟩, by decide +kernel, by decide, Or.inl px_w617, fun _ => px_w618, fun h => absurd h (by decide), fun h => absurd h (by decide)⟩, List.forall_mem_cons.mpr ⟨⟨px_w622, px_w81, ⟨by decide, by decide⟩, by decide +kernel, by decide, Or.inl px_w620, fun _ => px_w621, fun h => absurd h (by decide), fun h => absurd h (by decide)⟩, List.forall_mem_cons.mpr ⟨⟨px_w625, px_w81, ⟨by decide, by decide⟩, by decide +kernel, by decide, Or.inl px_w623, fun _ => px_w624, fun h => absurd h (by decide), fun h => absurd h (by decide)⟩, List.forall_mem_cons.mpr ⟨⟨px_w628, px_w81, ⟨by decide, by decide⟩, by decide +kernel, by decide, Or.inl px_w626, fun _ => px_w627, fun h => absurd h (by decide), fun h => absurd h (by decide)⟩, List.forall_mem_cons.mpr ⟨⟨px_w659, px_w80, ⟨by decide, by decide⟩, by decide +kernel, by decide, Or.inl px_w656, fun h => absurd h (by decide), fun _ => ⟨px_w658, px_w25, _, rfl, rfl⟩, fun h => absurd h (by decide)⟩, List.forall_mem_cons.mpr ⟨⟨px_w663, px_w68, ⟨by decide, by decide⟩, by decide +kernel, by decide, Or.inl px_w660, fun h => absurd h (by decide), fun _ => ⟨px_w661, px_w662, _, rfl, rfl⟩, fun h => absurd h (by decide)⟩, List.forall_mem_cons.mpr ⟨⟨px_w666, px_w81, ⟨by decide, by decide⟩, by decide +kernel, by decide, Or.inl px_w664, fun _ => px_w665, fun h => absurd h (by decide), fun h => absurd h (by decide)⟩, List.forall_mem_cons.mpr ⟨⟨px_w669, px_w81, ⟨by decide, by decide⟩, by decide +kernel, by decide, Or.inl px_w667, fun _ => px_w668, fun h => absurd h (by decide), fun h => absurd h (by decide)⟩, List.forall_mem_cons.mpr ⟨⟨px_w651, px_w83, ⟨by decide, by decide⟩, by decide +kernel, by decide, Or.inl px_w670, fun h => absurd h (by decide), fun _ => ⟨px_w649, px_w650, _, rfl, rfl⟩, fun h => absurd h (by decide)⟩, fun _ h => absurd h List.not_mem_nil⟩⟩⟩⟩⟩⟩⟩⟩⟩⟩⟩⟩⟩⟩
theorem px_ca_c2 : ∀ q ∈ px_caL2, px_caP 2 q := List.forall_mem_cons.mpr ⟨⟨px_w822, px_w83, ⟨by decide, by decide⟩, by decide +kernel, by decide, Or.inl px_w827, fun h => absurd h (by decide), fun _ => ⟨px_w820, px_w821, _, rfl, rfl⟩, fun h => absurd h (by decide)⟩, fun _ h => absurd h List.not_mem_nil⟩
theorem px_ca_c3 : ∀ q ∈ px_caL3, px_caP 3 q := List.forall_mem_cons.mpr ⟨⟨px_w520, px_w71, ⟨by decide, by decide⟩, by decide +kernel, by decide, Or.inl px_w517, fun h => absurd h (by decide), fun _ => ⟨px_w519, px_w13, _, rfl, rfl⟩, fun h => absurd h (by decide)⟩, fun _ h => absurd h List.not_mem_nil⟩
theorem px_ca_c4 : ∀ q ∈ px_caL4, px_caP 4 q := List.forall_mem_cons.mpr ⟨⟨px_w470, px_w83, ⟨by decide, by decide⟩, by decide +kernel, by decide, Or.inl px_w468, fun h => absurd h (by decide), fun h => absurd h (by decide), fun _ => ⟨rfl, px_w469, rfl⟩⟩, List.forall_mem_cons.mpr ⟨⟨px_w346, px_w80, ⟨by decide, by decide⟩, by decide +kernel, by decide, Or.inl px_w508, fun h => absurd h (by decide), fun h => absurd h (by decide), fun _ => ⟨rfl, px_w345, rfl⟩⟩, List.forall_mem_cons.mpr ⟨⟨px_w555, px_w69, ⟨by decide, by decide⟩, by decide +kernel, by decide, Or.inl px_w569, fun h => absurd h (by decide), fun _ => ⟨px_w553, px_w554, _, rfl, rfl⟩, fun h => absurd h (by decide)⟩, List.forall_mem_cons.mpr ⟨⟨px_w597, px_w80, ⟨by decide, by decide⟩, by decide +kernel, by decide, Or.inl px_w594, fun h => absurd h (by decide), fun _ => ⟨px_w595, px_w596, _, rfl, rfl⟩, fun h => absurd h (by decide)⟩, List.forall_mem_cons.mpr ⟨⟨px_w647, px_w83, ⟨by decide, by decide⟩, by decide +kernel, by decide, Or.inl px_w644, fun h => absurd h (by decide), fun _ => ⟨px_w645, px_w646, _, rfl, rfl⟩, fun h => absurd h (by decide)⟩, List.forall_mem_cons.mpr ⟨⟨px_w651, px_w83, ⟨by decide, by decide⟩, by decide +kernel, by decide, Or.inl px_w648, fun h => absurd h (by decide), fun _ => ⟨px_w649, px_w650, _, rfl, rfl⟩, fun h => absurd h (by decide)⟩, List.forall_mem_cons.mpr ⟨⟨px_w655, px_w80, ⟨by decide, by decide⟩, by decide +kernel, by decide, Or.inl px_w652, fun h => absurd h (by decide), fun _ => ⟨px_w653, px_w654, _, rfl, rfl⟩, fun h => absurd h (by decide)⟩, List.forall_mem_cons.mpr ⟨⟨px_w674, px_w82, ⟨by decide, by decide⟩, by decide +kernel, by decide, Or.inl px_w671, fun h => absurd h (by decide), fun _ => ⟨px_w673, px_w26, _, rfl, rfl⟩, fun h => absurd h (by decide)⟩, List.forall_mem_cons.mpr ⟨⟨px_w788, px_w83, ⟨by decide, by decide⟩, by decide +kernel, by decide, Or.inl px_w785, fun h => absurd h (by decide), fun _ => ⟨px_w786, px_w787, _, rfl, rfl⟩, fun h => absurd h (by decide)⟩, List.forall_mem_cons.mpr ⟨⟨px_w792, px_w69, ⟨by decide, by decide⟩, by decide +kernel, by decide, Or.inl px_w789, fun h => absurd h (by decide), fun _ => ⟨px_w790, px_w791, _, rfl, rfl⟩, fun h => absurd h (by decide)⟩, fun _ h => absurd h List.not_mem_nil⟩⟩⟩⟩⟩⟩⟩⟩⟩⟩
theorem px_ca_c5 : ∀ q ∈ px_caL5, px_caP 5 q := List.forall_mem_cons.mpr ⟨⟨px_w338, px_w79, ⟨by decide, by decide⟩, by decide +kernel, by decide, Or.inl px_w336, fun _ => px_w337, fun h => absurd h (by decide), fun h => absurd h (by decide)⟩, List.forall_mem_cons.mpr ⟨⟨px_w341, px_w79, ⟨by decide, by decide⟩, by decide +kernel, by decide, Or.inl px_w339, fun _ => px_w340, fun h => absurd h (by decide), fun h => absurd h (by decide)⟩, List.forall_mem_cons.mpr ⟨⟨px_w346, px_w80, ⟨by decide, by decide⟩, by decide +kernel, by decide, Or.inl px_w344, fun h => absurd h (by decide), fun h => absurd h (by decide), fun _ => ⟨rfl, px_w345, rfl⟩⟩, List.forall_mem_cons.mpr ⟨⟨px_w406, px_w78, ⟨by decide, by decide⟩, by decide +kernel, by decide, Or.inl px_w403, fun h => absurd h (by decide), fun _ => ⟨px_w405, px_w3, _, rfl, rfl⟩, fun h => absurd h (by decide)⟩, List.forall_mem_cons.mpr ⟨⟨px_w410, px_w78, ⟨by decide, by decide⟩, by decide +kernel, by decide, Or.inl px_w407, fun h => absurd h (by decide), fun _ => ⟨px_w409, px_w4, _, rfl, rfl⟩, fun h => absurd h (by decide)⟩, List.forall_mem_cons.mpr ⟨⟨px_w413, px_w78, ⟨by decide, by decide⟩, by decide +kernel, by decide, Or.inl px_w411, fun _ => px_w412, fun h => absurd h (by decide), fun h => absurd h (by decide)⟩, List.forall_mem_cons.mpr ⟨⟨px_w417, px_w78, ⟨by decide, by decide⟩, by decide +kernel, by decide, Or.inl px_w414, fun h => absurd h (by decide), fun _ => ⟨px_w416, px_w5, _, rfl, rfl⟩, fun h => absurd h (by decide)⟩, List.forall_mem_cons.mpr ⟨⟨px_w421, px_w78, ⟨by decide, by decide⟩, by decide +kernel, by decide, Or.inl px_w418, fun h => absurd h (by decide), fun _ => ⟨px_w420, px_w6, _, rfl, rfl⟩, fun h => absurd h (by decide)⟩, List.forall_mem_cons.mpr ⟨⟨px_w424, px_w81, ⟨by decide, by decide⟩, by decide +kernel, by decide, Or.inl px_w422, fun _ => px_w423, fun h => absurd h (by decide), fun h => absurd h (by decide)⟩, List.forall_mem_cons.mpr ⟨⟨px_w428, px_w78, ⟨by decide, by decide⟩, by decide +kernel, by decide, Or.inl px_w425, fun h => absurd h (by decide), fun _ => ⟨px_w427, px_w7, _, rfl, rfl⟩, fun h => absurd h (by decide)⟩, List.forall_mem_cons.mpr ⟨⟨px_w432, px_w78, ⟨by decide, by decide⟩, by decide +kernel, by decide, Or.inl px_w429, fun h => absurd h (by decide), fun _ => ⟨px_w431, px_w8, _, rfl, rfl⟩, fun h => absurd h (by decide)⟩, List.forall_mem_cons.mpr ⟨⟨px_w436, px_w78, ⟨by decide, by decide⟩, by decide +kernel, by decide, Or.inl px_w433, fun h => absurd h (by decide), fun _ => ⟨px_w435, px_w9, _, rfl, rfl⟩, fun h => absurd h (by decide)⟩, List.forall_mem_cons.mpr ⟨⟨px_w440, px_w78, ⟨by decide, by decide⟩, by decide +kernel, by decide, Or.inl px_w437, fun h => absurd h (by decide), fun _ => ⟨px_w439, px_w10, _, rfl, rfl⟩, fun h => absurd h (by decide)⟩, List.forall_mem_cons.mpr ⟨⟨px_w444, px_w80, ⟨by decide, by decide⟩, by decide +kernel, by decide, Or.inl px_w441, fun h => absurd h (by decide), fun _ => ⟨px_w442, px_w443, _, rfl, rfl⟩, fun h => absurd h (by decide)⟩, List.forall_mem_cons.mpr ⟨⟨px_w448, px_w78, ⟨by decide, by decide⟩, by decide +kernel, by decide, Or.inl px_w445, fun h => absurd h (by decide), fun _ => ⟨px_w447, px_w11, _, rfl, rfl⟩, fun h => absurd h (by decide)⟩, List.forall_mem_cons.mpr ⟨⟨px_w452, px_w69, ⟨by decide, by decide⟩, by decide +kernel, by decide, Or.inl px_w449, fun h => absurd h (by decide), fun _ => ⟨px_w450, px_w451, _, rfl, rfl⟩, fun h => absurd h (by decide)⟩, List.forall_mem_cons.mpr ⟨⟨px_w455, px_w78, ⟨by decide, by decide⟩, by decide +kernel, by decide, Or.inl px_w453, fun _ => px_w454, fun h => absurd h (by decide), fun h => absurd h (by decide)⟩, List.forall_mem_cons.mpr ⟨⟨px_w459, px_w78, ⟨by decide, by decide⟩, by decide +kernel, by decide, Or.inl px_w456, fun h => absurd h (by decide), fun _ => ⟨px_w458, px_w12, _, rfl, rfl⟩, fun h => absurd h (by decide)⟩, List.forall_mem_cons.mpr ⟨⟨px_w464, px_w82, ⟨by decide, by decide⟩, by decide +kernel, by decide, Or.inl px_w462, fun h => absurd h (by decide), fun h => absurd h (by decide), fun _ => ⟨rfl, px_w463, rfl⟩⟩, List.forall_mem_cons.mpr ⟨⟨px_w506, px_w82, ⟨by decide, by decide⟩, by decide +kernel, by decide, Or.inl px_w504, fun h => absurd h (by decide), fun h => absurd h (by decide), fun _ => ⟨rfl, px_w505, rfl⟩⟩, fun _ h => absurd h List.not_mem_nil⟩⟩⟩⟩⟩⟩⟩⟩⟩⟩⟩⟩⟩⟩⟩⟩⟩⟩⟩⟩
theorem px_ca_c6 : ∀ q ∈ px_caL6, px_caP 6 q := List.forall_mem_cons.mpr ⟨⟨px_w795, px_w84, ⟨by decide, by decide⟩, by decide +kernel, by decide, Or.inl px_w793, fun _ => px_w794, fun h => absurd h (by decide), fun h => absurd h (by decide)⟩, fun _ h => absurd h List.not_mem_nil⟩
theorem px_ca_c7 : ∀ q ∈ px_caL7, px_caP 7 q := List.forall_mem_cons.mpr ⟨⟨px_w547, px_w68, ⟨by decide, by decide⟩, by decide +kernel, by decide, Or.inl px_w545, fun _ => px_w546, fun h => absurd h (by decide), fun h => absurd h (by decide)⟩, fun _ h => absurd h List.not_mem_nil⟩
theorem px_ca_c8 : ∀ q ∈ px_caL8, px_caP 8 q := List.forall_mem_cons.mpr ⟨⟨px_w105, px_w68, ⟨by decide, by decide⟩, by decide +kernel, by decide, Or.inl px_w103, fun h => absurd h (by decide), fun h => absurd h (by decide), fun _ => ⟨rfl, px_w104, rfl⟩⟩, List.forall_mem_cons.mpr ⟨⟨px_w119, px_w69, ⟨by decide, by decide⟩, by decide +kernel, by decide, Or.inr ⟨"CheckDaemon", List.mem_append_right _ (List.mem_map.mpr ⟨_, List.mem_of_getElem? (i := 1) rfl, rfl⟩)⟩, fun h => absurd h (by decide), fun h => absurd h (by decide), fun _ => ⟨rfl, px_w118, rfl⟩⟩, List.forall_mem_cons.mpr ⟨⟨px_w131, px_w70, ⟨by decide, by decide⟩, by decide +kernel, by decide, Or.inl px_w129, fun h => absurd h (by decide), fun h => absurd h (by decide), fun _ => ⟨rfl, px_w130, rfl⟩⟩, List.forall_mem_cons.mpr ⟨⟨px_w528, px_w67, ⟨by decide, by decide⟩, by decide +kernel, by decide, Or.inl px_w525, fun h => absurd h (by decide), fun _ => ⟨px_w527, px_w14, _, rfl, rfl⟩, fun h => absurd h (by decide)⟩, List.forall_mem_cons.mpr ⟨⟨px_w532, px_w69, ⟨by decide, by decide⟩, by decide +kernel, by decide, Or.inl px_w529, fun h => absurd h (by decide), fun _ => ⟨px_w530, px_w531, _, rfl, rfl⟩, fun h => absurd h (by decide)⟩, List.forall_mem_cons.mpr ⟨⟨px_w536, px_w67, ⟨by decide, by decide⟩, by decide +kernel, by decide, Or.inl px_w533, fun h => absurd h (by decide), fun _ => ⟨px_w535, px_w15, _, rfl, rfl⟩, fun h => absurd h (by decide)⟩, List.forall_mem_cons.mpr ⟨⟨px_w540, px_w82, ⟨by decide, by decide⟩, by decide +kernel, by decide, Or.inl px_w537, fun h => absurd h (by decide), fun _ => ⟨px_w538, px_w539, _, rfl, rfl⟩, fun h => absurd h (by decide)⟩, List.forall_mem_cons.mpr ⟨⟨px_w544, px_w68, ⟨by decide, by decide⟩, by decide +kernel, by decide, Or.inl px_w541, fun h => absurd h (by decide), fun _ => ⟨px_w542, px_w543, _, rfl, rfl⟩, fun h => absurd h (by decide)⟩, List.forall_mem_cons.mpr ⟨⟨px_w551, px_w67, ⟨by decide, by decide⟩, by decide +kernel, by decide, Or.inl px_w548, fun h => absurd h (by decide), fun _ => ⟨px_w550, px_w16, _, rfl, rfl⟩, fun h => absurd h (by decide)⟩, List.forall_mem_cons.mpr ⟨⟨px_w555, px_w69, ⟨by decide, by decide⟩, by decide +kernel, by decide, Or.inl px_w552, fun h => absurd h (by decide), fun _ => ⟨px_w553, px_w554, _, rfl, rfl⟩, fun h => absurd h (by decide)⟩, List.forall_mem_cons.mpr ⟨⟨px_w452, px_w69, ⟨by decide, by decide⟩, by decide +kernel, by decide, Or.inl px_w556, fun h => absurd h (by decide), fun _ => ⟨px_w450, px_w451, _, rfl, rfl⟩, fun h => absurd h (by decide)⟩, List.forall_mem_cons.mpr ⟨⟨px_w560, px_w67, ⟨by decide, by decide⟩, by decide +kernel, by decide, Or.inl px_w557, fun h => absurd h (by decide), fun _ => ⟨px_w559, px_w17, _, rfl, rfl⟩, fun h => absurd h (by decide)⟩, List.forall_mem_cons.mpr ⟨⟨px_w564, px_w67, ⟨by decide, by decide⟩, by decide +kernel, by decide, Or.inl px_w561, fun h => absurd h (by decide), fun _ => ⟨px_w563, px_w18, _, rfl, rfl⟩, fun h => absurd h (by decide)⟩, List.forall_mem_cons.mpr ⟨⟨px_w568, px_w82, ⟨by decide, by decide⟩, by decide +kernel, by decide, Or.inl px_w565, fun h => absurd h (by decide), fun _ => ⟨px_w566, px_w567, _, rfl, rfl⟩, fun h => absurd h (by decide)⟩, List.forall_mem_cons.mpr ⟨⟨px_w573, px_w67, ⟨by decide, by decide⟩, by decide +kernel, by decide, Or.inl px_w570, fun h => absurd h (by decide), fun _ => ⟨px_w572, px_w19, _, rfl, rfl⟩, fun h => absurd h (by decide)⟩, List.forall_mem_cons.mpr ⟨⟨px_w577, px_w68, ⟨by decide, by decide⟩, by decide +kernel, by decide, Or.inl px_w574, fun h => absurd h (by decide), fun _ => ⟨px_w575, px_w576, _, rfl, rfl⟩, fun h => absurd h (by decide)⟩, List.forall_mem_cons.mpr ⟨⟨px_w581, px_w82, ⟨by decide, by decide⟩, by decide +kernel, by decide, Or.inl px_w578, fun h => absurd h (by decide), fun _ => ⟨px_w579, px_w580, _, rfl, rfl⟩, fun h => absurd h (by decide)⟩, List.forall_mem_cons.mpr ⟨⟨px_w585, px_w68, ⟨by decide, by decide⟩, by decide +kernel, by decide, Or.inl px_w582, fun h => absurd h (by decide), fun _ => ⟨px_w583, px_w584, _, rfl, rfl⟩, fun h => absurd h (by decide)⟩, List.forall_mem_cons.mpr ⟨⟨px_w589, px_w67, ⟨by decide, by decide⟩, by decide +kernel, by decide, Or.inl px_w586, fun h => absurd h (by decide), fun _ => ⟨px_w588, px_w20, _, rfl, rfl⟩, fun h => absurd h (by decide)⟩, List.forall_mem_cons.mpr ⟨⟨px_w593, px_w82, ⟨by decide, by decide⟩, by decide +kernel, by decide, Or.inl px_w590, fun h => absurd h (by decide), fun _ => ⟨px_w591, px_w592, _, rfl, rfl⟩, fun h => absurd h (by decide)⟩, List.forall_mem_cons.mpr ⟨⟨px_w635, px_w67, ⟨by decide, by decide⟩, by decide +kernel, by decide, Or.inl px_w632, fun h => absurd h (by decide), fun _ => ⟨px_w634, px_w23, _, rfl, rfl⟩, fun h => absurd h (by decide)⟩, List.forall_mem_cons.mpr ⟨⟨px_w639, px_w67, ⟨by decide, by decide⟩, by decide +kernel, by decide, Or.inl px_w636, fun h => absurd h (by decide), fun _ => ⟨px_w638, px_w24, _, rfl, rfl⟩, fun h => absurd h (by decide)⟩, List.forall_mem_cons.mpr ⟨⟨px_w643, px_w82, ⟨by decide, by decide⟩, by decide +kernel, by decide, Or.inl px_w640, fun h => absurd h (by decide), fun _ => ⟨px_w641, px_w642, _, rfl, rfl⟩, fun h => absurd h (by decide)⟩, List.forall_mem_cons.mpr ⟨⟨px_w663, px_w68, ⟨by decide, by decide⟩, by decide +kernel, by decide, Or.inl px_w723, fun h => absurd h (by decide), fun _ => ⟨px_w661, px_w662, _, rfl, rfl⟩, fun h => absurd h (by decide)⟩, List.forall_mem_cons.mpr ⟨⟨px_w605, px_w68, ⟨by decide, by decide⟩, by decide +kernel, by decide, Or.inl px_w724, fun h => absurd h (by decide), fun _ => ⟨px_w603, px_w604, _, rfl, rfl⟩, fun h => absurd h (by decide)⟩, List.forall_mem_cons.mpr ⟨⟨px_w728, px_w67, ⟨by decide, by decide⟩, by decide +kernel, by decide, Or.inl px_w725, fun h => absurd h (by decide), fun _ => ⟨px_w727, px_w27, _, rfl, rfl⟩, fun h => absurd h (by decide)⟩, List.forall_mem_cons.mpr ⟨⟨px_w732, px_w67, ⟨by decide, by decide⟩, by decide +kernel, by decide, Or.inl px_w729, fun h => absurd h (by decide), fun _ => ⟨px_w731, px_w28, _, rfl, rfl⟩, fun h => absurd h (by decide)⟩, List.forall_mem_cons.mpr ⟨⟨px_w736, px_w70, ⟨by decide, by decide⟩, by decide +kernel, by decide, Or.inl px_w733, fun h => absurd h (by decide), fun _ => ⟨px_w734, px_w735, _, rfl, rfl⟩, fun h => absurd h (by decide)⟩, List.forall_mem_cons.mpr ⟨⟨px_w772, px_w70, ⟨by decide, by decide⟩, by decide +kernel, by decide, Or.inl px_w769, fun h => absurd h (by decide), fun _ => ⟨px_w770, px_w771, _, rfl, rfl⟩, fun h => absurd h (by decide)⟩, List.forall_mem_cons.mpr ⟨⟨px_w814, px_w82, ⟨by decide, by decide⟩, by decide +kernel, by decide, Or.inl px_w811, fun h => absurd h (by decide), fun _ => ⟨px_w812, px_w813, _, rfl, rfl⟩, fun h => absurd h (by decide)⟩, List.forall_mem_cons.mpr ⟨⟨px_w788, px_w83, ⟨by decide, by decide⟩, by decide +kernel, by decide, Or.inl px_w815, fun h => absurd h (by decide), fun _ => ⟨px_w786, px_w787, _, rfl, rfl⟩, fun h => absurd h (by decide)⟩, List.forall_mem_cons.mpr ⟨⟨px_w818, px_w67, ⟨by decide, by decide⟩, by decide +kernel, by decide, Or.inl px_w816, fun _ => px_w817, fun h => absurd h (by decide), fun h => absurd h (by decide)⟩, List.forall_mem_cons.mpr ⟨⟨px_w822, px_w83, ⟨by decide, by decide⟩, by decide +kernel, by decide, Or.inl px_w819, fun h => absurd h (by decide), fun _ => ⟨px_w820, px_w821, _, rfl, rfl⟩, fun h => absurd h (by decide)⟩, List.forall_mem_cons.mpr ⟨⟨px_w826, px_w83, ⟨by decide, by decide⟩, by decide +kernel, by decide, Or.inl px_w823, fun h => absurd h (by decide), fun _ => ⟨px_w824, px_w825, _, rfl, rfl⟩, fun h => absurd h (by decide)⟩, List.forall_mem_cons.mpr ⟨⟨px_w842, px_w67, ⟨by decide, by decide⟩, by decide +kernel, by decide, Or.inl px_w839, fun h => absurd h (by decide), fun _ => ⟨px_w841, px_w34, _, rfl, rfl⟩, fun h => absurd h (by decide)⟩, List.forall_mem_cons.mpr ⟨⟨px_w846, px_w68, ⟨by decide, by decide⟩, by decide +kernel, by decide, Or.inl px_w843, fun h => absurd h (by decide), fun _ => ⟨px_w844, px_w845, _, rfl, rfl⟩, fun h => absurd h (by decide)⟩, List.forall_mem_cons.mpr ⟨⟨px_w850, px_w70, ⟨by decide, by decide⟩, by decide +kernel, by decide, Or.inl px_w847, fun h => absurd h (by decide), fun _ => ⟨px_w848, px_w849, _, rfl, rfl⟩, fun h => absurd h (by decide)⟩, List.forall_mem_cons.mpr ⟨⟨px_w854, px_w70, ⟨by decide, by decide⟩, by decide +kernel, by decide, Or.inl px_w851, fun h => absurd h (by decide), fun _ => ⟨px_w852, px_w853, _, rfl, rfl⟩, fun h => absurd h (by decide)⟩, List.forall_mem_cons.mpr ⟨⟨px_w858, px_w67, ⟨by decide, by decide⟩, by decide +kernel, by decide, Or.inl px_w855, fun h => absurd h (by decide), fun _ => ⟨px_w857, px_w35, _, rfl, rfl⟩, fun h => absurd h (by decide)⟩, fun _ h => absurd h List.not_mem_nil⟩⟩⟩⟩⟩⟩⟩⟩⟩⟩⟩⟩⟩⟩⟩⟩⟩⟩⟩⟩⟩⟩⟩⟩⟩⟩⟩⟩⟩⟩⟩⟩⟩⟩⟩⟩⟩⟩⟩
theorem px_ca_c9 : ∀ q ∈ px_caL9, px_caP 9 q := List.forall_mem_cons.mpr ⟨⟨px_w97, px_w67, ⟨by decide, by decide⟩, by decide +kernel, by decide, Or.inr ⟨"CheckDaemon", List.mem_append_right _ (List.mem_map.mpr ⟨_, List.mem_of_getElem? (i := 0) rfl, rfl⟩)⟩, fun h => absurd h (by decide), fun h => absurd h (by decide), fun _ => ⟨rfl, px_w96, rfl⟩⟩, List.forall_mem_cons.mpr ⟨⟨px_w187, px_w71, ⟨by decide, by decide⟩, by decide +kernel, by decide, Or.inr ⟨"CheckDaemon", List.mem_append_right _ (List.mem_map.mpr ⟨_, List.mem_of_getElem? (i := 3) rfl, rfl⟩)⟩, fun h => absurd h (by decide), fun h => absurd h (by decide), fun _ => ⟨rfl, px_w186, rfl⟩⟩, List.forall_mem_cons.mpr ⟨⟨px_w227, px_w66, ⟨by decide, by decide⟩, by decide +kernel, by decide, Or.inl px_w225, fun _ => px_w226, fun h => absurd h (by decide), fun h => absurd h (by decide)⟩, List.forall_mem_cons.mpr ⟨⟨px_w298, px_w66, ⟨by decide, by decide⟩, by decide +kernel, by decide, Or.inl px_w295, fun h => absurd h (by decide), fun _ => ⟨px_w297, px_w1, _, rfl, rfl⟩, fun h => absurd h (by decide)⟩, List.forall_mem_cons.mpr ⟨⟨px_w309, px_w66, ⟨by decide, by decide⟩, by decide +kernel, by decide, Or.inl px_w307, fun _ => px_w308, fun h => absurd h (by decide), fun h => absurd h (by decide)⟩, List.forall_mem_cons.mpr ⟨⟨px_w329, px_w66, ⟨by decide, by decide⟩, by decide +kernel, by decide, Or.inl px_w326, fun h => absurd h (by decide), fun _ => ⟨px_w328, px_w2, _, rfl, rfl⟩, fun h => absurd h (by decide)⟩, List.forall_mem_cons.mpr ⟨⟨px_w334, px_w78, ⟨by decide, by decide⟩, by decide +kernel, by decide, Or.inl px_w332, fun h => absurd h (by decide), fun h => absurd h (by decide), fun _ => ⟨rfl, px_w333, rfl⟩⟩, List.forall_mem_cons.mpr ⟨⟨px_w402, px_w78, ⟨by decide, by decide⟩, by decide +kernel, by decide, Or.inl px_w399, fun h => absurd h (by decide), fun _ => ⟨px_w400, px_w401, _, rfl, rfl⟩, fun h => absurd h (by decide)⟩, List.forall_mem_cons.mpr ⟨⟨px_w512, px_w67, ⟨by decide, by decide⟩, by decide +kernel, by decide, Or.inl px_w509, fun h => absurd h (by decide), fun _ => ⟨px_w510, px_w511, _, rfl, rfl⟩, fun h => absurd h (by decide)⟩, List.forall_mem_cons.mpr ⟨⟨px_w516, px_w71, ⟨by decide, by decide⟩, by decide +kernel, by decide, Or.inl px_w513, fun h => absurd h (by decide), fun _ => ⟨px_w514, px_w515, _, rfl, rfl⟩, fun h => absurd h (by decide)⟩, List.forall_mem_cons.mpr ⟨⟨px_w524, px_w67, ⟨by decide, by decide⟩, by decide +kernel, by decide, Or.inl px_w521, fun h => absurd h (by decide), fun _ => ⟨px_w522, px_w523, _, rfl, rfl⟩, fun h => absurd h (by decide)⟩, List.forall_mem_cons.mpr ⟨⟨px_w686, px_w71, ⟨by decide, by decide⟩, by decide +kernel, by decide, Or.inl px_w683, fun h => absurd h (by decide), fun _ => ⟨px_w684, px_w685, _, rfl, rfl⟩, fun h => absurd h (by decide)⟩, List.forall_mem_cons.mpr ⟨⟨px_w697, px_w71, ⟨by decide, by decide⟩, by decide +kernel, by decide, Or.inl px_w694, fun h => absurd h (by decide), fun _ => ⟨px_w695, px_w696, _, rfl, rfl⟩, fun h => absurd h (by decide)⟩, List.forall_mem_cons.mpr ⟨⟨px_w702, px_w71, ⟨by decide, by decide⟩, by decide +kernel, by decide, Or.inl px_w699, fun h => absurd h (by decide), fun _ => ⟨px_w700, px_w701, _, rfl, rfl⟩, fun h => absurd h (by decide)⟩, List.forall_mem_cons.mpr ⟨⟨px_w706, px_w71, ⟨by decide, by decide⟩, by decide +kernel, by decide, Or.inl px_w703, fun h => absurd h (by decide), fun _ => ⟨px_w704, px_w705, _, rfl, rfl⟩, fun h => absurd h (by decide)⟩, List.forall_mem_cons.mpr ⟨⟨px_w710, px_w71, ⟨by decide, by decide⟩, by decide +kernel, by decide, Or.inl px_w707, fun h => absurd h (by decide), fun _ => ⟨px_w708, px_w709, _, rfl, rfl⟩, fun h => absurd h (by decide)⟩, List.forall_mem_cons.mpr ⟨⟨px_w722, px_w67, ⟨by decide, by decide⟩, by decide +kernel, by decide, Or.inl px_w719, fun h => absurd h (by decide), fun _ => ⟨px_w720, px_w721, _, rfl, rfl⟩, fun h => absurd h (by decide)⟩, List.forall_mem_cons.mpr ⟨⟨px_w784, px_w82, ⟨by decide, by decide⟩, by decide +kernel, by decide, Or.inl px_w781, fun h => absurd h (by decide), fun _ => ⟨px_w782, px_w783, _, rfl, rfl⟩, fun h => absurd h (by decide)⟩, List.forall_mem_cons.mpr ⟨⟨px_w810, px_w67, ⟨by decide, by decide⟩, by decide +kernel, by decide, Or.inl px_w807, fun h => absurd h (by decide), fun _ => ⟨px_w808, px_w809, _, rfl, rfl⟩, fun h => absurd h (by decide)⟩, List.forall_mem_cons.mpr ⟨⟨px_w838, px_w67, ⟨by decide, by decide⟩, by decide +kernel, by decide, Or.inl px_w835, fun h => absurd h (by decide), fun _ => ⟨px_w836, px_w837, _, rfl, rfl⟩, fun h => absurd h (by decide)⟩, fun _ h => absurd h List.not_mem_nil⟩⟩⟩⟩⟩⟩⟩⟩⟩⟩⟩⟩⟩⟩⟩⟩⟩⟩⟩⟩
theorem px_ca_c10 : ∀ q ∈ px_caL10, px_caP 10 q := List.forall_mem_cons.mpr ⟨⟨px_w981, px_w72, ⟨by decide, by decide⟩, by decide +kernel, by decide, Or.inl px_w978, fun h => absurd h (by decide), fun _ => ⟨px_w980, px_w36, _, rfl, rfl⟩, fun h => absurd h (by decide)⟩, List.forall_mem_cons.mpr ⟨⟨px_w985, px_w72, ⟨by decide, by decide⟩, by decide +kernel, by decide, Or.inl px_w982, fun h => absurd h (by decide), fun _ => ⟨px_w984, px_w37, _, rfl, rfl⟩, fun h => absurd h (by decide)⟩, List.forall_mem_cons.mpr ⟨⟨px_w996, px_w72, ⟨by decide, by decide⟩, by decide +kernel, by decide, Or.inl px_w994, fun _ => px_w995, fun h => absurd h (by decide), fun h => absurd h (by decide)⟩, List.forall_mem_cons.mpr ⟨⟨px_w1000, px_w72, ⟨by decide, by decide⟩, by decide +kernel, by decide, Or.inl px_w997, fun h => absurd h (by decide), fun _ => ⟨px_w999, px_w38, _, rfl, rfl⟩, fun h => absurd h (by decide)⟩, List.forall_mem_cons.mpr ⟨⟨px_w1004, px_w72, ⟨by decide, by decide⟩, by decide +kernel, by decide, Or.inl px_w1001, fun h => absurd h (by decide), fun _ => ⟨px_w1003, px_w39, _, rfl, rfl⟩, fun h => absurd h (by decide)⟩, List.forall_mem_cons.mpr ⟨⟨px_w1008, px_w72, ⟨by decide, by decide⟩, by decide +kernel, by decide, Or.inl px_w1005, fun h => absurd h (by decide), fun _ => ⟨px_w1007, px_w40, _, rfl, rfl⟩, fun h => absurd h (by decide)⟩, List.forall_mem_cons.mpr ⟨⟨px_w1012, px_w72, ⟨by decide, by decide⟩, by decide +kernel, by decide, Or.inl px_w1009, fun h => absurd h (by decide), fun _ => ⟨px_w1011, px_w41, _, rfl, rfl⟩, fun h => absurd h (by decide)⟩, List.forall_mem_cons.mpr ⟨⟨px_w1016, px_w72, ⟨by decide, by decide⟩, by decide +kernel, by decide, Or.inl px_w1013, fun h => absurd h (by decide), fun _ => ⟨px_w1015, px_w42, _, rfl, rfl⟩, fun h => absurd h (by decide)⟩, List.forall_mem_cons.mpr ⟨⟨px_w1020, px_w72, ⟨by decide, by decide⟩, by decide +kernel, by decide, Or.inl px_w1017, fun h => absurd h (by decide), fun _ => ⟨px_w1019, px_w43, _, rfl, rfl⟩, fun h => absurd h (by decide)⟩, List.forall_mem_cons.mpr ⟨⟨px_w1023, px_w72, ⟨by decide, by decide⟩, by decide +kernel, by decide, Or.inl px_w1021, fun _ => px_w1022, fun h => absurd h (by decide), fun h => absurd h (by decide)⟩, List.forall_mem_cons.mpr ⟨⟨px_w1027, px_w72, ⟨by decide, by decide⟩, by decide +kernel, by decide, Or.inl px_w1024, fun h => absurd h (by decide), fun _ => ⟨px_w1026, px_w44, _, rfl, rfl⟩, fun h => absurd h (by decide)⟩, List.forall_mem_cons.mpr ⟨⟨px_w1030, px_w72, ⟨by decide, by decide⟩, by decide +kernel, by decide, Or.inl px_w1028, fun _ => px_w1029, fun h => absurd h (by decide), fun h => absurd h (by decide)⟩, List.forall_mem_cons.mpr ⟨⟨px_w1034, px_w72, ⟨by decide, by decide⟩, by decide +kernel, by decide, Or.inl px_w1031, fun h => absurd h (by decide), fun _ => ⟨px_w1033, px_w45, _, rfl, rfl⟩, fun h => absurd h (by decide)⟩, List.forall_mem_cons.mpr ⟨⟨px_w1038, px_w72, ⟨by decide, by decide⟩, by decide +kernel, by decide, Or.inl px_w1035, fun h => absurd h (by decide), fun _ => ⟨px_w1037, px_w46, _, rfl, rfl⟩, fun h => absurd h (by decide)⟩, List.forall_mem_cons.mpr ⟨⟨px_w1042, px_w72, ⟨by decide, by decide⟩, by decide +kernel, by decide, Or.inl px_w1039, fun h => absurd h (by decide), fun _ => ⟨px_w1041, px_w47, _, rfl, rfl⟩, fun h => absurd h (by decide)⟩, List.forall_mem_cons.mpr ⟨⟨px_w1046, px_w72, ⟨by decide, by decide⟩, by decide +kernel, by decide, Or.inl px_w1043, fun h => absurd h (by decide), fun _ => ⟨px_w1045, px_w48, _, rfl, rfl⟩, fun h => absurd h (by decide)⟩, List.forall_mem_cons.mpr ⟨⟨px_w1050, px_w72, ⟨by decide, by decide⟩, by decide +kernel, by decide, Or.inl px_w1047, fun h => absurd h (by decide), fun _ => ⟨px_w1049, px_w49, _, rfl, rfl⟩, fun h => absurd h (by decide)⟩, List.forall_mem_cons.mpr ⟨⟨px_w1054, px_w72, ⟨by decide, by decide⟩, by decide +kernel, by decide, Or.inl px_w1051, fun h => absurd h (by decide), fun _ => ⟨px_w1053, px_w50, _, rfl, rfl⟩, fun h => absurd h (by decide)⟩, List.forall_mem_cons.mpr ⟨⟨px_w1058, px_w72, ⟨by decide, by decide⟩, by decide +kernel, by decide, Or.inl px_w1055, fun h => absurd h (by decide), fun _ => ⟨px_w1057, px_w51, _, rfl, rfl⟩, fun h => absurd h (by decide)⟩, List.forall_mem_cons.mpr ⟨⟨px_w1062, px_w72, ⟨by decide, by decide⟩, by decide +kernel, by decide, Or.inl px_w1059, fun h => absurd h (by decide), fun _ => ⟨px_w1061, px_w52, _, rfl, rfl⟩, fun h => absurd h (by decide)⟩, List.forall_mem_cons.mpr ⟨⟨px_w1066, px_w72, ⟨by decide, by decide⟩, by decide +kernel, by decide, Or.inl px_w1063, fun h => absurd h (by decide), fun _ => ⟨px_w1065, px_w53, _, rfl, rfl⟩, fun h => absurd h (by decide)⟩, List.forall_mem_cons.mpr ⟨⟨px_w1070, px_w72, ⟨by decide, by decide⟩, by decide +kernel, by decide, Or.inl px_w1067, fun h => absurd h (by decide), fun _ => ⟨px_w1069, px_w54, _, rfl, rfl⟩, fun h => absurd h (by decide)⟩, List.forall_mem_cons.mpr ⟨⟨px_w1074, px_w72, ⟨by decide, by decide⟩, by decide +kernel, by decide, Or.inl px_w1071, fun h => absurd h (by decide), fun _ => ⟨px_w1073, px_w55, _, rfl, rfl⟩, fun h => absurd h (by decide)⟩, List.forall_mem_cons.mpr ⟨⟨px_w1077, px_w72, ⟨by decide, by decide⟩, by decide +kernel, by decide, Or.inl px_w1075, fun _ => px_w1076, fun h => absurd h (by decide), fun h => absurd h (by decide)⟩, List.forall_mem_cons.mpr ⟨⟨px_w1080, px_w72, ⟨by decide, by decide⟩, by decide +kernel, by decide, Or.inl px_w1078, fun _ => px_w1079, fun h => absurd h (by decide), fun h => absurd h (by decide)⟩, List.forall_mem_cons.mpr ⟨⟨px_w1083, px_w72, ⟨by decide, by decide⟩, by decide +kernel, by decide, Or.inl px_w1081, fun _ => px_w1082, fun h => absurd h (by decide), fun h => absurd h (by decide)⟩, List.forall_mem_cons.mpr ⟨⟨px_w1086, px_w72, ⟨by decide, by decide⟩, by decide +kernel, by decide, Or.inl px_w1084, fun _ => px_w1085, fun h => absurd h (by decide), fun h => absurd h (by decide)⟩, List.forall_mem_cons.mpr ⟨⟨px_w1089, px_w72, ⟨by decide, by decide⟩, by decide +kernel, by decide, Or.inl px_w1087, fun _ => px_w1088, fun h => absurd h (by decide), fun h => absurd h (by decide)⟩, List.forall_mem_cons.mpr ⟨⟨px_w1092, px_w72, ⟨by decide, by decide⟩, by decide +kernel, by decide, Or.inl px_w1090, fun _ => px_w1091, fun h => absurd h (by decide), fun h => absurd h (by decide)⟩, List.forall_mem_cons.mpr ⟨⟨px_w1098, px_w72, ⟨by decide, by decide⟩, by decide +kernel, by decide, Or.inl px_w1095, fun h => absurd h (by decide), fun _ => ⟨px_w1097, px_w56, _, rfl, rfl⟩, fun h => absurd h (by decide)⟩, List.forall_mem_cons.mpr ⟨⟨px_w1102, px_w72, ⟨by decide, by decide⟩, by decide +kernel, by decide, Or.inl px_w1099, fun h => absurd h (by decide), fun _ => ⟨px_w1101, px_w57, _, rfl, rfl⟩, fun h => absurd h (by decide)⟩, List.forall_mem_cons.mpr ⟨⟨px_w1106, px_w72, ⟨by decide, by decide⟩, by decide +kernel, by decide, Or.inl px_w1103, fun h => absurd h (by decide), fun _ => ⟨px_w1105, px_w58, _, rfl, rfl⟩, fun h => absurd h (by decide)⟩, List.forall_mem_cons.mpr ⟨⟨px_w1122, px_w72, ⟨by decide, by decide⟩, by decide +kernel, by decide, Or.inl px_w1119, fun h => absurd h (by decide), fun _ => ⟨px_w1121, px_w59, _, rfl, rfl⟩, fun h => absurd h (by decide)⟩, List.forall_mem_cons.mpr ⟨⟨px_w1126, px_w72, ⟨by decide, by decide⟩, by decide +kernel, by decide, Or.inl px_w1123, fun h => absurd h (by decide), fun _ => ⟨px_w1125, px_w60, _, rfl, rfl⟩, fun h => absurd h (by decide)⟩, List.forall_mem_cons.mpr ⟨⟨px_w1130, px_w72, ⟨by decide, by decide⟩, by decide +kernel, by decide, Or.inl px_w1127, fun h => absurd h (by decide), fun _ => ⟨px_w1129, px_w61, _, rfl, rfl⟩, fun h => absurd h (by decide)⟩, List.forall_mem_cons.mpr ⟨⟨px_w1134, px_w72, ⟨by decide, by decide⟩, by decide +kernel, by decide, Or.inl px_w1131, fun h => absurd h (by decide), fun _ => ⟨px_w1133, px_w62, _, rfl, rfl⟩, fun h => absurd h (by decide)⟩, List.forall_mem_cons.mpr ⟨⟨px_w1142, px_w72, ⟨by decide, by decide⟩, by decide +kernel, by decide, Or.inl px_w1139, fun h => absurd h (by decide), fun _ => ⟨px_w1141, px_w63, _, rfl, rfl⟩, fun h => absurd h (by decide)⟩, List.forall_mem_cons.mpr ⟨⟨px_w1154, px_w72, ⟨by decide, by decide⟩, by decide +kernel, by decide, Or.inl px_w1151, fun h => absurd h (by decide), fun _ => ⟨px_w1153, px_w64, _, rfl, rfl⟩, fun h => absurd h (by decide)⟩, fun _ h => absurd h List.not_mem_nil⟩⟩⟩⟩⟩⟩⟩⟩⟩⟩⟩⟩⟩⟩⟩⟩⟩⟩⟩⟩⟩⟩⟩⟩⟩⟩⟩⟩⟩⟩⟩⟩⟩⟩⟩⟩⟩⟩
theorem px_ca_c11 : ∀ q ∈ px_caL11, px_caP 11 q := List.forall_mem_cons.mpr ⟨⟨px_w615, px_w81, ⟨by decide, by decide⟩, by decide +kernel, by decide, Or.inl px_w613, fun _ => px_w614, fun h => absurd h (by decide), fun h => absurd h (by decide)⟩, List.forall_mem_cons.mpr ⟨⟨px_w631, px_w81, ⟨by decide, by decide⟩, by decide +kernel, by decide, Or.inl px_w629, fun _ => px_w630, fun h => absurd h (by decide), fun h => absurd h (by decide)⟩, fun _ h => absurd h List.not_mem_nil⟩⟩
theorem px_ca_all {cn : Nat} : ∀ q ∈ px_caT.getD cn [], px_caP cn q := by
  rcases Nat.lt_or_ge cn 14 with h | h
  · match cn, h with
    | 0, _ => exact px_ca_c0
    | 1, _ => exact px_ca_c1
    | 2, _ => exact px_ca_c2
    | 3, _ => exact px_ca_c3
    | 4, _ => exact px_ca_c4
    | 5, _ => exact px_ca_c5
    | 6, _ => exact px_ca_c6
    | 7, _ => exact px_ca_c7
    | 8, _ => exact px_ca_c8
    | 9, _ => exact px_ca_c9
    | 10, _ => exact px_ca_c10
    | 11, _ => exact px_ca_c11
    | 12, _ => exact fun _ h => absurd h List.not_mem_nil
    | 13, _ => exact fun _ h => absurd h List.not_mem_nil
  · intro q hq
    rw [List.getD_eq_getElem?_getD, List.getElem?_eq_none (by show 14 ≤ cn; exact h)] at hq
    exact absurd hq List.not_mem_nil
def px_ncP (cn : Nat) (q : Nat × Nat) : Prop := ∃ r : vw_C, px_CF q.2 r ∧ Cond.classLink (px_on cn) q.1 r.1 ∈ px_tbl ∧ Cond.instantiable r.1 r.2.2 ∈ px_tbl ∧ Cond.initialized r.1 ∈ px_tbl
theorem px_nc_c0 : ∀ q ∈ px_ncL0, px_ncP 0 q := List.forall_mem_cons.mpr ⟨⟨_, px_CF6, px_w133, px_w116, px_w69⟩, fun _ h => absurd h List.not_mem_nil⟩
theorem px_nc_c1 : ∀ q ∈ px_ncL1, px_ncP 1 q := List.forall_mem_cons.mpr ⟨⟨_, px_CF6, px_w348, px_w116, px_w69⟩, fun _ h => absurd h List.not_mem_nil⟩
theorem px_nc_c4 : ∀ q ∈ px_ncL4, px_ncP 4 q := List.forall_mem_cons.mpr ⟨⟨_, px_CF2, px_w466, px_w467, px_w83⟩, List.forall_mem_cons.mpr ⟨⟨_, px_CF1, px_w507, px_w343, px_w80⟩, fun _ h => absurd h List.not_mem_nil⟩⟩
theorem px_nc_c5 : ∀ q ∈ px_ncL5, px_ncP 5 q := List.forall_mem_cons.mpr ⟨⟨_, px_CF1, px_w342, px_w343, px_w80⟩, List.forall_mem_cons.mpr ⟨⟨_, px_CF4, px_w460, px_w461, px_w82⟩, fun _ h => absurd h List.not_mem_nil⟩⟩
theorem px_nc_c8 : ∀ q ∈ px_ncL8, px_ncP 8 q := List.forall_mem_cons.mpr ⟨⟨_, px_CF7, px_w101, px_w102, px_w68⟩, List.forall_mem_cons.mpr ⟨⟨_, px_CF6, px_w115, px_w116, px_w69⟩, List.forall_mem_cons.mpr ⟨⟨_, px_CF0, px_w127, px_w128, px_w70⟩, fun _ h => absurd h List.not_mem_nil⟩⟩⟩
theorem px_nc_c9 : ∀ q ∈ px_ncL9, px_ncP 9 q := List.forall_mem_cons.mpr ⟨⟨_, px_CF8, px_w93, px_w94, px_w67⟩, List.forall_mem_cons.mpr ⟨⟨_, px_CF3, px_w183, px_w184, px_w71⟩, List.forall_mem_cons.mpr ⟨⟨_, px_CF5, px_w330, px_w331, px_w78⟩, fun _ h => absurd h List.not_mem_nil⟩⟩⟩
theorem px_nc_all {cn : Nat} : ∀ q ∈ px_ncT.getD cn [], px_ncP cn q := by
  rcases Nat.lt_or_ge cn 14 with h | h
  · match cn, h with
    | 0, _ => exact px_nc_c0
    | 1, _ => exact px_nc_c1
    | 2, _ => exact fun _ h => absurd h List.not_mem_nil
    | 3, _ => exact fun _ h => absurd h List.not_mem_nil
    | 4, _ => exact px_nc_c4
    | 5, _ => exact px_nc_c5
    | 6, _ => exact fun _ h => absurd h List.not_mem_nil
    | 7, _ => exact fun _ h => absurd h List.not_mem_nil
    | 8, _ => exact px_nc_c8
    | 9, _ => exact px_nc_c9
    | 10, _ => exact fun _ h => absurd h List.not_mem_nil
    | 11, _ => exact fun _ h => absurd h List.not_mem_nil
    | 12, _ => exact fun _ h => absurd h List.not_mem_nil
    | 13, _ => exact fun _ h => absurd h List.not_mem_nil
  · intro q hq
    rw [List.getD_eq_getElem?_getD, List.getElem?_eq_none (by show 14 ≤ cn; exact h)] at hq
    exact absurd hq List.not_mem_nil
def px_anP (cn : Nat) (q : Nat × Nat) : Prop := ∃ C, q.2 < px_nty ∧ px_ty q.2 = .object C ∧ Cond.classLink (px_on cn) q.1 C ∈ px_tbl
theorem px_an_c0 : ∀ q ∈ px_anL0, px_anP 0 q := List.forall_mem_cons.mpr ⟨⟨_, by decide, rfl, px_w133⟩, fun _ h => absurd h List.not_mem_nil⟩
theorem px_an_c3 : ∀ q ∈ px_anL3, px_anP 3 q := List.forall_mem_cons.mpr ⟨⟨_, by decide, rfl, px_w189⟩, fun _ h => absurd h List.not_mem_nil⟩
theorem px_an_c8 : ∀ q ∈ px_anL8, px_anP 8 q := List.forall_mem_cons.mpr ⟨⟨_, by decide, rfl, px_w99⟩, fun _ h => absurd h List.not_mem_nil⟩
theorem px_an_all {cn : Nat} : ∀ q ∈ px_anT.getD cn [], px_anP cn q := by
  rcases Nat.lt_or_ge cn 14 with h | h
  · match cn, h with
    | 0, _ => exact px_an_c0
    | 1, _ => exact fun _ h => absurd h List.not_mem_nil
    | 2, _ => exact fun _ h => absurd h List.not_mem_nil
    | 3, _ => exact px_an_c3
    | 4, _ => exact fun _ h => absurd h List.not_mem_nil
    | 5, _ => exact fun _ h => absurd h List.not_mem_nil
    | 6, _ => exact fun _ h => absurd h List.not_mem_nil
    | 7, _ => exact fun _ h => absurd h List.not_mem_nil
    | 8, _ => exact px_an_c8
    | 9, _ => exact fun _ h => absurd h List.not_mem_nil
    | 10, _ => exact fun _ h => absurd h List.not_mem_nil
    | 11, _ => exact fun _ h => absurd h List.not_mem_nil
    | 12, _ => exact fun _ h => absurd h List.not_mem_nil
    | 13, _ => exact fun _ h => absurd h List.not_mem_nil
  · intro q hq
    rw [List.getD_eq_getElem?_getD, List.getElem?_eq_none (by show 14 ≤ cn; exact h)] at hq
    exact absurd hq List.not_mem_nil
def px_kcP (cn : Nat) (q : Nat × Int32) : Prop := Cond.constant (px_on cn) q.1 q.2 ∈ px_tbl
theorem px_kc_c10 : ∀ q ∈ px_kcL10, px_kcP 10 q := List.forall_mem_cons.mpr ⟨px_w865, List.forall_mem_cons.mpr ⟨px_w1093, List.forall_mem_cons.mpr ⟨px_w1094, fun _ h => absurd h List.not_mem_nil⟩⟩⟩
theorem px_kc_c11 : ∀ q ∈ px_kcL11, px_kcP 11 q := List.forall_mem_cons.mpr ⟨px_w616, fun _ h => absurd h List.not_mem_nil⟩
theorem px_kc_all {cn : Nat} : ∀ q ∈ px_kcT.getD cn [], px_kcP cn q := by
  rcases Nat.lt_or_ge cn 14 with h | h
  · match cn, h with
    | 0, _ => exact fun _ h => absurd h List.not_mem_nil
    | 1, _ => exact fun _ h => absurd h List.not_mem_nil
    | 2, _ => exact fun _ h => absurd h List.not_mem_nil
    | 3, _ => exact fun _ h => absurd h List.not_mem_nil
    | 4, _ => exact fun _ h => absurd h List.not_mem_nil
    | 5, _ => exact fun _ h => absurd h List.not_mem_nil
    | 6, _ => exact fun _ h => absurd h List.not_mem_nil
    | 7, _ => exact fun _ h => absurd h List.not_mem_nil
    | 8, _ => exact fun _ h => absurd h List.not_mem_nil
    | 9, _ => exact fun _ h => absurd h List.not_mem_nil
    | 10, _ => exact px_kc_c10
    | 11, _ => exact px_kc_c11
    | 12, _ => exact fun _ h => absurd h List.not_mem_nil
    | 13, _ => exact fun _ h => absurd h List.not_mem_nil
  · intro q hq
    rw [List.getD_eq_getElem?_getD, List.getElem?_eq_none (by show 14 ≤ cn; exact h)] at hq
    exact absurd hq List.not_mem_nil
def px_klP (cn : Nat) (q : Nat × Int64) : Prop := Cond.constantLong (px_on cn) q.1 q.2 ∈ px_tbl
theorem px_kl_c12 : ∀ q ∈ px_klL12, px_klP 12 q := List.forall_mem_cons.mpr ⟨px_w796, List.forall_mem_cons.mpr ⟨px_w797, List.forall_mem_cons.mpr ⟨px_w798, fun _ h => absurd h List.not_mem_nil⟩⟩⟩
theorem px_kl_all {cn : Nat} : ∀ q ∈ px_klT.getD cn [], px_klP cn q := by
  rcases Nat.lt_or_ge cn 14 with h | h
  · match cn, h with
    | 0, _ => exact fun _ h => absurd h List.not_mem_nil
    | 1, _ => exact fun _ h => absurd h List.not_mem_nil
    | 2, _ => exact fun _ h => absurd h List.not_mem_nil
    | 3, _ => exact fun _ h => absurd h List.not_mem_nil
    | 4, _ => exact fun _ h => absurd h List.not_mem_nil
    | 5, _ => exact fun _ h => absurd h List.not_mem_nil
    | 6, _ => exact fun _ h => absurd h List.not_mem_nil
    | 7, _ => exact fun _ h => absurd h List.not_mem_nil
    | 8, _ => exact fun _ h => absurd h List.not_mem_nil
    | 9, _ => exact fun _ h => absurd h List.not_mem_nil
    | 10, _ => exact fun _ h => absurd h List.not_mem_nil
    | 11, _ => exact fun _ h => absurd h List.not_mem_nil
    | 12, _ => exact px_kl_c12
    | 13, _ => exact fun _ h => absurd h List.not_mem_nil
  · intro q hq
    rw [List.getD_eq_getElem?_getD, List.getElem?_eq_none (by show 14 ≤ cn; exact h)] at hq
    exact absurd hq List.not_mem_nil
def px_obP (cn : Nat) (q : Nat × Bool) : Prop := Cond.methodLink (px_on cn) q.1 Lib.objectInit ∈ px_tbl
theorem px_ob_c0 : ∀ q ∈ px_obL0, px_obP 0 q := List.forall_mem_cons.mpr ⟨px_w132, fun _ h => absurd h List.not_mem_nil⟩
theorem px_ob_c1 : ∀ q ∈ px_obL1, px_obP 1 q := List.forall_mem_cons.mpr ⟨px_w347, fun _ h => absurd h List.not_mem_nil⟩
theorem px_ob_c2 : ∀ q ∈ px_obL2, px_obP 2 q := List.forall_mem_cons.mpr ⟨px_w471, fun _ h => absurd h List.not_mem_nil⟩
theorem px_ob_c3 : ∀ q ∈ px_obL3, px_obP 3 q := List.forall_mem_cons.mpr ⟨px_w188, fun _ h => absurd h List.not_mem_nil⟩
theorem px_ob_c4 : ∀ q ∈ px_obL4, px_obP 4 q := List.forall_mem_cons.mpr ⟨px_w465, fun _ h => absurd h List.not_mem_nil⟩
theorem px_ob_c5 : ∀ q ∈ px_obL5, px_obP 5 q := List.forall_mem_cons.mpr ⟨px_w335, fun _ h => absurd h List.not_mem_nil⟩
theorem px_ob_c6 : ∀ q ∈ px_obL6, px_obP 6 q := List.forall_mem_cons.mpr ⟨px_w120, fun _ h => absurd h List.not_mem_nil⟩
theorem px_ob_c7 : ∀ q ∈ px_obL7, px_obP 7 q := List.forall_mem_cons.mpr ⟨px_w106, fun _ h => absurd h List.not_mem_nil⟩
theorem px_ob_c8 : ∀ q ∈ px_obL8, px_obP 8 q := List.forall_mem_cons.mpr ⟨px_w98, fun _ h => absurd h List.not_mem_nil⟩
theorem px_ob_c9 : ∀ q ∈ px_obL9, px_obP 9 q := List.forall_mem_cons.mpr ⟨px_w90, fun _ h => absurd h List.not_mem_nil⟩
theorem px_ob_c10 : ∀ q ∈ px_obL10, px_obP 10 q := List.forall_mem_cons.mpr ⟨px_w864, fun _ h => absurd h List.not_mem_nil⟩
theorem px_ob_all {cn : Nat} : ∀ q ∈ px_obT.getD cn [], px_obP cn q := by
  rcases Nat.lt_or_ge cn 14 with h | h
  · match cn, h with
    | 0, _ => exact px_ob_c0
    | 1, _ => exact px_ob_c1
    | 2, _ => exact px_ob_c2
    | 3, _ => exact px_ob_c3
    | 4, _ => exact px_ob_c4
    | 5, _ => exact px_ob_c5
    | 6, _ => exact px_ob_c6
    | 7, _ => exact px_ob_c7
    | 8, _ => exact px_ob_c8
    | 9, _ => exact px_ob_c9
    | 10, _ => exact px_ob_c10
    | 11, _ => exact fun _ h => absurd h List.not_mem_nil
    | 12, _ => exact fun _ h => absurd h List.not_mem_nil
    | 13, _ => exact fun _ h => absurd h List.not_mem_nil
  · intro q hq
    rw [List.getD_eq_getElem?_getD, List.getElem?_eq_none (by show 14 ≤ cn; exact h)] at hq
    exact absurd hq List.not_mem_nil
theorem px_oiI : Cond.instanceMethod Lib.objectInit ∈ px_tbl := px_w91
theorem px_oiC : Cond.code Lib.objectInit ⟨#[0xb1]⟩ 1 none ∈ px_tbl := px_w92
theorem px_acI : Cond.arrayClass .int ∈ px_tbl := px_w114
theorem px_acL : Cond.arrayClass .long ∈ px_tbl := px_w126
theorem px_acZ : Cond.arrayClass .boolean ∈ px_tbl := px_w125
theorem px_acC : Cond.arrayClass .char ∈ px_tbl := px_w969
