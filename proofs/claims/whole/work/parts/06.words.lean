set_option maxRecDepth 100000 in
theorem kw_0 : Cond.constantLong "java/lang/Long" 314 6148914691236517205 ∈ tlG := tl_at 377 rfl rfl
set_option maxRecDepth 100000 in
theorem kw_1 : Cond.constantLong "java/lang/Long" 316 3689348814741910323 ∈ tlG := tl_at 378 rfl rfl
set_option maxRecDepth 100000 in
theorem kw_2 : Cond.constantLong "java/lang/Long" 318 1085102592571150095 ∈ tlG := tl_at 379 rfl rfl
set_option maxRecDepth 100000 in
theorem kw_3 : Cond.fieldLink "LeastPaths$Graph" 30 "LeastPaths$Graph" "nodes" "I" ∈ tlG := tl_at 60 rfl rfl
set_option maxRecDepth 100000 in
theorem kw_4 : Cond.fieldLink "LeastPaths$Graph" 34 "LeastPaths$Graph" "arcs" "I" ∈ tlG := tl_at 66 rfl rfl
set_option maxRecDepth 100000 in
theorem kw_5 : Cond.fieldLink "LeastPaths$Graph" 37 "LeastPaths$Graph" "live" "J" ∈ tlG := tl_at 72 rfl rfl
set_option maxRecDepth 100000 in
theorem kw_6 : Cond.fieldLink "LeastPaths$Graph" 27 "LeastPaths$Graph" "rest" "[I" ∈ tlG := tl_at 57 rfl rfl
set_option maxRecDepth 100000 in
theorem kw_7 : Cond.fieldLink "LeastPaths$Graph" 9 "LeastPaths$Graph" "from" "[I" ∈ tlG := tl_at 34 rfl rfl
set_option maxRecDepth 100000 in
theorem kw_8 : Cond.fieldLink "LeastPaths$Graph" 15 "LeastPaths$Graph" "to" "[I" ∈ tlG := tl_at 40 rfl rfl
set_option maxRecDepth 100000 in
theorem kw_9 : Cond.fieldLink "LeastPaths$Graph" 18 "LeastPaths$Graph" "weight" "[I" ∈ tlG := tl_at 46 rfl rfl
set_option maxRecDepth 100000 in
theorem kw_10 : Cond.fieldLink "LeastPaths$Graph" 21 "LeastPaths$Graph" "above" "[I" ∈ tlG := tl_at 51 rfl rfl
set_option maxRecDepth 100000 in
theorem kw_11 : Cond.fieldLink "LeastPaths$Graph" 24 "LeastPaths$Graph" "below" "[I" ∈ tlG := tl_at 54 rfl rfl
set_option maxRecDepth 100000 in
theorem kw_12 : Cond.methodLink "LeastPaths$Graph" 41 ⟨"LeastPaths$Graph", "hasArc", "(I)Z"⟩ ∈ tlG := tl_at 515 rfl rfl
set_option maxRecDepth 100000 in
theorem kw_13 : Cond.instanceMethod ⟨"LeastPaths$Graph", "hasArc", "(I)Z"⟩ ∈ tlG := tl_at 366 rfl rfl
set_option maxRecDepth 100000 in
theorem kw_14 : Cond.selects "LeastPaths$Graph" ⟨"LeastPaths$Graph", "hasArc", "(I)Z"⟩ ⟨"LeastPaths$Graph", "hasArc", "(I)Z"⟩ ∈ tlG := tl_at 367 rfl rfl
set_option maxRecDepth 100000 in
theorem kw_15 : Cond.initialized "LeastPaths$Graph" ∈ tlG := tl_at 3 rfl rfl
set_option maxRecDepth 100000 in
theorem kw_16 : Cond.code ⟨"LeastPaths$Graph", "hasArc", "(I)Z"⟩ prog_3_method_3_code 2 (Option.some Jvm.ClassFile.FieldType.boolean) ∈ tlG := tl_at 368 rfl rfl
set_option maxRecDepth 100000 in
theorem kw_17 : Cond.fieldLink "LeastPaths$Waiting" 32 "LeastPaths$Waiting" "size" "I" ∈ tlG := tl_at 115 rfl rfl
set_option maxRecDepth 100000 in
theorem kw_18 : Cond.fieldLink "LeastPaths$Waiting" 15 "LeastPaths$Waiting" "placeOf" "[I" ∈ tlG := tl_at 113 rfl rfl
set_option maxRecDepth 100000 in
theorem kw_19 : Cond.fieldLink "LeastPaths$Waiting" 9 "LeastPaths$Waiting" "nodeAt" "[I" ∈ tlG := tl_at 112 rfl rfl
set_option maxRecDepth 100000 in
theorem kw_20 : Cond.fieldLink "LeastPaths$Waiting" 18 "LeastPaths$Waiting" "rankOf" "[J" ∈ tlG := tl_at 114 rfl rfl
set_option maxRecDepth 100000 in
theorem kw_21 : Cond.constantLong "LeastPaths$Waiting" 35 10 ∈ tlG := tl_at 420 rfl rfl
set_option maxRecDepth 100000 in
theorem kw_22 : Cond.fieldLink "LeastPaths$Waiting" 28 "LeastPaths$Waiting" "children" "I" ∈ tlG := tl_at 111 rfl rfl
set_option maxRecDepth 100000 in
theorem kw_23 : Cond.methodLink "LeastPaths$Waiting" 37 ⟨"LeastPaths$Waiting", "seat", "(II)V"⟩ ∈ tlG := tl_at 421 rfl rfl
set_option maxRecDepth 100000 in
theorem kw_24 : Cond.instanceMethod ⟨"LeastPaths$Waiting", "seat", "(II)V"⟩ ∈ tlG := tl_at 423 rfl rfl
set_option maxRecDepth 100000 in
theorem kw_25 : Cond.selects "LeastPaths$Waiting" ⟨"LeastPaths$Waiting", "seat", "(II)V"⟩ ⟨"LeastPaths$Waiting", "seat", "(II)V"⟩ ∈ tlG := tl_sel 4 rfl
set_option maxRecDepth 100000 in
theorem kw_26 : Cond.initialized "LeastPaths$Waiting" ∈ tlG := tl_at 5 rfl rfl
set_option maxRecDepth 100000 in
theorem kw_27 : Cond.code ⟨"LeastPaths$Waiting", "seat", "(II)V"⟩ prog_8_method_7_code 3 (Option.none : Option Jvm.ClassFile.FieldType) ∈ tlG := tl_at 424 rfl rfl
set_option maxRecDepth 100000 in
theorem kw_28 : Cond.methodLink "LeastPaths$Waiting" 41 ⟨"LeastPaths$Waiting", "firstChild", "(I)I"⟩ ∈ tlG := tl_at 445 rfl rfl
set_option maxRecDepth 100000 in
theorem kw_29 : Cond.instanceMethod ⟨"LeastPaths$Waiting", "firstChild", "(I)I"⟩ ∈ tlG := tl_at 447 rfl rfl
set_option maxRecDepth 100000 in
theorem kw_30 : Cond.selects "LeastPaths$Waiting" ⟨"LeastPaths$Waiting", "firstChild", "(I)I"⟩ ⟨"LeastPaths$Waiting", "firstChild", "(I)I"⟩ ∈ tlG := tl_sel 5 rfl
set_option maxRecDepth 100000 in
theorem kw_31 : Cond.code ⟨"LeastPaths$Waiting", "firstChild", "(I)I"⟩ prog_8_method_8_code 5 (Option.some Jvm.ClassFile.FieldType.int) ∈ tlG := tl_at 448 rfl rfl
set_option maxRecDepth 100000 in
theorem kw_32 : Cond.fieldLink "LeastPaths$Way" 15 "LeastPaths$Way" "count" "I" ∈ tlG := tl_at 202 rfl rfl
set_option maxRecDepth 100000 in
theorem kw_33 : Cond.fieldLink "LeastPaths$Way" 19 "LeastPaths$Way" "number" "I" ∈ tlG := tl_at 206 rfl rfl
set_option maxRecDepth 100000 in
theorem kw_34 : Cond.fieldLink "LeastPaths$Way" 22 "LeastPaths$Way" "split" "I" ∈ tlG := tl_at 209 rfl rfl
set_option maxRecDepth 100000 in
theorem kw_35 : Cond.fieldLink "LeastPaths$Way" 25 "LeastPaths$Way" "barred" "J" ∈ tlG := tl_at 211 rfl rfl
set_option maxRecDepth 100000 in
theorem kw_36 : Cond.fieldLink "LeastPaths$Way" 9 "LeastPaths$Way" "arcs" "[I" ∈ tlG := tl_at 200 rfl rfl
set_option maxRecDepth 100000 in
theorem kw_37 : Cond.fieldLink "LeastPaths$Search" 34 "LeastPaths$Search" "waiting" "LLeastPaths$Waiting;" ∈ tlG := tl_at 130 rfl rfl
set_option maxRecDepth 100000 in
theorem kw_38 : Cond.methodLink "LeastPaths$Search" 55 ⟨"LeastPaths$Waiting", "empty", "()V"⟩ ∈ tlG := tl_at 408 rfl rfl
set_option maxRecDepth 100000 in
theorem kw_39 : Cond.instanceMethod ⟨"LeastPaths$Waiting", "empty", "()V"⟩ ∈ tlG := tl_at 409 rfl rfl
set_option maxRecDepth 100000 in
theorem kw_40 : Cond.selects "LeastPaths$Waiting" ⟨"LeastPaths$Waiting", "empty", "()V"⟩ ⟨"LeastPaths$Waiting", "empty", "()V"⟩ ∈ tlG := tl_at 410 rfl rfl
set_option maxRecDepth 100000 in
theorem kw_41 : Cond.code ⟨"LeastPaths$Waiting", "empty", "()V"⟩ prog_8_method_2_code 2 (Option.none : Option Jvm.ClassFile.FieldType) ∈ tlG := tl_at 411 rfl rfl
set_option maxRecDepth 100000 in
theorem kw_42 : Cond.fieldLink "LeastPaths$Search" 58 "LeastPaths$Search" "settled" "I" ∈ tlG := tl_at 137 rfl rfl
set_option maxRecDepth 100000 in
theorem kw_43 : Cond.fieldLink "LeastPaths$Search" 61 "LeastPaths$Search" "known" "I" ∈ tlG := tl_at 139 rfl rfl
set_option maxRecDepth 100000 in
theorem kw_44 : Cond.fieldLink "LeastPaths$Search" 64 "LeastPaths$Search" "closed" "I" ∈ tlG := tl_at 141 rfl rfl
set_option maxRecDepth 100000 in
theorem kw_45 : Cond.fieldLink "LeastPaths$Search" 67 "LeastPaths$Search" "open" "J" ∈ tlG := tl_at 142 rfl rfl
set_option maxRecDepth 100000 in
theorem kw_46 : Cond.fieldLink "LeastPaths$Search" 21 "LeastPaths$Search" "graph" "LLeastPaths$Graph;" ∈ tlG := tl_at 128 rfl rfl
set_option maxRecDepth 100000 in
theorem kw_47 : Cond.fieldLink "LeastPaths$Search" 38 "LeastPaths$Graph" "live" "J" ∈ tlG := tl_at 70 rfl rfl
set_option maxRecDepth 100000 in
theorem kw_48 : Cond.methodLink "LeastPaths$Search" 44 ⟨"LeastPaths$Search", "begin", "(JI)V"⟩ ∈ tlG := tl_at 404 rfl rfl
set_option maxRecDepth 100000 in
theorem kw_49 : Cond.instanceMethod ⟨"LeastPaths$Search", "begin", "(JI)V"⟩ ∈ tlG := tl_at 406 rfl rfl
set_option maxRecDepth 100000 in
theorem kw_50 : Cond.selects "LeastPaths$Search" ⟨"LeastPaths$Search", "begin", "(JI)V"⟩ ⟨"LeastPaths$Search", "begin", "(JI)V"⟩ ∈ tlG := tl_sel 3 rfl
set_option maxRecDepth 100000 in
theorem kw_51 : Cond.initialized "LeastPaths$Search" ∈ tlG := tl_at 4 rfl rfl
set_option maxRecDepth 100000 in
theorem kw_52 : Cond.code ⟨"LeastPaths$Search", "begin", "(JI)V"⟩ prog_6_method_4_code 4 (Option.none : Option Jvm.ClassFile.FieldType) ∈ tlG := tl_at 407 rfl rfl
set_option maxRecDepth 100000 in
theorem kw_53 : Cond.fieldLink "LeastPaths$Search" 48 "LeastPaths$Search" "perArc" "I" ∈ tlG := tl_at 143 rfl rfl
set_option maxRecDepth 100000 in
theorem kw_54 : Cond.fieldLink "LeastPaths$Search" 52 "LeastPaths$Search" "byRests" "Z" ∈ tlG := tl_at 144 rfl rfl
set_option maxRecDepth 100000 in
theorem kw_55 : Cond.methodLink "LeastPaths$Search" 70 ⟨"LeastPaths$Waiting", "isEmpty", "()Z"⟩ ∈ tlG := tl_at 433 rfl rfl
set_option maxRecDepth 100000 in
theorem kw_56 : Cond.instanceMethod ⟨"LeastPaths$Waiting", "isEmpty", "()Z"⟩ ∈ tlG := tl_at 434 rfl rfl
set_option maxRecDepth 100000 in
theorem kw_57 : Cond.selects "LeastPaths$Waiting" ⟨"LeastPaths$Waiting", "isEmpty", "()Z"⟩ ⟨"LeastPaths$Waiting", "isEmpty", "()Z"⟩ ∈ tlG := tl_at 435 rfl rfl
set_option maxRecDepth 100000 in
theorem kw_58 : Cond.code ⟨"LeastPaths$Waiting", "isEmpty", "()Z"⟩ prog_8_method_3_code 1 (Option.some Jvm.ClassFile.FieldType.boolean) ∈ tlG := tl_at 436 rfl rfl
set_option maxRecDepth 100000 in
theorem kw_59 : Cond.methodLink "LeastPaths$Search" 74 ⟨"LeastPaths$Waiting", "first", "()I"⟩ ∈ tlG := tl_at 558 rfl rfl
set_option maxRecDepth 100000 in
theorem kw_60 : Cond.instanceMethod ⟨"LeastPaths$Waiting", "first", "()I"⟩ ∈ tlG := tl_at 559 rfl rfl
set_option maxRecDepth 100000 in
theorem kw_61 : Cond.selects "LeastPaths$Waiting" ⟨"LeastPaths$Waiting", "first", "()I"⟩ ⟨"LeastPaths$Waiting", "first", "()I"⟩ ∈ tlG := tl_at 560 rfl rfl
set_option maxRecDepth 100000 in
theorem kw_62 : Cond.code ⟨"LeastPaths$Waiting", "first", "()I"⟩ prog_8_method_4_code 1 (Option.some Jvm.ClassFile.FieldType.int) ∈ tlG := tl_at 561 rfl rfl
set_option maxRecDepth 100000 in
theorem kw_63 : Cond.fieldLink "LeastPaths$Search" 9 "LeastPaths$Search" "number" "[I" ∈ tlG := tl_at 131 rfl rfl
set_option maxRecDepth 100000 in
theorem kw_64 : Cond.constant "LeastPaths$Search" 78 2147483647 ∈ tlG := tl_at 562 rfl rfl
set_option maxRecDepth 100000 in
theorem kw_65 : Cond.methodLink "LeastPaths$Search" 82 ⟨"LeastPaths$Waiting", "put", "(II)V"⟩ ∈ tlG := tl_at 416 rfl rfl
set_option maxRecDepth 100000 in
theorem kw_66 : Cond.instanceMethod ⟨"LeastPaths$Waiting", "put", "(II)V"⟩ ∈ tlG := tl_at 417 rfl rfl
set_option maxRecDepth 100000 in
theorem kw_67 : Cond.selects "LeastPaths$Waiting" ⟨"LeastPaths$Waiting", "put", "(II)V"⟩ ⟨"LeastPaths$Waiting", "put", "(II)V"⟩ ∈ tlG := tl_at 418 rfl rfl
set_option maxRecDepth 100000 in
theorem kw_68 : Cond.code ⟨"LeastPaths$Waiting", "put", "(II)V"⟩ prog_8_method_5_code 6 (Option.none : Option Jvm.ClassFile.FieldType) ∈ tlG := tl_at 419 rfl rfl
set_option maxRecDepth 100000 in
theorem kw_69 : Cond.fieldLink "LeastPaths$Search" 79 "LeastPaths$Graph" "rest" "[I" ∈ tlG := tl_at 59 rfl rfl
set_option maxRecDepth 100000 in
theorem kw_70 : Cond.fieldLink "LeastPaths$Search" 25 "LeastPaths$Search" "against" "Z" ∈ tlG := tl_at 129 rfl rfl
set_option maxRecDepth 100000 in
theorem kw_71 : Cond.fieldLink "LeastPaths$Search" 140 "LeastPaths$Graph" "from" "[I" ∈ tlG := tl_at 38 rfl rfl
set_option maxRecDepth 100000 in
theorem kw_72 : Cond.fieldLink "LeastPaths$Search" 137 "LeastPaths$Graph" "to" "[I" ∈ tlG := tl_at 45 rfl rfl
set_option maxRecDepth 100000 in
theorem kw_73 : Cond.fieldLink "LeastPaths$Search" 129 "LeastPaths$Graph" "weight" "[I" ∈ tlG := tl_at 50 rfl rfl
set_option maxRecDepth 100000 in
theorem kw_74 : Cond.methodLink "LeastPaths$Search" 86 ⟨"LeastPaths$Waiting", "takeFirst", "()I"⟩ ∈ tlG := tl_at 441 rfl rfl
set_option maxRecDepth 100000 in
theorem kw_75 : Cond.instanceMethod ⟨"LeastPaths$Waiting", "takeFirst", "()I"⟩ ∈ tlG := tl_at 442 rfl rfl
set_option maxRecDepth 100000 in
theorem kw_76 : Cond.selects "LeastPaths$Waiting" ⟨"LeastPaths$Waiting", "takeFirst", "()I"⟩ ⟨"LeastPaths$Waiting", "takeFirst", "()I"⟩ ∈ tlG := tl_at 443 rfl rfl
set_option maxRecDepth 100000 in
theorem kw_77 : Cond.code ⟨"LeastPaths$Waiting", "takeFirst", "()I"⟩ prog_8_method_6_code 6 (Option.some Jvm.ClassFile.FieldType.int) ∈ tlG := tl_at 444 rfl rfl
set_option maxRecDepth 100000 in
theorem kw_78 : Cond.fieldLink "LeastPaths$Search" 15 "LeastPaths$Search" "order" "[I" ∈ tlG := tl_at 135 rfl rfl
set_option maxRecDepth 100000 in
theorem kw_79 : Cond.fieldLink "LeastPaths$Search" 89 "LeastPaths$Graph" "arcs" "I" ∈ tlG := tl_at 69 rfl rfl
set_option maxRecDepth 100000 in
theorem kw_80 : Cond.methodLink "LeastPaths$Search" 92 ⟨"LeastPaths$Search", "startOf", "(I)I"⟩ ∈ tlG := tl_at 449 rfl rfl
set_option maxRecDepth 100000 in
theorem kw_81 : Cond.instanceMethod ⟨"LeastPaths$Search", "startOf", "(I)I"⟩ ∈ tlG := tl_at 451 rfl rfl
set_option maxRecDepth 100000 in
theorem kw_82 : Cond.selects "LeastPaths$Search" ⟨"LeastPaths$Search", "startOf", "(I)I"⟩ ⟨"LeastPaths$Search", "startOf", "(I)I"⟩ ∈ tlG := tl_sel 6 rfl
set_option maxRecDepth 100000 in
theorem kw_83 : Cond.code ⟨"LeastPaths$Search", "startOf", "(I)I"⟩ prog_6_method_17_code 2 (Option.some Jvm.ClassFile.FieldType.int) ∈ tlG := tl_at 452 rfl rfl
set_option maxRecDepth 100000 in
theorem kw_84 : Cond.methodLink "LeastPaths$Search" 96 ⟨"LeastPaths$Search", "isOpen", "(I)Z"⟩ ∈ tlG := tl_at 453 rfl rfl
set_option maxRecDepth 100000 in
theorem kw_85 : Cond.instanceMethod ⟨"LeastPaths$Search", "isOpen", "(I)Z"⟩ ∈ tlG := tl_at 455 rfl rfl
set_option maxRecDepth 100000 in
theorem kw_86 : Cond.selects "LeastPaths$Search" ⟨"LeastPaths$Search", "isOpen", "(I)Z"⟩ ⟨"LeastPaths$Search", "isOpen", "(I)Z"⟩ ∈ tlG := tl_sel 7 rfl
set_option maxRecDepth 100000 in
theorem kw_87 : Cond.code ⟨"LeastPaths$Search", "isOpen", "(I)Z"⟩ prog_6_method_16_code 2 (Option.some Jvm.ClassFile.FieldType.boolean) ∈ tlG := tl_at 456 rfl rfl
set_option maxRecDepth 100000 in
theorem kw_88 : Cond.methodLink "LeastPaths$Search" 100 ⟨"LeastPaths$Search", "endOf", "(I)I"⟩ ∈ tlG := tl_at 457 rfl rfl
set_option maxRecDepth 100000 in
theorem kw_89 : Cond.instanceMethod ⟨"LeastPaths$Search", "endOf", "(I)I"⟩ ∈ tlG := tl_at 459 rfl rfl
set_option maxRecDepth 100000 in
theorem kw_90 : Cond.selects "LeastPaths$Search" ⟨"LeastPaths$Search", "endOf", "(I)I"⟩ ⟨"LeastPaths$Search", "endOf", "(I)I"⟩ ∈ tlG := tl_sel 8 rfl
set_option maxRecDepth 100000 in
theorem kw_91 : Cond.code ⟨"LeastPaths$Search", "endOf", "(I)I"⟩ prog_6_method_18_code 2 (Option.some Jvm.ClassFile.FieldType.int) ∈ tlG := tl_at 460 rfl rfl
set_option maxRecDepth 100000 in
theorem kw_92 : Cond.methodLink "LeastPaths$Search" 103 ⟨"LeastPaths$Search", "costOf", "(I)I"⟩ ∈ tlG := tl_at 461 rfl rfl
set_option maxRecDepth 100000 in
theorem kw_93 : Cond.instanceMethod ⟨"LeastPaths$Search", "costOf", "(I)I"⟩ ∈ tlG := tl_at 463 rfl rfl
set_option maxRecDepth 100000 in
theorem kw_94 : Cond.selects "LeastPaths$Search" ⟨"LeastPaths$Search", "costOf", "(I)I"⟩ ⟨"LeastPaths$Search", "costOf", "(I)I"⟩ ∈ tlG := tl_sel 9 rfl
set_option maxRecDepth 100000 in
theorem kw_95 : Cond.code ⟨"LeastPaths$Search", "costOf", "(I)I"⟩ prog_6_method_19_code 2 (Option.some Jvm.ClassFile.FieldType.int) ∈ tlG := tl_at 464 rfl rfl
set_option maxRecDepth 100000 in
theorem kw_96 : Cond.methodLink "LeastPaths$Search" 106 ⟨"LeastPaths$Search", "offer", "(II)V"⟩ ∈ tlG := tl_at 465 rfl rfl
set_option maxRecDepth 100000 in
theorem kw_97 : Cond.instanceMethod ⟨"LeastPaths$Search", "offer", "(II)V"⟩ ∈ tlG := tl_at 413 rfl rfl
set_option maxRecDepth 100000 in
theorem kw_98 : Cond.selects "LeastPaths$Search" ⟨"LeastPaths$Search", "offer", "(II)V"⟩ ⟨"LeastPaths$Search", "offer", "(II)V"⟩ ∈ tlG := tl_at 414 rfl rfl
set_option maxRecDepth 100000 in
theorem kw_99 : Cond.code ⟨"LeastPaths$Search", "offer", "(II)V"⟩ prog_6_method_8_code 4 (Option.none : Option Jvm.ClassFile.FieldType) ∈ tlG := tl_at 415 rfl rfl
set_option maxRecDepth 100000 in
theorem kw_100 : Cond.methodLink "LeastPaths$Search" 109 ⟨"LeastPaths$Search", "isOver", "()Z"⟩ ∈ tlG := tl_at 429 rfl rfl
set_option maxRecDepth 100000 in
theorem kw_101 : Cond.instanceMethod ⟨"LeastPaths$Search", "isOver", "()Z"⟩ ∈ tlG := tl_at 430 rfl rfl
set_option maxRecDepth 100000 in
theorem kw_102 : Cond.selects "LeastPaths$Search" ⟨"LeastPaths$Search", "isOver", "()Z"⟩ ⟨"LeastPaths$Search", "isOver", "()Z"⟩ ∈ tlG := tl_at 431 rfl rfl
set_option maxRecDepth 100000 in
theorem kw_103 : Cond.code ⟨"LeastPaths$Search", "isOver", "()Z"⟩ prog_6_method_6_code 1 (Option.some Jvm.ClassFile.FieldType.boolean) ∈ tlG := tl_at 432 rfl rfl
set_option maxRecDepth 100000 in
theorem kw_104 : Cond.methodLink "LeastPaths$Search" 112 ⟨"LeastPaths$Search", "settleFirst", "()I"⟩ ∈ tlG := tl_at 437 rfl rfl
set_option maxRecDepth 100000 in
theorem kw_105 : Cond.instanceMethod ⟨"LeastPaths$Search", "settleFirst", "()I"⟩ ∈ tlG := tl_at 438 rfl rfl
set_option maxRecDepth 100000 in
theorem kw_106 : Cond.selects "LeastPaths$Search" ⟨"LeastPaths$Search", "settleFirst", "()I"⟩ ⟨"LeastPaths$Search", "settleFirst", "()I"⟩ ∈ tlG := tl_at 439 rfl rfl
set_option maxRecDepth 100000 in
theorem kw_107 : Cond.code ⟨"LeastPaths$Search", "settleFirst", "()I"⟩ prog_6_method_9_code 3 (Option.some Jvm.ClassFile.FieldType.int) ∈ tlG := tl_at 440 rfl rfl
set_option maxRecDepth 100000 in
theorem kw_108 : Cond.methodLink "LeastPaths$Search" 115 ⟨"LeastPaths$Search", "beginPlain", "(Z)V"⟩ ∈ tlG := tl_at 524 rfl rfl
set_option maxRecDepth 100000 in
theorem kw_109 : Cond.instanceMethod ⟨"LeastPaths$Search", "beginPlain", "(Z)V"⟩ ∈ tlG := tl_at 525 rfl rfl
set_option maxRecDepth 100000 in
theorem kw_110 : Cond.selects "LeastPaths$Search" ⟨"LeastPaths$Search", "beginPlain", "(Z)V"⟩ ⟨"LeastPaths$Search", "beginPlain", "(Z)V"⟩ ∈ tlG := tl_at 526 rfl rfl
set_option maxRecDepth 100000 in
theorem kw_111 : Cond.code ⟨"LeastPaths$Search", "beginPlain", "(Z)V"⟩ prog_6_method_2_code 2 (Option.none : Option Jvm.ClassFile.FieldType) ∈ tlG := tl_at 527 rfl rfl
set_option maxRecDepth 100000 in
theorem kw_112 : Cond.methodLink "LeastPaths$Search" 123 ⟨"LeastPaths$Search", "knows", "(I)Z"⟩ ∈ tlG := tl_at 486 rfl rfl
set_option maxRecDepth 100000 in
theorem kw_113 : Cond.instanceMethod ⟨"LeastPaths$Search", "knows", "(I)Z"⟩ ∈ tlG := tl_at 467 rfl rfl
set_option maxRecDepth 100000 in
theorem kw_114 : Cond.selects "LeastPaths$Search" ⟨"LeastPaths$Search", "knows", "(I)Z"⟩ ⟨"LeastPaths$Search", "knows", "(I)Z"⟩ ∈ tlG := tl_at 468 rfl rfl
set_option maxRecDepth 100000 in
theorem kw_115 : Cond.code ⟨"LeastPaths$Search", "knows", "(I)Z"⟩ prog_6_method_5_code 2 (Option.some Jvm.ClassFile.FieldType.boolean) ∈ tlG := tl_at 469 rfl rfl
set_option maxRecDepth 100000 in
theorem kw_116 : Cond.methodLink "LeastPaths$Search" 119 ⟨"LeastPaths$Search", "leadsBest", "(II)Z"⟩ ∈ tlG := tl_at 482 rfl rfl
set_option maxRecDepth 100000 in
theorem kw_117 : Cond.instanceMethod ⟨"LeastPaths$Search", "leadsBest", "(II)Z"⟩ ∈ tlG := tl_at 484 rfl rfl
set_option maxRecDepth 100000 in
theorem kw_118 : Cond.selects "LeastPaths$Search" ⟨"LeastPaths$Search", "leadsBest", "(II)Z"⟩ ⟨"LeastPaths$Search", "leadsBest", "(II)Z"⟩ ∈ tlG := tl_sel 10 rfl
set_option maxRecDepth 100000 in
theorem kw_119 : Cond.code ⟨"LeastPaths$Search", "leadsBest", "(II)Z"⟩ prog_6_method_15_code 3 (Option.some Jvm.ClassFile.FieldType.boolean) ∈ tlG := tl_at 485 rfl rfl
set_option maxRecDepth 100000 in
theorem kw_120 : Cond.fieldLink "LeastPaths$Search" 18 "LeastPaths$Search" "waysTo" "[I" ∈ tlG := tl_at 136 rfl rfl
set_option maxRecDepth 100000 in
theorem kw_121 : Cond.methodLink "LeastPaths$Search" 126 ⟨"LeastPaths$Search", "lastArc", "(I)I"⟩ ∈ tlG := tl_at 599 rfl rfl
set_option maxRecDepth 100000 in
theorem kw_122 : Cond.instanceMethod ⟨"LeastPaths$Search", "lastArc", "(I)I"⟩ ∈ tlG := tl_at 479 rfl rfl
set_option maxRecDepth 100000 in
theorem kw_123 : Cond.selects "LeastPaths$Search" ⟨"LeastPaths$Search", "lastArc", "(I)I"⟩ ⟨"LeastPaths$Search", "lastArc", "(I)I"⟩ ∈ tlG := tl_at 480 rfl rfl
set_option maxRecDepth 100000 in
theorem kw_124 : Cond.code ⟨"LeastPaths$Search", "lastArc", "(I)I"⟩ prog_6_method_12_code 3 (Option.some Jvm.ClassFile.FieldType.int) ∈ tlG := tl_at 481 rfl rfl
set_option maxRecDepth 100000 in
theorem kw_125 : Cond.methodLink "LeastPaths$Search" 132 ⟨"LeastPaths$Way", "add", "(II)V"⟩ ∈ tlG := tl_at 600 rfl rfl
set_option maxRecDepth 100000 in
theorem kw_126 : Cond.instanceMethod ⟨"LeastPaths$Way", "add", "(II)V"⟩ ∈ tlG := tl_at 592 rfl rfl
set_option maxRecDepth 100000 in
theorem kw_127 : Cond.selects "LeastPaths$Way" ⟨"LeastPaths$Way", "add", "(II)V"⟩ ⟨"LeastPaths$Way", "add", "(II)V"⟩ ∈ tlG := tl_at 593 rfl rfl
set_option maxRecDepth 100000 in
theorem kw_128 : Cond.initialized "LeastPaths$Way" ∈ tlG := tl_at 8 rfl rfl
set_option maxRecDepth 100000 in
theorem kw_129 : Cond.code ⟨"LeastPaths$Way", "add", "(II)V"⟩ prog_9_method_3_code 3 (Option.none : Option Jvm.ClassFile.FieldType) ∈ tlG := tl_at 594 rfl rfl
set_option maxRecDepth 100000 in
theorem kw_130 : Cond.constant "LeastPaths$BothSides" 49 2147483647 ∈ tlG := tl_at 546 rfl rfl
set_option maxRecDepth 100000 in
theorem kw_131 : Cond.fieldLink "LeastPaths$BothSides" 45 "LeastPaths$BothSides" "best" "I" ∈ tlG := tl_at 178 rfl rfl
set_option maxRecDepth 100000 in
theorem kw_132 : Cond.fieldLink "LeastPaths$BothSides" 9 "LeastPaths$BothSides" "ahead" "LLeastPaths$Search;" ∈ tlG := tl_at 176 rfl rfl
set_option maxRecDepth 100000 in
theorem kw_133 : Cond.methodLink "LeastPaths$BothSides" 50 ⟨"LeastPaths$Search", "knows", "(I)Z"⟩ ∈ tlG := tl_at 547 rfl rfl
set_option maxRecDepth 100000 in
theorem kw_134 : Cond.fieldLink "LeastPaths$BothSides" 15 "LeastPaths$BothSides" "back" "LLeastPaths$Search;" ∈ tlG := tl_at 177 rfl rfl
set_option maxRecDepth 100000 in
theorem kw_135 : Cond.fieldLink "LeastPaths$BothSides" 54 "LeastPaths$Search" "number" "[I" ∈ tlG := tl_at 133 rfl rfl
set_option maxRecDepth 100000 in
theorem kw_136 : Cond.methodLink "LeastPaths$BothSides" 58 ⟨"java/lang/Math", "min", "(II)I"⟩ ∈ tlG := tl_at 548 rfl rfl
set_option maxRecDepth 100000 in
theorem kw_137 : Cond.static ⟨"java/lang/Math", "min", "(II)I"⟩ ∈ tlG := tl_at 26 rfl rfl
set_option maxRecDepth 100000 in
theorem kw_138 : Cond.initialized "java/lang/Math" ∈ tlG := tl_at 2 rfl rfl
set_option maxRecDepth 100000 in
theorem kw_139 : Cond.code ⟨"java/lang/Math", "min", "(II)I"⟩ prog_14_method_69_code 2 (Option.some Jvm.ClassFile.FieldType.int) ∈ tlG := tl_at 27 rfl rfl
set_option maxRecDepth 100000 in
theorem kw_140 : Cond.methodLink "LeastPaths$BothSides" 42 ⟨"LeastPaths$Search", "isOver", "()Z"⟩ ∈ tlG := tl_at 553 rfl rfl
set_option maxRecDepth 100000 in
theorem kw_141 : Cond.methodLink "LeastPaths$BothSides" 35 ⟨"LeastPaths$Search", "leastNumber", "()I"⟩ ∈ tlG := tl_at 554 rfl rfl
set_option maxRecDepth 100000 in
theorem kw_142 : Cond.instanceMethod ⟨"LeastPaths$Search", "leastNumber", "()I"⟩ ∈ tlG := tl_at 555 rfl rfl
set_option maxRecDepth 100000 in
theorem kw_143 : Cond.selects "LeastPaths$Search" ⟨"LeastPaths$Search", "leastNumber", "()I"⟩ ⟨"LeastPaths$Search", "leastNumber", "()I"⟩ ∈ tlG := tl_at 556 rfl rfl
set_option maxRecDepth 100000 in
theorem kw_144 : Cond.code ⟨"LeastPaths$Search", "leastNumber", "()I"⟩ prog_6_method_7_code 2 (Option.some Jvm.ClassFile.FieldType.int) ∈ tlG := tl_at 557 rfl rfl
set_option maxRecDepth 100000 in
theorem kw_145 : Cond.methodLink "LeastPaths$BothSides" 18 ⟨"LeastPaths$Search", "beginPlain", "(Z)V"⟩ ∈ tlG := tl_at 540 rfl rfl
set_option maxRecDepth 100000 in
theorem kw_146 : Cond.methodLink "LeastPaths$BothSides" 24 ⟨"LeastPaths$Search", "offer", "(II)V"⟩ ∈ tlG := tl_at 541 rfl rfl
set_option maxRecDepth 100000 in
theorem kw_147 : Cond.methodLink "LeastPaths$BothSides" 28 ⟨"LeastPaths$BothSides", "seekBest", "()V"⟩ ∈ tlG := tl_at 542 rfl rfl
set_option maxRecDepth 100000 in
theorem kw_148 : Cond.instanceMethod ⟨"LeastPaths$BothSides", "seekBest", "()V"⟩ ∈ tlG := tl_at 544 rfl rfl
set_option maxRecDepth 100000 in
theorem kw_149 : Cond.selects "LeastPaths$BothSides" ⟨"LeastPaths$BothSides", "seekBest", "()V"⟩ ⟨"LeastPaths$BothSides", "seekBest", "()V"⟩ ∈ tlG := tl_sel 12 rfl
set_option maxRecDepth 100000 in
theorem kw_150 : Cond.initialized "LeastPaths$BothSides" ∈ tlG := tl_at 6 rfl rfl
set_option maxRecDepth 100000 in
theorem kw_151 : Cond.code ⟨"LeastPaths$BothSides", "seekBest", "()V"⟩ prog_2_method_4_code 2 (Option.none : Option Jvm.ClassFile.FieldType) ∈ tlG := tl_at 545 rfl rfl
set_option maxRecDepth 100000 in
theorem kw_152 : Cond.methodLink "LeastPaths$BothSides" 31 ⟨"LeastPaths$BothSides", "goesOn", "()Z"⟩ ∈ tlG := tl_at 549 rfl rfl
set_option maxRecDepth 100000 in
theorem kw_153 : Cond.instanceMethod ⟨"LeastPaths$BothSides", "goesOn", "()Z"⟩ ∈ tlG := tl_at 551 rfl rfl
set_option maxRecDepth 100000 in
theorem kw_154 : Cond.selects "LeastPaths$BothSides" ⟨"LeastPaths$BothSides", "goesOn", "()Z"⟩ ⟨"LeastPaths$BothSides", "goesOn", "()Z"⟩ ∈ tlG := tl_sel 13 rfl
set_option maxRecDepth 100000 in
theorem kw_155 : Cond.code ⟨"LeastPaths$BothSides", "goesOn", "()Z"⟩ prog_2_method_3_code 1 (Option.some Jvm.ClassFile.FieldType.boolean) ∈ tlG := tl_at 552 rfl rfl
set_option maxRecDepth 100000 in
theorem kw_156 : Cond.methodLink "LeastPaths$BothSides" 39 ⟨"LeastPaths$Search", "settleFirst", "()I"⟩ ∈ tlG := tl_at 563 rfl rfl
set_option maxRecDepth 100000 in
theorem kw_157 : Cond.fieldLink "LeastPaths$Widths" 9 "LeastPaths$Widths" "width" "[I" ∈ tlG := tl_at 277 rfl rfl
set_option maxRecDepth 100000 in
theorem kw_158 : Cond.constant "LeastPaths$Widths" 19 2147483647 ∈ tlG := tl_at 625 rfl rfl
set_option maxRecDepth 100000 in
theorem kw_159 : Cond.fieldLink "LeastPaths$Widths" 15 "LeastPaths$Widths" "graph" "LLeastPaths$Graph;" ∈ tlG := tl_at 276 rfl rfl
set_option maxRecDepth 100000 in
theorem kw_160 : Cond.fieldLink "LeastPaths$Widths" 20 "LeastPaths$Graph" "nodes" "I" ∈ tlG := tl_at 61 rfl rfl
set_option maxRecDepth 100000 in
theorem kw_161 : Cond.fieldLink "LeastPaths$Widths" 26 "LeastPaths$Graph" "arcs" "I" ∈ tlG := tl_at 65 rfl rfl
set_option maxRecDepth 100000 in
theorem kw_162 : Cond.methodLink "LeastPaths$Widths" 29 ⟨"LeastPaths$Graph", "hasArc", "(I)Z"⟩ ∈ tlG := tl_at 626 rfl rfl
set_option maxRecDepth 100000 in
theorem kw_163 : Cond.fieldLink "LeastPaths$Widths" 33 "LeastPaths$Graph" "from" "[I" ∈ tlG := tl_at 36 rfl rfl
set_option maxRecDepth 100000 in
theorem kw_164 : Cond.fieldLink "LeastPaths$Widths" 36 "LeastPaths$Graph" "weight" "[I" ∈ tlG := tl_at 47 rfl rfl
set_option maxRecDepth 100000 in
theorem kw_165 : Cond.methodLink "LeastPaths$Widths" 39 ⟨"java/lang/Math", "min", "(II)I"⟩ ∈ tlG := tl_at 627 rfl rfl
set_option maxRecDepth 100000 in
theorem kw_166 : Cond.fieldLink "LeastPaths$Widths" 45 "LeastPaths$Graph" "to" "[I" ∈ tlG := tl_at 41 rfl rfl
set_option maxRecDepth 100000 in
theorem kw_167 : Cond.methodLink "LeastPaths$Widths" 48 ⟨"java/lang/Math", "max", "(II)I"⟩ ∈ tlG := tl_at 628 rfl rfl
set_option maxRecDepth 100000 in
theorem kw_168 : Cond.static ⟨"java/lang/Math", "max", "(II)I"⟩ ∈ tlG := tl_at 23 rfl rfl
set_option maxRecDepth 100000 in
theorem kw_169 : Cond.code ⟨"java/lang/Math", "max", "(II)I"⟩ prog_14_method_65_code 2 (Option.some Jvm.ClassFile.FieldType.int) ∈ tlG := tl_at 24 rfl rfl
set_option maxRecDepth 100000 in
theorem kw_170 : Cond.fieldLink "LeastPaths$Trusts" 15 "LeastPaths$Trusts" "below" "[J" ∈ tlG := tl_at 292 rfl rfl
set_option maxRecDepth 100000 in
theorem kw_171 : Cond.fieldLink "LeastPaths$Trusts" 18 "LeastPaths$Trusts" "graph" "LLeastPaths$Graph;" ∈ tlG := tl_at 290 rfl rfl
set_option maxRecDepth 100000 in
theorem kw_172 : Cond.fieldLink "LeastPaths$Trusts" 46 "LeastPaths$Graph" "to" "[I" ∈ tlG := tl_at 44 rfl rfl
set_option maxRecDepth 100000 in
theorem kw_173 : Cond.fieldLink "LeastPaths$Trusts" 9 "LeastPaths$Trusts" "above" "[J" ∈ tlG := tl_at 291 rfl rfl
set_option maxRecDepth 100000 in
theorem kw_174 : Cond.fieldLink "LeastPaths$Trusts" 35 "LeastPaths$Graph" "from" "[I" ∈ tlG := tl_at 37 rfl rfl
set_option maxRecDepth 100000 in
theorem kw_175 : Cond.fieldLink "LeastPaths$Trusts" 49 "LeastPaths$Graph" "above" "[I" ∈ tlG := tl_at 52 rfl rfl
set_option maxRecDepth 100000 in
theorem kw_176 : Cond.fieldLink "LeastPaths$Trusts" 51 "LeastPaths$Graph" "below" "[I" ∈ tlG := tl_at 55 rfl rfl
set_option maxRecDepth 100000 in
theorem kw_177 : Cond.methodLink "LeastPaths$Trusts" 39 ⟨"LeastPaths$Trusts", "knows", "(I)Z"⟩ ∈ tlG := tl_at 638 rfl rfl
set_option maxRecDepth 100000 in
theorem kw_178 : Cond.instanceMethod ⟨"LeastPaths$Trusts", "knows", "(I)Z"⟩ ∈ tlG := tl_at 639 rfl rfl
set_option maxRecDepth 100000 in
theorem kw_179 : Cond.selects "LeastPaths$Trusts" ⟨"LeastPaths$Trusts", "knows", "(I)Z"⟩ ⟨"LeastPaths$Trusts", "knows", "(I)Z"⟩ ∈ tlG := tl_at 640 rfl rfl
set_option maxRecDepth 100000 in
theorem kw_180 : Cond.initialized "LeastPaths$Trusts" ∈ tlG := tl_at 11 rfl rfl
set_option maxRecDepth 100000 in
theorem kw_181 : Cond.code ⟨"LeastPaths$Trusts", "knows", "(I)Z"⟩ prog_7_method_2_code 2 (Option.some Jvm.ClassFile.FieldType.boolean) ∈ tlG := tl_at 641 rfl rfl
set_option maxRecDepth 100000 in
theorem kw_182 : Cond.fieldLink "LeastPaths$Trusts" 22 "LeastPaths$Graph" "nodes" "I" ∈ tlG := tl_at 63 rfl rfl
set_option maxRecDepth 100000 in
theorem kw_183 : Cond.fieldLink "LeastPaths$Trusts" 28 "LeastPaths$Graph" "arcs" "I" ∈ tlG := tl_at 67 rfl rfl
set_option maxRecDepth 100000 in
theorem kw_184 : Cond.methodLink "LeastPaths$Trusts" 31 ⟨"LeastPaths$Graph", "hasArc", "(I)Z"⟩ ∈ tlG := tl_at 637 rfl rfl
set_option maxRecDepth 100000 in
theorem kw_185 : Cond.methodLink "LeastPaths$Trusts" 42 ⟨"LeastPaths$Trusts", "pass", "(I)V"⟩ ∈ tlG := tl_at 642 rfl rfl
set_option maxRecDepth 100000 in
theorem kw_186 : Cond.instanceMethod ⟨"LeastPaths$Trusts", "pass", "(I)V"⟩ ∈ tlG := tl_at 644 rfl rfl
set_option maxRecDepth 100000 in
theorem kw_187 : Cond.selects "LeastPaths$Trusts" ⟨"LeastPaths$Trusts", "pass", "(I)V"⟩ ⟨"LeastPaths$Trusts", "pass", "(I)V"⟩ ∈ tlG := tl_sel 16 rfl
set_option maxRecDepth 100000 in
theorem kw_188 : Cond.code ⟨"LeastPaths$Trusts", "pass", "(I)V"⟩ prog_7_method_4_code 7 (Option.none : Option Jvm.ClassFile.FieldType) ∈ tlG := tl_at 645 rfl rfl
set_option maxRecDepth 100000 in
theorem kw_189 : Cond.methodLink "LeastPaths$Trusts" 53 ⟨"LeastPaths$Trusts", "commonDivisor", "(JJ)J"⟩ ∈ tlG := tl_at 651 rfl rfl
set_option maxRecDepth 100000 in
theorem kw_190 : Cond.static ⟨"LeastPaths$Trusts", "commonDivisor", "(JJ)J"⟩ ∈ tlG := tl_at 652 rfl rfl
set_option maxRecDepth 100000 in
theorem kw_191 : Cond.code ⟨"LeastPaths$Trusts", "commonDivisor", "(JJ)J"⟩ prog_7_method_6_code 11 (Option.some Jvm.ClassFile.FieldType.long) ∈ tlG := tl_at 653 rfl rfl
set_option maxRecDepth 100000 in
theorem kw_192 : Cond.fieldLink "LeastPaths$Rings" 18 "LeastPaths$Rings" "graph" "LLeastPaths$Graph;" ∈ tlG := tl_at 259 rfl rfl
set_option maxRecDepth 100000 in
theorem kw_193 : Cond.fieldLink "LeastPaths$Rings" 67 "LeastPaths$Graph" "to" "[I" ∈ tlG := tl_at 42 rfl rfl
set_option maxRecDepth 100000 in
theorem kw_194 : Cond.fieldLink "LeastPaths$Rings" 22 "LeastPaths$Rings" "back" "LLeastPaths$Search;" ∈ tlG := tl_at 260 rfl rfl
set_option maxRecDepth 100000 in
theorem kw_195 : Cond.methodLink "LeastPaths$Rings" 70 ⟨"LeastPaths$Search", "knows", "(I)Z"⟩ ∈ tlG := tl_at 672 rfl rfl
set_option maxRecDepth 100000 in
theorem kw_196 : Cond.fieldLink "LeastPaths$Rings" 73 "LeastPaths$Graph" "weight" "[I" ∈ tlG := tl_at 48 rfl rfl
set_option maxRecDepth 100000 in
theorem kw_197 : Cond.fieldLink "LeastPaths$Rings" 76 "LeastPaths$Search" "number" "[I" ∈ tlG := tl_at 132 rfl rfl
set_option maxRecDepth 100000 in
theorem kw_198 : Cond.fieldLink "LeastPaths$Rings" 12 "LeastPaths$Rings" "least" "LLeastPaths$Way;" ∈ tlG := tl_at 261 rfl rfl
set_option maxRecDepth 100000 in
theorem kw_199 : Cond.fieldLink "LeastPaths$Rings" 79 "LeastPaths$Way" "count" "I" ∈ tlG := tl_at 204 rfl rfl
set_option maxRecDepth 100000 in
theorem kw_200 : Cond.methodLink "LeastPaths$Rings" 26 ⟨"LeastPaths$Way", "begin", "(IJ)V"⟩ ∈ tlG := tl_at 662 rfl rfl
set_option maxRecDepth 100000 in
theorem kw_201 : Cond.instanceMethod ⟨"LeastPaths$Way", "begin", "(IJ)V"⟩ ∈ tlG := tl_at 588 rfl rfl
set_option maxRecDepth 100000 in
theorem kw_202 : Cond.selects "LeastPaths$Way" ⟨"LeastPaths$Way", "begin", "(IJ)V"⟩ ⟨"LeastPaths$Way", "begin", "(IJ)V"⟩ ∈ tlG := tl_at 589 rfl rfl
set_option maxRecDepth 100000 in
theorem kw_203 : Cond.code ⟨"LeastPaths$Way", "begin", "(IJ)V"⟩ prog_9_method_2_code 4 (Option.none : Option Jvm.ClassFile.FieldType) ∈ tlG := tl_at 590 rfl rfl
set_option maxRecDepth 100000 in
theorem kw_204 : Cond.methodLink "LeastPaths$Rings" 84 ⟨"LeastPaths$Way", "add", "(II)V"⟩ ∈ tlG := tl_at 673 rfl rfl
set_option maxRecDepth 100000 in
theorem kw_205 : Cond.methodLink "LeastPaths$Rings" 87 ⟨"LeastPaths$Search", "follow", "(ILLeastPaths$Way;)V"⟩ ∈ tlG := tl_at 674 rfl rfl
set_option maxRecDepth 100000 in
theorem kw_206 : Cond.instanceMethod ⟨"LeastPaths$Search", "follow", "(ILLeastPaths$Way;)V"⟩ ∈ tlG := tl_at 596 rfl rfl
set_option maxRecDepth 100000 in
theorem kw_207 : Cond.selects "LeastPaths$Search" ⟨"LeastPaths$Search", "follow", "(ILLeastPaths$Way;)V"⟩ ⟨"LeastPaths$Search", "follow", "(ILLeastPaths$Way;)V"⟩ ∈ tlG := tl_at 597 rfl rfl
set_option maxRecDepth 100000 in
theorem kw_208 : Cond.code ⟨"LeastPaths$Search", "follow", "(ILLeastPaths$Way;)V"⟩ prog_6_method_14_code 7 (Option.none : Option Jvm.ClassFile.FieldType) ∈ tlG := tl_at 598 rfl rfl
set_option maxRecDepth 100000 in
theorem kw_209 : Cond.fieldLink "LeastPaths$Rings" 82 "LeastPaths$Way" "number" "I" ∈ tlG := tl_at 207 rfl rfl
set_option maxRecDepth 100000 in
theorem kw_210 : Cond.fieldLink "LeastPaths$Rings" 30 "LeastPaths$Graph" "arcs" "I" ∈ tlG := tl_at 64 rfl rfl
set_option maxRecDepth 100000 in
theorem kw_211 : Cond.methodLink "LeastPaths$Rings" 36 ⟨"LeastPaths$Graph", "hasArc", "(I)Z"⟩ ∈ tlG := tl_at 663 rfl rfl
set_option maxRecDepth 100000 in
theorem kw_212 : Cond.fieldLink "LeastPaths$Rings" 40 "LeastPaths$Graph" "live" "J" ∈ tlG := tl_at 71 rfl rfl
set_option maxRecDepth 100000 in
theorem kw_213 : Cond.constantLong "LeastPaths$Rings" 44 (-2) ∈ tlG := tl_at 664 rfl rfl
set_option maxRecDepth 100000 in
theorem kw_214 : Cond.methodLink "LeastPaths$Rings" 46 ⟨"LeastPaths$Search", "beginCounted", "(JI)V"⟩ ∈ tlG := tl_at 665 rfl rfl
set_option maxRecDepth 100000 in
theorem kw_215 : Cond.instanceMethod ⟨"LeastPaths$Search", "beginCounted", "(JI)V"⟩ ∈ tlG := tl_at 401 rfl rfl
set_option maxRecDepth 100000 in
theorem kw_216 : Cond.selects "LeastPaths$Search" ⟨"LeastPaths$Search", "beginCounted", "(JI)V"⟩ ⟨"LeastPaths$Search", "beginCounted", "(JI)V"⟩ ∈ tlG := tl_at 402 rfl rfl
set_option maxRecDepth 100000 in
theorem kw_217 : Cond.code ⟨"LeastPaths$Search", "beginCounted", "(JI)V"⟩ prog_6_method_3_code 4 (Option.none : Option Jvm.ClassFile.FieldType) ∈ tlG := tl_at 403 rfl rfl
set_option maxRecDepth 100000 in
theorem kw_218 : Cond.fieldLink "LeastPaths$Rings" 52 "LeastPaths$Graph" "from" "[I" ∈ tlG := tl_at 35 rfl rfl
set_option maxRecDepth 100000 in
theorem kw_219 : Cond.methodLink "LeastPaths$Rings" 56 ⟨"LeastPaths$Search", "offer", "(II)V"⟩ ∈ tlG := tl_at 666 rfl rfl
set_option maxRecDepth 100000 in
theorem kw_220 : Cond.methodLink "LeastPaths$Rings" 60 ⟨"LeastPaths$Search", "settleAll", "()V"⟩ ∈ tlG := tl_at 667 rfl rfl
set_option maxRecDepth 100000 in
theorem kw_221 : Cond.instanceMethod ⟨"LeastPaths$Search", "settleAll", "()V"⟩ ∈ tlG := tl_at 426 rfl rfl
set_option maxRecDepth 100000 in
theorem kw_222 : Cond.selects "LeastPaths$Search" ⟨"LeastPaths$Search", "settleAll", "()V"⟩ ⟨"LeastPaths$Search", "settleAll", "()V"⟩ ∈ tlG := tl_at 427 rfl rfl
set_option maxRecDepth 100000 in
theorem kw_223 : Cond.code ⟨"LeastPaths$Search", "settleAll", "()V"⟩ prog_6_method_10_code 2 (Option.none : Option Jvm.ClassFile.FieldType) ∈ tlG := tl_at 428 rfl rfl
set_option maxRecDepth 100000 in
theorem kw_224 : Cond.methodLink "LeastPaths$Rings" 63 ⟨"LeastPaths$Rings", "takeIfLess", "(I)V"⟩ ∈ tlG := tl_at 668 rfl rfl
set_option maxRecDepth 100000 in
theorem kw_225 : Cond.instanceMethod ⟨"LeastPaths$Rings", "takeIfLess", "(I)V"⟩ ∈ tlG := tl_at 670 rfl rfl
set_option maxRecDepth 100000 in
theorem kw_226 : Cond.selects "LeastPaths$Rings" ⟨"LeastPaths$Rings", "takeIfLess", "(I)V"⟩ ⟨"LeastPaths$Rings", "takeIfLess", "(I)V"⟩ ∈ tlG := tl_sel 17 rfl
set_option maxRecDepth 100000 in
theorem kw_227 : Cond.initialized "LeastPaths$Rings" ∈ tlG := tl_at 9 rfl rfl
set_option maxRecDepth 100000 in
theorem kw_228 : Cond.code ⟨"LeastPaths$Rings", "takeIfLess", "(I)V"⟩ prog_4_method_3_code 4 (Option.none : Option Jvm.ClassFile.FieldType) ∈ tlG := tl_at 671 rfl rfl
set_option maxRecDepth 100000 in
theorem kw_229 : Cond.fieldLink "LeastPaths$Row" 37 "LeastPaths$Row" "size" "I" ∈ tlG := tl_at 229 rfl rfl
set_option maxRecDepth 100000 in
theorem kw_230 : Cond.fieldLink "LeastPaths$Row" 11 "LeastPaths$Row" "ways" "[LLeastPaths$Way;" ∈ tlG := tl_at 226 rfl rfl
set_option maxRecDepth 100000 in
theorem kw_231 : Cond.methodLink "LeastPaths$Row" 111 ⟨"LeastPaths$Way", "isBefore", "(LLeastPaths$Way;)Z"⟩ ∈ tlG := tl_at 605 rfl rfl
set_option maxRecDepth 100000 in
theorem kw_232 : Cond.instanceMethod ⟨"LeastPaths$Way", "isBefore", "(LLeastPaths$Way;)Z"⟩ ∈ tlG := tl_at 606 rfl rfl
set_option maxRecDepth 100000 in
theorem kw_233 : Cond.selects "LeastPaths$Way" ⟨"LeastPaths$Way", "isBefore", "(LLeastPaths$Way;)Z"⟩ ⟨"LeastPaths$Way", "isBefore", "(LLeastPaths$Way;)Z"⟩ ∈ tlG := tl_at 607 rfl rfl
set_option maxRecDepth 100000 in
theorem kw_234 : Cond.code ⟨"LeastPaths$Way", "isBefore", "(LLeastPaths$Way;)Z"⟩ prog_9_method_5_code 3 (Option.some Jvm.ClassFile.FieldType.boolean) ∈ tlG := tl_at 608 rfl rfl
set_option maxRecDepth 100000 in
theorem kw_235 : Cond.fieldLink "LeastPaths$Row" 46 "LeastPaths$Row" "room" "I" ∈ tlG := tl_at 231 rfl rfl
set_option maxRecDepth 100000 in
theorem kw_236 : Cond.methodLink "LeastPaths$Row" 40 ⟨"java/lang/Math", "min", "(II)I"⟩ ∈ tlG := tl_at 577 rfl rfl
set_option maxRecDepth 100000 in
theorem kw_237 : Cond.fieldLink "LeastPaths$Row" 30 "LeastPaths$Row" "start" "I" ∈ tlG := tl_at 232 rfl rfl
set_option maxRecDepth 100000 in
theorem kw_238 : Cond.fieldLink "LeastPaths$Row" 22 "LeastPaths$Row" "graph" "LLeastPaths$Graph;" ∈ tlG := tl_at 224 rfl rfl
set_option maxRecDepth 100000 in
theorem kw_239 : Cond.fieldLink "LeastPaths$Row" 59 "LeastPaths$Graph" "to" "[I" ∈ tlG := tl_at 43 rfl rfl
set_option maxRecDepth 100000 in
theorem kw_240 : Cond.fieldLink "LeastPaths$Row" 65 "LeastPaths$Way" "arcs" "[I" ∈ tlG := tl_at 201 rfl rfl
set_option maxRecDepth 100000 in
theorem kw_241 : Cond.fieldLink "LeastPaths$Row" 53 "LeastPaths$Way" "split" "I" ∈ tlG := tl_at 210 rfl rfl
set_option maxRecDepth 100000 in
theorem kw_242 : Cond.fieldLink "LeastPaths$Row" 68 "LeastPaths$Way" "barred" "J" ∈ tlG := tl_at 212 rfl rfl
set_option maxRecDepth 100000 in
theorem kw_243 : Cond.fieldLink "LeastPaths$Row" 56 "LeastPaths$Way" "count" "I" ∈ tlG := tl_at 203 rfl rfl
set_option maxRecDepth 100000 in
theorem kw_244 : Cond.fieldLink "LeastPaths$Row" 26 "LeastPaths$Row" "back" "LLeastPaths$Search;" ∈ tlG := tl_at 225 rfl rfl
set_option maxRecDepth 100000 in
theorem kw_245 : Cond.fieldLink "LeastPaths$Row" 72 "LeastPaths$Graph" "live" "J" ∈ tlG := tl_at 73 rfl rfl
set_option maxRecDepth 100000 in
theorem kw_246 : Cond.constantLong "LeastPaths$Row" 75 (-1) ∈ tlG := tl_at 582 rfl rfl
set_option maxRecDepth 100000 in
theorem kw_247 : Cond.methodLink "LeastPaths$Row" 77 ⟨"LeastPaths$Search", "beginCounted", "(JI)V"⟩ ∈ tlG := tl_at 583 rfl rfl
set_option maxRecDepth 100000 in
theorem kw_248 : Cond.fieldLink "LeastPaths$Row" 34 "LeastPaths$Row" "goal" "I" ∈ tlG := tl_at 233 rfl rfl
set_option maxRecDepth 100000 in
theorem kw_249 : Cond.methodLink "LeastPaths$Row" 83 ⟨"LeastPaths$Search", "offer", "(II)V"⟩ ∈ tlG := tl_at 584 rfl rfl
set_option maxRecDepth 100000 in
theorem kw_250 : Cond.methodLink "LeastPaths$Row" 87 ⟨"LeastPaths$Search", "settleAll", "()V"⟩ ∈ tlG := tl_at 585 rfl rfl
set_option maxRecDepth 100000 in
theorem kw_251 : Cond.methodLink "LeastPaths$Row" 90 ⟨"LeastPaths$Search", "knows", "(I)Z"⟩ ∈ tlG := tl_at 586 rfl rfl
set_option maxRecDepth 100000 in
theorem kw_252 : Cond.methodLink "LeastPaths$Row" 94 ⟨"LeastPaths$Way", "begin", "(IJ)V"⟩ ∈ tlG := tl_at 587 rfl rfl
set_option maxRecDepth 100000 in
theorem kw_253 : Cond.fieldLink "LeastPaths$Row" 98 "LeastPaths$Graph" "weight" "[I" ∈ tlG := tl_at 49 rfl rfl
set_option maxRecDepth 100000 in
theorem kw_254 : Cond.methodLink "LeastPaths$Row" 101 ⟨"LeastPaths$Way", "add", "(II)V"⟩ ∈ tlG := tl_at 591 rfl rfl
set_option maxRecDepth 100000 in
theorem kw_255 : Cond.methodLink "LeastPaths$Row" 104 ⟨"LeastPaths$Search", "follow", "(ILLeastPaths$Way;)V"⟩ ∈ tlG := tl_at 595 rfl rfl
set_option maxRecDepth 100000 in
theorem kw_256 : Cond.methodLink "LeastPaths$Row" 108 ⟨"LeastPaths$Row", "takeIn", "()V"⟩ ∈ tlG := tl_at 601 rfl rfl
set_option maxRecDepth 100000 in
theorem kw_257 : Cond.instanceMethod ⟨"LeastPaths$Row", "takeIn", "()V"⟩ ∈ tlG := tl_at 603 rfl rfl
set_option maxRecDepth 100000 in
theorem kw_258 : Cond.selects "LeastPaths$Row" ⟨"LeastPaths$Row", "takeIn", "()V"⟩ ⟨"LeastPaths$Row", "takeIn", "()V"⟩ ∈ tlG := tl_sel 15 rfl
set_option maxRecDepth 100000 in
theorem kw_259 : Cond.initialized "LeastPaths$Row" ∈ tlG := tl_at 7 rfl rfl
set_option maxRecDepth 100000 in
theorem kw_260 : Cond.code ⟨"LeastPaths$Row", "takeIn", "()V"⟩ prog_5_method_4_code 3 (Option.none : Option Jvm.ClassFile.FieldType) ∈ tlG := tl_at 604 rfl rfl
set_option maxRecDepth 100000 in
theorem kw_261 : Cond.fieldLink "LeastPaths$Row" 18 "LeastPaths$Row" "nothing" "LLeastPaths$Way;" ∈ tlG := tl_at 228 rfl rfl
set_option maxRecDepth 100000 in
theorem kw_262 : Cond.methodLink "LeastPaths$Row" 49 ⟨"LeastPaths$Row", "branch", "(LLeastPaths$Way;I)V"⟩ ∈ tlG := tl_at 578 rfl rfl
set_option maxRecDepth 100000 in
theorem kw_263 : Cond.instanceMethod ⟨"LeastPaths$Row", "branch", "(LLeastPaths$Way;I)V"⟩ ∈ tlG := tl_at 580 rfl rfl
set_option maxRecDepth 100000 in
theorem kw_264 : Cond.selects "LeastPaths$Row" ⟨"LeastPaths$Row", "branch", "(LLeastPaths$Way;I)V"⟩ ⟨"LeastPaths$Row", "branch", "(LLeastPaths$Way;I)V"⟩ ∈ tlG := tl_sel 14 rfl
set_option maxRecDepth 100000 in
theorem kw_265 : Cond.code ⟨"LeastPaths$Row", "branch", "(LLeastPaths$Way;I)V"⟩ prog_5_method_3_code 9 (Option.none : Option Jvm.ClassFile.FieldType) ∈ tlG := tl_at 581 rfl rfl
set_option maxRecDepth 100000 in
theorem kw_266 : Cond.fieldLink "LeastPaths" 20 "LeastPaths" "heap" "I" ∈ tlG := tl_at 300 rfl rfl
set_option maxRecDepth 100000 in
theorem kw_267 : Cond.fieldLink "LeastPaths" 27 "LeastPaths" "graph" "LLeastPaths$Graph;" ∈ tlG := tl_at 301 rfl rfl
set_option maxRecDepth 100000 in
theorem kw_268 : Cond.fieldLink "LeastPaths" 84 "LeastPaths$Graph" "nodes" "I" ∈ tlG := tl_at 62 rfl rfl
set_option maxRecDepth 100000 in
theorem kw_269 : Cond.methodLink "LeastPaths" 87 ⟨"LeastPaths$Graph", "addNode", "()I"⟩ ∈ tlG := tl_at 336 rfl rfl
set_option maxRecDepth 100000 in
theorem kw_270 : Cond.instanceMethod ⟨"LeastPaths$Graph", "addNode", "()I"⟩ ∈ tlG := tl_at 337 rfl rfl
set_option maxRecDepth 100000 in
theorem kw_271 : Cond.selects "LeastPaths$Graph" ⟨"LeastPaths$Graph", "addNode", "()I"⟩ ⟨"LeastPaths$Graph", "addNode", "()I"⟩ ∈ tlG := tl_at 338 rfl rfl
set_option maxRecDepth 100000 in
theorem kw_272 : Cond.code ⟨"LeastPaths$Graph", "addNode", "()I"⟩ prog_3_method_4_code 2 (Option.some Jvm.ClassFile.FieldType.int) ∈ tlG := tl_at 339 rfl rfl
set_option maxRecDepth 100000 in
theorem kw_273 : Cond.methodLink "LeastPaths" 126 ⟨"LeastPaths$Graph", "hasNode", "(I)Z"⟩ ∈ tlG := tl_at 352 rfl rfl
set_option maxRecDepth 100000 in
theorem kw_274 : Cond.instanceMethod ⟨"LeastPaths$Graph", "hasNode", "(I)Z"⟩ ∈ tlG := tl_at 353 rfl rfl
set_option maxRecDepth 100000 in
theorem kw_275 : Cond.selects "LeastPaths$Graph" ⟨"LeastPaths$Graph", "hasNode", "(I)Z"⟩ ⟨"LeastPaths$Graph", "hasNode", "(I)Z"⟩ ∈ tlG := tl_at 354 rfl rfl
set_option maxRecDepth 100000 in
theorem kw_276 : Cond.code ⟨"LeastPaths$Graph", "hasNode", "(I)Z"⟩ prog_3_method_2_code 2 (Option.some Jvm.ClassFile.FieldType.boolean) ∈ tlG := tl_at 355 rfl rfl
set_option maxRecDepth 100000 in
theorem kw_277 : Cond.methodLink "LeastPaths" 160 ⟨"LeastPaths", "areNodes", "(II)Z"⟩ ∈ tlG := tl_at 348 rfl rfl
set_option maxRecDepth 100000 in
theorem kw_278 : Cond.instanceMethod ⟨"LeastPaths", "areNodes", "(II)Z"⟩ ∈ tlG := tl_at 350 rfl rfl
set_option maxRecDepth 100000 in
theorem kw_279 : Cond.selects "LeastPaths" ⟨"LeastPaths", "areNodes", "(II)Z"⟩ ⟨"LeastPaths", "areNodes", "(II)Z"⟩ ∈ tlG := tl_sel 1 rfl
set_option maxRecDepth 100000 in
theorem kw_280 : Cond.initialized "LeastPaths" ∈ tlG := tl_at 1 rfl rfl
set_option maxRecDepth 100000 in
theorem kw_281 : Cond.code ⟨"LeastPaths", "areNodes", "(II)Z"⟩ prog_1_method_28_code 3 (Option.some Jvm.ClassFile.FieldType.boolean) ∈ tlG := tl_at 351 rfl rfl
set_option maxRecDepth 100000 in
theorem kw_282 : Cond.methodLink "LeastPaths" 91 ⟨"LeastPaths", "isPair", "(II)Z"⟩ ∈ tlG := tl_at 344 rfl rfl
set_option maxRecDepth 100000 in
theorem kw_283 : Cond.instanceMethod ⟨"LeastPaths", "isPair", "(II)Z"⟩ ∈ tlG := tl_at 346 rfl rfl
set_option maxRecDepth 100000 in
theorem kw_284 : Cond.selects "LeastPaths" ⟨"LeastPaths", "isPair", "(II)Z"⟩ ⟨"LeastPaths", "isPair", "(II)Z"⟩ ∈ tlG := tl_sel 0 rfl
set_option maxRecDepth 100000 in
theorem kw_285 : Cond.code ⟨"LeastPaths", "isPair", "(II)Z"⟩ prog_1_method_29_code 3 (Option.some Jvm.ClassFile.FieldType.boolean) ∈ tlG := tl_at 347 rfl rfl
set_option maxRecDepth 100000 in
theorem kw_286 : Cond.constant "LeastPaths" 95 1000000 ∈ tlG := tl_at 356 rfl rfl
set_option maxRecDepth 100000 in
theorem kw_287 : Cond.fieldLink "LeastPaths" 96 "LeastPaths$Graph" "arcs" "I" ∈ tlG := tl_at 68 rfl rfl
set_option maxRecDepth 100000 in
theorem kw_288 : Cond.methodLink "LeastPaths" 99 ⟨"LeastPaths$Graph", "addArc", "(III)I"⟩ ∈ tlG := tl_at 357 rfl rfl
set_option maxRecDepth 100000 in
theorem kw_289 : Cond.instanceMethod ⟨"LeastPaths$Graph", "addArc", "(III)I"⟩ ∈ tlG := tl_at 358 rfl rfl
set_option maxRecDepth 100000 in
theorem kw_290 : Cond.selects "LeastPaths$Graph" ⟨"LeastPaths$Graph", "addArc", "(III)I"⟩ ⟨"LeastPaths$Graph", "addArc", "(III)I"⟩ ∈ tlG := tl_at 359 rfl rfl
set_option maxRecDepth 100000 in
theorem kw_291 : Cond.code ⟨"LeastPaths$Graph", "addArc", "(III)I"⟩ prog_3_method_5_code 5 (Option.some Jvm.ClassFile.FieldType.int) ∈ tlG := tl_at 360 rfl rfl
set_option maxRecDepth 100000 in
theorem kw_292 : Cond.methodLink "LeastPaths" 103 ⟨"LeastPaths$Graph", "hasArc", "(I)Z"⟩ ∈ tlG := tl_at 365 rfl rfl
set_option maxRecDepth 100000 in
theorem kw_293 : Cond.fieldLink "LeastPaths" 107 "LeastPaths$Graph" "above" "[I" ∈ tlG := tl_at 53 rfl rfl
set_option maxRecDepth 100000 in
theorem kw_294 : Cond.fieldLink "LeastPaths" 111 "LeastPaths$Graph" "below" "[I" ∈ tlG := tl_at 56 rfl rfl
set_option maxRecDepth 100000 in
theorem kw_295 : Cond.fieldLink "LeastPaths" 114 "LeastPaths$Graph" "live" "J" ∈ tlG := tl_at 74 rfl rfl
set_option maxRecDepth 100000 in
theorem kw_296 : Cond.constantLong "LeastPaths" 118 (-1) ∈ tlG := tl_at 373 rfl rfl
set_option maxRecDepth 100000 in
theorem kw_297 : Cond.methodLink "LeastPaths" 120 ⟨"java/lang/Long", "bitCount", "(J)I"⟩ ∈ tlG := tl_at 374 rfl rfl
set_option maxRecDepth 100000 in
theorem kw_298 : Cond.static ⟨"java/lang/Long", "bitCount", "(J)I"⟩ ∈ tlG := tl_at 375 rfl rfl
set_option maxRecDepth 100000 in
theorem kw_299 : Cond.initialized "java/lang/Long" ∈ tlG := tl_at 13 rfl rfl
set_option maxRecDepth 100000 in
theorem kw_300 : Cond.code ⟨"java/lang/Long", "bitCount", "(J)I"⟩ prog_13_method_50_code 2 (Option.some Jvm.ClassFile.FieldType.int) ∈ tlG := tl_at 376 rfl rfl
set_option maxRecDepth 100000 in
theorem kw_301 : Cond.fieldLink "LeastPaths" 129 "LeastPaths$Graph" "sources" "I" ∈ tlG := tl_at 75 rfl rfl
set_option maxRecDepth 100000 in
theorem kw_302 : Cond.fieldLink "LeastPaths" 132 "LeastPaths$Graph" "rest" "[I" ∈ tlG := tl_at 58 rfl rfl
set_option maxRecDepth 100000 in
theorem kw_303 : Cond.fieldLink "LeastPaths" 36 "LeastPaths" "ahead" "LLeastPaths$Search;" ∈ tlG := tl_at 302 rfl rfl
set_option maxRecDepth 100000 in
theorem kw_304 : Cond.methodLink "LeastPaths" 221 ⟨"LeastPaths$Search", "beginCounted", "(JI)V"⟩ ∈ tlG := tl_at 400 rfl rfl
set_option maxRecDepth 100000 in
theorem kw_305 : Cond.methodLink "LeastPaths" 225 ⟨"LeastPaths$Search", "offer", "(II)V"⟩ ∈ tlG := tl_at 412 rfl rfl
set_option maxRecDepth 100000 in
theorem kw_306 : Cond.methodLink "LeastPaths" 228 ⟨"LeastPaths$Search", "settleAll", "()V"⟩ ∈ tlG := tl_at 425 rfl rfl
set_option maxRecDepth 100000 in
theorem kw_307 : Cond.methodLink "LeastPaths" 135 ⟨"LeastPaths", "growTree", "()V"⟩ ∈ tlG := tl_at 396 rfl rfl
set_option maxRecDepth 100000 in
theorem kw_308 : Cond.instanceMethod ⟨"LeastPaths", "growTree", "()V"⟩ ∈ tlG := tl_at 398 rfl rfl
set_option maxRecDepth 100000 in
theorem kw_309 : Cond.selects "LeastPaths" ⟨"LeastPaths", "growTree", "()V"⟩ ⟨"LeastPaths", "growTree", "()V"⟩ ∈ tlG := tl_sel 2 rfl
set_option maxRecDepth 100000 in
theorem kw_310 : Cond.code ⟨"LeastPaths", "growTree", "()V"⟩ prog_1_method_30_code 2 (Option.none : Option Jvm.ClassFile.FieldType) ∈ tlG := tl_at 399 rfl rfl
set_option maxRecDepth 100000 in
theorem kw_311 : Cond.methodLink "LeastPaths" 138 ⟨"LeastPaths$Search", "knows", "(I)Z"⟩ ∈ tlG := tl_at 466 rfl rfl
set_option maxRecDepth 100000 in
theorem kw_312 : Cond.fieldLink "LeastPaths" 141 "LeastPaths$Search" "number" "[I" ∈ tlG := tl_at 134 rfl rfl
set_option maxRecDepth 100000 in
theorem kw_313 : Cond.methodLink "LeastPaths" 144 ⟨"LeastPaths$Search", "lastArc", "(I)I"⟩ ∈ tlG := tl_at 478 rfl rfl
set_option maxRecDepth 100000 in
theorem kw_314 : Cond.methodLink "LeastPaths" 148 ⟨"LeastPaths$Search", "countWays", "(I)I"⟩ ∈ tlG := tl_at 491 rfl rfl
set_option maxRecDepth 100000 in
theorem kw_315 : Cond.instanceMethod ⟨"LeastPaths$Search", "countWays", "(I)I"⟩ ∈ tlG := tl_at 492 rfl rfl
set_option maxRecDepth 100000 in
theorem kw_316 : Cond.selects "LeastPaths$Search" ⟨"LeastPaths$Search", "countWays", "(I)I"⟩ ⟨"LeastPaths$Search", "countWays", "(I)I"⟩ ∈ tlG := tl_at 493 rfl rfl
set_option maxRecDepth 100000 in
theorem kw_317 : Cond.code ⟨"LeastPaths$Search", "countWays", "(I)I"⟩ prog_6_method_13_code 6 (Option.some Jvm.ClassFile.FieldType.int) ∈ tlG := tl_at 494 rfl rfl
set_option maxRecDepth 100000 in
theorem kw_318 : Cond.fieldLink "LeastPaths" 231 "LeastPaths$Graph" "from" "[I" ∈ tlG := tl_at 39 rfl rfl
set_option maxRecDepth 100000 in
theorem kw_319 : Cond.methodLink "LeastPaths" 151 ⟨"LeastPaths", "treeArc", "(II)I"⟩ ∈ tlG := tl_at 499 rfl rfl
set_option maxRecDepth 100000 in
theorem kw_320 : Cond.instanceMethod ⟨"LeastPaths", "treeArc", "(II)I"⟩ ∈ tlG := tl_at 501 rfl rfl
set_option maxRecDepth 100000 in
theorem kw_321 : Cond.selects "LeastPaths" ⟨"LeastPaths", "treeArc", "(II)I"⟩ ⟨"LeastPaths", "treeArc", "(II)I"⟩ ∈ tlG := tl_sel 11 rfl
set_option maxRecDepth 100000 in
theorem kw_322 : Cond.code ⟨"LeastPaths", "treeArc", "(II)I"⟩ prog_1_method_31_code 6 (Option.some Jvm.ClassFile.FieldType.int) ∈ tlG := tl_at 502 rfl rfl
set_option maxRecDepth 100000 in
theorem kw_323 : Cond.fieldLink "LeastPaths" 154 "LeastPaths$Search" "known" "I" ∈ tlG := tl_at 140 rfl rfl
set_option maxRecDepth 100000 in
theorem kw_324 : Cond.methodLink "LeastPaths" 157 ⟨"LeastPaths$Graph", "restsLeadTo", "(I)Z"⟩ ∈ tlG := tl_at 511 rfl rfl
set_option maxRecDepth 100000 in
theorem kw_325 : Cond.instanceMethod ⟨"LeastPaths$Graph", "restsLeadTo", "(I)Z"⟩ ∈ tlG := tl_at 512 rfl rfl
set_option maxRecDepth 100000 in
theorem kw_326 : Cond.selects "LeastPaths$Graph" ⟨"LeastPaths$Graph", "restsLeadTo", "(I)Z"⟩ ⟨"LeastPaths$Graph", "restsLeadTo", "(I)Z"⟩ ∈ tlG := tl_at 513 rfl rfl
set_option maxRecDepth 100000 in
theorem kw_327 : Cond.code ⟨"LeastPaths$Graph", "restsLeadTo", "(I)Z"⟩ prog_3_method_6_code 3 (Option.some Jvm.ClassFile.FieldType.boolean) ∈ tlG := tl_at 514 rfl rfl
set_option maxRecDepth 100000 in
theorem kw_328 : Cond.methodLink "LeastPaths" 163 ⟨"LeastPaths$Search", "goLed", "(II)V"⟩ ∈ tlG := tl_at 520 rfl rfl
set_option maxRecDepth 100000 in
theorem kw_329 : Cond.instanceMethod ⟨"LeastPaths$Search", "goLed", "(II)V"⟩ ∈ tlG := tl_at 521 rfl rfl
set_option maxRecDepth 100000 in
theorem kw_330 : Cond.selects "LeastPaths$Search" ⟨"LeastPaths$Search", "goLed", "(II)V"⟩ ⟨"LeastPaths$Search", "goLed", "(II)V"⟩ ∈ tlG := tl_at 522 rfl rfl
set_option maxRecDepth 100000 in
theorem kw_331 : Cond.code ⟨"LeastPaths$Search", "goLed", "(II)V"⟩ prog_6_method_11_code 5 (Option.none : Option Jvm.ClassFile.FieldType) ∈ tlG := tl_at 523 rfl rfl
set_option maxRecDepth 100000 in
theorem kw_332 : Cond.fieldLink "LeastPaths" 167 "LeastPaths$Search" "settled" "I" ∈ tlG := tl_at 138 rfl rfl
set_option maxRecDepth 100000 in
theorem kw_333 : Cond.fieldLink "LeastPaths" 48 "LeastPaths" "sides" "LLeastPaths$BothSides;" ∈ tlG := tl_at 304 rfl rfl
set_option maxRecDepth 100000 in
theorem kw_334 : Cond.methodLink "LeastPaths" 170 ⟨"LeastPaths$BothSides", "meet", "(II)V"⟩ ∈ tlG := tl_at 536 rfl rfl
set_option maxRecDepth 100000 in
theorem kw_335 : Cond.instanceMethod ⟨"LeastPaths$BothSides", "meet", "(II)V"⟩ ∈ tlG := tl_at 537 rfl rfl
set_option maxRecDepth 100000 in
theorem kw_336 : Cond.selects "LeastPaths$BothSides" ⟨"LeastPaths$BothSides", "meet", "(II)V"⟩ ⟨"LeastPaths$BothSides", "meet", "(II)V"⟩ ∈ tlG := tl_at 538 rfl rfl
set_option maxRecDepth 100000 in
theorem kw_337 : Cond.code ⟨"LeastPaths$BothSides", "meet", "(II)V"⟩ prog_2_method_2_code 4 (Option.none : Option Jvm.ClassFile.FieldType) ∈ tlG := tl_at 539 rfl rfl
set_option maxRecDepth 100000 in
theorem kw_338 : Cond.fieldLink "LeastPaths" 40 "LeastPaths" "back" "LLeastPaths$Search;" ∈ tlG := tl_at 303 rfl rfl
set_option maxRecDepth 100000 in
theorem kw_339 : Cond.fieldLink "LeastPaths" 173 "LeastPaths$BothSides" "best" "I" ∈ tlG := tl_at 179 rfl rfl
set_option maxRecDepth 100000 in
theorem kw_340 : Cond.constant "LeastPaths" 176 2147483647 ∈ tlG := tl_at 568 rfl rfl
set_option maxRecDepth 100000 in
theorem kw_341 : Cond.fieldLink "LeastPaths" 57 "LeastPaths" "row" "LLeastPaths$Row;" ∈ tlG := tl_at 305 rfl rfl
set_option maxRecDepth 100000 in
theorem kw_342 : Cond.methodLink "LeastPaths" 177 ⟨"LeastPaths$Row", "fill", "(III)V"⟩ ∈ tlG := tl_at 573 rfl rfl
set_option maxRecDepth 100000 in
theorem kw_343 : Cond.instanceMethod ⟨"LeastPaths$Row", "fill", "(III)V"⟩ ∈ tlG := tl_at 574 rfl rfl
set_option maxRecDepth 100000 in
theorem kw_344 : Cond.selects "LeastPaths$Row" ⟨"LeastPaths$Row", "fill", "(III)V"⟩ ⟨"LeastPaths$Row", "fill", "(III)V"⟩ ∈ tlG := tl_at 575 rfl rfl
set_option maxRecDepth 100000 in
theorem kw_345 : Cond.code ⟨"LeastPaths$Row", "fill", "(III)V"⟩ prog_5_method_2_code 7 (Option.none : Option Jvm.ClassFile.FieldType) ∈ tlG := tl_at 576 rfl rfl
set_option maxRecDepth 100000 in
theorem kw_346 : Cond.fieldLink "LeastPaths" 181 "LeastPaths$Row" "size" "I" ∈ tlG := tl_at 230 rfl rfl
set_option maxRecDepth 100000 in
theorem kw_347 : Cond.fieldLink "LeastPaths" 184 "LeastPaths$Row" "ways" "[LLeastPaths$Way;" ∈ tlG := tl_at 227 rfl rfl
set_option maxRecDepth 100000 in
theorem kw_348 : Cond.fieldLink "LeastPaths" 188 "LeastPaths$Way" "number" "I" ∈ tlG := tl_at 208 rfl rfl
set_option maxRecDepth 100000 in
theorem kw_349 : Cond.methodLink "LeastPaths" 192 ⟨"LeastPaths$Way", "arcAt", "(I)I"⟩ ∈ tlG := tl_at 613 rfl rfl
set_option maxRecDepth 100000 in
theorem kw_350 : Cond.instanceMethod ⟨"LeastPaths$Way", "arcAt", "(I)I"⟩ ∈ tlG := tl_at 614 rfl rfl
set_option maxRecDepth 100000 in
theorem kw_351 : Cond.selects "LeastPaths$Way" ⟨"LeastPaths$Way", "arcAt", "(I)I"⟩ ⟨"LeastPaths$Way", "arcAt", "(I)I"⟩ ∈ tlG := tl_at 615 rfl rfl
set_option maxRecDepth 100000 in
theorem kw_352 : Cond.code ⟨"LeastPaths$Way", "arcAt", "(I)I"⟩ prog_9_method_4_code 2 (Option.some Jvm.ClassFile.FieldType.int) ∈ tlG := tl_at 616 rfl rfl
set_option maxRecDepth 100000 in
theorem kw_353 : Cond.fieldLink "LeastPaths" 73 "LeastPaths" "widths" "LLeastPaths$Widths;" ∈ tlG := tl_at 307 rfl rfl
set_option maxRecDepth 100000 in
theorem kw_354 : Cond.methodLink "LeastPaths" 195 ⟨"LeastPaths$Widths", "spread", "(I)V"⟩ ∈ tlG := tl_at 621 rfl rfl
set_option maxRecDepth 100000 in
theorem kw_355 : Cond.instanceMethod ⟨"LeastPaths$Widths", "spread", "(I)V"⟩ ∈ tlG := tl_at 622 rfl rfl
set_option maxRecDepth 100000 in
theorem kw_356 : Cond.selects "LeastPaths$Widths" ⟨"LeastPaths$Widths", "spread", "(I)V"⟩ ⟨"LeastPaths$Widths", "spread", "(I)V"⟩ ∈ tlG := tl_at 623 rfl rfl
set_option maxRecDepth 100000 in
theorem kw_357 : Cond.initialized "LeastPaths$Widths" ∈ tlG := tl_at 10 rfl rfl
set_option maxRecDepth 100000 in
theorem kw_358 : Cond.code ⟨"LeastPaths$Widths", "spread", "(I)V"⟩ prog_10_method_2_code 5 (Option.none : Option Jvm.ClassFile.FieldType) ∈ tlG := tl_at 624 rfl rfl
set_option maxRecDepth 100000 in
theorem kw_359 : Cond.fieldLink "LeastPaths" 199 "LeastPaths$Widths" "width" "[I" ∈ tlG := tl_at 278 rfl rfl
set_option maxRecDepth 100000 in
theorem kw_360 : Cond.fieldLink "LeastPaths" 80 "LeastPaths" "trusts" "LLeastPaths$Trusts;" ∈ tlG := tl_at 308 rfl rfl
set_option maxRecDepth 100000 in
theorem kw_361 : Cond.methodLink "LeastPaths" 202 ⟨"LeastPaths$Trusts", "spread", "(I)V"⟩ ∈ tlG := tl_at 633 rfl rfl
set_option maxRecDepth 100000 in
theorem kw_362 : Cond.instanceMethod ⟨"LeastPaths$Trusts", "spread", "(I)V"⟩ ∈ tlG := tl_at 634 rfl rfl
set_option maxRecDepth 100000 in
theorem kw_363 : Cond.selects "LeastPaths$Trusts" ⟨"LeastPaths$Trusts", "spread", "(I)V"⟩ ⟨"LeastPaths$Trusts", "spread", "(I)V"⟩ ∈ tlG := tl_at 635 rfl rfl
set_option maxRecDepth 100000 in
theorem kw_364 : Cond.code ⟨"LeastPaths$Trusts", "spread", "(I)V"⟩ prog_7_method_3_code 4 (Option.none : Option Jvm.ClassFile.FieldType) ∈ tlG := tl_at 636 rfl rfl
set_option maxRecDepth 100000 in
theorem kw_365 : Cond.methodLink "LeastPaths" 203 ⟨"LeastPaths$Trusts", "knows", "(I)Z"⟩ ∈ tlG := tl_at 646 rfl rfl
set_option maxRecDepth 100000 in
theorem kw_366 : Cond.methodLink "LeastPaths" 204 ⟨"LeastPaths$Trusts", "lowestTerm", "(II)I"⟩ ∈ tlG := tl_at 647 rfl rfl
set_option maxRecDepth 100000 in
theorem kw_367 : Cond.instanceMethod ⟨"LeastPaths$Trusts", "lowestTerm", "(II)I"⟩ ∈ tlG := tl_at 648 rfl rfl
set_option maxRecDepth 100000 in
theorem kw_368 : Cond.selects "LeastPaths$Trusts" ⟨"LeastPaths$Trusts", "lowestTerm", "(II)I"⟩ ⟨"LeastPaths$Trusts", "lowestTerm", "(II)I"⟩ ∈ tlG := tl_at 649 rfl rfl
set_option maxRecDepth 100000 in
theorem kw_369 : Cond.code ⟨"LeastPaths$Trusts", "lowestTerm", "(II)I"⟩ prog_7_method_5_code 7 (Option.some Jvm.ClassFile.FieldType.int) ∈ tlG := tl_at 650 rfl rfl
set_option maxRecDepth 100000 in
theorem kw_370 : Cond.fieldLink "LeastPaths" 64 "LeastPaths" "rings" "LLeastPaths$Rings;" ∈ tlG := tl_at 306 rfl rfl
set_option maxRecDepth 100000 in
theorem kw_371 : Cond.methodLink "LeastPaths" 207 ⟨"LeastPaths$Rings", "find", "()V"⟩ ∈ tlG := tl_at 658 rfl rfl
set_option maxRecDepth 100000 in
theorem kw_372 : Cond.instanceMethod ⟨"LeastPaths$Rings", "find", "()V"⟩ ∈ tlG := tl_at 659 rfl rfl
set_option maxRecDepth 100000 in
theorem kw_373 : Cond.selects "LeastPaths$Rings" ⟨"LeastPaths$Rings", "find", "()V"⟩ ⟨"LeastPaths$Rings", "find", "()V"⟩ ∈ tlG := tl_at 660 rfl rfl
set_option maxRecDepth 100000 in
theorem kw_374 : Cond.code ⟨"LeastPaths$Rings", "find", "()V"⟩ prog_4_method_2_code 2 (Option.none : Option Jvm.ClassFile.FieldType) ∈ tlG := tl_at 661 rfl rfl
set_option maxRecDepth 100000 in
theorem kw_375 : Cond.fieldLink "LeastPaths" 210 "LeastPaths$Rings" "least" "LLeastPaths$Way;" ∈ tlG := tl_at 262 rfl rfl
set_option maxRecDepth 100000 in
theorem kw_376 : Cond.fieldLink "LeastPaths" 214 "LeastPaths$Way" "count" "I" ∈ tlG := tl_at 205 rfl rfl
set_option maxRecDepth 100000 in
theorem kw_377 : Cond.methodLink "LeastPaths" 217 ⟨"LeastPaths", "lengthWithout", "(IIJ)I"⟩ ∈ tlG := tl_at 683 rfl rfl
set_option maxRecDepth 100000 in
theorem kw_378 : Cond.instanceMethod ⟨"LeastPaths", "lengthWithout", "(IIJ)I"⟩ ∈ tlG := tl_at 685 rfl rfl
set_option maxRecDepth 100000 in
theorem kw_379 : Cond.selects "LeastPaths" ⟨"LeastPaths", "lengthWithout", "(IIJ)I"⟩ ⟨"LeastPaths", "lengthWithout", "(IIJ)I"⟩ ∈ tlG := tl_sel 18 rfl
set_option maxRecDepth 100000 in
theorem kw_380 : Cond.code ⟨"LeastPaths", "lengthWithout", "(IIJ)I"⟩ prog_1_method_32_code 5 (Option.some Jvm.ClassFile.FieldType.int) ∈ tlG := tl_at 686 rfl rfl
set_option maxRecDepth 100000 in
theorem kw_381 : Cond.fieldLink "LeastPathsModel" 82 "LeastPathsModel" "heap" "I" ∈ tlG := tl_at 696 rfl rfl
set_option maxRecDepth 100000 in
theorem kw_382 : Cond.fieldLink "LeastPathsModel" 85 "LeastPathsModel" "nodes" "I" ∈ tlG := tl_at 697 rfl rfl
set_option maxRecDepth 100000 in
theorem kw_383 : Cond.fieldLink "LeastPathsModel" 88 "LeastPathsModel" "arcs" "I" ∈ tlG := tl_at 698 rfl rfl
set_option maxRecDepth 100000 in
theorem kw_384 : Cond.fieldLink "LeastPathsModel" 25 "LeastPathsModel" "alive" "[Z" ∈ tlG := tl_at 704 rfl rfl
set_option maxRecDepth 100000 in
theorem kw_385 : Cond.fieldLink "LeastPathsModel" 59 "LeastPathsModel" "rowFrom" "I" ∈ tlG := tl_at 717 rfl rfl
set_option maxRecDepth 100000 in
theorem kw_386 : Cond.fieldLink "LeastPathsModel" 29 "LeastPathsModel" "isSource" "[Z" ∈ tlG := tl_at 705 rfl rfl
set_option maxRecDepth 100000 in
theorem kw_387 : Cond.fieldLink "LeastPathsModel" 32 "LeastPathsModel" "rests" "[I" ∈ tlG := tl_at 706 rfl rfl
set_option maxRecDepth 100000 in
theorem kw_388 : Cond.methodLink "LeastPathsModel" 91 ⟨"LeastPathsModel", "change", "()V"⟩ ∈ tlG := tl_at 802 rfl rfl
set_option maxRecDepth 100000 in
theorem kw_389 : Cond.instanceMethod ⟨"LeastPathsModel", "change", "()V"⟩ ∈ tlG := tl_at 804 rfl rfl
set_option maxRecDepth 100000 in
theorem kw_390 : Cond.selects "LeastPathsModel" ⟨"LeastPathsModel", "change", "()V"⟩ ⟨"LeastPathsModel", "change", "()V"⟩ ∈ tlG := tl_sel 19 rfl
set_option maxRecDepth 100000 in
theorem kw_391 : Cond.initialized "LeastPathsModel" ∈ tlG := tl_at 12 rfl rfl
set_option maxRecDepth 100000 in
theorem kw_392 : Cond.code ⟨"LeastPathsModel", "change", "()V"⟩ prog_12_method_5_code 1 (Option.none : Option Jvm.ClassFile.FieldType) ∈ tlG := tl_at 805 rfl rfl
set_option maxRecDepth 100000 in
theorem kw_393 : Cond.methodLink "LeastPathsModel" 94 ⟨"LeastPathsModel", "isNode", "(I)Z"⟩ ∈ tlG := tl_at 810 rfl rfl
set_option maxRecDepth 100000 in
theorem kw_394 : Cond.instanceMethod ⟨"LeastPathsModel", "isNode", "(I)Z"⟩ ∈ tlG := tl_at 812 rfl rfl
set_option maxRecDepth 100000 in
theorem kw_395 : Cond.selects "LeastPathsModel" ⟨"LeastPathsModel", "isNode", "(I)Z"⟩ ⟨"LeastPathsModel", "isNode", "(I)Z"⟩ ∈ tlG := tl_sel 20 rfl
set_option maxRecDepth 100000 in
theorem kw_396 : Cond.code ⟨"LeastPathsModel", "isNode", "(I)Z"⟩ prog_12_method_3_code 2 (Option.some Jvm.ClassFile.FieldType.boolean) ∈ tlG := tl_at 813 rfl rfl
set_option maxRecDepth 100000 in
theorem kw_397 : Cond.constant "LeastPathsModel" 98 1000000 ∈ tlG := tl_at 814 rfl rfl
set_option maxRecDepth 100000 in
theorem kw_398 : Cond.fieldLink "LeastPathsModel" 7 "LeastPathsModel" "from" "[I" ∈ tlG := tl_at 699 rfl rfl
set_option maxRecDepth 100000 in
theorem kw_399 : Cond.fieldLink "LeastPathsModel" 13 "LeastPathsModel" "to" "[I" ∈ tlG := tl_at 700 rfl rfl
set_option maxRecDepth 100000 in
theorem kw_400 : Cond.fieldLink "LeastPathsModel" 16 "LeastPathsModel" "weight" "[I" ∈ tlG := tl_at 701 rfl rfl
set_option maxRecDepth 100000 in
theorem kw_401 : Cond.fieldLink "LeastPathsModel" 19 "LeastPathsModel" "above" "[I" ∈ tlG := tl_at 702 rfl rfl
set_option maxRecDepth 100000 in
theorem kw_402 : Cond.fieldLink "LeastPathsModel" 22 "LeastPathsModel" "below" "[I" ∈ tlG := tl_at 703 rfl rfl
set_option maxRecDepth 100000 in
theorem kw_403 : Cond.methodLink "LeastPathsModel" 99 ⟨"LeastPathsModel", "isArc", "(I)Z"⟩ ∈ tlG := tl_at 819 rfl rfl
set_option maxRecDepth 100000 in
theorem kw_404 : Cond.instanceMethod ⟨"LeastPathsModel", "isArc", "(I)Z"⟩ ∈ tlG := tl_at 821 rfl rfl
set_option maxRecDepth 100000 in
theorem kw_405 : Cond.selects "LeastPathsModel" ⟨"LeastPathsModel", "isArc", "(I)Z"⟩ ⟨"LeastPathsModel", "isArc", "(I)Z"⟩ ∈ tlG := tl_sel 21 rfl
set_option maxRecDepth 100000 in
theorem kw_406 : Cond.code ⟨"LeastPathsModel", "isArc", "(I)Z"⟩ prog_12_method_4_code 2 (Option.some Jvm.ClassFile.FieldType.boolean) ∈ tlG := tl_at 822 rfl rfl
set_option maxRecDepth 100000 in
theorem kw_407 : Cond.fieldLink "LeastPathsModel" 35 "LeastPathsModel" "far" "[I" ∈ tlG := tl_at 707 rfl rfl
set_option maxRecDepth 100000 in
theorem kw_408 : Cond.constant "LeastPathsModel" 102 1000000000 ∈ tlG := tl_at 847 rfl rfl
set_option maxRecDepth 100000 in
theorem kw_409 : Cond.fieldLink "LeastPathsModel" 38 "LeastPathsModel" "hop" "[I" ∈ tlG := tl_at 708 rfl rfl
set_option maxRecDepth 100000 in
theorem kw_410 : Cond.methodLink "LeastPathsModel" 103 ⟨"LeastPathsModel", "relax", "(I)V"⟩ ∈ tlG := tl_at 848 rfl rfl
set_option maxRecDepth 100000 in
theorem kw_411 : Cond.instanceMethod ⟨"LeastPathsModel", "relax", "(I)V"⟩ ∈ tlG := tl_at 850 rfl rfl
set_option maxRecDepth 100000 in
theorem kw_412 : Cond.selects "LeastPathsModel" ⟨"LeastPathsModel", "relax", "(I)V"⟩ ⟨"LeastPathsModel", "relax", "(I)V"⟩ ∈ tlG := tl_sel 23 rfl
set_option maxRecDepth 100000 in
theorem kw_413 : Cond.code ⟨"LeastPathsModel", "relax", "(I)V"⟩ prog_12_method_14_code 7 (Option.none : Option Jvm.ClassFile.FieldType) ∈ tlG := tl_at 851 rfl rfl
set_option maxRecDepth 100000 in
theorem kw_414 : Cond.methodLink "LeastPathsModel" 107 ⟨"LeastPathsModel", "findFar", "()V"⟩ ∈ tlG := tl_at 843 rfl rfl
set_option maxRecDepth 100000 in
theorem kw_415 : Cond.instanceMethod ⟨"LeastPathsModel", "findFar", "()V"⟩ ∈ tlG := tl_at 845 rfl rfl
set_option maxRecDepth 100000 in
theorem kw_416 : Cond.selects "LeastPathsModel" ⟨"LeastPathsModel", "findFar", "()V"⟩ ⟨"LeastPathsModel", "findFar", "()V"⟩ ∈ tlG := tl_sel 22 rfl
set_option maxRecDepth 100000 in
theorem kw_417 : Cond.code ⟨"LeastPathsModel", "findFar", "()V"⟩ prog_12_method_13_code 2 (Option.none : Option Jvm.ClassFile.FieldType) ∈ tlG := tl_at 846 rfl rfl
set_option maxRecDepth 100000 in
theorem kw_418 : Cond.methodLink "LeastPathsModel" 110 ⟨"LeastPathsModel", "stepOf", "(I)I"⟩ ∈ tlG := tl_at 860 rfl rfl
set_option maxRecDepth 100000 in
theorem kw_419 : Cond.instanceMethod ⟨"LeastPathsModel", "stepOf", "(I)I"⟩ ∈ tlG := tl_at 862 rfl rfl
set_option maxRecDepth 100000 in
theorem kw_420 : Cond.selects "LeastPathsModel" ⟨"LeastPathsModel", "stepOf", "(I)I"⟩ ⟨"LeastPathsModel", "stepOf", "(I)I"⟩ ∈ tlG := tl_sel 24 rfl
set_option maxRecDepth 100000 in
theorem kw_421 : Cond.code ⟨"LeastPathsModel", "stepOf", "(I)I"⟩ prog_12_method_15_code 4 (Option.some Jvm.ClassFile.FieldType.int) ∈ tlG := tl_at 863 rfl rfl
set_option maxRecDepth 100000 in
theorem kw_422 : Cond.fieldLink "LeastPathsModel" 41 "LeastPathsModel" "many" "[I" ∈ tlG := tl_at 709 rfl rfl
set_option maxRecDepth 100000 in
theorem kw_423 : Cond.fieldLink "LeastPathsModel" 44 "LeastPathsModel" "number" "[I" ∈ tlG := tl_at 710 rfl rfl
set_option maxRecDepth 100000 in
theorem kw_424 : Cond.fieldLink "LeastPathsModel" 47 "LeastPathsModel" "settled" "[Z" ∈ tlG := tl_at 711 rfl rfl
set_option maxRecDepth 100000 in
theorem kw_425 : Cond.methodLink "LeastPathsModel" 114 ⟨"LeastPathsModel", "beginSearch", "(II)V"⟩ ∈ tlG := tl_at 888 rfl rfl
set_option maxRecDepth 100000 in
theorem kw_426 : Cond.instanceMethod ⟨"LeastPathsModel", "beginSearch", "(II)V"⟩ ∈ tlG := tl_at 890 rfl rfl
set_option maxRecDepth 100000 in
theorem kw_427 : Cond.selects "LeastPathsModel" ⟨"LeastPathsModel", "beginSearch", "(II)V"⟩ ⟨"LeastPathsModel", "beginSearch", "(II)V"⟩ ∈ tlG := tl_sel 26 rfl
set_option maxRecDepth 100000 in
theorem kw_428 : Cond.code ⟨"LeastPathsModel", "beginSearch", "(II)V"⟩ prog_12_method_22_code 4 (Option.none : Option Jvm.ClassFile.FieldType) ∈ tlG := tl_at 891 rfl rfl
set_option maxRecDepth 100000 in
theorem kw_429 : Cond.methodLink "LeastPathsModel" 118 ⟨"LeastPathsModel", "leastOf", "(IZ)I"⟩ ∈ tlG := tl_at 892 rfl rfl
set_option maxRecDepth 100000 in
theorem kw_430 : Cond.instanceMethod ⟨"LeastPathsModel", "leastOf", "(IZ)I"⟩ ∈ tlG := tl_at 894 rfl rfl
set_option maxRecDepth 100000 in
theorem kw_431 : Cond.selects "LeastPathsModel" ⟨"LeastPathsModel", "leastOf", "(IZ)I"⟩ ⟨"LeastPathsModel", "leastOf", "(IZ)I"⟩ ∈ tlG := tl_sel 27 rfl
set_option maxRecDepth 100000 in
theorem kw_432 : Cond.code ⟨"LeastPathsModel", "leastOf", "(IZ)I"⟩ prog_12_method_23_code 7 (Option.some Jvm.ClassFile.FieldType.int) ∈ tlG := tl_at 895 rfl rfl
set_option maxRecDepth 100000 in
theorem kw_433 : Cond.methodLink "LeastPathsModel" 122 ⟨"LeastPathsModel", "settle", "(II)V"⟩ ∈ tlG := tl_at 896 rfl rfl
set_option maxRecDepth 100000 in
theorem kw_434 : Cond.instanceMethod ⟨"LeastPathsModel", "settle", "(II)V"⟩ ∈ tlG := tl_at 898 rfl rfl
set_option maxRecDepth 100000 in
theorem kw_435 : Cond.selects "LeastPathsModel" ⟨"LeastPathsModel", "settle", "(II)V"⟩ ⟨"LeastPathsModel", "settle", "(II)V"⟩ ∈ tlG := tl_sel 28 rfl
set_option maxRecDepth 100000 in
theorem kw_436 : Cond.code ⟨"LeastPathsModel", "settle", "(II)V"⟩ prog_12_method_24_code 3 (Option.none : Option Jvm.ClassFile.FieldType) ∈ tlG := tl_at 899 rfl rfl
set_option maxRecDepth 100000 in
theorem kw_437 : Cond.methodLink "LeastPathsModel" 125 ⟨"LeastPathsModel", "spread", "(II)V"⟩ ∈ tlG := tl_at 900 rfl rfl
set_option maxRecDepth 100000 in
theorem kw_438 : Cond.instanceMethod ⟨"LeastPathsModel", "spread", "(II)V"⟩ ∈ tlG := tl_at 902 rfl rfl
set_option maxRecDepth 100000 in
theorem kw_439 : Cond.selects "LeastPathsModel" ⟨"LeastPathsModel", "spread", "(II)V"⟩ ⟨"LeastPathsModel", "spread", "(II)V"⟩ ∈ tlG := tl_sel 29 rfl
set_option maxRecDepth 100000 in
theorem kw_440 : Cond.code ⟨"LeastPathsModel", "spread", "(II)V"⟩ prog_12_method_25_code 7 (Option.none : Option Jvm.ClassFile.FieldType) ∈ tlG := tl_at 903 rfl rfl
set_option maxRecDepth 100000 in
theorem kw_441 : Cond.methodLink "LeastPathsModel" 128 ⟨"LeastPathsModel", "search", "(II)I"⟩ ∈ tlG := tl_at 884 rfl rfl
set_option maxRecDepth 100000 in
theorem kw_442 : Cond.instanceMethod ⟨"LeastPathsModel", "search", "(II)I"⟩ ∈ tlG := tl_at 886 rfl rfl
set_option maxRecDepth 100000 in
theorem kw_443 : Cond.selects "LeastPathsModel" ⟨"LeastPathsModel", "search", "(II)I"⟩ ⟨"LeastPathsModel", "search", "(II)I"⟩ ∈ tlG := tl_sel 25 rfl
set_option maxRecDepth 100000 in
theorem kw_444 : Cond.code ⟨"LeastPathsModel", "search", "(II)I"⟩ prog_12_method_26_code 5 (Option.some Jvm.ClassFile.FieldType.int) ∈ tlG := tl_at 887 rfl rfl
set_option maxRecDepth 100000 in
theorem kw_445 : Cond.methodLink "LeastPathsModel" 132 ⟨"LeastPathsModel", "best", "()I"⟩ ∈ tlG := tl_at 916 rfl rfl
set_option maxRecDepth 100000 in
theorem kw_446 : Cond.instanceMethod ⟨"LeastPathsModel", "best", "()I"⟩ ∈ tlG := tl_at 918 rfl rfl
set_option maxRecDepth 100000 in
theorem kw_447 : Cond.selects "LeastPathsModel" ⟨"LeastPathsModel", "best", "()I"⟩ ⟨"LeastPathsModel", "best", "()I"⟩ ∈ tlG := tl_sel 31 rfl
set_option maxRecDepth 100000 in
theorem kw_448 : Cond.code ⟨"LeastPathsModel", "best", "()I"⟩ prog_12_method_30_code 3 (Option.some Jvm.ClassFile.FieldType.int) ∈ tlG := tl_at 919 rfl rfl
set_option maxRecDepth 100000 in
theorem kw_449 : Cond.methodLink "LeastPathsModel" 136 ⟨"LeastPathsModel", "searchBoth", "(II)I"⟩ ∈ tlG := tl_at 912 rfl rfl
set_option maxRecDepth 100000 in
theorem kw_450 : Cond.instanceMethod ⟨"LeastPathsModel", "searchBoth", "(II)I"⟩ ∈ tlG := tl_at 914 rfl rfl
set_option maxRecDepth 100000 in
theorem kw_451 : Cond.selects "LeastPathsModel" ⟨"LeastPathsModel", "searchBoth", "(II)I"⟩ ⟨"LeastPathsModel", "searchBoth", "(II)I"⟩ ∈ tlG := tl_sel 30 rfl
set_option maxRecDepth 100000 in
theorem kw_452 : Cond.code ⟨"LeastPathsModel", "searchBoth", "(II)I"⟩ prog_12_method_31_code 8 (Option.some Jvm.ClassFile.FieldType.int) ∈ tlG := tl_at 915 rfl rfl
set_option maxRecDepth 100000 in
theorem kw_453 : Cond.fieldLink "LeastPathsModel" 139 "LeastPathsModel" "size" "I" ∈ tlG := tl_at 715 rfl rfl
set_option maxRecDepth 100000 in
theorem kw_454 : Cond.fieldLink "LeastPathsModel" 142 "LeastPathsModel" "length" "I" ∈ tlG := tl_at 716 rfl rfl
set_option maxRecDepth 100000 in
theorem kw_455 : Cond.fieldLink "LeastPathsModel" 50 "LeastPathsModel" "path" "[I" ∈ tlG := tl_at 712 rfl rfl
set_option maxRecDepth 100000 in
theorem kw_456 : Cond.fieldLink "LeastPathsModel" 56 "LeastPathsModel" "place" "[I" ∈ tlG := tl_at 714 rfl rfl
set_option maxRecDepth 100000 in
theorem kw_457 : Cond.methodLink "LeastPathsModel" 145 ⟨"LeastPathsModel", "back", "()Z"⟩ ∈ tlG := tl_at 936 rfl rfl
set_option maxRecDepth 100000 in
theorem kw_458 : Cond.instanceMethod ⟨"LeastPathsModel", "back", "()Z"⟩ ∈ tlG := tl_at 938 rfl rfl
set_option maxRecDepth 100000 in
theorem kw_459 : Cond.selects "LeastPathsModel" ⟨"LeastPathsModel", "back", "()Z"⟩ ⟨"LeastPathsModel", "back", "()Z"⟩ ∈ tlG := tl_sel 34 rfl
set_option maxRecDepth 100000 in
theorem kw_460 : Cond.code ⟨"LeastPathsModel", "back", "()Z"⟩ prog_12_method_35_code 1 (Option.some Jvm.ClassFile.FieldType.boolean) ∈ tlG := tl_at 939 rfl rfl
set_option maxRecDepth 100000 in
theorem kw_461 : Cond.fieldLink "LeastPathsModel" 53 "LeastPathsModel" "tried" "[I" ∈ tlG := tl_at 713 rfl rfl
set_option maxRecDepth 100000 in
theorem kw_462 : Cond.methodLink "LeastPathsModel" 149 ⟨"LeastPathsModel", "canGo", "(III)Z"⟩ ∈ tlG := tl_at 940 rfl rfl
set_option maxRecDepth 100000 in
theorem kw_463 : Cond.instanceMethod ⟨"LeastPathsModel", "canGo", "(III)Z"⟩ ∈ tlG := tl_at 942 rfl rfl
set_option maxRecDepth 100000 in
theorem kw_464 : Cond.selects "LeastPathsModel" ⟨"LeastPathsModel", "canGo", "(III)Z"⟩ ⟨"LeastPathsModel", "canGo", "(III)Z"⟩ ∈ tlG := tl_sel 35 rfl
set_option maxRecDepth 100000 in
theorem kw_465 : Cond.code ⟨"LeastPathsModel", "canGo", "(III)Z"⟩ prog_12_method_36_code 5 (Option.some Jvm.ClassFile.FieldType.boolean) ∈ tlG := tl_at 943 rfl rfl
set_option maxRecDepth 100000 in
theorem kw_466 : Cond.fieldLink "LeastPathsModel" 63 "LeastPathsModel" "rowLength" "[I" ∈ tlG := tl_at 720 rfl rfl
set_option maxRecDepth 100000 in
theorem kw_467 : Cond.fieldLink "LeastPathsModel" 66 "LeastPathsModel" "rowSize" "[I" ∈ tlG := tl_at 721 rfl rfl
set_option maxRecDepth 100000 in
theorem kw_468 : Cond.fieldLink "LeastPathsModel" 69 "LeastPathsModel" "rowArcs" "[I" ∈ tlG := tl_at 722 rfl rfl
set_option maxRecDepth 100000 in
theorem kw_469 : Cond.fieldLink "LeastPathsModel" 153 "LeastPathsModel" "rows" "I" ∈ tlG := tl_at 719 rfl rfl
set_option maxRecDepth 100000 in
theorem kw_470 : Cond.methodLink "LeastPathsModel" 156 ⟨"LeastPathsModel", "isAhead", "(I)Z"⟩ ∈ tlG := tl_at 948 rfl rfl
set_option maxRecDepth 100000 in
theorem kw_471 : Cond.instanceMethod ⟨"LeastPathsModel", "isAhead", "(I)Z"⟩ ∈ tlG := tl_at 950 rfl rfl
set_option maxRecDepth 100000 in
theorem kw_472 : Cond.selects "LeastPathsModel" ⟨"LeastPathsModel", "isAhead", "(I)Z"⟩ ⟨"LeastPathsModel", "isAhead", "(I)Z"⟩ ∈ tlG := tl_sel 37 rfl
set_option maxRecDepth 100000 in
theorem kw_473 : Cond.code ⟨"LeastPathsModel", "isAhead", "(I)Z"⟩ prog_12_method_37_code 3 (Option.some Jvm.ClassFile.FieldType.boolean) ∈ tlG := tl_at 951 rfl rfl
set_option maxRecDepth 100000 in
theorem kw_474 : Cond.fieldLink "LeastPathsModel" 159 "LeastPathsModel" "rowTo" "I" ∈ tlG := tl_at 718 rfl rfl
set_option maxRecDepth 100000 in
theorem kw_475 : Cond.methodLink "LeastPathsModel" 162 ⟨"LeastPathsModel", "nextWay", "(III)Z"⟩ ∈ tlG := tl_at 932 rfl rfl
set_option maxRecDepth 100000 in
theorem kw_476 : Cond.instanceMethod ⟨"LeastPathsModel", "nextWay", "(III)Z"⟩ ∈ tlG := tl_at 934 rfl rfl
set_option maxRecDepth 100000 in
theorem kw_477 : Cond.selects "LeastPathsModel" ⟨"LeastPathsModel", "nextWay", "(III)Z"⟩ ⟨"LeastPathsModel", "nextWay", "(III)Z"⟩ ∈ tlG := tl_sel 33 rfl
set_option maxRecDepth 100000 in
theorem kw_478 : Cond.code ⟨"LeastPathsModel", "nextWay", "(III)Z"⟩ prog_12_method_34_code 5 (Option.some Jvm.ClassFile.FieldType.boolean) ∈ tlG := tl_at 935 rfl rfl
set_option maxRecDepth 100000 in
theorem kw_479 : Cond.methodLink "LeastPathsModel" 165 ⟨"LeastPathsModel", "keep", "()V"⟩ ∈ tlG := tl_at 944 rfl rfl
set_option maxRecDepth 100000 in
theorem kw_480 : Cond.instanceMethod ⟨"LeastPathsModel", "keep", "()V"⟩ ∈ tlG := tl_at 946 rfl rfl
set_option maxRecDepth 100000 in
theorem kw_481 : Cond.selects "LeastPathsModel" ⟨"LeastPathsModel", "keep", "()V"⟩ ⟨"LeastPathsModel", "keep", "()V"⟩ ∈ tlG := tl_sel 36 rfl
set_option maxRecDepth 100000 in
theorem kw_482 : Cond.code ⟨"LeastPathsModel", "keep", "()V"⟩ prog_12_method_38_code 3 (Option.none : Option Jvm.ClassFile.FieldType) ∈ tlG := tl_at 947 rfl rfl
set_option maxRecDepth 100000 in
theorem kw_483 : Cond.methodLink "LeastPathsModel" 168 ⟨"LeastPathsModel", "findRow", "(II)V"⟩ ∈ tlG := tl_at 928 rfl rfl
set_option maxRecDepth 100000 in
theorem kw_484 : Cond.instanceMethod ⟨"LeastPathsModel", "findRow", "(II)V"⟩ ∈ tlG := tl_at 930 rfl rfl
set_option maxRecDepth 100000 in
theorem kw_485 : Cond.selects "LeastPathsModel" ⟨"LeastPathsModel", "findRow", "(II)V"⟩ ⟨"LeastPathsModel", "findRow", "(II)V"⟩ ∈ tlG := tl_sel 32 rfl
set_option maxRecDepth 100000 in
theorem kw_486 : Cond.code ⟨"LeastPathsModel", "findRow", "(II)V"⟩ prog_12_method_39_code 4 (Option.none : Option Jvm.ClassFile.FieldType) ∈ tlG := tl_at 931 rfl rfl
set_option maxRecDepth 100000 in
theorem kw_487 : Cond.methodLink "LeastPathsModel" 171 ⟨"LeastPathsModel", "kth", "(III)I"⟩ ∈ tlG := tl_at 956 rfl rfl
set_option maxRecDepth 100000 in
theorem kw_488 : Cond.instanceMethod ⟨"LeastPathsModel", "kth", "(III)I"⟩ ∈ tlG := tl_at 925 rfl rfl
set_option maxRecDepth 100000 in
theorem kw_489 : Cond.selects "LeastPathsModel" ⟨"LeastPathsModel", "kth", "(III)I"⟩ ⟨"LeastPathsModel", "kth", "(III)I"⟩ ∈ tlG := tl_at 926 rfl rfl
set_option maxRecDepth 100000 in
theorem kw_490 : Cond.code ⟨"LeastPathsModel", "kth", "(III)I"⟩ prog_12_method_40_code 4 (Option.some Jvm.ClassFile.FieldType.int) ∈ tlG := tl_at 927 rfl rfl
set_option maxRecDepth 100000 in
theorem kw_491 : Cond.fieldLink "LeastPathsModel" 72 "LeastPathsModel" "over" "[J" ∈ tlG := tl_at 723 rfl rfl
set_option maxRecDepth 100000 in
theorem kw_492 : Cond.constantLong "LeastPathsModel" 175 (-1) ∈ tlG := tl_at 965 rfl rfl
set_option maxRecDepth 100000 in
theorem kw_493 : Cond.fieldLink "LeastPathsModel" 76 "LeastPathsModel" "under" "[J" ∈ tlG := tl_at 724 rfl rfl
set_option maxRecDepth 100000 in
theorem kw_494 : Cond.methodLink "LeastPathsModel" 177 ⟨"LeastPathsModel", "common", "(JJ)J"⟩ ∈ tlG := tl_at 966 rfl rfl
set_option maxRecDepth 100000 in
theorem kw_495 : Cond.static ⟨"LeastPathsModel", "common", "(JJ)J"⟩ ∈ tlG := tl_at 967 rfl rfl
set_option maxRecDepth 100000 in
theorem kw_496 : Cond.code ⟨"LeastPathsModel", "common", "(JJ)J"⟩ prog_12_method_43_code 10 (Option.some Jvm.ClassFile.FieldType.long) ∈ tlG := tl_at 968 rfl rfl
set_option maxRecDepth 100000 in
theorem kw_497 : Cond.fieldLink "LeastPathsModel" 181 "LeastPathsModel" "ringSize" "I" ∈ tlG := tl_at 726 rfl rfl
set_option maxRecDepth 100000 in
theorem kw_498 : Cond.fieldLink "LeastPathsModel" 184 "LeastPathsModel" "ringLength" "I" ∈ tlG := tl_at 725 rfl rfl
set_option maxRecDepth 100000 in
theorem kw_499 : Cond.fieldLink "LeastPathsModel" 79 "LeastPathsModel" "ringPath" "[I" ∈ tlG := tl_at 727 rfl rfl
set_option maxRecDepth 100000 in
theorem kw_500 : Cond.methodLink "LeastPathsModel" 187 ⟨"LeastPathsModel", "isBetterRing", "(I)Z"⟩ ∈ tlG := tl_at 977 rfl rfl
set_option maxRecDepth 100000 in
theorem kw_501 : Cond.instanceMethod ⟨"LeastPathsModel", "isBetterRing", "(I)Z"⟩ ∈ tlG := tl_at 979 rfl rfl
set_option maxRecDepth 100000 in
theorem kw_502 : Cond.selects "LeastPathsModel" ⟨"LeastPathsModel", "isBetterRing", "(I)Z"⟩ ⟨"LeastPathsModel", "isBetterRing", "(I)Z"⟩ ∈ tlG := tl_sel 39 rfl
set_option maxRecDepth 100000 in
theorem kw_503 : Cond.code ⟨"LeastPathsModel", "isBetterRing", "(I)Z"⟩ prog_12_method_45_code 4 (Option.some Jvm.ClassFile.FieldType.boolean) ∈ tlG := tl_at 980 rfl rfl
set_option maxRecDepth 100000 in
theorem kw_504 : Cond.methodLink "LeastPathsModel" 190 ⟨"LeastPathsModel", "findRing", "()V"⟩ ∈ tlG := tl_at 973 rfl rfl
set_option maxRecDepth 100000 in
theorem kw_505 : Cond.instanceMethod ⟨"LeastPathsModel", "findRing", "()V"⟩ ∈ tlG := tl_at 975 rfl rfl
set_option maxRecDepth 100000 in
theorem kw_506 : Cond.selects "LeastPathsModel" ⟨"LeastPathsModel", "findRing", "()V"⟩ ⟨"LeastPathsModel", "findRing", "()V"⟩ ∈ tlG := tl_sel 38 rfl
set_option maxRecDepth 100000 in
theorem kw_507 : Cond.code ⟨"LeastPathsModel", "findRing", "()V"⟩ prog_12_method_46_code 3 (Option.none : Option Jvm.ClassFile.FieldType) ∈ tlG := tl_at 976 rfl rfl
set_option maxRecDepth 100000 in
theorem kw_508 : Cond.methodLink "LeastPathsModel" 193 ⟨"LeastPathsModel", "lengthWithout", "(III)I"⟩ ∈ tlG := tl_at 989 rfl rfl
set_option maxRecDepth 100000 in
theorem kw_509 : Cond.instanceMethod ⟨"LeastPathsModel", "lengthWithout", "(III)I"⟩ ∈ tlG := tl_at 991 rfl rfl
set_option maxRecDepth 100000 in
theorem kw_510 : Cond.selects "LeastPathsModel" ⟨"LeastPathsModel", "lengthWithout", "(III)I"⟩ ⟨"LeastPathsModel", "lengthWithout", "(III)I"⟩ ∈ tlG := tl_sel 40 rfl
set_option maxRecDepth 100000 in
theorem kw_511 : Cond.code ⟨"LeastPathsModel", "lengthWithout", "(III)I"⟩ prog_12_method_49_code 5 (Option.some Jvm.ClassFile.FieldType.int) ∈ tlG := tl_at 992 rfl rfl
