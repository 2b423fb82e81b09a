set_option maxRecDepth 100000 in
theorem kl_0 : Cond.methodLink "LeastPathsLaw" 21 ⟨"LeastPaths", "heap", "()I"⟩ ∈ tlG := tl_at 328 rfl rfl
set_option maxRecDepth 100000 in
theorem kl_1 : Cond.instanceMethod ⟨"LeastPaths", "heap", "()I"⟩ ∈ tlG := tl_at 329 rfl rfl
set_option maxRecDepth 100000 in
theorem kl_2 : Cond.selects "LeastPaths" ⟨"LeastPaths", "heap", "()I"⟩ ⟨"LeastPaths", "heap", "()I"⟩ ∈ tlG := tl_at 330 rfl rfl
set_option maxRecDepth 100000 in
theorem kl_3 : Cond.initialized "LeastPaths" ∈ tlG := tl_at 1 rfl rfl
set_option maxRecDepth 100000 in
theorem kl_4 : Cond.code ⟨"LeastPaths", "heap", "()I"⟩ prog_1_method_2_code 1 (Option.some Jvm.ClassFile.FieldType.int) ∈ tlG := tl_at 331 rfl rfl
set_option maxRecDepth 100000 in
theorem kl_5 : Cond.methodLink "LeastPathsLaw" 25 ⟨"LeastPathsModel", "heap", "()I"⟩ ∈ tlG := tl_at 794 rfl rfl
set_option maxRecDepth 100000 in
theorem kl_6 : Cond.instanceMethod ⟨"LeastPathsModel", "heap", "()I"⟩ ∈ tlG := tl_at 795 rfl rfl
set_option maxRecDepth 100000 in
theorem kl_7 : Cond.selects "LeastPathsModel" ⟨"LeastPathsModel", "heap", "()I"⟩ ⟨"LeastPathsModel", "heap", "()I"⟩ ∈ tlG := tl_at 796 rfl rfl
set_option maxRecDepth 100000 in
theorem kl_8 : Cond.initialized "LeastPathsModel" ∈ tlG := tl_at 12 rfl rfl
set_option maxRecDepth 100000 in
theorem kl_9 : Cond.code ⟨"LeastPathsModel", "heap", "()I"⟩ prog_12_method_2_code 1 (Option.some Jvm.ClassFile.FieldType.int) ∈ tlG := tl_at 797 rfl rfl
set_option maxRecDepth 100000 in
theorem kl_10 : Cond.methodLink "LeastPathsLaw" 26 ⟨"LeastPaths", "node", "()I"⟩ ∈ tlG := tl_at 332 rfl rfl
set_option maxRecDepth 100000 in
theorem kl_11 : Cond.instanceMethod ⟨"LeastPaths", "node", "()I"⟩ ∈ tlG := tl_at 333 rfl rfl
set_option maxRecDepth 100000 in
theorem kl_12 : Cond.selects "LeastPaths" ⟨"LeastPaths", "node", "()I"⟩ ⟨"LeastPaths", "node", "()I"⟩ ∈ tlG := tl_at 334 rfl rfl
set_option maxRecDepth 100000 in
theorem kl_13 : Cond.code ⟨"LeastPaths", "node", "()I"⟩ prog_1_method_3_code 1 (Option.some Jvm.ClassFile.FieldType.int) ∈ tlG := tl_at 335 rfl rfl
set_option maxRecDepth 100000 in
theorem kl_14 : Cond.methodLink "LeastPathsLaw" 29 ⟨"LeastPathsModel", "node", "()I"⟩ ∈ tlG := tl_at 798 rfl rfl
set_option maxRecDepth 100000 in
theorem kl_15 : Cond.instanceMethod ⟨"LeastPathsModel", "node", "()I"⟩ ∈ tlG := tl_at 799 rfl rfl
set_option maxRecDepth 100000 in
theorem kl_16 : Cond.selects "LeastPathsModel" ⟨"LeastPathsModel", "node", "()I"⟩ ⟨"LeastPathsModel", "node", "()I"⟩ ∈ tlG := tl_at 800 rfl rfl
set_option maxRecDepth 100000 in
theorem kl_17 : Cond.code ⟨"LeastPathsModel", "node", "()I"⟩ prog_12_method_6_code 1 (Option.some Jvm.ClassFile.FieldType.int) ∈ tlG := tl_at 801 rfl rfl
set_option maxRecDepth 100000 in
theorem kl_18 : Cond.methodLink "LeastPathsLaw" 30 ⟨"LeastPaths", "arc", "(III)I"⟩ ∈ tlG := tl_at 340 rfl rfl
set_option maxRecDepth 100000 in
theorem kl_19 : Cond.instanceMethod ⟨"LeastPaths", "arc", "(III)I"⟩ ∈ tlG := tl_at 341 rfl rfl
set_option maxRecDepth 100000 in
theorem kl_20 : Cond.selects "LeastPaths" ⟨"LeastPaths", "arc", "(III)I"⟩ ⟨"LeastPaths", "arc", "(III)I"⟩ ∈ tlG := tl_at 342 rfl rfl
set_option maxRecDepth 100000 in
theorem kl_21 : Cond.code ⟨"LeastPaths", "arc", "(III)I"⟩ prog_1_method_4_code 4 (Option.some Jvm.ClassFile.FieldType.int) ∈ tlG := tl_at 343 rfl rfl
set_option maxRecDepth 100000 in
theorem kl_22 : Cond.methodLink "LeastPathsLaw" 34 ⟨"LeastPathsModel", "arc", "(III)I"⟩ ∈ tlG := tl_at 806 rfl rfl
set_option maxRecDepth 100000 in
theorem kl_23 : Cond.instanceMethod ⟨"LeastPathsModel", "arc", "(III)I"⟩ ∈ tlG := tl_at 807 rfl rfl
set_option maxRecDepth 100000 in
theorem kl_24 : Cond.selects "LeastPathsModel" ⟨"LeastPathsModel", "arc", "(III)I"⟩ ⟨"LeastPathsModel", "arc", "(III)I"⟩ ∈ tlG := tl_at 808 rfl rfl
set_option maxRecDepth 100000 in
theorem kl_25 : Cond.code ⟨"LeastPathsModel", "arc", "(III)I"⟩ prog_12_method_7_code 4 (Option.some Jvm.ClassFile.FieldType.int) ∈ tlG := tl_at 809 rfl rfl
set_option maxRecDepth 100000 in
theorem kl_26 : Cond.methodLink "LeastPathsLaw" 35 ⟨"LeastPaths", "share", "(III)I"⟩ ∈ tlG := tl_at 361 rfl rfl
set_option maxRecDepth 100000 in
theorem kl_27 : Cond.instanceMethod ⟨"LeastPaths", "share", "(III)I"⟩ ∈ tlG := tl_at 362 rfl rfl
set_option maxRecDepth 100000 in
theorem kl_28 : Cond.selects "LeastPaths" ⟨"LeastPaths", "share", "(III)I"⟩ ⟨"LeastPaths", "share", "(III)I"⟩ ∈ tlG := tl_at 363 rfl rfl
set_option maxRecDepth 100000 in
theorem kl_29 : Cond.code ⟨"LeastPaths", "share", "(III)I"⟩ prog_1_method_5_code 4 (Option.some Jvm.ClassFile.FieldType.int) ∈ tlG := tl_at 364 rfl rfl
set_option maxRecDepth 100000 in
theorem kl_30 : Cond.methodLink "LeastPathsLaw" 38 ⟨"LeastPathsModel", "share", "(III)I"⟩ ∈ tlG := tl_at 815 rfl rfl
set_option maxRecDepth 100000 in
theorem kl_31 : Cond.instanceMethod ⟨"LeastPathsModel", "share", "(III)I"⟩ ∈ tlG := tl_at 816 rfl rfl
set_option maxRecDepth 100000 in
theorem kl_32 : Cond.selects "LeastPathsModel" ⟨"LeastPathsModel", "share", "(III)I"⟩ ⟨"LeastPathsModel", "share", "(III)I"⟩ ∈ tlG := tl_at 817 rfl rfl
set_option maxRecDepth 100000 in
theorem kl_33 : Cond.code ⟨"LeastPathsModel", "share", "(III)I"⟩ prog_12_method_8_code 4 (Option.some Jvm.ClassFile.FieldType.int) ∈ tlG := tl_at 818 rfl rfl
set_option maxRecDepth 100000 in
theorem kl_34 : Cond.methodLink "LeastPathsLaw" 39 ⟨"LeastPaths", "drop", "(I)I"⟩ ∈ tlG := tl_at 369 rfl rfl
set_option maxRecDepth 100000 in
theorem kl_35 : Cond.instanceMethod ⟨"LeastPaths", "drop", "(I)I"⟩ ∈ tlG := tl_at 370 rfl rfl
set_option maxRecDepth 100000 in
theorem kl_36 : Cond.selects "LeastPaths" ⟨"LeastPaths", "drop", "(I)I"⟩ ⟨"LeastPaths", "drop", "(I)I"⟩ ∈ tlG := tl_at 371 rfl rfl
set_option maxRecDepth 100000 in
theorem kl_37 : Cond.code ⟨"LeastPaths", "drop", "(I)I"⟩ prog_1_method_6_code 2 (Option.some Jvm.ClassFile.FieldType.int) ∈ tlG := tl_at 372 rfl rfl
set_option maxRecDepth 100000 in
theorem kl_38 : Cond.methodLink "LeastPathsLaw" 43 ⟨"LeastPathsModel", "drop", "(I)I"⟩ ∈ tlG := tl_at 823 rfl rfl
set_option maxRecDepth 100000 in
theorem kl_39 : Cond.instanceMethod ⟨"LeastPathsModel", "drop", "(I)I"⟩ ∈ tlG := tl_at 824 rfl rfl
set_option maxRecDepth 100000 in
theorem kl_40 : Cond.selects "LeastPathsModel" ⟨"LeastPathsModel", "drop", "(I)I"⟩ ⟨"LeastPathsModel", "drop", "(I)I"⟩ ∈ tlG := tl_at 825 rfl rfl
set_option maxRecDepth 100000 in
theorem kl_41 : Cond.code ⟨"LeastPathsModel", "drop", "(I)I"⟩ prog_12_method_9_code 4 (Option.some Jvm.ClassFile.FieldType.int) ∈ tlG := tl_at 826 rfl rfl
set_option maxRecDepth 100000 in
theorem kl_42 : Cond.methodLink "LeastPathsLaw" 44 ⟨"LeastPaths", "source", "(IZ)I"⟩ ∈ tlG := tl_at 380 rfl rfl
set_option maxRecDepth 100000 in
theorem kl_43 : Cond.instanceMethod ⟨"LeastPaths", "source", "(IZ)I"⟩ ∈ tlG := tl_at 381 rfl rfl
set_option maxRecDepth 100000 in
theorem kl_44 : Cond.selects "LeastPaths" ⟨"LeastPaths", "source", "(IZ)I"⟩ ⟨"LeastPaths", "source", "(IZ)I"⟩ ∈ tlG := tl_at 382 rfl rfl
set_option maxRecDepth 100000 in
theorem kl_45 : Cond.code ⟨"LeastPaths", "source", "(IZ)I"⟩ prog_1_method_7_code 5 (Option.some Jvm.ClassFile.FieldType.int) ∈ tlG := tl_at 383 rfl rfl
set_option maxRecDepth 100000 in
theorem kl_46 : Cond.methodLink "LeastPathsLaw" 48 ⟨"LeastPathsModel", "source", "(IZ)I"⟩ ∈ tlG := tl_at 827 rfl rfl
set_option maxRecDepth 100000 in
theorem kl_47 : Cond.instanceMethod ⟨"LeastPathsModel", "source", "(IZ)I"⟩ ∈ tlG := tl_at 828 rfl rfl
set_option maxRecDepth 100000 in
theorem kl_48 : Cond.selects "LeastPathsModel" ⟨"LeastPathsModel", "source", "(IZ)I"⟩ ⟨"LeastPathsModel", "source", "(IZ)I"⟩ ∈ tlG := tl_at 829 rfl rfl
set_option maxRecDepth 100000 in
theorem kl_49 : Cond.code ⟨"LeastPathsModel", "source", "(IZ)I"⟩ prog_12_method_10_code 4 (Option.some Jvm.ClassFile.FieldType.int) ∈ tlG := tl_at 830 rfl rfl
set_option maxRecDepth 100000 in
theorem kl_50 : Cond.methodLink "LeastPathsLaw" 49 ⟨"LeastPaths", "rest", "(II)I"⟩ ∈ tlG := tl_at 384 rfl rfl
set_option maxRecDepth 100000 in
theorem kl_51 : Cond.instanceMethod ⟨"LeastPaths", "rest", "(II)I"⟩ ∈ tlG := tl_at 385 rfl rfl
set_option maxRecDepth 100000 in
theorem kl_52 : Cond.selects "LeastPaths" ⟨"LeastPaths", "rest", "(II)I"⟩ ⟨"LeastPaths", "rest", "(II)I"⟩ ∈ tlG := tl_at 386 rfl rfl
set_option maxRecDepth 100000 in
theorem kl_53 : Cond.code ⟨"LeastPaths", "rest", "(II)I"⟩ prog_1_method_8_code 4 (Option.some Jvm.ClassFile.FieldType.int) ∈ tlG := tl_at 387 rfl rfl
set_option maxRecDepth 100000 in
theorem kl_54 : Cond.methodLink "LeastPathsLaw" 53 ⟨"LeastPathsModel", "rest", "(II)I"⟩ ∈ tlG := tl_at 831 rfl rfl
set_option maxRecDepth 100000 in
theorem kl_55 : Cond.instanceMethod ⟨"LeastPathsModel", "rest", "(II)I"⟩ ∈ tlG := tl_at 832 rfl rfl
set_option maxRecDepth 100000 in
theorem kl_56 : Cond.selects "LeastPathsModel" ⟨"LeastPathsModel", "rest", "(II)I"⟩ ⟨"LeastPathsModel", "rest", "(II)I"⟩ ∈ tlG := tl_at 833 rfl rfl
set_option maxRecDepth 100000 in
theorem kl_57 : Cond.code ⟨"LeastPathsModel", "rest", "(II)I"⟩ prog_12_method_11_code 4 (Option.some Jvm.ClassFile.FieldType.int) ∈ tlG := tl_at 834 rfl rfl
set_option maxRecDepth 100000 in
theorem kl_58 : Cond.methodLink "LeastPathsLaw" 54 ⟨"LeastPaths", "clear", "()I"⟩ ∈ tlG := tl_at 388 rfl rfl
set_option maxRecDepth 100000 in
theorem kl_59 : Cond.instanceMethod ⟨"LeastPaths", "clear", "()I"⟩ ∈ tlG := tl_at 389 rfl rfl
set_option maxRecDepth 100000 in
theorem kl_60 : Cond.selects "LeastPaths" ⟨"LeastPaths", "clear", "()I"⟩ ⟨"LeastPaths", "clear", "()I"⟩ ∈ tlG := tl_at 390 rfl rfl
set_option maxRecDepth 100000 in
theorem kl_61 : Cond.code ⟨"LeastPaths", "clear", "()I"⟩ prog_1_method_9_code 2 (Option.some Jvm.ClassFile.FieldType.int) ∈ tlG := tl_at 391 rfl rfl
set_option maxRecDepth 100000 in
theorem kl_62 : Cond.methodLink "LeastPathsLaw" 57 ⟨"LeastPathsModel", "clear", "()I"⟩ ∈ tlG := tl_at 835 rfl rfl
set_option maxRecDepth 100000 in
theorem kl_63 : Cond.instanceMethod ⟨"LeastPathsModel", "clear", "()I"⟩ ∈ tlG := tl_at 836 rfl rfl
set_option maxRecDepth 100000 in
theorem kl_64 : Cond.selects "LeastPathsModel" ⟨"LeastPathsModel", "clear", "()I"⟩ ⟨"LeastPathsModel", "clear", "()I"⟩ ∈ tlG := tl_at 837 rfl rfl
set_option maxRecDepth 100000 in
theorem kl_65 : Cond.code ⟨"LeastPathsModel", "clear", "()I"⟩ prog_12_method_12_code 2 (Option.some Jvm.ClassFile.FieldType.int) ∈ tlG := tl_at 838 rfl rfl
set_option maxRecDepth 100000 in
theorem kl_66 : Cond.methodLink "LeastPathsLaw" 58 ⟨"LeastPaths", "distance", "(I)I"⟩ ∈ tlG := tl_at 392 rfl rfl
set_option maxRecDepth 100000 in
theorem kl_67 : Cond.instanceMethod ⟨"LeastPaths", "distance", "(I)I"⟩ ∈ tlG := tl_at 393 rfl rfl
set_option maxRecDepth 100000 in
theorem kl_68 : Cond.selects "LeastPaths" ⟨"LeastPaths", "distance", "(I)I"⟩ ⟨"LeastPaths", "distance", "(I)I"⟩ ∈ tlG := tl_at 394 rfl rfl
set_option maxRecDepth 100000 in
theorem kl_69 : Cond.code ⟨"LeastPaths", "distance", "(I)I"⟩ prog_1_method_10_code 2 (Option.some Jvm.ClassFile.FieldType.int) ∈ tlG := tl_at 395 rfl rfl
set_option maxRecDepth 100000 in
theorem kl_70 : Cond.methodLink "LeastPathsLaw" 61 ⟨"LeastPathsModel", "distance", "(I)I"⟩ ∈ tlG := tl_at 839 rfl rfl
set_option maxRecDepth 100000 in
theorem kl_71 : Cond.instanceMethod ⟨"LeastPathsModel", "distance", "(I)I"⟩ ∈ tlG := tl_at 840 rfl rfl
set_option maxRecDepth 100000 in
theorem kl_72 : Cond.selects "LeastPathsModel" ⟨"LeastPathsModel", "distance", "(I)I"⟩ ⟨"LeastPathsModel", "distance", "(I)I"⟩ ∈ tlG := tl_at 841 rfl rfl
set_option maxRecDepth 100000 in
theorem kl_73 : Cond.code ⟨"LeastPathsModel", "distance", "(I)I"⟩ prog_12_method_16_code 2 (Option.some Jvm.ClassFile.FieldType.int) ∈ tlG := tl_at 842 rfl rfl
set_option maxRecDepth 100000 in
theorem kl_74 : Cond.methodLink "LeastPathsLaw" 62 ⟨"LeastPaths", "hops", "(I)I"⟩ ∈ tlG := tl_at 470 rfl rfl
set_option maxRecDepth 100000 in
theorem kl_75 : Cond.instanceMethod ⟨"LeastPaths", "hops", "(I)I"⟩ ∈ tlG := tl_at 471 rfl rfl
set_option maxRecDepth 100000 in
theorem kl_76 : Cond.selects "LeastPaths" ⟨"LeastPaths", "hops", "(I)I"⟩ ⟨"LeastPaths", "hops", "(I)I"⟩ ∈ tlG := tl_at 472 rfl rfl
set_option maxRecDepth 100000 in
theorem kl_77 : Cond.code ⟨"LeastPaths", "hops", "(I)I"⟩ prog_1_method_11_code 2 (Option.some Jvm.ClassFile.FieldType.int) ∈ tlG := tl_at 473 rfl rfl
set_option maxRecDepth 100000 in
theorem kl_78 : Cond.methodLink "LeastPathsLaw" 65 ⟨"LeastPathsModel", "hops", "(I)I"⟩ ∈ tlG := tl_at 852 rfl rfl
set_option maxRecDepth 100000 in
theorem kl_79 : Cond.instanceMethod ⟨"LeastPathsModel", "hops", "(I)I"⟩ ∈ tlG := tl_at 853 rfl rfl
set_option maxRecDepth 100000 in
theorem kl_80 : Cond.selects "LeastPathsModel" ⟨"LeastPathsModel", "hops", "(I)I"⟩ ⟨"LeastPathsModel", "hops", "(I)I"⟩ ∈ tlG := tl_at 854 rfl rfl
set_option maxRecDepth 100000 in
theorem kl_81 : Cond.code ⟨"LeastPathsModel", "hops", "(I)I"⟩ prog_12_method_17_code 2 (Option.some Jvm.ClassFile.FieldType.int) ∈ tlG := tl_at 855 rfl rfl
set_option maxRecDepth 100000 in
theorem kl_82 : Cond.methodLink "LeastPathsLaw" 66 ⟨"LeastPaths", "step", "(I)I"⟩ ∈ tlG := tl_at 474 rfl rfl
set_option maxRecDepth 100000 in
theorem kl_83 : Cond.instanceMethod ⟨"LeastPaths", "step", "(I)I"⟩ ∈ tlG := tl_at 475 rfl rfl
set_option maxRecDepth 100000 in
theorem kl_84 : Cond.selects "LeastPaths" ⟨"LeastPaths", "step", "(I)I"⟩ ⟨"LeastPaths", "step", "(I)I"⟩ ∈ tlG := tl_at 476 rfl rfl
set_option maxRecDepth 100000 in
theorem kl_85 : Cond.code ⟨"LeastPaths", "step", "(I)I"⟩ prog_1_method_12_code 3 (Option.some Jvm.ClassFile.FieldType.int) ∈ tlG := tl_at 477 rfl rfl
set_option maxRecDepth 100000 in
theorem kl_86 : Cond.methodLink "LeastPathsLaw" 69 ⟨"LeastPathsModel", "step", "(I)I"⟩ ∈ tlG := tl_at 856 rfl rfl
set_option maxRecDepth 100000 in
theorem kl_87 : Cond.instanceMethod ⟨"LeastPathsModel", "step", "(I)I"⟩ ∈ tlG := tl_at 857 rfl rfl
set_option maxRecDepth 100000 in
theorem kl_88 : Cond.selects "LeastPathsModel" ⟨"LeastPathsModel", "step", "(I)I"⟩ ⟨"LeastPathsModel", "step", "(I)I"⟩ ∈ tlG := tl_at 858 rfl rfl
set_option maxRecDepth 100000 in
theorem kl_89 : Cond.code ⟨"LeastPathsModel", "step", "(I)I"⟩ prog_12_method_18_code 2 (Option.some Jvm.ClassFile.FieldType.int) ∈ tlG := tl_at 859 rfl rfl
set_option maxRecDepth 100000 in
theorem kl_90 : Cond.methodLink "LeastPathsLaw" 70 ⟨"LeastPaths", "ways", "(I)I"⟩ ∈ tlG := tl_at 487 rfl rfl
set_option maxRecDepth 100000 in
theorem kl_91 : Cond.instanceMethod ⟨"LeastPaths", "ways", "(I)I"⟩ ∈ tlG := tl_at 488 rfl rfl
set_option maxRecDepth 100000 in
theorem kl_92 : Cond.selects "LeastPaths" ⟨"LeastPaths", "ways", "(I)I"⟩ ⟨"LeastPaths", "ways", "(I)I"⟩ ∈ tlG := tl_at 489 rfl rfl
set_option maxRecDepth 100000 in
theorem kl_93 : Cond.code ⟨"LeastPaths", "ways", "(I)I"⟩ prog_1_method_13_code 2 (Option.some Jvm.ClassFile.FieldType.int) ∈ tlG := tl_at 490 rfl rfl
set_option maxRecDepth 100000 in
theorem kl_94 : Cond.methodLink "LeastPathsLaw" 73 ⟨"LeastPathsModel", "ways", "(I)I"⟩ ∈ tlG := tl_at 864 rfl rfl
set_option maxRecDepth 100000 in
theorem kl_95 : Cond.instanceMethod ⟨"LeastPathsModel", "ways", "(I)I"⟩ ∈ tlG := tl_at 865 rfl rfl
set_option maxRecDepth 100000 in
theorem kl_96 : Cond.selects "LeastPathsModel" ⟨"LeastPathsModel", "ways", "(I)I"⟩ ⟨"LeastPathsModel", "ways", "(I)I"⟩ ∈ tlG := tl_at 866 rfl rfl
set_option maxRecDepth 100000 in
theorem kl_97 : Cond.code ⟨"LeastPathsModel", "ways", "(I)I"⟩ prog_12_method_19_code 6 (Option.some Jvm.ClassFile.FieldType.int) ∈ tlG := tl_at 867 rfl rfl
set_option maxRecDepth 100000 in
theorem kl_98 : Cond.methodLink "LeastPathsLaw" 74 ⟨"LeastPaths", "tree", "(II)I"⟩ ∈ tlG := tl_at 495 rfl rfl
set_option maxRecDepth 100000 in
theorem kl_99 : Cond.instanceMethod ⟨"LeastPaths", "tree", "(II)I"⟩ ∈ tlG := tl_at 496 rfl rfl
set_option maxRecDepth 100000 in
theorem kl_100 : Cond.selects "LeastPaths" ⟨"LeastPaths", "tree", "(II)I"⟩ ⟨"LeastPaths", "tree", "(II)I"⟩ ∈ tlG := tl_at 497 rfl rfl
set_option maxRecDepth 100000 in
theorem kl_101 : Cond.code ⟨"LeastPaths", "tree", "(II)I"⟩ prog_1_method_14_code 3 (Option.some Jvm.ClassFile.FieldType.int) ∈ tlG := tl_at 498 rfl rfl
set_option maxRecDepth 100000 in
theorem kl_102 : Cond.methodLink "LeastPathsLaw" 77 ⟨"LeastPathsModel", "tree", "(II)I"⟩ ∈ tlG := tl_at 868 rfl rfl
set_option maxRecDepth 100000 in
theorem kl_103 : Cond.instanceMethod ⟨"LeastPathsModel", "tree", "(II)I"⟩ ∈ tlG := tl_at 869 rfl rfl
set_option maxRecDepth 100000 in
theorem kl_104 : Cond.selects "LeastPathsModel" ⟨"LeastPathsModel", "tree", "(II)I"⟩ ⟨"LeastPathsModel", "tree", "(II)I"⟩ ∈ tlG := tl_at 870 rfl rfl
set_option maxRecDepth 100000 in
theorem kl_105 : Cond.code ⟨"LeastPathsModel", "tree", "(II)I"⟩ prog_12_method_20_code 5 (Option.some Jvm.ClassFile.FieldType.int) ∈ tlG := tl_at 871 rfl rfl
set_option maxRecDepth 100000 in
theorem kl_106 : Cond.methodLink "LeastPathsLaw" 78 ⟨"LeastPaths", "reached", "()I"⟩ ∈ tlG := tl_at 503 rfl rfl
set_option maxRecDepth 100000 in
theorem kl_107 : Cond.instanceMethod ⟨"LeastPaths", "reached", "()I"⟩ ∈ tlG := tl_at 504 rfl rfl
set_option maxRecDepth 100000 in
theorem kl_108 : Cond.selects "LeastPaths" ⟨"LeastPaths", "reached", "()I"⟩ ⟨"LeastPaths", "reached", "()I"⟩ ∈ tlG := tl_at 505 rfl rfl
set_option maxRecDepth 100000 in
theorem kl_109 : Cond.code ⟨"LeastPaths", "reached", "()I"⟩ prog_1_method_15_code 1 (Option.some Jvm.ClassFile.FieldType.int) ∈ tlG := tl_at 506 rfl rfl
set_option maxRecDepth 100000 in
theorem kl_110 : Cond.methodLink "LeastPathsLaw" 81 ⟨"LeastPathsModel", "reached", "()I"⟩ ∈ tlG := tl_at 872 rfl rfl
set_option maxRecDepth 100000 in
theorem kl_111 : Cond.instanceMethod ⟨"LeastPathsModel", "reached", "()I"⟩ ∈ tlG := tl_at 873 rfl rfl
set_option maxRecDepth 100000 in
theorem kl_112 : Cond.selects "LeastPathsModel" ⟨"LeastPathsModel", "reached", "()I"⟩ ⟨"LeastPathsModel", "reached", "()I"⟩ ∈ tlG := tl_at 874 rfl rfl
set_option maxRecDepth 100000 in
theorem kl_113 : Cond.code ⟨"LeastPathsModel", "reached", "()I"⟩ prog_12_method_21_code 3 (Option.some Jvm.ClassFile.FieldType.int) ∈ tlG := tl_at 875 rfl rfl
set_option maxRecDepth 100000 in
theorem kl_114 : Cond.methodLink "LeastPathsLaw" 82 ⟨"LeastPaths", "good", "(I)I"⟩ ∈ tlG := tl_at 507 rfl rfl
set_option maxRecDepth 100000 in
theorem kl_115 : Cond.instanceMethod ⟨"LeastPaths", "good", "(I)I"⟩ ∈ tlG := tl_at 508 rfl rfl
set_option maxRecDepth 100000 in
theorem kl_116 : Cond.selects "LeastPaths" ⟨"LeastPaths", "good", "(I)I"⟩ ⟨"LeastPaths", "good", "(I)I"⟩ ∈ tlG := tl_at 509 rfl rfl
set_option maxRecDepth 100000 in
theorem kl_117 : Cond.code ⟨"LeastPaths", "good", "(I)I"⟩ prog_1_method_16_code 2 (Option.some Jvm.ClassFile.FieldType.int) ∈ tlG := tl_at 510 rfl rfl
set_option maxRecDepth 100000 in
theorem kl_118 : Cond.methodLink "LeastPathsLaw" 85 ⟨"LeastPathsModel", "good", "(I)I"⟩ ∈ tlG := tl_at 876 rfl rfl
set_option maxRecDepth 100000 in
theorem kl_119 : Cond.instanceMethod ⟨"LeastPathsModel", "good", "(I)I"⟩ ∈ tlG := tl_at 877 rfl rfl
set_option maxRecDepth 100000 in
theorem kl_120 : Cond.selects "LeastPathsModel" ⟨"LeastPathsModel", "good", "(I)I"⟩ ⟨"LeastPathsModel", "good", "(I)I"⟩ ∈ tlG := tl_at 878 rfl rfl
set_option maxRecDepth 100000 in
theorem kl_121 : Cond.code ⟨"LeastPathsModel", "good", "(I)I"⟩ prog_12_method_27_code 4 (Option.some Jvm.ClassFile.FieldType.int) ∈ tlG := tl_at 879 rfl rfl
set_option maxRecDepth 100000 in
theorem kl_122 : Cond.methodLink "LeastPathsLaw" 86 ⟨"LeastPaths", "led", "(II)I"⟩ ∈ tlG := tl_at 516 rfl rfl
set_option maxRecDepth 100000 in
theorem kl_123 : Cond.instanceMethod ⟨"LeastPaths", "led", "(II)I"⟩ ∈ tlG := tl_at 517 rfl rfl
set_option maxRecDepth 100000 in
theorem kl_124 : Cond.selects "LeastPaths" ⟨"LeastPaths", "led", "(II)I"⟩ ⟨"LeastPaths", "led", "(II)I"⟩ ∈ tlG := tl_at 518 rfl rfl
set_option maxRecDepth 100000 in
theorem kl_125 : Cond.code ⟨"LeastPaths", "led", "(II)I"⟩ prog_1_method_17_code 3 (Option.some Jvm.ClassFile.FieldType.int) ∈ tlG := tl_at 519 rfl rfl
set_option maxRecDepth 100000 in
theorem kl_126 : Cond.methodLink "LeastPathsLaw" 89 ⟨"LeastPathsModel", "led", "(II)I"⟩ ∈ tlG := tl_at 880 rfl rfl
set_option maxRecDepth 100000 in
theorem kl_127 : Cond.instanceMethod ⟨"LeastPathsModel", "led", "(II)I"⟩ ∈ tlG := tl_at 881 rfl rfl
set_option maxRecDepth 100000 in
theorem kl_128 : Cond.selects "LeastPathsModel" ⟨"LeastPathsModel", "led", "(II)I"⟩ ⟨"LeastPathsModel", "led", "(II)I"⟩ ∈ tlG := tl_at 882 rfl rfl
set_option maxRecDepth 100000 in
theorem kl_129 : Cond.code ⟨"LeastPathsModel", "led", "(II)I"⟩ prog_12_method_28_code 3 (Option.some Jvm.ClassFile.FieldType.int) ∈ tlG := tl_at 883 rfl rfl
set_option maxRecDepth 100000 in
theorem kl_130 : Cond.methodLink "LeastPathsLaw" 90 ⟨"LeastPaths", "ledTo", "(II)I"⟩ ∈ tlG := tl_at 528 rfl rfl
set_option maxRecDepth 100000 in
theorem kl_131 : Cond.instanceMethod ⟨"LeastPaths", "ledTo", "(II)I"⟩ ∈ tlG := tl_at 529 rfl rfl
set_option maxRecDepth 100000 in
theorem kl_132 : Cond.selects "LeastPaths" ⟨"LeastPaths", "ledTo", "(II)I"⟩ ⟨"LeastPaths", "ledTo", "(II)I"⟩ ∈ tlG := tl_at 530 rfl rfl
set_option maxRecDepth 100000 in
theorem kl_133 : Cond.code ⟨"LeastPaths", "ledTo", "(II)I"⟩ prog_1_method_18_code 3 (Option.some Jvm.ClassFile.FieldType.int) ∈ tlG := tl_at 531 rfl rfl
set_option maxRecDepth 100000 in
theorem kl_134 : Cond.methodLink "LeastPathsLaw" 93 ⟨"LeastPathsModel", "ledTo", "(II)I"⟩ ∈ tlG := tl_at 904 rfl rfl
set_option maxRecDepth 100000 in
theorem kl_135 : Cond.instanceMethod ⟨"LeastPathsModel", "ledTo", "(II)I"⟩ ∈ tlG := tl_at 905 rfl rfl
set_option maxRecDepth 100000 in
theorem kl_136 : Cond.selects "LeastPathsModel" ⟨"LeastPathsModel", "ledTo", "(II)I"⟩ ⟨"LeastPathsModel", "ledTo", "(II)I"⟩ ∈ tlG := tl_at 906 rfl rfl
set_option maxRecDepth 100000 in
theorem kl_137 : Cond.code ⟨"LeastPathsModel", "ledTo", "(II)I"⟩ prog_12_method_29_code 4 (Option.some Jvm.ClassFile.FieldType.int) ∈ tlG := tl_at 907 rfl rfl
set_option maxRecDepth 100000 in
theorem kl_138 : Cond.methodLink "LeastPathsLaw" 94 ⟨"LeastPaths", "both", "(II)I"⟩ ∈ tlG := tl_at 532 rfl rfl
set_option maxRecDepth 100000 in
theorem kl_139 : Cond.instanceMethod ⟨"LeastPaths", "both", "(II)I"⟩ ∈ tlG := tl_at 533 rfl rfl
set_option maxRecDepth 100000 in
theorem kl_140 : Cond.selects "LeastPaths" ⟨"LeastPaths", "both", "(II)I"⟩ ⟨"LeastPaths", "both", "(II)I"⟩ ∈ tlG := tl_at 534 rfl rfl
set_option maxRecDepth 100000 in
theorem kl_141 : Cond.code ⟨"LeastPaths", "both", "(II)I"⟩ prog_1_method_19_code 3 (Option.some Jvm.ClassFile.FieldType.int) ∈ tlG := tl_at 535 rfl rfl
set_option maxRecDepth 100000 in
theorem kl_142 : Cond.methodLink "LeastPathsLaw" 97 ⟨"LeastPathsModel", "both", "(II)I"⟩ ∈ tlG := tl_at 908 rfl rfl
set_option maxRecDepth 100000 in
theorem kl_143 : Cond.instanceMethod ⟨"LeastPathsModel", "both", "(II)I"⟩ ∈ tlG := tl_at 909 rfl rfl
set_option maxRecDepth 100000 in
theorem kl_144 : Cond.selects "LeastPathsModel" ⟨"LeastPathsModel", "both", "(II)I"⟩ ⟨"LeastPathsModel", "both", "(II)I"⟩ ∈ tlG := tl_at 910 rfl rfl
set_option maxRecDepth 100000 in
theorem kl_145 : Cond.code ⟨"LeastPathsModel", "both", "(II)I"⟩ prog_12_method_32_code 3 (Option.some Jvm.ClassFile.FieldType.int) ∈ tlG := tl_at 911 rfl rfl
set_option maxRecDepth 100000 in
theorem kl_146 : Cond.methodLink "LeastPathsLaw" 98 ⟨"LeastPaths", "bothTo", "(II)I"⟩ ∈ tlG := tl_at 564 rfl rfl
set_option maxRecDepth 100000 in
theorem kl_147 : Cond.instanceMethod ⟨"LeastPaths", "bothTo", "(II)I"⟩ ∈ tlG := tl_at 565 rfl rfl
set_option maxRecDepth 100000 in
theorem kl_148 : Cond.selects "LeastPaths" ⟨"LeastPaths", "bothTo", "(II)I"⟩ ⟨"LeastPaths", "bothTo", "(II)I"⟩ ∈ tlG := tl_at 566 rfl rfl
set_option maxRecDepth 100000 in
theorem kl_149 : Cond.code ⟨"LeastPaths", "bothTo", "(II)I"⟩ prog_1_method_20_code 3 (Option.some Jvm.ClassFile.FieldType.int) ∈ tlG := tl_at 567 rfl rfl
set_option maxRecDepth 100000 in
theorem kl_150 : Cond.methodLink "LeastPathsLaw" 101 ⟨"LeastPathsModel", "bothTo", "(II)I"⟩ ∈ tlG := tl_at 920 rfl rfl
set_option maxRecDepth 100000 in
theorem kl_151 : Cond.instanceMethod ⟨"LeastPathsModel", "bothTo", "(II)I"⟩ ∈ tlG := tl_at 921 rfl rfl
set_option maxRecDepth 100000 in
theorem kl_152 : Cond.selects "LeastPathsModel" ⟨"LeastPathsModel", "bothTo", "(II)I"⟩ ⟨"LeastPathsModel", "bothTo", "(II)I"⟩ ∈ tlG := tl_at 922 rfl rfl
set_option maxRecDepth 100000 in
theorem kl_153 : Cond.code ⟨"LeastPathsModel", "bothTo", "(II)I"⟩ prog_12_method_33_code 4 (Option.some Jvm.ClassFile.FieldType.int) ∈ tlG := tl_at 923 rfl rfl
set_option maxRecDepth 100000 in
theorem kl_154 : Cond.methodLink "LeastPathsLaw" 102 ⟨"LeastPaths", "kth", "(III)I"⟩ ∈ tlG := tl_at 569 rfl rfl
set_option maxRecDepth 100000 in
theorem kl_155 : Cond.instanceMethod ⟨"LeastPaths", "kth", "(III)I"⟩ ∈ tlG := tl_at 570 rfl rfl
set_option maxRecDepth 100000 in
theorem kl_156 : Cond.selects "LeastPaths" ⟨"LeastPaths", "kth", "(III)I"⟩ ⟨"LeastPaths", "kth", "(III)I"⟩ ∈ tlG := tl_at 571 rfl rfl
set_option maxRecDepth 100000 in
theorem kl_157 : Cond.code ⟨"LeastPaths", "kth", "(III)I"⟩ prog_1_method_21_code 4 (Option.some Jvm.ClassFile.FieldType.int) ∈ tlG := tl_at 572 rfl rfl
set_option maxRecDepth 100000 in
theorem kl_158 : Cond.methodLink "LeastPathsLaw" 105 ⟨"LeastPathsModel", "kth", "(III)I"⟩ ∈ tlG := tl_at 924 rfl rfl
set_option maxRecDepth 100000 in
theorem kl_159 : Cond.instanceMethod ⟨"LeastPathsModel", "kth", "(III)I"⟩ ∈ tlG := tl_at 925 rfl rfl
set_option maxRecDepth 100000 in
theorem kl_160 : Cond.selects "LeastPathsModel" ⟨"LeastPathsModel", "kth", "(III)I"⟩ ⟨"LeastPathsModel", "kth", "(III)I"⟩ ∈ tlG := tl_at 926 rfl rfl
set_option maxRecDepth 100000 in
theorem kl_161 : Cond.code ⟨"LeastPathsModel", "kth", "(III)I"⟩ prog_12_method_40_code 4 (Option.some Jvm.ClassFile.FieldType.int) ∈ tlG := tl_at 927 rfl rfl
set_option maxRecDepth 100000 in
theorem kl_162 : Cond.methodLink "LeastPathsLaw" 106 ⟨"LeastPaths", "kthArc", "(IIII)I"⟩ ∈ tlG := tl_at 609 rfl rfl
set_option maxRecDepth 100000 in
theorem kl_163 : Cond.instanceMethod ⟨"LeastPaths", "kthArc", "(IIII)I"⟩ ∈ tlG := tl_at 610 rfl rfl
set_option maxRecDepth 100000 in
theorem kl_164 : Cond.selects "LeastPaths" ⟨"LeastPaths", "kthArc", "(IIII)I"⟩ ⟨"LeastPaths", "kthArc", "(IIII)I"⟩ ∈ tlG := tl_at 611 rfl rfl
set_option maxRecDepth 100000 in
theorem kl_165 : Cond.code ⟨"LeastPaths", "kthArc", "(IIII)I"⟩ prog_1_method_22_code 5 (Option.some Jvm.ClassFile.FieldType.int) ∈ tlG := tl_at 612 rfl rfl
set_option maxRecDepth 100000 in
theorem kl_166 : Cond.methodLink "LeastPathsLaw" 110 ⟨"LeastPathsModel", "kthArc", "(IIII)I"⟩ ∈ tlG := tl_at 952 rfl rfl
set_option maxRecDepth 100000 in
theorem kl_167 : Cond.instanceMethod ⟨"LeastPathsModel", "kthArc", "(IIII)I"⟩ ∈ tlG := tl_at 953 rfl rfl
set_option maxRecDepth 100000 in
theorem kl_168 : Cond.selects "LeastPathsModel" ⟨"LeastPathsModel", "kthArc", "(IIII)I"⟩ ⟨"LeastPathsModel", "kthArc", "(IIII)I"⟩ ∈ tlG := tl_at 954 rfl rfl
set_option maxRecDepth 100000 in
theorem kl_169 : Cond.code ⟨"LeastPathsModel", "kthArc", "(IIII)I"⟩ prog_12_method_41_code 6 (Option.some Jvm.ClassFile.FieldType.int) ∈ tlG := tl_at 955 rfl rfl
set_option maxRecDepth 100000 in
theorem kl_170 : Cond.methodLink "LeastPathsLaw" 111 ⟨"LeastPaths", "widest", "(II)I"⟩ ∈ tlG := tl_at 617 rfl rfl
set_option maxRecDepth 100000 in
theorem kl_171 : Cond.instanceMethod ⟨"LeastPaths", "widest", "(II)I"⟩ ∈ tlG := tl_at 618 rfl rfl
set_option maxRecDepth 100000 in
theorem kl_172 : Cond.selects "LeastPaths" ⟨"LeastPaths", "widest", "(II)I"⟩ ⟨"LeastPaths", "widest", "(II)I"⟩ ∈ tlG := tl_at 619 rfl rfl
set_option maxRecDepth 100000 in
theorem kl_173 : Cond.code ⟨"LeastPaths", "widest", "(II)I"⟩ prog_1_method_23_code 3 (Option.some Jvm.ClassFile.FieldType.int) ∈ tlG := tl_at 620 rfl rfl
set_option maxRecDepth 100000 in
theorem kl_174 : Cond.methodLink "LeastPathsLaw" 114 ⟨"LeastPathsModel", "widest", "(II)I"⟩ ∈ tlG := tl_at 957 rfl rfl
set_option maxRecDepth 100000 in
theorem kl_175 : Cond.instanceMethod ⟨"LeastPathsModel", "widest", "(II)I"⟩ ∈ tlG := tl_at 958 rfl rfl
set_option maxRecDepth 100000 in
theorem kl_176 : Cond.selects "LeastPathsModel" ⟨"LeastPathsModel", "widest", "(II)I"⟩ ⟨"LeastPathsModel", "widest", "(II)I"⟩ ∈ tlG := tl_at 959 rfl rfl
set_option maxRecDepth 100000 in
theorem kl_177 : Cond.code ⟨"LeastPathsModel", "widest", "(II)I"⟩ prog_12_method_42_code 6 (Option.some Jvm.ClassFile.FieldType.int) ∈ tlG := tl_at 960 rfl rfl
set_option maxRecDepth 100000 in
theorem kl_178 : Cond.methodLink "LeastPathsLaw" 115 ⟨"LeastPaths", "trust", "(III)I"⟩ ∈ tlG := tl_at 629 rfl rfl
set_option maxRecDepth 100000 in
theorem kl_179 : Cond.instanceMethod ⟨"LeastPaths", "trust", "(III)I"⟩ ∈ tlG := tl_at 630 rfl rfl
set_option maxRecDepth 100000 in
theorem kl_180 : Cond.selects "LeastPaths" ⟨"LeastPaths", "trust", "(III)I"⟩ ⟨"LeastPaths", "trust", "(III)I"⟩ ∈ tlG := tl_at 631 rfl rfl
set_option maxRecDepth 100000 in
theorem kl_181 : Cond.code ⟨"LeastPaths", "trust", "(III)I"⟩ prog_1_method_24_code 4 (Option.some Jvm.ClassFile.FieldType.int) ∈ tlG := tl_at 632 rfl rfl
set_option maxRecDepth 100000 in
theorem kl_182 : Cond.methodLink "LeastPathsLaw" 118 ⟨"LeastPathsModel", "trust", "(III)I"⟩ ∈ tlG := tl_at 961 rfl rfl
set_option maxRecDepth 100000 in
theorem kl_183 : Cond.instanceMethod ⟨"LeastPathsModel", "trust", "(III)I"⟩ ∈ tlG := tl_at 962 rfl rfl
set_option maxRecDepth 100000 in
theorem kl_184 : Cond.selects "LeastPathsModel" ⟨"LeastPathsModel", "trust", "(III)I"⟩ ⟨"LeastPathsModel", "trust", "(III)I"⟩ ∈ tlG := tl_at 963 rfl rfl
set_option maxRecDepth 100000 in
theorem kl_185 : Cond.code ⟨"LeastPathsModel", "trust", "(III)I"⟩ prog_12_method_44_code 14 (Option.some Jvm.ClassFile.FieldType.int) ∈ tlG := tl_at 964 rfl rfl
set_option maxRecDepth 100000 in
theorem kl_186 : Cond.methodLink "LeastPathsLaw" 119 ⟨"LeastPaths", "ring", "()I"⟩ ∈ tlG := tl_at 654 rfl rfl
set_option maxRecDepth 100000 in
theorem kl_187 : Cond.instanceMethod ⟨"LeastPaths", "ring", "()I"⟩ ∈ tlG := tl_at 655 rfl rfl
set_option maxRecDepth 100000 in
theorem kl_188 : Cond.selects "LeastPaths" ⟨"LeastPaths", "ring", "()I"⟩ ⟨"LeastPaths", "ring", "()I"⟩ ∈ tlG := tl_at 656 rfl rfl
set_option maxRecDepth 100000 in
theorem kl_189 : Cond.code ⟨"LeastPaths", "ring", "()I"⟩ prog_1_method_25_code 1 (Option.some Jvm.ClassFile.FieldType.int) ∈ tlG := tl_at 657 rfl rfl
set_option maxRecDepth 100000 in
theorem kl_190 : Cond.methodLink "LeastPathsLaw" 122 ⟨"LeastPathsModel", "ring", "()I"⟩ ∈ tlG := tl_at 969 rfl rfl
set_option maxRecDepth 100000 in
theorem kl_191 : Cond.instanceMethod ⟨"LeastPathsModel", "ring", "()I"⟩ ∈ tlG := tl_at 970 rfl rfl
set_option maxRecDepth 100000 in
theorem kl_192 : Cond.selects "LeastPathsModel" ⟨"LeastPathsModel", "ring", "()I"⟩ ⟨"LeastPathsModel", "ring", "()I"⟩ ∈ tlG := tl_at 971 rfl rfl
set_option maxRecDepth 100000 in
theorem kl_193 : Cond.code ⟨"LeastPathsModel", "ring", "()I"⟩ prog_12_method_47_code 1 (Option.some Jvm.ClassFile.FieldType.int) ∈ tlG := tl_at 972 rfl rfl
set_option maxRecDepth 100000 in
theorem kl_194 : Cond.methodLink "LeastPathsLaw" 123 ⟨"LeastPaths", "ringArc", "(I)I"⟩ ∈ tlG := tl_at 675 rfl rfl
set_option maxRecDepth 100000 in
theorem kl_195 : Cond.instanceMethod ⟨"LeastPaths", "ringArc", "(I)I"⟩ ∈ tlG := tl_at 676 rfl rfl
set_option maxRecDepth 100000 in
theorem kl_196 : Cond.selects "LeastPaths" ⟨"LeastPaths", "ringArc", "(I)I"⟩ ⟨"LeastPaths", "ringArc", "(I)I"⟩ ∈ tlG := tl_at 677 rfl rfl
set_option maxRecDepth 100000 in
theorem kl_197 : Cond.code ⟨"LeastPaths", "ringArc", "(I)I"⟩ prog_1_method_26_code 2 (Option.some Jvm.ClassFile.FieldType.int) ∈ tlG := tl_at 678 rfl rfl
set_option maxRecDepth 100000 in
theorem kl_198 : Cond.methodLink "LeastPathsLaw" 126 ⟨"LeastPathsModel", "ringArc", "(I)I"⟩ ∈ tlG := tl_at 981 rfl rfl
set_option maxRecDepth 100000 in
theorem kl_199 : Cond.instanceMethod ⟨"LeastPathsModel", "ringArc", "(I)I"⟩ ∈ tlG := tl_at 982 rfl rfl
set_option maxRecDepth 100000 in
theorem kl_200 : Cond.selects "LeastPathsModel" ⟨"LeastPathsModel", "ringArc", "(I)I"⟩ ⟨"LeastPathsModel", "ringArc", "(I)I"⟩ ∈ tlG := tl_at 983 rfl rfl
set_option maxRecDepth 100000 in
theorem kl_201 : Cond.code ⟨"LeastPathsModel", "ringArc", "(I)I"⟩ prog_12_method_48_code 2 (Option.some Jvm.ClassFile.FieldType.int) ∈ tlG := tl_at 984 rfl rfl
set_option maxRecDepth 100000 in
theorem kl_202 : Cond.methodLink "LeastPathsLaw" 127 ⟨"LeastPaths", "missed", "(II)I"⟩ ∈ tlG := tl_at 679 rfl rfl
set_option maxRecDepth 100000 in
theorem kl_203 : Cond.instanceMethod ⟨"LeastPaths", "missed", "(II)I"⟩ ∈ tlG := tl_at 680 rfl rfl
set_option maxRecDepth 100000 in
theorem kl_204 : Cond.selects "LeastPaths" ⟨"LeastPaths", "missed", "(II)I"⟩ ⟨"LeastPaths", "missed", "(II)I"⟩ ∈ tlG := tl_at 681 rfl rfl
set_option maxRecDepth 100000 in
theorem kl_205 : Cond.code ⟨"LeastPaths", "missed", "(II)I"⟩ prog_1_method_27_code 7 (Option.some Jvm.ClassFile.FieldType.int) ∈ tlG := tl_at 682 rfl rfl
set_option maxRecDepth 100000 in
theorem kl_206 : Cond.methodLink "LeastPathsLaw" 130 ⟨"LeastPathsModel", "missed", "(II)I"⟩ ∈ tlG := tl_at 985 rfl rfl
set_option maxRecDepth 100000 in
theorem kl_207 : Cond.instanceMethod ⟨"LeastPathsModel", "missed", "(II)I"⟩ ∈ tlG := tl_at 986 rfl rfl
set_option maxRecDepth 100000 in
theorem kl_208 : Cond.selects "LeastPathsModel" ⟨"LeastPathsModel", "missed", "(II)I"⟩ ⟨"LeastPathsModel", "missed", "(II)I"⟩ ∈ tlG := tl_at 987 rfl rfl
set_option maxRecDepth 100000 in
theorem kl_209 : Cond.code ⟨"LeastPathsModel", "missed", "(II)I"⟩ prog_12_method_50_code 8 (Option.some Jvm.ClassFile.FieldType.int) ∈ tlG := tl_at 988 rfl rfl
set_option maxHeartbeats 4000000 in
set_option maxRecDepth 100000 in
theorem law_c0 (l : Launch) (D : va_G) (cA adX adY : Nat → Nat) {p : Program} {e : Env} {s : State} {m : MethodId} {below : List Frame} {meth : Method} {c : Code} {b L i : Nat} {xs : Nat → Int32} {Q : State → Prop} {cells slots : Nat} (hcs : cells ≤ room_1.cells ∧ slots ≤ room_1.slots) (hL : L ≤ 2561) (hi : i + 5 ≤ L) (S : CallFix p m c code 4 s #[Value.ref b] tlG "LeastPathsLaw") (hX : va_X b L xs s s.heap) (hbl : b < s.heap.size) {A : Nat → Prop} (hA : ∀ q, s.heap.size ≤ q → A q) (hbA : ¬ A b) (σ τ : mS) (r : mS × mS)
    (K : ∀ q : mS × mS, q = r → ∀ (ls : Array Slot) (H : Heap) (locs : List Loc), lv_has ls 4 [(3, .int (nI i)), (0, .ref b), (1, .ref (adX 0)), (2, .ref (adY 0))] → m2 D clX (tyK cA) A s 99 (tbX cA) adX q.1 23 (tbY cA) adY q.2 H locs → W p l e room_1 s m #[Value.ref b] below meth c H locs cells slots Q (F0 m 924 ls []))
    (ls : Array Slot) (H : Heap) (locs : List Loc) (hl : lv_has ls 4 [(3, .int (nI i)), (0, .ref b), (1, .ref (adX 0)), (2, .ref (adY 0))]) (M : m2 D clX (tyK cA) A s 99 (tbX cA) adX σ 23 (tbY cA) adY τ H locs) (h : lawC 0 (fun k => xs (i + k)) σ τ = some r) : W p l e room_1 s m #[Value.ref b] below meth c H locs cells slots Q (F0 m 160 ls []) := by
  unfold lawC at h
  dsimp only at h
  refine lv_aload_n S.1 S.2.1 d_L_law_160 rfl (lv_at hl 2 rfl) ?_
  refine m2_p1 h (fun o ho => m_rVA (k := 0) (As := []) (rest := []) S (m2_1 M) hl.1 (cwG (n := 0) S.2.2.2.2 kl_0 kl_1 kl_2 kl_3 kl_4 (by decide) ⟨Nat.le_of_ble_eq_true rfl, Nat.le_of_ble_eq_true rfl⟩) ok_LP (by decide) rfl (c_LP_heap l D cA adX _ o ho _) rfl rfl (Nat.le_of_ble_eq_true rfl) d_L_law_161 hcs) M hA (fun ox H locs h M => ?_)
  refine lv_aload_n S.1 S.2.1 d_L_law_164 rfl (lv_at hl 3 rfl) ?_
  refine m2_p2 h (fun o ho => m_rVA (k := 0) (As := []) (rest := [.int ox]) S (m2_2 M) hl.1 (cwG (n := 0) S.2.2.2.2 kl_5 kl_6 kl_7 kl_8 kl_9 (by decide) ⟨Nat.le_of_ble_eq_true rfl, Nat.le_of_ble_eq_true rfl⟩) ok_Mo (by decide) rfl (c_Mo_heap l D cA adY _ o ho _) rfl rfl (Nat.le_of_ble_eq_true rfl) d_L_law_165 hcs) M hA (fun qy H locs h M => ?_)
  refine m_ieq (tgt := 924) S d_L_law_168 (by decide) h (fun h => ?_) (fun h => absurd h (by simp))
  exact K _ (Option.some.inj h) ls H locs hl M
set_option maxHeartbeats 4000000 in
set_option maxRecDepth 100000 in
theorem law_c1 (l : Launch) (D : va_G) (cA adX adY : Nat → Nat) {p : Program} {e : Env} {s : State} {m : MethodId} {below : List Frame} {meth : Method} {c : Code} {b L i : Nat} {xs : Nat → Int32} {Q : State → Prop} {cells slots : Nat} (hcs : cells ≤ room_1.cells ∧ slots ≤ room_1.slots) (hL : L ≤ 2561) (hi : i + 5 ≤ L) (S : CallFix p m c code 4 s #[Value.ref b] tlG "LeastPathsLaw") (hX : va_X b L xs s s.heap) (hbl : b < s.heap.size) {A : Nat → Prop} (hA : ∀ q, s.heap.size ≤ q → A q) (hbA : ¬ A b) (σ τ : mS) (r : mS × mS)
    (K : ∀ q : mS × mS, q = r → ∀ (ls : Array Slot) (H : Heap) (locs : List Loc), lv_has ls 4 [(3, .int (nI i)), (0, .ref b), (1, .ref (adX 0)), (2, .ref (adY 0))] → m2 D clX (tyK cA) A s 99 (tbX cA) adX q.1 23 (tbY cA) adY q.2 H locs → W p l e room_1 s m #[Value.ref b] below meth c H locs cells slots Q (F0 m 924 ls []))
    (ls : Array Slot) (H : Heap) (locs : List Loc) (hl : lv_has ls 4 [(3, .int (nI i)), (0, .ref b), (1, .ref (adX 0)), (2, .ref (adY 0))]) (M : m2 D clX (tyK cA) A s 99 (tbX cA) adX σ 23 (tbY cA) adY τ H locs) (h : lawC 1 (fun k => xs (i + k)) σ τ = some r) : W p l e room_1 s m #[Value.ref b] below meth c H locs cells slots Q (F0 m 173 ls []) := by
  unfold lawC at h
  dsimp only at h
  refine lv_aload_n S.1 S.2.1 d_L_law_173 rfl (lv_at hl 2 rfl) ?_
  refine m2_x1 h (fun o ho => m_rVA (k := 0) (As := []) (rest := []) S (m2_1 M) hl.1 (cwG (n := 0) S.2.2.2.2 kl_10 kl_11 kl_12 kl_3 kl_13 (by decide) ⟨Nat.le_of_ble_eq_true rfl, Nat.le_of_ble_eq_true rfl⟩) ok_LP (by decide) rfl (c_LP_node l D cA adX _ o ho _) rfl rfl (Nat.le_of_ble_eq_true rfl) d_L_law_174 hcs) M hA (fun ox H locs h M => ?_)
  refine lv_aload_n S.1 S.2.1 d_L_law_177 rfl (lv_at hl 3 rfl) ?_
  refine m2_x2 h (fun o ho => m_rVA (k := 0) (As := []) (rest := [.int ox.1]) S (m2_2 M) hl.1 (cwG (n := 0) S.2.2.2.2 kl_14 kl_15 kl_16 kl_8 kl_17 (by decide) ⟨Nat.le_of_ble_eq_true rfl, Nat.le_of_ble_eq_true rfl⟩) ok_Mo (by decide) rfl (c_Mo_node l D cA adY _ o ho _) rfl rfl (Nat.le_of_ble_eq_true rfl) d_L_law_178 hcs) M hA (fun qy H locs h M => ?_)
  refine m_ieq (tgt := 924) S d_L_law_181 (by decide) h (fun h => ?_) (fun h => absurd h (by simp))
  exact K _ (Option.some.inj h) ls H locs hl M
set_option maxHeartbeats 4000000 in
set_option maxRecDepth 100000 in
theorem law_c2 (l : Launch) (D : va_G) (cA adX adY : Nat → Nat) {p : Program} {e : Env} {s : State} {m : MethodId} {below : List Frame} {meth : Method} {c : Code} {b L i : Nat} {xs : Nat → Int32} {Q : State → Prop} {cells slots : Nat} (hcs : cells ≤ room_1.cells ∧ slots ≤ room_1.slots) (hL : L ≤ 2561) (hi : i + 5 ≤ L) (S : CallFix p m c code 4 s #[Value.ref b] tlG "LeastPathsLaw") (hX : va_X b L xs s s.heap) (hbl : b < s.heap.size) {A : Nat → Prop} (hA : ∀ q, s.heap.size ≤ q → A q) (hbA : ¬ A b) (σ τ : mS) (r : mS × mS)
    (K : ∀ q : mS × mS, q = r → ∀ (ls : Array Slot) (H : Heap) (locs : List Loc), lv_has ls 4 [(3, .int (nI i)), (0, .ref b), (1, .ref (adX 0)), (2, .ref (adY 0))] → m2 D clX (tyK cA) A s 99 (tbX cA) adX q.1 23 (tbY cA) adY q.2 H locs → W p l e room_1 s m #[Value.ref b] below meth c H locs cells slots Q (F0 m 924 ls []))
    (ls : Array Slot) (H : Heap) (locs : List Loc) (hl : lv_has ls 4 [(3, .int (nI i)), (0, .ref b), (1, .ref (adX 0)), (2, .ref (adY 0))]) (M : m2 D clX (tyK cA) A s 99 (tbX cA) adX σ 23 (tbY cA) adY τ H locs) (h : lawC 2 (fun k => xs (i + k)) σ τ = some r) : W p l e room_1 s m #[Value.ref b] below meth c H locs cells slots Q (F0 m 186 ls []) := by
  unfold lawC at h
  dsimp only at h
  refine lv_aload_n S.1 S.2.1 d_L_law_186 rfl (lv_at hl 2 rfl) ?_
  refine lv_aload_n S.1 S.2.1 d_L_law_187 rfl (lv_at hl 1 rfl) ?_
  refine lv_iload_n S.1 S.2.1 d_L_law_188 rfl (lv_at hl 0 rfl) ?_
  refine lv_iconst (v := 1) S.1 S.2.1 d_L_law_189 (by decide) ?_
  refine lv_iadd S.1 S.2.1 d_L_law_190 ?_
  rw [show nI i + 1 = nI (i + 1) from nI_add i 1]
  refine va_sld S.1 S.2.1 hX hbl hbA M.2.2.2 (vp_in_nI (n := i + 1) (by omega) (by omega)) d_L_law_191 ?_
  rw [nI_clamp (n := i + 1) (by omega)]
  refine lv_aload_n S.1 S.2.1 d_L_law_192 rfl (lv_at hl 1 rfl) ?_
  refine lv_iload_n S.1 S.2.1 d_L_law_193 rfl (lv_at hl 0 rfl) ?_
  refine lv_iconst (v := 2) S.1 S.2.1 d_L_law_194 (by decide) ?_
  refine lv_iadd S.1 S.2.1 d_L_law_195 ?_
  rw [show nI i + 2 = nI (i + 2) from nI_add i 2]
  refine va_sld S.1 S.2.1 hX hbl hbA M.2.2.2 (vp_in_nI (n := i + 2) (by omega) (by omega)) d_L_law_196 ?_
  rw [nI_clamp (n := i + 2) (by omega)]
  refine lv_aload_n S.1 S.2.1 d_L_law_197 rfl (lv_at hl 1 rfl) ?_
  refine lv_iload_n S.1 S.2.1 d_L_law_198 rfl (lv_at hl 0 rfl) ?_
  refine lv_iconst (v := 3) S.1 S.2.1 d_L_law_199 (by decide) ?_
  refine lv_iadd S.1 S.2.1 d_L_law_200 ?_
  rw [show nI i + 3 = nI (i + 3) from nI_add i 3]
  refine va_sld S.1 S.2.1 hX hbl hbA M.2.2.2 (vp_in_nI (n := i + 3) (by omega) (by omega)) d_L_law_201 ?_
  rw [nI_clamp (n := i + 3) (by omega)]
  refine m2_x1 h (fun o ho => m_rVA (k := 0) (As := [.int (xs (i + 1)), .int (xs (i + 2)), .int (xs (i + 3))]) (rest := []) S (m2_1 M) hl.1 (cwG (n := 3) S.2.2.2.2 kl_18 kl_19 kl_20 kl_3 kl_21 (by decide) ⟨Nat.le_of_ble_eq_true rfl, Nat.le_of_ble_eq_true rfl⟩) ok_LP (by decide) rfl (c_LP_arc l D cA adX _ (xs (i + 1)) (xs (i + 2)) (xs (i + 3)) o ho _) rfl rfl (Nat.le_of_ble_eq_true rfl) d_L_law_202 hcs) M hA (fun ox H locs h M => ?_)
  refine lv_aload_n S.1 S.2.1 d_L_law_205 rfl (lv_at hl 3 rfl) ?_
  refine lv_aload_n S.1 S.2.1 d_L_law_206 rfl (lv_at hl 1 rfl) ?_
  refine lv_iload_n S.1 S.2.1 d_L_law_207 rfl (lv_at hl 0 rfl) ?_
  refine lv_iconst (v := 1) S.1 S.2.1 d_L_law_208 (by decide) ?_
  refine lv_iadd S.1 S.2.1 d_L_law_209 ?_
  rw [show nI i + 1 = nI (i + 1) from nI_add i 1]
  refine va_sld S.1 S.2.1 hX hbl hbA M.2.2.2 (vp_in_nI (n := i + 1) (by omega) (by omega)) d_L_law_210 ?_
  rw [nI_clamp (n := i + 1) (by omega)]
  refine lv_aload_n S.1 S.2.1 d_L_law_211 rfl (lv_at hl 1 rfl) ?_
  refine lv_iload_n S.1 S.2.1 d_L_law_212 rfl (lv_at hl 0 rfl) ?_
  refine lv_iconst (v := 2) S.1 S.2.1 d_L_law_213 (by decide) ?_
  refine lv_iadd S.1 S.2.1 d_L_law_214 ?_
  rw [show nI i + 2 = nI (i + 2) from nI_add i 2]
  refine va_sld S.1 S.2.1 hX hbl hbA M.2.2.2 (vp_in_nI (n := i + 2) (by omega) (by omega)) d_L_law_215 ?_
  rw [nI_clamp (n := i + 2) (by omega)]
  refine lv_aload_n S.1 S.2.1 d_L_law_216 rfl (lv_at hl 1 rfl) ?_
  refine lv_iload_n S.1 S.2.1 d_L_law_217 rfl (lv_at hl 0 rfl) ?_
  refine lv_iconst (v := 3) S.1 S.2.1 d_L_law_218 (by decide) ?_
  refine lv_iadd S.1 S.2.1 d_L_law_219 ?_
  rw [show nI i + 3 = nI (i + 3) from nI_add i 3]
  refine va_sld S.1 S.2.1 hX hbl hbA M.2.2.2 (vp_in_nI (n := i + 3) (by omega) (by omega)) d_L_law_220 ?_
  rw [nI_clamp (n := i + 3) (by omega)]
  refine m2_x2 h (fun o ho => m_rVA (k := 0) (As := [.int (xs (i + 1)), .int (xs (i + 2)), .int (xs (i + 3))]) (rest := [.int ox.1]) S (m2_2 M) hl.1 (cwG (n := 3) S.2.2.2.2 kl_22 kl_23 kl_24 kl_8 kl_25 (by decide) ⟨Nat.le_of_ble_eq_true rfl, Nat.le_of_ble_eq_true rfl⟩) ok_Mo (by decide) rfl (c_Mo_arc l D cA adY _ (xs (i + 1)) (xs (i + 2)) (xs (i + 3)) o ho _) rfl rfl (Nat.le_of_ble_eq_true rfl) d_L_law_221 hcs) M hA (fun qy H locs h M => ?_)
  refine m_ieq (tgt := 924) S d_L_law_224 (by decide) h (fun h => ?_) (fun h => absurd h (by simp))
  exact K _ (Option.some.inj h) ls H locs hl M
set_option maxHeartbeats 4000000 in
set_option maxRecDepth 100000 in
theorem law_c3 (l : Launch) (D : va_G) (cA adX adY : Nat → Nat) {p : Program} {e : Env} {s : State} {m : MethodId} {below : List Frame} {meth : Method} {c : Code} {b L i : Nat} {xs : Nat → Int32} {Q : State → Prop} {cells slots : Nat} (hcs : cells ≤ room_1.cells ∧ slots ≤ room_1.slots) (hL : L ≤ 2561) (hi : i + 5 ≤ L) (S : CallFix p m c code 4 s #[Value.ref b] tlG "LeastPathsLaw") (hX : va_X b L xs s s.heap) (hbl : b < s.heap.size) {A : Nat → Prop} (hA : ∀ q, s.heap.size ≤ q → A q) (hbA : ¬ A b) (σ τ : mS) (r : mS × mS)
    (K : ∀ q : mS × mS, q = r → ∀ (ls : Array Slot) (H : Heap) (locs : List Loc), lv_has ls 4 [(3, .int (nI i)), (0, .ref b), (1, .ref (adX 0)), (2, .ref (adY 0))] → m2 D clX (tyK cA) A s 99 (tbX cA) adX q.1 23 (tbY cA) adY q.2 H locs → W p l e room_1 s m #[Value.ref b] below meth c H locs cells slots Q (F0 m 924 ls []))
    (ls : Array Slot) (H : Heap) (locs : List Loc) (hl : lv_has ls 4 [(3, .int (nI i)), (0, .ref b), (1, .ref (adX 0)), (2, .ref (adY 0))]) (M : m2 D clX (tyK cA) A s 99 (tbX cA) adX σ 23 (tbY cA) adY τ H locs) (h : lawC 3 (fun k => xs (i + k)) σ τ = some r) : W p l e room_1 s m #[Value.ref b] below meth c H locs cells slots Q (F0 m 229 ls []) := by
  unfold lawC at h
  dsimp only at h
  refine lv_aload_n S.1 S.2.1 d_L_law_229 rfl (lv_at hl 2 rfl) ?_
  refine lv_aload_n S.1 S.2.1 d_L_law_230 rfl (lv_at hl 1 rfl) ?_
  refine lv_iload_n S.1 S.2.1 d_L_law_231 rfl (lv_at hl 0 rfl) ?_
  refine lv_iconst (v := 1) S.1 S.2.1 d_L_law_232 (by decide) ?_
  refine lv_iadd S.1 S.2.1 d_L_law_233 ?_
  rw [show nI i + 1 = nI (i + 1) from nI_add i 1]
  refine va_sld S.1 S.2.1 hX hbl hbA M.2.2.2 (vp_in_nI (n := i + 1) (by omega) (by omega)) d_L_law_234 ?_
  rw [nI_clamp (n := i + 1) (by omega)]
  refine lv_aload_n S.1 S.2.1 d_L_law_235 rfl (lv_at hl 1 rfl) ?_
  refine lv_iload_n S.1 S.2.1 d_L_law_236 rfl (lv_at hl 0 rfl) ?_
  refine lv_iconst (v := 2) S.1 S.2.1 d_L_law_237 (by decide) ?_
  refine lv_iadd S.1 S.2.1 d_L_law_238 ?_
  rw [show nI i + 2 = nI (i + 2) from nI_add i 2]
  refine va_sld S.1 S.2.1 hX hbl hbA M.2.2.2 (vp_in_nI (n := i + 2) (by omega) (by omega)) d_L_law_239 ?_
  rw [nI_clamp (n := i + 2) (by omega)]
  refine lv_aload_n S.1 S.2.1 d_L_law_240 rfl (lv_at hl 1 rfl) ?_
  refine lv_iload_n S.1 S.2.1 d_L_law_241 rfl (lv_at hl 0 rfl) ?_
  refine lv_iconst (v := 3) S.1 S.2.1 d_L_law_242 (by decide) ?_
  refine lv_iadd S.1 S.2.1 d_L_law_243 ?_
  rw [show nI i + 3 = nI (i + 3) from nI_add i 3]
  refine va_sld S.1 S.2.1 hX hbl hbA M.2.2.2 (vp_in_nI (n := i + 3) (by omega) (by omega)) d_L_law_244 ?_
  rw [nI_clamp (n := i + 3) (by omega)]
  refine m2_x1 h (fun o ho => m_rVA (k := 0) (As := [.int (xs (i + 1)), .int (xs (i + 2)), .int (xs (i + 3))]) (rest := []) S (m2_1 M) hl.1 (cwG (n := 3) S.2.2.2.2 kl_26 kl_27 kl_28 kl_3 kl_29 (by decide) ⟨Nat.le_of_ble_eq_true rfl, Nat.le_of_ble_eq_true rfl⟩) ok_LP (by decide) rfl (c_LP_share l D cA adX _ (xs (i + 1)) (xs (i + 2)) (xs (i + 3)) o ho _) rfl rfl (Nat.le_of_ble_eq_true rfl) d_L_law_245 hcs) M hA (fun ox H locs h M => ?_)
  refine lv_aload_n S.1 S.2.1 d_L_law_248 rfl (lv_at hl 3 rfl) ?_
  refine lv_aload_n S.1 S.2.1 d_L_law_249 rfl (lv_at hl 1 rfl) ?_
  refine lv_iload_n S.1 S.2.1 d_L_law_250 rfl (lv_at hl 0 rfl) ?_
  refine lv_iconst (v := 1) S.1 S.2.1 d_L_law_251 (by decide) ?_
  refine lv_iadd S.1 S.2.1 d_L_law_252 ?_
  rw [show nI i + 1 = nI (i + 1) from nI_add i 1]
  refine va_sld S.1 S.2.1 hX hbl hbA M.2.2.2 (vp_in_nI (n := i + 1) (by omega) (by omega)) d_L_law_253 ?_
  rw [nI_clamp (n := i + 1) (by omega)]
  refine lv_aload_n S.1 S.2.1 d_L_law_254 rfl (lv_at hl 1 rfl) ?_
  refine lv_iload_n S.1 S.2.1 d_L_law_255 rfl (lv_at hl 0 rfl) ?_
  refine lv_iconst (v := 2) S.1 S.2.1 d_L_law_256 (by decide) ?_
  refine lv_iadd S.1 S.2.1 d_L_law_257 ?_
  rw [show nI i + 2 = nI (i + 2) from nI_add i 2]
  refine va_sld S.1 S.2.1 hX hbl hbA M.2.2.2 (vp_in_nI (n := i + 2) (by omega) (by omega)) d_L_law_258 ?_
  rw [nI_clamp (n := i + 2) (by omega)]
  refine lv_aload_n S.1 S.2.1 d_L_law_259 rfl (lv_at hl 1 rfl) ?_
  refine lv_iload_n S.1 S.2.1 d_L_law_260 rfl (lv_at hl 0 rfl) ?_
  refine lv_iconst (v := 3) S.1 S.2.1 d_L_law_261 (by decide) ?_
  refine lv_iadd S.1 S.2.1 d_L_law_262 ?_
  rw [show nI i + 3 = nI (i + 3) from nI_add i 3]
  refine va_sld S.1 S.2.1 hX hbl hbA M.2.2.2 (vp_in_nI (n := i + 3) (by omega) (by omega)) d_L_law_263 ?_
  rw [nI_clamp (n := i + 3) (by omega)]
  refine m2_x2 h (fun o ho => m_rVA (k := 0) (As := [.int (xs (i + 1)), .int (xs (i + 2)), .int (xs (i + 3))]) (rest := [.int ox.1]) S (m2_2 M) hl.1 (cwG (n := 3) S.2.2.2.2 kl_30 kl_31 kl_32 kl_8 kl_33 (by decide) ⟨Nat.le_of_ble_eq_true rfl, Nat.le_of_ble_eq_true rfl⟩) ok_Mo (by decide) rfl (c_Mo_share l D cA adY _ (xs (i + 1)) (xs (i + 2)) (xs (i + 3)) o ho _) rfl rfl (Nat.le_of_ble_eq_true rfl) d_L_law_264 hcs) M hA (fun qy H locs h M => ?_)
  refine m_ieq (tgt := 924) S d_L_law_267 (by decide) h (fun h => ?_) (fun h => absurd h (by simp))
  exact K _ (Option.some.inj h) ls H locs hl M
set_option maxHeartbeats 4000000 in
set_option maxRecDepth 100000 in
theorem law_c4 (l : Launch) (D : va_G) (cA adX adY : Nat → Nat) {p : Program} {e : Env} {s : State} {m : MethodId} {below : List Frame} {meth : Method} {c : Code} {b L i : Nat} {xs : Nat → Int32} {Q : State → Prop} {cells slots : Nat} (hcs : cells ≤ room_1.cells ∧ slots ≤ room_1.slots) (hL : L ≤ 2561) (hi : i + 5 ≤ L) (S : CallFix p m c code 4 s #[Value.ref b] tlG "LeastPathsLaw") (hX : va_X b L xs s s.heap) (hbl : b < s.heap.size) {A : Nat → Prop} (hA : ∀ q, s.heap.size ≤ q → A q) (hbA : ¬ A b) (σ τ : mS) (r : mS × mS)
    (K : ∀ q : mS × mS, q = r → ∀ (ls : Array Slot) (H : Heap) (locs : List Loc), lv_has ls 4 [(3, .int (nI i)), (0, .ref b), (1, .ref (adX 0)), (2, .ref (adY 0))] → m2 D clX (tyK cA) A s 99 (tbX cA) adX q.1 23 (tbY cA) adY q.2 H locs → W p l e room_1 s m #[Value.ref b] below meth c H locs cells slots Q (F0 m 924 ls []))
    (ls : Array Slot) (H : Heap) (locs : List Loc) (hl : lv_has ls 4 [(3, .int (nI i)), (0, .ref b), (1, .ref (adX 0)), (2, .ref (adY 0))]) (M : m2 D clX (tyK cA) A s 99 (tbX cA) adX σ 23 (tbY cA) adY τ H locs) (h : lawC 4 (fun k => xs (i + k)) σ τ = some r) : W p l e room_1 s m #[Value.ref b] below meth c H locs cells slots Q (F0 m 272 ls []) := by
  unfold lawC at h
  dsimp only at h
  refine lv_aload_n S.1 S.2.1 d_L_law_272 rfl (lv_at hl 2 rfl) ?_
  refine lv_aload_n S.1 S.2.1 d_L_law_273 rfl (lv_at hl 1 rfl) ?_
  refine lv_iload_n S.1 S.2.1 d_L_law_274 rfl (lv_at hl 0 rfl) ?_
  refine lv_iconst (v := 1) S.1 S.2.1 d_L_law_275 (by decide) ?_
  refine lv_iadd S.1 S.2.1 d_L_law_276 ?_
  rw [show nI i + 1 = nI (i + 1) from nI_add i 1]
  refine va_sld S.1 S.2.1 hX hbl hbA M.2.2.2 (vp_in_nI (n := i + 1) (by omega) (by omega)) d_L_law_277 ?_
  rw [nI_clamp (n := i + 1) (by omega)]
  refine m2_x1 h (fun o ho => m_rVA (k := 0) (As := [.int (xs (i + 1))]) (rest := []) S (m2_1 M) hl.1 (cwG (n := 1) S.2.2.2.2 kl_34 kl_35 kl_36 kl_3 kl_37 (by decide) ⟨Nat.le_of_ble_eq_true rfl, Nat.le_of_ble_eq_true rfl⟩) ok_LP (by decide) rfl (c_LP_drop l D cA adX _ (xs (i + 1)) o ho _) rfl rfl (Nat.le_of_ble_eq_true rfl) d_L_law_278 hcs) M hA (fun ox H locs h M => ?_)
  refine lv_aload_n S.1 S.2.1 d_L_law_281 rfl (lv_at hl 3 rfl) ?_
  refine lv_aload_n S.1 S.2.1 d_L_law_282 rfl (lv_at hl 1 rfl) ?_
  refine lv_iload_n S.1 S.2.1 d_L_law_283 rfl (lv_at hl 0 rfl) ?_
  refine lv_iconst (v := 1) S.1 S.2.1 d_L_law_284 (by decide) ?_
  refine lv_iadd S.1 S.2.1 d_L_law_285 ?_
  rw [show nI i + 1 = nI (i + 1) from nI_add i 1]
  refine va_sld S.1 S.2.1 hX hbl hbA M.2.2.2 (vp_in_nI (n := i + 1) (by omega) (by omega)) d_L_law_286 ?_
  rw [nI_clamp (n := i + 1) (by omega)]
  refine m2_x2 h (fun o ho => m_rVA (k := 0) (As := [.int (xs (i + 1))]) (rest := [.int ox.1]) S (m2_2 M) hl.1 (cwG (n := 1) S.2.2.2.2 kl_38 kl_39 kl_40 kl_8 kl_41 (by decide) ⟨Nat.le_of_ble_eq_true rfl, Nat.le_of_ble_eq_true rfl⟩) ok_Mo (by decide) rfl (c_Mo_drop l D cA adY _ (xs (i + 1)) o ho _) rfl rfl (Nat.le_of_ble_eq_true rfl) d_L_law_287 hcs) M hA (fun qy H locs h M => ?_)
  refine m_ieq (tgt := 924) S d_L_law_290 (by decide) h (fun h => ?_) (fun h => absurd h (by simp))
  exact K _ (Option.some.inj h) ls H locs hl M
set_option maxHeartbeats 4000000 in
set_option maxRecDepth 100000 in
theorem law_c5 (l : Launch) (D : va_G) (cA adX adY : Nat → Nat) {p : Program} {e : Env} {s : State} {m : MethodId} {below : List Frame} {meth : Method} {c : Code} {b L i : Nat} {xs : Nat → Int32} {Q : State → Prop} {cells slots : Nat} (hcs : cells ≤ room_1.cells ∧ slots ≤ room_1.slots) (hL : L ≤ 2561) (hi : i + 5 ≤ L) (S : CallFix p m c code 4 s #[Value.ref b] tlG "LeastPathsLaw") (hX : va_X b L xs s s.heap) (hbl : b < s.heap.size) {A : Nat → Prop} (hA : ∀ q, s.heap.size ≤ q → A q) (hbA : ¬ A b) (σ τ : mS) (r : mS × mS)
    (K : ∀ q : mS × mS, q = r → ∀ (ls : Array Slot) (H : Heap) (locs : List Loc), lv_has ls 4 [(3, .int (nI i)), (0, .ref b), (1, .ref (adX 0)), (2, .ref (adY 0))] → m2 D clX (tyK cA) A s 99 (tbX cA) adX q.1 23 (tbY cA) adY q.2 H locs → W p l e room_1 s m #[Value.ref b] below meth c H locs cells slots Q (F0 m 924 ls []))
    (ls : Array Slot) (H : Heap) (locs : List Loc) (hl : lv_has ls 4 [(3, .int (nI i)), (0, .ref b), (1, .ref (adX 0)), (2, .ref (adY 0))]) (M : m2 D clX (tyK cA) A s 99 (tbX cA) adX σ 23 (tbY cA) adY τ H locs) (h : lawC 5 (fun k => xs (i + k)) σ τ = some r) : W p l e room_1 s m #[Value.ref b] below meth c H locs cells slots Q (F0 m 295 ls []) := by
  unfold lawC at h
  dsimp only at h
  by_cases hz : xs (i + 2) = 0
  · rw [show zb (xs (i + 2)) = 0 from if_pos hz] at h
    refine lv_aload_n S.1 S.2.1 d_L_law_295 rfl (lv_at hl 2 rfl) ?_
    refine lv_aload_n S.1 S.2.1 d_L_law_296 rfl (lv_at hl 1 rfl) ?_
    refine lv_iload_n S.1 S.2.1 d_L_law_297 rfl (lv_at hl 0 rfl) ?_
    refine lv_iconst (v := 1) S.1 S.2.1 d_L_law_298 (by decide) ?_
    refine lv_iadd S.1 S.2.1 d_L_law_299 ?_
    rw [show nI i + 1 = nI (i + 1) from nI_add i 1]
    refine va_sld S.1 S.2.1 hX hbl hbA M.2.2.2 (vp_in_nI (n := i + 1) (by omega) (by omega)) d_L_law_300 ?_
    rw [nI_clamp (n := i + 1) (by omega)]
    refine lv_aload_n S.1 S.2.1 d_L_law_301 rfl (lv_at hl 1 rfl) ?_
    refine lv_iload_n S.1 S.2.1 d_L_law_302 rfl (lv_at hl 0 rfl) ?_
    refine lv_iconst (v := 2) S.1 S.2.1 d_L_law_303 (by decide) ?_
    refine lv_iadd S.1 S.2.1 d_L_law_304 ?_
    rw [show nI i + 2 = nI (i + 2) from nI_add i 2]
    refine va_sld S.1 S.2.1 hX hbl hbA M.2.2.2 (vp_in_nI (n := i + 2) (by omega) (by omega)) d_L_law_305 ?_
    rw [nI_clamp (n := i + 2) (by omega)]
    refine lv_if_eq (tgt := 313) S.1 S.2.1 d_L_law_306 (by decide) (fun _ => ?_) (fun c1 => absurd hz c1)
    refine lv_iconst (v := 0) S.1 S.2.1 d_L_law_313 (by decide) ?_
    refine m2_x1 h (fun o ho => m_rVA (k := 0) (As := [.int (xs (i + 1)), .int 0]) (rest := []) S (m2_1 M) hl.1 (cwG (n := 2) S.2.2.2.2 kl_42 kl_43 kl_44 kl_3 kl_45 (by decide) ⟨Nat.le_of_ble_eq_true rfl, Nat.le_of_ble_eq_true rfl⟩) ok_LP (by decide) rfl (c_LP_source l D cA adX _ (xs (i + 1)) 0 o ho _) rfl rfl (Nat.le_of_ble_eq_true rfl) d_L_law_314 hcs) M hA (fun ox H locs h M => ?_)
    refine lv_aload_n S.1 S.2.1 d_L_law_317 rfl (lv_at hl 3 rfl) ?_
    refine lv_aload_n S.1 S.2.1 d_L_law_318 rfl (lv_at hl 1 rfl) ?_
    refine lv_iload_n S.1 S.2.1 d_L_law_319 rfl (lv_at hl 0 rfl) ?_
    refine lv_iconst (v := 1) S.1 S.2.1 d_L_law_320 (by decide) ?_
    refine lv_iadd S.1 S.2.1 d_L_law_321 ?_
    rw [show nI i + 1 = nI (i + 1) from nI_add i 1]
    refine va_sld S.1 S.2.1 hX hbl hbA M.2.2.2 (vp_in_nI (n := i + 1) (by omega) (by omega)) d_L_law_322 ?_
    rw [nI_clamp (n := i + 1) (by omega)]
    refine lv_aload_n S.1 S.2.1 d_L_law_323 rfl (lv_at hl 1 rfl) ?_
    refine lv_iload_n S.1 S.2.1 d_L_law_324 rfl (lv_at hl 0 rfl) ?_
    refine lv_iconst (v := 2) S.1 S.2.1 d_L_law_325 (by decide) ?_
    refine lv_iadd S.1 S.2.1 d_L_law_326 ?_
    rw [show nI i + 2 = nI (i + 2) from nI_add i 2]
    refine va_sld S.1 S.2.1 hX hbl hbA M.2.2.2 (vp_in_nI (n := i + 2) (by omega) (by omega)) d_L_law_327 ?_
    rw [nI_clamp (n := i + 2) (by omega)]
    refine lv_if_eq (tgt := 335) S.1 S.2.1 d_L_law_328 (by decide) (fun _ => ?_) (fun c1 => absurd hz c1)
    refine lv_iconst (v := 0) S.1 S.2.1 d_L_law_335 (by decide) ?_
    refine m2_x2 h (fun o ho => m_rVA (k := 0) (As := [.int (xs (i + 1)), .int 0]) (rest := [.int ox.1]) S (m2_2 M) hl.1 (cwG (n := 2) S.2.2.2.2 kl_46 kl_47 kl_48 kl_8 kl_49 (by decide) ⟨Nat.le_of_ble_eq_true rfl, Nat.le_of_ble_eq_true rfl⟩) ok_Mo (by decide) rfl (c_Mo_source l D cA adY _ (xs (i + 1)) 0 o ho _) rfl rfl (Nat.le_of_ble_eq_true rfl) d_L_law_336 hcs) M hA (fun qy H locs h M => ?_)
    refine m_ieq (tgt := 924) S d_L_law_339 (by decide) h (fun h => ?_) (fun h => absurd h (by simp))
    exact K _ (Option.some.inj h) ls H locs hl M
  · rw [show zb (xs (i + 2)) = 1 from if_neg hz] at h
    refine lv_aload_n S.1 S.2.1 d_L_law_295 rfl (lv_at hl 2 rfl) ?_
    refine lv_aload_n S.1 S.2.1 d_L_law_296 rfl (lv_at hl 1 rfl) ?_
    refine lv_iload_n S.1 S.2.1 d_L_law_297 rfl (lv_at hl 0 rfl) ?_
    refine lv_iconst (v := 1) S.1 S.2.1 d_L_law_298 (by decide) ?_
    refine lv_iadd S.1 S.2.1 d_L_law_299 ?_
    rw [show nI i + 1 = nI (i + 1) from nI_add i 1]
    refine va_sld S.1 S.2.1 hX hbl hbA M.2.2.2 (vp_in_nI (n := i + 1) (by omega) (by omega)) d_L_law_300 ?_
    rw [nI_clamp (n := i + 1) (by omega)]
    refine lv_aload_n S.1 S.2.1 d_L_law_301 rfl (lv_at hl 1 rfl) ?_
    refine lv_iload_n S.1 S.2.1 d_L_law_302 rfl (lv_at hl 0 rfl) ?_
    refine lv_iconst (v := 2) S.1 S.2.1 d_L_law_303 (by decide) ?_
    refine lv_iadd S.1 S.2.1 d_L_law_304 ?_
    rw [show nI i + 2 = nI (i + 2) from nI_add i 2]
    refine va_sld S.1 S.2.1 hX hbl hbA M.2.2.2 (vp_in_nI (n := i + 2) (by omega) (by omega)) d_L_law_305 ?_
    rw [nI_clamp (n := i + 2) (by omega)]
    refine lv_if_eq (tgt := 313) S.1 S.2.1 d_L_law_306 (by decide) (fun c1 => absurd c1 hz) (fun _ => ?_)
    refine lv_iconst (v := 1) S.1 S.2.1 d_L_law_309 (by decide) ?_
    refine lv_goto (tgt := 314) S.1 S.2.1 d_L_law_310 (by decide) ?_
    refine m2_x1 h (fun o ho => m_rVA (k := 0) (As := [.int (xs (i + 1)), .int 1]) (rest := []) S (m2_1 M) hl.1 (cwG (n := 2) S.2.2.2.2 kl_42 kl_43 kl_44 kl_3 kl_45 (by decide) ⟨Nat.le_of_ble_eq_true rfl, Nat.le_of_ble_eq_true rfl⟩) ok_LP (by decide) rfl (c_LP_source l D cA adX _ (xs (i + 1)) 1 o ho _) rfl rfl (Nat.le_of_ble_eq_true rfl) d_L_law_314 hcs) M hA (fun ox H locs h M => ?_)
    refine lv_aload_n S.1 S.2.1 d_L_law_317 rfl (lv_at hl 3 rfl) ?_
    refine lv_aload_n S.1 S.2.1 d_L_law_318 rfl (lv_at hl 1 rfl) ?_
    refine lv_iload_n S.1 S.2.1 d_L_law_319 rfl (lv_at hl 0 rfl) ?_
    refine lv_iconst (v := 1) S.1 S.2.1 d_L_law_320 (by decide) ?_
    refine lv_iadd S.1 S.2.1 d_L_law_321 ?_
    rw [show nI i + 1 = nI (i + 1) from nI_add i 1]
    refine va_sld S.1 S.2.1 hX hbl hbA M.2.2.2 (vp_in_nI (n := i + 1) (by omega) (by omega)) d_L_law_322 ?_
    rw [nI_clamp (n := i + 1) (by omega)]
    refine lv_aload_n S.1 S.2.1 d_L_law_323 rfl (lv_at hl 1 rfl) ?_
    refine lv_iload_n S.1 S.2.1 d_L_law_324 rfl (lv_at hl 0 rfl) ?_
    refine lv_iconst (v := 2) S.1 S.2.1 d_L_law_325 (by decide) ?_
    refine lv_iadd S.1 S.2.1 d_L_law_326 ?_
    rw [show nI i + 2 = nI (i + 2) from nI_add i 2]
    refine va_sld S.1 S.2.1 hX hbl hbA M.2.2.2 (vp_in_nI (n := i + 2) (by omega) (by omega)) d_L_law_327 ?_
    rw [nI_clamp (n := i + 2) (by omega)]
    refine lv_if_eq (tgt := 335) S.1 S.2.1 d_L_law_328 (by decide) (fun c1 => absurd c1 hz) (fun _ => ?_)
    refine lv_iconst (v := 1) S.1 S.2.1 d_L_law_331 (by decide) ?_
    refine lv_goto (tgt := 336) S.1 S.2.1 d_L_law_332 (by decide) ?_
    refine m2_x2 h (fun o ho => m_rVA (k := 0) (As := [.int (xs (i + 1)), .int 1]) (rest := [.int ox.1]) S (m2_2 M) hl.1 (cwG (n := 2) S.2.2.2.2 kl_46 kl_47 kl_48 kl_8 kl_49 (by decide) ⟨Nat.le_of_ble_eq_true rfl, Nat.le_of_ble_eq_true rfl⟩) ok_Mo (by decide) rfl (c_Mo_source l D cA adY _ (xs (i + 1)) 1 o ho _) rfl rfl (Nat.le_of_ble_eq_true rfl) d_L_law_336 hcs) M hA (fun qy H locs h M => ?_)
    refine m_ieq (tgt := 924) S d_L_law_339 (by decide) h (fun h => ?_) (fun h => absurd h (by simp))
    exact K _ (Option.some.inj h) ls H locs hl M
set_option maxHeartbeats 4000000 in
set_option maxRecDepth 100000 in
theorem law_c6 (l : Launch) (D : va_G) (cA adX adY : Nat → Nat) {p : Program} {e : Env} {s : State} {m : MethodId} {below : List Frame} {meth : Method} {c : Code} {b L i : Nat} {xs : Nat → Int32} {Q : State → Prop} {cells slots : Nat} (hcs : cells ≤ room_1.cells ∧ slots ≤ room_1.slots) (hL : L ≤ 2561) (hi : i + 5 ≤ L) (S : CallFix p m c code 4 s #[Value.ref b] tlG "LeastPathsLaw") (hX : va_X b L xs s s.heap) (hbl : b < s.heap.size) {A : Nat → Prop} (hA : ∀ q, s.heap.size ≤ q → A q) (hbA : ¬ A b) (σ τ : mS) (r : mS × mS)
    (K : ∀ q : mS × mS, q = r → ∀ (ls : Array Slot) (H : Heap) (locs : List Loc), lv_has ls 4 [(3, .int (nI i)), (0, .ref b), (1, .ref (adX 0)), (2, .ref (adY 0))] → m2 D clX (tyK cA) A s 99 (tbX cA) adX q.1 23 (tbY cA) adY q.2 H locs → W p l e room_1 s m #[Value.ref b] below meth c H locs cells slots Q (F0 m 924 ls []))
    (ls : Array Slot) (H : Heap) (locs : List Loc) (hl : lv_has ls 4 [(3, .int (nI i)), (0, .ref b), (1, .ref (adX 0)), (2, .ref (adY 0))]) (M : m2 D clX (tyK cA) A s 99 (tbX cA) adX σ 23 (tbY cA) adY τ H locs) (h : lawC 6 (fun k => xs (i + k)) σ τ = some r) : W p l e room_1 s m #[Value.ref b] below meth c H locs cells slots Q (F0 m 344 ls []) := by
  unfold lawC at h
  dsimp only at h
  refine lv_aload_n S.1 S.2.1 d_L_law_344 rfl (lv_at hl 2 rfl) ?_
  refine lv_aload_n S.1 S.2.1 d_L_law_345 rfl (lv_at hl 1 rfl) ?_
  refine lv_iload_n S.1 S.2.1 d_L_law_346 rfl (lv_at hl 0 rfl) ?_
  refine lv_iconst (v := 1) S.1 S.2.1 d_L_law_347 (by decide) ?_
  refine lv_iadd S.1 S.2.1 d_L_law_348 ?_
  rw [show nI i + 1 = nI (i + 1) from nI_add i 1]
  refine va_sld S.1 S.2.1 hX hbl hbA M.2.2.2 (vp_in_nI (n := i + 1) (by omega) (by omega)) d_L_law_349 ?_
  rw [nI_clamp (n := i + 1) (by omega)]
  refine lv_aload_n S.1 S.2.1 d_L_law_350 rfl (lv_at hl 1 rfl) ?_
  refine lv_iload_n S.1 S.2.1 d_L_law_351 rfl (lv_at hl 0 rfl) ?_
  refine lv_iconst (v := 2) S.1 S.2.1 d_L_law_352 (by decide) ?_
  refine lv_iadd S.1 S.2.1 d_L_law_353 ?_
  rw [show nI i + 2 = nI (i + 2) from nI_add i 2]
  refine va_sld S.1 S.2.1 hX hbl hbA M.2.2.2 (vp_in_nI (n := i + 2) (by omega) (by omega)) d_L_law_354 ?_
  rw [nI_clamp (n := i + 2) (by omega)]
  refine m2_x1 h (fun o ho => m_rVA (k := 0) (As := [.int (xs (i + 1)), .int (xs (i + 2))]) (rest := []) S (m2_1 M) hl.1 (cwG (n := 2) S.2.2.2.2 kl_50 kl_51 kl_52 kl_3 kl_53 (by decide) ⟨Nat.le_of_ble_eq_true rfl, Nat.le_of_ble_eq_true rfl⟩) ok_LP (by decide) rfl (c_LP_rest l D cA adX _ (xs (i + 1)) (xs (i + 2)) o ho _) rfl rfl (Nat.le_of_ble_eq_true rfl) d_L_law_355 hcs) M hA (fun ox H locs h M => ?_)
  refine lv_aload_n S.1 S.2.1 d_L_law_358 rfl (lv_at hl 3 rfl) ?_
  refine lv_aload_n S.1 S.2.1 d_L_law_359 rfl (lv_at hl 1 rfl) ?_
  refine lv_iload_n S.1 S.2.1 d_L_law_360 rfl (lv_at hl 0 rfl) ?_
  refine lv_iconst (v := 1) S.1 S.2.1 d_L_law_361 (by decide) ?_
  refine lv_iadd S.1 S.2.1 d_L_law_362 ?_
  rw [show nI i + 1 = nI (i + 1) from nI_add i 1]
  refine va_sld S.1 S.2.1 hX hbl hbA M.2.2.2 (vp_in_nI (n := i + 1) (by omega) (by omega)) d_L_law_363 ?_
  rw [nI_clamp (n := i + 1) (by omega)]
  refine lv_aload_n S.1 S.2.1 d_L_law_364 rfl (lv_at hl 1 rfl) ?_
  refine lv_iload_n S.1 S.2.1 d_L_law_365 rfl (lv_at hl 0 rfl) ?_
  refine lv_iconst (v := 2) S.1 S.2.1 d_L_law_366 (by decide) ?_
  refine lv_iadd S.1 S.2.1 d_L_law_367 ?_
  rw [show nI i + 2 = nI (i + 2) from nI_add i 2]
  refine va_sld S.1 S.2.1 hX hbl hbA M.2.2.2 (vp_in_nI (n := i + 2) (by omega) (by omega)) d_L_law_368 ?_
  rw [nI_clamp (n := i + 2) (by omega)]
  refine m2_x2 h (fun o ho => m_rVA (k := 0) (As := [.int (xs (i + 1)), .int (xs (i + 2))]) (rest := [.int ox.1]) S (m2_2 M) hl.1 (cwG (n := 2) S.2.2.2.2 kl_54 kl_55 kl_56 kl_8 kl_57 (by decide) ⟨Nat.le_of_ble_eq_true rfl, Nat.le_of_ble_eq_true rfl⟩) ok_Mo (by decide) rfl (c_Mo_rest l D cA adY _ (xs (i + 1)) (xs (i + 2)) o ho _) rfl rfl (Nat.le_of_ble_eq_true rfl) d_L_law_369 hcs) M hA (fun qy H locs h M => ?_)
  refine m_ieq (tgt := 924) S d_L_law_372 (by decide) h (fun h => ?_) (fun h => absurd h (by simp))
  exact K _ (Option.some.inj h) ls H locs hl M
set_option maxHeartbeats 4000000 in
set_option maxRecDepth 100000 in
theorem law_c7 (l : Launch) (D : va_G) (cA adX adY : Nat → Nat) {p : Program} {e : Env} {s : State} {m : MethodId} {below : List Frame} {meth : Method} {c : Code} {b L i : Nat} {xs : Nat → Int32} {Q : State → Prop} {cells slots : Nat} (hcs : cells ≤ room_1.cells ∧ slots ≤ room_1.slots) (hL : L ≤ 2561) (hi : i + 5 ≤ L) (S : CallFix p m c code 4 s #[Value.ref b] tlG "LeastPathsLaw") (hX : va_X b L xs s s.heap) (hbl : b < s.heap.size) {A : Nat → Prop} (hA : ∀ q, s.heap.size ≤ q → A q) (hbA : ¬ A b) (σ τ : mS) (r : mS × mS)
    (K : ∀ q : mS × mS, q = r → ∀ (ls : Array Slot) (H : Heap) (locs : List Loc), lv_has ls 4 [(3, .int (nI i)), (0, .ref b), (1, .ref (adX 0)), (2, .ref (adY 0))] → m2 D clX (tyK cA) A s 99 (tbX cA) adX q.1 23 (tbY cA) adY q.2 H locs → W p l e room_1 s m #[Value.ref b] below meth c H locs cells slots Q (F0 m 924 ls []))
    (ls : Array Slot) (H : Heap) (locs : List Loc) (hl : lv_has ls 4 [(3, .int (nI i)), (0, .ref b), (1, .ref (adX 0)), (2, .ref (adY 0))]) (M : m2 D clX (tyK cA) A s 99 (tbX cA) adX σ 23 (tbY cA) adY τ H locs) (h : lawC 7 (fun k => xs (i + k)) σ τ = some r) : W p l e room_1 s m #[Value.ref b] below meth c H locs cells slots Q (F0 m 377 ls []) := by
  unfold lawC at h
  dsimp only at h
  refine lv_aload_n S.1 S.2.1 d_L_law_377 rfl (lv_at hl 2 rfl) ?_
  refine m2_x1 h (fun o ho => m_rVA (k := 0) (As := []) (rest := []) S (m2_1 M) hl.1 (cwG (n := 0) S.2.2.2.2 kl_58 kl_59 kl_60 kl_3 kl_61 (by decide) ⟨Nat.le_of_ble_eq_true rfl, Nat.le_of_ble_eq_true rfl⟩) ok_LP (by decide) rfl (c_LP_clear l D cA adX _ o ho _) rfl rfl (Nat.le_of_ble_eq_true rfl) d_L_law_378 hcs) M hA (fun ox H locs h M => ?_)
  refine lv_aload_n S.1 S.2.1 d_L_law_381 rfl (lv_at hl 3 rfl) ?_
  refine m2_x2 h (fun o ho => m_rVA (k := 0) (As := []) (rest := [.int ox.1]) S (m2_2 M) hl.1 (cwG (n := 0) S.2.2.2.2 kl_62 kl_63 kl_64 kl_8 kl_65 (by decide) ⟨Nat.le_of_ble_eq_true rfl, Nat.le_of_ble_eq_true rfl⟩) ok_Mo (by decide) rfl (c_Mo_clear l D cA adY _ o ho _) rfl rfl (Nat.le_of_ble_eq_true rfl) d_L_law_382 hcs) M hA (fun qy H locs h M => ?_)
  refine m_ieq (tgt := 924) S d_L_law_385 (by decide) h (fun h => ?_) (fun h => absurd h (by simp))
  exact K _ (Option.some.inj h) ls H locs hl M
set_option maxHeartbeats 4000000 in
set_option maxRecDepth 100000 in
theorem law_c8 (l : Launch) (D : va_G) (cA adX adY : Nat → Nat) {p : Program} {e : Env} {s : State} {m : MethodId} {below : List Frame} {meth : Method} {c : Code} {b L i : Nat} {xs : Nat → Int32} {Q : State → Prop} {cells slots : Nat} (hcs : cells ≤ room_1.cells ∧ slots ≤ room_1.slots) (hL : L ≤ 2561) (hi : i + 5 ≤ L) (S : CallFix p m c code 4 s #[Value.ref b] tlG "LeastPathsLaw") (hX : va_X b L xs s s.heap) (hbl : b < s.heap.size) {A : Nat → Prop} (hA : ∀ q, s.heap.size ≤ q → A q) (hbA : ¬ A b) (σ τ : mS) (r : mS × mS)
    (K : ∀ q : mS × mS, q = r → ∀ (ls : Array Slot) (H : Heap) (locs : List Loc), lv_has ls 4 [(3, .int (nI i)), (0, .ref b), (1, .ref (adX 0)), (2, .ref (adY 0))] → m2 D clX (tyK cA) A s 99 (tbX cA) adX q.1 23 (tbY cA) adY q.2 H locs → W p l e room_1 s m #[Value.ref b] below meth c H locs cells slots Q (F0 m 924 ls []))
    (ls : Array Slot) (H : Heap) (locs : List Loc) (hl : lv_has ls 4 [(3, .int (nI i)), (0, .ref b), (1, .ref (adX 0)), (2, .ref (adY 0))]) (M : m2 D clX (tyK cA) A s 99 (tbX cA) adX σ 23 (tbY cA) adY τ H locs) (h : lawC 8 (fun k => xs (i + k)) σ τ = some r) : W p l e room_1 s m #[Value.ref b] below meth c H locs cells slots Q (F0 m 390 ls []) := by
  unfold lawC at h
  dsimp only at h
  refine lv_aload_n S.1 S.2.1 d_L_law_390 rfl (lv_at hl 2 rfl) ?_
  refine lv_aload_n S.1 S.2.1 d_L_law_391 rfl (lv_at hl 1 rfl) ?_
  refine lv_iload_n S.1 S.2.1 d_L_law_392 rfl (lv_at hl 0 rfl) ?_
  refine lv_iconst (v := 1) S.1 S.2.1 d_L_law_393 (by decide) ?_
  refine lv_iadd S.1 S.2.1 d_L_law_394 ?_
  rw [show nI i + 1 = nI (i + 1) from nI_add i 1]
  refine va_sld S.1 S.2.1 hX hbl hbA M.2.2.2 (vp_in_nI (n := i + 1) (by omega) (by omega)) d_L_law_395 ?_
  rw [nI_clamp (n := i + 1) (by omega)]
  refine m2_x1 h (fun o ho => m_rVA (k := 0) (As := [.int (xs (i + 1))]) (rest := []) S (m2_1 M) hl.1 (cwG (n := 1) S.2.2.2.2 kl_66 kl_67 kl_68 kl_3 kl_69 (by decide) ⟨Nat.le_of_ble_eq_true rfl, Nat.le_of_ble_eq_true rfl⟩) ok_LP (by decide) rfl (c_LP_distance l D cA adX _ (xs (i + 1)) o ho _) rfl rfl (Nat.le_of_ble_eq_true rfl) d_L_law_396 hcs) M hA (fun ox H locs h M => ?_)
  refine lv_aload_n S.1 S.2.1 d_L_law_399 rfl (lv_at hl 3 rfl) ?_
  refine lv_aload_n S.1 S.2.1 d_L_law_400 rfl (lv_at hl 1 rfl) ?_
  refine lv_iload_n S.1 S.2.1 d_L_law_401 rfl (lv_at hl 0 rfl) ?_
  refine lv_iconst (v := 1) S.1 S.2.1 d_L_law_402 (by decide) ?_
  refine lv_iadd S.1 S.2.1 d_L_law_403 ?_
  rw [show nI i + 1 = nI (i + 1) from nI_add i 1]
  refine va_sld S.1 S.2.1 hX hbl hbA M.2.2.2 (vp_in_nI (n := i + 1) (by omega) (by omega)) d_L_law_404 ?_
  rw [nI_clamp (n := i + 1) (by omega)]
  refine m2_x2 h (fun o ho => m_rVA (k := 0) (As := [.int (xs (i + 1))]) (rest := [.int ox.1]) S (m2_2 M) hl.1 (cwG (n := 1) S.2.2.2.2 kl_70 kl_71 kl_72 kl_8 kl_73 (by decide) ⟨Nat.le_of_ble_eq_true rfl, Nat.le_of_ble_eq_true rfl⟩) ok_Mo (by decide) rfl (c_Mo_distance l D cA adY _ (xs (i + 1)) o ho _) rfl rfl (Nat.le_of_ble_eq_true rfl) d_L_law_405 hcs) M hA (fun qy H locs h M => ?_)
  refine m_ieq (tgt := 924) S d_L_law_408 (by decide) h (fun h => ?_) (fun h => absurd h (by simp))
  exact K _ (Option.some.inj h) ls H locs hl M
set_option maxHeartbeats 4000000 in
set_option maxRecDepth 100000 in
theorem law_c9 (l : Launch) (D : va_G) (cA adX adY : Nat → Nat) {p : Program} {e : Env} {s : State} {m : MethodId} {below : List Frame} {meth : Method} {c : Code} {b L i : Nat} {xs : Nat → Int32} {Q : State → Prop} {cells slots : Nat} (hcs : cells ≤ room_1.cells ∧ slots ≤ room_1.slots) (hL : L ≤ 2561) (hi : i + 5 ≤ L) (S : CallFix p m c code 4 s #[Value.ref b] tlG "LeastPathsLaw") (hX : va_X b L xs s s.heap) (hbl : b < s.heap.size) {A : Nat → Prop} (hA : ∀ q, s.heap.size ≤ q → A q) (hbA : ¬ A b) (σ τ : mS) (r : mS × mS)
    (K : ∀ q : mS × mS, q = r → ∀ (ls : Array Slot) (H : Heap) (locs : List Loc), lv_has ls 4 [(3, .int (nI i)), (0, .ref b), (1, .ref (adX 0)), (2, .ref (adY 0))] → m2 D clX (tyK cA) A s 99 (tbX cA) adX q.1 23 (tbY cA) adY q.2 H locs → W p l e room_1 s m #[Value.ref b] below meth c H locs cells slots Q (F0 m 924 ls []))
    (ls : Array Slot) (H : Heap) (locs : List Loc) (hl : lv_has ls 4 [(3, .int (nI i)), (0, .ref b), (1, .ref (adX 0)), (2, .ref (adY 0))]) (M : m2 D clX (tyK cA) A s 99 (tbX cA) adX σ 23 (tbY cA) adY τ H locs) (h : lawC 9 (fun k => xs (i + k)) σ τ = some r) : W p l e room_1 s m #[Value.ref b] below meth c H locs cells slots Q (F0 m 413 ls []) := by
  unfold lawC at h
  dsimp only at h
  refine lv_aload_n S.1 S.2.1 d_L_law_413 rfl (lv_at hl 2 rfl) ?_
  refine lv_aload_n S.1 S.2.1 d_L_law_414 rfl (lv_at hl 1 rfl) ?_
  refine lv_iload_n S.1 S.2.1 d_L_law_415 rfl (lv_at hl 0 rfl) ?_
  refine lv_iconst (v := 1) S.1 S.2.1 d_L_law_416 (by decide) ?_
  refine lv_iadd S.1 S.2.1 d_L_law_417 ?_
  rw [show nI i + 1 = nI (i + 1) from nI_add i 1]
  refine va_sld S.1 S.2.1 hX hbl hbA M.2.2.2 (vp_in_nI (n := i + 1) (by omega) (by omega)) d_L_law_418 ?_
  rw [nI_clamp (n := i + 1) (by omega)]
  refine m2_x1 h (fun o ho => m_rVA (k := 0) (As := [.int (xs (i + 1))]) (rest := []) S (m2_1 M) hl.1 (cwG (n := 1) S.2.2.2.2 kl_74 kl_75 kl_76 kl_3 kl_77 (by decide) ⟨Nat.le_of_ble_eq_true rfl, Nat.le_of_ble_eq_true rfl⟩) ok_LP (by decide) rfl (c_LP_hops l D cA adX _ (xs (i + 1)) o ho _) rfl rfl (Nat.le_of_ble_eq_true rfl) d_L_law_419 hcs) M hA (fun ox H locs h M => ?_)
  refine lv_aload_n S.1 S.2.1 d_L_law_422 rfl (lv_at hl 3 rfl) ?_
  refine lv_aload_n S.1 S.2.1 d_L_law_423 rfl (lv_at hl 1 rfl) ?_
  refine lv_iload_n S.1 S.2.1 d_L_law_424 rfl (lv_at hl 0 rfl) ?_
  refine lv_iconst (v := 1) S.1 S.2.1 d_L_law_425 (by decide) ?_
  refine lv_iadd S.1 S.2.1 d_L_law_426 ?_
  rw [show nI i + 1 = nI (i + 1) from nI_add i 1]
  refine va_sld S.1 S.2.1 hX hbl hbA M.2.2.2 (vp_in_nI (n := i + 1) (by omega) (by omega)) d_L_law_427 ?_
  rw [nI_clamp (n := i + 1) (by omega)]
  refine m2_x2 h (fun o ho => m_rVA (k := 0) (As := [.int (xs (i + 1))]) (rest := [.int ox.1]) S (m2_2 M) hl.1 (cwG (n := 1) S.2.2.2.2 kl_78 kl_79 kl_80 kl_8 kl_81 (by decide) ⟨Nat.le_of_ble_eq_true rfl, Nat.le_of_ble_eq_true rfl⟩) ok_Mo (by decide) rfl (c_Mo_hops l D cA adY _ (xs (i + 1)) o ho _) rfl rfl (Nat.le_of_ble_eq_true rfl) d_L_law_428 hcs) M hA (fun qy H locs h M => ?_)
  refine m_ieq (tgt := 924) S d_L_law_431 (by decide) h (fun h => ?_) (fun h => absurd h (by simp))
  exact K _ (Option.some.inj h) ls H locs hl M
set_option maxHeartbeats 4000000 in
set_option maxRecDepth 100000 in
theorem law_c10 (l : Launch) (D : va_G) (cA adX adY : Nat → Nat) {p : Program} {e : Env} {s : State} {m : MethodId} {below : List Frame} {meth : Method} {c : Code} {b L i : Nat} {xs : Nat → Int32} {Q : State → Prop} {cells slots : Nat} (hcs : cells ≤ room_1.cells ∧ slots ≤ room_1.slots) (hL : L ≤ 2561) (hi : i + 5 ≤ L) (S : CallFix p m c code 4 s #[Value.ref b] tlG "LeastPathsLaw") (hX : va_X b L xs s s.heap) (hbl : b < s.heap.size) {A : Nat → Prop} (hA : ∀ q, s.heap.size ≤ q → A q) (hbA : ¬ A b) (σ τ : mS) (r : mS × mS)
    (K : ∀ q : mS × mS, q = r → ∀ (ls : Array Slot) (H : Heap) (locs : List Loc), lv_has ls 4 [(3, .int (nI i)), (0, .ref b), (1, .ref (adX 0)), (2, .ref (adY 0))] → m2 D clX (tyK cA) A s 99 (tbX cA) adX q.1 23 (tbY cA) adY q.2 H locs → W p l e room_1 s m #[Value.ref b] below meth c H locs cells slots Q (F0 m 924 ls []))
    (ls : Array Slot) (H : Heap) (locs : List Loc) (hl : lv_has ls 4 [(3, .int (nI i)), (0, .ref b), (1, .ref (adX 0)), (2, .ref (adY 0))]) (M : m2 D clX (tyK cA) A s 99 (tbX cA) adX σ 23 (tbY cA) adY τ H locs) (h : lawC 10 (fun k => xs (i + k)) σ τ = some r) : W p l e room_1 s m #[Value.ref b] below meth c H locs cells slots Q (F0 m 436 ls []) := by
  unfold lawC at h
  dsimp only at h
  refine lv_aload_n S.1 S.2.1 d_L_law_436 rfl (lv_at hl 2 rfl) ?_
  refine lv_aload_n S.1 S.2.1 d_L_law_437 rfl (lv_at hl 1 rfl) ?_
  refine lv_iload_n S.1 S.2.1 d_L_law_438 rfl (lv_at hl 0 rfl) ?_
  refine lv_iconst (v := 1) S.1 S.2.1 d_L_law_439 (by decide) ?_
  refine lv_iadd S.1 S.2.1 d_L_law_440 ?_
  rw [show nI i + 1 = nI (i + 1) from nI_add i 1]
  refine va_sld S.1 S.2.1 hX hbl hbA M.2.2.2 (vp_in_nI (n := i + 1) (by omega) (by omega)) d_L_law_441 ?_
  rw [nI_clamp (n := i + 1) (by omega)]
  refine m2_x1 h (fun o ho => m_rVA (k := 0) (As := [.int (xs (i + 1))]) (rest := []) S (m2_1 M) hl.1 (cwG (n := 1) S.2.2.2.2 kl_82 kl_83 kl_84 kl_3 kl_85 (by decide) ⟨Nat.le_of_ble_eq_true rfl, Nat.le_of_ble_eq_true rfl⟩) ok_LP (by decide) rfl (c_LP_step l D cA adX _ (xs (i + 1)) o ho _) rfl rfl (Nat.le_of_ble_eq_true rfl) d_L_law_442 hcs) M hA (fun ox H locs h M => ?_)
  refine lv_aload_n S.1 S.2.1 d_L_law_445 rfl (lv_at hl 3 rfl) ?_
  refine lv_aload_n S.1 S.2.1 d_L_law_446 rfl (lv_at hl 1 rfl) ?_
  refine lv_iload_n S.1 S.2.1 d_L_law_447 rfl (lv_at hl 0 rfl) ?_
  refine lv_iconst (v := 1) S.1 S.2.1 d_L_law_448 (by decide) ?_
  refine lv_iadd S.1 S.2.1 d_L_law_449 ?_
  rw [show nI i + 1 = nI (i + 1) from nI_add i 1]
  refine va_sld S.1 S.2.1 hX hbl hbA M.2.2.2 (vp_in_nI (n := i + 1) (by omega) (by omega)) d_L_law_450 ?_
  rw [nI_clamp (n := i + 1) (by omega)]
  refine m2_x2 h (fun o ho => m_rVA (k := 0) (As := [.int (xs (i + 1))]) (rest := [.int ox.1]) S (m2_2 M) hl.1 (cwG (n := 1) S.2.2.2.2 kl_86 kl_87 kl_88 kl_8 kl_89 (by decide) ⟨Nat.le_of_ble_eq_true rfl, Nat.le_of_ble_eq_true rfl⟩) ok_Mo (by decide) rfl (c_Mo_step l D cA adY _ (xs (i + 1)) o ho _) rfl rfl (Nat.le_of_ble_eq_true rfl) d_L_law_451 hcs) M hA (fun qy H locs h M => ?_)
  refine m_ieq (tgt := 924) S d_L_law_454 (by decide) h (fun h => ?_) (fun h => absurd h (by simp))
  exact K _ (Option.some.inj h) ls H locs hl M
set_option maxHeartbeats 4000000 in
set_option maxRecDepth 100000 in
theorem law_c11 (l : Launch) (D : va_G) (cA adX adY : Nat → Nat) {p : Program} {e : Env} {s : State} {m : MethodId} {below : List Frame} {meth : Method} {c : Code} {b L i : Nat} {xs : Nat → Int32} {Q : State → Prop} {cells slots : Nat} (hcs : cells ≤ room_1.cells ∧ slots ≤ room_1.slots) (hL : L ≤ 2561) (hi : i + 5 ≤ L) (S : CallFix p m c code 4 s #[Value.ref b] tlG "LeastPathsLaw") (hX : va_X b L xs s s.heap) (hbl : b < s.heap.size) {A : Nat → Prop} (hA : ∀ q, s.heap.size ≤ q → A q) (hbA : ¬ A b) (σ τ : mS) (r : mS × mS)
    (K : ∀ q : mS × mS, q = r → ∀ (ls : Array Slot) (H : Heap) (locs : List Loc), lv_has ls 4 [(3, .int (nI i)), (0, .ref b), (1, .ref (adX 0)), (2, .ref (adY 0))] → m2 D clX (tyK cA) A s 99 (tbX cA) adX q.1 23 (tbY cA) adY q.2 H locs → W p l e room_1 s m #[Value.ref b] below meth c H locs cells slots Q (F0 m 924 ls []))
    (ls : Array Slot) (H : Heap) (locs : List Loc) (hl : lv_has ls 4 [(3, .int (nI i)), (0, .ref b), (1, .ref (adX 0)), (2, .ref (adY 0))]) (M : m2 D clX (tyK cA) A s 99 (tbX cA) adX σ 23 (tbY cA) adY τ H locs) (h : lawC 11 (fun k => xs (i + k)) σ τ = some r) : W p l e room_1 s m #[Value.ref b] below meth c H locs cells slots Q (F0 m 459 ls []) := by
  unfold lawC at h
  dsimp only at h
  refine lv_aload_n S.1 S.2.1 d_L_law_459 rfl (lv_at hl 2 rfl) ?_
  refine lv_aload_n S.1 S.2.1 d_L_law_460 rfl (lv_at hl 1 rfl) ?_
  refine lv_iload_n S.1 S.2.1 d_L_law_461 rfl (lv_at hl 0 rfl) ?_
  refine lv_iconst (v := 1) S.1 S.2.1 d_L_law_462 (by decide) ?_
  refine lv_iadd S.1 S.2.1 d_L_law_463 ?_
  rw [show nI i + 1 = nI (i + 1) from nI_add i 1]
  refine va_sld S.1 S.2.1 hX hbl hbA M.2.2.2 (vp_in_nI (n := i + 1) (by omega) (by omega)) d_L_law_464 ?_
  rw [nI_clamp (n := i + 1) (by omega)]
  refine m2_x1 h (fun o ho => m_rVA (k := 0) (As := [.int (xs (i + 1))]) (rest := []) S (m2_1 M) hl.1 (cwG (n := 1) S.2.2.2.2 kl_90 kl_91 kl_92 kl_3 kl_93 (by decide) ⟨Nat.le_of_ble_eq_true rfl, Nat.le_of_ble_eq_true rfl⟩) ok_LP (by decide) rfl (c_LP_ways l D cA adX _ (xs (i + 1)) o ho _) rfl rfl (Nat.le_of_ble_eq_true rfl) d_L_law_465 hcs) M hA (fun ox H locs h M => ?_)
  refine lv_aload_n S.1 S.2.1 d_L_law_468 rfl (lv_at hl 3 rfl) ?_
  refine lv_aload_n S.1 S.2.1 d_L_law_469 rfl (lv_at hl 1 rfl) ?_
  refine lv_iload_n S.1 S.2.1 d_L_law_470 rfl (lv_at hl 0 rfl) ?_
  refine lv_iconst (v := 1) S.1 S.2.1 d_L_law_471 (by decide) ?_
  refine lv_iadd S.1 S.2.1 d_L_law_472 ?_
  rw [show nI i + 1 = nI (i + 1) from nI_add i 1]
  refine va_sld S.1 S.2.1 hX hbl hbA M.2.2.2 (vp_in_nI (n := i + 1) (by omega) (by omega)) d_L_law_473 ?_
  rw [nI_clamp (n := i + 1) (by omega)]
  refine m2_x2 h (fun o ho => m_rVA (k := 0) (As := [.int (xs (i + 1))]) (rest := [.int ox.1]) S (m2_2 M) hl.1 (cwG (n := 1) S.2.2.2.2 kl_94 kl_95 kl_96 kl_8 kl_97 (by decide) ⟨Nat.le_of_ble_eq_true rfl, Nat.le_of_ble_eq_true rfl⟩) ok_Mo (by decide) rfl (c_Mo_ways l D cA adY _ (xs (i + 1)) o ho _) rfl rfl (Nat.le_of_ble_eq_true rfl) d_L_law_474 hcs) M hA (fun qy H locs h M => ?_)
  refine m_ieq (tgt := 924) S d_L_law_477 (by decide) h (fun h => ?_) (fun h => absurd h (by simp))
  exact K _ (Option.some.inj h) ls H locs hl M
set_option maxHeartbeats 4000000 in
set_option maxRecDepth 100000 in
theorem law_c12 (l : Launch) (D : va_G) (cA adX adY : Nat → Nat) {p : Program} {e : Env} {s : State} {m : MethodId} {below : List Frame} {meth : Method} {c : Code} {b L i : Nat} {xs : Nat → Int32} {Q : State → Prop} {cells slots : Nat} (hcs : cells ≤ room_1.cells ∧ slots ≤ room_1.slots) (hL : L ≤ 2561) (hi : i + 5 ≤ L) (S : CallFix p m c code 4 s #[Value.ref b] tlG "LeastPathsLaw") (hX : va_X b L xs s s.heap) (hbl : b < s.heap.size) {A : Nat → Prop} (hA : ∀ q, s.heap.size ≤ q → A q) (hbA : ¬ A b) (σ τ : mS) (r : mS × mS)
    (K : ∀ q : mS × mS, q = r → ∀ (ls : Array Slot) (H : Heap) (locs : List Loc), lv_has ls 4 [(3, .int (nI i)), (0, .ref b), (1, .ref (adX 0)), (2, .ref (adY 0))] → m2 D clX (tyK cA) A s 99 (tbX cA) adX q.1 23 (tbY cA) adY q.2 H locs → W p l e room_1 s m #[Value.ref b] below meth c H locs cells slots Q (F0 m 924 ls []))
    (ls : Array Slot) (H : Heap) (locs : List Loc) (hl : lv_has ls 4 [(3, .int (nI i)), (0, .ref b), (1, .ref (adX 0)), (2, .ref (adY 0))]) (M : m2 D clX (tyK cA) A s 99 (tbX cA) adX σ 23 (tbY cA) adY τ H locs) (h : lawC 12 (fun k => xs (i + k)) σ τ = some r) : W p l e room_1 s m #[Value.ref b] below meth c H locs cells slots Q (F0 m 482 ls []) := by
  unfold lawC at h
  dsimp only at h
  refine lv_aload_n S.1 S.2.1 d_L_law_482 rfl (lv_at hl 2 rfl) ?_
  refine lv_aload_n S.1 S.2.1 d_L_law_483 rfl (lv_at hl 1 rfl) ?_
  refine lv_iload_n S.1 S.2.1 d_L_law_484 rfl (lv_at hl 0 rfl) ?_
  refine lv_iconst (v := 1) S.1 S.2.1 d_L_law_485 (by decide) ?_
  refine lv_iadd S.1 S.2.1 d_L_law_486 ?_
  rw [show nI i + 1 = nI (i + 1) from nI_add i 1]
  refine va_sld S.1 S.2.1 hX hbl hbA M.2.2.2 (vp_in_nI (n := i + 1) (by omega) (by omega)) d_L_law_487 ?_
  rw [nI_clamp (n := i + 1) (by omega)]
  refine lv_aload_n S.1 S.2.1 d_L_law_488 rfl (lv_at hl 1 rfl) ?_
  refine lv_iload_n S.1 S.2.1 d_L_law_489 rfl (lv_at hl 0 rfl) ?_
  refine lv_iconst (v := 2) S.1 S.2.1 d_L_law_490 (by decide) ?_
  refine lv_iadd S.1 S.2.1 d_L_law_491 ?_
  rw [show nI i + 2 = nI (i + 2) from nI_add i 2]
  refine va_sld S.1 S.2.1 hX hbl hbA M.2.2.2 (vp_in_nI (n := i + 2) (by omega) (by omega)) d_L_law_492 ?_
  rw [nI_clamp (n := i + 2) (by omega)]
  refine m2_x1 h (fun o ho => m_rVA (k := 0) (As := [.int (xs (i + 1)), .int (xs (i + 2))]) (rest := []) S (m2_1 M) hl.1 (cwG (n := 2) S.2.2.2.2 kl_98 kl_99 kl_100 kl_3 kl_101 (by decide) ⟨Nat.le_of_ble_eq_true rfl, Nat.le_of_ble_eq_true rfl⟩) ok_LP (by decide) rfl (c_LP_tree l D cA adX _ (xs (i + 1)) (xs (i + 2)) o ho _) rfl rfl (Nat.le_of_ble_eq_true rfl) d_L_law_493 hcs) M hA (fun ox H locs h M => ?_)
  refine lv_aload_n S.1 S.2.1 d_L_law_496 rfl (lv_at hl 3 rfl) ?_
  refine lv_aload_n S.1 S.2.1 d_L_law_497 rfl (lv_at hl 1 rfl) ?_
  refine lv_iload_n S.1 S.2.1 d_L_law_498 rfl (lv_at hl 0 rfl) ?_
  refine lv_iconst (v := 1) S.1 S.2.1 d_L_law_499 (by decide) ?_
  refine lv_iadd S.1 S.2.1 d_L_law_500 ?_
  rw [show nI i + 1 = nI (i + 1) from nI_add i 1]
  refine va_sld S.1 S.2.1 hX hbl hbA M.2.2.2 (vp_in_nI (n := i + 1) (by omega) (by omega)) d_L_law_501 ?_
  rw [nI_clamp (n := i + 1) (by omega)]
  refine lv_aload_n S.1 S.2.1 d_L_law_502 rfl (lv_at hl 1 rfl) ?_
  refine lv_iload_n S.1 S.2.1 d_L_law_503 rfl (lv_at hl 0 rfl) ?_
  refine lv_iconst (v := 2) S.1 S.2.1 d_L_law_504 (by decide) ?_
  refine lv_iadd S.1 S.2.1 d_L_law_505 ?_
  rw [show nI i + 2 = nI (i + 2) from nI_add i 2]
  refine va_sld S.1 S.2.1 hX hbl hbA M.2.2.2 (vp_in_nI (n := i + 2) (by omega) (by omega)) d_L_law_506 ?_
  rw [nI_clamp (n := i + 2) (by omega)]
  refine m2_x2 h (fun o ho => m_rVA (k := 0) (As := [.int (xs (i + 1)), .int (xs (i + 2))]) (rest := [.int ox.1]) S (m2_2 M) hl.1 (cwG (n := 2) S.2.2.2.2 kl_102 kl_103 kl_104 kl_8 kl_105 (by decide) ⟨Nat.le_of_ble_eq_true rfl, Nat.le_of_ble_eq_true rfl⟩) ok_Mo (by decide) rfl (c_Mo_tree l D cA adY _ (xs (i + 1)) (xs (i + 2)) o ho _) rfl rfl (Nat.le_of_ble_eq_true rfl) d_L_law_507 hcs) M hA (fun qy H locs h M => ?_)
  refine m_ieq (tgt := 924) S d_L_law_510 (by decide) h (fun h => ?_) (fun h => absurd h (by simp))
  exact K _ (Option.some.inj h) ls H locs hl M
set_option maxHeartbeats 4000000 in
set_option maxRecDepth 100000 in
theorem law_c13 (l : Launch) (D : va_G) (cA adX adY : Nat → Nat) {p : Program} {e : Env} {s : State} {m : MethodId} {below : List Frame} {meth : Method} {c : Code} {b L i : Nat} {xs : Nat → Int32} {Q : State → Prop} {cells slots : Nat} (hcs : cells ≤ room_1.cells ∧ slots ≤ room_1.slots) (hL : L ≤ 2561) (hi : i + 5 ≤ L) (S : CallFix p m c code 4 s #[Value.ref b] tlG "LeastPathsLaw") (hX : va_X b L xs s s.heap) (hbl : b < s.heap.size) {A : Nat → Prop} (hA : ∀ q, s.heap.size ≤ q → A q) (hbA : ¬ A b) (σ τ : mS) (r : mS × mS)
    (K : ∀ q : mS × mS, q = r → ∀ (ls : Array Slot) (H : Heap) (locs : List Loc), lv_has ls 4 [(3, .int (nI i)), (0, .ref b), (1, .ref (adX 0)), (2, .ref (adY 0))] → m2 D clX (tyK cA) A s 99 (tbX cA) adX q.1 23 (tbY cA) adY q.2 H locs → W p l e room_1 s m #[Value.ref b] below meth c H locs cells slots Q (F0 m 924 ls []))
    (ls : Array Slot) (H : Heap) (locs : List Loc) (hl : lv_has ls 4 [(3, .int (nI i)), (0, .ref b), (1, .ref (adX 0)), (2, .ref (adY 0))]) (M : m2 D clX (tyK cA) A s 99 (tbX cA) adX σ 23 (tbY cA) adY τ H locs) (h : lawC 13 (fun k => xs (i + k)) σ τ = some r) : W p l e room_1 s m #[Value.ref b] below meth c H locs cells slots Q (F0 m 515 ls []) := by
  unfold lawC at h
  dsimp only at h
  refine lv_aload_n S.1 S.2.1 d_L_law_515 rfl (lv_at hl 2 rfl) ?_
  refine m2_x1 h (fun o ho => m_rVA (k := 0) (As := []) (rest := []) S (m2_1 M) hl.1 (cwG (n := 0) S.2.2.2.2 kl_106 kl_107 kl_108 kl_3 kl_109 (by decide) ⟨Nat.le_of_ble_eq_true rfl, Nat.le_of_ble_eq_true rfl⟩) ok_LP (by decide) rfl (c_LP_reached l D cA adX _ o ho _) rfl rfl (Nat.le_of_ble_eq_true rfl) d_L_law_516 hcs) M hA (fun ox H locs h M => ?_)
  refine lv_aload_n S.1 S.2.1 d_L_law_519 rfl (lv_at hl 3 rfl) ?_
  refine m2_x2 h (fun o ho => m_rVA (k := 0) (As := []) (rest := [.int ox.1]) S (m2_2 M) hl.1 (cwG (n := 0) S.2.2.2.2 kl_110 kl_111 kl_112 kl_8 kl_113 (by decide) ⟨Nat.le_of_ble_eq_true rfl, Nat.le_of_ble_eq_true rfl⟩) ok_Mo (by decide) rfl (c_Mo_reached l D cA adY _ o ho _) rfl rfl (Nat.le_of_ble_eq_true rfl) d_L_law_520 hcs) M hA (fun qy H locs h M => ?_)
  refine m_ieq (tgt := 924) S d_L_law_523 (by decide) h (fun h => ?_) (fun h => absurd h (by simp))
  exact K _ (Option.some.inj h) ls H locs hl M
set_option maxHeartbeats 4000000 in
set_option maxRecDepth 100000 in
theorem law_c14 (l : Launch) (D : va_G) (cA adX adY : Nat → Nat) {p : Program} {e : Env} {s : State} {m : MethodId} {below : List Frame} {meth : Method} {c : Code} {b L i : Nat} {xs : Nat → Int32} {Q : State → Prop} {cells slots : Nat} (hcs : cells ≤ room_1.cells ∧ slots ≤ room_1.slots) (hL : L ≤ 2561) (hi : i + 5 ≤ L) (S : CallFix p m c code 4 s #[Value.ref b] tlG "LeastPathsLaw") (hX : va_X b L xs s s.heap) (hbl : b < s.heap.size) {A : Nat → Prop} (hA : ∀ q, s.heap.size ≤ q → A q) (hbA : ¬ A b) (σ τ : mS) (r : mS × mS)
    (K : ∀ q : mS × mS, q = r → ∀ (ls : Array Slot) (H : Heap) (locs : List Loc), lv_has ls 4 [(3, .int (nI i)), (0, .ref b), (1, .ref (adX 0)), (2, .ref (adY 0))] → m2 D clX (tyK cA) A s 99 (tbX cA) adX q.1 23 (tbY cA) adY q.2 H locs → W p l e room_1 s m #[Value.ref b] below meth c H locs cells slots Q (F0 m 924 ls []))
    (ls : Array Slot) (H : Heap) (locs : List Loc) (hl : lv_has ls 4 [(3, .int (nI i)), (0, .ref b), (1, .ref (adX 0)), (2, .ref (adY 0))]) (M : m2 D clX (tyK cA) A s 99 (tbX cA) adX σ 23 (tbY cA) adY τ H locs) (h : lawC 14 (fun k => xs (i + k)) σ τ = some r) : W p l e room_1 s m #[Value.ref b] below meth c H locs cells slots Q (F0 m 528 ls []) := by
  unfold lawC at h
  dsimp only at h
  refine lv_aload_n S.1 S.2.1 d_L_law_528 rfl (lv_at hl 2 rfl) ?_
  refine lv_aload_n S.1 S.2.1 d_L_law_529 rfl (lv_at hl 1 rfl) ?_
  refine lv_iload_n S.1 S.2.1 d_L_law_530 rfl (lv_at hl 0 rfl) ?_
  refine lv_iconst (v := 1) S.1 S.2.1 d_L_law_531 (by decide) ?_
  refine lv_iadd S.1 S.2.1 d_L_law_532 ?_
  rw [show nI i + 1 = nI (i + 1) from nI_add i 1]
  refine va_sld S.1 S.2.1 hX hbl hbA M.2.2.2 (vp_in_nI (n := i + 1) (by omega) (by omega)) d_L_law_533 ?_
  rw [nI_clamp (n := i + 1) (by omega)]
  refine m2_p1 h (fun o ho => m_rVA (k := 0) (As := [.int (xs (i + 1))]) (rest := []) S (m2_1 M) hl.1 (cwG (n := 1) S.2.2.2.2 kl_114 kl_115 kl_116 kl_3 kl_117 (by decide) ⟨Nat.le_of_ble_eq_true rfl, Nat.le_of_ble_eq_true rfl⟩) ok_LP (by decide) rfl (c_LP_good l D cA adX _ (xs (i + 1)) o ho _) rfl rfl (Nat.le_of_ble_eq_true rfl) d_L_law_534 hcs) M hA (fun ox H locs h M => ?_)
  refine lv_aload_n S.1 S.2.1 d_L_law_537 rfl (lv_at hl 3 rfl) ?_
  refine lv_aload_n S.1 S.2.1 d_L_law_538 rfl (lv_at hl 1 rfl) ?_
  refine lv_iload_n S.1 S.2.1 d_L_law_539 rfl (lv_at hl 0 rfl) ?_
  refine lv_iconst (v := 1) S.1 S.2.1 d_L_law_540 (by decide) ?_
  refine lv_iadd S.1 S.2.1 d_L_law_541 ?_
  rw [show nI i + 1 = nI (i + 1) from nI_add i 1]
  refine va_sld S.1 S.2.1 hX hbl hbA M.2.2.2 (vp_in_nI (n := i + 1) (by omega) (by omega)) d_L_law_542 ?_
  rw [nI_clamp (n := i + 1) (by omega)]
  refine m2_p2 h (fun o ho => m_rVA (k := 0) (As := [.int (xs (i + 1))]) (rest := [.int ox]) S (m2_2 M) hl.1 (cwG (n := 1) S.2.2.2.2 kl_118 kl_119 kl_120 kl_8 kl_121 (by decide) ⟨Nat.le_of_ble_eq_true rfl, Nat.le_of_ble_eq_true rfl⟩) ok_Mo (by decide) rfl (c_Mo_good l D cA adY _ (xs (i + 1)) o ho _) rfl rfl (Nat.le_of_ble_eq_true rfl) d_L_law_543 hcs) M hA (fun qy H locs h M => ?_)
  refine m_ieq (tgt := 924) S d_L_law_546 (by decide) h (fun h => ?_) (fun h => absurd h (by simp))
  exact K _ (Option.some.inj h) ls H locs hl M
set_option maxHeartbeats 4000000 in
set_option maxRecDepth 100000 in
theorem law_c15 (l : Launch) (D : va_G) (cA adX adY : Nat → Nat) {p : Program} {e : Env} {s : State} {m : MethodId} {below : List Frame} {meth : Method} {c : Code} {b L i : Nat} {xs : Nat → Int32} {Q : State → Prop} {cells slots : Nat} (hcs : cells ≤ room_1.cells ∧ slots ≤ room_1.slots) (hL : L ≤ 2561) (hi : i + 5 ≤ L) (S : CallFix p m c code 4 s #[Value.ref b] tlG "LeastPathsLaw") (hX : va_X b L xs s s.heap) (hbl : b < s.heap.size) {A : Nat → Prop} (hA : ∀ q, s.heap.size ≤ q → A q) (hbA : ¬ A b) (σ τ : mS) (r : mS × mS)
    (K : ∀ q : mS × mS, q = r → ∀ (ls : Array Slot) (H : Heap) (locs : List Loc), lv_has ls 4 [(3, .int (nI i)), (0, .ref b), (1, .ref (adX 0)), (2, .ref (adY 0))] → m2 D clX (tyK cA) A s 99 (tbX cA) adX q.1 23 (tbY cA) adY q.2 H locs → W p l e room_1 s m #[Value.ref b] below meth c H locs cells slots Q (F0 m 924 ls []))
    (ls : Array Slot) (H : Heap) (locs : List Loc) (hl : lv_has ls 4 [(3, .int (nI i)), (0, .ref b), (1, .ref (adX 0)), (2, .ref (adY 0))]) (M : m2 D clX (tyK cA) A s 99 (tbX cA) adX σ 23 (tbY cA) adY τ H locs) (h : lawC 15 (fun k => xs (i + k)) σ τ = some r) : W p l e room_1 s m #[Value.ref b] below meth c H locs cells slots Q (F0 m 551 ls []) := by
  unfold lawC at h
  dsimp only at h
  refine lv_aload_n S.1 S.2.1 d_L_law_551 rfl (lv_at hl 2 rfl) ?_
  refine lv_aload_n S.1 S.2.1 d_L_law_552 rfl (lv_at hl 1 rfl) ?_
  refine lv_iload_n S.1 S.2.1 d_L_law_553 rfl (lv_at hl 0 rfl) ?_
  refine lv_iconst (v := 1) S.1 S.2.1 d_L_law_554 (by decide) ?_
  refine lv_iadd S.1 S.2.1 d_L_law_555 ?_
  rw [show nI i + 1 = nI (i + 1) from nI_add i 1]
  refine va_sld S.1 S.2.1 hX hbl hbA M.2.2.2 (vp_in_nI (n := i + 1) (by omega) (by omega)) d_L_law_556 ?_
  rw [nI_clamp (n := i + 1) (by omega)]
  refine lv_aload_n S.1 S.2.1 d_L_law_557 rfl (lv_at hl 1 rfl) ?_
  refine lv_iload_n S.1 S.2.1 d_L_law_558 rfl (lv_at hl 0 rfl) ?_
  refine lv_iconst (v := 2) S.1 S.2.1 d_L_law_559 (by decide) ?_
  refine lv_iadd S.1 S.2.1 d_L_law_560 ?_
  rw [show nI i + 2 = nI (i + 2) from nI_add i 2]
  refine va_sld S.1 S.2.1 hX hbl hbA M.2.2.2 (vp_in_nI (n := i + 2) (by omega) (by omega)) d_L_law_561 ?_
  rw [nI_clamp (n := i + 2) (by omega)]
  refine m2_x1 h (fun o ho => m_rVA (k := 0) (As := [.int (xs (i + 1)), .int (xs (i + 2))]) (rest := []) S (m2_1 M) hl.1 (cwG (n := 2) S.2.2.2.2 kl_122 kl_123 kl_124 kl_3 kl_125 (by decide) ⟨Nat.le_of_ble_eq_true rfl, Nat.le_of_ble_eq_true rfl⟩) ok_LP (by decide) rfl (c_LP_led l D cA adX _ (xs (i + 1)) (xs (i + 2)) o ho _) rfl rfl (Nat.le_of_ble_eq_true rfl) d_L_law_562 hcs) M hA (fun ox H locs h M => ?_)
  refine lv_aload_n S.1 S.2.1 d_L_law_565 rfl (lv_at hl 3 rfl) ?_
  refine lv_aload_n S.1 S.2.1 d_L_law_566 rfl (lv_at hl 1 rfl) ?_
  refine lv_iload_n S.1 S.2.1 d_L_law_567 rfl (lv_at hl 0 rfl) ?_
  refine lv_iconst (v := 1) S.1 S.2.1 d_L_law_568 (by decide) ?_
  refine lv_iadd S.1 S.2.1 d_L_law_569 ?_
  rw [show nI i + 1 = nI (i + 1) from nI_add i 1]
  refine va_sld S.1 S.2.1 hX hbl hbA M.2.2.2 (vp_in_nI (n := i + 1) (by omega) (by omega)) d_L_law_570 ?_
  rw [nI_clamp (n := i + 1) (by omega)]
  refine lv_aload_n S.1 S.2.1 d_L_law_571 rfl (lv_at hl 1 rfl) ?_
  refine lv_iload_n S.1 S.2.1 d_L_law_572 rfl (lv_at hl 0 rfl) ?_
  refine lv_iconst (v := 2) S.1 S.2.1 d_L_law_573 (by decide) ?_
  refine lv_iadd S.1 S.2.1 d_L_law_574 ?_
  rw [show nI i + 2 = nI (i + 2) from nI_add i 2]
  refine va_sld S.1 S.2.1 hX hbl hbA M.2.2.2 (vp_in_nI (n := i + 2) (by omega) (by omega)) d_L_law_575 ?_
  rw [nI_clamp (n := i + 2) (by omega)]
  refine m2_x2 h (fun o ho => m_rVA (k := 0) (As := [.int (xs (i + 1)), .int (xs (i + 2))]) (rest := [.int ox.1]) S (m2_2 M) hl.1 (cwG (n := 2) S.2.2.2.2 kl_126 kl_127 kl_128 kl_8 kl_129 (by decide) ⟨Nat.le_of_ble_eq_true rfl, Nat.le_of_ble_eq_true rfl⟩) ok_Mo (by decide) rfl (c_Mo_led l D cA adY _ (xs (i + 1)) (xs (i + 2)) o ho _) rfl rfl (Nat.le_of_ble_eq_true rfl) d_L_law_576 hcs) M hA (fun qy H locs h M => ?_)
  refine m_ieq (tgt := 924) S d_L_law_579 (by decide) h (fun h => ?_) (fun h => absurd h (by simp))
  exact K _ (Option.some.inj h) ls H locs hl M
set_option maxHeartbeats 4000000 in
set_option maxRecDepth 100000 in
theorem law_c16 (l : Launch) (D : va_G) (cA adX adY : Nat → Nat) {p : Program} {e : Env} {s : State} {m : MethodId} {below : List Frame} {meth : Method} {c : Code} {b L i : Nat} {xs : Nat → Int32} {Q : State → Prop} {cells slots : Nat} (hcs : cells ≤ room_1.cells ∧ slots ≤ room_1.slots) (hL : L ≤ 2561) (hi : i + 5 ≤ L) (S : CallFix p m c code 4 s #[Value.ref b] tlG "LeastPathsLaw") (hX : va_X b L xs s s.heap) (hbl : b < s.heap.size) {A : Nat → Prop} (hA : ∀ q, s.heap.size ≤ q → A q) (hbA : ¬ A b) (σ τ : mS) (r : mS × mS)
    (K : ∀ q : mS × mS, q = r → ∀ (ls : Array Slot) (H : Heap) (locs : List Loc), lv_has ls 4 [(3, .int (nI i)), (0, .ref b), (1, .ref (adX 0)), (2, .ref (adY 0))] → m2 D clX (tyK cA) A s 99 (tbX cA) adX q.1 23 (tbY cA) adY q.2 H locs → W p l e room_1 s m #[Value.ref b] below meth c H locs cells slots Q (F0 m 924 ls []))
    (ls : Array Slot) (H : Heap) (locs : List Loc) (hl : lv_has ls 4 [(3, .int (nI i)), (0, .ref b), (1, .ref (adX 0)), (2, .ref (adY 0))]) (M : m2 D clX (tyK cA) A s 99 (tbX cA) adX σ 23 (tbY cA) adY τ H locs) (h : lawC 16 (fun k => xs (i + k)) σ τ = some r) : W p l e room_1 s m #[Value.ref b] below meth c H locs cells slots Q (F0 m 584 ls []) := by
  unfold lawC at h
  dsimp only at h
  refine lv_aload_n S.1 S.2.1 d_L_law_584 rfl (lv_at hl 2 rfl) ?_
  refine lv_aload_n S.1 S.2.1 d_L_law_585 rfl (lv_at hl 1 rfl) ?_
  refine lv_iload_n S.1 S.2.1 d_L_law_586 rfl (lv_at hl 0 rfl) ?_
  refine lv_iconst (v := 1) S.1 S.2.1 d_L_law_587 (by decide) ?_
  refine lv_iadd S.1 S.2.1 d_L_law_588 ?_
  rw [show nI i + 1 = nI (i + 1) from nI_add i 1]
  refine va_sld S.1 S.2.1 hX hbl hbA M.2.2.2 (vp_in_nI (n := i + 1) (by omega) (by omega)) d_L_law_589 ?_
  rw [nI_clamp (n := i + 1) (by omega)]
  refine lv_aload_n S.1 S.2.1 d_L_law_590 rfl (lv_at hl 1 rfl) ?_
  refine lv_iload_n S.1 S.2.1 d_L_law_591 rfl (lv_at hl 0 rfl) ?_
  refine lv_iconst (v := 2) S.1 S.2.1 d_L_law_592 (by decide) ?_
  refine lv_iadd S.1 S.2.1 d_L_law_593 ?_
  rw [show nI i + 2 = nI (i + 2) from nI_add i 2]
  refine va_sld S.1 S.2.1 hX hbl hbA M.2.2.2 (vp_in_nI (n := i + 2) (by omega) (by omega)) d_L_law_594 ?_
  rw [nI_clamp (n := i + 2) (by omega)]
  refine m2_x1 h (fun o ho => m_rVA (k := 0) (As := [.int (xs (i + 1)), .int (xs (i + 2))]) (rest := []) S (m2_1 M) hl.1 (cwG (n := 2) S.2.2.2.2 kl_130 kl_131 kl_132 kl_3 kl_133 (by decide) ⟨Nat.le_of_ble_eq_true rfl, Nat.le_of_ble_eq_true rfl⟩) ok_LP (by decide) rfl (c_LP_ledTo l D cA adX _ (xs (i + 1)) (xs (i + 2)) o ho _) rfl rfl (Nat.le_of_ble_eq_true rfl) d_L_law_595 hcs) M hA (fun ox H locs h M => ?_)
  refine lv_aload_n S.1 S.2.1 d_L_law_598 rfl (lv_at hl 3 rfl) ?_
  refine lv_aload_n S.1 S.2.1 d_L_law_599 rfl (lv_at hl 1 rfl) ?_
  refine lv_iload_n S.1 S.2.1 d_L_law_600 rfl (lv_at hl 0 rfl) ?_
  refine lv_iconst (v := 1) S.1 S.2.1 d_L_law_601 (by decide) ?_
  refine lv_iadd S.1 S.2.1 d_L_law_602 ?_
  rw [show nI i + 1 = nI (i + 1) from nI_add i 1]
  refine va_sld S.1 S.2.1 hX hbl hbA M.2.2.2 (vp_in_nI (n := i + 1) (by omega) (by omega)) d_L_law_603 ?_
  rw [nI_clamp (n := i + 1) (by omega)]
  refine lv_aload_n S.1 S.2.1 d_L_law_604 rfl (lv_at hl 1 rfl) ?_
  refine lv_iload_n S.1 S.2.1 d_L_law_605 rfl (lv_at hl 0 rfl) ?_
  refine lv_iconst (v := 2) S.1 S.2.1 d_L_law_606 (by decide) ?_
  refine lv_iadd S.1 S.2.1 d_L_law_607 ?_
  rw [show nI i + 2 = nI (i + 2) from nI_add i 2]
  refine va_sld S.1 S.2.1 hX hbl hbA M.2.2.2 (vp_in_nI (n := i + 2) (by omega) (by omega)) d_L_law_608 ?_
  rw [nI_clamp (n := i + 2) (by omega)]
  refine m2_x2 h (fun o ho => m_rVA (k := 0) (As := [.int (xs (i + 1)), .int (xs (i + 2))]) (rest := [.int ox.1]) S (m2_2 M) hl.1 (cwG (n := 2) S.2.2.2.2 kl_134 kl_135 kl_136 kl_8 kl_137 (by decide) ⟨Nat.le_of_ble_eq_true rfl, Nat.le_of_ble_eq_true rfl⟩) ok_Mo (by decide) rfl (c_Mo_ledTo l D cA adY _ (xs (i + 1)) (xs (i + 2)) o ho _) rfl rfl (Nat.le_of_ble_eq_true rfl) d_L_law_609 hcs) M hA (fun qy H locs h M => ?_)
  refine m_ieq (tgt := 924) S d_L_law_612 (by decide) h (fun h => ?_) (fun h => absurd h (by simp))
  exact K _ (Option.some.inj h) ls H locs hl M
set_option maxHeartbeats 4000000 in
set_option maxRecDepth 100000 in
theorem law_c17 (l : Launch) (D : va_G) (cA adX adY : Nat → Nat) {p : Program} {e : Env} {s : State} {m : MethodId} {below : List Frame} {meth : Method} {c : Code} {b L i : Nat} {xs : Nat → Int32} {Q : State → Prop} {cells slots : Nat} (hcs : cells ≤ room_1.cells ∧ slots ≤ room_1.slots) (hL : L ≤ 2561) (hi : i + 5 ≤ L) (S : CallFix p m c code 4 s #[Value.ref b] tlG "LeastPathsLaw") (hX : va_X b L xs s s.heap) (hbl : b < s.heap.size) {A : Nat → Prop} (hA : ∀ q, s.heap.size ≤ q → A q) (hbA : ¬ A b) (σ τ : mS) (r : mS × mS)
    (K : ∀ q : mS × mS, q = r → ∀ (ls : Array Slot) (H : Heap) (locs : List Loc), lv_has ls 4 [(3, .int (nI i)), (0, .ref b), (1, .ref (adX 0)), (2, .ref (adY 0))] → m2 D clX (tyK cA) A s 99 (tbX cA) adX q.1 23 (tbY cA) adY q.2 H locs → W p l e room_1 s m #[Value.ref b] below meth c H locs cells slots Q (F0 m 924 ls []))
    (ls : Array Slot) (H : Heap) (locs : List Loc) (hl : lv_has ls 4 [(3, .int (nI i)), (0, .ref b), (1, .ref (adX 0)), (2, .ref (adY 0))]) (M : m2 D clX (tyK cA) A s 99 (tbX cA) adX σ 23 (tbY cA) adY τ H locs) (h : lawC 17 (fun k => xs (i + k)) σ τ = some r) : W p l e room_1 s m #[Value.ref b] below meth c H locs cells slots Q (F0 m 617 ls []) := by
  unfold lawC at h
  dsimp only at h
  refine lv_aload_n S.1 S.2.1 d_L_law_617 rfl (lv_at hl 2 rfl) ?_
  refine lv_aload_n S.1 S.2.1 d_L_law_618 rfl (lv_at hl 1 rfl) ?_
  refine lv_iload_n S.1 S.2.1 d_L_law_619 rfl (lv_at hl 0 rfl) ?_
  refine lv_iconst (v := 1) S.1 S.2.1 d_L_law_620 (by decide) ?_
  refine lv_iadd S.1 S.2.1 d_L_law_621 ?_
  rw [show nI i + 1 = nI (i + 1) from nI_add i 1]
  refine va_sld S.1 S.2.1 hX hbl hbA M.2.2.2 (vp_in_nI (n := i + 1) (by omega) (by omega)) d_L_law_622 ?_
  rw [nI_clamp (n := i + 1) (by omega)]
  refine lv_aload_n S.1 S.2.1 d_L_law_623 rfl (lv_at hl 1 rfl) ?_
  refine lv_iload_n S.1 S.2.1 d_L_law_624 rfl (lv_at hl 0 rfl) ?_
  refine lv_iconst (v := 2) S.1 S.2.1 d_L_law_625 (by decide) ?_
  refine lv_iadd S.1 S.2.1 d_L_law_626 ?_
  rw [show nI i + 2 = nI (i + 2) from nI_add i 2]
  refine va_sld S.1 S.2.1 hX hbl hbA M.2.2.2 (vp_in_nI (n := i + 2) (by omega) (by omega)) d_L_law_627 ?_
  rw [nI_clamp (n := i + 2) (by omega)]
  refine m2_x1 h (fun o ho => m_rVA (k := 0) (As := [.int (xs (i + 1)), .int (xs (i + 2))]) (rest := []) S (m2_1 M) hl.1 (cwG (n := 2) S.2.2.2.2 kl_138 kl_139 kl_140 kl_3 kl_141 (by decide) ⟨Nat.le_of_ble_eq_true rfl, Nat.le_of_ble_eq_true rfl⟩) ok_LP (by decide) rfl (c_LP_both l D cA adX _ (xs (i + 1)) (xs (i + 2)) o ho _) rfl rfl (Nat.le_of_ble_eq_true rfl) d_L_law_628 hcs) M hA (fun ox H locs h M => ?_)
  refine lv_aload_n S.1 S.2.1 d_L_law_631 rfl (lv_at hl 3 rfl) ?_
  refine lv_aload_n S.1 S.2.1 d_L_law_632 rfl (lv_at hl 1 rfl) ?_
  refine lv_iload_n S.1 S.2.1 d_L_law_633 rfl (lv_at hl 0 rfl) ?_
  refine lv_iconst (v := 1) S.1 S.2.1 d_L_law_634 (by decide) ?_
  refine lv_iadd S.1 S.2.1 d_L_law_635 ?_
  rw [show nI i + 1 = nI (i + 1) from nI_add i 1]
  refine va_sld S.1 S.2.1 hX hbl hbA M.2.2.2 (vp_in_nI (n := i + 1) (by omega) (by omega)) d_L_law_636 ?_
  rw [nI_clamp (n := i + 1) (by omega)]
  refine lv_aload_n S.1 S.2.1 d_L_law_637 rfl (lv_at hl 1 rfl) ?_
  refine lv_iload_n S.1 S.2.1 d_L_law_638 rfl (lv_at hl 0 rfl) ?_
  refine lv_iconst (v := 2) S.1 S.2.1 d_L_law_639 (by decide) ?_
  refine lv_iadd S.1 S.2.1 d_L_law_640 ?_
  rw [show nI i + 2 = nI (i + 2) from nI_add i 2]
  refine va_sld S.1 S.2.1 hX hbl hbA M.2.2.2 (vp_in_nI (n := i + 2) (by omega) (by omega)) d_L_law_641 ?_
  rw [nI_clamp (n := i + 2) (by omega)]
  refine m2_x2 h (fun o ho => m_rVA (k := 0) (As := [.int (xs (i + 1)), .int (xs (i + 2))]) (rest := [.int ox.1]) S (m2_2 M) hl.1 (cwG (n := 2) S.2.2.2.2 kl_142 kl_143 kl_144 kl_8 kl_145 (by decide) ⟨Nat.le_of_ble_eq_true rfl, Nat.le_of_ble_eq_true rfl⟩) ok_Mo (by decide) rfl (c_Mo_both l D cA adY _ (xs (i + 1)) (xs (i + 2)) o ho _) rfl rfl (Nat.le_of_ble_eq_true rfl) d_L_law_642 hcs) M hA (fun qy H locs h M => ?_)
  refine m_ieq (tgt := 924) S d_L_law_645 (by decide) h (fun h => ?_) (fun h => absurd h (by simp))
  exact K _ (Option.some.inj h) ls H locs hl M
set_option maxHeartbeats 4000000 in
set_option maxRecDepth 100000 in
theorem law_c18 (l : Launch) (D : va_G) (cA adX adY : Nat → Nat) {p : Program} {e : Env} {s : State} {m : MethodId} {below : List Frame} {meth : Method} {c : Code} {b L i : Nat} {xs : Nat → Int32} {Q : State → Prop} {cells slots : Nat} (hcs : cells ≤ room_1.cells ∧ slots ≤ room_1.slots) (hL : L ≤ 2561) (hi : i + 5 ≤ L) (S : CallFix p m c code 4 s #[Value.ref b] tlG "LeastPathsLaw") (hX : va_X b L xs s s.heap) (hbl : b < s.heap.size) {A : Nat → Prop} (hA : ∀ q, s.heap.size ≤ q → A q) (hbA : ¬ A b) (σ τ : mS) (r : mS × mS)
    (K : ∀ q : mS × mS, q = r → ∀ (ls : Array Slot) (H : Heap) (locs : List Loc), lv_has ls 4 [(3, .int (nI i)), (0, .ref b), (1, .ref (adX 0)), (2, .ref (adY 0))] → m2 D clX (tyK cA) A s 99 (tbX cA) adX q.1 23 (tbY cA) adY q.2 H locs → W p l e room_1 s m #[Value.ref b] below meth c H locs cells slots Q (F0 m 924 ls []))
    (ls : Array Slot) (H : Heap) (locs : List Loc) (hl : lv_has ls 4 [(3, .int (nI i)), (0, .ref b), (1, .ref (adX 0)), (2, .ref (adY 0))]) (M : m2 D clX (tyK cA) A s 99 (tbX cA) adX σ 23 (tbY cA) adY τ H locs) (h : lawC 18 (fun k => xs (i + k)) σ τ = some r) : W p l e room_1 s m #[Value.ref b] below meth c H locs cells slots Q (F0 m 650 ls []) := by
  unfold lawC at h
  dsimp only at h
  refine lv_aload_n S.1 S.2.1 d_L_law_650 rfl (lv_at hl 2 rfl) ?_
  refine lv_aload_n S.1 S.2.1 d_L_law_651 rfl (lv_at hl 1 rfl) ?_
  refine lv_iload_n S.1 S.2.1 d_L_law_652 rfl (lv_at hl 0 rfl) ?_
  refine lv_iconst (v := 1) S.1 S.2.1 d_L_law_653 (by decide) ?_
  refine lv_iadd S.1 S.2.1 d_L_law_654 ?_
  rw [show nI i + 1 = nI (i + 1) from nI_add i 1]
  refine va_sld S.1 S.2.1 hX hbl hbA M.2.2.2 (vp_in_nI (n := i + 1) (by omega) (by omega)) d_L_law_655 ?_
  rw [nI_clamp (n := i + 1) (by omega)]
  refine lv_aload_n S.1 S.2.1 d_L_law_656 rfl (lv_at hl 1 rfl) ?_
  refine lv_iload_n S.1 S.2.1 d_L_law_657 rfl (lv_at hl 0 rfl) ?_
  refine lv_iconst (v := 2) S.1 S.2.1 d_L_law_658 (by decide) ?_
  refine lv_iadd S.1 S.2.1 d_L_law_659 ?_
  rw [show nI i + 2 = nI (i + 2) from nI_add i 2]
  refine va_sld S.1 S.2.1 hX hbl hbA M.2.2.2 (vp_in_nI (n := i + 2) (by omega) (by omega)) d_L_law_660 ?_
  rw [nI_clamp (n := i + 2) (by omega)]
  refine m2_x1 h (fun o ho => m_rVA (k := 0) (As := [.int (xs (i + 1)), .int (xs (i + 2))]) (rest := []) S (m2_1 M) hl.1 (cwG (n := 2) S.2.2.2.2 kl_146 kl_147 kl_148 kl_3 kl_149 (by decide) ⟨Nat.le_of_ble_eq_true rfl, Nat.le_of_ble_eq_true rfl⟩) ok_LP (by decide) rfl (c_LP_bothTo l D cA adX _ (xs (i + 1)) (xs (i + 2)) o ho _) rfl rfl (Nat.le_of_ble_eq_true rfl) d_L_law_661 hcs) M hA (fun ox H locs h M => ?_)
  refine lv_aload_n S.1 S.2.1 d_L_law_664 rfl (lv_at hl 3 rfl) ?_
  refine lv_aload_n S.1 S.2.1 d_L_law_665 rfl (lv_at hl 1 rfl) ?_
  refine lv_iload_n S.1 S.2.1 d_L_law_666 rfl (lv_at hl 0 rfl) ?_
  refine lv_iconst (v := 1) S.1 S.2.1 d_L_law_667 (by decide) ?_
  refine lv_iadd S.1 S.2.1 d_L_law_668 ?_
  rw [show nI i + 1 = nI (i + 1) from nI_add i 1]
  refine va_sld S.1 S.2.1 hX hbl hbA M.2.2.2 (vp_in_nI (n := i + 1) (by omega) (by omega)) d_L_law_669 ?_
  rw [nI_clamp (n := i + 1) (by omega)]
  refine lv_aload_n S.1 S.2.1 d_L_law_670 rfl (lv_at hl 1 rfl) ?_
  refine lv_iload_n S.1 S.2.1 d_L_law_671 rfl (lv_at hl 0 rfl) ?_
  refine lv_iconst (v := 2) S.1 S.2.1 d_L_law_672 (by decide) ?_
  refine lv_iadd S.1 S.2.1 d_L_law_673 ?_
  rw [show nI i + 2 = nI (i + 2) from nI_add i 2]
  refine va_sld S.1 S.2.1 hX hbl hbA M.2.2.2 (vp_in_nI (n := i + 2) (by omega) (by omega)) d_L_law_674 ?_
  rw [nI_clamp (n := i + 2) (by omega)]
  refine m2_x2 h (fun o ho => m_rVA (k := 0) (As := [.int (xs (i + 1)), .int (xs (i + 2))]) (rest := [.int ox.1]) S (m2_2 M) hl.1 (cwG (n := 2) S.2.2.2.2 kl_150 kl_151 kl_152 kl_8 kl_153 (by decide) ⟨Nat.le_of_ble_eq_true rfl, Nat.le_of_ble_eq_true rfl⟩) ok_Mo (by decide) rfl (c_Mo_bothTo l D cA adY _ (xs (i + 1)) (xs (i + 2)) o ho _) rfl rfl (Nat.le_of_ble_eq_true rfl) d_L_law_675 hcs) M hA (fun qy H locs h M => ?_)
  refine m_ieq (tgt := 924) S d_L_law_678 (by decide) h (fun h => ?_) (fun h => absurd h (by simp))
  exact K _ (Option.some.inj h) ls H locs hl M
set_option maxHeartbeats 4000000 in
set_option maxRecDepth 100000 in
theorem law_c19 (l : Launch) (D : va_G) (cA adX adY : Nat → Nat) {p : Program} {e : Env} {s : State} {m : MethodId} {below : List Frame} {meth : Method} {c : Code} {b L i : Nat} {xs : Nat → Int32} {Q : State → Prop} {cells slots : Nat} (hcs : cells ≤ room_1.cells ∧ slots ≤ room_1.slots) (hL : L ≤ 2561) (hi : i + 5 ≤ L) (S : CallFix p m c code 4 s #[Value.ref b] tlG "LeastPathsLaw") (hX : va_X b L xs s s.heap) (hbl : b < s.heap.size) {A : Nat → Prop} (hA : ∀ q, s.heap.size ≤ q → A q) (hbA : ¬ A b) (σ τ : mS) (r : mS × mS)
    (K : ∀ q : mS × mS, q = r → ∀ (ls : Array Slot) (H : Heap) (locs : List Loc), lv_has ls 4 [(3, .int (nI i)), (0, .ref b), (1, .ref (adX 0)), (2, .ref (adY 0))] → m2 D clX (tyK cA) A s 99 (tbX cA) adX q.1 23 (tbY cA) adY q.2 H locs → W p l e room_1 s m #[Value.ref b] below meth c H locs cells slots Q (F0 m 924 ls []))
    (ls : Array Slot) (H : Heap) (locs : List Loc) (hl : lv_has ls 4 [(3, .int (nI i)), (0, .ref b), (1, .ref (adX 0)), (2, .ref (adY 0))]) (M : m2 D clX (tyK cA) A s 99 (tbX cA) adX σ 23 (tbY cA) adY τ H locs) (h : lawC 19 (fun k => xs (i + k)) σ τ = some r) : W p l e room_1 s m #[Value.ref b] below meth c H locs cells slots Q (F0 m 683 ls []) := by
  unfold lawC at h
  dsimp only at h
  refine lv_aload_n S.1 S.2.1 d_L_law_683 rfl (lv_at hl 2 rfl) ?_
  refine lv_aload_n S.1 S.2.1 d_L_law_684 rfl (lv_at hl 1 rfl) ?_
  refine lv_iload_n S.1 S.2.1 d_L_law_685 rfl (lv_at hl 0 rfl) ?_
  refine lv_iconst (v := 1) S.1 S.2.1 d_L_law_686 (by decide) ?_
  refine lv_iadd S.1 S.2.1 d_L_law_687 ?_
  rw [show nI i + 1 = nI (i + 1) from nI_add i 1]
  refine va_sld S.1 S.2.1 hX hbl hbA M.2.2.2 (vp_in_nI (n := i + 1) (by omega) (by omega)) d_L_law_688 ?_
  rw [nI_clamp (n := i + 1) (by omega)]
  refine lv_aload_n S.1 S.2.1 d_L_law_689 rfl (lv_at hl 1 rfl) ?_
  refine lv_iload_n S.1 S.2.1 d_L_law_690 rfl (lv_at hl 0 rfl) ?_
  refine lv_iconst (v := 2) S.1 S.2.1 d_L_law_691 (by decide) ?_
  refine lv_iadd S.1 S.2.1 d_L_law_692 ?_
  rw [show nI i + 2 = nI (i + 2) from nI_add i 2]
  refine va_sld S.1 S.2.1 hX hbl hbA M.2.2.2 (vp_in_nI (n := i + 2) (by omega) (by omega)) d_L_law_693 ?_
  rw [nI_clamp (n := i + 2) (by omega)]
  refine lv_aload_n S.1 S.2.1 d_L_law_694 rfl (lv_at hl 1 rfl) ?_
  refine lv_iload_n S.1 S.2.1 d_L_law_695 rfl (lv_at hl 0 rfl) ?_
  refine lv_iconst (v := 3) S.1 S.2.1 d_L_law_696 (by decide) ?_
  refine lv_iadd S.1 S.2.1 d_L_law_697 ?_
  rw [show nI i + 3 = nI (i + 3) from nI_add i 3]
  refine va_sld S.1 S.2.1 hX hbl hbA M.2.2.2 (vp_in_nI (n := i + 3) (by omega) (by omega)) d_L_law_698 ?_
  rw [nI_clamp (n := i + 3) (by omega)]
  refine m2_x1 h (fun o ho => m_rVA (k := 0) (As := [.int (xs (i + 1)), .int (xs (i + 2)), .int (xs (i + 3))]) (rest := []) S (m2_1 M) hl.1 (cwG (n := 3) S.2.2.2.2 kl_154 kl_155 kl_156 kl_3 kl_157 (by decide) ⟨Nat.le_of_ble_eq_true rfl, Nat.le_of_ble_eq_true rfl⟩) ok_LP (by decide) rfl (c_LP_kth l D cA adX _ (xs (i + 1)) (xs (i + 2)) (xs (i + 3)) o ho _) rfl rfl (Nat.le_of_ble_eq_true rfl) d_L_law_699 hcs) M hA (fun ox H locs h M => ?_)
  refine lv_aload_n S.1 S.2.1 d_L_law_702 rfl (lv_at hl 3 rfl) ?_
  refine lv_aload_n S.1 S.2.1 d_L_law_703 rfl (lv_at hl 1 rfl) ?_
  refine lv_iload_n S.1 S.2.1 d_L_law_704 rfl (lv_at hl 0 rfl) ?_
  refine lv_iconst (v := 1) S.1 S.2.1 d_L_law_705 (by decide) ?_
  refine lv_iadd S.1 S.2.1 d_L_law_706 ?_
  rw [show nI i + 1 = nI (i + 1) from nI_add i 1]
  refine va_sld S.1 S.2.1 hX hbl hbA M.2.2.2 (vp_in_nI (n := i + 1) (by omega) (by omega)) d_L_law_707 ?_
  rw [nI_clamp (n := i + 1) (by omega)]
  refine lv_aload_n S.1 S.2.1 d_L_law_708 rfl (lv_at hl 1 rfl) ?_
  refine lv_iload_n S.1 S.2.1 d_L_law_709 rfl (lv_at hl 0 rfl) ?_
  refine lv_iconst (v := 2) S.1 S.2.1 d_L_law_710 (by decide) ?_
  refine lv_iadd S.1 S.2.1 d_L_law_711 ?_
  rw [show nI i + 2 = nI (i + 2) from nI_add i 2]
  refine va_sld S.1 S.2.1 hX hbl hbA M.2.2.2 (vp_in_nI (n := i + 2) (by omega) (by omega)) d_L_law_712 ?_
  rw [nI_clamp (n := i + 2) (by omega)]
  refine lv_aload_n S.1 S.2.1 d_L_law_713 rfl (lv_at hl 1 rfl) ?_
  refine lv_iload_n S.1 S.2.1 d_L_law_714 rfl (lv_at hl 0 rfl) ?_
  refine lv_iconst (v := 3) S.1 S.2.1 d_L_law_715 (by decide) ?_
  refine lv_iadd S.1 S.2.1 d_L_law_716 ?_
  rw [show nI i + 3 = nI (i + 3) from nI_add i 3]
  refine va_sld S.1 S.2.1 hX hbl hbA M.2.2.2 (vp_in_nI (n := i + 3) (by omega) (by omega)) d_L_law_717 ?_
  rw [nI_clamp (n := i + 3) (by omega)]
  refine m2_x2 h (fun o ho => m_rVA (k := 0) (As := [.int (xs (i + 1)), .int (xs (i + 2)), .int (xs (i + 3))]) (rest := [.int ox.1]) S (m2_2 M) hl.1 (cwG (n := 3) S.2.2.2.2 kl_158 kl_159 kl_160 kl_8 kl_161 (by decide) ⟨Nat.le_of_ble_eq_true rfl, Nat.le_of_ble_eq_true rfl⟩) ok_Mo (by decide) rfl (c_Mo_kth l D cA adY _ (xs (i + 1)) (xs (i + 2)) (xs (i + 3)) o ho _) rfl rfl (Nat.le_of_ble_eq_true rfl) d_L_law_718 hcs) M hA (fun qy H locs h M => ?_)
  refine m_ieq (tgt := 924) S d_L_law_721 (by decide) h (fun h => ?_) (fun h => absurd h (by simp))
  exact K _ (Option.some.inj h) ls H locs hl M
set_option maxHeartbeats 4000000 in
set_option maxRecDepth 100000 in
theorem law_c20 (l : Launch) (D : va_G) (cA adX adY : Nat → Nat) {p : Program} {e : Env} {s : State} {m : MethodId} {below : List Frame} {meth : Method} {c : Code} {b L i : Nat} {xs : Nat → Int32} {Q : State → Prop} {cells slots : Nat} (hcs : cells ≤ room_1.cells ∧ slots ≤ room_1.slots) (hL : L ≤ 2561) (hi : i + 5 ≤ L) (S : CallFix p m c code 4 s #[Value.ref b] tlG "LeastPathsLaw") (hX : va_X b L xs s s.heap) (hbl : b < s.heap.size) {A : Nat → Prop} (hA : ∀ q, s.heap.size ≤ q → A q) (hbA : ¬ A b) (σ τ : mS) (r : mS × mS)
    (K : ∀ q : mS × mS, q = r → ∀ (ls : Array Slot) (H : Heap) (locs : List Loc), lv_has ls 4 [(3, .int (nI i)), (0, .ref b), (1, .ref (adX 0)), (2, .ref (adY 0))] → m2 D clX (tyK cA) A s 99 (tbX cA) adX q.1 23 (tbY cA) adY q.2 H locs → W p l e room_1 s m #[Value.ref b] below meth c H locs cells slots Q (F0 m 924 ls []))
    (ls : Array Slot) (H : Heap) (locs : List Loc) (hl : lv_has ls 4 [(3, .int (nI i)), (0, .ref b), (1, .ref (adX 0)), (2, .ref (adY 0))]) (M : m2 D clX (tyK cA) A s 99 (tbX cA) adX σ 23 (tbY cA) adY τ H locs) (h : lawC 20 (fun k => xs (i + k)) σ τ = some r) : W p l e room_1 s m #[Value.ref b] below meth c H locs cells slots Q (F0 m 726 ls []) := by
  unfold lawC at h
  dsimp only at h
  refine lv_aload_n S.1 S.2.1 d_L_law_726 rfl (lv_at hl 2 rfl) ?_
  refine lv_aload_n S.1 S.2.1 d_L_law_727 rfl (lv_at hl 1 rfl) ?_
  refine lv_iload_n S.1 S.2.1 d_L_law_728 rfl (lv_at hl 0 rfl) ?_
  refine lv_iconst (v := 1) S.1 S.2.1 d_L_law_729 (by decide) ?_
  refine lv_iadd S.1 S.2.1 d_L_law_730 ?_
  rw [show nI i + 1 = nI (i + 1) from nI_add i 1]
  refine va_sld S.1 S.2.1 hX hbl hbA M.2.2.2 (vp_in_nI (n := i + 1) (by omega) (by omega)) d_L_law_731 ?_
  rw [nI_clamp (n := i + 1) (by omega)]
  refine lv_aload_n S.1 S.2.1 d_L_law_732 rfl (lv_at hl 1 rfl) ?_
  refine lv_iload_n S.1 S.2.1 d_L_law_733 rfl (lv_at hl 0 rfl) ?_
  refine lv_iconst (v := 2) S.1 S.2.1 d_L_law_734 (by decide) ?_
  refine lv_iadd S.1 S.2.1 d_L_law_735 ?_
  rw [show nI i + 2 = nI (i + 2) from nI_add i 2]
  refine va_sld S.1 S.2.1 hX hbl hbA M.2.2.2 (vp_in_nI (n := i + 2) (by omega) (by omega)) d_L_law_736 ?_
  rw [nI_clamp (n := i + 2) (by omega)]
  refine lv_aload_n S.1 S.2.1 d_L_law_737 rfl (lv_at hl 1 rfl) ?_
  refine lv_iload_n S.1 S.2.1 d_L_law_738 rfl (lv_at hl 0 rfl) ?_
  refine lv_iconst (v := 3) S.1 S.2.1 d_L_law_739 (by decide) ?_
  refine lv_iadd S.1 S.2.1 d_L_law_740 ?_
  rw [show nI i + 3 = nI (i + 3) from nI_add i 3]
  refine va_sld S.1 S.2.1 hX hbl hbA M.2.2.2 (vp_in_nI (n := i + 3) (by omega) (by omega)) d_L_law_741 ?_
  rw [nI_clamp (n := i + 3) (by omega)]
  refine lv_aload_n S.1 S.2.1 d_L_law_742 rfl (lv_at hl 1 rfl) ?_
  refine lv_iload_n S.1 S.2.1 d_L_law_743 rfl (lv_at hl 0 rfl) ?_
  refine lv_iconst (v := 4) S.1 S.2.1 d_L_law_744 (by decide) ?_
  refine lv_iadd S.1 S.2.1 d_L_law_745 ?_
  rw [show nI i + 4 = nI (i + 4) from nI_add i 4]
  refine va_sld S.1 S.2.1 hX hbl hbA M.2.2.2 (vp_in_nI (n := i + 4) (by omega) (by omega)) d_L_law_746 ?_
  rw [nI_clamp (n := i + 4) (by omega)]
  refine m2_x1 h (fun o ho => m_rVA (k := 0) (As := [.int (xs (i + 1)), .int (xs (i + 2)), .int (xs (i + 3)), .int (xs (i + 4))]) (rest := []) S (m2_1 M) hl.1 (cwG (n := 4) S.2.2.2.2 kl_162 kl_163 kl_164 kl_3 kl_165 (by decide) ⟨Nat.le_of_ble_eq_true rfl, Nat.le_of_ble_eq_true rfl⟩) ok_LP (by decide) rfl (c_LP_kthArc l D cA adX _ (xs (i + 1)) (xs (i + 2)) (xs (i + 3)) (xs (i + 4)) o ho _) rfl rfl (Nat.le_of_ble_eq_true rfl) d_L_law_747 hcs) M hA (fun ox H locs h M => ?_)
  refine lv_aload_n S.1 S.2.1 d_L_law_750 rfl (lv_at hl 3 rfl) ?_
  refine lv_aload_n S.1 S.2.1 d_L_law_751 rfl (lv_at hl 1 rfl) ?_
  refine lv_iload_n S.1 S.2.1 d_L_law_752 rfl (lv_at hl 0 rfl) ?_
  refine lv_iconst (v := 1) S.1 S.2.1 d_L_law_753 (by decide) ?_
  refine lv_iadd S.1 S.2.1 d_L_law_754 ?_
  rw [show nI i + 1 = nI (i + 1) from nI_add i 1]
  refine va_sld S.1 S.2.1 hX hbl hbA M.2.2.2 (vp_in_nI (n := i + 1) (by omega) (by omega)) d_L_law_755 ?_
  rw [nI_clamp (n := i + 1) (by omega)]
  refine lv_aload_n S.1 S.2.1 d_L_law_756 rfl (lv_at hl 1 rfl) ?_
  refine lv_iload_n S.1 S.2.1 d_L_law_757 rfl (lv_at hl 0 rfl) ?_
  refine lv_iconst (v := 2) S.1 S.2.1 d_L_law_758 (by decide) ?_
  refine lv_iadd S.1 S.2.1 d_L_law_759 ?_
  rw [show nI i + 2 = nI (i + 2) from nI_add i 2]
  refine va_sld S.1 S.2.1 hX hbl hbA M.2.2.2 (vp_in_nI (n := i + 2) (by omega) (by omega)) d_L_law_760 ?_
  rw [nI_clamp (n := i + 2) (by omega)]
  refine lv_aload_n S.1 S.2.1 d_L_law_761 rfl (lv_at hl 1 rfl) ?_
  refine lv_iload_n S.1 S.2.1 d_L_law_762 rfl (lv_at hl 0 rfl) ?_
  refine lv_iconst (v := 3) S.1 S.2.1 d_L_law_763 (by decide) ?_
  refine lv_iadd S.1 S.2.1 d_L_law_764 ?_
  rw [show nI i + 3 = nI (i + 3) from nI_add i 3]
  refine va_sld S.1 S.2.1 hX hbl hbA M.2.2.2 (vp_in_nI (n := i + 3) (by omega) (by omega)) d_L_law_765 ?_
  rw [nI_clamp (n := i + 3) (by omega)]
  refine lv_aload_n S.1 S.2.1 d_L_law_766 rfl (lv_at hl 1 rfl) ?_
  refine lv_iload_n S.1 S.2.1 d_L_law_767 rfl (lv_at hl 0 rfl) ?_
  refine lv_iconst (v := 4) S.1 S.2.1 d_L_law_768 (by decide) ?_
  refine lv_iadd S.1 S.2.1 d_L_law_769 ?_
  rw [show nI i + 4 = nI (i + 4) from nI_add i 4]
  refine va_sld S.1 S.2.1 hX hbl hbA M.2.2.2 (vp_in_nI (n := i + 4) (by omega) (by omega)) d_L_law_770 ?_
  rw [nI_clamp (n := i + 4) (by omega)]
  refine m2_x2 h (fun o ho => m_rVA (k := 0) (As := [.int (xs (i + 1)), .int (xs (i + 2)), .int (xs (i + 3)), .int (xs (i + 4))]) (rest := [.int ox.1]) S (m2_2 M) hl.1 (cwG (n := 4) S.2.2.2.2 kl_166 kl_167 kl_168 kl_8 kl_169 (by decide) ⟨Nat.le_of_ble_eq_true rfl, Nat.le_of_ble_eq_true rfl⟩) ok_Mo (by decide) rfl (c_Mo_kthArc l D cA adY _ (xs (i + 1)) (xs (i + 2)) (xs (i + 3)) (xs (i + 4)) o ho _) rfl rfl (Nat.le_of_ble_eq_true rfl) d_L_law_771 hcs) M hA (fun qy H locs h M => ?_)
  refine m_ieq (tgt := 924) S d_L_law_774 (by decide) h (fun h => ?_) (fun h => absurd h (by simp))
  exact K _ (Option.some.inj h) ls H locs hl M
set_option maxHeartbeats 4000000 in
set_option maxRecDepth 100000 in
theorem law_c21 (l : Launch) (D : va_G) (cA adX adY : Nat → Nat) {p : Program} {e : Env} {s : State} {m : MethodId} {below : List Frame} {meth : Method} {c : Code} {b L i : Nat} {xs : Nat → Int32} {Q : State → Prop} {cells slots : Nat} (hcs : cells ≤ room_1.cells ∧ slots ≤ room_1.slots) (hL : L ≤ 2561) (hi : i + 5 ≤ L) (S : CallFix p m c code 4 s #[Value.ref b] tlG "LeastPathsLaw") (hX : va_X b L xs s s.heap) (hbl : b < s.heap.size) {A : Nat → Prop} (hA : ∀ q, s.heap.size ≤ q → A q) (hbA : ¬ A b) (σ τ : mS) (r : mS × mS)
    (K : ∀ q : mS × mS, q = r → ∀ (ls : Array Slot) (H : Heap) (locs : List Loc), lv_has ls 4 [(3, .int (nI i)), (0, .ref b), (1, .ref (adX 0)), (2, .ref (adY 0))] → m2 D clX (tyK cA) A s 99 (tbX cA) adX q.1 23 (tbY cA) adY q.2 H locs → W p l e room_1 s m #[Value.ref b] below meth c H locs cells slots Q (F0 m 924 ls []))
    (ls : Array Slot) (H : Heap) (locs : List Loc) (hl : lv_has ls 4 [(3, .int (nI i)), (0, .ref b), (1, .ref (adX 0)), (2, .ref (adY 0))]) (M : m2 D clX (tyK cA) A s 99 (tbX cA) adX σ 23 (tbY cA) adY τ H locs) (h : lawC 21 (fun k => xs (i + k)) σ τ = some r) : W p l e room_1 s m #[Value.ref b] below meth c H locs cells slots Q (F0 m 779 ls []) := by
  unfold lawC at h
  dsimp only at h
  refine lv_aload_n S.1 S.2.1 d_L_law_779 rfl (lv_at hl 2 rfl) ?_
  refine lv_aload_n S.1 S.2.1 d_L_law_780 rfl (lv_at hl 1 rfl) ?_
  refine lv_iload_n S.1 S.2.1 d_L_law_781 rfl (lv_at hl 0 rfl) ?_
  refine lv_iconst (v := 1) S.1 S.2.1 d_L_law_782 (by decide) ?_
  refine lv_iadd S.1 S.2.1 d_L_law_783 ?_
  rw [show nI i + 1 = nI (i + 1) from nI_add i 1]
  refine va_sld S.1 S.2.1 hX hbl hbA M.2.2.2 (vp_in_nI (n := i + 1) (by omega) (by omega)) d_L_law_784 ?_
  rw [nI_clamp (n := i + 1) (by omega)]
  refine lv_aload_n S.1 S.2.1 d_L_law_785 rfl (lv_at hl 1 rfl) ?_
  refine lv_iload_n S.1 S.2.1 d_L_law_786 rfl (lv_at hl 0 rfl) ?_
  refine lv_iconst (v := 2) S.1 S.2.1 d_L_law_787 (by decide) ?_
  refine lv_iadd S.1 S.2.1 d_L_law_788 ?_
  rw [show nI i + 2 = nI (i + 2) from nI_add i 2]
  refine va_sld S.1 S.2.1 hX hbl hbA M.2.2.2 (vp_in_nI (n := i + 2) (by omega) (by omega)) d_L_law_789 ?_
  rw [nI_clamp (n := i + 2) (by omega)]
  refine m2_x1 h (fun o ho => m_rVA (k := 0) (As := [.int (xs (i + 1)), .int (xs (i + 2))]) (rest := []) S (m2_1 M) hl.1 (cwG (n := 2) S.2.2.2.2 kl_170 kl_171 kl_172 kl_3 kl_173 (by decide) ⟨Nat.le_of_ble_eq_true rfl, Nat.le_of_ble_eq_true rfl⟩) ok_LP (by decide) rfl (c_LP_widest l D cA adX _ (xs (i + 1)) (xs (i + 2)) o ho _) rfl rfl (Nat.le_of_ble_eq_true rfl) d_L_law_790 hcs) M hA (fun ox H locs h M => ?_)
  refine lv_aload_n S.1 S.2.1 d_L_law_793 rfl (lv_at hl 3 rfl) ?_
  refine lv_aload_n S.1 S.2.1 d_L_law_794 rfl (lv_at hl 1 rfl) ?_
  refine lv_iload_n S.1 S.2.1 d_L_law_795 rfl (lv_at hl 0 rfl) ?_
  refine lv_iconst (v := 1) S.1 S.2.1 d_L_law_796 (by decide) ?_
  refine lv_iadd S.1 S.2.1 d_L_law_797 ?_
  rw [show nI i + 1 = nI (i + 1) from nI_add i 1]
  refine va_sld S.1 S.2.1 hX hbl hbA M.2.2.2 (vp_in_nI (n := i + 1) (by omega) (by omega)) d_L_law_798 ?_
  rw [nI_clamp (n := i + 1) (by omega)]
  refine lv_aload_n S.1 S.2.1 d_L_law_799 rfl (lv_at hl 1 rfl) ?_
  refine lv_iload_n S.1 S.2.1 d_L_law_800 rfl (lv_at hl 0 rfl) ?_
  refine lv_iconst (v := 2) S.1 S.2.1 d_L_law_801 (by decide) ?_
  refine lv_iadd S.1 S.2.1 d_L_law_802 ?_
  rw [show nI i + 2 = nI (i + 2) from nI_add i 2]
  refine va_sld S.1 S.2.1 hX hbl hbA M.2.2.2 (vp_in_nI (n := i + 2) (by omega) (by omega)) d_L_law_803 ?_
  rw [nI_clamp (n := i + 2) (by omega)]
  refine m2_x2 h (fun o ho => m_rVA (k := 0) (As := [.int (xs (i + 1)), .int (xs (i + 2))]) (rest := [.int ox.1]) S (m2_2 M) hl.1 (cwG (n := 2) S.2.2.2.2 kl_174 kl_175 kl_176 kl_8 kl_177 (by decide) ⟨Nat.le_of_ble_eq_true rfl, Nat.le_of_ble_eq_true rfl⟩) ok_Mo (by decide) rfl (c_Mo_widest l D cA adY _ (xs (i + 1)) (xs (i + 2)) o ho _) rfl rfl (Nat.le_of_ble_eq_true rfl) d_L_law_804 hcs) M hA (fun qy H locs h M => ?_)
  refine m_ieq (tgt := 924) S d_L_law_807 (by decide) h (fun h => ?_) (fun h => absurd h (by simp))
  exact K _ (Option.some.inj h) ls H locs hl M
set_option maxHeartbeats 4000000 in
set_option maxRecDepth 100000 in
theorem law_c22 (l : Launch) (D : va_G) (cA adX adY : Nat → Nat) {p : Program} {e : Env} {s : State} {m : MethodId} {below : List Frame} {meth : Method} {c : Code} {b L i : Nat} {xs : Nat → Int32} {Q : State → Prop} {cells slots : Nat} (hcs : cells ≤ room_1.cells ∧ slots ≤ room_1.slots) (hL : L ≤ 2561) (hi : i + 5 ≤ L) (S : CallFix p m c code 4 s #[Value.ref b] tlG "LeastPathsLaw") (hX : va_X b L xs s s.heap) (hbl : b < s.heap.size) {A : Nat → Prop} (hA : ∀ q, s.heap.size ≤ q → A q) (hbA : ¬ A b) (σ τ : mS) (r : mS × mS)
    (K : ∀ q : mS × mS, q = r → ∀ (ls : Array Slot) (H : Heap) (locs : List Loc), lv_has ls 4 [(3, .int (nI i)), (0, .ref b), (1, .ref (adX 0)), (2, .ref (adY 0))] → m2 D clX (tyK cA) A s 99 (tbX cA) adX q.1 23 (tbY cA) adY q.2 H locs → W p l e room_1 s m #[Value.ref b] below meth c H locs cells slots Q (F0 m 924 ls []))
    (ls : Array Slot) (H : Heap) (locs : List Loc) (hl : lv_has ls 4 [(3, .int (nI i)), (0, .ref b), (1, .ref (adX 0)), (2, .ref (adY 0))]) (M : m2 D clX (tyK cA) A s 99 (tbX cA) adX σ 23 (tbY cA) adY τ H locs) (h : lawC 22 (fun k => xs (i + k)) σ τ = some r) : W p l e room_1 s m #[Value.ref b] below meth c H locs cells slots Q (F0 m 812 ls []) := by
  unfold lawC at h
  dsimp only at h
  refine lv_aload_n S.1 S.2.1 d_L_law_812 rfl (lv_at hl 2 rfl) ?_
  refine lv_aload_n S.1 S.2.1 d_L_law_813 rfl (lv_at hl 1 rfl) ?_
  refine lv_iload_n S.1 S.2.1 d_L_law_814 rfl (lv_at hl 0 rfl) ?_
  refine lv_iconst (v := 1) S.1 S.2.1 d_L_law_815 (by decide) ?_
  refine lv_iadd S.1 S.2.1 d_L_law_816 ?_
  rw [show nI i + 1 = nI (i + 1) from nI_add i 1]
  refine va_sld S.1 S.2.1 hX hbl hbA M.2.2.2 (vp_in_nI (n := i + 1) (by omega) (by omega)) d_L_law_817 ?_
  rw [nI_clamp (n := i + 1) (by omega)]
  refine lv_aload_n S.1 S.2.1 d_L_law_818 rfl (lv_at hl 1 rfl) ?_
  refine lv_iload_n S.1 S.2.1 d_L_law_819 rfl (lv_at hl 0 rfl) ?_
  refine lv_iconst (v := 2) S.1 S.2.1 d_L_law_820 (by decide) ?_
  refine lv_iadd S.1 S.2.1 d_L_law_821 ?_
  rw [show nI i + 2 = nI (i + 2) from nI_add i 2]
  refine va_sld S.1 S.2.1 hX hbl hbA M.2.2.2 (vp_in_nI (n := i + 2) (by omega) (by omega)) d_L_law_822 ?_
  rw [nI_clamp (n := i + 2) (by omega)]
  refine lv_aload_n S.1 S.2.1 d_L_law_823 rfl (lv_at hl 1 rfl) ?_
  refine lv_iload_n S.1 S.2.1 d_L_law_824 rfl (lv_at hl 0 rfl) ?_
  refine lv_iconst (v := 3) S.1 S.2.1 d_L_law_825 (by decide) ?_
  refine lv_iadd S.1 S.2.1 d_L_law_826 ?_
  rw [show nI i + 3 = nI (i + 3) from nI_add i 3]
  refine va_sld S.1 S.2.1 hX hbl hbA M.2.2.2 (vp_in_nI (n := i + 3) (by omega) (by omega)) d_L_law_827 ?_
  rw [nI_clamp (n := i + 3) (by omega)]
  refine m2_x1 h (fun o ho => m_rVA (k := 0) (As := [.int (xs (i + 1)), .int (xs (i + 2)), .int (xs (i + 3))]) (rest := []) S (m2_1 M) hl.1 (cwG (n := 3) S.2.2.2.2 kl_178 kl_179 kl_180 kl_3 kl_181 (by decide) ⟨Nat.le_of_ble_eq_true rfl, Nat.le_of_ble_eq_true rfl⟩) ok_LP (by decide) rfl (c_LP_trust l D cA adX _ (xs (i + 1)) (xs (i + 2)) (xs (i + 3)) o ho _) rfl rfl (Nat.le_of_ble_eq_true rfl) d_L_law_828 hcs) M hA (fun ox H locs h M => ?_)
  refine lv_aload_n S.1 S.2.1 d_L_law_831 rfl (lv_at hl 3 rfl) ?_
  refine lv_aload_n S.1 S.2.1 d_L_law_832 rfl (lv_at hl 1 rfl) ?_
  refine lv_iload_n S.1 S.2.1 d_L_law_833 rfl (lv_at hl 0 rfl) ?_
  refine lv_iconst (v := 1) S.1 S.2.1 d_L_law_834 (by decide) ?_
  refine lv_iadd S.1 S.2.1 d_L_law_835 ?_
  rw [show nI i + 1 = nI (i + 1) from nI_add i 1]
  refine va_sld S.1 S.2.1 hX hbl hbA M.2.2.2 (vp_in_nI (n := i + 1) (by omega) (by omega)) d_L_law_836 ?_
  rw [nI_clamp (n := i + 1) (by omega)]
  refine lv_aload_n S.1 S.2.1 d_L_law_837 rfl (lv_at hl 1 rfl) ?_
  refine lv_iload_n S.1 S.2.1 d_L_law_838 rfl (lv_at hl 0 rfl) ?_
  refine lv_iconst (v := 2) S.1 S.2.1 d_L_law_839 (by decide) ?_
  refine lv_iadd S.1 S.2.1 d_L_law_840 ?_
  rw [show nI i + 2 = nI (i + 2) from nI_add i 2]
  refine va_sld S.1 S.2.1 hX hbl hbA M.2.2.2 (vp_in_nI (n := i + 2) (by omega) (by omega)) d_L_law_841 ?_
  rw [nI_clamp (n := i + 2) (by omega)]
  refine lv_aload_n S.1 S.2.1 d_L_law_842 rfl (lv_at hl 1 rfl) ?_
  refine lv_iload_n S.1 S.2.1 d_L_law_843 rfl (lv_at hl 0 rfl) ?_
  refine lv_iconst (v := 3) S.1 S.2.1 d_L_law_844 (by decide) ?_
  refine lv_iadd S.1 S.2.1 d_L_law_845 ?_
  rw [show nI i + 3 = nI (i + 3) from nI_add i 3]
  refine va_sld S.1 S.2.1 hX hbl hbA M.2.2.2 (vp_in_nI (n := i + 3) (by omega) (by omega)) d_L_law_846 ?_
  rw [nI_clamp (n := i + 3) (by omega)]
  refine m2_x2 h (fun o ho => m_rVA (k := 0) (As := [.int (xs (i + 1)), .int (xs (i + 2)), .int (xs (i + 3))]) (rest := [.int ox.1]) S (m2_2 M) hl.1 (cwG (n := 3) S.2.2.2.2 kl_182 kl_183 kl_184 kl_8 kl_185 (by decide) ⟨Nat.le_of_ble_eq_true rfl, Nat.le_of_ble_eq_true rfl⟩) ok_Mo (by decide) rfl (c_Mo_trust l D cA adY _ (xs (i + 1)) (xs (i + 2)) (xs (i + 3)) o ho _) rfl rfl (Nat.le_of_ble_eq_true rfl) d_L_law_847 hcs) M hA (fun qy H locs h M => ?_)
  refine m_ieq (tgt := 924) S d_L_law_850 (by decide) h (fun h => ?_) (fun h => absurd h (by simp))
  exact K _ (Option.some.inj h) ls H locs hl M
set_option maxHeartbeats 4000000 in
set_option maxRecDepth 100000 in
theorem law_c23 (l : Launch) (D : va_G) (cA adX adY : Nat → Nat) {p : Program} {e : Env} {s : State} {m : MethodId} {below : List Frame} {meth : Method} {c : Code} {b L i : Nat} {xs : Nat → Int32} {Q : State → Prop} {cells slots : Nat} (hcs : cells ≤ room_1.cells ∧ slots ≤ room_1.slots) (hL : L ≤ 2561) (hi : i + 5 ≤ L) (S : CallFix p m c code 4 s #[Value.ref b] tlG "LeastPathsLaw") (hX : va_X b L xs s s.heap) (hbl : b < s.heap.size) {A : Nat → Prop} (hA : ∀ q, s.heap.size ≤ q → A q) (hbA : ¬ A b) (σ τ : mS) (r : mS × mS)
    (K : ∀ q : mS × mS, q = r → ∀ (ls : Array Slot) (H : Heap) (locs : List Loc), lv_has ls 4 [(3, .int (nI i)), (0, .ref b), (1, .ref (adX 0)), (2, .ref (adY 0))] → m2 D clX (tyK cA) A s 99 (tbX cA) adX q.1 23 (tbY cA) adY q.2 H locs → W p l e room_1 s m #[Value.ref b] below meth c H locs cells slots Q (F0 m 924 ls []))
    (ls : Array Slot) (H : Heap) (locs : List Loc) (hl : lv_has ls 4 [(3, .int (nI i)), (0, .ref b), (1, .ref (adX 0)), (2, .ref (adY 0))]) (M : m2 D clX (tyK cA) A s 99 (tbX cA) adX σ 23 (tbY cA) adY τ H locs) (h : lawC 23 (fun k => xs (i + k)) σ τ = some r) : W p l e room_1 s m #[Value.ref b] below meth c H locs cells slots Q (F0 m 855 ls []) := by
  unfold lawC at h
  dsimp only at h
  refine lv_aload_n S.1 S.2.1 d_L_law_855 rfl (lv_at hl 2 rfl) ?_
  refine m2_x1 h (fun o ho => m_rVA (k := 0) (As := []) (rest := []) S (m2_1 M) hl.1 (cwG (n := 0) S.2.2.2.2 kl_186 kl_187 kl_188 kl_3 kl_189 (by decide) ⟨Nat.le_of_ble_eq_true rfl, Nat.le_of_ble_eq_true rfl⟩) ok_LP (by decide) rfl (c_LP_ring l D cA adX _ o ho _) rfl rfl (Nat.le_of_ble_eq_true rfl) d_L_law_856 hcs) M hA (fun ox H locs h M => ?_)
  refine lv_aload_n S.1 S.2.1 d_L_law_859 rfl (lv_at hl 3 rfl) ?_
  refine m2_x2 h (fun o ho => m_rVA (k := 0) (As := []) (rest := [.int ox.1]) S (m2_2 M) hl.1 (cwG (n := 0) S.2.2.2.2 kl_190 kl_191 kl_192 kl_8 kl_193 (by decide) ⟨Nat.le_of_ble_eq_true rfl, Nat.le_of_ble_eq_true rfl⟩) ok_Mo (by decide) rfl (c_Mo_ring l D cA adY _ o ho _) rfl rfl (Nat.le_of_ble_eq_true rfl) d_L_law_860 hcs) M hA (fun qy H locs h M => ?_)
  refine m_ieq (tgt := 924) S d_L_law_863 (by decide) h (fun h => ?_) (fun h => absurd h (by simp))
  exact K _ (Option.some.inj h) ls H locs hl M
set_option maxHeartbeats 4000000 in
set_option maxRecDepth 100000 in
theorem law_c24 (l : Launch) (D : va_G) (cA adX adY : Nat → Nat) {p : Program} {e : Env} {s : State} {m : MethodId} {below : List Frame} {meth : Method} {c : Code} {b L i : Nat} {xs : Nat → Int32} {Q : State → Prop} {cells slots : Nat} (hcs : cells ≤ room_1.cells ∧ slots ≤ room_1.slots) (hL : L ≤ 2561) (hi : i + 5 ≤ L) (S : CallFix p m c code 4 s #[Value.ref b] tlG "LeastPathsLaw") (hX : va_X b L xs s s.heap) (hbl : b < s.heap.size) {A : Nat → Prop} (hA : ∀ q, s.heap.size ≤ q → A q) (hbA : ¬ A b) (σ τ : mS) (r : mS × mS)
    (K : ∀ q : mS × mS, q = r → ∀ (ls : Array Slot) (H : Heap) (locs : List Loc), lv_has ls 4 [(3, .int (nI i)), (0, .ref b), (1, .ref (adX 0)), (2, .ref (adY 0))] → m2 D clX (tyK cA) A s 99 (tbX cA) adX q.1 23 (tbY cA) adY q.2 H locs → W p l e room_1 s m #[Value.ref b] below meth c H locs cells slots Q (F0 m 924 ls []))
    (ls : Array Slot) (H : Heap) (locs : List Loc) (hl : lv_has ls 4 [(3, .int (nI i)), (0, .ref b), (1, .ref (adX 0)), (2, .ref (adY 0))]) (M : m2 D clX (tyK cA) A s 99 (tbX cA) adX σ 23 (tbY cA) adY τ H locs) (h : lawC 24 (fun k => xs (i + k)) σ τ = some r) : W p l e room_1 s m #[Value.ref b] below meth c H locs cells slots Q (F0 m 868 ls []) := by
  unfold lawC at h
  dsimp only at h
  refine lv_aload_n S.1 S.2.1 d_L_law_868 rfl (lv_at hl 2 rfl) ?_
  refine lv_aload_n S.1 S.2.1 d_L_law_869 rfl (lv_at hl 1 rfl) ?_
  refine lv_iload_n S.1 S.2.1 d_L_law_870 rfl (lv_at hl 0 rfl) ?_
  refine lv_iconst (v := 1) S.1 S.2.1 d_L_law_871 (by decide) ?_
  refine lv_iadd S.1 S.2.1 d_L_law_872 ?_
  rw [show nI i + 1 = nI (i + 1) from nI_add i 1]
  refine va_sld S.1 S.2.1 hX hbl hbA M.2.2.2 (vp_in_nI (n := i + 1) (by omega) (by omega)) d_L_law_873 ?_
  rw [nI_clamp (n := i + 1) (by omega)]
  refine m2_x1 h (fun o ho => m_rVA (k := 0) (As := [.int (xs (i + 1))]) (rest := []) S (m2_1 M) hl.1 (cwG (n := 1) S.2.2.2.2 kl_194 kl_195 kl_196 kl_3 kl_197 (by decide) ⟨Nat.le_of_ble_eq_true rfl, Nat.le_of_ble_eq_true rfl⟩) ok_LP (by decide) rfl (c_LP_ringArc l D cA adX _ (xs (i + 1)) o ho _) rfl rfl (Nat.le_of_ble_eq_true rfl) d_L_law_874 hcs) M hA (fun ox H locs h M => ?_)
  refine lv_aload_n S.1 S.2.1 d_L_law_877 rfl (lv_at hl 3 rfl) ?_
  refine lv_aload_n S.1 S.2.1 d_L_law_878 rfl (lv_at hl 1 rfl) ?_
  refine lv_iload_n S.1 S.2.1 d_L_law_879 rfl (lv_at hl 0 rfl) ?_
  refine lv_iconst (v := 1) S.1 S.2.1 d_L_law_880 (by decide) ?_
  refine lv_iadd S.1 S.2.1 d_L_law_881 ?_
  rw [show nI i + 1 = nI (i + 1) from nI_add i 1]
  refine va_sld S.1 S.2.1 hX hbl hbA M.2.2.2 (vp_in_nI (n := i + 1) (by omega) (by omega)) d_L_law_882 ?_
  rw [nI_clamp (n := i + 1) (by omega)]
  refine m2_x2 h (fun o ho => m_rVA (k := 0) (As := [.int (xs (i + 1))]) (rest := [.int ox.1]) S (m2_2 M) hl.1 (cwG (n := 1) S.2.2.2.2 kl_198 kl_199 kl_200 kl_8 kl_201 (by decide) ⟨Nat.le_of_ble_eq_true rfl, Nat.le_of_ble_eq_true rfl⟩) ok_Mo (by decide) rfl (c_Mo_ringArc l D cA adY _ (xs (i + 1)) o ho _) rfl rfl (Nat.le_of_ble_eq_true rfl) d_L_law_883 hcs) M hA (fun qy H locs h M => ?_)
  refine m_ieq (tgt := 924) S d_L_law_886 (by decide) h (fun h => ?_) (fun h => absurd h (by simp))
  exact K _ (Option.some.inj h) ls H locs hl M
set_option maxHeartbeats 4000000 in
set_option maxRecDepth 100000 in
theorem law_c25 (l : Launch) (D : va_G) (cA adX adY : Nat → Nat) {p : Program} {e : Env} {s : State} {m : MethodId} {below : List Frame} {meth : Method} {c : Code} {b L i : Nat} {xs : Nat → Int32} {Q : State → Prop} {cells slots : Nat} (hcs : cells ≤ room_1.cells ∧ slots ≤ room_1.slots) (hL : L ≤ 2561) (hi : i + 5 ≤ L) (S : CallFix p m c code 4 s #[Value.ref b] tlG "LeastPathsLaw") (hX : va_X b L xs s s.heap) (hbl : b < s.heap.size) {A : Nat → Prop} (hA : ∀ q, s.heap.size ≤ q → A q) (hbA : ¬ A b) (σ τ : mS) (r : mS × mS)
    (K : ∀ q : mS × mS, q = r → ∀ (ls : Array Slot) (H : Heap) (locs : List Loc), lv_has ls 4 [(3, .int (nI i)), (0, .ref b), (1, .ref (adX 0)), (2, .ref (adY 0))] → m2 D clX (tyK cA) A s 99 (tbX cA) adX q.1 23 (tbY cA) adY q.2 H locs → W p l e room_1 s m #[Value.ref b] below meth c H locs cells slots Q (F0 m 924 ls []))
    (ls : Array Slot) (H : Heap) (locs : List Loc) (hl : lv_has ls 4 [(3, .int (nI i)), (0, .ref b), (1, .ref (adX 0)), (2, .ref (adY 0))]) (M : m2 D clX (tyK cA) A s 99 (tbX cA) adX σ 23 (tbY cA) adY τ H locs) (h : lawC 25 (fun k => xs (i + k)) σ τ = some r) : W p l e room_1 s m #[Value.ref b] below meth c H locs cells slots Q (F0 m 891 ls []) := by
  unfold lawC at h
  dsimp only at h
  refine lv_aload_n S.1 S.2.1 d_L_law_891 rfl (lv_at hl 2 rfl) ?_
  refine lv_aload_n S.1 S.2.1 d_L_law_892 rfl (lv_at hl 1 rfl) ?_
  refine lv_iload_n S.1 S.2.1 d_L_law_893 rfl (lv_at hl 0 rfl) ?_
  refine lv_iconst (v := 1) S.1 S.2.1 d_L_law_894 (by decide) ?_
  refine lv_iadd S.1 S.2.1 d_L_law_895 ?_
  rw [show nI i + 1 = nI (i + 1) from nI_add i 1]
  refine va_sld S.1 S.2.1 hX hbl hbA M.2.2.2 (vp_in_nI (n := i + 1) (by omega) (by omega)) d_L_law_896 ?_
  rw [nI_clamp (n := i + 1) (by omega)]
  refine lv_aload_n S.1 S.2.1 d_L_law_897 rfl (lv_at hl 1 rfl) ?_
  refine lv_iload_n S.1 S.2.1 d_L_law_898 rfl (lv_at hl 0 rfl) ?_
  refine lv_iconst (v := 2) S.1 S.2.1 d_L_law_899 (by decide) ?_
  refine lv_iadd S.1 S.2.1 d_L_law_900 ?_
  rw [show nI i + 2 = nI (i + 2) from nI_add i 2]
  refine va_sld S.1 S.2.1 hX hbl hbA M.2.2.2 (vp_in_nI (n := i + 2) (by omega) (by omega)) d_L_law_901 ?_
  rw [nI_clamp (n := i + 2) (by omega)]
  refine m2_x1 h (fun o ho => m_rVA (k := 0) (As := [.int (xs (i + 1)), .int (xs (i + 2))]) (rest := []) S (m2_1 M) hl.1 (cwG (n := 2) S.2.2.2.2 kl_202 kl_203 kl_204 kl_3 kl_205 (by decide) ⟨Nat.le_of_ble_eq_true rfl, Nat.le_of_ble_eq_true rfl⟩) ok_LP (by decide) rfl (c_LP_missed l D cA adX _ (xs (i + 1)) (xs (i + 2)) o ho _) rfl rfl (Nat.le_of_ble_eq_true rfl) d_L_law_902 hcs) M hA (fun ox H locs h M => ?_)
  refine lv_aload_n S.1 S.2.1 d_L_law_905 rfl (lv_at hl 3 rfl) ?_
  refine lv_aload_n S.1 S.2.1 d_L_law_906 rfl (lv_at hl 1 rfl) ?_
  refine lv_iload_n S.1 S.2.1 d_L_law_907 rfl (lv_at hl 0 rfl) ?_
  refine lv_iconst (v := 1) S.1 S.2.1 d_L_law_908 (by decide) ?_
  refine lv_iadd S.1 S.2.1 d_L_law_909 ?_
  rw [show nI i + 1 = nI (i + 1) from nI_add i 1]
  refine va_sld S.1 S.2.1 hX hbl hbA M.2.2.2 (vp_in_nI (n := i + 1) (by omega) (by omega)) d_L_law_910 ?_
  rw [nI_clamp (n := i + 1) (by omega)]
  refine lv_aload_n S.1 S.2.1 d_L_law_911 rfl (lv_at hl 1 rfl) ?_
  refine lv_iload_n S.1 S.2.1 d_L_law_912 rfl (lv_at hl 0 rfl) ?_
  refine lv_iconst (v := 2) S.1 S.2.1 d_L_law_913 (by decide) ?_
  refine lv_iadd S.1 S.2.1 d_L_law_914 ?_
  rw [show nI i + 2 = nI (i + 2) from nI_add i 2]
  refine va_sld S.1 S.2.1 hX hbl hbA M.2.2.2 (vp_in_nI (n := i + 2) (by omega) (by omega)) d_L_law_915 ?_
  rw [nI_clamp (n := i + 2) (by omega)]
  refine m2_x2 h (fun o ho => m_rVA (k := 0) (As := [.int (xs (i + 1)), .int (xs (i + 2))]) (rest := [.int ox.1]) S (m2_2 M) hl.1 (cwG (n := 2) S.2.2.2.2 kl_206 kl_207 kl_208 kl_8 kl_209 (by decide) ⟨Nat.le_of_ble_eq_true rfl, Nat.le_of_ble_eq_true rfl⟩) ok_Mo (by decide) rfl (c_Mo_missed l D cA adY _ (xs (i + 1)) (xs (i + 2)) o ho _) rfl rfl (Nat.le_of_ble_eq_true rfl) d_L_law_916 hcs) M hA (fun qy H locs h M => ?_)
  refine m_ieq (tgt := 924) S d_L_law_919 (by decide) h (fun h => ?_) (fun h => absurd h (by simp))
  exact K _ (Option.some.inj h) ls H locs hl M
