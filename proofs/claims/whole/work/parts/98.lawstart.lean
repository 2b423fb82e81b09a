set_option maxRecDepth 100000 in
theorem ks_0 : Cond.methodLink "LeastPathsLaw" 21 ⟨"LeastPaths", "heap", "()I"⟩ ∈ tlG := tl_at 328 rfl rfl
set_option maxRecDepth 100000 in
theorem ks_1 : Cond.instanceMethod ⟨"LeastPaths", "heap", "()I"⟩ ∈ tlG := tl_at 329 rfl rfl
set_option maxRecDepth 100000 in
theorem ks_2 : Cond.selects "LeastPaths" ⟨"LeastPaths", "heap", "()I"⟩ ⟨"LeastPaths", "heap", "()I"⟩ ∈ tlG := tl_at 330 rfl rfl
set_option maxRecDepth 100000 in
theorem ks_3 : Cond.initialized "LeastPaths" ∈ tlG := tl_at 1 rfl rfl
set_option maxRecDepth 100000 in
theorem ks_4 : Cond.code ⟨"LeastPaths", "heap", "()I"⟩ prog_1_method_2_code 1 (Option.some Jvm.ClassFile.FieldType.int) ∈ tlG := tl_at 331 rfl rfl
set_option maxRecDepth 100000 in
theorem ks_5 : Cond.methodLink "LeastPathsLaw" 25 ⟨"LeastPathsModel", "heap", "()I"⟩ ∈ tlG := tl_at 794 rfl rfl
set_option maxRecDepth 100000 in
theorem ks_6 : Cond.instanceMethod ⟨"LeastPathsModel", "heap", "()I"⟩ ∈ tlG := tl_at 795 rfl rfl
set_option maxRecDepth 100000 in
theorem ks_7 : Cond.selects "LeastPathsModel" ⟨"LeastPathsModel", "heap", "()I"⟩ ⟨"LeastPathsModel", "heap", "()I"⟩ ∈ tlG := tl_at 796 rfl rfl
set_option maxRecDepth 100000 in
theorem ks_8 : Cond.initialized "LeastPathsModel" ∈ tlG := tl_at 12 rfl rfl
set_option maxRecDepth 100000 in
theorem ks_9 : Cond.code ⟨"LeastPathsModel", "heap", "()I"⟩ prog_12_method_2_code 1 (Option.some Jvm.ClassFile.FieldType.int) ∈ tlG := tl_at 797 rfl rfl
set_option maxRecDepth 100000 in
theorem ks_10 : Cond.methodLink "LeastPathsLaw" 26 ⟨"LeastPaths", "node", "()I"⟩ ∈ tlG := tl_at 332 rfl rfl
set_option maxRecDepth 100000 in
theorem ks_11 : Cond.instanceMethod ⟨"LeastPaths", "node", "()I"⟩ ∈ tlG := tl_at 333 rfl rfl
set_option maxRecDepth 100000 in
theorem ks_12 : Cond.selects "LeastPaths" ⟨"LeastPaths", "node", "()I"⟩ ⟨"LeastPaths", "node", "()I"⟩ ∈ tlG := tl_at 334 rfl rfl
set_option maxRecDepth 100000 in
theorem ks_13 : Cond.code ⟨"LeastPaths", "node", "()I"⟩ prog_1_method_3_code 1 (Option.some Jvm.ClassFile.FieldType.int) ∈ tlG := tl_at 335 rfl rfl
set_option maxRecDepth 100000 in
theorem ks_14 : Cond.methodLink "LeastPathsLaw" 29 ⟨"LeastPathsModel", "node", "()I"⟩ ∈ tlG := tl_at 798 rfl rfl
set_option maxRecDepth 100000 in
theorem ks_15 : Cond.instanceMethod ⟨"LeastPathsModel", "node", "()I"⟩ ∈ tlG := tl_at 799 rfl rfl
set_option maxRecDepth 100000 in
theorem ks_16 : Cond.selects "LeastPathsModel" ⟨"LeastPathsModel", "node", "()I"⟩ ⟨"LeastPathsModel", "node", "()I"⟩ ∈ tlG := tl_at 800 rfl rfl
set_option maxRecDepth 100000 in
theorem ks_17 : Cond.code ⟨"LeastPathsModel", "node", "()I"⟩ prog_12_method_6_code 1 (Option.some Jvm.ClassFile.FieldType.int) ∈ tlG := tl_at 801 rfl rfl
set_option maxRecDepth 100000 in
theorem ks_18 : Cond.methodLink "LeastPathsLaw" 30 ⟨"LeastPaths", "arc", "(III)I"⟩ ∈ tlG := tl_at 340 rfl rfl
set_option maxRecDepth 100000 in
theorem ks_19 : Cond.instanceMethod ⟨"LeastPaths", "arc", "(III)I"⟩ ∈ tlG := tl_at 341 rfl rfl
set_option maxRecDepth 100000 in
theorem ks_20 : Cond.selects "LeastPaths" ⟨"LeastPaths", "arc", "(III)I"⟩ ⟨"LeastPaths", "arc", "(III)I"⟩ ∈ tlG := tl_at 342 rfl rfl
set_option maxRecDepth 100000 in
theorem ks_21 : Cond.code ⟨"LeastPaths", "arc", "(III)I"⟩ prog_1_method_4_code 4 (Option.some Jvm.ClassFile.FieldType.int) ∈ tlG := tl_at 343 rfl rfl
set_option maxRecDepth 100000 in
theorem ks_22 : Cond.methodLink "LeastPathsLaw" 34 ⟨"LeastPathsModel", "arc", "(III)I"⟩ ∈ tlG := tl_at 806 rfl rfl
set_option maxRecDepth 100000 in
theorem ks_23 : Cond.instanceMethod ⟨"LeastPathsModel", "arc", "(III)I"⟩ ∈ tlG := tl_at 807 rfl rfl
set_option maxRecDepth 100000 in
theorem ks_24 : Cond.selects "LeastPathsModel" ⟨"LeastPathsModel", "arc", "(III)I"⟩ ⟨"LeastPathsModel", "arc", "(III)I"⟩ ∈ tlG := tl_at 808 rfl rfl
set_option maxRecDepth 100000 in
theorem ks_25 : Cond.code ⟨"LeastPathsModel", "arc", "(III)I"⟩ prog_12_method_7_code 4 (Option.some Jvm.ClassFile.FieldType.int) ∈ tlG := tl_at 809 rfl rfl
set_option maxRecDepth 100000 in
theorem ks_26 : Cond.methodLink "LeastPathsLaw" 35 ⟨"LeastPaths", "share", "(III)I"⟩ ∈ tlG := tl_at 361 rfl rfl
set_option maxRecDepth 100000 in
theorem ks_27 : Cond.instanceMethod ⟨"LeastPaths", "share", "(III)I"⟩ ∈ tlG := tl_at 362 rfl rfl
set_option maxRecDepth 100000 in
theorem ks_28 : Cond.selects "LeastPaths" ⟨"LeastPaths", "share", "(III)I"⟩ ⟨"LeastPaths", "share", "(III)I"⟩ ∈ tlG := tl_at 363 rfl rfl
set_option maxRecDepth 100000 in
theorem ks_29 : Cond.code ⟨"LeastPaths", "share", "(III)I"⟩ prog_1_method_5_code 4 (Option.some Jvm.ClassFile.FieldType.int) ∈ tlG := tl_at 364 rfl rfl
set_option maxRecDepth 100000 in
theorem ks_30 : Cond.methodLink "LeastPathsLaw" 38 ⟨"LeastPathsModel", "share", "(III)I"⟩ ∈ tlG := tl_at 815 rfl rfl
set_option maxRecDepth 100000 in
theorem ks_31 : Cond.instanceMethod ⟨"LeastPathsModel", "share", "(III)I"⟩ ∈ tlG := tl_at 816 rfl rfl
set_option maxRecDepth 100000 in
theorem ks_32 : Cond.selects "LeastPathsModel" ⟨"LeastPathsModel", "share", "(III)I"⟩ ⟨"LeastPathsModel", "share", "(III)I"⟩ ∈ tlG := tl_at 817 rfl rfl
set_option maxRecDepth 100000 in
theorem ks_33 : Cond.code ⟨"LeastPathsModel", "share", "(III)I"⟩ prog_12_method_8_code 4 (Option.some Jvm.ClassFile.FieldType.int) ∈ tlG := tl_at 818 rfl rfl
set_option maxRecDepth 100000 in
theorem ks_34 : Cond.methodLink "LeastPathsLaw" 39 ⟨"LeastPaths", "drop", "(I)I"⟩ ∈ tlG := tl_at 369 rfl rfl
set_option maxRecDepth 100000 in
theorem ks_35 : Cond.instanceMethod ⟨"LeastPaths", "drop", "(I)I"⟩ ∈ tlG := tl_at 370 rfl rfl
set_option maxRecDepth 100000 in
theorem ks_36 : Cond.selects "LeastPaths" ⟨"LeastPaths", "drop", "(I)I"⟩ ⟨"LeastPaths", "drop", "(I)I"⟩ ∈ tlG := tl_at 371 rfl rfl
set_option maxRecDepth 100000 in
theorem ks_37 : Cond.code ⟨"LeastPaths", "drop", "(I)I"⟩ prog_1_method_6_code 2 (Option.some Jvm.ClassFile.FieldType.int) ∈ tlG := tl_at 372 rfl rfl
set_option maxRecDepth 100000 in
theorem ks_38 : Cond.methodLink "LeastPathsLaw" 43 ⟨"LeastPathsModel", "drop", "(I)I"⟩ ∈ tlG := tl_at 823 rfl rfl
set_option maxRecDepth 100000 in
theorem ks_39 : Cond.instanceMethod ⟨"LeastPathsModel", "drop", "(I)I"⟩ ∈ tlG := tl_at 824 rfl rfl
set_option maxRecDepth 100000 in
theorem ks_40 : Cond.selects "LeastPathsModel" ⟨"LeastPathsModel", "drop", "(I)I"⟩ ⟨"LeastPathsModel", "drop", "(I)I"⟩ ∈ tlG := tl_at 825 rfl rfl
set_option maxRecDepth 100000 in
theorem ks_41 : Cond.code ⟨"LeastPathsModel", "drop", "(I)I"⟩ prog_12_method_9_code 4 (Option.some Jvm.ClassFile.FieldType.int) ∈ tlG := tl_at 826 rfl rfl
set_option maxRecDepth 100000 in
theorem ks_42 : Cond.methodLink "LeastPathsLaw" 44 ⟨"LeastPaths", "source", "(IZ)I"⟩ ∈ tlG := tl_at 380 rfl rfl
set_option maxRecDepth 100000 in
theorem ks_43 : Cond.instanceMethod ⟨"LeastPaths", "source", "(IZ)I"⟩ ∈ tlG := tl_at 381 rfl rfl
set_option maxRecDepth 100000 in
theorem ks_44 : Cond.selects "LeastPaths" ⟨"LeastPaths", "source", "(IZ)I"⟩ ⟨"LeastPaths", "source", "(IZ)I"⟩ ∈ tlG := tl_at 382 rfl rfl
set_option maxRecDepth 100000 in
theorem ks_45 : Cond.code ⟨"LeastPaths", "source", "(IZ)I"⟩ prog_1_method_7_code 5 (Option.some Jvm.ClassFile.FieldType.int) ∈ tlG := tl_at 383 rfl rfl
set_option maxRecDepth 100000 in
theorem ks_46 : Cond.methodLink "LeastPathsLaw" 48 ⟨"LeastPathsModel", "source", "(IZ)I"⟩ ∈ tlG := tl_at 827 rfl rfl
set_option maxRecDepth 100000 in
theorem ks_47 : Cond.instanceMethod ⟨"LeastPathsModel", "source", "(IZ)I"⟩ ∈ tlG := tl_at 828 rfl rfl
set_option maxRecDepth 100000 in
theorem ks_48 : Cond.selects "LeastPathsModel" ⟨"LeastPathsModel", "source", "(IZ)I"⟩ ⟨"LeastPathsModel", "source", "(IZ)I"⟩ ∈ tlG := tl_at 829 rfl rfl
set_option maxRecDepth 100000 in
theorem ks_49 : Cond.code ⟨"LeastPathsModel", "source", "(IZ)I"⟩ prog_12_method_10_code 4 (Option.some Jvm.ClassFile.FieldType.int) ∈ tlG := tl_at 830 rfl rfl
set_option maxRecDepth 100000 in
theorem ks_50 : Cond.methodLink "LeastPathsLaw" 49 ⟨"LeastPaths", "rest", "(II)I"⟩ ∈ tlG := tl_at 384 rfl rfl
set_option maxRecDepth 100000 in
theorem ks_51 : Cond.instanceMethod ⟨"LeastPaths", "rest", "(II)I"⟩ ∈ tlG := tl_at 385 rfl rfl
set_option maxRecDepth 100000 in
theorem ks_52 : Cond.selects "LeastPaths" ⟨"LeastPaths", "rest", "(II)I"⟩ ⟨"LeastPaths", "rest", "(II)I"⟩ ∈ tlG := tl_at 386 rfl rfl
set_option maxRecDepth 100000 in
theorem ks_53 : Cond.code ⟨"LeastPaths", "rest", "(II)I"⟩ prog_1_method_8_code 4 (Option.some Jvm.ClassFile.FieldType.int) ∈ tlG := tl_at 387 rfl rfl
set_option maxRecDepth 100000 in
theorem ks_54 : Cond.methodLink "LeastPathsLaw" 53 ⟨"LeastPathsModel", "rest", "(II)I"⟩ ∈ tlG := tl_at 831 rfl rfl
set_option maxRecDepth 100000 in
theorem ks_55 : Cond.instanceMethod ⟨"LeastPathsModel", "rest", "(II)I"⟩ ∈ tlG := tl_at 832 rfl rfl
set_option maxRecDepth 100000 in
theorem ks_56 : Cond.selects "LeastPathsModel" ⟨"LeastPathsModel", "rest", "(II)I"⟩ ⟨"LeastPathsModel", "rest", "(II)I"⟩ ∈ tlG := tl_at 833 rfl rfl
set_option maxRecDepth 100000 in
theorem ks_57 : Cond.code ⟨"LeastPathsModel", "rest", "(II)I"⟩ prog_12_method_11_code 4 (Option.some Jvm.ClassFile.FieldType.int) ∈ tlG := tl_at 834 rfl rfl
set_option maxRecDepth 100000 in
theorem ks_58 : Cond.methodLink "LeastPathsLaw" 54 ⟨"LeastPaths", "clear", "()I"⟩ ∈ tlG := tl_at 388 rfl rfl
set_option maxRecDepth 100000 in
theorem ks_59 : Cond.instanceMethod ⟨"LeastPaths", "clear", "()I"⟩ ∈ tlG := tl_at 389 rfl rfl
set_option maxRecDepth 100000 in
theorem ks_60 : Cond.selects "LeastPaths" ⟨"LeastPaths", "clear", "()I"⟩ ⟨"LeastPaths", "clear", "()I"⟩ ∈ tlG := tl_at 390 rfl rfl
set_option maxRecDepth 100000 in
theorem ks_61 : Cond.code ⟨"LeastPaths", "clear", "()I"⟩ prog_1_method_9_code 2 (Option.some Jvm.ClassFile.FieldType.int) ∈ tlG := tl_at 391 rfl rfl
set_option maxRecDepth 100000 in
theorem ks_62 : Cond.methodLink "LeastPathsLaw" 57 ⟨"LeastPathsModel", "clear", "()I"⟩ ∈ tlG := tl_at 835 rfl rfl
set_option maxRecDepth 100000 in
theorem ks_63 : Cond.instanceMethod ⟨"LeastPathsModel", "clear", "()I"⟩ ∈ tlG := tl_at 836 rfl rfl
set_option maxRecDepth 100000 in
theorem ks_64 : Cond.selects "LeastPathsModel" ⟨"LeastPathsModel", "clear", "()I"⟩ ⟨"LeastPathsModel", "clear", "()I"⟩ ∈ tlG := tl_at 837 rfl rfl
set_option maxRecDepth 100000 in
theorem ks_65 : Cond.code ⟨"LeastPathsModel", "clear", "()I"⟩ prog_12_method_12_code 2 (Option.some Jvm.ClassFile.FieldType.int) ∈ tlG := tl_at 838 rfl rfl
set_option maxRecDepth 100000 in
theorem ks_66 : Cond.methodLink "LeastPathsLaw" 58 ⟨"LeastPaths", "distance", "(I)I"⟩ ∈ tlG := tl_at 392 rfl rfl
set_option maxRecDepth 100000 in
theorem ks_67 : Cond.instanceMethod ⟨"LeastPaths", "distance", "(I)I"⟩ ∈ tlG := tl_at 393 rfl rfl
set_option maxRecDepth 100000 in
theorem ks_68 : Cond.selects "LeastPaths" ⟨"LeastPaths", "distance", "(I)I"⟩ ⟨"LeastPaths", "distance", "(I)I"⟩ ∈ tlG := tl_at 394 rfl rfl
set_option maxRecDepth 100000 in
theorem ks_69 : Cond.code ⟨"LeastPaths", "distance", "(I)I"⟩ prog_1_method_10_code 2 (Option.some Jvm.ClassFile.FieldType.int) ∈ tlG := tl_at 395 rfl rfl
set_option maxRecDepth 100000 in
theorem ks_70 : Cond.methodLink "LeastPathsLaw" 61 ⟨"LeastPathsModel", "distance", "(I)I"⟩ ∈ tlG := tl_at 839 rfl rfl
set_option maxRecDepth 100000 in
theorem ks_71 : Cond.instanceMethod ⟨"LeastPathsModel", "distance", "(I)I"⟩ ∈ tlG := tl_at 840 rfl rfl
set_option maxRecDepth 100000 in
theorem ks_72 : Cond.selects "LeastPathsModel" ⟨"LeastPathsModel", "distance", "(I)I"⟩ ⟨"LeastPathsModel", "distance", "(I)I"⟩ ∈ tlG := tl_at 841 rfl rfl
set_option maxRecDepth 100000 in
theorem ks_73 : Cond.code ⟨"LeastPathsModel", "distance", "(I)I"⟩ prog_12_method_16_code 2 (Option.some Jvm.ClassFile.FieldType.int) ∈ tlG := tl_at 842 rfl rfl
set_option maxRecDepth 100000 in
theorem ks_74 : Cond.methodLink "LeastPathsLaw" 62 ⟨"LeastPaths", "hops", "(I)I"⟩ ∈ tlG := tl_at 470 rfl rfl
set_option maxRecDepth 100000 in
theorem ks_75 : Cond.instanceMethod ⟨"LeastPaths", "hops", "(I)I"⟩ ∈ tlG := tl_at 471 rfl rfl
set_option maxRecDepth 100000 in
theorem ks_76 : Cond.selects "LeastPaths" ⟨"LeastPaths", "hops", "(I)I"⟩ ⟨"LeastPaths", "hops", "(I)I"⟩ ∈ tlG := tl_at 472 rfl rfl
set_option maxRecDepth 100000 in
theorem ks_77 : Cond.code ⟨"LeastPaths", "hops", "(I)I"⟩ prog_1_method_11_code 2 (Option.some Jvm.ClassFile.FieldType.int) ∈ tlG := tl_at 473 rfl rfl
set_option maxRecDepth 100000 in
theorem ks_78 : Cond.methodLink "LeastPathsLaw" 65 ⟨"LeastPathsModel", "hops", "(I)I"⟩ ∈ tlG := tl_at 852 rfl rfl
set_option maxRecDepth 100000 in
theorem ks_79 : Cond.instanceMethod ⟨"LeastPathsModel", "hops", "(I)I"⟩ ∈ tlG := tl_at 853 rfl rfl
set_option maxRecDepth 100000 in
theorem ks_80 : Cond.selects "LeastPathsModel" ⟨"LeastPathsModel", "hops", "(I)I"⟩ ⟨"LeastPathsModel", "hops", "(I)I"⟩ ∈ tlG := tl_at 854 rfl rfl
set_option maxRecDepth 100000 in
theorem ks_81 : Cond.code ⟨"LeastPathsModel", "hops", "(I)I"⟩ prog_12_method_17_code 2 (Option.some Jvm.ClassFile.FieldType.int) ∈ tlG := tl_at 855 rfl rfl
set_option maxRecDepth 100000 in
theorem ks_82 : Cond.methodLink "LeastPathsLaw" 66 ⟨"LeastPaths", "step", "(I)I"⟩ ∈ tlG := tl_at 474 rfl rfl
set_option maxRecDepth 100000 in
theorem ks_83 : Cond.instanceMethod ⟨"LeastPaths", "step", "(I)I"⟩ ∈ tlG := tl_at 475 rfl rfl
set_option maxRecDepth 100000 in
theorem ks_84 : Cond.selects "LeastPaths" ⟨"LeastPaths", "step", "(I)I"⟩ ⟨"LeastPaths", "step", "(I)I"⟩ ∈ tlG := tl_at 476 rfl rfl
set_option maxRecDepth 100000 in
theorem ks_85 : Cond.code ⟨"LeastPaths", "step", "(I)I"⟩ prog_1_method_12_code 3 (Option.some Jvm.ClassFile.FieldType.int) ∈ tlG := tl_at 477 rfl rfl
set_option maxRecDepth 100000 in
theorem ks_86 : Cond.methodLink "LeastPathsLaw" 69 ⟨"LeastPathsModel", "step", "(I)I"⟩ ∈ tlG := tl_at 856 rfl rfl
set_option maxRecDepth 100000 in
theorem ks_87 : Cond.instanceMethod ⟨"LeastPathsModel", "step", "(I)I"⟩ ∈ tlG := tl_at 857 rfl rfl
set_option maxRecDepth 100000 in
theorem ks_88 : Cond.selects "LeastPathsModel" ⟨"LeastPathsModel", "step", "(I)I"⟩ ⟨"LeastPathsModel", "step", "(I)I"⟩ ∈ tlG := tl_at 858 rfl rfl
set_option maxRecDepth 100000 in
theorem ks_89 : Cond.code ⟨"LeastPathsModel", "step", "(I)I"⟩ prog_12_method_18_code 2 (Option.some Jvm.ClassFile.FieldType.int) ∈ tlG := tl_at 859 rfl rfl
set_option maxRecDepth 100000 in
theorem ks_90 : Cond.methodLink "LeastPathsLaw" 70 ⟨"LeastPaths", "ways", "(I)I"⟩ ∈ tlG := tl_at 487 rfl rfl
set_option maxRecDepth 100000 in
theorem ks_91 : Cond.instanceMethod ⟨"LeastPaths", "ways", "(I)I"⟩ ∈ tlG := tl_at 488 rfl rfl
set_option maxRecDepth 100000 in
theorem ks_92 : Cond.selects "LeastPaths" ⟨"LeastPaths", "ways", "(I)I"⟩ ⟨"LeastPaths", "ways", "(I)I"⟩ ∈ tlG := tl_at 489 rfl rfl
set_option maxRecDepth 100000 in
theorem ks_93 : Cond.code ⟨"LeastPaths", "ways", "(I)I"⟩ prog_1_method_13_code 2 (Option.some Jvm.ClassFile.FieldType.int) ∈ tlG := tl_at 490 rfl rfl
set_option maxRecDepth 100000 in
theorem ks_94 : Cond.methodLink "LeastPathsLaw" 73 ⟨"LeastPathsModel", "ways", "(I)I"⟩ ∈ tlG := tl_at 864 rfl rfl
set_option maxRecDepth 100000 in
theorem ks_95 : Cond.instanceMethod ⟨"LeastPathsModel", "ways", "(I)I"⟩ ∈ tlG := tl_at 865 rfl rfl
set_option maxRecDepth 100000 in
theorem ks_96 : Cond.selects "LeastPathsModel" ⟨"LeastPathsModel", "ways", "(I)I"⟩ ⟨"LeastPathsModel", "ways", "(I)I"⟩ ∈ tlG := tl_at 866 rfl rfl
set_option maxRecDepth 100000 in
theorem ks_97 : Cond.code ⟨"LeastPathsModel", "ways", "(I)I"⟩ prog_12_method_19_code 6 (Option.some Jvm.ClassFile.FieldType.int) ∈ tlG := tl_at 867 rfl rfl
set_option maxRecDepth 100000 in
theorem ks_98 : Cond.methodLink "LeastPathsLaw" 74 ⟨"LeastPaths", "tree", "(II)I"⟩ ∈ tlG := tl_at 495 rfl rfl
set_option maxRecDepth 100000 in
theorem ks_99 : Cond.instanceMethod ⟨"LeastPaths", "tree", "(II)I"⟩ ∈ tlG := tl_at 496 rfl rfl
set_option maxRecDepth 100000 in
theorem ks_100 : Cond.selects "LeastPaths" ⟨"LeastPaths", "tree", "(II)I"⟩ ⟨"LeastPaths", "tree", "(II)I"⟩ ∈ tlG := tl_at 497 rfl rfl
set_option maxRecDepth 100000 in
theorem ks_101 : Cond.code ⟨"LeastPaths", "tree", "(II)I"⟩ prog_1_method_14_code 3 (Option.some Jvm.ClassFile.FieldType.int) ∈ tlG := tl_at 498 rfl rfl
set_option maxRecDepth 100000 in
theorem ks_102 : Cond.methodLink "LeastPathsLaw" 77 ⟨"LeastPathsModel", "tree", "(II)I"⟩ ∈ tlG := tl_at 868 rfl rfl
set_option maxRecDepth 100000 in
theorem ks_103 : Cond.instanceMethod ⟨"LeastPathsModel", "tree", "(II)I"⟩ ∈ tlG := tl_at 869 rfl rfl
set_option maxRecDepth 100000 in
theorem ks_104 : Cond.selects "LeastPathsModel" ⟨"LeastPathsModel", "tree", "(II)I"⟩ ⟨"LeastPathsModel", "tree", "(II)I"⟩ ∈ tlG := tl_at 870 rfl rfl
set_option maxRecDepth 100000 in
theorem ks_105 : Cond.code ⟨"LeastPathsModel", "tree", "(II)I"⟩ prog_12_method_20_code 5 (Option.some Jvm.ClassFile.FieldType.int) ∈ tlG := tl_at 871 rfl rfl
set_option maxRecDepth 100000 in
theorem ks_106 : Cond.methodLink "LeastPathsLaw" 78 ⟨"LeastPaths", "reached", "()I"⟩ ∈ tlG := tl_at 503 rfl rfl
set_option maxRecDepth 100000 in
theorem ks_107 : Cond.instanceMethod ⟨"LeastPaths", "reached", "()I"⟩ ∈ tlG := tl_at 504 rfl rfl
set_option maxRecDepth 100000 in
theorem ks_108 : Cond.selects "LeastPaths" ⟨"LeastPaths", "reached", "()I"⟩ ⟨"LeastPaths", "reached", "()I"⟩ ∈ tlG := tl_at 505 rfl rfl
set_option maxRecDepth 100000 in
theorem ks_109 : Cond.code ⟨"LeastPaths", "reached", "()I"⟩ prog_1_method_15_code 1 (Option.some Jvm.ClassFile.FieldType.int) ∈ tlG := tl_at 506 rfl rfl
set_option maxRecDepth 100000 in
theorem ks_110 : Cond.methodLink "LeastPathsLaw" 81 ⟨"LeastPathsModel", "reached", "()I"⟩ ∈ tlG := tl_at 872 rfl rfl
set_option maxRecDepth 100000 in
theorem ks_111 : Cond.instanceMethod ⟨"LeastPathsModel", "reached", "()I"⟩ ∈ tlG := tl_at 873 rfl rfl
set_option maxRecDepth 100000 in
theorem ks_112 : Cond.selects "LeastPathsModel" ⟨"LeastPathsModel", "reached", "()I"⟩ ⟨"LeastPathsModel", "reached", "()I"⟩ ∈ tlG := tl_at 874 rfl rfl
set_option maxRecDepth 100000 in
theorem ks_113 : Cond.code ⟨"LeastPathsModel", "reached", "()I"⟩ prog_12_method_21_code 3 (Option.some Jvm.ClassFile.FieldType.int) ∈ tlG := tl_at 875 rfl rfl
set_option maxRecDepth 100000 in
theorem ks_114 : Cond.methodLink "LeastPathsLaw" 82 ⟨"LeastPaths", "good", "(I)I"⟩ ∈ tlG := tl_at 507 rfl rfl
set_option maxRecDepth 100000 in
theorem ks_115 : Cond.instanceMethod ⟨"LeastPaths", "good", "(I)I"⟩ ∈ tlG := tl_at 508 rfl rfl
set_option maxRecDepth 100000 in
theorem ks_116 : Cond.selects "LeastPaths" ⟨"LeastPaths", "good", "(I)I"⟩ ⟨"LeastPaths", "good", "(I)I"⟩ ∈ tlG := tl_at 509 rfl rfl
set_option maxRecDepth 100000 in
theorem ks_117 : Cond.code ⟨"LeastPaths", "good", "(I)I"⟩ prog_1_method_16_code 2 (Option.some Jvm.ClassFile.FieldType.int) ∈ tlG := tl_at 510 rfl rfl
set_option maxRecDepth 100000 in
theorem ks_118 : Cond.methodLink "LeastPathsLaw" 85 ⟨"LeastPathsModel", "good", "(I)I"⟩ ∈ tlG := tl_at 876 rfl rfl
set_option maxRecDepth 100000 in
theorem ks_119 : Cond.instanceMethod ⟨"LeastPathsModel", "good", "(I)I"⟩ ∈ tlG := tl_at 877 rfl rfl
set_option maxRecDepth 100000 in
theorem ks_120 : Cond.selects "LeastPathsModel" ⟨"LeastPathsModel", "good", "(I)I"⟩ ⟨"LeastPathsModel", "good", "(I)I"⟩ ∈ tlG := tl_at 878 rfl rfl
set_option maxRecDepth 100000 in
theorem ks_121 : Cond.code ⟨"LeastPathsModel", "good", "(I)I"⟩ prog_12_method_27_code 4 (Option.some Jvm.ClassFile.FieldType.int) ∈ tlG := tl_at 879 rfl rfl
set_option maxRecDepth 100000 in
theorem ks_122 : Cond.methodLink "LeastPathsLaw" 86 ⟨"LeastPaths", "led", "(II)I"⟩ ∈ tlG := tl_at 516 rfl rfl
set_option maxRecDepth 100000 in
theorem ks_123 : Cond.instanceMethod ⟨"LeastPaths", "led", "(II)I"⟩ ∈ tlG := tl_at 517 rfl rfl
set_option maxRecDepth 100000 in
theorem ks_124 : Cond.selects "LeastPaths" ⟨"LeastPaths", "led", "(II)I"⟩ ⟨"LeastPaths", "led", "(II)I"⟩ ∈ tlG := tl_at 518 rfl rfl
set_option maxRecDepth 100000 in
theorem ks_125 : Cond.code ⟨"LeastPaths", "led", "(II)I"⟩ prog_1_method_17_code 3 (Option.some Jvm.ClassFile.FieldType.int) ∈ tlG := tl_at 519 rfl rfl
set_option maxRecDepth 100000 in
theorem ks_126 : Cond.methodLink "LeastPathsLaw" 89 ⟨"LeastPathsModel", "led", "(II)I"⟩ ∈ tlG := tl_at 880 rfl rfl
set_option maxRecDepth 100000 in
theorem ks_127 : Cond.instanceMethod ⟨"LeastPathsModel", "led", "(II)I"⟩ ∈ tlG := tl_at 881 rfl rfl
set_option maxRecDepth 100000 in
theorem ks_128 : Cond.selects "LeastPathsModel" ⟨"LeastPathsModel", "led", "(II)I"⟩ ⟨"LeastPathsModel", "led", "(II)I"⟩ ∈ tlG := tl_at 882 rfl rfl
set_option maxRecDepth 100000 in
theorem ks_129 : Cond.code ⟨"LeastPathsModel", "led", "(II)I"⟩ prog_12_method_28_code 3 (Option.some Jvm.ClassFile.FieldType.int) ∈ tlG := tl_at 883 rfl rfl
set_option maxRecDepth 100000 in
theorem ks_130 : Cond.methodLink "LeastPathsLaw" 90 ⟨"LeastPaths", "ledTo", "(II)I"⟩ ∈ tlG := tl_at 528 rfl rfl
set_option maxRecDepth 100000 in
theorem ks_131 : Cond.instanceMethod ⟨"LeastPaths", "ledTo", "(II)I"⟩ ∈ tlG := tl_at 529 rfl rfl
set_option maxRecDepth 100000 in
theorem ks_132 : Cond.selects "LeastPaths" ⟨"LeastPaths", "ledTo", "(II)I"⟩ ⟨"LeastPaths", "ledTo", "(II)I"⟩ ∈ tlG := tl_at 530 rfl rfl
set_option maxRecDepth 100000 in
theorem ks_133 : Cond.code ⟨"LeastPaths", "ledTo", "(II)I"⟩ prog_1_method_18_code 3 (Option.some Jvm.ClassFile.FieldType.int) ∈ tlG := tl_at 531 rfl rfl
set_option maxRecDepth 100000 in
theorem ks_134 : Cond.methodLink "LeastPathsLaw" 93 ⟨"LeastPathsModel", "ledTo", "(II)I"⟩ ∈ tlG := tl_at 904 rfl rfl
set_option maxRecDepth 100000 in
theorem ks_135 : Cond.instanceMethod ⟨"LeastPathsModel", "ledTo", "(II)I"⟩ ∈ tlG := tl_at 905 rfl rfl
set_option maxRecDepth 100000 in
theorem ks_136 : Cond.selects "LeastPathsModel" ⟨"LeastPathsModel", "ledTo", "(II)I"⟩ ⟨"LeastPathsModel", "ledTo", "(II)I"⟩ ∈ tlG := tl_at 906 rfl rfl
set_option maxRecDepth 100000 in
theorem ks_137 : Cond.code ⟨"LeastPathsModel", "ledTo", "(II)I"⟩ prog_12_method_29_code 4 (Option.some Jvm.ClassFile.FieldType.int) ∈ tlG := tl_at 907 rfl rfl
set_option maxRecDepth 100000 in
theorem ks_138 : Cond.methodLink "LeastPathsLaw" 94 ⟨"LeastPaths", "both", "(II)I"⟩ ∈ tlG := tl_at 532 rfl rfl
set_option maxRecDepth 100000 in
theorem ks_139 : Cond.instanceMethod ⟨"LeastPaths", "both", "(II)I"⟩ ∈ tlG := tl_at 533 rfl rfl
set_option maxRecDepth 100000 in
theorem ks_140 : Cond.selects "LeastPaths" ⟨"LeastPaths", "both", "(II)I"⟩ ⟨"LeastPaths", "both", "(II)I"⟩ ∈ tlG := tl_at 534 rfl rfl
set_option maxRecDepth 100000 in
theorem ks_141 : Cond.code ⟨"LeastPaths", "both", "(II)I"⟩ prog_1_method_19_code 3 (Option.some Jvm.ClassFile.FieldType.int) ∈ tlG := tl_at 535 rfl rfl
set_option maxRecDepth 100000 in
theorem ks_142 : Cond.methodLink "LeastPathsLaw" 97 ⟨"LeastPathsModel", "both", "(II)I"⟩ ∈ tlG := tl_at 908 rfl rfl
set_option maxRecDepth 100000 in
theorem ks_143 : Cond.instanceMethod ⟨"LeastPathsModel", "both", "(II)I"⟩ ∈ tlG := tl_at 909 rfl rfl
set_option maxRecDepth 100000 in
theorem ks_144 : Cond.selects "LeastPathsModel" ⟨"LeastPathsModel", "both", "(II)I"⟩ ⟨"LeastPathsModel", "both", "(II)I"⟩ ∈ tlG := tl_at 910 rfl rfl
set_option maxRecDepth 100000 in
theorem ks_145 : Cond.code ⟨"LeastPathsModel", "both", "(II)I"⟩ prog_12_method_32_code 3 (Option.some Jvm.ClassFile.FieldType.int) ∈ tlG := tl_at 911 rfl rfl
set_option maxRecDepth 100000 in
theorem ks_146 : Cond.methodLink "LeastPathsLaw" 98 ⟨"LeastPaths", "bothTo", "(II)I"⟩ ∈ tlG := tl_at 564 rfl rfl
set_option maxRecDepth 100000 in
theorem ks_147 : Cond.instanceMethod ⟨"LeastPaths", "bothTo", "(II)I"⟩ ∈ tlG := tl_at 565 rfl rfl
set_option maxRecDepth 100000 in
theorem ks_148 : Cond.selects "LeastPaths" ⟨"LeastPaths", "bothTo", "(II)I"⟩ ⟨"LeastPaths", "bothTo", "(II)I"⟩ ∈ tlG := tl_at 566 rfl rfl
set_option maxRecDepth 100000 in
theorem ks_149 : Cond.code ⟨"LeastPaths", "bothTo", "(II)I"⟩ prog_1_method_20_code 3 (Option.some Jvm.ClassFile.FieldType.int) ∈ tlG := tl_at 567 rfl rfl
set_option maxRecDepth 100000 in
theorem ks_150 : Cond.methodLink "LeastPathsLaw" 101 ⟨"LeastPathsModel", "bothTo", "(II)I"⟩ ∈ tlG := tl_at 920 rfl rfl
set_option maxRecDepth 100000 in
theorem ks_151 : Cond.instanceMethod ⟨"LeastPathsModel", "bothTo", "(II)I"⟩ ∈ tlG := tl_at 921 rfl rfl
set_option maxRecDepth 100000 in
theorem ks_152 : Cond.selects "LeastPathsModel" ⟨"LeastPathsModel", "bothTo", "(II)I"⟩ ⟨"LeastPathsModel", "bothTo", "(II)I"⟩ ∈ tlG := tl_at 922 rfl rfl
set_option maxRecDepth 100000 in
theorem ks_153 : Cond.code ⟨"LeastPathsModel", "bothTo", "(II)I"⟩ prog_12_method_33_code 4 (Option.some Jvm.ClassFile.FieldType.int) ∈ tlG := tl_at 923 rfl rfl
set_option maxRecDepth 100000 in
theorem ks_154 : Cond.methodLink "LeastPathsLaw" 102 ⟨"LeastPaths", "kth", "(III)I"⟩ ∈ tlG := tl_at 569 rfl rfl
set_option maxRecDepth 100000 in
theorem ks_155 : Cond.instanceMethod ⟨"LeastPaths", "kth", "(III)I"⟩ ∈ tlG := tl_at 570 rfl rfl
set_option maxRecDepth 100000 in
theorem ks_156 : Cond.selects "LeastPaths" ⟨"LeastPaths", "kth", "(III)I"⟩ ⟨"LeastPaths", "kth", "(III)I"⟩ ∈ tlG := tl_at 571 rfl rfl
set_option maxRecDepth 100000 in
theorem ks_157 : Cond.code ⟨"LeastPaths", "kth", "(III)I"⟩ prog_1_method_21_code 4 (Option.some Jvm.ClassFile.FieldType.int) ∈ tlG := tl_at 572 rfl rfl
set_option maxRecDepth 100000 in
theorem ks_158 : Cond.methodLink "LeastPathsLaw" 105 ⟨"LeastPathsModel", "kth", "(III)I"⟩ ∈ tlG := tl_at 924 rfl rfl
set_option maxRecDepth 100000 in
theorem ks_159 : Cond.instanceMethod ⟨"LeastPathsModel", "kth", "(III)I"⟩ ∈ tlG := tl_at 925 rfl rfl
set_option maxRecDepth 100000 in
theorem ks_160 : Cond.selects "LeastPathsModel" ⟨"LeastPathsModel", "kth", "(III)I"⟩ ⟨"LeastPathsModel", "kth", "(III)I"⟩ ∈ tlG := tl_at 926 rfl rfl
set_option maxRecDepth 100000 in
theorem ks_161 : Cond.code ⟨"LeastPathsModel", "kth", "(III)I"⟩ prog_12_method_40_code 4 (Option.some Jvm.ClassFile.FieldType.int) ∈ tlG := tl_at 927 rfl rfl
set_option maxRecDepth 100000 in
theorem ks_162 : Cond.methodLink "LeastPathsLaw" 106 ⟨"LeastPaths", "kthArc", "(IIII)I"⟩ ∈ tlG := tl_at 609 rfl rfl
set_option maxRecDepth 100000 in
theorem ks_163 : Cond.instanceMethod ⟨"LeastPaths", "kthArc", "(IIII)I"⟩ ∈ tlG := tl_at 610 rfl rfl
set_option maxRecDepth 100000 in
theorem ks_164 : Cond.selects "LeastPaths" ⟨"LeastPaths", "kthArc", "(IIII)I"⟩ ⟨"LeastPaths", "kthArc", "(IIII)I"⟩ ∈ tlG := tl_at 611 rfl rfl
set_option maxRecDepth 100000 in
theorem ks_165 : Cond.code ⟨"LeastPaths", "kthArc", "(IIII)I"⟩ prog_1_method_22_code 5 (Option.some Jvm.ClassFile.FieldType.int) ∈ tlG := tl_at 612 rfl rfl
set_option maxRecDepth 100000 in
theorem ks_166 : Cond.methodLink "LeastPathsLaw" 110 ⟨"LeastPathsModel", "kthArc", "(IIII)I"⟩ ∈ tlG := tl_at 952 rfl rfl
set_option maxRecDepth 100000 in
theorem ks_167 : Cond.instanceMethod ⟨"LeastPathsModel", "kthArc", "(IIII)I"⟩ ∈ tlG := tl_at 953 rfl rfl
set_option maxRecDepth 100000 in
theorem ks_168 : Cond.selects "LeastPathsModel" ⟨"LeastPathsModel", "kthArc", "(IIII)I"⟩ ⟨"LeastPathsModel", "kthArc", "(IIII)I"⟩ ∈ tlG := tl_at 954 rfl rfl
set_option maxRecDepth 100000 in
theorem ks_169 : Cond.code ⟨"LeastPathsModel", "kthArc", "(IIII)I"⟩ prog_12_method_41_code 6 (Option.some Jvm.ClassFile.FieldType.int) ∈ tlG := tl_at 955 rfl rfl
set_option maxRecDepth 100000 in
theorem ks_170 : Cond.methodLink "LeastPathsLaw" 111 ⟨"LeastPaths", "widest", "(II)I"⟩ ∈ tlG := tl_at 617 rfl rfl
set_option maxRecDepth 100000 in
theorem ks_171 : Cond.instanceMethod ⟨"LeastPaths", "widest", "(II)I"⟩ ∈ tlG := tl_at 618 rfl rfl
set_option maxRecDepth 100000 in
theorem ks_172 : Cond.selects "LeastPaths" ⟨"LeastPaths", "widest", "(II)I"⟩ ⟨"LeastPaths", "widest", "(II)I"⟩ ∈ tlG := tl_at 619 rfl rfl
set_option maxRecDepth 100000 in
theorem ks_173 : Cond.code ⟨"LeastPaths", "widest", "(II)I"⟩ prog_1_method_23_code 3 (Option.some Jvm.ClassFile.FieldType.int) ∈ tlG := tl_at 620 rfl rfl
set_option maxRecDepth 100000 in
theorem ks_174 : Cond.methodLink "LeastPathsLaw" 114 ⟨"LeastPathsModel", "widest", "(II)I"⟩ ∈ tlG := tl_at 957 rfl rfl
set_option maxRecDepth 100000 in
theorem ks_175 : Cond.instanceMethod ⟨"LeastPathsModel", "widest", "(II)I"⟩ ∈ tlG := tl_at 958 rfl rfl
set_option maxRecDepth 100000 in
theorem ks_176 : Cond.selects "LeastPathsModel" ⟨"LeastPathsModel", "widest", "(II)I"⟩ ⟨"LeastPathsModel", "widest", "(II)I"⟩ ∈ tlG := tl_at 959 rfl rfl
set_option maxRecDepth 100000 in
theorem ks_177 : Cond.code ⟨"LeastPathsModel", "widest", "(II)I"⟩ prog_12_method_42_code 6 (Option.some Jvm.ClassFile.FieldType.int) ∈ tlG := tl_at 960 rfl rfl
set_option maxRecDepth 100000 in
theorem ks_178 : Cond.methodLink "LeastPathsLaw" 115 ⟨"LeastPaths", "trust", "(III)I"⟩ ∈ tlG := tl_at 629 rfl rfl
set_option maxRecDepth 100000 in
theorem ks_179 : Cond.instanceMethod ⟨"LeastPaths", "trust", "(III)I"⟩ ∈ tlG := tl_at 630 rfl rfl
set_option maxRecDepth 100000 in
theorem ks_180 : Cond.selects "LeastPaths" ⟨"LeastPaths", "trust", "(III)I"⟩ ⟨"LeastPaths", "trust", "(III)I"⟩ ∈ tlG := tl_at 631 rfl rfl
set_option maxRecDepth 100000 in
theorem ks_181 : Cond.code ⟨"LeastPaths", "trust", "(III)I"⟩ prog_1_method_24_code 4 (Option.some Jvm.ClassFile.FieldType.int) ∈ tlG := tl_at 632 rfl rfl
set_option maxRecDepth 100000 in
theorem ks_182 : Cond.methodLink "LeastPathsLaw" 118 ⟨"LeastPathsModel", "trust", "(III)I"⟩ ∈ tlG := tl_at 961 rfl rfl
set_option maxRecDepth 100000 in
theorem ks_183 : Cond.instanceMethod ⟨"LeastPathsModel", "trust", "(III)I"⟩ ∈ tlG := tl_at 962 rfl rfl
set_option maxRecDepth 100000 in
theorem ks_184 : Cond.selects "LeastPathsModel" ⟨"LeastPathsModel", "trust", "(III)I"⟩ ⟨"LeastPathsModel", "trust", "(III)I"⟩ ∈ tlG := tl_at 963 rfl rfl
set_option maxRecDepth 100000 in
theorem ks_185 : Cond.code ⟨"LeastPathsModel", "trust", "(III)I"⟩ prog_12_method_44_code 14 (Option.some Jvm.ClassFile.FieldType.int) ∈ tlG := tl_at 964 rfl rfl
set_option maxRecDepth 100000 in
theorem ks_186 : Cond.methodLink "LeastPathsLaw" 119 ⟨"LeastPaths", "ring", "()I"⟩ ∈ tlG := tl_at 654 rfl rfl
set_option maxRecDepth 100000 in
theorem ks_187 : Cond.instanceMethod ⟨"LeastPaths", "ring", "()I"⟩ ∈ tlG := tl_at 655 rfl rfl
set_option maxRecDepth 100000 in
theorem ks_188 : Cond.selects "LeastPaths" ⟨"LeastPaths", "ring", "()I"⟩ ⟨"LeastPaths", "ring", "()I"⟩ ∈ tlG := tl_at 656 rfl rfl
set_option maxRecDepth 100000 in
theorem ks_189 : Cond.code ⟨"LeastPaths", "ring", "()I"⟩ prog_1_method_25_code 1 (Option.some Jvm.ClassFile.FieldType.int) ∈ tlG := tl_at 657 rfl rfl
set_option maxRecDepth 100000 in
theorem ks_190 : Cond.methodLink "LeastPathsLaw" 122 ⟨"LeastPathsModel", "ring", "()I"⟩ ∈ tlG := tl_at 969 rfl rfl
set_option maxRecDepth 100000 in
theorem ks_191 : Cond.instanceMethod ⟨"LeastPathsModel", "ring", "()I"⟩ ∈ tlG := tl_at 970 rfl rfl
set_option maxRecDepth 100000 in
theorem ks_192 : Cond.selects "LeastPathsModel" ⟨"LeastPathsModel", "ring", "()I"⟩ ⟨"LeastPathsModel", "ring", "()I"⟩ ∈ tlG := tl_at 971 rfl rfl
set_option maxRecDepth 100000 in
theorem ks_193 : Cond.code ⟨"LeastPathsModel", "ring", "()I"⟩ prog_12_method_47_code 1 (Option.some Jvm.ClassFile.FieldType.int) ∈ tlG := tl_at 972 rfl rfl
set_option maxRecDepth 100000 in
theorem ks_194 : Cond.methodLink "LeastPathsLaw" 123 ⟨"LeastPaths", "ringArc", "(I)I"⟩ ∈ tlG := tl_at 675 rfl rfl
set_option maxRecDepth 100000 in
theorem ks_195 : Cond.instanceMethod ⟨"LeastPaths", "ringArc", "(I)I"⟩ ∈ tlG := tl_at 676 rfl rfl
set_option maxRecDepth 100000 in
theorem ks_196 : Cond.selects "LeastPaths" ⟨"LeastPaths", "ringArc", "(I)I"⟩ ⟨"LeastPaths", "ringArc", "(I)I"⟩ ∈ tlG := tl_at 677 rfl rfl
set_option maxRecDepth 100000 in
theorem ks_197 : Cond.code ⟨"LeastPaths", "ringArc", "(I)I"⟩ prog_1_method_26_code 2 (Option.some Jvm.ClassFile.FieldType.int) ∈ tlG := tl_at 678 rfl rfl
set_option maxRecDepth 100000 in
theorem ks_198 : Cond.methodLink "LeastPathsLaw" 126 ⟨"LeastPathsModel", "ringArc", "(I)I"⟩ ∈ tlG := tl_at 981 rfl rfl
set_option maxRecDepth 100000 in
theorem ks_199 : Cond.instanceMethod ⟨"LeastPathsModel", "ringArc", "(I)I"⟩ ∈ tlG := tl_at 982 rfl rfl
set_option maxRecDepth 100000 in
theorem ks_200 : Cond.selects "LeastPathsModel" ⟨"LeastPathsModel", "ringArc", "(I)I"⟩ ⟨"LeastPathsModel", "ringArc", "(I)I"⟩ ∈ tlG := tl_at 983 rfl rfl
set_option maxRecDepth 100000 in
theorem ks_201 : Cond.code ⟨"LeastPathsModel", "ringArc", "(I)I"⟩ prog_12_method_48_code 2 (Option.some Jvm.ClassFile.FieldType.int) ∈ tlG := tl_at 984 rfl rfl
set_option maxRecDepth 100000 in
theorem ks_202 : Cond.methodLink "LeastPathsLaw" 127 ⟨"LeastPaths", "missed", "(II)I"⟩ ∈ tlG := tl_at 679 rfl rfl
set_option maxRecDepth 100000 in
theorem ks_203 : Cond.instanceMethod ⟨"LeastPaths", "missed", "(II)I"⟩ ∈ tlG := tl_at 680 rfl rfl
set_option maxRecDepth 100000 in
theorem ks_204 : Cond.selects "LeastPaths" ⟨"LeastPaths", "missed", "(II)I"⟩ ⟨"LeastPaths", "missed", "(II)I"⟩ ∈ tlG := tl_at 681 rfl rfl
set_option maxRecDepth 100000 in
theorem ks_205 : Cond.code ⟨"LeastPaths", "missed", "(II)I"⟩ prog_1_method_27_code 7 (Option.some Jvm.ClassFile.FieldType.int) ∈ tlG := tl_at 682 rfl rfl
set_option maxRecDepth 100000 in
theorem ks_206 : Cond.methodLink "LeastPathsLaw" 130 ⟨"LeastPathsModel", "missed", "(II)I"⟩ ∈ tlG := tl_at 985 rfl rfl
set_option maxRecDepth 100000 in
theorem ks_207 : Cond.instanceMethod ⟨"LeastPathsModel", "missed", "(II)I"⟩ ∈ tlG := tl_at 986 rfl rfl
set_option maxRecDepth 100000 in
theorem ks_208 : Cond.selects "LeastPathsModel" ⟨"LeastPathsModel", "missed", "(II)I"⟩ ⟨"LeastPathsModel", "missed", "(II)I"⟩ ∈ tlG := tl_at 987 rfl rfl
set_option maxRecDepth 100000 in
theorem ks_209 : Cond.code ⟨"LeastPathsModel", "missed", "(II)I"⟩ prog_12_method_50_code 8 (Option.some Jvm.ClassFile.FieldType.int) ∈ tlG := tl_at 988 rfl rfl
set_option maxRecDepth 100000 in
theorem ks_210 : Cond.classLink "LeastPathsLaw" 7 "LeastPaths" ∈ tlG := tl_at 14 rfl rfl
set_option maxRecDepth 100000 in
theorem ks_211 : Cond.methodLink "LeastPathsLaw" 9 ⟨"LeastPathsLaw", "cell", "([II)I"⟩ ∈ tlG := tl_at 687 rfl rfl
set_option maxRecDepth 100000 in
theorem ks_212 : Cond.static ⟨"LeastPathsLaw", "cell", "([II)I"⟩ ∈ tlG := tl_at 688 rfl rfl
set_option maxRecDepth 100000 in
theorem ks_213 : Cond.initialized "LeastPathsLaw" ∈ tlG := tl_at 0 rfl rfl
set_option maxRecDepth 100000 in
theorem ks_214 : Cond.code ⟨"LeastPathsLaw", "cell", "([II)I"⟩ method_2_code 2 (Option.some Jvm.ClassFile.FieldType.int) ∈ tlG := tl_at 689 rfl rfl
set_option maxRecDepth 100000 in
theorem ks_215 : Cond.methodLink "LeastPathsLaw" 15 ⟨"LeastPaths", "<init>", "(I)V"⟩ ∈ tlG := tl_at 16 rfl rfl
set_option maxRecDepth 100000 in
theorem ks_216 : Cond.instanceMethod ⟨"LeastPaths", "<init>", "(I)V"⟩ ∈ tlG := tl_at 17 rfl rfl
set_option maxRecDepth 100000 in
theorem ks_217 : Cond.code ⟨"LeastPaths", "<init>", "(I)V"⟩ prog_1_method_1_code 2 (Option.none : Option Jvm.ClassFile.FieldType) ∈ tlG := tl_at 18 rfl rfl
set_option maxRecDepth 100000 in
theorem ks_218 : Cond.classLink "LeastPathsLaw" 18 "LeastPathsModel" ∈ tlG := tl_at 690 rfl rfl
set_option maxRecDepth 100000 in
theorem ks_219 : Cond.methodLink "LeastPathsLaw" 20 ⟨"LeastPathsModel", "<init>", "(I)V"⟩ ∈ tlG := tl_at 692 rfl rfl
set_option maxRecDepth 100000 in
theorem ks_220 : Cond.instanceMethod ⟨"LeastPathsModel", "<init>", "(I)V"⟩ ∈ tlG := tl_at 693 rfl rfl
set_option maxRecDepth 100000 in
theorem ks_221 : Cond.code ⟨"LeastPathsModel", "<init>", "(I)V"⟩ prog_12_method_1_code 2 (Option.none : Option Jvm.ClassFile.FieldType) ∈ tlG := tl_at 694 rfl rfl
set_option maxRecDepth 100000 in
theorem kn_LP : Cond.instantiable "LeastPaths" 9 ∈ tlG := tl_at 15 rfl rfl
set_option maxRecDepth 100000 in
theorem kn_Mo : Cond.instantiable "LeastPathsModel" 32 ∈ tlG := tl_at 691 rfl rfl
set_option maxRecDepth 100000 in
theorem kd_LP : ∀ j, j < 9 → defaultValue (ty_LP j) = vp_V (List.map mV0 [0, 2, 2, 2, 2, 2, 2, 2, 2]) j := by
  intro j hj
  match j, hj with
  | 0, _ => rfl
  | 1, _ => rfl
  | 2, _ => rfl
  | 3, _ => rfl
  | 4, _ => rfl
  | 5, _ => rfl
  | 6, _ => rfl
  | 7, _ => rfl
  | 8, _ => rfl
  | k + 9, h => omega
set_option maxRecDepth 100000 in
theorem kd_Mo : ∀ j, j < 32 → defaultValue (ty_Mo j) = vp_V (List.map mV0 [0, 0, 0, 2, 2, 2, 2, 2, 2, 2, 2, 2, 2, 2, 2, 2, 2, 2, 2, 0, 0, 0, 0, 0, 2, 2, 2, 2, 2, 0, 0, 2]) j := by
  intro j hj
  match j, hj with
  | 0, _ => rfl
  | 1, _ => rfl
  | 2, _ => rfl
  | 3, _ => rfl
  | 4, _ => rfl
  | 5, _ => rfl
  | 6, _ => rfl
  | 7, _ => rfl
  | 8, _ => rfl
  | 9, _ => rfl
  | 10, _ => rfl
  | 11, _ => rfl
  | 12, _ => rfl
  | 13, _ => rfl
  | 14, _ => rfl
  | 15, _ => rfl
  | 16, _ => rfl
  | 17, _ => rfl
  | 18, _ => rfl
  | 19, _ => rfl
  | 20, _ => rfl
  | 21, _ => rfl
  | 22, _ => rfl
  | 23, _ => rfl
  | 24, _ => rfl
  | 25, _ => rfl
  | 26, _ => rfl
  | 27, _ => rfl
  | 28, _ => rfl
  | 29, _ => rfl
  | 30, _ => rfl
  | 31, _ => rfl
  | k + 32, h => omega
theorem blC {b L : Nat} {xs : Nat → Int32} : FrameBlind (va_Pc [.ref b, .int 0] (fun U => b < U.heap.size ∧ va_X b L xs U U.heap)) := by
  intro a U g mk q
  obtain ⟨q0, q1, q2⟩ := q
  exact ⟨q0, q1, va_X.moved (u := U) (U := U.calling g mk a) (Vm.Alike.refl U.vm) q2⟩
theorem pure_law (xs : Nat → Int32) (L : Nat) (hL : L ≤ 2561) : lawN xs L (L + 1) 1 (initS (cellV xs L)) (shY (initS (cellV xs L))) = some () := pure_law0 xs L
set_option maxHeartbeats 4000000 in
set_option maxRecDepth 100000 in
theorem whole_start {p : Program} {e : Env} {s : State} {m : MethodId} {below : List Frame} {meth : Method} {c : Code} (l : Launch) {b L : Nat} {xs : Nat → Int32} (hL : L ≤ 2561) (C0 : lw_At p s m meth c b L xs) : W p l e room_1 s m #[Value.ref b] below meth c s.heap [] 0 0 (lw_Z below #[Value.ref b] s) (entryFrame m ([Value.ref b] : List Value).toArray 4) := by
  obtain ⟨hx, hb, hr, hml, hown, hts, hX, hbl, hlocks, hgv⟩ := id C0
  have S : CallFix p m c code 4 s #[Value.ref b] tlG "LeastPathsLaw" := ⟨hx, hb, hml, hown, fun w h => hts w (List.mem_filter.mp h).1⟩
  have hA : ∀ q : Nat, s.heap.size ≤ q → (fun q : Nat => s.heap.size ≤ q) q := fun _ h => h
  have hbA : ¬ (fun q : Nat => s.heap.size ≤ q) b := Nat.not_le.mpr hbl
  have hn1 := hts (.methodLinkNest "LeastPaths" 26 ⟨"LeastPaths$Graph", "<init>", "()V"⟩ "LeastPaths") (List.mem_append_right _ (List.mem_of_getElem? (i := 30) rfl))
  have hn2 := hts (.methodLinkNest "LeastPaths$Row" 17 ⟨"LeastPaths$Way", "<init>", "()V"⟩ "LeastPaths") (List.mem_append_right _ (List.mem_of_getElem? (i := 196) rfl))
  have hn3 := hts (.methodLinkNest "LeastPaths$Rings" 11 ⟨"LeastPaths$Way", "<init>", "()V"⟩ "LeastPaths") (List.mem_append_right _ (List.mem_of_getElem? (i := 258) rfl))
  have hn4 := hts (.arrayOver (.object "LeastPaths$Way")) (List.mem_append_right _ (List.mem_of_getElem? (i := 194) rfl))
  have N : nW s := ⟨va_Nw.of rfl hn1, va_Nw.of rfl hn2, va_Nw.of rfl hn3, va_AO.of hn4⟩
  obtain ⟨c0, iS0, hKn0⟩ := u_known (C := "LeastPaths") (T := T_LP) (N := 9) (n := 9) S.2.2.2.2 ok_LP.1 (S.2.2.2.2 _ kn_LP)
  obtain ⟨c1, iS1, hKn1⟩ := u_known (C := "LeastPaths$BothSides") (T := T_BS) (N := 3) (n := 3) S.2.2.2.2 ok_BS.1 (S.2.2.2.2 _ kn_BS)
  obtain ⟨c2, iS2, hKn2⟩ := u_known (C := "LeastPaths$Graph") (T := T_Gr) (N := 10) (n := 10) S.2.2.2.2 ok_Gr.1 (S.2.2.2.2 _ kn_Gr)
  obtain ⟨c3, iS3, hKn3⟩ := u_known (C := "LeastPaths$Rings") (T := T_Rg) (N := 3) (n := 3) S.2.2.2.2 ok_Rg.1 (S.2.2.2.2 _ kn_Rg)
  obtain ⟨c4, iS4, hKn4⟩ := u_known (C := "LeastPaths$Row") (T := T_Rw) (N := 8) (n := 8) S.2.2.2.2 ok_Rw.1 (S.2.2.2.2 _ kn_Rw)
  obtain ⟨c5, iS5, hKn5⟩ := u_known (C := "LeastPaths$Search") (T := T_Se) (N := 12) (n := 12) S.2.2.2.2 ok_Se.1 (S.2.2.2.2 _ kn_Se)
  obtain ⟨c6, iS6, hKn6⟩ := u_known (C := "LeastPaths$Trusts") (T := T_Tr) (N := 3) (n := 3) S.2.2.2.2 ok_Tr.1 (S.2.2.2.2 _ kn_Tr)
  obtain ⟨c7, iS7, hKn7⟩ := u_known (C := "LeastPaths$Waiting") (T := T_Wa) (N := 5) (n := 5) S.2.2.2.2 ok_Wa.1 (S.2.2.2.2 _ kn_Wa)
  obtain ⟨c8, iS8, hKn8⟩ := u_known (C := "LeastPaths$Way") (T := T_Wy) (N := 5) (n := 5) S.2.2.2.2 ok_Wy.1 (S.2.2.2.2 _ kn_Wy)
  obtain ⟨c9, iS9, hKn9⟩ := u_known (C := "LeastPaths$Widths") (T := T_Wi) (N := 2) (n := 2) S.2.2.2.2 ok_Wi.1 (S.2.2.2.2 _ kn_Wi)
  obtain ⟨c10, iS10, hKn10⟩ := u_known (C := "LeastPathsModel") (T := T_Mo) (N := 32) (n := 32) S.2.2.2.2 ok_Mo.1 (S.2.2.2.2 _ kn_Mo)
  obtain ⟨dC, dI, hKc⟩ : ∃ (dC : Nat → ClassId) (dI : Nat → Nat → Nat), ∀ (k : Nat) (q : vw_C), clX[k]? = some q → u_Kn s q.1 q.2.1 q.2.2 (dC k) (dI k) := by
    refine ⟨fun k => if k = 0 then c0 else if k = 1 then c1 else if k = 2 then c2 else if k = 3 then c3 else if k = 4 then c4 else if k = 5 then c5 else if k = 6 then c6 else if k = 7 then c7 else if k = 8 then c8 else if k = 9 then c9 else c10, fun k => if k = 0 then iS0 else if k = 1 then iS1 else if k = 2 then iS2 else if k = 3 then iS3 else if k = 4 then iS4 else if k = 5 then iS5 else if k = 6 then iS6 else if k = 7 then iS7 else if k = 8 then iS8 else if k = 9 then iS9 else iS10, ?_⟩
    intro k q hq
    match k, hq with
    | 0, hq => cases hq; exact hKn0
    | 1, hq => cases hq; exact hKn1
    | 2, hq => cases hq; exact hKn2
    | 3, hq => cases hq; exact hKn3
    | 4, hq => cases hq; exact hKn4
    | 5, hq => cases hq; exact hKn5
    | 6, hq => cases hq; exact hKn6
    | 7, hq => cases hq; exact hKn7
    | 8, hq => cases hq; exact hKn8
    | 9, hq => cases hq; exact hKn9
    | 10, hq => cases hq; exact hKn10
    | k + 11, hq => simp [clX] at hq
  obtain ⟨a0, k0, p0, u0, v0, w0⟩ := Cond.arrayClass_spec (S.2.2.2.2 _ ka_int)
  obtain ⟨a1, k1, p1, u1, v1, w1⟩ := Cond.arrayClass_spec (S.2.2.2.2 _ ka_long)
  obtain ⟨a2, k2, p2, u2, v2, w2⟩ := Cond.arrayClass_spec (S.2.2.2.2 _ ka_boolean)
  obtain ⟨p3, a3, k3, t3, -, v3, w3, u3⟩ := Cond.arrayOver_spec hn4
  obtain ⟨cA, hK⟩ : ∃ cA : Nat → Nat, va_K (dC, dI) clX (tyK cA) s := by
    refine ⟨fun k => if k = 0 then a0 else if k = 1 then a1 else if k = 2 then a2 else a3, hKc, ?_⟩
    intro k q hq
    match k, hq with
    | 0, hq => cases hq; exact ⟨fun n z => ⟨(fun k h => by cases h), k0, v0, p0, w0⟩, u0⟩
    | 1, hq => cases hq; exact ⟨fun n z => ⟨(fun k h => by cases h), k1, v1, p1, w1⟩, u1⟩
    | 2, hq => cases hq; exact ⟨fun n z => ⟨(fun k h => by cases h), k2, v2, p2, w2⟩, u2⟩
    | 3, hq => cases hq; exact ⟨fun n z => ⟨(fun k h => by cases h), k3, v3, p3, w3⟩, k3, p3, v3, w3, t3, u3⟩
    | k + 4, hq => simp [tyK] at hq
  have M : mM (dC, dI) clX (tyK cA) (fun q : Nat => s.heap.size ≤ q) s 0 (tbC cA) (fun _ => 0) s00 s.heap [] := ⟨hK, fun k q h => by simp [wd] at h, ⟨fun i j p q h => by simp [wd] at h, fun k q h => by simp [wd] at h⟩, va_S.rf⟩
  have hI := s00_I
  have hl := lv_entry ([.ref b]) (n := 4) (Nat.le_of_ble_eq_true rfl)
  rw [lg_entry_eq]
  generalize (lg_sl ([.ref b]) ++ List.replicate (4 - (lg_sl ([.ref b])).length) Slot.unset).toArray = ls at hl ⊢
  have hl : lv_has ls 4 [(0, .ref b)] := hl
  refine m_new S M hI (tC_dy cA) hA ok_LP rfl ks_210 kn_LP ks_3 kd_LP (Nat.le_of_ble_eq_true rfl) (Nat.le_of_ble_eq_true rfl) d_L_law_0 (fun q ad1 H g1 f M => ?_)
  subst f
  have hI := mI_up hI
  refine lv_dup S.1 S.2.1 d_L_law_3 rfl ?_
  refine lv_aload_n S.1 S.2.1 d_L_law_4 rfl (lv_at hl 0 rfl) ?_
  refine lv_iconst (v := 0) S.1 S.2.1 d_L_law_5 (by decide) ?_
  refine vp_callSi (va_Run.run (va_runS (As := [.ref b, .int 0]) (rest := [.ref (ad1 0), .ref (ad1 0)]) S (c_L_cell l b L xs (by omega)) (cwGS (n := 2) S.2.2.2.2 ks_211 ks_212 ks_213 ks_214 (by decide) ⟨Nat.le_of_ble_eq_true rfl, Nat.le_of_ble_eq_true rfl⟩) ⟨blC, fun U hU hW => ⟨rfl, by rw [hU]; exact Nat.lt_of_lt_of_le hbl M.2.2.2.1, by rw [hU]; exact va_X.moved hW.alike (hX.kept (M.2.2.2.2.1 b hbl hbA))⟩⟩ rfl rfl hl.1 rfl (lv_room (Nat.le_of_ble_eq_true rfl)) d_L_law_6 ⟨Nat.le_of_ble_eq_true rfl, Nat.le_of_ble_eq_true rfl⟩)) (fun r er => ?_)
  subst er
  refine m_xn (m_rI (As := [.int (cellV xs L)]) (rest := [.ref (ad1 0)]) S N M hl.1 (cwGI (n := 1) S.2.2.2.2 ks_215 ks_216 ks_3 ks_217 rfl (by decide) ⟨Nat.le_of_ble_eq_true rfl, Nat.le_of_ble_eq_true rfl⟩) (c_LP_init l _ cA _ _ hI _ rfl (cellV xs L)) rfl rfl (Nat.le_of_ble_eq_true rfl) d_L_law_9 ⟨Nat.le_of_ble_eq_true rfl, Nat.le_of_ble_eq_true rfl⟩) M hA (fun ad2 H locs g2 M => ?_)
  have hI := gi_LP hI (cellV xs L)
  rw [← g2 0 (by omega)]
  refine lv_astore_n (lv' := [(1, .ref (ad2 0)), (0, .ref b)]) S.1 S.2.1 d_L_law_12 rfl hl (by decide) rfl (fun ls hl => ?_)
  refine m_new S M hI (tC_dy cA) hA ok_Mo rfl ks_218 kn_Mo ks_8 kd_Mo (Nat.le_of_ble_eq_true rfl) (Nat.le_of_ble_eq_true rfl) d_L_law_13 (fun q ad3 H g3 f M => ?_)
  subst f
  have hI := mI_up hI
  refine lv_dup S.1 S.2.1 d_L_law_16 rfl ?_
  refine lv_aload_n S.1 S.2.1 d_L_law_17 rfl (lv_at hl 1 rfl) ?_
  refine lv_iconst (v := 0) S.1 S.2.1 d_L_law_18 (by decide) ?_
  refine vp_callSi (va_Run.run (va_runS (As := [.ref b, .int 0]) (rest := [.ref (ad3 99), .ref (ad3 99)]) S (c_L_cell l b L xs (by omega)) (cwGS (n := 2) S.2.2.2.2 ks_211 ks_212 ks_213 ks_214 (by decide) ⟨Nat.le_of_ble_eq_true rfl, Nat.le_of_ble_eq_true rfl⟩) ⟨blC, fun U hU hW => ⟨rfl, by rw [hU]; exact Nat.lt_of_lt_of_le hbl M.2.2.2.1, by rw [hU]; exact va_X.moved hW.alike (hX.kept (M.2.2.2.2.1 b hbl hbA))⟩⟩ rfl rfl hl.1 rfl (lv_room (Nat.le_of_ble_eq_true rfl)) d_L_law_19 ⟨Nat.le_of_ble_eq_true rfl, Nat.le_of_ble_eq_true rfl⟩)) (fun r er => ?_)
  subst er
  refine m_xn (m_rI (As := [.int (cellV xs L)]) (rest := [.ref (ad3 99)]) S N M hl.1 (cwGI (n := 1) S.2.2.2.2 ks_219 ks_220 ks_8 ks_221 rfl (by decide) ⟨Nat.le_of_ble_eq_true rfl, Nat.le_of_ble_eq_true rfl⟩) (c_Mo_init l _ cA _ _ hI _ rfl (cellV xs L)) rfl rfl (Nat.le_of_ble_eq_true rfl) d_L_law_22 ⟨Nat.le_of_ble_eq_true rfl, Nat.le_of_ble_eq_true rfl⟩) M hA (fun ad4 H locs g4 M => ?_)
  rw [← g4 99 (by omega)]
  have e0 : ad2 0 = ad4 0 := ((g4 0 (by omega)).trans (g3 0 (by omega))).symm
  rw [e0] at hl
  refine lv_astore_n (lv' := [(2, .ref (ad4 99)), (1, .ref (ad4 0)), (0, .ref b)]) S.1 S.2.1 d_L_law_25 rfl hl (by decide) rfl (fun ls hl => ?_)
  refine lv_iconst (v := 1) S.1 S.2.1 d_L_law_26 (by decide) ?_
  refine lv_istore_n (lv' := [(3, .int 1), (2, .ref (ad4 99)), (1, .ref (ad4 0)), (0, .ref b)]) S.1 S.2.1 d_L_law_27 rfl hl (by decide) rfl (fun ls hl => ?_)
  obtain ⟨hK, hP, hD, hS⟩ := M
  have ew := wd_split cA ad4 (cellV xs L)
  have hP : va_P (dC, dI) clX (wd 122 (tbC cA) ad4 (initS (cellV xs L))) H := hP
  have hD : va_D (fun q : Nat => s.heap.size ≤ q) (wd 122 (tbC cA) ad4 (initS (cellV xs L))) := hD
  rw [ew] at hP hD
  exact law_loop l (dC, dI) cA ad4 (fun k => ad4 (99 + k)) ⟨Nat.le_of_ble_eq_true rfl, Nat.le_of_ble_eq_true rfl⟩ hL S hr hlocks hX hbl (L + 1) 1 _ _ (by omega) (pure_law xs L hL) ls H locs (lv_sub hl [0, 3, 2, 1] rfl) ⟨hK, hP, hD, hS⟩
