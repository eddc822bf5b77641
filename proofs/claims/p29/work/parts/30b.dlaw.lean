/-! decode rows of the law, as printed -/
theorem dL_first_129 : decode cL_first 129 = .ok (.lload 6, 2) := by decide +kernel
theorem dL_first_131 : decode cL_first 131 = .ok (.lstore 6, 2) := by decide +kernel
theorem dL_first_133 : decode cL_first 133 = .ok (.iinc 8 1, 3) := by decide +kernel
theorem dL_first_136 : decode cL_first 136 = .ok (.goto (-125), 3) := by decide +kernel
theorem dL_first_139 : decode cL_first 139 = .ok (.iload 5, 2) := by decide +kernel
theorem dL_first_141 : decode cL_first 141 = .ok (.ireturn, 1) := by decide +kernel
theorem dL_kept_0 : decode cL_kept 0 = .ok (.aload_n 3, 1) := by decide +kernel
theorem dL_kept_1 : decode cL_kept 1 = .ok (.iload 6, 2) := by decide +kernel
theorem dL_kept_3 : decode cL_kept 3 = .ok (.iaload, 1) := by decide +kernel
theorem dL_kept_4 : decode cL_kept 4 = .ok (.ifCond .ne 7, 3) := by decide +kernel
theorem dL_kept_7 : decode cL_kept 7 = .ok (.iconst (-1), 1) := by decide +kernel
theorem dL_kept_8 : decode cL_kept 8 = .ok (.goto 16, 3) := by decide +kernel
theorem dL_kept_11 : decode cL_kept 11 = .ok (.aload_n 0, 1) := by decide +kernel
theorem dL_kept_12 : decode cL_kept 12 = .ok (.aload_n 1, 1) := by decide +kernel
theorem dL_kept_13 : decode cL_kept 13 = .ok (.aload_n 2, 1) := by decide +kernel
theorem dL_kept_14 : decode cL_kept 14 = .ok (.aload 5, 2) := by decide +kernel
theorem dL_kept_16 : decode cL_kept 16 = .ok (.aload 4, 2) := by decide +kernel
theorem dL_kept_18 : decode cL_kept 18 = .ok (.iload 6, 2) := by decide +kernel
theorem dL_kept_20 : decode cL_kept 20 = .ok (.iaload, 1) := by decide +kernel
theorem dL_kept_21 : decode cL_kept 21 = .ok (.invokestatic 33, 3) := by decide +kernel
theorem dL_kept_24 : decode cL_kept 24 = .ok (.ireturn, 1) := by decide +kernel
theorem dL_lacks_0 : decode cL_lacks 0 = .ok (.aload_n 2, 1) := by decide +kernel
theorem dL_lacks_1 : decode cL_lacks 1 = .ok (.bipush 8, 2) := by decide +kernel
theorem dL_lacks_3 : decode cL_lacks 3 = .ok (.aload_n 3, 1) := by decide +kernel
theorem dL_lacks_4 : decode cL_lacks 4 = .ok (.iconst 2, 1) := by decide +kernel
theorem dL_lacks_5 : decode cL_lacks 5 = .ok (.iload 7, 2) := by decide +kernel
theorem dL_lacks_7 : decode cL_lacks 7 = .ok (.imul, 1) := by decide +kernel
theorem dL_lacks_8 : decode cL_lacks 8 = .ok (.iaload, 1) := by decide +kernel
theorem dL_lacks_9 : decode cL_lacks 9 = .ok (.imul, 1) := by decide +kernel
theorem dL_lacks_10 : decode cL_lacks 10 = .ok (.iload 8, 2) := by decide +kernel
theorem dL_lacks_12 : decode cL_lacks 12 = .ok (.iadd, 1) := by decide +kernel
theorem dL_lacks_13 : decode cL_lacks 13 = .ok (.iaload, 1) := by decide +kernel
theorem dL_lacks_14 : decode cL_lacks 14 = .ok (.istore 9, 2) := by decide +kernel
theorem dL_lacks_16 : decode cL_lacks 16 = .ok (.iload 8, 2) := by decide +kernel
theorem dL_lacks_18 : decode cL_lacks 18 = .ok (.istore 10, 2) := by decide +kernel
theorem dL_lacks_20 : decode cL_lacks 20 = .ok (.iload 10, 2) := by decide +kernel
theorem dL_lacks_22 : decode cL_lacks 22 = .ok (.bipush 40, 2) := by decide +kernel
theorem dL_lacks_24 : decode cL_lacks 24 = .ok (.if_icmp .ge 38, 3) := by decide +kernel
theorem dL_lacks_27 : decode cL_lacks 27 = .ok (.iload 9, 2) := by decide +kernel
theorem dL_lacks_29 : decode cL_lacks 29 = .ok (.aload_n 0, 1) := by decide +kernel
theorem dL_lacks_30 : decode cL_lacks 30 = .ok (.aload_n 1, 1) := by decide +kernel
theorem dL_lacks_31 : decode cL_lacks 31 = .ok (.aload_n 3, 1) := by decide +kernel
theorem dL_lacks_32 : decode cL_lacks 32 = .ok (.aload 4, 2) := by decide +kernel
theorem dL_lacks_34 : decode cL_lacks 34 = .ok (.aload 5, 2) := by decide +kernel
theorem dL_lacks_36 : decode cL_lacks 36 = .ok (.aload 6, 2) := by decide +kernel
theorem dL_lacks_38 : decode cL_lacks 38 = .ok (.iload 10, 2) := by decide +kernel
theorem dL_lacks_40 : decode cL_lacks 40 = .ok (.invokestatic 37, 3) := by decide +kernel
theorem dL_lacks_43 : decode cL_lacks 43 = .ok (.iload 7, 2) := by decide +kernel
theorem dL_lacks_45 : decode cL_lacks 45 = .ok (.if_icmp .ne 7, 3) := by decide +kernel
theorem dL_lacks_48 : decode cL_lacks 48 = .ok (.iconst 1, 1) := by decide +kernel
theorem dL_lacks_49 : decode cL_lacks 49 = .ok (.goto 4, 3) := by decide +kernel
theorem dL_lacks_52 : decode cL_lacks 52 = .ok (.iconst 0, 1) := by decide +kernel
theorem dL_lacks_53 : decode cL_lacks 53 = .ok (.isub, 1) := by decide +kernel
theorem dL_lacks_54 : decode cL_lacks 54 = .ok (.istore 9, 2) := by decide +kernel
theorem dL_lacks_56 : decode cL_lacks 56 = .ok (.iinc 10 8, 3) := by decide +kernel
theorem dL_lacks_59 : decode cL_lacks 59 = .ok (.goto (-39), 3) := by decide +kernel
theorem dL_lacks_62 : decode cL_lacks 62 = .ok (.iload 9, 2) := by decide +kernel
theorem dL_lacks_64 : decode cL_lacks 64 = .ok (.ifCond .le 18, 3) := by decide +kernel
theorem dL_lacks_67 : decode cL_lacks 67 = .ok (.aload 6, 2) := by decide +kernel
theorem dL_lacks_69 : decode cL_lacks 69 = .ok (.iload 7, 2) := by decide +kernel
theorem dL_lacks_71 : decode cL_lacks 71 = .ok (.invokestatic 29, 3) := by decide +kernel
theorem dL_lacks_74 : decode cL_lacks 74 = .ok (.ifCond .eq 8, 3) := by decide +kernel
theorem dL_lacks_77 : decode cL_lacks 77 = .ok (.iload 9, 2) := by decide +kernel
theorem dL_lacks_79 : decode cL_lacks 79 = .ok (.goto 4, 3) := by decide +kernel
theorem dL_lacks_82 : decode cL_lacks 82 = .ok (.iconst 0, 1) := by decide +kernel
theorem dL_lacks_83 : decode cL_lacks 83 = .ok (.ireturn, 1) := by decide +kernel
theorem dL_isDisliked_0 : decode cL_isDisliked 0 = .ok (.aload_n 0, 1) := by decide +kernel
theorem dL_isDisliked_1 : decode cL_isDisliked 1 = .ok (.aload_n 2, 1) := by decide +kernel
theorem dL_isDisliked_2 : decode cL_isDisliked 2 = .ok (.iload 4, 2) := by decide +kernel
theorem dL_isDisliked_4 : decode cL_isDisliked 4 = .ok (.invokestatic 15, 3) := by decide +kernel
theorem dL_isDisliked_7 : decode cL_isDisliked 7 = .ok (.istore 5, 2) := by decide +kernel
theorem dL_isDisliked_9 : decode cL_isDisliked 9 = .ok (.iconst 0, 1) := by decide +kernel
theorem dL_isDisliked_10 : decode cL_isDisliked 10 = .ok (.istore 6, 2) := by decide +kernel
theorem dL_isDisliked_12 : decode cL_isDisliked 12 = .ok (.iconst 0, 1) := by decide +kernel
theorem dL_isDisliked_13 : decode cL_isDisliked 13 = .ok (.istore 7, 2) := by decide +kernel
theorem dL_isDisliked_15 : decode cL_isDisliked 15 = .ok (.iload 7, 2) := by decide +kernel
theorem dL_isDisliked_17 : decode cL_isDisliked 17 = .ok (.bipush 8, 2) := by decide +kernel
theorem dL_isDisliked_19 : decode cL_isDisliked 19 = .ok (.if_icmp .ge 41, 3) := by decide +kernel
theorem dL_isDisliked_22 : decode cL_isDisliked 22 = .ok (.iload 6, 2) := by decide +kernel
theorem dL_isDisliked_24 : decode cL_isDisliked 24 = .ok (.iload 5, 2) := by decide +kernel
theorem dL_isDisliked_26 : decode cL_isDisliked 26 = .ok (.iload 7, 2) := by decide +kernel
theorem dL_isDisliked_28 : decode cL_isDisliked 28 = .ok (.ishr, 1) := by decide +kernel
theorem dL_isDisliked_29 : decode cL_isDisliked 29 = .ok (.iconst 1, 1) := by decide +kernel
theorem dL_isDisliked_30 : decode cL_isDisliked 30 = .ok (.iand, 1) := by decide +kernel
theorem dL_isDisliked_31 : decode cL_isDisliked 31 = .ok (.iconst 1, 1) := by decide +kernel
theorem dL_isDisliked_32 : decode cL_isDisliked 32 = .ok (.if_icmp .ne 18, 3) := by decide +kernel
theorem dL_isDisliked_35 : decode cL_isDisliked 35 = .ok (.aload_n 0, 1) := by decide +kernel
theorem dL_isDisliked_36 : decode cL_isDisliked 36 = .ok (.aload_n 2, 1) := by decide +kernel
theorem dL_isDisliked_37 : decode cL_isDisliked 37 = .ok (.iload 7, 2) := by decide +kernel
theorem dL_isDisliked_39 : decode cL_isDisliked 39 = .ok (.iaload, 1) := by decide +kernel
theorem dL_isDisliked_40 : decode cL_isDisliked 40 = .ok (.iconst 1, 1) := by decide +kernel
theorem dL_isDisliked_41 : decode cL_isDisliked 41 = .ok (.isub, 1) := by decide +kernel
theorem dL_isDisliked_42 : decode cL_isDisliked 42 = .ok (.iaload, 1) := by decide +kernel
theorem dL_isDisliked_43 : decode cL_isDisliked 43 = .ok (.sipush 10000, 3) := by decide +kernel
theorem dL_isDisliked_46 : decode cL_isDisliked 46 = .ok (.idiv, 1) := by decide +kernel
theorem dL_isDisliked_47 : decode cL_isDisliked 47 = .ok (.goto 4, 3) := by decide +kernel
theorem dL_isDisliked_50 : decode cL_isDisliked 50 = .ok (.iconst 0, 1) := by decide +kernel
theorem dL_isDisliked_51 : decode cL_isDisliked 51 = .ok (.ior, 1) := by decide +kernel
theorem dL_isDisliked_52 : decode cL_isDisliked 52 = .ok (.istore 6, 2) := by decide +kernel
theorem dL_isDisliked_54 : decode cL_isDisliked 54 = .ok (.iinc 7 1, 3) := by decide +kernel
theorem dL_isDisliked_57 : decode cL_isDisliked 57 = .ok (.goto (-42), 3) := by decide +kernel
theorem dL_isDisliked_60 : decode cL_isDisliked 60 = .ok (.iconst 0, 1) := by decide +kernel
theorem dL_isDisliked_61 : decode cL_isDisliked 61 = .ok (.istore 7, 2) := by decide +kernel
theorem dL_isDisliked_63 : decode cL_isDisliked 63 = .ok (.iconst 0, 1) := by decide +kernel
theorem dL_isDisliked_64 : decode cL_isDisliked 64 = .ok (.istore 8, 2) := by decide +kernel
theorem dL_isDisliked_66 : decode cL_isDisliked 66 = .ok (.iload 8, 2) := by decide +kernel
theorem dL_isDisliked_68 : decode cL_isDisliked 68 = .ok (.bipush 8, 2) := by decide +kernel
theorem dL_isDisliked_70 : decode cL_isDisliked 70 = .ok (.if_icmp .ge 44, 3) := by decide +kernel
theorem dL_isDisliked_73 : decode cL_isDisliked 73 = .ok (.iload 7, 2) := by decide +kernel
theorem dL_isDisliked_75 : decode cL_isDisliked 75 = .ok (.ifCond .ne 26, 3) := by decide +kernel
theorem dL_isDisliked_78 : decode cL_isDisliked 78 = .ok (.iload 6, 2) := by decide +kernel
theorem dL_isDisliked_80 : decode cL_isDisliked 80 = .ok (.iload 8, 2) := by decide +kernel
theorem dL_isDisliked_82 : decode cL_isDisliked 82 = .ok (.ishr, 1) := by decide +kernel
theorem dL_isDisliked_83 : decode cL_isDisliked 83 = .ok (.iconst 1, 1) := by decide +kernel
theorem dL_isDisliked_84 : decode cL_isDisliked 84 = .ok (.iand, 1) := by decide +kernel
theorem dL_isDisliked_85 : decode cL_isDisliked 85 = .ok (.iconst 1, 1) := by decide +kernel
theorem dL_isDisliked_86 : decode cL_isDisliked 86 = .ok (.if_icmp .ne 19, 3) := by decide +kernel
theorem dL_isDisliked_89 : decode cL_isDisliked 89 = .ok (.aload_n 1, 1) := by decide +kernel
theorem dL_isDisliked_90 : decode cL_isDisliked 90 = .ok (.bipush 8, 2) := by decide +kernel
theorem dL_isDisliked_92 : decode cL_isDisliked 92 = .ok (.iload_n 3, 1) := by decide +kernel
theorem dL_isDisliked_93 : decode cL_isDisliked 93 = .ok (.imul, 1) := by decide +kernel
theorem dL_isDisliked_94 : decode cL_isDisliked 94 = .ok (.iload 8, 2) := by decide +kernel
theorem dL_isDisliked_96 : decode cL_isDisliked 96 = .ok (.iadd, 1) := by decide +kernel
theorem dL_isDisliked_97 : decode cL_isDisliked 97 = .ok (.iaload, 1) := by decide +kernel
theorem dL_isDisliked_98 : decode cL_isDisliked 98 = .ok (.ifCond .le 7, 3) := by decide +kernel
theorem dL_isDisliked_101 : decode cL_isDisliked 101 = .ok (.iconst 1, 1) := by decide +kernel
theorem dL_isDisliked_102 : decode cL_isDisliked 102 = .ok (.goto 4, 3) := by decide +kernel
theorem dL_isDisliked_105 : decode cL_isDisliked 105 = .ok (.iconst 0, 1) := by decide +kernel
theorem dL_isDisliked_106 : decode cL_isDisliked 106 = .ok (.istore 7, 2) := by decide +kernel
theorem dL_isDisliked_108 : decode cL_isDisliked 108 = .ok (.iinc 8 1, 3) := by decide +kernel
theorem dL_isDisliked_111 : decode cL_isDisliked 111 = .ok (.goto (-45), 3) := by decide +kernel
theorem dL_isDisliked_114 : decode cL_isDisliked 114 = .ok (.iload 7, 2) := by decide +kernel
theorem dL_isDisliked_116 : decode cL_isDisliked 116 = .ok (.ireturn, 1) := by decide +kernel
theorem dL_claims_0 : decode cL_claims 0 = .ok (.iconst 0, 1) := by decide +kernel
theorem dL_claims_1 : decode cL_claims 1 = .ok (.istore 7, 2) := by decide +kernel
theorem dL_claims_3 : decode cL_claims 3 = .ok (.aload_n 0, 1) := by decide +kernel
theorem dL_claims_4 : decode cL_claims 4 = .ok (.aload_n 1, 1) := by decide +kernel
theorem dL_claims_5 : decode cL_claims 5 = .ok (.aload_n 2, 1) := by decide +kernel
theorem dL_claims_6 : decode cL_claims 6 = .ok (.aload_n 3, 1) := by decide +kernel
theorem dL_claims_7 : decode cL_claims 7 = .ok (.iload 5, 2) := by decide +kernel
theorem dL_claims_9 : decode cL_claims 9 = .ok (.iconst (-1), 1) := by decide +kernel
theorem dL_claims_10 : decode cL_claims 10 = .ok (.invokestatic 7, 3) := by decide +kernel
theorem dL_claims_13 : decode cL_claims 13 = .ok (.istore 8, 2) := by decide +kernel
theorem dL_claims_15 : decode cL_claims 15 = .ok (.iload 8, 2) := by decide +kernel
theorem dL_claims_17 : decode cL_claims 17 = .ok (.ifCond .lt 88, 3) := by decide +kernel
theorem dL_claims_20 : decode cL_claims 20 = .ok (.iconst 1, 1) := by decide +kernel
theorem dL_claims_21 : decode cL_claims 21 = .ok (.aload_n 1, 1) := by decide +kernel
theorem dL_claims_22 : decode cL_claims 22 = .ok (.iload 8, 2) := by decide +kernel
theorem dL_claims_24 : decode cL_claims 24 = .ok (.iaload, 1) := by decide +kernel
theorem dL_claims_25 : decode cL_claims 25 = .ok (.bipush 8, 2) := by decide +kernel
theorem dL_claims_27 : decode cL_claims 27 = .ok (.idiv, 1) := by decide +kernel
theorem dL_claims_28 : decode cL_claims 28 = .ok (.bipush 8, 2) := by decide +kernel
theorem dL_claims_30 : decode cL_claims 30 = .ok (.irem, 1) := by decide +kernel
theorem dL_claims_31 : decode cL_claims 31 = .ok (.ishl, 1) := by decide +kernel
theorem dL_claims_32 : decode cL_claims 32 = .ok (.istore 9, 2) := by decide +kernel
theorem dL_claims_34 : decode cL_claims 34 = .ok (.aload_n 1, 1) := by decide +kernel
theorem dL_claims_35 : decode cL_claims 35 = .ok (.iload 8, 2) := by decide +kernel
theorem dL_claims_37 : decode cL_claims 37 = .ok (.iaload, 1) := by decide +kernel
theorem dL_claims_38 : decode cL_claims 38 = .ok (.bipush 8, 2) := by decide +kernel
theorem dL_claims_40 : decode cL_claims 40 = .ok (.irem, 1) := by decide +kernel
theorem dL_claims_41 : decode cL_claims 41 = .ok (.iconst 1, 1) := by decide +kernel
theorem dL_claims_42 : decode cL_claims 42 = .ok (.if_icmp .gt 15, 3) := by decide +kernel
theorem dL_claims_45 : decode cL_claims 45 = .ok (.aload_n 1, 1) := by decide +kernel
theorem dL_claims_46 : decode cL_claims 46 = .ok (.iload 8, 2) := by decide +kernel
theorem dL_claims_48 : decode cL_claims 48 = .ok (.iaload, 1) := by decide +kernel
theorem dL_claims_49 : decode cL_claims 49 = .ok (.bipush 64, 2) := by decide +kernel
theorem dL_claims_51 : decode cL_claims 51 = .ok (.idiv, 1) := by decide +kernel
theorem dL_claims_52 : decode cL_claims 52 = .ok (.iload 6, 2) := by decide +kernel
theorem dL_claims_54 : decode cL_claims 54 = .ok (.if_icmp .eq 8, 3) := by decide +kernel
theorem dL_claims_57 : decode cL_claims 57 = .ok (.iload 7, 2) := by decide +kernel
theorem dL_claims_59 : decode cL_claims 59 = .ok (.goto 28, 3) := by decide +kernel
theorem dL_claims_62 : decode cL_claims 62 = .ok (.aload_n 1, 1) := by decide +kernel
theorem dL_claims_63 : decode cL_claims 63 = .ok (.iload 8, 2) := by decide +kernel
theorem dL_claims_65 : decode cL_claims 65 = .ok (.iaload, 1) := by decide +kernel
theorem dL_claims_66 : decode cL_claims 66 = .ok (.bipush 8, 2) := by decide +kernel
theorem dL_claims_68 : decode cL_claims 68 = .ok (.irem, 1) := by decide +kernel
theorem dL_claims_69 : decode cL_claims 69 = .ok (.ifCond .ne 11, 3) := by decide +kernel
theorem dL_claims_72 : decode cL_claims 72 = .ok (.iload 7, 2) := by decide +kernel
theorem dL_claims_74 : decode cL_claims 74 = .ok (.iload 9, 2) := by decide +kernel
theorem dL_claims_76 : decode cL_claims 76 = .ok (.ior, 1) := by decide +kernel
theorem dL_claims_77 : decode cL_claims 77 = .ok (.goto 10, 3) := by decide +kernel
theorem dL_claims_80 : decode cL_claims 80 = .ok (.iload 7, 2) := by decide +kernel
theorem dL_claims_82 : decode cL_claims 82 = .ok (.iload 9, 2) := by decide +kernel
theorem dL_claims_84 : decode cL_claims 84 = .ok (.iconst (-1), 1) := by decide +kernel
theorem dL_claims_85 : decode cL_claims 85 = .ok (.ixor, 1) := by decide +kernel
theorem dL_claims_86 : decode cL_claims 86 = .ok (.iand, 1) := by decide +kernel
theorem dL_claims_87 : decode cL_claims 87 = .ok (.istore 7, 2) := by decide +kernel
theorem dL_claims_89 : decode cL_claims 89 = .ok (.aload_n 0, 1) := by decide +kernel
theorem dL_claims_90 : decode cL_claims 90 = .ok (.aload_n 1, 1) := by decide +kernel
theorem dL_claims_91 : decode cL_claims 91 = .ok (.aload_n 2, 1) := by decide +kernel
theorem dL_claims_92 : decode cL_claims 92 = .ok (.aload_n 3, 1) := by decide +kernel
theorem dL_claims_93 : decode cL_claims 93 = .ok (.iload 5, 2) := by decide +kernel
theorem dL_claims_95 : decode cL_claims 95 = .ok (.iload 8, 2) := by decide +kernel
theorem dL_claims_97 : decode cL_claims 97 = .ok (.invokestatic 7, 3) := by decide +kernel
theorem dL_claims_100 : decode cL_claims 100 = .ok (.istore 8, 2) := by decide +kernel
theorem dL_claims_102 : decode cL_claims 102 = .ok (.goto (-87), 3) := by decide +kernel
theorem dL_claims_105 : decode cL_claims 105 = .ok (.aload 4, 2) := by decide +kernel
theorem dL_claims_107 : decode cL_claims 107 = .ok (.iload 6, 2) := by decide +kernel
theorem dL_claims_109 : decode cL_claims 109 = .ok (.iaload, 1) := by decide +kernel
theorem dL_claims_110 : decode cL_claims 110 = .ok (.ifCond .ne 8, 3) := by decide +kernel
theorem dL_claims_113 : decode cL_claims 113 = .ok (.iload 7, 2) := by decide +kernel
theorem dL_claims_115 : decode cL_claims 115 = .ok (.goto 17, 3) := by decide +kernel
theorem dL_claims_118 : decode cL_claims 118 = .ok (.iload 7, 2) := by decide +kernel
theorem dL_claims_120 : decode cL_claims 120 = .ok (.iconst 1, 1) := by decide +kernel
theorem dL_claims_121 : decode cL_claims 121 = .ok (.aload 4, 2) := by decide +kernel
theorem dL_claims_123 : decode cL_claims 123 = .ok (.iload 6, 2) := by decide +kernel
theorem dL_claims_125 : decode cL_claims 125 = .ok (.iaload, 1) := by decide +kernel
theorem dL_claims_126 : decode cL_claims 126 = .ok (.iconst 1, 1) := by decide +kernel
theorem dL_claims_127 : decode cL_claims 127 = .ok (.isub, 1) := by decide +kernel
theorem dL_claims_128 : decode cL_claims 128 = .ok (.ishl, 1) := by decide +kernel
theorem dL_claims_129 : decode cL_claims 129 = .ok (.iconst (-1), 1) := by decide +kernel
theorem dL_claims_130 : decode cL_claims 130 = .ok (.ixor, 1) := by decide +kernel
theorem dL_claims_131 : decode cL_claims 131 = .ok (.iand, 1) := by decide +kernel
theorem dL_claims_132 : decode cL_claims 132 = .ok (.ireturn, 1) := by decide +kernel
theorem dL_writes_0 : decode cL_writes 0 = .ok (.aload 5, 2) := by decide +kernel
theorem dL_writes_2 : decode cL_writes 2 = .ok (.iload 6, 2) := by decide +kernel
theorem dL_writes_4 : decode cL_writes 4 = .ok (.dup2, 1) := by decide +kernel
theorem dL_writes_5 : decode cL_writes 5 = .ok (.iaload, 1) := by decide +kernel
theorem dL_writes_6 : decode cL_writes 6 = .ok (.iconst 1, 1) := by decide +kernel
theorem dL_writes_7 : decode cL_writes 7 = .ok (.iadd, 1) := by decide +kernel
theorem dL_writes_8 : decode cL_writes 8 = .ok (.iastore, 1) := by decide +kernel
theorem dL_writes_9 : decode cL_writes 9 = .ok (.aload_n 1, 1) := by decide +kernel
theorem dL_writes_10 : decode cL_writes 10 = .ok (.aload_n 0, 1) := by decide +kernel
theorem dL_writes_11 : decode cL_writes 11 = .ok (.iconst 0, 1) := by decide +kernel
theorem dL_writes_12 : decode cL_writes 12 = .ok (.iaload, 1) := by decide +kernel
theorem dL_writes_13 : decode cL_writes 13 = .ok (.iload 7, 2) := by decide +kernel
theorem dL_writes_15 : decode cL_writes 15 = .ok (.bipush 8, 2) := by decide +kernel
theorem dL_writes_17 : decode cL_writes 17 = .ok (.iload 6, 2) := by decide +kernel
theorem dL_writes_19 : decode cL_writes 19 = .ok (.imul, 1) := by decide +kernel
theorem dL_writes_20 : decode cL_writes 20 = .ok (.iadd, 1) := by decide +kernel
theorem dL_writes_21 : decode cL_writes 21 = .ok (.bipush 64, 2) := by decide +kernel
theorem dL_writes_23 : decode cL_writes 23 = .ok (.iload 8, 2) := by decide +kernel
theorem dL_writes_25 : decode cL_writes 25 = .ok (.imul, 1) := by decide +kernel
theorem dL_writes_26 : decode cL_writes 26 = .ok (.iadd, 1) := by decide +kernel
theorem dL_writes_27 : decode cL_writes 27 = .ok (.iastore, 1) := by decide +kernel
theorem dL_writes_28 : decode cL_writes 28 = .ok (.aload_n 2, 1) := by decide +kernel
theorem dL_writes_29 : decode cL_writes 29 = .ok (.aload_n 0, 1) := by decide +kernel
theorem dL_writes_30 : decode cL_writes 30 = .ok (.iconst 0, 1) := by decide +kernel
theorem dL_writes_31 : decode cL_writes 31 = .ok (.iaload, 1) := by decide +kernel
theorem dL_writes_32 : decode cL_writes 32 = .ok (.aload 5, 2) := by decide +kernel
theorem dL_writes_34 : decode cL_writes 34 = .ok (.iload 6, 2) := by decide +kernel
theorem dL_writes_36 : decode cL_writes 36 = .ok (.iaload, 1) := by decide +kernel
theorem dL_writes_37 : decode cL_writes 37 = .ok (.iastore, 1) := by decide +kernel
theorem dL_writes_38 : decode cL_writes 38 = .ok (.aload_n 3, 1) := by decide +kernel
theorem dL_writes_39 : decode cL_writes 39 = .ok (.aload_n 0, 1) := by decide +kernel
theorem dL_writes_40 : decode cL_writes 40 = .ok (.iconst 0, 1) := by decide +kernel
theorem dL_writes_41 : decode cL_writes 41 = .ok (.iaload, 1) := by decide +kernel
theorem dL_writes_42 : decode cL_writes 42 = .ok (.iconst 1, 1) := by decide +kernel
theorem dL_writes_43 : decode cL_writes 43 = .ok (.iload 6, 2) := by decide +kernel
theorem dL_writes_45 : decode cL_writes 45 = .ok (.ishl, 1) := by decide +kernel
theorem dL_writes_46 : decode cL_writes 46 = .ok (.iastore, 1) := by decide +kernel
theorem dL_writes_47 : decode cL_writes 47 = .ok (.aload 4, 2) := by decide +kernel
theorem dL_writes_49 : decode cL_writes 49 = .ok (.aload_n 0, 1) := by decide +kernel
theorem dL_writes_50 : decode cL_writes 50 = .ok (.iconst 0, 1) := by decide +kernel
theorem dL_writes_51 : decode cL_writes 51 = .ok (.iaload, 1) := by decide +kernel
theorem dL_writes_52 : decode cL_writes 52 = .ok (.iload 9, 2) := by decide +kernel
theorem dL_writes_54 : decode cL_writes 54 = .ok (.iastore, 1) := by decide +kernel
theorem dL_writes_55 : decode cL_writes 55 = .ok (.aload_n 0, 1) := by decide +kernel
theorem dL_writes_56 : decode cL_writes 56 = .ok (.iconst 0, 1) := by decide +kernel
theorem dL_writes_57 : decode cL_writes 57 = .ok (.dup2, 1) := by decide +kernel
theorem dL_writes_58 : decode cL_writes 58 = .ok (.iaload, 1) := by decide +kernel
theorem dL_writes_59 : decode cL_writes 59 = .ok (.iconst 1, 1) := by decide +kernel
theorem dL_writes_60 : decode cL_writes 60 = .ok (.iadd, 1) := by decide +kernel
theorem dL_writes_61 : decode cL_writes 61 = .ok (.iastore, 1) := by decide +kernel
theorem dL_writes_62 : decode cL_writes 62 = .ok (.return_, 1) := by decide +kernel
theorem dL_does_0 : decode cL_does 0 = .ok (.iload_n 1, 1) := by decide +kernel
theorem dL_does_1 : decode cL_does 1 = .ok (.ifCond .ne 12, 3) := by decide +kernel
theorem dL_does_4 : decode cL_does 4 = .ok (.aload_n 0, 1) := by decide +kernel
theorem dL_does_5 : decode cL_does 5 = .ok (.iload_n 2, 1) := by decide +kernel
theorem dL_does_6 : decode cL_does 6 = .ok (.iload_n 3, 1) := by decide +kernel
theorem dL_does_7 : decode cL_does 7 = .ok (.invokevirtual 41, 3) := by decide +kernel
theorem dL_does_10 : decode cL_does 10 = .ok (.goto 81, 3) := by decide +kernel
theorem dL_does_13 : decode cL_does 13 = .ok (.iload_n 1, 1) := by decide +kernel
theorem dL_does_14 : decode cL_does 14 = .ok (.iconst 1, 1) := by decide +kernel
theorem dL_does_15 : decode cL_does 15 = .ok (.if_icmp .ne 12, 3) := by decide +kernel
theorem dL_does_18 : decode cL_does 18 = .ok (.aload_n 0, 1) := by decide +kernel
theorem dL_does_19 : decode cL_does 19 = .ok (.iload_n 2, 1) := by decide +kernel
theorem dL_does_20 : decode cL_does 20 = .ok (.iload_n 3, 1) := by decide +kernel
theorem dL_does_21 : decode cL_does 21 = .ok (.invokevirtual 47, 3) := by decide +kernel
theorem dL_does_24 : decode cL_does 24 = .ok (.goto 67, 3) := by decide +kernel
theorem dL_does_27 : decode cL_does 27 = .ok (.iload_n 1, 1) := by decide +kernel
theorem dL_does_28 : decode cL_does 28 = .ok (.iconst 2, 1) := by decide +kernel
theorem dL_does_29 : decode cL_does 29 = .ok (.if_icmp .ne 12, 3) := by decide +kernel
theorem dL_does_32 : decode cL_does 32 = .ok (.aload_n 0, 1) := by decide +kernel
theorem dL_does_33 : decode cL_does 33 = .ok (.iload_n 2, 1) := by decide +kernel
theorem dL_does_34 : decode cL_does 34 = .ok (.iload_n 3, 1) := by decide +kernel
theorem dL_does_35 : decode cL_does 35 = .ok (.invokevirtual 50, 3) := by decide +kernel
theorem dL_does_38 : decode cL_does 38 = .ok (.goto 53, 3) := by decide +kernel
theorem dL_does_41 : decode cL_does 41 = .ok (.iload_n 1, 1) := by decide +kernel
theorem dL_does_42 : decode cL_does 42 = .ok (.iconst 3, 1) := by decide +kernel
theorem dL_does_43 : decode cL_does 43 = .ok (.if_icmp .ne 14, 3) := by decide +kernel
theorem dL_does_46 : decode cL_does 46 = .ok (.aload_n 0, 1) := by decide +kernel
theorem dL_does_47 : decode cL_does 47 = .ok (.iload_n 2, 1) := by decide +kernel
theorem dL_does_48 : decode cL_does 48 = .ok (.iload_n 3, 1) := by decide +kernel
theorem dL_does_49 : decode cL_does 49 = .ok (.iload 4, 2) := by decide +kernel
theorem dL_does_51 : decode cL_does 51 = .ok (.invokevirtual 53, 3) := by decide +kernel
theorem dL_does_54 : decode cL_does 54 = .ok (.goto 37, 3) := by decide +kernel
theorem dL_does_57 : decode cL_does 57 = .ok (.iload_n 1, 1) := by decide +kernel
theorem dL_does_58 : decode cL_does 58 = .ok (.iconst 4, 1) := by decide +kernel
theorem dL_does_59 : decode cL_does 59 = .ok (.if_icmp .ne 12, 3) := by decide +kernel
theorem dL_does_62 : decode cL_does 62 = .ok (.aload_n 0, 1) := by decide +kernel
theorem dL_does_63 : decode cL_does 63 = .ok (.iload_n 2, 1) := by decide +kernel
theorem dL_does_64 : decode cL_does 64 = .ok (.iload_n 3, 1) := by decide +kernel
theorem dL_does_65 : decode cL_does 65 = .ok (.invokevirtual 57, 3) := by decide +kernel
theorem dL_does_68 : decode cL_does 68 = .ok (.goto 23, 3) := by decide +kernel
theorem dL_does_71 : decode cL_does 71 = .ok (.iload_n 1, 1) := by decide +kernel
theorem dL_does_72 : decode cL_does 72 = .ok (.iconst 5, 1) := by decide +kernel
theorem dL_does_73 : decode cL_does 73 = .ok (.if_icmp .ne 12, 3) := by decide +kernel
theorem dL_does_76 : decode cL_does 76 = .ok (.aload_n 0, 1) := by decide +kernel
theorem dL_does_77 : decode cL_does 77 = .ok (.iload_n 2, 1) := by decide +kernel
theorem dL_does_78 : decode cL_does 78 = .ok (.iload_n 3, 1) := by decide +kernel
theorem dL_does_79 : decode cL_does 79 = .ok (.invokevirtual 60, 3) := by decide +kernel
theorem dL_does_82 : decode cL_does 82 = .ok (.goto 9, 3) := by decide +kernel
theorem dL_does_85 : decode cL_does 85 = .ok (.aload_n 0, 1) := by decide +kernel
theorem dL_does_86 : decode cL_does 86 = .ok (.iload_n 2, 1) := by decide +kernel
theorem dL_does_87 : decode cL_does 87 = .ok (.iload_n 3, 1) := by decide +kernel
theorem dL_does_88 : decode cL_does 88 = .ok (.invokevirtual 63, 3) := by decide +kernel
theorem dL_does_91 : decode cL_does 91 = .ok (.ireturn, 1) := by decide +kernel
theorem dL_does_92 : decode cL_does 92 = .ok (.astore 5, 2) := by decide +kernel
theorem dL_does_94 : decode cL_does 94 = .ok (.bipush (-11), 2) := by decide +kernel
theorem dL_does_96 : decode cL_does 96 = .ok (.ireturn, 1) := by decide +kernel
theorem dL_does_97 : decode cL_does 97 = .ok (.astore 5, 2) := by decide +kernel
theorem dL_does_99 : decode cL_does 99 = .ok (.bipush (-12), 2) := by decide +kernel
theorem dL_does_101 : decode cL_does 101 = .ok (.ireturn, 1) := by decide +kernel
theorem dL_does_102 : decode cL_does 102 = .ok (.astore 5, 2) := by decide +kernel
theorem dL_does_104 : decode cL_does 104 = .ok (.bipush (-13), 2) := by decide +kernel
theorem dL_does_106 : decode cL_does 106 = .ok (.ireturn, 1) := by decide +kernel
