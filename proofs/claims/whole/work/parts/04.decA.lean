theorem dNr_init_0 : decode cNr_init 0 = .ok (.aload_n 0, 1) := by decide +kernel
theorem dNr_init_1 : decode cNr_init 1 = .ok (.invokespecial 3, 3) := by decide +kernel
theorem dNr_init_4 : decode cNr_init 4 = .ok (.aload_n 0, 1) := by decide +kernel
theorem dNr_init_5 : decode cNr_init 5 = .ok (.iconst 4, 1) := by decide +kernel
theorem dNr_init_6 : decode cNr_init 6 = .ok (.anewarray 9, 3) := by decide +kernel
theorem dNr_init_9 : decode cNr_init 9 = .ok (.putfield 11, 3) := by decide +kernel
theorem dNr_init_12 : decode cNr_init 12 = .ok (.iconst 0, 1) := by decide +kernel
theorem dNr_init_13 : decode cNr_init 13 = .ok (.istore_n 1, 1) := by decide +kernel
theorem dNr_init_14 : decode cNr_init 14 = .ok (.iload_n 1, 1) := by decide +kernel
theorem dNr_init_15 : decode cNr_init 15 = .ok (.iconst 4, 1) := by decide +kernel
theorem dNr_init_16 : decode cNr_init 16 = .ok (.if_icmp .ge 22, 3) := by decide +kernel
theorem dNr_init_19 : decode cNr_init 19 = .ok (.aload_n 0, 1) := by decide +kernel
theorem dNr_init_20 : decode cNr_init 20 = .ok (.getfield 11, 3) := by decide +kernel
theorem dNr_init_23 : decode cNr_init 23 = .ok (.iload_n 1, 1) := by decide +kernel
theorem dNr_init_24 : decode cNr_init 24 = .ok (.new 9, 3) := by decide +kernel
theorem dNr_init_27 : decode cNr_init 27 = .ok (.dup, 1) := by decide +kernel
theorem dNr_init_28 : decode cNr_init 28 = .ok (.invokespecial 15, 3) := by decide +kernel
theorem dNr_init_31 : decode cNr_init 31 = .ok (.aastore, 1) := by decide +kernel
theorem dNr_init_32 : decode cNr_init 32 = .ok (.iinc 1 1, 3) := by decide +kernel
theorem dNr_init_35 : decode cNr_init 35 = .ok (.goto (-21), 3) := by decide +kernel
theorem dNr_init_38 : decode cNr_init 38 = .ok (.aload_n 0, 1) := by decide +kernel
theorem dNr_init_39 : decode cNr_init 39 = .ok (.bipush 16, 2) := by decide +kernel
theorem dNr_init_41 : decode cNr_init 41 = .ok (.newarray .int, 2) := by decide +kernel
theorem dNr_init_43 : decode cNr_init 43 = .ok (.putfield 16, 3) := by decide +kernel
theorem dNr_init_46 : decode cNr_init 46 = .ok (.aload_n 0, 1) := by decide +kernel
theorem dNr_init_47 : decode cNr_init 47 = .ok (.sipush 512, 3) := by decide +kernel
theorem dNr_init_50 : decode cNr_init 50 = .ok (.newarray .int, 2) := by decide +kernel
theorem dNr_init_52 : decode cNr_init 52 = .ok (.putfield 20, 3) := by decide +kernel
theorem dNr_init_55 : decode cNr_init 55 = .ok (.aload_n 0, 1) := by decide +kernel
theorem dNr_init_56 : decode cNr_init 56 = .ok (.sipush 2433, 3) := by decide +kernel
theorem dNr_init_59 : decode cNr_init 59 = .ok (.newarray .int, 2) := by decide +kernel
theorem dNr_init_61 : decode cNr_init 61 = .ok (.putfield 23, 3) := by decide +kernel
theorem dNr_init_64 : decode cNr_init 64 = .ok (.aload_n 0, 1) := by decide +kernel
theorem dNr_init_65 : decode cNr_init 65 = .ok (.iconst 3, 1) := by decide +kernel
theorem dNr_init_66 : decode cNr_init 66 = .ok (.putfield 26, 3) := by decide +kernel
theorem dNr_init_69 : decode cNr_init 69 = .ok (.aload_n 0, 1) := by decide +kernel
theorem dNr_init_70 : decode cNr_init 70 = .ok (.sipush 256, 3) := by decide +kernel
theorem dNr_init_73 : decode cNr_init 73 = .ok (.bipush 64, 2) := by decide +kernel
theorem dNr_init_75 : decode cNr_init 75 = .ok (.sipush 2048, 3) := by decide +kernel
theorem dNr_init_78 : decode cNr_init 78 = .ok (.invokevirtual 30, 3) := by decide +kernel
theorem dNr_init_81 : decode cNr_init 81 = .ok (.return_, 1) := by decide +kernel
theorem dPt_init_0 : decode cPt_init 0 = .ok (.aload_n 0, 1) := by decide +kernel
theorem dPt_init_1 : decode cPt_init 1 = .ok (.invokespecial 1, 3) := by decide +kernel
theorem dPt_init_4 : decode cPt_init 4 = .ok (.return_, 1) := by decide +kernel
theorem dNr_layParts_0 : decode cNr_layParts 0 = .ok (.aload_n 0, 1) := by decide +kernel
theorem dNr_layParts_1 : decode cNr_layParts 1 = .ok (.getfield 11, 3) := by decide +kernel
theorem dNr_layParts_4 : decode cNr_layParts 4 = .ok (.iconst 0, 1) := by decide +kernel
theorem dNr_layParts_5 : decode cNr_layParts 5 = .ok (.aaload, 1) := by decide +kernel
theorem dNr_layParts_6 : decode cNr_layParts 6 = .ok (.iconst 1, 1) := by decide +kernel
theorem dNr_layParts_7 : decode cNr_layParts 7 = .ok (.iload_n 1, 1) := by decide +kernel
theorem dNr_layParts_8 : decode cNr_layParts 8 = .ok (.invokevirtual 158, 3) := by decide +kernel
theorem dNr_layParts_11 : decode cNr_layParts 11 = .ok (.aload_n 0, 1) := by decide +kernel
theorem dNr_layParts_12 : decode cNr_layParts 12 = .ok (.getfield 11, 3) := by decide +kernel
theorem dNr_layParts_15 : decode cNr_layParts 15 = .ok (.iconst 1, 1) := by decide +kernel
theorem dNr_layParts_16 : decode cNr_layParts 16 = .ok (.aaload, 1) := by decide +kernel
theorem dNr_layParts_17 : decode cNr_layParts 17 = .ok (.iconst 1, 1) := by decide +kernel
theorem dNr_layParts_18 : decode cNr_layParts 18 = .ok (.iload_n 1, 1) := by decide +kernel
theorem dNr_layParts_19 : decode cNr_layParts 19 = .ok (.iadd, 1) := by decide +kernel
theorem dNr_layParts_20 : decode cNr_layParts 20 = .ok (.iload_n 2, 1) := by decide +kernel
theorem dNr_layParts_21 : decode cNr_layParts 21 = .ok (.invokevirtual 158, 3) := by decide +kernel
theorem dNr_layParts_24 : decode cNr_layParts 24 = .ok (.aload_n 0, 1) := by decide +kernel
theorem dNr_layParts_25 : decode cNr_layParts 25 = .ok (.getfield 11, 3) := by decide +kernel
theorem dNr_layParts_28 : decode cNr_layParts 28 = .ok (.iconst 2, 1) := by decide +kernel
theorem dNr_layParts_29 : decode cNr_layParts 29 = .ok (.aaload, 1) := by decide +kernel
theorem dNr_layParts_30 : decode cNr_layParts 30 = .ok (.iconst 1, 1) := by decide +kernel
theorem dNr_layParts_31 : decode cNr_layParts 31 = .ok (.iload_n 1, 1) := by decide +kernel
theorem dNr_layParts_32 : decode cNr_layParts 32 = .ok (.iadd, 1) := by decide +kernel
theorem dNr_layParts_33 : decode cNr_layParts 33 = .ok (.iload_n 2, 1) := by decide +kernel
theorem dNr_layParts_34 : decode cNr_layParts 34 = .ok (.iadd, 1) := by decide +kernel
theorem dNr_layParts_35 : decode cNr_layParts 35 = .ok (.iload_n 2, 1) := by decide +kernel
theorem dNr_layParts_36 : decode cNr_layParts 36 = .ok (.invokevirtual 158, 3) := by decide +kernel
theorem dNr_layParts_39 : decode cNr_layParts 39 = .ok (.aload_n 0, 1) := by decide +kernel
theorem dNr_layParts_40 : decode cNr_layParts 40 = .ok (.getfield 11, 3) := by decide +kernel
theorem dNr_layParts_43 : decode cNr_layParts 43 = .ok (.iconst 3, 1) := by decide +kernel
theorem dNr_layParts_44 : decode cNr_layParts 44 = .ok (.aaload, 1) := by decide +kernel
theorem dNr_layParts_45 : decode cNr_layParts 45 = .ok (.iconst 1, 1) := by decide +kernel
theorem dNr_layParts_46 : decode cNr_layParts 46 = .ok (.iload_n 1, 1) := by decide +kernel
theorem dNr_layParts_47 : decode cNr_layParts 47 = .ok (.iadd, 1) := by decide +kernel
theorem dNr_layParts_48 : decode cNr_layParts 48 = .ok (.iconst 2, 1) := by decide +kernel
theorem dNr_layParts_49 : decode cNr_layParts 49 = .ok (.iload_n 2, 1) := by decide +kernel
theorem dNr_layParts_50 : decode cNr_layParts 50 = .ok (.imul, 1) := by decide +kernel
theorem dNr_layParts_51 : decode cNr_layParts 51 = .ok (.iadd, 1) := by decide +kernel
theorem dNr_layParts_52 : decode cNr_layParts 52 = .ok (.iload_n 3, 1) := by decide +kernel
theorem dNr_layParts_53 : decode cNr_layParts 53 = .ok (.invokevirtual 158, 3) := by decide +kernel
theorem dNr_layParts_56 : decode cNr_layParts 56 = .ok (.return_, 1) := by decide +kernel
theorem dPt_lay_0 : decode cPt_lay 0 = .ok (.aload_n 0, 1) := by decide +kernel
theorem dPt_lay_1 : decode cPt_lay 1 = .ok (.iload_n 1, 1) := by decide +kernel
theorem dPt_lay_2 : decode cPt_lay 2 = .ok (.putfield 7, 3) := by decide +kernel
theorem dPt_lay_5 : decode cPt_lay 5 = .ok (.aload_n 0, 1) := by decide +kernel
theorem dPt_lay_6 : decode cPt_lay 6 = .ok (.iload_n 2, 1) := by decide +kernel
theorem dPt_lay_7 : decode cPt_lay 7 = .ok (.putfield 13, 3) := by decide +kernel
theorem dPt_lay_10 : decode cPt_lay 10 = .ok (.aload_n 0, 1) := by decide +kernel
theorem dPt_lay_11 : decode cPt_lay 11 = .ok (.invokevirtual 16, 3) := by decide +kernel
theorem dPt_lay_14 : decode cPt_lay 14 = .ok (.return_, 1) := by decide +kernel
theorem dPt_empty_0 : decode cPt_empty 0 = .ok (.aload_n 0, 1) := by decide +kernel
theorem dPt_empty_1 : decode cPt_empty 1 = .ok (.iconst 0, 1) := by decide +kernel
theorem dPt_empty_2 : decode cPt_empty 2 = .ok (.putfield 19, 3) := by decide +kernel
theorem dPt_empty_5 : decode cPt_empty 5 = .ok (.aload_n 0, 1) := by decide +kernel
theorem dPt_empty_6 : decode cPt_empty 6 = .ok (.iconst 0, 1) := by decide +kernel
theorem dPt_empty_7 : decode cPt_empty 7 = .ok (.putfield 22, 3) := by decide +kernel
theorem dPt_empty_10 : decode cPt_empty 10 = .ok (.return_, 1) := by decide +kernel
theorem dNr_space_0 : decode cNr_space 0 = .ok (.iload_n 1, 1) := by decide +kernel
theorem dNr_space_1 : decode cNr_space 1 = .ok (.bipush 16, 2) := by decide +kernel
theorem dNr_space_3 : decode cNr_space 3 = .ok (.sipush 1024, 3) := by decide +kernel
theorem dNr_space_6 : decode cNr_space 6 = .ok (.invokestatic 34, 3) := by decide +kernel
theorem dNr_space_9 : decode cNr_space 9 = .ok (.ifCond .eq 26, 3) := by decide +kernel
theorem dNr_space_12 : decode cNr_space 12 = .ok (.iload_n 2, 1) := by decide +kernel
theorem dNr_space_13 : decode cNr_space 13 = .ok (.iconst 0, 1) := by decide +kernel
theorem dNr_space_14 : decode cNr_space 14 = .ok (.sipush 512, 3) := by decide +kernel
theorem dNr_space_17 : decode cNr_space 17 = .ok (.invokestatic 34, 3) := by decide +kernel
theorem dNr_space_20 : decode cNr_space 20 = .ok (.ifCond .eq 15, 3) := by decide +kernel
theorem dNr_space_23 : decode cNr_space 23 = .ok (.iload_n 3, 1) := by decide +kernel
theorem dNr_space_24 : decode cNr_space 24 = .ok (.bipush 64, 2) := by decide +kernel
theorem dNr_space_26 : decode cNr_space 26 = .ok (.sipush 8192, 3) := by decide +kernel
theorem dNr_space_29 : decode cNr_space 29 = .ok (.invokestatic 34, 3) := by decide +kernel
theorem dNr_space_32 : decode cNr_space 32 = .ok (.ifCond .ne 13, 3) := by decide +kernel
theorem dNr_space_35 : decode cNr_space 35 = .ok (.new 38, 3) := by decide +kernel
theorem dNr_space_38 : decode cNr_space 38 = .ok (.dup, 1) := by decide +kernel
theorem dNr_space_39 : decode cNr_space 39 = .ok (.ldc 40, 2) := by decide +kernel
theorem dNr_space_41 : decode cNr_space 41 = .ok (.invokespecial 42, 3) := by decide +kernel
theorem dNr_space_44 : decode cNr_space 44 = .ok (.athrow, 1) := by decide +kernel
theorem dNr_space_45 : decode cNr_space 45 = .ok (.aload_n 0, 1) := by decide +kernel
theorem dNr_space_46 : decode cNr_space 46 = .ok (.invokevirtual 45, 3) := by decide +kernel
theorem dNr_space_49 : decode cNr_space 49 = .ok (.istore 4, 2) := by decide +kernel
theorem dNr_space_51 : decode cNr_space 51 = .ok (.aload_n 0, 1) := by decide +kernel
theorem dNr_space_52 : decode cNr_space 52 = .ok (.iload_n 1, 1) := by decide +kernel
theorem dNr_space_53 : decode cNr_space 53 = .ok (.iload_n 2, 1) := by decide +kernel
theorem dNr_space_54 : decode cNr_space 54 = .ok (.iload_n 3, 1) := by decide +kernel
theorem dNr_space_55 : decode cNr_space 55 = .ok (.invokevirtual 30, 3) := by decide +kernel
theorem dNr_space_58 : decode cNr_space 58 = .ok (.aload_n 0, 1) := by decide +kernel
theorem dNr_space_59 : decode cNr_space 59 = .ok (.invokevirtual 49, 3) := by decide +kernel
theorem dNr_space_62 : decode cNr_space 62 = .ok (.aload_n 0, 1) := by decide +kernel
theorem dNr_space_63 : decode cNr_space 63 = .ok (.getfield 16, 3) := by decide +kernel
theorem dNr_space_66 : decode cNr_space 66 = .ok (.iconst 0, 1) := by decide +kernel
theorem dNr_space_67 : decode cNr_space 67 = .ok (.invokestatic 52, 3) := by decide +kernel
theorem dNr_space_70 : decode cNr_space 70 = .ok (.aload_n 0, 1) := by decide +kernel
theorem dNr_space_71 : decode cNr_space 71 = .ok (.iconst 0, 1) := by decide +kernel
theorem dNr_space_72 : decode cNr_space 72 = .ok (.putfield 58, 3) := by decide +kernel
theorem dNr_space_75 : decode cNr_space 75 = .ok (.aload_n 0, 1) := by decide +kernel
theorem dNr_space_76 : decode cNr_space 76 = .ok (.iconst 0, 1) := by decide +kernel
theorem dNr_space_77 : decode cNr_space 77 = .ok (.putfield 61, 3) := by decide +kernel
theorem dNr_space_80 : decode cNr_space 80 = .ok (.aload_n 0, 1) := by decide +kernel
theorem dNr_space_81 : decode cNr_space 81 = .ok (.iconst 0, 1) := by decide +kernel
theorem dNr_space_82 : decode cNr_space 82 = .ok (.putfield 64, 3) := by decide +kernel
theorem dNr_space_85 : decode cNr_space 85 = .ok (.aload_n 0, 1) := by decide +kernel
theorem dNr_space_86 : decode cNr_space 86 = .ok (.iconst 0, 1) := by decide +kernel
theorem dNr_space_87 : decode cNr_space 87 = .ok (.putfield 67, 3) := by decide +kernel
theorem dNr_space_90 : decode cNr_space 90 = .ok (.iload 4, 2) := by decide +kernel
theorem dNr_space_92 : decode cNr_space 92 = .ok (.ireturn, 1) := by decide +kernel
theorem dNr_isWithin_0 : decode cNr_isWithin 0 = .ok (.iload_n 0, 1) := by decide +kernel
theorem dNr_isWithin_1 : decode cNr_isWithin 1 = .ok (.iload_n 1, 1) := by decide +kernel
theorem dNr_isWithin_2 : decode cNr_isWithin 2 = .ok (.if_icmp .lt 12, 3) := by decide +kernel
theorem dNr_isWithin_5 : decode cNr_isWithin 5 = .ok (.iload_n 0, 1) := by decide +kernel
theorem dNr_isWithin_6 : decode cNr_isWithin 6 = .ok (.iload_n 2, 1) := by decide +kernel
theorem dNr_isWithin_7 : decode cNr_isWithin 7 = .ok (.if_icmp .gt 7, 3) := by decide +kernel
theorem dNr_isWithin_10 : decode cNr_isWithin 10 = .ok (.iconst 1, 1) := by decide +kernel
theorem dNr_isWithin_11 : decode cNr_isWithin 11 = .ok (.goto 4, 3) := by decide +kernel
theorem dNr_isWithin_14 : decode cNr_isWithin 14 = .ok (.iconst 0, 1) := by decide +kernel
theorem dNr_isWithin_15 : decode cNr_isWithin 15 = .ok (.ireturn, 1) := by decide +kernel
theorem dNr_allCells_0 : decode cNr_allCells 0 = .ok (.iconst 0, 1) := by decide +kernel
theorem dNr_allCells_1 : decode cNr_allCells 1 = .ok (.istore_n 1, 1) := by decide +kernel
theorem dNr_allCells_2 : decode cNr_allCells 2 = .ok (.iconst 0, 1) := by decide +kernel
theorem dNr_allCells_3 : decode cNr_allCells 3 = .ok (.istore_n 2, 1) := by decide +kernel
theorem dNr_allCells_4 : decode cNr_allCells 4 = .ok (.iload_n 2, 1) := by decide +kernel
theorem dNr_allCells_5 : decode cNr_allCells 5 = .ok (.iconst 4, 1) := by decide +kernel
theorem dNr_allCells_6 : decode cNr_allCells 6 = .ok (.if_icmp .ge 21, 3) := by decide +kernel
theorem dNr_allCells_9 : decode cNr_allCells 9 = .ok (.iload_n 1, 1) := by decide +kernel
theorem dNr_allCells_10 : decode cNr_allCells 10 = .ok (.aload_n 0, 1) := by decide +kernel
theorem dNr_allCells_11 : decode cNr_allCells 11 = .ok (.getfield 11, 3) := by decide +kernel
theorem dNr_allCells_14 : decode cNr_allCells 14 = .ok (.iload_n 2, 1) := by decide +kernel
theorem dNr_allCells_15 : decode cNr_allCells 15 = .ok (.aaload, 1) := by decide +kernel
theorem dNr_allCells_16 : decode cNr_allCells 16 = .ok (.getfield 162, 3) := by decide +kernel
theorem dNr_allCells_19 : decode cNr_allCells 19 = .ok (.iadd, 1) := by decide +kernel
theorem dNr_allCells_20 : decode cNr_allCells 20 = .ok (.istore_n 1, 1) := by decide +kernel
theorem dNr_allCells_21 : decode cNr_allCells 21 = .ok (.iinc 2 1, 3) := by decide +kernel
theorem dNr_allCells_24 : decode cNr_allCells 24 = .ok (.goto (-20), 3) := by decide +kernel
theorem dNr_allCells_27 : decode cNr_allCells 27 = .ok (.iload_n 1, 1) := by decide +kernel
theorem dNr_allCells_28 : decode cNr_allCells 28 = .ok (.ireturn, 1) := by decide +kernel
theorem dNr_growCells_0 : decode cNr_growCells 0 = .ok (.aload_n 0, 1) := by decide +kernel
theorem dNr_growCells_1 : decode cNr_growCells 1 = .ok (.getfield 23, 3) := by decide +kernel
theorem dNr_growCells_4 : decode cNr_growCells 4 = .ok (.arraylength, 1) := by decide +kernel
theorem dNr_growCells_5 : decode cNr_growCells 5 = .ok (.aload_n 0, 1) := by decide +kernel
theorem dNr_growCells_6 : decode cNr_growCells 6 = .ok (.invokevirtual 45, 3) := by decide +kernel
theorem dNr_growCells_9 : decode cNr_growCells 9 = .ok (.if_icmp .gt 12, 3) := by decide +kernel
theorem dNr_growCells_12 : decode cNr_growCells 12 = .ok (.aload_n 0, 1) := by decide +kernel
theorem dNr_growCells_13 : decode cNr_growCells 13 = .ok (.sipush 10241, 3) := by decide +kernel
theorem dNr_growCells_16 : decode cNr_growCells 16 = .ok (.newarray .int, 2) := by decide +kernel
theorem dNr_growCells_18 : decode cNr_growCells 18 = .ok (.putfield 23, 3) := by decide +kernel
theorem dNr_growCells_21 : decode cNr_growCells 21 = .ok (.return_, 1) := by decide +kernel
theorem dAr_fill2_0 : decode cAr_fill2 0 = .ok (.iconst 0, 1) := by decide +kernel
theorem dAr_fill2_1 : decode cAr_fill2 1 = .ok (.istore_n 2, 1) := by decide +kernel
theorem dAr_fill2_2 : decode cAr_fill2 2 = .ok (.aload_n 0, 1) := by decide +kernel
theorem dAr_fill2_3 : decode cAr_fill2 3 = .ok (.arraylength, 1) := by decide +kernel
theorem dAr_fill2_4 : decode cAr_fill2 4 = .ok (.istore_n 3, 1) := by decide +kernel
theorem dAr_fill2_5 : decode cAr_fill2 5 = .ok (.iload_n 2, 1) := by decide +kernel
theorem dAr_fill2_6 : decode cAr_fill2 6 = .ok (.iload_n 3, 1) := by decide +kernel
theorem dAr_fill2_7 : decode cAr_fill2 7 = .ok (.if_icmp .ge 13, 3) := by decide +kernel
theorem dAr_fill2_10 : decode cAr_fill2 10 = .ok (.aload_n 0, 1) := by decide +kernel
theorem dAr_fill2_11 : decode cAr_fill2 11 = .ok (.iload_n 2, 1) := by decide +kernel
theorem dAr_fill2_12 : decode cAr_fill2 12 = .ok (.iload_n 1, 1) := by decide +kernel
theorem dAr_fill2_13 : decode cAr_fill2 13 = .ok (.iastore, 1) := by decide +kernel
theorem dAr_fill2_14 : decode cAr_fill2 14 = .ok (.iinc 2 1, 3) := by decide +kernel
theorem dAr_fill2_17 : decode cAr_fill2 17 = .ok (.goto (-12), 3) := by decide +kernel
theorem dAr_fill2_20 : decode cAr_fill2 20 = .ok (.return_, 1) := by decide +kernel
theorem dNr_limit_0 : decode cNr_limit 0 = .ok (.iload_n 1, 1) := by decide +kernel
theorem dNr_limit_1 : decode cNr_limit 1 = .ok (.iconst 0, 1) := by decide +kernel
theorem dNr_limit_2 : decode cNr_limit 2 = .ok (.bipush 15, 2) := by decide +kernel
theorem dNr_limit_4 : decode cNr_limit 4 = .ok (.invokestatic 34, 3) := by decide +kernel
theorem dNr_limit_7 : decode cNr_limit 7 = .ok (.ifCond .ne 13, 3) := by decide +kernel
theorem dNr_limit_10 : decode cNr_limit 10 = .ok (.new 38, 3) := by decide +kernel
theorem dNr_limit_13 : decode cNr_limit 13 = .ok (.dup, 1) := by decide +kernel
theorem dNr_limit_14 : decode cNr_limit 14 = .ok (.ldc 70, 2) := by decide +kernel
theorem dNr_limit_16 : decode cNr_limit 16 = .ok (.invokespecial 42, 3) := by decide +kernel
theorem dNr_limit_19 : decode cNr_limit 19 = .ok (.athrow, 1) := by decide +kernel
theorem dNr_limit_20 : decode cNr_limit 20 = .ok (.aload_n 0, 1) := by decide +kernel
theorem dNr_limit_21 : decode cNr_limit 21 = .ok (.getfield 26, 3) := by decide +kernel
theorem dNr_limit_24 : decode cNr_limit 24 = .ok (.istore_n 2, 1) := by decide +kernel
theorem dNr_limit_25 : decode cNr_limit 25 = .ok (.aload_n 0, 1) := by decide +kernel
theorem dNr_limit_26 : decode cNr_limit 26 = .ok (.iload_n 1, 1) := by decide +kernel
theorem dNr_limit_27 : decode cNr_limit 27 = .ok (.putfield 26, 3) := by decide +kernel
theorem dNr_limit_30 : decode cNr_limit 30 = .ok (.iload_n 2, 1) := by decide +kernel
theorem dNr_limit_31 : decode cNr_limit 31 = .ok (.ireturn, 1) := by decide +kernel
theorem dNr_make_0 : decode cNr_make 0 = .ok (.iload_n 1, 1) := by decide +kernel
theorem dNr_make_1 : decode cNr_make 1 = .ok (.iconst 0, 1) := by decide +kernel
theorem dNr_make_2 : decode cNr_make 2 = .ok (.sipush 200, 3) := by decide +kernel
theorem dNr_make_5 : decode cNr_make 5 = .ok (.invokestatic 34, 3) := by decide +kernel
theorem dNr_make_8 : decode cNr_make 8 = .ok (.ifCond .eq 14, 3) := by decide +kernel
theorem dNr_make_11 : decode cNr_make 11 = .ok (.iload_n 2, 1) := by decide +kernel
theorem dNr_make_12 : decode cNr_make 12 = .ok (.iconst 0, 1) := by decide +kernel
theorem dNr_make_13 : decode cNr_make 13 = .ok (.sipush 200, 3) := by decide +kernel
theorem dNr_make_16 : decode cNr_make 16 = .ok (.invokestatic 34, 3) := by decide +kernel
theorem dNr_make_19 : decode cNr_make 19 = .ok (.ifCond .ne 13, 3) := by decide +kernel
theorem dNr_make_22 : decode cNr_make 22 = .ok (.new 38, 3) := by decide +kernel
theorem dNr_make_25 : decode cNr_make 25 = .ok (.dup, 1) := by decide +kernel
theorem dNr_make_26 : decode cNr_make 26 = .ok (.ldc 72, 2) := by decide +kernel
theorem dNr_make_28 : decode cNr_make 28 = .ok (.invokespecial 42, 3) := by decide +kernel
theorem dNr_make_31 : decode cNr_make 31 = .ok (.athrow, 1) := by decide +kernel
theorem dNr_make_32 : decode cNr_make 32 = .ok (.iconst 3, 1) := by decide +kernel
theorem dNr_make_33 : decode cNr_make 33 = .ok (.iload_n 1, 1) := by decide +kernel
theorem dNr_make_34 : decode cNr_make 34 = .ok (.iadd, 1) := by decide +kernel
theorem dNr_make_35 : decode cNr_make 35 = .ok (.iload_n 2, 1) := by decide +kernel
theorem dNr_make_36 : decode cNr_make 36 = .ok (.iadd, 1) := by decide +kernel
theorem dNr_make_37 : decode cNr_make 37 = .ok (.istore_n 3, 1) := by decide +kernel
theorem dNr_make_38 : decode cNr_make 38 = .ok (.aload_n 0, 1) := by decide +kernel
theorem dNr_make_39 : decode cNr_make 39 = .ok (.getfield 11, 3) := by decide +kernel
theorem dNr_make_42 : decode cNr_make 42 = .ok (.iconst 0, 1) := by decide +kernel
theorem dNr_make_43 : decode cNr_make 43 = .ok (.aaload, 1) := by decide +kernel
theorem dNr_make_44 : decode cNr_make 44 = .ok (.invokevirtual 74, 3) := by decide +kernel
theorem dNr_make_47 : decode cNr_make 47 = .ok (.iload_n 3, 1) := by decide +kernel
theorem dNr_make_48 : decode cNr_make 48 = .ok (.if_icmp .ge 5, 3) := by decide +kernel
theorem dNr_make_51 : decode cNr_make 51 = .ok (.iconst 0, 1) := by decide +kernel
theorem dNr_make_52 : decode cNr_make 52 = .ok (.ireturn, 1) := by decide +kernel
theorem dNr_make_53 : decode cNr_make 53 = .ok (.aload_n 0, 1) := by decide +kernel
theorem dNr_make_54 : decode cNr_make 54 = .ok (.getfield 11, 3) := by decide +kernel
theorem dNr_make_57 : decode cNr_make 57 = .ok (.iconst 0, 1) := by decide +kernel
theorem dNr_make_58 : decode cNr_make 58 = .ok (.aaload, 1) := by decide +kernel
theorem dNr_make_59 : decode cNr_make 59 = .ok (.iload_n 3, 1) := by decide +kernel
theorem dNr_make_60 : decode cNr_make 60 = .ok (.invokevirtual 77, 3) := by decide +kernel
theorem dNr_make_63 : decode cNr_make 63 = .ok (.istore 4, 2) := by decide +kernel
theorem dNr_make_65 : decode cNr_make 65 = .ok (.aload_n 0, 1) := by decide +kernel
theorem dNr_make_66 : decode cNr_make 66 = .ok (.getfield 23, 3) := by decide +kernel
theorem dNr_make_69 : decode cNr_make 69 = .ok (.iload 4, 2) := by decide +kernel
theorem dNr_make_71 : decode cNr_make 71 = .ok (.iload 4, 2) := by decide +kernel
theorem dNr_make_73 : decode cNr_make 73 = .ok (.iload_n 3, 1) := by decide +kernel
theorem dNr_make_74 : decode cNr_make 74 = .ok (.iadd, 1) := by decide +kernel
theorem dNr_make_75 : decode cNr_make 75 = .ok (.iconst 0, 1) := by decide +kernel
theorem dNr_make_76 : decode cNr_make 76 = .ok (.invokestatic 81, 3) := by decide +kernel
theorem dNr_make_79 : decode cNr_make 79 = .ok (.aload_n 0, 1) := by decide +kernel
theorem dNr_make_80 : decode cNr_make 80 = .ok (.getfield 23, 3) := by decide +kernel
theorem dNr_make_83 : decode cNr_make 83 = .ok (.iload 4, 2) := by decide +kernel
theorem dNr_make_85 : decode cNr_make 85 = .ok (.iload_n 1, 1) := by decide +kernel
theorem dNr_make_86 : decode cNr_make 86 = .ok (.iastore, 1) := by decide +kernel
theorem dNr_make_87 : decode cNr_make 87 = .ok (.aload_n 0, 1) := by decide +kernel
theorem dNr_make_88 : decode cNr_make 88 = .ok (.getfield 23, 3) := by decide +kernel
theorem dNr_make_91 : decode cNr_make 91 = .ok (.iload 4, 2) := by decide +kernel
theorem dNr_make_93 : decode cNr_make 93 = .ok (.iconst 1, 1) := by decide +kernel
theorem dNr_make_94 : decode cNr_make 94 = .ok (.iadd, 1) := by decide +kernel
theorem dNr_make_95 : decode cNr_make 95 = .ok (.iload_n 2, 1) := by decide +kernel
theorem dNr_make_96 : decode cNr_make 96 = .ok (.iastore, 1) := by decide +kernel
theorem dNr_make_97 : decode cNr_make 97 = .ok (.iload 4, 2) := by decide +kernel
theorem dNr_make_99 : decode cNr_make 99 = .ok (.ireturn, 1) := by decide +kernel
theorem dPt_free_0 : decode cPt_free 0 = .ok (.aload_n 0, 1) := by decide +kernel
theorem dPt_free_1 : decode cPt_free 1 = .ok (.getfield 13, 3) := by decide +kernel
theorem dPt_free_4 : decode cPt_free 4 = .ok (.aload_n 0, 1) := by decide +kernel
theorem dPt_free_5 : decode cPt_free 5 = .ok (.getfield 19, 3) := by decide +kernel
theorem dPt_free_8 : decode cPt_free 8 = .ok (.isub, 1) := by decide +kernel
theorem dPt_free_9 : decode cPt_free 9 = .ok (.ireturn, 1) := by decide +kernel
theorem dPt_take_0 : decode cPt_take 0 = .ok (.aload_n 0, 1) := by decide +kernel
theorem dPt_take_1 : decode cPt_take 1 = .ok (.invokevirtual 25, 3) := by decide +kernel
theorem dPt_take_4 : decode cPt_take 4 = .ok (.istore_n 2, 1) := by decide +kernel
theorem dPt_take_5 : decode cPt_take 5 = .ok (.aload_n 0, 1) := by decide +kernel
theorem dPt_take_6 : decode cPt_take 6 = .ok (.dup, 1) := by decide +kernel
theorem dPt_take_7 : decode cPt_take 7 = .ok (.getfield 19, 3) := by decide +kernel
theorem dPt_take_10 : decode cPt_take 10 = .ok (.iload_n 1, 1) := by decide +kernel
theorem dPt_take_11 : decode cPt_take 11 = .ok (.iadd, 1) := by decide +kernel
theorem dPt_take_12 : decode cPt_take 12 = .ok (.putfield 19, 3) := by decide +kernel
theorem dPt_take_15 : decode cPt_take 15 = .ok (.aload_n 0, 1) := by decide +kernel
theorem dPt_take_16 : decode cPt_take 16 = .ok (.dup, 1) := by decide +kernel
theorem dPt_take_17 : decode cPt_take 17 = .ok (.getfield 22, 3) := by decide +kernel
theorem dPt_take_20 : decode cPt_take 20 = .ok (.iconst 1, 1) := by decide +kernel
theorem dPt_take_21 : decode cPt_take 21 = .ok (.iadd, 1) := by decide +kernel
theorem dPt_take_22 : decode cPt_take 22 = .ok (.putfield 22, 3) := by decide +kernel
theorem dPt_take_25 : decode cPt_take 25 = .ok (.iload_n 2, 1) := by decide +kernel
theorem dPt_take_26 : decode cPt_take 26 = .ok (.ireturn, 1) := by decide +kernel
theorem dPt_end_0 : decode cPt_end 0 = .ok (.aload_n 0, 1) := by decide +kernel
theorem dPt_end_1 : decode cPt_end 1 = .ok (.getfield 7, 3) := by decide +kernel
theorem dPt_end_4 : decode cPt_end 4 = .ok (.aload_n 0, 1) := by decide +kernel
theorem dPt_end_5 : decode cPt_end 5 = .ok (.getfield 19, 3) := by decide +kernel
theorem dPt_end_8 : decode cPt_end 8 = .ok (.iadd, 1) := by decide +kernel
theorem dPt_end_9 : decode cPt_end 9 = .ok (.ireturn, 1) := by decide +kernel
theorem dAr_fill4_0 : decode cAr_fill4 0 = .ok (.aload_n 0, 1) := by decide +kernel
theorem dAr_fill4_1 : decode cAr_fill4 1 = .ok (.arraylength, 1) := by decide +kernel
theorem dAr_fill4_2 : decode cAr_fill4 2 = .ok (.iload_n 1, 1) := by decide +kernel
theorem dAr_fill4_3 : decode cAr_fill4 3 = .ok (.iload_n 2, 1) := by decide +kernel
theorem dAr_fill4_4 : decode cAr_fill4 4 = .ok (.invokestatic 13, 3) := by decide +kernel
theorem dAr_fill4_7 : decode cAr_fill4 7 = .ok (.iload_n 1, 1) := by decide +kernel
theorem dAr_fill4_8 : decode cAr_fill4 8 = .ok (.istore 4, 2) := by decide +kernel
theorem dAr_fill4_10 : decode cAr_fill4 10 = .ok (.iload 4, 2) := by decide +kernel
theorem dAr_fill4_12 : decode cAr_fill4 12 = .ok (.iload_n 2, 1) := by decide +kernel
theorem dAr_fill4_13 : decode cAr_fill4 13 = .ok (.if_icmp .ge 14, 3) := by decide +kernel
theorem dAr_fill4_16 : decode cAr_fill4 16 = .ok (.aload_n 0, 1) := by decide +kernel
theorem dAr_fill4_17 : decode cAr_fill4 17 = .ok (.iload 4, 2) := by decide +kernel
theorem dAr_fill4_19 : decode cAr_fill4 19 = .ok (.iload_n 3, 1) := by decide +kernel
theorem dAr_fill4_20 : decode cAr_fill4 20 = .ok (.iastore, 1) := by decide +kernel
theorem dAr_fill4_21 : decode cAr_fill4 21 = .ok (.iinc 4 1, 3) := by decide +kernel
theorem dAr_fill4_24 : decode cAr_fill4 24 = .ok (.goto (-14), 3) := by decide +kernel
theorem dAr_fill4_27 : decode cAr_fill4 27 = .ok (.return_, 1) := by decide +kernel
theorem dAr_rangeCheck_0 : decode cAr_rangeCheck 0 = .ok (.iload_n 1, 1) := by decide +kernel
theorem dAr_rangeCheck_1 : decode cAr_rangeCheck 1 = .ok (.iload_n 2, 1) := by decide +kernel
theorem dAr_rangeCheck_2 : decode cAr_rangeCheck 2 = .ok (.if_icmp .le 44, 3) := by decide +kernel
theorem dAr_rangeCheck_5 : decode cAr_rangeCheck 5 = .ok (.new 43, 3) := by decide +kernel
theorem dAr_rangeCheck_8 : decode cAr_rangeCheck 8 = .ok (.dup, 1) := by decide +kernel
theorem dAr_rangeCheck_9 : decode cAr_rangeCheck 9 = .ok (.new 45, 3) := by decide +kernel
theorem dAr_rangeCheck_12 : decode cAr_rangeCheck 12 = .ok (.dup, 1) := by decide +kernel
theorem dAr_rangeCheck_13 : decode cAr_rangeCheck 13 = .ok (.invokespecial 47, 3) := by decide +kernel
theorem dAr_rangeCheck_16 : decode cAr_rangeCheck 16 = .ok (.ldc 48, 2) := by decide +kernel
theorem dAr_rangeCheck_18 : decode cAr_rangeCheck 18 = .ok (.invokevirtual 50, 3) := by decide +kernel
theorem dAr_rangeCheck_21 : decode cAr_rangeCheck 21 = .ok (.iload_n 1, 1) := by decide +kernel
theorem dAr_rangeCheck_22 : decode cAr_rangeCheck 22 = .ok (.invokevirtual 54, 3) := by decide +kernel
theorem dAr_rangeCheck_25 : decode cAr_rangeCheck 25 = .ok (.ldc 57, 2) := by decide +kernel
theorem dAr_rangeCheck_27 : decode cAr_rangeCheck 27 = .ok (.invokevirtual 50, 3) := by decide +kernel
theorem dAr_rangeCheck_30 : decode cAr_rangeCheck 30 = .ok (.iload_n 2, 1) := by decide +kernel
theorem dAr_rangeCheck_31 : decode cAr_rangeCheck 31 = .ok (.invokevirtual 54, 3) := by decide +kernel
theorem dAr_rangeCheck_34 : decode cAr_rangeCheck 34 = .ok (.ldc 59, 2) := by decide +kernel
theorem dAr_rangeCheck_36 : decode cAr_rangeCheck 36 = .ok (.invokevirtual 50, 3) := by decide +kernel
theorem dAr_rangeCheck_39 : decode cAr_rangeCheck 39 = .ok (.invokevirtual 61, 3) := by decide +kernel
theorem dAr_rangeCheck_42 : decode cAr_rangeCheck 42 = .ok (.invokespecial 65, 3) := by decide +kernel
theorem dAr_rangeCheck_45 : decode cAr_rangeCheck 45 = .ok (.athrow, 1) := by decide +kernel
theorem dAr_rangeCheck_46 : decode cAr_rangeCheck 46 = .ok (.iload_n 1, 1) := by decide +kernel
theorem dAr_rangeCheck_47 : decode cAr_rangeCheck 47 = .ok (.ifCond .ge 12, 3) := by decide +kernel
theorem dAr_rangeCheck_50 : decode cAr_rangeCheck 50 = .ok (.new 68, 3) := by decide +kernel
theorem dAr_rangeCheck_53 : decode cAr_rangeCheck 53 = .ok (.dup, 1) := by decide +kernel
theorem dAr_rangeCheck_54 : decode cAr_rangeCheck 54 = .ok (.iload_n 1, 1) := by decide +kernel
theorem dAr_rangeCheck_55 : decode cAr_rangeCheck 55 = .ok (.invokespecial 70, 3) := by decide +kernel
theorem dAr_rangeCheck_58 : decode cAr_rangeCheck 58 = .ok (.athrow, 1) := by decide +kernel
theorem dAr_rangeCheck_59 : decode cAr_rangeCheck 59 = .ok (.iload_n 2, 1) := by decide +kernel
theorem dAr_rangeCheck_60 : decode cAr_rangeCheck 60 = .ok (.iload_n 0, 1) := by decide +kernel
theorem dAr_rangeCheck_61 : decode cAr_rangeCheck 61 = .ok (.if_icmp .le 12, 3) := by decide +kernel
theorem dAr_rangeCheck_64 : decode cAr_rangeCheck 64 = .ok (.new 68, 3) := by decide +kernel
theorem dAr_rangeCheck_67 : decode cAr_rangeCheck 67 = .ok (.dup, 1) := by decide +kernel
theorem dAr_rangeCheck_68 : decode cAr_rangeCheck 68 = .ok (.iload_n 2, 1) := by decide +kernel
theorem dAr_rangeCheck_69 : decode cAr_rangeCheck 69 = .ok (.invokespecial 70, 3) := by decide +kernel
theorem dAr_rangeCheck_72 : decode cAr_rangeCheck 72 = .ok (.athrow, 1) := by decide +kernel
theorem dAr_rangeCheck_73 : decode cAr_rangeCheck 73 = .ok (.return_, 1) := by decide +kernel
theorem dNr_set_0 : decode cNr_set 0 = .ok (.aload_n 0, 1) := by decide +kernel
theorem dNr_set_1 : decode cNr_set 1 = .ok (.iload_n 1, 1) := by decide +kernel
theorem dNr_set_2 : decode cNr_set 2 = .ok (.iload_n 2, 1) := by decide +kernel
theorem dNr_set_3 : decode cNr_set 3 = .ok (.invokevirtual 84, 3) := by decide +kernel
theorem dNr_set_6 : decode cNr_set 6 = .ok (.istore 4, 2) := by decide +kernel
theorem dNr_set_8 : decode cNr_set 8 = .ok (.iload 4, 2) := by decide +kernel
theorem dNr_set_10 : decode cNr_set 10 = .ok (.ifCond .eq 11, 3) := by decide +kernel
theorem dNr_set_13 : decode cNr_set 13 = .ok (.aload_n 0, 1) := by decide +kernel
theorem dNr_set_14 : decode cNr_set 14 = .ok (.iload_n 3, 1) := by decide +kernel
theorem dNr_set_15 : decode cNr_set 15 = .ok (.invokevirtual 88, 3) := by decide +kernel
theorem dNr_set_18 : decode cNr_set 18 = .ok (.ifCond .ne 13, 3) := by decide +kernel
theorem dNr_set_21 : decode cNr_set 21 = .ok (.new 92, 3) := by decide +kernel
theorem dNr_set_24 : decode cNr_set 24 = .ok (.dup, 1) := by decide +kernel
theorem dNr_set_25 : decode cNr_set 25 = .ok (.ldc 94, 2) := by decide +kernel
theorem dNr_set_27 : decode cNr_set 27 = .ok (.invokespecial 96, 3) := by decide +kernel
theorem dNr_set_30 : decode cNr_set 30 = .ok (.athrow, 1) := by decide +kernel
theorem dNr_set_31 : decode cNr_set 31 = .ok (.aload_n 0, 1) := by decide +kernel
theorem dNr_set_32 : decode cNr_set 32 = .ok (.iload 4, 2) := by decide +kernel
theorem dNr_set_34 : decode cNr_set 34 = .ok (.iload_n 3, 1) := by decide +kernel
theorem dNr_set_35 : decode cNr_set 35 = .ok (.invokevirtual 97, 3) := by decide +kernel
theorem dNr_set_38 : decode cNr_set 38 = .ok (.ireturn, 1) := by decide +kernel
theorem dNr_fieldCell_0 : decode cNr_fieldCell 0 = .ok (.aload_n 0, 1) := by decide +kernel
theorem dNr_fieldCell_1 : decode cNr_fieldCell 1 = .ok (.iload_n 1, 1) := by decide +kernel
theorem dNr_fieldCell_2 : decode cNr_fieldCell 2 = .ok (.invokevirtual 139, 3) := by decide +kernel
theorem dNr_fieldCell_5 : decode cNr_fieldCell 5 = .ok (.ifCond .eq 17, 3) := by decide +kernel
theorem dNr_fieldCell_8 : decode cNr_fieldCell 8 = .ok (.iload_n 2, 1) := by decide +kernel
theorem dNr_fieldCell_9 : decode cNr_fieldCell 9 = .ok (.ifCond .lt 13, 3) := by decide +kernel
theorem dNr_fieldCell_12 : decode cNr_fieldCell 12 = .ok (.iload_n 2, 1) := by decide +kernel
theorem dNr_fieldCell_13 : decode cNr_fieldCell 13 = .ok (.aload_n 0, 1) := by decide +kernel
theorem dNr_fieldCell_14 : decode cNr_fieldCell 14 = .ok (.getfield 23, 3) := by decide +kernel
theorem dNr_fieldCell_17 : decode cNr_fieldCell 17 = .ok (.iload_n 1, 1) := by decide +kernel
theorem dNr_fieldCell_18 : decode cNr_fieldCell 18 = .ok (.iaload, 1) := by decide +kernel
theorem dNr_fieldCell_19 : decode cNr_fieldCell 19 = .ok (.if_icmp .lt 5, 3) := by decide +kernel
theorem dNr_fieldCell_22 : decode cNr_fieldCell 22 = .ok (.iconst 0, 1) := by decide +kernel
theorem dNr_fieldCell_23 : decode cNr_fieldCell 23 = .ok (.ireturn, 1) := by decide +kernel
theorem dNr_fieldCell_24 : decode cNr_fieldCell 24 = .ok (.iload_n 1, 1) := by decide +kernel
theorem dNr_fieldCell_25 : decode cNr_fieldCell 25 = .ok (.iconst 3, 1) := by decide +kernel
theorem dNr_fieldCell_26 : decode cNr_fieldCell 26 = .ok (.iadd, 1) := by decide +kernel
theorem dNr_fieldCell_27 : decode cNr_fieldCell 27 = .ok (.iload_n 2, 1) := by decide +kernel
theorem dNr_fieldCell_28 : decode cNr_fieldCell 28 = .ok (.iadd, 1) := by decide +kernel
theorem dNr_fieldCell_29 : decode cNr_fieldCell 29 = .ok (.ireturn, 1) := by decide +kernel
theorem dNr_isObject_0 : decode cNr_isObject 0 = .ok (.aload_n 0, 1) := by decide +kernel
theorem dNr_isObject_1 : decode cNr_isObject 1 = .ok (.iload_n 1, 1) := by decide +kernel
theorem dNr_isObject_2 : decode cNr_isObject 2 = .ok (.invokevirtual 142, 3) := by decide +kernel
theorem dNr_isObject_5 : decode cNr_isObject 5 = .ok (.istore_n 2, 1) := by decide +kernel
theorem dNr_isObject_6 : decode cNr_isObject 6 = .ok (.iload_n 2, 1) := by decide +kernel
theorem dNr_isObject_7 : decode cNr_isObject 7 = .ok (.iconst 4, 1) := by decide +kernel
theorem dNr_isObject_8 : decode cNr_isObject 8 = .ok (.if_icmp .ne 5, 3) := by decide +kernel
theorem dNr_isObject_11 : decode cNr_isObject 11 = .ok (.iconst 0, 1) := by decide +kernel
theorem dNr_isObject_12 : decode cNr_isObject 12 = .ok (.ireturn, 1) := by decide +kernel
theorem dNr_isObject_13 : decode cNr_isObject 13 = .ok (.aload_n 0, 1) := by decide +kernel
theorem dNr_isObject_14 : decode cNr_isObject 14 = .ok (.getfield 11, 3) := by decide +kernel
theorem dNr_isObject_17 : decode cNr_isObject 17 = .ok (.iload_n 2, 1) := by decide +kernel
theorem dNr_isObject_18 : decode cNr_isObject 18 = .ok (.aaload, 1) := by decide +kernel
theorem dNr_isObject_19 : decode cNr_isObject 19 = .ok (.getfield 164, 3) := by decide +kernel
theorem dNr_isObject_22 : decode cNr_isObject 22 = .ok (.istore_n 3, 1) := by decide +kernel
theorem dNr_isObject_23 : decode cNr_isObject 23 = .ok (.iconst 0, 1) := by decide +kernel
theorem dNr_isObject_24 : decode cNr_isObject 24 = .ok (.istore 4, 2) := by decide +kernel
theorem dNr_isObject_26 : decode cNr_isObject 26 = .ok (.iload 4, 2) := by decide +kernel
theorem dNr_isObject_28 : decode cNr_isObject 28 = .ok (.aload_n 0, 1) := by decide +kernel
theorem dNr_isObject_29 : decode cNr_isObject 29 = .ok (.getfield 11, 3) := by decide +kernel
theorem dNr_isObject_32 : decode cNr_isObject 32 = .ok (.iload_n 2, 1) := by decide +kernel
theorem dNr_isObject_33 : decode cNr_isObject 33 = .ok (.aaload, 1) := by decide +kernel
theorem dNr_isObject_34 : decode cNr_isObject 34 = .ok (.getfield 120, 3) := by decide +kernel
theorem dNr_isObject_37 : decode cNr_isObject 37 = .ok (.if_icmp .ge 22, 3) := by decide +kernel
theorem dNr_isObject_40 : decode cNr_isObject 40 = .ok (.iload_n 3, 1) := by decide +kernel
theorem dNr_isObject_41 : decode cNr_isObject 41 = .ok (.iload_n 1, 1) := by decide +kernel
theorem dNr_isObject_42 : decode cNr_isObject 42 = .ok (.if_icmp .ge 17, 3) := by decide +kernel
theorem dNr_isObject_45 : decode cNr_isObject 45 = .ok (.iload_n 3, 1) := by decide +kernel
theorem dNr_isObject_46 : decode cNr_isObject 46 = .ok (.aload_n 0, 1) := by decide +kernel
theorem dNr_isObject_47 : decode cNr_isObject 47 = .ok (.iload_n 3, 1) := by decide +kernel
theorem dNr_isObject_48 : decode cNr_isObject 48 = .ok (.invokevirtual 150, 3) := by decide +kernel
theorem dNr_isObject_51 : decode cNr_isObject 51 = .ok (.iadd, 1) := by decide +kernel
theorem dNr_isObject_52 : decode cNr_isObject 52 = .ok (.istore_n 3, 1) := by decide +kernel
theorem dNr_isObject_53 : decode cNr_isObject 53 = .ok (.iinc 4 1, 3) := by decide +kernel
theorem dNr_isObject_56 : decode cNr_isObject 56 = .ok (.goto (-30), 3) := by decide +kernel
theorem dNr_isObject_59 : decode cNr_isObject 59 = .ok (.iload_n 3, 1) := by decide +kernel
theorem dNr_isObject_60 : decode cNr_isObject 60 = .ok (.iload_n 1, 1) := by decide +kernel
theorem dNr_isObject_61 : decode cNr_isObject 61 = .ok (.if_icmp .ne 7, 3) := by decide +kernel
theorem dNr_isObject_64 : decode cNr_isObject 64 = .ok (.iconst 1, 1) := by decide +kernel
theorem dNr_isObject_65 : decode cNr_isObject 65 = .ok (.goto 4, 3) := by decide +kernel
theorem dNr_isObject_68 : decode cNr_isObject 68 = .ok (.iconst 0, 1) := by decide +kernel
theorem dNr_isObject_69 : decode cNr_isObject 69 = .ok (.ireturn, 1) := by decide +kernel
theorem dNr_partOf_0 : decode cNr_partOf 0 = .ok (.iconst 0, 1) := by decide +kernel
theorem dNr_partOf_1 : decode cNr_partOf 1 = .ok (.istore_n 2, 1) := by decide +kernel
theorem dNr_partOf_2 : decode cNr_partOf 2 = .ok (.iload_n 2, 1) := by decide +kernel
theorem dNr_partOf_3 : decode cNr_partOf 3 = .ok (.iconst 4, 1) := by decide +kernel
theorem dNr_partOf_4 : decode cNr_partOf 4 = .ok (.if_icmp .ge 24, 3) := by decide +kernel
theorem dNr_partOf_7 : decode cNr_partOf 7 = .ok (.aload_n 0, 1) := by decide +kernel
theorem dNr_partOf_8 : decode cNr_partOf 8 = .ok (.getfield 11, 3) := by decide +kernel
theorem dNr_partOf_11 : decode cNr_partOf 11 = .ok (.iload_n 2, 1) := by decide +kernel
theorem dNr_partOf_12 : decode cNr_partOf 12 = .ok (.aaload, 1) := by decide +kernel
theorem dNr_partOf_13 : decode cNr_partOf 13 = .ok (.iload_n 1, 1) := by decide +kernel
theorem dNr_partOf_14 : decode cNr_partOf 14 = .ok (.invokevirtual 153, 3) := by decide +kernel
theorem dNr_partOf_17 : decode cNr_partOf 17 = .ok (.ifCond .eq 5, 3) := by decide +kernel
theorem dNr_partOf_20 : decode cNr_partOf 20 = .ok (.iload_n 2, 1) := by decide +kernel
theorem dNr_partOf_21 : decode cNr_partOf 21 = .ok (.ireturn, 1) := by decide +kernel
theorem dNr_partOf_22 : decode cNr_partOf 22 = .ok (.iinc 2 1, 3) := by decide +kernel
theorem dNr_partOf_25 : decode cNr_partOf 25 = .ok (.goto (-23), 3) := by decide +kernel
theorem dNr_partOf_28 : decode cNr_partOf 28 = .ok (.iconst 4, 1) := by decide +kernel
theorem dNr_partOf_29 : decode cNr_partOf 29 = .ok (.ireturn, 1) := by decide +kernel
theorem dPt_covers_0 : decode cPt_covers 0 = .ok (.iload_n 1, 1) := by decide +kernel
theorem dPt_covers_1 : decode cPt_covers 1 = .ok (.aload_n 0, 1) := by decide +kernel
theorem dPt_covers_2 : decode cPt_covers 2 = .ok (.getfield 7, 3) := by decide +kernel
theorem dPt_covers_5 : decode cPt_covers 5 = .ok (.if_icmp .lt 15, 3) := by decide +kernel
theorem dPt_covers_8 : decode cPt_covers 8 = .ok (.iload_n 1, 1) := by decide +kernel
theorem dPt_covers_9 : decode cPt_covers 9 = .ok (.aload_n 0, 1) := by decide +kernel
theorem dPt_covers_10 : decode cPt_covers 10 = .ok (.invokevirtual 25, 3) := by decide +kernel
theorem dPt_covers_13 : decode cPt_covers 13 = .ok (.if_icmp .ge 7, 3) := by decide +kernel
theorem dPt_covers_16 : decode cPt_covers 16 = .ok (.iconst 1, 1) := by decide +kernel
theorem dPt_covers_17 : decode cPt_covers 17 = .ok (.goto 4, 3) := by decide +kernel
theorem dPt_covers_20 : decode cPt_covers 20 = .ok (.iconst 0, 1) := by decide +kernel
theorem dPt_covers_21 : decode cPt_covers 21 = .ok (.ireturn, 1) := by decide +kernel
theorem dNr_sizeAt_0 : decode cNr_sizeAt 0 = .ok (.iconst 3, 1) := by decide +kernel
theorem dNr_sizeAt_1 : decode cNr_sizeAt 1 = .ok (.aload_n 0, 1) := by decide +kernel
theorem dNr_sizeAt_2 : decode cNr_sizeAt 2 = .ok (.getfield 23, 3) := by decide +kernel
theorem dNr_sizeAt_5 : decode cNr_sizeAt 5 = .ok (.iload_n 1, 1) := by decide +kernel
theorem dNr_sizeAt_6 : decode cNr_sizeAt 6 = .ok (.iaload, 1) := by decide +kernel
theorem dNr_sizeAt_7 : decode cNr_sizeAt 7 = .ok (.iadd, 1) := by decide +kernel
theorem dNr_sizeAt_8 : decode cNr_sizeAt 8 = .ok (.aload_n 0, 1) := by decide +kernel
theorem dNr_sizeAt_9 : decode cNr_sizeAt 9 = .ok (.getfield 23, 3) := by decide +kernel
theorem dNr_sizeAt_12 : decode cNr_sizeAt 12 = .ok (.iload_n 1, 1) := by decide +kernel
theorem dNr_sizeAt_13 : decode cNr_sizeAt 13 = .ok (.iconst 1, 1) := by decide +kernel
theorem dNr_sizeAt_14 : decode cNr_sizeAt 14 = .ok (.iadd, 1) := by decide +kernel
theorem dNr_sizeAt_15 : decode cNr_sizeAt 15 = .ok (.iaload, 1) := by decide +kernel
theorem dNr_sizeAt_16 : decode cNr_sizeAt 16 = .ok (.iadd, 1) := by decide +kernel
theorem dNr_sizeAt_17 : decode cNr_sizeAt 17 = .ok (.ireturn, 1) := by decide +kernel
theorem dNr_isNothingOrObject_0 : decode cNr_isNothingOrObject 0 = .ok (.iload_n 1, 1) := by decide +kernel
theorem dNr_isNothingOrObject_1 : decode cNr_isNothingOrObject 1 = .ok (.ifCond .eq 11, 3) := by decide +kernel
theorem dNr_isNothingOrObject_4 : decode cNr_isNothingOrObject 4 = .ok (.aload_n 0, 1) := by decide +kernel
theorem dNr_isNothingOrObject_5 : decode cNr_isNothingOrObject 5 = .ok (.iload_n 1, 1) := by decide +kernel
theorem dNr_isNothingOrObject_6 : decode cNr_isNothingOrObject 6 = .ok (.invokevirtual 139, 3) := by decide +kernel
theorem dNr_isNothingOrObject_9 : decode cNr_isNothingOrObject 9 = .ok (.ifCond .eq 7, 3) := by decide +kernel
theorem dNr_isNothingOrObject_12 : decode cNr_isNothingOrObject 12 = .ok (.iconst 1, 1) := by decide +kernel
theorem dNr_isNothingOrObject_13 : decode cNr_isNothingOrObject 13 = .ok (.goto 4, 3) := by decide +kernel
theorem dNr_isNothingOrObject_16 : decode cNr_isNothingOrObject 16 = .ok (.iconst 0, 1) := by decide +kernel
theorem dNr_isNothingOrObject_17 : decode cNr_isNothingOrObject 17 = .ok (.ireturn, 1) := by decide +kernel
theorem dNr_exchange_0 : decode cNr_exchange 0 = .ok (.aload_n 0, 1) := by decide +kernel
theorem dNr_exchange_1 : decode cNr_exchange 1 = .ok (.getfield 23, 3) := by decide +kernel
theorem dNr_exchange_4 : decode cNr_exchange 4 = .ok (.iload_n 1, 1) := by decide +kernel
theorem dNr_exchange_5 : decode cNr_exchange 5 = .ok (.iaload, 1) := by decide +kernel
theorem dNr_exchange_6 : decode cNr_exchange 6 = .ok (.istore_n 3, 1) := by decide +kernel
theorem dNr_exchange_7 : decode cNr_exchange 7 = .ok (.aload_n 0, 1) := by decide +kernel
theorem dNr_exchange_8 : decode cNr_exchange 8 = .ok (.getfield 23, 3) := by decide +kernel
theorem dNr_exchange_11 : decode cNr_exchange 11 = .ok (.iload_n 1, 1) := by decide +kernel
theorem dNr_exchange_12 : decode cNr_exchange 12 = .ok (.iload_n 2, 1) := by decide +kernel
theorem dNr_exchange_13 : decode cNr_exchange 13 = .ok (.iastore, 1) := by decide +kernel
theorem dNr_exchange_14 : decode cNr_exchange 14 = .ok (.iload_n 3, 1) := by decide +kernel
theorem dNr_exchange_15 : decode cNr_exchange 15 = .ok (.ireturn, 1) := by decide +kernel
theorem dNr_get_0 : decode cNr_get 0 = .ok (.aload_n 0, 1) := by decide +kernel
theorem dNr_get_1 : decode cNr_get 1 = .ok (.iload_n 1, 1) := by decide +kernel
theorem dNr_get_2 : decode cNr_get 2 = .ok (.iload_n 2, 1) := by decide +kernel
theorem dNr_get_3 : decode cNr_get 3 = .ok (.invokevirtual 84, 3) := by decide +kernel
theorem dNr_get_6 : decode cNr_get 6 = .ok (.istore_n 3, 1) := by decide +kernel
theorem dNr_get_7 : decode cNr_get 7 = .ok (.iload_n 3, 1) := by decide +kernel
theorem dNr_get_8 : decode cNr_get 8 = .ok (.ifCond .ne 13, 3) := by decide +kernel
theorem dNr_get_11 : decode cNr_get 11 = .ok (.new 92, 3) := by decide +kernel
theorem dNr_get_14 : decode cNr_get 14 = .ok (.dup, 1) := by decide +kernel
theorem dNr_get_15 : decode cNr_get 15 = .ok (.ldc 94, 2) := by decide +kernel
theorem dNr_get_17 : decode cNr_get 17 = .ok (.invokespecial 96, 3) := by decide +kernel
theorem dNr_get_20 : decode cNr_get 20 = .ok (.athrow, 1) := by decide +kernel
theorem dNr_get_21 : decode cNr_get 21 = .ok (.aload_n 0, 1) := by decide +kernel
theorem dNr_get_22 : decode cNr_get 22 = .ok (.getfield 23, 3) := by decide +kernel
theorem dNr_get_25 : decode cNr_get 25 = .ok (.iload_n 3, 1) := by decide +kernel
theorem dNr_get_26 : decode cNr_get 26 = .ok (.iaload, 1) := by decide +kernel
theorem dNr_get_27 : decode cNr_get 27 = .ok (.ireturn, 1) := by decide +kernel
theorem dNr_put_0 : decode cNr_put 0 = .ok (.aload_n 0, 1) := by decide +kernel
theorem dNr_put_1 : decode cNr_put 1 = .ok (.iload_n 1, 1) := by decide +kernel
theorem dNr_put_2 : decode cNr_put 2 = .ok (.iload_n 2, 1) := by decide +kernel
theorem dNr_put_3 : decode cNr_put 3 = .ok (.invokevirtual 100, 3) := by decide +kernel
theorem dNr_put_6 : decode cNr_put 6 = .ok (.istore 4, 2) := by decide +kernel
theorem dNr_put_8 : decode cNr_put 8 = .ok (.iload 4, 2) := by decide +kernel
theorem dNr_put_10 : decode cNr_put 10 = .ok (.ifCond .ne 13, 3) := by decide +kernel
theorem dNr_put_13 : decode cNr_put 13 = .ok (.new 92, 3) := by decide +kernel
theorem dNr_put_16 : decode cNr_put 16 = .ok (.dup, 1) := by decide +kernel
theorem dNr_put_17 : decode cNr_put 17 = .ok (.ldc 103, 2) := by decide +kernel
theorem dNr_put_19 : decode cNr_put 19 = .ok (.invokespecial 96, 3) := by decide +kernel
theorem dNr_put_22 : decode cNr_put 22 = .ok (.athrow, 1) := by decide +kernel
theorem dNr_put_23 : decode cNr_put 23 = .ok (.aload_n 0, 1) := by decide +kernel
theorem dNr_put_24 : decode cNr_put 24 = .ok (.iload 4, 2) := by decide +kernel
theorem dNr_put_26 : decode cNr_put 26 = .ok (.iload_n 3, 1) := by decide +kernel
theorem dNr_put_27 : decode cNr_put 27 = .ok (.invokevirtual 97, 3) := by decide +kernel
theorem dNr_put_30 : decode cNr_put 30 = .ok (.ireturn, 1) := by decide +kernel
theorem dNr_wordCell_0 : decode cNr_wordCell 0 = .ok (.aload_n 0, 1) := by decide +kernel
theorem dNr_wordCell_1 : decode cNr_wordCell 1 = .ok (.iload_n 1, 1) := by decide +kernel
theorem dNr_wordCell_2 : decode cNr_wordCell 2 = .ok (.invokevirtual 139, 3) := by decide +kernel
theorem dNr_wordCell_5 : decode cNr_wordCell 5 = .ok (.ifCond .eq 19, 3) := by decide +kernel
theorem dNr_wordCell_8 : decode cNr_wordCell 8 = .ok (.iload_n 2, 1) := by decide +kernel
theorem dNr_wordCell_9 : decode cNr_wordCell 9 = .ok (.ifCond .lt 15, 3) := by decide +kernel
theorem dNr_wordCell_12 : decode cNr_wordCell 12 = .ok (.iload_n 2, 1) := by decide +kernel
theorem dNr_wordCell_13 : decode cNr_wordCell 13 = .ok (.aload_n 0, 1) := by decide +kernel
theorem dNr_wordCell_14 : decode cNr_wordCell 14 = .ok (.getfield 23, 3) := by decide +kernel
theorem dNr_wordCell_17 : decode cNr_wordCell 17 = .ok (.iload_n 1, 1) := by decide +kernel
theorem dNr_wordCell_18 : decode cNr_wordCell 18 = .ok (.iconst 1, 1) := by decide +kernel
theorem dNr_wordCell_19 : decode cNr_wordCell 19 = .ok (.iadd, 1) := by decide +kernel
theorem dNr_wordCell_20 : decode cNr_wordCell 20 = .ok (.iaload, 1) := by decide +kernel
theorem dNr_wordCell_21 : decode cNr_wordCell 21 = .ok (.if_icmp .lt 5, 3) := by decide +kernel
theorem dNr_wordCell_24 : decode cNr_wordCell 24 = .ok (.iconst 0, 1) := by decide +kernel
theorem dNr_wordCell_25 : decode cNr_wordCell 25 = .ok (.ireturn, 1) := by decide +kernel
theorem dNr_wordCell_26 : decode cNr_wordCell 26 = .ok (.iload_n 1, 1) := by decide +kernel
theorem dNr_wordCell_27 : decode cNr_wordCell 27 = .ok (.iconst 3, 1) := by decide +kernel
theorem dNr_wordCell_28 : decode cNr_wordCell 28 = .ok (.iadd, 1) := by decide +kernel
theorem dNr_wordCell_29 : decode cNr_wordCell 29 = .ok (.aload_n 0, 1) := by decide +kernel
theorem dNr_wordCell_30 : decode cNr_wordCell 30 = .ok (.getfield 23, 3) := by decide +kernel
theorem dNr_wordCell_33 : decode cNr_wordCell 33 = .ok (.iload_n 1, 1) := by decide +kernel
theorem dNr_wordCell_34 : decode cNr_wordCell 34 = .ok (.iaload, 1) := by decide +kernel
theorem dNr_wordCell_35 : decode cNr_wordCell 35 = .ok (.iadd, 1) := by decide +kernel
theorem dNr_wordCell_36 : decode cNr_wordCell 36 = .ok (.iload_n 2, 1) := by decide +kernel
theorem dNr_wordCell_37 : decode cNr_wordCell 37 = .ok (.iadd, 1) := by decide +kernel
theorem dNr_wordCell_38 : decode cNr_wordCell 38 = .ok (.ireturn, 1) := by decide +kernel
theorem dNr_word_0 : decode cNr_word 0 = .ok (.aload_n 0, 1) := by decide +kernel
theorem dNr_word_1 : decode cNr_word 1 = .ok (.iload_n 1, 1) := by decide +kernel
theorem dNr_word_2 : decode cNr_word 2 = .ok (.iload_n 2, 1) := by decide +kernel
theorem dNr_word_3 : decode cNr_word 3 = .ok (.invokevirtual 100, 3) := by decide +kernel
theorem dNr_word_6 : decode cNr_word 6 = .ok (.istore_n 3, 1) := by decide +kernel
theorem dNr_word_7 : decode cNr_word 7 = .ok (.iload_n 3, 1) := by decide +kernel
theorem dNr_word_8 : decode cNr_word 8 = .ok (.ifCond .ne 13, 3) := by decide +kernel
theorem dNr_word_11 : decode cNr_word 11 = .ok (.new 92, 3) := by decide +kernel
theorem dNr_word_14 : decode cNr_word 14 = .ok (.dup, 1) := by decide +kernel
theorem dNr_word_15 : decode cNr_word 15 = .ok (.ldc 103, 2) := by decide +kernel
theorem dNr_word_17 : decode cNr_word 17 = .ok (.invokespecial 96, 3) := by decide +kernel
theorem dNr_word_20 : decode cNr_word 20 = .ok (.athrow, 1) := by decide +kernel
theorem dNr_word_21 : decode cNr_word 21 = .ok (.aload_n 0, 1) := by decide +kernel
theorem dNr_word_22 : decode cNr_word 22 = .ok (.getfield 23, 3) := by decide +kernel
theorem dNr_word_25 : decode cNr_word 25 = .ok (.iload_n 3, 1) := by decide +kernel
theorem dNr_word_26 : decode cNr_word 26 = .ok (.iaload, 1) := by decide +kernel
theorem dNr_word_27 : decode cNr_word 27 = .ok (.ireturn, 1) := by decide +kernel
theorem dNr_root_0 : decode cNr_root 0 = .ok (.iload_n 1, 1) := by decide +kernel
theorem dNr_root_1 : decode cNr_root 1 = .ok (.invokestatic 105, 3) := by decide +kernel
theorem dNr_root_4 : decode cNr_root 4 = .ok (.ifCond .eq 11, 3) := by decide +kernel
theorem dNr_root_7 : decode cNr_root 7 = .ok (.aload_n 0, 1) := by decide +kernel
theorem dNr_root_8 : decode cNr_root 8 = .ok (.iload_n 2, 1) := by decide +kernel
theorem dNr_root_9 : decode cNr_root 9 = .ok (.invokevirtual 88, 3) := by decide +kernel
theorem dNr_root_12 : decode cNr_root 12 = .ok (.ifCond .ne 13, 3) := by decide +kernel
theorem dNr_root_15 : decode cNr_root 15 = .ok (.new 92, 3) := by decide +kernel
theorem dNr_root_18 : decode cNr_root 18 = .ok (.dup, 1) := by decide +kernel
theorem dNr_root_19 : decode cNr_root 19 = .ok (.ldc 108, 2) := by decide +kernel
theorem dNr_root_21 : decode cNr_root 21 = .ok (.invokespecial 96, 3) := by decide +kernel
theorem dNr_root_24 : decode cNr_root 24 = .ok (.athrow, 1) := by decide +kernel
theorem dNr_root_25 : decode cNr_root 25 = .ok (.aload_n 0, 1) := by decide +kernel
theorem dNr_root_26 : decode cNr_root 26 = .ok (.getfield 16, 3) := by decide +kernel
theorem dNr_root_29 : decode cNr_root 29 = .ok (.iload_n 1, 1) := by decide +kernel
theorem dNr_root_30 : decode cNr_root 30 = .ok (.iaload, 1) := by decide +kernel
theorem dNr_root_31 : decode cNr_root 31 = .ok (.istore_n 3, 1) := by decide +kernel
theorem dNr_root_32 : decode cNr_root 32 = .ok (.aload_n 0, 1) := by decide +kernel
theorem dNr_root_33 : decode cNr_root 33 = .ok (.getfield 16, 3) := by decide +kernel
theorem dNr_root_36 : decode cNr_root 36 = .ok (.iload_n 1, 1) := by decide +kernel
theorem dNr_root_37 : decode cNr_root 37 = .ok (.iload_n 2, 1) := by decide +kernel
theorem dNr_root_38 : decode cNr_root 38 = .ok (.iastore, 1) := by decide +kernel
theorem dNr_root_39 : decode cNr_root 39 = .ok (.iload_n 3, 1) := by decide +kernel
theorem dNr_root_40 : decode cNr_root 40 = .ok (.ireturn, 1) := by decide +kernel
theorem dNr_isRoot_0 : decode cNr_isRoot 0 = .ok (.iload_n 0, 1) := by decide +kernel
theorem dNr_isRoot_1 : decode cNr_isRoot 1 = .ok (.ifCond .lt 13, 3) := by decide +kernel
theorem dNr_isRoot_4 : decode cNr_isRoot 4 = .ok (.iload_n 0, 1) := by decide +kernel
theorem dNr_isRoot_5 : decode cNr_isRoot 5 = .ok (.bipush 16, 2) := by decide +kernel
theorem dNr_isRoot_7 : decode cNr_isRoot 7 = .ok (.if_icmp .ge 7, 3) := by decide +kernel
theorem dNr_isRoot_10 : decode cNr_isRoot 10 = .ok (.iconst 1, 1) := by decide +kernel
theorem dNr_isRoot_11 : decode cNr_isRoot 11 = .ok (.goto 4, 3) := by decide +kernel
theorem dNr_isRoot_14 : decode cNr_isRoot 14 = .ok (.iconst 0, 1) := by decide +kernel
theorem dNr_isRoot_15 : decode cNr_isRoot 15 = .ok (.ireturn, 1) := by decide +kernel
theorem dNr_rooted_0 : decode cNr_rooted 0 = .ok (.iload_n 1, 1) := by decide +kernel
theorem dNr_rooted_1 : decode cNr_rooted 1 = .ok (.invokestatic 105, 3) := by decide +kernel
theorem dNr_rooted_4 : decode cNr_rooted 4 = .ok (.ifCond .ne 13, 3) := by decide +kernel
theorem dNr_rooted_7 : decode cNr_rooted 7 = .ok (.new 92, 3) := by decide +kernel
theorem dNr_rooted_10 : decode cNr_rooted 10 = .ok (.dup, 1) := by decide +kernel
theorem dNr_rooted_11 : decode cNr_rooted 11 = .ok (.ldc 110, 2) := by decide +kernel
theorem dNr_rooted_13 : decode cNr_rooted 13 = .ok (.invokespecial 96, 3) := by decide +kernel
theorem dNr_rooted_16 : decode cNr_rooted 16 = .ok (.athrow, 1) := by decide +kernel
theorem dNr_rooted_17 : decode cNr_rooted 17 = .ok (.aload_n 0, 1) := by decide +kernel
theorem dNr_rooted_18 : decode cNr_rooted 18 = .ok (.getfield 16, 3) := by decide +kernel
theorem dNr_rooted_21 : decode cNr_rooted 21 = .ok (.iload_n 1, 1) := by decide +kernel
theorem dNr_rooted_22 : decode cNr_rooted 22 = .ok (.iaload, 1) := by decide +kernel
theorem dNr_rooted_23 : decode cNr_rooted 23 = .ok (.ireturn, 1) := by decide +kernel
theorem dNr_collect_0 : decode cNr_collect 0 = .ok (.aload_n 0, 1) := by decide +kernel
theorem dNr_collect_1 : decode cNr_collect 1 = .ok (.getfield 11, 3) := by decide +kernel
theorem dNr_collect_4 : decode cNr_collect 4 = .ok (.iconst 0, 1) := by decide +kernel
theorem dNr_collect_5 : decode cNr_collect 5 = .ok (.aaload, 1) := by decide +kernel
theorem dNr_collect_6 : decode cNr_collect 6 = .ok (.astore_n 1, 1) := by decide +kernel
theorem dNr_collect_7 : decode cNr_collect 7 = .ok (.aload_n 0, 1) := by decide +kernel
theorem dNr_collect_8 : decode cNr_collect 8 = .ok (.getfield 11, 3) := by decide +kernel
theorem dNr_collect_11 : decode cNr_collect 11 = .ok (.iconst 1, 1) := by decide +kernel
theorem dNr_collect_12 : decode cNr_collect 12 = .ok (.aload_n 0, 1) := by decide +kernel
theorem dNr_collect_13 : decode cNr_collect 13 = .ok (.getfield 58, 3) := by decide +kernel
theorem dNr_collect_16 : decode cNr_collect 16 = .ok (.iadd, 1) := by decide +kernel
theorem dNr_collect_17 : decode cNr_collect 17 = .ok (.aaload, 1) := by decide +kernel
theorem dNr_collect_18 : decode cNr_collect 18 = .ok (.astore_n 2, 1) := by decide +kernel
theorem dNr_collect_19 : decode cNr_collect 19 = .ok (.aload_n 0, 1) := by decide +kernel
theorem dNr_collect_20 : decode cNr_collect 20 = .ok (.getfield 11, 3) := by decide +kernel
theorem dNr_collect_23 : decode cNr_collect 23 = .ok (.iconst 3, 1) := by decide +kernel
theorem dNr_collect_24 : decode cNr_collect 24 = .ok (.aaload, 1) := by decide +kernel
theorem dNr_collect_25 : decode cNr_collect 25 = .ok (.invokevirtual 74, 3) := by decide +kernel
theorem dNr_collect_28 : decode cNr_collect 28 = .ok (.aload_n 1, 1) := by decide +kernel
theorem dNr_collect_29 : decode cNr_collect 29 = .ok (.getfield 112, 3) := by decide +kernel
theorem dNr_collect_32 : decode cNr_collect 32 = .ok (.aload_n 2, 1) := by decide +kernel
theorem dNr_collect_33 : decode cNr_collect 33 = .ok (.getfield 112, 3) := by decide +kernel
theorem dNr_collect_36 : decode cNr_collect 36 = .ok (.iadd, 1) := by decide +kernel
theorem dNr_collect_37 : decode cNr_collect 37 = .ok (.if_icmp .ge 13, 3) := by decide +kernel
theorem dNr_collect_40 : decode cNr_collect 40 = .ok (.new 115, 3) := by decide +kernel
theorem dNr_collect_43 : decode cNr_collect 43 = .ok (.dup, 1) := by decide +kernel
theorem dNr_collect_44 : decode cNr_collect 44 = .ok (.ldc 117, 2) := by decide +kernel
theorem dNr_collect_46 : decode cNr_collect 46 = .ok (.invokespecial 119, 3) := by decide +kernel
theorem dNr_collect_49 : decode cNr_collect 49 = .ok (.athrow, 1) := by decide +kernel
theorem dNr_collect_50 : decode cNr_collect 50 = .ok (.aload_n 0, 1) := by decide +kernel
theorem dNr_collect_51 : decode cNr_collect 51 = .ok (.getfield 11, 3) := by decide +kernel
theorem dNr_collect_54 : decode cNr_collect 54 = .ok (.iconst 3, 1) := by decide +kernel
theorem dNr_collect_55 : decode cNr_collect 55 = .ok (.aaload, 1) := by decide +kernel
theorem dNr_collect_56 : decode cNr_collect 56 = .ok (.getfield 120, 3) := by decide +kernel
theorem dNr_collect_59 : decode cNr_collect 59 = .ok (.istore_n 3, 1) := by decide +kernel
theorem dNr_collect_60 : decode cNr_collect 60 = .ok (.aload_n 0, 1) := by decide +kernel
theorem dNr_collect_61 : decode cNr_collect 61 = .ok (.iconst 0, 1) := by decide +kernel
theorem dNr_collect_62 : decode cNr_collect 62 = .ok (.putfield 123, 3) := by decide +kernel
theorem dNr_collect_65 : decode cNr_collect 65 = .ok (.aload_n 0, 1) := by decide +kernel
theorem dNr_collect_66 : decode cNr_collect 66 = .ok (.invokevirtual 126, 3) := by decide +kernel
theorem dNr_collect_69 : decode cNr_collect 69 = .ok (.aload_n 0, 1) := by decide +kernel
theorem dNr_collect_70 : decode cNr_collect 70 = .ok (.iload_n 3, 1) := by decide +kernel
theorem dNr_collect_71 : decode cNr_collect 71 = .ok (.invokevirtual 129, 3) := by decide +kernel
theorem dNr_collect_74 : decode cNr_collect 74 = .ok (.aload_n 0, 1) := by decide +kernel
theorem dNr_collect_75 : decode cNr_collect 75 = .ok (.invokevirtual 133, 3) := by decide +kernel
theorem dNr_collect_78 : decode cNr_collect 78 = .ok (.aload_n 1, 1) := by decide +kernel
theorem dNr_collect_79 : decode cNr_collect 79 = .ok (.invokevirtual 136, 3) := by decide +kernel
theorem dNr_collect_82 : decode cNr_collect 82 = .ok (.aload_n 2, 1) := by decide +kernel
theorem dNr_collect_83 : decode cNr_collect 83 = .ok (.invokevirtual 136, 3) := by decide +kernel
theorem dNr_collect_86 : decode cNr_collect 86 = .ok (.aload_n 0, 1) := by decide +kernel
theorem dNr_collect_87 : decode cNr_collect 87 = .ok (.iconst 1, 1) := by decide +kernel
theorem dNr_collect_88 : decode cNr_collect 88 = .ok (.aload_n 0, 1) := by decide +kernel
theorem dNr_collect_89 : decode cNr_collect 89 = .ok (.getfield 58, 3) := by decide +kernel
theorem dNr_collect_92 : decode cNr_collect 92 = .ok (.isub, 1) := by decide +kernel
theorem dNr_collect_93 : decode cNr_collect 93 = .ok (.putfield 58, 3) := by decide +kernel
theorem dNr_collect_96 : decode cNr_collect 96 = .ok (.aload_n 0, 1) := by decide +kernel
theorem dNr_collect_97 : decode cNr_collect 97 = .ok (.dup, 1) := by decide +kernel
theorem dNr_collect_98 : decode cNr_collect 98 = .ok (.getfield 61, 3) := by decide +kernel
theorem dNr_collect_101 : decode cNr_collect 101 = .ok (.iconst 1, 1) := by decide +kernel
theorem dNr_collect_102 : decode cNr_collect 102 = .ok (.iadd, 1) := by decide +kernel
theorem dNr_collect_103 : decode cNr_collect 103 = .ok (.putfield 61, 3) := by decide +kernel
theorem dNr_collect_106 : decode cNr_collect 106 = .ok (.aload_n 0, 1) := by decide +kernel
theorem dNr_collect_107 : decode cNr_collect 107 = .ok (.getfield 123, 3) := by decide +kernel
theorem dNr_collect_110 : decode cNr_collect 110 = .ok (.ireturn, 1) := by decide +kernel
theorem dNr_followRoots_0 : decode cNr_followRoots 0 = .ok (.iconst 0, 1) := by decide +kernel
theorem dNr_followRoots_1 : decode cNr_followRoots 1 = .ok (.istore_n 1, 1) := by decide +kernel
theorem dNr_followRoots_2 : decode cNr_followRoots 2 = .ok (.iload_n 1, 1) := by decide +kernel
theorem dNr_followRoots_3 : decode cNr_followRoots 3 = .ok (.bipush 16, 2) := by decide +kernel
theorem dNr_followRoots_5 : decode cNr_followRoots 5 = .ok (.if_icmp .ge 25, 3) := by decide +kernel
theorem dNr_followRoots_8 : decode cNr_followRoots 8 = .ok (.aload_n 0, 1) := by decide +kernel
theorem dNr_followRoots_9 : decode cNr_followRoots 9 = .ok (.getfield 16, 3) := by decide +kernel
theorem dNr_followRoots_12 : decode cNr_followRoots 12 = .ok (.iload_n 1, 1) := by decide +kernel
theorem dNr_followRoots_13 : decode cNr_followRoots 13 = .ok (.aload_n 0, 1) := by decide +kernel
theorem dNr_followRoots_14 : decode cNr_followRoots 14 = .ok (.aload_n 0, 1) := by decide +kernel
theorem dNr_followRoots_15 : decode cNr_followRoots 15 = .ok (.getfield 16, 3) := by decide +kernel
theorem dNr_followRoots_18 : decode cNr_followRoots 18 = .ok (.iload_n 1, 1) := by decide +kernel
theorem dNr_followRoots_19 : decode cNr_followRoots 19 = .ok (.iaload, 1) := by decide +kernel
theorem dNr_followRoots_20 : decode cNr_followRoots 20 = .ok (.invokevirtual 167, 3) := by decide +kernel
theorem dNr_followRoots_23 : decode cNr_followRoots 23 = .ok (.iastore, 1) := by decide +kernel
theorem dNr_followRoots_24 : decode cNr_followRoots 24 = .ok (.iinc 1 1, 3) := by decide +kernel
theorem dNr_followRoots_27 : decode cNr_followRoots 27 = .ok (.goto (-25), 3) := by decide +kernel
theorem dNr_followRoots_30 : decode cNr_followRoots 30 = .ok (.return_, 1) := by decide +kernel
theorem dNr_follow_0 : decode cNr_follow 0 = .ok (.aload_n 0, 1) := by decide +kernel
theorem dNr_follow_1 : decode cNr_follow 1 = .ok (.iload_n 1, 1) := by decide +kernel
theorem dNr_follow_2 : decode cNr_follow 2 = .ok (.invokevirtual 173, 3) := by decide +kernel
theorem dNr_follow_5 : decode cNr_follow 5 = .ok (.ifCond .ne 5, 3) := by decide +kernel
theorem dNr_follow_8 : decode cNr_follow 8 = .ok (.iload_n 1, 1) := by decide +kernel
theorem dNr_follow_9 : decode cNr_follow 9 = .ok (.ireturn, 1) := by decide +kernel
theorem dNr_follow_10 : decode cNr_follow 10 = .ok (.aload_n 0, 1) := by decide +kernel
theorem dNr_follow_11 : decode cNr_follow 11 = .ok (.getfield 23, 3) := by decide +kernel
theorem dNr_follow_14 : decode cNr_follow 14 = .ok (.iload_n 1, 1) := by decide +kernel
theorem dNr_follow_15 : decode cNr_follow 15 = .ok (.iaload, 1) := by decide +kernel
theorem dNr_follow_16 : decode cNr_follow 16 = .ok (.ifCond .ge 13, 3) := by decide +kernel
theorem dNr_follow_19 : decode cNr_follow 19 = .ok (.aload_n 0, 1) := by decide +kernel
theorem dNr_follow_20 : decode cNr_follow 20 = .ok (.getfield 23, 3) := by decide +kernel
theorem dNr_follow_23 : decode cNr_follow 23 = .ok (.iload_n 1, 1) := by decide +kernel
theorem dNr_follow_24 : decode cNr_follow 24 = .ok (.iaload, 1) := by decide +kernel
theorem dNr_follow_25 : decode cNr_follow 25 = .ok (.ineg, 1) := by decide +kernel
theorem dNr_follow_26 : decode cNr_follow 26 = .ok (.goto 8, 3) := by decide +kernel
theorem dNr_follow_29 : decode cNr_follow 29 = .ok (.aload_n 0, 1) := by decide +kernel
theorem dNr_follow_30 : decode cNr_follow 30 = .ok (.iload_n 1, 1) := by decide +kernel
theorem dNr_follow_31 : decode cNr_follow 31 = .ok (.invokevirtual 176, 3) := by decide +kernel
theorem dNr_follow_34 : decode cNr_follow 34 = .ok (.ireturn, 1) := by decide +kernel
theorem dNr_isYoung_0 : decode cNr_isYoung 0 = .ok (.aload_n 0, 1) := by decide +kernel
theorem dNr_isYoung_1 : decode cNr_isYoung 1 = .ok (.getfield 11, 3) := by decide +kernel
theorem dNr_isYoung_4 : decode cNr_isYoung 4 = .ok (.iconst 0, 1) := by decide +kernel
theorem dNr_isYoung_5 : decode cNr_isYoung 5 = .ok (.aaload, 1) := by decide +kernel
theorem dNr_isYoung_6 : decode cNr_isYoung 6 = .ok (.iload_n 1, 1) := by decide +kernel
theorem dNr_isYoung_7 : decode cNr_isYoung 7 = .ok (.invokevirtual 153, 3) := by decide +kernel
theorem dNr_isYoung_10 : decode cNr_isYoung 10 = .ok (.ifCond .ne 21, 3) := by decide +kernel
theorem dNr_isYoung_13 : decode cNr_isYoung 13 = .ok (.aload_n 0, 1) := by decide +kernel
theorem dNr_isYoung_14 : decode cNr_isYoung 14 = .ok (.getfield 11, 3) := by decide +kernel
theorem dNr_isYoung_17 : decode cNr_isYoung 17 = .ok (.iconst 1, 1) := by decide +kernel
theorem dNr_isYoung_18 : decode cNr_isYoung 18 = .ok (.aload_n 0, 1) := by decide +kernel
theorem dNr_isYoung_19 : decode cNr_isYoung 19 = .ok (.getfield 58, 3) := by decide +kernel
theorem dNr_isYoung_22 : decode cNr_isYoung 22 = .ok (.iadd, 1) := by decide +kernel
theorem dNr_isYoung_23 : decode cNr_isYoung 23 = .ok (.aaload, 1) := by decide +kernel
theorem dNr_isYoung_24 : decode cNr_isYoung 24 = .ok (.iload_n 1, 1) := by decide +kernel
theorem dNr_isYoung_25 : decode cNr_isYoung 25 = .ok (.invokevirtual 153, 3) := by decide +kernel
theorem dNr_isYoung_28 : decode cNr_isYoung 28 = .ok (.ifCond .eq 7, 3) := by decide +kernel
theorem dNr_isYoung_31 : decode cNr_isYoung 31 = .ok (.iconst 1, 1) := by decide +kernel
theorem dNr_isYoung_32 : decode cNr_isYoung 32 = .ok (.goto 4, 3) := by decide +kernel
theorem dNr_isYoung_35 : decode cNr_isYoung 35 = .ok (.iconst 0, 1) := by decide +kernel
theorem dNr_isYoung_36 : decode cNr_isYoung 36 = .ok (.ireturn, 1) := by decide +kernel
theorem dNr_copyOf_0 : decode cNr_copyOf 0 = .ok (.aload_n 0, 1) := by decide +kernel
theorem dNr_copyOf_1 : decode cNr_copyOf 1 = .ok (.iload_n 1, 1) := by decide +kernel
theorem dNr_copyOf_2 : decode cNr_copyOf 2 = .ok (.invokevirtual 150, 3) := by decide +kernel
theorem dNr_copyOf_5 : decode cNr_copyOf 5 = .ok (.istore_n 2, 1) := by decide +kernel
theorem dNr_copyOf_6 : decode cNr_copyOf 6 = .ok (.aload_n 0, 1) := by decide +kernel
theorem dNr_copyOf_7 : decode cNr_copyOf 7 = .ok (.getfield 11, 3) := by decide +kernel
theorem dNr_copyOf_10 : decode cNr_copyOf 10 = .ok (.iconst 2, 1) := by decide +kernel
theorem dNr_copyOf_11 : decode cNr_copyOf 11 = .ok (.aload_n 0, 1) := by decide +kernel
theorem dNr_copyOf_12 : decode cNr_copyOf 12 = .ok (.getfield 58, 3) := by decide +kernel
theorem dNr_copyOf_15 : decode cNr_copyOf 15 = .ok (.isub, 1) := by decide +kernel
theorem dNr_copyOf_16 : decode cNr_copyOf 16 = .ok (.aaload, 1) := by decide +kernel
theorem dNr_copyOf_17 : decode cNr_copyOf 17 = .ok (.astore_n 3, 1) := by decide +kernel
theorem dNr_copyOf_18 : decode cNr_copyOf 18 = .ok (.aload_n 0, 1) := by decide +kernel
theorem dNr_copyOf_19 : decode cNr_copyOf 19 = .ok (.getfield 23, 3) := by decide +kernel
theorem dNr_copyOf_22 : decode cNr_copyOf 22 = .ok (.iload_n 1, 1) := by decide +kernel
theorem dNr_copyOf_23 : decode cNr_copyOf 23 = .ok (.iconst 2, 1) := by decide +kernel
theorem dNr_copyOf_24 : decode cNr_copyOf 24 = .ok (.iadd, 1) := by decide +kernel
theorem dNr_copyOf_25 : decode cNr_copyOf 25 = .ok (.iaload, 1) := by decide +kernel
theorem dNr_copyOf_26 : decode cNr_copyOf 26 = .ok (.aload_n 0, 1) := by decide +kernel
theorem dNr_copyOf_27 : decode cNr_copyOf 27 = .ok (.getfield 26, 3) := by decide +kernel
theorem dNr_copyOf_30 : decode cNr_copyOf 30 = .ok (.if_icmp .ge 15, 3) := by decide +kernel
theorem dNr_copyOf_33 : decode cNr_copyOf 33 = .ok (.aload_n 3, 1) := by decide +kernel
theorem dNr_copyOf_34 : decode cNr_copyOf 34 = .ok (.invokevirtual 74, 3) := by decide +kernel
theorem dNr_copyOf_37 : decode cNr_copyOf 37 = .ok (.iload_n 2, 1) := by decide +kernel
theorem dNr_copyOf_38 : decode cNr_copyOf 38 = .ok (.if_icmp .lt 7, 3) := by decide +kernel
theorem dNr_copyOf_41 : decode cNr_copyOf 41 = .ok (.iconst 1, 1) := by decide +kernel
theorem dNr_copyOf_42 : decode cNr_copyOf 42 = .ok (.goto 4, 3) := by decide +kernel
theorem dNr_copyOf_45 : decode cNr_copyOf 45 = .ok (.iconst 0, 1) := by decide +kernel
theorem dNr_copyOf_46 : decode cNr_copyOf 46 = .ok (.istore 4, 2) := by decide +kernel
theorem dNr_copyOf_48 : decode cNr_copyOf 48 = .ok (.iload 4, 2) := by decide +kernel
theorem dNr_copyOf_50 : decode cNr_copyOf 50 = .ok (.ifCond .eq 11, 3) := by decide +kernel
theorem dNr_copyOf_53 : decode cNr_copyOf 53 = .ok (.aload_n 3, 1) := by decide +kernel
theorem dNr_copyOf_54 : decode cNr_copyOf 54 = .ok (.iload_n 2, 1) := by decide +kernel
theorem dNr_copyOf_55 : decode cNr_copyOf 55 = .ok (.invokevirtual 77, 3) := by decide +kernel
theorem dNr_copyOf_58 : decode cNr_copyOf 58 = .ok (.goto 13, 3) := by decide +kernel
theorem dNr_copyOf_61 : decode cNr_copyOf 61 = .ok (.aload_n 0, 1) := by decide +kernel
theorem dNr_copyOf_62 : decode cNr_copyOf 62 = .ok (.getfield 11, 3) := by decide +kernel
theorem dNr_copyOf_65 : decode cNr_copyOf 65 = .ok (.iconst 3, 1) := by decide +kernel
theorem dNr_copyOf_66 : decode cNr_copyOf 66 = .ok (.aaload, 1) := by decide +kernel
theorem dNr_copyOf_67 : decode cNr_copyOf 67 = .ok (.iload_n 2, 1) := by decide +kernel
theorem dNr_copyOf_68 : decode cNr_copyOf 68 = .ok (.invokevirtual 77, 3) := by decide +kernel
theorem dNr_copyOf_71 : decode cNr_copyOf 71 = .ok (.istore 5, 2) := by decide +kernel
theorem dNr_copyOf_73 : decode cNr_copyOf 73 = .ok (.aload_n 0, 1) := by decide +kernel
theorem dNr_copyOf_74 : decode cNr_copyOf 74 = .ok (.getfield 23, 3) := by decide +kernel
theorem dNr_copyOf_77 : decode cNr_copyOf 77 = .ok (.iload_n 1, 1) := by decide +kernel
theorem dNr_copyOf_78 : decode cNr_copyOf 78 = .ok (.aload_n 0, 1) := by decide +kernel
theorem dNr_copyOf_79 : decode cNr_copyOf 79 = .ok (.getfield 23, 3) := by decide +kernel
theorem dNr_copyOf_82 : decode cNr_copyOf 82 = .ok (.iload 5, 2) := by decide +kernel
theorem dNr_copyOf_84 : decode cNr_copyOf 84 = .ok (.iload_n 2, 1) := by decide +kernel
theorem dNr_copyOf_85 : decode cNr_copyOf 85 = .ok (.invokestatic 179, 3) := by decide +kernel
theorem dNr_copyOf_88 : decode cNr_copyOf 88 = .ok (.iload 4, 2) := by decide +kernel
theorem dNr_copyOf_90 : decode cNr_copyOf 90 = .ok (.ifCond .eq 29, 3) := by decide +kernel
theorem dNr_copyOf_93 : decode cNr_copyOf 93 = .ok (.aload_n 0, 1) := by decide +kernel
theorem dNr_copyOf_94 : decode cNr_copyOf 94 = .ok (.getfield 23, 3) := by decide +kernel
theorem dNr_copyOf_97 : decode cNr_copyOf 97 = .ok (.iload 5, 2) := by decide +kernel
theorem dNr_copyOf_99 : decode cNr_copyOf 99 = .ok (.iconst 2, 1) := by decide +kernel
theorem dNr_copyOf_100 : decode cNr_copyOf 100 = .ok (.iadd, 1) := by decide +kernel
theorem dNr_copyOf_101 : decode cNr_copyOf 101 = .ok (.dup2, 1) := by decide +kernel
theorem dNr_copyOf_102 : decode cNr_copyOf 102 = .ok (.iaload, 1) := by decide +kernel
theorem dNr_copyOf_103 : decode cNr_copyOf 103 = .ok (.iconst 1, 1) := by decide +kernel
theorem dNr_copyOf_104 : decode cNr_copyOf 104 = .ok (.iadd, 1) := by decide +kernel
theorem dNr_copyOf_105 : decode cNr_copyOf 105 = .ok (.iastore, 1) := by decide +kernel
theorem dNr_copyOf_106 : decode cNr_copyOf 106 = .ok (.aload_n 0, 1) := by decide +kernel
theorem dNr_copyOf_107 : decode cNr_copyOf 107 = .ok (.dup, 1) := by decide +kernel
theorem dNr_copyOf_108 : decode cNr_copyOf 108 = .ok (.getfield 64, 3) := by decide +kernel
theorem dNr_copyOf_111 : decode cNr_copyOf 111 = .ok (.iconst 1, 1) := by decide +kernel
theorem dNr_copyOf_112 : decode cNr_copyOf 112 = .ok (.iadd, 1) := by decide +kernel
theorem dNr_copyOf_113 : decode cNr_copyOf 113 = .ok (.putfield 64, 3) := by decide +kernel
theorem dNr_copyOf_116 : decode cNr_copyOf 116 = .ok (.goto 13, 3) := by decide +kernel
theorem dNr_copyOf_119 : decode cNr_copyOf 119 = .ok (.aload_n 0, 1) := by decide +kernel
theorem dNr_copyOf_120 : decode cNr_copyOf 120 = .ok (.dup, 1) := by decide +kernel
theorem dNr_copyOf_121 : decode cNr_copyOf 121 = .ok (.getfield 67, 3) := by decide +kernel
theorem dNr_copyOf_124 : decode cNr_copyOf 124 = .ok (.iconst 1, 1) := by decide +kernel
theorem dNr_copyOf_125 : decode cNr_copyOf 125 = .ok (.iadd, 1) := by decide +kernel
theorem dNr_copyOf_126 : decode cNr_copyOf 126 = .ok (.putfield 67, 3) := by decide +kernel
theorem dNr_copyOf_129 : decode cNr_copyOf 129 = .ok (.aload_n 0, 1) := by decide +kernel
theorem dNr_copyOf_130 : decode cNr_copyOf 130 = .ok (.getfield 23, 3) := by decide +kernel
theorem dNr_copyOf_133 : decode cNr_copyOf 133 = .ok (.iload_n 1, 1) := by decide +kernel
theorem dNr_copyOf_134 : decode cNr_copyOf 134 = .ok (.iload 5, 2) := by decide +kernel
theorem dNr_copyOf_136 : decode cNr_copyOf 136 = .ok (.ineg, 1) := by decide +kernel
theorem dNr_copyOf_137 : decode cNr_copyOf 137 = .ok (.iastore, 1) := by decide +kernel
theorem dNr_copyOf_138 : decode cNr_copyOf 138 = .ok (.aload_n 0, 1) := by decide +kernel
theorem dNr_copyOf_139 : decode cNr_copyOf 139 = .ok (.iload 5, 2) := by decide +kernel
theorem dNr_copyOf_141 : decode cNr_copyOf 141 = .ok (.invokevirtual 185, 3) := by decide +kernel
theorem dNr_copyOf_144 : decode cNr_copyOf 144 = .ok (.iload 5, 2) := by decide +kernel
theorem dNr_copyOf_146 : decode cNr_copyOf 146 = .ok (.ireturn, 1) := by decide +kernel
theorem dNr_noteCopy_0 : decode cNr_noteCopy 0 = .ok (.aload_n 0, 1) := by decide +kernel
theorem dNr_noteCopy_1 : decode cNr_noteCopy 1 = .ok (.getfield 123, 3) := by decide +kernel
theorem dNr_noteCopy_4 : decode cNr_noteCopy 4 = .ok (.aload_n 0, 1) := by decide +kernel
theorem dNr_noteCopy_5 : decode cNr_noteCopy 5 = .ok (.getfield 20, 3) := by decide +kernel
theorem dNr_noteCopy_8 : decode cNr_noteCopy 8 = .ok (.arraylength, 1) := by decide +kernel
theorem dNr_noteCopy_9 : decode cNr_noteCopy 9 = .ok (.if_icmp .ge 23, 3) := by decide +kernel
theorem dNr_noteCopy_12 : decode cNr_noteCopy 12 = .ok (.aload_n 0, 1) := by decide +kernel
theorem dNr_noteCopy_13 : decode cNr_noteCopy 13 = .ok (.getfield 20, 3) := by decide +kernel
theorem dNr_noteCopy_16 : decode cNr_noteCopy 16 = .ok (.aload_n 0, 1) := by decide +kernel
theorem dNr_noteCopy_17 : decode cNr_noteCopy 17 = .ok (.getfield 123, 3) := by decide +kernel
theorem dNr_noteCopy_20 : decode cNr_noteCopy 20 = .ok (.iload_n 1, 1) := by decide +kernel
theorem dNr_noteCopy_21 : decode cNr_noteCopy 21 = .ok (.iastore, 1) := by decide +kernel
theorem dNr_noteCopy_22 : decode cNr_noteCopy 22 = .ok (.aload_n 0, 1) := by decide +kernel
theorem dNr_noteCopy_23 : decode cNr_noteCopy 23 = .ok (.dup, 1) := by decide +kernel
theorem dNr_noteCopy_24 : decode cNr_noteCopy 24 = .ok (.getfield 123, 3) := by decide +kernel
theorem dNr_noteCopy_27 : decode cNr_noteCopy 27 = .ok (.iconst 1, 1) := by decide +kernel
theorem dNr_noteCopy_28 : decode cNr_noteCopy 28 = .ok (.iadd, 1) := by decide +kernel
theorem dNr_noteCopy_29 : decode cNr_noteCopy 29 = .ok (.putfield 123, 3) := by decide +kernel
theorem dNr_noteCopy_32 : decode cNr_noteCopy 32 = .ok (.return_, 1) := by decide +kernel
theorem dNr_followOld_0 : decode cNr_followOld 0 = .ok (.aload_n 0, 1) := by decide +kernel
theorem dNr_followOld_1 : decode cNr_followOld 1 = .ok (.getfield 11, 3) := by decide +kernel
theorem dNr_followOld_4 : decode cNr_followOld 4 = .ok (.iconst 3, 1) := by decide +kernel
theorem dNr_followOld_5 : decode cNr_followOld 5 = .ok (.aaload, 1) := by decide +kernel
theorem dNr_followOld_6 : decode cNr_followOld 6 = .ok (.getfield 164, 3) := by decide +kernel
theorem dNr_followOld_9 : decode cNr_followOld 9 = .ok (.istore_n 2, 1) := by decide +kernel
theorem dNr_followOld_10 : decode cNr_followOld 10 = .ok (.iconst 0, 1) := by decide +kernel
theorem dNr_followOld_11 : decode cNr_followOld 11 = .ok (.istore_n 3, 1) := by decide +kernel
theorem dNr_followOld_12 : decode cNr_followOld 12 = .ok (.iload_n 3, 1) := by decide +kernel
theorem dNr_followOld_13 : decode cNr_followOld 13 = .ok (.iload_n 1, 1) := by decide +kernel
theorem dNr_followOld_14 : decode cNr_followOld 14 = .ok (.if_icmp .ge 22, 3) := by decide +kernel
theorem dNr_followOld_17 : decode cNr_followOld 17 = .ok (.aload_n 0, 1) := by decide +kernel
theorem dNr_followOld_18 : decode cNr_followOld 18 = .ok (.iload_n 2, 1) := by decide +kernel
theorem dNr_followOld_19 : decode cNr_followOld 19 = .ok (.invokevirtual 170, 3) := by decide +kernel
theorem dNr_followOld_22 : decode cNr_followOld 22 = .ok (.iload_n 2, 1) := by decide +kernel
theorem dNr_followOld_23 : decode cNr_followOld 23 = .ok (.aload_n 0, 1) := by decide +kernel
theorem dNr_followOld_24 : decode cNr_followOld 24 = .ok (.iload_n 2, 1) := by decide +kernel
theorem dNr_followOld_25 : decode cNr_followOld 25 = .ok (.invokevirtual 150, 3) := by decide +kernel
theorem dNr_followOld_28 : decode cNr_followOld 28 = .ok (.iadd, 1) := by decide +kernel
theorem dNr_followOld_29 : decode cNr_followOld 29 = .ok (.istore_n 2, 1) := by decide +kernel
theorem dNr_followOld_30 : decode cNr_followOld 30 = .ok (.iinc 3 1, 3) := by decide +kernel
theorem dNr_followOld_33 : decode cNr_followOld 33 = .ok (.goto (-21), 3) := by decide +kernel
theorem dNr_followOld_36 : decode cNr_followOld 36 = .ok (.return_, 1) := by decide +kernel
theorem dNr_followFields_0 : decode cNr_followFields 0 = .ok (.iload_n 1, 1) := by decide +kernel
theorem dNr_followFields_1 : decode cNr_followFields 1 = .ok (.iconst 3, 1) := by decide +kernel
theorem dNr_followFields_2 : decode cNr_followFields 2 = .ok (.iadd, 1) := by decide +kernel
theorem dNr_followFields_3 : decode cNr_followFields 3 = .ok (.aload_n 0, 1) := by decide +kernel
theorem dNr_followFields_4 : decode cNr_followFields 4 = .ok (.getfield 23, 3) := by decide +kernel
theorem dNr_followFields_7 : decode cNr_followFields 7 = .ok (.iload_n 1, 1) := by decide +kernel
theorem dNr_followFields_8 : decode cNr_followFields 8 = .ok (.iaload, 1) := by decide +kernel
theorem dNr_followFields_9 : decode cNr_followFields 9 = .ok (.iadd, 1) := by decide +kernel
theorem dNr_followFields_10 : decode cNr_followFields 10 = .ok (.istore_n 2, 1) := by decide +kernel
theorem dNr_followFields_11 : decode cNr_followFields 11 = .ok (.iload_n 1, 1) := by decide +kernel
theorem dNr_followFields_12 : decode cNr_followFields 12 = .ok (.iconst 3, 1) := by decide +kernel
theorem dNr_followFields_13 : decode cNr_followFields 13 = .ok (.iadd, 1) := by decide +kernel
theorem dNr_followFields_14 : decode cNr_followFields 14 = .ok (.istore_n 3, 1) := by decide +kernel
theorem dNr_followFields_15 : decode cNr_followFields 15 = .ok (.iload_n 3, 1) := by decide +kernel
theorem dNr_followFields_16 : decode cNr_followFields 16 = .ok (.iload_n 2, 1) := by decide +kernel
theorem dNr_followFields_17 : decode cNr_followFields 17 = .ok (.if_icmp .ge 25, 3) := by decide +kernel
theorem dNr_followFields_20 : decode cNr_followFields 20 = .ok (.aload_n 0, 1) := by decide +kernel
theorem dNr_followFields_21 : decode cNr_followFields 21 = .ok (.getfield 23, 3) := by decide +kernel
theorem dNr_followFields_24 : decode cNr_followFields 24 = .ok (.iload_n 3, 1) := by decide +kernel
theorem dNr_followFields_25 : decode cNr_followFields 25 = .ok (.aload_n 0, 1) := by decide +kernel
theorem dNr_followFields_26 : decode cNr_followFields 26 = .ok (.aload_n 0, 1) := by decide +kernel
theorem dNr_followFields_27 : decode cNr_followFields 27 = .ok (.getfield 23, 3) := by decide +kernel
theorem dNr_followFields_30 : decode cNr_followFields 30 = .ok (.iload_n 3, 1) := by decide +kernel
theorem dNr_followFields_31 : decode cNr_followFields 31 = .ok (.iaload, 1) := by decide +kernel
theorem dNr_followFields_32 : decode cNr_followFields 32 = .ok (.invokevirtual 167, 3) := by decide +kernel
theorem dNr_followFields_35 : decode cNr_followFields 35 = .ok (.iastore, 1) := by decide +kernel
theorem dNr_followFields_36 : decode cNr_followFields 36 = .ok (.iinc 3 1, 3) := by decide +kernel
theorem dNr_followFields_39 : decode cNr_followFields 39 = .ok (.goto (-24), 3) := by decide +kernel
theorem dNr_followFields_42 : decode cNr_followFields 42 = .ok (.return_, 1) := by decide +kernel
theorem dNr_followCopies_0 : decode cNr_followCopies 0 = .ok (.iconst 0, 1) := by decide +kernel
theorem dNr_followCopies_1 : decode cNr_followCopies 1 = .ok (.istore_n 1, 1) := by decide +kernel
theorem dNr_followCopies_2 : decode cNr_followCopies 2 = .ok (.iload_n 1, 1) := by decide +kernel
theorem dNr_followCopies_3 : decode cNr_followCopies 3 = .ok (.aload_n 0, 1) := by decide +kernel
theorem dNr_followCopies_4 : decode cNr_followCopies 4 = .ok (.getfield 123, 3) := by decide +kernel
theorem dNr_followCopies_7 : decode cNr_followCopies 7 = .ok (.if_icmp .ge 28, 3) := by decide +kernel
theorem dNr_followCopies_10 : decode cNr_followCopies 10 = .ok (.iload_n 1, 1) := by decide +kernel
theorem dNr_followCopies_11 : decode cNr_followCopies 11 = .ok (.aload_n 0, 1) := by decide +kernel
theorem dNr_followCopies_12 : decode cNr_followCopies 12 = .ok (.getfield 20, 3) := by decide +kernel
theorem dNr_followCopies_15 : decode cNr_followCopies 15 = .ok (.arraylength, 1) := by decide +kernel
theorem dNr_followCopies_16 : decode cNr_followCopies 16 = .ok (.if_icmp .ge 19, 3) := by decide +kernel
theorem dNr_followCopies_19 : decode cNr_followCopies 19 = .ok (.aload_n 0, 1) := by decide +kernel
theorem dNr_followCopies_20 : decode cNr_followCopies 20 = .ok (.aload_n 0, 1) := by decide +kernel
theorem dNr_followCopies_21 : decode cNr_followCopies 21 = .ok (.getfield 20, 3) := by decide +kernel
theorem dNr_followCopies_24 : decode cNr_followCopies 24 = .ok (.iload_n 1, 1) := by decide +kernel
theorem dNr_followCopies_25 : decode cNr_followCopies 25 = .ok (.iaload, 1) := by decide +kernel
theorem dNr_followCopies_26 : decode cNr_followCopies 26 = .ok (.invokevirtual 170, 3) := by decide +kernel
theorem dNr_followCopies_29 : decode cNr_followCopies 29 = .ok (.iinc 1 1, 3) := by decide +kernel
theorem dNr_followCopies_32 : decode cNr_followCopies 32 = .ok (.goto (-30), 3) := by decide +kernel
theorem dNr_followCopies_35 : decode cNr_followCopies 35 = .ok (.return_, 1) := by decide +kernel
theorem dNr_about_0 : decode cNr_about 0 = .ok (.aload_n 0, 1) := by decide +kernel
theorem dNr_about_1 : decode cNr_about 1 = .ok (.iload_n 1, 1) := by decide +kernel
theorem dNr_about_2 : decode cNr_about 2 = .ok (.invokevirtual 139, 3) := by decide +kernel
theorem dNr_about_5 : decode cNr_about 5 = .ok (.ifCond .ne 13, 3) := by decide +kernel
theorem dNr_about_8 : decode cNr_about 8 = .ok (.new 92, 3) := by decide +kernel
theorem dNr_about_11 : decode cNr_about 11 = .ok (.dup, 1) := by decide +kernel
theorem dNr_about_12 : decode cNr_about 12 = .ok (.ldc 72, 2) := by decide +kernel
theorem dNr_about_14 : decode cNr_about 14 = .ok (.invokespecial 96, 3) := by decide +kernel
theorem dNr_about_17 : decode cNr_about 17 = .ok (.athrow, 1) := by decide +kernel
theorem dNr_about_18 : decode cNr_about 18 = .ok (.iload_n 2, 1) := by decide +kernel
theorem dNr_about_19 : decode cNr_about 19 = .ok (.tableswitch 60 0 3 #[29, 38, 45, 54], 29) := by decide +kernel
theorem dNr_about_48 : decode cNr_about 48 = .ok (.aload_n 0, 1) := by decide +kernel
theorem dNr_about_49 : decode cNr_about 49 = .ok (.getfield 23, 3) := by decide +kernel
theorem dNr_about_52 : decode cNr_about 52 = .ok (.iload_n 1, 1) := by decide +kernel
theorem dNr_about_53 : decode cNr_about 53 = .ok (.iconst 2, 1) := by decide +kernel
theorem dNr_about_54 : decode cNr_about 54 = .ok (.iadd, 1) := by decide +kernel
theorem dNr_about_55 : decode cNr_about 55 = .ok (.iaload, 1) := by decide +kernel
theorem dNr_about_56 : decode cNr_about 56 = .ok (.ireturn, 1) := by decide +kernel
theorem dNr_about_57 : decode cNr_about 57 = .ok (.aload_n 0, 1) := by decide +kernel
theorem dNr_about_58 : decode cNr_about 58 = .ok (.getfield 23, 3) := by decide +kernel
theorem dNr_about_61 : decode cNr_about 61 = .ok (.iload_n 1, 1) := by decide +kernel
theorem dNr_about_62 : decode cNr_about 62 = .ok (.iaload, 1) := by decide +kernel
theorem dNr_about_63 : decode cNr_about 63 = .ok (.ireturn, 1) := by decide +kernel
theorem dNr_about_64 : decode cNr_about 64 = .ok (.aload_n 0, 1) := by decide +kernel
theorem dNr_about_65 : decode cNr_about 65 = .ok (.getfield 23, 3) := by decide +kernel
theorem dNr_about_68 : decode cNr_about 68 = .ok (.iload_n 1, 1) := by decide +kernel
theorem dNr_about_69 : decode cNr_about 69 = .ok (.iconst 1, 1) := by decide +kernel
theorem dNr_about_70 : decode cNr_about 70 = .ok (.iadd, 1) := by decide +kernel
theorem dNr_about_71 : decode cNr_about 71 = .ok (.iaload, 1) := by decide +kernel
theorem dNr_about_72 : decode cNr_about 72 = .ok (.ireturn, 1) := by decide +kernel
theorem dNr_about_73 : decode cNr_about 73 = .ok (.aload_n 0, 1) := by decide +kernel
theorem dNr_about_74 : decode cNr_about 74 = .ok (.iload_n 1, 1) := by decide +kernel
theorem dNr_about_75 : decode cNr_about 75 = .ok (.invokevirtual 142, 3) := by decide +kernel
theorem dNr_about_78 : decode cNr_about 78 = .ok (.ireturn, 1) := by decide +kernel
theorem dNr_about_79 : decode cNr_about 79 = .ok (.new 38, 3) := by decide +kernel
theorem dNr_about_82 : decode cNr_about 82 = .ok (.dup, 1) := by decide +kernel
theorem dNr_about_83 : decode cNr_about 83 = .ok (.ldc 145, 2) := by decide +kernel
theorem dNr_about_85 : decode cNr_about 85 = .ok (.invokespecial 42, 3) := by decide +kernel
theorem dNr_about_88 : decode cNr_about 88 = .ok (.athrow, 1) := by decide +kernel
theorem dNr_next_0 : decode cNr_next 0 = .ok (.iload_n 1, 1) := by decide +kernel
theorem dNr_next_1 : decode cNr_next 1 = .ok (.ifCond .ne 9, 3) := by decide +kernel
theorem dNr_next_4 : decode cNr_next 4 = .ok (.aload_n 0, 1) := by decide +kernel
theorem dNr_next_5 : decode cNr_next 5 = .ok (.iconst 0, 1) := by decide +kernel
theorem dNr_next_6 : decode cNr_next 6 = .ok (.invokevirtual 147, 3) := by decide +kernel
theorem dNr_next_9 : decode cNr_next 9 = .ok (.ireturn, 1) := by decide +kernel
theorem dNr_next_10 : decode cNr_next 10 = .ok (.aload_n 0, 1) := by decide +kernel
theorem dNr_next_11 : decode cNr_next 11 = .ok (.iload_n 1, 1) := by decide +kernel
theorem dNr_next_12 : decode cNr_next 12 = .ok (.invokevirtual 139, 3) := by decide +kernel
theorem dNr_next_15 : decode cNr_next 15 = .ok (.ifCond .ne 13, 3) := by decide +kernel
theorem dNr_next_18 : decode cNr_next 18 = .ok (.new 92, 3) := by decide +kernel
theorem dNr_next_21 : decode cNr_next 21 = .ok (.dup, 1) := by decide +kernel
theorem dNr_next_22 : decode cNr_next 22 = .ok (.ldc 72, 2) := by decide +kernel
theorem dNr_next_24 : decode cNr_next 24 = .ok (.invokespecial 96, 3) := by decide +kernel
theorem dNr_next_27 : decode cNr_next 27 = .ok (.athrow, 1) := by decide +kernel
theorem dNr_next_28 : decode cNr_next 28 = .ok (.aload_n 0, 1) := by decide +kernel
theorem dNr_next_29 : decode cNr_next 29 = .ok (.iload_n 1, 1) := by decide +kernel
theorem dNr_next_30 : decode cNr_next 30 = .ok (.invokevirtual 142, 3) := by decide +kernel
theorem dNr_next_33 : decode cNr_next 33 = .ok (.istore_n 2, 1) := by decide +kernel
theorem dNr_next_34 : decode cNr_next 34 = .ok (.iload_n 1, 1) := by decide +kernel
theorem dNr_next_35 : decode cNr_next 35 = .ok (.aload_n 0, 1) := by decide +kernel
theorem dNr_next_36 : decode cNr_next 36 = .ok (.iload_n 1, 1) := by decide +kernel
theorem dNr_next_37 : decode cNr_next 37 = .ok (.invokevirtual 150, 3) := by decide +kernel
theorem dNr_next_40 : decode cNr_next 40 = .ok (.iadd, 1) := by decide +kernel
theorem dNr_next_41 : decode cNr_next 41 = .ok (.istore_n 3, 1) := by decide +kernel
theorem dNr_next_42 : decode cNr_next 42 = .ok (.aload_n 0, 1) := by decide +kernel
theorem dNr_next_43 : decode cNr_next 43 = .ok (.getfield 11, 3) := by decide +kernel
theorem dNr_next_46 : decode cNr_next 46 = .ok (.iload_n 2, 1) := by decide +kernel
theorem dNr_next_47 : decode cNr_next 47 = .ok (.aaload, 1) := by decide +kernel
theorem dNr_next_48 : decode cNr_next 48 = .ok (.iload_n 3, 1) := by decide +kernel
theorem dNr_next_49 : decode cNr_next 49 = .ok (.invokevirtual 153, 3) := by decide +kernel
theorem dNr_next_52 : decode cNr_next 52 = .ok (.ifCond .eq 7, 3) := by decide +kernel
theorem dNr_next_55 : decode cNr_next 55 = .ok (.iload_n 3, 1) := by decide +kernel
theorem dNr_next_56 : decode cNr_next 56 = .ok (.goto 10, 3) := by decide +kernel
theorem dNr_next_59 : decode cNr_next 59 = .ok (.aload_n 0, 1) := by decide +kernel
theorem dNr_next_60 : decode cNr_next 60 = .ok (.iload_n 2, 1) := by decide +kernel
theorem dNr_next_61 : decode cNr_next 61 = .ok (.iconst 1, 1) := by decide +kernel
theorem dNr_next_62 : decode cNr_next 62 = .ok (.iadd, 1) := by decide +kernel
theorem dNr_next_63 : decode cNr_next 63 = .ok (.invokevirtual 147, 3) := by decide +kernel
theorem dNr_next_66 : decode cNr_next 66 = .ok (.ireturn, 1) := by decide +kernel
theorem dNr_firstFrom_0 : decode cNr_firstFrom 0 = .ok (.iload_n 1, 1) := by decide +kernel
theorem dNr_firstFrom_1 : decode cNr_firstFrom 1 = .ok (.istore_n 2, 1) := by decide +kernel
theorem dNr_firstFrom_2 : decode cNr_firstFrom 2 = .ok (.iload_n 2, 1) := by decide +kernel
theorem dNr_firstFrom_3 : decode cNr_firstFrom 3 = .ok (.iconst 4, 1) := by decide +kernel
theorem dNr_firstFrom_4 : decode cNr_firstFrom 4 = .ok (.if_icmp .ge 31, 3) := by decide +kernel
theorem dNr_firstFrom_7 : decode cNr_firstFrom 7 = .ok (.aload_n 0, 1) := by decide +kernel
theorem dNr_firstFrom_8 : decode cNr_firstFrom 8 = .ok (.getfield 11, 3) := by decide +kernel
theorem dNr_firstFrom_11 : decode cNr_firstFrom 11 = .ok (.iload_n 2, 1) := by decide +kernel
theorem dNr_firstFrom_12 : decode cNr_firstFrom 12 = .ok (.aaload, 1) := by decide +kernel
theorem dNr_firstFrom_13 : decode cNr_firstFrom 13 = .ok (.getfield 120, 3) := by decide +kernel
theorem dNr_firstFrom_16 : decode cNr_firstFrom 16 = .ok (.ifCond .le 13, 3) := by decide +kernel
theorem dNr_firstFrom_19 : decode cNr_firstFrom 19 = .ok (.aload_n 0, 1) := by decide +kernel
theorem dNr_firstFrom_20 : decode cNr_firstFrom 20 = .ok (.getfield 11, 3) := by decide +kernel
theorem dNr_firstFrom_23 : decode cNr_firstFrom 23 = .ok (.iload_n 2, 1) := by decide +kernel
theorem dNr_firstFrom_24 : decode cNr_firstFrom 24 = .ok (.aaload, 1) := by decide +kernel
theorem dNr_firstFrom_25 : decode cNr_firstFrom 25 = .ok (.getfield 164, 3) := by decide +kernel
theorem dNr_firstFrom_28 : decode cNr_firstFrom 28 = .ok (.ireturn, 1) := by decide +kernel
theorem dNr_firstFrom_29 : decode cNr_firstFrom 29 = .ok (.iinc 2 1, 3) := by decide +kernel
theorem dNr_firstFrom_32 : decode cNr_firstFrom 32 = .ok (.goto (-30), 3) := by decide +kernel
theorem dNr_firstFrom_35 : decode cNr_firstFrom 35 = .ok (.iconst 0, 1) := by decide +kernel
theorem dNr_firstFrom_36 : decode cNr_firstFrom 36 = .ok (.ireturn, 1) := by decide +kernel
theorem dNr_count_0 : decode cNr_count 0 = .ok (.iload_n 1, 1) := by decide +kernel
theorem dNr_count_1 : decode cNr_count 1 = .ok (.tableswitch 145 0 9 #[55, 65, 80, 90, 100, 115, 125, 130, 135, 140], 55) := by decide +kernel
theorem dNr_count_56 : decode cNr_count 56 = .ok (.aload_n 0, 1) := by decide +kernel
theorem dNr_count_57 : decode cNr_count 57 = .ok (.getfield 11, 3) := by decide +kernel
theorem dNr_count_60 : decode cNr_count 60 = .ok (.iconst 0, 1) := by decide +kernel
theorem dNr_count_61 : decode cNr_count 61 = .ok (.aaload, 1) := by decide +kernel
theorem dNr_count_62 : decode cNr_count 62 = .ok (.getfield 120, 3) := by decide +kernel
theorem dNr_count_65 : decode cNr_count 65 = .ok (.ireturn, 1) := by decide +kernel
theorem dNr_count_66 : decode cNr_count 66 = .ok (.aload_n 0, 1) := by decide +kernel
theorem dNr_count_67 : decode cNr_count 67 = .ok (.getfield 11, 3) := by decide +kernel
theorem dNr_count_70 : decode cNr_count 70 = .ok (.iconst 1, 1) := by decide +kernel
theorem dNr_count_71 : decode cNr_count 71 = .ok (.aload_n 0, 1) := by decide +kernel
theorem dNr_count_72 : decode cNr_count 72 = .ok (.getfield 58, 3) := by decide +kernel
theorem dNr_count_75 : decode cNr_count 75 = .ok (.iadd, 1) := by decide +kernel
theorem dNr_count_76 : decode cNr_count 76 = .ok (.aaload, 1) := by decide +kernel
theorem dNr_count_77 : decode cNr_count 77 = .ok (.getfield 120, 3) := by decide +kernel
theorem dNr_count_80 : decode cNr_count 80 = .ok (.ireturn, 1) := by decide +kernel
theorem dNr_count_81 : decode cNr_count 81 = .ok (.aload_n 0, 1) := by decide +kernel
theorem dNr_count_82 : decode cNr_count 82 = .ok (.getfield 11, 3) := by decide +kernel
theorem dNr_count_85 : decode cNr_count 85 = .ok (.iconst 3, 1) := by decide +kernel
theorem dNr_count_86 : decode cNr_count 86 = .ok (.aaload, 1) := by decide +kernel
theorem dNr_count_87 : decode cNr_count 87 = .ok (.getfield 120, 3) := by decide +kernel
theorem dNr_count_90 : decode cNr_count 90 = .ok (.ireturn, 1) := by decide +kernel
theorem dNr_count_91 : decode cNr_count 91 = .ok (.aload_n 0, 1) := by decide +kernel
theorem dNr_count_92 : decode cNr_count 92 = .ok (.getfield 11, 3) := by decide +kernel
theorem dNr_count_95 : decode cNr_count 95 = .ok (.iconst 0, 1) := by decide +kernel
theorem dNr_count_96 : decode cNr_count 96 = .ok (.aaload, 1) := by decide +kernel
theorem dNr_count_97 : decode cNr_count 97 = .ok (.getfield 112, 3) := by decide +kernel
theorem dNr_count_100 : decode cNr_count 100 = .ok (.ireturn, 1) := by decide +kernel
theorem dNr_count_101 : decode cNr_count 101 = .ok (.aload_n 0, 1) := by decide +kernel
theorem dNr_count_102 : decode cNr_count 102 = .ok (.getfield 11, 3) := by decide +kernel
theorem dNr_count_105 : decode cNr_count 105 = .ok (.iconst 1, 1) := by decide +kernel
theorem dNr_count_106 : decode cNr_count 106 = .ok (.aload_n 0, 1) := by decide +kernel
theorem dNr_count_107 : decode cNr_count 107 = .ok (.getfield 58, 3) := by decide +kernel
theorem dNr_count_110 : decode cNr_count 110 = .ok (.iadd, 1) := by decide +kernel
theorem dNr_count_111 : decode cNr_count 111 = .ok (.aaload, 1) := by decide +kernel
theorem dNr_count_112 : decode cNr_count 112 = .ok (.getfield 112, 3) := by decide +kernel
theorem dNr_count_115 : decode cNr_count 115 = .ok (.ireturn, 1) := by decide +kernel
theorem dNr_count_116 : decode cNr_count 116 = .ok (.aload_n 0, 1) := by decide +kernel
theorem dNr_count_117 : decode cNr_count 117 = .ok (.getfield 11, 3) := by decide +kernel
theorem dNr_count_120 : decode cNr_count 120 = .ok (.iconst 3, 1) := by decide +kernel
theorem dNr_count_121 : decode cNr_count 121 = .ok (.aaload, 1) := by decide +kernel
theorem dNr_count_122 : decode cNr_count 122 = .ok (.getfield 112, 3) := by decide +kernel
theorem dNr_count_125 : decode cNr_count 125 = .ok (.ireturn, 1) := by decide +kernel
theorem dNr_count_126 : decode cNr_count 126 = .ok (.aload_n 0, 1) := by decide +kernel
theorem dNr_count_127 : decode cNr_count 127 = .ok (.getfield 61, 3) := by decide +kernel
theorem dNr_count_130 : decode cNr_count 130 = .ok (.ireturn, 1) := by decide +kernel
theorem dNr_count_131 : decode cNr_count 131 = .ok (.aload_n 0, 1) := by decide +kernel
theorem dNr_count_132 : decode cNr_count 132 = .ok (.getfield 64, 3) := by decide +kernel
theorem dNr_count_135 : decode cNr_count 135 = .ok (.ireturn, 1) := by decide +kernel
theorem dNr_count_136 : decode cNr_count 136 = .ok (.aload_n 0, 1) := by decide +kernel
theorem dNr_count_137 : decode cNr_count 137 = .ok (.getfield 67, 3) := by decide +kernel
theorem dNr_count_140 : decode cNr_count 140 = .ok (.ireturn, 1) := by decide +kernel
theorem dNr_count_141 : decode cNr_count 141 = .ok (.aload_n 0, 1) := by decide +kernel
theorem dNr_count_142 : decode cNr_count 142 = .ok (.getfield 58, 3) := by decide +kernel
theorem dNr_count_145 : decode cNr_count 145 = .ok (.ireturn, 1) := by decide +kernel
theorem dNr_count_146 : decode cNr_count 146 = .ok (.new 38, 3) := by decide +kernel
theorem dNr_count_149 : decode cNr_count 149 = .ok (.dup, 1) := by decide +kernel
theorem dNr_count_150 : decode cNr_count 150 = .ok (.ldc 156, 2) := by decide +kernel
theorem dNr_count_152 : decode cNr_count 152 = .ok (.invokespecial 42, 3) := by decide +kernel
theorem dNr_count_155 : decode cNr_count 155 = .ok (.athrow, 1) := by decide +kernel
