theorem dLw_space_0 : decode cLw_space 0 = .ok (.aload 4, 2) := by decide +kernel
theorem dLw_space_2 : decode cLw_space 2 = .ok (.iconst 0, 1) := by decide +kernel
theorem dLw_space_3 : decode cLw_space 3 = .ok (.aload_n 0, 1) := by decide +kernel
theorem dLw_space_4 : decode cLw_space 4 = .ok (.iload_n 1, 1) := by decide +kernel
theorem dLw_space_5 : decode cLw_space 5 = .ok (.iload_n 2, 1) := by decide +kernel
theorem dLw_space_6 : decode cLw_space 6 = .ok (.iload_n 3, 1) := by decide +kernel
theorem dLw_space_7 : decode cLw_space 7 = .ok (.invokevirtual 7, 3) := by decide +kernel
theorem dLw_space_10 : decode cLw_space 10 = .ok (.i2l, 1) := by decide +kernel
theorem dLw_space_11 : decode cLw_space 11 = .ok (.lastore, 1) := by decide +kernel
theorem dLw_space_12 : decode cLw_space 12 = .ok (.goto 7, 3) := by decide +kernel
theorem dLw_space_15 : decode cLw_space 15 = .ok (.astore 5, 2) := by decide +kernel
theorem dLw_space_17 : decode cLw_space 17 = .ok (.iconst 1, 1) := by decide +kernel
theorem dLw_space_18 : decode cLw_space 18 = .ok (.ireturn, 1) := by decide +kernel
theorem dLw_space_19 : decode cLw_space 19 = .ok (.iconst 0, 1) := by decide +kernel
theorem dLw_space_20 : decode cLw_space 20 = .ok (.ireturn, 1) := by decide +kernel
theorem dLw_limit_0 : decode cLw_limit 0 = .ok (.aload_n 2, 1) := by decide +kernel
theorem dLw_limit_1 : decode cLw_limit 1 = .ok (.iconst 0, 1) := by decide +kernel
theorem dLw_limit_2 : decode cLw_limit 2 = .ok (.aload_n 0, 1) := by decide +kernel
theorem dLw_limit_3 : decode cLw_limit 3 = .ok (.iload_n 1, 1) := by decide +kernel
theorem dLw_limit_4 : decode cLw_limit 4 = .ok (.invokevirtual 15, 3) := by decide +kernel
theorem dLw_limit_7 : decode cLw_limit 7 = .ok (.i2l, 1) := by decide +kernel
theorem dLw_limit_8 : decode cLw_limit 8 = .ok (.lastore, 1) := by decide +kernel
theorem dLw_limit_9 : decode cLw_limit 9 = .ok (.goto 6, 3) := by decide +kernel
theorem dLw_limit_12 : decode cLw_limit 12 = .ok (.astore_n 3, 1) := by decide +kernel
theorem dLw_limit_13 : decode cLw_limit 13 = .ok (.iconst 1, 1) := by decide +kernel
theorem dLw_limit_14 : decode cLw_limit 14 = .ok (.ireturn, 1) := by decide +kernel
theorem dLw_limit_15 : decode cLw_limit 15 = .ok (.iconst 0, 1) := by decide +kernel
theorem dLw_limit_16 : decode cLw_limit 16 = .ok (.ireturn, 1) := by decide +kernel
theorem dLw_make_0 : decode cLw_make 0 = .ok (.aload_n 3, 1) := by decide +kernel
theorem dLw_make_1 : decode cLw_make 1 = .ok (.iconst 0, 1) := by decide +kernel
theorem dLw_make_2 : decode cLw_make 2 = .ok (.aload_n 0, 1) := by decide +kernel
theorem dLw_make_3 : decode cLw_make 3 = .ok (.iload_n 1, 1) := by decide +kernel
theorem dLw_make_4 : decode cLw_make 4 = .ok (.iload_n 2, 1) := by decide +kernel
theorem dLw_make_5 : decode cLw_make 5 = .ok (.invokevirtual 19, 3) := by decide +kernel
theorem dLw_make_8 : decode cLw_make 8 = .ok (.i2l, 1) := by decide +kernel
theorem dLw_make_9 : decode cLw_make 9 = .ok (.lastore, 1) := by decide +kernel
theorem dLw_make_10 : decode cLw_make 10 = .ok (.goto 7, 3) := by decide +kernel
theorem dLw_make_13 : decode cLw_make 13 = .ok (.astore 4, 2) := by decide +kernel
theorem dLw_make_15 : decode cLw_make 15 = .ok (.iconst 1, 1) := by decide +kernel
theorem dLw_make_16 : decode cLw_make 16 = .ok (.ireturn, 1) := by decide +kernel
theorem dLw_make_17 : decode cLw_make 17 = .ok (.iconst 0, 1) := by decide +kernel
theorem dLw_make_18 : decode cLw_make 18 = .ok (.ireturn, 1) := by decide +kernel
theorem dLw_set_0 : decode cLw_set 0 = .ok (.aload 4, 2) := by decide +kernel
theorem dLw_set_2 : decode cLw_set 2 = .ok (.iconst 0, 1) := by decide +kernel
theorem dLw_set_3 : decode cLw_set 3 = .ok (.aload_n 0, 1) := by decide +kernel
theorem dLw_set_4 : decode cLw_set 4 = .ok (.iload_n 1, 1) := by decide +kernel
theorem dLw_set_5 : decode cLw_set 5 = .ok (.iload_n 2, 1) := by decide +kernel
theorem dLw_set_6 : decode cLw_set 6 = .ok (.iload_n 3, 1) := by decide +kernel
theorem dLw_set_7 : decode cLw_set 7 = .ok (.invokevirtual 23, 3) := by decide +kernel
theorem dLw_set_10 : decode cLw_set 10 = .ok (.i2l, 1) := by decide +kernel
theorem dLw_set_11 : decode cLw_set 11 = .ok (.lastore, 1) := by decide +kernel
theorem dLw_set_12 : decode cLw_set 12 = .ok (.goto 7, 3) := by decide +kernel
theorem dLw_set_15 : decode cLw_set 15 = .ok (.astore 5, 2) := by decide +kernel
theorem dLw_set_17 : decode cLw_set 17 = .ok (.iconst 1, 1) := by decide +kernel
theorem dLw_set_18 : decode cLw_set 18 = .ok (.ireturn, 1) := by decide +kernel
theorem dLw_set_19 : decode cLw_set 19 = .ok (.iconst 0, 1) := by decide +kernel
theorem dLw_set_20 : decode cLw_set 20 = .ok (.ireturn, 1) := by decide +kernel
theorem dLw_get_0 : decode cLw_get 0 = .ok (.aload_n 3, 1) := by decide +kernel
theorem dLw_get_1 : decode cLw_get 1 = .ok (.iconst 0, 1) := by decide +kernel
theorem dLw_get_2 : decode cLw_get 2 = .ok (.aload_n 0, 1) := by decide +kernel
theorem dLw_get_3 : decode cLw_get 3 = .ok (.iload_n 1, 1) := by decide +kernel
theorem dLw_get_4 : decode cLw_get 4 = .ok (.iload_n 2, 1) := by decide +kernel
theorem dLw_get_5 : decode cLw_get 5 = .ok (.invokevirtual 28, 3) := by decide +kernel
theorem dLw_get_8 : decode cLw_get 8 = .ok (.i2l, 1) := by decide +kernel
theorem dLw_get_9 : decode cLw_get 9 = .ok (.lastore, 1) := by decide +kernel
theorem dLw_get_10 : decode cLw_get 10 = .ok (.goto 7, 3) := by decide +kernel
theorem dLw_get_13 : decode cLw_get 13 = .ok (.astore 4, 2) := by decide +kernel
theorem dLw_get_15 : decode cLw_get 15 = .ok (.iconst 1, 1) := by decide +kernel
theorem dLw_get_16 : decode cLw_get 16 = .ok (.ireturn, 1) := by decide +kernel
theorem dLw_get_17 : decode cLw_get 17 = .ok (.iconst 0, 1) := by decide +kernel
theorem dLw_get_18 : decode cLw_get 18 = .ok (.ireturn, 1) := by decide +kernel
theorem dLw_put_0 : decode cLw_put 0 = .ok (.aload 4, 2) := by decide +kernel
theorem dLw_put_2 : decode cLw_put 2 = .ok (.iconst 0, 1) := by decide +kernel
theorem dLw_put_3 : decode cLw_put 3 = .ok (.aload_n 0, 1) := by decide +kernel
theorem dLw_put_4 : decode cLw_put 4 = .ok (.iload_n 1, 1) := by decide +kernel
theorem dLw_put_5 : decode cLw_put 5 = .ok (.iload_n 2, 1) := by decide +kernel
theorem dLw_put_6 : decode cLw_put 6 = .ok (.iload_n 3, 1) := by decide +kernel
theorem dLw_put_7 : decode cLw_put 7 = .ok (.invokevirtual 31, 3) := by decide +kernel
theorem dLw_put_10 : decode cLw_put 10 = .ok (.i2l, 1) := by decide +kernel
theorem dLw_put_11 : decode cLw_put 11 = .ok (.lastore, 1) := by decide +kernel
theorem dLw_put_12 : decode cLw_put 12 = .ok (.goto 7, 3) := by decide +kernel
theorem dLw_put_15 : decode cLw_put 15 = .ok (.astore 5, 2) := by decide +kernel
theorem dLw_put_17 : decode cLw_put 17 = .ok (.iconst 1, 1) := by decide +kernel
theorem dLw_put_18 : decode cLw_put 18 = .ok (.ireturn, 1) := by decide +kernel
theorem dLw_put_19 : decode cLw_put 19 = .ok (.iconst 0, 1) := by decide +kernel
theorem dLw_put_20 : decode cLw_put 20 = .ok (.ireturn, 1) := by decide +kernel
theorem dLw_word_0 : decode cLw_word 0 = .ok (.aload_n 3, 1) := by decide +kernel
theorem dLw_word_1 : decode cLw_word 1 = .ok (.iconst 0, 1) := by decide +kernel
theorem dLw_word_2 : decode cLw_word 2 = .ok (.aload_n 0, 1) := by decide +kernel
theorem dLw_word_3 : decode cLw_word 3 = .ok (.iload_n 1, 1) := by decide +kernel
theorem dLw_word_4 : decode cLw_word 4 = .ok (.iload_n 2, 1) := by decide +kernel
theorem dLw_word_5 : decode cLw_word 5 = .ok (.invokevirtual 34, 3) := by decide +kernel
theorem dLw_word_8 : decode cLw_word 8 = .ok (.i2l, 1) := by decide +kernel
theorem dLw_word_9 : decode cLw_word 9 = .ok (.lastore, 1) := by decide +kernel
theorem dLw_word_10 : decode cLw_word 10 = .ok (.goto 7, 3) := by decide +kernel
theorem dLw_word_13 : decode cLw_word 13 = .ok (.astore 4, 2) := by decide +kernel
theorem dLw_word_15 : decode cLw_word 15 = .ok (.iconst 1, 1) := by decide +kernel
theorem dLw_word_16 : decode cLw_word 16 = .ok (.ireturn, 1) := by decide +kernel
theorem dLw_word_17 : decode cLw_word 17 = .ok (.iconst 0, 1) := by decide +kernel
theorem dLw_word_18 : decode cLw_word 18 = .ok (.ireturn, 1) := by decide +kernel
theorem dLw_root_0 : decode cLw_root 0 = .ok (.aload_n 3, 1) := by decide +kernel
theorem dLw_root_1 : decode cLw_root 1 = .ok (.iconst 0, 1) := by decide +kernel
theorem dLw_root_2 : decode cLw_root 2 = .ok (.aload_n 0, 1) := by decide +kernel
theorem dLw_root_3 : decode cLw_root 3 = .ok (.iload_n 1, 1) := by decide +kernel
theorem dLw_root_4 : decode cLw_root 4 = .ok (.iload_n 2, 1) := by decide +kernel
theorem dLw_root_5 : decode cLw_root 5 = .ok (.invokevirtual 37, 3) := by decide +kernel
theorem dLw_root_8 : decode cLw_root 8 = .ok (.i2l, 1) := by decide +kernel
theorem dLw_root_9 : decode cLw_root 9 = .ok (.lastore, 1) := by decide +kernel
theorem dLw_root_10 : decode cLw_root 10 = .ok (.goto 7, 3) := by decide +kernel
theorem dLw_root_13 : decode cLw_root 13 = .ok (.astore 4, 2) := by decide +kernel
theorem dLw_root_15 : decode cLw_root 15 = .ok (.iconst 1, 1) := by decide +kernel
theorem dLw_root_16 : decode cLw_root 16 = .ok (.ireturn, 1) := by decide +kernel
theorem dLw_root_17 : decode cLw_root 17 = .ok (.iconst 0, 1) := by decide +kernel
theorem dLw_root_18 : decode cLw_root 18 = .ok (.ireturn, 1) := by decide +kernel
theorem dLw_rooted_0 : decode cLw_rooted 0 = .ok (.aload_n 2, 1) := by decide +kernel
theorem dLw_rooted_1 : decode cLw_rooted 1 = .ok (.iconst 0, 1) := by decide +kernel
theorem dLw_rooted_2 : decode cLw_rooted 2 = .ok (.aload_n 0, 1) := by decide +kernel
theorem dLw_rooted_3 : decode cLw_rooted 3 = .ok (.iload_n 1, 1) := by decide +kernel
theorem dLw_rooted_4 : decode cLw_rooted 4 = .ok (.invokevirtual 40, 3) := by decide +kernel
theorem dLw_rooted_7 : decode cLw_rooted 7 = .ok (.i2l, 1) := by decide +kernel
theorem dLw_rooted_8 : decode cLw_rooted 8 = .ok (.lastore, 1) := by decide +kernel
theorem dLw_rooted_9 : decode cLw_rooted 9 = .ok (.goto 6, 3) := by decide +kernel
theorem dLw_rooted_12 : decode cLw_rooted 12 = .ok (.astore_n 3, 1) := by decide +kernel
theorem dLw_rooted_13 : decode cLw_rooted 13 = .ok (.iconst 1, 1) := by decide +kernel
theorem dLw_rooted_14 : decode cLw_rooted 14 = .ok (.ireturn, 1) := by decide +kernel
theorem dLw_rooted_15 : decode cLw_rooted 15 = .ok (.iconst 0, 1) := by decide +kernel
theorem dLw_rooted_16 : decode cLw_rooted 16 = .ok (.ireturn, 1) := by decide +kernel
theorem dLw_collect_0 : decode cLw_collect 0 = .ok (.aload_n 1, 1) := by decide +kernel
theorem dLw_collect_1 : decode cLw_collect 1 = .ok (.iconst 0, 1) := by decide +kernel
theorem dLw_collect_2 : decode cLw_collect 2 = .ok (.aload_n 0, 1) := by decide +kernel
theorem dLw_collect_3 : decode cLw_collect 3 = .ok (.invokevirtual 43, 3) := by decide +kernel
theorem dLw_collect_6 : decode cLw_collect 6 = .ok (.i2l, 1) := by decide +kernel
theorem dLw_collect_7 : decode cLw_collect 7 = .ok (.lastore, 1) := by decide +kernel
theorem dLw_collect_8 : decode cLw_collect 8 = .ok (.goto 6, 3) := by decide +kernel
theorem dLw_collect_11 : decode cLw_collect 11 = .ok (.astore_n 2, 1) := by decide +kernel
theorem dLw_collect_12 : decode cLw_collect 12 = .ok (.iconst 1, 1) := by decide +kernel
theorem dLw_collect_13 : decode cLw_collect 13 = .ok (.ireturn, 1) := by decide +kernel
theorem dLw_collect_14 : decode cLw_collect 14 = .ok (.iconst 0, 1) := by decide +kernel
theorem dLw_collect_15 : decode cLw_collect 15 = .ok (.ireturn, 1) := by decide +kernel
theorem dLw_about_0 : decode cLw_about 0 = .ok (.aload_n 3, 1) := by decide +kernel
theorem dLw_about_1 : decode cLw_about 1 = .ok (.iconst 0, 1) := by decide +kernel
theorem dLw_about_2 : decode cLw_about 2 = .ok (.aload_n 0, 1) := by decide +kernel
theorem dLw_about_3 : decode cLw_about 3 = .ok (.iload_n 1, 1) := by decide +kernel
theorem dLw_about_4 : decode cLw_about 4 = .ok (.iload_n 2, 1) := by decide +kernel
theorem dLw_about_5 : decode cLw_about 5 = .ok (.invokevirtual 49, 3) := by decide +kernel
theorem dLw_about_8 : decode cLw_about 8 = .ok (.i2l, 1) := by decide +kernel
theorem dLw_about_9 : decode cLw_about 9 = .ok (.lastore, 1) := by decide +kernel
theorem dLw_about_10 : decode cLw_about 10 = .ok (.goto 11, 3) := by decide +kernel
theorem dLw_about_13 : decode cLw_about 13 = .ok (.astore 4, 2) := by decide +kernel
theorem dLw_about_15 : decode cLw_about 15 = .ok (.iconst 1, 1) := by decide +kernel
theorem dLw_about_16 : decode cLw_about 16 = .ok (.ireturn, 1) := by decide +kernel
theorem dLw_about_17 : decode cLw_about 17 = .ok (.astore 4, 2) := by decide +kernel
theorem dLw_about_19 : decode cLw_about 19 = .ok (.iconst 2, 1) := by decide +kernel
theorem dLw_about_20 : decode cLw_about 20 = .ok (.ireturn, 1) := by decide +kernel
theorem dLw_about_21 : decode cLw_about 21 = .ok (.iconst 0, 1) := by decide +kernel
theorem dLw_about_22 : decode cLw_about 22 = .ok (.ireturn, 1) := by decide +kernel
theorem dLw_next_0 : decode cLw_next 0 = .ok (.aload_n 2, 1) := by decide +kernel
theorem dLw_next_1 : decode cLw_next 1 = .ok (.iconst 0, 1) := by decide +kernel
theorem dLw_next_2 : decode cLw_next 2 = .ok (.aload_n 0, 1) := by decide +kernel
theorem dLw_next_3 : decode cLw_next 3 = .ok (.iload_n 1, 1) := by decide +kernel
theorem dLw_next_4 : decode cLw_next 4 = .ok (.invokevirtual 52, 3) := by decide +kernel
theorem dLw_next_7 : decode cLw_next 7 = .ok (.i2l, 1) := by decide +kernel
theorem dLw_next_8 : decode cLw_next 8 = .ok (.lastore, 1) := by decide +kernel
theorem dLw_next_9 : decode cLw_next 9 = .ok (.goto 6, 3) := by decide +kernel
theorem dLw_next_12 : decode cLw_next 12 = .ok (.astore_n 3, 1) := by decide +kernel
theorem dLw_next_13 : decode cLw_next 13 = .ok (.iconst 1, 1) := by decide +kernel
theorem dLw_next_14 : decode cLw_next 14 = .ok (.ireturn, 1) := by decide +kernel
theorem dLw_next_15 : decode cLw_next 15 = .ok (.iconst 0, 1) := by decide +kernel
theorem dLw_next_16 : decode cLw_next 16 = .ok (.ireturn, 1) := by decide +kernel
theorem dLw_count_0 : decode cLw_count 0 = .ok (.aload_n 2, 1) := by decide +kernel
theorem dLw_count_1 : decode cLw_count 1 = .ok (.iconst 0, 1) := by decide +kernel
theorem dLw_count_2 : decode cLw_count 2 = .ok (.aload_n 0, 1) := by decide +kernel
theorem dLw_count_3 : decode cLw_count 3 = .ok (.iload_n 1, 1) := by decide +kernel
theorem dLw_count_4 : decode cLw_count 4 = .ok (.invokevirtual 55, 3) := by decide +kernel
theorem dLw_count_7 : decode cLw_count 7 = .ok (.i2l, 1) := by decide +kernel
theorem dLw_count_8 : decode cLw_count 8 = .ok (.lastore, 1) := by decide +kernel
theorem dLw_count_9 : decode cLw_count 9 = .ok (.goto 6, 3) := by decide +kernel
theorem dLw_count_12 : decode cLw_count 12 = .ok (.astore_n 3, 1) := by decide +kernel
theorem dLw_count_13 : decode cLw_count 13 = .ok (.iconst 1, 1) := by decide +kernel
theorem dLw_count_14 : decode cLw_count 14 = .ok (.ireturn, 1) := by decide +kernel
theorem dLw_count_15 : decode cLw_count 15 = .ok (.iconst 0, 1) := by decide +kernel
theorem dLw_count_16 : decode cLw_count 16 = .ok (.ireturn, 1) := by decide +kernel
theorem dlaw_0 : decode code 0 = .ok (.new 8, 3) := by decide +kernel
theorem dlaw_3 : decode code 3 = .ok (.dup, 1) := by decide +kernel
theorem dlaw_4 : decode code 4 = .ok (.invokespecial 58, 3) := by decide +kernel
theorem dlaw_7 : decode code 7 = .ok (.astore_n 1, 1) := by decide +kernel
theorem dlaw_8 : decode code 8 = .ok (.new 59, 3) := by decide +kernel
theorem dlaw_11 : decode code 11 = .ok (.dup, 1) := by decide +kernel
theorem dlaw_12 : decode code 12 = .ok (.invokespecial 61, 3) := by decide +kernel
theorem dlaw_15 : decode code 15 = .ok (.astore_n 2, 1) := by decide +kernel
theorem dlaw_16 : decode code 16 = .ok (.iconst 1, 1) := by decide +kernel
theorem dlaw_17 : decode code 17 = .ok (.newarray .long, 2) := by decide +kernel
theorem dlaw_19 : decode code 19 = .ok (.astore_n 3, 1) := by decide +kernel
theorem dlaw_20 : decode code 20 = .ok (.iconst 0, 1) := by decide +kernel
theorem dlaw_21 : decode code 21 = .ok (.istore 4, 2) := by decide +kernel
theorem dlaw_23 : decode code 23 = .ok (.iload 4, 2) := by decide +kernel
theorem dlaw_25 : decode code 25 = .ok (.aload_n 0, 1) := by decide +kernel
theorem dlaw_26 : decode code 26 = .ok (.arraylength, 1) := by decide +kernel
theorem dlaw_27 : decode code 27 = .ok (.iconst 4, 1) := by decide +kernel
theorem dlaw_28 : decode code 28 = .ok (.isub, 1) := by decide +kernel
theorem dlaw_29 : decode code 29 = .ok (.if_icmp .gt 929, 3) := by decide +kernel
theorem dlaw_32 : decode code 32 = .ok (.aload_n 0, 1) := by decide +kernel
theorem dlaw_33 : decode code 33 = .ok (.iload 4, 2) := by decide +kernel
theorem dlaw_35 : decode code 35 = .ok (.iaload, 1) := by decide +kernel
theorem dlaw_36 : decode code 36 = .ok (.bipush 15, 2) := by decide +kernel
theorem dlaw_38 : decode code 38 = .ok (.iand, 1) := by decide +kernel
theorem dlaw_39 : decode code 39 = .ok (.tableswitch 913 0 12 #[65, 145, 201, 269, 349, 417, 497, 565, 633, 689, 733, 801, 857], 65) := by decide +kernel
theorem dlaw_104 : decode code 104 = .ok (.aload_n 1, 1) := by decide +kernel
theorem dlaw_105 : decode code 105 = .ok (.aload_n 0, 1) := by decide +kernel
theorem dlaw_106 : decode code 106 = .ok (.iload 4, 2) := by decide +kernel
theorem dlaw_108 : decode code 108 = .ok (.iconst 1, 1) := by decide +kernel
theorem dlaw_109 : decode code 109 = .ok (.iadd, 1) := by decide +kernel
theorem dlaw_110 : decode code 110 = .ok (.iaload, 1) := by decide +kernel
theorem dlaw_111 : decode code 111 = .ok (.aload_n 0, 1) := by decide +kernel
theorem dlaw_112 : decode code 112 = .ok (.iload 4, 2) := by decide +kernel
theorem dlaw_114 : decode code 114 = .ok (.iconst 2, 1) := by decide +kernel
theorem dlaw_115 : decode code 115 = .ok (.iadd, 1) := by decide +kernel
theorem dlaw_116 : decode code 116 = .ok (.iaload, 1) := by decide +kernel
theorem dlaw_117 : decode code 117 = .ok (.aload_n 0, 1) := by decide +kernel
theorem dlaw_118 : decode code 118 = .ok (.iload 4, 2) := by decide +kernel
theorem dlaw_120 : decode code 120 = .ok (.iconst 3, 1) := by decide +kernel
theorem dlaw_121 : decode code 121 = .ok (.iadd, 1) := by decide +kernel
theorem dlaw_122 : decode code 122 = .ok (.iaload, 1) := by decide +kernel
theorem dlaw_123 : decode code 123 = .ok (.aload_n 3, 1) := by decide +kernel
theorem dlaw_124 : decode code 124 = .ok (.invokestatic 62, 3) := by decide +kernel
theorem dlaw_127 : decode code 127 = .ok (.istore 5, 2) := by decide +kernel
theorem dlaw_129 : decode code 129 = .ok (.aload_n 2, 1) := by decide +kernel
theorem dlaw_130 : decode code 130 = .ok (.aload_n 0, 1) := by decide +kernel
theorem dlaw_131 : decode code 131 = .ok (.iload 4, 2) := by decide +kernel
theorem dlaw_133 : decode code 133 = .ok (.iconst 1, 1) := by decide +kernel
theorem dlaw_134 : decode code 134 = .ok (.iadd, 1) := by decide +kernel
theorem dlaw_135 : decode code 135 = .ok (.iaload, 1) := by decide +kernel
theorem dlaw_136 : decode code 136 = .ok (.aload_n 0, 1) := by decide +kernel
theorem dlaw_137 : decode code 137 = .ok (.iload 4, 2) := by decide +kernel
theorem dlaw_139 : decode code 139 = .ok (.iconst 2, 1) := by decide +kernel
theorem dlaw_140 : decode code 140 = .ok (.iadd, 1) := by decide +kernel
theorem dlaw_141 : decode code 141 = .ok (.iaload, 1) := by decide +kernel
theorem dlaw_142 : decode code 142 = .ok (.aload_n 0, 1) := by decide +kernel
theorem dlaw_143 : decode code 143 = .ok (.iload 4, 2) := by decide +kernel
theorem dlaw_145 : decode code 145 = .ok (.iconst 3, 1) := by decide +kernel
theorem dlaw_146 : decode code 146 = .ok (.iadd, 1) := by decide +kernel
theorem dlaw_147 : decode code 147 = .ok (.iaload, 1) := by decide +kernel
theorem dlaw_148 : decode code 148 = .ok (.invokevirtual 67, 3) := by decide +kernel
theorem dlaw_151 : decode code 151 = .ok (.istore 6, 2) := by decide +kernel
theorem dlaw_153 : decode code 153 = .ok (.aload_n 2, 1) := by decide +kernel
theorem dlaw_154 : decode code 154 = .ok (.invokevirtual 68, 3) := by decide +kernel
theorem dlaw_157 : decode code 157 = .ok (.iload 5, 2) := by decide +kernel
theorem dlaw_159 : decode code 159 = .ok (.if_icmp .eq 5, 3) := by decide +kernel
theorem dlaw_162 : decode code 162 = .ok (.iconst 0, 1) := by decide +kernel
theorem dlaw_163 : decode code 163 = .ok (.ireturn, 1) := by decide +kernel
theorem dlaw_164 : decode code 164 = .ok (.iload 5, 2) := by decide +kernel
theorem dlaw_166 : decode code 166 = .ok (.ifCond .ne 15, 3) := by decide +kernel
theorem dlaw_169 : decode code 169 = .ok (.aload_n 3, 1) := by decide +kernel
theorem dlaw_170 : decode code 170 = .ok (.iconst 0, 1) := by decide +kernel
theorem dlaw_171 : decode code 171 = .ok (.laload, 1) := by decide +kernel
theorem dlaw_172 : decode code 172 = .ok (.iload 6, 2) := by decide +kernel
theorem dlaw_174 : decode code 174 = .ok (.i2l, 1) := by decide +kernel
theorem dlaw_175 : decode code 175 = .ok (.lcmp, 1) := by decide +kernel
theorem dlaw_176 : decode code 176 = .ok (.ifCond .eq 5, 3) := by decide +kernel
theorem dlaw_179 : decode code 179 = .ok (.iconst 0, 1) := by decide +kernel
theorem dlaw_180 : decode code 180 = .ok (.ireturn, 1) := by decide +kernel
theorem dlaw_181 : decode code 181 = .ok (.goto 771, 3) := by decide +kernel
theorem dlaw_184 : decode code 184 = .ok (.aload_n 1, 1) := by decide +kernel
theorem dlaw_185 : decode code 185 = .ok (.aload_n 0, 1) := by decide +kernel
theorem dlaw_186 : decode code 186 = .ok (.iload 4, 2) := by decide +kernel
theorem dlaw_188 : decode code 188 = .ok (.iconst 1, 1) := by decide +kernel
theorem dlaw_189 : decode code 189 = .ok (.iadd, 1) := by decide +kernel
theorem dlaw_190 : decode code 190 = .ok (.iaload, 1) := by decide +kernel
theorem dlaw_191 : decode code 191 = .ok (.aload_n 3, 1) := by decide +kernel
theorem dlaw_192 : decode code 192 = .ok (.invokestatic 71, 3) := by decide +kernel
theorem dlaw_195 : decode code 195 = .ok (.istore 5, 2) := by decide +kernel
theorem dlaw_197 : decode code 197 = .ok (.aload_n 2, 1) := by decide +kernel
theorem dlaw_198 : decode code 198 = .ok (.aload_n 0, 1) := by decide +kernel
theorem dlaw_199 : decode code 199 = .ok (.iload 4, 2) := by decide +kernel
theorem dlaw_201 : decode code 201 = .ok (.iconst 1, 1) := by decide +kernel
theorem dlaw_202 : decode code 202 = .ok (.iadd, 1) := by decide +kernel
theorem dlaw_203 : decode code 203 = .ok (.iaload, 1) := by decide +kernel
theorem dlaw_204 : decode code 204 = .ok (.invokevirtual 74, 3) := by decide +kernel
theorem dlaw_207 : decode code 207 = .ok (.istore 6, 2) := by decide +kernel
theorem dlaw_209 : decode code 209 = .ok (.aload_n 2, 1) := by decide +kernel
theorem dlaw_210 : decode code 210 = .ok (.invokevirtual 68, 3) := by decide +kernel
theorem dlaw_213 : decode code 213 = .ok (.iload 5, 2) := by decide +kernel
theorem dlaw_215 : decode code 215 = .ok (.if_icmp .eq 5, 3) := by decide +kernel
theorem dlaw_218 : decode code 218 = .ok (.iconst 0, 1) := by decide +kernel
theorem dlaw_219 : decode code 219 = .ok (.ireturn, 1) := by decide +kernel
theorem dlaw_220 : decode code 220 = .ok (.iload 5, 2) := by decide +kernel
theorem dlaw_222 : decode code 222 = .ok (.ifCond .ne 15, 3) := by decide +kernel
theorem dlaw_225 : decode code 225 = .ok (.aload_n 3, 1) := by decide +kernel
theorem dlaw_226 : decode code 226 = .ok (.iconst 0, 1) := by decide +kernel
theorem dlaw_227 : decode code 227 = .ok (.laload, 1) := by decide +kernel
theorem dlaw_228 : decode code 228 = .ok (.iload 6, 2) := by decide +kernel
theorem dlaw_230 : decode code 230 = .ok (.i2l, 1) := by decide +kernel
theorem dlaw_231 : decode code 231 = .ok (.lcmp, 1) := by decide +kernel
theorem dlaw_232 : decode code 232 = .ok (.ifCond .eq 5, 3) := by decide +kernel
theorem dlaw_235 : decode code 235 = .ok (.iconst 0, 1) := by decide +kernel
theorem dlaw_236 : decode code 236 = .ok (.ireturn, 1) := by decide +kernel
theorem dlaw_237 : decode code 237 = .ok (.goto 715, 3) := by decide +kernel
theorem dlaw_240 : decode code 240 = .ok (.aload_n 1, 1) := by decide +kernel
theorem dlaw_241 : decode code 241 = .ok (.aload_n 0, 1) := by decide +kernel
theorem dlaw_242 : decode code 242 = .ok (.iload 4, 2) := by decide +kernel
theorem dlaw_244 : decode code 244 = .ok (.iconst 1, 1) := by decide +kernel
theorem dlaw_245 : decode code 245 = .ok (.iadd, 1) := by decide +kernel
theorem dlaw_246 : decode code 246 = .ok (.iaload, 1) := by decide +kernel
theorem dlaw_247 : decode code 247 = .ok (.aload_n 0, 1) := by decide +kernel
theorem dlaw_248 : decode code 248 = .ok (.iload 4, 2) := by decide +kernel
theorem dlaw_250 : decode code 250 = .ok (.iconst 2, 1) := by decide +kernel
theorem dlaw_251 : decode code 251 = .ok (.iadd, 1) := by decide +kernel
theorem dlaw_252 : decode code 252 = .ok (.iaload, 1) := by decide +kernel
theorem dlaw_253 : decode code 253 = .ok (.aload_n 3, 1) := by decide +kernel
theorem dlaw_254 : decode code 254 = .ok (.invokestatic 75, 3) := by decide +kernel
theorem dlaw_257 : decode code 257 = .ok (.istore 5, 2) := by decide +kernel
theorem dlaw_259 : decode code 259 = .ok (.aload_n 2, 1) := by decide +kernel
theorem dlaw_260 : decode code 260 = .ok (.aload_n 0, 1) := by decide +kernel
theorem dlaw_261 : decode code 261 = .ok (.iload 4, 2) := by decide +kernel
theorem dlaw_263 : decode code 263 = .ok (.iconst 1, 1) := by decide +kernel
theorem dlaw_264 : decode code 264 = .ok (.iadd, 1) := by decide +kernel
theorem dlaw_265 : decode code 265 = .ok (.iaload, 1) := by decide +kernel
theorem dlaw_266 : decode code 266 = .ok (.aload_n 0, 1) := by decide +kernel
theorem dlaw_267 : decode code 267 = .ok (.iload 4, 2) := by decide +kernel
theorem dlaw_269 : decode code 269 = .ok (.iconst 2, 1) := by decide +kernel
theorem dlaw_270 : decode code 270 = .ok (.iadd, 1) := by decide +kernel
theorem dlaw_271 : decode code 271 = .ok (.iaload, 1) := by decide +kernel
theorem dlaw_272 : decode code 272 = .ok (.invokevirtual 78, 3) := by decide +kernel
theorem dlaw_275 : decode code 275 = .ok (.istore 6, 2) := by decide +kernel
theorem dlaw_277 : decode code 277 = .ok (.aload_n 2, 1) := by decide +kernel
theorem dlaw_278 : decode code 278 = .ok (.invokevirtual 68, 3) := by decide +kernel
theorem dlaw_281 : decode code 281 = .ok (.iload 5, 2) := by decide +kernel
theorem dlaw_283 : decode code 283 = .ok (.if_icmp .eq 5, 3) := by decide +kernel
theorem dlaw_286 : decode code 286 = .ok (.iconst 0, 1) := by decide +kernel
theorem dlaw_287 : decode code 287 = .ok (.ireturn, 1) := by decide +kernel
theorem dlaw_288 : decode code 288 = .ok (.iload 5, 2) := by decide +kernel
theorem dlaw_290 : decode code 290 = .ok (.ifCond .ne 15, 3) := by decide +kernel
theorem dlaw_293 : decode code 293 = .ok (.aload_n 3, 1) := by decide +kernel
theorem dlaw_294 : decode code 294 = .ok (.iconst 0, 1) := by decide +kernel
theorem dlaw_295 : decode code 295 = .ok (.laload, 1) := by decide +kernel
theorem dlaw_296 : decode code 296 = .ok (.iload 6, 2) := by decide +kernel
theorem dlaw_298 : decode code 298 = .ok (.i2l, 1) := by decide +kernel
theorem dlaw_299 : decode code 299 = .ok (.lcmp, 1) := by decide +kernel
theorem dlaw_300 : decode code 300 = .ok (.ifCond .eq 5, 3) := by decide +kernel
theorem dlaw_303 : decode code 303 = .ok (.iconst 0, 1) := by decide +kernel
theorem dlaw_304 : decode code 304 = .ok (.ireturn, 1) := by decide +kernel
theorem dlaw_305 : decode code 305 = .ok (.goto 647, 3) := by decide +kernel
theorem dlaw_308 : decode code 308 = .ok (.aload_n 1, 1) := by decide +kernel
theorem dlaw_309 : decode code 309 = .ok (.aload_n 0, 1) := by decide +kernel
theorem dlaw_310 : decode code 310 = .ok (.iload 4, 2) := by decide +kernel
theorem dlaw_312 : decode code 312 = .ok (.iconst 1, 1) := by decide +kernel
theorem dlaw_313 : decode code 313 = .ok (.iadd, 1) := by decide +kernel
theorem dlaw_314 : decode code 314 = .ok (.iaload, 1) := by decide +kernel
theorem dlaw_315 : decode code 315 = .ok (.aload_n 0, 1) := by decide +kernel
theorem dlaw_316 : decode code 316 = .ok (.iload 4, 2) := by decide +kernel
theorem dlaw_318 : decode code 318 = .ok (.iconst 2, 1) := by decide +kernel
theorem dlaw_319 : decode code 319 = .ok (.iadd, 1) := by decide +kernel
theorem dlaw_320 : decode code 320 = .ok (.iaload, 1) := by decide +kernel
theorem dlaw_321 : decode code 321 = .ok (.aload_n 0, 1) := by decide +kernel
theorem dlaw_322 : decode code 322 = .ok (.iload 4, 2) := by decide +kernel
theorem dlaw_324 : decode code 324 = .ok (.iconst 3, 1) := by decide +kernel
theorem dlaw_325 : decode code 325 = .ok (.iadd, 1) := by decide +kernel
theorem dlaw_326 : decode code 326 = .ok (.iaload, 1) := by decide +kernel
theorem dlaw_327 : decode code 327 = .ok (.aload_n 3, 1) := by decide +kernel
theorem dlaw_328 : decode code 328 = .ok (.invokestatic 79, 3) := by decide +kernel
theorem dlaw_331 : decode code 331 = .ok (.istore 5, 2) := by decide +kernel
theorem dlaw_333 : decode code 333 = .ok (.aload_n 2, 1) := by decide +kernel
theorem dlaw_334 : decode code 334 = .ok (.aload_n 0, 1) := by decide +kernel
theorem dlaw_335 : decode code 335 = .ok (.iload 4, 2) := by decide +kernel
theorem dlaw_337 : decode code 337 = .ok (.iconst 1, 1) := by decide +kernel
theorem dlaw_338 : decode code 338 = .ok (.iadd, 1) := by decide +kernel
theorem dlaw_339 : decode code 339 = .ok (.iaload, 1) := by decide +kernel
theorem dlaw_340 : decode code 340 = .ok (.aload_n 0, 1) := by decide +kernel
theorem dlaw_341 : decode code 341 = .ok (.iload 4, 2) := by decide +kernel
theorem dlaw_343 : decode code 343 = .ok (.iconst 2, 1) := by decide +kernel
theorem dlaw_344 : decode code 344 = .ok (.iadd, 1) := by decide +kernel
theorem dlaw_345 : decode code 345 = .ok (.iaload, 1) := by decide +kernel
theorem dlaw_346 : decode code 346 = .ok (.aload_n 0, 1) := by decide +kernel
theorem dlaw_347 : decode code 347 = .ok (.iload 4, 2) := by decide +kernel
theorem dlaw_349 : decode code 349 = .ok (.iconst 3, 1) := by decide +kernel
theorem dlaw_350 : decode code 350 = .ok (.iadd, 1) := by decide +kernel
theorem dlaw_351 : decode code 351 = .ok (.iaload, 1) := by decide +kernel
theorem dlaw_352 : decode code 352 = .ok (.invokevirtual 81, 3) := by decide +kernel
theorem dlaw_355 : decode code 355 = .ok (.istore 6, 2) := by decide +kernel
theorem dlaw_357 : decode code 357 = .ok (.aload_n 2, 1) := by decide +kernel
theorem dlaw_358 : decode code 358 = .ok (.invokevirtual 68, 3) := by decide +kernel
theorem dlaw_361 : decode code 361 = .ok (.iload 5, 2) := by decide +kernel
theorem dlaw_363 : decode code 363 = .ok (.if_icmp .eq 5, 3) := by decide +kernel
theorem dlaw_366 : decode code 366 = .ok (.iconst 0, 1) := by decide +kernel
theorem dlaw_367 : decode code 367 = .ok (.ireturn, 1) := by decide +kernel
theorem dlaw_368 : decode code 368 = .ok (.iload 5, 2) := by decide +kernel
theorem dlaw_370 : decode code 370 = .ok (.ifCond .ne 15, 3) := by decide +kernel
theorem dlaw_373 : decode code 373 = .ok (.aload_n 3, 1) := by decide +kernel
theorem dlaw_374 : decode code 374 = .ok (.iconst 0, 1) := by decide +kernel
theorem dlaw_375 : decode code 375 = .ok (.laload, 1) := by decide +kernel
theorem dlaw_376 : decode code 376 = .ok (.iload 6, 2) := by decide +kernel
theorem dlaw_378 : decode code 378 = .ok (.i2l, 1) := by decide +kernel
theorem dlaw_379 : decode code 379 = .ok (.lcmp, 1) := by decide +kernel
theorem dlaw_380 : decode code 380 = .ok (.ifCond .eq 5, 3) := by decide +kernel
theorem dlaw_383 : decode code 383 = .ok (.iconst 0, 1) := by decide +kernel
theorem dlaw_384 : decode code 384 = .ok (.ireturn, 1) := by decide +kernel
theorem dlaw_385 : decode code 385 = .ok (.goto 567, 3) := by decide +kernel
theorem dlaw_388 : decode code 388 = .ok (.aload_n 1, 1) := by decide +kernel
theorem dlaw_389 : decode code 389 = .ok (.aload_n 0, 1) := by decide +kernel
theorem dlaw_390 : decode code 390 = .ok (.iload 4, 2) := by decide +kernel
theorem dlaw_392 : decode code 392 = .ok (.iconst 1, 1) := by decide +kernel
theorem dlaw_393 : decode code 393 = .ok (.iadd, 1) := by decide +kernel
theorem dlaw_394 : decode code 394 = .ok (.iaload, 1) := by decide +kernel
theorem dlaw_395 : decode code 395 = .ok (.aload_n 0, 1) := by decide +kernel
theorem dlaw_396 : decode code 396 = .ok (.iload 4, 2) := by decide +kernel
theorem dlaw_398 : decode code 398 = .ok (.iconst 2, 1) := by decide +kernel
theorem dlaw_399 : decode code 399 = .ok (.iadd, 1) := by decide +kernel
theorem dlaw_400 : decode code 400 = .ok (.iaload, 1) := by decide +kernel
theorem dlaw_401 : decode code 401 = .ok (.aload_n 3, 1) := by decide +kernel
theorem dlaw_402 : decode code 402 = .ok (.invokestatic 82, 3) := by decide +kernel
theorem dlaw_405 : decode code 405 = .ok (.istore 5, 2) := by decide +kernel
theorem dlaw_407 : decode code 407 = .ok (.aload_n 2, 1) := by decide +kernel
theorem dlaw_408 : decode code 408 = .ok (.aload_n 0, 1) := by decide +kernel
theorem dlaw_409 : decode code 409 = .ok (.iload 4, 2) := by decide +kernel
theorem dlaw_411 : decode code 411 = .ok (.iconst 1, 1) := by decide +kernel
theorem dlaw_412 : decode code 412 = .ok (.iadd, 1) := by decide +kernel
theorem dlaw_413 : decode code 413 = .ok (.iaload, 1) := by decide +kernel
theorem dlaw_414 : decode code 414 = .ok (.aload_n 0, 1) := by decide +kernel
theorem dlaw_415 : decode code 415 = .ok (.iload 4, 2) := by decide +kernel
theorem dlaw_417 : decode code 417 = .ok (.iconst 2, 1) := by decide +kernel
theorem dlaw_418 : decode code 418 = .ok (.iadd, 1) := by decide +kernel
theorem dlaw_419 : decode code 419 = .ok (.iaload, 1) := by decide +kernel
theorem dlaw_420 : decode code 420 = .ok (.invokevirtual 84, 3) := by decide +kernel
theorem dlaw_423 : decode code 423 = .ok (.istore 6, 2) := by decide +kernel
theorem dlaw_425 : decode code 425 = .ok (.aload_n 2, 1) := by decide +kernel
theorem dlaw_426 : decode code 426 = .ok (.invokevirtual 68, 3) := by decide +kernel
theorem dlaw_429 : decode code 429 = .ok (.iload 5, 2) := by decide +kernel
theorem dlaw_431 : decode code 431 = .ok (.if_icmp .eq 5, 3) := by decide +kernel
theorem dlaw_434 : decode code 434 = .ok (.iconst 0, 1) := by decide +kernel
theorem dlaw_435 : decode code 435 = .ok (.ireturn, 1) := by decide +kernel
theorem dlaw_436 : decode code 436 = .ok (.iload 5, 2) := by decide +kernel
theorem dlaw_438 : decode code 438 = .ok (.ifCond .ne 15, 3) := by decide +kernel
theorem dlaw_441 : decode code 441 = .ok (.aload_n 3, 1) := by decide +kernel
theorem dlaw_442 : decode code 442 = .ok (.iconst 0, 1) := by decide +kernel
theorem dlaw_443 : decode code 443 = .ok (.laload, 1) := by decide +kernel
theorem dlaw_444 : decode code 444 = .ok (.iload 6, 2) := by decide +kernel
theorem dlaw_446 : decode code 446 = .ok (.i2l, 1) := by decide +kernel
theorem dlaw_447 : decode code 447 = .ok (.lcmp, 1) := by decide +kernel
theorem dlaw_448 : decode code 448 = .ok (.ifCond .eq 5, 3) := by decide +kernel
theorem dlaw_451 : decode code 451 = .ok (.iconst 0, 1) := by decide +kernel
theorem dlaw_452 : decode code 452 = .ok (.ireturn, 1) := by decide +kernel
theorem dlaw_453 : decode code 453 = .ok (.goto 499, 3) := by decide +kernel
theorem dlaw_456 : decode code 456 = .ok (.aload_n 1, 1) := by decide +kernel
theorem dlaw_457 : decode code 457 = .ok (.aload_n 0, 1) := by decide +kernel
theorem dlaw_458 : decode code 458 = .ok (.iload 4, 2) := by decide +kernel
theorem dlaw_460 : decode code 460 = .ok (.iconst 1, 1) := by decide +kernel
theorem dlaw_461 : decode code 461 = .ok (.iadd, 1) := by decide +kernel
theorem dlaw_462 : decode code 462 = .ok (.iaload, 1) := by decide +kernel
theorem dlaw_463 : decode code 463 = .ok (.aload_n 0, 1) := by decide +kernel
theorem dlaw_464 : decode code 464 = .ok (.iload 4, 2) := by decide +kernel
theorem dlaw_466 : decode code 466 = .ok (.iconst 2, 1) := by decide +kernel
theorem dlaw_467 : decode code 467 = .ok (.iadd, 1) := by decide +kernel
theorem dlaw_468 : decode code 468 = .ok (.iaload, 1) := by decide +kernel
theorem dlaw_469 : decode code 469 = .ok (.aload_n 0, 1) := by decide +kernel
theorem dlaw_470 : decode code 470 = .ok (.iload 4, 2) := by decide +kernel
theorem dlaw_472 : decode code 472 = .ok (.iconst 3, 1) := by decide +kernel
theorem dlaw_473 : decode code 473 = .ok (.iadd, 1) := by decide +kernel
theorem dlaw_474 : decode code 474 = .ok (.iaload, 1) := by decide +kernel
theorem dlaw_475 : decode code 475 = .ok (.aload_n 3, 1) := by decide +kernel
theorem dlaw_476 : decode code 476 = .ok (.invokestatic 85, 3) := by decide +kernel
theorem dlaw_479 : decode code 479 = .ok (.istore 5, 2) := by decide +kernel
theorem dlaw_481 : decode code 481 = .ok (.aload_n 2, 1) := by decide +kernel
theorem dlaw_482 : decode code 482 = .ok (.aload_n 0, 1) := by decide +kernel
theorem dlaw_483 : decode code 483 = .ok (.iload 4, 2) := by decide +kernel
theorem dlaw_485 : decode code 485 = .ok (.iconst 1, 1) := by decide +kernel
theorem dlaw_486 : decode code 486 = .ok (.iadd, 1) := by decide +kernel
theorem dlaw_487 : decode code 487 = .ok (.iaload, 1) := by decide +kernel
theorem dlaw_488 : decode code 488 = .ok (.aload_n 0, 1) := by decide +kernel
theorem dlaw_489 : decode code 489 = .ok (.iload 4, 2) := by decide +kernel
theorem dlaw_491 : decode code 491 = .ok (.iconst 2, 1) := by decide +kernel
theorem dlaw_492 : decode code 492 = .ok (.iadd, 1) := by decide +kernel
theorem dlaw_493 : decode code 493 = .ok (.iaload, 1) := by decide +kernel
theorem dlaw_494 : decode code 494 = .ok (.aload_n 0, 1) := by decide +kernel
theorem dlaw_495 : decode code 495 = .ok (.iload 4, 2) := by decide +kernel
theorem dlaw_497 : decode code 497 = .ok (.iconst 3, 1) := by decide +kernel
theorem dlaw_498 : decode code 498 = .ok (.iadd, 1) := by decide +kernel
theorem dlaw_499 : decode code 499 = .ok (.iaload, 1) := by decide +kernel
theorem dlaw_500 : decode code 500 = .ok (.invokevirtual 87, 3) := by decide +kernel
theorem dlaw_503 : decode code 503 = .ok (.istore 6, 2) := by decide +kernel
theorem dlaw_505 : decode code 505 = .ok (.aload_n 2, 1) := by decide +kernel
theorem dlaw_506 : decode code 506 = .ok (.invokevirtual 68, 3) := by decide +kernel
theorem dlaw_509 : decode code 509 = .ok (.iload 5, 2) := by decide +kernel
theorem dlaw_511 : decode code 511 = .ok (.if_icmp .eq 5, 3) := by decide +kernel
theorem dlaw_514 : decode code 514 = .ok (.iconst 0, 1) := by decide +kernel
theorem dlaw_515 : decode code 515 = .ok (.ireturn, 1) := by decide +kernel
theorem dlaw_516 : decode code 516 = .ok (.iload 5, 2) := by decide +kernel
theorem dlaw_518 : decode code 518 = .ok (.ifCond .ne 15, 3) := by decide +kernel
theorem dlaw_521 : decode code 521 = .ok (.aload_n 3, 1) := by decide +kernel
theorem dlaw_522 : decode code 522 = .ok (.iconst 0, 1) := by decide +kernel
theorem dlaw_523 : decode code 523 = .ok (.laload, 1) := by decide +kernel
theorem dlaw_524 : decode code 524 = .ok (.iload 6, 2) := by decide +kernel
theorem dlaw_526 : decode code 526 = .ok (.i2l, 1) := by decide +kernel
theorem dlaw_527 : decode code 527 = .ok (.lcmp, 1) := by decide +kernel
theorem dlaw_528 : decode code 528 = .ok (.ifCond .eq 5, 3) := by decide +kernel
theorem dlaw_531 : decode code 531 = .ok (.iconst 0, 1) := by decide +kernel
theorem dlaw_532 : decode code 532 = .ok (.ireturn, 1) := by decide +kernel
theorem dlaw_533 : decode code 533 = .ok (.goto 419, 3) := by decide +kernel
theorem dlaw_536 : decode code 536 = .ok (.aload_n 1, 1) := by decide +kernel
theorem dlaw_537 : decode code 537 = .ok (.aload_n 0, 1) := by decide +kernel
theorem dlaw_538 : decode code 538 = .ok (.iload 4, 2) := by decide +kernel
theorem dlaw_540 : decode code 540 = .ok (.iconst 1, 1) := by decide +kernel
theorem dlaw_541 : decode code 541 = .ok (.iadd, 1) := by decide +kernel
theorem dlaw_542 : decode code 542 = .ok (.iaload, 1) := by decide +kernel
theorem dlaw_543 : decode code 543 = .ok (.aload_n 0, 1) := by decide +kernel
theorem dlaw_544 : decode code 544 = .ok (.iload 4, 2) := by decide +kernel
theorem dlaw_546 : decode code 546 = .ok (.iconst 2, 1) := by decide +kernel
theorem dlaw_547 : decode code 547 = .ok (.iadd, 1) := by decide +kernel
theorem dlaw_548 : decode code 548 = .ok (.iaload, 1) := by decide +kernel
theorem dlaw_549 : decode code 549 = .ok (.aload_n 3, 1) := by decide +kernel
theorem dlaw_550 : decode code 550 = .ok (.invokestatic 88, 3) := by decide +kernel
theorem dlaw_553 : decode code 553 = .ok (.istore 5, 2) := by decide +kernel
theorem dlaw_555 : decode code 555 = .ok (.aload_n 2, 1) := by decide +kernel
theorem dlaw_556 : decode code 556 = .ok (.aload_n 0, 1) := by decide +kernel
theorem dlaw_557 : decode code 557 = .ok (.iload 4, 2) := by decide +kernel
theorem dlaw_559 : decode code 559 = .ok (.iconst 1, 1) := by decide +kernel
theorem dlaw_560 : decode code 560 = .ok (.iadd, 1) := by decide +kernel
theorem dlaw_561 : decode code 561 = .ok (.iaload, 1) := by decide +kernel
theorem dlaw_562 : decode code 562 = .ok (.aload_n 0, 1) := by decide +kernel
theorem dlaw_563 : decode code 563 = .ok (.iload 4, 2) := by decide +kernel
theorem dlaw_565 : decode code 565 = .ok (.iconst 2, 1) := by decide +kernel
theorem dlaw_566 : decode code 566 = .ok (.iadd, 1) := by decide +kernel
theorem dlaw_567 : decode code 567 = .ok (.iaload, 1) := by decide +kernel
theorem dlaw_568 : decode code 568 = .ok (.invokevirtual 90, 3) := by decide +kernel
theorem dlaw_571 : decode code 571 = .ok (.istore 6, 2) := by decide +kernel
theorem dlaw_573 : decode code 573 = .ok (.aload_n 2, 1) := by decide +kernel
theorem dlaw_574 : decode code 574 = .ok (.invokevirtual 68, 3) := by decide +kernel
theorem dlaw_577 : decode code 577 = .ok (.iload 5, 2) := by decide +kernel
theorem dlaw_579 : decode code 579 = .ok (.if_icmp .eq 5, 3) := by decide +kernel
theorem dlaw_582 : decode code 582 = .ok (.iconst 0, 1) := by decide +kernel
theorem dlaw_583 : decode code 583 = .ok (.ireturn, 1) := by decide +kernel
theorem dlaw_584 : decode code 584 = .ok (.iload 5, 2) := by decide +kernel
theorem dlaw_586 : decode code 586 = .ok (.ifCond .ne 15, 3) := by decide +kernel
theorem dlaw_589 : decode code 589 = .ok (.aload_n 3, 1) := by decide +kernel
theorem dlaw_590 : decode code 590 = .ok (.iconst 0, 1) := by decide +kernel
theorem dlaw_591 : decode code 591 = .ok (.laload, 1) := by decide +kernel
theorem dlaw_592 : decode code 592 = .ok (.iload 6, 2) := by decide +kernel
theorem dlaw_594 : decode code 594 = .ok (.i2l, 1) := by decide +kernel
theorem dlaw_595 : decode code 595 = .ok (.lcmp, 1) := by decide +kernel
theorem dlaw_596 : decode code 596 = .ok (.ifCond .eq 5, 3) := by decide +kernel
theorem dlaw_599 : decode code 599 = .ok (.iconst 0, 1) := by decide +kernel
theorem dlaw_600 : decode code 600 = .ok (.ireturn, 1) := by decide +kernel
theorem dlaw_601 : decode code 601 = .ok (.goto 351, 3) := by decide +kernel
theorem dlaw_604 : decode code 604 = .ok (.aload_n 1, 1) := by decide +kernel
theorem dlaw_605 : decode code 605 = .ok (.aload_n 0, 1) := by decide +kernel
theorem dlaw_606 : decode code 606 = .ok (.iload 4, 2) := by decide +kernel
theorem dlaw_608 : decode code 608 = .ok (.iconst 1, 1) := by decide +kernel
theorem dlaw_609 : decode code 609 = .ok (.iadd, 1) := by decide +kernel
theorem dlaw_610 : decode code 610 = .ok (.iaload, 1) := by decide +kernel
theorem dlaw_611 : decode code 611 = .ok (.aload_n 0, 1) := by decide +kernel
theorem dlaw_612 : decode code 612 = .ok (.iload 4, 2) := by decide +kernel
theorem dlaw_614 : decode code 614 = .ok (.iconst 2, 1) := by decide +kernel
theorem dlaw_615 : decode code 615 = .ok (.iadd, 1) := by decide +kernel
theorem dlaw_616 : decode code 616 = .ok (.iaload, 1) := by decide +kernel
theorem dlaw_617 : decode code 617 = .ok (.aload_n 3, 1) := by decide +kernel
theorem dlaw_618 : decode code 618 = .ok (.invokestatic 91, 3) := by decide +kernel
theorem dlaw_621 : decode code 621 = .ok (.istore 5, 2) := by decide +kernel
theorem dlaw_623 : decode code 623 = .ok (.aload_n 2, 1) := by decide +kernel
theorem dlaw_624 : decode code 624 = .ok (.aload_n 0, 1) := by decide +kernel
theorem dlaw_625 : decode code 625 = .ok (.iload 4, 2) := by decide +kernel
theorem dlaw_627 : decode code 627 = .ok (.iconst 1, 1) := by decide +kernel
theorem dlaw_628 : decode code 628 = .ok (.iadd, 1) := by decide +kernel
theorem dlaw_629 : decode code 629 = .ok (.iaload, 1) := by decide +kernel
theorem dlaw_630 : decode code 630 = .ok (.aload_n 0, 1) := by decide +kernel
theorem dlaw_631 : decode code 631 = .ok (.iload 4, 2) := by decide +kernel
theorem dlaw_633 : decode code 633 = .ok (.iconst 2, 1) := by decide +kernel
theorem dlaw_634 : decode code 634 = .ok (.iadd, 1) := by decide +kernel
theorem dlaw_635 : decode code 635 = .ok (.iaload, 1) := by decide +kernel
theorem dlaw_636 : decode code 636 = .ok (.invokevirtual 93, 3) := by decide +kernel
theorem dlaw_639 : decode code 639 = .ok (.istore 6, 2) := by decide +kernel
theorem dlaw_641 : decode code 641 = .ok (.aload_n 2, 1) := by decide +kernel
theorem dlaw_642 : decode code 642 = .ok (.invokevirtual 68, 3) := by decide +kernel
theorem dlaw_645 : decode code 645 = .ok (.iload 5, 2) := by decide +kernel
theorem dlaw_647 : decode code 647 = .ok (.if_icmp .eq 5, 3) := by decide +kernel
theorem dlaw_650 : decode code 650 = .ok (.iconst 0, 1) := by decide +kernel
theorem dlaw_651 : decode code 651 = .ok (.ireturn, 1) := by decide +kernel
theorem dlaw_652 : decode code 652 = .ok (.iload 5, 2) := by decide +kernel
theorem dlaw_654 : decode code 654 = .ok (.ifCond .ne 15, 3) := by decide +kernel
theorem dlaw_657 : decode code 657 = .ok (.aload_n 3, 1) := by decide +kernel
theorem dlaw_658 : decode code 658 = .ok (.iconst 0, 1) := by decide +kernel
theorem dlaw_659 : decode code 659 = .ok (.laload, 1) := by decide +kernel
theorem dlaw_660 : decode code 660 = .ok (.iload 6, 2) := by decide +kernel
theorem dlaw_662 : decode code 662 = .ok (.i2l, 1) := by decide +kernel
theorem dlaw_663 : decode code 663 = .ok (.lcmp, 1) := by decide +kernel
theorem dlaw_664 : decode code 664 = .ok (.ifCond .eq 5, 3) := by decide +kernel
theorem dlaw_667 : decode code 667 = .ok (.iconst 0, 1) := by decide +kernel
theorem dlaw_668 : decode code 668 = .ok (.ireturn, 1) := by decide +kernel
theorem dlaw_669 : decode code 669 = .ok (.goto 283, 3) := by decide +kernel
theorem dlaw_672 : decode code 672 = .ok (.aload_n 1, 1) := by decide +kernel
theorem dlaw_673 : decode code 673 = .ok (.aload_n 0, 1) := by decide +kernel
theorem dlaw_674 : decode code 674 = .ok (.iload 4, 2) := by decide +kernel
theorem dlaw_676 : decode code 676 = .ok (.iconst 1, 1) := by decide +kernel
theorem dlaw_677 : decode code 677 = .ok (.iadd, 1) := by decide +kernel
theorem dlaw_678 : decode code 678 = .ok (.iaload, 1) := by decide +kernel
theorem dlaw_679 : decode code 679 = .ok (.aload_n 3, 1) := by decide +kernel
theorem dlaw_680 : decode code 680 = .ok (.invokestatic 94, 3) := by decide +kernel
theorem dlaw_683 : decode code 683 = .ok (.istore 5, 2) := by decide +kernel
theorem dlaw_685 : decode code 685 = .ok (.aload_n 2, 1) := by decide +kernel
theorem dlaw_686 : decode code 686 = .ok (.aload_n 0, 1) := by decide +kernel
theorem dlaw_687 : decode code 687 = .ok (.iload 4, 2) := by decide +kernel
theorem dlaw_689 : decode code 689 = .ok (.iconst 1, 1) := by decide +kernel
theorem dlaw_690 : decode code 690 = .ok (.iadd, 1) := by decide +kernel
theorem dlaw_691 : decode code 691 = .ok (.iaload, 1) := by decide +kernel
theorem dlaw_692 : decode code 692 = .ok (.invokevirtual 96, 3) := by decide +kernel
theorem dlaw_695 : decode code 695 = .ok (.istore 6, 2) := by decide +kernel
theorem dlaw_697 : decode code 697 = .ok (.aload_n 2, 1) := by decide +kernel
theorem dlaw_698 : decode code 698 = .ok (.invokevirtual 68, 3) := by decide +kernel
theorem dlaw_701 : decode code 701 = .ok (.iload 5, 2) := by decide +kernel
theorem dlaw_703 : decode code 703 = .ok (.if_icmp .eq 5, 3) := by decide +kernel
theorem dlaw_706 : decode code 706 = .ok (.iconst 0, 1) := by decide +kernel
theorem dlaw_707 : decode code 707 = .ok (.ireturn, 1) := by decide +kernel
theorem dlaw_708 : decode code 708 = .ok (.iload 5, 2) := by decide +kernel
theorem dlaw_710 : decode code 710 = .ok (.ifCond .ne 15, 3) := by decide +kernel
theorem dlaw_713 : decode code 713 = .ok (.aload_n 3, 1) := by decide +kernel
theorem dlaw_714 : decode code 714 = .ok (.iconst 0, 1) := by decide +kernel
theorem dlaw_715 : decode code 715 = .ok (.laload, 1) := by decide +kernel
theorem dlaw_716 : decode code 716 = .ok (.iload 6, 2) := by decide +kernel
theorem dlaw_718 : decode code 718 = .ok (.i2l, 1) := by decide +kernel
theorem dlaw_719 : decode code 719 = .ok (.lcmp, 1) := by decide +kernel
theorem dlaw_720 : decode code 720 = .ok (.ifCond .eq 5, 3) := by decide +kernel
theorem dlaw_723 : decode code 723 = .ok (.iconst 0, 1) := by decide +kernel
theorem dlaw_724 : decode code 724 = .ok (.ireturn, 1) := by decide +kernel
theorem dlaw_725 : decode code 725 = .ok (.goto 227, 3) := by decide +kernel
theorem dlaw_728 : decode code 728 = .ok (.aload_n 1, 1) := by decide +kernel
theorem dlaw_729 : decode code 729 = .ok (.aload_n 3, 1) := by decide +kernel
theorem dlaw_730 : decode code 730 = .ok (.invokestatic 97, 3) := by decide +kernel
theorem dlaw_733 : decode code 733 = .ok (.istore 5, 2) := by decide +kernel
theorem dlaw_735 : decode code 735 = .ok (.aload_n 2, 1) := by decide +kernel
theorem dlaw_736 : decode code 736 = .ok (.invokevirtual 100, 3) := by decide +kernel
theorem dlaw_739 : decode code 739 = .ok (.istore 6, 2) := by decide +kernel
theorem dlaw_741 : decode code 741 = .ok (.aload_n 2, 1) := by decide +kernel
theorem dlaw_742 : decode code 742 = .ok (.invokevirtual 68, 3) := by decide +kernel
theorem dlaw_745 : decode code 745 = .ok (.iload 5, 2) := by decide +kernel
theorem dlaw_747 : decode code 747 = .ok (.if_icmp .eq 5, 3) := by decide +kernel
theorem dlaw_750 : decode code 750 = .ok (.iconst 0, 1) := by decide +kernel
theorem dlaw_751 : decode code 751 = .ok (.ireturn, 1) := by decide +kernel
theorem dlaw_752 : decode code 752 = .ok (.iload 5, 2) := by decide +kernel
theorem dlaw_754 : decode code 754 = .ok (.ifCond .ne 15, 3) := by decide +kernel
theorem dlaw_757 : decode code 757 = .ok (.aload_n 3, 1) := by decide +kernel
theorem dlaw_758 : decode code 758 = .ok (.iconst 0, 1) := by decide +kernel
theorem dlaw_759 : decode code 759 = .ok (.laload, 1) := by decide +kernel
theorem dlaw_760 : decode code 760 = .ok (.iload 6, 2) := by decide +kernel
theorem dlaw_762 : decode code 762 = .ok (.i2l, 1) := by decide +kernel
theorem dlaw_763 : decode code 763 = .ok (.lcmp, 1) := by decide +kernel
theorem dlaw_764 : decode code 764 = .ok (.ifCond .eq 5, 3) := by decide +kernel
theorem dlaw_767 : decode code 767 = .ok (.iconst 0, 1) := by decide +kernel
theorem dlaw_768 : decode code 768 = .ok (.ireturn, 1) := by decide +kernel
theorem dlaw_769 : decode code 769 = .ok (.goto 183, 3) := by decide +kernel
theorem dlaw_772 : decode code 772 = .ok (.aload_n 1, 1) := by decide +kernel
theorem dlaw_773 : decode code 773 = .ok (.aload_n 0, 1) := by decide +kernel
theorem dlaw_774 : decode code 774 = .ok (.iload 4, 2) := by decide +kernel
theorem dlaw_776 : decode code 776 = .ok (.iconst 1, 1) := by decide +kernel
theorem dlaw_777 : decode code 777 = .ok (.iadd, 1) := by decide +kernel
theorem dlaw_778 : decode code 778 = .ok (.iaload, 1) := by decide +kernel
theorem dlaw_779 : decode code 779 = .ok (.aload_n 0, 1) := by decide +kernel
theorem dlaw_780 : decode code 780 = .ok (.iload 4, 2) := by decide +kernel
theorem dlaw_782 : decode code 782 = .ok (.iconst 2, 1) := by decide +kernel
theorem dlaw_783 : decode code 783 = .ok (.iadd, 1) := by decide +kernel
theorem dlaw_784 : decode code 784 = .ok (.iaload, 1) := by decide +kernel
theorem dlaw_785 : decode code 785 = .ok (.aload_n 3, 1) := by decide +kernel
theorem dlaw_786 : decode code 786 = .ok (.invokestatic 101, 3) := by decide +kernel
theorem dlaw_789 : decode code 789 = .ok (.istore 5, 2) := by decide +kernel
theorem dlaw_791 : decode code 791 = .ok (.aload_n 2, 1) := by decide +kernel
theorem dlaw_792 : decode code 792 = .ok (.aload_n 0, 1) := by decide +kernel
theorem dlaw_793 : decode code 793 = .ok (.iload 4, 2) := by decide +kernel
theorem dlaw_795 : decode code 795 = .ok (.iconst 1, 1) := by decide +kernel
theorem dlaw_796 : decode code 796 = .ok (.iadd, 1) := by decide +kernel
theorem dlaw_797 : decode code 797 = .ok (.iaload, 1) := by decide +kernel
theorem dlaw_798 : decode code 798 = .ok (.aload_n 0, 1) := by decide +kernel
theorem dlaw_799 : decode code 799 = .ok (.iload 4, 2) := by decide +kernel
theorem dlaw_801 : decode code 801 = .ok (.iconst 2, 1) := by decide +kernel
theorem dlaw_802 : decode code 802 = .ok (.iadd, 1) := by decide +kernel
theorem dlaw_803 : decode code 803 = .ok (.iaload, 1) := by decide +kernel
theorem dlaw_804 : decode code 804 = .ok (.invokevirtual 103, 3) := by decide +kernel
theorem dlaw_807 : decode code 807 = .ok (.istore 6, 2) := by decide +kernel
theorem dlaw_809 : decode code 809 = .ok (.aload_n 2, 1) := by decide +kernel
theorem dlaw_810 : decode code 810 = .ok (.invokevirtual 68, 3) := by decide +kernel
theorem dlaw_813 : decode code 813 = .ok (.iload 5, 2) := by decide +kernel
theorem dlaw_815 : decode code 815 = .ok (.if_icmp .eq 5, 3) := by decide +kernel
theorem dlaw_818 : decode code 818 = .ok (.iconst 0, 1) := by decide +kernel
theorem dlaw_819 : decode code 819 = .ok (.ireturn, 1) := by decide +kernel
theorem dlaw_820 : decode code 820 = .ok (.iload 5, 2) := by decide +kernel
theorem dlaw_822 : decode code 822 = .ok (.ifCond .ne 15, 3) := by decide +kernel
theorem dlaw_825 : decode code 825 = .ok (.aload_n 3, 1) := by decide +kernel
theorem dlaw_826 : decode code 826 = .ok (.iconst 0, 1) := by decide +kernel
theorem dlaw_827 : decode code 827 = .ok (.laload, 1) := by decide +kernel
theorem dlaw_828 : decode code 828 = .ok (.iload 6, 2) := by decide +kernel
theorem dlaw_830 : decode code 830 = .ok (.i2l, 1) := by decide +kernel
theorem dlaw_831 : decode code 831 = .ok (.lcmp, 1) := by decide +kernel
theorem dlaw_832 : decode code 832 = .ok (.ifCond .eq 5, 3) := by decide +kernel
theorem dlaw_835 : decode code 835 = .ok (.iconst 0, 1) := by decide +kernel
theorem dlaw_836 : decode code 836 = .ok (.ireturn, 1) := by decide +kernel
theorem dlaw_837 : decode code 837 = .ok (.goto 115, 3) := by decide +kernel
theorem dlaw_840 : decode code 840 = .ok (.aload_n 1, 1) := by decide +kernel
theorem dlaw_841 : decode code 841 = .ok (.aload_n 0, 1) := by decide +kernel
theorem dlaw_842 : decode code 842 = .ok (.iload 4, 2) := by decide +kernel
theorem dlaw_844 : decode code 844 = .ok (.iconst 1, 1) := by decide +kernel
theorem dlaw_845 : decode code 845 = .ok (.iadd, 1) := by decide +kernel
theorem dlaw_846 : decode code 846 = .ok (.iaload, 1) := by decide +kernel
theorem dlaw_847 : decode code 847 = .ok (.aload_n 3, 1) := by decide +kernel
theorem dlaw_848 : decode code 848 = .ok (.invokestatic 104, 3) := by decide +kernel
theorem dlaw_851 : decode code 851 = .ok (.istore 5, 2) := by decide +kernel
theorem dlaw_853 : decode code 853 = .ok (.aload_n 2, 1) := by decide +kernel
theorem dlaw_854 : decode code 854 = .ok (.aload_n 0, 1) := by decide +kernel
theorem dlaw_855 : decode code 855 = .ok (.iload 4, 2) := by decide +kernel
theorem dlaw_857 : decode code 857 = .ok (.iconst 1, 1) := by decide +kernel
theorem dlaw_858 : decode code 858 = .ok (.iadd, 1) := by decide +kernel
theorem dlaw_859 : decode code 859 = .ok (.iaload, 1) := by decide +kernel
theorem dlaw_860 : decode code 860 = .ok (.invokevirtual 106, 3) := by decide +kernel
theorem dlaw_863 : decode code 863 = .ok (.istore 6, 2) := by decide +kernel
theorem dlaw_865 : decode code 865 = .ok (.aload_n 2, 1) := by decide +kernel
theorem dlaw_866 : decode code 866 = .ok (.invokevirtual 68, 3) := by decide +kernel
theorem dlaw_869 : decode code 869 = .ok (.iload 5, 2) := by decide +kernel
theorem dlaw_871 : decode code 871 = .ok (.if_icmp .eq 5, 3) := by decide +kernel
theorem dlaw_874 : decode code 874 = .ok (.iconst 0, 1) := by decide +kernel
theorem dlaw_875 : decode code 875 = .ok (.ireturn, 1) := by decide +kernel
theorem dlaw_876 : decode code 876 = .ok (.iload 5, 2) := by decide +kernel
theorem dlaw_878 : decode code 878 = .ok (.ifCond .ne 15, 3) := by decide +kernel
theorem dlaw_881 : decode code 881 = .ok (.aload_n 3, 1) := by decide +kernel
theorem dlaw_882 : decode code 882 = .ok (.iconst 0, 1) := by decide +kernel
theorem dlaw_883 : decode code 883 = .ok (.laload, 1) := by decide +kernel
theorem dlaw_884 : decode code 884 = .ok (.iload 6, 2) := by decide +kernel
theorem dlaw_886 : decode code 886 = .ok (.i2l, 1) := by decide +kernel
theorem dlaw_887 : decode code 887 = .ok (.lcmp, 1) := by decide +kernel
theorem dlaw_888 : decode code 888 = .ok (.ifCond .eq 5, 3) := by decide +kernel
theorem dlaw_891 : decode code 891 = .ok (.iconst 0, 1) := by decide +kernel
theorem dlaw_892 : decode code 892 = .ok (.ireturn, 1) := by decide +kernel
theorem dlaw_893 : decode code 893 = .ok (.goto 59, 3) := by decide +kernel
theorem dlaw_896 : decode code 896 = .ok (.aload_n 1, 1) := by decide +kernel
theorem dlaw_897 : decode code 897 = .ok (.aload_n 0, 1) := by decide +kernel
theorem dlaw_898 : decode code 898 = .ok (.iload 4, 2) := by decide +kernel
theorem dlaw_900 : decode code 900 = .ok (.iconst 1, 1) := by decide +kernel
theorem dlaw_901 : decode code 901 = .ok (.iadd, 1) := by decide +kernel
theorem dlaw_902 : decode code 902 = .ok (.iaload, 1) := by decide +kernel
theorem dlaw_903 : decode code 903 = .ok (.aload_n 3, 1) := by decide +kernel
theorem dlaw_904 : decode code 904 = .ok (.invokestatic 107, 3) := by decide +kernel
theorem dlaw_907 : decode code 907 = .ok (.istore 5, 2) := by decide +kernel
theorem dlaw_909 : decode code 909 = .ok (.aload_n 2, 1) := by decide +kernel
theorem dlaw_910 : decode code 910 = .ok (.aload_n 0, 1) := by decide +kernel
theorem dlaw_911 : decode code 911 = .ok (.iload 4, 2) := by decide +kernel
theorem dlaw_913 : decode code 913 = .ok (.iconst 1, 1) := by decide +kernel
theorem dlaw_914 : decode code 914 = .ok (.iadd, 1) := by decide +kernel
theorem dlaw_915 : decode code 915 = .ok (.iaload, 1) := by decide +kernel
theorem dlaw_916 : decode code 916 = .ok (.invokevirtual 109, 3) := by decide +kernel
theorem dlaw_919 : decode code 919 = .ok (.istore 6, 2) := by decide +kernel
theorem dlaw_921 : decode code 921 = .ok (.aload_n 2, 1) := by decide +kernel
theorem dlaw_922 : decode code 922 = .ok (.invokevirtual 68, 3) := by decide +kernel
theorem dlaw_925 : decode code 925 = .ok (.iload 5, 2) := by decide +kernel
theorem dlaw_927 : decode code 927 = .ok (.if_icmp .eq 5, 3) := by decide +kernel
theorem dlaw_930 : decode code 930 = .ok (.iconst 0, 1) := by decide +kernel
theorem dlaw_931 : decode code 931 = .ok (.ireturn, 1) := by decide +kernel
theorem dlaw_932 : decode code 932 = .ok (.iload 5, 2) := by decide +kernel
theorem dlaw_934 : decode code 934 = .ok (.ifCond .ne 15, 3) := by decide +kernel
theorem dlaw_937 : decode code 937 = .ok (.aload_n 3, 1) := by decide +kernel
theorem dlaw_938 : decode code 938 = .ok (.iconst 0, 1) := by decide +kernel
theorem dlaw_939 : decode code 939 = .ok (.laload, 1) := by decide +kernel
theorem dlaw_940 : decode code 940 = .ok (.iload 6, 2) := by decide +kernel
theorem dlaw_942 : decode code 942 = .ok (.i2l, 1) := by decide +kernel
theorem dlaw_943 : decode code 943 = .ok (.lcmp, 1) := by decide +kernel
theorem dlaw_944 : decode code 944 = .ok (.ifCond .eq 5, 3) := by decide +kernel
theorem dlaw_947 : decode code 947 = .ok (.iconst 0, 1) := by decide +kernel
theorem dlaw_948 : decode code 948 = .ok (.ireturn, 1) := by decide +kernel
theorem dlaw_949 : decode code 949 = .ok (.goto 3, 3) := by decide +kernel
theorem dlaw_952 : decode code 952 = .ok (.iinc 4 4, 3) := by decide +kernel
theorem dlaw_955 : decode code 955 = .ok (.goto (-932), 3) := by decide +kernel
theorem dlaw_958 : decode code 958 = .ok (.iconst 1, 1) := by decide +kernel
theorem dlaw_959 : decode code 959 = .ok (.ireturn, 1) := by decide +kernel
