theorem dX10_init_0 : decode cX10_init 0 = .ok (.aload_n 0, 1) := by decide +kernel
theorem dX10_init_1 : decode cX10_init 1 = .ok (.invokespecial 1, 3) := by decide +kernel
theorem dX10_init_4 : decode cX10_init 4 = .ok (.aload_n 0, 1) := by decide +kernel
theorem dX10_init_5 : decode cX10_init 5 = .ok (.bipush 7, 2) := by decide +kernel
theorem dX10_init_7 : decode cX10_init 7 = .ok (.newarray .int, 2) := by decide +kernel
theorem dX10_init_9 : decode cX10_init 9 = .ok (.putfield 7, 3) := by decide +kernel
theorem dX10_init_12 : decode cX10_init 12 = .ok (.aload_n 0, 1) := by decide +kernel
theorem dX10_init_13 : decode cX10_init 13 = .ok (.sipush 267, 3) := by decide +kernel
theorem dX10_init_16 : decode cX10_init 16 = .ok (.newarray .int, 2) := by decide +kernel
theorem dX10_init_18 : decode cX10_init 18 = .ok (.putfield 13, 3) := by decide +kernel
theorem dX10_init_21 : decode cX10_init 21 = .ok (.aload_n 0, 1) := by decide +kernel
theorem dX10_init_22 : decode cX10_init 22 = .ok (.sipush 267, 3) := by decide +kernel
theorem dX10_init_25 : decode cX10_init 25 = .ok (.newarray .int, 2) := by decide +kernel
theorem dX10_init_27 : decode cX10_init 27 = .ok (.putfield 16, 3) := by decide +kernel
theorem dX10_init_30 : decode cX10_init 30 = .ok (.aload_n 0, 1) := by decide +kernel
theorem dX10_init_31 : decode cX10_init 31 = .ok (.sipush 267, 3) := by decide +kernel
theorem dX10_init_34 : decode cX10_init 34 = .ok (.newarray .int, 2) := by decide +kernel
theorem dX10_init_36 : decode cX10_init 36 = .ok (.putfield 19, 3) := by decide +kernel
theorem dX10_init_39 : decode cX10_init 39 = .ok (.aload_n 0, 1) := by decide +kernel
theorem dX10_init_40 : decode cX10_init 40 = .ok (.bipush 64, 2) := by decide +kernel
theorem dX10_init_42 : decode cX10_init 42 = .ok (.newarray .int, 2) := by decide +kernel
theorem dX10_init_44 : decode cX10_init 44 = .ok (.putfield 22, 3) := by decide +kernel
theorem dX10_init_47 : decode cX10_init 47 = .ok (.aload_n 0, 1) := by decide +kernel
theorem dX10_init_48 : decode cX10_init 48 = .ok (.bipush 6, 2) := by decide +kernel
theorem dX10_init_50 : decode cX10_init 50 = .ok (.newarray .int, 2) := by decide +kernel
theorem dX10_init_52 : decode cX10_init 52 = .ok (.putfield 25, 3) := by decide +kernel
theorem dX10_init_55 : decode cX10_init 55 = .ok (.aload_n 0, 1) := by decide +kernel
theorem dX10_init_56 : decode cX10_init 56 = .ok (.bipush 36, 2) := by decide +kernel
theorem dX10_init_58 : decode cX10_init 58 = .ok (.newarray .int, 2) := by decide +kernel
theorem dX10_init_60 : decode cX10_init 60 = .ok (.putfield 28, 3) := by decide +kernel
theorem dX10_init_63 : decode cX10_init 63 = .ok (.aload_n 0, 1) := by decide +kernel
theorem dX10_init_64 : decode cX10_init 64 = .ok (.iconst 3, 1) := by decide +kernel
theorem dX10_init_65 : decode cX10_init 65 = .ok (.newarray .int, 2) := by decide +kernel
theorem dX10_init_67 : decode cX10_init 67 = .ok (.putfield 31, 3) := by decide +kernel
theorem dX10_init_70 : decode cX10_init 70 = .ok (.aload_n 0, 1) := by decide +kernel
theorem dX10_init_71 : decode cX10_init 71 = .ok (.bipush 36, 2) := by decide +kernel
theorem dX10_init_73 : decode cX10_init 73 = .ok (.newarray .int, 2) := by decide +kernel
theorem dX10_init_75 : decode cX10_init 75 = .ok (.putfield 34, 3) := by decide +kernel
theorem dX10_init_78 : decode cX10_init 78 = .ok (.aload_n 0, 1) := by decide +kernel
theorem dX10_init_79 : decode cX10_init 79 = .ok (.iconst 3, 1) := by decide +kernel
theorem dX10_init_80 : decode cX10_init 80 = .ok (.newarray .int, 2) := by decide +kernel
theorem dX10_init_82 : decode cX10_init 82 = .ok (.putfield 37, 3) := by decide +kernel
theorem dX10_init_85 : decode cX10_init 85 = .ok (.aload_n 0, 1) := by decide +kernel
theorem dX10_init_86 : decode cX10_init 86 = .ok (.bipush 36, 2) := by decide +kernel
theorem dX10_init_88 : decode cX10_init 88 = .ok (.newarray .int, 2) := by decide +kernel
theorem dX10_init_90 : decode cX10_init 90 = .ok (.putfield 40, 3) := by decide +kernel
theorem dX10_init_93 : decode cX10_init 93 = .ok (.aload_n 0, 1) := by decide +kernel
theorem dX10_init_94 : decode cX10_init 94 = .ok (.bipush 12, 2) := by decide +kernel
theorem dX10_init_96 : decode cX10_init 96 = .ok (.newarray .int, 2) := by decide +kernel
theorem dX10_init_98 : decode cX10_init 98 = .ok (.putfield 43, 3) := by decide +kernel
theorem dX10_init_101 : decode cX10_init 101 = .ok (.aload_n 0, 1) := by decide +kernel
theorem dX10_init_102 : decode cX10_init 102 = .ok (.getfield 13, 3) := by decide +kernel
theorem dX10_init_105 : decode cX10_init 105 = .ok (.iconst 0, 1) := by decide +kernel
theorem dX10_init_106 : decode cX10_init 106 = .ok (.iconst 3, 1) := by decide +kernel
theorem dX10_init_107 : decode cX10_init 107 = .ok (.iastore, 1) := by decide +kernel
theorem dX10_init_108 : decode cX10_init 108 = .ok (.return_, 1) := by decide +kernel
theorem dX10_refuse_0 : decode cX10_refuse 0 = .ok (.aload_n 0, 1) := by decide +kernel
theorem dX10_refuse_1 : decode cX10_refuse 1 = .ok (.getfield 7, 3) := by decide +kernel
theorem dX10_refuse_4 : decode cX10_refuse 4 = .ok (.iload_n 1, 1) := by decide +kernel
theorem dX10_refuse_5 : decode cX10_refuse 5 = .ok (.ineg, 1) := by decide +kernel
theorem dX10_refuse_6 : decode cX10_refuse 6 = .ok (.dup2, 1) := by decide +kernel
theorem dX10_refuse_7 : decode cX10_refuse 7 = .ok (.iaload, 1) := by decide +kernel
theorem dX10_refuse_8 : decode cX10_refuse 8 = .ok (.iconst 1, 1) := by decide +kernel
theorem dX10_refuse_9 : decode cX10_refuse 9 = .ok (.iadd, 1) := by decide +kernel
theorem dX10_refuse_10 : decode cX10_refuse 10 = .ok (.iastore, 1) := by decide +kernel
theorem dX10_refuse_11 : decode cX10_refuse 11 = .ok (.iload_n 1, 1) := by decide +kernel
theorem dX10_refuse_12 : decode cX10_refuse 12 = .ok (.ireturn, 1) := by decide +kernel
theorem dX10_isIn_0 : decode cX10_isIn 0 = .ok (.iload_n 0, 1) := by decide +kernel
theorem dX10_isIn_1 : decode cX10_isIn 1 = .ok (.ifCond .lt 12, 3) := by decide +kernel
theorem dX10_isIn_4 : decode cX10_isIn 4 = .ok (.iload_n 0, 1) := by decide +kernel
theorem dX10_isIn_5 : decode cX10_isIn 5 = .ok (.iload_n 1, 1) := by decide +kernel
theorem dX10_isIn_6 : decode cX10_isIn 6 = .ok (.if_icmp .ge 7, 3) := by decide +kernel
theorem dX10_isIn_9 : decode cX10_isIn 9 = .ok (.iconst 1, 1) := by decide +kernel
theorem dX10_isIn_10 : decode cX10_isIn 10 = .ok (.goto 4, 3) := by decide +kernel
theorem dX10_isIn_13 : decode cX10_isIn 13 = .ok (.iconst 0, 1) := by decide +kernel
theorem dX10_isIn_14 : decode cX10_isIn 14 = .ok (.ireturn, 1) := by decide +kernel
theorem dX10_within_0 : decode cX10_within 0 = .ok (.iload_n 0, 1) := by decide +kernel
theorem dX10_within_1 : decode cX10_within 1 = .ok (.iload_n 1, 1) := by decide +kernel
theorem dX10_within_2 : decode cX10_within 2 = .ok (.if_icmp .ge 8, 3) := by decide +kernel
theorem dX10_within_5 : decode cX10_within 5 = .ok (.bipush (-4), 2) := by decide +kernel
theorem dX10_within_7 : decode cX10_within 7 = .ok (.goto 14, 3) := by decide +kernel
theorem dX10_within_10 : decode cX10_within 10 = .ok (.iload_n 0, 1) := by decide +kernel
theorem dX10_within_11 : decode cX10_within 11 = .ok (.iload_n 2, 1) := by decide +kernel
theorem dX10_within_12 : decode cX10_within 12 = .ok (.if_icmp .le 8, 3) := by decide +kernel
theorem dX10_within_15 : decode cX10_within 15 = .ok (.bipush (-6), 2) := by decide +kernel
theorem dX10_within_17 : decode cX10_within 17 = .ok (.goto 4, 3) := by decide +kernel
theorem dX10_within_20 : decode cX10_within 20 = .ok (.iconst 0, 1) := by decide +kernel
theorem dX10_within_21 : decode cX10_within 21 = .ok (.ireturn, 1) := by decide +kernel
theorem dX10_isSpot_0 : decode cX10_isSpot 0 = .ok (.iload_n 1, 1) := by decide +kernel
theorem dX10_isSpot_1 : decode cX10_isSpot 1 = .ok (.aload_n 0, 1) := by decide +kernel
theorem dX10_isSpot_2 : decode cX10_isSpot 2 = .ok (.getfield 13, 3) := by decide +kernel
theorem dX10_isSpot_5 : decode cX10_isSpot 5 = .ok (.iconst 0, 1) := by decide +kernel
theorem dX10_isSpot_6 : decode cX10_isSpot 6 = .ok (.iaload, 1) := by decide +kernel
theorem dX10_isSpot_7 : decode cX10_isSpot 7 = .ok (.invokestatic 46, 3) := by decide +kernel
theorem dX10_isSpot_10 : decode cX10_isSpot 10 = .ok (.ireturn, 1) := by decide +kernel
theorem dX10_isPerson_0 : decode cX10_isPerson 0 = .ok (.iload_n 1, 1) := by decide +kernel
theorem dX10_isPerson_1 : decode cX10_isPerson 1 = .ok (.aload_n 0, 1) := by decide +kernel
theorem dX10_isPerson_2 : decode cX10_isPerson 2 = .ok (.getfield 13, 3) := by decide +kernel
theorem dX10_isPerson_5 : decode cX10_isPerson 5 = .ok (.iconst 1, 1) := by decide +kernel
theorem dX10_isPerson_6 : decode cX10_isPerson 6 = .ok (.iaload, 1) := by decide +kernel
theorem dX10_isPerson_7 : decode cX10_isPerson 7 = .ok (.invokestatic 46, 3) := by decide +kernel
theorem dX10_isPerson_10 : decode cX10_isPerson 10 = .ok (.ireturn, 1) := by decide +kernel
theorem dX10_isWork_0 : decode cX10_isWork 0 = .ok (.iload_n 1, 1) := by decide +kernel
theorem dX10_isWork_1 : decode cX10_isWork 1 = .ok (.aload_n 0, 1) := by decide +kernel
theorem dX10_isWork_2 : decode cX10_isWork 2 = .ok (.getfield 13, 3) := by decide +kernel
theorem dX10_isWork_5 : decode cX10_isWork 5 = .ok (.iconst 2, 1) := by decide +kernel
theorem dX10_isWork_6 : decode cX10_isWork 6 = .ok (.iaload, 1) := by decide +kernel
theorem dX10_isWork_7 : decode cX10_isWork 7 = .ok (.invokestatic 46, 3) := by decide +kernel
theorem dX10_isWork_10 : decode cX10_isWork 10 = .ok (.ireturn, 1) := by decide +kernel
theorem dX10_isPart_0 : decode cX10_isPart 0 = .ok (.iload_n 1, 1) := by decide +kernel
theorem dX10_isPart_1 : decode cX10_isPart 1 = .ok (.bipush 24, 2) := by decide +kernel
theorem dX10_isPart_3 : decode cX10_isPart 3 = .ok (.invokestatic 46, 3) := by decide +kernel
theorem dX10_isPart_6 : decode cX10_isPart 6 = .ok (.ifCond .eq 16, 3) := by decide +kernel
theorem dX10_isPart_9 : decode cX10_isPart 9 = .ok (.aload_n 0, 1) := by decide +kernel
theorem dX10_isPart_10 : decode cX10_isPart 10 = .ok (.iload_n 1, 1) := by decide +kernel
theorem dX10_isPart_11 : decode cX10_isPart 11 = .ok (.iconst 0, 1) := by decide +kernel
theorem dX10_isPart_12 : decode cX10_isPart 12 = .ok (.invokevirtual 50, 3) := by decide +kernel
theorem dX10_isPart_15 : decode cX10_isPart 15 = .ok (.ifCond .le 7, 3) := by decide +kernel
theorem dX10_isPart_18 : decode cX10_isPart 18 = .ok (.iconst 1, 1) := by decide +kernel
theorem dX10_isPart_19 : decode cX10_isPart 19 = .ok (.goto 4, 3) := by decide +kernel
theorem dX10_isPart_22 : decode cX10_isPart 22 = .ok (.iconst 0, 1) := by decide +kernel
theorem dX10_isPart_23 : decode cX10_isPart 23 = .ok (.ireturn, 1) := by decide +kernel
theorem dX10_get_0 : decode cX10_get 0 = .ok (.aload_n 0, 1) := by decide +kernel
theorem dX10_get_1 : decode cX10_get 1 = .ok (.getfield 13, 3) := by decide +kernel
theorem dX10_get_4 : decode cX10_get 4 = .ok (.bipush 39, 2) := by decide +kernel
theorem dX10_get_6 : decode cX10_get 6 = .ok (.iconst 4, 1) := by decide +kernel
theorem dX10_get_7 : decode cX10_get 7 = .ok (.iload_n 1, 1) := by decide +kernel
theorem dX10_get_8 : decode cX10_get 8 = .ok (.imul, 1) := by decide +kernel
theorem dX10_get_9 : decode cX10_get 9 = .ok (.iadd, 1) := by decide +kernel
theorem dX10_get_10 : decode cX10_get 10 = .ok (.iload_n 2, 1) := by decide +kernel
theorem dX10_get_11 : decode cX10_get 11 = .ok (.iadd, 1) := by decide +kernel
theorem dX10_get_12 : decode cX10_get 12 = .ok (.iaload, 1) := by decide +kernel
theorem dX10_get_13 : decode cX10_get 13 = .ok (.ireturn, 1) := by decide +kernel
theorem dX10_of_0 : decode cX10_of 0 = .ok (.aload_n 0, 1) := by decide +kernel
theorem dX10_of_1 : decode cX10_of 1 = .ok (.getfield 13, 3) := by decide +kernel
theorem dX10_of_4 : decode cX10_of 4 = .ok (.bipush 63, 2) := by decide +kernel
theorem dX10_of_6 : decode cX10_of 6 = .ok (.bipush 6, 2) := by decide +kernel
theorem dX10_of_8 : decode cX10_of 8 = .ok (.iload_n 1, 1) := by decide +kernel
theorem dX10_of_9 : decode cX10_of 9 = .ok (.imul, 1) := by decide +kernel
theorem dX10_of_10 : decode cX10_of 10 = .ok (.iadd, 1) := by decide +kernel
theorem dX10_of_11 : decode cX10_of 11 = .ok (.iload_n 2, 1) := by decide +kernel
theorem dX10_of_12 : decode cX10_of 12 = .ok (.iadd, 1) := by decide +kernel
theorem dX10_of_13 : decode cX10_of 13 = .ok (.iaload, 1) := by decide +kernel
theorem dX10_of_14 : decode cX10_of 14 = .ok (.ireturn, 1) := by decide +kernel
theorem dX10_part_0 : decode cX10_part 0 = .ok (.aload_n 0, 1) := by decide +kernel
theorem dX10_part_1 : decode cX10_part 1 = .ok (.getfield 13, 3) := by decide +kernel
theorem dX10_part_4 : decode cX10_part 4 = .ok (.bipush 99, 2) := by decide +kernel
theorem dX10_part_6 : decode cX10_part 6 = .ok (.bipush 7, 2) := by decide +kernel
theorem dX10_part_8 : decode cX10_part 8 = .ok (.iload_n 1, 1) := by decide +kernel
theorem dX10_part_9 : decode cX10_part 9 = .ok (.imul, 1) := by decide +kernel
theorem dX10_part_10 : decode cX10_part 10 = .ok (.iadd, 1) := by decide +kernel
theorem dX10_part_11 : decode cX10_part 11 = .ok (.iload_n 2, 1) := by decide +kernel
theorem dX10_part_12 : decode cX10_part 12 = .ok (.iadd, 1) := by decide +kernel
theorem dX10_part_13 : decode cX10_part 13 = .ok (.iaload, 1) := by decide +kernel
theorem dX10_part_14 : decode cX10_part 14 = .ok (.ireturn, 1) := by decide +kernel
theorem dX10_puts_0 : decode cX10_puts 0 = .ok (.aload_n 0, 1) := by decide +kernel
theorem dX10_puts_1 : decode cX10_puts 1 = .ok (.getfield 13, 3) := by decide +kernel
theorem dX10_puts_4 : decode cX10_puts 4 = .ok (.bipush 99, 2) := by decide +kernel
theorem dX10_puts_6 : decode cX10_puts 6 = .ok (.bipush 7, 2) := by decide +kernel
theorem dX10_puts_8 : decode cX10_puts 8 = .ok (.iload_n 1, 1) := by decide +kernel
theorem dX10_puts_9 : decode cX10_puts 9 = .ok (.imul, 1) := by decide +kernel
theorem dX10_puts_10 : decode cX10_puts 10 = .ok (.iadd, 1) := by decide +kernel
theorem dX10_puts_11 : decode cX10_puts 11 = .ok (.iload_n 2, 1) := by decide +kernel
theorem dX10_puts_12 : decode cX10_puts 12 = .ok (.iadd, 1) := by decide +kernel
theorem dX10_puts_13 : decode cX10_puts 13 = .ok (.iload_n 3, 1) := by decide +kernel
theorem dX10_puts_14 : decode cX10_puts 14 = .ok (.iastore, 1) := by decide +kernel
theorem dX10_puts_15 : decode cX10_puts 15 = .ok (.return_, 1) := by decide +kernel
theorem dX10_feed_0 : decode cX10_feed 0 = .ok (.iload_n 1, 1) := by decide +kernel
theorem dX10_feed_1 : decode cX10_feed 1 = .ok (.iconst 0, 1) := by decide +kernel
theorem dX10_feed_2 : decode cX10_feed 2 = .ok (.sipush 255, 3) := by decide +kernel
theorem dX10_feed_5 : decode cX10_feed 5 = .ok (.invokestatic 54, 3) := by decide +kernel
theorem dX10_feed_8 : decode cX10_feed 8 = .ok (.istore_n 2, 1) := by decide +kernel
theorem dX10_feed_9 : decode cX10_feed 9 = .ok (.iload_n 2, 1) := by decide +kernel
theorem dX10_feed_10 : decode cX10_feed 10 = .ok (.ifCond .ne 15, 3) := by decide +kernel
theorem dX10_feed_13 : decode cX10_feed 13 = .ok (.aload_n 0, 1) := by decide +kernel
theorem dX10_feed_14 : decode cX10_feed 14 = .ok (.getfield 58, 3) := by decide +kernel
theorem dX10_feed_17 : decode cX10_feed 17 = .ok (.bipush 64, 2) := by decide +kernel
theorem dX10_feed_19 : decode cX10_feed 19 = .ok (.if_icmp .ne 6, 3) := by decide +kernel
theorem dX10_feed_22 : decode cX10_feed 22 = .ok (.bipush (-6), 2) := by decide +kernel
theorem dX10_feed_24 : decode cX10_feed 24 = .ok (.istore_n 2, 1) := by decide +kernel
theorem dX10_feed_25 : decode cX10_feed 25 = .ok (.iload_n 2, 1) := by decide +kernel
theorem dX10_feed_26 : decode cX10_feed 26 = .ok (.ifCond .eq 9, 3) := by decide +kernel
theorem dX10_feed_29 : decode cX10_feed 29 = .ok (.aload_n 0, 1) := by decide +kernel
theorem dX10_feed_30 : decode cX10_feed 30 = .ok (.iload_n 2, 1) := by decide +kernel
theorem dX10_feed_31 : decode cX10_feed 31 = .ok (.invokevirtual 62, 3) := by decide +kernel
theorem dX10_feed_34 : decode cX10_feed 34 = .ok (.ireturn, 1) := by decide +kernel
theorem dX10_feed_35 : decode cX10_feed 35 = .ok (.aload_n 0, 1) := by decide +kernel
theorem dX10_feed_36 : decode cX10_feed 36 = .ok (.getfield 22, 3) := by decide +kernel
theorem dX10_feed_39 : decode cX10_feed 39 = .ok (.aload_n 0, 1) := by decide +kernel
theorem dX10_feed_40 : decode cX10_feed 40 = .ok (.getfield 58, 3) := by decide +kernel
theorem dX10_feed_43 : decode cX10_feed 43 = .ok (.iload_n 1, 1) := by decide +kernel
theorem dX10_feed_44 : decode cX10_feed 44 = .ok (.iastore, 1) := by decide +kernel
theorem dX10_feed_45 : decode cX10_feed 45 = .ok (.aload_n 0, 1) := by decide +kernel
theorem dX10_feed_46 : decode cX10_feed 46 = .ok (.dup, 1) := by decide +kernel
theorem dX10_feed_47 : decode cX10_feed 47 = .ok (.getfield 58, 3) := by decide +kernel
theorem dX10_feed_50 : decode cX10_feed 50 = .ok (.iconst 1, 1) := by decide +kernel
theorem dX10_feed_51 : decode cX10_feed 51 = .ok (.iadd, 1) := by decide +kernel
theorem dX10_feed_52 : decode cX10_feed 52 = .ok (.putfield 58, 3) := by decide +kernel
theorem dX10_feed_55 : decode cX10_feed 55 = .ok (.aload_n 0, 1) := by decide +kernel
theorem dX10_feed_56 : decode cX10_feed 56 = .ok (.getfield 58, 3) := by decide +kernel
theorem dX10_feed_59 : decode cX10_feed 59 = .ok (.ireturn, 1) := by decide +kernel
theorem dX10_sign_0 : decode cX10_sign 0 = .ok (.aload_n 0, 1) := by decide +kernel
theorem dX10_sign_1 : decode cX10_sign 1 = .ok (.getfield 66, 3) := by decide +kernel
theorem dX10_sign_4 : decode cX10_sign 4 = .ok (.aload_n 0, 1) := by decide +kernel
theorem dX10_sign_5 : decode cX10_sign 5 = .ok (.getfield 58, 3) := by decide +kernel
theorem dX10_sign_8 : decode cX10_sign 8 = .ok (.if_icmp .lt 7, 3) := by decide +kernel
theorem dX10_sign_11 : decode cX10_sign 11 = .ok (.iconst (-1), 1) := by decide +kernel
theorem dX10_sign_12 : decode cX10_sign 12 = .ok (.goto 12, 3) := by decide +kernel
theorem dX10_sign_15 : decode cX10_sign 15 = .ok (.aload_n 0, 1) := by decide +kernel
theorem dX10_sign_16 : decode cX10_sign 16 = .ok (.getfield 22, 3) := by decide +kernel
theorem dX10_sign_19 : decode cX10_sign 19 = .ok (.aload_n 0, 1) := by decide +kernel
theorem dX10_sign_20 : decode cX10_sign 20 = .ok (.getfield 66, 3) := by decide +kernel
theorem dX10_sign_23 : decode cX10_sign 23 = .ok (.iaload, 1) := by decide +kernel
theorem dX10_sign_24 : decode cX10_sign 24 = .ok (.ireturn, 1) := by decide +kernel
theorem dX10_takes_0 : decode cX10_takes 0 = .ok (.aload_n 0, 1) := by decide +kernel
theorem dX10_takes_1 : decode cX10_takes 1 = .ok (.invokevirtual 69, 3) := by decide +kernel
theorem dX10_takes_4 : decode cX10_takes 4 = .ok (.iload_n 1, 1) := by decide +kernel
theorem dX10_takes_5 : decode cX10_takes 5 = .ok (.if_icmp .eq 5, 3) := by decide +kernel
theorem dX10_takes_8 : decode cX10_takes 8 = .ok (.iconst 0, 1) := by decide +kernel
theorem dX10_takes_9 : decode cX10_takes 9 = .ok (.ireturn, 1) := by decide +kernel
theorem dX10_takes_10 : decode cX10_takes 10 = .ok (.aload_n 0, 1) := by decide +kernel
theorem dX10_takes_11 : decode cX10_takes 11 = .ok (.dup, 1) := by decide +kernel
theorem dX10_takes_12 : decode cX10_takes 12 = .ok (.getfield 66, 3) := by decide +kernel
theorem dX10_takes_15 : decode cX10_takes 15 = .ok (.iconst 1, 1) := by decide +kernel
theorem dX10_takes_16 : decode cX10_takes 16 = .ok (.iadd, 1) := by decide +kernel
theorem dX10_takes_17 : decode cX10_takes 17 = .ok (.putfield 66, 3) := by decide +kernel
theorem dX10_takes_20 : decode cX10_takes 20 = .ok (.iconst 1, 1) := by decide +kernel
theorem dX10_takes_21 : decode cX10_takes 21 = .ok (.ireturn, 1) := by decide +kernel
theorem dX10_readsNumber_0 : decode cX10_readsNumber 0 = .ok (.aload_n 0, 1) := by decide +kernel
theorem dX10_readsNumber_1 : decode cX10_readsNumber 1 = .ok (.getfield 25, 3) := by decide +kernel
theorem dX10_readsNumber_4 : decode cX10_readsNumber 4 = .ok (.iload_n 1, 1) := by decide +kernel
theorem dX10_readsNumber_5 : decode cX10_readsNumber 5 = .ok (.iconst 0, 1) := by decide +kernel
theorem dX10_readsNumber_6 : decode cX10_readsNumber 6 = .ok (.iastore, 1) := by decide +kernel
theorem dX10_readsNumber_7 : decode cX10_readsNumber 7 = .ok (.iconst 0, 1) := by decide +kernel
theorem dX10_readsNumber_8 : decode cX10_readsNumber 8 = .ok (.istore_n 3, 1) := by decide +kernel
theorem dX10_readsNumber_9 : decode cX10_readsNumber 9 = .ok (.iload_n 3, 1) := by decide +kernel
theorem dX10_readsNumber_10 : decode cX10_readsNumber 10 = .ok (.iload_n 2, 1) := by decide +kernel
theorem dX10_readsNumber_11 : decode cX10_readsNumber 11 = .ok (.if_icmp .ge 60, 3) := by decide +kernel
theorem dX10_readsNumber_14 : decode cX10_readsNumber 14 = .ok (.aload_n 0, 1) := by decide +kernel
theorem dX10_readsNumber_15 : decode cX10_readsNumber 15 = .ok (.invokevirtual 69, 3) := by decide +kernel
theorem dX10_readsNumber_18 : decode cX10_readsNumber 18 = .ok (.bipush 48, 2) := by decide +kernel
theorem dX10_readsNumber_20 : decode cX10_readsNumber 20 = .ok (.if_icmp .lt 51, 3) := by decide +kernel
theorem dX10_readsNumber_23 : decode cX10_readsNumber 23 = .ok (.aload_n 0, 1) := by decide +kernel
theorem dX10_readsNumber_24 : decode cX10_readsNumber 24 = .ok (.invokevirtual 69, 3) := by decide +kernel
theorem dX10_readsNumber_27 : decode cX10_readsNumber 27 = .ok (.bipush 57, 2) := by decide +kernel
theorem dX10_readsNumber_29 : decode cX10_readsNumber 29 = .ok (.if_icmp .gt 42, 3) := by decide +kernel
theorem dX10_readsNumber_32 : decode cX10_readsNumber 32 = .ok (.aload_n 0, 1) := by decide +kernel
theorem dX10_readsNumber_33 : decode cX10_readsNumber 33 = .ok (.getfield 25, 3) := by decide +kernel
theorem dX10_readsNumber_36 : decode cX10_readsNumber 36 = .ok (.iload_n 1, 1) := by decide +kernel
theorem dX10_readsNumber_37 : decode cX10_readsNumber 37 = .ok (.bipush 10, 2) := by decide +kernel
theorem dX10_readsNumber_39 : decode cX10_readsNumber 39 = .ok (.aload_n 0, 1) := by decide +kernel
theorem dX10_readsNumber_40 : decode cX10_readsNumber 40 = .ok (.getfield 25, 3) := by decide +kernel
theorem dX10_readsNumber_43 : decode cX10_readsNumber 43 = .ok (.iload_n 1, 1) := by decide +kernel
theorem dX10_readsNumber_44 : decode cX10_readsNumber 44 = .ok (.iaload, 1) := by decide +kernel
theorem dX10_readsNumber_45 : decode cX10_readsNumber 45 = .ok (.imul, 1) := by decide +kernel
theorem dX10_readsNumber_46 : decode cX10_readsNumber 46 = .ok (.aload_n 0, 1) := by decide +kernel
theorem dX10_readsNumber_47 : decode cX10_readsNumber 47 = .ok (.invokevirtual 69, 3) := by decide +kernel
theorem dX10_readsNumber_50 : decode cX10_readsNumber 50 = .ok (.iadd, 1) := by decide +kernel
theorem dX10_readsNumber_51 : decode cX10_readsNumber 51 = .ok (.bipush 48, 2) := by decide +kernel
theorem dX10_readsNumber_53 : decode cX10_readsNumber 53 = .ok (.isub, 1) := by decide +kernel
theorem dX10_readsNumber_54 : decode cX10_readsNumber 54 = .ok (.iastore, 1) := by decide +kernel
theorem dX10_readsNumber_55 : decode cX10_readsNumber 55 = .ok (.aload_n 0, 1) := by decide +kernel
theorem dX10_readsNumber_56 : decode cX10_readsNumber 56 = .ok (.dup, 1) := by decide +kernel
theorem dX10_readsNumber_57 : decode cX10_readsNumber 57 = .ok (.getfield 66, 3) := by decide +kernel
theorem dX10_readsNumber_60 : decode cX10_readsNumber 60 = .ok (.iconst 1, 1) := by decide +kernel
theorem dX10_readsNumber_61 : decode cX10_readsNumber 61 = .ok (.iadd, 1) := by decide +kernel
theorem dX10_readsNumber_62 : decode cX10_readsNumber 62 = .ok (.putfield 66, 3) := by decide +kernel
theorem dX10_readsNumber_65 : decode cX10_readsNumber 65 = .ok (.iinc 3 1, 3) := by decide +kernel
theorem dX10_readsNumber_68 : decode cX10_readsNumber 68 = .ok (.goto (-59), 3) := by decide +kernel
theorem dX10_readsNumber_71 : decode cX10_readsNumber 71 = .ok (.iload_n 3, 1) := by decide +kernel
theorem dX10_readsNumber_72 : decode cX10_readsNumber 72 = .ok (.ifCond .le 7, 3) := by decide +kernel
theorem dX10_readsNumber_75 : decode cX10_readsNumber 75 = .ok (.iconst 1, 1) := by decide +kernel
theorem dX10_readsNumber_76 : decode cX10_readsNumber 76 = .ok (.goto 4, 3) := by decide +kernel
theorem dX10_readsNumber_79 : decode cX10_readsNumber 79 = .ok (.iconst 0, 1) := by decide +kernel
theorem dX10_readsNumber_80 : decode cX10_readsNumber 80 = .ok (.ireturn, 1) := by decide +kernel
theorem dX10_kindOf_0 : decode cX10_kindOf 0 = .ok (.iload_n 0, 1) := by decide +kernel
theorem dX10_kindOf_1 : decode cX10_kindOf 1 = .ok (.tableswitch 91 104 119 #[89, 91, 91, 91, 83, 91, 91, 91, 79, 91, 91, 87, 85, 91, 91, 81], 79) := by decide +kernel
theorem dX10_kindOf_80 : decode cX10_kindOf 80 = .ok (.iconst 0, 1) := by decide +kernel
theorem dX10_kindOf_81 : decode cX10_kindOf 81 = .ok (.ireturn, 1) := by decide +kernel
theorem dX10_kindOf_82 : decode cX10_kindOf 82 = .ok (.iconst 1, 1) := by decide +kernel
theorem dX10_kindOf_83 : decode cX10_kindOf 83 = .ok (.ireturn, 1) := by decide +kernel
theorem dX10_kindOf_84 : decode cX10_kindOf 84 = .ok (.iconst 2, 1) := by decide +kernel
theorem dX10_kindOf_85 : decode cX10_kindOf 85 = .ok (.ireturn, 1) := by decide +kernel
theorem dX10_kindOf_86 : decode cX10_kindOf 86 = .ok (.iconst 3, 1) := by decide +kernel
theorem dX10_kindOf_87 : decode cX10_kindOf 87 = .ok (.ireturn, 1) := by decide +kernel
theorem dX10_kindOf_88 : decode cX10_kindOf 88 = .ok (.iconst 4, 1) := by decide +kernel
theorem dX10_kindOf_89 : decode cX10_kindOf 89 = .ok (.ireturn, 1) := by decide +kernel
theorem dX10_kindOf_90 : decode cX10_kindOf 90 = .ok (.iconst 5, 1) := by decide +kernel
theorem dX10_kindOf_91 : decode cX10_kindOf 91 = .ok (.ireturn, 1) := by decide +kernel
theorem dX10_kindOf_92 : decode cX10_kindOf 92 = .ok (.bipush (-9), 2) := by decide +kernel
theorem dX10_kindOf_94 : decode cX10_kindOf 94 = .ok (.ireturn, 1) := by decide +kernel
theorem dX10_readsStatement_0 : decode cX10_readsStatement 0 = .ok (.aload_n 0, 1) := by decide +kernel
theorem dX10_readsStatement_1 : decode cX10_readsStatement 1 = .ok (.invokevirtual 69, 3) := by decide +kernel
theorem dX10_readsStatement_4 : decode cX10_readsStatement 4 = .ok (.istore_n 1, 1) := by decide +kernel
theorem dX10_readsStatement_5 : decode cX10_readsStatement 5 = .ok (.iload_n 1, 1) := by decide +kernel
theorem dX10_readsStatement_6 : decode cX10_readsStatement 6 = .ok (.bipush 110, 2) := by decide +kernel
theorem dX10_readsStatement_8 : decode cX10_readsStatement 8 = .ok (.if_icmp .eq 23, 3) := by decide +kernel
theorem dX10_readsStatement_11 : decode cX10_readsStatement 11 = .ok (.iload_n 1, 1) := by decide +kernel
theorem dX10_readsStatement_12 : decode cX10_readsStatement 12 = .ok (.bipush 119, 2) := by decide +kernel
theorem dX10_readsStatement_14 : decode cX10_readsStatement 14 = .ok (.if_icmp .eq 17, 3) := by decide +kernel
theorem dX10_readsStatement_17 : decode cX10_readsStatement 17 = .ok (.iload_n 1, 1) := by decide +kernel
theorem dX10_readsStatement_18 : decode cX10_readsStatement 18 = .ok (.bipush 112, 2) := by decide +kernel
theorem dX10_readsStatement_20 : decode cX10_readsStatement 20 = .ok (.if_icmp .eq 11, 3) := by decide +kernel
theorem dX10_readsStatement_23 : decode cX10_readsStatement 23 = .ok (.iload_n 1, 1) := by decide +kernel
theorem dX10_readsStatement_24 : decode cX10_readsStatement 24 = .ok (.bipush 107, 2) := by decide +kernel
theorem dX10_readsStatement_26 : decode cX10_readsStatement 26 = .ok (.if_icmp .eq 5, 3) := by decide +kernel
theorem dX10_readsStatement_29 : decode cX10_readsStatement 29 = .ok (.iconst 0, 1) := by decide +kernel
theorem dX10_readsStatement_30 : decode cX10_readsStatement 30 = .ok (.ireturn, 1) := by decide +kernel
theorem dX10_readsStatement_31 : decode cX10_readsStatement 31 = .ok (.aload_n 0, 1) := by decide +kernel
theorem dX10_readsStatement_32 : decode cX10_readsStatement 32 = .ok (.dup, 1) := by decide +kernel
theorem dX10_readsStatement_33 : decode cX10_readsStatement 33 = .ok (.getfield 66, 3) := by decide +kernel
theorem dX10_readsStatement_36 : decode cX10_readsStatement 36 = .ok (.iconst 1, 1) := by decide +kernel
theorem dX10_readsStatement_37 : decode cX10_readsStatement 37 = .ok (.iadd, 1) := by decide +kernel
theorem dX10_readsStatement_38 : decode cX10_readsStatement 38 = .ok (.putfield 66, 3) := by decide +kernel
theorem dX10_readsStatement_41 : decode cX10_readsStatement 41 = .ok (.iconst 0, 1) := by decide +kernel
theorem dX10_readsStatement_42 : decode cX10_readsStatement 42 = .ok (.istore_n 2, 1) := by decide +kernel
theorem dX10_readsStatement_43 : decode cX10_readsStatement 43 = .ok (.iload_n 1, 1) := by decide +kernel
theorem dX10_readsStatement_44 : decode cX10_readsStatement 44 = .ok (.lookupswitch 163 #[(110, 36), (112, 91), (119, 46)], 36) := by decide +kernel
theorem dX10_readsStatement_80 : decode cX10_readsStatement 80 = .ok (.aload_n 0, 1) := by decide +kernel
theorem dX10_readsStatement_81 : decode cX10_readsStatement 81 = .ok (.iconst 0, 1) := by decide +kernel
theorem dX10_readsStatement_82 : decode cX10_readsStatement 82 = .ok (.iconst 1, 1) := by decide +kernel
theorem dX10_readsStatement_83 : decode cX10_readsStatement 83 = .ok (.invokevirtual 73, 3) := by decide +kernel
theorem dX10_readsStatement_86 : decode cX10_readsStatement 86 = .ok (.istore_n 2, 1) := by decide +kernel
theorem dX10_readsStatement_87 : decode cX10_readsStatement 87 = .ok (.goto 232, 3) := by decide +kernel
theorem dX10_readsStatement_90 : decode cX10_readsStatement 90 = .ok (.aload_n 0, 1) := by decide +kernel
theorem dX10_readsStatement_91 : decode cX10_readsStatement 91 = .ok (.iconst 0, 1) := by decide +kernel
theorem dX10_readsStatement_92 : decode cX10_readsStatement 92 = .ok (.iconst 1, 1) := by decide +kernel
theorem dX10_readsStatement_93 : decode cX10_readsStatement 93 = .ok (.invokevirtual 73, 3) := by decide +kernel
theorem dX10_readsStatement_96 : decode cX10_readsStatement 96 = .ok (.ifCond .eq 34, 3) := by decide +kernel
theorem dX10_readsStatement_99 : decode cX10_readsStatement 99 = .ok (.aload_n 0, 1) := by decide +kernel
theorem dX10_readsStatement_100 : decode cX10_readsStatement 100 = .ok (.iconst 1, 1) := by decide +kernel
theorem dX10_readsStatement_101 : decode cX10_readsStatement 101 = .ok (.iconst 1, 1) := by decide +kernel
theorem dX10_readsStatement_102 : decode cX10_readsStatement 102 = .ok (.invokevirtual 73, 3) := by decide +kernel
theorem dX10_readsStatement_105 : decode cX10_readsStatement 105 = .ok (.ifCond .eq 25, 3) := by decide +kernel
theorem dX10_readsStatement_108 : decode cX10_readsStatement 108 = .ok (.aload_n 0, 1) := by decide +kernel
theorem dX10_readsStatement_109 : decode cX10_readsStatement 109 = .ok (.bipush 44, 2) := by decide +kernel
theorem dX10_readsStatement_111 : decode cX10_readsStatement 111 = .ok (.invokevirtual 76, 3) := by decide +kernel
theorem dX10_readsStatement_114 : decode cX10_readsStatement 114 = .ok (.ifCond .eq 16, 3) := by decide +kernel
theorem dX10_readsStatement_117 : decode cX10_readsStatement 117 = .ok (.aload_n 0, 1) := by decide +kernel
theorem dX10_readsStatement_118 : decode cX10_readsStatement 118 = .ok (.iconst 2, 1) := by decide +kernel
theorem dX10_readsStatement_119 : decode cX10_readsStatement 119 = .ok (.iconst 2, 1) := by decide +kernel
theorem dX10_readsStatement_120 : decode cX10_readsStatement 120 = .ok (.invokevirtual 73, 3) := by decide +kernel
theorem dX10_readsStatement_123 : decode cX10_readsStatement 123 = .ok (.ifCond .eq 7, 3) := by decide +kernel
theorem dX10_readsStatement_126 : decode cX10_readsStatement 126 = .ok (.iconst 1, 1) := by decide +kernel
theorem dX10_readsStatement_127 : decode cX10_readsStatement 127 = .ok (.goto 4, 3) := by decide +kernel
theorem dX10_readsStatement_130 : decode cX10_readsStatement 130 = .ok (.iconst 0, 1) := by decide +kernel
theorem dX10_readsStatement_131 : decode cX10_readsStatement 131 = .ok (.istore_n 2, 1) := by decide +kernel
theorem dX10_readsStatement_132 : decode cX10_readsStatement 132 = .ok (.goto 187, 3) := by decide +kernel
theorem dX10_readsStatement_135 : decode cX10_readsStatement 135 = .ok (.aload_n 0, 1) := by decide +kernel
theorem dX10_readsStatement_136 : decode cX10_readsStatement 136 = .ok (.iconst 0, 1) := by decide +kernel
theorem dX10_readsStatement_137 : decode cX10_readsStatement 137 = .ok (.iconst 2, 1) := by decide +kernel
theorem dX10_readsStatement_138 : decode cX10_readsStatement 138 = .ok (.invokevirtual 73, 3) := by decide +kernel
theorem dX10_readsStatement_141 : decode cX10_readsStatement 141 = .ok (.ifCond .eq 61, 3) := by decide +kernel
theorem dX10_readsStatement_144 : decode cX10_readsStatement 144 = .ok (.aload_n 0, 1) := by decide +kernel
theorem dX10_readsStatement_145 : decode cX10_readsStatement 145 = .ok (.bipush 44, 2) := by decide +kernel
theorem dX10_readsStatement_147 : decode cX10_readsStatement 147 = .ok (.invokevirtual 76, 3) := by decide +kernel
theorem dX10_readsStatement_150 : decode cX10_readsStatement 150 = .ok (.ifCond .eq 52, 3) := by decide +kernel
theorem dX10_readsStatement_153 : decode cX10_readsStatement 153 = .ok (.aload_n 0, 1) := by decide +kernel
theorem dX10_readsStatement_154 : decode cX10_readsStatement 154 = .ok (.iconst 1, 1) := by decide +kernel
theorem dX10_readsStatement_155 : decode cX10_readsStatement 155 = .ok (.iconst 2, 1) := by decide +kernel
theorem dX10_readsStatement_156 : decode cX10_readsStatement 156 = .ok (.invokevirtual 73, 3) := by decide +kernel
theorem dX10_readsStatement_159 : decode cX10_readsStatement 159 = .ok (.ifCond .eq 43, 3) := by decide +kernel
theorem dX10_readsStatement_162 : decode cX10_readsStatement 162 = .ok (.aload_n 0, 1) := by decide +kernel
theorem dX10_readsStatement_163 : decode cX10_readsStatement 163 = .ok (.bipush 44, 2) := by decide +kernel
theorem dX10_readsStatement_165 : decode cX10_readsStatement 165 = .ok (.invokevirtual 76, 3) := by decide +kernel
theorem dX10_readsStatement_168 : decode cX10_readsStatement 168 = .ok (.ifCond .eq 34, 3) := by decide +kernel
theorem dX10_readsStatement_171 : decode cX10_readsStatement 171 = .ok (.aload_n 0, 1) := by decide +kernel
theorem dX10_readsStatement_172 : decode cX10_readsStatement 172 = .ok (.iconst 2, 1) := by decide +kernel
theorem dX10_readsStatement_173 : decode cX10_readsStatement 173 = .ok (.iconst 2, 1) := by decide +kernel
theorem dX10_readsStatement_174 : decode cX10_readsStatement 174 = .ok (.invokevirtual 73, 3) := by decide +kernel
theorem dX10_readsStatement_177 : decode cX10_readsStatement 177 = .ok (.ifCond .eq 25, 3) := by decide +kernel
theorem dX10_readsStatement_180 : decode cX10_readsStatement 180 = .ok (.aload_n 0, 1) := by decide +kernel
theorem dX10_readsStatement_181 : decode cX10_readsStatement 181 = .ok (.bipush 44, 2) := by decide +kernel
theorem dX10_readsStatement_183 : decode cX10_readsStatement 183 = .ok (.invokevirtual 76, 3) := by decide +kernel
theorem dX10_readsStatement_186 : decode cX10_readsStatement 186 = .ok (.ifCond .eq 16, 3) := by decide +kernel
theorem dX10_readsStatement_189 : decode cX10_readsStatement 189 = .ok (.aload_n 0, 1) := by decide +kernel
theorem dX10_readsStatement_190 : decode cX10_readsStatement 190 = .ok (.iconst 3, 1) := by decide +kernel
theorem dX10_readsStatement_191 : decode cX10_readsStatement 191 = .ok (.iconst 2, 1) := by decide +kernel
theorem dX10_readsStatement_192 : decode cX10_readsStatement 192 = .ok (.invokevirtual 73, 3) := by decide +kernel
theorem dX10_readsStatement_195 : decode cX10_readsStatement 195 = .ok (.ifCond .eq 7, 3) := by decide +kernel
theorem dX10_readsStatement_198 : decode cX10_readsStatement 198 = .ok (.iconst 1, 1) := by decide +kernel
theorem dX10_readsStatement_199 : decode cX10_readsStatement 199 = .ok (.goto 4, 3) := by decide +kernel
theorem dX10_readsStatement_202 : decode cX10_readsStatement 202 = .ok (.iconst 0, 1) := by decide +kernel
theorem dX10_readsStatement_203 : decode cX10_readsStatement 203 = .ok (.istore_n 2, 1) := by decide +kernel
theorem dX10_readsStatement_204 : decode cX10_readsStatement 204 = .ok (.goto 115, 3) := by decide +kernel
theorem dX10_readsStatement_207 : decode cX10_readsStatement 207 = .ok (.aload_n 0, 1) := by decide +kernel
theorem dX10_readsStatement_208 : decode cX10_readsStatement 208 = .ok (.getfield 25, 3) := by decide +kernel
theorem dX10_readsStatement_211 : decode cX10_readsStatement 211 = .ok (.iconst 0, 1) := by decide +kernel
theorem dX10_readsStatement_212 : decode cX10_readsStatement 212 = .ok (.aload_n 0, 1) := by decide +kernel
theorem dX10_readsStatement_213 : decode cX10_readsStatement 213 = .ok (.invokevirtual 69, 3) := by decide +kernel
theorem dX10_readsStatement_216 : decode cX10_readsStatement 216 = .ok (.invokestatic 80, 3) := by decide +kernel
theorem dX10_readsStatement_219 : decode cX10_readsStatement 219 = .ok (.iastore, 1) := by decide +kernel
theorem dX10_readsStatement_220 : decode cX10_readsStatement 220 = .ok (.aload_n 0, 1) := by decide +kernel
theorem dX10_readsStatement_221 : decode cX10_readsStatement 221 = .ok (.getfield 25, 3) := by decide +kernel
theorem dX10_readsStatement_224 : decode cX10_readsStatement 224 = .ok (.iconst 0, 1) := by decide +kernel
theorem dX10_readsStatement_225 : decode cX10_readsStatement 225 = .ok (.iaload, 1) := by decide +kernel
theorem dX10_readsStatement_226 : decode cX10_readsStatement 226 = .ok (.ifCond .ge 5, 3) := by decide +kernel
theorem dX10_readsStatement_229 : decode cX10_readsStatement 229 = .ok (.iconst 0, 1) := by decide +kernel
theorem dX10_readsStatement_230 : decode cX10_readsStatement 230 = .ok (.ireturn, 1) := by decide +kernel
theorem dX10_readsStatement_231 : decode cX10_readsStatement 231 = .ok (.aload_n 0, 1) := by decide +kernel
theorem dX10_readsStatement_232 : decode cX10_readsStatement 232 = .ok (.dup, 1) := by decide +kernel
theorem dX10_readsStatement_233 : decode cX10_readsStatement 233 = .ok (.getfield 66, 3) := by decide +kernel
theorem dX10_readsStatement_236 : decode cX10_readsStatement 236 = .ok (.iconst 1, 1) := by decide +kernel
theorem dX10_readsStatement_237 : decode cX10_readsStatement 237 = .ok (.iadd, 1) := by decide +kernel
theorem dX10_readsStatement_238 : decode cX10_readsStatement 238 = .ok (.putfield 66, 3) := by decide +kernel
theorem dX10_readsStatement_241 : decode cX10_readsStatement 241 = .ok (.aload_n 0, 1) := by decide +kernel
theorem dX10_readsStatement_242 : decode cX10_readsStatement 242 = .ok (.iconst 1, 1) := by decide +kernel
theorem dX10_readsStatement_243 : decode cX10_readsStatement 243 = .ok (.iconst 1, 1) := by decide +kernel
theorem dX10_readsStatement_244 : decode cX10_readsStatement 244 = .ok (.invokevirtual 73, 3) := by decide +kernel
theorem dX10_readsStatement_247 : decode cX10_readsStatement 247 = .ok (.ifCond .eq 70, 3) := by decide +kernel
theorem dX10_readsStatement_250 : decode cX10_readsStatement 250 = .ok (.aload_n 0, 1) := by decide +kernel
theorem dX10_readsStatement_251 : decode cX10_readsStatement 251 = .ok (.iconst 2, 1) := by decide +kernel
theorem dX10_readsStatement_252 : decode cX10_readsStatement 252 = .ok (.iconst 3, 1) := by decide +kernel
theorem dX10_readsStatement_253 : decode cX10_readsStatement 253 = .ok (.invokevirtual 73, 3) := by decide +kernel
theorem dX10_readsStatement_256 : decode cX10_readsStatement 256 = .ok (.ifCond .eq 61, 3) := by decide +kernel
theorem dX10_readsStatement_259 : decode cX10_readsStatement 259 = .ok (.aload_n 0, 1) := by decide +kernel
theorem dX10_readsStatement_260 : decode cX10_readsStatement 260 = .ok (.bipush 44, 2) := by decide +kernel
theorem dX10_readsStatement_262 : decode cX10_readsStatement 262 = .ok (.invokevirtual 76, 3) := by decide +kernel
theorem dX10_readsStatement_265 : decode cX10_readsStatement 265 = .ok (.ifCond .eq 52, 3) := by decide +kernel
theorem dX10_readsStatement_268 : decode cX10_readsStatement 268 = .ok (.aload_n 0, 1) := by decide +kernel
theorem dX10_readsStatement_269 : decode cX10_readsStatement 269 = .ok (.iconst 3, 1) := by decide +kernel
theorem dX10_readsStatement_270 : decode cX10_readsStatement 270 = .ok (.iconst 3, 1) := by decide +kernel
theorem dX10_readsStatement_271 : decode cX10_readsStatement 271 = .ok (.invokevirtual 73, 3) := by decide +kernel
theorem dX10_readsStatement_274 : decode cX10_readsStatement 274 = .ok (.ifCond .eq 43, 3) := by decide +kernel
theorem dX10_readsStatement_277 : decode cX10_readsStatement 277 = .ok (.aload_n 0, 1) := by decide +kernel
theorem dX10_readsStatement_278 : decode cX10_readsStatement 278 = .ok (.bipush 44, 2) := by decide +kernel
theorem dX10_readsStatement_280 : decode cX10_readsStatement 280 = .ok (.invokevirtual 76, 3) := by decide +kernel
theorem dX10_readsStatement_283 : decode cX10_readsStatement 283 = .ok (.ifCond .eq 34, 3) := by decide +kernel
theorem dX10_readsStatement_286 : decode cX10_readsStatement 286 = .ok (.aload_n 0, 1) := by decide +kernel
theorem dX10_readsStatement_287 : decode cX10_readsStatement 287 = .ok (.iconst 4, 1) := by decide +kernel
theorem dX10_readsStatement_288 : decode cX10_readsStatement 288 = .ok (.iconst 3, 1) := by decide +kernel
theorem dX10_readsStatement_289 : decode cX10_readsStatement 289 = .ok (.invokevirtual 73, 3) := by decide +kernel
theorem dX10_readsStatement_292 : decode cX10_readsStatement 292 = .ok (.ifCond .eq 25, 3) := by decide +kernel
theorem dX10_readsStatement_295 : decode cX10_readsStatement 295 = .ok (.aload_n 0, 1) := by decide +kernel
theorem dX10_readsStatement_296 : decode cX10_readsStatement 296 = .ok (.bipush 44, 2) := by decide +kernel
theorem dX10_readsStatement_298 : decode cX10_readsStatement 298 = .ok (.invokevirtual 76, 3) := by decide +kernel
theorem dX10_readsStatement_301 : decode cX10_readsStatement 301 = .ok (.ifCond .eq 16, 3) := by decide +kernel
theorem dX10_readsStatement_304 : decode cX10_readsStatement 304 = .ok (.aload_n 0, 1) := by decide +kernel
theorem dX10_readsStatement_305 : decode cX10_readsStatement 305 = .ok (.iconst 5, 1) := by decide +kernel
theorem dX10_readsStatement_306 : decode cX10_readsStatement 306 = .ok (.iconst 2, 1) := by decide +kernel
theorem dX10_readsStatement_307 : decode cX10_readsStatement 307 = .ok (.invokevirtual 73, 3) := by decide +kernel
theorem dX10_readsStatement_310 : decode cX10_readsStatement 310 = .ok (.ifCond .eq 7, 3) := by decide +kernel
theorem dX10_readsStatement_313 : decode cX10_readsStatement 313 = .ok (.iconst 1, 1) := by decide +kernel
theorem dX10_readsStatement_314 : decode cX10_readsStatement 314 = .ok (.goto 4, 3) := by decide +kernel
theorem dX10_readsStatement_317 : decode cX10_readsStatement 317 = .ok (.iconst 0, 1) := by decide +kernel
theorem dX10_readsStatement_318 : decode cX10_readsStatement 318 = .ok (.istore_n 2, 1) := by decide +kernel
theorem dX10_readsStatement_319 : decode cX10_readsStatement 319 = .ok (.iload_n 2, 1) := by decide +kernel
theorem dX10_readsStatement_320 : decode cX10_readsStatement 320 = .ok (.ifCond .eq 16, 3) := by decide +kernel
theorem dX10_readsStatement_323 : decode cX10_readsStatement 323 = .ok (.aload_n 0, 1) := by decide +kernel
theorem dX10_readsStatement_324 : decode cX10_readsStatement 324 = .ok (.bipush 59, 2) := by decide +kernel
theorem dX10_readsStatement_326 : decode cX10_readsStatement 326 = .ok (.invokevirtual 76, 3) := by decide +kernel
theorem dX10_readsStatement_329 : decode cX10_readsStatement 329 = .ok (.ifCond .eq 7, 3) := by decide +kernel
theorem dX10_readsStatement_332 : decode cX10_readsStatement 332 = .ok (.iconst 1, 1) := by decide +kernel
theorem dX10_readsStatement_333 : decode cX10_readsStatement 333 = .ok (.goto 4, 3) := by decide +kernel
theorem dX10_readsStatement_336 : decode cX10_readsStatement 336 = .ok (.iconst 0, 1) := by decide +kernel
theorem dX10_readsStatement_337 : decode cX10_readsStatement 337 = .ok (.ireturn, 1) := by decide +kernel
theorem dX10_toldOf_0 : decode cX10_toldOf 0 = .ok (.iconst 1, 1) := by decide +kernel
theorem dX10_toldOf_1 : decode cX10_toldOf 1 = .ok (.istore_n 1, 1) := by decide +kernel
theorem dX10_toldOf_2 : decode cX10_toldOf 2 = .ok (.iconst 0, 1) := by decide +kernel
theorem dX10_toldOf_3 : decode cX10_toldOf 3 = .ok (.istore_n 2, 1) := by decide +kernel
theorem dX10_toldOf_4 : decode cX10_toldOf 4 = .ok (.iload_n 2, 1) := by decide +kernel
theorem dX10_toldOf_5 : decode cX10_toldOf 5 = .ok (.bipush 6, 2) := by decide +kernel
theorem dX10_toldOf_7 : decode cX10_toldOf 7 = .ok (.if_icmp .ge 48, 3) := by decide +kernel
theorem dX10_toldOf_10 : decode cX10_toldOf 10 = .ok (.iconst 0, 1) := by decide +kernel
theorem dX10_toldOf_11 : decode cX10_toldOf 11 = .ok (.istore_n 3, 1) := by decide +kernel
theorem dX10_toldOf_12 : decode cX10_toldOf 12 = .ok (.iload_n 3, 1) := by decide +kernel
theorem dX10_toldOf_13 : decode cX10_toldOf 13 = .ok (.bipush 6, 2) := by decide +kernel
theorem dX10_toldOf_15 : decode cX10_toldOf 15 = .ok (.if_icmp .ge 34, 3) := by decide +kernel
theorem dX10_toldOf_18 : decode cX10_toldOf 18 = .ok (.aload_n 0, 1) := by decide +kernel
theorem dX10_toldOf_19 : decode cX10_toldOf 19 = .ok (.getfield 19, 3) := by decide +kernel
theorem dX10_toldOf_22 : decode cX10_toldOf 22 = .ok (.iconst 3, 1) := by decide +kernel
theorem dX10_toldOf_23 : decode cX10_toldOf 23 = .ok (.bipush 6, 2) := by decide +kernel
theorem dX10_toldOf_25 : decode cX10_toldOf 25 = .ok (.iload_n 2, 1) := by decide +kernel
theorem dX10_toldOf_26 : decode cX10_toldOf 26 = .ok (.imul, 1) := by decide +kernel
theorem dX10_toldOf_27 : decode cX10_toldOf 27 = .ok (.iadd, 1) := by decide +kernel
theorem dX10_toldOf_28 : decode cX10_toldOf 28 = .ok (.iload_n 3, 1) := by decide +kernel
theorem dX10_toldOf_29 : decode cX10_toldOf 29 = .ok (.iadd, 1) := by decide +kernel
theorem dX10_toldOf_30 : decode cX10_toldOf 30 = .ok (.iaload, 1) := by decide +kernel
theorem dX10_toldOf_31 : decode cX10_toldOf 31 = .ok (.ifCond .le 12, 3) := by decide +kernel
theorem dX10_toldOf_34 : decode cX10_toldOf 34 = .ok (.iload_n 2, 1) := by decide +kernel
theorem dX10_toldOf_35 : decode cX10_toldOf 35 = .ok (.iload_n 1, 1) := by decide +kernel
theorem dX10_toldOf_36 : decode cX10_toldOf 36 = .ok (.if_icmp .lt 7, 3) := by decide +kernel
theorem dX10_toldOf_39 : decode cX10_toldOf 39 = .ok (.iload_n 2, 1) := by decide +kernel
theorem dX10_toldOf_40 : decode cX10_toldOf 40 = .ok (.iconst 1, 1) := by decide +kernel
theorem dX10_toldOf_41 : decode cX10_toldOf 41 = .ok (.iadd, 1) := by decide +kernel
theorem dX10_toldOf_42 : decode cX10_toldOf 42 = .ok (.istore_n 1, 1) := by decide +kernel
theorem dX10_toldOf_43 : decode cX10_toldOf 43 = .ok (.iinc 3 1, 3) := by decide +kernel
theorem dX10_toldOf_46 : decode cX10_toldOf 46 = .ok (.goto (-34), 3) := by decide +kernel
theorem dX10_toldOf_49 : decode cX10_toldOf 49 = .ok (.iinc 2 1, 3) := by decide +kernel
theorem dX10_toldOf_52 : decode cX10_toldOf 52 = .ok (.goto (-48), 3) := by decide +kernel
theorem dX10_toldOf_55 : decode cX10_toldOf 55 = .ok (.iconst 0, 1) := by decide +kernel
theorem dX10_toldOf_56 : decode cX10_toldOf 56 = .ok (.istore_n 2, 1) := by decide +kernel
theorem dX10_toldOf_57 : decode cX10_toldOf 57 = .ok (.iload_n 2, 1) := by decide +kernel
theorem dX10_toldOf_58 : decode cX10_toldOf 58 = .ok (.aload_n 0, 1) := by decide +kernel
theorem dX10_toldOf_59 : decode cX10_toldOf 59 = .ok (.getfield 19, 3) := by decide +kernel
theorem dX10_toldOf_62 : decode cX10_toldOf 62 = .ok (.iconst 2, 1) := by decide +kernel
theorem dX10_toldOf_63 : decode cX10_toldOf 63 = .ok (.iaload, 1) := by decide +kernel
theorem dX10_toldOf_64 : decode cX10_toldOf 64 = .ok (.if_icmp .ge 44, 3) := by decide +kernel
theorem dX10_toldOf_67 : decode cX10_toldOf 67 = .ok (.aload_n 0, 1) := by decide +kernel
theorem dX10_toldOf_68 : decode cX10_toldOf 68 = .ok (.getfield 19, 3) := by decide +kernel
theorem dX10_toldOf_71 : decode cX10_toldOf 71 = .ok (.bipush 63, 2) := by decide +kernel
theorem dX10_toldOf_73 : decode cX10_toldOf 73 = .ok (.bipush 6, 2) := by decide +kernel
theorem dX10_toldOf_75 : decode cX10_toldOf 75 = .ok (.iload_n 2, 1) := by decide +kernel
theorem dX10_toldOf_76 : decode cX10_toldOf 76 = .ok (.imul, 1) := by decide +kernel
theorem dX10_toldOf_77 : decode cX10_toldOf 77 = .ok (.iadd, 1) := by decide +kernel
theorem dX10_toldOf_78 : decode cX10_toldOf 78 = .ok (.iconst 1, 1) := by decide +kernel
theorem dX10_toldOf_79 : decode cX10_toldOf 79 = .ok (.iadd, 1) := by decide +kernel
theorem dX10_toldOf_80 : decode cX10_toldOf 80 = .ok (.iaload, 1) := by decide +kernel
theorem dX10_toldOf_81 : decode cX10_toldOf 81 = .ok (.iload_n 1, 1) := by decide +kernel
theorem dX10_toldOf_82 : decode cX10_toldOf 82 = .ok (.if_icmp .lt 20, 3) := by decide +kernel
theorem dX10_toldOf_85 : decode cX10_toldOf 85 = .ok (.aload_n 0, 1) := by decide +kernel
theorem dX10_toldOf_86 : decode cX10_toldOf 86 = .ok (.getfield 19, 3) := by decide +kernel
theorem dX10_toldOf_89 : decode cX10_toldOf 89 = .ok (.bipush 63, 2) := by decide +kernel
theorem dX10_toldOf_91 : decode cX10_toldOf 91 = .ok (.bipush 6, 2) := by decide +kernel
theorem dX10_toldOf_93 : decode cX10_toldOf 93 = .ok (.iload_n 2, 1) := by decide +kernel
theorem dX10_toldOf_94 : decode cX10_toldOf 94 = .ok (.imul, 1) := by decide +kernel
theorem dX10_toldOf_95 : decode cX10_toldOf 95 = .ok (.iadd, 1) := by decide +kernel
theorem dX10_toldOf_96 : decode cX10_toldOf 96 = .ok (.iconst 1, 1) := by decide +kernel
theorem dX10_toldOf_97 : decode cX10_toldOf 97 = .ok (.iadd, 1) := by decide +kernel
theorem dX10_toldOf_98 : decode cX10_toldOf 98 = .ok (.iaload, 1) := by decide +kernel
theorem dX10_toldOf_99 : decode cX10_toldOf 99 = .ok (.iconst 1, 1) := by decide +kernel
theorem dX10_toldOf_100 : decode cX10_toldOf 100 = .ok (.iadd, 1) := by decide +kernel
theorem dX10_toldOf_101 : decode cX10_toldOf 101 = .ok (.istore_n 1, 1) := by decide +kernel
theorem dX10_toldOf_102 : decode cX10_toldOf 102 = .ok (.iinc 2 1, 3) := by decide +kernel
theorem dX10_toldOf_105 : decode cX10_toldOf 105 = .ok (.goto (-48), 3) := by decide +kernel
theorem dX10_toldOf_108 : decode cX10_toldOf 108 = .ok (.iconst 0, 1) := by decide +kernel
theorem dX10_toldOf_109 : decode cX10_toldOf 109 = .ok (.istore_n 2, 1) := by decide +kernel
theorem dX10_toldOf_110 : decode cX10_toldOf 110 = .ok (.iload_n 2, 1) := by decide +kernel
theorem dX10_toldOf_111 : decode cX10_toldOf 111 = .ok (.bipush 24, 2) := by decide +kernel
theorem dX10_toldOf_113 : decode cX10_toldOf 113 = .ok (.if_icmp .ge 59, 3) := by decide +kernel
theorem dX10_toldOf_116 : decode cX10_toldOf 116 = .ok (.aload_n 0, 1) := by decide +kernel
theorem dX10_toldOf_117 : decode cX10_toldOf 117 = .ok (.getfield 19, 3) := by decide +kernel
theorem dX10_toldOf_120 : decode cX10_toldOf 120 = .ok (.bipush 99, 2) := by decide +kernel
theorem dX10_toldOf_122 : decode cX10_toldOf 122 = .ok (.bipush 7, 2) := by decide +kernel
theorem dX10_toldOf_124 : decode cX10_toldOf 124 = .ok (.iload_n 2, 1) := by decide +kernel
theorem dX10_toldOf_125 : decode cX10_toldOf 125 = .ok (.imul, 1) := by decide +kernel
theorem dX10_toldOf_126 : decode cX10_toldOf 126 = .ok (.iadd, 1) := by decide +kernel
theorem dX10_toldOf_127 : decode cX10_toldOf 127 = .ok (.iaload, 1) := by decide +kernel
theorem dX10_toldOf_128 : decode cX10_toldOf 128 = .ok (.ifCond .le 38, 3) := by decide +kernel
theorem dX10_toldOf_131 : decode cX10_toldOf 131 = .ok (.aload_n 0, 1) := by decide +kernel
theorem dX10_toldOf_132 : decode cX10_toldOf 132 = .ok (.getfield 19, 3) := by decide +kernel
theorem dX10_toldOf_135 : decode cX10_toldOf 135 = .ok (.bipush 99, 2) := by decide +kernel
theorem dX10_toldOf_137 : decode cX10_toldOf 137 = .ok (.bipush 7, 2) := by decide +kernel
theorem dX10_toldOf_139 : decode cX10_toldOf 139 = .ok (.iload_n 2, 1) := by decide +kernel
theorem dX10_toldOf_140 : decode cX10_toldOf 140 = .ok (.imul, 1) := by decide +kernel
theorem dX10_toldOf_141 : decode cX10_toldOf 141 = .ok (.iadd, 1) := by decide +kernel
theorem dX10_toldOf_142 : decode cX10_toldOf 142 = .ok (.iconst 2, 1) := by decide +kernel
theorem dX10_toldOf_143 : decode cX10_toldOf 143 = .ok (.iadd, 1) := by decide +kernel
theorem dX10_toldOf_144 : decode cX10_toldOf 144 = .ok (.iaload, 1) := by decide +kernel
theorem dX10_toldOf_145 : decode cX10_toldOf 145 = .ok (.iload_n 1, 1) := by decide +kernel
theorem dX10_toldOf_146 : decode cX10_toldOf 146 = .ok (.if_icmp .lt 20, 3) := by decide +kernel
theorem dX10_toldOf_149 : decode cX10_toldOf 149 = .ok (.aload_n 0, 1) := by decide +kernel
theorem dX10_toldOf_150 : decode cX10_toldOf 150 = .ok (.getfield 19, 3) := by decide +kernel
theorem dX10_toldOf_153 : decode cX10_toldOf 153 = .ok (.bipush 99, 2) := by decide +kernel
theorem dX10_toldOf_155 : decode cX10_toldOf 155 = .ok (.bipush 7, 2) := by decide +kernel
theorem dX10_toldOf_157 : decode cX10_toldOf 157 = .ok (.iload_n 2, 1) := by decide +kernel
theorem dX10_toldOf_158 : decode cX10_toldOf 158 = .ok (.imul, 1) := by decide +kernel
theorem dX10_toldOf_159 : decode cX10_toldOf 159 = .ok (.iadd, 1) := by decide +kernel
theorem dX10_toldOf_160 : decode cX10_toldOf 160 = .ok (.iconst 2, 1) := by decide +kernel
theorem dX10_toldOf_161 : decode cX10_toldOf 161 = .ok (.iadd, 1) := by decide +kernel
theorem dX10_toldOf_162 : decode cX10_toldOf 162 = .ok (.iaload, 1) := by decide +kernel
theorem dX10_toldOf_163 : decode cX10_toldOf 163 = .ok (.iconst 1, 1) := by decide +kernel
theorem dX10_toldOf_164 : decode cX10_toldOf 164 = .ok (.iadd, 1) := by decide +kernel
theorem dX10_toldOf_165 : decode cX10_toldOf 165 = .ok (.istore_n 1, 1) := by decide +kernel
theorem dX10_toldOf_166 : decode cX10_toldOf 166 = .ok (.iinc 2 1, 3) := by decide +kernel
theorem dX10_toldOf_169 : decode cX10_toldOf 169 = .ok (.goto (-59), 3) := by decide +kernel
theorem dX10_toldOf_172 : decode cX10_toldOf 172 = .ok (.iload_n 1, 1) := by decide +kernel
theorem dX10_toldOf_173 : decode cX10_toldOf 173 = .ok (.ireturn, 1) := by decide +kernel
theorem dX10_free_0 : decode cX10_free 0 = .ok (.iconst 0, 1) := by decide +kernel
theorem dX10_free_1 : decode cX10_free 1 = .ok (.istore_n 1, 1) := by decide +kernel
theorem dX10_free_2 : decode cX10_free 2 = .ok (.iload_n 1, 1) := by decide +kernel
theorem dX10_free_3 : decode cX10_free 3 = .ok (.bipush 24, 2) := by decide +kernel
theorem dX10_free_5 : decode cX10_free 5 = .ok (.if_icmp .ge 23, 3) := by decide +kernel
theorem dX10_free_8 : decode cX10_free 8 = .ok (.aload_n 0, 1) := by decide +kernel
theorem dX10_free_9 : decode cX10_free 9 = .ok (.bipush 99, 2) := by decide +kernel
theorem dX10_free_11 : decode cX10_free 11 = .ok (.bipush 7, 2) := by decide +kernel
theorem dX10_free_13 : decode cX10_free 13 = .ok (.iload_n 1, 1) := by decide +kernel
theorem dX10_free_14 : decode cX10_free 14 = .ok (.imul, 1) := by decide +kernel
theorem dX10_free_15 : decode cX10_free 15 = .ok (.iadd, 1) := by decide +kernel
theorem dX10_free_16 : decode cX10_free 16 = .ok (.iaload, 1) := by decide +kernel
theorem dX10_free_17 : decode cX10_free 17 = .ok (.ifCond .ne 5, 3) := by decide +kernel
theorem dX10_free_20 : decode cX10_free 20 = .ok (.iload_n 1, 1) := by decide +kernel
theorem dX10_free_21 : decode cX10_free 21 = .ok (.ireturn, 1) := by decide +kernel
theorem dX10_free_22 : decode cX10_free 22 = .ok (.iinc 1 1, 3) := by decide +kernel
theorem dX10_free_25 : decode cX10_free 25 = .ok (.goto (-23), 3) := by decide +kernel
theorem dX10_free_28 : decode cX10_free 28 = .ok (.bipush (-9), 2) := by decide +kernel
theorem dX10_free_30 : decode cX10_free 30 = .ok (.ireturn, 1) := by decide +kernel
theorem dX10_comesPerson_0 : decode cX10_comesPerson 0 = .ok (.aload_n 0, 1) := by decide +kernel
theorem dX10_comesPerson_1 : decode cX10_comesPerson 1 = .ok (.getfield 19, 3) := by decide +kernel
theorem dX10_comesPerson_4 : decode cX10_comesPerson 4 = .ok (.invokestatic 83, 3) := by decide +kernel
theorem dX10_comesPerson_7 : decode cX10_comesPerson 7 = .ok (.istore_n 1, 1) := by decide +kernel
theorem dX10_comesPerson_8 : decode cX10_comesPerson 8 = .ok (.iconst 0, 1) := by decide +kernel
theorem dX10_comesPerson_9 : decode cX10_comesPerson 9 = .ok (.istore_n 2, 1) := by decide +kernel
theorem dX10_comesPerson_10 : decode cX10_comesPerson 10 = .ok (.iload_n 2, 1) := by decide +kernel
theorem dX10_comesPerson_11 : decode cX10_comesPerson 11 = .ok (.iconst 3, 1) := by decide +kernel
theorem dX10_comesPerson_12 : decode cX10_comesPerson 12 = .ok (.if_icmp .ge 22, 3) := by decide +kernel
theorem dX10_comesPerson_15 : decode cX10_comesPerson 15 = .ok (.aload_n 0, 1) := by decide +kernel
theorem dX10_comesPerson_16 : decode cX10_comesPerson 16 = .ok (.getfield 25, 3) := by decide +kernel
theorem dX10_comesPerson_19 : decode cX10_comesPerson 19 = .ok (.iload_n 2, 1) := by decide +kernel
theorem dX10_comesPerson_20 : decode cX10_comesPerson 20 = .ok (.iaload, 1) := by decide +kernel
theorem dX10_comesPerson_21 : decode cX10_comesPerson 21 = .ok (.bipush 60, 2) := by decide +kernel
theorem dX10_comesPerson_23 : decode cX10_comesPerson 23 = .ok (.if_icmp .le 5, 3) := by decide +kernel
theorem dX10_comesPerson_26 : decode cX10_comesPerson 26 = .ok (.iconst 0, 1) := by decide +kernel
theorem dX10_comesPerson_27 : decode cX10_comesPerson 27 = .ok (.ireturn, 1) := by decide +kernel
theorem dX10_comesPerson_28 : decode cX10_comesPerson 28 = .ok (.iinc 2 1, 3) := by decide +kernel
theorem dX10_comesPerson_31 : decode cX10_comesPerson 31 = .ok (.goto (-21), 3) := by decide +kernel
theorem dX10_comesPerson_34 : decode cX10_comesPerson 34 = .ok (.aload_n 0, 1) := by decide +kernel
theorem dX10_comesPerson_35 : decode cX10_comesPerson 35 = .ok (.getfield 25, 3) := by decide +kernel
theorem dX10_comesPerson_38 : decode cX10_comesPerson 38 = .ok (.iconst 3, 1) := by decide +kernel
theorem dX10_comesPerson_39 : decode cX10_comesPerson 39 = .ok (.iaload, 1) := by decide +kernel
theorem dX10_comesPerson_40 : decode cX10_comesPerson 40 = .ok (.iconst 1, 1) := by decide +kernel
theorem dX10_comesPerson_41 : decode cX10_comesPerson 41 = .ok (.if_icmp .lt 29, 3) := by decide +kernel
theorem dX10_comesPerson_44 : decode cX10_comesPerson 44 = .ok (.aload_n 0, 1) := by decide +kernel
theorem dX10_comesPerson_45 : decode cX10_comesPerson 45 = .ok (.getfield 25, 3) := by decide +kernel
theorem dX10_comesPerson_48 : decode cX10_comesPerson 48 = .ok (.iconst 3, 1) := by decide +kernel
theorem dX10_comesPerson_49 : decode cX10_comesPerson 49 = .ok (.iaload, 1) := by decide +kernel
theorem dX10_comesPerson_50 : decode cX10_comesPerson 50 = .ok (.bipush 12, 2) := by decide +kernel
theorem dX10_comesPerson_52 : decode cX10_comesPerson 52 = .ok (.if_icmp .gt 18, 3) := by decide +kernel
theorem dX10_comesPerson_55 : decode cX10_comesPerson 55 = .ok (.aload_n 0, 1) := by decide +kernel
theorem dX10_comesPerson_56 : decode cX10_comesPerson 56 = .ok (.getfield 19, 3) := by decide +kernel
theorem dX10_comesPerson_59 : decode cX10_comesPerson 59 = .ok (.iconst 1, 1) := by decide +kernel
theorem dX10_comesPerson_60 : decode cX10_comesPerson 60 = .ok (.iaload, 1) := by decide +kernel
theorem dX10_comesPerson_61 : decode cX10_comesPerson 61 = .ok (.bipush 6, 2) := by decide +kernel
theorem dX10_comesPerson_63 : decode cX10_comesPerson 63 = .ok (.if_icmp .eq 7, 3) := by decide +kernel
theorem dX10_comesPerson_66 : decode cX10_comesPerson 66 = .ok (.iload_n 1, 1) := by decide +kernel
theorem dX10_comesPerson_67 : decode cX10_comesPerson 67 = .ok (.ifCond .ge 5, 3) := by decide +kernel
theorem dX10_comesPerson_70 : decode cX10_comesPerson 70 = .ok (.iconst 0, 1) := by decide +kernel
theorem dX10_comesPerson_71 : decode cX10_comesPerson 71 = .ok (.ireturn, 1) := by decide +kernel
theorem dX10_comesPerson_72 : decode cX10_comesPerson 72 = .ok (.aload_n 0, 1) := by decide +kernel
theorem dX10_comesPerson_73 : decode cX10_comesPerson 73 = .ok (.getfield 19, 3) := by decide +kernel
theorem dX10_comesPerson_76 : decode cX10_comesPerson 76 = .ok (.iconst 1, 1) := by decide +kernel
theorem dX10_comesPerson_77 : decode cX10_comesPerson 77 = .ok (.iaload, 1) := by decide +kernel
theorem dX10_comesPerson_78 : decode cX10_comesPerson 78 = .ok (.istore_n 2, 1) := by decide +kernel
theorem dX10_comesPerson_79 : decode cX10_comesPerson 79 = .ok (.iconst 0, 1) := by decide +kernel
theorem dX10_comesPerson_80 : decode cX10_comesPerson 80 = .ok (.istore_n 3, 1) := by decide +kernel
theorem dX10_comesPerson_81 : decode cX10_comesPerson 81 = .ok (.iload_n 3, 1) := by decide +kernel
theorem dX10_comesPerson_82 : decode cX10_comesPerson 82 = .ok (.iconst 4, 1) := by decide +kernel
theorem dX10_comesPerson_83 : decode cX10_comesPerson 83 = .ok (.if_icmp .ge 28, 3) := by decide +kernel
theorem dX10_comesPerson_86 : decode cX10_comesPerson 86 = .ok (.aload_n 0, 1) := by decide +kernel
theorem dX10_comesPerson_87 : decode cX10_comesPerson 87 = .ok (.getfield 19, 3) := by decide +kernel
theorem dX10_comesPerson_90 : decode cX10_comesPerson 90 = .ok (.bipush 39, 2) := by decide +kernel
theorem dX10_comesPerson_92 : decode cX10_comesPerson 92 = .ok (.iconst 4, 1) := by decide +kernel
theorem dX10_comesPerson_93 : decode cX10_comesPerson 93 = .ok (.iload_n 2, 1) := by decide +kernel
theorem dX10_comesPerson_94 : decode cX10_comesPerson 94 = .ok (.imul, 1) := by decide +kernel
theorem dX10_comesPerson_95 : decode cX10_comesPerson 95 = .ok (.iadd, 1) := by decide +kernel
theorem dX10_comesPerson_96 : decode cX10_comesPerson 96 = .ok (.iload_n 3, 1) := by decide +kernel
theorem dX10_comesPerson_97 : decode cX10_comesPerson 97 = .ok (.iadd, 1) := by decide +kernel
theorem dX10_comesPerson_98 : decode cX10_comesPerson 98 = .ok (.aload_n 0, 1) := by decide +kernel
theorem dX10_comesPerson_99 : decode cX10_comesPerson 99 = .ok (.getfield 25, 3) := by decide +kernel
theorem dX10_comesPerson_102 : decode cX10_comesPerson 102 = .ok (.iload_n 3, 1) := by decide +kernel
theorem dX10_comesPerson_103 : decode cX10_comesPerson 103 = .ok (.iaload, 1) := by decide +kernel
theorem dX10_comesPerson_104 : decode cX10_comesPerson 104 = .ok (.iastore, 1) := by decide +kernel
theorem dX10_comesPerson_105 : decode cX10_comesPerson 105 = .ok (.iinc 3 1, 3) := by decide +kernel
theorem dX10_comesPerson_108 : decode cX10_comesPerson 108 = .ok (.goto (-27), 3) := by decide +kernel
theorem dX10_comesPerson_111 : decode cX10_comesPerson 111 = .ok (.bipush 99, 2) := by decide +kernel
theorem dX10_comesPerson_113 : decode cX10_comesPerson 113 = .ok (.bipush 7, 2) := by decide +kernel
theorem dX10_comesPerson_115 : decode cX10_comesPerson 115 = .ok (.iload_n 1, 1) := by decide +kernel
theorem dX10_comesPerson_116 : decode cX10_comesPerson 116 = .ok (.imul, 1) := by decide +kernel
theorem dX10_comesPerson_117 : decode cX10_comesPerson 117 = .ok (.iadd, 1) := by decide +kernel
theorem dX10_comesPerson_118 : decode cX10_comesPerson 118 = .ok (.istore_n 3, 1) := by decide +kernel
theorem dX10_comesPerson_119 : decode cX10_comesPerson 119 = .ok (.iconst 0, 1) := by decide +kernel
theorem dX10_comesPerson_120 : decode cX10_comesPerson 120 = .ok (.istore 4, 2) := by decide +kernel
theorem dX10_comesPerson_122 : decode cX10_comesPerson 122 = .ok (.iload 4, 2) := by decide +kernel
theorem dX10_comesPerson_124 : decode cX10_comesPerson 124 = .ok (.bipush 7, 2) := by decide +kernel
theorem dX10_comesPerson_126 : decode cX10_comesPerson 126 = .ok (.if_icmp .ge 19, 3) := by decide +kernel
theorem dX10_comesPerson_129 : decode cX10_comesPerson 129 = .ok (.aload_n 0, 1) := by decide +kernel
theorem dX10_comesPerson_130 : decode cX10_comesPerson 130 = .ok (.getfield 19, 3) := by decide +kernel
theorem dX10_comesPerson_133 : decode cX10_comesPerson 133 = .ok (.iload_n 3, 1) := by decide +kernel
theorem dX10_comesPerson_134 : decode cX10_comesPerson 134 = .ok (.iload 4, 2) := by decide +kernel
theorem dX10_comesPerson_136 : decode cX10_comesPerson 136 = .ok (.iadd, 1) := by decide +kernel
theorem dX10_comesPerson_137 : decode cX10_comesPerson 137 = .ok (.iconst 0, 1) := by decide +kernel
theorem dX10_comesPerson_138 : decode cX10_comesPerson 138 = .ok (.iastore, 1) := by decide +kernel
theorem dX10_comesPerson_139 : decode cX10_comesPerson 139 = .ok (.iinc 4 1, 3) := by decide +kernel
theorem dX10_comesPerson_142 : decode cX10_comesPerson 142 = .ok (.goto (-20), 3) := by decide +kernel
theorem dX10_comesPerson_145 : decode cX10_comesPerson 145 = .ok (.aload_n 0, 1) := by decide +kernel
theorem dX10_comesPerson_146 : decode cX10_comesPerson 146 = .ok (.getfield 19, 3) := by decide +kernel
theorem dX10_comesPerson_149 : decode cX10_comesPerson 149 = .ok (.iload_n 3, 1) := by decide +kernel
theorem dX10_comesPerson_150 : decode cX10_comesPerson 150 = .ok (.iconst 0, 1) := by decide +kernel
theorem dX10_comesPerson_151 : decode cX10_comesPerson 151 = .ok (.iadd, 1) := by decide +kernel
theorem dX10_comesPerson_152 : decode cX10_comesPerson 152 = .ok (.iload_n 2, 1) := by decide +kernel
theorem dX10_comesPerson_153 : decode cX10_comesPerson 153 = .ok (.iconst 1, 1) := by decide +kernel
theorem dX10_comesPerson_154 : decode cX10_comesPerson 154 = .ok (.iadd, 1) := by decide +kernel
theorem dX10_comesPerson_155 : decode cX10_comesPerson 155 = .ok (.iastore, 1) := by decide +kernel
theorem dX10_comesPerson_156 : decode cX10_comesPerson 156 = .ok (.aload_n 0, 1) := by decide +kernel
theorem dX10_comesPerson_157 : decode cX10_comesPerson 157 = .ok (.getfield 19, 3) := by decide +kernel
theorem dX10_comesPerson_160 : decode cX10_comesPerson 160 = .ok (.iload_n 3, 1) := by decide +kernel
theorem dX10_comesPerson_161 : decode cX10_comesPerson 161 = .ok (.iconst 1, 1) := by decide +kernel
theorem dX10_comesPerson_162 : decode cX10_comesPerson 162 = .ok (.iadd, 1) := by decide +kernel
theorem dX10_comesPerson_163 : decode cX10_comesPerson 163 = .ok (.bipush 12, 2) := by decide +kernel
theorem dX10_comesPerson_165 : decode cX10_comesPerson 165 = .ok (.iastore, 1) := by decide +kernel
theorem dX10_comesPerson_166 : decode cX10_comesPerson 166 = .ok (.aload_n 0, 1) := by decide +kernel
theorem dX10_comesPerson_167 : decode cX10_comesPerson 167 = .ok (.getfield 19, 3) := by decide +kernel
theorem dX10_comesPerson_170 : decode cX10_comesPerson 170 = .ok (.iload_n 3, 1) := by decide +kernel
theorem dX10_comesPerson_171 : decode cX10_comesPerson 171 = .ok (.iconst 3, 1) := by decide +kernel
theorem dX10_comesPerson_172 : decode cX10_comesPerson 172 = .ok (.iadd, 1) := by decide +kernel
theorem dX10_comesPerson_173 : decode cX10_comesPerson 173 = .ok (.bipush (-9), 2) := by decide +kernel
theorem dX10_comesPerson_175 : decode cX10_comesPerson 175 = .ok (.iastore, 1) := by decide +kernel
theorem dX10_comesPerson_176 : decode cX10_comesPerson 176 = .ok (.aload_n 0, 1) := by decide +kernel
theorem dX10_comesPerson_177 : decode cX10_comesPerson 177 = .ok (.getfield 19, 3) := by decide +kernel
theorem dX10_comesPerson_180 : decode cX10_comesPerson 180 = .ok (.iconst 1, 1) := by decide +kernel
theorem dX10_comesPerson_181 : decode cX10_comesPerson 181 = .ok (.dup2, 1) := by decide +kernel
theorem dX10_comesPerson_182 : decode cX10_comesPerson 182 = .ok (.iaload, 1) := by decide +kernel
theorem dX10_comesPerson_183 : decode cX10_comesPerson 183 = .ok (.iconst 1, 1) := by decide +kernel
theorem dX10_comesPerson_184 : decode cX10_comesPerson 184 = .ok (.iadd, 1) := by decide +kernel
theorem dX10_comesPerson_185 : decode cX10_comesPerson 185 = .ok (.iastore, 1) := by decide +kernel
theorem dX10_comesPerson_186 : decode cX10_comesPerson 186 = .ok (.iconst 1, 1) := by decide +kernel
theorem dX10_comesPerson_187 : decode cX10_comesPerson 187 = .ok (.ireturn, 1) := by decide +kernel
theorem dX10_comes_0 : decode cX10_comes 0 = .ok (.aload_n 0, 1) := by decide +kernel
theorem dX10_comes_1 : decode cX10_comes 1 = .ok (.getfield 25, 3) := by decide +kernel
theorem dX10_comes_4 : decode cX10_comes 4 = .ok (.iconst 0, 1) := by decide +kernel
theorem dX10_comes_5 : decode cX10_comes 5 = .ok (.iaload, 1) := by decide +kernel
theorem dX10_comes_6 : decode cX10_comes 6 = .ok (.istore_n 2, 1) := by decide +kernel
theorem dX10_comes_7 : decode cX10_comes 7 = .ok (.aload_n 0, 1) := by decide +kernel
theorem dX10_comes_8 : decode cX10_comes 8 = .ok (.getfield 25, 3) := by decide +kernel
theorem dX10_comes_11 : decode cX10_comes 11 = .ok (.iconst 1, 1) := by decide +kernel
theorem dX10_comes_12 : decode cX10_comes 12 = .ok (.iaload, 1) := by decide +kernel
theorem dX10_comes_13 : decode cX10_comes 13 = .ok (.istore_n 3, 1) := by decide +kernel
theorem dX10_comes_14 : decode cX10_comes 14 = .ok (.iload_n 1, 1) := by decide +kernel
theorem dX10_comes_15 : decode cX10_comes 15 = .ok (.lookupswitch 151 #[(110, 33), (112, 146), (119, 58)], 33) := by decide +kernel
theorem dX10_comes_48 : decode cX10_comes 48 = .ok (.iload_n 2, 1) := by decide +kernel
theorem dX10_comes_49 : decode cX10_comes 49 = .ok (.bipush 6, 2) := by decide +kernel
theorem dX10_comes_51 : decode cX10_comes 51 = .ok (.if_icmp .gt 11, 3) := by decide +kernel
theorem dX10_comes_54 : decode cX10_comes 54 = .ok (.iload_n 2, 1) := by decide +kernel
theorem dX10_comes_55 : decode cX10_comes 55 = .ok (.aload_n 0, 1) := by decide +kernel
theorem dX10_comes_56 : decode cX10_comes 56 = .ok (.invokevirtual 87, 3) := by decide +kernel
theorem dX10_comes_59 : decode cX10_comes 59 = .ok (.if_icmp .ge 5, 3) := by decide +kernel
theorem dX10_comes_62 : decode cX10_comes 62 = .ok (.iconst 0, 1) := by decide +kernel
theorem dX10_comes_63 : decode cX10_comes 63 = .ok (.ireturn, 1) := by decide +kernel
theorem dX10_comes_64 : decode cX10_comes 64 = .ok (.aload_n 0, 1) := by decide +kernel
theorem dX10_comes_65 : decode cX10_comes 65 = .ok (.getfield 19, 3) := by decide +kernel
theorem dX10_comes_68 : decode cX10_comes 68 = .ok (.iconst 0, 1) := by decide +kernel
theorem dX10_comes_69 : decode cX10_comes 69 = .ok (.iload_n 2, 1) := by decide +kernel
theorem dX10_comes_70 : decode cX10_comes 70 = .ok (.iastore, 1) := by decide +kernel
theorem dX10_comes_71 : decode cX10_comes 71 = .ok (.iconst 1, 1) := by decide +kernel
theorem dX10_comes_72 : decode cX10_comes 72 = .ok (.ireturn, 1) := by decide +kernel
theorem dX10_comes_73 : decode cX10_comes 73 = .ok (.iload_n 2, 1) := by decide +kernel
theorem dX10_comes_74 : decode cX10_comes 74 = .ok (.aload_n 0, 1) := by decide +kernel
theorem dX10_comes_75 : decode cX10_comes 75 = .ok (.getfield 19, 3) := by decide +kernel
theorem dX10_comes_78 : decode cX10_comes 78 = .ok (.iconst 0, 1) := by decide +kernel
theorem dX10_comes_79 : decode cX10_comes 79 = .ok (.iaload, 1) := by decide +kernel
theorem dX10_comes_80 : decode cX10_comes 80 = .ok (.if_icmp .ge 39, 3) := by decide +kernel
theorem dX10_comes_83 : decode cX10_comes 83 = .ok (.iload_n 3, 1) := by decide +kernel
theorem dX10_comes_84 : decode cX10_comes 84 = .ok (.aload_n 0, 1) := by decide +kernel
theorem dX10_comes_85 : decode cX10_comes 85 = .ok (.getfield 19, 3) := by decide +kernel
theorem dX10_comes_88 : decode cX10_comes 88 = .ok (.iconst 0, 1) := by decide +kernel
theorem dX10_comes_89 : decode cX10_comes 89 = .ok (.iaload, 1) := by decide +kernel
theorem dX10_comes_90 : decode cX10_comes 90 = .ok (.if_icmp .ge 29, 3) := by decide +kernel
theorem dX10_comes_93 : decode cX10_comes 93 = .ok (.iload_n 2, 1) := by decide +kernel
theorem dX10_comes_94 : decode cX10_comes 94 = .ok (.iload_n 3, 1) := by decide +kernel
theorem dX10_comes_95 : decode cX10_comes 95 = .ok (.if_icmp .eq 24, 3) := by decide +kernel
theorem dX10_comes_98 : decode cX10_comes 98 = .ok (.aload_n 0, 1) := by decide +kernel
theorem dX10_comes_99 : decode cX10_comes 99 = .ok (.getfield 25, 3) := by decide +kernel
theorem dX10_comes_102 : decode cX10_comes 102 = .ok (.iconst 2, 1) := by decide +kernel
theorem dX10_comes_103 : decode cX10_comes 103 = .ok (.iaload, 1) := by decide +kernel
theorem dX10_comes_104 : decode cX10_comes 104 = .ok (.iconst 1, 1) := by decide +kernel
theorem dX10_comes_105 : decode cX10_comes 105 = .ok (.if_icmp .lt 14, 3) := by decide +kernel
theorem dX10_comes_108 : decode cX10_comes 108 = .ok (.aload_n 0, 1) := by decide +kernel
theorem dX10_comes_109 : decode cX10_comes 109 = .ok (.getfield 25, 3) := by decide +kernel
theorem dX10_comes_112 : decode cX10_comes 112 = .ok (.iconst 2, 1) := by decide +kernel
theorem dX10_comes_113 : decode cX10_comes 113 = .ok (.iaload, 1) := by decide +kernel
theorem dX10_comes_114 : decode cX10_comes 114 = .ok (.bipush 60, 2) := by decide +kernel
theorem dX10_comes_116 : decode cX10_comes 116 = .ok (.if_icmp .le 5, 3) := by decide +kernel
theorem dX10_comes_119 : decode cX10_comes 119 = .ok (.iconst 0, 1) := by decide +kernel
theorem dX10_comes_120 : decode cX10_comes 120 = .ok (.ireturn, 1) := by decide +kernel
theorem dX10_comes_121 : decode cX10_comes 121 = .ok (.aload_n 0, 1) := by decide +kernel
theorem dX10_comes_122 : decode cX10_comes 122 = .ok (.getfield 19, 3) := by decide +kernel
theorem dX10_comes_125 : decode cX10_comes 125 = .ok (.iconst 3, 1) := by decide +kernel
theorem dX10_comes_126 : decode cX10_comes 126 = .ok (.bipush 6, 2) := by decide +kernel
theorem dX10_comes_128 : decode cX10_comes 128 = .ok (.iload_n 2, 1) := by decide +kernel
theorem dX10_comes_129 : decode cX10_comes 129 = .ok (.imul, 1) := by decide +kernel
theorem dX10_comes_130 : decode cX10_comes 130 = .ok (.iadd, 1) := by decide +kernel
theorem dX10_comes_131 : decode cX10_comes 131 = .ok (.iload_n 3, 1) := by decide +kernel
theorem dX10_comes_132 : decode cX10_comes 132 = .ok (.iadd, 1) := by decide +kernel
theorem dX10_comes_133 : decode cX10_comes 133 = .ok (.aload_n 0, 1) := by decide +kernel
theorem dX10_comes_134 : decode cX10_comes 134 = .ok (.getfield 25, 3) := by decide +kernel
theorem dX10_comes_137 : decode cX10_comes 137 = .ok (.iconst 2, 1) := by decide +kernel
theorem dX10_comes_138 : decode cX10_comes 138 = .ok (.iaload, 1) := by decide +kernel
theorem dX10_comes_139 : decode cX10_comes 139 = .ok (.iastore, 1) := by decide +kernel
theorem dX10_comes_140 : decode cX10_comes 140 = .ok (.aload_n 0, 1) := by decide +kernel
theorem dX10_comes_141 : decode cX10_comes 141 = .ok (.getfield 19, 3) := by decide +kernel
theorem dX10_comes_144 : decode cX10_comes 144 = .ok (.iconst 3, 1) := by decide +kernel
theorem dX10_comes_145 : decode cX10_comes 145 = .ok (.bipush 6, 2) := by decide +kernel
theorem dX10_comes_147 : decode cX10_comes 147 = .ok (.iload_n 3, 1) := by decide +kernel
theorem dX10_comes_148 : decode cX10_comes 148 = .ok (.imul, 1) := by decide +kernel
theorem dX10_comes_149 : decode cX10_comes 149 = .ok (.iadd, 1) := by decide +kernel
theorem dX10_comes_150 : decode cX10_comes 150 = .ok (.iload_n 2, 1) := by decide +kernel
theorem dX10_comes_151 : decode cX10_comes 151 = .ok (.iadd, 1) := by decide +kernel
theorem dX10_comes_152 : decode cX10_comes 152 = .ok (.aload_n 0, 1) := by decide +kernel
theorem dX10_comes_153 : decode cX10_comes 153 = .ok (.getfield 25, 3) := by decide +kernel
theorem dX10_comes_156 : decode cX10_comes 156 = .ok (.iconst 2, 1) := by decide +kernel
theorem dX10_comes_157 : decode cX10_comes 157 = .ok (.iaload, 1) := by decide +kernel
theorem dX10_comes_158 : decode cX10_comes 158 = .ok (.iastore, 1) := by decide +kernel
theorem dX10_comes_159 : decode cX10_comes 159 = .ok (.iconst 1, 1) := by decide +kernel
theorem dX10_comes_160 : decode cX10_comes 160 = .ok (.ireturn, 1) := by decide +kernel
theorem dX10_comes_161 : decode cX10_comes 161 = .ok (.aload_n 0, 1) := by decide +kernel
theorem dX10_comes_162 : decode cX10_comes 162 = .ok (.invokevirtual 90, 3) := by decide +kernel
theorem dX10_comes_165 : decode cX10_comes 165 = .ok (.ireturn, 1) := by decide +kernel
theorem dX10_comes_166 : decode cX10_comes 166 = .ok (.iload_n 3, 1) := by decide +kernel
theorem dX10_comes_167 : decode cX10_comes 167 = .ok (.aload_n 0, 1) := by decide +kernel
theorem dX10_comes_168 : decode cX10_comes 168 = .ok (.getfield 19, 3) := by decide +kernel
theorem dX10_comes_171 : decode cX10_comes 171 = .ok (.iconst 0, 1) := by decide +kernel
theorem dX10_comes_172 : decode cX10_comes 172 = .ok (.iaload, 1) := by decide +kernel
theorem dX10_comes_173 : decode cX10_comes 173 = .ok (.if_icmp .ge 18, 3) := by decide +kernel
theorem dX10_comes_176 : decode cX10_comes 176 = .ok (.aload_n 0, 1) := by decide +kernel
theorem dX10_comes_177 : decode cX10_comes 177 = .ok (.getfield 19, 3) := by decide +kernel
theorem dX10_comes_180 : decode cX10_comes 180 = .ok (.iconst 2, 1) := by decide +kernel
theorem dX10_comes_181 : decode cX10_comes 181 = .ok (.iaload, 1) := by decide +kernel
theorem dX10_comes_182 : decode cX10_comes 182 = .ok (.bipush 6, 2) := by decide +kernel
theorem dX10_comes_184 : decode cX10_comes 184 = .ok (.if_icmp .ge 7, 3) := by decide +kernel
theorem dX10_comes_187 : decode cX10_comes 187 = .ok (.iconst 1, 1) := by decide +kernel
theorem dX10_comes_188 : decode cX10_comes 188 = .ok (.goto 4, 3) := by decide +kernel
theorem dX10_comes_191 : decode cX10_comes 191 = .ok (.iconst 0, 1) := by decide +kernel
theorem dX10_comes_192 : decode cX10_comes 192 = .ok (.istore 4, 2) := by decide +kernel
theorem dX10_comes_194 : decode cX10_comes 194 = .ok (.iconst 2, 1) := by decide +kernel
theorem dX10_comes_195 : decode cX10_comes 195 = .ok (.istore 5, 2) := by decide +kernel
theorem dX10_comes_197 : decode cX10_comes 197 = .ok (.iload 5, 2) := by decide +kernel
theorem dX10_comes_199 : decode cX10_comes 199 = .ok (.iconst 5, 1) := by decide +kernel
theorem dX10_comes_200 : decode cX10_comes 200 = .ok (.if_icmp .ge 34, 3) := by decide +kernel
theorem dX10_comes_203 : decode cX10_comes 203 = .ok (.iload 4, 2) := by decide +kernel
theorem dX10_comes_205 : decode cX10_comes 205 = .ok (.ifCond .eq 20, 3) := by decide +kernel
theorem dX10_comes_208 : decode cX10_comes 208 = .ok (.aload_n 0, 1) := by decide +kernel
theorem dX10_comes_209 : decode cX10_comes 209 = .ok (.getfield 25, 3) := by decide +kernel
theorem dX10_comes_212 : decode cX10_comes 212 = .ok (.iload 5, 2) := by decide +kernel
theorem dX10_comes_214 : decode cX10_comes 214 = .ok (.iaload, 1) := by decide +kernel
theorem dX10_comes_215 : decode cX10_comes 215 = .ok (.sipush 200, 3) := by decide +kernel
theorem dX10_comes_218 : decode cX10_comes 218 = .ok (.if_icmp .gt 7, 3) := by decide +kernel
theorem dX10_comes_221 : decode cX10_comes 221 = .ok (.iconst 1, 1) := by decide +kernel
theorem dX10_comes_222 : decode cX10_comes 222 = .ok (.goto 4, 3) := by decide +kernel
theorem dX10_comes_225 : decode cX10_comes 225 = .ok (.iconst 0, 1) := by decide +kernel
theorem dX10_comes_226 : decode cX10_comes 226 = .ok (.istore 4, 2) := by decide +kernel
theorem dX10_comes_228 : decode cX10_comes 228 = .ok (.iinc 5 1, 3) := by decide +kernel
theorem dX10_comes_231 : decode cX10_comes 231 = .ok (.goto (-34), 3) := by decide +kernel
theorem dX10_comes_234 : decode cX10_comes 234 = .ok (.iload 4, 2) := by decide +kernel
theorem dX10_comes_236 : decode cX10_comes 236 = .ok (.ifCond .ne 5, 3) := by decide +kernel
theorem dX10_comes_239 : decode cX10_comes 239 = .ok (.iconst 0, 1) := by decide +kernel
theorem dX10_comes_240 : decode cX10_comes 240 = .ok (.ireturn, 1) := by decide +kernel
theorem dX10_comes_241 : decode cX10_comes 241 = .ok (.iconst 0, 1) := by decide +kernel
theorem dX10_comes_242 : decode cX10_comes 242 = .ok (.istore 5, 2) := by decide +kernel
theorem dX10_comes_244 : decode cX10_comes 244 = .ok (.iload 5, 2) := by decide +kernel
theorem dX10_comes_246 : decode cX10_comes 246 = .ok (.bipush 6, 2) := by decide +kernel
theorem dX10_comes_248 : decode cX10_comes 248 = .ok (.if_icmp .ge 36, 3) := by decide +kernel
theorem dX10_comes_251 : decode cX10_comes 251 = .ok (.aload_n 0, 1) := by decide +kernel
theorem dX10_comes_252 : decode cX10_comes 252 = .ok (.getfield 19, 3) := by decide +kernel
theorem dX10_comes_255 : decode cX10_comes 255 = .ok (.bipush 63, 2) := by decide +kernel
theorem dX10_comes_257 : decode cX10_comes 257 = .ok (.bipush 6, 2) := by decide +kernel
theorem dX10_comes_259 : decode cX10_comes 259 = .ok (.aload_n 0, 1) := by decide +kernel
theorem dX10_comes_260 : decode cX10_comes 260 = .ok (.getfield 19, 3) := by decide +kernel
theorem dX10_comes_263 : decode cX10_comes 263 = .ok (.iconst 2, 1) := by decide +kernel
theorem dX10_comes_264 : decode cX10_comes 264 = .ok (.iaload, 1) := by decide +kernel
theorem dX10_comes_265 : decode cX10_comes 265 = .ok (.imul, 1) := by decide +kernel
theorem dX10_comes_266 : decode cX10_comes 266 = .ok (.iadd, 1) := by decide +kernel
theorem dX10_comes_267 : decode cX10_comes 267 = .ok (.iload 5, 2) := by decide +kernel
theorem dX10_comes_269 : decode cX10_comes 269 = .ok (.iadd, 1) := by decide +kernel
theorem dX10_comes_270 : decode cX10_comes 270 = .ok (.aload_n 0, 1) := by decide +kernel
theorem dX10_comes_271 : decode cX10_comes 271 = .ok (.getfield 25, 3) := by decide +kernel
theorem dX10_comes_274 : decode cX10_comes 274 = .ok (.iload 5, 2) := by decide +kernel
theorem dX10_comes_276 : decode cX10_comes 276 = .ok (.iaload, 1) := by decide +kernel
theorem dX10_comes_277 : decode cX10_comes 277 = .ok (.iastore, 1) := by decide +kernel
theorem dX10_comes_278 : decode cX10_comes 278 = .ok (.iinc 5 1, 3) := by decide +kernel
theorem dX10_comes_281 : decode cX10_comes 281 = .ok (.goto (-37), 3) := by decide +kernel
theorem dX10_comes_284 : decode cX10_comes 284 = .ok (.aload_n 0, 1) := by decide +kernel
theorem dX10_comes_285 : decode cX10_comes 285 = .ok (.getfield 19, 3) := by decide +kernel
theorem dX10_comes_288 : decode cX10_comes 288 = .ok (.iconst 2, 1) := by decide +kernel
theorem dX10_comes_289 : decode cX10_comes 289 = .ok (.dup2, 1) := by decide +kernel
theorem dX10_comes_290 : decode cX10_comes 290 = .ok (.iaload, 1) := by decide +kernel
theorem dX10_comes_291 : decode cX10_comes 291 = .ok (.iconst 1, 1) := by decide +kernel
theorem dX10_comes_292 : decode cX10_comes 292 = .ok (.iadd, 1) := by decide +kernel
theorem dX10_comes_293 : decode cX10_comes 293 = .ok (.iastore, 1) := by decide +kernel
theorem dX10_comes_294 : decode cX10_comes 294 = .ok (.iconst 1, 1) := by decide +kernel
theorem dX10_comes_295 : decode cX10_comes 295 = .ok (.ireturn, 1) := by decide +kernel
theorem dX10_reads_0 : decode cX10_reads 0 = .ok (.aload_n 0, 1) := by decide +kernel
theorem dX10_reads_1 : decode cX10_reads 1 = .ok (.iconst 0, 1) := by decide +kernel
theorem dX10_reads_2 : decode cX10_reads 2 = .ok (.putfield 66, 3) := by decide +kernel
theorem dX10_reads_5 : decode cX10_reads 5 = .ok (.iconst 0, 1) := by decide +kernel
theorem dX10_reads_6 : decode cX10_reads 6 = .ok (.istore_n 1, 1) := by decide +kernel
theorem dX10_reads_7 : decode cX10_reads 7 = .ok (.aload_n 0, 1) := by decide +kernel
theorem dX10_reads_8 : decode cX10_reads 8 = .ok (.invokevirtual 94, 3) := by decide +kernel
theorem dX10_reads_11 : decode cX10_reads 11 = .ok (.ifCond .ne 12, 3) := by decide +kernel
theorem dX10_reads_14 : decode cX10_reads 14 = .ok (.sipush (-1000), 3) := by decide +kernel
theorem dX10_reads_17 : decode cX10_reads 17 = .ok (.aload_n 0, 1) := by decide +kernel
theorem dX10_reads_18 : decode cX10_reads 18 = .ok (.getfield 66, 3) := by decide +kernel
theorem dX10_reads_21 : decode cX10_reads 21 = .ok (.isub, 1) := by decide +kernel
theorem dX10_reads_22 : decode cX10_reads 22 = .ok (.ireturn, 1) := by decide +kernel
theorem dX10_reads_23 : decode cX10_reads 23 = .ok (.iinc 1 1, 3) := by decide +kernel
theorem dX10_reads_26 : decode cX10_reads 26 = .ok (.aload_n 0, 1) := by decide +kernel
theorem dX10_reads_27 : decode cX10_reads 27 = .ok (.getfield 66, 3) := by decide +kernel
theorem dX10_reads_30 : decode cX10_reads 30 = .ok (.aload_n 0, 1) := by decide +kernel
theorem dX10_reads_31 : decode cX10_reads 31 = .ok (.getfield 58, 3) := by decide +kernel
theorem dX10_reads_34 : decode cX10_reads 34 = .ok (.if_icmp .lt (-27), 3) := by decide +kernel
theorem dX10_reads_37 : decode cX10_reads 37 = .ok (.iconst 0, 1) := by decide +kernel
theorem dX10_reads_38 : decode cX10_reads 38 = .ok (.istore_n 2, 1) := by decide +kernel
theorem dX10_reads_39 : decode cX10_reads 39 = .ok (.iload_n 2, 1) := by decide +kernel
theorem dX10_reads_40 : decode cX10_reads 40 = .ok (.sipush 267, 3) := by decide +kernel
theorem dX10_reads_43 : decode cX10_reads 43 = .ok (.if_icmp .ge 21, 3) := by decide +kernel
theorem dX10_reads_46 : decode cX10_reads 46 = .ok (.aload_n 0, 1) := by decide +kernel
theorem dX10_reads_47 : decode cX10_reads 47 = .ok (.getfield 19, 3) := by decide +kernel
theorem dX10_reads_50 : decode cX10_reads 50 = .ok (.iload_n 2, 1) := by decide +kernel
theorem dX10_reads_51 : decode cX10_reads 51 = .ok (.aload_n 0, 1) := by decide +kernel
theorem dX10_reads_52 : decode cX10_reads 52 = .ok (.getfield 13, 3) := by decide +kernel
theorem dX10_reads_55 : decode cX10_reads 55 = .ok (.iload_n 2, 1) := by decide +kernel
theorem dX10_reads_56 : decode cX10_reads 56 = .ok (.iaload, 1) := by decide +kernel
theorem dX10_reads_57 : decode cX10_reads 57 = .ok (.iastore, 1) := by decide +kernel
theorem dX10_reads_58 : decode cX10_reads 58 = .ok (.iinc 2 1, 3) := by decide +kernel
theorem dX10_reads_61 : decode cX10_reads 61 = .ok (.goto (-22), 3) := by decide +kernel
theorem dX10_reads_64 : decode cX10_reads 64 = .ok (.aload_n 0, 1) := by decide +kernel
theorem dX10_reads_65 : decode cX10_reads 65 = .ok (.iconst 0, 1) := by decide +kernel
theorem dX10_reads_66 : decode cX10_reads 66 = .ok (.putfield 66, 3) := by decide +kernel
theorem dX10_reads_69 : decode cX10_reads 69 = .ok (.aload_n 0, 1) := by decide +kernel
theorem dX10_reads_70 : decode cX10_reads 70 = .ok (.getfield 66, 3) := by decide +kernel
theorem dX10_reads_73 : decode cX10_reads 73 = .ok (.aload_n 0, 1) := by decide +kernel
theorem dX10_reads_74 : decode cX10_reads 74 = .ok (.getfield 58, 3) := by decide +kernel
theorem dX10_reads_77 : decode cX10_reads 77 = .ok (.if_icmp .ge 36, 3) := by decide +kernel
theorem dX10_reads_80 : decode cX10_reads 80 = .ok (.aload_n 0, 1) := by decide +kernel
theorem dX10_reads_81 : decode cX10_reads 81 = .ok (.getfield 66, 3) := by decide +kernel
theorem dX10_reads_84 : decode cX10_reads 84 = .ok (.istore_n 2, 1) := by decide +kernel
theorem dX10_reads_85 : decode cX10_reads 85 = .ok (.aload_n 0, 1) := by decide +kernel
theorem dX10_reads_86 : decode cX10_reads 86 = .ok (.invokevirtual 69, 3) := by decide +kernel
theorem dX10_reads_89 : decode cX10_reads 89 = .ok (.istore_n 3, 1) := by decide +kernel
theorem dX10_reads_90 : decode cX10_reads 90 = .ok (.aload_n 0, 1) := by decide +kernel
theorem dX10_reads_91 : decode cX10_reads 91 = .ok (.invokevirtual 94, 3) := by decide +kernel
theorem dX10_reads_94 : decode cX10_reads 94 = .ok (.istore 4, 2) := by decide +kernel
theorem dX10_reads_96 : decode cX10_reads 96 = .ok (.aload_n 0, 1) := by decide +kernel
theorem dX10_reads_97 : decode cX10_reads 97 = .ok (.iload_n 3, 1) := by decide +kernel
theorem dX10_reads_98 : decode cX10_reads 98 = .ok (.invokevirtual 97, 3) := by decide +kernel
theorem dX10_reads_101 : decode cX10_reads 101 = .ok (.ifCond .ne 9, 3) := by decide +kernel
theorem dX10_reads_104 : decode cX10_reads 104 = .ok (.sipush (-2000), 3) := by decide +kernel
theorem dX10_reads_107 : decode cX10_reads 107 = .ok (.iload_n 2, 1) := by decide +kernel
theorem dX10_reads_108 : decode cX10_reads 108 = .ok (.isub, 1) := by decide +kernel
theorem dX10_reads_109 : decode cX10_reads 109 = .ok (.ireturn, 1) := by decide +kernel
theorem dX10_reads_110 : decode cX10_reads 110 = .ok (.goto (-41), 3) := by decide +kernel
theorem dX10_reads_113 : decode cX10_reads 113 = .ok (.iconst 0, 1) := by decide +kernel
theorem dX10_reads_114 : decode cX10_reads 114 = .ok (.istore_n 2, 1) := by decide +kernel
theorem dX10_reads_115 : decode cX10_reads 115 = .ok (.iload_n 2, 1) := by decide +kernel
theorem dX10_reads_116 : decode cX10_reads 116 = .ok (.sipush 267, 3) := by decide +kernel
theorem dX10_reads_119 : decode cX10_reads 119 = .ok (.if_icmp .ge 21, 3) := by decide +kernel
theorem dX10_reads_122 : decode cX10_reads 122 = .ok (.aload_n 0, 1) := by decide +kernel
theorem dX10_reads_123 : decode cX10_reads 123 = .ok (.getfield 13, 3) := by decide +kernel
theorem dX10_reads_126 : decode cX10_reads 126 = .ok (.iload_n 2, 1) := by decide +kernel
theorem dX10_reads_127 : decode cX10_reads 127 = .ok (.aload_n 0, 1) := by decide +kernel
theorem dX10_reads_128 : decode cX10_reads 128 = .ok (.getfield 19, 3) := by decide +kernel
theorem dX10_reads_131 : decode cX10_reads 131 = .ok (.iload_n 2, 1) := by decide +kernel
theorem dX10_reads_132 : decode cX10_reads 132 = .ok (.iaload, 1) := by decide +kernel
theorem dX10_reads_133 : decode cX10_reads 133 = .ok (.iastore, 1) := by decide +kernel
theorem dX10_reads_134 : decode cX10_reads 134 = .ok (.iinc 2 1, 3) := by decide +kernel
theorem dX10_reads_137 : decode cX10_reads 137 = .ok (.goto (-22), 3) := by decide +kernel
theorem dX10_reads_140 : decode cX10_reads 140 = .ok (.iload_n 1, 1) := by decide +kernel
theorem dX10_reads_141 : decode cX10_reads 141 = .ok (.ireturn, 1) := by decide +kernel
theorem dX10_village_0 : decode cX10_village 0 = .ok (.aload_n 0, 1) := by decide +kernel
theorem dX10_village_1 : decode cX10_village 1 = .ok (.invokevirtual 100, 3) := by decide +kernel
theorem dX10_village_4 : decode cX10_village 4 = .ok (.istore_n 1, 1) := by decide +kernel
theorem dX10_village_5 : decode cX10_village 5 = .ok (.aload_n 0, 1) := by decide +kernel
theorem dX10_village_6 : decode cX10_village 6 = .ok (.iconst 0, 1) := by decide +kernel
theorem dX10_village_7 : decode cX10_village 7 = .ok (.putfield 58, 3) := by decide +kernel
theorem dX10_village_10 : decode cX10_village 10 = .ok (.iload_n 1, 1) := by decide +kernel
theorem dX10_village_11 : decode cX10_village 11 = .ok (.ireturn, 1) := by decide +kernel
theorem dX10_leftOf_0 : decode cX10_leftOf 0 = .ok (.iconst 0, 1) := by decide +kernel
theorem dX10_leftOf_1 : decode cX10_leftOf 1 = .ok (.istore_n 2, 1) := by decide +kernel
theorem dX10_leftOf_2 : decode cX10_leftOf 2 = .ok (.iconst 0, 1) := by decide +kernel
theorem dX10_leftOf_3 : decode cX10_leftOf 3 = .ok (.istore_n 3, 1) := by decide +kernel
theorem dX10_leftOf_4 : decode cX10_leftOf 4 = .ok (.iload_n 3, 1) := by decide +kernel
theorem dX10_leftOf_5 : decode cX10_leftOf 5 = .ok (.bipush 24, 2) := by decide +kernel
theorem dX10_leftOf_7 : decode cX10_leftOf 7 = .ok (.if_icmp .ge 34, 3) := by decide +kernel
theorem dX10_leftOf_10 : decode cX10_leftOf 10 = .ok (.iload_n 2, 1) := by decide +kernel
theorem dX10_leftOf_11 : decode cX10_leftOf 11 = .ok (.aload_n 0, 1) := by decide +kernel
theorem dX10_leftOf_12 : decode cX10_leftOf 12 = .ok (.iload_n 3, 1) := by decide +kernel
theorem dX10_leftOf_13 : decode cX10_leftOf 13 = .ok (.iconst 0, 1) := by decide +kernel
theorem dX10_leftOf_14 : decode cX10_leftOf 14 = .ok (.invokevirtual 50, 3) := by decide +kernel
theorem dX10_leftOf_17 : decode cX10_leftOf 17 = .ok (.iload_n 1, 1) := by decide +kernel
theorem dX10_leftOf_18 : decode cX10_leftOf 18 = .ok (.iconst 1, 1) := by decide +kernel
theorem dX10_leftOf_19 : decode cX10_leftOf 19 = .ok (.iadd, 1) := by decide +kernel
theorem dX10_leftOf_20 : decode cX10_leftOf 20 = .ok (.if_icmp .ne 12, 3) := by decide +kernel
theorem dX10_leftOf_23 : decode cX10_leftOf 23 = .ok (.aload_n 0, 1) := by decide +kernel
theorem dX10_leftOf_24 : decode cX10_leftOf 24 = .ok (.iload_n 3, 1) := by decide +kernel
theorem dX10_leftOf_25 : decode cX10_leftOf 25 = .ok (.iconst 1, 1) := by decide +kernel
theorem dX10_leftOf_26 : decode cX10_leftOf 26 = .ok (.invokevirtual 50, 3) := by decide +kernel
theorem dX10_leftOf_29 : decode cX10_leftOf 29 = .ok (.goto 4, 3) := by decide +kernel
theorem dX10_leftOf_32 : decode cX10_leftOf 32 = .ok (.iconst 0, 1) := by decide +kernel
theorem dX10_leftOf_33 : decode cX10_leftOf 33 = .ok (.iadd, 1) := by decide +kernel
theorem dX10_leftOf_34 : decode cX10_leftOf 34 = .ok (.istore_n 2, 1) := by decide +kernel
theorem dX10_leftOf_35 : decode cX10_leftOf 35 = .ok (.iinc 3 1, 3) := by decide +kernel
theorem dX10_leftOf_38 : decode cX10_leftOf 38 = .ok (.goto (-34), 3) := by decide +kernel
theorem dX10_leftOf_41 : decode cX10_leftOf 41 = .ok (.iload_n 2, 1) := by decide +kernel
theorem dX10_leftOf_42 : decode cX10_leftOf 42 = .ok (.ireturn, 1) := by decide +kernel
theorem dX10_partsOf_0 : decode cX10_partsOf 0 = .ok (.iconst 0, 1) := by decide +kernel
theorem dX10_partsOf_1 : decode cX10_partsOf 1 = .ok (.istore_n 2, 1) := by decide +kernel
theorem dX10_partsOf_2 : decode cX10_partsOf 2 = .ok (.iconst 0, 1) := by decide +kernel
theorem dX10_partsOf_3 : decode cX10_partsOf 3 = .ok (.istore_n 3, 1) := by decide +kernel
theorem dX10_partsOf_4 : decode cX10_partsOf 4 = .ok (.iload_n 3, 1) := by decide +kernel
theorem dX10_partsOf_5 : decode cX10_partsOf 5 = .ok (.bipush 24, 2) := by decide +kernel
theorem dX10_partsOf_7 : decode cX10_partsOf 7 = .ok (.if_icmp .ge 29, 3) := by decide +kernel
theorem dX10_partsOf_10 : decode cX10_partsOf 10 = .ok (.iload_n 2, 1) := by decide +kernel
theorem dX10_partsOf_11 : decode cX10_partsOf 11 = .ok (.aload_n 0, 1) := by decide +kernel
theorem dX10_partsOf_12 : decode cX10_partsOf 12 = .ok (.iload_n 3, 1) := by decide +kernel
theorem dX10_partsOf_13 : decode cX10_partsOf 13 = .ok (.iconst 0, 1) := by decide +kernel
theorem dX10_partsOf_14 : decode cX10_partsOf 14 = .ok (.invokevirtual 50, 3) := by decide +kernel
theorem dX10_partsOf_17 : decode cX10_partsOf 17 = .ok (.iload_n 1, 1) := by decide +kernel
theorem dX10_partsOf_18 : decode cX10_partsOf 18 = .ok (.iconst 1, 1) := by decide +kernel
theorem dX10_partsOf_19 : decode cX10_partsOf 19 = .ok (.iadd, 1) := by decide +kernel
theorem dX10_partsOf_20 : decode cX10_partsOf 20 = .ok (.if_icmp .ne 7, 3) := by decide +kernel
theorem dX10_partsOf_23 : decode cX10_partsOf 23 = .ok (.iconst 1, 1) := by decide +kernel
theorem dX10_partsOf_24 : decode cX10_partsOf 24 = .ok (.goto 4, 3) := by decide +kernel
theorem dX10_partsOf_27 : decode cX10_partsOf 27 = .ok (.iconst 0, 1) := by decide +kernel
theorem dX10_partsOf_28 : decode cX10_partsOf 28 = .ok (.iadd, 1) := by decide +kernel
theorem dX10_partsOf_29 : decode cX10_partsOf 29 = .ok (.istore_n 2, 1) := by decide +kernel
theorem dX10_partsOf_30 : decode cX10_partsOf 30 = .ok (.iinc 3 1, 3) := by decide +kernel
theorem dX10_partsOf_33 : decode cX10_partsOf 33 = .ok (.goto (-29), 3) := by decide +kernel
theorem dX10_partsOf_36 : decode cX10_partsOf 36 = .ok (.iload_n 2, 1) := by decide +kernel
theorem dX10_partsOf_37 : decode cX10_partsOf 37 = .ok (.ireturn, 1) := by decide +kernel
theorem dX10_person_0 : decode cX10_person 0 = .ok (.aload_n 0, 1) := by decide +kernel
theorem dX10_person_1 : decode cX10_person 1 = .ok (.iload_n 1, 1) := by decide +kernel
theorem dX10_person_2 : decode cX10_person 2 = .ok (.invokevirtual 103, 3) := by decide +kernel
theorem dX10_person_5 : decode cX10_person 5 = .ok (.ifCond .ne 11, 3) := by decide +kernel
theorem dX10_person_8 : decode cX10_person 8 = .ok (.aload_n 0, 1) := by decide +kernel
theorem dX10_person_9 : decode cX10_person 9 = .ok (.iconst (-1), 1) := by decide +kernel
theorem dX10_person_10 : decode cX10_person 10 = .ok (.invokevirtual 62, 3) := by decide +kernel
theorem dX10_person_13 : decode cX10_person 13 = .ok (.goto 52, 3) := by decide +kernel
theorem dX10_person_16 : decode cX10_person 16 = .ok (.iload_n 2, 1) := by decide +kernel
theorem dX10_person_17 : decode cX10_person 17 = .ok (.iconst 4, 1) := by decide +kernel
theorem dX10_person_18 : decode cX10_person 18 = .ok (.invokestatic 46, 3) := by decide +kernel
theorem dX10_person_21 : decode cX10_person 21 = .ok (.ifCond .eq 12, 3) := by decide +kernel
theorem dX10_person_24 : decode cX10_person 24 = .ok (.aload_n 0, 1) := by decide +kernel
theorem dX10_person_25 : decode cX10_person 25 = .ok (.iload_n 1, 1) := by decide +kernel
theorem dX10_person_26 : decode cX10_person 26 = .ok (.iload_n 2, 1) := by decide +kernel
theorem dX10_person_27 : decode cX10_person 27 = .ok (.invokevirtual 106, 3) := by decide +kernel
theorem dX10_person_30 : decode cX10_person 30 = .ok (.goto 35, 3) := by decide +kernel
theorem dX10_person_33 : decode cX10_person 33 = .ok (.iload_n 2, 1) := by decide +kernel
theorem dX10_person_34 : decode cX10_person 34 = .ok (.iconst 4, 1) := by decide +kernel
theorem dX10_person_35 : decode cX10_person 35 = .ok (.if_icmp .ne 11, 3) := by decide +kernel
theorem dX10_person_38 : decode cX10_person 38 = .ok (.aload_n 0, 1) := by decide +kernel
theorem dX10_person_39 : decode cX10_person 39 = .ok (.iload_n 1, 1) := by decide +kernel
theorem dX10_person_40 : decode cX10_person 40 = .ok (.invokevirtual 109, 3) := by decide +kernel
theorem dX10_person_43 : decode cX10_person 43 = .ok (.goto 22, 3) := by decide +kernel
theorem dX10_person_46 : decode cX10_person 46 = .ok (.iload_n 2, 1) := by decide +kernel
theorem dX10_person_47 : decode cX10_person 47 = .ok (.iconst 5, 1) := by decide +kernel
theorem dX10_person_48 : decode cX10_person 48 = .ok (.if_icmp .ne 11, 3) := by decide +kernel
theorem dX10_person_51 : decode cX10_person 51 = .ok (.aload_n 0, 1) := by decide +kernel
theorem dX10_person_52 : decode cX10_person 52 = .ok (.iload_n 1, 1) := by decide +kernel
theorem dX10_person_53 : decode cX10_person 53 = .ok (.invokevirtual 112, 3) := by decide +kernel
theorem dX10_person_56 : decode cX10_person 56 = .ok (.goto 9, 3) := by decide +kernel
theorem dX10_person_59 : decode cX10_person 59 = .ok (.aload_n 0, 1) := by decide +kernel
theorem dX10_person_60 : decode cX10_person 60 = .ok (.bipush (-2), 2) := by decide +kernel
theorem dX10_person_62 : decode cX10_person 62 = .ok (.invokevirtual 62, 3) := by decide +kernel
theorem dX10_person_65 : decode cX10_person 65 = .ok (.ireturn, 1) := by decide +kernel
theorem dX10_work_0 : decode cX10_work 0 = .ok (.aload_n 0, 1) := by decide +kernel
theorem dX10_work_1 : decode cX10_work 1 = .ok (.iload_n 1, 1) := by decide +kernel
theorem dX10_work_2 : decode cX10_work 2 = .ok (.invokevirtual 115, 3) := by decide +kernel
theorem dX10_work_5 : decode cX10_work 5 = .ok (.ifCond .ne 11, 3) := by decide +kernel
theorem dX10_work_8 : decode cX10_work 8 = .ok (.aload_n 0, 1) := by decide +kernel
theorem dX10_work_9 : decode cX10_work 9 = .ok (.iconst (-1), 1) := by decide +kernel
theorem dX10_work_10 : decode cX10_work 10 = .ok (.invokevirtual 62, 3) := by decide +kernel
theorem dX10_work_13 : decode cX10_work 13 = .ok (.goto 27, 3) := by decide +kernel
theorem dX10_work_16 : decode cX10_work 16 = .ok (.iload_n 2, 1) := by decide +kernel
theorem dX10_work_17 : decode cX10_work 17 = .ok (.bipush 6, 2) := by decide +kernel
theorem dX10_work_19 : decode cX10_work 19 = .ok (.invokestatic 46, 3) := by decide +kernel
theorem dX10_work_22 : decode cX10_work 22 = .ok (.ifCond .eq 12, 3) := by decide +kernel
theorem dX10_work_25 : decode cX10_work 25 = .ok (.aload_n 0, 1) := by decide +kernel
theorem dX10_work_26 : decode cX10_work 26 = .ok (.iload_n 1, 1) := by decide +kernel
theorem dX10_work_27 : decode cX10_work 27 = .ok (.iload_n 2, 1) := by decide +kernel
theorem dX10_work_28 : decode cX10_work 28 = .ok (.invokevirtual 118, 3) := by decide +kernel
theorem dX10_work_31 : decode cX10_work 31 = .ok (.goto 9, 3) := by decide +kernel
theorem dX10_work_34 : decode cX10_work 34 = .ok (.aload_n 0, 1) := by decide +kernel
theorem dX10_work_35 : decode cX10_work 35 = .ok (.bipush (-2), 2) := by decide +kernel
theorem dX10_work_37 : decode cX10_work 37 = .ok (.invokevirtual 62, 3) := by decide +kernel
theorem dX10_work_40 : decode cX10_work 40 = .ok (.ireturn, 1) := by decide +kernel
theorem dX10_findsFar_0 : decode cX10_findsFar 0 = .ok (.iconst 0, 1) := by decide +kernel
theorem dX10_findsFar_1 : decode cX10_findsFar 1 = .ok (.istore_n 1, 1) := by decide +kernel
theorem dX10_findsFar_2 : decode cX10_findsFar 2 = .ok (.iload_n 1, 1) := by decide +kernel
theorem dX10_findsFar_3 : decode cX10_findsFar 3 = .ok (.bipush 6, 2) := by decide +kernel
theorem dX10_findsFar_5 : decode cX10_findsFar 5 = .ok (.if_icmp .ge 67, 3) := by decide +kernel
theorem dX10_findsFar_8 : decode cX10_findsFar 8 = .ok (.iconst 0, 1) := by decide +kernel
theorem dX10_findsFar_9 : decode cX10_findsFar 9 = .ok (.istore_n 2, 1) := by decide +kernel
theorem dX10_findsFar_10 : decode cX10_findsFar 10 = .ok (.iload_n 2, 1) := by decide +kernel
theorem dX10_findsFar_11 : decode cX10_findsFar 11 = .ok (.bipush 6, 2) := by decide +kernel
theorem dX10_findsFar_13 : decode cX10_findsFar 13 = .ok (.if_icmp .ge 53, 3) := by decide +kernel
theorem dX10_findsFar_16 : decode cX10_findsFar 16 = .ok (.aload_n 0, 1) := by decide +kernel
theorem dX10_findsFar_17 : decode cX10_findsFar 17 = .ok (.getfield 13, 3) := by decide +kernel
theorem dX10_findsFar_20 : decode cX10_findsFar 20 = .ok (.iconst 3, 1) := by decide +kernel
theorem dX10_findsFar_21 : decode cX10_findsFar 21 = .ok (.bipush 6, 2) := by decide +kernel
theorem dX10_findsFar_23 : decode cX10_findsFar 23 = .ok (.iload_n 1, 1) := by decide +kernel
theorem dX10_findsFar_24 : decode cX10_findsFar 24 = .ok (.imul, 1) := by decide +kernel
theorem dX10_findsFar_25 : decode cX10_findsFar 25 = .ok (.iadd, 1) := by decide +kernel
theorem dX10_findsFar_26 : decode cX10_findsFar 26 = .ok (.iload_n 2, 1) := by decide +kernel
theorem dX10_findsFar_27 : decode cX10_findsFar 27 = .ok (.iadd, 1) := by decide +kernel
theorem dX10_findsFar_28 : decode cX10_findsFar 28 = .ok (.iaload, 1) := by decide +kernel
theorem dX10_findsFar_29 : decode cX10_findsFar 29 = .ok (.istore_n 3, 1) := by decide +kernel
theorem dX10_findsFar_30 : decode cX10_findsFar 30 = .ok (.aload_n 0, 1) := by decide +kernel
theorem dX10_findsFar_31 : decode cX10_findsFar 31 = .ok (.getfield 28, 3) := by decide +kernel
theorem dX10_findsFar_34 : decode cX10_findsFar 34 = .ok (.bipush 6, 2) := by decide +kernel
theorem dX10_findsFar_36 : decode cX10_findsFar 36 = .ok (.iload_n 1, 1) := by decide +kernel
theorem dX10_findsFar_37 : decode cX10_findsFar 37 = .ok (.imul, 1) := by decide +kernel
theorem dX10_findsFar_38 : decode cX10_findsFar 38 = .ok (.iload_n 2, 1) := by decide +kernel
theorem dX10_findsFar_39 : decode cX10_findsFar 39 = .ok (.iadd, 1) := by decide +kernel
theorem dX10_findsFar_40 : decode cX10_findsFar 40 = .ok (.iload_n 1, 1) := by decide +kernel
theorem dX10_findsFar_41 : decode cX10_findsFar 41 = .ok (.iload_n 2, 1) := by decide +kernel
theorem dX10_findsFar_42 : decode cX10_findsFar 42 = .ok (.if_icmp .ne 7, 3) := by decide +kernel
theorem dX10_findsFar_45 : decode cX10_findsFar 45 = .ok (.iconst 0, 1) := by decide +kernel
theorem dX10_findsFar_46 : decode cX10_findsFar 46 = .ok (.goto 13, 3) := by decide +kernel
theorem dX10_findsFar_49 : decode cX10_findsFar 49 = .ok (.iload_n 3, 1) := by decide +kernel
theorem dX10_findsFar_50 : decode cX10_findsFar 50 = .ok (.ifCond .le 7, 3) := by decide +kernel
theorem dX10_findsFar_53 : decode cX10_findsFar 53 = .ok (.iload_n 3, 1) := by decide +kernel
theorem dX10_findsFar_54 : decode cX10_findsFar 54 = .ok (.goto 5, 3) := by decide +kernel
theorem dX10_findsFar_57 : decode cX10_findsFar 57 = .ok (.ldc 121, 2) := by decide +kernel
theorem dX10_findsFar_59 : decode cX10_findsFar 59 = .ok (.iastore, 1) := by decide +kernel
theorem dX10_findsFar_60 : decode cX10_findsFar 60 = .ok (.iinc 2 1, 3) := by decide +kernel
theorem dX10_findsFar_63 : decode cX10_findsFar 63 = .ok (.goto (-53), 3) := by decide +kernel
theorem dX10_findsFar_66 : decode cX10_findsFar 66 = .ok (.iinc 1 1, 3) := by decide +kernel
theorem dX10_findsFar_69 : decode cX10_findsFar 69 = .ok (.goto (-67), 3) := by decide +kernel
theorem dX10_findsFar_72 : decode cX10_findsFar 72 = .ok (.iconst 0, 1) := by decide +kernel
theorem dX10_findsFar_73 : decode cX10_findsFar 73 = .ok (.istore_n 1, 1) := by decide +kernel
theorem dX10_findsFar_74 : decode cX10_findsFar 74 = .ok (.iload_n 1, 1) := by decide +kernel
theorem dX10_findsFar_75 : decode cX10_findsFar 75 = .ok (.bipush 6, 2) := by decide +kernel
theorem dX10_findsFar_77 : decode cX10_findsFar 77 = .ok (.if_icmp .ge 105, 3) := by decide +kernel
theorem dX10_findsFar_80 : decode cX10_findsFar 80 = .ok (.iconst 0, 1) := by decide +kernel
theorem dX10_findsFar_81 : decode cX10_findsFar 81 = .ok (.istore_n 2, 1) := by decide +kernel
theorem dX10_findsFar_82 : decode cX10_findsFar 82 = .ok (.iload_n 2, 1) := by decide +kernel
theorem dX10_findsFar_83 : decode cX10_findsFar 83 = .ok (.bipush 6, 2) := by decide +kernel
theorem dX10_findsFar_85 : decode cX10_findsFar 85 = .ok (.if_icmp .ge 91, 3) := by decide +kernel
theorem dX10_findsFar_88 : decode cX10_findsFar 88 = .ok (.iconst 0, 1) := by decide +kernel
theorem dX10_findsFar_89 : decode cX10_findsFar 89 = .ok (.istore_n 3, 1) := by decide +kernel
theorem dX10_findsFar_90 : decode cX10_findsFar 90 = .ok (.iload_n 3, 1) := by decide +kernel
theorem dX10_findsFar_91 : decode cX10_findsFar 91 = .ok (.bipush 6, 2) := by decide +kernel
theorem dX10_findsFar_93 : decode cX10_findsFar 93 = .ok (.if_icmp .ge 77, 3) := by decide +kernel
theorem dX10_findsFar_96 : decode cX10_findsFar 96 = .ok (.aload_n 0, 1) := by decide +kernel
theorem dX10_findsFar_97 : decode cX10_findsFar 97 = .ok (.getfield 28, 3) := by decide +kernel
theorem dX10_findsFar_100 : decode cX10_findsFar 100 = .ok (.bipush 6, 2) := by decide +kernel
theorem dX10_findsFar_102 : decode cX10_findsFar 102 = .ok (.iload_n 2, 1) := by decide +kernel
theorem dX10_findsFar_103 : decode cX10_findsFar 103 = .ok (.imul, 1) := by decide +kernel
theorem dX10_findsFar_104 : decode cX10_findsFar 104 = .ok (.iload_n 1, 1) := by decide +kernel
theorem dX10_findsFar_105 : decode cX10_findsFar 105 = .ok (.iadd, 1) := by decide +kernel
theorem dX10_findsFar_106 : decode cX10_findsFar 106 = .ok (.iaload, 1) := by decide +kernel
theorem dX10_findsFar_107 : decode cX10_findsFar 107 = .ok (.aload_n 0, 1) := by decide +kernel
theorem dX10_findsFar_108 : decode cX10_findsFar 108 = .ok (.getfield 28, 3) := by decide +kernel
theorem dX10_findsFar_111 : decode cX10_findsFar 111 = .ok (.bipush 6, 2) := by decide +kernel
theorem dX10_findsFar_113 : decode cX10_findsFar 113 = .ok (.iload_n 1, 1) := by decide +kernel
theorem dX10_findsFar_114 : decode cX10_findsFar 114 = .ok (.imul, 1) := by decide +kernel
theorem dX10_findsFar_115 : decode cX10_findsFar 115 = .ok (.iload_n 3, 1) := by decide +kernel
theorem dX10_findsFar_116 : decode cX10_findsFar 116 = .ok (.iadd, 1) := by decide +kernel
theorem dX10_findsFar_117 : decode cX10_findsFar 117 = .ok (.iaload, 1) := by decide +kernel
theorem dX10_findsFar_118 : decode cX10_findsFar 118 = .ok (.iadd, 1) := by decide +kernel
theorem dX10_findsFar_119 : decode cX10_findsFar 119 = .ok (.istore 4, 2) := by decide +kernel
theorem dX10_findsFar_121 : decode cX10_findsFar 121 = .ok (.aload_n 0, 1) := by decide +kernel
theorem dX10_findsFar_122 : decode cX10_findsFar 122 = .ok (.getfield 28, 3) := by decide +kernel
theorem dX10_findsFar_125 : decode cX10_findsFar 125 = .ok (.bipush 6, 2) := by decide +kernel
theorem dX10_findsFar_127 : decode cX10_findsFar 127 = .ok (.iload_n 2, 1) := by decide +kernel
theorem dX10_findsFar_128 : decode cX10_findsFar 128 = .ok (.imul, 1) := by decide +kernel
theorem dX10_findsFar_129 : decode cX10_findsFar 129 = .ok (.iload_n 3, 1) := by decide +kernel
theorem dX10_findsFar_130 : decode cX10_findsFar 130 = .ok (.iadd, 1) := by decide +kernel
theorem dX10_findsFar_131 : decode cX10_findsFar 131 = .ok (.iload 4, 2) := by decide +kernel
theorem dX10_findsFar_133 : decode cX10_findsFar 133 = .ok (.aload_n 0, 1) := by decide +kernel
theorem dX10_findsFar_134 : decode cX10_findsFar 134 = .ok (.getfield 28, 3) := by decide +kernel
theorem dX10_findsFar_137 : decode cX10_findsFar 137 = .ok (.bipush 6, 2) := by decide +kernel
theorem dX10_findsFar_139 : decode cX10_findsFar 139 = .ok (.iload_n 2, 1) := by decide +kernel
theorem dX10_findsFar_140 : decode cX10_findsFar 140 = .ok (.imul, 1) := by decide +kernel
theorem dX10_findsFar_141 : decode cX10_findsFar 141 = .ok (.iload_n 3, 1) := by decide +kernel
theorem dX10_findsFar_142 : decode cX10_findsFar 142 = .ok (.iadd, 1) := by decide +kernel
theorem dX10_findsFar_143 : decode cX10_findsFar 143 = .ok (.iaload, 1) := by decide +kernel
theorem dX10_findsFar_144 : decode cX10_findsFar 144 = .ok (.if_icmp .ge 8, 3) := by decide +kernel
theorem dX10_findsFar_147 : decode cX10_findsFar 147 = .ok (.iload 4, 2) := by decide +kernel
theorem dX10_findsFar_149 : decode cX10_findsFar 149 = .ok (.goto 14, 3) := by decide +kernel
theorem dX10_findsFar_152 : decode cX10_findsFar 152 = .ok (.aload_n 0, 1) := by decide +kernel
theorem dX10_findsFar_153 : decode cX10_findsFar 153 = .ok (.getfield 28, 3) := by decide +kernel
theorem dX10_findsFar_156 : decode cX10_findsFar 156 = .ok (.bipush 6, 2) := by decide +kernel
theorem dX10_findsFar_158 : decode cX10_findsFar 158 = .ok (.iload_n 2, 1) := by decide +kernel
theorem dX10_findsFar_159 : decode cX10_findsFar 159 = .ok (.imul, 1) := by decide +kernel
theorem dX10_findsFar_160 : decode cX10_findsFar 160 = .ok (.iload_n 3, 1) := by decide +kernel
theorem dX10_findsFar_161 : decode cX10_findsFar 161 = .ok (.iadd, 1) := by decide +kernel
theorem dX10_findsFar_162 : decode cX10_findsFar 162 = .ok (.iaload, 1) := by decide +kernel
theorem dX10_findsFar_163 : decode cX10_findsFar 163 = .ok (.iastore, 1) := by decide +kernel
theorem dX10_findsFar_164 : decode cX10_findsFar 164 = .ok (.iinc 3 1, 3) := by decide +kernel
theorem dX10_findsFar_167 : decode cX10_findsFar 167 = .ok (.goto (-77), 3) := by decide +kernel
theorem dX10_findsFar_170 : decode cX10_findsFar 170 = .ok (.iinc 2 1, 3) := by decide +kernel
theorem dX10_findsFar_173 : decode cX10_findsFar 173 = .ok (.goto (-91), 3) := by decide +kernel
theorem dX10_findsFar_176 : decode cX10_findsFar 176 = .ok (.iinc 1 1, 3) := by decide +kernel
theorem dX10_findsFar_179 : decode cX10_findsFar 179 = .ok (.goto (-105), 3) := by decide +kernel
theorem dX10_findsFar_182 : decode cX10_findsFar 182 = .ok (.return_, 1) := by decide +kernel
theorem dX10_minutesOf_0 : decode cX10_minutesOf 0 = .ok (.aload_n 0, 1) := by decide +kernel
theorem dX10_minutesOf_1 : decode cX10_minutesOf 1 = .ok (.invokevirtual 122, 3) := by decide +kernel
theorem dX10_minutesOf_4 : decode cX10_minutesOf 4 = .ok (.aload_n 0, 1) := by decide +kernel
theorem dX10_minutesOf_5 : decode cX10_minutesOf 5 = .ok (.getfield 28, 3) := by decide +kernel
theorem dX10_minutesOf_8 : decode cX10_minutesOf 8 = .ok (.bipush 6, 2) := by decide +kernel
theorem dX10_minutesOf_10 : decode cX10_minutesOf 10 = .ok (.iload_n 1, 1) := by decide +kernel
theorem dX10_minutesOf_11 : decode cX10_minutesOf 11 = .ok (.imul, 1) := by decide +kernel
theorem dX10_minutesOf_12 : decode cX10_minutesOf 12 = .ok (.iload_n 2, 1) := by decide +kernel
theorem dX10_minutesOf_13 : decode cX10_minutesOf 13 = .ok (.iadd, 1) := by decide +kernel
theorem dX10_minutesOf_14 : decode cX10_minutesOf 14 = .ok (.iaload, 1) := by decide +kernel
theorem dX10_minutesOf_15 : decode cX10_minutesOf 15 = .ok (.ldc 121, 2) := by decide +kernel
theorem dX10_minutesOf_17 : decode cX10_minutesOf 17 = .ok (.if_icmp .ge 17, 3) := by decide +kernel
theorem dX10_minutesOf_20 : decode cX10_minutesOf 20 = .ok (.aload_n 0, 1) := by decide +kernel
theorem dX10_minutesOf_21 : decode cX10_minutesOf 21 = .ok (.getfield 28, 3) := by decide +kernel
theorem dX10_minutesOf_24 : decode cX10_minutesOf 24 = .ok (.bipush 6, 2) := by decide +kernel
theorem dX10_minutesOf_26 : decode cX10_minutesOf 26 = .ok (.iload_n 1, 1) := by decide +kernel
theorem dX10_minutesOf_27 : decode cX10_minutesOf 27 = .ok (.imul, 1) := by decide +kernel
theorem dX10_minutesOf_28 : decode cX10_minutesOf 28 = .ok (.iload_n 2, 1) := by decide +kernel
theorem dX10_minutesOf_29 : decode cX10_minutesOf 29 = .ok (.iadd, 1) := by decide +kernel
theorem dX10_minutesOf_30 : decode cX10_minutesOf 30 = .ok (.iaload, 1) := by decide +kernel
theorem dX10_minutesOf_31 : decode cX10_minutesOf 31 = .ok (.goto 5, 3) := by decide +kernel
theorem dX10_minutesOf_34 : decode cX10_minutesOf 34 = .ok (.bipush (-9), 2) := by decide +kernel
theorem dX10_minutesOf_36 : decode cX10_minutesOf 36 = .ok (.ireturn, 1) := by decide +kernel
theorem dX10_minutes_0 : decode cX10_minutes 0 = .ok (.aload_n 0, 1) := by decide +kernel
theorem dX10_minutes_1 : decode cX10_minutes 1 = .ok (.iload_n 1, 1) := by decide +kernel
theorem dX10_minutes_2 : decode cX10_minutes 2 = .ok (.invokevirtual 125, 3) := by decide +kernel
theorem dX10_minutes_5 : decode cX10_minutes 5 = .ok (.ifCond .eq 20, 3) := by decide +kernel
theorem dX10_minutes_8 : decode cX10_minutes 8 = .ok (.aload_n 0, 1) := by decide +kernel
theorem dX10_minutes_9 : decode cX10_minutes 9 = .ok (.iload_n 2, 1) := by decide +kernel
theorem dX10_minutes_10 : decode cX10_minutes 10 = .ok (.invokevirtual 125, 3) := by decide +kernel
theorem dX10_minutes_13 : decode cX10_minutes 13 = .ok (.ifCond .eq 12, 3) := by decide +kernel
theorem dX10_minutes_16 : decode cX10_minutes 16 = .ok (.aload_n 0, 1) := by decide +kernel
theorem dX10_minutes_17 : decode cX10_minutes 17 = .ok (.iload_n 1, 1) := by decide +kernel
theorem dX10_minutes_18 : decode cX10_minutes 18 = .ok (.iload_n 2, 1) := by decide +kernel
theorem dX10_minutes_19 : decode cX10_minutes 19 = .ok (.invokevirtual 128, 3) := by decide +kernel
theorem dX10_minutes_22 : decode cX10_minutes 22 = .ok (.goto 8, 3) := by decide +kernel
theorem dX10_minutes_25 : decode cX10_minutes 25 = .ok (.aload_n 0, 1) := by decide +kernel
theorem dX10_minutes_26 : decode cX10_minutes 26 = .ok (.iconst (-1), 1) := by decide +kernel
theorem dX10_minutes_27 : decode cX10_minutes 27 = .ok (.invokevirtual 62, 3) := by decide +kernel
theorem dX10_minutes_30 : decode cX10_minutes 30 = .ok (.ireturn, 1) := by decide +kernel
theorem dX10_partOf_0 : decode cX10_partOf 0 = .ok (.aload_n 0, 1) := by decide +kernel
theorem dX10_partOf_1 : decode cX10_partOf 1 = .ok (.iload_n 1, 1) := by decide +kernel
theorem dX10_partOf_2 : decode cX10_partOf 2 = .ok (.invokevirtual 131, 3) := by decide +kernel
theorem dX10_partOf_5 : decode cX10_partOf 5 = .ok (.ifCond .ne 9, 3) := by decide +kernel
theorem dX10_partOf_8 : decode cX10_partOf 8 = .ok (.aload_n 0, 1) := by decide +kernel
theorem dX10_partOf_9 : decode cX10_partOf 9 = .ok (.iconst (-1), 1) := by decide +kernel
theorem dX10_partOf_10 : decode cX10_partOf 10 = .ok (.invokevirtual 62, 3) := by decide +kernel
theorem dX10_partOf_13 : decode cX10_partOf 13 = .ok (.ireturn, 1) := by decide +kernel
theorem dX10_partOf_14 : decode cX10_partOf 14 = .ok (.iload_n 2, 1) := by decide +kernel
theorem dX10_partOf_15 : decode cX10_partOf 15 = .ok (.bipush 7, 2) := by decide +kernel
theorem dX10_partOf_17 : decode cX10_partOf 17 = .ok (.invokestatic 46, 3) := by decide +kernel
theorem dX10_partOf_20 : decode cX10_partOf 20 = .ok (.ifCond .ne 10, 3) := by decide +kernel
theorem dX10_partOf_23 : decode cX10_partOf 23 = .ok (.aload_n 0, 1) := by decide +kernel
theorem dX10_partOf_24 : decode cX10_partOf 24 = .ok (.bipush (-2), 2) := by decide +kernel
theorem dX10_partOf_26 : decode cX10_partOf 26 = .ok (.invokevirtual 62, 3) := by decide +kernel
theorem dX10_partOf_29 : decode cX10_partOf 29 = .ok (.ireturn, 1) := by decide +kernel
theorem dX10_partOf_30 : decode cX10_partOf 30 = .ok (.iload_n 2, 1) := by decide +kernel
theorem dX10_partOf_31 : decode cX10_partOf 31 = .ok (.ifCond .ne 14, 3) := by decide +kernel
theorem dX10_partOf_34 : decode cX10_partOf 34 = .ok (.aload_n 0, 1) := by decide +kernel
theorem dX10_partOf_35 : decode cX10_partOf 35 = .ok (.iload_n 1, 1) := by decide +kernel
theorem dX10_partOf_36 : decode cX10_partOf 36 = .ok (.iconst 0, 1) := by decide +kernel
theorem dX10_partOf_37 : decode cX10_partOf 37 = .ok (.invokevirtual 50, 3) := by decide +kernel
theorem dX10_partOf_40 : decode cX10_partOf 40 = .ok (.iconst 1, 1) := by decide +kernel
theorem dX10_partOf_41 : decode cX10_partOf 41 = .ok (.isub, 1) := by decide +kernel
theorem dX10_partOf_42 : decode cX10_partOf 42 = .ok (.goto 9, 3) := by decide +kernel
theorem dX10_partOf_45 : decode cX10_partOf 45 = .ok (.aload_n 0, 1) := by decide +kernel
theorem dX10_partOf_46 : decode cX10_partOf 46 = .ok (.iload_n 1, 1) := by decide +kernel
theorem dX10_partOf_47 : decode cX10_partOf 47 = .ok (.iload_n 2, 1) := by decide +kernel
theorem dX10_partOf_48 : decode cX10_partOf 48 = .ok (.invokevirtual 50, 3) := by decide +kernel
theorem dX10_partOf_51 : decode cX10_partOf 51 = .ok (.ireturn, 1) := by decide +kernel
theorem dX10_split_0 : decode cX10_split 0 = .ok (.aload_n 0, 1) := by decide +kernel
theorem dX10_split_1 : decode cX10_split 1 = .ok (.iload_n 1, 1) := by decide +kernel
theorem dX10_split_2 : decode cX10_split 2 = .ok (.invokevirtual 131, 3) := by decide +kernel
theorem dX10_split_5 : decode cX10_split 5 = .ok (.ifCond .ne 9, 3) := by decide +kernel
theorem dX10_split_8 : decode cX10_split 8 = .ok (.aload_n 0, 1) := by decide +kernel
theorem dX10_split_9 : decode cX10_split 9 = .ok (.iconst (-1), 1) := by decide +kernel
theorem dX10_split_10 : decode cX10_split 10 = .ok (.invokevirtual 62, 3) := by decide +kernel
theorem dX10_split_13 : decode cX10_split 13 = .ok (.ireturn, 1) := by decide +kernel
theorem dX10_split_14 : decode cX10_split 14 = .ok (.aload_n 0, 1) := by decide +kernel
theorem dX10_split_15 : decode cX10_split 15 = .ok (.aload_n 0, 1) := by decide +kernel
theorem dX10_split_16 : decode cX10_split 16 = .ok (.iload_n 1, 1) := by decide +kernel
theorem dX10_split_17 : decode cX10_split 17 = .ok (.iconst 0, 1) := by decide +kernel
theorem dX10_split_18 : decode cX10_split 18 = .ok (.invokevirtual 50, 3) := by decide +kernel
theorem dX10_split_21 : decode cX10_split 21 = .ok (.iconst 1, 1) := by decide +kernel
theorem dX10_split_22 : decode cX10_split 22 = .ok (.isub, 1) := by decide +kernel
theorem dX10_split_23 : decode cX10_split 23 = .ok (.iconst 3, 1) := by decide +kernel
theorem dX10_split_24 : decode cX10_split 24 = .ok (.invokevirtual 106, 3) := by decide +kernel
theorem dX10_split_27 : decode cX10_split 27 = .ok (.istore_n 3, 1) := by decide +kernel
theorem dX10_split_28 : decode cX10_split 28 = .ok (.iload_n 2, 1) := by decide +kernel
theorem dX10_split_29 : decode cX10_split 29 = .ok (.iload_n 3, 1) := by decide +kernel
theorem dX10_split_30 : decode cX10_split 30 = .ok (.if_icmp .lt 15, 3) := by decide +kernel
theorem dX10_split_33 : decode cX10_split 33 = .ok (.aload_n 0, 1) := by decide +kernel
theorem dX10_split_34 : decode cX10_split 34 = .ok (.iload_n 1, 1) := by decide +kernel
theorem dX10_split_35 : decode cX10_split 35 = .ok (.iconst 1, 1) := by decide +kernel
theorem dX10_split_36 : decode cX10_split 36 = .ok (.invokevirtual 50, 3) := by decide +kernel
theorem dX10_split_39 : decode cX10_split 39 = .ok (.iload_n 3, 1) := by decide +kernel
theorem dX10_split_40 : decode cX10_split 40 = .ok (.isub, 1) := by decide +kernel
theorem dX10_split_41 : decode cX10_split 41 = .ok (.iload_n 2, 1) := by decide +kernel
theorem dX10_split_42 : decode cX10_split 42 = .ok (.if_icmp .ge 10, 3) := by decide +kernel
theorem dX10_split_45 : decode cX10_split 45 = .ok (.aload_n 0, 1) := by decide +kernel
theorem dX10_split_46 : decode cX10_split 46 = .ok (.bipush (-3), 2) := by decide +kernel
theorem dX10_split_48 : decode cX10_split 48 = .ok (.invokevirtual 62, 3) := by decide +kernel
theorem dX10_split_51 : decode cX10_split 51 = .ok (.ireturn, 1) := by decide +kernel
theorem dX10_split_52 : decode cX10_split 52 = .ok (.aload_n 0, 1) := by decide +kernel
theorem dX10_split_53 : decode cX10_split 53 = .ok (.getfield 13, 3) := by decide +kernel
theorem dX10_split_56 : decode cX10_split 56 = .ok (.invokestatic 83, 3) := by decide +kernel
theorem dX10_split_59 : decode cX10_split 59 = .ok (.istore 4, 2) := by decide +kernel
theorem dX10_split_61 : decode cX10_split 61 = .ok (.iload 4, 2) := by decide +kernel
theorem dX10_split_63 : decode cX10_split 63 = .ok (.ifCond .ge 10, 3) := by decide +kernel
theorem dX10_split_66 : decode cX10_split 66 = .ok (.aload_n 0, 1) := by decide +kernel
theorem dX10_split_67 : decode cX10_split 67 = .ok (.bipush (-6), 2) := by decide +kernel
theorem dX10_split_69 : decode cX10_split 69 = .ok (.invokevirtual 62, 3) := by decide +kernel
theorem dX10_split_72 : decode cX10_split 72 = .ok (.ireturn, 1) := by decide +kernel
theorem dX10_split_73 : decode cX10_split 73 = .ok (.iconst 0, 1) := by decide +kernel
theorem dX10_split_74 : decode cX10_split 74 = .ok (.istore 5, 2) := by decide +kernel
theorem dX10_split_76 : decode cX10_split 76 = .ok (.iload 5, 2) := by decide +kernel
theorem dX10_split_78 : decode cX10_split 78 = .ok (.bipush 7, 2) := by decide +kernel
theorem dX10_split_80 : decode cX10_split 80 = .ok (.if_icmp .ge 24, 3) := by decide +kernel
theorem dX10_split_83 : decode cX10_split 83 = .ok (.aload_n 0, 1) := by decide +kernel
theorem dX10_split_84 : decode cX10_split 84 = .ok (.iload 4, 2) := by decide +kernel
theorem dX10_split_86 : decode cX10_split 86 = .ok (.iload 5, 2) := by decide +kernel
theorem dX10_split_88 : decode cX10_split 88 = .ok (.aload_n 0, 1) := by decide +kernel
theorem dX10_split_89 : decode cX10_split 89 = .ok (.iload_n 1, 1) := by decide +kernel
theorem dX10_split_90 : decode cX10_split 90 = .ok (.iload 5, 2) := by decide +kernel
theorem dX10_split_92 : decode cX10_split 92 = .ok (.invokevirtual 50, 3) := by decide +kernel
theorem dX10_split_95 : decode cX10_split 95 = .ok (.invokevirtual 134, 3) := by decide +kernel
theorem dX10_split_98 : decode cX10_split 98 = .ok (.iinc 5 1, 3) := by decide +kernel
theorem dX10_split_101 : decode cX10_split 101 = .ok (.goto (-25), 3) := by decide +kernel
theorem dX10_split_104 : decode cX10_split 104 = .ok (.aload_n 0, 1) := by decide +kernel
theorem dX10_split_105 : decode cX10_split 105 = .ok (.iload 4, 2) := by decide +kernel
theorem dX10_split_107 : decode cX10_split 107 = .ok (.iconst 1, 1) := by decide +kernel
theorem dX10_split_108 : decode cX10_split 108 = .ok (.iload_n 2, 1) := by decide +kernel
theorem dX10_split_109 : decode cX10_split 109 = .ok (.invokevirtual 134, 3) := by decide +kernel
theorem dX10_split_112 : decode cX10_split 112 = .ok (.aload_n 0, 1) := by decide +kernel
theorem dX10_split_113 : decode cX10_split 113 = .ok (.iload 4, 2) := by decide +kernel
theorem dX10_split_115 : decode cX10_split 115 = .ok (.iconst 3, 1) := by decide +kernel
theorem dX10_split_116 : decode cX10_split 116 = .ok (.bipush (-9), 2) := by decide +kernel
theorem dX10_split_118 : decode cX10_split 118 = .ok (.invokevirtual 134, 3) := by decide +kernel
theorem dX10_split_121 : decode cX10_split 121 = .ok (.aload_n 0, 1) := by decide +kernel
theorem dX10_split_122 : decode cX10_split 122 = .ok (.iload_n 1, 1) := by decide +kernel
theorem dX10_split_123 : decode cX10_split 123 = .ok (.iconst 1, 1) := by decide +kernel
theorem dX10_split_124 : decode cX10_split 124 = .ok (.aload_n 0, 1) := by decide +kernel
theorem dX10_split_125 : decode cX10_split 125 = .ok (.iload_n 1, 1) := by decide +kernel
theorem dX10_split_126 : decode cX10_split 126 = .ok (.iconst 1, 1) := by decide +kernel
theorem dX10_split_127 : decode cX10_split 127 = .ok (.invokevirtual 50, 3) := by decide +kernel
theorem dX10_split_130 : decode cX10_split 130 = .ok (.iload_n 2, 1) := by decide +kernel
theorem dX10_split_131 : decode cX10_split 131 = .ok (.isub, 1) := by decide +kernel
theorem dX10_split_132 : decode cX10_split 132 = .ok (.invokevirtual 134, 3) := by decide +kernel
theorem dX10_split_135 : decode cX10_split 135 = .ok (.iload 4, 2) := by decide +kernel
theorem dX10_split_137 : decode cX10_split 137 = .ok (.ireturn, 1) := by decide +kernel
theorem dX10_go_0 : decode cX10_go 0 = .ok (.aload_n 0, 1) := by decide +kernel
theorem dX10_go_1 : decode cX10_go 1 = .ok (.iload_n 1, 1) := by decide +kernel
theorem dX10_go_2 : decode cX10_go 2 = .ok (.invokevirtual 131, 3) := by decide +kernel
theorem dX10_go_5 : decode cX10_go 5 = .ok (.ifCond .eq 11, 3) := by decide +kernel
theorem dX10_go_8 : decode cX10_go 8 = .ok (.aload_n 0, 1) := by decide +kernel
theorem dX10_go_9 : decode cX10_go 9 = .ok (.iload_n 2, 1) := by decide +kernel
theorem dX10_go_10 : decode cX10_go 10 = .ok (.invokevirtual 125, 3) := by decide +kernel
theorem dX10_go_13 : decode cX10_go 13 = .ok (.ifCond .ne 9, 3) := by decide +kernel
theorem dX10_go_16 : decode cX10_go 16 = .ok (.aload_n 0, 1) := by decide +kernel
theorem dX10_go_17 : decode cX10_go 17 = .ok (.iconst (-1), 1) := by decide +kernel
theorem dX10_go_18 : decode cX10_go 18 = .ok (.invokevirtual 62, 3) := by decide +kernel
theorem dX10_go_21 : decode cX10_go 21 = .ok (.ireturn, 1) := by decide +kernel
theorem dX10_go_22 : decode cX10_go 22 = .ok (.aload_n 0, 1) := by decide +kernel
theorem dX10_go_23 : decode cX10_go 23 = .ok (.aload_n 0, 1) := by decide +kernel
theorem dX10_go_24 : decode cX10_go 24 = .ok (.iload_n 1, 1) := by decide +kernel
theorem dX10_go_25 : decode cX10_go 25 = .ok (.iconst 2, 1) := by decide +kernel
theorem dX10_go_26 : decode cX10_go 26 = .ok (.invokevirtual 50, 3) := by decide +kernel
theorem dX10_go_29 : decode cX10_go 29 = .ok (.iload_n 2, 1) := by decide +kernel
theorem dX10_go_30 : decode cX10_go 30 = .ok (.invokevirtual 128, 3) := by decide +kernel
theorem dX10_go_33 : decode cX10_go 33 = .ok (.istore_n 3, 1) := by decide +kernel
theorem dX10_go_34 : decode cX10_go 34 = .ok (.iload_n 3, 1) := by decide +kernel
theorem dX10_go_35 : decode cX10_go 35 = .ok (.ifCond .ge 10, 3) := by decide +kernel
theorem dX10_go_38 : decode cX10_go 38 = .ok (.aload_n 0, 1) := by decide +kernel
theorem dX10_go_39 : decode cX10_go 39 = .ok (.bipush (-3), 2) := by decide +kernel
theorem dX10_go_41 : decode cX10_go 41 = .ok (.invokevirtual 62, 3) := by decide +kernel
theorem dX10_go_44 : decode cX10_go 44 = .ok (.ireturn, 1) := by decide +kernel
theorem dX10_go_45 : decode cX10_go 45 = .ok (.aload_n 0, 1) := by decide +kernel
theorem dX10_go_46 : decode cX10_go 46 = .ok (.iload_n 1, 1) := by decide +kernel
theorem dX10_go_47 : decode cX10_go 47 = .ok (.iconst 4, 1) := by decide +kernel
theorem dX10_go_48 : decode cX10_go 48 = .ok (.aload_n 0, 1) := by decide +kernel
theorem dX10_go_49 : decode cX10_go 49 = .ok (.iload_n 1, 1) := by decide +kernel
theorem dX10_go_50 : decode cX10_go 50 = .ok (.iconst 4, 1) := by decide +kernel
theorem dX10_go_51 : decode cX10_go 51 = .ok (.invokevirtual 50, 3) := by decide +kernel
theorem dX10_go_54 : decode cX10_go 54 = .ok (.iload_n 3, 1) := by decide +kernel
theorem dX10_go_55 : decode cX10_go 55 = .ok (.iadd, 1) := by decide +kernel
theorem dX10_go_56 : decode cX10_go 56 = .ok (.invokevirtual 134, 3) := by decide +kernel
theorem dX10_go_59 : decode cX10_go 59 = .ok (.aload_n 0, 1) := by decide +kernel
theorem dX10_go_60 : decode cX10_go 60 = .ok (.iload_n 1, 1) := by decide +kernel
theorem dX10_go_61 : decode cX10_go 61 = .ok (.iconst 2, 1) := by decide +kernel
theorem dX10_go_62 : decode cX10_go 62 = .ok (.iload_n 2, 1) := by decide +kernel
theorem dX10_go_63 : decode cX10_go 63 = .ok (.invokevirtual 134, 3) := by decide +kernel
theorem dX10_go_66 : decode cX10_go 66 = .ok (.aload_n 0, 1) := by decide +kernel
theorem dX10_go_67 : decode cX10_go 67 = .ok (.iload_n 1, 1) := by decide +kernel
theorem dX10_go_68 : decode cX10_go 68 = .ok (.iconst 3, 1) := by decide +kernel
theorem dX10_go_69 : decode cX10_go 69 = .ok (.bipush (-9), 2) := by decide +kernel
theorem dX10_go_71 : decode cX10_go 71 = .ok (.invokevirtual 134, 3) := by decide +kernel
theorem dX10_go_74 : decode cX10_go 74 = .ok (.aload_n 0, 1) := by decide +kernel
theorem dX10_go_75 : decode cX10_go 75 = .ok (.iload_n 1, 1) := by decide +kernel
theorem dX10_go_76 : decode cX10_go 76 = .ok (.iconst 4, 1) := by decide +kernel
theorem dX10_go_77 : decode cX10_go 77 = .ok (.invokevirtual 50, 3) := by decide +kernel
theorem dX10_go_80 : decode cX10_go 80 = .ok (.ireturn, 1) := by decide +kernel
theorem dX10_bits_0 : decode cX10_bits 0 = .ok (.iconst 0, 1) := by decide +kernel
theorem dX10_bits_1 : decode cX10_bits 1 = .ok (.istore_n 1, 1) := by decide +kernel
theorem dX10_bits_2 : decode cX10_bits 2 = .ok (.iload_n 0, 1) := by decide +kernel
theorem dX10_bits_3 : decode cX10_bits 3 = .ok (.istore_n 2, 1) := by decide +kernel
theorem dX10_bits_4 : decode cX10_bits 4 = .ok (.iload_n 2, 1) := by decide +kernel
theorem dX10_bits_5 : decode cX10_bits 5 = .ok (.ifCond .le 16, 3) := by decide +kernel
theorem dX10_bits_8 : decode cX10_bits 8 = .ok (.iload_n 1, 1) := by decide +kernel
theorem dX10_bits_9 : decode cX10_bits 9 = .ok (.iload_n 2, 1) := by decide +kernel
theorem dX10_bits_10 : decode cX10_bits 10 = .ok (.iconst 1, 1) := by decide +kernel
theorem dX10_bits_11 : decode cX10_bits 11 = .ok (.iand, 1) := by decide +kernel
theorem dX10_bits_12 : decode cX10_bits 12 = .ok (.iadd, 1) := by decide +kernel
theorem dX10_bits_13 : decode cX10_bits 13 = .ok (.istore_n 1, 1) := by decide +kernel
theorem dX10_bits_14 : decode cX10_bits 14 = .ok (.iload_n 2, 1) := by decide +kernel
theorem dX10_bits_15 : decode cX10_bits 15 = .ok (.iconst 1, 1) := by decide +kernel
theorem dX10_bits_16 : decode cX10_bits 16 = .ok (.ishr, 1) := by decide +kernel
theorem dX10_bits_17 : decode cX10_bits 17 = .ok (.istore_n 2, 1) := by decide +kernel
theorem dX10_bits_18 : decode cX10_bits 18 = .ok (.goto (-14), 3) := by decide +kernel
theorem dX10_bits_21 : decode cX10_bits 21 = .ok (.iload_n 1, 1) := by decide +kernel
theorem dX10_bits_22 : decode cX10_bits 22 = .ok (.ireturn, 1) := by decide +kernel
theorem dX10_see_0 : decode cX10_see 0 = .ok (.aload_n 0, 1) := by decide +kernel
theorem dX10_see_1 : decode cX10_see 1 = .ok (.iload_n 1, 1) := by decide +kernel
theorem dX10_see_2 : decode cX10_see 2 = .ok (.invokevirtual 131, 3) := by decide +kernel
theorem dX10_see_5 : decode cX10_see 5 = .ok (.ifCond .ne 9, 3) := by decide +kernel
theorem dX10_see_8 : decode cX10_see 8 = .ok (.aload_n 0, 1) := by decide +kernel
theorem dX10_see_9 : decode cX10_see 9 = .ok (.iconst (-1), 1) := by decide +kernel
theorem dX10_see_10 : decode cX10_see 10 = .ok (.invokevirtual 62, 3) := by decide +kernel
theorem dX10_see_13 : decode cX10_see 13 = .ok (.ireturn, 1) := by decide +kernel
theorem dX10_see_14 : decode cX10_see 14 = .ok (.aload_n 0, 1) := by decide +kernel
theorem dX10_see_15 : decode cX10_see 15 = .ok (.iload_n 1, 1) := by decide +kernel
theorem dX10_see_16 : decode cX10_see 16 = .ok (.bipush 6, 2) := by decide +kernel
theorem dX10_see_18 : decode cX10_see 18 = .ok (.aload_n 0, 1) := by decide +kernel
theorem dX10_see_19 : decode cX10_see 19 = .ok (.iload_n 1, 1) := by decide +kernel
theorem dX10_see_20 : decode cX10_see 20 = .ok (.bipush 6, 2) := by decide +kernel
theorem dX10_see_22 : decode cX10_see 22 = .ok (.invokevirtual 50, 3) := by decide +kernel
theorem dX10_see_25 : decode cX10_see 25 = .ok (.iconst 1, 1) := by decide +kernel
theorem dX10_see_26 : decode cX10_see 26 = .ok (.aload_n 0, 1) := by decide +kernel
theorem dX10_see_27 : decode cX10_see 27 = .ok (.iload_n 1, 1) := by decide +kernel
theorem dX10_see_28 : decode cX10_see 28 = .ok (.iconst 2, 1) := by decide +kernel
theorem dX10_see_29 : decode cX10_see 29 = .ok (.invokevirtual 50, 3) := by decide +kernel
theorem dX10_see_32 : decode cX10_see 32 = .ok (.ishl, 1) := by decide +kernel
theorem dX10_see_33 : decode cX10_see 33 = .ok (.ior, 1) := by decide +kernel
theorem dX10_see_34 : decode cX10_see 34 = .ok (.invokevirtual 134, 3) := by decide +kernel
theorem dX10_see_37 : decode cX10_see 37 = .ok (.aload_n 0, 1) := by decide +kernel
theorem dX10_see_38 : decode cX10_see 38 = .ok (.iload_n 1, 1) := by decide +kernel
theorem dX10_see_39 : decode cX10_see 39 = .ok (.bipush 6, 2) := by decide +kernel
theorem dX10_see_41 : decode cX10_see 41 = .ok (.invokevirtual 50, 3) := by decide +kernel
theorem dX10_see_44 : decode cX10_see 44 = .ok (.invokestatic 138, 3) := by decide +kernel
theorem dX10_see_47 : decode cX10_see 47 = .ok (.ireturn, 1) := by decide +kernel
theorem dX10_greater_0 : decode cX10_greater 0 = .ok (.iload_n 0, 1) := by decide +kernel
theorem dX10_greater_1 : decode cX10_greater 1 = .ok (.iload_n 1, 1) := by decide +kernel
theorem dX10_greater_2 : decode cX10_greater 2 = .ok (.if_icmp .le 7, 3) := by decide +kernel
theorem dX10_greater_5 : decode cX10_greater 5 = .ok (.iload_n 0, 1) := by decide +kernel
theorem dX10_greater_6 : decode cX10_greater 6 = .ok (.goto 4, 3) := by decide +kernel
theorem dX10_greater_9 : decode cX10_greater 9 = .ok (.iload_n 1, 1) := by decide +kernel
theorem dX10_greater_10 : decode cX10_greater 10 = .ok (.ireturn, 1) := by decide +kernel
theorem dX10_join_0 : decode cX10_join 0 = .ok (.aload_n 0, 1) := by decide +kernel
theorem dX10_join_1 : decode cX10_join 1 = .ok (.iload_n 1, 1) := by decide +kernel
theorem dX10_join_2 : decode cX10_join 2 = .ok (.invokevirtual 131, 3) := by decide +kernel
theorem dX10_join_5 : decode cX10_join 5 = .ok (.ifCond .eq 16, 3) := by decide +kernel
theorem dX10_join_8 : decode cX10_join 8 = .ok (.aload_n 0, 1) := by decide +kernel
theorem dX10_join_9 : decode cX10_join 9 = .ok (.iload_n 2, 1) := by decide +kernel
theorem dX10_join_10 : decode cX10_join 10 = .ok (.invokevirtual 131, 3) := by decide +kernel
theorem dX10_join_13 : decode cX10_join 13 = .ok (.ifCond .eq 8, 3) := by decide +kernel
theorem dX10_join_16 : decode cX10_join 16 = .ok (.iload_n 1, 1) := by decide +kernel
theorem dX10_join_17 : decode cX10_join 17 = .ok (.iload_n 2, 1) := by decide +kernel
theorem dX10_join_18 : decode cX10_join 18 = .ok (.if_icmp .ne 9, 3) := by decide +kernel
theorem dX10_join_21 : decode cX10_join 21 = .ok (.aload_n 0, 1) := by decide +kernel
theorem dX10_join_22 : decode cX10_join 22 = .ok (.iconst (-1), 1) := by decide +kernel
theorem dX10_join_23 : decode cX10_join 23 = .ok (.invokevirtual 62, 3) := by decide +kernel
theorem dX10_join_26 : decode cX10_join 26 = .ok (.ireturn, 1) := by decide +kernel
theorem dX10_join_27 : decode cX10_join 27 = .ok (.aload_n 0, 1) := by decide +kernel
theorem dX10_join_28 : decode cX10_join 28 = .ok (.iload_n 1, 1) := by decide +kernel
theorem dX10_join_29 : decode cX10_join 29 = .ok (.iconst 0, 1) := by decide +kernel
theorem dX10_join_30 : decode cX10_join 30 = .ok (.invokevirtual 50, 3) := by decide +kernel
theorem dX10_join_33 : decode cX10_join 33 = .ok (.aload_n 0, 1) := by decide +kernel
theorem dX10_join_34 : decode cX10_join 34 = .ok (.iload_n 2, 1) := by decide +kernel
theorem dX10_join_35 : decode cX10_join 35 = .ok (.iconst 0, 1) := by decide +kernel
theorem dX10_join_36 : decode cX10_join 36 = .ok (.invokevirtual 50, 3) := by decide +kernel
theorem dX10_join_39 : decode cX10_join 39 = .ok (.if_icmp .ne 18, 3) := by decide +kernel
theorem dX10_join_42 : decode cX10_join 42 = .ok (.aload_n 0, 1) := by decide +kernel
theorem dX10_join_43 : decode cX10_join 43 = .ok (.iload_n 1, 1) := by decide +kernel
theorem dX10_join_44 : decode cX10_join 44 = .ok (.iconst 2, 1) := by decide +kernel
theorem dX10_join_45 : decode cX10_join 45 = .ok (.invokevirtual 50, 3) := by decide +kernel
theorem dX10_join_48 : decode cX10_join 48 = .ok (.aload_n 0, 1) := by decide +kernel
theorem dX10_join_49 : decode cX10_join 49 = .ok (.iload_n 2, 1) := by decide +kernel
theorem dX10_join_50 : decode cX10_join 50 = .ok (.iconst 2, 1) := by decide +kernel
theorem dX10_join_51 : decode cX10_join 51 = .ok (.invokevirtual 50, 3) := by decide +kernel
theorem dX10_join_54 : decode cX10_join 54 = .ok (.if_icmp .eq 10, 3) := by decide +kernel
theorem dX10_join_57 : decode cX10_join 57 = .ok (.aload_n 0, 1) := by decide +kernel
theorem dX10_join_58 : decode cX10_join 58 = .ok (.bipush (-3), 2) := by decide +kernel
theorem dX10_join_60 : decode cX10_join 60 = .ok (.invokevirtual 62, 3) := by decide +kernel
theorem dX10_join_63 : decode cX10_join 63 = .ok (.ireturn, 1) := by decide +kernel
theorem dX10_join_64 : decode cX10_join 64 = .ok (.aload_n 0, 1) := by decide +kernel
theorem dX10_join_65 : decode cX10_join 65 = .ok (.iload_n 1, 1) := by decide +kernel
theorem dX10_join_66 : decode cX10_join 66 = .ok (.iconst 1, 1) := by decide +kernel
theorem dX10_join_67 : decode cX10_join 67 = .ok (.aload_n 0, 1) := by decide +kernel
theorem dX10_join_68 : decode cX10_join 68 = .ok (.iload_n 1, 1) := by decide +kernel
theorem dX10_join_69 : decode cX10_join 69 = .ok (.iconst 1, 1) := by decide +kernel
theorem dX10_join_70 : decode cX10_join 70 = .ok (.invokevirtual 50, 3) := by decide +kernel
theorem dX10_join_73 : decode cX10_join 73 = .ok (.aload_n 0, 1) := by decide +kernel
theorem dX10_join_74 : decode cX10_join 74 = .ok (.iload_n 2, 1) := by decide +kernel
theorem dX10_join_75 : decode cX10_join 75 = .ok (.iconst 1, 1) := by decide +kernel
theorem dX10_join_76 : decode cX10_join 76 = .ok (.invokevirtual 50, 3) := by decide +kernel
theorem dX10_join_79 : decode cX10_join 79 = .ok (.iadd, 1) := by decide +kernel
theorem dX10_join_80 : decode cX10_join 80 = .ok (.invokevirtual 134, 3) := by decide +kernel
theorem dX10_join_83 : decode cX10_join 83 = .ok (.aload_n 0, 1) := by decide +kernel
theorem dX10_join_84 : decode cX10_join 84 = .ok (.iload_n 1, 1) := by decide +kernel
theorem dX10_join_85 : decode cX10_join 85 = .ok (.iconst 4, 1) := by decide +kernel
theorem dX10_join_86 : decode cX10_join 86 = .ok (.aload_n 0, 1) := by decide +kernel
theorem dX10_join_87 : decode cX10_join 87 = .ok (.iload_n 1, 1) := by decide +kernel
theorem dX10_join_88 : decode cX10_join 88 = .ok (.iconst 4, 1) := by decide +kernel
theorem dX10_join_89 : decode cX10_join 89 = .ok (.invokevirtual 50, 3) := by decide +kernel
theorem dX10_join_92 : decode cX10_join 92 = .ok (.aload_n 0, 1) := by decide +kernel
theorem dX10_join_93 : decode cX10_join 93 = .ok (.iload_n 2, 1) := by decide +kernel
theorem dX10_join_94 : decode cX10_join 94 = .ok (.iconst 4, 1) := by decide +kernel
theorem dX10_join_95 : decode cX10_join 95 = .ok (.invokevirtual 50, 3) := by decide +kernel
theorem dX10_join_98 : decode cX10_join 98 = .ok (.invokestatic 141, 3) := by decide +kernel
theorem dX10_join_101 : decode cX10_join 101 = .ok (.iconst 1, 1) := by decide +kernel
theorem dX10_join_102 : decode cX10_join 102 = .ok (.iadd, 1) := by decide +kernel
theorem dX10_join_103 : decode cX10_join 103 = .ok (.invokevirtual 134, 3) := by decide +kernel
theorem dX10_join_106 : decode cX10_join 106 = .ok (.aload_n 0, 1) := by decide +kernel
theorem dX10_join_107 : decode cX10_join 107 = .ok (.iload_n 1, 1) := by decide +kernel
theorem dX10_join_108 : decode cX10_join 108 = .ok (.iconst 5, 1) := by decide +kernel
theorem dX10_join_109 : decode cX10_join 109 = .ok (.aload_n 0, 1) := by decide +kernel
theorem dX10_join_110 : decode cX10_join 110 = .ok (.iload_n 1, 1) := by decide +kernel
theorem dX10_join_111 : decode cX10_join 111 = .ok (.iconst 5, 1) := by decide +kernel
theorem dX10_join_112 : decode cX10_join 112 = .ok (.invokevirtual 50, 3) := by decide +kernel
theorem dX10_join_115 : decode cX10_join 115 = .ok (.aload_n 0, 1) := by decide +kernel
theorem dX10_join_116 : decode cX10_join 116 = .ok (.iload_n 2, 1) := by decide +kernel
theorem dX10_join_117 : decode cX10_join 117 = .ok (.iconst 5, 1) := by decide +kernel
theorem dX10_join_118 : decode cX10_join 118 = .ok (.invokevirtual 50, 3) := by decide +kernel
theorem dX10_join_121 : decode cX10_join 121 = .ok (.invokestatic 141, 3) := by decide +kernel
theorem dX10_join_124 : decode cX10_join 124 = .ok (.invokevirtual 134, 3) := by decide +kernel
theorem dX10_join_127 : decode cX10_join 127 = .ok (.aload_n 0, 1) := by decide +kernel
theorem dX10_join_128 : decode cX10_join 128 = .ok (.iload_n 1, 1) := by decide +kernel
theorem dX10_join_129 : decode cX10_join 129 = .ok (.bipush 6, 2) := by decide +kernel
theorem dX10_join_131 : decode cX10_join 131 = .ok (.aload_n 0, 1) := by decide +kernel
theorem dX10_join_132 : decode cX10_join 132 = .ok (.iload_n 1, 1) := by decide +kernel
theorem dX10_join_133 : decode cX10_join 133 = .ok (.bipush 6, 2) := by decide +kernel
theorem dX10_join_135 : decode cX10_join 135 = .ok (.invokevirtual 50, 3) := by decide +kernel
theorem dX10_join_138 : decode cX10_join 138 = .ok (.aload_n 0, 1) := by decide +kernel
theorem dX10_join_139 : decode cX10_join 139 = .ok (.iload_n 2, 1) := by decide +kernel
theorem dX10_join_140 : decode cX10_join 140 = .ok (.bipush 6, 2) := by decide +kernel
theorem dX10_join_142 : decode cX10_join 142 = .ok (.invokevirtual 50, 3) := by decide +kernel
theorem dX10_join_145 : decode cX10_join 145 = .ok (.ior, 1) := by decide +kernel
theorem dX10_join_146 : decode cX10_join 146 = .ok (.invokevirtual 134, 3) := by decide +kernel
theorem dX10_join_149 : decode cX10_join 149 = .ok (.aload_n 0, 1) := by decide +kernel
theorem dX10_join_150 : decode cX10_join 150 = .ok (.iload_n 1, 1) := by decide +kernel
theorem dX10_join_151 : decode cX10_join 151 = .ok (.iconst 3, 1) := by decide +kernel
theorem dX10_join_152 : decode cX10_join 152 = .ok (.bipush (-9), 2) := by decide +kernel
theorem dX10_join_154 : decode cX10_join 154 = .ok (.invokevirtual 134, 3) := by decide +kernel
theorem dX10_join_157 : decode cX10_join 157 = .ok (.aload_n 0, 1) := by decide +kernel
theorem dX10_join_158 : decode cX10_join 158 = .ok (.iload_n 2, 1) := by decide +kernel
theorem dX10_join_159 : decode cX10_join 159 = .ok (.iconst 0, 1) := by decide +kernel
theorem dX10_join_160 : decode cX10_join 160 = .ok (.iconst 0, 1) := by decide +kernel
theorem dX10_join_161 : decode cX10_join 161 = .ok (.invokevirtual 134, 3) := by decide +kernel
theorem dX10_join_164 : decode cX10_join 164 = .ok (.aload_n 0, 1) := by decide +kernel
theorem dX10_join_165 : decode cX10_join 165 = .ok (.iload_n 1, 1) := by decide +kernel
theorem dX10_join_166 : decode cX10_join 166 = .ok (.iconst 1, 1) := by decide +kernel
theorem dX10_join_167 : decode cX10_join 167 = .ok (.invokevirtual 50, 3) := by decide +kernel
theorem dX10_join_170 : decode cX10_join 170 = .ok (.ireturn, 1) := by decide +kernel
theorem dX10_at_0 : decode cX10_at 0 = .ok (.aload_n 0, 1) := by decide +kernel
theorem dX10_at_1 : decode cX10_at 1 = .ok (.iload_n 1, 1) := by decide +kernel
theorem dX10_at_2 : decode cX10_at 2 = .ok (.invokevirtual 131, 3) := by decide +kernel
theorem dX10_at_5 : decode cX10_at 5 = .ok (.ifCond .eq 16, 3) := by decide +kernel
theorem dX10_at_8 : decode cX10_at 8 = .ok (.iload_n 2, 1) := by decide +kernel
theorem dX10_at_9 : decode cX10_at 9 = .ok (.iconst (-1), 1) := by decide +kernel
theorem dX10_at_10 : decode cX10_at 10 = .ok (.if_icmp .eq 17, 3) := by decide +kernel
theorem dX10_at_13 : decode cX10_at 13 = .ok (.aload_n 0, 1) := by decide +kernel
theorem dX10_at_14 : decode cX10_at 14 = .ok (.iload_n 2, 1) := by decide +kernel
theorem dX10_at_15 : decode cX10_at 15 = .ok (.invokevirtual 115, 3) := by decide +kernel
theorem dX10_at_18 : decode cX10_at 18 = .ok (.ifCond .ne 9, 3) := by decide +kernel
theorem dX10_at_21 : decode cX10_at 21 = .ok (.aload_n 0, 1) := by decide +kernel
theorem dX10_at_22 : decode cX10_at 22 = .ok (.iconst (-1), 1) := by decide +kernel
theorem dX10_at_23 : decode cX10_at 23 = .ok (.invokevirtual 62, 3) := by decide +kernel
theorem dX10_at_26 : decode cX10_at 26 = .ok (.ireturn, 1) := by decide +kernel
theorem dX10_at_27 : decode cX10_at 27 = .ok (.iload_n 2, 1) := by decide +kernel
theorem dX10_at_28 : decode cX10_at 28 = .ok (.ifCond .lt 25, 3) := by decide +kernel
theorem dX10_at_31 : decode cX10_at 31 = .ok (.aload_n 0, 1) := by decide +kernel
theorem dX10_at_32 : decode cX10_at 32 = .ok (.iload_n 2, 1) := by decide +kernel
theorem dX10_at_33 : decode cX10_at 33 = .ok (.iconst 1, 1) := by decide +kernel
theorem dX10_at_34 : decode cX10_at 34 = .ok (.invokevirtual 118, 3) := by decide +kernel
theorem dX10_at_37 : decode cX10_at 37 = .ok (.aload_n 0, 1) := by decide +kernel
theorem dX10_at_38 : decode cX10_at 38 = .ok (.iload_n 1, 1) := by decide +kernel
theorem dX10_at_39 : decode cX10_at 39 = .ok (.iconst 2, 1) := by decide +kernel
theorem dX10_at_40 : decode cX10_at 40 = .ok (.invokevirtual 50, 3) := by decide +kernel
theorem dX10_at_43 : decode cX10_at 43 = .ok (.if_icmp .eq 10, 3) := by decide +kernel
theorem dX10_at_46 : decode cX10_at 46 = .ok (.aload_n 0, 1) := by decide +kernel
theorem dX10_at_47 : decode cX10_at 47 = .ok (.bipush (-3), 2) := by decide +kernel
theorem dX10_at_49 : decode cX10_at 49 = .ok (.invokevirtual 62, 3) := by decide +kernel
theorem dX10_at_52 : decode cX10_at 52 = .ok (.ireturn, 1) := by decide +kernel
theorem dX10_at_53 : decode cX10_at 53 = .ok (.aload_n 0, 1) := by decide +kernel
theorem dX10_at_54 : decode cX10_at 54 = .ok (.iload_n 1, 1) := by decide +kernel
theorem dX10_at_55 : decode cX10_at 55 = .ok (.iconst 3, 1) := by decide +kernel
theorem dX10_at_56 : decode cX10_at 56 = .ok (.invokevirtual 50, 3) := by decide +kernel
theorem dX10_at_59 : decode cX10_at 59 = .ok (.istore_n 3, 1) := by decide +kernel
theorem dX10_at_60 : decode cX10_at 60 = .ok (.aload_n 0, 1) := by decide +kernel
theorem dX10_at_61 : decode cX10_at 61 = .ok (.iload_n 1, 1) := by decide +kernel
theorem dX10_at_62 : decode cX10_at 62 = .ok (.iconst 3, 1) := by decide +kernel
theorem dX10_at_63 : decode cX10_at 63 = .ok (.iload_n 2, 1) := by decide +kernel
theorem dX10_at_64 : decode cX10_at 64 = .ok (.ifCond .ge 8, 3) := by decide +kernel
theorem dX10_at_67 : decode cX10_at 67 = .ok (.bipush (-9), 2) := by decide +kernel
theorem dX10_at_69 : decode cX10_at 69 = .ok (.goto 4, 3) := by decide +kernel
theorem dX10_at_72 : decode cX10_at 72 = .ok (.iload_n 2, 1) := by decide +kernel
theorem dX10_at_73 : decode cX10_at 73 = .ok (.invokevirtual 134, 3) := by decide +kernel
theorem dX10_at_76 : decode cX10_at 76 = .ok (.iload_n 3, 1) := by decide +kernel
theorem dX10_at_77 : decode cX10_at 77 = .ok (.ireturn, 1) := by decide +kernel
theorem dX10_toil_0 : decode cX10_toil 0 = .ok (.aload_n 0, 1) := by decide +kernel
theorem dX10_toil_1 : decode cX10_toil 1 = .ok (.iload_n 1, 1) := by decide +kernel
theorem dX10_toil_2 : decode cX10_toil 2 = .ok (.invokevirtual 131, 3) := by decide +kernel
theorem dX10_toil_5 : decode cX10_toil 5 = .ok (.ifCond .eq 14, 3) := by decide +kernel
theorem dX10_toil_8 : decode cX10_toil 8 = .ok (.iload_n 2, 1) := by decide +kernel
theorem dX10_toil_9 : decode cX10_toil 9 = .ok (.iconst 1, 1) := by decide +kernel
theorem dX10_toil_10 : decode cX10_toil 10 = .ok (.sipush 600, 3) := by decide +kernel
theorem dX10_toil_13 : decode cX10_toil 13 = .ok (.invokestatic 54, 3) := by decide +kernel
theorem dX10_toil_16 : decode cX10_toil 16 = .ok (.goto 4, 3) := by decide +kernel
theorem dX10_toil_19 : decode cX10_toil 19 = .ok (.iconst (-1), 1) := by decide +kernel
theorem dX10_toil_20 : decode cX10_toil 20 = .ok (.istore_n 3, 1) := by decide +kernel
theorem dX10_toil_21 : decode cX10_toil 21 = .ok (.iload_n 3, 1) := by decide +kernel
theorem dX10_toil_22 : decode cX10_toil 22 = .ok (.ifCond .ne 15, 3) := by decide +kernel
theorem dX10_toil_25 : decode cX10_toil 25 = .ok (.aload_n 0, 1) := by decide +kernel
theorem dX10_toil_26 : decode cX10_toil 26 = .ok (.iload_n 1, 1) := by decide +kernel
theorem dX10_toil_27 : decode cX10_toil 27 = .ok (.iconst 3, 1) := by decide +kernel
theorem dX10_toil_28 : decode cX10_toil 28 = .ok (.invokevirtual 50, 3) := by decide +kernel
theorem dX10_toil_31 : decode cX10_toil 31 = .ok (.ifCond .ge 6, 3) := by decide +kernel
theorem dX10_toil_34 : decode cX10_toil 34 = .ok (.bipush (-3), 2) := by decide +kernel
theorem dX10_toil_36 : decode cX10_toil 36 = .ok (.istore_n 3, 1) := by decide +kernel
theorem dX10_toil_37 : decode cX10_toil 37 = .ok (.iload_n 3, 1) := by decide +kernel
theorem dX10_toil_38 : decode cX10_toil 38 = .ok (.ifCond .eq 9, 3) := by decide +kernel
theorem dX10_toil_41 : decode cX10_toil 41 = .ok (.aload_n 0, 1) := by decide +kernel
theorem dX10_toil_42 : decode cX10_toil 42 = .ok (.iload_n 3, 1) := by decide +kernel
theorem dX10_toil_43 : decode cX10_toil 43 = .ok (.invokevirtual 62, 3) := by decide +kernel
theorem dX10_toil_46 : decode cX10_toil 46 = .ok (.ireturn, 1) := by decide +kernel
theorem dX10_toil_47 : decode cX10_toil 47 = .ok (.aload_n 0, 1) := by decide +kernel
theorem dX10_toil_48 : decode cX10_toil 48 = .ok (.iload_n 1, 1) := by decide +kernel
theorem dX10_toil_49 : decode cX10_toil 49 = .ok (.iconst 4, 1) := by decide +kernel
theorem dX10_toil_50 : decode cX10_toil 50 = .ok (.aload_n 0, 1) := by decide +kernel
theorem dX10_toil_51 : decode cX10_toil 51 = .ok (.iload_n 1, 1) := by decide +kernel
theorem dX10_toil_52 : decode cX10_toil 52 = .ok (.iconst 4, 1) := by decide +kernel
theorem dX10_toil_53 : decode cX10_toil 53 = .ok (.invokevirtual 50, 3) := by decide +kernel
theorem dX10_toil_56 : decode cX10_toil 56 = .ok (.iload_n 2, 1) := by decide +kernel
theorem dX10_toil_57 : decode cX10_toil 57 = .ok (.iadd, 1) := by decide +kernel
theorem dX10_toil_58 : decode cX10_toil 58 = .ok (.invokevirtual 134, 3) := by decide +kernel
theorem dX10_toil_61 : decode cX10_toil 61 = .ok (.aload_n 0, 1) := by decide +kernel
theorem dX10_toil_62 : decode cX10_toil 62 = .ok (.iload_n 1, 1) := by decide +kernel
theorem dX10_toil_63 : decode cX10_toil 63 = .ok (.iconst 5, 1) := by decide +kernel
theorem dX10_toil_64 : decode cX10_toil 64 = .ok (.aload_n 0, 1) := by decide +kernel
theorem dX10_toil_65 : decode cX10_toil 65 = .ok (.iload_n 1, 1) := by decide +kernel
theorem dX10_toil_66 : decode cX10_toil 66 = .ok (.iconst 5, 1) := by decide +kernel
theorem dX10_toil_67 : decode cX10_toil 67 = .ok (.invokevirtual 50, 3) := by decide +kernel
theorem dX10_toil_70 : decode cX10_toil 70 = .ok (.iload_n 2, 1) := by decide +kernel
theorem dX10_toil_71 : decode cX10_toil 71 = .ok (.bipush 12, 2) := by decide +kernel
theorem dX10_toil_73 : decode cX10_toil 73 = .ok (.imul, 1) := by decide +kernel
theorem dX10_toil_74 : decode cX10_toil 74 = .ok (.aload_n 0, 1) := by decide +kernel
theorem dX10_toil_75 : decode cX10_toil 75 = .ok (.iload_n 1, 1) := by decide +kernel
theorem dX10_toil_76 : decode cX10_toil 76 = .ok (.iconst 1, 1) := by decide +kernel
theorem dX10_toil_77 : decode cX10_toil 77 = .ok (.invokevirtual 50, 3) := by decide +kernel
theorem dX10_toil_80 : decode cX10_toil 80 = .ok (.idiv, 1) := by decide +kernel
theorem dX10_toil_81 : decode cX10_toil 81 = .ok (.iadd, 1) := by decide +kernel
theorem dX10_toil_82 : decode cX10_toil 82 = .ok (.invokevirtual 134, 3) := by decide +kernel
theorem dX10_toil_85 : decode cX10_toil 85 = .ok (.aload_n 0, 1) := by decide +kernel
theorem dX10_toil_86 : decode cX10_toil 86 = .ok (.iload_n 1, 1) := by decide +kernel
theorem dX10_toil_87 : decode cX10_toil 87 = .ok (.iconst 5, 1) := by decide +kernel
theorem dX10_toil_88 : decode cX10_toil 88 = .ok (.invokevirtual 50, 3) := by decide +kernel
theorem dX10_toil_91 : decode cX10_toil 91 = .ok (.ireturn, 1) := by decide +kernel
theorem dX10_rest_0 : decode cX10_rest 0 = .ok (.aload_n 0, 1) := by decide +kernel
theorem dX10_rest_1 : decode cX10_rest 1 = .ok (.iload_n 1, 1) := by decide +kernel
theorem dX10_rest_2 : decode cX10_rest 2 = .ok (.invokevirtual 131, 3) := by decide +kernel
theorem dX10_rest_5 : decode cX10_rest 5 = .ok (.ifCond .eq 14, 3) := by decide +kernel
theorem dX10_rest_8 : decode cX10_rest 8 = .ok (.iload_n 2, 1) := by decide +kernel
theorem dX10_rest_9 : decode cX10_rest 9 = .ok (.iconst 1, 1) := by decide +kernel
theorem dX10_rest_10 : decode cX10_rest 10 = .ok (.sipush 600, 3) := by decide +kernel
theorem dX10_rest_13 : decode cX10_rest 13 = .ok (.invokestatic 54, 3) := by decide +kernel
theorem dX10_rest_16 : decode cX10_rest 16 = .ok (.goto 4, 3) := by decide +kernel
theorem dX10_rest_19 : decode cX10_rest 19 = .ok (.iconst (-1), 1) := by decide +kernel
theorem dX10_rest_20 : decode cX10_rest 20 = .ok (.istore_n 3, 1) := by decide +kernel
theorem dX10_rest_21 : decode cX10_rest 21 = .ok (.iload_n 3, 1) := by decide +kernel
theorem dX10_rest_22 : decode cX10_rest 22 = .ok (.ifCond .eq 9, 3) := by decide +kernel
theorem dX10_rest_25 : decode cX10_rest 25 = .ok (.aload_n 0, 1) := by decide +kernel
theorem dX10_rest_26 : decode cX10_rest 26 = .ok (.iload_n 3, 1) := by decide +kernel
theorem dX10_rest_27 : decode cX10_rest 27 = .ok (.invokevirtual 62, 3) := by decide +kernel
theorem dX10_rest_30 : decode cX10_rest 30 = .ok (.ireturn, 1) := by decide +kernel
theorem dX10_rest_31 : decode cX10_rest 31 = .ok (.aload_n 0, 1) := by decide +kernel
theorem dX10_rest_32 : decode cX10_rest 32 = .ok (.iload_n 1, 1) := by decide +kernel
theorem dX10_rest_33 : decode cX10_rest 33 = .ok (.iconst 4, 1) := by decide +kernel
theorem dX10_rest_34 : decode cX10_rest 34 = .ok (.aload_n 0, 1) := by decide +kernel
theorem dX10_rest_35 : decode cX10_rest 35 = .ok (.iload_n 1, 1) := by decide +kernel
theorem dX10_rest_36 : decode cX10_rest 36 = .ok (.iconst 4, 1) := by decide +kernel
theorem dX10_rest_37 : decode cX10_rest 37 = .ok (.invokevirtual 50, 3) := by decide +kernel
theorem dX10_rest_40 : decode cX10_rest 40 = .ok (.iload_n 2, 1) := by decide +kernel
theorem dX10_rest_41 : decode cX10_rest 41 = .ok (.iadd, 1) := by decide +kernel
theorem dX10_rest_42 : decode cX10_rest 42 = .ok (.invokevirtual 134, 3) := by decide +kernel
theorem dX10_rest_45 : decode cX10_rest 45 = .ok (.aload_n 0, 1) := by decide +kernel
theorem dX10_rest_46 : decode cX10_rest 46 = .ok (.iload_n 1, 1) := by decide +kernel
theorem dX10_rest_47 : decode cX10_rest 47 = .ok (.iconst 5, 1) := by decide +kernel
theorem dX10_rest_48 : decode cX10_rest 48 = .ok (.iconst 0, 1) := by decide +kernel
theorem dX10_rest_49 : decode cX10_rest 49 = .ok (.aload_n 0, 1) := by decide +kernel
theorem dX10_rest_50 : decode cX10_rest 50 = .ok (.iload_n 1, 1) := by decide +kernel
theorem dX10_rest_51 : decode cX10_rest 51 = .ok (.iconst 5, 1) := by decide +kernel
theorem dX10_rest_52 : decode cX10_rest 52 = .ok (.invokevirtual 50, 3) := by decide +kernel
theorem dX10_rest_55 : decode cX10_rest 55 = .ok (.iconst 2, 1) := by decide +kernel
theorem dX10_rest_56 : decode cX10_rest 56 = .ok (.iload_n 2, 1) := by decide +kernel
theorem dX10_rest_57 : decode cX10_rest 57 = .ok (.imul, 1) := by decide +kernel
theorem dX10_rest_58 : decode cX10_rest 58 = .ok (.isub, 1) := by decide +kernel
theorem dX10_rest_59 : decode cX10_rest 59 = .ok (.invokestatic 141, 3) := by decide +kernel
theorem dX10_rest_62 : decode cX10_rest 62 = .ok (.invokevirtual 134, 3) := by decide +kernel
theorem dX10_rest_65 : decode cX10_rest 65 = .ok (.aload_n 0, 1) := by decide +kernel
theorem dX10_rest_66 : decode cX10_rest 66 = .ok (.iload_n 1, 1) := by decide +kernel
theorem dX10_rest_67 : decode cX10_rest 67 = .ok (.iconst 5, 1) := by decide +kernel
theorem dX10_rest_68 : decode cX10_rest 68 = .ok (.invokevirtual 50, 3) := by decide +kernel
theorem dX10_rest_71 : decode cX10_rest 71 = .ok (.ireturn, 1) := by decide +kernel
theorem dX10_lose_0 : decode cX10_lose 0 = .ok (.aload_n 0, 1) := by decide +kernel
theorem dX10_lose_1 : decode cX10_lose 1 = .ok (.iload_n 1, 1) := by decide +kernel
theorem dX10_lose_2 : decode cX10_lose 2 = .ok (.invokevirtual 131, 3) := by decide +kernel
theorem dX10_lose_5 : decode cX10_lose 5 = .ok (.ifCond .ne 9, 3) := by decide +kernel
theorem dX10_lose_8 : decode cX10_lose 8 = .ok (.aload_n 0, 1) := by decide +kernel
theorem dX10_lose_9 : decode cX10_lose 9 = .ok (.iconst (-1), 1) := by decide +kernel
theorem dX10_lose_10 : decode cX10_lose 10 = .ok (.invokevirtual 62, 3) := by decide +kernel
theorem dX10_lose_13 : decode cX10_lose 13 = .ok (.ireturn, 1) := by decide +kernel
theorem dX10_lose_14 : decode cX10_lose 14 = .ok (.aload_n 0, 1) := by decide +kernel
theorem dX10_lose_15 : decode cX10_lose 15 = .ok (.iload_n 1, 1) := by decide +kernel
theorem dX10_lose_16 : decode cX10_lose 16 = .ok (.iconst 0, 1) := by decide +kernel
theorem dX10_lose_17 : decode cX10_lose 17 = .ok (.iconst 0, 1) := by decide +kernel
theorem dX10_lose_18 : decode cX10_lose 18 = .ok (.invokevirtual 134, 3) := by decide +kernel
theorem dX10_lose_21 : decode cX10_lose 21 = .ok (.aload_n 0, 1) := by decide +kernel
theorem dX10_lose_22 : decode cX10_lose 22 = .ok (.iload_n 1, 1) := by decide +kernel
theorem dX10_lose_23 : decode cX10_lose 23 = .ok (.iconst 1, 1) := by decide +kernel
theorem dX10_lose_24 : decode cX10_lose 24 = .ok (.invokevirtual 50, 3) := by decide +kernel
theorem dX10_lose_27 : decode cX10_lose 27 = .ok (.ireturn, 1) := by decide +kernel
theorem dX10_begins_0 : decode cX10_begins 0 = .ok (.iconst 0, 1) := by decide +kernel
theorem dX10_begins_1 : decode cX10_begins 1 = .ok (.istore_n 1, 1) := by decide +kernel
theorem dX10_begins_2 : decode cX10_begins 2 = .ok (.iload_n 1, 1) := by decide +kernel
theorem dX10_begins_3 : decode cX10_begins 3 = .ok (.iconst 3, 1) := by decide +kernel
theorem dX10_begins_4 : decode cX10_begins 4 = .ok (.if_icmp .ge 16, 3) := by decide +kernel
theorem dX10_begins_7 : decode cX10_begins 7 = .ok (.aload_n 0, 1) := by decide +kernel
theorem dX10_begins_8 : decode cX10_begins 8 = .ok (.getfield 31, 3) := by decide +kernel
theorem dX10_begins_11 : decode cX10_begins 11 = .ok (.iload_n 1, 1) := by decide +kernel
theorem dX10_begins_12 : decode cX10_begins 12 = .ok (.iconst 0, 1) := by decide +kernel
theorem dX10_begins_13 : decode cX10_begins 13 = .ok (.iastore, 1) := by decide +kernel
theorem dX10_begins_14 : decode cX10_begins 14 = .ok (.iinc 1 1, 3) := by decide +kernel
theorem dX10_begins_17 : decode cX10_begins 17 = .ok (.goto (-15), 3) := by decide +kernel
theorem dX10_begins_20 : decode cX10_begins 20 = .ok (.aload_n 0, 1) := by decide +kernel
theorem dX10_begins_21 : decode cX10_begins 21 = .ok (.iconst 0, 1) := by decide +kernel
theorem dX10_begins_22 : decode cX10_begins 22 = .ok (.putfield 144, 3) := by decide +kernel
theorem dX10_begins_25 : decode cX10_begins 25 = .ok (.return_, 1) := by decide +kernel
theorem dX10_giftOf_0 : decode cX10_giftOf 0 = .ok (.iload 4, 2) := by decide +kernel
theorem dX10_giftOf_2 : decode cX10_giftOf 2 = .ok (.sipush 240, 3) := by decide +kernel
theorem dX10_giftOf_5 : decode cX10_giftOf 5 = .ok (.if_icmp .le 5, 3) := by decide +kernel
theorem dX10_giftOf_8 : decode cX10_giftOf 8 = .ok (.iconst 0, 1) := by decide +kernel
theorem dX10_giftOf_9 : decode cX10_giftOf 9 = .ok (.ireturn, 1) := by decide +kernel
theorem dX10_giftOf_10 : decode cX10_giftOf 10 = .ok (.iload_n 0, 1) := by decide +kernel
theorem dX10_giftOf_11 : decode cX10_giftOf 11 = .ok (.iconst 1, 1) := by decide +kernel
theorem dX10_giftOf_12 : decode cX10_giftOf 12 = .ok (.if_icmp .ne 9, 3) := by decide +kernel
theorem dX10_giftOf_15 : decode cX10_giftOf 15 = .ok (.iload_n 3, 1) := by decide +kernel
theorem dX10_giftOf_16 : decode cX10_giftOf 16 = .ok (.bipush 12, 2) := by decide +kernel
theorem dX10_giftOf_18 : decode cX10_giftOf 18 = .ok (.if_icmp .lt 19, 3) := by decide +kernel
theorem dX10_giftOf_21 : decode cX10_giftOf 21 = .ok (.iload_n 0, 1) := by decide +kernel
theorem dX10_giftOf_22 : decode cX10_giftOf 22 = .ok (.iconst 2, 1) := by decide +kernel
theorem dX10_giftOf_23 : decode cX10_giftOf 23 = .ok (.if_icmp .eq 8, 3) := by decide +kernel
theorem dX10_giftOf_26 : decode cX10_giftOf 26 = .ok (.iload_n 0, 1) := by decide +kernel
theorem dX10_giftOf_27 : decode cX10_giftOf 27 = .ok (.iconst 5, 1) := by decide +kernel
theorem dX10_giftOf_28 : decode cX10_giftOf 28 = .ok (.if_icmp .ne 11, 3) := by decide +kernel
theorem dX10_giftOf_31 : decode cX10_giftOf 31 = .ok (.iload_n 3, 1) := by decide +kernel
theorem dX10_giftOf_32 : decode cX10_giftOf 32 = .ok (.bipush 8, 2) := by decide +kernel
theorem dX10_giftOf_34 : decode cX10_giftOf 34 = .ok (.if_icmp .ge 5, 3) := by decide +kernel
theorem dX10_giftOf_37 : decode cX10_giftOf 37 = .ok (.iconst 0, 1) := by decide +kernel
theorem dX10_giftOf_38 : decode cX10_giftOf 38 = .ok (.ireturn, 1) := by decide +kernel
theorem dX10_giftOf_39 : decode cX10_giftOf 39 = .ok (.iload_n 1, 1) := by decide +kernel
theorem dX10_giftOf_40 : decode cX10_giftOf 40 = .ok (.istore 5, 2) := by decide +kernel
theorem dX10_giftOf_42 : decode cX10_giftOf 42 = .ok (.iload_n 0, 1) := by decide +kernel
theorem dX10_giftOf_43 : decode cX10_giftOf 43 = .ok (.iconst 5, 1) := by decide +kernel
theorem dX10_giftOf_44 : decode cX10_giftOf 44 = .ok (.if_icmp .ne 17, 3) := by decide +kernel
theorem dX10_giftOf_47 : decode cX10_giftOf 47 = .ok (.iload_n 2, 1) := by decide +kernel
theorem dX10_giftOf_48 : decode cX10_giftOf 48 = .ok (.ifCond .ne 13, 3) := by decide +kernel
theorem dX10_giftOf_51 : decode cX10_giftOf 51 = .ok (.iconst 0, 1) := by decide +kernel
theorem dX10_giftOf_52 : decode cX10_giftOf 52 = .ok (.iload_n 1, 1) := by decide +kernel
theorem dX10_giftOf_53 : decode cX10_giftOf 53 = .ok (.iload 4, 2) := by decide +kernel
theorem dX10_giftOf_55 : decode cX10_giftOf 55 = .ok (.isub, 1) := by decide +kernel
theorem dX10_giftOf_56 : decode cX10_giftOf 56 = .ok (.invokestatic 141, 3) := by decide +kernel
theorem dX10_giftOf_59 : decode cX10_giftOf 59 = .ok (.istore 5, 2) := by decide +kernel
theorem dX10_giftOf_61 : decode cX10_giftOf 61 = .ok (.iload_n 0, 1) := by decide +kernel
theorem dX10_giftOf_62 : decode cX10_giftOf 62 = .ok (.iconst 4, 1) := by decide +kernel
theorem dX10_giftOf_63 : decode cX10_giftOf 63 = .ok (.if_icmp .ne 13, 3) := by decide +kernel
theorem dX10_giftOf_66 : decode cX10_giftOf 66 = .ok (.iload_n 2, 1) := by decide +kernel
theorem dX10_giftOf_67 : decode cX10_giftOf 67 = .ok (.iconst 1, 1) := by decide +kernel
theorem dX10_giftOf_68 : decode cX10_giftOf 68 = .ok (.if_icmp .ne 8, 3) := by decide +kernel
theorem dX10_giftOf_71 : decode cX10_giftOf 71 = .ok (.iconst 2, 1) := by decide +kernel
theorem dX10_giftOf_72 : decode cX10_giftOf 72 = .ok (.iload_n 1, 1) := by decide +kernel
theorem dX10_giftOf_73 : decode cX10_giftOf 73 = .ok (.imul, 1) := by decide +kernel
theorem dX10_giftOf_74 : decode cX10_giftOf 74 = .ok (.istore 5, 2) := by decide +kernel
theorem dX10_giftOf_76 : decode cX10_giftOf 76 = .ok (.iload 5, 2) := by decide +kernel
theorem dX10_giftOf_78 : decode cX10_giftOf 78 = .ok (.iload_n 3, 1) := by decide +kernel
theorem dX10_giftOf_79 : decode cX10_giftOf 79 = .ok (.imul, 1) := by decide +kernel
theorem dX10_giftOf_80 : decode cX10_giftOf 80 = .ok (.ireturn, 1) := by decide +kernel
theorem dX10_gives_0 : decode cX10_gives 0 = .ok (.iconst 0, 1) := by decide +kernel
theorem dX10_gives_1 : decode cX10_gives 1 = .ok (.istore 5, 2) := by decide +kernel
theorem dX10_gives_3 : decode cX10_gives 3 = .ok (.iload 5, 2) := by decide +kernel
theorem dX10_gives_5 : decode cX10_gives 5 = .ok (.iconst 3, 1) := by decide +kernel
theorem dX10_gives_6 : decode cX10_gives 6 = .ok (.if_icmp .ge 35, 3) := by decide +kernel
theorem dX10_gives_9 : decode cX10_gives 9 = .ok (.aload_n 0, 1) := by decide +kernel
theorem dX10_gives_10 : decode cX10_gives 10 = .ok (.getfield 31, 3) := by decide +kernel
theorem dX10_gives_13 : decode cX10_gives 13 = .ok (.iload 5, 2) := by decide +kernel
theorem dX10_gives_15 : decode cX10_gives 15 = .ok (.dup2, 1) := by decide +kernel
theorem dX10_gives_16 : decode cX10_gives 16 = .ok (.iaload, 1) := by decide +kernel
theorem dX10_gives_17 : decode cX10_gives 17 = .ok (.iload_n 1, 1) := by decide +kernel
theorem dX10_gives_18 : decode cX10_gives 18 = .ok (.aload_n 0, 1) := by decide +kernel
theorem dX10_gives_19 : decode cX10_gives 19 = .ok (.iload_n 2, 1) := by decide +kernel
theorem dX10_gives_20 : decode cX10_gives 20 = .ok (.iload 5, 2) := by decide +kernel
theorem dX10_gives_22 : decode cX10_gives 22 = .ok (.invokevirtual 106, 3) := by decide +kernel
theorem dX10_gives_25 : decode cX10_gives 25 = .ok (.iload 5, 2) := by decide +kernel
theorem dX10_gives_27 : decode cX10_gives 27 = .ok (.iload_n 3, 1) := by decide +kernel
theorem dX10_gives_28 : decode cX10_gives 28 = .ok (.iload 4, 2) := by decide +kernel
theorem dX10_gives_30 : decode cX10_gives 30 = .ok (.invokestatic 147, 3) := by decide +kernel
theorem dX10_gives_33 : decode cX10_gives 33 = .ok (.iadd, 1) := by decide +kernel
theorem dX10_gives_34 : decode cX10_gives 34 = .ok (.iastore, 1) := by decide +kernel
theorem dX10_gives_35 : decode cX10_gives 35 = .ok (.iinc 5 1, 3) := by decide +kernel
theorem dX10_gives_38 : decode cX10_gives 38 = .ok (.goto (-35), 3) := by decide +kernel
theorem dX10_gives_41 : decode cX10_gives 41 = .ok (.aload_n 0, 1) := by decide +kernel
theorem dX10_gives_42 : decode cX10_gives 42 = .ok (.dup, 1) := by decide +kernel
theorem dX10_gives_43 : decode cX10_gives 43 = .ok (.getfield 144, 3) := by decide +kernel
theorem dX10_gives_46 : decode cX10_gives 46 = .ok (.iconst 1, 1) := by decide +kernel
theorem dX10_gives_47 : decode cX10_gives 47 = .ok (.iload_n 2, 1) := by decide +kernel
theorem dX10_gives_48 : decode cX10_gives 48 = .ok (.ishl, 1) := by decide +kernel
theorem dX10_gives_49 : decode cX10_gives 49 = .ok (.ior, 1) := by decide +kernel
theorem dX10_gives_50 : decode cX10_gives 50 = .ok (.putfield 144, 3) := by decide +kernel
theorem dX10_gives_53 : decode cX10_gives 53 = .ok (.return_, 1) := by decide +kernel
theorem dX10_doesOf_0 : decode cX10_doesOf 0 = .ok (.iload_n 1, 1) := by decide +kernel
theorem dX10_doesOf_1 : decode cX10_doesOf 1 = .ok (.iconst 3, 1) := by decide +kernel
theorem dX10_doesOf_2 : decode cX10_doesOf 2 = .ok (.if_icmp .ne 27, 3) := by decide +kernel
theorem dX10_doesOf_5 : decode cX10_doesOf 5 = .ok (.aload_n 0, 1) := by decide +kernel
theorem dX10_doesOf_6 : decode cX10_doesOf 6 = .ok (.getfield 144, 3) := by decide +kernel
theorem dX10_doesOf_9 : decode cX10_doesOf 9 = .ok (.invokestatic 138, 3) := by decide +kernel
theorem dX10_doesOf_12 : decode cX10_doesOf 12 = .ok (.iconst 1, 1) := by decide +kernel
theorem dX10_doesOf_13 : decode cX10_doesOf 13 = .ok (.if_icmp .le 16, 3) := by decide +kernel
theorem dX10_doesOf_16 : decode cX10_doesOf 16 = .ok (.aload_n 0, 1) := by decide +kernel
theorem dX10_doesOf_17 : decode cX10_doesOf 17 = .ok (.getfield 31, 3) := by decide +kernel
theorem dX10_doesOf_20 : decode cX10_doesOf 20 = .ok (.iload_n 2, 1) := by decide +kernel
theorem dX10_doesOf_21 : decode cX10_doesOf 21 = .ok (.iaload, 1) := by decide +kernel
theorem dX10_doesOf_22 : decode cX10_doesOf 22 = .ok (.iconst 3, 1) := by decide +kernel
theorem dX10_doesOf_23 : decode cX10_doesOf 23 = .ok (.imul, 1) := by decide +kernel
theorem dX10_doesOf_24 : decode cX10_doesOf 24 = .ok (.iconst 2, 1) := by decide +kernel
theorem dX10_doesOf_25 : decode cX10_doesOf 25 = .ok (.idiv, 1) := by decide +kernel
theorem dX10_doesOf_26 : decode cX10_doesOf 26 = .ok (.goto 9, 3) := by decide +kernel
theorem dX10_doesOf_29 : decode cX10_doesOf 29 = .ok (.aload_n 0, 1) := by decide +kernel
theorem dX10_doesOf_30 : decode cX10_doesOf 30 = .ok (.getfield 31, 3) := by decide +kernel
theorem dX10_doesOf_33 : decode cX10_doesOf 33 = .ok (.iload_n 2, 1) := by decide +kernel
theorem dX10_doesOf_34 : decode cX10_doesOf 34 = .ok (.iaload, 1) := by decide +kernel
theorem dX10_doesOf_35 : decode cX10_doesOf 35 = .ok (.ireturn, 1) := by decide +kernel
theorem dX10_gathers_0 : decode cX10_gathers 0 = .ok (.aload_n 0, 1) := by decide +kernel
theorem dX10_gathers_1 : decode cX10_gathers 1 = .ok (.invokevirtual 151, 3) := by decide +kernel
theorem dX10_gathers_4 : decode cX10_gathers 4 = .ok (.iconst 0, 1) := by decide +kernel
theorem dX10_gathers_5 : decode cX10_gathers 5 = .ok (.istore_n 2, 1) := by decide +kernel
theorem dX10_gathers_6 : decode cX10_gathers 6 = .ok (.iload_n 2, 1) := by decide +kernel
theorem dX10_gathers_7 : decode cX10_gathers 7 = .ok (.bipush 24, 2) := by decide +kernel
theorem dX10_gathers_9 : decode cX10_gathers 9 = .ok (.if_icmp .ge 58, 3) := by decide +kernel
theorem dX10_gathers_12 : decode cX10_gathers 12 = .ok (.aload_n 0, 1) := by decide +kernel
theorem dX10_gathers_13 : decode cX10_gathers 13 = .ok (.iload_n 2, 1) := by decide +kernel
theorem dX10_gathers_14 : decode cX10_gathers 14 = .ok (.iconst 0, 1) := by decide +kernel
theorem dX10_gathers_15 : decode cX10_gathers 15 = .ok (.invokevirtual 50, 3) := by decide +kernel
theorem dX10_gathers_18 : decode cX10_gathers 18 = .ok (.ifCond .le 43, 3) := by decide +kernel
theorem dX10_gathers_21 : decode cX10_gathers 21 = .ok (.aload_n 0, 1) := by decide +kernel
theorem dX10_gathers_22 : decode cX10_gathers 22 = .ok (.iload_n 2, 1) := by decide +kernel
theorem dX10_gathers_23 : decode cX10_gathers 23 = .ok (.iconst 3, 1) := by decide +kernel
theorem dX10_gathers_24 : decode cX10_gathers 24 = .ok (.invokevirtual 50, 3) := by decide +kernel
theorem dX10_gathers_27 : decode cX10_gathers 27 = .ok (.iload_n 1, 1) := by decide +kernel
theorem dX10_gathers_28 : decode cX10_gathers 28 = .ok (.if_icmp .ne 33, 3) := by decide +kernel
theorem dX10_gathers_31 : decode cX10_gathers 31 = .ok (.aload_n 0, 1) := by decide +kernel
theorem dX10_gathers_32 : decode cX10_gathers 32 = .ok (.aload_n 0, 1) := by decide +kernel
theorem dX10_gathers_33 : decode cX10_gathers 33 = .ok (.iload_n 1, 1) := by decide +kernel
theorem dX10_gathers_34 : decode cX10_gathers 34 = .ok (.iconst 0, 1) := by decide +kernel
theorem dX10_gathers_35 : decode cX10_gathers 35 = .ok (.invokevirtual 118, 3) := by decide +kernel
theorem dX10_gathers_38 : decode cX10_gathers 38 = .ok (.aload_n 0, 1) := by decide +kernel
theorem dX10_gathers_39 : decode cX10_gathers 39 = .ok (.iload_n 2, 1) := by decide +kernel
theorem dX10_gathers_40 : decode cX10_gathers 40 = .ok (.iconst 0, 1) := by decide +kernel
theorem dX10_gathers_41 : decode cX10_gathers 41 = .ok (.invokevirtual 50, 3) := by decide +kernel
theorem dX10_gathers_44 : decode cX10_gathers 44 = .ok (.iconst 1, 1) := by decide +kernel
theorem dX10_gathers_45 : decode cX10_gathers 45 = .ok (.isub, 1) := by decide +kernel
theorem dX10_gathers_46 : decode cX10_gathers 46 = .ok (.aload_n 0, 1) := by decide +kernel
theorem dX10_gathers_47 : decode cX10_gathers 47 = .ok (.iload_n 2, 1) := by decide +kernel
theorem dX10_gathers_48 : decode cX10_gathers 48 = .ok (.iconst 1, 1) := by decide +kernel
theorem dX10_gathers_49 : decode cX10_gathers 49 = .ok (.invokevirtual 50, 3) := by decide +kernel
theorem dX10_gathers_52 : decode cX10_gathers 52 = .ok (.aload_n 0, 1) := by decide +kernel
theorem dX10_gathers_53 : decode cX10_gathers 53 = .ok (.iload_n 2, 1) := by decide +kernel
theorem dX10_gathers_54 : decode cX10_gathers 54 = .ok (.iconst 5, 1) := by decide +kernel
theorem dX10_gathers_55 : decode cX10_gathers 55 = .ok (.invokevirtual 50, 3) := by decide +kernel
theorem dX10_gathers_58 : decode cX10_gathers 58 = .ok (.invokevirtual 154, 3) := by decide +kernel
theorem dX10_gathers_61 : decode cX10_gathers 61 = .ok (.iinc 2 1, 3) := by decide +kernel
theorem dX10_gathers_64 : decode cX10_gathers 64 = .ok (.goto (-58), 3) := by decide +kernel
theorem dX10_gathers_67 : decode cX10_gathers 67 = .ok (.return_, 1) := by decide +kernel
theorem dX10_does_0 : decode cX10_does 0 = .ok (.aload_n 0, 1) := by decide +kernel
theorem dX10_does_1 : decode cX10_does 1 = .ok (.iload_n 1, 1) := by decide +kernel
theorem dX10_does_2 : decode cX10_does 2 = .ok (.invokevirtual 115, 3) := by decide +kernel
theorem dX10_does_5 : decode cX10_does 5 = .ok (.ifCond .ne 9, 3) := by decide +kernel
theorem dX10_does_8 : decode cX10_does 8 = .ok (.aload_n 0, 1) := by decide +kernel
theorem dX10_does_9 : decode cX10_does 9 = .ok (.iconst (-1), 1) := by decide +kernel
theorem dX10_does_10 : decode cX10_does 10 = .ok (.invokevirtual 62, 3) := by decide +kernel
theorem dX10_does_13 : decode cX10_does 13 = .ok (.ireturn, 1) := by decide +kernel
theorem dX10_does_14 : decode cX10_does 14 = .ok (.iload_n 2, 1) := by decide +kernel
theorem dX10_does_15 : decode cX10_does 15 = .ok (.iconst 3, 1) := by decide +kernel
theorem dX10_does_16 : decode cX10_does 16 = .ok (.invokestatic 46, 3) := by decide +kernel
theorem dX10_does_19 : decode cX10_does 19 = .ok (.ifCond .ne 10, 3) := by decide +kernel
theorem dX10_does_22 : decode cX10_does 22 = .ok (.aload_n 0, 1) := by decide +kernel
theorem dX10_does_23 : decode cX10_does 23 = .ok (.bipush (-2), 2) := by decide +kernel
theorem dX10_does_25 : decode cX10_does 25 = .ok (.invokevirtual 62, 3) := by decide +kernel
theorem dX10_does_28 : decode cX10_does 28 = .ok (.ireturn, 1) := by decide +kernel
theorem dX10_does_29 : decode cX10_does 29 = .ok (.aload_n 0, 1) := by decide +kernel
theorem dX10_does_30 : decode cX10_does 30 = .ok (.iload_n 1, 1) := by decide +kernel
theorem dX10_does_31 : decode cX10_does 31 = .ok (.invokevirtual 158, 3) := by decide +kernel
theorem dX10_does_34 : decode cX10_does 34 = .ok (.aload_n 0, 1) := by decide +kernel
theorem dX10_does_35 : decode cX10_does 35 = .ok (.aload_n 0, 1) := by decide +kernel
theorem dX10_does_36 : decode cX10_does 36 = .ok (.iload_n 1, 1) := by decide +kernel
theorem dX10_does_37 : decode cX10_does 37 = .ok (.iconst 0, 1) := by decide +kernel
theorem dX10_does_38 : decode cX10_does 38 = .ok (.invokevirtual 118, 3) := by decide +kernel
theorem dX10_does_41 : decode cX10_does 41 = .ok (.iload_n 2, 1) := by decide +kernel
theorem dX10_does_42 : decode cX10_does 42 = .ok (.invokevirtual 162, 3) := by decide +kernel
theorem dX10_does_45 : decode cX10_does 45 = .ok (.ireturn, 1) := by decide +kernel
theorem dX10_findsWell_0 : decode cX10_findsWell 0 = .ok (.aload_n 0, 1) := by decide +kernel
theorem dX10_findsWell_1 : decode cX10_findsWell 1 = .ok (.iconst 1, 1) := by decide +kernel
theorem dX10_findsWell_2 : decode cX10_findsWell 2 = .ok (.putfield 165, 3) := by decide +kernel
theorem dX10_findsWell_5 : decode cX10_findsWell 5 = .ok (.aload_n 0, 1) := by decide +kernel
theorem dX10_findsWell_6 : decode cX10_findsWell 6 = .ok (.iconst 1, 1) := by decide +kernel
theorem dX10_findsWell_7 : decode cX10_findsWell 7 = .ok (.putfield 168, 3) := by decide +kernel
theorem dX10_findsWell_10 : decode cX10_findsWell 10 = .ok (.iconst 0, 1) := by decide +kernel
theorem dX10_findsWell_11 : decode cX10_findsWell 11 = .ok (.istore_n 2, 1) := by decide +kernel
theorem dX10_findsWell_12 : decode cX10_findsWell 12 = .ok (.iload_n 2, 1) := by decide +kernel
theorem dX10_findsWell_13 : decode cX10_findsWell 13 = .ok (.iconst 3, 1) := by decide +kernel
theorem dX10_findsWell_14 : decode cX10_findsWell 14 = .ok (.if_icmp .ge 71, 3) := by decide +kernel
theorem dX10_findsWell_17 : decode cX10_findsWell 17 = .ok (.bipush 12, 2) := by decide +kernel
theorem dX10_findsWell_19 : decode cX10_findsWell 19 = .ok (.aload_n 0, 1) := by decide +kernel
theorem dX10_findsWell_20 : decode cX10_findsWell 20 = .ok (.iload_n 1, 1) := by decide +kernel
theorem dX10_findsWell_21 : decode cX10_findsWell 21 = .ok (.iconst 2, 1) := by decide +kernel
theorem dX10_findsWell_22 : decode cX10_findsWell 22 = .ok (.iload_n 2, 1) := by decide +kernel
theorem dX10_findsWell_23 : decode cX10_findsWell 23 = .ok (.iadd, 1) := by decide +kernel
theorem dX10_findsWell_24 : decode cX10_findsWell 24 = .ok (.invokevirtual 118, 3) := by decide +kernel
theorem dX10_findsWell_27 : decode cX10_findsWell 27 = .ok (.imul, 1) := by decide +kernel
theorem dX10_findsWell_28 : decode cX10_findsWell 28 = .ok (.istore_n 3, 1) := by decide +kernel
theorem dX10_findsWell_29 : decode cX10_findsWell 29 = .ok (.iload_n 3, 1) := by decide +kernel
theorem dX10_findsWell_30 : decode cX10_findsWell 30 = .ok (.ifCond .ne 6, 3) := by decide +kernel
theorem dX10_findsWell_33 : decode cX10_findsWell 33 = .ok (.goto 46, 3) := by decide +kernel
theorem dX10_findsWell_36 : decode cX10_findsWell 36 = .ok (.aload_n 0, 1) := by decide +kernel
theorem dX10_findsWell_37 : decode cX10_findsWell 37 = .ok (.aload_n 0, 1) := by decide +kernel
theorem dX10_findsWell_38 : decode cX10_findsWell 38 = .ok (.iload_n 1, 1) := by decide +kernel
theorem dX10_findsWell_39 : decode cX10_findsWell 39 = .ok (.iconst 0, 1) := by decide +kernel
theorem dX10_findsWell_40 : decode cX10_findsWell 40 = .ok (.invokevirtual 118, 3) := by decide +kernel
theorem dX10_findsWell_43 : decode cX10_findsWell 43 = .ok (.iload_n 2, 1) := by decide +kernel
theorem dX10_findsWell_44 : decode cX10_findsWell 44 = .ok (.invokevirtual 162, 3) := by decide +kernel
theorem dX10_findsWell_47 : decode cX10_findsWell 47 = .ok (.istore 4, 2) := by decide +kernel
theorem dX10_findsWell_49 : decode cX10_findsWell 49 = .ok (.iload 4, 2) := by decide +kernel
theorem dX10_findsWell_51 : decode cX10_findsWell 51 = .ok (.aload_n 0, 1) := by decide +kernel
theorem dX10_findsWell_52 : decode cX10_findsWell 52 = .ok (.getfield 168, 3) := by decide +kernel
theorem dX10_findsWell_55 : decode cX10_findsWell 55 = .ok (.imul, 1) := by decide +kernel
theorem dX10_findsWell_56 : decode cX10_findsWell 56 = .ok (.aload_n 0, 1) := by decide +kernel
theorem dX10_findsWell_57 : decode cX10_findsWell 57 = .ok (.getfield 165, 3) := by decide +kernel
theorem dX10_findsWell_60 : decode cX10_findsWell 60 = .ok (.iload_n 3, 1) := by decide +kernel
theorem dX10_findsWell_61 : decode cX10_findsWell 61 = .ok (.imul, 1) := by decide +kernel
theorem dX10_findsWell_62 : decode cX10_findsWell 62 = .ok (.if_icmp .lt 6, 3) := by decide +kernel
theorem dX10_findsWell_65 : decode cX10_findsWell 65 = .ok (.goto 14, 3) := by decide +kernel
theorem dX10_findsWell_68 : decode cX10_findsWell 68 = .ok (.aload_n 0, 1) := by decide +kernel
theorem dX10_findsWell_69 : decode cX10_findsWell 69 = .ok (.iload 4, 2) := by decide +kernel
theorem dX10_findsWell_71 : decode cX10_findsWell 71 = .ok (.putfield 165, 3) := by decide +kernel
theorem dX10_findsWell_74 : decode cX10_findsWell 74 = .ok (.aload_n 0, 1) := by decide +kernel
theorem dX10_findsWell_75 : decode cX10_findsWell 75 = .ok (.iload_n 3, 1) := by decide +kernel
theorem dX10_findsWell_76 : decode cX10_findsWell 76 = .ok (.putfield 168, 3) := by decide +kernel
theorem dX10_findsWell_79 : decode cX10_findsWell 79 = .ok (.iinc 2 1, 3) := by decide +kernel
theorem dX10_findsWell_82 : decode cX10_findsWell 82 = .ok (.goto (-70), 3) := by decide +kernel
theorem dX10_findsWell_85 : decode cX10_findsWell 85 = .ok (.return_, 1) := by decide +kernel
theorem dX10_isDoneNow_0 : decode cX10_isDoneNow 0 = .ok (.aload_n 0, 1) := by decide +kernel
theorem dX10_isDoneNow_1 : decode cX10_isDoneNow 1 = .ok (.iload_n 1, 1) := by decide +kernel
theorem dX10_isDoneNow_2 : decode cX10_isDoneNow 2 = .ok (.invokevirtual 171, 3) := by decide +kernel
theorem dX10_isDoneNow_5 : decode cX10_isDoneNow 5 = .ok (.aload_n 0, 1) := by decide +kernel
theorem dX10_isDoneNow_6 : decode cX10_isDoneNow 6 = .ok (.getfield 165, 3) := by decide +kernel
theorem dX10_isDoneNow_9 : decode cX10_isDoneNow 9 = .ok (.aload_n 0, 1) := by decide +kernel
theorem dX10_isDoneNow_10 : decode cX10_isDoneNow 10 = .ok (.getfield 168, 3) := by decide +kernel
theorem dX10_isDoneNow_13 : decode cX10_isDoneNow 13 = .ok (.if_icmp .ne 7, 3) := by decide +kernel
theorem dX10_isDoneNow_16 : decode cX10_isDoneNow 16 = .ok (.iconst 1, 1) := by decide +kernel
theorem dX10_isDoneNow_17 : decode cX10_isDoneNow 17 = .ok (.goto 4, 3) := by decide +kernel
theorem dX10_isDoneNow_20 : decode cX10_isDoneNow 20 = .ok (.iconst 0, 1) := by decide +kernel
theorem dX10_isDoneNow_21 : decode cX10_isDoneNow 21 = .ok (.ireturn, 1) := by decide +kernel
theorem dX10_common_0 : decode cX10_common 0 = .ok (.iload_n 1, 1) := by decide +kernel
theorem dX10_common_1 : decode cX10_common 1 = .ok (.ifCond .ne 7, 3) := by decide +kernel
theorem dX10_common_4 : decode cX10_common 4 = .ok (.iload_n 0, 1) := by decide +kernel
theorem dX10_common_5 : decode cX10_common 5 = .ok (.goto 10, 3) := by decide +kernel
theorem dX10_common_8 : decode cX10_common 8 = .ok (.iload_n 1, 1) := by decide +kernel
theorem dX10_common_9 : decode cX10_common 9 = .ok (.iload_n 0, 1) := by decide +kernel
theorem dX10_common_10 : decode cX10_common 10 = .ok (.iload_n 1, 1) := by decide +kernel
theorem dX10_common_11 : decode cX10_common 11 = .ok (.irem, 1) := by decide +kernel
theorem dX10_common_12 : decode cX10_common 12 = .ok (.invokestatic 174, 3) := by decide +kernel
theorem dX10_common_15 : decode cX10_common 15 = .ok (.ireturn, 1) := by decide +kernel
theorem dX10_well_0 : decode cX10_well 0 = .ok (.aload_n 0, 1) := by decide +kernel
theorem dX10_well_1 : decode cX10_well 1 = .ok (.iload_n 1, 1) := by decide +kernel
theorem dX10_well_2 : decode cX10_well 2 = .ok (.invokevirtual 115, 3) := by decide +kernel
theorem dX10_well_5 : decode cX10_well 5 = .ok (.ifCond .ne 9, 3) := by decide +kernel
theorem dX10_well_8 : decode cX10_well 8 = .ok (.aload_n 0, 1) := by decide +kernel
theorem dX10_well_9 : decode cX10_well 9 = .ok (.iconst (-1), 1) := by decide +kernel
theorem dX10_well_10 : decode cX10_well 10 = .ok (.invokevirtual 62, 3) := by decide +kernel
theorem dX10_well_13 : decode cX10_well 13 = .ok (.ireturn, 1) := by decide +kernel
theorem dX10_well_14 : decode cX10_well 14 = .ok (.iload_n 2, 1) := by decide +kernel
theorem dX10_well_15 : decode cX10_well 15 = .ok (.iconst 2, 1) := by decide +kernel
theorem dX10_well_16 : decode cX10_well 16 = .ok (.invokestatic 46, 3) := by decide +kernel
theorem dX10_well_19 : decode cX10_well 19 = .ok (.ifCond .ne 10, 3) := by decide +kernel
theorem dX10_well_22 : decode cX10_well 22 = .ok (.aload_n 0, 1) := by decide +kernel
theorem dX10_well_23 : decode cX10_well 23 = .ok (.bipush (-2), 2) := by decide +kernel
theorem dX10_well_25 : decode cX10_well 25 = .ok (.invokevirtual 62, 3) := by decide +kernel
theorem dX10_well_28 : decode cX10_well 28 = .ok (.ireturn, 1) := by decide +kernel
theorem dX10_well_29 : decode cX10_well 29 = .ok (.aload_n 0, 1) := by decide +kernel
theorem dX10_well_30 : decode cX10_well 30 = .ok (.iload_n 1, 1) := by decide +kernel
theorem dX10_well_31 : decode cX10_well 31 = .ok (.invokevirtual 158, 3) := by decide +kernel
theorem dX10_well_34 : decode cX10_well 34 = .ok (.aload_n 0, 1) := by decide +kernel
theorem dX10_well_35 : decode cX10_well 35 = .ok (.iload_n 1, 1) := by decide +kernel
theorem dX10_well_36 : decode cX10_well 36 = .ok (.invokevirtual 171, 3) := by decide +kernel
theorem dX10_well_39 : decode cX10_well 39 = .ok (.aload_n 0, 1) := by decide +kernel
theorem dX10_well_40 : decode cX10_well 40 = .ok (.getfield 168, 3) := by decide +kernel
theorem dX10_well_43 : decode cX10_well 43 = .ok (.aload_n 0, 1) := by decide +kernel
theorem dX10_well_44 : decode cX10_well 44 = .ok (.getfield 165, 3) := by decide +kernel
theorem dX10_well_47 : decode cX10_well 47 = .ok (.invokestatic 174, 3) := by decide +kernel
theorem dX10_well_50 : decode cX10_well 50 = .ok (.istore_n 3, 1) := by decide +kernel
theorem dX10_well_51 : decode cX10_well 51 = .ok (.iload_n 2, 1) := by decide +kernel
theorem dX10_well_52 : decode cX10_well 52 = .ok (.ifCond .ne 12, 3) := by decide +kernel
theorem dX10_well_55 : decode cX10_well 55 = .ok (.aload_n 0, 1) := by decide +kernel
theorem dX10_well_56 : decode cX10_well 56 = .ok (.getfield 165, 3) := by decide +kernel
theorem dX10_well_59 : decode cX10_well 59 = .ok (.iload_n 3, 1) := by decide +kernel
theorem dX10_well_60 : decode cX10_well 60 = .ok (.idiv, 1) := by decide +kernel
theorem dX10_well_61 : decode cX10_well 61 = .ok (.goto 9, 3) := by decide +kernel
theorem dX10_well_64 : decode cX10_well 64 = .ok (.aload_n 0, 1) := by decide +kernel
theorem dX10_well_65 : decode cX10_well 65 = .ok (.getfield 168, 3) := by decide +kernel
theorem dX10_well_68 : decode cX10_well 68 = .ok (.iload_n 3, 1) := by decide +kernel
theorem dX10_well_69 : decode cX10_well 69 = .ok (.idiv, 1) := by decide +kernel
theorem dX10_well_70 : decode cX10_well 70 = .ok (.ireturn, 1) := by decide +kernel
theorem dX10_gathersBy_0 : decode cX10_gathersBy 0 = .ok (.aload_n 0, 1) := by decide +kernel
theorem dX10_gathersBy_1 : decode cX10_gathersBy 1 = .ok (.invokevirtual 151, 3) := by decide +kernel
theorem dX10_gathersBy_4 : decode cX10_gathersBy 4 = .ok (.iconst 0, 1) := by decide +kernel
theorem dX10_gathersBy_5 : decode cX10_gathersBy 5 = .ok (.istore 4, 2) := by decide +kernel
theorem dX10_gathersBy_7 : decode cX10_gathersBy 7 = .ok (.iload 4, 2) := by decide +kernel
theorem dX10_gathersBy_9 : decode cX10_gathersBy 9 = .ok (.aload_n 0, 1) := by decide +kernel
theorem dX10_gathersBy_10 : decode cX10_gathersBy 10 = .ok (.getfield 13, 3) := by decide +kernel
theorem dX10_gathersBy_13 : decode cX10_gathersBy 13 = .ok (.iconst 1, 1) := by decide +kernel
theorem dX10_gathersBy_14 : decode cX10_gathersBy 14 = .ok (.iaload, 1) := by decide +kernel
theorem dX10_gathersBy_15 : decode cX10_gathersBy 15 = .ok (.if_icmp .ge 49, 3) := by decide +kernel
theorem dX10_gathersBy_18 : decode cX10_gathersBy 18 = .ok (.aload_n 0, 1) := by decide +kernel
theorem dX10_gathersBy_19 : decode cX10_gathersBy 19 = .ok (.getfield 34, 3) := by decide +kernel
theorem dX10_gathersBy_22 : decode cX10_gathersBy 22 = .ok (.bipush 6, 2) := by decide +kernel
theorem dX10_gathersBy_24 : decode cX10_gathersBy 24 = .ok (.iload 4, 2) := by decide +kernel
theorem dX10_gathersBy_26 : decode cX10_gathersBy 26 = .ok (.imul, 1) := by decide +kernel
theorem dX10_gathersBy_27 : decode cX10_gathersBy 27 = .ok (.iload_n 1, 1) := by decide +kernel
theorem dX10_gathersBy_28 : decode cX10_gathersBy 28 = .ok (.iadd, 1) := by decide +kernel
theorem dX10_gathersBy_29 : decode cX10_gathersBy 29 = .ok (.iaload, 1) := by decide +kernel
theorem dX10_gathersBy_30 : decode cX10_gathersBy 30 = .ok (.ifCond .le 28, 3) := by decide +kernel
theorem dX10_gathersBy_33 : decode cX10_gathersBy 33 = .ok (.aload_n 0, 1) := by decide +kernel
theorem dX10_gathersBy_34 : decode cX10_gathersBy 34 = .ok (.aload_n 0, 1) := by decide +kernel
theorem dX10_gathersBy_35 : decode cX10_gathersBy 35 = .ok (.iload_n 1, 1) := by decide +kernel
theorem dX10_gathersBy_36 : decode cX10_gathersBy 36 = .ok (.iconst 0, 1) := by decide +kernel
theorem dX10_gathersBy_37 : decode cX10_gathersBy 37 = .ok (.invokevirtual 118, 3) := by decide +kernel
theorem dX10_gathersBy_40 : decode cX10_gathersBy 40 = .ok (.iload 4, 2) := by decide +kernel
theorem dX10_gathersBy_42 : decode cX10_gathersBy 42 = .ok (.aload_n 0, 1) := by decide +kernel
theorem dX10_gathersBy_43 : decode cX10_gathersBy 43 = .ok (.getfield 34, 3) := by decide +kernel
theorem dX10_gathersBy_46 : decode cX10_gathersBy 46 = .ok (.bipush 6, 2) := by decide +kernel
theorem dX10_gathersBy_48 : decode cX10_gathersBy 48 = .ok (.iload 4, 2) := by decide +kernel
theorem dX10_gathersBy_50 : decode cX10_gathersBy 50 = .ok (.imul, 1) := by decide +kernel
theorem dX10_gathersBy_51 : decode cX10_gathersBy 51 = .ok (.iload_n 1, 1) := by decide +kernel
theorem dX10_gathersBy_52 : decode cX10_gathersBy 52 = .ok (.iadd, 1) := by decide +kernel
theorem dX10_gathersBy_53 : decode cX10_gathersBy 53 = .ok (.iaload, 1) := by decide +kernel
theorem dX10_gathersBy_54 : decode cX10_gathersBy 54 = .ok (.iconst 0, 1) := by decide +kernel
theorem dX10_gathersBy_55 : decode cX10_gathersBy 55 = .ok (.invokevirtual 154, 3) := by decide +kernel
theorem dX10_gathersBy_58 : decode cX10_gathersBy 58 = .ok (.iinc 4 1, 3) := by decide +kernel
theorem dX10_gathersBy_61 : decode cX10_gathersBy 61 = .ok (.goto (-54), 3) := by decide +kernel
theorem dX10_gathersBy_64 : decode cX10_gathersBy 64 = .ok (.iload_n 3, 1) := by decide +kernel
theorem dX10_gathersBy_65 : decode cX10_gathersBy 65 = .ok (.ifCond .le 16, 3) := by decide +kernel
theorem dX10_gathersBy_68 : decode cX10_gathersBy 68 = .ok (.aload_n 0, 1) := by decide +kernel
theorem dX10_gathersBy_69 : decode cX10_gathersBy 69 = .ok (.aload_n 0, 1) := by decide +kernel
theorem dX10_gathersBy_70 : decode cX10_gathersBy 70 = .ok (.iload_n 1, 1) := by decide +kernel
theorem dX10_gathersBy_71 : decode cX10_gathersBy 71 = .ok (.iconst 0, 1) := by decide +kernel
theorem dX10_gathersBy_72 : decode cX10_gathersBy 72 = .ok (.invokevirtual 118, 3) := by decide +kernel
theorem dX10_gathersBy_75 : decode cX10_gathersBy 75 = .ok (.iload_n 2, 1) := by decide +kernel
theorem dX10_gathersBy_76 : decode cX10_gathersBy 76 = .ok (.iload_n 3, 1) := by decide +kernel
theorem dX10_gathersBy_77 : decode cX10_gathersBy 77 = .ok (.iconst 0, 1) := by decide +kernel
theorem dX10_gathersBy_78 : decode cX10_gathersBy 78 = .ok (.invokevirtual 154, 3) := by decide +kernel
theorem dX10_gathersBy_81 : decode cX10_gathersBy 81 = .ok (.return_, 1) := by decide +kernel
theorem dX10_isDoneBy_0 : decode cX10_isDoneBy 0 = .ok (.aload_n 0, 1) := by decide +kernel
theorem dX10_isDoneBy_1 : decode cX10_isDoneBy 1 = .ok (.iload_n 1, 1) := by decide +kernel
theorem dX10_isDoneBy_2 : decode cX10_isDoneBy 2 = .ok (.iload_n 2, 1) := by decide +kernel
theorem dX10_isDoneBy_3 : decode cX10_isDoneBy 3 = .ok (.iload_n 3, 1) := by decide +kernel
theorem dX10_isDoneBy_4 : decode cX10_isDoneBy 4 = .ok (.invokevirtual 177, 3) := by decide +kernel
theorem dX10_isDoneBy_7 : decode cX10_isDoneBy 7 = .ok (.aload_n 0, 1) := by decide +kernel
theorem dX10_isDoneBy_8 : decode cX10_isDoneBy 8 = .ok (.iload_n 1, 1) := by decide +kernel
theorem dX10_isDoneBy_9 : decode cX10_isDoneBy 9 = .ok (.invokevirtual 180, 3) := by decide +kernel
theorem dX10_isDoneBy_12 : decode cX10_isDoneBy 12 = .ok (.ireturn, 1) := by decide +kernel
theorem dX10_helps_0 : decode cX10_helps 0 = .ok (.aload_n 0, 1) := by decide +kernel
theorem dX10_helps_1 : decode cX10_helps 1 = .ok (.iload_n 1, 1) := by decide +kernel
theorem dX10_helps_2 : decode cX10_helps 2 = .ok (.iconst 0, 1) := by decide +kernel
theorem dX10_helps_3 : decode cX10_helps 3 = .ok (.invokevirtual 118, 3) := by decide +kernel
theorem dX10_helps_6 : decode cX10_helps 6 = .ok (.istore 4, 2) := by decide +kernel
theorem dX10_helps_8 : decode cX10_helps 8 = .ok (.aload_n 0, 1) := by decide +kernel
theorem dX10_helps_9 : decode cX10_helps 9 = .ok (.iload_n 1, 1) := by decide +kernel
theorem dX10_helps_10 : decode cX10_helps 10 = .ok (.iload_n 2, 1) := by decide +kernel
theorem dX10_helps_11 : decode cX10_helps 11 = .ok (.iconst 0, 1) := by decide +kernel
theorem dX10_helps_12 : decode cX10_helps 12 = .ok (.invokevirtual 177, 3) := by decide +kernel
theorem dX10_helps_15 : decode cX10_helps 15 = .ok (.iconst 0, 1) := by decide +kernel
theorem dX10_helps_16 : decode cX10_helps 16 = .ok (.istore 5, 2) := by decide +kernel
theorem dX10_helps_18 : decode cX10_helps 18 = .ok (.iload 5, 2) := by decide +kernel
theorem dX10_helps_20 : decode cX10_helps 20 = .ok (.iconst 3, 1) := by decide +kernel
theorem dX10_helps_21 : decode cX10_helps 21 = .ok (.if_icmp .ge 24, 3) := by decide +kernel
theorem dX10_helps_24 : decode cX10_helps 24 = .ok (.aload_n 0, 1) := by decide +kernel
theorem dX10_helps_25 : decode cX10_helps 25 = .ok (.getfield 37, 3) := by decide +kernel
theorem dX10_helps_28 : decode cX10_helps 28 = .ok (.iload 5, 2) := by decide +kernel
theorem dX10_helps_30 : decode cX10_helps 30 = .ok (.aload_n 0, 1) := by decide +kernel
theorem dX10_helps_31 : decode cX10_helps 31 = .ok (.iload 4, 2) := by decide +kernel
theorem dX10_helps_33 : decode cX10_helps 33 = .ok (.iload 5, 2) := by decide +kernel
theorem dX10_helps_35 : decode cX10_helps 35 = .ok (.invokevirtual 162, 3) := by decide +kernel
theorem dX10_helps_38 : decode cX10_helps 38 = .ok (.iastore, 1) := by decide +kernel
theorem dX10_helps_39 : decode cX10_helps 39 = .ok (.iinc 5 1, 3) := by decide +kernel
theorem dX10_helps_42 : decode cX10_helps 42 = .ok (.goto (-24), 3) := by decide +kernel
theorem dX10_helps_45 : decode cX10_helps 45 = .ok (.aload_n 0, 1) := by decide +kernel
theorem dX10_helps_46 : decode cX10_helps 46 = .ok (.iload_n 1, 1) := by decide +kernel
theorem dX10_helps_47 : decode cX10_helps 47 = .ok (.iload_n 2, 1) := by decide +kernel
theorem dX10_helps_48 : decode cX10_helps 48 = .ok (.iload_n 3, 1) := by decide +kernel
theorem dX10_helps_49 : decode cX10_helps 49 = .ok (.invokevirtual 177, 3) := by decide +kernel
theorem dX10_helps_52 : decode cX10_helps 52 = .ok (.iconst 0, 1) := by decide +kernel
theorem dX10_helps_53 : decode cX10_helps 53 = .ok (.istore 5, 2) := by decide +kernel
theorem dX10_helps_55 : decode cX10_helps 55 = .ok (.iload 5, 2) := by decide +kernel
theorem dX10_helps_57 : decode cX10_helps 57 = .ok (.iconst 3, 1) := by decide +kernel
theorem dX10_helps_58 : decode cX10_helps 58 = .ok (.if_icmp .ge 41, 3) := by decide +kernel
theorem dX10_helps_61 : decode cX10_helps 61 = .ok (.aload_n 0, 1) := by decide +kernel
theorem dX10_helps_62 : decode cX10_helps 62 = .ok (.iload_n 1, 1) := by decide +kernel
theorem dX10_helps_63 : decode cX10_helps 63 = .ok (.iconst 2, 1) := by decide +kernel
theorem dX10_helps_64 : decode cX10_helps 64 = .ok (.iload 5, 2) := by decide +kernel
theorem dX10_helps_66 : decode cX10_helps 66 = .ok (.iadd, 1) := by decide +kernel
theorem dX10_helps_67 : decode cX10_helps 67 = .ok (.invokevirtual 118, 3) := by decide +kernel
theorem dX10_helps_70 : decode cX10_helps 70 = .ok (.ifCond .le 23, 3) := by decide +kernel
theorem dX10_helps_73 : decode cX10_helps 73 = .ok (.aload_n 0, 1) := by decide +kernel
theorem dX10_helps_74 : decode cX10_helps 74 = .ok (.iload 4, 2) := by decide +kernel
theorem dX10_helps_76 : decode cX10_helps 76 = .ok (.iload 5, 2) := by decide +kernel
theorem dX10_helps_78 : decode cX10_helps 78 = .ok (.invokevirtual 162, 3) := by decide +kernel
theorem dX10_helps_81 : decode cX10_helps 81 = .ok (.aload_n 0, 1) := by decide +kernel
theorem dX10_helps_82 : decode cX10_helps 82 = .ok (.getfield 37, 3) := by decide +kernel
theorem dX10_helps_85 : decode cX10_helps 85 = .ok (.iload 5, 2) := by decide +kernel
theorem dX10_helps_87 : decode cX10_helps 87 = .ok (.iaload, 1) := by decide +kernel
theorem dX10_helps_88 : decode cX10_helps 88 = .ok (.if_icmp .le 5, 3) := by decide +kernel
theorem dX10_helps_91 : decode cX10_helps 91 = .ok (.iconst 1, 1) := by decide +kernel
theorem dX10_helps_92 : decode cX10_helps 92 = .ok (.ireturn, 1) := by decide +kernel
theorem dX10_helps_93 : decode cX10_helps 93 = .ok (.iinc 5 1, 3) := by decide +kernel
theorem dX10_helps_96 : decode cX10_helps 96 = .ok (.goto (-41), 3) := by decide +kernel
theorem dX10_helps_99 : decode cX10_helps 99 = .ok (.iconst 0, 1) := by decide +kernel
theorem dX10_helps_100 : decode cX10_helps 100 = .ok (.ireturn, 1) := by decide +kernel
theorem dX10_plansWholes_0 : decode cX10_plansWholes 0 = .ok (.iconst 0, 1) := by decide +kernel
theorem dX10_plansWholes_1 : decode cX10_plansWholes 1 = .ok (.istore_n 1, 1) := by decide +kernel
theorem dX10_plansWholes_2 : decode cX10_plansWholes 2 = .ok (.iload_n 1, 1) := by decide +kernel
theorem dX10_plansWholes_3 : decode cX10_plansWholes 3 = .ok (.aload_n 0, 1) := by decide +kernel
theorem dX10_plansWholes_4 : decode cX10_plansWholes 4 = .ok (.getfield 13, 3) := by decide +kernel
theorem dX10_plansWholes_7 : decode cX10_plansWholes 7 = .ok (.iconst 1, 1) := by decide +kernel
theorem dX10_plansWholes_8 : decode cX10_plansWholes 8 = .ok (.iaload, 1) := by decide +kernel
theorem dX10_plansWholes_9 : decode cX10_plansWholes 9 = .ok (.if_icmp .ge 67, 3) := by decide +kernel
theorem dX10_plansWholes_12 : decode cX10_plansWholes 12 = .ok (.iconst 0, 1) := by decide +kernel
theorem dX10_plansWholes_13 : decode cX10_plansWholes 13 = .ok (.istore_n 2, 1) := by decide +kernel
theorem dX10_plansWholes_14 : decode cX10_plansWholes 14 = .ok (.iload_n 2, 1) := by decide +kernel
theorem dX10_plansWholes_15 : decode cX10_plansWholes 15 = .ok (.aload_n 0, 1) := by decide +kernel
theorem dX10_plansWholes_16 : decode cX10_plansWholes 16 = .ok (.getfield 13, 3) := by decide +kernel
theorem dX10_plansWholes_19 : decode cX10_plansWholes 19 = .ok (.iconst 2, 1) := by decide +kernel
theorem dX10_plansWholes_20 : decode cX10_plansWholes 20 = .ok (.iaload, 1) := by decide +kernel
theorem dX10_plansWholes_21 : decode cX10_plansWholes 21 = .ok (.if_icmp .ge 49, 3) := by decide +kernel
theorem dX10_plansWholes_24 : decode cX10_plansWholes 24 = .ok (.aload_n 0, 1) := by decide +kernel
theorem dX10_plansWholes_25 : decode cX10_plansWholes 25 = .ok (.iload_n 2, 1) := by decide +kernel
theorem dX10_plansWholes_26 : decode cX10_plansWholes 26 = .ok (.iload_n 1, 1) := by decide +kernel
theorem dX10_plansWholes_27 : decode cX10_plansWholes 27 = .ok (.iconst 0, 1) := by decide +kernel
theorem dX10_plansWholes_28 : decode cX10_plansWholes 28 = .ok (.invokevirtual 183, 3) := by decide +kernel
theorem dX10_plansWholes_31 : decode cX10_plansWholes 31 = .ok (.ifCond .ne 33, 3) := by decide +kernel
theorem dX10_plansWholes_34 : decode cX10_plansWholes 34 = .ok (.aload_n 0, 1) := by decide +kernel
theorem dX10_plansWholes_35 : decode cX10_plansWholes 35 = .ok (.iload_n 2, 1) := by decide +kernel
theorem dX10_plansWholes_36 : decode cX10_plansWholes 36 = .ok (.iload_n 1, 1) := by decide +kernel
theorem dX10_plansWholes_37 : decode cX10_plansWholes 37 = .ok (.bipush 12, 2) := by decide +kernel
theorem dX10_plansWholes_39 : decode cX10_plansWholes 39 = .ok (.invokevirtual 187, 3) := by decide +kernel
theorem dX10_plansWholes_42 : decode cX10_plansWholes 42 = .ok (.ifCond .ne 6, 3) := by decide +kernel
theorem dX10_plansWholes_45 : decode cX10_plansWholes 45 = .ok (.goto 19, 3) := by decide +kernel
theorem dX10_plansWholes_48 : decode cX10_plansWholes 48 = .ok (.aload_n 0, 1) := by decide +kernel
theorem dX10_plansWholes_49 : decode cX10_plansWholes 49 = .ok (.getfield 34, 3) := by decide +kernel
theorem dX10_plansWholes_52 : decode cX10_plansWholes 52 = .ok (.bipush 6, 2) := by decide +kernel
theorem dX10_plansWholes_54 : decode cX10_plansWholes 54 = .ok (.iload_n 1, 1) := by decide +kernel
theorem dX10_plansWholes_55 : decode cX10_plansWholes 55 = .ok (.imul, 1) := by decide +kernel
theorem dX10_plansWholes_56 : decode cX10_plansWholes 56 = .ok (.iload_n 2, 1) := by decide +kernel
theorem dX10_plansWholes_57 : decode cX10_plansWholes 57 = .ok (.iadd, 1) := by decide +kernel
theorem dX10_plansWholes_58 : decode cX10_plansWholes 58 = .ok (.bipush 12, 2) := by decide +kernel
theorem dX10_plansWholes_60 : decode cX10_plansWholes 60 = .ok (.iastore, 1) := by decide +kernel
theorem dX10_plansWholes_61 : decode cX10_plansWholes 61 = .ok (.goto 9, 3) := by decide +kernel
theorem dX10_plansWholes_64 : decode cX10_plansWholes 64 = .ok (.iinc 2 1, 3) := by decide +kernel
theorem dX10_plansWholes_67 : decode cX10_plansWholes 67 = .ok (.goto (-53), 3) := by decide +kernel
theorem dX10_plansWholes_70 : decode cX10_plansWholes 70 = .ok (.iinc 1 1, 3) := by decide +kernel
theorem dX10_plansWholes_73 : decode cX10_plansWholes 73 = .ok (.goto (-71), 3) := by decide +kernel
theorem dX10_plansWholes_76 : decode cX10_plansWholes 76 = .ok (.return_, 1) := by decide +kernel
theorem dX10_plansEven_0 : decode cX10_plansEven 0 = .ok (.aload_n 0, 1) := by decide +kernel
theorem dX10_plansEven_1 : decode cX10_plansEven 1 = .ok (.getfield 13, 3) := by decide +kernel
theorem dX10_plansEven_4 : decode cX10_plansEven 4 = .ok (.iconst 2, 1) := by decide +kernel
theorem dX10_plansEven_5 : decode cX10_plansEven 5 = .ok (.iaload, 1) := by decide +kernel
theorem dX10_plansEven_6 : decode cX10_plansEven 6 = .ok (.ifCond .ne 4, 3) := by decide +kernel
theorem dX10_plansEven_9 : decode cX10_plansEven 9 = .ok (.return_, 1) := by decide +kernel
theorem dX10_plansEven_10 : decode cX10_plansEven 10 = .ok (.bipush 12, 2) := by decide +kernel
theorem dX10_plansEven_12 : decode cX10_plansEven 12 = .ok (.aload_n 0, 1) := by decide +kernel
theorem dX10_plansEven_13 : decode cX10_plansEven 13 = .ok (.getfield 13, 3) := by decide +kernel
theorem dX10_plansEven_16 : decode cX10_plansEven 16 = .ok (.iconst 2, 1) := by decide +kernel
theorem dX10_plansEven_17 : decode cX10_plansEven 17 = .ok (.iaload, 1) := by decide +kernel
theorem dX10_plansEven_18 : decode cX10_plansEven 18 = .ok (.idiv, 1) := by decide +kernel
theorem dX10_plansEven_19 : decode cX10_plansEven 19 = .ok (.istore_n 1, 1) := by decide +kernel
theorem dX10_plansEven_20 : decode cX10_plansEven 20 = .ok (.iconst 0, 1) := by decide +kernel
theorem dX10_plansEven_21 : decode cX10_plansEven 21 = .ok (.istore_n 2, 1) := by decide +kernel
theorem dX10_plansEven_22 : decode cX10_plansEven 22 = .ok (.iload_n 2, 1) := by decide +kernel
theorem dX10_plansEven_23 : decode cX10_plansEven 23 = .ok (.aload_n 0, 1) := by decide +kernel
theorem dX10_plansEven_24 : decode cX10_plansEven 24 = .ok (.getfield 13, 3) := by decide +kernel
theorem dX10_plansEven_27 : decode cX10_plansEven 27 = .ok (.iconst 1, 1) := by decide +kernel
theorem dX10_plansEven_28 : decode cX10_plansEven 28 = .ok (.iaload, 1) := by decide +kernel
theorem dX10_plansEven_29 : decode cX10_plansEven 29 = .ok (.if_icmp .ge 49, 3) := by decide +kernel
theorem dX10_plansEven_32 : decode cX10_plansEven 32 = .ok (.iconst 0, 1) := by decide +kernel
theorem dX10_plansEven_33 : decode cX10_plansEven 33 = .ok (.istore_n 3, 1) := by decide +kernel
theorem dX10_plansEven_34 : decode cX10_plansEven 34 = .ok (.iload_n 3, 1) := by decide +kernel
theorem dX10_plansEven_35 : decode cX10_plansEven 35 = .ok (.aload_n 0, 1) := by decide +kernel
theorem dX10_plansEven_36 : decode cX10_plansEven 36 = .ok (.getfield 13, 3) := by decide +kernel
theorem dX10_plansEven_39 : decode cX10_plansEven 39 = .ok (.iconst 2, 1) := by decide +kernel
theorem dX10_plansEven_40 : decode cX10_plansEven 40 = .ok (.iaload, 1) := by decide +kernel
theorem dX10_plansEven_41 : decode cX10_plansEven 41 = .ok (.if_icmp .ge 31, 3) := by decide +kernel
theorem dX10_plansEven_44 : decode cX10_plansEven 44 = .ok (.iload_n 1, 1) := by decide +kernel
theorem dX10_plansEven_45 : decode cX10_plansEven 45 = .ok (.aload_n 0, 1) := by decide +kernel
theorem dX10_plansEven_46 : decode cX10_plansEven 46 = .ok (.iload_n 2, 1) := by decide +kernel
theorem dX10_plansEven_47 : decode cX10_plansEven 47 = .ok (.iconst 3, 1) := by decide +kernel
theorem dX10_plansEven_48 : decode cX10_plansEven 48 = .ok (.invokevirtual 106, 3) := by decide +kernel
theorem dX10_plansEven_51 : decode cX10_plansEven 51 = .ok (.if_icmp .lt 21, 3) := by decide +kernel
theorem dX10_plansEven_54 : decode cX10_plansEven 54 = .ok (.aload_n 0, 1) := by decide +kernel
theorem dX10_plansEven_55 : decode cX10_plansEven 55 = .ok (.getfield 34, 3) := by decide +kernel
theorem dX10_plansEven_58 : decode cX10_plansEven 58 = .ok (.bipush 6, 2) := by decide +kernel
theorem dX10_plansEven_60 : decode cX10_plansEven 60 = .ok (.iload_n 2, 1) := by decide +kernel
theorem dX10_plansEven_61 : decode cX10_plansEven 61 = .ok (.imul, 1) := by decide +kernel
theorem dX10_plansEven_62 : decode cX10_plansEven 62 = .ok (.iload_n 3, 1) := by decide +kernel
theorem dX10_plansEven_63 : decode cX10_plansEven 63 = .ok (.iadd, 1) := by decide +kernel
theorem dX10_plansEven_64 : decode cX10_plansEven 64 = .ok (.iload_n 1, 1) := by decide +kernel
theorem dX10_plansEven_65 : decode cX10_plansEven 65 = .ok (.iastore, 1) := by decide +kernel
theorem dX10_plansEven_66 : decode cX10_plansEven 66 = .ok (.iinc 3 1, 3) := by decide +kernel
theorem dX10_plansEven_69 : decode cX10_plansEven 69 = .ok (.goto (-35), 3) := by decide +kernel
theorem dX10_plansEven_72 : decode cX10_plansEven 72 = .ok (.iinc 2 1, 3) := by decide +kernel
theorem dX10_plansEven_75 : decode cX10_plansEven 75 = .ok (.goto (-53), 3) := by decide +kernel
theorem dX10_plansEven_78 : decode cX10_plansEven 78 = .ok (.return_, 1) := by decide +kernel
theorem dX10_givenOf_0 : decode cX10_givenOf 0 = .ok (.iconst 0, 1) := by decide +kernel
theorem dX10_givenOf_1 : decode cX10_givenOf 1 = .ok (.istore_n 2, 1) := by decide +kernel
theorem dX10_givenOf_2 : decode cX10_givenOf 2 = .ok (.iconst 0, 1) := by decide +kernel
theorem dX10_givenOf_3 : decode cX10_givenOf 3 = .ok (.istore_n 3, 1) := by decide +kernel
theorem dX10_givenOf_4 : decode cX10_givenOf 4 = .ok (.iload_n 3, 1) := by decide +kernel
theorem dX10_givenOf_5 : decode cX10_givenOf 5 = .ok (.bipush 6, 2) := by decide +kernel
theorem dX10_givenOf_7 : decode cX10_givenOf 7 = .ok (.if_icmp .ge 23, 3) := by decide +kernel
theorem dX10_givenOf_10 : decode cX10_givenOf 10 = .ok (.iload_n 2, 1) := by decide +kernel
theorem dX10_givenOf_11 : decode cX10_givenOf 11 = .ok (.aload_n 0, 1) := by decide +kernel
theorem dX10_givenOf_12 : decode cX10_givenOf 12 = .ok (.getfield 34, 3) := by decide +kernel
theorem dX10_givenOf_15 : decode cX10_givenOf 15 = .ok (.bipush 6, 2) := by decide +kernel
theorem dX10_givenOf_17 : decode cX10_givenOf 17 = .ok (.iload_n 1, 1) := by decide +kernel
theorem dX10_givenOf_18 : decode cX10_givenOf 18 = .ok (.imul, 1) := by decide +kernel
theorem dX10_givenOf_19 : decode cX10_givenOf 19 = .ok (.iload_n 3, 1) := by decide +kernel
theorem dX10_givenOf_20 : decode cX10_givenOf 20 = .ok (.iadd, 1) := by decide +kernel
theorem dX10_givenOf_21 : decode cX10_givenOf 21 = .ok (.iaload, 1) := by decide +kernel
theorem dX10_givenOf_22 : decode cX10_givenOf 22 = .ok (.iadd, 1) := by decide +kernel
theorem dX10_givenOf_23 : decode cX10_givenOf 23 = .ok (.istore_n 2, 1) := by decide +kernel
theorem dX10_givenOf_24 : decode cX10_givenOf 24 = .ok (.iinc 3 1, 3) := by decide +kernel
theorem dX10_givenOf_27 : decode cX10_givenOf 27 = .ok (.goto (-23), 3) := by decide +kernel
theorem dX10_givenOf_30 : decode cX10_givenOf 30 = .ok (.iload_n 2, 1) := by decide +kernel
theorem dX10_givenOf_31 : decode cX10_givenOf 31 = .ok (.ireturn, 1) := by decide +kernel
theorem dX10_plansNeed_0 : decode cX10_plansNeed 0 = .ok (.iconst 0, 1) := by decide +kernel
theorem dX10_plansNeed_1 : decode cX10_plansNeed 1 = .ok (.istore_n 2, 1) := by decide +kernel
theorem dX10_plansNeed_2 : decode cX10_plansNeed 2 = .ok (.iload_n 2, 1) := by decide +kernel
theorem dX10_plansNeed_3 : decode cX10_plansNeed 3 = .ok (.aload_n 0, 1) := by decide +kernel
theorem dX10_plansNeed_4 : decode cX10_plansNeed 4 = .ok (.getfield 13, 3) := by decide +kernel
theorem dX10_plansNeed_7 : decode cX10_plansNeed 7 = .ok (.iconst 2, 1) := by decide +kernel
theorem dX10_plansNeed_8 : decode cX10_plansNeed 8 = .ok (.iaload, 1) := by decide +kernel
theorem dX10_plansNeed_9 : decode cX10_plansNeed 9 = .ok (.if_icmp .ge 146, 3) := by decide +kernel
theorem dX10_plansNeed_12 : decode cX10_plansNeed 12 = .ok (.iconst 0, 1) := by decide +kernel
theorem dX10_plansNeed_13 : decode cX10_plansNeed 13 = .ok (.istore_n 3, 1) := by decide +kernel
theorem dX10_plansNeed_14 : decode cX10_plansNeed 14 = .ok (.iload_n 3, 1) := by decide +kernel
theorem dX10_plansNeed_15 : decode cX10_plansNeed 15 = .ok (.aload_n 0, 1) := by decide +kernel
theorem dX10_plansNeed_16 : decode cX10_plansNeed 16 = .ok (.getfield 13, 3) := by decide +kernel
theorem dX10_plansNeed_19 : decode cX10_plansNeed 19 = .ok (.iconst 1, 1) := by decide +kernel
theorem dX10_plansNeed_20 : decode cX10_plansNeed 20 = .ok (.iaload, 1) := by decide +kernel
theorem dX10_plansNeed_21 : decode cX10_plansNeed 21 = .ok (.if_icmp .ge 128, 3) := by decide +kernel
theorem dX10_plansNeed_24 : decode cX10_plansNeed 24 = .ok (.aload_n 0, 1) := by decide +kernel
theorem dX10_plansNeed_25 : decode cX10_plansNeed 25 = .ok (.iload_n 2, 1) := by decide +kernel
theorem dX10_plansNeed_26 : decode cX10_plansNeed 26 = .ok (.iload_n 3, 1) := by decide +kernel
theorem dX10_plansNeed_27 : decode cX10_plansNeed 27 = .ok (.iconst 0, 1) := by decide +kernel
theorem dX10_plansNeed_28 : decode cX10_plansNeed 28 = .ok (.invokevirtual 183, 3) := by decide +kernel
theorem dX10_plansNeed_31 : decode cX10_plansNeed 31 = .ok (.ifCond .ne 118, 3) := by decide +kernel
theorem dX10_plansNeed_34 : decode cX10_plansNeed 34 = .ok (.aload_n 0, 1) := by decide +kernel
theorem dX10_plansNeed_35 : decode cX10_plansNeed 35 = .ok (.iload_n 3, 1) := by decide +kernel
theorem dX10_plansNeed_36 : decode cX10_plansNeed 36 = .ok (.iconst 3, 1) := by decide +kernel
theorem dX10_plansNeed_37 : decode cX10_plansNeed 37 = .ok (.invokevirtual 106, 3) := by decide +kernel
theorem dX10_plansNeed_40 : decode cX10_plansNeed 40 = .ok (.istore 4, 2) := by decide +kernel
theorem dX10_plansNeed_42 : decode cX10_plansNeed 42 = .ok (.bipush 12, 2) := by decide +kernel
theorem dX10_plansNeed_44 : decode cX10_plansNeed 44 = .ok (.aload_n 0, 1) := by decide +kernel
theorem dX10_plansNeed_45 : decode cX10_plansNeed 45 = .ok (.iload_n 3, 1) := by decide +kernel
theorem dX10_plansNeed_46 : decode cX10_plansNeed 46 = .ok (.invokevirtual 190, 3) := by decide +kernel
theorem dX10_plansNeed_49 : decode cX10_plansNeed 49 = .ok (.isub, 1) := by decide +kernel
theorem dX10_plansNeed_50 : decode cX10_plansNeed 50 = .ok (.iload_n 1, 1) := by decide +kernel
theorem dX10_plansNeed_51 : decode cX10_plansNeed 51 = .ok (.ifCond .eq 8, 3) := by decide +kernel
theorem dX10_plansNeed_54 : decode cX10_plansNeed 54 = .ok (.iload 4, 2) := by decide +kernel
theorem dX10_plansNeed_56 : decode cX10_plansNeed 56 = .ok (.goto 4, 3) := by decide +kernel
theorem dX10_plansNeed_59 : decode cX10_plansNeed 59 = .ok (.iconst 0, 1) := by decide +kernel
theorem dX10_plansNeed_60 : decode cX10_plansNeed 60 = .ok (.isub, 1) := by decide +kernel
theorem dX10_plansNeed_61 : decode cX10_plansNeed 61 = .ok (.istore 5, 2) := by decide +kernel
theorem dX10_plansNeed_63 : decode cX10_plansNeed 63 = .ok (.iconst 0, 1) := by decide +kernel
theorem dX10_plansNeed_64 : decode cX10_plansNeed 64 = .ok (.istore 6, 2) := by decide +kernel
theorem dX10_plansNeed_66 : decode cX10_plansNeed 66 = .ok (.iload 5, 2) := by decide +kernel
theorem dX10_plansNeed_68 : decode cX10_plansNeed 68 = .ok (.istore 7, 2) := by decide +kernel
theorem dX10_plansNeed_70 : decode cX10_plansNeed 70 = .ok (.iload 7, 2) := by decide +kernel
theorem dX10_plansNeed_72 : decode cX10_plansNeed 72 = .ok (.iload 4, 2) := by decide +kernel
theorem dX10_plansNeed_74 : decode cX10_plansNeed 74 = .ok (.if_icmp .lt 29, 3) := by decide +kernel
theorem dX10_plansNeed_77 : decode cX10_plansNeed 77 = .ok (.aload_n 0, 1) := by decide +kernel
theorem dX10_plansNeed_78 : decode cX10_plansNeed 78 = .ok (.iload_n 2, 1) := by decide +kernel
theorem dX10_plansNeed_79 : decode cX10_plansNeed 79 = .ok (.iload_n 3, 1) := by decide +kernel
theorem dX10_plansNeed_80 : decode cX10_plansNeed 80 = .ok (.iload 7, 2) := by decide +kernel
theorem dX10_plansNeed_82 : decode cX10_plansNeed 82 = .ok (.invokevirtual 183, 3) := by decide +kernel
theorem dX10_plansNeed_85 : decode cX10_plansNeed 85 = .ok (.ifCond .eq 8, 3) := by decide +kernel
theorem dX10_plansNeed_88 : decode cX10_plansNeed 88 = .ok (.iload 7, 2) := by decide +kernel
theorem dX10_plansNeed_90 : decode cX10_plansNeed 90 = .ok (.goto 5, 3) := by decide +kernel
theorem dX10_plansNeed_93 : decode cX10_plansNeed 93 = .ok (.iload 6, 2) := by decide +kernel
theorem dX10_plansNeed_95 : decode cX10_plansNeed 95 = .ok (.istore 6, 2) := by decide +kernel
theorem dX10_plansNeed_97 : decode cX10_plansNeed 97 = .ok (.iinc 7 (-1), 3) := by decide +kernel
theorem dX10_plansNeed_100 : decode cX10_plansNeed 100 = .ok (.goto (-30), 3) := by decide +kernel
theorem dX10_plansNeed_103 : decode cX10_plansNeed 103 = .ok (.iload 6, 2) := by decide +kernel
theorem dX10_plansNeed_105 : decode cX10_plansNeed 105 = .ok (.ifCond .ne 25, 3) := by decide +kernel
theorem dX10_plansNeed_108 : decode cX10_plansNeed 108 = .ok (.iload 5, 2) := by decide +kernel
theorem dX10_plansNeed_110 : decode cX10_plansNeed 110 = .ok (.iload 4, 2) := by decide +kernel
theorem dX10_plansNeed_112 : decode cX10_plansNeed 112 = .ok (.if_icmp .lt 18, 3) := by decide +kernel
theorem dX10_plansNeed_115 : decode cX10_plansNeed 115 = .ok (.aload_n 0, 1) := by decide +kernel
theorem dX10_plansNeed_116 : decode cX10_plansNeed 116 = .ok (.iload_n 2, 1) := by decide +kernel
theorem dX10_plansNeed_117 : decode cX10_plansNeed 117 = .ok (.iload_n 3, 1) := by decide +kernel
theorem dX10_plansNeed_118 : decode cX10_plansNeed 118 = .ok (.iload 5, 2) := by decide +kernel
theorem dX10_plansNeed_120 : decode cX10_plansNeed 120 = .ok (.invokevirtual 187, 3) := by decide +kernel
theorem dX10_plansNeed_123 : decode cX10_plansNeed 123 = .ok (.ifCond .eq 7, 3) := by decide +kernel
theorem dX10_plansNeed_126 : decode cX10_plansNeed 126 = .ok (.iload 5, 2) := by decide +kernel
theorem dX10_plansNeed_128 : decode cX10_plansNeed 128 = .ok (.istore 6, 2) := by decide +kernel
theorem dX10_plansNeed_130 : decode cX10_plansNeed 130 = .ok (.aload_n 0, 1) := by decide +kernel
theorem dX10_plansNeed_131 : decode cX10_plansNeed 131 = .ok (.getfield 34, 3) := by decide +kernel
theorem dX10_plansNeed_134 : decode cX10_plansNeed 134 = .ok (.bipush 6, 2) := by decide +kernel
theorem dX10_plansNeed_136 : decode cX10_plansNeed 136 = .ok (.iload_n 3, 1) := by decide +kernel
theorem dX10_plansNeed_137 : decode cX10_plansNeed 137 = .ok (.imul, 1) := by decide +kernel
theorem dX10_plansNeed_138 : decode cX10_plansNeed 138 = .ok (.iload_n 2, 1) := by decide +kernel
theorem dX10_plansNeed_139 : decode cX10_plansNeed 139 = .ok (.iadd, 1) := by decide +kernel
theorem dX10_plansNeed_140 : decode cX10_plansNeed 140 = .ok (.iload 6, 2) := by decide +kernel
theorem dX10_plansNeed_142 : decode cX10_plansNeed 142 = .ok (.iastore, 1) := by decide +kernel
theorem dX10_plansNeed_143 : decode cX10_plansNeed 143 = .ok (.iinc 3 1, 3) := by decide +kernel
theorem dX10_plansNeed_146 : decode cX10_plansNeed 146 = .ok (.goto (-132), 3) := by decide +kernel
theorem dX10_plansNeed_149 : decode cX10_plansNeed 149 = .ok (.iinc 2 1, 3) := by decide +kernel
theorem dX10_plansNeed_152 : decode cX10_plansNeed 152 = .ok (.goto (-150), 3) := by decide +kernel
theorem dX10_plansNeed_155 : decode cX10_plansNeed 155 = .ok (.return_, 1) := by decide +kernel
theorem dX10_plans_0 : decode cX10_plans 0 = .ok (.iconst 0, 1) := by decide +kernel
theorem dX10_plans_1 : decode cX10_plans 1 = .ok (.istore_n 2, 1) := by decide +kernel
theorem dX10_plans_2 : decode cX10_plans 2 = .ok (.iload_n 2, 1) := by decide +kernel
theorem dX10_plans_3 : decode cX10_plans 3 = .ok (.bipush 36, 2) := by decide +kernel
theorem dX10_plans_5 : decode cX10_plans 5 = .ok (.if_icmp .ge 16, 3) := by decide +kernel
theorem dX10_plans_8 : decode cX10_plans 8 = .ok (.aload_n 0, 1) := by decide +kernel
theorem dX10_plans_9 : decode cX10_plans 9 = .ok (.getfield 34, 3) := by decide +kernel
theorem dX10_plans_12 : decode cX10_plans 12 = .ok (.iload_n 2, 1) := by decide +kernel
theorem dX10_plans_13 : decode cX10_plans 13 = .ok (.iconst 0, 1) := by decide +kernel
theorem dX10_plans_14 : decode cX10_plans 14 = .ok (.iastore, 1) := by decide +kernel
theorem dX10_plans_15 : decode cX10_plans 15 = .ok (.iinc 2 1, 3) := by decide +kernel
theorem dX10_plans_18 : decode cX10_plans 18 = .ok (.goto (-16), 3) := by decide +kernel
theorem dX10_plans_21 : decode cX10_plans 21 = .ok (.iload_n 1, 1) := by decide +kernel
theorem dX10_plans_22 : decode cX10_plans 22 = .ok (.lookupswitch 40 #[(0, 26), (1, 33)], 26) := by decide +kernel
theorem dX10_plans_48 : decode cX10_plans 48 = .ok (.aload_n 0, 1) := by decide +kernel
theorem dX10_plans_49 : decode cX10_plans 49 = .ok (.invokevirtual 193, 3) := by decide +kernel
theorem dX10_plans_52 : decode cX10_plans 52 = .ok (.goto 24, 3) := by decide +kernel
theorem dX10_plans_55 : decode cX10_plans 55 = .ok (.aload_n 0, 1) := by decide +kernel
theorem dX10_plans_56 : decode cX10_plans 56 = .ok (.invokevirtual 196, 3) := by decide +kernel
theorem dX10_plans_59 : decode cX10_plans 59 = .ok (.goto 17, 3) := by decide +kernel
theorem dX10_plans_62 : decode cX10_plans 62 = .ok (.aload_n 0, 1) := by decide +kernel
theorem dX10_plans_63 : decode cX10_plans 63 = .ok (.iload_n 1, 1) := by decide +kernel
theorem dX10_plans_64 : decode cX10_plans 64 = .ok (.iconst 3, 1) := by decide +kernel
theorem dX10_plans_65 : decode cX10_plans 65 = .ok (.if_icmp .ne 7, 3) := by decide +kernel
theorem dX10_plans_68 : decode cX10_plans 68 = .ok (.iconst 1, 1) := by decide +kernel
theorem dX10_plans_69 : decode cX10_plans 69 = .ok (.goto 4, 3) := by decide +kernel
theorem dX10_plans_72 : decode cX10_plans 72 = .ok (.iconst 0, 1) := by decide +kernel
theorem dX10_plans_73 : decode cX10_plans 73 = .ok (.invokevirtual 199, 3) := by decide +kernel
theorem dX10_plans_76 : decode cX10_plans 76 = .ok (.return_, 1) := by decide +kernel
theorem dX10_worthOf_0 : decode cX10_worthOf 0 = .ok (.iconst 0, 1) := by decide +kernel
theorem dX10_worthOf_1 : decode cX10_worthOf 1 = .ok (.istore_n 1, 1) := by decide +kernel
theorem dX10_worthOf_2 : decode cX10_worthOf 2 = .ok (.iconst 0, 1) := by decide +kernel
theorem dX10_worthOf_3 : decode cX10_worthOf 3 = .ok (.istore_n 2, 1) := by decide +kernel
theorem dX10_worthOf_4 : decode cX10_worthOf 4 = .ok (.iload_n 2, 1) := by decide +kernel
theorem dX10_worthOf_5 : decode cX10_worthOf 5 = .ok (.aload_n 0, 1) := by decide +kernel
theorem dX10_worthOf_6 : decode cX10_worthOf 6 = .ok (.getfield 13, 3) := by decide +kernel
theorem dX10_worthOf_9 : decode cX10_worthOf 9 = .ok (.iconst 2, 1) := by decide +kernel
theorem dX10_worthOf_10 : decode cX10_worthOf 10 = .ok (.iaload, 1) := by decide +kernel
theorem dX10_worthOf_11 : decode cX10_worthOf 11 = .ok (.if_icmp .ge 32, 3) := by decide +kernel
theorem dX10_worthOf_14 : decode cX10_worthOf 14 = .ok (.iload_n 1, 1) := by decide +kernel
theorem dX10_worthOf_15 : decode cX10_worthOf 15 = .ok (.aload_n 0, 1) := by decide +kernel
theorem dX10_worthOf_16 : decode cX10_worthOf 16 = .ok (.iload_n 2, 1) := by decide +kernel
theorem dX10_worthOf_17 : decode cX10_worthOf 17 = .ok (.iconst 0, 1) := by decide +kernel
theorem dX10_worthOf_18 : decode cX10_worthOf 18 = .ok (.iconst 0, 1) := by decide +kernel
theorem dX10_worthOf_19 : decode cX10_worthOf 19 = .ok (.invokevirtual 183, 3) := by decide +kernel
theorem dX10_worthOf_22 : decode cX10_worthOf 22 = .ok (.ifCond .eq 12, 3) := by decide +kernel
theorem dX10_worthOf_25 : decode cX10_worthOf 25 = .ok (.aload_n 0, 1) := by decide +kernel
theorem dX10_worthOf_26 : decode cX10_worthOf 26 = .ok (.iload_n 2, 1) := by decide +kernel
theorem dX10_worthOf_27 : decode cX10_worthOf 27 = .ok (.iconst 5, 1) := by decide +kernel
theorem dX10_worthOf_28 : decode cX10_worthOf 28 = .ok (.invokevirtual 118, 3) := by decide +kernel
theorem dX10_worthOf_31 : decode cX10_worthOf 31 = .ok (.goto 4, 3) := by decide +kernel
theorem dX10_worthOf_34 : decode cX10_worthOf 34 = .ok (.iconst 0, 1) := by decide +kernel
theorem dX10_worthOf_35 : decode cX10_worthOf 35 = .ok (.iadd, 1) := by decide +kernel
theorem dX10_worthOf_36 : decode cX10_worthOf 36 = .ok (.istore_n 1, 1) := by decide +kernel
theorem dX10_worthOf_37 : decode cX10_worthOf 37 = .ok (.iinc 2 1, 3) := by decide +kernel
theorem dX10_worthOf_40 : decode cX10_worthOf 40 = .ok (.goto (-36), 3) := by decide +kernel
theorem dX10_worthOf_43 : decode cX10_worthOf 43 = .ok (.iload_n 1, 1) := by decide +kernel
theorem dX10_worthOf_44 : decode cX10_worthOf 44 = .ok (.ireturn, 1) := by decide +kernel
theorem dX10_plan_0 : decode cX10_plan 0 = .ok (.iload_n 1, 1) := by decide +kernel
theorem dX10_plan_1 : decode cX10_plan 1 = .ok (.iconst 4, 1) := by decide +kernel
theorem dX10_plan_2 : decode cX10_plan 2 = .ok (.invokestatic 46, 3) := by decide +kernel
theorem dX10_plan_5 : decode cX10_plan 5 = .ok (.ifCond .ne 10, 3) := by decide +kernel
theorem dX10_plan_8 : decode cX10_plan 8 = .ok (.aload_n 0, 1) := by decide +kernel
theorem dX10_plan_9 : decode cX10_plan 9 = .ok (.bipush (-2), 2) := by decide +kernel
theorem dX10_plan_11 : decode cX10_plan 11 = .ok (.invokevirtual 62, 3) := by decide +kernel
theorem dX10_plan_14 : decode cX10_plan 14 = .ok (.ireturn, 1) := by decide +kernel
theorem dX10_plan_15 : decode cX10_plan 15 = .ok (.aload_n 0, 1) := by decide +kernel
theorem dX10_plan_16 : decode cX10_plan 16 = .ok (.iload_n 1, 1) := by decide +kernel
theorem dX10_plan_17 : decode cX10_plan 17 = .ok (.invokevirtual 203, 3) := by decide +kernel
theorem dX10_plan_20 : decode cX10_plan 20 = .ok (.aload_n 0, 1) := by decide +kernel
theorem dX10_plan_21 : decode cX10_plan 21 = .ok (.invokevirtual 206, 3) := by decide +kernel
theorem dX10_plan_24 : decode cX10_plan 24 = .ok (.ireturn, 1) := by decide +kernel
theorem dX10_planned_0 : decode cX10_planned 0 = .ok (.iload_n 1, 1) := by decide +kernel
theorem dX10_planned_1 : decode cX10_planned 1 = .ok (.iconst 4, 1) := by decide +kernel
theorem dX10_planned_2 : decode cX10_planned 2 = .ok (.invokestatic 46, 3) := by decide +kernel
theorem dX10_planned_5 : decode cX10_planned 5 = .ok (.ifCond .ne 10, 3) := by decide +kernel
theorem dX10_planned_8 : decode cX10_planned 8 = .ok (.aload_n 0, 1) := by decide +kernel
theorem dX10_planned_9 : decode cX10_planned 9 = .ok (.bipush (-2), 2) := by decide +kernel
theorem dX10_planned_11 : decode cX10_planned 11 = .ok (.invokevirtual 62, 3) := by decide +kernel
theorem dX10_planned_14 : decode cX10_planned 14 = .ok (.ireturn, 1) := by decide +kernel
theorem dX10_planned_15 : decode cX10_planned 15 = .ok (.aload_n 0, 1) := by decide +kernel
theorem dX10_planned_16 : decode cX10_planned 16 = .ok (.iload_n 2, 1) := by decide +kernel
theorem dX10_planned_17 : decode cX10_planned 17 = .ok (.invokevirtual 103, 3) := by decide +kernel
theorem dX10_planned_20 : decode cX10_planned 20 = .ok (.ifCond .eq 11, 3) := by decide +kernel
theorem dX10_planned_23 : decode cX10_planned 23 = .ok (.aload_n 0, 1) := by decide +kernel
theorem dX10_planned_24 : decode cX10_planned 24 = .ok (.iload_n 3, 1) := by decide +kernel
theorem dX10_planned_25 : decode cX10_planned 25 = .ok (.invokevirtual 115, 3) := by decide +kernel
theorem dX10_planned_28 : decode cX10_planned 28 = .ok (.ifCond .ne 9, 3) := by decide +kernel
theorem dX10_planned_31 : decode cX10_planned 31 = .ok (.aload_n 0, 1) := by decide +kernel
theorem dX10_planned_32 : decode cX10_planned 32 = .ok (.iconst (-1), 1) := by decide +kernel
theorem dX10_planned_33 : decode cX10_planned 33 = .ok (.invokevirtual 62, 3) := by decide +kernel
theorem dX10_planned_36 : decode cX10_planned 36 = .ok (.ireturn, 1) := by decide +kernel
theorem dX10_planned_37 : decode cX10_planned 37 = .ok (.aload_n 0, 1) := by decide +kernel
theorem dX10_planned_38 : decode cX10_planned 38 = .ok (.iload_n 1, 1) := by decide +kernel
theorem dX10_planned_39 : decode cX10_planned 39 = .ok (.invokevirtual 203, 3) := by decide +kernel
theorem dX10_planned_42 : decode cX10_planned 42 = .ok (.aload_n 0, 1) := by decide +kernel
theorem dX10_planned_43 : decode cX10_planned 43 = .ok (.getfield 34, 3) := by decide +kernel
theorem dX10_planned_46 : decode cX10_planned 46 = .ok (.bipush 6, 2) := by decide +kernel
theorem dX10_planned_48 : decode cX10_planned 48 = .ok (.iload_n 2, 1) := by decide +kernel
theorem dX10_planned_49 : decode cX10_planned 49 = .ok (.imul, 1) := by decide +kernel
theorem dX10_planned_50 : decode cX10_planned 50 = .ok (.iload_n 3, 1) := by decide +kernel
theorem dX10_planned_51 : decode cX10_planned 51 = .ok (.iadd, 1) := by decide +kernel
theorem dX10_planned_52 : decode cX10_planned 52 = .ok (.iaload, 1) := by decide +kernel
theorem dX10_planned_53 : decode cX10_planned 53 = .ok (.ireturn, 1) := by decide +kernel
theorem dX10_worthByQuarters_0 : decode cX10_worthByQuarters 0 = .ok (.iconst 0, 1) := by decide +kernel
theorem dX10_worthByQuarters_1 : decode cX10_worthByQuarters 1 = .ok (.istore_n 1, 1) := by decide +kernel
theorem dX10_worthByQuarters_2 : decode cX10_worthByQuarters 2 = .ok (.iconst 0, 1) := by decide +kernel
theorem dX10_worthByQuarters_3 : decode cX10_worthByQuarters 3 = .ok (.istore_n 2, 1) := by decide +kernel
theorem dX10_worthByQuarters_4 : decode cX10_worthByQuarters 4 = .ok (.iload_n 2, 1) := by decide +kernel
theorem dX10_worthByQuarters_5 : decode cX10_worthByQuarters 5 = .ok (.aload_n 0, 1) := by decide +kernel
theorem dX10_worthByQuarters_6 : decode cX10_worthByQuarters 6 = .ok (.getfield 13, 3) := by decide +kernel
theorem dX10_worthByQuarters_9 : decode cX10_worthByQuarters 9 = .ok (.iconst 2, 1) := by decide +kernel
theorem dX10_worthByQuarters_10 : decode cX10_worthByQuarters 10 = .ok (.iaload, 1) := by decide +kernel
theorem dX10_worthByQuarters_11 : decode cX10_worthByQuarters 11 = .ok (.if_icmp .ge 112, 3) := by decide +kernel
theorem dX10_worthByQuarters_14 : decode cX10_worthByQuarters 14 = .ok (.aload_n 0, 1) := by decide +kernel
theorem dX10_worthByQuarters_15 : decode cX10_worthByQuarters 15 = .ok (.invokevirtual 151, 3) := by decide +kernel
theorem dX10_worthByQuarters_18 : decode cX10_worthByQuarters 18 = .ok (.iconst 0, 1) := by decide +kernel
theorem dX10_worthByQuarters_19 : decode cX10_worthByQuarters 19 = .ok (.istore_n 3, 1) := by decide +kernel
theorem dX10_worthByQuarters_20 : decode cX10_worthByQuarters 20 = .ok (.iload_n 3, 1) := by decide +kernel
theorem dX10_worthByQuarters_21 : decode cX10_worthByQuarters 21 = .ok (.aload_n 0, 1) := by decide +kernel
theorem dX10_worthByQuarters_22 : decode cX10_worthByQuarters 22 = .ok (.getfield 13, 3) := by decide +kernel
theorem dX10_worthByQuarters_25 : decode cX10_worthByQuarters 25 = .ok (.iconst 1, 1) := by decide +kernel
theorem dX10_worthByQuarters_26 : decode cX10_worthByQuarters 26 = .ok (.iaload, 1) := by decide +kernel
theorem dX10_worthByQuarters_27 : decode cX10_worthByQuarters 27 = .ok (.if_icmp .ge 69, 3) := by decide +kernel
theorem dX10_worthByQuarters_30 : decode cX10_worthByQuarters 30 = .ok (.iconst 3, 1) := by decide +kernel
theorem dX10_worthByQuarters_31 : decode cX10_worthByQuarters 31 = .ok (.aload_n 0, 1) := by decide +kernel
theorem dX10_worthByQuarters_32 : decode cX10_worthByQuarters 32 = .ok (.getfield 34, 3) := by decide +kernel
theorem dX10_worthByQuarters_35 : decode cX10_worthByQuarters 35 = .ok (.bipush 6, 2) := by decide +kernel
theorem dX10_worthByQuarters_37 : decode cX10_worthByQuarters 37 = .ok (.iload_n 3, 1) := by decide +kernel
theorem dX10_worthByQuarters_38 : decode cX10_worthByQuarters 38 = .ok (.imul, 1) := by decide +kernel
theorem dX10_worthByQuarters_39 : decode cX10_worthByQuarters 39 = .ok (.iload_n 2, 1) := by decide +kernel
theorem dX10_worthByQuarters_40 : decode cX10_worthByQuarters 40 = .ok (.iadd, 1) := by decide +kernel
theorem dX10_worthByQuarters_41 : decode cX10_worthByQuarters 41 = .ok (.iaload, 1) := by decide +kernel
theorem dX10_worthByQuarters_42 : decode cX10_worthByQuarters 42 = .ok (.imul, 1) := by decide +kernel
theorem dX10_worthByQuarters_43 : decode cX10_worthByQuarters 43 = .ok (.istore 4, 2) := by decide +kernel
theorem dX10_worthByQuarters_45 : decode cX10_worthByQuarters 45 = .ok (.iload 4, 2) := by decide +kernel
theorem dX10_worthByQuarters_47 : decode cX10_worthByQuarters 47 = .ok (.ifCond .ne 6, 3) := by decide +kernel
theorem dX10_worthByQuarters_50 : decode cX10_worthByQuarters 50 = .ok (.goto 40, 3) := by decide +kernel
theorem dX10_worthByQuarters_53 : decode cX10_worthByQuarters 53 = .ok (.iload 4, 2) := by decide +kernel
theorem dX10_worthByQuarters_55 : decode cX10_worthByQuarters 55 = .ok (.aload_n 0, 1) := by decide +kernel
theorem dX10_worthByQuarters_56 : decode cX10_worthByQuarters 56 = .ok (.iload_n 3, 1) := by decide +kernel
theorem dX10_worthByQuarters_57 : decode cX10_worthByQuarters 57 = .ok (.iconst 3, 1) := by decide +kernel
theorem dX10_worthByQuarters_58 : decode cX10_worthByQuarters 58 = .ok (.invokevirtual 106, 3) := by decide +kernel
theorem dX10_worthByQuarters_61 : decode cX10_worthByQuarters 61 = .ok (.if_icmp .lt 17, 3) := by decide +kernel
theorem dX10_worthByQuarters_64 : decode cX10_worthByQuarters 64 = .ok (.aload_n 0, 1) := by decide +kernel
theorem dX10_worthByQuarters_65 : decode cX10_worthByQuarters 65 = .ok (.aload_n 0, 1) := by decide +kernel
theorem dX10_worthByQuarters_66 : decode cX10_worthByQuarters 66 = .ok (.iload_n 2, 1) := by decide +kernel
theorem dX10_worthByQuarters_67 : decode cX10_worthByQuarters 67 = .ok (.iconst 0, 1) := by decide +kernel
theorem dX10_worthByQuarters_68 : decode cX10_worthByQuarters 68 = .ok (.invokevirtual 118, 3) := by decide +kernel
theorem dX10_worthByQuarters_71 : decode cX10_worthByQuarters 71 = .ok (.iload_n 3, 1) := by decide +kernel
theorem dX10_worthByQuarters_72 : decode cX10_worthByQuarters 72 = .ok (.iload 4, 2) := by decide +kernel
theorem dX10_worthByQuarters_74 : decode cX10_worthByQuarters 74 = .ok (.iconst 0, 1) := by decide +kernel
theorem dX10_worthByQuarters_75 : decode cX10_worthByQuarters 75 = .ok (.invokevirtual 154, 3) := by decide +kernel
theorem dX10_worthByQuarters_78 : decode cX10_worthByQuarters 78 = .ok (.aload_n 0, 1) := by decide +kernel
theorem dX10_worthByQuarters_79 : decode cX10_worthByQuarters 79 = .ok (.dup, 1) := by decide +kernel
theorem dX10_worthByQuarters_80 : decode cX10_worthByQuarters 80 = .ok (.getfield 144, 3) := by decide +kernel
theorem dX10_worthByQuarters_83 : decode cX10_worthByQuarters 83 = .ok (.iconst 1, 1) := by decide +kernel
theorem dX10_worthByQuarters_84 : decode cX10_worthByQuarters 84 = .ok (.iload_n 3, 1) := by decide +kernel
theorem dX10_worthByQuarters_85 : decode cX10_worthByQuarters 85 = .ok (.ishl, 1) := by decide +kernel
theorem dX10_worthByQuarters_86 : decode cX10_worthByQuarters 86 = .ok (.ior, 1) := by decide +kernel
theorem dX10_worthByQuarters_87 : decode cX10_worthByQuarters 87 = .ok (.putfield 144, 3) := by decide +kernel
theorem dX10_worthByQuarters_90 : decode cX10_worthByQuarters 90 = .ok (.iinc 3 1, 3) := by decide +kernel
theorem dX10_worthByQuarters_93 : decode cX10_worthByQuarters 93 = .ok (.goto (-73), 3) := by decide +kernel
theorem dX10_worthByQuarters_96 : decode cX10_worthByQuarters 96 = .ok (.iload_n 1, 1) := by decide +kernel
theorem dX10_worthByQuarters_97 : decode cX10_worthByQuarters 97 = .ok (.aload_n 0, 1) := by decide +kernel
theorem dX10_worthByQuarters_98 : decode cX10_worthByQuarters 98 = .ok (.iload_n 2, 1) := by decide +kernel
theorem dX10_worthByQuarters_99 : decode cX10_worthByQuarters 99 = .ok (.invokevirtual 180, 3) := by decide +kernel
theorem dX10_worthByQuarters_102 : decode cX10_worthByQuarters 102 = .ok (.ifCond .eq 12, 3) := by decide +kernel
theorem dX10_worthByQuarters_105 : decode cX10_worthByQuarters 105 = .ok (.aload_n 0, 1) := by decide +kernel
theorem dX10_worthByQuarters_106 : decode cX10_worthByQuarters 106 = .ok (.iload_n 2, 1) := by decide +kernel
theorem dX10_worthByQuarters_107 : decode cX10_worthByQuarters 107 = .ok (.iconst 5, 1) := by decide +kernel
theorem dX10_worthByQuarters_108 : decode cX10_worthByQuarters 108 = .ok (.invokevirtual 118, 3) := by decide +kernel
theorem dX10_worthByQuarters_111 : decode cX10_worthByQuarters 111 = .ok (.goto 4, 3) := by decide +kernel
theorem dX10_worthByQuarters_114 : decode cX10_worthByQuarters 114 = .ok (.iconst 0, 1) := by decide +kernel
theorem dX10_worthByQuarters_115 : decode cX10_worthByQuarters 115 = .ok (.iadd, 1) := by decide +kernel
theorem dX10_worthByQuarters_116 : decode cX10_worthByQuarters 116 = .ok (.istore_n 1, 1) := by decide +kernel
theorem dX10_worthByQuarters_117 : decode cX10_worthByQuarters 117 = .ok (.iinc 2 1, 3) := by decide +kernel
theorem dX10_worthByQuarters_120 : decode cX10_worthByQuarters 120 = .ok (.goto (-116), 3) := by decide +kernel
theorem dX10_worthByQuarters_123 : decode cX10_worthByQuarters 123 = .ok (.iload_n 1, 1) := by decide +kernel
theorem dX10_worthByQuarters_124 : decode cX10_worthByQuarters 124 = .ok (.ireturn, 1) := by decide +kernel
theorem dX10_quartersFrom_0 : decode cX10_quartersFrom 0 = .ok (.iload_n 1, 1) := by decide +kernel
theorem dX10_quartersFrom_1 : decode cX10_quartersFrom 1 = .ok (.aload_n 0, 1) := by decide +kernel
theorem dX10_quartersFrom_2 : decode cX10_quartersFrom 2 = .ok (.getfield 13, 3) := by decide +kernel
theorem dX10_quartersFrom_5 : decode cX10_quartersFrom 5 = .ok (.iconst 1, 1) := by decide +kernel
theorem dX10_quartersFrom_6 : decode cX10_quartersFrom 6 = .ok (.iaload, 1) := by decide +kernel
theorem dX10_quartersFrom_7 : decode cX10_quartersFrom 7 = .ok (.if_icmp .ne 56, 3) := by decide +kernel
theorem dX10_quartersFrom_10 : decode cX10_quartersFrom 10 = .ok (.aload_n 0, 1) := by decide +kernel
theorem dX10_quartersFrom_11 : decode cX10_quartersFrom 11 = .ok (.invokevirtual 209, 3) := by decide +kernel
theorem dX10_quartersFrom_14 : decode cX10_quartersFrom 14 = .ok (.istore 4, 2) := by decide +kernel
theorem dX10_quartersFrom_16 : decode cX10_quartersFrom 16 = .ok (.iload 4, 2) := by decide +kernel
theorem dX10_quartersFrom_18 : decode cX10_quartersFrom 18 = .ok (.aload_n 0, 1) := by decide +kernel
theorem dX10_quartersFrom_19 : decode cX10_quartersFrom 19 = .ok (.getfield 212, 3) := by decide +kernel
theorem dX10_quartersFrom_22 : decode cX10_quartersFrom 22 = .ok (.if_icmp .gt 4, 3) := by decide +kernel
theorem dX10_quartersFrom_25 : decode cX10_quartersFrom 25 = .ok (.return_, 1) := by decide +kernel
theorem dX10_quartersFrom_26 : decode cX10_quartersFrom 26 = .ok (.aload_n 0, 1) := by decide +kernel
theorem dX10_quartersFrom_27 : decode cX10_quartersFrom 27 = .ok (.iload 4, 2) := by decide +kernel
theorem dX10_quartersFrom_29 : decode cX10_quartersFrom 29 = .ok (.putfield 212, 3) := by decide +kernel
theorem dX10_quartersFrom_32 : decode cX10_quartersFrom 32 = .ok (.iconst 0, 1) := by decide +kernel
theorem dX10_quartersFrom_33 : decode cX10_quartersFrom 33 = .ok (.istore 5, 2) := by decide +kernel
theorem dX10_quartersFrom_35 : decode cX10_quartersFrom 35 = .ok (.iload 5, 2) := by decide +kernel
theorem dX10_quartersFrom_37 : decode cX10_quartersFrom 37 = .ok (.bipush 36, 2) := by decide +kernel
theorem dX10_quartersFrom_39 : decode cX10_quartersFrom 39 = .ok (.if_icmp .ge 23, 3) := by decide +kernel
theorem dX10_quartersFrom_42 : decode cX10_quartersFrom 42 = .ok (.aload_n 0, 1) := by decide +kernel
theorem dX10_quartersFrom_43 : decode cX10_quartersFrom 43 = .ok (.getfield 40, 3) := by decide +kernel
theorem dX10_quartersFrom_46 : decode cX10_quartersFrom 46 = .ok (.iload 5, 2) := by decide +kernel
theorem dX10_quartersFrom_48 : decode cX10_quartersFrom 48 = .ok (.aload_n 0, 1) := by decide +kernel
theorem dX10_quartersFrom_49 : decode cX10_quartersFrom 49 = .ok (.getfield 34, 3) := by decide +kernel
theorem dX10_quartersFrom_52 : decode cX10_quartersFrom 52 = .ok (.iload 5, 2) := by decide +kernel
theorem dX10_quartersFrom_54 : decode cX10_quartersFrom 54 = .ok (.iaload, 1) := by decide +kernel
theorem dX10_quartersFrom_55 : decode cX10_quartersFrom 55 = .ok (.iastore, 1) := by decide +kernel
theorem dX10_quartersFrom_56 : decode cX10_quartersFrom 56 = .ok (.iinc 5 1, 3) := by decide +kernel
theorem dX10_quartersFrom_59 : decode cX10_quartersFrom 59 = .ok (.goto (-24), 3) := by decide +kernel
theorem dX10_quartersFrom_62 : decode cX10_quartersFrom 62 = .ok (.return_, 1) := by decide +kernel
theorem dX10_quartersFrom_63 : decode cX10_quartersFrom 63 = .ok (.iload_n 2, 1) := by decide +kernel
theorem dX10_quartersFrom_64 : decode cX10_quartersFrom 64 = .ok (.aload_n 0, 1) := by decide +kernel
theorem dX10_quartersFrom_65 : decode cX10_quartersFrom 65 = .ok (.getfield 13, 3) := by decide +kernel
theorem dX10_quartersFrom_68 : decode cX10_quartersFrom 68 = .ok (.iconst 2, 1) := by decide +kernel
theorem dX10_quartersFrom_69 : decode cX10_quartersFrom 69 = .ok (.iaload, 1) := by decide +kernel
theorem dX10_quartersFrom_70 : decode cX10_quartersFrom 70 = .ok (.if_icmp .ne 13, 3) := by decide +kernel
theorem dX10_quartersFrom_73 : decode cX10_quartersFrom 73 = .ok (.aload_n 0, 1) := by decide +kernel
theorem dX10_quartersFrom_74 : decode cX10_quartersFrom 74 = .ok (.iload_n 1, 1) := by decide +kernel
theorem dX10_quartersFrom_75 : decode cX10_quartersFrom 75 = .ok (.iconst 1, 1) := by decide +kernel
theorem dX10_quartersFrom_76 : decode cX10_quartersFrom 76 = .ok (.iadd, 1) := by decide +kernel
theorem dX10_quartersFrom_77 : decode cX10_quartersFrom 77 = .ok (.iconst 0, 1) := by decide +kernel
theorem dX10_quartersFrom_78 : decode cX10_quartersFrom 78 = .ok (.iconst 4, 1) := by decide +kernel
theorem dX10_quartersFrom_79 : decode cX10_quartersFrom 79 = .ok (.invokevirtual 215, 3) := by decide +kernel
theorem dX10_quartersFrom_82 : decode cX10_quartersFrom 82 = .ok (.return_, 1) := by decide +kernel
theorem dX10_quartersFrom_83 : decode cX10_quartersFrom 83 = .ok (.iconst 0, 1) := by decide +kernel
theorem dX10_quartersFrom_84 : decode cX10_quartersFrom 84 = .ok (.istore 4, 2) := by decide +kernel
theorem dX10_quartersFrom_86 : decode cX10_quartersFrom 86 = .ok (.iload 4, 2) := by decide +kernel
theorem dX10_quartersFrom_88 : decode cX10_quartersFrom 88 = .ok (.iload_n 3, 1) := by decide +kernel
theorem dX10_quartersFrom_89 : decode cX10_quartersFrom 89 = .ok (.if_icmp .gt 34, 3) := by decide +kernel
theorem dX10_quartersFrom_92 : decode cX10_quartersFrom 92 = .ok (.aload_n 0, 1) := by decide +kernel
theorem dX10_quartersFrom_93 : decode cX10_quartersFrom 93 = .ok (.getfield 34, 3) := by decide +kernel
theorem dX10_quartersFrom_96 : decode cX10_quartersFrom 96 = .ok (.bipush 6, 2) := by decide +kernel
theorem dX10_quartersFrom_98 : decode cX10_quartersFrom 98 = .ok (.iload_n 1, 1) := by decide +kernel
theorem dX10_quartersFrom_99 : decode cX10_quartersFrom 99 = .ok (.imul, 1) := by decide +kernel
theorem dX10_quartersFrom_100 : decode cX10_quartersFrom 100 = .ok (.iload_n 2, 1) := by decide +kernel
theorem dX10_quartersFrom_101 : decode cX10_quartersFrom 101 = .ok (.iadd, 1) := by decide +kernel
theorem dX10_quartersFrom_102 : decode cX10_quartersFrom 102 = .ok (.iload 4, 2) := by decide +kernel
theorem dX10_quartersFrom_104 : decode cX10_quartersFrom 104 = .ok (.iastore, 1) := by decide +kernel
theorem dX10_quartersFrom_105 : decode cX10_quartersFrom 105 = .ok (.aload_n 0, 1) := by decide +kernel
theorem dX10_quartersFrom_106 : decode cX10_quartersFrom 106 = .ok (.iload_n 1, 1) := by decide +kernel
theorem dX10_quartersFrom_107 : decode cX10_quartersFrom 107 = .ok (.iload_n 2, 1) := by decide +kernel
theorem dX10_quartersFrom_108 : decode cX10_quartersFrom 108 = .ok (.iconst 1, 1) := by decide +kernel
theorem dX10_quartersFrom_109 : decode cX10_quartersFrom 109 = .ok (.iadd, 1) := by decide +kernel
theorem dX10_quartersFrom_110 : decode cX10_quartersFrom 110 = .ok (.iload_n 3, 1) := by decide +kernel
theorem dX10_quartersFrom_111 : decode cX10_quartersFrom 111 = .ok (.iload 4, 2) := by decide +kernel
theorem dX10_quartersFrom_113 : decode cX10_quartersFrom 113 = .ok (.isub, 1) := by decide +kernel
theorem dX10_quartersFrom_114 : decode cX10_quartersFrom 114 = .ok (.invokevirtual 215, 3) := by decide +kernel
theorem dX10_quartersFrom_117 : decode cX10_quartersFrom 117 = .ok (.iinc 4 1, 3) := by decide +kernel
theorem dX10_quartersFrom_120 : decode cX10_quartersFrom 120 = .ok (.goto (-34), 3) := by decide +kernel
theorem dX10_quartersFrom_123 : decode cX10_quartersFrom 123 = .ok (.aload_n 0, 1) := by decide +kernel
theorem dX10_quartersFrom_124 : decode cX10_quartersFrom 124 = .ok (.getfield 34, 3) := by decide +kernel
theorem dX10_quartersFrom_127 : decode cX10_quartersFrom 127 = .ok (.bipush 6, 2) := by decide +kernel
theorem dX10_quartersFrom_129 : decode cX10_quartersFrom 129 = .ok (.iload_n 1, 1) := by decide +kernel
theorem dX10_quartersFrom_130 : decode cX10_quartersFrom 130 = .ok (.imul, 1) := by decide +kernel
theorem dX10_quartersFrom_131 : decode cX10_quartersFrom 131 = .ok (.iload_n 2, 1) := by decide +kernel
theorem dX10_quartersFrom_132 : decode cX10_quartersFrom 132 = .ok (.iadd, 1) := by decide +kernel
theorem dX10_quartersFrom_133 : decode cX10_quartersFrom 133 = .ok (.iconst 0, 1) := by decide +kernel
theorem dX10_quartersFrom_134 : decode cX10_quartersFrom 134 = .ok (.iastore, 1) := by decide +kernel
theorem dX10_quartersFrom_135 : decode cX10_quartersFrom 135 = .ok (.return_, 1) := by decide +kernel
theorem dX10_findsBest_0 : decode cX10_findsBest 0 = .ok (.iconst 0, 1) := by decide +kernel
theorem dX10_findsBest_1 : decode cX10_findsBest 1 = .ok (.istore_n 1, 1) := by decide +kernel
theorem dX10_findsBest_2 : decode cX10_findsBest 2 = .ok (.iload_n 1, 1) := by decide +kernel
theorem dX10_findsBest_3 : decode cX10_findsBest 3 = .ok (.bipush 36, 2) := by decide +kernel
theorem dX10_findsBest_5 : decode cX10_findsBest 5 = .ok (.if_icmp .ge 16, 3) := by decide +kernel
theorem dX10_findsBest_8 : decode cX10_findsBest 8 = .ok (.aload_n 0, 1) := by decide +kernel
theorem dX10_findsBest_9 : decode cX10_findsBest 9 = .ok (.getfield 34, 3) := by decide +kernel
theorem dX10_findsBest_12 : decode cX10_findsBest 12 = .ok (.iload_n 1, 1) := by decide +kernel
theorem dX10_findsBest_13 : decode cX10_findsBest 13 = .ok (.iconst 0, 1) := by decide +kernel
theorem dX10_findsBest_14 : decode cX10_findsBest 14 = .ok (.iastore, 1) := by decide +kernel
theorem dX10_findsBest_15 : decode cX10_findsBest 15 = .ok (.iinc 1 1, 3) := by decide +kernel
theorem dX10_findsBest_18 : decode cX10_findsBest 18 = .ok (.goto (-16), 3) := by decide +kernel
theorem dX10_findsBest_21 : decode cX10_findsBest 21 = .ok (.aload_n 0, 1) := by decide +kernel
theorem dX10_findsBest_22 : decode cX10_findsBest 22 = .ok (.bipush (-9), 2) := by decide +kernel
theorem dX10_findsBest_24 : decode cX10_findsBest 24 = .ok (.putfield 212, 3) := by decide +kernel
theorem dX10_findsBest_27 : decode cX10_findsBest 27 = .ok (.aload_n 0, 1) := by decide +kernel
theorem dX10_findsBest_28 : decode cX10_findsBest 28 = .ok (.iconst 0, 1) := by decide +kernel
theorem dX10_findsBest_29 : decode cX10_findsBest 29 = .ok (.iconst 0, 1) := by decide +kernel
theorem dX10_findsBest_30 : decode cX10_findsBest 30 = .ok (.iconst 4, 1) := by decide +kernel
theorem dX10_findsBest_31 : decode cX10_findsBest 31 = .ok (.invokevirtual 215, 3) := by decide +kernel
theorem dX10_findsBest_34 : decode cX10_findsBest 34 = .ok (.return_, 1) := by decide +kernel
theorem dX10_areFew_0 : decode cX10_areFew 0 = .ok (.aload_n 0, 1) := by decide +kernel
theorem dX10_areFew_1 : decode cX10_areFew 1 = .ok (.getfield 13, 3) := by decide +kernel
theorem dX10_areFew_4 : decode cX10_areFew 4 = .ok (.iconst 1, 1) := by decide +kernel
theorem dX10_areFew_5 : decode cX10_areFew 5 = .ok (.iaload, 1) := by decide +kernel
theorem dX10_areFew_6 : decode cX10_areFew 6 = .ok (.iconst 3, 1) := by decide +kernel
theorem dX10_areFew_7 : decode cX10_areFew 7 = .ok (.if_icmp .gt 17, 3) := by decide +kernel
theorem dX10_areFew_10 : decode cX10_areFew 10 = .ok (.aload_n 0, 1) := by decide +kernel
theorem dX10_areFew_11 : decode cX10_areFew 11 = .ok (.getfield 13, 3) := by decide +kernel
theorem dX10_areFew_14 : decode cX10_areFew 14 = .ok (.iconst 2, 1) := by decide +kernel
theorem dX10_areFew_15 : decode cX10_areFew 15 = .ok (.iaload, 1) := by decide +kernel
theorem dX10_areFew_16 : decode cX10_areFew 16 = .ok (.iconst 3, 1) := by decide +kernel
theorem dX10_areFew_17 : decode cX10_areFew 17 = .ok (.if_icmp .gt 7, 3) := by decide +kernel
theorem dX10_areFew_20 : decode cX10_areFew 20 = .ok (.iconst 1, 1) := by decide +kernel
theorem dX10_areFew_21 : decode cX10_areFew 21 = .ok (.goto 4, 3) := by decide +kernel
theorem dX10_areFew_24 : decode cX10_areFew 24 = .ok (.iconst 0, 1) := by decide +kernel
theorem dX10_areFew_25 : decode cX10_areFew 25 = .ok (.ireturn, 1) := by decide +kernel
theorem dX10_best_0 : decode cX10_best 0 = .ok (.aload_n 0, 1) := by decide +kernel
theorem dX10_best_1 : decode cX10_best 1 = .ok (.invokevirtual 218, 3) := by decide +kernel
theorem dX10_best_4 : decode cX10_best 4 = .ok (.ifCond .ne 10, 3) := by decide +kernel
theorem dX10_best_7 : decode cX10_best 7 = .ok (.aload_n 0, 1) := by decide +kernel
theorem dX10_best_8 : decode cX10_best 8 = .ok (.bipush (-6), 2) := by decide +kernel
theorem dX10_best_10 : decode cX10_best 10 = .ok (.invokevirtual 62, 3) := by decide +kernel
theorem dX10_best_13 : decode cX10_best 13 = .ok (.ireturn, 1) := by decide +kernel
theorem dX10_best_14 : decode cX10_best 14 = .ok (.aload_n 0, 1) := by decide +kernel
theorem dX10_best_15 : decode cX10_best 15 = .ok (.invokevirtual 221, 3) := by decide +kernel
theorem dX10_best_18 : decode cX10_best 18 = .ok (.aload_n 0, 1) := by decide +kernel
theorem dX10_best_19 : decode cX10_best 19 = .ok (.getfield 212, 3) := by decide +kernel
theorem dX10_best_22 : decode cX10_best 22 = .ok (.ireturn, 1) := by decide +kernel
theorem dX10_quarters_0 : decode cX10_quarters 0 = .ok (.aload_n 0, 1) := by decide +kernel
theorem dX10_quarters_1 : decode cX10_quarters 1 = .ok (.iload_n 1, 1) := by decide +kernel
theorem dX10_quarters_2 : decode cX10_quarters 2 = .ok (.invokevirtual 103, 3) := by decide +kernel
theorem dX10_quarters_5 : decode cX10_quarters 5 = .ok (.ifCond .eq 11, 3) := by decide +kernel
theorem dX10_quarters_8 : decode cX10_quarters 8 = .ok (.aload_n 0, 1) := by decide +kernel
theorem dX10_quarters_9 : decode cX10_quarters 9 = .ok (.iload_n 2, 1) := by decide +kernel
theorem dX10_quarters_10 : decode cX10_quarters 10 = .ok (.invokevirtual 115, 3) := by decide +kernel
theorem dX10_quarters_13 : decode cX10_quarters 13 = .ok (.ifCond .ne 7, 3) := by decide +kernel
theorem dX10_quarters_16 : decode cX10_quarters 16 = .ok (.iconst (-1), 1) := by decide +kernel
theorem dX10_quarters_17 : decode cX10_quarters 17 = .ok (.goto 16, 3) := by decide +kernel
theorem dX10_quarters_20 : decode cX10_quarters 20 = .ok (.aload_n 0, 1) := by decide +kernel
theorem dX10_quarters_21 : decode cX10_quarters 21 = .ok (.invokevirtual 218, 3) := by decide +kernel
theorem dX10_quarters_24 : decode cX10_quarters 24 = .ok (.ifCond .eq 7, 3) := by decide +kernel
theorem dX10_quarters_27 : decode cX10_quarters 27 = .ok (.iconst 0, 1) := by decide +kernel
theorem dX10_quarters_28 : decode cX10_quarters 28 = .ok (.goto 5, 3) := by decide +kernel
theorem dX10_quarters_31 : decode cX10_quarters 31 = .ok (.bipush (-6), 2) := by decide +kernel
theorem dX10_quarters_33 : decode cX10_quarters 33 = .ok (.istore_n 3, 1) := by decide +kernel
theorem dX10_quarters_34 : decode cX10_quarters 34 = .ok (.iload_n 3, 1) := by decide +kernel
theorem dX10_quarters_35 : decode cX10_quarters 35 = .ok (.ifCond .eq 9, 3) := by decide +kernel
theorem dX10_quarters_38 : decode cX10_quarters 38 = .ok (.aload_n 0, 1) := by decide +kernel
theorem dX10_quarters_39 : decode cX10_quarters 39 = .ok (.iload_n 3, 1) := by decide +kernel
theorem dX10_quarters_40 : decode cX10_quarters 40 = .ok (.invokevirtual 62, 3) := by decide +kernel
theorem dX10_quarters_43 : decode cX10_quarters 43 = .ok (.ireturn, 1) := by decide +kernel
theorem dX10_quarters_44 : decode cX10_quarters 44 = .ok (.aload_n 0, 1) := by decide +kernel
theorem dX10_quarters_45 : decode cX10_quarters 45 = .ok (.invokevirtual 221, 3) := by decide +kernel
theorem dX10_quarters_48 : decode cX10_quarters 48 = .ok (.aload_n 0, 1) := by decide +kernel
theorem dX10_quarters_49 : decode cX10_quarters 49 = .ok (.getfield 40, 3) := by decide +kernel
theorem dX10_quarters_52 : decode cX10_quarters 52 = .ok (.bipush 6, 2) := by decide +kernel
theorem dX10_quarters_54 : decode cX10_quarters 54 = .ok (.iload_n 1, 1) := by decide +kernel
theorem dX10_quarters_55 : decode cX10_quarters 55 = .ok (.imul, 1) := by decide +kernel
theorem dX10_quarters_56 : decode cX10_quarters 56 = .ok (.iload_n 2, 1) := by decide +kernel
theorem dX10_quarters_57 : decode cX10_quarters 57 = .ok (.iadd, 1) := by decide +kernel
theorem dX10_quarters_58 : decode cX10_quarters 58 = .ok (.iaload, 1) := by decide +kernel
theorem dX10_quarters_59 : decode cX10_quarters 59 = .ok (.ireturn, 1) := by decide +kernel
theorem dX10_canAll_0 : decode cX10_canAll 0 = .ok (.iload_n 2, 1) := by decide +kernel
theorem dX10_canAll_1 : decode cX10_canAll 1 = .ok (.aload_n 0, 1) := by decide +kernel
theorem dX10_canAll_2 : decode cX10_canAll 2 = .ok (.getfield 13, 3) := by decide +kernel
theorem dX10_canAll_5 : decode cX10_canAll 5 = .ok (.iconst 1, 1) := by decide +kernel
theorem dX10_canAll_6 : decode cX10_canAll 6 = .ok (.iaload, 1) := by decide +kernel
theorem dX10_canAll_7 : decode cX10_canAll 7 = .ok (.if_icmp .ne 45, 3) := by decide +kernel
theorem dX10_canAll_10 : decode cX10_canAll 10 = .ok (.iconst 0, 1) := by decide +kernel
theorem dX10_canAll_11 : decode cX10_canAll 11 = .ok (.istore_n 3, 1) := by decide +kernel
theorem dX10_canAll_12 : decode cX10_canAll 12 = .ok (.iload_n 3, 1) := by decide +kernel
theorem dX10_canAll_13 : decode cX10_canAll 13 = .ok (.aload_n 0, 1) := by decide +kernel
theorem dX10_canAll_14 : decode cX10_canAll 14 = .ok (.getfield 13, 3) := by decide +kernel
theorem dX10_canAll_17 : decode cX10_canAll 17 = .ok (.iconst 2, 1) := by decide +kernel
theorem dX10_canAll_18 : decode cX10_canAll 18 = .ok (.iaload, 1) := by decide +kernel
theorem dX10_canAll_19 : decode cX10_canAll 19 = .ok (.if_icmp .ge 31, 3) := by decide +kernel
theorem dX10_canAll_22 : decode cX10_canAll 22 = .ok (.aload_n 0, 1) := by decide +kernel
theorem dX10_canAll_23 : decode cX10_canAll 23 = .ok (.iload_n 3, 1) := by decide +kernel
theorem dX10_canAll_24 : decode cX10_canAll 24 = .ok (.iconst 0, 1) := by decide +kernel
theorem dX10_canAll_25 : decode cX10_canAll 25 = .ok (.invokevirtual 118, 3) := by decide +kernel
theorem dX10_canAll_28 : decode cX10_canAll 28 = .ok (.iconst 1, 1) := by decide +kernel
theorem dX10_canAll_29 : decode cX10_canAll 29 = .ok (.if_icmp .ne 15, 3) := by decide +kernel
theorem dX10_canAll_32 : decode cX10_canAll 32 = .ok (.aload_n 0, 1) := by decide +kernel
theorem dX10_canAll_33 : decode cX10_canAll 33 = .ok (.iload_n 3, 1) := by decide +kernel
theorem dX10_canAll_34 : decode cX10_canAll 34 = .ok (.iconst 0, 1) := by decide +kernel
theorem dX10_canAll_35 : decode cX10_canAll 35 = .ok (.iconst 0, 1) := by decide +kernel
theorem dX10_canAll_36 : decode cX10_canAll 36 = .ok (.invokevirtual 183, 3) := by decide +kernel
theorem dX10_canAll_39 : decode cX10_canAll 39 = .ok (.ifCond .ne 5, 3) := by decide +kernel
theorem dX10_canAll_42 : decode cX10_canAll 42 = .ok (.iconst 0, 1) := by decide +kernel
theorem dX10_canAll_43 : decode cX10_canAll 43 = .ok (.ireturn, 1) := by decide +kernel
theorem dX10_canAll_44 : decode cX10_canAll 44 = .ok (.iinc 3 1, 3) := by decide +kernel
theorem dX10_canAll_47 : decode cX10_canAll 47 = .ok (.goto (-35), 3) := by decide +kernel
theorem dX10_canAll_50 : decode cX10_canAll 50 = .ok (.iconst 1, 1) := by decide +kernel
theorem dX10_canAll_51 : decode cX10_canAll 51 = .ok (.ireturn, 1) := by decide +kernel
theorem dX10_canAll_52 : decode cX10_canAll 52 = .ok (.iload_n 1, 1) := by decide +kernel
theorem dX10_canAll_53 : decode cX10_canAll 53 = .ok (.iload_n 2, 1) := by decide +kernel
theorem dX10_canAll_54 : decode cX10_canAll 54 = .ok (.ishr, 1) := by decide +kernel
theorem dX10_canAll_55 : decode cX10_canAll 55 = .ok (.iconst 1, 1) := by decide +kernel
theorem dX10_canAll_56 : decode cX10_canAll 56 = .ok (.iand, 1) := by decide +kernel
theorem dX10_canAll_57 : decode cX10_canAll 57 = .ok (.ifCond .ne 12, 3) := by decide +kernel
theorem dX10_canAll_60 : decode cX10_canAll 60 = .ok (.aload_n 0, 1) := by decide +kernel
theorem dX10_canAll_61 : decode cX10_canAll 61 = .ok (.iload_n 1, 1) := by decide +kernel
theorem dX10_canAll_62 : decode cX10_canAll 62 = .ok (.iload_n 2, 1) := by decide +kernel
theorem dX10_canAll_63 : decode cX10_canAll 63 = .ok (.iconst 1, 1) := by decide +kernel
theorem dX10_canAll_64 : decode cX10_canAll 64 = .ok (.iadd, 1) := by decide +kernel
theorem dX10_canAll_65 : decode cX10_canAll 65 = .ok (.invokevirtual 224, 3) := by decide +kernel
theorem dX10_canAll_68 : decode cX10_canAll 68 = .ok (.ireturn, 1) := by decide +kernel
theorem dX10_canAll_69 : decode cX10_canAll 69 = .ok (.iconst 0, 1) := by decide +kernel
theorem dX10_canAll_70 : decode cX10_canAll 70 = .ok (.istore_n 3, 1) := by decide +kernel
theorem dX10_canAll_71 : decode cX10_canAll 71 = .ok (.iload_n 3, 1) := by decide +kernel
theorem dX10_canAll_72 : decode cX10_canAll 72 = .ok (.aload_n 0, 1) := by decide +kernel
theorem dX10_canAll_73 : decode cX10_canAll 73 = .ok (.getfield 13, 3) := by decide +kernel
theorem dX10_canAll_76 : decode cX10_canAll 76 = .ok (.iconst 2, 1) := by decide +kernel
theorem dX10_canAll_77 : decode cX10_canAll 77 = .ok (.iaload, 1) := by decide +kernel
theorem dX10_canAll_78 : decode cX10_canAll 78 = .ok (.if_icmp .ge 64, 3) := by decide +kernel
theorem dX10_canAll_81 : decode cX10_canAll 81 = .ok (.aload_n 0, 1) := by decide +kernel
theorem dX10_canAll_82 : decode cX10_canAll 82 = .ok (.iload_n 3, 1) := by decide +kernel
theorem dX10_canAll_83 : decode cX10_canAll 83 = .ok (.iconst 0, 1) := by decide +kernel
theorem dX10_canAll_84 : decode cX10_canAll 84 = .ok (.invokevirtual 118, 3) := by decide +kernel
theorem dX10_canAll_87 : decode cX10_canAll 87 = .ok (.iconst 1, 1) := by decide +kernel
theorem dX10_canAll_88 : decode cX10_canAll 88 = .ok (.if_icmp .eq 6, 3) := by decide +kernel
theorem dX10_canAll_91 : decode cX10_canAll 91 = .ok (.goto 45, 3) := by decide +kernel
theorem dX10_canAll_94 : decode cX10_canAll 94 = .ok (.aload_n 0, 1) := by decide +kernel
theorem dX10_canAll_95 : decode cX10_canAll 95 = .ok (.getfield 34, 3) := by decide +kernel
theorem dX10_canAll_98 : decode cX10_canAll 98 = .ok (.bipush 6, 2) := by decide +kernel
theorem dX10_canAll_100 : decode cX10_canAll 100 = .ok (.iload_n 2, 1) := by decide +kernel
theorem dX10_canAll_101 : decode cX10_canAll 101 = .ok (.imul, 1) := by decide +kernel
theorem dX10_canAll_102 : decode cX10_canAll 102 = .ok (.iload_n 3, 1) := by decide +kernel
theorem dX10_canAll_103 : decode cX10_canAll 103 = .ok (.iadd, 1) := by decide +kernel
theorem dX10_canAll_104 : decode cX10_canAll 104 = .ok (.bipush 12, 2) := by decide +kernel
theorem dX10_canAll_106 : decode cX10_canAll 106 = .ok (.iastore, 1) := by decide +kernel
theorem dX10_canAll_107 : decode cX10_canAll 107 = .ok (.aload_n 0, 1) := by decide +kernel
theorem dX10_canAll_108 : decode cX10_canAll 108 = .ok (.iload_n 1, 1) := by decide +kernel
theorem dX10_canAll_109 : decode cX10_canAll 109 = .ok (.iload_n 2, 1) := by decide +kernel
theorem dX10_canAll_110 : decode cX10_canAll 110 = .ok (.iconst 1, 1) := by decide +kernel
theorem dX10_canAll_111 : decode cX10_canAll 111 = .ok (.iadd, 1) := by decide +kernel
theorem dX10_canAll_112 : decode cX10_canAll 112 = .ok (.invokevirtual 224, 3) := by decide +kernel
theorem dX10_canAll_115 : decode cX10_canAll 115 = .ok (.istore 4, 2) := by decide +kernel
theorem dX10_canAll_117 : decode cX10_canAll 117 = .ok (.aload_n 0, 1) := by decide +kernel
theorem dX10_canAll_118 : decode cX10_canAll 118 = .ok (.getfield 34, 3) := by decide +kernel
theorem dX10_canAll_121 : decode cX10_canAll 121 = .ok (.bipush 6, 2) := by decide +kernel
theorem dX10_canAll_123 : decode cX10_canAll 123 = .ok (.iload_n 2, 1) := by decide +kernel
theorem dX10_canAll_124 : decode cX10_canAll 124 = .ok (.imul, 1) := by decide +kernel
theorem dX10_canAll_125 : decode cX10_canAll 125 = .ok (.iload_n 3, 1) := by decide +kernel
theorem dX10_canAll_126 : decode cX10_canAll 126 = .ok (.iadd, 1) := by decide +kernel
theorem dX10_canAll_127 : decode cX10_canAll 127 = .ok (.iconst 0, 1) := by decide +kernel
theorem dX10_canAll_128 : decode cX10_canAll 128 = .ok (.iastore, 1) := by decide +kernel
theorem dX10_canAll_129 : decode cX10_canAll 129 = .ok (.iload 4, 2) := by decide +kernel
theorem dX10_canAll_131 : decode cX10_canAll 131 = .ok (.ifCond .eq 5, 3) := by decide +kernel
theorem dX10_canAll_134 : decode cX10_canAll 134 = .ok (.iconst 1, 1) := by decide +kernel
theorem dX10_canAll_135 : decode cX10_canAll 135 = .ok (.ireturn, 1) := by decide +kernel
theorem dX10_canAll_136 : decode cX10_canAll 136 = .ok (.iinc 3 1, 3) := by decide +kernel
theorem dX10_canAll_139 : decode cX10_canAll 139 = .ok (.goto (-68), 3) := by decide +kernel
theorem dX10_canAll_142 : decode cX10_canAll 142 = .ok (.iconst 0, 1) := by decide +kernel
theorem dX10_canAll_143 : decode cX10_canAll 143 = .ok (.ireturn, 1) := by decide +kernel
theorem dX10_must_0 : decode cX10_must 0 = .ok (.iconst 0, 1) := by decide +kernel
theorem dX10_must_1 : decode cX10_must 1 = .ok (.istore_n 1, 1) := by decide +kernel
theorem dX10_must_2 : decode cX10_must 2 = .ok (.iconst 0, 1) := by decide +kernel
theorem dX10_must_3 : decode cX10_must 3 = .ok (.istore_n 2, 1) := by decide +kernel
theorem dX10_must_4 : decode cX10_must 4 = .ok (.iload_n 2, 1) := by decide +kernel
theorem dX10_must_5 : decode cX10_must 5 = .ok (.aload_n 0, 1) := by decide +kernel
theorem dX10_must_6 : decode cX10_must 6 = .ok (.getfield 13, 3) := by decide +kernel
theorem dX10_must_9 : decode cX10_must 9 = .ok (.iconst 2, 1) := by decide +kernel
theorem dX10_must_10 : decode cX10_must 10 = .ok (.iaload, 1) := by decide +kernel
theorem dX10_must_11 : decode cX10_must 11 = .ok (.if_icmp .ge 29, 3) := by decide +kernel
theorem dX10_must_14 : decode cX10_must 14 = .ok (.iload_n 1, 1) := by decide +kernel
theorem dX10_must_15 : decode cX10_must 15 = .ok (.ifCond .ne 13, 3) := by decide +kernel
theorem dX10_must_18 : decode cX10_must 18 = .ok (.aload_n 0, 1) := by decide +kernel
theorem dX10_must_19 : decode cX10_must 19 = .ok (.iload_n 2, 1) := by decide +kernel
theorem dX10_must_20 : decode cX10_must 20 = .ok (.iconst 0, 1) := by decide +kernel
theorem dX10_must_21 : decode cX10_must 21 = .ok (.invokevirtual 118, 3) := by decide +kernel
theorem dX10_must_24 : decode cX10_must 24 = .ok (.iconst 1, 1) := by decide +kernel
theorem dX10_must_25 : decode cX10_must 25 = .ok (.if_icmp .ne 7, 3) := by decide +kernel
theorem dX10_must_28 : decode cX10_must 28 = .ok (.iconst 1, 1) := by decide +kernel
theorem dX10_must_29 : decode cX10_must 29 = .ok (.goto 4, 3) := by decide +kernel
theorem dX10_must_32 : decode cX10_must 32 = .ok (.iconst 0, 1) := by decide +kernel
theorem dX10_must_33 : decode cX10_must 33 = .ok (.istore_n 1, 1) := by decide +kernel
theorem dX10_must_34 : decode cX10_must 34 = .ok (.iinc 2 1, 3) := by decide +kernel
theorem dX10_must_37 : decode cX10_must 37 = .ok (.goto (-33), 3) := by decide +kernel
theorem dX10_must_40 : decode cX10_must 40 = .ok (.iload_n 1, 1) := by decide +kernel
theorem dX10_must_41 : decode cX10_must 41 = .ok (.ifCond .ne 5, 3) := by decide +kernel
theorem dX10_must_44 : decode cX10_must 44 = .ok (.iconst 0, 1) := by decide +kernel
theorem dX10_must_45 : decode cX10_must 45 = .ok (.ireturn, 1) := by decide +kernel
theorem dX10_must_46 : decode cX10_must 46 = .ok (.iconst 0, 1) := by decide +kernel
theorem dX10_must_47 : decode cX10_must 47 = .ok (.istore_n 2, 1) := by decide +kernel
theorem dX10_must_48 : decode cX10_must 48 = .ok (.iload_n 2, 1) := by decide +kernel
theorem dX10_must_49 : decode cX10_must 49 = .ok (.bipush 36, 2) := by decide +kernel
theorem dX10_must_51 : decode cX10_must 51 = .ok (.if_icmp .ge 16, 3) := by decide +kernel
theorem dX10_must_54 : decode cX10_must 54 = .ok (.aload_n 0, 1) := by decide +kernel
theorem dX10_must_55 : decode cX10_must 55 = .ok (.getfield 34, 3) := by decide +kernel
theorem dX10_must_58 : decode cX10_must 58 = .ok (.iload_n 2, 1) := by decide +kernel
theorem dX10_must_59 : decode cX10_must 59 = .ok (.iconst 0, 1) := by decide +kernel
theorem dX10_must_60 : decode cX10_must 60 = .ok (.iastore, 1) := by decide +kernel
theorem dX10_must_61 : decode cX10_must 61 = .ok (.iinc 2 1, 3) := by decide +kernel
theorem dX10_must_64 : decode cX10_must 64 = .ok (.goto (-16), 3) := by decide +kernel
theorem dX10_must_67 : decode cX10_must 67 = .ok (.bipush (-9), 2) := by decide +kernel
theorem dX10_must_69 : decode cX10_must 69 = .ok (.istore_n 2, 1) := by decide +kernel
theorem dX10_must_70 : decode cX10_must 70 = .ok (.iconst 0, 1) := by decide +kernel
theorem dX10_must_71 : decode cX10_must 71 = .ok (.istore_n 3, 1) := by decide +kernel
theorem dX10_must_72 : decode cX10_must 72 = .ok (.iload_n 3, 1) := by decide +kernel
theorem dX10_must_73 : decode cX10_must 73 = .ok (.iconst 1, 1) := by decide +kernel
theorem dX10_must_74 : decode cX10_must 74 = .ok (.aload_n 0, 1) := by decide +kernel
theorem dX10_must_75 : decode cX10_must 75 = .ok (.getfield 13, 3) := by decide +kernel
theorem dX10_must_78 : decode cX10_must 78 = .ok (.iconst 1, 1) := by decide +kernel
theorem dX10_must_79 : decode cX10_must 79 = .ok (.iaload, 1) := by decide +kernel
theorem dX10_must_80 : decode cX10_must 80 = .ok (.ishl, 1) := by decide +kernel
theorem dX10_must_81 : decode cX10_must 81 = .ok (.if_icmp .ge 35, 3) := by decide +kernel
theorem dX10_must_84 : decode cX10_must 84 = .ok (.iload_n 2, 1) := by decide +kernel
theorem dX10_must_85 : decode cX10_must 85 = .ok (.ifCond .lt 14, 3) := by decide +kernel
theorem dX10_must_88 : decode cX10_must 88 = .ok (.iload_n 3, 1) := by decide +kernel
theorem dX10_must_89 : decode cX10_must 89 = .ok (.invokestatic 138, 3) := by decide +kernel
theorem dX10_must_92 : decode cX10_must 92 = .ok (.iload_n 2, 1) := by decide +kernel
theorem dX10_must_93 : decode cX10_must 93 = .ok (.invokestatic 138, 3) := by decide +kernel
theorem dX10_must_96 : decode cX10_must 96 = .ok (.if_icmp .ge 14, 3) := by decide +kernel
theorem dX10_must_99 : decode cX10_must 99 = .ok (.aload_n 0, 1) := by decide +kernel
theorem dX10_must_100 : decode cX10_must 100 = .ok (.iload_n 3, 1) := by decide +kernel
theorem dX10_must_101 : decode cX10_must 101 = .ok (.iconst 0, 1) := by decide +kernel
theorem dX10_must_102 : decode cX10_must 102 = .ok (.invokevirtual 224, 3) := by decide +kernel
theorem dX10_must_105 : decode cX10_must 105 = .ok (.ifCond .eq 5, 3) := by decide +kernel
theorem dX10_must_108 : decode cX10_must 108 = .ok (.iload_n 3, 1) := by decide +kernel
theorem dX10_must_109 : decode cX10_must 109 = .ok (.istore_n 2, 1) := by decide +kernel
theorem dX10_must_110 : decode cX10_must 110 = .ok (.iinc 3 1, 3) := by decide +kernel
theorem dX10_must_113 : decode cX10_must 113 = .ok (.goto (-41), 3) := by decide +kernel
theorem dX10_must_116 : decode cX10_must 116 = .ok (.iload_n 2, 1) := by decide +kernel
theorem dX10_must_117 : decode cX10_must 117 = .ok (.ireturn, 1) := by decide +kernel
theorem dX10_with_0 : decode cX10_with 0 = .ok (.aload_n 0, 1) := by decide +kernel
theorem dX10_with_1 : decode cX10_with 1 = .ok (.iload_n 1, 1) := by decide +kernel
theorem dX10_with_2 : decode cX10_with 2 = .ok (.invokevirtual 115, 3) := by decide +kernel
theorem dX10_with_5 : decode cX10_with 5 = .ok (.ifCond .ne 9, 3) := by decide +kernel
theorem dX10_with_8 : decode cX10_with 8 = .ok (.aload_n 0, 1) := by decide +kernel
theorem dX10_with_9 : decode cX10_with 9 = .ok (.iconst (-1), 1) := by decide +kernel
theorem dX10_with_10 : decode cX10_with 10 = .ok (.invokevirtual 62, 3) := by decide +kernel
theorem dX10_with_13 : decode cX10_with 13 = .ok (.ireturn, 1) := by decide +kernel
theorem dX10_with_14 : decode cX10_with 14 = .ok (.aload_n 0, 1) := by decide +kernel
theorem dX10_with_15 : decode cX10_with 15 = .ok (.iload_n 1, 1) := by decide +kernel
theorem dX10_with_16 : decode cX10_with 16 = .ok (.iconst 0, 1) := by decide +kernel
theorem dX10_with_17 : decode cX10_with 17 = .ok (.invokevirtual 118, 3) := by decide +kernel
theorem dX10_with_20 : decode cX10_with 20 = .ok (.iconst 3, 1) := by decide +kernel
theorem dX10_with_21 : decode cX10_with 21 = .ok (.if_icmp .eq 10, 3) := by decide +kernel
theorem dX10_with_24 : decode cX10_with 24 = .ok (.aload_n 0, 1) := by decide +kernel
theorem dX10_with_25 : decode cX10_with 25 = .ok (.bipush (-2), 2) := by decide +kernel
theorem dX10_with_27 : decode cX10_with 27 = .ok (.invokevirtual 62, 3) := by decide +kernel
theorem dX10_with_30 : decode cX10_with 30 = .ok (.ireturn, 1) := by decide +kernel
theorem dX10_with_31 : decode cX10_with 31 = .ok (.bipush (-9), 2) := by decide +kernel
theorem dX10_with_33 : decode cX10_with 33 = .ok (.istore_n 2, 1) := by decide +kernel
theorem dX10_with_34 : decode cX10_with 34 = .ok (.iconst 0, 1) := by decide +kernel
theorem dX10_with_35 : decode cX10_with 35 = .ok (.istore_n 3, 1) := by decide +kernel
theorem dX10_with_36 : decode cX10_with 36 = .ok (.iconst 1, 1) := by decide +kernel
theorem dX10_with_37 : decode cX10_with 37 = .ok (.istore 4, 2) := by decide +kernel
theorem dX10_with_39 : decode cX10_with 39 = .ok (.iconst 0, 1) := by decide +kernel
theorem dX10_with_40 : decode cX10_with 40 = .ok (.istore 5, 2) := by decide +kernel
theorem dX10_with_42 : decode cX10_with 42 = .ok (.iload 5, 2) := by decide +kernel
theorem dX10_with_44 : decode cX10_with 44 = .ok (.aload_n 0, 1) := by decide +kernel
theorem dX10_with_45 : decode cX10_with 45 = .ok (.getfield 13, 3) := by decide +kernel
theorem dX10_with_48 : decode cX10_with 48 = .ok (.iconst 1, 1) := by decide +kernel
theorem dX10_with_49 : decode cX10_with 49 = .ok (.iaload, 1) := by decide +kernel
theorem dX10_with_50 : decode cX10_with 50 = .ok (.if_icmp .ge 109, 3) := by decide +kernel
theorem dX10_with_53 : decode cX10_with 53 = .ok (.iload 5, 2) := by decide +kernel
theorem dX10_with_55 : decode cX10_with 55 = .ok (.iconst 1, 1) := by decide +kernel
theorem dX10_with_56 : decode cX10_with 56 = .ok (.iadd, 1) := by decide +kernel
theorem dX10_with_57 : decode cX10_with 57 = .ok (.istore 6, 2) := by decide +kernel
theorem dX10_with_59 : decode cX10_with 59 = .ok (.iload 6, 2) := by decide +kernel
theorem dX10_with_61 : decode cX10_with 61 = .ok (.aload_n 0, 1) := by decide +kernel
theorem dX10_with_62 : decode cX10_with 62 = .ok (.getfield 13, 3) := by decide +kernel
theorem dX10_with_65 : decode cX10_with 65 = .ok (.iconst 1, 1) := by decide +kernel
theorem dX10_with_66 : decode cX10_with 66 = .ok (.iaload, 1) := by decide +kernel
theorem dX10_with_67 : decode cX10_with 67 = .ok (.if_icmp .ge 86, 3) := by decide +kernel
theorem dX10_with_70 : decode cX10_with 70 = .ok (.aload_n 0, 1) := by decide +kernel
theorem dX10_with_71 : decode cX10_with 71 = .ok (.invokevirtual 151, 3) := by decide +kernel
theorem dX10_with_74 : decode cX10_with 74 = .ok (.aload_n 0, 1) := by decide +kernel
theorem dX10_with_75 : decode cX10_with 75 = .ok (.iconst 3, 1) := by decide +kernel
theorem dX10_with_76 : decode cX10_with 76 = .ok (.iload 5, 2) := by decide +kernel
theorem dX10_with_78 : decode cX10_with 78 = .ok (.bipush 12, 2) := by decide +kernel
theorem dX10_with_80 : decode cX10_with 80 = .ok (.iconst 0, 1) := by decide +kernel
theorem dX10_with_81 : decode cX10_with 81 = .ok (.invokevirtual 154, 3) := by decide +kernel
theorem dX10_with_84 : decode cX10_with 84 = .ok (.aload_n 0, 1) := by decide +kernel
theorem dX10_with_85 : decode cX10_with 85 = .ok (.iconst 3, 1) := by decide +kernel
theorem dX10_with_86 : decode cX10_with 86 = .ok (.iload 6, 2) := by decide +kernel
theorem dX10_with_88 : decode cX10_with 88 = .ok (.bipush 12, 2) := by decide +kernel
theorem dX10_with_90 : decode cX10_with 90 = .ok (.iconst 0, 1) := by decide +kernel
theorem dX10_with_91 : decode cX10_with 91 = .ok (.invokevirtual 154, 3) := by decide +kernel
theorem dX10_with_94 : decode cX10_with 94 = .ok (.aload_n 0, 1) := by decide +kernel
theorem dX10_with_95 : decode cX10_with 95 = .ok (.iload_n 1, 1) := by decide +kernel
theorem dX10_with_96 : decode cX10_with 96 = .ok (.invokevirtual 171, 3) := by decide +kernel
theorem dX10_with_99 : decode cX10_with 99 = .ok (.iload_n 2, 1) := by decide +kernel
theorem dX10_with_100 : decode cX10_with 100 = .ok (.ifCond .lt 27, 3) := by decide +kernel
theorem dX10_with_103 : decode cX10_with 103 = .ok (.aload_n 0, 1) := by decide +kernel
theorem dX10_with_104 : decode cX10_with 104 = .ok (.getfield 165, 3) := by decide +kernel
theorem dX10_with_107 : decode cX10_with 107 = .ok (.i2l, 1) := by decide +kernel
theorem dX10_with_108 : decode cX10_with 108 = .ok (.iload 4, 2) := by decide +kernel
theorem dX10_with_110 : decode cX10_with 110 = .ok (.i2l, 1) := by decide +kernel
theorem dX10_with_111 : decode cX10_with 111 = .ok (.lmul, 1) := by decide +kernel
theorem dX10_with_112 : decode cX10_with 112 = .ok (.iload_n 3, 1) := by decide +kernel
theorem dX10_with_113 : decode cX10_with 113 = .ok (.i2l, 1) := by decide +kernel
theorem dX10_with_114 : decode cX10_with 114 = .ok (.aload_n 0, 1) := by decide +kernel
theorem dX10_with_115 : decode cX10_with 115 = .ok (.getfield 168, 3) := by decide +kernel
theorem dX10_with_118 : decode cX10_with 118 = .ok (.i2l, 1) := by decide +kernel
theorem dX10_with_119 : decode cX10_with 119 = .ok (.lmul, 1) := by decide +kernel
theorem dX10_with_120 : decode cX10_with 120 = .ok (.lcmp, 1) := by decide +kernel
theorem dX10_with_121 : decode cX10_with 121 = .ok (.ifCond .gt 6, 3) := by decide +kernel
theorem dX10_with_124 : decode cX10_with 124 = .ok (.goto 23, 3) := by decide +kernel
theorem dX10_with_127 : decode cX10_with 127 = .ok (.bipush 10, 2) := by decide +kernel
theorem dX10_with_129 : decode cX10_with 129 = .ok (.iload 5, 2) := by decide +kernel
theorem dX10_with_131 : decode cX10_with 131 = .ok (.imul, 1) := by decide +kernel
theorem dX10_with_132 : decode cX10_with 132 = .ok (.iload 6, 2) := by decide +kernel
theorem dX10_with_134 : decode cX10_with 134 = .ok (.iadd, 1) := by decide +kernel
theorem dX10_with_135 : decode cX10_with 135 = .ok (.istore_n 2, 1) := by decide +kernel
theorem dX10_with_136 : decode cX10_with 136 = .ok (.aload_n 0, 1) := by decide +kernel
theorem dX10_with_137 : decode cX10_with 137 = .ok (.getfield 165, 3) := by decide +kernel
theorem dX10_with_140 : decode cX10_with 140 = .ok (.istore_n 3, 1) := by decide +kernel
theorem dX10_with_141 : decode cX10_with 141 = .ok (.aload_n 0, 1) := by decide +kernel
theorem dX10_with_142 : decode cX10_with 142 = .ok (.getfield 168, 3) := by decide +kernel
theorem dX10_with_145 : decode cX10_with 145 = .ok (.istore 4, 2) := by decide +kernel
theorem dX10_with_147 : decode cX10_with 147 = .ok (.iinc 6 1, 3) := by decide +kernel
theorem dX10_with_150 : decode cX10_with 150 = .ok (.goto (-91), 3) := by decide +kernel
theorem dX10_with_153 : decode cX10_with 153 = .ok (.iinc 5 1, 3) := by decide +kernel
theorem dX10_with_156 : decode cX10_with 156 = .ok (.goto (-114), 3) := by decide +kernel
theorem dX10_with_159 : decode cX10_with 159 = .ok (.iload_n 2, 1) := by decide +kernel
theorem dX10_with_160 : decode cX10_with 160 = .ok (.ireturn, 1) := by decide +kernel
theorem dX10_thin_0 : decode cX10_thin 0 = .ok (.aload_n 0, 1) := by decide +kernel
theorem dX10_thin_1 : decode cX10_thin 1 = .ok (.iload_n 1, 1) := by decide +kernel
theorem dX10_thin_2 : decode cX10_thin 2 = .ok (.invokevirtual 103, 3) := by decide +kernel
theorem dX10_thin_5 : decode cX10_thin 5 = .ok (.ifCond .eq 15, 3) := by decide +kernel
theorem dX10_thin_8 : decode cX10_thin 8 = .ok (.bipush 12, 2) := by decide +kernel
theorem dX10_thin_10 : decode cX10_thin 10 = .ok (.aload_n 0, 1) := by decide +kernel
theorem dX10_thin_11 : decode cX10_thin 11 = .ok (.iload_n 1, 1) := by decide +kernel
theorem dX10_thin_12 : decode cX10_thin 12 = .ok (.iconst 3, 1) := by decide +kernel
theorem dX10_thin_13 : decode cX10_thin 13 = .ok (.invokevirtual 106, 3) := by decide +kernel
theorem dX10_thin_16 : decode cX10_thin 16 = .ok (.idiv, 1) := by decide +kernel
theorem dX10_thin_17 : decode cX10_thin 17 = .ok (.goto 8, 3) := by decide +kernel
theorem dX10_thin_20 : decode cX10_thin 20 = .ok (.aload_n 0, 1) := by decide +kernel
theorem dX10_thin_21 : decode cX10_thin 21 = .ok (.iconst (-1), 1) := by decide +kernel
theorem dX10_thin_22 : decode cX10_thin 22 = .ok (.invokevirtual 62, 3) := by decide +kernel
theorem dX10_thin_25 : decode cX10_thin 25 = .ok (.ireturn, 1) := by decide +kernel
theorem dX10_few_0 : decode cX10_few 0 = .ok (.aload_n 0, 1) := by decide +kernel
theorem dX10_few_1 : decode cX10_few 1 = .ok (.iload_n 1, 1) := by decide +kernel
theorem dX10_few_2 : decode cX10_few 2 = .ok (.invokevirtual 103, 3) := by decide +kernel
theorem dX10_few_5 : decode cX10_few 5 = .ok (.ifCond .eq 11, 3) := by decide +kernel
theorem dX10_few_8 : decode cX10_few 8 = .ok (.aload_n 0, 1) := by decide +kernel
theorem dX10_few_9 : decode cX10_few 9 = .ok (.iload_n 2, 1) := by decide +kernel
theorem dX10_few_10 : decode cX10_few 10 = .ok (.invokevirtual 115, 3) := by decide +kernel
theorem dX10_few_13 : decode cX10_few 13 = .ok (.ifCond .ne 9, 3) := by decide +kernel
theorem dX10_few_16 : decode cX10_few 16 = .ok (.aload_n 0, 1) := by decide +kernel
theorem dX10_few_17 : decode cX10_few 17 = .ok (.iconst (-1), 1) := by decide +kernel
theorem dX10_few_18 : decode cX10_few 18 = .ok (.invokevirtual 62, 3) := by decide +kernel
theorem dX10_few_21 : decode cX10_few 21 = .ok (.ireturn, 1) := by decide +kernel
theorem dX10_few_22 : decode cX10_few 22 = .ok (.aload_n 0, 1) := by decide +kernel
theorem dX10_few_23 : decode cX10_few 23 = .ok (.iload_n 2, 1) := by decide +kernel
theorem dX10_few_24 : decode cX10_few 24 = .ok (.iconst 0, 1) := by decide +kernel
theorem dX10_few_25 : decode cX10_few 25 = .ok (.invokevirtual 118, 3) := by decide +kernel
theorem dX10_few_28 : decode cX10_few 28 = .ok (.ifCond .eq 10, 3) := by decide +kernel
theorem dX10_few_31 : decode cX10_few 31 = .ok (.aload_n 0, 1) := by decide +kernel
theorem dX10_few_32 : decode cX10_few 32 = .ok (.bipush (-2), 2) := by decide +kernel
theorem dX10_few_34 : decode cX10_few 34 = .ok (.invokevirtual 62, 3) := by decide +kernel
theorem dX10_few_37 : decode cX10_few 37 = .ok (.ireturn, 1) := by decide +kernel
theorem dX10_few_38 : decode cX10_few 38 = .ok (.aload_n 0, 1) := by decide +kernel
theorem dX10_few_39 : decode cX10_few 39 = .ok (.iload_n 1, 1) := by decide +kernel
theorem dX10_few_40 : decode cX10_few 40 = .ok (.iconst 3, 1) := by decide +kernel
theorem dX10_few_41 : decode cX10_few 41 = .ok (.invokevirtual 106, 3) := by decide +kernel
theorem dX10_few_44 : decode cX10_few 44 = .ok (.istore_n 3, 1) := by decide +kernel
theorem dX10_few_45 : decode cX10_few 45 = .ok (.iload_n 3, 1) := by decide +kernel
theorem dX10_few_46 : decode cX10_few 46 = .ok (.bipush 12, 2) := by decide +kernel
theorem dX10_few_48 : decode cX10_few 48 = .ok (.if_icmp .gt 31, 3) := by decide +kernel
theorem dX10_few_51 : decode cX10_few 51 = .ok (.aload_n 0, 1) := by decide +kernel
theorem dX10_few_52 : decode cX10_few 52 = .ok (.invokevirtual 151, 3) := by decide +kernel
theorem dX10_few_55 : decode cX10_few 55 = .ok (.aload_n 0, 1) := by decide +kernel
theorem dX10_few_56 : decode cX10_few 56 = .ok (.iconst 0, 1) := by decide +kernel
theorem dX10_few_57 : decode cX10_few 57 = .ok (.iload_n 1, 1) := by decide +kernel
theorem dX10_few_58 : decode cX10_few 58 = .ok (.iload_n 3, 1) := by decide +kernel
theorem dX10_few_59 : decode cX10_few 59 = .ok (.iconst 0, 1) := by decide +kernel
theorem dX10_few_60 : decode cX10_few 60 = .ok (.invokevirtual 154, 3) := by decide +kernel
theorem dX10_few_63 : decode cX10_few 63 = .ok (.aload_n 0, 1) := by decide +kernel
theorem dX10_few_64 : decode cX10_few 64 = .ok (.iload_n 2, 1) := by decide +kernel
theorem dX10_few_65 : decode cX10_few 65 = .ok (.invokevirtual 180, 3) := by decide +kernel
theorem dX10_few_68 : decode cX10_few 68 = .ok (.ifCond .eq 5, 3) := by decide +kernel
theorem dX10_few_71 : decode cX10_few 71 = .ok (.iload_n 3, 1) := by decide +kernel
theorem dX10_few_72 : decode cX10_few 72 = .ok (.ireturn, 1) := by decide +kernel
theorem dX10_few_73 : decode cX10_few 73 = .ok (.iinc 3 1, 3) := by decide +kernel
theorem dX10_few_76 : decode cX10_few 76 = .ok (.goto (-31), 3) := by decide +kernel
theorem dX10_few_79 : decode cX10_few 79 = .ok (.bipush (-9), 2) := by decide +kernel
theorem dX10_few_81 : decode cX10_few 81 = .ok (.ireturn, 1) := by decide +kernel
theorem dX10_commonLong_0 : decode cX10_commonLong 0 = .ok (.lload_n 2, 1) := by decide +kernel
theorem dX10_commonLong_1 : decode cX10_commonLong 1 = .ok (.lconst 0, 1) := by decide +kernel
theorem dX10_commonLong_2 : decode cX10_commonLong 2 = .ok (.lcmp, 1) := by decide +kernel
theorem dX10_commonLong_3 : decode cX10_commonLong 3 = .ok (.ifCond .ne 7, 3) := by decide +kernel
theorem dX10_commonLong_6 : decode cX10_commonLong 6 = .ok (.lload_n 0, 1) := by decide +kernel
theorem dX10_commonLong_7 : decode cX10_commonLong 7 = .ok (.goto 10, 3) := by decide +kernel
theorem dX10_commonLong_10 : decode cX10_commonLong 10 = .ok (.lload_n 2, 1) := by decide +kernel
theorem dX10_commonLong_11 : decode cX10_commonLong 11 = .ok (.lload_n 0, 1) := by decide +kernel
theorem dX10_commonLong_12 : decode cX10_commonLong 12 = .ok (.lload_n 2, 1) := by decide +kernel
theorem dX10_commonLong_13 : decode cX10_commonLong 13 = .ok (.lrem, 1) := by decide +kernel
theorem dX10_commonLong_14 : decode cX10_commonLong 14 = .ok (.invokestatic 227, 3) := by decide +kernel
theorem dX10_commonLong_17 : decode cX10_commonLong 17 = .ok (.lreturn, 1) := by decide +kernel
theorem dX10_chance_0 : decode cX10_chance 0 = .ok (.aload_n 0, 1) := by decide +kernel
theorem dX10_chance_1 : decode cX10_chance 1 = .ok (.iload_n 1, 1) := by decide +kernel
theorem dX10_chance_2 : decode cX10_chance 2 = .ok (.invokevirtual 103, 3) := by decide +kernel
theorem dX10_chance_5 : decode cX10_chance 5 = .ok (.ifCond .ne 7, 3) := by decide +kernel
theorem dX10_chance_8 : decode cX10_chance 8 = .ok (.iconst (-1), 1) := by decide +kernel
theorem dX10_chance_9 : decode cX10_chance 9 = .ok (.goto 32, 3) := by decide +kernel
theorem dX10_chance_12 : decode cX10_chance 12 = .ok (.iload_n 3, 1) := by decide +kernel
theorem dX10_chance_13 : decode cX10_chance 13 = .ok (.iconst 2, 1) := by decide +kernel
theorem dX10_chance_14 : decode cX10_chance 14 = .ok (.invokestatic 46, 3) := by decide +kernel
theorem dX10_chance_17 : decode cX10_chance 17 = .ok (.ifCond .eq 12, 3) := by decide +kernel
theorem dX10_chance_20 : decode cX10_chance 20 = .ok (.iload 4, 2) := by decide +kernel
theorem dX10_chance_22 : decode cX10_chance 22 = .ok (.iconst 2, 1) := by decide +kernel
theorem dX10_chance_23 : decode cX10_chance 23 = .ok (.invokestatic 46, 3) := by decide +kernel
theorem dX10_chance_26 : decode cX10_chance 26 = .ok (.ifCond .ne 8, 3) := by decide +kernel
theorem dX10_chance_29 : decode cX10_chance 29 = .ok (.bipush (-2), 2) := by decide +kernel
theorem dX10_chance_31 : decode cX10_chance 31 = .ok (.goto 10, 3) := by decide +kernel
theorem dX10_chance_34 : decode cX10_chance 34 = .ok (.iload_n 2, 1) := by decide +kernel
theorem dX10_chance_35 : decode cX10_chance 35 = .ok (.iconst 0, 1) := by decide +kernel
theorem dX10_chance_36 : decode cX10_chance 36 = .ok (.bipush 100, 2) := by decide +kernel
theorem dX10_chance_38 : decode cX10_chance 38 = .ok (.invokestatic 54, 3) := by decide +kernel
theorem dX10_chance_41 : decode cX10_chance 41 = .ok (.istore 5, 2) := by decide +kernel
theorem dX10_chance_43 : decode cX10_chance 43 = .ok (.iconst 0, 1) := by decide +kernel
theorem dX10_chance_44 : decode cX10_chance 44 = .ok (.istore 6, 2) := by decide +kernel
theorem dX10_chance_46 : decode cX10_chance 46 = .ok (.iconst 0, 1) := by decide +kernel
theorem dX10_chance_47 : decode cX10_chance 47 = .ok (.istore 7, 2) := by decide +kernel
theorem dX10_chance_49 : decode cX10_chance 49 = .ok (.iconst 0, 1) := by decide +kernel
theorem dX10_chance_50 : decode cX10_chance 50 = .ok (.istore 8, 2) := by decide +kernel
theorem dX10_chance_52 : decode cX10_chance 52 = .ok (.iconst 0, 1) := by decide +kernel
theorem dX10_chance_53 : decode cX10_chance 53 = .ok (.istore 9, 2) := by decide +kernel
theorem dX10_chance_55 : decode cX10_chance 55 = .ok (.iload 9, 2) := by decide +kernel
theorem dX10_chance_57 : decode cX10_chance 57 = .ok (.bipush 24, 2) := by decide +kernel
theorem dX10_chance_59 : decode cX10_chance 59 = .ok (.if_icmp .ge 104, 3) := by decide +kernel
theorem dX10_chance_62 : decode cX10_chance 62 = .ok (.iload 5, 2) := by decide +kernel
theorem dX10_chance_64 : decode cX10_chance 64 = .ok (.ifCond .ne 99, 3) := by decide +kernel
theorem dX10_chance_67 : decode cX10_chance 67 = .ok (.aload_n 0, 1) := by decide +kernel
theorem dX10_chance_68 : decode cX10_chance 68 = .ok (.iload 9, 2) := by decide +kernel
theorem dX10_chance_70 : decode cX10_chance 70 = .ok (.iconst 0, 1) := by decide +kernel
theorem dX10_chance_71 : decode cX10_chance 71 = .ok (.invokevirtual 50, 3) := by decide +kernel
theorem dX10_chance_74 : decode cX10_chance 74 = .ok (.iload_n 1, 1) := by decide +kernel
theorem dX10_chance_75 : decode cX10_chance 75 = .ok (.iconst 1, 1) := by decide +kernel
theorem dX10_chance_76 : decode cX10_chance 76 = .ok (.iadd, 1) := by decide +kernel
theorem dX10_chance_77 : decode cX10_chance 77 = .ok (.if_icmp .eq 6, 3) := by decide +kernel
theorem dX10_chance_80 : decode cX10_chance 80 = .ok (.goto 77, 3) := by decide +kernel
theorem dX10_chance_83 : decode cX10_chance 83 = .ok (.aload_n 0, 1) := by decide +kernel
theorem dX10_chance_84 : decode cX10_chance 84 = .ok (.iload 9, 2) := by decide +kernel
theorem dX10_chance_86 : decode cX10_chance 86 = .ok (.iconst 2, 1) := by decide +kernel
theorem dX10_chance_87 : decode cX10_chance 87 = .ok (.invokevirtual 50, 3) := by decide +kernel
theorem dX10_chance_90 : decode cX10_chance 90 = .ok (.ifCond .ne 7, 3) := by decide +kernel
theorem dX10_chance_93 : decode cX10_chance 93 = .ok (.iconst 1, 1) := by decide +kernel
theorem dX10_chance_94 : decode cX10_chance 94 = .ok (.goto 4, 3) := by decide +kernel
theorem dX10_chance_97 : decode cX10_chance 97 = .ok (.iconst 0, 1) := by decide +kernel
theorem dX10_chance_98 : decode cX10_chance 98 = .ok (.istore 10, 2) := by decide +kernel
theorem dX10_chance_100 : decode cX10_chance 100 = .ok (.iload 6, 2) := by decide +kernel
theorem dX10_chance_102 : decode cX10_chance 102 = .ok (.iload 10, 2) := by decide +kernel
theorem dX10_chance_104 : decode cX10_chance 104 = .ok (.ifCond .eq 13, 3) := by decide +kernel
theorem dX10_chance_107 : decode cX10_chance 107 = .ok (.aload_n 0, 1) := by decide +kernel
theorem dX10_chance_108 : decode cX10_chance 108 = .ok (.iload 9, 2) := by decide +kernel
theorem dX10_chance_110 : decode cX10_chance 110 = .ok (.iconst 1, 1) := by decide +kernel
theorem dX10_chance_111 : decode cX10_chance 111 = .ok (.invokevirtual 50, 3) := by decide +kernel
theorem dX10_chance_114 : decode cX10_chance 114 = .ok (.goto 4, 3) := by decide +kernel
theorem dX10_chance_117 : decode cX10_chance 117 = .ok (.iconst 0, 1) := by decide +kernel
theorem dX10_chance_118 : decode cX10_chance 118 = .ok (.iadd, 1) := by decide +kernel
theorem dX10_chance_119 : decode cX10_chance 119 = .ok (.istore 6, 2) := by decide +kernel
theorem dX10_chance_121 : decode cX10_chance 121 = .ok (.iload 7, 2) := by decide +kernel
theorem dX10_chance_123 : decode cX10_chance 123 = .ok (.iload 10, 2) := by decide +kernel
theorem dX10_chance_125 : decode cX10_chance 125 = .ok (.ifCond .eq 7, 3) := by decide +kernel
theorem dX10_chance_128 : decode cX10_chance 128 = .ok (.iconst 0, 1) := by decide +kernel
theorem dX10_chance_129 : decode cX10_chance 129 = .ok (.goto 10, 3) := by decide +kernel
theorem dX10_chance_132 : decode cX10_chance 132 = .ok (.aload_n 0, 1) := by decide +kernel
theorem dX10_chance_133 : decode cX10_chance 133 = .ok (.iload 9, 2) := by decide +kernel
theorem dX10_chance_135 : decode cX10_chance 135 = .ok (.iconst 1, 1) := by decide +kernel
theorem dX10_chance_136 : decode cX10_chance 136 = .ok (.invokevirtual 50, 3) := by decide +kernel
theorem dX10_chance_139 : decode cX10_chance 139 = .ok (.iadd, 1) := by decide +kernel
theorem dX10_chance_140 : decode cX10_chance 140 = .ok (.istore 7, 2) := by decide +kernel
theorem dX10_chance_142 : decode cX10_chance 142 = .ok (.iload 8, 2) := by decide +kernel
theorem dX10_chance_144 : decode cX10_chance 144 = .ok (.iload 10, 2) := by decide +kernel
theorem dX10_chance_146 : decode cX10_chance 146 = .ok (.ifCond .eq 7, 3) := by decide +kernel
theorem dX10_chance_149 : decode cX10_chance 149 = .ok (.iconst 0, 1) := by decide +kernel
theorem dX10_chance_150 : decode cX10_chance 150 = .ok (.goto 4, 3) := by decide +kernel
theorem dX10_chance_153 : decode cX10_chance 153 = .ok (.iconst 1, 1) := by decide +kernel
theorem dX10_chance_154 : decode cX10_chance 154 = .ok (.iadd, 1) := by decide +kernel
theorem dX10_chance_155 : decode cX10_chance 155 = .ok (.istore 8, 2) := by decide +kernel
theorem dX10_chance_157 : decode cX10_chance 157 = .ok (.iinc 9 1, 3) := by decide +kernel
theorem dX10_chance_160 : decode cX10_chance 160 = .ok (.goto (-105), 3) := by decide +kernel
theorem dX10_chance_163 : decode cX10_chance 163 = .ok (.iload 5, 2) := by decide +kernel
theorem dX10_chance_165 : decode cX10_chance 165 = .ok (.ifCond .ne 31, 3) := by decide +kernel
theorem dX10_chance_168 : decode cX10_chance 168 = .ok (.iload 8, 2) := by decide +kernel
theorem dX10_chance_170 : decode cX10_chance 170 = .ok (.bipush 9, 2) := by decide +kernel
theorem dX10_chance_172 : decode cX10_chance 172 = .ok (.if_icmp .le 8, 3) := by decide +kernel
theorem dX10_chance_175 : decode cX10_chance 175 = .ok (.bipush (-6), 2) := by decide +kernel
theorem dX10_chance_177 : decode cX10_chance 177 = .ok (.goto 17, 3) := by decide +kernel
theorem dX10_chance_180 : decode cX10_chance 180 = .ok (.iload 6, 2) := by decide +kernel
theorem dX10_chance_182 : decode cX10_chance 182 = .ok (.iload 7, 2) := by decide +kernel
theorem dX10_chance_184 : decode cX10_chance 184 = .ok (.iadd, 1) := by decide +kernel
theorem dX10_chance_185 : decode cX10_chance 185 = .ok (.ifCond .ne 8, 3) := by decide +kernel
theorem dX10_chance_188 : decode cX10_chance 188 = .ok (.bipush (-3), 2) := by decide +kernel
theorem dX10_chance_190 : decode cX10_chance 190 = .ok (.goto 4, 3) := by decide +kernel
theorem dX10_chance_193 : decode cX10_chance 193 = .ok (.iconst 0, 1) := by decide +kernel
theorem dX10_chance_194 : decode cX10_chance 194 = .ok (.istore 5, 2) := by decide +kernel
theorem dX10_chance_196 : decode cX10_chance 196 = .ok (.iload 5, 2) := by decide +kernel
theorem dX10_chance_198 : decode cX10_chance 198 = .ok (.ifCond .eq 15, 3) := by decide +kernel
theorem dX10_chance_201 : decode cX10_chance 201 = .ok (.ldc2_w 231, 3) := by decide +kernel
theorem dX10_chance_204 : decode cX10_chance 204 = .ok (.aload_n 0, 1) := by decide +kernel
theorem dX10_chance_205 : decode cX10_chance 205 = .ok (.iload 5, 2) := by decide +kernel
theorem dX10_chance_207 : decode cX10_chance 207 = .ok (.invokevirtual 62, 3) := by decide +kernel
theorem dX10_chance_210 : decode cX10_chance 210 = .ok (.i2l, 1) := by decide +kernel
theorem dX10_chance_211 : decode cX10_chance 211 = .ok (.lsub, 1) := by decide +kernel
theorem dX10_chance_212 : decode cX10_chance 212 = .ok (.lreturn, 1) := by decide +kernel
theorem dX10_chance_213 : decode cX10_chance 213 = .ok (.iload_n 3, 1) := by decide +kernel
theorem dX10_chance_214 : decode cX10_chance 214 = .ok (.ifCond .ne 23, 3) := by decide +kernel
theorem dX10_chance_217 : decode cX10_chance 217 = .ok (.ldc2_w 233, 3) := by decide +kernel
theorem dX10_chance_220 : decode cX10_chance 220 = .ok (.iload 6, 2) := by decide +kernel
theorem dX10_chance_222 : decode cX10_chance 222 = .ok (.i2l, 1) := by decide +kernel
theorem dX10_chance_223 : decode cX10_chance 223 = .ok (.lmul, 1) := by decide +kernel
theorem dX10_chance_224 : decode cX10_chance 224 = .ok (.iload 7, 2) := by decide +kernel
theorem dX10_chance_226 : decode cX10_chance 226 = .ok (.i2l, 1) := by decide +kernel
theorem dX10_chance_227 : decode cX10_chance 227 = .ok (.bipush 100, 2) := by decide +kernel
theorem dX10_chance_229 : decode cX10_chance 229 = .ok (.iload_n 2, 1) := by decide +kernel
theorem dX10_chance_230 : decode cX10_chance 230 = .ok (.isub, 1) := by decide +kernel
theorem dX10_chance_231 : decode cX10_chance 231 = .ok (.i2l, 1) := by decide +kernel
theorem dX10_chance_232 : decode cX10_chance 232 = .ok (.lmul, 1) := by decide +kernel
theorem dX10_chance_233 : decode cX10_chance 233 = .ok (.ladd, 1) := by decide +kernel
theorem dX10_chance_234 : decode cX10_chance 234 = .ok (.goto 4, 3) := by decide +kernel
theorem dX10_chance_237 : decode cX10_chance 237 = .ok (.lconst 1, 1) := by decide +kernel
theorem dX10_chance_238 : decode cX10_chance 238 = .ok (.lstore 9, 2) := by decide +kernel
theorem dX10_chance_240 : decode cX10_chance 240 = .ok (.iload_n 3, 1) := by decide +kernel
theorem dX10_chance_241 : decode cX10_chance 241 = .ok (.ifCond .ne 9, 3) := by decide +kernel
theorem dX10_chance_244 : decode cX10_chance 244 = .ok (.ldc2_w 233, 3) := by decide +kernel
theorem dX10_chance_247 : decode cX10_chance 247 = .ok (.goto 4, 3) := by decide +kernel
theorem dX10_chance_250 : decode cX10_chance 250 = .ok (.lconst 1, 1) := by decide +kernel
theorem dX10_chance_251 : decode cX10_chance 251 = .ok (.lstore 11, 2) := by decide +kernel
theorem dX10_chance_253 : decode cX10_chance 253 = .ok (.iconst 0, 1) := by decide +kernel
theorem dX10_chance_254 : decode cX10_chance 254 = .ok (.istore 13, 2) := by decide +kernel
theorem dX10_chance_256 : decode cX10_chance 256 = .ok (.iload 13, 2) := by decide +kernel
theorem dX10_chance_258 : decode cX10_chance 258 = .ok (.iload 8, 2) := by decide +kernel
theorem dX10_chance_260 : decode cX10_chance 260 = .ok (.if_icmp .ge 55, 3) := by decide +kernel
theorem dX10_chance_263 : decode cX10_chance 263 = .ok (.iload_n 3, 1) := by decide +kernel
theorem dX10_chance_264 : decode cX10_chance 264 = .ok (.iconst 1, 1) := by decide +kernel
theorem dX10_chance_265 : decode cX10_chance 265 = .ok (.if_icmp .ne 50, 3) := by decide +kernel
theorem dX10_chance_268 : decode cX10_chance 268 = .ok (.lload 9, 2) := by decide +kernel
theorem dX10_chance_270 : decode cX10_chance 270 = .ok (.bipush 100, 2) := by decide +kernel
theorem dX10_chance_272 : decode cX10_chance 272 = .ok (.iload_n 2, 1) := by decide +kernel
theorem dX10_chance_273 : decode cX10_chance 273 = .ok (.isub, 1) := by decide +kernel
theorem dX10_chance_274 : decode cX10_chance 274 = .ok (.i2l, 1) := by decide +kernel
theorem dX10_chance_275 : decode cX10_chance 275 = .ok (.lmul, 1) := by decide +kernel
theorem dX10_chance_276 : decode cX10_chance 276 = .ok (.lstore 9, 2) := by decide +kernel
theorem dX10_chance_278 : decode cX10_chance 278 = .ok (.lload 11, 2) := by decide +kernel
theorem dX10_chance_280 : decode cX10_chance 280 = .ok (.ldc2_w 233, 3) := by decide +kernel
theorem dX10_chance_283 : decode cX10_chance 283 = .ok (.lmul, 1) := by decide +kernel
theorem dX10_chance_284 : decode cX10_chance 284 = .ok (.lstore 11, 2) := by decide +kernel
theorem dX10_chance_286 : decode cX10_chance 286 = .ok (.lload 11, 2) := by decide +kernel
theorem dX10_chance_288 : decode cX10_chance 288 = .ok (.lload 9, 2) := by decide +kernel
theorem dX10_chance_290 : decode cX10_chance 290 = .ok (.invokestatic 227, 3) := by decide +kernel
theorem dX10_chance_293 : decode cX10_chance 293 = .ok (.lstore 14, 2) := by decide +kernel
theorem dX10_chance_295 : decode cX10_chance 295 = .ok (.lload 9, 2) := by decide +kernel
theorem dX10_chance_297 : decode cX10_chance 297 = .ok (.lload 14, 2) := by decide +kernel
theorem dX10_chance_299 : decode cX10_chance 299 = .ok (.ldiv, 1) := by decide +kernel
theorem dX10_chance_300 : decode cX10_chance 300 = .ok (.lstore 9, 2) := by decide +kernel
theorem dX10_chance_302 : decode cX10_chance 302 = .ok (.lload 11, 2) := by decide +kernel
theorem dX10_chance_304 : decode cX10_chance 304 = .ok (.lload 14, 2) := by decide +kernel
theorem dX10_chance_306 : decode cX10_chance 306 = .ok (.ldiv, 1) := by decide +kernel
theorem dX10_chance_307 : decode cX10_chance 307 = .ok (.lstore 11, 2) := by decide +kernel
theorem dX10_chance_309 : decode cX10_chance 309 = .ok (.iinc 13 1, 3) := by decide +kernel
theorem dX10_chance_312 : decode cX10_chance 312 = .ok (.goto (-56), 3) := by decide +kernel
theorem dX10_chance_315 : decode cX10_chance 315 = .ok (.lload 11, 2) := by decide +kernel
theorem dX10_chance_317 : decode cX10_chance 317 = .ok (.lload 9, 2) := by decide +kernel
theorem dX10_chance_319 : decode cX10_chance 319 = .ok (.invokestatic 227, 3) := by decide +kernel
theorem dX10_chance_322 : decode cX10_chance 322 = .ok (.lstore 13, 2) := by decide +kernel
theorem dX10_chance_324 : decode cX10_chance 324 = .ok (.iload 4, 2) := by decide +kernel
theorem dX10_chance_326 : decode cX10_chance 326 = .ok (.ifCond .ne 11, 3) := by decide +kernel
theorem dX10_chance_329 : decode cX10_chance 329 = .ok (.lload 9, 2) := by decide +kernel
theorem dX10_chance_331 : decode cX10_chance 331 = .ok (.lload 13, 2) := by decide +kernel
theorem dX10_chance_333 : decode cX10_chance 333 = .ok (.ldiv, 1) := by decide +kernel
theorem dX10_chance_334 : decode cX10_chance 334 = .ok (.goto 8, 3) := by decide +kernel
theorem dX10_chance_337 : decode cX10_chance 337 = .ok (.lload 11, 2) := by decide +kernel
theorem dX10_chance_339 : decode cX10_chance 339 = .ok (.lload 13, 2) := by decide +kernel
theorem dX10_chance_341 : decode cX10_chance 341 = .ok (.ldiv, 1) := by decide +kernel
theorem dX10_chance_342 : decode cX10_chance 342 = .ok (.lreturn, 1) := by decide +kernel
theorem dX10_together_0 : decode cX10_together 0 = .ok (.aload_n 0, 1) := by decide +kernel
theorem dX10_together_1 : decode cX10_together 1 = .ok (.iload_n 1, 1) := by decide +kernel
theorem dX10_together_2 : decode cX10_together 2 = .ok (.invokevirtual 103, 3) := by decide +kernel
theorem dX10_together_5 : decode cX10_together 5 = .ok (.ifCond .ne 7, 3) := by decide +kernel
theorem dX10_together_8 : decode cX10_together 8 = .ok (.iconst (-1), 1) := by decide +kernel
theorem dX10_together_9 : decode cX10_together 9 = .ok (.goto 30, 3) := by decide +kernel
theorem dX10_together_12 : decode cX10_together 12 = .ok (.iload_n 2, 1) := by decide +kernel
theorem dX10_together_13 : decode cX10_together 13 = .ok (.iconst 2, 1) := by decide +kernel
theorem dX10_together_14 : decode cX10_together 14 = .ok (.invokestatic 46, 3) := by decide +kernel
theorem dX10_together_17 : decode cX10_together 17 = .ok (.ifCond .ne 8, 3) := by decide +kernel
theorem dX10_together_20 : decode cX10_together 20 = .ok (.bipush (-2), 2) := by decide +kernel
theorem dX10_together_22 : decode cX10_together 22 = .ok (.goto 17, 3) := by decide +kernel
theorem dX10_together_25 : decode cX10_together 25 = .ok (.aload_n 0, 1) := by decide +kernel
theorem dX10_together_26 : decode cX10_together 26 = .ok (.iload_n 1, 1) := by decide +kernel
theorem dX10_together_27 : decode cX10_together 27 = .ok (.invokevirtual 112, 3) := by decide +kernel
theorem dX10_together_30 : decode cX10_together 30 = .ok (.ifCond .ne 8, 3) := by decide +kernel
theorem dX10_together_33 : decode cX10_together 33 = .ok (.bipush (-3), 2) := by decide +kernel
theorem dX10_together_35 : decode cX10_together 35 = .ok (.goto 4, 3) := by decide +kernel
theorem dX10_together_38 : decode cX10_together 38 = .ok (.iconst 0, 1) := by decide +kernel
theorem dX10_together_39 : decode cX10_together 39 = .ok (.istore_n 3, 1) := by decide +kernel
theorem dX10_together_40 : decode cX10_together 40 = .ok (.iload_n 3, 1) := by decide +kernel
theorem dX10_together_41 : decode cX10_together 41 = .ok (.ifCond .eq 9, 3) := by decide +kernel
theorem dX10_together_44 : decode cX10_together 44 = .ok (.aload_n 0, 1) := by decide +kernel
theorem dX10_together_45 : decode cX10_together 45 = .ok (.iload_n 3, 1) := by decide +kernel
theorem dX10_together_46 : decode cX10_together 46 = .ok (.invokevirtual 62, 3) := by decide +kernel
theorem dX10_together_49 : decode cX10_together 49 = .ok (.ireturn, 1) := by decide +kernel
theorem dX10_together_50 : decode cX10_together 50 = .ok (.aload_n 0, 1) := by decide +kernel
theorem dX10_together_51 : decode cX10_together 51 = .ok (.invokevirtual 122, 3) := by decide +kernel
theorem dX10_together_54 : decode cX10_together 54 = .ok (.bipush (-9), 2) := by decide +kernel
theorem dX10_together_56 : decode cX10_together 56 = .ok (.istore 4, 2) := by decide +kernel
theorem dX10_together_58 : decode cX10_together 58 = .ok (.iconst 0, 1) := by decide +kernel
theorem dX10_together_59 : decode cX10_together 59 = .ok (.istore 5, 2) := by decide +kernel
theorem dX10_together_61 : decode cX10_together 61 = .ok (.iconst 0, 1) := by decide +kernel
theorem dX10_together_62 : decode cX10_together 62 = .ok (.istore 6, 2) := by decide +kernel
theorem dX10_together_64 : decode cX10_together 64 = .ok (.iload 6, 2) := by decide +kernel
theorem dX10_together_66 : decode cX10_together 66 = .ok (.aload_n 0, 1) := by decide +kernel
theorem dX10_together_67 : decode cX10_together 67 = .ok (.getfield 13, 3) := by decide +kernel
theorem dX10_together_70 : decode cX10_together 70 = .ok (.iconst 0, 1) := by decide +kernel
theorem dX10_together_71 : decode cX10_together 71 = .ok (.iaload, 1) := by decide +kernel
theorem dX10_together_72 : decode cX10_together 72 = .ok (.if_icmp .ge 123, 3) := by decide +kernel
theorem dX10_together_75 : decode cX10_together 75 = .ok (.iconst 0, 1) := by decide +kernel
theorem dX10_together_76 : decode cX10_together 76 = .ok (.istore 7, 2) := by decide +kernel
theorem dX10_together_78 : decode cX10_together 78 = .ok (.iconst 0, 1) := by decide +kernel
theorem dX10_together_79 : decode cX10_together 79 = .ok (.istore 8, 2) := by decide +kernel
theorem dX10_together_81 : decode cX10_together 81 = .ok (.iload 8, 2) := by decide +kernel
theorem dX10_together_83 : decode cX10_together 83 = .ok (.bipush 24, 2) := by decide +kernel
theorem dX10_together_85 : decode cX10_together 85 = .ok (.if_icmp .ge 74, 3) := by decide +kernel
theorem dX10_together_88 : decode cX10_together 88 = .ok (.aload_n 0, 1) := by decide +kernel
theorem dX10_together_89 : decode cX10_together 89 = .ok (.iload 8, 2) := by decide +kernel
theorem dX10_together_91 : decode cX10_together 91 = .ok (.iconst 0, 1) := by decide +kernel
theorem dX10_together_92 : decode cX10_together 92 = .ok (.invokevirtual 50, 3) := by decide +kernel
theorem dX10_together_95 : decode cX10_together 95 = .ok (.iload_n 1, 1) := by decide +kernel
theorem dX10_together_96 : decode cX10_together 96 = .ok (.iconst 1, 1) := by decide +kernel
theorem dX10_together_97 : decode cX10_together 97 = .ok (.iadd, 1) := by decide +kernel
theorem dX10_together_98 : decode cX10_together 98 = .ok (.if_icmp .eq 6, 3) := by decide +kernel
theorem dX10_together_101 : decode cX10_together 101 = .ok (.goto 52, 3) := by decide +kernel
theorem dX10_together_104 : decode cX10_together 104 = .ok (.aload_n 0, 1) := by decide +kernel
theorem dX10_together_105 : decode cX10_together 105 = .ok (.getfield 28, 3) := by decide +kernel
theorem dX10_together_108 : decode cX10_together 108 = .ok (.bipush 6, 2) := by decide +kernel
theorem dX10_together_110 : decode cX10_together 110 = .ok (.aload_n 0, 1) := by decide +kernel
theorem dX10_together_111 : decode cX10_together 111 = .ok (.iload 8, 2) := by decide +kernel
theorem dX10_together_113 : decode cX10_together 113 = .ok (.iconst 2, 1) := by decide +kernel
theorem dX10_together_114 : decode cX10_together 114 = .ok (.invokevirtual 50, 3) := by decide +kernel
theorem dX10_together_117 : decode cX10_together 117 = .ok (.imul, 1) := by decide +kernel
theorem dX10_together_118 : decode cX10_together 118 = .ok (.iload 6, 2) := by decide +kernel
theorem dX10_together_120 : decode cX10_together 120 = .ok (.iadd, 1) := by decide +kernel
theorem dX10_together_121 : decode cX10_together 121 = .ok (.iaload, 1) := by decide +kernel
theorem dX10_together_122 : decode cX10_together 122 = .ok (.istore 9, 2) := by decide +kernel
theorem dX10_together_124 : decode cX10_together 124 = .ok (.iload 7, 2) := by decide +kernel
theorem dX10_together_126 : decode cX10_together 126 = .ok (.iload 9, 2) := by decide +kernel
theorem dX10_together_128 : decode cX10_together 128 = .ok (.ldc 121, 2) := by decide +kernel
theorem dX10_together_130 : decode cX10_together 130 = .ok (.if_icmp .lt 8, 3) := by decide +kernel
theorem dX10_together_133 : decode cX10_together 133 = .ok (.ldc 121, 2) := by decide +kernel
theorem dX10_together_135 : decode cX10_together 135 = .ok (.goto 13, 3) := by decide +kernel
theorem dX10_together_138 : decode cX10_together 138 = .ok (.aload_n 0, 1) := by decide +kernel
theorem dX10_together_139 : decode cX10_together 139 = .ok (.iload 8, 2) := by decide +kernel
theorem dX10_together_141 : decode cX10_together 141 = .ok (.iconst 4, 1) := by decide +kernel
theorem dX10_together_142 : decode cX10_together 142 = .ok (.invokevirtual 50, 3) := by decide +kernel
theorem dX10_together_145 : decode cX10_together 145 = .ok (.iload 9, 2) := by decide +kernel
theorem dX10_together_147 : decode cX10_together 147 = .ok (.iadd, 1) := by decide +kernel
theorem dX10_together_148 : decode cX10_together 148 = .ok (.invokestatic 141, 3) := by decide +kernel
theorem dX10_together_151 : decode cX10_together 151 = .ok (.istore 7, 2) := by decide +kernel
theorem dX10_together_153 : decode cX10_together 153 = .ok (.iinc 8 1, 3) := by decide +kernel
theorem dX10_together_156 : decode cX10_together 156 = .ok (.goto (-75), 3) := by decide +kernel
theorem dX10_together_159 : decode cX10_together 159 = .ok (.iload 7, 2) := by decide +kernel
theorem dX10_together_161 : decode cX10_together 161 = .ok (.ldc 121, 2) := by decide +kernel
theorem dX10_together_163 : decode cX10_together 163 = .ok (.if_icmp .ge 26, 3) := by decide +kernel
theorem dX10_together_166 : decode cX10_together 166 = .ok (.iload 4, 2) := by decide +kernel
theorem dX10_together_168 : decode cX10_together 168 = .ok (.ifCond .lt 13, 3) := by decide +kernel
theorem dX10_together_171 : decode cX10_together 171 = .ok (.iload 7, 2) := by decide +kernel
theorem dX10_together_173 : decode cX10_together 173 = .ok (.iload 5, 2) := by decide +kernel
theorem dX10_together_175 : decode cX10_together 175 = .ok (.if_icmp .lt 6, 3) := by decide +kernel
theorem dX10_together_178 : decode cX10_together 178 = .ok (.goto 11, 3) := by decide +kernel
theorem dX10_together_181 : decode cX10_together 181 = .ok (.iload 6, 2) := by decide +kernel
theorem dX10_together_183 : decode cX10_together 183 = .ok (.istore 4, 2) := by decide +kernel
theorem dX10_together_185 : decode cX10_together 185 = .ok (.iload 7, 2) := by decide +kernel
theorem dX10_together_187 : decode cX10_together 187 = .ok (.istore 5, 2) := by decide +kernel
theorem dX10_together_189 : decode cX10_together 189 = .ok (.iinc 6 1, 3) := by decide +kernel
theorem dX10_together_192 : decode cX10_together 192 = .ok (.goto (-128), 3) := by decide +kernel
theorem dX10_together_195 : decode cX10_together 195 = .ok (.iload 4, 2) := by decide +kernel
theorem dX10_together_197 : decode cX10_together 197 = .ok (.ifCond .lt 8, 3) := by decide +kernel
theorem dX10_together_200 : decode cX10_together 200 = .ok (.iload_n 2, 1) := by decide +kernel
theorem dX10_together_201 : decode cX10_together 201 = .ok (.iconst 1, 1) := by decide +kernel
theorem dX10_together_202 : decode cX10_together 202 = .ok (.if_icmp .ne 8, 3) := by decide +kernel
theorem dX10_together_205 : decode cX10_together 205 = .ok (.iload 4, 2) := by decide +kernel
theorem dX10_together_207 : decode cX10_together 207 = .ok (.goto 5, 3) := by decide +kernel
theorem dX10_together_210 : decode cX10_together 210 = .ok (.iload 5, 2) := by decide +kernel
theorem dX10_together_212 : decode cX10_together 212 = .ok (.ireturn, 1) := by decide +kernel
theorem dX10_known_0 : decode cX10_known 0 = .ok (.aload_n 0, 1) := by decide +kernel
theorem dX10_known_1 : decode cX10_known 1 = .ok (.iload_n 1, 1) := by decide +kernel
theorem dX10_known_2 : decode cX10_known 2 = .ok (.invokevirtual 103, 3) := by decide +kernel
theorem dX10_known_5 : decode cX10_known 5 = .ok (.ifCond .ne 7, 3) := by decide +kernel
theorem dX10_known_8 : decode cX10_known 8 = .ok (.iconst (-1), 1) := by decide +kernel
theorem dX10_known_9 : decode cX10_known 9 = .ok (.goto 30, 3) := by decide +kernel
theorem dX10_known_12 : decode cX10_known 12 = .ok (.iload_n 2, 1) := by decide +kernel
theorem dX10_known_13 : decode cX10_known 13 = .ok (.iconst 2, 1) := by decide +kernel
theorem dX10_known_14 : decode cX10_known 14 = .ok (.invokestatic 46, 3) := by decide +kernel
theorem dX10_known_17 : decode cX10_known 17 = .ok (.ifCond .ne 8, 3) := by decide +kernel
theorem dX10_known_20 : decode cX10_known 20 = .ok (.bipush (-2), 2) := by decide +kernel
theorem dX10_known_22 : decode cX10_known 22 = .ok (.goto 17, 3) := by decide +kernel
theorem dX10_known_25 : decode cX10_known 25 = .ok (.aload_n 0, 1) := by decide +kernel
theorem dX10_known_26 : decode cX10_known 26 = .ok (.iload_n 1, 1) := by decide +kernel
theorem dX10_known_27 : decode cX10_known 27 = .ok (.invokevirtual 112, 3) := by decide +kernel
theorem dX10_known_30 : decode cX10_known 30 = .ok (.ifCond .ne 8, 3) := by decide +kernel
theorem dX10_known_33 : decode cX10_known 33 = .ok (.bipush (-3), 2) := by decide +kernel
theorem dX10_known_35 : decode cX10_known 35 = .ok (.goto 4, 3) := by decide +kernel
theorem dX10_known_38 : decode cX10_known 38 = .ok (.iconst 0, 1) := by decide +kernel
theorem dX10_known_39 : decode cX10_known 39 = .ok (.istore_n 3, 1) := by decide +kernel
theorem dX10_known_40 : decode cX10_known 40 = .ok (.iload_n 3, 1) := by decide +kernel
theorem dX10_known_41 : decode cX10_known 41 = .ok (.ifCond .eq 9, 3) := by decide +kernel
theorem dX10_known_44 : decode cX10_known 44 = .ok (.aload_n 0, 1) := by decide +kernel
theorem dX10_known_45 : decode cX10_known 45 = .ok (.iload_n 3, 1) := by decide +kernel
theorem dX10_known_46 : decode cX10_known 46 = .ok (.invokevirtual 62, 3) := by decide +kernel
theorem dX10_known_49 : decode cX10_known 49 = .ok (.ireturn, 1) := by decide +kernel
theorem dX10_known_50 : decode cX10_known 50 = .ok (.iconst 0, 1) := by decide +kernel
theorem dX10_known_51 : decode cX10_known 51 = .ok (.istore 4, 2) := by decide +kernel
theorem dX10_known_53 : decode cX10_known 53 = .ok (.bipush 63, 2) := by decide +kernel
theorem dX10_known_55 : decode cX10_known 55 = .ok (.istore 5, 2) := by decide +kernel
theorem dX10_known_57 : decode cX10_known 57 = .ok (.iconst 0, 1) := by decide +kernel
theorem dX10_known_58 : decode cX10_known 58 = .ok (.istore 6, 2) := by decide +kernel
theorem dX10_known_60 : decode cX10_known 60 = .ok (.iload 6, 2) := by decide +kernel
theorem dX10_known_62 : decode cX10_known 62 = .ok (.bipush 24, 2) := by decide +kernel
theorem dX10_known_64 : decode cX10_known 64 = .ok (.if_icmp .ge 51, 3) := by decide +kernel
theorem dX10_known_67 : decode cX10_known 67 = .ok (.aload_n 0, 1) := by decide +kernel
theorem dX10_known_68 : decode cX10_known 68 = .ok (.iload 6, 2) := by decide +kernel
theorem dX10_known_70 : decode cX10_known 70 = .ok (.iconst 0, 1) := by decide +kernel
theorem dX10_known_71 : decode cX10_known 71 = .ok (.invokevirtual 50, 3) := by decide +kernel
theorem dX10_known_74 : decode cX10_known 74 = .ok (.iload_n 1, 1) := by decide +kernel
theorem dX10_known_75 : decode cX10_known 75 = .ok (.iconst 1, 1) := by decide +kernel
theorem dX10_known_76 : decode cX10_known 76 = .ok (.iadd, 1) := by decide +kernel
theorem dX10_known_77 : decode cX10_known 77 = .ok (.if_icmp .eq 6, 3) := by decide +kernel
theorem dX10_known_80 : decode cX10_known 80 = .ok (.goto 29, 3) := by decide +kernel
theorem dX10_known_83 : decode cX10_known 83 = .ok (.iload 4, 2) := by decide +kernel
theorem dX10_known_85 : decode cX10_known 85 = .ok (.aload_n 0, 1) := by decide +kernel
theorem dX10_known_86 : decode cX10_known 86 = .ok (.iload 6, 2) := by decide +kernel
theorem dX10_known_88 : decode cX10_known 88 = .ok (.bipush 6, 2) := by decide +kernel
theorem dX10_known_90 : decode cX10_known 90 = .ok (.invokevirtual 50, 3) := by decide +kernel
theorem dX10_known_93 : decode cX10_known 93 = .ok (.ior, 1) := by decide +kernel
theorem dX10_known_94 : decode cX10_known 94 = .ok (.istore 4, 2) := by decide +kernel
theorem dX10_known_96 : decode cX10_known 96 = .ok (.iload 5, 2) := by decide +kernel
theorem dX10_known_98 : decode cX10_known 98 = .ok (.aload_n 0, 1) := by decide +kernel
theorem dX10_known_99 : decode cX10_known 99 = .ok (.iload 6, 2) := by decide +kernel
theorem dX10_known_101 : decode cX10_known 101 = .ok (.bipush 6, 2) := by decide +kernel
theorem dX10_known_103 : decode cX10_known 103 = .ok (.invokevirtual 50, 3) := by decide +kernel
theorem dX10_known_106 : decode cX10_known 106 = .ok (.iand, 1) := by decide +kernel
theorem dX10_known_107 : decode cX10_known 107 = .ok (.istore 5, 2) := by decide +kernel
theorem dX10_known_109 : decode cX10_known 109 = .ok (.iinc 6 1, 3) := by decide +kernel
theorem dX10_known_112 : decode cX10_known 112 = .ok (.goto (-52), 3) := by decide +kernel
theorem dX10_known_115 : decode cX10_known 115 = .ok (.iload_n 2, 1) := by decide +kernel
theorem dX10_known_116 : decode cX10_known 116 = .ok (.ifCond .ne 8, 3) := by decide +kernel
theorem dX10_known_119 : decode cX10_known 119 = .ok (.iload 4, 2) := by decide +kernel
theorem dX10_known_121 : decode cX10_known 121 = .ok (.goto 5, 3) := by decide +kernel
theorem dX10_known_124 : decode cX10_known 124 = .ok (.iload 5, 2) := by decide +kernel
theorem dX10_known_126 : decode cX10_known 126 = .ok (.ireturn, 1) := by decide +kernel
theorem dX10_row_0 : decode cX10_row 0 = .ok (.iload_n 1, 1) := by decide +kernel
theorem dX10_row_1 : decode cX10_row 1 = .ok (.iconst 0, 1) := by decide +kernel
theorem dX10_row_2 : decode cX10_row 2 = .ok (.bipush 99, 2) := by decide +kernel
theorem dX10_row_4 : decode cX10_row 4 = .ok (.invokestatic 54, 3) := by decide +kernel
theorem dX10_row_7 : decode cX10_row 7 = .ok (.istore_n 2, 1) := by decide +kernel
theorem dX10_row_8 : decode cX10_row 8 = .ok (.iload_n 2, 1) := by decide +kernel
theorem dX10_row_9 : decode cX10_row 9 = .ok (.ifCond .ne 15, 3) := by decide +kernel
theorem dX10_row_12 : decode cX10_row 12 = .ok (.aload_n 0, 1) := by decide +kernel
theorem dX10_row_13 : decode cX10_row 13 = .ok (.getfield 235, 3) := by decide +kernel
theorem dX10_row_16 : decode cX10_row 16 = .ok (.bipush 12, 2) := by decide +kernel
theorem dX10_row_18 : decode cX10_row 18 = .ok (.if_icmp .ne 6, 3) := by decide +kernel
theorem dX10_row_21 : decode cX10_row 21 = .ok (.bipush (-6), 2) := by decide +kernel
theorem dX10_row_23 : decode cX10_row 23 = .ok (.istore_n 2, 1) := by decide +kernel
theorem dX10_row_24 : decode cX10_row 24 = .ok (.iload_n 2, 1) := by decide +kernel
theorem dX10_row_25 : decode cX10_row 25 = .ok (.ifCond .eq 9, 3) := by decide +kernel
theorem dX10_row_28 : decode cX10_row 28 = .ok (.aload_n 0, 1) := by decide +kernel
theorem dX10_row_29 : decode cX10_row 29 = .ok (.iload_n 2, 1) := by decide +kernel
theorem dX10_row_30 : decode cX10_row 30 = .ok (.invokevirtual 62, 3) := by decide +kernel
theorem dX10_row_33 : decode cX10_row 33 = .ok (.ireturn, 1) := by decide +kernel
theorem dX10_row_34 : decode cX10_row 34 = .ok (.aload_n 0, 1) := by decide +kernel
theorem dX10_row_35 : decode cX10_row 35 = .ok (.getfield 43, 3) := by decide +kernel
theorem dX10_row_38 : decode cX10_row 38 = .ok (.aload_n 0, 1) := by decide +kernel
theorem dX10_row_39 : decode cX10_row 39 = .ok (.getfield 235, 3) := by decide +kernel
theorem dX10_row_42 : decode cX10_row 42 = .ok (.iload_n 1, 1) := by decide +kernel
theorem dX10_row_43 : decode cX10_row 43 = .ok (.iastore, 1) := by decide +kernel
theorem dX10_row_44 : decode cX10_row 44 = .ok (.aload_n 0, 1) := by decide +kernel
theorem dX10_row_45 : decode cX10_row 45 = .ok (.dup, 1) := by decide +kernel
theorem dX10_row_46 : decode cX10_row 46 = .ok (.getfield 235, 3) := by decide +kernel
theorem dX10_row_49 : decode cX10_row 49 = .ok (.iconst 1, 1) := by decide +kernel
theorem dX10_row_50 : decode cX10_row 50 = .ok (.iadd, 1) := by decide +kernel
theorem dX10_row_51 : decode cX10_row 51 = .ok (.putfield 235, 3) := by decide +kernel
theorem dX10_row_54 : decode cX10_row 54 = .ok (.aload_n 0, 1) := by decide +kernel
theorem dX10_row_55 : decode cX10_row 55 = .ok (.getfield 235, 3) := by decide +kernel
theorem dX10_row_58 : decode cX10_row 58 = .ok (.ireturn, 1) := by decide +kernel
theorem dX10_judge_0 : decode cX10_judge 0 = .ok (.aload_n 0, 1) := by decide +kernel
theorem dX10_judge_1 : decode cX10_judge 1 = .ok (.iload_n 1, 1) := by decide +kernel
theorem dX10_judge_2 : decode cX10_judge 2 = .ok (.invokevirtual 103, 3) := by decide +kernel
theorem dX10_judge_5 : decode cX10_judge 5 = .ok (.ifCond .ne 9, 3) := by decide +kernel
theorem dX10_judge_8 : decode cX10_judge 8 = .ok (.aload_n 0, 1) := by decide +kernel
theorem dX10_judge_9 : decode cX10_judge 9 = .ok (.iconst (-1), 1) := by decide +kernel
theorem dX10_judge_10 : decode cX10_judge 10 = .ok (.invokevirtual 62, 3) := by decide +kernel
theorem dX10_judge_13 : decode cX10_judge 13 = .ok (.ireturn, 1) := by decide +kernel
theorem dX10_judge_14 : decode cX10_judge 14 = .ok (.aload_n 0, 1) := by decide +kernel
theorem dX10_judge_15 : decode cX10_judge 15 = .ok (.getfield 235, 3) := by decide +kernel
theorem dX10_judge_18 : decode cX10_judge 18 = .ok (.istore_n 2, 1) := by decide +kernel
theorem dX10_judge_19 : decode cX10_judge 19 = .ok (.aload_n 0, 1) := by decide +kernel
theorem dX10_judge_20 : decode cX10_judge 20 = .ok (.iconst 0, 1) := by decide +kernel
theorem dX10_judge_21 : decode cX10_judge 21 = .ok (.putfield 235, 3) := by decide +kernel
theorem dX10_judge_24 : decode cX10_judge 24 = .ok (.iconst 0, 1) := by decide +kernel
theorem dX10_judge_25 : decode cX10_judge 25 = .ok (.istore_n 3, 1) := by decide +kernel
theorem dX10_judge_26 : decode cX10_judge 26 = .ok (.iconst 0, 1) := by decide +kernel
theorem dX10_judge_27 : decode cX10_judge 27 = .ok (.istore 4, 2) := by decide +kernel
theorem dX10_judge_29 : decode cX10_judge 29 = .ok (.iload 4, 2) := by decide +kernel
theorem dX10_judge_31 : decode cX10_judge 31 = .ok (.iload_n 2, 1) := by decide +kernel
theorem dX10_judge_32 : decode cX10_judge 32 = .ok (.if_icmp .ge 44, 3) := by decide +kernel
theorem dX10_judge_35 : decode cX10_judge 35 = .ok (.iload_n 3, 1) := by decide +kernel
theorem dX10_judge_36 : decode cX10_judge 36 = .ok (.aload_n 0, 1) := by decide +kernel
theorem dX10_judge_37 : decode cX10_judge 37 = .ok (.getfield 43, 3) := by decide +kernel
theorem dX10_judge_40 : decode cX10_judge 40 = .ok (.iload 4, 2) := by decide +kernel
theorem dX10_judge_42 : decode cX10_judge 42 = .ok (.iaload, 1) := by decide +kernel
theorem dX10_judge_43 : decode cX10_judge 43 = .ok (.iadd, 1) := by decide +kernel
theorem dX10_judge_44 : decode cX10_judge 44 = .ok (.istore_n 3, 1) := by decide +kernel
theorem dX10_judge_45 : decode cX10_judge 45 = .ok (.aload_n 0, 1) := by decide +kernel
theorem dX10_judge_46 : decode cX10_judge 46 = .ok (.getfield 43, 3) := by decide +kernel
theorem dX10_judge_49 : decode cX10_judge 49 = .ok (.iload 4, 2) := by decide +kernel
theorem dX10_judge_51 : decode cX10_judge 51 = .ok (.iaload, 1) := by decide +kernel
theorem dX10_judge_52 : decode cX10_judge 52 = .ok (.aload_n 0, 1) := by decide +kernel
theorem dX10_judge_53 : decode cX10_judge 53 = .ok (.iload_n 1, 1) := by decide +kernel
theorem dX10_judge_54 : decode cX10_judge 54 = .ok (.iconst 3, 1) := by decide +kernel
theorem dX10_judge_55 : decode cX10_judge 55 = .ok (.invokevirtual 106, 3) := by decide +kernel
theorem dX10_judge_58 : decode cX10_judge 58 = .ok (.if_icmp .lt 9, 3) := by decide +kernel
theorem dX10_judge_61 : decode cX10_judge 61 = .ok (.iload_n 3, 1) := by decide +kernel
theorem dX10_judge_62 : decode cX10_judge 62 = .ok (.bipush 12, 2) := by decide +kernel
theorem dX10_judge_64 : decode cX10_judge 64 = .ok (.if_icmp .le 6, 3) := by decide +kernel
theorem dX10_judge_67 : decode cX10_judge 67 = .ok (.iload 4, 2) := by decide +kernel
theorem dX10_judge_69 : decode cX10_judge 69 = .ok (.ireturn, 1) := by decide +kernel
theorem dX10_judge_70 : decode cX10_judge 70 = .ok (.iinc 4 1, 3) := by decide +kernel
theorem dX10_judge_73 : decode cX10_judge 73 = .ok (.goto (-44), 3) := by decide +kernel
theorem dX10_judge_76 : decode cX10_judge 76 = .ok (.iload_n 3, 1) := by decide +kernel
theorem dX10_judge_77 : decode cX10_judge 77 = .ok (.bipush 12, 2) := by decide +kernel
theorem dX10_judge_79 : decode cX10_judge 79 = .ok (.if_icmp .ge 7, 3) := by decide +kernel
theorem dX10_judge_82 : decode cX10_judge 82 = .ok (.iload_n 2, 1) := by decide +kernel
theorem dX10_judge_83 : decode cX10_judge 83 = .ok (.goto 5, 3) := by decide +kernel
theorem dX10_judge_86 : decode cX10_judge 86 = .ok (.bipush (-9), 2) := by decide +kernel
theorem dX10_judge_88 : decode cX10_judge 88 = .ok (.ireturn, 1) := by decide +kernel
theorem dX10_parts_0 : decode cX10_parts 0 = .ok (.iconst 0, 1) := by decide +kernel
theorem dX10_parts_1 : decode cX10_parts 1 = .ok (.istore_n 1, 1) := by decide +kernel
theorem dX10_parts_2 : decode cX10_parts 2 = .ok (.iconst 0, 1) := by decide +kernel
theorem dX10_parts_3 : decode cX10_parts 3 = .ok (.istore_n 2, 1) := by decide +kernel
theorem dX10_parts_4 : decode cX10_parts 4 = .ok (.iload_n 2, 1) := by decide +kernel
theorem dX10_parts_5 : decode cX10_parts 5 = .ok (.bipush 24, 2) := by decide +kernel
theorem dX10_parts_7 : decode cX10_parts 7 = .ok (.if_icmp .ge 26, 3) := by decide +kernel
theorem dX10_parts_10 : decode cX10_parts 10 = .ok (.iload_n 1, 1) := by decide +kernel
theorem dX10_parts_11 : decode cX10_parts 11 = .ok (.aload_n 0, 1) := by decide +kernel
theorem dX10_parts_12 : decode cX10_parts 12 = .ok (.iload_n 2, 1) := by decide +kernel
theorem dX10_parts_13 : decode cX10_parts 13 = .ok (.iconst 0, 1) := by decide +kernel
theorem dX10_parts_14 : decode cX10_parts 14 = .ok (.invokevirtual 50, 3) := by decide +kernel
theorem dX10_parts_17 : decode cX10_parts 17 = .ok (.ifCond .le 7, 3) := by decide +kernel
theorem dX10_parts_20 : decode cX10_parts 20 = .ok (.iconst 1, 1) := by decide +kernel
theorem dX10_parts_21 : decode cX10_parts 21 = .ok (.goto 4, 3) := by decide +kernel
theorem dX10_parts_24 : decode cX10_parts 24 = .ok (.iconst 0, 1) := by decide +kernel
theorem dX10_parts_25 : decode cX10_parts 25 = .ok (.iadd, 1) := by decide +kernel
theorem dX10_parts_26 : decode cX10_parts 26 = .ok (.istore_n 1, 1) := by decide +kernel
theorem dX10_parts_27 : decode cX10_parts 27 = .ok (.iinc 2 1, 3) := by decide +kernel
theorem dX10_parts_30 : decode cX10_parts 30 = .ok (.goto (-26), 3) := by decide +kernel
theorem dX10_parts_33 : decode cX10_parts 33 = .ok (.iload_n 1, 1) := by decide +kernel
theorem dX10_parts_34 : decode cX10_parts 34 = .ok (.ireturn, 1) := by decide +kernel
theorem dX10_image_0 : decode cX10_image 0 = .ok (.iconst 0, 1) := by decide +kernel
theorem dX10_image_1 : decode cX10_image 1 = .ok (.istore_n 1, 1) := by decide +kernel
theorem dX10_image_2 : decode cX10_image 2 = .ok (.iload_n 1, 1) := by decide +kernel
theorem dX10_image_3 : decode cX10_image 3 = .ok (.sipush 267, 3) := by decide +kernel
theorem dX10_image_6 : decode cX10_image 6 = .ok (.if_icmp .ge 21, 3) := by decide +kernel
theorem dX10_image_9 : decode cX10_image 9 = .ok (.aload_n 0, 1) := by decide +kernel
theorem dX10_image_10 : decode cX10_image 10 = .ok (.getfield 16, 3) := by decide +kernel
theorem dX10_image_13 : decode cX10_image 13 = .ok (.iload_n 1, 1) := by decide +kernel
theorem dX10_image_14 : decode cX10_image 14 = .ok (.aload_n 0, 1) := by decide +kernel
theorem dX10_image_15 : decode cX10_image 15 = .ok (.getfield 13, 3) := by decide +kernel
theorem dX10_image_18 : decode cX10_image 18 = .ok (.iload_n 1, 1) := by decide +kernel
theorem dX10_image_19 : decode cX10_image 19 = .ok (.iaload, 1) := by decide +kernel
theorem dX10_image_20 : decode cX10_image 20 = .ok (.iastore, 1) := by decide +kernel
theorem dX10_image_21 : decode cX10_image 21 = .ok (.iinc 1 1, 3) := by decide +kernel
theorem dX10_image_24 : decode cX10_image 24 = .ok (.goto (-22), 3) := by decide +kernel
theorem dX10_image_27 : decode cX10_image 27 = .ok (.aload_n 0, 1) := by decide +kernel
theorem dX10_image_28 : decode cX10_image 28 = .ok (.iconst 1, 1) := by decide +kernel
theorem dX10_image_29 : decode cX10_image 29 = .ok (.putfield 238, 3) := by decide +kernel
theorem dX10_image_32 : decode cX10_image 32 = .ok (.aload_n 0, 1) := by decide +kernel
theorem dX10_image_33 : decode cX10_image 33 = .ok (.invokevirtual 242, 3) := by decide +kernel
theorem dX10_image_36 : decode cX10_image 36 = .ok (.ireturn, 1) := by decide +kernel
theorem dX10_on_0 : decode cX10_on 0 = .ok (.aload_n 0, 1) := by decide +kernel
theorem dX10_on_1 : decode cX10_on 1 = .ok (.getfield 238, 3) := by decide +kernel
theorem dX10_on_4 : decode cX10_on 4 = .ok (.ifCond .ne 10, 3) := by decide +kernel
theorem dX10_on_7 : decode cX10_on 7 = .ok (.aload_n 0, 1) := by decide +kernel
theorem dX10_on_8 : decode cX10_on 8 = .ok (.bipush (-3), 2) := by decide +kernel
theorem dX10_on_10 : decode cX10_on 10 = .ok (.invokevirtual 62, 3) := by decide +kernel
theorem dX10_on_13 : decode cX10_on 13 = .ok (.ireturn, 1) := by decide +kernel
theorem dX10_on_14 : decode cX10_on 14 = .ok (.iconst 0, 1) := by decide +kernel
theorem dX10_on_15 : decode cX10_on 15 = .ok (.istore_n 1, 1) := by decide +kernel
theorem dX10_on_16 : decode cX10_on 16 = .ok (.iload_n 1, 1) := by decide +kernel
theorem dX10_on_17 : decode cX10_on 17 = .ok (.sipush 267, 3) := by decide +kernel
theorem dX10_on_20 : decode cX10_on 20 = .ok (.if_icmp .ge 21, 3) := by decide +kernel
theorem dX10_on_23 : decode cX10_on 23 = .ok (.aload_n 0, 1) := by decide +kernel
theorem dX10_on_24 : decode cX10_on 24 = .ok (.getfield 13, 3) := by decide +kernel
theorem dX10_on_27 : decode cX10_on 27 = .ok (.iload_n 1, 1) := by decide +kernel
theorem dX10_on_28 : decode cX10_on 28 = .ok (.aload_n 0, 1) := by decide +kernel
theorem dX10_on_29 : decode cX10_on 29 = .ok (.getfield 16, 3) := by decide +kernel
theorem dX10_on_32 : decode cX10_on 32 = .ok (.iload_n 1, 1) := by decide +kernel
theorem dX10_on_33 : decode cX10_on 33 = .ok (.iaload, 1) := by decide +kernel
theorem dX10_on_34 : decode cX10_on 34 = .ok (.iastore, 1) := by decide +kernel
theorem dX10_on_35 : decode cX10_on 35 = .ok (.iinc 1 1, 3) := by decide +kernel
theorem dX10_on_38 : decode cX10_on 38 = .ok (.goto (-22), 3) := by decide +kernel
theorem dX10_on_41 : decode cX10_on 41 = .ok (.aload_n 0, 1) := by decide +kernel
theorem dX10_on_42 : decode cX10_on 42 = .ok (.invokevirtual 242, 3) := by decide +kernel
theorem dX10_on_45 : decode cX10_on 45 = .ok (.ireturn, 1) := by decide +kernel
theorem dX10_count_0 : decode cX10_count 0 = .ok (.iload_n 1, 1) := by decide +kernel
theorem dX10_count_1 : decode cX10_count 1 = .ok (.bipush 10, 2) := by decide +kernel
theorem dX10_count_3 : decode cX10_count 3 = .ok (.if_icmp .le 19, 3) := by decide +kernel
theorem dX10_count_6 : decode cX10_count 6 = .ok (.iload_n 1, 1) := by decide +kernel
theorem dX10_count_7 : decode cX10_count 7 = .ok (.bipush 17, 2) := by decide +kernel
theorem dX10_count_9 : decode cX10_count 9 = .ok (.if_icmp .ge 13, 3) := by decide +kernel
theorem dX10_count_12 : decode cX10_count 12 = .ok (.aload_n 0, 1) := by decide +kernel
theorem dX10_count_13 : decode cX10_count 13 = .ok (.getfield 7, 3) := by decide +kernel
theorem dX10_count_16 : decode cX10_count 16 = .ok (.iload_n 1, 1) := by decide +kernel
theorem dX10_count_17 : decode cX10_count 17 = .ok (.bipush 10, 2) := by decide +kernel
theorem dX10_count_19 : decode cX10_count 19 = .ok (.isub, 1) := by decide +kernel
theorem dX10_count_20 : decode cX10_count 20 = .ok (.iaload, 1) := by decide +kernel
theorem dX10_count_21 : decode cX10_count 21 = .ok (.ireturn, 1) := by decide +kernel
theorem dX10_count_22 : decode cX10_count 22 = .ok (.iload_n 1, 1) := by decide +kernel
theorem dX10_count_23 : decode cX10_count 23 = .ok (.tableswitch 106 0 6 #[41, 41, 41, 48, 53, 96, 101], 41) := by decide +kernel
theorem dX10_count_64 : decode cX10_count 64 = .ok (.aload_n 0, 1) := by decide +kernel
theorem dX10_count_65 : decode cX10_count 65 = .ok (.getfield 13, 3) := by decide +kernel
theorem dX10_count_68 : decode cX10_count 68 = .ok (.iload_n 1, 1) := by decide +kernel
theorem dX10_count_69 : decode cX10_count 69 = .ok (.iaload, 1) := by decide +kernel
theorem dX10_count_70 : decode cX10_count 70 = .ok (.ireturn, 1) := by decide +kernel
theorem dX10_count_71 : decode cX10_count 71 = .ok (.aload_n 0, 1) := by decide +kernel
theorem dX10_count_72 : decode cX10_count 72 = .ok (.invokevirtual 242, 3) := by decide +kernel
theorem dX10_count_75 : decode cX10_count 75 = .ok (.ireturn, 1) := by decide +kernel
theorem dX10_count_76 : decode cX10_count 76 = .ok (.iconst 0, 1) := by decide +kernel
theorem dX10_count_77 : decode cX10_count 77 = .ok (.istore_n 2, 1) := by decide +kernel
theorem dX10_count_78 : decode cX10_count 78 = .ok (.iconst 0, 1) := by decide +kernel
theorem dX10_count_79 : decode cX10_count 79 = .ok (.istore_n 3, 1) := by decide +kernel
theorem dX10_count_80 : decode cX10_count 80 = .ok (.iload_n 3, 1) := by decide +kernel
theorem dX10_count_81 : decode cX10_count 81 = .ok (.aload_n 0, 1) := by decide +kernel
theorem dX10_count_82 : decode cX10_count 82 = .ok (.getfield 13, 3) := by decide +kernel
theorem dX10_count_85 : decode cX10_count 85 = .ok (.iconst 2, 1) := by decide +kernel
theorem dX10_count_86 : decode cX10_count 86 = .ok (.iaload, 1) := by decide +kernel
theorem dX10_count_87 : decode cX10_count 87 = .ok (.if_icmp .ge 30, 3) := by decide +kernel
theorem dX10_count_90 : decode cX10_count 90 = .ok (.aload_n 0, 1) := by decide +kernel
theorem dX10_count_91 : decode cX10_count 91 = .ok (.iload_n 3, 1) := by decide +kernel
theorem dX10_count_92 : decode cX10_count 92 = .ok (.invokevirtual 158, 3) := by decide +kernel
theorem dX10_count_95 : decode cX10_count 95 = .ok (.iload_n 2, 1) := by decide +kernel
theorem dX10_count_96 : decode cX10_count 96 = .ok (.aload_n 0, 1) := by decide +kernel
theorem dX10_count_97 : decode cX10_count 97 = .ok (.iload_n 3, 1) := by decide +kernel
theorem dX10_count_98 : decode cX10_count 98 = .ok (.invokevirtual 180, 3) := by decide +kernel
theorem dX10_count_101 : decode cX10_count 101 = .ok (.ifCond .eq 7, 3) := by decide +kernel
theorem dX10_count_104 : decode cX10_count 104 = .ok (.iconst 1, 1) := by decide +kernel
theorem dX10_count_105 : decode cX10_count 105 = .ok (.goto 4, 3) := by decide +kernel
theorem dX10_count_108 : decode cX10_count 108 = .ok (.iconst 0, 1) := by decide +kernel
theorem dX10_count_109 : decode cX10_count 109 = .ok (.iadd, 1) := by decide +kernel
theorem dX10_count_110 : decode cX10_count 110 = .ok (.istore_n 2, 1) := by decide +kernel
theorem dX10_count_111 : decode cX10_count 111 = .ok (.iinc 3 1, 3) := by decide +kernel
theorem dX10_count_114 : decode cX10_count 114 = .ok (.goto (-34), 3) := by decide +kernel
theorem dX10_count_117 : decode cX10_count 117 = .ok (.iload_n 2, 1) := by decide +kernel
theorem dX10_count_118 : decode cX10_count 118 = .ok (.ireturn, 1) := by decide +kernel
theorem dX10_count_119 : decode cX10_count 119 = .ok (.aload_n 0, 1) := by decide +kernel
theorem dX10_count_120 : decode cX10_count 120 = .ok (.getfield 235, 3) := by decide +kernel
theorem dX10_count_123 : decode cX10_count 123 = .ok (.ireturn, 1) := by decide +kernel
theorem dX10_count_124 : decode cX10_count 124 = .ok (.aload_n 0, 1) := by decide +kernel
theorem dX10_count_125 : decode cX10_count 125 = .ok (.getfield 58, 3) := by decide +kernel
theorem dX10_count_128 : decode cX10_count 128 = .ok (.ireturn, 1) := by decide +kernel
theorem dX10_count_129 : decode cX10_count 129 = .ok (.bipush (-9), 2) := by decide +kernel
theorem dX10_count_131 : decode cX10_count 131 = .ok (.ireturn, 1) := by decide +kernel
theorem dL_law_0 : decode cL_law 0 = .ok (.new 7, 3) := by decide +kernel
theorem dL_law_3 : decode cL_law 3 = .ok (.dup, 1) := by decide +kernel
theorem dL_law_4 : decode cL_law 4 = .ok (.invokespecial 9, 3) := by decide +kernel
theorem dL_law_7 : decode cL_law 7 = .ok (.astore_n 1, 1) := by decide +kernel
theorem dL_law_8 : decode cL_law 8 = .ok (.new 10, 3) := by decide +kernel
theorem dL_law_11 : decode cL_law 11 = .ok (.dup, 1) := by decide +kernel
theorem dL_law_12 : decode cL_law 12 = .ok (.invokespecial 12, 3) := by decide +kernel
theorem dL_law_15 : decode cL_law 15 = .ok (.astore_n 2, 1) := by decide +kernel
theorem dL_law_16 : decode cL_law 16 = .ok (.iconst 0, 1) := by decide +kernel
theorem dL_law_17 : decode cL_law 17 = .ok (.istore_n 3, 1) := by decide +kernel
theorem dL_law_18 : decode cL_law 18 = .ok (.iload_n 3, 1) := by decide +kernel
theorem dL_law_19 : decode cL_law 19 = .ok (.aload_n 0, 1) := by decide +kernel
theorem dL_law_20 : decode cL_law 20 = .ok (.arraylength, 1) := by decide +kernel
theorem dL_law_21 : decode cL_law 21 = .ok (.iconst 5, 1) := by decide +kernel
theorem dL_law_22 : decode cL_law 22 = .ok (.isub, 1) := by decide +kernel
theorem dL_law_23 : decode cL_law 23 = .ok (.if_icmp .gt 1056, 3) := by decide +kernel
theorem dL_law_26 : decode cL_law 26 = .ok (.aload_n 0, 1) := by decide +kernel
theorem dL_law_27 : decode cL_law 27 = .ok (.iload_n 3, 1) := by decide +kernel
theorem dL_law_28 : decode cL_law 28 = .ok (.iaload, 1) := by decide +kernel
theorem dL_law_29 : decode cL_law 29 = .ok (.bipush 31, 2) := by decide +kernel
theorem dL_law_31 : decode cL_law 31 = .ok (.iand, 1) := by decide +kernel
theorem dL_law_32 : decode cL_law 32 = .ok (.tableswitch 1041 0 31 #[144, 167, 180, 213, 246, 279, 312, 345, 378, 401, 434, 467, 500, 533, 556, 589, 622, 645, 688, 701, 734, 747, 770, 793, 826, 880, 913, 946, 969, 992, 1005, 1018], 144) := by decide +kernel
theorem dL_law_176 : decode cL_law 176 = .ok (.aload_n 1, 1) := by decide +kernel
theorem dL_law_177 : decode cL_law 177 = .ok (.aload_n 0, 1) := by decide +kernel
theorem dL_law_178 : decode cL_law 178 = .ok (.iload_n 3, 1) := by decide +kernel
theorem dL_law_179 : decode cL_law 179 = .ok (.iconst 1, 1) := by decide +kernel
theorem dL_law_180 : decode cL_law 180 = .ok (.iadd, 1) := by decide +kernel
theorem dL_law_181 : decode cL_law 181 = .ok (.iaload, 1) := by decide +kernel
theorem dL_law_182 : decode cL_law 182 = .ok (.invokevirtual 13, 3) := by decide +kernel
theorem dL_law_185 : decode cL_law 185 = .ok (.aload_n 2, 1) := by decide +kernel
theorem dL_law_186 : decode cL_law 186 = .ok (.aload_n 0, 1) := by decide +kernel
theorem dL_law_187 : decode cL_law 187 = .ok (.iload_n 3, 1) := by decide +kernel
theorem dL_law_188 : decode cL_law 188 = .ok (.iconst 1, 1) := by decide +kernel
theorem dL_law_189 : decode cL_law 189 = .ok (.iadd, 1) := by decide +kernel
theorem dL_law_190 : decode cL_law 190 = .ok (.iaload, 1) := by decide +kernel
theorem dL_law_191 : decode cL_law 191 = .ok (.invokevirtual 17, 3) := by decide +kernel
theorem dL_law_194 : decode cL_law 194 = .ok (.if_icmp .eq 879, 3) := by decide +kernel
theorem dL_law_197 : decode cL_law 197 = .ok (.iconst 0, 1) := by decide +kernel
theorem dL_law_198 : decode cL_law 198 = .ok (.ireturn, 1) := by decide +kernel
theorem dL_law_199 : decode cL_law 199 = .ok (.aload_n 1, 1) := by decide +kernel
theorem dL_law_200 : decode cL_law 200 = .ok (.invokevirtual 18, 3) := by decide +kernel
theorem dL_law_203 : decode cL_law 203 = .ok (.aload_n 2, 1) := by decide +kernel
theorem dL_law_204 : decode cL_law 204 = .ok (.invokevirtual 22, 3) := by decide +kernel
theorem dL_law_207 : decode cL_law 207 = .ok (.if_icmp .eq 866, 3) := by decide +kernel
theorem dL_law_210 : decode cL_law 210 = .ok (.iconst 0, 1) := by decide +kernel
theorem dL_law_211 : decode cL_law 211 = .ok (.ireturn, 1) := by decide +kernel
theorem dL_law_212 : decode cL_law 212 = .ok (.aload_n 1, 1) := by decide +kernel
theorem dL_law_213 : decode cL_law 213 = .ok (.aload_n 0, 1) := by decide +kernel
theorem dL_law_214 : decode cL_law 214 = .ok (.iload_n 3, 1) := by decide +kernel
theorem dL_law_215 : decode cL_law 215 = .ok (.iconst 1, 1) := by decide +kernel
theorem dL_law_216 : decode cL_law 216 = .ok (.iadd, 1) := by decide +kernel
theorem dL_law_217 : decode cL_law 217 = .ok (.iaload, 1) := by decide +kernel
theorem dL_law_218 : decode cL_law 218 = .ok (.aload_n 0, 1) := by decide +kernel
theorem dL_law_219 : decode cL_law 219 = .ok (.iload_n 3, 1) := by decide +kernel
theorem dL_law_220 : decode cL_law 220 = .ok (.iconst 2, 1) := by decide +kernel
theorem dL_law_221 : decode cL_law 221 = .ok (.iadd, 1) := by decide +kernel
theorem dL_law_222 : decode cL_law 222 = .ok (.iaload, 1) := by decide +kernel
theorem dL_law_223 : decode cL_law 223 = .ok (.invokevirtual 23, 3) := by decide +kernel
theorem dL_law_226 : decode cL_law 226 = .ok (.aload_n 2, 1) := by decide +kernel
theorem dL_law_227 : decode cL_law 227 = .ok (.aload_n 0, 1) := by decide +kernel
theorem dL_law_228 : decode cL_law 228 = .ok (.iload_n 3, 1) := by decide +kernel
theorem dL_law_229 : decode cL_law 229 = .ok (.iconst 1, 1) := by decide +kernel
theorem dL_law_230 : decode cL_law 230 = .ok (.iadd, 1) := by decide +kernel
theorem dL_law_231 : decode cL_law 231 = .ok (.iaload, 1) := by decide +kernel
theorem dL_law_232 : decode cL_law 232 = .ok (.aload_n 0, 1) := by decide +kernel
theorem dL_law_233 : decode cL_law 233 = .ok (.iload_n 3, 1) := by decide +kernel
theorem dL_law_234 : decode cL_law 234 = .ok (.iconst 2, 1) := by decide +kernel
theorem dL_law_235 : decode cL_law 235 = .ok (.iadd, 1) := by decide +kernel
theorem dL_law_236 : decode cL_law 236 = .ok (.iaload, 1) := by decide +kernel
theorem dL_law_237 : decode cL_law 237 = .ok (.invokevirtual 27, 3) := by decide +kernel
theorem dL_law_240 : decode cL_law 240 = .ok (.if_icmp .eq 833, 3) := by decide +kernel
theorem dL_law_243 : decode cL_law 243 = .ok (.iconst 0, 1) := by decide +kernel
theorem dL_law_244 : decode cL_law 244 = .ok (.ireturn, 1) := by decide +kernel
theorem dL_law_245 : decode cL_law 245 = .ok (.aload_n 1, 1) := by decide +kernel
theorem dL_law_246 : decode cL_law 246 = .ok (.aload_n 0, 1) := by decide +kernel
theorem dL_law_247 : decode cL_law 247 = .ok (.iload_n 3, 1) := by decide +kernel
theorem dL_law_248 : decode cL_law 248 = .ok (.iconst 1, 1) := by decide +kernel
theorem dL_law_249 : decode cL_law 249 = .ok (.iadd, 1) := by decide +kernel
theorem dL_law_250 : decode cL_law 250 = .ok (.iaload, 1) := by decide +kernel
theorem dL_law_251 : decode cL_law 251 = .ok (.aload_n 0, 1) := by decide +kernel
theorem dL_law_252 : decode cL_law 252 = .ok (.iload_n 3, 1) := by decide +kernel
theorem dL_law_253 : decode cL_law 253 = .ok (.iconst 2, 1) := by decide +kernel
theorem dL_law_254 : decode cL_law 254 = .ok (.iadd, 1) := by decide +kernel
theorem dL_law_255 : decode cL_law 255 = .ok (.iaload, 1) := by decide +kernel
theorem dL_law_256 : decode cL_law 256 = .ok (.invokevirtual 28, 3) := by decide +kernel
theorem dL_law_259 : decode cL_law 259 = .ok (.aload_n 2, 1) := by decide +kernel
theorem dL_law_260 : decode cL_law 260 = .ok (.aload_n 0, 1) := by decide +kernel
theorem dL_law_261 : decode cL_law 261 = .ok (.iload_n 3, 1) := by decide +kernel
theorem dL_law_262 : decode cL_law 262 = .ok (.iconst 1, 1) := by decide +kernel
theorem dL_law_263 : decode cL_law 263 = .ok (.iadd, 1) := by decide +kernel
theorem dL_law_264 : decode cL_law 264 = .ok (.iaload, 1) := by decide +kernel
theorem dL_law_265 : decode cL_law 265 = .ok (.aload_n 0, 1) := by decide +kernel
theorem dL_law_266 : decode cL_law 266 = .ok (.iload_n 3, 1) := by decide +kernel
theorem dL_law_267 : decode cL_law 267 = .ok (.iconst 2, 1) := by decide +kernel
theorem dL_law_268 : decode cL_law 268 = .ok (.iadd, 1) := by decide +kernel
theorem dL_law_269 : decode cL_law 269 = .ok (.iaload, 1) := by decide +kernel
theorem dL_law_270 : decode cL_law 270 = .ok (.invokevirtual 31, 3) := by decide +kernel
theorem dL_law_273 : decode cL_law 273 = .ok (.if_icmp .eq 800, 3) := by decide +kernel
theorem dL_law_276 : decode cL_law 276 = .ok (.iconst 0, 1) := by decide +kernel
theorem dL_law_277 : decode cL_law 277 = .ok (.ireturn, 1) := by decide +kernel
theorem dL_law_278 : decode cL_law 278 = .ok (.aload_n 1, 1) := by decide +kernel
theorem dL_law_279 : decode cL_law 279 = .ok (.aload_n 0, 1) := by decide +kernel
theorem dL_law_280 : decode cL_law 280 = .ok (.iload_n 3, 1) := by decide +kernel
theorem dL_law_281 : decode cL_law 281 = .ok (.iconst 1, 1) := by decide +kernel
theorem dL_law_282 : decode cL_law 282 = .ok (.iadd, 1) := by decide +kernel
theorem dL_law_283 : decode cL_law 283 = .ok (.iaload, 1) := by decide +kernel
theorem dL_law_284 : decode cL_law 284 = .ok (.aload_n 0, 1) := by decide +kernel
theorem dL_law_285 : decode cL_law 285 = .ok (.iload_n 3, 1) := by decide +kernel
theorem dL_law_286 : decode cL_law 286 = .ok (.iconst 2, 1) := by decide +kernel
theorem dL_law_287 : decode cL_law 287 = .ok (.iadd, 1) := by decide +kernel
theorem dL_law_288 : decode cL_law 288 = .ok (.iaload, 1) := by decide +kernel
theorem dL_law_289 : decode cL_law 289 = .ok (.invokevirtual 32, 3) := by decide +kernel
theorem dL_law_292 : decode cL_law 292 = .ok (.aload_n 2, 1) := by decide +kernel
theorem dL_law_293 : decode cL_law 293 = .ok (.aload_n 0, 1) := by decide +kernel
theorem dL_law_294 : decode cL_law 294 = .ok (.iload_n 3, 1) := by decide +kernel
theorem dL_law_295 : decode cL_law 295 = .ok (.iconst 1, 1) := by decide +kernel
theorem dL_law_296 : decode cL_law 296 = .ok (.iadd, 1) := by decide +kernel
theorem dL_law_297 : decode cL_law 297 = .ok (.iaload, 1) := by decide +kernel
theorem dL_law_298 : decode cL_law 298 = .ok (.aload_n 0, 1) := by decide +kernel
theorem dL_law_299 : decode cL_law 299 = .ok (.iload_n 3, 1) := by decide +kernel
theorem dL_law_300 : decode cL_law 300 = .ok (.iconst 2, 1) := by decide +kernel
theorem dL_law_301 : decode cL_law 301 = .ok (.iadd, 1) := by decide +kernel
theorem dL_law_302 : decode cL_law 302 = .ok (.iaload, 1) := by decide +kernel
theorem dL_law_303 : decode cL_law 303 = .ok (.invokevirtual 35, 3) := by decide +kernel
theorem dL_law_306 : decode cL_law 306 = .ok (.if_icmp .eq 767, 3) := by decide +kernel
theorem dL_law_309 : decode cL_law 309 = .ok (.iconst 0, 1) := by decide +kernel
theorem dL_law_310 : decode cL_law 310 = .ok (.ireturn, 1) := by decide +kernel
theorem dL_law_311 : decode cL_law 311 = .ok (.aload_n 1, 1) := by decide +kernel
theorem dL_law_312 : decode cL_law 312 = .ok (.aload_n 0, 1) := by decide +kernel
theorem dL_law_313 : decode cL_law 313 = .ok (.iload_n 3, 1) := by decide +kernel
theorem dL_law_314 : decode cL_law 314 = .ok (.iconst 1, 1) := by decide +kernel
theorem dL_law_315 : decode cL_law 315 = .ok (.iadd, 1) := by decide +kernel
theorem dL_law_316 : decode cL_law 316 = .ok (.iaload, 1) := by decide +kernel
theorem dL_law_317 : decode cL_law 317 = .ok (.aload_n 0, 1) := by decide +kernel
theorem dL_law_318 : decode cL_law 318 = .ok (.iload_n 3, 1) := by decide +kernel
theorem dL_law_319 : decode cL_law 319 = .ok (.iconst 2, 1) := by decide +kernel
theorem dL_law_320 : decode cL_law 320 = .ok (.iadd, 1) := by decide +kernel
theorem dL_law_321 : decode cL_law 321 = .ok (.iaload, 1) := by decide +kernel
theorem dL_law_322 : decode cL_law 322 = .ok (.invokevirtual 36, 3) := by decide +kernel
theorem dL_law_325 : decode cL_law 325 = .ok (.aload_n 2, 1) := by decide +kernel
theorem dL_law_326 : decode cL_law 326 = .ok (.aload_n 0, 1) := by decide +kernel
theorem dL_law_327 : decode cL_law 327 = .ok (.iload_n 3, 1) := by decide +kernel
theorem dL_law_328 : decode cL_law 328 = .ok (.iconst 1, 1) := by decide +kernel
theorem dL_law_329 : decode cL_law 329 = .ok (.iadd, 1) := by decide +kernel
theorem dL_law_330 : decode cL_law 330 = .ok (.iaload, 1) := by decide +kernel
theorem dL_law_331 : decode cL_law 331 = .ok (.aload_n 0, 1) := by decide +kernel
theorem dL_law_332 : decode cL_law 332 = .ok (.iload_n 3, 1) := by decide +kernel
theorem dL_law_333 : decode cL_law 333 = .ok (.iconst 2, 1) := by decide +kernel
theorem dL_law_334 : decode cL_law 334 = .ok (.iadd, 1) := by decide +kernel
theorem dL_law_335 : decode cL_law 335 = .ok (.iaload, 1) := by decide +kernel
theorem dL_law_336 : decode cL_law 336 = .ok (.invokevirtual 39, 3) := by decide +kernel
theorem dL_law_339 : decode cL_law 339 = .ok (.if_icmp .eq 734, 3) := by decide +kernel
theorem dL_law_342 : decode cL_law 342 = .ok (.iconst 0, 1) := by decide +kernel
theorem dL_law_343 : decode cL_law 343 = .ok (.ireturn, 1) := by decide +kernel
theorem dL_law_344 : decode cL_law 344 = .ok (.aload_n 1, 1) := by decide +kernel
theorem dL_law_345 : decode cL_law 345 = .ok (.aload_n 0, 1) := by decide +kernel
theorem dL_law_346 : decode cL_law 346 = .ok (.iload_n 3, 1) := by decide +kernel
theorem dL_law_347 : decode cL_law 347 = .ok (.iconst 1, 1) := by decide +kernel
theorem dL_law_348 : decode cL_law 348 = .ok (.iadd, 1) := by decide +kernel
theorem dL_law_349 : decode cL_law 349 = .ok (.iaload, 1) := by decide +kernel
theorem dL_law_350 : decode cL_law 350 = .ok (.aload_n 0, 1) := by decide +kernel
theorem dL_law_351 : decode cL_law 351 = .ok (.iload_n 3, 1) := by decide +kernel
theorem dL_law_352 : decode cL_law 352 = .ok (.iconst 2, 1) := by decide +kernel
theorem dL_law_353 : decode cL_law 353 = .ok (.iadd, 1) := by decide +kernel
theorem dL_law_354 : decode cL_law 354 = .ok (.iaload, 1) := by decide +kernel
theorem dL_law_355 : decode cL_law 355 = .ok (.invokevirtual 40, 3) := by decide +kernel
theorem dL_law_358 : decode cL_law 358 = .ok (.aload_n 2, 1) := by decide +kernel
theorem dL_law_359 : decode cL_law 359 = .ok (.aload_n 0, 1) := by decide +kernel
theorem dL_law_360 : decode cL_law 360 = .ok (.iload_n 3, 1) := by decide +kernel
theorem dL_law_361 : decode cL_law 361 = .ok (.iconst 1, 1) := by decide +kernel
theorem dL_law_362 : decode cL_law 362 = .ok (.iadd, 1) := by decide +kernel
theorem dL_law_363 : decode cL_law 363 = .ok (.iaload, 1) := by decide +kernel
theorem dL_law_364 : decode cL_law 364 = .ok (.aload_n 0, 1) := by decide +kernel
theorem dL_law_365 : decode cL_law 365 = .ok (.iload_n 3, 1) := by decide +kernel
theorem dL_law_366 : decode cL_law 366 = .ok (.iconst 2, 1) := by decide +kernel
theorem dL_law_367 : decode cL_law 367 = .ok (.iadd, 1) := by decide +kernel
theorem dL_law_368 : decode cL_law 368 = .ok (.iaload, 1) := by decide +kernel
theorem dL_law_369 : decode cL_law 369 = .ok (.invokevirtual 43, 3) := by decide +kernel
theorem dL_law_372 : decode cL_law 372 = .ok (.if_icmp .eq 701, 3) := by decide +kernel
theorem dL_law_375 : decode cL_law 375 = .ok (.iconst 0, 1) := by decide +kernel
theorem dL_law_376 : decode cL_law 376 = .ok (.ireturn, 1) := by decide +kernel
theorem dL_law_377 : decode cL_law 377 = .ok (.aload_n 1, 1) := by decide +kernel
theorem dL_law_378 : decode cL_law 378 = .ok (.aload_n 0, 1) := by decide +kernel
theorem dL_law_379 : decode cL_law 379 = .ok (.iload_n 3, 1) := by decide +kernel
theorem dL_law_380 : decode cL_law 380 = .ok (.iconst 1, 1) := by decide +kernel
theorem dL_law_381 : decode cL_law 381 = .ok (.iadd, 1) := by decide +kernel
theorem dL_law_382 : decode cL_law 382 = .ok (.iaload, 1) := by decide +kernel
theorem dL_law_383 : decode cL_law 383 = .ok (.aload_n 0, 1) := by decide +kernel
theorem dL_law_384 : decode cL_law 384 = .ok (.iload_n 3, 1) := by decide +kernel
theorem dL_law_385 : decode cL_law 385 = .ok (.iconst 2, 1) := by decide +kernel
theorem dL_law_386 : decode cL_law 386 = .ok (.iadd, 1) := by decide +kernel
theorem dL_law_387 : decode cL_law 387 = .ok (.iaload, 1) := by decide +kernel
theorem dL_law_388 : decode cL_law 388 = .ok (.invokevirtual 44, 3) := by decide +kernel
theorem dL_law_391 : decode cL_law 391 = .ok (.aload_n 2, 1) := by decide +kernel
theorem dL_law_392 : decode cL_law 392 = .ok (.aload_n 0, 1) := by decide +kernel
theorem dL_law_393 : decode cL_law 393 = .ok (.iload_n 3, 1) := by decide +kernel
theorem dL_law_394 : decode cL_law 394 = .ok (.iconst 1, 1) := by decide +kernel
theorem dL_law_395 : decode cL_law 395 = .ok (.iadd, 1) := by decide +kernel
theorem dL_law_396 : decode cL_law 396 = .ok (.iaload, 1) := by decide +kernel
theorem dL_law_397 : decode cL_law 397 = .ok (.aload_n 0, 1) := by decide +kernel
theorem dL_law_398 : decode cL_law 398 = .ok (.iload_n 3, 1) := by decide +kernel
theorem dL_law_399 : decode cL_law 399 = .ok (.iconst 2, 1) := by decide +kernel
theorem dL_law_400 : decode cL_law 400 = .ok (.iadd, 1) := by decide +kernel
theorem dL_law_401 : decode cL_law 401 = .ok (.iaload, 1) := by decide +kernel
theorem dL_law_402 : decode cL_law 402 = .ok (.invokevirtual 47, 3) := by decide +kernel
theorem dL_law_405 : decode cL_law 405 = .ok (.if_icmp .eq 668, 3) := by decide +kernel
theorem dL_law_408 : decode cL_law 408 = .ok (.iconst 0, 1) := by decide +kernel
theorem dL_law_409 : decode cL_law 409 = .ok (.ireturn, 1) := by decide +kernel
theorem dL_law_410 : decode cL_law 410 = .ok (.aload_n 1, 1) := by decide +kernel
theorem dL_law_411 : decode cL_law 411 = .ok (.aload_n 0, 1) := by decide +kernel
theorem dL_law_412 : decode cL_law 412 = .ok (.iload_n 3, 1) := by decide +kernel
theorem dL_law_413 : decode cL_law 413 = .ok (.iconst 1, 1) := by decide +kernel
theorem dL_law_414 : decode cL_law 414 = .ok (.iadd, 1) := by decide +kernel
theorem dL_law_415 : decode cL_law 415 = .ok (.iaload, 1) := by decide +kernel
theorem dL_law_416 : decode cL_law 416 = .ok (.invokevirtual 48, 3) := by decide +kernel
theorem dL_law_419 : decode cL_law 419 = .ok (.aload_n 2, 1) := by decide +kernel
theorem dL_law_420 : decode cL_law 420 = .ok (.aload_n 0, 1) := by decide +kernel
theorem dL_law_421 : decode cL_law 421 = .ok (.iload_n 3, 1) := by decide +kernel
theorem dL_law_422 : decode cL_law 422 = .ok (.iconst 1, 1) := by decide +kernel
theorem dL_law_423 : decode cL_law 423 = .ok (.iadd, 1) := by decide +kernel
theorem dL_law_424 : decode cL_law 424 = .ok (.iaload, 1) := by decide +kernel
theorem dL_law_425 : decode cL_law 425 = .ok (.invokevirtual 51, 3) := by decide +kernel
theorem dL_law_428 : decode cL_law 428 = .ok (.if_icmp .eq 645, 3) := by decide +kernel
theorem dL_law_431 : decode cL_law 431 = .ok (.iconst 0, 1) := by decide +kernel
theorem dL_law_432 : decode cL_law 432 = .ok (.ireturn, 1) := by decide +kernel
theorem dL_law_433 : decode cL_law 433 = .ok (.aload_n 1, 1) := by decide +kernel
theorem dL_law_434 : decode cL_law 434 = .ok (.aload_n 0, 1) := by decide +kernel
theorem dL_law_435 : decode cL_law 435 = .ok (.iload_n 3, 1) := by decide +kernel
theorem dL_law_436 : decode cL_law 436 = .ok (.iconst 1, 1) := by decide +kernel
theorem dL_law_437 : decode cL_law 437 = .ok (.iadd, 1) := by decide +kernel
theorem dL_law_438 : decode cL_law 438 = .ok (.iaload, 1) := by decide +kernel
theorem dL_law_439 : decode cL_law 439 = .ok (.aload_n 0, 1) := by decide +kernel
theorem dL_law_440 : decode cL_law 440 = .ok (.iload_n 3, 1) := by decide +kernel
theorem dL_law_441 : decode cL_law 441 = .ok (.iconst 2, 1) := by decide +kernel
theorem dL_law_442 : decode cL_law 442 = .ok (.iadd, 1) := by decide +kernel
theorem dL_law_443 : decode cL_law 443 = .ok (.iaload, 1) := by decide +kernel
theorem dL_law_444 : decode cL_law 444 = .ok (.invokevirtual 52, 3) := by decide +kernel
theorem dL_law_447 : decode cL_law 447 = .ok (.aload_n 2, 1) := by decide +kernel
theorem dL_law_448 : decode cL_law 448 = .ok (.aload_n 0, 1) := by decide +kernel
theorem dL_law_449 : decode cL_law 449 = .ok (.iload_n 3, 1) := by decide +kernel
theorem dL_law_450 : decode cL_law 450 = .ok (.iconst 1, 1) := by decide +kernel
theorem dL_law_451 : decode cL_law 451 = .ok (.iadd, 1) := by decide +kernel
theorem dL_law_452 : decode cL_law 452 = .ok (.iaload, 1) := by decide +kernel
theorem dL_law_453 : decode cL_law 453 = .ok (.aload_n 0, 1) := by decide +kernel
theorem dL_law_454 : decode cL_law 454 = .ok (.iload_n 3, 1) := by decide +kernel
theorem dL_law_455 : decode cL_law 455 = .ok (.iconst 2, 1) := by decide +kernel
theorem dL_law_456 : decode cL_law 456 = .ok (.iadd, 1) := by decide +kernel
theorem dL_law_457 : decode cL_law 457 = .ok (.iaload, 1) := by decide +kernel
theorem dL_law_458 : decode cL_law 458 = .ok (.invokevirtual 55, 3) := by decide +kernel
theorem dL_law_461 : decode cL_law 461 = .ok (.if_icmp .eq 612, 3) := by decide +kernel
theorem dL_law_464 : decode cL_law 464 = .ok (.iconst 0, 1) := by decide +kernel
theorem dL_law_465 : decode cL_law 465 = .ok (.ireturn, 1) := by decide +kernel
theorem dL_law_466 : decode cL_law 466 = .ok (.aload_n 1, 1) := by decide +kernel
theorem dL_law_467 : decode cL_law 467 = .ok (.aload_n 0, 1) := by decide +kernel
theorem dL_law_468 : decode cL_law 468 = .ok (.iload_n 3, 1) := by decide +kernel
theorem dL_law_469 : decode cL_law 469 = .ok (.iconst 1, 1) := by decide +kernel
theorem dL_law_470 : decode cL_law 470 = .ok (.iadd, 1) := by decide +kernel
theorem dL_law_471 : decode cL_law 471 = .ok (.iaload, 1) := by decide +kernel
theorem dL_law_472 : decode cL_law 472 = .ok (.aload_n 0, 1) := by decide +kernel
theorem dL_law_473 : decode cL_law 473 = .ok (.iload_n 3, 1) := by decide +kernel
theorem dL_law_474 : decode cL_law 474 = .ok (.iconst 2, 1) := by decide +kernel
theorem dL_law_475 : decode cL_law 475 = .ok (.iadd, 1) := by decide +kernel
theorem dL_law_476 : decode cL_law 476 = .ok (.iaload, 1) := by decide +kernel
theorem dL_law_477 : decode cL_law 477 = .ok (.invokevirtual 56, 3) := by decide +kernel
theorem dL_law_480 : decode cL_law 480 = .ok (.aload_n 2, 1) := by decide +kernel
theorem dL_law_481 : decode cL_law 481 = .ok (.aload_n 0, 1) := by decide +kernel
theorem dL_law_482 : decode cL_law 482 = .ok (.iload_n 3, 1) := by decide +kernel
theorem dL_law_483 : decode cL_law 483 = .ok (.iconst 1, 1) := by decide +kernel
theorem dL_law_484 : decode cL_law 484 = .ok (.iadd, 1) := by decide +kernel
theorem dL_law_485 : decode cL_law 485 = .ok (.iaload, 1) := by decide +kernel
theorem dL_law_486 : decode cL_law 486 = .ok (.aload_n 0, 1) := by decide +kernel
theorem dL_law_487 : decode cL_law 487 = .ok (.iload_n 3, 1) := by decide +kernel
theorem dL_law_488 : decode cL_law 488 = .ok (.iconst 2, 1) := by decide +kernel
theorem dL_law_489 : decode cL_law 489 = .ok (.iadd, 1) := by decide +kernel
theorem dL_law_490 : decode cL_law 490 = .ok (.iaload, 1) := by decide +kernel
theorem dL_law_491 : decode cL_law 491 = .ok (.invokevirtual 59, 3) := by decide +kernel
theorem dL_law_494 : decode cL_law 494 = .ok (.if_icmp .eq 579, 3) := by decide +kernel
theorem dL_law_497 : decode cL_law 497 = .ok (.iconst 0, 1) := by decide +kernel
theorem dL_law_498 : decode cL_law 498 = .ok (.ireturn, 1) := by decide +kernel
theorem dL_law_499 : decode cL_law 499 = .ok (.aload_n 1, 1) := by decide +kernel
theorem dL_law_500 : decode cL_law 500 = .ok (.aload_n 0, 1) := by decide +kernel
theorem dL_law_501 : decode cL_law 501 = .ok (.iload_n 3, 1) := by decide +kernel
theorem dL_law_502 : decode cL_law 502 = .ok (.iconst 1, 1) := by decide +kernel
theorem dL_law_503 : decode cL_law 503 = .ok (.iadd, 1) := by decide +kernel
theorem dL_law_504 : decode cL_law 504 = .ok (.iaload, 1) := by decide +kernel
theorem dL_law_505 : decode cL_law 505 = .ok (.aload_n 0, 1) := by decide +kernel
theorem dL_law_506 : decode cL_law 506 = .ok (.iload_n 3, 1) := by decide +kernel
theorem dL_law_507 : decode cL_law 507 = .ok (.iconst 2, 1) := by decide +kernel
theorem dL_law_508 : decode cL_law 508 = .ok (.iadd, 1) := by decide +kernel
theorem dL_law_509 : decode cL_law 509 = .ok (.iaload, 1) := by decide +kernel
theorem dL_law_510 : decode cL_law 510 = .ok (.invokevirtual 60, 3) := by decide +kernel
theorem dL_law_513 : decode cL_law 513 = .ok (.aload_n 2, 1) := by decide +kernel
theorem dL_law_514 : decode cL_law 514 = .ok (.aload_n 0, 1) := by decide +kernel
theorem dL_law_515 : decode cL_law 515 = .ok (.iload_n 3, 1) := by decide +kernel
theorem dL_law_516 : decode cL_law 516 = .ok (.iconst 1, 1) := by decide +kernel
theorem dL_law_517 : decode cL_law 517 = .ok (.iadd, 1) := by decide +kernel
theorem dL_law_518 : decode cL_law 518 = .ok (.iaload, 1) := by decide +kernel
theorem dL_law_519 : decode cL_law 519 = .ok (.aload_n 0, 1) := by decide +kernel
theorem dL_law_520 : decode cL_law 520 = .ok (.iload_n 3, 1) := by decide +kernel
theorem dL_law_521 : decode cL_law 521 = .ok (.iconst 2, 1) := by decide +kernel
theorem dL_law_522 : decode cL_law 522 = .ok (.iadd, 1) := by decide +kernel
theorem dL_law_523 : decode cL_law 523 = .ok (.iaload, 1) := by decide +kernel
theorem dL_law_524 : decode cL_law 524 = .ok (.invokevirtual 63, 3) := by decide +kernel
theorem dL_law_527 : decode cL_law 527 = .ok (.if_icmp .eq 546, 3) := by decide +kernel
theorem dL_law_530 : decode cL_law 530 = .ok (.iconst 0, 1) := by decide +kernel
theorem dL_law_531 : decode cL_law 531 = .ok (.ireturn, 1) := by decide +kernel
theorem dL_law_532 : decode cL_law 532 = .ok (.aload_n 1, 1) := by decide +kernel
theorem dL_law_533 : decode cL_law 533 = .ok (.aload_n 0, 1) := by decide +kernel
theorem dL_law_534 : decode cL_law 534 = .ok (.iload_n 3, 1) := by decide +kernel
theorem dL_law_535 : decode cL_law 535 = .ok (.iconst 1, 1) := by decide +kernel
theorem dL_law_536 : decode cL_law 536 = .ok (.iadd, 1) := by decide +kernel
theorem dL_law_537 : decode cL_law 537 = .ok (.iaload, 1) := by decide +kernel
theorem dL_law_538 : decode cL_law 538 = .ok (.aload_n 0, 1) := by decide +kernel
theorem dL_law_539 : decode cL_law 539 = .ok (.iload_n 3, 1) := by decide +kernel
theorem dL_law_540 : decode cL_law 540 = .ok (.iconst 2, 1) := by decide +kernel
theorem dL_law_541 : decode cL_law 541 = .ok (.iadd, 1) := by decide +kernel
theorem dL_law_542 : decode cL_law 542 = .ok (.iaload, 1) := by decide +kernel
theorem dL_law_543 : decode cL_law 543 = .ok (.invokevirtual 64, 3) := by decide +kernel
theorem dL_law_546 : decode cL_law 546 = .ok (.aload_n 2, 1) := by decide +kernel
theorem dL_law_547 : decode cL_law 547 = .ok (.aload_n 0, 1) := by decide +kernel
theorem dL_law_548 : decode cL_law 548 = .ok (.iload_n 3, 1) := by decide +kernel
theorem dL_law_549 : decode cL_law 549 = .ok (.iconst 1, 1) := by decide +kernel
theorem dL_law_550 : decode cL_law 550 = .ok (.iadd, 1) := by decide +kernel
theorem dL_law_551 : decode cL_law 551 = .ok (.iaload, 1) := by decide +kernel
theorem dL_law_552 : decode cL_law 552 = .ok (.aload_n 0, 1) := by decide +kernel
theorem dL_law_553 : decode cL_law 553 = .ok (.iload_n 3, 1) := by decide +kernel
theorem dL_law_554 : decode cL_law 554 = .ok (.iconst 2, 1) := by decide +kernel
theorem dL_law_555 : decode cL_law 555 = .ok (.iadd, 1) := by decide +kernel
theorem dL_law_556 : decode cL_law 556 = .ok (.iaload, 1) := by decide +kernel
theorem dL_law_557 : decode cL_law 557 = .ok (.invokevirtual 67, 3) := by decide +kernel
theorem dL_law_560 : decode cL_law 560 = .ok (.if_icmp .eq 513, 3) := by decide +kernel
theorem dL_law_563 : decode cL_law 563 = .ok (.iconst 0, 1) := by decide +kernel
theorem dL_law_564 : decode cL_law 564 = .ok (.ireturn, 1) := by decide +kernel
theorem dL_law_565 : decode cL_law 565 = .ok (.aload_n 1, 1) := by decide +kernel
theorem dL_law_566 : decode cL_law 566 = .ok (.aload_n 0, 1) := by decide +kernel
theorem dL_law_567 : decode cL_law 567 = .ok (.iload_n 3, 1) := by decide +kernel
theorem dL_law_568 : decode cL_law 568 = .ok (.iconst 1, 1) := by decide +kernel
theorem dL_law_569 : decode cL_law 569 = .ok (.iadd, 1) := by decide +kernel
theorem dL_law_570 : decode cL_law 570 = .ok (.iaload, 1) := by decide +kernel
theorem dL_law_571 : decode cL_law 571 = .ok (.invokevirtual 68, 3) := by decide +kernel
theorem dL_law_574 : decode cL_law 574 = .ok (.aload_n 2, 1) := by decide +kernel
theorem dL_law_575 : decode cL_law 575 = .ok (.aload_n 0, 1) := by decide +kernel
theorem dL_law_576 : decode cL_law 576 = .ok (.iload_n 3, 1) := by decide +kernel
theorem dL_law_577 : decode cL_law 577 = .ok (.iconst 1, 1) := by decide +kernel
theorem dL_law_578 : decode cL_law 578 = .ok (.iadd, 1) := by decide +kernel
theorem dL_law_579 : decode cL_law 579 = .ok (.iaload, 1) := by decide +kernel
theorem dL_law_580 : decode cL_law 580 = .ok (.invokevirtual 71, 3) := by decide +kernel
theorem dL_law_583 : decode cL_law 583 = .ok (.if_icmp .eq 490, 3) := by decide +kernel
theorem dL_law_586 : decode cL_law 586 = .ok (.iconst 0, 1) := by decide +kernel
theorem dL_law_587 : decode cL_law 587 = .ok (.ireturn, 1) := by decide +kernel
theorem dL_law_588 : decode cL_law 588 = .ok (.aload_n 1, 1) := by decide +kernel
theorem dL_law_589 : decode cL_law 589 = .ok (.aload_n 0, 1) := by decide +kernel
theorem dL_law_590 : decode cL_law 590 = .ok (.iload_n 3, 1) := by decide +kernel
theorem dL_law_591 : decode cL_law 591 = .ok (.iconst 1, 1) := by decide +kernel
theorem dL_law_592 : decode cL_law 592 = .ok (.iadd, 1) := by decide +kernel
theorem dL_law_593 : decode cL_law 593 = .ok (.iaload, 1) := by decide +kernel
theorem dL_law_594 : decode cL_law 594 = .ok (.aload_n 0, 1) := by decide +kernel
theorem dL_law_595 : decode cL_law 595 = .ok (.iload_n 3, 1) := by decide +kernel
theorem dL_law_596 : decode cL_law 596 = .ok (.iconst 2, 1) := by decide +kernel
theorem dL_law_597 : decode cL_law 597 = .ok (.iadd, 1) := by decide +kernel
theorem dL_law_598 : decode cL_law 598 = .ok (.iaload, 1) := by decide +kernel
theorem dL_law_599 : decode cL_law 599 = .ok (.invokevirtual 72, 3) := by decide +kernel
theorem dL_law_602 : decode cL_law 602 = .ok (.aload_n 2, 1) := by decide +kernel
theorem dL_law_603 : decode cL_law 603 = .ok (.aload_n 0, 1) := by decide +kernel
theorem dL_law_604 : decode cL_law 604 = .ok (.iload_n 3, 1) := by decide +kernel
theorem dL_law_605 : decode cL_law 605 = .ok (.iconst 1, 1) := by decide +kernel
theorem dL_law_606 : decode cL_law 606 = .ok (.iadd, 1) := by decide +kernel
theorem dL_law_607 : decode cL_law 607 = .ok (.iaload, 1) := by decide +kernel
theorem dL_law_608 : decode cL_law 608 = .ok (.aload_n 0, 1) := by decide +kernel
theorem dL_law_609 : decode cL_law 609 = .ok (.iload_n 3, 1) := by decide +kernel
theorem dL_law_610 : decode cL_law 610 = .ok (.iconst 2, 1) := by decide +kernel
theorem dL_law_611 : decode cL_law 611 = .ok (.iadd, 1) := by decide +kernel
theorem dL_law_612 : decode cL_law 612 = .ok (.iaload, 1) := by decide +kernel
theorem dL_law_613 : decode cL_law 613 = .ok (.invokevirtual 75, 3) := by decide +kernel
theorem dL_law_616 : decode cL_law 616 = .ok (.if_icmp .eq 457, 3) := by decide +kernel
theorem dL_law_619 : decode cL_law 619 = .ok (.iconst 0, 1) := by decide +kernel
theorem dL_law_620 : decode cL_law 620 = .ok (.ireturn, 1) := by decide +kernel
theorem dL_law_621 : decode cL_law 621 = .ok (.aload_n 1, 1) := by decide +kernel
theorem dL_law_622 : decode cL_law 622 = .ok (.aload_n 0, 1) := by decide +kernel
theorem dL_law_623 : decode cL_law 623 = .ok (.iload_n 3, 1) := by decide +kernel
theorem dL_law_624 : decode cL_law 624 = .ok (.iconst 1, 1) := by decide +kernel
theorem dL_law_625 : decode cL_law 625 = .ok (.iadd, 1) := by decide +kernel
theorem dL_law_626 : decode cL_law 626 = .ok (.iaload, 1) := by decide +kernel
theorem dL_law_627 : decode cL_law 627 = .ok (.aload_n 0, 1) := by decide +kernel
theorem dL_law_628 : decode cL_law 628 = .ok (.iload_n 3, 1) := by decide +kernel
theorem dL_law_629 : decode cL_law 629 = .ok (.iconst 2, 1) := by decide +kernel
theorem dL_law_630 : decode cL_law 630 = .ok (.iadd, 1) := by decide +kernel
theorem dL_law_631 : decode cL_law 631 = .ok (.iaload, 1) := by decide +kernel
theorem dL_law_632 : decode cL_law 632 = .ok (.invokevirtual 76, 3) := by decide +kernel
theorem dL_law_635 : decode cL_law 635 = .ok (.aload_n 2, 1) := by decide +kernel
theorem dL_law_636 : decode cL_law 636 = .ok (.aload_n 0, 1) := by decide +kernel
theorem dL_law_637 : decode cL_law 637 = .ok (.iload_n 3, 1) := by decide +kernel
theorem dL_law_638 : decode cL_law 638 = .ok (.iconst 1, 1) := by decide +kernel
theorem dL_law_639 : decode cL_law 639 = .ok (.iadd, 1) := by decide +kernel
theorem dL_law_640 : decode cL_law 640 = .ok (.iaload, 1) := by decide +kernel
theorem dL_law_641 : decode cL_law 641 = .ok (.aload_n 0, 1) := by decide +kernel
theorem dL_law_642 : decode cL_law 642 = .ok (.iload_n 3, 1) := by decide +kernel
theorem dL_law_643 : decode cL_law 643 = .ok (.iconst 2, 1) := by decide +kernel
theorem dL_law_644 : decode cL_law 644 = .ok (.iadd, 1) := by decide +kernel
theorem dL_law_645 : decode cL_law 645 = .ok (.iaload, 1) := by decide +kernel
theorem dL_law_646 : decode cL_law 646 = .ok (.invokevirtual 79, 3) := by decide +kernel
theorem dL_law_649 : decode cL_law 649 = .ok (.if_icmp .eq 424, 3) := by decide +kernel
theorem dL_law_652 : decode cL_law 652 = .ok (.iconst 0, 1) := by decide +kernel
theorem dL_law_653 : decode cL_law 653 = .ok (.ireturn, 1) := by decide +kernel
theorem dL_law_654 : decode cL_law 654 = .ok (.aload_n 1, 1) := by decide +kernel
theorem dL_law_655 : decode cL_law 655 = .ok (.aload_n 0, 1) := by decide +kernel
theorem dL_law_656 : decode cL_law 656 = .ok (.iload_n 3, 1) := by decide +kernel
theorem dL_law_657 : decode cL_law 657 = .ok (.iconst 1, 1) := by decide +kernel
theorem dL_law_658 : decode cL_law 658 = .ok (.iadd, 1) := by decide +kernel
theorem dL_law_659 : decode cL_law 659 = .ok (.iaload, 1) := by decide +kernel
theorem dL_law_660 : decode cL_law 660 = .ok (.invokevirtual 80, 3) := by decide +kernel
theorem dL_law_663 : decode cL_law 663 = .ok (.aload_n 2, 1) := by decide +kernel
theorem dL_law_664 : decode cL_law 664 = .ok (.aload_n 0, 1) := by decide +kernel
theorem dL_law_665 : decode cL_law 665 = .ok (.iload_n 3, 1) := by decide +kernel
theorem dL_law_666 : decode cL_law 666 = .ok (.iconst 1, 1) := by decide +kernel
theorem dL_law_667 : decode cL_law 667 = .ok (.iadd, 1) := by decide +kernel
theorem dL_law_668 : decode cL_law 668 = .ok (.iaload, 1) := by decide +kernel
theorem dL_law_669 : decode cL_law 669 = .ok (.invokevirtual 83, 3) := by decide +kernel
theorem dL_law_672 : decode cL_law 672 = .ok (.if_icmp .eq 401, 3) := by decide +kernel
theorem dL_law_675 : decode cL_law 675 = .ok (.iconst 0, 1) := by decide +kernel
theorem dL_law_676 : decode cL_law 676 = .ok (.ireturn, 1) := by decide +kernel
theorem dL_law_677 : decode cL_law 677 = .ok (.aload_n 1, 1) := by decide +kernel
theorem dL_law_678 : decode cL_law 678 = .ok (.aload_n 0, 1) := by decide +kernel
theorem dL_law_679 : decode cL_law 679 = .ok (.iload_n 3, 1) := by decide +kernel
theorem dL_law_680 : decode cL_law 680 = .ok (.iconst 1, 1) := by decide +kernel
theorem dL_law_681 : decode cL_law 681 = .ok (.iadd, 1) := by decide +kernel
theorem dL_law_682 : decode cL_law 682 = .ok (.iaload, 1) := by decide +kernel
theorem dL_law_683 : decode cL_law 683 = .ok (.aload_n 0, 1) := by decide +kernel
theorem dL_law_684 : decode cL_law 684 = .ok (.iload_n 3, 1) := by decide +kernel
theorem dL_law_685 : decode cL_law 685 = .ok (.iconst 2, 1) := by decide +kernel
theorem dL_law_686 : decode cL_law 686 = .ok (.iadd, 1) := by decide +kernel
theorem dL_law_687 : decode cL_law 687 = .ok (.iaload, 1) := by decide +kernel
theorem dL_law_688 : decode cL_law 688 = .ok (.aload_n 0, 1) := by decide +kernel
theorem dL_law_689 : decode cL_law 689 = .ok (.iload_n 3, 1) := by decide +kernel
theorem dL_law_690 : decode cL_law 690 = .ok (.iconst 3, 1) := by decide +kernel
theorem dL_law_691 : decode cL_law 691 = .ok (.iadd, 1) := by decide +kernel
theorem dL_law_692 : decode cL_law 692 = .ok (.iaload, 1) := by decide +kernel
theorem dL_law_693 : decode cL_law 693 = .ok (.invokevirtual 84, 3) := by decide +kernel
theorem dL_law_696 : decode cL_law 696 = .ok (.aload_n 2, 1) := by decide +kernel
theorem dL_law_697 : decode cL_law 697 = .ok (.aload_n 0, 1) := by decide +kernel
theorem dL_law_698 : decode cL_law 698 = .ok (.iload_n 3, 1) := by decide +kernel
theorem dL_law_699 : decode cL_law 699 = .ok (.iconst 1, 1) := by decide +kernel
theorem dL_law_700 : decode cL_law 700 = .ok (.iadd, 1) := by decide +kernel
theorem dL_law_701 : decode cL_law 701 = .ok (.iaload, 1) := by decide +kernel
theorem dL_law_702 : decode cL_law 702 = .ok (.aload_n 0, 1) := by decide +kernel
theorem dL_law_703 : decode cL_law 703 = .ok (.iload_n 3, 1) := by decide +kernel
theorem dL_law_704 : decode cL_law 704 = .ok (.iconst 2, 1) := by decide +kernel
theorem dL_law_705 : decode cL_law 705 = .ok (.iadd, 1) := by decide +kernel
theorem dL_law_706 : decode cL_law 706 = .ok (.iaload, 1) := by decide +kernel
theorem dL_law_707 : decode cL_law 707 = .ok (.aload_n 0, 1) := by decide +kernel
theorem dL_law_708 : decode cL_law 708 = .ok (.iload_n 3, 1) := by decide +kernel
theorem dL_law_709 : decode cL_law 709 = .ok (.iconst 3, 1) := by decide +kernel
theorem dL_law_710 : decode cL_law 710 = .ok (.iadd, 1) := by decide +kernel
theorem dL_law_711 : decode cL_law 711 = .ok (.iaload, 1) := by decide +kernel
theorem dL_law_712 : decode cL_law 712 = .ok (.invokevirtual 88, 3) := by decide +kernel
theorem dL_law_715 : decode cL_law 715 = .ok (.if_icmp .eq 358, 3) := by decide +kernel
theorem dL_law_718 : decode cL_law 718 = .ok (.iconst 0, 1) := by decide +kernel
theorem dL_law_719 : decode cL_law 719 = .ok (.ireturn, 1) := by decide +kernel
theorem dL_law_720 : decode cL_law 720 = .ok (.aload_n 1, 1) := by decide +kernel
theorem dL_law_721 : decode cL_law 721 = .ok (.invokevirtual 89, 3) := by decide +kernel
theorem dL_law_724 : decode cL_law 724 = .ok (.aload_n 2, 1) := by decide +kernel
theorem dL_law_725 : decode cL_law 725 = .ok (.invokevirtual 92, 3) := by decide +kernel
theorem dL_law_728 : decode cL_law 728 = .ok (.if_icmp .eq 345, 3) := by decide +kernel
theorem dL_law_731 : decode cL_law 731 = .ok (.iconst 0, 1) := by decide +kernel
theorem dL_law_732 : decode cL_law 732 = .ok (.ireturn, 1) := by decide +kernel
theorem dL_law_733 : decode cL_law 733 = .ok (.aload_n 1, 1) := by decide +kernel
theorem dL_law_734 : decode cL_law 734 = .ok (.aload_n 0, 1) := by decide +kernel
theorem dL_law_735 : decode cL_law 735 = .ok (.iload_n 3, 1) := by decide +kernel
theorem dL_law_736 : decode cL_law 736 = .ok (.iconst 1, 1) := by decide +kernel
theorem dL_law_737 : decode cL_law 737 = .ok (.iadd, 1) := by decide +kernel
theorem dL_law_738 : decode cL_law 738 = .ok (.iaload, 1) := by decide +kernel
theorem dL_law_739 : decode cL_law 739 = .ok (.aload_n 0, 1) := by decide +kernel
theorem dL_law_740 : decode cL_law 740 = .ok (.iload_n 3, 1) := by decide +kernel
theorem dL_law_741 : decode cL_law 741 = .ok (.iconst 2, 1) := by decide +kernel
theorem dL_law_742 : decode cL_law 742 = .ok (.iadd, 1) := by decide +kernel
theorem dL_law_743 : decode cL_law 743 = .ok (.iaload, 1) := by decide +kernel
theorem dL_law_744 : decode cL_law 744 = .ok (.invokevirtual 93, 3) := by decide +kernel
theorem dL_law_747 : decode cL_law 747 = .ok (.aload_n 2, 1) := by decide +kernel
theorem dL_law_748 : decode cL_law 748 = .ok (.aload_n 0, 1) := by decide +kernel
theorem dL_law_749 : decode cL_law 749 = .ok (.iload_n 3, 1) := by decide +kernel
theorem dL_law_750 : decode cL_law 750 = .ok (.iconst 1, 1) := by decide +kernel
theorem dL_law_751 : decode cL_law 751 = .ok (.iadd, 1) := by decide +kernel
theorem dL_law_752 : decode cL_law 752 = .ok (.iaload, 1) := by decide +kernel
theorem dL_law_753 : decode cL_law 753 = .ok (.aload_n 0, 1) := by decide +kernel
theorem dL_law_754 : decode cL_law 754 = .ok (.iload_n 3, 1) := by decide +kernel
theorem dL_law_755 : decode cL_law 755 = .ok (.iconst 2, 1) := by decide +kernel
theorem dL_law_756 : decode cL_law 756 = .ok (.iadd, 1) := by decide +kernel
theorem dL_law_757 : decode cL_law 757 = .ok (.iaload, 1) := by decide +kernel
theorem dL_law_758 : decode cL_law 758 = .ok (.invokevirtual 96, 3) := by decide +kernel
theorem dL_law_761 : decode cL_law 761 = .ok (.if_icmp .eq 312, 3) := by decide +kernel
theorem dL_law_764 : decode cL_law 764 = .ok (.iconst 0, 1) := by decide +kernel
theorem dL_law_765 : decode cL_law 765 = .ok (.ireturn, 1) := by decide +kernel
theorem dL_law_766 : decode cL_law 766 = .ok (.aload_n 1, 1) := by decide +kernel
theorem dL_law_767 : decode cL_law 767 = .ok (.invokevirtual 97, 3) := by decide +kernel
theorem dL_law_770 : decode cL_law 770 = .ok (.aload_n 2, 1) := by decide +kernel
theorem dL_law_771 : decode cL_law 771 = .ok (.invokevirtual 100, 3) := by decide +kernel
theorem dL_law_774 : decode cL_law 774 = .ok (.if_icmp .eq 299, 3) := by decide +kernel
theorem dL_law_777 : decode cL_law 777 = .ok (.iconst 0, 1) := by decide +kernel
theorem dL_law_778 : decode cL_law 778 = .ok (.ireturn, 1) := by decide +kernel
theorem dL_law_779 : decode cL_law 779 = .ok (.aload_n 1, 1) := by decide +kernel
theorem dL_law_780 : decode cL_law 780 = .ok (.aload_n 0, 1) := by decide +kernel
theorem dL_law_781 : decode cL_law 781 = .ok (.iload_n 3, 1) := by decide +kernel
theorem dL_law_782 : decode cL_law 782 = .ok (.iconst 1, 1) := by decide +kernel
theorem dL_law_783 : decode cL_law 783 = .ok (.iadd, 1) := by decide +kernel
theorem dL_law_784 : decode cL_law 784 = .ok (.iaload, 1) := by decide +kernel
theorem dL_law_785 : decode cL_law 785 = .ok (.invokevirtual 101, 3) := by decide +kernel
theorem dL_law_788 : decode cL_law 788 = .ok (.aload_n 2, 1) := by decide +kernel
theorem dL_law_789 : decode cL_law 789 = .ok (.aload_n 0, 1) := by decide +kernel
theorem dL_law_790 : decode cL_law 790 = .ok (.iload_n 3, 1) := by decide +kernel
theorem dL_law_791 : decode cL_law 791 = .ok (.iconst 1, 1) := by decide +kernel
theorem dL_law_792 : decode cL_law 792 = .ok (.iadd, 1) := by decide +kernel
theorem dL_law_793 : decode cL_law 793 = .ok (.iaload, 1) := by decide +kernel
theorem dL_law_794 : decode cL_law 794 = .ok (.invokevirtual 104, 3) := by decide +kernel
theorem dL_law_797 : decode cL_law 797 = .ok (.if_icmp .eq 276, 3) := by decide +kernel
theorem dL_law_800 : decode cL_law 800 = .ok (.iconst 0, 1) := by decide +kernel
theorem dL_law_801 : decode cL_law 801 = .ok (.ireturn, 1) := by decide +kernel
theorem dL_law_802 : decode cL_law 802 = .ok (.aload_n 1, 1) := by decide +kernel
theorem dL_law_803 : decode cL_law 803 = .ok (.aload_n 0, 1) := by decide +kernel
theorem dL_law_804 : decode cL_law 804 = .ok (.iload_n 3, 1) := by decide +kernel
theorem dL_law_805 : decode cL_law 805 = .ok (.iconst 1, 1) := by decide +kernel
theorem dL_law_806 : decode cL_law 806 = .ok (.iadd, 1) := by decide +kernel
theorem dL_law_807 : decode cL_law 807 = .ok (.iaload, 1) := by decide +kernel
theorem dL_law_808 : decode cL_law 808 = .ok (.invokevirtual 105, 3) := by decide +kernel
theorem dL_law_811 : decode cL_law 811 = .ok (.aload_n 2, 1) := by decide +kernel
theorem dL_law_812 : decode cL_law 812 = .ok (.aload_n 0, 1) := by decide +kernel
theorem dL_law_813 : decode cL_law 813 = .ok (.iload_n 3, 1) := by decide +kernel
theorem dL_law_814 : decode cL_law 814 = .ok (.iconst 1, 1) := by decide +kernel
theorem dL_law_815 : decode cL_law 815 = .ok (.iadd, 1) := by decide +kernel
theorem dL_law_816 : decode cL_law 816 = .ok (.iaload, 1) := by decide +kernel
theorem dL_law_817 : decode cL_law 817 = .ok (.invokevirtual 108, 3) := by decide +kernel
theorem dL_law_820 : decode cL_law 820 = .ok (.if_icmp .eq 253, 3) := by decide +kernel
theorem dL_law_823 : decode cL_law 823 = .ok (.iconst 0, 1) := by decide +kernel
theorem dL_law_824 : decode cL_law 824 = .ok (.ireturn, 1) := by decide +kernel
theorem dL_law_825 : decode cL_law 825 = .ok (.aload_n 1, 1) := by decide +kernel
theorem dL_law_826 : decode cL_law 826 = .ok (.aload_n 0, 1) := by decide +kernel
theorem dL_law_827 : decode cL_law 827 = .ok (.iload_n 3, 1) := by decide +kernel
theorem dL_law_828 : decode cL_law 828 = .ok (.iconst 1, 1) := by decide +kernel
theorem dL_law_829 : decode cL_law 829 = .ok (.iadd, 1) := by decide +kernel
theorem dL_law_830 : decode cL_law 830 = .ok (.iaload, 1) := by decide +kernel
theorem dL_law_831 : decode cL_law 831 = .ok (.aload_n 0, 1) := by decide +kernel
theorem dL_law_832 : decode cL_law 832 = .ok (.iload_n 3, 1) := by decide +kernel
theorem dL_law_833 : decode cL_law 833 = .ok (.iconst 2, 1) := by decide +kernel
theorem dL_law_834 : decode cL_law 834 = .ok (.iadd, 1) := by decide +kernel
theorem dL_law_835 : decode cL_law 835 = .ok (.iaload, 1) := by decide +kernel
theorem dL_law_836 : decode cL_law 836 = .ok (.invokevirtual 109, 3) := by decide +kernel
theorem dL_law_839 : decode cL_law 839 = .ok (.aload_n 2, 1) := by decide +kernel
theorem dL_law_840 : decode cL_law 840 = .ok (.aload_n 0, 1) := by decide +kernel
theorem dL_law_841 : decode cL_law 841 = .ok (.iload_n 3, 1) := by decide +kernel
theorem dL_law_842 : decode cL_law 842 = .ok (.iconst 1, 1) := by decide +kernel
theorem dL_law_843 : decode cL_law 843 = .ok (.iadd, 1) := by decide +kernel
theorem dL_law_844 : decode cL_law 844 = .ok (.iaload, 1) := by decide +kernel
theorem dL_law_845 : decode cL_law 845 = .ok (.aload_n 0, 1) := by decide +kernel
theorem dL_law_846 : decode cL_law 846 = .ok (.iload_n 3, 1) := by decide +kernel
theorem dL_law_847 : decode cL_law 847 = .ok (.iconst 2, 1) := by decide +kernel
theorem dL_law_848 : decode cL_law 848 = .ok (.iadd, 1) := by decide +kernel
theorem dL_law_849 : decode cL_law 849 = .ok (.iaload, 1) := by decide +kernel
theorem dL_law_850 : decode cL_law 850 = .ok (.invokevirtual 112, 3) := by decide +kernel
theorem dL_law_853 : decode cL_law 853 = .ok (.if_icmp .eq 220, 3) := by decide +kernel
theorem dL_law_856 : decode cL_law 856 = .ok (.iconst 0, 1) := by decide +kernel
theorem dL_law_857 : decode cL_law 857 = .ok (.ireturn, 1) := by decide +kernel
theorem dL_law_858 : decode cL_law 858 = .ok (.aload_n 1, 1) := by decide +kernel
theorem dL_law_859 : decode cL_law 859 = .ok (.aload_n 0, 1) := by decide +kernel
theorem dL_law_860 : decode cL_law 860 = .ok (.iload_n 3, 1) := by decide +kernel
theorem dL_law_861 : decode cL_law 861 = .ok (.iconst 1, 1) := by decide +kernel
theorem dL_law_862 : decode cL_law 862 = .ok (.iadd, 1) := by decide +kernel
theorem dL_law_863 : decode cL_law 863 = .ok (.iaload, 1) := by decide +kernel
theorem dL_law_864 : decode cL_law 864 = .ok (.aload_n 0, 1) := by decide +kernel
theorem dL_law_865 : decode cL_law 865 = .ok (.iload_n 3, 1) := by decide +kernel
theorem dL_law_866 : decode cL_law 866 = .ok (.iconst 2, 1) := by decide +kernel
theorem dL_law_867 : decode cL_law 867 = .ok (.iadd, 1) := by decide +kernel
theorem dL_law_868 : decode cL_law 868 = .ok (.iaload, 1) := by decide +kernel
theorem dL_law_869 : decode cL_law 869 = .ok (.aload_n 0, 1) := by decide +kernel
theorem dL_law_870 : decode cL_law 870 = .ok (.iload_n 3, 1) := by decide +kernel
theorem dL_law_871 : decode cL_law 871 = .ok (.iconst 3, 1) := by decide +kernel
theorem dL_law_872 : decode cL_law 872 = .ok (.iadd, 1) := by decide +kernel
theorem dL_law_873 : decode cL_law 873 = .ok (.iaload, 1) := by decide +kernel
theorem dL_law_874 : decode cL_law 874 = .ok (.aload_n 0, 1) := by decide +kernel
theorem dL_law_875 : decode cL_law 875 = .ok (.iload_n 3, 1) := by decide +kernel
theorem dL_law_876 : decode cL_law 876 = .ok (.iconst 4, 1) := by decide +kernel
theorem dL_law_877 : decode cL_law 877 = .ok (.iadd, 1) := by decide +kernel
theorem dL_law_878 : decode cL_law 878 = .ok (.iaload, 1) := by decide +kernel
theorem dL_law_879 : decode cL_law 879 = .ok (.invokevirtual 113, 3) := by decide +kernel
theorem dL_law_882 : decode cL_law 882 = .ok (.aload_n 2, 1) := by decide +kernel
theorem dL_law_883 : decode cL_law 883 = .ok (.aload_n 0, 1) := by decide +kernel
theorem dL_law_884 : decode cL_law 884 = .ok (.iload_n 3, 1) := by decide +kernel
theorem dL_law_885 : decode cL_law 885 = .ok (.iconst 1, 1) := by decide +kernel
theorem dL_law_886 : decode cL_law 886 = .ok (.iadd, 1) := by decide +kernel
theorem dL_law_887 : decode cL_law 887 = .ok (.iaload, 1) := by decide +kernel
theorem dL_law_888 : decode cL_law 888 = .ok (.aload_n 0, 1) := by decide +kernel
theorem dL_law_889 : decode cL_law 889 = .ok (.iload_n 3, 1) := by decide +kernel
theorem dL_law_890 : decode cL_law 890 = .ok (.iconst 2, 1) := by decide +kernel
theorem dL_law_891 : decode cL_law 891 = .ok (.iadd, 1) := by decide +kernel
theorem dL_law_892 : decode cL_law 892 = .ok (.iaload, 1) := by decide +kernel
theorem dL_law_893 : decode cL_law 893 = .ok (.aload_n 0, 1) := by decide +kernel
theorem dL_law_894 : decode cL_law 894 = .ok (.iload_n 3, 1) := by decide +kernel
theorem dL_law_895 : decode cL_law 895 = .ok (.iconst 3, 1) := by decide +kernel
theorem dL_law_896 : decode cL_law 896 = .ok (.iadd, 1) := by decide +kernel
theorem dL_law_897 : decode cL_law 897 = .ok (.iaload, 1) := by decide +kernel
theorem dL_law_898 : decode cL_law 898 = .ok (.aload_n 0, 1) := by decide +kernel
theorem dL_law_899 : decode cL_law 899 = .ok (.iload_n 3, 1) := by decide +kernel
theorem dL_law_900 : decode cL_law 900 = .ok (.iconst 4, 1) := by decide +kernel
theorem dL_law_901 : decode cL_law 901 = .ok (.iadd, 1) := by decide +kernel
theorem dL_law_902 : decode cL_law 902 = .ok (.iaload, 1) := by decide +kernel
theorem dL_law_903 : decode cL_law 903 = .ok (.invokevirtual 117, 3) := by decide +kernel
theorem dL_law_906 : decode cL_law 906 = .ok (.lcmp, 1) := by decide +kernel
theorem dL_law_907 : decode cL_law 907 = .ok (.ifCond .eq 166, 3) := by decide +kernel
theorem dL_law_910 : decode cL_law 910 = .ok (.iconst 0, 1) := by decide +kernel
theorem dL_law_911 : decode cL_law 911 = .ok (.ireturn, 1) := by decide +kernel
theorem dL_law_912 : decode cL_law 912 = .ok (.aload_n 1, 1) := by decide +kernel
theorem dL_law_913 : decode cL_law 913 = .ok (.aload_n 0, 1) := by decide +kernel
theorem dL_law_914 : decode cL_law 914 = .ok (.iload_n 3, 1) := by decide +kernel
theorem dL_law_915 : decode cL_law 915 = .ok (.iconst 1, 1) := by decide +kernel
theorem dL_law_916 : decode cL_law 916 = .ok (.iadd, 1) := by decide +kernel
theorem dL_law_917 : decode cL_law 917 = .ok (.iaload, 1) := by decide +kernel
theorem dL_law_918 : decode cL_law 918 = .ok (.aload_n 0, 1) := by decide +kernel
theorem dL_law_919 : decode cL_law 919 = .ok (.iload_n 3, 1) := by decide +kernel
theorem dL_law_920 : decode cL_law 920 = .ok (.iconst 2, 1) := by decide +kernel
theorem dL_law_921 : decode cL_law 921 = .ok (.iadd, 1) := by decide +kernel
theorem dL_law_922 : decode cL_law 922 = .ok (.iaload, 1) := by decide +kernel
theorem dL_law_923 : decode cL_law 923 = .ok (.invokevirtual 118, 3) := by decide +kernel
theorem dL_law_926 : decode cL_law 926 = .ok (.aload_n 2, 1) := by decide +kernel
theorem dL_law_927 : decode cL_law 927 = .ok (.aload_n 0, 1) := by decide +kernel
theorem dL_law_928 : decode cL_law 928 = .ok (.iload_n 3, 1) := by decide +kernel
theorem dL_law_929 : decode cL_law 929 = .ok (.iconst 1, 1) := by decide +kernel
theorem dL_law_930 : decode cL_law 930 = .ok (.iadd, 1) := by decide +kernel
theorem dL_law_931 : decode cL_law 931 = .ok (.iaload, 1) := by decide +kernel
theorem dL_law_932 : decode cL_law 932 = .ok (.aload_n 0, 1) := by decide +kernel
theorem dL_law_933 : decode cL_law 933 = .ok (.iload_n 3, 1) := by decide +kernel
theorem dL_law_934 : decode cL_law 934 = .ok (.iconst 2, 1) := by decide +kernel
theorem dL_law_935 : decode cL_law 935 = .ok (.iadd, 1) := by decide +kernel
theorem dL_law_936 : decode cL_law 936 = .ok (.iaload, 1) := by decide +kernel
theorem dL_law_937 : decode cL_law 937 = .ok (.invokevirtual 121, 3) := by decide +kernel
theorem dL_law_940 : decode cL_law 940 = .ok (.if_icmp .eq 133, 3) := by decide +kernel
theorem dL_law_943 : decode cL_law 943 = .ok (.iconst 0, 1) := by decide +kernel
theorem dL_law_944 : decode cL_law 944 = .ok (.ireturn, 1) := by decide +kernel
theorem dL_law_945 : decode cL_law 945 = .ok (.aload_n 1, 1) := by decide +kernel
theorem dL_law_946 : decode cL_law 946 = .ok (.aload_n 0, 1) := by decide +kernel
theorem dL_law_947 : decode cL_law 947 = .ok (.iload_n 3, 1) := by decide +kernel
theorem dL_law_948 : decode cL_law 948 = .ok (.iconst 1, 1) := by decide +kernel
theorem dL_law_949 : decode cL_law 949 = .ok (.iadd, 1) := by decide +kernel
theorem dL_law_950 : decode cL_law 950 = .ok (.iaload, 1) := by decide +kernel
theorem dL_law_951 : decode cL_law 951 = .ok (.aload_n 0, 1) := by decide +kernel
theorem dL_law_952 : decode cL_law 952 = .ok (.iload_n 3, 1) := by decide +kernel
theorem dL_law_953 : decode cL_law 953 = .ok (.iconst 2, 1) := by decide +kernel
theorem dL_law_954 : decode cL_law 954 = .ok (.iadd, 1) := by decide +kernel
theorem dL_law_955 : decode cL_law 955 = .ok (.iaload, 1) := by decide +kernel
theorem dL_law_956 : decode cL_law 956 = .ok (.invokevirtual 122, 3) := by decide +kernel
theorem dL_law_959 : decode cL_law 959 = .ok (.aload_n 2, 1) := by decide +kernel
theorem dL_law_960 : decode cL_law 960 = .ok (.aload_n 0, 1) := by decide +kernel
theorem dL_law_961 : decode cL_law 961 = .ok (.iload_n 3, 1) := by decide +kernel
theorem dL_law_962 : decode cL_law 962 = .ok (.iconst 1, 1) := by decide +kernel
theorem dL_law_963 : decode cL_law 963 = .ok (.iadd, 1) := by decide +kernel
theorem dL_law_964 : decode cL_law 964 = .ok (.iaload, 1) := by decide +kernel
theorem dL_law_965 : decode cL_law 965 = .ok (.aload_n 0, 1) := by decide +kernel
theorem dL_law_966 : decode cL_law 966 = .ok (.iload_n 3, 1) := by decide +kernel
theorem dL_law_967 : decode cL_law 967 = .ok (.iconst 2, 1) := by decide +kernel
theorem dL_law_968 : decode cL_law 968 = .ok (.iadd, 1) := by decide +kernel
theorem dL_law_969 : decode cL_law 969 = .ok (.iaload, 1) := by decide +kernel
theorem dL_law_970 : decode cL_law 970 = .ok (.invokevirtual 125, 3) := by decide +kernel
theorem dL_law_973 : decode cL_law 973 = .ok (.if_icmp .eq 100, 3) := by decide +kernel
theorem dL_law_976 : decode cL_law 976 = .ok (.iconst 0, 1) := by decide +kernel
theorem dL_law_977 : decode cL_law 977 = .ok (.ireturn, 1) := by decide +kernel
theorem dL_law_978 : decode cL_law 978 = .ok (.aload_n 1, 1) := by decide +kernel
theorem dL_law_979 : decode cL_law 979 = .ok (.aload_n 0, 1) := by decide +kernel
theorem dL_law_980 : decode cL_law 980 = .ok (.iload_n 3, 1) := by decide +kernel
theorem dL_law_981 : decode cL_law 981 = .ok (.iconst 1, 1) := by decide +kernel
theorem dL_law_982 : decode cL_law 982 = .ok (.iadd, 1) := by decide +kernel
theorem dL_law_983 : decode cL_law 983 = .ok (.iaload, 1) := by decide +kernel
theorem dL_law_984 : decode cL_law 984 = .ok (.invokevirtual 126, 3) := by decide +kernel
theorem dL_law_987 : decode cL_law 987 = .ok (.aload_n 2, 1) := by decide +kernel
theorem dL_law_988 : decode cL_law 988 = .ok (.aload_n 0, 1) := by decide +kernel
theorem dL_law_989 : decode cL_law 989 = .ok (.iload_n 3, 1) := by decide +kernel
theorem dL_law_990 : decode cL_law 990 = .ok (.iconst 1, 1) := by decide +kernel
theorem dL_law_991 : decode cL_law 991 = .ok (.iadd, 1) := by decide +kernel
theorem dL_law_992 : decode cL_law 992 = .ok (.iaload, 1) := by decide +kernel
theorem dL_law_993 : decode cL_law 993 = .ok (.invokevirtual 129, 3) := by decide +kernel
theorem dL_law_996 : decode cL_law 996 = .ok (.if_icmp .eq 77, 3) := by decide +kernel
theorem dL_law_999 : decode cL_law 999 = .ok (.iconst 0, 1) := by decide +kernel
theorem dL_law_1000 : decode cL_law 1000 = .ok (.ireturn, 1) := by decide +kernel
theorem dL_law_1001 : decode cL_law 1001 = .ok (.aload_n 1, 1) := by decide +kernel
theorem dL_law_1002 : decode cL_law 1002 = .ok (.aload_n 0, 1) := by decide +kernel
theorem dL_law_1003 : decode cL_law 1003 = .ok (.iload_n 3, 1) := by decide +kernel
theorem dL_law_1004 : decode cL_law 1004 = .ok (.iconst 1, 1) := by decide +kernel
theorem dL_law_1005 : decode cL_law 1005 = .ok (.iadd, 1) := by decide +kernel
theorem dL_law_1006 : decode cL_law 1006 = .ok (.iaload, 1) := by decide +kernel
theorem dL_law_1007 : decode cL_law 1007 = .ok (.invokevirtual 130, 3) := by decide +kernel
theorem dL_law_1010 : decode cL_law 1010 = .ok (.aload_n 2, 1) := by decide +kernel
theorem dL_law_1011 : decode cL_law 1011 = .ok (.aload_n 0, 1) := by decide +kernel
theorem dL_law_1012 : decode cL_law 1012 = .ok (.iload_n 3, 1) := by decide +kernel
theorem dL_law_1013 : decode cL_law 1013 = .ok (.iconst 1, 1) := by decide +kernel
theorem dL_law_1014 : decode cL_law 1014 = .ok (.iadd, 1) := by decide +kernel
theorem dL_law_1015 : decode cL_law 1015 = .ok (.iaload, 1) := by decide +kernel
theorem dL_law_1016 : decode cL_law 1016 = .ok (.invokevirtual 133, 3) := by decide +kernel
theorem dL_law_1019 : decode cL_law 1019 = .ok (.if_icmp .eq 54, 3) := by decide +kernel
theorem dL_law_1022 : decode cL_law 1022 = .ok (.iconst 0, 1) := by decide +kernel
theorem dL_law_1023 : decode cL_law 1023 = .ok (.ireturn, 1) := by decide +kernel
theorem dL_law_1024 : decode cL_law 1024 = .ok (.aload_n 1, 1) := by decide +kernel
theorem dL_law_1025 : decode cL_law 1025 = .ok (.invokevirtual 134, 3) := by decide +kernel
theorem dL_law_1028 : decode cL_law 1028 = .ok (.aload_n 2, 1) := by decide +kernel
theorem dL_law_1029 : decode cL_law 1029 = .ok (.invokevirtual 137, 3) := by decide +kernel
theorem dL_law_1032 : decode cL_law 1032 = .ok (.if_icmp .eq 41, 3) := by decide +kernel
theorem dL_law_1035 : decode cL_law 1035 = .ok (.iconst 0, 1) := by decide +kernel
theorem dL_law_1036 : decode cL_law 1036 = .ok (.ireturn, 1) := by decide +kernel
theorem dL_law_1037 : decode cL_law 1037 = .ok (.aload_n 1, 1) := by decide +kernel
theorem dL_law_1038 : decode cL_law 1038 = .ok (.invokevirtual 138, 3) := by decide +kernel
theorem dL_law_1041 : decode cL_law 1041 = .ok (.aload_n 2, 1) := by decide +kernel
theorem dL_law_1042 : decode cL_law 1042 = .ok (.invokevirtual 141, 3) := by decide +kernel
theorem dL_law_1045 : decode cL_law 1045 = .ok (.if_icmp .eq 28, 3) := by decide +kernel
theorem dL_law_1048 : decode cL_law 1048 = .ok (.iconst 0, 1) := by decide +kernel
theorem dL_law_1049 : decode cL_law 1049 = .ok (.ireturn, 1) := by decide +kernel
theorem dL_law_1050 : decode cL_law 1050 = .ok (.aload_n 1, 1) := by decide +kernel
theorem dL_law_1051 : decode cL_law 1051 = .ok (.aload_n 0, 1) := by decide +kernel
theorem dL_law_1052 : decode cL_law 1052 = .ok (.iload_n 3, 1) := by decide +kernel
theorem dL_law_1053 : decode cL_law 1053 = .ok (.iconst 1, 1) := by decide +kernel
theorem dL_law_1054 : decode cL_law 1054 = .ok (.iadd, 1) := by decide +kernel
theorem dL_law_1055 : decode cL_law 1055 = .ok (.iaload, 1) := by decide +kernel
theorem dL_law_1056 : decode cL_law 1056 = .ok (.invokevirtual 142, 3) := by decide +kernel
theorem dL_law_1059 : decode cL_law 1059 = .ok (.aload_n 2, 1) := by decide +kernel
theorem dL_law_1060 : decode cL_law 1060 = .ok (.aload_n 0, 1) := by decide +kernel
theorem dL_law_1061 : decode cL_law 1061 = .ok (.iload_n 3, 1) := by decide +kernel
theorem dL_law_1062 : decode cL_law 1062 = .ok (.iconst 1, 1) := by decide +kernel
theorem dL_law_1063 : decode cL_law 1063 = .ok (.iadd, 1) := by decide +kernel
theorem dL_law_1064 : decode cL_law 1064 = .ok (.iaload, 1) := by decide +kernel
theorem dL_law_1065 : decode cL_law 1065 = .ok (.invokevirtual 145, 3) := by decide +kernel
theorem dL_law_1068 : decode cL_law 1068 = .ok (.if_icmp .eq 5, 3) := by decide +kernel
theorem dL_law_1071 : decode cL_law 1071 = .ok (.iconst 0, 1) := by decide +kernel
theorem dL_law_1072 : decode cL_law 1072 = .ok (.ireturn, 1) := by decide +kernel
theorem dL_law_1073 : decode cL_law 1073 = .ok (.iinc 3 5, 3) := by decide +kernel
theorem dL_law_1076 : decode cL_law 1076 = .ok (.goto (-1058), 3) := by decide +kernel
theorem dL_law_1079 : decode cL_law 1079 = .ok (.iconst 1, 1) := by decide +kernel
theorem dL_law_1080 : decode cL_law 1080 = .ok (.ireturn, 1) := by decide +kernel
