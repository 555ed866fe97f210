theorem dX8_lines_0 : decode cX8_lines 0 = .ok (.aload_n 0, 1) := by decide +kernel
theorem dX8_lines_1 : decode cX8_lines 1 = .ok (.getfield 33, 3) := by decide +kernel
theorem dX8_lines_4 : decode cX8_lines 4 = .ok (.ireturn, 1) := by decide +kernel
theorem dX8_editions_0 : decode cX8_editions 0 = .ok (.aload_n 0, 1) := by decide +kernel
theorem dX8_editions_1 : decode cX8_editions 1 = .ok (.getfield 37, 3) := by decide +kernel
theorem dX8_editions_4 : decode cX8_editions 4 = .ok (.ireturn, 1) := by decide +kernel
theorem dX8_seen_0 : decode cX8_seen 0 = .ok (.aload_n 0, 1) := by decide +kernel
theorem dX8_seen_1 : decode cX8_seen 1 = .ok (.getfield 40, 3) := by decide +kernel
theorem dX8_seen_4 : decode cX8_seen 4 = .ok (.ireturn, 1) := by decide +kernel
theorem dX8_hasLine_0 : decode cX8_hasLine 0 = .ok (.iload_n 1, 1) := by decide +kernel
theorem dX8_hasLine_1 : decode cX8_hasLine 1 = .ok (.ifCond .lt 15, 3) := by decide +kernel
theorem dX8_hasLine_4 : decode cX8_hasLine 4 = .ok (.iload_n 1, 1) := by decide +kernel
theorem dX8_hasLine_5 : decode cX8_hasLine 5 = .ok (.aload_n 0, 1) := by decide +kernel
theorem dX8_hasLine_6 : decode cX8_hasLine 6 = .ok (.getfield 33, 3) := by decide +kernel
theorem dX8_hasLine_9 : decode cX8_hasLine 9 = .ok (.if_icmp .ge 7, 3) := by decide +kernel
theorem dX8_hasLine_12 : decode cX8_hasLine 12 = .ok (.iconst 1, 1) := by decide +kernel
theorem dX8_hasLine_13 : decode cX8_hasLine 13 = .ok (.goto 4, 3) := by decide +kernel
theorem dX8_hasLine_16 : decode cX8_hasLine 16 = .ok (.iconst 0, 1) := by decide +kernel
theorem dX8_hasLine_17 : decode cX8_hasLine 17 = .ok (.ireturn, 1) := by decide +kernel
theorem dX8_hasEdition_0 : decode cX8_hasEdition 0 = .ok (.iload_n 1, 1) := by decide +kernel
theorem dX8_hasEdition_1 : decode cX8_hasEdition 1 = .ok (.ifCond .lt 24, 3) := by decide +kernel
theorem dX8_hasEdition_4 : decode cX8_hasEdition 4 = .ok (.iload_n 1, 1) := by decide +kernel
theorem dX8_hasEdition_5 : decode cX8_hasEdition 5 = .ok (.aload_n 0, 1) := by decide +kernel
theorem dX8_hasEdition_6 : decode cX8_hasEdition 6 = .ok (.getfield 37, 3) := by decide +kernel
theorem dX8_hasEdition_9 : decode cX8_hasEdition 9 = .ok (.if_icmp .ge 16, 3) := by decide +kernel
theorem dX8_hasEdition_12 : decode cX8_hasEdition 12 = .ok (.iload_n 1, 1) := by decide +kernel
theorem dX8_hasEdition_13 : decode cX8_hasEdition 13 = .ok (.aload_n 0, 1) := by decide +kernel
theorem dX8_hasEdition_14 : decode cX8_hasEdition 14 = .ok (.getfield 9, 3) := by decide +kernel
theorem dX8_hasEdition_17 : decode cX8_hasEdition 17 = .ok (.arraylength, 1) := by decide +kernel
theorem dX8_hasEdition_18 : decode cX8_hasEdition 18 = .ok (.if_icmp .ge 7, 3) := by decide +kernel
theorem dX8_hasEdition_21 : decode cX8_hasEdition 21 = .ok (.iconst 1, 1) := by decide +kernel
theorem dX8_hasEdition_22 : decode cX8_hasEdition 22 = .ok (.goto 4, 3) := by decide +kernel
theorem dX8_hasEdition_25 : decode cX8_hasEdition 25 = .ok (.iconst 0, 1) := by decide +kernel
theorem dX8_hasEdition_26 : decode cX8_hasEdition 26 = .ok (.ireturn, 1) := by decide +kernel
theorem dX8_putEdition_0 : decode cX8_putEdition 0 = .ok (.aload_n 0, 1) := by decide +kernel
theorem dX8_putEdition_1 : decode cX8_putEdition 1 = .ok (.getfield 37, 3) := by decide +kernel
theorem dX8_putEdition_4 : decode cX8_putEdition 4 = .ok (.ifCond .lt 15, 3) := by decide +kernel
theorem dX8_putEdition_7 : decode cX8_putEdition 7 = .ok (.aload_n 0, 1) := by decide +kernel
theorem dX8_putEdition_8 : decode cX8_putEdition 8 = .ok (.getfield 37, 3) := by decide +kernel
theorem dX8_putEdition_11 : decode cX8_putEdition 11 = .ok (.aload_n 0, 1) := by decide +kernel
theorem dX8_putEdition_12 : decode cX8_putEdition 12 = .ok (.getfield 9, 3) := by decide +kernel
theorem dX8_putEdition_15 : decode cX8_putEdition 15 = .ok (.arraylength, 1) := by decide +kernel
theorem dX8_putEdition_16 : decode cX8_putEdition 16 = .ok (.if_icmp .lt 5, 3) := by decide +kernel
theorem dX8_putEdition_19 : decode cX8_putEdition 19 = .ok (.iconst 0, 1) := by decide +kernel
theorem dX8_putEdition_20 : decode cX8_putEdition 20 = .ok (.ireturn, 1) := by decide +kernel
theorem dX8_putEdition_21 : decode cX8_putEdition 21 = .ok (.aload_n 0, 1) := by decide +kernel
theorem dX8_putEdition_22 : decode cX8_putEdition 22 = .ok (.getfield 9, 3) := by decide +kernel
theorem dX8_putEdition_25 : decode cX8_putEdition 25 = .ok (.aload_n 0, 1) := by decide +kernel
theorem dX8_putEdition_26 : decode cX8_putEdition 26 = .ok (.getfield 37, 3) := by decide +kernel
theorem dX8_putEdition_29 : decode cX8_putEdition 29 = .ok (.iconst 0, 1) := by decide +kernel
theorem dX8_putEdition_30 : decode cX8_putEdition 30 = .ok (.iastore, 1) := by decide +kernel
theorem dX8_putEdition_31 : decode cX8_putEdition 31 = .ok (.aload_n 0, 1) := by decide +kernel
theorem dX8_putEdition_32 : decode cX8_putEdition 32 = .ok (.dup, 1) := by decide +kernel
theorem dX8_putEdition_33 : decode cX8_putEdition 33 = .ok (.getfield 37, 3) := by decide +kernel
theorem dX8_putEdition_36 : decode cX8_putEdition 36 = .ok (.iconst 1, 1) := by decide +kernel
theorem dX8_putEdition_37 : decode cX8_putEdition 37 = .ok (.iadd, 1) := by decide +kernel
theorem dX8_putEdition_38 : decode cX8_putEdition 38 = .ok (.putfield 37, 3) := by decide +kernel
theorem dX8_putEdition_41 : decode cX8_putEdition 41 = .ok (.iconst 1, 1) := by decide +kernel
theorem dX8_putEdition_42 : decode cX8_putEdition 42 = .ok (.ireturn, 1) := by decide +kernel
theorem dX8_stretchesOf_0 : decode cX8_stretchesOf 0 = .ok (.aload_n 0, 1) := by decide +kernel
theorem dX8_stretchesOf_1 : decode cX8_stretchesOf 1 = .ok (.iload_n 1, 1) := by decide +kernel
theorem dX8_stretchesOf_2 : decode cX8_stretchesOf 2 = .ok (.invokevirtual 43, 3) := by decide +kernel
theorem dX8_stretchesOf_5 : decode cX8_stretchesOf 5 = .ok (.ifCond .eq 12, 3) := by decide +kernel
theorem dX8_stretchesOf_8 : decode cX8_stretchesOf 8 = .ok (.aload_n 0, 1) := by decide +kernel
theorem dX8_stretchesOf_9 : decode cX8_stretchesOf 9 = .ok (.getfield 9, 3) := by decide +kernel
theorem dX8_stretchesOf_12 : decode cX8_stretchesOf 12 = .ok (.iload_n 1, 1) := by decide +kernel
theorem dX8_stretchesOf_13 : decode cX8_stretchesOf 13 = .ok (.iaload, 1) := by decide +kernel
theorem dX8_stretchesOf_14 : decode cX8_stretchesOf 14 = .ok (.goto 4, 3) := by decide +kernel
theorem dX8_stretchesOf_17 : decode cX8_stretchesOf 17 = .ok (.iconst 0, 1) := by decide +kernel
theorem dX8_stretchesOf_18 : decode cX8_stretchesOf 18 = .ok (.ireturn, 1) := by decide +kernel
theorem dX8_stretches_0 : decode cX8_stretches 0 = .ok (.iconst 0, 1) := by decide +kernel
theorem dX8_stretches_1 : decode cX8_stretches 1 = .ok (.istore_n 1, 1) := by decide +kernel
theorem dX8_stretches_2 : decode cX8_stretches 2 = .ok (.iconst 0, 1) := by decide +kernel
theorem dX8_stretches_3 : decode cX8_stretches 3 = .ok (.istore_n 2, 1) := by decide +kernel
theorem dX8_stretches_4 : decode cX8_stretches 4 = .ok (.iload_n 2, 1) := by decide +kernel
theorem dX8_stretches_5 : decode cX8_stretches 5 = .ok (.aload_n 0, 1) := by decide +kernel
theorem dX8_stretches_6 : decode cX8_stretches 6 = .ok (.getfield 37, 3) := by decide +kernel
theorem dX8_stretches_9 : decode cX8_stretches 9 = .ok (.if_icmp .ge 17, 3) := by decide +kernel
theorem dX8_stretches_12 : decode cX8_stretches 12 = .ok (.iload_n 1, 1) := by decide +kernel
theorem dX8_stretches_13 : decode cX8_stretches 13 = .ok (.aload_n 0, 1) := by decide +kernel
theorem dX8_stretches_14 : decode cX8_stretches 14 = .ok (.iload_n 2, 1) := by decide +kernel
theorem dX8_stretches_15 : decode cX8_stretches 15 = .ok (.invokevirtual 47, 3) := by decide +kernel
theorem dX8_stretches_18 : decode cX8_stretches 18 = .ok (.iadd, 1) := by decide +kernel
theorem dX8_stretches_19 : decode cX8_stretches 19 = .ok (.istore_n 1, 1) := by decide +kernel
theorem dX8_stretches_20 : decode cX8_stretches 20 = .ok (.iinc 2 1, 3) := by decide +kernel
theorem dX8_stretches_23 : decode cX8_stretches 23 = .ok (.goto (-19), 3) := by decide +kernel
theorem dX8_stretches_26 : decode cX8_stretches 26 = .ok (.iload_n 1, 1) := by decide +kernel
theorem dX8_stretches_27 : decode cX8_stretches 27 = .ok (.ireturn, 1) := by decide +kernel
theorem dX8_hasStretch_0 : decode cX8_hasStretch 0 = .ok (.iload_n 2, 1) := by decide +kernel
theorem dX8_hasStretch_1 : decode cX8_hasStretch 1 = .ok (.ifCond .lt 16, 3) := by decide +kernel
theorem dX8_hasStretch_4 : decode cX8_hasStretch 4 = .ok (.iload_n 2, 1) := by decide +kernel
theorem dX8_hasStretch_5 : decode cX8_hasStretch 5 = .ok (.aload_n 0, 1) := by decide +kernel
theorem dX8_hasStretch_6 : decode cX8_hasStretch 6 = .ok (.iload_n 1, 1) := by decide +kernel
theorem dX8_hasStretch_7 : decode cX8_hasStretch 7 = .ok (.invokevirtual 47, 3) := by decide +kernel
theorem dX8_hasStretch_10 : decode cX8_hasStretch 10 = .ok (.if_icmp .ge 7, 3) := by decide +kernel
theorem dX8_hasStretch_13 : decode cX8_hasStretch 13 = .ok (.iconst 1, 1) := by decide +kernel
theorem dX8_hasStretch_14 : decode cX8_hasStretch 14 = .ok (.goto 4, 3) := by decide +kernel
theorem dX8_hasStretch_17 : decode cX8_hasStretch 17 = .ok (.iconst 0, 1) := by decide +kernel
theorem dX8_hasStretch_18 : decode cX8_hasStretch 18 = .ok (.ireturn, 1) := by decide +kernel
theorem dX8_placeOf_0 : decode cX8_placeOf 0 = .ok (.iload_n 0, 1) := by decide +kernel
theorem dX8_placeOf_1 : decode cX8_placeOf 1 = .ok (.bipush 6, 2) := by decide +kernel
theorem dX8_placeOf_3 : decode cX8_placeOf 3 = .ok (.imul, 1) := by decide +kernel
theorem dX8_placeOf_4 : decode cX8_placeOf 4 = .ok (.iload_n 1, 1) := by decide +kernel
theorem dX8_placeOf_5 : decode cX8_placeOf 5 = .ok (.iadd, 1) := by decide +kernel
theorem dX8_placeOf_6 : decode cX8_placeOf 6 = .ok (.iconst 4, 1) := by decide +kernel
theorem dX8_placeOf_7 : decode cX8_placeOf 7 = .ok (.imul, 1) := by decide +kernel
theorem dX8_placeOf_8 : decode cX8_placeOf 8 = .ok (.iload_n 2, 1) := by decide +kernel
theorem dX8_placeOf_9 : decode cX8_placeOf 9 = .ok (.iadd, 1) := by decide +kernel
theorem dX8_placeOf_10 : decode cX8_placeOf 10 = .ok (.ireturn, 1) := by decide +kernel
theorem dX8_part_0 : decode cX8_part 0 = .ok (.iload_n 1, 1) := by decide +kernel
theorem dX8_part_1 : decode cX8_part 1 = .ok (.iload_n 2, 1) := by decide +kernel
theorem dX8_part_2 : decode cX8_part 2 = .ok (.iload_n 3, 1) := by decide +kernel
theorem dX8_part_3 : decode cX8_part 3 = .ok (.invokestatic 51, 3) := by decide +kernel
theorem dX8_part_6 : decode cX8_part 6 = .ok (.istore 4, 2) := by decide +kernel
theorem dX8_part_8 : decode cX8_part 8 = .ok (.iload 4, 2) := by decide +kernel
theorem dX8_part_10 : decode cX8_part 10 = .ok (.ifCond .lt 13, 3) := by decide +kernel
theorem dX8_part_13 : decode cX8_part 13 = .ok (.iload 4, 2) := by decide +kernel
theorem dX8_part_15 : decode cX8_part 15 = .ok (.aload_n 0, 1) := by decide +kernel
theorem dX8_part_16 : decode cX8_part 16 = .ok (.getfield 15, 3) := by decide +kernel
theorem dX8_part_19 : decode cX8_part 19 = .ok (.arraylength, 1) := by decide +kernel
theorem dX8_part_20 : decode cX8_part 20 = .ok (.if_icmp .lt 7, 3) := by decide +kernel
theorem dX8_part_23 : decode cX8_part 23 = .ok (.iconst 0, 1) := by decide +kernel
theorem dX8_part_24 : decode cX8_part 24 = .ok (.goto 10, 3) := by decide +kernel
theorem dX8_part_27 : decode cX8_part 27 = .ok (.aload_n 0, 1) := by decide +kernel
theorem dX8_part_28 : decode cX8_part 28 = .ok (.getfield 15, 3) := by decide +kernel
theorem dX8_part_31 : decode cX8_part 31 = .ok (.iload 4, 2) := by decide +kernel
theorem dX8_part_33 : decode cX8_part 33 = .ok (.iaload, 1) := by decide +kernel
theorem dX8_part_34 : decode cX8_part 34 = .ok (.ireturn, 1) := by decide +kernel
theorem dX8_setPart_0 : decode cX8_setPart 0 = .ok (.iload_n 1, 1) := by decide +kernel
theorem dX8_setPart_1 : decode cX8_setPart 1 = .ok (.iload_n 2, 1) := by decide +kernel
theorem dX8_setPart_2 : decode cX8_setPart 2 = .ok (.iload_n 3, 1) := by decide +kernel
theorem dX8_setPart_3 : decode cX8_setPart 3 = .ok (.invokestatic 51, 3) := by decide +kernel
theorem dX8_setPart_6 : decode cX8_setPart 6 = .ok (.istore 5, 2) := by decide +kernel
theorem dX8_setPart_8 : decode cX8_setPart 8 = .ok (.iload 5, 2) := by decide +kernel
theorem dX8_setPart_10 : decode cX8_setPart 10 = .ok (.ifCond .lt 22, 3) := by decide +kernel
theorem dX8_setPart_13 : decode cX8_setPart 13 = .ok (.iload 5, 2) := by decide +kernel
theorem dX8_setPart_15 : decode cX8_setPart 15 = .ok (.aload_n 0, 1) := by decide +kernel
theorem dX8_setPart_16 : decode cX8_setPart 16 = .ok (.getfield 15, 3) := by decide +kernel
theorem dX8_setPart_19 : decode cX8_setPart 19 = .ok (.arraylength, 1) := by decide +kernel
theorem dX8_setPart_20 : decode cX8_setPart 20 = .ok (.if_icmp .ge 12, 3) := by decide +kernel
theorem dX8_setPart_23 : decode cX8_setPart 23 = .ok (.aload_n 0, 1) := by decide +kernel
theorem dX8_setPart_24 : decode cX8_setPart 24 = .ok (.getfield 15, 3) := by decide +kernel
theorem dX8_setPart_27 : decode cX8_setPart 27 = .ok (.iload 5, 2) := by decide +kernel
theorem dX8_setPart_29 : decode cX8_setPart 29 = .ok (.iload 4, 2) := by decide +kernel
theorem dX8_setPart_31 : decode cX8_setPart 31 = .ok (.iastore, 1) := by decide +kernel
theorem dX8_setPart_32 : decode cX8_setPart 32 = .ok (.return_, 1) := by decide +kernel
theorem dX8_putStretch_0 : decode cX8_putStretch 0 = .ok (.aload_n 0, 1) := by decide +kernel
theorem dX8_putStretch_1 : decode cX8_putStretch 1 = .ok (.iload_n 1, 1) := by decide +kernel
theorem dX8_putStretch_2 : decode cX8_putStretch 2 = .ok (.invokevirtual 47, 3) := by decide +kernel
theorem dX8_putStretch_5 : decode cX8_putStretch 5 = .ok (.istore 6, 2) := by decide +kernel
theorem dX8_putStretch_7 : decode cX8_putStretch 7 = .ok (.aload_n 0, 1) := by decide +kernel
theorem dX8_putStretch_8 : decode cX8_putStretch 8 = .ok (.iload_n 1, 1) := by decide +kernel
theorem dX8_putStretch_9 : decode cX8_putStretch 9 = .ok (.invokevirtual 43, 3) := by decide +kernel
theorem dX8_putStretch_12 : decode cX8_putStretch 12 = .ok (.ifCond .eq 10, 3) := by decide +kernel
theorem dX8_putStretch_15 : decode cX8_putStretch 15 = .ok (.iload 6, 2) := by decide +kernel
theorem dX8_putStretch_17 : decode cX8_putStretch 17 = .ok (.bipush 6, 2) := by decide +kernel
theorem dX8_putStretch_19 : decode cX8_putStretch 19 = .ok (.if_icmp .lt 4, 3) := by decide +kernel
theorem dX8_putStretch_22 : decode cX8_putStretch 22 = .ok (.return_, 1) := by decide +kernel
theorem dX8_putStretch_23 : decode cX8_putStretch 23 = .ok (.aload_n 0, 1) := by decide +kernel
theorem dX8_putStretch_24 : decode cX8_putStretch 24 = .ok (.iload_n 1, 1) := by decide +kernel
theorem dX8_putStretch_25 : decode cX8_putStretch 25 = .ok (.iload 6, 2) := by decide +kernel
theorem dX8_putStretch_27 : decode cX8_putStretch 27 = .ok (.iconst 0, 1) := by decide +kernel
theorem dX8_putStretch_28 : decode cX8_putStretch 28 = .ok (.iload_n 2, 1) := by decide +kernel
theorem dX8_putStretch_29 : decode cX8_putStretch 29 = .ok (.invokevirtual 55, 3) := by decide +kernel
theorem dX8_putStretch_32 : decode cX8_putStretch 32 = .ok (.aload_n 0, 1) := by decide +kernel
theorem dX8_putStretch_33 : decode cX8_putStretch 33 = .ok (.iload_n 1, 1) := by decide +kernel
theorem dX8_putStretch_34 : decode cX8_putStretch 34 = .ok (.iload 6, 2) := by decide +kernel
theorem dX8_putStretch_36 : decode cX8_putStretch 36 = .ok (.iconst 1, 1) := by decide +kernel
theorem dX8_putStretch_37 : decode cX8_putStretch 37 = .ok (.iload_n 3, 1) := by decide +kernel
theorem dX8_putStretch_38 : decode cX8_putStretch 38 = .ok (.invokevirtual 55, 3) := by decide +kernel
theorem dX8_putStretch_41 : decode cX8_putStretch 41 = .ok (.aload_n 0, 1) := by decide +kernel
theorem dX8_putStretch_42 : decode cX8_putStretch 42 = .ok (.iload_n 1, 1) := by decide +kernel
theorem dX8_putStretch_43 : decode cX8_putStretch 43 = .ok (.iload 6, 2) := by decide +kernel
theorem dX8_putStretch_45 : decode cX8_putStretch 45 = .ok (.iconst 2, 1) := by decide +kernel
theorem dX8_putStretch_46 : decode cX8_putStretch 46 = .ok (.iload 4, 2) := by decide +kernel
theorem dX8_putStretch_48 : decode cX8_putStretch 48 = .ok (.invokevirtual 55, 3) := by decide +kernel
theorem dX8_putStretch_51 : decode cX8_putStretch 51 = .ok (.aload_n 0, 1) := by decide +kernel
theorem dX8_putStretch_52 : decode cX8_putStretch 52 = .ok (.iload_n 1, 1) := by decide +kernel
theorem dX8_putStretch_53 : decode cX8_putStretch 53 = .ok (.iload 6, 2) := by decide +kernel
theorem dX8_putStretch_55 : decode cX8_putStretch 55 = .ok (.iconst 3, 1) := by decide +kernel
theorem dX8_putStretch_56 : decode cX8_putStretch 56 = .ok (.iload 5, 2) := by decide +kernel
theorem dX8_putStretch_58 : decode cX8_putStretch 58 = .ok (.invokevirtual 55, 3) := by decide +kernel
theorem dX8_putStretch_61 : decode cX8_putStretch 61 = .ok (.aload_n 0, 1) := by decide +kernel
theorem dX8_putStretch_62 : decode cX8_putStretch 62 = .ok (.getfield 9, 3) := by decide +kernel
theorem dX8_putStretch_65 : decode cX8_putStretch 65 = .ok (.iload_n 1, 1) := by decide +kernel
theorem dX8_putStretch_66 : decode cX8_putStretch 66 = .ok (.iload 6, 2) := by decide +kernel
theorem dX8_putStretch_68 : decode cX8_putStretch 68 = .ok (.iconst 1, 1) := by decide +kernel
theorem dX8_putStretch_69 : decode cX8_putStretch 69 = .ok (.iadd, 1) := by decide +kernel
theorem dX8_putStretch_70 : decode cX8_putStretch 70 = .ok (.iastore, 1) := by decide +kernel
theorem dX8_putStretch_71 : decode cX8_putStretch 71 = .ok (.return_, 1) := by decide +kernel
theorem dX8_removeStretch_0 : decode cX8_removeStretch 0 = .ok (.aload_n 0, 1) := by decide +kernel
theorem dX8_removeStretch_1 : decode cX8_removeStretch 1 = .ok (.iload_n 1, 1) := by decide +kernel
theorem dX8_removeStretch_2 : decode cX8_removeStretch 2 = .ok (.iload_n 2, 1) := by decide +kernel
theorem dX8_removeStretch_3 : decode cX8_removeStretch 3 = .ok (.invokevirtual 59, 3) := by decide +kernel
theorem dX8_removeStretch_6 : decode cX8_removeStretch 6 = .ok (.ifCond .ne 4, 3) := by decide +kernel
theorem dX8_removeStretch_9 : decode cX8_removeStretch 9 = .ok (.return_, 1) := by decide +kernel
theorem dX8_removeStretch_10 : decode cX8_removeStretch 10 = .ok (.iload_n 2, 1) := by decide +kernel
theorem dX8_removeStretch_11 : decode cX8_removeStretch 11 = .ok (.istore_n 3, 1) := by decide +kernel
theorem dX8_removeStretch_12 : decode cX8_removeStretch 12 = .ok (.iload_n 3, 1) := by decide +kernel
theorem dX8_removeStretch_13 : decode cX8_removeStretch 13 = .ok (.iconst 1, 1) := by decide +kernel
theorem dX8_removeStretch_14 : decode cX8_removeStretch 14 = .ok (.iadd, 1) := by decide +kernel
theorem dX8_removeStretch_15 : decode cX8_removeStretch 15 = .ok (.aload_n 0, 1) := by decide +kernel
theorem dX8_removeStretch_16 : decode cX8_removeStretch 16 = .ok (.getfield 9, 3) := by decide +kernel
theorem dX8_removeStretch_19 : decode cX8_removeStretch 19 = .ok (.iload_n 1, 1) := by decide +kernel
theorem dX8_removeStretch_20 : decode cX8_removeStretch 20 = .ok (.iaload, 1) := by decide +kernel
theorem dX8_removeStretch_21 : decode cX8_removeStretch 21 = .ok (.if_icmp .ge 42, 3) := by decide +kernel
theorem dX8_removeStretch_24 : decode cX8_removeStretch 24 = .ok (.iconst 0, 1) := by decide +kernel
theorem dX8_removeStretch_25 : decode cX8_removeStretch 25 = .ok (.istore 4, 2) := by decide +kernel
theorem dX8_removeStretch_27 : decode cX8_removeStretch 27 = .ok (.iload 4, 2) := by decide +kernel
theorem dX8_removeStretch_29 : decode cX8_removeStretch 29 = .ok (.iconst 4, 1) := by decide +kernel
theorem dX8_removeStretch_30 : decode cX8_removeStretch 30 = .ok (.if_icmp .ge 27, 3) := by decide +kernel
theorem dX8_removeStretch_33 : decode cX8_removeStretch 33 = .ok (.aload_n 0, 1) := by decide +kernel
theorem dX8_removeStretch_34 : decode cX8_removeStretch 34 = .ok (.iload_n 1, 1) := by decide +kernel
theorem dX8_removeStretch_35 : decode cX8_removeStretch 35 = .ok (.iload_n 3, 1) := by decide +kernel
theorem dX8_removeStretch_36 : decode cX8_removeStretch 36 = .ok (.iload 4, 2) := by decide +kernel
theorem dX8_removeStretch_38 : decode cX8_removeStretch 38 = .ok (.aload_n 0, 1) := by decide +kernel
theorem dX8_removeStretch_39 : decode cX8_removeStretch 39 = .ok (.iload_n 1, 1) := by decide +kernel
theorem dX8_removeStretch_40 : decode cX8_removeStretch 40 = .ok (.iload_n 3, 1) := by decide +kernel
theorem dX8_removeStretch_41 : decode cX8_removeStretch 41 = .ok (.iconst 1, 1) := by decide +kernel
theorem dX8_removeStretch_42 : decode cX8_removeStretch 42 = .ok (.iadd, 1) := by decide +kernel
theorem dX8_removeStretch_43 : decode cX8_removeStretch 43 = .ok (.iload 4, 2) := by decide +kernel
theorem dX8_removeStretch_45 : decode cX8_removeStretch 45 = .ok (.invokevirtual 63, 3) := by decide +kernel
theorem dX8_removeStretch_48 : decode cX8_removeStretch 48 = .ok (.invokevirtual 55, 3) := by decide +kernel
theorem dX8_removeStretch_51 : decode cX8_removeStretch 51 = .ok (.iinc 4 1, 3) := by decide +kernel
theorem dX8_removeStretch_54 : decode cX8_removeStretch 54 = .ok (.goto (-27), 3) := by decide +kernel
theorem dX8_removeStretch_57 : decode cX8_removeStretch 57 = .ok (.iinc 3 1, 3) := by decide +kernel
theorem dX8_removeStretch_60 : decode cX8_removeStretch 60 = .ok (.goto (-48), 3) := by decide +kernel
theorem dX8_removeStretch_63 : decode cX8_removeStretch 63 = .ok (.aload_n 0, 1) := by decide +kernel
theorem dX8_removeStretch_64 : decode cX8_removeStretch 64 = .ok (.getfield 9, 3) := by decide +kernel
theorem dX8_removeStretch_67 : decode cX8_removeStretch 67 = .ok (.iload_n 1, 1) := by decide +kernel
theorem dX8_removeStretch_68 : decode cX8_removeStretch 68 = .ok (.dup2, 1) := by decide +kernel
theorem dX8_removeStretch_69 : decode cX8_removeStretch 69 = .ok (.iaload, 1) := by decide +kernel
theorem dX8_removeStretch_70 : decode cX8_removeStretch 70 = .ok (.iconst 1, 1) := by decide +kernel
theorem dX8_removeStretch_71 : decode cX8_removeStretch 71 = .ok (.isub, 1) := by decide +kernel
theorem dX8_removeStretch_72 : decode cX8_removeStretch 72 = .ok (.iastore, 1) := by decide +kernel
theorem dX8_removeStretch_73 : decode cX8_removeStretch 73 = .ok (.return_, 1) := by decide +kernel
theorem dX8_isFree_0 : decode cX8_isFree 0 = .ok (.iconst 0, 1) := by decide +kernel
theorem dX8_isFree_1 : decode cX8_isFree 1 = .ok (.istore 5, 2) := by decide +kernel
theorem dX8_isFree_3 : decode cX8_isFree 3 = .ok (.iload 5, 2) := by decide +kernel
theorem dX8_isFree_5 : decode cX8_isFree 5 = .ok (.aload_n 0, 1) := by decide +kernel
theorem dX8_isFree_6 : decode cX8_isFree 6 = .ok (.iload_n 1, 1) := by decide +kernel
theorem dX8_isFree_7 : decode cX8_isFree 7 = .ok (.invokevirtual 47, 3) := by decide +kernel
theorem dX8_isFree_10 : decode cX8_isFree 10 = .ok (.if_icmp .ge 63, 3) := by decide +kernel
theorem dX8_isFree_13 : decode cX8_isFree 13 = .ok (.aload_n 0, 1) := by decide +kernel
theorem dX8_isFree_14 : decode cX8_isFree 14 = .ok (.iload_n 1, 1) := by decide +kernel
theorem dX8_isFree_15 : decode cX8_isFree 15 = .ok (.iload 5, 2) := by decide +kernel
theorem dX8_isFree_17 : decode cX8_isFree 17 = .ok (.iconst 1, 1) := by decide +kernel
theorem dX8_isFree_18 : decode cX8_isFree 18 = .ok (.invokevirtual 63, 3) := by decide +kernel
theorem dX8_isFree_21 : decode cX8_isFree 21 = .ok (.istore 6, 2) := by decide +kernel
theorem dX8_isFree_23 : decode cX8_isFree 23 = .ok (.iload_n 3, 1) := by decide +kernel
theorem dX8_isFree_24 : decode cX8_isFree 24 = .ok (.iload 4, 2) := by decide +kernel
theorem dX8_isFree_26 : decode cX8_isFree 26 = .ok (.iadd, 1) := by decide +kernel
theorem dX8_isFree_27 : decode cX8_isFree 27 = .ok (.iload 6, 2) := by decide +kernel
theorem dX8_isFree_29 : decode cX8_isFree 29 = .ok (.if_icmp .le 18, 3) := by decide +kernel
theorem dX8_isFree_32 : decode cX8_isFree 32 = .ok (.iload 6, 2) := by decide +kernel
theorem dX8_isFree_34 : decode cX8_isFree 34 = .ok (.aload_n 0, 1) := by decide +kernel
theorem dX8_isFree_35 : decode cX8_isFree 35 = .ok (.iload_n 1, 1) := by decide +kernel
theorem dX8_isFree_36 : decode cX8_isFree 36 = .ok (.iload 5, 2) := by decide +kernel
theorem dX8_isFree_38 : decode cX8_isFree 38 = .ok (.iconst 2, 1) := by decide +kernel
theorem dX8_isFree_39 : decode cX8_isFree 39 = .ok (.invokevirtual 63, 3) := by decide +kernel
theorem dX8_isFree_42 : decode cX8_isFree 42 = .ok (.iadd, 1) := by decide +kernel
theorem dX8_isFree_43 : decode cX8_isFree 43 = .ok (.iload_n 3, 1) := by decide +kernel
theorem dX8_isFree_44 : decode cX8_isFree 44 = .ok (.if_icmp .gt 7, 3) := by decide +kernel
theorem dX8_isFree_47 : decode cX8_isFree 47 = .ok (.iconst 1, 1) := by decide +kernel
theorem dX8_isFree_48 : decode cX8_isFree 48 = .ok (.goto 4, 3) := by decide +kernel
theorem dX8_isFree_51 : decode cX8_isFree 51 = .ok (.iconst 0, 1) := by decide +kernel
theorem dX8_isFree_52 : decode cX8_isFree 52 = .ok (.istore 7, 2) := by decide +kernel
theorem dX8_isFree_54 : decode cX8_isFree 54 = .ok (.iload 5, 2) := by decide +kernel
theorem dX8_isFree_56 : decode cX8_isFree 56 = .ok (.iload_n 2, 1) := by decide +kernel
theorem dX8_isFree_57 : decode cX8_isFree 57 = .ok (.if_icmp .eq 10, 3) := by decide +kernel
theorem dX8_isFree_60 : decode cX8_isFree 60 = .ok (.iload 7, 2) := by decide +kernel
theorem dX8_isFree_62 : decode cX8_isFree 62 = .ok (.ifCond .ne 5, 3) := by decide +kernel
theorem dX8_isFree_65 : decode cX8_isFree 65 = .ok (.iconst 0, 1) := by decide +kernel
theorem dX8_isFree_66 : decode cX8_isFree 66 = .ok (.ireturn, 1) := by decide +kernel
theorem dX8_isFree_67 : decode cX8_isFree 67 = .ok (.iinc 5 1, 3) := by decide +kernel
theorem dX8_isFree_70 : decode cX8_isFree 70 = .ok (.goto (-67), 3) := by decide +kernel
theorem dX8_isFree_73 : decode cX8_isFree 73 = .ok (.iconst 1, 1) := by decide +kernel
theorem dX8_isFree_74 : decode cX8_isFree 74 = .ok (.ireturn, 1) := by decide +kernel
theorem dX8_citedPart_0 : decode cX8_citedPart 0 = .ok (.iload_n 1, 1) := by decide +kernel
theorem dX8_citedPart_1 : decode cX8_citedPart 1 = .ok (.iconst 4, 1) := by decide +kernel
theorem dX8_citedPart_2 : decode cX8_citedPart 2 = .ok (.imul, 1) := by decide +kernel
theorem dX8_citedPart_3 : decode cX8_citedPart 3 = .ok (.iload_n 2, 1) := by decide +kernel
theorem dX8_citedPart_4 : decode cX8_citedPart 4 = .ok (.iadd, 1) := by decide +kernel
theorem dX8_citedPart_5 : decode cX8_citedPart 5 = .ok (.istore_n 3, 1) := by decide +kernel
theorem dX8_citedPart_6 : decode cX8_citedPart 6 = .ok (.iload_n 3, 1) := by decide +kernel
theorem dX8_citedPart_7 : decode cX8_citedPart 7 = .ok (.ifCond .lt 12, 3) := by decide +kernel
theorem dX8_citedPart_10 : decode cX8_citedPart 10 = .ok (.iload_n 3, 1) := by decide +kernel
theorem dX8_citedPart_11 : decode cX8_citedPart 11 = .ok (.aload_n 0, 1) := by decide +kernel
theorem dX8_citedPart_12 : decode cX8_citedPart 12 = .ok (.getfield 18, 3) := by decide +kernel
theorem dX8_citedPart_15 : decode cX8_citedPart 15 = .ok (.arraylength, 1) := by decide +kernel
theorem dX8_citedPart_16 : decode cX8_citedPart 16 = .ok (.if_icmp .lt 7, 3) := by decide +kernel
theorem dX8_citedPart_19 : decode cX8_citedPart 19 = .ok (.iconst 0, 1) := by decide +kernel
theorem dX8_citedPart_20 : decode cX8_citedPart 20 = .ok (.goto 9, 3) := by decide +kernel
theorem dX8_citedPart_23 : decode cX8_citedPart 23 = .ok (.aload_n 0, 1) := by decide +kernel
theorem dX8_citedPart_24 : decode cX8_citedPart 24 = .ok (.getfield 18, 3) := by decide +kernel
theorem dX8_citedPart_27 : decode cX8_citedPart 27 = .ok (.iload_n 3, 1) := by decide +kernel
theorem dX8_citedPart_28 : decode cX8_citedPart 28 = .ok (.iaload, 1) := by decide +kernel
theorem dX8_citedPart_29 : decode cX8_citedPart 29 = .ok (.ireturn, 1) := by decide +kernel
theorem dX8_setCitedPart_0 : decode cX8_setCitedPart 0 = .ok (.iload_n 1, 1) := by decide +kernel
theorem dX8_setCitedPart_1 : decode cX8_setCitedPart 1 = .ok (.iconst 4, 1) := by decide +kernel
theorem dX8_setCitedPart_2 : decode cX8_setCitedPart 2 = .ok (.imul, 1) := by decide +kernel
theorem dX8_setCitedPart_3 : decode cX8_setCitedPart 3 = .ok (.iload_n 2, 1) := by decide +kernel
theorem dX8_setCitedPart_4 : decode cX8_setCitedPart 4 = .ok (.iadd, 1) := by decide +kernel
theorem dX8_setCitedPart_5 : decode cX8_setCitedPart 5 = .ok (.istore 4, 2) := by decide +kernel
theorem dX8_setCitedPart_7 : decode cX8_setCitedPart 7 = .ok (.iload 4, 2) := by decide +kernel
theorem dX8_setCitedPart_9 : decode cX8_setCitedPart 9 = .ok (.ifCond .lt 21, 3) := by decide +kernel
theorem dX8_setCitedPart_12 : decode cX8_setCitedPart 12 = .ok (.iload 4, 2) := by decide +kernel
theorem dX8_setCitedPart_14 : decode cX8_setCitedPart 14 = .ok (.aload_n 0, 1) := by decide +kernel
theorem dX8_setCitedPart_15 : decode cX8_setCitedPart 15 = .ok (.getfield 18, 3) := by decide +kernel
theorem dX8_setCitedPart_18 : decode cX8_setCitedPart 18 = .ok (.arraylength, 1) := by decide +kernel
theorem dX8_setCitedPart_19 : decode cX8_setCitedPart 19 = .ok (.if_icmp .ge 11, 3) := by decide +kernel
theorem dX8_setCitedPart_22 : decode cX8_setCitedPart 22 = .ok (.aload_n 0, 1) := by decide +kernel
theorem dX8_setCitedPart_23 : decode cX8_setCitedPart 23 = .ok (.getfield 18, 3) := by decide +kernel
theorem dX8_setCitedPart_26 : decode cX8_setCitedPart 26 = .ok (.iload 4, 2) := by decide +kernel
theorem dX8_setCitedPart_28 : decode cX8_setCitedPart 28 = .ok (.iload_n 3, 1) := by decide +kernel
theorem dX8_setCitedPart_29 : decode cX8_setCitedPart 29 = .ok (.iastore, 1) := by decide +kernel
theorem dX8_setCitedPart_30 : decode cX8_setCitedPart 30 = .ok (.return_, 1) := by decide +kernel
theorem dX8_hasCitation_0 : decode cX8_hasCitation 0 = .ok (.iload_n 1, 1) := by decide +kernel
theorem dX8_hasCitation_1 : decode cX8_hasCitation 1 = .ok (.ifCond .lt 22, 3) := by decide +kernel
theorem dX8_hasCitation_4 : decode cX8_hasCitation 4 = .ok (.iload_n 1, 1) := by decide +kernel
theorem dX8_hasCitation_5 : decode cX8_hasCitation 5 = .ok (.bipush 8, 2) := by decide +kernel
theorem dX8_hasCitation_7 : decode cX8_hasCitation 7 = .ok (.if_icmp .ge 16, 3) := by decide +kernel
theorem dX8_hasCitation_10 : decode cX8_hasCitation 10 = .ok (.aload_n 0, 1) := by decide +kernel
theorem dX8_hasCitation_11 : decode cX8_hasCitation 11 = .ok (.iload_n 1, 1) := by decide +kernel
theorem dX8_hasCitation_12 : decode cX8_hasCitation 12 = .ok (.iconst 2, 1) := by decide +kernel
theorem dX8_hasCitation_13 : decode cX8_hasCitation 13 = .ok (.invokevirtual 89, 3) := by decide +kernel
theorem dX8_hasCitation_16 : decode cX8_hasCitation 16 = .ok (.ifCond .le 7, 3) := by decide +kernel
theorem dX8_hasCitation_19 : decode cX8_hasCitation 19 = .ok (.iconst 1, 1) := by decide +kernel
theorem dX8_hasCitation_20 : decode cX8_hasCitation 20 = .ok (.goto 4, 3) := by decide +kernel
theorem dX8_hasCitation_23 : decode cX8_hasCitation 23 = .ok (.iconst 0, 1) := by decide +kernel
theorem dX8_hasCitation_24 : decode cX8_hasCitation 24 = .ok (.ireturn, 1) := by decide +kernel
theorem dX8_putCitation_0 : decode cX8_putCitation 0 = .ok (.aload_n 0, 1) := by decide +kernel
theorem dX8_putCitation_1 : decode cX8_putCitation 1 = .ok (.iload_n 1, 1) := by decide +kernel
theorem dX8_putCitation_2 : decode cX8_putCitation 2 = .ok (.iconst 0, 1) := by decide +kernel
theorem dX8_putCitation_3 : decode cX8_putCitation 3 = .ok (.iload_n 2, 1) := by decide +kernel
theorem dX8_putCitation_4 : decode cX8_putCitation 4 = .ok (.invokevirtual 93, 3) := by decide +kernel
theorem dX8_putCitation_7 : decode cX8_putCitation 7 = .ok (.aload_n 0, 1) := by decide +kernel
theorem dX8_putCitation_8 : decode cX8_putCitation 8 = .ok (.iload_n 1, 1) := by decide +kernel
theorem dX8_putCitation_9 : decode cX8_putCitation 9 = .ok (.iconst 1, 1) := by decide +kernel
theorem dX8_putCitation_10 : decode cX8_putCitation 10 = .ok (.iload_n 3, 1) := by decide +kernel
theorem dX8_putCitation_11 : decode cX8_putCitation 11 = .ok (.invokevirtual 93, 3) := by decide +kernel
theorem dX8_putCitation_14 : decode cX8_putCitation 14 = .ok (.aload_n 0, 1) := by decide +kernel
theorem dX8_putCitation_15 : decode cX8_putCitation 15 = .ok (.iload_n 1, 1) := by decide +kernel
theorem dX8_putCitation_16 : decode cX8_putCitation 16 = .ok (.iconst 2, 1) := by decide +kernel
theorem dX8_putCitation_17 : decode cX8_putCitation 17 = .ok (.iload 4, 2) := by decide +kernel
theorem dX8_putCitation_19 : decode cX8_putCitation 19 = .ok (.invokevirtual 93, 3) := by decide +kernel
theorem dX8_putCitation_22 : decode cX8_putCitation 22 = .ok (.aload_n 0, 1) := by decide +kernel
theorem dX8_putCitation_23 : decode cX8_putCitation 23 = .ok (.iload_n 1, 1) := by decide +kernel
theorem dX8_putCitation_24 : decode cX8_putCitation 24 = .ok (.iconst 3, 1) := by decide +kernel
theorem dX8_putCitation_25 : decode cX8_putCitation 25 = .ok (.iload 5, 2) := by decide +kernel
theorem dX8_putCitation_27 : decode cX8_putCitation 27 = .ok (.invokevirtual 93, 3) := by decide +kernel
theorem dX8_putCitation_30 : decode cX8_putCitation 30 = .ok (.return_, 1) := by decide +kernel
theorem dX8_removeCitation_0 : decode cX8_removeCitation 0 = .ok (.aload_n 0, 1) := by decide +kernel
theorem dX8_removeCitation_1 : decode cX8_removeCitation 1 = .ok (.iload_n 1, 1) := by decide +kernel
theorem dX8_removeCitation_2 : decode cX8_removeCitation 2 = .ok (.iconst 2, 1) := by decide +kernel
theorem dX8_removeCitation_3 : decode cX8_removeCitation 3 = .ok (.iconst 0, 1) := by decide +kernel
theorem dX8_removeCitation_4 : decode cX8_removeCitation 4 = .ok (.invokevirtual 93, 3) := by decide +kernel
theorem dX8_removeCitation_7 : decode cX8_removeCitation 7 = .ok (.return_, 1) := by decide +kernel
theorem dX8_citations_0 : decode cX8_citations 0 = .ok (.iconst 0, 1) := by decide +kernel
theorem dX8_citations_1 : decode cX8_citations 1 = .ok (.istore_n 1, 1) := by decide +kernel
theorem dX8_citations_2 : decode cX8_citations 2 = .ok (.iconst 0, 1) := by decide +kernel
theorem dX8_citations_3 : decode cX8_citations 3 = .ok (.istore_n 2, 1) := by decide +kernel
theorem dX8_citations_4 : decode cX8_citations 4 = .ok (.iload_n 2, 1) := by decide +kernel
theorem dX8_citations_5 : decode cX8_citations 5 = .ok (.bipush 8, 2) := by decide +kernel
theorem dX8_citations_7 : decode cX8_citations 7 = .ok (.if_icmp .ge 20, 3) := by decide +kernel
theorem dX8_citations_10 : decode cX8_citations 10 = .ok (.aload_n 0, 1) := by decide +kernel
theorem dX8_citations_11 : decode cX8_citations 11 = .ok (.iload_n 2, 1) := by decide +kernel
theorem dX8_citations_12 : decode cX8_citations 12 = .ok (.invokevirtual 97, 3) := by decide +kernel
theorem dX8_citations_15 : decode cX8_citations 15 = .ok (.ifCond .eq 6, 3) := by decide +kernel
theorem dX8_citations_18 : decode cX8_citations 18 = .ok (.iinc 1 1, 3) := by decide +kernel
theorem dX8_citations_21 : decode cX8_citations 21 = .ok (.iinc 2 1, 3) := by decide +kernel
theorem dX8_citations_24 : decode cX8_citations 24 = .ok (.goto (-20), 3) := by decide +kernel
theorem dX8_citations_27 : decode cX8_citations 27 = .ok (.iload_n 1, 1) := by decide +kernel
theorem dX8_citations_28 : decode cX8_citations 28 = .ok (.ireturn, 1) := by decide +kernel
theorem dX8_putSeen_0 : decode cX8_putSeen 0 = .ok (.aload_n 0, 1) := by decide +kernel
theorem dX8_putSeen_1 : decode cX8_putSeen 1 = .ok (.getfield 40, 3) := by decide +kernel
theorem dX8_putSeen_4 : decode cX8_putSeen 4 = .ok (.ifCond .lt 27, 3) := by decide +kernel
theorem dX8_putSeen_7 : decode cX8_putSeen 7 = .ok (.aload_n 0, 1) := by decide +kernel
theorem dX8_putSeen_8 : decode cX8_putSeen 8 = .ok (.getfield 40, 3) := by decide +kernel
theorem dX8_putSeen_11 : decode cX8_putSeen 11 = .ok (.aload_n 0, 1) := by decide +kernel
theorem dX8_putSeen_12 : decode cX8_putSeen 12 = .ok (.getfield 21, 3) := by decide +kernel
theorem dX8_putSeen_15 : decode cX8_putSeen 15 = .ok (.arraylength, 1) := by decide +kernel
theorem dX8_putSeen_16 : decode cX8_putSeen 16 = .ok (.if_icmp .ge 15, 3) := by decide +kernel
theorem dX8_putSeen_19 : decode cX8_putSeen 19 = .ok (.aload_n 0, 1) := by decide +kernel
theorem dX8_putSeen_20 : decode cX8_putSeen 20 = .ok (.getfield 40, 3) := by decide +kernel
theorem dX8_putSeen_23 : decode cX8_putSeen 23 = .ok (.aload_n 0, 1) := by decide +kernel
theorem dX8_putSeen_24 : decode cX8_putSeen 24 = .ok (.getfield 24, 3) := by decide +kernel
theorem dX8_putSeen_27 : decode cX8_putSeen 27 = .ok (.arraylength, 1) := by decide +kernel
theorem dX8_putSeen_28 : decode cX8_putSeen 28 = .ok (.if_icmp .lt 4, 3) := by decide +kernel
theorem dX8_putSeen_31 : decode cX8_putSeen 31 = .ok (.return_, 1) := by decide +kernel
theorem dX8_putSeen_32 : decode cX8_putSeen 32 = .ok (.aload_n 0, 1) := by decide +kernel
theorem dX8_putSeen_33 : decode cX8_putSeen 33 = .ok (.getfield 21, 3) := by decide +kernel
theorem dX8_putSeen_36 : decode cX8_putSeen 36 = .ok (.aload_n 0, 1) := by decide +kernel
theorem dX8_putSeen_37 : decode cX8_putSeen 37 = .ok (.getfield 40, 3) := by decide +kernel
theorem dX8_putSeen_40 : decode cX8_putSeen 40 = .ok (.iload_n 1, 1) := by decide +kernel
theorem dX8_putSeen_41 : decode cX8_putSeen 41 = .ok (.iastore, 1) := by decide +kernel
theorem dX8_putSeen_42 : decode cX8_putSeen 42 = .ok (.aload_n 0, 1) := by decide +kernel
theorem dX8_putSeen_43 : decode cX8_putSeen 43 = .ok (.getfield 24, 3) := by decide +kernel
theorem dX8_putSeen_46 : decode cX8_putSeen 46 = .ok (.aload_n 0, 1) := by decide +kernel
theorem dX8_putSeen_47 : decode cX8_putSeen 47 = .ok (.getfield 40, 3) := by decide +kernel
theorem dX8_putSeen_50 : decode cX8_putSeen 50 = .ok (.iload_n 2, 1) := by decide +kernel
theorem dX8_putSeen_51 : decode cX8_putSeen 51 = .ok (.iastore, 1) := by decide +kernel
theorem dX8_putSeen_52 : decode cX8_putSeen 52 = .ok (.aload_n 0, 1) := by decide +kernel
theorem dX8_putSeen_53 : decode cX8_putSeen 53 = .ok (.dup, 1) := by decide +kernel
theorem dX8_putSeen_54 : decode cX8_putSeen 54 = .ok (.getfield 40, 3) := by decide +kernel
theorem dX8_putSeen_57 : decode cX8_putSeen 57 = .ok (.iconst 1, 1) := by decide +kernel
theorem dX8_putSeen_58 : decode cX8_putSeen 58 = .ok (.iadd, 1) := by decide +kernel
theorem dX8_putSeen_59 : decode cX8_putSeen 59 = .ok (.putfield 40, 3) := by decide +kernel
theorem dX8_putSeen_62 : decode cX8_putSeen 62 = .ok (.return_, 1) := by decide +kernel
theorem dX8_seenNumber_0 : decode cX8_seenNumber 0 = .ok (.iload_n 1, 1) := by decide +kernel
theorem dX8_seenNumber_1 : decode cX8_seenNumber 1 = .ok (.ifCond .lt 12, 3) := by decide +kernel
theorem dX8_seenNumber_4 : decode cX8_seenNumber 4 = .ok (.iload_n 1, 1) := by decide +kernel
theorem dX8_seenNumber_5 : decode cX8_seenNumber 5 = .ok (.aload_n 0, 1) := by decide +kernel
theorem dX8_seenNumber_6 : decode cX8_seenNumber 6 = .ok (.getfield 21, 3) := by decide +kernel
theorem dX8_seenNumber_9 : decode cX8_seenNumber 9 = .ok (.arraylength, 1) := by decide +kernel
theorem dX8_seenNumber_10 : decode cX8_seenNumber 10 = .ok (.if_icmp .lt 7, 3) := by decide +kernel
theorem dX8_seenNumber_13 : decode cX8_seenNumber 13 = .ok (.iconst 0, 1) := by decide +kernel
theorem dX8_seenNumber_14 : decode cX8_seenNumber 14 = .ok (.goto 9, 3) := by decide +kernel
theorem dX8_seenNumber_17 : decode cX8_seenNumber 17 = .ok (.aload_n 0, 1) := by decide +kernel
theorem dX8_seenNumber_18 : decode cX8_seenNumber 18 = .ok (.getfield 21, 3) := by decide +kernel
theorem dX8_seenNumber_21 : decode cX8_seenNumber 21 = .ok (.iload_n 1, 1) := by decide +kernel
theorem dX8_seenNumber_22 : decode cX8_seenNumber 22 = .ok (.iaload, 1) := by decide +kernel
theorem dX8_seenNumber_23 : decode cX8_seenNumber 23 = .ok (.ireturn, 1) := by decide +kernel
theorem dX8_seenLine_0 : decode cX8_seenLine 0 = .ok (.iload_n 1, 1) := by decide +kernel
theorem dX8_seenLine_1 : decode cX8_seenLine 1 = .ok (.ifCond .lt 12, 3) := by decide +kernel
theorem dX8_seenLine_4 : decode cX8_seenLine 4 = .ok (.iload_n 1, 1) := by decide +kernel
theorem dX8_seenLine_5 : decode cX8_seenLine 5 = .ok (.aload_n 0, 1) := by decide +kernel
theorem dX8_seenLine_6 : decode cX8_seenLine 6 = .ok (.getfield 24, 3) := by decide +kernel
theorem dX8_seenLine_9 : decode cX8_seenLine 9 = .ok (.arraylength, 1) := by decide +kernel
theorem dX8_seenLine_10 : decode cX8_seenLine 10 = .ok (.if_icmp .lt 7, 3) := by decide +kernel
theorem dX8_seenLine_13 : decode cX8_seenLine 13 = .ok (.iconst (-1), 1) := by decide +kernel
theorem dX8_seenLine_14 : decode cX8_seenLine 14 = .ok (.goto 9, 3) := by decide +kernel
theorem dX8_seenLine_17 : decode cX8_seenLine 17 = .ok (.aload_n 0, 1) := by decide +kernel
theorem dX8_seenLine_18 : decode cX8_seenLine 18 = .ok (.getfield 24, 3) := by decide +kernel
theorem dX8_seenLine_21 : decode cX8_seenLine 21 = .ok (.iload_n 1, 1) := by decide +kernel
theorem dX8_seenLine_22 : decode cX8_seenLine 22 = .ok (.iaload, 1) := by decide +kernel
theorem dX8_seenLine_23 : decode cX8_seenLine 23 = .ok (.ireturn, 1) := by decide +kernel
def w_X8_lines : List Cond := .code yX8_lines cX8_lines 1 (some .int) :: ([.fieldLink RX8 33 "LineCites$Work" "lines" "I"] ++ wsX80)
set_option maxHeartbeats 4000000 in
set_option maxRecDepth 100000 in
theorem c_X8_lines (l : Launch) (D : va_G) (h0 : Nat) (b_sc : Nat) (b_sp : Nat) (b_cp : Nat) (b_sn : Nat) (b_sl : Nat) (i_li : Int32) (i_ed : Int32) (i_se : Int32) : Met l yX8_lines w_X8_lines ({ frames := 0, cells := 0, slots := 0, locals := 0 }) (va_Pc [.ref h0] (fun U => va_P D vwCl [(h0, .inr (8, [.ref b_sc, .ref b_sp, .ref b_cp, .ref b_sn, .ref b_sl, .int i_li, .int i_ed, .int i_se]))] U.heap ∧ va_K D vwCl [] U)) (va_Qi (fun (r : Int32) (_ : Unit) => r = i_li) (fun _ _ => True) (fun _ => False)) 0 0 (fun _ => False) := by
  refine Met.ofW (cc := cX8_lines) (maxL := 1) (ret := (some .int)) (by decide) rfl ?_
  intro p e s m args below meth c s₁ B hml hv
  obtain ⟨rfl, hP, hK⟩ := hv
  have hx := B.exec
  have hb := B.bytes
  have hr := B.returns
  have hts := atoms_spec (ws := w_X8_lines) B.pre
  have hown : s.vm.findClass RX8 = some m.cls := findClass_of_methodNamed B.named
  have hlocks := B.notSynchronized
  have hS : va_S (fun _ : Nat => False) s.heap s.heap [] := va_S.rf
  have hP : va_P D vwCl [(h0, .inr (8, [.ref b_sc, .ref b_sp, .ref b_cp, .ref b_sn, .ref b_sl, .int i_li, .int i_ed, .int i_se]))] s.heap := hP
  have hl := lv_entry ([.ref h0]) (n := 1) (Nat.le_of_ble_eq_true rfl)
  rw [lg_entry_eq]
  generalize (lg_sl ([.ref h0]) ++ List.replicate (1 - (lg_sl ([.ref h0])).length) Slot.unset).toArray = ls at hl ⊢
  have hl : lv_has ls 1 [(0, .ref h0)] := hl
  obtain ⟨H, hHe⟩ : ∃ H : Heap, H = s.heap := ⟨_, rfl⟩
  rw [← hHe] at hP
  have hS : va_S (fun _ : Nat => False) s.heap H [] := by rw [hHe]; exact hS
  refine pw_heap hHe ?_
  refine lv_aload_n hx hb dX8_lines_0 rfl (lv_at hl 0 rfl) ?_
  refine va_get (D := D) (ci := 8) (v := .int i_li) (C := RX8) (T := TX8) (N := 8) hx hb hts (fun _ h => List.mem_cons_of_mem _ (List.mem_append_right _ h)) hown hK hP 0 rfl rfl 5 (by decide) (hts (.fieldLink RX8 33 "LineCites$Work" "lines" "I") (List.mem_of_getElem? (i := 1) rfl)) (fun _ h9 => h9) rfl dX8_lines_1 ?_
  exact W.iret (v := i_li) hx hb hr (fun t ht hW => ⟨⟨i_li, (), rfl, rfl, trivial⟩, hS.F ht⟩) hS.2.2 dX8_lines_4
def w_X8_editions : List Cond := .code yX8_editions cX8_editions 1 (some .int) :: ([.fieldLink RX8 37 "LineCites$Work" "editions" "I"] ++ wsX80)
set_option maxHeartbeats 4000000 in
set_option maxRecDepth 100000 in
theorem c_X8_editions (l : Launch) (D : va_G) (h0 : Nat) (b_sc : Nat) (b_sp : Nat) (b_cp : Nat) (b_sn : Nat) (b_sl : Nat) (i_li : Int32) (i_ed : Int32) (i_se : Int32) : Met l yX8_editions w_X8_editions ({ frames := 0, cells := 0, slots := 0, locals := 0 }) (va_Pc [.ref h0] (fun U => va_P D vwCl [(h0, .inr (8, [.ref b_sc, .ref b_sp, .ref b_cp, .ref b_sn, .ref b_sl, .int i_li, .int i_ed, .int i_se]))] U.heap ∧ va_K D vwCl [] U)) (va_Qi (fun (r : Int32) (_ : Unit) => r = i_ed) (fun _ _ => True) (fun _ => False)) 0 0 (fun _ => False) := by
  refine Met.ofW (cc := cX8_editions) (maxL := 1) (ret := (some .int)) (by decide) rfl ?_
  intro p e s m args below meth c s₁ B hml hv
  obtain ⟨rfl, hP, hK⟩ := hv
  have hx := B.exec
  have hb := B.bytes
  have hr := B.returns
  have hts := atoms_spec (ws := w_X8_editions) B.pre
  have hown : s.vm.findClass RX8 = some m.cls := findClass_of_methodNamed B.named
  have hlocks := B.notSynchronized
  have hS : va_S (fun _ : Nat => False) s.heap s.heap [] := va_S.rf
  have hP : va_P D vwCl [(h0, .inr (8, [.ref b_sc, .ref b_sp, .ref b_cp, .ref b_sn, .ref b_sl, .int i_li, .int i_ed, .int i_se]))] s.heap := hP
  have hl := lv_entry ([.ref h0]) (n := 1) (Nat.le_of_ble_eq_true rfl)
  rw [lg_entry_eq]
  generalize (lg_sl ([.ref h0]) ++ List.replicate (1 - (lg_sl ([.ref h0])).length) Slot.unset).toArray = ls at hl ⊢
  have hl : lv_has ls 1 [(0, .ref h0)] := hl
  obtain ⟨H, hHe⟩ : ∃ H : Heap, H = s.heap := ⟨_, rfl⟩
  rw [← hHe] at hP
  have hS : va_S (fun _ : Nat => False) s.heap H [] := by rw [hHe]; exact hS
  refine pw_heap hHe ?_
  refine lv_aload_n hx hb dX8_editions_0 rfl (lv_at hl 0 rfl) ?_
  refine va_get (D := D) (ci := 8) (v := .int i_ed) (C := RX8) (T := TX8) (N := 8) hx hb hts (fun _ h => List.mem_cons_of_mem _ (List.mem_append_right _ h)) hown hK hP 0 rfl rfl 6 (by decide) (hts (.fieldLink RX8 37 "LineCites$Work" "editions" "I") (List.mem_of_getElem? (i := 1) rfl)) (fun _ h9 => h9) rfl dX8_editions_1 ?_
  exact W.iret (v := i_ed) hx hb hr (fun t ht hW => ⟨⟨i_ed, (), rfl, rfl, trivial⟩, hS.F ht⟩) hS.2.2 dX8_editions_4
def w_X8_seen : List Cond := .code yX8_seen cX8_seen 1 (some .int) :: ([.fieldLink RX8 40 "LineCites$Work" "seen" "I"] ++ wsX80)
set_option maxHeartbeats 4000000 in
set_option maxRecDepth 100000 in
theorem c_X8_seen (l : Launch) (D : va_G) (h0 : Nat) (b_sc : Nat) (b_sp : Nat) (b_cp : Nat) (b_sn : Nat) (b_sl : Nat) (i_li : Int32) (i_ed : Int32) (i_se : Int32) : Met l yX8_seen w_X8_seen ({ frames := 0, cells := 0, slots := 0, locals := 0 }) (va_Pc [.ref h0] (fun U => va_P D vwCl [(h0, .inr (8, [.ref b_sc, .ref b_sp, .ref b_cp, .ref b_sn, .ref b_sl, .int i_li, .int i_ed, .int i_se]))] U.heap ∧ va_K D vwCl [] U)) (va_Qi (fun (r : Int32) (_ : Unit) => r = i_se) (fun _ _ => True) (fun _ => False)) 0 0 (fun _ => False) := by
  refine Met.ofW (cc := cX8_seen) (maxL := 1) (ret := (some .int)) (by decide) rfl ?_
  intro p e s m args below meth c s₁ B hml hv
  obtain ⟨rfl, hP, hK⟩ := hv
  have hx := B.exec
  have hb := B.bytes
  have hr := B.returns
  have hts := atoms_spec (ws := w_X8_seen) B.pre
  have hown : s.vm.findClass RX8 = some m.cls := findClass_of_methodNamed B.named
  have hlocks := B.notSynchronized
  have hS : va_S (fun _ : Nat => False) s.heap s.heap [] := va_S.rf
  have hP : va_P D vwCl [(h0, .inr (8, [.ref b_sc, .ref b_sp, .ref b_cp, .ref b_sn, .ref b_sl, .int i_li, .int i_ed, .int i_se]))] s.heap := hP
  have hl := lv_entry ([.ref h0]) (n := 1) (Nat.le_of_ble_eq_true rfl)
  rw [lg_entry_eq]
  generalize (lg_sl ([.ref h0]) ++ List.replicate (1 - (lg_sl ([.ref h0])).length) Slot.unset).toArray = ls at hl ⊢
  have hl : lv_has ls 1 [(0, .ref h0)] := hl
  obtain ⟨H, hHe⟩ : ∃ H : Heap, H = s.heap := ⟨_, rfl⟩
  rw [← hHe] at hP
  have hS : va_S (fun _ : Nat => False) s.heap H [] := by rw [hHe]; exact hS
  refine pw_heap hHe ?_
  refine lv_aload_n hx hb dX8_seen_0 rfl (lv_at hl 0 rfl) ?_
  refine va_get (D := D) (ci := 8) (v := .int i_se) (C := RX8) (T := TX8) (N := 8) hx hb hts (fun _ h => List.mem_cons_of_mem _ (List.mem_append_right _ h)) hown hK hP 0 rfl rfl 7 (by decide) (hts (.fieldLink RX8 40 "LineCites$Work" "seen" "I") (List.mem_of_getElem? (i := 1) rfl)) (fun _ h9 => h9) rfl dX8_seen_1 ?_
  exact W.iret (v := i_se) hx hb hr (fun t ht hW => ⟨⟨i_se, (), rfl, rfl, trivial⟩, hS.F ht⟩) hS.2.2 dX8_seen_4
def w_X8_hasLine : List Cond := .code yX8_hasLine cX8_hasLine 2 (some .boolean) :: ([.fieldLink RX8 33 "LineCites$Work" "lines" "I"] ++ wsX80)
set_option maxHeartbeats 4000000 in
set_option maxRecDepth 100000 in
theorem c_X8_hasLine (l : Launch) (D : va_G) (h0 : Nat) (i_n : Int32) (b_sc : Nat) (b_sp : Nat) (b_cp : Nat) (b_sn : Nat) (b_sl : Nat) (i_li : Int32) (i_ed : Int32) (i_se : Int32) : Met l yX8_hasLine w_X8_hasLine ({ frames := 0, cells := 0, slots := 0, locals := 0 }) (va_Pc [.ref h0, .int i_n] (fun U => va_P D vwCl [(h0, .inr (8, [.ref b_sc, .ref b_sp, .ref b_cp, .ref b_sn, .ref b_sl, .int i_li, .int i_ed, .int i_se]))] U.heap ∧ va_K D vwCl [] U)) (va_Qi (fun (r : Int32) (_ : Unit) => (r = 0 ∨ r = 1) ∧ True) (fun _ _ => True) (fun _ => False)) 0 0 (fun _ => False) := by
  refine Met.ofW (cc := cX8_hasLine) (maxL := 2) (ret := (some .boolean)) (by decide) rfl ?_
  intro p e s m args below meth c s₁ B hml hv
  obtain ⟨rfl, hP, hK⟩ := hv
  have hx := B.exec
  have hb := B.bytes
  have hr := B.returns
  have hts := atoms_spec (ws := w_X8_hasLine) B.pre
  have hown : s.vm.findClass RX8 = some m.cls := findClass_of_methodNamed B.named
  have hlocks := B.notSynchronized
  have hS : va_S (fun _ : Nat => False) s.heap s.heap [] := va_S.rf
  have hP : va_P D vwCl [(h0, .inr (8, [.ref b_sc, .ref b_sp, .ref b_cp, .ref b_sn, .ref b_sl, .int i_li, .int i_ed, .int i_se]))] s.heap := hP
  have hl := lv_entry ([.ref h0, .int i_n]) (n := 2) (Nat.le_of_ble_eq_true rfl)
  rw [lg_entry_eq]
  generalize (lg_sl ([.ref h0, .int i_n]) ++ List.replicate (2 - (lg_sl ([.ref h0, .int i_n])).length) Slot.unset).toArray = ls at hl ⊢
  have hl : lv_has ls 2 [(0, .ref h0), (1, .int i_n)] := hl
  obtain ⟨H, hHe⟩ : ∃ H : Heap, H = s.heap := ⟨_, rfl⟩
  rw [← hHe] at hP
  have hS : va_S (fun _ : Nat => False) s.heap H [] := by rw [hHe]; exact hS
  refine pw_heap hHe ?_
  refine lv_iload_n hx hb dX8_hasLine_0 rfl (lv_at hl 1 rfl) ?_
  refine lv_if_lt (tgt := 16) hx hb dX8_hasLine_1 (by decide) (fun c1 => ?_) (fun c1 => ?_)
  · have nc1 : i_n.toInt < 0 := pw_lt c1 rfl (by decide)
    refine lv_iconst (v := 0) hx hb dX8_hasLine_16 (by decide) ?_
    exact W.zret (v := 0) (ty := .boolean) hx hb hr rfl (fun t ht hW => ⟨⟨0, (), rfl, ⟨Or.inl rfl, trivial⟩, trivial⟩, hS.F ht⟩) hS.2.2 dX8_hasLine_17
  · have nc1 : 0 ≤ i_n.toInt := pw_nlt c1 rfl (by decide)
    refine lv_iload_n hx hb dX8_hasLine_4 rfl (lv_at hl 1 rfl) ?_
    refine lv_aload_n hx hb dX8_hasLine_5 rfl (lv_at hl 0 rfl) ?_
    refine va_get (D := D) (ci := 8) (v := .int i_li) (C := RX8) (T := TX8) (N := 8) hx hb hts (fun _ h => List.mem_cons_of_mem _ (List.mem_append_right _ h)) hown hK hP 0 rfl rfl 5 (by decide) (hts (.fieldLink RX8 33 "LineCites$Work" "lines" "I") (List.mem_of_getElem? (i := 1) rfl)) (fun _ h9 => h9) rfl dX8_hasLine_6 ?_
    refine lv_icmp_ge (tgt := 16) hx hb dX8_hasLine_9 (by decide) (fun c2 => ?_) (fun c2 => ?_)
    · have nc2 : i_li.toInt ≤ i_n.toInt := pw_le c2 rfl rfl
      have mc2i_n := pw_max i_n
      have mc2i_li := pw_max i_li
      refine lv_iconst (v := 0) hx hb dX8_hasLine_16 (by decide) ?_
      exact W.zret (v := 0) (ty := .boolean) hx hb hr rfl (fun t ht hW => ⟨⟨0, (), rfl, ⟨Or.inl rfl, trivial⟩, trivial⟩, hS.F ht⟩) hS.2.2 dX8_hasLine_17
    · have nc2 : i_n.toInt < i_li.toInt := pw_nle c2 rfl rfl
      have mc2i_n := pw_max i_n
      have mc2i_li := pw_max i_li
      refine lv_iconst (v := 1) hx hb dX8_hasLine_12 (by decide) ?_
      refine lv_goto (tgt := 17) hx hb dX8_hasLine_13 (by decide) ?_
      exact W.zret (v := 1) (ty := .boolean) hx hb hr rfl (fun t ht hW => ⟨⟨1, (), rfl, ⟨Or.inr rfl, trivial⟩, trivial⟩, hS.F ht⟩) hS.2.2 dX8_hasLine_17
def w_X8_hasEdition : List Cond := .code yX8_hasEdition cX8_hasEdition 2 (some .boolean) :: ([.fieldLink RX8 37 "LineCites$Work" "editions" "I", .fieldLink RX8 9 "LineCites$Work" "stretchCounts" "[I"] ++ wsX80)
set_option maxHeartbeats 4000000 in
set_option maxRecDepth 100000 in
theorem c_X8_hasEdition (l : Launch) (D : va_G) (h0 : Nat) (i_e : Int32) (b_sc : Nat) (b_sp : Nat) (b_cp : Nat) (b_sn : Nat) (b_sl : Nat) (i_li : Int32) (i_ed : Int32) (i_se : Int32) (kI : ClassId) (g_b_sc : Nat → Int32) : Met l yX8_hasEdition w_X8_hasEdition ({ frames := 0, cells := 0, slots := 0, locals := 0 }) (va_Pc [.ref h0, .int i_e] (fun U => va_P D vwCl [(h0, .inr (8, [.ref b_sc, .ref b_sp, .ref b_cp, .ref b_sn, .ref b_sl, .int i_li, .int i_ed, .int i_se])), (b_sc, .inl (kI, 5, .inl g_b_sc))] U.heap ∧ va_K D vwCl [(kI, .int)] U)) (va_Qi (fun (r : Int32) (_ : Unit) => (r = 0 ∨ r = 1) ∧ (r.toInt = 0 ∨ (0 ≤ i_e.toInt ∧ i_e.toInt ≤ 4))) (fun _ _ => True) (fun _ => False)) 0 0 (fun _ => False) := by
  refine Met.ofW (cc := cX8_hasEdition) (maxL := 2) (ret := (some .boolean)) (by decide) rfl ?_
  intro p e s m args below meth c s₁ B hml hv
  obtain ⟨rfl, hP, hK⟩ := hv
  have hx := B.exec
  have hb := B.bytes
  have hr := B.returns
  have hts := atoms_spec (ws := w_X8_hasEdition) B.pre
  have hown : s.vm.findClass RX8 = some m.cls := findClass_of_methodNamed B.named
  have hlocks := B.notSynchronized
  have hS : va_S (fun _ : Nat => False) s.heap s.heap [] := va_S.rf
  have hP : va_P D vwCl [(h0, .inr (8, [.ref b_sc, .ref b_sp, .ref b_cp, .ref b_sn, .ref b_sl, .int i_li, .int i_ed, .int i_se])), (b_sc, .inl (kI, 5, .inl g_b_sc))] s.heap := hP
  have hl := lv_entry ([.ref h0, .int i_e]) (n := 2) (Nat.le_of_ble_eq_true rfl)
  rw [lg_entry_eq]
  generalize (lg_sl ([.ref h0, .int i_e]) ++ List.replicate (2 - (lg_sl ([.ref h0, .int i_e])).length) Slot.unset).toArray = ls at hl ⊢
  have hl : lv_has ls 2 [(0, .ref h0), (1, .int i_e)] := hl
  obtain ⟨H, hHe⟩ : ∃ H : Heap, H = s.heap := ⟨_, rfl⟩
  rw [← hHe] at hP
  have hS : va_S (fun _ : Nat => False) s.heap H [] := by rw [hHe]; exact hS
  refine pw_heap hHe ?_
  refine lv_iload_n hx hb dX8_hasEdition_0 rfl (lv_at hl 1 rfl) ?_
  refine lv_if_lt (tgt := 25) hx hb dX8_hasEdition_1 (by decide) (fun c1 => ?_) (fun c1 => ?_)
  · have nc1 : i_e.toInt < 0 := pw_lt c1 rfl (by decide)
    refine lv_iconst (v := 0) hx hb dX8_hasEdition_25 (by decide) ?_
    exact W.zret (v := 0) (ty := .boolean) hx hb hr rfl (fun t ht hW => ⟨⟨0, (), rfl, ⟨Or.inl rfl, (by have hv : (0 : Int32).toInt = 0 := (by decide); omega)⟩, trivial⟩, hS.F ht⟩) hS.2.2 dX8_hasEdition_26
  · have nc1 : 0 ≤ i_e.toInt := pw_nlt c1 rfl (by decide)
    refine lv_iload_n hx hb dX8_hasEdition_4 rfl (lv_at hl 1 rfl) ?_
    refine lv_aload_n hx hb dX8_hasEdition_5 rfl (lv_at hl 0 rfl) ?_
    refine va_get (D := D) (ci := 8) (v := .int i_ed) (C := RX8) (T := TX8) (N := 8) hx hb hts (fun _ h => List.mem_cons_of_mem _ (List.mem_append_right _ h)) hown hK hP 0 rfl rfl 6 (by decide) (hts (.fieldLink RX8 37 "LineCites$Work" "editions" "I") (List.mem_of_getElem? (i := 1) rfl)) (fun _ h9 => h9) rfl dX8_hasEdition_6 ?_
    refine lv_icmp_ge (tgt := 25) hx hb dX8_hasEdition_9 (by decide) (fun c2 => ?_) (fun c2 => ?_)
    · have nc2 : i_ed.toInt ≤ i_e.toInt := pw_le c2 rfl rfl
      have mc2i_e := pw_max i_e
      have mc2i_ed := pw_max i_ed
      refine lv_iconst (v := 0) hx hb dX8_hasEdition_25 (by decide) ?_
      exact W.zret (v := 0) (ty := .boolean) hx hb hr rfl (fun t ht hW => ⟨⟨0, (), rfl, ⟨Or.inl rfl, (by have hv : (0 : Int32).toInt = 0 := (by decide); omega)⟩, trivial⟩, hS.F ht⟩) hS.2.2 dX8_hasEdition_26
    · have nc2 : i_e.toInt < i_ed.toInt := pw_nle c2 rfl rfl
      have mc2i_e := pw_max i_e
      have mc2i_ed := pw_max i_ed
      refine lv_iload_n hx hb dX8_hasEdition_12 rfl (lv_at hl 1 rfl) ?_
      refine lv_aload_n hx hb dX8_hasEdition_13 rfl (lv_at hl 0 rfl) ?_
      refine va_get (D := D) (ci := 8) (v := .ref b_sc) (C := RX8) (T := TX8) (N := 8) hx hb hts (fun _ h => List.mem_cons_of_mem _ (List.mem_append_right _ h)) hown hK hP 0 rfl rfl 0 (by decide) (hts (.fieldLink RX8 9 "LineCites$Work" "stretchCounts" "[I") (List.mem_of_getElem? (i := 2) rfl)) (fun _ h9 => h9) rfl dX8_hasEdition_14 ?_
      refine va_alen (v := 5) hx hb hK hP 1 0 rfl rfl rfl dX8_hasEdition_17 ?_
      refine lv_icmp_ge (tgt := 25) hx hb dX8_hasEdition_18 (by decide) (fun c3 => ?_) (fun c3 => ?_)
      · have nc3 : 5 ≤ i_e.toInt := pw_le c3 (by decide) rfl
        refine lv_iconst (v := 0) hx hb dX8_hasEdition_25 (by decide) ?_
        exact W.zret (v := 0) (ty := .boolean) hx hb hr rfl (fun t ht hW => ⟨⟨0, (), rfl, ⟨Or.inl rfl, (by have hv : (0 : Int32).toInt = 0 := (by decide); omega)⟩, trivial⟩, hS.F ht⟩) hS.2.2 dX8_hasEdition_26
      · have nc3 : i_e.toInt < 5 := pw_nle c3 (by decide) rfl
        refine lv_iconst (v := 1) hx hb dX8_hasEdition_21 (by decide) ?_
        refine lv_goto (tgt := 26) hx hb dX8_hasEdition_22 (by decide) ?_
        exact W.zret (v := 1) (ty := .boolean) hx hb hr rfl (fun t ht hW => ⟨⟨1, (), rfl, ⟨Or.inr rfl, (by have hv : (1 : Int32).toInt = 1 := (by decide); omega)⟩, trivial⟩, hS.F ht⟩) hS.2.2 dX8_hasEdition_26
def w_X8_putEdition : List Cond := .code yX8_putEdition cX8_putEdition 1 (some .boolean) :: ([.fieldLink RX8 37 "LineCites$Work" "editions" "I", .fieldLink RX8 9 "LineCites$Work" "stretchCounts" "[I"] ++ wsX80)
set_option maxHeartbeats 4000000 in
set_option maxRecDepth 100000 in
theorem c_X8_putEdition (l : Launch) (D : va_G) (h0 : Nat) (b_sc : Nat) (b_sp : Nat) (b_cp : Nat) (b_sn : Nat) (b_sl : Nat) (i_li : Int32) (i_ed : Int32) (i_se : Int32) (kI : ClassId) (g_b_sc : Nat → Int32) (sz : Nat) : Met l yX8_putEdition w_X8_putEdition ({ frames := 0, cells := 0, slots := 0, locals := 0 }) (va_Pc [.ref h0] (fun U => U.heap.size = sz ∧ va_P D vwCl [(h0, .inr (8, [.ref b_sc, .ref b_sp, .ref b_cp, .ref b_sn, .ref b_sl, .int i_li, .int i_ed, .int i_se])), (b_sc, .inl (kI, 5, .inl g_b_sc))] U.heap ∧ va_K D vwCl [(kI, .int)] U ∧ va_D (fun _ => True) [(h0, .inr (8, [.ref b_sc, .ref b_sp, .ref b_cp, .ref b_sn, .ref b_sl, .int i_li, .int i_ed, .int i_se])), (b_sc, .inl (kI, 5, .inl g_b_sc))])) (va_Qi (fun (r : Int32) (_ : Unit) => (r = 0 ∨ r = 1) ∧ True) (fun (_ : Unit) t => ∃ (n_ed : Int32) (n_sc : Nat → Int32), va_P D vwCl [(h0, .inr (8, [.ref b_sc, .ref b_sp, .ref b_cp, .ref b_sn, .ref b_sl, .int i_li, .int n_ed, .int i_se])), (b_sc, .inl (kI, 5, .inl n_sc))] t.heap ∧ va_K D vwCl [(kI, .int)] t ∧ va_D (va_A [(h0, .inr (8, [.ref b_sc, .ref b_sp, .ref b_cp, .ref b_sn, .ref b_sl, .int i_li, .int i_ed, .int i_se])), (b_sc, .inl (kI, 5, .inl g_b_sc))] sz) [(h0, .inr (8, [.ref b_sc, .ref b_sp, .ref b_cp, .ref b_sn, .ref b_sl, .int i_li, .int n_ed, .int i_se])), (b_sc, .inl (kI, 5, .inl n_sc))]) (va_A [(h0, .inr (8, [.ref b_sc, .ref b_sp, .ref b_cp, .ref b_sn, .ref b_sl, .int i_li, .int i_ed, .int i_se])), (b_sc, .inl (kI, 5, .inl g_b_sc))] sz)) 0 0 (va_A [(h0, .inr (8, [.ref b_sc, .ref b_sp, .ref b_cp, .ref b_sn, .ref b_sl, .int i_li, .int i_ed, .int i_se])), (b_sc, .inl (kI, 5, .inl g_b_sc))] sz) := by
  refine Met.ofW (cc := cX8_putEdition) (maxL := 1) (ret := (some .boolean)) (by decide) rfl ?_
  intro p e s m args below meth c s₁ B hml hv
  obtain ⟨rfl, hsz, hP, hK, hD0⟩ := hv
  have hx := B.exec
  have hb := B.bytes
  have hr := B.returns
  have hts := atoms_spec (ws := w_X8_putEdition) B.pre
  have hown : s.vm.findClass RX8 = some m.cls := findClass_of_methodNamed B.named
  have hlocks := B.notSynchronized
  subst hsz
  have hD := hD0.self (sz := s.heap.size)
  generalize hAe : va_A [(h0, .inr (8, [.ref b_sc, .ref b_sp, .ref b_cp, .ref b_sn, .ref b_sl, .int i_li, .int i_ed, .int i_se])), (b_sc, .inl (kI, 5, .inl g_b_sc))] s.heap.size = A at hD ⊢
  have hA : ∀ q : Nat, s.heap.size ≤ q → A q := fun q h => by rw [← hAe]; exact Or.inr h
  have hS : va_S A s.heap s.heap [] := va_S.rf
  have hP : va_P D vwCl [(h0, .inr (8, [.ref b_sc, .ref b_sp, .ref b_cp, .ref b_sn, .ref b_sl, .int i_li, .int i_ed, .int i_se])), (b_sc, .inl (kI, 5, .inl g_b_sc))] s.heap := hP
  have hl := lv_entry ([.ref h0]) (n := 1) (Nat.le_of_ble_eq_true rfl)
  rw [lg_entry_eq]
  generalize (lg_sl ([.ref h0]) ++ List.replicate (1 - (lg_sl ([.ref h0])).length) Slot.unset).toArray = ls at hl ⊢
  have hl : lv_has ls 1 [(0, .ref h0)] := hl
  obtain ⟨H, hHe⟩ : ∃ H : Heap, H = s.heap := ⟨_, rfl⟩
  rw [← hHe] at hP
  have hS : va_S A s.heap H [] := by rw [hHe]; exact hS
  refine pw_heap hHe ?_
  refine lv_aload_n hx hb dX8_putEdition_0 rfl (lv_at hl 0 rfl) ?_
  refine va_get (D := D) (ci := 8) (v := .int i_ed) (C := RX8) (T := TX8) (N := 8) hx hb hts (fun _ h => List.mem_cons_of_mem _ (List.mem_append_right _ h)) hown hK hP 0 rfl rfl 6 (by decide) (hts (.fieldLink RX8 37 "LineCites$Work" "editions" "I") (List.mem_of_getElem? (i := 1) rfl)) (fun _ h9 => h9) rfl dX8_putEdition_1 ?_
  refine lv_if_lt (tgt := 19) hx hb dX8_putEdition_4 (by decide) (fun c1 => ?_) (fun c1 => ?_)
  · have nc1 : i_ed.toInt < 0 := pw_lt c1 rfl (by decide)
    refine lv_iconst (v := 0) hx hb dX8_putEdition_19 (by decide) ?_
    have hP9 := hP.sub (ws' := [(h0, .inr (8, [.ref b_sc, .ref b_sp, .ref b_cp, .ref b_sn, .ref b_sl, .int i_li, .int i_ed, .int i_se])), (b_sc, .inl (kI, 5, .inl g_b_sc))]) [0, 1] rfl
    have hD9 := hD.sub (ws' := [(h0, .inr (8, [.ref b_sc, .ref b_sp, .ref b_cp, .ref b_sn, .ref b_sl, .int i_li, .int i_ed, .int i_se])), (b_sc, .inl (kI, 5, .inl g_b_sc))]) [0, 1] (by decide) rfl
    have hK9 := hK.sub (tys' := [(kI, .int)]) [0] rfl
    refine W.widen (k := 0) (n := 0) (Nat.le_of_ble_eq_true rfl) (Nat.le_of_ble_eq_true rfl) ?_
    exact W.zret (v := 0) (ty := .boolean) hx hb hr rfl (fun t ht hW => ⟨⟨0, (), rfl, ⟨Or.inl rfl, trivial⟩, i_ed, g_b_sc, by rw [ht]; exact hP9, va_K.moved hW.alike hK9, hD9⟩, hS.F ht⟩) hS.2.2 dX8_putEdition_20
  · have nc1 : 0 ≤ i_ed.toInt := pw_nlt c1 rfl (by decide)
    refine lv_aload_n hx hb dX8_putEdition_7 rfl (lv_at hl 0 rfl) ?_
    refine va_get (D := D) (ci := 8) (v := .int i_ed) (C := RX8) (T := TX8) (N := 8) hx hb hts (fun _ h => List.mem_cons_of_mem _ (List.mem_append_right _ h)) hown hK hP 0 rfl rfl 6 (by decide) (hts (.fieldLink RX8 37 "LineCites$Work" "editions" "I") (List.mem_of_getElem? (i := 1) rfl)) (fun _ h9 => h9) rfl dX8_putEdition_8 ?_
    refine lv_aload_n hx hb dX8_putEdition_11 rfl (lv_at hl 0 rfl) ?_
    refine va_get (D := D) (ci := 8) (v := .ref b_sc) (C := RX8) (T := TX8) (N := 8) hx hb hts (fun _ h => List.mem_cons_of_mem _ (List.mem_append_right _ h)) hown hK hP 0 rfl rfl 0 (by decide) (hts (.fieldLink RX8 9 "LineCites$Work" "stretchCounts" "[I") (List.mem_of_getElem? (i := 2) rfl)) (fun _ h9 => h9) rfl dX8_putEdition_12 ?_
    refine va_alen (v := 5) hx hb hK hP 1 0 rfl rfl rfl dX8_putEdition_15 ?_
    refine lv_icmp_lt (tgt := 21) hx hb dX8_putEdition_16 (by decide) (fun c2 => ?_) (fun c2 => ?_)
    · have nc2 : i_ed.toInt < 5 := pw_lt c2 rfl (by decide)
      refine lv_aload_n hx hb dX8_putEdition_21 rfl (lv_at hl 0 rfl) ?_
      refine va_get (D := D) (ci := 8) (v := .ref b_sc) (C := RX8) (T := TX8) (N := 8) hx hb hts (fun _ h => List.mem_cons_of_mem _ (List.mem_append_right _ h)) hown hK hP 0 rfl rfl 0 (by decide) (hts (.fieldLink RX8 9 "LineCites$Work" "stretchCounts" "[I") (List.mem_of_getElem? (i := 2) rfl)) (fun _ h9 => h9) rfl dX8_putEdition_22 ?_
      refine lv_aload_n hx hb dX8_putEdition_25 rfl (lv_at hl 0 rfl) ?_
      refine va_get (D := D) (ci := 8) (v := .int i_ed) (C := RX8) (T := TX8) (N := 8) hx hb hts (fun _ h => List.mem_cons_of_mem _ (List.mem_append_right _ h)) hown hK hP 0 rfl rfl 6 (by decide) (hts (.fieldLink RX8 37 "LineCites$Work" "editions" "I") (List.mem_of_getElem? (i := 1) rfl)) (fun _ h9 => h9) rfl dX8_putEdition_26 ?_
      refine lv_iconst (v := 0) hx hb dX8_putEdition_29 (by decide) ?_
      refine va_iast hx hb hK hP hD hS 1 0 rfl rfl (vp_in_iff.mpr ⟨by omega, by omega⟩) dX8_putEdition_30 (fun H locs hP hD hS => ?_)
      obtain ⟨g3, eg3⟩ : ∃ g : Nat → Int32, g = upd g_b_sc (i_ed : Int32).toNatClampNeg 0 := ⟨_, rfl⟩
      have hP : va_P D vwCl [(h0, .inr (8, [.ref b_sc, .ref b_sp, .ref b_cp, .ref b_sn, .ref b_sl, .int i_li, .int i_ed, .int i_se])), (b_sc, .inl (kI, 5, .inl (upd g_b_sc (i_ed : Int32).toNatClampNeg 0)))] H := hP
      have hD : va_D A [(h0, .inr (8, [.ref b_sc, .ref b_sp, .ref b_cp, .ref b_sn, .ref b_sl, .int i_li, .int i_ed, .int i_se])), (b_sc, .inl (kI, 5, .inl (upd g_b_sc (i_ed : Int32).toNatClampNeg 0)))] := hD
      have hK : va_K D vwCl [(kI, .int)] s := hK
      rw [← eg3] at hP hD
      refine lv_aload_n hx hb dX8_putEdition_31 rfl (lv_at hl 0 rfl) ?_
      refine lv_dup hx hb dX8_putEdition_32 rfl ?_
      refine va_get (D := D) (ci := 8) (v := .int i_ed) (C := RX8) (T := TX8) (N := 8) hx hb hts (fun _ h => List.mem_cons_of_mem _ (List.mem_append_right _ h)) hown hK hP 0 rfl rfl 6 (by decide) (hts (.fieldLink RX8 37 "LineCites$Work" "editions" "I") (List.mem_of_getElem? (i := 1) rfl)) (fun _ h9 => h9) rfl dX8_putEdition_33 ?_
      refine lv_iconst (v := 1) hx hb dX8_putEdition_36 (by decide) ?_
      refine lv_iadd hx hb dX8_putEdition_37 ?_
      refine lv_topi (fun x4 ex4 => ?_)
      have tx4 : x4.toInt = i_ed.toInt + 1 := pw_addX ex4 rfl (by decide) (by omega) (by omega)
      refine va_put (D := D) (ci := 8) (v := .int x4) (ty := .int) (C := RX8) (T := TX8) (N := 8) hx hb hts (fun _ h => List.mem_cons_of_mem _ (List.mem_append_right _ h)) tyX8 tyX8_ok nmX8 hown hK hP hD hS 0 rfl rfl 6 (by decide) (hts (.fieldLink RX8 37 "LineCites$Work" "editions" "I") (List.mem_of_getElem? (i := 1) rfl)) (fun _ h9 => h9) rfl (by decide +kernel) rfl rfl (Nat.le_of_ble_eq_true rfl) dX8_putEdition_38 (fun H locs hP hD hS => ?_)
      have hP : va_P D vwCl [(h0, .inr (8, [.ref b_sc, .ref b_sp, .ref b_cp, .ref b_sn, .ref b_sl, .int i_li, .int x4, .int i_se])), (b_sc, .inl (kI, 5, .inl g3))] H := hP
      have hD : va_D A [(h0, .inr (8, [.ref b_sc, .ref b_sp, .ref b_cp, .ref b_sn, .ref b_sl, .int i_li, .int x4, .int i_se])), (b_sc, .inl (kI, 5, .inl g3))] := hD
      have hK : va_K D vwCl [(kI, .int)] s := hK
      refine lv_iconst (v := 1) hx hb dX8_putEdition_41 (by decide) ?_
      have hP9 := hP.sub (ws' := [(h0, .inr (8, [.ref b_sc, .ref b_sp, .ref b_cp, .ref b_sn, .ref b_sl, .int i_li, .int x4, .int i_se])), (b_sc, .inl (kI, 5, .inl g3))]) [0, 1] rfl
      have hD9 := hD.sub (ws' := [(h0, .inr (8, [.ref b_sc, .ref b_sp, .ref b_cp, .ref b_sn, .ref b_sl, .int i_li, .int x4, .int i_se])), (b_sc, .inl (kI, 5, .inl g3))]) [0, 1] (by decide) rfl
      have hK9 := hK.sub (tys' := [(kI, .int)]) [0] rfl
      refine W.widen (k := 0) (n := 0) (Nat.le_of_ble_eq_true rfl) (Nat.le_of_ble_eq_true rfl) ?_
      exact W.zret (v := 1) (ty := .boolean) hx hb hr rfl (fun t ht hW => ⟨⟨1, (), rfl, ⟨Or.inr rfl, trivial⟩, x4, g3, by rw [ht]; exact hP9, va_K.moved hW.alike hK9, hD9⟩, hS.F ht⟩) hS.2.2 dX8_putEdition_42
    · have nc2 : 5 ≤ i_ed.toInt := pw_nlt c2 rfl (by decide)
      refine lv_iconst (v := 0) hx hb dX8_putEdition_19 (by decide) ?_
      have hP9 := hP.sub (ws' := [(h0, .inr (8, [.ref b_sc, .ref b_sp, .ref b_cp, .ref b_sn, .ref b_sl, .int i_li, .int i_ed, .int i_se])), (b_sc, .inl (kI, 5, .inl g_b_sc))]) [0, 1] rfl
      have hD9 := hD.sub (ws' := [(h0, .inr (8, [.ref b_sc, .ref b_sp, .ref b_cp, .ref b_sn, .ref b_sl, .int i_li, .int i_ed, .int i_se])), (b_sc, .inl (kI, 5, .inl g_b_sc))]) [0, 1] (by decide) rfl
      have hK9 := hK.sub (tys' := [(kI, .int)]) [0] rfl
      refine W.widen (k := 0) (n := 0) (Nat.le_of_ble_eq_true rfl) (Nat.le_of_ble_eq_true rfl) ?_
      exact W.zret (v := 0) (ty := .boolean) hx hb hr rfl (fun t ht hW => ⟨⟨0, (), rfl, ⟨Or.inl rfl, trivial⟩, i_ed, g_b_sc, by rw [ht]; exact hP9, va_K.moved hW.alike hK9, hD9⟩, hS.F ht⟩) hS.2.2 dX8_putEdition_20
def w_X8_stretchesOf : List Cond := .code yX8_stretchesOf cX8_stretchesOf 2 (some .int) :: ([.methodLink RX8 43 yX8_hasEdition, .instanceMethod yX8_hasEdition, .selects RX8 yX8_hasEdition yX8_hasEdition, .initialized RX8, .code yX8_hasEdition cX8_hasEdition 2 (some .boolean), .fieldLink RX8 37 "LineCites$Work" "editions" "I", .fieldLink RX8 9 "LineCites$Work" "stretchCounts" "[I"] ++ wsX80)
set_option maxRecDepth 20000 in
theorem g_X8_stretchesOf_X8_hasEdition : GoodIn w_X8_stretchesOf (wsV RX8 43 RX8 yX8_hasEdition w_X8_hasEdition) := goodIn_r _ [1, 2, 3, 4, 5, 6, 7, 8, 9, 10, 11, 12, 13, 14, 15] rfl (by decide +kernel)
set_option maxHeartbeats 4000000 in
set_option maxRecDepth 100000 in
theorem c_X8_stretchesOf (l : Launch) (D : va_G) (h0 : Nat) (i_e : Int32) (b_sc : Nat) (b_sp : Nat) (b_cp : Nat) (b_sn : Nat) (b_sl : Nat) (i_li : Int32) (i_ed : Int32) (i_se : Int32) (kI : ClassId) (g_b_sc : Nat → Int32) : Met l yX8_stretchesOf w_X8_stretchesOf ({ frames := 1, cells := 0, slots := 0, locals := 21 }) (va_Pc [.ref h0, .int i_e] (fun U => va_P D vwCl [(h0, .inr (8, [.ref b_sc, .ref b_sp, .ref b_cp, .ref b_sn, .ref b_sl, .int i_li, .int i_ed, .int i_se])), (b_sc, .inl (kI, 5, .inl g_b_sc))] U.heap ∧ va_K D vwCl [(kI, .int)] U)) (va_Qi (fun (r : Int32) (_ : Unit) => (0 ≤ i_e.toInt ∧ i_e.toInt ≤ 4) ∨ r.toInt = 0) (fun _ _ => True) (fun _ => False)) 0 0 (fun _ => False) := by
  refine Met.ofW (cc := cX8_stretchesOf) (maxL := 2) (ret := (some .int)) (by decide) rfl ?_
  intro p e s m args below meth c s₁ B hml hv
  obtain ⟨rfl, hP, hK⟩ := hv
  have hx := B.exec
  have hb := B.bytes
  have hr := B.returns
  have hts := atoms_spec (ws := w_X8_stretchesOf) B.pre
  have hown : s.vm.findClass RX8 = some m.cls := findClass_of_methodNamed B.named
  have hlocks := B.notSynchronized
  have hS : va_S (fun _ : Nat => False) s.heap s.heap [] := va_S.rf
  have hP : va_P D vwCl [(h0, .inr (8, [.ref b_sc, .ref b_sp, .ref b_cp, .ref b_sn, .ref b_sl, .int i_li, .int i_ed, .int i_se])), (b_sc, .inl (kI, 5, .inl g_b_sc))] s.heap := hP
  have hl := lv_entry ([.ref h0, .int i_e]) (n := 2) (Nat.le_of_ble_eq_true rfl)
  rw [lg_entry_eq]
  generalize (lg_sl ([.ref h0, .int i_e]) ++ List.replicate (2 - (lg_sl ([.ref h0, .int i_e])).length) Slot.unset).toArray = ls at hl ⊢
  have hl : lv_has ls 2 [(0, .ref h0), (1, .int i_e)] := hl
  obtain ⟨H, hHe⟩ : ∃ H : Heap, H = s.heap := ⟨_, rfl⟩
  rw [← hHe] at hP
  have hS : va_S (fun _ : Nat => False) s.heap H [] := by rw [hHe]; exact hS
  refine pw_heap hHe ?_
  refine lv_aload_n hx hb dX8_stretchesOf_0 rfl (lv_at hl 0 rfl) ?_
  refine lv_iload_n hx hb dX8_stretchesOf_1 rfl (lv_at hl 1 rfl) ?_
  have hPc := hP.sub (ws' := [(h0, .inr (8, [.ref b_sc, .ref b_sp, .ref b_cp, .ref b_sn, .ref b_sl, .int i_li, .int i_ed, .int i_se])), (b_sc, .inl (kI, 5, .inl g_b_sc))]) [0, 1] rfl
  have hKc := hK.sub (tys' := [(kI, .int)]) [0] rfl
  refine va_calli (va_runV (As := [.int i_e]) (rest := []) ⟨hx, hb, hml, hown, hts⟩ (c_X8_hasEdition l D h0 i_e b_sc b_sp b_cp b_sn b_sl i_li i_ed i_se kI g_b_sc) (cwV 1 hts g_X8_stretchesOf_X8_hasEdition rfl rfl rfl (by decide +kernel) ⟨Nat.le_of_ble_eq_true rfl, Nat.le_of_ble_eq_true rfl⟩) ⟨fun a U g mk q => by obtain ⟨q0, qP, qK⟩ := q; exact ⟨q0, qP, va_K.moved (u := U) (U := U.calling g mk a) (Vm.Alike.refl U.vm) qK⟩, va_recv hKc hPc (ci := 8) (q0 := 0) rfl rfl, fun U hU hW => ⟨rfl, by rw [hU]; exact hPc, va_K.moved hW.alike hKc⟩⟩ rfl rfl hl.1 rfl (lv_room (Nat.le_of_ble_eq_true rfl)) dX8_stretchesOf_2 ⟨Nat.le_of_ble_eq_true rfl, Nat.le_of_ble_eq_true rfl⟩) hS (fun _ _ h => h.elim) (fun _ h => h.elim) (fun r1 u t H1 locs ht hvm hw hB hz1 hk1 hS => ?_)
  have hP := pw_keep hP (fun q hq => hk1 q hq (fun h => h))
  generalize H1 = H at hP hS ⊢
  refine W.widen (k := 0) (n := 0) (Nat.le_of_ble_eq_true rfl) (Nat.le_of_ble_eq_true rfl) ?_
  have bor1 := hw.1
  have zor1 := pw_boolI bor1
  have hfr1 := hw.2
  refine lv_if_eq (tgt := 17) hx hb dX8_stretchesOf_5 (by decide) (fun c2 => ?_) (fun c2 => ?_)
  · have nc2 : r1.toInt = 0 := pw_eq c2 rfl (by decide)
    refine lv_iconst (v := 0) hx hb dX8_stretchesOf_17 (by decide) ?_
    exact W.iret (v := 0) hx hb hr (fun t ht hW => ⟨⟨0, (), rfl, (by have hv : (0 : Int32).toInt = 0 := (by decide); omega), trivial⟩, hS.F ht⟩) hS.2.2 dX8_stretchesOf_18
  · have nc2 : r1.toInt ≠ 0 := pw_ne c2 rfl (by decide)
    refine lv_aload_n hx hb dX8_stretchesOf_8 rfl (lv_at hl 0 rfl) ?_
    refine va_get (D := D) (ci := 8) (v := .ref b_sc) (C := RX8) (T := TX8) (N := 8) hx hb hts (fun _ h => List.mem_cons_of_mem _ (List.mem_append_right _ h)) hown hK hP 0 rfl rfl 0 (by decide) (hts (.fieldLink RX8 9 "LineCites$Work" "stretchCounts" "[I") (List.mem_of_getElem? (i := 7) rfl)) (fun _ h9 => h9) rfl dX8_stretchesOf_9 ?_
    refine lv_iload_n hx hb dX8_stretchesOf_12 rfl (lv_at hl 1 rfl) ?_
    refine va_iald hx hb hK hP 1 0 rfl rfl (vp_in_iff.mpr ⟨by omega, by omega⟩) dX8_stretchesOf_13 ?_
    refine lv_topi (fun x3 ex3 => ?_)
    refine lv_goto (tgt := 18) hx hb dX8_stretchesOf_14 (by decide) ?_
    exact W.iret (v := x3) hx hb hr (fun t ht hW => ⟨⟨x3, (), rfl, (by omega), trivial⟩, hS.F ht⟩) hS.2.2 dX8_stretchesOf_18
def w_X8_stretches : List Cond := .code yX8_stretches cX8_stretches 3 (some .int) :: ([.fieldLink RX8 37 "LineCites$Work" "editions" "I", .methodLink RX8 47 yX8_stretchesOf, .instanceMethod yX8_stretchesOf, .selects RX8 yX8_stretchesOf yX8_stretchesOf, .initialized RX8, .code yX8_stretchesOf cX8_stretchesOf 2 (some .int), .methodLink RX8 43 yX8_hasEdition, .instanceMethod yX8_hasEdition, .selects RX8 yX8_hasEdition yX8_hasEdition, .code yX8_hasEdition cX8_hasEdition 2 (some .boolean), .fieldLink RX8 9 "LineCites$Work" "stretchCounts" "[I"] ++ wsX80)
set_option maxRecDepth 20000 in
theorem g_X8_stretches_X8_stretchesOf : GoodIn w_X8_stretches (wsV RX8 47 RX8 yX8_stretchesOf w_X8_stretchesOf) := goodIn_r _ [2, 3, 4, 5, 6, 7, 8, 9, 5, 10, 1, 11, 12, 13, 14, 15, 16, 17, 18, 19] rfl (by decide +kernel)
set_option maxHeartbeats 4000000 in
set_option maxRecDepth 100000 in
theorem c_X8_stretches (l : Launch) (D : va_G) (h0 : Nat) (b_sc : Nat) (b_sp : Nat) (b_cp : Nat) (b_sn : Nat) (b_sl : Nat) (i_li : Int32) (i_ed : Int32) (i_se : Int32) (kI : ClassId) (g_b_sc : Nat → Int32) : Met l yX8_stretches w_X8_stretches ({ frames := 2, cells := 0, slots := 0, locals := 42 }) (va_Pc [.ref h0] (fun U => va_P D vwCl [(h0, .inr (8, [.ref b_sc, .ref b_sp, .ref b_cp, .ref b_sn, .ref b_sl, .int i_li, .int i_ed, .int i_se])), (b_sc, .inl (kI, 5, .inl g_b_sc))] U.heap ∧ va_K D vwCl [(kI, .int)] U)) (va_Qi (fun (r : Int32) (_ : Unit) => True) (fun _ _ => True) (fun _ => False)) 0 0 (fun _ => False) := by
  refine Met.ofW (cc := cX8_stretches) (maxL := 3) (ret := (some .int)) (by decide) rfl ?_
  intro p e s m args below meth c s₁ B hml hv
  obtain ⟨rfl, hP, hK⟩ := hv
  have hx := B.exec
  have hb := B.bytes
  have hr := B.returns
  have hts := atoms_spec (ws := w_X8_stretches) B.pre
  have hown : s.vm.findClass RX8 = some m.cls := findClass_of_methodNamed B.named
  have hlocks := B.notSynchronized
  have hS : va_S (fun _ : Nat => False) s.heap s.heap [] := va_S.rf
  have hP : va_P D vwCl [(h0, .inr (8, [.ref b_sc, .ref b_sp, .ref b_cp, .ref b_sn, .ref b_sl, .int i_li, .int i_ed, .int i_se])), (b_sc, .inl (kI, 5, .inl g_b_sc))] s.heap := hP
  have hl := lv_entry ([.ref h0]) (n := 3) (Nat.le_of_ble_eq_true rfl)
  rw [lg_entry_eq]
  generalize (lg_sl ([.ref h0]) ++ List.replicate (3 - (lg_sl ([.ref h0])).length) Slot.unset).toArray = ls at hl ⊢
  have hl : lv_has ls 3 [(0, .ref h0)] := hl
  obtain ⟨H, hHe⟩ : ∃ H : Heap, H = s.heap := ⟨_, rfl⟩
  rw [← hHe] at hP
  have hS : va_S (fun _ : Nat => False) s.heap H [] := by rw [hHe]; exact hS
  refine pw_heap hHe ?_
  refine lv_iconst (v := 0) hx hb dX8_stretches_0 (by decide) ?_
  refine lv_istore_n (lv' := [(1, .int 0), (0, .ref h0)]) hx hb dX8_stretches_1 rfl hl (by decide) rfl (fun ls hl => ?_)
  refine lv_iconst (v := 0) hx hb dX8_stretches_2 (by decide) ?_
  refine lv_istore_n (lv' := [(2, .int 0), (1, .int 0), (0, .ref h0)]) hx hb dX8_stretches_3 rfl hl (by decide) rfl (fun ls hl => ?_)
  have hl9 : lv_has ls 3 [(0, .ref h0), (1, .int 0), (2, .int 0)] := lv_sub hl [2, 1, 0] rfl
  refine pw_loop (fun (zz : Int32 × Int32) H locs ls => match zz with | (v17, v18) => va_P D vwCl [(h0, .inr (8, [.ref b_sc, .ref b_sp, .ref b_cp, .ref b_sn, .ref b_sl, .int i_li, .int i_ed, .int i_se])), (b_sc, .inl (kI, 5, .inl g_b_sc))] H ∧ va_S (fun _ : Nat => False) s.heap H locs ∧ lv_has ls 3 [(0, .ref h0), (1, .int v17), (2, .int v18)] ∧ 0 ≤ v18.toInt) (fun (zz : Int32 × Int32)  => match zz with | (v17, v18) => (2147483648 - v18.toInt).toNat) 0 0 (fun (zz : Int32 × Int32) ls => match zz with | (v17, v18) => F0 m 4 ls []) (fun zz H locs ls ih19 hI => ?_) (0, 0) _ _ _ ⟨hP, hS, hl9, (by decide)⟩
  obtain ⟨v17, v18⟩ := zz
  obtain ⟨hP, hS, hl, bv18⟩ := hI
  have bv18 : 0 ≤ v18.toInt := bv18
  have hP : va_P D vwCl [(h0, .inr (8, [.ref b_sc, .ref b_sp, .ref b_cp, .ref b_sn, .ref b_sl, .int i_li, .int i_ed, .int i_se])), (b_sc, .inl (kI, 5, .inl g_b_sc))] H := hP
  have hK : va_K D vwCl [(kI, .int)] s := hK
  have hl : lv_has ls 3 [(0, .ref h0), (1, .int v17), (2, .int v18)] := hl
  refine W.eq (g2 := F0 m 4 ls []) rfl ?_
  refine lv_iload_n hx hb dX8_stretches_4 rfl (lv_at hl 2 rfl) ?_
  refine lv_aload_n hx hb dX8_stretches_5 rfl (lv_at hl 0 rfl) ?_
  refine va_get (D := D) (ci := 8) (v := .int i_ed) (C := RX8) (T := TX8) (N := 8) hx hb hts (fun _ h => List.mem_cons_of_mem _ (List.mem_append_right _ h)) hown hK hP 0 rfl rfl 6 (by decide) (hts (.fieldLink RX8 37 "LineCites$Work" "editions" "I") (List.mem_of_getElem? (i := 1) rfl)) (fun _ h9 => h9) rfl dX8_stretches_6 ?_
  refine lv_icmp_ge (tgt := 26) hx hb dX8_stretches_9 (by decide) (fun c24 => ?_) (fun c24 => ?_)
  · have nc24 : i_ed.toInt ≤ v18.toInt := pw_le c24 rfl rfl
    have mc24v18 := pw_max v18
    have mc24i_ed := pw_max i_ed
    refine lv_iload_n hx hb dX8_stretches_26 rfl (lv_at hl 1 rfl) ?_
    exact W.iret (v := v17) hx hb hr (fun t ht hW => ⟨⟨v17, (), rfl, trivial, trivial⟩, hS.F ht⟩) hS.2.2 dX8_stretches_27
  · have nc24 : v18.toInt < i_ed.toInt := pw_nle c24 rfl rfl
    have mc24v18 := pw_max v18
    have mc24i_ed := pw_max i_ed
    refine lv_iload_n hx hb dX8_stretches_12 rfl (lv_at hl 1 rfl) ?_
    refine lv_aload_n hx hb dX8_stretches_13 rfl (lv_at hl 0 rfl) ?_
    refine lv_iload_n hx hb dX8_stretches_14 rfl (lv_at hl 2 rfl) ?_
    have hPc := hP.sub (ws' := [(h0, .inr (8, [.ref b_sc, .ref b_sp, .ref b_cp, .ref b_sn, .ref b_sl, .int i_li, .int i_ed, .int i_se])), (b_sc, .inl (kI, 5, .inl g_b_sc))]) [0, 1] rfl
    have hKc := hK.sub (tys' := [(kI, .int)]) [0] rfl
    refine va_calli (va_runV (As := [.int v18]) (rest := [.int v17]) ⟨hx, hb, hml, hown, hts⟩ (c_X8_stretchesOf l D h0 v18 b_sc b_sp b_cp b_sn b_sl i_li i_ed i_se kI g_b_sc) (cwV 1 hts g_X8_stretches_X8_stretchesOf rfl rfl rfl (by decide +kernel) ⟨Nat.le_of_ble_eq_true rfl, Nat.le_of_ble_eq_true rfl⟩) ⟨fun a U g mk q => by obtain ⟨q0, qP, qK⟩ := q; exact ⟨q0, qP, va_K.moved (u := U) (U := U.calling g mk a) (Vm.Alike.refl U.vm) qK⟩, va_recv hKc hPc (ci := 8) (q0 := 0) rfl rfl, fun U hU hW => ⟨rfl, by rw [hU]; exact hPc, va_K.moved hW.alike hKc⟩⟩ rfl rfl hl.1 rfl (lv_room (Nat.le_of_ble_eq_true rfl)) dX8_stretches_15 ⟨Nat.le_of_ble_eq_true rfl, Nat.le_of_ble_eq_true rfl⟩) hS (fun _ _ h => h.elim) (fun _ h => h.elim) (fun r25 u t H1 locs ht hvm hw hB hz1 hk1 hS => ?_)
    have hP := pw_keep hP (fun q hq => hk1 q hq (fun h => h))
    generalize H1 = H at hP hS ⊢
    refine W.widen (k := 0) (n := 0) (Nat.le_of_ble_eq_true rfl) (Nat.le_of_ble_eq_true rfl) ?_
    have hfr25 := hw
    refine lv_iadd hx hb dX8_stretches_18 ?_
    refine lv_topi (fun x26 ex26 => ?_)
    refine lv_istore_n (lv' := [(1, .int x26), (0, .ref h0), (2, .int v18)]) hx hb dX8_stretches_19 rfl hl (by decide) rfl (fun ls hl => ?_)
    obtain ⟨x27, ex27⟩ : ∃ y : Int32, y = v18 + 1 := ⟨_, rfl⟩
    refine lv_iinc (v := x27) (lv' := [(2, .int x27), (1, .int x26), (0, .ref h0)]) hx hb dX8_stretches_20 hl (k := 2) rfl (by rw [ex27]; rfl) (by decide) rfl (fun ls hl => ?_)
    refine lv_goto (tgt := 4) hx hb dX8_stretches_23 (by decide) ?_
    have hP9 : va_P D vwCl [(h0, .inr (8, [.ref b_sc, .ref b_sp, .ref b_cp, .ref b_sn, .ref b_sl, .int i_li, .int i_ed, .int i_se])), (b_sc, .inl (kI, 5, .inl g_b_sc))] H := hP.sub [0, 1] rfl
    have hl9 : lv_has ls 3 [(0, .ref h0), (1, .int x26), (2, .int x27)] := lv_sub hl [2, 1, 0] rfl
    refine W.widen (k := 0) (n := 0) (Nat.le_of_ble_eq_true rfl) (Nat.le_of_ble_eq_true rfl) ?_
    exact ih19 (x26, x27) _ _ _ (pw_up ex27 (by omega)) ⟨hP9, hS, hl9, (pw_upge ex27 (by omega) (by omega))⟩
def w_X8_hasStretch : List Cond := .code yX8_hasStretch cX8_hasStretch 3 (some .boolean) :: ([.methodLink RX8 47 yX8_stretchesOf, .instanceMethod yX8_stretchesOf, .selects RX8 yX8_stretchesOf yX8_stretchesOf, .initialized RX8, .code yX8_stretchesOf cX8_stretchesOf 2 (some .int), .methodLink RX8 43 yX8_hasEdition, .instanceMethod yX8_hasEdition, .selects RX8 yX8_hasEdition yX8_hasEdition, .code yX8_hasEdition cX8_hasEdition 2 (some .boolean), .fieldLink RX8 37 "LineCites$Work" "editions" "I", .fieldLink RX8 9 "LineCites$Work" "stretchCounts" "[I"] ++ wsX80)
set_option maxRecDepth 20000 in
theorem g_X8_hasStretch_X8_stretchesOf : GoodIn w_X8_hasStretch (wsV RX8 47 RX8 yX8_stretchesOf w_X8_stretchesOf) := goodIn_r _ [1, 2, 3, 4, 5, 6, 7, 8, 4, 9, 10, 11, 12, 13, 14, 15, 16, 17, 18, 19] rfl (by decide +kernel)
set_option maxHeartbeats 4000000 in
set_option maxRecDepth 100000 in
theorem c_X8_hasStretch (l : Launch) (D : va_G) (h0 : Nat) (i_e : Int32) (i_s : Int32) (b_sc : Nat) (b_sp : Nat) (b_cp : Nat) (b_sn : Nat) (b_sl : Nat) (i_li : Int32) (i_ed : Int32) (i_se : Int32) (kI : ClassId) (g_b_sc : Nat → Int32) : Met l yX8_hasStretch w_X8_hasStretch ({ frames := 2, cells := 0, slots := 0, locals := 42 }) (va_Pc [.ref h0, .int i_e, .int i_s] (fun U => va_P D vwCl [(h0, .inr (8, [.ref b_sc, .ref b_sp, .ref b_cp, .ref b_sn, .ref b_sl, .int i_li, .int i_ed, .int i_se])), (b_sc, .inl (kI, 5, .inl g_b_sc))] U.heap ∧ va_K D vwCl [(kI, .int)] U)) (va_Qi (fun (r : Int32) (_ : Unit) => (r = 0 ∨ r = 1) ∧ (r.toInt = 0 ∨ (0 ≤ i_e.toInt ∧ i_e.toInt ≤ 4 ∧ 0 ≤ i_s.toInt ∧ i_s.toInt ≤ 2147483646))) (fun _ _ => True) (fun _ => False)) 0 0 (fun _ => False) := by
  refine Met.ofW (cc := cX8_hasStretch) (maxL := 3) (ret := (some .boolean)) (by decide) rfl ?_
  intro p e s m args below meth c s₁ B hml hv
  obtain ⟨rfl, hP, hK⟩ := hv
  have hx := B.exec
  have hb := B.bytes
  have hr := B.returns
  have hts := atoms_spec (ws := w_X8_hasStretch) B.pre
  have hown : s.vm.findClass RX8 = some m.cls := findClass_of_methodNamed B.named
  have hlocks := B.notSynchronized
  have hS : va_S (fun _ : Nat => False) s.heap s.heap [] := va_S.rf
  have hP : va_P D vwCl [(h0, .inr (8, [.ref b_sc, .ref b_sp, .ref b_cp, .ref b_sn, .ref b_sl, .int i_li, .int i_ed, .int i_se])), (b_sc, .inl (kI, 5, .inl g_b_sc))] s.heap := hP
  have hl := lv_entry ([.ref h0, .int i_e, .int i_s]) (n := 3) (Nat.le_of_ble_eq_true rfl)
  rw [lg_entry_eq]
  generalize (lg_sl ([.ref h0, .int i_e, .int i_s]) ++ List.replicate (3 - (lg_sl ([.ref h0, .int i_e, .int i_s])).length) Slot.unset).toArray = ls at hl ⊢
  have hl : lv_has ls 3 [(0, .ref h0), (1, .int i_e), (2, .int i_s)] := hl
  obtain ⟨H, hHe⟩ : ∃ H : Heap, H = s.heap := ⟨_, rfl⟩
  rw [← hHe] at hP
  have hS : va_S (fun _ : Nat => False) s.heap H [] := by rw [hHe]; exact hS
  refine pw_heap hHe ?_
  refine lv_iload_n hx hb dX8_hasStretch_0 rfl (lv_at hl 2 rfl) ?_
  refine lv_if_lt (tgt := 17) hx hb dX8_hasStretch_1 (by decide) (fun c1 => ?_) (fun c1 => ?_)
  · have nc1 : i_s.toInt < 0 := pw_lt c1 rfl (by decide)
    refine lv_iconst (v := 0) hx hb dX8_hasStretch_17 (by decide) ?_
    exact W.zret (v := 0) (ty := .boolean) hx hb hr rfl (fun t ht hW => ⟨⟨0, (), rfl, ⟨Or.inl rfl, (by have hv : (0 : Int32).toInt = 0 := (by decide); omega)⟩, trivial⟩, hS.F ht⟩) hS.2.2 dX8_hasStretch_18
  · have nc1 : 0 ≤ i_s.toInt := pw_nlt c1 rfl (by decide)
    refine lv_iload_n hx hb dX8_hasStretch_4 rfl (lv_at hl 2 rfl) ?_
    refine lv_aload_n hx hb dX8_hasStretch_5 rfl (lv_at hl 0 rfl) ?_
    refine lv_iload_n hx hb dX8_hasStretch_6 rfl (lv_at hl 1 rfl) ?_
    have hPc := hP.sub (ws' := [(h0, .inr (8, [.ref b_sc, .ref b_sp, .ref b_cp, .ref b_sn, .ref b_sl, .int i_li, .int i_ed, .int i_se])), (b_sc, .inl (kI, 5, .inl g_b_sc))]) [0, 1] rfl
    have hKc := hK.sub (tys' := [(kI, .int)]) [0] rfl
    refine va_calli (va_runV (As := [.int i_e]) (rest := [.int i_s]) ⟨hx, hb, hml, hown, hts⟩ (c_X8_stretchesOf l D h0 i_e b_sc b_sp b_cp b_sn b_sl i_li i_ed i_se kI g_b_sc) (cwV 1 hts g_X8_hasStretch_X8_stretchesOf rfl rfl rfl (by decide +kernel) ⟨Nat.le_of_ble_eq_true rfl, Nat.le_of_ble_eq_true rfl⟩) ⟨fun a U g mk q => by obtain ⟨q0, qP, qK⟩ := q; exact ⟨q0, qP, va_K.moved (u := U) (U := U.calling g mk a) (Vm.Alike.refl U.vm) qK⟩, va_recv hKc hPc (ci := 8) (q0 := 0) rfl rfl, fun U hU hW => ⟨rfl, by rw [hU]; exact hPc, va_K.moved hW.alike hKc⟩⟩ rfl rfl hl.1 rfl (lv_room (Nat.le_of_ble_eq_true rfl)) dX8_hasStretch_7 ⟨Nat.le_of_ble_eq_true rfl, Nat.le_of_ble_eq_true rfl⟩) hS (fun _ _ h => h.elim) (fun _ h => h.elim) (fun r2 u t H1 locs ht hvm hw hB hz1 hk1 hS => ?_)
    have hP := pw_keep hP (fun q hq => hk1 q hq (fun h => h))
    generalize H1 = H at hP hS ⊢
    refine W.widen (k := 0) (n := 0) (Nat.le_of_ble_eq_true rfl) (Nat.le_of_ble_eq_true rfl) ?_
    have hfr2 := hw
    refine lv_icmp_ge (tgt := 17) hx hb dX8_hasStretch_10 (by decide) (fun c3 => ?_) (fun c3 => ?_)
    · have nc3 : r2.toInt ≤ i_s.toInt := pw_le c3 rfl rfl
      have mc3i_s := pw_max i_s
      have mc3r2 := pw_max r2
      refine lv_iconst (v := 0) hx hb dX8_hasStretch_17 (by decide) ?_
      exact W.zret (v := 0) (ty := .boolean) hx hb hr rfl (fun t ht hW => ⟨⟨0, (), rfl, ⟨Or.inl rfl, (by have hv : (0 : Int32).toInt = 0 := (by decide); omega)⟩, trivial⟩, hS.F ht⟩) hS.2.2 dX8_hasStretch_18
    · have nc3 : i_s.toInt < r2.toInt := pw_nle c3 rfl rfl
      have mc3i_s := pw_max i_s
      have mc3r2 := pw_max r2
      refine lv_iconst (v := 1) hx hb dX8_hasStretch_13 (by decide) ?_
      refine lv_goto (tgt := 18) hx hb dX8_hasStretch_14 (by decide) ?_
      exact W.zret (v := 1) (ty := .boolean) hx hb hr rfl (fun t ht hW => ⟨⟨1, (), rfl, ⟨Or.inr rfl, (by have hv : (1 : Int32).toInt = 1 := (by decide); omega)⟩, trivial⟩, hS.F ht⟩) hS.2.2 dX8_hasStretch_18
def w_X8_placeOf : List Cond := .code yX8_placeOf cX8_placeOf 3 (some .int) :: ([])
set_option maxHeartbeats 4000000 in
set_option maxRecDepth 100000 in
theorem c_X8_placeOf (l : Launch) (D : va_G) (i_e : Int32) (i_s : Int32) (i_w : Int32) : Met l yX8_placeOf w_X8_placeOf ({ frames := 0, cells := 0, slots := 0, locals := 0 }) (va_Pc [.int i_e, .int i_s, .int i_w] (fun U => va_P D vwCl [] U.heap ∧ va_K D vwCl [] U)) (va_Qi (fun (r : Int32) (_ : Unit) => True) (fun _ _ => True) (fun _ => False)) 0 0 (fun _ => False) := by
  refine Met.ofW (cc := cX8_placeOf) (maxL := 3) (ret := (some .int)) (by decide) rfl ?_
  intro p e s m args below meth c s₁ B hml hv
  obtain ⟨rfl, hP, hK⟩ := hv
  have hx := B.exec
  have hb := B.bytes
  have hr := B.returns
  have hts := atoms_spec (ws := w_X8_placeOf) B.pre
  have hown : s.vm.findClass RX8 = some m.cls := findClass_of_methodNamed B.named
  have hlocks := B.notSynchronized
  have hS : va_S (fun _ : Nat => False) s.heap s.heap [] := va_S.rf
  have hP : va_P D vwCl [] s.heap := hP
  have hl := lv_entry ([.int i_e, .int i_s, .int i_w]) (n := 3) (Nat.le_of_ble_eq_true rfl)
  rw [lg_entry_eq]
  generalize (lg_sl ([.int i_e, .int i_s, .int i_w]) ++ List.replicate (3 - (lg_sl ([.int i_e, .int i_s, .int i_w])).length) Slot.unset).toArray = ls at hl ⊢
  have hl : lv_has ls 3 [(0, .int i_e), (1, .int i_s), (2, .int i_w)] := hl
  obtain ⟨H, hHe⟩ : ∃ H : Heap, H = s.heap := ⟨_, rfl⟩
  rw [← hHe] at hP
  have hS : va_S (fun _ : Nat => False) s.heap H [] := by rw [hHe]; exact hS
  refine pw_heap hHe ?_
  refine lv_iload_n hx hb dX8_placeOf_0 rfl (lv_at hl 0 rfl) ?_
  refine lv_bipush (v := 6) hx hb dX8_placeOf_1 (by decide) ?_
  refine lv_imul hx hb dX8_placeOf_3 ?_
  refine lv_topi (fun x1 ex1 => ?_)
  refine lv_iload_n hx hb dX8_placeOf_4 rfl (lv_at hl 1 rfl) ?_
  refine lv_iadd hx hb dX8_placeOf_5 ?_
  refine lv_topi (fun x2 ex2 => ?_)
  refine lv_iconst (v := 4) hx hb dX8_placeOf_6 (by decide) ?_
  refine lv_imul hx hb dX8_placeOf_7 ?_
  refine lv_topi (fun x3 ex3 => ?_)
  refine lv_iload_n hx hb dX8_placeOf_8 rfl (lv_at hl 2 rfl) ?_
  refine lv_iadd hx hb dX8_placeOf_9 ?_
  refine lv_topi (fun x4 ex4 => ?_)
  exact W.iret (v := x4) hx hb hr (fun t ht hW => ⟨⟨x4, (), rfl, trivial, trivial⟩, hS.F ht⟩) hS.2.2 dX8_placeOf_10
def w_X8_part : List Cond := .code yX8_part cX8_part 5 (some .int) :: ([.methodLink RX8 51 yX8_placeOf, .static yX8_placeOf, .initialized RX8, .code yX8_placeOf cX8_placeOf 3 (some .int), .fieldLink RX8 15 "LineCites$Work" "stretchParts" "[I"] ++ wsX80)
set_option maxRecDepth 20000 in
theorem g_X8_part_X8_placeOf : GoodIn w_X8_part (wsS RX8 51 yX8_placeOf w_X8_placeOf) := goodIn_r _ [1, 2, 3, 4] rfl (by decide +kernel)
set_option maxHeartbeats 4000000 in
set_option maxRecDepth 100000 in
theorem c_X8_part (l : Launch) (D : va_G) (h0 : Nat) (i_e : Int32) (i_s : Int32) (i_w : Int32) (b_sc : Nat) (b_sp : Nat) (b_cp : Nat) (b_sn : Nat) (b_sl : Nat) (i_li : Int32) (i_ed : Int32) (i_se : Int32) (kI : ClassId) (g_b_sp : Nat → Int32) (hg_b_sp : bP g_b_sp) : Met l yX8_part w_X8_part ({ frames := 1, cells := 0, slots := 0, locals := 22 }) (va_Pc [.ref h0, .int i_e, .int i_s, .int i_w] (fun U => va_P D vwCl [(h0, .inr (8, [.ref b_sc, .ref b_sp, .ref b_cp, .ref b_sn, .ref b_sl, .int i_li, .int i_ed, .int i_se])), (b_sp, .inl (kI, 120, .inl g_b_sp))] U.heap ∧ va_K D vwCl [(kI, .int)] U)) (va_Qi (fun (r : Int32) (_ : Unit) => 0 ≤ r.toInt ∧ r.toInt ≤ 999) (fun _ _ => True) (fun _ => False)) 0 0 (fun _ => False) := by
  refine Met.ofW (cc := cX8_part) (maxL := 5) (ret := (some .int)) (by decide) rfl ?_
  intro p e s m args below meth c s₁ B hml hv
  obtain ⟨rfl, hP, hK⟩ := hv
  have hx := B.exec
  have hb := B.bytes
  have hr := B.returns
  have hts := atoms_spec (ws := w_X8_part) B.pre
  have hown : s.vm.findClass RX8 = some m.cls := findClass_of_methodNamed B.named
  have hlocks := B.notSynchronized
  have hS : va_S (fun _ : Nat => False) s.heap s.heap [] := va_S.rf
  have hP : va_P D vwCl [(h0, .inr (8, [.ref b_sc, .ref b_sp, .ref b_cp, .ref b_sn, .ref b_sl, .int i_li, .int i_ed, .int i_se])), (b_sp, .inl (kI, 120, .inl g_b_sp))] s.heap := hP
  have hl := lv_entry ([.ref h0, .int i_e, .int i_s, .int i_w]) (n := 5) (Nat.le_of_ble_eq_true rfl)
  rw [lg_entry_eq]
  generalize (lg_sl ([.ref h0, .int i_e, .int i_s, .int i_w]) ++ List.replicate (5 - (lg_sl ([.ref h0, .int i_e, .int i_s, .int i_w])).length) Slot.unset).toArray = ls at hl ⊢
  have hl : lv_has ls 5 [(0, .ref h0), (1, .int i_e), (2, .int i_s), (3, .int i_w)] := hl
  obtain ⟨H, hHe⟩ : ∃ H : Heap, H = s.heap := ⟨_, rfl⟩
  rw [← hHe] at hP
  have hS : va_S (fun _ : Nat => False) s.heap H [] := by rw [hHe]; exact hS
  refine pw_heap hHe ?_
  refine lv_iload_n hx hb dX8_part_0 rfl (lv_at hl 1 rfl) ?_
  refine lv_iload_n hx hb dX8_part_1 rfl (lv_at hl 2 rfl) ?_
  refine lv_iload_n hx hb dX8_part_2 rfl (lv_at hl 3 rfl) ?_
  have hPc := hP.sub (ws' := []) [] rfl
  have hKc := hK.sub (tys' := []) [] rfl
  refine va_calli (va_runS (As := [.int i_e, .int i_s, .int i_w]) (rest := []) ⟨hx, hb, hml, hown, hts⟩ (c_X8_placeOf l D i_e i_s i_w) (cwS 3 hts g_X8_part_X8_placeOf rfl rfl rfl (by decide +kernel) ⟨Nat.le_of_ble_eq_true rfl, Nat.le_of_ble_eq_true rfl⟩) ⟨fun a U g mk q => by obtain ⟨q0, qP, qK⟩ := q; exact ⟨q0, qP, va_K.moved (u := U) (U := U.calling g mk a) (Vm.Alike.refl U.vm) qK⟩, fun U hU hW => ⟨rfl, by rw [hU]; exact hPc, va_K.moved hW.alike hKc⟩⟩ rfl rfl hl.1 rfl (lv_room (Nat.le_of_ble_eq_true rfl)) dX8_part_3 ⟨Nat.le_of_ble_eq_true rfl, Nat.le_of_ble_eq_true rfl⟩) hS (fun _ _ h => h.elim) (fun _ h => h.elim) (fun r1 u t H1 locs ht hvm hw hB hz1 hk1 hS => ?_)
  have hP := pw_keep hP (fun q hq => hk1 q hq (fun h => h))
  generalize H1 = H at hP hS ⊢
  refine W.widen (k := 0) (n := 0) (Nat.le_of_ble_eq_true rfl) (Nat.le_of_ble_eq_true rfl) ?_
  refine lv_istore (lv' := [(4, .int r1), (0, .ref h0), (1, .int i_e), (2, .int i_s), (3, .int i_w)]) hx hb dX8_part_6 hl (by decide) rfl (fun ls hl => ?_)
  refine lv_iload hx hb dX8_part_8 (lv_at hl 0 rfl) ?_
  refine lv_if_lt (tgt := 23) hx hb dX8_part_10 (by decide) (fun c2 => ?_) (fun c2 => ?_)
  · have nc2 : r1.toInt < 0 := pw_lt c2 rfl (by decide)
    refine lv_iconst (v := 0) hx hb dX8_part_23 (by decide) ?_
    refine lv_goto (tgt := 34) hx hb dX8_part_24 (by decide) ?_
    exact W.iret (v := 0) hx hb hr (fun t ht hW => ⟨⟨0, (), rfl, (by have hv : (0 : Int32).toInt = 0 := (by decide); omega), trivial⟩, hS.F ht⟩) hS.2.2 dX8_part_34
  · have nc2 : 0 ≤ r1.toInt := pw_nlt c2 rfl (by decide)
    refine lv_iload hx hb dX8_part_13 (lv_at hl 0 rfl) ?_
    refine lv_aload_n hx hb dX8_part_15 rfl (lv_at hl 1 rfl) ?_
    refine va_get (D := D) (ci := 8) (v := .ref b_sp) (C := RX8) (T := TX8) (N := 8) hx hb hts (fun _ h => List.mem_cons_of_mem _ (List.mem_append_right _ h)) hown hK hP 0 rfl rfl 1 (by decide) (hts (.fieldLink RX8 15 "LineCites$Work" "stretchParts" "[I") (List.mem_of_getElem? (i := 5) rfl)) (fun _ h9 => h9) rfl dX8_part_16 ?_
    refine va_alen (v := 120) hx hb hK hP 1 0 rfl rfl rfl dX8_part_19 ?_
    refine lv_icmp_lt (tgt := 27) hx hb dX8_part_20 (by decide) (fun c3 => ?_) (fun c3 => ?_)
    · have nc3 : r1.toInt < 120 := pw_lt c3 rfl (by decide)
      refine lv_aload_n hx hb dX8_part_27 rfl (lv_at hl 1 rfl) ?_
      refine va_get (D := D) (ci := 8) (v := .ref b_sp) (C := RX8) (T := TX8) (N := 8) hx hb hts (fun _ h => List.mem_cons_of_mem _ (List.mem_append_right _ h)) hown hK hP 0 rfl rfl 1 (by decide) (hts (.fieldLink RX8 15 "LineCites$Work" "stretchParts" "[I") (List.mem_of_getElem? (i := 5) rfl)) (fun _ h9 => h9) rfl dX8_part_28 ?_
      refine lv_iload hx hb dX8_part_31 (lv_at hl 0 rfl) ?_
      refine va_iald hx hb hK hP 1 0 rfl rfl (vp_in_iff.mpr ⟨by omega, by omega⟩) dX8_part_33 ?_
      refine lv_topi (fun x4 ex4 => ?_)
      have nx4 : 0 ≤ x4.toInt ∧ x4.toInt ≤ 999 := bP_at hg_b_sp ex4
      exact W.iret (v := x4) hx hb hr (fun t ht hW => ⟨⟨x4, (), rfl, (by omega), trivial⟩, hS.F ht⟩) hS.2.2 dX8_part_34
    · have nc3 : 120 ≤ r1.toInt := pw_nlt c3 rfl (by decide)
      refine lv_iconst (v := 0) hx hb dX8_part_23 (by decide) ?_
      refine lv_goto (tgt := 34) hx hb dX8_part_24 (by decide) ?_
      exact W.iret (v := 0) hx hb hr (fun t ht hW => ⟨⟨0, (), rfl, (by have hv : (0 : Int32).toInt = 0 := (by decide); omega), trivial⟩, hS.F ht⟩) hS.2.2 dX8_part_34
def w_X8_setPart : List Cond := .code yX8_setPart cX8_setPart 6 none :: ([.methodLink RX8 51 yX8_placeOf, .static yX8_placeOf, .initialized RX8, .code yX8_placeOf cX8_placeOf 3 (some .int), .fieldLink RX8 15 "LineCites$Work" "stretchParts" "[I"] ++ wsX80)
set_option maxRecDepth 20000 in
theorem g_X8_setPart_X8_placeOf : GoodIn w_X8_setPart (wsS RX8 51 yX8_placeOf w_X8_placeOf) := goodIn_r _ [1, 2, 3, 4] rfl (by decide +kernel)
set_option maxHeartbeats 4000000 in
set_option maxRecDepth 100000 in
theorem c_X8_setPart (l : Launch) (D : va_G) (h0 : Nat) (i_e : Int32) (i_s : Int32) (i_w : Int32) (i_v : Int32) (b_sc : Nat) (b_sp : Nat) (b_cp : Nat) (b_sn : Nat) (b_sl : Nat) (i_li : Int32) (i_ed : Int32) (i_se : Int32) (kI : ClassId) (g_b_sp : Nat → Int32) (sz : Nat) (h0i_v : 0 ≤ i_v.toInt) (h1i_v : i_v.toInt ≤ 999) (hg_b_sp : bP g_b_sp) : Met l yX8_setPart w_X8_setPart ({ frames := 1, cells := 0, slots := 0, locals := 22 }) (va_Pc [.ref h0, .int i_e, .int i_s, .int i_w, .int i_v] (fun U => U.heap.size = sz ∧ va_P D vwCl [(h0, .inr (8, [.ref b_sc, .ref b_sp, .ref b_cp, .ref b_sn, .ref b_sl, .int i_li, .int i_ed, .int i_se])), (b_sp, .inl (kI, 120, .inl g_b_sp))] U.heap ∧ va_K D vwCl [(kI, .int)] U ∧ va_D (fun _ => True) [(h0, .inr (8, [.ref b_sc, .ref b_sp, .ref b_cp, .ref b_sn, .ref b_sl, .int i_li, .int i_ed, .int i_se])), (b_sp, .inl (kI, 120, .inl g_b_sp))])) (va_Qv (fun (_ : Unit) => True) (fun (_ : Unit) t => ∃ (n_sp : Nat → Int32), va_P D vwCl [(h0, .inr (8, [.ref b_sc, .ref b_sp, .ref b_cp, .ref b_sn, .ref b_sl, .int i_li, .int i_ed, .int i_se])), (b_sp, .inl (kI, 120, .inl n_sp))] t.heap ∧ va_K D vwCl [(kI, .int)] t ∧ va_D (va_A [(h0, .inr (8, [.ref b_sc, .ref b_sp, .ref b_cp, .ref b_sn, .ref b_sl, .int i_li, .int i_ed, .int i_se])), (b_sp, .inl (kI, 120, .inl g_b_sp))] sz) [(h0, .inr (8, [.ref b_sc, .ref b_sp, .ref b_cp, .ref b_sn, .ref b_sl, .int i_li, .int i_ed, .int i_se])), (b_sp, .inl (kI, 120, .inl n_sp))] ∧ bP n_sp) (va_A [(h0, .inr (8, [.ref b_sc, .ref b_sp, .ref b_cp, .ref b_sn, .ref b_sl, .int i_li, .int i_ed, .int i_se])), (b_sp, .inl (kI, 120, .inl g_b_sp))] sz)) 0 0 (va_A [(h0, .inr (8, [.ref b_sc, .ref b_sp, .ref b_cp, .ref b_sn, .ref b_sl, .int i_li, .int i_ed, .int i_se])), (b_sp, .inl (kI, 120, .inl g_b_sp))] sz) := by
  refine Met.ofW (cc := cX8_setPart) (maxL := 6) (ret := none) (by decide) rfl ?_
  intro p e s m args below meth c s₁ B hml hv
  obtain ⟨rfl, hsz, hP, hK, hD0⟩ := hv
  have hx := B.exec
  have hb := B.bytes
  have hr := B.returns
  have hts := atoms_spec (ws := w_X8_setPart) B.pre
  have hown : s.vm.findClass RX8 = some m.cls := findClass_of_methodNamed B.named
  have hlocks := B.notSynchronized
  subst hsz
  have hD := hD0.self (sz := s.heap.size)
  generalize hAe : va_A [(h0, .inr (8, [.ref b_sc, .ref b_sp, .ref b_cp, .ref b_sn, .ref b_sl, .int i_li, .int i_ed, .int i_se])), (b_sp, .inl (kI, 120, .inl g_b_sp))] s.heap.size = A at hD ⊢
  have hA : ∀ q : Nat, s.heap.size ≤ q → A q := fun q h => by rw [← hAe]; exact Or.inr h
  have hS : va_S A s.heap s.heap [] := va_S.rf
  have hP : va_P D vwCl [(h0, .inr (8, [.ref b_sc, .ref b_sp, .ref b_cp, .ref b_sn, .ref b_sl, .int i_li, .int i_ed, .int i_se])), (b_sp, .inl (kI, 120, .inl g_b_sp))] s.heap := hP
  have hl := lv_entry ([.ref h0, .int i_e, .int i_s, .int i_w, .int i_v]) (n := 6) (Nat.le_of_ble_eq_true rfl)
  rw [lg_entry_eq]
  generalize (lg_sl ([.ref h0, .int i_e, .int i_s, .int i_w, .int i_v]) ++ List.replicate (6 - (lg_sl ([.ref h0, .int i_e, .int i_s, .int i_w, .int i_v])).length) Slot.unset).toArray = ls at hl ⊢
  have hl : lv_has ls 6 [(0, .ref h0), (1, .int i_e), (2, .int i_s), (3, .int i_w), (4, .int i_v)] := hl
  obtain ⟨H, hHe⟩ : ∃ H : Heap, H = s.heap := ⟨_, rfl⟩
  rw [← hHe] at hP
  have hS : va_S A s.heap H [] := by rw [hHe]; exact hS
  refine pw_heap hHe ?_
  refine lv_iload_n hx hb dX8_setPart_0 rfl (lv_at hl 1 rfl) ?_
  refine lv_iload_n hx hb dX8_setPart_1 rfl (lv_at hl 2 rfl) ?_
  refine lv_iload_n hx hb dX8_setPart_2 rfl (lv_at hl 3 rfl) ?_
  have hPc := hP.sub (ws' := []) [] rfl
  have hKc := hK.sub (tys' := []) [] rfl
  refine va_calli (va_runS (As := [.int i_e, .int i_s, .int i_w]) (rest := []) ⟨hx, hb, hml, hown, hts⟩ (c_X8_placeOf l D i_e i_s i_w) (cwS 3 hts g_X8_setPart_X8_placeOf rfl rfl rfl (by decide +kernel) ⟨Nat.le_of_ble_eq_true rfl, Nat.le_of_ble_eq_true rfl⟩) ⟨fun a U g mk q => by obtain ⟨q0, qP, qK⟩ := q; exact ⟨q0, qP, va_K.moved (u := U) (U := U.calling g mk a) (Vm.Alike.refl U.vm) qK⟩, fun U hU hW => ⟨rfl, by rw [hU]; exact hPc, va_K.moved hW.alike hKc⟩⟩ rfl rfl hl.1 rfl (lv_room (Nat.le_of_ble_eq_true rfl)) dX8_setPart_3 ⟨Nat.le_of_ble_eq_true rfl, Nat.le_of_ble_eq_true rfl⟩) hS (fun _ _ h => h.elim) (fun _ h => h.elim) (fun r1 u t H1 locs ht hvm hw hB hz1 hk1 hS => ?_)
  have hP := pw_keep hP (fun q hq => hk1 q hq (fun h => h))
  generalize H1 = H at hP hS ⊢
  refine W.widen (k := 0) (n := 0) (Nat.le_of_ble_eq_true rfl) (Nat.le_of_ble_eq_true rfl) ?_
  refine lv_istore (lv' := [(5, .int r1), (0, .ref h0), (1, .int i_e), (2, .int i_s), (3, .int i_w), (4, .int i_v)]) hx hb dX8_setPart_6 hl (by decide) rfl (fun ls hl => ?_)
  refine lv_iload hx hb dX8_setPart_8 (lv_at hl 0 rfl) ?_
  refine lv_if_lt (tgt := 32) hx hb dX8_setPart_10 (by decide) (fun c2 => ?_) (fun c2 => ?_)
  · have nc2 : r1.toInt < 0 := pw_lt c2 rfl (by decide)
    have hP9 := hP.sub (ws' := [(h0, .inr (8, [.ref b_sc, .ref b_sp, .ref b_cp, .ref b_sn, .ref b_sl, .int i_li, .int i_ed, .int i_se])), (b_sp, .inl (kI, 120, .inl g_b_sp))]) [0, 1] rfl
    have hD9 := hD.sub (ws' := [(h0, .inr (8, [.ref b_sc, .ref b_sp, .ref b_cp, .ref b_sn, .ref b_sl, .int i_li, .int i_ed, .int i_se])), (b_sp, .inl (kI, 120, .inl g_b_sp))]) [0, 1] (by decide) rfl
    have hK9 := hK.sub (tys' := [(kI, .int)]) [0] rfl
    refine W.widen (k := 0) (n := 0) (Nat.le_of_ble_eq_true rfl) (Nat.le_of_ble_eq_true rfl) ?_
    exact W.vret hx hb hr (fun t ht hW => ⟨⟨(), rfl, trivial, g_b_sp, by rw [ht]; exact hP9, va_K.moved hW.alike hK9, hD9, hg_b_sp⟩, hS.F ht⟩) hS.2.2 dX8_setPart_32
  · have nc2 : 0 ≤ r1.toInt := pw_nlt c2 rfl (by decide)
    refine lv_iload hx hb dX8_setPart_13 (lv_at hl 0 rfl) ?_
    refine lv_aload_n hx hb dX8_setPart_15 rfl (lv_at hl 1 rfl) ?_
    refine va_get (D := D) (ci := 8) (v := .ref b_sp) (C := RX8) (T := TX8) (N := 8) hx hb hts (fun _ h => List.mem_cons_of_mem _ (List.mem_append_right _ h)) hown hK hP 0 rfl rfl 1 (by decide) (hts (.fieldLink RX8 15 "LineCites$Work" "stretchParts" "[I") (List.mem_of_getElem? (i := 5) rfl)) (fun _ h9 => h9) rfl dX8_setPart_16 ?_
    refine va_alen (v := 120) hx hb hK hP 1 0 rfl rfl rfl dX8_setPart_19 ?_
    refine lv_icmp_ge (tgt := 32) hx hb dX8_setPart_20 (by decide) (fun c3 => ?_) (fun c3 => ?_)
    · have nc3 : 120 ≤ r1.toInt := pw_le c3 (by decide) rfl
      have hP9 := hP.sub (ws' := [(h0, .inr (8, [.ref b_sc, .ref b_sp, .ref b_cp, .ref b_sn, .ref b_sl, .int i_li, .int i_ed, .int i_se])), (b_sp, .inl (kI, 120, .inl g_b_sp))]) [0, 1] rfl
      have hD9 := hD.sub (ws' := [(h0, .inr (8, [.ref b_sc, .ref b_sp, .ref b_cp, .ref b_sn, .ref b_sl, .int i_li, .int i_ed, .int i_se])), (b_sp, .inl (kI, 120, .inl g_b_sp))]) [0, 1] (by decide) rfl
      have hK9 := hK.sub (tys' := [(kI, .int)]) [0] rfl
      refine W.widen (k := 0) (n := 0) (Nat.le_of_ble_eq_true rfl) (Nat.le_of_ble_eq_true rfl) ?_
      exact W.vret hx hb hr (fun t ht hW => ⟨⟨(), rfl, trivial, g_b_sp, by rw [ht]; exact hP9, va_K.moved hW.alike hK9, hD9, hg_b_sp⟩, hS.F ht⟩) hS.2.2 dX8_setPart_32
    · have nc3 : r1.toInt < 120 := pw_nle c3 (by decide) rfl
      refine lv_aload_n hx hb dX8_setPart_23 rfl (lv_at hl 1 rfl) ?_
      refine va_get (D := D) (ci := 8) (v := .ref b_sp) (C := RX8) (T := TX8) (N := 8) hx hb hts (fun _ h => List.mem_cons_of_mem _ (List.mem_append_right _ h)) hown hK hP 0 rfl rfl 1 (by decide) (hts (.fieldLink RX8 15 "LineCites$Work" "stretchParts" "[I") (List.mem_of_getElem? (i := 5) rfl)) (fun _ h9 => h9) rfl dX8_setPart_24 ?_
      refine lv_iload hx hb dX8_setPart_27 (lv_at hl 0 rfl) ?_
      refine lv_iload hx hb dX8_setPart_29 (lv_at hl 5 rfl) ?_
      refine va_iast hx hb hK hP hD hS 1 0 rfl rfl (vp_in_iff.mpr ⟨by omega, by omega⟩) dX8_setPart_31 (fun H locs hP hD hS => ?_)
      obtain ⟨g4, eg4⟩ : ∃ g : Nat → Int32, g = upd g_b_sp (r1 : Int32).toNatClampNeg i_v := ⟨_, rfl⟩
      have hP : va_P D vwCl [(h0, .inr (8, [.ref b_sc, .ref b_sp, .ref b_cp, .ref b_sn, .ref b_sl, .int i_li, .int i_ed, .int i_se])), (b_sp, .inl (kI, 120, .inl (upd g_b_sp (r1 : Int32).toNatClampNeg i_v)))] H := hP
      have hD : va_D A [(h0, .inr (8, [.ref b_sc, .ref b_sp, .ref b_cp, .ref b_sn, .ref b_sl, .int i_li, .int i_ed, .int i_se])), (b_sp, .inl (kI, 120, .inl (upd g_b_sp (r1 : Int32).toNatClampNeg i_v)))] := hD
      have hK : va_K D vwCl [(kI, .int)] s := hK
      rw [← eg4] at hP hD
      have hg4 : bP g4 := bP_upd hg_b_sp eg4 (by omega) (by omega)
      have hP9 := hP.sub (ws' := [(h0, .inr (8, [.ref b_sc, .ref b_sp, .ref b_cp, .ref b_sn, .ref b_sl, .int i_li, .int i_ed, .int i_se])), (b_sp, .inl (kI, 120, .inl g4))]) [0, 1] rfl
      have hD9 := hD.sub (ws' := [(h0, .inr (8, [.ref b_sc, .ref b_sp, .ref b_cp, .ref b_sn, .ref b_sl, .int i_li, .int i_ed, .int i_se])), (b_sp, .inl (kI, 120, .inl g4))]) [0, 1] (by decide) rfl
      have hK9 := hK.sub (tys' := [(kI, .int)]) [0] rfl
      refine W.widen (k := 0) (n := 0) (Nat.le_of_ble_eq_true rfl) (Nat.le_of_ble_eq_true rfl) ?_
      exact W.vret hx hb hr (fun t ht hW => ⟨⟨(), rfl, trivial, g4, by rw [ht]; exact hP9, va_K.moved hW.alike hK9, hD9, hg4⟩, hS.F ht⟩) hS.2.2 dX8_setPart_32
def w_X8_putStretch : List Cond := .code yX8_putStretch cX8_putStretch 7 none :: ([.methodLink RX8 47 yX8_stretchesOf, .instanceMethod yX8_stretchesOf, .selects RX8 yX8_stretchesOf yX8_stretchesOf, .initialized RX8, .code yX8_stretchesOf cX8_stretchesOf 2 (some .int), .methodLink RX8 43 yX8_hasEdition, .instanceMethod yX8_hasEdition, .selects RX8 yX8_hasEdition yX8_hasEdition, .code yX8_hasEdition cX8_hasEdition 2 (some .boolean), .fieldLink RX8 37 "LineCites$Work" "editions" "I", .fieldLink RX8 9 "LineCites$Work" "stretchCounts" "[I", .methodLink RX8 55 yX8_setPart, .instanceMethod yX8_setPart, .selects RX8 yX8_setPart yX8_setPart, .code yX8_setPart cX8_setPart 6 none, .methodLink RX8 51 yX8_placeOf, .static yX8_placeOf, .code yX8_placeOf cX8_placeOf 3 (some .int), .fieldLink RX8 15 "LineCites$Work" "stretchParts" "[I"] ++ wsX80)
set_option maxRecDepth 20000 in
theorem g_X8_putStretch_X8_stretchesOf : GoodIn w_X8_putStretch (wsV RX8 47 RX8 yX8_stretchesOf w_X8_stretchesOf) := goodIn_r _ [1, 2, 3, 4, 5, 6, 7, 8, 4, 9, 10, 11, 20, 21, 22, 23, 24, 25, 26, 27] rfl (by decide +kernel)
set_option maxRecDepth 20000 in
theorem g_X8_putStretch_X8_hasEdition : GoodIn w_X8_putStretch (wsV RX8 43 RX8 yX8_hasEdition w_X8_hasEdition) := goodIn_r _ [6, 7, 8, 4, 9, 10, 11, 20, 21, 22, 23, 24, 25, 26, 27] rfl (by decide +kernel)
set_option maxRecDepth 20000 in
theorem g_X8_putStretch_X8_setPart : GoodIn w_X8_putStretch (wsV RX8 55 RX8 yX8_setPart w_X8_setPart) := goodIn_r _ [12, 13, 14, 4, 15, 16, 17, 4, 18, 19, 20, 21, 22, 23, 24, 25, 26, 27] rfl (by decide +kernel)
set_option maxHeartbeats 4000000 in
set_option maxRecDepth 100000 in
theorem c_X8_putStretch (l : Launch) (D : va_G) (h0 : Nat) (i_0 : Int32) (i_1 : Int32) (i_2 : Int32) (i_3 : Int32) (i_4 : Int32) (b_sc : Nat) (b_sp : Nat) (b_cp : Nat) (b_sn : Nat) (b_sl : Nat) (i_li : Int32) (i_ed : Int32) (i_se : Int32) (kI : ClassId) (g_b_sc : Nat → Int32) (g_b_sp : Nat → Int32) (sz : Nat) (h0i_1 : 0 ≤ i_1.toInt) (h1i_1 : i_1.toInt ≤ 999) (h0i_2 : 0 ≤ i_2.toInt) (h1i_2 : i_2.toInt ≤ 999) (h0i_3 : 0 ≤ i_3.toInt) (h1i_3 : i_3.toInt ≤ 999) (h0i_4 : 0 ≤ i_4.toInt) (h1i_4 : i_4.toInt ≤ 999) (hg_b_sp : bP g_b_sp) : Met l yX8_putStretch w_X8_putStretch ({ frames := 2, cells := 0, slots := 0, locals := 47 }) (va_Pc [.ref h0, .int i_0, .int i_1, .int i_2, .int i_3, .int i_4] (fun U => U.heap.size = sz ∧ va_P D vwCl [(h0, .inr (8, [.ref b_sc, .ref b_sp, .ref b_cp, .ref b_sn, .ref b_sl, .int i_li, .int i_ed, .int i_se])), (b_sc, .inl (kI, 5, .inl g_b_sc)), (b_sp, .inl (kI, 120, .inl g_b_sp))] U.heap ∧ va_K D vwCl [(kI, .int)] U ∧ va_D (fun _ => True) [(h0, .inr (8, [.ref b_sc, .ref b_sp, .ref b_cp, .ref b_sn, .ref b_sl, .int i_li, .int i_ed, .int i_se])), (b_sc, .inl (kI, 5, .inl g_b_sc)), (b_sp, .inl (kI, 120, .inl g_b_sp))])) (va_Qv (fun (_ : Unit) => True) (fun (_ : Unit) t => ∃ (n_sc : Nat → Int32) (n_sp : Nat → Int32), va_P D vwCl [(h0, .inr (8, [.ref b_sc, .ref b_sp, .ref b_cp, .ref b_sn, .ref b_sl, .int i_li, .int i_ed, .int i_se])), (b_sc, .inl (kI, 5, .inl n_sc)), (b_sp, .inl (kI, 120, .inl n_sp))] t.heap ∧ va_K D vwCl [(kI, .int)] t ∧ va_D (va_A [(h0, .inr (8, [.ref b_sc, .ref b_sp, .ref b_cp, .ref b_sn, .ref b_sl, .int i_li, .int i_ed, .int i_se])), (b_sc, .inl (kI, 5, .inl g_b_sc)), (b_sp, .inl (kI, 120, .inl g_b_sp))] sz) [(h0, .inr (8, [.ref b_sc, .ref b_sp, .ref b_cp, .ref b_sn, .ref b_sl, .int i_li, .int i_ed, .int i_se])), (b_sc, .inl (kI, 5, .inl n_sc)), (b_sp, .inl (kI, 120, .inl n_sp))] ∧ bP n_sp) (va_A [(h0, .inr (8, [.ref b_sc, .ref b_sp, .ref b_cp, .ref b_sn, .ref b_sl, .int i_li, .int i_ed, .int i_se])), (b_sc, .inl (kI, 5, .inl g_b_sc)), (b_sp, .inl (kI, 120, .inl g_b_sp))] sz)) 0 0 (va_A [(h0, .inr (8, [.ref b_sc, .ref b_sp, .ref b_cp, .ref b_sn, .ref b_sl, .int i_li, .int i_ed, .int i_se])), (b_sc, .inl (kI, 5, .inl g_b_sc)), (b_sp, .inl (kI, 120, .inl g_b_sp))] sz) := by
  refine Met.ofW (cc := cX8_putStretch) (maxL := 7) (ret := none) (by decide) rfl ?_
  intro p e s m args below meth c s₁ B hml hv
  obtain ⟨rfl, hsz, hP, hK, hD0⟩ := hv
  have hx := B.exec
  have hb := B.bytes
  have hr := B.returns
  have hts := atoms_spec (ws := w_X8_putStretch) B.pre
  have hown : s.vm.findClass RX8 = some m.cls := findClass_of_methodNamed B.named
  have hlocks := B.notSynchronized
  subst hsz
  have hD := hD0.self (sz := s.heap.size)
  generalize hAe : va_A [(h0, .inr (8, [.ref b_sc, .ref b_sp, .ref b_cp, .ref b_sn, .ref b_sl, .int i_li, .int i_ed, .int i_se])), (b_sc, .inl (kI, 5, .inl g_b_sc)), (b_sp, .inl (kI, 120, .inl g_b_sp))] s.heap.size = A at hD ⊢
  have hA : ∀ q : Nat, s.heap.size ≤ q → A q := fun q h => by rw [← hAe]; exact Or.inr h
  have hS : va_S A s.heap s.heap [] := va_S.rf
  have hP : va_P D vwCl [(h0, .inr (8, [.ref b_sc, .ref b_sp, .ref b_cp, .ref b_sn, .ref b_sl, .int i_li, .int i_ed, .int i_se])), (b_sc, .inl (kI, 5, .inl g_b_sc)), (b_sp, .inl (kI, 120, .inl g_b_sp))] s.heap := hP
  have hl := lv_entry ([.ref h0, .int i_0, .int i_1, .int i_2, .int i_3, .int i_4]) (n := 7) (Nat.le_of_ble_eq_true rfl)
  rw [lg_entry_eq]
  generalize (lg_sl ([.ref h0, .int i_0, .int i_1, .int i_2, .int i_3, .int i_4]) ++ List.replicate (7 - (lg_sl ([.ref h0, .int i_0, .int i_1, .int i_2, .int i_3, .int i_4])).length) Slot.unset).toArray = ls at hl ⊢
  have hl : lv_has ls 7 [(0, .ref h0), (1, .int i_0), (2, .int i_1), (3, .int i_2), (4, .int i_3), (5, .int i_4)] := hl
  obtain ⟨H, hHe⟩ : ∃ H : Heap, H = s.heap := ⟨_, rfl⟩
  rw [← hHe] at hP
  have hS : va_S A s.heap H [] := by rw [hHe]; exact hS
  refine pw_heap hHe ?_
  refine lv_aload_n hx hb dX8_putStretch_0 rfl (lv_at hl 0 rfl) ?_
  refine lv_iload_n hx hb dX8_putStretch_1 rfl (lv_at hl 1 rfl) ?_
  have hPc := hP.sub (ws' := [(h0, .inr (8, [.ref b_sc, .ref b_sp, .ref b_cp, .ref b_sn, .ref b_sl, .int i_li, .int i_ed, .int i_se])), (b_sc, .inl (kI, 5, .inl g_b_sc))]) [0, 1] rfl
  have hKc := hK.sub (tys' := [(kI, .int)]) [0] rfl
  refine va_calli (va_runV (As := [.int i_0]) (rest := []) ⟨hx, hb, hml, hown, hts⟩ (c_X8_stretchesOf l D h0 i_0 b_sc b_sp b_cp b_sn b_sl i_li i_ed i_se kI g_b_sc) (cwV 1 hts g_X8_putStretch_X8_stretchesOf rfl rfl rfl (by decide +kernel) ⟨Nat.le_of_ble_eq_true rfl, Nat.le_of_ble_eq_true rfl⟩) ⟨fun a U g mk q => by obtain ⟨q0, qP, qK⟩ := q; exact ⟨q0, qP, va_K.moved (u := U) (U := U.calling g mk a) (Vm.Alike.refl U.vm) qK⟩, va_recv hKc hPc (ci := 8) (q0 := 0) rfl rfl, fun U hU hW => ⟨rfl, by rw [hU]; exact hPc, va_K.moved hW.alike hKc⟩⟩ rfl rfl hl.1 rfl (lv_room (Nat.le_of_ble_eq_true rfl)) dX8_putStretch_2 ⟨Nat.le_of_ble_eq_true rfl, Nat.le_of_ble_eq_true rfl⟩) hS (fun _ _ h => h.elim) (fun _ h => h.elim) (fun r1 u t H1 locs ht hvm hw hB hz1 hk1 hS => ?_)
  have hP := pw_keep hP (fun q hq => hk1 q hq (fun h => h))
  generalize H1 = H at hP hS ⊢
  refine W.widen (k := 0) (n := 0) (Nat.le_of_ble_eq_true rfl) (Nat.le_of_ble_eq_true rfl) ?_
  have hfr1 := hw
  refine lv_istore (lv' := [(6, .int r1), (0, .ref h0), (1, .int i_0), (2, .int i_1), (3, .int i_2), (4, .int i_3), (5, .int i_4)]) hx hb dX8_putStretch_5 hl (by decide) rfl (fun ls hl => ?_)
  refine lv_aload_n hx hb dX8_putStretch_7 rfl (lv_at hl 1 rfl) ?_
  refine lv_iload_n hx hb dX8_putStretch_8 rfl (lv_at hl 2 rfl) ?_
  have hPc := hP.sub (ws' := [(h0, .inr (8, [.ref b_sc, .ref b_sp, .ref b_cp, .ref b_sn, .ref b_sl, .int i_li, .int i_ed, .int i_se])), (b_sc, .inl (kI, 5, .inl g_b_sc))]) [0, 1] rfl
  have hKc := hK.sub (tys' := [(kI, .int)]) [0] rfl
  refine va_calli (va_runV (As := [.int i_0]) (rest := []) ⟨hx, hb, hml, hown, hts⟩ (c_X8_hasEdition l D h0 i_0 b_sc b_sp b_cp b_sn b_sl i_li i_ed i_se kI g_b_sc) (cwV 1 hts g_X8_putStretch_X8_hasEdition rfl rfl rfl (by decide +kernel) ⟨Nat.le_of_ble_eq_true rfl, Nat.le_of_ble_eq_true rfl⟩) ⟨fun a U g mk q => by obtain ⟨q0, qP, qK⟩ := q; exact ⟨q0, qP, va_K.moved (u := U) (U := U.calling g mk a) (Vm.Alike.refl U.vm) qK⟩, va_recv hKc hPc (ci := 8) (q0 := 0) rfl rfl, fun U hU hW => ⟨rfl, by rw [hU]; exact hPc, va_K.moved hW.alike hKc⟩⟩ rfl rfl hl.1 rfl (lv_room (Nat.le_of_ble_eq_true rfl)) dX8_putStretch_9 ⟨Nat.le_of_ble_eq_true rfl, Nat.le_of_ble_eq_true rfl⟩) hS (fun _ _ h => h.elim) (fun _ h => h.elim) (fun r2 u t H1 locs ht hvm hw hB hz1 hk1 hS => ?_)
  have hP := pw_keep hP (fun q hq => hk1 q hq (fun h => h))
  generalize H1 = H at hP hS ⊢
  refine W.widen (k := 0) (n := 0) (Nat.le_of_ble_eq_true rfl) (Nat.le_of_ble_eq_true rfl) ?_
  have bor2 := hw.1
  have zor2 := pw_boolI bor2
  have hfr2 := hw.2
  refine lv_if_eq (tgt := 22) hx hb dX8_putStretch_12 (by decide) (fun c3 => ?_) (fun c3 => ?_)
  · have nc3 : r2.toInt = 0 := pw_eq c3 rfl (by decide)
    have hP9 := hP.sub (ws' := [(h0, .inr (8, [.ref b_sc, .ref b_sp, .ref b_cp, .ref b_sn, .ref b_sl, .int i_li, .int i_ed, .int i_se])), (b_sc, .inl (kI, 5, .inl g_b_sc)), (b_sp, .inl (kI, 120, .inl g_b_sp))]) [0, 1, 2] rfl
    have hD9 := hD.sub (ws' := [(h0, .inr (8, [.ref b_sc, .ref b_sp, .ref b_cp, .ref b_sn, .ref b_sl, .int i_li, .int i_ed, .int i_se])), (b_sc, .inl (kI, 5, .inl g_b_sc)), (b_sp, .inl (kI, 120, .inl g_b_sp))]) [0, 1, 2] (by decide) rfl
    have hK9 := hK.sub (tys' := [(kI, .int)]) [0] rfl
    refine W.widen (k := 0) (n := 0) (Nat.le_of_ble_eq_true rfl) (Nat.le_of_ble_eq_true rfl) ?_
    exact W.vret hx hb hr (fun t ht hW => ⟨⟨(), rfl, trivial, g_b_sc, g_b_sp, by rw [ht]; exact hP9, va_K.moved hW.alike hK9, hD9, hg_b_sp⟩, hS.F ht⟩) hS.2.2 dX8_putStretch_22
  · have nc3 : r2.toInt ≠ 0 := pw_ne c3 rfl (by decide)
    refine lv_iload hx hb dX8_putStretch_15 (lv_at hl 0 rfl) ?_
    refine lv_bipush (v := 6) hx hb dX8_putStretch_17 (by decide) ?_
    refine lv_icmp_lt (tgt := 23) hx hb dX8_putStretch_19 (by decide) (fun c4 => ?_) (fun c4 => ?_)
    · have nc4 : r1.toInt < 6 := pw_lt c4 rfl (by decide)
      refine lv_aload_n hx hb dX8_putStretch_23 rfl (lv_at hl 1 rfl) ?_
      refine lv_iload_n hx hb dX8_putStretch_24 rfl (lv_at hl 2 rfl) ?_
      refine lv_iload hx hb dX8_putStretch_25 (lv_at hl 0 rfl) ?_
      refine lv_iconst (v := 0) hx hb dX8_putStretch_27 (by decide) ?_
      refine lv_iload_n hx hb dX8_putStretch_28 rfl (lv_at hl 3 rfl) ?_
      have hPc := hP.sub (ws' := [(h0, .inr (8, [.ref b_sc, .ref b_sp, .ref b_cp, .ref b_sn, .ref b_sl, .int i_li, .int i_ed, .int i_se])), (b_sp, .inl (kI, 120, .inl g_b_sp))]) [0, 2] rfl
      have hKc := hK.sub (tys' := [(kI, .int)]) [0] rfl
      have hDc := hD.sub (ws' := [(h0, .inr (8, [.ref b_sc, .ref b_sp, .ref b_cp, .ref b_sn, .ref b_sl, .int i_li, .int i_ed, .int i_se])), (b_sp, .inl (kI, 120, .inl g_b_sp))]) [0, 2] (by decide) rfl
      have hFc := va_free (wc := [(h0, .inr (8, [.ref b_sc, .ref b_sp, .ref b_cp, .ref b_sn, .ref b_sl, .int i_li, .int i_ed, .int i_se])), (b_sp, .inl (kI, 120, .inl g_b_sp))]) hD hS hA [0, 2] rfl
      refine va_callv (va_runV (As := [.int i_0, .int r1, .int 0, .int i_1]) (rest := []) ⟨hx, hb, hml, hown, hts⟩ (c_X8_setPart l D h0 i_0 r1 0 i_1 b_sc b_sp b_cp b_sn b_sl i_li i_ed i_se kI g_b_sp H.size (by first | decide | omega) (by first | decide | omega) hg_b_sp) (cwV 4 hts g_X8_putStretch_X8_setPart rfl rfl rfl (by decide +kernel) ⟨Nat.le_of_ble_eq_true rfl, Nat.le_of_ble_eq_true rfl⟩) ⟨fun a U g mk q => by obtain ⟨q0, q1, qP, qK, qD⟩ := q; exact ⟨q0, q1, qP, va_K.moved (u := U) (U := U.calling g mk a) (Vm.Alike.refl U.vm) qK, qD⟩, va_recv hKc hPc (ci := 8) (q0 := 0) rfl rfl, fun U hU hW => ⟨rfl, by rw [hU], by rw [hU]; exact hPc, va_K.moved hW.alike hKc, hDc.weaken (fun _ _ _ _ => trivial)⟩⟩ rfl rfl hl.1 rfl (lv_room (Nat.le_of_ble_eq_true rfl)) dX8_putStretch_29 ⟨Nat.le_of_ble_eq_true rfl, Nat.le_of_ble_eq_true rfl⟩) hS (fun q _ h => hFc q h) hFc (fun u t H1 locs ht hvm hw hB hz1 hk1 hS => ?_)
      obtain ⟨y6, hP1, hK1, hD1, hy6⟩ := hB
      rw [ht] at hP1
      have hK1 := va_K.moved hvm.symm hK1
      obtain ⟨hP, hD⟩ := va_join (wr := [(b_sc, .inl (kI, 5, .inl g_b_sc))]) (w1 := [(h0, .inr (8, [.ref b_sc, .ref b_sp, .ref b_cp, .ref b_sn, .ref b_sl, .int i_li, .int i_ed, .int i_se])), (b_sp, .inl (kI, 120, .inl y6))]) hP hD [0, 2] [1] rfl rfl (by decide) (by decide) hk1 hFc hP1 hD1
      have hK := (hK.sub (tys' := [(kI, .int)]) [0] rfl).app hK1
      generalize H1 = H at hP hS ⊢
      have hP : va_P D vwCl [(b_sc, .inl (kI, 5, .inl g_b_sc)), (h0, .inr (8, [.ref b_sc, .ref b_sp, .ref b_cp, .ref b_sn, .ref b_sl, .int i_li, .int i_ed, .int i_se])), (b_sp, .inl (kI, 120, .inl y6))] H := hP
      have hD : va_D A [(b_sc, .inl (kI, 5, .inl g_b_sc)), (h0, .inr (8, [.ref b_sc, .ref b_sp, .ref b_cp, .ref b_sn, .ref b_sl, .int i_li, .int i_ed, .int i_se])), (b_sp, .inl (kI, 120, .inl y6))] := hD
      have hK : va_K D vwCl [(kI, .int), (kI, .int)] s := hK
      refine W.widen (k := 0) (n := 0) (Nat.le_of_ble_eq_true rfl) (Nat.le_of_ble_eq_true rfl) ?_
      refine lv_aload_n hx hb dX8_putStretch_32 rfl (lv_at hl 1 rfl) ?_
      refine lv_iload_n hx hb dX8_putStretch_33 rfl (lv_at hl 2 rfl) ?_
      refine lv_iload hx hb dX8_putStretch_34 (lv_at hl 0 rfl) ?_
      refine lv_iconst (v := 1) hx hb dX8_putStretch_36 (by decide) ?_
      refine lv_iload_n hx hb dX8_putStretch_37 rfl (lv_at hl 4 rfl) ?_
      have hPc := hP.sub (ws' := [(h0, .inr (8, [.ref b_sc, .ref b_sp, .ref b_cp, .ref b_sn, .ref b_sl, .int i_li, .int i_ed, .int i_se])), (b_sp, .inl (kI, 120, .inl y6))]) [1, 2] rfl
      have hKc := hK.sub (tys' := [(kI, .int)]) [0] rfl
      have hDc := hD.sub (ws' := [(h0, .inr (8, [.ref b_sc, .ref b_sp, .ref b_cp, .ref b_sn, .ref b_sl, .int i_li, .int i_ed, .int i_se])), (b_sp, .inl (kI, 120, .inl y6))]) [1, 2] (by decide) rfl
      have hFc := va_free (wc := [(h0, .inr (8, [.ref b_sc, .ref b_sp, .ref b_cp, .ref b_sn, .ref b_sl, .int i_li, .int i_ed, .int i_se])), (b_sp, .inl (kI, 120, .inl y6))]) hD hS hA [1, 2] rfl
      refine va_callv (va_runV (As := [.int i_0, .int r1, .int 1, .int i_2]) (rest := []) ⟨hx, hb, hml, hown, hts⟩ (c_X8_setPart l D h0 i_0 r1 1 i_2 b_sc b_sp b_cp b_sn b_sl i_li i_ed i_se kI y6 H.size (by first | decide | omega) (by first | decide | omega) hy6) (cwV 4 hts g_X8_putStretch_X8_setPart rfl rfl rfl (by decide +kernel) ⟨Nat.le_of_ble_eq_true rfl, Nat.le_of_ble_eq_true rfl⟩) ⟨fun a U g mk q => by obtain ⟨q0, q1, qP, qK, qD⟩ := q; exact ⟨q0, q1, qP, va_K.moved (u := U) (U := U.calling g mk a) (Vm.Alike.refl U.vm) qK, qD⟩, va_recv hKc hPc (ci := 8) (q0 := 0) rfl rfl, fun U hU hW => ⟨rfl, by rw [hU], by rw [hU]; exact hPc, va_K.moved hW.alike hKc, hDc.weaken (fun _ _ _ _ => trivial)⟩⟩ rfl rfl hl.1 rfl (lv_room (Nat.le_of_ble_eq_true rfl)) dX8_putStretch_38 ⟨Nat.le_of_ble_eq_true rfl, Nat.le_of_ble_eq_true rfl⟩) hS (fun q _ h => hFc q h) hFc (fun u t H1 locs ht hvm hw hB hz1 hk1 hS => ?_)
      obtain ⟨y8, hP1, hK1, hD1, hy8⟩ := hB
      rw [ht] at hP1
      have hK1 := va_K.moved hvm.symm hK1
      obtain ⟨hP, hD⟩ := va_join (wr := [(b_sc, .inl (kI, 5, .inl g_b_sc))]) (w1 := [(h0, .inr (8, [.ref b_sc, .ref b_sp, .ref b_cp, .ref b_sn, .ref b_sl, .int i_li, .int i_ed, .int i_se])), (b_sp, .inl (kI, 120, .inl y8))]) hP hD [1, 2] [0] rfl rfl (by decide) (by decide) hk1 hFc hP1 hD1
      have hK := (hK.sub (tys' := [(kI, .int), (kI, .int)]) [0, 1] rfl).app hK1
      generalize H1 = H at hP hS ⊢
      have hP : va_P D vwCl [(b_sc, .inl (kI, 5, .inl g_b_sc)), (h0, .inr (8, [.ref b_sc, .ref b_sp, .ref b_cp, .ref b_sn, .ref b_sl, .int i_li, .int i_ed, .int i_se])), (b_sp, .inl (kI, 120, .inl y8))] H := hP
      have hD : va_D A [(b_sc, .inl (kI, 5, .inl g_b_sc)), (h0, .inr (8, [.ref b_sc, .ref b_sp, .ref b_cp, .ref b_sn, .ref b_sl, .int i_li, .int i_ed, .int i_se])), (b_sp, .inl (kI, 120, .inl y8))] := hD
      have hK : va_K D vwCl [(kI, .int), (kI, .int), (kI, .int)] s := hK
      refine W.widen (k := 0) (n := 0) (Nat.le_of_ble_eq_true rfl) (Nat.le_of_ble_eq_true rfl) ?_
      refine lv_aload_n hx hb dX8_putStretch_41 rfl (lv_at hl 1 rfl) ?_
      refine lv_iload_n hx hb dX8_putStretch_42 rfl (lv_at hl 2 rfl) ?_
      refine lv_iload hx hb dX8_putStretch_43 (lv_at hl 0 rfl) ?_
      refine lv_iconst (v := 2) hx hb dX8_putStretch_45 (by decide) ?_
      refine lv_iload hx hb dX8_putStretch_46 (lv_at hl 5 rfl) ?_
      have hPc := hP.sub (ws' := [(h0, .inr (8, [.ref b_sc, .ref b_sp, .ref b_cp, .ref b_sn, .ref b_sl, .int i_li, .int i_ed, .int i_se])), (b_sp, .inl (kI, 120, .inl y8))]) [1, 2] rfl
      have hKc := hK.sub (tys' := [(kI, .int)]) [0] rfl
      have hDc := hD.sub (ws' := [(h0, .inr (8, [.ref b_sc, .ref b_sp, .ref b_cp, .ref b_sn, .ref b_sl, .int i_li, .int i_ed, .int i_se])), (b_sp, .inl (kI, 120, .inl y8))]) [1, 2] (by decide) rfl
      have hFc := va_free (wc := [(h0, .inr (8, [.ref b_sc, .ref b_sp, .ref b_cp, .ref b_sn, .ref b_sl, .int i_li, .int i_ed, .int i_se])), (b_sp, .inl (kI, 120, .inl y8))]) hD hS hA [1, 2] rfl
      refine va_callv (va_runV (As := [.int i_0, .int r1, .int 2, .int i_3]) (rest := []) ⟨hx, hb, hml, hown, hts⟩ (c_X8_setPart l D h0 i_0 r1 2 i_3 b_sc b_sp b_cp b_sn b_sl i_li i_ed i_se kI y8 H.size (by first | decide | omega) (by first | decide | omega) hy8) (cwV 4 hts g_X8_putStretch_X8_setPart rfl rfl rfl (by decide +kernel) ⟨Nat.le_of_ble_eq_true rfl, Nat.le_of_ble_eq_true rfl⟩) ⟨fun a U g mk q => by obtain ⟨q0, q1, qP, qK, qD⟩ := q; exact ⟨q0, q1, qP, va_K.moved (u := U) (U := U.calling g mk a) (Vm.Alike.refl U.vm) qK, qD⟩, va_recv hKc hPc (ci := 8) (q0 := 0) rfl rfl, fun U hU hW => ⟨rfl, by rw [hU], by rw [hU]; exact hPc, va_K.moved hW.alike hKc, hDc.weaken (fun _ _ _ _ => trivial)⟩⟩ rfl rfl hl.1 rfl (lv_room (Nat.le_of_ble_eq_true rfl)) dX8_putStretch_48 ⟨Nat.le_of_ble_eq_true rfl, Nat.le_of_ble_eq_true rfl⟩) hS (fun q _ h => hFc q h) hFc (fun u t H1 locs ht hvm hw hB hz1 hk1 hS => ?_)
      obtain ⟨y10, hP1, hK1, hD1, hy10⟩ := hB
      rw [ht] at hP1
      have hK1 := va_K.moved hvm.symm hK1
      obtain ⟨hP, hD⟩ := va_join (wr := [(b_sc, .inl (kI, 5, .inl g_b_sc))]) (w1 := [(h0, .inr (8, [.ref b_sc, .ref b_sp, .ref b_cp, .ref b_sn, .ref b_sl, .int i_li, .int i_ed, .int i_se])), (b_sp, .inl (kI, 120, .inl y10))]) hP hD [1, 2] [0] rfl rfl (by decide) (by decide) hk1 hFc hP1 hD1
      have hK := (hK.sub (tys' := [(kI, .int), (kI, .int), (kI, .int)]) [0, 1, 2] rfl).app hK1
      generalize H1 = H at hP hS ⊢
      have hP : va_P D vwCl [(b_sc, .inl (kI, 5, .inl g_b_sc)), (h0, .inr (8, [.ref b_sc, .ref b_sp, .ref b_cp, .ref b_sn, .ref b_sl, .int i_li, .int i_ed, .int i_se])), (b_sp, .inl (kI, 120, .inl y10))] H := hP
      have hD : va_D A [(b_sc, .inl (kI, 5, .inl g_b_sc)), (h0, .inr (8, [.ref b_sc, .ref b_sp, .ref b_cp, .ref b_sn, .ref b_sl, .int i_li, .int i_ed, .int i_se])), (b_sp, .inl (kI, 120, .inl y10))] := hD
      have hK : va_K D vwCl [(kI, .int), (kI, .int), (kI, .int), (kI, .int)] s := hK
      refine W.widen (k := 0) (n := 0) (Nat.le_of_ble_eq_true rfl) (Nat.le_of_ble_eq_true rfl) ?_
      refine lv_aload_n hx hb dX8_putStretch_51 rfl (lv_at hl 1 rfl) ?_
      refine lv_iload_n hx hb dX8_putStretch_52 rfl (lv_at hl 2 rfl) ?_
      refine lv_iload hx hb dX8_putStretch_53 (lv_at hl 0 rfl) ?_
      refine lv_iconst (v := 3) hx hb dX8_putStretch_55 (by decide) ?_
      refine lv_iload hx hb dX8_putStretch_56 (lv_at hl 6 rfl) ?_
      have hPc := hP.sub (ws' := [(h0, .inr (8, [.ref b_sc, .ref b_sp, .ref b_cp, .ref b_sn, .ref b_sl, .int i_li, .int i_ed, .int i_se])), (b_sp, .inl (kI, 120, .inl y10))]) [1, 2] rfl
      have hKc := hK.sub (tys' := [(kI, .int)]) [0] rfl
      have hDc := hD.sub (ws' := [(h0, .inr (8, [.ref b_sc, .ref b_sp, .ref b_cp, .ref b_sn, .ref b_sl, .int i_li, .int i_ed, .int i_se])), (b_sp, .inl (kI, 120, .inl y10))]) [1, 2] (by decide) rfl
      have hFc := va_free (wc := [(h0, .inr (8, [.ref b_sc, .ref b_sp, .ref b_cp, .ref b_sn, .ref b_sl, .int i_li, .int i_ed, .int i_se])), (b_sp, .inl (kI, 120, .inl y10))]) hD hS hA [1, 2] rfl
      refine va_callv (va_runV (As := [.int i_0, .int r1, .int 3, .int i_4]) (rest := []) ⟨hx, hb, hml, hown, hts⟩ (c_X8_setPart l D h0 i_0 r1 3 i_4 b_sc b_sp b_cp b_sn b_sl i_li i_ed i_se kI y10 H.size (by first | decide | omega) (by first | decide | omega) hy10) (cwV 4 hts g_X8_putStretch_X8_setPart rfl rfl rfl (by decide +kernel) ⟨Nat.le_of_ble_eq_true rfl, Nat.le_of_ble_eq_true rfl⟩) ⟨fun a U g mk q => by obtain ⟨q0, q1, qP, qK, qD⟩ := q; exact ⟨q0, q1, qP, va_K.moved (u := U) (U := U.calling g mk a) (Vm.Alike.refl U.vm) qK, qD⟩, va_recv hKc hPc (ci := 8) (q0 := 0) rfl rfl, fun U hU hW => ⟨rfl, by rw [hU], by rw [hU]; exact hPc, va_K.moved hW.alike hKc, hDc.weaken (fun _ _ _ _ => trivial)⟩⟩ rfl rfl hl.1 rfl (lv_room (Nat.le_of_ble_eq_true rfl)) dX8_putStretch_58 ⟨Nat.le_of_ble_eq_true rfl, Nat.le_of_ble_eq_true rfl⟩) hS (fun q _ h => hFc q h) hFc (fun u t H1 locs ht hvm hw hB hz1 hk1 hS => ?_)
      obtain ⟨y12, hP1, hK1, hD1, hy12⟩ := hB
      rw [ht] at hP1
      have hK1 := va_K.moved hvm.symm hK1
      obtain ⟨hP, hD⟩ := va_join (wr := [(b_sc, .inl (kI, 5, .inl g_b_sc))]) (w1 := [(h0, .inr (8, [.ref b_sc, .ref b_sp, .ref b_cp, .ref b_sn, .ref b_sl, .int i_li, .int i_ed, .int i_se])), (b_sp, .inl (kI, 120, .inl y12))]) hP hD [1, 2] [0] rfl rfl (by decide) (by decide) hk1 hFc hP1 hD1
      have hK := (hK.sub (tys' := [(kI, .int), (kI, .int), (kI, .int), (kI, .int)]) [0, 1, 2, 3] rfl).app hK1
      generalize H1 = H at hP hS ⊢
      have hP : va_P D vwCl [(b_sc, .inl (kI, 5, .inl g_b_sc)), (h0, .inr (8, [.ref b_sc, .ref b_sp, .ref b_cp, .ref b_sn, .ref b_sl, .int i_li, .int i_ed, .int i_se])), (b_sp, .inl (kI, 120, .inl y12))] H := hP
      have hD : va_D A [(b_sc, .inl (kI, 5, .inl g_b_sc)), (h0, .inr (8, [.ref b_sc, .ref b_sp, .ref b_cp, .ref b_sn, .ref b_sl, .int i_li, .int i_ed, .int i_se])), (b_sp, .inl (kI, 120, .inl y12))] := hD
      have hK : va_K D vwCl [(kI, .int), (kI, .int), (kI, .int), (kI, .int), (kI, .int)] s := hK
      refine W.widen (k := 0) (n := 0) (Nat.le_of_ble_eq_true rfl) (Nat.le_of_ble_eq_true rfl) ?_
      refine lv_aload_n hx hb dX8_putStretch_61 rfl (lv_at hl 1 rfl) ?_
      refine va_get (D := D) (ci := 8) (v := .ref b_sc) (C := RX8) (T := TX8) (N := 8) hx hb hts (fun _ h => List.mem_cons_of_mem _ (List.mem_append_right _ h)) hown hK hP 1 rfl rfl 0 (by decide) (hts (.fieldLink RX8 9 "LineCites$Work" "stretchCounts" "[I") (List.mem_of_getElem? (i := 11) rfl)) (fun _ h9 => h9) rfl dX8_putStretch_62 ?_
      refine lv_iload_n hx hb dX8_putStretch_65 rfl (lv_at hl 2 rfl) ?_
      refine lv_iload hx hb dX8_putStretch_66 (lv_at hl 0 rfl) ?_
      refine lv_iconst (v := 1) hx hb dX8_putStretch_68 (by decide) ?_
      refine lv_iadd hx hb dX8_putStretch_69 ?_
      refine lv_topi (fun x13 ex13 => ?_)
      have tx13 : x13.toInt = r1.toInt + 1 := pw_addX ex13 rfl (by decide) (by have h9 := pw_min r1; have h8 := pw_max r1; omega) (by have h9 := pw_min r1; have h8 := pw_max r1; omega)
      refine va_iast hx hb hK hP hD hS 0 0 rfl rfl (vp_in_iff.mpr ⟨by omega, by omega⟩) dX8_putStretch_70 (fun H locs hP hD hS => ?_)
      obtain ⟨g14, eg14⟩ : ∃ g : Nat → Int32, g = upd g_b_sc (i_0 : Int32).toNatClampNeg x13 := ⟨_, rfl⟩
      have hP : va_P D vwCl [(b_sc, .inl (kI, 5, .inl (upd g_b_sc (i_0 : Int32).toNatClampNeg x13))), (h0, .inr (8, [.ref b_sc, .ref b_sp, .ref b_cp, .ref b_sn, .ref b_sl, .int i_li, .int i_ed, .int i_se])), (b_sp, .inl (kI, 120, .inl y12))] H := hP
      have hD : va_D A [(b_sc, .inl (kI, 5, .inl (upd g_b_sc (i_0 : Int32).toNatClampNeg x13))), (h0, .inr (8, [.ref b_sc, .ref b_sp, .ref b_cp, .ref b_sn, .ref b_sl, .int i_li, .int i_ed, .int i_se])), (b_sp, .inl (kI, 120, .inl y12))] := hD
      have hK : va_K D vwCl [(kI, .int), (kI, .int), (kI, .int), (kI, .int), (kI, .int)] s := hK
      rw [← eg14] at hP hD
      have hP9 := hP.sub (ws' := [(h0, .inr (8, [.ref b_sc, .ref b_sp, .ref b_cp, .ref b_sn, .ref b_sl, .int i_li, .int i_ed, .int i_se])), (b_sc, .inl (kI, 5, .inl g14)), (b_sp, .inl (kI, 120, .inl y12))]) [1, 0, 2] rfl
      have hD9 := hD.sub (ws' := [(h0, .inr (8, [.ref b_sc, .ref b_sp, .ref b_cp, .ref b_sn, .ref b_sl, .int i_li, .int i_ed, .int i_se])), (b_sc, .inl (kI, 5, .inl g14)), (b_sp, .inl (kI, 120, .inl y12))]) [1, 0, 2] (by decide) rfl
      have hK9 := hK.sub (tys' := [(kI, .int)]) [0] rfl
      refine W.widen (k := 0) (n := 0) (Nat.le_of_ble_eq_true rfl) (Nat.le_of_ble_eq_true rfl) ?_
      exact W.vret hx hb hr (fun t ht hW => ⟨⟨(), rfl, trivial, g14, y12, by rw [ht]; exact hP9, va_K.moved hW.alike hK9, hD9, hy12⟩, hS.F ht⟩) hS.2.2 dX8_putStretch_71
    · have nc4 : 6 ≤ r1.toInt := pw_nlt c4 rfl (by decide)
      have hP9 := hP.sub (ws' := [(h0, .inr (8, [.ref b_sc, .ref b_sp, .ref b_cp, .ref b_sn, .ref b_sl, .int i_li, .int i_ed, .int i_se])), (b_sc, .inl (kI, 5, .inl g_b_sc)), (b_sp, .inl (kI, 120, .inl g_b_sp))]) [0, 1, 2] rfl
      have hD9 := hD.sub (ws' := [(h0, .inr (8, [.ref b_sc, .ref b_sp, .ref b_cp, .ref b_sn, .ref b_sl, .int i_li, .int i_ed, .int i_se])), (b_sc, .inl (kI, 5, .inl g_b_sc)), (b_sp, .inl (kI, 120, .inl g_b_sp))]) [0, 1, 2] (by decide) rfl
      have hK9 := hK.sub (tys' := [(kI, .int)]) [0] rfl
      refine W.widen (k := 0) (n := 0) (Nat.le_of_ble_eq_true rfl) (Nat.le_of_ble_eq_true rfl) ?_
      exact W.vret hx hb hr (fun t ht hW => ⟨⟨(), rfl, trivial, g_b_sc, g_b_sp, by rw [ht]; exact hP9, va_K.moved hW.alike hK9, hD9, hg_b_sp⟩, hS.F ht⟩) hS.2.2 dX8_putStretch_22
def w_X8_removeStretch : List Cond := .code yX8_removeStretch cX8_removeStretch 5 none :: ([.methodLink RX8 59 yX8_hasStretch, .instanceMethod yX8_hasStretch, .selects RX8 yX8_hasStretch yX8_hasStretch, .initialized RX8, .code yX8_hasStretch cX8_hasStretch 3 (some .boolean), .methodLink RX8 47 yX8_stretchesOf, .instanceMethod yX8_stretchesOf, .selects RX8 yX8_stretchesOf yX8_stretchesOf, .code yX8_stretchesOf cX8_stretchesOf 2 (some .int), .methodLink RX8 43 yX8_hasEdition, .instanceMethod yX8_hasEdition, .selects RX8 yX8_hasEdition yX8_hasEdition, .code yX8_hasEdition cX8_hasEdition 2 (some .boolean), .fieldLink RX8 37 "LineCites$Work" "editions" "I", .fieldLink RX8 9 "LineCites$Work" "stretchCounts" "[I", .methodLink RX8 63 yX8_part, .instanceMethod yX8_part, .selects RX8 yX8_part yX8_part, .code yX8_part cX8_part 5 (some .int), .methodLink RX8 51 yX8_placeOf, .static yX8_placeOf, .code yX8_placeOf cX8_placeOf 3 (some .int), .fieldLink RX8 15 "LineCites$Work" "stretchParts" "[I", .methodLink RX8 55 yX8_setPart, .instanceMethod yX8_setPart, .selects RX8 yX8_setPart yX8_setPart, .code yX8_setPart cX8_setPart 6 none] ++ wsX80)
set_option maxRecDepth 20000 in
theorem g_X8_removeStretch_X8_hasStretch : GoodIn w_X8_removeStretch (wsV RX8 59 RX8 yX8_hasStretch w_X8_hasStretch) := goodIn_r _ [1, 2, 3, 4, 5, 6, 7, 8, 4, 9, 10, 11, 12, 13, 14, 15, 28, 29, 30, 31, 32, 33, 34, 35] rfl (by decide +kernel)
set_option maxRecDepth 20000 in
theorem g_X8_removeStretch_X8_part : GoodIn w_X8_removeStretch (wsV RX8 63 RX8 yX8_part w_X8_part) := goodIn_r _ [16, 17, 18, 4, 19, 20, 21, 4, 22, 23, 28, 29, 30, 31, 32, 33, 34, 35] rfl (by decide +kernel)
set_option maxRecDepth 20000 in
theorem g_X8_removeStretch_X8_setPart : GoodIn w_X8_removeStretch (wsV RX8 55 RX8 yX8_setPart w_X8_setPart) := goodIn_r _ [24, 25, 26, 4, 27, 20, 21, 4, 22, 23, 28, 29, 30, 31, 32, 33, 34, 35] rfl (by decide +kernel)
set_option maxHeartbeats 4000000 in
set_option maxRecDepth 100000 in
theorem c_X8_removeStretch (l : Launch) (D : va_G) (h0 : Nat) (i_0 : Int32) (i_1 : Int32) (b_sc : Nat) (b_sp : Nat) (b_cp : Nat) (b_sn : Nat) (b_sl : Nat) (i_li : Int32) (i_ed : Int32) (i_se : Int32) (kI : ClassId) (g_b_sc : Nat → Int32) (g_b_sp : Nat → Int32) (sz : Nat) (hg_b_sp : bP g_b_sp) : Met l yX8_removeStretch w_X8_removeStretch ({ frames := 3, cells := 0, slots := 0, locals := 64 }) (va_Pc [.ref h0, .int i_0, .int i_1] (fun U => U.heap.size = sz ∧ va_P D vwCl [(h0, .inr (8, [.ref b_sc, .ref b_sp, .ref b_cp, .ref b_sn, .ref b_sl, .int i_li, .int i_ed, .int i_se])), (b_sc, .inl (kI, 5, .inl g_b_sc)), (b_sp, .inl (kI, 120, .inl g_b_sp))] U.heap ∧ va_K D vwCl [(kI, .int)] U ∧ va_D (fun _ => True) [(h0, .inr (8, [.ref b_sc, .ref b_sp, .ref b_cp, .ref b_sn, .ref b_sl, .int i_li, .int i_ed, .int i_se])), (b_sc, .inl (kI, 5, .inl g_b_sc)), (b_sp, .inl (kI, 120, .inl g_b_sp))])) (va_Qv (fun (_ : Unit) => True) (fun (_ : Unit) t => ∃ (n_sc : Nat → Int32) (n_sp : Nat → Int32), va_P D vwCl [(h0, .inr (8, [.ref b_sc, .ref b_sp, .ref b_cp, .ref b_sn, .ref b_sl, .int i_li, .int i_ed, .int i_se])), (b_sc, .inl (kI, 5, .inl n_sc)), (b_sp, .inl (kI, 120, .inl n_sp))] t.heap ∧ va_K D vwCl [(kI, .int)] t ∧ va_D (va_A [(h0, .inr (8, [.ref b_sc, .ref b_sp, .ref b_cp, .ref b_sn, .ref b_sl, .int i_li, .int i_ed, .int i_se])), (b_sc, .inl (kI, 5, .inl g_b_sc)), (b_sp, .inl (kI, 120, .inl g_b_sp))] sz) [(h0, .inr (8, [.ref b_sc, .ref b_sp, .ref b_cp, .ref b_sn, .ref b_sl, .int i_li, .int i_ed, .int i_se])), (b_sc, .inl (kI, 5, .inl n_sc)), (b_sp, .inl (kI, 120, .inl n_sp))] ∧ bP n_sp) (va_A [(h0, .inr (8, [.ref b_sc, .ref b_sp, .ref b_cp, .ref b_sn, .ref b_sl, .int i_li, .int i_ed, .int i_se])), (b_sc, .inl (kI, 5, .inl g_b_sc)), (b_sp, .inl (kI, 120, .inl g_b_sp))] sz)) 0 0 (va_A [(h0, .inr (8, [.ref b_sc, .ref b_sp, .ref b_cp, .ref b_sn, .ref b_sl, .int i_li, .int i_ed, .int i_se])), (b_sc, .inl (kI, 5, .inl g_b_sc)), (b_sp, .inl (kI, 120, .inl g_b_sp))] sz) := by
  refine Met.ofW (cc := cX8_removeStretch) (maxL := 5) (ret := none) (by decide) rfl ?_
  intro p e s m args below meth c s₁ B hml hv
  obtain ⟨rfl, hsz, hP, hK, hD0⟩ := hv
  have hx := B.exec
  have hb := B.bytes
  have hr := B.returns
  have hts := atoms_spec (ws := w_X8_removeStretch) B.pre
  have hown : s.vm.findClass RX8 = some m.cls := findClass_of_methodNamed B.named
  have hlocks := B.notSynchronized
  subst hsz
  have hD := hD0.self (sz := s.heap.size)
  generalize hAe : va_A [(h0, .inr (8, [.ref b_sc, .ref b_sp, .ref b_cp, .ref b_sn, .ref b_sl, .int i_li, .int i_ed, .int i_se])), (b_sc, .inl (kI, 5, .inl g_b_sc)), (b_sp, .inl (kI, 120, .inl g_b_sp))] s.heap.size = A at hD ⊢
  have hA : ∀ q : Nat, s.heap.size ≤ q → A q := fun q h => by rw [← hAe]; exact Or.inr h
  have hS : va_S A s.heap s.heap [] := va_S.rf
  have hP : va_P D vwCl [(h0, .inr (8, [.ref b_sc, .ref b_sp, .ref b_cp, .ref b_sn, .ref b_sl, .int i_li, .int i_ed, .int i_se])), (b_sc, .inl (kI, 5, .inl g_b_sc)), (b_sp, .inl (kI, 120, .inl g_b_sp))] s.heap := hP
  have hl := lv_entry ([.ref h0, .int i_0, .int i_1]) (n := 5) (Nat.le_of_ble_eq_true rfl)
  rw [lg_entry_eq]
  generalize (lg_sl ([.ref h0, .int i_0, .int i_1]) ++ List.replicate (5 - (lg_sl ([.ref h0, .int i_0, .int i_1])).length) Slot.unset).toArray = ls at hl ⊢
  have hl : lv_has ls 5 [(0, .ref h0), (1, .int i_0), (2, .int i_1)] := hl
  obtain ⟨H, hHe⟩ : ∃ H : Heap, H = s.heap := ⟨_, rfl⟩
  rw [← hHe] at hP
  have hS : va_S A s.heap H [] := by rw [hHe]; exact hS
  refine pw_heap hHe ?_
  refine lv_aload_n hx hb dX8_removeStretch_0 rfl (lv_at hl 0 rfl) ?_
  refine lv_iload_n hx hb dX8_removeStretch_1 rfl (lv_at hl 1 rfl) ?_
  refine lv_iload_n hx hb dX8_removeStretch_2 rfl (lv_at hl 2 rfl) ?_
  have hPc := hP.sub (ws' := [(h0, .inr (8, [.ref b_sc, .ref b_sp, .ref b_cp, .ref b_sn, .ref b_sl, .int i_li, .int i_ed, .int i_se])), (b_sc, .inl (kI, 5, .inl g_b_sc))]) [0, 1] rfl
  have hKc := hK.sub (tys' := [(kI, .int)]) [0] rfl
  refine va_calli (va_runV (As := [.int i_0, .int i_1]) (rest := []) ⟨hx, hb, hml, hown, hts⟩ (c_X8_hasStretch l D h0 i_0 i_1 b_sc b_sp b_cp b_sn b_sl i_li i_ed i_se kI g_b_sc) (cwV 2 hts g_X8_removeStretch_X8_hasStretch rfl rfl rfl (by decide +kernel) ⟨Nat.le_of_ble_eq_true rfl, Nat.le_of_ble_eq_true rfl⟩) ⟨fun a U g mk q => by obtain ⟨q0, qP, qK⟩ := q; exact ⟨q0, qP, va_K.moved (u := U) (U := U.calling g mk a) (Vm.Alike.refl U.vm) qK⟩, va_recv hKc hPc (ci := 8) (q0 := 0) rfl rfl, fun U hU hW => ⟨rfl, by rw [hU]; exact hPc, va_K.moved hW.alike hKc⟩⟩ rfl rfl hl.1 rfl (lv_room (Nat.le_of_ble_eq_true rfl)) dX8_removeStretch_3 ⟨Nat.le_of_ble_eq_true rfl, Nat.le_of_ble_eq_true rfl⟩) hS (fun _ _ h => h.elim) (fun _ h => h.elim) (fun r1 u t H1 locs ht hvm hw hB hz1 hk1 hS => ?_)
  have hP := pw_keep hP (fun q hq => hk1 q hq (fun h => h))
  generalize H1 = H at hP hS ⊢
  refine W.widen (k := 0) (n := 0) (Nat.le_of_ble_eq_true rfl) (Nat.le_of_ble_eq_true rfl) ?_
  have bor1 := hw.1
  have zor1 := pw_boolI bor1
  have hfr1 := hw.2
  refine lv_if_ne (tgt := 10) hx hb dX8_removeStretch_6 (by decide) (fun c2 => ?_) (fun c2 => ?_)
  · have nc2 : r1.toInt ≠ 0 := pw_ne c2 rfl (by decide)
    refine lv_iload_n hx hb dX8_removeStretch_10 rfl (lv_at hl 2 rfl) ?_
    refine lv_istore_n (lv' := [(3, .int i_1), (0, .ref h0), (1, .int i_0), (2, .int i_1)]) hx hb dX8_removeStretch_11 rfl hl (by decide) rfl (fun ls hl => ?_)
    have hl9 : lv_has ls 5 [(0, .ref h0), (1, .int i_0), (2, .int i_1), (3, .int i_1)] := lv_sub hl [1, 2, 3, 0] rfl
    refine pw_loop (fun (zz : Int32 × (Nat → Int32)) H locs ls => match zz with | (v163, f164) => va_P D vwCl [(h0, .inr (8, [.ref b_sc, .ref b_sp, .ref b_cp, .ref b_sn, .ref b_sl, .int i_li, .int i_ed, .int i_se])), (b_sc, .inl (kI, 5, .inl g_b_sc)), (b_sp, .inl (kI, 120, .inl f164))] H ∧ va_D A [(h0, .inr (8, [.ref b_sc, .ref b_sp, .ref b_cp, .ref b_sn, .ref b_sl, .int i_li, .int i_ed, .int i_se])), (b_sc, .inl (kI, 5, .inl g_b_sc)), (b_sp, .inl (kI, 120, .inl f164))] ∧ va_S A s.heap H locs ∧ lv_has ls 5 [(0, .ref h0), (1, .int i_0), (2, .int i_1), (3, .int v163)] ∧ bP f164 ∧ (0 ≤ v163.toInt ∧ v163.toInt ≤ 2147483646)) (fun (zz : Int32 × (Nat → Int32))  => match zz with | (v163, f164) => (2147483648 - v163.toInt).toNat) 0 0 (fun (zz : Int32 × (Nat → Int32)) ls => match zz with | (v163, f164) => F0 m 12 ls []) (fun zz H locs ls ih165 hI => ?_) (i_1, g_b_sp) _ _ _ ⟨hP, hD, hS, hl9, hg_b_sp, (by omega)⟩
    obtain ⟨v163, f164⟩ := zz
    obtain ⟨hP, hD, hS, hl, hf164, bv163⟩ := hI
    have bv163 : (0 ≤ v163.toInt ∧ v163.toInt ≤ 2147483646) := bv163
    have hP : va_P D vwCl [(h0, .inr (8, [.ref b_sc, .ref b_sp, .ref b_cp, .ref b_sn, .ref b_sl, .int i_li, .int i_ed, .int i_se])), (b_sc, .inl (kI, 5, .inl g_b_sc)), (b_sp, .inl (kI, 120, .inl f164))] H := hP
    have hD : va_D A [(h0, .inr (8, [.ref b_sc, .ref b_sp, .ref b_cp, .ref b_sn, .ref b_sl, .int i_li, .int i_ed, .int i_se])), (b_sc, .inl (kI, 5, .inl g_b_sc)), (b_sp, .inl (kI, 120, .inl f164))] := hD
    have hK : va_K D vwCl [(kI, .int)] s := hK
    have hl : lv_has ls 5 [(0, .ref h0), (1, .int i_0), (2, .int i_1), (3, .int v163)] := hl
    refine W.eq (g2 := F0 m 12 ls []) rfl ?_
    refine lv_iload_n hx hb dX8_removeStretch_12 rfl (lv_at hl 3 rfl) ?_
    refine lv_iconst (v := 1) hx hb dX8_removeStretch_13 (by decide) ?_
    refine lv_iadd hx hb dX8_removeStretch_14 ?_
    refine lv_topi (fun x166 ex166 => ?_)
    have tx166 : x166.toInt = v163.toInt + 1 := pw_addX ex166 rfl (by decide) (by omega) (by omega)
    refine lv_aload_n hx hb dX8_removeStretch_15 rfl (lv_at hl 0 rfl) ?_
    refine va_get (D := D) (ci := 8) (v := .ref b_sc) (C := RX8) (T := TX8) (N := 8) hx hb hts (fun _ h => List.mem_cons_of_mem _ (List.mem_append_right _ h)) hown hK hP 0 rfl rfl 0 (by decide) (hts (.fieldLink RX8 9 "LineCites$Work" "stretchCounts" "[I") (List.mem_of_getElem? (i := 15) rfl)) (fun _ h9 => h9) rfl dX8_removeStretch_16 ?_
    refine lv_iload_n hx hb dX8_removeStretch_19 rfl (lv_at hl 1 rfl) ?_
    refine va_iald hx hb hK hP 1 0 rfl rfl (vp_in_iff.mpr ⟨by omega, by omega⟩) dX8_removeStretch_20 ?_
    refine lv_topi (fun x167 ex167 => ?_)
    refine lv_icmp_ge (tgt := 63) hx hb dX8_removeStretch_21 (by decide) (fun c205 => ?_) (fun c205 => ?_)
    · have nc205 : x167.toInt ≤ x166.toInt := pw_le c205 rfl rfl
      have mc205x166 := pw_max x166
      have mc205x167 := pw_max x167
      refine lv_aload_n hx hb dX8_removeStretch_63 rfl (lv_at hl 0 rfl) ?_
      refine va_get (D := D) (ci := 8) (v := .ref b_sc) (C := RX8) (T := TX8) (N := 8) hx hb hts (fun _ h => List.mem_cons_of_mem _ (List.mem_append_right _ h)) hown hK hP 0 rfl rfl 0 (by decide) (hts (.fieldLink RX8 9 "LineCites$Work" "stretchCounts" "[I") (List.mem_of_getElem? (i := 15) rfl)) (fun _ h9 => h9) rfl dX8_removeStretch_64 ?_
      refine lv_iload_n hx hb dX8_removeStretch_67 rfl (lv_at hl 1 rfl) ?_
      refine lv_dup2_11 hx hb dX8_removeStretch_68 rfl rfl ?_
      refine va_iald hx hb hK hP 1 0 rfl rfl (vp_in_iff.mpr ⟨by omega, by omega⟩) dX8_removeStretch_69 ?_
      refine lv_topi (fun x206 ex206 => ?_)
      refine lv_iconst (v := 1) hx hb dX8_removeStretch_70 (by decide) ?_
      refine lv_isub hx hb dX8_removeStretch_71 ?_
      refine lv_topi (fun x207 ex207 => ?_)
      refine va_iast hx hb hK hP hD hS 1 0 rfl rfl (vp_in_iff.mpr ⟨by omega, by omega⟩) dX8_removeStretch_72 (fun H locs hP hD hS => ?_)
      obtain ⟨g208, eg208⟩ : ∃ g : Nat → Int32, g = upd g_b_sc (i_0 : Int32).toNatClampNeg x207 := ⟨_, rfl⟩
      have hP : va_P D vwCl [(h0, .inr (8, [.ref b_sc, .ref b_sp, .ref b_cp, .ref b_sn, .ref b_sl, .int i_li, .int i_ed, .int i_se])), (b_sc, .inl (kI, 5, .inl (upd g_b_sc (i_0 : Int32).toNatClampNeg x207))), (b_sp, .inl (kI, 120, .inl f164))] H := hP
      have hD : va_D A [(h0, .inr (8, [.ref b_sc, .ref b_sp, .ref b_cp, .ref b_sn, .ref b_sl, .int i_li, .int i_ed, .int i_se])), (b_sc, .inl (kI, 5, .inl (upd g_b_sc (i_0 : Int32).toNatClampNeg x207))), (b_sp, .inl (kI, 120, .inl f164))] := hD
      have hK : va_K D vwCl [(kI, .int)] s := hK
      rw [← eg208] at hP hD
      have hP9 := hP.sub (ws' := [(h0, .inr (8, [.ref b_sc, .ref b_sp, .ref b_cp, .ref b_sn, .ref b_sl, .int i_li, .int i_ed, .int i_se])), (b_sc, .inl (kI, 5, .inl g208)), (b_sp, .inl (kI, 120, .inl f164))]) [0, 1, 2] rfl
      have hD9 := hD.sub (ws' := [(h0, .inr (8, [.ref b_sc, .ref b_sp, .ref b_cp, .ref b_sn, .ref b_sl, .int i_li, .int i_ed, .int i_se])), (b_sc, .inl (kI, 5, .inl g208)), (b_sp, .inl (kI, 120, .inl f164))]) [0, 1, 2] (by decide) rfl
      have hK9 := hK.sub (tys' := [(kI, .int)]) [0] rfl
      refine W.widen (k := 0) (n := 0) (Nat.le_of_ble_eq_true rfl) (Nat.le_of_ble_eq_true rfl) ?_
      exact W.vret hx hb hr (fun t ht hW => ⟨⟨(), rfl, trivial, g208, f164, by rw [ht]; exact hP9, va_K.moved hW.alike hK9, hD9, hf164⟩, hS.F ht⟩) hS.2.2 dX8_removeStretch_73
    · have nc205 : x166.toInt < x167.toInt := pw_nle c205 rfl rfl
      have mc205x166 := pw_max x166
      have mc205x167 := pw_max x167
      refine lv_iconst (v := 0) hx hb dX8_removeStretch_24 (by decide) ?_
      refine lv_istore (lv' := [(4, .int 0), (0, .ref h0), (1, .int i_0), (2, .int i_1), (3, .int v163)]) hx hb dX8_removeStretch_25 hl (by decide) rfl (fun ls hl => ?_)
      have hl9 : lv_has ls 5 [(0, .ref h0), (1, .int i_0), (2, .int i_1), (3, .int v163), (4, .int 0)] := lv_sub hl [1, 2, 3, 4, 0] rfl
      refine pw_loop (fun (zz : Int32 × (Nat → Int32)) H locs ls => match zz with | (v229, f230) => va_P D vwCl [(h0, .inr (8, [.ref b_sc, .ref b_sp, .ref b_cp, .ref b_sn, .ref b_sl, .int i_li, .int i_ed, .int i_se])), (b_sc, .inl (kI, 5, .inl g_b_sc)), (b_sp, .inl (kI, 120, .inl f230))] H ∧ va_D A [(h0, .inr (8, [.ref b_sc, .ref b_sp, .ref b_cp, .ref b_sn, .ref b_sl, .int i_li, .int i_ed, .int i_se])), (b_sc, .inl (kI, 5, .inl g_b_sc)), (b_sp, .inl (kI, 120, .inl f230))] ∧ va_S A s.heap H locs ∧ lv_has ls 5 [(0, .ref h0), (1, .int i_0), (2, .int i_1), (3, .int v163), (4, .int v229)] ∧ bP f230 ∧ 0 ≤ v229.toInt) (fun (zz : Int32 × (Nat → Int32))  => match zz with | (v229, f230) => (2147483648 - v229.toInt).toNat) 0 0 (fun (zz : Int32 × (Nat → Int32)) ls => match zz with | (v229, f230) => F0 m 27 ls []) (fun zz H locs ls ih231 hI => ?_) (0, f164) _ _ _ ⟨hP, hD, hS, hl9, hf164, (by decide)⟩
      obtain ⟨v229, f230⟩ := zz
      obtain ⟨hP, hD, hS, hl, hf230, bv229⟩ := hI
      have bv229 : 0 ≤ v229.toInt := bv229
      have hP : va_P D vwCl [(h0, .inr (8, [.ref b_sc, .ref b_sp, .ref b_cp, .ref b_sn, .ref b_sl, .int i_li, .int i_ed, .int i_se])), (b_sc, .inl (kI, 5, .inl g_b_sc)), (b_sp, .inl (kI, 120, .inl f230))] H := hP
      have hD : va_D A [(h0, .inr (8, [.ref b_sc, .ref b_sp, .ref b_cp, .ref b_sn, .ref b_sl, .int i_li, .int i_ed, .int i_se])), (b_sc, .inl (kI, 5, .inl g_b_sc)), (b_sp, .inl (kI, 120, .inl f230))] := hD
      have hK : va_K D vwCl [(kI, .int)] s := hK
      have hl : lv_has ls 5 [(0, .ref h0), (1, .int i_0), (2, .int i_1), (3, .int v163), (4, .int v229)] := hl
      refine W.eq (g2 := F0 m 27 ls []) rfl ?_
      refine lv_iload hx hb dX8_removeStretch_27 (lv_at hl 4 rfl) ?_
      refine lv_iconst (v := 4) hx hb dX8_removeStretch_29 (by decide) ?_
      refine lv_icmp_ge (tgt := 57) hx hb dX8_removeStretch_30 (by decide) (fun c238 => ?_) (fun c238 => ?_)
      · have nc238 : 4 ≤ v229.toInt := pw_le c238 (by decide) rfl
        obtain ⟨x239, ex239⟩ : ∃ y : Int32, y = v163 + 1 := ⟨_, rfl⟩
        have tx239 : x239.toInt = v163.toInt + 1 := pw_addX ex239 rfl (by decide) (by omega) (by omega)
        refine lv_iinc (v := x239) (lv' := [(3, .int x239), (0, .ref h0), (1, .int i_0), (2, .int i_1), (4, .int v229)]) hx hb dX8_removeStretch_57 hl (k := 3) rfl (by rw [ex239]; rfl) (by decide) rfl (fun ls hl => ?_)
        refine lv_goto (tgt := 12) hx hb dX8_removeStretch_60 (by decide) ?_
        have hP9 : va_P D vwCl [(h0, .inr (8, [.ref b_sc, .ref b_sp, .ref b_cp, .ref b_sn, .ref b_sl, .int i_li, .int i_ed, .int i_se])), (b_sc, .inl (kI, 5, .inl g_b_sc)), (b_sp, .inl (kI, 120, .inl f230))] H := hP.sub [0, 1, 2] rfl
        have hD9 : va_D A [(h0, .inr (8, [.ref b_sc, .ref b_sp, .ref b_cp, .ref b_sn, .ref b_sl, .int i_li, .int i_ed, .int i_se])), (b_sc, .inl (kI, 5, .inl g_b_sc)), (b_sp, .inl (kI, 120, .inl f230))] := hD.sub [0, 1, 2] (by decide) rfl
        have hl9 : lv_has ls 5 [(0, .ref h0), (1, .int i_0), (2, .int i_1), (3, .int x239)] := lv_sub hl [1, 2, 3, 0] rfl
        refine W.widen (k := 0) (n := 0) (Nat.le_of_ble_eq_true rfl) (Nat.le_of_ble_eq_true rfl) ?_
        exact ih165 (x239, f230) _ _ _ (pw_up ex239 (by omega)) ⟨hP9, hD9, hS, hl9, hf230, (by omega)⟩
      · have nc238 : v229.toInt < 4 := pw_nle c238 (by decide) rfl
        refine lv_aload_n hx hb dX8_removeStretch_33 rfl (lv_at hl 0 rfl) ?_
        refine lv_iload_n hx hb dX8_removeStretch_34 rfl (lv_at hl 1 rfl) ?_
        refine lv_iload_n hx hb dX8_removeStretch_35 rfl (lv_at hl 3 rfl) ?_
        refine lv_iload hx hb dX8_removeStretch_36 (lv_at hl 4 rfl) ?_
        refine lv_aload_n hx hb dX8_removeStretch_38 rfl (lv_at hl 0 rfl) ?_
        refine lv_iload_n hx hb dX8_removeStretch_39 rfl (lv_at hl 1 rfl) ?_
        refine lv_iload_n hx hb dX8_removeStretch_40 rfl (lv_at hl 3 rfl) ?_
        refine lv_iconst (v := 1) hx hb dX8_removeStretch_41 (by decide) ?_
        refine lv_iadd hx hb dX8_removeStretch_42 ?_
        refine lv_topi (fun x240 ex240 => ?_)
        have tx240 : x240.toInt = v163.toInt + 1 := pw_addX ex240 rfl (by decide) (by omega) (by omega)
        refine lv_iload hx hb dX8_removeStretch_43 (lv_at hl 4 rfl) ?_
        have hPc := hP.sub (ws' := [(h0, .inr (8, [.ref b_sc, .ref b_sp, .ref b_cp, .ref b_sn, .ref b_sl, .int i_li, .int i_ed, .int i_se])), (b_sp, .inl (kI, 120, .inl f230))]) [0, 2] rfl
        have hKc := hK.sub (tys' := [(kI, .int)]) [0] rfl
        refine va_calli (va_runV (As := [.int i_0, .int x240, .int v229]) (rest := [.int v229, .int v163, .int i_0, .ref h0]) ⟨hx, hb, hml, hown, hts⟩ (c_X8_part l D h0 i_0 x240 v229 b_sc b_sp b_cp b_sn b_sl i_li i_ed i_se kI f230 hf230) (cwV 3 hts g_X8_removeStretch_X8_part rfl rfl rfl (by decide +kernel) ⟨Nat.le_of_ble_eq_true rfl, Nat.le_of_ble_eq_true rfl⟩) ⟨fun a U g mk q => by obtain ⟨q0, qP, qK⟩ := q; exact ⟨q0, qP, va_K.moved (u := U) (U := U.calling g mk a) (Vm.Alike.refl U.vm) qK⟩, va_recv hKc hPc (ci := 8) (q0 := 0) rfl rfl, fun U hU hW => ⟨rfl, by rw [hU]; exact hPc, va_K.moved hW.alike hKc⟩⟩ rfl rfl hl.1 rfl (lv_room (Nat.le_of_ble_eq_true rfl)) dX8_removeStretch_45 ⟨Nat.le_of_ble_eq_true rfl, Nat.le_of_ble_eq_true rfl⟩) hS (fun _ _ h => h.elim) (fun _ h => h.elim) (fun r241 u t H1 locs ht hvm hw hB hz1 hk1 hS => ?_)
        have hP := pw_keep hP (fun q hq => hk1 q hq (fun h => h))
        generalize H1 = H at hP hS ⊢
        refine W.widen (k := 0) (n := 0) (Nat.le_of_ble_eq_true rfl) (Nat.le_of_ble_eq_true rfl) ?_
        have hfr241 := hw
        have hPc := hP.sub (ws' := [(h0, .inr (8, [.ref b_sc, .ref b_sp, .ref b_cp, .ref b_sn, .ref b_sl, .int i_li, .int i_ed, .int i_se])), (b_sp, .inl (kI, 120, .inl f230))]) [0, 2] rfl
        have hKc := hK.sub (tys' := [(kI, .int)]) [0] rfl
        have hDc := hD.sub (ws' := [(h0, .inr (8, [.ref b_sc, .ref b_sp, .ref b_cp, .ref b_sn, .ref b_sl, .int i_li, .int i_ed, .int i_se])), (b_sp, .inl (kI, 120, .inl f230))]) [0, 2] (by decide) rfl
        have hFc := va_free (wc := [(h0, .inr (8, [.ref b_sc, .ref b_sp, .ref b_cp, .ref b_sn, .ref b_sl, .int i_li, .int i_ed, .int i_se])), (b_sp, .inl (kI, 120, .inl f230))]) hD hS hA [0, 2] rfl
        refine va_callv (va_runV (As := [.int i_0, .int v163, .int v229, .int r241]) (rest := []) ⟨hx, hb, hml, hown, hts⟩ (c_X8_setPart l D h0 i_0 v163 v229 r241 b_sc b_sp b_cp b_sn b_sl i_li i_ed i_se kI f230 H.size (by first | decide | omega) (by first | decide | omega) hf230) (cwV 4 hts g_X8_removeStretch_X8_setPart rfl rfl rfl (by decide +kernel) ⟨Nat.le_of_ble_eq_true rfl, Nat.le_of_ble_eq_true rfl⟩) ⟨fun a U g mk q => by obtain ⟨q0, q1, qP, qK, qD⟩ := q; exact ⟨q0, q1, qP, va_K.moved (u := U) (U := U.calling g mk a) (Vm.Alike.refl U.vm) qK, qD⟩, va_recv hKc hPc (ci := 8) (q0 := 0) rfl rfl, fun U hU hW => ⟨rfl, by rw [hU], by rw [hU]; exact hPc, va_K.moved hW.alike hKc, hDc.weaken (fun _ _ _ _ => trivial)⟩⟩ rfl rfl hl.1 rfl (lv_room (Nat.le_of_ble_eq_true rfl)) dX8_removeStretch_48 ⟨Nat.le_of_ble_eq_true rfl, Nat.le_of_ble_eq_true rfl⟩) hS (fun q _ h => hFc q h) hFc (fun u t H1 locs ht hvm hw hB hz1 hk1 hS => ?_)
        obtain ⟨y243, hP1, hK1, hD1, hy243⟩ := hB
        rw [ht] at hP1
        have hK1 := va_K.moved hvm.symm hK1
        obtain ⟨hP, hD⟩ := va_join (wr := [(b_sc, .inl (kI, 5, .inl g_b_sc))]) (w1 := [(h0, .inr (8, [.ref b_sc, .ref b_sp, .ref b_cp, .ref b_sn, .ref b_sl, .int i_li, .int i_ed, .int i_se])), (b_sp, .inl (kI, 120, .inl y243))]) hP hD [0, 2] [1] rfl rfl (by decide) (by decide) hk1 hFc hP1 hD1
        have hK := (hK.sub (tys' := [(kI, .int)]) [0] rfl).app hK1
        generalize H1 = H at hP hS ⊢
        have hP : va_P D vwCl [(b_sc, .inl (kI, 5, .inl g_b_sc)), (h0, .inr (8, [.ref b_sc, .ref b_sp, .ref b_cp, .ref b_sn, .ref b_sl, .int i_li, .int i_ed, .int i_se])), (b_sp, .inl (kI, 120, .inl y243))] H := hP
        have hD : va_D A [(b_sc, .inl (kI, 5, .inl g_b_sc)), (h0, .inr (8, [.ref b_sc, .ref b_sp, .ref b_cp, .ref b_sn, .ref b_sl, .int i_li, .int i_ed, .int i_se])), (b_sp, .inl (kI, 120, .inl y243))] := hD
        have hK : va_K D vwCl [(kI, .int), (kI, .int)] s := hK
        refine W.widen (k := 0) (n := 0) (Nat.le_of_ble_eq_true rfl) (Nat.le_of_ble_eq_true rfl) ?_
        obtain ⟨x244, ex244⟩ : ∃ y : Int32, y = v229 + 1 := ⟨_, rfl⟩
        have tx244 : x244.toInt = v229.toInt + 1 := pw_addX ex244 rfl (by decide) (by omega) (by omega)
        refine lv_iinc (v := x244) (lv' := [(4, .int x244), (0, .ref h0), (1, .int i_0), (2, .int i_1), (3, .int v163)]) hx hb dX8_removeStretch_51 hl (k := 4) rfl (by rw [ex244]; rfl) (by decide) rfl (fun ls hl => ?_)
        refine lv_goto (tgt := 27) hx hb dX8_removeStretch_54 (by decide) ?_
        have hP9 : va_P D vwCl [(h0, .inr (8, [.ref b_sc, .ref b_sp, .ref b_cp, .ref b_sn, .ref b_sl, .int i_li, .int i_ed, .int i_se])), (b_sc, .inl (kI, 5, .inl g_b_sc)), (b_sp, .inl (kI, 120, .inl y243))] H := hP.sub [1, 0, 2] rfl
        have hD9 : va_D A [(h0, .inr (8, [.ref b_sc, .ref b_sp, .ref b_cp, .ref b_sn, .ref b_sl, .int i_li, .int i_ed, .int i_se])), (b_sc, .inl (kI, 5, .inl g_b_sc)), (b_sp, .inl (kI, 120, .inl y243))] := hD.sub [1, 0, 2] (by decide) rfl
        have hl9 : lv_has ls 5 [(0, .ref h0), (1, .int i_0), (2, .int i_1), (3, .int v163), (4, .int x244)] := lv_sub hl [1, 2, 3, 4, 0] rfl
        refine W.widen (k := 0) (n := 0) (Nat.le_of_ble_eq_true rfl) (Nat.le_of_ble_eq_true rfl) ?_
        exact ih231 (x244, y243) _ _ _ (pw_up ex244 (by omega)) ⟨hP9, hD9, hS, hl9, hy243, (pw_upge ex244 (by omega) (by omega))⟩
  · have nc2 : r1.toInt = 0 := pw_eq c2 rfl (by decide)
    have hP9 := hP.sub (ws' := [(h0, .inr (8, [.ref b_sc, .ref b_sp, .ref b_cp, .ref b_sn, .ref b_sl, .int i_li, .int i_ed, .int i_se])), (b_sc, .inl (kI, 5, .inl g_b_sc)), (b_sp, .inl (kI, 120, .inl g_b_sp))]) [0, 1, 2] rfl
    have hD9 := hD.sub (ws' := [(h0, .inr (8, [.ref b_sc, .ref b_sp, .ref b_cp, .ref b_sn, .ref b_sl, .int i_li, .int i_ed, .int i_se])), (b_sc, .inl (kI, 5, .inl g_b_sc)), (b_sp, .inl (kI, 120, .inl g_b_sp))]) [0, 1, 2] (by decide) rfl
    have hK9 := hK.sub (tys' := [(kI, .int)]) [0] rfl
    refine W.widen (k := 0) (n := 0) (Nat.le_of_ble_eq_true rfl) (Nat.le_of_ble_eq_true rfl) ?_
    exact W.vret hx hb hr (fun t ht hW => ⟨⟨(), rfl, trivial, g_b_sc, g_b_sp, by rw [ht]; exact hP9, va_K.moved hW.alike hK9, hD9, hg_b_sp⟩, hS.F ht⟩) hS.2.2 dX8_removeStretch_9
def w_X8_isFree : List Cond := .code yX8_isFree cX8_isFree 8 (some .boolean) :: ([.methodLink RX8 47 yX8_stretchesOf, .instanceMethod yX8_stretchesOf, .selects RX8 yX8_stretchesOf yX8_stretchesOf, .initialized RX8, .code yX8_stretchesOf cX8_stretchesOf 2 (some .int), .methodLink RX8 43 yX8_hasEdition, .instanceMethod yX8_hasEdition, .selects RX8 yX8_hasEdition yX8_hasEdition, .code yX8_hasEdition cX8_hasEdition 2 (some .boolean), .fieldLink RX8 37 "LineCites$Work" "editions" "I", .fieldLink RX8 9 "LineCites$Work" "stretchCounts" "[I", .methodLink RX8 63 yX8_part, .instanceMethod yX8_part, .selects RX8 yX8_part yX8_part, .code yX8_part cX8_part 5 (some .int), .methodLink RX8 51 yX8_placeOf, .static yX8_placeOf, .code yX8_placeOf cX8_placeOf 3 (some .int), .fieldLink RX8 15 "LineCites$Work" "stretchParts" "[I"] ++ wsX80)
set_option maxRecDepth 20000 in
theorem g_X8_isFree_X8_stretchesOf : GoodIn w_X8_isFree (wsV RX8 47 RX8 yX8_stretchesOf w_X8_stretchesOf) := goodIn_r _ [1, 2, 3, 4, 5, 6, 7, 8, 4, 9, 10, 11, 20, 21, 22, 23, 24, 25, 26, 27] rfl (by decide +kernel)
set_option maxRecDepth 20000 in
theorem g_X8_isFree_X8_part : GoodIn w_X8_isFree (wsV RX8 63 RX8 yX8_part w_X8_part) := goodIn_r _ [12, 13, 14, 4, 15, 16, 17, 4, 18, 19, 20, 21, 22, 23, 24, 25, 26, 27] rfl (by decide +kernel)
set_option maxHeartbeats 4000000 in
set_option maxRecDepth 100000 in
theorem c_X8_isFree (l : Launch) (D : va_G) (h0 : Nat) (i_0 : Int32) (i_1 : Int32) (i_2 : Int32) (i_3 : Int32) (b_sc : Nat) (b_sp : Nat) (b_cp : Nat) (b_sn : Nat) (b_sl : Nat) (i_li : Int32) (i_ed : Int32) (i_se : Int32) (kI : ClassId) (g_b_sc : Nat → Int32) (g_b_sp : Nat → Int32) (hg_b_sp : bP g_b_sp) : Met l yX8_isFree w_X8_isFree ({ frames := 2, cells := 0, slots := 0, locals := 46 }) (va_Pc [.ref h0, .int i_0, .int i_1, .int i_2, .int i_3] (fun U => va_P D vwCl [(h0, .inr (8, [.ref b_sc, .ref b_sp, .ref b_cp, .ref b_sn, .ref b_sl, .int i_li, .int i_ed, .int i_se])), (b_sc, .inl (kI, 5, .inl g_b_sc)), (b_sp, .inl (kI, 120, .inl g_b_sp))] U.heap ∧ va_K D vwCl [(kI, .int)] U)) (va_Qi (fun (r : Int32) (_ : Unit) => (r = 0 ∨ r = 1) ∧ True) (fun _ _ => True) (fun _ => False)) 0 0 (fun _ => False) := by
  refine Met.ofW (cc := cX8_isFree) (maxL := 8) (ret := (some .boolean)) (by decide) rfl ?_
  intro p e s m args below meth c s₁ B hml hv
  obtain ⟨rfl, hP, hK⟩ := hv
  have hx := B.exec
  have hb := B.bytes
  have hr := B.returns
  have hts := atoms_spec (ws := w_X8_isFree) B.pre
  have hown : s.vm.findClass RX8 = some m.cls := findClass_of_methodNamed B.named
  have hlocks := B.notSynchronized
  have hS : va_S (fun _ : Nat => False) s.heap s.heap [] := va_S.rf
  have hP : va_P D vwCl [(h0, .inr (8, [.ref b_sc, .ref b_sp, .ref b_cp, .ref b_sn, .ref b_sl, .int i_li, .int i_ed, .int i_se])), (b_sc, .inl (kI, 5, .inl g_b_sc)), (b_sp, .inl (kI, 120, .inl g_b_sp))] s.heap := hP
  have hl := lv_entry ([.ref h0, .int i_0, .int i_1, .int i_2, .int i_3]) (n := 8) (Nat.le_of_ble_eq_true rfl)
  rw [lg_entry_eq]
  generalize (lg_sl ([.ref h0, .int i_0, .int i_1, .int i_2, .int i_3]) ++ List.replicate (8 - (lg_sl ([.ref h0, .int i_0, .int i_1, .int i_2, .int i_3])).length) Slot.unset).toArray = ls at hl ⊢
  have hl : lv_has ls 8 [(0, .ref h0), (1, .int i_0), (2, .int i_1), (3, .int i_2), (4, .int i_3)] := hl
  obtain ⟨H, hHe⟩ : ∃ H : Heap, H = s.heap := ⟨_, rfl⟩
  rw [← hHe] at hP
  have hS : va_S (fun _ : Nat => False) s.heap H [] := by rw [hHe]; exact hS
  refine pw_heap hHe ?_
  refine lv_iconst (v := 0) hx hb dX8_isFree_0 (by decide) ?_
  refine lv_istore (lv' := [(5, .int 0), (0, .ref h0), (1, .int i_0), (2, .int i_1), (3, .int i_2), (4, .int i_3)]) hx hb dX8_isFree_1 hl (by decide) rfl (fun ls hl => ?_)
  have hl9 : lv_has ls 8 [(0, .ref h0), (1, .int i_0), (2, .int i_1), (3, .int i_2), (4, .int i_3), (5, .int 0)] := lv_sub hl [1, 2, 3, 4, 5, 0] rfl
  refine pw_loop (fun (zz : Int32 × Int32 × Int32 × Int32) H locs ls => match zz with | (v42, v43, v44, v45) => va_P D vwCl [(h0, .inr (8, [.ref b_sc, .ref b_sp, .ref b_cp, .ref b_sn, .ref b_sl, .int i_li, .int i_ed, .int i_se])), (b_sc, .inl (kI, 5, .inl g_b_sc)), (b_sp, .inl (kI, 120, .inl g_b_sp))] H ∧ va_S (fun _ : Nat => False) s.heap H locs ∧ lv_has ls 8 [(0, .ref h0), (1, .int i_0), (2, .int v42), (3, .int v43), (4, .int v44), (5, .int v45)] ∧ 0 ≤ v45.toInt) (fun (zz : Int32 × Int32 × Int32 × Int32)  => match zz with | (v42, v43, v44, v45) => (2147483648 - v45.toInt).toNat) 0 0 (fun (zz : Int32 × Int32 × Int32 × Int32) ls => match zz with | (v42, v43, v44, v45) => F0 m 3 ls []) (fun zz H locs ls ih46 hI => ?_) (i_1, i_2, i_3, 0) _ _ _ ⟨hP, hS, hl9, (by decide)⟩
  obtain ⟨v42, v43, v44, v45⟩ := zz
  obtain ⟨hP, hS, hl, bv45⟩ := hI
  have bv45 : 0 ≤ v45.toInt := bv45
  have hP : va_P D vwCl [(h0, .inr (8, [.ref b_sc, .ref b_sp, .ref b_cp, .ref b_sn, .ref b_sl, .int i_li, .int i_ed, .int i_se])), (b_sc, .inl (kI, 5, .inl g_b_sc)), (b_sp, .inl (kI, 120, .inl g_b_sp))] H := hP
  have hK : va_K D vwCl [(kI, .int)] s := hK
  have hl : lv_has ls 8 [(0, .ref h0), (1, .int i_0), (2, .int v42), (3, .int v43), (4, .int v44), (5, .int v45)] := hl
  refine W.eq (g2 := F0 m 3 ls []) rfl ?_
  refine lv_iload hx hb dX8_isFree_3 (lv_at hl 5 rfl) ?_
  refine lv_aload_n hx hb dX8_isFree_5 rfl (lv_at hl 0 rfl) ?_
  refine lv_iload_n hx hb dX8_isFree_6 rfl (lv_at hl 1 rfl) ?_
  have hPc := hP.sub (ws' := [(h0, .inr (8, [.ref b_sc, .ref b_sp, .ref b_cp, .ref b_sn, .ref b_sl, .int i_li, .int i_ed, .int i_se])), (b_sc, .inl (kI, 5, .inl g_b_sc))]) [0, 1] rfl
  have hKc := hK.sub (tys' := [(kI, .int)]) [0] rfl
  refine va_calli (va_runV (As := [.int i_0]) (rest := [.int v45]) ⟨hx, hb, hml, hown, hts⟩ (c_X8_stretchesOf l D h0 i_0 b_sc b_sp b_cp b_sn b_sl i_li i_ed i_se kI g_b_sc) (cwV 1 hts g_X8_isFree_X8_stretchesOf rfl rfl rfl (by decide +kernel) ⟨Nat.le_of_ble_eq_true rfl, Nat.le_of_ble_eq_true rfl⟩) ⟨fun a U g mk q => by obtain ⟨q0, qP, qK⟩ := q; exact ⟨q0, qP, va_K.moved (u := U) (U := U.calling g mk a) (Vm.Alike.refl U.vm) qK⟩, va_recv hKc hPc (ci := 8) (q0 := 0) rfl rfl, fun U hU hW => ⟨rfl, by rw [hU]; exact hPc, va_K.moved hW.alike hKc⟩⟩ rfl rfl hl.1 rfl (lv_room (Nat.le_of_ble_eq_true rfl)) dX8_isFree_7 ⟨Nat.le_of_ble_eq_true rfl, Nat.le_of_ble_eq_true rfl⟩) hS (fun _ _ h => h.elim) (fun _ h => h.elim) (fun r47 u t H1 locs ht hvm hw hB hz1 hk1 hS => ?_)
  have hP := pw_keep hP (fun q hq => hk1 q hq (fun h => h))
  generalize H1 = H at hP hS ⊢
  refine W.widen (k := 0) (n := 0) (Nat.le_of_ble_eq_true rfl) (Nat.le_of_ble_eq_true rfl) ?_
  have hfr47 := hw
  refine lv_icmp_ge (tgt := 73) hx hb dX8_isFree_10 (by decide) (fun c48 => ?_) (fun c48 => ?_)
  · have nc48 : r47.toInt ≤ v45.toInt := pw_le c48 rfl rfl
    have mc48v45 := pw_max v45
    have mc48r47 := pw_max r47
    refine lv_iconst (v := 1) hx hb dX8_isFree_73 (by decide) ?_
    exact W.zret (v := 1) (ty := .boolean) hx hb hr rfl (fun t ht hW => ⟨⟨1, (), rfl, ⟨Or.inr rfl, trivial⟩, trivial⟩, hS.F ht⟩) hS.2.2 dX8_isFree_74
  · have nc48 : v45.toInt < r47.toInt := pw_nle c48 rfl rfl
    have mc48v45 := pw_max v45
    have mc48r47 := pw_max r47
    refine lv_aload_n hx hb dX8_isFree_13 rfl (lv_at hl 0 rfl) ?_
    refine lv_iload_n hx hb dX8_isFree_14 rfl (lv_at hl 1 rfl) ?_
    refine lv_iload hx hb dX8_isFree_15 (lv_at hl 5 rfl) ?_
    refine lv_iconst (v := 1) hx hb dX8_isFree_17 (by decide) ?_
    have hPc := hP.sub (ws' := [(h0, .inr (8, [.ref b_sc, .ref b_sp, .ref b_cp, .ref b_sn, .ref b_sl, .int i_li, .int i_ed, .int i_se])), (b_sp, .inl (kI, 120, .inl g_b_sp))]) [0, 2] rfl
    have hKc := hK.sub (tys' := [(kI, .int)]) [0] rfl
    refine va_calli (va_runV (As := [.int i_0, .int v45, .int 1]) (rest := []) ⟨hx, hb, hml, hown, hts⟩ (c_X8_part l D h0 i_0 v45 1 b_sc b_sp b_cp b_sn b_sl i_li i_ed i_se kI g_b_sp hg_b_sp) (cwV 3 hts g_X8_isFree_X8_part rfl rfl rfl (by decide +kernel) ⟨Nat.le_of_ble_eq_true rfl, Nat.le_of_ble_eq_true rfl⟩) ⟨fun a U g mk q => by obtain ⟨q0, qP, qK⟩ := q; exact ⟨q0, qP, va_K.moved (u := U) (U := U.calling g mk a) (Vm.Alike.refl U.vm) qK⟩, va_recv hKc hPc (ci := 8) (q0 := 0) rfl rfl, fun U hU hW => ⟨rfl, by rw [hU]; exact hPc, va_K.moved hW.alike hKc⟩⟩ rfl rfl hl.1 rfl (lv_room (Nat.le_of_ble_eq_true rfl)) dX8_isFree_18 ⟨Nat.le_of_ble_eq_true rfl, Nat.le_of_ble_eq_true rfl⟩) hS (fun _ _ h => h.elim) (fun _ h => h.elim) (fun r49 u t H1 locs ht hvm hw hB hz1 hk1 hS => ?_)
    have hP := pw_keep hP (fun q hq => hk1 q hq (fun h => h))
    generalize H1 = H at hP hS ⊢
    refine W.widen (k := 0) (n := 0) (Nat.le_of_ble_eq_true rfl) (Nat.le_of_ble_eq_true rfl) ?_
    have hfr49 := hw
    refine lv_istore (lv' := [(6, .int r49), (0, .ref h0), (1, .int i_0), (2, .int v42), (3, .int v43), (4, .int v44), (5, .int v45)]) hx hb dX8_isFree_21 hl (by decide) rfl (fun ls hl => ?_)
    refine lv_iload_n hx hb dX8_isFree_23 rfl (lv_at hl 4 rfl) ?_
    refine lv_iload hx hb dX8_isFree_24 (lv_at hl 5 rfl) ?_
    refine lv_iadd hx hb dX8_isFree_26 ?_
    refine lv_topi (fun x50 ex50 => ?_)
    refine lv_iload hx hb dX8_isFree_27 (lv_at hl 0 rfl) ?_
    refine pw_join (fun (v55 : Int32) H locs ls => va_P D vwCl [(h0, .inr (8, [.ref b_sc, .ref b_sp, .ref b_cp, .ref b_sn, .ref b_sl, .int i_li, .int i_ed, .int i_se])), (b_sc, .inl (kI, 5, .inl g_b_sc)), (b_sp, .inl (kI, 120, .inl g_b_sp))] H ∧ va_S (fun _ : Nat => False) s.heap H locs ∧ lv_has ls 8 [(0, .ref h0), (1, .int i_0), (2, .int v42), (3, .int v43), (4, .int v44), (5, .int v45), (6, .int r49)]) 0 0 (fun (v55 : Int32) ls => F0 m 52 ls [.int v55]) (fun v55 H locs ls hI => ?_) (fun hJ56 => ?_)
    ·
      obtain ⟨hP, hS, hl⟩ := hI
      have hP : va_P D vwCl [(h0, .inr (8, [.ref b_sc, .ref b_sp, .ref b_cp, .ref b_sn, .ref b_sl, .int i_li, .int i_ed, .int i_se])), (b_sc, .inl (kI, 5, .inl g_b_sc)), (b_sp, .inl (kI, 120, .inl g_b_sp))] H := hP
      have hK : va_K D vwCl [(kI, .int)] s := hK
      have hl : lv_has ls 8 [(0, .ref h0), (1, .int i_0), (2, .int v42), (3, .int v43), (4, .int v44), (5, .int v45), (6, .int r49)] := hl
      refine W.eq (g2 := F0 m 52 ls [.int v55]) rfl ?_
      refine lv_istore (lv' := [(7, .int v55), (0, .ref h0), (1, .int i_0), (2, .int v42), (3, .int v43), (4, .int v44), (5, .int v45), (6, .int r49)]) hx hb dX8_isFree_52 hl (by decide) rfl (fun ls hl => ?_)
      refine lv_iload hx hb dX8_isFree_54 (lv_at hl 6 rfl) ?_
      refine lv_iload_n hx hb dX8_isFree_56 rfl (lv_at hl 3 rfl) ?_
      refine lv_icmp_eq (tgt := 67) hx hb dX8_isFree_57 (by decide) (fun c57 => ?_) (fun c57 => ?_)
      · have nc57 : v45.toInt = v42.toInt := pw_eq c57 rfl rfl
        have mc57v45 := pw_max v45
        have mc57v42 := pw_max v42
        obtain ⟨x58, ex58⟩ : ∃ y : Int32, y = v45 + 1 := ⟨_, rfl⟩
        refine lv_iinc (v := x58) (lv' := [(5, .int x58), (7, .int v55), (0, .ref h0), (1, .int i_0), (2, .int v42), (3, .int v43), (4, .int v44), (6, .int r49)]) hx hb dX8_isFree_67 hl (k := 6) rfl (by rw [ex58]; rfl) (by decide) rfl (fun ls hl => ?_)
        refine lv_goto (tgt := 3) hx hb dX8_isFree_70 (by decide) ?_
        have hP9 : va_P D vwCl [(h0, .inr (8, [.ref b_sc, .ref b_sp, .ref b_cp, .ref b_sn, .ref b_sl, .int i_li, .int i_ed, .int i_se])), (b_sc, .inl (kI, 5, .inl g_b_sc)), (b_sp, .inl (kI, 120, .inl g_b_sp))] H := hP.sub [0, 1, 2] rfl
        have hl9 : lv_has ls 8 [(0, .ref h0), (1, .int i_0), (2, .int v42), (3, .int v43), (4, .int v44), (5, .int x58)] := lv_sub hl [2, 3, 4, 5, 6, 0] rfl
        refine W.widen (k := 0) (n := 0) (Nat.le_of_ble_eq_true rfl) (Nat.le_of_ble_eq_true rfl) ?_
        exact ih46 (v42, v43, v44, x58) _ _ _ (pw_up ex58 (by omega)) ⟨hP9, hS, hl9, (pw_upge ex58 (by omega) (by omega))⟩
      · have nc57 : v45.toInt ≠ v42.toInt := pw_ne c57 rfl rfl
        have mc57v45 := pw_max v45
        have mc57v42 := pw_max v42
        refine lv_iload hx hb dX8_isFree_60 (lv_at hl 0 rfl) ?_
        refine lv_if_ne (tgt := 67) hx hb dX8_isFree_62 (by decide) (fun c59 => ?_) (fun c59 => ?_)
        · have nc59 : v55.toInt ≠ 0 := pw_ne c59 rfl (by decide)
          obtain ⟨x60, ex60⟩ : ∃ y : Int32, y = v45 + 1 := ⟨_, rfl⟩
          refine lv_iinc (v := x60) (lv' := [(5, .int x60), (7, .int v55), (0, .ref h0), (1, .int i_0), (2, .int v42), (3, .int v43), (4, .int v44), (6, .int r49)]) hx hb dX8_isFree_67 hl (k := 6) rfl (by rw [ex60]; rfl) (by decide) rfl (fun ls hl => ?_)
          refine lv_goto (tgt := 3) hx hb dX8_isFree_70 (by decide) ?_
          have hP9 : va_P D vwCl [(h0, .inr (8, [.ref b_sc, .ref b_sp, .ref b_cp, .ref b_sn, .ref b_sl, .int i_li, .int i_ed, .int i_se])), (b_sc, .inl (kI, 5, .inl g_b_sc)), (b_sp, .inl (kI, 120, .inl g_b_sp))] H := hP.sub [0, 1, 2] rfl
          have hl9 : lv_has ls 8 [(0, .ref h0), (1, .int i_0), (2, .int v42), (3, .int v43), (4, .int v44), (5, .int x60)] := lv_sub hl [2, 3, 4, 5, 6, 0] rfl
          refine W.widen (k := 0) (n := 0) (Nat.le_of_ble_eq_true rfl) (Nat.le_of_ble_eq_true rfl) ?_
          exact ih46 (v42, v43, v44, x60) _ _ _ (pw_up ex60 (by omega)) ⟨hP9, hS, hl9, (pw_upge ex60 (by omega) (by omega))⟩
        · have nc59 : v55.toInt = 0 := pw_eq c59 rfl (by decide)
          refine lv_iconst (v := 0) hx hb dX8_isFree_65 (by decide) ?_
          exact W.zret (v := 0) (ty := .boolean) hx hb hr rfl (fun t ht hW => ⟨⟨0, (), rfl, ⟨Or.inl rfl, trivial⟩, trivial⟩, hS.F ht⟩) hS.2.2 dX8_isFree_66
    ·
      refine lv_icmp_le (tgt := 47) hx hb dX8_isFree_29 (by decide) (fun c61 => ?_) (fun c61 => ?_)
      · have nc61 : x50.toInt ≤ r49.toInt := pw_le c61 rfl rfl
        have mc61x50 := pw_max x50
        have mc61r49 := pw_max r49
        refine lv_iconst (v := 1) hx hb dX8_isFree_47 (by decide) ?_
        refine lv_goto (tgt := 52) hx hb dX8_isFree_48 (by decide) ?_
        have hP9 : va_P D vwCl [(h0, .inr (8, [.ref b_sc, .ref b_sp, .ref b_cp, .ref b_sn, .ref b_sl, .int i_li, .int i_ed, .int i_se])), (b_sc, .inl (kI, 5, .inl g_b_sc)), (b_sp, .inl (kI, 120, .inl g_b_sp))] H := hP.sub [0, 1, 2] rfl
        have hl9 : lv_has ls 8 [(0, .ref h0), (1, .int i_0), (2, .int v42), (3, .int v43), (4, .int v44), (5, .int v45), (6, .int r49)] := lv_sub hl [1, 2, 3, 4, 5, 6, 0] rfl
        refine W.widen (k := 0) (n := 0) (Nat.le_of_ble_eq_true rfl) (Nat.le_of_ble_eq_true rfl) ?_
        exact hJ56 1 _ _ _ ⟨hP9, hS, hl9⟩
      · have nc61 : r49.toInt < x50.toInt := pw_nle c61 rfl rfl
        have mc61x50 := pw_max x50
        have mc61r49 := pw_max r49
        refine lv_iload hx hb dX8_isFree_32 (lv_at hl 0 rfl) ?_
        refine lv_aload_n hx hb dX8_isFree_34 rfl (lv_at hl 1 rfl) ?_
        refine lv_iload_n hx hb dX8_isFree_35 rfl (lv_at hl 2 rfl) ?_
        refine lv_iload hx hb dX8_isFree_36 (lv_at hl 6 rfl) ?_
        refine lv_iconst (v := 2) hx hb dX8_isFree_38 (by decide) ?_
        have hPc := hP.sub (ws' := [(h0, .inr (8, [.ref b_sc, .ref b_sp, .ref b_cp, .ref b_sn, .ref b_sl, .int i_li, .int i_ed, .int i_se])), (b_sp, .inl (kI, 120, .inl g_b_sp))]) [0, 2] rfl
        have hKc := hK.sub (tys' := [(kI, .int)]) [0] rfl
        refine va_calli (va_runV (As := [.int i_0, .int v45, .int 2]) (rest := [.int r49]) ⟨hx, hb, hml, hown, hts⟩ (c_X8_part l D h0 i_0 v45 2 b_sc b_sp b_cp b_sn b_sl i_li i_ed i_se kI g_b_sp hg_b_sp) (cwV 3 hts g_X8_isFree_X8_part rfl rfl rfl (by decide +kernel) ⟨Nat.le_of_ble_eq_true rfl, Nat.le_of_ble_eq_true rfl⟩) ⟨fun a U g mk q => by obtain ⟨q0, qP, qK⟩ := q; exact ⟨q0, qP, va_K.moved (u := U) (U := U.calling g mk a) (Vm.Alike.refl U.vm) qK⟩, va_recv hKc hPc (ci := 8) (q0 := 0) rfl rfl, fun U hU hW => ⟨rfl, by rw [hU]; exact hPc, va_K.moved hW.alike hKc⟩⟩ rfl rfl hl.1 rfl (lv_room (Nat.le_of_ble_eq_true rfl)) dX8_isFree_39 ⟨Nat.le_of_ble_eq_true rfl, Nat.le_of_ble_eq_true rfl⟩) hS (fun _ _ h => h.elim) (fun _ h => h.elim) (fun r62 u t H1 locs ht hvm hw hB hz1 hk1 hS => ?_)
        have hP := pw_keep hP (fun q hq => hk1 q hq (fun h => h))
        generalize H1 = H at hP hS ⊢
        refine W.widen (k := 0) (n := 0) (Nat.le_of_ble_eq_true rfl) (Nat.le_of_ble_eq_true rfl) ?_
        have hfr62 := hw
        refine lv_iadd hx hb dX8_isFree_42 ?_
        refine lv_topi (fun x63 ex63 => ?_)
        have tx63 : x63.toInt = r49.toInt + r62.toInt := pw_addX ex63 rfl rfl (by omega) (by omega)
        refine lv_iload_n hx hb dX8_isFree_43 rfl (lv_at hl 4 rfl) ?_
        refine lv_icmp_gt (tgt := 51) hx hb dX8_isFree_44 (by decide) (fun c64 => ?_) (fun c64 => ?_)
        · have nc64 : v43.toInt < x63.toInt := pw_lt c64 rfl rfl
          have mc64x63 := pw_max x63
          have mc64v43 := pw_max v43
          refine lv_iconst (v := 0) hx hb dX8_isFree_51 (by decide) ?_
          have hP9 : va_P D vwCl [(h0, .inr (8, [.ref b_sc, .ref b_sp, .ref b_cp, .ref b_sn, .ref b_sl, .int i_li, .int i_ed, .int i_se])), (b_sc, .inl (kI, 5, .inl g_b_sc)), (b_sp, .inl (kI, 120, .inl g_b_sp))] H := hP.sub [0, 1, 2] rfl
          have hl9 : lv_has ls 8 [(0, .ref h0), (1, .int i_0), (2, .int v42), (3, .int v43), (4, .int v44), (5, .int v45), (6, .int r49)] := lv_sub hl [1, 2, 3, 4, 5, 6, 0] rfl
          refine W.widen (k := 0) (n := 0) (Nat.le_of_ble_eq_true rfl) (Nat.le_of_ble_eq_true rfl) ?_
          exact hJ56 0 _ _ _ ⟨hP9, hS, hl9⟩
        · have nc64 : x63.toInt ≤ v43.toInt := pw_nlt c64 rfl rfl
          have mc64x63 := pw_max x63
          have mc64v43 := pw_max v43
          refine lv_iconst (v := 1) hx hb dX8_isFree_47 (by decide) ?_
          refine lv_goto (tgt := 52) hx hb dX8_isFree_48 (by decide) ?_
          have hP9 : va_P D vwCl [(h0, .inr (8, [.ref b_sc, .ref b_sp, .ref b_cp, .ref b_sn, .ref b_sl, .int i_li, .int i_ed, .int i_se])), (b_sc, .inl (kI, 5, .inl g_b_sc)), (b_sp, .inl (kI, 120, .inl g_b_sp))] H := hP.sub [0, 1, 2] rfl
          have hl9 : lv_has ls 8 [(0, .ref h0), (1, .int i_0), (2, .int v42), (3, .int v43), (4, .int v44), (5, .int v45), (6, .int r49)] := lv_sub hl [1, 2, 3, 4, 5, 6, 0] rfl
          refine W.widen (k := 0) (n := 0) (Nat.le_of_ble_eq_true rfl) (Nat.le_of_ble_eq_true rfl) ?_
          exact hJ56 1 _ _ _ ⟨hP9, hS, hl9⟩
def w_X8_citedPart : List Cond := .code yX8_citedPart cX8_citedPart 4 (some .int) :: ([.fieldLink RX8 18 "LineCites$Work" "citedParts" "[I"] ++ wsX80)
set_option maxHeartbeats 4000000 in
set_option maxRecDepth 100000 in
theorem c_X8_citedPart (l : Launch) (D : va_G) (h0 : Nat) (i_c : Int32) (i_w : Int32) (b_sc : Nat) (b_sp : Nat) (b_cp : Nat) (b_sn : Nat) (b_sl : Nat) (i_li : Int32) (i_ed : Int32) (i_se : Int32) (kI : ClassId) (g_b_cp : Nat → Int32) : Met l yX8_citedPart w_X8_citedPart ({ frames := 0, cells := 0, slots := 0, locals := 0 }) (va_Pc [.ref h0, .int i_c, .int i_w] (fun U => va_P D vwCl [(h0, .inr (8, [.ref b_sc, .ref b_sp, .ref b_cp, .ref b_sn, .ref b_sl, .int i_li, .int i_ed, .int i_se])), (b_cp, .inl (kI, 32, .inl g_b_cp))] U.heap ∧ va_K D vwCl [(kI, .int)] U)) (va_Qi (fun (r : Int32) (_ : Unit) => True) (fun _ _ => True) (fun _ => False)) 0 0 (fun _ => False) := by
  refine Met.ofW (cc := cX8_citedPart) (maxL := 4) (ret := (some .int)) (by decide) rfl ?_
  intro p e s m args below meth c s₁ B hml hv
  obtain ⟨rfl, hP, hK⟩ := hv
  have hx := B.exec
  have hb := B.bytes
  have hr := B.returns
  have hts := atoms_spec (ws := w_X8_citedPart) B.pre
  have hown : s.vm.findClass RX8 = some m.cls := findClass_of_methodNamed B.named
  have hlocks := B.notSynchronized
  have hS : va_S (fun _ : Nat => False) s.heap s.heap [] := va_S.rf
  have hP : va_P D vwCl [(h0, .inr (8, [.ref b_sc, .ref b_sp, .ref b_cp, .ref b_sn, .ref b_sl, .int i_li, .int i_ed, .int i_se])), (b_cp, .inl (kI, 32, .inl g_b_cp))] s.heap := hP
  have hl := lv_entry ([.ref h0, .int i_c, .int i_w]) (n := 4) (Nat.le_of_ble_eq_true rfl)
  rw [lg_entry_eq]
  generalize (lg_sl ([.ref h0, .int i_c, .int i_w]) ++ List.replicate (4 - (lg_sl ([.ref h0, .int i_c, .int i_w])).length) Slot.unset).toArray = ls at hl ⊢
  have hl : lv_has ls 4 [(0, .ref h0), (1, .int i_c), (2, .int i_w)] := hl
  obtain ⟨H, hHe⟩ : ∃ H : Heap, H = s.heap := ⟨_, rfl⟩
  rw [← hHe] at hP
  have hS : va_S (fun _ : Nat => False) s.heap H [] := by rw [hHe]; exact hS
  refine pw_heap hHe ?_
  refine lv_iload_n hx hb dX8_citedPart_0 rfl (lv_at hl 1 rfl) ?_
  refine lv_iconst (v := 4) hx hb dX8_citedPart_1 (by decide) ?_
  refine lv_imul hx hb dX8_citedPart_2 ?_
  refine lv_topi (fun x1 ex1 => ?_)
  refine lv_iload_n hx hb dX8_citedPart_3 rfl (lv_at hl 2 rfl) ?_
  refine lv_iadd hx hb dX8_citedPart_4 ?_
  refine lv_topi (fun x2 ex2 => ?_)
  refine lv_istore_n (lv' := [(3, .int x2), (0, .ref h0), (1, .int i_c), (2, .int i_w)]) hx hb dX8_citedPart_5 rfl hl (by decide) rfl (fun ls hl => ?_)
  refine lv_iload_n hx hb dX8_citedPart_6 rfl (lv_at hl 0 rfl) ?_
  refine lv_if_lt (tgt := 19) hx hb dX8_citedPart_7 (by decide) (fun c3 => ?_) (fun c3 => ?_)
  · have nc3 : x2.toInt < 0 := pw_lt c3 rfl (by decide)
    refine lv_iconst (v := 0) hx hb dX8_citedPart_19 (by decide) ?_
    refine lv_goto (tgt := 29) hx hb dX8_citedPart_20 (by decide) ?_
    exact W.iret (v := 0) hx hb hr (fun t ht hW => ⟨⟨0, (), rfl, trivial, trivial⟩, hS.F ht⟩) hS.2.2 dX8_citedPart_29
  · have nc3 : 0 ≤ x2.toInt := pw_nlt c3 rfl (by decide)
    refine lv_iload_n hx hb dX8_citedPart_10 rfl (lv_at hl 0 rfl) ?_
    refine lv_aload_n hx hb dX8_citedPart_11 rfl (lv_at hl 1 rfl) ?_
    refine va_get (D := D) (ci := 8) (v := .ref b_cp) (C := RX8) (T := TX8) (N := 8) hx hb hts (fun _ h => List.mem_cons_of_mem _ (List.mem_append_right _ h)) hown hK hP 0 rfl rfl 2 (by decide) (hts (.fieldLink RX8 18 "LineCites$Work" "citedParts" "[I") (List.mem_of_getElem? (i := 1) rfl)) (fun _ h9 => h9) rfl dX8_citedPart_12 ?_
    refine va_alen (v := 32) hx hb hK hP 1 0 rfl rfl rfl dX8_citedPart_15 ?_
    refine lv_icmp_lt (tgt := 23) hx hb dX8_citedPart_16 (by decide) (fun c4 => ?_) (fun c4 => ?_)
    · have nc4 : x2.toInt < 32 := pw_lt c4 rfl (by decide)
      refine lv_aload_n hx hb dX8_citedPart_23 rfl (lv_at hl 1 rfl) ?_
      refine va_get (D := D) (ci := 8) (v := .ref b_cp) (C := RX8) (T := TX8) (N := 8) hx hb hts (fun _ h => List.mem_cons_of_mem _ (List.mem_append_right _ h)) hown hK hP 0 rfl rfl 2 (by decide) (hts (.fieldLink RX8 18 "LineCites$Work" "citedParts" "[I") (List.mem_of_getElem? (i := 1) rfl)) (fun _ h9 => h9) rfl dX8_citedPart_24 ?_
      refine lv_iload_n hx hb dX8_citedPart_27 rfl (lv_at hl 0 rfl) ?_
      refine va_iald hx hb hK hP 1 0 rfl rfl (vp_in_iff.mpr ⟨by omega, by omega⟩) dX8_citedPart_28 ?_
      refine lv_topi (fun x5 ex5 => ?_)
      exact W.iret (v := x5) hx hb hr (fun t ht hW => ⟨⟨x5, (), rfl, trivial, trivial⟩, hS.F ht⟩) hS.2.2 dX8_citedPart_29
    · have nc4 : 32 ≤ x2.toInt := pw_nlt c4 rfl (by decide)
      refine lv_iconst (v := 0) hx hb dX8_citedPart_19 (by decide) ?_
      refine lv_goto (tgt := 29) hx hb dX8_citedPart_20 (by decide) ?_
      exact W.iret (v := 0) hx hb hr (fun t ht hW => ⟨⟨0, (), rfl, trivial, trivial⟩, hS.F ht⟩) hS.2.2 dX8_citedPart_29
def w_X8_setCitedPart : List Cond := .code yX8_setCitedPart cX8_setCitedPart 5 none :: ([.fieldLink RX8 18 "LineCites$Work" "citedParts" "[I"] ++ wsX80)
set_option maxHeartbeats 4000000 in
set_option maxRecDepth 100000 in
theorem c_X8_setCitedPart (l : Launch) (D : va_G) (h0 : Nat) (i_c : Int32) (i_w : Int32) (i_v : Int32) (b_sc : Nat) (b_sp : Nat) (b_cp : Nat) (b_sn : Nat) (b_sl : Nat) (i_li : Int32) (i_ed : Int32) (i_se : Int32) (kI : ClassId) (g_b_cp : Nat → Int32) (sz : Nat) : Met l yX8_setCitedPart w_X8_setCitedPart ({ frames := 0, cells := 0, slots := 0, locals := 0 }) (va_Pc [.ref h0, .int i_c, .int i_w, .int i_v] (fun U => U.heap.size = sz ∧ va_P D vwCl [(h0, .inr (8, [.ref b_sc, .ref b_sp, .ref b_cp, .ref b_sn, .ref b_sl, .int i_li, .int i_ed, .int i_se])), (b_cp, .inl (kI, 32, .inl g_b_cp))] U.heap ∧ va_K D vwCl [(kI, .int)] U ∧ va_D (fun _ => True) [(h0, .inr (8, [.ref b_sc, .ref b_sp, .ref b_cp, .ref b_sn, .ref b_sl, .int i_li, .int i_ed, .int i_se])), (b_cp, .inl (kI, 32, .inl g_b_cp))])) (va_Qv (fun (_ : Unit) => True) (fun (_ : Unit) t => ∃ (n_cp : Nat → Int32), va_P D vwCl [(h0, .inr (8, [.ref b_sc, .ref b_sp, .ref b_cp, .ref b_sn, .ref b_sl, .int i_li, .int i_ed, .int i_se])), (b_cp, .inl (kI, 32, .inl n_cp))] t.heap ∧ va_K D vwCl [(kI, .int)] t ∧ va_D (va_A [(h0, .inr (8, [.ref b_sc, .ref b_sp, .ref b_cp, .ref b_sn, .ref b_sl, .int i_li, .int i_ed, .int i_se])), (b_cp, .inl (kI, 32, .inl g_b_cp))] sz) [(h0, .inr (8, [.ref b_sc, .ref b_sp, .ref b_cp, .ref b_sn, .ref b_sl, .int i_li, .int i_ed, .int i_se])), (b_cp, .inl (kI, 32, .inl n_cp))]) (va_A [(h0, .inr (8, [.ref b_sc, .ref b_sp, .ref b_cp, .ref b_sn, .ref b_sl, .int i_li, .int i_ed, .int i_se])), (b_cp, .inl (kI, 32, .inl g_b_cp))] sz)) 0 0 (va_A [(h0, .inr (8, [.ref b_sc, .ref b_sp, .ref b_cp, .ref b_sn, .ref b_sl, .int i_li, .int i_ed, .int i_se])), (b_cp, .inl (kI, 32, .inl g_b_cp))] sz) := by
  refine Met.ofW (cc := cX8_setCitedPart) (maxL := 5) (ret := none) (by decide) rfl ?_
  intro p e s m args below meth c s₁ B hml hv
  obtain ⟨rfl, hsz, hP, hK, hD0⟩ := hv
  have hx := B.exec
  have hb := B.bytes
  have hr := B.returns
  have hts := atoms_spec (ws := w_X8_setCitedPart) B.pre
  have hown : s.vm.findClass RX8 = some m.cls := findClass_of_methodNamed B.named
  have hlocks := B.notSynchronized
  subst hsz
  have hD := hD0.self (sz := s.heap.size)
  generalize hAe : va_A [(h0, .inr (8, [.ref b_sc, .ref b_sp, .ref b_cp, .ref b_sn, .ref b_sl, .int i_li, .int i_ed, .int i_se])), (b_cp, .inl (kI, 32, .inl g_b_cp))] s.heap.size = A at hD ⊢
  have hA : ∀ q : Nat, s.heap.size ≤ q → A q := fun q h => by rw [← hAe]; exact Or.inr h
  have hS : va_S A s.heap s.heap [] := va_S.rf
  have hP : va_P D vwCl [(h0, .inr (8, [.ref b_sc, .ref b_sp, .ref b_cp, .ref b_sn, .ref b_sl, .int i_li, .int i_ed, .int i_se])), (b_cp, .inl (kI, 32, .inl g_b_cp))] s.heap := hP
  have hl := lv_entry ([.ref h0, .int i_c, .int i_w, .int i_v]) (n := 5) (Nat.le_of_ble_eq_true rfl)
  rw [lg_entry_eq]
  generalize (lg_sl ([.ref h0, .int i_c, .int i_w, .int i_v]) ++ List.replicate (5 - (lg_sl ([.ref h0, .int i_c, .int i_w, .int i_v])).length) Slot.unset).toArray = ls at hl ⊢
  have hl : lv_has ls 5 [(0, .ref h0), (1, .int i_c), (2, .int i_w), (3, .int i_v)] := hl
  obtain ⟨H, hHe⟩ : ∃ H : Heap, H = s.heap := ⟨_, rfl⟩
  rw [← hHe] at hP
  have hS : va_S A s.heap H [] := by rw [hHe]; exact hS
  refine pw_heap hHe ?_
  refine lv_iload_n hx hb dX8_setCitedPart_0 rfl (lv_at hl 1 rfl) ?_
  refine lv_iconst (v := 4) hx hb dX8_setCitedPart_1 (by decide) ?_
  refine lv_imul hx hb dX8_setCitedPart_2 ?_
  refine lv_topi (fun x1 ex1 => ?_)
  refine lv_iload_n hx hb dX8_setCitedPart_3 rfl (lv_at hl 2 rfl) ?_
  refine lv_iadd hx hb dX8_setCitedPart_4 ?_
  refine lv_topi (fun x2 ex2 => ?_)
  refine lv_istore (lv' := [(4, .int x2), (0, .ref h0), (1, .int i_c), (2, .int i_w), (3, .int i_v)]) hx hb dX8_setCitedPart_5 hl (by decide) rfl (fun ls hl => ?_)
  refine lv_iload hx hb dX8_setCitedPart_7 (lv_at hl 0 rfl) ?_
  refine lv_if_lt (tgt := 30) hx hb dX8_setCitedPart_9 (by decide) (fun c3 => ?_) (fun c3 => ?_)
  · have nc3 : x2.toInt < 0 := pw_lt c3 rfl (by decide)
    have hP9 := hP.sub (ws' := [(h0, .inr (8, [.ref b_sc, .ref b_sp, .ref b_cp, .ref b_sn, .ref b_sl, .int i_li, .int i_ed, .int i_se])), (b_cp, .inl (kI, 32, .inl g_b_cp))]) [0, 1] rfl
    have hD9 := hD.sub (ws' := [(h0, .inr (8, [.ref b_sc, .ref b_sp, .ref b_cp, .ref b_sn, .ref b_sl, .int i_li, .int i_ed, .int i_se])), (b_cp, .inl (kI, 32, .inl g_b_cp))]) [0, 1] (by decide) rfl
    have hK9 := hK.sub (tys' := [(kI, .int)]) [0] rfl
    refine W.widen (k := 0) (n := 0) (Nat.le_of_ble_eq_true rfl) (Nat.le_of_ble_eq_true rfl) ?_
    exact W.vret hx hb hr (fun t ht hW => ⟨⟨(), rfl, trivial, g_b_cp, by rw [ht]; exact hP9, va_K.moved hW.alike hK9, hD9⟩, hS.F ht⟩) hS.2.2 dX8_setCitedPart_30
  · have nc3 : 0 ≤ x2.toInt := pw_nlt c3 rfl (by decide)
    refine lv_iload hx hb dX8_setCitedPart_12 (lv_at hl 0 rfl) ?_
    refine lv_aload_n hx hb dX8_setCitedPart_14 rfl (lv_at hl 1 rfl) ?_
    refine va_get (D := D) (ci := 8) (v := .ref b_cp) (C := RX8) (T := TX8) (N := 8) hx hb hts (fun _ h => List.mem_cons_of_mem _ (List.mem_append_right _ h)) hown hK hP 0 rfl rfl 2 (by decide) (hts (.fieldLink RX8 18 "LineCites$Work" "citedParts" "[I") (List.mem_of_getElem? (i := 1) rfl)) (fun _ h9 => h9) rfl dX8_setCitedPart_15 ?_
    refine va_alen (v := 32) hx hb hK hP 1 0 rfl rfl rfl dX8_setCitedPart_18 ?_
    refine lv_icmp_ge (tgt := 30) hx hb dX8_setCitedPart_19 (by decide) (fun c4 => ?_) (fun c4 => ?_)
    · have nc4 : 32 ≤ x2.toInt := pw_le c4 (by decide) rfl
      have hP9 := hP.sub (ws' := [(h0, .inr (8, [.ref b_sc, .ref b_sp, .ref b_cp, .ref b_sn, .ref b_sl, .int i_li, .int i_ed, .int i_se])), (b_cp, .inl (kI, 32, .inl g_b_cp))]) [0, 1] rfl
      have hD9 := hD.sub (ws' := [(h0, .inr (8, [.ref b_sc, .ref b_sp, .ref b_cp, .ref b_sn, .ref b_sl, .int i_li, .int i_ed, .int i_se])), (b_cp, .inl (kI, 32, .inl g_b_cp))]) [0, 1] (by decide) rfl
      have hK9 := hK.sub (tys' := [(kI, .int)]) [0] rfl
      refine W.widen (k := 0) (n := 0) (Nat.le_of_ble_eq_true rfl) (Nat.le_of_ble_eq_true rfl) ?_
      exact W.vret hx hb hr (fun t ht hW => ⟨⟨(), rfl, trivial, g_b_cp, by rw [ht]; exact hP9, va_K.moved hW.alike hK9, hD9⟩, hS.F ht⟩) hS.2.2 dX8_setCitedPart_30
    · have nc4 : x2.toInt < 32 := pw_nle c4 (by decide) rfl
      refine lv_aload_n hx hb dX8_setCitedPart_22 rfl (lv_at hl 1 rfl) ?_
      refine va_get (D := D) (ci := 8) (v := .ref b_cp) (C := RX8) (T := TX8) (N := 8) hx hb hts (fun _ h => List.mem_cons_of_mem _ (List.mem_append_right _ h)) hown hK hP 0 rfl rfl 2 (by decide) (hts (.fieldLink RX8 18 "LineCites$Work" "citedParts" "[I") (List.mem_of_getElem? (i := 1) rfl)) (fun _ h9 => h9) rfl dX8_setCitedPart_23 ?_
      refine lv_iload hx hb dX8_setCitedPart_26 (lv_at hl 0 rfl) ?_
      refine lv_iload_n hx hb dX8_setCitedPart_28 rfl (lv_at hl 4 rfl) ?_
      refine va_iast hx hb hK hP hD hS 1 0 rfl rfl (vp_in_iff.mpr ⟨by omega, by omega⟩) dX8_setCitedPart_29 (fun H locs hP hD hS => ?_)
      obtain ⟨g5, eg5⟩ : ∃ g : Nat → Int32, g = upd g_b_cp (x2 : Int32).toNatClampNeg i_v := ⟨_, rfl⟩
      have hP : va_P D vwCl [(h0, .inr (8, [.ref b_sc, .ref b_sp, .ref b_cp, .ref b_sn, .ref b_sl, .int i_li, .int i_ed, .int i_se])), (b_cp, .inl (kI, 32, .inl (upd g_b_cp (x2 : Int32).toNatClampNeg i_v)))] H := hP
      have hD : va_D A [(h0, .inr (8, [.ref b_sc, .ref b_sp, .ref b_cp, .ref b_sn, .ref b_sl, .int i_li, .int i_ed, .int i_se])), (b_cp, .inl (kI, 32, .inl (upd g_b_cp (x2 : Int32).toNatClampNeg i_v)))] := hD
      have hK : va_K D vwCl [(kI, .int)] s := hK
      rw [← eg5] at hP hD
      have hP9 := hP.sub (ws' := [(h0, .inr (8, [.ref b_sc, .ref b_sp, .ref b_cp, .ref b_sn, .ref b_sl, .int i_li, .int i_ed, .int i_se])), (b_cp, .inl (kI, 32, .inl g5))]) [0, 1] rfl
      have hD9 := hD.sub (ws' := [(h0, .inr (8, [.ref b_sc, .ref b_sp, .ref b_cp, .ref b_sn, .ref b_sl, .int i_li, .int i_ed, .int i_se])), (b_cp, .inl (kI, 32, .inl g5))]) [0, 1] (by decide) rfl
      have hK9 := hK.sub (tys' := [(kI, .int)]) [0] rfl
      refine W.widen (k := 0) (n := 0) (Nat.le_of_ble_eq_true rfl) (Nat.le_of_ble_eq_true rfl) ?_
      exact W.vret hx hb hr (fun t ht hW => ⟨⟨(), rfl, trivial, g5, by rw [ht]; exact hP9, va_K.moved hW.alike hK9, hD9⟩, hS.F ht⟩) hS.2.2 dX8_setCitedPart_30
def w_X8_hasCitation : List Cond := .code yX8_hasCitation cX8_hasCitation 2 (some .boolean) :: ([.methodLink RX8 89 yX8_citedPart, .instanceMethod yX8_citedPart, .selects RX8 yX8_citedPart yX8_citedPart, .initialized RX8, .code yX8_citedPart cX8_citedPart 4 (some .int), .fieldLink RX8 18 "LineCites$Work" "citedParts" "[I"] ++ wsX80)
set_option maxRecDepth 20000 in
theorem g_X8_hasCitation_X8_citedPart : GoodIn w_X8_hasCitation (wsV RX8 89 RX8 yX8_citedPart w_X8_citedPart) := goodIn_r _ [1, 2, 3, 4, 5, 6, 7, 8, 9, 10, 11, 12, 13, 14] rfl (by decide +kernel)
set_option maxHeartbeats 4000000 in
set_option maxRecDepth 100000 in
theorem c_X8_hasCitation (l : Launch) (D : va_G) (h0 : Nat) (i_c : Int32) (b_sc : Nat) (b_sp : Nat) (b_cp : Nat) (b_sn : Nat) (b_sl : Nat) (i_li : Int32) (i_ed : Int32) (i_se : Int32) (kI : ClassId) (g_b_cp : Nat → Int32) : Met l yX8_hasCitation w_X8_hasCitation ({ frames := 1, cells := 0, slots := 0, locals := 23 }) (va_Pc [.ref h0, .int i_c] (fun U => va_P D vwCl [(h0, .inr (8, [.ref b_sc, .ref b_sp, .ref b_cp, .ref b_sn, .ref b_sl, .int i_li, .int i_ed, .int i_se])), (b_cp, .inl (kI, 32, .inl g_b_cp))] U.heap ∧ va_K D vwCl [(kI, .int)] U)) (va_Qi (fun (r : Int32) (_ : Unit) => (r = 0 ∨ r = 1) ∧ True) (fun _ _ => True) (fun _ => False)) 0 0 (fun _ => False) := by
  refine Met.ofW (cc := cX8_hasCitation) (maxL := 2) (ret := (some .boolean)) (by decide) rfl ?_
  intro p e s m args below meth c s₁ B hml hv
  obtain ⟨rfl, hP, hK⟩ := hv
  have hx := B.exec
  have hb := B.bytes
  have hr := B.returns
  have hts := atoms_spec (ws := w_X8_hasCitation) B.pre
  have hown : s.vm.findClass RX8 = some m.cls := findClass_of_methodNamed B.named
  have hlocks := B.notSynchronized
  have hS : va_S (fun _ : Nat => False) s.heap s.heap [] := va_S.rf
  have hP : va_P D vwCl [(h0, .inr (8, [.ref b_sc, .ref b_sp, .ref b_cp, .ref b_sn, .ref b_sl, .int i_li, .int i_ed, .int i_se])), (b_cp, .inl (kI, 32, .inl g_b_cp))] s.heap := hP
  have hl := lv_entry ([.ref h0, .int i_c]) (n := 2) (Nat.le_of_ble_eq_true rfl)
  rw [lg_entry_eq]
  generalize (lg_sl ([.ref h0, .int i_c]) ++ List.replicate (2 - (lg_sl ([.ref h0, .int i_c])).length) Slot.unset).toArray = ls at hl ⊢
  have hl : lv_has ls 2 [(0, .ref h0), (1, .int i_c)] := hl
  obtain ⟨H, hHe⟩ : ∃ H : Heap, H = s.heap := ⟨_, rfl⟩
  rw [← hHe] at hP
  have hS : va_S (fun _ : Nat => False) s.heap H [] := by rw [hHe]; exact hS
  refine pw_heap hHe ?_
  refine lv_iload_n hx hb dX8_hasCitation_0 rfl (lv_at hl 1 rfl) ?_
  refine lv_if_lt (tgt := 23) hx hb dX8_hasCitation_1 (by decide) (fun c1 => ?_) (fun c1 => ?_)
  · have nc1 : i_c.toInt < 0 := pw_lt c1 rfl (by decide)
    refine lv_iconst (v := 0) hx hb dX8_hasCitation_23 (by decide) ?_
    exact W.zret (v := 0) (ty := .boolean) hx hb hr rfl (fun t ht hW => ⟨⟨0, (), rfl, ⟨Or.inl rfl, trivial⟩, trivial⟩, hS.F ht⟩) hS.2.2 dX8_hasCitation_24
  · have nc1 : 0 ≤ i_c.toInt := pw_nlt c1 rfl (by decide)
    refine lv_iload_n hx hb dX8_hasCitation_4 rfl (lv_at hl 1 rfl) ?_
    refine lv_bipush (v := 8) hx hb dX8_hasCitation_5 (by decide) ?_
    refine lv_icmp_ge (tgt := 23) hx hb dX8_hasCitation_7 (by decide) (fun c2 => ?_) (fun c2 => ?_)
    · have nc2 : 8 ≤ i_c.toInt := pw_le c2 (by decide) rfl
      refine lv_iconst (v := 0) hx hb dX8_hasCitation_23 (by decide) ?_
      exact W.zret (v := 0) (ty := .boolean) hx hb hr rfl (fun t ht hW => ⟨⟨0, (), rfl, ⟨Or.inl rfl, trivial⟩, trivial⟩, hS.F ht⟩) hS.2.2 dX8_hasCitation_24
    · have nc2 : i_c.toInt < 8 := pw_nle c2 (by decide) rfl
      refine lv_aload_n hx hb dX8_hasCitation_10 rfl (lv_at hl 0 rfl) ?_
      refine lv_iload_n hx hb dX8_hasCitation_11 rfl (lv_at hl 1 rfl) ?_
      refine lv_iconst (v := 2) hx hb dX8_hasCitation_12 (by decide) ?_
      have hPc := hP.sub (ws' := [(h0, .inr (8, [.ref b_sc, .ref b_sp, .ref b_cp, .ref b_sn, .ref b_sl, .int i_li, .int i_ed, .int i_se])), (b_cp, .inl (kI, 32, .inl g_b_cp))]) [0, 1] rfl
      have hKc := hK.sub (tys' := [(kI, .int)]) [0] rfl
      refine va_calli (va_runV (As := [.int i_c, .int 2]) (rest := []) ⟨hx, hb, hml, hown, hts⟩ (c_X8_citedPart l D h0 i_c 2 b_sc b_sp b_cp b_sn b_sl i_li i_ed i_se kI g_b_cp) (cwV 2 hts g_X8_hasCitation_X8_citedPart rfl rfl rfl (by decide +kernel) ⟨Nat.le_of_ble_eq_true rfl, Nat.le_of_ble_eq_true rfl⟩) ⟨fun a U g mk q => by obtain ⟨q0, qP, qK⟩ := q; exact ⟨q0, qP, va_K.moved (u := U) (U := U.calling g mk a) (Vm.Alike.refl U.vm) qK⟩, va_recv hKc hPc (ci := 8) (q0 := 0) rfl rfl, fun U hU hW => ⟨rfl, by rw [hU]; exact hPc, va_K.moved hW.alike hKc⟩⟩ rfl rfl hl.1 rfl (lv_room (Nat.le_of_ble_eq_true rfl)) dX8_hasCitation_13 ⟨Nat.le_of_ble_eq_true rfl, Nat.le_of_ble_eq_true rfl⟩) hS (fun _ _ h => h.elim) (fun _ h => h.elim) (fun r3 u t H1 locs ht hvm hw hB hz1 hk1 hS => ?_)
      have hP := pw_keep hP (fun q hq => hk1 q hq (fun h => h))
      generalize H1 = H at hP hS ⊢
      refine W.widen (k := 0) (n := 0) (Nat.le_of_ble_eq_true rfl) (Nat.le_of_ble_eq_true rfl) ?_
      refine lv_if_le (tgt := 23) hx hb dX8_hasCitation_16 (by decide) (fun c4 => ?_) (fun c4 => ?_)
      · have nc4 : r3.toInt ≤ 0 := pw_le c4 rfl (by decide)
        refine lv_iconst (v := 0) hx hb dX8_hasCitation_23 (by decide) ?_
        exact W.zret (v := 0) (ty := .boolean) hx hb hr rfl (fun t ht hW => ⟨⟨0, (), rfl, ⟨Or.inl rfl, trivial⟩, trivial⟩, hS.F ht⟩) hS.2.2 dX8_hasCitation_24
      · have nc4 : 0 < r3.toInt := pw_nle c4 rfl (by decide)
        refine lv_iconst (v := 1) hx hb dX8_hasCitation_19 (by decide) ?_
        refine lv_goto (tgt := 24) hx hb dX8_hasCitation_20 (by decide) ?_
        exact W.zret (v := 1) (ty := .boolean) hx hb hr rfl (fun t ht hW => ⟨⟨1, (), rfl, ⟨Or.inr rfl, trivial⟩, trivial⟩, hS.F ht⟩) hS.2.2 dX8_hasCitation_24
def w_X8_putCitation : List Cond := .code yX8_putCitation cX8_putCitation 6 none :: ([.methodLink RX8 93 yX8_setCitedPart, .instanceMethod yX8_setCitedPart, .selects RX8 yX8_setCitedPart yX8_setCitedPart, .initialized RX8, .code yX8_setCitedPart cX8_setCitedPart 5 none, .fieldLink RX8 18 "LineCites$Work" "citedParts" "[I"] ++ wsX80)
set_option maxRecDepth 20000 in
theorem g_X8_putCitation_X8_setCitedPart : GoodIn w_X8_putCitation (wsV RX8 93 RX8 yX8_setCitedPart w_X8_setCitedPart) := goodIn_r _ [1, 2, 3, 4, 5, 6, 7, 8, 9, 10, 11, 12, 13, 14] rfl (by decide +kernel)
set_option maxHeartbeats 4000000 in
set_option maxRecDepth 100000 in
theorem c_X8_putCitation (l : Launch) (D : va_G) (h0 : Nat) (i_0 : Int32) (i_1 : Int32) (i_2 : Int32) (i_3 : Int32) (i_4 : Int32) (b_sc : Nat) (b_sp : Nat) (b_cp : Nat) (b_sn : Nat) (b_sl : Nat) (i_li : Int32) (i_ed : Int32) (i_se : Int32) (kI : ClassId) (g_b_cp : Nat → Int32) (sz : Nat) : Met l yX8_putCitation w_X8_putCitation ({ frames := 1, cells := 0, slots := 0, locals := 24 }) (va_Pc [.ref h0, .int i_0, .int i_1, .int i_2, .int i_3, .int i_4] (fun U => U.heap.size = sz ∧ va_P D vwCl [(h0, .inr (8, [.ref b_sc, .ref b_sp, .ref b_cp, .ref b_sn, .ref b_sl, .int i_li, .int i_ed, .int i_se])), (b_cp, .inl (kI, 32, .inl g_b_cp))] U.heap ∧ va_K D vwCl [(kI, .int)] U ∧ va_D (fun _ => True) [(h0, .inr (8, [.ref b_sc, .ref b_sp, .ref b_cp, .ref b_sn, .ref b_sl, .int i_li, .int i_ed, .int i_se])), (b_cp, .inl (kI, 32, .inl g_b_cp))])) (va_Qv (fun (_ : Unit) => True) (fun (_ : Unit) t => ∃ (n_cp : Nat → Int32), va_P D vwCl [(h0, .inr (8, [.ref b_sc, .ref b_sp, .ref b_cp, .ref b_sn, .ref b_sl, .int i_li, .int i_ed, .int i_se])), (b_cp, .inl (kI, 32, .inl n_cp))] t.heap ∧ va_K D vwCl [(kI, .int)] t ∧ va_D (va_A [(h0, .inr (8, [.ref b_sc, .ref b_sp, .ref b_cp, .ref b_sn, .ref b_sl, .int i_li, .int i_ed, .int i_se])), (b_cp, .inl (kI, 32, .inl g_b_cp))] sz) [(h0, .inr (8, [.ref b_sc, .ref b_sp, .ref b_cp, .ref b_sn, .ref b_sl, .int i_li, .int i_ed, .int i_se])), (b_cp, .inl (kI, 32, .inl n_cp))]) (va_A [(h0, .inr (8, [.ref b_sc, .ref b_sp, .ref b_cp, .ref b_sn, .ref b_sl, .int i_li, .int i_ed, .int i_se])), (b_cp, .inl (kI, 32, .inl g_b_cp))] sz)) 0 0 (va_A [(h0, .inr (8, [.ref b_sc, .ref b_sp, .ref b_cp, .ref b_sn, .ref b_sl, .int i_li, .int i_ed, .int i_se])), (b_cp, .inl (kI, 32, .inl g_b_cp))] sz) := by
  refine Met.ofW (cc := cX8_putCitation) (maxL := 6) (ret := none) (by decide) rfl ?_
  intro p e s m args below meth c s₁ B hml hv
  obtain ⟨rfl, hsz, hP, hK, hD0⟩ := hv
  have hx := B.exec
  have hb := B.bytes
  have hr := B.returns
  have hts := atoms_spec (ws := w_X8_putCitation) B.pre
  have hown : s.vm.findClass RX8 = some m.cls := findClass_of_methodNamed B.named
  have hlocks := B.notSynchronized
  subst hsz
  have hD := hD0.self (sz := s.heap.size)
  generalize hAe : va_A [(h0, .inr (8, [.ref b_sc, .ref b_sp, .ref b_cp, .ref b_sn, .ref b_sl, .int i_li, .int i_ed, .int i_se])), (b_cp, .inl (kI, 32, .inl g_b_cp))] s.heap.size = A at hD ⊢
  have hA : ∀ q : Nat, s.heap.size ≤ q → A q := fun q h => by rw [← hAe]; exact Or.inr h
  have hS : va_S A s.heap s.heap [] := va_S.rf
  have hP : va_P D vwCl [(h0, .inr (8, [.ref b_sc, .ref b_sp, .ref b_cp, .ref b_sn, .ref b_sl, .int i_li, .int i_ed, .int i_se])), (b_cp, .inl (kI, 32, .inl g_b_cp))] s.heap := hP
  have hl := lv_entry ([.ref h0, .int i_0, .int i_1, .int i_2, .int i_3, .int i_4]) (n := 6) (Nat.le_of_ble_eq_true rfl)
  rw [lg_entry_eq]
  generalize (lg_sl ([.ref h0, .int i_0, .int i_1, .int i_2, .int i_3, .int i_4]) ++ List.replicate (6 - (lg_sl ([.ref h0, .int i_0, .int i_1, .int i_2, .int i_3, .int i_4])).length) Slot.unset).toArray = ls at hl ⊢
  have hl : lv_has ls 6 [(0, .ref h0), (1, .int i_0), (2, .int i_1), (3, .int i_2), (4, .int i_3), (5, .int i_4)] := hl
  obtain ⟨H, hHe⟩ : ∃ H : Heap, H = s.heap := ⟨_, rfl⟩
  rw [← hHe] at hP
  have hS : va_S A s.heap H [] := by rw [hHe]; exact hS
  refine pw_heap hHe ?_
  refine lv_aload_n hx hb dX8_putCitation_0 rfl (lv_at hl 0 rfl) ?_
  refine lv_iload_n hx hb dX8_putCitation_1 rfl (lv_at hl 1 rfl) ?_
  refine lv_iconst (v := 0) hx hb dX8_putCitation_2 (by decide) ?_
  refine lv_iload_n hx hb dX8_putCitation_3 rfl (lv_at hl 2 rfl) ?_
  have hPc := hP.sub (ws' := [(h0, .inr (8, [.ref b_sc, .ref b_sp, .ref b_cp, .ref b_sn, .ref b_sl, .int i_li, .int i_ed, .int i_se])), (b_cp, .inl (kI, 32, .inl g_b_cp))]) [0, 1] rfl
  have hKc := hK.sub (tys' := [(kI, .int)]) [0] rfl
  have hDc := hD.sub (ws' := [(h0, .inr (8, [.ref b_sc, .ref b_sp, .ref b_cp, .ref b_sn, .ref b_sl, .int i_li, .int i_ed, .int i_se])), (b_cp, .inl (kI, 32, .inl g_b_cp))]) [0, 1] (by decide) rfl
  have hFc := va_free (wc := [(h0, .inr (8, [.ref b_sc, .ref b_sp, .ref b_cp, .ref b_sn, .ref b_sl, .int i_li, .int i_ed, .int i_se])), (b_cp, .inl (kI, 32, .inl g_b_cp))]) hD hS hA [0, 1] rfl
  refine va_callv (va_runV (As := [.int i_0, .int 0, .int i_1]) (rest := []) ⟨hx, hb, hml, hown, hts⟩ (c_X8_setCitedPart l D h0 i_0 0 i_1 b_sc b_sp b_cp b_sn b_sl i_li i_ed i_se kI g_b_cp H.size) (cwV 3 hts g_X8_putCitation_X8_setCitedPart rfl rfl rfl (by decide +kernel) ⟨Nat.le_of_ble_eq_true rfl, Nat.le_of_ble_eq_true rfl⟩) ⟨fun a U g mk q => by obtain ⟨q0, q1, qP, qK, qD⟩ := q; exact ⟨q0, q1, qP, va_K.moved (u := U) (U := U.calling g mk a) (Vm.Alike.refl U.vm) qK, qD⟩, va_recv hKc hPc (ci := 8) (q0 := 0) rfl rfl, fun U hU hW => ⟨rfl, by rw [hU], by rw [hU]; exact hPc, va_K.moved hW.alike hKc, hDc.weaken (fun _ _ _ _ => trivial)⟩⟩ rfl rfl hl.1 rfl (lv_room (Nat.le_of_ble_eq_true rfl)) dX8_putCitation_4 ⟨Nat.le_of_ble_eq_true rfl, Nat.le_of_ble_eq_true rfl⟩) hS (fun q _ h => hFc q h) hFc (fun u t H1 locs ht hvm hw hB hz1 hk1 hS => ?_)
  obtain ⟨y2, hP1, hK1, hD1⟩ := hB
  rw [ht] at hP1
  have hK1 := va_K.moved hvm.symm hK1
  obtain ⟨hP, hD⟩ := va_join (wr := []) (w1 := [(h0, .inr (8, [.ref b_sc, .ref b_sp, .ref b_cp, .ref b_sn, .ref b_sl, .int i_li, .int i_ed, .int i_se])), (b_cp, .inl (kI, 32, .inl y2))]) hP hD [0, 1] [] rfl rfl (by decide) (by decide) hk1 hFc hP1 hD1
  have hK := (hK.sub (tys' := [(kI, .int)]) [0] rfl).app hK1
  generalize H1 = H at hP hS ⊢
  have hP : va_P D vwCl [(h0, .inr (8, [.ref b_sc, .ref b_sp, .ref b_cp, .ref b_sn, .ref b_sl, .int i_li, .int i_ed, .int i_se])), (b_cp, .inl (kI, 32, .inl y2))] H := hP
  have hD : va_D A [(h0, .inr (8, [.ref b_sc, .ref b_sp, .ref b_cp, .ref b_sn, .ref b_sl, .int i_li, .int i_ed, .int i_se])), (b_cp, .inl (kI, 32, .inl y2))] := hD
  have hK : va_K D vwCl [(kI, .int), (kI, .int)] s := hK
  refine W.widen (k := 0) (n := 0) (Nat.le_of_ble_eq_true rfl) (Nat.le_of_ble_eq_true rfl) ?_
  refine lv_aload_n hx hb dX8_putCitation_7 rfl (lv_at hl 0 rfl) ?_
  refine lv_iload_n hx hb dX8_putCitation_8 rfl (lv_at hl 1 rfl) ?_
  refine lv_iconst (v := 1) hx hb dX8_putCitation_9 (by decide) ?_
  refine lv_iload_n hx hb dX8_putCitation_10 rfl (lv_at hl 3 rfl) ?_
  have hPc := hP.sub (ws' := [(h0, .inr (8, [.ref b_sc, .ref b_sp, .ref b_cp, .ref b_sn, .ref b_sl, .int i_li, .int i_ed, .int i_se])), (b_cp, .inl (kI, 32, .inl y2))]) [0, 1] rfl
  have hKc := hK.sub (tys' := [(kI, .int)]) [0] rfl
  have hDc := hD.sub (ws' := [(h0, .inr (8, [.ref b_sc, .ref b_sp, .ref b_cp, .ref b_sn, .ref b_sl, .int i_li, .int i_ed, .int i_se])), (b_cp, .inl (kI, 32, .inl y2))]) [0, 1] (by decide) rfl
  have hFc := va_free (wc := [(h0, .inr (8, [.ref b_sc, .ref b_sp, .ref b_cp, .ref b_sn, .ref b_sl, .int i_li, .int i_ed, .int i_se])), (b_cp, .inl (kI, 32, .inl y2))]) hD hS hA [0, 1] rfl
  refine va_callv (va_runV (As := [.int i_0, .int 1, .int i_2]) (rest := []) ⟨hx, hb, hml, hown, hts⟩ (c_X8_setCitedPart l D h0 i_0 1 i_2 b_sc b_sp b_cp b_sn b_sl i_li i_ed i_se kI y2 H.size) (cwV 3 hts g_X8_putCitation_X8_setCitedPart rfl rfl rfl (by decide +kernel) ⟨Nat.le_of_ble_eq_true rfl, Nat.le_of_ble_eq_true rfl⟩) ⟨fun a U g mk q => by obtain ⟨q0, q1, qP, qK, qD⟩ := q; exact ⟨q0, q1, qP, va_K.moved (u := U) (U := U.calling g mk a) (Vm.Alike.refl U.vm) qK, qD⟩, va_recv hKc hPc (ci := 8) (q0 := 0) rfl rfl, fun U hU hW => ⟨rfl, by rw [hU], by rw [hU]; exact hPc, va_K.moved hW.alike hKc, hDc.weaken (fun _ _ _ _ => trivial)⟩⟩ rfl rfl hl.1 rfl (lv_room (Nat.le_of_ble_eq_true rfl)) dX8_putCitation_11 ⟨Nat.le_of_ble_eq_true rfl, Nat.le_of_ble_eq_true rfl⟩) hS (fun q _ h => hFc q h) hFc (fun u t H1 locs ht hvm hw hB hz1 hk1 hS => ?_)
  obtain ⟨y4, hP1, hK1, hD1⟩ := hB
  rw [ht] at hP1
  have hK1 := va_K.moved hvm.symm hK1
  obtain ⟨hP, hD⟩ := va_join (wr := []) (w1 := [(h0, .inr (8, [.ref b_sc, .ref b_sp, .ref b_cp, .ref b_sn, .ref b_sl, .int i_li, .int i_ed, .int i_se])), (b_cp, .inl (kI, 32, .inl y4))]) hP hD [0, 1] [] rfl rfl (by decide) (by decide) hk1 hFc hP1 hD1
  have hK := (hK.sub (tys' := [(kI, .int), (kI, .int)]) [0, 1] rfl).app hK1
  generalize H1 = H at hP hS ⊢
  have hP : va_P D vwCl [(h0, .inr (8, [.ref b_sc, .ref b_sp, .ref b_cp, .ref b_sn, .ref b_sl, .int i_li, .int i_ed, .int i_se])), (b_cp, .inl (kI, 32, .inl y4))] H := hP
  have hD : va_D A [(h0, .inr (8, [.ref b_sc, .ref b_sp, .ref b_cp, .ref b_sn, .ref b_sl, .int i_li, .int i_ed, .int i_se])), (b_cp, .inl (kI, 32, .inl y4))] := hD
  have hK : va_K D vwCl [(kI, .int), (kI, .int), (kI, .int)] s := hK
  refine W.widen (k := 0) (n := 0) (Nat.le_of_ble_eq_true rfl) (Nat.le_of_ble_eq_true rfl) ?_
  refine lv_aload_n hx hb dX8_putCitation_14 rfl (lv_at hl 0 rfl) ?_
  refine lv_iload_n hx hb dX8_putCitation_15 rfl (lv_at hl 1 rfl) ?_
  refine lv_iconst (v := 2) hx hb dX8_putCitation_16 (by decide) ?_
  refine lv_iload hx hb dX8_putCitation_17 (lv_at hl 4 rfl) ?_
  have hPc := hP.sub (ws' := [(h0, .inr (8, [.ref b_sc, .ref b_sp, .ref b_cp, .ref b_sn, .ref b_sl, .int i_li, .int i_ed, .int i_se])), (b_cp, .inl (kI, 32, .inl y4))]) [0, 1] rfl
  have hKc := hK.sub (tys' := [(kI, .int)]) [0] rfl
  have hDc := hD.sub (ws' := [(h0, .inr (8, [.ref b_sc, .ref b_sp, .ref b_cp, .ref b_sn, .ref b_sl, .int i_li, .int i_ed, .int i_se])), (b_cp, .inl (kI, 32, .inl y4))]) [0, 1] (by decide) rfl
  have hFc := va_free (wc := [(h0, .inr (8, [.ref b_sc, .ref b_sp, .ref b_cp, .ref b_sn, .ref b_sl, .int i_li, .int i_ed, .int i_se])), (b_cp, .inl (kI, 32, .inl y4))]) hD hS hA [0, 1] rfl
  refine va_callv (va_runV (As := [.int i_0, .int 2, .int i_3]) (rest := []) ⟨hx, hb, hml, hown, hts⟩ (c_X8_setCitedPart l D h0 i_0 2 i_3 b_sc b_sp b_cp b_sn b_sl i_li i_ed i_se kI y4 H.size) (cwV 3 hts g_X8_putCitation_X8_setCitedPart rfl rfl rfl (by decide +kernel) ⟨Nat.le_of_ble_eq_true rfl, Nat.le_of_ble_eq_true rfl⟩) ⟨fun a U g mk q => by obtain ⟨q0, q1, qP, qK, qD⟩ := q; exact ⟨q0, q1, qP, va_K.moved (u := U) (U := U.calling g mk a) (Vm.Alike.refl U.vm) qK, qD⟩, va_recv hKc hPc (ci := 8) (q0 := 0) rfl rfl, fun U hU hW => ⟨rfl, by rw [hU], by rw [hU]; exact hPc, va_K.moved hW.alike hKc, hDc.weaken (fun _ _ _ _ => trivial)⟩⟩ rfl rfl hl.1 rfl (lv_room (Nat.le_of_ble_eq_true rfl)) dX8_putCitation_19 ⟨Nat.le_of_ble_eq_true rfl, Nat.le_of_ble_eq_true rfl⟩) hS (fun q _ h => hFc q h) hFc (fun u t H1 locs ht hvm hw hB hz1 hk1 hS => ?_)
  obtain ⟨y6, hP1, hK1, hD1⟩ := hB
  rw [ht] at hP1
  have hK1 := va_K.moved hvm.symm hK1
  obtain ⟨hP, hD⟩ := va_join (wr := []) (w1 := [(h0, .inr (8, [.ref b_sc, .ref b_sp, .ref b_cp, .ref b_sn, .ref b_sl, .int i_li, .int i_ed, .int i_se])), (b_cp, .inl (kI, 32, .inl y6))]) hP hD [0, 1] [] rfl rfl (by decide) (by decide) hk1 hFc hP1 hD1
  have hK := (hK.sub (tys' := [(kI, .int), (kI, .int), (kI, .int)]) [0, 1, 2] rfl).app hK1
  generalize H1 = H at hP hS ⊢
  have hP : va_P D vwCl [(h0, .inr (8, [.ref b_sc, .ref b_sp, .ref b_cp, .ref b_sn, .ref b_sl, .int i_li, .int i_ed, .int i_se])), (b_cp, .inl (kI, 32, .inl y6))] H := hP
  have hD : va_D A [(h0, .inr (8, [.ref b_sc, .ref b_sp, .ref b_cp, .ref b_sn, .ref b_sl, .int i_li, .int i_ed, .int i_se])), (b_cp, .inl (kI, 32, .inl y6))] := hD
  have hK : va_K D vwCl [(kI, .int), (kI, .int), (kI, .int), (kI, .int)] s := hK
  refine W.widen (k := 0) (n := 0) (Nat.le_of_ble_eq_true rfl) (Nat.le_of_ble_eq_true rfl) ?_
  refine lv_aload_n hx hb dX8_putCitation_22 rfl (lv_at hl 0 rfl) ?_
  refine lv_iload_n hx hb dX8_putCitation_23 rfl (lv_at hl 1 rfl) ?_
  refine lv_iconst (v := 3) hx hb dX8_putCitation_24 (by decide) ?_
  refine lv_iload hx hb dX8_putCitation_25 (lv_at hl 5 rfl) ?_
  have hPc := hP.sub (ws' := [(h0, .inr (8, [.ref b_sc, .ref b_sp, .ref b_cp, .ref b_sn, .ref b_sl, .int i_li, .int i_ed, .int i_se])), (b_cp, .inl (kI, 32, .inl y6))]) [0, 1] rfl
  have hKc := hK.sub (tys' := [(kI, .int)]) [0] rfl
  have hDc := hD.sub (ws' := [(h0, .inr (8, [.ref b_sc, .ref b_sp, .ref b_cp, .ref b_sn, .ref b_sl, .int i_li, .int i_ed, .int i_se])), (b_cp, .inl (kI, 32, .inl y6))]) [0, 1] (by decide) rfl
  have hFc := va_free (wc := [(h0, .inr (8, [.ref b_sc, .ref b_sp, .ref b_cp, .ref b_sn, .ref b_sl, .int i_li, .int i_ed, .int i_se])), (b_cp, .inl (kI, 32, .inl y6))]) hD hS hA [0, 1] rfl
  refine va_callv (va_runV (As := [.int i_0, .int 3, .int i_4]) (rest := []) ⟨hx, hb, hml, hown, hts⟩ (c_X8_setCitedPart l D h0 i_0 3 i_4 b_sc b_sp b_cp b_sn b_sl i_li i_ed i_se kI y6 H.size) (cwV 3 hts g_X8_putCitation_X8_setCitedPart rfl rfl rfl (by decide +kernel) ⟨Nat.le_of_ble_eq_true rfl, Nat.le_of_ble_eq_true rfl⟩) ⟨fun a U g mk q => by obtain ⟨q0, q1, qP, qK, qD⟩ := q; exact ⟨q0, q1, qP, va_K.moved (u := U) (U := U.calling g mk a) (Vm.Alike.refl U.vm) qK, qD⟩, va_recv hKc hPc (ci := 8) (q0 := 0) rfl rfl, fun U hU hW => ⟨rfl, by rw [hU], by rw [hU]; exact hPc, va_K.moved hW.alike hKc, hDc.weaken (fun _ _ _ _ => trivial)⟩⟩ rfl rfl hl.1 rfl (lv_room (Nat.le_of_ble_eq_true rfl)) dX8_putCitation_27 ⟨Nat.le_of_ble_eq_true rfl, Nat.le_of_ble_eq_true rfl⟩) hS (fun q _ h => hFc q h) hFc (fun u t H1 locs ht hvm hw hB hz1 hk1 hS => ?_)
  obtain ⟨y8, hP1, hK1, hD1⟩ := hB
  rw [ht] at hP1
  have hK1 := va_K.moved hvm.symm hK1
  obtain ⟨hP, hD⟩ := va_join (wr := []) (w1 := [(h0, .inr (8, [.ref b_sc, .ref b_sp, .ref b_cp, .ref b_sn, .ref b_sl, .int i_li, .int i_ed, .int i_se])), (b_cp, .inl (kI, 32, .inl y8))]) hP hD [0, 1] [] rfl rfl (by decide) (by decide) hk1 hFc hP1 hD1
  have hK := (hK.sub (tys' := [(kI, .int), (kI, .int), (kI, .int), (kI, .int)]) [0, 1, 2, 3] rfl).app hK1
  generalize H1 = H at hP hS ⊢
  have hP : va_P D vwCl [(h0, .inr (8, [.ref b_sc, .ref b_sp, .ref b_cp, .ref b_sn, .ref b_sl, .int i_li, .int i_ed, .int i_se])), (b_cp, .inl (kI, 32, .inl y8))] H := hP
  have hD : va_D A [(h0, .inr (8, [.ref b_sc, .ref b_sp, .ref b_cp, .ref b_sn, .ref b_sl, .int i_li, .int i_ed, .int i_se])), (b_cp, .inl (kI, 32, .inl y8))] := hD
  have hK : va_K D vwCl [(kI, .int), (kI, .int), (kI, .int), (kI, .int), (kI, .int)] s := hK
  refine W.widen (k := 0) (n := 0) (Nat.le_of_ble_eq_true rfl) (Nat.le_of_ble_eq_true rfl) ?_
  have hP9 := hP.sub (ws' := [(h0, .inr (8, [.ref b_sc, .ref b_sp, .ref b_cp, .ref b_sn, .ref b_sl, .int i_li, .int i_ed, .int i_se])), (b_cp, .inl (kI, 32, .inl y8))]) [0, 1] rfl
  have hD9 := hD.sub (ws' := [(h0, .inr (8, [.ref b_sc, .ref b_sp, .ref b_cp, .ref b_sn, .ref b_sl, .int i_li, .int i_ed, .int i_se])), (b_cp, .inl (kI, 32, .inl y8))]) [0, 1] (by decide) rfl
  have hK9 := hK.sub (tys' := [(kI, .int)]) [0] rfl
  refine W.widen (k := 0) (n := 0) (Nat.le_of_ble_eq_true rfl) (Nat.le_of_ble_eq_true rfl) ?_
  exact W.vret hx hb hr (fun t ht hW => ⟨⟨(), rfl, trivial, y8, by rw [ht]; exact hP9, va_K.moved hW.alike hK9, hD9⟩, hS.F ht⟩) hS.2.2 dX8_putCitation_30
def w_X8_removeCitation : List Cond := .code yX8_removeCitation cX8_removeCitation 2 none :: ([.methodLink RX8 93 yX8_setCitedPart, .instanceMethod yX8_setCitedPart, .selects RX8 yX8_setCitedPart yX8_setCitedPart, .initialized RX8, .code yX8_setCitedPart cX8_setCitedPart 5 none, .fieldLink RX8 18 "LineCites$Work" "citedParts" "[I"] ++ wsX80)
set_option maxRecDepth 20000 in
theorem g_X8_removeCitation_X8_setCitedPart : GoodIn w_X8_removeCitation (wsV RX8 93 RX8 yX8_setCitedPart w_X8_setCitedPart) := goodIn_r _ [1, 2, 3, 4, 5, 6, 7, 8, 9, 10, 11, 12, 13, 14] rfl (by decide +kernel)
set_option maxHeartbeats 4000000 in
set_option maxRecDepth 100000 in
theorem c_X8_removeCitation (l : Launch) (D : va_G) (h0 : Nat) (i_0 : Int32) (b_sc : Nat) (b_sp : Nat) (b_cp : Nat) (b_sn : Nat) (b_sl : Nat) (i_li : Int32) (i_ed : Int32) (i_se : Int32) (kI : ClassId) (g_b_cp : Nat → Int32) (sz : Nat) : Met l yX8_removeCitation w_X8_removeCitation ({ frames := 1, cells := 0, slots := 0, locals := 24 }) (va_Pc [.ref h0, .int i_0] (fun U => U.heap.size = sz ∧ va_P D vwCl [(h0, .inr (8, [.ref b_sc, .ref b_sp, .ref b_cp, .ref b_sn, .ref b_sl, .int i_li, .int i_ed, .int i_se])), (b_cp, .inl (kI, 32, .inl g_b_cp))] U.heap ∧ va_K D vwCl [(kI, .int)] U ∧ va_D (fun _ => True) [(h0, .inr (8, [.ref b_sc, .ref b_sp, .ref b_cp, .ref b_sn, .ref b_sl, .int i_li, .int i_ed, .int i_se])), (b_cp, .inl (kI, 32, .inl g_b_cp))])) (va_Qv (fun (_ : Unit) => True) (fun (_ : Unit) t => ∃ (n_cp : Nat → Int32), va_P D vwCl [(h0, .inr (8, [.ref b_sc, .ref b_sp, .ref b_cp, .ref b_sn, .ref b_sl, .int i_li, .int i_ed, .int i_se])), (b_cp, .inl (kI, 32, .inl n_cp))] t.heap ∧ va_K D vwCl [(kI, .int)] t ∧ va_D (va_A [(h0, .inr (8, [.ref b_sc, .ref b_sp, .ref b_cp, .ref b_sn, .ref b_sl, .int i_li, .int i_ed, .int i_se])), (b_cp, .inl (kI, 32, .inl g_b_cp))] sz) [(h0, .inr (8, [.ref b_sc, .ref b_sp, .ref b_cp, .ref b_sn, .ref b_sl, .int i_li, .int i_ed, .int i_se])), (b_cp, .inl (kI, 32, .inl n_cp))]) (va_A [(h0, .inr (8, [.ref b_sc, .ref b_sp, .ref b_cp, .ref b_sn, .ref b_sl, .int i_li, .int i_ed, .int i_se])), (b_cp, .inl (kI, 32, .inl g_b_cp))] sz)) 0 0 (va_A [(h0, .inr (8, [.ref b_sc, .ref b_sp, .ref b_cp, .ref b_sn, .ref b_sl, .int i_li, .int i_ed, .int i_se])), (b_cp, .inl (kI, 32, .inl g_b_cp))] sz) := by
  refine Met.ofW (cc := cX8_removeCitation) (maxL := 2) (ret := none) (by decide) rfl ?_
  intro p e s m args below meth c s₁ B hml hv
  obtain ⟨rfl, hsz, hP, hK, hD0⟩ := hv
  have hx := B.exec
  have hb := B.bytes
  have hr := B.returns
  have hts := atoms_spec (ws := w_X8_removeCitation) B.pre
  have hown : s.vm.findClass RX8 = some m.cls := findClass_of_methodNamed B.named
  have hlocks := B.notSynchronized
  subst hsz
  have hD := hD0.self (sz := s.heap.size)
  generalize hAe : va_A [(h0, .inr (8, [.ref b_sc, .ref b_sp, .ref b_cp, .ref b_sn, .ref b_sl, .int i_li, .int i_ed, .int i_se])), (b_cp, .inl (kI, 32, .inl g_b_cp))] s.heap.size = A at hD ⊢
  have hA : ∀ q : Nat, s.heap.size ≤ q → A q := fun q h => by rw [← hAe]; exact Or.inr h
  have hS : va_S A s.heap s.heap [] := va_S.rf
  have hP : va_P D vwCl [(h0, .inr (8, [.ref b_sc, .ref b_sp, .ref b_cp, .ref b_sn, .ref b_sl, .int i_li, .int i_ed, .int i_se])), (b_cp, .inl (kI, 32, .inl g_b_cp))] s.heap := hP
  have hl := lv_entry ([.ref h0, .int i_0]) (n := 2) (Nat.le_of_ble_eq_true rfl)
  rw [lg_entry_eq]
  generalize (lg_sl ([.ref h0, .int i_0]) ++ List.replicate (2 - (lg_sl ([.ref h0, .int i_0])).length) Slot.unset).toArray = ls at hl ⊢
  have hl : lv_has ls 2 [(0, .ref h0), (1, .int i_0)] := hl
  obtain ⟨H, hHe⟩ : ∃ H : Heap, H = s.heap := ⟨_, rfl⟩
  rw [← hHe] at hP
  have hS : va_S A s.heap H [] := by rw [hHe]; exact hS
  refine pw_heap hHe ?_
  refine lv_aload_n hx hb dX8_removeCitation_0 rfl (lv_at hl 0 rfl) ?_
  refine lv_iload_n hx hb dX8_removeCitation_1 rfl (lv_at hl 1 rfl) ?_
  refine lv_iconst (v := 2) hx hb dX8_removeCitation_2 (by decide) ?_
  refine lv_iconst (v := 0) hx hb dX8_removeCitation_3 (by decide) ?_
  have hPc := hP.sub (ws' := [(h0, .inr (8, [.ref b_sc, .ref b_sp, .ref b_cp, .ref b_sn, .ref b_sl, .int i_li, .int i_ed, .int i_se])), (b_cp, .inl (kI, 32, .inl g_b_cp))]) [0, 1] rfl
  have hKc := hK.sub (tys' := [(kI, .int)]) [0] rfl
  have hDc := hD.sub (ws' := [(h0, .inr (8, [.ref b_sc, .ref b_sp, .ref b_cp, .ref b_sn, .ref b_sl, .int i_li, .int i_ed, .int i_se])), (b_cp, .inl (kI, 32, .inl g_b_cp))]) [0, 1] (by decide) rfl
  have hFc := va_free (wc := [(h0, .inr (8, [.ref b_sc, .ref b_sp, .ref b_cp, .ref b_sn, .ref b_sl, .int i_li, .int i_ed, .int i_se])), (b_cp, .inl (kI, 32, .inl g_b_cp))]) hD hS hA [0, 1] rfl
  refine va_callv (va_runV (As := [.int i_0, .int 2, .int 0]) (rest := []) ⟨hx, hb, hml, hown, hts⟩ (c_X8_setCitedPart l D h0 i_0 2 0 b_sc b_sp b_cp b_sn b_sl i_li i_ed i_se kI g_b_cp H.size) (cwV 3 hts g_X8_removeCitation_X8_setCitedPart rfl rfl rfl (by decide +kernel) ⟨Nat.le_of_ble_eq_true rfl, Nat.le_of_ble_eq_true rfl⟩) ⟨fun a U g mk q => by obtain ⟨q0, q1, qP, qK, qD⟩ := q; exact ⟨q0, q1, qP, va_K.moved (u := U) (U := U.calling g mk a) (Vm.Alike.refl U.vm) qK, qD⟩, va_recv hKc hPc (ci := 8) (q0 := 0) rfl rfl, fun U hU hW => ⟨rfl, by rw [hU], by rw [hU]; exact hPc, va_K.moved hW.alike hKc, hDc.weaken (fun _ _ _ _ => trivial)⟩⟩ rfl rfl hl.1 rfl (lv_room (Nat.le_of_ble_eq_true rfl)) dX8_removeCitation_4 ⟨Nat.le_of_ble_eq_true rfl, Nat.le_of_ble_eq_true rfl⟩) hS (fun q _ h => hFc q h) hFc (fun u t H1 locs ht hvm hw hB hz1 hk1 hS => ?_)
  obtain ⟨y2, hP1, hK1, hD1⟩ := hB
  rw [ht] at hP1
  have hK1 := va_K.moved hvm.symm hK1
  obtain ⟨hP, hD⟩ := va_join (wr := []) (w1 := [(h0, .inr (8, [.ref b_sc, .ref b_sp, .ref b_cp, .ref b_sn, .ref b_sl, .int i_li, .int i_ed, .int i_se])), (b_cp, .inl (kI, 32, .inl y2))]) hP hD [0, 1] [] rfl rfl (by decide) (by decide) hk1 hFc hP1 hD1
  have hK := (hK.sub (tys' := [(kI, .int)]) [0] rfl).app hK1
  generalize H1 = H at hP hS ⊢
  have hP : va_P D vwCl [(h0, .inr (8, [.ref b_sc, .ref b_sp, .ref b_cp, .ref b_sn, .ref b_sl, .int i_li, .int i_ed, .int i_se])), (b_cp, .inl (kI, 32, .inl y2))] H := hP
  have hD : va_D A [(h0, .inr (8, [.ref b_sc, .ref b_sp, .ref b_cp, .ref b_sn, .ref b_sl, .int i_li, .int i_ed, .int i_se])), (b_cp, .inl (kI, 32, .inl y2))] := hD
  have hK : va_K D vwCl [(kI, .int), (kI, .int)] s := hK
  refine W.widen (k := 0) (n := 0) (Nat.le_of_ble_eq_true rfl) (Nat.le_of_ble_eq_true rfl) ?_
  have hP9 := hP.sub (ws' := [(h0, .inr (8, [.ref b_sc, .ref b_sp, .ref b_cp, .ref b_sn, .ref b_sl, .int i_li, .int i_ed, .int i_se])), (b_cp, .inl (kI, 32, .inl y2))]) [0, 1] rfl
  have hD9 := hD.sub (ws' := [(h0, .inr (8, [.ref b_sc, .ref b_sp, .ref b_cp, .ref b_sn, .ref b_sl, .int i_li, .int i_ed, .int i_se])), (b_cp, .inl (kI, 32, .inl y2))]) [0, 1] (by decide) rfl
  have hK9 := hK.sub (tys' := [(kI, .int)]) [0] rfl
  refine W.widen (k := 0) (n := 0) (Nat.le_of_ble_eq_true rfl) (Nat.le_of_ble_eq_true rfl) ?_
  exact W.vret hx hb hr (fun t ht hW => ⟨⟨(), rfl, trivial, y2, by rw [ht]; exact hP9, va_K.moved hW.alike hK9, hD9⟩, hS.F ht⟩) hS.2.2 dX8_removeCitation_7
def w_X8_citations : List Cond := .code yX8_citations cX8_citations 3 (some .int) :: ([.methodLink RX8 97 yX8_hasCitation, .instanceMethod yX8_hasCitation, .selects RX8 yX8_hasCitation yX8_hasCitation, .initialized RX8, .code yX8_hasCitation cX8_hasCitation 2 (some .boolean), .methodLink RX8 89 yX8_citedPart, .instanceMethod yX8_citedPart, .selects RX8 yX8_citedPart yX8_citedPart, .code yX8_citedPart cX8_citedPart 4 (some .int), .fieldLink RX8 18 "LineCites$Work" "citedParts" "[I"] ++ wsX80)
set_option maxRecDepth 20000 in
theorem g_X8_citations_X8_hasCitation : GoodIn w_X8_citations (wsV RX8 97 RX8 yX8_hasCitation w_X8_hasCitation) := goodIn_r _ [1, 2, 3, 4, 5, 6, 7, 8, 4, 9, 10, 11, 12, 13, 14, 15, 16, 17, 18] rfl (by decide +kernel)
set_option maxHeartbeats 4000000 in
set_option maxRecDepth 100000 in
theorem c_X8_citations (l : Launch) (D : va_G) (h0 : Nat) (b_sc : Nat) (b_sp : Nat) (b_cp : Nat) (b_sn : Nat) (b_sl : Nat) (i_li : Int32) (i_ed : Int32) (i_se : Int32) (kI : ClassId) (g_b_cp : Nat → Int32) : Met l yX8_citations w_X8_citations ({ frames := 2, cells := 0, slots := 0, locals := 44 }) (va_Pc [.ref h0] (fun U => va_P D vwCl [(h0, .inr (8, [.ref b_sc, .ref b_sp, .ref b_cp, .ref b_sn, .ref b_sl, .int i_li, .int i_ed, .int i_se])), (b_cp, .inl (kI, 32, .inl g_b_cp))] U.heap ∧ va_K D vwCl [(kI, .int)] U)) (va_Qi (fun (r : Int32) (_ : Unit) => True) (fun _ _ => True) (fun _ => False)) 0 0 (fun _ => False) := by
  refine Met.ofW (cc := cX8_citations) (maxL := 3) (ret := (some .int)) (by decide) rfl ?_
  intro p e s m args below meth c s₁ B hml hv
  obtain ⟨rfl, hP, hK⟩ := hv
  have hx := B.exec
  have hb := B.bytes
  have hr := B.returns
  have hts := atoms_spec (ws := w_X8_citations) B.pre
  have hown : s.vm.findClass RX8 = some m.cls := findClass_of_methodNamed B.named
  have hlocks := B.notSynchronized
  have hS : va_S (fun _ : Nat => False) s.heap s.heap [] := va_S.rf
  have hP : va_P D vwCl [(h0, .inr (8, [.ref b_sc, .ref b_sp, .ref b_cp, .ref b_sn, .ref b_sl, .int i_li, .int i_ed, .int i_se])), (b_cp, .inl (kI, 32, .inl g_b_cp))] s.heap := hP
  have hl := lv_entry ([.ref h0]) (n := 3) (Nat.le_of_ble_eq_true rfl)
  rw [lg_entry_eq]
  generalize (lg_sl ([.ref h0]) ++ List.replicate (3 - (lg_sl ([.ref h0])).length) Slot.unset).toArray = ls at hl ⊢
  have hl : lv_has ls 3 [(0, .ref h0)] := hl
  obtain ⟨H, hHe⟩ : ∃ H : Heap, H = s.heap := ⟨_, rfl⟩
  rw [← hHe] at hP
  have hS : va_S (fun _ : Nat => False) s.heap H [] := by rw [hHe]; exact hS
  refine pw_heap hHe ?_
  refine lv_iconst (v := 0) hx hb dX8_citations_0 (by decide) ?_
  refine lv_istore_n (lv' := [(1, .int 0), (0, .ref h0)]) hx hb dX8_citations_1 rfl hl (by decide) rfl (fun ls hl => ?_)
  refine lv_iconst (v := 0) hx hb dX8_citations_2 (by decide) ?_
  refine lv_istore_n (lv' := [(2, .int 0), (1, .int 0), (0, .ref h0)]) hx hb dX8_citations_3 rfl hl (by decide) rfl (fun ls hl => ?_)
  have hl9 : lv_has ls 3 [(0, .ref h0), (1, .int 0), (2, .int 0)] := lv_sub hl [2, 1, 0] rfl
  refine pw_loop (fun (zz : Int32 × Int32) H locs ls => match zz with | (v27, v28) => va_P D vwCl [(h0, .inr (8, [.ref b_sc, .ref b_sp, .ref b_cp, .ref b_sn, .ref b_sl, .int i_li, .int i_ed, .int i_se])), (b_cp, .inl (kI, 32, .inl g_b_cp))] H ∧ va_S (fun _ : Nat => False) s.heap H locs ∧ lv_has ls 3 [(0, .ref h0), (1, .int v27), (2, .int v28)] ∧ 0 ≤ v28.toInt) (fun (zz : Int32 × Int32)  => match zz with | (v27, v28) => (2147483648 - v28.toInt).toNat) 0 0 (fun (zz : Int32 × Int32) ls => match zz with | (v27, v28) => F0 m 4 ls []) (fun zz H locs ls ih29 hI => ?_) (0, 0) _ _ _ ⟨hP, hS, hl9, (by decide)⟩
  obtain ⟨v27, v28⟩ := zz
  obtain ⟨hP, hS, hl, bv28⟩ := hI
  have bv28 : 0 ≤ v28.toInt := bv28
  have hP : va_P D vwCl [(h0, .inr (8, [.ref b_sc, .ref b_sp, .ref b_cp, .ref b_sn, .ref b_sl, .int i_li, .int i_ed, .int i_se])), (b_cp, .inl (kI, 32, .inl g_b_cp))] H := hP
  have hK : va_K D vwCl [(kI, .int)] s := hK
  have hl : lv_has ls 3 [(0, .ref h0), (1, .int v27), (2, .int v28)] := hl
  refine W.eq (g2 := F0 m 4 ls []) rfl ?_
  refine lv_iload_n hx hb dX8_citations_4 rfl (lv_at hl 2 rfl) ?_
  refine lv_bipush (v := 8) hx hb dX8_citations_5 (by decide) ?_
  refine lv_icmp_ge (tgt := 27) hx hb dX8_citations_7 (by decide) (fun c39 => ?_) (fun c39 => ?_)
  · have nc39 : 8 ≤ v28.toInt := pw_le c39 (by decide) rfl
    refine lv_iload_n hx hb dX8_citations_27 rfl (lv_at hl 1 rfl) ?_
    exact W.iret (v := v27) hx hb hr (fun t ht hW => ⟨⟨v27, (), rfl, trivial, trivial⟩, hS.F ht⟩) hS.2.2 dX8_citations_28
  · have nc39 : v28.toInt < 8 := pw_nle c39 (by decide) rfl
    refine lv_aload_n hx hb dX8_citations_10 rfl (lv_at hl 0 rfl) ?_
    refine lv_iload_n hx hb dX8_citations_11 rfl (lv_at hl 2 rfl) ?_
    have hPc := hP.sub (ws' := [(h0, .inr (8, [.ref b_sc, .ref b_sp, .ref b_cp, .ref b_sn, .ref b_sl, .int i_li, .int i_ed, .int i_se])), (b_cp, .inl (kI, 32, .inl g_b_cp))]) [0, 1] rfl
    have hKc := hK.sub (tys' := [(kI, .int)]) [0] rfl
    refine va_calli (va_runV (As := [.int v28]) (rest := []) ⟨hx, hb, hml, hown, hts⟩ (c_X8_hasCitation l D h0 v28 b_sc b_sp b_cp b_sn b_sl i_li i_ed i_se kI g_b_cp) (cwV 1 hts g_X8_citations_X8_hasCitation rfl rfl rfl (by decide +kernel) ⟨Nat.le_of_ble_eq_true rfl, Nat.le_of_ble_eq_true rfl⟩) ⟨fun a U g mk q => by obtain ⟨q0, qP, qK⟩ := q; exact ⟨q0, qP, va_K.moved (u := U) (U := U.calling g mk a) (Vm.Alike.refl U.vm) qK⟩, va_recv hKc hPc (ci := 8) (q0 := 0) rfl rfl, fun U hU hW => ⟨rfl, by rw [hU]; exact hPc, va_K.moved hW.alike hKc⟩⟩ rfl rfl hl.1 rfl (lv_room (Nat.le_of_ble_eq_true rfl)) dX8_citations_12 ⟨Nat.le_of_ble_eq_true rfl, Nat.le_of_ble_eq_true rfl⟩) hS (fun _ _ h => h.elim) (fun _ h => h.elim) (fun r40 u t H1 locs ht hvm hw hB hz1 hk1 hS => ?_)
    have hP := pw_keep hP (fun q hq => hk1 q hq (fun h => h))
    generalize H1 = H at hP hS ⊢
    refine W.widen (k := 0) (n := 0) (Nat.le_of_ble_eq_true rfl) (Nat.le_of_ble_eq_true rfl) ?_
    have bor40 := hw.1
    have zor40 := pw_boolI bor40
    refine pw_join (fun (v43 : Int32) H locs ls => va_P D vwCl [(h0, .inr (8, [.ref b_sc, .ref b_sp, .ref b_cp, .ref b_sn, .ref b_sl, .int i_li, .int i_ed, .int i_se])), (b_cp, .inl (kI, 32, .inl g_b_cp))] H ∧ va_S (fun _ : Nat => False) s.heap H locs ∧ lv_has ls 3 [(0, .ref h0), (1, .int v43), (2, .int v28)]) 0 0 (fun (v43 : Int32) ls => F0 m 21 ls []) (fun v43 H locs ls hI => ?_) (fun hJ44 => ?_)
    ·
      obtain ⟨hP, hS, hl⟩ := hI
      have hP : va_P D vwCl [(h0, .inr (8, [.ref b_sc, .ref b_sp, .ref b_cp, .ref b_sn, .ref b_sl, .int i_li, .int i_ed, .int i_se])), (b_cp, .inl (kI, 32, .inl g_b_cp))] H := hP
      have hK : va_K D vwCl [(kI, .int)] s := hK
      have hl : lv_has ls 3 [(0, .ref h0), (1, .int v43), (2, .int v28)] := hl
      refine W.eq (g2 := F0 m 21 ls []) rfl ?_
      obtain ⟨x45, ex45⟩ : ∃ y : Int32, y = v28 + 1 := ⟨_, rfl⟩
      have tx45 : x45.toInt = v28.toInt + 1 := pw_addX ex45 rfl (by decide) (by omega) (by omega)
      refine lv_iinc (v := x45) (lv' := [(2, .int x45), (0, .ref h0), (1, .int v43)]) hx hb dX8_citations_21 hl (k := 2) rfl (by rw [ex45]; rfl) (by decide) rfl (fun ls hl => ?_)
      refine lv_goto (tgt := 4) hx hb dX8_citations_24 (by decide) ?_
      have hP9 : va_P D vwCl [(h0, .inr (8, [.ref b_sc, .ref b_sp, .ref b_cp, .ref b_sn, .ref b_sl, .int i_li, .int i_ed, .int i_se])), (b_cp, .inl (kI, 32, .inl g_b_cp))] H := hP.sub [0, 1] rfl
      have hl9 : lv_has ls 3 [(0, .ref h0), (1, .int v43), (2, .int x45)] := lv_sub hl [1, 2, 0] rfl
      refine W.widen (k := 0) (n := 0) (Nat.le_of_ble_eq_true rfl) (Nat.le_of_ble_eq_true rfl) ?_
      exact ih29 (v43, x45) _ _ _ (pw_up ex45 (by omega)) ⟨hP9, hS, hl9, (pw_upge ex45 (by omega) (by omega))⟩
    ·
      refine lv_if_eq (tgt := 21) hx hb dX8_citations_15 (by decide) (fun c46 => ?_) (fun c46 => ?_)
      · have nc46 : r40.toInt = 0 := pw_eq c46 rfl (by decide)
        have hP9 : va_P D vwCl [(h0, .inr (8, [.ref b_sc, .ref b_sp, .ref b_cp, .ref b_sn, .ref b_sl, .int i_li, .int i_ed, .int i_se])), (b_cp, .inl (kI, 32, .inl g_b_cp))] H := hP.sub [0, 1] rfl
        have hl9 : lv_has ls 3 [(0, .ref h0), (1, .int v27), (2, .int v28)] := lv_sub hl [0, 1, 2] rfl
        refine W.widen (k := 0) (n := 0) (Nat.le_of_ble_eq_true rfl) (Nat.le_of_ble_eq_true rfl) ?_
        exact hJ44 v27 _ _ _ ⟨hP9, hS, hl9⟩
      · have nc46 : r40.toInt ≠ 0 := pw_ne c46 rfl (by decide)
        obtain ⟨x47, ex47⟩ : ∃ y : Int32, y = v27 + 1 := ⟨_, rfl⟩
        refine lv_iinc (v := x47) (lv' := [(1, .int x47), (0, .ref h0), (2, .int v28)]) hx hb dX8_citations_18 hl (k := 1) rfl (by rw [ex47]; rfl) (by decide) rfl (fun ls hl => ?_)
        have hP9 : va_P D vwCl [(h0, .inr (8, [.ref b_sc, .ref b_sp, .ref b_cp, .ref b_sn, .ref b_sl, .int i_li, .int i_ed, .int i_se])), (b_cp, .inl (kI, 32, .inl g_b_cp))] H := hP.sub [0, 1] rfl
        have hl9 : lv_has ls 3 [(0, .ref h0), (1, .int x47), (2, .int v28)] := lv_sub hl [1, 0, 2] rfl
        refine W.widen (k := 0) (n := 0) (Nat.le_of_ble_eq_true rfl) (Nat.le_of_ble_eq_true rfl) ?_
        exact hJ44 x47 _ _ _ ⟨hP9, hS, hl9⟩
def w_X8_putSeen : List Cond := .code yX8_putSeen cX8_putSeen 3 none :: ([.fieldLink RX8 40 "LineCites$Work" "seen" "I", .fieldLink RX8 21 "LineCites$Work" "seenNumbers" "[I", .fieldLink RX8 24 "LineCites$Work" "seenLines" "[I"] ++ wsX80)
set_option maxHeartbeats 4000000 in
set_option maxRecDepth 100000 in
theorem c_X8_putSeen (l : Launch) (D : va_G) (h0 : Nat) (i_0 : Int32) (i_1 : Int32) (b_sc : Nat) (b_sp : Nat) (b_cp : Nat) (b_sn : Nat) (b_sl : Nat) (i_li : Int32) (i_ed : Int32) (i_se : Int32) (kI : ClassId) (g_b_sn : Nat → Int32) (g_b_sl : Nat → Int32) (sz : Nat) : Met l yX8_putSeen w_X8_putSeen ({ frames := 0, cells := 0, slots := 0, locals := 0 }) (va_Pc [.ref h0, .int i_0, .int i_1] (fun U => U.heap.size = sz ∧ va_P D vwCl [(h0, .inr (8, [.ref b_sc, .ref b_sp, .ref b_cp, .ref b_sn, .ref b_sl, .int i_li, .int i_ed, .int i_se])), (b_sn, .inl (kI, 12, .inl g_b_sn)), (b_sl, .inl (kI, 12, .inl g_b_sl))] U.heap ∧ va_K D vwCl [(kI, .int)] U ∧ va_D (fun _ => True) [(h0, .inr (8, [.ref b_sc, .ref b_sp, .ref b_cp, .ref b_sn, .ref b_sl, .int i_li, .int i_ed, .int i_se])), (b_sn, .inl (kI, 12, .inl g_b_sn)), (b_sl, .inl (kI, 12, .inl g_b_sl))])) (va_Qv (fun (_ : Unit) => True) (fun (_ : Unit) t => ∃ (n_se : Int32) (n_sn : Nat → Int32) (n_sl : Nat → Int32), va_P D vwCl [(h0, .inr (8, [.ref b_sc, .ref b_sp, .ref b_cp, .ref b_sn, .ref b_sl, .int i_li, .int i_ed, .int n_se])), (b_sn, .inl (kI, 12, .inl n_sn)), (b_sl, .inl (kI, 12, .inl n_sl))] t.heap ∧ va_K D vwCl [(kI, .int)] t ∧ va_D (va_A [(h0, .inr (8, [.ref b_sc, .ref b_sp, .ref b_cp, .ref b_sn, .ref b_sl, .int i_li, .int i_ed, .int i_se])), (b_sn, .inl (kI, 12, .inl g_b_sn)), (b_sl, .inl (kI, 12, .inl g_b_sl))] sz) [(h0, .inr (8, [.ref b_sc, .ref b_sp, .ref b_cp, .ref b_sn, .ref b_sl, .int i_li, .int i_ed, .int n_se])), (b_sn, .inl (kI, 12, .inl n_sn)), (b_sl, .inl (kI, 12, .inl n_sl))]) (va_A [(h0, .inr (8, [.ref b_sc, .ref b_sp, .ref b_cp, .ref b_sn, .ref b_sl, .int i_li, .int i_ed, .int i_se])), (b_sn, .inl (kI, 12, .inl g_b_sn)), (b_sl, .inl (kI, 12, .inl g_b_sl))] sz)) 0 0 (va_A [(h0, .inr (8, [.ref b_sc, .ref b_sp, .ref b_cp, .ref b_sn, .ref b_sl, .int i_li, .int i_ed, .int i_se])), (b_sn, .inl (kI, 12, .inl g_b_sn)), (b_sl, .inl (kI, 12, .inl g_b_sl))] sz) := by
  refine Met.ofW (cc := cX8_putSeen) (maxL := 3) (ret := none) (by decide) rfl ?_
  intro p e s m args below meth c s₁ B hml hv
  obtain ⟨rfl, hsz, hP, hK, hD0⟩ := hv
  have hx := B.exec
  have hb := B.bytes
  have hr := B.returns
  have hts := atoms_spec (ws := w_X8_putSeen) B.pre
  have hown : s.vm.findClass RX8 = some m.cls := findClass_of_methodNamed B.named
  have hlocks := B.notSynchronized
  subst hsz
  have hD := hD0.self (sz := s.heap.size)
  generalize hAe : va_A [(h0, .inr (8, [.ref b_sc, .ref b_sp, .ref b_cp, .ref b_sn, .ref b_sl, .int i_li, .int i_ed, .int i_se])), (b_sn, .inl (kI, 12, .inl g_b_sn)), (b_sl, .inl (kI, 12, .inl g_b_sl))] s.heap.size = A at hD ⊢
  have hA : ∀ q : Nat, s.heap.size ≤ q → A q := fun q h => by rw [← hAe]; exact Or.inr h
  have hS : va_S A s.heap s.heap [] := va_S.rf
  have hP : va_P D vwCl [(h0, .inr (8, [.ref b_sc, .ref b_sp, .ref b_cp, .ref b_sn, .ref b_sl, .int i_li, .int i_ed, .int i_se])), (b_sn, .inl (kI, 12, .inl g_b_sn)), (b_sl, .inl (kI, 12, .inl g_b_sl))] s.heap := hP
  have hl := lv_entry ([.ref h0, .int i_0, .int i_1]) (n := 3) (Nat.le_of_ble_eq_true rfl)
  rw [lg_entry_eq]
  generalize (lg_sl ([.ref h0, .int i_0, .int i_1]) ++ List.replicate (3 - (lg_sl ([.ref h0, .int i_0, .int i_1])).length) Slot.unset).toArray = ls at hl ⊢
  have hl : lv_has ls 3 [(0, .ref h0), (1, .int i_0), (2, .int i_1)] := hl
  obtain ⟨H, hHe⟩ : ∃ H : Heap, H = s.heap := ⟨_, rfl⟩
  rw [← hHe] at hP
  have hS : va_S A s.heap H [] := by rw [hHe]; exact hS
  refine pw_heap hHe ?_
  refine lv_aload_n hx hb dX8_putSeen_0 rfl (lv_at hl 0 rfl) ?_
  refine va_get (D := D) (ci := 8) (v := .int i_se) (C := RX8) (T := TX8) (N := 8) hx hb hts (fun _ h => List.mem_cons_of_mem _ (List.mem_append_right _ h)) hown hK hP 0 rfl rfl 7 (by decide) (hts (.fieldLink RX8 40 "LineCites$Work" "seen" "I") (List.mem_of_getElem? (i := 1) rfl)) (fun _ h9 => h9) rfl dX8_putSeen_1 ?_
  refine lv_if_lt (tgt := 31) hx hb dX8_putSeen_4 (by decide) (fun c1 => ?_) (fun c1 => ?_)
  · have nc1 : i_se.toInt < 0 := pw_lt c1 rfl (by decide)
    have hP9 := hP.sub (ws' := [(h0, .inr (8, [.ref b_sc, .ref b_sp, .ref b_cp, .ref b_sn, .ref b_sl, .int i_li, .int i_ed, .int i_se])), (b_sn, .inl (kI, 12, .inl g_b_sn)), (b_sl, .inl (kI, 12, .inl g_b_sl))]) [0, 1, 2] rfl
    have hD9 := hD.sub (ws' := [(h0, .inr (8, [.ref b_sc, .ref b_sp, .ref b_cp, .ref b_sn, .ref b_sl, .int i_li, .int i_ed, .int i_se])), (b_sn, .inl (kI, 12, .inl g_b_sn)), (b_sl, .inl (kI, 12, .inl g_b_sl))]) [0, 1, 2] (by decide) rfl
    have hK9 := hK.sub (tys' := [(kI, .int)]) [0] rfl
    refine W.widen (k := 0) (n := 0) (Nat.le_of_ble_eq_true rfl) (Nat.le_of_ble_eq_true rfl) ?_
    exact W.vret hx hb hr (fun t ht hW => ⟨⟨(), rfl, trivial, i_se, g_b_sn, g_b_sl, by rw [ht]; exact hP9, va_K.moved hW.alike hK9, hD9⟩, hS.F ht⟩) hS.2.2 dX8_putSeen_31
  · have nc1 : 0 ≤ i_se.toInt := pw_nlt c1 rfl (by decide)
    refine lv_aload_n hx hb dX8_putSeen_7 rfl (lv_at hl 0 rfl) ?_
    refine va_get (D := D) (ci := 8) (v := .int i_se) (C := RX8) (T := TX8) (N := 8) hx hb hts (fun _ h => List.mem_cons_of_mem _ (List.mem_append_right _ h)) hown hK hP 0 rfl rfl 7 (by decide) (hts (.fieldLink RX8 40 "LineCites$Work" "seen" "I") (List.mem_of_getElem? (i := 1) rfl)) (fun _ h9 => h9) rfl dX8_putSeen_8 ?_
    refine lv_aload_n hx hb dX8_putSeen_11 rfl (lv_at hl 0 rfl) ?_
    refine va_get (D := D) (ci := 8) (v := .ref b_sn) (C := RX8) (T := TX8) (N := 8) hx hb hts (fun _ h => List.mem_cons_of_mem _ (List.mem_append_right _ h)) hown hK hP 0 rfl rfl 3 (by decide) (hts (.fieldLink RX8 21 "LineCites$Work" "seenNumbers" "[I") (List.mem_of_getElem? (i := 2) rfl)) (fun _ h9 => h9) rfl dX8_putSeen_12 ?_
    refine va_alen (v := 12) hx hb hK hP 1 0 rfl rfl rfl dX8_putSeen_15 ?_
    refine lv_icmp_ge (tgt := 31) hx hb dX8_putSeen_16 (by decide) (fun c2 => ?_) (fun c2 => ?_)
    · have nc2 : 12 ≤ i_se.toInt := pw_le c2 (by decide) rfl
      have hP9 := hP.sub (ws' := [(h0, .inr (8, [.ref b_sc, .ref b_sp, .ref b_cp, .ref b_sn, .ref b_sl, .int i_li, .int i_ed, .int i_se])), (b_sn, .inl (kI, 12, .inl g_b_sn)), (b_sl, .inl (kI, 12, .inl g_b_sl))]) [0, 1, 2] rfl
      have hD9 := hD.sub (ws' := [(h0, .inr (8, [.ref b_sc, .ref b_sp, .ref b_cp, .ref b_sn, .ref b_sl, .int i_li, .int i_ed, .int i_se])), (b_sn, .inl (kI, 12, .inl g_b_sn)), (b_sl, .inl (kI, 12, .inl g_b_sl))]) [0, 1, 2] (by decide) rfl
      have hK9 := hK.sub (tys' := [(kI, .int)]) [0] rfl
      refine W.widen (k := 0) (n := 0) (Nat.le_of_ble_eq_true rfl) (Nat.le_of_ble_eq_true rfl) ?_
      exact W.vret hx hb hr (fun t ht hW => ⟨⟨(), rfl, trivial, i_se, g_b_sn, g_b_sl, by rw [ht]; exact hP9, va_K.moved hW.alike hK9, hD9⟩, hS.F ht⟩) hS.2.2 dX8_putSeen_31
    · have nc2 : i_se.toInt < 12 := pw_nle c2 (by decide) rfl
      refine lv_aload_n hx hb dX8_putSeen_19 rfl (lv_at hl 0 rfl) ?_
      refine va_get (D := D) (ci := 8) (v := .int i_se) (C := RX8) (T := TX8) (N := 8) hx hb hts (fun _ h => List.mem_cons_of_mem _ (List.mem_append_right _ h)) hown hK hP 0 rfl rfl 7 (by decide) (hts (.fieldLink RX8 40 "LineCites$Work" "seen" "I") (List.mem_of_getElem? (i := 1) rfl)) (fun _ h9 => h9) rfl dX8_putSeen_20 ?_
      refine lv_aload_n hx hb dX8_putSeen_23 rfl (lv_at hl 0 rfl) ?_
      refine va_get (D := D) (ci := 8) (v := .ref b_sl) (C := RX8) (T := TX8) (N := 8) hx hb hts (fun _ h => List.mem_cons_of_mem _ (List.mem_append_right _ h)) hown hK hP 0 rfl rfl 4 (by decide) (hts (.fieldLink RX8 24 "LineCites$Work" "seenLines" "[I") (List.mem_of_getElem? (i := 3) rfl)) (fun _ h9 => h9) rfl dX8_putSeen_24 ?_
      refine va_alen (v := 12) hx hb hK hP 2 0 rfl rfl rfl dX8_putSeen_27 ?_
      refine lv_icmp_lt (tgt := 32) hx hb dX8_putSeen_28 (by decide) (fun c3 => ?_) (fun c3 => False.elim (by have nn : 12 ≤ i_se.toInt := pw_nlt c3 rfl (by decide); omega))
      have nc3 : i_se.toInt < 12 := pw_lt c3 rfl (by decide)
      refine lv_aload_n hx hb dX8_putSeen_32 rfl (lv_at hl 0 rfl) ?_
      refine va_get (D := D) (ci := 8) (v := .ref b_sn) (C := RX8) (T := TX8) (N := 8) hx hb hts (fun _ h => List.mem_cons_of_mem _ (List.mem_append_right _ h)) hown hK hP 0 rfl rfl 3 (by decide) (hts (.fieldLink RX8 21 "LineCites$Work" "seenNumbers" "[I") (List.mem_of_getElem? (i := 2) rfl)) (fun _ h9 => h9) rfl dX8_putSeen_33 ?_
      refine lv_aload_n hx hb dX8_putSeen_36 rfl (lv_at hl 0 rfl) ?_
      refine va_get (D := D) (ci := 8) (v := .int i_se) (C := RX8) (T := TX8) (N := 8) hx hb hts (fun _ h => List.mem_cons_of_mem _ (List.mem_append_right _ h)) hown hK hP 0 rfl rfl 7 (by decide) (hts (.fieldLink RX8 40 "LineCites$Work" "seen" "I") (List.mem_of_getElem? (i := 1) rfl)) (fun _ h9 => h9) rfl dX8_putSeen_37 ?_
      refine lv_iload_n hx hb dX8_putSeen_40 rfl (lv_at hl 1 rfl) ?_
      refine va_iast hx hb hK hP hD hS 1 0 rfl rfl (vp_in_iff.mpr ⟨by omega, by omega⟩) dX8_putSeen_41 (fun H locs hP hD hS => ?_)
      obtain ⟨g4, eg4⟩ : ∃ g : Nat → Int32, g = upd g_b_sn (i_se : Int32).toNatClampNeg i_0 := ⟨_, rfl⟩
      have hP : va_P D vwCl [(h0, .inr (8, [.ref b_sc, .ref b_sp, .ref b_cp, .ref b_sn, .ref b_sl, .int i_li, .int i_ed, .int i_se])), (b_sn, .inl (kI, 12, .inl (upd g_b_sn (i_se : Int32).toNatClampNeg i_0))), (b_sl, .inl (kI, 12, .inl g_b_sl))] H := hP
      have hD : va_D A [(h0, .inr (8, [.ref b_sc, .ref b_sp, .ref b_cp, .ref b_sn, .ref b_sl, .int i_li, .int i_ed, .int i_se])), (b_sn, .inl (kI, 12, .inl (upd g_b_sn (i_se : Int32).toNatClampNeg i_0))), (b_sl, .inl (kI, 12, .inl g_b_sl))] := hD
      have hK : va_K D vwCl [(kI, .int)] s := hK
      rw [← eg4] at hP hD
      refine lv_aload_n hx hb dX8_putSeen_42 rfl (lv_at hl 0 rfl) ?_
      refine va_get (D := D) (ci := 8) (v := .ref b_sl) (C := RX8) (T := TX8) (N := 8) hx hb hts (fun _ h => List.mem_cons_of_mem _ (List.mem_append_right _ h)) hown hK hP 0 rfl rfl 4 (by decide) (hts (.fieldLink RX8 24 "LineCites$Work" "seenLines" "[I") (List.mem_of_getElem? (i := 3) rfl)) (fun _ h9 => h9) rfl dX8_putSeen_43 ?_
      refine lv_aload_n hx hb dX8_putSeen_46 rfl (lv_at hl 0 rfl) ?_
      refine va_get (D := D) (ci := 8) (v := .int i_se) (C := RX8) (T := TX8) (N := 8) hx hb hts (fun _ h => List.mem_cons_of_mem _ (List.mem_append_right _ h)) hown hK hP 0 rfl rfl 7 (by decide) (hts (.fieldLink RX8 40 "LineCites$Work" "seen" "I") (List.mem_of_getElem? (i := 1) rfl)) (fun _ h9 => h9) rfl dX8_putSeen_47 ?_
      refine lv_iload_n hx hb dX8_putSeen_50 rfl (lv_at hl 2 rfl) ?_
      refine va_iast hx hb hK hP hD hS 2 0 rfl rfl (vp_in_iff.mpr ⟨by omega, by omega⟩) dX8_putSeen_51 (fun H locs hP hD hS => ?_)
      obtain ⟨g5, eg5⟩ : ∃ g : Nat → Int32, g = upd g_b_sl (i_se : Int32).toNatClampNeg i_1 := ⟨_, rfl⟩
      have hP : va_P D vwCl [(h0, .inr (8, [.ref b_sc, .ref b_sp, .ref b_cp, .ref b_sn, .ref b_sl, .int i_li, .int i_ed, .int i_se])), (b_sn, .inl (kI, 12, .inl g4)), (b_sl, .inl (kI, 12, .inl (upd g_b_sl (i_se : Int32).toNatClampNeg i_1)))] H := hP
      have hD : va_D A [(h0, .inr (8, [.ref b_sc, .ref b_sp, .ref b_cp, .ref b_sn, .ref b_sl, .int i_li, .int i_ed, .int i_se])), (b_sn, .inl (kI, 12, .inl g4)), (b_sl, .inl (kI, 12, .inl (upd g_b_sl (i_se : Int32).toNatClampNeg i_1)))] := hD
      have hK : va_K D vwCl [(kI, .int)] s := hK
      rw [← eg5] at hP hD
      refine lv_aload_n hx hb dX8_putSeen_52 rfl (lv_at hl 0 rfl) ?_
      refine lv_dup hx hb dX8_putSeen_53 rfl ?_
      refine va_get (D := D) (ci := 8) (v := .int i_se) (C := RX8) (T := TX8) (N := 8) hx hb hts (fun _ h => List.mem_cons_of_mem _ (List.mem_append_right _ h)) hown hK hP 0 rfl rfl 7 (by decide) (hts (.fieldLink RX8 40 "LineCites$Work" "seen" "I") (List.mem_of_getElem? (i := 1) rfl)) (fun _ h9 => h9) rfl dX8_putSeen_54 ?_
      refine lv_iconst (v := 1) hx hb dX8_putSeen_57 (by decide) ?_
      refine lv_iadd hx hb dX8_putSeen_58 ?_
      refine lv_topi (fun x6 ex6 => ?_)
      have tx6 : x6.toInt = i_se.toInt + 1 := pw_addX ex6 rfl (by decide) (by omega) (by omega)
      refine va_put (D := D) (ci := 8) (v := .int x6) (ty := .int) (C := RX8) (T := TX8) (N := 8) hx hb hts (fun _ h => List.mem_cons_of_mem _ (List.mem_append_right _ h)) tyX8 tyX8_ok nmX8 hown hK hP hD hS 0 rfl rfl 7 (by decide) (hts (.fieldLink RX8 40 "LineCites$Work" "seen" "I") (List.mem_of_getElem? (i := 1) rfl)) (fun _ h9 => h9) rfl (by decide +kernel) rfl rfl (Nat.le_of_ble_eq_true rfl) dX8_putSeen_59 (fun H locs hP hD hS => ?_)
      have hP : va_P D vwCl [(h0, .inr (8, [.ref b_sc, .ref b_sp, .ref b_cp, .ref b_sn, .ref b_sl, .int i_li, .int i_ed, .int x6])), (b_sn, .inl (kI, 12, .inl g4)), (b_sl, .inl (kI, 12, .inl g5))] H := hP
      have hD : va_D A [(h0, .inr (8, [.ref b_sc, .ref b_sp, .ref b_cp, .ref b_sn, .ref b_sl, .int i_li, .int i_ed, .int x6])), (b_sn, .inl (kI, 12, .inl g4)), (b_sl, .inl (kI, 12, .inl g5))] := hD
      have hK : va_K D vwCl [(kI, .int)] s := hK
      have hP9 := hP.sub (ws' := [(h0, .inr (8, [.ref b_sc, .ref b_sp, .ref b_cp, .ref b_sn, .ref b_sl, .int i_li, .int i_ed, .int x6])), (b_sn, .inl (kI, 12, .inl g4)), (b_sl, .inl (kI, 12, .inl g5))]) [0, 1, 2] rfl
      have hD9 := hD.sub (ws' := [(h0, .inr (8, [.ref b_sc, .ref b_sp, .ref b_cp, .ref b_sn, .ref b_sl, .int i_li, .int i_ed, .int x6])), (b_sn, .inl (kI, 12, .inl g4)), (b_sl, .inl (kI, 12, .inl g5))]) [0, 1, 2] (by decide) rfl
      have hK9 := hK.sub (tys' := [(kI, .int)]) [0] rfl
      refine W.widen (k := 0) (n := 0) (Nat.le_of_ble_eq_true rfl) (Nat.le_of_ble_eq_true rfl) ?_
      exact W.vret hx hb hr (fun t ht hW => ⟨⟨(), rfl, trivial, x6, g4, g5, by rw [ht]; exact hP9, va_K.moved hW.alike hK9, hD9⟩, hS.F ht⟩) hS.2.2 dX8_putSeen_62
def w_X8_seenNumber : List Cond := .code yX8_seenNumber cX8_seenNumber 2 (some .int) :: ([.fieldLink RX8 21 "LineCites$Work" "seenNumbers" "[I"] ++ wsX80)
set_option maxHeartbeats 4000000 in
set_option maxRecDepth 100000 in
theorem c_X8_seenNumber (l : Launch) (D : va_G) (h0 : Nat) (i_i : Int32) (b_sc : Nat) (b_sp : Nat) (b_cp : Nat) (b_sn : Nat) (b_sl : Nat) (i_li : Int32) (i_ed : Int32) (i_se : Int32) (kI : ClassId) (g_b_sn : Nat → Int32) : Met l yX8_seenNumber w_X8_seenNumber ({ frames := 0, cells := 0, slots := 0, locals := 0 }) (va_Pc [.ref h0, .int i_i] (fun U => va_P D vwCl [(h0, .inr (8, [.ref b_sc, .ref b_sp, .ref b_cp, .ref b_sn, .ref b_sl, .int i_li, .int i_ed, .int i_se])), (b_sn, .inl (kI, 12, .inl g_b_sn))] U.heap ∧ va_K D vwCl [(kI, .int)] U)) (va_Qi (fun (r : Int32) (_ : Unit) => True) (fun _ _ => True) (fun _ => False)) 0 0 (fun _ => False) := by
  refine Met.ofW (cc := cX8_seenNumber) (maxL := 2) (ret := (some .int)) (by decide) rfl ?_
  intro p e s m args below meth c s₁ B hml hv
  obtain ⟨rfl, hP, hK⟩ := hv
  have hx := B.exec
  have hb := B.bytes
  have hr := B.returns
  have hts := atoms_spec (ws := w_X8_seenNumber) B.pre
  have hown : s.vm.findClass RX8 = some m.cls := findClass_of_methodNamed B.named
  have hlocks := B.notSynchronized
  have hS : va_S (fun _ : Nat => False) s.heap s.heap [] := va_S.rf
  have hP : va_P D vwCl [(h0, .inr (8, [.ref b_sc, .ref b_sp, .ref b_cp, .ref b_sn, .ref b_sl, .int i_li, .int i_ed, .int i_se])), (b_sn, .inl (kI, 12, .inl g_b_sn))] s.heap := hP
  have hl := lv_entry ([.ref h0, .int i_i]) (n := 2) (Nat.le_of_ble_eq_true rfl)
  rw [lg_entry_eq]
  generalize (lg_sl ([.ref h0, .int i_i]) ++ List.replicate (2 - (lg_sl ([.ref h0, .int i_i])).length) Slot.unset).toArray = ls at hl ⊢
  have hl : lv_has ls 2 [(0, .ref h0), (1, .int i_i)] := hl
  obtain ⟨H, hHe⟩ : ∃ H : Heap, H = s.heap := ⟨_, rfl⟩
  rw [← hHe] at hP
  have hS : va_S (fun _ : Nat => False) s.heap H [] := by rw [hHe]; exact hS
  refine pw_heap hHe ?_
  refine lv_iload_n hx hb dX8_seenNumber_0 rfl (lv_at hl 1 rfl) ?_
  refine lv_if_lt (tgt := 13) hx hb dX8_seenNumber_1 (by decide) (fun c1 => ?_) (fun c1 => ?_)
  · have nc1 : i_i.toInt < 0 := pw_lt c1 rfl (by decide)
    refine lv_iconst (v := 0) hx hb dX8_seenNumber_13 (by decide) ?_
    refine lv_goto (tgt := 23) hx hb dX8_seenNumber_14 (by decide) ?_
    exact W.iret (v := 0) hx hb hr (fun t ht hW => ⟨⟨0, (), rfl, trivial, trivial⟩, hS.F ht⟩) hS.2.2 dX8_seenNumber_23
  · have nc1 : 0 ≤ i_i.toInt := pw_nlt c1 rfl (by decide)
    refine lv_iload_n hx hb dX8_seenNumber_4 rfl (lv_at hl 1 rfl) ?_
    refine lv_aload_n hx hb dX8_seenNumber_5 rfl (lv_at hl 0 rfl) ?_
    refine va_get (D := D) (ci := 8) (v := .ref b_sn) (C := RX8) (T := TX8) (N := 8) hx hb hts (fun _ h => List.mem_cons_of_mem _ (List.mem_append_right _ h)) hown hK hP 0 rfl rfl 3 (by decide) (hts (.fieldLink RX8 21 "LineCites$Work" "seenNumbers" "[I") (List.mem_of_getElem? (i := 1) rfl)) (fun _ h9 => h9) rfl dX8_seenNumber_6 ?_
    refine va_alen (v := 12) hx hb hK hP 1 0 rfl rfl rfl dX8_seenNumber_9 ?_
    refine lv_icmp_lt (tgt := 17) hx hb dX8_seenNumber_10 (by decide) (fun c2 => ?_) (fun c2 => ?_)
    · have nc2 : i_i.toInt < 12 := pw_lt c2 rfl (by decide)
      refine lv_aload_n hx hb dX8_seenNumber_17 rfl (lv_at hl 0 rfl) ?_
      refine va_get (D := D) (ci := 8) (v := .ref b_sn) (C := RX8) (T := TX8) (N := 8) hx hb hts (fun _ h => List.mem_cons_of_mem _ (List.mem_append_right _ h)) hown hK hP 0 rfl rfl 3 (by decide) (hts (.fieldLink RX8 21 "LineCites$Work" "seenNumbers" "[I") (List.mem_of_getElem? (i := 1) rfl)) (fun _ h9 => h9) rfl dX8_seenNumber_18 ?_
      refine lv_iload_n hx hb dX8_seenNumber_21 rfl (lv_at hl 1 rfl) ?_
      refine va_iald hx hb hK hP 1 0 rfl rfl (vp_in_iff.mpr ⟨by omega, by omega⟩) dX8_seenNumber_22 ?_
      refine lv_topi (fun x3 ex3 => ?_)
      exact W.iret (v := x3) hx hb hr (fun t ht hW => ⟨⟨x3, (), rfl, trivial, trivial⟩, hS.F ht⟩) hS.2.2 dX8_seenNumber_23
    · have nc2 : 12 ≤ i_i.toInt := pw_nlt c2 rfl (by decide)
      refine lv_iconst (v := 0) hx hb dX8_seenNumber_13 (by decide) ?_
      refine lv_goto (tgt := 23) hx hb dX8_seenNumber_14 (by decide) ?_
      exact W.iret (v := 0) hx hb hr (fun t ht hW => ⟨⟨0, (), rfl, trivial, trivial⟩, hS.F ht⟩) hS.2.2 dX8_seenNumber_23
def w_X8_seenLine : List Cond := .code yX8_seenLine cX8_seenLine 2 (some .int) :: ([.fieldLink RX8 24 "LineCites$Work" "seenLines" "[I"] ++ wsX80)
set_option maxHeartbeats 4000000 in
set_option maxRecDepth 100000 in
theorem c_X8_seenLine (l : Launch) (D : va_G) (h0 : Nat) (i_i : Int32) (b_sc : Nat) (b_sp : Nat) (b_cp : Nat) (b_sn : Nat) (b_sl : Nat) (i_li : Int32) (i_ed : Int32) (i_se : Int32) (kI : ClassId) (g_b_sl : Nat → Int32) : Met l yX8_seenLine w_X8_seenLine ({ frames := 0, cells := 0, slots := 0, locals := 0 }) (va_Pc [.ref h0, .int i_i] (fun U => va_P D vwCl [(h0, .inr (8, [.ref b_sc, .ref b_sp, .ref b_cp, .ref b_sn, .ref b_sl, .int i_li, .int i_ed, .int i_se])), (b_sl, .inl (kI, 12, .inl g_b_sl))] U.heap ∧ va_K D vwCl [(kI, .int)] U)) (va_Qi (fun (r : Int32) (_ : Unit) => True) (fun _ _ => True) (fun _ => False)) 0 0 (fun _ => False) := by
  refine Met.ofW (cc := cX8_seenLine) (maxL := 2) (ret := (some .int)) (by decide) rfl ?_
  intro p e s m args below meth c s₁ B hml hv
  obtain ⟨rfl, hP, hK⟩ := hv
  have hx := B.exec
  have hb := B.bytes
  have hr := B.returns
  have hts := atoms_spec (ws := w_X8_seenLine) B.pre
  have hown : s.vm.findClass RX8 = some m.cls := findClass_of_methodNamed B.named
  have hlocks := B.notSynchronized
  have hS : va_S (fun _ : Nat => False) s.heap s.heap [] := va_S.rf
  have hP : va_P D vwCl [(h0, .inr (8, [.ref b_sc, .ref b_sp, .ref b_cp, .ref b_sn, .ref b_sl, .int i_li, .int i_ed, .int i_se])), (b_sl, .inl (kI, 12, .inl g_b_sl))] s.heap := hP
  have hl := lv_entry ([.ref h0, .int i_i]) (n := 2) (Nat.le_of_ble_eq_true rfl)
  rw [lg_entry_eq]
  generalize (lg_sl ([.ref h0, .int i_i]) ++ List.replicate (2 - (lg_sl ([.ref h0, .int i_i])).length) Slot.unset).toArray = ls at hl ⊢
  have hl : lv_has ls 2 [(0, .ref h0), (1, .int i_i)] := hl
  obtain ⟨H, hHe⟩ : ∃ H : Heap, H = s.heap := ⟨_, rfl⟩
  rw [← hHe] at hP
  have hS : va_S (fun _ : Nat => False) s.heap H [] := by rw [hHe]; exact hS
  refine pw_heap hHe ?_
  refine lv_iload_n hx hb dX8_seenLine_0 rfl (lv_at hl 1 rfl) ?_
  refine lv_if_lt (tgt := 13) hx hb dX8_seenLine_1 (by decide) (fun c1 => ?_) (fun c1 => ?_)
  · have nc1 : i_i.toInt < 0 := pw_lt c1 rfl (by decide)
    refine lv_iconst (v := (-1)) hx hb dX8_seenLine_13 (by decide) ?_
    refine lv_goto (tgt := 23) hx hb dX8_seenLine_14 (by decide) ?_
    exact W.iret (v := (-1)) hx hb hr (fun t ht hW => ⟨⟨(-1), (), rfl, trivial, trivial⟩, hS.F ht⟩) hS.2.2 dX8_seenLine_23
  · have nc1 : 0 ≤ i_i.toInt := pw_nlt c1 rfl (by decide)
    refine lv_iload_n hx hb dX8_seenLine_4 rfl (lv_at hl 1 rfl) ?_
    refine lv_aload_n hx hb dX8_seenLine_5 rfl (lv_at hl 0 rfl) ?_
    refine va_get (D := D) (ci := 8) (v := .ref b_sl) (C := RX8) (T := TX8) (N := 8) hx hb hts (fun _ h => List.mem_cons_of_mem _ (List.mem_append_right _ h)) hown hK hP 0 rfl rfl 4 (by decide) (hts (.fieldLink RX8 24 "LineCites$Work" "seenLines" "[I") (List.mem_of_getElem? (i := 1) rfl)) (fun _ h9 => h9) rfl dX8_seenLine_6 ?_
    refine va_alen (v := 12) hx hb hK hP 1 0 rfl rfl rfl dX8_seenLine_9 ?_
    refine lv_icmp_lt (tgt := 17) hx hb dX8_seenLine_10 (by decide) (fun c2 => ?_) (fun c2 => ?_)
    · have nc2 : i_i.toInt < 12 := pw_lt c2 rfl (by decide)
      refine lv_aload_n hx hb dX8_seenLine_17 rfl (lv_at hl 0 rfl) ?_
      refine va_get (D := D) (ci := 8) (v := .ref b_sl) (C := RX8) (T := TX8) (N := 8) hx hb hts (fun _ h => List.mem_cons_of_mem _ (List.mem_append_right _ h)) hown hK hP 0 rfl rfl 4 (by decide) (hts (.fieldLink RX8 24 "LineCites$Work" "seenLines" "[I") (List.mem_of_getElem? (i := 1) rfl)) (fun _ h9 => h9) rfl dX8_seenLine_18 ?_
      refine lv_iload_n hx hb dX8_seenLine_21 rfl (lv_at hl 1 rfl) ?_
      refine va_iald hx hb hK hP 1 0 rfl rfl (vp_in_iff.mpr ⟨by omega, by omega⟩) dX8_seenLine_22 ?_
      refine lv_topi (fun x3 ex3 => ?_)
      exact W.iret (v := x3) hx hb hr (fun t ht hW => ⟨⟨x3, (), rfl, trivial, trivial⟩, hS.F ht⟩) hS.2.2 dX8_seenLine_23
    · have nc2 : 12 ≤ i_i.toInt := pw_nlt c2 rfl (by decide)
      refine lv_iconst (v := (-1)) hx hb dX8_seenLine_13 (by decide) ?_
      refine lv_goto (tgt := 23) hx hb dX8_seenLine_14 (by decide) ?_
      exact W.iret (v := (-1)) hx hb hr (fun t ht hW => ⟨⟨(-1), (), rfl, trivial, trivial⟩, hS.F ht⟩) hS.2.2 dX8_seenLine_23
