theorem dX10_in0_0 : decode cX10_in0 0 = .ok (.lload_n 0, 1) := by decide +kernel
theorem dX10_in0_1 : decode cX10_in0 1 = .ok (.lload_n 2, 1) := by decide +kernel
theorem dX10_in0_2 : decode cX10_in0 2 = .ok (.lcmp, 1) := by decide +kernel
theorem dX10_in0_3 : decode cX10_in0 3 = .ok (.ifCond .lt 14, 3) := by decide +kernel
theorem dX10_in0_6 : decode cX10_in0 6 = .ok (.lload_n 0, 1) := by decide +kernel
theorem dX10_in0_7 : decode cX10_in0 7 = .ok (.lload 4, 2) := by decide +kernel
theorem dX10_in0_9 : decode cX10_in0 9 = .ok (.lcmp, 1) := by decide +kernel
theorem dX10_in0_10 : decode cX10_in0 10 = .ok (.ifCond .gt 7, 3) := by decide +kernel
theorem dX10_in0_13 : decode cX10_in0 13 = .ok (.iconst 1, 1) := by decide +kernel
theorem dX10_in0_14 : decode cX10_in0 14 = .ok (.goto 4, 3) := by decide +kernel
theorem dX10_in0_17 : decode cX10_in0 17 = .ok (.iconst 0, 1) := by decide +kernel
theorem dX10_in0_18 : decode cX10_in0 18 = .ok (.ireturn, 1) := by decide +kernel
theorem dX10_isNumber_0 : decode cX10_isNumber 0 = .ok (.iload_n 0, 1) := by decide +kernel
theorem dX10_isNumber_1 : decode cX10_isNumber 1 = .ok (.i2l, 1) := by decide +kernel
theorem dX10_isNumber_2 : decode cX10_isNumber 2 = .ok (.lconst 1, 1) := by decide +kernel
theorem dX10_isNumber_3 : decode cX10_isNumber 3 = .ok (.ldc2_w 59, 3) := by decide +kernel
theorem dX10_isNumber_6 : decode cX10_isNumber 6 = .ok (.invokestatic 51, 3) := by decide +kernel
theorem dX10_isNumber_9 : decode cX10_isNumber 9 = .ok (.ireturn, 1) := by decide +kernel
theorem dX10_isWork_0 : decode cX10_isWork 0 = .ok (.aload_n 0, 1) := by decide +kernel
theorem dX10_isWork_1 : decode cX10_isWork 1 = .ok (.getfield 7, 3) := by decide +kernel
theorem dX10_isWork_4 : decode cX10_isWork 4 = .ok (.iconst 0, 1) := by decide +kernel
theorem dX10_isWork_5 : decode cX10_isWork 5 = .ok (.iaload, 1) := by decide +kernel
theorem dX10_isWork_6 : decode cX10_isWork 6 = .ok (.ifCond .le 7, 3) := by decide +kernel
theorem dX10_isWork_9 : decode cX10_isWork 9 = .ok (.iconst 1, 1) := by decide +kernel
theorem dX10_isWork_10 : decode cX10_isWork 10 = .ok (.goto 4, 3) := by decide +kernel
theorem dX10_isWork_13 : decode cX10_isWork 13 = .ok (.iconst 0, 1) := by decide +kernel
theorem dX10_isWork_14 : decode cX10_isWork 14 = .ok (.ireturn, 1) := by decide +kernel
theorem dX10_isEdition_0 : decode cX10_isEdition 0 = .ok (.aload_n 0, 1) := by decide +kernel
theorem dX10_isEdition_1 : decode cX10_isEdition 1 = .ok (.invokevirtual 47, 3) := by decide +kernel
theorem dX10_isEdition_4 : decode cX10_isEdition 4 = .ok (.ifCond .eq 25, 3) := by decide +kernel
theorem dX10_isEdition_7 : decode cX10_isEdition 7 = .ok (.iload_n 1, 1) := by decide +kernel
theorem dX10_isEdition_8 : decode cX10_isEdition 8 = .ok (.i2l, 1) := by decide +kernel
theorem dX10_isEdition_9 : decode cX10_isEdition 9 = .ok (.lconst 0, 1) := by decide +kernel
theorem dX10_isEdition_10 : decode cX10_isEdition 10 = .ok (.aload_n 0, 1) := by decide +kernel
theorem dX10_isEdition_11 : decode cX10_isEdition 11 = .ok (.getfield 7, 3) := by decide +kernel
theorem dX10_isEdition_14 : decode cX10_isEdition 14 = .ok (.iconst 1, 1) := by decide +kernel
theorem dX10_isEdition_15 : decode cX10_isEdition 15 = .ok (.iaload, 1) := by decide +kernel
theorem dX10_isEdition_16 : decode cX10_isEdition 16 = .ok (.iconst 1, 1) := by decide +kernel
theorem dX10_isEdition_17 : decode cX10_isEdition 17 = .ok (.isub, 1) := by decide +kernel
theorem dX10_isEdition_18 : decode cX10_isEdition 18 = .ok (.i2l, 1) := by decide +kernel
theorem dX10_isEdition_19 : decode cX10_isEdition 19 = .ok (.invokestatic 51, 3) := by decide +kernel
theorem dX10_isEdition_22 : decode cX10_isEdition 22 = .ok (.ifCond .eq 7, 3) := by decide +kernel
theorem dX10_isEdition_25 : decode cX10_isEdition 25 = .ok (.iconst 1, 1) := by decide +kernel
theorem dX10_isEdition_26 : decode cX10_isEdition 26 = .ok (.goto 4, 3) := by decide +kernel
theorem dX10_isEdition_29 : decode cX10_isEdition 29 = .ok (.iconst 0, 1) := by decide +kernel
theorem dX10_isEdition_30 : decode cX10_isEdition 30 = .ok (.ireturn, 1) := by decide +kernel
theorem dX10_isLine_0 : decode cX10_isLine 0 = .ok (.iload_n 1, 1) := by decide +kernel
theorem dX10_isLine_1 : decode cX10_isLine 1 = .ok (.i2l, 1) := by decide +kernel
theorem dX10_isLine_2 : decode cX10_isLine 2 = .ok (.lconst 0, 1) := by decide +kernel
theorem dX10_isLine_3 : decode cX10_isLine 3 = .ok (.aload_n 0, 1) := by decide +kernel
theorem dX10_isLine_4 : decode cX10_isLine 4 = .ok (.getfield 7, 3) := by decide +kernel
theorem dX10_isLine_7 : decode cX10_isLine 7 = .ok (.iconst 0, 1) := by decide +kernel
theorem dX10_isLine_8 : decode cX10_isLine 8 = .ok (.iaload, 1) := by decide +kernel
theorem dX10_isLine_9 : decode cX10_isLine 9 = .ok (.iconst 1, 1) := by decide +kernel
theorem dX10_isLine_10 : decode cX10_isLine 10 = .ok (.isub, 1) := by decide +kernel
theorem dX10_isLine_11 : decode cX10_isLine 11 = .ok (.i2l, 1) := by decide +kernel
theorem dX10_isLine_12 : decode cX10_isLine 12 = .ok (.invokestatic 51, 3) := by decide +kernel
theorem dX10_isLine_15 : decode cX10_isLine 15 = .ok (.ireturn, 1) := by decide +kernel
theorem dX10_isStretch_0 : decode cX10_isStretch 0 = .ok (.aload_n 0, 1) := by decide +kernel
theorem dX10_isStretch_1 : decode cX10_isStretch 1 = .ok (.iload_n 1, 1) := by decide +kernel
theorem dX10_isStretch_2 : decode cX10_isStretch 2 = .ok (.invokevirtual 55, 3) := by decide +kernel
theorem dX10_isStretch_5 : decode cX10_isStretch 5 = .ok (.ifCond .eq 27, 3) := by decide +kernel
theorem dX10_isStretch_8 : decode cX10_isStretch 8 = .ok (.iload_n 2, 1) := by decide +kernel
theorem dX10_isStretch_9 : decode cX10_isStretch 9 = .ok (.i2l, 1) := by decide +kernel
theorem dX10_isStretch_10 : decode cX10_isStretch 10 = .ok (.lconst 0, 1) := by decide +kernel
theorem dX10_isStretch_11 : decode cX10_isStretch 11 = .ok (.aload_n 0, 1) := by decide +kernel
theorem dX10_isStretch_12 : decode cX10_isStretch 12 = .ok (.getfield 7, 3) := by decide +kernel
theorem dX10_isStretch_15 : decode cX10_isStretch 15 = .ok (.iconst 3, 1) := by decide +kernel
theorem dX10_isStretch_16 : decode cX10_isStretch 16 = .ok (.iload_n 1, 1) := by decide +kernel
theorem dX10_isStretch_17 : decode cX10_isStretch 17 = .ok (.iadd, 1) := by decide +kernel
theorem dX10_isStretch_18 : decode cX10_isStretch 18 = .ok (.iaload, 1) := by decide +kernel
theorem dX10_isStretch_19 : decode cX10_isStretch 19 = .ok (.iconst 1, 1) := by decide +kernel
theorem dX10_isStretch_20 : decode cX10_isStretch 20 = .ok (.isub, 1) := by decide +kernel
theorem dX10_isStretch_21 : decode cX10_isStretch 21 = .ok (.i2l, 1) := by decide +kernel
theorem dX10_isStretch_22 : decode cX10_isStretch 22 = .ok (.invokestatic 51, 3) := by decide +kernel
theorem dX10_isStretch_25 : decode cX10_isStretch 25 = .ok (.ifCond .eq 7, 3) := by decide +kernel
theorem dX10_isStretch_28 : decode cX10_isStretch 28 = .ok (.iconst 1, 1) := by decide +kernel
theorem dX10_isStretch_29 : decode cX10_isStretch 29 = .ok (.goto 4, 3) := by decide +kernel
theorem dX10_isStretch_32 : decode cX10_isStretch 32 = .ok (.iconst 0, 1) := by decide +kernel
theorem dX10_isStretch_33 : decode cX10_isStretch 33 = .ok (.ireturn, 1) := by decide +kernel
theorem dX10_of_0 : decode cX10_of 0 = .ok (.aload_n 0, 1) := by decide +kernel
theorem dX10_of_1 : decode cX10_of 1 = .ok (.bipush 8, 2) := by decide +kernel
theorem dX10_of_3 : decode cX10_of 3 = .ok (.bipush 24, 2) := by decide +kernel
theorem dX10_of_5 : decode cX10_of 5 = .ok (.iload_n 1, 1) := by decide +kernel
theorem dX10_of_6 : decode cX10_of 6 = .ok (.imul, 1) := by decide +kernel
theorem dX10_of_7 : decode cX10_of 7 = .ok (.iadd, 1) := by decide +kernel
theorem dX10_of_8 : decode cX10_of 8 = .ok (.iconst 4, 1) := by decide +kernel
theorem dX10_of_9 : decode cX10_of 9 = .ok (.iload_n 2, 1) := by decide +kernel
theorem dX10_of_10 : decode cX10_of 10 = .ok (.imul, 1) := by decide +kernel
theorem dX10_of_11 : decode cX10_of 11 = .ok (.iadd, 1) := by decide +kernel
theorem dX10_of_12 : decode cX10_of 12 = .ok (.iload_n 3, 1) := by decide +kernel
theorem dX10_of_13 : decode cX10_of 13 = .ok (.iadd, 1) := by decide +kernel
theorem dX10_of_14 : decode cX10_of 14 = .ok (.iaload, 1) := by decide +kernel
theorem dX10_of_15 : decode cX10_of 15 = .ok (.ireturn, 1) := by decide +kernel
theorem dX10_stretchOf_0 : decode cX10_stretchOf 0 = .ok (.ldc 61, 2) := by decide +kernel
theorem dX10_stretchOf_2 : decode cX10_stretchOf 2 = .ok (.istore 4, 2) := by decide +kernel
theorem dX10_stretchOf_4 : decode cX10_stretchOf 4 = .ok (.iconst 0, 1) := by decide +kernel
theorem dX10_stretchOf_5 : decode cX10_stretchOf 5 = .ok (.istore 5, 2) := by decide +kernel
theorem dX10_stretchOf_7 : decode cX10_stretchOf 7 = .ok (.iload 5, 2) := by decide +kernel
theorem dX10_stretchOf_9 : decode cX10_stretchOf 9 = .ok (.aload_n 0, 1) := by decide +kernel
theorem dX10_stretchOf_10 : decode cX10_stretchOf 10 = .ok (.iconst 3, 1) := by decide +kernel
theorem dX10_stretchOf_11 : decode cX10_stretchOf 11 = .ok (.iload_n 1, 1) := by decide +kernel
theorem dX10_stretchOf_12 : decode cX10_stretchOf 12 = .ok (.iadd, 1) := by decide +kernel
theorem dX10_stretchOf_13 : decode cX10_stretchOf 13 = .ok (.iaload, 1) := by decide +kernel
theorem dX10_stretchOf_14 : decode cX10_stretchOf 14 = .ok (.if_icmp .ge 59, 3) := by decide +kernel
theorem dX10_stretchOf_17 : decode cX10_stretchOf 17 = .ok (.aload_n 0, 1) := by decide +kernel
theorem dX10_stretchOf_18 : decode cX10_stretchOf 18 = .ok (.iload_n 1, 1) := by decide +kernel
theorem dX10_stretchOf_19 : decode cX10_stretchOf 19 = .ok (.iload 5, 2) := by decide +kernel
theorem dX10_stretchOf_21 : decode cX10_stretchOf 21 = .ok (.iconst 1, 1) := by decide +kernel
theorem dX10_stretchOf_22 : decode cX10_stretchOf 22 = .ok (.invokestatic 62, 3) := by decide +kernel
theorem dX10_stretchOf_25 : decode cX10_stretchOf 25 = .ok (.istore 6, 2) := by decide +kernel
theorem dX10_stretchOf_27 : decode cX10_stretchOf 27 = .ok (.iload 5, 2) := by decide +kernel
theorem dX10_stretchOf_29 : decode cX10_stretchOf 29 = .ok (.iload_n 3, 1) := by decide +kernel
theorem dX10_stretchOf_30 : decode cX10_stretchOf 30 = .ok (.if_icmp .eq 33, 3) := by decide +kernel
theorem dX10_stretchOf_33 : decode cX10_stretchOf 33 = .ok (.iload_n 2, 1) := by decide +kernel
theorem dX10_stretchOf_34 : decode cX10_stretchOf 34 = .ok (.i2l, 1) := by decide +kernel
theorem dX10_stretchOf_35 : decode cX10_stretchOf 35 = .ok (.iload 6, 2) := by decide +kernel
theorem dX10_stretchOf_37 : decode cX10_stretchOf 37 = .ok (.i2l, 1) := by decide +kernel
theorem dX10_stretchOf_38 : decode cX10_stretchOf 38 = .ok (.iload 6, 2) := by decide +kernel
theorem dX10_stretchOf_40 : decode cX10_stretchOf 40 = .ok (.aload_n 0, 1) := by decide +kernel
theorem dX10_stretchOf_41 : decode cX10_stretchOf 41 = .ok (.iload_n 1, 1) := by decide +kernel
theorem dX10_stretchOf_42 : decode cX10_stretchOf 42 = .ok (.iload 5, 2) := by decide +kernel
theorem dX10_stretchOf_44 : decode cX10_stretchOf 44 = .ok (.iconst 2, 1) := by decide +kernel
theorem dX10_stretchOf_45 : decode cX10_stretchOf 45 = .ok (.invokestatic 62, 3) := by decide +kernel
theorem dX10_stretchOf_48 : decode cX10_stretchOf 48 = .ok (.iadd, 1) := by decide +kernel
theorem dX10_stretchOf_49 : decode cX10_stretchOf 49 = .ok (.iconst 1, 1) := by decide +kernel
theorem dX10_stretchOf_50 : decode cX10_stretchOf 50 = .ok (.isub, 1) := by decide +kernel
theorem dX10_stretchOf_51 : decode cX10_stretchOf 51 = .ok (.i2l, 1) := by decide +kernel
theorem dX10_stretchOf_52 : decode cX10_stretchOf 52 = .ok (.invokestatic 51, 3) := by decide +kernel
theorem dX10_stretchOf_55 : decode cX10_stretchOf 55 = .ok (.ifCond .eq 8, 3) := by decide +kernel
theorem dX10_stretchOf_58 : decode cX10_stretchOf 58 = .ok (.iload 5, 2) := by decide +kernel
theorem dX10_stretchOf_60 : decode cX10_stretchOf 60 = .ok (.goto 5, 3) := by decide +kernel
theorem dX10_stretchOf_63 : decode cX10_stretchOf 63 = .ok (.iload 4, 2) := by decide +kernel
theorem dX10_stretchOf_65 : decode cX10_stretchOf 65 = .ok (.istore 4, 2) := by decide +kernel
theorem dX10_stretchOf_67 : decode cX10_stretchOf 67 = .ok (.iinc 5 1, 3) := by decide +kernel
theorem dX10_stretchOf_70 : decode cX10_stretchOf 70 = .ok (.goto (-63), 3) := by decide +kernel
theorem dX10_stretchOf_73 : decode cX10_stretchOf 73 = .ok (.iload 4, 2) := by decide +kernel
theorem dX10_stretchOf_75 : decode cX10_stretchOf 75 = .ok (.ireturn, 1) := by decide +kernel
theorem dX10_isFrom_0 : decode cX10_isFrom 0 = .ok (.iload_n 2, 1) := by decide +kernel
theorem dX10_isFrom_1 : decode cX10_isFrom 1 = .ok (.i2l, 1) := by decide +kernel
theorem dX10_isFrom_2 : decode cX10_isFrom 2 = .ok (.lconst 0, 1) := by decide +kernel
theorem dX10_isFrom_3 : decode cX10_isFrom 3 = .ok (.aload_n 0, 1) := by decide +kernel
theorem dX10_isFrom_4 : decode cX10_isFrom 4 = .ok (.iconst 0, 1) := by decide +kernel
theorem dX10_isFrom_5 : decode cX10_isFrom 5 = .ok (.iaload, 1) := by decide +kernel
theorem dX10_isFrom_6 : decode cX10_isFrom 6 = .ok (.iconst 1, 1) := by decide +kernel
theorem dX10_isFrom_7 : decode cX10_isFrom 7 = .ok (.isub, 1) := by decide +kernel
theorem dX10_isFrom_8 : decode cX10_isFrom 8 = .ok (.i2l, 1) := by decide +kernel
theorem dX10_isFrom_9 : decode cX10_isFrom 9 = .ok (.invokestatic 51, 3) := by decide +kernel
theorem dX10_isFrom_12 : decode cX10_isFrom 12 = .ok (.ifCond .eq 19, 3) := by decide +kernel
theorem dX10_isFrom_15 : decode cX10_isFrom 15 = .ok (.aload_n 0, 1) := by decide +kernel
theorem dX10_isFrom_16 : decode cX10_isFrom 16 = .ok (.iload_n 1, 1) := by decide +kernel
theorem dX10_isFrom_17 : decode cX10_isFrom 17 = .ok (.iload_n 2, 1) := by decide +kernel
theorem dX10_isFrom_18 : decode cX10_isFrom 18 = .ok (.iload_n 3, 1) := by decide +kernel
theorem dX10_isFrom_19 : decode cX10_isFrom 19 = .ok (.invokestatic 66, 3) := by decide +kernel
theorem dX10_isFrom_22 : decode cX10_isFrom 22 = .ok (.ldc 61, 2) := by decide +kernel
theorem dX10_isFrom_24 : decode cX10_isFrom 24 = .ok (.if_icmp .ne 7, 3) := by decide +kernel
theorem dX10_isFrom_27 : decode cX10_isFrom 27 = .ok (.iconst 1, 1) := by decide +kernel
theorem dX10_isFrom_28 : decode cX10_isFrom 28 = .ok (.goto 4, 3) := by decide +kernel
theorem dX10_isFrom_31 : decode cX10_isFrom 31 = .ok (.iconst 0, 1) := by decide +kernel
theorem dX10_isFrom_32 : decode cX10_isFrom 32 = .ok (.ireturn, 1) := by decide +kernel
theorem dX10_isMany_0 : decode cX10_isMany 0 = .ok (.iload_n 3, 1) := by decide +kernel
theorem dX10_isMany_1 : decode cX10_isMany 1 = .ok (.i2l, 1) := by decide +kernel
theorem dX10_isMany_2 : decode cX10_isMany 2 = .ok (.lconst 1, 1) := by decide +kernel
theorem dX10_isMany_3 : decode cX10_isMany 3 = .ok (.aload_n 0, 1) := by decide +kernel
theorem dX10_isMany_4 : decode cX10_isMany 4 = .ok (.iconst 0, 1) := by decide +kernel
theorem dX10_isMany_5 : decode cX10_isMany 5 = .ok (.iaload, 1) := by decide +kernel
theorem dX10_isMany_6 : decode cX10_isMany 6 = .ok (.iload_n 2, 1) := by decide +kernel
theorem dX10_isMany_7 : decode cX10_isMany 7 = .ok (.isub, 1) := by decide +kernel
theorem dX10_isMany_8 : decode cX10_isMany 8 = .ok (.i2l, 1) := by decide +kernel
theorem dX10_isMany_9 : decode cX10_isMany 9 = .ok (.invokestatic 51, 3) := by decide +kernel
theorem dX10_isMany_12 : decode cX10_isMany 12 = .ok (.istore 5, 2) := by decide +kernel
theorem dX10_isMany_14 : decode cX10_isMany 14 = .ok (.iload_n 2, 1) := by decide +kernel
theorem dX10_isMany_15 : decode cX10_isMany 15 = .ok (.istore 6, 2) := by decide +kernel
theorem dX10_isMany_17 : decode cX10_isMany 17 = .ok (.iload 5, 2) := by decide +kernel
theorem dX10_isMany_19 : decode cX10_isMany 19 = .ok (.ifCond .eq 38, 3) := by decide +kernel
theorem dX10_isMany_22 : decode cX10_isMany 22 = .ok (.iload 6, 2) := by decide +kernel
theorem dX10_isMany_24 : decode cX10_isMany 24 = .ok (.iload_n 2, 1) := by decide +kernel
theorem dX10_isMany_25 : decode cX10_isMany 25 = .ok (.iload_n 3, 1) := by decide +kernel
theorem dX10_isMany_26 : decode cX10_isMany 26 = .ok (.iadd, 1) := by decide +kernel
theorem dX10_isMany_27 : decode cX10_isMany 27 = .ok (.if_icmp .ge 30, 3) := by decide +kernel
theorem dX10_isMany_30 : decode cX10_isMany 30 = .ok (.aload_n 0, 1) := by decide +kernel
theorem dX10_isMany_31 : decode cX10_isMany 31 = .ok (.iload_n 1, 1) := by decide +kernel
theorem dX10_isMany_32 : decode cX10_isMany 32 = .ok (.iload 6, 2) := by decide +kernel
theorem dX10_isMany_34 : decode cX10_isMany 34 = .ok (.iload 4, 2) := by decide +kernel
theorem dX10_isMany_36 : decode cX10_isMany 36 = .ok (.invokestatic 66, 3) := by decide +kernel
theorem dX10_isMany_39 : decode cX10_isMany 39 = .ok (.ldc 61, 2) := by decide +kernel
theorem dX10_isMany_41 : decode cX10_isMany 41 = .ok (.if_icmp .ne 7, 3) := by decide +kernel
theorem dX10_isMany_44 : decode cX10_isMany 44 = .ok (.iconst 1, 1) := by decide +kernel
theorem dX10_isMany_45 : decode cX10_isMany 45 = .ok (.goto 4, 3) := by decide +kernel
theorem dX10_isMany_48 : decode cX10_isMany 48 = .ok (.iconst 0, 1) := by decide +kernel
theorem dX10_isMany_49 : decode cX10_isMany 49 = .ok (.istore 5, 2) := by decide +kernel
theorem dX10_isMany_51 : decode cX10_isMany 51 = .ok (.iinc 6 1, 3) := by decide +kernel
theorem dX10_isMany_54 : decode cX10_isMany 54 = .ok (.goto (-37), 3) := by decide +kernel
theorem dX10_isMany_57 : decode cX10_isMany 57 = .ok (.iload 5, 2) := by decide +kernel
theorem dX10_isMany_59 : decode cX10_isMany 59 = .ok (.ireturn, 1) := by decide +kernel
theorem dX10_greatest_0 : decode cX10_greatest 0 = .ok (.iload_n 2, 1) := by decide +kernel
theorem dX10_greatest_1 : decode cX10_greatest 1 = .ok (.iload_n 0, 1) := by decide +kernel
theorem dX10_greatest_2 : decode cX10_greatest 2 = .ok (.iconst 2, 1) := by decide +kernel
theorem dX10_greatest_3 : decode cX10_greatest 3 = .ok (.if_icmp .ne 11, 3) := by decide +kernel
theorem dX10_greatest_6 : decode cX10_greatest 6 = .ok (.iconst 2, 1) := by decide +kernel
theorem dX10_greatest_7 : decode cX10_greatest 7 = .ok (.iload_n 1, 1) := by decide +kernel
theorem dX10_greatest_8 : decode cX10_greatest 8 = .ok (.imul, 1) := by decide +kernel
theorem dX10_greatest_9 : decode cX10_greatest 9 = .ok (.iconst 1, 1) := by decide +kernel
theorem dX10_greatest_10 : decode cX10_greatest 10 = .ok (.isub, 1) := by decide +kernel
theorem dX10_greatest_11 : decode cX10_greatest 11 = .ok (.goto 28, 3) := by decide +kernel
theorem dX10_greatest_14 : decode cX10_greatest 14 = .ok (.iload_n 0, 1) := by decide +kernel
theorem dX10_greatest_15 : decode cX10_greatest 15 = .ok (.iconst 3, 1) := by decide +kernel
theorem dX10_greatest_16 : decode cX10_greatest 16 = .ok (.if_icmp .ne 11, 3) := by decide +kernel
theorem dX10_greatest_19 : decode cX10_greatest 19 = .ok (.iload_n 1, 1) := by decide +kernel
theorem dX10_greatest_20 : decode cX10_greatest 20 = .ok (.iconst 1, 1) := by decide +kernel
theorem dX10_greatest_21 : decode cX10_greatest 21 = .ok (.isub, 1) := by decide +kernel
theorem dX10_greatest_22 : decode cX10_greatest 22 = .ok (.iconst 2, 1) := by decide +kernel
theorem dX10_greatest_23 : decode cX10_greatest 23 = .ok (.idiv, 1) := by decide +kernel
theorem dX10_greatest_24 : decode cX10_greatest 24 = .ok (.goto 15, 3) := by decide +kernel
theorem dX10_greatest_27 : decode cX10_greatest 27 = .ok (.iload_n 0, 1) := by decide +kernel
theorem dX10_greatest_28 : decode cX10_greatest 28 = .ok (.iconst 5, 1) := by decide +kernel
theorem dX10_greatest_29 : decode cX10_greatest 29 = .ok (.if_icmp .ne 7, 3) := by decide +kernel
theorem dX10_greatest_32 : decode cX10_greatest 32 = .ok (.iconst 0, 1) := by decide +kernel
theorem dX10_greatest_33 : decode cX10_greatest 33 = .ok (.goto 6, 3) := by decide +kernel
theorem dX10_greatest_36 : decode cX10_greatest 36 = .ok (.iload_n 1, 1) := by decide +kernel
theorem dX10_greatest_37 : decode cX10_greatest 37 = .ok (.iconst 1, 1) := by decide +kernel
theorem dX10_greatest_38 : decode cX10_greatest 38 = .ok (.isub, 1) := by decide +kernel
theorem dX10_greatest_39 : decode cX10_greatest 39 = .ok (.iadd, 1) := by decide +kernel
theorem dX10_greatest_40 : decode cX10_greatest 40 = .ok (.ireturn, 1) := by decide +kernel
theorem dX10_isFirst_0 : decode cX10_isFirst 0 = .ok (.iload_n 2, 1) := by decide +kernel
theorem dX10_isFirst_1 : decode cX10_isFirst 1 = .ok (.invokestatic 145, 3) := by decide +kernel
theorem dX10_isFirst_4 : decode cX10_isFirst 4 = .ok (.ifCond .eq 19, 3) := by decide +kernel
theorem dX10_isFirst_7 : decode cX10_isFirst 7 = .ok (.iload_n 0, 1) := by decide +kernel
theorem dX10_isFirst_8 : decode cX10_isFirst 8 = .ok (.iload_n 1, 1) := by decide +kernel
theorem dX10_isFirst_9 : decode cX10_isFirst 9 = .ok (.iload_n 2, 1) := by decide +kernel
theorem dX10_isFirst_10 : decode cX10_isFirst 10 = .ok (.invokestatic 148, 3) := by decide +kernel
theorem dX10_isFirst_13 : decode cX10_isFirst 13 = .ok (.sipush 999, 3) := by decide +kernel
theorem dX10_isFirst_16 : decode cX10_isFirst 16 = .ok (.if_icmp .gt 7, 3) := by decide +kernel
theorem dX10_isFirst_19 : decode cX10_isFirst 19 = .ok (.iconst 1, 1) := by decide +kernel
theorem dX10_isFirst_20 : decode cX10_isFirst 20 = .ok (.goto 4, 3) := by decide +kernel
theorem dX10_isFirst_23 : decode cX10_isFirst 23 = .ok (.iconst 0, 1) := by decide +kernel
theorem dX10_isFirst_24 : decode cX10_isFirst 24 = .ok (.ireturn, 1) := by decide +kernel
def w_X10_in0 : List Cond := .code yX10_in0 cX10_in0 6 (some .boolean) :: ([])
set_option maxHeartbeats 4000000 in
set_option maxRecDepth 100000 in
theorem c_X10_in0 (l : Launch) (D : va_G) (z_v : Int64) (z_lo : Int64) (z_hi : Int64) : Met l yX10_in0 w_X10_in0 ({ frames := 0, cells := 0, slots := 0, locals := 0 }) (va_Pc [.long z_v, .long z_lo, .long z_hi] (fun U => va_P D vwCl [] U.heap ∧ va_K D vwCl [] U)) (va_Qi (fun (r : Int32) (_ : Unit) => (r = 0 ∨ r = 1) ∧ ((r.toInt = 1 ∧ z_lo.toInt ≤ z_v.toInt ∧ z_v.toInt ≤ z_hi.toInt) ∨ (r.toInt = 0 ∧ (z_v.toInt < z_lo.toInt ∨ z_hi.toInt < z_v.toInt)))) (fun _ _ => True) (fun _ => False)) 0 0 (fun _ => False) := by
  refine Met.ofW (cc := cX10_in0) (maxL := 6) (ret := (some .boolean)) (by decide) rfl ?_
  intro p e s m args below meth c s₁ B hml hv
  obtain ⟨rfl, hP, hK⟩ := hv
  have hx := B.exec
  have hb := B.bytes
  have hr := B.returns
  have hts := atoms_spec (ws := w_X10_in0) B.pre
  have hown : s.vm.findClass RX10 = some m.cls := findClass_of_methodNamed B.named
  have hlocks := B.notSynchronized
  have hS : va_S (fun _ : Nat => False) s.heap s.heap [] := va_S.rf
  have hP : va_P D vwCl [] s.heap := hP
  have hl := lv_entry ([.long z_v, .long z_lo, .long z_hi]) (n := 6) (Nat.le_of_ble_eq_true rfl)
  rw [lg_entry_eq]
  generalize (lg_sl ([.long z_v, .long z_lo, .long z_hi]) ++ List.replicate (6 - (lg_sl ([.long z_v, .long z_lo, .long z_hi])).length) Slot.unset).toArray = ls at hl ⊢
  have hl : lv_has ls 6 [(0, .long z_v), (2, .long z_lo), (4, .long z_hi)] := hl
  obtain ⟨H, hHe⟩ : ∃ H : Heap, H = s.heap := ⟨_, rfl⟩
  rw [← hHe] at hP
  have hS : va_S (fun _ : Nat => False) s.heap H [] := by rw [hHe]; exact hS
  refine pw_heap hHe ?_
  refine lv_lload_n hx hb dX10_in0_0 rfl (lv_at hl 0 rfl) ?_
  refine lv_lload_n hx hb dX10_in0_1 rfl (lv_at hl 1 rfl) ?_
  refine W.lcmp hx hb dX10_in0_2 ?_
  refine lv_if_lt (tgt := 17) hx hb dX10_in0_3 (by decide) (fun c1 => ?_) (fun c1 => ?_)
  · have nc1 := pw_lc_lt c1
    refine lv_iconst (v := 0) hx hb dX10_in0_17 (by decide) ?_
    exact W.zret (v := 0) (ty := .boolean) hx hb hr rfl (fun t ht hW => ⟨⟨0, (), rfl, ⟨Or.inl rfl, (by have hv : (0 : Int32).toInt = 0 := (by decide); omega)⟩, trivial⟩, hS.F ht⟩) hS.2.2 dX10_in0_18
  · have nc1 := pw_lc_nlt c1
    refine lv_lload_n hx hb dX10_in0_6 rfl (lv_at hl 0 rfl) ?_
    refine lv_lload hx hb dX10_in0_7 (lv_at hl 2 rfl) ?_
    refine W.lcmp hx hb dX10_in0_9 ?_
    refine lv_if_gt (tgt := 17) hx hb dX10_in0_10 (by decide) (fun c2 => ?_) (fun c2 => ?_)
    · have nc2 := pw_lc_gt c2
      refine lv_iconst (v := 0) hx hb dX10_in0_17 (by decide) ?_
      exact W.zret (v := 0) (ty := .boolean) hx hb hr rfl (fun t ht hW => ⟨⟨0, (), rfl, ⟨Or.inl rfl, (by have hv : (0 : Int32).toInt = 0 := (by decide); omega)⟩, trivial⟩, hS.F ht⟩) hS.2.2 dX10_in0_18
    · have nc2 := pw_lc_ngt c2
      refine lv_iconst (v := 1) hx hb dX10_in0_13 (by decide) ?_
      refine lv_goto (tgt := 18) hx hb dX10_in0_14 (by decide) ?_
      exact W.zret (v := 1) (ty := .boolean) hx hb hr rfl (fun t ht hW => ⟨⟨1, (), rfl, ⟨Or.inr rfl, (by have hv : (1 : Int32).toInt = 1 := (by decide); omega)⟩, trivial⟩, hS.F ht⟩) hS.2.2 dX10_in0_18
def w_X10_isNumber : List Cond := .code yX10_isNumber cX10_isNumber 1 (some .boolean) :: ([.constantLong RX10 59 (999), .methodLink RX10 51 yX10_in0, .static yX10_in0, .initialized RX10, .code yX10_in0 cX10_in0 6 (some .boolean)])
set_option maxRecDepth 20000 in
theorem g_X10_isNumber_X10_in0 : GoodIn w_X10_isNumber (wsS RX10 51 yX10_in0 w_X10_in0) := goodIn_r _ [2, 3, 4, 5] rfl (by decide +kernel)
set_option maxHeartbeats 4000000 in
set_option maxRecDepth 100000 in
theorem c_X10_isNumber (l : Launch) (D : va_G) (i_n : Int32) : Met l yX10_isNumber w_X10_isNumber ({ frames := 1, cells := 0, slots := 0, locals := 25 }) (va_Pc [.int i_n] (fun U => va_P D vwCl [] U.heap ∧ va_K D vwCl [] U)) (va_Qi (fun (r : Int32) (_ : Unit) => (r = 0 ∨ r = 1) ∧ ((r.toInt = 1 ∧ 1 ≤ i_n.toInt ∧ i_n.toInt ≤ 999) ∨ (r.toInt = 0 ∧ (i_n.toInt < 1 ∨ 999 < i_n.toInt)))) (fun _ _ => True) (fun _ => False)) 0 0 (fun _ => False) := by
  refine Met.ofW (cc := cX10_isNumber) (maxL := 1) (ret := (some .boolean)) (by decide) rfl ?_
  intro p e s m args below meth c s₁ B hml hv
  obtain ⟨rfl, hP, hK⟩ := hv
  have hx := B.exec
  have hb := B.bytes
  have hr := B.returns
  have hts := atoms_spec (ws := w_X10_isNumber) B.pre
  have hown : s.vm.findClass RX10 = some m.cls := findClass_of_methodNamed B.named
  have hlocks := B.notSynchronized
  have hS : va_S (fun _ : Nat => False) s.heap s.heap [] := va_S.rf
  have hP : va_P D vwCl [] s.heap := hP
  have hl := lv_entry ([.int i_n]) (n := 1) (Nat.le_of_ble_eq_true rfl)
  rw [lg_entry_eq]
  generalize (lg_sl ([.int i_n]) ++ List.replicate (1 - (lg_sl ([.int i_n])).length) Slot.unset).toArray = ls at hl ⊢
  have hl : lv_has ls 1 [(0, .int i_n)] := hl
  obtain ⟨H, hHe⟩ : ∃ H : Heap, H = s.heap := ⟨_, rfl⟩
  rw [← hHe] at hP
  have hS : va_S (fun _ : Nat => False) s.heap H [] := by rw [hHe]; exact hS
  refine pw_heap hHe ?_
  refine lv_iload_n hx hb dX10_isNumber_0 rfl (lv_at hl 0 rfl) ?_
  refine lv_i2l (v := i_n.toInt64) hx hb dX10_isNumber_1 rfl ?_
  refine lv_lconst (v := 1) hx hb dX10_isNumber_2 (by decide) ?_
  refine lv_ldc2 hx hb hown (hts (.constantLong RX10 59 (999)) (List.mem_of_getElem? (i := 1) rfl)) dX10_isNumber_3 ?_
  have hPc := hP.sub (ws' := []) [] rfl
  have hKc := hK.sub (tys' := []) [] rfl
  refine va_calli (va_runS (As := [.long i_n.toInt64, .long 1, .long 999]) (rest := []) ⟨hx, hb, hml, hown, hts⟩ (c_X10_in0 l D i_n.toInt64 1 999) (cwS 3 hts g_X10_isNumber_X10_in0 rfl rfl rfl (by decide +kernel) ⟨Nat.le_of_ble_eq_true rfl, Nat.le_of_ble_eq_true rfl⟩) ⟨fun a U g mk q => by obtain ⟨q0, qP, qK⟩ := q; exact ⟨q0, qP, va_K.moved (u := U) (U := U.calling g mk a) (Vm.Alike.refl U.vm) qK⟩, fun U hU hW => ⟨rfl, by rw [hU]; exact hPc, va_K.moved hW.alike hKc⟩⟩ rfl rfl hl.1 rfl (lv_room (Nat.le_of_ble_eq_true rfl)) dX10_isNumber_6 ⟨Nat.le_of_ble_eq_true rfl, Nat.le_of_ble_eq_true rfl⟩) hS (fun _ _ h => h.elim) (fun _ h => h.elim) (fun r1 u t H1 locs ht hvm hw hB hz1 hk1 hS => ?_)
  have hP := pw_keep hP (fun q hq => hk1 q hq (fun h => h))
  generalize H1 = H at hP hS ⊢
  refine W.widen (k := 0) (n := 0) (Nat.le_of_ble_eq_true rfl) (Nat.le_of_ble_eq_true rfl) ?_
  have bor1 := hw.1
  have zor1 := pw_boolI bor1
  have hfr1 := hw.2
  have kl1 : (1 : Int64).toInt = 1 := by decide
  have kl999 : (999 : Int64).toInt = 999 := by decide
  try simp only [Int32.toInt_toInt64] at hfr1
  exact W.zret (v := r1) (ty := .boolean) hx hb hr (pw_bool bor1) (fun t ht hW => ⟨⟨r1, (), rfl, ⟨bor1, (by omega)⟩, trivial⟩, hS.F ht⟩) hS.2.2 dX10_isNumber_9
def w_X10_isWork : List Cond := .code yX10_isWork cX10_isWork 1 (some .boolean) :: ([.fieldLink RX10 7 "LineCitesModel" "now" "[I"] ++ wsX100)
set_option maxHeartbeats 4000000 in
set_option maxRecDepth 100000 in
theorem c_X10_isWork (l : Launch) (D : va_G) (h0 : Nat) (m_now : Nat) (m_draft : Nat) (m_past : Nat) (j_acts : Int32) (m_images : Nat) (m_kept : Nat) (m_tape : Nat) (j_taped : Int32) (j_at : Int32) (j_start : Int32) (j_token : Int32) (j_value : Int32) (j_fault : Int32) (j_place : Int32) (j_latest : Int32) (m_low : Nat) (m_high : Nat) (m_first : Nat) (m_second : Nat) (m_lines : Nat) (m_others : Nat) (j_shiftFirst : Int32) (j_shiftMany : Int32) (j_shiftLow : Int32) (j_shiftHigh : Int32) (kI : ClassId) (g_now : Nat → Int32) (hg_now : gV g_now) : Met l yX10_isWork w_X10_isWork ({ frames := 0, cells := 0, slots := 0, locals := 0 }) (va_Pc [.ref h0] (fun U => va_P D vwCl [(h0, .inr (10, [.ref m_now, .ref m_draft, .ref m_past, .int j_acts, .ref m_images, .ref m_kept, .ref m_tape, .int j_taped, .int j_at, .int j_start, .int j_token, .int j_value, .int j_fault, .int j_place, .int j_latest, .ref m_low, .ref m_high, .ref m_first, .ref m_second, .ref m_lines, .ref m_others, .int j_shiftFirst, .int j_shiftMany, .int j_shiftLow, .int j_shiftHigh])), (m_now, .inl (kI, 192, .inl g_now))] U.heap ∧ va_K D vwCl [(kI, .int)] U)) (va_Qi (fun (r : Int32) (_ : Unit) => (r = 0 ∨ r = 1) ∧ ((r.toInt = 1 ∧ 1 ≤ (g_now 0).toInt) ∨ (r.toInt = 0 ∧ (g_now 0).toInt = 0))) (fun _ _ => True) (fun _ => False)) 0 0 (fun _ => False) := by
  refine Met.ofW (cc := cX10_isWork) (maxL := 1) (ret := (some .boolean)) (by decide) rfl ?_
  intro p e s m args below meth c s₁ B hml hv
  obtain ⟨rfl, hP, hK⟩ := hv
  have hx := B.exec
  have hb := B.bytes
  have hr := B.returns
  have hts := atoms_spec (ws := w_X10_isWork) B.pre
  have hown : s.vm.findClass RX10 = some m.cls := findClass_of_methodNamed B.named
  have hlocks := B.notSynchronized
  have hS : va_S (fun _ : Nat => False) s.heap s.heap [] := va_S.rf
  have hP : va_P D vwCl [(h0, .inr (10, [.ref m_now, .ref m_draft, .ref m_past, .int j_acts, .ref m_images, .ref m_kept, .ref m_tape, .int j_taped, .int j_at, .int j_start, .int j_token, .int j_value, .int j_fault, .int j_place, .int j_latest, .ref m_low, .ref m_high, .ref m_first, .ref m_second, .ref m_lines, .ref m_others, .int j_shiftFirst, .int j_shiftMany, .int j_shiftLow, .int j_shiftHigh])), (m_now, .inl (kI, 192, .inl g_now))] s.heap := hP
  have hl := lv_entry ([.ref h0]) (n := 1) (Nat.le_of_ble_eq_true rfl)
  rw [lg_entry_eq]
  generalize (lg_sl ([.ref h0]) ++ List.replicate (1 - (lg_sl ([.ref h0])).length) Slot.unset).toArray = ls at hl ⊢
  have hl : lv_has ls 1 [(0, .ref h0)] := hl
  obtain ⟨H, hHe⟩ : ∃ H : Heap, H = s.heap := ⟨_, rfl⟩
  rw [← hHe] at hP
  have hS : va_S (fun _ : Nat => False) s.heap H [] := by rw [hHe]; exact hS
  refine pw_heap hHe ?_
  refine lv_aload_n hx hb dX10_isWork_0 rfl (lv_at hl 0 rfl) ?_
  refine va_get (D := D) (ci := 10) (v := .ref m_now) (C := RX10) (T := TX10) (N := 25) hx hb hts (fun _ h => List.mem_cons_of_mem _ (List.mem_append_right _ h)) hown hK hP 0 rfl rfl 0 (by decide) (hts (.fieldLink RX10 7 "LineCitesModel" "now" "[I") (List.mem_of_getElem? (i := 1) rfl)) (fun _ h9 => h9) rfl dX10_isWork_1 ?_
  refine lv_iconst (v := 0) hx hb dX10_isWork_4 (by decide) ?_
  refine va_iald hx hb hK hP 1 0 rfl rfl (vp_in_iff.mpr (by decide)) dX10_isWork_5 ?_
  refine lv_topi (fun x1 ex1 => ?_)
  have nx1 : 0 ≤ x1.toInt ∧ x1.toInt ≤ 200 := gV_0 hg_now ex1
  have zx1 := gV_00 ex1
  refine lv_if_le (tgt := 13) hx hb dX10_isWork_6 (by decide) (fun c2 => ?_) (fun c2 => ?_)
  · have nc2 : x1.toInt ≤ 0 := pw_le c2 rfl (by decide)
    refine lv_iconst (v := 0) hx hb dX10_isWork_13 (by decide) ?_
    exact W.zret (v := 0) (ty := .boolean) hx hb hr rfl (fun t ht hW => ⟨⟨0, (), rfl, ⟨Or.inl rfl, (by have hv : (0 : Int32).toInt = 0 := (by decide); omega)⟩, trivial⟩, hS.F ht⟩) hS.2.2 dX10_isWork_14
  · have nc2 : 0 < x1.toInt := pw_nle c2 rfl (by decide)
    refine lv_iconst (v := 1) hx hb dX10_isWork_9 (by decide) ?_
    refine lv_goto (tgt := 14) hx hb dX10_isWork_10 (by decide) ?_
    exact W.zret (v := 1) (ty := .boolean) hx hb hr rfl (fun t ht hW => ⟨⟨1, (), rfl, ⟨Or.inr rfl, (by have hv : (1 : Int32).toInt = 1 := (by decide); omega)⟩, trivial⟩, hS.F ht⟩) hS.2.2 dX10_isWork_14
def w_X10_isEdition : List Cond := .code yX10_isEdition cX10_isEdition 2 (some .boolean) :: ([.methodLink RX10 47 yX10_isWork, .instanceMethod yX10_isWork, .selects RX10 yX10_isWork yX10_isWork, .initialized RX10, .code yX10_isWork cX10_isWork 1 (some .boolean), .fieldLink RX10 7 "LineCitesModel" "now" "[I", .methodLink RX10 51 yX10_in0, .static yX10_in0, .code yX10_in0 cX10_in0 6 (some .boolean)] ++ wsX100)
set_option maxRecDepth 20000 in
theorem g_X10_isEdition_X10_isWork : GoodIn w_X10_isEdition (wsV RX10 47 RX10 yX10_isWork w_X10_isWork) := goodIn_r _ [1, 2, 3, 4, 5, 6, 10, 11, 12, 13, 14, 15, 16, 17, 18, 19, 20, 21, 22, 23, 24, 25, 26, 27, 28, 29, 30, 31, 32, 33, 34] rfl (by decide +kernel)
set_option maxRecDepth 20000 in
theorem g_X10_isEdition_X10_in0 : GoodIn w_X10_isEdition (wsS RX10 51 yX10_in0 w_X10_in0) := goodIn_r _ [7, 8, 4, 9] rfl (by decide +kernel)
set_option maxHeartbeats 4000000 in
set_option maxRecDepth 100000 in
theorem c_X10_isEdition (l : Launch) (D : va_G) (h0 : Nat) (i_e : Int32) (m_now : Nat) (m_draft : Nat) (m_past : Nat) (j_acts : Int32) (m_images : Nat) (m_kept : Nat) (m_tape : Nat) (j_taped : Int32) (j_at : Int32) (j_start : Int32) (j_token : Int32) (j_value : Int32) (j_fault : Int32) (j_place : Int32) (j_latest : Int32) (m_low : Nat) (m_high : Nat) (m_first : Nat) (m_second : Nat) (m_lines : Nat) (m_others : Nat) (j_shiftFirst : Int32) (j_shiftMany : Int32) (j_shiftLow : Int32) (j_shiftHigh : Int32) (kI : ClassId) (g_now : Nat → Int32) (hg_now : gV g_now) : Met l yX10_isEdition w_X10_isEdition ({ frames := 1, cells := 0, slots := 0, locals := 25 }) (va_Pc [.ref h0, .int i_e] (fun U => va_P D vwCl [(h0, .inr (10, [.ref m_now, .ref m_draft, .ref m_past, .int j_acts, .ref m_images, .ref m_kept, .ref m_tape, .int j_taped, .int j_at, .int j_start, .int j_token, .int j_value, .int j_fault, .int j_place, .int j_latest, .ref m_low, .ref m_high, .ref m_first, .ref m_second, .ref m_lines, .ref m_others, .int j_shiftFirst, .int j_shiftMany, .int j_shiftLow, .int j_shiftHigh])), (m_now, .inl (kI, 192, .inl g_now))] U.heap ∧ va_K D vwCl [(kI, .int)] U)) (va_Qi (fun (r : Int32) (_ : Unit) => (r = 0 ∨ r = 1) ∧ (r.toInt = 0 ∨ (r.toInt = 1 ∧ 0 ≤ i_e.toInt ∧ i_e.toInt ≤ 4))) (fun _ _ => True) (fun _ => False)) 0 0 (fun _ => False) := by
  refine Met.ofW (cc := cX10_isEdition) (maxL := 2) (ret := (some .boolean)) (by decide) rfl ?_
  intro p e s m args below meth c s₁ B hml hv
  obtain ⟨rfl, hP, hK⟩ := hv
  have hx := B.exec
  have hb := B.bytes
  have hr := B.returns
  have hts := atoms_spec (ws := w_X10_isEdition) B.pre
  have hown : s.vm.findClass RX10 = some m.cls := findClass_of_methodNamed B.named
  have hlocks := B.notSynchronized
  have hS : va_S (fun _ : Nat => False) s.heap s.heap [] := va_S.rf
  have hP : va_P D vwCl [(h0, .inr (10, [.ref m_now, .ref m_draft, .ref m_past, .int j_acts, .ref m_images, .ref m_kept, .ref m_tape, .int j_taped, .int j_at, .int j_start, .int j_token, .int j_value, .int j_fault, .int j_place, .int j_latest, .ref m_low, .ref m_high, .ref m_first, .ref m_second, .ref m_lines, .ref m_others, .int j_shiftFirst, .int j_shiftMany, .int j_shiftLow, .int j_shiftHigh])), (m_now, .inl (kI, 192, .inl g_now))] s.heap := hP
  have hl := lv_entry ([.ref h0, .int i_e]) (n := 2) (Nat.le_of_ble_eq_true rfl)
  rw [lg_entry_eq]
  generalize (lg_sl ([.ref h0, .int i_e]) ++ List.replicate (2 - (lg_sl ([.ref h0, .int i_e])).length) Slot.unset).toArray = ls at hl ⊢
  have hl : lv_has ls 2 [(0, .ref h0), (1, .int i_e)] := hl
  obtain ⟨H, hHe⟩ : ∃ H : Heap, H = s.heap := ⟨_, rfl⟩
  rw [← hHe] at hP
  have hS : va_S (fun _ : Nat => False) s.heap H [] := by rw [hHe]; exact hS
  refine pw_heap hHe ?_
  refine lv_aload_n hx hb dX10_isEdition_0 rfl (lv_at hl 0 rfl) ?_
  have hPc := hP.sub (ws' := [(h0, .inr (10, [.ref m_now, .ref m_draft, .ref m_past, .int j_acts, .ref m_images, .ref m_kept, .ref m_tape, .int j_taped, .int j_at, .int j_start, .int j_token, .int j_value, .int j_fault, .int j_place, .int j_latest, .ref m_low, .ref m_high, .ref m_first, .ref m_second, .ref m_lines, .ref m_others, .int j_shiftFirst, .int j_shiftMany, .int j_shiftLow, .int j_shiftHigh])), (m_now, .inl (kI, 192, .inl g_now))]) [0, 1] rfl
  have hKc := hK.sub (tys' := [(kI, .int)]) [0] rfl
  refine va_calli (va_runV (As := []) (rest := []) ⟨hx, hb, hml, hown, hts⟩ (c_X10_isWork l D h0 m_now m_draft m_past j_acts m_images m_kept m_tape j_taped j_at j_start j_token j_value j_fault j_place j_latest m_low m_high m_first m_second m_lines m_others j_shiftFirst j_shiftMany j_shiftLow j_shiftHigh kI g_now hg_now) (cwV 0 hts g_X10_isEdition_X10_isWork rfl rfl rfl (by decide +kernel) ⟨Nat.le_of_ble_eq_true rfl, Nat.le_of_ble_eq_true rfl⟩) ⟨fun a U g mk q => by obtain ⟨q0, qP, qK⟩ := q; exact ⟨q0, qP, va_K.moved (u := U) (U := U.calling g mk a) (Vm.Alike.refl U.vm) qK⟩, va_recv hKc hPc (ci := 10) (q0 := 0) rfl rfl, fun U hU hW => ⟨rfl, by rw [hU]; exact hPc, va_K.moved hW.alike hKc⟩⟩ rfl rfl hl.1 rfl (lv_room (Nat.le_of_ble_eq_true rfl)) dX10_isEdition_1 ⟨Nat.le_of_ble_eq_true rfl, Nat.le_of_ble_eq_true rfl⟩) hS (fun _ _ h => h.elim) (fun _ h => h.elim) (fun r1 u t H1 locs ht hvm hw hB hz1 hk1 hS => ?_)
  have hP := pw_keep hP (fun q hq => hk1 q hq (fun h => h))
  generalize H1 = H at hP hS ⊢
  refine W.widen (k := 0) (n := 0) (Nat.le_of_ble_eq_true rfl) (Nat.le_of_ble_eq_true rfl) ?_
  have bor1 := hw.1
  have zor1 := pw_boolI bor1
  have hfr1 := hw.2
  refine lv_if_eq (tgt := 29) hx hb dX10_isEdition_4 (by decide) (fun c2 => ?_) (fun c2 => ?_)
  · have nc2 : r1.toInt = 0 := pw_eq c2 rfl (by decide)
    refine lv_iconst (v := 0) hx hb dX10_isEdition_29 (by decide) ?_
    exact W.zret (v := 0) (ty := .boolean) hx hb hr rfl (fun t ht hW => ⟨⟨0, (), rfl, ⟨Or.inl rfl, (by have hv : (0 : Int32).toInt = 0 := (by decide); omega)⟩, trivial⟩, hS.F ht⟩) hS.2.2 dX10_isEdition_30
  · have nc2 : r1.toInt ≠ 0 := pw_ne c2 rfl (by decide)
    refine lv_iload_n hx hb dX10_isEdition_7 rfl (lv_at hl 1 rfl) ?_
    refine lv_i2l (v := i_e.toInt64) hx hb dX10_isEdition_8 rfl ?_
    refine lv_lconst (v := 0) hx hb dX10_isEdition_9 (by decide) ?_
    refine lv_aload_n hx hb dX10_isEdition_10 rfl (lv_at hl 0 rfl) ?_
    refine va_get (D := D) (ci := 10) (v := .ref m_now) (C := RX10) (T := TX10) (N := 25) hx hb hts (fun _ h => List.mem_cons_of_mem _ (List.mem_append_right _ h)) hown hK hP 0 rfl rfl 0 (by decide) (hts (.fieldLink RX10 7 "LineCitesModel" "now" "[I") (List.mem_of_getElem? (i := 6) rfl)) (fun _ h9 => h9) rfl dX10_isEdition_11 ?_
    refine lv_iconst (v := 1) hx hb dX10_isEdition_14 (by decide) ?_
    refine va_iald hx hb hK hP 1 0 rfl rfl (vp_in_iff.mpr (by decide)) dX10_isEdition_15 ?_
    refine lv_topi (fun x3 ex3 => ?_)
    have nx3 : 0 ≤ x3.toInt ∧ x3.toInt ≤ 5 := gV_1 hg_now ex3
    refine lv_iconst (v := 1) hx hb dX10_isEdition_16 (by decide) ?_
    refine lv_isub hx hb dX10_isEdition_17 ?_
    refine lv_topi (fun x4 ex4 => ?_)
    have tx4 : x4.toInt = x3.toInt - 1 := pw_subX ex4 rfl (by decide) (by omega) (by omega)
    refine lv_i2l (v := x4.toInt64) hx hb dX10_isEdition_18 rfl ?_
    have hPc := hP.sub (ws' := []) [] rfl
    have hKc := hK.sub (tys' := []) [] rfl
    refine va_calli (va_runS (As := [.long i_e.toInt64, .long 0, .long x4.toInt64]) (rest := []) ⟨hx, hb, hml, hown, hts⟩ (c_X10_in0 l D i_e.toInt64 0 x4.toInt64) (cwS 3 hts g_X10_isEdition_X10_in0 rfl rfl rfl (by decide +kernel) ⟨Nat.le_of_ble_eq_true rfl, Nat.le_of_ble_eq_true rfl⟩) ⟨fun a U g mk q => by obtain ⟨q0, qP, qK⟩ := q; exact ⟨q0, qP, va_K.moved (u := U) (U := U.calling g mk a) (Vm.Alike.refl U.vm) qK⟩, fun U hU hW => ⟨rfl, by rw [hU]; exact hPc, va_K.moved hW.alike hKc⟩⟩ rfl rfl hl.1 rfl (lv_room (Nat.le_of_ble_eq_true rfl)) dX10_isEdition_19 ⟨Nat.le_of_ble_eq_true rfl, Nat.le_of_ble_eq_true rfl⟩) hS (fun _ _ h => h.elim) (fun _ h => h.elim) (fun r5 u t H1 locs ht hvm hw hB hz1 hk1 hS => ?_)
    have hP := pw_keep hP (fun q hq => hk1 q hq (fun h => h))
    generalize H1 = H at hP hS ⊢
    refine W.widen (k := 0) (n := 0) (Nat.le_of_ble_eq_true rfl) (Nat.le_of_ble_eq_true rfl) ?_
    have bor5 := hw.1
    have zor5 := pw_boolI bor5
    have hfr5 := hw.2
    have kl0 : (0 : Int64).toInt = 0 := by decide
    try simp only [Int32.toInt_toInt64] at hfr5
    refine lv_if_eq (tgt := 29) hx hb dX10_isEdition_22 (by decide) (fun c6 => ?_) (fun c6 => ?_)
    · have nc6 : r5.toInt = 0 := pw_eq c6 rfl (by decide)
      refine lv_iconst (v := 0) hx hb dX10_isEdition_29 (by decide) ?_
      exact W.zret (v := 0) (ty := .boolean) hx hb hr rfl (fun t ht hW => ⟨⟨0, (), rfl, ⟨Or.inl rfl, (by have hv : (0 : Int32).toInt = 0 := (by decide); omega)⟩, trivial⟩, hS.F ht⟩) hS.2.2 dX10_isEdition_30
    · have nc6 : r5.toInt ≠ 0 := pw_ne c6 rfl (by decide)
      refine lv_iconst (v := 1) hx hb dX10_isEdition_25 (by decide) ?_
      refine lv_goto (tgt := 30) hx hb dX10_isEdition_26 (by decide) ?_
      exact W.zret (v := 1) (ty := .boolean) hx hb hr rfl (fun t ht hW => ⟨⟨1, (), rfl, ⟨Or.inr rfl, (by have hv : (1 : Int32).toInt = 1 := (by decide); omega)⟩, trivial⟩, hS.F ht⟩) hS.2.2 dX10_isEdition_30
def w_X10_isLine : List Cond := .code yX10_isLine cX10_isLine 2 (some .boolean) :: ([.fieldLink RX10 7 "LineCitesModel" "now" "[I", .methodLink RX10 51 yX10_in0, .static yX10_in0, .initialized RX10, .code yX10_in0 cX10_in0 6 (some .boolean)] ++ wsX100)
set_option maxRecDepth 20000 in
theorem g_X10_isLine_X10_in0 : GoodIn w_X10_isLine (wsS RX10 51 yX10_in0 w_X10_in0) := goodIn_r _ [2, 3, 4, 5] rfl (by decide +kernel)
set_option maxHeartbeats 4000000 in
set_option maxRecDepth 100000 in
theorem c_X10_isLine (l : Launch) (D : va_G) (h0 : Nat) (i_l : Int32) (m_now : Nat) (m_draft : Nat) (m_past : Nat) (j_acts : Int32) (m_images : Nat) (m_kept : Nat) (m_tape : Nat) (j_taped : Int32) (j_at : Int32) (j_start : Int32) (j_token : Int32) (j_value : Int32) (j_fault : Int32) (j_place : Int32) (j_latest : Int32) (m_low : Nat) (m_high : Nat) (m_first : Nat) (m_second : Nat) (m_lines : Nat) (m_others : Nat) (j_shiftFirst : Int32) (j_shiftMany : Int32) (j_shiftLow : Int32) (j_shiftHigh : Int32) (kI : ClassId) (g_now : Nat → Int32) (hg_now : gV g_now) : Met l yX10_isLine w_X10_isLine ({ frames := 1, cells := 0, slots := 0, locals := 25 }) (va_Pc [.ref h0, .int i_l] (fun U => va_P D vwCl [(h0, .inr (10, [.ref m_now, .ref m_draft, .ref m_past, .int j_acts, .ref m_images, .ref m_kept, .ref m_tape, .int j_taped, .int j_at, .int j_start, .int j_token, .int j_value, .int j_fault, .int j_place, .int j_latest, .ref m_low, .ref m_high, .ref m_first, .ref m_second, .ref m_lines, .ref m_others, .int j_shiftFirst, .int j_shiftMany, .int j_shiftLow, .int j_shiftHigh])), (m_now, .inl (kI, 192, .inl g_now))] U.heap ∧ va_K D vwCl [(kI, .int)] U)) (va_Qi (fun (r : Int32) (_ : Unit) => (r = 0 ∨ r = 1) ∧ (r.toInt = 0 ∨ (r.toInt = 1 ∧ 0 ≤ i_l.toInt ∧ i_l.toInt ≤ 199))) (fun _ _ => True) (fun _ => False)) 0 0 (fun _ => False) := by
  refine Met.ofW (cc := cX10_isLine) (maxL := 2) (ret := (some .boolean)) (by decide) rfl ?_
  intro p e s m args below meth c s₁ B hml hv
  obtain ⟨rfl, hP, hK⟩ := hv
  have hx := B.exec
  have hb := B.bytes
  have hr := B.returns
  have hts := atoms_spec (ws := w_X10_isLine) B.pre
  have hown : s.vm.findClass RX10 = some m.cls := findClass_of_methodNamed B.named
  have hlocks := B.notSynchronized
  have hS : va_S (fun _ : Nat => False) s.heap s.heap [] := va_S.rf
  have hP : va_P D vwCl [(h0, .inr (10, [.ref m_now, .ref m_draft, .ref m_past, .int j_acts, .ref m_images, .ref m_kept, .ref m_tape, .int j_taped, .int j_at, .int j_start, .int j_token, .int j_value, .int j_fault, .int j_place, .int j_latest, .ref m_low, .ref m_high, .ref m_first, .ref m_second, .ref m_lines, .ref m_others, .int j_shiftFirst, .int j_shiftMany, .int j_shiftLow, .int j_shiftHigh])), (m_now, .inl (kI, 192, .inl g_now))] s.heap := hP
  have hl := lv_entry ([.ref h0, .int i_l]) (n := 2) (Nat.le_of_ble_eq_true rfl)
  rw [lg_entry_eq]
  generalize (lg_sl ([.ref h0, .int i_l]) ++ List.replicate (2 - (lg_sl ([.ref h0, .int i_l])).length) Slot.unset).toArray = ls at hl ⊢
  have hl : lv_has ls 2 [(0, .ref h0), (1, .int i_l)] := hl
  obtain ⟨H, hHe⟩ : ∃ H : Heap, H = s.heap := ⟨_, rfl⟩
  rw [← hHe] at hP
  have hS : va_S (fun _ : Nat => False) s.heap H [] := by rw [hHe]; exact hS
  refine pw_heap hHe ?_
  refine lv_iload_n hx hb dX10_isLine_0 rfl (lv_at hl 1 rfl) ?_
  refine lv_i2l (v := i_l.toInt64) hx hb dX10_isLine_1 rfl ?_
  refine lv_lconst (v := 0) hx hb dX10_isLine_2 (by decide) ?_
  refine lv_aload_n hx hb dX10_isLine_3 rfl (lv_at hl 0 rfl) ?_
  refine va_get (D := D) (ci := 10) (v := .ref m_now) (C := RX10) (T := TX10) (N := 25) hx hb hts (fun _ h => List.mem_cons_of_mem _ (List.mem_append_right _ h)) hown hK hP 0 rfl rfl 0 (by decide) (hts (.fieldLink RX10 7 "LineCitesModel" "now" "[I") (List.mem_of_getElem? (i := 1) rfl)) (fun _ h9 => h9) rfl dX10_isLine_4 ?_
  refine lv_iconst (v := 0) hx hb dX10_isLine_7 (by decide) ?_
  refine va_iald hx hb hK hP 1 0 rfl rfl (vp_in_iff.mpr (by decide)) dX10_isLine_8 ?_
  refine lv_topi (fun x1 ex1 => ?_)
  have nx1 : 0 ≤ x1.toInt ∧ x1.toInt ≤ 200 := gV_0 hg_now ex1
  have zx1 := gV_00 ex1
  refine lv_iconst (v := 1) hx hb dX10_isLine_9 (by decide) ?_
  refine lv_isub hx hb dX10_isLine_10 ?_
  refine lv_topi (fun x2 ex2 => ?_)
  have tx2 : x2.toInt = x1.toInt - 1 := pw_subX ex2 rfl (by decide) (by omega) (by omega)
  refine lv_i2l (v := x2.toInt64) hx hb dX10_isLine_11 rfl ?_
  have hPc := hP.sub (ws' := []) [] rfl
  have hKc := hK.sub (tys' := []) [] rfl
  refine va_calli (va_runS (As := [.long i_l.toInt64, .long 0, .long x2.toInt64]) (rest := []) ⟨hx, hb, hml, hown, hts⟩ (c_X10_in0 l D i_l.toInt64 0 x2.toInt64) (cwS 3 hts g_X10_isLine_X10_in0 rfl rfl rfl (by decide +kernel) ⟨Nat.le_of_ble_eq_true rfl, Nat.le_of_ble_eq_true rfl⟩) ⟨fun a U g mk q => by obtain ⟨q0, qP, qK⟩ := q; exact ⟨q0, qP, va_K.moved (u := U) (U := U.calling g mk a) (Vm.Alike.refl U.vm) qK⟩, fun U hU hW => ⟨rfl, by rw [hU]; exact hPc, va_K.moved hW.alike hKc⟩⟩ rfl rfl hl.1 rfl (lv_room (Nat.le_of_ble_eq_true rfl)) dX10_isLine_12 ⟨Nat.le_of_ble_eq_true rfl, Nat.le_of_ble_eq_true rfl⟩) hS (fun _ _ h => h.elim) (fun _ h => h.elim) (fun r3 u t H1 locs ht hvm hw hB hz1 hk1 hS => ?_)
  have hP := pw_keep hP (fun q hq => hk1 q hq (fun h => h))
  generalize H1 = H at hP hS ⊢
  refine W.widen (k := 0) (n := 0) (Nat.le_of_ble_eq_true rfl) (Nat.le_of_ble_eq_true rfl) ?_
  have bor3 := hw.1
  have zor3 := pw_boolI bor3
  have hfr3 := hw.2
  have kl0 : (0 : Int64).toInt = 0 := by decide
  try simp only [Int32.toInt_toInt64] at hfr3
  exact W.zret (v := r3) (ty := .boolean) hx hb hr (pw_bool bor3) (fun t ht hW => ⟨⟨r3, (), rfl, ⟨bor3, (by omega)⟩, trivial⟩, hS.F ht⟩) hS.2.2 dX10_isLine_15
def w_X10_isStretch : List Cond := .code yX10_isStretch cX10_isStretch 3 (some .boolean) :: ([.methodLink RX10 55 yX10_isEdition, .instanceMethod yX10_isEdition, .selects RX10 yX10_isEdition yX10_isEdition, .initialized RX10, .code yX10_isEdition cX10_isEdition 2 (some .boolean), .methodLink RX10 47 yX10_isWork, .instanceMethod yX10_isWork, .selects RX10 yX10_isWork yX10_isWork, .code yX10_isWork cX10_isWork 1 (some .boolean), .fieldLink RX10 7 "LineCitesModel" "now" "[I", .methodLink RX10 51 yX10_in0, .static yX10_in0, .code yX10_in0 cX10_in0 6 (some .boolean)] ++ wsX100)
set_option maxRecDepth 20000 in
theorem g_X10_isStretch_X10_isEdition : GoodIn w_X10_isStretch (wsV RX10 55 RX10 yX10_isEdition w_X10_isEdition) := goodIn_r _ [1, 2, 3, 4, 5, 6, 7, 8, 4, 9, 10, 11, 12, 13, 14, 15, 16, 17, 18, 19, 20, 21, 22, 23, 24, 25, 26, 27, 28, 29, 30, 31, 32, 33, 34, 35, 36, 37, 38] rfl (by decide +kernel)
set_option maxRecDepth 20000 in
theorem g_X10_isStretch_X10_in0 : GoodIn w_X10_isStretch (wsS RX10 51 yX10_in0 w_X10_in0) := goodIn_r _ [11, 12, 4, 13] rfl (by decide +kernel)
set_option maxHeartbeats 4000000 in
set_option maxRecDepth 100000 in
theorem c_X10_isStretch (l : Launch) (D : va_G) (h0 : Nat) (i_e : Int32) (i_s : Int32) (m_now : Nat) (m_draft : Nat) (m_past : Nat) (j_acts : Int32) (m_images : Nat) (m_kept : Nat) (m_tape : Nat) (j_taped : Int32) (j_at : Int32) (j_start : Int32) (j_token : Int32) (j_value : Int32) (j_fault : Int32) (j_place : Int32) (j_latest : Int32) (m_low : Nat) (m_high : Nat) (m_first : Nat) (m_second : Nat) (m_lines : Nat) (m_others : Nat) (j_shiftFirst : Int32) (j_shiftMany : Int32) (j_shiftLow : Int32) (j_shiftHigh : Int32) (kI : ClassId) (g_now : Nat → Int32) (hg_now : gV g_now) : Met l yX10_isStretch w_X10_isStretch ({ frames := 2, cells := 0, slots := 0, locals := 46 }) (va_Pc [.ref h0, .int i_e, .int i_s] (fun U => va_P D vwCl [(h0, .inr (10, [.ref m_now, .ref m_draft, .ref m_past, .int j_acts, .ref m_images, .ref m_kept, .ref m_tape, .int j_taped, .int j_at, .int j_start, .int j_token, .int j_value, .int j_fault, .int j_place, .int j_latest, .ref m_low, .ref m_high, .ref m_first, .ref m_second, .ref m_lines, .ref m_others, .int j_shiftFirst, .int j_shiftMany, .int j_shiftLow, .int j_shiftHigh])), (m_now, .inl (kI, 192, .inl g_now))] U.heap ∧ va_K D vwCl [(kI, .int)] U)) (va_Qi (fun (r : Int32) (_ : Unit) => (r = 0 ∨ r = 1) ∧ (r.toInt = 0 ∨ (r.toInt = 1 ∧ 0 ≤ i_e.toInt ∧ i_e.toInt ≤ 4 ∧ 0 ≤ i_s.toInt ∧ i_s.toInt ≤ 5 ∧ i_s.toInt < (g_now (3 + i_e.toInt.toNat)).toInt))) (fun _ _ => True) (fun _ => False)) 0 0 (fun _ => False) := by
  refine Met.ofW (cc := cX10_isStretch) (maxL := 3) (ret := (some .boolean)) (by decide) rfl ?_
  intro p e s m args below meth c s₁ B hml hv
  obtain ⟨rfl, hP, hK⟩ := hv
  have hx := B.exec
  have hb := B.bytes
  have hr := B.returns
  have hts := atoms_spec (ws := w_X10_isStretch) B.pre
  have hown : s.vm.findClass RX10 = some m.cls := findClass_of_methodNamed B.named
  have hlocks := B.notSynchronized
  have hS : va_S (fun _ : Nat => False) s.heap s.heap [] := va_S.rf
  have hP : va_P D vwCl [(h0, .inr (10, [.ref m_now, .ref m_draft, .ref m_past, .int j_acts, .ref m_images, .ref m_kept, .ref m_tape, .int j_taped, .int j_at, .int j_start, .int j_token, .int j_value, .int j_fault, .int j_place, .int j_latest, .ref m_low, .ref m_high, .ref m_first, .ref m_second, .ref m_lines, .ref m_others, .int j_shiftFirst, .int j_shiftMany, .int j_shiftLow, .int j_shiftHigh])), (m_now, .inl (kI, 192, .inl g_now))] s.heap := hP
  have hl := lv_entry ([.ref h0, .int i_e, .int i_s]) (n := 3) (Nat.le_of_ble_eq_true rfl)
  rw [lg_entry_eq]
  generalize (lg_sl ([.ref h0, .int i_e, .int i_s]) ++ List.replicate (3 - (lg_sl ([.ref h0, .int i_e, .int i_s])).length) Slot.unset).toArray = ls at hl ⊢
  have hl : lv_has ls 3 [(0, .ref h0), (1, .int i_e), (2, .int i_s)] := hl
  obtain ⟨H, hHe⟩ : ∃ H : Heap, H = s.heap := ⟨_, rfl⟩
  rw [← hHe] at hP
  have hS : va_S (fun _ : Nat => False) s.heap H [] := by rw [hHe]; exact hS
  refine pw_heap hHe ?_
  refine lv_aload_n hx hb dX10_isStretch_0 rfl (lv_at hl 0 rfl) ?_
  refine lv_iload_n hx hb dX10_isStretch_1 rfl (lv_at hl 1 rfl) ?_
  have hPc := hP.sub (ws' := [(h0, .inr (10, [.ref m_now, .ref m_draft, .ref m_past, .int j_acts, .ref m_images, .ref m_kept, .ref m_tape, .int j_taped, .int j_at, .int j_start, .int j_token, .int j_value, .int j_fault, .int j_place, .int j_latest, .ref m_low, .ref m_high, .ref m_first, .ref m_second, .ref m_lines, .ref m_others, .int j_shiftFirst, .int j_shiftMany, .int j_shiftLow, .int j_shiftHigh])), (m_now, .inl (kI, 192, .inl g_now))]) [0, 1] rfl
  have hKc := hK.sub (tys' := [(kI, .int)]) [0] rfl
  refine va_calli (va_runV (As := [.int i_e]) (rest := []) ⟨hx, hb, hml, hown, hts⟩ (c_X10_isEdition l D h0 i_e m_now m_draft m_past j_acts m_images m_kept m_tape j_taped j_at j_start j_token j_value j_fault j_place j_latest m_low m_high m_first m_second m_lines m_others j_shiftFirst j_shiftMany j_shiftLow j_shiftHigh kI g_now hg_now) (cwV 1 hts g_X10_isStretch_X10_isEdition rfl rfl rfl (by decide +kernel) ⟨Nat.le_of_ble_eq_true rfl, Nat.le_of_ble_eq_true rfl⟩) ⟨fun a U g mk q => by obtain ⟨q0, qP, qK⟩ := q; exact ⟨q0, qP, va_K.moved (u := U) (U := U.calling g mk a) (Vm.Alike.refl U.vm) qK⟩, va_recv hKc hPc (ci := 10) (q0 := 0) rfl rfl, fun U hU hW => ⟨rfl, by rw [hU]; exact hPc, va_K.moved hW.alike hKc⟩⟩ rfl rfl hl.1 rfl (lv_room (Nat.le_of_ble_eq_true rfl)) dX10_isStretch_2 ⟨Nat.le_of_ble_eq_true rfl, Nat.le_of_ble_eq_true rfl⟩) hS (fun _ _ h => h.elim) (fun _ h => h.elim) (fun r1 u t H1 locs ht hvm hw hB hz1 hk1 hS => ?_)
  have hP := pw_keep hP (fun q hq => hk1 q hq (fun h => h))
  generalize H1 = H at hP hS ⊢
  refine W.widen (k := 0) (n := 0) (Nat.le_of_ble_eq_true rfl) (Nat.le_of_ble_eq_true rfl) ?_
  have bor1 := hw.1
  have zor1 := pw_boolI bor1
  have hfr1 := hw.2
  refine lv_if_eq (tgt := 32) hx hb dX10_isStretch_5 (by decide) (fun c2 => ?_) (fun c2 => ?_)
  · have nc2 : r1.toInt = 0 := pw_eq c2 rfl (by decide)
    refine lv_iconst (v := 0) hx hb dX10_isStretch_32 (by decide) ?_
    exact W.zret (v := 0) (ty := .boolean) hx hb hr rfl (fun t ht hW => ⟨⟨0, (), rfl, ⟨Or.inl rfl, (by have hv : (0 : Int32).toInt = 0 := (by decide); omega)⟩, trivial⟩, hS.F ht⟩) hS.2.2 dX10_isStretch_33
  · have nc2 : r1.toInt ≠ 0 := pw_ne c2 rfl (by decide)
    refine lv_iload_n hx hb dX10_isStretch_8 rfl (lv_at hl 2 rfl) ?_
    refine lv_i2l (v := i_s.toInt64) hx hb dX10_isStretch_9 rfl ?_
    refine lv_lconst (v := 0) hx hb dX10_isStretch_10 (by decide) ?_
    refine lv_aload_n hx hb dX10_isStretch_11 rfl (lv_at hl 0 rfl) ?_
    refine va_get (D := D) (ci := 10) (v := .ref m_now) (C := RX10) (T := TX10) (N := 25) hx hb hts (fun _ h => List.mem_cons_of_mem _ (List.mem_append_right _ h)) hown hK hP 0 rfl rfl 0 (by decide) (hts (.fieldLink RX10 7 "LineCitesModel" "now" "[I") (List.mem_of_getElem? (i := 10) rfl)) (fun _ h9 => h9) rfl dX10_isStretch_12 ?_
    refine lv_iconst (v := 3) hx hb dX10_isStretch_15 (by decide) ?_
    refine lv_iload_n hx hb dX10_isStretch_16 rfl (lv_at hl 1 rfl) ?_
    refine lv_iadd hx hb dX10_isStretch_17 ?_
    refine lv_topi (fun x3 ex3 => ?_)
    have tx3 : x3.toInt = 3 + i_e.toInt := pw_addX ex3 (by decide) rfl (by omega) (by omega)
    refine va_iald hx hb hK hP 1 0 rfl rfl (vp_in_iff.mpr ⟨by omega, by omega⟩) dX10_isStretch_18 ?_
    refine lv_topi (fun x4 ex4 => ?_)
    have nx4 : 0 ≤ x4.toInt ∧ x4.toInt ≤ 6 := gV_m hg_now ex4 (by omega) (by omega)
    have zx4 := pC_at (a := 3 + i_e.toInt.toNat) ex4 (by omega)
    refine lv_iconst (v := 1) hx hb dX10_isStretch_19 (by decide) ?_
    refine lv_isub hx hb dX10_isStretch_20 ?_
    refine lv_topi (fun x5 ex5 => ?_)
    have tx5 : x5.toInt = x4.toInt - 1 := pw_subX ex5 rfl (by decide) (by omega) (by omega)
    refine lv_i2l (v := x5.toInt64) hx hb dX10_isStretch_21 rfl ?_
    have hPc := hP.sub (ws' := []) [] rfl
    have hKc := hK.sub (tys' := []) [] rfl
    refine va_calli (va_runS (As := [.long i_s.toInt64, .long 0, .long x5.toInt64]) (rest := []) ⟨hx, hb, hml, hown, hts⟩ (c_X10_in0 l D i_s.toInt64 0 x5.toInt64) (cwS 3 hts g_X10_isStretch_X10_in0 rfl rfl rfl (by decide +kernel) ⟨Nat.le_of_ble_eq_true rfl, Nat.le_of_ble_eq_true rfl⟩) ⟨fun a U g mk q => by obtain ⟨q0, qP, qK⟩ := q; exact ⟨q0, qP, va_K.moved (u := U) (U := U.calling g mk a) (Vm.Alike.refl U.vm) qK⟩, fun U hU hW => ⟨rfl, by rw [hU]; exact hPc, va_K.moved hW.alike hKc⟩⟩ rfl rfl hl.1 rfl (lv_room (Nat.le_of_ble_eq_true rfl)) dX10_isStretch_22 ⟨Nat.le_of_ble_eq_true rfl, Nat.le_of_ble_eq_true rfl⟩) hS (fun _ _ h => h.elim) (fun _ h => h.elim) (fun r6 u t H1 locs ht hvm hw hB hz1 hk1 hS => ?_)
    have hP := pw_keep hP (fun q hq => hk1 q hq (fun h => h))
    generalize H1 = H at hP hS ⊢
    refine W.widen (k := 0) (n := 0) (Nat.le_of_ble_eq_true rfl) (Nat.le_of_ble_eq_true rfl) ?_
    have bor6 := hw.1
    have zor6 := pw_boolI bor6
    have hfr6 := hw.2
    have kl0 : (0 : Int64).toInt = 0 := by decide
    try simp only [Int32.toInt_toInt64] at hfr6
    refine lv_if_eq (tgt := 32) hx hb dX10_isStretch_25 (by decide) (fun c7 => ?_) (fun c7 => ?_)
    · have nc7 : r6.toInt = 0 := pw_eq c7 rfl (by decide)
      refine lv_iconst (v := 0) hx hb dX10_isStretch_32 (by decide) ?_
      exact W.zret (v := 0) (ty := .boolean) hx hb hr rfl (fun t ht hW => ⟨⟨0, (), rfl, ⟨Or.inl rfl, (by have hv : (0 : Int32).toInt = 0 := (by decide); omega)⟩, trivial⟩, hS.F ht⟩) hS.2.2 dX10_isStretch_33
    · have nc7 : r6.toInt ≠ 0 := pw_ne c7 rfl (by decide)
      refine lv_iconst (v := 1) hx hb dX10_isStretch_28 (by decide) ?_
      refine lv_goto (tgt := 33) hx hb dX10_isStretch_29 (by decide) ?_
      exact W.zret (v := 1) (ty := .boolean) hx hb hr rfl (fun t ht hW => ⟨⟨1, (), rfl, ⟨Or.inr rfl, (by have hv : (1 : Int32).toInt = 1 := (by decide); omega)⟩, trivial⟩, hS.F ht⟩) hS.2.2 dX10_isStretch_33
def w_X10_of : List Cond := .code yX10_of cX10_of 4 (some .int) :: ([])
set_option maxHeartbeats 4000000 in
set_option maxRecDepth 100000 in
theorem c_X10_of (l : Launch) (D : va_G) (b : Nat) (i_e : Int32) (i_s : Int32) (i_w : Int32) (kI : ClassId) (g_b : Nat → Int32) (ke : Nat) (ks : Nat) (kw : Nat) (h0i_e : 0 ≤ i_e.toInt) (h1i_e : i_e.toInt ≤ 4) (h0i_s : 0 ≤ i_s.toInt) (h1i_s : i_s.toInt ≤ 5) (h0i_w : 0 ≤ i_w.toInt) (h1i_w : i_w.toInt ≤ 3) (hnke : i_e.toInt = ((ke : Nat) : Int)) (hnks : i_s.toInt = ((ks : Nat) : Int)) (hnkw : i_w.toInt = ((kw : Nat) : Int)) : Met l yX10_of w_X10_of ({ frames := 0, cells := 0, slots := 0, locals := 0 }) (va_Pc [.ref b, .int i_e, .int i_s, .int i_w] (fun U => va_P D vwCl [(b, .inl (kI, 192, .inl g_b))] U.heap ∧ va_K D vwCl [(kI, .int)] U)) (va_Qi (fun (r : Int32) (_ : Unit) => r.toInt = (g_b (8 + 24 * ke + 4 * ks + kw)).toInt) (fun _ _ => True) (fun _ => False)) 0 0 (fun _ => False) := by
  refine Met.ofW (cc := cX10_of) (maxL := 4) (ret := (some .int)) (by decide) rfl ?_
  intro p e s m args below meth c s₁ B hml hv
  obtain ⟨rfl, hP, hK⟩ := hv
  have hx := B.exec
  have hb := B.bytes
  have hr := B.returns
  have hts := atoms_spec (ws := w_X10_of) B.pre
  have hown : s.vm.findClass RX10 = some m.cls := findClass_of_methodNamed B.named
  have hlocks := B.notSynchronized
  have hS : va_S (fun _ : Nat => False) s.heap s.heap [] := va_S.rf
  have hP : va_P D vwCl [(b, .inl (kI, 192, .inl g_b))] s.heap := hP
  have hl := lv_entry ([.ref b, .int i_e, .int i_s, .int i_w]) (n := 4) (Nat.le_of_ble_eq_true rfl)
  rw [lg_entry_eq]
  generalize (lg_sl ([.ref b, .int i_e, .int i_s, .int i_w]) ++ List.replicate (4 - (lg_sl ([.ref b, .int i_e, .int i_s, .int i_w])).length) Slot.unset).toArray = ls at hl ⊢
  have hl : lv_has ls 4 [(0, .ref b), (1, .int i_e), (2, .int i_s), (3, .int i_w)] := hl
  obtain ⟨H, hHe⟩ : ∃ H : Heap, H = s.heap := ⟨_, rfl⟩
  rw [← hHe] at hP
  have hS : va_S (fun _ : Nat => False) s.heap H [] := by rw [hHe]; exact hS
  refine pw_heap hHe ?_
  refine lv_aload_n hx hb dX10_of_0 rfl (lv_at hl 0 rfl) ?_
  refine lv_bipush (v := 8) hx hb dX10_of_1 (by decide) ?_
  refine lv_bipush (v := 24) hx hb dX10_of_3 (by decide) ?_
  refine lv_iload_n hx hb dX10_of_5 rfl (lv_at hl 1 rfl) ?_
  refine lv_imul hx hb dX10_of_6 ?_
  refine lv_topi (fun x1 ex1 => ?_)
  have tx1 : x1.toInt = 24 * i_e.toInt := pw_mulX ex1 (by decide) rfl (by omega) (by omega)
  refine lv_iadd hx hb dX10_of_7 ?_
  refine lv_topi (fun x2 ex2 => ?_)
  have tx2 : x2.toInt = 8 + x1.toInt := pw_addX ex2 (by decide) rfl (by omega) (by omega)
  refine lv_iconst (v := 4) hx hb dX10_of_8 (by decide) ?_
  refine lv_iload_n hx hb dX10_of_9 rfl (lv_at hl 2 rfl) ?_
  refine lv_imul hx hb dX10_of_10 ?_
  refine lv_topi (fun x3 ex3 => ?_)
  have tx3 : x3.toInt = 4 * i_s.toInt := pw_mulX ex3 (by decide) rfl (by omega) (by omega)
  refine lv_iadd hx hb dX10_of_11 ?_
  refine lv_topi (fun x4 ex4 => ?_)
  have tx4 : x4.toInt = x2.toInt + x3.toInt := pw_addX ex4 rfl rfl (by omega) (by omega)
  refine lv_iload_n hx hb dX10_of_12 rfl (lv_at hl 3 rfl) ?_
  refine lv_iadd hx hb dX10_of_13 ?_
  refine lv_topi (fun x5 ex5 => ?_)
  have tx5 : x5.toInt = x4.toInt + i_w.toInt := pw_addX ex5 rfl rfl (by omega) (by omega)
  refine va_iald hx hb hK hP 0 0 rfl rfl (vp_in_iff.mpr ⟨by omega, by omega⟩) dX10_of_14 ?_
  refine lv_topi (fun x6 ex6 => ?_)
  exact W.iret (v := x6) hx hb hr (fun t ht hW => ⟨⟨x6, (), rfl, (pC_at ex6 (by omega)), trivial⟩, hS.F ht⟩) hS.2.2 dX10_of_15
def w_X10_stretchOf : List Cond := .code yX10_stretchOf cX10_stretchOf 7 (some .int) :: ([.constant RX10 61 (-1000000), .methodLink RX10 62 yX10_of, .static yX10_of, .initialized RX10, .code yX10_of cX10_of 4 (some .int), .methodLink RX10 51 yX10_in0, .static yX10_in0, .code yX10_in0 cX10_in0 6 (some .boolean)])
set_option maxRecDepth 20000 in
theorem g_X10_stretchOf_X10_of : GoodIn w_X10_stretchOf (wsS RX10 62 yX10_of w_X10_of) := goodIn_r _ [2, 3, 4, 5] rfl (by decide +kernel)
set_option maxRecDepth 20000 in
theorem g_X10_stretchOf_X10_in0 : GoodIn w_X10_stretchOf (wsS RX10 51 yX10_in0 w_X10_in0) := goodIn_r _ [6, 7, 4, 8] rfl (by decide +kernel)
set_option maxHeartbeats 4000000 in
set_option maxRecDepth 100000 in
theorem c_X10_stretchOf (l : Launch) (D : va_G) (b : Nat) (i_e : Int32) (i_l : Int32) (i_but : Int32) (kI : ClassId) (g_b : Nat → Int32) (ke : Nat) (hnke : i_e.toInt = ((ke : Nat) : Int)) (h0i_e : 0 ≤ i_e.toInt) (h1i_e : i_e.toInt ≤ 4) (hg_b : gV g_b) : Met l yX10_stretchOf w_X10_stretchOf ({ frames := 1, cells := 0, slots := 0, locals := 25 }) (va_Pc [.ref b, .int i_e, .int i_l, .int i_but] (fun U => va_P D vwCl [(b, .inl (kI, 192, .inl g_b))] U.heap ∧ va_K D vwCl [(kI, .int)] U)) (va_Qi (fun (r : Int32) (_ : Unit) => soR g_b ke i_l.toInt i_but.toInt r.toInt) (fun _ _ => True) (fun _ => False)) 0 0 (fun _ => False) := by
  refine Met.ofW (cc := cX10_stretchOf) (maxL := 7) (ret := (some .int)) (by decide) rfl ?_
  intro p e s m args below meth c s₁ B hml hv
  obtain ⟨rfl, hP, hK⟩ := hv
  have hx := B.exec
  have hb := B.bytes
  have hr := B.returns
  have hts := atoms_spec (ws := w_X10_stretchOf) B.pre
  have hown : s.vm.findClass RX10 = some m.cls := findClass_of_methodNamed B.named
  have hlocks := B.notSynchronized
  have hS : va_S (fun _ : Nat => False) s.heap s.heap [] := va_S.rf
  have hP : va_P D vwCl [(b, .inl (kI, 192, .inl g_b))] s.heap := hP
  have hl := lv_entry ([.ref b, .int i_e, .int i_l, .int i_but]) (n := 7) (Nat.le_of_ble_eq_true rfl)
  rw [lg_entry_eq]
  generalize (lg_sl ([.ref b, .int i_e, .int i_l, .int i_but]) ++ List.replicate (7 - (lg_sl ([.ref b, .int i_e, .int i_l, .int i_but])).length) Slot.unset).toArray = ls at hl ⊢
  have hl : lv_has ls 7 [(0, .ref b), (1, .int i_e), (2, .int i_l), (3, .int i_but)] := hl
  obtain ⟨H, hHe⟩ : ∃ H : Heap, H = s.heap := ⟨_, rfl⟩
  rw [← hHe] at hP
  have hS : va_S (fun _ : Nat => False) s.heap H [] := by rw [hHe]; exact hS
  refine pw_heap hHe ?_
  refine lv_ldc hx hb hown (hts (.constant RX10 61 (-1000000)) (List.mem_of_getElem? (i := 1) rfl)) dX10_stretchOf_0 ?_
  refine lv_istore (lv' := [(4, .int (-1000000)), (0, .ref b), (1, .int i_e), (2, .int i_l), (3, .int i_but)]) hx hb dX10_stretchOf_2 hl (by decide) rfl (fun ls hl => ?_)
  refine lv_iconst (v := 0) hx hb dX10_stretchOf_4 (by decide) ?_
  refine lv_istore (lv' := [(5, .int 0), (4, .int (-1000000)), (0, .ref b), (1, .int i_e), (2, .int i_l), (3, .int i_but)]) hx hb dX10_stretchOf_5 hl (by decide) rfl (fun ls hl => ?_)
  have hl9 : lv_has ls 7 [(0, .ref b), (1, .int i_e), (2, .int i_l), (3, .int i_but), (4, .int (-1000000)), (5, .int 0)] := lv_sub hl [2, 3, 4, 5, 1, 0] rfl
  refine pw_loop (fun (zz : Int32 × Int32) H locs ls => match zz with | (v26, v27) => va_P D vwCl [(b, .inl (kI, 192, .inl g_b))] H ∧ va_S (fun _ : Nat => False) s.heap H locs ∧ lv_has ls 7 [(0, .ref b), (1, .int i_e), (2, .int i_l), (3, .int i_but), (4, .int v26), (5, .int v27)] ∧ (0 ≤ v27.toInt ∧ v27.toInt ≤ 6) ∧ soI g_b ke i_l.toInt i_but.toInt v27.toInt v26.toInt ∧ v27.toInt ≤ (g_b (3 + ke)).toInt) (fun (zz : Int32 × Int32)  => match zz with | (v26, v27) => (2147483648 - v27.toInt).toNat) 0 0 (fun (zz : Int32 × Int32) ls => match zz with | (v26, v27) => F0 m 7 ls []) (fun zz H locs ls ih28 hI => ?_) ((-1000000), 0) _ _ _ ⟨hP, hS, hl9, (by decide), (soI_0 (by decide) (by decide)), (by have := (hg_b.hm ke (by omega)).1; have hz : (0 : Int32).toInt = 0 := (by decide); omega)⟩
  obtain ⟨v26, v27⟩ := zz
  obtain ⟨hP, hS, hl, bv27, hso, hcn⟩ := hI
  have bv27 : (0 ≤ v27.toInt ∧ v27.toInt ≤ 6) := bv27
  have hso : soI g_b ke i_l.toInt i_but.toInt v27.toInt v26.toInt := hso
  have hcn : v27.toInt ≤ (g_b (3 + ke)).toInt := hcn
  have hP : va_P D vwCl [(b, .inl (kI, 192, .inl g_b))] H := hP
  have hK : va_K D vwCl [(kI, .int)] s := hK
  have hl : lv_has ls 7 [(0, .ref b), (1, .int i_e), (2, .int i_l), (3, .int i_but), (4, .int v26), (5, .int v27)] := hl
  refine W.eq (g2 := F0 m 7 ls []) rfl ?_
  refine lv_iload hx hb dX10_stretchOf_7 (lv_at hl 5 rfl) ?_
  refine lv_aload_n hx hb dX10_stretchOf_9 rfl (lv_at hl 0 rfl) ?_
  refine lv_iconst (v := 3) hx hb dX10_stretchOf_10 (by decide) ?_
  refine lv_iload_n hx hb dX10_stretchOf_11 rfl (lv_at hl 1 rfl) ?_
  refine lv_iadd hx hb dX10_stretchOf_12 ?_
  refine lv_topi (fun x29 ex29 => ?_)
  have tx29 : x29.toInt = 3 + i_e.toInt := pw_addX ex29 (by decide) rfl (by omega) (by omega)
  refine va_iald hx hb hK hP 0 0 rfl rfl (vp_in_iff.mpr ⟨by omega, by omega⟩) dX10_stretchOf_13 ?_
  refine lv_topi (fun x30 ex30 => ?_)
  have nx30 : 0 ≤ x30.toInt ∧ x30.toInt ≤ 6 := gV_m hg_b ex30 (by omega) (by omega)
  have zx30 := pC_at (a := 3 + ke) ex30 (by omega)
  refine lv_icmp_ge (tgt := 73) hx hb dX10_stretchOf_14 (by decide) (fun c31 => ?_) (fun c31 => ?_)
  · have nc31 : x30.toInt ≤ v27.toInt := pw_le c31 rfl rfl
    have mc31v27 := pw_max v27
    have mc31x30 := pw_max x30
    refine lv_iload hx hb dX10_stretchOf_73 (lv_at hl 4 rfl) ?_
    exact W.iret (v := v26) hx hb hr (fun t ht hW => ⟨⟨v26, (), rfl, (by have h9 := hso; rw [show v27.toInt = (g_b (3 + ke)).toInt by omega] at h9; exact h9), trivial⟩, hS.F ht⟩) hS.2.2 dX10_stretchOf_75
  · have nc31 : v27.toInt < x30.toInt := pw_nle c31 rfl rfl
    have mc31v27 := pw_max v27
    have mc31x30 := pw_max x30
    refine lv_aload_n hx hb dX10_stretchOf_17 rfl (lv_at hl 0 rfl) ?_
    refine lv_iload_n hx hb dX10_stretchOf_18 rfl (lv_at hl 1 rfl) ?_
    refine lv_iload hx hb dX10_stretchOf_19 (lv_at hl 5 rfl) ?_
    refine lv_iconst (v := 1) hx hb dX10_stretchOf_21 (by decide) ?_
    have kk1 : (1 : Int32).toInt = 1 := by decide
    have hPc := hP.sub (ws' := [(b, .inl (kI, 192, .inl g_b))]) [0] rfl
    have hKc := hK.sub (tys' := [(kI, .int)]) [0] rfl
    refine va_calli (va_runS (As := [.ref b, .int i_e, .int v27, .int 1]) (rest := []) ⟨hx, hb, hml, hown, hts⟩ (c_X10_of l D b i_e v27 1 kI g_b ke v27.toInt.toNat 1 (by first | decide | omega) (by first | decide | omega) (by first | decide | omega) (by first | decide | omega) (by first | decide | omega) (by first | decide | omega) (by first | omega | decide | (have hz0 : (0 : Int32).toInt = 0 := (by decide); omega)) (by first | omega | decide | (have hz0 : (0 : Int32).toInt = 0 := (by decide); omega)) (by first | omega | decide | (have hz0 : (0 : Int32).toInt = 0 := (by decide); omega))) (cwS 4 hts g_X10_stretchOf_X10_of rfl rfl rfl (by decide +kernel) ⟨Nat.le_of_ble_eq_true rfl, Nat.le_of_ble_eq_true rfl⟩) ⟨fun a U g mk q => by obtain ⟨q0, qP, qK⟩ := q; exact ⟨q0, qP, va_K.moved (u := U) (U := U.calling g mk a) (Vm.Alike.refl U.vm) qK⟩, fun U hU hW => ⟨rfl, by rw [hU]; exact hPc, va_K.moved hW.alike hKc⟩⟩ rfl rfl hl.1 rfl (lv_room (Nat.le_of_ble_eq_true rfl)) dX10_stretchOf_22 ⟨Nat.le_of_ble_eq_true rfl, Nat.le_of_ble_eq_true rfl⟩) hS (fun _ _ h => h.elim) (fun _ h => h.elim) (fun r32 u t H1 locs ht hvm hw hB hz1 hk1 hS => ?_)
    have hP := pw_keep hP (fun q hq => hk1 q hq (fun h => h))
    generalize H1 = H at hP hS ⊢
    refine W.widen (k := 0) (n := 0) (Nat.le_of_ble_eq_true rfl) (Nat.le_of_ble_eq_true rfl) ?_
    have hfr32 := hw
    have hvs := (hg_b.hs ke v27.toInt.toNat (by omega) (by omega))
    unfold gS vS at hvs
    refine lv_istore (lv' := [(6, .int r32), (0, .ref b), (1, .int i_e), (2, .int i_l), (3, .int i_but), (4, .int v26), (5, .int v27)]) hx hb dX10_stretchOf_25 hl (by decide) rfl (fun ls hl => ?_)
    refine lv_iload hx hb dX10_stretchOf_27 (lv_at hl 6 rfl) ?_
    refine lv_iload_n hx hb dX10_stretchOf_29 rfl (lv_at hl 4 rfl) ?_
    refine lv_icmp_eq (tgt := 63) hx hb dX10_stretchOf_30 (by decide) (fun c33 => ?_) (fun c33 => ?_)
    · have nc33 : v27.toInt = i_but.toInt := pw_eq c33 rfl rfl
      have mc33v27 := pw_max v27
      have mc33i_but := pw_max i_but
      refine lv_iload hx hb dX10_stretchOf_63 (lv_at hl 5 rfl) ?_
      refine lv_istore (lv' := [(4, .int v26), (6, .int r32), (0, .ref b), (1, .int i_e), (2, .int i_l), (3, .int i_but), (5, .int v27)]) hx hb dX10_stretchOf_65 hl (by decide) rfl (fun ls hl => ?_)
      obtain ⟨x34, ex34⟩ : ∃ y : Int32, y = v27 + 1 := ⟨_, rfl⟩
      have tx34 : x34.toInt = v27.toInt + 1 := pw_addX ex34 rfl (by decide) (by omega) (by omega)
      refine lv_iinc (v := x34) (lv' := [(5, .int x34), (4, .int v26), (6, .int r32), (0, .ref b), (1, .int i_e), (2, .int i_l), (3, .int i_but)]) hx hb dX10_stretchOf_67 hl (k := 6) rfl (by rw [ex34]; rfl) (by decide) rfl (fun ls hl => ?_)
      refine lv_goto (tgt := 7) hx hb dX10_stretchOf_70 (by decide) ?_
      have hP9 : va_P D vwCl [(b, .inl (kI, 192, .inl g_b))] H := hP.sub [0] rfl
      have hl9 : lv_has ls 7 [(0, .ref b), (1, .int i_e), (2, .int i_l), (3, .int i_but), (4, .int v26), (5, .int x34)] := lv_sub hl [3, 4, 5, 6, 1, 0] rfl
      refine W.widen (k := 0) (n := 0) (Nat.le_of_ble_eq_true rfl) (Nat.le_of_ble_eq_true rfl) ?_
      exact ih28 (v26, x34) _ _ _ (pw_up ex34 (by omega)) ⟨hP9, hS, hl9, (by omega), (soI_n hso (by omega) (Or.inl (by omega)) (pw_add1 ex34 (by omega))), (by have := pw_add1 ex34 (by omega); omega)⟩
    · have nc33 : v27.toInt ≠ i_but.toInt := pw_ne c33 rfl rfl
      have mc33v27 := pw_max v27
      have mc33i_but := pw_max i_but
      refine lv_iload_n hx hb dX10_stretchOf_33 rfl (lv_at hl 3 rfl) ?_
      refine lv_i2l (v := i_l.toInt64) hx hb dX10_stretchOf_34 rfl ?_
      refine lv_iload hx hb dX10_stretchOf_35 (lv_at hl 0 rfl) ?_
      refine lv_i2l (v := r32.toInt64) hx hb dX10_stretchOf_37 rfl ?_
      refine lv_iload hx hb dX10_stretchOf_38 (lv_at hl 0 rfl) ?_
      refine lv_aload_n hx hb dX10_stretchOf_40 rfl (lv_at hl 1 rfl) ?_
      refine lv_iload_n hx hb dX10_stretchOf_41 rfl (lv_at hl 2 rfl) ?_
      refine lv_iload hx hb dX10_stretchOf_42 (lv_at hl 6 rfl) ?_
      refine lv_iconst (v := 2) hx hb dX10_stretchOf_44 (by decide) ?_
      have kk2 : (2 : Int32).toInt = 2 := by decide
      have hPc := hP.sub (ws' := [(b, .inl (kI, 192, .inl g_b))]) [0] rfl
      have hKc := hK.sub (tys' := [(kI, .int)]) [0] rfl
      refine va_calli (va_runS (As := [.ref b, .int i_e, .int v27, .int 2]) (rest := [.int r32, .long r32.toInt64, .long i_l.toInt64]) ⟨hx, hb, hml, hown, hts⟩ (c_X10_of l D b i_e v27 2 kI g_b ke v27.toInt.toNat 2 (by first | decide | omega) (by first | decide | omega) (by first | decide | omega) (by first | decide | omega) (by first | decide | omega) (by first | decide | omega) (by first | omega | decide | (have hz0 : (0 : Int32).toInt = 0 := (by decide); omega)) (by first | omega | decide | (have hz0 : (0 : Int32).toInt = 0 := (by decide); omega)) (by first | omega | decide | (have hz0 : (0 : Int32).toInt = 0 := (by decide); omega))) (cwS 4 hts g_X10_stretchOf_X10_of rfl rfl rfl (by decide +kernel) ⟨Nat.le_of_ble_eq_true rfl, Nat.le_of_ble_eq_true rfl⟩) ⟨fun a U g mk q => by obtain ⟨q0, qP, qK⟩ := q; exact ⟨q0, qP, va_K.moved (u := U) (U := U.calling g mk a) (Vm.Alike.refl U.vm) qK⟩, fun U hU hW => ⟨rfl, by rw [hU]; exact hPc, va_K.moved hW.alike hKc⟩⟩ rfl rfl hl.1 rfl (lv_room (Nat.le_of_ble_eq_true rfl)) dX10_stretchOf_45 ⟨Nat.le_of_ble_eq_true rfl, Nat.le_of_ble_eq_true rfl⟩) hS (fun _ _ h => h.elim) (fun _ h => h.elim) (fun r35 u t H1 locs ht hvm hw hB hz1 hk1 hS => ?_)
      have hP := pw_keep hP (fun q hq => hk1 q hq (fun h => h))
      generalize H1 = H at hP hS ⊢
      refine W.widen (k := 0) (n := 0) (Nat.le_of_ble_eq_true rfl) (Nat.le_of_ble_eq_true rfl) ?_
      have hfr35 := hw
      have hvs := (hg_b.hs ke v27.toInt.toNat (by omega) (by omega))
      unfold gS vS at hvs
      refine lv_iadd hx hb dX10_stretchOf_48 ?_
      refine lv_topi (fun x36 ex36 => ?_)
      have tx36 : x36.toInt = r32.toInt + r35.toInt := pw_addX ex36 rfl rfl (by omega) (by omega)
      refine lv_iconst (v := 1) hx hb dX10_stretchOf_49 (by decide) ?_
      refine lv_isub hx hb dX10_stretchOf_50 ?_
      refine lv_topi (fun x37 ex37 => ?_)
      have tx37 : x37.toInt = x36.toInt - 1 := pw_subX ex37 rfl (by decide) (by omega) (by omega)
      refine lv_i2l (v := x37.toInt64) hx hb dX10_stretchOf_51 rfl ?_
      have hPc := hP.sub (ws' := []) [] rfl
      have hKc := hK.sub (tys' := []) [] rfl
      refine va_calli (va_runS (As := [.long i_l.toInt64, .long r32.toInt64, .long x37.toInt64]) (rest := []) ⟨hx, hb, hml, hown, hts⟩ (c_X10_in0 l D i_l.toInt64 r32.toInt64 x37.toInt64) (cwS 3 hts g_X10_stretchOf_X10_in0 rfl rfl rfl (by decide +kernel) ⟨Nat.le_of_ble_eq_true rfl, Nat.le_of_ble_eq_true rfl⟩) ⟨fun a U g mk q => by obtain ⟨q0, qP, qK⟩ := q; exact ⟨q0, qP, va_K.moved (u := U) (U := U.calling g mk a) (Vm.Alike.refl U.vm) qK⟩, fun U hU hW => ⟨rfl, by rw [hU]; exact hPc, va_K.moved hW.alike hKc⟩⟩ rfl rfl hl.1 rfl (lv_room (Nat.le_of_ble_eq_true rfl)) dX10_stretchOf_52 ⟨Nat.le_of_ble_eq_true rfl, Nat.le_of_ble_eq_true rfl⟩) hS (fun _ _ h => h.elim) (fun _ h => h.elim) (fun r38 u t H1 locs ht hvm hw hB hz1 hk1 hS => ?_)
      have hP := pw_keep hP (fun q hq => hk1 q hq (fun h => h))
      generalize H1 = H at hP hS ⊢
      refine W.widen (k := 0) (n := 0) (Nat.le_of_ble_eq_true rfl) (Nat.le_of_ble_eq_true rfl) ?_
      have bor38 := hw.1
      have zor38 := pw_boolI bor38
      have hfr38 := hw.2
      try simp only [Int32.toInt_toInt64] at hfr38
      refine lv_if_eq (tgt := 63) hx hb dX10_stretchOf_55 (by decide) (fun c39 => ?_) (fun c39 => ?_)
      · have nc39 : r38.toInt = 0 := pw_eq c39 rfl (by decide)
        refine lv_iload hx hb dX10_stretchOf_63 (lv_at hl 5 rfl) ?_
        refine lv_istore (lv' := [(4, .int v26), (6, .int r32), (0, .ref b), (1, .int i_e), (2, .int i_l), (3, .int i_but), (5, .int v27)]) hx hb dX10_stretchOf_65 hl (by decide) rfl (fun ls hl => ?_)
        obtain ⟨x40, ex40⟩ : ∃ y : Int32, y = v27 + 1 := ⟨_, rfl⟩
        have tx40 : x40.toInt = v27.toInt + 1 := pw_addX ex40 rfl (by decide) (by omega) (by omega)
        refine lv_iinc (v := x40) (lv' := [(5, .int x40), (4, .int v26), (6, .int r32), (0, .ref b), (1, .int i_e), (2, .int i_l), (3, .int i_but)]) hx hb dX10_stretchOf_67 hl (k := 6) rfl (by rw [ex40]; rfl) (by decide) rfl (fun ls hl => ?_)
        refine lv_goto (tgt := 7) hx hb dX10_stretchOf_70 (by decide) ?_
        have hP9 : va_P D vwCl [(b, .inl (kI, 192, .inl g_b))] H := hP.sub [0] rfl
        have hl9 : lv_has ls 7 [(0, .ref b), (1, .int i_e), (2, .int i_l), (3, .int i_but), (4, .int v26), (5, .int x40)] := lv_sub hl [3, 4, 5, 6, 1, 0] rfl
        refine W.widen (k := 0) (n := 0) (Nat.le_of_ble_eq_true rfl) (Nat.le_of_ble_eq_true rfl) ?_
        exact ih28 (v26, x40) _ _ _ (pw_up ex40 (by omega)) ⟨hP9, hS, hl9, (by omega), (soI_n hso (by omega) (Or.inr (gIn_no (a := r32.toInt) (b := r35.toInt) (by omega) (by omega) (by omega))) (pw_add1 ex40 (by omega))), (by have := pw_add1 ex40 (by omega); omega)⟩
      · have nc39 : r38.toInt ≠ 0 := pw_ne c39 rfl (by decide)
        refine lv_iload hx hb dX10_stretchOf_58 (lv_at hl 6 rfl) ?_
        refine lv_goto (tgt := 65) hx hb dX10_stretchOf_60 (by decide) ?_
        refine lv_istore (lv' := [(4, .int v27), (6, .int r32), (0, .ref b), (1, .int i_e), (2, .int i_l), (3, .int i_but), (5, .int v27)]) hx hb dX10_stretchOf_65 hl (by decide) rfl (fun ls hl => ?_)
        obtain ⟨x41, ex41⟩ : ∃ y : Int32, y = v27 + 1 := ⟨_, rfl⟩
        have tx41 : x41.toInt = v27.toInt + 1 := pw_addX ex41 rfl (by decide) (by omega) (by omega)
        refine lv_iinc (v := x41) (lv' := [(5, .int x41), (4, .int v27), (6, .int r32), (0, .ref b), (1, .int i_e), (2, .int i_l), (3, .int i_but)]) hx hb dX10_stretchOf_67 hl (k := 6) rfl (by rw [ex41]; rfl) (by decide) rfl (fun ls hl => ?_)
        refine lv_goto (tgt := 7) hx hb dX10_stretchOf_70 (by decide) ?_
        have hP9 : va_P D vwCl [(b, .inl (kI, 192, .inl g_b))] H := hP.sub [0] rfl
        have hl9 : lv_has ls 7 [(0, .ref b), (1, .int i_e), (2, .int i_l), (3, .int i_but), (4, .int v27), (5, .int x41)] := lv_sub hl [3, 4, 5, 6, 1, 0] rfl
        refine W.widen (k := 0) (n := 0) (Nat.le_of_ble_eq_true rfl) (Nat.le_of_ble_eq_true rfl) ?_
        exact ih28 (v27, x41) _ _ _ (pw_up ex41 (by omega)) ⟨hP9, hS, hl9, (by omega), (soI_y (a := r32.toInt) (b := r35.toInt) (r := 0) (n := v27.toInt) (by omega) (by omega) (by omega) (by omega) (by omega) (by omega) (pw_add1 ex41 (by omega)) rfl), (by have := pw_add1 ex41 (by omega); omega)⟩
def w_X10_isFrom : List Cond := .code yX10_isFrom cX10_isFrom 4 (some .boolean) :: ([.methodLink RX10 51 yX10_in0, .static yX10_in0, .initialized RX10, .code yX10_in0 cX10_in0 6 (some .boolean), .methodLink RX10 66 yX10_stretchOf, .static yX10_stretchOf, .code yX10_stretchOf cX10_stretchOf 7 (some .int), .constant RX10 61 (-1000000), .methodLink RX10 62 yX10_of, .static yX10_of, .code yX10_of cX10_of 4 (some .int)])
set_option maxRecDepth 20000 in
theorem g_X10_isFrom_X10_in0 : GoodIn w_X10_isFrom (wsS RX10 51 yX10_in0 w_X10_in0) := goodIn_r _ [1, 2, 3, 4] rfl (by decide +kernel)
set_option maxRecDepth 20000 in
theorem g_X10_isFrom_X10_stretchOf : GoodIn w_X10_isFrom (wsS RX10 66 yX10_stretchOf w_X10_stretchOf) := goodIn_r _ [5, 6, 3, 7, 8, 9, 10, 3, 11, 1, 2, 4] rfl (by decide +kernel)
set_option maxHeartbeats 4000000 in
set_option maxRecDepth 100000 in
theorem c_X10_isFrom (l : Launch) (D : va_G) (b : Nat) (i_e : Int32) (i_fr : Int32) (i_but : Int32) (kI : ClassId) (g_b : Nat → Int32) (ke : Nat) (hnke : i_e.toInt = ((ke : Nat) : Int)) (h0i_e : 0 ≤ i_e.toInt) (h1i_e : i_e.toInt ≤ 4) (hg_b : gV g_b) : Met l yX10_isFrom w_X10_isFrom ({ frames := 2, cells := 0, slots := 0, locals := 51 }) (va_Pc [.ref b, .int i_e, .int i_fr, .int i_but] (fun U => va_P D vwCl [(b, .inl (kI, 192, .inl g_b))] U.heap ∧ va_K D vwCl [(kI, .int)] U)) (va_Qi (fun (r : Int32) (_ : Unit) => (r = 0 ∨ r = 1) ∧ r.toInt = bI (gFrom g_b ke i_fr.toInt i_but.toInt)) (fun _ _ => True) (fun _ => False)) 0 0 (fun _ => False) := by
  refine Met.ofW (cc := cX10_isFrom) (maxL := 4) (ret := (some .boolean)) (by decide) rfl ?_
  intro p e s m args below meth c s₁ B hml hv
  obtain ⟨rfl, hP, hK⟩ := hv
  have hx := B.exec
  have hb := B.bytes
  have hr := B.returns
  have hts := atoms_spec (ws := w_X10_isFrom) B.pre
  have hown : s.vm.findClass RX10 = some m.cls := findClass_of_methodNamed B.named
  have hlocks := B.notSynchronized
  have hS : va_S (fun _ : Nat => False) s.heap s.heap [] := va_S.rf
  have hP : va_P D vwCl [(b, .inl (kI, 192, .inl g_b))] s.heap := hP
  have hl := lv_entry ([.ref b, .int i_e, .int i_fr, .int i_but]) (n := 4) (Nat.le_of_ble_eq_true rfl)
  rw [lg_entry_eq]
  generalize (lg_sl ([.ref b, .int i_e, .int i_fr, .int i_but]) ++ List.replicate (4 - (lg_sl ([.ref b, .int i_e, .int i_fr, .int i_but])).length) Slot.unset).toArray = ls at hl ⊢
  have hl : lv_has ls 4 [(0, .ref b), (1, .int i_e), (2, .int i_fr), (3, .int i_but)] := hl
  obtain ⟨H, hHe⟩ : ∃ H : Heap, H = s.heap := ⟨_, rfl⟩
  rw [← hHe] at hP
  have hS : va_S (fun _ : Nat => False) s.heap H [] := by rw [hHe]; exact hS
  refine pw_heap hHe ?_
  refine lv_iload_n hx hb dX10_isFrom_0 rfl (lv_at hl 2 rfl) ?_
  refine lv_i2l (v := i_fr.toInt64) hx hb dX10_isFrom_1 rfl ?_
  refine lv_lconst (v := 0) hx hb dX10_isFrom_2 (by decide) ?_
  refine lv_aload_n hx hb dX10_isFrom_3 rfl (lv_at hl 0 rfl) ?_
  refine lv_iconst (v := 0) hx hb dX10_isFrom_4 (by decide) ?_
  refine va_iald hx hb hK hP 0 0 rfl rfl (vp_in_iff.mpr (by decide)) dX10_isFrom_5 ?_
  refine lv_topi (fun x1 ex1 => ?_)
  have nx1 : 0 ≤ x1.toInt ∧ x1.toInt ≤ 200 := gV_0 hg_b ex1
  have zx1 := gV_00 ex1
  refine lv_iconst (v := 1) hx hb dX10_isFrom_6 (by decide) ?_
  refine lv_isub hx hb dX10_isFrom_7 ?_
  refine lv_topi (fun x2 ex2 => ?_)
  have tx2 : x2.toInt = x1.toInt - 1 := pw_subX ex2 rfl (by decide) (by omega) (by omega)
  refine lv_i2l (v := x2.toInt64) hx hb dX10_isFrom_8 rfl ?_
  have hPc := hP.sub (ws' := []) [] rfl
  have hKc := hK.sub (tys' := []) [] rfl
  refine va_calli (va_runS (As := [.long i_fr.toInt64, .long 0, .long x2.toInt64]) (rest := []) ⟨hx, hb, hml, hown, hts⟩ (c_X10_in0 l D i_fr.toInt64 0 x2.toInt64) (cwS 3 hts g_X10_isFrom_X10_in0 rfl rfl rfl (by decide +kernel) ⟨Nat.le_of_ble_eq_true rfl, Nat.le_of_ble_eq_true rfl⟩) ⟨fun a U g mk q => by obtain ⟨q0, qP, qK⟩ := q; exact ⟨q0, qP, va_K.moved (u := U) (U := U.calling g mk a) (Vm.Alike.refl U.vm) qK⟩, fun U hU hW => ⟨rfl, by rw [hU]; exact hPc, va_K.moved hW.alike hKc⟩⟩ rfl rfl hl.1 rfl (lv_room (Nat.le_of_ble_eq_true rfl)) dX10_isFrom_9 ⟨Nat.le_of_ble_eq_true rfl, Nat.le_of_ble_eq_true rfl⟩) hS (fun _ _ h => h.elim) (fun _ h => h.elim) (fun r3 u t H1 locs ht hvm hw hB hz1 hk1 hS => ?_)
  have hP := pw_keep hP (fun q hq => hk1 q hq (fun h => h))
  generalize H1 = H at hP hS ⊢
  refine W.widen (k := 0) (n := 0) (Nat.le_of_ble_eq_true rfl) (Nat.le_of_ble_eq_true rfl) ?_
  have bor3 := hw.1
  have zor3 := pw_boolI bor3
  have hfr3 := hw.2
  have kl0 : (0 : Int64).toInt = 0 := by decide
  try simp only [Int32.toInt_toInt64] at hfr3
  refine lv_if_eq (tgt := 31) hx hb dX10_isFrom_12 (by decide) (fun c4 => ?_) (fun c4 => ?_)
  · have nc4 : r3.toInt = 0 := pw_eq c4 rfl (by decide)
    refine lv_iconst (v := 0) hx hb dX10_isFrom_31 (by decide) ?_
    exact W.zret (v := 0) (ty := .boolean) hx hb hr rfl (fun t ht hW => ⟨⟨0, (), rfl, ⟨Or.inl rfl, i0_of (gFrom_no (by omega))⟩, trivial⟩, hS.F ht⟩) hS.2.2 dX10_isFrom_32
  · have nc4 : r3.toInt ≠ 0 := pw_ne c4 rfl (by decide)
    refine lv_aload_n hx hb dX10_isFrom_15 rfl (lv_at hl 0 rfl) ?_
    refine lv_iload_n hx hb dX10_isFrom_16 rfl (lv_at hl 1 rfl) ?_
    refine lv_iload_n hx hb dX10_isFrom_17 rfl (lv_at hl 2 rfl) ?_
    refine lv_iload_n hx hb dX10_isFrom_18 rfl (lv_at hl 3 rfl) ?_
    have hPc := hP.sub (ws' := [(b, .inl (kI, 192, .inl g_b))]) [0] rfl
    have hKc := hK.sub (tys' := [(kI, .int)]) [0] rfl
    refine va_calli (va_runS (As := [.ref b, .int i_e, .int i_fr, .int i_but]) (rest := []) ⟨hx, hb, hml, hown, hts⟩ (c_X10_stretchOf l D b i_e i_fr i_but kI g_b ke (by first | omega | decide | (have hz0 : (0 : Int32).toInt = 0 := (by decide); omega)) (by first | decide | omega) (by first | decide | omega) hg_b) (cwS 4 hts g_X10_isFrom_X10_stretchOf rfl rfl rfl (by decide +kernel) ⟨Nat.le_of_ble_eq_true rfl, Nat.le_of_ble_eq_true rfl⟩) ⟨fun a U g mk q => by obtain ⟨q0, qP, qK⟩ := q; exact ⟨q0, qP, va_K.moved (u := U) (U := U.calling g mk a) (Vm.Alike.refl U.vm) qK⟩, fun U hU hW => ⟨rfl, by rw [hU]; exact hPc, va_K.moved hW.alike hKc⟩⟩ rfl rfl hl.1 rfl (lv_room (Nat.le_of_ble_eq_true rfl)) dX10_isFrom_19 ⟨Nat.le_of_ble_eq_true rfl, Nat.le_of_ble_eq_true rfl⟩) hS (fun _ _ h => h.elim) (fun _ h => h.elim) (fun r5 u t H1 locs ht hvm hw hB hz1 hk1 hS => ?_)
    have hP := pw_keep hP (fun q hq => hk1 q hq (fun h => h))
    generalize H1 = H at hP hS ⊢
    refine W.widen (k := 0) (n := 0) (Nat.le_of_ble_eq_true rfl) (Nat.le_of_ble_eq_true rfl) ?_
    have hfr5 := hw
    refine lv_ldc hx hb hown (hts (.constant RX10 61 (-1000000)) (List.mem_of_getElem? (i := 8) rfl)) dX10_isFrom_22 ?_
    refine lv_icmp_ne (tgt := 31) hx hb dX10_isFrom_24 (by decide) (fun c6 => ?_) (fun c6 => ?_)
    · have nc6 : r5.toInt ≠ (-1000000) := pw_ne c6 rfl (by decide)
      refine lv_iconst (v := 0) hx hb dX10_isFrom_31 (by decide) ?_
      exact W.zret (v := 0) (ty := .boolean) hx hb hr rfl (fun t ht hW => ⟨⟨0, (), rfl, ⟨Or.inl rfl, i0_of (gFrom_n2 hfr5 (by omega))⟩, trivial⟩, hS.F ht⟩) hS.2.2 dX10_isFrom_32
    · have nc6 : r5.toInt = (-1000000) := pw_eq c6 rfl (by decide)
      refine lv_iconst (v := 1) hx hb dX10_isFrom_27 (by decide) ?_
      refine lv_goto (tgt := 32) hx hb dX10_isFrom_28 (by decide) ?_
      exact W.zret (v := 1) (ty := .boolean) hx hb hr rfl (fun t ht hW => ⟨⟨1, (), rfl, ⟨Or.inr rfl, i1_of (gFrom_y (by omega) (by omega) hfr5 (by omega))⟩, trivial⟩, hS.F ht⟩) hS.2.2 dX10_isFrom_32
def w_X10_isMany : List Cond := .code yX10_isMany cX10_isMany 7 (some .boolean) :: ([.methodLink RX10 51 yX10_in0, .static yX10_in0, .initialized RX10, .code yX10_in0 cX10_in0 6 (some .boolean), .methodLink RX10 66 yX10_stretchOf, .static yX10_stretchOf, .code yX10_stretchOf cX10_stretchOf 7 (some .int), .constant RX10 61 (-1000000), .methodLink RX10 62 yX10_of, .static yX10_of, .code yX10_of cX10_of 4 (some .int)])
set_option maxRecDepth 20000 in
theorem g_X10_isMany_X10_in0 : GoodIn w_X10_isMany (wsS RX10 51 yX10_in0 w_X10_in0) := goodIn_r _ [1, 2, 3, 4] rfl (by decide +kernel)
set_option maxRecDepth 20000 in
theorem g_X10_isMany_X10_stretchOf : GoodIn w_X10_isMany (wsS RX10 66 yX10_stretchOf w_X10_stretchOf) := goodIn_r _ [5, 6, 3, 7, 8, 9, 10, 3, 11, 1, 2, 4] rfl (by decide +kernel)
set_option maxHeartbeats 4000000 in
set_option maxRecDepth 100000 in
theorem c_X10_isMany (l : Launch) (D : va_G) (b : Nat) (i_e : Int32) (i_fr : Int32) (i_m : Int32) (i_but : Int32) (kI : ClassId) (g_b : Nat → Int32) (ke : Nat) (hnke : i_e.toInt = ((ke : Nat) : Int)) (h0i_e : 0 ≤ i_e.toInt) (h1i_e : i_e.toInt ≤ 4) (h0i_fr : 0 ≤ i_fr.toInt) (h1i_fr : i_fr.toInt ≤ 199) (hg_b : gV g_b) : Met l yX10_isMany w_X10_isMany ({ frames := 2, cells := 0, slots := 0, locals := 51 }) (va_Pc [.ref b, .int i_e, .int i_fr, .int i_m, .int i_but] (fun U => va_P D vwCl [(b, .inl (kI, 192, .inl g_b))] U.heap ∧ va_K D vwCl [(kI, .int)] U)) (va_Qi (fun (r : Int32) (_ : Unit) => (r = 0 ∨ r = 1) ∧ r.toInt = bI (gMany g_b ke i_fr.toInt i_m.toInt i_but.toInt)) (fun _ _ => True) (fun _ => False)) 0 0 (fun _ => False) := by
  refine Met.ofW (cc := cX10_isMany) (maxL := 7) (ret := (some .boolean)) (by decide) rfl ?_
  intro p e s m args below meth c s₁ B hml hv
  obtain ⟨rfl, hP, hK⟩ := hv
  have hx := B.exec
  have hb := B.bytes
  have hr := B.returns
  have hts := atoms_spec (ws := w_X10_isMany) B.pre
  have hown : s.vm.findClass RX10 = some m.cls := findClass_of_methodNamed B.named
  have hlocks := B.notSynchronized
  have hS : va_S (fun _ : Nat => False) s.heap s.heap [] := va_S.rf
  have hP : va_P D vwCl [(b, .inl (kI, 192, .inl g_b))] s.heap := hP
  have hl := lv_entry ([.ref b, .int i_e, .int i_fr, .int i_m, .int i_but]) (n := 7) (Nat.le_of_ble_eq_true rfl)
  rw [lg_entry_eq]
  generalize (lg_sl ([.ref b, .int i_e, .int i_fr, .int i_m, .int i_but]) ++ List.replicate (7 - (lg_sl ([.ref b, .int i_e, .int i_fr, .int i_m, .int i_but])).length) Slot.unset).toArray = ls at hl ⊢
  have hl : lv_has ls 7 [(0, .ref b), (1, .int i_e), (2, .int i_fr), (3, .int i_m), (4, .int i_but)] := hl
  obtain ⟨H, hHe⟩ : ∃ H : Heap, H = s.heap := ⟨_, rfl⟩
  rw [← hHe] at hP
  have hS : va_S (fun _ : Nat => False) s.heap H [] := by rw [hHe]; exact hS
  refine pw_heap hHe ?_
  refine lv_iload_n hx hb dX10_isMany_0 rfl (lv_at hl 3 rfl) ?_
  refine lv_i2l (v := i_m.toInt64) hx hb dX10_isMany_1 rfl ?_
  refine lv_lconst (v := 1) hx hb dX10_isMany_2 (by decide) ?_
  refine lv_aload_n hx hb dX10_isMany_3 rfl (lv_at hl 0 rfl) ?_
  refine lv_iconst (v := 0) hx hb dX10_isMany_4 (by decide) ?_
  refine va_iald hx hb hK hP 0 0 rfl rfl (vp_in_iff.mpr (by decide)) dX10_isMany_5 ?_
  refine lv_topi (fun x1 ex1 => ?_)
  have nx1 : 0 ≤ x1.toInt ∧ x1.toInt ≤ 200 := gV_0 hg_b ex1
  have zx1 := gV_00 ex1
  refine lv_iload_n hx hb dX10_isMany_6 rfl (lv_at hl 2 rfl) ?_
  refine lv_isub hx hb dX10_isMany_7 ?_
  refine lv_topi (fun x2 ex2 => ?_)
  have tx2 : x2.toInt = x1.toInt - i_fr.toInt := pw_subX ex2 rfl rfl (by omega) (by omega)
  refine lv_i2l (v := x2.toInt64) hx hb dX10_isMany_8 rfl ?_
  have hPc := hP.sub (ws' := []) [] rfl
  have hKc := hK.sub (tys' := []) [] rfl
  refine va_calli (va_runS (As := [.long i_m.toInt64, .long 1, .long x2.toInt64]) (rest := []) ⟨hx, hb, hml, hown, hts⟩ (c_X10_in0 l D i_m.toInt64 1 x2.toInt64) (cwS 3 hts g_X10_isMany_X10_in0 rfl rfl rfl (by decide +kernel) ⟨Nat.le_of_ble_eq_true rfl, Nat.le_of_ble_eq_true rfl⟩) ⟨fun a U g mk q => by obtain ⟨q0, qP, qK⟩ := q; exact ⟨q0, qP, va_K.moved (u := U) (U := U.calling g mk a) (Vm.Alike.refl U.vm) qK⟩, fun U hU hW => ⟨rfl, by rw [hU]; exact hPc, va_K.moved hW.alike hKc⟩⟩ rfl rfl hl.1 rfl (lv_room (Nat.le_of_ble_eq_true rfl)) dX10_isMany_9 ⟨Nat.le_of_ble_eq_true rfl, Nat.le_of_ble_eq_true rfl⟩) hS (fun _ _ h => h.elim) (fun _ h => h.elim) (fun r3 u t H1 locs ht hvm hw hB hz1 hk1 hS => ?_)
  have hP := pw_keep hP (fun q hq => hk1 q hq (fun h => h))
  generalize H1 = H at hP hS ⊢
  refine W.widen (k := 0) (n := 0) (Nat.le_of_ble_eq_true rfl) (Nat.le_of_ble_eq_true rfl) ?_
  have bor3 := hw.1
  have zor3 := pw_boolI bor3
  have hfr3 := hw.2
  have kl1 : (1 : Int64).toInt = 1 := by decide
  try simp only [Int32.toInt_toInt64] at hfr3
  refine lv_istore (lv' := [(5, .int r3), (0, .ref b), (1, .int i_e), (2, .int i_fr), (3, .int i_m), (4, .int i_but)]) hx hb dX10_isMany_12 hl (by decide) rfl (fun ls hl => ?_)
  refine lv_iload_n hx hb dX10_isMany_14 rfl (lv_at hl 3 rfl) ?_
  refine lv_istore (lv' := [(6, .int i_fr), (5, .int r3), (0, .ref b), (1, .int i_e), (2, .int i_fr), (3, .int i_m), (4, .int i_but)]) hx hb dX10_isMany_15 hl (by decide) rfl (fun ls hl => ?_)
  have hl9 : lv_has ls 7 [(0, .ref b), (1, .int i_e), (2, .int i_fr), (3, .int i_m), (4, .int i_but), (5, .int r3), (6, .int i_fr)] := lv_sub hl [2, 3, 4, 5, 6, 1, 0] rfl
  refine pw_loop (fun (zz : Int32 × Int32) H locs ls => match zz with | (v20, v21) => va_P D vwCl [(b, .inl (kI, 192, .inl g_b))] H ∧ va_S (fun _ : Nat => False) s.heap H locs ∧ lv_has ls 7 [(0, .ref b), (1, .int i_e), (2, .int i_fr), (3, .int i_m), (4, .int i_but), (5, .int v20), (6, .int v21)] ∧ (i_fr.toInt ≤ v21.toInt ∧ v21.toInt ≤ 200 ∧ (v20.toInt = 1 ∨ v20.toInt = 0) ∧ (v20 = 0 ∨ v20 = 1)) ∧ (bI (1 ≤ i_m.toInt ∧ i_m.toInt ≤ (g_b 0).toInt - i_fr.toInt) = 1 → (mnI g_b ke i_fr.toInt i_but.toInt v21.toInt v20.toInt ∧ v21.toInt ≤ i_fr.toInt + i_m.toInt)) ∧ (bI (1 ≤ i_m.toInt ∧ i_m.toInt ≤ (g_b 0).toInt - i_fr.toInt) = 0 → v20.toInt = 0)) (fun (zz : Int32 × Int32)  => match zz with | (v20, v21) => (2147483648 - v21.toInt).toNat) 0 0 (fun (zz : Int32 × Int32) ls => match zz with | (v20, v21) => F0 m 17 ls []) (fun zz H locs ls ih22 hI => ?_) (r3, i_fr) _ _ _ ⟨hP, hS, hl9, (by rcases bor3 with q | q <;> rw [q] <;> refine ⟨by omega, by omega, by decide, by decide⟩), (fun q => ⟨mnI_0 (by have := bI_1 q; omega) rfl, by have := bI_1 q; omega⟩), (fun q => by have := bI_0 q; omega)⟩
  obtain ⟨v20, v21⟩ := zz
  obtain ⟨hP, hS, hl, bmn, hmn, hm0⟩ := hI
  have bmn : (i_fr.toInt ≤ v21.toInt ∧ v21.toInt ≤ 200 ∧ (v20.toInt = 1 ∨ v20.toInt = 0) ∧ (v20 = 0 ∨ v20 = 1)) := bmn
  have hmn : (bI (1 ≤ i_m.toInt ∧ i_m.toInt ≤ (g_b 0).toInt - i_fr.toInt) = 1 → (mnI g_b ke i_fr.toInt i_but.toInt v21.toInt v20.toInt ∧ v21.toInt ≤ i_fr.toInt + i_m.toInt)) := hmn
  have hm0 : (bI (1 ≤ i_m.toInt ∧ i_m.toInt ≤ (g_b 0).toInt - i_fr.toInt) = 0 → v20.toInt = 0) := hm0
  have hP : va_P D vwCl [(b, .inl (kI, 192, .inl g_b))] H := hP
  have hK : va_K D vwCl [(kI, .int)] s := hK
  have hl : lv_has ls 7 [(0, .ref b), (1, .int i_e), (2, .int i_fr), (3, .int i_m), (4, .int i_but), (5, .int v20), (6, .int v21)] := hl
  refine W.eq (g2 := F0 m 17 ls []) rfl ?_
  have bm4 := bmn.2.2.2
  refine lv_iload hx hb dX10_isMany_17 (lv_at hl 5 rfl) ?_
  refine lv_if_eq (tgt := 57) hx hb dX10_isMany_19 (by decide) (fun c23 => ?_) (fun c23 => ?_)
  · have nc23 : v20.toInt = 0 := pw_eq c23 rfl (by decide)
    refine lv_iload hx hb dX10_isMany_57 (lv_at hl 5 rfl) ?_
    have hres : v20.toInt = bI (gMany g_b ke i_fr.toInt i_m.toInt i_but.toInt) := by
      rcases Classical.em (1 ≤ i_m.toInt ∧ i_m.toInt ≤ (g_b 0).toInt - i_fr.toInt) with q | q
      · exact mnI_end (hmn (bI_t q)).1 q.1 q.2 (by have := (hmn (bI_t q)).2; omega) (hmn (bI_t q)).2
      · rw [gMany_no q]; exact hm0 (bI_f q)
    have bov20 := bm4
    exact W.zret (v := v20) (ty := .boolean) hx hb hr (pw_bool bov20) (fun t ht hW => ⟨⟨v20, (), rfl, ⟨bm4, hres⟩, trivial⟩, hS.F ht⟩) hS.2.2 dX10_isMany_59
  · have nc23 : v20.toInt ≠ 0 := pw_ne c23 rfl (by decide)
    have hq1 : bI (1 ≤ i_m.toInt ∧ i_m.toInt ≤ (g_b 0).toInt - i_fr.toInt) = 1 := by have := bI_01 (1 ≤ i_m.toInt ∧ i_m.toInt ≤ (g_b 0).toInt - i_fr.toInt); omega
    have bmm := bI_1 hq1
    have hmm := hmn hq1
    have h200 := hg_b.h0.2
    refine lv_iload hx hb dX10_isMany_22 (lv_at hl 6 rfl) ?_
    refine lv_iload_n hx hb dX10_isMany_24 rfl (lv_at hl 2 rfl) ?_
    refine lv_iload_n hx hb dX10_isMany_25 rfl (lv_at hl 3 rfl) ?_
    refine lv_iadd hx hb dX10_isMany_26 ?_
    refine lv_topi (fun x24 ex24 => ?_)
    have tx24 : x24.toInt = i_fr.toInt + i_m.toInt := pw_addX ex24 rfl rfl (by omega) (by omega)
    refine lv_icmp_ge (tgt := 57) hx hb dX10_isMany_27 (by decide) (fun c25 => ?_) (fun c25 => ?_)
    · have nc25 : x24.toInt ≤ v21.toInt := pw_le c25 rfl rfl
      have mc25v21 := pw_max v21
      have mc25x24 := pw_max x24
      refine lv_iload hx hb dX10_isMany_57 (lv_at hl 5 rfl) ?_
      have hres : v20.toInt = bI (gMany g_b ke i_fr.toInt i_m.toInt i_but.toInt) := by
        rcases Classical.em (1 ≤ i_m.toInt ∧ i_m.toInt ≤ (g_b 0).toInt - i_fr.toInt) with q | q
        · exact mnI_end (hmn (bI_t q)).1 q.1 q.2 (by have := (hmn (bI_t q)).2; omega) (hmn (bI_t q)).2
        · rw [gMany_no q]; exact hm0 (bI_f q)
      have bov20 := bm4
      exact W.zret (v := v20) (ty := .boolean) hx hb hr (pw_bool bov20) (fun t ht hW => ⟨⟨v20, (), rfl, ⟨bm4, hres⟩, trivial⟩, hS.F ht⟩) hS.2.2 dX10_isMany_59
    · have nc25 : v21.toInt < x24.toInt := pw_nle c25 rfl rfl
      have mc25v21 := pw_max v21
      have mc25x24 := pw_max x24
      refine lv_aload_n hx hb dX10_isMany_30 rfl (lv_at hl 0 rfl) ?_
      refine lv_iload_n hx hb dX10_isMany_31 rfl (lv_at hl 1 rfl) ?_
      refine lv_iload hx hb dX10_isMany_32 (lv_at hl 6 rfl) ?_
      refine lv_iload hx hb dX10_isMany_34 (lv_at hl 4 rfl) ?_
      have hPc := hP.sub (ws' := [(b, .inl (kI, 192, .inl g_b))]) [0] rfl
      have hKc := hK.sub (tys' := [(kI, .int)]) [0] rfl
      refine va_calli (va_runS (As := [.ref b, .int i_e, .int v21, .int i_but]) (rest := []) ⟨hx, hb, hml, hown, hts⟩ (c_X10_stretchOf l D b i_e v21 i_but kI g_b ke (by first | omega | decide | (have hz0 : (0 : Int32).toInt = 0 := (by decide); omega)) (by first | decide | omega) (by first | decide | omega) hg_b) (cwS 4 hts g_X10_isMany_X10_stretchOf rfl rfl rfl (by decide +kernel) ⟨Nat.le_of_ble_eq_true rfl, Nat.le_of_ble_eq_true rfl⟩) ⟨fun a U g mk q => by obtain ⟨q0, qP, qK⟩ := q; exact ⟨q0, qP, va_K.moved (u := U) (U := U.calling g mk a) (Vm.Alike.refl U.vm) qK⟩, fun U hU hW => ⟨rfl, by rw [hU]; exact hPc, va_K.moved hW.alike hKc⟩⟩ rfl rfl hl.1 rfl (lv_room (Nat.le_of_ble_eq_true rfl)) dX10_isMany_36 ⟨Nat.le_of_ble_eq_true rfl, Nat.le_of_ble_eq_true rfl⟩) hS (fun _ _ h => h.elim) (fun _ h => h.elim) (fun r26 u t H1 locs ht hvm hw hB hz1 hk1 hS => ?_)
      have hP := pw_keep hP (fun q hq => hk1 q hq (fun h => h))
      generalize H1 = H at hP hS ⊢
      refine W.widen (k := 0) (n := 0) (Nat.le_of_ble_eq_true rfl) (Nat.le_of_ble_eq_true rfl) ?_
      have hfr26 := hw
      refine lv_ldc hx hb hown (hts (.constant RX10 61 (-1000000)) (List.mem_of_getElem? (i := 8) rfl)) dX10_isMany_39 ?_
      refine lv_icmp_ne (tgt := 48) hx hb dX10_isMany_41 (by decide) (fun c27 => ?_) (fun c27 => ?_)
      · have nc27 : r26.toInt ≠ (-1000000) := pw_ne c27 rfl (by decide)
        refine lv_iconst (v := 0) hx hb dX10_isMany_48 (by decide) ?_
        refine lv_istore (lv' := [(5, .int 0), (0, .ref b), (1, .int i_e), (2, .int i_fr), (3, .int i_m), (4, .int i_but), (6, .int v21)]) hx hb dX10_isMany_49 hl (by decide) rfl (fun ls hl => ?_)
        obtain ⟨x28, ex28⟩ : ∃ y : Int32, y = v21 + 1 := ⟨_, rfl⟩
        have tx28 : x28.toInt = v21.toInt + 1 := pw_addX ex28 rfl (by decide) (by omega) (by omega)
        refine lv_iinc (v := x28) (lv' := [(6, .int x28), (5, .int 0), (0, .ref b), (1, .int i_e), (2, .int i_fr), (3, .int i_m), (4, .int i_but)]) hx hb dX10_isMany_51 hl (k := 6) rfl (by rw [ex28]; rfl) (by decide) rfl (fun ls hl => ?_)
        refine lv_goto (tgt := 17) hx hb dX10_isMany_54 (by decide) ?_
        have hP9 : va_P D vwCl [(b, .inl (kI, 192, .inl g_b))] H := hP.sub [0] rfl
        have hl9 : lv_has ls 7 [(0, .ref b), (1, .int i_e), (2, .int i_fr), (3, .int i_m), (4, .int i_but), (5, .int 0), (6, .int x28)] := lv_sub hl [2, 3, 4, 5, 6, 1, 0] rfl
        refine W.widen (k := 0) (n := 0) (Nat.le_of_ble_eq_true rfl) (Nat.le_of_ble_eq_true rfl) ?_
        exact ih22 (0, x28) _ _ _ (pw_up ex28 (by omega)) ⟨hP9, hS, hl9, ⟨by have := (pw_add1 ex28 (by omega)); omega, by have := (pw_add1 ex28 (by omega)); omega, by decide, by decide⟩, (fun q => ⟨mnI_n (by omega) hfr26 (by omega) (pw_add1 ex28 (by omega)) (by decide), by have := (pw_add1 ex28 (by omega)); have := (hmn q).2; omega⟩), (fun q => by decide)⟩
      · have nc27 : r26.toInt = (-1000000) := pw_eq c27 rfl (by decide)
        refine lv_iconst (v := 1) hx hb dX10_isMany_44 (by decide) ?_
        refine lv_goto (tgt := 49) hx hb dX10_isMany_45 (by decide) ?_
        refine lv_istore (lv' := [(5, .int 1), (0, .ref b), (1, .int i_e), (2, .int i_fr), (3, .int i_m), (4, .int i_but), (6, .int v21)]) hx hb dX10_isMany_49 hl (by decide) rfl (fun ls hl => ?_)
        obtain ⟨x29, ex29⟩ : ∃ y : Int32, y = v21 + 1 := ⟨_, rfl⟩
        have tx29 : x29.toInt = v21.toInt + 1 := pw_addX ex29 rfl (by decide) (by omega) (by omega)
        refine lv_iinc (v := x29) (lv' := [(6, .int x29), (5, .int 1), (0, .ref b), (1, .int i_e), (2, .int i_fr), (3, .int i_m), (4, .int i_but)]) hx hb dX10_isMany_51 hl (k := 6) rfl (by rw [ex29]; rfl) (by decide) rfl (fun ls hl => ?_)
        refine lv_goto (tgt := 17) hx hb dX10_isMany_54 (by decide) ?_
        have hP9 : va_P D vwCl [(b, .inl (kI, 192, .inl g_b))] H := hP.sub [0] rfl
        have hl9 : lv_has ls 7 [(0, .ref b), (1, .int i_e), (2, .int i_fr), (3, .int i_m), (4, .int i_but), (5, .int 1), (6, .int x29)] := lv_sub hl [2, 3, 4, 5, 6, 1, 0] rfl
        refine W.widen (k := 0) (n := 0) (Nat.le_of_ble_eq_true rfl) (Nat.le_of_ble_eq_true rfl) ?_
        exact ih22 (1, x29) _ _ _ (pw_up ex29 (by omega)) ⟨hP9, hS, hl9, ⟨by have := (pw_add1 ex29 (by omega)); omega, by have := (pw_add1 ex29 (by omega)); omega, by decide, by decide⟩, (fun q => ⟨mnI_y (hmn q).1 (by omega) hfr26 (by omega) (pw_add1 ex29 (by omega)) (by decide), by have := (pw_add1 ex29 (by omega)); have := (hmn q).2; omega⟩), (fun q => False.elim (by have := hm0 q; omega))⟩
def w_X10_greatest : List Cond := .code yX10_greatest cX10_greatest 3 (some .int) :: ([])
set_option maxHeartbeats 4000000 in
set_option maxRecDepth 100000 in
theorem c_X10_greatest (l : Launch) (D : va_G) (i_k : Int32) (i_m : Int32) (i_f : Int32) (h0i_f : 1 ≤ i_f.toInt) (h1i_f : i_f.toInt ≤ 999) (h0i_m : 1 ≤ i_m.toInt) (h1i_m : i_m.toInt ≤ 200) : Met l yX10_greatest w_X10_greatest ({ frames := 0, cells := 0, slots := 0, locals := 0 }) (va_Pc [.int i_k, .int i_m, .int i_f] (fun U => va_P D vwCl [] U.heap ∧ va_K D vwCl [] U)) (va_Qi (fun (r : Int32) (_ : Unit) => (i_k.toInt = 2 → r.toInt = i_f.toInt + (2 * i_m.toInt - 1)) ∧ (i_k.toInt = 3 → r.toInt = i_f.toInt + (i_m.toInt - 1) / 2) ∧ (i_k.toInt = 5 → r.toInt = i_f.toInt) ∧ (i_k.toInt ≠ 2 → i_k.toInt ≠ 3 → i_k.toInt ≠ 5 → r.toInt = i_f.toInt + (i_m.toInt - 1))) (fun _ _ => True) (fun _ => False)) 0 0 (fun _ => False) := by
  refine Met.ofW (cc := cX10_greatest) (maxL := 3) (ret := (some .int)) (by decide) rfl ?_
  intro p e s m args below meth c s₁ B hml hv
  obtain ⟨rfl, hP, hK⟩ := hv
  have hx := B.exec
  have hb := B.bytes
  have hr := B.returns
  have hts := atoms_spec (ws := w_X10_greatest) B.pre
  have hown : s.vm.findClass RX10 = some m.cls := findClass_of_methodNamed B.named
  have hlocks := B.notSynchronized
  have hS : va_S (fun _ : Nat => False) s.heap s.heap [] := va_S.rf
  have hP : va_P D vwCl [] s.heap := hP
  have hl := lv_entry ([.int i_k, .int i_m, .int i_f]) (n := 3) (Nat.le_of_ble_eq_true rfl)
  rw [lg_entry_eq]
  generalize (lg_sl ([.int i_k, .int i_m, .int i_f]) ++ List.replicate (3 - (lg_sl ([.int i_k, .int i_m, .int i_f])).length) Slot.unset).toArray = ls at hl ⊢
  have hl : lv_has ls 3 [(0, .int i_k), (1, .int i_m), (2, .int i_f)] := hl
  obtain ⟨H, hHe⟩ : ∃ H : Heap, H = s.heap := ⟨_, rfl⟩
  rw [← hHe] at hP
  have hS : va_S (fun _ : Nat => False) s.heap H [] := by rw [hHe]; exact hS
  refine pw_heap hHe ?_
  refine lv_iload_n hx hb dX10_greatest_0 rfl (lv_at hl 2 rfl) ?_
  refine lv_iload_n hx hb dX10_greatest_1 rfl (lv_at hl 0 rfl) ?_
  refine lv_iconst (v := 2) hx hb dX10_greatest_2 (by decide) ?_
  refine lv_icmp_ne (tgt := 14) hx hb dX10_greatest_3 (by decide) (fun c1 => ?_) (fun c1 => ?_)
  · have nc1 : i_k.toInt ≠ 2 := pw_ne c1 rfl (by decide)
    refine lv_iload_n hx hb dX10_greatest_14 rfl (lv_at hl 0 rfl) ?_
    refine lv_iconst (v := 3) hx hb dX10_greatest_15 (by decide) ?_
    refine lv_icmp_ne (tgt := 27) hx hb dX10_greatest_16 (by decide) (fun c2 => ?_) (fun c2 => ?_)
    · have nc2 : i_k.toInt ≠ 3 := pw_ne c2 rfl (by decide)
      refine lv_iload_n hx hb dX10_greatest_27 rfl (lv_at hl 0 rfl) ?_
      refine lv_iconst (v := 5) hx hb dX10_greatest_28 (by decide) ?_
      refine lv_icmp_ne (tgt := 36) hx hb dX10_greatest_29 (by decide) (fun c3 => ?_) (fun c3 => ?_)
      · have nc3 : i_k.toInt ≠ 5 := pw_ne c3 rfl (by decide)
        refine lv_iload_n hx hb dX10_greatest_36 rfl (lv_at hl 1 rfl) ?_
        refine lv_iconst (v := 1) hx hb dX10_greatest_37 (by decide) ?_
        refine lv_isub hx hb dX10_greatest_38 ?_
        refine lv_topi (fun x4 ex4 => ?_)
        have tx4 : x4.toInt = i_m.toInt - 1 := pw_subX ex4 rfl (by decide) (by omega) (by omega)
        refine lv_iadd hx hb dX10_greatest_39 ?_
        refine lv_topi (fun x5 ex5 => ?_)
        have tx5 : x5.toInt = i_f.toInt + x4.toInt := pw_addX ex5 rfl rfl (by omega) (by omega)
        exact W.iret (v := x5) hx hb hr (fun t ht hW => ⟨⟨x5, (), rfl, (by omega), trivial⟩, hS.F ht⟩) hS.2.2 dX10_greatest_40
      · have nc3 : i_k.toInt = 5 := pw_eq c3 rfl (by decide)
        refine lv_iconst (v := 0) hx hb dX10_greatest_32 (by decide) ?_
        refine lv_goto (tgt := 39) hx hb dX10_greatest_33 (by decide) ?_
        refine lv_iadd hx hb dX10_greatest_39 ?_
        refine lv_topi (fun x6 ex6 => ?_)
        have tx6 : x6.toInt = i_f.toInt + 0 := pw_addX ex6 rfl (by decide) (by omega) (by omega)
        exact W.iret (v := x6) hx hb hr (fun t ht hW => ⟨⟨x6, (), rfl, (by omega), trivial⟩, hS.F ht⟩) hS.2.2 dX10_greatest_40
    · have nc2 : i_k.toInt = 3 := pw_eq c2 rfl (by decide)
      refine lv_iload_n hx hb dX10_greatest_19 rfl (lv_at hl 1 rfl) ?_
      refine lv_iconst (v := 1) hx hb dX10_greatest_20 (by decide) ?_
      refine lv_isub hx hb dX10_greatest_21 ?_
      refine lv_topi (fun x7 ex7 => ?_)
      have tx7 : x7.toInt = i_m.toInt - 1 := pw_subX ex7 rfl (by decide) (by omega) (by omega)
      refine lv_iconst (v := 2) hx hb dX10_greatest_22 (by decide) ?_
      refine lv_idiv hx hb dX10_greatest_23 (by decide) ?_
      refine lv_topi (fun x8 ex8 => ?_)
      have ux8 := pw_half2 ex8 (by omega)
      have tx8 : 0 ≤ x8.toInt ∧ 2 * x8.toInt ≤ x7.toInt := pw_half ex8 (by omega)
      refine lv_goto (tgt := 39) hx hb dX10_greatest_24 (by decide) ?_
      refine lv_iadd hx hb dX10_greatest_39 ?_
      refine lv_topi (fun x9 ex9 => ?_)
      have tx9 : x9.toInt = i_f.toInt + x8.toInt := pw_addX ex9 rfl rfl (by omega) (by omega)
      exact W.iret (v := x9) hx hb hr (fun t ht hW => ⟨⟨x9, (), rfl, (by omega), trivial⟩, hS.F ht⟩) hS.2.2 dX10_greatest_40
  · have nc1 : i_k.toInt = 2 := pw_eq c1 rfl (by decide)
    refine lv_iconst (v := 2) hx hb dX10_greatest_6 (by decide) ?_
    refine lv_iload_n hx hb dX10_greatest_7 rfl (lv_at hl 1 rfl) ?_
    refine lv_imul hx hb dX10_greatest_8 ?_
    refine lv_topi (fun x10 ex10 => ?_)
    have tx10 : x10.toInt = 2 * i_m.toInt := pw_mulX ex10 (by decide) rfl (by omega) (by omega)
    refine lv_iconst (v := 1) hx hb dX10_greatest_9 (by decide) ?_
    refine lv_isub hx hb dX10_greatest_10 ?_
    refine lv_topi (fun x11 ex11 => ?_)
    have tx11 : x11.toInt = x10.toInt - 1 := pw_subX ex11 rfl (by decide) (by omega) (by omega)
    refine lv_goto (tgt := 39) hx hb dX10_greatest_11 (by decide) ?_
    refine lv_iadd hx hb dX10_greatest_39 ?_
    refine lv_topi (fun x12 ex12 => ?_)
    have tx12 : x12.toInt = i_f.toInt + x11.toInt := pw_addX ex12 rfl rfl (by omega) (by omega)
    exact W.iret (v := x12) hx hb hr (fun t ht hW => ⟨⟨x12, (), rfl, (by omega), trivial⟩, hS.F ht⟩) hS.2.2 dX10_greatest_40
def w_X10_isFirst : List Cond := .code yX10_isFirst cX10_isFirst 3 (some .boolean) :: ([.methodLink RX10 145 yX10_isNumber, .static yX10_isNumber, .initialized RX10, .code yX10_isNumber cX10_isNumber 1 (some .boolean), .constantLong RX10 59 (999), .methodLink RX10 51 yX10_in0, .static yX10_in0, .code yX10_in0 cX10_in0 6 (some .boolean), .methodLink RX10 148 yX10_greatest, .static yX10_greatest, .code yX10_greatest cX10_greatest 3 (some .int)])
set_option maxRecDepth 20000 in
theorem g_X10_isFirst_X10_isNumber : GoodIn w_X10_isFirst (wsS RX10 145 yX10_isNumber w_X10_isNumber) := goodIn_r _ [1, 2, 3, 4, 5, 6, 7, 3, 8] rfl (by decide +kernel)
set_option maxRecDepth 20000 in
theorem g_X10_isFirst_X10_greatest : GoodIn w_X10_isFirst (wsS RX10 148 yX10_greatest w_X10_greatest) := goodIn_r _ [9, 10, 3, 11] rfl (by decide +kernel)
set_option maxHeartbeats 4000000 in
set_option maxRecDepth 100000 in
theorem c_X10_isFirst (l : Launch) (D : va_G) (i_k : Int32) (i_m : Int32) (i_f : Int32) (h0i_m : 1 ≤ i_m.toInt) (h1i_m : i_m.toInt ≤ 200) : Met l yX10_isFirst w_X10_isFirst ({ frames := 2, cells := 0, slots := 0, locals := 45 }) (va_Pc [.int i_k, .int i_m, .int i_f] (fun U => va_P D vwCl [] U.heap ∧ va_K D vwCl [] U)) (va_Qi (fun (r : Int32) (_ : Unit) => (r = 0 ∨ r = 1) ∧ ((r.toInt = 1 ∧ (1 ≤ i_f.toInt ∧ i_f.toInt ≤ 999 ∧ (i_k.toInt = 2 → i_f.toInt + (2 * i_m.toInt - 1) ≤ 999) ∧ (i_k.toInt = 3 → i_f.toInt + (i_m.toInt - 1) / 2 ≤ 999) ∧ (i_k.toInt ≠ 2 → i_k.toInt ≠ 3 → i_k.toInt ≠ 5 → i_f.toInt + (i_m.toInt - 1) ≤ 999))) ∨ (r.toInt = 0 ∧ ¬ (1 ≤ i_f.toInt ∧ i_f.toInt ≤ 999 ∧ (i_k.toInt = 2 → i_f.toInt + (2 * i_m.toInt - 1) ≤ 999) ∧ (i_k.toInt = 3 → i_f.toInt + (i_m.toInt - 1) / 2 ≤ 999) ∧ (i_k.toInt ≠ 2 → i_k.toInt ≠ 3 → i_k.toInt ≠ 5 → i_f.toInt + (i_m.toInt - 1) ≤ 999))))) (fun _ _ => True) (fun _ => False)) 0 0 (fun _ => False) := by
  refine Met.ofW (cc := cX10_isFirst) (maxL := 3) (ret := (some .boolean)) (by decide) rfl ?_
  intro p e s m args below meth c s₁ B hml hv
  obtain ⟨rfl, hP, hK⟩ := hv
  have hx := B.exec
  have hb := B.bytes
  have hr := B.returns
  have hts := atoms_spec (ws := w_X10_isFirst) B.pre
  have hown : s.vm.findClass RX10 = some m.cls := findClass_of_methodNamed B.named
  have hlocks := B.notSynchronized
  have hS : va_S (fun _ : Nat => False) s.heap s.heap [] := va_S.rf
  have hP : va_P D vwCl [] s.heap := hP
  have hl := lv_entry ([.int i_k, .int i_m, .int i_f]) (n := 3) (Nat.le_of_ble_eq_true rfl)
  rw [lg_entry_eq]
  generalize (lg_sl ([.int i_k, .int i_m, .int i_f]) ++ List.replicate (3 - (lg_sl ([.int i_k, .int i_m, .int i_f])).length) Slot.unset).toArray = ls at hl ⊢
  have hl : lv_has ls 3 [(0, .int i_k), (1, .int i_m), (2, .int i_f)] := hl
  obtain ⟨H, hHe⟩ : ∃ H : Heap, H = s.heap := ⟨_, rfl⟩
  rw [← hHe] at hP
  have hS : va_S (fun _ : Nat => False) s.heap H [] := by rw [hHe]; exact hS
  refine pw_heap hHe ?_
  refine lv_iload_n hx hb dX10_isFirst_0 rfl (lv_at hl 2 rfl) ?_
  have hPc := hP.sub (ws' := []) [] rfl
  have hKc := hK.sub (tys' := []) [] rfl
  refine va_calli (va_runS (As := [.int i_f]) (rest := []) ⟨hx, hb, hml, hown, hts⟩ (c_X10_isNumber l D i_f) (cwS 1 hts g_X10_isFirst_X10_isNumber rfl rfl rfl (by decide +kernel) ⟨Nat.le_of_ble_eq_true rfl, Nat.le_of_ble_eq_true rfl⟩) ⟨fun a U g mk q => by obtain ⟨q0, qP, qK⟩ := q; exact ⟨q0, qP, va_K.moved (u := U) (U := U.calling g mk a) (Vm.Alike.refl U.vm) qK⟩, fun U hU hW => ⟨rfl, by rw [hU]; exact hPc, va_K.moved hW.alike hKc⟩⟩ rfl rfl hl.1 rfl (lv_room (Nat.le_of_ble_eq_true rfl)) dX10_isFirst_1 ⟨Nat.le_of_ble_eq_true rfl, Nat.le_of_ble_eq_true rfl⟩) hS (fun _ _ h => h.elim) (fun _ h => h.elim) (fun r1 u t H1 locs ht hvm hw hB hz1 hk1 hS => ?_)
  have hP := pw_keep hP (fun q hq => hk1 q hq (fun h => h))
  generalize H1 = H at hP hS ⊢
  refine W.widen (k := 0) (n := 0) (Nat.le_of_ble_eq_true rfl) (Nat.le_of_ble_eq_true rfl) ?_
  have bor1 := hw.1
  have zor1 := pw_boolI bor1
  have hfr1 := hw.2
  refine lv_if_eq (tgt := 23) hx hb dX10_isFirst_4 (by decide) (fun c2 => ?_) (fun c2 => ?_)
  · have nc2 : r1.toInt = 0 := pw_eq c2 rfl (by decide)
    refine lv_iconst (v := 0) hx hb dX10_isFirst_23 (by decide) ?_
    exact W.zret (v := 0) (ty := .boolean) hx hb hr rfl (fun t ht hW => ⟨⟨0, (), rfl, ⟨Or.inl rfl, (by have hv : (0 : Int32).toInt = 0 := (by decide); omega)⟩, trivial⟩, hS.F ht⟩) hS.2.2 dX10_isFirst_24
  · have nc2 : r1.toInt ≠ 0 := pw_ne c2 rfl (by decide)
    refine lv_iload_n hx hb dX10_isFirst_7 rfl (lv_at hl 0 rfl) ?_
    refine lv_iload_n hx hb dX10_isFirst_8 rfl (lv_at hl 1 rfl) ?_
    refine lv_iload_n hx hb dX10_isFirst_9 rfl (lv_at hl 2 rfl) ?_
    have hPc := hP.sub (ws' := []) [] rfl
    have hKc := hK.sub (tys' := []) [] rfl
    refine va_calli (va_runS (As := [.int i_k, .int i_m, .int i_f]) (rest := []) ⟨hx, hb, hml, hown, hts⟩ (c_X10_greatest l D i_k i_m i_f (by first | decide | omega) (by first | decide | omega) (by first | decide | omega) (by first | decide | omega)) (cwS 3 hts g_X10_isFirst_X10_greatest rfl rfl rfl (by decide +kernel) ⟨Nat.le_of_ble_eq_true rfl, Nat.le_of_ble_eq_true rfl⟩) ⟨fun a U g mk q => by obtain ⟨q0, qP, qK⟩ := q; exact ⟨q0, qP, va_K.moved (u := U) (U := U.calling g mk a) (Vm.Alike.refl U.vm) qK⟩, fun U hU hW => ⟨rfl, by rw [hU]; exact hPc, va_K.moved hW.alike hKc⟩⟩ rfl rfl hl.1 rfl (lv_room (Nat.le_of_ble_eq_true rfl)) dX10_isFirst_10 ⟨Nat.le_of_ble_eq_true rfl, Nat.le_of_ble_eq_true rfl⟩) hS (fun _ _ h => h.elim) (fun _ h => h.elim) (fun r3 u t H1 locs ht hvm hw hB hz1 hk1 hS => ?_)
    have hP := pw_keep hP (fun q hq => hk1 q hq (fun h => h))
    generalize H1 = H at hP hS ⊢
    refine W.widen (k := 0) (n := 0) (Nat.le_of_ble_eq_true rfl) (Nat.le_of_ble_eq_true rfl) ?_
    have hfr3 := hw
    refine lv_sipush (v := 999) hx hb dX10_isFirst_13 (by decide) ?_
    refine lv_icmp_gt (tgt := 23) hx hb dX10_isFirst_16 (by decide) (fun c4 => ?_) (fun c4 => ?_)
    · have nc4 : 999 < r3.toInt := pw_lt c4 (by decide) rfl
      refine lv_iconst (v := 0) hx hb dX10_isFirst_23 (by decide) ?_
      exact W.zret (v := 0) (ty := .boolean) hx hb hr rfl (fun t ht hW => ⟨⟨0, (), rfl, ⟨Or.inl rfl, (by have hv : (0 : Int32).toInt = 0 := (by decide); omega)⟩, trivial⟩, hS.F ht⟩) hS.2.2 dX10_isFirst_24
    · have nc4 : r3.toInt ≤ 999 := pw_nlt c4 (by decide) rfl
      refine lv_iconst (v := 1) hx hb dX10_isFirst_19 (by decide) ?_
      refine lv_goto (tgt := 24) hx hb dX10_isFirst_20 (by decide) ?_
      exact W.zret (v := 1) (ty := .boolean) hx hb hr rfl (fun t ht hW => ⟨⟨1, (), rfl, ⟨Or.inr rfl, (by have hv : (1 : Int32).toInt = 1 := (by decide); omega)⟩, trivial⟩, hS.F ht⟩) hS.2.2 dX10_isFirst_24
