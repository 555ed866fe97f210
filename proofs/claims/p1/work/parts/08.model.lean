theorem dX10_in0_0 : decode cX10_in0 0 = .ok (.lload_n 0, 1) := by decide +kernel
theorem dX10_in0_1 : decode cX10_in0 1 = .ok (.lload_n 2, 1) := by decide +kernel
theorem dX10_in0_2 : decode cX10_in0 2 = .ok (.lcmp, 1) := by decide +kernel
theorem dX10_in0_3 : decode cX10_in0 3 = .ok (.ifCond .lt 14, 3) := by decide +kernel
theorem dX10_in0_6 : decode cX10_in0 6 = .ok (.lload_n 0, 1) := by decide +kernel
theorem dX10_in0_7 : decode cX10_in0 7 = .ok (.lload 4, 2) := by decide +kernel
theorem dX10_in0_9 : decode cX10_in0 9 = .ok (.lcmp, 1) := by decide +kernel
theorem dX10_in0_10 : decode cX10_in0 10 = .ok (.ifCond .gt 7, 3) := by decide +kernel
theorem dX10_in0_13 : decode cX10_in0 13 = .ok (.iconst 1, 1) := by decide +kernel
theorem dX10_in0_14 : decode cX10_in0 14 = .ok (.goto 4, 3) := by decide +kernel
theorem dX10_in0_17 : decode cX10_in0 17 = .ok (.iconst 0, 1) := by decide +kernel
theorem dX10_in0_18 : decode cX10_in0 18 = .ok (.ireturn, 1) := by decide +kernel
theorem dX10_isWork_0 : decode cX10_isWork 0 = .ok (.aload_n 0, 1) := by decide +kernel
theorem dX10_isWork_1 : decode cX10_isWork 1 = .ok (.getfield 7, 3) := by decide +kernel
theorem dX10_isWork_4 : decode cX10_isWork 4 = .ok (.iconst 0, 1) := by decide +kernel
theorem dX10_isWork_5 : decode cX10_isWork 5 = .ok (.iaload, 1) := by decide +kernel
theorem dX10_isWork_6 : decode cX10_isWork 6 = .ok (.ifCond .le 7, 3) := by decide +kernel
theorem dX10_isWork_9 : decode cX10_isWork 9 = .ok (.iconst 1, 1) := by decide +kernel
theorem dX10_isWork_10 : decode cX10_isWork 10 = .ok (.goto 4, 3) := by decide +kernel
theorem dX10_isWork_13 : decode cX10_isWork 13 = .ok (.iconst 0, 1) := by decide +kernel
theorem dX10_isWork_14 : decode cX10_isWork 14 = .ok (.ireturn, 1) := by decide +kernel
theorem dX10_isEdition_0 : decode cX10_isEdition 0 = .ok (.aload_n 0, 1) := by decide +kernel
theorem dX10_isEdition_1 : decode cX10_isEdition 1 = .ok (.invokevirtual 47, 3) := by decide +kernel
theorem dX10_isEdition_4 : decode cX10_isEdition 4 = .ok (.ifCond .eq 25, 3) := by decide +kernel
theorem dX10_isEdition_7 : decode cX10_isEdition 7 = .ok (.iload_n 1, 1) := by decide +kernel
theorem dX10_isEdition_8 : decode cX10_isEdition 8 = .ok (.i2l, 1) := by decide +kernel
theorem dX10_isEdition_9 : decode cX10_isEdition 9 = .ok (.lconst 0, 1) := by decide +kernel
theorem dX10_isEdition_10 : decode cX10_isEdition 10 = .ok (.aload_n 0, 1) := by decide +kernel
theorem dX10_isEdition_11 : decode cX10_isEdition 11 = .ok (.getfield 7, 3) := by decide +kernel
theorem dX10_isEdition_14 : decode cX10_isEdition 14 = .ok (.iconst 1, 1) := by decide +kernel
theorem dX10_isEdition_15 : decode cX10_isEdition 15 = .ok (.iaload, 1) := by decide +kernel
theorem dX10_isEdition_16 : decode cX10_isEdition 16 = .ok (.iconst 1, 1) := by decide +kernel
theorem dX10_isEdition_17 : decode cX10_isEdition 17 = .ok (.isub, 1) := by decide +kernel
theorem dX10_isEdition_18 : decode cX10_isEdition 18 = .ok (.i2l, 1) := by decide +kernel
theorem dX10_isEdition_19 : decode cX10_isEdition 19 = .ok (.invokestatic 51, 3) := by decide +kernel
theorem dX10_isEdition_22 : decode cX10_isEdition 22 = .ok (.ifCond .eq 7, 3) := by decide +kernel
theorem dX10_isEdition_25 : decode cX10_isEdition 25 = .ok (.iconst 1, 1) := by decide +kernel
theorem dX10_isEdition_26 : decode cX10_isEdition 26 = .ok (.goto 4, 3) := by decide +kernel
theorem dX10_isEdition_29 : decode cX10_isEdition 29 = .ok (.iconst 0, 1) := by decide +kernel
theorem dX10_isEdition_30 : decode cX10_isEdition 30 = .ok (.ireturn, 1) := by decide +kernel
theorem dX10_isStretch_0 : decode cX10_isStretch 0 = .ok (.aload_n 0, 1) := by decide +kernel
theorem dX10_isStretch_1 : decode cX10_isStretch 1 = .ok (.iload_n 1, 1) := by decide +kernel
theorem dX10_isStretch_2 : decode cX10_isStretch 2 = .ok (.invokevirtual 55, 3) := by decide +kernel
theorem dX10_isStretch_5 : decode cX10_isStretch 5 = .ok (.ifCond .eq 27, 3) := by decide +kernel
theorem dX10_isStretch_8 : decode cX10_isStretch 8 = .ok (.iload_n 2, 1) := by decide +kernel
theorem dX10_isStretch_9 : decode cX10_isStretch 9 = .ok (.i2l, 1) := by decide +kernel
theorem dX10_isStretch_10 : decode cX10_isStretch 10 = .ok (.lconst 0, 1) := by decide +kernel
theorem dX10_isStretch_11 : decode cX10_isStretch 11 = .ok (.aload_n 0, 1) := by decide +kernel
theorem dX10_isStretch_12 : decode cX10_isStretch 12 = .ok (.getfield 7, 3) := by decide +kernel
theorem dX10_isStretch_15 : decode cX10_isStretch 15 = .ok (.iconst 3, 1) := by decide +kernel
theorem dX10_isStretch_16 : decode cX10_isStretch 16 = .ok (.iload_n 1, 1) := by decide +kernel
theorem dX10_isStretch_17 : decode cX10_isStretch 17 = .ok (.iadd, 1) := by decide +kernel
theorem dX10_isStretch_18 : decode cX10_isStretch 18 = .ok (.iaload, 1) := by decide +kernel
theorem dX10_isStretch_19 : decode cX10_isStretch 19 = .ok (.iconst 1, 1) := by decide +kernel
theorem dX10_isStretch_20 : decode cX10_isStretch 20 = .ok (.isub, 1) := by decide +kernel
theorem dX10_isStretch_21 : decode cX10_isStretch 21 = .ok (.i2l, 1) := by decide +kernel
theorem dX10_isStretch_22 : decode cX10_isStretch 22 = .ok (.invokestatic 51, 3) := by decide +kernel
theorem dX10_isStretch_25 : decode cX10_isStretch 25 = .ok (.ifCond .eq 7, 3) := by decide +kernel
theorem dX10_isStretch_28 : decode cX10_isStretch 28 = .ok (.iconst 1, 1) := by decide +kernel
theorem dX10_isStretch_29 : decode cX10_isStretch 29 = .ok (.goto 4, 3) := by decide +kernel
theorem dX10_isStretch_32 : decode cX10_isStretch 32 = .ok (.iconst 0, 1) := by decide +kernel
theorem dX10_isStretch_33 : decode cX10_isStretch 33 = .ok (.ireturn, 1) := by decide +kernel
theorem dX10_isLine_0 : decode cX10_isLine 0 = .ok (.iload_n 1, 1) := by decide +kernel
theorem dX10_isLine_1 : decode cX10_isLine 1 = .ok (.i2l, 1) := by decide +kernel
theorem dX10_isLine_2 : decode cX10_isLine 2 = .ok (.lconst 0, 1) := by decide +kernel
theorem dX10_isLine_3 : decode cX10_isLine 3 = .ok (.aload_n 0, 1) := by decide +kernel
theorem dX10_isLine_4 : decode cX10_isLine 4 = .ok (.getfield 7, 3) := by decide +kernel
theorem dX10_isLine_7 : decode cX10_isLine 7 = .ok (.iconst 0, 1) := by decide +kernel
theorem dX10_isLine_8 : decode cX10_isLine 8 = .ok (.iaload, 1) := by decide +kernel
theorem dX10_isLine_9 : decode cX10_isLine 9 = .ok (.iconst 1, 1) := by decide +kernel
theorem dX10_isLine_10 : decode cX10_isLine 10 = .ok (.isub, 1) := by decide +kernel
theorem dX10_isLine_11 : decode cX10_isLine 11 = .ok (.i2l, 1) := by decide +kernel
theorem dX10_isLine_12 : decode cX10_isLine 12 = .ok (.invokestatic 51, 3) := by decide +kernel
theorem dX10_isLine_15 : decode cX10_isLine 15 = .ok (.ireturn, 1) := by decide +kernel
theorem dX10_isNumber_0 : decode cX10_isNumber 0 = .ok (.iload_n 0, 1) := by decide +kernel
theorem dX10_isNumber_1 : decode cX10_isNumber 1 = .ok (.i2l, 1) := by decide +kernel
theorem dX10_isNumber_2 : decode cX10_isNumber 2 = .ok (.lconst 1, 1) := by decide +kernel
theorem dX10_isNumber_3 : decode cX10_isNumber 3 = .ok (.ldc2_w 59, 3) := by decide +kernel
theorem dX10_isNumber_6 : decode cX10_isNumber 6 = .ok (.invokestatic 51, 3) := by decide +kernel
theorem dX10_isNumber_9 : decode cX10_isNumber 9 = .ok (.ireturn, 1) := by decide +kernel
theorem dX10_cited_0 : decode cX10_cited 0 = .ok (.aload_n 0, 1) := by decide +kernel
theorem dX10_cited_1 : decode cX10_cited 1 = .ok (.getfield 7, 3) := by decide +kernel
theorem dX10_cited_4 : decode cX10_cited 4 = .ok (.sipush 128, 3) := by decide +kernel
theorem dX10_cited_7 : decode cX10_cited 7 = .ok (.iconst 5, 1) := by decide +kernel
theorem dX10_cited_8 : decode cX10_cited 8 = .ok (.iload_n 1, 1) := by decide +kernel
theorem dX10_cited_9 : decode cX10_cited 9 = .ok (.imul, 1) := by decide +kernel
theorem dX10_cited_10 : decode cX10_cited 10 = .ok (.iadd, 1) := by decide +kernel
theorem dX10_cited_11 : decode cX10_cited 11 = .ok (.iload_n 2, 1) := by decide +kernel
theorem dX10_cited_12 : decode cX10_cited 12 = .ok (.iadd, 1) := by decide +kernel
theorem dX10_cited_13 : decode cX10_cited 13 = .ok (.iaload, 1) := by decide +kernel
theorem dX10_cited_14 : decode cX10_cited 14 = .ok (.ireturn, 1) := by decide +kernel
theorem dX10_isCitation_0 : decode cX10_isCitation 0 = .ok (.iload_n 1, 1) := by decide +kernel
theorem dX10_isCitation_1 : decode cX10_isCitation 1 = .ok (.i2l, 1) := by decide +kernel
theorem dX10_isCitation_2 : decode cX10_isCitation 2 = .ok (.lconst 0, 1) := by decide +kernel
theorem dX10_isCitation_3 : decode cX10_isCitation 3 = .ok (.ldc2_w 213, 3) := by decide +kernel
theorem dX10_isCitation_6 : decode cX10_isCitation 6 = .ok (.invokestatic 51, 3) := by decide +kernel
theorem dX10_isCitation_9 : decode cX10_isCitation 9 = .ok (.ifCond .eq 17, 3) := by decide +kernel
theorem dX10_isCitation_12 : decode cX10_isCitation 12 = .ok (.aload_n 0, 1) := by decide +kernel
theorem dX10_isCitation_13 : decode cX10_isCitation 13 = .ok (.iload_n 1, 1) := by decide +kernel
theorem dX10_isCitation_14 : decode cX10_isCitation 14 = .ok (.iconst 0, 1) := by decide +kernel
theorem dX10_isCitation_15 : decode cX10_isCitation 15 = .ok (.invokevirtual 215, 3) := by decide +kernel
theorem dX10_isCitation_18 : decode cX10_isCitation 18 = .ok (.iconst 1, 1) := by decide +kernel
theorem dX10_isCitation_19 : decode cX10_isCitation 19 = .ok (.if_icmp .ne 7, 3) := by decide +kernel
theorem dX10_isCitation_22 : decode cX10_isCitation 22 = .ok (.iconst 1, 1) := by decide +kernel
theorem dX10_isCitation_23 : decode cX10_isCitation 23 = .ok (.goto 4, 3) := by decide +kernel
theorem dX10_isCitation_26 : decode cX10_isCitation 26 = .ok (.iconst 0, 1) := by decide +kernel
theorem dX10_isCitation_27 : decode cX10_isCitation 27 = .ok (.ireturn, 1) := by decide +kernel
theorem dX10_citations_0 : decode cX10_citations 0 = .ok (.iconst 0, 1) := by decide +kernel
theorem dX10_citations_1 : decode cX10_citations 1 = .ok (.istore_n 1, 1) := by decide +kernel
theorem dX10_citations_2 : decode cX10_citations 2 = .ok (.iconst 0, 1) := by decide +kernel
theorem dX10_citations_3 : decode cX10_citations 3 = .ok (.istore_n 2, 1) := by decide +kernel
theorem dX10_citations_4 : decode cX10_citations 4 = .ok (.iload_n 2, 1) := by decide +kernel
theorem dX10_citations_5 : decode cX10_citations 5 = .ok (.bipush 8, 2) := by decide +kernel
theorem dX10_citations_7 : decode cX10_citations 7 = .ok (.if_icmp .ge 18, 3) := by decide +kernel
theorem dX10_citations_10 : decode cX10_citations 10 = .ok (.iload_n 1, 1) := by decide +kernel
theorem dX10_citations_11 : decode cX10_citations 11 = .ok (.aload_n 0, 1) := by decide +kernel
theorem dX10_citations_12 : decode cX10_citations 12 = .ok (.iload_n 2, 1) := by decide +kernel
theorem dX10_citations_13 : decode cX10_citations 13 = .ok (.iconst 0, 1) := by decide +kernel
theorem dX10_citations_14 : decode cX10_citations 14 = .ok (.invokevirtual 215, 3) := by decide +kernel
theorem dX10_citations_17 : decode cX10_citations 17 = .ok (.iadd, 1) := by decide +kernel
theorem dX10_citations_18 : decode cX10_citations 18 = .ok (.istore_n 1, 1) := by decide +kernel
theorem dX10_citations_19 : decode cX10_citations 19 = .ok (.iinc 2 1, 3) := by decide +kernel
theorem dX10_citations_22 : decode cX10_citations 22 = .ok (.goto (-18), 3) := by decide +kernel
theorem dX10_citations_25 : decode cX10_citations 25 = .ok (.iload_n 1, 1) := by decide +kernel
theorem dX10_citations_26 : decode cX10_citations 26 = .ok (.ireturn, 1) := by decide +kernel
theorem dX10_allStretches_0 : decode cX10_allStretches 0 = .ok (.iconst 0, 1) := by decide +kernel
theorem dX10_allStretches_1 : decode cX10_allStretches 1 = .ok (.istore_n 1, 1) := by decide +kernel
theorem dX10_allStretches_2 : decode cX10_allStretches 2 = .ok (.iconst 0, 1) := by decide +kernel
theorem dX10_allStretches_3 : decode cX10_allStretches 3 = .ok (.istore_n 2, 1) := by decide +kernel
theorem dX10_allStretches_4 : decode cX10_allStretches 4 = .ok (.iload_n 2, 1) := by decide +kernel
theorem dX10_allStretches_5 : decode cX10_allStretches 5 = .ok (.aload_n 0, 1) := by decide +kernel
theorem dX10_allStretches_6 : decode cX10_allStretches 6 = .ok (.getfield 7, 3) := by decide +kernel
theorem dX10_allStretches_9 : decode cX10_allStretches 9 = .ok (.iconst 1, 1) := by decide +kernel
theorem dX10_allStretches_10 : decode cX10_allStretches 10 = .ok (.iaload, 1) := by decide +kernel
theorem dX10_allStretches_11 : decode cX10_allStretches 11 = .ok (.if_icmp .ge 20, 3) := by decide +kernel
theorem dX10_allStretches_14 : decode cX10_allStretches 14 = .ok (.iload_n 1, 1) := by decide +kernel
theorem dX10_allStretches_15 : decode cX10_allStretches 15 = .ok (.aload_n 0, 1) := by decide +kernel
theorem dX10_allStretches_16 : decode cX10_allStretches 16 = .ok (.getfield 7, 3) := by decide +kernel
theorem dX10_allStretches_19 : decode cX10_allStretches 19 = .ok (.iconst 3, 1) := by decide +kernel
theorem dX10_allStretches_20 : decode cX10_allStretches 20 = .ok (.iload_n 2, 1) := by decide +kernel
theorem dX10_allStretches_21 : decode cX10_allStretches 21 = .ok (.iadd, 1) := by decide +kernel
theorem dX10_allStretches_22 : decode cX10_allStretches 22 = .ok (.iaload, 1) := by decide +kernel
theorem dX10_allStretches_23 : decode cX10_allStretches 23 = .ok (.iadd, 1) := by decide +kernel
theorem dX10_allStretches_24 : decode cX10_allStretches 24 = .ok (.istore_n 1, 1) := by decide +kernel
theorem dX10_allStretches_25 : decode cX10_allStretches 25 = .ok (.iinc 2 1, 3) := by decide +kernel
theorem dX10_allStretches_28 : decode cX10_allStretches 28 = .ok (.goto (-24), 3) := by decide +kernel
theorem dX10_allStretches_31 : decode cX10_allStretches 31 = .ok (.iload_n 1, 1) := by decide +kernel
theorem dX10_allStretches_32 : decode cX10_allStretches 32 = .ok (.ireturn, 1) := by decide +kernel
theorem dX10_fault_0 : decode cX10_fault 0 = .ok (.aload_n 0, 1) := by decide +kernel
theorem dX10_fault_1 : decode cX10_fault 1 = .ok (.getfield 187, 3) := by decide +kernel
theorem dX10_fault_4 : decode cX10_fault 4 = .ok (.ireturn, 1) := by decide +kernel
theorem dX10_undo_0 : decode cX10_undo 0 = .ok (.aload_n 0, 1) := by decide +kernel
theorem dX10_undo_1 : decode cX10_undo 1 = .ok (.getfield 195, 3) := by decide +kernel
theorem dX10_undo_4 : decode cX10_undo 4 = .ok (.ifCond .ne 6, 3) := by decide +kernel
theorem dX10_undo_7 : decode cX10_undo 7 = .ok (.ldc 198, 2) := by decide +kernel
theorem dX10_undo_9 : decode cX10_undo 9 = .ok (.ireturn, 1) := by decide +kernel
theorem dX10_undo_10 : decode cX10_undo 10 = .ok (.aload_n 0, 1) := by decide +kernel
theorem dX10_undo_11 : decode cX10_undo 11 = .ok (.dup, 1) := by decide +kernel
theorem dX10_undo_12 : decode cX10_undo 12 = .ok (.getfield 195, 3) := by decide +kernel
theorem dX10_undo_15 : decode cX10_undo 15 = .ok (.iconst 1, 1) := by decide +kernel
theorem dX10_undo_16 : decode cX10_undo 16 = .ok (.isub, 1) := by decide +kernel
theorem dX10_undo_17 : decode cX10_undo 17 = .ok (.putfield 195, 3) := by decide +kernel
theorem dX10_undo_20 : decode cX10_undo 20 = .ok (.aload_n 0, 1) := by decide +kernel
theorem dX10_undo_21 : decode cX10_undo 21 = .ok (.getfield 16, 3) := by decide +kernel
theorem dX10_undo_24 : decode cX10_undo 24 = .ok (.sipush 192, 3) := by decide +kernel
theorem dX10_undo_27 : decode cX10_undo 27 = .ok (.aload_n 0, 1) := by decide +kernel
theorem dX10_undo_28 : decode cX10_undo 28 = .ok (.getfield 195, 3) := by decide +kernel
theorem dX10_undo_31 : decode cX10_undo 31 = .ok (.imul, 1) := by decide +kernel
theorem dX10_undo_32 : decode cX10_undo 32 = .ok (.aload_n 0, 1) := by decide +kernel
theorem dX10_undo_33 : decode cX10_undo 33 = .ok (.getfield 7, 3) := by decide +kernel
theorem dX10_undo_36 : decode cX10_undo 36 = .ok (.iconst 0, 1) := by decide +kernel
theorem dX10_undo_37 : decode cX10_undo 37 = .ok (.invokestatic 191, 3) := by decide +kernel
theorem dX10_undo_40 : decode cX10_undo 40 = .ok (.aload_n 0, 1) := by decide +kernel
theorem dX10_undo_41 : decode cX10_undo 41 = .ok (.getfield 195, 3) := by decide +kernel
theorem dX10_undo_44 : decode cX10_undo 44 = .ok (.ireturn, 1) := by decide +kernel
theorem dX10_add_0 : decode cX10_add 0 = .ok (.aload_n 0, 1) := by decide +kernel
theorem dX10_add_1 : decode cX10_add 1 = .ok (.iload_n 1, 1) := by decide +kernel
theorem dX10_add_2 : decode cX10_add 2 = .ok (.invokevirtual 55, 3) := by decide +kernel
theorem dX10_add_5 : decode cX10_add 5 = .ok (.ifCond .eq 19, 3) := by decide +kernel
theorem dX10_add_8 : decode cX10_add 8 = .ok (.aload_n 0, 1) := by decide +kernel
theorem dX10_add_9 : decode cX10_add 9 = .ok (.iload_n 1, 1) := by decide +kernel
theorem dX10_add_10 : decode cX10_add 10 = .ok (.iload_n 2, 1) := by decide +kernel
theorem dX10_add_11 : decode cX10_add 11 = .ok (.iload_n 3, 1) := by decide +kernel
theorem dX10_add_12 : decode cX10_add 12 = .ok (.iload 4, 2) := by decide +kernel
theorem dX10_add_14 : decode cX10_add 14 = .ok (.iload 5, 2) := by decide +kernel
theorem dX10_add_16 : decode cX10_add 16 = .ok (.ldc 61, 2) := by decide +kernel
theorem dX10_add_18 : decode cX10_add 18 = .ok (.invokevirtual 201, 3) := by decide +kernel
theorem dX10_add_21 : decode cX10_add 21 = .ok (.ifCond .ne 6, 3) := by decide +kernel
theorem dX10_add_24 : decode cX10_add 24 = .ok (.ldc 177, 2) := by decide +kernel
theorem dX10_add_26 : decode cX10_add 26 = .ok (.ireturn, 1) := by decide +kernel
theorem dX10_add_27 : decode cX10_add 27 = .ok (.aload_n 0, 1) := by decide +kernel
theorem dX10_add_28 : decode cX10_add 28 = .ok (.getfield 7, 3) := by decide +kernel
theorem dX10_add_31 : decode cX10_add 31 = .ok (.iconst 3, 1) := by decide +kernel
theorem dX10_add_32 : decode cX10_add 32 = .ok (.iload_n 1, 1) := by decide +kernel
theorem dX10_add_33 : decode cX10_add 33 = .ok (.iadd, 1) := by decide +kernel
theorem dX10_add_34 : decode cX10_add 34 = .ok (.iaload, 1) := by decide +kernel
theorem dX10_add_35 : decode cX10_add 35 = .ok (.bipush 6, 2) := by decide +kernel
theorem dX10_add_37 : decode cX10_add 37 = .ok (.if_icmp .ne 6, 3) := by decide +kernel
theorem dX10_add_40 : decode cX10_add 40 = .ok (.ldc 178, 2) := by decide +kernel
theorem dX10_add_42 : decode cX10_add 42 = .ok (.ireturn, 1) := by decide +kernel
theorem dX10_add_43 : decode cX10_add 43 = .ok (.aload_n 0, 1) := by decide +kernel
theorem dX10_add_44 : decode cX10_add 44 = .ok (.invokevirtual 205, 3) := by decide +kernel
theorem dX10_add_47 : decode cX10_add 47 = .ok (.aload_n 0, 1) := by decide +kernel
theorem dX10_add_48 : decode cX10_add 48 = .ok (.getfield 7, 3) := by decide +kernel
theorem dX10_add_51 : decode cX10_add 51 = .ok (.iload_n 1, 1) := by decide +kernel
theorem dX10_add_52 : decode cX10_add 52 = .ok (.iload_n 2, 1) := by decide +kernel
theorem dX10_add_53 : decode cX10_add 53 = .ok (.iload_n 3, 1) := by decide +kernel
theorem dX10_add_54 : decode cX10_add 54 = .ok (.iload 4, 2) := by decide +kernel
theorem dX10_add_56 : decode cX10_add 56 = .ok (.iload 5, 2) := by decide +kernel
theorem dX10_add_58 : decode cX10_add 58 = .ok (.invokestatic 171, 3) := by decide +kernel
theorem dX10_add_61 : decode cX10_add 61 = .ok (.aload_n 0, 1) := by decide +kernel
theorem dX10_add_62 : decode cX10_add 62 = .ok (.getfield 7, 3) := by decide +kernel
theorem dX10_add_65 : decode cX10_add 65 = .ok (.iconst 3, 1) := by decide +kernel
theorem dX10_add_66 : decode cX10_add 66 = .ok (.iload_n 1, 1) := by decide +kernel
theorem dX10_add_67 : decode cX10_add 67 = .ok (.iadd, 1) := by decide +kernel
theorem dX10_add_68 : decode cX10_add 68 = .ok (.iaload, 1) := by decide +kernel
theorem dX10_add_69 : decode cX10_add 69 = .ok (.ireturn, 1) := by decide +kernel
theorem dX10_drop_0 : decode cX10_drop 0 = .ok (.aload_n 0, 1) := by decide +kernel
theorem dX10_drop_1 : decode cX10_drop 1 = .ok (.iload_n 1, 1) := by decide +kernel
theorem dX10_drop_2 : decode cX10_drop 2 = .ok (.iload_n 2, 1) := by decide +kernel
theorem dX10_drop_3 : decode cX10_drop 3 = .ok (.invokevirtual 208, 3) := by decide +kernel
theorem dX10_drop_6 : decode cX10_drop 6 = .ok (.ifCond .ne 6, 3) := by decide +kernel
theorem dX10_drop_9 : decode cX10_drop 9 = .ok (.ldc 177, 2) := by decide +kernel
theorem dX10_drop_11 : decode cX10_drop 11 = .ok (.ireturn, 1) := by decide +kernel
theorem dX10_drop_12 : decode cX10_drop 12 = .ok (.aload_n 0, 1) := by decide +kernel
theorem dX10_drop_13 : decode cX10_drop 13 = .ok (.invokevirtual 205, 3) := by decide +kernel
theorem dX10_drop_16 : decode cX10_drop 16 = .ok (.iconst 4, 1) := by decide +kernel
theorem dX10_drop_17 : decode cX10_drop 17 = .ok (.iload_n 2, 1) := by decide +kernel
theorem dX10_drop_18 : decode cX10_drop 18 = .ok (.imul, 1) := by decide +kernel
theorem dX10_drop_19 : decode cX10_drop 19 = .ok (.istore_n 3, 1) := by decide +kernel
theorem dX10_drop_20 : decode cX10_drop 20 = .ok (.iload_n 3, 1) := by decide +kernel
theorem dX10_drop_21 : decode cX10_drop 21 = .ok (.bipush 20, 2) := by decide +kernel
theorem dX10_drop_23 : decode cX10_drop 23 = .ok (.if_icmp .ge 39, 3) := by decide +kernel
theorem dX10_drop_26 : decode cX10_drop 26 = .ok (.aload_n 0, 1) := by decide +kernel
theorem dX10_drop_27 : decode cX10_drop 27 = .ok (.getfield 7, 3) := by decide +kernel
theorem dX10_drop_30 : decode cX10_drop 30 = .ok (.bipush 8, 2) := by decide +kernel
theorem dX10_drop_32 : decode cX10_drop 32 = .ok (.bipush 24, 2) := by decide +kernel
theorem dX10_drop_34 : decode cX10_drop 34 = .ok (.iload_n 1, 1) := by decide +kernel
theorem dX10_drop_35 : decode cX10_drop 35 = .ok (.imul, 1) := by decide +kernel
theorem dX10_drop_36 : decode cX10_drop 36 = .ok (.iadd, 1) := by decide +kernel
theorem dX10_drop_37 : decode cX10_drop 37 = .ok (.iload_n 3, 1) := by decide +kernel
theorem dX10_drop_38 : decode cX10_drop 38 = .ok (.iadd, 1) := by decide +kernel
theorem dX10_drop_39 : decode cX10_drop 39 = .ok (.aload_n 0, 1) := by decide +kernel
theorem dX10_drop_40 : decode cX10_drop 40 = .ok (.getfield 7, 3) := by decide +kernel
theorem dX10_drop_43 : decode cX10_drop 43 = .ok (.bipush 8, 2) := by decide +kernel
theorem dX10_drop_45 : decode cX10_drop 45 = .ok (.bipush 24, 2) := by decide +kernel
theorem dX10_drop_47 : decode cX10_drop 47 = .ok (.iload_n 1, 1) := by decide +kernel
theorem dX10_drop_48 : decode cX10_drop 48 = .ok (.imul, 1) := by decide +kernel
theorem dX10_drop_49 : decode cX10_drop 49 = .ok (.iadd, 1) := by decide +kernel
theorem dX10_drop_50 : decode cX10_drop 50 = .ok (.iload_n 3, 1) := by decide +kernel
theorem dX10_drop_51 : decode cX10_drop 51 = .ok (.iadd, 1) := by decide +kernel
theorem dX10_drop_52 : decode cX10_drop 52 = .ok (.iconst 4, 1) := by decide +kernel
theorem dX10_drop_53 : decode cX10_drop 53 = .ok (.iadd, 1) := by decide +kernel
theorem dX10_drop_54 : decode cX10_drop 54 = .ok (.iaload, 1) := by decide +kernel
theorem dX10_drop_55 : decode cX10_drop 55 = .ok (.iastore, 1) := by decide +kernel
theorem dX10_drop_56 : decode cX10_drop 56 = .ok (.iinc 3 1, 3) := by decide +kernel
theorem dX10_drop_59 : decode cX10_drop 59 = .ok (.goto (-39), 3) := by decide +kernel
theorem dX10_drop_62 : decode cX10_drop 62 = .ok (.aload_n 0, 1) := by decide +kernel
theorem dX10_drop_63 : decode cX10_drop 63 = .ok (.getfield 7, 3) := by decide +kernel
theorem dX10_drop_66 : decode cX10_drop 66 = .ok (.iconst 3, 1) := by decide +kernel
theorem dX10_drop_67 : decode cX10_drop 67 = .ok (.iload_n 1, 1) := by decide +kernel
theorem dX10_drop_68 : decode cX10_drop 68 = .ok (.iadd, 1) := by decide +kernel
theorem dX10_drop_69 : decode cX10_drop 69 = .ok (.dup2, 1) := by decide +kernel
theorem dX10_drop_70 : decode cX10_drop 70 = .ok (.iaload, 1) := by decide +kernel
theorem dX10_drop_71 : decode cX10_drop 71 = .ok (.iconst 1, 1) := by decide +kernel
theorem dX10_drop_72 : decode cX10_drop 72 = .ok (.isub, 1) := by decide +kernel
theorem dX10_drop_73 : decode cX10_drop 73 = .ok (.iastore, 1) := by decide +kernel
theorem dX10_drop_74 : decode cX10_drop 74 = .ok (.aload_n 0, 1) := by decide +kernel
theorem dX10_drop_75 : decode cX10_drop 75 = .ok (.getfield 7, 3) := by decide +kernel
theorem dX10_drop_78 : decode cX10_drop 78 = .ok (.iconst 3, 1) := by decide +kernel
theorem dX10_drop_79 : decode cX10_drop 79 = .ok (.iload_n 1, 1) := by decide +kernel
theorem dX10_drop_80 : decode cX10_drop 80 = .ok (.iadd, 1) := by decide +kernel
theorem dX10_drop_81 : decode cX10_drop 81 = .ok (.iaload, 1) := by decide +kernel
theorem dX10_drop_82 : decode cX10_drop 82 = .ok (.ireturn, 1) := by decide +kernel
theorem dX10_alter_0 : decode cX10_alter 0 = .ok (.aload_n 0, 1) := by decide +kernel
theorem dX10_alter_1 : decode cX10_alter 1 = .ok (.iload_n 1, 1) := by decide +kernel
theorem dX10_alter_2 : decode cX10_alter 2 = .ok (.iload_n 2, 1) := by decide +kernel
theorem dX10_alter_3 : decode cX10_alter 3 = .ok (.invokevirtual 208, 3) := by decide +kernel
theorem dX10_alter_6 : decode cX10_alter 6 = .ok (.ifCond .eq 15, 3) := by decide +kernel
theorem dX10_alter_9 : decode cX10_alter 9 = .ok (.iload_n 3, 1) := by decide +kernel
theorem dX10_alter_10 : decode cX10_alter 10 = .ok (.i2l, 1) := by decide +kernel
theorem dX10_alter_11 : decode cX10_alter 11 = .ok (.lconst 0, 1) := by decide +kernel
theorem dX10_alter_12 : decode cX10_alter 12 = .ok (.ldc2_w 211, 3) := by decide +kernel
theorem dX10_alter_15 : decode cX10_alter 15 = .ok (.invokestatic 51, 3) := by decide +kernel
theorem dX10_alter_18 : decode cX10_alter 18 = .ok (.ifCond .ne 6, 3) := by decide +kernel
theorem dX10_alter_21 : decode cX10_alter 21 = .ok (.ldc 177, 2) := by decide +kernel
theorem dX10_alter_23 : decode cX10_alter 23 = .ok (.ireturn, 1) := by decide +kernel
theorem dX10_alter_24 : decode cX10_alter 24 = .ok (.iload_n 3, 1) := by decide +kernel
theorem dX10_alter_25 : decode cX10_alter 25 = .ok (.ifCond .ne 8, 3) := by decide +kernel
theorem dX10_alter_28 : decode cX10_alter 28 = .ok (.iload 4, 2) := by decide +kernel
theorem dX10_alter_30 : decode cX10_alter 30 = .ok (.goto 13, 3) := by decide +kernel
theorem dX10_alter_33 : decode cX10_alter 33 = .ok (.aload_n 0, 1) := by decide +kernel
theorem dX10_alter_34 : decode cX10_alter 34 = .ok (.getfield 7, 3) := by decide +kernel
theorem dX10_alter_37 : decode cX10_alter 37 = .ok (.iload_n 1, 1) := by decide +kernel
theorem dX10_alter_38 : decode cX10_alter 38 = .ok (.iload_n 2, 1) := by decide +kernel
theorem dX10_alter_39 : decode cX10_alter 39 = .ok (.iconst 0, 1) := by decide +kernel
theorem dX10_alter_40 : decode cX10_alter 40 = .ok (.invokestatic 62, 3) := by decide +kernel
theorem dX10_alter_43 : decode cX10_alter 43 = .ok (.istore 5, 2) := by decide +kernel
theorem dX10_alter_45 : decode cX10_alter 45 = .ok (.iload_n 3, 1) := by decide +kernel
theorem dX10_alter_46 : decode cX10_alter 46 = .ok (.iconst 1, 1) := by decide +kernel
theorem dX10_alter_47 : decode cX10_alter 47 = .ok (.if_icmp .ne 8, 3) := by decide +kernel
theorem dX10_alter_50 : decode cX10_alter 50 = .ok (.iload 4, 2) := by decide +kernel
theorem dX10_alter_52 : decode cX10_alter 52 = .ok (.goto 13, 3) := by decide +kernel
theorem dX10_alter_55 : decode cX10_alter 55 = .ok (.aload_n 0, 1) := by decide +kernel
theorem dX10_alter_56 : decode cX10_alter 56 = .ok (.getfield 7, 3) := by decide +kernel
theorem dX10_alter_59 : decode cX10_alter 59 = .ok (.iload_n 1, 1) := by decide +kernel
theorem dX10_alter_60 : decode cX10_alter 60 = .ok (.iload_n 2, 1) := by decide +kernel
theorem dX10_alter_61 : decode cX10_alter 61 = .ok (.iconst 1, 1) := by decide +kernel
theorem dX10_alter_62 : decode cX10_alter 62 = .ok (.invokestatic 62, 3) := by decide +kernel
theorem dX10_alter_65 : decode cX10_alter 65 = .ok (.istore 6, 2) := by decide +kernel
theorem dX10_alter_67 : decode cX10_alter 67 = .ok (.iload_n 3, 1) := by decide +kernel
theorem dX10_alter_68 : decode cX10_alter 68 = .ok (.iconst 2, 1) := by decide +kernel
theorem dX10_alter_69 : decode cX10_alter 69 = .ok (.if_icmp .ne 8, 3) := by decide +kernel
theorem dX10_alter_72 : decode cX10_alter 72 = .ok (.iload 4, 2) := by decide +kernel
theorem dX10_alter_74 : decode cX10_alter 74 = .ok (.goto 13, 3) := by decide +kernel
theorem dX10_alter_77 : decode cX10_alter 77 = .ok (.aload_n 0, 1) := by decide +kernel
theorem dX10_alter_78 : decode cX10_alter 78 = .ok (.getfield 7, 3) := by decide +kernel
theorem dX10_alter_81 : decode cX10_alter 81 = .ok (.iload_n 1, 1) := by decide +kernel
theorem dX10_alter_82 : decode cX10_alter 82 = .ok (.iload_n 2, 1) := by decide +kernel
theorem dX10_alter_83 : decode cX10_alter 83 = .ok (.iconst 2, 1) := by decide +kernel
theorem dX10_alter_84 : decode cX10_alter 84 = .ok (.invokestatic 62, 3) := by decide +kernel
theorem dX10_alter_87 : decode cX10_alter 87 = .ok (.istore 7, 2) := by decide +kernel
theorem dX10_alter_89 : decode cX10_alter 89 = .ok (.iload_n 3, 1) := by decide +kernel
theorem dX10_alter_90 : decode cX10_alter 90 = .ok (.iconst 3, 1) := by decide +kernel
theorem dX10_alter_91 : decode cX10_alter 91 = .ok (.if_icmp .ne 8, 3) := by decide +kernel
theorem dX10_alter_94 : decode cX10_alter 94 = .ok (.iload 4, 2) := by decide +kernel
theorem dX10_alter_96 : decode cX10_alter 96 = .ok (.goto 13, 3) := by decide +kernel
theorem dX10_alter_99 : decode cX10_alter 99 = .ok (.aload_n 0, 1) := by decide +kernel
theorem dX10_alter_100 : decode cX10_alter 100 = .ok (.getfield 7, 3) := by decide +kernel
theorem dX10_alter_103 : decode cX10_alter 103 = .ok (.iload_n 1, 1) := by decide +kernel
theorem dX10_alter_104 : decode cX10_alter 104 = .ok (.iload_n 2, 1) := by decide +kernel
theorem dX10_alter_105 : decode cX10_alter 105 = .ok (.iconst 3, 1) := by decide +kernel
theorem dX10_alter_106 : decode cX10_alter 106 = .ok (.invokestatic 62, 3) := by decide +kernel
theorem dX10_alter_109 : decode cX10_alter 109 = .ok (.istore 8, 2) := by decide +kernel
theorem dX10_alter_111 : decode cX10_alter 111 = .ok (.aload_n 0, 1) := by decide +kernel
theorem dX10_alter_112 : decode cX10_alter 112 = .ok (.iload_n 1, 1) := by decide +kernel
theorem dX10_alter_113 : decode cX10_alter 113 = .ok (.iload 5, 2) := by decide +kernel
theorem dX10_alter_115 : decode cX10_alter 115 = .ok (.iload 6, 2) := by decide +kernel
theorem dX10_alter_117 : decode cX10_alter 117 = .ok (.iload 7, 2) := by decide +kernel
theorem dX10_alter_119 : decode cX10_alter 119 = .ok (.iload 8, 2) := by decide +kernel
theorem dX10_alter_121 : decode cX10_alter 121 = .ok (.iload_n 2, 1) := by decide +kernel
theorem dX10_alter_122 : decode cX10_alter 122 = .ok (.invokevirtual 201, 3) := by decide +kernel
theorem dX10_alter_125 : decode cX10_alter 125 = .ok (.ifCond .ne 6, 3) := by decide +kernel
theorem dX10_alter_128 : decode cX10_alter 128 = .ok (.ldc 177, 2) := by decide +kernel
theorem dX10_alter_130 : decode cX10_alter 130 = .ok (.ireturn, 1) := by decide +kernel
theorem dX10_alter_131 : decode cX10_alter 131 = .ok (.aload_n 0, 1) := by decide +kernel
theorem dX10_alter_132 : decode cX10_alter 132 = .ok (.invokevirtual 205, 3) := by decide +kernel
theorem dX10_alter_135 : decode cX10_alter 135 = .ok (.aload_n 0, 1) := by decide +kernel
theorem dX10_alter_136 : decode cX10_alter 136 = .ok (.getfield 7, 3) := by decide +kernel
theorem dX10_alter_139 : decode cX10_alter 139 = .ok (.iload_n 1, 1) := by decide +kernel
theorem dX10_alter_140 : decode cX10_alter 140 = .ok (.iload_n 2, 1) := by decide +kernel
theorem dX10_alter_141 : decode cX10_alter 141 = .ok (.iload_n 3, 1) := by decide +kernel
theorem dX10_alter_142 : decode cX10_alter 142 = .ok (.invokestatic 62, 3) := by decide +kernel
theorem dX10_alter_145 : decode cX10_alter 145 = .ok (.istore 9, 2) := by decide +kernel
theorem dX10_alter_147 : decode cX10_alter 147 = .ok (.aload_n 0, 1) := by decide +kernel
theorem dX10_alter_148 : decode cX10_alter 148 = .ok (.getfield 7, 3) := by decide +kernel
theorem dX10_alter_151 : decode cX10_alter 151 = .ok (.bipush 8, 2) := by decide +kernel
theorem dX10_alter_153 : decode cX10_alter 153 = .ok (.bipush 24, 2) := by decide +kernel
theorem dX10_alter_155 : decode cX10_alter 155 = .ok (.iload_n 1, 1) := by decide +kernel
theorem dX10_alter_156 : decode cX10_alter 156 = .ok (.imul, 1) := by decide +kernel
theorem dX10_alter_157 : decode cX10_alter 157 = .ok (.iadd, 1) := by decide +kernel
theorem dX10_alter_158 : decode cX10_alter 158 = .ok (.iconst 4, 1) := by decide +kernel
theorem dX10_alter_159 : decode cX10_alter 159 = .ok (.iload_n 2, 1) := by decide +kernel
theorem dX10_alter_160 : decode cX10_alter 160 = .ok (.imul, 1) := by decide +kernel
theorem dX10_alter_161 : decode cX10_alter 161 = .ok (.iadd, 1) := by decide +kernel
theorem dX10_alter_162 : decode cX10_alter 162 = .ok (.iload_n 3, 1) := by decide +kernel
theorem dX10_alter_163 : decode cX10_alter 163 = .ok (.iadd, 1) := by decide +kernel
theorem dX10_alter_164 : decode cX10_alter 164 = .ok (.iload 4, 2) := by decide +kernel
theorem dX10_alter_166 : decode cX10_alter 166 = .ok (.iastore, 1) := by decide +kernel
theorem dX10_alter_167 : decode cX10_alter 167 = .ok (.iload 9, 2) := by decide +kernel
theorem dX10_alter_169 : decode cX10_alter 169 = .ok (.ireturn, 1) := by decide +kernel
theorem dX10_cite_0 : decode cX10_cite 0 = .ok (.iload_n 1, 1) := by decide +kernel
theorem dX10_cite_1 : decode cX10_cite 1 = .ok (.i2l, 1) := by decide +kernel
theorem dX10_cite_2 : decode cX10_cite 2 = .ok (.lconst 0, 1) := by decide +kernel
theorem dX10_cite_3 : decode cX10_cite 3 = .ok (.ldc2_w 213, 3) := by decide +kernel
theorem dX10_cite_6 : decode cX10_cite 6 = .ok (.invokestatic 51, 3) := by decide +kernel
theorem dX10_cite_9 : decode cX10_cite 9 = .ok (.ifCond .eq 35, 3) := by decide +kernel
theorem dX10_cite_12 : decode cX10_cite 12 = .ok (.aload_n 0, 1) := by decide +kernel
theorem dX10_cite_13 : decode cX10_cite 13 = .ok (.iload_n 2, 1) := by decide +kernel
theorem dX10_cite_14 : decode cX10_cite 14 = .ok (.invokevirtual 55, 3) := by decide +kernel
theorem dX10_cite_17 : decode cX10_cite 17 = .ok (.ifCond .eq 27, 3) := by decide +kernel
theorem dX10_cite_20 : decode cX10_cite 20 = .ok (.iload_n 3, 1) := by decide +kernel
theorem dX10_cite_21 : decode cX10_cite 21 = .ok (.i2l, 1) := by decide +kernel
theorem dX10_cite_22 : decode cX10_cite 22 = .ok (.lconst 0, 1) := by decide +kernel
theorem dX10_cite_23 : decode cX10_cite 23 = .ok (.ldc2_w 219, 3) := by decide +kernel
theorem dX10_cite_26 : decode cX10_cite 26 = .ok (.invokestatic 51, 3) := by decide +kernel
theorem dX10_cite_29 : decode cX10_cite 29 = .ok (.ifCond .eq 15, 3) := by decide +kernel
theorem dX10_cite_32 : decode cX10_cite 32 = .ok (.iload 4, 2) := by decide +kernel
theorem dX10_cite_34 : decode cX10_cite 34 = .ok (.invokestatic 145, 3) := by decide +kernel
theorem dX10_cite_37 : decode cX10_cite 37 = .ok (.ifCond .eq 7, 3) := by decide +kernel
theorem dX10_cite_40 : decode cX10_cite 40 = .ok (.iconst 1, 1) := by decide +kernel
theorem dX10_cite_41 : decode cX10_cite 41 = .ok (.goto 4, 3) := by decide +kernel
theorem dX10_cite_44 : decode cX10_cite 44 = .ok (.iconst 0, 1) := by decide +kernel
theorem dX10_cite_45 : decode cX10_cite 45 = .ok (.istore 6, 2) := by decide +kernel
theorem dX10_cite_47 : decode cX10_cite 47 = .ok (.iload 6, 2) := by decide +kernel
theorem dX10_cite_49 : decode cX10_cite 49 = .ok (.ifCond .eq 30, 3) := by decide +kernel
theorem dX10_cite_52 : decode cX10_cite 52 = .ok (.iload_n 3, 1) := by decide +kernel
theorem dX10_cite_53 : decode cX10_cite 53 = .ok (.ifCond .ne 21, 3) := by decide +kernel
theorem dX10_cite_56 : decode cX10_cite 56 = .ok (.iload 5, 2) := by decide +kernel
theorem dX10_cite_58 : decode cX10_cite 58 = .ok (.i2l, 1) := by decide +kernel
theorem dX10_cite_59 : decode cX10_cite 59 = .ok (.iload 4, 2) := by decide +kernel
theorem dX10_cite_61 : decode cX10_cite 61 = .ok (.i2l, 1) := by decide +kernel
theorem dX10_cite_62 : decode cX10_cite 62 = .ok (.ldc2_w 59, 3) := by decide +kernel
theorem dX10_cite_65 : decode cX10_cite 65 = .ok (.invokestatic 51, 3) := by decide +kernel
theorem dX10_cite_68 : decode cX10_cite 68 = .ok (.ifCond .ne 14, 3) := by decide +kernel
theorem dX10_cite_71 : decode cX10_cite 71 = .ok (.goto 8, 3) := by decide +kernel
theorem dX10_cite_74 : decode cX10_cite 74 = .ok (.iload 5, 2) := by decide +kernel
theorem dX10_cite_76 : decode cX10_cite 76 = .ok (.ifCond .eq 6, 3) := by decide +kernel
theorem dX10_cite_79 : decode cX10_cite 79 = .ok (.ldc 177, 2) := by decide +kernel
theorem dX10_cite_81 : decode cX10_cite 81 = .ok (.ireturn, 1) := by decide +kernel
theorem dX10_cite_82 : decode cX10_cite 82 = .ok (.aload_n 0, 1) := by decide +kernel
theorem dX10_cite_83 : decode cX10_cite 83 = .ok (.invokevirtual 205, 3) := by decide +kernel
theorem dX10_cite_86 : decode cX10_cite 86 = .ok (.sipush 128, 3) := by decide +kernel
theorem dX10_cite_89 : decode cX10_cite 89 = .ok (.iconst 5, 1) := by decide +kernel
theorem dX10_cite_90 : decode cX10_cite 90 = .ok (.iload_n 1, 1) := by decide +kernel
theorem dX10_cite_91 : decode cX10_cite 91 = .ok (.imul, 1) := by decide +kernel
theorem dX10_cite_92 : decode cX10_cite 92 = .ok (.iadd, 1) := by decide +kernel
theorem dX10_cite_93 : decode cX10_cite 93 = .ok (.istore 7, 2) := by decide +kernel
theorem dX10_cite_95 : decode cX10_cite 95 = .ok (.aload_n 0, 1) := by decide +kernel
theorem dX10_cite_96 : decode cX10_cite 96 = .ok (.getfield 7, 3) := by decide +kernel
theorem dX10_cite_99 : decode cX10_cite 99 = .ok (.iload 7, 2) := by decide +kernel
theorem dX10_cite_101 : decode cX10_cite 101 = .ok (.iconst 1, 1) := by decide +kernel
theorem dX10_cite_102 : decode cX10_cite 102 = .ok (.iastore, 1) := by decide +kernel
theorem dX10_cite_103 : decode cX10_cite 103 = .ok (.aload_n 0, 1) := by decide +kernel
theorem dX10_cite_104 : decode cX10_cite 104 = .ok (.getfield 7, 3) := by decide +kernel
theorem dX10_cite_107 : decode cX10_cite 107 = .ok (.iload 7, 2) := by decide +kernel
theorem dX10_cite_109 : decode cX10_cite 109 = .ok (.iconst 1, 1) := by decide +kernel
theorem dX10_cite_110 : decode cX10_cite 110 = .ok (.iadd, 1) := by decide +kernel
theorem dX10_cite_111 : decode cX10_cite 111 = .ok (.iload_n 2, 1) := by decide +kernel
theorem dX10_cite_112 : decode cX10_cite 112 = .ok (.iastore, 1) := by decide +kernel
theorem dX10_cite_113 : decode cX10_cite 113 = .ok (.aload_n 0, 1) := by decide +kernel
theorem dX10_cite_114 : decode cX10_cite 114 = .ok (.getfield 7, 3) := by decide +kernel
theorem dX10_cite_117 : decode cX10_cite 117 = .ok (.iload 7, 2) := by decide +kernel
theorem dX10_cite_119 : decode cX10_cite 119 = .ok (.iconst 2, 1) := by decide +kernel
theorem dX10_cite_120 : decode cX10_cite 120 = .ok (.iadd, 1) := by decide +kernel
theorem dX10_cite_121 : decode cX10_cite 121 = .ok (.iload_n 3, 1) := by decide +kernel
theorem dX10_cite_122 : decode cX10_cite 122 = .ok (.iastore, 1) := by decide +kernel
theorem dX10_cite_123 : decode cX10_cite 123 = .ok (.aload_n 0, 1) := by decide +kernel
theorem dX10_cite_124 : decode cX10_cite 124 = .ok (.getfield 7, 3) := by decide +kernel
theorem dX10_cite_127 : decode cX10_cite 127 = .ok (.iload 7, 2) := by decide +kernel
theorem dX10_cite_129 : decode cX10_cite 129 = .ok (.iconst 3, 1) := by decide +kernel
theorem dX10_cite_130 : decode cX10_cite 130 = .ok (.iadd, 1) := by decide +kernel
theorem dX10_cite_131 : decode cX10_cite 131 = .ok (.iload 4, 2) := by decide +kernel
theorem dX10_cite_133 : decode cX10_cite 133 = .ok (.iastore, 1) := by decide +kernel
theorem dX10_cite_134 : decode cX10_cite 134 = .ok (.aload_n 0, 1) := by decide +kernel
theorem dX10_cite_135 : decode cX10_cite 135 = .ok (.getfield 7, 3) := by decide +kernel
theorem dX10_cite_138 : decode cX10_cite 138 = .ok (.iload 7, 2) := by decide +kernel
theorem dX10_cite_140 : decode cX10_cite 140 = .ok (.iconst 4, 1) := by decide +kernel
theorem dX10_cite_141 : decode cX10_cite 141 = .ok (.iadd, 1) := by decide +kernel
theorem dX10_cite_142 : decode cX10_cite 142 = .ok (.iload 5, 2) := by decide +kernel
theorem dX10_cite_144 : decode cX10_cite 144 = .ok (.iastore, 1) := by decide +kernel
theorem dX10_cite_145 : decode cX10_cite 145 = .ok (.aload_n 0, 1) := by decide +kernel
theorem dX10_cite_146 : decode cX10_cite 146 = .ok (.invokevirtual 221, 3) := by decide +kernel
theorem dX10_cite_149 : decode cX10_cite 149 = .ok (.aload_n 0, 1) := by decide +kernel
theorem dX10_cite_150 : decode cX10_cite 150 = .ok (.iload_n 1, 1) := by decide +kernel
theorem dX10_cite_151 : decode cX10_cite 151 = .ok (.iload_n 2, 1) := by decide +kernel
theorem dX10_cite_152 : decode cX10_cite 152 = .ok (.aload_n 0, 1) := by decide +kernel
theorem dX10_cite_153 : decode cX10_cite 153 = .ok (.getfield 41, 3) := by decide +kernel
theorem dX10_cite_156 : decode cX10_cite 156 = .ok (.invokevirtual 224, 3) := by decide +kernel
theorem dX10_cite_159 : decode cX10_cite 159 = .ok (.aload_n 0, 1) := by decide +kernel
theorem dX10_cite_160 : decode cX10_cite 160 = .ok (.getfield 41, 3) := by decide +kernel
theorem dX10_cite_163 : decode cX10_cite 163 = .ok (.invokestatic 77, 3) := by decide +kernel
theorem dX10_cite_166 : decode cX10_cite 166 = .ok (.ireturn, 1) := by decide +kernel
theorem dX10_see_0 : decode cX10_see 0 = .ok (.iload_n 1, 1) := by decide +kernel
theorem dX10_see_1 : decode cX10_see 1 = .ok (.invokestatic 145, 3) := by decide +kernel
theorem dX10_see_4 : decode cX10_see 4 = .ok (.ifCond .eq 11, 3) := by decide +kernel
theorem dX10_see_7 : decode cX10_see 7 = .ok (.aload_n 0, 1) := by decide +kernel
theorem dX10_see_8 : decode cX10_see 8 = .ok (.iload_n 2, 1) := by decide +kernel
theorem dX10_see_9 : decode cX10_see 9 = .ok (.invokevirtual 234, 3) := by decide +kernel
theorem dX10_see_12 : decode cX10_see 12 = .ok (.ifCond .ne 6, 3) := by decide +kernel
theorem dX10_see_15 : decode cX10_see 15 = .ok (.ldc 177, 2) := by decide +kernel
theorem dX10_see_17 : decode cX10_see 17 = .ok (.ireturn, 1) := by decide +kernel
theorem dX10_see_18 : decode cX10_see 18 = .ok (.aload_n 0, 1) := by decide +kernel
theorem dX10_see_19 : decode cX10_see 19 = .ok (.getfield 7, 3) := by decide +kernel
theorem dX10_see_22 : decode cX10_see 22 = .ok (.iconst 2, 1) := by decide +kernel
theorem dX10_see_23 : decode cX10_see 23 = .ok (.iaload, 1) := by decide +kernel
theorem dX10_see_24 : decode cX10_see 24 = .ok (.bipush 12, 2) := by decide +kernel
theorem dX10_see_26 : decode cX10_see 26 = .ok (.if_icmp .ne 6, 3) := by decide +kernel
theorem dX10_see_29 : decode cX10_see 29 = .ok (.ldc 178, 2) := by decide +kernel
theorem dX10_see_31 : decode cX10_see 31 = .ok (.ireturn, 1) := by decide +kernel
theorem dX10_see_32 : decode cX10_see 32 = .ok (.aload_n 0, 1) := by decide +kernel
theorem dX10_see_33 : decode cX10_see 33 = .ok (.invokevirtual 205, 3) := by decide +kernel
theorem dX10_see_36 : decode cX10_see 36 = .ok (.aload_n 0, 1) := by decide +kernel
theorem dX10_see_37 : decode cX10_see 37 = .ok (.getfield 7, 3) := by decide +kernel
theorem dX10_see_40 : decode cX10_see 40 = .ok (.sipush 168, 3) := by decide +kernel
theorem dX10_see_43 : decode cX10_see 43 = .ok (.iconst 2, 1) := by decide +kernel
theorem dX10_see_44 : decode cX10_see 44 = .ok (.aload_n 0, 1) := by decide +kernel
theorem dX10_see_45 : decode cX10_see 45 = .ok (.getfield 7, 3) := by decide +kernel
theorem dX10_see_48 : decode cX10_see 48 = .ok (.iconst 2, 1) := by decide +kernel
theorem dX10_see_49 : decode cX10_see 49 = .ok (.iaload, 1) := by decide +kernel
theorem dX10_see_50 : decode cX10_see 50 = .ok (.imul, 1) := by decide +kernel
theorem dX10_see_51 : decode cX10_see 51 = .ok (.iadd, 1) := by decide +kernel
theorem dX10_see_52 : decode cX10_see 52 = .ok (.iload_n 1, 1) := by decide +kernel
theorem dX10_see_53 : decode cX10_see 53 = .ok (.iastore, 1) := by decide +kernel
theorem dX10_see_54 : decode cX10_see 54 = .ok (.aload_n 0, 1) := by decide +kernel
theorem dX10_see_55 : decode cX10_see 55 = .ok (.getfield 7, 3) := by decide +kernel
theorem dX10_see_58 : decode cX10_see 58 = .ok (.sipush 168, 3) := by decide +kernel
theorem dX10_see_61 : decode cX10_see 61 = .ok (.iconst 2, 1) := by decide +kernel
theorem dX10_see_62 : decode cX10_see 62 = .ok (.aload_n 0, 1) := by decide +kernel
theorem dX10_see_63 : decode cX10_see 63 = .ok (.getfield 7, 3) := by decide +kernel
theorem dX10_see_66 : decode cX10_see 66 = .ok (.iconst 2, 1) := by decide +kernel
theorem dX10_see_67 : decode cX10_see 67 = .ok (.iaload, 1) := by decide +kernel
theorem dX10_see_68 : decode cX10_see 68 = .ok (.imul, 1) := by decide +kernel
theorem dX10_see_69 : decode cX10_see 69 = .ok (.iadd, 1) := by decide +kernel
theorem dX10_see_70 : decode cX10_see 70 = .ok (.iconst 1, 1) := by decide +kernel
theorem dX10_see_71 : decode cX10_see 71 = .ok (.iadd, 1) := by decide +kernel
theorem dX10_see_72 : decode cX10_see 72 = .ok (.iload_n 2, 1) := by decide +kernel
theorem dX10_see_73 : decode cX10_see 73 = .ok (.iastore, 1) := by decide +kernel
theorem dX10_see_74 : decode cX10_see 74 = .ok (.aload_n 0, 1) := by decide +kernel
theorem dX10_see_75 : decode cX10_see 75 = .ok (.getfield 7, 3) := by decide +kernel
theorem dX10_see_78 : decode cX10_see 78 = .ok (.iconst 2, 1) := by decide +kernel
theorem dX10_see_79 : decode cX10_see 79 = .ok (.dup2, 1) := by decide +kernel
theorem dX10_see_80 : decode cX10_see 80 = .ok (.iaload, 1) := by decide +kernel
theorem dX10_see_81 : decode cX10_see 81 = .ok (.iconst 1, 1) := by decide +kernel
theorem dX10_see_82 : decode cX10_see 82 = .ok (.iadd, 1) := by decide +kernel
theorem dX10_see_83 : decode cX10_see 83 = .ok (.iastore, 1) := by decide +kernel
theorem dX10_see_84 : decode cX10_see 84 = .ok (.aload_n 0, 1) := by decide +kernel
theorem dX10_see_85 : decode cX10_see 85 = .ok (.getfield 7, 3) := by decide +kernel
theorem dX10_see_88 : decode cX10_see 88 = .ok (.iconst 2, 1) := by decide +kernel
theorem dX10_see_89 : decode cX10_see 89 = .ok (.iaload, 1) := by decide +kernel
theorem dX10_see_90 : decode cX10_see 90 = .ok (.ireturn, 1) := by decide +kernel
theorem dX10_stretch_0 : decode cX10_stretch 0 = .ok (.aload_n 0, 1) := by decide +kernel
theorem dX10_stretch_1 : decode cX10_stretch 1 = .ok (.iload_n 1, 1) := by decide +kernel
theorem dX10_stretch_2 : decode cX10_stretch 2 = .ok (.iload_n 2, 1) := by decide +kernel
theorem dX10_stretch_3 : decode cX10_stretch 3 = .ok (.invokevirtual 208, 3) := by decide +kernel
theorem dX10_stretch_6 : decode cX10_stretch 6 = .ok (.ifCond .eq 15, 3) := by decide +kernel
theorem dX10_stretch_9 : decode cX10_stretch 9 = .ok (.iload_n 3, 1) := by decide +kernel
theorem dX10_stretch_10 : decode cX10_stretch 10 = .ok (.i2l, 1) := by decide +kernel
theorem dX10_stretch_11 : decode cX10_stretch 11 = .ok (.lconst 0, 1) := by decide +kernel
theorem dX10_stretch_12 : decode cX10_stretch 12 = .ok (.ldc2_w 237, 3) := by decide +kernel
theorem dX10_stretch_15 : decode cX10_stretch 15 = .ok (.invokestatic 51, 3) := by decide +kernel
theorem dX10_stretch_18 : decode cX10_stretch 18 = .ok (.ifCond .ne 6, 3) := by decide +kernel
theorem dX10_stretch_21 : decode cX10_stretch 21 = .ok (.ldc 177, 2) := by decide +kernel
theorem dX10_stretch_23 : decode cX10_stretch 23 = .ok (.ireturn, 1) := by decide +kernel
theorem dX10_stretch_24 : decode cX10_stretch 24 = .ok (.iload_n 3, 1) := by decide +kernel
theorem dX10_stretch_25 : decode cX10_stretch 25 = .ok (.iconst 4, 1) := by decide +kernel
theorem dX10_stretch_26 : decode cX10_stretch 26 = .ok (.if_icmp .ge 16, 3) := by decide +kernel
theorem dX10_stretch_29 : decode cX10_stretch 29 = .ok (.aload_n 0, 1) := by decide +kernel
theorem dX10_stretch_30 : decode cX10_stretch 30 = .ok (.getfield 7, 3) := by decide +kernel
theorem dX10_stretch_33 : decode cX10_stretch 33 = .ok (.iload_n 1, 1) := by decide +kernel
theorem dX10_stretch_34 : decode cX10_stretch 34 = .ok (.iload_n 2, 1) := by decide +kernel
theorem dX10_stretch_35 : decode cX10_stretch 35 = .ok (.iload_n 3, 1) := by decide +kernel
theorem dX10_stretch_36 : decode cX10_stretch 36 = .ok (.invokestatic 62, 3) := by decide +kernel
theorem dX10_stretch_39 : decode cX10_stretch 39 = .ok (.goto 36, 3) := by decide +kernel
theorem dX10_stretch_42 : decode cX10_stretch 42 = .ok (.aload_n 0, 1) := by decide +kernel
theorem dX10_stretch_43 : decode cX10_stretch 43 = .ok (.getfield 7, 3) := by decide +kernel
theorem dX10_stretch_46 : decode cX10_stretch 46 = .ok (.iload_n 1, 1) := by decide +kernel
theorem dX10_stretch_47 : decode cX10_stretch 47 = .ok (.iload_n 2, 1) := by decide +kernel
theorem dX10_stretch_48 : decode cX10_stretch 48 = .ok (.iconst 0, 1) := by decide +kernel
theorem dX10_stretch_49 : decode cX10_stretch 49 = .ok (.invokestatic 62, 3) := by decide +kernel
theorem dX10_stretch_52 : decode cX10_stretch 52 = .ok (.aload_n 0, 1) := by decide +kernel
theorem dX10_stretch_53 : decode cX10_stretch 53 = .ok (.getfield 7, 3) := by decide +kernel
theorem dX10_stretch_56 : decode cX10_stretch 56 = .ok (.iload_n 1, 1) := by decide +kernel
theorem dX10_stretch_57 : decode cX10_stretch 57 = .ok (.iload_n 2, 1) := by decide +kernel
theorem dX10_stretch_58 : decode cX10_stretch 58 = .ok (.iconst 2, 1) := by decide +kernel
theorem dX10_stretch_59 : decode cX10_stretch 59 = .ok (.invokestatic 62, 3) := by decide +kernel
theorem dX10_stretch_62 : decode cX10_stretch 62 = .ok (.aload_n 0, 1) := by decide +kernel
theorem dX10_stretch_63 : decode cX10_stretch 63 = .ok (.getfield 7, 3) := by decide +kernel
theorem dX10_stretch_66 : decode cX10_stretch 66 = .ok (.iload_n 1, 1) := by decide +kernel
theorem dX10_stretch_67 : decode cX10_stretch 67 = .ok (.iload_n 2, 1) := by decide +kernel
theorem dX10_stretch_68 : decode cX10_stretch 68 = .ok (.iconst 3, 1) := by decide +kernel
theorem dX10_stretch_69 : decode cX10_stretch 69 = .ok (.invokestatic 62, 3) := by decide +kernel
theorem dX10_stretch_72 : decode cX10_stretch 72 = .ok (.invokestatic 148, 3) := by decide +kernel
theorem dX10_stretch_75 : decode cX10_stretch 75 = .ok (.ireturn, 1) := by decide +kernel
theorem dX10_as_0 : decode cX10_as 0 = .ok (.aload_n 0, 1) := by decide +kernel
theorem dX10_as_1 : decode cX10_as 1 = .ok (.iload_n 1, 1) := by decide +kernel
theorem dX10_as_2 : decode cX10_as 2 = .ok (.iload_n 2, 1) := by decide +kernel
theorem dX10_as_3 : decode cX10_as 3 = .ok (.invokevirtual 208, 3) := by decide +kernel
theorem dX10_as_6 : decode cX10_as 6 = .ok (.ifCond .eq 15, 3) := by decide +kernel
theorem dX10_as_9 : decode cX10_as 9 = .ok (.iload_n 3, 1) := by decide +kernel
theorem dX10_as_10 : decode cX10_as 10 = .ok (.i2l, 1) := by decide +kernel
theorem dX10_as_11 : decode cX10_as 11 = .ok (.lconst 0, 1) := by decide +kernel
theorem dX10_as_12 : decode cX10_as 12 = .ok (.ldc2_w 199, 3) := by decide +kernel
theorem dX10_as_15 : decode cX10_as 15 = .ok (.invokestatic 51, 3) := by decide +kernel
theorem dX10_as_18 : decode cX10_as 18 = .ok (.ifCond .ne 6, 3) := by decide +kernel
theorem dX10_as_21 : decode cX10_as 21 = .ok (.ldc 177, 2) := by decide +kernel
theorem dX10_as_23 : decode cX10_as 23 = .ok (.ireturn, 1) := by decide +kernel
theorem dX10_as_24 : decode cX10_as 24 = .ok (.aload_n 0, 1) := by decide +kernel
theorem dX10_as_25 : decode cX10_as 25 = .ok (.getfield 7, 3) := by decide +kernel
theorem dX10_as_28 : decode cX10_as 28 = .ok (.iload_n 1, 1) := by decide +kernel
theorem dX10_as_29 : decode cX10_as 29 = .ok (.iload_n 2, 1) := by decide +kernel
theorem dX10_as_30 : decode cX10_as 30 = .ok (.iconst 0, 1) := by decide +kernel
theorem dX10_as_31 : decode cX10_as 31 = .ok (.invokestatic 62, 3) := by decide +kernel
theorem dX10_as_34 : decode cX10_as 34 = .ok (.istore 4, 2) := by decide +kernel
theorem dX10_as_36 : decode cX10_as 36 = .ok (.iload_n 3, 1) := by decide +kernel
theorem dX10_as_37 : decode cX10_as 37 = .ok (.ifCond .eq 26, 3) := by decide +kernel
theorem dX10_as_40 : decode cX10_as 40 = .ok (.iload_n 3, 1) := by decide +kernel
theorem dX10_as_41 : decode cX10_as 41 = .ok (.iload 4, 2) := by decide +kernel
theorem dX10_as_43 : decode cX10_as 43 = .ok (.if_icmp .eq 20, 3) := by decide +kernel
theorem dX10_as_46 : decode cX10_as 46 = .ok (.iload_n 3, 1) := by decide +kernel
theorem dX10_as_47 : decode cX10_as 47 = .ok (.iconst 1, 1) := by decide +kernel
theorem dX10_as_48 : decode cX10_as 48 = .ok (.if_icmp .ne 19, 3) := by decide +kernel
theorem dX10_as_51 : decode cX10_as 51 = .ok (.iload 4, 2) := by decide +kernel
theorem dX10_as_53 : decode cX10_as 53 = .ok (.iconst 2, 1) := by decide +kernel
theorem dX10_as_54 : decode cX10_as 54 = .ok (.if_icmp .eq 9, 3) := by decide +kernel
theorem dX10_as_57 : decode cX10_as 57 = .ok (.iload 4, 2) := by decide +kernel
theorem dX10_as_59 : decode cX10_as 59 = .ok (.iconst 3, 1) := by decide +kernel
theorem dX10_as_60 : decode cX10_as 60 = .ok (.if_icmp .ne 7, 3) := by decide +kernel
theorem dX10_as_63 : decode cX10_as 63 = .ok (.iload_n 2, 1) := by decide +kernel
theorem dX10_as_64 : decode cX10_as 64 = .ok (.goto 5, 3) := by decide +kernel
theorem dX10_as_67 : decode cX10_as 67 = .ok (.ldc 61, 2) := by decide +kernel
theorem dX10_as_69 : decode cX10_as 69 = .ok (.ireturn, 1) := by decide +kernel
theorem dX10_edition_0 : decode cX10_edition 0 = .ok (.aload_n 0, 1) := by decide +kernel
theorem dX10_edition_1 : decode cX10_edition 1 = .ok (.iload_n 1, 1) := by decide +kernel
theorem dX10_edition_2 : decode cX10_edition 2 = .ok (.invokevirtual 55, 3) := by decide +kernel
theorem dX10_edition_5 : decode cX10_edition 5 = .ok (.ifCond .eq 15, 3) := by decide +kernel
theorem dX10_edition_8 : decode cX10_edition 8 = .ok (.iload_n 2, 1) := by decide +kernel
theorem dX10_edition_9 : decode cX10_edition 9 = .ok (.i2l, 1) := by decide +kernel
theorem dX10_edition_10 : decode cX10_edition 10 = .ok (.lconst 0, 1) := by decide +kernel
theorem dX10_edition_11 : decode cX10_edition 11 = .ok (.ldc2_w 242, 3) := by decide +kernel
theorem dX10_edition_14 : decode cX10_edition 14 = .ok (.invokestatic 51, 3) := by decide +kernel
theorem dX10_edition_17 : decode cX10_edition 17 = .ok (.ifCond .ne 6, 3) := by decide +kernel
theorem dX10_edition_20 : decode cX10_edition 20 = .ok (.ldc 177, 2) := by decide +kernel
theorem dX10_edition_22 : decode cX10_edition 22 = .ok (.ireturn, 1) := by decide +kernel
theorem dX10_edition_23 : decode cX10_edition 23 = .ok (.iload_n 2, 1) := by decide +kernel
theorem dX10_edition_24 : decode cX10_edition 24 = .ok (.ifCond .ne 12, 3) := by decide +kernel
theorem dX10_edition_27 : decode cX10_edition 27 = .ok (.aload_n 0, 1) := by decide +kernel
theorem dX10_edition_28 : decode cX10_edition 28 = .ok (.getfield 7, 3) := by decide +kernel
theorem dX10_edition_31 : decode cX10_edition 31 = .ok (.iconst 3, 1) := by decide +kernel
theorem dX10_edition_32 : decode cX10_edition 32 = .ok (.iload_n 1, 1) := by decide +kernel
theorem dX10_edition_33 : decode cX10_edition 33 = .ok (.iadd, 1) := by decide +kernel
theorem dX10_edition_34 : decode cX10_edition 34 = .ok (.iaload, 1) := by decide +kernel
theorem dX10_edition_35 : decode cX10_edition 35 = .ok (.ireturn, 1) := by decide +kernel
theorem dX10_edition_36 : decode cX10_edition 36 = .ok (.aload_n 0, 1) := by decide +kernel
theorem dX10_edition_37 : decode cX10_edition 37 = .ok (.invokevirtual 221, 3) := by decide +kernel
theorem dX10_edition_40 : decode cX10_edition 40 = .ok (.iload_n 2, 1) := by decide +kernel
theorem dX10_edition_41 : decode cX10_edition 41 = .ok (.iconst 1, 1) := by decide +kernel
theorem dX10_edition_42 : decode cX10_edition 42 = .ok (.if_icmp .ne 9, 3) := by decide +kernel
theorem dX10_edition_45 : decode cX10_edition 45 = .ok (.aload_n 0, 1) := by decide +kernel
theorem dX10_edition_46 : decode cX10_edition 46 = .ok (.iload_n 1, 1) := by decide +kernel
theorem dX10_edition_47 : decode cX10_edition 47 = .ok (.invokevirtual 244, 3) := by decide +kernel
theorem dX10_edition_50 : decode cX10_edition 50 = .ok (.ireturn, 1) := by decide +kernel
theorem dX10_edition_51 : decode cX10_edition 51 = .ok (.aload_n 0, 1) := by decide +kernel
theorem dX10_edition_52 : decode cX10_edition 52 = .ok (.iload_n 1, 1) := by decide +kernel
theorem dX10_edition_53 : decode cX10_edition 53 = .ok (.aload_n 0, 1) := by decide +kernel
theorem dX10_edition_54 : decode cX10_edition 54 = .ok (.getfield 35, 3) := by decide +kernel
theorem dX10_edition_57 : decode cX10_edition 57 = .ok (.invokevirtual 247, 3) := by decide +kernel
theorem dX10_edition_60 : decode cX10_edition 60 = .ok (.iload_n 2, 1) := by decide +kernel
theorem dX10_edition_61 : decode cX10_edition 61 = .ok (.iconst 5, 1) := by decide +kernel
theorem dX10_edition_62 : decode cX10_edition 62 = .ok (.if_icmp .ge 16, 3) := by decide +kernel
theorem dX10_edition_65 : decode cX10_edition 65 = .ok (.aload_n 0, 1) := by decide +kernel
theorem dX10_edition_66 : decode cX10_edition 66 = .ok (.getfield 35, 3) := by decide +kernel
theorem dX10_edition_69 : decode cX10_edition 69 = .ok (.iload_n 2, 1) := by decide +kernel
theorem dX10_edition_70 : decode cX10_edition 70 = .ok (.iconst 2, 1) := by decide +kernel
theorem dX10_edition_71 : decode cX10_edition 71 = .ok (.isub, 1) := by decide +kernel
theorem dX10_edition_72 : decode cX10_edition 72 = .ok (.invokestatic 251, 3) := by decide +kernel
theorem dX10_edition_75 : decode cX10_edition 75 = .ok (.goto 9, 3) := by decide +kernel
theorem dX10_edition_78 : decode cX10_edition 78 = .ok (.aload_n 0, 1) := by decide +kernel
theorem dX10_edition_79 : decode cX10_edition 79 = .ok (.iload_n 1, 1) := by decide +kernel
theorem dX10_edition_80 : decode cX10_edition 80 = .ok (.iload_n 2, 1) := by decide +kernel
theorem dX10_edition_81 : decode cX10_edition 81 = .ok (.invokevirtual 255, 3) := by decide +kernel
theorem dX10_edition_84 : decode cX10_edition 84 = .ok (.ireturn, 1) := by decide +kernel
theorem dX10_number__0 : decode cX10_number_ 0 = .ok (.aload_n 0, 1) := by decide +kernel
theorem dX10_number__1 : decode cX10_number_ 1 = .ok (.iload_n 1, 1) := by decide +kernel
theorem dX10_number__2 : decode cX10_number_ 2 = .ok (.invokevirtual 55, 3) := by decide +kernel
theorem dX10_number__5 : decode cX10_number_ 5 = .ok (.ifCond .eq 21, 3) := by decide +kernel
theorem dX10_number__8 : decode cX10_number_ 8 = .ok (.aload_n 0, 1) := by decide +kernel
theorem dX10_number__9 : decode cX10_number_ 9 = .ok (.iload_n 2, 1) := by decide +kernel
theorem dX10_number__10 : decode cX10_number_ 10 = .ok (.invokevirtual 234, 3) := by decide +kernel
theorem dX10_number__13 : decode cX10_number_ 13 = .ok (.ifCond .eq 13, 3) := by decide +kernel
theorem dX10_number__16 : decode cX10_number_ 16 = .ok (.iload_n 3, 1) := by decide +kernel
theorem dX10_number__17 : decode cX10_number_ 17 = .ok (.i2l, 1) := by decide +kernel
theorem dX10_number__18 : decode cX10_number_ 18 = .ok (.lconst 0, 1) := by decide +kernel
theorem dX10_number__19 : decode cX10_number_ 19 = .ok (.lconst 1, 1) := by decide +kernel
theorem dX10_number__20 : decode cX10_number_ 20 = .ok (.invokestatic 51, 3) := by decide +kernel
theorem dX10_number__23 : decode cX10_number_ 23 = .ok (.ifCond .ne 6, 3) := by decide +kernel
theorem dX10_number__26 : decode cX10_number_ 26 = .ok (.ldc 177, 2) := by decide +kernel
theorem dX10_number__28 : decode cX10_number_ 28 = .ok (.ireturn, 1) := by decide +kernel
theorem dX10_number__29 : decode cX10_number_ 29 = .ok (.aload_n 0, 1) := by decide +kernel
theorem dX10_number__30 : decode cX10_number_ 30 = .ok (.invokevirtual 221, 3) := by decide +kernel
theorem dX10_number__33 : decode cX10_number_ 33 = .ok (.aload_n 0, 1) := by decide +kernel
theorem dX10_number__34 : decode cX10_number_ 34 = .ok (.iload_n 1, 1) := by decide +kernel
theorem dX10_number__35 : decode cX10_number_ 35 = .ok (.iload_n 2, 1) := by decide +kernel
theorem dX10_number__36 : decode cX10_number_ 36 = .ok (.invokevirtual 73, 3) := by decide +kernel
theorem dX10_number__39 : decode cX10_number_ 39 = .ok (.ifCond .ne 6, 3) := by decide +kernel
theorem dX10_number__42 : decode cX10_number_ 42 = .ok (.ldc 61, 2) := by decide +kernel
theorem dX10_number__44 : decode cX10_number_ 44 = .ok (.ireturn, 1) := by decide +kernel
theorem dX10_number__45 : decode cX10_number_ 45 = .ok (.iload_n 3, 1) := by decide +kernel
theorem dX10_number__46 : decode cX10_number_ 46 = .ok (.ifCond .ne 18, 3) := by decide +kernel
theorem dX10_number__49 : decode cX10_number_ 49 = .ok (.aload_n 0, 1) := by decide +kernel
theorem dX10_number__50 : decode cX10_number_ 50 = .ok (.getfield 29, 3) := by decide +kernel
theorem dX10_number__53 : decode cX10_number_ 53 = .ok (.sipush 200, 3) := by decide +kernel
theorem dX10_number__56 : decode cX10_number_ 56 = .ok (.iload_n 1, 1) := by decide +kernel
theorem dX10_number__57 : decode cX10_number_ 57 = .ok (.imul, 1) := by decide +kernel
theorem dX10_number__58 : decode cX10_number_ 58 = .ok (.iload_n 2, 1) := by decide +kernel
theorem dX10_number__59 : decode cX10_number_ 59 = .ok (.iadd, 1) := by decide +kernel
theorem dX10_number__60 : decode cX10_number_ 60 = .ok (.iaload, 1) := by decide +kernel
theorem dX10_number__61 : decode cX10_number_ 61 = .ok (.goto 15, 3) := by decide +kernel
theorem dX10_number__64 : decode cX10_number_ 64 = .ok (.aload_n 0, 1) := by decide +kernel
theorem dX10_number__65 : decode cX10_number_ 65 = .ok (.getfield 32, 3) := by decide +kernel
theorem dX10_number__68 : decode cX10_number_ 68 = .ok (.sipush 200, 3) := by decide +kernel
theorem dX10_number__71 : decode cX10_number_ 71 = .ok (.iload_n 1, 1) := by decide +kernel
theorem dX10_number__72 : decode cX10_number_ 72 = .ok (.imul, 1) := by decide +kernel
theorem dX10_number__73 : decode cX10_number_ 73 = .ok (.iload_n 2, 1) := by decide +kernel
theorem dX10_number__74 : decode cX10_number_ 74 = .ok (.iadd, 1) := by decide +kernel
theorem dX10_number__75 : decode cX10_number_ 75 = .ok (.iaload, 1) := by decide +kernel
theorem dX10_number__76 : decode cX10_number_ 76 = .ok (.ireturn, 1) := by decide +kernel
theorem dX10_meant_0 : decode cX10_meant 0 = .ok (.aload_n 0, 1) := by decide +kernel
theorem dX10_meant_1 : decode cX10_meant 1 = .ok (.iload_n 1, 1) := by decide +kernel
theorem dX10_meant_2 : decode cX10_meant 2 = .ok (.invokevirtual 55, 3) := by decide +kernel
theorem dX10_meant_5 : decode cX10_meant 5 = .ok (.ifCond .eq 28, 3) := by decide +kernel
theorem dX10_meant_8 : decode cX10_meant 8 = .ok (.iload_n 2, 1) := by decide +kernel
theorem dX10_meant_9 : decode cX10_meant 9 = .ok (.invokestatic 145, 3) := by decide +kernel
theorem dX10_meant_12 : decode cX10_meant 12 = .ok (.ifCond .eq 21, 3) := by decide +kernel
theorem dX10_meant_15 : decode cX10_meant 15 = .ok (.iload_n 3, 1) := by decide +kernel
theorem dX10_meant_16 : decode cX10_meant 16 = .ok (.ifCond .lt 17, 3) := by decide +kernel
theorem dX10_meant_19 : decode cX10_meant 19 = .ok (.iload_n 3, 1) := by decide +kernel
theorem dX10_meant_20 : decode cX10_meant 20 = .ok (.i2l, 1) := by decide +kernel
theorem dX10_meant_21 : decode cX10_meant 21 = .ok (.ldc2_w 211, 3) := by decide +kernel
theorem dX10_meant_24 : decode cX10_meant 24 = .ok (.ldc2_w 258, 3) := by decide +kernel
theorem dX10_meant_27 : decode cX10_meant 27 = .ok (.invokestatic 51, 3) := by decide +kernel
theorem dX10_meant_30 : decode cX10_meant 30 = .ok (.ifCond .eq 6, 3) := by decide +kernel
theorem dX10_meant_33 : decode cX10_meant 33 = .ok (.ldc 177, 2) := by decide +kernel
theorem dX10_meant_35 : decode cX10_meant 35 = .ok (.ireturn, 1) := by decide +kernel
theorem dX10_meant_36 : decode cX10_meant 36 = .ok (.aload_n 0, 1) := by decide +kernel
theorem dX10_meant_37 : decode cX10_meant 37 = .ok (.invokevirtual 221, 3) := by decide +kernel
theorem dX10_meant_40 : decode cX10_meant 40 = .ok (.iload_n 3, 1) := by decide +kernel
theorem dX10_meant_41 : decode cX10_meant 41 = .ok (.iconst 3, 1) := by decide +kernel
theorem dX10_meant_42 : decode cX10_meant 42 = .ok (.if_icmp .ge 11, 3) := by decide +kernel
theorem dX10_meant_45 : decode cX10_meant 45 = .ok (.aload_n 0, 1) := by decide +kernel
theorem dX10_meant_46 : decode cX10_meant 46 = .ok (.iload_n 1, 1) := by decide +kernel
theorem dX10_meant_47 : decode cX10_meant 47 = .ok (.iload_n 2, 1) := by decide +kernel
theorem dX10_meant_48 : decode cX10_meant 48 = .ok (.iload_n 3, 1) := by decide +kernel
theorem dX10_meant_49 : decode cX10_meant 49 = .ok (.invokevirtual 239, 3) := by decide +kernel
theorem dX10_meant_52 : decode cX10_meant 52 = .ok (.ireturn, 1) := by decide +kernel
theorem dX10_meant_53 : decode cX10_meant 53 = .ok (.iload_n 3, 1) := by decide +kernel
theorem dX10_meant_54 : decode cX10_meant 54 = .ok (.bipush 10, 2) := by decide +kernel
theorem dX10_meant_56 : decode cX10_meant 56 = .ok (.isub, 1) := by decide +kernel
theorem dX10_meant_57 : decode cX10_meant 57 = .ok (.istore 4, 2) := by decide +kernel
theorem dX10_meant_59 : decode cX10_meant 59 = .ok (.iconst 0, 1) := by decide +kernel
theorem dX10_meant_60 : decode cX10_meant 60 = .ok (.istore 5, 2) := by decide +kernel
theorem dX10_meant_62 : decode cX10_meant 62 = .ok (.iload 5, 2) := by decide +kernel
theorem dX10_meant_64 : decode cX10_meant 64 = .ok (.aload_n 0, 1) := by decide +kernel
theorem dX10_meant_65 : decode cX10_meant 65 = .ok (.getfield 7, 3) := by decide +kernel
theorem dX10_meant_68 : decode cX10_meant 68 = .ok (.iconst 0, 1) := by decide +kernel
theorem dX10_meant_69 : decode cX10_meant 69 = .ok (.iaload, 1) := by decide +kernel
theorem dX10_meant_70 : decode cX10_meant 70 = .ok (.if_icmp .ge 31, 3) := by decide +kernel
theorem dX10_meant_73 : decode cX10_meant 73 = .ok (.aload_n 0, 1) := by decide +kernel
theorem dX10_meant_74 : decode cX10_meant 74 = .ok (.iload_n 1, 1) := by decide +kernel
theorem dX10_meant_75 : decode cX10_meant 75 = .ok (.iload_n 2, 1) := by decide +kernel
theorem dX10_meant_76 : decode cX10_meant 76 = .ok (.iload 5, 2) := by decide +kernel
theorem dX10_meant_78 : decode cX10_meant 78 = .ok (.invokevirtual 69, 3) := by decide +kernel
theorem dX10_meant_81 : decode cX10_meant 81 = .ok (.ifCond .eq 14, 3) := by decide +kernel
theorem dX10_meant_84 : decode cX10_meant 84 = .ok (.iload 4, 2) := by decide +kernel
theorem dX10_meant_86 : decode cX10_meant 86 = .ok (.ifCond .ne 6, 3) := by decide +kernel
theorem dX10_meant_89 : decode cX10_meant 89 = .ok (.iload 5, 2) := by decide +kernel
theorem dX10_meant_91 : decode cX10_meant 91 = .ok (.ireturn, 1) := by decide +kernel
theorem dX10_meant_92 : decode cX10_meant 92 = .ok (.iinc 4 (-1), 3) := by decide +kernel
theorem dX10_meant_95 : decode cX10_meant 95 = .ok (.iinc 5 1, 3) := by decide +kernel
theorem dX10_meant_98 : decode cX10_meant 98 = .ok (.goto (-36), 3) := by decide +kernel
theorem dX10_meant_101 : decode cX10_meant 101 = .ok (.ldc 61, 2) := by decide +kernel
theorem dX10_meant_103 : decode cX10_meant 103 = .ok (.ireturn, 1) := by decide +kernel
theorem dX10_left_0 : decode cX10_left 0 = .ok (.aload_n 0, 1) := by decide +kernel
theorem dX10_left_1 : decode cX10_left 1 = .ok (.iload_n 1, 1) := by decide +kernel
theorem dX10_left_2 : decode cX10_left 2 = .ok (.invokevirtual 55, 3) := by decide +kernel
theorem dX10_left_5 : decode cX10_left 5 = .ok (.ifCond .eq 17, 3) := by decide +kernel
theorem dX10_left_8 : decode cX10_left 8 = .ok (.iload_n 2, 1) := by decide +kernel
theorem dX10_left_9 : decode cX10_left 9 = .ok (.ifCond .lt 13, 3) := by decide +kernel
theorem dX10_left_12 : decode cX10_left 12 = .ok (.iload_n 3, 1) := by decide +kernel
theorem dX10_left_13 : decode cX10_left 13 = .ok (.i2l, 1) := by decide +kernel
theorem dX10_left_14 : decode cX10_left 14 = .ok (.lconst 0, 1) := by decide +kernel
theorem dX10_left_15 : decode cX10_left 15 = .ok (.lconst 1, 1) := by decide +kernel
theorem dX10_left_16 : decode cX10_left 16 = .ok (.invokestatic 51, 3) := by decide +kernel
theorem dX10_left_19 : decode cX10_left 19 = .ok (.ifCond .ne 6, 3) := by decide +kernel
theorem dX10_left_22 : decode cX10_left 22 = .ok (.ldc 177, 2) := by decide +kernel
theorem dX10_left_24 : decode cX10_left 24 = .ok (.ireturn, 1) := by decide +kernel
theorem dX10_left_25 : decode cX10_left 25 = .ok (.aload_n 0, 1) := by decide +kernel
theorem dX10_left_26 : decode cX10_left 26 = .ok (.invokevirtual 221, 3) := by decide +kernel
theorem dX10_left_29 : decode cX10_left 29 = .ok (.iconst 0, 1) := by decide +kernel
theorem dX10_left_30 : decode cX10_left 30 = .ok (.istore 4, 2) := by decide +kernel
theorem dX10_left_32 : decode cX10_left 32 = .ok (.ldc 61, 2) := by decide +kernel
theorem dX10_left_34 : decode cX10_left 34 = .ok (.istore 5, 2) := by decide +kernel
theorem dX10_left_36 : decode cX10_left 36 = .ok (.iconst 0, 1) := by decide +kernel
theorem dX10_left_37 : decode cX10_left 37 = .ok (.istore 6, 2) := by decide +kernel
theorem dX10_left_39 : decode cX10_left 39 = .ok (.iload 6, 2) := by decide +kernel
theorem dX10_left_41 : decode cX10_left 41 = .ok (.aload_n 0, 1) := by decide +kernel
theorem dX10_left_42 : decode cX10_left 42 = .ok (.getfield 7, 3) := by decide +kernel
theorem dX10_left_45 : decode cX10_left 45 = .ok (.iconst 0, 1) := by decide +kernel
theorem dX10_left_46 : decode cX10_left 46 = .ok (.iaload, 1) := by decide +kernel
theorem dX10_left_47 : decode cX10_left 47 = .ok (.if_icmp .gt 98, 3) := by decide +kernel
theorem dX10_left_50 : decode cX10_left 50 = .ok (.iload 6, 2) := by decide +kernel
theorem dX10_left_52 : decode cX10_left 52 = .ok (.aload_n 0, 1) := by decide +kernel
theorem dX10_left_53 : decode cX10_left 53 = .ok (.getfield 7, 3) := by decide +kernel
theorem dX10_left_56 : decode cX10_left 56 = .ok (.iconst 0, 1) := by decide +kernel
theorem dX10_left_57 : decode cX10_left 57 = .ok (.iaload, 1) := by decide +kernel
theorem dX10_left_58 : decode cX10_left 58 = .ok (.if_icmp .ge 17, 3) := by decide +kernel
theorem dX10_left_61 : decode cX10_left 61 = .ok (.aload_n 0, 1) := by decide +kernel
theorem dX10_left_62 : decode cX10_left 62 = .ok (.iload_n 1, 1) := by decide +kernel
theorem dX10_left_63 : decode cX10_left 63 = .ok (.iload 6, 2) := by decide +kernel
theorem dX10_left_65 : decode cX10_left 65 = .ok (.invokevirtual 73, 3) := by decide +kernel
theorem dX10_left_68 : decode cX10_left 68 = .ok (.ifCond .ne 7, 3) := by decide +kernel
theorem dX10_left_71 : decode cX10_left 71 = .ok (.iconst 1, 1) := by decide +kernel
theorem dX10_left_72 : decode cX10_left 72 = .ok (.goto 4, 3) := by decide +kernel
theorem dX10_left_75 : decode cX10_left 75 = .ok (.iconst 0, 1) := by decide +kernel
theorem dX10_left_76 : decode cX10_left 76 = .ok (.istore 7, 2) := by decide +kernel
theorem dX10_left_78 : decode cX10_left 78 = .ok (.iload 7, 2) := by decide +kernel
theorem dX10_left_80 : decode cX10_left 80 = .ok (.ifCond .eq 15, 3) := by decide +kernel
theorem dX10_left_83 : decode cX10_left 83 = .ok (.iload 5, 2) := by decide +kernel
theorem dX10_left_85 : decode cX10_left 85 = .ok (.ldc 61, 2) := by decide +kernel
theorem dX10_left_87 : decode cX10_left 87 = .ok (.if_icmp .ne 8, 3) := by decide +kernel
theorem dX10_left_90 : decode cX10_left 90 = .ok (.iload 6, 2) := by decide +kernel
theorem dX10_left_92 : decode cX10_left 92 = .ok (.goto 5, 3) := by decide +kernel
theorem dX10_left_95 : decode cX10_left 95 = .ok (.iload 5, 2) := by decide +kernel
theorem dX10_left_97 : decode cX10_left 97 = .ok (.istore 5, 2) := by decide +kernel
theorem dX10_left_99 : decode cX10_left 99 = .ok (.iload 7, 2) := by decide +kernel
theorem dX10_left_101 : decode cX10_left 101 = .ok (.ifCond .ne 38, 3) := by decide +kernel
theorem dX10_left_104 : decode cX10_left 104 = .ok (.iload 5, 2) := by decide +kernel
theorem dX10_left_106 : decode cX10_left 106 = .ok (.ldc 61, 2) := by decide +kernel
theorem dX10_left_108 : decode cX10_left 108 = .ok (.if_icmp .eq 31, 3) := by decide +kernel
theorem dX10_left_111 : decode cX10_left 111 = .ok (.iload 4, 2) := by decide +kernel
theorem dX10_left_113 : decode cX10_left 113 = .ok (.iload_n 2, 1) := by decide +kernel
theorem dX10_left_114 : decode cX10_left 114 = .ok (.if_icmp .ne 18, 3) := by decide +kernel
theorem dX10_left_117 : decode cX10_left 117 = .ok (.iload_n 3, 1) := by decide +kernel
theorem dX10_left_118 : decode cX10_left 118 = .ok (.ifCond .ne 8, 3) := by decide +kernel
theorem dX10_left_121 : decode cX10_left 121 = .ok (.iload 5, 2) := by decide +kernel
theorem dX10_left_123 : decode cX10_left 123 = .ok (.goto 8, 3) := by decide +kernel
theorem dX10_left_126 : decode cX10_left 126 = .ok (.iload 6, 2) := by decide +kernel
theorem dX10_left_128 : decode cX10_left 128 = .ok (.iload 5, 2) := by decide +kernel
theorem dX10_left_130 : decode cX10_left 130 = .ok (.isub, 1) := by decide +kernel
theorem dX10_left_131 : decode cX10_left 131 = .ok (.ireturn, 1) := by decide +kernel
theorem dX10_left_132 : decode cX10_left 132 = .ok (.iinc 4 1, 3) := by decide +kernel
theorem dX10_left_135 : decode cX10_left 135 = .ok (.ldc 61, 2) := by decide +kernel
theorem dX10_left_137 : decode cX10_left 137 = .ok (.istore 5, 2) := by decide +kernel
theorem dX10_left_139 : decode cX10_left 139 = .ok (.iinc 6 1, 3) := by decide +kernel
theorem dX10_left_142 : decode cX10_left 142 = .ok (.goto (-103), 3) := by decide +kernel
theorem dX10_left_145 : decode cX10_left 145 = .ok (.ldc 61, 2) := by decide +kernel
theorem dX10_left_147 : decode cX10_left 147 = .ok (.ireturn, 1) := by decide +kernel
theorem dX10_in_0 : decode cX10_in 0 = .ok (.aload_n 0, 1) := by decide +kernel
theorem dX10_in_1 : decode cX10_in 1 = .ok (.iload_n 1, 1) := by decide +kernel
theorem dX10_in_2 : decode cX10_in 2 = .ok (.invokevirtual 55, 3) := by decide +kernel
theorem dX10_in_5 : decode cX10_in 5 = .ok (.ifCond .eq 31, 3) := by decide +kernel
theorem dX10_in_8 : decode cX10_in 8 = .ok (.iload_n 2, 1) := by decide +kernel
theorem dX10_in_9 : decode cX10_in 9 = .ok (.invokestatic 145, 3) := by decide +kernel
theorem dX10_in_12 : decode cX10_in 12 = .ok (.ifCond .eq 24, 3) := by decide +kernel
theorem dX10_in_15 : decode cX10_in 15 = .ok (.aload_n 0, 1) := by decide +kernel
theorem dX10_in_16 : decode cX10_in 16 = .ok (.iload_n 3, 1) := by decide +kernel
theorem dX10_in_17 : decode cX10_in 17 = .ok (.invokevirtual 55, 3) := by decide +kernel
theorem dX10_in_20 : decode cX10_in 20 = .ok (.ifCond .eq 16, 3) := by decide +kernel
theorem dX10_in_23 : decode cX10_in 23 = .ok (.iload 4, 2) := by decide +kernel
theorem dX10_in_25 : decode cX10_in 25 = .ok (.i2l, 1) := by decide +kernel
theorem dX10_in_26 : decode cX10_in 26 = .ok (.lconst 0, 1) := by decide +kernel
theorem dX10_in_27 : decode cX10_in 27 = .ok (.ldc2_w 219, 3) := by decide +kernel
theorem dX10_in_30 : decode cX10_in 30 = .ok (.invokestatic 51, 3) := by decide +kernel
theorem dX10_in_33 : decode cX10_in 33 = .ok (.ifCond .ne 6, 3) := by decide +kernel
theorem dX10_in_36 : decode cX10_in 36 = .ok (.ldc 177, 2) := by decide +kernel
theorem dX10_in_38 : decode cX10_in 38 = .ok (.ireturn, 1) := by decide +kernel
theorem dX10_in_39 : decode cX10_in 39 = .ok (.aload_n 0, 1) := by decide +kernel
theorem dX10_in_40 : decode cX10_in 40 = .ok (.invokevirtual 221, 3) := by decide +kernel
theorem dX10_in_43 : decode cX10_in 43 = .ok (.aload_n 0, 1) := by decide +kernel
theorem dX10_in_44 : decode cX10_in 44 = .ok (.getfield 35, 3) := by decide +kernel
theorem dX10_in_47 : decode cX10_in 47 = .ok (.invokestatic 87, 3) := by decide +kernel
theorem dX10_in_50 : decode cX10_in 50 = .ok (.aload_n 0, 1) := by decide +kernel
theorem dX10_in_51 : decode cX10_in 51 = .ok (.iload_n 1, 1) := by decide +kernel
theorem dX10_in_52 : decode cX10_in 52 = .ok (.iload_n 2, 1) := by decide +kernel
theorem dX10_in_53 : decode cX10_in 53 = .ok (.iload_n 3, 1) := by decide +kernel
theorem dX10_in_54 : decode cX10_in 54 = .ok (.aload_n 0, 1) := by decide +kernel
theorem dX10_in_55 : decode cX10_in 55 = .ok (.getfield 35, 3) := by decide +kernel
theorem dX10_in_58 : decode cX10_in 58 = .ok (.invokevirtual 91, 3) := by decide +kernel
theorem dX10_in_61 : decode cX10_in 61 = .ok (.aload_n 0, 1) := by decide +kernel
theorem dX10_in_62 : decode cX10_in 62 = .ok (.getfield 35, 3) := by decide +kernel
theorem dX10_in_65 : decode cX10_in 65 = .ok (.iload 4, 2) := by decide +kernel
theorem dX10_in_67 : decode cX10_in 67 = .ok (.invokestatic 251, 3) := by decide +kernel
theorem dX10_in_70 : decode cX10_in 70 = .ok (.ireturn, 1) := by decide +kernel
theorem dX10_through_0 : decode cX10_through 0 = .ok (.aload_n 0, 1) := by decide +kernel
theorem dX10_through_1 : decode cX10_through 1 = .ok (.iload_n 1, 1) := by decide +kernel
theorem dX10_through_2 : decode cX10_through 2 = .ok (.invokevirtual 55, 3) := by decide +kernel
theorem dX10_through_5 : decode cX10_through 5 = .ok (.ifCond .eq 40, 3) := by decide +kernel
theorem dX10_through_8 : decode cX10_through 8 = .ok (.iload_n 2, 1) := by decide +kernel
theorem dX10_through_9 : decode cX10_through 9 = .ok (.invokestatic 145, 3) := by decide +kernel
theorem dX10_through_12 : decode cX10_through 12 = .ok (.ifCond .eq 33, 3) := by decide +kernel
theorem dX10_through_15 : decode cX10_through 15 = .ok (.aload_n 0, 1) := by decide +kernel
theorem dX10_through_16 : decode cX10_through 16 = .ok (.iload_n 3, 1) := by decide +kernel
theorem dX10_through_17 : decode cX10_through 17 = .ok (.invokevirtual 55, 3) := by decide +kernel
theorem dX10_through_20 : decode cX10_through 20 = .ok (.ifCond .eq 25, 3) := by decide +kernel
theorem dX10_through_23 : decode cX10_through 23 = .ok (.aload_n 0, 1) := by decide +kernel
theorem dX10_through_24 : decode cX10_through 24 = .ok (.iload 4, 2) := by decide +kernel
theorem dX10_through_26 : decode cX10_through 26 = .ok (.invokevirtual 55, 3) := by decide +kernel
theorem dX10_through_29 : decode cX10_through 29 = .ok (.ifCond .eq 16, 3) := by decide +kernel
theorem dX10_through_32 : decode cX10_through 32 = .ok (.iload 5, 2) := by decide +kernel
theorem dX10_through_34 : decode cX10_through 34 = .ok (.i2l, 1) := by decide +kernel
theorem dX10_through_35 : decode cX10_through 35 = .ok (.lconst 0, 1) := by decide +kernel
theorem dX10_through_36 : decode cX10_through 36 = .ok (.ldc2_w 219, 3) := by decide +kernel
theorem dX10_through_39 : decode cX10_through 39 = .ok (.invokestatic 51, 3) := by decide +kernel
theorem dX10_through_42 : decode cX10_through 42 = .ok (.ifCond .ne 6, 3) := by decide +kernel
theorem dX10_through_45 : decode cX10_through 45 = .ok (.ldc 177, 2) := by decide +kernel
theorem dX10_through_47 : decode cX10_through 47 = .ok (.ireturn, 1) := by decide +kernel
theorem dX10_through_48 : decode cX10_through 48 = .ok (.aload_n 0, 1) := by decide +kernel
theorem dX10_through_49 : decode cX10_through 49 = .ok (.invokevirtual 221, 3) := by decide +kernel
theorem dX10_through_52 : decode cX10_through 52 = .ok (.aload_n 0, 1) := by decide +kernel
theorem dX10_through_53 : decode cX10_through 53 = .ok (.iload_n 1, 1) := by decide +kernel
theorem dX10_through_54 : decode cX10_through 54 = .ok (.iload_n 2, 1) := by decide +kernel
theorem dX10_through_55 : decode cX10_through 55 = .ok (.iload_n 3, 1) := by decide +kernel
theorem dX10_through_56 : decode cX10_through 56 = .ok (.iload 4, 2) := by decide +kernel
theorem dX10_through_58 : decode cX10_through 58 = .ok (.invokevirtual 260, 3) := by decide +kernel
theorem dX10_through_61 : decode cX10_through 61 = .ok (.aload_n 0, 1) := by decide +kernel
theorem dX10_through_62 : decode cX10_through 62 = .ok (.getfield 35, 3) := by decide +kernel
theorem dX10_through_65 : decode cX10_through 65 = .ok (.iload 5, 2) := by decide +kernel
theorem dX10_through_67 : decode cX10_through 67 = .ok (.invokestatic 251, 3) := by decide +kernel
theorem dX10_through_70 : decode cX10_through 70 = .ok (.ireturn, 1) := by decide +kernel
theorem dX10_shift_0 : decode cX10_shift 0 = .ok (.aload_n 0, 1) := by decide +kernel
theorem dX10_shift_1 : decode cX10_shift 1 = .ok (.iload_n 1, 1) := by decide +kernel
theorem dX10_shift_2 : decode cX10_shift 2 = .ok (.invokevirtual 55, 3) := by decide +kernel
theorem dX10_shift_5 : decode cX10_shift 5 = .ok (.ifCond .eq 37, 3) := by decide +kernel
theorem dX10_shift_8 : decode cX10_shift 8 = .ok (.aload_n 0, 1) := by decide +kernel
theorem dX10_shift_9 : decode cX10_shift 9 = .ok (.iload_n 2, 1) := by decide +kernel
theorem dX10_shift_10 : decode cX10_shift 10 = .ok (.invokevirtual 55, 3) := by decide +kernel
theorem dX10_shift_13 : decode cX10_shift 13 = .ok (.ifCond .eq 29, 3) := by decide +kernel
theorem dX10_shift_16 : decode cX10_shift 16 = .ok (.iload_n 3, 1) := by decide +kernel
theorem dX10_shift_17 : decode cX10_shift 17 = .ok (.iconst (-1), 1) := by decide +kernel
theorem dX10_shift_18 : decode cX10_shift 18 = .ok (.if_icmp .lt 24, 3) := by decide +kernel
theorem dX10_shift_21 : decode cX10_shift 21 = .ok (.iload 4, 2) := by decide +kernel
theorem dX10_shift_23 : decode cX10_shift 23 = .ok (.i2l, 1) := by decide +kernel
theorem dX10_shift_24 : decode cX10_shift 24 = .ok (.lconst 0, 1) := by decide +kernel
theorem dX10_shift_25 : decode cX10_shift 25 = .ok (.iload_n 3, 1) := by decide +kernel
theorem dX10_shift_26 : decode cX10_shift 26 = .ok (.ifCond .ge 7, 3) := by decide +kernel
theorem dX10_shift_29 : decode cX10_shift 29 = .ok (.lconst 0, 1) := by decide +kernel
theorem dX10_shift_30 : decode cX10_shift 30 = .ok (.goto 6, 3) := by decide +kernel
theorem dX10_shift_33 : decode cX10_shift 33 = .ok (.ldc2_w 219, 3) := by decide +kernel
theorem dX10_shift_36 : decode cX10_shift 36 = .ok (.invokestatic 51, 3) := by decide +kernel
theorem dX10_shift_39 : decode cX10_shift 39 = .ok (.ifCond .ne 6, 3) := by decide +kernel
theorem dX10_shift_42 : decode cX10_shift 42 = .ok (.ldc 177, 2) := by decide +kernel
theorem dX10_shift_44 : decode cX10_shift 44 = .ok (.ireturn, 1) := by decide +kernel
theorem dX10_shift_45 : decode cX10_shift 45 = .ok (.aload_n 0, 1) := by decide +kernel
theorem dX10_shift_46 : decode cX10_shift 46 = .ok (.invokevirtual 221, 3) := by decide +kernel
theorem dX10_shift_49 : decode cX10_shift 49 = .ok (.iconst 0, 1) := by decide +kernel
theorem dX10_shift_50 : decode cX10_shift 50 = .ok (.istore 5, 2) := by decide +kernel
theorem dX10_shift_52 : decode cX10_shift 52 = .ok (.aload_n 0, 1) := by decide +kernel
theorem dX10_shift_53 : decode cX10_shift 53 = .ok (.iconst 0, 1) := by decide +kernel
theorem dX10_shift_54 : decode cX10_shift 54 = .ok (.putfield 264, 3) := by decide +kernel
theorem dX10_shift_57 : decode cX10_shift 57 = .ok (.iconst 1, 1) := by decide +kernel
theorem dX10_shift_58 : decode cX10_shift 58 = .ok (.istore 6, 2) := by decide +kernel
theorem dX10_shift_60 : decode cX10_shift 60 = .ok (.iload 6, 2) := by decide +kernel
theorem dX10_shift_62 : decode cX10_shift 62 = .ok (.sipush 1000, 3) := by decide +kernel
theorem dX10_shift_65 : decode cX10_shift 65 = .ok (.if_icmp .ge 104, 3) := by decide +kernel
theorem dX10_shift_68 : decode cX10_shift 68 = .ok (.aload_n 0, 1) := by decide +kernel
theorem dX10_shift_69 : decode cX10_shift 69 = .ok (.getfield 35, 3) := by decide +kernel
theorem dX10_shift_72 : decode cX10_shift 72 = .ok (.invokestatic 87, 3) := by decide +kernel
theorem dX10_shift_75 : decode cX10_shift 75 = .ok (.aload_n 0, 1) := by decide +kernel
theorem dX10_shift_76 : decode cX10_shift 76 = .ok (.iload_n 1, 1) := by decide +kernel
theorem dX10_shift_77 : decode cX10_shift 77 = .ok (.iload 6, 2) := by decide +kernel
theorem dX10_shift_79 : decode cX10_shift 79 = .ok (.iload_n 2, 1) := by decide +kernel
theorem dX10_shift_80 : decode cX10_shift 80 = .ok (.aload_n 0, 1) := by decide +kernel
theorem dX10_shift_81 : decode cX10_shift 81 = .ok (.getfield 35, 3) := by decide +kernel
theorem dX10_shift_84 : decode cX10_shift 84 = .ok (.invokevirtual 91, 3) := by decide +kernel
theorem dX10_shift_87 : decode cX10_shift 87 = .ok (.aload_n 0, 1) := by decide +kernel
theorem dX10_shift_88 : decode cX10_shift 88 = .ok (.getfield 35, 3) := by decide +kernel
theorem dX10_shift_91 : decode cX10_shift 91 = .ok (.invokestatic 81, 3) := by decide +kernel
theorem dX10_shift_94 : decode cX10_shift 94 = .ok (.istore 7, 2) := by decide +kernel
theorem dX10_shift_96 : decode cX10_shift 96 = .ok (.iload 7, 2) := by decide +kernel
theorem dX10_shift_98 : decode cX10_shift 98 = .ok (.ldc 61, 2) := by decide +kernel
theorem dX10_shift_100 : decode cX10_shift 100 = .ok (.if_icmp .eq 63, 3) := by decide +kernel
theorem dX10_shift_103 : decode cX10_shift 103 = .ok (.aload_n 0, 1) := by decide +kernel
theorem dX10_shift_104 : decode cX10_shift 104 = .ok (.getfield 264, 3) := by decide +kernel
theorem dX10_shift_107 : decode cX10_shift 107 = .ok (.ifCond .ne 8, 3) := by decide +kernel
theorem dX10_shift_110 : decode cX10_shift 110 = .ok (.ldc 61, 2) := by decide +kernel
theorem dX10_shift_112 : decode cX10_shift 112 = .ok (.goto 9, 3) := by decide +kernel
theorem dX10_shift_115 : decode cX10_shift 115 = .ok (.aload_n 0, 1) := by decide +kernel
theorem dX10_shift_116 : decode cX10_shift 116 = .ok (.iload 4, 2) := by decide +kernel
theorem dX10_shift_118 : decode cX10_shift 118 = .ok (.invokevirtual 276, 3) := by decide +kernel
theorem dX10_shift_121 : decode cX10_shift 121 = .ok (.istore 8, 2) := by decide +kernel
theorem dX10_shift_123 : decode cX10_shift 123 = .ok (.aload_n 0, 1) := by decide +kernel
theorem dX10_shift_124 : decode cX10_shift 124 = .ok (.iload 6, 2) := by decide +kernel
theorem dX10_shift_126 : decode cX10_shift 126 = .ok (.iload 7, 2) := by decide +kernel
theorem dX10_shift_128 : decode cX10_shift 128 = .ok (.aload_n 0, 1) := by decide +kernel
theorem dX10_shift_129 : decode cX10_shift 129 = .ok (.getfield 35, 3) := by decide +kernel
theorem dX10_shift_132 : decode cX10_shift 132 = .ok (.invokestatic 84, 3) := by decide +kernel
theorem dX10_shift_135 : decode cX10_shift 135 = .ok (.invokevirtual 279, 3) := by decide +kernel
theorem dX10_shift_138 : decode cX10_shift 138 = .ok (.istore 9, 2) := by decide +kernel
theorem dX10_shift_140 : decode cX10_shift 140 = .ok (.iload 9, 2) := by decide +kernel
theorem dX10_shift_142 : decode cX10_shift 142 = .ok (.ifCond .ne 21, 3) := by decide +kernel
theorem dX10_shift_145 : decode cX10_shift 145 = .ok (.iinc 5 1, 3) := by decide +kernel
theorem dX10_shift_148 : decode cX10_shift 148 = .ok (.iload_n 3, 1) := by decide +kernel
theorem dX10_shift_149 : decode cX10_shift 149 = .ok (.ifCond .lt 14, 3) := by decide +kernel
theorem dX10_shift_152 : decode cX10_shift 152 = .ok (.iload 5, 2) := by decide +kernel
theorem dX10_shift_154 : decode cX10_shift 154 = .ok (.iload_n 3, 1) := by decide +kernel
theorem dX10_shift_155 : decode cX10_shift 155 = .ok (.iconst 2, 1) := by decide +kernel
theorem dX10_shift_156 : decode cX10_shift 156 = .ok (.iadd, 1) := by decide +kernel
theorem dX10_shift_157 : decode cX10_shift 157 = .ok (.if_icmp .ne 6, 3) := by decide +kernel
theorem dX10_shift_160 : decode cX10_shift 160 = .ok (.iload 8, 2) := by decide +kernel
theorem dX10_shift_162 : decode cX10_shift 162 = .ok (.ireturn, 1) := by decide +kernel
theorem dX10_shift_163 : decode cX10_shift 163 = .ok (.iinc 6 1, 3) := by decide +kernel
theorem dX10_shift_166 : decode cX10_shift 166 = .ok (.goto (-106), 3) := by decide +kernel
theorem dX10_shift_169 : decode cX10_shift 169 = .ok (.iload_n 3, 1) := by decide +kernel
theorem dX10_shift_170 : decode cX10_shift 170 = .ok (.ifCond .ge 8, 3) := by decide +kernel
theorem dX10_shift_173 : decode cX10_shift 173 = .ok (.iload 5, 2) := by decide +kernel
theorem dX10_shift_175 : decode cX10_shift 175 = .ok (.goto 22, 3) := by decide +kernel
theorem dX10_shift_178 : decode cX10_shift 178 = .ok (.iload 5, 2) := by decide +kernel
theorem dX10_shift_180 : decode cX10_shift 180 = .ok (.iload_n 3, 1) := by decide +kernel
theorem dX10_shift_181 : decode cX10_shift 181 = .ok (.iconst 1, 1) := by decide +kernel
theorem dX10_shift_182 : decode cX10_shift 182 = .ok (.iadd, 1) := by decide +kernel
theorem dX10_shift_183 : decode cX10_shift 183 = .ok (.if_icmp .ne 12, 3) := by decide +kernel
theorem dX10_shift_186 : decode cX10_shift 186 = .ok (.aload_n 0, 1) := by decide +kernel
theorem dX10_shift_187 : decode cX10_shift 187 = .ok (.iload 4, 2) := by decide +kernel
theorem dX10_shift_189 : decode cX10_shift 189 = .ok (.invokevirtual 276, 3) := by decide +kernel
theorem dX10_shift_192 : decode cX10_shift 192 = .ok (.goto 5, 3) := by decide +kernel
theorem dX10_shift_195 : decode cX10_shift 195 = .ok (.ldc 61, 2) := by decide +kernel
theorem dX10_shift_197 : decode cX10_shift 197 = .ok (.ireturn, 1) := by decide +kernel
theorem dX10_table_0 : decode cX10_table 0 = .ok (.aload_n 0, 1) := by decide +kernel
theorem dX10_table_1 : decode cX10_table 1 = .ok (.iload_n 1, 1) := by decide +kernel
theorem dX10_table_2 : decode cX10_table 2 = .ok (.invokevirtual 55, 3) := by decide +kernel
theorem dX10_table_5 : decode cX10_table 5 = .ok (.ifCond .eq 23, 3) := by decide +kernel
theorem dX10_table_8 : decode cX10_table 8 = .ok (.aload_n 0, 1) := by decide +kernel
theorem dX10_table_9 : decode cX10_table 9 = .ok (.iload_n 2, 1) := by decide +kernel
theorem dX10_table_10 : decode cX10_table 10 = .ok (.invokevirtual 55, 3) := by decide +kernel
theorem dX10_table_13 : decode cX10_table 13 = .ok (.ifCond .eq 15, 3) := by decide +kernel
theorem dX10_table_16 : decode cX10_table 16 = .ok (.iload_n 3, 1) := by decide +kernel
theorem dX10_table_17 : decode cX10_table 17 = .ok (.i2l, 1) := by decide +kernel
theorem dX10_table_18 : decode cX10_table 18 = .ok (.lconst 0, 1) := by decide +kernel
theorem dX10_table_19 : decode cX10_table 19 = .ok (.ldc2_w 211, 3) := by decide +kernel
theorem dX10_table_22 : decode cX10_table 22 = .ok (.invokestatic 51, 3) := by decide +kernel
theorem dX10_table_25 : decode cX10_table 25 = .ok (.ifCond .ne 6, 3) := by decide +kernel
theorem dX10_table_28 : decode cX10_table 28 = .ok (.ldc 177, 2) := by decide +kernel
theorem dX10_table_30 : decode cX10_table 30 = .ok (.ireturn, 1) := by decide +kernel
theorem dX10_table_31 : decode cX10_table 31 = .ok (.aload_n 0, 1) := by decide +kernel
theorem dX10_table_32 : decode cX10_table 32 = .ok (.invokevirtual 221, 3) := by decide +kernel
theorem dX10_table_35 : decode cX10_table 35 = .ok (.iconst 0, 1) := by decide +kernel
theorem dX10_table_36 : decode cX10_table 36 = .ok (.istore 4, 2) := by decide +kernel
theorem dX10_table_38 : decode cX10_table 38 = .ok (.iconst 1, 1) := by decide +kernel
theorem dX10_table_39 : decode cX10_table 39 = .ok (.istore 5, 2) := by decide +kernel
theorem dX10_table_41 : decode cX10_table 41 = .ok (.iload 5, 2) := by decide +kernel
theorem dX10_table_43 : decode cX10_table 43 = .ok (.sipush 1000, 3) := by decide +kernel
theorem dX10_table_46 : decode cX10_table 46 = .ok (.if_icmp .ge 122, 3) := by decide +kernel
theorem dX10_table_49 : decode cX10_table 49 = .ok (.aload_n 0, 1) := by decide +kernel
theorem dX10_table_50 : decode cX10_table 50 = .ok (.iload_n 1, 1) := by decide +kernel
theorem dX10_table_51 : decode cX10_table 51 = .ok (.iload 5, 2) := by decide +kernel
theorem dX10_table_53 : decode cX10_table 53 = .ok (.iconst 0, 1) := by decide +kernel
theorem dX10_table_54 : decode cX10_table 54 = .ok (.invokevirtual 239, 3) := by decide +kernel
theorem dX10_table_57 : decode cX10_table 57 = .ok (.ifCond .le 105, 3) := by decide +kernel
theorem dX10_table_60 : decode cX10_table 60 = .ok (.aload_n 0, 1) := by decide +kernel
theorem dX10_table_61 : decode cX10_table 61 = .ok (.getfield 35, 3) := by decide +kernel
theorem dX10_table_64 : decode cX10_table 64 = .ok (.invokestatic 87, 3) := by decide +kernel
theorem dX10_table_67 : decode cX10_table 67 = .ok (.aload_n 0, 1) := by decide +kernel
theorem dX10_table_68 : decode cX10_table 68 = .ok (.iload_n 1, 1) := by decide +kernel
theorem dX10_table_69 : decode cX10_table 69 = .ok (.iload 5, 2) := by decide +kernel
theorem dX10_table_71 : decode cX10_table 71 = .ok (.iload_n 2, 1) := by decide +kernel
theorem dX10_table_72 : decode cX10_table 72 = .ok (.aload_n 0, 1) := by decide +kernel
theorem dX10_table_73 : decode cX10_table 73 = .ok (.getfield 35, 3) := by decide +kernel
theorem dX10_table_76 : decode cX10_table 76 = .ok (.invokevirtual 91, 3) := by decide +kernel
theorem dX10_table_79 : decode cX10_table 79 = .ok (.aload_n 0, 1) := by decide +kernel
theorem dX10_table_80 : decode cX10_table 80 = .ok (.getfield 35, 3) := by decide +kernel
theorem dX10_table_83 : decode cX10_table 83 = .ok (.invokestatic 77, 3) := by decide +kernel
theorem dX10_table_86 : decode cX10_table 86 = .ok (.istore 6, 2) := by decide +kernel
theorem dX10_table_88 : decode cX10_table 88 = .ok (.iload_n 3, 1) := by decide +kernel
theorem dX10_table_89 : decode cX10_table 89 = .ok (.iconst 3, 1) := by decide +kernel
theorem dX10_table_90 : decode cX10_table 90 = .ok (.if_icmp .ne 46, 3) := by decide +kernel
theorem dX10_table_93 : decode cX10_table 93 = .ok (.aload_n 0, 1) := by decide +kernel
theorem dX10_table_94 : decode cX10_table 94 = .ok (.iload_n 1, 1) := by decide +kernel
theorem dX10_table_95 : decode cX10_table 95 = .ok (.iload 5, 2) := by decide +kernel
theorem dX10_table_97 : decode cX10_table 97 = .ok (.iload_n 2, 1) := by decide +kernel
theorem dX10_table_98 : decode cX10_table 98 = .ok (.iload_n 1, 1) := by decide +kernel
theorem dX10_table_99 : decode cX10_table 99 = .ok (.invokevirtual 260, 3) := by decide +kernel
theorem dX10_table_102 : decode cX10_table 102 = .ok (.iload 4, 2) := by decide +kernel
theorem dX10_table_104 : decode cX10_table 104 = .ok (.aload_n 0, 1) := by decide +kernel
theorem dX10_table_105 : decode cX10_table 105 = .ok (.getfield 35, 3) := by decide +kernel
theorem dX10_table_108 : decode cX10_table 108 = .ok (.invokestatic 77, 3) := by decide +kernel
theorem dX10_table_111 : decode cX10_table 111 = .ok (.iconst 1, 1) := by decide +kernel
theorem dX10_table_112 : decode cX10_table 112 = .ok (.if_icmp .ne 17, 3) := by decide +kernel
theorem dX10_table_115 : decode cX10_table 115 = .ok (.aload_n 0, 1) := by decide +kernel
theorem dX10_table_116 : decode cX10_table 116 = .ok (.getfield 35, 3) := by decide +kernel
theorem dX10_table_119 : decode cX10_table 119 = .ok (.iload 5, 2) := by decide +kernel
theorem dX10_table_121 : decode cX10_table 121 = .ok (.baload, 1) := by decide +kernel
theorem dX10_table_122 : decode cX10_table 122 = .ok (.ifCond .eq 7, 3) := by decide +kernel
theorem dX10_table_125 : decode cX10_table 125 = .ok (.iconst 1, 1) := by decide +kernel
theorem dX10_table_126 : decode cX10_table 126 = .ok (.goto 4, 3) := by decide +kernel
theorem dX10_table_129 : decode cX10_table 129 = .ok (.iconst 0, 1) := by decide +kernel
theorem dX10_table_130 : decode cX10_table 130 = .ok (.iadd, 1) := by decide +kernel
theorem dX10_table_131 : decode cX10_table 131 = .ok (.istore 4, 2) := by decide +kernel
theorem dX10_table_133 : decode cX10_table 133 = .ok (.goto 29, 3) := by decide +kernel
theorem dX10_table_136 : decode cX10_table 136 = .ok (.iload 4, 2) := by decide +kernel
theorem dX10_table_138 : decode cX10_table 138 = .ok (.iload_n 3, 1) := by decide +kernel
theorem dX10_table_139 : decode cX10_table 139 = .ok (.iload 6, 2) := by decide +kernel
theorem dX10_table_141 : decode cX10_table 141 = .ok (.iconst 2, 1) := by decide +kernel
theorem dX10_table_142 : decode cX10_table 142 = .ok (.if_icmp .ge 8, 3) := by decide +kernel
theorem dX10_table_145 : decode cX10_table 145 = .ok (.iload 6, 2) := by decide +kernel
theorem dX10_table_147 : decode cX10_table 147 = .ok (.goto 4, 3) := by decide +kernel
theorem dX10_table_150 : decode cX10_table 150 = .ok (.iconst 2, 1) := by decide +kernel
theorem dX10_table_151 : decode cX10_table 151 = .ok (.if_icmp .ne 7, 3) := by decide +kernel
theorem dX10_table_154 : decode cX10_table 154 = .ok (.iconst 1, 1) := by decide +kernel
theorem dX10_table_155 : decode cX10_table 155 = .ok (.goto 4, 3) := by decide +kernel
theorem dX10_table_158 : decode cX10_table 158 = .ok (.iconst 0, 1) := by decide +kernel
theorem dX10_table_159 : decode cX10_table 159 = .ok (.iadd, 1) := by decide +kernel
theorem dX10_table_160 : decode cX10_table 160 = .ok (.istore 4, 2) := by decide +kernel
theorem dX10_table_162 : decode cX10_table 162 = .ok (.iinc 5 1, 3) := by decide +kernel
theorem dX10_table_165 : decode cX10_table 165 = .ok (.goto (-124), 3) := by decide +kernel
theorem dX10_table_168 : decode cX10_table 168 = .ok (.iload 4, 2) := by decide +kernel
theorem dX10_table_170 : decode cX10_table 170 = .ok (.ireturn, 1) := by decide +kernel
theorem dX10_share_0 : decode cX10_share 0 = .ok (.aload_n 0, 1) := by decide +kernel
theorem dX10_share_1 : decode cX10_share 1 = .ok (.iload_n 1, 1) := by decide +kernel
theorem dX10_share_2 : decode cX10_share 2 = .ok (.invokevirtual 55, 3) := by decide +kernel
theorem dX10_share_5 : decode cX10_share 5 = .ok (.ifCond .eq 11, 3) := by decide +kernel
theorem dX10_share_8 : decode cX10_share 8 = .ok (.aload_n 0, 1) := by decide +kernel
theorem dX10_share_9 : decode cX10_share 9 = .ok (.iload_n 2, 1) := by decide +kernel
theorem dX10_share_10 : decode cX10_share 10 = .ok (.invokevirtual 55, 3) := by decide +kernel
theorem dX10_share_13 : decode cX10_share 13 = .ok (.ifCond .ne 6, 3) := by decide +kernel
theorem dX10_share_16 : decode cX10_share 16 = .ok (.ldc 177, 2) := by decide +kernel
theorem dX10_share_18 : decode cX10_share 18 = .ok (.ireturn, 1) := by decide +kernel
theorem dX10_share_19 : decode cX10_share 19 = .ok (.aload_n 0, 1) := by decide +kernel
theorem dX10_share_20 : decode cX10_share 20 = .ok (.invokevirtual 221, 3) := by decide +kernel
theorem dX10_share_23 : decode cX10_share 23 = .ok (.iconst 0, 1) := by decide +kernel
theorem dX10_share_24 : decode cX10_share 24 = .ok (.istore_n 3, 1) := by decide +kernel
theorem dX10_share_25 : decode cX10_share 25 = .ok (.iconst 0, 1) := by decide +kernel
theorem dX10_share_26 : decode cX10_share 26 = .ok (.istore 4, 2) := by decide +kernel
theorem dX10_share_28 : decode cX10_share 28 = .ok (.iconst 0, 1) := by decide +kernel
theorem dX10_share_29 : decode cX10_share 29 = .ok (.istore 5, 2) := by decide +kernel
theorem dX10_share_31 : decode cX10_share 31 = .ok (.iload 5, 2) := by decide +kernel
theorem dX10_share_33 : decode cX10_share 33 = .ok (.aload_n 0, 1) := by decide +kernel
theorem dX10_share_34 : decode cX10_share 34 = .ok (.getfield 7, 3) := by decide +kernel
theorem dX10_share_37 : decode cX10_share 37 = .ok (.iconst 0, 1) := by decide +kernel
theorem dX10_share_38 : decode cX10_share 38 = .ok (.iaload, 1) := by decide +kernel
theorem dX10_share_39 : decode cX10_share 39 = .ok (.if_icmp .ge 67, 3) := by decide +kernel
theorem dX10_share_42 : decode cX10_share 42 = .ok (.iload_n 3, 1) := by decide +kernel
theorem dX10_share_43 : decode cX10_share 43 = .ok (.aload_n 0, 1) := by decide +kernel
theorem dX10_share_44 : decode cX10_share 44 = .ok (.iload_n 1, 1) := by decide +kernel
theorem dX10_share_45 : decode cX10_share 45 = .ok (.iload 5, 2) := by decide +kernel
theorem dX10_share_47 : decode cX10_share 47 = .ok (.invokevirtual 73, 3) := by decide +kernel
theorem dX10_share_50 : decode cX10_share 50 = .ok (.ifCond .eq 17, 3) := by decide +kernel
theorem dX10_share_53 : decode cX10_share 53 = .ok (.aload_n 0, 1) := by decide +kernel
theorem dX10_share_54 : decode cX10_share 54 = .ok (.iload_n 2, 1) := by decide +kernel
theorem dX10_share_55 : decode cX10_share 55 = .ok (.iload 5, 2) := by decide +kernel
theorem dX10_share_57 : decode cX10_share 57 = .ok (.invokevirtual 73, 3) := by decide +kernel
theorem dX10_share_60 : decode cX10_share 60 = .ok (.ifCond .eq 7, 3) := by decide +kernel
theorem dX10_share_63 : decode cX10_share 63 = .ok (.iconst 1, 1) := by decide +kernel
theorem dX10_share_64 : decode cX10_share 64 = .ok (.goto 4, 3) := by decide +kernel
theorem dX10_share_67 : decode cX10_share 67 = .ok (.iconst 0, 1) := by decide +kernel
theorem dX10_share_68 : decode cX10_share 68 = .ok (.iadd, 1) := by decide +kernel
theorem dX10_share_69 : decode cX10_share 69 = .ok (.istore_n 3, 1) := by decide +kernel
theorem dX10_share_70 : decode cX10_share 70 = .ok (.iload 4, 2) := by decide +kernel
theorem dX10_share_72 : decode cX10_share 72 = .ok (.aload_n 0, 1) := by decide +kernel
theorem dX10_share_73 : decode cX10_share 73 = .ok (.iload_n 1, 1) := by decide +kernel
theorem dX10_share_74 : decode cX10_share 74 = .ok (.iload 5, 2) := by decide +kernel
theorem dX10_share_76 : decode cX10_share 76 = .ok (.invokevirtual 73, 3) := by decide +kernel
theorem dX10_share_79 : decode cX10_share 79 = .ok (.ifCond .ne 13, 3) := by decide +kernel
theorem dX10_share_82 : decode cX10_share 82 = .ok (.aload_n 0, 1) := by decide +kernel
theorem dX10_share_83 : decode cX10_share 83 = .ok (.iload_n 2, 1) := by decide +kernel
theorem dX10_share_84 : decode cX10_share 84 = .ok (.iload 5, 2) := by decide +kernel
theorem dX10_share_86 : decode cX10_share 86 = .ok (.invokevirtual 73, 3) := by decide +kernel
theorem dX10_share_89 : decode cX10_share 89 = .ok (.ifCond .eq 7, 3) := by decide +kernel
theorem dX10_share_92 : decode cX10_share 92 = .ok (.iconst 1, 1) := by decide +kernel
theorem dX10_share_93 : decode cX10_share 93 = .ok (.goto 4, 3) := by decide +kernel
theorem dX10_share_96 : decode cX10_share 96 = .ok (.iconst 0, 1) := by decide +kernel
theorem dX10_share_97 : decode cX10_share 97 = .ok (.iadd, 1) := by decide +kernel
theorem dX10_share_98 : decode cX10_share 98 = .ok (.istore 4, 2) := by decide +kernel
theorem dX10_share_100 : decode cX10_share 100 = .ok (.iinc 5 1, 3) := by decide +kernel
theorem dX10_share_103 : decode cX10_share 103 = .ok (.goto (-72), 3) := by decide +kernel
theorem dX10_share_106 : decode cX10_share 106 = .ok (.iload 4, 2) := by decide +kernel
theorem dX10_share_108 : decode cX10_share 108 = .ok (.ifCond .ne 8, 3) := by decide +kernel
theorem dX10_share_111 : decode cX10_share 111 = .ok (.ldc 61, 2) := by decide +kernel
theorem dX10_share_113 : decode cX10_share 113 = .ok (.goto 9, 3) := by decide +kernel
theorem dX10_share_116 : decode cX10_share 116 = .ok (.iload_n 3, 1) := by decide +kernel
theorem dX10_share_117 : decode cX10_share 117 = .ok (.iload 4, 2) := by decide +kernel
theorem dX10_share_119 : decode cX10_share 119 = .ok (.invokestatic 283, 3) := by decide +kernel
theorem dX10_share_122 : decode cX10_share 122 = .ok (.ireturn, 1) := by decide +kernel
theorem dX10_score_0 : decode cX10_score 0 = .ok (.aload_n 0, 1) := by decide +kernel
theorem dX10_score_1 : decode cX10_score 1 = .ok (.iload_n 1, 1) := by decide +kernel
theorem dX10_score_2 : decode cX10_score 2 = .ok (.invokevirtual 55, 3) := by decide +kernel
theorem dX10_score_5 : decode cX10_score 5 = .ok (.ifCond .eq 13, 3) := by decide +kernel
theorem dX10_score_8 : decode cX10_score 8 = .ok (.iload_n 2, 1) := by decide +kernel
theorem dX10_score_9 : decode cX10_score 9 = .ok (.i2l, 1) := by decide +kernel
theorem dX10_score_10 : decode cX10_score 10 = .ok (.lconst 0, 1) := by decide +kernel
theorem dX10_score_11 : decode cX10_score 11 = .ok (.lconst 1, 1) := by decide +kernel
theorem dX10_score_12 : decode cX10_score 12 = .ok (.invokestatic 51, 3) := by decide +kernel
theorem dX10_score_15 : decode cX10_score 15 = .ok (.ifCond .ne 6, 3) := by decide +kernel
theorem dX10_score_18 : decode cX10_score 18 = .ok (.ldc 177, 2) := by decide +kernel
theorem dX10_score_20 : decode cX10_score 20 = .ok (.ireturn, 1) := by decide +kernel
theorem dX10_score_21 : decode cX10_score 21 = .ok (.aload_n 0, 1) := by decide +kernel
theorem dX10_score_22 : decode cX10_score 22 = .ok (.invokevirtual 221, 3) := by decide +kernel
theorem dX10_score_25 : decode cX10_score 25 = .ok (.aload_n 0, 1) := by decide +kernel
theorem dX10_score_26 : decode cX10_score 26 = .ok (.iload_n 1, 1) := by decide +kernel
theorem dX10_score_27 : decode cX10_score 27 = .ok (.invokevirtual 292, 3) := by decide +kernel
theorem dX10_score_30 : decode cX10_score 30 = .ok (.istore_n 3, 1) := by decide +kernel
theorem dX10_score_31 : decode cX10_score 31 = .ok (.iload_n 2, 1) := by decide +kernel
theorem dX10_score_32 : decode cX10_score 32 = .ok (.ifCond .ne 7, 3) := by decide +kernel
theorem dX10_score_35 : decode cX10_score 35 = .ok (.iload_n 3, 1) := by decide +kernel
theorem dX10_score_36 : decode cX10_score 36 = .ok (.goto 27, 3) := by decide +kernel
theorem dX10_score_39 : decode cX10_score 39 = .ok (.aload_n 0, 1) := by decide +kernel
theorem dX10_score_40 : decode cX10_score 40 = .ok (.getfield 7, 3) := by decide +kernel
theorem dX10_score_43 : decode cX10_score 43 = .ok (.iconst 2, 1) := by decide +kernel
theorem dX10_score_44 : decode cX10_score 44 = .ok (.iaload, 1) := by decide +kernel
theorem dX10_score_45 : decode cX10_score 45 = .ok (.ifCond .ne 8, 3) := by decide +kernel
theorem dX10_score_48 : decode cX10_score 48 = .ok (.ldc 61, 2) := by decide +kernel
theorem dX10_score_50 : decode cX10_score 50 = .ok (.goto 13, 3) := by decide +kernel
theorem dX10_score_53 : decode cX10_score 53 = .ok (.iload_n 3, 1) := by decide +kernel
theorem dX10_score_54 : decode cX10_score 54 = .ok (.aload_n 0, 1) := by decide +kernel
theorem dX10_score_55 : decode cX10_score 55 = .ok (.getfield 7, 3) := by decide +kernel
theorem dX10_score_58 : decode cX10_score 58 = .ok (.iconst 2, 1) := by decide +kernel
theorem dX10_score_59 : decode cX10_score 59 = .ok (.iaload, 1) := by decide +kernel
theorem dX10_score_60 : decode cX10_score 60 = .ok (.invokestatic 283, 3) := by decide +kernel
theorem dX10_score_63 : decode cX10_score 63 = .ok (.ireturn, 1) := by decide +kernel
theorem dX10_strike_0 : decode cX10_strike 0 = .ok (.aload_n 0, 1) := by decide +kernel
theorem dX10_strike_1 : decode cX10_strike 1 = .ok (.iload_n 1, 1) := by decide +kernel
theorem dX10_strike_2 : decode cX10_strike 2 = .ok (.invokevirtual 228, 3) := by decide +kernel
theorem dX10_strike_5 : decode cX10_strike 5 = .ok (.ifCond .ne 6, 3) := by decide +kernel
theorem dX10_strike_8 : decode cX10_strike 8 = .ok (.ldc 177, 2) := by decide +kernel
theorem dX10_strike_10 : decode cX10_strike 10 = .ok (.ireturn, 1) := by decide +kernel
theorem dX10_strike_11 : decode cX10_strike 11 = .ok (.aload_n 0, 1) := by decide +kernel
theorem dX10_strike_12 : decode cX10_strike 12 = .ok (.invokevirtual 205, 3) := by decide +kernel
theorem dX10_strike_15 : decode cX10_strike 15 = .ok (.iconst 0, 1) := by decide +kernel
theorem dX10_strike_16 : decode cX10_strike 16 = .ok (.istore_n 2, 1) := by decide +kernel
theorem dX10_strike_17 : decode cX10_strike 17 = .ok (.iload_n 2, 1) := by decide +kernel
theorem dX10_strike_18 : decode cX10_strike 18 = .ok (.iconst 5, 1) := by decide +kernel
theorem dX10_strike_19 : decode cX10_strike 19 = .ok (.if_icmp .ge 24, 3) := by decide +kernel
theorem dX10_strike_22 : decode cX10_strike 22 = .ok (.aload_n 0, 1) := by decide +kernel
theorem dX10_strike_23 : decode cX10_strike 23 = .ok (.getfield 7, 3) := by decide +kernel
theorem dX10_strike_26 : decode cX10_strike 26 = .ok (.sipush 128, 3) := by decide +kernel
theorem dX10_strike_29 : decode cX10_strike 29 = .ok (.iconst 5, 1) := by decide +kernel
theorem dX10_strike_30 : decode cX10_strike 30 = .ok (.iload_n 1, 1) := by decide +kernel
theorem dX10_strike_31 : decode cX10_strike 31 = .ok (.imul, 1) := by decide +kernel
theorem dX10_strike_32 : decode cX10_strike 32 = .ok (.iadd, 1) := by decide +kernel
theorem dX10_strike_33 : decode cX10_strike 33 = .ok (.iload_n 2, 1) := by decide +kernel
theorem dX10_strike_34 : decode cX10_strike 34 = .ok (.iadd, 1) := by decide +kernel
theorem dX10_strike_35 : decode cX10_strike 35 = .ok (.iconst 0, 1) := by decide +kernel
theorem dX10_strike_36 : decode cX10_strike 36 = .ok (.iastore, 1) := by decide +kernel
theorem dX10_strike_37 : decode cX10_strike 37 = .ok (.iinc 2 1, 3) := by decide +kernel
theorem dX10_strike_40 : decode cX10_strike 40 = .ok (.goto (-23), 3) := by decide +kernel
theorem dX10_strike_43 : decode cX10_strike 43 = .ok (.aload_n 0, 1) := by decide +kernel
theorem dX10_strike_44 : decode cX10_strike 44 = .ok (.invokevirtual 231, 3) := by decide +kernel
theorem dX10_strike_47 : decode cX10_strike 47 = .ok (.ireturn, 1) := by decide +kernel
theorem dX10_citation_0 : decode cX10_citation 0 = .ok (.aload_n 0, 1) := by decide +kernel
theorem dX10_citation_1 : decode cX10_citation 1 = .ok (.iload_n 1, 1) := by decide +kernel
theorem dX10_citation_2 : decode cX10_citation 2 = .ok (.invokevirtual 228, 3) := by decide +kernel
theorem dX10_citation_5 : decode cX10_citation 5 = .ok (.ifCond .eq 15, 3) := by decide +kernel
theorem dX10_citation_8 : decode cX10_citation 8 = .ok (.iload_n 2, 1) := by decide +kernel
theorem dX10_citation_9 : decode cX10_citation 9 = .ok (.i2l, 1) := by decide +kernel
theorem dX10_citation_10 : decode cX10_citation 10 = .ok (.lconst 0, 1) := by decide +kernel
theorem dX10_citation_11 : decode cX10_citation 11 = .ok (.ldc2_w 213, 3) := by decide +kernel
theorem dX10_citation_14 : decode cX10_citation 14 = .ok (.invokestatic 51, 3) := by decide +kernel
theorem dX10_citation_17 : decode cX10_citation 17 = .ok (.ifCond .ne 6, 3) := by decide +kernel
theorem dX10_citation_20 : decode cX10_citation 20 = .ok (.ldc 177, 2) := by decide +kernel
theorem dX10_citation_22 : decode cX10_citation 22 = .ok (.ireturn, 1) := by decide +kernel
theorem dX10_citation_23 : decode cX10_citation 23 = .ok (.iload_n 2, 1) := by decide +kernel
theorem dX10_citation_24 : decode cX10_citation 24 = .ok (.iconst 4, 1) := by decide +kernel
theorem dX10_citation_25 : decode cX10_citation 25 = .ok (.if_icmp .ge 25, 3) := by decide +kernel
theorem dX10_citation_28 : decode cX10_citation 28 = .ok (.iload_n 2, 1) := by decide +kernel
theorem dX10_citation_29 : decode cX10_citation 29 = .ok (.iconst 3, 1) := by decide +kernel
theorem dX10_citation_30 : decode cX10_citation 30 = .ok (.if_icmp .ge 14, 3) := by decide +kernel
theorem dX10_citation_33 : decode cX10_citation 33 = .ok (.aload_n 0, 1) := by decide +kernel
theorem dX10_citation_34 : decode cX10_citation 34 = .ok (.iload_n 1, 1) := by decide +kernel
theorem dX10_citation_35 : decode cX10_citation 35 = .ok (.iconst 1, 1) := by decide +kernel
theorem dX10_citation_36 : decode cX10_citation 36 = .ok (.iload_n 2, 1) := by decide +kernel
theorem dX10_citation_37 : decode cX10_citation 37 = .ok (.iadd, 1) := by decide +kernel
theorem dX10_citation_38 : decode cX10_citation 38 = .ok (.invokevirtual 215, 3) := by decide +kernel
theorem dX10_citation_41 : decode cX10_citation 41 = .ok (.goto 8, 3) := by decide +kernel
theorem dX10_citation_44 : decode cX10_citation 44 = .ok (.aload_n 0, 1) := by decide +kernel
theorem dX10_citation_45 : decode cX10_citation 45 = .ok (.iload_n 1, 1) := by decide +kernel
theorem dX10_citation_46 : decode cX10_citation 46 = .ok (.invokevirtual 286, 3) := by decide +kernel
theorem dX10_citation_49 : decode cX10_citation 49 = .ok (.ireturn, 1) := by decide +kernel
theorem dX10_citation_50 : decode cX10_citation 50 = .ok (.aload_n 0, 1) := by decide +kernel
theorem dX10_citation_51 : decode cX10_citation 51 = .ok (.invokevirtual 221, 3) := by decide +kernel
theorem dX10_citation_54 : decode cX10_citation 54 = .ok (.aload_n 0, 1) := by decide +kernel
theorem dX10_citation_55 : decode cX10_citation 55 = .ok (.iload_n 1, 1) := by decide +kernel
theorem dX10_citation_56 : decode cX10_citation 56 = .ok (.aload_n 0, 1) := by decide +kernel
theorem dX10_citation_57 : decode cX10_citation 57 = .ok (.iload_n 1, 1) := by decide +kernel
theorem dX10_citation_58 : decode cX10_citation 58 = .ok (.iconst 1, 1) := by decide +kernel
theorem dX10_citation_59 : decode cX10_citation 59 = .ok (.invokevirtual 215, 3) := by decide +kernel
theorem dX10_citation_62 : decode cX10_citation 62 = .ok (.aload_n 0, 1) := by decide +kernel
theorem dX10_citation_63 : decode cX10_citation 63 = .ok (.getfield 41, 3) := by decide +kernel
theorem dX10_citation_66 : decode cX10_citation 66 = .ok (.invokevirtual 224, 3) := by decide +kernel
theorem dX10_citation_69 : decode cX10_citation 69 = .ok (.aload_n 0, 1) := by decide +kernel
theorem dX10_citation_70 : decode cX10_citation 70 = .ok (.getfield 41, 3) := by decide +kernel
theorem dX10_citation_73 : decode cX10_citation 73 = .ok (.invokestatic 77, 3) := by decide +kernel
theorem dX10_citation_76 : decode cX10_citation 76 = .ok (.istore_n 3, 1) := by decide +kernel
theorem dX10_citation_77 : decode cX10_citation 77 = .ok (.iload_n 2, 1) := by decide +kernel
theorem dX10_citation_78 : decode cX10_citation 78 = .ok (.bipush 7, 2) := by decide +kernel
theorem dX10_citation_80 : decode cX10_citation 80 = .ok (.if_icmp .ge 14, 3) := by decide +kernel
theorem dX10_citation_83 : decode cX10_citation 83 = .ok (.aload_n 0, 1) := by decide +kernel
theorem dX10_citation_84 : decode cX10_citation 84 = .ok (.getfield 41, 3) := by decide +kernel
theorem dX10_citation_87 : decode cX10_citation 87 = .ok (.iload_n 2, 1) := by decide +kernel
theorem dX10_citation_88 : decode cX10_citation 88 = .ok (.iconst 4, 1) := by decide +kernel
theorem dX10_citation_89 : decode cX10_citation 89 = .ok (.isub, 1) := by decide +kernel
theorem dX10_citation_90 : decode cX10_citation 90 = .ok (.invokestatic 251, 3) := by decide +kernel
theorem dX10_citation_93 : decode cX10_citation 93 = .ok (.ireturn, 1) := by decide +kernel
theorem dX10_citation_94 : decode cX10_citation 94 = .ok (.iload_n 3, 1) := by decide +kernel
theorem dX10_citation_95 : decode cX10_citation 95 = .ok (.ifCond .le 28, 3) := by decide +kernel
theorem dX10_citation_98 : decode cX10_citation 98 = .ok (.aload_n 0, 1) := by decide +kernel
theorem dX10_citation_99 : decode cX10_citation 99 = .ok (.getfield 41, 3) := by decide +kernel
theorem dX10_citation_102 : decode cX10_citation 102 = .ok (.invokestatic 84, 3) := by decide +kernel
theorem dX10_citation_105 : decode cX10_citation 105 = .ok (.aload_n 0, 1) := by decide +kernel
theorem dX10_citation_106 : decode cX10_citation 106 = .ok (.getfield 41, 3) := by decide +kernel
theorem dX10_citation_109 : decode cX10_citation 109 = .ok (.invokestatic 81, 3) := by decide +kernel
theorem dX10_citation_112 : decode cX10_citation 112 = .ok (.isub, 1) := by decide +kernel
theorem dX10_citation_113 : decode cX10_citation 113 = .ok (.iconst 1, 1) := by decide +kernel
theorem dX10_citation_114 : decode cX10_citation 114 = .ok (.iadd, 1) := by decide +kernel
theorem dX10_citation_115 : decode cX10_citation 115 = .ok (.iload_n 3, 1) := by decide +kernel
theorem dX10_citation_116 : decode cX10_citation 116 = .ok (.if_icmp .ne 7, 3) := by decide +kernel
theorem dX10_citation_119 : decode cX10_citation 119 = .ok (.iconst 1, 1) := by decide +kernel
theorem dX10_citation_120 : decode cX10_citation 120 = .ok (.goto 4, 3) := by decide +kernel
theorem dX10_citation_123 : decode cX10_citation 123 = .ok (.iconst 0, 1) := by decide +kernel
theorem dX10_citation_124 : decode cX10_citation 124 = .ok (.ireturn, 1) := by decide +kernel
theorem dX10_turned_0 : decode cX10_turned 0 = .ok (.aload_n 0, 1) := by decide +kernel
theorem dX10_turned_1 : decode cX10_turned 1 = .ok (.iload_n 1, 1) := by decide +kernel
theorem dX10_turned_2 : decode cX10_turned 2 = .ok (.invokevirtual 228, 3) := by decide +kernel
theorem dX10_turned_5 : decode cX10_turned 5 = .ok (.ifCond .eq 23, 3) := by decide +kernel
theorem dX10_turned_8 : decode cX10_turned 8 = .ok (.aload_n 0, 1) := by decide +kernel
theorem dX10_turned_9 : decode cX10_turned 9 = .ok (.iload_n 2, 1) := by decide +kernel
theorem dX10_turned_10 : decode cX10_turned 10 = .ok (.invokevirtual 55, 3) := by decide +kernel
theorem dX10_turned_13 : decode cX10_turned 13 = .ok (.ifCond .eq 15, 3) := by decide +kernel
theorem dX10_turned_16 : decode cX10_turned 16 = .ok (.iload_n 3, 1) := by decide +kernel
theorem dX10_turned_17 : decode cX10_turned 17 = .ok (.i2l, 1) := by decide +kernel
theorem dX10_turned_18 : decode cX10_turned 18 = .ok (.lconst 0, 1) := by decide +kernel
theorem dX10_turned_19 : decode cX10_turned 19 = .ok (.ldc2_w 219, 3) := by decide +kernel
theorem dX10_turned_22 : decode cX10_turned 22 = .ok (.invokestatic 51, 3) := by decide +kernel
theorem dX10_turned_25 : decode cX10_turned 25 = .ok (.ifCond .ne 6, 3) := by decide +kernel
theorem dX10_turned_28 : decode cX10_turned 28 = .ok (.ldc 177, 2) := by decide +kernel
theorem dX10_turned_30 : decode cX10_turned 30 = .ok (.ireturn, 1) := by decide +kernel
theorem dX10_turned_31 : decode cX10_turned 31 = .ok (.aload_n 0, 1) := by decide +kernel
theorem dX10_turned_32 : decode cX10_turned 32 = .ok (.invokevirtual 221, 3) := by decide +kernel
theorem dX10_turned_35 : decode cX10_turned 35 = .ok (.aload_n 0, 1) := by decide +kernel
theorem dX10_turned_36 : decode cX10_turned 36 = .ok (.iload_n 1, 1) := by decide +kernel
theorem dX10_turned_37 : decode cX10_turned 37 = .ok (.aload_n 0, 1) := by decide +kernel
theorem dX10_turned_38 : decode cX10_turned 38 = .ok (.iload_n 1, 1) := by decide +kernel
theorem dX10_turned_39 : decode cX10_turned 39 = .ok (.iconst 1, 1) := by decide +kernel
theorem dX10_turned_40 : decode cX10_turned 40 = .ok (.invokevirtual 215, 3) := by decide +kernel
theorem dX10_turned_43 : decode cX10_turned 43 = .ok (.aload_n 0, 1) := by decide +kernel
theorem dX10_turned_44 : decode cX10_turned 44 = .ok (.getfield 41, 3) := by decide +kernel
theorem dX10_turned_47 : decode cX10_turned 47 = .ok (.invokevirtual 224, 3) := by decide +kernel
theorem dX10_turned_50 : decode cX10_turned 50 = .ok (.aload_n 0, 1) := by decide +kernel
theorem dX10_turned_51 : decode cX10_turned 51 = .ok (.getfield 35, 3) := by decide +kernel
theorem dX10_turned_54 : decode cX10_turned 54 = .ok (.invokestatic 87, 3) := by decide +kernel
theorem dX10_turned_57 : decode cX10_turned 57 = .ok (.iconst 0, 1) := by decide +kernel
theorem dX10_turned_58 : decode cX10_turned 58 = .ok (.istore 4, 2) := by decide +kernel
theorem dX10_turned_60 : decode cX10_turned 60 = .ok (.iload 4, 2) := by decide +kernel
theorem dX10_turned_62 : decode cX10_turned 62 = .ok (.aload_n 0, 1) := by decide +kernel
theorem dX10_turned_63 : decode cX10_turned 63 = .ok (.getfield 7, 3) := by decide +kernel
theorem dX10_turned_66 : decode cX10_turned 66 = .ok (.iconst 0, 1) := by decide +kernel
theorem dX10_turned_67 : decode cX10_turned 67 = .ok (.iaload, 1) := by decide +kernel
theorem dX10_turned_68 : decode cX10_turned 68 = .ok (.if_icmp .ge 67, 3) := by decide +kernel
theorem dX10_turned_71 : decode cX10_turned 71 = .ok (.aload_n 0, 1) := by decide +kernel
theorem dX10_turned_72 : decode cX10_turned 72 = .ok (.getfield 41, 3) := by decide +kernel
theorem dX10_turned_75 : decode cX10_turned 75 = .ok (.iload 4, 2) := by decide +kernel
theorem dX10_turned_77 : decode cX10_turned 77 = .ok (.baload, 1) := by decide +kernel
theorem dX10_turned_78 : decode cX10_turned 78 = .ok (.ifCond .eq 51, 3) := by decide +kernel
theorem dX10_turned_81 : decode cX10_turned 81 = .ok (.aload_n 0, 1) := by decide +kernel
theorem dX10_turned_82 : decode cX10_turned 82 = .ok (.iload_n 2, 1) := by decide +kernel
theorem dX10_turned_83 : decode cX10_turned 83 = .ok (.iload 4, 2) := by decide +kernel
theorem dX10_turned_85 : decode cX10_turned 85 = .ok (.invokevirtual 73, 3) := by decide +kernel
theorem dX10_turned_88 : decode cX10_turned 88 = .ok (.ifCond .eq 41, 3) := by decide +kernel
theorem dX10_turned_91 : decode cX10_turned 91 = .ok (.aload_n 0, 1) := by decide +kernel
theorem dX10_turned_92 : decode cX10_turned 92 = .ok (.getfield 35, 3) := by decide +kernel
theorem dX10_turned_95 : decode cX10_turned 95 = .ok (.aload_n 0, 1) := by decide +kernel
theorem dX10_turned_96 : decode cX10_turned 96 = .ok (.getfield 29, 3) := by decide +kernel
theorem dX10_turned_99 : decode cX10_turned 99 = .ok (.sipush 200, 3) := by decide +kernel
theorem dX10_turned_102 : decode cX10_turned 102 = .ok (.iload_n 2, 1) := by decide +kernel
theorem dX10_turned_103 : decode cX10_turned 103 = .ok (.imul, 1) := by decide +kernel
theorem dX10_turned_104 : decode cX10_turned 104 = .ok (.iload 4, 2) := by decide +kernel
theorem dX10_turned_106 : decode cX10_turned 106 = .ok (.iadd, 1) := by decide +kernel
theorem dX10_turned_107 : decode cX10_turned 107 = .ok (.iaload, 1) := by decide +kernel
theorem dX10_turned_108 : decode cX10_turned 108 = .ok (.iconst 1, 1) := by decide +kernel
theorem dX10_turned_109 : decode cX10_turned 109 = .ok (.bastore, 1) := by decide +kernel
theorem dX10_turned_110 : decode cX10_turned 110 = .ok (.aload_n 0, 1) := by decide +kernel
theorem dX10_turned_111 : decode cX10_turned 111 = .ok (.getfield 35, 3) := by decide +kernel
theorem dX10_turned_114 : decode cX10_turned 114 = .ok (.aload_n 0, 1) := by decide +kernel
theorem dX10_turned_115 : decode cX10_turned 115 = .ok (.getfield 32, 3) := by decide +kernel
theorem dX10_turned_118 : decode cX10_turned 118 = .ok (.sipush 200, 3) := by decide +kernel
theorem dX10_turned_121 : decode cX10_turned 121 = .ok (.iload_n 2, 1) := by decide +kernel
theorem dX10_turned_122 : decode cX10_turned 122 = .ok (.imul, 1) := by decide +kernel
theorem dX10_turned_123 : decode cX10_turned 123 = .ok (.iload 4, 2) := by decide +kernel
theorem dX10_turned_125 : decode cX10_turned 125 = .ok (.iadd, 1) := by decide +kernel
theorem dX10_turned_126 : decode cX10_turned 126 = .ok (.iaload, 1) := by decide +kernel
theorem dX10_turned_127 : decode cX10_turned 127 = .ok (.iconst 1, 1) := by decide +kernel
theorem dX10_turned_128 : decode cX10_turned 128 = .ok (.bastore, 1) := by decide +kernel
theorem dX10_turned_129 : decode cX10_turned 129 = .ok (.iinc 4 1, 3) := by decide +kernel
theorem dX10_turned_132 : decode cX10_turned 132 = .ok (.goto (-72), 3) := by decide +kernel
theorem dX10_turned_135 : decode cX10_turned 135 = .ok (.aload_n 0, 1) := by decide +kernel
theorem dX10_turned_136 : decode cX10_turned 136 = .ok (.getfield 35, 3) := by decide +kernel
theorem dX10_turned_139 : decode cX10_turned 139 = .ok (.invokestatic 81, 3) := by decide +kernel
theorem dX10_turned_142 : decode cX10_turned 142 = .ok (.istore 4, 2) := by decide +kernel
theorem dX10_turned_144 : decode cX10_turned 144 = .ok (.aload_n 0, 1) := by decide +kernel
theorem dX10_turned_145 : decode cX10_turned 145 = .ok (.getfield 35, 3) := by decide +kernel
theorem dX10_turned_148 : decode cX10_turned 148 = .ok (.invokestatic 84, 3) := by decide +kernel
theorem dX10_turned_151 : decode cX10_turned 151 = .ok (.istore 5, 2) := by decide +kernel
theorem dX10_turned_153 : decode cX10_turned 153 = .ok (.iload_n 3, 1) := by decide +kernel
theorem dX10_turned_154 : decode cX10_turned 154 = .ok (.iconst 2, 1) := by decide +kernel
theorem dX10_turned_155 : decode cX10_turned 155 = .ok (.if_icmp .ge 15, 3) := by decide +kernel
theorem dX10_turned_158 : decode cX10_turned 158 = .ok (.iload_n 3, 1) := by decide +kernel
theorem dX10_turned_159 : decode cX10_turned 159 = .ok (.ifCond .ne 8, 3) := by decide +kernel
theorem dX10_turned_162 : decode cX10_turned 162 = .ok (.iload 4, 2) := by decide +kernel
theorem dX10_turned_164 : decode cX10_turned 164 = .ok (.goto 5, 3) := by decide +kernel
theorem dX10_turned_167 : decode cX10_turned 167 = .ok (.iload 5, 2) := by decide +kernel
theorem dX10_turned_169 : decode cX10_turned 169 = .ok (.ireturn, 1) := by decide +kernel
theorem dX10_turned_170 : decode cX10_turned 170 = .ok (.aload_n 0, 1) := by decide +kernel
theorem dX10_turned_171 : decode cX10_turned 171 = .ok (.iload_n 2, 1) := by decide +kernel
theorem dX10_turned_172 : decode cX10_turned 172 = .ok (.iload 4, 2) := by decide +kernel
theorem dX10_turned_174 : decode cX10_turned 174 = .ok (.iload 5, 2) := by decide +kernel
theorem dX10_turned_176 : decode cX10_turned 176 = .ok (.aload_n 0, 1) := by decide +kernel
theorem dX10_turned_177 : decode cX10_turned 177 = .ok (.getfield 44, 3) := by decide +kernel
theorem dX10_turned_180 : decode cX10_turned 180 = .ok (.invokevirtual 289, 3) := by decide +kernel
theorem dX10_turned_183 : decode cX10_turned 183 = .ok (.iload 4, 2) := by decide +kernel
theorem dX10_turned_185 : decode cX10_turned 185 = .ok (.ldc 61, 2) := by decide +kernel
theorem dX10_turned_187 : decode cX10_turned 187 = .ok (.if_icmp .eq 7, 3) := by decide +kernel
theorem dX10_turned_190 : decode cX10_turned 190 = .ok (.iconst 1, 1) := by decide +kernel
theorem dX10_turned_191 : decode cX10_turned 191 = .ok (.goto 4, 3) := by decide +kernel
theorem dX10_turned_194 : decode cX10_turned 194 = .ok (.iconst 0, 1) := by decide +kernel
theorem dX10_turned_195 : decode cX10_turned 195 = .ok (.istore 6, 2) := by decide +kernel
theorem dX10_turned_197 : decode cX10_turned 197 = .ok (.iconst 0, 1) := by decide +kernel
theorem dX10_turned_198 : decode cX10_turned 198 = .ok (.istore 7, 2) := by decide +kernel
theorem dX10_turned_200 : decode cX10_turned 200 = .ok (.iload 7, 2) := by decide +kernel
theorem dX10_turned_202 : decode cX10_turned 202 = .ok (.aload_n 0, 1) := by decide +kernel
theorem dX10_turned_203 : decode cX10_turned 203 = .ok (.getfield 7, 3) := by decide +kernel
theorem dX10_turned_206 : decode cX10_turned 206 = .ok (.iconst 0, 1) := by decide +kernel
theorem dX10_turned_207 : decode cX10_turned 207 = .ok (.iaload, 1) := by decide +kernel
theorem dX10_turned_208 : decode cX10_turned 208 = .ok (.if_icmp .ge 38, 3) := by decide +kernel
theorem dX10_turned_211 : decode cX10_turned 211 = .ok (.iload 6, 2) := by decide +kernel
theorem dX10_turned_213 : decode cX10_turned 213 = .ok (.ifCond .eq 24, 3) := by decide +kernel
theorem dX10_turned_216 : decode cX10_turned 216 = .ok (.aload_n 0, 1) := by decide +kernel
theorem dX10_turned_217 : decode cX10_turned 217 = .ok (.getfield 41, 3) := by decide +kernel
theorem dX10_turned_220 : decode cX10_turned 220 = .ok (.iload 7, 2) := by decide +kernel
theorem dX10_turned_222 : decode cX10_turned 222 = .ok (.baload, 1) := by decide +kernel
theorem dX10_turned_223 : decode cX10_turned 223 = .ok (.aload_n 0, 1) := by decide +kernel
theorem dX10_turned_224 : decode cX10_turned 224 = .ok (.getfield 44, 3) := by decide +kernel
theorem dX10_turned_227 : decode cX10_turned 227 = .ok (.iload 7, 2) := by decide +kernel
theorem dX10_turned_229 : decode cX10_turned 229 = .ok (.baload, 1) := by decide +kernel
theorem dX10_turned_230 : decode cX10_turned 230 = .ok (.if_icmp .ne 7, 3) := by decide +kernel
theorem dX10_turned_233 : decode cX10_turned 233 = .ok (.iconst 1, 1) := by decide +kernel
theorem dX10_turned_234 : decode cX10_turned 234 = .ok (.goto 4, 3) := by decide +kernel
theorem dX10_turned_237 : decode cX10_turned 237 = .ok (.iconst 0, 1) := by decide +kernel
theorem dX10_turned_238 : decode cX10_turned 238 = .ok (.istore 6, 2) := by decide +kernel
theorem dX10_turned_240 : decode cX10_turned 240 = .ok (.iinc 7 1, 3) := by decide +kernel
theorem dX10_turned_243 : decode cX10_turned 243 = .ok (.goto (-43), 3) := by decide +kernel
theorem dX10_turned_246 : decode cX10_turned 246 = .ok (.iload 6, 2) := by decide +kernel
theorem dX10_turned_248 : decode cX10_turned 248 = .ok (.ifCond .eq 7, 3) := by decide +kernel
theorem dX10_turned_251 : decode cX10_turned 251 = .ok (.iconst 1, 1) := by decide +kernel
theorem dX10_turned_252 : decode cX10_turned 252 = .ok (.goto 4, 3) := by decide +kernel
theorem dX10_turned_255 : decode cX10_turned 255 = .ok (.iconst 0, 1) := by decide +kernel
theorem dX10_turned_256 : decode cX10_turned 256 = .ok (.ireturn, 1) := by decide +kernel
theorem dX10_meet_0 : decode cX10_meet 0 = .ok (.aload_n 0, 1) := by decide +kernel
theorem dX10_meet_1 : decode cX10_meet 1 = .ok (.iload_n 1, 1) := by decide +kernel
theorem dX10_meet_2 : decode cX10_meet 2 = .ok (.invokevirtual 228, 3) := by decide +kernel
theorem dX10_meet_5 : decode cX10_meet 5 = .ok (.ifCond .eq 23, 3) := by decide +kernel
theorem dX10_meet_8 : decode cX10_meet 8 = .ok (.aload_n 0, 1) := by decide +kernel
theorem dX10_meet_9 : decode cX10_meet 9 = .ok (.iload_n 2, 1) := by decide +kernel
theorem dX10_meet_10 : decode cX10_meet 10 = .ok (.invokevirtual 228, 3) := by decide +kernel
theorem dX10_meet_13 : decode cX10_meet 13 = .ok (.ifCond .eq 15, 3) := by decide +kernel
theorem dX10_meet_16 : decode cX10_meet 16 = .ok (.iload_n 3, 1) := by decide +kernel
theorem dX10_meet_17 : decode cX10_meet 17 = .ok (.i2l, 1) := by decide +kernel
theorem dX10_meet_18 : decode cX10_meet 18 = .ok (.lconst 0, 1) := by decide +kernel
theorem dX10_meet_19 : decode cX10_meet 19 = .ok (.ldc2_w 219, 3) := by decide +kernel
theorem dX10_meet_22 : decode cX10_meet 22 = .ok (.invokestatic 51, 3) := by decide +kernel
theorem dX10_meet_25 : decode cX10_meet 25 = .ok (.ifCond .ne 6, 3) := by decide +kernel
theorem dX10_meet_28 : decode cX10_meet 28 = .ok (.ldc 177, 2) := by decide +kernel
theorem dX10_meet_30 : decode cX10_meet 30 = .ok (.ireturn, 1) := by decide +kernel
theorem dX10_meet_31 : decode cX10_meet 31 = .ok (.aload_n 0, 1) := by decide +kernel
theorem dX10_meet_32 : decode cX10_meet 32 = .ok (.invokevirtual 221, 3) := by decide +kernel
theorem dX10_meet_35 : decode cX10_meet 35 = .ok (.aload_n 0, 1) := by decide +kernel
theorem dX10_meet_36 : decode cX10_meet 36 = .ok (.iload_n 1, 1) := by decide +kernel
theorem dX10_meet_37 : decode cX10_meet 37 = .ok (.aload_n 0, 1) := by decide +kernel
theorem dX10_meet_38 : decode cX10_meet 38 = .ok (.iload_n 1, 1) := by decide +kernel
theorem dX10_meet_39 : decode cX10_meet 39 = .ok (.iconst 1, 1) := by decide +kernel
theorem dX10_meet_40 : decode cX10_meet 40 = .ok (.invokevirtual 215, 3) := by decide +kernel
theorem dX10_meet_43 : decode cX10_meet 43 = .ok (.aload_n 0, 1) := by decide +kernel
theorem dX10_meet_44 : decode cX10_meet 44 = .ok (.getfield 41, 3) := by decide +kernel
theorem dX10_meet_47 : decode cX10_meet 47 = .ok (.invokevirtual 224, 3) := by decide +kernel
theorem dX10_meet_50 : decode cX10_meet 50 = .ok (.aload_n 0, 1) := by decide +kernel
theorem dX10_meet_51 : decode cX10_meet 51 = .ok (.iload_n 2, 1) := by decide +kernel
theorem dX10_meet_52 : decode cX10_meet 52 = .ok (.aload_n 0, 1) := by decide +kernel
theorem dX10_meet_53 : decode cX10_meet 53 = .ok (.iload_n 2, 1) := by decide +kernel
theorem dX10_meet_54 : decode cX10_meet 54 = .ok (.iconst 1, 1) := by decide +kernel
theorem dX10_meet_55 : decode cX10_meet 55 = .ok (.invokevirtual 215, 3) := by decide +kernel
theorem dX10_meet_58 : decode cX10_meet 58 = .ok (.aload_n 0, 1) := by decide +kernel
theorem dX10_meet_59 : decode cX10_meet 59 = .ok (.getfield 44, 3) := by decide +kernel
theorem dX10_meet_62 : decode cX10_meet 62 = .ok (.invokevirtual 224, 3) := by decide +kernel
theorem dX10_meet_65 : decode cX10_meet 65 = .ok (.iconst 0, 1) := by decide +kernel
theorem dX10_meet_66 : decode cX10_meet 66 = .ok (.istore 4, 2) := by decide +kernel
theorem dX10_meet_68 : decode cX10_meet 68 = .ok (.iconst 0, 1) := by decide +kernel
theorem dX10_meet_69 : decode cX10_meet 69 = .ok (.istore 5, 2) := by decide +kernel
theorem dX10_meet_71 : decode cX10_meet 71 = .ok (.iload 5, 2) := by decide +kernel
theorem dX10_meet_73 : decode cX10_meet 73 = .ok (.aload_n 0, 1) := by decide +kernel
theorem dX10_meet_74 : decode cX10_meet 74 = .ok (.getfield 7, 3) := by decide +kernel
theorem dX10_meet_77 : decode cX10_meet 77 = .ok (.iconst 0, 1) := by decide +kernel
theorem dX10_meet_78 : decode cX10_meet 78 = .ok (.iaload, 1) := by decide +kernel
theorem dX10_meet_79 : decode cX10_meet 79 = .ok (.if_icmp .ge 116, 3) := by decide +kernel
theorem dX10_meet_82 : decode cX10_meet 82 = .ok (.iload_n 3, 1) := by decide +kernel
theorem dX10_meet_83 : decode cX10_meet 83 = .ok (.ifCond .ne 31, 3) := by decide +kernel
theorem dX10_meet_86 : decode cX10_meet 86 = .ok (.aload_n 0, 1) := by decide +kernel
theorem dX10_meet_87 : decode cX10_meet 87 = .ok (.getfield 41, 3) := by decide +kernel
theorem dX10_meet_90 : decode cX10_meet 90 = .ok (.iload 5, 2) := by decide +kernel
theorem dX10_meet_92 : decode cX10_meet 92 = .ok (.baload, 1) := by decide +kernel
theorem dX10_meet_93 : decode cX10_meet 93 = .ok (.ifCond .eq 17, 3) := by decide +kernel
theorem dX10_meet_96 : decode cX10_meet 96 = .ok (.aload_n 0, 1) := by decide +kernel
theorem dX10_meet_97 : decode cX10_meet 97 = .ok (.getfield 44, 3) := by decide +kernel
theorem dX10_meet_100 : decode cX10_meet 100 = .ok (.iload 5, 2) := by decide +kernel
theorem dX10_meet_102 : decode cX10_meet 102 = .ok (.baload, 1) := by decide +kernel
theorem dX10_meet_103 : decode cX10_meet 103 = .ok (.ifCond .eq 7, 3) := by decide +kernel
theorem dX10_meet_106 : decode cX10_meet 106 = .ok (.iconst 1, 1) := by decide +kernel
theorem dX10_meet_107 : decode cX10_meet 107 = .ok (.goto 65, 3) := by decide +kernel
theorem dX10_meet_110 : decode cX10_meet 110 = .ok (.iconst 0, 1) := by decide +kernel
theorem dX10_meet_111 : decode cX10_meet 111 = .ok (.goto 61, 3) := by decide +kernel
theorem dX10_meet_114 : decode cX10_meet 114 = .ok (.iload_n 3, 1) := by decide +kernel
theorem dX10_meet_115 : decode cX10_meet 115 = .ok (.iconst 1, 1) := by decide +kernel
theorem dX10_meet_116 : decode cX10_meet 116 = .ok (.if_icmp .ne 31, 3) := by decide +kernel
theorem dX10_meet_119 : decode cX10_meet 119 = .ok (.aload_n 0, 1) := by decide +kernel
theorem dX10_meet_120 : decode cX10_meet 120 = .ok (.getfield 41, 3) := by decide +kernel
theorem dX10_meet_123 : decode cX10_meet 123 = .ok (.iload 5, 2) := by decide +kernel
theorem dX10_meet_125 : decode cX10_meet 125 = .ok (.baload, 1) := by decide +kernel
theorem dX10_meet_126 : decode cX10_meet 126 = .ok (.ifCond .eq 17, 3) := by decide +kernel
theorem dX10_meet_129 : decode cX10_meet 129 = .ok (.aload_n 0, 1) := by decide +kernel
theorem dX10_meet_130 : decode cX10_meet 130 = .ok (.getfield 44, 3) := by decide +kernel
theorem dX10_meet_133 : decode cX10_meet 133 = .ok (.iload 5, 2) := by decide +kernel
theorem dX10_meet_135 : decode cX10_meet 135 = .ok (.baload, 1) := by decide +kernel
theorem dX10_meet_136 : decode cX10_meet 136 = .ok (.ifCond .ne 7, 3) := by decide +kernel
theorem dX10_meet_139 : decode cX10_meet 139 = .ok (.iconst 1, 1) := by decide +kernel
theorem dX10_meet_140 : decode cX10_meet 140 = .ok (.goto 32, 3) := by decide +kernel
theorem dX10_meet_143 : decode cX10_meet 143 = .ok (.iconst 0, 1) := by decide +kernel
theorem dX10_meet_144 : decode cX10_meet 144 = .ok (.goto 28, 3) := by decide +kernel
theorem dX10_meet_147 : decode cX10_meet 147 = .ok (.aload_n 0, 1) := by decide +kernel
theorem dX10_meet_148 : decode cX10_meet 148 = .ok (.getfield 44, 3) := by decide +kernel
theorem dX10_meet_151 : decode cX10_meet 151 = .ok (.iload 5, 2) := by decide +kernel
theorem dX10_meet_153 : decode cX10_meet 153 = .ok (.baload, 1) := by decide +kernel
theorem dX10_meet_154 : decode cX10_meet 154 = .ok (.ifCond .eq 17, 3) := by decide +kernel
theorem dX10_meet_157 : decode cX10_meet 157 = .ok (.aload_n 0, 1) := by decide +kernel
theorem dX10_meet_158 : decode cX10_meet 158 = .ok (.getfield 41, 3) := by decide +kernel
theorem dX10_meet_161 : decode cX10_meet 161 = .ok (.iload 5, 2) := by decide +kernel
theorem dX10_meet_163 : decode cX10_meet 163 = .ok (.baload, 1) := by decide +kernel
theorem dX10_meet_164 : decode cX10_meet 164 = .ok (.ifCond .ne 7, 3) := by decide +kernel
theorem dX10_meet_167 : decode cX10_meet 167 = .ok (.iconst 1, 1) := by decide +kernel
theorem dX10_meet_168 : decode cX10_meet 168 = .ok (.goto 4, 3) := by decide +kernel
theorem dX10_meet_171 : decode cX10_meet 171 = .ok (.iconst 0, 1) := by decide +kernel
theorem dX10_meet_172 : decode cX10_meet 172 = .ok (.istore 6, 2) := by decide +kernel
theorem dX10_meet_174 : decode cX10_meet 174 = .ok (.iload 4, 2) := by decide +kernel
theorem dX10_meet_176 : decode cX10_meet 176 = .ok (.iload 6, 2) := by decide +kernel
theorem dX10_meet_178 : decode cX10_meet 178 = .ok (.ifCond .eq 7, 3) := by decide +kernel
theorem dX10_meet_181 : decode cX10_meet 181 = .ok (.iconst 1, 1) := by decide +kernel
theorem dX10_meet_182 : decode cX10_meet 182 = .ok (.goto 4, 3) := by decide +kernel
theorem dX10_meet_185 : decode cX10_meet 185 = .ok (.iconst 0, 1) := by decide +kernel
theorem dX10_meet_186 : decode cX10_meet 186 = .ok (.iadd, 1) := by decide +kernel
theorem dX10_meet_187 : decode cX10_meet 187 = .ok (.istore 4, 2) := by decide +kernel
theorem dX10_meet_189 : decode cX10_meet 189 = .ok (.iinc 5 1, 3) := by decide +kernel
theorem dX10_meet_192 : decode cX10_meet 192 = .ok (.goto (-121), 3) := by decide +kernel
theorem dX10_meet_195 : decode cX10_meet 195 = .ok (.iload 4, 2) := by decide +kernel
theorem dX10_meet_197 : decode cX10_meet 197 = .ok (.ireturn, 1) := by decide +kernel
theorem dX10_could_0 : decode cX10_could 0 = .ok (.aload_n 0, 1) := by decide +kernel
theorem dX10_could_1 : decode cX10_could 1 = .ok (.iload_n 1, 1) := by decide +kernel
theorem dX10_could_2 : decode cX10_could 2 = .ok (.invokevirtual 228, 3) := by decide +kernel
theorem dX10_could_5 : decode cX10_could 5 = .ok (.ifCond .eq 11, 3) := by decide +kernel
theorem dX10_could_8 : decode cX10_could 8 = .ok (.aload_n 0, 1) := by decide +kernel
theorem dX10_could_9 : decode cX10_could 9 = .ok (.iload_n 2, 1) := by decide +kernel
theorem dX10_could_10 : decode cX10_could 10 = .ok (.invokevirtual 234, 3) := by decide +kernel
theorem dX10_could_13 : decode cX10_could 13 = .ok (.ifCond .ne 6, 3) := by decide +kernel
theorem dX10_could_16 : decode cX10_could 16 = .ok (.ldc 177, 2) := by decide +kernel
theorem dX10_could_18 : decode cX10_could 18 = .ok (.ireturn, 1) := by decide +kernel
theorem dX10_could_19 : decode cX10_could 19 = .ok (.aload_n 0, 1) := by decide +kernel
theorem dX10_could_20 : decode cX10_could 20 = .ok (.invokevirtual 221, 3) := by decide +kernel
theorem dX10_could_23 : decode cX10_could 23 = .ok (.iconst 0, 1) := by decide +kernel
theorem dX10_could_24 : decode cX10_could 24 = .ok (.istore_n 3, 1) := by decide +kernel
theorem dX10_could_25 : decode cX10_could 25 = .ok (.iconst 0, 1) := by decide +kernel
theorem dX10_could_26 : decode cX10_could 26 = .ok (.istore 4, 2) := by decide +kernel
theorem dX10_could_28 : decode cX10_could 28 = .ok (.iload 4, 2) := by decide +kernel
theorem dX10_could_30 : decode cX10_could 30 = .ok (.aload_n 0, 1) := by decide +kernel
theorem dX10_could_31 : decode cX10_could 31 = .ok (.getfield 7, 3) := by decide +kernel
theorem dX10_could_34 : decode cX10_could 34 = .ok (.iconst 1, 1) := by decide +kernel
theorem dX10_could_35 : decode cX10_could 35 = .ok (.iaload, 1) := by decide +kernel
theorem dX10_could_36 : decode cX10_could 36 = .ok (.if_icmp .ge 40, 3) := by decide +kernel
theorem dX10_could_39 : decode cX10_could 39 = .ok (.aload_n 0, 1) := by decide +kernel
theorem dX10_could_40 : decode cX10_could 40 = .ok (.iload_n 1, 1) := by decide +kernel
theorem dX10_could_41 : decode cX10_could 41 = .ok (.iload 4, 2) := by decide +kernel
theorem dX10_could_43 : decode cX10_could 43 = .ok (.aload_n 0, 1) := by decide +kernel
theorem dX10_could_44 : decode cX10_could 44 = .ok (.getfield 41, 3) := by decide +kernel
theorem dX10_could_47 : decode cX10_could 47 = .ok (.invokevirtual 224, 3) := by decide +kernel
theorem dX10_could_50 : decode cX10_could 50 = .ok (.iload_n 3, 1) := by decide +kernel
theorem dX10_could_51 : decode cX10_could 51 = .ok (.aload_n 0, 1) := by decide +kernel
theorem dX10_could_52 : decode cX10_could 52 = .ok (.getfield 41, 3) := by decide +kernel
theorem dX10_could_55 : decode cX10_could 55 = .ok (.iload_n 2, 1) := by decide +kernel
theorem dX10_could_56 : decode cX10_could 56 = .ok (.baload, 1) := by decide +kernel
theorem dX10_could_57 : decode cX10_could 57 = .ok (.ifCond .eq 10, 3) := by decide +kernel
theorem dX10_could_60 : decode cX10_could 60 = .ok (.iconst 1, 1) := by decide +kernel
theorem dX10_could_61 : decode cX10_could 61 = .ok (.iload 4, 2) := by decide +kernel
theorem dX10_could_63 : decode cX10_could 63 = .ok (.ishl, 1) := by decide +kernel
theorem dX10_could_64 : decode cX10_could 64 = .ok (.goto 4, 3) := by decide +kernel
theorem dX10_could_67 : decode cX10_could 67 = .ok (.iconst 0, 1) := by decide +kernel
theorem dX10_could_68 : decode cX10_could 68 = .ok (.ior, 1) := by decide +kernel
theorem dX10_could_69 : decode cX10_could 69 = .ok (.istore_n 3, 1) := by decide +kernel
theorem dX10_could_70 : decode cX10_could 70 = .ok (.iinc 4 1, 3) := by decide +kernel
theorem dX10_could_73 : decode cX10_could 73 = .ok (.goto (-45), 3) := by decide +kernel
theorem dX10_could_76 : decode cX10_could 76 = .ok (.iload_n 3, 1) := by decide +kernel
theorem dX10_could_77 : decode cX10_could 77 = .ok (.ireturn, 1) := by decide +kernel
theorem dX10_best_0 : decode cX10_best 0 = .ok (.aload_n 0, 1) := by decide +kernel
theorem dX10_best_1 : decode cX10_best 1 = .ok (.invokevirtual 47, 3) := by decide +kernel
theorem dX10_best_4 : decode cX10_best 4 = .ok (.ifCond .ne 6, 3) := by decide +kernel
theorem dX10_best_7 : decode cX10_best 7 = .ok (.ldc 198, 2) := by decide +kernel
theorem dX10_best_9 : decode cX10_best 9 = .ok (.ireturn, 1) := by decide +kernel
theorem dX10_best_10 : decode cX10_best 10 = .ok (.aload_n 0, 1) := by decide +kernel
theorem dX10_best_11 : decode cX10_best 11 = .ok (.invokevirtual 221, 3) := by decide +kernel
theorem dX10_best_14 : decode cX10_best 14 = .ok (.ldc 61, 2) := by decide +kernel
theorem dX10_best_16 : decode cX10_best 16 = .ok (.istore_n 1, 1) := by decide +kernel
theorem dX10_best_17 : decode cX10_best 17 = .ok (.iconst 0, 1) := by decide +kernel
theorem dX10_best_18 : decode cX10_best 18 = .ok (.istore_n 2, 1) := by decide +kernel
theorem dX10_best_19 : decode cX10_best 19 = .ok (.iconst 0, 1) := by decide +kernel
theorem dX10_best_20 : decode cX10_best 20 = .ok (.istore_n 3, 1) := by decide +kernel
theorem dX10_best_21 : decode cX10_best 21 = .ok (.iload_n 3, 1) := by decide +kernel
theorem dX10_best_22 : decode cX10_best 22 = .ok (.aload_n 0, 1) := by decide +kernel
theorem dX10_best_23 : decode cX10_best 23 = .ok (.getfield 7, 3) := by decide +kernel
theorem dX10_best_26 : decode cX10_best 26 = .ok (.iconst 1, 1) := by decide +kernel
theorem dX10_best_27 : decode cX10_best 27 = .ok (.iaload, 1) := by decide +kernel
theorem dX10_best_28 : decode cX10_best 28 = .ok (.if_icmp .ge 58, 3) := by decide +kernel
theorem dX10_best_31 : decode cX10_best 31 = .ok (.aload_n 0, 1) := by decide +kernel
theorem dX10_best_32 : decode cX10_best 32 = .ok (.iload_n 3, 1) := by decide +kernel
theorem dX10_best_33 : decode cX10_best 33 = .ok (.invokevirtual 292, 3) := by decide +kernel
theorem dX10_best_36 : decode cX10_best 36 = .ok (.istore 4, 2) := by decide +kernel
theorem dX10_best_38 : decode cX10_best 38 = .ok (.iload_n 1, 1) := by decide +kernel
theorem dX10_best_39 : decode cX10_best 39 = .ok (.ldc 61, 2) := by decide +kernel
theorem dX10_best_41 : decode cX10_best 41 = .ok (.if_icmp .eq 9, 3) := by decide +kernel
theorem dX10_best_44 : decode cX10_best 44 = .ok (.iload 4, 2) := by decide +kernel
theorem dX10_best_46 : decode cX10_best 46 = .ok (.iload_n 2, 1) := by decide +kernel
theorem dX10_best_47 : decode cX10_best 47 = .ok (.if_icmp .le 7, 3) := by decide +kernel
theorem dX10_best_50 : decode cX10_best 50 = .ok (.iconst 1, 1) := by decide +kernel
theorem dX10_best_51 : decode cX10_best 51 = .ok (.goto 4, 3) := by decide +kernel
theorem dX10_best_54 : decode cX10_best 54 = .ok (.iconst 0, 1) := by decide +kernel
theorem dX10_best_55 : decode cX10_best 55 = .ok (.istore 5, 2) := by decide +kernel
theorem dX10_best_57 : decode cX10_best 57 = .ok (.iload 5, 2) := by decide +kernel
theorem dX10_best_59 : decode cX10_best 59 = .ok (.ifCond .eq 7, 3) := by decide +kernel
theorem dX10_best_62 : decode cX10_best 62 = .ok (.iload_n 3, 1) := by decide +kernel
theorem dX10_best_63 : decode cX10_best 63 = .ok (.goto 4, 3) := by decide +kernel
theorem dX10_best_66 : decode cX10_best 66 = .ok (.iload_n 1, 1) := by decide +kernel
theorem dX10_best_67 : decode cX10_best 67 = .ok (.istore_n 1, 1) := by decide +kernel
theorem dX10_best_68 : decode cX10_best 68 = .ok (.iload 5, 2) := by decide +kernel
theorem dX10_best_70 : decode cX10_best 70 = .ok (.ifCond .eq 8, 3) := by decide +kernel
theorem dX10_best_73 : decode cX10_best 73 = .ok (.iload 4, 2) := by decide +kernel
theorem dX10_best_75 : decode cX10_best 75 = .ok (.goto 4, 3) := by decide +kernel
theorem dX10_best_78 : decode cX10_best 78 = .ok (.iload_n 2, 1) := by decide +kernel
theorem dX10_best_79 : decode cX10_best 79 = .ok (.istore_n 2, 1) := by decide +kernel
theorem dX10_best_80 : decode cX10_best 80 = .ok (.iinc 3 1, 3) := by decide +kernel
theorem dX10_best_83 : decode cX10_best 83 = .ok (.goto (-62), 3) := by decide +kernel
theorem dX10_best_86 : decode cX10_best 86 = .ok (.iload_n 1, 1) := by decide +kernel
theorem dX10_best_87 : decode cX10_best 87 = .ok (.ireturn, 1) := by decide +kernel
theorem dX10_image_0 : decode cX10_image 0 = .ok (.iload_n 1, 1) := by decide +kernel
theorem dX10_image_1 : decode cX10_image 1 = .ok (.i2l, 1) := by decide +kernel
theorem dX10_image_2 : decode cX10_image 2 = .ok (.lconst 0, 1) := by decide +kernel
theorem dX10_image_3 : decode cX10_image 3 = .ok (.lconst 1, 1) := by decide +kernel
theorem dX10_image_4 : decode cX10_image 4 = .ok (.invokestatic 51, 3) := by decide +kernel
theorem dX10_image_7 : decode cX10_image 7 = .ok (.ifCond .ne 6, 3) := by decide +kernel
theorem dX10_image_10 : decode cX10_image 10 = .ok (.ldc 177, 2) := by decide +kernel
theorem dX10_image_12 : decode cX10_image 12 = .ok (.ireturn, 1) := by decide +kernel
theorem dX10_image_13 : decode cX10_image 13 = .ok (.aload_n 0, 1) := by decide +kernel
theorem dX10_image_14 : decode cX10_image 14 = .ok (.invokevirtual 47, 3) := by decide +kernel
theorem dX10_image_17 : decode cX10_image 17 = .ok (.ifCond .ne 6, 3) := by decide +kernel
theorem dX10_image_20 : decode cX10_image 20 = .ok (.ldc 198, 2) := by decide +kernel
theorem dX10_image_22 : decode cX10_image 22 = .ok (.ireturn, 1) := by decide +kernel
theorem dX10_image_23 : decode cX10_image 23 = .ok (.aload_n 0, 1) := by decide +kernel
theorem dX10_image_24 : decode cX10_image 24 = .ok (.getfield 7, 3) := by decide +kernel
theorem dX10_image_27 : decode cX10_image 27 = .ok (.iconst 0, 1) := by decide +kernel
theorem dX10_image_28 : decode cX10_image 28 = .ok (.aload_n 0, 1) := by decide +kernel
theorem dX10_image_29 : decode cX10_image 29 = .ok (.getfield 19, 3) := by decide +kernel
theorem dX10_image_32 : decode cX10_image 32 = .ok (.sipush 192, 3) := by decide +kernel
theorem dX10_image_35 : decode cX10_image 35 = .ok (.iload_n 1, 1) := by decide +kernel
theorem dX10_image_36 : decode cX10_image 36 = .ok (.imul, 1) := by decide +kernel
theorem dX10_image_37 : decode cX10_image 37 = .ok (.invokestatic 191, 3) := by decide +kernel
theorem dX10_image_40 : decode cX10_image 40 = .ok (.aload_n 0, 1) := by decide +kernel
theorem dX10_image_41 : decode cX10_image 41 = .ok (.getfield 22, 3) := by decide +kernel
theorem dX10_image_44 : decode cX10_image 44 = .ok (.iload_n 1, 1) := by decide +kernel
theorem dX10_image_45 : decode cX10_image 45 = .ok (.iconst 1, 1) := by decide +kernel
theorem dX10_image_46 : decode cX10_image 46 = .ok (.bastore, 1) := by decide +kernel
theorem dX10_image_47 : decode cX10_image 47 = .ok (.iconst 1, 1) := by decide +kernel
theorem dX10_image_48 : decode cX10_image 48 = .ok (.ireturn, 1) := by decide +kernel
theorem dX10_restore_0 : decode cX10_restore 0 = .ok (.iload_n 1, 1) := by decide +kernel
theorem dX10_restore_1 : decode cX10_restore 1 = .ok (.i2l, 1) := by decide +kernel
theorem dX10_restore_2 : decode cX10_restore 2 = .ok (.lconst 0, 1) := by decide +kernel
theorem dX10_restore_3 : decode cX10_restore 3 = .ok (.lconst 1, 1) := by decide +kernel
theorem dX10_restore_4 : decode cX10_restore 4 = .ok (.invokestatic 51, 3) := by decide +kernel
theorem dX10_restore_7 : decode cX10_restore 7 = .ok (.ifCond .ne 6, 3) := by decide +kernel
theorem dX10_restore_10 : decode cX10_restore 10 = .ok (.ldc 177, 2) := by decide +kernel
theorem dX10_restore_12 : decode cX10_restore 12 = .ok (.ireturn, 1) := by decide +kernel
theorem dX10_restore_13 : decode cX10_restore 13 = .ok (.aload_n 0, 1) := by decide +kernel
theorem dX10_restore_14 : decode cX10_restore 14 = .ok (.getfield 22, 3) := by decide +kernel
theorem dX10_restore_17 : decode cX10_restore 17 = .ok (.iload_n 1, 1) := by decide +kernel
theorem dX10_restore_18 : decode cX10_restore 18 = .ok (.baload, 1) := by decide +kernel
theorem dX10_restore_19 : decode cX10_restore 19 = .ok (.ifCond .ne 6, 3) := by decide +kernel
theorem dX10_restore_22 : decode cX10_restore 22 = .ok (.ldc 198, 2) := by decide +kernel
theorem dX10_restore_24 : decode cX10_restore 24 = .ok (.ireturn, 1) := by decide +kernel
theorem dX10_restore_25 : decode cX10_restore 25 = .ok (.aload_n 0, 1) := by decide +kernel
theorem dX10_restore_26 : decode cX10_restore 26 = .ok (.getfield 19, 3) := by decide +kernel
theorem dX10_restore_29 : decode cX10_restore 29 = .ok (.sipush 192, 3) := by decide +kernel
theorem dX10_restore_32 : decode cX10_restore 32 = .ok (.iload_n 1, 1) := by decide +kernel
theorem dX10_restore_33 : decode cX10_restore 33 = .ok (.imul, 1) := by decide +kernel
theorem dX10_restore_34 : decode cX10_restore 34 = .ok (.aload_n 0, 1) := by decide +kernel
theorem dX10_restore_35 : decode cX10_restore 35 = .ok (.getfield 7, 3) := by decide +kernel
theorem dX10_restore_38 : decode cX10_restore 38 = .ok (.iconst 0, 1) := by decide +kernel
theorem dX10_restore_39 : decode cX10_restore 39 = .ok (.invokestatic 191, 3) := by decide +kernel
theorem dX10_restore_42 : decode cX10_restore 42 = .ok (.aload_n 0, 1) := by decide +kernel
theorem dX10_restore_43 : decode cX10_restore 43 = .ok (.iconst 0, 1) := by decide +kernel
theorem dX10_restore_44 : decode cX10_restore 44 = .ok (.putfield 195, 3) := by decide +kernel
theorem dX10_restore_47 : decode cX10_restore 47 = .ok (.iconst 1, 1) := by decide +kernel
theorem dX10_restore_48 : decode cX10_restore 48 = .ok (.ireturn, 1) := by decide +kernel
theorem dX10_count_0 : decode cX10_count 0 = .ok (.iload_n 1, 1) := by decide +kernel
theorem dX10_count_1 : decode cX10_count 1 = .ok (.tableswitch 84 0 6 #[43, 50, 57, 62, 67, 74, 79], 43) := by decide +kernel
theorem dX10_count_44 : decode cX10_count 44 = .ok (.aload_n 0, 1) := by decide +kernel
theorem dX10_count_45 : decode cX10_count 45 = .ok (.getfield 7, 3) := by decide +kernel
theorem dX10_count_48 : decode cX10_count 48 = .ok (.iconst 0, 1) := by decide +kernel
theorem dX10_count_49 : decode cX10_count 49 = .ok (.iaload, 1) := by decide +kernel
theorem dX10_count_50 : decode cX10_count 50 = .ok (.ireturn, 1) := by decide +kernel
theorem dX10_count_51 : decode cX10_count 51 = .ok (.aload_n 0, 1) := by decide +kernel
theorem dX10_count_52 : decode cX10_count 52 = .ok (.getfield 7, 3) := by decide +kernel
theorem dX10_count_55 : decode cX10_count 55 = .ok (.iconst 1, 1) := by decide +kernel
theorem dX10_count_56 : decode cX10_count 56 = .ok (.iaload, 1) := by decide +kernel
theorem dX10_count_57 : decode cX10_count 57 = .ok (.ireturn, 1) := by decide +kernel
theorem dX10_count_58 : decode cX10_count 58 = .ok (.aload_n 0, 1) := by decide +kernel
theorem dX10_count_59 : decode cX10_count 59 = .ok (.invokevirtual 295, 3) := by decide +kernel
theorem dX10_count_62 : decode cX10_count 62 = .ok (.ireturn, 1) := by decide +kernel
theorem dX10_count_63 : decode cX10_count 63 = .ok (.aload_n 0, 1) := by decide +kernel
theorem dX10_count_64 : decode cX10_count 64 = .ok (.invokevirtual 231, 3) := by decide +kernel
theorem dX10_count_67 : decode cX10_count 67 = .ok (.ireturn, 1) := by decide +kernel
theorem dX10_count_68 : decode cX10_count 68 = .ok (.aload_n 0, 1) := by decide +kernel
theorem dX10_count_69 : decode cX10_count 69 = .ok (.getfield 7, 3) := by decide +kernel
theorem dX10_count_72 : decode cX10_count 72 = .ok (.iconst 2, 1) := by decide +kernel
theorem dX10_count_73 : decode cX10_count 73 = .ok (.iaload, 1) := by decide +kernel
theorem dX10_count_74 : decode cX10_count 74 = .ok (.ireturn, 1) := by decide +kernel
theorem dX10_count_75 : decode cX10_count 75 = .ok (.aload_n 0, 1) := by decide +kernel
theorem dX10_count_76 : decode cX10_count 76 = .ok (.getfield 195, 3) := by decide +kernel
theorem dX10_count_79 : decode cX10_count 79 = .ok (.ireturn, 1) := by decide +kernel
theorem dX10_count_80 : decode cX10_count 80 = .ok (.aload_n 0, 1) := by decide +kernel
theorem dX10_count_81 : decode cX10_count 81 = .ok (.getfield 95, 3) := by decide +kernel
theorem dX10_count_84 : decode cX10_count 84 = .ok (.ireturn, 1) := by decide +kernel
theorem dX10_count_85 : decode cX10_count 85 = .ok (.ldc 177, 2) := by decide +kernel
theorem dX10_count_87 : decode cX10_count 87 = .ok (.ireturn, 1) := by decide +kernel
def w_X10_in0 : List Cond := .code yX10_in0 cX10_in0 6 (some .boolean) :: ([])
set_option maxHeartbeats 4000000 in
set_option maxRecDepth 100000 in
theorem c_X10_in0 (l : Launch) (D : va_G) (z_v : Int64) (z_lo : Int64) (z_hi : Int64) : Met l yX10_in0 w_X10_in0 ({ frames := 0, cells := 0, slots := 0, locals := 0 }) (va_Pc [.long z_v, .long z_lo, .long z_hi] (fun U => va_P D vwCl [] U.heap ∧ va_K D vwCl [] U)) (va_Qi (fun (r : Int32) (_ : Unit) => (r = 1 ∧ z_lo.toInt ≤ z_v.toInt ∧ z_v.toInt ≤ z_hi.toInt) ∨ (r = 0 ∧ ¬ (z_lo.toInt ≤ z_v.toInt ∧ z_v.toInt ≤ z_hi.toInt))) (fun _ _ => True) (fun _ => False)) 0 0 (fun _ => False) := by
  refine Met.ofW (cc := cX10_in0) (maxL := 6) (ret := (some .boolean)) (by decide) rfl ?_
  intro p e s m args below meth c s₁ B hml hv
  obtain ⟨rfl, hP, hK⟩ := hv
  have hx := B.exec
  have hb := B.bytes
  have hr := B.returns
  have hts := atoms_spec (ws := w_X10_in0) B.pre
  have hown : s.vm.findClass RX10 = some m.cls := findClass_of_methodNamed B.named
  have hlocks := B.notSynchronized
  have hS : va_S (fun _ : Nat => False) s.heap s.heap [] := va_S.rf
  have hP : va_P D vwCl [] s.heap := hP
  have hl := lv_entry ([.long z_v, .long z_lo, .long z_hi]) (n := 6) (Nat.le_of_ble_eq_true rfl)
  rw [lg_entry_eq]
  generalize (lg_sl ([.long z_v, .long z_lo, .long z_hi]) ++ List.replicate (6 - (lg_sl ([.long z_v, .long z_lo, .long z_hi])).length) Slot.unset).toArray = ls at hl ⊢
  have hl : lv_has ls 6 [(0, .long z_v), (2, .long z_lo), (4, .long z_hi)] := hl
  obtain ⟨H, hHe⟩ : ∃ H : Heap, H = s.heap := ⟨_, rfl⟩
  rw [← hHe] at hP
  have hS : va_S (fun _ : Nat => False) s.heap H [] := by rw [hHe]; exact hS
  refine pw_heap hHe ?_
  refine lv_lload_n hx hb dX10_in0_0 rfl (lv_at hl 0 rfl) ?_
  refine lv_lload_n hx hb dX10_in0_1 rfl (lv_at hl 1 rfl) ?_
  refine W.lcmp hx hb dX10_in0_2 ?_
  refine lv_if_lt (tgt := 17) hx hb dX10_in0_3 (by decide) (fun c1 => ?_) (fun c1 => ?_)
  · have nc1 := pw_lc_lt c1
    refine lv_iconst (v := 0) hx hb dX10_in0_17 (by decide) ?_
    exact W.zret (v := 0) (ty := .boolean) hx hb hr rfl (fun t ht hW => ⟨⟨0, (), rfl, Or.inr ⟨rfl, by omega⟩, trivial⟩, hS.F ht⟩) hS.2.2 dX10_in0_18
  · have nc1 := pw_lc_nlt c1
    refine lv_lload_n hx hb dX10_in0_6 rfl (lv_at hl 0 rfl) ?_
    refine lv_lload hx hb dX10_in0_7 (lv_at hl 2 rfl) ?_
    refine W.lcmp hx hb dX10_in0_9 ?_
    refine lv_if_gt (tgt := 17) hx hb dX10_in0_10 (by decide) (fun c2 => ?_) (fun c2 => ?_)
    · have nc2 := pw_lc_gt c2
      refine lv_iconst (v := 0) hx hb dX10_in0_17 (by decide) ?_
      exact W.zret (v := 0) (ty := .boolean) hx hb hr rfl (fun t ht hW => ⟨⟨0, (), rfl, Or.inr ⟨rfl, by omega⟩, trivial⟩, hS.F ht⟩) hS.2.2 dX10_in0_18
    · have nc2 := pw_lc_ngt c2
      refine lv_iconst (v := 1) hx hb dX10_in0_13 (by decide) ?_
      refine lv_goto (tgt := 18) hx hb dX10_in0_14 (by decide) ?_
      exact W.zret (v := 1) (ty := .boolean) hx hb hr rfl (fun t ht hW => ⟨⟨1, (), rfl, Or.inl ⟨rfl, by omega, by omega⟩, trivial⟩, hS.F ht⟩) hS.2.2 dX10_in0_18
def w_X10_isWork : List Cond := .code yX10_isWork cX10_isWork 1 (some .boolean) :: ([.fieldLink RX10 7 "LineCitesModel" "now" "[I"] ++ wsX100)
set_option maxHeartbeats 4000000 in
set_option maxRecDepth 100000 in
theorem c_X10_isWork (l : Launch) (D : va_G) (h0 : Nat) (m_now : Nat) (m_draft : Nat) (m_past : Nat) (m_images : Nat) (m_kept : Nat) (m_tape : Nat) (m_low : Nat) (m_high : Nat) (m_first : Nat) (m_second : Nat) (m_lines : Nat) (m_others : Nat) (k_n : ClassId) : Met l yX10_isWork w_X10_isWork ({ frames := 0, cells := 0, slots := 0, locals := 0 }) (va_Pc [.ref h0] (fun U => va_P D vwCl [(h0, .inr (10, [.ref m_now, .ref m_draft, .ref m_past, .int 0, .ref m_images, .ref m_kept, .ref m_tape, .int 0, .int 0, .int 0, .int 0, .int 0, .int 0, .int 0, .int 0, .ref m_low, .ref m_high, .ref m_first, .ref m_second, .ref m_lines, .ref m_others, .int 0, .int 0, .int 0, .int 0])), (m_now, .inl (k_n, 192, .inl (fun _ => 0)))] U.heap ∧ va_K D vwCl [(k_n, .int)] U)) (va_Qi (fun (r : Int32) (_ : Unit) => r = 0) (fun _ _ => True) (fun _ => False)) 0 0 (fun _ => False) := by
  refine Met.ofW (cc := cX10_isWork) (maxL := 1) (ret := (some .boolean)) (by decide) rfl ?_
  intro p e s m args below meth c s₁ B hml hv
  obtain ⟨rfl, hP, hK⟩ := hv
  have hx := B.exec
  have hb := B.bytes
  have hr := B.returns
  have hts := atoms_spec (ws := w_X10_isWork) B.pre
  have hown : s.vm.findClass RX10 = some m.cls := findClass_of_methodNamed B.named
  have hlocks := B.notSynchronized
  have hS : va_S (fun _ : Nat => False) s.heap s.heap [] := va_S.rf
  have hP : va_P D vwCl [(h0, .inr (10, [.ref m_now, .ref m_draft, .ref m_past, .int 0, .ref m_images, .ref m_kept, .ref m_tape, .int 0, .int 0, .int 0, .int 0, .int 0, .int 0, .int 0, .int 0, .ref m_low, .ref m_high, .ref m_first, .ref m_second, .ref m_lines, .ref m_others, .int 0, .int 0, .int 0, .int 0])), (m_now, .inl (k_n, 192, .inl (fun _ => 0)))] s.heap := hP
  have hl := lv_entry ([.ref h0]) (n := 1) (Nat.le_of_ble_eq_true rfl)
  rw [lg_entry_eq]
  generalize (lg_sl ([.ref h0]) ++ List.replicate (1 - (lg_sl ([.ref h0])).length) Slot.unset).toArray = ls at hl ⊢
  have hl : lv_has ls 1 [(0, .ref h0)] := hl
  obtain ⟨H, hHe⟩ : ∃ H : Heap, H = s.heap := ⟨_, rfl⟩
  rw [← hHe] at hP
  have hS : va_S (fun _ : Nat => False) s.heap H [] := by rw [hHe]; exact hS
  refine pw_heap hHe ?_
  refine lv_aload_n hx hb dX10_isWork_0 rfl (lv_at hl 0 rfl) ?_
  refine va_get (D := D) (ci := 10) (v := .ref m_now) (C := RX10) (T := TX10) (N := 25) hx hb hts (fun _ h => List.mem_cons_of_mem _ (List.mem_append_right _ h)) hown hK hP 0 rfl rfl 0 (by decide) (hts (.fieldLink RX10 7 "LineCitesModel" "now" "[I") (List.mem_of_getElem? (i := 1) rfl)) (fun _ h9 => h9) rfl dX10_isWork_1 ?_
  refine lv_iconst (v := 0) hx hb dX10_isWork_4 (by decide) ?_
  refine va_iald hx hb hK hP 1 0 rfl rfl (vp_in_iff.mpr (by decide)) dX10_isWork_5 ?_
  refine lv_topi (fun x1 ex1 => ?_)
  obtain rfl : x1 = 0 := ex1
  refine lv_if_le (tgt := 13) hx hb dX10_isWork_6 (by decide) (fun c2 => ?_) (fun c2 => absurd (by decide) c2)
  refine lv_iconst (v := 0) hx hb dX10_isWork_13 (by decide) ?_
  exact W.zret (v := 0) (ty := .boolean) hx hb hr rfl (fun t ht hW => ⟨⟨0, (), rfl, rfl, trivial⟩, hS.F ht⟩) hS.2.2 dX10_isWork_14
def w_X10_isEdition : List Cond := .code yX10_isEdition cX10_isEdition 2 (some .boolean) :: ([.methodLink RX10 47 yX10_isWork, .instanceMethod yX10_isWork, .selects RX10 yX10_isWork yX10_isWork, .initialized RX10, .code yX10_isWork cX10_isWork 1 (some .boolean), .fieldLink RX10 7 "LineCitesModel" "now" "[I"] ++ wsX100)
set_option maxRecDepth 20000 in
theorem g_X10_isEdition_X10_isWork : GoodIn w_X10_isEdition (wsV RX10 47 RX10 yX10_isWork w_X10_isWork) := goodIn_r _ [1, 2, 3, 4, 5, 6, 7, 8, 9, 10, 11, 12, 13, 14, 15, 16, 17, 18, 19, 20, 21, 22, 23, 24, 25, 26, 27, 28, 29, 30, 31] rfl (by decide +kernel)
set_option maxHeartbeats 4000000 in
set_option maxRecDepth 100000 in
theorem c_X10_isEdition (l : Launch) (D : va_G) (h0 : Nat) (i_e : Int32) (m_now : Nat) (m_draft : Nat) (m_past : Nat) (m_images : Nat) (m_kept : Nat) (m_tape : Nat) (m_low : Nat) (m_high : Nat) (m_first : Nat) (m_second : Nat) (m_lines : Nat) (m_others : Nat) (k_n : ClassId) : Met l yX10_isEdition w_X10_isEdition ({ frames := 1, cells := 0, slots := 0, locals := 20 }) (va_Pc [.ref h0, .int i_e] (fun U => va_P D vwCl [(h0, .inr (10, [.ref m_now, .ref m_draft, .ref m_past, .int 0, .ref m_images, .ref m_kept, .ref m_tape, .int 0, .int 0, .int 0, .int 0, .int 0, .int 0, .int 0, .int 0, .ref m_low, .ref m_high, .ref m_first, .ref m_second, .ref m_lines, .ref m_others, .int 0, .int 0, .int 0, .int 0])), (m_now, .inl (k_n, 192, .inl (fun _ => 0)))] U.heap ∧ va_K D vwCl [(k_n, .int)] U)) (va_Qi (fun (r : Int32) (_ : Unit) => r = 0) (fun _ _ => True) (fun _ => False)) 0 0 (fun _ => False) := by
  refine Met.ofW (cc := cX10_isEdition) (maxL := 2) (ret := (some .boolean)) (by decide) rfl ?_
  intro p e s m args below meth c s₁ B hml hv
  obtain ⟨rfl, hP, hK⟩ := hv
  have hx := B.exec
  have hb := B.bytes
  have hr := B.returns
  have hts := atoms_spec (ws := w_X10_isEdition) B.pre
  have hown : s.vm.findClass RX10 = some m.cls := findClass_of_methodNamed B.named
  have hlocks := B.notSynchronized
  have hS : va_S (fun _ : Nat => False) s.heap s.heap [] := va_S.rf
  have hP : va_P D vwCl [(h0, .inr (10, [.ref m_now, .ref m_draft, .ref m_past, .int 0, .ref m_images, .ref m_kept, .ref m_tape, .int 0, .int 0, .int 0, .int 0, .int 0, .int 0, .int 0, .int 0, .ref m_low, .ref m_high, .ref m_first, .ref m_second, .ref m_lines, .ref m_others, .int 0, .int 0, .int 0, .int 0])), (m_now, .inl (k_n, 192, .inl (fun _ => 0)))] s.heap := hP
  have hl := lv_entry ([.ref h0, .int i_e]) (n := 2) (Nat.le_of_ble_eq_true rfl)
  rw [lg_entry_eq]
  generalize (lg_sl ([.ref h0, .int i_e]) ++ List.replicate (2 - (lg_sl ([.ref h0, .int i_e])).length) Slot.unset).toArray = ls at hl ⊢
  have hl : lv_has ls 2 [(0, .ref h0), (1, .int i_e)] := hl
  obtain ⟨H, hHe⟩ : ∃ H : Heap, H = s.heap := ⟨_, rfl⟩
  rw [← hHe] at hP
  have hS : va_S (fun _ : Nat => False) s.heap H [] := by rw [hHe]; exact hS
  refine pw_heap hHe ?_
  refine lv_aload_n hx hb dX10_isEdition_0 rfl (lv_at hl 0 rfl) ?_
  have hPc := hP.sub (ws' := [(h0, .inr (10, [.ref m_now, .ref m_draft, .ref m_past, .int 0, .ref m_images, .ref m_kept, .ref m_tape, .int 0, .int 0, .int 0, .int 0, .int 0, .int 0, .int 0, .int 0, .ref m_low, .ref m_high, .ref m_first, .ref m_second, .ref m_lines, .ref m_others, .int 0, .int 0, .int 0, .int 0])), (m_now, .inl (k_n, 192, .inl (fun _ => 0)))]) [0, 1] rfl
  have hKc := hK.sub (tys' := [(k_n, .int)]) [0] rfl
  refine va_calli (va_runV (As := []) (rest := []) ⟨hx, hb, hml, hown, hts⟩ (c_X10_isWork l D h0 m_now m_draft m_past m_images m_kept m_tape m_low m_high m_first m_second m_lines m_others k_n) (cwV 0 hts g_X10_isEdition_X10_isWork rfl rfl rfl (by decide +kernel) ⟨Nat.le_of_ble_eq_true rfl, Nat.le_of_ble_eq_true rfl⟩) ⟨fun a U g mk q => by obtain ⟨q0, qP, qK⟩ := q; exact ⟨q0, qP, va_K.moved (u := U) (U := U.calling g mk a) (Vm.Alike.refl U.vm) qK⟩, va_recv hKc hPc (ci := 10) (q0 := 0) rfl rfl, fun U hU hW => ⟨rfl, by rw [hU]; exact hPc, va_K.moved hW.alike hKc⟩⟩ rfl rfl hl.1 rfl (lv_room (Nat.le_of_ble_eq_true rfl)) dX10_isEdition_1 ⟨Nat.le_of_ble_eq_true rfl, Nat.le_of_ble_eq_true rfl⟩) hS (fun _ _ h => h.elim) (fun _ h => h.elim) (fun r1 u t H1 locs ht hvm hw hB hz1 hk1 hS => ?_)
  have hP := pw_keep hP (fun q hq => hk1 q hq (fun h => h))
  generalize H1 = H at hP hS ⊢
  refine W.widen (k := 0) (n := 0) (Nat.le_of_ble_eq_true rfl) (Nat.le_of_ble_eq_true rfl) ?_
  obtain rfl : r1 = 0 := hw
  refine lv_if_eq (tgt := 29) hx hb dX10_isEdition_4 (by decide) (fun c2 => ?_) (fun c2 => absurd (by decide) c2)
  refine lv_iconst (v := 0) hx hb dX10_isEdition_29 (by decide) ?_
  exact W.zret (v := 0) (ty := .boolean) hx hb hr rfl (fun t ht hW => ⟨⟨0, (), rfl, rfl, trivial⟩, hS.F ht⟩) hS.2.2 dX10_isEdition_30
def w_X10_isStretch : List Cond := .code yX10_isStretch cX10_isStretch 3 (some .boolean) :: ([.methodLink RX10 55 yX10_isEdition, .instanceMethod yX10_isEdition, .selects RX10 yX10_isEdition yX10_isEdition, .initialized RX10, .code yX10_isEdition cX10_isEdition 2 (some .boolean), .methodLink RX10 47 yX10_isWork, .instanceMethod yX10_isWork, .selects RX10 yX10_isWork yX10_isWork, .code yX10_isWork cX10_isWork 1 (some .boolean), .fieldLink RX10 7 "LineCitesModel" "now" "[I"] ++ wsX100)
set_option maxRecDepth 20000 in
theorem g_X10_isStretch_X10_isEdition : GoodIn w_X10_isStretch (wsV RX10 55 RX10 yX10_isEdition w_X10_isEdition) := goodIn_r _ [1, 2, 3, 4, 5, 6, 7, 8, 4, 9, 10, 11, 12, 13, 14, 15, 16, 17, 18, 19, 20, 21, 22, 23, 24, 25, 26, 27, 28, 29, 30, 31, 32, 33, 34, 35] rfl (by decide +kernel)
set_option maxHeartbeats 4000000 in
set_option maxRecDepth 100000 in
theorem c_X10_isStretch (l : Launch) (D : va_G) (h0 : Nat) (i_e : Int32) (i_s : Int32) (m_now : Nat) (m_draft : Nat) (m_past : Nat) (m_images : Nat) (m_kept : Nat) (m_tape : Nat) (m_low : Nat) (m_high : Nat) (m_first : Nat) (m_second : Nat) (m_lines : Nat) (m_others : Nat) (k_n : ClassId) : Met l yX10_isStretch w_X10_isStretch ({ frames := 2, cells := 0, slots := 0, locals := 41 }) (va_Pc [.ref h0, .int i_e, .int i_s] (fun U => va_P D vwCl [(h0, .inr (10, [.ref m_now, .ref m_draft, .ref m_past, .int 0, .ref m_images, .ref m_kept, .ref m_tape, .int 0, .int 0, .int 0, .int 0, .int 0, .int 0, .int 0, .int 0, .ref m_low, .ref m_high, .ref m_first, .ref m_second, .ref m_lines, .ref m_others, .int 0, .int 0, .int 0, .int 0])), (m_now, .inl (k_n, 192, .inl (fun _ => 0)))] U.heap ∧ va_K D vwCl [(k_n, .int)] U)) (va_Qi (fun (r : Int32) (_ : Unit) => r = 0) (fun _ _ => True) (fun _ => False)) 0 0 (fun _ => False) := by
  refine Met.ofW (cc := cX10_isStretch) (maxL := 3) (ret := (some .boolean)) (by decide) rfl ?_
  intro p e s m args below meth c s₁ B hml hv
  obtain ⟨rfl, hP, hK⟩ := hv
  have hx := B.exec
  have hb := B.bytes
  have hr := B.returns
  have hts := atoms_spec (ws := w_X10_isStretch) B.pre
  have hown : s.vm.findClass RX10 = some m.cls := findClass_of_methodNamed B.named
  have hlocks := B.notSynchronized
  have hS : va_S (fun _ : Nat => False) s.heap s.heap [] := va_S.rf
  have hP : va_P D vwCl [(h0, .inr (10, [.ref m_now, .ref m_draft, .ref m_past, .int 0, .ref m_images, .ref m_kept, .ref m_tape, .int 0, .int 0, .int 0, .int 0, .int 0, .int 0, .int 0, .int 0, .ref m_low, .ref m_high, .ref m_first, .ref m_second, .ref m_lines, .ref m_others, .int 0, .int 0, .int 0, .int 0])), (m_now, .inl (k_n, 192, .inl (fun _ => 0)))] s.heap := hP
  have hl := lv_entry ([.ref h0, .int i_e, .int i_s]) (n := 3) (Nat.le_of_ble_eq_true rfl)
  rw [lg_entry_eq]
  generalize (lg_sl ([.ref h0, .int i_e, .int i_s]) ++ List.replicate (3 - (lg_sl ([.ref h0, .int i_e, .int i_s])).length) Slot.unset).toArray = ls at hl ⊢
  have hl : lv_has ls 3 [(0, .ref h0), (1, .int i_e), (2, .int i_s)] := hl
  obtain ⟨H, hHe⟩ : ∃ H : Heap, H = s.heap := ⟨_, rfl⟩
  rw [← hHe] at hP
  have hS : va_S (fun _ : Nat => False) s.heap H [] := by rw [hHe]; exact hS
  refine pw_heap hHe ?_
  refine lv_aload_n hx hb dX10_isStretch_0 rfl (lv_at hl 0 rfl) ?_
  refine lv_iload_n hx hb dX10_isStretch_1 rfl (lv_at hl 1 rfl) ?_
  have hPc := hP.sub (ws' := [(h0, .inr (10, [.ref m_now, .ref m_draft, .ref m_past, .int 0, .ref m_images, .ref m_kept, .ref m_tape, .int 0, .int 0, .int 0, .int 0, .int 0, .int 0, .int 0, .int 0, .ref m_low, .ref m_high, .ref m_first, .ref m_second, .ref m_lines, .ref m_others, .int 0, .int 0, .int 0, .int 0])), (m_now, .inl (k_n, 192, .inl (fun _ => 0)))]) [0, 1] rfl
  have hKc := hK.sub (tys' := [(k_n, .int)]) [0] rfl
  refine va_calli (va_runV (As := [.int i_e]) (rest := []) ⟨hx, hb, hml, hown, hts⟩ (c_X10_isEdition l D h0 i_e m_now m_draft m_past m_images m_kept m_tape m_low m_high m_first m_second m_lines m_others k_n) (cwV 1 hts g_X10_isStretch_X10_isEdition rfl rfl rfl (by decide +kernel) ⟨Nat.le_of_ble_eq_true rfl, Nat.le_of_ble_eq_true rfl⟩) ⟨fun a U g mk q => by obtain ⟨q0, qP, qK⟩ := q; exact ⟨q0, qP, va_K.moved (u := U) (U := U.calling g mk a) (Vm.Alike.refl U.vm) qK⟩, va_recv hKc hPc (ci := 10) (q0 := 0) rfl rfl, fun U hU hW => ⟨rfl, by rw [hU]; exact hPc, va_K.moved hW.alike hKc⟩⟩ rfl rfl hl.1 rfl (lv_room (Nat.le_of_ble_eq_true rfl)) dX10_isStretch_2 ⟨Nat.le_of_ble_eq_true rfl, Nat.le_of_ble_eq_true rfl⟩) hS (fun _ _ h => h.elim) (fun _ h => h.elim) (fun r1 u t H1 locs ht hvm hw hB hz1 hk1 hS => ?_)
  have hP := pw_keep hP (fun q hq => hk1 q hq (fun h => h))
  generalize H1 = H at hP hS ⊢
  refine W.widen (k := 0) (n := 0) (Nat.le_of_ble_eq_true rfl) (Nat.le_of_ble_eq_true rfl) ?_
  obtain rfl : r1 = 0 := hw
  refine lv_if_eq (tgt := 32) hx hb dX10_isStretch_5 (by decide) (fun c2 => ?_) (fun c2 => absurd (by decide) c2)
  refine lv_iconst (v := 0) hx hb dX10_isStretch_32 (by decide) ?_
  exact W.zret (v := 0) (ty := .boolean) hx hb hr rfl (fun t ht hW => ⟨⟨0, (), rfl, rfl, trivial⟩, hS.F ht⟩) hS.2.2 dX10_isStretch_33
def w_X10_isLine : List Cond := .code yX10_isLine cX10_isLine 2 (some .boolean) :: ([.fieldLink RX10 7 "LineCitesModel" "now" "[I", .methodLink RX10 51 yX10_in0, .static yX10_in0, .initialized RX10, .code yX10_in0 cX10_in0 6 (some .boolean)] ++ wsX100)
set_option maxRecDepth 20000 in
theorem g_X10_isLine_X10_in0 : GoodIn w_X10_isLine (wsS RX10 51 yX10_in0 w_X10_in0) := goodIn_r _ [2, 3, 4, 5] rfl (by decide +kernel)
set_option maxHeartbeats 4000000 in
set_option maxRecDepth 100000 in
theorem c_X10_isLine (l : Launch) (D : va_G) (h0 : Nat) (i_n : Int32) (m_now : Nat) (m_draft : Nat) (m_past : Nat) (m_images : Nat) (m_kept : Nat) (m_tape : Nat) (m_low : Nat) (m_high : Nat) (m_first : Nat) (m_second : Nat) (m_lines : Nat) (m_others : Nat) (k_n : ClassId) : Met l yX10_isLine w_X10_isLine ({ frames := 1, cells := 0, slots := 0, locals := 25 }) (va_Pc [.ref h0, .int i_n] (fun U => va_P D vwCl [(h0, .inr (10, [.ref m_now, .ref m_draft, .ref m_past, .int 0, .ref m_images, .ref m_kept, .ref m_tape, .int 0, .int 0, .int 0, .int 0, .int 0, .int 0, .int 0, .int 0, .ref m_low, .ref m_high, .ref m_first, .ref m_second, .ref m_lines, .ref m_others, .int 0, .int 0, .int 0, .int 0])), (m_now, .inl (k_n, 192, .inl (fun _ => 0)))] U.heap ∧ va_K D vwCl [(k_n, .int)] U)) (va_Qi (fun (r : Int32) (_ : Unit) => r = 0) (fun _ _ => True) (fun _ => False)) 0 0 (fun _ => False) := by
  refine Met.ofW (cc := cX10_isLine) (maxL := 2) (ret := (some .boolean)) (by decide) rfl ?_
  intro p e s m args below meth c s₁ B hml hv
  obtain ⟨rfl, hP, hK⟩ := hv
  have hx := B.exec
  have hb := B.bytes
  have hr := B.returns
  have hts := atoms_spec (ws := w_X10_isLine) B.pre
  have hown : s.vm.findClass RX10 = some m.cls := findClass_of_methodNamed B.named
  have hlocks := B.notSynchronized
  have hS : va_S (fun _ : Nat => False) s.heap s.heap [] := va_S.rf
  have hP : va_P D vwCl [(h0, .inr (10, [.ref m_now, .ref m_draft, .ref m_past, .int 0, .ref m_images, .ref m_kept, .ref m_tape, .int 0, .int 0, .int 0, .int 0, .int 0, .int 0, .int 0, .int 0, .ref m_low, .ref m_high, .ref m_first, .ref m_second, .ref m_lines, .ref m_others, .int 0, .int 0, .int 0, .int 0])), (m_now, .inl (k_n, 192, .inl (fun _ => 0)))] s.heap := hP
  have hl := lv_entry ([.ref h0, .int i_n]) (n := 2) (Nat.le_of_ble_eq_true rfl)
  rw [lg_entry_eq]
  generalize (lg_sl ([.ref h0, .int i_n]) ++ List.replicate (2 - (lg_sl ([.ref h0, .int i_n])).length) Slot.unset).toArray = ls at hl ⊢
  have hl : lv_has ls 2 [(0, .ref h0), (1, .int i_n)] := hl
  obtain ⟨H, hHe⟩ : ∃ H : Heap, H = s.heap := ⟨_, rfl⟩
  rw [← hHe] at hP
  have hS : va_S (fun _ : Nat => False) s.heap H [] := by rw [hHe]; exact hS
  refine pw_heap hHe ?_
  refine lv_iload_n hx hb dX10_isLine_0 rfl (lv_at hl 1 rfl) ?_
  refine lv_i2l (v := i_n.toInt64) hx hb dX10_isLine_1 rfl ?_
  refine lv_lconst (v := 0) hx hb dX10_isLine_2 (by decide) ?_
  refine lv_aload_n hx hb dX10_isLine_3 rfl (lv_at hl 0 rfl) ?_
  refine va_get (D := D) (ci := 10) (v := .ref m_now) (C := RX10) (T := TX10) (N := 25) hx hb hts (fun _ h => List.mem_cons_of_mem _ (List.mem_append_right _ h)) hown hK hP 0 rfl rfl 0 (by decide) (hts (.fieldLink RX10 7 "LineCitesModel" "now" "[I") (List.mem_of_getElem? (i := 1) rfl)) (fun _ h9 => h9) rfl dX10_isLine_4 ?_
  refine lv_iconst (v := 0) hx hb dX10_isLine_7 (by decide) ?_
  refine va_iald hx hb hK hP 1 0 rfl rfl (vp_in_iff.mpr (by decide)) dX10_isLine_8 ?_
  refine lv_topi (fun x1 ex1 => ?_)
  obtain rfl : x1 = 0 := ex1
  refine lv_iconst (v := 1) hx hb dX10_isLine_9 (by decide) ?_
  refine lv_isub hx hb dX10_isLine_10 ?_
  refine lv_topi (fun x2 ex2 => ?_)
  obtain rfl : x2 = (-1) := ex2.trans (by decide)
  refine lv_i2l (v := (-1)) hx hb dX10_isLine_11 (by decide) ?_
  have hPc := hP.sub (ws' := []) [] rfl
  have hKc := hK.sub (tys' := []) [] rfl
  refine va_calli (va_runS (As := [.long i_n.toInt64, .long 0, .long (-1)]) (rest := []) ⟨hx, hb, hml, hown, hts⟩ (c_X10_in0 l D i_n.toInt64 0 (-1)) (cwS 3 hts g_X10_isLine_X10_in0 rfl rfl rfl (by decide +kernel) ⟨Nat.le_of_ble_eq_true rfl, Nat.le_of_ble_eq_true rfl⟩) ⟨fun a U g mk q => by obtain ⟨q0, qP, qK⟩ := q; exact ⟨q0, qP, va_K.moved (u := U) (U := U.calling g mk a) (Vm.Alike.refl U.vm) qK⟩, fun U hU hW => ⟨rfl, by rw [hU]; exact hPc, va_K.moved hW.alike hKc⟩⟩ rfl rfl hl.1 rfl (lv_room (Nat.le_of_ble_eq_true rfl)) dX10_isLine_12 ⟨Nat.le_of_ble_eq_true rfl, Nat.le_of_ble_eq_true rfl⟩) hS (fun _ _ h => h.elim) (fun _ h => h.elim) (fun r3 u t H1 locs ht hvm hw hB hz1 hk1 hS => ?_)
  have hP := pw_keep hP (fun q hq => hk1 q hq (fun h => h))
  generalize H1 = H at hP hS ⊢
  refine W.widen (k := 0) (n := 0) (Nat.le_of_ble_eq_true rfl) (Nat.le_of_ble_eq_true rfl) ?_
  rcases hw with ⟨rfl, r3h0, r3h1⟩ | ⟨rfl, r3h0⟩
  · exact False.elim (by have nn : 0 ≤ i_n.toInt ∧ i_n.toInt ≤ (-1) := pw_in0 r3h0 r3h1 (by decide) (by decide); omega)
  · have nr3 : ¬ (0 ≤ i_n.toInt ∧ i_n.toInt ≤ (-1)) := pw_nin0 r3h0 (by decide) (by decide)
    exact W.zret (v := 0) (ty := .boolean) hx hb hr rfl (fun t ht hW => ⟨⟨0, (), rfl, rfl, trivial⟩, hS.F ht⟩) hS.2.2 dX10_isLine_15
def w_X10_isNumber : List Cond := .code yX10_isNumber cX10_isNumber 1 (some .boolean) :: ([.constantLong RX10 59 (999), .methodLink RX10 51 yX10_in0, .static yX10_in0, .initialized RX10, .code yX10_in0 cX10_in0 6 (some .boolean)])
set_option maxRecDepth 20000 in
theorem g_X10_isNumber_X10_in0 : GoodIn w_X10_isNumber (wsS RX10 51 yX10_in0 w_X10_in0) := goodIn_r _ [2, 3, 4, 5] rfl (by decide +kernel)
set_option maxHeartbeats 4000000 in
set_option maxRecDepth 100000 in
theorem c_X10_isNumber (l : Launch) (D : va_G) (i_n : Int32) : Met l yX10_isNumber w_X10_isNumber ({ frames := 1, cells := 0, slots := 0, locals := 25 }) (va_Pc [.int i_n] (fun U => va_P D vwCl [] U.heap ∧ va_K D vwCl [] U)) (va_Qi (fun (r : Int32) (_ : Unit) => True) (fun _ _ => True) (fun _ => False)) 0 0 (fun _ => False) := by
  refine Met.ofW (cc := cX10_isNumber) (maxL := 1) (ret := (some .boolean)) (by decide) rfl ?_
  intro p e s m args below meth c s₁ B hml hv
  obtain ⟨rfl, hP, hK⟩ := hv
  have hx := B.exec
  have hb := B.bytes
  have hr := B.returns
  have hts := atoms_spec (ws := w_X10_isNumber) B.pre
  have hown : s.vm.findClass RX10 = some m.cls := findClass_of_methodNamed B.named
  have hlocks := B.notSynchronized
  have hS : va_S (fun _ : Nat => False) s.heap s.heap [] := va_S.rf
  have hP : va_P D vwCl [] s.heap := hP
  have hl := lv_entry ([.int i_n]) (n := 1) (Nat.le_of_ble_eq_true rfl)
  rw [lg_entry_eq]
  generalize (lg_sl ([.int i_n]) ++ List.replicate (1 - (lg_sl ([.int i_n])).length) Slot.unset).toArray = ls at hl ⊢
  have hl : lv_has ls 1 [(0, .int i_n)] := hl
  obtain ⟨H, hHe⟩ : ∃ H : Heap, H = s.heap := ⟨_, rfl⟩
  rw [← hHe] at hP
  have hS : va_S (fun _ : Nat => False) s.heap H [] := by rw [hHe]; exact hS
  refine pw_heap hHe ?_
  refine lv_iload_n hx hb dX10_isNumber_0 rfl (lv_at hl 0 rfl) ?_
  refine lv_i2l (v := i_n.toInt64) hx hb dX10_isNumber_1 rfl ?_
  refine lv_lconst (v := 1) hx hb dX10_isNumber_2 (by decide) ?_
  refine lv_ldc2 hx hb hown (hts (.constantLong RX10 59 (999)) (List.mem_of_getElem? (i := 1) rfl)) dX10_isNumber_3 ?_
  have hPc := hP.sub (ws' := []) [] rfl
  have hKc := hK.sub (tys' := []) [] rfl
  refine va_calli (va_runS (As := [.long i_n.toInt64, .long 1, .long 999]) (rest := []) ⟨hx, hb, hml, hown, hts⟩ (c_X10_in0 l D i_n.toInt64 1 999) (cwS 3 hts g_X10_isNumber_X10_in0 rfl rfl rfl (by decide +kernel) ⟨Nat.le_of_ble_eq_true rfl, Nat.le_of_ble_eq_true rfl⟩) ⟨fun a U g mk q => by obtain ⟨q0, qP, qK⟩ := q; exact ⟨q0, qP, va_K.moved (u := U) (U := U.calling g mk a) (Vm.Alike.refl U.vm) qK⟩, fun U hU hW => ⟨rfl, by rw [hU]; exact hPc, va_K.moved hW.alike hKc⟩⟩ rfl rfl hl.1 rfl (lv_room (Nat.le_of_ble_eq_true rfl)) dX10_isNumber_6 ⟨Nat.le_of_ble_eq_true rfl, Nat.le_of_ble_eq_true rfl⟩) hS (fun _ _ h => h.elim) (fun _ h => h.elim) (fun r1 u t H1 locs ht hvm hw hB hz1 hk1 hS => ?_)
  have hP := pw_keep hP (fun q hq => hk1 q hq (fun h => h))
  generalize H1 = H at hP hS ⊢
  refine W.widen (k := 0) (n := 0) (Nat.le_of_ble_eq_true rfl) (Nat.le_of_ble_eq_true rfl) ?_
  rcases hw with ⟨rfl, r1h0, r1h1⟩ | ⟨rfl, r1h0⟩
  · have nr1 : 1 ≤ i_n.toInt ∧ i_n.toInt ≤ 999 := pw_in0 r1h0 r1h1 (by decide) (by decide)
    exact W.zret (v := 1) (ty := .boolean) hx hb hr rfl (fun t ht hW => ⟨⟨1, (), rfl, trivial, trivial⟩, hS.F ht⟩) hS.2.2 dX10_isNumber_9
  · have nr1 : ¬ (1 ≤ i_n.toInt ∧ i_n.toInt ≤ 999) := pw_nin0 r1h0 (by decide) (by decide)
    exact W.zret (v := 0) (ty := .boolean) hx hb hr rfl (fun t ht hW => ⟨⟨0, (), rfl, trivial, trivial⟩, hS.F ht⟩) hS.2.2 dX10_isNumber_9
def w_X10_cited : List Cond := .code yX10_cited cX10_cited 3 (some .int) :: ([.fieldLink RX10 7 "LineCitesModel" "now" "[I"] ++ wsX100)
set_option maxHeartbeats 4000000 in
set_option maxRecDepth 100000 in
theorem c_X10_cited (l : Launch) (D : va_G) (h0 : Nat) (i_c : Int32) (m_now : Nat) (m_draft : Nat) (m_past : Nat) (m_images : Nat) (m_kept : Nat) (m_tape : Nat) (m_low : Nat) (m_high : Nat) (m_first : Nat) (m_second : Nat) (m_lines : Nat) (m_others : Nat) (k_n : ClassId) (hc0 : 0 ≤ i_c.toInt) (hc1 : i_c.toInt ≤ 7) : Met l yX10_cited w_X10_cited ({ frames := 0, cells := 0, slots := 0, locals := 0 }) (va_Pc [.ref h0, .int i_c, .int 0] (fun U => va_P D vwCl [(h0, .inr (10, [.ref m_now, .ref m_draft, .ref m_past, .int 0, .ref m_images, .ref m_kept, .ref m_tape, .int 0, .int 0, .int 0, .int 0, .int 0, .int 0, .int 0, .int 0, .ref m_low, .ref m_high, .ref m_first, .ref m_second, .ref m_lines, .ref m_others, .int 0, .int 0, .int 0, .int 0])), (m_now, .inl (k_n, 192, .inl (fun _ => 0)))] U.heap ∧ va_K D vwCl [(k_n, .int)] U)) (va_Qi (fun (r : Int32) (_ : Unit) => r = 0) (fun _ _ => True) (fun _ => False)) 0 0 (fun _ => False) := by
  refine Met.ofW (cc := cX10_cited) (maxL := 3) (ret := (some .int)) (by decide) rfl ?_
  intro p e s m args below meth c s₁ B hml hv
  obtain ⟨rfl, hP, hK⟩ := hv
  have hx := B.exec
  have hb := B.bytes
  have hr := B.returns
  have hts := atoms_spec (ws := w_X10_cited) B.pre
  have hown : s.vm.findClass RX10 = some m.cls := findClass_of_methodNamed B.named
  have hlocks := B.notSynchronized
  have hS : va_S (fun _ : Nat => False) s.heap s.heap [] := va_S.rf
  have hP : va_P D vwCl [(h0, .inr (10, [.ref m_now, .ref m_draft, .ref m_past, .int 0, .ref m_images, .ref m_kept, .ref m_tape, .int 0, .int 0, .int 0, .int 0, .int 0, .int 0, .int 0, .int 0, .ref m_low, .ref m_high, .ref m_first, .ref m_second, .ref m_lines, .ref m_others, .int 0, .int 0, .int 0, .int 0])), (m_now, .inl (k_n, 192, .inl (fun _ => 0)))] s.heap := hP
  have hl := lv_entry ([.ref h0, .int i_c, .int 0]) (n := 3) (Nat.le_of_ble_eq_true rfl)
  rw [lg_entry_eq]
  generalize (lg_sl ([.ref h0, .int i_c, .int 0]) ++ List.replicate (3 - (lg_sl ([.ref h0, .int i_c, .int 0])).length) Slot.unset).toArray = ls at hl ⊢
  have hl : lv_has ls 3 [(0, .ref h0), (1, .int i_c), (2, .int 0)] := hl
  obtain ⟨H, hHe⟩ : ∃ H : Heap, H = s.heap := ⟨_, rfl⟩
  rw [← hHe] at hP
  have hS : va_S (fun _ : Nat => False) s.heap H [] := by rw [hHe]; exact hS
  refine pw_heap hHe ?_
  refine lv_aload_n hx hb dX10_cited_0 rfl (lv_at hl 0 rfl) ?_
  refine va_get (D := D) (ci := 10) (v := .ref m_now) (C := RX10) (T := TX10) (N := 25) hx hb hts (fun _ h => List.mem_cons_of_mem _ (List.mem_append_right _ h)) hown hK hP 0 rfl rfl 0 (by decide) (hts (.fieldLink RX10 7 "LineCitesModel" "now" "[I") (List.mem_of_getElem? (i := 1) rfl)) (fun _ h9 => h9) rfl dX10_cited_1 ?_
  refine lv_sipush (v := 128) hx hb dX10_cited_4 (by decide) ?_
  refine lv_iconst (v := 5) hx hb dX10_cited_7 (by decide) ?_
  refine lv_iload_n hx hb dX10_cited_8 rfl (lv_at hl 1 rfl) ?_
  refine lv_imul hx hb dX10_cited_9 ?_
  refine lv_topi (fun x1 ex1 => ?_)
  refine lv_iadd hx hb dX10_cited_10 ?_
  refine lv_topi (fun x2 ex2 => ?_)
  refine lv_iload_n hx hb dX10_cited_11 rfl (lv_at hl 2 rfl) ?_
  refine lv_iadd hx hb dX10_cited_12 ?_
  refine lv_topi (fun x3 ex3 => ?_)
  refine va_iald hx hb hK hP 1 0 rfl rfl (by rw [ex3, ex2, ex1]; exact pw_cit hc0 hc1) dX10_cited_13 ?_
  refine lv_topi (fun x4 ex4 => ?_)
  obtain rfl : x4 = 0 := ex4
  exact W.iret (v := 0) hx hb hr (fun t ht hW => ⟨⟨0, (), rfl, rfl, trivial⟩, hS.F ht⟩) hS.2.2 dX10_cited_14
def w_X10_isCitation : List Cond := .code yX10_isCitation cX10_isCitation 2 (some .boolean) :: ([.constantLong RX10 213 (7), .methodLink RX10 51 yX10_in0, .static yX10_in0, .initialized RX10, .code yX10_in0 cX10_in0 6 (some .boolean), .methodLink RX10 215 yX10_cited, .instanceMethod yX10_cited, .selects RX10 yX10_cited yX10_cited, .code yX10_cited cX10_cited 3 (some .int), .fieldLink RX10 7 "LineCitesModel" "now" "[I"] ++ wsX100)
set_option maxRecDepth 20000 in
theorem g_X10_isCitation_X10_in0 : GoodIn w_X10_isCitation (wsS RX10 51 yX10_in0 w_X10_in0) := goodIn_r _ [2, 3, 4, 5] rfl (by decide +kernel)
set_option maxRecDepth 20000 in
theorem g_X10_isCitation_X10_cited : GoodIn w_X10_isCitation (wsV RX10 215 RX10 yX10_cited w_X10_cited) := goodIn_r _ [6, 7, 8, 4, 9, 10, 11, 12, 13, 14, 15, 16, 17, 18, 19, 20, 21, 22, 23, 24, 25, 26, 27, 28, 29, 30, 31, 32, 33, 34, 35] rfl (by decide +kernel)
set_option maxHeartbeats 4000000 in
set_option maxRecDepth 100000 in
theorem c_X10_isCitation (l : Launch) (D : va_G) (h0 : Nat) (i_c : Int32) (m_now : Nat) (m_draft : Nat) (m_past : Nat) (m_images : Nat) (m_kept : Nat) (m_tape : Nat) (m_low : Nat) (m_high : Nat) (m_first : Nat) (m_second : Nat) (m_lines : Nat) (m_others : Nat) (k_n : ClassId) : Met l yX10_isCitation w_X10_isCitation ({ frames := 1, cells := 0, slots := 0, locals := 25 }) (va_Pc [.ref h0, .int i_c] (fun U => va_P D vwCl [(h0, .inr (10, [.ref m_now, .ref m_draft, .ref m_past, .int 0, .ref m_images, .ref m_kept, .ref m_tape, .int 0, .int 0, .int 0, .int 0, .int 0, .int 0, .int 0, .int 0, .ref m_low, .ref m_high, .ref m_first, .ref m_second, .ref m_lines, .ref m_others, .int 0, .int 0, .int 0, .int 0])), (m_now, .inl (k_n, 192, .inl (fun _ => 0)))] U.heap ∧ va_K D vwCl [(k_n, .int)] U)) (va_Qi (fun (r : Int32) (_ : Unit) => r = 0) (fun _ _ => True) (fun _ => False)) 0 0 (fun _ => False) := by
  refine Met.ofW (cc := cX10_isCitation) (maxL := 2) (ret := (some .boolean)) (by decide) rfl ?_
  intro p e s m args below meth c s₁ B hml hv
  obtain ⟨rfl, hP, hK⟩ := hv
  have hx := B.exec
  have hb := B.bytes
  have hr := B.returns
  have hts := atoms_spec (ws := w_X10_isCitation) B.pre
  have hown : s.vm.findClass RX10 = some m.cls := findClass_of_methodNamed B.named
  have hlocks := B.notSynchronized
  have hS : va_S (fun _ : Nat => False) s.heap s.heap [] := va_S.rf
  have hP : va_P D vwCl [(h0, .inr (10, [.ref m_now, .ref m_draft, .ref m_past, .int 0, .ref m_images, .ref m_kept, .ref m_tape, .int 0, .int 0, .int 0, .int 0, .int 0, .int 0, .int 0, .int 0, .ref m_low, .ref m_high, .ref m_first, .ref m_second, .ref m_lines, .ref m_others, .int 0, .int 0, .int 0, .int 0])), (m_now, .inl (k_n, 192, .inl (fun _ => 0)))] s.heap := hP
  have hl := lv_entry ([.ref h0, .int i_c]) (n := 2) (Nat.le_of_ble_eq_true rfl)
  rw [lg_entry_eq]
  generalize (lg_sl ([.ref h0, .int i_c]) ++ List.replicate (2 - (lg_sl ([.ref h0, .int i_c])).length) Slot.unset).toArray = ls at hl ⊢
  have hl : lv_has ls 2 [(0, .ref h0), (1, .int i_c)] := hl
  obtain ⟨H, hHe⟩ : ∃ H : Heap, H = s.heap := ⟨_, rfl⟩
  rw [← hHe] at hP
  have hS : va_S (fun _ : Nat => False) s.heap H [] := by rw [hHe]; exact hS
  refine pw_heap hHe ?_
  refine lv_iload_n hx hb dX10_isCitation_0 rfl (lv_at hl 1 rfl) ?_
  refine lv_i2l (v := i_c.toInt64) hx hb dX10_isCitation_1 rfl ?_
  refine lv_lconst (v := 0) hx hb dX10_isCitation_2 (by decide) ?_
  refine lv_ldc2 hx hb hown (hts (.constantLong RX10 213 (7)) (List.mem_of_getElem? (i := 1) rfl)) dX10_isCitation_3 ?_
  have hPc := hP.sub (ws' := []) [] rfl
  have hKc := hK.sub (tys' := []) [] rfl
  refine va_calli (va_runS (As := [.long i_c.toInt64, .long 0, .long 7]) (rest := []) ⟨hx, hb, hml, hown, hts⟩ (c_X10_in0 l D i_c.toInt64 0 7) (cwS 3 hts g_X10_isCitation_X10_in0 rfl rfl rfl (by decide +kernel) ⟨Nat.le_of_ble_eq_true rfl, Nat.le_of_ble_eq_true rfl⟩) ⟨fun a U g mk q => by obtain ⟨q0, qP, qK⟩ := q; exact ⟨q0, qP, va_K.moved (u := U) (U := U.calling g mk a) (Vm.Alike.refl U.vm) qK⟩, fun U hU hW => ⟨rfl, by rw [hU]; exact hPc, va_K.moved hW.alike hKc⟩⟩ rfl rfl hl.1 rfl (lv_room (Nat.le_of_ble_eq_true rfl)) dX10_isCitation_6 ⟨Nat.le_of_ble_eq_true rfl, Nat.le_of_ble_eq_true rfl⟩) hS (fun _ _ h => h.elim) (fun _ h => h.elim) (fun r1 u t H1 locs ht hvm hw hB hz1 hk1 hS => ?_)
  have hP := pw_keep hP (fun q hq => hk1 q hq (fun h => h))
  generalize H1 = H at hP hS ⊢
  refine W.widen (k := 0) (n := 0) (Nat.le_of_ble_eq_true rfl) (Nat.le_of_ble_eq_true rfl) ?_
  rcases hw with ⟨rfl, r1h0, r1h1⟩ | ⟨rfl, r1h0⟩
  · have nr1 : 0 ≤ i_c.toInt ∧ i_c.toInt ≤ 7 := pw_in0 r1h0 r1h1 (by decide) (by decide)
    refine lv_if_eq (tgt := 26) hx hb dX10_isCitation_9 (by decide) (fun c2 => absurd c2 (by decide)) (fun c2 => ?_)
    refine lv_aload_n hx hb dX10_isCitation_12 rfl (lv_at hl 0 rfl) ?_
    refine lv_iload_n hx hb dX10_isCitation_13 rfl (lv_at hl 1 rfl) ?_
    refine lv_iconst (v := 0) hx hb dX10_isCitation_14 (by decide) ?_
    have hPc := hP.sub (ws' := [(h0, .inr (10, [.ref m_now, .ref m_draft, .ref m_past, .int 0, .ref m_images, .ref m_kept, .ref m_tape, .int 0, .int 0, .int 0, .int 0, .int 0, .int 0, .int 0, .int 0, .ref m_low, .ref m_high, .ref m_first, .ref m_second, .ref m_lines, .ref m_others, .int 0, .int 0, .int 0, .int 0])), (m_now, .inl (k_n, 192, .inl (fun _ => 0)))]) [0, 1] rfl
    have hKc := hK.sub (tys' := [(k_n, .int)]) [0] rfl
    refine va_calli (va_runV (As := [.int i_c, .int 0]) (rest := []) ⟨hx, hb, hml, hown, hts⟩ (c_X10_cited l D h0 i_c m_now m_draft m_past m_images m_kept m_tape m_low m_high m_first m_second m_lines m_others k_n (by first | decide | omega) (by first | decide | omega)) (cwV 2 hts g_X10_isCitation_X10_cited rfl rfl rfl (by decide +kernel) ⟨Nat.le_of_ble_eq_true rfl, Nat.le_of_ble_eq_true rfl⟩) ⟨fun a U g mk q => by obtain ⟨q0, qP, qK⟩ := q; exact ⟨q0, qP, va_K.moved (u := U) (U := U.calling g mk a) (Vm.Alike.refl U.vm) qK⟩, va_recv hKc hPc (ci := 10) (q0 := 0) rfl rfl, fun U hU hW => ⟨rfl, by rw [hU]; exact hPc, va_K.moved hW.alike hKc⟩⟩ rfl rfl hl.1 rfl (lv_room (Nat.le_of_ble_eq_true rfl)) dX10_isCitation_15 ⟨Nat.le_of_ble_eq_true rfl, Nat.le_of_ble_eq_true rfl⟩) hS (fun _ _ h => h.elim) (fun _ h => h.elim) (fun r3 u t H1 locs ht hvm hw hB hz1 hk1 hS => ?_)
    have hP := pw_keep hP (fun q hq => hk1 q hq (fun h => h))
    generalize H1 = H at hP hS ⊢
    refine W.widen (k := 0) (n := 0) (Nat.le_of_ble_eq_true rfl) (Nat.le_of_ble_eq_true rfl) ?_
    obtain rfl : r3 = 0 := hw
    refine lv_iconst (v := 1) hx hb dX10_isCitation_18 (by decide) ?_
    refine lv_icmp_ne (tgt := 26) hx hb dX10_isCitation_19 (by decide) (fun c4 => ?_) (fun c4 => absurd c4 (by decide))
    refine lv_iconst (v := 0) hx hb dX10_isCitation_26 (by decide) ?_
    exact W.zret (v := 0) (ty := .boolean) hx hb hr rfl (fun t ht hW => ⟨⟨0, (), rfl, rfl, trivial⟩, hS.F ht⟩) hS.2.2 dX10_isCitation_27
  · have nr1 : ¬ (0 ≤ i_c.toInt ∧ i_c.toInt ≤ 7) := pw_nin0 r1h0 (by decide) (by decide)
    refine lv_if_eq (tgt := 26) hx hb dX10_isCitation_9 (by decide) (fun c5 => ?_) (fun c5 => absurd (by decide) c5)
    refine lv_iconst (v := 0) hx hb dX10_isCitation_26 (by decide) ?_
    exact W.zret (v := 0) (ty := .boolean) hx hb hr rfl (fun t ht hW => ⟨⟨0, (), rfl, rfl, trivial⟩, hS.F ht⟩) hS.2.2 dX10_isCitation_27
def w_X10_citations : List Cond := .code yX10_citations cX10_citations 3 (some .int) :: ([.methodLink RX10 215 yX10_cited, .instanceMethod yX10_cited, .selects RX10 yX10_cited yX10_cited, .initialized RX10, .code yX10_cited cX10_cited 3 (some .int), .fieldLink RX10 7 "LineCitesModel" "now" "[I"] ++ wsX100)
set_option maxRecDepth 20000 in
theorem g_X10_citations_X10_cited : GoodIn w_X10_citations (wsV RX10 215 RX10 yX10_cited w_X10_cited) := goodIn_r _ [1, 2, 3, 4, 5, 6, 7, 8, 9, 10, 11, 12, 13, 14, 15, 16, 17, 18, 19, 20, 21, 22, 23, 24, 25, 26, 27, 28, 29, 30, 31] rfl (by decide +kernel)
set_option maxHeartbeats 4000000 in
set_option maxRecDepth 100000 in
theorem c_X10_citations (l : Launch) (D : va_G) (h0 : Nat) (m_now : Nat) (m_draft : Nat) (m_past : Nat) (m_images : Nat) (m_kept : Nat) (m_tape : Nat) (m_low : Nat) (m_high : Nat) (m_first : Nat) (m_second : Nat) (m_lines : Nat) (m_others : Nat) (k_n : ClassId) : Met l yX10_citations w_X10_citations ({ frames := 1, cells := 0, slots := 0, locals := 22 }) (va_Pc [.ref h0] (fun U => va_P D vwCl [(h0, .inr (10, [.ref m_now, .ref m_draft, .ref m_past, .int 0, .ref m_images, .ref m_kept, .ref m_tape, .int 0, .int 0, .int 0, .int 0, .int 0, .int 0, .int 0, .int 0, .ref m_low, .ref m_high, .ref m_first, .ref m_second, .ref m_lines, .ref m_others, .int 0, .int 0, .int 0, .int 0])), (m_now, .inl (k_n, 192, .inl (fun _ => 0)))] U.heap ∧ va_K D vwCl [(k_n, .int)] U)) (va_Qi (fun (r : Int32) (_ : Unit) => r = 0) (fun _ _ => True) (fun _ => False)) 0 0 (fun _ => False) := by
  refine Met.ofW (cc := cX10_citations) (maxL := 3) (ret := (some .int)) (by decide) rfl ?_
  intro p e s m args below meth c s₁ B hml hv
  obtain ⟨rfl, hP, hK⟩ := hv
  have hx := B.exec
  have hb := B.bytes
  have hr := B.returns
  have hts := atoms_spec (ws := w_X10_citations) B.pre
  have hown : s.vm.findClass RX10 = some m.cls := findClass_of_methodNamed B.named
  have hlocks := B.notSynchronized
  have hS : va_S (fun _ : Nat => False) s.heap s.heap [] := va_S.rf
  have hP : va_P D vwCl [(h0, .inr (10, [.ref m_now, .ref m_draft, .ref m_past, .int 0, .ref m_images, .ref m_kept, .ref m_tape, .int 0, .int 0, .int 0, .int 0, .int 0, .int 0, .int 0, .int 0, .ref m_low, .ref m_high, .ref m_first, .ref m_second, .ref m_lines, .ref m_others, .int 0, .int 0, .int 0, .int 0])), (m_now, .inl (k_n, 192, .inl (fun _ => 0)))] s.heap := hP
  have hl := lv_entry ([.ref h0]) (n := 3) (Nat.le_of_ble_eq_true rfl)
  rw [lg_entry_eq]
  generalize (lg_sl ([.ref h0]) ++ List.replicate (3 - (lg_sl ([.ref h0])).length) Slot.unset).toArray = ls at hl ⊢
  have hl : lv_has ls 3 [(0, .ref h0)] := hl
  obtain ⟨H, hHe⟩ : ∃ H : Heap, H = s.heap := ⟨_, rfl⟩
  rw [← hHe] at hP
  have hS : va_S (fun _ : Nat => False) s.heap H [] := by rw [hHe]; exact hS
  refine pw_heap hHe ?_
  refine lv_iconst (v := 0) hx hb dX10_citations_0 (by decide) ?_
  refine lv_istore_n (lv' := [(1, .int 0), (0, .ref h0)]) hx hb dX10_citations_1 rfl hl (by decide) rfl (fun ls hl => ?_)
  refine lv_iconst (v := 0) hx hb dX10_citations_2 (by decide) ?_
  refine lv_istore_n (lv' := [(2, .int 0), (1, .int 0), (0, .ref h0)]) hx hb dX10_citations_3 rfl hl (by decide) rfl (fun ls hl => ?_)
  refine lv_iload_n hx hb dX10_citations_4 rfl (lv_at hl 0 rfl) ?_
  refine lv_bipush (v := 8) hx hb dX10_citations_5 (by decide) ?_
  refine lv_icmp_ge (tgt := 25) hx hb dX10_citations_7 (by decide) (fun c1 => absurd c1 (by decide)) (fun c1 => ?_)
  refine lv_iload_n hx hb dX10_citations_10 rfl (lv_at hl 1 rfl) ?_
  refine lv_aload_n hx hb dX10_citations_11 rfl (lv_at hl 2 rfl) ?_
  refine lv_iload_n hx hb dX10_citations_12 rfl (lv_at hl 0 rfl) ?_
  refine lv_iconst (v := 0) hx hb dX10_citations_13 (by decide) ?_
  have hPc := hP.sub (ws' := [(h0, .inr (10, [.ref m_now, .ref m_draft, .ref m_past, .int 0, .ref m_images, .ref m_kept, .ref m_tape, .int 0, .int 0, .int 0, .int 0, .int 0, .int 0, .int 0, .int 0, .ref m_low, .ref m_high, .ref m_first, .ref m_second, .ref m_lines, .ref m_others, .int 0, .int 0, .int 0, .int 0])), (m_now, .inl (k_n, 192, .inl (fun _ => 0)))]) [0, 1] rfl
  have hKc := hK.sub (tys' := [(k_n, .int)]) [0] rfl
  refine va_calli (va_runV (As := [.int 0, .int 0]) (rest := [.int 0]) ⟨hx, hb, hml, hown, hts⟩ (c_X10_cited l D h0 0 m_now m_draft m_past m_images m_kept m_tape m_low m_high m_first m_second m_lines m_others k_n (by first | decide | omega) (by first | decide | omega)) (cwV 2 hts g_X10_citations_X10_cited rfl rfl rfl (by decide +kernel) ⟨Nat.le_of_ble_eq_true rfl, Nat.le_of_ble_eq_true rfl⟩) ⟨fun a U g mk q => by obtain ⟨q0, qP, qK⟩ := q; exact ⟨q0, qP, va_K.moved (u := U) (U := U.calling g mk a) (Vm.Alike.refl U.vm) qK⟩, va_recv hKc hPc (ci := 10) (q0 := 0) rfl rfl, fun U hU hW => ⟨rfl, by rw [hU]; exact hPc, va_K.moved hW.alike hKc⟩⟩ rfl rfl hl.1 rfl (lv_room (Nat.le_of_ble_eq_true rfl)) dX10_citations_14 ⟨Nat.le_of_ble_eq_true rfl, Nat.le_of_ble_eq_true rfl⟩) hS (fun _ _ h => h.elim) (fun _ h => h.elim) (fun r2 u t H1 locs ht hvm hw hB hz1 hk1 hS => ?_)
  have hP := pw_keep hP (fun q hq => hk1 q hq (fun h => h))
  generalize H1 = H at hP hS ⊢
  refine W.widen (k := 0) (n := 0) (Nat.le_of_ble_eq_true rfl) (Nat.le_of_ble_eq_true rfl) ?_
  obtain rfl : r2 = 0 := hw
  refine lv_iadd hx hb dX10_citations_17 ?_
  refine lv_topi (fun x3 ex3 => ?_)
  obtain rfl : x3 = 0 := ex3.trans (by decide)
  refine lv_istore_n (lv' := [(1, .int 0), (2, .int 0), (0, .ref h0)]) hx hb dX10_citations_18 rfl hl (by decide) rfl (fun ls hl => ?_)
  refine lv_iinc (v := 1) (lv' := [(2, .int 1), (1, .int 0), (0, .ref h0)]) hx hb dX10_citations_19 hl (k := 1) rfl (by decide) (by decide) rfl (fun ls hl => ?_)
  refine lv_goto (tgt := 4) hx hb dX10_citations_22 (by decide) ?_
  refine lv_iload_n hx hb dX10_citations_4 rfl (lv_at hl 0 rfl) ?_
  refine lv_bipush (v := 8) hx hb dX10_citations_5 (by decide) ?_
  refine lv_icmp_ge (tgt := 25) hx hb dX10_citations_7 (by decide) (fun c4 => absurd c4 (by decide)) (fun c4 => ?_)
  refine lv_iload_n hx hb dX10_citations_10 rfl (lv_at hl 1 rfl) ?_
  refine lv_aload_n hx hb dX10_citations_11 rfl (lv_at hl 2 rfl) ?_
  refine lv_iload_n hx hb dX10_citations_12 rfl (lv_at hl 0 rfl) ?_
  refine lv_iconst (v := 0) hx hb dX10_citations_13 (by decide) ?_
  have hPc := hP.sub (ws' := [(h0, .inr (10, [.ref m_now, .ref m_draft, .ref m_past, .int 0, .ref m_images, .ref m_kept, .ref m_tape, .int 0, .int 0, .int 0, .int 0, .int 0, .int 0, .int 0, .int 0, .ref m_low, .ref m_high, .ref m_first, .ref m_second, .ref m_lines, .ref m_others, .int 0, .int 0, .int 0, .int 0])), (m_now, .inl (k_n, 192, .inl (fun _ => 0)))]) [0, 1] rfl
  have hKc := hK.sub (tys' := [(k_n, .int)]) [0] rfl
  refine va_calli (va_runV (As := [.int 1, .int 0]) (rest := [.int 0]) ⟨hx, hb, hml, hown, hts⟩ (c_X10_cited l D h0 1 m_now m_draft m_past m_images m_kept m_tape m_low m_high m_first m_second m_lines m_others k_n (by first | decide | omega) (by first | decide | omega)) (cwV 2 hts g_X10_citations_X10_cited rfl rfl rfl (by decide +kernel) ⟨Nat.le_of_ble_eq_true rfl, Nat.le_of_ble_eq_true rfl⟩) ⟨fun a U g mk q => by obtain ⟨q0, qP, qK⟩ := q; exact ⟨q0, qP, va_K.moved (u := U) (U := U.calling g mk a) (Vm.Alike.refl U.vm) qK⟩, va_recv hKc hPc (ci := 10) (q0 := 0) rfl rfl, fun U hU hW => ⟨rfl, by rw [hU]; exact hPc, va_K.moved hW.alike hKc⟩⟩ rfl rfl hl.1 rfl (lv_room (Nat.le_of_ble_eq_true rfl)) dX10_citations_14 ⟨Nat.le_of_ble_eq_true rfl, Nat.le_of_ble_eq_true rfl⟩) hS (fun _ _ h => h.elim) (fun _ h => h.elim) (fun r5 u t H1 locs ht hvm hw hB hz1 hk1 hS => ?_)
  have hP := pw_keep hP (fun q hq => hk1 q hq (fun h => h))
  generalize H1 = H at hP hS ⊢
  refine W.widen (k := 0) (n := 0) (Nat.le_of_ble_eq_true rfl) (Nat.le_of_ble_eq_true rfl) ?_
  obtain rfl : r5 = 0 := hw
  refine lv_iadd hx hb dX10_citations_17 ?_
  refine lv_topi (fun x6 ex6 => ?_)
  obtain rfl : x6 = 0 := ex6.trans (by decide)
  refine lv_istore_n (lv' := [(1, .int 0), (2, .int 1), (0, .ref h0)]) hx hb dX10_citations_18 rfl hl (by decide) rfl (fun ls hl => ?_)
  refine lv_iinc (v := 2) (lv' := [(2, .int 2), (1, .int 0), (0, .ref h0)]) hx hb dX10_citations_19 hl (k := 1) rfl (by decide) (by decide) rfl (fun ls hl => ?_)
  refine lv_goto (tgt := 4) hx hb dX10_citations_22 (by decide) ?_
  refine lv_iload_n hx hb dX10_citations_4 rfl (lv_at hl 0 rfl) ?_
  refine lv_bipush (v := 8) hx hb dX10_citations_5 (by decide) ?_
  refine lv_icmp_ge (tgt := 25) hx hb dX10_citations_7 (by decide) (fun c7 => absurd c7 (by decide)) (fun c7 => ?_)
  refine lv_iload_n hx hb dX10_citations_10 rfl (lv_at hl 1 rfl) ?_
  refine lv_aload_n hx hb dX10_citations_11 rfl (lv_at hl 2 rfl) ?_
  refine lv_iload_n hx hb dX10_citations_12 rfl (lv_at hl 0 rfl) ?_
  refine lv_iconst (v := 0) hx hb dX10_citations_13 (by decide) ?_
  have hPc := hP.sub (ws' := [(h0, .inr (10, [.ref m_now, .ref m_draft, .ref m_past, .int 0, .ref m_images, .ref m_kept, .ref m_tape, .int 0, .int 0, .int 0, .int 0, .int 0, .int 0, .int 0, .int 0, .ref m_low, .ref m_high, .ref m_first, .ref m_second, .ref m_lines, .ref m_others, .int 0, .int 0, .int 0, .int 0])), (m_now, .inl (k_n, 192, .inl (fun _ => 0)))]) [0, 1] rfl
  have hKc := hK.sub (tys' := [(k_n, .int)]) [0] rfl
  refine va_calli (va_runV (As := [.int 2, .int 0]) (rest := [.int 0]) ⟨hx, hb, hml, hown, hts⟩ (c_X10_cited l D h0 2 m_now m_draft m_past m_images m_kept m_tape m_low m_high m_first m_second m_lines m_others k_n (by first | decide | omega) (by first | decide | omega)) (cwV 2 hts g_X10_citations_X10_cited rfl rfl rfl (by decide +kernel) ⟨Nat.le_of_ble_eq_true rfl, Nat.le_of_ble_eq_true rfl⟩) ⟨fun a U g mk q => by obtain ⟨q0, qP, qK⟩ := q; exact ⟨q0, qP, va_K.moved (u := U) (U := U.calling g mk a) (Vm.Alike.refl U.vm) qK⟩, va_recv hKc hPc (ci := 10) (q0 := 0) rfl rfl, fun U hU hW => ⟨rfl, by rw [hU]; exact hPc, va_K.moved hW.alike hKc⟩⟩ rfl rfl hl.1 rfl (lv_room (Nat.le_of_ble_eq_true rfl)) dX10_citations_14 ⟨Nat.le_of_ble_eq_true rfl, Nat.le_of_ble_eq_true rfl⟩) hS (fun _ _ h => h.elim) (fun _ h => h.elim) (fun r8 u t H1 locs ht hvm hw hB hz1 hk1 hS => ?_)
  have hP := pw_keep hP (fun q hq => hk1 q hq (fun h => h))
  generalize H1 = H at hP hS ⊢
  refine W.widen (k := 0) (n := 0) (Nat.le_of_ble_eq_true rfl) (Nat.le_of_ble_eq_true rfl) ?_
  obtain rfl : r8 = 0 := hw
  refine lv_iadd hx hb dX10_citations_17 ?_
  refine lv_topi (fun x9 ex9 => ?_)
  obtain rfl : x9 = 0 := ex9.trans (by decide)
  refine lv_istore_n (lv' := [(1, .int 0), (2, .int 2), (0, .ref h0)]) hx hb dX10_citations_18 rfl hl (by decide) rfl (fun ls hl => ?_)
  refine lv_iinc (v := 3) (lv' := [(2, .int 3), (1, .int 0), (0, .ref h0)]) hx hb dX10_citations_19 hl (k := 1) rfl (by decide) (by decide) rfl (fun ls hl => ?_)
  refine lv_goto (tgt := 4) hx hb dX10_citations_22 (by decide) ?_
  refine lv_iload_n hx hb dX10_citations_4 rfl (lv_at hl 0 rfl) ?_
  refine lv_bipush (v := 8) hx hb dX10_citations_5 (by decide) ?_
  refine lv_icmp_ge (tgt := 25) hx hb dX10_citations_7 (by decide) (fun c10 => absurd c10 (by decide)) (fun c10 => ?_)
  refine lv_iload_n hx hb dX10_citations_10 rfl (lv_at hl 1 rfl) ?_
  refine lv_aload_n hx hb dX10_citations_11 rfl (lv_at hl 2 rfl) ?_
  refine lv_iload_n hx hb dX10_citations_12 rfl (lv_at hl 0 rfl) ?_
  refine lv_iconst (v := 0) hx hb dX10_citations_13 (by decide) ?_
  have hPc := hP.sub (ws' := [(h0, .inr (10, [.ref m_now, .ref m_draft, .ref m_past, .int 0, .ref m_images, .ref m_kept, .ref m_tape, .int 0, .int 0, .int 0, .int 0, .int 0, .int 0, .int 0, .int 0, .ref m_low, .ref m_high, .ref m_first, .ref m_second, .ref m_lines, .ref m_others, .int 0, .int 0, .int 0, .int 0])), (m_now, .inl (k_n, 192, .inl (fun _ => 0)))]) [0, 1] rfl
  have hKc := hK.sub (tys' := [(k_n, .int)]) [0] rfl
  refine va_calli (va_runV (As := [.int 3, .int 0]) (rest := [.int 0]) ⟨hx, hb, hml, hown, hts⟩ (c_X10_cited l D h0 3 m_now m_draft m_past m_images m_kept m_tape m_low m_high m_first m_second m_lines m_others k_n (by first | decide | omega) (by first | decide | omega)) (cwV 2 hts g_X10_citations_X10_cited rfl rfl rfl (by decide +kernel) ⟨Nat.le_of_ble_eq_true rfl, Nat.le_of_ble_eq_true rfl⟩) ⟨fun a U g mk q => by obtain ⟨q0, qP, qK⟩ := q; exact ⟨q0, qP, va_K.moved (u := U) (U := U.calling g mk a) (Vm.Alike.refl U.vm) qK⟩, va_recv hKc hPc (ci := 10) (q0 := 0) rfl rfl, fun U hU hW => ⟨rfl, by rw [hU]; exact hPc, va_K.moved hW.alike hKc⟩⟩ rfl rfl hl.1 rfl (lv_room (Nat.le_of_ble_eq_true rfl)) dX10_citations_14 ⟨Nat.le_of_ble_eq_true rfl, Nat.le_of_ble_eq_true rfl⟩) hS (fun _ _ h => h.elim) (fun _ h => h.elim) (fun r11 u t H1 locs ht hvm hw hB hz1 hk1 hS => ?_)
  have hP := pw_keep hP (fun q hq => hk1 q hq (fun h => h))
  generalize H1 = H at hP hS ⊢
  refine W.widen (k := 0) (n := 0) (Nat.le_of_ble_eq_true rfl) (Nat.le_of_ble_eq_true rfl) ?_
  obtain rfl : r11 = 0 := hw
  refine lv_iadd hx hb dX10_citations_17 ?_
  refine lv_topi (fun x12 ex12 => ?_)
  obtain rfl : x12 = 0 := ex12.trans (by decide)
  refine lv_istore_n (lv' := [(1, .int 0), (2, .int 3), (0, .ref h0)]) hx hb dX10_citations_18 rfl hl (by decide) rfl (fun ls hl => ?_)
  refine lv_iinc (v := 4) (lv' := [(2, .int 4), (1, .int 0), (0, .ref h0)]) hx hb dX10_citations_19 hl (k := 1) rfl (by decide) (by decide) rfl (fun ls hl => ?_)
  refine lv_goto (tgt := 4) hx hb dX10_citations_22 (by decide) ?_
  refine lv_iload_n hx hb dX10_citations_4 rfl (lv_at hl 0 rfl) ?_
  refine lv_bipush (v := 8) hx hb dX10_citations_5 (by decide) ?_
  refine lv_icmp_ge (tgt := 25) hx hb dX10_citations_7 (by decide) (fun c13 => absurd c13 (by decide)) (fun c13 => ?_)
  refine lv_iload_n hx hb dX10_citations_10 rfl (lv_at hl 1 rfl) ?_
  refine lv_aload_n hx hb dX10_citations_11 rfl (lv_at hl 2 rfl) ?_
  refine lv_iload_n hx hb dX10_citations_12 rfl (lv_at hl 0 rfl) ?_
  refine lv_iconst (v := 0) hx hb dX10_citations_13 (by decide) ?_
  have hPc := hP.sub (ws' := [(h0, .inr (10, [.ref m_now, .ref m_draft, .ref m_past, .int 0, .ref m_images, .ref m_kept, .ref m_tape, .int 0, .int 0, .int 0, .int 0, .int 0, .int 0, .int 0, .int 0, .ref m_low, .ref m_high, .ref m_first, .ref m_second, .ref m_lines, .ref m_others, .int 0, .int 0, .int 0, .int 0])), (m_now, .inl (k_n, 192, .inl (fun _ => 0)))]) [0, 1] rfl
  have hKc := hK.sub (tys' := [(k_n, .int)]) [0] rfl
  refine va_calli (va_runV (As := [.int 4, .int 0]) (rest := [.int 0]) ⟨hx, hb, hml, hown, hts⟩ (c_X10_cited l D h0 4 m_now m_draft m_past m_images m_kept m_tape m_low m_high m_first m_second m_lines m_others k_n (by first | decide | omega) (by first | decide | omega)) (cwV 2 hts g_X10_citations_X10_cited rfl rfl rfl (by decide +kernel) ⟨Nat.le_of_ble_eq_true rfl, Nat.le_of_ble_eq_true rfl⟩) ⟨fun a U g mk q => by obtain ⟨q0, qP, qK⟩ := q; exact ⟨q0, qP, va_K.moved (u := U) (U := U.calling g mk a) (Vm.Alike.refl U.vm) qK⟩, va_recv hKc hPc (ci := 10) (q0 := 0) rfl rfl, fun U hU hW => ⟨rfl, by rw [hU]; exact hPc, va_K.moved hW.alike hKc⟩⟩ rfl rfl hl.1 rfl (lv_room (Nat.le_of_ble_eq_true rfl)) dX10_citations_14 ⟨Nat.le_of_ble_eq_true rfl, Nat.le_of_ble_eq_true rfl⟩) hS (fun _ _ h => h.elim) (fun _ h => h.elim) (fun r14 u t H1 locs ht hvm hw hB hz1 hk1 hS => ?_)
  have hP := pw_keep hP (fun q hq => hk1 q hq (fun h => h))
  generalize H1 = H at hP hS ⊢
  refine W.widen (k := 0) (n := 0) (Nat.le_of_ble_eq_true rfl) (Nat.le_of_ble_eq_true rfl) ?_
  obtain rfl : r14 = 0 := hw
  refine lv_iadd hx hb dX10_citations_17 ?_
  refine lv_topi (fun x15 ex15 => ?_)
  obtain rfl : x15 = 0 := ex15.trans (by decide)
  refine lv_istore_n (lv' := [(1, .int 0), (2, .int 4), (0, .ref h0)]) hx hb dX10_citations_18 rfl hl (by decide) rfl (fun ls hl => ?_)
  refine lv_iinc (v := 5) (lv' := [(2, .int 5), (1, .int 0), (0, .ref h0)]) hx hb dX10_citations_19 hl (k := 1) rfl (by decide) (by decide) rfl (fun ls hl => ?_)
  refine lv_goto (tgt := 4) hx hb dX10_citations_22 (by decide) ?_
  refine lv_iload_n hx hb dX10_citations_4 rfl (lv_at hl 0 rfl) ?_
  refine lv_bipush (v := 8) hx hb dX10_citations_5 (by decide) ?_
  refine lv_icmp_ge (tgt := 25) hx hb dX10_citations_7 (by decide) (fun c16 => absurd c16 (by decide)) (fun c16 => ?_)
  refine lv_iload_n hx hb dX10_citations_10 rfl (lv_at hl 1 rfl) ?_
  refine lv_aload_n hx hb dX10_citations_11 rfl (lv_at hl 2 rfl) ?_
  refine lv_iload_n hx hb dX10_citations_12 rfl (lv_at hl 0 rfl) ?_
  refine lv_iconst (v := 0) hx hb dX10_citations_13 (by decide) ?_
  have hPc := hP.sub (ws' := [(h0, .inr (10, [.ref m_now, .ref m_draft, .ref m_past, .int 0, .ref m_images, .ref m_kept, .ref m_tape, .int 0, .int 0, .int 0, .int 0, .int 0, .int 0, .int 0, .int 0, .ref m_low, .ref m_high, .ref m_first, .ref m_second, .ref m_lines, .ref m_others, .int 0, .int 0, .int 0, .int 0])), (m_now, .inl (k_n, 192, .inl (fun _ => 0)))]) [0, 1] rfl
  have hKc := hK.sub (tys' := [(k_n, .int)]) [0] rfl
  refine va_calli (va_runV (As := [.int 5, .int 0]) (rest := [.int 0]) ⟨hx, hb, hml, hown, hts⟩ (c_X10_cited l D h0 5 m_now m_draft m_past m_images m_kept m_tape m_low m_high m_first m_second m_lines m_others k_n (by first | decide | omega) (by first | decide | omega)) (cwV 2 hts g_X10_citations_X10_cited rfl rfl rfl (by decide +kernel) ⟨Nat.le_of_ble_eq_true rfl, Nat.le_of_ble_eq_true rfl⟩) ⟨fun a U g mk q => by obtain ⟨q0, qP, qK⟩ := q; exact ⟨q0, qP, va_K.moved (u := U) (U := U.calling g mk a) (Vm.Alike.refl U.vm) qK⟩, va_recv hKc hPc (ci := 10) (q0 := 0) rfl rfl, fun U hU hW => ⟨rfl, by rw [hU]; exact hPc, va_K.moved hW.alike hKc⟩⟩ rfl rfl hl.1 rfl (lv_room (Nat.le_of_ble_eq_true rfl)) dX10_citations_14 ⟨Nat.le_of_ble_eq_true rfl, Nat.le_of_ble_eq_true rfl⟩) hS (fun _ _ h => h.elim) (fun _ h => h.elim) (fun r17 u t H1 locs ht hvm hw hB hz1 hk1 hS => ?_)
  have hP := pw_keep hP (fun q hq => hk1 q hq (fun h => h))
  generalize H1 = H at hP hS ⊢
  refine W.widen (k := 0) (n := 0) (Nat.le_of_ble_eq_true rfl) (Nat.le_of_ble_eq_true rfl) ?_
  obtain rfl : r17 = 0 := hw
  refine lv_iadd hx hb dX10_citations_17 ?_
  refine lv_topi (fun x18 ex18 => ?_)
  obtain rfl : x18 = 0 := ex18.trans (by decide)
  refine lv_istore_n (lv' := [(1, .int 0), (2, .int 5), (0, .ref h0)]) hx hb dX10_citations_18 rfl hl (by decide) rfl (fun ls hl => ?_)
  refine lv_iinc (v := 6) (lv' := [(2, .int 6), (1, .int 0), (0, .ref h0)]) hx hb dX10_citations_19 hl (k := 1) rfl (by decide) (by decide) rfl (fun ls hl => ?_)
  refine lv_goto (tgt := 4) hx hb dX10_citations_22 (by decide) ?_
  refine lv_iload_n hx hb dX10_citations_4 rfl (lv_at hl 0 rfl) ?_
  refine lv_bipush (v := 8) hx hb dX10_citations_5 (by decide) ?_
  refine lv_icmp_ge (tgt := 25) hx hb dX10_citations_7 (by decide) (fun c19 => absurd c19 (by decide)) (fun c19 => ?_)
  refine lv_iload_n hx hb dX10_citations_10 rfl (lv_at hl 1 rfl) ?_
  refine lv_aload_n hx hb dX10_citations_11 rfl (lv_at hl 2 rfl) ?_
  refine lv_iload_n hx hb dX10_citations_12 rfl (lv_at hl 0 rfl) ?_
  refine lv_iconst (v := 0) hx hb dX10_citations_13 (by decide) ?_
  have hPc := hP.sub (ws' := [(h0, .inr (10, [.ref m_now, .ref m_draft, .ref m_past, .int 0, .ref m_images, .ref m_kept, .ref m_tape, .int 0, .int 0, .int 0, .int 0, .int 0, .int 0, .int 0, .int 0, .ref m_low, .ref m_high, .ref m_first, .ref m_second, .ref m_lines, .ref m_others, .int 0, .int 0, .int 0, .int 0])), (m_now, .inl (k_n, 192, .inl (fun _ => 0)))]) [0, 1] rfl
  have hKc := hK.sub (tys' := [(k_n, .int)]) [0] rfl
  refine va_calli (va_runV (As := [.int 6, .int 0]) (rest := [.int 0]) ⟨hx, hb, hml, hown, hts⟩ (c_X10_cited l D h0 6 m_now m_draft m_past m_images m_kept m_tape m_low m_high m_first m_second m_lines m_others k_n (by first | decide | omega) (by first | decide | omega)) (cwV 2 hts g_X10_citations_X10_cited rfl rfl rfl (by decide +kernel) ⟨Nat.le_of_ble_eq_true rfl, Nat.le_of_ble_eq_true rfl⟩) ⟨fun a U g mk q => by obtain ⟨q0, qP, qK⟩ := q; exact ⟨q0, qP, va_K.moved (u := U) (U := U.calling g mk a) (Vm.Alike.refl U.vm) qK⟩, va_recv hKc hPc (ci := 10) (q0 := 0) rfl rfl, fun U hU hW => ⟨rfl, by rw [hU]; exact hPc, va_K.moved hW.alike hKc⟩⟩ rfl rfl hl.1 rfl (lv_room (Nat.le_of_ble_eq_true rfl)) dX10_citations_14 ⟨Nat.le_of_ble_eq_true rfl, Nat.le_of_ble_eq_true rfl⟩) hS (fun _ _ h => h.elim) (fun _ h => h.elim) (fun r20 u t H1 locs ht hvm hw hB hz1 hk1 hS => ?_)
  have hP := pw_keep hP (fun q hq => hk1 q hq (fun h => h))
  generalize H1 = H at hP hS ⊢
  refine W.widen (k := 0) (n := 0) (Nat.le_of_ble_eq_true rfl) (Nat.le_of_ble_eq_true rfl) ?_
  obtain rfl : r20 = 0 := hw
  refine lv_iadd hx hb dX10_citations_17 ?_
  refine lv_topi (fun x21 ex21 => ?_)
  obtain rfl : x21 = 0 := ex21.trans (by decide)
  refine lv_istore_n (lv' := [(1, .int 0), (2, .int 6), (0, .ref h0)]) hx hb dX10_citations_18 rfl hl (by decide) rfl (fun ls hl => ?_)
  refine lv_iinc (v := 7) (lv' := [(2, .int 7), (1, .int 0), (0, .ref h0)]) hx hb dX10_citations_19 hl (k := 1) rfl (by decide) (by decide) rfl (fun ls hl => ?_)
  refine lv_goto (tgt := 4) hx hb dX10_citations_22 (by decide) ?_
  refine lv_iload_n hx hb dX10_citations_4 rfl (lv_at hl 0 rfl) ?_
  refine lv_bipush (v := 8) hx hb dX10_citations_5 (by decide) ?_
  refine lv_icmp_ge (tgt := 25) hx hb dX10_citations_7 (by decide) (fun c22 => absurd c22 (by decide)) (fun c22 => ?_)
  refine lv_iload_n hx hb dX10_citations_10 rfl (lv_at hl 1 rfl) ?_
  refine lv_aload_n hx hb dX10_citations_11 rfl (lv_at hl 2 rfl) ?_
  refine lv_iload_n hx hb dX10_citations_12 rfl (lv_at hl 0 rfl) ?_
  refine lv_iconst (v := 0) hx hb dX10_citations_13 (by decide) ?_
  have hPc := hP.sub (ws' := [(h0, .inr (10, [.ref m_now, .ref m_draft, .ref m_past, .int 0, .ref m_images, .ref m_kept, .ref m_tape, .int 0, .int 0, .int 0, .int 0, .int 0, .int 0, .int 0, .int 0, .ref m_low, .ref m_high, .ref m_first, .ref m_second, .ref m_lines, .ref m_others, .int 0, .int 0, .int 0, .int 0])), (m_now, .inl (k_n, 192, .inl (fun _ => 0)))]) [0, 1] rfl
  have hKc := hK.sub (tys' := [(k_n, .int)]) [0] rfl
  refine va_calli (va_runV (As := [.int 7, .int 0]) (rest := [.int 0]) ⟨hx, hb, hml, hown, hts⟩ (c_X10_cited l D h0 7 m_now m_draft m_past m_images m_kept m_tape m_low m_high m_first m_second m_lines m_others k_n (by first | decide | omega) (by first | decide | omega)) (cwV 2 hts g_X10_citations_X10_cited rfl rfl rfl (by decide +kernel) ⟨Nat.le_of_ble_eq_true rfl, Nat.le_of_ble_eq_true rfl⟩) ⟨fun a U g mk q => by obtain ⟨q0, qP, qK⟩ := q; exact ⟨q0, qP, va_K.moved (u := U) (U := U.calling g mk a) (Vm.Alike.refl U.vm) qK⟩, va_recv hKc hPc (ci := 10) (q0 := 0) rfl rfl, fun U hU hW => ⟨rfl, by rw [hU]; exact hPc, va_K.moved hW.alike hKc⟩⟩ rfl rfl hl.1 rfl (lv_room (Nat.le_of_ble_eq_true rfl)) dX10_citations_14 ⟨Nat.le_of_ble_eq_true rfl, Nat.le_of_ble_eq_true rfl⟩) hS (fun _ _ h => h.elim) (fun _ h => h.elim) (fun r23 u t H1 locs ht hvm hw hB hz1 hk1 hS => ?_)
  have hP := pw_keep hP (fun q hq => hk1 q hq (fun h => h))
  generalize H1 = H at hP hS ⊢
  refine W.widen (k := 0) (n := 0) (Nat.le_of_ble_eq_true rfl) (Nat.le_of_ble_eq_true rfl) ?_
  obtain rfl : r23 = 0 := hw
  refine lv_iadd hx hb dX10_citations_17 ?_
  refine lv_topi (fun x24 ex24 => ?_)
  obtain rfl : x24 = 0 := ex24.trans (by decide)
  refine lv_istore_n (lv' := [(1, .int 0), (2, .int 7), (0, .ref h0)]) hx hb dX10_citations_18 rfl hl (by decide) rfl (fun ls hl => ?_)
  refine lv_iinc (v := 8) (lv' := [(2, .int 8), (1, .int 0), (0, .ref h0)]) hx hb dX10_citations_19 hl (k := 1) rfl (by decide) (by decide) rfl (fun ls hl => ?_)
  refine lv_goto (tgt := 4) hx hb dX10_citations_22 (by decide) ?_
  refine lv_iload_n hx hb dX10_citations_4 rfl (lv_at hl 0 rfl) ?_
  refine lv_bipush (v := 8) hx hb dX10_citations_5 (by decide) ?_
  refine lv_icmp_ge (tgt := 25) hx hb dX10_citations_7 (by decide) (fun c25 => ?_) (fun c25 => absurd (by decide) c25)
  refine lv_iload_n hx hb dX10_citations_25 rfl (lv_at hl 1 rfl) ?_
  exact W.iret (v := 0) hx hb hr (fun t ht hW => ⟨⟨0, (), rfl, rfl, trivial⟩, hS.F ht⟩) hS.2.2 dX10_citations_26
def w_X10_allStretches : List Cond := .code yX10_allStretches cX10_allStretches 3 (some .int) :: ([.fieldLink RX10 7 "LineCitesModel" "now" "[I"] ++ wsX100)
set_option maxHeartbeats 4000000 in
set_option maxRecDepth 100000 in
theorem c_X10_allStretches (l : Launch) (D : va_G) (h0 : Nat) (m_now : Nat) (m_draft : Nat) (m_past : Nat) (m_images : Nat) (m_kept : Nat) (m_tape : Nat) (m_low : Nat) (m_high : Nat) (m_first : Nat) (m_second : Nat) (m_lines : Nat) (m_others : Nat) (k_n : ClassId) : Met l yX10_allStretches w_X10_allStretches ({ frames := 0, cells := 0, slots := 0, locals := 0 }) (va_Pc [.ref h0] (fun U => va_P D vwCl [(h0, .inr (10, [.ref m_now, .ref m_draft, .ref m_past, .int 0, .ref m_images, .ref m_kept, .ref m_tape, .int 0, .int 0, .int 0, .int 0, .int 0, .int 0, .int 0, .int 0, .ref m_low, .ref m_high, .ref m_first, .ref m_second, .ref m_lines, .ref m_others, .int 0, .int 0, .int 0, .int 0])), (m_now, .inl (k_n, 192, .inl (fun _ => 0)))] U.heap ∧ va_K D vwCl [(k_n, .int)] U)) (va_Qi (fun (r : Int32) (_ : Unit) => r = 0) (fun _ _ => True) (fun _ => False)) 0 0 (fun _ => False) := by
  refine Met.ofW (cc := cX10_allStretches) (maxL := 3) (ret := (some .int)) (by decide) rfl ?_
  intro p e s m args below meth c s₁ B hml hv
  obtain ⟨rfl, hP, hK⟩ := hv
  have hx := B.exec
  have hb := B.bytes
  have hr := B.returns
  have hts := atoms_spec (ws := w_X10_allStretches) B.pre
  have hown : s.vm.findClass RX10 = some m.cls := findClass_of_methodNamed B.named
  have hlocks := B.notSynchronized
  have hS : va_S (fun _ : Nat => False) s.heap s.heap [] := va_S.rf
  have hP : va_P D vwCl [(h0, .inr (10, [.ref m_now, .ref m_draft, .ref m_past, .int 0, .ref m_images, .ref m_kept, .ref m_tape, .int 0, .int 0, .int 0, .int 0, .int 0, .int 0, .int 0, .int 0, .ref m_low, .ref m_high, .ref m_first, .ref m_second, .ref m_lines, .ref m_others, .int 0, .int 0, .int 0, .int 0])), (m_now, .inl (k_n, 192, .inl (fun _ => 0)))] s.heap := hP
  have hl := lv_entry ([.ref h0]) (n := 3) (Nat.le_of_ble_eq_true rfl)
  rw [lg_entry_eq]
  generalize (lg_sl ([.ref h0]) ++ List.replicate (3 - (lg_sl ([.ref h0])).length) Slot.unset).toArray = ls at hl ⊢
  have hl : lv_has ls 3 [(0, .ref h0)] := hl
  obtain ⟨H, hHe⟩ : ∃ H : Heap, H = s.heap := ⟨_, rfl⟩
  rw [← hHe] at hP
  have hS : va_S (fun _ : Nat => False) s.heap H [] := by rw [hHe]; exact hS
  refine pw_heap hHe ?_
  refine lv_iconst (v := 0) hx hb dX10_allStretches_0 (by decide) ?_
  refine lv_istore_n (lv' := [(1, .int 0), (0, .ref h0)]) hx hb dX10_allStretches_1 rfl hl (by decide) rfl (fun ls hl => ?_)
  refine lv_iconst (v := 0) hx hb dX10_allStretches_2 (by decide) ?_
  refine lv_istore_n (lv' := [(2, .int 0), (1, .int 0), (0, .ref h0)]) hx hb dX10_allStretches_3 rfl hl (by decide) rfl (fun ls hl => ?_)
  refine lv_iload_n hx hb dX10_allStretches_4 rfl (lv_at hl 0 rfl) ?_
  refine lv_aload_n hx hb dX10_allStretches_5 rfl (lv_at hl 2 rfl) ?_
  refine va_get (D := D) (ci := 10) (v := .ref m_now) (C := RX10) (T := TX10) (N := 25) hx hb hts (fun _ h => List.mem_cons_of_mem _ (List.mem_append_right _ h)) hown hK hP 0 rfl rfl 0 (by decide) (hts (.fieldLink RX10 7 "LineCitesModel" "now" "[I") (List.mem_of_getElem? (i := 1) rfl)) (fun _ h9 => h9) rfl dX10_allStretches_6 ?_
  refine lv_iconst (v := 1) hx hb dX10_allStretches_9 (by decide) ?_
  refine va_iald hx hb hK hP 1 0 rfl rfl (vp_in_iff.mpr (by decide)) dX10_allStretches_10 ?_
  refine lv_topi (fun x1 ex1 => ?_)
  obtain rfl : x1 = 0 := ex1
  refine lv_icmp_ge (tgt := 31) hx hb dX10_allStretches_11 (by decide) (fun c2 => ?_) (fun c2 => absurd (by decide) c2)
  refine lv_iload_n hx hb dX10_allStretches_31 rfl (lv_at hl 1 rfl) ?_
  exact W.iret (v := 0) hx hb hr (fun t ht hW => ⟨⟨0, (), rfl, rfl, trivial⟩, hS.F ht⟩) hS.2.2 dX10_allStretches_32
def w_X10_fault : List Cond := .code yX10_fault cX10_fault 1 (some .int) :: ([.fieldLink RX10 187 "LineCitesModel" "latest" "I"] ++ wsX100)
set_option maxHeartbeats 4000000 in
set_option maxRecDepth 100000 in
theorem c_X10_fault (l : Launch) (D : va_G) (h0 : Nat) (m_now : Nat) (m_draft : Nat) (m_past : Nat) (m_images : Nat) (m_kept : Nat) (m_tape : Nat) (m_low : Nat) (m_high : Nat) (m_first : Nat) (m_second : Nat) (m_lines : Nat) (m_others : Nat) : Met l yX10_fault w_X10_fault ({ frames := 0, cells := 0, slots := 0, locals := 0 }) (va_Pc [.ref h0] (fun U => va_P D vwCl [(h0, .inr (10, [.ref m_now, .ref m_draft, .ref m_past, .int 0, .ref m_images, .ref m_kept, .ref m_tape, .int 0, .int 0, .int 0, .int 0, .int 0, .int 0, .int 0, .int 0, .ref m_low, .ref m_high, .ref m_first, .ref m_second, .ref m_lines, .ref m_others, .int 0, .int 0, .int 0, .int 0]))] U.heap ∧ va_K D vwCl [] U)) (va_Qi (fun (r : Int32) (_ : Unit) => r = 0) (fun _ _ => True) (fun _ => False)) 0 0 (fun _ => False) := by
  refine Met.ofW (cc := cX10_fault) (maxL := 1) (ret := (some .int)) (by decide) rfl ?_
  intro p e s m args below meth c s₁ B hml hv
  obtain ⟨rfl, hP, hK⟩ := hv
  have hx := B.exec
  have hb := B.bytes
  have hr := B.returns
  have hts := atoms_spec (ws := w_X10_fault) B.pre
  have hown : s.vm.findClass RX10 = some m.cls := findClass_of_methodNamed B.named
  have hlocks := B.notSynchronized
  have hS : va_S (fun _ : Nat => False) s.heap s.heap [] := va_S.rf
  have hP : va_P D vwCl [(h0, .inr (10, [.ref m_now, .ref m_draft, .ref m_past, .int 0, .ref m_images, .ref m_kept, .ref m_tape, .int 0, .int 0, .int 0, .int 0, .int 0, .int 0, .int 0, .int 0, .ref m_low, .ref m_high, .ref m_first, .ref m_second, .ref m_lines, .ref m_others, .int 0, .int 0, .int 0, .int 0]))] s.heap := hP
  have hl := lv_entry ([.ref h0]) (n := 1) (Nat.le_of_ble_eq_true rfl)
  rw [lg_entry_eq]
  generalize (lg_sl ([.ref h0]) ++ List.replicate (1 - (lg_sl ([.ref h0])).length) Slot.unset).toArray = ls at hl ⊢
  have hl : lv_has ls 1 [(0, .ref h0)] := hl
  obtain ⟨H, hHe⟩ : ∃ H : Heap, H = s.heap := ⟨_, rfl⟩
  rw [← hHe] at hP
  have hS : va_S (fun _ : Nat => False) s.heap H [] := by rw [hHe]; exact hS
  refine pw_heap hHe ?_
  refine lv_aload_n hx hb dX10_fault_0 rfl (lv_at hl 0 rfl) ?_
  refine va_get (D := D) (ci := 10) (v := .int 0) (C := RX10) (T := TX10) (N := 25) hx hb hts (fun _ h => List.mem_cons_of_mem _ (List.mem_append_right _ h)) hown hK hP 0 rfl rfl 14 (by decide) (hts (.fieldLink RX10 187 "LineCitesModel" "latest" "I") (List.mem_of_getElem? (i := 1) rfl)) (fun _ h9 => h9) rfl dX10_fault_1 ?_
  exact W.iret (v := 0) hx hb hr (fun t ht hW => ⟨⟨0, (), rfl, rfl, trivial⟩, hS.F ht⟩) hS.2.2 dX10_fault_4
def w_X10_undo : List Cond := .code yX10_undo cX10_undo 1 (some .int) :: ([.fieldLink RX10 195 "LineCitesModel" "acts" "I", .constant RX10 198 (-1000002)] ++ wsX100)
set_option maxHeartbeats 4000000 in
set_option maxRecDepth 100000 in
theorem c_X10_undo (l : Launch) (D : va_G) (h0 : Nat) (m_now : Nat) (m_draft : Nat) (m_past : Nat) (m_images : Nat) (m_kept : Nat) (m_tape : Nat) (m_low : Nat) (m_high : Nat) (m_first : Nat) (m_second : Nat) (m_lines : Nat) (m_others : Nat) : Met l yX10_undo w_X10_undo ({ frames := 0, cells := 0, slots := 0, locals := 0 }) (va_Pc [.ref h0] (fun U => va_P D vwCl [(h0, .inr (10, [.ref m_now, .ref m_draft, .ref m_past, .int 0, .ref m_images, .ref m_kept, .ref m_tape, .int 0, .int 0, .int 0, .int 0, .int 0, .int 0, .int 0, .int 0, .ref m_low, .ref m_high, .ref m_first, .ref m_second, .ref m_lines, .ref m_others, .int 0, .int 0, .int 0, .int 0]))] U.heap ∧ va_K D vwCl [] U)) (va_Qi (fun (r : Int32) (_ : Unit) => r = (-1000002)) (fun _ _ => True) (fun _ => False)) 0 0 (fun _ => False) := by
  refine Met.ofW (cc := cX10_undo) (maxL := 1) (ret := (some .int)) (by decide) rfl ?_
  intro p e s m args below meth c s₁ B hml hv
  obtain ⟨rfl, hP, hK⟩ := hv
  have hx := B.exec
  have hb := B.bytes
  have hr := B.returns
  have hts := atoms_spec (ws := w_X10_undo) B.pre
  have hown : s.vm.findClass RX10 = some m.cls := findClass_of_methodNamed B.named
  have hlocks := B.notSynchronized
  have hS : va_S (fun _ : Nat => False) s.heap s.heap [] := va_S.rf
  have hP : va_P D vwCl [(h0, .inr (10, [.ref m_now, .ref m_draft, .ref m_past, .int 0, .ref m_images, .ref m_kept, .ref m_tape, .int 0, .int 0, .int 0, .int 0, .int 0, .int 0, .int 0, .int 0, .ref m_low, .ref m_high, .ref m_first, .ref m_second, .ref m_lines, .ref m_others, .int 0, .int 0, .int 0, .int 0]))] s.heap := hP
  have hl := lv_entry ([.ref h0]) (n := 1) (Nat.le_of_ble_eq_true rfl)
  rw [lg_entry_eq]
  generalize (lg_sl ([.ref h0]) ++ List.replicate (1 - (lg_sl ([.ref h0])).length) Slot.unset).toArray = ls at hl ⊢
  have hl : lv_has ls 1 [(0, .ref h0)] := hl
  obtain ⟨H, hHe⟩ : ∃ H : Heap, H = s.heap := ⟨_, rfl⟩
  rw [← hHe] at hP
  have hS : va_S (fun _ : Nat => False) s.heap H [] := by rw [hHe]; exact hS
  refine pw_heap hHe ?_
  refine lv_aload_n hx hb dX10_undo_0 rfl (lv_at hl 0 rfl) ?_
  refine va_get (D := D) (ci := 10) (v := .int 0) (C := RX10) (T := TX10) (N := 25) hx hb hts (fun _ h => List.mem_cons_of_mem _ (List.mem_append_right _ h)) hown hK hP 0 rfl rfl 3 (by decide) (hts (.fieldLink RX10 195 "LineCitesModel" "acts" "I") (List.mem_of_getElem? (i := 1) rfl)) (fun _ h9 => h9) rfl dX10_undo_1 ?_
  refine lv_if_ne (tgt := 10) hx hb dX10_undo_4 (by decide) (fun c1 => absurd (by decide) c1) (fun c1 => ?_)
  refine lv_ldc hx hb hown (hts (.constant RX10 198 (-1000002)) (List.mem_of_getElem? (i := 2) rfl)) dX10_undo_7 ?_
  exact W.iret (v := (-1000002)) hx hb hr (fun t ht hW => ⟨⟨(-1000002), (), rfl, rfl, trivial⟩, hS.F ht⟩) hS.2.2 dX10_undo_9
def w_X10_add : List Cond := .code yX10_add cX10_add 6 (some .int) :: ([.methodLink RX10 55 yX10_isEdition, .instanceMethod yX10_isEdition, .selects RX10 yX10_isEdition yX10_isEdition, .initialized RX10, .code yX10_isEdition cX10_isEdition 2 (some .boolean), .methodLink RX10 47 yX10_isWork, .instanceMethod yX10_isWork, .selects RX10 yX10_isWork yX10_isWork, .code yX10_isWork cX10_isWork 1 (some .boolean), .fieldLink RX10 7 "LineCitesModel" "now" "[I", .constant RX10 177 (-1000001)] ++ wsX100)
set_option maxRecDepth 20000 in
theorem g_X10_add_X10_isEdition : GoodIn w_X10_add (wsV RX10 55 RX10 yX10_isEdition w_X10_isEdition) := goodIn_r _ [1, 2, 3, 4, 5, 6, 7, 8, 4, 9, 10, 12, 13, 14, 15, 16, 17, 18, 19, 20, 21, 22, 23, 24, 25, 26, 27, 28, 29, 30, 31, 32, 33, 34, 35, 36] rfl (by decide +kernel)
set_option maxHeartbeats 4000000 in
set_option maxRecDepth 100000 in
theorem c_X10_add (l : Launch) (D : va_G) (h0 : Nat) (i_0 : Int32) (i_1 : Int32) (i_2 : Int32) (i_3 : Int32) (i_4 : Int32) (m_now : Nat) (m_draft : Nat) (m_past : Nat) (m_images : Nat) (m_kept : Nat) (m_tape : Nat) (m_low : Nat) (m_high : Nat) (m_first : Nat) (m_second : Nat) (m_lines : Nat) (m_others : Nat) (k_n : ClassId) : Met l yX10_add w_X10_add ({ frames := 2, cells := 0, slots := 0, locals := 41 }) (va_Pc [.ref h0, .int i_0, .int i_1, .int i_2, .int i_3, .int i_4] (fun U => va_P D vwCl [(h0, .inr (10, [.ref m_now, .ref m_draft, .ref m_past, .int 0, .ref m_images, .ref m_kept, .ref m_tape, .int 0, .int 0, .int 0, .int 0, .int 0, .int 0, .int 0, .int 0, .ref m_low, .ref m_high, .ref m_first, .ref m_second, .ref m_lines, .ref m_others, .int 0, .int 0, .int 0, .int 0])), (m_now, .inl (k_n, 192, .inl (fun _ => 0)))] U.heap ∧ va_K D vwCl [(k_n, .int)] U)) (va_Qi (fun (r : Int32) (_ : Unit) => r = (-1000001)) (fun _ _ => True) (fun _ => False)) 0 0 (fun _ => False) := by
  refine Met.ofW (cc := cX10_add) (maxL := 6) (ret := (some .int)) (by decide) rfl ?_
  intro p e s m args below meth c s₁ B hml hv
  obtain ⟨rfl, hP, hK⟩ := hv
  have hx := B.exec
  have hb := B.bytes
  have hr := B.returns
  have hts := atoms_spec (ws := w_X10_add) B.pre
  have hown : s.vm.findClass RX10 = some m.cls := findClass_of_methodNamed B.named
  have hlocks := B.notSynchronized
  have hS : va_S (fun _ : Nat => False) s.heap s.heap [] := va_S.rf
  have hP : va_P D vwCl [(h0, .inr (10, [.ref m_now, .ref m_draft, .ref m_past, .int 0, .ref m_images, .ref m_kept, .ref m_tape, .int 0, .int 0, .int 0, .int 0, .int 0, .int 0, .int 0, .int 0, .ref m_low, .ref m_high, .ref m_first, .ref m_second, .ref m_lines, .ref m_others, .int 0, .int 0, .int 0, .int 0])), (m_now, .inl (k_n, 192, .inl (fun _ => 0)))] s.heap := hP
  have hl := lv_entry ([.ref h0, .int i_0, .int i_1, .int i_2, .int i_3, .int i_4]) (n := 6) (Nat.le_of_ble_eq_true rfl)
  rw [lg_entry_eq]
  generalize (lg_sl ([.ref h0, .int i_0, .int i_1, .int i_2, .int i_3, .int i_4]) ++ List.replicate (6 - (lg_sl ([.ref h0, .int i_0, .int i_1, .int i_2, .int i_3, .int i_4])).length) Slot.unset).toArray = ls at hl ⊢
  have hl : lv_has ls 6 [(0, .ref h0), (1, .int i_0), (2, .int i_1), (3, .int i_2), (4, .int i_3), (5, .int i_4)] := hl
  obtain ⟨H, hHe⟩ : ∃ H : Heap, H = s.heap := ⟨_, rfl⟩
  rw [← hHe] at hP
  have hS : va_S (fun _ : Nat => False) s.heap H [] := by rw [hHe]; exact hS
  refine pw_heap hHe ?_
  refine lv_aload_n hx hb dX10_add_0 rfl (lv_at hl 0 rfl) ?_
  refine lv_iload_n hx hb dX10_add_1 rfl (lv_at hl 1 rfl) ?_
  have hPc := hP.sub (ws' := [(h0, .inr (10, [.ref m_now, .ref m_draft, .ref m_past, .int 0, .ref m_images, .ref m_kept, .ref m_tape, .int 0, .int 0, .int 0, .int 0, .int 0, .int 0, .int 0, .int 0, .ref m_low, .ref m_high, .ref m_first, .ref m_second, .ref m_lines, .ref m_others, .int 0, .int 0, .int 0, .int 0])), (m_now, .inl (k_n, 192, .inl (fun _ => 0)))]) [0, 1] rfl
  have hKc := hK.sub (tys' := [(k_n, .int)]) [0] rfl
  refine va_calli (va_runV (As := [.int i_0]) (rest := []) ⟨hx, hb, hml, hown, hts⟩ (c_X10_isEdition l D h0 i_0 m_now m_draft m_past m_images m_kept m_tape m_low m_high m_first m_second m_lines m_others k_n) (cwV 1 hts g_X10_add_X10_isEdition rfl rfl rfl (by decide +kernel) ⟨Nat.le_of_ble_eq_true rfl, Nat.le_of_ble_eq_true rfl⟩) ⟨fun a U g mk q => by obtain ⟨q0, qP, qK⟩ := q; exact ⟨q0, qP, va_K.moved (u := U) (U := U.calling g mk a) (Vm.Alike.refl U.vm) qK⟩, va_recv hKc hPc (ci := 10) (q0 := 0) rfl rfl, fun U hU hW => ⟨rfl, by rw [hU]; exact hPc, va_K.moved hW.alike hKc⟩⟩ rfl rfl hl.1 rfl (lv_room (Nat.le_of_ble_eq_true rfl)) dX10_add_2 ⟨Nat.le_of_ble_eq_true rfl, Nat.le_of_ble_eq_true rfl⟩) hS (fun _ _ h => h.elim) (fun _ h => h.elim) (fun r1 u t H1 locs ht hvm hw hB hz1 hk1 hS => ?_)
  have hP := pw_keep hP (fun q hq => hk1 q hq (fun h => h))
  generalize H1 = H at hP hS ⊢
  refine W.widen (k := 0) (n := 0) (Nat.le_of_ble_eq_true rfl) (Nat.le_of_ble_eq_true rfl) ?_
  obtain rfl : r1 = 0 := hw
  refine lv_if_eq (tgt := 24) hx hb dX10_add_5 (by decide) (fun c2 => ?_) (fun c2 => absurd (by decide) c2)
  refine lv_ldc hx hb hown (hts (.constant RX10 177 (-1000001)) (List.mem_of_getElem? (i := 11) rfl)) dX10_add_24 ?_
  exact W.iret (v := (-1000001)) hx hb hr (fun t ht hW => ⟨⟨(-1000001), (), rfl, rfl, trivial⟩, hS.F ht⟩) hS.2.2 dX10_add_26
def w_X10_drop : List Cond := .code yX10_drop cX10_drop 4 (some .int) :: ([.methodLink RX10 208 yX10_isStretch, .instanceMethod yX10_isStretch, .selects RX10 yX10_isStretch yX10_isStretch, .initialized RX10, .code yX10_isStretch cX10_isStretch 3 (some .boolean), .methodLink RX10 55 yX10_isEdition, .instanceMethod yX10_isEdition, .selects RX10 yX10_isEdition yX10_isEdition, .code yX10_isEdition cX10_isEdition 2 (some .boolean), .methodLink RX10 47 yX10_isWork, .instanceMethod yX10_isWork, .selects RX10 yX10_isWork yX10_isWork, .code yX10_isWork cX10_isWork 1 (some .boolean), .fieldLink RX10 7 "LineCitesModel" "now" "[I", .constant RX10 177 (-1000001)] ++ wsX100)
set_option maxRecDepth 20000 in
theorem g_X10_drop_X10_isStretch : GoodIn w_X10_drop (wsV RX10 208 RX10 yX10_isStretch w_X10_isStretch) := goodIn_r _ [1, 2, 3, 4, 5, 6, 7, 8, 4, 9, 10, 11, 12, 13, 14, 16, 17, 18, 19, 20, 21, 22, 23, 24, 25, 26, 27, 28, 29, 30, 31, 32, 33, 34, 35, 36, 37, 38, 39, 40] rfl (by decide +kernel)
set_option maxHeartbeats 4000000 in
set_option maxRecDepth 100000 in
theorem c_X10_drop (l : Launch) (D : va_G) (h0 : Nat) (i_0 : Int32) (i_1 : Int32) (m_now : Nat) (m_draft : Nat) (m_past : Nat) (m_images : Nat) (m_kept : Nat) (m_tape : Nat) (m_low : Nat) (m_high : Nat) (m_first : Nat) (m_second : Nat) (m_lines : Nat) (m_others : Nat) (k_n : ClassId) : Met l yX10_drop w_X10_drop ({ frames := 3, cells := 0, slots := 0, locals := 63 }) (va_Pc [.ref h0, .int i_0, .int i_1] (fun U => va_P D vwCl [(h0, .inr (10, [.ref m_now, .ref m_draft, .ref m_past, .int 0, .ref m_images, .ref m_kept, .ref m_tape, .int 0, .int 0, .int 0, .int 0, .int 0, .int 0, .int 0, .int 0, .ref m_low, .ref m_high, .ref m_first, .ref m_second, .ref m_lines, .ref m_others, .int 0, .int 0, .int 0, .int 0])), (m_now, .inl (k_n, 192, .inl (fun _ => 0)))] U.heap ∧ va_K D vwCl [(k_n, .int)] U)) (va_Qi (fun (r : Int32) (_ : Unit) => r = (-1000001)) (fun _ _ => True) (fun _ => False)) 0 0 (fun _ => False) := by
  refine Met.ofW (cc := cX10_drop) (maxL := 4) (ret := (some .int)) (by decide) rfl ?_
  intro p e s m args below meth c s₁ B hml hv
  obtain ⟨rfl, hP, hK⟩ := hv
  have hx := B.exec
  have hb := B.bytes
  have hr := B.returns
  have hts := atoms_spec (ws := w_X10_drop) B.pre
  have hown : s.vm.findClass RX10 = some m.cls := findClass_of_methodNamed B.named
  have hlocks := B.notSynchronized
  have hS : va_S (fun _ : Nat => False) s.heap s.heap [] := va_S.rf
  have hP : va_P D vwCl [(h0, .inr (10, [.ref m_now, .ref m_draft, .ref m_past, .int 0, .ref m_images, .ref m_kept, .ref m_tape, .int 0, .int 0, .int 0, .int 0, .int 0, .int 0, .int 0, .int 0, .ref m_low, .ref m_high, .ref m_first, .ref m_second, .ref m_lines, .ref m_others, .int 0, .int 0, .int 0, .int 0])), (m_now, .inl (k_n, 192, .inl (fun _ => 0)))] s.heap := hP
  have hl := lv_entry ([.ref h0, .int i_0, .int i_1]) (n := 4) (Nat.le_of_ble_eq_true rfl)
  rw [lg_entry_eq]
  generalize (lg_sl ([.ref h0, .int i_0, .int i_1]) ++ List.replicate (4 - (lg_sl ([.ref h0, .int i_0, .int i_1])).length) Slot.unset).toArray = ls at hl ⊢
  have hl : lv_has ls 4 [(0, .ref h0), (1, .int i_0), (2, .int i_1)] := hl
  obtain ⟨H, hHe⟩ : ∃ H : Heap, H = s.heap := ⟨_, rfl⟩
  rw [← hHe] at hP
  have hS : va_S (fun _ : Nat => False) s.heap H [] := by rw [hHe]; exact hS
  refine pw_heap hHe ?_
  refine lv_aload_n hx hb dX10_drop_0 rfl (lv_at hl 0 rfl) ?_
  refine lv_iload_n hx hb dX10_drop_1 rfl (lv_at hl 1 rfl) ?_
  refine lv_iload_n hx hb dX10_drop_2 rfl (lv_at hl 2 rfl) ?_
  have hPc := hP.sub (ws' := [(h0, .inr (10, [.ref m_now, .ref m_draft, .ref m_past, .int 0, .ref m_images, .ref m_kept, .ref m_tape, .int 0, .int 0, .int 0, .int 0, .int 0, .int 0, .int 0, .int 0, .ref m_low, .ref m_high, .ref m_first, .ref m_second, .ref m_lines, .ref m_others, .int 0, .int 0, .int 0, .int 0])), (m_now, .inl (k_n, 192, .inl (fun _ => 0)))]) [0, 1] rfl
  have hKc := hK.sub (tys' := [(k_n, .int)]) [0] rfl
  refine va_calli (va_runV (As := [.int i_0, .int i_1]) (rest := []) ⟨hx, hb, hml, hown, hts⟩ (c_X10_isStretch l D h0 i_0 i_1 m_now m_draft m_past m_images m_kept m_tape m_low m_high m_first m_second m_lines m_others k_n) (cwV 2 hts g_X10_drop_X10_isStretch rfl rfl rfl (by decide +kernel) ⟨Nat.le_of_ble_eq_true rfl, Nat.le_of_ble_eq_true rfl⟩) ⟨fun a U g mk q => by obtain ⟨q0, qP, qK⟩ := q; exact ⟨q0, qP, va_K.moved (u := U) (U := U.calling g mk a) (Vm.Alike.refl U.vm) qK⟩, va_recv hKc hPc (ci := 10) (q0 := 0) rfl rfl, fun U hU hW => ⟨rfl, by rw [hU]; exact hPc, va_K.moved hW.alike hKc⟩⟩ rfl rfl hl.1 rfl (lv_room (Nat.le_of_ble_eq_true rfl)) dX10_drop_3 ⟨Nat.le_of_ble_eq_true rfl, Nat.le_of_ble_eq_true rfl⟩) hS (fun _ _ h => h.elim) (fun _ h => h.elim) (fun r1 u t H1 locs ht hvm hw hB hz1 hk1 hS => ?_)
  have hP := pw_keep hP (fun q hq => hk1 q hq (fun h => h))
  generalize H1 = H at hP hS ⊢
  refine W.widen (k := 0) (n := 0) (Nat.le_of_ble_eq_true rfl) (Nat.le_of_ble_eq_true rfl) ?_
  obtain rfl : r1 = 0 := hw
  refine lv_if_ne (tgt := 12) hx hb dX10_drop_6 (by decide) (fun c2 => absurd (by decide) c2) (fun c2 => ?_)
  refine lv_ldc hx hb hown (hts (.constant RX10 177 (-1000001)) (List.mem_of_getElem? (i := 15) rfl)) dX10_drop_9 ?_
  exact W.iret (v := (-1000001)) hx hb hr (fun t ht hW => ⟨⟨(-1000001), (), rfl, rfl, trivial⟩, hS.F ht⟩) hS.2.2 dX10_drop_11
def w_X10_alter : List Cond := .code yX10_alter cX10_alter 10 (some .int) :: ([.methodLink RX10 208 yX10_isStretch, .instanceMethod yX10_isStretch, .selects RX10 yX10_isStretch yX10_isStretch, .initialized RX10, .code yX10_isStretch cX10_isStretch 3 (some .boolean), .methodLink RX10 55 yX10_isEdition, .instanceMethod yX10_isEdition, .selects RX10 yX10_isEdition yX10_isEdition, .code yX10_isEdition cX10_isEdition 2 (some .boolean), .methodLink RX10 47 yX10_isWork, .instanceMethod yX10_isWork, .selects RX10 yX10_isWork yX10_isWork, .code yX10_isWork cX10_isWork 1 (some .boolean), .fieldLink RX10 7 "LineCitesModel" "now" "[I", .constant RX10 177 (-1000001)] ++ wsX100)
set_option maxRecDepth 20000 in
theorem g_X10_alter_X10_isStretch : GoodIn w_X10_alter (wsV RX10 208 RX10 yX10_isStretch w_X10_isStretch) := goodIn_r _ [1, 2, 3, 4, 5, 6, 7, 8, 4, 9, 10, 11, 12, 13, 14, 16, 17, 18, 19, 20, 21, 22, 23, 24, 25, 26, 27, 28, 29, 30, 31, 32, 33, 34, 35, 36, 37, 38, 39, 40] rfl (by decide +kernel)
set_option maxHeartbeats 4000000 in
set_option maxRecDepth 100000 in
theorem c_X10_alter (l : Launch) (D : va_G) (h0 : Nat) (i_0 : Int32) (i_1 : Int32) (i_2 : Int32) (i_3 : Int32) (m_now : Nat) (m_draft : Nat) (m_past : Nat) (m_images : Nat) (m_kept : Nat) (m_tape : Nat) (m_low : Nat) (m_high : Nat) (m_first : Nat) (m_second : Nat) (m_lines : Nat) (m_others : Nat) (k_n : ClassId) : Met l yX10_alter w_X10_alter ({ frames := 3, cells := 0, slots := 0, locals := 63 }) (va_Pc [.ref h0, .int i_0, .int i_1, .int i_2, .int i_3] (fun U => va_P D vwCl [(h0, .inr (10, [.ref m_now, .ref m_draft, .ref m_past, .int 0, .ref m_images, .ref m_kept, .ref m_tape, .int 0, .int 0, .int 0, .int 0, .int 0, .int 0, .int 0, .int 0, .ref m_low, .ref m_high, .ref m_first, .ref m_second, .ref m_lines, .ref m_others, .int 0, .int 0, .int 0, .int 0])), (m_now, .inl (k_n, 192, .inl (fun _ => 0)))] U.heap ∧ va_K D vwCl [(k_n, .int)] U)) (va_Qi (fun (r : Int32) (_ : Unit) => r = (-1000001)) (fun _ _ => True) (fun _ => False)) 0 0 (fun _ => False) := by
  refine Met.ofW (cc := cX10_alter) (maxL := 10) (ret := (some .int)) (by decide) rfl ?_
  intro p e s m args below meth c s₁ B hml hv
  obtain ⟨rfl, hP, hK⟩ := hv
  have hx := B.exec
  have hb := B.bytes
  have hr := B.returns
  have hts := atoms_spec (ws := w_X10_alter) B.pre
  have hown : s.vm.findClass RX10 = some m.cls := findClass_of_methodNamed B.named
  have hlocks := B.notSynchronized
  have hS : va_S (fun _ : Nat => False) s.heap s.heap [] := va_S.rf
  have hP : va_P D vwCl [(h0, .inr (10, [.ref m_now, .ref m_draft, .ref m_past, .int 0, .ref m_images, .ref m_kept, .ref m_tape, .int 0, .int 0, .int 0, .int 0, .int 0, .int 0, .int 0, .int 0, .ref m_low, .ref m_high, .ref m_first, .ref m_second, .ref m_lines, .ref m_others, .int 0, .int 0, .int 0, .int 0])), (m_now, .inl (k_n, 192, .inl (fun _ => 0)))] s.heap := hP
  have hl := lv_entry ([.ref h0, .int i_0, .int i_1, .int i_2, .int i_3]) (n := 10) (Nat.le_of_ble_eq_true rfl)
  rw [lg_entry_eq]
  generalize (lg_sl ([.ref h0, .int i_0, .int i_1, .int i_2, .int i_3]) ++ List.replicate (10 - (lg_sl ([.ref h0, .int i_0, .int i_1, .int i_2, .int i_3])).length) Slot.unset).toArray = ls at hl ⊢
  have hl : lv_has ls 10 [(0, .ref h0), (1, .int i_0), (2, .int i_1), (3, .int i_2), (4, .int i_3)] := hl
  obtain ⟨H, hHe⟩ : ∃ H : Heap, H = s.heap := ⟨_, rfl⟩
  rw [← hHe] at hP
  have hS : va_S (fun _ : Nat => False) s.heap H [] := by rw [hHe]; exact hS
  refine pw_heap hHe ?_
  refine lv_aload_n hx hb dX10_alter_0 rfl (lv_at hl 0 rfl) ?_
  refine lv_iload_n hx hb dX10_alter_1 rfl (lv_at hl 1 rfl) ?_
  refine lv_iload_n hx hb dX10_alter_2 rfl (lv_at hl 2 rfl) ?_
  have hPc := hP.sub (ws' := [(h0, .inr (10, [.ref m_now, .ref m_draft, .ref m_past, .int 0, .ref m_images, .ref m_kept, .ref m_tape, .int 0, .int 0, .int 0, .int 0, .int 0, .int 0, .int 0, .int 0, .ref m_low, .ref m_high, .ref m_first, .ref m_second, .ref m_lines, .ref m_others, .int 0, .int 0, .int 0, .int 0])), (m_now, .inl (k_n, 192, .inl (fun _ => 0)))]) [0, 1] rfl
  have hKc := hK.sub (tys' := [(k_n, .int)]) [0] rfl
  refine va_calli (va_runV (As := [.int i_0, .int i_1]) (rest := []) ⟨hx, hb, hml, hown, hts⟩ (c_X10_isStretch l D h0 i_0 i_1 m_now m_draft m_past m_images m_kept m_tape m_low m_high m_first m_second m_lines m_others k_n) (cwV 2 hts g_X10_alter_X10_isStretch rfl rfl rfl (by decide +kernel) ⟨Nat.le_of_ble_eq_true rfl, Nat.le_of_ble_eq_true rfl⟩) ⟨fun a U g mk q => by obtain ⟨q0, qP, qK⟩ := q; exact ⟨q0, qP, va_K.moved (u := U) (U := U.calling g mk a) (Vm.Alike.refl U.vm) qK⟩, va_recv hKc hPc (ci := 10) (q0 := 0) rfl rfl, fun U hU hW => ⟨rfl, by rw [hU]; exact hPc, va_K.moved hW.alike hKc⟩⟩ rfl rfl hl.1 rfl (lv_room (Nat.le_of_ble_eq_true rfl)) dX10_alter_3 ⟨Nat.le_of_ble_eq_true rfl, Nat.le_of_ble_eq_true rfl⟩) hS (fun _ _ h => h.elim) (fun _ h => h.elim) (fun r1 u t H1 locs ht hvm hw hB hz1 hk1 hS => ?_)
  have hP := pw_keep hP (fun q hq => hk1 q hq (fun h => h))
  generalize H1 = H at hP hS ⊢
  refine W.widen (k := 0) (n := 0) (Nat.le_of_ble_eq_true rfl) (Nat.le_of_ble_eq_true rfl) ?_
  obtain rfl : r1 = 0 := hw
  refine lv_if_eq (tgt := 21) hx hb dX10_alter_6 (by decide) (fun c2 => ?_) (fun c2 => absurd (by decide) c2)
  refine lv_ldc hx hb hown (hts (.constant RX10 177 (-1000001)) (List.mem_of_getElem? (i := 15) rfl)) dX10_alter_21 ?_
  exact W.iret (v := (-1000001)) hx hb hr (fun t ht hW => ⟨⟨(-1000001), (), rfl, rfl, trivial⟩, hS.F ht⟩) hS.2.2 dX10_alter_23
def w_X10_cite : List Cond := .code yX10_cite cX10_cite 8 (some .int) :: ([.constantLong RX10 213 (7), .methodLink RX10 51 yX10_in0, .static yX10_in0, .initialized RX10, .code yX10_in0 cX10_in0 6 (some .boolean), .methodLink RX10 55 yX10_isEdition, .instanceMethod yX10_isEdition, .selects RX10 yX10_isEdition yX10_isEdition, .code yX10_isEdition cX10_isEdition 2 (some .boolean), .methodLink RX10 47 yX10_isWork, .instanceMethod yX10_isWork, .selects RX10 yX10_isWork yX10_isWork, .code yX10_isWork cX10_isWork 1 (some .boolean), .fieldLink RX10 7 "LineCitesModel" "now" "[I", .constant RX10 177 (-1000001)] ++ wsX100)
set_option maxRecDepth 20000 in
theorem g_X10_cite_X10_in0 : GoodIn w_X10_cite (wsS RX10 51 yX10_in0 w_X10_in0) := goodIn_r _ [2, 3, 4, 5] rfl (by decide +kernel)
set_option maxRecDepth 20000 in
theorem g_X10_cite_X10_isEdition : GoodIn w_X10_cite (wsV RX10 55 RX10 yX10_isEdition w_X10_isEdition) := goodIn_r _ [6, 7, 8, 4, 9, 10, 11, 12, 4, 13, 14, 16, 17, 18, 19, 20, 21, 22, 23, 24, 25, 26, 27, 28, 29, 30, 31, 32, 33, 34, 35, 36, 37, 38, 39, 40] rfl (by decide +kernel)
set_option maxHeartbeats 4000000 in
set_option maxRecDepth 100000 in
theorem c_X10_cite (l : Launch) (D : va_G) (h0 : Nat) (i_0 : Int32) (i_1 : Int32) (i_2 : Int32) (i_3 : Int32) (i_4 : Int32) (m_now : Nat) (m_draft : Nat) (m_past : Nat) (m_images : Nat) (m_kept : Nat) (m_tape : Nat) (m_low : Nat) (m_high : Nat) (m_first : Nat) (m_second : Nat) (m_lines : Nat) (m_others : Nat) (k_n : ClassId) : Met l yX10_cite w_X10_cite ({ frames := 2, cells := 0, slots := 0, locals := 41 }) (va_Pc [.ref h0, .int i_0, .int i_1, .int i_2, .int i_3, .int i_4] (fun U => va_P D vwCl [(h0, .inr (10, [.ref m_now, .ref m_draft, .ref m_past, .int 0, .ref m_images, .ref m_kept, .ref m_tape, .int 0, .int 0, .int 0, .int 0, .int 0, .int 0, .int 0, .int 0, .ref m_low, .ref m_high, .ref m_first, .ref m_second, .ref m_lines, .ref m_others, .int 0, .int 0, .int 0, .int 0])), (m_now, .inl (k_n, 192, .inl (fun _ => 0)))] U.heap ∧ va_K D vwCl [(k_n, .int)] U)) (va_Qi (fun (r : Int32) (_ : Unit) => r = (-1000001)) (fun _ _ => True) (fun _ => False)) 0 0 (fun _ => False) := by
  refine Met.ofW (cc := cX10_cite) (maxL := 8) (ret := (some .int)) (by decide) rfl ?_
  intro p e s m args below meth c s₁ B hml hv
  obtain ⟨rfl, hP, hK⟩ := hv
  have hx := B.exec
  have hb := B.bytes
  have hr := B.returns
  have hts := atoms_spec (ws := w_X10_cite) B.pre
  have hown : s.vm.findClass RX10 = some m.cls := findClass_of_methodNamed B.named
  have hlocks := B.notSynchronized
  have hS : va_S (fun _ : Nat => False) s.heap s.heap [] := va_S.rf
  have hP : va_P D vwCl [(h0, .inr (10, [.ref m_now, .ref m_draft, .ref m_past, .int 0, .ref m_images, .ref m_kept, .ref m_tape, .int 0, .int 0, .int 0, .int 0, .int 0, .int 0, .int 0, .int 0, .ref m_low, .ref m_high, .ref m_first, .ref m_second, .ref m_lines, .ref m_others, .int 0, .int 0, .int 0, .int 0])), (m_now, .inl (k_n, 192, .inl (fun _ => 0)))] s.heap := hP
  have hl := lv_entry ([.ref h0, .int i_0, .int i_1, .int i_2, .int i_3, .int i_4]) (n := 8) (Nat.le_of_ble_eq_true rfl)
  rw [lg_entry_eq]
  generalize (lg_sl ([.ref h0, .int i_0, .int i_1, .int i_2, .int i_3, .int i_4]) ++ List.replicate (8 - (lg_sl ([.ref h0, .int i_0, .int i_1, .int i_2, .int i_3, .int i_4])).length) Slot.unset).toArray = ls at hl ⊢
  have hl : lv_has ls 8 [(0, .ref h0), (1, .int i_0), (2, .int i_1), (3, .int i_2), (4, .int i_3), (5, .int i_4)] := hl
  obtain ⟨H, hHe⟩ : ∃ H : Heap, H = s.heap := ⟨_, rfl⟩
  rw [← hHe] at hP
  have hS : va_S (fun _ : Nat => False) s.heap H [] := by rw [hHe]; exact hS
  refine pw_heap hHe ?_
  refine lv_iload_n hx hb dX10_cite_0 rfl (lv_at hl 1 rfl) ?_
  refine lv_i2l (v := i_0.toInt64) hx hb dX10_cite_1 rfl ?_
  refine lv_lconst (v := 0) hx hb dX10_cite_2 (by decide) ?_
  refine lv_ldc2 hx hb hown (hts (.constantLong RX10 213 (7)) (List.mem_of_getElem? (i := 1) rfl)) dX10_cite_3 ?_
  have hPc := hP.sub (ws' := []) [] rfl
  have hKc := hK.sub (tys' := []) [] rfl
  refine va_calli (va_runS (As := [.long i_0.toInt64, .long 0, .long 7]) (rest := []) ⟨hx, hb, hml, hown, hts⟩ (c_X10_in0 l D i_0.toInt64 0 7) (cwS 3 hts g_X10_cite_X10_in0 rfl rfl rfl (by decide +kernel) ⟨Nat.le_of_ble_eq_true rfl, Nat.le_of_ble_eq_true rfl⟩) ⟨fun a U g mk q => by obtain ⟨q0, qP, qK⟩ := q; exact ⟨q0, qP, va_K.moved (u := U) (U := U.calling g mk a) (Vm.Alike.refl U.vm) qK⟩, fun U hU hW => ⟨rfl, by rw [hU]; exact hPc, va_K.moved hW.alike hKc⟩⟩ rfl rfl hl.1 rfl (lv_room (Nat.le_of_ble_eq_true rfl)) dX10_cite_6 ⟨Nat.le_of_ble_eq_true rfl, Nat.le_of_ble_eq_true rfl⟩) hS (fun _ _ h => h.elim) (fun _ h => h.elim) (fun r1 u t H1 locs ht hvm hw hB hz1 hk1 hS => ?_)
  have hP := pw_keep hP (fun q hq => hk1 q hq (fun h => h))
  generalize H1 = H at hP hS ⊢
  refine W.widen (k := 0) (n := 0) (Nat.le_of_ble_eq_true rfl) (Nat.le_of_ble_eq_true rfl) ?_
  rcases hw with ⟨rfl, r1h0, r1h1⟩ | ⟨rfl, r1h0⟩
  · have nr1 : 0 ≤ i_0.toInt ∧ i_0.toInt ≤ 7 := pw_in0 r1h0 r1h1 (by decide) (by decide)
    refine lv_if_eq (tgt := 44) hx hb dX10_cite_9 (by decide) (fun c2 => absurd c2 (by decide)) (fun c2 => ?_)
    refine lv_aload_n hx hb dX10_cite_12 rfl (lv_at hl 0 rfl) ?_
    refine lv_iload_n hx hb dX10_cite_13 rfl (lv_at hl 2 rfl) ?_
    have hPc := hP.sub (ws' := [(h0, .inr (10, [.ref m_now, .ref m_draft, .ref m_past, .int 0, .ref m_images, .ref m_kept, .ref m_tape, .int 0, .int 0, .int 0, .int 0, .int 0, .int 0, .int 0, .int 0, .ref m_low, .ref m_high, .ref m_first, .ref m_second, .ref m_lines, .ref m_others, .int 0, .int 0, .int 0, .int 0])), (m_now, .inl (k_n, 192, .inl (fun _ => 0)))]) [0, 1] rfl
    have hKc := hK.sub (tys' := [(k_n, .int)]) [0] rfl
    refine va_calli (va_runV (As := [.int i_1]) (rest := []) ⟨hx, hb, hml, hown, hts⟩ (c_X10_isEdition l D h0 i_1 m_now m_draft m_past m_images m_kept m_tape m_low m_high m_first m_second m_lines m_others k_n) (cwV 1 hts g_X10_cite_X10_isEdition rfl rfl rfl (by decide +kernel) ⟨Nat.le_of_ble_eq_true rfl, Nat.le_of_ble_eq_true rfl⟩) ⟨fun a U g mk q => by obtain ⟨q0, qP, qK⟩ := q; exact ⟨q0, qP, va_K.moved (u := U) (U := U.calling g mk a) (Vm.Alike.refl U.vm) qK⟩, va_recv hKc hPc (ci := 10) (q0 := 0) rfl rfl, fun U hU hW => ⟨rfl, by rw [hU]; exact hPc, va_K.moved hW.alike hKc⟩⟩ rfl rfl hl.1 rfl (lv_room (Nat.le_of_ble_eq_true rfl)) dX10_cite_14 ⟨Nat.le_of_ble_eq_true rfl, Nat.le_of_ble_eq_true rfl⟩) hS (fun _ _ h => h.elim) (fun _ h => h.elim) (fun r3 u t H1 locs ht hvm hw hB hz1 hk1 hS => ?_)
    have hP := pw_keep hP (fun q hq => hk1 q hq (fun h => h))
    generalize H1 = H at hP hS ⊢
    refine W.widen (k := 0) (n := 0) (Nat.le_of_ble_eq_true rfl) (Nat.le_of_ble_eq_true rfl) ?_
    obtain rfl : r3 = 0 := hw
    refine lv_if_eq (tgt := 44) hx hb dX10_cite_17 (by decide) (fun c4 => ?_) (fun c4 => absurd (by decide) c4)
    refine lv_iconst (v := 0) hx hb dX10_cite_44 (by decide) ?_
    refine lv_istore (lv' := [(6, .int 0), (0, .ref h0), (1, .int i_0), (2, .int i_1), (3, .int i_2), (4, .int i_3), (5, .int i_4)]) hx hb dX10_cite_45 hl (by decide) rfl (fun ls hl => ?_)
    refine lv_iload hx hb dX10_cite_47 (lv_at hl 0 rfl) ?_
    refine lv_if_eq (tgt := 79) hx hb dX10_cite_49 (by decide) (fun c5 => ?_) (fun c5 => absurd (by decide) c5)
    refine lv_ldc hx hb hown (hts (.constant RX10 177 (-1000001)) (List.mem_of_getElem? (i := 15) rfl)) dX10_cite_79 ?_
    exact W.iret (v := (-1000001)) hx hb hr (fun t ht hW => ⟨⟨(-1000001), (), rfl, rfl, trivial⟩, hS.F ht⟩) hS.2.2 dX10_cite_81
  · have nr1 : ¬ (0 ≤ i_0.toInt ∧ i_0.toInt ≤ 7) := pw_nin0 r1h0 (by decide) (by decide)
    refine lv_if_eq (tgt := 44) hx hb dX10_cite_9 (by decide) (fun c6 => ?_) (fun c6 => absurd (by decide) c6)
    refine lv_iconst (v := 0) hx hb dX10_cite_44 (by decide) ?_
    refine lv_istore (lv' := [(6, .int 0), (0, .ref h0), (1, .int i_0), (2, .int i_1), (3, .int i_2), (4, .int i_3), (5, .int i_4)]) hx hb dX10_cite_45 hl (by decide) rfl (fun ls hl => ?_)
    refine lv_iload hx hb dX10_cite_47 (lv_at hl 0 rfl) ?_
    refine lv_if_eq (tgt := 79) hx hb dX10_cite_49 (by decide) (fun c7 => ?_) (fun c7 => absurd (by decide) c7)
    refine lv_ldc hx hb hown (hts (.constant RX10 177 (-1000001)) (List.mem_of_getElem? (i := 15) rfl)) dX10_cite_79 ?_
    exact W.iret (v := (-1000001)) hx hb hr (fun t ht hW => ⟨⟨(-1000001), (), rfl, rfl, trivial⟩, hS.F ht⟩) hS.2.2 dX10_cite_81
def w_X10_see : List Cond := .code yX10_see cX10_see 3 (some .int) :: ([.methodLink RX10 145 yX10_isNumber, .static yX10_isNumber, .initialized RX10, .code yX10_isNumber cX10_isNumber 1 (some .boolean), .constantLong RX10 59 (999), .methodLink RX10 51 yX10_in0, .static yX10_in0, .code yX10_in0 cX10_in0 6 (some .boolean), .constant RX10 177 (-1000001), .methodLink RX10 234 yX10_isLine, .instanceMethod yX10_isLine, .selects RX10 yX10_isLine yX10_isLine, .code yX10_isLine cX10_isLine 2 (some .boolean), .fieldLink RX10 7 "LineCitesModel" "now" "[I"] ++ wsX100)
set_option maxRecDepth 20000 in
theorem g_X10_see_X10_isNumber : GoodIn w_X10_see (wsS RX10 145 yX10_isNumber w_X10_isNumber) := goodIn_r _ [1, 2, 3, 4, 5, 6, 7, 3, 8] rfl (by decide +kernel)
set_option maxRecDepth 20000 in
theorem g_X10_see_X10_isLine : GoodIn w_X10_see (wsV RX10 234 RX10 yX10_isLine w_X10_isLine) := goodIn_r _ [10, 11, 12, 3, 13, 14, 6, 7, 3, 8, 15, 16, 17, 18, 19, 20, 21, 22, 23, 24, 25, 26, 27, 28, 29, 30, 31, 32, 33, 34, 35, 36, 37, 38, 39] rfl (by decide +kernel)
set_option maxHeartbeats 4000000 in
set_option maxRecDepth 100000 in
theorem c_X10_see (l : Launch) (D : va_G) (h0 : Nat) (i_0 : Int32) (i_1 : Int32) (m_now : Nat) (m_draft : Nat) (m_past : Nat) (m_images : Nat) (m_kept : Nat) (m_tape : Nat) (m_low : Nat) (m_high : Nat) (m_first : Nat) (m_second : Nat) (m_lines : Nat) (m_others : Nat) (k_n : ClassId) : Met l yX10_see w_X10_see ({ frames := 2, cells := 0, slots := 0, locals := 46 }) (va_Pc [.ref h0, .int i_0, .int i_1] (fun U => va_P D vwCl [(h0, .inr (10, [.ref m_now, .ref m_draft, .ref m_past, .int 0, .ref m_images, .ref m_kept, .ref m_tape, .int 0, .int 0, .int 0, .int 0, .int 0, .int 0, .int 0, .int 0, .ref m_low, .ref m_high, .ref m_first, .ref m_second, .ref m_lines, .ref m_others, .int 0, .int 0, .int 0, .int 0])), (m_now, .inl (k_n, 192, .inl (fun _ => 0)))] U.heap ∧ va_K D vwCl [(k_n, .int)] U)) (va_Qi (fun (r : Int32) (_ : Unit) => r = (-1000001)) (fun _ _ => True) (fun _ => False)) 0 0 (fun _ => False) := by
  refine Met.ofW (cc := cX10_see) (maxL := 3) (ret := (some .int)) (by decide) rfl ?_
  intro p e s m args below meth c s₁ B hml hv
  obtain ⟨rfl, hP, hK⟩ := hv
  have hx := B.exec
  have hb := B.bytes
  have hr := B.returns
  have hts := atoms_spec (ws := w_X10_see) B.pre
  have hown : s.vm.findClass RX10 = some m.cls := findClass_of_methodNamed B.named
  have hlocks := B.notSynchronized
  have hS : va_S (fun _ : Nat => False) s.heap s.heap [] := va_S.rf
  have hP : va_P D vwCl [(h0, .inr (10, [.ref m_now, .ref m_draft, .ref m_past, .int 0, .ref m_images, .ref m_kept, .ref m_tape, .int 0, .int 0, .int 0, .int 0, .int 0, .int 0, .int 0, .int 0, .ref m_low, .ref m_high, .ref m_first, .ref m_second, .ref m_lines, .ref m_others, .int 0, .int 0, .int 0, .int 0])), (m_now, .inl (k_n, 192, .inl (fun _ => 0)))] s.heap := hP
  have hl := lv_entry ([.ref h0, .int i_0, .int i_1]) (n := 3) (Nat.le_of_ble_eq_true rfl)
  rw [lg_entry_eq]
  generalize (lg_sl ([.ref h0, .int i_0, .int i_1]) ++ List.replicate (3 - (lg_sl ([.ref h0, .int i_0, .int i_1])).length) Slot.unset).toArray = ls at hl ⊢
  have hl : lv_has ls 3 [(0, .ref h0), (1, .int i_0), (2, .int i_1)] := hl
  obtain ⟨H, hHe⟩ : ∃ H : Heap, H = s.heap := ⟨_, rfl⟩
  rw [← hHe] at hP
  have hS : va_S (fun _ : Nat => False) s.heap H [] := by rw [hHe]; exact hS
  refine pw_heap hHe ?_
  refine lv_iload_n hx hb dX10_see_0 rfl (lv_at hl 1 rfl) ?_
  have hPc := hP.sub (ws' := []) [] rfl
  have hKc := hK.sub (tys' := []) [] rfl
  refine va_calli (va_runS (As := [.int i_0]) (rest := []) ⟨hx, hb, hml, hown, hts⟩ (c_X10_isNumber l D i_0) (cwS 1 hts g_X10_see_X10_isNumber rfl rfl rfl (by decide +kernel) ⟨Nat.le_of_ble_eq_true rfl, Nat.le_of_ble_eq_true rfl⟩) ⟨fun a U g mk q => by obtain ⟨q0, qP, qK⟩ := q; exact ⟨q0, qP, va_K.moved (u := U) (U := U.calling g mk a) (Vm.Alike.refl U.vm) qK⟩, fun U hU hW => ⟨rfl, by rw [hU]; exact hPc, va_K.moved hW.alike hKc⟩⟩ rfl rfl hl.1 rfl (lv_room (Nat.le_of_ble_eq_true rfl)) dX10_see_1 ⟨Nat.le_of_ble_eq_true rfl, Nat.le_of_ble_eq_true rfl⟩) hS (fun _ _ h => h.elim) (fun _ h => h.elim) (fun r1 u t H1 locs ht hvm hw hB hz1 hk1 hS => ?_)
  have hP := pw_keep hP (fun q hq => hk1 q hq (fun h => h))
  generalize H1 = H at hP hS ⊢
  refine W.widen (k := 0) (n := 0) (Nat.le_of_ble_eq_true rfl) (Nat.le_of_ble_eq_true rfl) ?_
  refine lv_if_eq (tgt := 15) hx hb dX10_see_4 (by decide) (fun c2 => ?_) (fun c2 => ?_)
  · have nc2 : r1.toInt = 0 := pw_eq c2 rfl (by decide)
    refine lv_ldc hx hb hown (hts (.constant RX10 177 (-1000001)) (List.mem_of_getElem? (i := 9) rfl)) dX10_see_15 ?_
    exact W.iret (v := (-1000001)) hx hb hr (fun t ht hW => ⟨⟨(-1000001), (), rfl, rfl, trivial⟩, hS.F ht⟩) hS.2.2 dX10_see_17
  · have nc2 : r1.toInt ≠ 0 := pw_ne c2 rfl (by decide)
    refine lv_aload_n hx hb dX10_see_7 rfl (lv_at hl 0 rfl) ?_
    refine lv_iload_n hx hb dX10_see_8 rfl (lv_at hl 2 rfl) ?_
    have hPc := hP.sub (ws' := [(h0, .inr (10, [.ref m_now, .ref m_draft, .ref m_past, .int 0, .ref m_images, .ref m_kept, .ref m_tape, .int 0, .int 0, .int 0, .int 0, .int 0, .int 0, .int 0, .int 0, .ref m_low, .ref m_high, .ref m_first, .ref m_second, .ref m_lines, .ref m_others, .int 0, .int 0, .int 0, .int 0])), (m_now, .inl (k_n, 192, .inl (fun _ => 0)))]) [0, 1] rfl
    have hKc := hK.sub (tys' := [(k_n, .int)]) [0] rfl
    refine va_calli (va_runV (As := [.int i_1]) (rest := []) ⟨hx, hb, hml, hown, hts⟩ (c_X10_isLine l D h0 i_1 m_now m_draft m_past m_images m_kept m_tape m_low m_high m_first m_second m_lines m_others k_n) (cwV 1 hts g_X10_see_X10_isLine rfl rfl rfl (by decide +kernel) ⟨Nat.le_of_ble_eq_true rfl, Nat.le_of_ble_eq_true rfl⟩) ⟨fun a U g mk q => by obtain ⟨q0, qP, qK⟩ := q; exact ⟨q0, qP, va_K.moved (u := U) (U := U.calling g mk a) (Vm.Alike.refl U.vm) qK⟩, va_recv hKc hPc (ci := 10) (q0 := 0) rfl rfl, fun U hU hW => ⟨rfl, by rw [hU]; exact hPc, va_K.moved hW.alike hKc⟩⟩ rfl rfl hl.1 rfl (lv_room (Nat.le_of_ble_eq_true rfl)) dX10_see_9 ⟨Nat.le_of_ble_eq_true rfl, Nat.le_of_ble_eq_true rfl⟩) hS (fun _ _ h => h.elim) (fun _ h => h.elim) (fun r3 u t H1 locs ht hvm hw hB hz1 hk1 hS => ?_)
    have hP := pw_keep hP (fun q hq => hk1 q hq (fun h => h))
    generalize H1 = H at hP hS ⊢
    refine W.widen (k := 0) (n := 0) (Nat.le_of_ble_eq_true rfl) (Nat.le_of_ble_eq_true rfl) ?_
    obtain rfl : r3 = 0 := hw
    refine lv_if_ne (tgt := 18) hx hb dX10_see_12 (by decide) (fun c4 => absurd (by decide) c4) (fun c4 => ?_)
    refine lv_ldc hx hb hown (hts (.constant RX10 177 (-1000001)) (List.mem_of_getElem? (i := 9) rfl)) dX10_see_15 ?_
    exact W.iret (v := (-1000001)) hx hb hr (fun t ht hW => ⟨⟨(-1000001), (), rfl, rfl, trivial⟩, hS.F ht⟩) hS.2.2 dX10_see_17
def w_X10_stretch : List Cond := .code yX10_stretch cX10_stretch 4 (some .int) :: ([.methodLink RX10 208 yX10_isStretch, .instanceMethod yX10_isStretch, .selects RX10 yX10_isStretch yX10_isStretch, .initialized RX10, .code yX10_isStretch cX10_isStretch 3 (some .boolean), .methodLink RX10 55 yX10_isEdition, .instanceMethod yX10_isEdition, .selects RX10 yX10_isEdition yX10_isEdition, .code yX10_isEdition cX10_isEdition 2 (some .boolean), .methodLink RX10 47 yX10_isWork, .instanceMethod yX10_isWork, .selects RX10 yX10_isWork yX10_isWork, .code yX10_isWork cX10_isWork 1 (some .boolean), .fieldLink RX10 7 "LineCitesModel" "now" "[I", .constant RX10 177 (-1000001)] ++ wsX100)
set_option maxRecDepth 20000 in
theorem g_X10_stretch_X10_isStretch : GoodIn w_X10_stretch (wsV RX10 208 RX10 yX10_isStretch w_X10_isStretch) := goodIn_r _ [1, 2, 3, 4, 5, 6, 7, 8, 4, 9, 10, 11, 12, 13, 14, 16, 17, 18, 19, 20, 21, 22, 23, 24, 25, 26, 27, 28, 29, 30, 31, 32, 33, 34, 35, 36, 37, 38, 39, 40] rfl (by decide +kernel)
set_option maxHeartbeats 4000000 in
set_option maxRecDepth 100000 in
theorem c_X10_stretch (l : Launch) (D : va_G) (h0 : Nat) (i_0 : Int32) (i_1 : Int32) (i_2 : Int32) (m_now : Nat) (m_draft : Nat) (m_past : Nat) (m_images : Nat) (m_kept : Nat) (m_tape : Nat) (m_low : Nat) (m_high : Nat) (m_first : Nat) (m_second : Nat) (m_lines : Nat) (m_others : Nat) (k_n : ClassId) : Met l yX10_stretch w_X10_stretch ({ frames := 3, cells := 0, slots := 0, locals := 63 }) (va_Pc [.ref h0, .int i_0, .int i_1, .int i_2] (fun U => va_P D vwCl [(h0, .inr (10, [.ref m_now, .ref m_draft, .ref m_past, .int 0, .ref m_images, .ref m_kept, .ref m_tape, .int 0, .int 0, .int 0, .int 0, .int 0, .int 0, .int 0, .int 0, .ref m_low, .ref m_high, .ref m_first, .ref m_second, .ref m_lines, .ref m_others, .int 0, .int 0, .int 0, .int 0])), (m_now, .inl (k_n, 192, .inl (fun _ => 0)))] U.heap ∧ va_K D vwCl [(k_n, .int)] U)) (va_Qi (fun (r : Int32) (_ : Unit) => r = (-1000001)) (fun _ _ => True) (fun _ => False)) 0 0 (fun _ => False) := by
  refine Met.ofW (cc := cX10_stretch) (maxL := 4) (ret := (some .int)) (by decide) rfl ?_
  intro p e s m args below meth c s₁ B hml hv
  obtain ⟨rfl, hP, hK⟩ := hv
  have hx := B.exec
  have hb := B.bytes
  have hr := B.returns
  have hts := atoms_spec (ws := w_X10_stretch) B.pre
  have hown : s.vm.findClass RX10 = some m.cls := findClass_of_methodNamed B.named
  have hlocks := B.notSynchronized
  have hS : va_S (fun _ : Nat => False) s.heap s.heap [] := va_S.rf
  have hP : va_P D vwCl [(h0, .inr (10, [.ref m_now, .ref m_draft, .ref m_past, .int 0, .ref m_images, .ref m_kept, .ref m_tape, .int 0, .int 0, .int 0, .int 0, .int 0, .int 0, .int 0, .int 0, .ref m_low, .ref m_high, .ref m_first, .ref m_second, .ref m_lines, .ref m_others, .int 0, .int 0, .int 0, .int 0])), (m_now, .inl (k_n, 192, .inl (fun _ => 0)))] s.heap := hP
  have hl := lv_entry ([.ref h0, .int i_0, .int i_1, .int i_2]) (n := 4) (Nat.le_of_ble_eq_true rfl)
  rw [lg_entry_eq]
  generalize (lg_sl ([.ref h0, .int i_0, .int i_1, .int i_2]) ++ List.replicate (4 - (lg_sl ([.ref h0, .int i_0, .int i_1, .int i_2])).length) Slot.unset).toArray = ls at hl ⊢
  have hl : lv_has ls 4 [(0, .ref h0), (1, .int i_0), (2, .int i_1), (3, .int i_2)] := hl
  obtain ⟨H, hHe⟩ : ∃ H : Heap, H = s.heap := ⟨_, rfl⟩
  rw [← hHe] at hP
  have hS : va_S (fun _ : Nat => False) s.heap H [] := by rw [hHe]; exact hS
  refine pw_heap hHe ?_
  refine lv_aload_n hx hb dX10_stretch_0 rfl (lv_at hl 0 rfl) ?_
  refine lv_iload_n hx hb dX10_stretch_1 rfl (lv_at hl 1 rfl) ?_
  refine lv_iload_n hx hb dX10_stretch_2 rfl (lv_at hl 2 rfl) ?_
  have hPc := hP.sub (ws' := [(h0, .inr (10, [.ref m_now, .ref m_draft, .ref m_past, .int 0, .ref m_images, .ref m_kept, .ref m_tape, .int 0, .int 0, .int 0, .int 0, .int 0, .int 0, .int 0, .int 0, .ref m_low, .ref m_high, .ref m_first, .ref m_second, .ref m_lines, .ref m_others, .int 0, .int 0, .int 0, .int 0])), (m_now, .inl (k_n, 192, .inl (fun _ => 0)))]) [0, 1] rfl
  have hKc := hK.sub (tys' := [(k_n, .int)]) [0] rfl
  refine va_calli (va_runV (As := [.int i_0, .int i_1]) (rest := []) ⟨hx, hb, hml, hown, hts⟩ (c_X10_isStretch l D h0 i_0 i_1 m_now m_draft m_past m_images m_kept m_tape m_low m_high m_first m_second m_lines m_others k_n) (cwV 2 hts g_X10_stretch_X10_isStretch rfl rfl rfl (by decide +kernel) ⟨Nat.le_of_ble_eq_true rfl, Nat.le_of_ble_eq_true rfl⟩) ⟨fun a U g mk q => by obtain ⟨q0, qP, qK⟩ := q; exact ⟨q0, qP, va_K.moved (u := U) (U := U.calling g mk a) (Vm.Alike.refl U.vm) qK⟩, va_recv hKc hPc (ci := 10) (q0 := 0) rfl rfl, fun U hU hW => ⟨rfl, by rw [hU]; exact hPc, va_K.moved hW.alike hKc⟩⟩ rfl rfl hl.1 rfl (lv_room (Nat.le_of_ble_eq_true rfl)) dX10_stretch_3 ⟨Nat.le_of_ble_eq_true rfl, Nat.le_of_ble_eq_true rfl⟩) hS (fun _ _ h => h.elim) (fun _ h => h.elim) (fun r1 u t H1 locs ht hvm hw hB hz1 hk1 hS => ?_)
  have hP := pw_keep hP (fun q hq => hk1 q hq (fun h => h))
  generalize H1 = H at hP hS ⊢
  refine W.widen (k := 0) (n := 0) (Nat.le_of_ble_eq_true rfl) (Nat.le_of_ble_eq_true rfl) ?_
  obtain rfl : r1 = 0 := hw
  refine lv_if_eq (tgt := 21) hx hb dX10_stretch_6 (by decide) (fun c2 => ?_) (fun c2 => absurd (by decide) c2)
  refine lv_ldc hx hb hown (hts (.constant RX10 177 (-1000001)) (List.mem_of_getElem? (i := 15) rfl)) dX10_stretch_21 ?_
  exact W.iret (v := (-1000001)) hx hb hr (fun t ht hW => ⟨⟨(-1000001), (), rfl, rfl, trivial⟩, hS.F ht⟩) hS.2.2 dX10_stretch_23
def w_X10_as : List Cond := .code yX10_as cX10_as 5 (some .int) :: ([.methodLink RX10 208 yX10_isStretch, .instanceMethod yX10_isStretch, .selects RX10 yX10_isStretch yX10_isStretch, .initialized RX10, .code yX10_isStretch cX10_isStretch 3 (some .boolean), .methodLink RX10 55 yX10_isEdition, .instanceMethod yX10_isEdition, .selects RX10 yX10_isEdition yX10_isEdition, .code yX10_isEdition cX10_isEdition 2 (some .boolean), .methodLink RX10 47 yX10_isWork, .instanceMethod yX10_isWork, .selects RX10 yX10_isWork yX10_isWork, .code yX10_isWork cX10_isWork 1 (some .boolean), .fieldLink RX10 7 "LineCitesModel" "now" "[I", .constant RX10 177 (-1000001)] ++ wsX100)
set_option maxRecDepth 20000 in
theorem g_X10_as_X10_isStretch : GoodIn w_X10_as (wsV RX10 208 RX10 yX10_isStretch w_X10_isStretch) := goodIn_r _ [1, 2, 3, 4, 5, 6, 7, 8, 4, 9, 10, 11, 12, 13, 14, 16, 17, 18, 19, 20, 21, 22, 23, 24, 25, 26, 27, 28, 29, 30, 31, 32, 33, 34, 35, 36, 37, 38, 39, 40] rfl (by decide +kernel)
set_option maxHeartbeats 4000000 in
set_option maxRecDepth 100000 in
theorem c_X10_as (l : Launch) (D : va_G) (h0 : Nat) (i_0 : Int32) (i_1 : Int32) (i_2 : Int32) (m_now : Nat) (m_draft : Nat) (m_past : Nat) (m_images : Nat) (m_kept : Nat) (m_tape : Nat) (m_low : Nat) (m_high : Nat) (m_first : Nat) (m_second : Nat) (m_lines : Nat) (m_others : Nat) (k_n : ClassId) : Met l yX10_as w_X10_as ({ frames := 3, cells := 0, slots := 0, locals := 63 }) (va_Pc [.ref h0, .int i_0, .int i_1, .int i_2] (fun U => va_P D vwCl [(h0, .inr (10, [.ref m_now, .ref m_draft, .ref m_past, .int 0, .ref m_images, .ref m_kept, .ref m_tape, .int 0, .int 0, .int 0, .int 0, .int 0, .int 0, .int 0, .int 0, .ref m_low, .ref m_high, .ref m_first, .ref m_second, .ref m_lines, .ref m_others, .int 0, .int 0, .int 0, .int 0])), (m_now, .inl (k_n, 192, .inl (fun _ => 0)))] U.heap ∧ va_K D vwCl [(k_n, .int)] U)) (va_Qi (fun (r : Int32) (_ : Unit) => r = (-1000001)) (fun _ _ => True) (fun _ => False)) 0 0 (fun _ => False) := by
  refine Met.ofW (cc := cX10_as) (maxL := 5) (ret := (some .int)) (by decide) rfl ?_
  intro p e s m args below meth c s₁ B hml hv
  obtain ⟨rfl, hP, hK⟩ := hv
  have hx := B.exec
  have hb := B.bytes
  have hr := B.returns
  have hts := atoms_spec (ws := w_X10_as) B.pre
  have hown : s.vm.findClass RX10 = some m.cls := findClass_of_methodNamed B.named
  have hlocks := B.notSynchronized
  have hS : va_S (fun _ : Nat => False) s.heap s.heap [] := va_S.rf
  have hP : va_P D vwCl [(h0, .inr (10, [.ref m_now, .ref m_draft, .ref m_past, .int 0, .ref m_images, .ref m_kept, .ref m_tape, .int 0, .int 0, .int 0, .int 0, .int 0, .int 0, .int 0, .int 0, .ref m_low, .ref m_high, .ref m_first, .ref m_second, .ref m_lines, .ref m_others, .int 0, .int 0, .int 0, .int 0])), (m_now, .inl (k_n, 192, .inl (fun _ => 0)))] s.heap := hP
  have hl := lv_entry ([.ref h0, .int i_0, .int i_1, .int i_2]) (n := 5) (Nat.le_of_ble_eq_true rfl)
  rw [lg_entry_eq]
  generalize (lg_sl ([.ref h0, .int i_0, .int i_1, .int i_2]) ++ List.replicate (5 - (lg_sl ([.ref h0, .int i_0, .int i_1, .int i_2])).length) Slot.unset).toArray = ls at hl ⊢
  have hl : lv_has ls 5 [(0, .ref h0), (1, .int i_0), (2, .int i_1), (3, .int i_2)] := hl
  obtain ⟨H, hHe⟩ : ∃ H : Heap, H = s.heap := ⟨_, rfl⟩
  rw [← hHe] at hP
  have hS : va_S (fun _ : Nat => False) s.heap H [] := by rw [hHe]; exact hS
  refine pw_heap hHe ?_
  refine lv_aload_n hx hb dX10_as_0 rfl (lv_at hl 0 rfl) ?_
  refine lv_iload_n hx hb dX10_as_1 rfl (lv_at hl 1 rfl) ?_
  refine lv_iload_n hx hb dX10_as_2 rfl (lv_at hl 2 rfl) ?_
  have hPc := hP.sub (ws' := [(h0, .inr (10, [.ref m_now, .ref m_draft, .ref m_past, .int 0, .ref m_images, .ref m_kept, .ref m_tape, .int 0, .int 0, .int 0, .int 0, .int 0, .int 0, .int 0, .int 0, .ref m_low, .ref m_high, .ref m_first, .ref m_second, .ref m_lines, .ref m_others, .int 0, .int 0, .int 0, .int 0])), (m_now, .inl (k_n, 192, .inl (fun _ => 0)))]) [0, 1] rfl
  have hKc := hK.sub (tys' := [(k_n, .int)]) [0] rfl
  refine va_calli (va_runV (As := [.int i_0, .int i_1]) (rest := []) ⟨hx, hb, hml, hown, hts⟩ (c_X10_isStretch l D h0 i_0 i_1 m_now m_draft m_past m_images m_kept m_tape m_low m_high m_first m_second m_lines m_others k_n) (cwV 2 hts g_X10_as_X10_isStretch rfl rfl rfl (by decide +kernel) ⟨Nat.le_of_ble_eq_true rfl, Nat.le_of_ble_eq_true rfl⟩) ⟨fun a U g mk q => by obtain ⟨q0, qP, qK⟩ := q; exact ⟨q0, qP, va_K.moved (u := U) (U := U.calling g mk a) (Vm.Alike.refl U.vm) qK⟩, va_recv hKc hPc (ci := 10) (q0 := 0) rfl rfl, fun U hU hW => ⟨rfl, by rw [hU]; exact hPc, va_K.moved hW.alike hKc⟩⟩ rfl rfl hl.1 rfl (lv_room (Nat.le_of_ble_eq_true rfl)) dX10_as_3 ⟨Nat.le_of_ble_eq_true rfl, Nat.le_of_ble_eq_true rfl⟩) hS (fun _ _ h => h.elim) (fun _ h => h.elim) (fun r1 u t H1 locs ht hvm hw hB hz1 hk1 hS => ?_)
  have hP := pw_keep hP (fun q hq => hk1 q hq (fun h => h))
  generalize H1 = H at hP hS ⊢
  refine W.widen (k := 0) (n := 0) (Nat.le_of_ble_eq_true rfl) (Nat.le_of_ble_eq_true rfl) ?_
  obtain rfl : r1 = 0 := hw
  refine lv_if_eq (tgt := 21) hx hb dX10_as_6 (by decide) (fun c2 => ?_) (fun c2 => absurd (by decide) c2)
  refine lv_ldc hx hb hown (hts (.constant RX10 177 (-1000001)) (List.mem_of_getElem? (i := 15) rfl)) dX10_as_21 ?_
  exact W.iret (v := (-1000001)) hx hb hr (fun t ht hW => ⟨⟨(-1000001), (), rfl, rfl, trivial⟩, hS.F ht⟩) hS.2.2 dX10_as_23
def w_X10_edition : List Cond := .code yX10_edition cX10_edition 3 (some .int) :: ([.methodLink RX10 55 yX10_isEdition, .instanceMethod yX10_isEdition, .selects RX10 yX10_isEdition yX10_isEdition, .initialized RX10, .code yX10_isEdition cX10_isEdition 2 (some .boolean), .methodLink RX10 47 yX10_isWork, .instanceMethod yX10_isWork, .selects RX10 yX10_isWork yX10_isWork, .code yX10_isWork cX10_isWork 1 (some .boolean), .fieldLink RX10 7 "LineCitesModel" "now" "[I", .constant RX10 177 (-1000001)] ++ wsX100)
set_option maxRecDepth 20000 in
theorem g_X10_edition_X10_isEdition : GoodIn w_X10_edition (wsV RX10 55 RX10 yX10_isEdition w_X10_isEdition) := goodIn_r _ [1, 2, 3, 4, 5, 6, 7, 8, 4, 9, 10, 12, 13, 14, 15, 16, 17, 18, 19, 20, 21, 22, 23, 24, 25, 26, 27, 28, 29, 30, 31, 32, 33, 34, 35, 36] rfl (by decide +kernel)
set_option maxHeartbeats 4000000 in
set_option maxRecDepth 100000 in
theorem c_X10_edition (l : Launch) (D : va_G) (h0 : Nat) (i_0 : Int32) (i_1 : Int32) (m_now : Nat) (m_draft : Nat) (m_past : Nat) (m_images : Nat) (m_kept : Nat) (m_tape : Nat) (m_low : Nat) (m_high : Nat) (m_first : Nat) (m_second : Nat) (m_lines : Nat) (m_others : Nat) (k_n : ClassId) : Met l yX10_edition w_X10_edition ({ frames := 2, cells := 0, slots := 0, locals := 41 }) (va_Pc [.ref h0, .int i_0, .int i_1] (fun U => va_P D vwCl [(h0, .inr (10, [.ref m_now, .ref m_draft, .ref m_past, .int 0, .ref m_images, .ref m_kept, .ref m_tape, .int 0, .int 0, .int 0, .int 0, .int 0, .int 0, .int 0, .int 0, .ref m_low, .ref m_high, .ref m_first, .ref m_second, .ref m_lines, .ref m_others, .int 0, .int 0, .int 0, .int 0])), (m_now, .inl (k_n, 192, .inl (fun _ => 0)))] U.heap ∧ va_K D vwCl [(k_n, .int)] U)) (va_Qi (fun (r : Int32) (_ : Unit) => r = (-1000001)) (fun _ _ => True) (fun _ => False)) 0 0 (fun _ => False) := by
  refine Met.ofW (cc := cX10_edition) (maxL := 3) (ret := (some .int)) (by decide) rfl ?_
  intro p e s m args below meth c s₁ B hml hv
  obtain ⟨rfl, hP, hK⟩ := hv
  have hx := B.exec
  have hb := B.bytes
  have hr := B.returns
  have hts := atoms_spec (ws := w_X10_edition) B.pre
  have hown : s.vm.findClass RX10 = some m.cls := findClass_of_methodNamed B.named
  have hlocks := B.notSynchronized
  have hS : va_S (fun _ : Nat => False) s.heap s.heap [] := va_S.rf
  have hP : va_P D vwCl [(h0, .inr (10, [.ref m_now, .ref m_draft, .ref m_past, .int 0, .ref m_images, .ref m_kept, .ref m_tape, .int 0, .int 0, .int 0, .int 0, .int 0, .int 0, .int 0, .int 0, .ref m_low, .ref m_high, .ref m_first, .ref m_second, .ref m_lines, .ref m_others, .int 0, .int 0, .int 0, .int 0])), (m_now, .inl (k_n, 192, .inl (fun _ => 0)))] s.heap := hP
  have hl := lv_entry ([.ref h0, .int i_0, .int i_1]) (n := 3) (Nat.le_of_ble_eq_true rfl)
  rw [lg_entry_eq]
  generalize (lg_sl ([.ref h0, .int i_0, .int i_1]) ++ List.replicate (3 - (lg_sl ([.ref h0, .int i_0, .int i_1])).length) Slot.unset).toArray = ls at hl ⊢
  have hl : lv_has ls 3 [(0, .ref h0), (1, .int i_0), (2, .int i_1)] := hl
  obtain ⟨H, hHe⟩ : ∃ H : Heap, H = s.heap := ⟨_, rfl⟩
  rw [← hHe] at hP
  have hS : va_S (fun _ : Nat => False) s.heap H [] := by rw [hHe]; exact hS
  refine pw_heap hHe ?_
  refine lv_aload_n hx hb dX10_edition_0 rfl (lv_at hl 0 rfl) ?_
  refine lv_iload_n hx hb dX10_edition_1 rfl (lv_at hl 1 rfl) ?_
  have hPc := hP.sub (ws' := [(h0, .inr (10, [.ref m_now, .ref m_draft, .ref m_past, .int 0, .ref m_images, .ref m_kept, .ref m_tape, .int 0, .int 0, .int 0, .int 0, .int 0, .int 0, .int 0, .int 0, .ref m_low, .ref m_high, .ref m_first, .ref m_second, .ref m_lines, .ref m_others, .int 0, .int 0, .int 0, .int 0])), (m_now, .inl (k_n, 192, .inl (fun _ => 0)))]) [0, 1] rfl
  have hKc := hK.sub (tys' := [(k_n, .int)]) [0] rfl
  refine va_calli (va_runV (As := [.int i_0]) (rest := []) ⟨hx, hb, hml, hown, hts⟩ (c_X10_isEdition l D h0 i_0 m_now m_draft m_past m_images m_kept m_tape m_low m_high m_first m_second m_lines m_others k_n) (cwV 1 hts g_X10_edition_X10_isEdition rfl rfl rfl (by decide +kernel) ⟨Nat.le_of_ble_eq_true rfl, Nat.le_of_ble_eq_true rfl⟩) ⟨fun a U g mk q => by obtain ⟨q0, qP, qK⟩ := q; exact ⟨q0, qP, va_K.moved (u := U) (U := U.calling g mk a) (Vm.Alike.refl U.vm) qK⟩, va_recv hKc hPc (ci := 10) (q0 := 0) rfl rfl, fun U hU hW => ⟨rfl, by rw [hU]; exact hPc, va_K.moved hW.alike hKc⟩⟩ rfl rfl hl.1 rfl (lv_room (Nat.le_of_ble_eq_true rfl)) dX10_edition_2 ⟨Nat.le_of_ble_eq_true rfl, Nat.le_of_ble_eq_true rfl⟩) hS (fun _ _ h => h.elim) (fun _ h => h.elim) (fun r1 u t H1 locs ht hvm hw hB hz1 hk1 hS => ?_)
  have hP := pw_keep hP (fun q hq => hk1 q hq (fun h => h))
  generalize H1 = H at hP hS ⊢
  refine W.widen (k := 0) (n := 0) (Nat.le_of_ble_eq_true rfl) (Nat.le_of_ble_eq_true rfl) ?_
  obtain rfl : r1 = 0 := hw
  refine lv_if_eq (tgt := 20) hx hb dX10_edition_5 (by decide) (fun c2 => ?_) (fun c2 => absurd (by decide) c2)
  refine lv_ldc hx hb hown (hts (.constant RX10 177 (-1000001)) (List.mem_of_getElem? (i := 11) rfl)) dX10_edition_20 ?_
  exact W.iret (v := (-1000001)) hx hb hr (fun t ht hW => ⟨⟨(-1000001), (), rfl, rfl, trivial⟩, hS.F ht⟩) hS.2.2 dX10_edition_22
def w_X10_number_ : List Cond := .code yX10_number_ cX10_number_ 4 (some .int) :: ([.methodLink RX10 55 yX10_isEdition, .instanceMethod yX10_isEdition, .selects RX10 yX10_isEdition yX10_isEdition, .initialized RX10, .code yX10_isEdition cX10_isEdition 2 (some .boolean), .methodLink RX10 47 yX10_isWork, .instanceMethod yX10_isWork, .selects RX10 yX10_isWork yX10_isWork, .code yX10_isWork cX10_isWork 1 (some .boolean), .fieldLink RX10 7 "LineCitesModel" "now" "[I", .constant RX10 177 (-1000001)] ++ wsX100)
set_option maxRecDepth 20000 in
theorem g_X10_number__X10_isEdition : GoodIn w_X10_number_ (wsV RX10 55 RX10 yX10_isEdition w_X10_isEdition) := goodIn_r _ [1, 2, 3, 4, 5, 6, 7, 8, 4, 9, 10, 12, 13, 14, 15, 16, 17, 18, 19, 20, 21, 22, 23, 24, 25, 26, 27, 28, 29, 30, 31, 32, 33, 34, 35, 36] rfl (by decide +kernel)
set_option maxHeartbeats 4000000 in
set_option maxRecDepth 100000 in
theorem c_X10_number_ (l : Launch) (D : va_G) (h0 : Nat) (i_0 : Int32) (i_1 : Int32) (i_2 : Int32) (m_now : Nat) (m_draft : Nat) (m_past : Nat) (m_images : Nat) (m_kept : Nat) (m_tape : Nat) (m_low : Nat) (m_high : Nat) (m_first : Nat) (m_second : Nat) (m_lines : Nat) (m_others : Nat) (k_n : ClassId) : Met l yX10_number_ w_X10_number_ ({ frames := 2, cells := 0, slots := 0, locals := 41 }) (va_Pc [.ref h0, .int i_0, .int i_1, .int i_2] (fun U => va_P D vwCl [(h0, .inr (10, [.ref m_now, .ref m_draft, .ref m_past, .int 0, .ref m_images, .ref m_kept, .ref m_tape, .int 0, .int 0, .int 0, .int 0, .int 0, .int 0, .int 0, .int 0, .ref m_low, .ref m_high, .ref m_first, .ref m_second, .ref m_lines, .ref m_others, .int 0, .int 0, .int 0, .int 0])), (m_now, .inl (k_n, 192, .inl (fun _ => 0)))] U.heap ∧ va_K D vwCl [(k_n, .int)] U)) (va_Qi (fun (r : Int32) (_ : Unit) => r = (-1000001)) (fun _ _ => True) (fun _ => False)) 0 0 (fun _ => False) := by
  refine Met.ofW (cc := cX10_number_) (maxL := 4) (ret := (some .int)) (by decide) rfl ?_
  intro p e s m args below meth c s₁ B hml hv
  obtain ⟨rfl, hP, hK⟩ := hv
  have hx := B.exec
  have hb := B.bytes
  have hr := B.returns
  have hts := atoms_spec (ws := w_X10_number_) B.pre
  have hown : s.vm.findClass RX10 = some m.cls := findClass_of_methodNamed B.named
  have hlocks := B.notSynchronized
  have hS : va_S (fun _ : Nat => False) s.heap s.heap [] := va_S.rf
  have hP : va_P D vwCl [(h0, .inr (10, [.ref m_now, .ref m_draft, .ref m_past, .int 0, .ref m_images, .ref m_kept, .ref m_tape, .int 0, .int 0, .int 0, .int 0, .int 0, .int 0, .int 0, .int 0, .ref m_low, .ref m_high, .ref m_first, .ref m_second, .ref m_lines, .ref m_others, .int 0, .int 0, .int 0, .int 0])), (m_now, .inl (k_n, 192, .inl (fun _ => 0)))] s.heap := hP
  have hl := lv_entry ([.ref h0, .int i_0, .int i_1, .int i_2]) (n := 4) (Nat.le_of_ble_eq_true rfl)
  rw [lg_entry_eq]
  generalize (lg_sl ([.ref h0, .int i_0, .int i_1, .int i_2]) ++ List.replicate (4 - (lg_sl ([.ref h0, .int i_0, .int i_1, .int i_2])).length) Slot.unset).toArray = ls at hl ⊢
  have hl : lv_has ls 4 [(0, .ref h0), (1, .int i_0), (2, .int i_1), (3, .int i_2)] := hl
  obtain ⟨H, hHe⟩ : ∃ H : Heap, H = s.heap := ⟨_, rfl⟩
  rw [← hHe] at hP
  have hS : va_S (fun _ : Nat => False) s.heap H [] := by rw [hHe]; exact hS
  refine pw_heap hHe ?_
  refine lv_aload_n hx hb dX10_number__0 rfl (lv_at hl 0 rfl) ?_
  refine lv_iload_n hx hb dX10_number__1 rfl (lv_at hl 1 rfl) ?_
  have hPc := hP.sub (ws' := [(h0, .inr (10, [.ref m_now, .ref m_draft, .ref m_past, .int 0, .ref m_images, .ref m_kept, .ref m_tape, .int 0, .int 0, .int 0, .int 0, .int 0, .int 0, .int 0, .int 0, .ref m_low, .ref m_high, .ref m_first, .ref m_second, .ref m_lines, .ref m_others, .int 0, .int 0, .int 0, .int 0])), (m_now, .inl (k_n, 192, .inl (fun _ => 0)))]) [0, 1] rfl
  have hKc := hK.sub (tys' := [(k_n, .int)]) [0] rfl
  refine va_calli (va_runV (As := [.int i_0]) (rest := []) ⟨hx, hb, hml, hown, hts⟩ (c_X10_isEdition l D h0 i_0 m_now m_draft m_past m_images m_kept m_tape m_low m_high m_first m_second m_lines m_others k_n) (cwV 1 hts g_X10_number__X10_isEdition rfl rfl rfl (by decide +kernel) ⟨Nat.le_of_ble_eq_true rfl, Nat.le_of_ble_eq_true rfl⟩) ⟨fun a U g mk q => by obtain ⟨q0, qP, qK⟩ := q; exact ⟨q0, qP, va_K.moved (u := U) (U := U.calling g mk a) (Vm.Alike.refl U.vm) qK⟩, va_recv hKc hPc (ci := 10) (q0 := 0) rfl rfl, fun U hU hW => ⟨rfl, by rw [hU]; exact hPc, va_K.moved hW.alike hKc⟩⟩ rfl rfl hl.1 rfl (lv_room (Nat.le_of_ble_eq_true rfl)) dX10_number__2 ⟨Nat.le_of_ble_eq_true rfl, Nat.le_of_ble_eq_true rfl⟩) hS (fun _ _ h => h.elim) (fun _ h => h.elim) (fun r1 u t H1 locs ht hvm hw hB hz1 hk1 hS => ?_)
  have hP := pw_keep hP (fun q hq => hk1 q hq (fun h => h))
  generalize H1 = H at hP hS ⊢
  refine W.widen (k := 0) (n := 0) (Nat.le_of_ble_eq_true rfl) (Nat.le_of_ble_eq_true rfl) ?_
  obtain rfl : r1 = 0 := hw
  refine lv_if_eq (tgt := 26) hx hb dX10_number__5 (by decide) (fun c2 => ?_) (fun c2 => absurd (by decide) c2)
  refine lv_ldc hx hb hown (hts (.constant RX10 177 (-1000001)) (List.mem_of_getElem? (i := 11) rfl)) dX10_number__26 ?_
  exact W.iret (v := (-1000001)) hx hb hr (fun t ht hW => ⟨⟨(-1000001), (), rfl, rfl, trivial⟩, hS.F ht⟩) hS.2.2 dX10_number__28
def w_X10_meant : List Cond := .code yX10_meant cX10_meant 6 (some .int) :: ([.methodLink RX10 55 yX10_isEdition, .instanceMethod yX10_isEdition, .selects RX10 yX10_isEdition yX10_isEdition, .initialized RX10, .code yX10_isEdition cX10_isEdition 2 (some .boolean), .methodLink RX10 47 yX10_isWork, .instanceMethod yX10_isWork, .selects RX10 yX10_isWork yX10_isWork, .code yX10_isWork cX10_isWork 1 (some .boolean), .fieldLink RX10 7 "LineCitesModel" "now" "[I", .constant RX10 177 (-1000001)] ++ wsX100)
set_option maxRecDepth 20000 in
theorem g_X10_meant_X10_isEdition : GoodIn w_X10_meant (wsV RX10 55 RX10 yX10_isEdition w_X10_isEdition) := goodIn_r _ [1, 2, 3, 4, 5, 6, 7, 8, 4, 9, 10, 12, 13, 14, 15, 16, 17, 18, 19, 20, 21, 22, 23, 24, 25, 26, 27, 28, 29, 30, 31, 32, 33, 34, 35, 36] rfl (by decide +kernel)
set_option maxHeartbeats 4000000 in
set_option maxRecDepth 100000 in
theorem c_X10_meant (l : Launch) (D : va_G) (h0 : Nat) (i_0 : Int32) (i_1 : Int32) (i_2 : Int32) (m_now : Nat) (m_draft : Nat) (m_past : Nat) (m_images : Nat) (m_kept : Nat) (m_tape : Nat) (m_low : Nat) (m_high : Nat) (m_first : Nat) (m_second : Nat) (m_lines : Nat) (m_others : Nat) (k_n : ClassId) : Met l yX10_meant w_X10_meant ({ frames := 2, cells := 0, slots := 0, locals := 41 }) (va_Pc [.ref h0, .int i_0, .int i_1, .int i_2] (fun U => va_P D vwCl [(h0, .inr (10, [.ref m_now, .ref m_draft, .ref m_past, .int 0, .ref m_images, .ref m_kept, .ref m_tape, .int 0, .int 0, .int 0, .int 0, .int 0, .int 0, .int 0, .int 0, .ref m_low, .ref m_high, .ref m_first, .ref m_second, .ref m_lines, .ref m_others, .int 0, .int 0, .int 0, .int 0])), (m_now, .inl (k_n, 192, .inl (fun _ => 0)))] U.heap ∧ va_K D vwCl [(k_n, .int)] U)) (va_Qi (fun (r : Int32) (_ : Unit) => r = (-1000001)) (fun _ _ => True) (fun _ => False)) 0 0 (fun _ => False) := by
  refine Met.ofW (cc := cX10_meant) (maxL := 6) (ret := (some .int)) (by decide) rfl ?_
  intro p e s m args below meth c s₁ B hml hv
  obtain ⟨rfl, hP, hK⟩ := hv
  have hx := B.exec
  have hb := B.bytes
  have hr := B.returns
  have hts := atoms_spec (ws := w_X10_meant) B.pre
  have hown : s.vm.findClass RX10 = some m.cls := findClass_of_methodNamed B.named
  have hlocks := B.notSynchronized
  have hS : va_S (fun _ : Nat => False) s.heap s.heap [] := va_S.rf
  have hP : va_P D vwCl [(h0, .inr (10, [.ref m_now, .ref m_draft, .ref m_past, .int 0, .ref m_images, .ref m_kept, .ref m_tape, .int 0, .int 0, .int 0, .int 0, .int 0, .int 0, .int 0, .int 0, .ref m_low, .ref m_high, .ref m_first, .ref m_second, .ref m_lines, .ref m_others, .int 0, .int 0, .int 0, .int 0])), (m_now, .inl (k_n, 192, .inl (fun _ => 0)))] s.heap := hP
  have hl := lv_entry ([.ref h0, .int i_0, .int i_1, .int i_2]) (n := 6) (Nat.le_of_ble_eq_true rfl)
  rw [lg_entry_eq]
  generalize (lg_sl ([.ref h0, .int i_0, .int i_1, .int i_2]) ++ List.replicate (6 - (lg_sl ([.ref h0, .int i_0, .int i_1, .int i_2])).length) Slot.unset).toArray = ls at hl ⊢
  have hl : lv_has ls 6 [(0, .ref h0), (1, .int i_0), (2, .int i_1), (3, .int i_2)] := hl
  obtain ⟨H, hHe⟩ : ∃ H : Heap, H = s.heap := ⟨_, rfl⟩
  rw [← hHe] at hP
  have hS : va_S (fun _ : Nat => False) s.heap H [] := by rw [hHe]; exact hS
  refine pw_heap hHe ?_
  refine lv_aload_n hx hb dX10_meant_0 rfl (lv_at hl 0 rfl) ?_
  refine lv_iload_n hx hb dX10_meant_1 rfl (lv_at hl 1 rfl) ?_
  have hPc := hP.sub (ws' := [(h0, .inr (10, [.ref m_now, .ref m_draft, .ref m_past, .int 0, .ref m_images, .ref m_kept, .ref m_tape, .int 0, .int 0, .int 0, .int 0, .int 0, .int 0, .int 0, .int 0, .ref m_low, .ref m_high, .ref m_first, .ref m_second, .ref m_lines, .ref m_others, .int 0, .int 0, .int 0, .int 0])), (m_now, .inl (k_n, 192, .inl (fun _ => 0)))]) [0, 1] rfl
  have hKc := hK.sub (tys' := [(k_n, .int)]) [0] rfl
  refine va_calli (va_runV (As := [.int i_0]) (rest := []) ⟨hx, hb, hml, hown, hts⟩ (c_X10_isEdition l D h0 i_0 m_now m_draft m_past m_images m_kept m_tape m_low m_high m_first m_second m_lines m_others k_n) (cwV 1 hts g_X10_meant_X10_isEdition rfl rfl rfl (by decide +kernel) ⟨Nat.le_of_ble_eq_true rfl, Nat.le_of_ble_eq_true rfl⟩) ⟨fun a U g mk q => by obtain ⟨q0, qP, qK⟩ := q; exact ⟨q0, qP, va_K.moved (u := U) (U := U.calling g mk a) (Vm.Alike.refl U.vm) qK⟩, va_recv hKc hPc (ci := 10) (q0 := 0) rfl rfl, fun U hU hW => ⟨rfl, by rw [hU]; exact hPc, va_K.moved hW.alike hKc⟩⟩ rfl rfl hl.1 rfl (lv_room (Nat.le_of_ble_eq_true rfl)) dX10_meant_2 ⟨Nat.le_of_ble_eq_true rfl, Nat.le_of_ble_eq_true rfl⟩) hS (fun _ _ h => h.elim) (fun _ h => h.elim) (fun r1 u t H1 locs ht hvm hw hB hz1 hk1 hS => ?_)
  have hP := pw_keep hP (fun q hq => hk1 q hq (fun h => h))
  generalize H1 = H at hP hS ⊢
  refine W.widen (k := 0) (n := 0) (Nat.le_of_ble_eq_true rfl) (Nat.le_of_ble_eq_true rfl) ?_
  obtain rfl : r1 = 0 := hw
  refine lv_if_eq (tgt := 33) hx hb dX10_meant_5 (by decide) (fun c2 => ?_) (fun c2 => absurd (by decide) c2)
  refine lv_ldc hx hb hown (hts (.constant RX10 177 (-1000001)) (List.mem_of_getElem? (i := 11) rfl)) dX10_meant_33 ?_
  exact W.iret (v := (-1000001)) hx hb hr (fun t ht hW => ⟨⟨(-1000001), (), rfl, rfl, trivial⟩, hS.F ht⟩) hS.2.2 dX10_meant_35
def w_X10_left : List Cond := .code yX10_left cX10_left 8 (some .int) :: ([.methodLink RX10 55 yX10_isEdition, .instanceMethod yX10_isEdition, .selects RX10 yX10_isEdition yX10_isEdition, .initialized RX10, .code yX10_isEdition cX10_isEdition 2 (some .boolean), .methodLink RX10 47 yX10_isWork, .instanceMethod yX10_isWork, .selects RX10 yX10_isWork yX10_isWork, .code yX10_isWork cX10_isWork 1 (some .boolean), .fieldLink RX10 7 "LineCitesModel" "now" "[I", .constant RX10 177 (-1000001)] ++ wsX100)
set_option maxRecDepth 20000 in
theorem g_X10_left_X10_isEdition : GoodIn w_X10_left (wsV RX10 55 RX10 yX10_isEdition w_X10_isEdition) := goodIn_r _ [1, 2, 3, 4, 5, 6, 7, 8, 4, 9, 10, 12, 13, 14, 15, 16, 17, 18, 19, 20, 21, 22, 23, 24, 25, 26, 27, 28, 29, 30, 31, 32, 33, 34, 35, 36] rfl (by decide +kernel)
set_option maxHeartbeats 4000000 in
set_option maxRecDepth 100000 in
theorem c_X10_left (l : Launch) (D : va_G) (h0 : Nat) (i_0 : Int32) (i_1 : Int32) (i_2 : Int32) (m_now : Nat) (m_draft : Nat) (m_past : Nat) (m_images : Nat) (m_kept : Nat) (m_tape : Nat) (m_low : Nat) (m_high : Nat) (m_first : Nat) (m_second : Nat) (m_lines : Nat) (m_others : Nat) (k_n : ClassId) : Met l yX10_left w_X10_left ({ frames := 2, cells := 0, slots := 0, locals := 41 }) (va_Pc [.ref h0, .int i_0, .int i_1, .int i_2] (fun U => va_P D vwCl [(h0, .inr (10, [.ref m_now, .ref m_draft, .ref m_past, .int 0, .ref m_images, .ref m_kept, .ref m_tape, .int 0, .int 0, .int 0, .int 0, .int 0, .int 0, .int 0, .int 0, .ref m_low, .ref m_high, .ref m_first, .ref m_second, .ref m_lines, .ref m_others, .int 0, .int 0, .int 0, .int 0])), (m_now, .inl (k_n, 192, .inl (fun _ => 0)))] U.heap ∧ va_K D vwCl [(k_n, .int)] U)) (va_Qi (fun (r : Int32) (_ : Unit) => r = (-1000001)) (fun _ _ => True) (fun _ => False)) 0 0 (fun _ => False) := by
  refine Met.ofW (cc := cX10_left) (maxL := 8) (ret := (some .int)) (by decide) rfl ?_
  intro p e s m args below meth c s₁ B hml hv
  obtain ⟨rfl, hP, hK⟩ := hv
  have hx := B.exec
  have hb := B.bytes
  have hr := B.returns
  have hts := atoms_spec (ws := w_X10_left) B.pre
  have hown : s.vm.findClass RX10 = some m.cls := findClass_of_methodNamed B.named
  have hlocks := B.notSynchronized
  have hS : va_S (fun _ : Nat => False) s.heap s.heap [] := va_S.rf
  have hP : va_P D vwCl [(h0, .inr (10, [.ref m_now, .ref m_draft, .ref m_past, .int 0, .ref m_images, .ref m_kept, .ref m_tape, .int 0, .int 0, .int 0, .int 0, .int 0, .int 0, .int 0, .int 0, .ref m_low, .ref m_high, .ref m_first, .ref m_second, .ref m_lines, .ref m_others, .int 0, .int 0, .int 0, .int 0])), (m_now, .inl (k_n, 192, .inl (fun _ => 0)))] s.heap := hP
  have hl := lv_entry ([.ref h0, .int i_0, .int i_1, .int i_2]) (n := 8) (Nat.le_of_ble_eq_true rfl)
  rw [lg_entry_eq]
  generalize (lg_sl ([.ref h0, .int i_0, .int i_1, .int i_2]) ++ List.replicate (8 - (lg_sl ([.ref h0, .int i_0, .int i_1, .int i_2])).length) Slot.unset).toArray = ls at hl ⊢
  have hl : lv_has ls 8 [(0, .ref h0), (1, .int i_0), (2, .int i_1), (3, .int i_2)] := hl
  obtain ⟨H, hHe⟩ : ∃ H : Heap, H = s.heap := ⟨_, rfl⟩
  rw [← hHe] at hP
  have hS : va_S (fun _ : Nat => False) s.heap H [] := by rw [hHe]; exact hS
  refine pw_heap hHe ?_
  refine lv_aload_n hx hb dX10_left_0 rfl (lv_at hl 0 rfl) ?_
  refine lv_iload_n hx hb dX10_left_1 rfl (lv_at hl 1 rfl) ?_
  have hPc := hP.sub (ws' := [(h0, .inr (10, [.ref m_now, .ref m_draft, .ref m_past, .int 0, .ref m_images, .ref m_kept, .ref m_tape, .int 0, .int 0, .int 0, .int 0, .int 0, .int 0, .int 0, .int 0, .ref m_low, .ref m_high, .ref m_first, .ref m_second, .ref m_lines, .ref m_others, .int 0, .int 0, .int 0, .int 0])), (m_now, .inl (k_n, 192, .inl (fun _ => 0)))]) [0, 1] rfl
  have hKc := hK.sub (tys' := [(k_n, .int)]) [0] rfl
  refine va_calli (va_runV (As := [.int i_0]) (rest := []) ⟨hx, hb, hml, hown, hts⟩ (c_X10_isEdition l D h0 i_0 m_now m_draft m_past m_images m_kept m_tape m_low m_high m_first m_second m_lines m_others k_n) (cwV 1 hts g_X10_left_X10_isEdition rfl rfl rfl (by decide +kernel) ⟨Nat.le_of_ble_eq_true rfl, Nat.le_of_ble_eq_true rfl⟩) ⟨fun a U g mk q => by obtain ⟨q0, qP, qK⟩ := q; exact ⟨q0, qP, va_K.moved (u := U) (U := U.calling g mk a) (Vm.Alike.refl U.vm) qK⟩, va_recv hKc hPc (ci := 10) (q0 := 0) rfl rfl, fun U hU hW => ⟨rfl, by rw [hU]; exact hPc, va_K.moved hW.alike hKc⟩⟩ rfl rfl hl.1 rfl (lv_room (Nat.le_of_ble_eq_true rfl)) dX10_left_2 ⟨Nat.le_of_ble_eq_true rfl, Nat.le_of_ble_eq_true rfl⟩) hS (fun _ _ h => h.elim) (fun _ h => h.elim) (fun r1 u t H1 locs ht hvm hw hB hz1 hk1 hS => ?_)
  have hP := pw_keep hP (fun q hq => hk1 q hq (fun h => h))
  generalize H1 = H at hP hS ⊢
  refine W.widen (k := 0) (n := 0) (Nat.le_of_ble_eq_true rfl) (Nat.le_of_ble_eq_true rfl) ?_
  obtain rfl : r1 = 0 := hw
  refine lv_if_eq (tgt := 22) hx hb dX10_left_5 (by decide) (fun c2 => ?_) (fun c2 => absurd (by decide) c2)
  refine lv_ldc hx hb hown (hts (.constant RX10 177 (-1000001)) (List.mem_of_getElem? (i := 11) rfl)) dX10_left_22 ?_
  exact W.iret (v := (-1000001)) hx hb hr (fun t ht hW => ⟨⟨(-1000001), (), rfl, rfl, trivial⟩, hS.F ht⟩) hS.2.2 dX10_left_24
def w_X10_in : List Cond := .code yX10_in cX10_in 5 (some .int) :: ([.methodLink RX10 55 yX10_isEdition, .instanceMethod yX10_isEdition, .selects RX10 yX10_isEdition yX10_isEdition, .initialized RX10, .code yX10_isEdition cX10_isEdition 2 (some .boolean), .methodLink RX10 47 yX10_isWork, .instanceMethod yX10_isWork, .selects RX10 yX10_isWork yX10_isWork, .code yX10_isWork cX10_isWork 1 (some .boolean), .fieldLink RX10 7 "LineCitesModel" "now" "[I", .constant RX10 177 (-1000001)] ++ wsX100)
set_option maxRecDepth 20000 in
theorem g_X10_in_X10_isEdition : GoodIn w_X10_in (wsV RX10 55 RX10 yX10_isEdition w_X10_isEdition) := goodIn_r _ [1, 2, 3, 4, 5, 6, 7, 8, 4, 9, 10, 12, 13, 14, 15, 16, 17, 18, 19, 20, 21, 22, 23, 24, 25, 26, 27, 28, 29, 30, 31, 32, 33, 34, 35, 36] rfl (by decide +kernel)
set_option maxHeartbeats 4000000 in
set_option maxRecDepth 100000 in
theorem c_X10_in (l : Launch) (D : va_G) (h0 : Nat) (i_0 : Int32) (i_1 : Int32) (i_2 : Int32) (i_3 : Int32) (m_now : Nat) (m_draft : Nat) (m_past : Nat) (m_images : Nat) (m_kept : Nat) (m_tape : Nat) (m_low : Nat) (m_high : Nat) (m_first : Nat) (m_second : Nat) (m_lines : Nat) (m_others : Nat) (k_n : ClassId) : Met l yX10_in w_X10_in ({ frames := 2, cells := 0, slots := 0, locals := 41 }) (va_Pc [.ref h0, .int i_0, .int i_1, .int i_2, .int i_3] (fun U => va_P D vwCl [(h0, .inr (10, [.ref m_now, .ref m_draft, .ref m_past, .int 0, .ref m_images, .ref m_kept, .ref m_tape, .int 0, .int 0, .int 0, .int 0, .int 0, .int 0, .int 0, .int 0, .ref m_low, .ref m_high, .ref m_first, .ref m_second, .ref m_lines, .ref m_others, .int 0, .int 0, .int 0, .int 0])), (m_now, .inl (k_n, 192, .inl (fun _ => 0)))] U.heap ∧ va_K D vwCl [(k_n, .int)] U)) (va_Qi (fun (r : Int32) (_ : Unit) => r = (-1000001)) (fun _ _ => True) (fun _ => False)) 0 0 (fun _ => False) := by
  refine Met.ofW (cc := cX10_in) (maxL := 5) (ret := (some .int)) (by decide) rfl ?_
  intro p e s m args below meth c s₁ B hml hv
  obtain ⟨rfl, hP, hK⟩ := hv
  have hx := B.exec
  have hb := B.bytes
  have hr := B.returns
  have hts := atoms_spec (ws := w_X10_in) B.pre
  have hown : s.vm.findClass RX10 = some m.cls := findClass_of_methodNamed B.named
  have hlocks := B.notSynchronized
  have hS : va_S (fun _ : Nat => False) s.heap s.heap [] := va_S.rf
  have hP : va_P D vwCl [(h0, .inr (10, [.ref m_now, .ref m_draft, .ref m_past, .int 0, .ref m_images, .ref m_kept, .ref m_tape, .int 0, .int 0, .int 0, .int 0, .int 0, .int 0, .int 0, .int 0, .ref m_low, .ref m_high, .ref m_first, .ref m_second, .ref m_lines, .ref m_others, .int 0, .int 0, .int 0, .int 0])), (m_now, .inl (k_n, 192, .inl (fun _ => 0)))] s.heap := hP
  have hl := lv_entry ([.ref h0, .int i_0, .int i_1, .int i_2, .int i_3]) (n := 5) (Nat.le_of_ble_eq_true rfl)
  rw [lg_entry_eq]
  generalize (lg_sl ([.ref h0, .int i_0, .int i_1, .int i_2, .int i_3]) ++ List.replicate (5 - (lg_sl ([.ref h0, .int i_0, .int i_1, .int i_2, .int i_3])).length) Slot.unset).toArray = ls at hl ⊢
  have hl : lv_has ls 5 [(0, .ref h0), (1, .int i_0), (2, .int i_1), (3, .int i_2), (4, .int i_3)] := hl
  obtain ⟨H, hHe⟩ : ∃ H : Heap, H = s.heap := ⟨_, rfl⟩
  rw [← hHe] at hP
  have hS : va_S (fun _ : Nat => False) s.heap H [] := by rw [hHe]; exact hS
  refine pw_heap hHe ?_
  refine lv_aload_n hx hb dX10_in_0 rfl (lv_at hl 0 rfl) ?_
  refine lv_iload_n hx hb dX10_in_1 rfl (lv_at hl 1 rfl) ?_
  have hPc := hP.sub (ws' := [(h0, .inr (10, [.ref m_now, .ref m_draft, .ref m_past, .int 0, .ref m_images, .ref m_kept, .ref m_tape, .int 0, .int 0, .int 0, .int 0, .int 0, .int 0, .int 0, .int 0, .ref m_low, .ref m_high, .ref m_first, .ref m_second, .ref m_lines, .ref m_others, .int 0, .int 0, .int 0, .int 0])), (m_now, .inl (k_n, 192, .inl (fun _ => 0)))]) [0, 1] rfl
  have hKc := hK.sub (tys' := [(k_n, .int)]) [0] rfl
  refine va_calli (va_runV (As := [.int i_0]) (rest := []) ⟨hx, hb, hml, hown, hts⟩ (c_X10_isEdition l D h0 i_0 m_now m_draft m_past m_images m_kept m_tape m_low m_high m_first m_second m_lines m_others k_n) (cwV 1 hts g_X10_in_X10_isEdition rfl rfl rfl (by decide +kernel) ⟨Nat.le_of_ble_eq_true rfl, Nat.le_of_ble_eq_true rfl⟩) ⟨fun a U g mk q => by obtain ⟨q0, qP, qK⟩ := q; exact ⟨q0, qP, va_K.moved (u := U) (U := U.calling g mk a) (Vm.Alike.refl U.vm) qK⟩, va_recv hKc hPc (ci := 10) (q0 := 0) rfl rfl, fun U hU hW => ⟨rfl, by rw [hU]; exact hPc, va_K.moved hW.alike hKc⟩⟩ rfl rfl hl.1 rfl (lv_room (Nat.le_of_ble_eq_true rfl)) dX10_in_2 ⟨Nat.le_of_ble_eq_true rfl, Nat.le_of_ble_eq_true rfl⟩) hS (fun _ _ h => h.elim) (fun _ h => h.elim) (fun r1 u t H1 locs ht hvm hw hB hz1 hk1 hS => ?_)
  have hP := pw_keep hP (fun q hq => hk1 q hq (fun h => h))
  generalize H1 = H at hP hS ⊢
  refine W.widen (k := 0) (n := 0) (Nat.le_of_ble_eq_true rfl) (Nat.le_of_ble_eq_true rfl) ?_
  obtain rfl : r1 = 0 := hw
  refine lv_if_eq (tgt := 36) hx hb dX10_in_5 (by decide) (fun c2 => ?_) (fun c2 => absurd (by decide) c2)
  refine lv_ldc hx hb hown (hts (.constant RX10 177 (-1000001)) (List.mem_of_getElem? (i := 11) rfl)) dX10_in_36 ?_
  exact W.iret (v := (-1000001)) hx hb hr (fun t ht hW => ⟨⟨(-1000001), (), rfl, rfl, trivial⟩, hS.F ht⟩) hS.2.2 dX10_in_38
def w_X10_through : List Cond := .code yX10_through cX10_through 6 (some .int) :: ([.methodLink RX10 55 yX10_isEdition, .instanceMethod yX10_isEdition, .selects RX10 yX10_isEdition yX10_isEdition, .initialized RX10, .code yX10_isEdition cX10_isEdition 2 (some .boolean), .methodLink RX10 47 yX10_isWork, .instanceMethod yX10_isWork, .selects RX10 yX10_isWork yX10_isWork, .code yX10_isWork cX10_isWork 1 (some .boolean), .fieldLink RX10 7 "LineCitesModel" "now" "[I", .constant RX10 177 (-1000001)] ++ wsX100)
set_option maxRecDepth 20000 in
theorem g_X10_through_X10_isEdition : GoodIn w_X10_through (wsV RX10 55 RX10 yX10_isEdition w_X10_isEdition) := goodIn_r _ [1, 2, 3, 4, 5, 6, 7, 8, 4, 9, 10, 12, 13, 14, 15, 16, 17, 18, 19, 20, 21, 22, 23, 24, 25, 26, 27, 28, 29, 30, 31, 32, 33, 34, 35, 36] rfl (by decide +kernel)
set_option maxHeartbeats 4000000 in
set_option maxRecDepth 100000 in
theorem c_X10_through (l : Launch) (D : va_G) (h0 : Nat) (i_0 : Int32) (i_1 : Int32) (i_2 : Int32) (i_3 : Int32) (i_4 : Int32) (m_now : Nat) (m_draft : Nat) (m_past : Nat) (m_images : Nat) (m_kept : Nat) (m_tape : Nat) (m_low : Nat) (m_high : Nat) (m_first : Nat) (m_second : Nat) (m_lines : Nat) (m_others : Nat) (k_n : ClassId) : Met l yX10_through w_X10_through ({ frames := 2, cells := 0, slots := 0, locals := 41 }) (va_Pc [.ref h0, .int i_0, .int i_1, .int i_2, .int i_3, .int i_4] (fun U => va_P D vwCl [(h0, .inr (10, [.ref m_now, .ref m_draft, .ref m_past, .int 0, .ref m_images, .ref m_kept, .ref m_tape, .int 0, .int 0, .int 0, .int 0, .int 0, .int 0, .int 0, .int 0, .ref m_low, .ref m_high, .ref m_first, .ref m_second, .ref m_lines, .ref m_others, .int 0, .int 0, .int 0, .int 0])), (m_now, .inl (k_n, 192, .inl (fun _ => 0)))] U.heap ∧ va_K D vwCl [(k_n, .int)] U)) (va_Qi (fun (r : Int32) (_ : Unit) => r = (-1000001)) (fun _ _ => True) (fun _ => False)) 0 0 (fun _ => False) := by
  refine Met.ofW (cc := cX10_through) (maxL := 6) (ret := (some .int)) (by decide) rfl ?_
  intro p e s m args below meth c s₁ B hml hv
  obtain ⟨rfl, hP, hK⟩ := hv
  have hx := B.exec
  have hb := B.bytes
  have hr := B.returns
  have hts := atoms_spec (ws := w_X10_through) B.pre
  have hown : s.vm.findClass RX10 = some m.cls := findClass_of_methodNamed B.named
  have hlocks := B.notSynchronized
  have hS : va_S (fun _ : Nat => False) s.heap s.heap [] := va_S.rf
  have hP : va_P D vwCl [(h0, .inr (10, [.ref m_now, .ref m_draft, .ref m_past, .int 0, .ref m_images, .ref m_kept, .ref m_tape, .int 0, .int 0, .int 0, .int 0, .int 0, .int 0, .int 0, .int 0, .ref m_low, .ref m_high, .ref m_first, .ref m_second, .ref m_lines, .ref m_others, .int 0, .int 0, .int 0, .int 0])), (m_now, .inl (k_n, 192, .inl (fun _ => 0)))] s.heap := hP
  have hl := lv_entry ([.ref h0, .int i_0, .int i_1, .int i_2, .int i_3, .int i_4]) (n := 6) (Nat.le_of_ble_eq_true rfl)
  rw [lg_entry_eq]
  generalize (lg_sl ([.ref h0, .int i_0, .int i_1, .int i_2, .int i_3, .int i_4]) ++ List.replicate (6 - (lg_sl ([.ref h0, .int i_0, .int i_1, .int i_2, .int i_3, .int i_4])).length) Slot.unset).toArray = ls at hl ⊢
  have hl : lv_has ls 6 [(0, .ref h0), (1, .int i_0), (2, .int i_1), (3, .int i_2), (4, .int i_3), (5, .int i_4)] := hl
  obtain ⟨H, hHe⟩ : ∃ H : Heap, H = s.heap := ⟨_, rfl⟩
  rw [← hHe] at hP
  have hS : va_S (fun _ : Nat => False) s.heap H [] := by rw [hHe]; exact hS
  refine pw_heap hHe ?_
  refine lv_aload_n hx hb dX10_through_0 rfl (lv_at hl 0 rfl) ?_
  refine lv_iload_n hx hb dX10_through_1 rfl (lv_at hl 1 rfl) ?_
  have hPc := hP.sub (ws' := [(h0, .inr (10, [.ref m_now, .ref m_draft, .ref m_past, .int 0, .ref m_images, .ref m_kept, .ref m_tape, .int 0, .int 0, .int 0, .int 0, .int 0, .int 0, .int 0, .int 0, .ref m_low, .ref m_high, .ref m_first, .ref m_second, .ref m_lines, .ref m_others, .int 0, .int 0, .int 0, .int 0])), (m_now, .inl (k_n, 192, .inl (fun _ => 0)))]) [0, 1] rfl
  have hKc := hK.sub (tys' := [(k_n, .int)]) [0] rfl
  refine va_calli (va_runV (As := [.int i_0]) (rest := []) ⟨hx, hb, hml, hown, hts⟩ (c_X10_isEdition l D h0 i_0 m_now m_draft m_past m_images m_kept m_tape m_low m_high m_first m_second m_lines m_others k_n) (cwV 1 hts g_X10_through_X10_isEdition rfl rfl rfl (by decide +kernel) ⟨Nat.le_of_ble_eq_true rfl, Nat.le_of_ble_eq_true rfl⟩) ⟨fun a U g mk q => by obtain ⟨q0, qP, qK⟩ := q; exact ⟨q0, qP, va_K.moved (u := U) (U := U.calling g mk a) (Vm.Alike.refl U.vm) qK⟩, va_recv hKc hPc (ci := 10) (q0 := 0) rfl rfl, fun U hU hW => ⟨rfl, by rw [hU]; exact hPc, va_K.moved hW.alike hKc⟩⟩ rfl rfl hl.1 rfl (lv_room (Nat.le_of_ble_eq_true rfl)) dX10_through_2 ⟨Nat.le_of_ble_eq_true rfl, Nat.le_of_ble_eq_true rfl⟩) hS (fun _ _ h => h.elim) (fun _ h => h.elim) (fun r1 u t H1 locs ht hvm hw hB hz1 hk1 hS => ?_)
  have hP := pw_keep hP (fun q hq => hk1 q hq (fun h => h))
  generalize H1 = H at hP hS ⊢
  refine W.widen (k := 0) (n := 0) (Nat.le_of_ble_eq_true rfl) (Nat.le_of_ble_eq_true rfl) ?_
  obtain rfl : r1 = 0 := hw
  refine lv_if_eq (tgt := 45) hx hb dX10_through_5 (by decide) (fun c2 => ?_) (fun c2 => absurd (by decide) c2)
  refine lv_ldc hx hb hown (hts (.constant RX10 177 (-1000001)) (List.mem_of_getElem? (i := 11) rfl)) dX10_through_45 ?_
  exact W.iret (v := (-1000001)) hx hb hr (fun t ht hW => ⟨⟨(-1000001), (), rfl, rfl, trivial⟩, hS.F ht⟩) hS.2.2 dX10_through_47
def w_X10_shift : List Cond := .code yX10_shift cX10_shift 10 (some .int) :: ([.methodLink RX10 55 yX10_isEdition, .instanceMethod yX10_isEdition, .selects RX10 yX10_isEdition yX10_isEdition, .initialized RX10, .code yX10_isEdition cX10_isEdition 2 (some .boolean), .methodLink RX10 47 yX10_isWork, .instanceMethod yX10_isWork, .selects RX10 yX10_isWork yX10_isWork, .code yX10_isWork cX10_isWork 1 (some .boolean), .fieldLink RX10 7 "LineCitesModel" "now" "[I", .constant RX10 177 (-1000001)] ++ wsX100)
set_option maxRecDepth 20000 in
theorem g_X10_shift_X10_isEdition : GoodIn w_X10_shift (wsV RX10 55 RX10 yX10_isEdition w_X10_isEdition) := goodIn_r _ [1, 2, 3, 4, 5, 6, 7, 8, 4, 9, 10, 12, 13, 14, 15, 16, 17, 18, 19, 20, 21, 22, 23, 24, 25, 26, 27, 28, 29, 30, 31, 32, 33, 34, 35, 36] rfl (by decide +kernel)
set_option maxHeartbeats 4000000 in
set_option maxRecDepth 100000 in
theorem c_X10_shift (l : Launch) (D : va_G) (h0 : Nat) (i_0 : Int32) (i_1 : Int32) (i_2 : Int32) (i_3 : Int32) (m_now : Nat) (m_draft : Nat) (m_past : Nat) (m_images : Nat) (m_kept : Nat) (m_tape : Nat) (m_low : Nat) (m_high : Nat) (m_first : Nat) (m_second : Nat) (m_lines : Nat) (m_others : Nat) (k_n : ClassId) : Met l yX10_shift w_X10_shift ({ frames := 2, cells := 0, slots := 0, locals := 41 }) (va_Pc [.ref h0, .int i_0, .int i_1, .int i_2, .int i_3] (fun U => va_P D vwCl [(h0, .inr (10, [.ref m_now, .ref m_draft, .ref m_past, .int 0, .ref m_images, .ref m_kept, .ref m_tape, .int 0, .int 0, .int 0, .int 0, .int 0, .int 0, .int 0, .int 0, .ref m_low, .ref m_high, .ref m_first, .ref m_second, .ref m_lines, .ref m_others, .int 0, .int 0, .int 0, .int 0])), (m_now, .inl (k_n, 192, .inl (fun _ => 0)))] U.heap ∧ va_K D vwCl [(k_n, .int)] U)) (va_Qi (fun (r : Int32) (_ : Unit) => r = (-1000001)) (fun _ _ => True) (fun _ => False)) 0 0 (fun _ => False) := by
  refine Met.ofW (cc := cX10_shift) (maxL := 10) (ret := (some .int)) (by decide) rfl ?_
  intro p e s m args below meth c s₁ B hml hv
  obtain ⟨rfl, hP, hK⟩ := hv
  have hx := B.exec
  have hb := B.bytes
  have hr := B.returns
  have hts := atoms_spec (ws := w_X10_shift) B.pre
  have hown : s.vm.findClass RX10 = some m.cls := findClass_of_methodNamed B.named
  have hlocks := B.notSynchronized
  have hS : va_S (fun _ : Nat => False) s.heap s.heap [] := va_S.rf
  have hP : va_P D vwCl [(h0, .inr (10, [.ref m_now, .ref m_draft, .ref m_past, .int 0, .ref m_images, .ref m_kept, .ref m_tape, .int 0, .int 0, .int 0, .int 0, .int 0, .int 0, .int 0, .int 0, .ref m_low, .ref m_high, .ref m_first, .ref m_second, .ref m_lines, .ref m_others, .int 0, .int 0, .int 0, .int 0])), (m_now, .inl (k_n, 192, .inl (fun _ => 0)))] s.heap := hP
  have hl := lv_entry ([.ref h0, .int i_0, .int i_1, .int i_2, .int i_3]) (n := 10) (Nat.le_of_ble_eq_true rfl)
  rw [lg_entry_eq]
  generalize (lg_sl ([.ref h0, .int i_0, .int i_1, .int i_2, .int i_3]) ++ List.replicate (10 - (lg_sl ([.ref h0, .int i_0, .int i_1, .int i_2, .int i_3])).length) Slot.unset).toArray = ls at hl ⊢
  have hl : lv_has ls 10 [(0, .ref h0), (1, .int i_0), (2, .int i_1), (3, .int i_2), (4, .int i_3)] := hl
  obtain ⟨H, hHe⟩ : ∃ H : Heap, H = s.heap := ⟨_, rfl⟩
  rw [← hHe] at hP
  have hS : va_S (fun _ : Nat => False) s.heap H [] := by rw [hHe]; exact hS
  refine pw_heap hHe ?_
  refine lv_aload_n hx hb dX10_shift_0 rfl (lv_at hl 0 rfl) ?_
  refine lv_iload_n hx hb dX10_shift_1 rfl (lv_at hl 1 rfl) ?_
  have hPc := hP.sub (ws' := [(h0, .inr (10, [.ref m_now, .ref m_draft, .ref m_past, .int 0, .ref m_images, .ref m_kept, .ref m_tape, .int 0, .int 0, .int 0, .int 0, .int 0, .int 0, .int 0, .int 0, .ref m_low, .ref m_high, .ref m_first, .ref m_second, .ref m_lines, .ref m_others, .int 0, .int 0, .int 0, .int 0])), (m_now, .inl (k_n, 192, .inl (fun _ => 0)))]) [0, 1] rfl
  have hKc := hK.sub (tys' := [(k_n, .int)]) [0] rfl
  refine va_calli (va_runV (As := [.int i_0]) (rest := []) ⟨hx, hb, hml, hown, hts⟩ (c_X10_isEdition l D h0 i_0 m_now m_draft m_past m_images m_kept m_tape m_low m_high m_first m_second m_lines m_others k_n) (cwV 1 hts g_X10_shift_X10_isEdition rfl rfl rfl (by decide +kernel) ⟨Nat.le_of_ble_eq_true rfl, Nat.le_of_ble_eq_true rfl⟩) ⟨fun a U g mk q => by obtain ⟨q0, qP, qK⟩ := q; exact ⟨q0, qP, va_K.moved (u := U) (U := U.calling g mk a) (Vm.Alike.refl U.vm) qK⟩, va_recv hKc hPc (ci := 10) (q0 := 0) rfl rfl, fun U hU hW => ⟨rfl, by rw [hU]; exact hPc, va_K.moved hW.alike hKc⟩⟩ rfl rfl hl.1 rfl (lv_room (Nat.le_of_ble_eq_true rfl)) dX10_shift_2 ⟨Nat.le_of_ble_eq_true rfl, Nat.le_of_ble_eq_true rfl⟩) hS (fun _ _ h => h.elim) (fun _ h => h.elim) (fun r1 u t H1 locs ht hvm hw hB hz1 hk1 hS => ?_)
  have hP := pw_keep hP (fun q hq => hk1 q hq (fun h => h))
  generalize H1 = H at hP hS ⊢
  refine W.widen (k := 0) (n := 0) (Nat.le_of_ble_eq_true rfl) (Nat.le_of_ble_eq_true rfl) ?_
  obtain rfl : r1 = 0 := hw
  refine lv_if_eq (tgt := 42) hx hb dX10_shift_5 (by decide) (fun c2 => ?_) (fun c2 => absurd (by decide) c2)
  refine lv_ldc hx hb hown (hts (.constant RX10 177 (-1000001)) (List.mem_of_getElem? (i := 11) rfl)) dX10_shift_42 ?_
  exact W.iret (v := (-1000001)) hx hb hr (fun t ht hW => ⟨⟨(-1000001), (), rfl, rfl, trivial⟩, hS.F ht⟩) hS.2.2 dX10_shift_44
def w_X10_table : List Cond := .code yX10_table cX10_table 7 (some .int) :: ([.methodLink RX10 55 yX10_isEdition, .instanceMethod yX10_isEdition, .selects RX10 yX10_isEdition yX10_isEdition, .initialized RX10, .code yX10_isEdition cX10_isEdition 2 (some .boolean), .methodLink RX10 47 yX10_isWork, .instanceMethod yX10_isWork, .selects RX10 yX10_isWork yX10_isWork, .code yX10_isWork cX10_isWork 1 (some .boolean), .fieldLink RX10 7 "LineCitesModel" "now" "[I", .constant RX10 177 (-1000001)] ++ wsX100)
set_option maxRecDepth 20000 in
theorem g_X10_table_X10_isEdition : GoodIn w_X10_table (wsV RX10 55 RX10 yX10_isEdition w_X10_isEdition) := goodIn_r _ [1, 2, 3, 4, 5, 6, 7, 8, 4, 9, 10, 12, 13, 14, 15, 16, 17, 18, 19, 20, 21, 22, 23, 24, 25, 26, 27, 28, 29, 30, 31, 32, 33, 34, 35, 36] rfl (by decide +kernel)
set_option maxHeartbeats 4000000 in
set_option maxRecDepth 100000 in
theorem c_X10_table (l : Launch) (D : va_G) (h0 : Nat) (i_0 : Int32) (i_1 : Int32) (i_2 : Int32) (m_now : Nat) (m_draft : Nat) (m_past : Nat) (m_images : Nat) (m_kept : Nat) (m_tape : Nat) (m_low : Nat) (m_high : Nat) (m_first : Nat) (m_second : Nat) (m_lines : Nat) (m_others : Nat) (k_n : ClassId) : Met l yX10_table w_X10_table ({ frames := 2, cells := 0, slots := 0, locals := 41 }) (va_Pc [.ref h0, .int i_0, .int i_1, .int i_2] (fun U => va_P D vwCl [(h0, .inr (10, [.ref m_now, .ref m_draft, .ref m_past, .int 0, .ref m_images, .ref m_kept, .ref m_tape, .int 0, .int 0, .int 0, .int 0, .int 0, .int 0, .int 0, .int 0, .ref m_low, .ref m_high, .ref m_first, .ref m_second, .ref m_lines, .ref m_others, .int 0, .int 0, .int 0, .int 0])), (m_now, .inl (k_n, 192, .inl (fun _ => 0)))] U.heap ∧ va_K D vwCl [(k_n, .int)] U)) (va_Qi (fun (r : Int32) (_ : Unit) => r = (-1000001)) (fun _ _ => True) (fun _ => False)) 0 0 (fun _ => False) := by
  refine Met.ofW (cc := cX10_table) (maxL := 7) (ret := (some .int)) (by decide) rfl ?_
  intro p e s m args below meth c s₁ B hml hv
  obtain ⟨rfl, hP, hK⟩ := hv
  have hx := B.exec
  have hb := B.bytes
  have hr := B.returns
  have hts := atoms_spec (ws := w_X10_table) B.pre
  have hown : s.vm.findClass RX10 = some m.cls := findClass_of_methodNamed B.named
  have hlocks := B.notSynchronized
  have hS : va_S (fun _ : Nat => False) s.heap s.heap [] := va_S.rf
  have hP : va_P D vwCl [(h0, .inr (10, [.ref m_now, .ref m_draft, .ref m_past, .int 0, .ref m_images, .ref m_kept, .ref m_tape, .int 0, .int 0, .int 0, .int 0, .int 0, .int 0, .int 0, .int 0, .ref m_low, .ref m_high, .ref m_first, .ref m_second, .ref m_lines, .ref m_others, .int 0, .int 0, .int 0, .int 0])), (m_now, .inl (k_n, 192, .inl (fun _ => 0)))] s.heap := hP
  have hl := lv_entry ([.ref h0, .int i_0, .int i_1, .int i_2]) (n := 7) (Nat.le_of_ble_eq_true rfl)
  rw [lg_entry_eq]
  generalize (lg_sl ([.ref h0, .int i_0, .int i_1, .int i_2]) ++ List.replicate (7 - (lg_sl ([.ref h0, .int i_0, .int i_1, .int i_2])).length) Slot.unset).toArray = ls at hl ⊢
  have hl : lv_has ls 7 [(0, .ref h0), (1, .int i_0), (2, .int i_1), (3, .int i_2)] := hl
  obtain ⟨H, hHe⟩ : ∃ H : Heap, H = s.heap := ⟨_, rfl⟩
  rw [← hHe] at hP
  have hS : va_S (fun _ : Nat => False) s.heap H [] := by rw [hHe]; exact hS
  refine pw_heap hHe ?_
  refine lv_aload_n hx hb dX10_table_0 rfl (lv_at hl 0 rfl) ?_
  refine lv_iload_n hx hb dX10_table_1 rfl (lv_at hl 1 rfl) ?_
  have hPc := hP.sub (ws' := [(h0, .inr (10, [.ref m_now, .ref m_draft, .ref m_past, .int 0, .ref m_images, .ref m_kept, .ref m_tape, .int 0, .int 0, .int 0, .int 0, .int 0, .int 0, .int 0, .int 0, .ref m_low, .ref m_high, .ref m_first, .ref m_second, .ref m_lines, .ref m_others, .int 0, .int 0, .int 0, .int 0])), (m_now, .inl (k_n, 192, .inl (fun _ => 0)))]) [0, 1] rfl
  have hKc := hK.sub (tys' := [(k_n, .int)]) [0] rfl
  refine va_calli (va_runV (As := [.int i_0]) (rest := []) ⟨hx, hb, hml, hown, hts⟩ (c_X10_isEdition l D h0 i_0 m_now m_draft m_past m_images m_kept m_tape m_low m_high m_first m_second m_lines m_others k_n) (cwV 1 hts g_X10_table_X10_isEdition rfl rfl rfl (by decide +kernel) ⟨Nat.le_of_ble_eq_true rfl, Nat.le_of_ble_eq_true rfl⟩) ⟨fun a U g mk q => by obtain ⟨q0, qP, qK⟩ := q; exact ⟨q0, qP, va_K.moved (u := U) (U := U.calling g mk a) (Vm.Alike.refl U.vm) qK⟩, va_recv hKc hPc (ci := 10) (q0 := 0) rfl rfl, fun U hU hW => ⟨rfl, by rw [hU]; exact hPc, va_K.moved hW.alike hKc⟩⟩ rfl rfl hl.1 rfl (lv_room (Nat.le_of_ble_eq_true rfl)) dX10_table_2 ⟨Nat.le_of_ble_eq_true rfl, Nat.le_of_ble_eq_true rfl⟩) hS (fun _ _ h => h.elim) (fun _ h => h.elim) (fun r1 u t H1 locs ht hvm hw hB hz1 hk1 hS => ?_)
  have hP := pw_keep hP (fun q hq => hk1 q hq (fun h => h))
  generalize H1 = H at hP hS ⊢
  refine W.widen (k := 0) (n := 0) (Nat.le_of_ble_eq_true rfl) (Nat.le_of_ble_eq_true rfl) ?_
  obtain rfl : r1 = 0 := hw
  refine lv_if_eq (tgt := 28) hx hb dX10_table_5 (by decide) (fun c2 => ?_) (fun c2 => absurd (by decide) c2)
  refine lv_ldc hx hb hown (hts (.constant RX10 177 (-1000001)) (List.mem_of_getElem? (i := 11) rfl)) dX10_table_28 ?_
  exact W.iret (v := (-1000001)) hx hb hr (fun t ht hW => ⟨⟨(-1000001), (), rfl, rfl, trivial⟩, hS.F ht⟩) hS.2.2 dX10_table_30
def w_X10_share : List Cond := .code yX10_share cX10_share 6 (some .int) :: ([.methodLink RX10 55 yX10_isEdition, .instanceMethod yX10_isEdition, .selects RX10 yX10_isEdition yX10_isEdition, .initialized RX10, .code yX10_isEdition cX10_isEdition 2 (some .boolean), .methodLink RX10 47 yX10_isWork, .instanceMethod yX10_isWork, .selects RX10 yX10_isWork yX10_isWork, .code yX10_isWork cX10_isWork 1 (some .boolean), .fieldLink RX10 7 "LineCitesModel" "now" "[I", .constant RX10 177 (-1000001)] ++ wsX100)
set_option maxRecDepth 20000 in
theorem g_X10_share_X10_isEdition : GoodIn w_X10_share (wsV RX10 55 RX10 yX10_isEdition w_X10_isEdition) := goodIn_r _ [1, 2, 3, 4, 5, 6, 7, 8, 4, 9, 10, 12, 13, 14, 15, 16, 17, 18, 19, 20, 21, 22, 23, 24, 25, 26, 27, 28, 29, 30, 31, 32, 33, 34, 35, 36] rfl (by decide +kernel)
set_option maxHeartbeats 4000000 in
set_option maxRecDepth 100000 in
theorem c_X10_share (l : Launch) (D : va_G) (h0 : Nat) (i_0 : Int32) (i_1 : Int32) (m_now : Nat) (m_draft : Nat) (m_past : Nat) (m_images : Nat) (m_kept : Nat) (m_tape : Nat) (m_low : Nat) (m_high : Nat) (m_first : Nat) (m_second : Nat) (m_lines : Nat) (m_others : Nat) (k_n : ClassId) : Met l yX10_share w_X10_share ({ frames := 2, cells := 0, slots := 0, locals := 41 }) (va_Pc [.ref h0, .int i_0, .int i_1] (fun U => va_P D vwCl [(h0, .inr (10, [.ref m_now, .ref m_draft, .ref m_past, .int 0, .ref m_images, .ref m_kept, .ref m_tape, .int 0, .int 0, .int 0, .int 0, .int 0, .int 0, .int 0, .int 0, .ref m_low, .ref m_high, .ref m_first, .ref m_second, .ref m_lines, .ref m_others, .int 0, .int 0, .int 0, .int 0])), (m_now, .inl (k_n, 192, .inl (fun _ => 0)))] U.heap ∧ va_K D vwCl [(k_n, .int)] U)) (va_Qi (fun (r : Int32) (_ : Unit) => r = (-1000001)) (fun _ _ => True) (fun _ => False)) 0 0 (fun _ => False) := by
  refine Met.ofW (cc := cX10_share) (maxL := 6) (ret := (some .int)) (by decide) rfl ?_
  intro p e s m args below meth c s₁ B hml hv
  obtain ⟨rfl, hP, hK⟩ := hv
  have hx := B.exec
  have hb := B.bytes
  have hr := B.returns
  have hts := atoms_spec (ws := w_X10_share) B.pre
  have hown : s.vm.findClass RX10 = some m.cls := findClass_of_methodNamed B.named
  have hlocks := B.notSynchronized
  have hS : va_S (fun _ : Nat => False) s.heap s.heap [] := va_S.rf
  have hP : va_P D vwCl [(h0, .inr (10, [.ref m_now, .ref m_draft, .ref m_past, .int 0, .ref m_images, .ref m_kept, .ref m_tape, .int 0, .int 0, .int 0, .int 0, .int 0, .int 0, .int 0, .int 0, .ref m_low, .ref m_high, .ref m_first, .ref m_second, .ref m_lines, .ref m_others, .int 0, .int 0, .int 0, .int 0])), (m_now, .inl (k_n, 192, .inl (fun _ => 0)))] s.heap := hP
  have hl := lv_entry ([.ref h0, .int i_0, .int i_1]) (n := 6) (Nat.le_of_ble_eq_true rfl)
  rw [lg_entry_eq]
  generalize (lg_sl ([.ref h0, .int i_0, .int i_1]) ++ List.replicate (6 - (lg_sl ([.ref h0, .int i_0, .int i_1])).length) Slot.unset).toArray = ls at hl ⊢
  have hl : lv_has ls 6 [(0, .ref h0), (1, .int i_0), (2, .int i_1)] := hl
  obtain ⟨H, hHe⟩ : ∃ H : Heap, H = s.heap := ⟨_, rfl⟩
  rw [← hHe] at hP
  have hS : va_S (fun _ : Nat => False) s.heap H [] := by rw [hHe]; exact hS
  refine pw_heap hHe ?_
  refine lv_aload_n hx hb dX10_share_0 rfl (lv_at hl 0 rfl) ?_
  refine lv_iload_n hx hb dX10_share_1 rfl (lv_at hl 1 rfl) ?_
  have hPc := hP.sub (ws' := [(h0, .inr (10, [.ref m_now, .ref m_draft, .ref m_past, .int 0, .ref m_images, .ref m_kept, .ref m_tape, .int 0, .int 0, .int 0, .int 0, .int 0, .int 0, .int 0, .int 0, .ref m_low, .ref m_high, .ref m_first, .ref m_second, .ref m_lines, .ref m_others, .int 0, .int 0, .int 0, .int 0])), (m_now, .inl (k_n, 192, .inl (fun _ => 0)))]) [0, 1] rfl
  have hKc := hK.sub (tys' := [(k_n, .int)]) [0] rfl
  refine va_calli (va_runV (As := [.int i_0]) (rest := []) ⟨hx, hb, hml, hown, hts⟩ (c_X10_isEdition l D h0 i_0 m_now m_draft m_past m_images m_kept m_tape m_low m_high m_first m_second m_lines m_others k_n) (cwV 1 hts g_X10_share_X10_isEdition rfl rfl rfl (by decide +kernel) ⟨Nat.le_of_ble_eq_true rfl, Nat.le_of_ble_eq_true rfl⟩) ⟨fun a U g mk q => by obtain ⟨q0, qP, qK⟩ := q; exact ⟨q0, qP, va_K.moved (u := U) (U := U.calling g mk a) (Vm.Alike.refl U.vm) qK⟩, va_recv hKc hPc (ci := 10) (q0 := 0) rfl rfl, fun U hU hW => ⟨rfl, by rw [hU]; exact hPc, va_K.moved hW.alike hKc⟩⟩ rfl rfl hl.1 rfl (lv_room (Nat.le_of_ble_eq_true rfl)) dX10_share_2 ⟨Nat.le_of_ble_eq_true rfl, Nat.le_of_ble_eq_true rfl⟩) hS (fun _ _ h => h.elim) (fun _ h => h.elim) (fun r1 u t H1 locs ht hvm hw hB hz1 hk1 hS => ?_)
  have hP := pw_keep hP (fun q hq => hk1 q hq (fun h => h))
  generalize H1 = H at hP hS ⊢
  refine W.widen (k := 0) (n := 0) (Nat.le_of_ble_eq_true rfl) (Nat.le_of_ble_eq_true rfl) ?_
  obtain rfl : r1 = 0 := hw
  refine lv_if_eq (tgt := 16) hx hb dX10_share_5 (by decide) (fun c2 => ?_) (fun c2 => absurd (by decide) c2)
  refine lv_ldc hx hb hown (hts (.constant RX10 177 (-1000001)) (List.mem_of_getElem? (i := 11) rfl)) dX10_share_16 ?_
  exact W.iret (v := (-1000001)) hx hb hr (fun t ht hW => ⟨⟨(-1000001), (), rfl, rfl, trivial⟩, hS.F ht⟩) hS.2.2 dX10_share_18
def w_X10_score : List Cond := .code yX10_score cX10_score 4 (some .int) :: ([.methodLink RX10 55 yX10_isEdition, .instanceMethod yX10_isEdition, .selects RX10 yX10_isEdition yX10_isEdition, .initialized RX10, .code yX10_isEdition cX10_isEdition 2 (some .boolean), .methodLink RX10 47 yX10_isWork, .instanceMethod yX10_isWork, .selects RX10 yX10_isWork yX10_isWork, .code yX10_isWork cX10_isWork 1 (some .boolean), .fieldLink RX10 7 "LineCitesModel" "now" "[I", .constant RX10 177 (-1000001)] ++ wsX100)
set_option maxRecDepth 20000 in
theorem g_X10_score_X10_isEdition : GoodIn w_X10_score (wsV RX10 55 RX10 yX10_isEdition w_X10_isEdition) := goodIn_r _ [1, 2, 3, 4, 5, 6, 7, 8, 4, 9, 10, 12, 13, 14, 15, 16, 17, 18, 19, 20, 21, 22, 23, 24, 25, 26, 27, 28, 29, 30, 31, 32, 33, 34, 35, 36] rfl (by decide +kernel)
set_option maxHeartbeats 4000000 in
set_option maxRecDepth 100000 in
theorem c_X10_score (l : Launch) (D : va_G) (h0 : Nat) (i_0 : Int32) (i_1 : Int32) (m_now : Nat) (m_draft : Nat) (m_past : Nat) (m_images : Nat) (m_kept : Nat) (m_tape : Nat) (m_low : Nat) (m_high : Nat) (m_first : Nat) (m_second : Nat) (m_lines : Nat) (m_others : Nat) (k_n : ClassId) : Met l yX10_score w_X10_score ({ frames := 2, cells := 0, slots := 0, locals := 41 }) (va_Pc [.ref h0, .int i_0, .int i_1] (fun U => va_P D vwCl [(h0, .inr (10, [.ref m_now, .ref m_draft, .ref m_past, .int 0, .ref m_images, .ref m_kept, .ref m_tape, .int 0, .int 0, .int 0, .int 0, .int 0, .int 0, .int 0, .int 0, .ref m_low, .ref m_high, .ref m_first, .ref m_second, .ref m_lines, .ref m_others, .int 0, .int 0, .int 0, .int 0])), (m_now, .inl (k_n, 192, .inl (fun _ => 0)))] U.heap ∧ va_K D vwCl [(k_n, .int)] U)) (va_Qi (fun (r : Int32) (_ : Unit) => r = (-1000001)) (fun _ _ => True) (fun _ => False)) 0 0 (fun _ => False) := by
  refine Met.ofW (cc := cX10_score) (maxL := 4) (ret := (some .int)) (by decide) rfl ?_
  intro p e s m args below meth c s₁ B hml hv
  obtain ⟨rfl, hP, hK⟩ := hv
  have hx := B.exec
  have hb := B.bytes
  have hr := B.returns
  have hts := atoms_spec (ws := w_X10_score) B.pre
  have hown : s.vm.findClass RX10 = some m.cls := findClass_of_methodNamed B.named
  have hlocks := B.notSynchronized
  have hS : va_S (fun _ : Nat => False) s.heap s.heap [] := va_S.rf
  have hP : va_P D vwCl [(h0, .inr (10, [.ref m_now, .ref m_draft, .ref m_past, .int 0, .ref m_images, .ref m_kept, .ref m_tape, .int 0, .int 0, .int 0, .int 0, .int 0, .int 0, .int 0, .int 0, .ref m_low, .ref m_high, .ref m_first, .ref m_second, .ref m_lines, .ref m_others, .int 0, .int 0, .int 0, .int 0])), (m_now, .inl (k_n, 192, .inl (fun _ => 0)))] s.heap := hP
  have hl := lv_entry ([.ref h0, .int i_0, .int i_1]) (n := 4) (Nat.le_of_ble_eq_true rfl)
  rw [lg_entry_eq]
  generalize (lg_sl ([.ref h0, .int i_0, .int i_1]) ++ List.replicate (4 - (lg_sl ([.ref h0, .int i_0, .int i_1])).length) Slot.unset).toArray = ls at hl ⊢
  have hl : lv_has ls 4 [(0, .ref h0), (1, .int i_0), (2, .int i_1)] := hl
  obtain ⟨H, hHe⟩ : ∃ H : Heap, H = s.heap := ⟨_, rfl⟩
  rw [← hHe] at hP
  have hS : va_S (fun _ : Nat => False) s.heap H [] := by rw [hHe]; exact hS
  refine pw_heap hHe ?_
  refine lv_aload_n hx hb dX10_score_0 rfl (lv_at hl 0 rfl) ?_
  refine lv_iload_n hx hb dX10_score_1 rfl (lv_at hl 1 rfl) ?_
  have hPc := hP.sub (ws' := [(h0, .inr (10, [.ref m_now, .ref m_draft, .ref m_past, .int 0, .ref m_images, .ref m_kept, .ref m_tape, .int 0, .int 0, .int 0, .int 0, .int 0, .int 0, .int 0, .int 0, .ref m_low, .ref m_high, .ref m_first, .ref m_second, .ref m_lines, .ref m_others, .int 0, .int 0, .int 0, .int 0])), (m_now, .inl (k_n, 192, .inl (fun _ => 0)))]) [0, 1] rfl
  have hKc := hK.sub (tys' := [(k_n, .int)]) [0] rfl
  refine va_calli (va_runV (As := [.int i_0]) (rest := []) ⟨hx, hb, hml, hown, hts⟩ (c_X10_isEdition l D h0 i_0 m_now m_draft m_past m_images m_kept m_tape m_low m_high m_first m_second m_lines m_others k_n) (cwV 1 hts g_X10_score_X10_isEdition rfl rfl rfl (by decide +kernel) ⟨Nat.le_of_ble_eq_true rfl, Nat.le_of_ble_eq_true rfl⟩) ⟨fun a U g mk q => by obtain ⟨q0, qP, qK⟩ := q; exact ⟨q0, qP, va_K.moved (u := U) (U := U.calling g mk a) (Vm.Alike.refl U.vm) qK⟩, va_recv hKc hPc (ci := 10) (q0 := 0) rfl rfl, fun U hU hW => ⟨rfl, by rw [hU]; exact hPc, va_K.moved hW.alike hKc⟩⟩ rfl rfl hl.1 rfl (lv_room (Nat.le_of_ble_eq_true rfl)) dX10_score_2 ⟨Nat.le_of_ble_eq_true rfl, Nat.le_of_ble_eq_true rfl⟩) hS (fun _ _ h => h.elim) (fun _ h => h.elim) (fun r1 u t H1 locs ht hvm hw hB hz1 hk1 hS => ?_)
  have hP := pw_keep hP (fun q hq => hk1 q hq (fun h => h))
  generalize H1 = H at hP hS ⊢
  refine W.widen (k := 0) (n := 0) (Nat.le_of_ble_eq_true rfl) (Nat.le_of_ble_eq_true rfl) ?_
  obtain rfl : r1 = 0 := hw
  refine lv_if_eq (tgt := 18) hx hb dX10_score_5 (by decide) (fun c2 => ?_) (fun c2 => absurd (by decide) c2)
  refine lv_ldc hx hb hown (hts (.constant RX10 177 (-1000001)) (List.mem_of_getElem? (i := 11) rfl)) dX10_score_18 ?_
  exact W.iret (v := (-1000001)) hx hb hr (fun t ht hW => ⟨⟨(-1000001), (), rfl, rfl, trivial⟩, hS.F ht⟩) hS.2.2 dX10_score_20
def w_X10_strike : List Cond := .code yX10_strike cX10_strike 3 (some .int) :: ([.methodLink RX10 228 yX10_isCitation, .instanceMethod yX10_isCitation, .selects RX10 yX10_isCitation yX10_isCitation, .initialized RX10, .code yX10_isCitation cX10_isCitation 2 (some .boolean), .constantLong RX10 213 (7), .methodLink RX10 51 yX10_in0, .static yX10_in0, .code yX10_in0 cX10_in0 6 (some .boolean), .methodLink RX10 215 yX10_cited, .instanceMethod yX10_cited, .selects RX10 yX10_cited yX10_cited, .code yX10_cited cX10_cited 3 (some .int), .fieldLink RX10 7 "LineCitesModel" "now" "[I", .constant RX10 177 (-1000001)] ++ wsX100)
set_option maxRecDepth 20000 in
theorem g_X10_strike_X10_isCitation : GoodIn w_X10_strike (wsV RX10 228 RX10 yX10_isCitation w_X10_isCitation) := goodIn_r _ [1, 2, 3, 4, 5, 6, 7, 8, 4, 9, 10, 11, 12, 13, 14, 16, 17, 18, 19, 20, 21, 22, 23, 24, 25, 26, 27, 28, 29, 30, 31, 32, 33, 34, 35, 36, 37, 38, 39, 40] rfl (by decide +kernel)
set_option maxHeartbeats 4000000 in
set_option maxRecDepth 100000 in
theorem c_X10_strike (l : Launch) (D : va_G) (h0 : Nat) (i_0 : Int32) (m_now : Nat) (m_draft : Nat) (m_past : Nat) (m_images : Nat) (m_kept : Nat) (m_tape : Nat) (m_low : Nat) (m_high : Nat) (m_first : Nat) (m_second : Nat) (m_lines : Nat) (m_others : Nat) (k_n : ClassId) : Met l yX10_strike w_X10_strike ({ frames := 2, cells := 0, slots := 0, locals := 46 }) (va_Pc [.ref h0, .int i_0] (fun U => va_P D vwCl [(h0, .inr (10, [.ref m_now, .ref m_draft, .ref m_past, .int 0, .ref m_images, .ref m_kept, .ref m_tape, .int 0, .int 0, .int 0, .int 0, .int 0, .int 0, .int 0, .int 0, .ref m_low, .ref m_high, .ref m_first, .ref m_second, .ref m_lines, .ref m_others, .int 0, .int 0, .int 0, .int 0])), (m_now, .inl (k_n, 192, .inl (fun _ => 0)))] U.heap ∧ va_K D vwCl [(k_n, .int)] U)) (va_Qi (fun (r : Int32) (_ : Unit) => r = (-1000001)) (fun _ _ => True) (fun _ => False)) 0 0 (fun _ => False) := by
  refine Met.ofW (cc := cX10_strike) (maxL := 3) (ret := (some .int)) (by decide) rfl ?_
  intro p e s m args below meth c s₁ B hml hv
  obtain ⟨rfl, hP, hK⟩ := hv
  have hx := B.exec
  have hb := B.bytes
  have hr := B.returns
  have hts := atoms_spec (ws := w_X10_strike) B.pre
  have hown : s.vm.findClass RX10 = some m.cls := findClass_of_methodNamed B.named
  have hlocks := B.notSynchronized
  have hS : va_S (fun _ : Nat => False) s.heap s.heap [] := va_S.rf
  have hP : va_P D vwCl [(h0, .inr (10, [.ref m_now, .ref m_draft, .ref m_past, .int 0, .ref m_images, .ref m_kept, .ref m_tape, .int 0, .int 0, .int 0, .int 0, .int 0, .int 0, .int 0, .int 0, .ref m_low, .ref m_high, .ref m_first, .ref m_second, .ref m_lines, .ref m_others, .int 0, .int 0, .int 0, .int 0])), (m_now, .inl (k_n, 192, .inl (fun _ => 0)))] s.heap := hP
  have hl := lv_entry ([.ref h0, .int i_0]) (n := 3) (Nat.le_of_ble_eq_true rfl)
  rw [lg_entry_eq]
  generalize (lg_sl ([.ref h0, .int i_0]) ++ List.replicate (3 - (lg_sl ([.ref h0, .int i_0])).length) Slot.unset).toArray = ls at hl ⊢
  have hl : lv_has ls 3 [(0, .ref h0), (1, .int i_0)] := hl
  obtain ⟨H, hHe⟩ : ∃ H : Heap, H = s.heap := ⟨_, rfl⟩
  rw [← hHe] at hP
  have hS : va_S (fun _ : Nat => False) s.heap H [] := by rw [hHe]; exact hS
  refine pw_heap hHe ?_
  refine lv_aload_n hx hb dX10_strike_0 rfl (lv_at hl 0 rfl) ?_
  refine lv_iload_n hx hb dX10_strike_1 rfl (lv_at hl 1 rfl) ?_
  have hPc := hP.sub (ws' := [(h0, .inr (10, [.ref m_now, .ref m_draft, .ref m_past, .int 0, .ref m_images, .ref m_kept, .ref m_tape, .int 0, .int 0, .int 0, .int 0, .int 0, .int 0, .int 0, .int 0, .ref m_low, .ref m_high, .ref m_first, .ref m_second, .ref m_lines, .ref m_others, .int 0, .int 0, .int 0, .int 0])), (m_now, .inl (k_n, 192, .inl (fun _ => 0)))]) [0, 1] rfl
  have hKc := hK.sub (tys' := [(k_n, .int)]) [0] rfl
  refine va_calli (va_runV (As := [.int i_0]) (rest := []) ⟨hx, hb, hml, hown, hts⟩ (c_X10_isCitation l D h0 i_0 m_now m_draft m_past m_images m_kept m_tape m_low m_high m_first m_second m_lines m_others k_n) (cwV 1 hts g_X10_strike_X10_isCitation rfl rfl rfl (by decide +kernel) ⟨Nat.le_of_ble_eq_true rfl, Nat.le_of_ble_eq_true rfl⟩) ⟨fun a U g mk q => by obtain ⟨q0, qP, qK⟩ := q; exact ⟨q0, qP, va_K.moved (u := U) (U := U.calling g mk a) (Vm.Alike.refl U.vm) qK⟩, va_recv hKc hPc (ci := 10) (q0 := 0) rfl rfl, fun U hU hW => ⟨rfl, by rw [hU]; exact hPc, va_K.moved hW.alike hKc⟩⟩ rfl rfl hl.1 rfl (lv_room (Nat.le_of_ble_eq_true rfl)) dX10_strike_2 ⟨Nat.le_of_ble_eq_true rfl, Nat.le_of_ble_eq_true rfl⟩) hS (fun _ _ h => h.elim) (fun _ h => h.elim) (fun r1 u t H1 locs ht hvm hw hB hz1 hk1 hS => ?_)
  have hP := pw_keep hP (fun q hq => hk1 q hq (fun h => h))
  generalize H1 = H at hP hS ⊢
  refine W.widen (k := 0) (n := 0) (Nat.le_of_ble_eq_true rfl) (Nat.le_of_ble_eq_true rfl) ?_
  obtain rfl : r1 = 0 := hw
  refine lv_if_ne (tgt := 11) hx hb dX10_strike_5 (by decide) (fun c2 => absurd (by decide) c2) (fun c2 => ?_)
  refine lv_ldc hx hb hown (hts (.constant RX10 177 (-1000001)) (List.mem_of_getElem? (i := 15) rfl)) dX10_strike_8 ?_
  exact W.iret (v := (-1000001)) hx hb hr (fun t ht hW => ⟨⟨(-1000001), (), rfl, rfl, trivial⟩, hS.F ht⟩) hS.2.2 dX10_strike_10
def w_X10_citation : List Cond := .code yX10_citation cX10_citation 4 (some .int) :: ([.methodLink RX10 228 yX10_isCitation, .instanceMethod yX10_isCitation, .selects RX10 yX10_isCitation yX10_isCitation, .initialized RX10, .code yX10_isCitation cX10_isCitation 2 (some .boolean), .constantLong RX10 213 (7), .methodLink RX10 51 yX10_in0, .static yX10_in0, .code yX10_in0 cX10_in0 6 (some .boolean), .methodLink RX10 215 yX10_cited, .instanceMethod yX10_cited, .selects RX10 yX10_cited yX10_cited, .code yX10_cited cX10_cited 3 (some .int), .fieldLink RX10 7 "LineCitesModel" "now" "[I", .constant RX10 177 (-1000001)] ++ wsX100)
set_option maxRecDepth 20000 in
theorem g_X10_citation_X10_isCitation : GoodIn w_X10_citation (wsV RX10 228 RX10 yX10_isCitation w_X10_isCitation) := goodIn_r _ [1, 2, 3, 4, 5, 6, 7, 8, 4, 9, 10, 11, 12, 13, 14, 16, 17, 18, 19, 20, 21, 22, 23, 24, 25, 26, 27, 28, 29, 30, 31, 32, 33, 34, 35, 36, 37, 38, 39, 40] rfl (by decide +kernel)
set_option maxHeartbeats 4000000 in
set_option maxRecDepth 100000 in
theorem c_X10_citation (l : Launch) (D : va_G) (h0 : Nat) (i_0 : Int32) (i_1 : Int32) (m_now : Nat) (m_draft : Nat) (m_past : Nat) (m_images : Nat) (m_kept : Nat) (m_tape : Nat) (m_low : Nat) (m_high : Nat) (m_first : Nat) (m_second : Nat) (m_lines : Nat) (m_others : Nat) (k_n : ClassId) : Met l yX10_citation w_X10_citation ({ frames := 2, cells := 0, slots := 0, locals := 46 }) (va_Pc [.ref h0, .int i_0, .int i_1] (fun U => va_P D vwCl [(h0, .inr (10, [.ref m_now, .ref m_draft, .ref m_past, .int 0, .ref m_images, .ref m_kept, .ref m_tape, .int 0, .int 0, .int 0, .int 0, .int 0, .int 0, .int 0, .int 0, .ref m_low, .ref m_high, .ref m_first, .ref m_second, .ref m_lines, .ref m_others, .int 0, .int 0, .int 0, .int 0])), (m_now, .inl (k_n, 192, .inl (fun _ => 0)))] U.heap ∧ va_K D vwCl [(k_n, .int)] U)) (va_Qi (fun (r : Int32) (_ : Unit) => r = (-1000001)) (fun _ _ => True) (fun _ => False)) 0 0 (fun _ => False) := by
  refine Met.ofW (cc := cX10_citation) (maxL := 4) (ret := (some .int)) (by decide) rfl ?_
  intro p e s m args below meth c s₁ B hml hv
  obtain ⟨rfl, hP, hK⟩ := hv
  have hx := B.exec
  have hb := B.bytes
  have hr := B.returns
  have hts := atoms_spec (ws := w_X10_citation) B.pre
  have hown : s.vm.findClass RX10 = some m.cls := findClass_of_methodNamed B.named
  have hlocks := B.notSynchronized
  have hS : va_S (fun _ : Nat => False) s.heap s.heap [] := va_S.rf
  have hP : va_P D vwCl [(h0, .inr (10, [.ref m_now, .ref m_draft, .ref m_past, .int 0, .ref m_images, .ref m_kept, .ref m_tape, .int 0, .int 0, .int 0, .int 0, .int 0, .int 0, .int 0, .int 0, .ref m_low, .ref m_high, .ref m_first, .ref m_second, .ref m_lines, .ref m_others, .int 0, .int 0, .int 0, .int 0])), (m_now, .inl (k_n, 192, .inl (fun _ => 0)))] s.heap := hP
  have hl := lv_entry ([.ref h0, .int i_0, .int i_1]) (n := 4) (Nat.le_of_ble_eq_true rfl)
  rw [lg_entry_eq]
  generalize (lg_sl ([.ref h0, .int i_0, .int i_1]) ++ List.replicate (4 - (lg_sl ([.ref h0, .int i_0, .int i_1])).length) Slot.unset).toArray = ls at hl ⊢
  have hl : lv_has ls 4 [(0, .ref h0), (1, .int i_0), (2, .int i_1)] := hl
  obtain ⟨H, hHe⟩ : ∃ H : Heap, H = s.heap := ⟨_, rfl⟩
  rw [← hHe] at hP
  have hS : va_S (fun _ : Nat => False) s.heap H [] := by rw [hHe]; exact hS
  refine pw_heap hHe ?_
  refine lv_aload_n hx hb dX10_citation_0 rfl (lv_at hl 0 rfl) ?_
  refine lv_iload_n hx hb dX10_citation_1 rfl (lv_at hl 1 rfl) ?_
  have hPc := hP.sub (ws' := [(h0, .inr (10, [.ref m_now, .ref m_draft, .ref m_past, .int 0, .ref m_images, .ref m_kept, .ref m_tape, .int 0, .int 0, .int 0, .int 0, .int 0, .int 0, .int 0, .int 0, .ref m_low, .ref m_high, .ref m_first, .ref m_second, .ref m_lines, .ref m_others, .int 0, .int 0, .int 0, .int 0])), (m_now, .inl (k_n, 192, .inl (fun _ => 0)))]) [0, 1] rfl
  have hKc := hK.sub (tys' := [(k_n, .int)]) [0] rfl
  refine va_calli (va_runV (As := [.int i_0]) (rest := []) ⟨hx, hb, hml, hown, hts⟩ (c_X10_isCitation l D h0 i_0 m_now m_draft m_past m_images m_kept m_tape m_low m_high m_first m_second m_lines m_others k_n) (cwV 1 hts g_X10_citation_X10_isCitation rfl rfl rfl (by decide +kernel) ⟨Nat.le_of_ble_eq_true rfl, Nat.le_of_ble_eq_true rfl⟩) ⟨fun a U g mk q => by obtain ⟨q0, qP, qK⟩ := q; exact ⟨q0, qP, va_K.moved (u := U) (U := U.calling g mk a) (Vm.Alike.refl U.vm) qK⟩, va_recv hKc hPc (ci := 10) (q0 := 0) rfl rfl, fun U hU hW => ⟨rfl, by rw [hU]; exact hPc, va_K.moved hW.alike hKc⟩⟩ rfl rfl hl.1 rfl (lv_room (Nat.le_of_ble_eq_true rfl)) dX10_citation_2 ⟨Nat.le_of_ble_eq_true rfl, Nat.le_of_ble_eq_true rfl⟩) hS (fun _ _ h => h.elim) (fun _ h => h.elim) (fun r1 u t H1 locs ht hvm hw hB hz1 hk1 hS => ?_)
  have hP := pw_keep hP (fun q hq => hk1 q hq (fun h => h))
  generalize H1 = H at hP hS ⊢
  refine W.widen (k := 0) (n := 0) (Nat.le_of_ble_eq_true rfl) (Nat.le_of_ble_eq_true rfl) ?_
  obtain rfl : r1 = 0 := hw
  refine lv_if_eq (tgt := 20) hx hb dX10_citation_5 (by decide) (fun c2 => ?_) (fun c2 => absurd (by decide) c2)
  refine lv_ldc hx hb hown (hts (.constant RX10 177 (-1000001)) (List.mem_of_getElem? (i := 15) rfl)) dX10_citation_20 ?_
  exact W.iret (v := (-1000001)) hx hb hr (fun t ht hW => ⟨⟨(-1000001), (), rfl, rfl, trivial⟩, hS.F ht⟩) hS.2.2 dX10_citation_22
def w_X10_turned : List Cond := .code yX10_turned cX10_turned 8 (some .int) :: ([.methodLink RX10 228 yX10_isCitation, .instanceMethod yX10_isCitation, .selects RX10 yX10_isCitation yX10_isCitation, .initialized RX10, .code yX10_isCitation cX10_isCitation 2 (some .boolean), .constantLong RX10 213 (7), .methodLink RX10 51 yX10_in0, .static yX10_in0, .code yX10_in0 cX10_in0 6 (some .boolean), .methodLink RX10 215 yX10_cited, .instanceMethod yX10_cited, .selects RX10 yX10_cited yX10_cited, .code yX10_cited cX10_cited 3 (some .int), .fieldLink RX10 7 "LineCitesModel" "now" "[I", .constant RX10 177 (-1000001)] ++ wsX100)
set_option maxRecDepth 20000 in
theorem g_X10_turned_X10_isCitation : GoodIn w_X10_turned (wsV RX10 228 RX10 yX10_isCitation w_X10_isCitation) := goodIn_r _ [1, 2, 3, 4, 5, 6, 7, 8, 4, 9, 10, 11, 12, 13, 14, 16, 17, 18, 19, 20, 21, 22, 23, 24, 25, 26, 27, 28, 29, 30, 31, 32, 33, 34, 35, 36, 37, 38, 39, 40] rfl (by decide +kernel)
set_option maxHeartbeats 4000000 in
set_option maxRecDepth 100000 in
theorem c_X10_turned (l : Launch) (D : va_G) (h0 : Nat) (i_0 : Int32) (i_1 : Int32) (i_2 : Int32) (m_now : Nat) (m_draft : Nat) (m_past : Nat) (m_images : Nat) (m_kept : Nat) (m_tape : Nat) (m_low : Nat) (m_high : Nat) (m_first : Nat) (m_second : Nat) (m_lines : Nat) (m_others : Nat) (k_n : ClassId) : Met l yX10_turned w_X10_turned ({ frames := 2, cells := 0, slots := 0, locals := 46 }) (va_Pc [.ref h0, .int i_0, .int i_1, .int i_2] (fun U => va_P D vwCl [(h0, .inr (10, [.ref m_now, .ref m_draft, .ref m_past, .int 0, .ref m_images, .ref m_kept, .ref m_tape, .int 0, .int 0, .int 0, .int 0, .int 0, .int 0, .int 0, .int 0, .ref m_low, .ref m_high, .ref m_first, .ref m_second, .ref m_lines, .ref m_others, .int 0, .int 0, .int 0, .int 0])), (m_now, .inl (k_n, 192, .inl (fun _ => 0)))] U.heap ∧ va_K D vwCl [(k_n, .int)] U)) (va_Qi (fun (r : Int32) (_ : Unit) => r = (-1000001)) (fun _ _ => True) (fun _ => False)) 0 0 (fun _ => False) := by
  refine Met.ofW (cc := cX10_turned) (maxL := 8) (ret := (some .int)) (by decide) rfl ?_
  intro p e s m args below meth c s₁ B hml hv
  obtain ⟨rfl, hP, hK⟩ := hv
  have hx := B.exec
  have hb := B.bytes
  have hr := B.returns
  have hts := atoms_spec (ws := w_X10_turned) B.pre
  have hown : s.vm.findClass RX10 = some m.cls := findClass_of_methodNamed B.named
  have hlocks := B.notSynchronized
  have hS : va_S (fun _ : Nat => False) s.heap s.heap [] := va_S.rf
  have hP : va_P D vwCl [(h0, .inr (10, [.ref m_now, .ref m_draft, .ref m_past, .int 0, .ref m_images, .ref m_kept, .ref m_tape, .int 0, .int 0, .int 0, .int 0, .int 0, .int 0, .int 0, .int 0, .ref m_low, .ref m_high, .ref m_first, .ref m_second, .ref m_lines, .ref m_others, .int 0, .int 0, .int 0, .int 0])), (m_now, .inl (k_n, 192, .inl (fun _ => 0)))] s.heap := hP
  have hl := lv_entry ([.ref h0, .int i_0, .int i_1, .int i_2]) (n := 8) (Nat.le_of_ble_eq_true rfl)
  rw [lg_entry_eq]
  generalize (lg_sl ([.ref h0, .int i_0, .int i_1, .int i_2]) ++ List.replicate (8 - (lg_sl ([.ref h0, .int i_0, .int i_1, .int i_2])).length) Slot.unset).toArray = ls at hl ⊢
  have hl : lv_has ls 8 [(0, .ref h0), (1, .int i_0), (2, .int i_1), (3, .int i_2)] := hl
  obtain ⟨H, hHe⟩ : ∃ H : Heap, H = s.heap := ⟨_, rfl⟩
  rw [← hHe] at hP
  have hS : va_S (fun _ : Nat => False) s.heap H [] := by rw [hHe]; exact hS
  refine pw_heap hHe ?_
  refine lv_aload_n hx hb dX10_turned_0 rfl (lv_at hl 0 rfl) ?_
  refine lv_iload_n hx hb dX10_turned_1 rfl (lv_at hl 1 rfl) ?_
  have hPc := hP.sub (ws' := [(h0, .inr (10, [.ref m_now, .ref m_draft, .ref m_past, .int 0, .ref m_images, .ref m_kept, .ref m_tape, .int 0, .int 0, .int 0, .int 0, .int 0, .int 0, .int 0, .int 0, .ref m_low, .ref m_high, .ref m_first, .ref m_second, .ref m_lines, .ref m_others, .int 0, .int 0, .int 0, .int 0])), (m_now, .inl (k_n, 192, .inl (fun _ => 0)))]) [0, 1] rfl
  have hKc := hK.sub (tys' := [(k_n, .int)]) [0] rfl
  refine va_calli (va_runV (As := [.int i_0]) (rest := []) ⟨hx, hb, hml, hown, hts⟩ (c_X10_isCitation l D h0 i_0 m_now m_draft m_past m_images m_kept m_tape m_low m_high m_first m_second m_lines m_others k_n) (cwV 1 hts g_X10_turned_X10_isCitation rfl rfl rfl (by decide +kernel) ⟨Nat.le_of_ble_eq_true rfl, Nat.le_of_ble_eq_true rfl⟩) ⟨fun a U g mk q => by obtain ⟨q0, qP, qK⟩ := q; exact ⟨q0, qP, va_K.moved (u := U) (U := U.calling g mk a) (Vm.Alike.refl U.vm) qK⟩, va_recv hKc hPc (ci := 10) (q0 := 0) rfl rfl, fun U hU hW => ⟨rfl, by rw [hU]; exact hPc, va_K.moved hW.alike hKc⟩⟩ rfl rfl hl.1 rfl (lv_room (Nat.le_of_ble_eq_true rfl)) dX10_turned_2 ⟨Nat.le_of_ble_eq_true rfl, Nat.le_of_ble_eq_true rfl⟩) hS (fun _ _ h => h.elim) (fun _ h => h.elim) (fun r1 u t H1 locs ht hvm hw hB hz1 hk1 hS => ?_)
  have hP := pw_keep hP (fun q hq => hk1 q hq (fun h => h))
  generalize H1 = H at hP hS ⊢
  refine W.widen (k := 0) (n := 0) (Nat.le_of_ble_eq_true rfl) (Nat.le_of_ble_eq_true rfl) ?_
  obtain rfl : r1 = 0 := hw
  refine lv_if_eq (tgt := 28) hx hb dX10_turned_5 (by decide) (fun c2 => ?_) (fun c2 => absurd (by decide) c2)
  refine lv_ldc hx hb hown (hts (.constant RX10 177 (-1000001)) (List.mem_of_getElem? (i := 15) rfl)) dX10_turned_28 ?_
  exact W.iret (v := (-1000001)) hx hb hr (fun t ht hW => ⟨⟨(-1000001), (), rfl, rfl, trivial⟩, hS.F ht⟩) hS.2.2 dX10_turned_30
def w_X10_meet : List Cond := .code yX10_meet cX10_meet 7 (some .int) :: ([.methodLink RX10 228 yX10_isCitation, .instanceMethod yX10_isCitation, .selects RX10 yX10_isCitation yX10_isCitation, .initialized RX10, .code yX10_isCitation cX10_isCitation 2 (some .boolean), .constantLong RX10 213 (7), .methodLink RX10 51 yX10_in0, .static yX10_in0, .code yX10_in0 cX10_in0 6 (some .boolean), .methodLink RX10 215 yX10_cited, .instanceMethod yX10_cited, .selects RX10 yX10_cited yX10_cited, .code yX10_cited cX10_cited 3 (some .int), .fieldLink RX10 7 "LineCitesModel" "now" "[I", .constant RX10 177 (-1000001)] ++ wsX100)
set_option maxRecDepth 20000 in
theorem g_X10_meet_X10_isCitation : GoodIn w_X10_meet (wsV RX10 228 RX10 yX10_isCitation w_X10_isCitation) := goodIn_r _ [1, 2, 3, 4, 5, 6, 7, 8, 4, 9, 10, 11, 12, 13, 14, 16, 17, 18, 19, 20, 21, 22, 23, 24, 25, 26, 27, 28, 29, 30, 31, 32, 33, 34, 35, 36, 37, 38, 39, 40] rfl (by decide +kernel)
set_option maxHeartbeats 4000000 in
set_option maxRecDepth 100000 in
theorem c_X10_meet (l : Launch) (D : va_G) (h0 : Nat) (i_0 : Int32) (i_1 : Int32) (i_2 : Int32) (m_now : Nat) (m_draft : Nat) (m_past : Nat) (m_images : Nat) (m_kept : Nat) (m_tape : Nat) (m_low : Nat) (m_high : Nat) (m_first : Nat) (m_second : Nat) (m_lines : Nat) (m_others : Nat) (k_n : ClassId) : Met l yX10_meet w_X10_meet ({ frames := 2, cells := 0, slots := 0, locals := 46 }) (va_Pc [.ref h0, .int i_0, .int i_1, .int i_2] (fun U => va_P D vwCl [(h0, .inr (10, [.ref m_now, .ref m_draft, .ref m_past, .int 0, .ref m_images, .ref m_kept, .ref m_tape, .int 0, .int 0, .int 0, .int 0, .int 0, .int 0, .int 0, .int 0, .ref m_low, .ref m_high, .ref m_first, .ref m_second, .ref m_lines, .ref m_others, .int 0, .int 0, .int 0, .int 0])), (m_now, .inl (k_n, 192, .inl (fun _ => 0)))] U.heap ∧ va_K D vwCl [(k_n, .int)] U)) (va_Qi (fun (r : Int32) (_ : Unit) => r = (-1000001)) (fun _ _ => True) (fun _ => False)) 0 0 (fun _ => False) := by
  refine Met.ofW (cc := cX10_meet) (maxL := 7) (ret := (some .int)) (by decide) rfl ?_
  intro p e s m args below meth c s₁ B hml hv
  obtain ⟨rfl, hP, hK⟩ := hv
  have hx := B.exec
  have hb := B.bytes
  have hr := B.returns
  have hts := atoms_spec (ws := w_X10_meet) B.pre
  have hown : s.vm.findClass RX10 = some m.cls := findClass_of_methodNamed B.named
  have hlocks := B.notSynchronized
  have hS : va_S (fun _ : Nat => False) s.heap s.heap [] := va_S.rf
  have hP : va_P D vwCl [(h0, .inr (10, [.ref m_now, .ref m_draft, .ref m_past, .int 0, .ref m_images, .ref m_kept, .ref m_tape, .int 0, .int 0, .int 0, .int 0, .int 0, .int 0, .int 0, .int 0, .ref m_low, .ref m_high, .ref m_first, .ref m_second, .ref m_lines, .ref m_others, .int 0, .int 0, .int 0, .int 0])), (m_now, .inl (k_n, 192, .inl (fun _ => 0)))] s.heap := hP
  have hl := lv_entry ([.ref h0, .int i_0, .int i_1, .int i_2]) (n := 7) (Nat.le_of_ble_eq_true rfl)
  rw [lg_entry_eq]
  generalize (lg_sl ([.ref h0, .int i_0, .int i_1, .int i_2]) ++ List.replicate (7 - (lg_sl ([.ref h0, .int i_0, .int i_1, .int i_2])).length) Slot.unset).toArray = ls at hl ⊢
  have hl : lv_has ls 7 [(0, .ref h0), (1, .int i_0), (2, .int i_1), (3, .int i_2)] := hl
  obtain ⟨H, hHe⟩ : ∃ H : Heap, H = s.heap := ⟨_, rfl⟩
  rw [← hHe] at hP
  have hS : va_S (fun _ : Nat => False) s.heap H [] := by rw [hHe]; exact hS
  refine pw_heap hHe ?_
  refine lv_aload_n hx hb dX10_meet_0 rfl (lv_at hl 0 rfl) ?_
  refine lv_iload_n hx hb dX10_meet_1 rfl (lv_at hl 1 rfl) ?_
  have hPc := hP.sub (ws' := [(h0, .inr (10, [.ref m_now, .ref m_draft, .ref m_past, .int 0, .ref m_images, .ref m_kept, .ref m_tape, .int 0, .int 0, .int 0, .int 0, .int 0, .int 0, .int 0, .int 0, .ref m_low, .ref m_high, .ref m_first, .ref m_second, .ref m_lines, .ref m_others, .int 0, .int 0, .int 0, .int 0])), (m_now, .inl (k_n, 192, .inl (fun _ => 0)))]) [0, 1] rfl
  have hKc := hK.sub (tys' := [(k_n, .int)]) [0] rfl
  refine va_calli (va_runV (As := [.int i_0]) (rest := []) ⟨hx, hb, hml, hown, hts⟩ (c_X10_isCitation l D h0 i_0 m_now m_draft m_past m_images m_kept m_tape m_low m_high m_first m_second m_lines m_others k_n) (cwV 1 hts g_X10_meet_X10_isCitation rfl rfl rfl (by decide +kernel) ⟨Nat.le_of_ble_eq_true rfl, Nat.le_of_ble_eq_true rfl⟩) ⟨fun a U g mk q => by obtain ⟨q0, qP, qK⟩ := q; exact ⟨q0, qP, va_K.moved (u := U) (U := U.calling g mk a) (Vm.Alike.refl U.vm) qK⟩, va_recv hKc hPc (ci := 10) (q0 := 0) rfl rfl, fun U hU hW => ⟨rfl, by rw [hU]; exact hPc, va_K.moved hW.alike hKc⟩⟩ rfl rfl hl.1 rfl (lv_room (Nat.le_of_ble_eq_true rfl)) dX10_meet_2 ⟨Nat.le_of_ble_eq_true rfl, Nat.le_of_ble_eq_true rfl⟩) hS (fun _ _ h => h.elim) (fun _ h => h.elim) (fun r1 u t H1 locs ht hvm hw hB hz1 hk1 hS => ?_)
  have hP := pw_keep hP (fun q hq => hk1 q hq (fun h => h))
  generalize H1 = H at hP hS ⊢
  refine W.widen (k := 0) (n := 0) (Nat.le_of_ble_eq_true rfl) (Nat.le_of_ble_eq_true rfl) ?_
  obtain rfl : r1 = 0 := hw
  refine lv_if_eq (tgt := 28) hx hb dX10_meet_5 (by decide) (fun c2 => ?_) (fun c2 => absurd (by decide) c2)
  refine lv_ldc hx hb hown (hts (.constant RX10 177 (-1000001)) (List.mem_of_getElem? (i := 15) rfl)) dX10_meet_28 ?_
  exact W.iret (v := (-1000001)) hx hb hr (fun t ht hW => ⟨⟨(-1000001), (), rfl, rfl, trivial⟩, hS.F ht⟩) hS.2.2 dX10_meet_30
def w_X10_could : List Cond := .code yX10_could cX10_could 5 (some .int) :: ([.methodLink RX10 228 yX10_isCitation, .instanceMethod yX10_isCitation, .selects RX10 yX10_isCitation yX10_isCitation, .initialized RX10, .code yX10_isCitation cX10_isCitation 2 (some .boolean), .constantLong RX10 213 (7), .methodLink RX10 51 yX10_in0, .static yX10_in0, .code yX10_in0 cX10_in0 6 (some .boolean), .methodLink RX10 215 yX10_cited, .instanceMethod yX10_cited, .selects RX10 yX10_cited yX10_cited, .code yX10_cited cX10_cited 3 (some .int), .fieldLink RX10 7 "LineCitesModel" "now" "[I", .constant RX10 177 (-1000001)] ++ wsX100)
set_option maxRecDepth 20000 in
theorem g_X10_could_X10_isCitation : GoodIn w_X10_could (wsV RX10 228 RX10 yX10_isCitation w_X10_isCitation) := goodIn_r _ [1, 2, 3, 4, 5, 6, 7, 8, 4, 9, 10, 11, 12, 13, 14, 16, 17, 18, 19, 20, 21, 22, 23, 24, 25, 26, 27, 28, 29, 30, 31, 32, 33, 34, 35, 36, 37, 38, 39, 40] rfl (by decide +kernel)
set_option maxHeartbeats 4000000 in
set_option maxRecDepth 100000 in
theorem c_X10_could (l : Launch) (D : va_G) (h0 : Nat) (i_0 : Int32) (i_1 : Int32) (m_now : Nat) (m_draft : Nat) (m_past : Nat) (m_images : Nat) (m_kept : Nat) (m_tape : Nat) (m_low : Nat) (m_high : Nat) (m_first : Nat) (m_second : Nat) (m_lines : Nat) (m_others : Nat) (k_n : ClassId) : Met l yX10_could w_X10_could ({ frames := 2, cells := 0, slots := 0, locals := 46 }) (va_Pc [.ref h0, .int i_0, .int i_1] (fun U => va_P D vwCl [(h0, .inr (10, [.ref m_now, .ref m_draft, .ref m_past, .int 0, .ref m_images, .ref m_kept, .ref m_tape, .int 0, .int 0, .int 0, .int 0, .int 0, .int 0, .int 0, .int 0, .ref m_low, .ref m_high, .ref m_first, .ref m_second, .ref m_lines, .ref m_others, .int 0, .int 0, .int 0, .int 0])), (m_now, .inl (k_n, 192, .inl (fun _ => 0)))] U.heap ∧ va_K D vwCl [(k_n, .int)] U)) (va_Qi (fun (r : Int32) (_ : Unit) => r = (-1000001)) (fun _ _ => True) (fun _ => False)) 0 0 (fun _ => False) := by
  refine Met.ofW (cc := cX10_could) (maxL := 5) (ret := (some .int)) (by decide) rfl ?_
  intro p e s m args below meth c s₁ B hml hv
  obtain ⟨rfl, hP, hK⟩ := hv
  have hx := B.exec
  have hb := B.bytes
  have hr := B.returns
  have hts := atoms_spec (ws := w_X10_could) B.pre
  have hown : s.vm.findClass RX10 = some m.cls := findClass_of_methodNamed B.named
  have hlocks := B.notSynchronized
  have hS : va_S (fun _ : Nat => False) s.heap s.heap [] := va_S.rf
  have hP : va_P D vwCl [(h0, .inr (10, [.ref m_now, .ref m_draft, .ref m_past, .int 0, .ref m_images, .ref m_kept, .ref m_tape, .int 0, .int 0, .int 0, .int 0, .int 0, .int 0, .int 0, .int 0, .ref m_low, .ref m_high, .ref m_first, .ref m_second, .ref m_lines, .ref m_others, .int 0, .int 0, .int 0, .int 0])), (m_now, .inl (k_n, 192, .inl (fun _ => 0)))] s.heap := hP
  have hl := lv_entry ([.ref h0, .int i_0, .int i_1]) (n := 5) (Nat.le_of_ble_eq_true rfl)
  rw [lg_entry_eq]
  generalize (lg_sl ([.ref h0, .int i_0, .int i_1]) ++ List.replicate (5 - (lg_sl ([.ref h0, .int i_0, .int i_1])).length) Slot.unset).toArray = ls at hl ⊢
  have hl : lv_has ls 5 [(0, .ref h0), (1, .int i_0), (2, .int i_1)] := hl
  obtain ⟨H, hHe⟩ : ∃ H : Heap, H = s.heap := ⟨_, rfl⟩
  rw [← hHe] at hP
  have hS : va_S (fun _ : Nat => False) s.heap H [] := by rw [hHe]; exact hS
  refine pw_heap hHe ?_
  refine lv_aload_n hx hb dX10_could_0 rfl (lv_at hl 0 rfl) ?_
  refine lv_iload_n hx hb dX10_could_1 rfl (lv_at hl 1 rfl) ?_
  have hPc := hP.sub (ws' := [(h0, .inr (10, [.ref m_now, .ref m_draft, .ref m_past, .int 0, .ref m_images, .ref m_kept, .ref m_tape, .int 0, .int 0, .int 0, .int 0, .int 0, .int 0, .int 0, .int 0, .ref m_low, .ref m_high, .ref m_first, .ref m_second, .ref m_lines, .ref m_others, .int 0, .int 0, .int 0, .int 0])), (m_now, .inl (k_n, 192, .inl (fun _ => 0)))]) [0, 1] rfl
  have hKc := hK.sub (tys' := [(k_n, .int)]) [0] rfl
  refine va_calli (va_runV (As := [.int i_0]) (rest := []) ⟨hx, hb, hml, hown, hts⟩ (c_X10_isCitation l D h0 i_0 m_now m_draft m_past m_images m_kept m_tape m_low m_high m_first m_second m_lines m_others k_n) (cwV 1 hts g_X10_could_X10_isCitation rfl rfl rfl (by decide +kernel) ⟨Nat.le_of_ble_eq_true rfl, Nat.le_of_ble_eq_true rfl⟩) ⟨fun a U g mk q => by obtain ⟨q0, qP, qK⟩ := q; exact ⟨q0, qP, va_K.moved (u := U) (U := U.calling g mk a) (Vm.Alike.refl U.vm) qK⟩, va_recv hKc hPc (ci := 10) (q0 := 0) rfl rfl, fun U hU hW => ⟨rfl, by rw [hU]; exact hPc, va_K.moved hW.alike hKc⟩⟩ rfl rfl hl.1 rfl (lv_room (Nat.le_of_ble_eq_true rfl)) dX10_could_2 ⟨Nat.le_of_ble_eq_true rfl, Nat.le_of_ble_eq_true rfl⟩) hS (fun _ _ h => h.elim) (fun _ h => h.elim) (fun r1 u t H1 locs ht hvm hw hB hz1 hk1 hS => ?_)
  have hP := pw_keep hP (fun q hq => hk1 q hq (fun h => h))
  generalize H1 = H at hP hS ⊢
  refine W.widen (k := 0) (n := 0) (Nat.le_of_ble_eq_true rfl) (Nat.le_of_ble_eq_true rfl) ?_
  obtain rfl : r1 = 0 := hw
  refine lv_if_eq (tgt := 16) hx hb dX10_could_5 (by decide) (fun c2 => ?_) (fun c2 => absurd (by decide) c2)
  refine lv_ldc hx hb hown (hts (.constant RX10 177 (-1000001)) (List.mem_of_getElem? (i := 15) rfl)) dX10_could_16 ?_
  exact W.iret (v := (-1000001)) hx hb hr (fun t ht hW => ⟨⟨(-1000001), (), rfl, rfl, trivial⟩, hS.F ht⟩) hS.2.2 dX10_could_18
def w_X10_best : List Cond := .code yX10_best cX10_best 6 (some .int) :: ([.methodLink RX10 47 yX10_isWork, .instanceMethod yX10_isWork, .selects RX10 yX10_isWork yX10_isWork, .initialized RX10, .code yX10_isWork cX10_isWork 1 (some .boolean), .fieldLink RX10 7 "LineCitesModel" "now" "[I", .constant RX10 198 (-1000002)] ++ wsX100)
set_option maxRecDepth 20000 in
theorem g_X10_best_X10_isWork : GoodIn w_X10_best (wsV RX10 47 RX10 yX10_isWork w_X10_isWork) := goodIn_r _ [1, 2, 3, 4, 5, 6, 8, 9, 10, 11, 12, 13, 14, 15, 16, 17, 18, 19, 20, 21, 22, 23, 24, 25, 26, 27, 28, 29, 30, 31, 32] rfl (by decide +kernel)
set_option maxHeartbeats 4000000 in
set_option maxRecDepth 100000 in
theorem c_X10_best (l : Launch) (D : va_G) (h0 : Nat) (m_now : Nat) (m_draft : Nat) (m_past : Nat) (m_images : Nat) (m_kept : Nat) (m_tape : Nat) (m_low : Nat) (m_high : Nat) (m_first : Nat) (m_second : Nat) (m_lines : Nat) (m_others : Nat) (k_n : ClassId) : Met l yX10_best w_X10_best ({ frames := 1, cells := 0, slots := 0, locals := 20 }) (va_Pc [.ref h0] (fun U => va_P D vwCl [(h0, .inr (10, [.ref m_now, .ref m_draft, .ref m_past, .int 0, .ref m_images, .ref m_kept, .ref m_tape, .int 0, .int 0, .int 0, .int 0, .int 0, .int 0, .int 0, .int 0, .ref m_low, .ref m_high, .ref m_first, .ref m_second, .ref m_lines, .ref m_others, .int 0, .int 0, .int 0, .int 0])), (m_now, .inl (k_n, 192, .inl (fun _ => 0)))] U.heap ∧ va_K D vwCl [(k_n, .int)] U)) (va_Qi (fun (r : Int32) (_ : Unit) => r = (-1000002)) (fun _ _ => True) (fun _ => False)) 0 0 (fun _ => False) := by
  refine Met.ofW (cc := cX10_best) (maxL := 6) (ret := (some .int)) (by decide) rfl ?_
  intro p e s m args below meth c s₁ B hml hv
  obtain ⟨rfl, hP, hK⟩ := hv
  have hx := B.exec
  have hb := B.bytes
  have hr := B.returns
  have hts := atoms_spec (ws := w_X10_best) B.pre
  have hown : s.vm.findClass RX10 = some m.cls := findClass_of_methodNamed B.named
  have hlocks := B.notSynchronized
  have hS : va_S (fun _ : Nat => False) s.heap s.heap [] := va_S.rf
  have hP : va_P D vwCl [(h0, .inr (10, [.ref m_now, .ref m_draft, .ref m_past, .int 0, .ref m_images, .ref m_kept, .ref m_tape, .int 0, .int 0, .int 0, .int 0, .int 0, .int 0, .int 0, .int 0, .ref m_low, .ref m_high, .ref m_first, .ref m_second, .ref m_lines, .ref m_others, .int 0, .int 0, .int 0, .int 0])), (m_now, .inl (k_n, 192, .inl (fun _ => 0)))] s.heap := hP
  have hl := lv_entry ([.ref h0]) (n := 6) (Nat.le_of_ble_eq_true rfl)
  rw [lg_entry_eq]
  generalize (lg_sl ([.ref h0]) ++ List.replicate (6 - (lg_sl ([.ref h0])).length) Slot.unset).toArray = ls at hl ⊢
  have hl : lv_has ls 6 [(0, .ref h0)] := hl
  obtain ⟨H, hHe⟩ : ∃ H : Heap, H = s.heap := ⟨_, rfl⟩
  rw [← hHe] at hP
  have hS : va_S (fun _ : Nat => False) s.heap H [] := by rw [hHe]; exact hS
  refine pw_heap hHe ?_
  refine lv_aload_n hx hb dX10_best_0 rfl (lv_at hl 0 rfl) ?_
  have hPc := hP.sub (ws' := [(h0, .inr (10, [.ref m_now, .ref m_draft, .ref m_past, .int 0, .ref m_images, .ref m_kept, .ref m_tape, .int 0, .int 0, .int 0, .int 0, .int 0, .int 0, .int 0, .int 0, .ref m_low, .ref m_high, .ref m_first, .ref m_second, .ref m_lines, .ref m_others, .int 0, .int 0, .int 0, .int 0])), (m_now, .inl (k_n, 192, .inl (fun _ => 0)))]) [0, 1] rfl
  have hKc := hK.sub (tys' := [(k_n, .int)]) [0] rfl
  refine va_calli (va_runV (As := []) (rest := []) ⟨hx, hb, hml, hown, hts⟩ (c_X10_isWork l D h0 m_now m_draft m_past m_images m_kept m_tape m_low m_high m_first m_second m_lines m_others k_n) (cwV 0 hts g_X10_best_X10_isWork rfl rfl rfl (by decide +kernel) ⟨Nat.le_of_ble_eq_true rfl, Nat.le_of_ble_eq_true rfl⟩) ⟨fun a U g mk q => by obtain ⟨q0, qP, qK⟩ := q; exact ⟨q0, qP, va_K.moved (u := U) (U := U.calling g mk a) (Vm.Alike.refl U.vm) qK⟩, va_recv hKc hPc (ci := 10) (q0 := 0) rfl rfl, fun U hU hW => ⟨rfl, by rw [hU]; exact hPc, va_K.moved hW.alike hKc⟩⟩ rfl rfl hl.1 rfl (lv_room (Nat.le_of_ble_eq_true rfl)) dX10_best_1 ⟨Nat.le_of_ble_eq_true rfl, Nat.le_of_ble_eq_true rfl⟩) hS (fun _ _ h => h.elim) (fun _ h => h.elim) (fun r1 u t H1 locs ht hvm hw hB hz1 hk1 hS => ?_)
  have hP := pw_keep hP (fun q hq => hk1 q hq (fun h => h))
  generalize H1 = H at hP hS ⊢
  refine W.widen (k := 0) (n := 0) (Nat.le_of_ble_eq_true rfl) (Nat.le_of_ble_eq_true rfl) ?_
  obtain rfl : r1 = 0 := hw
  refine lv_if_ne (tgt := 10) hx hb dX10_best_4 (by decide) (fun c2 => absurd (by decide) c2) (fun c2 => ?_)
  refine lv_ldc hx hb hown (hts (.constant RX10 198 (-1000002)) (List.mem_of_getElem? (i := 7) rfl)) dX10_best_7 ?_
  exact W.iret (v := (-1000002)) hx hb hr (fun t ht hW => ⟨⟨(-1000002), (), rfl, rfl, trivial⟩, hS.F ht⟩) hS.2.2 dX10_best_9
def w_X10_image : List Cond := .code yX10_image cX10_image 2 (some .int) :: ([.methodLink RX10 51 yX10_in0, .static yX10_in0, .initialized RX10, .code yX10_in0 cX10_in0 6 (some .boolean), .methodLink RX10 47 yX10_isWork, .instanceMethod yX10_isWork, .selects RX10 yX10_isWork yX10_isWork, .code yX10_isWork cX10_isWork 1 (some .boolean), .fieldLink RX10 7 "LineCitesModel" "now" "[I", .constant RX10 198 (-1000002), .constant RX10 177 (-1000001)] ++ wsX100)
set_option maxRecDepth 20000 in
theorem g_X10_image_X10_in0 : GoodIn w_X10_image (wsS RX10 51 yX10_in0 w_X10_in0) := goodIn_r _ [1, 2, 3, 4] rfl (by decide +kernel)
set_option maxRecDepth 20000 in
theorem g_X10_image_X10_isWork : GoodIn w_X10_image (wsV RX10 47 RX10 yX10_isWork w_X10_isWork) := goodIn_r _ [5, 6, 7, 3, 8, 9, 12, 13, 14, 15, 16, 17, 18, 19, 20, 21, 22, 23, 24, 25, 26, 27, 28, 29, 30, 31, 32, 33, 34, 35, 36] rfl (by decide +kernel)
set_option maxHeartbeats 4000000 in
set_option maxRecDepth 100000 in
theorem c_X10_image (l : Launch) (D : va_G) (h0 : Nat) (i_0 : Int32) (m_now : Nat) (m_draft : Nat) (m_past : Nat) (m_images : Nat) (m_kept : Nat) (m_tape : Nat) (m_low : Nat) (m_high : Nat) (m_first : Nat) (m_second : Nat) (m_lines : Nat) (m_others : Nat) (k_n : ClassId) : Met l yX10_image w_X10_image ({ frames := 1, cells := 0, slots := 0, locals := 25 }) (va_Pc [.ref h0, .int i_0] (fun U => va_P D vwCl [(h0, .inr (10, [.ref m_now, .ref m_draft, .ref m_past, .int 0, .ref m_images, .ref m_kept, .ref m_tape, .int 0, .int 0, .int 0, .int 0, .int 0, .int 0, .int 0, .int 0, .ref m_low, .ref m_high, .ref m_first, .ref m_second, .ref m_lines, .ref m_others, .int 0, .int 0, .int 0, .int 0])), (m_now, .inl (k_n, 192, .inl (fun _ => 0)))] U.heap ∧ va_K D vwCl [(k_n, .int)] U)) (va_Qi (fun (r : Int32) (_ : Unit) => r = sp_rng i_0 1 (-1000002) (-1000001)) (fun _ _ => True) (fun _ => False)) 0 0 (fun _ => False) := by
  refine Met.ofW (cc := cX10_image) (maxL := 2) (ret := (some .int)) (by decide) rfl ?_
  intro p e s m args below meth c s₁ B hml hv
  obtain ⟨rfl, hP, hK⟩ := hv
  have hx := B.exec
  have hb := B.bytes
  have hr := B.returns
  have hts := atoms_spec (ws := w_X10_image) B.pre
  have hown : s.vm.findClass RX10 = some m.cls := findClass_of_methodNamed B.named
  have hlocks := B.notSynchronized
  have hS : va_S (fun _ : Nat => False) s.heap s.heap [] := va_S.rf
  have hP : va_P D vwCl [(h0, .inr (10, [.ref m_now, .ref m_draft, .ref m_past, .int 0, .ref m_images, .ref m_kept, .ref m_tape, .int 0, .int 0, .int 0, .int 0, .int 0, .int 0, .int 0, .int 0, .ref m_low, .ref m_high, .ref m_first, .ref m_second, .ref m_lines, .ref m_others, .int 0, .int 0, .int 0, .int 0])), (m_now, .inl (k_n, 192, .inl (fun _ => 0)))] s.heap := hP
  have hl := lv_entry ([.ref h0, .int i_0]) (n := 2) (Nat.le_of_ble_eq_true rfl)
  rw [lg_entry_eq]
  generalize (lg_sl ([.ref h0, .int i_0]) ++ List.replicate (2 - (lg_sl ([.ref h0, .int i_0])).length) Slot.unset).toArray = ls at hl ⊢
  have hl : lv_has ls 2 [(0, .ref h0), (1, .int i_0)] := hl
  obtain ⟨H, hHe⟩ : ∃ H : Heap, H = s.heap := ⟨_, rfl⟩
  rw [← hHe] at hP
  have hS : va_S (fun _ : Nat => False) s.heap H [] := by rw [hHe]; exact hS
  refine pw_heap hHe ?_
  refine lv_iload_n hx hb dX10_image_0 rfl (lv_at hl 1 rfl) ?_
  refine lv_i2l (v := i_0.toInt64) hx hb dX10_image_1 rfl ?_
  refine lv_lconst (v := 0) hx hb dX10_image_2 (by decide) ?_
  refine lv_lconst (v := 1) hx hb dX10_image_3 (by decide) ?_
  have hPc := hP.sub (ws' := []) [] rfl
  have hKc := hK.sub (tys' := []) [] rfl
  refine va_calli (va_runS (As := [.long i_0.toInt64, .long 0, .long 1]) (rest := []) ⟨hx, hb, hml, hown, hts⟩ (c_X10_in0 l D i_0.toInt64 0 1) (cwS 3 hts g_X10_image_X10_in0 rfl rfl rfl (by decide +kernel) ⟨Nat.le_of_ble_eq_true rfl, Nat.le_of_ble_eq_true rfl⟩) ⟨fun a U g mk q => by obtain ⟨q0, qP, qK⟩ := q; exact ⟨q0, qP, va_K.moved (u := U) (U := U.calling g mk a) (Vm.Alike.refl U.vm) qK⟩, fun U hU hW => ⟨rfl, by rw [hU]; exact hPc, va_K.moved hW.alike hKc⟩⟩ rfl rfl hl.1 rfl (lv_room (Nat.le_of_ble_eq_true rfl)) dX10_image_4 ⟨Nat.le_of_ble_eq_true rfl, Nat.le_of_ble_eq_true rfl⟩) hS (fun _ _ h => h.elim) (fun _ h => h.elim) (fun r1 u t H1 locs ht hvm hw hB hz1 hk1 hS => ?_)
  have hP := pw_keep hP (fun q hq => hk1 q hq (fun h => h))
  generalize H1 = H at hP hS ⊢
  refine W.widen (k := 0) (n := 0) (Nat.le_of_ble_eq_true rfl) (Nat.le_of_ble_eq_true rfl) ?_
  rcases hw with ⟨rfl, r1h0, r1h1⟩ | ⟨rfl, r1h0⟩
  · have nr1 : 0 ≤ i_0.toInt ∧ i_0.toInt ≤ 1 := pw_in0 r1h0 r1h1 (by decide) (by decide)
    refine lv_if_ne (tgt := 13) hx hb dX10_image_7 (by decide) (fun c2 => ?_) (fun c2 => absurd c2 (by decide))
    refine lv_aload_n hx hb dX10_image_13 rfl (lv_at hl 0 rfl) ?_
    have hPc := hP.sub (ws' := [(h0, .inr (10, [.ref m_now, .ref m_draft, .ref m_past, .int 0, .ref m_images, .ref m_kept, .ref m_tape, .int 0, .int 0, .int 0, .int 0, .int 0, .int 0, .int 0, .int 0, .ref m_low, .ref m_high, .ref m_first, .ref m_second, .ref m_lines, .ref m_others, .int 0, .int 0, .int 0, .int 0])), (m_now, .inl (k_n, 192, .inl (fun _ => 0)))]) [0, 1] rfl
    have hKc := hK.sub (tys' := [(k_n, .int)]) [0] rfl
    refine va_calli (va_runV (As := []) (rest := []) ⟨hx, hb, hml, hown, hts⟩ (c_X10_isWork l D h0 m_now m_draft m_past m_images m_kept m_tape m_low m_high m_first m_second m_lines m_others k_n) (cwV 0 hts g_X10_image_X10_isWork rfl rfl rfl (by decide +kernel) ⟨Nat.le_of_ble_eq_true rfl, Nat.le_of_ble_eq_true rfl⟩) ⟨fun a U g mk q => by obtain ⟨q0, qP, qK⟩ := q; exact ⟨q0, qP, va_K.moved (u := U) (U := U.calling g mk a) (Vm.Alike.refl U.vm) qK⟩, va_recv hKc hPc (ci := 10) (q0 := 0) rfl rfl, fun U hU hW => ⟨rfl, by rw [hU]; exact hPc, va_K.moved hW.alike hKc⟩⟩ rfl rfl hl.1 rfl (lv_room (Nat.le_of_ble_eq_true rfl)) dX10_image_14 ⟨Nat.le_of_ble_eq_true rfl, Nat.le_of_ble_eq_true rfl⟩) hS (fun _ _ h => h.elim) (fun _ h => h.elim) (fun r3 u t H1 locs ht hvm hw hB hz1 hk1 hS => ?_)
    have hP := pw_keep hP (fun q hq => hk1 q hq (fun h => h))
    generalize H1 = H at hP hS ⊢
    refine W.widen (k := 0) (n := 0) (Nat.le_of_ble_eq_true rfl) (Nat.le_of_ble_eq_true rfl) ?_
    obtain rfl : r3 = 0 := hw
    refine lv_if_ne (tgt := 23) hx hb dX10_image_17 (by decide) (fun c4 => absurd (by decide) c4) (fun c4 => ?_)
    refine lv_ldc hx hb hown (hts (.constant RX10 198 (-1000002)) (List.mem_of_getElem? (i := 10) rfl)) dX10_image_20 ?_
    exact W.iret (v := (-1000002)) hx hb hr (fun t ht hW => ⟨⟨(-1000002), (), rfl, sp_in (by omega) (by omega), trivial⟩, hS.F ht⟩) hS.2.2 dX10_image_22
  · have nr1 : ¬ (0 ≤ i_0.toInt ∧ i_0.toInt ≤ 1) := pw_nin0 r1h0 (by decide) (by decide)
    refine lv_if_ne (tgt := 13) hx hb dX10_image_7 (by decide) (fun c5 => absurd (by decide) c5) (fun c5 => ?_)
    refine lv_ldc hx hb hown (hts (.constant RX10 177 (-1000001)) (List.mem_of_getElem? (i := 11) rfl)) dX10_image_10 ?_
    exact W.iret (v := (-1000001)) hx hb hr (fun t ht hW => ⟨⟨(-1000001), (), rfl, sp_out (by omega), trivial⟩, hS.F ht⟩) hS.2.2 dX10_image_12
def w_X10_restore : List Cond := .code yX10_restore cX10_restore 2 (some .int) :: ([.methodLink RX10 51 yX10_in0, .static yX10_in0, .initialized RX10, .code yX10_in0 cX10_in0 6 (some .boolean), .fieldLink RX10 22 "LineCitesModel" "kept" "[Z", .constant RX10 198 (-1000002), .constant RX10 177 (-1000001)] ++ wsX100)
set_option maxRecDepth 20000 in
theorem g_X10_restore_X10_in0 : GoodIn w_X10_restore (wsS RX10 51 yX10_in0 w_X10_in0) := goodIn_r _ [1, 2, 3, 4] rfl (by decide +kernel)
set_option maxHeartbeats 4000000 in
set_option maxRecDepth 100000 in
theorem c_X10_restore (l : Launch) (D : va_G) (h0 : Nat) (i_0 : Int32) (m_now : Nat) (m_draft : Nat) (m_past : Nat) (m_images : Nat) (m_kept : Nat) (m_tape : Nat) (m_low : Nat) (m_high : Nat) (m_first : Nat) (m_second : Nat) (m_lines : Nat) (m_others : Nat) (k_k : ClassId) : Met l yX10_restore w_X10_restore ({ frames := 1, cells := 0, slots := 0, locals := 25 }) (va_Pc [.ref h0, .int i_0] (fun U => va_P D vwCl [(h0, .inr (10, [.ref m_now, .ref m_draft, .ref m_past, .int 0, .ref m_images, .ref m_kept, .ref m_tape, .int 0, .int 0, .int 0, .int 0, .int 0, .int 0, .int 0, .int 0, .ref m_low, .ref m_high, .ref m_first, .ref m_second, .ref m_lines, .ref m_others, .int 0, .int 0, .int 0, .int 0])), (m_kept, .inl (k_k, 2, .inl (fun _ => 0)))] U.heap ∧ va_K D vwCl [(k_k, .boolean)] U)) (va_Qi (fun (r : Int32) (_ : Unit) => r = sp_rng i_0 1 (-1000002) (-1000001)) (fun _ _ => True) (fun _ => False)) 0 0 (fun _ => False) := by
  refine Met.ofW (cc := cX10_restore) (maxL := 2) (ret := (some .int)) (by decide) rfl ?_
  intro p e s m args below meth c s₁ B hml hv
  obtain ⟨rfl, hP, hK⟩ := hv
  have hx := B.exec
  have hb := B.bytes
  have hr := B.returns
  have hts := atoms_spec (ws := w_X10_restore) B.pre
  have hown : s.vm.findClass RX10 = some m.cls := findClass_of_methodNamed B.named
  have hlocks := B.notSynchronized
  have hS : va_S (fun _ : Nat => False) s.heap s.heap [] := va_S.rf
  have hP : va_P D vwCl [(h0, .inr (10, [.ref m_now, .ref m_draft, .ref m_past, .int 0, .ref m_images, .ref m_kept, .ref m_tape, .int 0, .int 0, .int 0, .int 0, .int 0, .int 0, .int 0, .int 0, .ref m_low, .ref m_high, .ref m_first, .ref m_second, .ref m_lines, .ref m_others, .int 0, .int 0, .int 0, .int 0])), (m_kept, .inl (k_k, 2, .inl (fun _ => 0)))] s.heap := hP
  have hl := lv_entry ([.ref h0, .int i_0]) (n := 2) (Nat.le_of_ble_eq_true rfl)
  rw [lg_entry_eq]
  generalize (lg_sl ([.ref h0, .int i_0]) ++ List.replicate (2 - (lg_sl ([.ref h0, .int i_0])).length) Slot.unset).toArray = ls at hl ⊢
  have hl : lv_has ls 2 [(0, .ref h0), (1, .int i_0)] := hl
  obtain ⟨H, hHe⟩ : ∃ H : Heap, H = s.heap := ⟨_, rfl⟩
  rw [← hHe] at hP
  have hS : va_S (fun _ : Nat => False) s.heap H [] := by rw [hHe]; exact hS
  refine pw_heap hHe ?_
  refine lv_iload_n hx hb dX10_restore_0 rfl (lv_at hl 1 rfl) ?_
  refine lv_i2l (v := i_0.toInt64) hx hb dX10_restore_1 rfl ?_
  refine lv_lconst (v := 0) hx hb dX10_restore_2 (by decide) ?_
  refine lv_lconst (v := 1) hx hb dX10_restore_3 (by decide) ?_
  have hPc := hP.sub (ws' := []) [] rfl
  have hKc := hK.sub (tys' := []) [] rfl
  refine va_calli (va_runS (As := [.long i_0.toInt64, .long 0, .long 1]) (rest := []) ⟨hx, hb, hml, hown, hts⟩ (c_X10_in0 l D i_0.toInt64 0 1) (cwS 3 hts g_X10_restore_X10_in0 rfl rfl rfl (by decide +kernel) ⟨Nat.le_of_ble_eq_true rfl, Nat.le_of_ble_eq_true rfl⟩) ⟨fun a U g mk q => by obtain ⟨q0, qP, qK⟩ := q; exact ⟨q0, qP, va_K.moved (u := U) (U := U.calling g mk a) (Vm.Alike.refl U.vm) qK⟩, fun U hU hW => ⟨rfl, by rw [hU]; exact hPc, va_K.moved hW.alike hKc⟩⟩ rfl rfl hl.1 rfl (lv_room (Nat.le_of_ble_eq_true rfl)) dX10_restore_4 ⟨Nat.le_of_ble_eq_true rfl, Nat.le_of_ble_eq_true rfl⟩) hS (fun _ _ h => h.elim) (fun _ h => h.elim) (fun r1 u t H1 locs ht hvm hw hB hz1 hk1 hS => ?_)
  have hP := pw_keep hP (fun q hq => hk1 q hq (fun h => h))
  generalize H1 = H at hP hS ⊢
  refine W.widen (k := 0) (n := 0) (Nat.le_of_ble_eq_true rfl) (Nat.le_of_ble_eq_true rfl) ?_
  rcases hw with ⟨rfl, r1h0, r1h1⟩ | ⟨rfl, r1h0⟩
  · have nr1 : 0 ≤ i_0.toInt ∧ i_0.toInt ≤ 1 := pw_in0 r1h0 r1h1 (by decide) (by decide)
    refine lv_if_ne (tgt := 13) hx hb dX10_restore_7 (by decide) (fun c2 => ?_) (fun c2 => absurd c2 (by decide))
    refine lv_aload_n hx hb dX10_restore_13 rfl (lv_at hl 0 rfl) ?_
    refine va_get (D := D) (ci := 10) (v := .ref m_kept) (C := RX10) (T := TX10) (N := 25) hx hb hts (fun _ h => List.mem_cons_of_mem _ (List.mem_append_right _ h)) hown hK hP 0 rfl rfl 5 (by decide) (hts (.fieldLink RX10 22 "LineCitesModel" "kept" "[Z") (List.mem_of_getElem? (i := 5) rfl)) (fun _ h9 => h9) rfl dX10_restore_14 ?_
    refine lv_iload_n hx hb dX10_restore_17 rfl (lv_at hl 1 rfl) ?_
    refine va_zald hx hb hK hP 1 0 rfl rfl (vp_in_iff.mpr ⟨by omega, by omega⟩) dX10_restore_18 ?_
    refine lv_topi (fun x3 ex3 => ?_)
    obtain rfl : x3 = 0 := ex3
    refine lv_if_ne (tgt := 25) hx hb dX10_restore_19 (by decide) (fun c4 => absurd (by decide) c4) (fun c4 => ?_)
    refine lv_ldc hx hb hown (hts (.constant RX10 198 (-1000002)) (List.mem_of_getElem? (i := 6) rfl)) dX10_restore_22 ?_
    exact W.iret (v := (-1000002)) hx hb hr (fun t ht hW => ⟨⟨(-1000002), (), rfl, sp_in (by omega) (by omega), trivial⟩, hS.F ht⟩) hS.2.2 dX10_restore_24
  · have nr1 : ¬ (0 ≤ i_0.toInt ∧ i_0.toInt ≤ 1) := pw_nin0 r1h0 (by decide) (by decide)
    refine lv_if_ne (tgt := 13) hx hb dX10_restore_7 (by decide) (fun c5 => absurd (by decide) c5) (fun c5 => ?_)
    refine lv_ldc hx hb hown (hts (.constant RX10 177 (-1000001)) (List.mem_of_getElem? (i := 7) rfl)) dX10_restore_10 ?_
    exact W.iret (v := (-1000001)) hx hb hr (fun t ht hW => ⟨⟨(-1000001), (), rfl, sp_out (by omega), trivial⟩, hS.F ht⟩) hS.2.2 dX10_restore_12
def w_X10_count : List Cond := .code yX10_count cX10_count 2 (some .int) :: ([.constant RX10 177 (-1000001), .fieldLink RX10 7 "LineCitesModel" "now" "[I", .methodLink RX10 295 yX10_allStretches, .instanceMethod yX10_allStretches, .selects RX10 yX10_allStretches yX10_allStretches, .initialized RX10, .code yX10_allStretches cX10_allStretches 3 (some .int), .methodLink RX10 231 yX10_citations, .instanceMethod yX10_citations, .selects RX10 yX10_citations yX10_citations, .code yX10_citations cX10_citations 3 (some .int), .methodLink RX10 215 yX10_cited, .instanceMethod yX10_cited, .selects RX10 yX10_cited yX10_cited, .code yX10_cited cX10_cited 3 (some .int), .fieldLink RX10 195 "LineCitesModel" "acts" "I", .fieldLink RX10 95 "LineCitesModel" "taped" "I"] ++ wsX100)
set_option maxRecDepth 20000 in
theorem g_X10_count_X10_allStretches : GoodIn w_X10_count (wsV RX10 295 RX10 yX10_allStretches w_X10_allStretches) := goodIn_r _ [3, 4, 5, 6, 7, 2, 18, 19, 20, 21, 22, 23, 24, 25, 26, 27, 28, 29, 30, 31, 32, 33, 34, 35, 36, 37, 38, 39, 40, 41, 42] rfl (by decide +kernel)
set_option maxRecDepth 20000 in
theorem g_X10_count_X10_citations : GoodIn w_X10_count (wsV RX10 231 RX10 yX10_citations w_X10_citations) := goodIn_r _ [8, 9, 10, 6, 11, 12, 13, 14, 6, 15, 2, 18, 19, 20, 21, 22, 23, 24, 25, 26, 27, 28, 29, 30, 31, 32, 33, 34, 35, 36, 37, 38, 39, 40, 41, 42] rfl (by decide +kernel)
set_option maxHeartbeats 4000000 in
set_option maxRecDepth 100000 in
theorem c_X10_count (l : Launch) (D : va_G) (h0 : Nat) (i_0 : Int32) (m_now : Nat) (m_draft : Nat) (m_past : Nat) (m_images : Nat) (m_kept : Nat) (m_tape : Nat) (m_low : Nat) (m_high : Nat) (m_first : Nat) (m_second : Nat) (m_lines : Nat) (m_others : Nat) (k_n : ClassId) : Met l yX10_count w_X10_count ({ frames := 2, cells := 0, slots := 0, locals := 44 }) (va_Pc [.ref h0, .int i_0] (fun U => va_P D vwCl [(h0, .inr (10, [.ref m_now, .ref m_draft, .ref m_past, .int 0, .ref m_images, .ref m_kept, .ref m_tape, .int 0, .int 0, .int 0, .int 0, .int 0, .int 0, .int 0, .int 0, .ref m_low, .ref m_high, .ref m_first, .ref m_second, .ref m_lines, .ref m_others, .int 0, .int 0, .int 0, .int 0])), (m_now, .inl (k_n, 192, .inl (fun _ => 0)))] U.heap ∧ va_K D vwCl [(k_n, .int)] U)) (va_Qi (fun (r : Int32) (_ : Unit) => r = sp_rng i_0 6 0 (-1000001)) (fun _ _ => True) (fun _ => False)) 0 0 (fun _ => False) := by
  refine Met.ofW (cc := cX10_count) (maxL := 2) (ret := (some .int)) (by decide) rfl ?_
  intro p e s m args below meth c s₁ B hml hv
  obtain ⟨rfl, hP, hK⟩ := hv
  have hx := B.exec
  have hb := B.bytes
  have hr := B.returns
  have hts := atoms_spec (ws := w_X10_count) B.pre
  have hown : s.vm.findClass RX10 = some m.cls := findClass_of_methodNamed B.named
  have hlocks := B.notSynchronized
  have hS : va_S (fun _ : Nat => False) s.heap s.heap [] := va_S.rf
  have hP : va_P D vwCl [(h0, .inr (10, [.ref m_now, .ref m_draft, .ref m_past, .int 0, .ref m_images, .ref m_kept, .ref m_tape, .int 0, .int 0, .int 0, .int 0, .int 0, .int 0, .int 0, .int 0, .ref m_low, .ref m_high, .ref m_first, .ref m_second, .ref m_lines, .ref m_others, .int 0, .int 0, .int 0, .int 0])), (m_now, .inl (k_n, 192, .inl (fun _ => 0)))] s.heap := hP
  have hl := lv_entry ([.ref h0, .int i_0]) (n := 2) (Nat.le_of_ble_eq_true rfl)
  rw [lg_entry_eq]
  generalize (lg_sl ([.ref h0, .int i_0]) ++ List.replicate (2 - (lg_sl ([.ref h0, .int i_0])).length) Slot.unset).toArray = ls at hl ⊢
  have hl : lv_has ls 2 [(0, .ref h0), (1, .int i_0)] := hl
  obtain ⟨H, hHe⟩ : ∃ H : Heap, H = s.heap := ⟨_, rfl⟩
  rw [← hHe] at hP
  have hS : va_S (fun _ : Nat => False) s.heap H [] := by rw [hHe]; exact hS
  refine pw_heap hHe ?_
  refine lv_iload_n hx hb dX10_count_0 rfl (lv_at hl 1 rfl) ?_
  rcases pw_sw7 i_0 with h8 | rfl | rfl | rfl | rfl | rfl | rfl | rfl
  · refine lv_tableOut (tgt := 85) hx hb dX10_count_1 h8 (by decide) ?_
    refine lv_ldc hx hb hown (hts (.constant RX10 177 (-1000001)) (List.mem_of_getElem? (i := 1) rfl)) dX10_count_85 ?_
    exact W.iret (v := (-1000001)) hx hb hr (fun t ht hW => ⟨⟨(-1000001), (), rfl, sp_out (by omega), trivial⟩, hS.F ht⟩) hS.2.2 dX10_count_87
  · refine lv_tableIn (tgt := 44) hx hb dX10_count_1 (by decide) (by decide) rfl (by decide) ?_
    refine lv_aload_n hx hb dX10_count_44 rfl (lv_at hl 0 rfl) ?_
    refine va_get (D := D) (ci := 10) (v := .ref m_now) (C := RX10) (T := TX10) (N := 25) hx hb hts (fun _ h => List.mem_cons_of_mem _ (List.mem_append_right _ h)) hown hK hP 0 rfl rfl 0 (by decide) (hts (.fieldLink RX10 7 "LineCitesModel" "now" "[I") (List.mem_of_getElem? (i := 2) rfl)) (fun _ h9 => h9) rfl dX10_count_45 ?_
    refine lv_iconst (v := 0) hx hb dX10_count_48 (by decide) ?_
    refine va_iald hx hb hK hP 1 0 rfl rfl (vp_in_iff.mpr (by decide)) dX10_count_49 ?_
    refine lv_topi (fun x1 ex1 => ?_)
    obtain rfl : x1 = 0 := ex1
    exact W.iret (v := 0) hx hb hr (fun t ht hW => ⟨⟨0, (), rfl, rfl, trivial⟩, hS.F ht⟩) hS.2.2 dX10_count_50
  · refine lv_tableIn (tgt := 51) hx hb dX10_count_1 (by decide) (by decide) rfl (by decide) ?_
    refine lv_aload_n hx hb dX10_count_51 rfl (lv_at hl 0 rfl) ?_
    refine va_get (D := D) (ci := 10) (v := .ref m_now) (C := RX10) (T := TX10) (N := 25) hx hb hts (fun _ h => List.mem_cons_of_mem _ (List.mem_append_right _ h)) hown hK hP 0 rfl rfl 0 (by decide) (hts (.fieldLink RX10 7 "LineCitesModel" "now" "[I") (List.mem_of_getElem? (i := 2) rfl)) (fun _ h9 => h9) rfl dX10_count_52 ?_
    refine lv_iconst (v := 1) hx hb dX10_count_55 (by decide) ?_
    refine va_iald hx hb hK hP 1 0 rfl rfl (vp_in_iff.mpr (by decide)) dX10_count_56 ?_
    refine lv_topi (fun x2 ex2 => ?_)
    obtain rfl : x2 = 0 := ex2
    exact W.iret (v := 0) hx hb hr (fun t ht hW => ⟨⟨0, (), rfl, rfl, trivial⟩, hS.F ht⟩) hS.2.2 dX10_count_57
  · refine lv_tableIn (tgt := 58) hx hb dX10_count_1 (by decide) (by decide) rfl (by decide) ?_
    refine lv_aload_n hx hb dX10_count_58 rfl (lv_at hl 0 rfl) ?_
    have hPc := hP.sub (ws' := [(h0, .inr (10, [.ref m_now, .ref m_draft, .ref m_past, .int 0, .ref m_images, .ref m_kept, .ref m_tape, .int 0, .int 0, .int 0, .int 0, .int 0, .int 0, .int 0, .int 0, .ref m_low, .ref m_high, .ref m_first, .ref m_second, .ref m_lines, .ref m_others, .int 0, .int 0, .int 0, .int 0])), (m_now, .inl (k_n, 192, .inl (fun _ => 0)))]) [0, 1] rfl
    have hKc := hK.sub (tys' := [(k_n, .int)]) [0] rfl
    refine va_calli (va_runV (As := []) (rest := []) ⟨hx, hb, hml, hown, hts⟩ (c_X10_allStretches l D h0 m_now m_draft m_past m_images m_kept m_tape m_low m_high m_first m_second m_lines m_others k_n) (cwV 0 hts g_X10_count_X10_allStretches rfl rfl rfl (by decide +kernel) ⟨Nat.le_of_ble_eq_true rfl, Nat.le_of_ble_eq_true rfl⟩) ⟨fun a U g mk q => by obtain ⟨q0, qP, qK⟩ := q; exact ⟨q0, qP, va_K.moved (u := U) (U := U.calling g mk a) (Vm.Alike.refl U.vm) qK⟩, va_recv hKc hPc (ci := 10) (q0 := 0) rfl rfl, fun U hU hW => ⟨rfl, by rw [hU]; exact hPc, va_K.moved hW.alike hKc⟩⟩ rfl rfl hl.1 rfl (lv_room (Nat.le_of_ble_eq_true rfl)) dX10_count_59 ⟨Nat.le_of_ble_eq_true rfl, Nat.le_of_ble_eq_true rfl⟩) hS (fun _ _ h => h.elim) (fun _ h => h.elim) (fun r3 u t H1 locs ht hvm hw hB hz1 hk1 hS => ?_)
    have hP := pw_keep hP (fun q hq => hk1 q hq (fun h => h))
    generalize H1 = H at hP hS ⊢
    refine W.widen (k := 0) (n := 0) (Nat.le_of_ble_eq_true rfl) (Nat.le_of_ble_eq_true rfl) ?_
    obtain rfl : r3 = 0 := hw
    exact W.iret (v := 0) hx hb hr (fun t ht hW => ⟨⟨0, (), rfl, rfl, trivial⟩, hS.F ht⟩) hS.2.2 dX10_count_62
  · refine lv_tableIn (tgt := 63) hx hb dX10_count_1 (by decide) (by decide) rfl (by decide) ?_
    refine lv_aload_n hx hb dX10_count_63 rfl (lv_at hl 0 rfl) ?_
    have hPc := hP.sub (ws' := [(h0, .inr (10, [.ref m_now, .ref m_draft, .ref m_past, .int 0, .ref m_images, .ref m_kept, .ref m_tape, .int 0, .int 0, .int 0, .int 0, .int 0, .int 0, .int 0, .int 0, .ref m_low, .ref m_high, .ref m_first, .ref m_second, .ref m_lines, .ref m_others, .int 0, .int 0, .int 0, .int 0])), (m_now, .inl (k_n, 192, .inl (fun _ => 0)))]) [0, 1] rfl
    have hKc := hK.sub (tys' := [(k_n, .int)]) [0] rfl
    refine va_calli (va_runV (As := []) (rest := []) ⟨hx, hb, hml, hown, hts⟩ (c_X10_citations l D h0 m_now m_draft m_past m_images m_kept m_tape m_low m_high m_first m_second m_lines m_others k_n) (cwV 0 hts g_X10_count_X10_citations rfl rfl rfl (by decide +kernel) ⟨Nat.le_of_ble_eq_true rfl, Nat.le_of_ble_eq_true rfl⟩) ⟨fun a U g mk q => by obtain ⟨q0, qP, qK⟩ := q; exact ⟨q0, qP, va_K.moved (u := U) (U := U.calling g mk a) (Vm.Alike.refl U.vm) qK⟩, va_recv hKc hPc (ci := 10) (q0 := 0) rfl rfl, fun U hU hW => ⟨rfl, by rw [hU]; exact hPc, va_K.moved hW.alike hKc⟩⟩ rfl rfl hl.1 rfl (lv_room (Nat.le_of_ble_eq_true rfl)) dX10_count_64 ⟨Nat.le_of_ble_eq_true rfl, Nat.le_of_ble_eq_true rfl⟩) hS (fun _ _ h => h.elim) (fun _ h => h.elim) (fun r4 u t H1 locs ht hvm hw hB hz1 hk1 hS => ?_)
    have hP := pw_keep hP (fun q hq => hk1 q hq (fun h => h))
    generalize H1 = H at hP hS ⊢
    refine W.widen (k := 0) (n := 0) (Nat.le_of_ble_eq_true rfl) (Nat.le_of_ble_eq_true rfl) ?_
    obtain rfl : r4 = 0 := hw
    exact W.iret (v := 0) hx hb hr (fun t ht hW => ⟨⟨0, (), rfl, rfl, trivial⟩, hS.F ht⟩) hS.2.2 dX10_count_67
  · refine lv_tableIn (tgt := 68) hx hb dX10_count_1 (by decide) (by decide) rfl (by decide) ?_
    refine lv_aload_n hx hb dX10_count_68 rfl (lv_at hl 0 rfl) ?_
    refine va_get (D := D) (ci := 10) (v := .ref m_now) (C := RX10) (T := TX10) (N := 25) hx hb hts (fun _ h => List.mem_cons_of_mem _ (List.mem_append_right _ h)) hown hK hP 0 rfl rfl 0 (by decide) (hts (.fieldLink RX10 7 "LineCitesModel" "now" "[I") (List.mem_of_getElem? (i := 2) rfl)) (fun _ h9 => h9) rfl dX10_count_69 ?_
    refine lv_iconst (v := 2) hx hb dX10_count_72 (by decide) ?_
    refine va_iald hx hb hK hP 1 0 rfl rfl (vp_in_iff.mpr (by decide)) dX10_count_73 ?_
    refine lv_topi (fun x5 ex5 => ?_)
    obtain rfl : x5 = 0 := ex5
    exact W.iret (v := 0) hx hb hr (fun t ht hW => ⟨⟨0, (), rfl, rfl, trivial⟩, hS.F ht⟩) hS.2.2 dX10_count_74
  · refine lv_tableIn (tgt := 75) hx hb dX10_count_1 (by decide) (by decide) rfl (by decide) ?_
    refine lv_aload_n hx hb dX10_count_75 rfl (lv_at hl 0 rfl) ?_
    refine va_get (D := D) (ci := 10) (v := .int 0) (C := RX10) (T := TX10) (N := 25) hx hb hts (fun _ h => List.mem_cons_of_mem _ (List.mem_append_right _ h)) hown hK hP 0 rfl rfl 3 (by decide) (hts (.fieldLink RX10 195 "LineCitesModel" "acts" "I") (List.mem_of_getElem? (i := 16) rfl)) (fun _ h9 => h9) rfl dX10_count_76 ?_
    exact W.iret (v := 0) hx hb hr (fun t ht hW => ⟨⟨0, (), rfl, rfl, trivial⟩, hS.F ht⟩) hS.2.2 dX10_count_79
  · refine lv_tableIn (tgt := 80) hx hb dX10_count_1 (by decide) (by decide) rfl (by decide) ?_
    refine lv_aload_n hx hb dX10_count_80 rfl (lv_at hl 0 rfl) ?_
    refine va_get (D := D) (ci := 10) (v := .int 0) (C := RX10) (T := TX10) (N := 25) hx hb hts (fun _ h => List.mem_cons_of_mem _ (List.mem_append_right _ h)) hown hK hP 0 rfl rfl 7 (by decide) (hts (.fieldLink RX10 95 "LineCitesModel" "taped" "I") (List.mem_of_getElem? (i := 17) rfl)) (fun _ h9 => h9) rfl dX10_count_81 ?_
    exact W.iret (v := 0) hx hb hr (fun t ht hW => ⟨⟨0, (), rfl, rfl, trivial⟩, hS.F ht⟩) hS.2.2 dX10_count_84
