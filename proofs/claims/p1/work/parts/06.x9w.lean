theorem dX7_put_0 : decode cX7_put 0 = .ok (.aload_n 0, 1) := by decide +kernel
theorem dX7_put_1 : decode cX7_put 1 = .ok (.getfield 15, 3) := by decide +kernel
theorem dX7_put_4 : decode cX7_put 4 = .ok (.ifCond .lt 15, 3) := by decide +kernel
theorem dX7_put_7 : decode cX7_put 7 = .ok (.aload_n 0, 1) := by decide +kernel
theorem dX7_put_8 : decode cX7_put 8 = .ok (.getfield 15, 3) := by decide +kernel
theorem dX7_put_11 : decode cX7_put 11 = .ok (.aload_n 0, 1) := by decide +kernel
theorem dX7_put_12 : decode cX7_put 12 = .ok (.getfield 9, 3) := by decide +kernel
theorem dX7_put_15 : decode cX7_put 15 = .ok (.arraylength, 1) := by decide +kernel
theorem dX7_put_16 : decode cX7_put 16 = .ok (.if_icmp .lt 5, 3) := by decide +kernel
theorem dX7_put_19 : decode cX7_put 19 = .ok (.iconst 0, 1) := by decide +kernel
theorem dX7_put_20 : decode cX7_put 20 = .ok (.ireturn, 1) := by decide +kernel
theorem dX7_put_21 : decode cX7_put 21 = .ok (.aload_n 0, 1) := by decide +kernel
theorem dX7_put_22 : decode cX7_put 22 = .ok (.getfield 9, 3) := by decide +kernel
theorem dX7_put_25 : decode cX7_put 25 = .ok (.aload_n 0, 1) := by decide +kernel
theorem dX7_put_26 : decode cX7_put 26 = .ok (.getfield 15, 3) := by decide +kernel
theorem dX7_put_29 : decode cX7_put 29 = .ok (.iload_n 1, 1) := by decide +kernel
theorem dX7_put_30 : decode cX7_put 30 = .ok (.i2b, 1) := by decide +kernel
theorem dX7_put_31 : decode cX7_put 31 = .ok (.bastore, 1) := by decide +kernel
theorem dX7_put_32 : decode cX7_put 32 = .ok (.aload_n 0, 1) := by decide +kernel
theorem dX7_put_33 : decode cX7_put 33 = .ok (.dup, 1) := by decide +kernel
theorem dX7_put_34 : decode cX7_put 34 = .ok (.getfield 15, 3) := by decide +kernel
theorem dX7_put_37 : decode cX7_put 37 = .ok (.iconst 1, 1) := by decide +kernel
theorem dX7_put_38 : decode cX7_put 38 = .ok (.iadd, 1) := by decide +kernel
theorem dX7_put_39 : decode cX7_put 39 = .ok (.putfield 15, 3) := by decide +kernel
theorem dX7_put_42 : decode cX7_put 42 = .ok (.iconst 1, 1) := by decide +kernel
theorem dX7_put_43 : decode cX7_put 43 = .ok (.ireturn, 1) := by decide +kernel
theorem dX9_feed_0 : decode cX9_feed 0 = .ok (.iload_n 1, 1) := by decide +kernel
theorem dX9_feed_1 : decode cX9_feed 1 = .ok (.ifCond .lt 10, 3) := by decide +kernel
theorem dX9_feed_4 : decode cX9_feed 4 = .ok (.iload_n 1, 1) := by decide +kernel
theorem dX9_feed_5 : decode cX9_feed 5 = .ok (.sipush 255, 3) := by decide +kernel
theorem dX9_feed_8 : decode cX9_feed 8 = .ok (.if_icmp .le 6, 3) := by decide +kernel
theorem dX9_feed_11 : decode cX9_feed 11 = .ok (.ldc 88, 2) := by decide +kernel
theorem dX9_feed_13 : decode cX9_feed 13 = .ok (.ireturn, 1) := by decide +kernel
theorem dX9_feed_14 : decode cX9_feed 14 = .ok (.aload_n 0, 1) := by decide +kernel
theorem dX9_feed_15 : decode cX9_feed 15 = .ok (.getfield 10, 3) := by decide +kernel
theorem dX9_feed_18 : decode cX9_feed 18 = .ok (.iload_n 1, 1) := by decide +kernel
theorem dX9_feed_19 : decode cX9_feed 19 = .ok (.invokevirtual 89, 3) := by decide +kernel
theorem dX9_feed_22 : decode cX9_feed 22 = .ok (.ifCond .eq 13, 3) := by decide +kernel
theorem dX9_feed_25 : decode cX9_feed 25 = .ok (.aload_n 0, 1) := by decide +kernel
theorem dX9_feed_26 : decode cX9_feed 26 = .ok (.getfield 10, 3) := by decide +kernel
theorem dX9_feed_29 : decode cX9_feed 29 = .ok (.invokevirtual 93, 3) := by decide +kernel
theorem dX9_feed_32 : decode cX9_feed 32 = .ok (.goto 5, 3) := by decide +kernel
theorem dX9_feed_35 : decode cX9_feed 35 = .ok (.ldc 97, 2) := by decide +kernel
theorem dX9_feed_37 : decode cX9_feed 37 = .ok (.ireturn, 1) := by decide +kernel
theorem dX7_empty_0 : decode cX7_empty 0 = .ok (.aload_n 0, 1) := by decide +kernel
theorem dX7_empty_1 : decode cX7_empty 1 = .ok (.iconst 0, 1) := by decide +kernel
theorem dX7_empty_2 : decode cX7_empty 2 = .ok (.putfield 15, 3) := by decide +kernel
theorem dX7_empty_5 : decode cX7_empty 5 = .ok (.return_, 1) := by decide +kernel
theorem dX7_noteFault_0 : decode cX7_noteFault 0 = .ok (.aload_n 0, 1) := by decide +kernel
theorem dX7_noteFault_1 : decode cX7_noteFault 1 = .ok (.iload_n 1, 1) := by decide +kernel
theorem dX7_noteFault_2 : decode cX7_noteFault 2 = .ok (.putfield 19, 3) := by decide +kernel
theorem dX7_noteFault_5 : decode cX7_noteFault 5 = .ok (.return_, 1) := by decide +kernel
theorem dX4_refuse_0 : decode cX4_refuse 0 = .ok (.aload_n 0, 1) := by decide +kernel
theorem dX4_refuse_1 : decode cX4_refuse 1 = .ok (.iload_n 1, 1) := by decide +kernel
theorem dX4_refuse_2 : decode cX4_refuse 2 = .ok (.putfield 19, 3) := by decide +kernel
theorem dX4_refuse_5 : decode cX4_refuse 5 = .ok (.iconst 0, 1) := by decide +kernel
theorem dX4_refuse_6 : decode cX4_refuse 6 = .ok (.ireturn, 1) := by decide +kernel
theorem dX4_step_0 : decode cX4_step 0 = .ok (.aload_n 0, 1) := by decide +kernel
theorem dX4_step_1 : decode cX4_step 1 = .ok (.aload_n 0, 1) := by decide +kernel
theorem dX4_step_2 : decode cX4_step 2 = .ok (.getfield 26, 3) := by decide +kernel
theorem dX4_step_5 : decode cX4_step 5 = .ok (.putfield 23, 3) := by decide +kernel
theorem dX4_step_8 : decode cX4_step 8 = .ok (.aload_n 0, 1) := by decide +kernel
theorem dX4_step_9 : decode cX4_step 9 = .ok (.getfield 26, 3) := by decide +kernel
theorem dX4_step_12 : decode cX4_step 12 = .ok (.aload_n 0, 1) := by decide +kernel
theorem dX4_step_13 : decode cX4_step 13 = .ok (.getfield 9, 3) := by decide +kernel
theorem dX4_step_16 : decode cX4_step 16 = .ok (.invokevirtual 87, 3) := by decide +kernel
theorem dX4_step_19 : decode cX4_step 19 = .ok (.if_icmp .lt 9, 3) := by decide +kernel
theorem dX4_step_22 : decode cX4_step 22 = .ok (.aload_n 0, 1) := by decide +kernel
theorem dX4_step_23 : decode cX4_step 23 = .ok (.iconst (-1), 1) := by decide +kernel
theorem dX4_step_24 : decode cX4_step 24 = .ok (.putfield 48, 3) := by decide +kernel
theorem dX4_step_27 : decode cX4_step 27 = .ok (.return_, 1) := by decide +kernel
theorem dX4_step_28 : decode cX4_step 28 = .ok (.aload_n 0, 1) := by decide +kernel
theorem dX4_step_29 : decode cX4_step 29 = .ok (.getfield 9, 3) := by decide +kernel
theorem dX4_step_32 : decode cX4_step 32 = .ok (.aload_n 0, 1) := by decide +kernel
theorem dX4_step_33 : decode cX4_step 33 = .ok (.getfield 26, 3) := by decide +kernel
theorem dX4_step_36 : decode cX4_step 36 = .ok (.invokevirtual 92, 3) := by decide +kernel
theorem dX4_step_39 : decode cX4_step 39 = .ok (.istore_n 1, 1) := by decide +kernel
theorem dX4_step_40 : decode cX4_step 40 = .ok (.iload_n 1, 1) := by decide +kernel
theorem dX4_step_41 : decode cX4_step 41 = .ok (.invokestatic 95, 3) := by decide +kernel
theorem dX4_step_44 : decode cX4_step 44 = .ok (.ifCond .eq 8, 3) := by decide +kernel
theorem dX4_step_47 : decode cX4_step 47 = .ok (.aload_n 0, 1) := by decide +kernel
theorem dX4_step_48 : decode cX4_step 48 = .ok (.invokevirtual 98, 3) := by decide +kernel
theorem dX4_step_51 : decode cX4_step 51 = .ok (.return_, 1) := by decide +kernel
theorem dX4_step_52 : decode cX4_step 52 = .ok (.aload_n 0, 1) := by decide +kernel
theorem dX4_step_53 : decode cX4_step 53 = .ok (.dup, 1) := by decide +kernel
theorem dX4_step_54 : decode cX4_step 54 = .ok (.getfield 26, 3) := by decide +kernel
theorem dX4_step_57 : decode cX4_step 57 = .ok (.iconst 1, 1) := by decide +kernel
theorem dX4_step_58 : decode cX4_step 58 = .ok (.iadd, 1) := by decide +kernel
theorem dX4_step_59 : decode cX4_step 59 = .ok (.putfield 26, 3) := by decide +kernel
theorem dX4_step_62 : decode cX4_step 62 = .ok (.aload_n 0, 1) := by decide +kernel
theorem dX4_step_63 : decode cX4_step 63 = .ok (.iload_n 1, 1) := by decide +kernel
theorem dX4_step_64 : decode cX4_step 64 = .ok (.bipush 97, 2) := by decide +kernel
theorem dX4_step_66 : decode cX4_step 66 = .ok (.if_icmp .lt 9, 3) := by decide +kernel
theorem dX4_step_69 : decode cX4_step 69 = .ok (.iload_n 1, 1) := by decide +kernel
theorem dX4_step_70 : decode cX4_step 70 = .ok (.bipush 122, 2) := by decide +kernel
theorem dX4_step_72 : decode cX4_step 72 = .ok (.if_icmp .le 15, 3) := by decide +kernel
theorem dX4_step_75 : decode cX4_step 75 = .ok (.iload_n 1, 1) := by decide +kernel
theorem dX4_step_76 : decode cX4_step 76 = .ok (.bipush 44, 2) := by decide +kernel
theorem dX4_step_78 : decode cX4_step 78 = .ok (.if_icmp .eq 9, 3) := by decide +kernel
theorem dX4_step_81 : decode cX4_step 81 = .ok (.iload_n 1, 1) := by decide +kernel
theorem dX4_step_82 : decode cX4_step 82 = .ok (.bipush 59, 2) := by decide +kernel
theorem dX4_step_84 : decode cX4_step 84 = .ok (.if_icmp .ne 7, 3) := by decide +kernel
theorem dX4_step_87 : decode cX4_step 87 = .ok (.iload_n 1, 1) := by decide +kernel
theorem dX4_step_88 : decode cX4_step 88 = .ok (.goto 5, 3) := by decide +kernel
theorem dX4_step_91 : decode cX4_step 91 = .ok (.bipush (-3), 2) := by decide +kernel
theorem dX4_step_93 : decode cX4_step 93 = .ok (.putfield 48, 3) := by decide +kernel
theorem dX4_step_96 : decode cX4_step 96 = .ok (.return_, 1) := by decide +kernel
theorem dX4_expect_0 : decode cX4_expect 0 = .ok (.aload_n 0, 1) := by decide +kernel
theorem dX4_expect_1 : decode cX4_expect 1 = .ok (.invokevirtual 45, 3) := by decide +kernel
theorem dX4_expect_4 : decode cX4_expect 4 = .ok (.aload_n 0, 1) := by decide +kernel
theorem dX4_expect_5 : decode cX4_expect 5 = .ok (.getfield 48, 3) := by decide +kernel
theorem dX4_expect_8 : decode cX4_expect 8 = .ok (.iload_n 1, 1) := by decide +kernel
theorem dX4_expect_9 : decode cX4_expect 9 = .ok (.if_icmp .eq 11, 3) := by decide +kernel
theorem dX4_expect_12 : decode cX4_expect 12 = .ok (.aload_n 0, 1) := by decide +kernel
theorem dX4_expect_13 : decode cX4_expect 13 = .ok (.iconst 1, 1) := by decide +kernel
theorem dX4_expect_14 : decode cX4_expect 14 = .ok (.invokevirtual 36, 3) := by decide +kernel
theorem dX4_expect_17 : decode cX4_expect 17 = .ok (.ifCond .eq 7, 3) := by decide +kernel
theorem dX4_expect_20 : decode cX4_expect 20 = .ok (.iconst 1, 1) := by decide +kernel
theorem dX4_expect_21 : decode cX4_expect 21 = .ok (.goto 4, 3) := by decide +kernel
theorem dX4_expect_24 : decode cX4_expect 24 = .ok (.iconst 0, 1) := by decide +kernel
theorem dX4_expect_25 : decode cX4_expect 25 = .ok (.ireturn, 1) := by decide +kernel
theorem dX4_readHead_0 : decode cX4_readHead 0 = .ok (.aload_n 0, 1) := by decide +kernel
theorem dX4_readHead_1 : decode cX4_readHead 1 = .ok (.iconst 0, 1) := by decide +kernel
theorem dX4_readHead_2 : decode cX4_readHead 2 = .ok (.putfield 26, 3) := by decide +kernel
theorem dX4_readHead_5 : decode cX4_readHead 5 = .ok (.aload_n 0, 1) := by decide +kernel
theorem dX4_readHead_6 : decode cX4_readHead 6 = .ok (.bipush 119, 2) := by decide +kernel
theorem dX4_readHead_8 : decode cX4_readHead 8 = .ok (.invokevirtual 29, 3) := by decide +kernel
theorem dX4_readHead_11 : decode cX4_readHead 11 = .ok (.ifCond .eq 12, 3) := by decide +kernel
theorem dX4_readHead_14 : decode cX4_readHead 14 = .ok (.aload_n 0, 1) := by decide +kernel
theorem dX4_readHead_15 : decode cX4_readHead 15 = .ok (.bipush (-2), 2) := by decide +kernel
theorem dX4_readHead_17 : decode cX4_readHead 17 = .ok (.invokevirtual 29, 3) := by decide +kernel
theorem dX4_readHead_20 : decode cX4_readHead 20 = .ok (.ifCond .ne 5, 3) := by decide +kernel
theorem dX4_readHead_23 : decode cX4_readHead 23 = .ok (.iconst 0, 1) := by decide +kernel
theorem dX4_readHead_24 : decode cX4_readHead 24 = .ok (.ireturn, 1) := by decide +kernel
theorem dX4_readHead_25 : decode cX4_readHead 25 = .ok (.aload_n 0, 1) := by decide +kernel
theorem dX4_readHead_26 : decode cX4_readHead 26 = .ok (.getfield 33, 3) := by decide +kernel
theorem dX4_readHead_29 : decode cX4_readHead 29 = .ok (.iconst 1, 1) := by decide +kernel
theorem dX4_readHead_30 : decode cX4_readHead 30 = .ok (.if_icmp .lt 13, 3) := by decide +kernel
theorem dX4_readHead_33 : decode cX4_readHead 33 = .ok (.aload_n 0, 1) := by decide +kernel
theorem dX4_readHead_34 : decode cX4_readHead 34 = .ok (.getfield 33, 3) := by decide +kernel
theorem dX4_readHead_37 : decode cX4_readHead 37 = .ok (.sipush 200, 3) := by decide +kernel
theorem dX4_readHead_40 : decode cX4_readHead 40 = .ok (.if_icmp .le 9, 3) := by decide +kernel
theorem dX4_readHead_43 : decode cX4_readHead 43 = .ok (.aload_n 0, 1) := by decide +kernel
theorem dX4_readHead_44 : decode cX4_readHead 44 = .ok (.iconst 2, 1) := by decide +kernel
theorem dX4_readHead_45 : decode cX4_readHead 45 = .ok (.invokevirtual 36, 3) := by decide +kernel
theorem dX4_readHead_48 : decode cX4_readHead 48 = .ok (.ireturn, 1) := by decide +kernel
theorem dX4_readHead_49 : decode cX4_readHead 49 = .ok (.aload_n 0, 1) := by decide +kernel
theorem dX4_readHead_50 : decode cX4_readHead 50 = .ok (.getfield 15, 3) := by decide +kernel
theorem dX4_readHead_53 : decode cX4_readHead 53 = .ok (.aload_n 0, 1) := by decide +kernel
theorem dX4_readHead_54 : decode cX4_readHead 54 = .ok (.getfield 33, 3) := by decide +kernel
theorem dX4_readHead_57 : decode cX4_readHead 57 = .ok (.invokevirtual 39, 3) := by decide +kernel
theorem dX4_readHead_60 : decode cX4_readHead 60 = .ok (.aload_n 0, 1) := by decide +kernel
theorem dX4_readHead_61 : decode cX4_readHead 61 = .ok (.bipush 59, 2) := by decide +kernel
theorem dX4_readHead_63 : decode cX4_readHead 63 = .ok (.invokevirtual 29, 3) := by decide +kernel
theorem dX4_readHead_66 : decode cX4_readHead 66 = .ok (.ireturn, 1) := by decide +kernel
theorem dX4_faultNumber_0 : decode cX4_faultNumber 0 = .ok (.aload_n 0, 1) := by decide +kernel
theorem dX4_faultNumber_1 : decode cX4_faultNumber 1 = .ok (.getfield 19, 3) := by decide +kernel
theorem dX4_faultNumber_4 : decode cX4_faultNumber 4 = .ok (.ireturn, 1) := by decide +kernel
theorem dX4_faultPlace_0 : decode cX4_faultPlace 0 = .ok (.aload_n 0, 1) := by decide +kernel
theorem dX4_faultPlace_1 : decode cX4_faultPlace 1 = .ok (.getfield 23, 3) := by decide +kernel
theorem dX4_faultPlace_4 : decode cX4_faultPlace 4 = .ok (.ireturn, 1) := by decide +kernel
theorem dX9_work_0 : decode cX9_work 0 = .ok (.aload_n 0, 1) := by decide +kernel
theorem dX9_work_1 : decode cX9_work 1 = .ok (.getfield 31, 3) := by decide +kernel
theorem dX9_work_4 : decode cX9_work 4 = .ok (.invokevirtual 98, 3) := by decide +kernel
theorem dX9_work_7 : decode cX9_work 7 = .ok (.ifCond .eq 17, 3) := by decide +kernel
theorem dX9_work_10 : decode cX9_work 10 = .ok (.aload_n 0, 1) := by decide +kernel
theorem dX9_work_11 : decode cX9_work 11 = .ok (.getfield 31, 3) := by decide +kernel
theorem dX9_work_14 : decode cX9_work 14 = .ok (.invokevirtual 102, 3) := by decide +kernel
theorem dX9_work_17 : decode cX9_work 17 = .ok (.ifCond .eq 7, 3) := by decide +kernel
theorem dX9_work_20 : decode cX9_work 20 = .ok (.iconst 1, 1) := by decide +kernel
theorem dX9_work_21 : decode cX9_work 21 = .ok (.goto 4, 3) := by decide +kernel
theorem dX9_work_24 : decode cX9_work 24 = .ok (.iconst 0, 1) := by decide +kernel
theorem dX9_work_25 : decode cX9_work 25 = .ok (.istore_n 1, 1) := by decide +kernel
theorem dX9_work_26 : decode cX9_work 26 = .ok (.aload_n 0, 1) := by decide +kernel
theorem dX9_work_27 : decode cX9_work 27 = .ok (.getfield 10, 3) := by decide +kernel
theorem dX9_work_30 : decode cX9_work 30 = .ok (.invokevirtual 105, 3) := by decide +kernel
theorem dX9_work_33 : decode cX9_work 33 = .ok (.iload_n 1, 1) := by decide +kernel
theorem dX9_work_34 : decode cX9_work 34 = .ok (.ifCond .ne 28, 3) := by decide +kernel
theorem dX9_work_37 : decode cX9_work 37 = .ok (.aload_n 0, 1) := by decide +kernel
theorem dX9_work_38 : decode cX9_work 38 = .ok (.getfield 10, 3) := by decide +kernel
theorem dX9_work_41 : decode cX9_work 41 = .ok (.aload_n 0, 1) := by decide +kernel
theorem dX9_work_42 : decode cX9_work 42 = .ok (.getfield 31, 3) := by decide +kernel
theorem dX9_work_45 : decode cX9_work 45 = .ok (.invokevirtual 108, 3) := by decide +kernel
theorem dX9_work_48 : decode cX9_work 48 = .ok (.invokevirtual 111, 3) := by decide +kernel
theorem dX9_work_51 : decode cX9_work 51 = .ok (.ldc 115, 2) := by decide +kernel
theorem dX9_work_53 : decode cX9_work 53 = .ok (.aload_n 0, 1) := by decide +kernel
theorem dX9_work_54 : decode cX9_work 54 = .ok (.getfield 31, 3) := by decide +kernel
theorem dX9_work_57 : decode cX9_work 57 = .ok (.invokevirtual 116, 3) := by decide +kernel
theorem dX9_work_60 : decode cX9_work 60 = .ok (.isub, 1) := by decide +kernel
theorem dX9_work_61 : decode cX9_work 61 = .ok (.ireturn, 1) := by decide +kernel
theorem dX9_work_62 : decode cX9_work 62 = .ok (.aload_n 0, 1) := by decide +kernel
theorem dX9_work_63 : decode cX9_work 63 = .ok (.getfield 19, 3) := by decide +kernel
theorem dX9_work_66 : decode cX9_work 66 = .ok (.aload_n 0, 1) := by decide +kernel
theorem dX9_work_67 : decode cX9_work 67 = .ok (.getfield 23, 3) := by decide +kernel
theorem dX9_work_70 : decode cX9_work 70 = .ok (.invokevirtual 119, 3) := by decide +kernel
theorem dX9_work_73 : decode cX9_work 73 = .ok (.aload_n 0, 1) := by decide +kernel
theorem dX9_work_74 : decode cX9_work 74 = .ok (.getfield 38, 3) := by decide +kernel
theorem dX9_work_77 : decode cX9_work 77 = .ok (.invokevirtual 123, 3) := by decide +kernel
theorem dX9_work_80 : decode cX9_work 80 = .ok (.aload_n 0, 1) := by decide +kernel
theorem dX9_work_81 : decode cX9_work 81 = .ok (.getfield 19, 3) := by decide +kernel
theorem dX9_work_84 : decode cX9_work 84 = .ok (.invokevirtual 126, 3) := by decide +kernel
theorem dX9_work_87 : decode cX9_work 87 = .ok (.ireturn, 1) := by decide +kernel
def w_X7_put : List Cond := .code yX7_put cX7_put 2 (some .boolean) :: ([.fieldLink RX7 15 "LineCites$Tape" "size" "I", .fieldLink RX7 9 "LineCites$Tape" "bytes" "[B"] ++ wsX70)
set_option maxHeartbeats 4000000 in
set_option maxRecDepth 100000 in
theorem c_X7_put (l : Launch) (D : va_G) (h0 : Nat) (i_b : Int32) (a_b : Nat) (k_b : ClassId) (sz : Nat) : Met l yX7_put w_X7_put ({ frames := 0, cells := 0, slots := 0, locals := 0 }) (va_Pc [.ref h0, .int i_b] (fun U => U.heap.size = sz ∧ va_P D vwCl [(h0, .inr (7, [.ref a_b, .int 0, .int 0])), (a_b, .inl (k_b, 200, .inl (fun _ => 0)))] U.heap ∧ va_K D vwCl [(k_b, .byte)] U ∧ va_D (fun _ => True) [(h0, .inr (7, [.ref a_b, .int 0, .int 0])), (a_b, .inl (k_b, 200, .inl (fun _ => 0)))])) (va_Qi (fun (r : Int32) (_ : Unit) => r = 1) (fun (_ : Unit) t => va_P D vwCl [(h0, .inr (7, [.ref a_b, .int 1, .int 0]))] t.heap ∧ va_K D vwCl [] t ∧ va_D (va_A [(h0, .inr (7, [.ref a_b, .int 0, .int 0])), (a_b, .inl (k_b, 200, .inl (fun _ => 0)))] sz) [(h0, .inr (7, [.ref a_b, .int 1, .int 0]))]) (va_A [(h0, .inr (7, [.ref a_b, .int 0, .int 0])), (a_b, .inl (k_b, 200, .inl (fun _ => 0)))] sz)) 0 0 (va_A [(h0, .inr (7, [.ref a_b, .int 0, .int 0])), (a_b, .inl (k_b, 200, .inl (fun _ => 0)))] sz) := by
  refine Met.ofW (cc := cX7_put) (maxL := 2) (ret := (some .boolean)) (by decide) rfl ?_
  intro p e s m args below meth c s₁ B hml hv
  obtain ⟨rfl, hsz, hP, hK, hD0⟩ := hv
  have hx := B.exec
  have hb := B.bytes
  have hr := B.returns
  have hts := atoms_spec (ws := w_X7_put) B.pre
  have hown : s.vm.findClass RX7 = some m.cls := findClass_of_methodNamed B.named
  have hlocks := B.notSynchronized
  subst hsz
  have hD := hD0.self (sz := s.heap.size)
  generalize hAe : va_A [(h0, .inr (7, [.ref a_b, .int 0, .int 0])), (a_b, .inl (k_b, 200, .inl (fun _ => 0)))] s.heap.size = A at hD ⊢
  have hA : ∀ q : Nat, s.heap.size ≤ q → A q := fun q h => by rw [← hAe]; exact Or.inr h
  have hS : va_S A s.heap s.heap [] := va_S.rf
  have hP : va_P D vwCl [(h0, .inr (7, [.ref a_b, .int 0, .int 0])), (a_b, .inl (k_b, 200, .inl (fun _ => 0)))] s.heap := hP
  have hl := lv_entry ([.ref h0, .int i_b]) (n := 2) (Nat.le_of_ble_eq_true rfl)
  rw [lg_entry_eq]
  generalize (lg_sl ([.ref h0, .int i_b]) ++ List.replicate (2 - (lg_sl ([.ref h0, .int i_b])).length) Slot.unset).toArray = ls at hl ⊢
  have hl : lv_has ls 2 [(0, .ref h0), (1, .int i_b)] := hl
  obtain ⟨H, hHe⟩ : ∃ H : Heap, H = s.heap := ⟨_, rfl⟩
  rw [← hHe] at hP
  have hS : va_S A s.heap H [] := by rw [hHe]; exact hS
  refine pw_heap hHe ?_
  refine lv_aload_n hx hb dX7_put_0 rfl (lv_at hl 0 rfl) ?_
  refine va_get (D := D) (ci := 7) (v := .int 0) (C := RX7) (T := TX7) (N := 3) hx hb hts (fun _ h => List.mem_cons_of_mem _ (List.mem_append_right _ h)) hown hK hP 0 rfl rfl 1 (by decide) (hts (.fieldLink RX7 15 "LineCites$Tape" "size" "I") (List.mem_of_getElem? (i := 1) rfl)) (fun _ h9 => h9) rfl dX7_put_1 ?_
  refine lv_if_lt (tgt := 19) hx hb dX7_put_4 (by decide) (fun c1 => absurd c1 (by decide)) (fun c1 => ?_)
  refine lv_aload_n hx hb dX7_put_7 rfl (lv_at hl 0 rfl) ?_
  refine va_get (D := D) (ci := 7) (v := .int 0) (C := RX7) (T := TX7) (N := 3) hx hb hts (fun _ h => List.mem_cons_of_mem _ (List.mem_append_right _ h)) hown hK hP 0 rfl rfl 1 (by decide) (hts (.fieldLink RX7 15 "LineCites$Tape" "size" "I") (List.mem_of_getElem? (i := 1) rfl)) (fun _ h9 => h9) rfl dX7_put_8 ?_
  refine lv_aload_n hx hb dX7_put_11 rfl (lv_at hl 0 rfl) ?_
  refine va_get (D := D) (ci := 7) (v := .ref a_b) (C := RX7) (T := TX7) (N := 3) hx hb hts (fun _ h => List.mem_cons_of_mem _ (List.mem_append_right _ h)) hown hK hP 0 rfl rfl 0 (by decide) (hts (.fieldLink RX7 9 "LineCites$Tape" "bytes" "[B") (List.mem_of_getElem? (i := 2) rfl)) (fun _ h9 => h9) rfl dX7_put_12 ?_
  refine va_alen (v := 200) hx hb hK hP 1 0 rfl rfl (by decide) dX7_put_15 ?_
  refine lv_icmp_lt (tgt := 21) hx hb dX7_put_16 (by decide) (fun c2 => ?_) (fun c2 => absurd (by decide) c2)
  refine lv_aload_n hx hb dX7_put_21 rfl (lv_at hl 0 rfl) ?_
  refine va_get (D := D) (ci := 7) (v := .ref a_b) (C := RX7) (T := TX7) (N := 3) hx hb hts (fun _ h => List.mem_cons_of_mem _ (List.mem_append_right _ h)) hown hK hP 0 rfl rfl 0 (by decide) (hts (.fieldLink RX7 9 "LineCites$Tape" "bytes" "[B") (List.mem_of_getElem? (i := 2) rfl)) (fun _ h9 => h9) rfl dX7_put_22 ?_
  refine lv_aload_n hx hb dX7_put_25 rfl (lv_at hl 0 rfl) ?_
  refine va_get (D := D) (ci := 7) (v := .int 0) (C := RX7) (T := TX7) (N := 3) hx hb hts (fun _ h => List.mem_cons_of_mem _ (List.mem_append_right _ h)) hown hK hP 0 rfl rfl 1 (by decide) (hts (.fieldLink RX7 15 "LineCites$Tape" "size" "I") (List.mem_of_getElem? (i := 1) rfl)) (fun _ h9 => h9) rfl dX7_put_26 ?_
  refine lv_iload_n hx hb dX7_put_29 rfl (lv_at hl 1 rfl) ?_
  refine lv_i2b hx hb dX7_put_30 rfl ?_
  refine lv_topi (fun x3 ex3 => ?_)
  refine va_bast hx hb hK hP hD hS 1 0 rfl rfl (vp_in_iff.mpr (by decide)) dX7_put_31 (fun H locs hP hD hS => ?_)
  obtain ⟨g4, eg4⟩ : ∃ g : Nat → Int32, g = upd (fun _ => 0) (0 : Int32).toNatClampNeg (vp_nar .byte x3) := ⟨_, rfl⟩
  have hP : va_P D vwCl [(h0, .inr (7, [.ref a_b, .int 0, .int 0])), (a_b, .inl (k_b, 200, .inl (upd (fun _ => 0) (0 : Int32).toNatClampNeg (vp_nar .byte x3))))] H := hP
  have hD : va_D A [(h0, .inr (7, [.ref a_b, .int 0, .int 0])), (a_b, .inl (k_b, 200, .inl (upd (fun _ => 0) (0 : Int32).toNatClampNeg (vp_nar .byte x3))))] := hD
  have hK : va_K D vwCl [(k_b, .byte)] s := hK
  rw [← eg4] at hP hD
  refine lv_aload_n hx hb dX7_put_32 rfl (lv_at hl 0 rfl) ?_
  refine lv_dup hx hb dX7_put_33 rfl ?_
  refine va_get (D := D) (ci := 7) (v := .int 0) (C := RX7) (T := TX7) (N := 3) hx hb hts (fun _ h => List.mem_cons_of_mem _ (List.mem_append_right _ h)) hown hK hP 0 rfl rfl 1 (by decide) (hts (.fieldLink RX7 15 "LineCites$Tape" "size" "I") (List.mem_of_getElem? (i := 1) rfl)) (fun _ h9 => h9) rfl dX7_put_34 ?_
  refine lv_iconst (v := 1) hx hb dX7_put_37 (by decide) ?_
  refine lv_iadd hx hb dX7_put_38 ?_
  refine lv_topi (fun x5 ex5 => ?_)
  obtain rfl : x5 = 1 := ex5.trans (by decide)
  refine va_put (D := D) (ci := 7) (v := .int 1) (ty := .int) (C := RX7) (T := TX7) (N := 3) hx hb hts (fun _ h => List.mem_cons_of_mem _ (List.mem_append_right _ h)) tyX7 tyX7_ok nmX7 hown hK hP hD hS 0 rfl rfl 1 (by decide) (hts (.fieldLink RX7 15 "LineCites$Tape" "size" "I") (List.mem_of_getElem? (i := 1) rfl)) (fun _ h9 => h9) rfl (by decide +kernel) rfl rfl (Nat.le_of_ble_eq_true rfl) dX7_put_39 (fun H locs hP hD hS => ?_)
  have hP : va_P D vwCl [(h0, .inr (7, [.ref a_b, .int 1, .int 0])), (a_b, .inl (k_b, 200, .inl g4))] H := hP
  have hD : va_D A [(h0, .inr (7, [.ref a_b, .int 1, .int 0])), (a_b, .inl (k_b, 200, .inl g4))] := hD
  have hK : va_K D vwCl [(k_b, .byte)] s := hK
  refine lv_iconst (v := 1) hx hb dX7_put_42 (by decide) ?_
  have hP9 := hP.sub (ws' := [(h0, .inr (7, [.ref a_b, .int 1, .int 0]))]) [0] rfl
  have hD9 := hD.sub (ws' := [(h0, .inr (7, [.ref a_b, .int 1, .int 0]))]) [0] (by decide) rfl
  have hK9 := hK.sub (tys' := []) [] rfl
  refine W.widen (k := 0) (n := 0) (Nat.le_of_ble_eq_true rfl) (Nat.le_of_ble_eq_true rfl) ?_
  exact W.zret (v := 1) (ty := .boolean) hx hb hr rfl (fun t ht hW => ⟨⟨1, (), rfl, rfl, by rw [ht]; exact hP9, va_K.moved hW.alike hK9, hD9⟩, hS.F ht⟩) hS.2.2 dX7_put_43
def w_X9_feed : List Cond := .code yX9_feed cX9_feed 2 (some .int) :: ([.constant RX9 88 (-1000001), .fieldLink RX9 10 "LineCites" "tape" "LLineCites$Tape;", .methodLink RX9 89 yX7_put, .instanceMethod yX7_put, .selects RX7 yX7_put yX7_put, .initialized RX7, .code yX7_put cX7_put 2 (some .boolean), .fieldLink RX7 15 "LineCites$Tape" "size" "I", .fieldLink RX7 9 "LineCites$Tape" "bytes" "[B", .methodLink RX9 93 yX7_size, .instanceMethod yX7_size, .selects RX7 yX7_size yX7_size, .code yX7_size cX7_size 1 (some .int)] ++ wsX90 ++ wsX70)
set_option maxRecDepth 20000 in
theorem g_X9_feed_X7_put : GoodIn w_X9_feed (wsV RX9 89 RX7 yX7_put w_X7_put) := goodIn_r _ [3, 4, 5, 6, 7, 8, 9, 28, 29, 30] rfl (by decide +kernel)
set_option maxRecDepth 20000 in
theorem g_X9_feed_X7_size__1 : GoodIn w_X9_feed (wsV RX9 93 RX7 yX7_size w_X7_size__1) := goodIn_r _ [10, 11, 12, 6, 13, 8, 28, 29, 30] rfl (by decide +kernel)
set_option maxHeartbeats 4000000 in
set_option maxRecDepth 100000 in
theorem c_X9_feed (l : Launch) (D : va_G) (h0 : Nat) (i_0 : Int32) (a_tape : Nat) (a_now : Nat) (a_draft : Nat) (a_reader : Nat) (a_acts : Nat) (a_images : Nat) (a_one : Nat) (a_other : Nat) (a_third : Nat) (a_spans : Nat) (a_back : Nat) (a_span : Nat) (a_middle : Nat) (a_reached : Nat) (a_b : Nat) (k_b : ClassId) (sz : Nat) : Met l yX9_feed w_X9_feed ({ frames := 1, cells := 0, slots := 0, locals := 21 }) (va_Pc [.ref h0, .int i_0] (fun U => U.heap.size = sz ∧ va_P D vwCl [(h0, .inr (9, [.ref a_tape, .ref a_now, .ref a_draft, .ref a_reader, .ref a_acts, .ref a_images, .ref a_one, .ref a_other, .ref a_third, .ref a_spans, .ref a_back, .ref a_span, .ref a_middle, .ref a_reached])), (a_tape, .inr (7, [.ref a_b, .int 0, .int 0])), (a_b, .inl (k_b, 200, .inl (fun _ => 0)))] U.heap ∧ va_K D vwCl [(k_b, .byte)] U ∧ va_D (fun _ => True) [(h0, .inr (9, [.ref a_tape, .ref a_now, .ref a_draft, .ref a_reader, .ref a_acts, .ref a_images, .ref a_one, .ref a_other, .ref a_third, .ref a_spans, .ref a_back, .ref a_span, .ref a_middle, .ref a_reached])), (a_tape, .inr (7, [.ref a_b, .int 0, .int 0])), (a_b, .inl (k_b, 200, .inl (fun _ => 0)))])) (va_Qi (fun (r : Int32) (_ : Unit) => r = sp_rng i_0 255 1 (-1000001)) (fun (_ : Unit) t => va_P D vwCl [] t.heap ∧ va_K D vwCl [] t ∧ va_D (va_A [(h0, .inr (9, [.ref a_tape, .ref a_now, .ref a_draft, .ref a_reader, .ref a_acts, .ref a_images, .ref a_one, .ref a_other, .ref a_third, .ref a_spans, .ref a_back, .ref a_span, .ref a_middle, .ref a_reached])), (a_tape, .inr (7, [.ref a_b, .int 0, .int 0])), (a_b, .inl (k_b, 200, .inl (fun _ => 0)))] sz) []) (va_A [(h0, .inr (9, [.ref a_tape, .ref a_now, .ref a_draft, .ref a_reader, .ref a_acts, .ref a_images, .ref a_one, .ref a_other, .ref a_third, .ref a_spans, .ref a_back, .ref a_span, .ref a_middle, .ref a_reached])), (a_tape, .inr (7, [.ref a_b, .int 0, .int 0])), (a_b, .inl (k_b, 200, .inl (fun _ => 0)))] sz)) 0 0 (va_A [(h0, .inr (9, [.ref a_tape, .ref a_now, .ref a_draft, .ref a_reader, .ref a_acts, .ref a_images, .ref a_one, .ref a_other, .ref a_third, .ref a_spans, .ref a_back, .ref a_span, .ref a_middle, .ref a_reached])), (a_tape, .inr (7, [.ref a_b, .int 0, .int 0])), (a_b, .inl (k_b, 200, .inl (fun _ => 0)))] sz) := by
  refine Met.ofW (cc := cX9_feed) (maxL := 2) (ret := (some .int)) (by decide) rfl ?_
  intro p e s m args below meth c s₁ B hml hv
  obtain ⟨rfl, hsz, hP, hK, hD0⟩ := hv
  have hx := B.exec
  have hb := B.bytes
  have hr := B.returns
  have hts := atoms_spec (ws := w_X9_feed) B.pre
  have hown : s.vm.findClass RX9 = some m.cls := findClass_of_methodNamed B.named
  have hlocks := B.notSynchronized
  subst hsz
  have hD := hD0.self (sz := s.heap.size)
  generalize hAe : va_A [(h0, .inr (9, [.ref a_tape, .ref a_now, .ref a_draft, .ref a_reader, .ref a_acts, .ref a_images, .ref a_one, .ref a_other, .ref a_third, .ref a_spans, .ref a_back, .ref a_span, .ref a_middle, .ref a_reached])), (a_tape, .inr (7, [.ref a_b, .int 0, .int 0])), (a_b, .inl (k_b, 200, .inl (fun _ => 0)))] s.heap.size = A at hD ⊢
  have hA : ∀ q : Nat, s.heap.size ≤ q → A q := fun q h => by rw [← hAe]; exact Or.inr h
  have hS : va_S A s.heap s.heap [] := va_S.rf
  have hP : va_P D vwCl [(h0, .inr (9, [.ref a_tape, .ref a_now, .ref a_draft, .ref a_reader, .ref a_acts, .ref a_images, .ref a_one, .ref a_other, .ref a_third, .ref a_spans, .ref a_back, .ref a_span, .ref a_middle, .ref a_reached])), (a_tape, .inr (7, [.ref a_b, .int 0, .int 0])), (a_b, .inl (k_b, 200, .inl (fun _ => 0)))] s.heap := hP
  have hl := lv_entry ([.ref h0, .int i_0]) (n := 2) (Nat.le_of_ble_eq_true rfl)
  rw [lg_entry_eq]
  generalize (lg_sl ([.ref h0, .int i_0]) ++ List.replicate (2 - (lg_sl ([.ref h0, .int i_0])).length) Slot.unset).toArray = ls at hl ⊢
  have hl : lv_has ls 2 [(0, .ref h0), (1, .int i_0)] := hl
  obtain ⟨H, hHe⟩ : ∃ H : Heap, H = s.heap := ⟨_, rfl⟩
  rw [← hHe] at hP
  have hS : va_S A s.heap H [] := by rw [hHe]; exact hS
  refine pw_heap hHe ?_
  refine lv_iload_n hx hb dX9_feed_0 rfl (lv_at hl 1 rfl) ?_
  refine lv_if_lt (tgt := 11) hx hb dX9_feed_1 (by decide) (fun c1 => ?_) (fun c1 => ?_)
  · have nc1 : i_0.toInt < 0 := pw_lt c1 rfl (by decide)
    refine lv_ldc hx hb hown (hts (.constant RX9 88 (-1000001)) (List.mem_of_getElem? (i := 1) rfl)) dX9_feed_11 ?_
    have hP9 := hP.sub (ws' := []) [] rfl
    have hD9 := hD.sub (ws' := []) [] (by decide) rfl
    have hK9 := hK.sub (tys' := []) [] rfl
    refine W.widen (k := 0) (n := 0) (Nat.le_of_ble_eq_true rfl) (Nat.le_of_ble_eq_true rfl) ?_
    exact W.iret (v := (-1000001)) hx hb hr (fun t ht hW => ⟨⟨(-1000001), (), rfl, sp_out (by omega), by rw [ht]; exact hP9, va_K.moved hW.alike hK9, hD9⟩, hS.F ht⟩) hS.2.2 dX9_feed_13
  · have nc1 : 0 ≤ i_0.toInt := pw_nlt c1 rfl (by decide)
    refine lv_iload_n hx hb dX9_feed_4 rfl (lv_at hl 1 rfl) ?_
    refine lv_sipush (v := 255) hx hb dX9_feed_5 (by decide) ?_
    refine lv_icmp_le (tgt := 14) hx hb dX9_feed_8 (by decide) (fun c2 => ?_) (fun c2 => ?_)
    · have nc2 : i_0.toInt ≤ 255 := pw_le c2 rfl (by decide)
      refine lv_aload_n hx hb dX9_feed_14 rfl (lv_at hl 0 rfl) ?_
      refine va_get (D := D) (ci := 9) (v := .ref a_tape) (C := RX9) (T := TX9) (N := 14) hx hb hts (fun _ h => List.mem_cons_of_mem _ (List.mem_append_left _ (List.mem_append_right _ h))) hown hK hP 0 rfl rfl 0 (by decide) (hts (.fieldLink RX9 10 "LineCites" "tape" "LLineCites$Tape;") (List.mem_of_getElem? (i := 2) rfl)) (fun _ h9 => h9) rfl dX9_feed_15 ?_
      refine lv_iload_n hx hb dX9_feed_18 rfl (lv_at hl 1 rfl) ?_
      have hPc := hP.sub (ws' := [(a_tape, .inr (7, [.ref a_b, .int 0, .int 0])), (a_b, .inl (k_b, 200, .inl (fun _ => 0)))]) [1, 2] rfl
      have hKc := hK.sub (tys' := [(k_b, .byte)]) [0] rfl
      have hDc := hD.sub (ws' := [(a_tape, .inr (7, [.ref a_b, .int 0, .int 0])), (a_b, .inl (k_b, 200, .inl (fun _ => 0)))]) [1, 2] (by decide) rfl
      have hFc := va_free (wc := [(a_tape, .inr (7, [.ref a_b, .int 0, .int 0])), (a_b, .inl (k_b, 200, .inl (fun _ => 0)))]) hD hS hA [1, 2] rfl
      refine va_calli (va_runV (As := [.int i_0]) (rest := []) ⟨hx, hb, hml, hown, hts⟩ (c_X7_put l D a_tape i_0 a_b k_b H.size) (cwV 1 hts g_X9_feed_X7_put rfl rfl rfl (by decide +kernel) ⟨Nat.le_of_ble_eq_true rfl, Nat.le_of_ble_eq_true rfl⟩) ⟨fun a U g mk q => by obtain ⟨q0, q1, qP, qK, qD⟩ := q; exact ⟨q0, q1, qP, va_K.moved (u := U) (U := U.calling g mk a) (Vm.Alike.refl U.vm) qK, qD⟩, va_recv hKc hPc (ci := 7) (q0 := 0) rfl rfl, fun U hU hW => ⟨rfl, by rw [hU], by rw [hU]; exact hPc, va_K.moved hW.alike hKc, hDc.weaken (fun _ _ _ _ => trivial)⟩⟩ rfl rfl hl.1 rfl (lv_room (Nat.le_of_ble_eq_true rfl)) dX9_feed_19 ⟨Nat.le_of_ble_eq_true rfl, Nat.le_of_ble_eq_true rfl⟩) hS (fun q _ h => hFc q h) hFc (fun r3 u t H1 locs ht hvm hw hB hz1 hk1 hS => ?_)
      obtain ⟨hP1, hK1, hD1⟩ := hB
      rw [ht] at hP1
      have hK1 := va_K.moved hvm.symm hK1
      obtain ⟨hP, hD⟩ := va_join (wr := [(h0, .inr (9, [.ref a_tape, .ref a_now, .ref a_draft, .ref a_reader, .ref a_acts, .ref a_images, .ref a_one, .ref a_other, .ref a_third, .ref a_spans, .ref a_back, .ref a_span, .ref a_middle, .ref a_reached]))]) (w1 := [(a_tape, .inr (7, [.ref a_b, .int 1, .int 0]))]) hP hD [1, 2] [0] rfl rfl (by decide) (by decide) hk1 hFc hP1 hD1
      have hK := (hK.sub (tys' := [(k_b, .byte)]) [0] rfl).app hK1
      generalize H1 = H at hP hS ⊢
      have hP : va_P D vwCl [(h0, .inr (9, [.ref a_tape, .ref a_now, .ref a_draft, .ref a_reader, .ref a_acts, .ref a_images, .ref a_one, .ref a_other, .ref a_third, .ref a_spans, .ref a_back, .ref a_span, .ref a_middle, .ref a_reached])), (a_tape, .inr (7, [.ref a_b, .int 1, .int 0]))] H := hP
      have hD : va_D A [(h0, .inr (9, [.ref a_tape, .ref a_now, .ref a_draft, .ref a_reader, .ref a_acts, .ref a_images, .ref a_one, .ref a_other, .ref a_third, .ref a_spans, .ref a_back, .ref a_span, .ref a_middle, .ref a_reached])), (a_tape, .inr (7, [.ref a_b, .int 1, .int 0]))] := hD
      have hK : va_K D vwCl [(k_b, .byte)] s := hK
      refine W.widen (k := 0) (n := 0) (Nat.le_of_ble_eq_true rfl) (Nat.le_of_ble_eq_true rfl) ?_
      obtain rfl : r3 = 1 := hw
      refine lv_if_eq (tgt := 35) hx hb dX9_feed_22 (by decide) (fun c4 => absurd c4 (by decide)) (fun c4 => ?_)
      refine lv_aload_n hx hb dX9_feed_25 rfl (lv_at hl 0 rfl) ?_
      refine va_get (D := D) (ci := 9) (v := .ref a_tape) (C := RX9) (T := TX9) (N := 14) hx hb hts (fun _ h => List.mem_cons_of_mem _ (List.mem_append_left _ (List.mem_append_right _ h))) hown hK hP 0 rfl rfl 0 (by decide) (hts (.fieldLink RX9 10 "LineCites" "tape" "LLineCites$Tape;") (List.mem_of_getElem? (i := 2) rfl)) (fun _ h9 => h9) rfl dX9_feed_26 ?_
      have hPc := hP.sub (ws' := [(a_tape, .inr (7, [.ref a_b, .int 1, .int 0]))]) [1] rfl
      have hKc := hK.sub (tys' := []) [] rfl
      refine va_calli (va_runV (As := []) (rest := []) ⟨hx, hb, hml, hown, hts⟩ (c_X7_size__1 l D a_tape a_b) (cwV 0 hts g_X9_feed_X7_size__1 rfl rfl rfl (by decide +kernel) ⟨Nat.le_of_ble_eq_true rfl, Nat.le_of_ble_eq_true rfl⟩) ⟨fun a U g mk q => by obtain ⟨q0, qP, qK⟩ := q; exact ⟨q0, qP, va_K.moved (u := U) (U := U.calling g mk a) (Vm.Alike.refl U.vm) qK⟩, va_recv hKc hPc (ci := 7) (q0 := 0) rfl rfl, fun U hU hW => ⟨rfl, by rw [hU]; exact hPc, va_K.moved hW.alike hKc⟩⟩ rfl rfl hl.1 rfl (lv_room (Nat.le_of_ble_eq_true rfl)) dX9_feed_29 ⟨Nat.le_of_ble_eq_true rfl, Nat.le_of_ble_eq_true rfl⟩) hS (fun _ _ h => h.elim) (fun _ h => h.elim) (fun r5 u t H1 locs ht hvm hw hB hz1 hk1 hS => ?_)
      have hP := pw_keep hP (fun q hq => hk1 q hq (fun h => h))
      generalize H1 = H at hP hS ⊢
      refine W.widen (k := 0) (n := 0) (Nat.le_of_ble_eq_true rfl) (Nat.le_of_ble_eq_true rfl) ?_
      obtain rfl : r5 = 1 := hw
      refine lv_goto (tgt := 37) hx hb dX9_feed_32 (by decide) ?_
      have hP9 := hP.sub (ws' := []) [] rfl
      have hD9 := hD.sub (ws' := []) [] (by decide) rfl
      have hK9 := hK.sub (tys' := []) [] rfl
      refine W.widen (k := 0) (n := 0) (Nat.le_of_ble_eq_true rfl) (Nat.le_of_ble_eq_true rfl) ?_
      exact W.iret (v := 1) hx hb hr (fun t ht hW => ⟨⟨1, (), rfl, sp_in (by omega) (by omega), by rw [ht]; exact hP9, va_K.moved hW.alike hK9, hD9⟩, hS.F ht⟩) hS.2.2 dX9_feed_37
    · have nc2 : 255 < i_0.toInt := pw_nle c2 rfl (by decide)
      refine lv_ldc hx hb hown (hts (.constant RX9 88 (-1000001)) (List.mem_of_getElem? (i := 1) rfl)) dX9_feed_11 ?_
      have hP9 := hP.sub (ws' := []) [] rfl
      have hD9 := hD.sub (ws' := []) [] (by decide) rfl
      have hK9 := hK.sub (tys' := []) [] rfl
      refine W.widen (k := 0) (n := 0) (Nat.le_of_ble_eq_true rfl) (Nat.le_of_ble_eq_true rfl) ?_
      exact W.iret (v := (-1000001)) hx hb hr (fun t ht hW => ⟨⟨(-1000001), (), rfl, sp_out (by omega), by rw [ht]; exact hP9, va_K.moved hW.alike hK9, hD9⟩, hS.F ht⟩) hS.2.2 dX9_feed_13
def w_X7_empty : List Cond := .code yX7_empty cX7_empty 1 none :: ([.fieldLink RX7 15 "LineCites$Tape" "size" "I"] ++ wsX70)
set_option maxHeartbeats 4000000 in
set_option maxRecDepth 100000 in
theorem c_X7_empty (l : Launch) (D : va_G) (h0 : Nat) (a_b : Nat) (sz : Nat) : Met l yX7_empty w_X7_empty ({ frames := 0, cells := 0, slots := 0, locals := 0 }) (va_Pc [.ref h0] (fun U => U.heap.size = sz ∧ va_P D vwCl [(h0, .inr (7, [.ref a_b, .int 0, .int 0]))] U.heap ∧ va_K D vwCl [] U ∧ va_D (fun _ => True) [(h0, .inr (7, [.ref a_b, .int 0, .int 0]))])) (va_Qv (fun (_ : Unit) => True) (fun (_ : Unit) t => va_P D vwCl [(h0, .inr (7, [.ref a_b, .int 0, .int 0]))] t.heap ∧ va_K D vwCl [] t ∧ va_D (va_A [(h0, .inr (7, [.ref a_b, .int 0, .int 0]))] sz) [(h0, .inr (7, [.ref a_b, .int 0, .int 0]))]) (va_A [(h0, .inr (7, [.ref a_b, .int 0, .int 0]))] sz)) 0 0 (va_A [(h0, .inr (7, [.ref a_b, .int 0, .int 0]))] sz) := by
  refine Met.ofW (cc := cX7_empty) (maxL := 1) (ret := none) (by decide) rfl ?_
  intro p e s m args below meth c s₁ B hml hv
  obtain ⟨rfl, hsz, hP, hK, hD0⟩ := hv
  have hx := B.exec
  have hb := B.bytes
  have hr := B.returns
  have hts := atoms_spec (ws := w_X7_empty) B.pre
  have hown : s.vm.findClass RX7 = some m.cls := findClass_of_methodNamed B.named
  have hlocks := B.notSynchronized
  subst hsz
  have hD := hD0.self (sz := s.heap.size)
  generalize hAe : va_A [(h0, .inr (7, [.ref a_b, .int 0, .int 0]))] s.heap.size = A at hD ⊢
  have hA : ∀ q : Nat, s.heap.size ≤ q → A q := fun q h => by rw [← hAe]; exact Or.inr h
  have hS : va_S A s.heap s.heap [] := va_S.rf
  have hP : va_P D vwCl [(h0, .inr (7, [.ref a_b, .int 0, .int 0]))] s.heap := hP
  have hl := lv_entry ([.ref h0]) (n := 1) (Nat.le_of_ble_eq_true rfl)
  rw [lg_entry_eq]
  generalize (lg_sl ([.ref h0]) ++ List.replicate (1 - (lg_sl ([.ref h0])).length) Slot.unset).toArray = ls at hl ⊢
  have hl : lv_has ls 1 [(0, .ref h0)] := hl
  obtain ⟨H, hHe⟩ : ∃ H : Heap, H = s.heap := ⟨_, rfl⟩
  rw [← hHe] at hP
  have hS : va_S A s.heap H [] := by rw [hHe]; exact hS
  refine pw_heap hHe ?_
  refine lv_aload_n hx hb dX7_empty_0 rfl (lv_at hl 0 rfl) ?_
  refine lv_iconst (v := 0) hx hb dX7_empty_1 (by decide) ?_
  refine va_put (D := D) (ci := 7) (v := .int 0) (ty := .int) (C := RX7) (T := TX7) (N := 3) hx hb hts (fun _ h => List.mem_cons_of_mem _ (List.mem_append_right _ h)) tyX7 tyX7_ok nmX7 hown hK hP hD hS 0 rfl rfl 1 (by decide) (hts (.fieldLink RX7 15 "LineCites$Tape" "size" "I") (List.mem_of_getElem? (i := 1) rfl)) (fun _ h9 => h9) rfl (by decide +kernel) rfl rfl (Nat.le_of_ble_eq_true rfl) dX7_empty_2 (fun H locs hP hD hS => ?_)
  have hP : va_P D vwCl [(h0, .inr (7, [.ref a_b, .int 0, .int 0]))] H := hP
  have hD : va_D A [(h0, .inr (7, [.ref a_b, .int 0, .int 0]))] := hD
  have hK : va_K D vwCl [] s := hK
  have hP9 := hP.sub (ws' := [(h0, .inr (7, [.ref a_b, .int 0, .int 0]))]) [0] rfl
  have hD9 := hD.sub (ws' := [(h0, .inr (7, [.ref a_b, .int 0, .int 0]))]) [0] (by decide) rfl
  have hK9 := hK.sub (tys' := []) [] rfl
  refine W.widen (k := 0) (n := 0) (Nat.le_of_ble_eq_true rfl) (Nat.le_of_ble_eq_true rfl) ?_
  exact W.vret hx hb hr (fun t ht hW => ⟨⟨(), rfl, trivial, by rw [ht]; exact hP9, va_K.moved hW.alike hK9, hD9⟩, hS.F ht⟩) hS.2.2 dX7_empty_5
def w_X7_noteFault : List Cond := .code yX7_noteFault cX7_noteFault 2 none :: ([.fieldLink RX7 19 "LineCites$Tape" "latestFault" "I"] ++ wsX70)
set_option maxHeartbeats 4000000 in
set_option maxRecDepth 100000 in
theorem c_X7_noteFault (l : Launch) (D : va_G) (h0 : Nat) (a_b : Nat) (sz : Nat) : Met l yX7_noteFault w_X7_noteFault ({ frames := 0, cells := 0, slots := 0, locals := 0 }) (va_Pc [.ref h0, .int 1] (fun U => U.heap.size = sz ∧ va_P D vwCl [(h0, .inr (7, [.ref a_b, .int 0, .int 0]))] U.heap ∧ va_K D vwCl [] U ∧ va_D (fun _ => True) [(h0, .inr (7, [.ref a_b, .int 0, .int 0]))])) (va_Qv (fun (_ : Unit) => True) (fun (_ : Unit) t => va_P D vwCl [(h0, .inr (7, [.ref a_b, .int 0, .int 1]))] t.heap ∧ va_K D vwCl [] t ∧ va_D (va_A [(h0, .inr (7, [.ref a_b, .int 0, .int 0]))] sz) [(h0, .inr (7, [.ref a_b, .int 0, .int 1]))]) (va_A [(h0, .inr (7, [.ref a_b, .int 0, .int 0]))] sz)) 0 0 (va_A [(h0, .inr (7, [.ref a_b, .int 0, .int 0]))] sz) := by
  refine Met.ofW (cc := cX7_noteFault) (maxL := 2) (ret := none) (by decide) rfl ?_
  intro p e s m args below meth c s₁ B hml hv
  obtain ⟨rfl, hsz, hP, hK, hD0⟩ := hv
  have hx := B.exec
  have hb := B.bytes
  have hr := B.returns
  have hts := atoms_spec (ws := w_X7_noteFault) B.pre
  have hown : s.vm.findClass RX7 = some m.cls := findClass_of_methodNamed B.named
  have hlocks := B.notSynchronized
  subst hsz
  have hD := hD0.self (sz := s.heap.size)
  generalize hAe : va_A [(h0, .inr (7, [.ref a_b, .int 0, .int 0]))] s.heap.size = A at hD ⊢
  have hA : ∀ q : Nat, s.heap.size ≤ q → A q := fun q h => by rw [← hAe]; exact Or.inr h
  have hS : va_S A s.heap s.heap [] := va_S.rf
  have hP : va_P D vwCl [(h0, .inr (7, [.ref a_b, .int 0, .int 0]))] s.heap := hP
  have hl := lv_entry ([.ref h0, .int 1]) (n := 2) (Nat.le_of_ble_eq_true rfl)
  rw [lg_entry_eq]
  generalize (lg_sl ([.ref h0, .int 1]) ++ List.replicate (2 - (lg_sl ([.ref h0, .int 1])).length) Slot.unset).toArray = ls at hl ⊢
  have hl : lv_has ls 2 [(0, .ref h0), (1, .int 1)] := hl
  obtain ⟨H, hHe⟩ : ∃ H : Heap, H = s.heap := ⟨_, rfl⟩
  rw [← hHe] at hP
  have hS : va_S A s.heap H [] := by rw [hHe]; exact hS
  refine pw_heap hHe ?_
  refine lv_aload_n hx hb dX7_noteFault_0 rfl (lv_at hl 0 rfl) ?_
  refine lv_iload_n hx hb dX7_noteFault_1 rfl (lv_at hl 1 rfl) ?_
  refine va_put (D := D) (ci := 7) (v := .int 1) (ty := .int) (C := RX7) (T := TX7) (N := 3) hx hb hts (fun _ h => List.mem_cons_of_mem _ (List.mem_append_right _ h)) tyX7 tyX7_ok nmX7 hown hK hP hD hS 0 rfl rfl 2 (by decide) (hts (.fieldLink RX7 19 "LineCites$Tape" "latestFault" "I") (List.mem_of_getElem? (i := 1) rfl)) (fun _ h9 => h9) rfl (by decide +kernel) rfl rfl (Nat.le_of_ble_eq_true rfl) dX7_noteFault_2 (fun H locs hP hD hS => ?_)
  have hP : va_P D vwCl [(h0, .inr (7, [.ref a_b, .int 0, .int 1]))] H := hP
  have hD : va_D A [(h0, .inr (7, [.ref a_b, .int 0, .int 1]))] := hD
  have hK : va_K D vwCl [] s := hK
  have hP9 := hP.sub (ws' := [(h0, .inr (7, [.ref a_b, .int 0, .int 1]))]) [0] rfl
  have hD9 := hD.sub (ws' := [(h0, .inr (7, [.ref a_b, .int 0, .int 1]))]) [0] (by decide) rfl
  have hK9 := hK.sub (tys' := []) [] rfl
  refine W.widen (k := 0) (n := 0) (Nat.le_of_ble_eq_true rfl) (Nat.le_of_ble_eq_true rfl) ?_
  exact W.vret hx hb hr (fun t ht hW => ⟨⟨(), rfl, trivial, by rw [ht]; exact hP9, va_K.moved hW.alike hK9, hD9⟩, hS.F ht⟩) hS.2.2 dX7_noteFault_5
def w_X4_refuse : List Cond := .code yX4_refuse cX4_refuse 2 (some .boolean) :: ([.fieldLink RX4 19 "LineCites$Reader" "faultNumber" "I"] ++ wsX40)
set_option maxHeartbeats 4000000 in
set_option maxRecDepth 100000 in
theorem c_X4_refuse (l : Launch) (D : va_G) (h0 : Nat) (a_t : Nat) (a_d : Nat) (sz : Nat) : Met l yX4_refuse w_X4_refuse ({ frames := 0, cells := 0, slots := 0, locals := 0 }) (va_Pc [.ref h0, .int 1] (fun U => U.heap.size = sz ∧ va_P D vwCl [(h0, .inr (4, [.ref a_t, .ref a_d, .int 0, .int (-1), .int 0, .int 0, .int 0]))] U.heap ∧ va_K D vwCl [] U ∧ va_D (fun _ => True) [(h0, .inr (4, [.ref a_t, .ref a_d, .int 0, .int (-1), .int 0, .int 0, .int 0]))])) (va_Qi (fun (r : Int32) (_ : Unit) => r = 0) (fun (_ : Unit) t => va_P D vwCl [(h0, .inr (4, [.ref a_t, .ref a_d, .int 0, .int (-1), .int 0, .int 0, .int 1]))] t.heap ∧ va_K D vwCl [] t ∧ va_D (va_A [(h0, .inr (4, [.ref a_t, .ref a_d, .int 0, .int (-1), .int 0, .int 0, .int 0]))] sz) [(h0, .inr (4, [.ref a_t, .ref a_d, .int 0, .int (-1), .int 0, .int 0, .int 1]))]) (va_A [(h0, .inr (4, [.ref a_t, .ref a_d, .int 0, .int (-1), .int 0, .int 0, .int 0]))] sz)) 0 0 (va_A [(h0, .inr (4, [.ref a_t, .ref a_d, .int 0, .int (-1), .int 0, .int 0, .int 0]))] sz) := by
  refine Met.ofW (cc := cX4_refuse) (maxL := 2) (ret := (some .boolean)) (by decide) rfl ?_
  intro p e s m args below meth c s₁ B hml hv
  obtain ⟨rfl, hsz, hP, hK, hD0⟩ := hv
  have hx := B.exec
  have hb := B.bytes
  have hr := B.returns
  have hts := atoms_spec (ws := w_X4_refuse) B.pre
  have hown : s.vm.findClass RX4 = some m.cls := findClass_of_methodNamed B.named
  have hlocks := B.notSynchronized
  subst hsz
  have hD := hD0.self (sz := s.heap.size)
  generalize hAe : va_A [(h0, .inr (4, [.ref a_t, .ref a_d, .int 0, .int (-1), .int 0, .int 0, .int 0]))] s.heap.size = A at hD ⊢
  have hA : ∀ q : Nat, s.heap.size ≤ q → A q := fun q h => by rw [← hAe]; exact Or.inr h
  have hS : va_S A s.heap s.heap [] := va_S.rf
  have hP : va_P D vwCl [(h0, .inr (4, [.ref a_t, .ref a_d, .int 0, .int (-1), .int 0, .int 0, .int 0]))] s.heap := hP
  have hl := lv_entry ([.ref h0, .int 1]) (n := 2) (Nat.le_of_ble_eq_true rfl)
  rw [lg_entry_eq]
  generalize (lg_sl ([.ref h0, .int 1]) ++ List.replicate (2 - (lg_sl ([.ref h0, .int 1])).length) Slot.unset).toArray = ls at hl ⊢
  have hl : lv_has ls 2 [(0, .ref h0), (1, .int 1)] := hl
  obtain ⟨H, hHe⟩ : ∃ H : Heap, H = s.heap := ⟨_, rfl⟩
  rw [← hHe] at hP
  have hS : va_S A s.heap H [] := by rw [hHe]; exact hS
  refine pw_heap hHe ?_
  refine lv_aload_n hx hb dX4_refuse_0 rfl (lv_at hl 0 rfl) ?_
  refine lv_iload_n hx hb dX4_refuse_1 rfl (lv_at hl 1 rfl) ?_
  refine va_put (D := D) (ci := 4) (v := .int 1) (ty := .int) (C := RX4) (T := TX4) (N := 7) hx hb hts (fun _ h => List.mem_cons_of_mem _ (List.mem_append_right _ h)) tyX4 tyX4_ok nmX4 hown hK hP hD hS 0 rfl rfl 6 (by decide) (hts (.fieldLink RX4 19 "LineCites$Reader" "faultNumber" "I") (List.mem_of_getElem? (i := 1) rfl)) (fun _ h9 => h9) rfl (by decide +kernel) rfl rfl (Nat.le_of_ble_eq_true rfl) dX4_refuse_2 (fun H locs hP hD hS => ?_)
  have hP : va_P D vwCl [(h0, .inr (4, [.ref a_t, .ref a_d, .int 0, .int (-1), .int 0, .int 0, .int 1]))] H := hP
  have hD : va_D A [(h0, .inr (4, [.ref a_t, .ref a_d, .int 0, .int (-1), .int 0, .int 0, .int 1]))] := hD
  have hK : va_K D vwCl [] s := hK
  refine lv_iconst (v := 0) hx hb dX4_refuse_5 (by decide) ?_
  have hP9 := hP.sub (ws' := [(h0, .inr (4, [.ref a_t, .ref a_d, .int 0, .int (-1), .int 0, .int 0, .int 1]))]) [0] rfl
  have hD9 := hD.sub (ws' := [(h0, .inr (4, [.ref a_t, .ref a_d, .int 0, .int (-1), .int 0, .int 0, .int 1]))]) [0] (by decide) rfl
  have hK9 := hK.sub (tys' := []) [] rfl
  refine W.widen (k := 0) (n := 0) (Nat.le_of_ble_eq_true rfl) (Nat.le_of_ble_eq_true rfl) ?_
  exact W.zret (v := 0) (ty := .boolean) hx hb hr rfl (fun t ht hW => ⟨⟨0, (), rfl, rfl, by rw [ht]; exact hP9, va_K.moved hW.alike hK9, hD9⟩, hS.F ht⟩) hS.2.2 dX4_refuse_6
def w_X4_step : List Cond := .code yX4_step cX4_step 2 none :: ([.fieldLink RX4 26 "LineCites$Reader" "at" "I", .fieldLink RX4 23 "LineCites$Reader" "place" "I", .fieldLink RX4 9 "LineCites$Reader" "tape" "LLineCites$Tape;", .methodLink RX4 87 yX7_size, .instanceMethod yX7_size, .selects RX7 yX7_size yX7_size, .initialized RX7, .code yX7_size cX7_size 1 (some .int), .fieldLink RX7 15 "LineCites$Tape" "size" "I", .fieldLink RX4 48 "LineCites$Reader" "token" "I"] ++ wsX40 ++ wsX70)
set_option maxRecDepth 20000 in
theorem g_X4_step_X7_size : GoodIn w_X4_step (wsV RX4 87 RX7 yX7_size w_X7_size) := goodIn_r _ [4, 5, 6, 7, 8, 9, 18, 19, 20] rfl (by decide +kernel)
set_option maxHeartbeats 4000000 in
set_option maxRecDepth 100000 in
theorem c_X4_step (l : Launch) (D : va_G) (h0 : Nat) (a_t : Nat) (a_d : Nat) (a_b : Nat) (sz : Nat) : Met l yX4_step w_X4_step ({ frames := 1, cells := 0, slots := 0, locals := 20 }) (va_Pc [.ref h0] (fun U => U.heap.size = sz ∧ va_P D vwCl [(h0, .inr (4, [.ref a_t, .ref a_d, .int 0, .int 0, .int 0, .int 0, .int 0])), (a_t, .inr (7, [.ref a_b, .int 0, .int 0]))] U.heap ∧ va_K D vwCl [] U ∧ va_D (fun _ => True) [(h0, .inr (4, [.ref a_t, .ref a_d, .int 0, .int 0, .int 0, .int 0, .int 0])), (a_t, .inr (7, [.ref a_b, .int 0, .int 0]))])) (va_Qv (fun (_ : Unit) => True) (fun (_ : Unit) t => va_P D vwCl [(h0, .inr (4, [.ref a_t, .ref a_d, .int 0, .int (-1), .int 0, .int 0, .int 0])), (a_t, .inr (7, [.ref a_b, .int 0, .int 0]))] t.heap ∧ va_K D vwCl [] t ∧ va_D (va_A [(h0, .inr (4, [.ref a_t, .ref a_d, .int 0, .int 0, .int 0, .int 0, .int 0])), (a_t, .inr (7, [.ref a_b, .int 0, .int 0]))] sz) [(h0, .inr (4, [.ref a_t, .ref a_d, .int 0, .int (-1), .int 0, .int 0, .int 0])), (a_t, .inr (7, [.ref a_b, .int 0, .int 0]))]) (va_A [(h0, .inr (4, [.ref a_t, .ref a_d, .int 0, .int 0, .int 0, .int 0, .int 0])), (a_t, .inr (7, [.ref a_b, .int 0, .int 0]))] sz)) 0 0 (va_A [(h0, .inr (4, [.ref a_t, .ref a_d, .int 0, .int 0, .int 0, .int 0, .int 0])), (a_t, .inr (7, [.ref a_b, .int 0, .int 0]))] sz) := by
  refine Met.ofW (cc := cX4_step) (maxL := 2) (ret := none) (by decide) rfl ?_
  intro p e s m args below meth c s₁ B hml hv
  obtain ⟨rfl, hsz, hP, hK, hD0⟩ := hv
  have hx := B.exec
  have hb := B.bytes
  have hr := B.returns
  have hts := atoms_spec (ws := w_X4_step) B.pre
  have hown : s.vm.findClass RX4 = some m.cls := findClass_of_methodNamed B.named
  have hlocks := B.notSynchronized
  subst hsz
  have hD := hD0.self (sz := s.heap.size)
  generalize hAe : va_A [(h0, .inr (4, [.ref a_t, .ref a_d, .int 0, .int 0, .int 0, .int 0, .int 0])), (a_t, .inr (7, [.ref a_b, .int 0, .int 0]))] s.heap.size = A at hD ⊢
  have hA : ∀ q : Nat, s.heap.size ≤ q → A q := fun q h => by rw [← hAe]; exact Or.inr h
  have hS : va_S A s.heap s.heap [] := va_S.rf
  have hP : va_P D vwCl [(h0, .inr (4, [.ref a_t, .ref a_d, .int 0, .int 0, .int 0, .int 0, .int 0])), (a_t, .inr (7, [.ref a_b, .int 0, .int 0]))] s.heap := hP
  have hl := lv_entry ([.ref h0]) (n := 2) (Nat.le_of_ble_eq_true rfl)
  rw [lg_entry_eq]
  generalize (lg_sl ([.ref h0]) ++ List.replicate (2 - (lg_sl ([.ref h0])).length) Slot.unset).toArray = ls at hl ⊢
  have hl : lv_has ls 2 [(0, .ref h0)] := hl
  obtain ⟨H, hHe⟩ : ∃ H : Heap, H = s.heap := ⟨_, rfl⟩
  rw [← hHe] at hP
  have hS : va_S A s.heap H [] := by rw [hHe]; exact hS
  refine pw_heap hHe ?_
  refine lv_aload_n hx hb dX4_step_0 rfl (lv_at hl 0 rfl) ?_
  refine lv_aload_n hx hb dX4_step_1 rfl (lv_at hl 0 rfl) ?_
  refine va_get (D := D) (ci := 4) (v := .int 0) (C := RX4) (T := TX4) (N := 7) hx hb hts (fun _ h => List.mem_cons_of_mem _ (List.mem_append_left _ (List.mem_append_right _ h))) hown hK hP 0 rfl rfl 2 (by decide) (hts (.fieldLink RX4 26 "LineCites$Reader" "at" "I") (List.mem_of_getElem? (i := 1) rfl)) (fun _ h9 => h9) rfl dX4_step_2 ?_
  refine va_put (D := D) (ci := 4) (v := .int 0) (ty := .int) (C := RX4) (T := TX4) (N := 7) hx hb hts (fun _ h => List.mem_cons_of_mem _ (List.mem_append_left _ (List.mem_append_right _ h))) tyX4 tyX4_ok nmX4 hown hK hP hD hS 0 rfl rfl 4 (by decide) (hts (.fieldLink RX4 23 "LineCites$Reader" "place" "I") (List.mem_of_getElem? (i := 2) rfl)) (fun _ h9 => h9) rfl (by decide +kernel) rfl rfl (Nat.le_of_ble_eq_true rfl) dX4_step_5 (fun H locs hP hD hS => ?_)
  have hP : va_P D vwCl [(h0, .inr (4, [.ref a_t, .ref a_d, .int 0, .int 0, .int 0, .int 0, .int 0])), (a_t, .inr (7, [.ref a_b, .int 0, .int 0]))] H := hP
  have hD : va_D A [(h0, .inr (4, [.ref a_t, .ref a_d, .int 0, .int 0, .int 0, .int 0, .int 0])), (a_t, .inr (7, [.ref a_b, .int 0, .int 0]))] := hD
  have hK : va_K D vwCl [] s := hK
  refine lv_aload_n hx hb dX4_step_8 rfl (lv_at hl 0 rfl) ?_
  refine va_get (D := D) (ci := 4) (v := .int 0) (C := RX4) (T := TX4) (N := 7) hx hb hts (fun _ h => List.mem_cons_of_mem _ (List.mem_append_left _ (List.mem_append_right _ h))) hown hK hP 0 rfl rfl 2 (by decide) (hts (.fieldLink RX4 26 "LineCites$Reader" "at" "I") (List.mem_of_getElem? (i := 1) rfl)) (fun _ h9 => h9) rfl dX4_step_9 ?_
  refine lv_aload_n hx hb dX4_step_12 rfl (lv_at hl 0 rfl) ?_
  refine va_get (D := D) (ci := 4) (v := .ref a_t) (C := RX4) (T := TX4) (N := 7) hx hb hts (fun _ h => List.mem_cons_of_mem _ (List.mem_append_left _ (List.mem_append_right _ h))) hown hK hP 0 rfl rfl 0 (by decide) (hts (.fieldLink RX4 9 "LineCites$Reader" "tape" "LLineCites$Tape;") (List.mem_of_getElem? (i := 3) rfl)) (fun _ h9 => h9) rfl dX4_step_13 ?_
  have hPc := hP.sub (ws' := [(a_t, .inr (7, [.ref a_b, .int 0, .int 0]))]) [1] rfl
  have hKc := hK.sub (tys' := []) [] rfl
  refine va_calli (va_runV (As := []) (rest := [.int 0]) ⟨hx, hb, hml, hown, hts⟩ (c_X7_size l D a_t a_b) (cwV 0 hts g_X4_step_X7_size rfl rfl rfl (by decide +kernel) ⟨Nat.le_of_ble_eq_true rfl, Nat.le_of_ble_eq_true rfl⟩) ⟨fun a U g mk q => by obtain ⟨q0, qP, qK⟩ := q; exact ⟨q0, qP, va_K.moved (u := U) (U := U.calling g mk a) (Vm.Alike.refl U.vm) qK⟩, va_recv hKc hPc (ci := 7) (q0 := 0) rfl rfl, fun U hU hW => ⟨rfl, by rw [hU]; exact hPc, va_K.moved hW.alike hKc⟩⟩ rfl rfl hl.1 rfl (lv_room (Nat.le_of_ble_eq_true rfl)) dX4_step_16 ⟨Nat.le_of_ble_eq_true rfl, Nat.le_of_ble_eq_true rfl⟩) hS (fun _ _ h => h.elim) (fun _ h => h.elim) (fun r1 u t H1 locs ht hvm hw hB hz1 hk1 hS => ?_)
  have hP := pw_keep hP (fun q hq => hk1 q hq (fun h => h))
  generalize H1 = H at hP hS ⊢
  refine W.widen (k := 0) (n := 0) (Nat.le_of_ble_eq_true rfl) (Nat.le_of_ble_eq_true rfl) ?_
  obtain rfl : r1 = 0 := hw
  refine lv_icmp_lt (tgt := 28) hx hb dX4_step_19 (by decide) (fun c2 => absurd c2 (by decide)) (fun c2 => ?_)
  refine lv_aload_n hx hb dX4_step_22 rfl (lv_at hl 0 rfl) ?_
  refine lv_iconst (v := (-1)) hx hb dX4_step_23 (by decide) ?_
  refine va_put (D := D) (ci := 4) (v := .int (-1)) (ty := .int) (C := RX4) (T := TX4) (N := 7) hx hb hts (fun _ h => List.mem_cons_of_mem _ (List.mem_append_left _ (List.mem_append_right _ h))) tyX4 tyX4_ok nmX4 hown hK hP hD hS 0 rfl rfl 3 (by decide) (hts (.fieldLink RX4 48 "LineCites$Reader" "token" "I") (List.mem_of_getElem? (i := 10) rfl)) (fun _ h9 => h9) rfl (by decide +kernel) rfl rfl (Nat.le_of_ble_eq_true rfl) dX4_step_24 (fun H locs hP hD hS => ?_)
  have hP : va_P D vwCl [(h0, .inr (4, [.ref a_t, .ref a_d, .int 0, .int (-1), .int 0, .int 0, .int 0])), (a_t, .inr (7, [.ref a_b, .int 0, .int 0]))] H := hP
  have hD : va_D A [(h0, .inr (4, [.ref a_t, .ref a_d, .int 0, .int (-1), .int 0, .int 0, .int 0])), (a_t, .inr (7, [.ref a_b, .int 0, .int 0]))] := hD
  have hK : va_K D vwCl [] s := hK
  have hP9 := hP.sub (ws' := [(h0, .inr (4, [.ref a_t, .ref a_d, .int 0, .int (-1), .int 0, .int 0, .int 0])), (a_t, .inr (7, [.ref a_b, .int 0, .int 0]))]) [0, 1] rfl
  have hD9 := hD.sub (ws' := [(h0, .inr (4, [.ref a_t, .ref a_d, .int 0, .int (-1), .int 0, .int 0, .int 0])), (a_t, .inr (7, [.ref a_b, .int 0, .int 0]))]) [0, 1] (by decide) rfl
  have hK9 := hK.sub (tys' := []) [] rfl
  refine W.widen (k := 0) (n := 0) (Nat.le_of_ble_eq_true rfl) (Nat.le_of_ble_eq_true rfl) ?_
  exact W.vret hx hb hr (fun t ht hW => ⟨⟨(), rfl, trivial, by rw [ht]; exact hP9, va_K.moved hW.alike hK9, hD9⟩, hS.F ht⟩) hS.2.2 dX4_step_27
def w_X4_expect : List Cond := .code yX4_expect cX4_expect 2 (some .boolean) :: ([.methodLink RX4 45 yX4_step, .instanceMethod yX4_step, .selects RX4 yX4_step yX4_step, .initialized RX4, .code yX4_step cX4_step 2 none, .fieldLink RX4 26 "LineCites$Reader" "at" "I", .fieldLink RX4 23 "LineCites$Reader" "place" "I", .fieldLink RX4 9 "LineCites$Reader" "tape" "LLineCites$Tape;", .methodLink RX4 87 yX7_size, .instanceMethod yX7_size, .selects RX7 yX7_size yX7_size, .initialized RX7, .code yX7_size cX7_size 1 (some .int), .fieldLink RX7 15 "LineCites$Tape" "size" "I", .fieldLink RX4 48 "LineCites$Reader" "token" "I", .methodLink RX4 36 yX4_refuse, .instanceMethod yX4_refuse, .selects RX4 yX4_refuse yX4_refuse, .code yX4_refuse cX4_refuse 2 (some .boolean), .fieldLink RX4 19 "LineCites$Reader" "faultNumber" "I"] ++ wsX40 ++ wsX70)
set_option maxRecDepth 20000 in
theorem g_X4_expect_X4_step : GoodIn w_X4_expect (wsV RX4 45 RX4 yX4_step w_X4_step) := goodIn_r _ [1, 2, 3, 4, 5, 6, 7, 8, 9, 10, 11, 12, 13, 14, 15, 21, 22, 23, 24, 25, 26, 27, 28, 29, 30] rfl (by decide +kernel)
set_option maxRecDepth 20000 in
theorem g_X4_expect_X4_refuse : GoodIn w_X4_expect (wsV RX4 36 RX4 yX4_refuse w_X4_refuse) := goodIn_r _ [16, 17, 18, 4, 19, 20, 21, 22, 23, 24, 25, 26, 27] rfl (by decide +kernel)
set_option maxHeartbeats 4000000 in
set_option maxRecDepth 100000 in
theorem c_X4_expect (l : Launch) (D : va_G) (h0 : Nat) (a_t : Nat) (a_d : Nat) (a_b : Nat) (sz : Nat) : Met l yX4_expect w_X4_expect ({ frames := 2, cells := 0, slots := 0, locals := 41 }) (va_Pc [.ref h0, .int 119] (fun U => U.heap.size = sz ∧ va_P D vwCl [(h0, .inr (4, [.ref a_t, .ref a_d, .int 0, .int 0, .int 0, .int 0, .int 0])), (a_t, .inr (7, [.ref a_b, .int 0, .int 0]))] U.heap ∧ va_K D vwCl [] U ∧ va_D (fun _ => True) [(h0, .inr (4, [.ref a_t, .ref a_d, .int 0, .int 0, .int 0, .int 0, .int 0])), (a_t, .inr (7, [.ref a_b, .int 0, .int 0]))])) (va_Qi (fun (r : Int32) (_ : Unit) => r = 0) (fun (_ : Unit) t => va_P D vwCl [(h0, .inr (4, [.ref a_t, .ref a_d, .int 0, .int (-1), .int 0, .int 0, .int 1])), (a_t, .inr (7, [.ref a_b, .int 0, .int 0]))] t.heap ∧ va_K D vwCl [] t ∧ va_D (va_A [(h0, .inr (4, [.ref a_t, .ref a_d, .int 0, .int 0, .int 0, .int 0, .int 0])), (a_t, .inr (7, [.ref a_b, .int 0, .int 0]))] sz) [(h0, .inr (4, [.ref a_t, .ref a_d, .int 0, .int (-1), .int 0, .int 0, .int 1])), (a_t, .inr (7, [.ref a_b, .int 0, .int 0]))]) (va_A [(h0, .inr (4, [.ref a_t, .ref a_d, .int 0, .int 0, .int 0, .int 0, .int 0])), (a_t, .inr (7, [.ref a_b, .int 0, .int 0]))] sz)) 0 0 (va_A [(h0, .inr (4, [.ref a_t, .ref a_d, .int 0, .int 0, .int 0, .int 0, .int 0])), (a_t, .inr (7, [.ref a_b, .int 0, .int 0]))] sz) := by
  refine Met.ofW (cc := cX4_expect) (maxL := 2) (ret := (some .boolean)) (by decide) rfl ?_
  intro p e s m args below meth c s₁ B hml hv
  obtain ⟨rfl, hsz, hP, hK, hD0⟩ := hv
  have hx := B.exec
  have hb := B.bytes
  have hr := B.returns
  have hts := atoms_spec (ws := w_X4_expect) B.pre
  have hown : s.vm.findClass RX4 = some m.cls := findClass_of_methodNamed B.named
  have hlocks := B.notSynchronized
  subst hsz
  have hD := hD0.self (sz := s.heap.size)
  generalize hAe : va_A [(h0, .inr (4, [.ref a_t, .ref a_d, .int 0, .int 0, .int 0, .int 0, .int 0])), (a_t, .inr (7, [.ref a_b, .int 0, .int 0]))] s.heap.size = A at hD ⊢
  have hA : ∀ q : Nat, s.heap.size ≤ q → A q := fun q h => by rw [← hAe]; exact Or.inr h
  have hS : va_S A s.heap s.heap [] := va_S.rf
  have hP : va_P D vwCl [(h0, .inr (4, [.ref a_t, .ref a_d, .int 0, .int 0, .int 0, .int 0, .int 0])), (a_t, .inr (7, [.ref a_b, .int 0, .int 0]))] s.heap := hP
  have hl := lv_entry ([.ref h0, .int 119]) (n := 2) (Nat.le_of_ble_eq_true rfl)
  rw [lg_entry_eq]
  generalize (lg_sl ([.ref h0, .int 119]) ++ List.replicate (2 - (lg_sl ([.ref h0, .int 119])).length) Slot.unset).toArray = ls at hl ⊢
  have hl : lv_has ls 2 [(0, .ref h0), (1, .int 119)] := hl
  obtain ⟨H, hHe⟩ : ∃ H : Heap, H = s.heap := ⟨_, rfl⟩
  rw [← hHe] at hP
  have hS : va_S A s.heap H [] := by rw [hHe]; exact hS
  refine pw_heap hHe ?_
  refine lv_aload_n hx hb dX4_expect_0 rfl (lv_at hl 0 rfl) ?_
  have hPc := hP.sub (ws' := [(h0, .inr (4, [.ref a_t, .ref a_d, .int 0, .int 0, .int 0, .int 0, .int 0])), (a_t, .inr (7, [.ref a_b, .int 0, .int 0]))]) [0, 1] rfl
  have hKc := hK.sub (tys' := []) [] rfl
  have hDc := hD.sub (ws' := [(h0, .inr (4, [.ref a_t, .ref a_d, .int 0, .int 0, .int 0, .int 0, .int 0])), (a_t, .inr (7, [.ref a_b, .int 0, .int 0]))]) [0, 1] (by decide) rfl
  have hFc := va_free (wc := [(h0, .inr (4, [.ref a_t, .ref a_d, .int 0, .int 0, .int 0, .int 0, .int 0])), (a_t, .inr (7, [.ref a_b, .int 0, .int 0]))]) hD hS hA [0, 1] rfl
  refine va_callv (va_runV (As := []) (rest := []) ⟨hx, hb, hml, hown, hts⟩ (c_X4_step l D h0 a_t a_d a_b H.size) (cwV 0 hts g_X4_expect_X4_step rfl rfl rfl (by decide +kernel) ⟨Nat.le_of_ble_eq_true rfl, Nat.le_of_ble_eq_true rfl⟩) ⟨fun a U g mk q => by obtain ⟨q0, q1, qP, qK, qD⟩ := q; exact ⟨q0, q1, qP, va_K.moved (u := U) (U := U.calling g mk a) (Vm.Alike.refl U.vm) qK, qD⟩, va_recv hKc hPc (ci := 4) (q0 := 0) rfl rfl, fun U hU hW => ⟨rfl, by rw [hU], by rw [hU]; exact hPc, va_K.moved hW.alike hKc, hDc.weaken (fun _ _ _ _ => trivial)⟩⟩ rfl rfl hl.1 rfl (lv_room (Nat.le_of_ble_eq_true rfl)) dX4_expect_1 ⟨Nat.le_of_ble_eq_true rfl, Nat.le_of_ble_eq_true rfl⟩) hS (fun q _ h => hFc q h) hFc (fun u t H1 locs ht hvm hw hB hz1 hk1 hS => ?_)
  obtain ⟨hP1, hK1, hD1⟩ := hB
  rw [ht] at hP1
  have hK1 := va_K.moved hvm.symm hK1
  obtain ⟨hP, hD⟩ := va_join (wr := []) (w1 := [(h0, .inr (4, [.ref a_t, .ref a_d, .int 0, .int (-1), .int 0, .int 0, .int 0])), (a_t, .inr (7, [.ref a_b, .int 0, .int 0]))]) hP hD [0, 1] [] rfl rfl (by decide) (by decide) hk1 hFc hP1 hD1
  have hK := (hK.sub (tys' := []) [] rfl).app hK1
  generalize H1 = H at hP hS ⊢
  have hP : va_P D vwCl [(h0, .inr (4, [.ref a_t, .ref a_d, .int 0, .int (-1), .int 0, .int 0, .int 0])), (a_t, .inr (7, [.ref a_b, .int 0, .int 0]))] H := hP
  have hD : va_D A [(h0, .inr (4, [.ref a_t, .ref a_d, .int 0, .int (-1), .int 0, .int 0, .int 0])), (a_t, .inr (7, [.ref a_b, .int 0, .int 0]))] := hD
  have hK : va_K D vwCl [] s := hK
  refine W.widen (k := 0) (n := 0) (Nat.le_of_ble_eq_true rfl) (Nat.le_of_ble_eq_true rfl) ?_
  refine lv_aload_n hx hb dX4_expect_4 rfl (lv_at hl 0 rfl) ?_
  refine va_get (D := D) (ci := 4) (v := .int (-1)) (C := RX4) (T := TX4) (N := 7) hx hb hts (fun _ h => List.mem_cons_of_mem _ (List.mem_append_left _ (List.mem_append_right _ h))) hown hK hP 0 rfl rfl 3 (by decide) (hts (.fieldLink RX4 48 "LineCites$Reader" "token" "I") (List.mem_of_getElem? (i := 15) rfl)) (fun _ h9 => h9) rfl dX4_expect_5 ?_
  refine lv_iload_n hx hb dX4_expect_8 rfl (lv_at hl 1 rfl) ?_
  refine lv_icmp_eq (tgt := 20) hx hb dX4_expect_9 (by decide) (fun c2 => absurd c2 (by decide)) (fun c2 => ?_)
  refine lv_aload_n hx hb dX4_expect_12 rfl (lv_at hl 0 rfl) ?_
  refine lv_iconst (v := 1) hx hb dX4_expect_13 (by decide) ?_
  have hPc := hP.sub (ws' := [(h0, .inr (4, [.ref a_t, .ref a_d, .int 0, .int (-1), .int 0, .int 0, .int 0]))]) [0] rfl
  have hKc := hK.sub (tys' := []) [] rfl
  have hDc := hD.sub (ws' := [(h0, .inr (4, [.ref a_t, .ref a_d, .int 0, .int (-1), .int 0, .int 0, .int 0]))]) [0] (by decide) rfl
  have hFc := va_free (wc := [(h0, .inr (4, [.ref a_t, .ref a_d, .int 0, .int (-1), .int 0, .int 0, .int 0]))]) hD hS hA [0] rfl
  refine va_calli (va_runV (As := [.int 1]) (rest := []) ⟨hx, hb, hml, hown, hts⟩ (c_X4_refuse l D h0 a_t a_d H.size) (cwV 1 hts g_X4_expect_X4_refuse rfl rfl rfl (by decide +kernel) ⟨Nat.le_of_ble_eq_true rfl, Nat.le_of_ble_eq_true rfl⟩) ⟨fun a U g mk q => by obtain ⟨q0, q1, qP, qK, qD⟩ := q; exact ⟨q0, q1, qP, va_K.moved (u := U) (U := U.calling g mk a) (Vm.Alike.refl U.vm) qK, qD⟩, va_recv hKc hPc (ci := 4) (q0 := 0) rfl rfl, fun U hU hW => ⟨rfl, by rw [hU], by rw [hU]; exact hPc, va_K.moved hW.alike hKc, hDc.weaken (fun _ _ _ _ => trivial)⟩⟩ rfl rfl hl.1 rfl (lv_room (Nat.le_of_ble_eq_true rfl)) dX4_expect_14 ⟨Nat.le_of_ble_eq_true rfl, Nat.le_of_ble_eq_true rfl⟩) hS (fun q _ h => hFc q h) hFc (fun r3 u t H1 locs ht hvm hw hB hz1 hk1 hS => ?_)
  obtain ⟨hP1, hK1, hD1⟩ := hB
  rw [ht] at hP1
  have hK1 := va_K.moved hvm.symm hK1
  obtain ⟨hP, hD⟩ := va_join (wr := [(a_t, .inr (7, [.ref a_b, .int 0, .int 0]))]) (w1 := [(h0, .inr (4, [.ref a_t, .ref a_d, .int 0, .int (-1), .int 0, .int 0, .int 1]))]) hP hD [0] [1] rfl rfl (by decide) (by decide) hk1 hFc hP1 hD1
  have hK := (hK.sub (tys' := []) [] rfl).app hK1
  generalize H1 = H at hP hS ⊢
  have hP : va_P D vwCl [(a_t, .inr (7, [.ref a_b, .int 0, .int 0])), (h0, .inr (4, [.ref a_t, .ref a_d, .int 0, .int (-1), .int 0, .int 0, .int 1]))] H := hP
  have hD : va_D A [(a_t, .inr (7, [.ref a_b, .int 0, .int 0])), (h0, .inr (4, [.ref a_t, .ref a_d, .int 0, .int (-1), .int 0, .int 0, .int 1]))] := hD
  have hK : va_K D vwCl [] s := hK
  refine W.widen (k := 0) (n := 0) (Nat.le_of_ble_eq_true rfl) (Nat.le_of_ble_eq_true rfl) ?_
  obtain rfl : r3 = 0 := hw
  refine lv_if_eq (tgt := 24) hx hb dX4_expect_17 (by decide) (fun c4 => ?_) (fun c4 => absurd (by decide) c4)
  refine lv_iconst (v := 0) hx hb dX4_expect_24 (by decide) ?_
  have hP9 := hP.sub (ws' := [(h0, .inr (4, [.ref a_t, .ref a_d, .int 0, .int (-1), .int 0, .int 0, .int 1])), (a_t, .inr (7, [.ref a_b, .int 0, .int 0]))]) [1, 0] rfl
  have hD9 := hD.sub (ws' := [(h0, .inr (4, [.ref a_t, .ref a_d, .int 0, .int (-1), .int 0, .int 0, .int 1])), (a_t, .inr (7, [.ref a_b, .int 0, .int 0]))]) [1, 0] (by decide) rfl
  have hK9 := hK.sub (tys' := []) [] rfl
  refine W.widen (k := 0) (n := 0) (Nat.le_of_ble_eq_true rfl) (Nat.le_of_ble_eq_true rfl) ?_
  exact W.zret (v := 0) (ty := .boolean) hx hb hr rfl (fun t ht hW => ⟨⟨0, (), rfl, rfl, by rw [ht]; exact hP9, va_K.moved hW.alike hK9, hD9⟩, hS.F ht⟩) hS.2.2 dX4_expect_25
def w_X4_readHead : List Cond := .code yX4_readHead cX4_readHead 1 (some .boolean) :: ([.fieldLink RX4 26 "LineCites$Reader" "at" "I", .methodLink RX4 29 yX4_expect, .instanceMethod yX4_expect, .selects RX4 yX4_expect yX4_expect, .initialized RX4, .code yX4_expect cX4_expect 2 (some .boolean), .methodLink RX4 45 yX4_step, .instanceMethod yX4_step, .selects RX4 yX4_step yX4_step, .code yX4_step cX4_step 2 none, .fieldLink RX4 23 "LineCites$Reader" "place" "I", .fieldLink RX4 9 "LineCites$Reader" "tape" "LLineCites$Tape;", .methodLink RX4 87 yX7_size, .instanceMethod yX7_size, .selects RX7 yX7_size yX7_size, .initialized RX7, .code yX7_size cX7_size 1 (some .int), .fieldLink RX7 15 "LineCites$Tape" "size" "I", .fieldLink RX4 48 "LineCites$Reader" "token" "I", .methodLink RX4 36 yX4_refuse, .instanceMethod yX4_refuse, .selects RX4 yX4_refuse yX4_refuse, .code yX4_refuse cX4_refuse 2 (some .boolean), .fieldLink RX4 19 "LineCites$Reader" "faultNumber" "I"] ++ wsX40 ++ wsX70)
set_option maxRecDepth 20000 in
theorem g_X4_readHead_X4_expect : GoodIn w_X4_readHead (wsV RX4 29 RX4 yX4_expect w_X4_expect) := goodIn_r _ [2, 3, 4, 5, 6, 7, 8, 9, 5, 10, 1, 11, 12, 13, 14, 15, 16, 17, 18, 19, 20, 21, 22, 23, 24, 25, 26, 27, 28, 29, 30, 31, 32, 33, 34] rfl (by decide +kernel)
set_option maxHeartbeats 4000000 in
set_option maxRecDepth 100000 in
theorem c_X4_readHead (l : Launch) (D : va_G) (h0 : Nat) (a_t : Nat) (a_d : Nat) (a_b : Nat) (sz : Nat) : Met l yX4_readHead w_X4_readHead ({ frames := 3, cells := 0, slots := 0, locals := 62 }) (va_Pc [.ref h0] (fun U => U.heap.size = sz ∧ va_P D vwCl [(h0, .inr (4, [.ref a_t, .ref a_d, .int 0, .int 0, .int 0, .int 0, .int 0])), (a_t, .inr (7, [.ref a_b, .int 0, .int 0]))] U.heap ∧ va_K D vwCl [] U ∧ va_D (fun _ => True) [(h0, .inr (4, [.ref a_t, .ref a_d, .int 0, .int 0, .int 0, .int 0, .int 0])), (a_t, .inr (7, [.ref a_b, .int 0, .int 0]))])) (va_Qi (fun (r : Int32) (_ : Unit) => r = 0) (fun (_ : Unit) t => va_P D vwCl [(h0, .inr (4, [.ref a_t, .ref a_d, .int 0, .int (-1), .int 0, .int 0, .int 1])), (a_t, .inr (7, [.ref a_b, .int 0, .int 0]))] t.heap ∧ va_K D vwCl [] t ∧ va_D (va_A [(h0, .inr (4, [.ref a_t, .ref a_d, .int 0, .int 0, .int 0, .int 0, .int 0])), (a_t, .inr (7, [.ref a_b, .int 0, .int 0]))] sz) [(h0, .inr (4, [.ref a_t, .ref a_d, .int 0, .int (-1), .int 0, .int 0, .int 1])), (a_t, .inr (7, [.ref a_b, .int 0, .int 0]))]) (va_A [(h0, .inr (4, [.ref a_t, .ref a_d, .int 0, .int 0, .int 0, .int 0, .int 0])), (a_t, .inr (7, [.ref a_b, .int 0, .int 0]))] sz)) 0 0 (va_A [(h0, .inr (4, [.ref a_t, .ref a_d, .int 0, .int 0, .int 0, .int 0, .int 0])), (a_t, .inr (7, [.ref a_b, .int 0, .int 0]))] sz) := by
  refine Met.ofW (cc := cX4_readHead) (maxL := 1) (ret := (some .boolean)) (by decide) rfl ?_
  intro p e s m args below meth c s₁ B hml hv
  obtain ⟨rfl, hsz, hP, hK, hD0⟩ := hv
  have hx := B.exec
  have hb := B.bytes
  have hr := B.returns
  have hts := atoms_spec (ws := w_X4_readHead) B.pre
  have hown : s.vm.findClass RX4 = some m.cls := findClass_of_methodNamed B.named
  have hlocks := B.notSynchronized
  subst hsz
  have hD := hD0.self (sz := s.heap.size)
  generalize hAe : va_A [(h0, .inr (4, [.ref a_t, .ref a_d, .int 0, .int 0, .int 0, .int 0, .int 0])), (a_t, .inr (7, [.ref a_b, .int 0, .int 0]))] s.heap.size = A at hD ⊢
  have hA : ∀ q : Nat, s.heap.size ≤ q → A q := fun q h => by rw [← hAe]; exact Or.inr h
  have hS : va_S A s.heap s.heap [] := va_S.rf
  have hP : va_P D vwCl [(h0, .inr (4, [.ref a_t, .ref a_d, .int 0, .int 0, .int 0, .int 0, .int 0])), (a_t, .inr (7, [.ref a_b, .int 0, .int 0]))] s.heap := hP
  have hl := lv_entry ([.ref h0]) (n := 1) (Nat.le_of_ble_eq_true rfl)
  rw [lg_entry_eq]
  generalize (lg_sl ([.ref h0]) ++ List.replicate (1 - (lg_sl ([.ref h0])).length) Slot.unset).toArray = ls at hl ⊢
  have hl : lv_has ls 1 [(0, .ref h0)] := hl
  obtain ⟨H, hHe⟩ : ∃ H : Heap, H = s.heap := ⟨_, rfl⟩
  rw [← hHe] at hP
  have hS : va_S A s.heap H [] := by rw [hHe]; exact hS
  refine pw_heap hHe ?_
  refine lv_aload_n hx hb dX4_readHead_0 rfl (lv_at hl 0 rfl) ?_
  refine lv_iconst (v := 0) hx hb dX4_readHead_1 (by decide) ?_
  refine va_put (D := D) (ci := 4) (v := .int 0) (ty := .int) (C := RX4) (T := TX4) (N := 7) hx hb hts (fun _ h => List.mem_cons_of_mem _ (List.mem_append_left _ (List.mem_append_right _ h))) tyX4 tyX4_ok nmX4 hown hK hP hD hS 0 rfl rfl 2 (by decide) (hts (.fieldLink RX4 26 "LineCites$Reader" "at" "I") (List.mem_of_getElem? (i := 1) rfl)) (fun _ h9 => h9) rfl (by decide +kernel) rfl rfl (Nat.le_of_ble_eq_true rfl) dX4_readHead_2 (fun H locs hP hD hS => ?_)
  have hP : va_P D vwCl [(h0, .inr (4, [.ref a_t, .ref a_d, .int 0, .int 0, .int 0, .int 0, .int 0])), (a_t, .inr (7, [.ref a_b, .int 0, .int 0]))] H := hP
  have hD : va_D A [(h0, .inr (4, [.ref a_t, .ref a_d, .int 0, .int 0, .int 0, .int 0, .int 0])), (a_t, .inr (7, [.ref a_b, .int 0, .int 0]))] := hD
  have hK : va_K D vwCl [] s := hK
  refine lv_aload_n hx hb dX4_readHead_5 rfl (lv_at hl 0 rfl) ?_
  refine lv_bipush (v := 119) hx hb dX4_readHead_6 (by decide) ?_
  have hPc := hP.sub (ws' := [(h0, .inr (4, [.ref a_t, .ref a_d, .int 0, .int 0, .int 0, .int 0, .int 0])), (a_t, .inr (7, [.ref a_b, .int 0, .int 0]))]) [0, 1] rfl
  have hKc := hK.sub (tys' := []) [] rfl
  have hDc := hD.sub (ws' := [(h0, .inr (4, [.ref a_t, .ref a_d, .int 0, .int 0, .int 0, .int 0, .int 0])), (a_t, .inr (7, [.ref a_b, .int 0, .int 0]))]) [0, 1] (by decide) rfl
  have hFc := va_free (wc := [(h0, .inr (4, [.ref a_t, .ref a_d, .int 0, .int 0, .int 0, .int 0, .int 0])), (a_t, .inr (7, [.ref a_b, .int 0, .int 0]))]) hD hS hA [0, 1] rfl
  refine va_calli (va_runV (As := [.int 119]) (rest := []) ⟨hx, hb, hml, hown, hts⟩ (c_X4_expect l D h0 a_t a_d a_b H.size) (cwV 1 hts g_X4_readHead_X4_expect rfl rfl rfl (by decide +kernel) ⟨Nat.le_of_ble_eq_true rfl, Nat.le_of_ble_eq_true rfl⟩) ⟨fun a U g mk q => by obtain ⟨q0, q1, qP, qK, qD⟩ := q; exact ⟨q0, q1, qP, va_K.moved (u := U) (U := U.calling g mk a) (Vm.Alike.refl U.vm) qK, qD⟩, va_recv hKc hPc (ci := 4) (q0 := 0) rfl rfl, fun U hU hW => ⟨rfl, by rw [hU], by rw [hU]; exact hPc, va_K.moved hW.alike hKc, hDc.weaken (fun _ _ _ _ => trivial)⟩⟩ rfl rfl hl.1 rfl (lv_room (Nat.le_of_ble_eq_true rfl)) dX4_readHead_8 ⟨Nat.le_of_ble_eq_true rfl, Nat.le_of_ble_eq_true rfl⟩) hS (fun q _ h => hFc q h) hFc (fun r1 u t H1 locs ht hvm hw hB hz1 hk1 hS => ?_)
  obtain ⟨hP1, hK1, hD1⟩ := hB
  rw [ht] at hP1
  have hK1 := va_K.moved hvm.symm hK1
  obtain ⟨hP, hD⟩ := va_join (wr := []) (w1 := [(h0, .inr (4, [.ref a_t, .ref a_d, .int 0, .int (-1), .int 0, .int 0, .int 1])), (a_t, .inr (7, [.ref a_b, .int 0, .int 0]))]) hP hD [0, 1] [] rfl rfl (by decide) (by decide) hk1 hFc hP1 hD1
  have hK := (hK.sub (tys' := []) [] rfl).app hK1
  generalize H1 = H at hP hS ⊢
  have hP : va_P D vwCl [(h0, .inr (4, [.ref a_t, .ref a_d, .int 0, .int (-1), .int 0, .int 0, .int 1])), (a_t, .inr (7, [.ref a_b, .int 0, .int 0]))] H := hP
  have hD : va_D A [(h0, .inr (4, [.ref a_t, .ref a_d, .int 0, .int (-1), .int 0, .int 0, .int 1])), (a_t, .inr (7, [.ref a_b, .int 0, .int 0]))] := hD
  have hK : va_K D vwCl [] s := hK
  refine W.widen (k := 0) (n := 0) (Nat.le_of_ble_eq_true rfl) (Nat.le_of_ble_eq_true rfl) ?_
  obtain rfl : r1 = 0 := hw
  refine lv_if_eq (tgt := 23) hx hb dX4_readHead_11 (by decide) (fun c2 => ?_) (fun c2 => absurd (by decide) c2)
  refine lv_iconst (v := 0) hx hb dX4_readHead_23 (by decide) ?_
  have hP9 := hP.sub (ws' := [(h0, .inr (4, [.ref a_t, .ref a_d, .int 0, .int (-1), .int 0, .int 0, .int 1])), (a_t, .inr (7, [.ref a_b, .int 0, .int 0]))]) [0, 1] rfl
  have hD9 := hD.sub (ws' := [(h0, .inr (4, [.ref a_t, .ref a_d, .int 0, .int (-1), .int 0, .int 0, .int 1])), (a_t, .inr (7, [.ref a_b, .int 0, .int 0]))]) [0, 1] (by decide) rfl
  have hK9 := hK.sub (tys' := []) [] rfl
  refine W.widen (k := 0) (n := 0) (Nat.le_of_ble_eq_true rfl) (Nat.le_of_ble_eq_true rfl) ?_
  exact W.zret (v := 0) (ty := .boolean) hx hb hr rfl (fun t ht hW => ⟨⟨0, (), rfl, rfl, by rw [ht]; exact hP9, va_K.moved hW.alike hK9, hD9⟩, hS.F ht⟩) hS.2.2 dX4_readHead_24
def w_X4_faultNumber : List Cond := .code yX4_faultNumber cX4_faultNumber 1 (some .int) :: ([.fieldLink RX4 19 "LineCites$Reader" "faultNumber" "I"] ++ wsX40)
set_option maxHeartbeats 4000000 in
set_option maxRecDepth 100000 in
theorem c_X4_faultNumber (l : Launch) (D : va_G) (h0 : Nat) (a_t : Nat) (a_d : Nat) : Met l yX4_faultNumber w_X4_faultNumber ({ frames := 0, cells := 0, slots := 0, locals := 0 }) (va_Pc [.ref h0] (fun U => va_P D vwCl [(h0, .inr (4, [.ref a_t, .ref a_d, .int 0, .int (-1), .int 0, .int 0, .int 1]))] U.heap ∧ va_K D vwCl [] U)) (va_Qi (fun (r : Int32) (_ : Unit) => r = 1) (fun _ _ => True) (fun _ => False)) 0 0 (fun _ => False) := by
  refine Met.ofW (cc := cX4_faultNumber) (maxL := 1) (ret := (some .int)) (by decide) rfl ?_
  intro p e s m args below meth c s₁ B hml hv
  obtain ⟨rfl, hP, hK⟩ := hv
  have hx := B.exec
  have hb := B.bytes
  have hr := B.returns
  have hts := atoms_spec (ws := w_X4_faultNumber) B.pre
  have hown : s.vm.findClass RX4 = some m.cls := findClass_of_methodNamed B.named
  have hlocks := B.notSynchronized
  have hS : va_S (fun _ : Nat => False) s.heap s.heap [] := va_S.rf
  have hP : va_P D vwCl [(h0, .inr (4, [.ref a_t, .ref a_d, .int 0, .int (-1), .int 0, .int 0, .int 1]))] s.heap := hP
  have hl := lv_entry ([.ref h0]) (n := 1) (Nat.le_of_ble_eq_true rfl)
  rw [lg_entry_eq]
  generalize (lg_sl ([.ref h0]) ++ List.replicate (1 - (lg_sl ([.ref h0])).length) Slot.unset).toArray = ls at hl ⊢
  have hl : lv_has ls 1 [(0, .ref h0)] := hl
  obtain ⟨H, hHe⟩ : ∃ H : Heap, H = s.heap := ⟨_, rfl⟩
  rw [← hHe] at hP
  have hS : va_S (fun _ : Nat => False) s.heap H [] := by rw [hHe]; exact hS
  refine pw_heap hHe ?_
  refine lv_aload_n hx hb dX4_faultNumber_0 rfl (lv_at hl 0 rfl) ?_
  refine va_get (D := D) (ci := 4) (v := .int 1) (C := RX4) (T := TX4) (N := 7) hx hb hts (fun _ h => List.mem_cons_of_mem _ (List.mem_append_right _ h)) hown hK hP 0 rfl rfl 6 (by decide) (hts (.fieldLink RX4 19 "LineCites$Reader" "faultNumber" "I") (List.mem_of_getElem? (i := 1) rfl)) (fun _ h9 => h9) rfl dX4_faultNumber_1 ?_
  exact W.iret (v := 1) hx hb hr (fun t ht hW => ⟨⟨1, (), rfl, rfl, trivial⟩, hS.F ht⟩) hS.2.2 dX4_faultNumber_4
def w_X4_faultPlace : List Cond := .code yX4_faultPlace cX4_faultPlace 1 (some .int) :: ([.fieldLink RX4 23 "LineCites$Reader" "place" "I"] ++ wsX40)
set_option maxHeartbeats 4000000 in
set_option maxRecDepth 100000 in
theorem c_X4_faultPlace (l : Launch) (D : va_G) (h0 : Nat) (a_t : Nat) (a_d : Nat) : Met l yX4_faultPlace w_X4_faultPlace ({ frames := 0, cells := 0, slots := 0, locals := 0 }) (va_Pc [.ref h0] (fun U => va_P D vwCl [(h0, .inr (4, [.ref a_t, .ref a_d, .int 0, .int (-1), .int 0, .int 0, .int 1]))] U.heap ∧ va_K D vwCl [] U)) (va_Qi (fun (r : Int32) (_ : Unit) => r = 0) (fun _ _ => True) (fun _ => False)) 0 0 (fun _ => False) := by
  refine Met.ofW (cc := cX4_faultPlace) (maxL := 1) (ret := (some .int)) (by decide) rfl ?_
  intro p e s m args below meth c s₁ B hml hv
  obtain ⟨rfl, hP, hK⟩ := hv
  have hx := B.exec
  have hb := B.bytes
  have hr := B.returns
  have hts := atoms_spec (ws := w_X4_faultPlace) B.pre
  have hown : s.vm.findClass RX4 = some m.cls := findClass_of_methodNamed B.named
  have hlocks := B.notSynchronized
  have hS : va_S (fun _ : Nat => False) s.heap s.heap [] := va_S.rf
  have hP : va_P D vwCl [(h0, .inr (4, [.ref a_t, .ref a_d, .int 0, .int (-1), .int 0, .int 0, .int 1]))] s.heap := hP
  have hl := lv_entry ([.ref h0]) (n := 1) (Nat.le_of_ble_eq_true rfl)
  rw [lg_entry_eq]
  generalize (lg_sl ([.ref h0]) ++ List.replicate (1 - (lg_sl ([.ref h0])).length) Slot.unset).toArray = ls at hl ⊢
  have hl : lv_has ls 1 [(0, .ref h0)] := hl
  obtain ⟨H, hHe⟩ : ∃ H : Heap, H = s.heap := ⟨_, rfl⟩
  rw [← hHe] at hP
  have hS : va_S (fun _ : Nat => False) s.heap H [] := by rw [hHe]; exact hS
  refine pw_heap hHe ?_
  refine lv_aload_n hx hb dX4_faultPlace_0 rfl (lv_at hl 0 rfl) ?_
  refine va_get (D := D) (ci := 4) (v := .int 0) (C := RX4) (T := TX4) (N := 7) hx hb hts (fun _ h => List.mem_cons_of_mem _ (List.mem_append_right _ h)) hown hK hP 0 rfl rfl 4 (by decide) (hts (.fieldLink RX4 23 "LineCites$Reader" "place" "I") (List.mem_of_getElem? (i := 1) rfl)) (fun _ h9 => h9) rfl dX4_faultPlace_1 ?_
  exact W.iret (v := 0) hx hb hr (fun t ht hW => ⟨⟨0, (), rfl, rfl, trivial⟩, hS.F ht⟩) hS.2.2 dX4_faultPlace_4
def w_X9_work : List Cond := .code yX9_work cX9_work 2 (some .int) :: ([.fieldLink RX9 31 "LineCites" "reader" "LLineCites$Reader;", .methodLink RX9 98 yX4_readHead, .instanceMethod yX4_readHead, .selects RX4 yX4_readHead yX4_readHead, .initialized RX4, .code yX4_readHead cX4_readHead 1 (some .boolean), .fieldLink RX4 26 "LineCites$Reader" "at" "I", .methodLink RX4 29 yX4_expect, .instanceMethod yX4_expect, .selects RX4 yX4_expect yX4_expect, .code yX4_expect cX4_expect 2 (some .boolean), .methodLink RX4 45 yX4_step, .instanceMethod yX4_step, .selects RX4 yX4_step yX4_step, .code yX4_step cX4_step 2 none, .fieldLink RX4 23 "LineCites$Reader" "place" "I", .fieldLink RX4 9 "LineCites$Reader" "tape" "LLineCites$Tape;", .methodLink RX4 87 yX7_size, .instanceMethod yX7_size, .selects RX7 yX7_size yX7_size, .initialized RX7, .code yX7_size cX7_size 1 (some .int), .fieldLink RX7 15 "LineCites$Tape" "size" "I", .fieldLink RX4 48 "LineCites$Reader" "token" "I", .methodLink RX4 36 yX4_refuse, .instanceMethod yX4_refuse, .selects RX4 yX4_refuse yX4_refuse, .code yX4_refuse cX4_refuse 2 (some .boolean), .fieldLink RX4 19 "LineCites$Reader" "faultNumber" "I", .fieldLink RX9 10 "LineCites" "tape" "LLineCites$Tape;", .methodLink RX9 105 yX7_empty, .instanceMethod yX7_empty, .selects RX7 yX7_empty yX7_empty, .code yX7_empty cX7_empty 1 none, .methodLink RX9 108 yX4_faultNumber, .instanceMethod yX4_faultNumber, .selects RX4 yX4_faultNumber yX4_faultNumber, .code yX4_faultNumber cX4_faultNumber 1 (some .int), .methodLink RX9 111 yX7_noteFault, .instanceMethod yX7_noteFault, .selects RX7 yX7_noteFault yX7_noteFault, .code yX7_noteFault cX7_noteFault 2 none, .fieldLink RX7 19 "LineCites$Tape" "latestFault" "I", .constant RX9 115 (-1000100), .methodLink RX9 116 yX4_faultPlace, .instanceMethod yX4_faultPlace, .selects RX4 yX4_faultPlace yX4_faultPlace, .code yX4_faultPlace cX4_faultPlace 1 (some .int)] ++ wsX90 ++ wsX40 ++ wsX70)
set_option maxRecDepth 20000 in
theorem g_X9_work_X4_readHead : GoodIn w_X9_work (wsV RX9 98 RX4 yX4_readHead w_X4_readHead) := goodIn_r _ [2, 3, 4, 5, 6, 7, 8, 9, 10, 5, 11, 12, 13, 14, 15, 16, 17, 18, 19, 20, 21, 22, 23, 24, 25, 26, 27, 28, 29, 63, 64, 65, 66, 67, 68, 69, 70, 71, 72] rfl (by decide +kernel)
set_option maxRecDepth 20000 in
theorem g_X9_work_X7_empty : GoodIn w_X9_work (wsV RX9 105 RX7 yX7_empty w_X7_empty) := goodIn_r _ [31, 32, 33, 21, 34, 23, 70, 71, 72] rfl (by decide +kernel)
set_option maxRecDepth 20000 in
theorem g_X9_work_X4_faultNumber : GoodIn w_X9_work (wsV RX9 108 RX4 yX4_faultNumber w_X4_faultNumber) := goodIn_r _ [35, 36, 37, 5, 38, 29, 63, 64, 65, 66, 67, 68, 69] rfl (by decide +kernel)
set_option maxRecDepth 20000 in
theorem g_X9_work_X7_noteFault : GoodIn w_X9_work (wsV RX9 111 RX7 yX7_noteFault w_X7_noteFault) := goodIn_r _ [39, 40, 41, 21, 42, 43, 70, 71, 72] rfl (by decide +kernel)
set_option maxRecDepth 20000 in
theorem g_X9_work_X4_faultPlace : GoodIn w_X9_work (wsV RX9 116 RX4 yX4_faultPlace w_X4_faultPlace) := goodIn_r _ [45, 46, 47, 5, 48, 16, 63, 64, 65, 66, 67, 68, 69] rfl (by decide +kernel)
set_option maxHeartbeats 4000000 in
set_option maxRecDepth 100000 in
theorem c_X9_work (l : Launch) (D : va_G) (h0 : Nat) (a_tape : Nat) (a_now : Nat) (a_draft : Nat) (a_reader : Nat) (a_acts : Nat) (a_images : Nat) (a_one : Nat) (a_other : Nat) (a_third : Nat) (a_spans : Nat) (a_back : Nat) (a_span : Nat) (a_middle : Nat) (a_reached : Nat) (a_b : Nat) (sz : Nat) : Met l yX9_work w_X9_work ({ frames := 4, cells := 0, slots := 0, locals := 82 }) (va_Pc [.ref h0] (fun U => U.heap.size = sz ∧ va_P D vwCl [(h0, .inr (9, [.ref a_tape, .ref a_now, .ref a_draft, .ref a_reader, .ref a_acts, .ref a_images, .ref a_one, .ref a_other, .ref a_third, .ref a_spans, .ref a_back, .ref a_span, .ref a_middle, .ref a_reached])), (a_tape, .inr (7, [.ref a_b, .int 0, .int 0])), (a_reader, .inr (4, [.ref a_tape, .ref a_draft, .int 0, .int 0, .int 0, .int 0, .int 0]))] U.heap ∧ va_K D vwCl [] U ∧ va_D (fun _ => True) [(h0, .inr (9, [.ref a_tape, .ref a_now, .ref a_draft, .ref a_reader, .ref a_acts, .ref a_images, .ref a_one, .ref a_other, .ref a_third, .ref a_spans, .ref a_back, .ref a_span, .ref a_middle, .ref a_reached])), (a_tape, .inr (7, [.ref a_b, .int 0, .int 0])), (a_reader, .inr (4, [.ref a_tape, .ref a_draft, .int 0, .int 0, .int 0, .int 0, .int 0]))])) (va_Qi (fun (r : Int32) (_ : Unit) => r = (-1000100)) (fun (_ : Unit) t => va_P D vwCl [] t.heap ∧ va_K D vwCl [] t ∧ va_D (va_A [(h0, .inr (9, [.ref a_tape, .ref a_now, .ref a_draft, .ref a_reader, .ref a_acts, .ref a_images, .ref a_one, .ref a_other, .ref a_third, .ref a_spans, .ref a_back, .ref a_span, .ref a_middle, .ref a_reached])), (a_tape, .inr (7, [.ref a_b, .int 0, .int 0])), (a_reader, .inr (4, [.ref a_tape, .ref a_draft, .int 0, .int 0, .int 0, .int 0, .int 0]))] sz) []) (va_A [(h0, .inr (9, [.ref a_tape, .ref a_now, .ref a_draft, .ref a_reader, .ref a_acts, .ref a_images, .ref a_one, .ref a_other, .ref a_third, .ref a_spans, .ref a_back, .ref a_span, .ref a_middle, .ref a_reached])), (a_tape, .inr (7, [.ref a_b, .int 0, .int 0])), (a_reader, .inr (4, [.ref a_tape, .ref a_draft, .int 0, .int 0, .int 0, .int 0, .int 0]))] sz)) 0 0 (va_A [(h0, .inr (9, [.ref a_tape, .ref a_now, .ref a_draft, .ref a_reader, .ref a_acts, .ref a_images, .ref a_one, .ref a_other, .ref a_third, .ref a_spans, .ref a_back, .ref a_span, .ref a_middle, .ref a_reached])), (a_tape, .inr (7, [.ref a_b, .int 0, .int 0])), (a_reader, .inr (4, [.ref a_tape, .ref a_draft, .int 0, .int 0, .int 0, .int 0, .int 0]))] sz) := by
  refine Met.ofW (cc := cX9_work) (maxL := 2) (ret := (some .int)) (by decide) rfl ?_
  intro p e s m args below meth c s₁ B hml hv
  obtain ⟨rfl, hsz, hP, hK, hD0⟩ := hv
  have hx := B.exec
  have hb := B.bytes
  have hr := B.returns
  have hts := atoms_spec (ws := w_X9_work) B.pre
  have hown : s.vm.findClass RX9 = some m.cls := findClass_of_methodNamed B.named
  have hlocks := B.notSynchronized
  subst hsz
  have hD := hD0.self (sz := s.heap.size)
  generalize hAe : va_A [(h0, .inr (9, [.ref a_tape, .ref a_now, .ref a_draft, .ref a_reader, .ref a_acts, .ref a_images, .ref a_one, .ref a_other, .ref a_third, .ref a_spans, .ref a_back, .ref a_span, .ref a_middle, .ref a_reached])), (a_tape, .inr (7, [.ref a_b, .int 0, .int 0])), (a_reader, .inr (4, [.ref a_tape, .ref a_draft, .int 0, .int 0, .int 0, .int 0, .int 0]))] s.heap.size = A at hD ⊢
  have hA : ∀ q : Nat, s.heap.size ≤ q → A q := fun q h => by rw [← hAe]; exact Or.inr h
  have hS : va_S A s.heap s.heap [] := va_S.rf
  have hP : va_P D vwCl [(h0, .inr (9, [.ref a_tape, .ref a_now, .ref a_draft, .ref a_reader, .ref a_acts, .ref a_images, .ref a_one, .ref a_other, .ref a_third, .ref a_spans, .ref a_back, .ref a_span, .ref a_middle, .ref a_reached])), (a_tape, .inr (7, [.ref a_b, .int 0, .int 0])), (a_reader, .inr (4, [.ref a_tape, .ref a_draft, .int 0, .int 0, .int 0, .int 0, .int 0]))] s.heap := hP
  have hl := lv_entry ([.ref h0]) (n := 2) (Nat.le_of_ble_eq_true rfl)
  rw [lg_entry_eq]
  generalize (lg_sl ([.ref h0]) ++ List.replicate (2 - (lg_sl ([.ref h0])).length) Slot.unset).toArray = ls at hl ⊢
  have hl : lv_has ls 2 [(0, .ref h0)] := hl
  obtain ⟨H, hHe⟩ : ∃ H : Heap, H = s.heap := ⟨_, rfl⟩
  rw [← hHe] at hP
  have hS : va_S A s.heap H [] := by rw [hHe]; exact hS
  refine pw_heap hHe ?_
  refine lv_aload_n hx hb dX9_work_0 rfl (lv_at hl 0 rfl) ?_
  refine va_get (D := D) (ci := 9) (v := .ref a_reader) (C := RX9) (T := TX9) (N := 14) hx hb hts (fun _ h => List.mem_cons_of_mem _ (List.mem_append_left _ (List.mem_append_left _ (List.mem_append_right _ h)))) hown hK hP 0 rfl rfl 3 (by decide) (hts (.fieldLink RX9 31 "LineCites" "reader" "LLineCites$Reader;") (List.mem_of_getElem? (i := 1) rfl)) (fun _ h9 => h9) rfl dX9_work_1 ?_
  have hPc := hP.sub (ws' := [(a_reader, .inr (4, [.ref a_tape, .ref a_draft, .int 0, .int 0, .int 0, .int 0, .int 0])), (a_tape, .inr (7, [.ref a_b, .int 0, .int 0]))]) [2, 1] rfl
  have hKc := hK.sub (tys' := []) [] rfl
  have hDc := hD.sub (ws' := [(a_reader, .inr (4, [.ref a_tape, .ref a_draft, .int 0, .int 0, .int 0, .int 0, .int 0])), (a_tape, .inr (7, [.ref a_b, .int 0, .int 0]))]) [2, 1] (by decide) rfl
  have hFc := va_free (wc := [(a_reader, .inr (4, [.ref a_tape, .ref a_draft, .int 0, .int 0, .int 0, .int 0, .int 0])), (a_tape, .inr (7, [.ref a_b, .int 0, .int 0]))]) hD hS hA [2, 1] rfl
  refine va_calli (va_runV (As := []) (rest := []) ⟨hx, hb, hml, hown, hts⟩ (c_X4_readHead l D a_reader a_tape a_draft a_b H.size) (cwV 0 hts g_X9_work_X4_readHead rfl rfl rfl (by decide +kernel) ⟨Nat.le_of_ble_eq_true rfl, Nat.le_of_ble_eq_true rfl⟩) ⟨fun a U g mk q => by obtain ⟨q0, q1, qP, qK, qD⟩ := q; exact ⟨q0, q1, qP, va_K.moved (u := U) (U := U.calling g mk a) (Vm.Alike.refl U.vm) qK, qD⟩, va_recv hKc hPc (ci := 4) (q0 := 0) rfl rfl, fun U hU hW => ⟨rfl, by rw [hU], by rw [hU]; exact hPc, va_K.moved hW.alike hKc, hDc.weaken (fun _ _ _ _ => trivial)⟩⟩ rfl rfl hl.1 rfl (lv_room (Nat.le_of_ble_eq_true rfl)) dX9_work_4 ⟨Nat.le_of_ble_eq_true rfl, Nat.le_of_ble_eq_true rfl⟩) hS (fun q _ h => hFc q h) hFc (fun r1 u t H1 locs ht hvm hw hB hz1 hk1 hS => ?_)
  obtain ⟨hP1, hK1, hD1⟩ := hB
  rw [ht] at hP1
  have hK1 := va_K.moved hvm.symm hK1
  obtain ⟨hP, hD⟩ := va_join (wr := [(h0, .inr (9, [.ref a_tape, .ref a_now, .ref a_draft, .ref a_reader, .ref a_acts, .ref a_images, .ref a_one, .ref a_other, .ref a_third, .ref a_spans, .ref a_back, .ref a_span, .ref a_middle, .ref a_reached]))]) (w1 := [(a_reader, .inr (4, [.ref a_tape, .ref a_draft, .int 0, .int (-1), .int 0, .int 0, .int 1])), (a_tape, .inr (7, [.ref a_b, .int 0, .int 0]))]) hP hD [2, 1] [0] rfl rfl (by decide) (by decide) hk1 hFc hP1 hD1
  have hK := (hK.sub (tys' := []) [] rfl).app hK1
  generalize H1 = H at hP hS ⊢
  have hP : va_P D vwCl [(h0, .inr (9, [.ref a_tape, .ref a_now, .ref a_draft, .ref a_reader, .ref a_acts, .ref a_images, .ref a_one, .ref a_other, .ref a_third, .ref a_spans, .ref a_back, .ref a_span, .ref a_middle, .ref a_reached])), (a_reader, .inr (4, [.ref a_tape, .ref a_draft, .int 0, .int (-1), .int 0, .int 0, .int 1])), (a_tape, .inr (7, [.ref a_b, .int 0, .int 0]))] H := hP
  have hD : va_D A [(h0, .inr (9, [.ref a_tape, .ref a_now, .ref a_draft, .ref a_reader, .ref a_acts, .ref a_images, .ref a_one, .ref a_other, .ref a_third, .ref a_spans, .ref a_back, .ref a_span, .ref a_middle, .ref a_reached])), (a_reader, .inr (4, [.ref a_tape, .ref a_draft, .int 0, .int (-1), .int 0, .int 0, .int 1])), (a_tape, .inr (7, [.ref a_b, .int 0, .int 0]))] := hD
  have hK : va_K D vwCl [] s := hK
  refine W.widen (k := 0) (n := 0) (Nat.le_of_ble_eq_true rfl) (Nat.le_of_ble_eq_true rfl) ?_
  obtain rfl : r1 = 0 := hw
  refine lv_if_eq (tgt := 24) hx hb dX9_work_7 (by decide) (fun c2 => ?_) (fun c2 => absurd (by decide) c2)
  refine lv_iconst (v := 0) hx hb dX9_work_24 (by decide) ?_
  refine lv_istore_n (lv' := [(1, .int 0), (0, .ref h0)]) hx hb dX9_work_25 rfl hl (by decide) rfl (fun ls hl => ?_)
  refine lv_aload_n hx hb dX9_work_26 rfl (lv_at hl 1 rfl) ?_
  refine va_get (D := D) (ci := 9) (v := .ref a_tape) (C := RX9) (T := TX9) (N := 14) hx hb hts (fun _ h => List.mem_cons_of_mem _ (List.mem_append_left _ (List.mem_append_left _ (List.mem_append_right _ h)))) hown hK hP 0 rfl rfl 0 (by decide) (hts (.fieldLink RX9 10 "LineCites" "tape" "LLineCites$Tape;") (List.mem_of_getElem? (i := 30) rfl)) (fun _ h9 => h9) rfl dX9_work_27 ?_
  have hPc := hP.sub (ws' := [(a_tape, .inr (7, [.ref a_b, .int 0, .int 0]))]) [2] rfl
  have hKc := hK.sub (tys' := []) [] rfl
  have hDc := hD.sub (ws' := [(a_tape, .inr (7, [.ref a_b, .int 0, .int 0]))]) [2] (by decide) rfl
  have hFc := va_free (wc := [(a_tape, .inr (7, [.ref a_b, .int 0, .int 0]))]) hD hS hA [2] rfl
  refine va_callv (va_runV (As := []) (rest := []) ⟨hx, hb, hml, hown, hts⟩ (c_X7_empty l D a_tape a_b H.size) (cwV 0 hts g_X9_work_X7_empty rfl rfl rfl (by decide +kernel) ⟨Nat.le_of_ble_eq_true rfl, Nat.le_of_ble_eq_true rfl⟩) ⟨fun a U g mk q => by obtain ⟨q0, q1, qP, qK, qD⟩ := q; exact ⟨q0, q1, qP, va_K.moved (u := U) (U := U.calling g mk a) (Vm.Alike.refl U.vm) qK, qD⟩, va_recv hKc hPc (ci := 7) (q0 := 0) rfl rfl, fun U hU hW => ⟨rfl, by rw [hU], by rw [hU]; exact hPc, va_K.moved hW.alike hKc, hDc.weaken (fun _ _ _ _ => trivial)⟩⟩ rfl rfl hl.1 rfl (lv_room (Nat.le_of_ble_eq_true rfl)) dX9_work_30 ⟨Nat.le_of_ble_eq_true rfl, Nat.le_of_ble_eq_true rfl⟩) hS (fun q _ h => hFc q h) hFc (fun u t H1 locs ht hvm hw hB hz1 hk1 hS => ?_)
  obtain ⟨hP1, hK1, hD1⟩ := hB
  rw [ht] at hP1
  have hK1 := va_K.moved hvm.symm hK1
  obtain ⟨hP, hD⟩ := va_join (wr := [(h0, .inr (9, [.ref a_tape, .ref a_now, .ref a_draft, .ref a_reader, .ref a_acts, .ref a_images, .ref a_one, .ref a_other, .ref a_third, .ref a_spans, .ref a_back, .ref a_span, .ref a_middle, .ref a_reached])), (a_reader, .inr (4, [.ref a_tape, .ref a_draft, .int 0, .int (-1), .int 0, .int 0, .int 1]))]) (w1 := [(a_tape, .inr (7, [.ref a_b, .int 0, .int 0]))]) hP hD [2] [0, 1] rfl rfl (by decide) (by decide) hk1 hFc hP1 hD1
  have hK := (hK.sub (tys' := []) [] rfl).app hK1
  generalize H1 = H at hP hS ⊢
  have hP : va_P D vwCl [(h0, .inr (9, [.ref a_tape, .ref a_now, .ref a_draft, .ref a_reader, .ref a_acts, .ref a_images, .ref a_one, .ref a_other, .ref a_third, .ref a_spans, .ref a_back, .ref a_span, .ref a_middle, .ref a_reached])), (a_reader, .inr (4, [.ref a_tape, .ref a_draft, .int 0, .int (-1), .int 0, .int 0, .int 1])), (a_tape, .inr (7, [.ref a_b, .int 0, .int 0]))] H := hP
  have hD : va_D A [(h0, .inr (9, [.ref a_tape, .ref a_now, .ref a_draft, .ref a_reader, .ref a_acts, .ref a_images, .ref a_one, .ref a_other, .ref a_third, .ref a_spans, .ref a_back, .ref a_span, .ref a_middle, .ref a_reached])), (a_reader, .inr (4, [.ref a_tape, .ref a_draft, .int 0, .int (-1), .int 0, .int 0, .int 1])), (a_tape, .inr (7, [.ref a_b, .int 0, .int 0]))] := hD
  have hK : va_K D vwCl [] s := hK
  refine W.widen (k := 0) (n := 0) (Nat.le_of_ble_eq_true rfl) (Nat.le_of_ble_eq_true rfl) ?_
  refine lv_iload_n hx hb dX9_work_33 rfl (lv_at hl 0 rfl) ?_
  refine lv_if_ne (tgt := 62) hx hb dX9_work_34 (by decide) (fun c4 => absurd (by decide) c4) (fun c4 => ?_)
  refine lv_aload_n hx hb dX9_work_37 rfl (lv_at hl 1 rfl) ?_
  refine va_get (D := D) (ci := 9) (v := .ref a_tape) (C := RX9) (T := TX9) (N := 14) hx hb hts (fun _ h => List.mem_cons_of_mem _ (List.mem_append_left _ (List.mem_append_left _ (List.mem_append_right _ h)))) hown hK hP 0 rfl rfl 0 (by decide) (hts (.fieldLink RX9 10 "LineCites" "tape" "LLineCites$Tape;") (List.mem_of_getElem? (i := 30) rfl)) (fun _ h9 => h9) rfl dX9_work_38 ?_
  refine lv_aload_n hx hb dX9_work_41 rfl (lv_at hl 1 rfl) ?_
  refine va_get (D := D) (ci := 9) (v := .ref a_reader) (C := RX9) (T := TX9) (N := 14) hx hb hts (fun _ h => List.mem_cons_of_mem _ (List.mem_append_left _ (List.mem_append_left _ (List.mem_append_right _ h)))) hown hK hP 0 rfl rfl 3 (by decide) (hts (.fieldLink RX9 31 "LineCites" "reader" "LLineCites$Reader;") (List.mem_of_getElem? (i := 1) rfl)) (fun _ h9 => h9) rfl dX9_work_42 ?_
  have hPc := hP.sub (ws' := [(a_reader, .inr (4, [.ref a_tape, .ref a_draft, .int 0, .int (-1), .int 0, .int 0, .int 1]))]) [1] rfl
  have hKc := hK.sub (tys' := []) [] rfl
  refine va_calli (va_runV (As := []) (rest := [.ref a_tape]) ⟨hx, hb, hml, hown, hts⟩ (c_X4_faultNumber l D a_reader a_tape a_draft) (cwV 0 hts g_X9_work_X4_faultNumber rfl rfl rfl (by decide +kernel) ⟨Nat.le_of_ble_eq_true rfl, Nat.le_of_ble_eq_true rfl⟩) ⟨fun a U g mk q => by obtain ⟨q0, qP, qK⟩ := q; exact ⟨q0, qP, va_K.moved (u := U) (U := U.calling g mk a) (Vm.Alike.refl U.vm) qK⟩, va_recv hKc hPc (ci := 4) (q0 := 0) rfl rfl, fun U hU hW => ⟨rfl, by rw [hU]; exact hPc, va_K.moved hW.alike hKc⟩⟩ rfl rfl hl.1 rfl (lv_room (Nat.le_of_ble_eq_true rfl)) dX9_work_45 ⟨Nat.le_of_ble_eq_true rfl, Nat.le_of_ble_eq_true rfl⟩) hS (fun _ _ h => h.elim) (fun _ h => h.elim) (fun r5 u t H1 locs ht hvm hw hB hz1 hk1 hS => ?_)
  have hP := pw_keep hP (fun q hq => hk1 q hq (fun h => h))
  generalize H1 = H at hP hS ⊢
  refine W.widen (k := 0) (n := 0) (Nat.le_of_ble_eq_true rfl) (Nat.le_of_ble_eq_true rfl) ?_
  obtain rfl : r5 = 1 := hw
  have hPc := hP.sub (ws' := [(a_tape, .inr (7, [.ref a_b, .int 0, .int 0]))]) [2] rfl
  have hKc := hK.sub (tys' := []) [] rfl
  have hDc := hD.sub (ws' := [(a_tape, .inr (7, [.ref a_b, .int 0, .int 0]))]) [2] (by decide) rfl
  have hFc := va_free (wc := [(a_tape, .inr (7, [.ref a_b, .int 0, .int 0]))]) hD hS hA [2] rfl
  refine va_callv (va_runV (As := [.int 1]) (rest := []) ⟨hx, hb, hml, hown, hts⟩ (c_X7_noteFault l D a_tape a_b H.size) (cwV 1 hts g_X9_work_X7_noteFault rfl rfl rfl (by decide +kernel) ⟨Nat.le_of_ble_eq_true rfl, Nat.le_of_ble_eq_true rfl⟩) ⟨fun a U g mk q => by obtain ⟨q0, q1, qP, qK, qD⟩ := q; exact ⟨q0, q1, qP, va_K.moved (u := U) (U := U.calling g mk a) (Vm.Alike.refl U.vm) qK, qD⟩, va_recv hKc hPc (ci := 7) (q0 := 0) rfl rfl, fun U hU hW => ⟨rfl, by rw [hU], by rw [hU]; exact hPc, va_K.moved hW.alike hKc, hDc.weaken (fun _ _ _ _ => trivial)⟩⟩ rfl rfl hl.1 rfl (lv_room (Nat.le_of_ble_eq_true rfl)) dX9_work_48 ⟨Nat.le_of_ble_eq_true rfl, Nat.le_of_ble_eq_true rfl⟩) hS (fun q _ h => hFc q h) hFc (fun u t H1 locs ht hvm hw hB hz1 hk1 hS => ?_)
  obtain ⟨hP1, hK1, hD1⟩ := hB
  rw [ht] at hP1
  have hK1 := va_K.moved hvm.symm hK1
  obtain ⟨hP, hD⟩ := va_join (wr := [(h0, .inr (9, [.ref a_tape, .ref a_now, .ref a_draft, .ref a_reader, .ref a_acts, .ref a_images, .ref a_one, .ref a_other, .ref a_third, .ref a_spans, .ref a_back, .ref a_span, .ref a_middle, .ref a_reached])), (a_reader, .inr (4, [.ref a_tape, .ref a_draft, .int 0, .int (-1), .int 0, .int 0, .int 1]))]) (w1 := [(a_tape, .inr (7, [.ref a_b, .int 0, .int 1]))]) hP hD [2] [0, 1] rfl rfl (by decide) (by decide) hk1 hFc hP1 hD1
  have hK := (hK.sub (tys' := []) [] rfl).app hK1
  generalize H1 = H at hP hS ⊢
  have hP : va_P D vwCl [(h0, .inr (9, [.ref a_tape, .ref a_now, .ref a_draft, .ref a_reader, .ref a_acts, .ref a_images, .ref a_one, .ref a_other, .ref a_third, .ref a_spans, .ref a_back, .ref a_span, .ref a_middle, .ref a_reached])), (a_reader, .inr (4, [.ref a_tape, .ref a_draft, .int 0, .int (-1), .int 0, .int 0, .int 1])), (a_tape, .inr (7, [.ref a_b, .int 0, .int 1]))] H := hP
  have hD : va_D A [(h0, .inr (9, [.ref a_tape, .ref a_now, .ref a_draft, .ref a_reader, .ref a_acts, .ref a_images, .ref a_one, .ref a_other, .ref a_third, .ref a_spans, .ref a_back, .ref a_span, .ref a_middle, .ref a_reached])), (a_reader, .inr (4, [.ref a_tape, .ref a_draft, .int 0, .int (-1), .int 0, .int 0, .int 1])), (a_tape, .inr (7, [.ref a_b, .int 0, .int 1]))] := hD
  have hK : va_K D vwCl [] s := hK
  refine W.widen (k := 0) (n := 0) (Nat.le_of_ble_eq_true rfl) (Nat.le_of_ble_eq_true rfl) ?_
  refine lv_ldc hx hb hown (hts (.constant RX9 115 (-1000100)) (List.mem_of_getElem? (i := 44) rfl)) dX9_work_51 ?_
  refine lv_aload_n hx hb dX9_work_53 rfl (lv_at hl 1 rfl) ?_
  refine va_get (D := D) (ci := 9) (v := .ref a_reader) (C := RX9) (T := TX9) (N := 14) hx hb hts (fun _ h => List.mem_cons_of_mem _ (List.mem_append_left _ (List.mem_append_left _ (List.mem_append_right _ h)))) hown hK hP 0 rfl rfl 3 (by decide) (hts (.fieldLink RX9 31 "LineCites" "reader" "LLineCites$Reader;") (List.mem_of_getElem? (i := 1) rfl)) (fun _ h9 => h9) rfl dX9_work_54 ?_
  have hPc := hP.sub (ws' := [(a_reader, .inr (4, [.ref a_tape, .ref a_draft, .int 0, .int (-1), .int 0, .int 0, .int 1]))]) [1] rfl
  have hKc := hK.sub (tys' := []) [] rfl
  refine va_calli (va_runV (As := []) (rest := [.int (-1000100)]) ⟨hx, hb, hml, hown, hts⟩ (c_X4_faultPlace l D a_reader a_tape a_draft) (cwV 0 hts g_X9_work_X4_faultPlace rfl rfl rfl (by decide +kernel) ⟨Nat.le_of_ble_eq_true rfl, Nat.le_of_ble_eq_true rfl⟩) ⟨fun a U g mk q => by obtain ⟨q0, qP, qK⟩ := q; exact ⟨q0, qP, va_K.moved (u := U) (U := U.calling g mk a) (Vm.Alike.refl U.vm) qK⟩, va_recv hKc hPc (ci := 4) (q0 := 0) rfl rfl, fun U hU hW => ⟨rfl, by rw [hU]; exact hPc, va_K.moved hW.alike hKc⟩⟩ rfl rfl hl.1 rfl (lv_room (Nat.le_of_ble_eq_true rfl)) dX9_work_57 ⟨Nat.le_of_ble_eq_true rfl, Nat.le_of_ble_eq_true rfl⟩) hS (fun _ _ h => h.elim) (fun _ h => h.elim) (fun r7 u t H1 locs ht hvm hw hB hz1 hk1 hS => ?_)
  have hP := pw_keep hP (fun q hq => hk1 q hq (fun h => h))
  generalize H1 = H at hP hS ⊢
  refine W.widen (k := 0) (n := 0) (Nat.le_of_ble_eq_true rfl) (Nat.le_of_ble_eq_true rfl) ?_
  obtain rfl : r7 = 0 := hw
  refine lv_isub hx hb dX9_work_60 ?_
  refine lv_topi (fun x8 ex8 => ?_)
  obtain rfl : x8 = (-1000100) := ex8.trans (by decide)
  have hP9 := hP.sub (ws' := []) [] rfl
  have hD9 := hD.sub (ws' := []) [] (by decide) rfl
  have hK9 := hK.sub (tys' := []) [] rfl
  refine W.widen (k := 0) (n := 0) (Nat.le_of_ble_eq_true rfl) (Nat.le_of_ble_eq_true rfl) ?_
  exact W.iret (v := (-1000100)) hx hb hr (fun t ht hW => ⟨⟨(-1000100), (), rfl, rfl, by rw [ht]; exact hP9, va_K.moved hW.alike hK9, hD9⟩, hS.F ht⟩) hS.2.2 dX9_work_61
