theorem d_Xinit_0 : decode b_Xinit 0 = .ok (.aload_n 0, 1) := by decide +kernel
theorem d_Xinit_1 : decode b_Xinit 1 = .ok (.invokespecial 1, 3) := by decide +kernel
theorem d_Xinit_4 : decode b_Xinit 4 = .ok (.aload_n 0, 1) := by decide +kernel
theorem d_Xinit_5 : decode b_Xinit 5 = .ok (.bipush 8, 2) := by decide +kernel
theorem d_Xinit_7 : decode b_Xinit 7 = .ok (.anewarray 9, 3) := by decide +kernel
theorem d_Xinit_10 : decode b_Xinit 10 = .ok (.putfield 11, 3) := by decide +kernel
theorem d_Xinit_13 : decode b_Xinit 13 = .ok (.aload_n 0, 1) := by decide +kernel
theorem d_Xinit_14 : decode b_Xinit 14 = .ok (.iconst 4, 1) := by decide +kernel
theorem d_Xinit_15 : decode b_Xinit 15 = .ok (.anewarray 15, 3) := by decide +kernel
theorem d_Xinit_18 : decode b_Xinit 18 = .ok (.putfield 17, 3) := by decide +kernel
theorem d_Xinit_21 : decode b_Xinit 21 = .ok (.aload_n 0, 1) := by decide +kernel
theorem d_Xinit_22 : decode b_Xinit 22 = .ok (.new 21, 3) := by decide +kernel
theorem d_Xinit_25 : decode b_Xinit 25 = .ok (.dup, 1) := by decide +kernel
theorem d_Xinit_26 : decode b_Xinit 26 = .ok (.invokespecial 23, 3) := by decide +kernel
theorem d_Xinit_29 : decode b_Xinit 29 = .ok (.putfield 24, 3) := by decide +kernel
theorem d_Xinit_32 : decode b_Xinit 32 = .ok (.aload_n 0, 1) := by decide +kernel
theorem d_Xinit_33 : decode b_Xinit 33 = .ok (.iconst 0, 1) := by decide +kernel
theorem d_Xinit_34 : decode b_Xinit 34 = .ok (.putfield 28, 3) := by decide +kernel
theorem d_Xinit_37 : decode b_Xinit 37 = .ok (.aload_n 0, 1) := by decide +kernel
theorem d_Xinit_38 : decode b_Xinit 38 = .ok (.iconst 0, 1) := by decide +kernel
theorem d_Xinit_39 : decode b_Xinit 39 = .ok (.putfield 32, 3) := by decide +kernel
theorem d_Xinit_42 : decode b_Xinit 42 = .ok (.iconst 0, 1) := by decide +kernel
theorem d_Xinit_43 : decode b_Xinit 43 = .ok (.istore_n 1, 1) := by decide +kernel
theorem d_Xinit_44 : decode b_Xinit 44 = .ok (.iload_n 1, 1) := by decide +kernel
theorem d_Xinit_45 : decode b_Xinit 45 = .ok (.bipush 8, 2) := by decide +kernel
theorem d_Xinit_47 : decode b_Xinit 47 = .ok (.if_icmp .ge 22, 3) := by decide +kernel
theorem d_Xinit_50 : decode b_Xinit 50 = .ok (.aload_n 0, 1) := by decide +kernel
theorem d_Xinit_51 : decode b_Xinit 51 = .ok (.getfield 11, 3) := by decide +kernel
theorem d_Xinit_54 : decode b_Xinit 54 = .ok (.iload_n 1, 1) := by decide +kernel
theorem d_Xinit_55 : decode b_Xinit 55 = .ok (.new 9, 3) := by decide +kernel
theorem d_Xinit_58 : decode b_Xinit 58 = .ok (.dup, 1) := by decide +kernel
theorem d_Xinit_59 : decode b_Xinit 59 = .ok (.invokespecial 35, 3) := by decide +kernel
theorem d_Xinit_62 : decode b_Xinit 62 = .ok (.aastore, 1) := by decide +kernel
theorem d_Xinit_63 : decode b_Xinit 63 = .ok (.iinc 1 1, 3) := by decide +kernel
theorem d_Xinit_66 : decode b_Xinit 66 = .ok (.goto (-22), 3) := by decide +kernel
theorem d_Xinit_69 : decode b_Xinit 69 = .ok (.iconst 0, 1) := by decide +kernel
theorem d_Xinit_70 : decode b_Xinit 70 = .ok (.istore_n 1, 1) := by decide +kernel
theorem d_Xinit_71 : decode b_Xinit 71 = .ok (.iload_n 1, 1) := by decide +kernel
theorem d_Xinit_72 : decode b_Xinit 72 = .ok (.iconst 4, 1) := by decide +kernel
theorem d_Xinit_73 : decode b_Xinit 73 = .ok (.if_icmp .ge 22, 3) := by decide +kernel
theorem d_Xinit_76 : decode b_Xinit 76 = .ok (.aload_n 0, 1) := by decide +kernel
theorem d_Xinit_77 : decode b_Xinit 77 = .ok (.getfield 17, 3) := by decide +kernel
theorem d_Xinit_80 : decode b_Xinit 80 = .ok (.iload_n 1, 1) := by decide +kernel
theorem d_Xinit_81 : decode b_Xinit 81 = .ok (.new 15, 3) := by decide +kernel
theorem d_Xinit_84 : decode b_Xinit 84 = .ok (.dup, 1) := by decide +kernel
theorem d_Xinit_85 : decode b_Xinit 85 = .ok (.invokespecial 36, 3) := by decide +kernel
theorem d_Xinit_88 : decode b_Xinit 88 = .ok (.aastore, 1) := by decide +kernel
theorem d_Xinit_89 : decode b_Xinit 89 = .ok (.iinc 1 1, 3) := by decide +kernel
theorem d_Xinit_92 : decode b_Xinit 92 = .ok (.goto (-21), 3) := by decide +kernel
theorem d_Xinit_95 : decode b_Xinit 95 = .ok (.return_, 1) := by decide +kernel
theorem d_set_0 : decode b_set 0 = .ok (.iload_n 1, 1) := by decide +kernel
theorem d_set_1 : decode b_set 1 = .ok (.invokestatic 37, 3) := by decide +kernel
theorem d_set_4 : decode b_set 4 = .ok (.ifCond .eq 22, 3) := by decide +kernel
theorem d_set_7 : decode b_set 7 = .ok (.iload_n 1, 1) := by decide +kernel
theorem d_set_8 : decode b_set 8 = .ok (.iload_n 2, 1) := by decide +kernel
theorem d_set_9 : decode b_set 9 = .ok (.invokestatic 41, 3) := by decide +kernel
theorem d_set_12 : decode b_set 12 = .ok (.ifCond .eq 14, 3) := by decide +kernel
theorem d_set_15 : decode b_set 15 = .ok (.iload_n 3, 1) := by decide +kernel
theorem d_set_16 : decode b_set 16 = .ok (.iconst 1, 1) := by decide +kernel
theorem d_set_17 : decode b_set 17 = .ok (.if_icmp .lt 9, 3) := by decide +kernel
theorem d_set_20 : decode b_set 20 = .ok (.iload_n 3, 1) := by decide +kernel
theorem d_set_21 : decode b_set 21 = .ok (.ldc 45, 2) := by decide +kernel
theorem d_set_23 : decode b_set 23 = .ok (.if_icmp .le 5, 3) := by decide +kernel
theorem d_set_26 : decode b_set 26 = .ok (.iconst 0, 1) := by decide +kernel
theorem d_set_27 : decode b_set 27 = .ok (.ireturn, 1) := by decide +kernel
theorem d_set_28 : decode b_set 28 = .ok (.aload_n 0, 1) := by decide +kernel
theorem d_set_29 : decode b_set 29 = .ok (.getfield 11, 3) := by decide +kernel
theorem d_set_32 : decode b_set 32 = .ok (.iload_n 1, 1) := by decide +kernel
theorem d_set_33 : decode b_set 33 = .ok (.aaload, 1) := by decide +kernel
theorem d_set_34 : decode b_set 34 = .ok (.astore 5, 2) := by decide +kernel
theorem d_set_36 : decode b_set 36 = .ok (.aload 5, 2) := by decide +kernel
theorem d_set_38 : decode b_set 38 = .ok (.iload_n 2, 1) := by decide +kernel
theorem d_set_39 : decode b_set 39 = .ok (.putfield 46, 3) := by decide +kernel
theorem d_set_42 : decode b_set 42 = .ok (.aload 5, 2) := by decide +kernel
theorem d_set_44 : decode b_set 44 = .ok (.iload_n 3, 1) := by decide +kernel
theorem d_set_45 : decode b_set 45 = .ok (.putfield 49, 3) := by decide +kernel
theorem d_set_48 : decode b_set 48 = .ok (.aload 5, 2) := by decide +kernel
theorem d_set_50 : decode b_set 50 = .ok (.iload_n 3, 1) := by decide +kernel
theorem d_set_51 : decode b_set 51 = .ok (.putfield 52, 3) := by decide +kernel
theorem d_set_54 : decode b_set 54 = .ok (.aload 5, 2) := by decide +kernel
theorem d_set_56 : decode b_set 56 = .ok (.iload 4, 2) := by decide +kernel
theorem d_set_58 : decode b_set 58 = .ok (.putfield 55, 3) := by decide +kernel
theorem d_set_61 : decode b_set 61 = .ok (.aload 5, 2) := by decide +kernel
theorem d_set_63 : decode b_set 63 = .ok (.iconst 0, 1) := by decide +kernel
theorem d_set_64 : decode b_set 64 = .ok (.putfield 59, 3) := by decide +kernel
theorem d_set_67 : decode b_set 67 = .ok (.iconst 1, 1) := by decide +kernel
theorem d_set_68 : decode b_set 68 = .ok (.ireturn, 1) := by decide +kernel
theorem d_turn_0 : decode b_turn 0 = .ok (.iload_n 1, 1) := by decide +kernel
theorem d_turn_1 : decode b_turn 1 = .ok (.invokestatic 37, 3) := by decide +kernel
theorem d_turn_4 : decode b_turn 4 = .ok (.ifCond .eq 16, 3) := by decide +kernel
theorem d_turn_7 : decode b_turn 7 = .ok (.aload_n 0, 1) := by decide +kernel
theorem d_turn_8 : decode b_turn 8 = .ok (.getfield 11, 3) := by decide +kernel
theorem d_turn_11 : decode b_turn 11 = .ok (.iload_n 1, 1) := by decide +kernel
theorem d_turn_12 : decode b_turn 12 = .ok (.aaload, 1) := by decide +kernel
theorem d_turn_13 : decode b_turn 13 = .ok (.getfield 59, 3) := by decide +kernel
theorem d_turn_16 : decode b_turn 16 = .ok (.iload_n 2, 1) := by decide +kernel
theorem d_turn_17 : decode b_turn 17 = .ok (.if_icmp .ne 5, 3) := by decide +kernel
theorem d_turn_20 : decode b_turn 20 = .ok (.iconst 0, 1) := by decide +kernel
theorem d_turn_21 : decode b_turn 21 = .ok (.ireturn, 1) := by decide +kernel
theorem d_turn_22 : decode b_turn 22 = .ok (.aload_n 0, 1) := by decide +kernel
theorem d_turn_23 : decode b_turn 23 = .ok (.getfield 11, 3) := by decide +kernel
theorem d_turn_26 : decode b_turn 26 = .ok (.iload_n 1, 1) := by decide +kernel
theorem d_turn_27 : decode b_turn 27 = .ok (.aaload, 1) := by decide +kernel
theorem d_turn_28 : decode b_turn 28 = .ok (.iload_n 2, 1) := by decide +kernel
theorem d_turn_29 : decode b_turn 29 = .ok (.putfield 59, 3) := by decide +kernel
theorem d_turn_32 : decode b_turn 32 = .ok (.iconst 1, 1) := by decide +kernel
theorem d_turn_33 : decode b_turn 33 = .ok (.ireturn, 1) := by decide +kernel
theorem d_gate_0 : decode b_gate 0 = .ok (.iload_n 1, 1) := by decide +kernel
theorem d_gate_1 : decode b_gate 1 = .ok (.invokestatic 62, 3) := by decide +kernel
theorem d_gate_4 : decode b_gate 4 = .ok (.ifCond .eq 22, 3) := by decide +kernel
theorem d_gate_7 : decode b_gate 7 = .ok (.iload_n 2, 1) := by decide +kernel
theorem d_gate_8 : decode b_gate 8 = .ok (.invokestatic 65, 3) := by decide +kernel
theorem d_gate_11 : decode b_gate 11 = .ok (.ifCond .eq 15, 3) := by decide +kernel
theorem d_gate_14 : decode b_gate 14 = .ok (.iload_n 3, 1) := by decide +kernel
theorem d_gate_15 : decode b_gate 15 = .ok (.iconst 1, 1) := by decide +kernel
theorem d_gate_16 : decode b_gate 16 = .ok (.if_icmp .lt 10, 3) := by decide +kernel
theorem d_gate_19 : decode b_gate 19 = .ok (.iload_n 3, 1) := by decide +kernel
theorem d_gate_20 : decode b_gate 20 = .ok (.sipush 1000, 3) := by decide +kernel
theorem d_gate_23 : decode b_gate 23 = .ok (.if_icmp .le 5, 3) := by decide +kernel
theorem d_gate_26 : decode b_gate 26 = .ok (.iconst 0, 1) := by decide +kernel
theorem d_gate_27 : decode b_gate 27 = .ok (.ireturn, 1) := by decide +kernel
theorem d_gate_28 : decode b_gate 28 = .ok (.aload_n 0, 1) := by decide +kernel
theorem d_gate_29 : decode b_gate 29 = .ok (.getfield 17, 3) := by decide +kernel
theorem d_gate_32 : decode b_gate 32 = .ok (.iload_n 1, 1) := by decide +kernel
theorem d_gate_33 : decode b_gate 33 = .ok (.aaload, 1) := by decide +kernel
theorem d_gate_34 : decode b_gate 34 = .ok (.iload_n 2, 1) := by decide +kernel
theorem d_gate_35 : decode b_gate 35 = .ok (.putfield 68, 3) := by decide +kernel
theorem d_gate_38 : decode b_gate 38 = .ok (.aload_n 0, 1) := by decide +kernel
theorem d_gate_39 : decode b_gate 39 = .ok (.getfield 17, 3) := by decide +kernel
theorem d_gate_42 : decode b_gate 42 = .ok (.iload_n 1, 1) := by decide +kernel
theorem d_gate_43 : decode b_gate 43 = .ok (.aaload, 1) := by decide +kernel
theorem d_gate_44 : decode b_gate 44 = .ok (.iload_n 3, 1) := by decide +kernel
theorem d_gate_45 : decode b_gate 45 = .ok (.putfield 71, 3) := by decide +kernel
theorem d_gate_48 : decode b_gate 48 = .ok (.iconst 1, 1) := by decide +kernel
theorem d_gate_49 : decode b_gate 49 = .ok (.ireturn, 1) := by decide +kernel
theorem d_clear_0 : decode b_clear 0 = .ok (.iload_n 1, 1) := by decide +kernel
theorem d_clear_1 : decode b_clear 1 = .ok (.invokestatic 65, 3) := by decide +kernel
theorem d_clear_4 : decode b_clear 4 = .ok (.ifCond .ne 5, 3) := by decide +kernel
theorem d_clear_7 : decode b_clear 7 = .ok (.iconst (-1), 1) := by decide +kernel
theorem d_clear_8 : decode b_clear 8 = .ok (.ireturn, 1) := by decide +kernel
theorem d_clear_9 : decode b_clear 9 = .ok (.aload_n 0, 1) := by decide +kernel
theorem d_clear_10 : decode b_clear 10 = .ok (.getfield 28, 3) := by decide +kernel
theorem d_clear_13 : decode b_clear 13 = .ok (.iload_n 1, 1) := by decide +kernel
theorem d_clear_14 : decode b_clear 14 = .ok (.iand, 1) := by decide +kernel
theorem d_clear_15 : decode b_clear 15 = .ok (.istore_n 2, 1) := by decide +kernel
theorem d_clear_16 : decode b_clear 16 = .ok (.iconst 0, 1) := by decide +kernel
theorem d_clear_17 : decode b_clear 17 = .ok (.istore_n 3, 1) := by decide +kernel
theorem d_clear_18 : decode b_clear 18 = .ok (.iload_n 3, 1) := by decide +kernel
theorem d_clear_19 : decode b_clear 19 = .ok (.bipush 8, 2) := by decide +kernel
theorem d_clear_21 : decode b_clear 21 = .ok (.if_icmp .ge 32, 3) := by decide +kernel
theorem d_clear_24 : decode b_clear 24 = .ok (.iload_n 2, 1) := by decide +kernel
theorem d_clear_25 : decode b_clear 25 = .ok (.iconst 1, 1) := by decide +kernel
theorem d_clear_26 : decode b_clear 26 = .ok (.iload_n 3, 1) := by decide +kernel
theorem d_clear_27 : decode b_clear 27 = .ok (.ishl, 1) := by decide +kernel
theorem d_clear_28 : decode b_clear 28 = .ok (.iand, 1) := by decide +kernel
theorem d_clear_29 : decode b_clear 29 = .ok (.ifCond .eq 18, 3) := by decide +kernel
theorem d_clear_32 : decode b_clear 32 = .ok (.aload_n 0, 1) := by decide +kernel
theorem d_clear_33 : decode b_clear 33 = .ok (.getfield 11, 3) := by decide +kernel
theorem d_clear_36 : decode b_clear 36 = .ok (.iload_n 3, 1) := by decide +kernel
theorem d_clear_37 : decode b_clear 37 = .ok (.aaload, 1) := by decide +kernel
theorem d_clear_38 : decode b_clear 38 = .ok (.dup, 1) := by decide +kernel
theorem d_clear_39 : decode b_clear 39 = .ok (.getfield 74, 3) := by decide +kernel
theorem d_clear_42 : decode b_clear 42 = .ok (.iconst 1, 1) := by decide +kernel
theorem d_clear_43 : decode b_clear 43 = .ok (.iadd, 1) := by decide +kernel
theorem d_clear_44 : decode b_clear 44 = .ok (.putfield 74, 3) := by decide +kernel
theorem d_clear_47 : decode b_clear 47 = .ok (.iinc 3 1, 3) := by decide +kernel
theorem d_clear_50 : decode b_clear 50 = .ok (.goto (-32), 3) := by decide +kernel
theorem d_clear_53 : decode b_clear 53 = .ok (.aload_n 0, 1) := by decide +kernel
theorem d_clear_54 : decode b_clear 54 = .ok (.dup, 1) := by decide +kernel
theorem d_clear_55 : decode b_clear 55 = .ok (.getfield 28, 3) := by decide +kernel
theorem d_clear_58 : decode b_clear 58 = .ok (.iload_n 2, 1) := by decide +kernel
theorem d_clear_59 : decode b_clear 59 = .ok (.iconst (-1), 1) := by decide +kernel
theorem d_clear_60 : decode b_clear 60 = .ok (.ixor, 1) := by decide +kernel
theorem d_clear_61 : decode b_clear 61 = .ok (.iand, 1) := by decide +kernel
theorem d_clear_62 : decode b_clear 62 = .ok (.putfield 28, 3) := by decide +kernel
theorem d_clear_65 : decode b_clear 65 = .ok (.iload_n 2, 1) := by decide +kernel
theorem d_clear_66 : decode b_clear 66 = .ok (.ireturn, 1) := by decide +kernel
theorem d_advance_0 : decode b_advance 0 = .ok (.iload_n 1, 1) := by decide +kernel
theorem d_advance_1 : decode b_advance 1 = .ok (.invokestatic 77, 3) := by decide +kernel
theorem d_advance_4 : decode b_advance 4 = .ok (.ifCond .ne 5, 3) := by decide +kernel
theorem d_advance_7 : decode b_advance 7 = .ok (.iconst (-1), 1) := by decide +kernel
theorem d_advance_8 : decode b_advance 8 = .ok (.ireturn, 1) := by decide +kernel
theorem d_advance_9 : decode b_advance 9 = .ok (.iconst 0, 1) := by decide +kernel
theorem d_advance_10 : decode b_advance 10 = .ok (.istore_n 2, 1) := by decide +kernel
theorem d_advance_11 : decode b_advance 11 = .ok (.iconst 0, 1) := by decide +kernel
theorem d_advance_12 : decode b_advance 12 = .ok (.istore_n 3, 1) := by decide +kernel
theorem d_advance_13 : decode b_advance 13 = .ok (.iload_n 3, 1) := by decide +kernel
theorem d_advance_14 : decode b_advance 14 = .ok (.iload_n 1, 1) := by decide +kernel
theorem d_advance_15 : decode b_advance 15 = .ok (.if_icmp .ge 16, 3) := by decide +kernel
theorem d_advance_18 : decode b_advance 18 = .ok (.iload_n 2, 1) := by decide +kernel
theorem d_advance_19 : decode b_advance 19 = .ok (.aload_n 0, 1) := by decide +kernel
theorem d_advance_20 : decode b_advance 20 = .ok (.invokevirtual 80, 3) := by decide +kernel
theorem d_advance_23 : decode b_advance 23 = .ok (.iadd, 1) := by decide +kernel
theorem d_advance_24 : decode b_advance 24 = .ok (.istore_n 2, 1) := by decide +kernel
theorem d_advance_25 : decode b_advance 25 = .ok (.iinc 3 1, 3) := by decide +kernel
theorem d_advance_28 : decode b_advance 28 = .ok (.goto (-15), 3) := by decide +kernel
theorem d_advance_31 : decode b_advance 31 = .ok (.iload_n 2, 1) := by decide +kernel
theorem d_advance_32 : decode b_advance 32 = .ok (.ireturn, 1) := by decide +kernel
theorem d_next_0 : decode b_next 0 = .ok (.iload_n 1, 1) := by decide +kernel
theorem d_next_1 : decode b_next 1 = .ok (.invokestatic 77, 3) := by decide +kernel
theorem d_next_4 : decode b_next 4 = .ok (.ifCond .ne 5, 3) := by decide +kernel
theorem d_next_7 : decode b_next 7 = .ok (.iconst (-1), 1) := by decide +kernel
theorem d_next_8 : decode b_next 8 = .ok (.ireturn, 1) := by decide +kernel
theorem d_next_9 : decode b_next 9 = .ok (.iconst 0, 1) := by decide +kernel
theorem d_next_10 : decode b_next 10 = .ok (.istore_n 2, 1) := by decide +kernel
theorem d_next_11 : decode b_next 11 = .ok (.iload_n 2, 1) := by decide +kernel
theorem d_next_12 : decode b_next 12 = .ok (.iload_n 1, 1) := by decide +kernel
theorem d_next_13 : decode b_next 13 = .ok (.if_icmp .ge 20, 3) := by decide +kernel
theorem d_next_16 : decode b_next 16 = .ok (.aload_n 0, 1) := by decide +kernel
theorem d_next_17 : decode b_next 17 = .ok (.invokevirtual 80, 3) := by decide +kernel
theorem d_next_20 : decode b_next 20 = .ok (.ifCond .le 7, 3) := by decide +kernel
theorem d_next_23 : decode b_next 23 = .ok (.iload_n 2, 1) := by decide +kernel
theorem d_next_24 : decode b_next 24 = .ok (.iconst 1, 1) := by decide +kernel
theorem d_next_25 : decode b_next 25 = .ok (.iadd, 1) := by decide +kernel
theorem d_next_26 : decode b_next 26 = .ok (.ireturn, 1) := by decide +kernel
theorem d_next_27 : decode b_next 27 = .ok (.iinc 2 1, 3) := by decide +kernel
theorem d_next_30 : decode b_next 30 = .ok (.goto (-19), 3) := by decide +kernel
theorem d_next_33 : decode b_next 33 = .ok (.iload_n 1, 1) := by decide +kernel
theorem d_next_34 : decode b_next 34 = .ok (.ireturn, 1) := by decide +kernel
theorem d_timer_0 : decode b_timer 0 = .ok (.iload_n 1, 1) := by decide +kernel
theorem d_timer_1 : decode b_timer 1 = .ok (.invokestatic 37, 3) := by decide +kernel
theorem d_timer_4 : decode b_timer 4 = .ok (.ifCond .ne 5, 3) := by decide +kernel
theorem d_timer_7 : decode b_timer 7 = .ok (.iconst (-1), 1) := by decide +kernel
theorem d_timer_8 : decode b_timer 8 = .ok (.ireturn, 1) := by decide +kernel
theorem d_timer_9 : decode b_timer 9 = .ok (.aload_n 0, 1) := by decide +kernel
theorem d_timer_10 : decode b_timer 10 = .ok (.getfield 11, 3) := by decide +kernel
theorem d_timer_13 : decode b_timer 13 = .ok (.iload_n 1, 1) := by decide +kernel
theorem d_timer_14 : decode b_timer 14 = .ok (.aaload, 1) := by decide +kernel
theorem d_timer_15 : decode b_timer 15 = .ok (.iload_n 2, 1) := by decide +kernel
theorem d_timer_16 : decode b_timer 16 = .ok (.invokevirtual 84, 3) := by decide +kernel
theorem d_timer_19 : decode b_timer 19 = .ok (.ireturn, 1) := by decide +kernel
theorem d_gateOf_0 : decode b_gateOf 0 = .ok (.iload_n 1, 1) := by decide +kernel
theorem d_gateOf_1 : decode b_gateOf 1 = .ok (.invokestatic 62, 3) := by decide +kernel
theorem d_gateOf_4 : decode b_gateOf 4 = .ok (.ifCond .ne 5, 3) := by decide +kernel
theorem d_gateOf_7 : decode b_gateOf 7 = .ok (.iconst (-1), 1) := by decide +kernel
theorem d_gateOf_8 : decode b_gateOf 8 = .ok (.ireturn, 1) := by decide +kernel
theorem d_gateOf_9 : decode b_gateOf 9 = .ok (.aload_n 0, 1) := by decide +kernel
theorem d_gateOf_10 : decode b_gateOf 10 = .ok (.getfield 17, 3) := by decide +kernel
theorem d_gateOf_13 : decode b_gateOf 13 = .ok (.iload_n 1, 1) := by decide +kernel
theorem d_gateOf_14 : decode b_gateOf 14 = .ok (.aaload, 1) := by decide +kernel
theorem d_gateOf_15 : decode b_gateOf 15 = .ok (.iload_n 2, 1) := by decide +kernel
theorem d_gateOf_16 : decode b_gateOf 16 = .ok (.aload_n 0, 1) := by decide +kernel
theorem d_gateOf_17 : decode b_gateOf 17 = .ok (.getfield 28, 3) := by decide +kernel
theorem d_gateOf_20 : decode b_gateOf 20 = .ok (.invokevirtual 88, 3) := by decide +kernel
theorem d_gateOf_23 : decode b_gateOf 23 = .ok (.ireturn, 1) := by decide +kernel
theorem d_look_0 : decode b_look 0 = .ok (.iload_n 1, 1) := by decide +kernel
theorem d_look_1 : decode b_look 1 = .ok (.tableswitch 54 0 3 #[31, 36, 41, 49], 31) := by decide +kernel
theorem d_look_32 : decode b_look 32 = .ok (.aload_n 0, 1) := by decide +kernel
theorem d_look_33 : decode b_look 33 = .ok (.getfield 28, 3) := by decide +kernel
theorem d_look_36 : decode b_look 36 = .ok (.ireturn, 1) := by decide +kernel
theorem d_look_37 : decode b_look 37 = .ok (.aload_n 0, 1) := by decide +kernel
theorem d_look_38 : decode b_look 38 = .ok (.getfield 32, 3) := by decide +kernel
theorem d_look_41 : decode b_look 41 = .ok (.ireturn, 1) := by decide +kernel
theorem d_look_42 : decode b_look 42 = .ok (.aload_n 0, 1) := by decide +kernel
theorem d_look_43 : decode b_look 43 = .ok (.getfield 24, 3) := by decide +kernel
theorem d_look_46 : decode b_look 46 = .ok (.getfield 91, 3) := by decide +kernel
theorem d_look_49 : decode b_look 49 = .ok (.ireturn, 1) := by decide +kernel
theorem d_look_50 : decode b_look 50 = .ok (.aload_n 0, 1) := by decide +kernel
theorem d_look_51 : decode b_look 51 = .ok (.invokevirtual 94, 3) := by decide +kernel
theorem d_look_54 : decode b_look 54 = .ok (.ireturn, 1) := by decide +kernel
theorem d_look_55 : decode b_look 55 = .ok (.iconst (-1), 1) := by decide +kernel
theorem d_look_56 : decode b_look 56 = .ok (.ireturn, 1) := by decide +kernel
theorem d_served_0 : decode b_served 0 = .ok (.aload_n 0, 1) := by decide +kernel
theorem d_served_1 : decode b_served 1 = .ok (.getfield 24, 3) := by decide +kernel
theorem d_served_4 : decode b_served 4 = .ok (.iload_n 1, 1) := by decide +kernel
theorem d_served_5 : decode b_served 5 = .ok (.iload_n 2, 1) := by decide +kernel
theorem d_served_6 : decode b_served 6 = .ok (.invokevirtual 97, 3) := by decide +kernel
theorem d_served_9 : decode b_served 9 = .ok (.ireturn, 1) := by decide +kernel
theorem d_isTimer_0 : decode b_isTimer 0 = .ok (.iload_n 0, 1) := by decide +kernel
theorem d_isTimer_1 : decode b_isTimer 1 = .ok (.ifCond .lt 13, 3) := by decide +kernel
theorem d_isTimer_4 : decode b_isTimer 4 = .ok (.iload_n 0, 1) := by decide +kernel
theorem d_isTimer_5 : decode b_isTimer 5 = .ok (.bipush 8, 2) := by decide +kernel
theorem d_isTimer_7 : decode b_isTimer 7 = .ok (.if_icmp .ge 7, 3) := by decide +kernel
theorem d_isTimer_10 : decode b_isTimer 10 = .ok (.iconst 1, 1) := by decide +kernel
theorem d_isTimer_11 : decode b_isTimer 11 = .ok (.goto 4, 3) := by decide +kernel
theorem d_isTimer_14 : decode b_isTimer 14 = .ok (.iconst 0, 1) := by decide +kernel
theorem d_isTimer_15 : decode b_isTimer 15 = .ok (.ireturn, 1) := by decide +kernel
theorem d_isGate_0 : decode b_isGate 0 = .ok (.iload_n 0, 1) := by decide +kernel
theorem d_isGate_1 : decode b_isGate 1 = .ok (.ifCond .lt 12, 3) := by decide +kernel
theorem d_isGate_4 : decode b_isGate 4 = .ok (.iload_n 0, 1) := by decide +kernel
theorem d_isGate_5 : decode b_isGate 5 = .ok (.iconst 4, 1) := by decide +kernel
theorem d_isGate_6 : decode b_isGate 6 = .ok (.if_icmp .ge 7, 3) := by decide +kernel
theorem d_isGate_9 : decode b_isGate 9 = .ok (.iconst 1, 1) := by decide +kernel
theorem d_isGate_10 : decode b_isGate 10 = .ok (.goto 4, 3) := by decide +kernel
theorem d_isGate_13 : decode b_isGate 13 = .ok (.iconst 0, 1) := by decide +kernel
theorem d_isGate_14 : decode b_isGate 14 = .ok (.ireturn, 1) := by decide +kernel
theorem d_isSource_0 : decode b_isSource 0 = .ok (.iload_n 1, 1) := by decide +kernel
theorem d_isSource_1 : decode b_isSource 1 = .ok (.ifCond .eq 12, 3) := by decide +kernel
theorem d_isSource_4 : decode b_isSource 4 = .ok (.iload_n 1, 1) := by decide +kernel
theorem d_isSource_5 : decode b_isSource 5 = .ok (.iconst 1, 1) := by decide +kernel
theorem d_isSource_6 : decode b_isSource 6 = .ok (.if_icmp .ne 11, 3) := by decide +kernel
theorem d_isSource_9 : decode b_isSource 9 = .ok (.iload_n 0, 1) := by decide +kernel
theorem d_isSource_10 : decode b_isSource 10 = .ok (.ifCond .le 7, 3) := by decide +kernel
theorem d_isSource_13 : decode b_isSource 13 = .ok (.iconst 1, 1) := by decide +kernel
theorem d_isSource_14 : decode b_isSource 14 = .ok (.goto 4, 3) := by decide +kernel
theorem d_isSource_17 : decode b_isSource 17 = .ok (.iconst 0, 1) := by decide +kernel
theorem d_isSource_18 : decode b_isSource 18 = .ok (.ireturn, 1) := by decide +kernel
theorem d_isBitSet_0 : decode b_isBitSet 0 = .ok (.iload_n 0, 1) := by decide +kernel
theorem d_isBitSet_1 : decode b_isBitSet 1 = .ok (.ifCond .lt 14, 3) := by decide +kernel
theorem d_isBitSet_4 : decode b_isBitSet 4 = .ok (.iload_n 0, 1) := by decide +kernel
theorem d_isBitSet_5 : decode b_isBitSet 5 = .ok (.sipush 255, 3) := by decide +kernel
theorem d_isBitSet_8 : decode b_isBitSet 8 = .ok (.if_icmp .gt 7, 3) := by decide +kernel
theorem d_isBitSet_11 : decode b_isBitSet 11 = .ok (.iconst 1, 1) := by decide +kernel
theorem d_isBitSet_12 : decode b_isBitSet 12 = .ok (.goto 4, 3) := by decide +kernel
theorem d_isBitSet_15 : decode b_isBitSet 15 = .ok (.iconst 0, 1) := by decide +kernel
theorem d_isBitSet_16 : decode b_isBitSet 16 = .ok (.ireturn, 1) := by decide +kernel
theorem d_isTickCount_0 : decode b_isTickCount 0 = .ok (.iload_n 0, 1) := by decide +kernel
theorem d_isTickCount_1 : decode b_isTickCount 1 = .ok (.ifCond .lt 14, 3) := by decide +kernel
theorem d_isTickCount_4 : decode b_isTickCount 4 = .ok (.iload_n 0, 1) := by decide +kernel
theorem d_isTickCount_5 : decode b_isTickCount 5 = .ok (.sipush 20000, 3) := by decide +kernel
theorem d_isTickCount_8 : decode b_isTickCount 8 = .ok (.if_icmp .gt 7, 3) := by decide +kernel
theorem d_isTickCount_11 : decode b_isTickCount 11 = .ok (.iconst 1, 1) := by decide +kernel
theorem d_isTickCount_12 : decode b_isTickCount 12 = .ok (.goto 4, 3) := by decide +kernel
theorem d_isTickCount_15 : decode b_isTickCount 15 = .ok (.iconst 0, 1) := by decide +kernel
theorem d_isTickCount_16 : decode b_isTickCount 16 = .ok (.ireturn, 1) := by decide +kernel
theorem d_tick_0 : decode b_tick 0 = .ok (.aload_n 0, 1) := by decide +kernel
theorem d_tick_1 : decode b_tick 1 = .ok (.dup, 1) := by decide +kernel
theorem d_tick_2 : decode b_tick 2 = .ok (.getfield 32, 3) := by decide +kernel
theorem d_tick_5 : decode b_tick 5 = .ok (.iconst 1, 1) := by decide +kernel
theorem d_tick_6 : decode b_tick 6 = .ok (.iadd, 1) := by decide +kernel
theorem d_tick_7 : decode b_tick 7 = .ok (.putfield 32, 3) := by decide +kernel
theorem d_tick_10 : decode b_tick 10 = .ok (.aload_n 0, 1) := by decide +kernel
theorem d_tick_11 : decode b_tick 11 = .ok (.invokevirtual 98, 3) := by decide +kernel
theorem d_tick_14 : decode b_tick 14 = .ok (.aload_n 0, 1) := by decide +kernel
theorem d_tick_15 : decode b_tick 15 = .ok (.invokevirtual 101, 3) := by decide +kernel
theorem d_tick_18 : decode b_tick 18 = .ok (.istore_n 1, 1) := by decide +kernel
theorem d_tick_19 : decode b_tick 19 = .ok (.aload_n 0, 1) := by decide +kernel
theorem d_tick_20 : decode b_tick 20 = .ok (.invokevirtual 104, 3) := by decide +kernel
theorem d_tick_23 : decode b_tick 23 = .ok (.iload_n 1, 1) := by decide +kernel
theorem d_tick_24 : decode b_tick 24 = .ok (.ireturn, 1) := by decide +kernel
theorem d_tickTimers_0 : decode b_tickTimers 0 = .ok (.iconst 0, 1) := by decide +kernel
theorem d_tickTimers_1 : decode b_tickTimers 1 = .ok (.istore_n 1, 1) := by decide +kernel
theorem d_tickTimers_2 : decode b_tickTimers 2 = .ok (.iconst 0, 1) := by decide +kernel
theorem d_tickTimers_3 : decode b_tickTimers 3 = .ok (.istore_n 2, 1) := by decide +kernel
theorem d_tickTimers_4 : decode b_tickTimers 4 = .ok (.iload_n 2, 1) := by decide +kernel
theorem d_tickTimers_5 : decode b_tickTimers 5 = .ok (.bipush 8, 2) := by decide +kernel
theorem d_tickTimers_7 : decode b_tickTimers 7 = .ok (.if_icmp .ge 61, 3) := by decide +kernel
theorem d_tickTimers_10 : decode b_tickTimers 10 = .ok (.aload_n 0, 1) := by decide +kernel
theorem d_tickTimers_11 : decode b_tickTimers 11 = .ok (.getfield 11, 3) := by decide +kernel
theorem d_tickTimers_14 : decode b_tickTimers 14 = .ok (.iload_n 2, 1) := by decide +kernel
theorem d_tickTimers_15 : decode b_tickTimers 15 = .ok (.aaload, 1) := by decide +kernel
theorem d_tickTimers_16 : decode b_tickTimers 16 = .ok (.astore_n 3, 1) := by decide +kernel
theorem d_tickTimers_17 : decode b_tickTimers 17 = .ok (.aload_n 3, 1) := by decide +kernel
theorem d_tickTimers_18 : decode b_tickTimers 18 = .ok (.getfield 46, 3) := by decide +kernel
theorem d_tickTimers_21 : decode b_tickTimers 21 = .ok (.ifCond .eq 7, 3) := by decide +kernel
theorem d_tickTimers_24 : decode b_tickTimers 24 = .ok (.iload_n 1, 1) := by decide +kernel
theorem d_tickTimers_25 : decode b_tickTimers 25 = .ok (.ifCond .eq 7, 3) := by decide +kernel
theorem d_tickTimers_28 : decode b_tickTimers 28 = .ok (.iconst 1, 1) := by decide +kernel
theorem d_tickTimers_29 : decode b_tickTimers 29 = .ok (.goto 4, 3) := by decide +kernel
theorem d_tickTimers_32 : decode b_tickTimers 32 = .ok (.iconst 0, 1) := by decide +kernel
theorem d_tickTimers_33 : decode b_tickTimers 33 = .ok (.istore 4, 2) := by decide +kernel
theorem d_tickTimers_35 : decode b_tickTimers 35 = .ok (.iload 4, 2) := by decide +kernel
theorem d_tickTimers_37 : decode b_tickTimers 37 = .ok (.ifCond .eq 14, 3) := by decide +kernel
theorem d_tickTimers_40 : decode b_tickTimers 40 = .ok (.aload_n 3, 1) := by decide +kernel
theorem d_tickTimers_41 : decode b_tickTimers 41 = .ok (.invokevirtual 107, 3) := by decide +kernel
theorem d_tickTimers_44 : decode b_tickTimers 44 = .ok (.ifCond .eq 7, 3) := by decide +kernel
theorem d_tickTimers_47 : decode b_tickTimers 47 = .ok (.iconst 1, 1) := by decide +kernel
theorem d_tickTimers_48 : decode b_tickTimers 48 = .ok (.goto 4, 3) := by decide +kernel
theorem d_tickTimers_51 : decode b_tickTimers 51 = .ok (.iconst 0, 1) := by decide +kernel
theorem d_tickTimers_52 : decode b_tickTimers 52 = .ok (.istore_n 1, 1) := by decide +kernel
theorem d_tickTimers_53 : decode b_tickTimers 53 = .ok (.iload_n 1, 1) := by decide +kernel
theorem d_tickTimers_54 : decode b_tickTimers 54 = .ok (.ifCond .eq 8, 3) := by decide +kernel
theorem d_tickTimers_57 : decode b_tickTimers 57 = .ok (.aload_n 0, 1) := by decide +kernel
theorem d_tickTimers_58 : decode b_tickTimers 58 = .ok (.iload_n 2, 1) := by decide +kernel
theorem d_tickTimers_59 : decode b_tickTimers 59 = .ok (.invokevirtual 111, 3) := by decide +kernel
theorem d_tickTimers_62 : decode b_tickTimers 62 = .ok (.iinc 2 1, 3) := by decide +kernel
theorem d_tickTimers_65 : decode b_tickTimers 65 = .ok (.goto (-61), 3) := by decide +kernel
theorem d_tickTimers_68 : decode b_tickTimers 68 = .ok (.return_, 1) := by decide +kernel
theorem d_raise_0 : decode b_raise 0 = .ok (.iconst 1, 1) := by decide +kernel
theorem d_raise_1 : decode b_raise 1 = .ok (.iload_n 1, 1) := by decide +kernel
theorem d_raise_2 : decode b_raise 2 = .ok (.ishl, 1) := by decide +kernel
theorem d_raise_3 : decode b_raise 3 = .ok (.istore_n 2, 1) := by decide +kernel
theorem d_raise_4 : decode b_raise 4 = .ok (.aload_n 0, 1) := by decide +kernel
theorem d_raise_5 : decode b_raise 5 = .ok (.getfield 28, 3) := by decide +kernel
theorem d_raise_8 : decode b_raise 8 = .ok (.iload_n 2, 1) := by decide +kernel
theorem d_raise_9 : decode b_raise 9 = .ok (.iand, 1) := by decide +kernel
theorem d_raise_10 : decode b_raise 10 = .ok (.ifCond .eq 18, 3) := by decide +kernel
theorem d_raise_13 : decode b_raise 13 = .ok (.aload_n 0, 1) := by decide +kernel
theorem d_raise_14 : decode b_raise 14 = .ok (.getfield 11, 3) := by decide +kernel
theorem d_raise_17 : decode b_raise 17 = .ok (.iload_n 1, 1) := by decide +kernel
theorem d_raise_18 : decode b_raise 18 = .ok (.aaload, 1) := by decide +kernel
theorem d_raise_19 : decode b_raise 19 = .ok (.dup, 1) := by decide +kernel
theorem d_raise_20 : decode b_raise 20 = .ok (.getfield 115, 3) := by decide +kernel
theorem d_raise_23 : decode b_raise 23 = .ok (.iconst 1, 1) := by decide +kernel
theorem d_raise_24 : decode b_raise 24 = .ok (.iadd, 1) := by decide +kernel
theorem d_raise_25 : decode b_raise 25 = .ok (.putfield 115, 3) := by decide +kernel
theorem d_raise_28 : decode b_raise 28 = .ok (.aload_n 0, 1) := by decide +kernel
theorem d_raise_29 : decode b_raise 29 = .ok (.dup, 1) := by decide +kernel
theorem d_raise_30 : decode b_raise 30 = .ok (.getfield 28, 3) := by decide +kernel
theorem d_raise_33 : decode b_raise 33 = .ok (.iload_n 2, 1) := by decide +kernel
theorem d_raise_34 : decode b_raise 34 = .ok (.ior, 1) := by decide +kernel
theorem d_raise_35 : decode b_raise 35 = .ok (.putfield 28, 3) := by decide +kernel
theorem d_raise_38 : decode b_raise 38 = .ok (.return_, 1) := by decide +kernel
theorem d_tickGates_0 : decode b_tickGates 0 = .ok (.iconst 0, 1) := by decide +kernel
theorem d_tickGates_1 : decode b_tickGates 1 = .ok (.istore_n 1, 1) := by decide +kernel
theorem d_tickGates_2 : decode b_tickGates 2 = .ok (.iconst 0, 1) := by decide +kernel
theorem d_tickGates_3 : decode b_tickGates 3 = .ok (.istore_n 2, 1) := by decide +kernel
theorem d_tickGates_4 : decode b_tickGates 4 = .ok (.iload_n 2, 1) := by decide +kernel
theorem d_tickGates_5 : decode b_tickGates 5 = .ok (.iconst 4, 1) := by decide +kernel
theorem d_tickGates_6 : decode b_tickGates 6 = .ok (.if_icmp .ge 32, 3) := by decide +kernel
theorem d_tickGates_9 : decode b_tickGates 9 = .ok (.aload_n 0, 1) := by decide +kernel
theorem d_tickGates_10 : decode b_tickGates 10 = .ok (.getfield 17, 3) := by decide +kernel
theorem d_tickGates_13 : decode b_tickGates 13 = .ok (.iload_n 2, 1) := by decide +kernel
theorem d_tickGates_14 : decode b_tickGates 14 = .ok (.aaload, 1) := by decide +kernel
theorem d_tickGates_15 : decode b_tickGates 15 = .ok (.invokevirtual 118, 3) := by decide +kernel
theorem d_tickGates_18 : decode b_tickGates 18 = .ok (.ifCond .eq 14, 3) := by decide +kernel
theorem d_tickGates_21 : decode b_tickGates 21 = .ok (.aload_n 0, 1) := by decide +kernel
theorem d_tickGates_22 : decode b_tickGates 22 = .ok (.iload_n 2, 1) := by decide +kernel
theorem d_tickGates_23 : decode b_tickGates 23 = .ok (.invokevirtual 121, 3) := by decide +kernel
theorem d_tickGates_26 : decode b_tickGates 26 = .ok (.ifCond .eq 6, 3) := by decide +kernel
theorem d_tickGates_29 : decode b_tickGates 29 = .ok (.iinc 1 1, 3) := by decide +kernel
theorem d_tickGates_32 : decode b_tickGates 32 = .ok (.iinc 2 1, 3) := by decide +kernel
theorem d_tickGates_35 : decode b_tickGates 35 = .ok (.goto (-31), 3) := by decide +kernel
theorem d_tickGates_38 : decode b_tickGates 38 = .ok (.iload_n 1, 1) := by decide +kernel
theorem d_tickGates_39 : decode b_tickGates 39 = .ok (.ireturn, 1) := by decide +kernel
theorem d_serve_0 : decode b_serve 0 = .ok (.aload_n 0, 1) := by decide +kernel
theorem d_serve_1 : decode b_serve 1 = .ok (.getfield 17, 3) := by decide +kernel
theorem d_serve_4 : decode b_serve 4 = .ok (.iload_n 1, 1) := by decide +kernel
theorem d_serve_5 : decode b_serve 5 = .ok (.aaload, 1) := by decide +kernel
theorem d_serve_6 : decode b_serve 6 = .ok (.astore_n 2, 1) := by decide +kernel
theorem d_serve_7 : decode b_serve 7 = .ok (.aload_n 2, 1) := by decide +kernel
theorem d_serve_8 : decode b_serve 8 = .ok (.aload_n 0, 1) := by decide +kernel
theorem d_serve_9 : decode b_serve 9 = .ok (.getfield 28, 3) := by decide +kernel
theorem d_serve_12 : decode b_serve 12 = .ok (.invokevirtual 124, 3) := by decide +kernel
theorem d_serve_15 : decode b_serve 15 = .ok (.ifCond .ne 15, 3) := by decide +kernel
theorem d_serve_18 : decode b_serve 18 = .ok (.aload_n 2, 1) := by decide +kernel
theorem d_serve_19 : decode b_serve 19 = .ok (.dup, 1) := by decide +kernel
theorem d_serve_20 : decode b_serve 20 = .ok (.getfield 127, 3) := by decide +kernel
theorem d_serve_23 : decode b_serve 23 = .ok (.iconst 1, 1) := by decide +kernel
theorem d_serve_24 : decode b_serve 24 = .ok (.iadd, 1) := by decide +kernel
theorem d_serve_25 : decode b_serve 25 = .ok (.putfield 127, 3) := by decide +kernel
theorem d_serve_28 : decode b_serve 28 = .ok (.iconst 0, 1) := by decide +kernel
theorem d_serve_29 : decode b_serve 29 = .ok (.ireturn, 1) := by decide +kernel
theorem d_serve_30 : decode b_serve 30 = .ok (.aload_n 0, 1) := by decide +kernel
theorem d_serve_31 : decode b_serve 31 = .ok (.getfield 28, 3) := by decide +kernel
theorem d_serve_34 : decode b_serve 34 = .ok (.aload_n 2, 1) := by decide +kernel
theorem d_serve_35 : decode b_serve 35 = .ok (.getfield 68, 3) := by decide +kernel
theorem d_serve_38 : decode b_serve 38 = .ok (.iand, 1) := by decide +kernel
theorem d_serve_39 : decode b_serve 39 = .ok (.invokestatic 130, 3) := by decide +kernel
theorem d_serve_42 : decode b_serve 42 = .ok (.istore_n 3, 1) := by decide +kernel
theorem d_serve_43 : decode b_serve 43 = .ok (.aload_n 0, 1) := by decide +kernel
theorem d_serve_44 : decode b_serve 44 = .ok (.dup, 1) := by decide +kernel
theorem d_serve_45 : decode b_serve 45 = .ok (.getfield 28, 3) := by decide +kernel
theorem d_serve_48 : decode b_serve 48 = .ok (.iconst 1, 1) := by decide +kernel
theorem d_serve_49 : decode b_serve 49 = .ok (.iload_n 3, 1) := by decide +kernel
theorem d_serve_50 : decode b_serve 50 = .ok (.ishl, 1) := by decide +kernel
theorem d_serve_51 : decode b_serve 51 = .ok (.iconst (-1), 1) := by decide +kernel
theorem d_serve_52 : decode b_serve 52 = .ok (.ixor, 1) := by decide +kernel
theorem d_serve_53 : decode b_serve 53 = .ok (.iand, 1) := by decide +kernel
theorem d_serve_54 : decode b_serve 54 = .ok (.putfield 28, 3) := by decide +kernel
theorem d_serve_57 : decode b_serve 57 = .ok (.aload_n 0, 1) := by decide +kernel
theorem d_serve_58 : decode b_serve 58 = .ok (.getfield 11, 3) := by decide +kernel
theorem d_serve_61 : decode b_serve 61 = .ok (.iload_n 3, 1) := by decide +kernel
theorem d_serve_62 : decode b_serve 62 = .ok (.aaload, 1) := by decide +kernel
theorem d_serve_63 : decode b_serve 63 = .ok (.dup, 1) := by decide +kernel
theorem d_serve_64 : decode b_serve 64 = .ok (.getfield 133, 3) := by decide +kernel
theorem d_serve_67 : decode b_serve 67 = .ok (.iconst 1, 1) := by decide +kernel
theorem d_serve_68 : decode b_serve 68 = .ok (.iadd, 1) := by decide +kernel
theorem d_serve_69 : decode b_serve 69 = .ok (.putfield 133, 3) := by decide +kernel
theorem d_serve_72 : decode b_serve 72 = .ok (.aload_n 2, 1) := by decide +kernel
theorem d_serve_73 : decode b_serve 73 = .ok (.dup, 1) := by decide +kernel
theorem d_serve_74 : decode b_serve 74 = .ok (.getfield 136, 3) := by decide +kernel
theorem d_serve_77 : decode b_serve 77 = .ok (.iconst 1, 1) := by decide +kernel
theorem d_serve_78 : decode b_serve 78 = .ok (.iadd, 1) := by decide +kernel
theorem d_serve_79 : decode b_serve 79 = .ok (.putfield 136, 3) := by decide +kernel
theorem d_serve_82 : decode b_serve 82 = .ok (.aload_n 2, 1) := by decide +kernel
theorem d_serve_83 : decode b_serve 83 = .ok (.aload_n 0, 1) := by decide +kernel
theorem d_serve_84 : decode b_serve 84 = .ok (.getfield 32, 3) := by decide +kernel
theorem d_serve_87 : decode b_serve 87 = .ok (.putfield 139, 3) := by decide +kernel
theorem d_serve_90 : decode b_serve 90 = .ok (.aload_n 0, 1) := by decide +kernel
theorem d_serve_91 : decode b_serve 91 = .ok (.getfield 24, 3) := by decide +kernel
theorem d_serve_94 : decode b_serve 94 = .ok (.iload_n 3, 1) := by decide +kernel
theorem d_serve_95 : decode b_serve 95 = .ok (.iload_n 1, 1) := by decide +kernel
theorem d_serve_96 : decode b_serve 96 = .ok (.aload_n 0, 1) := by decide +kernel
theorem d_serve_97 : decode b_serve 97 = .ok (.getfield 32, 3) := by decide +kernel
theorem d_serve_100 : decode b_serve 100 = .ok (.invokevirtual 142, 3) := by decide +kernel
theorem d_serve_103 : decode b_serve 103 = .ok (.iconst 1, 1) := by decide +kernel
theorem d_serve_104 : decode b_serve 104 = .ok (.ireturn, 1) := by decide +kernel
theorem d_leastBit_0 : decode b_leastBit 0 = .ok (.iconst 0, 1) := by decide +kernel
theorem d_leastBit_1 : decode b_leastBit 1 = .ok (.istore_n 1, 1) := by decide +kernel
theorem d_leastBit_2 : decode b_leastBit 2 = .ok (.iload_n 1, 1) := by decide +kernel
theorem d_leastBit_3 : decode b_leastBit 3 = .ok (.bipush 7, 2) := by decide +kernel
theorem d_leastBit_5 : decode b_leastBit 5 = .ok (.if_icmp .ge 19, 3) := by decide +kernel
theorem d_leastBit_8 : decode b_leastBit 8 = .ok (.iload_n 0, 1) := by decide +kernel
theorem d_leastBit_9 : decode b_leastBit 9 = .ok (.iconst 1, 1) := by decide +kernel
theorem d_leastBit_10 : decode b_leastBit 10 = .ok (.iload_n 1, 1) := by decide +kernel
theorem d_leastBit_11 : decode b_leastBit 11 = .ok (.ishl, 1) := by decide +kernel
theorem d_leastBit_12 : decode b_leastBit 12 = .ok (.iand, 1) := by decide +kernel
theorem d_leastBit_13 : decode b_leastBit 13 = .ok (.ifCond .eq 5, 3) := by decide +kernel
theorem d_leastBit_16 : decode b_leastBit 16 = .ok (.iload_n 1, 1) := by decide +kernel
theorem d_leastBit_17 : decode b_leastBit 17 = .ok (.ireturn, 1) := by decide +kernel
theorem d_leastBit_18 : decode b_leastBit 18 = .ok (.iinc 1 1, 3) := by decide +kernel
theorem d_leastBit_21 : decode b_leastBit 21 = .ok (.goto (-19), 3) := by decide +kernel
theorem d_leastBit_24 : decode b_leastBit 24 = .ok (.bipush 7, 2) := by decide +kernel
theorem d_leastBit_26 : decode b_leastBit 26 = .ok (.ireturn, 1) := by decide +kernel
theorem d_wakeGates_0 : decode b_wakeGates 0 = .ok (.iconst 0, 1) := by decide +kernel
theorem d_wakeGates_1 : decode b_wakeGates 1 = .ok (.istore_n 1, 1) := by decide +kernel
theorem d_wakeGates_2 : decode b_wakeGates 2 = .ok (.iload_n 1, 1) := by decide +kernel
theorem d_wakeGates_3 : decode b_wakeGates 3 = .ok (.iconst 4, 1) := by decide +kernel
theorem d_wakeGates_4 : decode b_wakeGates 4 = .ok (.if_icmp .ge 42, 3) := by decide +kernel
theorem d_wakeGates_7 : decode b_wakeGates 7 = .ok (.aload_n 0, 1) := by decide +kernel
theorem d_wakeGates_8 : decode b_wakeGates 8 = .ok (.getfield 17, 3) := by decide +kernel
theorem d_wakeGates_11 : decode b_wakeGates 11 = .ok (.iload_n 1, 1) := by decide +kernel
theorem d_wakeGates_12 : decode b_wakeGates 12 = .ok (.aaload, 1) := by decide +kernel
theorem d_wakeGates_13 : decode b_wakeGates 13 = .ok (.astore_n 2, 1) := by decide +kernel
theorem d_wakeGates_14 : decode b_wakeGates 14 = .ok (.aload_n 2, 1) := by decide +kernel
theorem d_wakeGates_15 : decode b_wakeGates 15 = .ok (.getfield 146, 3) := by decide +kernel
theorem d_wakeGates_18 : decode b_wakeGates 18 = .ok (.ifCond .ne 22, 3) := by decide +kernel
theorem d_wakeGates_21 : decode b_wakeGates 21 = .ok (.aload_n 2, 1) := by decide +kernel
theorem d_wakeGates_22 : decode b_wakeGates 22 = .ok (.aload_n 0, 1) := by decide +kernel
theorem d_wakeGates_23 : decode b_wakeGates 23 = .ok (.getfield 28, 3) := by decide +kernel
theorem d_wakeGates_26 : decode b_wakeGates 26 = .ok (.invokevirtual 124, 3) := by decide +kernel
theorem d_wakeGates_29 : decode b_wakeGates 29 = .ok (.ifCond .eq 11, 3) := by decide +kernel
theorem d_wakeGates_32 : decode b_wakeGates 32 = .ok (.aload_n 2, 1) := by decide +kernel
theorem d_wakeGates_33 : decode b_wakeGates 33 = .ok (.aload_n 2, 1) := by decide +kernel
theorem d_wakeGates_34 : decode b_wakeGates 34 = .ok (.getfield 71, 3) := by decide +kernel
theorem d_wakeGates_37 : decode b_wakeGates 37 = .ok (.putfield 146, 3) := by decide +kernel
theorem d_wakeGates_40 : decode b_wakeGates 40 = .ok (.iinc 1 1, 3) := by decide +kernel
theorem d_wakeGates_43 : decode b_wakeGates 43 = .ok (.goto (-41), 3) := by decide +kernel
theorem d_wakeGates_46 : decode b_wakeGates 46 = .ok (.return_, 1) := by decide +kernel
theorem d_ticksToNextEnd_0 : decode b_ticksToNextEnd 0 = .ok (.iconst 0, 1) := by decide +kernel
theorem d_ticksToNextEnd_1 : decode b_ticksToNextEnd 1 = .ok (.istore_n 1, 1) := by decide +kernel
theorem d_ticksToNextEnd_2 : decode b_ticksToNextEnd 2 = .ok (.iconst 0, 1) := by decide +kernel
theorem d_ticksToNextEnd_3 : decode b_ticksToNextEnd 3 = .ok (.istore_n 2, 1) := by decide +kernel
theorem d_ticksToNextEnd_4 : decode b_ticksToNextEnd 4 = .ok (.iload_n 2, 1) := by decide +kernel
theorem d_ticksToNextEnd_5 : decode b_ticksToNextEnd 5 = .ok (.bipush 8, 2) := by decide +kernel
theorem d_ticksToNextEnd_7 : decode b_ticksToNextEnd 7 = .ok (.if_icmp .ge 59, 3) := by decide +kernel
theorem d_ticksToNextEnd_10 : decode b_ticksToNextEnd 10 = .ok (.aload_n 0, 1) := by decide +kernel
theorem d_ticksToNextEnd_11 : decode b_ticksToNextEnd 11 = .ok (.getfield 11, 3) := by decide +kernel
theorem d_ticksToNextEnd_14 : decode b_ticksToNextEnd 14 = .ok (.iload_n 2, 1) := by decide +kernel
theorem d_ticksToNextEnd_15 : decode b_ticksToNextEnd 15 = .ok (.aaload, 1) := by decide +kernel
theorem d_ticksToNextEnd_16 : decode b_ticksToNextEnd 16 = .ok (.astore_n 3, 1) := by decide +kernel
theorem d_ticksToNextEnd_17 : decode b_ticksToNextEnd 17 = .ok (.aload_n 3, 1) := by decide +kernel
theorem d_ticksToNextEnd_18 : decode b_ticksToNextEnd 18 = .ok (.getfield 59, 3) := by decide +kernel
theorem d_ticksToNextEnd_21 : decode b_ticksToNextEnd 21 = .ok (.ifCond .eq 14, 3) := by decide +kernel
theorem d_ticksToNextEnd_24 : decode b_ticksToNextEnd 24 = .ok (.aload_n 3, 1) := by decide +kernel
theorem d_ticksToNextEnd_25 : decode b_ticksToNextEnd 25 = .ok (.getfield 46, 3) := by decide +kernel
theorem d_ticksToNextEnd_28 : decode b_ticksToNextEnd 28 = .ok (.ifCond .ne 7, 3) := by decide +kernel
theorem d_ticksToNextEnd_31 : decode b_ticksToNextEnd 31 = .ok (.iconst 1, 1) := by decide +kernel
theorem d_ticksToNextEnd_32 : decode b_ticksToNextEnd 32 = .ok (.goto 4, 3) := by decide +kernel
theorem d_ticksToNextEnd_35 : decode b_ticksToNextEnd 35 = .ok (.iconst 0, 1) := by decide +kernel
theorem d_ticksToNextEnd_36 : decode b_ticksToNextEnd 36 = .ok (.istore 4, 2) := by decide +kernel
theorem d_ticksToNextEnd_38 : decode b_ticksToNextEnd 38 = .ok (.iload 4, 2) := by decide +kernel
theorem d_ticksToNextEnd_40 : decode b_ticksToNextEnd 40 = .ok (.ifCond .eq 20, 3) := by decide +kernel
theorem d_ticksToNextEnd_43 : decode b_ticksToNextEnd 43 = .ok (.iload_n 1, 1) := by decide +kernel
theorem d_ticksToNextEnd_44 : decode b_ticksToNextEnd 44 = .ok (.ifCond .eq 11, 3) := by decide +kernel
theorem d_ticksToNextEnd_47 : decode b_ticksToNextEnd 47 = .ok (.aload_n 3, 1) := by decide +kernel
theorem d_ticksToNextEnd_48 : decode b_ticksToNextEnd 48 = .ok (.getfield 52, 3) := by decide +kernel
theorem d_ticksToNextEnd_51 : decode b_ticksToNextEnd 51 = .ok (.iload_n 1, 1) := by decide +kernel
theorem d_ticksToNextEnd_52 : decode b_ticksToNextEnd 52 = .ok (.if_icmp .ge 8, 3) := by decide +kernel
theorem d_ticksToNextEnd_55 : decode b_ticksToNextEnd 55 = .ok (.aload_n 3, 1) := by decide +kernel
theorem d_ticksToNextEnd_56 : decode b_ticksToNextEnd 56 = .ok (.getfield 52, 3) := by decide +kernel
theorem d_ticksToNextEnd_59 : decode b_ticksToNextEnd 59 = .ok (.istore_n 1, 1) := by decide +kernel
theorem d_ticksToNextEnd_60 : decode b_ticksToNextEnd 60 = .ok (.iinc 2 1, 3) := by decide +kernel
theorem d_ticksToNextEnd_63 : decode b_ticksToNextEnd 63 = .ok (.goto (-59), 3) := by decide +kernel
theorem d_ticksToNextEnd_66 : decode b_ticksToNextEnd 66 = .ok (.iload_n 1, 1) := by decide +kernel
theorem d_ticksToNextEnd_67 : decode b_ticksToNextEnd 67 = .ok (.ireturn, 1) := by decide +kernel
theorem d_Ginit_0 : decode b_Ginit 0 = .ok (.aload_n 0, 1) := by decide +kernel
theorem d_Ginit_1 : decode b_Ginit 1 = .ok (.invokespecial 3, 3) := by decide +kernel
theorem d_Ginit_4 : decode b_Ginit 4 = .ok (.aload_n 0, 1) := by decide +kernel
theorem d_Ginit_5 : decode b_Ginit 5 = .ok (.iconst 0, 1) := by decide +kernel
theorem d_Ginit_6 : decode b_Ginit 6 = .ok (.putfield 9, 3) := by decide +kernel
theorem d_Ginit_9 : decode b_Ginit 9 = .ok (.aload_n 0, 1) := by decide +kernel
theorem d_Ginit_10 : decode b_Ginit 10 = .ok (.iconst 1, 1) := by decide +kernel
theorem d_Ginit_11 : decode b_Ginit 11 = .ok (.putfield 15, 3) := by decide +kernel
theorem d_Ginit_14 : decode b_Ginit 14 = .ok (.aload_n 0, 1) := by decide +kernel
theorem d_Ginit_15 : decode b_Ginit 15 = .ok (.iconst 0, 1) := by decide +kernel
theorem d_Ginit_16 : decode b_Ginit 16 = .ok (.putfield 18, 3) := by decide +kernel
theorem d_Ginit_19 : decode b_Ginit 19 = .ok (.aload_n 0, 1) := by decide +kernel
theorem d_Ginit_20 : decode b_Ginit 20 = .ok (.iconst 0, 1) := by decide +kernel
theorem d_Ginit_21 : decode b_Ginit 21 = .ok (.putfield 21, 3) := by decide +kernel
theorem d_Ginit_24 : decode b_Ginit 24 = .ok (.aload_n 0, 1) := by decide +kernel
theorem d_Ginit_25 : decode b_Ginit 25 = .ok (.iconst 0, 1) := by decide +kernel
theorem d_Ginit_26 : decode b_Ginit 26 = .ok (.putfield 24, 3) := by decide +kernel
theorem d_Ginit_29 : decode b_Ginit 29 = .ok (.aload_n 0, 1) := by decide +kernel
theorem d_Ginit_30 : decode b_Ginit 30 = .ok (.iconst (-1), 1) := by decide +kernel
theorem d_Ginit_31 : decode b_Ginit 31 = .ok (.putfield 27, 3) := by decide +kernel
theorem d_Ginit_34 : decode b_Ginit 34 = .ok (.return_, 1) := by decide +kernel
theorem d_asks_0 : decode b_asks 0 = .ok (.iload_n 1, 1) := by decide +kernel
theorem d_asks_1 : decode b_asks 1 = .ok (.aload_n 0, 1) := by decide +kernel
theorem d_asks_2 : decode b_asks 2 = .ok (.getfield 9, 3) := by decide +kernel
theorem d_asks_5 : decode b_asks 5 = .ok (.iand, 1) := by decide +kernel
theorem d_asks_6 : decode b_asks 6 = .ok (.ifCond .eq 7, 3) := by decide +kernel
theorem d_asks_9 : decode b_asks 9 = .ok (.iconst 1, 1) := by decide +kernel
theorem d_asks_10 : decode b_asks 10 = .ok (.goto 4, 3) := by decide +kernel
theorem d_asks_13 : decode b_asks 13 = .ok (.iconst 0, 1) := by decide +kernel
theorem d_asks_14 : decode b_asks 14 = .ok (.ireturn, 1) := by decide +kernel
theorem d_waitEnds_0 : decode b_waitEnds 0 = .ok (.aload_n 0, 1) := by decide +kernel
theorem d_waitEnds_1 : decode b_waitEnds 1 = .ok (.getfield 18, 3) := by decide +kernel
theorem d_waitEnds_4 : decode b_waitEnds 4 = .ok (.ifCond .ne 5, 3) := by decide +kernel
theorem d_waitEnds_7 : decode b_waitEnds 7 = .ok (.iconst 0, 1) := by decide +kernel
theorem d_waitEnds_8 : decode b_waitEnds 8 = .ok (.ireturn, 1) := by decide +kernel
theorem d_waitEnds_9 : decode b_waitEnds 9 = .ok (.aload_n 0, 1) := by decide +kernel
theorem d_waitEnds_10 : decode b_waitEnds 10 = .ok (.dup, 1) := by decide +kernel
theorem d_waitEnds_11 : decode b_waitEnds 11 = .ok (.getfield 18, 3) := by decide +kernel
theorem d_waitEnds_14 : decode b_waitEnds 14 = .ok (.iconst 1, 1) := by decide +kernel
theorem d_waitEnds_15 : decode b_waitEnds 15 = .ok (.isub, 1) := by decide +kernel
theorem d_waitEnds_16 : decode b_waitEnds 16 = .ok (.putfield 18, 3) := by decide +kernel
theorem d_waitEnds_19 : decode b_waitEnds 19 = .ok (.aload_n 0, 1) := by decide +kernel
theorem d_waitEnds_20 : decode b_waitEnds 20 = .ok (.getfield 18, 3) := by decide +kernel
theorem d_waitEnds_23 : decode b_waitEnds 23 = .ok (.ifCond .ne 7, 3) := by decide +kernel
theorem d_waitEnds_26 : decode b_waitEnds 26 = .ok (.iconst 1, 1) := by decide +kernel
theorem d_waitEnds_27 : decode b_waitEnds 27 = .ok (.goto 4, 3) := by decide +kernel
theorem d_waitEnds_30 : decode b_waitEnds 30 = .ok (.iconst 0, 1) := by decide +kernel
theorem d_waitEnds_31 : decode b_waitEnds 31 = .ok (.ireturn, 1) := by decide +kernel
theorem d_Gread_0 : decode b_Gread 0 = .ok (.iload_n 1, 1) := by decide +kernel
theorem d_Gread_1 : decode b_Gread 1 = .ok (.tableswitch 87 0 6 #[43, 57, 62, 67, 72, 77, 82], 43) := by decide +kernel
theorem d_Gread_44 : decode b_Gread 44 = .ok (.aload_n 0, 1) := by decide +kernel
theorem d_Gread_45 : decode b_Gread 45 = .ok (.iload_n 2, 1) := by decide +kernel
theorem d_Gread_46 : decode b_Gread 46 = .ok (.invokevirtual 30, 3) := by decide +kernel
theorem d_Gread_49 : decode b_Gread 49 = .ok (.ifCond .eq 7, 3) := by decide +kernel
theorem d_Gread_52 : decode b_Gread 52 = .ok (.iconst 1, 1) := by decide +kernel
theorem d_Gread_53 : decode b_Gread 53 = .ok (.goto 4, 3) := by decide +kernel
theorem d_Gread_56 : decode b_Gread 56 = .ok (.iconst 0, 1) := by decide +kernel
theorem d_Gread_57 : decode b_Gread 57 = .ok (.ireturn, 1) := by decide +kernel
theorem d_Gread_58 : decode b_Gread 58 = .ok (.aload_n 0, 1) := by decide +kernel
theorem d_Gread_59 : decode b_Gread 59 = .ok (.getfield 18, 3) := by decide +kernel
theorem d_Gread_62 : decode b_Gread 62 = .ok (.ireturn, 1) := by decide +kernel
theorem d_Gread_63 : decode b_Gread 63 = .ok (.aload_n 0, 1) := by decide +kernel
theorem d_Gread_64 : decode b_Gread 64 = .ok (.getfield 9, 3) := by decide +kernel
theorem d_Gread_67 : decode b_Gread 67 = .ok (.ireturn, 1) := by decide +kernel
theorem d_Gread_68 : decode b_Gread 68 = .ok (.aload_n 0, 1) := by decide +kernel
theorem d_Gread_69 : decode b_Gread 69 = .ok (.getfield 15, 3) := by decide +kernel
theorem d_Gread_72 : decode b_Gread 72 = .ok (.ireturn, 1) := by decide +kernel
theorem d_Gread_73 : decode b_Gread 73 = .ok (.aload_n 0, 1) := by decide +kernel
theorem d_Gread_74 : decode b_Gread 74 = .ok (.getfield 21, 3) := by decide +kernel
theorem d_Gread_77 : decode b_Gread 77 = .ok (.ireturn, 1) := by decide +kernel
theorem d_Gread_78 : decode b_Gread 78 = .ok (.aload_n 0, 1) := by decide +kernel
theorem d_Gread_79 : decode b_Gread 79 = .ok (.getfield 24, 3) := by decide +kernel
theorem d_Gread_82 : decode b_Gread 82 = .ok (.ireturn, 1) := by decide +kernel
theorem d_Gread_83 : decode b_Gread 83 = .ok (.aload_n 0, 1) := by decide +kernel
theorem d_Gread_84 : decode b_Gread 84 = .ok (.getfield 27, 3) := by decide +kernel
theorem d_Gread_87 : decode b_Gread 87 = .ok (.ireturn, 1) := by decide +kernel
theorem d_Gread_88 : decode b_Gread 88 = .ok (.iconst (-1), 1) := by decide +kernel
theorem d_Gread_89 : decode b_Gread 89 = .ok (.ireturn, 1) := by decide +kernel
theorem d_Hinit_0 : decode b_Hinit 0 = .ok (.aload_n 0, 1) := by decide +kernel
theorem d_Hinit_1 : decode b_Hinit 1 = .ok (.invokespecial 3, 3) := by decide +kernel
theorem d_Hinit_4 : decode b_Hinit 4 = .ok (.aload_n 0, 1) := by decide +kernel
theorem d_Hinit_5 : decode b_Hinit 5 = .ok (.bipush 16, 2) := by decide +kernel
theorem d_Hinit_7 : decode b_Hinit 7 = .ok (.newarray .int, 2) := by decide +kernel
theorem d_Hinit_9 : decode b_Hinit 9 = .ok (.putfield 11, 3) := by decide +kernel
theorem d_Hinit_12 : decode b_Hinit 12 = .ok (.aload_n 0, 1) := by decide +kernel
theorem d_Hinit_13 : decode b_Hinit 13 = .ok (.bipush 16, 2) := by decide +kernel
theorem d_Hinit_15 : decode b_Hinit 15 = .ok (.newarray .int, 2) := by decide +kernel
theorem d_Hinit_17 : decode b_Hinit 17 = .ok (.putfield 15, 3) := by decide +kernel
theorem d_Hinit_20 : decode b_Hinit 20 = .ok (.aload_n 0, 1) := by decide +kernel
theorem d_Hinit_21 : decode b_Hinit 21 = .ok (.bipush 16, 2) := by decide +kernel
theorem d_Hinit_23 : decode b_Hinit 23 = .ok (.newarray .int, 2) := by decide +kernel
theorem d_Hinit_25 : decode b_Hinit 25 = .ok (.putfield 18, 3) := by decide +kernel
theorem d_Hinit_28 : decode b_Hinit 28 = .ok (.aload_n 0, 1) := by decide +kernel
theorem d_Hinit_29 : decode b_Hinit 29 = .ok (.iconst 0, 1) := by decide +kernel
theorem d_Hinit_30 : decode b_Hinit 30 = .ok (.putfield 21, 3) := by decide +kernel
theorem d_Hinit_33 : decode b_Hinit 33 = .ok (.aload_n 0, 1) := by decide +kernel
theorem d_Hinit_34 : decode b_Hinit 34 = .ok (.iconst 0, 1) := by decide +kernel
theorem d_Hinit_35 : decode b_Hinit 35 = .ok (.putfield 25, 3) := by decide +kernel
theorem d_Hinit_38 : decode b_Hinit 38 = .ok (.aload_n 0, 1) := by decide +kernel
theorem d_Hinit_39 : decode b_Hinit 39 = .ok (.iconst 0, 1) := by decide +kernel
theorem d_Hinit_40 : decode b_Hinit 40 = .ok (.putfield 28, 3) := by decide +kernel
theorem d_Hinit_43 : decode b_Hinit 43 = .ok (.return_, 1) := by decide +kernel
theorem d_add_0 : decode b_add 0 = .ok (.aload_n 0, 1) := by decide +kernel
theorem d_add_1 : decode b_add 1 = .ok (.getfield 11, 3) := by decide +kernel
theorem d_add_4 : decode b_add 4 = .ok (.aload_n 0, 1) := by decide +kernel
theorem d_add_5 : decode b_add 5 = .ok (.getfield 28, 3) := by decide +kernel
theorem d_add_8 : decode b_add 8 = .ok (.iload_n 1, 1) := by decide +kernel
theorem d_add_9 : decode b_add 9 = .ok (.iastore, 1) := by decide +kernel
theorem d_add_10 : decode b_add 10 = .ok (.aload_n 0, 1) := by decide +kernel
theorem d_add_11 : decode b_add 11 = .ok (.getfield 15, 3) := by decide +kernel
theorem d_add_14 : decode b_add 14 = .ok (.aload_n 0, 1) := by decide +kernel
theorem d_add_15 : decode b_add 15 = .ok (.getfield 28, 3) := by decide +kernel
theorem d_add_18 : decode b_add 18 = .ok (.iload_n 2, 1) := by decide +kernel
theorem d_add_19 : decode b_add 19 = .ok (.iastore, 1) := by decide +kernel
theorem d_add_20 : decode b_add 20 = .ok (.aload_n 0, 1) := by decide +kernel
theorem d_add_21 : decode b_add 21 = .ok (.getfield 18, 3) := by decide +kernel
theorem d_add_24 : decode b_add 24 = .ok (.aload_n 0, 1) := by decide +kernel
theorem d_add_25 : decode b_add 25 = .ok (.getfield 28, 3) := by decide +kernel
theorem d_add_28 : decode b_add 28 = .ok (.iload_n 3, 1) := by decide +kernel
theorem d_add_29 : decode b_add 29 = .ok (.iastore, 1) := by decide +kernel
theorem d_add_30 : decode b_add 30 = .ok (.aload_n 0, 1) := by decide +kernel
theorem d_add_31 : decode b_add 31 = .ok (.aload_n 0, 1) := by decide +kernel
theorem d_add_32 : decode b_add 32 = .ok (.getfield 28, 3) := by decide +kernel
theorem d_add_35 : decode b_add 35 = .ok (.iconst 1, 1) := by decide +kernel
theorem d_add_36 : decode b_add 36 = .ok (.iadd, 1) := by decide +kernel
theorem d_add_37 : decode b_add 37 = .ok (.bipush 16, 2) := by decide +kernel
theorem d_add_39 : decode b_add 39 = .ok (.irem, 1) := by decide +kernel
theorem d_add_40 : decode b_add 40 = .ok (.putfield 28, 3) := by decide +kernel
theorem d_add_43 : decode b_add 43 = .ok (.aload_n 0, 1) := by decide +kernel
theorem d_add_44 : decode b_add 44 = .ok (.getfield 25, 3) := by decide +kernel
theorem d_add_47 : decode b_add 47 = .ok (.bipush 16, 2) := by decide +kernel
theorem d_add_49 : decode b_add 49 = .ok (.if_icmp .ge 13, 3) := by decide +kernel
theorem d_add_52 : decode b_add 52 = .ok (.aload_n 0, 1) := by decide +kernel
theorem d_add_53 : decode b_add 53 = .ok (.dup, 1) := by decide +kernel
theorem d_add_54 : decode b_add 54 = .ok (.getfield 25, 3) := by decide +kernel
theorem d_add_57 : decode b_add 57 = .ok (.iconst 1, 1) := by decide +kernel
theorem d_add_58 : decode b_add 58 = .ok (.iadd, 1) := by decide +kernel
theorem d_add_59 : decode b_add 59 = .ok (.putfield 25, 3) := by decide +kernel
theorem d_add_62 : decode b_add 62 = .ok (.aload_n 0, 1) := by decide +kernel
theorem d_add_63 : decode b_add 63 = .ok (.dup, 1) := by decide +kernel
theorem d_add_64 : decode b_add 64 = .ok (.getfield 21, 3) := by decide +kernel
theorem d_add_67 : decode b_add 67 = .ok (.iconst 1, 1) := by decide +kernel
theorem d_add_68 : decode b_add 68 = .ok (.iadd, 1) := by decide +kernel
theorem d_add_69 : decode b_add 69 = .ok (.putfield 21, 3) := by decide +kernel
theorem d_add_72 : decode b_add 72 = .ok (.return_, 1) := by decide +kernel
theorem d_Hread_0 : decode b_Hread 0 = .ok (.iload_n 1, 1) := by decide +kernel
theorem d_Hread_1 : decode b_Hread 1 = .ok (.ifCond .lt 11, 3) := by decide +kernel
theorem d_Hread_4 : decode b_Hread 4 = .ok (.iload_n 1, 1) := by decide +kernel
theorem d_Hread_5 : decode b_Hread 5 = .ok (.aload_n 0, 1) := by decide +kernel
theorem d_Hread_6 : decode b_Hread 6 = .ok (.getfield 25, 3) := by decide +kernel
theorem d_Hread_9 : decode b_Hread 9 = .ok (.if_icmp .lt 5, 3) := by decide +kernel
theorem d_Hread_12 : decode b_Hread 12 = .ok (.iconst (-1), 1) := by decide +kernel
theorem d_Hread_13 : decode b_Hread 13 = .ok (.ireturn, 1) := by decide +kernel
theorem d_Hread_14 : decode b_Hread 14 = .ok (.aload_n 0, 1) := by decide +kernel
theorem d_Hread_15 : decode b_Hread 15 = .ok (.getfield 28, 3) := by decide +kernel
theorem d_Hread_18 : decode b_Hread 18 = .ok (.bipush 16, 2) := by decide +kernel
theorem d_Hread_20 : decode b_Hread 20 = .ok (.iadd, 1) := by decide +kernel
theorem d_Hread_21 : decode b_Hread 21 = .ok (.iconst 1, 1) := by decide +kernel
theorem d_Hread_22 : decode b_Hread 22 = .ok (.isub, 1) := by decide +kernel
theorem d_Hread_23 : decode b_Hread 23 = .ok (.iload_n 1, 1) := by decide +kernel
theorem d_Hread_24 : decode b_Hread 24 = .ok (.isub, 1) := by decide +kernel
theorem d_Hread_25 : decode b_Hread 25 = .ok (.bipush 16, 2) := by decide +kernel
theorem d_Hread_27 : decode b_Hread 27 = .ok (.irem, 1) := by decide +kernel
theorem d_Hread_28 : decode b_Hread 28 = .ok (.istore_n 3, 1) := by decide +kernel
theorem d_Hread_29 : decode b_Hread 29 = .ok (.iload_n 2, 1) := by decide +kernel
theorem d_Hread_30 : decode b_Hread 30 = .ok (.tableswitch 47 0 2 #[26, 33, 40], 26) := by decide +kernel
theorem d_Hread_56 : decode b_Hread 56 = .ok (.aload_n 0, 1) := by decide +kernel
theorem d_Hread_57 : decode b_Hread 57 = .ok (.getfield 11, 3) := by decide +kernel
theorem d_Hread_60 : decode b_Hread 60 = .ok (.iload_n 3, 1) := by decide +kernel
theorem d_Hread_61 : decode b_Hread 61 = .ok (.iaload, 1) := by decide +kernel
theorem d_Hread_62 : decode b_Hread 62 = .ok (.ireturn, 1) := by decide +kernel
theorem d_Hread_63 : decode b_Hread 63 = .ok (.aload_n 0, 1) := by decide +kernel
theorem d_Hread_64 : decode b_Hread 64 = .ok (.getfield 15, 3) := by decide +kernel
theorem d_Hread_67 : decode b_Hread 67 = .ok (.iload_n 3, 1) := by decide +kernel
theorem d_Hread_68 : decode b_Hread 68 = .ok (.iaload, 1) := by decide +kernel
theorem d_Hread_69 : decode b_Hread 69 = .ok (.ireturn, 1) := by decide +kernel
theorem d_Hread_70 : decode b_Hread 70 = .ok (.aload_n 0, 1) := by decide +kernel
theorem d_Hread_71 : decode b_Hread 71 = .ok (.getfield 18, 3) := by decide +kernel
theorem d_Hread_74 : decode b_Hread 74 = .ok (.iload_n 3, 1) := by decide +kernel
theorem d_Hread_75 : decode b_Hread 75 = .ok (.iaload, 1) := by decide +kernel
theorem d_Hread_76 : decode b_Hread 76 = .ok (.ireturn, 1) := by decide +kernel
theorem d_Hread_77 : decode b_Hread 77 = .ok (.iconst (-1), 1) := by decide +kernel
theorem d_Hread_78 : decode b_Hread 78 = .ok (.ireturn, 1) := by decide +kernel
theorem d_Tinit_0 : decode b_Tinit 0 = .ok (.aload_n 0, 1) := by decide +kernel
theorem d_Tinit_1 : decode b_Tinit 1 = .ok (.invokespecial 3, 3) := by decide +kernel
theorem d_Tinit_4 : decode b_Tinit 4 = .ok (.aload_n 0, 1) := by decide +kernel
theorem d_Tinit_5 : decode b_Tinit 5 = .ok (.iconst 1, 1) := by decide +kernel
theorem d_Tinit_6 : decode b_Tinit 6 = .ok (.putfield 9, 3) := by decide +kernel
theorem d_Tinit_9 : decode b_Tinit 9 = .ok (.aload_n 0, 1) := by decide +kernel
theorem d_Tinit_10 : decode b_Tinit 10 = .ok (.iconst 1, 1) := by decide +kernel
theorem d_Tinit_11 : decode b_Tinit 11 = .ok (.putfield 15, 3) := by decide +kernel
theorem d_Tinit_14 : decode b_Tinit 14 = .ok (.aload_n 0, 1) := by decide +kernel
theorem d_Tinit_15 : decode b_Tinit 15 = .ok (.iconst 0, 1) := by decide +kernel
theorem d_Tinit_16 : decode b_Tinit 16 = .ok (.putfield 18, 3) := by decide +kernel
theorem d_Tinit_19 : decode b_Tinit 19 = .ok (.aload_n 0, 1) := by decide +kernel
theorem d_Tinit_20 : decode b_Tinit 20 = .ok (.iconst 0, 1) := by decide +kernel
theorem d_Tinit_21 : decode b_Tinit 21 = .ok (.putfield 21, 3) := by decide +kernel
theorem d_Tinit_24 : decode b_Tinit 24 = .ok (.aload_n 0, 1) := by decide +kernel
theorem d_Tinit_25 : decode b_Tinit 25 = .ok (.iconst 0, 1) := by decide +kernel
theorem d_Tinit_26 : decode b_Tinit 26 = .ok (.putfield 25, 3) := by decide +kernel
theorem d_Tinit_29 : decode b_Tinit 29 = .ok (.aload_n 0, 1) := by decide +kernel
theorem d_Tinit_30 : decode b_Tinit 30 = .ok (.iconst 0, 1) := by decide +kernel
theorem d_Tinit_31 : decode b_Tinit 31 = .ok (.putfield 28, 3) := by decide +kernel
theorem d_Tinit_34 : decode b_Tinit 34 = .ok (.aload_n 0, 1) := by decide +kernel
theorem d_Tinit_35 : decode b_Tinit 35 = .ok (.iconst 0, 1) := by decide +kernel
theorem d_Tinit_36 : decode b_Tinit 36 = .ok (.putfield 31, 3) := by decide +kernel
theorem d_Tinit_39 : decode b_Tinit 39 = .ok (.aload_n 0, 1) := by decide +kernel
theorem d_Tinit_40 : decode b_Tinit 40 = .ok (.iconst 0, 1) := by decide +kernel
theorem d_Tinit_41 : decode b_Tinit 41 = .ok (.putfield 34, 3) := by decide +kernel
theorem d_Tinit_44 : decode b_Tinit 44 = .ok (.aload_n 0, 1) := by decide +kernel
theorem d_Tinit_45 : decode b_Tinit 45 = .ok (.iconst 0, 1) := by decide +kernel
theorem d_Tinit_46 : decode b_Tinit 46 = .ok (.putfield 37, 3) := by decide +kernel
theorem d_Tinit_49 : decode b_Tinit 49 = .ok (.return_, 1) := by decide +kernel
theorem d_countDown_0 : decode b_countDown 0 = .ok (.aload_n 0, 1) := by decide +kernel
theorem d_countDown_1 : decode b_countDown 1 = .ok (.getfield 25, 3) := by decide +kernel
theorem d_countDown_4 : decode b_countDown 4 = .ok (.ifCond .ne 5, 3) := by decide +kernel
theorem d_countDown_7 : decode b_countDown 7 = .ok (.iconst 0, 1) := by decide +kernel
theorem d_countDown_8 : decode b_countDown 8 = .ok (.ireturn, 1) := by decide +kernel
theorem d_countDown_9 : decode b_countDown 9 = .ok (.aload_n 0, 1) := by decide +kernel
theorem d_countDown_10 : decode b_countDown 10 = .ok (.getfield 15, 3) := by decide +kernel
theorem d_countDown_13 : decode b_countDown 13 = .ok (.iconst 1, 1) := by decide +kernel
theorem d_countDown_14 : decode b_countDown 14 = .ok (.if_icmp .le 15, 3) := by decide +kernel
theorem d_countDown_17 : decode b_countDown 17 = .ok (.aload_n 0, 1) := by decide +kernel
theorem d_countDown_18 : decode b_countDown 18 = .ok (.dup, 1) := by decide +kernel
theorem d_countDown_19 : decode b_countDown 19 = .ok (.getfield 15, 3) := by decide +kernel
theorem d_countDown_22 : decode b_countDown 22 = .ok (.iconst 1, 1) := by decide +kernel
theorem d_countDown_23 : decode b_countDown 23 = .ok (.isub, 1) := by decide +kernel
theorem d_countDown_24 : decode b_countDown 24 = .ok (.putfield 15, 3) := by decide +kernel
theorem d_countDown_27 : decode b_countDown 27 = .ok (.iconst 0, 1) := by decide +kernel
theorem d_countDown_28 : decode b_countDown 28 = .ok (.ireturn, 1) := by decide +kernel
theorem d_countDown_29 : decode b_countDown 29 = .ok (.aload_n 0, 1) := by decide +kernel
theorem d_countDown_30 : decode b_countDown 30 = .ok (.aload_n 0, 1) := by decide +kernel
theorem d_countDown_31 : decode b_countDown 31 = .ok (.getfield 9, 3) := by decide +kernel
theorem d_countDown_34 : decode b_countDown 34 = .ok (.putfield 15, 3) := by decide +kernel
theorem d_countDown_37 : decode b_countDown 37 = .ok (.aload_n 0, 1) := by decide +kernel
theorem d_countDown_38 : decode b_countDown 38 = .ok (.dup, 1) := by decide +kernel
theorem d_countDown_39 : decode b_countDown 39 = .ok (.getfield 28, 3) := by decide +kernel
theorem d_countDown_42 : decode b_countDown 42 = .ok (.iconst 1, 1) := by decide +kernel
theorem d_countDown_43 : decode b_countDown 43 = .ok (.iadd, 1) := by decide +kernel
theorem d_countDown_44 : decode b_countDown 44 = .ok (.putfield 28, 3) := by decide +kernel
theorem d_countDown_47 : decode b_countDown 47 = .ok (.aload_n 0, 1) := by decide +kernel
theorem d_countDown_48 : decode b_countDown 48 = .ok (.getfield 21, 3) := by decide +kernel
theorem d_countDown_51 : decode b_countDown 51 = .ok (.ifCond .eq 8, 3) := by decide +kernel
theorem d_countDown_54 : decode b_countDown 54 = .ok (.aload_n 0, 1) := by decide +kernel
theorem d_countDown_55 : decode b_countDown 55 = .ok (.iconst 0, 1) := by decide +kernel
theorem d_countDown_56 : decode b_countDown 56 = .ok (.putfield 25, 3) := by decide +kernel
theorem d_countDown_59 : decode b_countDown 59 = .ok (.iconst 1, 1) := by decide +kernel
theorem d_countDown_60 : decode b_countDown 60 = .ok (.ireturn, 1) := by decide +kernel
theorem d_Tread_0 : decode b_Tread 0 = .ok (.iload_n 1, 1) := by decide +kernel
theorem d_Tread_1 : decode b_Tread 1 = .ok (.tableswitch 112 0 8 #[51, 56, 61, 66, 79, 92, 97, 102, 107], 51) := by decide +kernel
theorem d_Tread_52 : decode b_Tread 52 = .ok (.aload_n 0, 1) := by decide +kernel
theorem d_Tread_53 : decode b_Tread 53 = .ok (.getfield 15, 3) := by decide +kernel
theorem d_Tread_56 : decode b_Tread 56 = .ok (.ireturn, 1) := by decide +kernel
theorem d_Tread_57 : decode b_Tread 57 = .ok (.aload_n 0, 1) := by decide +kernel
theorem d_Tread_58 : decode b_Tread 58 = .ok (.getfield 9, 3) := by decide +kernel
theorem d_Tread_61 : decode b_Tread 61 = .ok (.ireturn, 1) := by decide +kernel
theorem d_Tread_62 : decode b_Tread 62 = .ok (.aload_n 0, 1) := by decide +kernel
theorem d_Tread_63 : decode b_Tread 63 = .ok (.getfield 18, 3) := by decide +kernel
theorem d_Tread_66 : decode b_Tread 66 = .ok (.ireturn, 1) := by decide +kernel
theorem d_Tread_67 : decode b_Tread 67 = .ok (.aload_n 0, 1) := by decide +kernel
theorem d_Tread_68 : decode b_Tread 68 = .ok (.getfield 25, 3) := by decide +kernel
theorem d_Tread_71 : decode b_Tread 71 = .ok (.ifCond .eq 7, 3) := by decide +kernel
theorem d_Tread_74 : decode b_Tread 74 = .ok (.iconst 1, 1) := by decide +kernel
theorem d_Tread_75 : decode b_Tread 75 = .ok (.goto 4, 3) := by decide +kernel
theorem d_Tread_78 : decode b_Tread 78 = .ok (.iconst 0, 1) := by decide +kernel
theorem d_Tread_79 : decode b_Tread 79 = .ok (.ireturn, 1) := by decide +kernel
theorem d_Tread_80 : decode b_Tread 80 = .ok (.aload_n 0, 1) := by decide +kernel
theorem d_Tread_81 : decode b_Tread 81 = .ok (.getfield 21, 3) := by decide +kernel
theorem d_Tread_84 : decode b_Tread 84 = .ok (.ifCond .eq 7, 3) := by decide +kernel
theorem d_Tread_87 : decode b_Tread 87 = .ok (.iconst 1, 1) := by decide +kernel
theorem d_Tread_88 : decode b_Tread 88 = .ok (.goto 4, 3) := by decide +kernel
theorem d_Tread_91 : decode b_Tread 91 = .ok (.iconst 0, 1) := by decide +kernel
theorem d_Tread_92 : decode b_Tread 92 = .ok (.ireturn, 1) := by decide +kernel
theorem d_Tread_93 : decode b_Tread 93 = .ok (.aload_n 0, 1) := by decide +kernel
theorem d_Tread_94 : decode b_Tread 94 = .ok (.getfield 28, 3) := by decide +kernel
theorem d_Tread_97 : decode b_Tread 97 = .ok (.ireturn, 1) := by decide +kernel
theorem d_Tread_98 : decode b_Tread 98 = .ok (.aload_n 0, 1) := by decide +kernel
theorem d_Tread_99 : decode b_Tread 99 = .ok (.getfield 31, 3) := by decide +kernel
theorem d_Tread_102 : decode b_Tread 102 = .ok (.ireturn, 1) := by decide +kernel
theorem d_Tread_103 : decode b_Tread 103 = .ok (.aload_n 0, 1) := by decide +kernel
theorem d_Tread_104 : decode b_Tread 104 = .ok (.getfield 34, 3) := by decide +kernel
theorem d_Tread_107 : decode b_Tread 107 = .ok (.ireturn, 1) := by decide +kernel
theorem d_Tread_108 : decode b_Tread 108 = .ok (.aload_n 0, 1) := by decide +kernel
theorem d_Tread_109 : decode b_Tread 109 = .ok (.getfield 37, 3) := by decide +kernel
theorem d_Tread_112 : decode b_Tread 112 = .ok (.ireturn, 1) := by decide +kernel
theorem d_Tread_113 : decode b_Tread 113 = .ok (.iconst (-1), 1) := by decide +kernel
theorem d_Tread_114 : decode b_Tread 114 = .ok (.ireturn, 1) := by decide +kernel
