theorem dX12_putToday_12 : decode cX12_putToday 12 = .ok (.if_icmp .ge 32, 3) := by decide +kernel
theorem dX12_putToday_15 : decode cX12_putToday 15 = .ok (.iload_n 1, 1) := by decide +kernel
theorem dX12_putToday_16 : decode cX12_putToday 16 = .ok (.aload_n 0, 1) := by decide +kernel
theorem dX12_putToday_17 : decode cX12_putToday 17 = .ok (.iload_n 2, 1) := by decide +kernel
theorem dX12_putToday_18 : decode cX12_putToday 18 = .ok (.iconst 3, 1) := by decide +kernel
theorem dX12_putToday_19 : decode cX12_putToday 19 = .ok (.invokevirtual 322, 3) := by decide +kernel
theorem dX12_putToday_22 : decode cX12_putToday 22 = .ok (.aload_n 0, 1) := by decide +kernel
theorem dX12_putToday_23 : decode cX12_putToday 23 = .ok (.getfield 7, 3) := by decide +kernel
theorem dX12_putToday_26 : decode cX12_putToday 26 = .ok (.iconst 5, 1) := by decide +kernel
theorem dX12_putToday_27 : decode cX12_putToday 27 = .ok (.iaload, 1) := by decide +kernel
theorem dX12_putToday_28 : decode cX12_putToday 28 = .ok (.if_icmp .ne 7, 3) := by decide +kernel
theorem dX12_putToday_31 : decode cX12_putToday 31 = .ok (.iconst 1, 1) := by decide +kernel
theorem dX12_putToday_32 : decode cX12_putToday 32 = .ok (.goto 4, 3) := by decide +kernel
theorem dX12_putToday_35 : decode cX12_putToday 35 = .ok (.iconst 0, 1) := by decide +kernel
theorem dX12_putToday_36 : decode cX12_putToday 36 = .ok (.iadd, 1) := by decide +kernel
theorem dX12_putToday_37 : decode cX12_putToday 37 = .ok (.istore_n 1, 1) := by decide +kernel
theorem dX12_putToday_38 : decode cX12_putToday 38 = .ok (.iinc 2 1, 3) := by decide +kernel
theorem dX12_putToday_41 : decode cX12_putToday 41 = .ok (.goto (-37), 3) := by decide +kernel
theorem dX12_putToday_44 : decode cX12_putToday 44 = .ok (.iload_n 1, 1) := by decide +kernel
theorem dX12_putToday_45 : decode cX12_putToday 45 = .ok (.ireturn, 1) := by decide +kernel
theorem dX12_told_0 : decode cX12_told 0 = .ok (.iload_n 1, 1) := by decide +kernel
theorem dX12_told_1 : decode cX12_told 1 = .ok (.ifCond .lt 9, 3) := by decide +kernel
theorem dX12_told_4 : decode cX12_told 4 = .ok (.iload_n 1, 1) := by decide +kernel
theorem dX12_told_5 : decode cX12_told 5 = .ok (.bipush 7, 2) := by decide +kernel
theorem dX12_told_7 : decode cX12_told 7 = .ok (.if_icmp .le 11, 3) := by decide +kernel
theorem dX12_told_10 : decode cX12_told 10 = .ok (.aload_n 0, 1) := by decide +kernel
theorem dX12_told_11 : decode cX12_told 11 = .ok (.iconst 1, 1) := by decide +kernel
theorem dX12_told_12 : decode cX12_told 12 = .ok (.invokevirtual 197, 3) := by decide +kernel
theorem dX12_told_15 : decode cX12_told 15 = .ok (.goto 26, 3) := by decide +kernel
theorem dX12_told_18 : decode cX12_told 18 = .ok (.aload_n 0, 1) := by decide +kernel
theorem dX12_told_19 : decode cX12_told 19 = .ok (.iload_n 1, 1) := by decide +kernel
theorem dX12_told_20 : decode cX12_told 20 = .ok (.bipush 7, 2) := by decide +kernel
theorem dX12_told_22 : decode cX12_told 22 = .ok (.if_icmp .ne 10, 3) := by decide +kernel
theorem dX12_told_25 : decode cX12_told 25 = .ok (.aload_n 0, 1) := by decide +kernel
theorem dX12_told_26 : decode cX12_told 26 = .ok (.invokevirtual 325, 3) := by decide +kernel
theorem dX12_told_29 : decode cX12_told 29 = .ok (.goto 9, 3) := by decide +kernel
theorem dX12_told_32 : decode cX12_told 32 = .ok (.aload_n 0, 1) := by decide +kernel
theorem dX12_told_33 : decode cX12_told 33 = .ok (.getfield 7, 3) := by decide +kernel
theorem dX12_told_36 : decode cX12_told 36 = .ok (.iload_n 1, 1) := by decide +kernel
theorem dX12_told_37 : decode cX12_told 37 = .ok (.iaload, 1) := by decide +kernel
theorem dX12_told_38 : decode cX12_told 38 = .ok (.invokevirtual 200, 3) := by decide +kernel
theorem dX12_told_41 : decode cX12_told 41 = .ok (.ireturn, 1) := by decide +kernel
theorem dX12_value_0 : decode cX12_value 0 = .ok (.iload_n 1, 1) := by decide +kernel
theorem dX12_value_1 : decode cX12_value 1 = .ok (.ifCond .lt 22, 3) := by decide +kernel
theorem dX12_value_4 : decode cX12_value 4 = .ok (.iload_n 1, 1) := by decide +kernel
theorem dX12_value_5 : decode cX12_value 5 = .ok (.aload_n 0, 1) := by decide +kernel
theorem dX12_value_6 : decode cX12_value 6 = .ok (.getfield 7, 3) := by decide +kernel
theorem dX12_value_9 : decode cX12_value 9 = .ok (.iconst 1, 1) := by decide +kernel
theorem dX12_value_10 : decode cX12_value 10 = .ok (.iaload, 1) := by decide +kernel
theorem dX12_value_11 : decode cX12_value 11 = .ok (.if_icmp .ge 12, 3) := by decide +kernel
theorem dX12_value_14 : decode cX12_value 14 = .ok (.iload_n 2, 1) := by decide +kernel
theorem dX12_value_15 : decode cX12_value 15 = .ok (.ifCond .lt 8, 3) := by decide +kernel
theorem dX12_value_18 : decode cX12_value 18 = .ok (.iload_n 2, 1) := by decide +kernel
theorem dX12_value_19 : decode cX12_value 19 = .ok (.iconst 1, 1) := by decide +kernel
theorem dX12_value_20 : decode cX12_value 20 = .ok (.if_icmp .le 9, 3) := by decide +kernel
theorem dX12_value_23 : decode cX12_value 23 = .ok (.aload_n 0, 1) := by decide +kernel
theorem dX12_value_24 : decode cX12_value 24 = .ok (.iconst 1, 1) := by decide +kernel
theorem dX12_value_25 : decode cX12_value 25 = .ok (.invokevirtual 197, 3) := by decide +kernel
theorem dX12_value_28 : decode cX12_value 28 = .ok (.ireturn, 1) := by decide +kernel
theorem dX12_value_29 : decode cX12_value 29 = .ok (.aload_n 0, 1) := by decide +kernel
theorem dX12_value_30 : decode cX12_value 30 = .ok (.aload_n 0, 1) := by decide +kernel
theorem dX12_value_31 : decode cX12_value 31 = .ok (.getfield 7, 3) := by decide +kernel
theorem dX12_value_34 : decode cX12_value 34 = .ok (.iload_n 2, 1) := by decide +kernel
theorem dX12_value_35 : decode cX12_value 35 = .ok (.ifCond .ne 8, 3) := by decide +kernel
theorem dX12_value_38 : decode cX12_value 38 = .ok (.bipush 8, 2) := by decide +kernel
theorem dX12_value_40 : decode cX12_value 40 = .ok (.goto 5, 3) := by decide +kernel
theorem dX12_value_43 : decode cX12_value 43 = .ok (.bipush 32, 2) := by decide +kernel
theorem dX12_value_45 : decode cX12_value 45 = .ok (.iload_n 1, 1) := by decide +kernel
theorem dX12_value_46 : decode cX12_value 46 = .ok (.iadd, 1) := by decide +kernel
theorem dX12_value_47 : decode cX12_value 47 = .ok (.iaload, 1) := by decide +kernel
theorem dX12_value_48 : decode cX12_value 48 = .ok (.invokevirtual 200, 3) := by decide +kernel
theorem dX12_value_51 : decode cX12_value 51 = .ok (.ireturn, 1) := by decide +kernel
theorem dX12_world_0 : decode cX12_world 0 = .ok (.aload_n 0, 1) := by decide +kernel
theorem dX12_world_1 : decode cX12_world 1 = .ok (.iload_n 1, 1) := by decide +kernel
theorem dX12_world_2 : decode cX12_world 2 = .ok (.invokevirtual 328, 3) := by decide +kernel
theorem dX12_world_5 : decode cX12_world 5 = .ok (.ifCond .eq 31, 3) := by decide +kernel
theorem dX12_world_8 : decode cX12_world 8 = .ok (.iload_n 2, 1) := by decide +kernel
theorem dX12_world_9 : decode cX12_world 9 = .ok (.ifCond .lt 27, 3) := by decide +kernel
theorem dX12_world_12 : decode cX12_world 12 = .ok (.iload_n 2, 1) := by decide +kernel
theorem dX12_world_13 : decode cX12_world 13 = .ok (.aload_n 0, 1) := by decide +kernel
theorem dX12_world_14 : decode cX12_world 14 = .ok (.getfield 7, 3) := by decide +kernel
theorem dX12_world_17 : decode cX12_world 17 = .ok (.iconst 0, 1) := by decide +kernel
theorem dX12_world_18 : decode cX12_world 18 = .ok (.iaload, 1) := by decide +kernel
theorem dX12_world_19 : decode cX12_world 19 = .ok (.if_icmp .ge 17, 3) := by decide +kernel
theorem dX12_world_22 : decode cX12_world 22 = .ok (.aload_n 0, 1) := by decide +kernel
theorem dX12_world_23 : decode cX12_world 23 = .ok (.aload_n 0, 1) := by decide +kernel
theorem dX12_world_24 : decode cX12_world 24 = .ok (.iconst 0, 1) := by decide +kernel
theorem dX12_world_25 : decode cX12_world 25 = .ok (.iload_n 1, 1) := by decide +kernel
theorem dX12_world_26 : decode cX12_world 26 = .ok (.iload_n 2, 1) := by decide +kernel
theorem dX12_world_27 : decode cX12_world 27 = .ok (.invokevirtual 234, 3) := by decide +kernel
theorem dX12_world_30 : decode cX12_world 30 = .ok (.invokevirtual 200, 3) := by decide +kernel
theorem dX12_world_33 : decode cX12_world 33 = .ok (.goto 8, 3) := by decide +kernel
theorem dX12_world_36 : decode cX12_world 36 = .ok (.aload_n 0, 1) := by decide +kernel
theorem dX12_world_37 : decode cX12_world 37 = .ok (.iconst 1, 1) := by decide +kernel
theorem dX12_world_38 : decode cX12_world 38 = .ok (.invokevirtual 197, 3) := by decide +kernel
theorem dX12_world_41 : decode cX12_world 41 = .ok (.ireturn, 1) := by decide +kernel
theorem dX12_possible_0 : decode cX12_possible 0 = .ok (.aload_n 0, 1) := by decide +kernel
theorem dX12_possible_1 : decode cX12_possible 1 = .ok (.iload_n 1, 1) := by decide +kernel
theorem dX12_possible_2 : decode cX12_possible 2 = .ok (.invokevirtual 328, 3) := by decide +kernel
theorem dX12_possible_5 : decode cX12_possible 5 = .ok (.ifCond .eq 23, 3) := by decide +kernel
theorem dX12_possible_8 : decode cX12_possible 8 = .ok (.aload_n 0, 1) := by decide +kernel
theorem dX12_possible_9 : decode cX12_possible 9 = .ok (.aload_n 0, 1) := by decide +kernel
theorem dX12_possible_10 : decode cX12_possible 10 = .ok (.iload_n 1, 1) := by decide +kernel
theorem dX12_possible_11 : decode cX12_possible 11 = .ok (.invokevirtual 331, 3) := by decide +kernel
theorem dX12_possible_14 : decode cX12_possible 14 = .ok (.ifCond .eq 7, 3) := by decide +kernel
theorem dX12_possible_17 : decode cX12_possible 17 = .ok (.iconst 1, 1) := by decide +kernel
theorem dX12_possible_18 : decode cX12_possible 18 = .ok (.goto 4, 3) := by decide +kernel
theorem dX12_possible_21 : decode cX12_possible 21 = .ok (.iconst 0, 1) := by decide +kernel
theorem dX12_possible_22 : decode cX12_possible 22 = .ok (.invokevirtual 200, 3) := by decide +kernel
theorem dX12_possible_25 : decode cX12_possible 25 = .ok (.goto 8, 3) := by decide +kernel
theorem dX12_possible_28 : decode cX12_possible 28 = .ok (.aload_n 0, 1) := by decide +kernel
theorem dX12_possible_29 : decode cX12_possible 29 = .ok (.iconst 1, 1) := by decide +kernel
theorem dX12_possible_30 : decode cX12_possible 30 = .ok (.invokevirtual 197, 3) := by decide +kernel
theorem dX12_possible_33 : decode cX12_possible 33 = .ok (.ireturn, 1) := by decide +kernel
theorem dX12_holds_0 : decode cX12_holds 0 = .ok (.aload_n 0, 1) := by decide +kernel
theorem dX12_holds_1 : decode cX12_holds 1 = .ok (.iload_n 1, 1) := by decide +kernel
theorem dX12_holds_2 : decode cX12_holds 2 = .ok (.invokevirtual 334, 3) := by decide +kernel
theorem dX12_holds_5 : decode cX12_holds 5 = .ok (.ifCond .eq 32, 3) := by decide +kernel
theorem dX12_holds_8 : decode cX12_holds 8 = .ok (.aload_n 0, 1) := by decide +kernel
theorem dX12_holds_9 : decode cX12_holds 9 = .ok (.iload_n 2, 1) := by decide +kernel
theorem dX12_holds_10 : decode cX12_holds 10 = .ok (.invokevirtual 328, 3) := by decide +kernel
theorem dX12_holds_13 : decode cX12_holds 13 = .ok (.ifCond .eq 24, 3) := by decide +kernel
theorem dX12_holds_16 : decode cX12_holds 16 = .ok (.aload_n 0, 1) := by decide +kernel
theorem dX12_holds_17 : decode cX12_holds 17 = .ok (.aload_n 0, 1) := by decide +kernel
theorem dX12_holds_18 : decode cX12_holds 18 = .ok (.iload_n 1, 1) := by decide +kernel
theorem dX12_holds_19 : decode cX12_holds 19 = .ok (.iload_n 2, 1) := by decide +kernel
theorem dX12_holds_20 : decode cX12_holds 20 = .ok (.invokevirtual 337, 3) := by decide +kernel
theorem dX12_holds_23 : decode cX12_holds 23 = .ok (.ifCond .eq 7, 3) := by decide +kernel
theorem dX12_holds_26 : decode cX12_holds 26 = .ok (.iconst 1, 1) := by decide +kernel
theorem dX12_holds_27 : decode cX12_holds 27 = .ok (.goto 4, 3) := by decide +kernel
theorem dX12_holds_30 : decode cX12_holds 30 = .ok (.iconst 0, 1) := by decide +kernel
theorem dX12_holds_31 : decode cX12_holds 31 = .ok (.invokevirtual 200, 3) := by decide +kernel
theorem dX12_holds_34 : decode cX12_holds 34 = .ok (.goto 8, 3) := by decide +kernel
theorem dX12_holds_37 : decode cX12_holds 37 = .ok (.aload_n 0, 1) := by decide +kernel
theorem dX12_holds_38 : decode cX12_holds 38 = .ok (.iconst 1, 1) := by decide +kernel
theorem dX12_holds_39 : decode cX12_holds 39 = .ok (.invokevirtual 197, 3) := by decide +kernel
theorem dX12_holds_42 : decode cX12_holds 42 = .ok (.ireturn, 1) := by decide +kernel
theorem dX12_fee_0 : decode cX12_fee 0 = .ok (.aload_n 0, 1) := by decide +kernel
theorem dX12_fee_1 : decode cX12_fee 1 = .ok (.iload_n 1, 1) := by decide +kernel
theorem dX12_fee_2 : decode cX12_fee 2 = .ok (.invokevirtual 334, 3) := by decide +kernel
theorem dX12_fee_5 : decode cX12_fee 5 = .ok (.ifCond .eq 19, 3) := by decide +kernel
theorem dX12_fee_8 : decode cX12_fee 8 = .ok (.aload_n 0, 1) := by decide +kernel
theorem dX12_fee_9 : decode cX12_fee 9 = .ok (.aload_n 0, 1) := by decide +kernel
theorem dX12_fee_10 : decode cX12_fee 10 = .ok (.getfield 7, 3) := by decide +kernel
theorem dX12_fee_13 : decode cX12_fee 13 = .ok (.bipush 64, 2) := by decide +kernel
theorem dX12_fee_15 : decode cX12_fee 15 = .ok (.iload_n 1, 1) := by decide +kernel
theorem dX12_fee_16 : decode cX12_fee 16 = .ok (.iadd, 1) := by decide +kernel
theorem dX12_fee_17 : decode cX12_fee 17 = .ok (.iaload, 1) := by decide +kernel
theorem dX12_fee_18 : decode cX12_fee 18 = .ok (.invokevirtual 200, 3) := by decide +kernel
theorem dX12_fee_21 : decode cX12_fee 21 = .ok (.goto 8, 3) := by decide +kernel
theorem dX12_fee_24 : decode cX12_fee 24 = .ok (.aload_n 0, 1) := by decide +kernel
theorem dX12_fee_25 : decode cX12_fee 25 = .ok (.iconst 1, 1) := by decide +kernel
theorem dX12_fee_26 : decode cX12_fee 26 = .ok (.invokevirtual 197, 3) := by decide +kernel
theorem dX12_fee_29 : decode cX12_fee 29 = .ok (.ireturn, 1) := by decide +kernel
theorem dX12_witness_0 : decode cX12_witness 0 = .ok (.aload_n 0, 1) := by decide +kernel
theorem dX12_witness_1 : decode cX12_witness 1 = .ok (.iload_n 1, 1) := by decide +kernel
theorem dX12_witness_2 : decode cX12_witness 2 = .ok (.invokevirtual 340, 3) := by decide +kernel
theorem dX12_witness_5 : decode cX12_witness 5 = .ok (.ifCond .eq 25, 3) := by decide +kernel
theorem dX12_witness_8 : decode cX12_witness 8 = .ok (.iload_n 2, 1) := by decide +kernel
theorem dX12_witness_9 : decode cX12_witness 9 = .ok (.ifCond .lt 21, 3) := by decide +kernel
theorem dX12_witness_12 : decode cX12_witness 12 = .ok (.iload_n 2, 1) := by decide +kernel
theorem dX12_witness_13 : decode cX12_witness 13 = .ok (.iconst 5, 1) := by decide +kernel
theorem dX12_witness_14 : decode cX12_witness 14 = .ok (.if_icmp .gt 16, 3) := by decide +kernel
theorem dX12_witness_17 : decode cX12_witness 17 = .ok (.aload_n 0, 1) := by decide +kernel
theorem dX12_witness_18 : decode cX12_witness 18 = .ok (.aload_n 0, 1) := by decide +kernel
theorem dX12_witness_19 : decode cX12_witness 19 = .ok (.iload_n 1, 1) := by decide +kernel
theorem dX12_witness_20 : decode cX12_witness 20 = .ok (.iload_n 2, 1) := by decide +kernel
theorem dX12_witness_21 : decode cX12_witness 21 = .ok (.invokevirtual 343, 3) := by decide +kernel
theorem dX12_witness_24 : decode cX12_witness 24 = .ok (.invokevirtual 200, 3) := by decide +kernel
theorem dX12_witness_27 : decode cX12_witness 27 = .ok (.goto 8, 3) := by decide +kernel
theorem dX12_witness_30 : decode cX12_witness 30 = .ok (.aload_n 0, 1) := by decide +kernel
theorem dX12_witness_31 : decode cX12_witness 31 = .ok (.iconst 1, 1) := by decide +kernel
theorem dX12_witness_32 : decode cX12_witness 32 = .ok (.invokevirtual 197, 3) := by decide +kernel
theorem dX12_witness_35 : decode cX12_witness 35 = .ok (.ireturn, 1) := by decide +kernel
theorem dX12_saysAs_0 : decode cX12_saysAs 0 = .ok (.aload_n 0, 1) := by decide +kernel
theorem dX12_saysAs_1 : decode cX12_saysAs 1 = .ok (.getfield 60, 3) := by decide +kernel
theorem dX12_saysAs_4 : decode cX12_saysAs 4 = .ok (.iconst 4, 1) := by decide +kernel
theorem dX12_saysAs_5 : decode cX12_saysAs 5 = .ok (.sipush 256, 3) := by decide +kernel
theorem dX12_saysAs_8 : decode cX12_saysAs 8 = .ok (.bipush 12, 2) := by decide +kernel
theorem dX12_saysAs_10 : decode cX12_saysAs 10 = .ok (.iload_n 1, 1) := by decide +kernel
theorem dX12_saysAs_11 : decode cX12_saysAs 11 = .ok (.imul, 1) := by decide +kernel
theorem dX12_saysAs_12 : decode cX12_saysAs 12 = .ok (.iload_n 2, 1) := by decide +kernel
theorem dX12_saysAs_13 : decode cX12_saysAs 13 = .ok (.iadd, 1) := by decide +kernel
theorem dX12_saysAs_14 : decode cX12_saysAs 14 = .ok (.imul, 1) := by decide +kernel
theorem dX12_saysAs_15 : decode cX12_saysAs 15 = .ok (.iload_n 3, 1) := by decide +kernel
theorem dX12_saysAs_16 : decode cX12_saysAs 16 = .ok (.iadd, 1) := by decide +kernel
theorem dX12_saysAs_17 : decode cX12_saysAs 17 = .ok (.imul, 1) := by decide +kernel
theorem dX12_saysAs_18 : decode cX12_saysAs 18 = .ok (.iload 4, 2) := by decide +kernel
theorem dX12_saysAs_20 : decode cX12_saysAs 20 = .ok (.iadd, 1) := by decide +kernel
theorem dX12_saysAs_21 : decode cX12_saysAs 21 = .ok (.iaload, 1) := by decide +kernel
theorem dX12_saysAs_22 : decode cX12_saysAs 22 = .ok (.ireturn, 1) := by decide +kernel
theorem dX12_knowsIn_0 : decode cX12_knowsIn 0 = .ok (.iconst 0, 1) := by decide +kernel
theorem dX12_knowsIn_1 : decode cX12_knowsIn 1 = .ok (.istore_n 3, 1) := by decide +kernel
theorem dX12_knowsIn_2 : decode cX12_knowsIn 2 = .ok (.iload_n 3, 1) := by decide +kernel
theorem dX12_knowsIn_3 : decode cX12_knowsIn 3 = .ok (.iconst 4, 1) := by decide +kernel
theorem dX12_knowsIn_4 : decode cX12_knowsIn 4 = .ok (.if_icmp .ge 16, 3) := by decide +kernel
theorem dX12_knowsIn_7 : decode cX12_knowsIn 7 = .ok (.aload_n 0, 1) := by decide +kernel
theorem dX12_knowsIn_8 : decode cX12_knowsIn 8 = .ok (.getfield 63, 3) := by decide +kernel
theorem dX12_knowsIn_11 : decode cX12_knowsIn 11 = .ok (.iload_n 3, 1) := by decide +kernel
theorem dX12_knowsIn_12 : decode cX12_knowsIn 12 = .ok (.lconst 0, 1) := by decide +kernel
theorem dX12_knowsIn_13 : decode cX12_knowsIn 13 = .ok (.lastore, 1) := by decide +kernel
theorem dX12_knowsIn_14 : decode cX12_knowsIn 14 = .ok (.iinc 3 1, 3) := by decide +kernel
theorem dX12_knowsIn_17 : decode cX12_knowsIn 17 = .ok (.goto (-15), 3) := by decide +kernel
theorem dX12_knowsIn_20 : decode cX12_knowsIn 20 = .ok (.iconst 0, 1) := by decide +kernel
theorem dX12_knowsIn_21 : decode cX12_knowsIn 21 = .ok (.istore_n 3, 1) := by decide +kernel
theorem dX12_knowsIn_22 : decode cX12_knowsIn 22 = .ok (.iload_n 3, 1) := by decide +kernel
theorem dX12_knowsIn_23 : decode cX12_knowsIn 23 = .ok (.aload_n 0, 1) := by decide +kernel
theorem dX12_knowsIn_24 : decode cX12_knowsIn 24 = .ok (.getfield 7, 3) := by decide +kernel
theorem dX12_knowsIn_27 : decode cX12_knowsIn 27 = .ok (.iconst 2, 1) := by decide +kernel
theorem dX12_knowsIn_28 : decode cX12_knowsIn 28 = .ok (.iaload, 1) := by decide +kernel
theorem dX12_knowsIn_29 : decode cX12_knowsIn 29 = .ok (.if_icmp .ge 104, 3) := by decide +kernel
theorem dX12_knowsIn_32 : decode cX12_knowsIn 32 = .ok (.aload_n 0, 1) := by decide +kernel
theorem dX12_knowsIn_33 : decode cX12_knowsIn 33 = .ok (.iload_n 3, 1) := by decide +kernel
theorem dX12_knowsIn_34 : decode cX12_knowsIn 34 = .ok (.invokevirtual 331, 3) := by decide +kernel
theorem dX12_knowsIn_37 : decode cX12_knowsIn 37 = .ok (.istore 4, 2) := by decide +kernel
theorem dX12_knowsIn_39 : decode cX12_knowsIn 39 = .ok (.iconst 0, 1) := by decide +kernel
theorem dX12_knowsIn_40 : decode cX12_knowsIn 40 = .ok (.istore 5, 2) := by decide +kernel
theorem dX12_knowsIn_42 : decode cX12_knowsIn 42 = .ok (.iload 5, 2) := by decide +kernel
theorem dX12_knowsIn_44 : decode cX12_knowsIn 44 = .ok (.aload_n 0, 1) := by decide +kernel
theorem dX12_knowsIn_45 : decode cX12_knowsIn 45 = .ok (.getfield 7, 3) := by decide +kernel
theorem dX12_knowsIn_48 : decode cX12_knowsIn 48 = .ok (.iconst 0, 1) := by decide +kernel
theorem dX12_knowsIn_49 : decode cX12_knowsIn 49 = .ok (.iaload, 1) := by decide +kernel
theorem dX12_knowsIn_50 : decode cX12_knowsIn 50 = .ok (.if_icmp .ge 54, 3) := by decide +kernel
theorem dX12_knowsIn_53 : decode cX12_knowsIn 53 = .ok (.iload 4, 2) := by decide +kernel
theorem dX12_knowsIn_55 : decode cX12_knowsIn 55 = .ok (.ifCond .eq 40, 3) := by decide +kernel
theorem dX12_knowsIn_58 : decode cX12_knowsIn 58 = .ok (.aload_n 0, 1) := by decide +kernel
theorem dX12_knowsIn_59 : decode cX12_knowsIn 59 = .ok (.iload_n 1, 1) := by decide +kernel
theorem dX12_knowsIn_60 : decode cX12_knowsIn 60 = .ok (.iconst 4, 1) := by decide +kernel
theorem dX12_knowsIn_61 : decode cX12_knowsIn 61 = .ok (.invokevirtual 343, 3) := by decide +kernel
theorem dX12_knowsIn_64 : decode cX12_knowsIn 64 = .ok (.iload 5, 2) := by decide +kernel
theorem dX12_knowsIn_66 : decode cX12_knowsIn 66 = .ok (.ishr, 1) := by decide +kernel
theorem dX12_knowsIn_67 : decode cX12_knowsIn 67 = .ok (.iconst 1, 1) := by decide +kernel
theorem dX12_knowsIn_68 : decode cX12_knowsIn 68 = .ok (.iand, 1) := by decide +kernel
theorem dX12_knowsIn_69 : decode cX12_knowsIn 69 = .ok (.ifCond .eq 22, 3) := by decide +kernel
theorem dX12_knowsIn_72 : decode cX12_knowsIn 72 = .ok (.aload_n 0, 1) := by decide +kernel
theorem dX12_knowsIn_73 : decode cX12_knowsIn 73 = .ok (.iconst 0, 1) := by decide +kernel
theorem dX12_knowsIn_74 : decode cX12_knowsIn 74 = .ok (.iload_n 3, 1) := by decide +kernel
theorem dX12_knowsIn_75 : decode cX12_knowsIn 75 = .ok (.iload 5, 2) := by decide +kernel
theorem dX12_knowsIn_77 : decode cX12_knowsIn 77 = .ok (.invokevirtual 234, 3) := by decide +kernel
theorem dX12_knowsIn_80 : decode cX12_knowsIn 80 = .ok (.aload_n 0, 1) := by decide +kernel
theorem dX12_knowsIn_81 : decode cX12_knowsIn 81 = .ok (.iconst 0, 1) := by decide +kernel
theorem dX12_knowsIn_82 : decode cX12_knowsIn 82 = .ok (.iload_n 2, 1) := by decide +kernel
theorem dX12_knowsIn_83 : decode cX12_knowsIn 83 = .ok (.iload 5, 2) := by decide +kernel
theorem dX12_knowsIn_85 : decode cX12_knowsIn 85 = .ok (.invokevirtual 234, 3) := by decide +kernel
theorem dX12_knowsIn_88 : decode cX12_knowsIn 88 = .ok (.if_icmp .ne 7, 3) := by decide +kernel
theorem dX12_knowsIn_91 : decode cX12_knowsIn 91 = .ok (.iconst 1, 1) := by decide +kernel
theorem dX12_knowsIn_92 : decode cX12_knowsIn 92 = .ok (.goto 4, 3) := by decide +kernel
theorem dX12_knowsIn_95 : decode cX12_knowsIn 95 = .ok (.iconst 0, 1) := by decide +kernel
theorem dX12_knowsIn_96 : decode cX12_knowsIn 96 = .ok (.istore 4, 2) := by decide +kernel
theorem dX12_knowsIn_98 : decode cX12_knowsIn 98 = .ok (.iinc 5 1, 3) := by decide +kernel
theorem dX12_knowsIn_101 : decode cX12_knowsIn 101 = .ok (.goto (-59), 3) := by decide +kernel
theorem dX12_knowsIn_104 : decode cX12_knowsIn 104 = .ok (.iload 4, 2) := by decide +kernel
theorem dX12_knowsIn_106 : decode cX12_knowsIn 106 = .ok (.ifCond .eq 21, 3) := by decide +kernel
theorem dX12_knowsIn_109 : decode cX12_knowsIn 109 = .ok (.aload_n 0, 1) := by decide +kernel
theorem dX12_knowsIn_110 : decode cX12_knowsIn 110 = .ok (.getfield 63, 3) := by decide +kernel
theorem dX12_knowsIn_113 : decode cX12_knowsIn 113 = .ok (.iload_n 3, 1) := by decide +kernel
theorem dX12_knowsIn_114 : decode cX12_knowsIn 114 = .ok (.bipush 64, 2) := by decide +kernel
theorem dX12_knowsIn_116 : decode cX12_knowsIn 116 = .ok (.idiv, 1) := by decide +kernel
theorem dX12_knowsIn_117 : decode cX12_knowsIn 117 = .ok (.dup2, 1) := by decide +kernel
theorem dX12_knowsIn_118 : decode cX12_knowsIn 118 = .ok (.laload, 1) := by decide +kernel
theorem dX12_knowsIn_119 : decode cX12_knowsIn 119 = .ok (.lconst 1, 1) := by decide +kernel
theorem dX12_knowsIn_120 : decode cX12_knowsIn 120 = .ok (.iload_n 3, 1) := by decide +kernel
theorem dX12_knowsIn_121 : decode cX12_knowsIn 121 = .ok (.bipush 64, 2) := by decide +kernel
theorem dX12_knowsIn_123 : decode cX12_knowsIn 123 = .ok (.irem, 1) := by decide +kernel
theorem dX12_knowsIn_124 : decode cX12_knowsIn 124 = .ok (.lshl, 1) := by decide +kernel
theorem dX12_knowsIn_125 : decode cX12_knowsIn 125 = .ok (.lor, 1) := by decide +kernel
theorem dX12_knowsIn_126 : decode cX12_knowsIn 126 = .ok (.lastore, 1) := by decide +kernel
theorem dX12_knowsIn_127 : decode cX12_knowsIn 127 = .ok (.iinc 3 1, 3) := by decide +kernel
theorem dX12_knowsIn_130 : decode cX12_knowsIn 130 = .ok (.goto (-108), 3) := by decide +kernel
theorem dX12_knowsIn_133 : decode cX12_knowsIn 133 = .ok (.return_, 1) := by decide +kernel
theorem dX12_meansBy_0 : decode cX12_meansBy 0 = .ok (.iconst 0, 1) := by decide +kernel
theorem dX12_meansBy_1 : decode cX12_meansBy 1 = .ok (.istore_n 2, 1) := by decide +kernel
theorem dX12_meansBy_2 : decode cX12_meansBy 2 = .ok (.iload_n 2, 1) := by decide +kernel
theorem dX12_meansBy_3 : decode cX12_meansBy 3 = .ok (.iconst 4, 1) := by decide +kernel
theorem dX12_meansBy_4 : decode cX12_meansBy 4 = .ok (.if_icmp .ge 54, 3) := by decide +kernel
theorem dX12_meansBy_7 : decode cX12_meansBy 7 = .ok (.aload_n 0, 1) := by decide +kernel
theorem dX12_meansBy_8 : decode cX12_meansBy 8 = .ok (.getfield 13, 3) := by decide +kernel
theorem dX12_meansBy_11 : decode cX12_meansBy 11 = .ok (.iconst 4, 1) := by decide +kernel
theorem dX12_meansBy_12 : decode cX12_meansBy 12 = .ok (.iconst 4, 1) := by decide +kernel
theorem dX12_meansBy_13 : decode cX12_meansBy 13 = .ok (.iload_n 1, 1) := by decide +kernel
theorem dX12_meansBy_14 : decode cX12_meansBy 14 = .ok (.iconst 2, 1) := by decide +kernel
theorem dX12_meansBy_15 : decode cX12_meansBy 15 = .ok (.idiv, 1) := by decide +kernel
theorem dX12_meansBy_16 : decode cX12_meansBy 16 = .ok (.imul, 1) := by decide +kernel
theorem dX12_meansBy_17 : decode cX12_meansBy 17 = .ok (.iadd, 1) := by decide +kernel
theorem dX12_meansBy_18 : decode cX12_meansBy 18 = .ok (.iload_n 2, 1) := by decide +kernel
theorem dX12_meansBy_19 : decode cX12_meansBy 19 = .ok (.iadd, 1) := by decide +kernel
theorem dX12_meansBy_20 : decode cX12_meansBy 20 = .ok (.laload, 1) := by decide +kernel
theorem dX12_meansBy_21 : decode cX12_meansBy 21 = .ok (.lstore_n 3, 1) := by decide +kernel
theorem dX12_meansBy_22 : decode cX12_meansBy 22 = .ok (.aload_n 0, 1) := by decide +kernel
theorem dX12_meansBy_23 : decode cX12_meansBy 23 = .ok (.getfield 66, 3) := by decide +kernel
theorem dX12_meansBy_26 : decode cX12_meansBy 26 = .ok (.iload_n 2, 1) := by decide +kernel
theorem dX12_meansBy_27 : decode cX12_meansBy 27 = .ok (.iload_n 1, 1) := by decide +kernel
theorem dX12_meansBy_28 : decode cX12_meansBy 28 = .ok (.iconst 2, 1) := by decide +kernel
theorem dX12_meansBy_29 : decode cX12_meansBy 29 = .ok (.irem, 1) := by decide +kernel
theorem dX12_meansBy_30 : decode cX12_meansBy 30 = .ok (.ifCond .ne 7, 3) := by decide +kernel
theorem dX12_meansBy_33 : decode cX12_meansBy 33 = .ok (.lload_n 3, 1) := by decide +kernel
theorem dX12_meansBy_34 : decode cX12_meansBy 34 = .ok (.goto 17, 3) := by decide +kernel
theorem dX12_meansBy_37 : decode cX12_meansBy 37 = .ok (.aload_n 0, 1) := by decide +kernel
theorem dX12_meansBy_38 : decode cX12_meansBy 38 = .ok (.getfield 13, 3) := by decide +kernel
theorem dX12_meansBy_41 : decode cX12_meansBy 41 = .ok (.iconst 0, 1) := by decide +kernel
theorem dX12_meansBy_42 : decode cX12_meansBy 42 = .ok (.iload_n 2, 1) := by decide +kernel
theorem dX12_meansBy_43 : decode cX12_meansBy 43 = .ok (.iadd, 1) := by decide +kernel
theorem dX12_meansBy_44 : decode cX12_meansBy 44 = .ok (.laload, 1) := by decide +kernel
theorem dX12_meansBy_45 : decode cX12_meansBy 45 = .ok (.lload_n 3, 1) := by decide +kernel
theorem dX12_meansBy_46 : decode cX12_meansBy 46 = .ok (.ldc2_w 124, 3) := by decide +kernel
theorem dX12_meansBy_49 : decode cX12_meansBy 49 = .ok (.lxor, 1) := by decide +kernel
theorem dX12_meansBy_50 : decode cX12_meansBy 50 = .ok (.land, 1) := by decide +kernel
theorem dX12_meansBy_51 : decode cX12_meansBy 51 = .ok (.lastore, 1) := by decide +kernel
theorem dX12_meansBy_52 : decode cX12_meansBy 52 = .ok (.iinc 2 1, 3) := by decide +kernel
theorem dX12_meansBy_55 : decode cX12_meansBy 55 = .ok (.goto (-53), 3) := by decide +kernel
theorem dX12_meansBy_58 : decode cX12_meansBy 58 = .ok (.return_, 1) := by decide +kernel
theorem dX12_isMeant_0 : decode cX12_isMeant 0 = .ok (.iconst 1, 1) := by decide +kernel
theorem dX12_isMeant_1 : decode cX12_isMeant 1 = .ok (.istore_n 1, 1) := by decide +kernel
theorem dX12_isMeant_2 : decode cX12_isMeant 2 = .ok (.iconst 0, 1) := by decide +kernel
theorem dX12_isMeant_3 : decode cX12_isMeant 3 = .ok (.istore_n 2, 1) := by decide +kernel
theorem dX12_isMeant_4 : decode cX12_isMeant 4 = .ok (.iload_n 2, 1) := by decide +kernel
theorem dX12_isMeant_5 : decode cX12_isMeant 5 = .ok (.iconst 4, 1) := by decide +kernel
theorem dX12_isMeant_6 : decode cX12_isMeant 6 = .ok (.if_icmp .ge 41, 3) := by decide +kernel
theorem dX12_isMeant_9 : decode cX12_isMeant 9 = .ok (.iload_n 1, 1) := by decide +kernel
theorem dX12_isMeant_10 : decode cX12_isMeant 10 = .ok (.ifCond .eq 29, 3) := by decide +kernel
theorem dX12_isMeant_13 : decode cX12_isMeant 13 = .ok (.aload_n 0, 1) := by decide +kernel
theorem dX12_isMeant_14 : decode cX12_isMeant 14 = .ok (.getfield 63, 3) := by decide +kernel
theorem dX12_isMeant_17 : decode cX12_isMeant 17 = .ok (.iload_n 2, 1) := by decide +kernel
theorem dX12_isMeant_18 : decode cX12_isMeant 18 = .ok (.laload, 1) := by decide +kernel
theorem dX12_isMeant_19 : decode cX12_isMeant 19 = .ok (.aload_n 0, 1) := by decide +kernel
theorem dX12_isMeant_20 : decode cX12_isMeant 20 = .ok (.getfield 66, 3) := by decide +kernel
theorem dX12_isMeant_23 : decode cX12_isMeant 23 = .ok (.iload_n 2, 1) := by decide +kernel
theorem dX12_isMeant_24 : decode cX12_isMeant 24 = .ok (.laload, 1) := by decide +kernel
theorem dX12_isMeant_25 : decode cX12_isMeant 25 = .ok (.ldc2_w 124, 3) := by decide +kernel
theorem dX12_isMeant_28 : decode cX12_isMeant 28 = .ok (.lxor, 1) := by decide +kernel
theorem dX12_isMeant_29 : decode cX12_isMeant 29 = .ok (.land, 1) := by decide +kernel
theorem dX12_isMeant_30 : decode cX12_isMeant 30 = .ok (.lconst 0, 1) := by decide +kernel
theorem dX12_isMeant_31 : decode cX12_isMeant 31 = .ok (.lcmp, 1) := by decide +kernel
theorem dX12_isMeant_32 : decode cX12_isMeant 32 = .ok (.ifCond .ne 7, 3) := by decide +kernel
theorem dX12_isMeant_35 : decode cX12_isMeant 35 = .ok (.iconst 1, 1) := by decide +kernel
theorem dX12_isMeant_36 : decode cX12_isMeant 36 = .ok (.goto 4, 3) := by decide +kernel
theorem dX12_isMeant_39 : decode cX12_isMeant 39 = .ok (.iconst 0, 1) := by decide +kernel
theorem dX12_isMeant_40 : decode cX12_isMeant 40 = .ok (.istore_n 1, 1) := by decide +kernel
theorem dX12_isMeant_41 : decode cX12_isMeant 41 = .ok (.iinc 2 1, 3) := by decide +kernel
theorem dX12_isMeant_44 : decode cX12_isMeant 44 = .ok (.goto (-40), 3) := by decide +kernel
theorem dX12_isMeant_47 : decode cX12_isMeant 47 = .ok (.iload_n 1, 1) := by decide +kernel
theorem dX12_isMeant_48 : decode cX12_isMeant 48 = .ok (.ireturn, 1) := by decide +kernel
theorem dX12_liesTo_0 : decode cX12_liesTo 0 = .ok (.iconst 0, 1) := by decide +kernel
theorem dX12_liesTo_1 : decode cX12_liesTo 1 = .ok (.istore_n 2, 1) := by decide +kernel
theorem dX12_liesTo_2 : decode cX12_liesTo 2 = .ok (.iconst 0, 1) := by decide +kernel
theorem dX12_liesTo_3 : decode cX12_liesTo 3 = .ok (.istore_n 3, 1) := by decide +kernel
theorem dX12_liesTo_4 : decode cX12_liesTo 4 = .ok (.iload_n 3, 1) := by decide +kernel
theorem dX12_liesTo_5 : decode cX12_liesTo 5 = .ok (.iconst 4, 1) := by decide +kernel
theorem dX12_liesTo_6 : decode cX12_liesTo 6 = .ok (.if_icmp .ge 91, 3) := by decide +kernel
theorem dX12_liesTo_9 : decode cX12_liesTo 9 = .ok (.aload_n 0, 1) := by decide +kernel
theorem dX12_liesTo_10 : decode cX12_liesTo 10 = .ok (.getfield 13, 3) := by decide +kernel
theorem dX12_liesTo_13 : decode cX12_liesTo 13 = .ok (.iconst 4, 1) := by decide +kernel
theorem dX12_liesTo_14 : decode cX12_liesTo 14 = .ok (.iconst 4, 1) := by decide +kernel
theorem dX12_liesTo_15 : decode cX12_liesTo 15 = .ok (.iload_n 1, 1) := by decide +kernel
theorem dX12_liesTo_16 : decode cX12_liesTo 16 = .ok (.imul, 1) := by decide +kernel
theorem dX12_liesTo_17 : decode cX12_liesTo 17 = .ok (.iadd, 1) := by decide +kernel
theorem dX12_liesTo_18 : decode cX12_liesTo 18 = .ok (.iload_n 3, 1) := by decide +kernel
theorem dX12_liesTo_19 : decode cX12_liesTo 19 = .ok (.iadd, 1) := by decide +kernel
theorem dX12_liesTo_20 : decode cX12_liesTo 20 = .ok (.laload, 1) := by decide +kernel
theorem dX12_liesTo_21 : decode cX12_liesTo 21 = .ok (.lstore 4, 2) := by decide +kernel
theorem dX12_liesTo_23 : decode cX12_liesTo 23 = .ok (.aload_n 0, 1) := by decide +kernel
theorem dX12_liesTo_24 : decode cX12_liesTo 24 = .ok (.getfield 66, 3) := by decide +kernel
theorem dX12_liesTo_27 : decode cX12_liesTo 27 = .ok (.iload_n 3, 1) := by decide +kernel
theorem dX12_liesTo_28 : decode cX12_liesTo 28 = .ok (.laload, 1) := by decide +kernel
theorem dX12_liesTo_29 : decode cX12_liesTo 29 = .ok (.lload 4, 2) := by decide +kernel
theorem dX12_liesTo_31 : decode cX12_liesTo 31 = .ok (.land, 1) := by decide +kernel
theorem dX12_liesTo_32 : decode cX12_liesTo 32 = .ok (.lconst 0, 1) := by decide +kernel
theorem dX12_liesTo_33 : decode cX12_liesTo 33 = .ok (.lcmp, 1) := by decide +kernel
theorem dX12_liesTo_34 : decode cX12_liesTo 34 = .ok (.ifCond .eq 7, 3) := by decide +kernel
theorem dX12_liesTo_37 : decode cX12_liesTo 37 = .ok (.iload_n 2, 1) := by decide +kernel
theorem dX12_liesTo_38 : decode cX12_liesTo 38 = .ok (.iconst 1, 1) := by decide +kernel
theorem dX12_liesTo_39 : decode cX12_liesTo 39 = .ok (.ior, 1) := by decide +kernel
theorem dX12_liesTo_40 : decode cX12_liesTo 40 = .ok (.istore_n 2, 1) := by decide +kernel
theorem dX12_liesTo_41 : decode cX12_liesTo 41 = .ok (.aload_n 0, 1) := by decide +kernel
theorem dX12_liesTo_42 : decode cX12_liesTo 42 = .ok (.getfield 66, 3) := by decide +kernel
theorem dX12_liesTo_45 : decode cX12_liesTo 45 = .ok (.iload_n 3, 1) := by decide +kernel
theorem dX12_liesTo_46 : decode cX12_liesTo 46 = .ok (.laload, 1) := by decide +kernel
theorem dX12_liesTo_47 : decode cX12_liesTo 47 = .ok (.lload 4, 2) := by decide +kernel
theorem dX12_liesTo_49 : decode cX12_liesTo 49 = .ok (.ldc2_w 124, 3) := by decide +kernel
theorem dX12_liesTo_52 : decode cX12_liesTo 52 = .ok (.lxor, 1) := by decide +kernel
theorem dX12_liesTo_53 : decode cX12_liesTo 53 = .ok (.land, 1) := by decide +kernel
theorem dX12_liesTo_54 : decode cX12_liesTo 54 = .ok (.lconst 0, 1) := by decide +kernel
theorem dX12_liesTo_55 : decode cX12_liesTo 55 = .ok (.lcmp, 1) := by decide +kernel
theorem dX12_liesTo_56 : decode cX12_liesTo 56 = .ok (.ifCond .eq 7, 3) := by decide +kernel
theorem dX12_liesTo_59 : decode cX12_liesTo 59 = .ok (.iload_n 2, 1) := by decide +kernel
theorem dX12_liesTo_60 : decode cX12_liesTo 60 = .ok (.iconst 2, 1) := by decide +kernel
theorem dX12_liesTo_61 : decode cX12_liesTo 61 = .ok (.ior, 1) := by decide +kernel
theorem dX12_liesTo_62 : decode cX12_liesTo 62 = .ok (.istore_n 2, 1) := by decide +kernel
theorem dX12_liesTo_63 : decode cX12_liesTo 63 = .ok (.aload_n 0, 1) := by decide +kernel
theorem dX12_liesTo_64 : decode cX12_liesTo 64 = .ok (.getfield 13, 3) := by decide +kernel
theorem dX12_liesTo_67 : decode cX12_liesTo 67 = .ok (.iconst 0, 1) := by decide +kernel
theorem dX12_liesTo_68 : decode cX12_liesTo 68 = .ok (.iload_n 3, 1) := by decide +kernel
theorem dX12_liesTo_69 : decode cX12_liesTo 69 = .ok (.iadd, 1) := by decide +kernel
theorem dX12_liesTo_70 : decode cX12_liesTo 70 = .ok (.laload, 1) := by decide +kernel
theorem dX12_liesTo_71 : decode cX12_liesTo 71 = .ok (.aload_n 0, 1) := by decide +kernel
theorem dX12_liesTo_72 : decode cX12_liesTo 72 = .ok (.getfield 66, 3) := by decide +kernel
theorem dX12_liesTo_75 : decode cX12_liesTo 75 = .ok (.iload_n 3, 1) := by decide +kernel
theorem dX12_liesTo_76 : decode cX12_liesTo 76 = .ok (.laload, 1) := by decide +kernel
theorem dX12_liesTo_77 : decode cX12_liesTo 77 = .ok (.ldc2_w 124, 3) := by decide +kernel
theorem dX12_liesTo_80 : decode cX12_liesTo 80 = .ok (.lxor, 1) := by decide +kernel
theorem dX12_liesTo_81 : decode cX12_liesTo 81 = .ok (.land, 1) := by decide +kernel
theorem dX12_liesTo_82 : decode cX12_liesTo 82 = .ok (.lconst 0, 1) := by decide +kernel
theorem dX12_liesTo_83 : decode cX12_liesTo 83 = .ok (.lcmp, 1) := by decide +kernel
theorem dX12_liesTo_84 : decode cX12_liesTo 84 = .ok (.ifCond .eq 7, 3) := by decide +kernel
theorem dX12_liesTo_87 : decode cX12_liesTo 87 = .ok (.iload_n 2, 1) := by decide +kernel
theorem dX12_liesTo_88 : decode cX12_liesTo 88 = .ok (.iconst 4, 1) := by decide +kernel
theorem dX12_liesTo_89 : decode cX12_liesTo 89 = .ok (.ior, 1) := by decide +kernel
theorem dX12_liesTo_90 : decode cX12_liesTo 90 = .ok (.istore_n 2, 1) := by decide +kernel
theorem dX12_liesTo_91 : decode cX12_liesTo 91 = .ok (.iinc 3 1, 3) := by decide +kernel
theorem dX12_liesTo_94 : decode cX12_liesTo 94 = .ok (.goto (-90), 3) := by decide +kernel
theorem dX12_liesTo_97 : decode cX12_liesTo 97 = .ok (.iload_n 2, 1) := by decide +kernel
theorem dX12_liesTo_98 : decode cX12_liesTo 98 = .ok (.ireturn, 1) := by decide +kernel
theorem dX12_honestly_0 : decode cX12_honestly 0 = .ok (.iconst 1, 1) := by decide +kernel
theorem dX12_honestly_1 : decode cX12_honestly 1 = .ok (.istore_n 2, 1) := by decide +kernel
theorem dX12_honestly_2 : decode cX12_honestly 2 = .ok (.iconst 1, 1) := by decide +kernel
theorem dX12_honestly_3 : decode cX12_honestly 3 = .ok (.istore_n 3, 1) := by decide +kernel
theorem dX12_honestly_4 : decode cX12_honestly 4 = .ok (.iconst 0, 1) := by decide +kernel
theorem dX12_honestly_5 : decode cX12_honestly 5 = .ok (.istore 4, 2) := by decide +kernel
theorem dX12_honestly_7 : decode cX12_honestly 7 = .ok (.iload 4, 2) := by decide +kernel
theorem dX12_honestly_9 : decode cX12_honestly 9 = .ok (.iconst 4, 1) := by decide +kernel
theorem dX12_honestly_10 : decode cX12_honestly 10 = .ok (.if_icmp .ge 85, 3) := by decide +kernel
theorem dX12_honestly_13 : decode cX12_honestly 13 = .ok (.iload_n 2, 1) := by decide +kernel
theorem dX12_honestly_14 : decode cX12_honestly 14 = .ok (.ifCond .eq 37, 3) := by decide +kernel
theorem dX12_honestly_17 : decode cX12_honestly 17 = .ok (.aload_n 0, 1) := by decide +kernel
theorem dX12_honestly_18 : decode cX12_honestly 18 = .ok (.getfield 63, 3) := by decide +kernel
theorem dX12_honestly_21 : decode cX12_honestly 21 = .ok (.iload 4, 2) := by decide +kernel
theorem dX12_honestly_23 : decode cX12_honestly 23 = .ok (.laload, 1) := by decide +kernel
theorem dX12_honestly_24 : decode cX12_honestly 24 = .ok (.aload_n 0, 1) := by decide +kernel
theorem dX12_honestly_25 : decode cX12_honestly 25 = .ok (.getfield 13, 3) := by decide +kernel
theorem dX12_honestly_28 : decode cX12_honestly 28 = .ok (.iconst 4, 1) := by decide +kernel
theorem dX12_honestly_29 : decode cX12_honestly 29 = .ok (.iconst 4, 1) := by decide +kernel
theorem dX12_honestly_30 : decode cX12_honestly 30 = .ok (.iload_n 1, 1) := by decide +kernel
theorem dX12_honestly_31 : decode cX12_honestly 31 = .ok (.imul, 1) := by decide +kernel
theorem dX12_honestly_32 : decode cX12_honestly 32 = .ok (.iadd, 1) := by decide +kernel
theorem dX12_honestly_33 : decode cX12_honestly 33 = .ok (.iload 4, 2) := by decide +kernel
theorem dX12_honestly_35 : decode cX12_honestly 35 = .ok (.iadd, 1) := by decide +kernel
theorem dX12_honestly_36 : decode cX12_honestly 36 = .ok (.laload, 1) := by decide +kernel
theorem dX12_honestly_37 : decode cX12_honestly 37 = .ok (.ldc2_w 124, 3) := by decide +kernel
theorem dX12_honestly_40 : decode cX12_honestly 40 = .ok (.lxor, 1) := by decide +kernel
theorem dX12_honestly_41 : decode cX12_honestly 41 = .ok (.land, 1) := by decide +kernel
theorem dX12_honestly_42 : decode cX12_honestly 42 = .ok (.lconst 0, 1) := by decide +kernel
theorem dX12_honestly_43 : decode cX12_honestly 43 = .ok (.lcmp, 1) := by decide +kernel
theorem dX12_honestly_44 : decode cX12_honestly 44 = .ok (.ifCond .ne 7, 3) := by decide +kernel
theorem dX12_honestly_47 : decode cX12_honestly 47 = .ok (.iconst 1, 1) := by decide +kernel
theorem dX12_honestly_48 : decode cX12_honestly 48 = .ok (.goto 4, 3) := by decide +kernel
theorem dX12_honestly_51 : decode cX12_honestly 51 = .ok (.iconst 0, 1) := by decide +kernel
theorem dX12_honestly_52 : decode cX12_honestly 52 = .ok (.istore_n 2, 1) := by decide +kernel
theorem dX12_honestly_53 : decode cX12_honestly 53 = .ok (.iload_n 3, 1) := by decide +kernel
theorem dX12_honestly_54 : decode cX12_honestly 54 = .ok (.ifCond .eq 33, 3) := by decide +kernel
theorem dX12_honestly_57 : decode cX12_honestly 57 = .ok (.aload_n 0, 1) := by decide +kernel
theorem dX12_honestly_58 : decode cX12_honestly 58 = .ok (.getfield 63, 3) := by decide +kernel
theorem dX12_honestly_61 : decode cX12_honestly 61 = .ok (.iload 4, 2) := by decide +kernel
theorem dX12_honestly_63 : decode cX12_honestly 63 = .ok (.laload, 1) := by decide +kernel
theorem dX12_honestly_64 : decode cX12_honestly 64 = .ok (.aload_n 0, 1) := by decide +kernel
theorem dX12_honestly_65 : decode cX12_honestly 65 = .ok (.getfield 13, 3) := by decide +kernel
theorem dX12_honestly_68 : decode cX12_honestly 68 = .ok (.iconst 4, 1) := by decide +kernel
theorem dX12_honestly_69 : decode cX12_honestly 69 = .ok (.iconst 4, 1) := by decide +kernel
theorem dX12_honestly_70 : decode cX12_honestly 70 = .ok (.iload_n 1, 1) := by decide +kernel
theorem dX12_honestly_71 : decode cX12_honestly 71 = .ok (.imul, 1) := by decide +kernel
theorem dX12_honestly_72 : decode cX12_honestly 72 = .ok (.iadd, 1) := by decide +kernel
theorem dX12_honestly_73 : decode cX12_honestly 73 = .ok (.iload 4, 2) := by decide +kernel
theorem dX12_honestly_75 : decode cX12_honestly 75 = .ok (.iadd, 1) := by decide +kernel
theorem dX12_honestly_76 : decode cX12_honestly 76 = .ok (.laload, 1) := by decide +kernel
theorem dX12_honestly_77 : decode cX12_honestly 77 = .ok (.land, 1) := by decide +kernel
theorem dX12_honestly_78 : decode cX12_honestly 78 = .ok (.lconst 0, 1) := by decide +kernel
theorem dX12_honestly_79 : decode cX12_honestly 79 = .ok (.lcmp, 1) := by decide +kernel
theorem dX12_honestly_80 : decode cX12_honestly 80 = .ok (.ifCond .ne 7, 3) := by decide +kernel
theorem dX12_honestly_83 : decode cX12_honestly 83 = .ok (.iconst 1, 1) := by decide +kernel
theorem dX12_honestly_84 : decode cX12_honestly 84 = .ok (.goto 4, 3) := by decide +kernel
theorem dX12_honestly_87 : decode cX12_honestly 87 = .ok (.iconst 0, 1) := by decide +kernel
theorem dX12_honestly_88 : decode cX12_honestly 88 = .ok (.istore_n 3, 1) := by decide +kernel
theorem dX12_honestly_89 : decode cX12_honestly 89 = .ok (.iinc 4 1, 3) := by decide +kernel
theorem dX12_honestly_92 : decode cX12_honestly 92 = .ok (.goto (-85), 3) := by decide +kernel
theorem dX12_honestly_95 : decode cX12_honestly 95 = .ok (.iload_n 2, 1) := by decide +kernel
theorem dX12_honestly_96 : decode cX12_honestly 96 = .ok (.ifCond .ne 11, 3) := by decide +kernel
theorem dX12_honestly_99 : decode cX12_honestly 99 = .ok (.iload_n 3, 1) := by decide +kernel
theorem dX12_honestly_100 : decode cX12_honestly 100 = .ok (.ifCond .ne 7, 3) := by decide +kernel
theorem dX12_honestly_103 : decode cX12_honestly 103 = .ok (.iconst 2, 1) := by decide +kernel
theorem dX12_honestly_104 : decode cX12_honestly 104 = .ok (.iload_n 1, 1) := by decide +kernel
theorem dX12_honestly_105 : decode cX12_honestly 105 = .ok (.imul, 1) := by decide +kernel
theorem dX12_honestly_106 : decode cX12_honestly 106 = .ok (.ireturn, 1) := by decide +kernel
theorem dX12_honestly_107 : decode cX12_honestly 107 = .ok (.iconst 0, 1) := by decide +kernel
theorem dX12_honestly_108 : decode cX12_honestly 108 = .ok (.istore 4, 2) := by decide +kernel
theorem dX12_honestly_110 : decode cX12_honestly 110 = .ok (.iload 4, 2) := by decide +kernel
theorem dX12_honestly_112 : decode cX12_honestly 112 = .ok (.iconst 2, 1) := by decide +kernel
theorem dX12_honestly_113 : decode cX12_honestly 113 = .ok (.aload_n 0, 1) := by decide +kernel
theorem dX12_honestly_114 : decode cX12_honestly 114 = .ok (.getfield 7, 3) := by decide +kernel
theorem dX12_honestly_117 : decode cX12_honestly 117 = .ok (.iconst 3, 1) := by decide +kernel
theorem dX12_honestly_118 : decode cX12_honestly 118 = .ok (.iaload, 1) := by decide +kernel
theorem dX12_honestly_119 : decode cX12_honestly 119 = .ok (.imul, 1) := by decide +kernel
theorem dX12_honestly_120 : decode cX12_honestly 120 = .ok (.if_icmp .ge 54, 3) := by decide +kernel
theorem dX12_honestly_123 : decode cX12_honestly 123 = .ok (.aload_n 0, 1) := by decide +kernel
theorem dX12_honestly_124 : decode cX12_honestly 124 = .ok (.iload 4, 2) := by decide +kernel
theorem dX12_honestly_126 : decode cX12_honestly 126 = .ok (.invokevirtual 346, 3) := by decide +kernel
theorem dX12_honestly_129 : decode cX12_honestly 129 = .ok (.iload 4, 2) := by decide +kernel
theorem dX12_honestly_131 : decode cX12_honestly 131 = .ok (.iconst 2, 1) := by decide +kernel
theorem dX12_honestly_132 : decode cX12_honestly 132 = .ok (.iload_n 1, 1) := by decide +kernel
theorem dX12_honestly_133 : decode cX12_honestly 133 = .ok (.imul, 1) := by decide +kernel
theorem dX12_honestly_134 : decode cX12_honestly 134 = .ok (.if_icmp .eq 34, 3) := by decide +kernel
theorem dX12_honestly_137 : decode cX12_honestly 137 = .ok (.aload_n 0, 1) := by decide +kernel
theorem dX12_honestly_138 : decode cX12_honestly 138 = .ok (.invokevirtual 349, 3) := by decide +kernel
theorem dX12_honestly_141 : decode cX12_honestly 141 = .ok (.ifCond .ne 6, 3) := by decide +kernel
theorem dX12_honestly_144 : decode cX12_honestly 144 = .ok (.goto 24, 3) := by decide +kernel
theorem dX12_honestly_147 : decode cX12_honestly 147 = .ok (.aload_n 0, 1) := by decide +kernel
theorem dX12_honestly_148 : decode cX12_honestly 148 = .ok (.iload_n 1, 1) := by decide +kernel
theorem dX12_honestly_149 : decode cX12_honestly 149 = .ok (.invokevirtual 352, 3) := by decide +kernel
theorem dX12_honestly_152 : decode cX12_honestly 152 = .ok (.iload_n 2, 1) := by decide +kernel
theorem dX12_honestly_153 : decode cX12_honestly 153 = .ok (.ifCond .eq 7, 3) := by decide +kernel
theorem dX12_honestly_156 : decode cX12_honestly 156 = .ok (.iconst 2, 1) := by decide +kernel
theorem dX12_honestly_157 : decode cX12_honestly 157 = .ok (.goto 4, 3) := by decide +kernel
theorem dX12_honestly_160 : decode cX12_honestly 160 = .ok (.iconst 1, 1) := by decide +kernel
theorem dX12_honestly_161 : decode cX12_honestly 161 = .ok (.iand, 1) := by decide +kernel
theorem dX12_honestly_162 : decode cX12_honestly 162 = .ok (.ifCond .ne 6, 3) := by decide +kernel
theorem dX12_honestly_165 : decode cX12_honestly 165 = .ok (.iload 4, 2) := by decide +kernel
theorem dX12_honestly_167 : decode cX12_honestly 167 = .ok (.ireturn, 1) := by decide +kernel
theorem dX12_honestly_168 : decode cX12_honestly 168 = .ok (.iinc 4 1, 3) := by decide +kernel
theorem dX12_honestly_171 : decode cX12_honestly 171 = .ok (.goto (-61), 3) := by decide +kernel
theorem dX12_honestly_174 : decode cX12_honestly 174 = .ok (.iconst 2, 1) := by decide +kernel
theorem dX12_honestly_175 : decode cX12_honestly 175 = .ok (.iload_n 1, 1) := by decide +kernel
theorem dX12_honestly_176 : decode cX12_honestly 176 = .ok (.imul, 1) := by decide +kernel
theorem dX12_honestly_177 : decode cX12_honestly 177 = .ok (.ireturn, 1) := by decide +kernel
theorem dX12_otherwise_0 : decode cX12_otherwise 0 = .ok (.iconst 0, 1) := by decide +kernel
theorem dX12_otherwise_1 : decode cX12_otherwise 1 = .ok (.istore_n 2, 1) := by decide +kernel
theorem dX12_otherwise_2 : decode cX12_otherwise 2 = .ok (.iload_n 2, 1) := by decide +kernel
theorem dX12_otherwise_3 : decode cX12_otherwise 3 = .ok (.iconst 2, 1) := by decide +kernel
theorem dX12_otherwise_4 : decode cX12_otherwise 4 = .ok (.aload_n 0, 1) := by decide +kernel
theorem dX12_otherwise_5 : decode cX12_otherwise 5 = .ok (.getfield 7, 3) := by decide +kernel
theorem dX12_otherwise_8 : decode cX12_otherwise 8 = .ok (.iconst 3, 1) := by decide +kernel
theorem dX12_otherwise_9 : decode cX12_otherwise 9 = .ok (.iaload, 1) := by decide +kernel
theorem dX12_otherwise_10 : decode cX12_otherwise 10 = .ok (.imul, 1) := by decide +kernel
theorem dX12_otherwise_11 : decode cX12_otherwise 11 = .ok (.if_icmp .ge 43, 3) := by decide +kernel
theorem dX12_otherwise_14 : decode cX12_otherwise 14 = .ok (.iload_n 2, 1) := by decide +kernel
theorem dX12_otherwise_15 : decode cX12_otherwise 15 = .ok (.iconst 2, 1) := by decide +kernel
theorem dX12_otherwise_16 : decode cX12_otherwise 16 = .ok (.idiv, 1) := by decide +kernel
theorem dX12_otherwise_17 : decode cX12_otherwise 17 = .ok (.iload_n 1, 1) := by decide +kernel
theorem dX12_otherwise_18 : decode cX12_otherwise 18 = .ok (.if_icmp .ne 6, 3) := by decide +kernel
theorem dX12_otherwise_21 : decode cX12_otherwise 21 = .ok (.goto 27, 3) := by decide +kernel
theorem dX12_otherwise_24 : decode cX12_otherwise 24 = .ok (.aload_n 0, 1) := by decide +kernel
theorem dX12_otherwise_25 : decode cX12_otherwise 25 = .ok (.iload_n 2, 1) := by decide +kernel
theorem dX12_otherwise_26 : decode cX12_otherwise 26 = .ok (.invokevirtual 346, 3) := by decide +kernel
theorem dX12_otherwise_29 : decode cX12_otherwise 29 = .ok (.aload_n 0, 1) := by decide +kernel
theorem dX12_otherwise_30 : decode cX12_otherwise 30 = .ok (.invokevirtual 349, 3) := by decide +kernel
theorem dX12_otherwise_33 : decode cX12_otherwise 33 = .ok (.ifCond .eq 15, 3) := by decide +kernel
theorem dX12_otherwise_36 : decode cX12_otherwise 36 = .ok (.aload_n 0, 1) := by decide +kernel
theorem dX12_otherwise_37 : decode cX12_otherwise 37 = .ok (.iload_n 1, 1) := by decide +kernel
theorem dX12_otherwise_38 : decode cX12_otherwise 38 = .ok (.invokevirtual 352, 3) := by decide +kernel
theorem dX12_otherwise_41 : decode cX12_otherwise 41 = .ok (.bipush 7, 2) := by decide +kernel
theorem dX12_otherwise_43 : decode cX12_otherwise 43 = .ok (.if_icmp .ne 5, 3) := by decide +kernel
theorem dX12_otherwise_46 : decode cX12_otherwise 46 = .ok (.iload_n 2, 1) := by decide +kernel
theorem dX12_otherwise_47 : decode cX12_otherwise 47 = .ok (.ireturn, 1) := by decide +kernel
theorem dX12_otherwise_48 : decode cX12_otherwise 48 = .ok (.iinc 2 1, 3) := by decide +kernel
theorem dX12_otherwise_51 : decode cX12_otherwise 51 = .ok (.goto (-49), 3) := by decide +kernel
theorem dX12_otherwise_54 : decode cX12_otherwise 54 = .ok (.iconst 2, 1) := by decide +kernel
theorem dX12_otherwise_55 : decode cX12_otherwise 55 = .ok (.iload_n 1, 1) := by decide +kernel
theorem dX12_otherwise_56 : decode cX12_otherwise 56 = .ok (.imul, 1) := by decide +kernel
theorem dX12_otherwise_57 : decode cX12_otherwise 57 = .ok (.ireturn, 1) := by decide +kernel
theorem dX12_laysAnswers_0 : decode cX12_laysAnswers 0 = .ok (.iconst 0, 1) := by decide +kernel
theorem dX12_laysAnswers_1 : decode cX12_laysAnswers 1 = .ok (.istore_n 1, 1) := by decide +kernel
theorem dX12_laysAnswers_2 : decode cX12_laysAnswers 2 = .ok (.iload_n 1, 1) := by decide +kernel
theorem dX12_laysAnswers_3 : decode cX12_laysAnswers 3 = .ok (.aload_n 0, 1) := by decide +kernel
theorem dX12_laysAnswers_4 : decode cX12_laysAnswers 4 = .ok (.getfield 7, 3) := by decide +kernel
theorem dX12_laysAnswers_7 : decode cX12_laysAnswers 7 = .ok (.iconst 4, 1) := by decide +kernel
theorem dX12_laysAnswers_8 : decode cX12_laysAnswers 8 = .ok (.iaload, 1) := by decide +kernel
theorem dX12_laysAnswers_9 : decode cX12_laysAnswers 9 = .ok (.if_icmp .ge 202, 3) := by decide +kernel
theorem dX12_laysAnswers_12 : decode cX12_laysAnswers 12 = .ok (.iconst 0, 1) := by decide +kernel
theorem dX12_laysAnswers_13 : decode cX12_laysAnswers 13 = .ok (.istore_n 2, 1) := by decide +kernel
theorem dX12_laysAnswers_14 : decode cX12_laysAnswers 14 = .ok (.iload_n 2, 1) := by decide +kernel
theorem dX12_laysAnswers_15 : decode cX12_laysAnswers 15 = .ok (.aload_n 0, 1) := by decide +kernel
theorem dX12_laysAnswers_16 : decode cX12_laysAnswers 16 = .ok (.getfield 7, 3) := by decide +kernel
theorem dX12_laysAnswers_19 : decode cX12_laysAnswers 19 = .ok (.iconst 2, 1) := by decide +kernel
theorem dX12_laysAnswers_20 : decode cX12_laysAnswers 20 = .ok (.iaload, 1) := by decide +kernel
theorem dX12_laysAnswers_21 : decode cX12_laysAnswers 21 = .ok (.if_icmp .ge 184, 3) := by decide +kernel
theorem dX12_laysAnswers_24 : decode cX12_laysAnswers 24 = .ok (.aload_n 0, 1) := by decide +kernel
theorem dX12_laysAnswers_25 : decode cX12_laysAnswers 25 = .ok (.iload_n 2, 1) := by decide +kernel
theorem dX12_laysAnswers_26 : decode cX12_laysAnswers 26 = .ok (.invokevirtual 331, 3) := by decide +kernel
theorem dX12_laysAnswers_29 : decode cX12_laysAnswers 29 = .ok (.ifCond .ne 6, 3) := by decide +kernel
theorem dX12_laysAnswers_32 : decode cX12_laysAnswers 32 = .ok (.goto 167, 3) := by decide +kernel
theorem dX12_laysAnswers_35 : decode cX12_laysAnswers 35 = .ok (.aload_n 0, 1) := by decide +kernel
theorem dX12_laysAnswers_36 : decode cX12_laysAnswers 36 = .ok (.iload_n 1, 1) := by decide +kernel
theorem dX12_laysAnswers_37 : decode cX12_laysAnswers 37 = .ok (.iload_n 2, 1) := by decide +kernel
theorem dX12_laysAnswers_38 : decode cX12_laysAnswers 38 = .ok (.invokevirtual 355, 3) := by decide +kernel
theorem dX12_laysAnswers_41 : decode cX12_laysAnswers 41 = .ok (.iconst 0, 1) := by decide +kernel
theorem dX12_laysAnswers_42 : decode cX12_laysAnswers 42 = .ok (.istore_n 3, 1) := by decide +kernel
theorem dX12_laysAnswers_43 : decode cX12_laysAnswers 43 = .ok (.iload_n 3, 1) := by decide +kernel
theorem dX12_laysAnswers_44 : decode cX12_laysAnswers 44 = .ok (.aload_n 0, 1) := by decide +kernel
theorem dX12_laysAnswers_45 : decode cX12_laysAnswers 45 = .ok (.getfield 7, 3) := by decide +kernel
theorem dX12_laysAnswers_48 : decode cX12_laysAnswers 48 = .ok (.iconst 3, 1) := by decide +kernel
theorem dX12_laysAnswers_49 : decode cX12_laysAnswers 49 = .ok (.iaload, 1) := by decide +kernel
theorem dX12_laysAnswers_50 : decode cX12_laysAnswers 50 = .ok (.if_icmp .ge 149, 3) := by decide +kernel
theorem dX12_laysAnswers_53 : decode cX12_laysAnswers 53 = .ok (.iconst 4, 1) := by decide +kernel
theorem dX12_laysAnswers_54 : decode cX12_laysAnswers 54 = .ok (.sipush 256, 3) := by decide +kernel
theorem dX12_laysAnswers_57 : decode cX12_laysAnswers 57 = .ok (.bipush 12, 2) := by decide +kernel
theorem dX12_laysAnswers_59 : decode cX12_laysAnswers 59 = .ok (.iload_n 1, 1) := by decide +kernel
theorem dX12_laysAnswers_60 : decode cX12_laysAnswers 60 = .ok (.imul, 1) := by decide +kernel
theorem dX12_laysAnswers_61 : decode cX12_laysAnswers 61 = .ok (.iload_n 3, 1) := by decide +kernel
theorem dX12_laysAnswers_62 : decode cX12_laysAnswers 62 = .ok (.iadd, 1) := by decide +kernel
theorem dX12_laysAnswers_63 : decode cX12_laysAnswers 63 = .ok (.imul, 1) := by decide +kernel
theorem dX12_laysAnswers_64 : decode cX12_laysAnswers 64 = .ok (.iload_n 2, 1) := by decide +kernel
theorem dX12_laysAnswers_65 : decode cX12_laysAnswers 65 = .ok (.iadd, 1) := by decide +kernel
theorem dX12_laysAnswers_66 : decode cX12_laysAnswers 66 = .ok (.imul, 1) := by decide +kernel
theorem dX12_laysAnswers_67 : decode cX12_laysAnswers 67 = .ok (.istore 4, 2) := by decide +kernel
theorem dX12_laysAnswers_69 : decode cX12_laysAnswers 69 = .ok (.aload_n 0, 1) := by decide +kernel
theorem dX12_laysAnswers_70 : decode cX12_laysAnswers 70 = .ok (.iload_n 3, 1) := by decide +kernel
theorem dX12_laysAnswers_71 : decode cX12_laysAnswers 71 = .ok (.invokevirtual 359, 3) := by decide +kernel
theorem dX12_laysAnswers_74 : decode cX12_laysAnswers 74 = .ok (.istore 5, 2) := by decide +kernel
theorem dX12_laysAnswers_76 : decode cX12_laysAnswers 76 = .ok (.aload_n 0, 1) := by decide +kernel
theorem dX12_laysAnswers_77 : decode cX12_laysAnswers 77 = .ok (.iload_n 1, 1) := by decide +kernel
theorem dX12_laysAnswers_78 : decode cX12_laysAnswers 78 = .ok (.iconst 5, 1) := by decide +kernel
theorem dX12_laysAnswers_79 : decode cX12_laysAnswers 79 = .ok (.invokevirtual 343, 3) := by decide +kernel
theorem dX12_laysAnswers_82 : decode cX12_laysAnswers 82 = .ok (.iload_n 3, 1) := by decide +kernel
theorem dX12_laysAnswers_83 : decode cX12_laysAnswers 83 = .ok (.ishr, 1) := by decide +kernel
theorem dX12_laysAnswers_84 : decode cX12_laysAnswers 84 = .ok (.iconst 1, 1) := by decide +kernel
theorem dX12_laysAnswers_85 : decode cX12_laysAnswers 85 = .ok (.iand, 1) := by decide +kernel
theorem dX12_laysAnswers_86 : decode cX12_laysAnswers 86 = .ok (.iconst 1, 1) := by decide +kernel
theorem dX12_laysAnswers_87 : decode cX12_laysAnswers 87 = .ok (.if_icmp .ne 7, 3) := by decide +kernel
theorem dX12_laysAnswers_90 : decode cX12_laysAnswers 90 = .ok (.iconst 1, 1) := by decide +kernel
theorem dX12_laysAnswers_91 : decode cX12_laysAnswers 91 = .ok (.goto 4, 3) := by decide +kernel
theorem dX12_laysAnswers_94 : decode cX12_laysAnswers 94 = .ok (.iconst 0, 1) := by decide +kernel
theorem dX12_laysAnswers_95 : decode cX12_laysAnswers 95 = .ok (.istore 6, 2) := by decide +kernel
theorem dX12_laysAnswers_97 : decode cX12_laysAnswers 97 = .ok (.aload_n 0, 1) := by decide +kernel
theorem dX12_laysAnswers_98 : decode cX12_laysAnswers 98 = .ok (.getfield 60, 3) := by decide +kernel
theorem dX12_laysAnswers_101 : decode cX12_laysAnswers 101 = .ok (.iload 4, 2) := by decide +kernel
theorem dX12_laysAnswers_103 : decode cX12_laysAnswers 103 = .ok (.iconst 2, 1) := by decide +kernel
theorem dX12_laysAnswers_104 : decode cX12_laysAnswers 104 = .ok (.iadd, 1) := by decide +kernel
theorem dX12_laysAnswers_105 : decode cX12_laysAnswers 105 = .ok (.aload_n 0, 1) := by decide +kernel
theorem dX12_laysAnswers_106 : decode cX12_laysAnswers 106 = .ok (.iload_n 3, 1) := by decide +kernel
theorem dX12_laysAnswers_107 : decode cX12_laysAnswers 107 = .ok (.invokevirtual 362, 3) := by decide +kernel
theorem dX12_laysAnswers_110 : decode cX12_laysAnswers 110 = .ok (.iastore, 1) := by decide +kernel
theorem dX12_laysAnswers_111 : decode cX12_laysAnswers 111 = .ok (.aload_n 0, 1) := by decide +kernel
theorem dX12_laysAnswers_112 : decode cX12_laysAnswers 112 = .ok (.getfield 60, 3) := by decide +kernel
theorem dX12_laysAnswers_115 : decode cX12_laysAnswers 115 = .ok (.iload 4, 2) := by decide +kernel
theorem dX12_laysAnswers_117 : decode cX12_laysAnswers 117 = .ok (.iload 6, 2) := by decide +kernel
theorem dX12_laysAnswers_119 : decode cX12_laysAnswers 119 = .ok (.ifCond .eq 15, 3) := by decide +kernel
theorem dX12_laysAnswers_122 : decode cX12_laysAnswers 122 = .ok (.aload_n 0, 1) := by decide +kernel
theorem dX12_laysAnswers_123 : decode cX12_laysAnswers 123 = .ok (.getfield 60, 3) := by decide +kernel
theorem dX12_laysAnswers_126 : decode cX12_laysAnswers 126 = .ok (.iload 4, 2) := by decide +kernel
theorem dX12_laysAnswers_128 : decode cX12_laysAnswers 128 = .ok (.iconst 2, 1) := by decide +kernel
theorem dX12_laysAnswers_129 : decode cX12_laysAnswers 129 = .ok (.iadd, 1) := by decide +kernel
theorem dX12_laysAnswers_130 : decode cX12_laysAnswers 130 = .ok (.iaload, 1) := by decide +kernel
theorem dX12_laysAnswers_131 : decode cX12_laysAnswers 131 = .ok (.goto 5, 3) := by decide +kernel
theorem dX12_laysAnswers_134 : decode cX12_laysAnswers 134 = .ok (.iload 5, 2) := by decide +kernel
theorem dX12_laysAnswers_136 : decode cX12_laysAnswers 136 = .ok (.iastore, 1) := by decide +kernel
theorem dX12_laysAnswers_137 : decode cX12_laysAnswers 137 = .ok (.aload_n 0, 1) := by decide +kernel
theorem dX12_laysAnswers_138 : decode cX12_laysAnswers 138 = .ok (.getfield 60, 3) := by decide +kernel
theorem dX12_laysAnswers_141 : decode cX12_laysAnswers 141 = .ok (.iload 4, 2) := by decide +kernel
theorem dX12_laysAnswers_143 : decode cX12_laysAnswers 143 = .ok (.iconst 1, 1) := by decide +kernel
theorem dX12_laysAnswers_144 : decode cX12_laysAnswers 144 = .ok (.iadd, 1) := by decide +kernel
theorem dX12_laysAnswers_145 : decode cX12_laysAnswers 145 = .ok (.iload 6, 2) := by decide +kernel
theorem dX12_laysAnswers_147 : decode cX12_laysAnswers 147 = .ok (.ifCond .eq 15, 3) := by decide +kernel
theorem dX12_laysAnswers_150 : decode cX12_laysAnswers 150 = .ok (.aload_n 0, 1) := by decide +kernel
theorem dX12_laysAnswers_151 : decode cX12_laysAnswers 151 = .ok (.getfield 60, 3) := by decide +kernel
theorem dX12_laysAnswers_154 : decode cX12_laysAnswers 154 = .ok (.iload 4, 2) := by decide +kernel
theorem dX12_laysAnswers_156 : decode cX12_laysAnswers 156 = .ok (.iconst 2, 1) := by decide +kernel
theorem dX12_laysAnswers_157 : decode cX12_laysAnswers 157 = .ok (.iadd, 1) := by decide +kernel
theorem dX12_laysAnswers_158 : decode cX12_laysAnswers 158 = .ok (.iaload, 1) := by decide +kernel
theorem dX12_laysAnswers_159 : decode cX12_laysAnswers 159 = .ok (.goto 21, 3) := by decide +kernel
theorem dX12_laysAnswers_162 : decode cX12_laysAnswers 162 = .ok (.iload 5, 2) := by decide +kernel
theorem dX12_laysAnswers_164 : decode cX12_laysAnswers 164 = .ok (.iconst 2, 1) := by decide +kernel
theorem dX12_laysAnswers_165 : decode cX12_laysAnswers 165 = .ok (.iload_n 3, 1) := by decide +kernel
theorem dX12_laysAnswers_166 : decode cX12_laysAnswers 166 = .ok (.imul, 1) := by decide +kernel
theorem dX12_laysAnswers_167 : decode cX12_laysAnswers 167 = .ok (.if_icmp .ne 9, 3) := by decide +kernel
theorem dX12_laysAnswers_170 : decode cX12_laysAnswers 170 = .ok (.iconst 2, 1) := by decide +kernel
theorem dX12_laysAnswers_171 : decode cX12_laysAnswers 171 = .ok (.iload_n 3, 1) := by decide +kernel
theorem dX12_laysAnswers_172 : decode cX12_laysAnswers 172 = .ok (.imul, 1) := by decide +kernel
theorem dX12_laysAnswers_173 : decode cX12_laysAnswers 173 = .ok (.goto 7, 3) := by decide +kernel
theorem dX12_laysAnswers_176 : decode cX12_laysAnswers 176 = .ok (.iload 5, 2) := by decide +kernel
theorem dX12_laysAnswers_178 : decode cX12_laysAnswers 178 = .ok (.iconst 1, 1) := by decide +kernel
theorem dX12_laysAnswers_179 : decode cX12_laysAnswers 179 = .ok (.ixor, 1) := by decide +kernel
theorem dX12_laysAnswers_180 : decode cX12_laysAnswers 180 = .ok (.iastore, 1) := by decide +kernel
theorem dX12_laysAnswers_181 : decode cX12_laysAnswers 181 = .ok (.aload_n 0, 1) := by decide +kernel
theorem dX12_laysAnswers_182 : decode cX12_laysAnswers 182 = .ok (.getfield 60, 3) := by decide +kernel
theorem dX12_laysAnswers_185 : decode cX12_laysAnswers 185 = .ok (.iload 4, 2) := by decide +kernel
theorem dX12_laysAnswers_187 : decode cX12_laysAnswers 187 = .ok (.iconst 3, 1) := by decide +kernel
theorem dX12_laysAnswers_188 : decode cX12_laysAnswers 188 = .ok (.iadd, 1) := by decide +kernel
theorem dX12_laysAnswers_189 : decode cX12_laysAnswers 189 = .ok (.iconst 2, 1) := by decide +kernel
theorem dX12_laysAnswers_190 : decode cX12_laysAnswers 190 = .ok (.iload_n 3, 1) := by decide +kernel
theorem dX12_laysAnswers_191 : decode cX12_laysAnswers 191 = .ok (.imul, 1) := by decide +kernel
theorem dX12_laysAnswers_192 : decode cX12_laysAnswers 192 = .ok (.iastore, 1) := by decide +kernel
theorem dX12_laysAnswers_193 : decode cX12_laysAnswers 193 = .ok (.iinc 3 1, 3) := by decide +kernel
theorem dX12_laysAnswers_196 : decode cX12_laysAnswers 196 = .ok (.goto (-153), 3) := by decide +kernel
theorem dX12_laysAnswers_199 : decode cX12_laysAnswers 199 = .ok (.iinc 2 1, 3) := by decide +kernel
theorem dX12_laysAnswers_202 : decode cX12_laysAnswers 202 = .ok (.goto (-188), 3) := by decide +kernel
theorem dX12_laysAnswers_205 : decode cX12_laysAnswers 205 = .ok (.iinc 1 1, 3) := by decide +kernel
theorem dX12_laysAnswers_208 : decode cX12_laysAnswers 208 = .ok (.goto (-206), 3) := by decide +kernel
theorem dX12_laysAnswers_211 : decode cX12_laysAnswers 211 = .ok (.return_, 1) := by decide +kernel
theorem dX12_answer_0 : decode cX12_answer 0 = .ok (.aload_n 0, 1) := by decide +kernel
theorem dX12_answer_1 : decode cX12_answer 1 = .ok (.iload_n 1, 1) := by decide +kernel
theorem dX12_answer_2 : decode cX12_answer 2 = .ok (.invokevirtual 340, 3) := by decide +kernel
theorem dX12_answer_5 : decode cX12_answer 5 = .ok (.ifCond .eq 27, 3) := by decide +kernel
theorem dX12_answer_8 : decode cX12_answer 8 = .ok (.aload_n 0, 1) := by decide +kernel
theorem dX12_answer_9 : decode cX12_answer 9 = .ok (.iload_n 2, 1) := by decide +kernel
theorem dX12_answer_10 : decode cX12_answer 10 = .ok (.invokevirtual 334, 3) := by decide +kernel
theorem dX12_answer_13 : decode cX12_answer 13 = .ok (.ifCond .eq 19, 3) := by decide +kernel
theorem dX12_answer_16 : decode cX12_answer 16 = .ok (.aload_n 0, 1) := by decide +kernel
theorem dX12_answer_17 : decode cX12_answer 17 = .ok (.iload_n 3, 1) := by decide +kernel
theorem dX12_answer_18 : decode cX12_answer 18 = .ok (.invokevirtual 328, 3) := by decide +kernel
theorem dX12_answer_21 : decode cX12_answer 21 = .ok (.ifCond .eq 11, 3) := by decide +kernel
theorem dX12_answer_24 : decode cX12_answer 24 = .ok (.iload 4, 2) := by decide +kernel
theorem dX12_answer_26 : decode cX12_answer 26 = .ok (.invokestatic 365, 3) := by decide +kernel
theorem dX12_answer_29 : decode cX12_answer 29 = .ok (.ifCond .ne 9, 3) := by decide +kernel
theorem dX12_answer_32 : decode cX12_answer 32 = .ok (.aload_n 0, 1) := by decide +kernel
theorem dX12_answer_33 : decode cX12_answer 33 = .ok (.iconst 1, 1) := by decide +kernel
theorem dX12_answer_34 : decode cX12_answer 34 = .ok (.invokevirtual 197, 3) := by decide +kernel
theorem dX12_answer_37 : decode cX12_answer 37 = .ok (.ireturn, 1) := by decide +kernel
theorem dX12_answer_38 : decode cX12_answer 38 = .ok (.aload_n 0, 1) := by decide +kernel
theorem dX12_answer_39 : decode cX12_answer 39 = .ok (.iload_n 3, 1) := by decide +kernel
theorem dX12_answer_40 : decode cX12_answer 40 = .ok (.invokevirtual 331, 3) := by decide +kernel
theorem dX12_answer_43 : decode cX12_answer 43 = .ok (.ifCond .eq 19, 3) := by decide +kernel
theorem dX12_answer_46 : decode cX12_answer 46 = .ok (.aload_n 0, 1) := by decide +kernel
theorem dX12_answer_47 : decode cX12_answer 47 = .ok (.aload_n 0, 1) := by decide +kernel
theorem dX12_answer_48 : decode cX12_answer 48 = .ok (.iload_n 1, 1) := by decide +kernel
theorem dX12_answer_49 : decode cX12_answer 49 = .ok (.iload_n 2, 1) := by decide +kernel
theorem dX12_answer_50 : decode cX12_answer 50 = .ok (.iload_n 3, 1) := by decide +kernel
theorem dX12_answer_51 : decode cX12_answer 51 = .ok (.iload 4, 2) := by decide +kernel
theorem dX12_answer_53 : decode cX12_answer 53 = .ok (.invokevirtual 368, 3) := by decide +kernel
theorem dX12_answer_56 : decode cX12_answer 56 = .ok (.invokevirtual 200, 3) := by decide +kernel
theorem dX12_answer_59 : decode cX12_answer 59 = .ok (.goto 9, 3) := by decide +kernel
theorem dX12_answer_62 : decode cX12_answer 62 = .ok (.aload_n 0, 1) := by decide +kernel
theorem dX12_answer_63 : decode cX12_answer 63 = .ok (.bipush 7, 2) := by decide +kernel
theorem dX12_answer_65 : decode cX12_answer 65 = .ok (.invokevirtual 197, 3) := by decide +kernel
theorem dX12_answer_68 : decode cX12_answer 68 = .ok (.ireturn, 1) := by decide +kernel
theorem dX12_mayBe_0 : decode cX12_mayBe 0 = .ok (.iconst 0, 1) := by decide +kernel
theorem dX12_mayBe_1 : decode cX12_mayBe 1 = .ok (.istore_n 2, 1) := by decide +kernel
theorem dX12_mayBe_2 : decode cX12_mayBe 2 = .ok (.iconst 0, 1) := by decide +kernel
theorem dX12_mayBe_3 : decode cX12_mayBe 3 = .ok (.istore_n 3, 1) := by decide +kernel
theorem dX12_mayBe_4 : decode cX12_mayBe 4 = .ok (.iload_n 3, 1) := by decide +kernel
theorem dX12_mayBe_5 : decode cX12_mayBe 5 = .ok (.iconst 4, 1) := by decide +kernel
theorem dX12_mayBe_6 : decode cX12_mayBe 6 = .ok (.if_icmp .ge 28, 3) := by decide +kernel
theorem dX12_mayBe_9 : decode cX12_mayBe 9 = .ok (.iload_n 2, 1) := by decide +kernel
theorem dX12_mayBe_10 : decode cX12_mayBe 10 = .ok (.aload_n 0, 1) := by decide +kernel
theorem dX12_mayBe_11 : decode cX12_mayBe 11 = .ok (.iload_n 1, 1) := by decide +kernel
theorem dX12_mayBe_12 : decode cX12_mayBe 12 = .ok (.iload_n 3, 1) := by decide +kernel
theorem dX12_mayBe_13 : decode cX12_mayBe 13 = .ok (.invokevirtual 343, 3) := by decide +kernel
theorem dX12_mayBe_16 : decode cX12_mayBe 16 = .ok (.ifCond .le 9, 3) := by decide +kernel
theorem dX12_mayBe_19 : decode cX12_mayBe 19 = .ok (.iconst 1, 1) := by decide +kernel
theorem dX12_mayBe_20 : decode cX12_mayBe 20 = .ok (.iload_n 3, 1) := by decide +kernel
theorem dX12_mayBe_21 : decode cX12_mayBe 21 = .ok (.ishl, 1) := by decide +kernel
theorem dX12_mayBe_22 : decode cX12_mayBe 22 = .ok (.goto 4, 3) := by decide +kernel
theorem dX12_mayBe_25 : decode cX12_mayBe 25 = .ok (.iconst 0, 1) := by decide +kernel
theorem dX12_mayBe_26 : decode cX12_mayBe 26 = .ok (.ior, 1) := by decide +kernel
theorem dX12_mayBe_27 : decode cX12_mayBe 27 = .ok (.istore_n 2, 1) := by decide +kernel
theorem dX12_mayBe_28 : decode cX12_mayBe 28 = .ok (.iinc 3 1, 3) := by decide +kernel
theorem dX12_mayBe_31 : decode cX12_mayBe 31 = .ok (.goto (-27), 3) := by decide +kernel
theorem dX12_mayBe_34 : decode cX12_mayBe 34 = .ok (.iload_n 2, 1) := by decide +kernel
theorem dX12_mayBe_35 : decode cX12_mayBe 35 = .ok (.ireturn, 1) := by decide +kernel
theorem dX12_kindsFor_0 : decode cX12_kindsFor 0 = .ok (.iconst 0, 1) := by decide +kernel
theorem dX12_kindsFor_1 : decode cX12_kindsFor 1 = .ok (.istore 5, 2) := by decide +kernel
theorem dX12_kindsFor_3 : decode cX12_kindsFor 3 = .ok (.iconst 0, 1) := by decide +kernel
theorem dX12_kindsFor_4 : decode cX12_kindsFor 4 = .ok (.istore 6, 2) := by decide +kernel
theorem dX12_kindsFor_6 : decode cX12_kindsFor 6 = .ok (.iload 6, 2) := by decide +kernel
theorem dX12_kindsFor_8 : decode cX12_kindsFor 8 = .ok (.iconst 4, 1) := by decide +kernel
theorem dX12_kindsFor_9 : decode cX12_kindsFor 9 = .ok (.if_icmp .ge 36, 3) := by decide +kernel
theorem dX12_kindsFor_12 : decode cX12_kindsFor 12 = .ok (.iload 5, 2) := by decide +kernel
theorem dX12_kindsFor_14 : decode cX12_kindsFor 14 = .ok (.aload_n 0, 1) := by decide +kernel
theorem dX12_kindsFor_15 : decode cX12_kindsFor 15 = .ok (.iload_n 1, 1) := by decide +kernel
theorem dX12_kindsFor_16 : decode cX12_kindsFor 16 = .ok (.iload_n 2, 1) := by decide +kernel
theorem dX12_kindsFor_17 : decode cX12_kindsFor 17 = .ok (.iload_n 3, 1) := by decide +kernel
theorem dX12_kindsFor_18 : decode cX12_kindsFor 18 = .ok (.iload 6, 2) := by decide +kernel
theorem dX12_kindsFor_20 : decode cX12_kindsFor 20 = .ok (.invokevirtual 368, 3) := by decide +kernel
theorem dX12_kindsFor_23 : decode cX12_kindsFor 23 = .ok (.iload 4, 2) := by decide +kernel
theorem dX12_kindsFor_25 : decode cX12_kindsFor 25 = .ok (.if_icmp .ne 10, 3) := by decide +kernel
theorem dX12_kindsFor_28 : decode cX12_kindsFor 28 = .ok (.iconst 1, 1) := by decide +kernel
theorem dX12_kindsFor_29 : decode cX12_kindsFor 29 = .ok (.iload 6, 2) := by decide +kernel
theorem dX12_kindsFor_31 : decode cX12_kindsFor 31 = .ok (.ishl, 1) := by decide +kernel
theorem dX12_kindsFor_32 : decode cX12_kindsFor 32 = .ok (.goto 4, 3) := by decide +kernel
theorem dX12_kindsFor_35 : decode cX12_kindsFor 35 = .ok (.iconst 0, 1) := by decide +kernel
theorem dX12_kindsFor_36 : decode cX12_kindsFor 36 = .ok (.ior, 1) := by decide +kernel
theorem dX12_kindsFor_37 : decode cX12_kindsFor 37 = .ok (.istore 5, 2) := by decide +kernel
theorem dX12_kindsFor_39 : decode cX12_kindsFor 39 = .ok (.iinc 6 1, 3) := by decide +kernel
theorem dX12_kindsFor_42 : decode cX12_kindsFor 42 = .ok (.goto (-36), 3) := by decide +kernel
theorem dX12_kindsFor_45 : decode cX12_kindsFor 45 = .ok (.iload 5, 2) := by decide +kernel
theorem dX12_kindsFor_47 : decode cX12_kindsFor 47 = .ok (.ireturn, 1) := by decide +kernel
theorem dX12_fitsBy_0 : decode cX12_fitsBy 0 = .ok (.iconst 0, 1) := by decide +kernel
theorem dX12_fitsBy_1 : decode cX12_fitsBy 1 = .ok (.istore_n 2, 1) := by decide +kernel
theorem dX12_fitsBy_2 : decode cX12_fitsBy 2 = .ok (.iload_n 2, 1) := by decide +kernel
theorem dX12_fitsBy_3 : decode cX12_fitsBy 3 = .ok (.aload_n 0, 1) := by decide +kernel
theorem dX12_fitsBy_4 : decode cX12_fitsBy 4 = .ok (.getfield 7, 3) := by decide +kernel
theorem dX12_fitsBy_7 : decode cX12_fitsBy 7 = .ok (.iconst 4, 1) := by decide +kernel
theorem dX12_fitsBy_8 : decode cX12_fitsBy 8 = .ok (.iaload, 1) := by decide +kernel
theorem dX12_fitsBy_9 : decode cX12_fitsBy 9 = .ok (.if_icmp .ge 132, 3) := by decide +kernel
theorem dX12_fitsBy_12 : decode cX12_fitsBy 12 = .ok (.iconst 0, 1) := by decide +kernel
theorem dX12_fitsBy_13 : decode cX12_fitsBy 13 = .ok (.istore_n 3, 1) := by decide +kernel
theorem dX12_fitsBy_14 : decode cX12_fitsBy 14 = .ok (.iload_n 3, 1) := by decide +kernel
theorem dX12_fitsBy_15 : decode cX12_fitsBy 15 = .ok (.aload_n 0, 1) := by decide +kernel
theorem dX12_fitsBy_16 : decode cX12_fitsBy 16 = .ok (.getfield 7, 3) := by decide +kernel
theorem dX12_fitsBy_19 : decode cX12_fitsBy 19 = .ok (.iconst 2, 1) := by decide +kernel
theorem dX12_fitsBy_20 : decode cX12_fitsBy 20 = .ok (.iaload, 1) := by decide +kernel
theorem dX12_fitsBy_21 : decode cX12_fitsBy 21 = .ok (.if_icmp .ge 114, 3) := by decide +kernel
theorem dX12_fitsBy_24 : decode cX12_fitsBy 24 = .ok (.aload_n 0, 1) := by decide +kernel
theorem dX12_fitsBy_25 : decode cX12_fitsBy 25 = .ok (.iload_n 3, 1) := by decide +kernel
theorem dX12_fitsBy_26 : decode cX12_fitsBy 26 = .ok (.invokevirtual 331, 3) := by decide +kernel
theorem dX12_fitsBy_29 : decode cX12_fitsBy 29 = .ok (.ifCond .eq 11, 3) := by decide +kernel
theorem dX12_fitsBy_32 : decode cX12_fitsBy 32 = .ok (.aload_n 0, 1) := by decide +kernel
theorem dX12_fitsBy_33 : decode cX12_fitsBy 33 = .ok (.iload_n 2, 1) := by decide +kernel
theorem dX12_fitsBy_34 : decode cX12_fitsBy 34 = .ok (.invokevirtual 372, 3) := by decide +kernel
theorem dX12_fitsBy_37 : decode cX12_fitsBy 37 = .ok (.goto 4, 3) := by decide +kernel
theorem dX12_fitsBy_40 : decode cX12_fitsBy 40 = .ok (.iconst 0, 1) := by decide +kernel
theorem dX12_fitsBy_41 : decode cX12_fitsBy 41 = .ok (.istore 4, 2) := by decide +kernel
theorem dX12_fitsBy_43 : decode cX12_fitsBy 43 = .ok (.iconst 0, 1) := by decide +kernel
theorem dX12_fitsBy_44 : decode cX12_fitsBy 44 = .ok (.istore 5, 2) := by decide +kernel
theorem dX12_fitsBy_46 : decode cX12_fitsBy 46 = .ok (.iload 5, 2) := by decide +kernel
theorem dX12_fitsBy_48 : decode cX12_fitsBy 48 = .ok (.aload_n 0, 1) := by decide +kernel
theorem dX12_fitsBy_49 : decode cX12_fitsBy 49 = .ok (.getfield 7, 3) := by decide +kernel
theorem dX12_fitsBy_52 : decode cX12_fitsBy 52 = .ok (.bipush 6, 2) := by decide +kernel
theorem dX12_fitsBy_54 : decode cX12_fitsBy 54 = .ok (.iaload, 1) := by decide +kernel
theorem dX12_fitsBy_55 : decode cX12_fitsBy 55 = .ok (.if_icmp .ge 60, 3) := by decide +kernel
theorem dX12_fitsBy_58 : decode cX12_fitsBy 58 = .ok (.iload 4, 2) := by decide +kernel
theorem dX12_fitsBy_60 : decode cX12_fitsBy 60 = .ok (.ifCond .eq 55, 3) := by decide +kernel
theorem dX12_fitsBy_63 : decode cX12_fitsBy 63 = .ok (.iload_n 1, 1) := by decide +kernel
theorem dX12_fitsBy_64 : decode cX12_fitsBy 64 = .ok (.iload 5, 2) := by decide +kernel
theorem dX12_fitsBy_66 : decode cX12_fitsBy 66 = .ok (.ishr, 1) := by decide +kernel
theorem dX12_fitsBy_67 : decode cX12_fitsBy 67 = .ok (.iconst 1, 1) := by decide +kernel
theorem dX12_fitsBy_68 : decode cX12_fitsBy 68 = .ok (.iand, 1) := by decide +kernel
theorem dX12_fitsBy_69 : decode cX12_fitsBy 69 = .ok (.iconst 1, 1) := by decide +kernel
theorem dX12_fitsBy_70 : decode cX12_fitsBy 70 = .ok (.if_icmp .ne 39, 3) := by decide +kernel
theorem dX12_fitsBy_73 : decode cX12_fitsBy 73 = .ok (.aload_n 0, 1) := by decide +kernel
theorem dX12_fitsBy_74 : decode cX12_fitsBy 74 = .ok (.iload 5, 2) := by decide +kernel
theorem dX12_fitsBy_76 : decode cX12_fitsBy 76 = .ok (.iconst 0, 1) := by decide +kernel
theorem dX12_fitsBy_77 : decode cX12_fitsBy 77 = .ok (.invokevirtual 322, 3) := by decide +kernel
theorem dX12_fitsBy_80 : decode cX12_fitsBy 80 = .ok (.iload_n 2, 1) := by decide +kernel
theorem dX12_fitsBy_81 : decode cX12_fitsBy 81 = .ok (.if_icmp .ne 28, 3) := by decide +kernel
theorem dX12_fitsBy_84 : decode cX12_fitsBy 84 = .ok (.iload 4, 2) := by decide +kernel
theorem dX12_fitsBy_86 : decode cX12_fitsBy 86 = .ok (.aload_n 0, 1) := by decide +kernel
theorem dX12_fitsBy_87 : decode cX12_fitsBy 87 = .ok (.iload_n 2, 1) := by decide +kernel
theorem dX12_fitsBy_88 : decode cX12_fitsBy 88 = .ok (.aload_n 0, 1) := by decide +kernel
theorem dX12_fitsBy_89 : decode cX12_fitsBy 89 = .ok (.iload 5, 2) := by decide +kernel
theorem dX12_fitsBy_91 : decode cX12_fitsBy 91 = .ok (.iconst 1, 1) := by decide +kernel
theorem dX12_fitsBy_92 : decode cX12_fitsBy 92 = .ok (.invokevirtual 322, 3) := by decide +kernel
theorem dX12_fitsBy_95 : decode cX12_fitsBy 95 = .ok (.iload_n 3, 1) := by decide +kernel
theorem dX12_fitsBy_96 : decode cX12_fitsBy 96 = .ok (.aload_n 0, 1) := by decide +kernel
theorem dX12_fitsBy_97 : decode cX12_fitsBy 97 = .ok (.iload 5, 2) := by decide +kernel
theorem dX12_fitsBy_99 : decode cX12_fitsBy 99 = .ok (.iconst 2, 1) := by decide +kernel
theorem dX12_fitsBy_100 : decode cX12_fitsBy 100 = .ok (.invokevirtual 322, 3) := by decide +kernel
theorem dX12_fitsBy_103 : decode cX12_fitsBy 103 = .ok (.invokevirtual 375, 3) := by decide +kernel
theorem dX12_fitsBy_106 : decode cX12_fitsBy 106 = .ok (.iand, 1) := by decide +kernel
theorem dX12_fitsBy_107 : decode cX12_fitsBy 107 = .ok (.istore 4, 2) := by decide +kernel
theorem dX12_fitsBy_109 : decode cX12_fitsBy 109 = .ok (.iinc 5 1, 3) := by decide +kernel
theorem dX12_fitsBy_112 : decode cX12_fitsBy 112 = .ok (.goto (-66), 3) := by decide +kernel
theorem dX12_fitsBy_115 : decode cX12_fitsBy 115 = .ok (.aload_n 0, 1) := by decide +kernel
theorem dX12_fitsBy_116 : decode cX12_fitsBy 116 = .ok (.getfield 69, 3) := by decide +kernel
theorem dX12_fitsBy_119 : decode cX12_fitsBy 119 = .ok (.sipush 256, 3) := by decide +kernel
theorem dX12_fitsBy_122 : decode cX12_fitsBy 122 = .ok (.iload_n 2, 1) := by decide +kernel
theorem dX12_fitsBy_123 : decode cX12_fitsBy 123 = .ok (.imul, 1) := by decide +kernel
theorem dX12_fitsBy_124 : decode cX12_fitsBy 124 = .ok (.iload_n 3, 1) := by decide +kernel
theorem dX12_fitsBy_125 : decode cX12_fitsBy 125 = .ok (.iadd, 1) := by decide +kernel
theorem dX12_fitsBy_126 : decode cX12_fitsBy 126 = .ok (.iload 4, 2) := by decide +kernel
theorem dX12_fitsBy_128 : decode cX12_fitsBy 128 = .ok (.iastore, 1) := by decide +kernel
theorem dX12_fitsBy_129 : decode cX12_fitsBy 129 = .ok (.iinc 3 1, 3) := by decide +kernel
theorem dX12_fitsBy_132 : decode cX12_fitsBy 132 = .ok (.goto (-118), 3) := by decide +kernel
theorem dX12_fitsBy_135 : decode cX12_fitsBy 135 = .ok (.iinc 2 1, 3) := by decide +kernel
theorem dX12_fitsBy_138 : decode cX12_fitsBy 138 = .ok (.goto (-136), 3) := by decide +kernel
theorem dX12_fitsBy_141 : decode cX12_fitsBy 141 = .ok (.iconst 0, 1) := by decide +kernel
theorem dX12_fitsBy_142 : decode cX12_fitsBy 142 = .ok (.istore_n 2, 1) := by decide +kernel
theorem dX12_fitsBy_143 : decode cX12_fitsBy 143 = .ok (.iload_n 2, 1) := by decide +kernel
theorem dX12_fitsBy_144 : decode cX12_fitsBy 144 = .ok (.bipush 12, 2) := by decide +kernel
theorem dX12_fitsBy_146 : decode cX12_fitsBy 146 = .ok (.if_icmp .ge 16, 3) := by decide +kernel
theorem dX12_fitsBy_149 : decode cX12_fitsBy 149 = .ok (.aload_n 0, 1) := by decide +kernel
theorem dX12_fitsBy_150 : decode cX12_fitsBy 150 = .ok (.getfield 72, 3) := by decide +kernel
theorem dX12_fitsBy_153 : decode cX12_fitsBy 153 = .ok (.iload_n 2, 1) := by decide +kernel
theorem dX12_fitsBy_154 : decode cX12_fitsBy 154 = .ok (.iconst 0, 1) := by decide +kernel
theorem dX12_fitsBy_155 : decode cX12_fitsBy 155 = .ok (.bastore, 1) := by decide +kernel
theorem dX12_fitsBy_156 : decode cX12_fitsBy 156 = .ok (.iinc 2 1, 3) := by decide +kernel
theorem dX12_fitsBy_159 : decode cX12_fitsBy 159 = .ok (.goto (-16), 3) := by decide +kernel
theorem dX12_fitsBy_162 : decode cX12_fitsBy 162 = .ok (.iconst 0, 1) := by decide +kernel
theorem dX12_fitsBy_163 : decode cX12_fitsBy 163 = .ok (.istore_n 2, 1) := by decide +kernel
theorem dX12_fitsBy_164 : decode cX12_fitsBy 164 = .ok (.iload_n 2, 1) := by decide +kernel
theorem dX12_fitsBy_165 : decode cX12_fitsBy 165 = .ok (.aload_n 0, 1) := by decide +kernel
theorem dX12_fitsBy_166 : decode cX12_fitsBy 166 = .ok (.getfield 7, 3) := by decide +kernel
theorem dX12_fitsBy_169 : decode cX12_fitsBy 169 = .ok (.bipush 6, 2) := by decide +kernel
theorem dX12_fitsBy_171 : decode cX12_fitsBy 171 = .ok (.iaload, 1) := by decide +kernel
theorem dX12_fitsBy_172 : decode cX12_fitsBy 172 = .ok (.if_icmp .ge 21, 3) := by decide +kernel
theorem dX12_fitsBy_175 : decode cX12_fitsBy 175 = .ok (.aload_n 0, 1) := by decide +kernel
theorem dX12_fitsBy_176 : decode cX12_fitsBy 176 = .ok (.getfield 72, 3) := by decide +kernel
theorem dX12_fitsBy_179 : decode cX12_fitsBy 179 = .ok (.aload_n 0, 1) := by decide +kernel
theorem dX12_fitsBy_180 : decode cX12_fitsBy 180 = .ok (.iload_n 2, 1) := by decide +kernel
theorem dX12_fitsBy_181 : decode cX12_fitsBy 181 = .ok (.iconst 1, 1) := by decide +kernel
theorem dX12_fitsBy_182 : decode cX12_fitsBy 182 = .ok (.invokevirtual 322, 3) := by decide +kernel
theorem dX12_fitsBy_185 : decode cX12_fitsBy 185 = .ok (.iconst 1, 1) := by decide +kernel
theorem dX12_fitsBy_186 : decode cX12_fitsBy 186 = .ok (.bastore, 1) := by decide +kernel
theorem dX12_fitsBy_187 : decode cX12_fitsBy 187 = .ok (.iinc 2 1, 3) := by decide +kernel
theorem dX12_fitsBy_190 : decode cX12_fitsBy 190 = .ok (.goto (-26), 3) := by decide +kernel
theorem dX12_fitsBy_193 : decode cX12_fitsBy 193 = .ok (.return_, 1) := by decide +kernel
theorem dX12_fitsAll_0 : decode cX12_fitsAll 0 = .ok (.aload_n 0, 1) := by decide +kernel
theorem dX12_fitsAll_1 : decode cX12_fitsAll 1 = .ok (.iconst 1, 1) := by decide +kernel
theorem dX12_fitsAll_2 : decode cX12_fitsAll 2 = .ok (.aload_n 0, 1) := by decide +kernel
theorem dX12_fitsAll_3 : decode cX12_fitsAll 3 = .ok (.getfield 7, 3) := by decide +kernel
theorem dX12_fitsAll_6 : decode cX12_fitsAll 6 = .ok (.bipush 6, 2) := by decide +kernel
theorem dX12_fitsAll_8 : decode cX12_fitsAll 8 = .ok (.iaload, 1) := by decide +kernel
theorem dX12_fitsAll_9 : decode cX12_fitsAll 9 = .ok (.ishl, 1) := by decide +kernel
theorem dX12_fitsAll_10 : decode cX12_fitsAll 10 = .ok (.iconst 1, 1) := by decide +kernel
theorem dX12_fitsAll_11 : decode cX12_fitsAll 11 = .ok (.isub, 1) := by decide +kernel
theorem dX12_fitsAll_12 : decode cX12_fitsAll 12 = .ok (.invokevirtual 378, 3) := by decide +kernel
theorem dX12_fitsAll_15 : decode cX12_fitsAll 15 = .ok (.return_, 1) := by decide +kernel
theorem dX12_isLeftAt_0 : decode cX12_isLeftAt 0 = .ok (.aload_n 0, 1) := by decide +kernel
theorem dX12_isLeftAt_1 : decode cX12_isLeftAt 1 = .ok (.iload_n 2, 1) := by decide +kernel
theorem dX12_isLeftAt_2 : decode cX12_isLeftAt 2 = .ok (.invokevirtual 331, 3) := by decide +kernel
theorem dX12_isLeftAt_5 : decode cX12_isLeftAt 5 = .ok (.istore_n 3, 1) := by decide +kernel
theorem dX12_isLeftAt_6 : decode cX12_isLeftAt 6 = .ok (.iconst 0, 1) := by decide +kernel
theorem dX12_isLeftAt_7 : decode cX12_isLeftAt 7 = .ok (.istore 4, 2) := by decide +kernel
theorem dX12_isLeftAt_9 : decode cX12_isLeftAt 9 = .ok (.iload 4, 2) := by decide +kernel
theorem dX12_isLeftAt_11 : decode cX12_isLeftAt 11 = .ok (.aload_n 0, 1) := by decide +kernel
theorem dX12_isLeftAt_12 : decode cX12_isLeftAt 12 = .ok (.getfield 7, 3) := by decide +kernel
theorem dX12_isLeftAt_15 : decode cX12_isLeftAt 15 = .ok (.iconst 4, 1) := by decide +kernel
theorem dX12_isLeftAt_16 : decode cX12_isLeftAt 16 = .ok (.iaload, 1) := by decide +kernel
theorem dX12_isLeftAt_17 : decode cX12_isLeftAt 17 = .ok (.if_icmp .ge 41, 3) := by decide +kernel
theorem dX12_isLeftAt_20 : decode cX12_isLeftAt 20 = .ok (.iload_n 3, 1) := by decide +kernel
theorem dX12_isLeftAt_21 : decode cX12_isLeftAt 21 = .ok (.ifCond .eq 29, 3) := by decide +kernel
theorem dX12_isLeftAt_24 : decode cX12_isLeftAt 24 = .ok (.aload_n 0, 1) := by decide +kernel
theorem dX12_isLeftAt_25 : decode cX12_isLeftAt 25 = .ok (.getfield 69, 3) := by decide +kernel
theorem dX12_isLeftAt_28 : decode cX12_isLeftAt 28 = .ok (.sipush 1024, 3) := by decide +kernel
theorem dX12_isLeftAt_31 : decode cX12_isLeftAt 31 = .ok (.iload_n 1, 1) := by decide +kernel
theorem dX12_isLeftAt_32 : decode cX12_isLeftAt 32 = .ok (.imul, 1) := by decide +kernel
theorem dX12_isLeftAt_33 : decode cX12_isLeftAt 33 = .ok (.sipush 256, 3) := by decide +kernel
theorem dX12_isLeftAt_36 : decode cX12_isLeftAt 36 = .ok (.iload 4, 2) := by decide +kernel
theorem dX12_isLeftAt_38 : decode cX12_isLeftAt 38 = .ok (.imul, 1) := by decide +kernel
theorem dX12_isLeftAt_39 : decode cX12_isLeftAt 39 = .ok (.iadd, 1) := by decide +kernel
theorem dX12_isLeftAt_40 : decode cX12_isLeftAt 40 = .ok (.iload_n 2, 1) := by decide +kernel
theorem dX12_isLeftAt_41 : decode cX12_isLeftAt 41 = .ok (.iadd, 1) := by decide +kernel
theorem dX12_isLeftAt_42 : decode cX12_isLeftAt 42 = .ok (.iaload, 1) := by decide +kernel
theorem dX12_isLeftAt_43 : decode cX12_isLeftAt 43 = .ok (.ifCond .eq 7, 3) := by decide +kernel
theorem dX12_isLeftAt_46 : decode cX12_isLeftAt 46 = .ok (.iconst 1, 1) := by decide +kernel
theorem dX12_isLeftAt_47 : decode cX12_isLeftAt 47 = .ok (.goto 4, 3) := by decide +kernel
theorem dX12_isLeftAt_50 : decode cX12_isLeftAt 50 = .ok (.iconst 0, 1) := by decide +kernel
theorem dX12_isLeftAt_51 : decode cX12_isLeftAt 51 = .ok (.istore_n 3, 1) := by decide +kernel
theorem dX12_isLeftAt_52 : decode cX12_isLeftAt 52 = .ok (.iinc 4 1, 3) := by decide +kernel
theorem dX12_isLeftAt_55 : decode cX12_isLeftAt 55 = .ok (.goto (-46), 3) := by decide +kernel
theorem dX12_isLeftAt_58 : decode cX12_isLeftAt 58 = .ok (.iload_n 3, 1) := by decide +kernel
theorem dX12_isLeftAt_59 : decode cX12_isLeftAt 59 = .ok (.ireturn, 1) := by decide +kernel
theorem dX12_leftAt_0 : decode cX12_leftAt 0 = .ok (.iconst 0, 1) := by decide +kernel
theorem dX12_leftAt_1 : decode cX12_leftAt 1 = .ok (.istore_n 2, 1) := by decide +kernel
theorem dX12_leftAt_2 : decode cX12_leftAt 2 = .ok (.iconst 0, 1) := by decide +kernel
theorem dX12_leftAt_3 : decode cX12_leftAt 3 = .ok (.istore_n 3, 1) := by decide +kernel
theorem dX12_leftAt_4 : decode cX12_leftAt 4 = .ok (.iload_n 3, 1) := by decide +kernel
theorem dX12_leftAt_5 : decode cX12_leftAt 5 = .ok (.aload_n 0, 1) := by decide +kernel
theorem dX12_leftAt_6 : decode cX12_leftAt 6 = .ok (.getfield 7, 3) := by decide +kernel
theorem dX12_leftAt_9 : decode cX12_leftAt 9 = .ok (.iconst 2, 1) := by decide +kernel
theorem dX12_leftAt_10 : decode cX12_leftAt 10 = .ok (.iaload, 1) := by decide +kernel
theorem dX12_leftAt_11 : decode cX12_leftAt 11 = .ok (.if_icmp .ge 26, 3) := by decide +kernel
theorem dX12_leftAt_14 : decode cX12_leftAt 14 = .ok (.iload_n 2, 1) := by decide +kernel
theorem dX12_leftAt_15 : decode cX12_leftAt 15 = .ok (.aload_n 0, 1) := by decide +kernel
theorem dX12_leftAt_16 : decode cX12_leftAt 16 = .ok (.iload_n 1, 1) := by decide +kernel
theorem dX12_leftAt_17 : decode cX12_leftAt 17 = .ok (.iload_n 3, 1) := by decide +kernel
theorem dX12_leftAt_18 : decode cX12_leftAt 18 = .ok (.invokevirtual 381, 3) := by decide +kernel
theorem dX12_leftAt_21 : decode cX12_leftAt 21 = .ok (.ifCond .eq 7, 3) := by decide +kernel
theorem dX12_leftAt_24 : decode cX12_leftAt 24 = .ok (.iconst 1, 1) := by decide +kernel
theorem dX12_leftAt_25 : decode cX12_leftAt 25 = .ok (.goto 4, 3) := by decide +kernel
theorem dX12_leftAt_28 : decode cX12_leftAt 28 = .ok (.iconst 0, 1) := by decide +kernel
theorem dX12_leftAt_29 : decode cX12_leftAt 29 = .ok (.iadd, 1) := by decide +kernel
theorem dX12_leftAt_30 : decode cX12_leftAt 30 = .ok (.istore_n 2, 1) := by decide +kernel
theorem dX12_leftAt_31 : decode cX12_leftAt 31 = .ok (.iinc 3 1, 3) := by decide +kernel
theorem dX12_leftAt_34 : decode cX12_leftAt 34 = .ok (.goto (-30), 3) := by decide +kernel
theorem dX12_leftAt_37 : decode cX12_leftAt 37 = .ok (.iload_n 2, 1) := by decide +kernel
theorem dX12_leftAt_38 : decode cX12_leftAt 38 = .ok (.ireturn, 1) := by decide +kernel
theorem dX12_sureAt_0 : decode cX12_sureAt 0 = .ok (.iconst 0, 1) := by decide +kernel
theorem dX12_sureAt_1 : decode cX12_sureAt 1 = .ok (.istore_n 3, 1) := by decide +kernel
theorem dX12_sureAt_2 : decode cX12_sureAt 2 = .ok (.iconst 0, 1) := by decide +kernel
theorem dX12_sureAt_3 : decode cX12_sureAt 3 = .ok (.istore 4, 2) := by decide +kernel
theorem dX12_sureAt_5 : decode cX12_sureAt 5 = .ok (.iconst 0, 1) := by decide +kernel
theorem dX12_sureAt_6 : decode cX12_sureAt 6 = .ok (.istore 5, 2) := by decide +kernel
theorem dX12_sureAt_8 : decode cX12_sureAt 8 = .ok (.iload 5, 2) := by decide +kernel
theorem dX12_sureAt_10 : decode cX12_sureAt 10 = .ok (.aload_n 0, 1) := by decide +kernel
theorem dX12_sureAt_11 : decode cX12_sureAt 11 = .ok (.getfield 7, 3) := by decide +kernel
theorem dX12_sureAt_14 : decode cX12_sureAt 14 = .ok (.iconst 2, 1) := by decide +kernel
theorem dX12_sureAt_15 : decode cX12_sureAt 15 = .ok (.iaload, 1) := by decide +kernel
theorem dX12_sureAt_16 : decode cX12_sureAt 16 = .ok (.if_icmp .ge 64, 3) := by decide +kernel
theorem dX12_sureAt_19 : decode cX12_sureAt 19 = .ok (.aload_n 0, 1) := by decide +kernel
theorem dX12_sureAt_20 : decode cX12_sureAt 20 = .ok (.iload_n 1, 1) := by decide +kernel
theorem dX12_sureAt_21 : decode cX12_sureAt 21 = .ok (.iload 5, 2) := by decide +kernel
theorem dX12_sureAt_23 : decode cX12_sureAt 23 = .ok (.invokevirtual 381, 3) := by decide +kernel
theorem dX12_sureAt_26 : decode cX12_sureAt 26 = .ok (.ifCond .ne 6, 3) := by decide +kernel
theorem dX12_sureAt_29 : decode cX12_sureAt 29 = .ok (.goto 45, 3) := by decide +kernel
theorem dX12_sureAt_32 : decode cX12_sureAt 32 = .ok (.iload_n 3, 1) := by decide +kernel
theorem dX12_sureAt_33 : decode cX12_sureAt 33 = .ok (.ifCond .ne 13, 3) := by decide +kernel
theorem dX12_sureAt_36 : decode cX12_sureAt 36 = .ok (.aload_n 0, 1) := by decide +kernel
theorem dX12_sureAt_37 : decode cX12_sureAt 37 = .ok (.iload_n 2, 1) := by decide +kernel
theorem dX12_sureAt_38 : decode cX12_sureAt 38 = .ok (.iload 5, 2) := by decide +kernel
theorem dX12_sureAt_40 : decode cX12_sureAt 40 = .ok (.invokevirtual 337, 3) := by decide +kernel
theorem dX12_sureAt_43 : decode cX12_sureAt 43 = .ok (.ifCond .eq 7, 3) := by decide +kernel
theorem dX12_sureAt_46 : decode cX12_sureAt 46 = .ok (.iconst 1, 1) := by decide +kernel
theorem dX12_sureAt_47 : decode cX12_sureAt 47 = .ok (.goto 4, 3) := by decide +kernel
theorem dX12_sureAt_50 : decode cX12_sureAt 50 = .ok (.iconst 0, 1) := by decide +kernel
theorem dX12_sureAt_51 : decode cX12_sureAt 51 = .ok (.istore_n 3, 1) := by decide +kernel
theorem dX12_sureAt_52 : decode cX12_sureAt 52 = .ok (.iload 4, 2) := by decide +kernel
theorem dX12_sureAt_54 : decode cX12_sureAt 54 = .ok (.ifCond .ne 13, 3) := by decide +kernel
theorem dX12_sureAt_57 : decode cX12_sureAt 57 = .ok (.aload_n 0, 1) := by decide +kernel
theorem dX12_sureAt_58 : decode cX12_sureAt 58 = .ok (.iload_n 2, 1) := by decide +kernel
theorem dX12_sureAt_59 : decode cX12_sureAt 59 = .ok (.iload 5, 2) := by decide +kernel
theorem dX12_sureAt_61 : decode cX12_sureAt 61 = .ok (.invokevirtual 337, 3) := by decide +kernel
theorem dX12_sureAt_64 : decode cX12_sureAt 64 = .ok (.ifCond .ne 7, 3) := by decide +kernel
theorem dX12_sureAt_67 : decode cX12_sureAt 67 = .ok (.iconst 1, 1) := by decide +kernel
theorem dX12_sureAt_68 : decode cX12_sureAt 68 = .ok (.goto 4, 3) := by decide +kernel
theorem dX12_sureAt_71 : decode cX12_sureAt 71 = .ok (.iconst 0, 1) := by decide +kernel
theorem dX12_sureAt_72 : decode cX12_sureAt 72 = .ok (.istore 4, 2) := by decide +kernel
theorem dX12_sureAt_74 : decode cX12_sureAt 74 = .ok (.iinc 5 1, 3) := by decide +kernel
theorem dX12_sureAt_77 : decode cX12_sureAt 77 = .ok (.goto (-69), 3) := by decide +kernel
theorem dX12_sureAt_80 : decode cX12_sureAt 80 = .ok (.iload_n 3, 1) := by decide +kernel
theorem dX12_sureAt_81 : decode cX12_sureAt 81 = .ok (.iload 4, 2) := by decide +kernel
theorem dX12_sureAt_83 : decode cX12_sureAt 83 = .ok (.if_icmp .ne 7, 3) := by decide +kernel
theorem dX12_sureAt_86 : decode cX12_sureAt 86 = .ok (.iconst (-1), 1) := by decide +kernel
theorem dX12_sureAt_87 : decode cX12_sureAt 87 = .ok (.goto 12, 3) := by decide +kernel
theorem dX12_sureAt_90 : decode cX12_sureAt 90 = .ok (.iload_n 3, 1) := by decide +kernel
theorem dX12_sureAt_91 : decode cX12_sureAt 91 = .ok (.ifCond .eq 7, 3) := by decide +kernel
theorem dX12_sureAt_94 : decode cX12_sureAt 94 = .ok (.iconst 1, 1) := by decide +kernel
theorem dX12_sureAt_95 : decode cX12_sureAt 95 = .ok (.goto 4, 3) := by decide +kernel
theorem dX12_sureAt_98 : decode cX12_sureAt 98 = .ok (.iconst 0, 1) := by decide +kernel
theorem dX12_sureAt_99 : decode cX12_sureAt 99 = .ok (.ireturn, 1) := by decide +kernel
theorem dX12_hear_0 : decode cX12_hear 0 = .ok (.aload_n 0, 1) := by decide +kernel
theorem dX12_hear_1 : decode cX12_hear 1 = .ok (.iload_n 1, 1) := by decide +kernel
theorem dX12_hear_2 : decode cX12_hear 2 = .ok (.invokevirtual 340, 3) := by decide +kernel
theorem dX12_hear_5 : decode cX12_hear 5 = .ok (.ifCond .eq 27, 3) := by decide +kernel
theorem dX12_hear_8 : decode cX12_hear 8 = .ok (.aload_n 0, 1) := by decide +kernel
theorem dX12_hear_9 : decode cX12_hear 9 = .ok (.iload_n 2, 1) := by decide +kernel
theorem dX12_hear_10 : decode cX12_hear 10 = .ok (.invokevirtual 334, 3) := by decide +kernel
theorem dX12_hear_13 : decode cX12_hear 13 = .ok (.ifCond .eq 19, 3) := by decide +kernel
theorem dX12_hear_16 : decode cX12_hear 16 = .ok (.iload_n 3, 1) := by decide +kernel
theorem dX12_hear_17 : decode cX12_hear 17 = .ok (.ifCond .lt 15, 3) := by decide +kernel
theorem dX12_hear_20 : decode cX12_hear 20 = .ok (.iload_n 3, 1) := by decide +kernel
theorem dX12_hear_21 : decode cX12_hear 21 = .ok (.iconst 2, 1) := by decide +kernel
theorem dX12_hear_22 : decode cX12_hear 22 = .ok (.aload_n 0, 1) := by decide +kernel
theorem dX12_hear_23 : decode cX12_hear 23 = .ok (.getfield 7, 3) := by decide +kernel
theorem dX12_hear_26 : decode cX12_hear 26 = .ok (.iconst 3, 1) := by decide +kernel
theorem dX12_hear_27 : decode cX12_hear 27 = .ok (.iaload, 1) := by decide +kernel
theorem dX12_hear_28 : decode cX12_hear 28 = .ok (.imul, 1) := by decide +kernel
theorem dX12_hear_29 : decode cX12_hear 29 = .ok (.if_icmp .lt 9, 3) := by decide +kernel
theorem dX12_hear_32 : decode cX12_hear 32 = .ok (.aload_n 0, 1) := by decide +kernel
theorem dX12_hear_33 : decode cX12_hear 33 = .ok (.iconst 1, 1) := by decide +kernel
theorem dX12_hear_34 : decode cX12_hear 34 = .ok (.invokevirtual 109, 3) := by decide +kernel
theorem dX12_hear_37 : decode cX12_hear 37 = .ok (.ireturn, 1) := by decide +kernel
theorem dX12_hear_38 : decode cX12_hear 38 = .ok (.aload_n 0, 1) := by decide +kernel
theorem dX12_hear_39 : decode cX12_hear 39 = .ok (.invokevirtual 325, 3) := by decide +kernel
theorem dX12_hear_42 : decode cX12_hear 42 = .ok (.bipush 9, 2) := by decide +kernel
theorem dX12_hear_44 : decode cX12_hear 44 = .ok (.if_icmp .ne 9, 3) := by decide +kernel
theorem dX12_hear_47 : decode cX12_hear 47 = .ok (.aload_n 0, 1) := by decide +kernel
theorem dX12_hear_48 : decode cX12_hear 48 = .ok (.iconst 4, 1) := by decide +kernel
theorem dX12_hear_49 : decode cX12_hear 49 = .ok (.invokevirtual 109, 3) := by decide +kernel
theorem dX12_hear_52 : decode cX12_hear 52 = .ok (.ireturn, 1) := by decide +kernel
theorem dX12_hear_53 : decode cX12_hear 53 = .ok (.iconst 0, 1) := by decide +kernel
theorem dX12_hear_54 : decode cX12_hear 54 = .ok (.istore 4, 2) := by decide +kernel
theorem dX12_hear_56 : decode cX12_hear 56 = .ok (.iload 4, 2) := by decide +kernel
theorem dX12_hear_58 : decode cX12_hear 58 = .ok (.aload_n 0, 1) := by decide +kernel
theorem dX12_hear_59 : decode cX12_hear 59 = .ok (.getfield 7, 3) := by decide +kernel
theorem dX12_hear_62 : decode cX12_hear 62 = .ok (.bipush 6, 2) := by decide +kernel
theorem dX12_hear_64 : decode cX12_hear 64 = .ok (.iaload, 1) := by decide +kernel
theorem dX12_hear_65 : decode cX12_hear 65 = .ok (.if_icmp .ge 27, 3) := by decide +kernel
theorem dX12_hear_68 : decode cX12_hear 68 = .ok (.aload_n 0, 1) := by decide +kernel
theorem dX12_hear_69 : decode cX12_hear 69 = .ok (.iload 4, 2) := by decide +kernel
theorem dX12_hear_71 : decode cX12_hear 71 = .ok (.iconst 1, 1) := by decide +kernel
theorem dX12_hear_72 : decode cX12_hear 72 = .ok (.invokevirtual 322, 3) := by decide +kernel
theorem dX12_hear_75 : decode cX12_hear 75 = .ok (.iload_n 2, 1) := by decide +kernel
theorem dX12_hear_76 : decode cX12_hear 76 = .ok (.if_icmp .ne 10, 3) := by decide +kernel
theorem dX12_hear_79 : decode cX12_hear 79 = .ok (.aload_n 0, 1) := by decide +kernel
theorem dX12_hear_80 : decode cX12_hear 80 = .ok (.bipush 7, 2) := by decide +kernel
theorem dX12_hear_82 : decode cX12_hear 82 = .ok (.invokevirtual 109, 3) := by decide +kernel
theorem dX12_hear_85 : decode cX12_hear 85 = .ok (.ireturn, 1) := by decide +kernel
theorem dX12_hear_86 : decode cX12_hear 86 = .ok (.iinc 4 1, 3) := by decide +kernel
theorem dX12_hear_89 : decode cX12_hear 89 = .ok (.goto (-33), 3) := by decide +kernel
theorem dX12_hear_92 : decode cX12_hear 92 = .ok (.aload_n 0, 1) := by decide +kernel
theorem dX12_hear_93 : decode cX12_hear 93 = .ok (.iload_n 1, 1) := by decide +kernel
theorem dX12_hear_94 : decode cX12_hear 94 = .ok (.iload_n 2, 1) := by decide +kernel
theorem dX12_hear_95 : decode cX12_hear 95 = .ok (.iload_n 3, 1) := by decide +kernel
theorem dX12_hear_96 : decode cX12_hear 96 = .ok (.invokevirtual 384, 3) := by decide +kernel
theorem dX12_hear_99 : decode cX12_hear 99 = .ok (.aload_n 0, 1) := by decide +kernel
theorem dX12_hear_100 : decode cX12_hear 100 = .ok (.iconst 0, 1) := by decide +kernel
theorem dX12_hear_101 : decode cX12_hear 101 = .ok (.invokevirtual 109, 3) := by decide +kernel
theorem dX12_hear_104 : decode cX12_hear 104 = .ok (.ireturn, 1) := by decide +kernel
theorem dX12_hears_0 : decode cX12_hears 0 = .ok (.bipush 100, 2) := by decide +kernel
theorem dX12_hears_2 : decode cX12_hears 2 = .ok (.iconst 4, 1) := by decide +kernel
theorem dX12_hears_3 : decode cX12_hears 3 = .ok (.aload_n 0, 1) := by decide +kernel
theorem dX12_hears_4 : decode cX12_hears 4 = .ok (.getfield 7, 3) := by decide +kernel
theorem dX12_hears_7 : decode cX12_hears 7 = .ok (.bipush 6, 2) := by decide +kernel
theorem dX12_hears_9 : decode cX12_hears 9 = .ok (.iaload, 1) := by decide +kernel
theorem dX12_hears_10 : decode cX12_hears 10 = .ok (.imul, 1) := by decide +kernel
theorem dX12_hears_11 : decode cX12_hears 11 = .ok (.iadd, 1) := by decide +kernel
theorem dX12_hears_12 : decode cX12_hears 12 = .ok (.istore 4, 2) := by decide +kernel
theorem dX12_hears_14 : decode cX12_hears 14 = .ok (.aload_n 0, 1) := by decide +kernel
theorem dX12_hears_15 : decode cX12_hears 15 = .ok (.getfield 7, 3) := by decide +kernel
theorem dX12_hears_18 : decode cX12_hears 18 = .ok (.iload 4, 2) := by decide +kernel
theorem dX12_hears_20 : decode cX12_hears 20 = .ok (.iload_n 1, 1) := by decide +kernel
theorem dX12_hears_21 : decode cX12_hears 21 = .ok (.iastore, 1) := by decide +kernel
theorem dX12_hears_22 : decode cX12_hears 22 = .ok (.aload_n 0, 1) := by decide +kernel
theorem dX12_hears_23 : decode cX12_hears 23 = .ok (.getfield 7, 3) := by decide +kernel
theorem dX12_hears_26 : decode cX12_hears 26 = .ok (.iload 4, 2) := by decide +kernel
theorem dX12_hears_28 : decode cX12_hears 28 = .ok (.iconst 1, 1) := by decide +kernel
theorem dX12_hears_29 : decode cX12_hears 29 = .ok (.iadd, 1) := by decide +kernel
theorem dX12_hears_30 : decode cX12_hears 30 = .ok (.iload_n 2, 1) := by decide +kernel
theorem dX12_hears_31 : decode cX12_hears 31 = .ok (.iastore, 1) := by decide +kernel
theorem dX12_hears_32 : decode cX12_hears 32 = .ok (.aload_n 0, 1) := by decide +kernel
theorem dX12_hears_33 : decode cX12_hears 33 = .ok (.getfield 7, 3) := by decide +kernel
theorem dX12_hears_36 : decode cX12_hears 36 = .ok (.iload 4, 2) := by decide +kernel
theorem dX12_hears_38 : decode cX12_hears 38 = .ok (.iconst 2, 1) := by decide +kernel
theorem dX12_hears_39 : decode cX12_hears 39 = .ok (.iadd, 1) := by decide +kernel
theorem dX12_hears_40 : decode cX12_hears 40 = .ok (.iload_n 3, 1) := by decide +kernel
theorem dX12_hears_41 : decode cX12_hears 41 = .ok (.iastore, 1) := by decide +kernel
theorem dX12_hears_42 : decode cX12_hears 42 = .ok (.aload_n 0, 1) := by decide +kernel
theorem dX12_hears_43 : decode cX12_hears 43 = .ok (.getfield 7, 3) := by decide +kernel
theorem dX12_hears_46 : decode cX12_hears 46 = .ok (.iload 4, 2) := by decide +kernel
theorem dX12_hears_48 : decode cX12_hears 48 = .ok (.iconst 3, 1) := by decide +kernel
theorem dX12_hears_49 : decode cX12_hears 49 = .ok (.iadd, 1) := by decide +kernel
theorem dX12_hears_50 : decode cX12_hears 50 = .ok (.aload_n 0, 1) := by decide +kernel
theorem dX12_hears_51 : decode cX12_hears 51 = .ok (.getfield 7, 3) := by decide +kernel
theorem dX12_hears_54 : decode cX12_hears 54 = .ok (.iconst 5, 1) := by decide +kernel
theorem dX12_hears_55 : decode cX12_hears 55 = .ok (.iaload, 1) := by decide +kernel
theorem dX12_hears_56 : decode cX12_hears 56 = .ok (.iastore, 1) := by decide +kernel
theorem dX12_hears_57 : decode cX12_hears 57 = .ok (.aload_n 0, 1) := by decide +kernel
theorem dX12_hears_58 : decode cX12_hears 58 = .ok (.getfield 7, 3) := by decide +kernel
theorem dX12_hears_61 : decode cX12_hears 61 = .ok (.bipush 6, 2) := by decide +kernel
theorem dX12_hears_63 : decode cX12_hears 63 = .ok (.dup2, 1) := by decide +kernel
theorem dX12_hears_64 : decode cX12_hears 64 = .ok (.iaload, 1) := by decide +kernel
theorem dX12_hears_65 : decode cX12_hears 65 = .ok (.iconst 1, 1) := by decide +kernel
theorem dX12_hears_66 : decode cX12_hears 66 = .ok (.iadd, 1) := by decide +kernel
theorem dX12_hears_67 : decode cX12_hears 67 = .ok (.iastore, 1) := by decide +kernel
theorem dX12_hears_68 : decode cX12_hears 68 = .ok (.return_, 1) := by decide +kernel
theorem dX12_unsay_0 : decode cX12_unsay 0 = .ok (.aload_n 0, 1) := by decide +kernel
theorem dX12_unsay_1 : decode cX12_unsay 1 = .ok (.getfield 7, 3) := by decide +kernel
theorem dX12_unsay_4 : decode cX12_unsay 4 = .ok (.bipush 6, 2) := by decide +kernel
theorem dX12_unsay_6 : decode cX12_unsay 6 = .ok (.iaload, 1) := by decide +kernel
theorem dX12_unsay_7 : decode cX12_unsay 7 = .ok (.ifCond .ne 10, 3) := by decide +kernel
theorem dX12_unsay_10 : decode cX12_unsay 10 = .ok (.aload_n 0, 1) := by decide +kernel
theorem dX12_unsay_11 : decode cX12_unsay 11 = .ok (.bipush 6, 2) := by decide +kernel
theorem dX12_unsay_13 : decode cX12_unsay 13 = .ok (.invokevirtual 197, 3) := by decide +kernel
theorem dX12_unsay_16 : decode cX12_unsay 16 = .ok (.ireturn, 1) := by decide +kernel
theorem dX12_unsay_17 : decode cX12_unsay 17 = .ok (.aload_n 0, 1) := by decide +kernel
theorem dX12_unsay_18 : decode cX12_unsay 18 = .ok (.getfield 7, 3) := by decide +kernel
theorem dX12_unsay_21 : decode cX12_unsay 21 = .ok (.bipush 6, 2) := by decide +kernel
theorem dX12_unsay_23 : decode cX12_unsay 23 = .ok (.dup2, 1) := by decide +kernel
theorem dX12_unsay_24 : decode cX12_unsay 24 = .ok (.iaload, 1) := by decide +kernel
theorem dX12_unsay_25 : decode cX12_unsay 25 = .ok (.iconst 1, 1) := by decide +kernel
theorem dX12_unsay_26 : decode cX12_unsay 26 = .ok (.isub, 1) := by decide +kernel
theorem dX12_unsay_27 : decode cX12_unsay 27 = .ok (.iastore, 1) := by decide +kernel
theorem dX12_unsay_28 : decode cX12_unsay 28 = .ok (.aload_n 0, 1) := by decide +kernel
theorem dX12_unsay_29 : decode cX12_unsay 29 = .ok (.aload_n 0, 1) := by decide +kernel
theorem dX12_unsay_30 : decode cX12_unsay 30 = .ok (.getfield 7, 3) := by decide +kernel
theorem dX12_unsay_33 : decode cX12_unsay 33 = .ok (.bipush 6, 2) := by decide +kernel
theorem dX12_unsay_35 : decode cX12_unsay 35 = .ok (.iaload, 1) := by decide +kernel
theorem dX12_unsay_36 : decode cX12_unsay 36 = .ok (.invokevirtual 200, 3) := by decide +kernel
theorem dX12_unsay_39 : decode cX12_unsay 39 = .ok (.ireturn, 1) := by decide +kernel
theorem dX12_nextDay_0 : decode cX12_nextDay 0 = .ok (.aload_n 0, 1) := by decide +kernel
theorem dX12_nextDay_1 : decode cX12_nextDay 1 = .ok (.getfield 7, 3) := by decide +kernel
theorem dX12_nextDay_4 : decode cX12_nextDay 4 = .ok (.iconst 5, 1) := by decide +kernel
theorem dX12_nextDay_5 : decode cX12_nextDay 5 = .ok (.iaload, 1) := by decide +kernel
theorem dX12_nextDay_6 : decode cX12_nextDay 6 = .ok (.bipush 99, 2) := by decide +kernel
theorem dX12_nextDay_8 : decode cX12_nextDay 8 = .ok (.if_icmp .ne 9, 3) := by decide +kernel
theorem dX12_nextDay_11 : decode cX12_nextDay 11 = .ok (.aload_n 0, 1) := by decide +kernel
theorem dX12_nextDay_12 : decode cX12_nextDay 12 = .ok (.iconst 4, 1) := by decide +kernel
theorem dX12_nextDay_13 : decode cX12_nextDay 13 = .ok (.invokevirtual 197, 3) := by decide +kernel
theorem dX12_nextDay_16 : decode cX12_nextDay 16 = .ok (.ireturn, 1) := by decide +kernel
theorem dX12_nextDay_17 : decode cX12_nextDay 17 = .ok (.aload_n 0, 1) := by decide +kernel
theorem dX12_nextDay_18 : decode cX12_nextDay 18 = .ok (.getfield 7, 3) := by decide +kernel
theorem dX12_nextDay_21 : decode cX12_nextDay 21 = .ok (.iconst 5, 1) := by decide +kernel
theorem dX12_nextDay_22 : decode cX12_nextDay 22 = .ok (.dup2, 1) := by decide +kernel
theorem dX12_nextDay_23 : decode cX12_nextDay 23 = .ok (.iaload, 1) := by decide +kernel
theorem dX12_nextDay_24 : decode cX12_nextDay 24 = .ok (.iconst 1, 1) := by decide +kernel
theorem dX12_nextDay_25 : decode cX12_nextDay 25 = .ok (.iadd, 1) := by decide +kernel
theorem dX12_nextDay_26 : decode cX12_nextDay 26 = .ok (.iastore, 1) := by decide +kernel
theorem dX12_nextDay_27 : decode cX12_nextDay 27 = .ok (.aload_n 0, 1) := by decide +kernel
theorem dX12_nextDay_28 : decode cX12_nextDay 28 = .ok (.aload_n 0, 1) := by decide +kernel
theorem dX12_nextDay_29 : decode cX12_nextDay 29 = .ok (.getfield 7, 3) := by decide +kernel
theorem dX12_nextDay_32 : decode cX12_nextDay 32 = .ok (.iconst 5, 1) := by decide +kernel
theorem dX12_nextDay_33 : decode cX12_nextDay 33 = .ok (.iaload, 1) := by decide +kernel
theorem dX12_nextDay_34 : decode cX12_nextDay 34 = .ok (.invokevirtual 200, 3) := by decide +kernel
theorem dX12_nextDay_37 : decode cX12_nextDay 37 = .ok (.ireturn, 1) := by decide +kernel
theorem dX12_heard_0 : decode cX12_heard 0 = .ok (.iload_n 2, 1) := by decide +kernel
theorem dX12_heard_1 : decode cX12_heard 1 = .ok (.ifCond .lt 8, 3) := by decide +kernel
theorem dX12_heard_4 : decode cX12_heard 4 = .ok (.iload_n 2, 1) := by decide +kernel
theorem dX12_heard_5 : decode cX12_heard 5 = .ok (.iconst 3, 1) := by decide +kernel
theorem dX12_heard_6 : decode cX12_heard 6 = .ok (.if_icmp .le 11, 3) := by decide +kernel
theorem dX12_heard_9 : decode cX12_heard 9 = .ok (.aload_n 0, 1) := by decide +kernel
theorem dX12_heard_10 : decode cX12_heard 10 = .ok (.iconst 1, 1) := by decide +kernel
theorem dX12_heard_11 : decode cX12_heard 11 = .ok (.invokevirtual 197, 3) := by decide +kernel
theorem dX12_heard_14 : decode cX12_heard 14 = .ok (.goto 37, 3) := by decide +kernel
theorem dX12_heard_17 : decode cX12_heard 17 = .ok (.iload_n 1, 1) := by decide +kernel
theorem dX12_heard_18 : decode cX12_heard 18 = .ok (.ifCond .lt 14, 3) := by decide +kernel
theorem dX12_heard_21 : decode cX12_heard 21 = .ok (.iload_n 1, 1) := by decide +kernel
theorem dX12_heard_22 : decode cX12_heard 22 = .ok (.aload_n 0, 1) := by decide +kernel
theorem dX12_heard_23 : decode cX12_heard 23 = .ok (.getfield 7, 3) := by decide +kernel
theorem dX12_heard_26 : decode cX12_heard 26 = .ok (.bipush 6, 2) := by decide +kernel
theorem dX12_heard_28 : decode cX12_heard 28 = .ok (.iaload, 1) := by decide +kernel
theorem dX12_heard_29 : decode cX12_heard 29 = .ok (.if_icmp .lt 12, 3) := by decide +kernel
theorem dX12_heard_32 : decode cX12_heard 32 = .ok (.aload_n 0, 1) := by decide +kernel
theorem dX12_heard_33 : decode cX12_heard 33 = .ok (.bipush 6, 2) := by decide +kernel
theorem dX12_heard_35 : decode cX12_heard 35 = .ok (.invokevirtual 197, 3) := by decide +kernel
theorem dX12_heard_38 : decode cX12_heard 38 = .ok (.goto 13, 3) := by decide +kernel
theorem dX12_heard_41 : decode cX12_heard 41 = .ok (.aload_n 0, 1) := by decide +kernel
theorem dX12_heard_42 : decode cX12_heard 42 = .ok (.aload_n 0, 1) := by decide +kernel
theorem dX12_heard_43 : decode cX12_heard 43 = .ok (.iload_n 1, 1) := by decide +kernel
theorem dX12_heard_44 : decode cX12_heard 44 = .ok (.iload_n 2, 1) := by decide +kernel
theorem dX12_heard_45 : decode cX12_heard 45 = .ok (.invokevirtual 322, 3) := by decide +kernel
theorem dX12_heard_48 : decode cX12_heard 48 = .ok (.invokevirtual 200, 3) := by decide +kernel
theorem dX12_heard_51 : decode cX12_heard 51 = .ok (.ireturn, 1) := by decide +kernel
theorem dX12_left_0 : decode cX12_left 0 = .ok (.aload_n 0, 1) := by decide +kernel
theorem dX12_left_1 : decode cX12_left 1 = .ok (.invokevirtual 388, 3) := by decide +kernel
theorem dX12_left_4 : decode cX12_left 4 = .ok (.aload_n 0, 1) := by decide +kernel
theorem dX12_left_5 : decode cX12_left 5 = .ok (.aload_n 0, 1) := by decide +kernel
theorem dX12_left_6 : decode cX12_left 6 = .ok (.iconst 0, 1) := by decide +kernel
theorem dX12_left_7 : decode cX12_left 7 = .ok (.invokevirtual 391, 3) := by decide +kernel
theorem dX12_left_10 : decode cX12_left 10 = .ok (.invokevirtual 200, 3) := by decide +kernel
theorem dX12_left_13 : decode cX12_left 13 = .ok (.ireturn, 1) := by decide +kernel
theorem dX12_isLeft_0 : decode cX12_isLeft 0 = .ok (.aload_n 0, 1) := by decide +kernel
theorem dX12_isLeft_1 : decode cX12_isLeft 1 = .ok (.iload_n 1, 1) := by decide +kernel
theorem dX12_isLeft_2 : decode cX12_isLeft 2 = .ok (.invokevirtual 328, 3) := by decide +kernel
theorem dX12_isLeft_5 : decode cX12_isLeft 5 = .ok (.ifCond .ne 9, 3) := by decide +kernel
theorem dX12_isLeft_8 : decode cX12_isLeft 8 = .ok (.aload_n 0, 1) := by decide +kernel
theorem dX12_isLeft_9 : decode cX12_isLeft 9 = .ok (.iconst 1, 1) := by decide +kernel
theorem dX12_isLeft_10 : decode cX12_isLeft 10 = .ok (.invokevirtual 197, 3) := by decide +kernel
theorem dX12_isLeft_13 : decode cX12_isLeft 13 = .ok (.ireturn, 1) := by decide +kernel
theorem dX12_isLeft_14 : decode cX12_isLeft 14 = .ok (.aload_n 0, 1) := by decide +kernel
theorem dX12_isLeft_15 : decode cX12_isLeft 15 = .ok (.invokevirtual 388, 3) := by decide +kernel
theorem dX12_isLeft_18 : decode cX12_isLeft 18 = .ok (.aload_n 0, 1) := by decide +kernel
theorem dX12_isLeft_19 : decode cX12_isLeft 19 = .ok (.aload_n 0, 1) := by decide +kernel
theorem dX12_isLeft_20 : decode cX12_isLeft 20 = .ok (.iconst 0, 1) := by decide +kernel
theorem dX12_isLeft_21 : decode cX12_isLeft 21 = .ok (.iload_n 1, 1) := by decide +kernel
theorem dX12_isLeft_22 : decode cX12_isLeft 22 = .ok (.invokevirtual 381, 3) := by decide +kernel
theorem dX12_isLeft_25 : decode cX12_isLeft 25 = .ok (.ifCond .eq 7, 3) := by decide +kernel
theorem dX12_isLeft_28 : decode cX12_isLeft 28 = .ok (.iconst 1, 1) := by decide +kernel
theorem dX12_isLeft_29 : decode cX12_isLeft 29 = .ok (.goto 4, 3) := by decide +kernel
theorem dX12_isLeft_32 : decode cX12_isLeft 32 = .ok (.iconst 0, 1) := by decide +kernel
theorem dX12_isLeft_33 : decode cX12_isLeft 33 = .ok (.invokevirtual 200, 3) := by decide +kernel
theorem dX12_isLeft_36 : decode cX12_isLeft 36 = .ok (.ireturn, 1) := by decide +kernel
theorem dX12_fits_0 : decode cX12_fits 0 = .ok (.aload_n 0, 1) := by decide +kernel
theorem dX12_fits_1 : decode cX12_fits 1 = .ok (.iload_n 1, 1) := by decide +kernel
theorem dX12_fits_2 : decode cX12_fits 2 = .ok (.invokevirtual 340, 3) := by decide +kernel
theorem dX12_fits_5 : decode cX12_fits 5 = .ok (.ifCond .eq 18, 3) := by decide +kernel
theorem dX12_fits_8 : decode cX12_fits 8 = .ok (.iload_n 2, 1) := by decide +kernel
theorem dX12_fits_9 : decode cX12_fits 9 = .ok (.invokestatic 365, 3) := by decide +kernel
theorem dX12_fits_12 : decode cX12_fits 12 = .ok (.ifCond .eq 11, 3) := by decide +kernel
theorem dX12_fits_15 : decode cX12_fits 15 = .ok (.aload_n 0, 1) := by decide +kernel
theorem dX12_fits_16 : decode cX12_fits 16 = .ok (.iload_n 3, 1) := by decide +kernel
theorem dX12_fits_17 : decode cX12_fits 17 = .ok (.invokevirtual 328, 3) := by decide +kernel
theorem dX12_fits_20 : decode cX12_fits 20 = .ok (.ifCond .ne 9, 3) := by decide +kernel
theorem dX12_fits_23 : decode cX12_fits 23 = .ok (.aload_n 0, 1) := by decide +kernel
theorem dX12_fits_24 : decode cX12_fits 24 = .ok (.iconst 1, 1) := by decide +kernel
theorem dX12_fits_25 : decode cX12_fits 25 = .ok (.invokevirtual 197, 3) := by decide +kernel
theorem dX12_fits_28 : decode cX12_fits 28 = .ok (.ireturn, 1) := by decide +kernel
theorem dX12_fits_29 : decode cX12_fits 29 = .ok (.aload_n 0, 1) := by decide +kernel
theorem dX12_fits_30 : decode cX12_fits 30 = .ok (.iload_n 3, 1) := by decide +kernel
theorem dX12_fits_31 : decode cX12_fits 31 = .ok (.invokevirtual 331, 3) := by decide +kernel
theorem dX12_fits_34 : decode cX12_fits 34 = .ok (.ifCond .ne 10, 3) := by decide +kernel
theorem dX12_fits_37 : decode cX12_fits 37 = .ok (.aload_n 0, 1) := by decide +kernel
theorem dX12_fits_38 : decode cX12_fits 38 = .ok (.bipush 7, 2) := by decide +kernel
theorem dX12_fits_40 : decode cX12_fits 40 = .ok (.invokevirtual 197, 3) := by decide +kernel
theorem dX12_fits_43 : decode cX12_fits 43 = .ok (.ireturn, 1) := by decide +kernel
theorem dX12_fits_44 : decode cX12_fits 44 = .ok (.aload_n 0, 1) := by decide +kernel
theorem dX12_fits_45 : decode cX12_fits 45 = .ok (.invokevirtual 388, 3) := by decide +kernel
theorem dX12_fits_48 : decode cX12_fits 48 = .ok (.aload_n 0, 1) := by decide +kernel
theorem dX12_fits_49 : decode cX12_fits 49 = .ok (.aload_n 0, 1) := by decide +kernel
theorem dX12_fits_50 : decode cX12_fits 50 = .ok (.getfield 69, 3) := by decide +kernel
theorem dX12_fits_53 : decode cX12_fits 53 = .ok (.sipush 256, 3) := by decide +kernel
theorem dX12_fits_56 : decode cX12_fits 56 = .ok (.iload_n 1, 1) := by decide +kernel
theorem dX12_fits_57 : decode cX12_fits 57 = .ok (.imul, 1) := by decide +kernel
theorem dX12_fits_58 : decode cX12_fits 58 = .ok (.iload_n 3, 1) := by decide +kernel
theorem dX12_fits_59 : decode cX12_fits 59 = .ok (.iadd, 1) := by decide +kernel
theorem dX12_fits_60 : decode cX12_fits 60 = .ok (.iaload, 1) := by decide +kernel
theorem dX12_fits_61 : decode cX12_fits 61 = .ok (.iload_n 2, 1) := by decide +kernel
theorem dX12_fits_62 : decode cX12_fits 62 = .ok (.ishr, 1) := by decide +kernel
theorem dX12_fits_63 : decode cX12_fits 63 = .ok (.iconst 1, 1) := by decide +kernel
theorem dX12_fits_64 : decode cX12_fits 64 = .ok (.iand, 1) := by decide +kernel
theorem dX12_fits_65 : decode cX12_fits 65 = .ok (.invokevirtual 200, 3) := by decide +kernel
theorem dX12_fits_68 : decode cX12_fits 68 = .ok (.ireturn, 1) := by decide +kernel
theorem dX12_sure_0 : decode cX12_sure 0 = .ok (.aload_n 0, 1) := by decide +kernel
theorem dX12_sure_1 : decode cX12_sure 1 = .ok (.iload_n 1, 1) := by decide +kernel
theorem dX12_sure_2 : decode cX12_sure 2 = .ok (.invokevirtual 334, 3) := by decide +kernel
theorem dX12_sure_5 : decode cX12_sure 5 = .ok (.ifCond .ne 9, 3) := by decide +kernel
theorem dX12_sure_8 : decode cX12_sure 8 = .ok (.aload_n 0, 1) := by decide +kernel
theorem dX12_sure_9 : decode cX12_sure 9 = .ok (.iconst 1, 1) := by decide +kernel
theorem dX12_sure_10 : decode cX12_sure 10 = .ok (.invokevirtual 197, 3) := by decide +kernel
theorem dX12_sure_13 : decode cX12_sure 13 = .ok (.ireturn, 1) := by decide +kernel
theorem dX12_sure_14 : decode cX12_sure 14 = .ok (.aload_n 0, 1) := by decide +kernel
theorem dX12_sure_15 : decode cX12_sure 15 = .ok (.invokevirtual 388, 3) := by decide +kernel
theorem dX12_sure_18 : decode cX12_sure 18 = .ok (.aload_n 0, 1) := by decide +kernel
theorem dX12_sure_19 : decode cX12_sure 19 = .ok (.iconst 0, 1) := by decide +kernel
theorem dX12_sure_20 : decode cX12_sure 20 = .ok (.iload_n 1, 1) := by decide +kernel
theorem dX12_sure_21 : decode cX12_sure 21 = .ok (.invokevirtual 394, 3) := by decide +kernel
theorem dX12_sure_24 : decode cX12_sure 24 = .ok (.istore_n 2, 1) := by decide +kernel
theorem dX12_sure_25 : decode cX12_sure 25 = .ok (.iload_n 2, 1) := by decide +kernel
theorem dX12_sure_26 : decode cX12_sure 26 = .ok (.iconst (-1), 1) := by decide +kernel
theorem dX12_sure_27 : decode cX12_sure 27 = .ok (.if_icmp .ne 12, 3) := by decide +kernel
theorem dX12_sure_30 : decode cX12_sure 30 = .ok (.aload_n 0, 1) := by decide +kernel
theorem dX12_sure_31 : decode cX12_sure 31 = .ok (.bipush 6, 2) := by decide +kernel
theorem dX12_sure_33 : decode cX12_sure 33 = .ok (.invokevirtual 197, 3) := by decide +kernel
theorem dX12_sure_36 : decode cX12_sure 36 = .ok (.goto 8, 3) := by decide +kernel
theorem dX12_sure_39 : decode cX12_sure 39 = .ok (.aload_n 0, 1) := by decide +kernel
theorem dX12_sure_40 : decode cX12_sure 40 = .ok (.iload_n 2, 1) := by decide +kernel
theorem dX12_sure_41 : decode cX12_sure 41 = .ok (.invokevirtual 200, 3) := by decide +kernel
theorem dX12_sure_44 : decode cX12_sure 44 = .ok (.ireturn, 1) := by decide +kernel
theorem dX12_weightOf_0 : decode cX12_weightOf 0 = .ok (.lconst 1, 1) := by decide +kernel
theorem dX12_weightOf_1 : decode cX12_weightOf 1 = .ok (.lstore_n 2, 1) := by decide +kernel
theorem dX12_weightOf_2 : decode cX12_weightOf 2 = .ok (.iconst 0, 1) := by decide +kernel
theorem dX12_weightOf_3 : decode cX12_weightOf 3 = .ok (.istore 4, 2) := by decide +kernel
theorem dX12_weightOf_5 : decode cX12_weightOf 5 = .ok (.iload 4, 2) := by decide +kernel
theorem dX12_weightOf_7 : decode cX12_weightOf 7 = .ok (.aload_n 0, 1) := by decide +kernel
theorem dX12_weightOf_8 : decode cX12_weightOf 8 = .ok (.getfield 7, 3) := by decide +kernel
theorem dX12_weightOf_11 : decode cX12_weightOf 11 = .ok (.iconst 0, 1) := by decide +kernel
theorem dX12_weightOf_12 : decode cX12_weightOf 12 = .ok (.iaload, 1) := by decide +kernel
theorem dX12_weightOf_13 : decode cX12_weightOf 13 = .ok (.if_icmp .ge 29, 3) := by decide +kernel
theorem dX12_weightOf_16 : decode cX12_weightOf 16 = .ok (.lload_n 2, 1) := by decide +kernel
theorem dX12_weightOf_17 : decode cX12_weightOf 17 = .ok (.aload_n 0, 1) := by decide +kernel
theorem dX12_weightOf_18 : decode cX12_weightOf 18 = .ok (.getfield 7, 3) := by decide +kernel
theorem dX12_weightOf_21 : decode cX12_weightOf 21 = .ok (.bipush 32, 2) := by decide +kernel
theorem dX12_weightOf_23 : decode cX12_weightOf 23 = .ok (.aload_n 0, 1) := by decide +kernel
theorem dX12_weightOf_24 : decode cX12_weightOf 24 = .ok (.iconst 0, 1) := by decide +kernel
theorem dX12_weightOf_25 : decode cX12_weightOf 25 = .ok (.iload_n 1, 1) := by decide +kernel
theorem dX12_weightOf_26 : decode cX12_weightOf 26 = .ok (.iload 4, 2) := by decide +kernel
theorem dX12_weightOf_28 : decode cX12_weightOf 28 = .ok (.invokevirtual 234, 3) := by decide +kernel
theorem dX12_weightOf_31 : decode cX12_weightOf 31 = .ok (.iadd, 1) := by decide +kernel
theorem dX12_weightOf_32 : decode cX12_weightOf 32 = .ok (.iaload, 1) := by decide +kernel
theorem dX12_weightOf_33 : decode cX12_weightOf 33 = .ok (.i2l, 1) := by decide +kernel
theorem dX12_weightOf_34 : decode cX12_weightOf 34 = .ok (.lmul, 1) := by decide +kernel
theorem dX12_weightOf_35 : decode cX12_weightOf 35 = .ok (.lstore_n 2, 1) := by decide +kernel
theorem dX12_weightOf_36 : decode cX12_weightOf 36 = .ok (.iinc 4 1, 3) := by decide +kernel
theorem dX12_weightOf_39 : decode cX12_weightOf 39 = .ok (.goto (-34), 3) := by decide +kernel
theorem dX12_weightOf_42 : decode cX12_weightOf 42 = .ok (.lload_n 2, 1) := by decide +kernel
theorem dX12_weightOf_43 : decode cX12_weightOf 43 = .ok (.lreturn, 1) := by decide +kernel
theorem dX12_weightBy_0 : decode cX12_weightBy 0 = .ok (.aload_n 0, 1) := by decide +kernel
theorem dX12_weightBy_1 : decode cX12_weightBy 1 = .ok (.iload_n 1, 1) := by decide +kernel
theorem dX12_weightBy_2 : decode cX12_weightBy 2 = .ok (.invokevirtual 397, 3) := by decide +kernel
theorem dX12_weightBy_5 : decode cX12_weightBy 5 = .ok (.lstore 4, 2) := by decide +kernel
theorem dX12_weightBy_7 : decode cX12_weightBy 7 = .ok (.iconst 0, 1) := by decide +kernel
theorem dX12_weightBy_8 : decode cX12_weightBy 8 = .ok (.istore 6, 2) := by decide +kernel
theorem dX12_weightBy_10 : decode cX12_weightBy 10 = .ok (.iload 6, 2) := by decide +kernel
theorem dX12_weightBy_12 : decode cX12_weightBy 12 = .ok (.aload_n 0, 1) := by decide +kernel
theorem dX12_weightBy_13 : decode cX12_weightBy 13 = .ok (.getfield 7, 3) := by decide +kernel
theorem dX12_weightBy_16 : decode cX12_weightBy 16 = .ok (.iconst 4, 1) := by decide +kernel
theorem dX12_weightBy_17 : decode cX12_weightBy 17 = .ok (.iaload, 1) := by decide +kernel
theorem dX12_weightBy_18 : decode cX12_weightBy 18 = .ok (.if_icmp .ge 86, 3) := by decide +kernel
theorem dX12_weightBy_21 : decode cX12_weightBy 21 = .ok (.iconst 0, 1) := by decide +kernel
theorem dX12_weightBy_22 : decode cX12_weightBy 22 = .ok (.istore 7, 2) := by decide +kernel
theorem dX12_weightBy_24 : decode cX12_weightBy 24 = .ok (.iconst 0, 1) := by decide +kernel
theorem dX12_weightBy_25 : decode cX12_weightBy 25 = .ok (.istore 8, 2) := by decide +kernel
theorem dX12_weightBy_27 : decode cX12_weightBy 27 = .ok (.iload 8, 2) := by decide +kernel
theorem dX12_weightBy_29 : decode cX12_weightBy 29 = .ok (.iconst 4, 1) := by decide +kernel
theorem dX12_weightBy_30 : decode cX12_weightBy 30 = .ok (.if_icmp .ge 60, 3) := by decide +kernel
theorem dX12_weightBy_33 : decode cX12_weightBy 33 = .ok (.iload 7, 2) := by decide +kernel
theorem dX12_weightBy_35 : decode cX12_weightBy 35 = .ok (.aload_n 0, 1) := by decide +kernel
theorem dX12_weightBy_36 : decode cX12_weightBy 36 = .ok (.getfield 69, 3) := by decide +kernel
theorem dX12_weightBy_39 : decode cX12_weightBy 39 = .ok (.sipush 256, 3) := by decide +kernel
theorem dX12_weightBy_42 : decode cX12_weightBy 42 = .ok (.iload 6, 2) := by decide +kernel
theorem dX12_weightBy_44 : decode cX12_weightBy 44 = .ok (.imul, 1) := by decide +kernel
theorem dX12_weightBy_45 : decode cX12_weightBy 45 = .ok (.iload_n 1, 1) := by decide +kernel
theorem dX12_weightBy_46 : decode cX12_weightBy 46 = .ok (.iadd, 1) := by decide +kernel
theorem dX12_weightBy_47 : decode cX12_weightBy 47 = .ok (.iaload, 1) := by decide +kernel
theorem dX12_weightBy_48 : decode cX12_weightBy 48 = .ok (.iload 8, 2) := by decide +kernel
theorem dX12_weightBy_50 : decode cX12_weightBy 50 = .ok (.ishr, 1) := by decide +kernel
theorem dX12_weightBy_51 : decode cX12_weightBy 51 = .ok (.iconst 1, 1) := by decide +kernel
theorem dX12_weightBy_52 : decode cX12_weightBy 52 = .ok (.iand, 1) := by decide +kernel
theorem dX12_weightBy_53 : decode cX12_weightBy 53 = .ok (.iconst 1, 1) := by decide +kernel
theorem dX12_weightBy_54 : decode cX12_weightBy 54 = .ok (.if_icmp .ne 26, 3) := by decide +kernel
theorem dX12_weightBy_57 : decode cX12_weightBy 57 = .ok (.iload 6, 2) := by decide +kernel
theorem dX12_weightBy_59 : decode cX12_weightBy 59 = .ok (.iload_n 2, 1) := by decide +kernel
theorem dX12_weightBy_60 : decode cX12_weightBy 60 = .ok (.if_icmp .ne 9, 3) := by decide +kernel
theorem dX12_weightBy_63 : decode cX12_weightBy 63 = .ok (.iload 8, 2) := by decide +kernel
theorem dX12_weightBy_65 : decode cX12_weightBy 65 = .ok (.iload_n 3, 1) := by decide +kernel
theorem dX12_weightBy_66 : decode cX12_weightBy 66 = .ok (.if_icmp .ne 14, 3) := by decide +kernel
theorem dX12_weightBy_69 : decode cX12_weightBy 69 = .ok (.aload_n 0, 1) := by decide +kernel
theorem dX12_weightBy_70 : decode cX12_weightBy 70 = .ok (.iload 6, 2) := by decide +kernel
theorem dX12_weightBy_72 : decode cX12_weightBy 72 = .ok (.iload 8, 2) := by decide +kernel
theorem dX12_weightBy_74 : decode cX12_weightBy 74 = .ok (.invokevirtual 343, 3) := by decide +kernel
theorem dX12_weightBy_77 : decode cX12_weightBy 77 = .ok (.goto 4, 3) := by decide +kernel
theorem dX12_weightBy_80 : decode cX12_weightBy 80 = .ok (.iconst 0, 1) := by decide +kernel
theorem dX12_weightBy_81 : decode cX12_weightBy 81 = .ok (.iadd, 1) := by decide +kernel
theorem dX12_weightBy_82 : decode cX12_weightBy 82 = .ok (.istore 7, 2) := by decide +kernel
theorem dX12_weightBy_84 : decode cX12_weightBy 84 = .ok (.iinc 8 1, 3) := by decide +kernel
theorem dX12_weightBy_87 : decode cX12_weightBy 87 = .ok (.goto (-60), 3) := by decide +kernel
theorem dX12_weightBy_90 : decode cX12_weightBy 90 = .ok (.lload 4, 2) := by decide +kernel
theorem dX12_weightBy_92 : decode cX12_weightBy 92 = .ok (.iload 7, 2) := by decide +kernel
theorem dX12_weightBy_94 : decode cX12_weightBy 94 = .ok (.i2l, 1) := by decide +kernel
theorem dX12_weightBy_95 : decode cX12_weightBy 95 = .ok (.lmul, 1) := by decide +kernel
theorem dX12_weightBy_96 : decode cX12_weightBy 96 = .ok (.lstore 4, 2) := by decide +kernel
theorem dX12_weightBy_98 : decode cX12_weightBy 98 = .ok (.iinc 6 1, 3) := by decide +kernel
theorem dX12_weightBy_101 : decode cX12_weightBy 101 = .ok (.goto (-91), 3) := by decide +kernel
theorem dX12_weightBy_104 : decode cX12_weightBy 104 = .ok (.lload 4, 2) := by decide +kernel
theorem dX12_weightBy_106 : decode cX12_weightBy 106 = .ok (.lreturn, 1) := by decide +kernel
theorem dX12_weightAll_0 : decode cX12_weightAll 0 = .ok (.lconst 0, 1) := by decide +kernel
theorem dX12_weightAll_1 : decode cX12_weightAll 1 = .ok (.lstore 4, 2) := by decide +kernel
theorem dX12_weightAll_3 : decode cX12_weightAll 3 = .ok (.iconst 0, 1) := by decide +kernel
theorem dX12_weightAll_4 : decode cX12_weightAll 4 = .ok (.istore 6, 2) := by decide +kernel
theorem dX12_weightAll_6 : decode cX12_weightAll 6 = .ok (.iload 6, 2) := by decide +kernel
theorem dX12_weightAll_8 : decode cX12_weightAll 8 = .ok (.aload_n 0, 1) := by decide +kernel
theorem dX12_weightAll_9 : decode cX12_weightAll 9 = .ok (.getfield 7, 3) := by decide +kernel
theorem dX12_weightAll_12 : decode cX12_weightAll 12 = .ok (.iconst 2, 1) := by decide +kernel
theorem dX12_weightAll_13 : decode cX12_weightAll 13 = .ok (.iaload, 1) := by decide +kernel
theorem dX12_weightAll_14 : decode cX12_weightAll 14 = .ok (.if_icmp .ge 47, 3) := by decide +kernel
theorem dX12_weightAll_17 : decode cX12_weightAll 17 = .ok (.aload_n 0, 1) := by decide +kernel
theorem dX12_weightAll_18 : decode cX12_weightAll 18 = .ok (.iconst 0, 1) := by decide +kernel
theorem dX12_weightAll_19 : decode cX12_weightAll 19 = .ok (.iload 6, 2) := by decide +kernel
theorem dX12_weightAll_21 : decode cX12_weightAll 21 = .ok (.invokevirtual 381, 3) := by decide +kernel
theorem dX12_weightAll_24 : decode cX12_weightAll 24 = .ok (.ifCond .eq 31, 3) := by decide +kernel
theorem dX12_weightAll_27 : decode cX12_weightAll 27 = .ok (.iload_n 3, 1) := by decide +kernel
theorem dX12_weightAll_28 : decode cX12_weightAll 28 = .ok (.iconst (-1), 1) := by decide +kernel
theorem dX12_weightAll_29 : decode cX12_weightAll 29 = .ok (.if_icmp .eq 13, 3) := by decide +kernel
theorem dX12_weightAll_32 : decode cX12_weightAll 32 = .ok (.aload_n 0, 1) := by decide +kernel
theorem dX12_weightAll_33 : decode cX12_weightAll 33 = .ok (.iload_n 3, 1) := by decide +kernel
theorem dX12_weightAll_34 : decode cX12_weightAll 34 = .ok (.iload 6, 2) := by decide +kernel
theorem dX12_weightAll_36 : decode cX12_weightAll 36 = .ok (.invokevirtual 337, 3) := by decide +kernel
theorem dX12_weightAll_39 : decode cX12_weightAll 39 = .ok (.ifCond .eq 16, 3) := by decide +kernel
theorem dX12_weightAll_42 : decode cX12_weightAll 42 = .ok (.lload 4, 2) := by decide +kernel
theorem dX12_weightAll_44 : decode cX12_weightAll 44 = .ok (.aload_n 0, 1) := by decide +kernel
theorem dX12_weightAll_45 : decode cX12_weightAll 45 = .ok (.iload 6, 2) := by decide +kernel
theorem dX12_weightAll_47 : decode cX12_weightAll 47 = .ok (.iload_n 1, 1) := by decide +kernel
theorem dX12_weightAll_48 : decode cX12_weightAll 48 = .ok (.iload_n 2, 1) := by decide +kernel
theorem dX12_weightAll_49 : decode cX12_weightAll 49 = .ok (.invokevirtual 401, 3) := by decide +kernel
theorem dX12_weightAll_52 : decode cX12_weightAll 52 = .ok (.ladd, 1) := by decide +kernel
theorem dX12_weightAll_53 : decode cX12_weightAll 53 = .ok (.lstore 4, 2) := by decide +kernel
theorem dX12_weightAll_55 : decode cX12_weightAll 55 = .ok (.iinc 6 1, 3) := by decide +kernel
theorem dX12_weightAll_58 : decode cX12_weightAll 58 = .ok (.goto (-52), 3) := by decide +kernel
theorem dX12_weightAll_61 : decode cX12_weightAll 61 = .ok (.lload 4, 2) := by decide +kernel
theorem dX12_weightAll_63 : decode cX12_weightAll 63 = .ok (.lreturn, 1) := by decide +kernel
theorem dX12_chance_0 : decode cX12_chance 0 = .ok (.aload_n 0, 1) := by decide +kernel
theorem dX12_chance_1 : decode cX12_chance 1 = .ok (.iload_n 1, 1) := by decide +kernel
theorem dX12_chance_2 : decode cX12_chance 2 = .ok (.invokevirtual 334, 3) := by decide +kernel
theorem dX12_chance_5 : decode cX12_chance 5 = .ok (.ifCond .ne 9, 3) := by decide +kernel
theorem dX12_chance_8 : decode cX12_chance 8 = .ok (.aload_n 0, 1) := by decide +kernel
theorem dX12_chance_9 : decode cX12_chance 9 = .ok (.iconst 1, 1) := by decide +kernel
theorem dX12_chance_10 : decode cX12_chance 10 = .ok (.invokevirtual 109, 3) := by decide +kernel
theorem dX12_chance_13 : decode cX12_chance 13 = .ok (.ireturn, 1) := by decide +kernel
theorem dX12_chance_14 : decode cX12_chance 14 = .ok (.aload_n 0, 1) := by decide +kernel
theorem dX12_chance_15 : decode cX12_chance 15 = .ok (.invokevirtual 388, 3) := by decide +kernel
theorem dX12_chance_18 : decode cX12_chance 18 = .ok (.aload_n 0, 1) := by decide +kernel
theorem dX12_chance_19 : decode cX12_chance 19 = .ok (.iconst (-1), 1) := by decide +kernel
theorem dX12_chance_20 : decode cX12_chance 20 = .ok (.iconst 0, 1) := by decide +kernel
theorem dX12_chance_21 : decode cX12_chance 21 = .ok (.iconst (-1), 1) := by decide +kernel
theorem dX12_chance_22 : decode cX12_chance 22 = .ok (.invokevirtual 405, 3) := by decide +kernel
theorem dX12_chance_25 : decode cX12_chance 25 = .ok (.lstore_n 2, 1) := by decide +kernel
theorem dX12_chance_26 : decode cX12_chance 26 = .ok (.lload_n 2, 1) := by decide +kernel
theorem dX12_chance_27 : decode cX12_chance 27 = .ok (.lconst 0, 1) := by decide +kernel
theorem dX12_chance_28 : decode cX12_chance 28 = .ok (.lcmp, 1) := by decide +kernel
theorem dX12_chance_29 : decode cX12_chance 29 = .ok (.ifCond .ne 12, 3) := by decide +kernel
theorem dX12_chance_32 : decode cX12_chance 32 = .ok (.aload_n 0, 1) := by decide +kernel
theorem dX12_chance_33 : decode cX12_chance 33 = .ok (.bipush 6, 2) := by decide +kernel
theorem dX12_chance_35 : decode cX12_chance 35 = .ok (.invokevirtual 109, 3) := by decide +kernel
theorem dX12_chance_38 : decode cX12_chance 38 = .ok (.goto 15, 3) := by decide +kernel
theorem dX12_chance_41 : decode cX12_chance 41 = .ok (.aload_n 0, 1) := by decide +kernel
theorem dX12_chance_42 : decode cX12_chance 42 = .ok (.aload_n 0, 1) := by decide +kernel
theorem dX12_chance_43 : decode cX12_chance 43 = .ok (.iconst (-1), 1) := by decide +kernel
theorem dX12_chance_44 : decode cX12_chance 44 = .ok (.iconst 0, 1) := by decide +kernel
theorem dX12_chance_45 : decode cX12_chance 45 = .ok (.iload_n 1, 1) := by decide +kernel
theorem dX12_chance_46 : decode cX12_chance 46 = .ok (.invokevirtual 405, 3) := by decide +kernel
theorem dX12_chance_49 : decode cX12_chance 49 = .ok (.lload_n 2, 1) := by decide +kernel
theorem dX12_chance_50 : decode cX12_chance 50 = .ok (.invokevirtual 408, 3) := by decide +kernel
theorem dX12_chance_53 : decode cX12_chance 53 = .ok (.ireturn, 1) := by decide +kernel
theorem dX12_trust_0 : decode cX12_trust 0 = .ok (.aload_n 0, 1) := by decide +kernel
theorem dX12_trust_1 : decode cX12_trust 1 = .ok (.iload_n 1, 1) := by decide +kernel
theorem dX12_trust_2 : decode cX12_trust 2 = .ok (.invokevirtual 340, 3) := by decide +kernel
theorem dX12_trust_5 : decode cX12_trust 5 = .ok (.ifCond .eq 10, 3) := by decide +kernel
theorem dX12_trust_8 : decode cX12_trust 8 = .ok (.iload_n 2, 1) := by decide +kernel
theorem dX12_trust_9 : decode cX12_trust 9 = .ok (.invokestatic 365, 3) := by decide +kernel
theorem dX12_trust_12 : decode cX12_trust 12 = .ok (.ifCond .ne 9, 3) := by decide +kernel
theorem dX12_trust_15 : decode cX12_trust 15 = .ok (.aload_n 0, 1) := by decide +kernel
theorem dX12_trust_16 : decode cX12_trust 16 = .ok (.iconst 1, 1) := by decide +kernel
theorem dX12_trust_17 : decode cX12_trust 17 = .ok (.invokevirtual 109, 3) := by decide +kernel
theorem dX12_trust_20 : decode cX12_trust 20 = .ok (.ireturn, 1) := by decide +kernel
theorem dX12_trust_21 : decode cX12_trust 21 = .ok (.aload_n 0, 1) := by decide +kernel
theorem dX12_trust_22 : decode cX12_trust 22 = .ok (.invokevirtual 388, 3) := by decide +kernel
theorem dX12_trust_25 : decode cX12_trust 25 = .ok (.aload_n 0, 1) := by decide +kernel
theorem dX12_trust_26 : decode cX12_trust 26 = .ok (.iconst (-1), 1) := by decide +kernel
theorem dX12_trust_27 : decode cX12_trust 27 = .ok (.iconst 0, 1) := by decide +kernel
theorem dX12_trust_28 : decode cX12_trust 28 = .ok (.iconst (-1), 1) := by decide +kernel
theorem dX12_trust_29 : decode cX12_trust 29 = .ok (.invokevirtual 405, 3) := by decide +kernel
theorem dX12_trust_32 : decode cX12_trust 32 = .ok (.lstore_n 3, 1) := by decide +kernel
theorem dX12_trust_33 : decode cX12_trust 33 = .ok (.lload_n 3, 1) := by decide +kernel
theorem dX12_trust_34 : decode cX12_trust 34 = .ok (.lconst 0, 1) := by decide +kernel
theorem dX12_trust_35 : decode cX12_trust 35 = .ok (.lcmp, 1) := by decide +kernel
theorem dX12_trust_36 : decode cX12_trust 36 = .ok (.ifCond .ne 12, 3) := by decide +kernel
theorem dX12_trust_39 : decode cX12_trust 39 = .ok (.aload_n 0, 1) := by decide +kernel
theorem dX12_trust_40 : decode cX12_trust 40 = .ok (.bipush 6, 2) := by decide +kernel
theorem dX12_trust_42 : decode cX12_trust 42 = .ok (.invokevirtual 109, 3) := by decide +kernel
theorem dX12_trust_45 : decode cX12_trust 45 = .ok (.goto 15, 3) := by decide +kernel
theorem dX12_trust_48 : decode cX12_trust 48 = .ok (.aload_n 0, 1) := by decide +kernel
theorem dX12_trust_49 : decode cX12_trust 49 = .ok (.aload_n 0, 1) := by decide +kernel
theorem dX12_trust_50 : decode cX12_trust 50 = .ok (.iload_n 1, 1) := by decide +kernel
theorem dX12_trust_51 : decode cX12_trust 51 = .ok (.iload_n 2, 1) := by decide +kernel
theorem dX12_trust_52 : decode cX12_trust 52 = .ok (.iconst (-1), 1) := by decide +kernel
theorem dX12_trust_53 : decode cX12_trust 53 = .ok (.invokevirtual 405, 3) := by decide +kernel
theorem dX12_trust_56 : decode cX12_trust 56 = .ok (.lload_n 3, 1) := by decide +kernel
theorem dX12_trust_57 : decode cX12_trust 57 = .ok (.invokevirtual 408, 3) := by decide +kernel
theorem dX12_trust_60 : decode cX12_trust 60 = .ok (.ireturn, 1) := by decide +kernel
theorem dX12_bits_0 : decode cX12_bits 0 = .ok (.iconst 0, 1) := by decide +kernel
theorem dX12_bits_1 : decode cX12_bits 1 = .ok (.istore_n 1, 1) := by decide +kernel
theorem dX12_bits_2 : decode cX12_bits 2 = .ok (.iload_n 0, 1) := by decide +kernel
theorem dX12_bits_3 : decode cX12_bits 3 = .ok (.istore_n 2, 1) := by decide +kernel
theorem dX12_bits_4 : decode cX12_bits 4 = .ok (.iload_n 2, 1) := by decide +kernel
theorem dX12_bits_5 : decode cX12_bits 5 = .ok (.ifCond .eq 15, 3) := by decide +kernel
theorem dX12_bits_8 : decode cX12_bits 8 = .ok (.iinc 1 1, 3) := by decide +kernel
theorem dX12_bits_11 : decode cX12_bits 11 = .ok (.iload_n 2, 1) := by decide +kernel
theorem dX12_bits_12 : decode cX12_bits 12 = .ok (.iload_n 2, 1) := by decide +kernel
theorem dX12_bits_13 : decode cX12_bits 13 = .ok (.iconst 1, 1) := by decide +kernel
theorem dX12_bits_14 : decode cX12_bits 14 = .ok (.isub, 1) := by decide +kernel
theorem dX12_bits_15 : decode cX12_bits 15 = .ok (.iand, 1) := by decide +kernel
theorem dX12_bits_16 : decode cX12_bits 16 = .ok (.istore_n 2, 1) := by decide +kernel
theorem dX12_bits_17 : decode cX12_bits 17 = .ok (.goto (-13), 3) := by decide +kernel
theorem dX12_bits_20 : decode cX12_bits 20 = .ok (.iload_n 1, 1) := by decide +kernel
theorem dX12_bits_21 : decode cX12_bits 21 = .ok (.ireturn, 1) := by decide +kernel
theorem dX12_isSureBy_0 : decode cX12_isSureBy 0 = .ok (.iconst 0, 1) := by decide +kernel
theorem dX12_isSureBy_1 : decode cX12_isSureBy 1 = .ok (.istore 4, 2) := by decide +kernel
theorem dX12_isSureBy_3 : decode cX12_isSureBy 3 = .ok (.iload 4, 2) := by decide +kernel
theorem dX12_isSureBy_5 : decode cX12_isSureBy 5 = .ok (.aload_n 0, 1) := by decide +kernel
theorem dX12_isSureBy_6 : decode cX12_isSureBy 6 = .ok (.getfield 7, 3) := by decide +kernel
theorem dX12_isSureBy_9 : decode cX12_isSureBy 9 = .ok (.iconst 2, 1) := by decide +kernel
theorem dX12_isSureBy_10 : decode cX12_isSureBy 10 = .ok (.iaload, 1) := by decide +kernel
theorem dX12_isSureBy_11 : decode cX12_isSureBy 11 = .ok (.if_icmp .ge 158, 3) := by decide +kernel
theorem dX12_isSureBy_14 : decode cX12_isSureBy 14 = .ok (.aload_n 0, 1) := by decide +kernel
theorem dX12_isSureBy_15 : decode cX12_isSureBy 15 = .ok (.iload 4, 2) := by decide +kernel
theorem dX12_isSureBy_17 : decode cX12_isSureBy 17 = .ok (.invokevirtual 331, 3) := by decide +kernel
theorem dX12_isSureBy_20 : decode cX12_isSureBy 20 = .ok (.ifCond .eq 143, 3) := by decide +kernel
theorem dX12_isSureBy_23 : decode cX12_isSureBy 23 = .ok (.aload_n 0, 1) := by decide +kernel
theorem dX12_isSureBy_24 : decode cX12_isSureBy 24 = .ok (.iload_n 2, 1) := by decide +kernel
theorem dX12_isSureBy_25 : decode cX12_isSureBy 25 = .ok (.iload 4, 2) := by decide +kernel
theorem dX12_isSureBy_27 : decode cX12_isSureBy 27 = .ok (.invokevirtual 337, 3) := by decide +kernel
theorem dX12_isSureBy_30 : decode cX12_isSureBy 30 = .ok (.iload_n 3, 1) := by decide +kernel
theorem dX12_isSureBy_31 : decode cX12_isSureBy 31 = .ok (.iconst 1, 1) := by decide +kernel
theorem dX12_isSureBy_32 : decode cX12_isSureBy 32 = .ok (.if_icmp .ne 7, 3) := by decide +kernel
theorem dX12_isSureBy_35 : decode cX12_isSureBy 35 = .ok (.iconst 1, 1) := by decide +kernel
theorem dX12_isSureBy_36 : decode cX12_isSureBy 36 = .ok (.goto 4, 3) := by decide +kernel
theorem dX12_isSureBy_39 : decode cX12_isSureBy 39 = .ok (.iconst 0, 1) := by decide +kernel
theorem dX12_isSureBy_40 : decode cX12_isSureBy 40 = .ok (.if_icmp .ne 6, 3) := by decide +kernel
theorem dX12_isSureBy_43 : decode cX12_isSureBy 43 = .ok (.goto 120, 3) := by decide +kernel
theorem dX12_isSureBy_46 : decode cX12_isSureBy 46 = .ok (.iconst 1, 1) := by decide +kernel
theorem dX12_isSureBy_47 : decode cX12_isSureBy 47 = .ok (.istore 5, 2) := by decide +kernel
theorem dX12_isSureBy_49 : decode cX12_isSureBy 49 = .ok (.iconst 0, 1) := by decide +kernel
theorem dX12_isSureBy_50 : decode cX12_isSureBy 50 = .ok (.istore 6, 2) := by decide +kernel
theorem dX12_isSureBy_52 : decode cX12_isSureBy 52 = .ok (.iload 6, 2) := by decide +kernel
theorem dX12_isSureBy_54 : decode cX12_isSureBy 54 = .ok (.aload_n 0, 1) := by decide +kernel
theorem dX12_isSureBy_55 : decode cX12_isSureBy 55 = .ok (.getfield 7, 3) := by decide +kernel
theorem dX12_isSureBy_58 : decode cX12_isSureBy 58 = .ok (.iconst 4, 1) := by decide +kernel
theorem dX12_isSureBy_59 : decode cX12_isSureBy 59 = .ok (.iaload, 1) := by decide +kernel
theorem dX12_isSureBy_60 : decode cX12_isSureBy 60 = .ok (.if_icmp .ge 96, 3) := by decide +kernel
theorem dX12_isSureBy_63 : decode cX12_isSureBy 63 = .ok (.iload 5, 2) := by decide +kernel
theorem dX12_isSureBy_65 : decode cX12_isSureBy 65 = .ok (.ifCond .eq 91, 3) := by decide +kernel
theorem dX12_isSureBy_68 : decode cX12_isSureBy 68 = .ok (.aload_n 0, 1) := by decide +kernel
theorem dX12_isSureBy_69 : decode cX12_isSureBy 69 = .ok (.iload 6, 2) := by decide +kernel
theorem dX12_isSureBy_71 : decode cX12_isSureBy 71 = .ok (.invokevirtual 372, 3) := by decide +kernel
theorem dX12_isSureBy_74 : decode cX12_isSureBy 74 = .ok (.istore 7, 2) := by decide +kernel
theorem dX12_isSureBy_76 : decode cX12_isSureBy 76 = .ok (.iconst 0, 1) := by decide +kernel
theorem dX12_isSureBy_77 : decode cX12_isSureBy 77 = .ok (.istore 8, 2) := by decide +kernel
theorem dX12_isSureBy_79 : decode cX12_isSureBy 79 = .ok (.iload 8, 2) := by decide +kernel
theorem dX12_isSureBy_81 : decode cX12_isSureBy 81 = .ok (.aload_n 0, 1) := by decide +kernel
theorem dX12_isSureBy_82 : decode cX12_isSureBy 82 = .ok (.getfield 7, 3) := by decide +kernel
theorem dX12_isSureBy_85 : decode cX12_isSureBy 85 = .ok (.bipush 6, 2) := by decide +kernel
theorem dX12_isSureBy_87 : decode cX12_isSureBy 87 = .ok (.iaload, 1) := by decide +kernel
theorem dX12_isSureBy_88 : decode cX12_isSureBy 88 = .ok (.if_icmp .ge 50, 3) := by decide +kernel
theorem dX12_isSureBy_91 : decode cX12_isSureBy 91 = .ok (.iload_n 1, 1) := by decide +kernel
theorem dX12_isSureBy_92 : decode cX12_isSureBy 92 = .ok (.iload 8, 2) := by decide +kernel
theorem dX12_isSureBy_94 : decode cX12_isSureBy 94 = .ok (.ishr, 1) := by decide +kernel
theorem dX12_isSureBy_95 : decode cX12_isSureBy 95 = .ok (.iconst 1, 1) := by decide +kernel
theorem dX12_isSureBy_96 : decode cX12_isSureBy 96 = .ok (.iand, 1) := by decide +kernel
theorem dX12_isSureBy_97 : decode cX12_isSureBy 97 = .ok (.iconst 1, 1) := by decide +kernel
theorem dX12_isSureBy_98 : decode cX12_isSureBy 98 = .ok (.if_icmp .ne 34, 3) := by decide +kernel
theorem dX12_isSureBy_101 : decode cX12_isSureBy 101 = .ok (.aload_n 0, 1) := by decide +kernel
theorem dX12_isSureBy_102 : decode cX12_isSureBy 102 = .ok (.iload 8, 2) := by decide +kernel
theorem dX12_isSureBy_104 : decode cX12_isSureBy 104 = .ok (.iconst 0, 1) := by decide +kernel
theorem dX12_isSureBy_105 : decode cX12_isSureBy 105 = .ok (.invokevirtual 322, 3) := by decide +kernel
theorem dX12_isSureBy_108 : decode cX12_isSureBy 108 = .ok (.iload 6, 2) := by decide +kernel
theorem dX12_isSureBy_110 : decode cX12_isSureBy 110 = .ok (.if_icmp .ne 22, 3) := by decide +kernel
theorem dX12_isSureBy_113 : decode cX12_isSureBy 113 = .ok (.iload 7, 2) := by decide +kernel
theorem dX12_isSureBy_115 : decode cX12_isSureBy 115 = .ok (.aload_n 0, 1) := by decide +kernel
theorem dX12_isSureBy_116 : decode cX12_isSureBy 116 = .ok (.getfield 76, 3) := by decide +kernel
theorem dX12_isSureBy_119 : decode cX12_isSureBy 119 = .ok (.sipush 256, 3) := by decide +kernel
theorem dX12_isSureBy_122 : decode cX12_isSureBy 122 = .ok (.iload 8, 2) := by decide +kernel
theorem dX12_isSureBy_124 : decode cX12_isSureBy 124 = .ok (.imul, 1) := by decide +kernel
theorem dX12_isSureBy_125 : decode cX12_isSureBy 125 = .ok (.iload 4, 2) := by decide +kernel
theorem dX12_isSureBy_127 : decode cX12_isSureBy 127 = .ok (.iadd, 1) := by decide +kernel
theorem dX12_isSureBy_128 : decode cX12_isSureBy 128 = .ok (.iaload, 1) := by decide +kernel
theorem dX12_isSureBy_129 : decode cX12_isSureBy 129 = .ok (.iand, 1) := by decide +kernel
theorem dX12_isSureBy_130 : decode cX12_isSureBy 130 = .ok (.istore 7, 2) := by decide +kernel
theorem dX12_isSureBy_132 : decode cX12_isSureBy 132 = .ok (.iinc 8 1, 3) := by decide +kernel
theorem dX12_isSureBy_135 : decode cX12_isSureBy 135 = .ok (.goto (-56), 3) := by decide +kernel
theorem dX12_isSureBy_138 : decode cX12_isSureBy 138 = .ok (.iload 7, 2) := by decide +kernel
theorem dX12_isSureBy_140 : decode cX12_isSureBy 140 = .ok (.ifCond .eq 7, 3) := by decide +kernel
theorem dX12_isSureBy_143 : decode cX12_isSureBy 143 = .ok (.iconst 1, 1) := by decide +kernel
theorem dX12_isSureBy_144 : decode cX12_isSureBy 144 = .ok (.goto 4, 3) := by decide +kernel
theorem dX12_isSureBy_147 : decode cX12_isSureBy 147 = .ok (.iconst 0, 1) := by decide +kernel
theorem dX12_isSureBy_148 : decode cX12_isSureBy 148 = .ok (.istore 5, 2) := by decide +kernel
theorem dX12_isSureBy_150 : decode cX12_isSureBy 150 = .ok (.iinc 6 1, 3) := by decide +kernel
theorem dX12_isSureBy_153 : decode cX12_isSureBy 153 = .ok (.goto (-101), 3) := by decide +kernel
theorem dX12_isSureBy_156 : decode cX12_isSureBy 156 = .ok (.iload 5, 2) := by decide +kernel
theorem dX12_isSureBy_158 : decode cX12_isSureBy 158 = .ok (.ifCond .eq 5, 3) := by decide +kernel
theorem dX12_isSureBy_161 : decode cX12_isSureBy 161 = .ok (.iconst 0, 1) := by decide +kernel
theorem dX12_isSureBy_162 : decode cX12_isSureBy 162 = .ok (.ireturn, 1) := by decide +kernel
theorem dX12_isSureBy_163 : decode cX12_isSureBy 163 = .ok (.iinc 4 1, 3) := by decide +kernel
theorem dX12_isSureBy_166 : decode cX12_isSureBy 166 = .ok (.goto (-163), 3) := by decide +kernel
theorem dX12_isSureBy_169 : decode cX12_isSureBy 169 = .ok (.iconst 1, 1) := by decide +kernel
theorem dX12_isSureBy_170 : decode cX12_isSureBy 170 = .ok (.ireturn, 1) := by decide +kernel
theorem dX12_because_0 : decode cX12_because 0 = .ok (.aload_n 0, 1) := by decide +kernel
theorem dX12_because_1 : decode cX12_because 1 = .ok (.iload_n 1, 1) := by decide +kernel
theorem dX12_because_2 : decode cX12_because 2 = .ok (.invokevirtual 334, 3) := by decide +kernel
theorem dX12_because_5 : decode cX12_because 5 = .ok (.ifCond .ne 9, 3) := by decide +kernel
theorem dX12_because_8 : decode cX12_because 8 = .ok (.aload_n 0, 1) := by decide +kernel
theorem dX12_because_9 : decode cX12_because 9 = .ok (.iconst 1, 1) := by decide +kernel
theorem dX12_because_10 : decode cX12_because 10 = .ok (.invokevirtual 197, 3) := by decide +kernel
theorem dX12_because_13 : decode cX12_because 13 = .ok (.ireturn, 1) := by decide +kernel
theorem dX12_because_14 : decode cX12_because 14 = .ok (.aload_n 0, 1) := by decide +kernel
theorem dX12_because_15 : decode cX12_because 15 = .ok (.invokevirtual 388, 3) := by decide +kernel
theorem dX12_because_18 : decode cX12_because 18 = .ok (.aload_n 0, 1) := by decide +kernel
theorem dX12_because_19 : decode cX12_because 19 = .ok (.iconst 0, 1) := by decide +kernel
theorem dX12_because_20 : decode cX12_because 20 = .ok (.iload_n 1, 1) := by decide +kernel
theorem dX12_because_21 : decode cX12_because 21 = .ok (.invokevirtual 394, 3) := by decide +kernel
theorem dX12_because_24 : decode cX12_because 24 = .ok (.istore_n 2, 1) := by decide +kernel
theorem dX12_because_25 : decode cX12_because 25 = .ok (.iload_n 2, 1) := by decide +kernel
theorem dX12_because_26 : decode cX12_because 26 = .ok (.iconst (-1), 1) := by decide +kernel
theorem dX12_because_27 : decode cX12_because 27 = .ok (.if_icmp .ne 10, 3) := by decide +kernel
theorem dX12_because_30 : decode cX12_because 30 = .ok (.aload_n 0, 1) := by decide +kernel
theorem dX12_because_31 : decode cX12_because 31 = .ok (.bipush 6, 2) := by decide +kernel
theorem dX12_because_33 : decode cX12_because 33 = .ok (.invokevirtual 197, 3) := by decide +kernel
theorem dX12_because_36 : decode cX12_because 36 = .ok (.ireturn, 1) := by decide +kernel
theorem dX12_because_37 : decode cX12_because 37 = .ok (.iconst 0, 1) := by decide +kernel
theorem dX12_because_38 : decode cX12_because 38 = .ok (.istore_n 3, 1) := by decide +kernel
theorem dX12_because_39 : decode cX12_because 39 = .ok (.iload_n 3, 1) := by decide +kernel
theorem dX12_because_40 : decode cX12_because 40 = .ok (.aload_n 0, 1) := by decide +kernel
theorem dX12_because_41 : decode cX12_because 41 = .ok (.getfield 7, 3) := by decide +kernel
theorem dX12_because_44 : decode cX12_because 44 = .ok (.bipush 6, 2) := by decide +kernel
theorem dX12_because_46 : decode cX12_because 46 = .ok (.iaload, 1) := by decide +kernel
theorem dX12_because_47 : decode cX12_because 47 = .ok (.if_icmp .ge 66, 3) := by decide +kernel
theorem dX12_because_50 : decode cX12_because 50 = .ok (.iconst 0, 1) := by decide +kernel
theorem dX12_because_51 : decode cX12_because 51 = .ok (.istore 4, 2) := by decide +kernel
theorem dX12_because_53 : decode cX12_because 53 = .ok (.iload 4, 2) := by decide +kernel
theorem dX12_because_55 : decode cX12_because 55 = .ok (.aload_n 0, 1) := by decide +kernel
theorem dX12_because_56 : decode cX12_because 56 = .ok (.getfield 7, 3) := by decide +kernel
theorem dX12_because_59 : decode cX12_because 59 = .ok (.iconst 2, 1) := by decide +kernel
theorem dX12_because_60 : decode cX12_because 60 = .ok (.iaload, 1) := by decide +kernel
theorem dX12_because_61 : decode cX12_because 61 = .ok (.if_icmp .ge 46, 3) := by decide +kernel
theorem dX12_because_64 : decode cX12_because 64 = .ok (.aload_n 0, 1) := by decide +kernel
theorem dX12_because_65 : decode cX12_because 65 = .ok (.getfield 76, 3) := by decide +kernel
theorem dX12_because_68 : decode cX12_because 68 = .ok (.sipush 256, 3) := by decide +kernel
theorem dX12_because_71 : decode cX12_because 71 = .ok (.iload_n 3, 1) := by decide +kernel
theorem dX12_because_72 : decode cX12_because 72 = .ok (.imul, 1) := by decide +kernel
theorem dX12_because_73 : decode cX12_because 73 = .ok (.iload 4, 2) := by decide +kernel
theorem dX12_because_75 : decode cX12_because 75 = .ok (.iadd, 1) := by decide +kernel
theorem dX12_because_76 : decode cX12_because 76 = .ok (.aload_n 0, 1) := by decide +kernel
theorem dX12_because_77 : decode cX12_because 77 = .ok (.aload_n 0, 1) := by decide +kernel
theorem dX12_because_78 : decode cX12_because 78 = .ok (.iload_n 3, 1) := by decide +kernel
theorem dX12_because_79 : decode cX12_because 79 = .ok (.iconst 0, 1) := by decide +kernel
theorem dX12_because_80 : decode cX12_because 80 = .ok (.invokevirtual 322, 3) := by decide +kernel
theorem dX12_because_83 : decode cX12_because 83 = .ok (.aload_n 0, 1) := by decide +kernel
theorem dX12_because_84 : decode cX12_because 84 = .ok (.iload_n 3, 1) := by decide +kernel
theorem dX12_because_85 : decode cX12_because 85 = .ok (.iconst 1, 1) := by decide +kernel
theorem dX12_because_86 : decode cX12_because 86 = .ok (.invokevirtual 322, 3) := by decide +kernel
theorem dX12_because_89 : decode cX12_because 89 = .ok (.iload 4, 2) := by decide +kernel
theorem dX12_because_91 : decode cX12_because 91 = .ok (.aload_n 0, 1) := by decide +kernel
theorem dX12_because_92 : decode cX12_because 92 = .ok (.iload_n 3, 1) := by decide +kernel
theorem dX12_because_93 : decode cX12_because 93 = .ok (.iconst 2, 1) := by decide +kernel
theorem dX12_because_94 : decode cX12_because 94 = .ok (.invokevirtual 322, 3) := by decide +kernel
theorem dX12_because_97 : decode cX12_because 97 = .ok (.invokevirtual 375, 3) := by decide +kernel
theorem dX12_because_100 : decode cX12_because 100 = .ok (.iastore, 1) := by decide +kernel
theorem dX12_because_101 : decode cX12_because 101 = .ok (.iinc 4 1, 3) := by decide +kernel
theorem dX12_because_104 : decode cX12_because 104 = .ok (.goto (-51), 3) := by decide +kernel
theorem dX12_because_107 : decode cX12_because 107 = .ok (.iinc 3 1, 3) := by decide +kernel
theorem dX12_because_110 : decode cX12_because 110 = .ok (.goto (-71), 3) := by decide +kernel
theorem dX12_because_113 : decode cX12_because 113 = .ok (.iconst 1, 1) := by decide +kernel
theorem dX12_because_114 : decode cX12_because 114 = .ok (.aload_n 0, 1) := by decide +kernel
theorem dX12_because_115 : decode cX12_because 115 = .ok (.getfield 7, 3) := by decide +kernel
theorem dX12_because_118 : decode cX12_because 118 = .ok (.bipush 6, 2) := by decide +kernel
theorem dX12_because_120 : decode cX12_because 120 = .ok (.iaload, 1) := by decide +kernel
theorem dX12_because_121 : decode cX12_because 121 = .ok (.ishl, 1) := by decide +kernel
theorem dX12_because_122 : decode cX12_because 122 = .ok (.iconst 1, 1) := by decide +kernel
theorem dX12_because_123 : decode cX12_because 123 = .ok (.isub, 1) := by decide +kernel
theorem dX12_because_124 : decode cX12_because 124 = .ok (.istore_n 3, 1) := by decide +kernel
theorem dX12_because_125 : decode cX12_because 125 = .ok (.iconst 0, 1) := by decide +kernel
theorem dX12_because_126 : decode cX12_because 126 = .ok (.istore 4, 2) := by decide +kernel
theorem dX12_because_128 : decode cX12_because 128 = .ok (.iload 4, 2) := by decide +kernel
theorem dX12_because_130 : decode cX12_because 130 = .ok (.iconst 1, 1) := by decide +kernel
theorem dX12_because_131 : decode cX12_because 131 = .ok (.aload_n 0, 1) := by decide +kernel
theorem dX12_because_132 : decode cX12_because 132 = .ok (.getfield 7, 3) := by decide +kernel
theorem dX12_because_135 : decode cX12_because 135 = .ok (.bipush 6, 2) := by decide +kernel
theorem dX12_because_137 : decode cX12_because 137 = .ok (.iaload, 1) := by decide +kernel
theorem dX12_because_138 : decode cX12_because 138 = .ok (.ishl, 1) := by decide +kernel
theorem dX12_because_139 : decode cX12_because 139 = .ok (.if_icmp .ge 35, 3) := by decide +kernel
theorem dX12_because_142 : decode cX12_because 142 = .ok (.iload 4, 2) := by decide +kernel
theorem dX12_because_144 : decode cX12_because 144 = .ok (.invokestatic 412, 3) := by decide +kernel
theorem dX12_because_147 : decode cX12_because 147 = .ok (.iload_n 3, 1) := by decide +kernel
theorem dX12_because_148 : decode cX12_because 148 = .ok (.invokestatic 412, 3) := by decide +kernel
theorem dX12_because_151 : decode cX12_because 151 = .ok (.if_icmp .ge 17, 3) := by decide +kernel
theorem dX12_because_154 : decode cX12_because 154 = .ok (.aload_n 0, 1) := by decide +kernel
theorem dX12_because_155 : decode cX12_because 155 = .ok (.iload 4, 2) := by decide +kernel
theorem dX12_because_157 : decode cX12_because 157 = .ok (.iload_n 1, 1) := by decide +kernel
theorem dX12_because_158 : decode cX12_because 158 = .ok (.iload_n 2, 1) := by decide +kernel
theorem dX12_because_159 : decode cX12_because 159 = .ok (.invokevirtual 415, 3) := by decide +kernel
theorem dX12_because_162 : decode cX12_because 162 = .ok (.ifCond .eq 6, 3) := by decide +kernel
theorem dX12_because_165 : decode cX12_because 165 = .ok (.iload 4, 2) := by decide +kernel
theorem dX12_because_167 : decode cX12_because 167 = .ok (.istore_n 3, 1) := by decide +kernel
theorem dX12_because_168 : decode cX12_because 168 = .ok (.iinc 4 1, 3) := by decide +kernel
theorem dX12_because_171 : decode cX12_because 171 = .ok (.goto (-43), 3) := by decide +kernel
theorem dX12_because_174 : decode cX12_because 174 = .ok (.iconst 0, 1) := by decide +kernel
theorem dX12_because_175 : decode cX12_because 175 = .ok (.istore 4, 2) := by decide +kernel
theorem dX12_because_177 : decode cX12_because 177 = .ok (.iload 4, 2) := by decide +kernel
theorem dX12_because_179 : decode cX12_because 179 = .ok (.iload_n 3, 1) := by decide +kernel
theorem dX12_because_180 : decode cX12_because 180 = .ok (.if_icmp .ge 39, 3) := by decide +kernel
theorem dX12_because_183 : decode cX12_because 183 = .ok (.iload 4, 2) := by decide +kernel
theorem dX12_because_185 : decode cX12_because 185 = .ok (.invokestatic 412, 3) := by decide +kernel
theorem dX12_because_188 : decode cX12_because 188 = .ok (.iload_n 3, 1) := by decide +kernel
theorem dX12_because_189 : decode cX12_because 189 = .ok (.invokestatic 412, 3) := by decide +kernel
theorem dX12_because_192 : decode cX12_because 192 = .ok (.if_icmp .ne 21, 3) := by decide +kernel
theorem dX12_because_195 : decode cX12_because 195 = .ok (.aload_n 0, 1) := by decide +kernel
theorem dX12_because_196 : decode cX12_because 196 = .ok (.iload 4, 2) := by decide +kernel
theorem dX12_because_198 : decode cX12_because 198 = .ok (.iload_n 1, 1) := by decide +kernel
theorem dX12_because_199 : decode cX12_because 199 = .ok (.iload_n 2, 1) := by decide +kernel
theorem dX12_because_200 : decode cX12_because 200 = .ok (.invokevirtual 415, 3) := by decide +kernel
theorem dX12_because_203 : decode cX12_because 203 = .ok (.ifCond .eq 10, 3) := by decide +kernel
theorem dX12_because_206 : decode cX12_because 206 = .ok (.aload_n 0, 1) := by decide +kernel
theorem dX12_because_207 : decode cX12_because 207 = .ok (.iload 4, 2) := by decide +kernel
theorem dX12_because_209 : decode cX12_because 209 = .ok (.invokevirtual 200, 3) := by decide +kernel
theorem dX12_because_212 : decode cX12_because 212 = .ok (.ireturn, 1) := by decide +kernel
theorem dX12_because_213 : decode cX12_because 213 = .ok (.iinc 4 1, 3) := by decide +kernel
theorem dX12_because_216 : decode cX12_because 216 = .ok (.goto (-39), 3) := by decide +kernel
theorem dX12_because_219 : decode cX12_because 219 = .ok (.aload_n 0, 1) := by decide +kernel
theorem dX12_because_220 : decode cX12_because 220 = .ok (.iload_n 3, 1) := by decide +kernel
theorem dX12_because_221 : decode cX12_because 221 = .ok (.invokevirtual 200, 3) := by decide +kernel
theorem dX12_because_224 : decode cX12_because 224 = .ok (.ireturn, 1) := by decide +kernel
theorem dX12_gave_0 : decode cX12_gave 0 = .ok (.iload_n 1, 1) := by decide +kernel
theorem dX12_gave_1 : decode cX12_gave 1 = .ok (.ifCond .lt 14, 3) := by decide +kernel
theorem dX12_gave_4 : decode cX12_gave 4 = .ok (.iload_n 1, 1) := by decide +kernel
theorem dX12_gave_5 : decode cX12_gave 5 = .ok (.aload_n 0, 1) := by decide +kernel
theorem dX12_gave_6 : decode cX12_gave 6 = .ok (.getfield 7, 3) := by decide +kernel
theorem dX12_gave_9 : decode cX12_gave 9 = .ok (.bipush 6, 2) := by decide +kernel
theorem dX12_gave_11 : decode cX12_gave 11 = .ok (.iaload, 1) := by decide +kernel
theorem dX12_gave_12 : decode cX12_gave 12 = .ok (.if_icmp .lt 10, 3) := by decide +kernel
theorem dX12_gave_15 : decode cX12_gave 15 = .ok (.aload_n 0, 1) := by decide +kernel
theorem dX12_gave_16 : decode cX12_gave 16 = .ok (.bipush 6, 2) := by decide +kernel
theorem dX12_gave_18 : decode cX12_gave 18 = .ok (.invokevirtual 197, 3) := by decide +kernel
theorem dX12_gave_21 : decode cX12_gave 21 = .ok (.ireturn, 1) := by decide +kernel
theorem dX12_gave_22 : decode cX12_gave 22 = .ok (.aload_n 0, 1) := by decide +kernel
theorem dX12_gave_23 : decode cX12_gave 23 = .ok (.iconst 1, 1) := by decide +kernel
theorem dX12_gave_24 : decode cX12_gave 24 = .ok (.iload_n 1, 1) := by decide +kernel
theorem dX12_gave_25 : decode cX12_gave 25 = .ok (.ishl, 1) := by decide +kernel
theorem dX12_gave_26 : decode cX12_gave 26 = .ok (.invokevirtual 378, 3) := by decide +kernel
theorem dX12_gave_29 : decode cX12_gave 29 = .ok (.aload_n 0, 1) := by decide +kernel
theorem dX12_gave_30 : decode cX12_gave 30 = .ok (.aload_n 0, 1) := by decide +kernel
theorem dX12_gave_31 : decode cX12_gave 31 = .ok (.iconst 0, 1) := by decide +kernel
theorem dX12_gave_32 : decode cX12_gave 32 = .ok (.invokevirtual 298, 3) := by decide +kernel
theorem dX12_gave_35 : decode cX12_gave 35 = .ok (.aload_n 0, 1) := by decide +kernel
theorem dX12_gave_36 : decode cX12_gave 36 = .ok (.iconst 0, 1) := by decide +kernel
theorem dX12_gave_37 : decode cX12_gave 37 = .ok (.invokevirtual 391, 3) := by decide +kernel
theorem dX12_gave_40 : decode cX12_gave 40 = .ok (.isub, 1) := by decide +kernel
theorem dX12_gave_41 : decode cX12_gave 41 = .ok (.invokevirtual 200, 3) := by decide +kernel
theorem dX12_gave_44 : decode cX12_gave 44 = .ok (.ireturn, 1) := by decide +kernel
theorem dX12_feesOf_0 : decode cX12_feesOf 0 = .ok (.iconst 0, 1) := by decide +kernel
theorem dX12_feesOf_1 : decode cX12_feesOf 1 = .ok (.istore_n 1, 1) := by decide +kernel
theorem dX12_feesOf_2 : decode cX12_feesOf 2 = .ok (.iconst 0, 1) := by decide +kernel
theorem dX12_feesOf_3 : decode cX12_feesOf 3 = .ok (.istore_n 2, 1) := by decide +kernel
theorem dX12_feesOf_4 : decode cX12_feesOf 4 = .ok (.iload_n 2, 1) := by decide +kernel
theorem dX12_feesOf_5 : decode cX12_feesOf 5 = .ok (.aload_n 0, 1) := by decide +kernel
theorem dX12_feesOf_6 : decode cX12_feesOf 6 = .ok (.getfield 7, 3) := by decide +kernel
theorem dX12_feesOf_9 : decode cX12_feesOf 9 = .ok (.bipush 6, 2) := by decide +kernel
theorem dX12_feesOf_11 : decode cX12_feesOf 11 = .ok (.iaload, 1) := by decide +kernel
theorem dX12_feesOf_12 : decode cX12_feesOf 12 = .ok (.if_icmp .ge 56, 3) := by decide +kernel
theorem dX12_feesOf_15 : decode cX12_feesOf 15 = .ok (.aload_n 0, 1) := by decide +kernel
theorem dX12_feesOf_16 : decode cX12_feesOf 16 = .ok (.iload_n 2, 1) := by decide +kernel
theorem dX12_feesOf_17 : decode cX12_feesOf 17 = .ok (.iconst 1, 1) := by decide +kernel
theorem dX12_feesOf_18 : decode cX12_feesOf 18 = .ok (.invokevirtual 322, 3) := by decide +kernel
theorem dX12_feesOf_21 : decode cX12_feesOf 21 = .ok (.istore_n 3, 1) := by decide +kernel
theorem dX12_feesOf_22 : decode cX12_feesOf 22 = .ok (.aload_n 0, 1) := by decide +kernel
theorem dX12_feesOf_23 : decode cX12_feesOf 23 = .ok (.iload_n 2, 1) := by decide +kernel
theorem dX12_feesOf_24 : decode cX12_feesOf 24 = .ok (.iconst 2, 1) := by decide +kernel
theorem dX12_feesOf_25 : decode cX12_feesOf 25 = .ok (.invokevirtual 322, 3) := by decide +kernel
theorem dX12_feesOf_28 : decode cX12_feesOf 28 = .ok (.istore 4, 2) := by decide +kernel
theorem dX12_feesOf_30 : decode cX12_feesOf 30 = .ok (.iload_n 1, 1) := by decide +kernel
theorem dX12_feesOf_31 : decode cX12_feesOf 31 = .ok (.aload_n 0, 1) := by decide +kernel
theorem dX12_feesOf_32 : decode cX12_feesOf 32 = .ok (.getfield 7, 3) := by decide +kernel
theorem dX12_feesOf_35 : decode cX12_feesOf 35 = .ok (.bipush 64, 2) := by decide +kernel
theorem dX12_feesOf_37 : decode cX12_feesOf 37 = .ok (.iload_n 3, 1) := by decide +kernel
theorem dX12_feesOf_38 : decode cX12_feesOf 38 = .ok (.iadd, 1) := by decide +kernel
theorem dX12_feesOf_39 : decode cX12_feesOf 39 = .ok (.iaload, 1) := by decide +kernel
theorem dX12_feesOf_40 : decode cX12_feesOf 40 = .ok (.aload_n 0, 1) := by decide +kernel
theorem dX12_feesOf_41 : decode cX12_feesOf 41 = .ok (.getfield 7, 3) := by decide +kernel
theorem dX12_feesOf_44 : decode cX12_feesOf 44 = .ok (.bipush 64, 2) := by decide +kernel
theorem dX12_feesOf_46 : decode cX12_feesOf 46 = .ok (.iload 4, 2) := by decide +kernel
theorem dX12_feesOf_48 : decode cX12_feesOf 48 = .ok (.iconst 2, 1) := by decide +kernel
theorem dX12_feesOf_49 : decode cX12_feesOf 49 = .ok (.idiv, 1) := by decide +kernel
theorem dX12_feesOf_50 : decode cX12_feesOf 50 = .ok (.iadd, 1) := by decide +kernel
theorem dX12_feesOf_51 : decode cX12_feesOf 51 = .ok (.iaload, 1) := by decide +kernel
theorem dX12_feesOf_52 : decode cX12_feesOf 52 = .ok (.iconst 1, 1) := by decide +kernel
theorem dX12_feesOf_53 : decode cX12_feesOf 53 = .ok (.iload 4, 2) := by decide +kernel
theorem dX12_feesOf_55 : decode cX12_feesOf 55 = .ok (.iconst 2, 1) := by decide +kernel
theorem dX12_feesOf_56 : decode cX12_feesOf 56 = .ok (.irem, 1) := by decide +kernel
theorem dX12_feesOf_57 : decode cX12_feesOf 57 = .ok (.iadd, 1) := by decide +kernel
theorem dX12_feesOf_58 : decode cX12_feesOf 58 = .ok (.imul, 1) := by decide +kernel
theorem dX12_feesOf_59 : decode cX12_feesOf 59 = .ok (.iadd, 1) := by decide +kernel
theorem dX12_feesOf_60 : decode cX12_feesOf 60 = .ok (.iadd, 1) := by decide +kernel
theorem dX12_feesOf_61 : decode cX12_feesOf 61 = .ok (.istore_n 1, 1) := by decide +kernel
theorem dX12_feesOf_62 : decode cX12_feesOf 62 = .ok (.iinc 2 1, 3) := by decide +kernel
theorem dX12_feesOf_65 : decode cX12_feesOf 65 = .ok (.goto (-61), 3) := by decide +kernel
theorem dX12_feesOf_68 : decode cX12_feesOf 68 = .ok (.iload_n 1, 1) := by decide +kernel
theorem dX12_feesOf_69 : decode cX12_feesOf 69 = .ok (.ireturn, 1) := by decide +kernel
theorem dX12_fees_0 : decode cX12_fees 0 = .ok (.aload_n 0, 1) := by decide +kernel
theorem dX12_fees_1 : decode cX12_fees 1 = .ok (.aload_n 0, 1) := by decide +kernel
theorem dX12_fees_2 : decode cX12_fees 2 = .ok (.invokevirtual 418, 3) := by decide +kernel
theorem dX12_fees_5 : decode cX12_fees 5 = .ok (.invokevirtual 200, 3) := by decide +kernel
theorem dX12_fees_8 : decode cX12_fees 8 = .ok (.ireturn, 1) := by decide +kernel
theorem dX12_answered_0 : decode cX12_answered 0 = .ok (.sipush 1024, 3) := by decide +kernel
theorem dX12_answered_3 : decode cX12_answered 3 = .ok (.iload_n 1, 1) := by decide +kernel
theorem dX12_answered_4 : decode cX12_answered 4 = .ok (.iconst 1, 1) := by decide +kernel
theorem dX12_answered_5 : decode cX12_answered 5 = .ok (.iadd, 1) := by decide +kernel
theorem dX12_answered_6 : decode cX12_answered 6 = .ok (.imul, 1) := by decide +kernel
theorem dX12_answered_7 : decode cX12_answered 7 = .ok (.istore 5, 2) := by decide +kernel
theorem dX12_answered_9 : decode cX12_answered 9 = .ok (.iconst 0, 1) := by decide +kernel
theorem dX12_answered_10 : decode cX12_answered 10 = .ok (.istore 6, 2) := by decide +kernel
theorem dX12_answered_12 : decode cX12_answered 12 = .ok (.iload 6, 2) := by decide +kernel
theorem dX12_answered_14 : decode cX12_answered 14 = .ok (.aload_n 0, 1) := by decide +kernel
theorem dX12_answered_15 : decode cX12_answered 15 = .ok (.getfield 7, 3) := by decide +kernel
theorem dX12_answered_18 : decode cX12_answered 18 = .ok (.iconst 4, 1) := by decide +kernel
theorem dX12_answered_19 : decode cX12_answered 19 = .ok (.iaload, 1) := by decide +kernel
theorem dX12_answered_20 : decode cX12_answered 20 = .ok (.if_icmp .ge 97, 3) := by decide +kernel
theorem dX12_answered_23 : decode cX12_answered 23 = .ok (.iconst 0, 1) := by decide +kernel
theorem dX12_answered_24 : decode cX12_answered 24 = .ok (.istore 7, 2) := by decide +kernel
theorem dX12_answered_26 : decode cX12_answered 26 = .ok (.iload 7, 2) := by decide +kernel
theorem dX12_answered_28 : decode cX12_answered 28 = .ok (.aload_n 0, 1) := by decide +kernel
theorem dX12_answered_29 : decode cX12_answered 29 = .ok (.getfield 7, 3) := by decide +kernel
theorem dX12_answered_32 : decode cX12_answered 32 = .ok (.iconst 2, 1) := by decide +kernel
theorem dX12_answered_33 : decode cX12_answered 33 = .ok (.iaload, 1) := by decide +kernel
theorem dX12_answered_34 : decode cX12_answered 34 = .ok (.if_icmp .ge 77, 3) := by decide +kernel
theorem dX12_answered_37 : decode cX12_answered 37 = .ok (.aload_n 0, 1) := by decide +kernel
theorem dX12_answered_38 : decode cX12_answered 38 = .ok (.getfield 69, 3) := by decide +kernel
theorem dX12_answered_41 : decode cX12_answered 41 = .ok (.sipush 1024, 3) := by decide +kernel
theorem dX12_answered_44 : decode cX12_answered 44 = .ok (.iload_n 1, 1) := by decide +kernel
theorem dX12_answered_45 : decode cX12_answered 45 = .ok (.imul, 1) := by decide +kernel
theorem dX12_answered_46 : decode cX12_answered 46 = .ok (.sipush 256, 3) := by decide +kernel
theorem dX12_answered_49 : decode cX12_answered 49 = .ok (.iload 6, 2) := by decide +kernel
theorem dX12_answered_51 : decode cX12_answered 51 = .ok (.imul, 1) := by decide +kernel
theorem dX12_answered_52 : decode cX12_answered 52 = .ok (.iadd, 1) := by decide +kernel
theorem dX12_answered_53 : decode cX12_answered 53 = .ok (.iload 7, 2) := by decide +kernel
theorem dX12_answered_55 : decode cX12_answered 55 = .ok (.iadd, 1) := by decide +kernel
theorem dX12_answered_56 : decode cX12_answered 56 = .ok (.iaload, 1) := by decide +kernel
theorem dX12_answered_57 : decode cX12_answered 57 = .ok (.istore 8, 2) := by decide +kernel
theorem dX12_answered_59 : decode cX12_answered 59 = .ok (.aload_n 0, 1) := by decide +kernel
theorem dX12_answered_60 : decode cX12_answered 60 = .ok (.getfield 69, 3) := by decide +kernel
theorem dX12_answered_63 : decode cX12_answered 63 = .ok (.iload 5, 2) := by decide +kernel
theorem dX12_answered_65 : decode cX12_answered 65 = .ok (.sipush 256, 3) := by decide +kernel
theorem dX12_answered_68 : decode cX12_answered 68 = .ok (.iload 6, 2) := by decide +kernel
theorem dX12_answered_70 : decode cX12_answered 70 = .ok (.imul, 1) := by decide +kernel
theorem dX12_answered_71 : decode cX12_answered 71 = .ok (.iadd, 1) := by decide +kernel
theorem dX12_answered_72 : decode cX12_answered 72 = .ok (.iload 7, 2) := by decide +kernel
theorem dX12_answered_74 : decode cX12_answered 74 = .ok (.iadd, 1) := by decide +kernel
theorem dX12_answered_75 : decode cX12_answered 75 = .ok (.iload 6, 2) := by decide +kernel
theorem dX12_answered_77 : decode cX12_answered 77 = .ok (.iload_n 2, 1) := by decide +kernel
theorem dX12_answered_78 : decode cX12_answered 78 = .ok (.if_icmp .ne 24, 3) := by decide +kernel
theorem dX12_answered_81 : decode cX12_answered 81 = .ok (.iload 8, 2) := by decide +kernel
theorem dX12_answered_83 : decode cX12_answered 83 = .ok (.ifCond .eq 19, 3) := by decide +kernel
theorem dX12_answered_86 : decode cX12_answered 86 = .ok (.iload 8, 2) := by decide +kernel
theorem dX12_answered_88 : decode cX12_answered 88 = .ok (.aload_n 0, 1) := by decide +kernel
theorem dX12_answered_89 : decode cX12_answered 89 = .ok (.iload_n 2, 1) := by decide +kernel
theorem dX12_answered_90 : decode cX12_answered 90 = .ok (.iload_n 3, 1) := by decide +kernel
theorem dX12_answered_91 : decode cX12_answered 91 = .ok (.iload 7, 2) := by decide +kernel
theorem dX12_answered_93 : decode cX12_answered 93 = .ok (.iload 4, 2) := by decide +kernel
theorem dX12_answered_95 : decode cX12_answered 95 = .ok (.invokevirtual 375, 3) := by decide +kernel
theorem dX12_answered_98 : decode cX12_answered 98 = .ok (.iand, 1) := by decide +kernel
theorem dX12_answered_99 : decode cX12_answered 99 = .ok (.goto 5, 3) := by decide +kernel
theorem dX12_answered_102 : decode cX12_answered 102 = .ok (.iload 8, 2) := by decide +kernel
theorem dX12_answered_104 : decode cX12_answered 104 = .ok (.iastore, 1) := by decide +kernel
theorem dX12_answered_105 : decode cX12_answered 105 = .ok (.iinc 7 1, 3) := by decide +kernel
theorem dX12_answered_108 : decode cX12_answered 108 = .ok (.goto (-82), 3) := by decide +kernel
theorem dX12_answered_111 : decode cX12_answered 111 = .ok (.iinc 6 1, 3) := by decide +kernel
theorem dX12_answered_114 : decode cX12_answered 114 = .ok (.goto (-102), 3) := by decide +kernel
theorem dX12_answered_117 : decode cX12_answered 117 = .ok (.aload_n 0, 1) := by decide +kernel
theorem dX12_answered_118 : decode cX12_answered 118 = .ok (.iload_n 1, 1) := by decide +kernel
theorem dX12_answered_119 : decode cX12_answered 119 = .ok (.iconst 1, 1) := by decide +kernel
theorem dX12_answered_120 : decode cX12_answered 120 = .ok (.iadd, 1) := by decide +kernel
theorem dX12_answered_121 : decode cX12_answered 121 = .ok (.invokevirtual 391, 3) := by decide +kernel
theorem dX12_answered_124 : decode cX12_answered 124 = .ok (.ireturn, 1) := by decide +kernel
theorem dX12_worstOf_0 : decode cX12_worstOf 0 = .ok (.iconst 0, 1) := by decide +kernel
theorem dX12_worstOf_1 : decode cX12_worstOf 1 = .ok (.istore_n 3, 1) := by decide +kernel
theorem dX12_worstOf_2 : decode cX12_worstOf 2 = .ok (.iconst 0, 1) := by decide +kernel
theorem dX12_worstOf_3 : decode cX12_worstOf 3 = .ok (.istore 4, 2) := by decide +kernel
theorem dX12_worstOf_5 : decode cX12_worstOf 5 = .ok (.iload 4, 2) := by decide +kernel
theorem dX12_worstOf_7 : decode cX12_worstOf 7 = .ok (.iconst 2, 1) := by decide +kernel
theorem dX12_worstOf_8 : decode cX12_worstOf 8 = .ok (.aload_n 0, 1) := by decide +kernel
theorem dX12_worstOf_9 : decode cX12_worstOf 9 = .ok (.getfield 7, 3) := by decide +kernel
theorem dX12_worstOf_12 : decode cX12_worstOf 12 = .ok (.iconst 3, 1) := by decide +kernel
theorem dX12_worstOf_13 : decode cX12_worstOf 13 = .ok (.iaload, 1) := by decide +kernel
theorem dX12_worstOf_14 : decode cX12_worstOf 14 = .ok (.imul, 1) := by decide +kernel
theorem dX12_worstOf_15 : decode cX12_worstOf 15 = .ok (.if_icmp .ge 23, 3) := by decide +kernel
theorem dX12_worstOf_18 : decode cX12_worstOf 18 = .ok (.iload_n 3, 1) := by decide +kernel
theorem dX12_worstOf_19 : decode cX12_worstOf 19 = .ok (.aload_n 0, 1) := by decide +kernel
theorem dX12_worstOf_20 : decode cX12_worstOf 20 = .ok (.iconst 0, 1) := by decide +kernel
theorem dX12_worstOf_21 : decode cX12_worstOf 21 = .ok (.iload_n 1, 1) := by decide +kernel
theorem dX12_worstOf_22 : decode cX12_worstOf 22 = .ok (.iload_n 2, 1) := by decide +kernel
theorem dX12_worstOf_23 : decode cX12_worstOf 23 = .ok (.iload 4, 2) := by decide +kernel
theorem dX12_worstOf_25 : decode cX12_worstOf 25 = .ok (.invokevirtual 421, 3) := by decide +kernel
theorem dX12_worstOf_28 : decode cX12_worstOf 28 = .ok (.invokestatic 424, 3) := by decide +kernel
theorem dX12_worstOf_31 : decode cX12_worstOf 31 = .ok (.istore_n 3, 1) := by decide +kernel
theorem dX12_worstOf_32 : decode cX12_worstOf 32 = .ok (.iinc 4 1, 3) := by decide +kernel
theorem dX12_worstOf_35 : decode cX12_worstOf 35 = .ok (.goto (-30), 3) := by decide +kernel
theorem dX12_worstOf_38 : decode cX12_worstOf 38 = .ok (.iload_n 3, 1) := by decide +kernel
theorem dX12_worstOf_39 : decode cX12_worstOf 39 = .ok (.ireturn, 1) := by decide +kernel
theorem dX12_worst_0 : decode cX12_worst 0 = .ok (.aload_n 0, 1) := by decide +kernel
theorem dX12_worst_1 : decode cX12_worst 1 = .ok (.iload_n 1, 1) := by decide +kernel
theorem dX12_worst_2 : decode cX12_worst 2 = .ok (.invokevirtual 340, 3) := by decide +kernel
theorem dX12_worst_5 : decode cX12_worst 5 = .ok (.ifCond .eq 11, 3) := by decide +kernel
theorem dX12_worst_8 : decode cX12_worst 8 = .ok (.aload_n 0, 1) := by decide +kernel
theorem dX12_worst_9 : decode cX12_worst 9 = .ok (.iload_n 2, 1) := by decide +kernel
theorem dX12_worst_10 : decode cX12_worst 10 = .ok (.invokevirtual 334, 3) := by decide +kernel
theorem dX12_worst_13 : decode cX12_worst 13 = .ok (.ifCond .ne 9, 3) := by decide +kernel
theorem dX12_worst_16 : decode cX12_worst 16 = .ok (.aload_n 0, 1) := by decide +kernel
theorem dX12_worst_17 : decode cX12_worst 17 = .ok (.iconst 1, 1) := by decide +kernel
theorem dX12_worst_18 : decode cX12_worst 18 = .ok (.invokevirtual 197, 3) := by decide +kernel
theorem dX12_worst_21 : decode cX12_worst 21 = .ok (.ireturn, 1) := by decide +kernel
theorem dX12_worst_22 : decode cX12_worst 22 = .ok (.aload_n 0, 1) := by decide +kernel
theorem dX12_worst_23 : decode cX12_worst 23 = .ok (.invokevirtual 388, 3) := by decide +kernel
theorem dX12_worst_26 : decode cX12_worst 26 = .ok (.aload_n 0, 1) := by decide +kernel
theorem dX12_worst_27 : decode cX12_worst 27 = .ok (.iconst 0, 1) := by decide +kernel
theorem dX12_worst_28 : decode cX12_worst 28 = .ok (.invokevirtual 391, 3) := by decide +kernel
theorem dX12_worst_31 : decode cX12_worst 31 = .ok (.ifCond .ne 10, 3) := by decide +kernel
theorem dX12_worst_34 : decode cX12_worst 34 = .ok (.aload_n 0, 1) := by decide +kernel
theorem dX12_worst_35 : decode cX12_worst 35 = .ok (.bipush 6, 2) := by decide +kernel
theorem dX12_worst_37 : decode cX12_worst 37 = .ok (.invokevirtual 197, 3) := by decide +kernel
theorem dX12_worst_40 : decode cX12_worst 40 = .ok (.ireturn, 1) := by decide +kernel
theorem dX12_worst_41 : decode cX12_worst 41 = .ok (.aload_n 0, 1) := by decide +kernel
theorem dX12_worst_42 : decode cX12_worst 42 = .ok (.getfield 72, 3) := by decide +kernel
theorem dX12_worst_45 : decode cX12_worst 45 = .ok (.iload_n 2, 1) := by decide +kernel
theorem dX12_worst_46 : decode cX12_worst 46 = .ok (.baload, 1) := by decide +kernel
theorem dX12_worst_47 : decode cX12_worst 47 = .ok (.ifCond .eq 12, 3) := by decide +kernel
theorem dX12_worst_50 : decode cX12_worst 50 = .ok (.aload_n 0, 1) := by decide +kernel
theorem dX12_worst_51 : decode cX12_worst 51 = .ok (.bipush 7, 2) := by decide +kernel
theorem dX12_worst_53 : decode cX12_worst 53 = .ok (.invokevirtual 197, 3) := by decide +kernel
theorem dX12_worst_56 : decode cX12_worst 56 = .ok (.goto 13, 3) := by decide +kernel
theorem dX12_worst_59 : decode cX12_worst 59 = .ok (.aload_n 0, 1) := by decide +kernel
theorem dX12_worst_60 : decode cX12_worst 60 = .ok (.aload_n 0, 1) := by decide +kernel
theorem dX12_worst_61 : decode cX12_worst 61 = .ok (.iload_n 1, 1) := by decide +kernel
theorem dX12_worst_62 : decode cX12_worst 62 = .ok (.iload_n 2, 1) := by decide +kernel
theorem dX12_worst_63 : decode cX12_worst 63 = .ok (.invokevirtual 427, 3) := by decide +kernel
theorem dX12_worst_66 : decode cX12_worst 66 = .ok (.invokevirtual 200, 3) := by decide +kernel
theorem dX12_worst_69 : decode cX12_worst 69 = .ok (.ireturn, 1) := by decide +kernel
theorem dX12_bestOf_0 : decode cX12_bestOf 0 = .ok (.iconst (-1), 1) := by decide +kernel
theorem dX12_bestOf_1 : decode cX12_bestOf 1 = .ok (.istore_n 2, 1) := by decide +kernel
theorem dX12_bestOf_2 : decode cX12_bestOf 2 = .ok (.iconst 0, 1) := by decide +kernel
theorem dX12_bestOf_3 : decode cX12_bestOf 3 = .ok (.istore_n 3, 1) := by decide +kernel
theorem dX12_bestOf_4 : decode cX12_bestOf 4 = .ok (.iconst 0, 1) := by decide +kernel
theorem dX12_bestOf_5 : decode cX12_bestOf 5 = .ok (.istore 4, 2) := by decide +kernel
theorem dX12_bestOf_7 : decode cX12_bestOf 7 = .ok (.iload 4, 2) := by decide +kernel
theorem dX12_bestOf_9 : decode cX12_bestOf 9 = .ok (.aload_n 0, 1) := by decide +kernel
theorem dX12_bestOf_10 : decode cX12_bestOf 10 = .ok (.getfield 7, 3) := by decide +kernel
theorem dX12_bestOf_13 : decode cX12_bestOf 13 = .ok (.iconst 3, 1) := by decide +kernel
theorem dX12_bestOf_14 : decode cX12_bestOf 14 = .ok (.iaload, 1) := by decide +kernel
theorem dX12_bestOf_15 : decode cX12_bestOf 15 = .ok (.if_icmp .ge 59, 3) := by decide +kernel
theorem dX12_bestOf_18 : decode cX12_bestOf 18 = .ok (.aload_n 0, 1) := by decide +kernel
theorem dX12_bestOf_19 : decode cX12_bestOf 19 = .ok (.iconst 0, 1) := by decide +kernel
theorem dX12_bestOf_20 : decode cX12_bestOf 20 = .ok (.invokevirtual 391, 3) := by decide +kernel
theorem dX12_bestOf_23 : decode cX12_bestOf 23 = .ok (.ifCond .le 51, 3) := by decide +kernel
theorem dX12_bestOf_26 : decode cX12_bestOf 26 = .ok (.aload_n 0, 1) := by decide +kernel
theorem dX12_bestOf_27 : decode cX12_bestOf 27 = .ok (.getfield 72, 3) := by decide +kernel
theorem dX12_bestOf_30 : decode cX12_bestOf 30 = .ok (.iload 4, 2) := by decide +kernel
theorem dX12_bestOf_32 : decode cX12_bestOf 32 = .ok (.baload, 1) := by decide +kernel
theorem dX12_bestOf_33 : decode cX12_bestOf 33 = .ok (.ifCond .eq 6, 3) := by decide +kernel
theorem dX12_bestOf_36 : decode cX12_bestOf 36 = .ok (.goto 32, 3) := by decide +kernel
theorem dX12_bestOf_39 : decode cX12_bestOf 39 = .ok (.aload_n 0, 1) := by decide +kernel
theorem dX12_bestOf_40 : decode cX12_bestOf 40 = .ok (.iload_n 1, 1) := by decide +kernel
theorem dX12_bestOf_41 : decode cX12_bestOf 41 = .ok (.iload 4, 2) := by decide +kernel
theorem dX12_bestOf_43 : decode cX12_bestOf 43 = .ok (.invokevirtual 427, 3) := by decide +kernel
theorem dX12_bestOf_46 : decode cX12_bestOf 46 = .ok (.istore 5, 2) := by decide +kernel
theorem dX12_bestOf_48 : decode cX12_bestOf 48 = .ok (.iload_n 2, 1) := by decide +kernel
theorem dX12_bestOf_49 : decode cX12_bestOf 49 = .ok (.iconst (-1), 1) := by decide +kernel
theorem dX12_bestOf_50 : decode cX12_bestOf 50 = .ok (.if_icmp .eq 12, 3) := by decide +kernel
theorem dX12_bestOf_53 : decode cX12_bestOf 53 = .ok (.iload 5, 2) := by decide +kernel
theorem dX12_bestOf_55 : decode cX12_bestOf 55 = .ok (.iload_n 3, 1) := by decide +kernel
theorem dX12_bestOf_56 : decode cX12_bestOf 56 = .ok (.if_icmp .lt 6, 3) := by decide +kernel
theorem dX12_bestOf_59 : decode cX12_bestOf 59 = .ok (.goto 9, 3) := by decide +kernel
theorem dX12_bestOf_62 : decode cX12_bestOf 62 = .ok (.iload 4, 2) := by decide +kernel
theorem dX12_bestOf_64 : decode cX12_bestOf 64 = .ok (.istore_n 2, 1) := by decide +kernel
theorem dX12_bestOf_65 : decode cX12_bestOf 65 = .ok (.iload 5, 2) := by decide +kernel
theorem dX12_bestOf_67 : decode cX12_bestOf 67 = .ok (.istore_n 3, 1) := by decide +kernel
theorem dX12_bestOf_68 : decode cX12_bestOf 68 = .ok (.iinc 4 1, 3) := by decide +kernel
theorem dX12_bestOf_71 : decode cX12_bestOf 71 = .ok (.goto (-64), 3) := by decide +kernel
theorem dX12_bestOf_74 : decode cX12_bestOf 74 = .ok (.iload_n 2, 1) := by decide +kernel
theorem dX12_bestOf_75 : decode cX12_bestOf 75 = .ok (.ireturn, 1) := by decide +kernel
theorem dX12_best_0 : decode cX12_best 0 = .ok (.aload_n 0, 1) := by decide +kernel
theorem dX12_best_1 : decode cX12_best 1 = .ok (.iload_n 1, 1) := by decide +kernel
theorem dX12_best_2 : decode cX12_best 2 = .ok (.invokevirtual 340, 3) := by decide +kernel
theorem dX12_best_5 : decode cX12_best 5 = .ok (.ifCond .ne 9, 3) := by decide +kernel
theorem dX12_best_8 : decode cX12_best 8 = .ok (.aload_n 0, 1) := by decide +kernel
theorem dX12_best_9 : decode cX12_best 9 = .ok (.iconst 1, 1) := by decide +kernel
theorem dX12_best_10 : decode cX12_best 10 = .ok (.invokevirtual 197, 3) := by decide +kernel
theorem dX12_best_13 : decode cX12_best 13 = .ok (.ireturn, 1) := by decide +kernel
theorem dX12_best_14 : decode cX12_best 14 = .ok (.aload_n 0, 1) := by decide +kernel
theorem dX12_best_15 : decode cX12_best 15 = .ok (.invokevirtual 388, 3) := by decide +kernel
theorem dX12_best_18 : decode cX12_best 18 = .ok (.aload_n 0, 1) := by decide +kernel
theorem dX12_best_19 : decode cX12_best 19 = .ok (.iload_n 1, 1) := by decide +kernel
theorem dX12_best_20 : decode cX12_best 20 = .ok (.invokevirtual 430, 3) := by decide +kernel
theorem dX12_best_23 : decode cX12_best 23 = .ok (.istore_n 2, 1) := by decide +kernel
theorem dX12_best_24 : decode cX12_best 24 = .ok (.iload_n 2, 1) := by decide +kernel
theorem dX12_best_25 : decode cX12_best 25 = .ok (.iconst (-1), 1) := by decide +kernel
theorem dX12_best_26 : decode cX12_best 26 = .ok (.if_icmp .ne 12, 3) := by decide +kernel
theorem dX12_best_29 : decode cX12_best 29 = .ok (.aload_n 0, 1) := by decide +kernel
theorem dX12_best_30 : decode cX12_best 30 = .ok (.bipush 6, 2) := by decide +kernel
theorem dX12_best_32 : decode cX12_best 32 = .ok (.invokevirtual 197, 3) := by decide +kernel
theorem dX12_best_35 : decode cX12_best 35 = .ok (.goto 8, 3) := by decide +kernel
theorem dX12_best_38 : decode cX12_best 38 = .ok (.aload_n 0, 1) := by decide +kernel
theorem dX12_best_39 : decode cX12_best 39 = .ok (.iload_n 2, 1) := by decide +kernel
theorem dX12_best_40 : decode cX12_best 40 = .ok (.invokevirtual 200, 3) := by decide +kernel
theorem dX12_best_43 : decode cX12_best 43 = .ok (.ireturn, 1) := by decide +kernel
theorem dX12_isAsked_0 : decode cX12_isAsked 0 = .ok (.iload_n 2, 1) := by decide +kernel
theorem dX12_isAsked_1 : decode cX12_isAsked 1 = .ok (.iconst (-1), 1) := by decide +kernel
theorem dX12_isAsked_2 : decode cX12_isAsked 2 = .ok (.if_icmp .eq 8, 3) := by decide +kernel
theorem dX12_isAsked_5 : decode cX12_isAsked 5 = .ok (.iload_n 2, 1) := by decide +kernel
theorem dX12_isAsked_6 : decode cX12_isAsked 6 = .ok (.iload_n 1, 1) := by decide +kernel
theorem dX12_isAsked_7 : decode cX12_isAsked 7 = .ok (.if_icmp .ne 7, 3) := by decide +kernel
theorem dX12_isAsked_10 : decode cX12_isAsked 10 = .ok (.iconst 1, 1) := by decide +kernel
theorem dX12_isAsked_11 : decode cX12_isAsked 11 = .ok (.goto 4, 3) := by decide +kernel
theorem dX12_isAsked_14 : decode cX12_isAsked 14 = .ok (.iconst 0, 1) := by decide +kernel
theorem dX12_isAsked_15 : decode cX12_isAsked 15 = .ok (.ireturn, 1) := by decide +kernel
theorem dX12_byOne_0 : decode cX12_byOne 0 = .ok (.iconst 0, 1) := by decide +kernel
theorem dX12_byOne_1 : decode cX12_byOne 1 = .ok (.istore 4, 2) := by decide +kernel
theorem dX12_byOne_3 : decode cX12_byOne 3 = .ok (.iload 4, 2) := by decide +kernel
theorem dX12_byOne_5 : decode cX12_byOne 5 = .ok (.aload_n 0, 1) := by decide +kernel
theorem dX12_byOne_6 : decode cX12_byOne 6 = .ok (.getfield 7, 3) := by decide +kernel
theorem dX12_byOne_9 : decode cX12_byOne 9 = .ok (.iconst 4, 1) := by decide +kernel
theorem dX12_byOne_10 : decode cX12_byOne 10 = .ok (.iaload, 1) := by decide +kernel
theorem dX12_byOne_11 : decode cX12_byOne 11 = .ok (.if_icmp .ge 64, 3) := by decide +kernel
theorem dX12_byOne_14 : decode cX12_byOne 14 = .ok (.iconst 0, 1) := by decide +kernel
theorem dX12_byOne_15 : decode cX12_byOne 15 = .ok (.istore 5, 2) := by decide +kernel
theorem dX12_byOne_17 : decode cX12_byOne 17 = .ok (.iload 5, 2) := by decide +kernel
theorem dX12_byOne_19 : decode cX12_byOne 19 = .ok (.aload_n 0, 1) := by decide +kernel
theorem dX12_byOne_20 : decode cX12_byOne 20 = .ok (.getfield 7, 3) := by decide +kernel
theorem dX12_byOne_23 : decode cX12_byOne 23 = .ok (.iconst 3, 1) := by decide +kernel
theorem dX12_byOne_24 : decode cX12_byOne 24 = .ok (.iaload, 1) := by decide +kernel
theorem dX12_byOne_25 : decode cX12_byOne 25 = .ok (.if_icmp .ge 44, 3) := by decide +kernel
theorem dX12_byOne_28 : decode cX12_byOne 28 = .ok (.aload_n 0, 1) := by decide +kernel
theorem dX12_byOne_29 : decode cX12_byOne 29 = .ok (.iload 4, 2) := by decide +kernel
theorem dX12_byOne_31 : decode cX12_byOne 31 = .ok (.iload_n 3, 1) := by decide +kernel
theorem dX12_byOne_32 : decode cX12_byOne 32 = .ok (.invokevirtual 433, 3) := by decide +kernel
theorem dX12_byOne_35 : decode cX12_byOne 35 = .ok (.ifCond .eq 28, 3) := by decide +kernel
theorem dX12_byOne_38 : decode cX12_byOne 38 = .ok (.aload_n 0, 1) := by decide +kernel
theorem dX12_byOne_39 : decode cX12_byOne 39 = .ok (.getfield 72, 3) := by decide +kernel
theorem dX12_byOne_42 : decode cX12_byOne 42 = .ok (.iload 5, 2) := by decide +kernel
theorem dX12_byOne_44 : decode cX12_byOne 44 = .ok (.baload, 1) := by decide +kernel
theorem dX12_byOne_45 : decode cX12_byOne 45 = .ok (.ifCond .ne 18, 3) := by decide +kernel
theorem dX12_byOne_48 : decode cX12_byOne 48 = .ok (.aload_n 0, 1) := by decide +kernel
theorem dX12_byOne_49 : decode cX12_byOne 49 = .ok (.iload_n 1, 1) := by decide +kernel
theorem dX12_byOne_50 : decode cX12_byOne 50 = .ok (.iload_n 2, 1) := by decide +kernel
theorem dX12_byOne_51 : decode cX12_byOne 51 = .ok (.iload 4, 2) := by decide +kernel
theorem dX12_byOne_53 : decode cX12_byOne 53 = .ok (.iload 5, 2) := by decide +kernel
theorem dX12_byOne_55 : decode cX12_byOne 55 = .ok (.invokevirtual 436, 3) := by decide +kernel
theorem dX12_byOne_58 : decode cX12_byOne 58 = .ok (.ifCond .eq 5, 3) := by decide +kernel
theorem dX12_byOne_61 : decode cX12_byOne 61 = .ok (.iconst 1, 1) := by decide +kernel
theorem dX12_byOne_62 : decode cX12_byOne 62 = .ok (.ireturn, 1) := by decide +kernel
theorem dX12_byOne_63 : decode cX12_byOne 63 = .ok (.iinc 5 1, 3) := by decide +kernel
theorem dX12_byOne_66 : decode cX12_byOne 66 = .ok (.goto (-49), 3) := by decide +kernel
theorem dX12_byOne_69 : decode cX12_byOne 69 = .ok (.iinc 4 1, 3) := by decide +kernel
theorem dX12_byOne_72 : decode cX12_byOne 72 = .ok (.goto (-69), 3) := by decide +kernel
theorem dX12_byOne_75 : decode cX12_byOne 75 = .ok (.iconst 0, 1) := by decide +kernel
theorem dX12_byOne_76 : decode cX12_byOne 76 = .ok (.ireturn, 1) := by decide +kernel
theorem dX12_oneIs_0 : decode cX12_oneIs 0 = .ok (.iconst 0, 1) := by decide +kernel
theorem dX12_oneIs_1 : decode cX12_oneIs 1 = .ok (.istore 5, 2) := by decide +kernel
theorem dX12_oneIs_3 : decode cX12_oneIs 3 = .ok (.iload 5, 2) := by decide +kernel
theorem dX12_oneIs_5 : decode cX12_oneIs 5 = .ok (.iconst 2, 1) := by decide +kernel
theorem dX12_oneIs_6 : decode cX12_oneIs 6 = .ok (.aload_n 0, 1) := by decide +kernel
theorem dX12_oneIs_7 : decode cX12_oneIs 7 = .ok (.getfield 7, 3) := by decide +kernel
theorem dX12_oneIs_10 : decode cX12_oneIs 10 = .ok (.iconst 3, 1) := by decide +kernel
theorem dX12_oneIs_11 : decode cX12_oneIs 11 = .ok (.iaload, 1) := by decide +kernel
theorem dX12_oneIs_12 : decode cX12_oneIs 12 = .ok (.imul, 1) := by decide +kernel
theorem dX12_oneIs_13 : decode cX12_oneIs 13 = .ok (.if_icmp .ge 36, 3) := by decide +kernel
theorem dX12_oneIs_16 : decode cX12_oneIs 16 = .ok (.aload_n 0, 1) := by decide +kernel
theorem dX12_oneIs_17 : decode cX12_oneIs 17 = .ok (.iload_n 1, 1) := by decide +kernel
theorem dX12_oneIs_18 : decode cX12_oneIs 18 = .ok (.iload_n 3, 1) := by decide +kernel
theorem dX12_oneIs_19 : decode cX12_oneIs 19 = .ok (.iload 4, 2) := by decide +kernel
theorem dX12_oneIs_21 : decode cX12_oneIs 21 = .ok (.iload 5, 2) := by decide +kernel
theorem dX12_oneIs_23 : decode cX12_oneIs 23 = .ok (.invokevirtual 421, 3) := by decide +kernel
theorem dX12_oneIs_26 : decode cX12_oneIs 26 = .ok (.ifCond .le 17, 3) := by decide +kernel
theorem dX12_oneIs_29 : decode cX12_oneIs 29 = .ok (.aload_n 0, 1) := by decide +kernel
theorem dX12_oneIs_30 : decode cX12_oneIs 30 = .ok (.iload_n 1, 1) := by decide +kernel
theorem dX12_oneIs_31 : decode cX12_oneIs 31 = .ok (.iconst 1, 1) := by decide +kernel
theorem dX12_oneIs_32 : decode cX12_oneIs 32 = .ok (.iadd, 1) := by decide +kernel
theorem dX12_oneIs_33 : decode cX12_oneIs 33 = .ok (.iload_n 2, 1) := by decide +kernel
theorem dX12_oneIs_34 : decode cX12_oneIs 34 = .ok (.invokevirtual 394, 3) := by decide +kernel
theorem dX12_oneIs_37 : decode cX12_oneIs 37 = .ok (.iconst (-1), 1) := by decide +kernel
theorem dX12_oneIs_38 : decode cX12_oneIs 38 = .ok (.if_icmp .ne 5, 3) := by decide +kernel
theorem dX12_oneIs_41 : decode cX12_oneIs 41 = .ok (.iconst 0, 1) := by decide +kernel
theorem dX12_oneIs_42 : decode cX12_oneIs 42 = .ok (.ireturn, 1) := by decide +kernel
theorem dX12_oneIs_43 : decode cX12_oneIs 43 = .ok (.iinc 5 1, 3) := by decide +kernel
theorem dX12_oneIs_46 : decode cX12_oneIs 46 = .ok (.goto (-43), 3) := by decide +kernel
theorem dX12_oneIs_49 : decode cX12_oneIs 49 = .ok (.iconst 1, 1) := by decide +kernel
theorem dX12_oneIs_50 : decode cX12_oneIs 50 = .ok (.ireturn, 1) := by decide +kernel
theorem dX12_byTwo_0 : decode cX12_byTwo 0 = .ok (.iconst 0, 1) := by decide +kernel
theorem dX12_byTwo_1 : decode cX12_byTwo 1 = .ok (.istore 4, 2) := by decide +kernel
theorem dX12_byTwo_3 : decode cX12_byTwo 3 = .ok (.iload 4, 2) := by decide +kernel
theorem dX12_byTwo_5 : decode cX12_byTwo 5 = .ok (.aload_n 0, 1) := by decide +kernel
theorem dX12_byTwo_6 : decode cX12_byTwo 6 = .ok (.getfield 7, 3) := by decide +kernel
theorem dX12_byTwo_9 : decode cX12_byTwo 9 = .ok (.iconst 4, 1) := by decide +kernel
theorem dX12_byTwo_10 : decode cX12_byTwo 10 = .ok (.iaload, 1) := by decide +kernel
theorem dX12_byTwo_11 : decode cX12_byTwo 11 = .ok (.if_icmp .ge 65, 3) := by decide +kernel
theorem dX12_byTwo_14 : decode cX12_byTwo 14 = .ok (.iconst 0, 1) := by decide +kernel
theorem dX12_byTwo_15 : decode cX12_byTwo 15 = .ok (.istore 5, 2) := by decide +kernel
theorem dX12_byTwo_17 : decode cX12_byTwo 17 = .ok (.iload 5, 2) := by decide +kernel
theorem dX12_byTwo_19 : decode cX12_byTwo 19 = .ok (.aload_n 0, 1) := by decide +kernel
theorem dX12_byTwo_20 : decode cX12_byTwo 20 = .ok (.getfield 7, 3) := by decide +kernel
theorem dX12_byTwo_23 : decode cX12_byTwo 23 = .ok (.iconst 3, 1) := by decide +kernel
theorem dX12_byTwo_24 : decode cX12_byTwo 24 = .ok (.iaload, 1) := by decide +kernel
theorem dX12_byTwo_25 : decode cX12_byTwo 25 = .ok (.if_icmp .ge 45, 3) := by decide +kernel
theorem dX12_byTwo_28 : decode cX12_byTwo 28 = .ok (.aload_n 0, 1) := by decide +kernel
theorem dX12_byTwo_29 : decode cX12_byTwo 29 = .ok (.iload 4, 2) := by decide +kernel
theorem dX12_byTwo_31 : decode cX12_byTwo 31 = .ok (.iload_n 3, 1) := by decide +kernel
theorem dX12_byTwo_32 : decode cX12_byTwo 32 = .ok (.invokevirtual 433, 3) := by decide +kernel
theorem dX12_byTwo_35 : decode cX12_byTwo 35 = .ok (.ifCond .eq 29, 3) := by decide +kernel
theorem dX12_byTwo_38 : decode cX12_byTwo 38 = .ok (.aload_n 0, 1) := by decide +kernel
theorem dX12_byTwo_39 : decode cX12_byTwo 39 = .ok (.getfield 72, 3) := by decide +kernel
theorem dX12_byTwo_42 : decode cX12_byTwo 42 = .ok (.iload 5, 2) := by decide +kernel
theorem dX12_byTwo_44 : decode cX12_byTwo 44 = .ok (.baload, 1) := by decide +kernel
theorem dX12_byTwo_45 : decode cX12_byTwo 45 = .ok (.ifCond .ne 19, 3) := by decide +kernel
theorem dX12_byTwo_48 : decode cX12_byTwo 48 = .ok (.aload_n 0, 1) := by decide +kernel
theorem dX12_byTwo_49 : decode cX12_byTwo 49 = .ok (.iload_n 1, 1) := by decide +kernel
theorem dX12_byTwo_50 : decode cX12_byTwo 50 = .ok (.iload_n 2, 1) := by decide +kernel
theorem dX12_byTwo_51 : decode cX12_byTwo 51 = .ok (.iload 4, 2) := by decide +kernel
theorem dX12_byTwo_53 : decode cX12_byTwo 53 = .ok (.iload 5, 2) := by decide +kernel
theorem dX12_byTwo_55 : decode cX12_byTwo 55 = .ok (.iload_n 3, 1) := by decide +kernel
theorem dX12_byTwo_56 : decode cX12_byTwo 56 = .ok (.invokevirtual 440, 3) := by decide +kernel
theorem dX12_byTwo_59 : decode cX12_byTwo 59 = .ok (.ifCond .eq 5, 3) := by decide +kernel
theorem dX12_byTwo_62 : decode cX12_byTwo 62 = .ok (.iconst 1, 1) := by decide +kernel
theorem dX12_byTwo_63 : decode cX12_byTwo 63 = .ok (.ireturn, 1) := by decide +kernel
theorem dX12_byTwo_64 : decode cX12_byTwo 64 = .ok (.iinc 5 1, 3) := by decide +kernel
theorem dX12_byTwo_67 : decode cX12_byTwo 67 = .ok (.goto (-50), 3) := by decide +kernel
theorem dX12_byTwo_70 : decode cX12_byTwo 70 = .ok (.iinc 4 1, 3) := by decide +kernel
theorem dX12_byTwo_73 : decode cX12_byTwo 73 = .ok (.goto (-70), 3) := by decide +kernel
theorem dX12_byTwo_76 : decode cX12_byTwo 76 = .ok (.iconst 0, 1) := by decide +kernel
theorem dX12_byTwo_77 : decode cX12_byTwo 77 = .ok (.ireturn, 1) := by decide +kernel
theorem dX12_twoAre_0 : decode cX12_twoAre 0 = .ok (.aload_n 0, 1) := by decide +kernel
theorem dX12_twoAre_1 : decode cX12_twoAre 1 = .ok (.getfield 72, 3) := by decide +kernel
theorem dX12_twoAre_4 : decode cX12_twoAre 4 = .ok (.iload 4, 2) := by decide +kernel
theorem dX12_twoAre_6 : decode cX12_twoAre 6 = .ok (.iconst 1, 1) := by decide +kernel
theorem dX12_twoAre_7 : decode cX12_twoAre 7 = .ok (.bastore, 1) := by decide +kernel
theorem dX12_twoAre_8 : decode cX12_twoAre 8 = .ok (.iconst 1, 1) := by decide +kernel
theorem dX12_twoAre_9 : decode cX12_twoAre 9 = .ok (.istore 6, 2) := by decide +kernel
theorem dX12_twoAre_11 : decode cX12_twoAre 11 = .ok (.iconst 0, 1) := by decide +kernel
theorem dX12_twoAre_12 : decode cX12_twoAre 12 = .ok (.istore 7, 2) := by decide +kernel
theorem dX12_twoAre_14 : decode cX12_twoAre 14 = .ok (.iload 7, 2) := by decide +kernel
theorem dX12_twoAre_16 : decode cX12_twoAre 16 = .ok (.iconst 2, 1) := by decide +kernel
theorem dX12_twoAre_17 : decode cX12_twoAre 17 = .ok (.aload_n 0, 1) := by decide +kernel
theorem dX12_twoAre_18 : decode cX12_twoAre 18 = .ok (.getfield 7, 3) := by decide +kernel
theorem dX12_twoAre_21 : decode cX12_twoAre 21 = .ok (.iconst 3, 1) := by decide +kernel
theorem dX12_twoAre_22 : decode cX12_twoAre 22 = .ok (.iaload, 1) := by decide +kernel
theorem dX12_twoAre_23 : decode cX12_twoAre 23 = .ok (.imul, 1) := by decide +kernel
theorem dX12_twoAre_24 : decode cX12_twoAre 24 = .ok (.if_icmp .ge 59, 3) := by decide +kernel
theorem dX12_twoAre_27 : decode cX12_twoAre 27 = .ok (.iload 6, 2) := by decide +kernel
theorem dX12_twoAre_29 : decode cX12_twoAre 29 = .ok (.ifCond .eq 54, 3) := by decide +kernel
theorem dX12_twoAre_32 : decode cX12_twoAre 32 = .ok (.aload_n 0, 1) := by decide +kernel
theorem dX12_twoAre_33 : decode cX12_twoAre 33 = .ok (.iload_n 1, 1) := by decide +kernel
theorem dX12_twoAre_34 : decode cX12_twoAre 34 = .ok (.iload_n 3, 1) := by decide +kernel
theorem dX12_twoAre_35 : decode cX12_twoAre 35 = .ok (.iload 4, 2) := by decide +kernel
theorem dX12_twoAre_37 : decode cX12_twoAre 37 = .ok (.iload 7, 2) := by decide +kernel
theorem dX12_twoAre_39 : decode cX12_twoAre 39 = .ok (.invokevirtual 421, 3) := by decide +kernel
theorem dX12_twoAre_42 : decode cX12_twoAre 42 = .ok (.ifCond .le 35, 3) := by decide +kernel
theorem dX12_twoAre_45 : decode cX12_twoAre 45 = .ok (.aload_n 0, 1) := by decide +kernel
theorem dX12_twoAre_46 : decode cX12_twoAre 46 = .ok (.iload_n 1, 1) := by decide +kernel
theorem dX12_twoAre_47 : decode cX12_twoAre 47 = .ok (.iconst 1, 1) := by decide +kernel
theorem dX12_twoAre_48 : decode cX12_twoAre 48 = .ok (.iadd, 1) := by decide +kernel
theorem dX12_twoAre_49 : decode cX12_twoAre 49 = .ok (.iload_n 2, 1) := by decide +kernel
theorem dX12_twoAre_50 : decode cX12_twoAre 50 = .ok (.invokevirtual 394, 3) := by decide +kernel
theorem dX12_twoAre_53 : decode cX12_twoAre 53 = .ok (.iconst (-1), 1) := by decide +kernel
theorem dX12_twoAre_54 : decode cX12_twoAre 54 = .ok (.if_icmp .ne 16, 3) := by decide +kernel
theorem dX12_twoAre_57 : decode cX12_twoAre 57 = .ok (.aload_n 0, 1) := by decide +kernel
theorem dX12_twoAre_58 : decode cX12_twoAre 58 = .ok (.iload_n 1, 1) := by decide +kernel
theorem dX12_twoAre_59 : decode cX12_twoAre 59 = .ok (.iconst 1, 1) := by decide +kernel
theorem dX12_twoAre_60 : decode cX12_twoAre 60 = .ok (.iadd, 1) := by decide +kernel
theorem dX12_twoAre_61 : decode cX12_twoAre 61 = .ok (.iload_n 2, 1) := by decide +kernel
theorem dX12_twoAre_62 : decode cX12_twoAre 62 = .ok (.iload 5, 2) := by decide +kernel
theorem dX12_twoAre_64 : decode cX12_twoAre 64 = .ok (.invokevirtual 444, 3) := by decide +kernel
theorem dX12_twoAre_67 : decode cX12_twoAre 67 = .ok (.ifCond .eq 7, 3) := by decide +kernel
theorem dX12_twoAre_70 : decode cX12_twoAre 70 = .ok (.iconst 1, 1) := by decide +kernel
theorem dX12_twoAre_71 : decode cX12_twoAre 71 = .ok (.goto 4, 3) := by decide +kernel
theorem dX12_twoAre_74 : decode cX12_twoAre 74 = .ok (.iconst 0, 1) := by decide +kernel
theorem dX12_twoAre_75 : decode cX12_twoAre 75 = .ok (.istore 6, 2) := by decide +kernel
theorem dX12_twoAre_77 : decode cX12_twoAre 77 = .ok (.iinc 7 1, 3) := by decide +kernel
theorem dX12_twoAre_80 : decode cX12_twoAre 80 = .ok (.goto (-66), 3) := by decide +kernel
theorem dX12_twoAre_83 : decode cX12_twoAre 83 = .ok (.aload_n 0, 1) := by decide +kernel
theorem dX12_twoAre_84 : decode cX12_twoAre 84 = .ok (.getfield 72, 3) := by decide +kernel
theorem dX12_twoAre_87 : decode cX12_twoAre 87 = .ok (.iload 4, 2) := by decide +kernel
theorem dX12_twoAre_89 : decode cX12_twoAre 89 = .ok (.iconst 0, 1) := by decide +kernel
theorem dX12_twoAre_90 : decode cX12_twoAre 90 = .ok (.bastore, 1) := by decide +kernel
theorem dX12_twoAre_91 : decode cX12_twoAre 91 = .ok (.iload 6, 2) := by decide +kernel
theorem dX12_twoAre_93 : decode cX12_twoAre 93 = .ok (.ireturn, 1) := by decide +kernel
theorem dX12_threeAre_0 : decode cX12_threeAre 0 = .ok (.aload_n 0, 1) := by decide +kernel
theorem dX12_threeAre_1 : decode cX12_threeAre 1 = .ok (.getfield 72, 3) := by decide +kernel
theorem dX12_threeAre_4 : decode cX12_threeAre 4 = .ok (.iload_n 3, 1) := by decide +kernel
theorem dX12_threeAre_5 : decode cX12_threeAre 5 = .ok (.iconst 1, 1) := by decide +kernel
theorem dX12_threeAre_6 : decode cX12_threeAre 6 = .ok (.bastore, 1) := by decide +kernel
theorem dX12_threeAre_7 : decode cX12_threeAre 7 = .ok (.iconst 1, 1) := by decide +kernel
theorem dX12_threeAre_8 : decode cX12_threeAre 8 = .ok (.istore 5, 2) := by decide +kernel
theorem dX12_threeAre_10 : decode cX12_threeAre 10 = .ok (.iconst 0, 1) := by decide +kernel
theorem dX12_threeAre_11 : decode cX12_threeAre 11 = .ok (.istore 6, 2) := by decide +kernel
theorem dX12_threeAre_13 : decode cX12_threeAre 13 = .ok (.iload 6, 2) := by decide +kernel
theorem dX12_threeAre_15 : decode cX12_threeAre 15 = .ok (.iconst 2, 1) := by decide +kernel
theorem dX12_threeAre_16 : decode cX12_threeAre 16 = .ok (.aload_n 0, 1) := by decide +kernel
theorem dX12_threeAre_17 : decode cX12_threeAre 17 = .ok (.getfield 7, 3) := by decide +kernel
theorem dX12_threeAre_20 : decode cX12_threeAre 20 = .ok (.iconst 3, 1) := by decide +kernel
theorem dX12_threeAre_21 : decode cX12_threeAre 21 = .ok (.iaload, 1) := by decide +kernel
theorem dX12_threeAre_22 : decode cX12_threeAre 22 = .ok (.imul, 1) := by decide +kernel
theorem dX12_threeAre_23 : decode cX12_threeAre 23 = .ok (.if_icmp .ge 54, 3) := by decide +kernel
theorem dX12_threeAre_26 : decode cX12_threeAre 26 = .ok (.iload 5, 2) := by decide +kernel
theorem dX12_threeAre_28 : decode cX12_threeAre 28 = .ok (.ifCond .eq 49, 3) := by decide +kernel
theorem dX12_threeAre_31 : decode cX12_threeAre 31 = .ok (.aload_n 0, 1) := by decide +kernel
theorem dX12_threeAre_32 : decode cX12_threeAre 32 = .ok (.iconst 0, 1) := by decide +kernel
theorem dX12_threeAre_33 : decode cX12_threeAre 33 = .ok (.iload_n 2, 1) := by decide +kernel
theorem dX12_threeAre_34 : decode cX12_threeAre 34 = .ok (.iload_n 3, 1) := by decide +kernel
theorem dX12_threeAre_35 : decode cX12_threeAre 35 = .ok (.iload 6, 2) := by decide +kernel
theorem dX12_threeAre_37 : decode cX12_threeAre 37 = .ok (.invokevirtual 421, 3) := by decide +kernel
theorem dX12_threeAre_40 : decode cX12_threeAre 40 = .ok (.ifCond .le 31, 3) := by decide +kernel
theorem dX12_threeAre_43 : decode cX12_threeAre 43 = .ok (.aload_n 0, 1) := by decide +kernel
theorem dX12_threeAre_44 : decode cX12_threeAre 44 = .ok (.iconst 1, 1) := by decide +kernel
theorem dX12_threeAre_45 : decode cX12_threeAre 45 = .ok (.iload_n 1, 1) := by decide +kernel
theorem dX12_threeAre_46 : decode cX12_threeAre 46 = .ok (.invokevirtual 394, 3) := by decide +kernel
theorem dX12_threeAre_49 : decode cX12_threeAre 49 = .ok (.iconst (-1), 1) := by decide +kernel
theorem dX12_threeAre_50 : decode cX12_threeAre 50 = .ok (.if_icmp .ne 14, 3) := by decide +kernel
theorem dX12_threeAre_53 : decode cX12_threeAre 53 = .ok (.aload_n 0, 1) := by decide +kernel
theorem dX12_threeAre_54 : decode cX12_threeAre 54 = .ok (.iconst 1, 1) := by decide +kernel
theorem dX12_threeAre_55 : decode cX12_threeAre 55 = .ok (.iload_n 1, 1) := by decide +kernel
theorem dX12_threeAre_56 : decode cX12_threeAre 56 = .ok (.iload 4, 2) := by decide +kernel
theorem dX12_threeAre_58 : decode cX12_threeAre 58 = .ok (.invokevirtual 447, 3) := by decide +kernel
theorem dX12_threeAre_61 : decode cX12_threeAre 61 = .ok (.ifCond .eq 7, 3) := by decide +kernel
theorem dX12_threeAre_64 : decode cX12_threeAre 64 = .ok (.iconst 1, 1) := by decide +kernel
theorem dX12_threeAre_65 : decode cX12_threeAre 65 = .ok (.goto 4, 3) := by decide +kernel
theorem dX12_threeAre_68 : decode cX12_threeAre 68 = .ok (.iconst 0, 1) := by decide +kernel
theorem dX12_threeAre_69 : decode cX12_threeAre 69 = .ok (.istore 5, 2) := by decide +kernel
theorem dX12_threeAre_71 : decode cX12_threeAre 71 = .ok (.iinc 6 1, 3) := by decide +kernel
theorem dX12_threeAre_74 : decode cX12_threeAre 74 = .ok (.goto (-61), 3) := by decide +kernel
theorem dX12_threeAre_77 : decode cX12_threeAre 77 = .ok (.aload_n 0, 1) := by decide +kernel
theorem dX12_threeAre_78 : decode cX12_threeAre 78 = .ok (.getfield 72, 3) := by decide +kernel
theorem dX12_threeAre_81 : decode cX12_threeAre 81 = .ok (.iload_n 3, 1) := by decide +kernel
theorem dX12_threeAre_82 : decode cX12_threeAre 82 = .ok (.iconst 0, 1) := by decide +kernel
theorem dX12_threeAre_83 : decode cX12_threeAre 83 = .ok (.bastore, 1) := by decide +kernel
theorem dX12_threeAre_84 : decode cX12_threeAre 84 = .ok (.iload 5, 2) := by decide +kernel
theorem dX12_threeAre_86 : decode cX12_threeAre 86 = .ok (.ireturn, 1) := by decide +kernel
theorem dX12_areEnough_0 : decode cX12_areEnough 0 = .ok (.iconst 0, 1) := by decide +kernel
theorem dX12_areEnough_1 : decode cX12_areEnough 1 = .ok (.istore 4, 2) := by decide +kernel
theorem dX12_areEnough_3 : decode cX12_areEnough 3 = .ok (.iload 4, 2) := by decide +kernel
theorem dX12_areEnough_5 : decode cX12_areEnough 5 = .ok (.aload_n 0, 1) := by decide +kernel
theorem dX12_areEnough_6 : decode cX12_areEnough 6 = .ok (.getfield 7, 3) := by decide +kernel
theorem dX12_areEnough_9 : decode cX12_areEnough 9 = .ok (.iconst 4, 1) := by decide +kernel
theorem dX12_areEnough_10 : decode cX12_areEnough 10 = .ok (.iaload, 1) := by decide +kernel
theorem dX12_areEnough_11 : decode cX12_areEnough 11 = .ok (.if_icmp .ge 125, 3) := by decide +kernel
theorem dX12_areEnough_14 : decode cX12_areEnough 14 = .ok (.iconst 0, 1) := by decide +kernel
theorem dX12_areEnough_15 : decode cX12_areEnough 15 = .ok (.istore 5, 2) := by decide +kernel
theorem dX12_areEnough_17 : decode cX12_areEnough 17 = .ok (.iload 5, 2) := by decide +kernel
theorem dX12_areEnough_19 : decode cX12_areEnough 19 = .ok (.aload_n 0, 1) := by decide +kernel
theorem dX12_areEnough_20 : decode cX12_areEnough 20 = .ok (.getfield 7, 3) := by decide +kernel
theorem dX12_areEnough_23 : decode cX12_areEnough 23 = .ok (.iconst 3, 1) := by decide +kernel
theorem dX12_areEnough_24 : decode cX12_areEnough 24 = .ok (.iaload, 1) := by decide +kernel
theorem dX12_areEnough_25 : decode cX12_areEnough 25 = .ok (.if_icmp .ge 105, 3) := by decide +kernel
theorem dX12_areEnough_28 : decode cX12_areEnough 28 = .ok (.aload_n 0, 1) := by decide +kernel
theorem dX12_areEnough_29 : decode cX12_areEnough 29 = .ok (.iload 4, 2) := by decide +kernel
theorem dX12_areEnough_31 : decode cX12_areEnough 31 = .ok (.iload_n 3, 1) := by decide +kernel
theorem dX12_areEnough_32 : decode cX12_areEnough 32 = .ok (.invokevirtual 433, 3) := by decide +kernel
theorem dX12_areEnough_35 : decode cX12_areEnough 35 = .ok (.ifCond .eq 89, 3) := by decide +kernel
theorem dX12_areEnough_38 : decode cX12_areEnough 38 = .ok (.aload_n 0, 1) := by decide +kernel
theorem dX12_areEnough_39 : decode cX12_areEnough 39 = .ok (.getfield 72, 3) := by decide +kernel
theorem dX12_areEnough_42 : decode cX12_areEnough 42 = .ok (.iload 5, 2) := by decide +kernel
theorem dX12_areEnough_44 : decode cX12_areEnough 44 = .ok (.baload, 1) := by decide +kernel
theorem dX12_areEnough_45 : decode cX12_areEnough 45 = .ok (.ifCond .eq 6, 3) := by decide +kernel
theorem dX12_areEnough_48 : decode cX12_areEnough 48 = .ok (.goto 76, 3) := by decide +kernel
theorem dX12_areEnough_51 : decode cX12_areEnough 51 = .ok (.iload_n 1, 1) := by decide +kernel
theorem dX12_areEnough_52 : decode cX12_areEnough 52 = .ok (.iconst 1, 1) := by decide +kernel
theorem dX12_areEnough_53 : decode cX12_areEnough 53 = .ok (.if_icmp .ne 19, 3) := by decide +kernel
theorem dX12_areEnough_56 : decode cX12_areEnough 56 = .ok (.aload_n 0, 1) := by decide +kernel
theorem dX12_areEnough_57 : decode cX12_areEnough 57 = .ok (.iconst 0, 1) := by decide +kernel
theorem dX12_areEnough_58 : decode cX12_areEnough 58 = .ok (.iload_n 2, 1) := by decide +kernel
theorem dX12_areEnough_59 : decode cX12_areEnough 59 = .ok (.iload 4, 2) := by decide +kernel
theorem dX12_areEnough_61 : decode cX12_areEnough 61 = .ok (.iload 5, 2) := by decide +kernel
theorem dX12_areEnough_63 : decode cX12_areEnough 63 = .ok (.invokevirtual 436, 3) := by decide +kernel
theorem dX12_areEnough_66 : decode cX12_areEnough 66 = .ok (.ifCond .ne 44, 3) := by decide +kernel
theorem dX12_areEnough_69 : decode cX12_areEnough 69 = .ok (.goto 55, 3) := by decide +kernel
theorem dX12_areEnough_72 : decode cX12_areEnough 72 = .ok (.iload_n 1, 1) := by decide +kernel
theorem dX12_areEnough_73 : decode cX12_areEnough 73 = .ok (.iconst 2, 1) := by decide +kernel
theorem dX12_areEnough_74 : decode cX12_areEnough 74 = .ok (.if_icmp .ne 20, 3) := by decide +kernel
theorem dX12_areEnough_77 : decode cX12_areEnough 77 = .ok (.aload_n 0, 1) := by decide +kernel
theorem dX12_areEnough_78 : decode cX12_areEnough 78 = .ok (.iconst 0, 1) := by decide +kernel
theorem dX12_areEnough_79 : decode cX12_areEnough 79 = .ok (.iload_n 2, 1) := by decide +kernel
theorem dX12_areEnough_80 : decode cX12_areEnough 80 = .ok (.iload 4, 2) := by decide +kernel
theorem dX12_areEnough_82 : decode cX12_areEnough 82 = .ok (.iload 5, 2) := by decide +kernel
theorem dX12_areEnough_84 : decode cX12_areEnough 84 = .ok (.iload_n 3, 1) := by decide +kernel
theorem dX12_areEnough_85 : decode cX12_areEnough 85 = .ok (.invokevirtual 440, 3) := by decide +kernel
theorem dX12_areEnough_88 : decode cX12_areEnough 88 = .ok (.ifCond .ne 22, 3) := by decide +kernel
theorem dX12_areEnough_91 : decode cX12_areEnough 91 = .ok (.goto 33, 3) := by decide +kernel
theorem dX12_areEnough_94 : decode cX12_areEnough 94 = .ok (.aload_n 0, 1) := by decide +kernel
theorem dX12_areEnough_95 : decode cX12_areEnough 95 = .ok (.iload_n 2, 1) := by decide +kernel
theorem dX12_areEnough_96 : decode cX12_areEnough 96 = .ok (.iload 4, 2) := by decide +kernel
theorem dX12_areEnough_98 : decode cX12_areEnough 98 = .ok (.iload 5, 2) := by decide +kernel
theorem dX12_areEnough_100 : decode cX12_areEnough 100 = .ok (.iload_n 3, 1) := by decide +kernel
theorem dX12_areEnough_101 : decode cX12_areEnough 101 = .ok (.invokevirtual 450, 3) := by decide +kernel
theorem dX12_areEnough_104 : decode cX12_areEnough 104 = .ok (.ifCond .ne 6, 3) := by decide +kernel
theorem dX12_areEnough_107 : decode cX12_areEnough 107 = .ok (.goto 17, 3) := by decide +kernel
theorem dX12_areEnough_110 : decode cX12_areEnough 110 = .ok (.aload_n 0, 1) := by decide +kernel
theorem dX12_areEnough_111 : decode cX12_areEnough 111 = .ok (.iload 4, 2) := by decide +kernel
theorem dX12_areEnough_113 : decode cX12_areEnough 113 = .ok (.putfield 79, 3) := by decide +kernel
theorem dX12_areEnough_116 : decode cX12_areEnough 116 = .ok (.aload_n 0, 1) := by decide +kernel
theorem dX12_areEnough_117 : decode cX12_areEnough 117 = .ok (.iload 5, 2) := by decide +kernel
theorem dX12_areEnough_119 : decode cX12_areEnough 119 = .ok (.putfield 453, 3) := by decide +kernel
theorem dX12_areEnough_122 : decode cX12_areEnough 122 = .ok (.iconst 1, 1) := by decide +kernel
theorem dX12_areEnough_123 : decode cX12_areEnough 123 = .ok (.ireturn, 1) := by decide +kernel
theorem dX12_areEnough_124 : decode cX12_areEnough 124 = .ok (.iinc 5 1, 3) := by decide +kernel
theorem dX12_areEnough_127 : decode cX12_areEnough 127 = .ok (.goto (-110), 3) := by decide +kernel
theorem dX12_areEnough_130 : decode cX12_areEnough 130 = .ok (.iinc 4 1, 3) := by decide +kernel
theorem dX12_areEnough_133 : decode cX12_areEnough 133 = .ok (.goto (-130), 3) := by decide +kernel
theorem dX12_areEnough_136 : decode cX12_areEnough 136 = .ok (.iconst 0, 1) := by decide +kernel
theorem dX12_areEnough_137 : decode cX12_areEnough 137 = .ok (.ireturn, 1) := by decide +kernel
theorem dX12_shortest_0 : decode cX12_shortest 0 = .ok (.aload_n 0, 1) := by decide +kernel
theorem dX12_shortest_1 : decode cX12_shortest 1 = .ok (.iload_n 1, 1) := by decide +kernel
theorem dX12_shortest_2 : decode cX12_shortest 2 = .ok (.invokevirtual 334, 3) := by decide +kernel
theorem dX12_shortest_5 : decode cX12_shortest 5 = .ok (.ifCond .eq 16, 3) := by decide +kernel
theorem dX12_shortest_8 : decode cX12_shortest 8 = .ok (.iload_n 2, 1) := by decide +kernel
theorem dX12_shortest_9 : decode cX12_shortest 9 = .ok (.iconst (-1), 1) := by decide +kernel
theorem dX12_shortest_10 : decode cX12_shortest 10 = .ok (.if_icmp .eq 17, 3) := by decide +kernel
theorem dX12_shortest_13 : decode cX12_shortest 13 = .ok (.aload_n 0, 1) := by decide +kernel
theorem dX12_shortest_14 : decode cX12_shortest 14 = .ok (.iload_n 2, 1) := by decide +kernel
theorem dX12_shortest_15 : decode cX12_shortest 15 = .ok (.invokevirtual 340, 3) := by decide +kernel
theorem dX12_shortest_18 : decode cX12_shortest 18 = .ok (.ifCond .ne 9, 3) := by decide +kernel
theorem dX12_shortest_21 : decode cX12_shortest 21 = .ok (.aload_n 0, 1) := by decide +kernel
theorem dX12_shortest_22 : decode cX12_shortest 22 = .ok (.iconst 1, 1) := by decide +kernel
theorem dX12_shortest_23 : decode cX12_shortest 23 = .ok (.invokevirtual 197, 3) := by decide +kernel
theorem dX12_shortest_26 : decode cX12_shortest 26 = .ok (.ireturn, 1) := by decide +kernel
theorem dX12_shortest_27 : decode cX12_shortest 27 = .ok (.aload_n 0, 1) := by decide +kernel
theorem dX12_shortest_28 : decode cX12_shortest 28 = .ok (.invokevirtual 388, 3) := by decide +kernel
theorem dX12_shortest_31 : decode cX12_shortest 31 = .ok (.aload_n 0, 1) := by decide +kernel
theorem dX12_shortest_32 : decode cX12_shortest 32 = .ok (.iconst 0, 1) := by decide +kernel
theorem dX12_shortest_33 : decode cX12_shortest 33 = .ok (.invokevirtual 391, 3) := by decide +kernel
theorem dX12_shortest_36 : decode cX12_shortest 36 = .ok (.ifCond .ne 10, 3) := by decide +kernel
theorem dX12_shortest_39 : decode cX12_shortest 39 = .ok (.aload_n 0, 1) := by decide +kernel
theorem dX12_shortest_40 : decode cX12_shortest 40 = .ok (.bipush 6, 2) := by decide +kernel
theorem dX12_shortest_42 : decode cX12_shortest 42 = .ok (.invokevirtual 197, 3) := by decide +kernel
theorem dX12_shortest_45 : decode cX12_shortest 45 = .ok (.ireturn, 1) := by decide +kernel
theorem dX12_shortest_46 : decode cX12_shortest 46 = .ok (.aload_n 0, 1) := by decide +kernel
theorem dX12_shortest_47 : decode cX12_shortest 47 = .ok (.iconst 0, 1) := by decide +kernel
theorem dX12_shortest_48 : decode cX12_shortest 48 = .ok (.iload_n 1, 1) := by decide +kernel
theorem dX12_shortest_49 : decode cX12_shortest 49 = .ok (.invokevirtual 394, 3) := by decide +kernel
theorem dX12_shortest_52 : decode cX12_shortest 52 = .ok (.iconst (-1), 1) := by decide +kernel
theorem dX12_shortest_53 : decode cX12_shortest 53 = .ok (.if_icmp .eq 14, 3) := by decide +kernel
theorem dX12_shortest_56 : decode cX12_shortest 56 = .ok (.aload_n 0, 1) := by decide +kernel
theorem dX12_shortest_57 : decode cX12_shortest 57 = .ok (.iconst (-1), 1) := by decide +kernel
theorem dX12_shortest_58 : decode cX12_shortest 58 = .ok (.putfield 79, 3) := by decide +kernel
theorem dX12_shortest_61 : decode cX12_shortest 61 = .ok (.aload_n 0, 1) := by decide +kernel
theorem dX12_shortest_62 : decode cX12_shortest 62 = .ok (.iconst 0, 1) := by decide +kernel
theorem dX12_shortest_63 : decode cX12_shortest 63 = .ok (.invokevirtual 200, 3) := by decide +kernel
theorem dX12_shortest_66 : decode cX12_shortest 66 = .ok (.ireturn, 1) := by decide +kernel
theorem dX12_shortest_67 : decode cX12_shortest 67 = .ok (.iconst 1, 1) := by decide +kernel
theorem dX12_shortest_68 : decode cX12_shortest 68 = .ok (.istore_n 3, 1) := by decide +kernel
theorem dX12_shortest_69 : decode cX12_shortest 69 = .ok (.iload_n 3, 1) := by decide +kernel
theorem dX12_shortest_70 : decode cX12_shortest 70 = .ok (.iload_n 2, 1) := by decide +kernel
theorem dX12_shortest_71 : decode cX12_shortest 71 = .ok (.iconst (-1), 1) := by decide +kernel
theorem dX12_shortest_72 : decode cX12_shortest 72 = .ok (.if_icmp .ne 7, 3) := by decide +kernel
theorem dX12_shortest_75 : decode cX12_shortest 75 = .ok (.iconst 2, 1) := by decide +kernel
theorem dX12_shortest_76 : decode cX12_shortest 76 = .ok (.goto 4, 3) := by decide +kernel
theorem dX12_shortest_79 : decode cX12_shortest 79 = .ok (.iconst 3, 1) := by decide +kernel
theorem dX12_shortest_80 : decode cX12_shortest 80 = .ok (.if_icmp .gt 25, 3) := by decide +kernel
theorem dX12_shortest_83 : decode cX12_shortest 83 = .ok (.aload_n 0, 1) := by decide +kernel
theorem dX12_shortest_84 : decode cX12_shortest 84 = .ok (.iload_n 3, 1) := by decide +kernel
theorem dX12_shortest_85 : decode cX12_shortest 85 = .ok (.iload_n 1, 1) := by decide +kernel
theorem dX12_shortest_86 : decode cX12_shortest 86 = .ok (.iload_n 2, 1) := by decide +kernel
theorem dX12_shortest_87 : decode cX12_shortest 87 = .ok (.invokevirtual 456, 3) := by decide +kernel
theorem dX12_shortest_90 : decode cX12_shortest 90 = .ok (.ifCond .eq 9, 3) := by decide +kernel
theorem dX12_shortest_93 : decode cX12_shortest 93 = .ok (.aload_n 0, 1) := by decide +kernel
theorem dX12_shortest_94 : decode cX12_shortest 94 = .ok (.iload_n 3, 1) := by decide +kernel
theorem dX12_shortest_95 : decode cX12_shortest 95 = .ok (.invokevirtual 200, 3) := by decide +kernel
theorem dX12_shortest_98 : decode cX12_shortest 98 = .ok (.ireturn, 1) := by decide +kernel
theorem dX12_shortest_99 : decode cX12_shortest 99 = .ok (.iinc 3 1, 3) := by decide +kernel
theorem dX12_shortest_102 : decode cX12_shortest 102 = .ok (.goto (-33), 3) := by decide +kernel
theorem dX12_shortest_105 : decode cX12_shortest 105 = .ok (.aload_n 0, 1) := by decide +kernel
theorem dX12_shortest_106 : decode cX12_shortest 106 = .ok (.bipush 6, 2) := by decide +kernel
theorem dX12_shortest_108 : decode cX12_shortest 108 = .ok (.invokevirtual 197, 3) := by decide +kernel
theorem dX12_shortest_111 : decode cX12_shortest 111 = .ok (.ireturn, 1) := by decide +kernel
theorem dX12_shortestFirst_0 : decode cX12_shortestFirst 0 = .ok (.iload_n 1, 1) := by decide +kernel
theorem dX12_shortestFirst_1 : decode cX12_shortestFirst 1 = .ok (.ifCond .lt 8, 3) := by decide +kernel
theorem dX12_shortestFirst_4 : decode cX12_shortestFirst 4 = .ok (.iload_n 1, 1) := by decide +kernel
theorem dX12_shortestFirst_5 : decode cX12_shortestFirst 5 = .ok (.iconst 1, 1) := by decide +kernel
theorem dX12_shortestFirst_6 : decode cX12_shortestFirst 6 = .ok (.if_icmp .le 11, 3) := by decide +kernel
theorem dX12_shortestFirst_9 : decode cX12_shortestFirst 9 = .ok (.aload_n 0, 1) := by decide +kernel
theorem dX12_shortestFirst_10 : decode cX12_shortestFirst 10 = .ok (.iconst 1, 1) := by decide +kernel
theorem dX12_shortestFirst_11 : decode cX12_shortestFirst 11 = .ok (.invokevirtual 197, 3) := by decide +kernel
theorem dX12_shortestFirst_14 : decode cX12_shortestFirst 14 = .ok (.goto 39, 3) := by decide +kernel
theorem dX12_shortestFirst_17 : decode cX12_shortestFirst 17 = .ok (.aload_n 0, 1) := by decide +kernel
theorem dX12_shortestFirst_18 : decode cX12_shortestFirst 18 = .ok (.getfield 79, 3) := by decide +kernel
theorem dX12_shortestFirst_21 : decode cX12_shortestFirst 21 = .ok (.iconst (-1), 1) := by decide +kernel
theorem dX12_shortestFirst_22 : decode cX12_shortestFirst 22 = .ok (.if_icmp .ne 12, 3) := by decide +kernel
theorem dX12_shortestFirst_25 : decode cX12_shortestFirst 25 = .ok (.aload_n 0, 1) := by decide +kernel
theorem dX12_shortestFirst_26 : decode cX12_shortestFirst 26 = .ok (.bipush 6, 2) := by decide +kernel
theorem dX12_shortestFirst_28 : decode cX12_shortestFirst 28 = .ok (.invokevirtual 197, 3) := by decide +kernel
theorem dX12_shortestFirst_31 : decode cX12_shortestFirst 31 = .ok (.goto 22, 3) := by decide +kernel
theorem dX12_shortestFirst_34 : decode cX12_shortestFirst 34 = .ok (.aload_n 0, 1) := by decide +kernel
theorem dX12_shortestFirst_35 : decode cX12_shortestFirst 35 = .ok (.iload_n 1, 1) := by decide +kernel
theorem dX12_shortestFirst_36 : decode cX12_shortestFirst 36 = .ok (.ifCond .ne 10, 3) := by decide +kernel
theorem dX12_shortestFirst_39 : decode cX12_shortestFirst 39 = .ok (.aload_n 0, 1) := by decide +kernel
theorem dX12_shortestFirst_40 : decode cX12_shortestFirst 40 = .ok (.getfield 79, 3) := by decide +kernel
theorem dX12_shortestFirst_43 : decode cX12_shortestFirst 43 = .ok (.goto 7, 3) := by decide +kernel
theorem dX12_shortestFirst_46 : decode cX12_shortestFirst 46 = .ok (.aload_n 0, 1) := by decide +kernel
theorem dX12_shortestFirst_47 : decode cX12_shortestFirst 47 = .ok (.getfield 453, 3) := by decide +kernel
theorem dX12_shortestFirst_50 : decode cX12_shortestFirst 50 = .ok (.invokevirtual 200, 3) := by decide +kernel
theorem dX12_shortestFirst_53 : decode cX12_shortestFirst 53 = .ok (.ireturn, 1) := by decide +kernel
theorem dX12_settled_0 : decode cX12_settled 0 = .ok (.aload_n 0, 1) := by decide +kernel
theorem dX12_settled_1 : decode cX12_settled 1 = .ok (.invokevirtual 388, 3) := by decide +kernel
theorem dX12_settled_4 : decode cX12_settled 4 = .ok (.iconst 0, 1) := by decide +kernel
theorem dX12_settled_5 : decode cX12_settled 5 = .ok (.istore_n 1, 1) := by decide +kernel
theorem dX12_settled_6 : decode cX12_settled 6 = .ok (.iconst 0, 1) := by decide +kernel
theorem dX12_settled_7 : decode cX12_settled 7 = .ok (.istore_n 2, 1) := by decide +kernel
theorem dX12_settled_8 : decode cX12_settled 8 = .ok (.iload_n 2, 1) := by decide +kernel
theorem dX12_settled_9 : decode cX12_settled 9 = .ok (.aload_n 0, 1) := by decide +kernel
theorem dX12_settled_10 : decode cX12_settled 10 = .ok (.getfield 7, 3) := by decide +kernel
theorem dX12_settled_13 : decode cX12_settled 13 = .ok (.iconst 3, 1) := by decide +kernel
theorem dX12_settled_14 : decode cX12_settled 14 = .ok (.iaload, 1) := by decide +kernel
theorem dX12_settled_15 : decode cX12_settled 15 = .ok (.if_icmp .ge 36, 3) := by decide +kernel
theorem dX12_settled_18 : decode cX12_settled 18 = .ok (.iload_n 1, 1) := by decide +kernel
theorem dX12_settled_19 : decode cX12_settled 19 = .ok (.aload_n 0, 1) := by decide +kernel
theorem dX12_settled_20 : decode cX12_settled 20 = .ok (.getfield 72, 3) := by decide +kernel
theorem dX12_settled_23 : decode cX12_settled 23 = .ok (.iload_n 2, 1) := by decide +kernel
theorem dX12_settled_24 : decode cX12_settled 24 = .ok (.baload, 1) := by decide +kernel
theorem dX12_settled_25 : decode cX12_settled 25 = .ok (.ifCond .ne 17, 3) := by decide +kernel
theorem dX12_settled_28 : decode cX12_settled 28 = .ok (.aload_n 0, 1) := by decide +kernel
theorem dX12_settled_29 : decode cX12_settled 29 = .ok (.iconst 0, 1) := by decide +kernel
theorem dX12_settled_30 : decode cX12_settled 30 = .ok (.iload_n 2, 1) := by decide +kernel
theorem dX12_settled_31 : decode cX12_settled 31 = .ok (.invokevirtual 394, 3) := by decide +kernel
theorem dX12_settled_34 : decode cX12_settled 34 = .ok (.iconst (-1), 1) := by decide +kernel
theorem dX12_settled_35 : decode cX12_settled 35 = .ok (.if_icmp .eq 7, 3) := by decide +kernel
theorem dX12_settled_38 : decode cX12_settled 38 = .ok (.iconst 1, 1) := by decide +kernel
theorem dX12_settled_39 : decode cX12_settled 39 = .ok (.goto 4, 3) := by decide +kernel
theorem dX12_settled_42 : decode cX12_settled 42 = .ok (.iconst 0, 1) := by decide +kernel
theorem dX12_settled_43 : decode cX12_settled 43 = .ok (.iadd, 1) := by decide +kernel
theorem dX12_settled_44 : decode cX12_settled 44 = .ok (.istore_n 1, 1) := by decide +kernel
theorem dX12_settled_45 : decode cX12_settled 45 = .ok (.iinc 2 1, 3) := by decide +kernel
theorem dX12_settled_48 : decode cX12_settled 48 = .ok (.goto (-40), 3) := by decide +kernel
theorem dX12_settled_51 : decode cX12_settled 51 = .ok (.aload_n 0, 1) := by decide +kernel
theorem dX12_settled_52 : decode cX12_settled 52 = .ok (.iload_n 1, 1) := by decide +kernel
theorem dX12_settled_53 : decode cX12_settled 53 = .ok (.invokevirtual 200, 3) := by decide +kernel
theorem dX12_settled_56 : decode cX12_settled 56 = .ok (.ireturn, 1) := by decide +kernel
theorem dX12_benchBy_0 : decode cX12_benchBy 0 = .ok (.iconst 0, 1) := by decide +kernel
theorem dX12_benchBy_1 : decode cX12_benchBy 1 = .ok (.istore_n 2, 1) := by decide +kernel
theorem dX12_benchBy_2 : decode cX12_benchBy 2 = .ok (.iconst 0, 1) := by decide +kernel
theorem dX12_benchBy_3 : decode cX12_benchBy 3 = .ok (.istore_n 3, 1) := by decide +kernel
theorem dX12_benchBy_4 : decode cX12_benchBy 4 = .ok (.iload_n 3, 1) := by decide +kernel
theorem dX12_benchBy_5 : decode cX12_benchBy 5 = .ok (.aload_n 0, 1) := by decide +kernel
theorem dX12_benchBy_6 : decode cX12_benchBy 6 = .ok (.getfield 7, 3) := by decide +kernel
theorem dX12_benchBy_9 : decode cX12_benchBy 9 = .ok (.iconst 2, 1) := by decide +kernel
theorem dX12_benchBy_10 : decode cX12_benchBy 10 = .ok (.iaload, 1) := by decide +kernel
theorem dX12_benchBy_11 : decode cX12_benchBy 11 = .ok (.if_icmp .ge 86, 3) := by decide +kernel
theorem dX12_benchBy_14 : decode cX12_benchBy 14 = .ok (.aload_n 0, 1) := by decide +kernel
theorem dX12_benchBy_15 : decode cX12_benchBy 15 = .ok (.iload_n 3, 1) := by decide +kernel
theorem dX12_benchBy_16 : decode cX12_benchBy 16 = .ok (.invokevirtual 331, 3) := by decide +kernel
theorem dX12_benchBy_19 : decode cX12_benchBy 19 = .ok (.istore 4, 2) := by decide +kernel
theorem dX12_benchBy_21 : decode cX12_benchBy 21 = .ok (.iconst 0, 1) := by decide +kernel
theorem dX12_benchBy_22 : decode cX12_benchBy 22 = .ok (.istore 5, 2) := by decide +kernel
theorem dX12_benchBy_24 : decode cX12_benchBy 24 = .ok (.iload 5, 2) := by decide +kernel
theorem dX12_benchBy_26 : decode cX12_benchBy 26 = .ok (.iload_n 1, 1) := by decide +kernel
theorem dX12_benchBy_27 : decode cX12_benchBy 27 = .ok (.if_icmp .ge 51, 3) := by decide +kernel
theorem dX12_benchBy_30 : decode cX12_benchBy 30 = .ok (.iload 4, 2) := by decide +kernel
theorem dX12_benchBy_32 : decode cX12_benchBy 32 = .ok (.ifCond .eq 46, 3) := by decide +kernel
theorem dX12_benchBy_35 : decode cX12_benchBy 35 = .ok (.aload_n 0, 1) := by decide +kernel
theorem dX12_benchBy_36 : decode cX12_benchBy 36 = .ok (.aload_n 0, 1) := by decide +kernel
theorem dX12_benchBy_37 : decode cX12_benchBy 37 = .ok (.iload 5, 2) := by decide +kernel
theorem dX12_benchBy_39 : decode cX12_benchBy 39 = .ok (.iconst 0, 1) := by decide +kernel
theorem dX12_benchBy_40 : decode cX12_benchBy 40 = .ok (.invokevirtual 322, 3) := by decide +kernel
theorem dX12_benchBy_43 : decode cX12_benchBy 43 = .ok (.aload_n 0, 1) := by decide +kernel
theorem dX12_benchBy_44 : decode cX12_benchBy 44 = .ok (.iload 5, 2) := by decide +kernel
theorem dX12_benchBy_46 : decode cX12_benchBy 46 = .ok (.iconst 1, 1) := by decide +kernel
theorem dX12_benchBy_47 : decode cX12_benchBy 47 = .ok (.invokevirtual 322, 3) := by decide +kernel
theorem dX12_benchBy_50 : decode cX12_benchBy 50 = .ok (.iload_n 3, 1) := by decide +kernel
theorem dX12_benchBy_51 : decode cX12_benchBy 51 = .ok (.iconst 0, 1) := by decide +kernel
theorem dX12_benchBy_52 : decode cX12_benchBy 52 = .ok (.invokevirtual 368, 3) := by decide +kernel
theorem dX12_benchBy_55 : decode cX12_benchBy 55 = .ok (.aload_n 0, 1) := by decide +kernel
theorem dX12_benchBy_56 : decode cX12_benchBy 56 = .ok (.iload 5, 2) := by decide +kernel
theorem dX12_benchBy_58 : decode cX12_benchBy 58 = .ok (.iconst 2, 1) := by decide +kernel
theorem dX12_benchBy_59 : decode cX12_benchBy 59 = .ok (.invokevirtual 322, 3) := by decide +kernel
theorem dX12_benchBy_62 : decode cX12_benchBy 62 = .ok (.if_icmp .ne 7, 3) := by decide +kernel
theorem dX12_benchBy_65 : decode cX12_benchBy 65 = .ok (.iconst 1, 1) := by decide +kernel
theorem dX12_benchBy_66 : decode cX12_benchBy 66 = .ok (.goto 4, 3) := by decide +kernel
theorem dX12_benchBy_69 : decode cX12_benchBy 69 = .ok (.iconst 0, 1) := by decide +kernel
theorem dX12_benchBy_70 : decode cX12_benchBy 70 = .ok (.istore 4, 2) := by decide +kernel
theorem dX12_benchBy_72 : decode cX12_benchBy 72 = .ok (.iinc 5 1, 3) := by decide +kernel
theorem dX12_benchBy_75 : decode cX12_benchBy 75 = .ok (.goto (-51), 3) := by decide +kernel
theorem dX12_benchBy_78 : decode cX12_benchBy 78 = .ok (.iload_n 2, 1) := by decide +kernel
theorem dX12_benchBy_79 : decode cX12_benchBy 79 = .ok (.iload 4, 2) := by decide +kernel
theorem dX12_benchBy_81 : decode cX12_benchBy 81 = .ok (.ifCond .eq 7, 3) := by decide +kernel
theorem dX12_benchBy_84 : decode cX12_benchBy 84 = .ok (.iconst 1, 1) := by decide +kernel
theorem dX12_benchBy_85 : decode cX12_benchBy 85 = .ok (.goto 4, 3) := by decide +kernel
theorem dX12_benchBy_88 : decode cX12_benchBy 88 = .ok (.iconst 0, 1) := by decide +kernel
theorem dX12_benchBy_89 : decode cX12_benchBy 89 = .ok (.iadd, 1) := by decide +kernel
theorem dX12_benchBy_90 : decode cX12_benchBy 90 = .ok (.istore_n 2, 1) := by decide +kernel
theorem dX12_benchBy_91 : decode cX12_benchBy 91 = .ok (.iinc 3 1, 3) := by decide +kernel
theorem dX12_benchBy_94 : decode cX12_benchBy 94 = .ok (.goto (-90), 3) := by decide +kernel
theorem dX12_benchBy_97 : decode cX12_benchBy 97 = .ok (.iload_n 2, 1) := by decide +kernel
theorem dX12_benchBy_98 : decode cX12_benchBy 98 = .ok (.ireturn, 1) := by decide +kernel
theorem dX12_bench_0 : decode cX12_bench 0 = .ok (.aload_n 0, 1) := by decide +kernel
theorem dX12_bench_1 : decode cX12_bench 1 = .ok (.aload_n 0, 1) := by decide +kernel
theorem dX12_bench_2 : decode cX12_bench 2 = .ok (.aload_n 0, 1) := by decide +kernel
theorem dX12_bench_3 : decode cX12_bench 3 = .ok (.getfield 7, 3) := by decide +kernel
theorem dX12_bench_6 : decode cX12_bench 6 = .ok (.bipush 6, 2) := by decide +kernel
theorem dX12_bench_8 : decode cX12_bench 8 = .ok (.iaload, 1) := by decide +kernel
theorem dX12_bench_9 : decode cX12_bench 9 = .ok (.invokevirtual 459, 3) := by decide +kernel
theorem dX12_bench_12 : decode cX12_bench 12 = .ok (.invokevirtual 200, 3) := by decide +kernel
theorem dX12_bench_15 : decode cX12_bench 15 = .ok (.ireturn, 1) := by decide +kernel
theorem dX12_clash_0 : decode cX12_clash 0 = .ok (.iconst 0, 1) := by decide +kernel
theorem dX12_clash_1 : decode cX12_clash 1 = .ok (.istore_n 1, 1) := by decide +kernel
theorem dX12_clash_2 : decode cX12_clash 2 = .ok (.iload_n 1, 1) := by decide +kernel
theorem dX12_clash_3 : decode cX12_clash 3 = .ok (.aload_n 0, 1) := by decide +kernel
theorem dX12_clash_4 : decode cX12_clash 4 = .ok (.getfield 7, 3) := by decide +kernel
theorem dX12_clash_7 : decode cX12_clash 7 = .ok (.bipush 6, 2) := by decide +kernel
theorem dX12_clash_9 : decode cX12_clash 9 = .ok (.iaload, 1) := by decide +kernel
theorem dX12_clash_10 : decode cX12_clash 10 = .ok (.if_icmp .ge 25, 3) := by decide +kernel
theorem dX12_clash_13 : decode cX12_clash 13 = .ok (.aload_n 0, 1) := by decide +kernel
theorem dX12_clash_14 : decode cX12_clash 14 = .ok (.iload_n 1, 1) := by decide +kernel
theorem dX12_clash_15 : decode cX12_clash 15 = .ok (.iconst 1, 1) := by decide +kernel
theorem dX12_clash_16 : decode cX12_clash 16 = .ok (.iadd, 1) := by decide +kernel
theorem dX12_clash_17 : decode cX12_clash 17 = .ok (.invokevirtual 459, 3) := by decide +kernel
theorem dX12_clash_20 : decode cX12_clash 20 = .ok (.ifCond .ne 9, 3) := by decide +kernel
theorem dX12_clash_23 : decode cX12_clash 23 = .ok (.aload_n 0, 1) := by decide +kernel
theorem dX12_clash_24 : decode cX12_clash 24 = .ok (.iload_n 1, 1) := by decide +kernel
theorem dX12_clash_25 : decode cX12_clash 25 = .ok (.invokevirtual 200, 3) := by decide +kernel
theorem dX12_clash_28 : decode cX12_clash 28 = .ok (.ireturn, 1) := by decide +kernel
theorem dX12_clash_29 : decode cX12_clash 29 = .ok (.iinc 1 1, 3) := by decide +kernel
theorem dX12_clash_32 : decode cX12_clash 32 = .ok (.goto (-30), 3) := by decide +kernel
theorem dX12_clash_35 : decode cX12_clash 35 = .ok (.aload_n 0, 1) := by decide +kernel
theorem dX12_clash_36 : decode cX12_clash 36 = .ok (.bipush 6, 2) := by decide +kernel
theorem dX12_clash_38 : decode cX12_clash 38 = .ok (.invokevirtual 197, 3) := by decide +kernel
theorem dX12_clash_41 : decode cX12_clash 41 = .ok (.ireturn, 1) := by decide +kernel
theorem dX12_answersHonestly_0 : decode cX12_answersHonestly 0 = .ok (.iconst 0, 1) := by decide +kernel
theorem dX12_answersHonestly_1 : decode cX12_answersHonestly 1 = .ok (.istore_n 3, 1) := by decide +kernel
theorem dX12_answersHonestly_2 : decode cX12_answersHonestly 2 = .ok (.iload_n 3, 1) := by decide +kernel
theorem dX12_answersHonestly_3 : decode cX12_answersHonestly 3 = .ok (.aload_n 0, 1) := by decide +kernel
theorem dX12_answersHonestly_4 : decode cX12_answersHonestly 4 = .ok (.getfield 7, 3) := by decide +kernel
theorem dX12_answersHonestly_7 : decode cX12_answersHonestly 7 = .ok (.bipush 6, 2) := by decide +kernel
theorem dX12_answersHonestly_9 : decode cX12_answersHonestly 9 = .ok (.iaload, 1) := by decide +kernel
theorem dX12_answersHonestly_10 : decode cX12_answersHonestly 10 = .ok (.if_icmp .ge 43, 3) := by decide +kernel
theorem dX12_answersHonestly_13 : decode cX12_answersHonestly 13 = .ok (.aload_n 0, 1) := by decide +kernel
theorem dX12_answersHonestly_14 : decode cX12_answersHonestly 14 = .ok (.iload_n 3, 1) := by decide +kernel
theorem dX12_answersHonestly_15 : decode cX12_answersHonestly 15 = .ok (.iconst 0, 1) := by decide +kernel
theorem dX12_answersHonestly_16 : decode cX12_answersHonestly 16 = .ok (.invokevirtual 322, 3) := by decide +kernel
theorem dX12_answersHonestly_19 : decode cX12_answersHonestly 19 = .ok (.iload_n 1, 1) := by decide +kernel
theorem dX12_answersHonestly_20 : decode cX12_answersHonestly 20 = .ok (.if_icmp .ne 27, 3) := by decide +kernel
theorem dX12_answersHonestly_23 : decode cX12_answersHonestly 23 = .ok (.aload_n 0, 1) := by decide +kernel
theorem dX12_answersHonestly_24 : decode cX12_answersHonestly 24 = .ok (.iload_n 1, 1) := by decide +kernel
theorem dX12_answersHonestly_25 : decode cX12_answersHonestly 25 = .ok (.aload_n 0, 1) := by decide +kernel
theorem dX12_answersHonestly_26 : decode cX12_answersHonestly 26 = .ok (.iload_n 3, 1) := by decide +kernel
theorem dX12_answersHonestly_27 : decode cX12_answersHonestly 27 = .ok (.iconst 1, 1) := by decide +kernel
theorem dX12_answersHonestly_28 : decode cX12_answersHonestly 28 = .ok (.invokevirtual 322, 3) := by decide +kernel
theorem dX12_answersHonestly_31 : decode cX12_answersHonestly 31 = .ok (.iload_n 2, 1) := by decide +kernel
theorem dX12_answersHonestly_32 : decode cX12_answersHonestly 32 = .ok (.iconst 0, 1) := by decide +kernel
theorem dX12_answersHonestly_33 : decode cX12_answersHonestly 33 = .ok (.invokevirtual 368, 3) := by decide +kernel
theorem dX12_answersHonestly_36 : decode cX12_answersHonestly 36 = .ok (.aload_n 0, 1) := by decide +kernel
theorem dX12_answersHonestly_37 : decode cX12_answersHonestly 37 = .ok (.iload_n 3, 1) := by decide +kernel
theorem dX12_answersHonestly_38 : decode cX12_answersHonestly 38 = .ok (.iconst 2, 1) := by decide +kernel
theorem dX12_answersHonestly_39 : decode cX12_answersHonestly 39 = .ok (.invokevirtual 322, 3) := by decide +kernel
theorem dX12_answersHonestly_42 : decode cX12_answersHonestly 42 = .ok (.if_icmp .eq 5, 3) := by decide +kernel
theorem dX12_answersHonestly_45 : decode cX12_answersHonestly 45 = .ok (.iconst 0, 1) := by decide +kernel
theorem dX12_answersHonestly_46 : decode cX12_answersHonestly 46 = .ok (.ireturn, 1) := by decide +kernel
theorem dX12_answersHonestly_47 : decode cX12_answersHonestly 47 = .ok (.iinc 3 1, 3) := by decide +kernel
theorem dX12_answersHonestly_50 : decode cX12_answersHonestly 50 = .ok (.goto (-48), 3) := by decide +kernel
theorem dX12_answersHonestly_53 : decode cX12_answersHonestly 53 = .ok (.iconst 1, 1) := by decide +kernel
theorem dX12_answersHonestly_54 : decode cX12_answersHonestly 54 = .ok (.ireturn, 1) := by decide +kernel
theorem dX12_liars_0 : decode cX12_liars 0 = .ok (.aload_n 0, 1) := by decide +kernel
theorem dX12_liars_1 : decode cX12_liars 1 = .ok (.invokevirtual 388, 3) := by decide +kernel
theorem dX12_liars_4 : decode cX12_liars 4 = .ok (.aload_n 0, 1) := by decide +kernel
theorem dX12_liars_5 : decode cX12_liars 5 = .ok (.iconst 0, 1) := by decide +kernel
theorem dX12_liars_6 : decode cX12_liars 6 = .ok (.invokevirtual 391, 3) := by decide +kernel
theorem dX12_liars_9 : decode cX12_liars 9 = .ok (.ifCond .ne 10, 3) := by decide +kernel
theorem dX12_liars_12 : decode cX12_liars 12 = .ok (.aload_n 0, 1) := by decide +kernel
theorem dX12_liars_13 : decode cX12_liars 13 = .ok (.bipush 6, 2) := by decide +kernel
theorem dX12_liars_15 : decode cX12_liars 15 = .ok (.invokevirtual 197, 3) := by decide +kernel
theorem dX12_liars_18 : decode cX12_liars 18 = .ok (.ireturn, 1) := by decide +kernel
theorem dX12_liars_19 : decode cX12_liars 19 = .ok (.iconst 0, 1) := by decide +kernel
theorem dX12_liars_20 : decode cX12_liars 20 = .ok (.istore_n 1, 1) := by decide +kernel
theorem dX12_liars_21 : decode cX12_liars 21 = .ok (.iconst 0, 1) := by decide +kernel
theorem dX12_liars_22 : decode cX12_liars 22 = .ok (.istore_n 2, 1) := by decide +kernel
theorem dX12_liars_23 : decode cX12_liars 23 = .ok (.iload_n 2, 1) := by decide +kernel
theorem dX12_liars_24 : decode cX12_liars 24 = .ok (.aload_n 0, 1) := by decide +kernel
theorem dX12_liars_25 : decode cX12_liars 25 = .ok (.getfield 7, 3) := by decide +kernel
theorem dX12_liars_28 : decode cX12_liars 28 = .ok (.iconst 4, 1) := by decide +kernel
theorem dX12_liars_29 : decode cX12_liars 29 = .ok (.iaload, 1) := by decide +kernel
theorem dX12_liars_30 : decode cX12_liars 30 = .ok (.if_icmp .ge 75, 3) := by decide +kernel
theorem dX12_liars_33 : decode cX12_liars 33 = .ok (.iconst 0, 1) := by decide +kernel
theorem dX12_liars_34 : decode cX12_liars 34 = .ok (.istore_n 3, 1) := by decide +kernel
theorem dX12_liars_35 : decode cX12_liars 35 = .ok (.iconst 0, 1) := by decide +kernel
theorem dX12_liars_36 : decode cX12_liars 36 = .ok (.istore 4, 2) := by decide +kernel
theorem dX12_liars_38 : decode cX12_liars 38 = .ok (.iload 4, 2) := by decide +kernel
theorem dX12_liars_40 : decode cX12_liars 40 = .ok (.aload_n 0, 1) := by decide +kernel
theorem dX12_liars_41 : decode cX12_liars 41 = .ok (.getfield 7, 3) := by decide +kernel
theorem dX12_liars_44 : decode cX12_liars 44 = .ok (.iconst 2, 1) := by decide +kernel
theorem dX12_liars_45 : decode cX12_liars 45 = .ok (.iaload, 1) := by decide +kernel
theorem dX12_liars_46 : decode cX12_liars 46 = .ok (.if_icmp .ge 39, 3) := by decide +kernel
theorem dX12_liars_49 : decode cX12_liars 49 = .ok (.iload_n 3, 1) := by decide +kernel
theorem dX12_liars_50 : decode cX12_liars 50 = .ok (.ifCond .ne 23, 3) := by decide +kernel
theorem dX12_liars_53 : decode cX12_liars 53 = .ok (.aload_n 0, 1) := by decide +kernel
theorem dX12_liars_54 : decode cX12_liars 54 = .ok (.iconst 0, 1) := by decide +kernel
theorem dX12_liars_55 : decode cX12_liars 55 = .ok (.iload 4, 2) := by decide +kernel
theorem dX12_liars_57 : decode cX12_liars 57 = .ok (.invokevirtual 381, 3) := by decide +kernel
theorem dX12_liars_60 : decode cX12_liars 60 = .ok (.ifCond .eq 17, 3) := by decide +kernel
theorem dX12_liars_63 : decode cX12_liars 63 = .ok (.aload_n 0, 1) := by decide +kernel
theorem dX12_liars_64 : decode cX12_liars 64 = .ok (.iload_n 2, 1) := by decide +kernel
theorem dX12_liars_65 : decode cX12_liars 65 = .ok (.iload 4, 2) := by decide +kernel
theorem dX12_liars_67 : decode cX12_liars 67 = .ok (.invokevirtual 462, 3) := by decide +kernel
theorem dX12_liars_70 : decode cX12_liars 70 = .ok (.ifCond .eq 7, 3) := by decide +kernel
theorem dX12_liars_73 : decode cX12_liars 73 = .ok (.iconst 1, 1) := by decide +kernel
theorem dX12_liars_74 : decode cX12_liars 74 = .ok (.goto 4, 3) := by decide +kernel
theorem dX12_liars_77 : decode cX12_liars 77 = .ok (.iconst 0, 1) := by decide +kernel
theorem dX12_liars_78 : decode cX12_liars 78 = .ok (.istore_n 3, 1) := by decide +kernel
theorem dX12_liars_79 : decode cX12_liars 79 = .ok (.iinc 4 1, 3) := by decide +kernel
theorem dX12_liars_82 : decode cX12_liars 82 = .ok (.goto (-44), 3) := by decide +kernel
theorem dX12_liars_85 : decode cX12_liars 85 = .ok (.iload_n 1, 1) := by decide +kernel
theorem dX12_liars_86 : decode cX12_liars 86 = .ok (.iload_n 3, 1) := by decide +kernel
theorem dX12_liars_87 : decode cX12_liars 87 = .ok (.ifCond .eq 7, 3) := by decide +kernel
theorem dX12_liars_90 : decode cX12_liars 90 = .ok (.iconst 0, 1) := by decide +kernel
theorem dX12_liars_91 : decode cX12_liars 91 = .ok (.goto 6, 3) := by decide +kernel
theorem dX12_liars_94 : decode cX12_liars 94 = .ok (.iconst 1, 1) := by decide +kernel
theorem dX12_liars_95 : decode cX12_liars 95 = .ok (.iload_n 2, 1) := by decide +kernel
theorem dX12_liars_96 : decode cX12_liars 96 = .ok (.ishl, 1) := by decide +kernel
theorem dX12_liars_97 : decode cX12_liars 97 = .ok (.ior, 1) := by decide +kernel
theorem dX12_liars_98 : decode cX12_liars 98 = .ok (.istore_n 1, 1) := by decide +kernel
theorem dX12_liars_99 : decode cX12_liars 99 = .ok (.iinc 2 1, 3) := by decide +kernel
theorem dX12_liars_102 : decode cX12_liars 102 = .ok (.goto (-79), 3) := by decide +kernel
theorem dX12_liars_105 : decode cX12_liars 105 = .ok (.aload_n 0, 1) := by decide +kernel
theorem dX12_liars_106 : decode cX12_liars 106 = .ok (.iload_n 1, 1) := by decide +kernel
theorem dX12_liars_107 : decode cX12_liars 107 = .ok (.invokevirtual 200, 3) := by decide +kernel
theorem dX12_liars_110 : decode cX12_liars 110 = .ok (.ireturn, 1) := by decide +kernel
theorem dX12_draw_0 : decode cX12_draw 0 = .ok (.aload_n 0, 1) := by decide +kernel
theorem dX12_draw_1 : decode cX12_draw 1 = .ok (.aload_n 0, 1) := by decide +kernel
theorem dX12_draw_2 : decode cX12_draw 2 = .ok (.getfield 465, 3) := by decide +kernel
theorem dX12_draw_5 : decode cX12_draw 5 = .ok (.sipush 2417, 3) := by decide +kernel
theorem dX12_draw_8 : decode cX12_draw 8 = .ok (.imul, 1) := by decide +kernel
theorem dX12_draw_9 : decode cX12_draw 9 = .ok (.sipush 10613, 3) := by decide +kernel
theorem dX12_draw_12 : decode cX12_draw 12 = .ok (.iadd, 1) := by decide +kernel
theorem dX12_draw_13 : decode cX12_draw 13 = .ok (.ldc_w 468, 3) := by decide +kernel
theorem dX12_draw_16 : decode cX12_draw 16 = .ok (.irem, 1) := by decide +kernel
theorem dX12_draw_17 : decode cX12_draw 17 = .ok (.putfield 465, 3) := by decide +kernel
theorem dX12_draw_20 : decode cX12_draw 20 = .ok (.aload_n 0, 1) := by decide +kernel
theorem dX12_draw_21 : decode cX12_draw 21 = .ok (.getfield 465, 3) := by decide +kernel
theorem dX12_draw_24 : decode cX12_draw 24 = .ok (.bipush 8, 2) := by decide +kernel
theorem dX12_draw_26 : decode cX12_draw 26 = .ok (.idiv, 1) := by decide +kernel
theorem dX12_draw_27 : decode cX12_draw 27 = .ok (.i2l, 1) := by decide +kernel
theorem dX12_draw_28 : decode cX12_draw 28 = .ok (.lload_n 1, 1) := by decide +kernel
theorem dX12_draw_29 : decode cX12_draw 29 = .ok (.lrem, 1) := by decide +kernel
theorem dX12_draw_30 : decode cX12_draw 30 = .ok (.l2i, 1) := by decide +kernel
theorem dX12_draw_31 : decode cX12_draw 31 = .ok (.ireturn, 1) := by decide +kernel
theorem dX12_drawsTruth_0 : decode cX12_drawsTruth 0 = .ok (.lconst 0, 1) := by decide +kernel
theorem dX12_drawsTruth_1 : decode cX12_drawsTruth 1 = .ok (.lstore_n 1, 1) := by decide +kernel
theorem dX12_drawsTruth_2 : decode cX12_drawsTruth 2 = .ok (.iconst 0, 1) := by decide +kernel
theorem dX12_drawsTruth_3 : decode cX12_drawsTruth 3 = .ok (.istore_n 3, 1) := by decide +kernel
theorem dX12_drawsTruth_4 : decode cX12_drawsTruth 4 = .ok (.iload_n 3, 1) := by decide +kernel
theorem dX12_drawsTruth_5 : decode cX12_drawsTruth 5 = .ok (.aload_n 0, 1) := by decide +kernel
theorem dX12_drawsTruth_6 : decode cX12_drawsTruth 6 = .ok (.getfield 7, 3) := by decide +kernel
theorem dX12_drawsTruth_9 : decode cX12_drawsTruth 9 = .ok (.iconst 2, 1) := by decide +kernel
theorem dX12_drawsTruth_10 : decode cX12_drawsTruth 10 = .ok (.iaload, 1) := by decide +kernel
theorem dX12_drawsTruth_11 : decode cX12_drawsTruth 11 = .ok (.if_icmp .ge 29, 3) := by decide +kernel
theorem dX12_drawsTruth_14 : decode cX12_drawsTruth 14 = .ok (.lload_n 1, 1) := by decide +kernel
theorem dX12_drawsTruth_15 : decode cX12_drawsTruth 15 = .ok (.aload_n 0, 1) := by decide +kernel
theorem dX12_drawsTruth_16 : decode cX12_drawsTruth 16 = .ok (.iload_n 3, 1) := by decide +kernel
theorem dX12_drawsTruth_17 : decode cX12_drawsTruth 17 = .ok (.invokevirtual 331, 3) := by decide +kernel
theorem dX12_drawsTruth_20 : decode cX12_drawsTruth 20 = .ok (.ifCond .eq 11, 3) := by decide +kernel
theorem dX12_drawsTruth_23 : decode cX12_drawsTruth 23 = .ok (.aload_n 0, 1) := by decide +kernel
theorem dX12_drawsTruth_24 : decode cX12_drawsTruth 24 = .ok (.iload_n 3, 1) := by decide +kernel
theorem dX12_drawsTruth_25 : decode cX12_drawsTruth 25 = .ok (.invokevirtual 397, 3) := by decide +kernel
theorem dX12_drawsTruth_28 : decode cX12_drawsTruth 28 = .ok (.goto 4, 3) := by decide +kernel
theorem dX12_drawsTruth_31 : decode cX12_drawsTruth 31 = .ok (.lconst 0, 1) := by decide +kernel
theorem dX12_drawsTruth_32 : decode cX12_drawsTruth 32 = .ok (.ladd, 1) := by decide +kernel
theorem dX12_drawsTruth_33 : decode cX12_drawsTruth 33 = .ok (.lstore_n 1, 1) := by decide +kernel
theorem dX12_drawsTruth_34 : decode cX12_drawsTruth 34 = .ok (.iinc 3 1, 3) := by decide +kernel
theorem dX12_drawsTruth_37 : decode cX12_drawsTruth 37 = .ok (.goto (-33), 3) := by decide +kernel
theorem dX12_drawsTruth_40 : decode cX12_drawsTruth 40 = .ok (.aload_n 0, 1) := by decide +kernel
theorem dX12_drawsTruth_41 : decode cX12_drawsTruth 41 = .ok (.lload_n 1, 1) := by decide +kernel
theorem dX12_drawsTruth_42 : decode cX12_drawsTruth 42 = .ok (.invokevirtual 469, 3) := by decide +kernel
theorem dX12_drawsTruth_45 : decode cX12_drawsTruth 45 = .ok (.istore_n 3, 1) := by decide +kernel
theorem dX12_drawsTruth_46 : decode cX12_drawsTruth 46 = .ok (.lconst 0, 1) := by decide +kernel
theorem dX12_drawsTruth_47 : decode cX12_drawsTruth 47 = .ok (.lstore 4, 2) := by decide +kernel
theorem dX12_drawsTruth_49 : decode cX12_drawsTruth 49 = .ok (.iconst 0, 1) := by decide +kernel
theorem dX12_drawsTruth_50 : decode cX12_drawsTruth 50 = .ok (.istore 6, 2) := by decide +kernel
theorem dX12_drawsTruth_52 : decode cX12_drawsTruth 52 = .ok (.lload 4, 2) := by decide +kernel
theorem dX12_drawsTruth_54 : decode cX12_drawsTruth 54 = .ok (.iload_n 3, 1) := by decide +kernel
theorem dX12_drawsTruth_55 : decode cX12_drawsTruth 55 = .ok (.i2l, 1) := by decide +kernel
theorem dX12_drawsTruth_56 : decode cX12_drawsTruth 56 = .ok (.lcmp, 1) := by decide +kernel
theorem dX12_drawsTruth_57 : decode cX12_drawsTruth 57 = .ok (.ifCond .gt 39, 3) := by decide +kernel
theorem dX12_drawsTruth_60 : decode cX12_drawsTruth 60 = .ok (.aload_n 0, 1) := by decide +kernel
theorem dX12_drawsTruth_61 : decode cX12_drawsTruth 61 = .ok (.iload 6, 2) := by decide +kernel
theorem dX12_drawsTruth_63 : decode cX12_drawsTruth 63 = .ok (.putfield 473, 3) := by decide +kernel
theorem dX12_drawsTruth_66 : decode cX12_drawsTruth 66 = .ok (.lload 4, 2) := by decide +kernel
theorem dX12_drawsTruth_68 : decode cX12_drawsTruth 68 = .ok (.aload_n 0, 1) := by decide +kernel
theorem dX12_drawsTruth_69 : decode cX12_drawsTruth 69 = .ok (.iload 6, 2) := by decide +kernel
theorem dX12_drawsTruth_71 : decode cX12_drawsTruth 71 = .ok (.invokevirtual 331, 3) := by decide +kernel
theorem dX12_drawsTruth_74 : decode cX12_drawsTruth 74 = .ok (.ifCond .eq 12, 3) := by decide +kernel
theorem dX12_drawsTruth_77 : decode cX12_drawsTruth 77 = .ok (.aload_n 0, 1) := by decide +kernel
theorem dX12_drawsTruth_78 : decode cX12_drawsTruth 78 = .ok (.iload 6, 2) := by decide +kernel
theorem dX12_drawsTruth_80 : decode cX12_drawsTruth 80 = .ok (.invokevirtual 397, 3) := by decide +kernel
theorem dX12_drawsTruth_83 : decode cX12_drawsTruth 83 = .ok (.goto 4, 3) := by decide +kernel
theorem dX12_drawsTruth_86 : decode cX12_drawsTruth 86 = .ok (.lconst 0, 1) := by decide +kernel
theorem dX12_drawsTruth_87 : decode cX12_drawsTruth 87 = .ok (.ladd, 1) := by decide +kernel
theorem dX12_drawsTruth_88 : decode cX12_drawsTruth 88 = .ok (.lstore 4, 2) := by decide +kernel
theorem dX12_drawsTruth_90 : decode cX12_drawsTruth 90 = .ok (.iinc 6 1, 3) := by decide +kernel
theorem dX12_drawsTruth_93 : decode cX12_drawsTruth 93 = .ok (.goto (-41), 3) := by decide +kernel
theorem dX12_drawsTruth_96 : decode cX12_drawsTruth 96 = .ok (.iconst 0, 1) := by decide +kernel
theorem dX12_drawsTruth_97 : decode cX12_drawsTruth 97 = .ok (.istore 6, 2) := by decide +kernel
theorem dX12_drawsTruth_99 : decode cX12_drawsTruth 99 = .ok (.iload 6, 2) := by decide +kernel
theorem dX12_drawsTruth_101 : decode cX12_drawsTruth 101 = .ok (.aload_n 0, 1) := by decide +kernel
theorem dX12_drawsTruth_102 : decode cX12_drawsTruth 102 = .ok (.getfield 7, 3) := by decide +kernel
theorem dX12_drawsTruth_105 : decode cX12_drawsTruth 105 = .ok (.iconst 4, 1) := by decide +kernel
theorem dX12_drawsTruth_106 : decode cX12_drawsTruth 106 = .ok (.iaload, 1) := by decide +kernel
theorem dX12_drawsTruth_107 : decode cX12_drawsTruth 107 = .ok (.if_icmp .ge 62, 3) := by decide +kernel
theorem dX12_drawsTruth_110 : decode cX12_drawsTruth 110 = .ok (.aload_n 0, 1) := by decide +kernel
theorem dX12_drawsTruth_111 : decode cX12_drawsTruth 111 = .ok (.ldc2_w 476, 3) := by decide +kernel
theorem dX12_drawsTruth_114 : decode cX12_drawsTruth 114 = .ok (.invokevirtual 469, 3) := by decide +kernel
theorem dX12_drawsTruth_117 : decode cX12_drawsTruth 117 = .ok (.istore 7, 2) := by decide +kernel
theorem dX12_drawsTruth_119 : decode cX12_drawsTruth 119 = .ok (.iconst 0, 1) := by decide +kernel
theorem dX12_drawsTruth_120 : decode cX12_drawsTruth 120 = .ok (.istore 8, 2) := by decide +kernel
theorem dX12_drawsTruth_122 : decode cX12_drawsTruth 122 = .ok (.iload 7, 2) := by decide +kernel
theorem dX12_drawsTruth_124 : decode cX12_drawsTruth 124 = .ok (.aload_n 0, 1) := by decide +kernel
theorem dX12_drawsTruth_125 : decode cX12_drawsTruth 125 = .ok (.iload 6, 2) := by decide +kernel
theorem dX12_drawsTruth_127 : decode cX12_drawsTruth 127 = .ok (.iload 8, 2) := by decide +kernel
theorem dX12_drawsTruth_129 : decode cX12_drawsTruth 129 = .ok (.invokevirtual 343, 3) := by decide +kernel
theorem dX12_drawsTruth_132 : decode cX12_drawsTruth 132 = .ok (.if_icmp .lt 22, 3) := by decide +kernel
theorem dX12_drawsTruth_135 : decode cX12_drawsTruth 135 = .ok (.iload 7, 2) := by decide +kernel
theorem dX12_drawsTruth_137 : decode cX12_drawsTruth 137 = .ok (.aload_n 0, 1) := by decide +kernel
theorem dX12_drawsTruth_138 : decode cX12_drawsTruth 138 = .ok (.iload 6, 2) := by decide +kernel
theorem dX12_drawsTruth_140 : decode cX12_drawsTruth 140 = .ok (.iload 8, 2) := by decide +kernel
theorem dX12_drawsTruth_142 : decode cX12_drawsTruth 142 = .ok (.invokevirtual 343, 3) := by decide +kernel
theorem dX12_drawsTruth_145 : decode cX12_drawsTruth 145 = .ok (.isub, 1) := by decide +kernel
theorem dX12_drawsTruth_146 : decode cX12_drawsTruth 146 = .ok (.istore 7, 2) := by decide +kernel
theorem dX12_drawsTruth_148 : decode cX12_drawsTruth 148 = .ok (.iinc 8 1, 3) := by decide +kernel
theorem dX12_drawsTruth_151 : decode cX12_drawsTruth 151 = .ok (.goto (-29), 3) := by decide +kernel
theorem dX12_drawsTruth_154 : decode cX12_drawsTruth 154 = .ok (.aload_n 0, 1) := by decide +kernel
theorem dX12_drawsTruth_155 : decode cX12_drawsTruth 155 = .ok (.getfield 82, 3) := by decide +kernel
theorem dX12_drawsTruth_158 : decode cX12_drawsTruth 158 = .ok (.iload 6, 2) := by decide +kernel
theorem dX12_drawsTruth_160 : decode cX12_drawsTruth 160 = .ok (.iload 8, 2) := by decide +kernel
theorem dX12_drawsTruth_162 : decode cX12_drawsTruth 162 = .ok (.iastore, 1) := by decide +kernel
theorem dX12_drawsTruth_163 : decode cX12_drawsTruth 163 = .ok (.iinc 6 1, 3) := by decide +kernel
theorem dX12_drawsTruth_166 : decode cX12_drawsTruth 166 = .ok (.goto (-67), 3) := by decide +kernel
theorem dX12_drawsTruth_169 : decode cX12_drawsTruth 169 = .ok (.return_, 1) := by decide +kernel
theorem dX12_puts_0 : decode cX12_puts 0 = .ok (.aload_n 0, 1) := by decide +kernel
theorem dX12_puts_1 : decode cX12_puts 1 = .ok (.invokevirtual 388, 3) := by decide +kernel
theorem dX12_puts_4 : decode cX12_puts 4 = .ok (.iload_n 2, 1) := by decide +kernel
theorem dX12_puts_5 : decode cX12_puts 5 = .ok (.iconst (-1), 1) := by decide +kernel
theorem dX12_puts_6 : decode cX12_puts 6 = .ok (.if_icmp .eq 21, 3) := by decide +kernel
theorem dX12_puts_9 : decode cX12_puts 9 = .ok (.aload_n 0, 1) := by decide +kernel
theorem dX12_puts_10 : decode cX12_puts 10 = .ok (.getfield 72, 3) := by decide +kernel
theorem dX12_puts_13 : decode cX12_puts 13 = .ok (.iload_n 2, 1) := by decide +kernel
theorem dX12_puts_14 : decode cX12_puts 14 = .ok (.baload, 1) := by decide +kernel
theorem dX12_puts_15 : decode cX12_puts 15 = .ok (.ifCond .ne 12, 3) := by decide +kernel
theorem dX12_puts_18 : decode cX12_puts 18 = .ok (.aload_n 0, 1) := by decide +kernel
theorem dX12_puts_19 : decode cX12_puts 19 = .ok (.invokevirtual 325, 3) := by decide +kernel
theorem dX12_puts_22 : decode cX12_puts 22 = .ok (.bipush 9, 2) := by decide +kernel
theorem dX12_puts_24 : decode cX12_puts 24 = .ok (.if_icmp .ne 4, 3) := by decide +kernel
theorem dX12_puts_27 : decode cX12_puts 27 = .ok (.return_, 1) := by decide +kernel
theorem dX12_puts_28 : decode cX12_puts 28 = .ok (.aload_n 0, 1) := by decide +kernel
theorem dX12_puts_29 : decode cX12_puts 29 = .ok (.iload_n 1, 1) := by decide +kernel
theorem dX12_puts_30 : decode cX12_puts 30 = .ok (.iload_n 2, 1) := by decide +kernel
theorem dX12_puts_31 : decode cX12_puts 31 = .ok (.aload_n 0, 1) := by decide +kernel
theorem dX12_puts_32 : decode cX12_puts 32 = .ok (.iload_n 1, 1) := by decide +kernel
theorem dX12_puts_33 : decode cX12_puts 33 = .ok (.iload_n 2, 1) := by decide +kernel
theorem dX12_puts_34 : decode cX12_puts 34 = .ok (.aload_n 0, 1) := by decide +kernel
theorem dX12_puts_35 : decode cX12_puts 35 = .ok (.getfield 473, 3) := by decide +kernel
theorem dX12_puts_38 : decode cX12_puts 38 = .ok (.aload_n 0, 1) := by decide +kernel
theorem dX12_puts_39 : decode cX12_puts 39 = .ok (.getfield 82, 3) := by decide +kernel
theorem dX12_puts_42 : decode cX12_puts 42 = .ok (.iload_n 1, 1) := by decide +kernel
theorem dX12_puts_43 : decode cX12_puts 43 = .ok (.iaload, 1) := by decide +kernel
theorem dX12_puts_44 : decode cX12_puts 44 = .ok (.invokevirtual 368, 3) := by decide +kernel
theorem dX12_puts_47 : decode cX12_puts 47 = .ok (.invokevirtual 384, 3) := by decide +kernel
theorem dX12_puts_50 : decode cX12_puts 50 = .ok (.return_, 1) := by decide +kernel
theorem dX12_holdsNow_0 : decode cX12_holdsNow 0 = .ok (.aload_n 0, 1) := by decide +kernel
theorem dX12_holdsNow_1 : decode cX12_holdsNow 1 = .ok (.invokevirtual 388, 3) := by decide +kernel
theorem dX12_holdsNow_4 : decode cX12_holdsNow 4 = .ok (.aload_n 0, 1) := by decide +kernel
theorem dX12_holdsNow_5 : decode cX12_holdsNow 5 = .ok (.getfield 7, 3) := by decide +kernel
theorem dX12_holdsNow_8 : decode cX12_holdsNow 8 = .ok (.iload_n 1, 1) := by decide +kernel
theorem dX12_holdsNow_9 : decode cX12_holdsNow 9 = .ok (.iaload, 1) := by decide +kernel
theorem dX12_holdsNow_10 : decode cX12_holdsNow 10 = .ok (.sipush 2100, 3) := by decide +kernel
theorem dX12_holdsNow_13 : decode cX12_holdsNow 13 = .ok (.isub, 1) := by decide +kernel
theorem dX12_holdsNow_14 : decode cX12_holdsNow 14 = .ok (.istore_n 2, 1) := by decide +kernel
theorem dX12_holdsNow_15 : decode cX12_holdsNow 15 = .ok (.aload_n 0, 1) := by decide +kernel
theorem dX12_holdsNow_16 : decode cX12_holdsNow 16 = .ok (.getfield 7, 3) := by decide +kernel
theorem dX12_holdsNow_19 : decode cX12_holdsNow 19 = .ok (.iload_n 1, 1) := by decide +kernel
theorem dX12_holdsNow_20 : decode cX12_holdsNow 20 = .ok (.iconst 1, 1) := by decide +kernel
theorem dX12_holdsNow_21 : decode cX12_holdsNow 21 = .ok (.iadd, 1) := by decide +kernel
theorem dX12_holdsNow_22 : decode cX12_holdsNow 22 = .ok (.iaload, 1) := by decide +kernel
theorem dX12_holdsNow_23 : decode cX12_holdsNow 23 = .ok (.istore_n 3, 1) := by decide +kernel
theorem dX12_holdsNow_24 : decode cX12_holdsNow 24 = .ok (.iload_n 2, 1) := by decide +kernel
theorem dX12_holdsNow_25 : decode cX12_holdsNow 25 = .ok (.bipush 25, 2) := by decide +kernel
theorem dX12_holdsNow_27 : decode cX12_holdsNow 27 = .ok (.if_icmp .ne 18, 3) := by decide +kernel
theorem dX12_holdsNow_30 : decode cX12_holdsNow 30 = .ok (.aload_n 0, 1) := by decide +kernel
theorem dX12_holdsNow_31 : decode cX12_holdsNow 31 = .ok (.iconst 0, 1) := by decide +kernel
theorem dX12_holdsNow_32 : decode cX12_holdsNow 32 = .ok (.invokevirtual 391, 3) := by decide +kernel
theorem dX12_holdsNow_35 : decode cX12_holdsNow 35 = .ok (.iload_n 3, 1) := by decide +kernel
theorem dX12_holdsNow_36 : decode cX12_holdsNow 36 = .ok (.if_icmp .gt 7, 3) := by decide +kernel
theorem dX12_holdsNow_39 : decode cX12_holdsNow 39 = .ok (.iconst 1, 1) := by decide +kernel
theorem dX12_holdsNow_40 : decode cX12_holdsNow 40 = .ok (.goto 4, 3) := by decide +kernel
theorem dX12_holdsNow_43 : decode cX12_holdsNow 43 = .ok (.iconst 0, 1) := by decide +kernel
theorem dX12_holdsNow_44 : decode cX12_holdsNow 44 = .ok (.ireturn, 1) := by decide +kernel
theorem dX12_holdsNow_45 : decode cX12_holdsNow 45 = .ok (.aload_n 0, 1) := by decide +kernel
theorem dX12_holdsNow_46 : decode cX12_holdsNow 46 = .ok (.iload_n 3, 1) := by decide +kernel
theorem dX12_holdsNow_47 : decode cX12_holdsNow 47 = .ok (.invokevirtual 334, 3) := by decide +kernel
theorem dX12_holdsNow_50 : decode cX12_holdsNow 50 = .ok (.ifCond .eq 12, 3) := by decide +kernel
theorem dX12_holdsNow_53 : decode cX12_holdsNow 53 = .ok (.aload_n 0, 1) := by decide +kernel
theorem dX12_holdsNow_54 : decode cX12_holdsNow 54 = .ok (.iconst 0, 1) := by decide +kernel
theorem dX12_holdsNow_55 : decode cX12_holdsNow 55 = .ok (.iload_n 3, 1) := by decide +kernel
theorem dX12_holdsNow_56 : decode cX12_holdsNow 56 = .ok (.invokevirtual 394, 3) := by decide +kernel
theorem dX12_holdsNow_59 : decode cX12_holdsNow 59 = .ok (.goto 4, 3) := by decide +kernel
theorem dX12_holdsNow_62 : decode cX12_holdsNow 62 = .ok (.iconst (-1), 1) := by decide +kernel
theorem dX12_holdsNow_63 : decode cX12_holdsNow 63 = .ok (.istore 4, 2) := by decide +kernel
theorem dX12_holdsNow_65 : decode cX12_holdsNow 65 = .ok (.iload_n 2, 1) := by decide +kernel
theorem dX12_holdsNow_66 : decode cX12_holdsNow 66 = .ok (.bipush 22, 2) := by decide +kernel
theorem dX12_holdsNow_68 : decode cX12_holdsNow 68 = .ok (.if_icmp .ne 17, 3) := by decide +kernel
theorem dX12_holdsNow_71 : decode cX12_holdsNow 71 = .ok (.iload 4, 2) := by decide +kernel
theorem dX12_holdsNow_73 : decode cX12_holdsNow 73 = .ok (.iconst (-1), 1) := by decide +kernel
theorem dX12_holdsNow_74 : decode cX12_holdsNow 74 = .ok (.if_icmp .eq 7, 3) := by decide +kernel
theorem dX12_holdsNow_77 : decode cX12_holdsNow 77 = .ok (.iconst 1, 1) := by decide +kernel
theorem dX12_holdsNow_78 : decode cX12_holdsNow 78 = .ok (.goto 37, 3) := by decide +kernel
theorem dX12_holdsNow_81 : decode cX12_holdsNow 81 = .ok (.iconst 0, 1) := by decide +kernel
theorem dX12_holdsNow_82 : decode cX12_holdsNow 82 = .ok (.goto 33, 3) := by decide +kernel
theorem dX12_holdsNow_85 : decode cX12_holdsNow 85 = .ok (.iload_n 2, 1) := by decide +kernel
theorem dX12_holdsNow_86 : decode cX12_holdsNow 86 = .ok (.bipush 23, 2) := by decide +kernel
theorem dX12_holdsNow_88 : decode cX12_holdsNow 88 = .ok (.if_icmp .ne 17, 3) := by decide +kernel
theorem dX12_holdsNow_91 : decode cX12_holdsNow 91 = .ok (.iload 4, 2) := by decide +kernel
theorem dX12_holdsNow_93 : decode cX12_holdsNow 93 = .ok (.iconst 1, 1) := by decide +kernel
theorem dX12_holdsNow_94 : decode cX12_holdsNow 94 = .ok (.if_icmp .ne 7, 3) := by decide +kernel
theorem dX12_holdsNow_97 : decode cX12_holdsNow 97 = .ok (.iconst 1, 1) := by decide +kernel
theorem dX12_holdsNow_98 : decode cX12_holdsNow 98 = .ok (.goto 17, 3) := by decide +kernel
theorem dX12_holdsNow_101 : decode cX12_holdsNow 101 = .ok (.iconst 0, 1) := by decide +kernel
theorem dX12_holdsNow_102 : decode cX12_holdsNow 102 = .ok (.goto 13, 3) := by decide +kernel
theorem dX12_holdsNow_105 : decode cX12_holdsNow 105 = .ok (.iload 4, 2) := by decide +kernel
theorem dX12_holdsNow_107 : decode cX12_holdsNow 107 = .ok (.ifCond .ne 7, 3) := by decide +kernel
theorem dX12_holdsNow_110 : decode cX12_holdsNow 110 = .ok (.iconst 1, 1) := by decide +kernel
theorem dX12_holdsNow_111 : decode cX12_holdsNow 111 = .ok (.goto 4, 3) := by decide +kernel
theorem dX12_holdsNow_114 : decode cX12_holdsNow 114 = .ok (.iconst 0, 1) := by decide +kernel
theorem dX12_holdsNow_115 : decode cX12_holdsNow 115 = .ok (.ireturn, 1) := by decide +kernel
theorem dX12_rules_0 : decode cX12_rules 0 = .ok (.aload_n 0, 1) := by decide +kernel
theorem dX12_rules_1 : decode cX12_rules 1 = .ok (.invokevirtual 388, 3) := by decide +kernel
theorem dX12_rules_4 : decode cX12_rules 4 = .ok (.aload_n 0, 1) := by decide +kernel
theorem dX12_rules_5 : decode cX12_rules 5 = .ok (.iconst 0, 1) := by decide +kernel
theorem dX12_rules_6 : decode cX12_rules 6 = .ok (.iload_n 1, 1) := by decide +kernel
theorem dX12_rules_7 : decode cX12_rules 7 = .ok (.invokevirtual 394, 3) := by decide +kernel
theorem dX12_rules_10 : decode cX12_rules 10 = .ok (.istore_n 2, 1) := by decide +kernel
theorem dX12_rules_11 : decode cX12_rules 11 = .ok (.iload_n 2, 1) := by decide +kernel
theorem dX12_rules_12 : decode cX12_rules 12 = .ok (.iconst 1, 1) := by decide +kernel
theorem dX12_rules_13 : decode cX12_rules 13 = .ok (.if_icmp .eq 30, 3) := by decide +kernel
theorem dX12_rules_16 : decode cX12_rules 16 = .ok (.iload_n 2, 1) := by decide +kernel
theorem dX12_rules_17 : decode cX12_rules 17 = .ok (.iconst (-1), 1) := by decide +kernel
theorem dX12_rules_18 : decode cX12_rules 18 = .ok (.if_icmp .ne 29, 3) := by decide +kernel
theorem dX12_rules_21 : decode cX12_rules 21 = .ok (.ldc2_w 478, 3) := by decide +kernel
theorem dX12_rules_24 : decode cX12_rules 24 = .ok (.aload_n 0, 1) := by decide +kernel
theorem dX12_rules_25 : decode cX12_rules 25 = .ok (.iconst (-1), 1) := by decide +kernel
theorem dX12_rules_26 : decode cX12_rules 26 = .ok (.iconst 0, 1) := by decide +kernel
theorem dX12_rules_27 : decode cX12_rules 27 = .ok (.iload_n 1, 1) := by decide +kernel
theorem dX12_rules_28 : decode cX12_rules 28 = .ok (.invokevirtual 405, 3) := by decide +kernel
theorem dX12_rules_31 : decode cX12_rules 31 = .ok (.lmul, 1) := by decide +kernel
theorem dX12_rules_32 : decode cX12_rules 32 = .ok (.aload_n 0, 1) := by decide +kernel
theorem dX12_rules_33 : decode cX12_rules 33 = .ok (.iconst (-1), 1) := by decide +kernel
theorem dX12_rules_34 : decode cX12_rules 34 = .ok (.iconst 0, 1) := by decide +kernel
theorem dX12_rules_35 : decode cX12_rules 35 = .ok (.iconst (-1), 1) := by decide +kernel
theorem dX12_rules_36 : decode cX12_rules 36 = .ok (.invokevirtual 405, 3) := by decide +kernel
theorem dX12_rules_39 : decode cX12_rules 39 = .ok (.lcmp, 1) := by decide +kernel
theorem dX12_rules_40 : decode cX12_rules 40 = .ok (.ifCond .lt 7, 3) := by decide +kernel
theorem dX12_rules_43 : decode cX12_rules 43 = .ok (.iconst 1, 1) := by decide +kernel
theorem dX12_rules_44 : decode cX12_rules 44 = .ok (.goto 4, 3) := by decide +kernel
theorem dX12_rules_47 : decode cX12_rules 47 = .ok (.iconst 0, 1) := by decide +kernel
theorem dX12_rules_48 : decode cX12_rules 48 = .ok (.istore_n 3, 1) := by decide +kernel
theorem dX12_rules_49 : decode cX12_rules 49 = .ok (.aload_n 0, 1) := by decide +kernel
theorem dX12_rules_50 : decode cX12_rules 50 = .ok (.iload_n 3, 1) := by decide +kernel
theorem dX12_rules_51 : decode cX12_rules 51 = .ok (.aload_n 0, 1) := by decide +kernel
theorem dX12_rules_52 : decode cX12_rules 52 = .ok (.iload_n 1, 1) := by decide +kernel
theorem dX12_rules_53 : decode cX12_rules 53 = .ok (.aload_n 0, 1) := by decide +kernel
theorem dX12_rules_54 : decode cX12_rules 54 = .ok (.getfield 473, 3) := by decide +kernel
theorem dX12_rules_57 : decode cX12_rules 57 = .ok (.invokevirtual 337, 3) := by decide +kernel
theorem dX12_rules_60 : decode cX12_rules 60 = .ok (.if_icmp .ne 7, 3) := by decide +kernel
theorem dX12_rules_63 : decode cX12_rules 63 = .ok (.iconst 0, 1) := by decide +kernel
theorem dX12_rules_64 : decode cX12_rules 64 = .ok (.goto 4, 3) := by decide +kernel
theorem dX12_rules_67 : decode cX12_rules 67 = .ok (.iconst 1, 1) := by decide +kernel
theorem dX12_rules_68 : decode cX12_rules 68 = .ok (.putfield 480, 3) := by decide +kernel
theorem dX12_rules_71 : decode cX12_rules 71 = .ok (.return_, 1) := by decide +kernel
theorem dX12_doesStep_0 : decode cX12_doesStep 0 = .ok (.sipush 148, 3) := by decide +kernel
theorem dX12_doesStep_3 : decode cX12_doesStep 3 = .ok (.iconst 4, 1) := by decide +kernel
theorem dX12_doesStep_4 : decode cX12_doesStep 4 = .ok (.iload_n 1, 1) := by decide +kernel
theorem dX12_doesStep_5 : decode cX12_doesStep 5 = .ok (.imul, 1) := by decide +kernel
theorem dX12_doesStep_6 : decode cX12_doesStep 6 = .ok (.iadd, 1) := by decide +kernel
theorem dX12_doesStep_7 : decode cX12_doesStep 7 = .ok (.istore_n 2, 1) := by decide +kernel
theorem dX12_doesStep_8 : decode cX12_doesStep 8 = .ok (.aload_n 0, 1) := by decide +kernel
theorem dX12_doesStep_9 : decode cX12_doesStep 9 = .ok (.getfield 7, 3) := by decide +kernel
theorem dX12_doesStep_12 : decode cX12_doesStep 12 = .ok (.iload_n 2, 1) := by decide +kernel
theorem dX12_doesStep_13 : decode cX12_doesStep 13 = .ok (.iaload, 1) := by decide +kernel
theorem dX12_doesStep_14 : decode cX12_doesStep 14 = .ok (.istore_n 3, 1) := by decide +kernel
theorem dX12_doesStep_15 : decode cX12_doesStep 15 = .ok (.aload_n 0, 1) := by decide +kernel
theorem dX12_doesStep_16 : decode cX12_doesStep 16 = .ok (.getfield 7, 3) := by decide +kernel
theorem dX12_doesStep_19 : decode cX12_doesStep 19 = .ok (.iload_n 2, 1) := by decide +kernel
theorem dX12_doesStep_20 : decode cX12_doesStep 20 = .ok (.iconst 1, 1) := by decide +kernel
theorem dX12_doesStep_21 : decode cX12_doesStep 21 = .ok (.iadd, 1) := by decide +kernel
theorem dX12_doesStep_22 : decode cX12_doesStep 22 = .ok (.iaload, 1) := by decide +kernel
theorem dX12_doesStep_23 : decode cX12_doesStep 23 = .ok (.istore 4, 2) := by decide +kernel
theorem dX12_doesStep_25 : decode cX12_doesStep 25 = .ok (.aload_n 0, 1) := by decide +kernel
theorem dX12_doesStep_26 : decode cX12_doesStep 26 = .ok (.getfield 7, 3) := by decide +kernel
theorem dX12_doesStep_29 : decode cX12_doesStep 29 = .ok (.iload_n 2, 1) := by decide +kernel
theorem dX12_doesStep_30 : decode cX12_doesStep 30 = .ok (.iconst 2, 1) := by decide +kernel
theorem dX12_doesStep_31 : decode cX12_doesStep 31 = .ok (.iadd, 1) := by decide +kernel
theorem dX12_doesStep_32 : decode cX12_doesStep 32 = .ok (.iaload, 1) := by decide +kernel
theorem dX12_doesStep_33 : decode cX12_doesStep 33 = .ok (.istore 5, 2) := by decide +kernel
theorem dX12_doesStep_35 : decode cX12_doesStep 35 = .ok (.iload_n 3, 1) := by decide +kernel
theorem dX12_doesStep_36 : decode cX12_doesStep 36 = .ok (.bipush 17, 2) := by decide +kernel
theorem dX12_doesStep_38 : decode cX12_doesStep 38 = .ok (.if_icmp .ne 29, 3) := by decide +kernel
theorem dX12_doesStep_41 : decode cX12_doesStep 41 = .ok (.aload_n 0, 1) := by decide +kernel
theorem dX12_doesStep_42 : decode cX12_doesStep 42 = .ok (.iload 4, 2) := by decide +kernel
theorem dX12_doesStep_44 : decode cX12_doesStep 44 = .ok (.invokevirtual 340, 3) := by decide +kernel
theorem dX12_doesStep_47 : decode cX12_doesStep 47 = .ok (.ifCond .eq 20, 3) := by decide +kernel
theorem dX12_doesStep_50 : decode cX12_doesStep 50 = .ok (.aload_n 0, 1) := by decide +kernel
theorem dX12_doesStep_51 : decode cX12_doesStep 51 = .ok (.iload 5, 2) := by decide +kernel
theorem dX12_doesStep_53 : decode cX12_doesStep 53 = .ok (.invokevirtual 334, 3) := by decide +kernel
theorem dX12_doesStep_56 : decode cX12_doesStep 56 = .ok (.ifCond .eq 11, 3) := by decide +kernel
theorem dX12_doesStep_59 : decode cX12_doesStep 59 = .ok (.aload_n 0, 1) := by decide +kernel
theorem dX12_doesStep_60 : decode cX12_doesStep 60 = .ok (.iload 4, 2) := by decide +kernel
theorem dX12_doesStep_62 : decode cX12_doesStep 62 = .ok (.iload 5, 2) := by decide +kernel
theorem dX12_doesStep_64 : decode cX12_doesStep 64 = .ok (.invokevirtual 483, 3) := by decide +kernel
theorem dX12_doesStep_67 : decode cX12_doesStep 67 = .ok (.iload_n 3, 1) := by decide +kernel
theorem dX12_doesStep_68 : decode cX12_doesStep 68 = .ok (.bipush 18, 2) := by decide +kernel
theorem dX12_doesStep_70 : decode cX12_doesStep 70 = .ok (.if_icmp .ne 28, 3) := by decide +kernel
theorem dX12_doesStep_73 : decode cX12_doesStep 73 = .ok (.aload_n 0, 1) := by decide +kernel
theorem dX12_doesStep_74 : decode cX12_doesStep 74 = .ok (.iload 4, 2) := by decide +kernel
theorem dX12_doesStep_76 : decode cX12_doesStep 76 = .ok (.invokevirtual 340, 3) := by decide +kernel
theorem dX12_doesStep_79 : decode cX12_doesStep 79 = .ok (.ifCond .eq 19, 3) := by decide +kernel
theorem dX12_doesStep_82 : decode cX12_doesStep 82 = .ok (.aload_n 0, 1) := by decide +kernel
theorem dX12_doesStep_83 : decode cX12_doesStep 83 = .ok (.invokevirtual 388, 3) := by decide +kernel
theorem dX12_doesStep_86 : decode cX12_doesStep 86 = .ok (.aload_n 0, 1) := by decide +kernel
theorem dX12_doesStep_87 : decode cX12_doesStep 87 = .ok (.iload 4, 2) := by decide +kernel
theorem dX12_doesStep_89 : decode cX12_doesStep 89 = .ok (.aload_n 0, 1) := by decide +kernel
theorem dX12_doesStep_90 : decode cX12_doesStep 90 = .ok (.iload 4, 2) := by decide +kernel
theorem dX12_doesStep_92 : decode cX12_doesStep 92 = .ok (.invokevirtual 430, 3) := by decide +kernel
theorem dX12_doesStep_95 : decode cX12_doesStep 95 = .ok (.invokevirtual 483, 3) := by decide +kernel
theorem dX12_doesStep_98 : decode cX12_doesStep 98 = .ok (.iload_n 3, 1) := by decide +kernel
theorem dX12_doesStep_99 : decode cX12_doesStep 99 = .ok (.bipush 19, 2) := by decide +kernel
theorem dX12_doesStep_101 : decode cX12_doesStep 101 = .ok (.if_icmp .ne 13, 3) := by decide +kernel
theorem dX12_doesStep_104 : decode cX12_doesStep 104 = .ok (.aload_n 0, 1) := by decide +kernel
theorem dX12_doesStep_105 : decode cX12_doesStep 105 = .ok (.getfield 7, 3) := by decide +kernel
theorem dX12_doesStep_108 : decode cX12_doesStep 108 = .ok (.iconst 5, 1) := by decide +kernel
theorem dX12_doesStep_109 : decode cX12_doesStep 109 = .ok (.dup2, 1) := by decide +kernel
theorem dX12_doesStep_110 : decode cX12_doesStep 110 = .ok (.iaload, 1) := by decide +kernel
theorem dX12_doesStep_111 : decode cX12_doesStep 111 = .ok (.iconst 1, 1) := by decide +kernel
theorem dX12_doesStep_112 : decode cX12_doesStep 112 = .ok (.iadd, 1) := by decide +kernel
theorem dX12_doesStep_113 : decode cX12_doesStep 113 = .ok (.iastore, 1) := by decide +kernel
theorem dX12_doesStep_114 : decode cX12_doesStep 114 = .ok (.iload_n 3, 1) := by decide +kernel
theorem dX12_doesStep_115 : decode cX12_doesStep 115 = .ok (.bipush 20, 2) := by decide +kernel
theorem dX12_doesStep_117 : decode cX12_doesStep 117 = .ok (.if_icmp .ne 20, 3) := by decide +kernel
theorem dX12_doesStep_120 : decode cX12_doesStep 120 = .ok (.aload_n 0, 1) := by decide +kernel
theorem dX12_doesStep_121 : decode cX12_doesStep 121 = .ok (.iload 5, 2) := by decide +kernel
theorem dX12_doesStep_123 : decode cX12_doesStep 123 = .ok (.invokevirtual 334, 3) := by decide +kernel
theorem dX12_doesStep_126 : decode cX12_doesStep 126 = .ok (.ifCond .eq 11, 3) := by decide +kernel
theorem dX12_doesStep_129 : decode cX12_doesStep 129 = .ok (.aload_n 0, 1) := by decide +kernel
theorem dX12_doesStep_130 : decode cX12_doesStep 130 = .ok (.iload 5, 2) := by decide +kernel
theorem dX12_doesStep_132 : decode cX12_doesStep 132 = .ok (.invokevirtual 486, 3) := by decide +kernel
theorem dX12_doesStep_135 : decode cX12_doesStep 135 = .ok (.iconst (-1), 1) := by decide +kernel
theorem dX12_doesStep_136 : decode cX12_doesStep 136 = .ok (.ireturn, 1) := by decide +kernel
theorem dX12_doesStep_137 : decode cX12_doesStep 137 = .ok (.iload_n 3, 1) := by decide +kernel
theorem dX12_doesStep_138 : decode cX12_doesStep 138 = .ok (.sipush 2100, 3) := by decide +kernel
theorem dX12_doesStep_141 : decode cX12_doesStep 141 = .ok (.if_icmp .lt 24, 3) := by decide +kernel
theorem dX12_doesStep_144 : decode cX12_doesStep 144 = .ok (.aload_n 0, 1) := by decide +kernel
theorem dX12_doesStep_145 : decode cX12_doesStep 145 = .ok (.iload_n 2, 1) := by decide +kernel
theorem dX12_doesStep_146 : decode cX12_doesStep 146 = .ok (.invokevirtual 489, 3) := by decide +kernel
theorem dX12_doesStep_149 : decode cX12_doesStep 149 = .ok (.ifCond .ne 16, 3) := by decide +kernel
theorem dX12_doesStep_152 : decode cX12_doesStep 152 = .ok (.aload_n 0, 1) := by decide +kernel
theorem dX12_doesStep_153 : decode cX12_doesStep 153 = .ok (.getfield 7, 3) := by decide +kernel
theorem dX12_doesStep_156 : decode cX12_doesStep 156 = .ok (.iload_n 2, 1) := by decide +kernel
theorem dX12_doesStep_157 : decode cX12_doesStep 157 = .ok (.iconst 3, 1) := by decide +kernel
theorem dX12_doesStep_158 : decode cX12_doesStep 158 = .ok (.iadd, 1) := by decide +kernel
theorem dX12_doesStep_159 : decode cX12_doesStep 159 = .ok (.iaload, 1) := by decide +kernel
theorem dX12_doesStep_160 : decode cX12_doesStep 160 = .ok (.iconst 1, 1) := by decide +kernel
theorem dX12_doesStep_161 : decode cX12_doesStep 161 = .ok (.iadd, 1) := by decide +kernel
theorem dX12_doesStep_162 : decode cX12_doesStep 162 = .ok (.goto 6, 3) := by decide +kernel
theorem dX12_doesStep_165 : decode cX12_doesStep 165 = .ok (.iload_n 1, 1) := by decide +kernel
theorem dX12_doesStep_166 : decode cX12_doesStep 166 = .ok (.iconst 1, 1) := by decide +kernel
theorem dX12_doesStep_167 : decode cX12_doesStep 167 = .ok (.iadd, 1) := by decide +kernel
theorem dX12_doesStep_168 : decode cX12_doesStep 168 = .ok (.ireturn, 1) := by decide +kernel
theorem dX12_sits_0 : decode cX12_sits 0 = .ok (.aload_n 0, 1) := by decide +kernel
theorem dX12_sits_1 : decode cX12_sits 1 = .ok (.getfield 7, 3) := by decide +kernel
theorem dX12_sits_4 : decode cX12_sits 4 = .ok (.iconst 5, 1) := by decide +kernel
theorem dX12_sits_5 : decode cX12_sits 5 = .ok (.iaload, 1) := by decide +kernel
theorem dX12_sits_6 : decode cX12_sits 6 = .ok (.istore_n 2, 1) := by decide +kernel
theorem dX12_sits_7 : decode cX12_sits 7 = .ok (.aload_n 0, 1) := by decide +kernel
theorem dX12_sits_8 : decode cX12_sits 8 = .ok (.getfield 7, 3) := by decide +kernel
theorem dX12_sits_11 : decode cX12_sits 11 = .ok (.bipush 6, 2) := by decide +kernel
theorem dX12_sits_13 : decode cX12_sits 13 = .ok (.iaload, 1) := by decide +kernel
theorem dX12_sits_14 : decode cX12_sits 14 = .ok (.istore_n 3, 1) := by decide +kernel
theorem dX12_sits_15 : decode cX12_sits 15 = .ok (.iconst 0, 1) := by decide +kernel
theorem dX12_sits_16 : decode cX12_sits 16 = .ok (.istore 4, 2) := by decide +kernel
theorem dX12_sits_18 : decode cX12_sits 18 = .ok (.iload 4, 2) := by decide +kernel
theorem dX12_sits_20 : decode cX12_sits 20 = .ok (.bipush 48, 2) := by decide +kernel
theorem dX12_sits_22 : decode cX12_sits 22 = .ok (.if_icmp .ge 26, 3) := by decide +kernel
theorem dX12_sits_25 : decode cX12_sits 25 = .ok (.aload_n 0, 1) := by decide +kernel
theorem dX12_sits_26 : decode cX12_sits 26 = .ok (.getfield 85, 3) := by decide +kernel
theorem dX12_sits_29 : decode cX12_sits 29 = .ok (.iload 4, 2) := by decide +kernel
theorem dX12_sits_31 : decode cX12_sits 31 = .ok (.aload_n 0, 1) := by decide +kernel
theorem dX12_sits_32 : decode cX12_sits 32 = .ok (.getfield 7, 3) := by decide +kernel
theorem dX12_sits_35 : decode cX12_sits 35 = .ok (.bipush 100, 2) := by decide +kernel
theorem dX12_sits_37 : decode cX12_sits 37 = .ok (.iload 4, 2) := by decide +kernel
theorem dX12_sits_39 : decode cX12_sits 39 = .ok (.iadd, 1) := by decide +kernel
theorem dX12_sits_40 : decode cX12_sits 40 = .ok (.iaload, 1) := by decide +kernel
theorem dX12_sits_41 : decode cX12_sits 41 = .ok (.iastore, 1) := by decide +kernel
theorem dX12_sits_42 : decode cX12_sits 42 = .ok (.iinc 4 1, 3) := by decide +kernel
theorem dX12_sits_45 : decode cX12_sits 45 = .ok (.goto (-27), 3) := by decide +kernel
theorem dX12_sits_48 : decode cX12_sits 48 = .ok (.aload_n 0, 1) := by decide +kernel
theorem dX12_sits_49 : decode cX12_sits 49 = .ok (.getfield 7, 3) := by decide +kernel
theorem dX12_sits_52 : decode cX12_sits 52 = .ok (.iconst 5, 1) := by decide +kernel
theorem dX12_sits_53 : decode cX12_sits 53 = .ok (.iconst 0, 1) := by decide +kernel
theorem dX12_sits_54 : decode cX12_sits 54 = .ok (.iastore, 1) := by decide +kernel
theorem dX12_sits_55 : decode cX12_sits 55 = .ok (.aload_n 0, 1) := by decide +kernel
theorem dX12_sits_56 : decode cX12_sits 56 = .ok (.getfield 7, 3) := by decide +kernel
theorem dX12_sits_59 : decode cX12_sits 59 = .ok (.bipush 6, 2) := by decide +kernel
theorem dX12_sits_61 : decode cX12_sits 61 = .ok (.iconst 0, 1) := by decide +kernel
theorem dX12_sits_62 : decode cX12_sits 62 = .ok (.iastore, 1) := by decide +kernel
theorem dX12_sits_63 : decode cX12_sits 63 = .ok (.aload_n 0, 1) := by decide +kernel
theorem dX12_sits_64 : decode cX12_sits 64 = .ok (.iload_n 1, 1) := by decide +kernel
theorem dX12_sits_65 : decode cX12_sits 65 = .ok (.putfield 465, 3) := by decide +kernel
theorem dX12_sits_68 : decode cX12_sits 68 = .ok (.aload_n 0, 1) := by decide +kernel
theorem dX12_sits_69 : decode cX12_sits 69 = .ok (.invokevirtual 492, 3) := by decide +kernel
theorem dX12_sits_72 : decode cX12_sits 72 = .ok (.aload_n 0, 1) := by decide +kernel
theorem dX12_sits_73 : decode cX12_sits 73 = .ok (.iconst 2, 1) := by decide +kernel
theorem dX12_sits_74 : decode cX12_sits 74 = .ok (.putfield 480, 3) := by decide +kernel
theorem dX12_sits_77 : decode cX12_sits 77 = .ok (.iconst 0, 1) := by decide +kernel
theorem dX12_sits_78 : decode cX12_sits 78 = .ok (.istore 4, 2) := by decide +kernel
theorem dX12_sits_80 : decode cX12_sits 80 = .ok (.iload 4, 2) := by decide +kernel
theorem dX12_sits_82 : decode cX12_sits 82 = .ok (.iconst (-1), 1) := by decide +kernel
theorem dX12_sits_83 : decode cX12_sits 83 = .ok (.if_icmp .eq 26, 3) := by decide +kernel
theorem dX12_sits_86 : decode cX12_sits 86 = .ok (.iload 4, 2) := by decide +kernel
theorem dX12_sits_88 : decode cX12_sits 88 = .ok (.aload_n 0, 1) := by decide +kernel
theorem dX12_sits_89 : decode cX12_sits 89 = .ok (.getfield 7, 3) := by decide +kernel
theorem dX12_sits_92 : decode cX12_sits 92 = .ok (.bipush 7, 2) := by decide +kernel
theorem dX12_sits_94 : decode cX12_sits 94 = .ok (.iaload, 1) := by decide +kernel
theorem dX12_sits_95 : decode cX12_sits 95 = .ok (.if_icmp .ge 14, 3) := by decide +kernel
theorem dX12_sits_98 : decode cX12_sits 98 = .ok (.aload_n 0, 1) := by decide +kernel
theorem dX12_sits_99 : decode cX12_sits 99 = .ok (.iload 4, 2) := by decide +kernel
theorem dX12_sits_101 : decode cX12_sits 101 = .ok (.invokevirtual 495, 3) := by decide +kernel
theorem dX12_sits_104 : decode cX12_sits 104 = .ok (.istore 4, 2) := by decide +kernel
theorem dX12_sits_106 : decode cX12_sits 106 = .ok (.goto (-26), 3) := by decide +kernel
theorem dX12_sits_109 : decode cX12_sits 109 = .ok (.aload_n 0, 1) := by decide +kernel
theorem dX12_sits_110 : decode cX12_sits 110 = .ok (.getfield 88, 3) := by decide +kernel
theorem dX12_sits_113 : decode cX12_sits 113 = .ok (.iconst 0, 1) := by decide +kernel
theorem dX12_sits_114 : decode cX12_sits 114 = .ok (.aload_n 0, 1) := by decide +kernel
theorem dX12_sits_115 : decode cX12_sits 115 = .ok (.getfield 7, 3) := by decide +kernel
theorem dX12_sits_118 : decode cX12_sits 118 = .ok (.bipush 6, 2) := by decide +kernel
theorem dX12_sits_120 : decode cX12_sits 120 = .ok (.iaload, 1) := by decide +kernel
theorem dX12_sits_121 : decode cX12_sits 121 = .ok (.iastore, 1) := by decide +kernel
theorem dX12_sits_122 : decode cX12_sits 122 = .ok (.aload_n 0, 1) := by decide +kernel
theorem dX12_sits_123 : decode cX12_sits 123 = .ok (.getfield 88, 3) := by decide +kernel
theorem dX12_sits_126 : decode cX12_sits 126 = .ok (.iconst 1, 1) := by decide +kernel
theorem dX12_sits_127 : decode cX12_sits 127 = .ok (.aload_n 0, 1) := by decide +kernel
theorem dX12_sits_128 : decode cX12_sits 128 = .ok (.invokevirtual 418, 3) := by decide +kernel
theorem dX12_sits_131 : decode cX12_sits 131 = .ok (.iastore, 1) := by decide +kernel
theorem dX12_sits_132 : decode cX12_sits 132 = .ok (.aload_n 0, 1) := by decide +kernel
theorem dX12_sits_133 : decode cX12_sits 133 = .ok (.getfield 88, 3) := by decide +kernel
theorem dX12_sits_136 : decode cX12_sits 136 = .ok (.iconst 2, 1) := by decide +kernel
theorem dX12_sits_137 : decode cX12_sits 137 = .ok (.aload_n 0, 1) := by decide +kernel
theorem dX12_sits_138 : decode cX12_sits 138 = .ok (.getfield 7, 3) := by decide +kernel
theorem dX12_sits_141 : decode cX12_sits 141 = .ok (.iconst 5, 1) := by decide +kernel
theorem dX12_sits_142 : decode cX12_sits 142 = .ok (.iaload, 1) := by decide +kernel
theorem dX12_sits_143 : decode cX12_sits 143 = .ok (.iastore, 1) := by decide +kernel
theorem dX12_sits_144 : decode cX12_sits 144 = .ok (.aload_n 0, 1) := by decide +kernel
theorem dX12_sits_145 : decode cX12_sits 145 = .ok (.getfield 88, 3) := by decide +kernel
theorem dX12_sits_148 : decode cX12_sits 148 = .ok (.iconst 3, 1) := by decide +kernel
theorem dX12_sits_149 : decode cX12_sits 149 = .ok (.aload_n 0, 1) := by decide +kernel
theorem dX12_sits_150 : decode cX12_sits 150 = .ok (.getfield 473, 3) := by decide +kernel
theorem dX12_sits_153 : decode cX12_sits 153 = .ok (.iastore, 1) := by decide +kernel
theorem dX12_sits_154 : decode cX12_sits 154 = .ok (.aload_n 0, 1) := by decide +kernel
theorem dX12_sits_155 : decode cX12_sits 155 = .ok (.invokevirtual 388, 3) := by decide +kernel
theorem dX12_sits_158 : decode cX12_sits 158 = .ok (.aload_n 0, 1) := by decide +kernel
theorem dX12_sits_159 : decode cX12_sits 159 = .ok (.getfield 88, 3) := by decide +kernel
theorem dX12_sits_162 : decode cX12_sits 162 = .ok (.iconst 4, 1) := by decide +kernel
theorem dX12_sits_163 : decode cX12_sits 163 = .ok (.aload_n 0, 1) := by decide +kernel
theorem dX12_sits_164 : decode cX12_sits 164 = .ok (.iconst 0, 1) := by decide +kernel
theorem dX12_sits_165 : decode cX12_sits 165 = .ok (.invokevirtual 391, 3) := by decide +kernel
theorem dX12_sits_168 : decode cX12_sits 168 = .ok (.iastore, 1) := by decide +kernel
theorem dX12_sits_169 : decode cX12_sits 169 = .ok (.aload_n 0, 1) := by decide +kernel
theorem dX12_sits_170 : decode cX12_sits 170 = .ok (.getfield 88, 3) := by decide +kernel
theorem dX12_sits_173 : decode cX12_sits 173 = .ok (.iconst 5, 1) := by decide +kernel
theorem dX12_sits_174 : decode cX12_sits 174 = .ok (.iconst 0, 1) := by decide +kernel
theorem dX12_sits_175 : decode cX12_sits 175 = .ok (.iastore, 1) := by decide +kernel
theorem dX12_sits_176 : decode cX12_sits 176 = .ok (.iconst 0, 1) := by decide +kernel
theorem dX12_sits_177 : decode cX12_sits 177 = .ok (.istore 5, 2) := by decide +kernel
theorem dX12_sits_179 : decode cX12_sits 179 = .ok (.iload 5, 2) := by decide +kernel
theorem dX12_sits_181 : decode cX12_sits 181 = .ok (.aload_n 0, 1) := by decide +kernel
theorem dX12_sits_182 : decode cX12_sits 182 = .ok (.getfield 7, 3) := by decide +kernel
theorem dX12_sits_185 : decode cX12_sits 185 = .ok (.iconst 4, 1) := by decide +kernel
theorem dX12_sits_186 : decode cX12_sits 186 = .ok (.iaload, 1) := by decide +kernel
theorem dX12_sits_187 : decode cX12_sits 187 = .ok (.if_icmp .ge 36, 3) := by decide +kernel
theorem dX12_sits_190 : decode cX12_sits 190 = .ok (.aload_n 0, 1) := by decide +kernel
theorem dX12_sits_191 : decode cX12_sits 191 = .ok (.getfield 88, 3) := by decide +kernel
theorem dX12_sits_194 : decode cX12_sits 194 = .ok (.iconst 5, 1) := by decide +kernel
theorem dX12_sits_195 : decode cX12_sits 195 = .ok (.dup2, 1) := by decide +kernel
theorem dX12_sits_196 : decode cX12_sits 196 = .ok (.iaload, 1) := by decide +kernel
theorem dX12_sits_197 : decode cX12_sits 197 = .ok (.aload_n 0, 1) := by decide +kernel
theorem dX12_sits_198 : decode cX12_sits 198 = .ok (.getfield 82, 3) := by decide +kernel
theorem dX12_sits_201 : decode cX12_sits 201 = .ok (.iload 5, 2) := by decide +kernel
theorem dX12_sits_203 : decode cX12_sits 203 = .ok (.iaload, 1) := by decide +kernel
theorem dX12_sits_204 : decode cX12_sits 204 = .ok (.ifCond .ne 7, 3) := by decide +kernel
theorem dX12_sits_207 : decode cX12_sits 207 = .ok (.iconst 0, 1) := by decide +kernel
theorem dX12_sits_208 : decode cX12_sits 208 = .ok (.goto 7, 3) := by decide +kernel
theorem dX12_sits_211 : decode cX12_sits 211 = .ok (.iconst 1, 1) := by decide +kernel
theorem dX12_sits_212 : decode cX12_sits 212 = .ok (.iload 5, 2) := by decide +kernel
theorem dX12_sits_214 : decode cX12_sits 214 = .ok (.ishl, 1) := by decide +kernel
theorem dX12_sits_215 : decode cX12_sits 215 = .ok (.ior, 1) := by decide +kernel
theorem dX12_sits_216 : decode cX12_sits 216 = .ok (.iastore, 1) := by decide +kernel
theorem dX12_sits_217 : decode cX12_sits 217 = .ok (.iinc 5 1, 3) := by decide +kernel
theorem dX12_sits_220 : decode cX12_sits 220 = .ok (.goto (-41), 3) := by decide +kernel
theorem dX12_sits_223 : decode cX12_sits 223 = .ok (.aload_n 0, 1) := by decide +kernel
theorem dX12_sits_224 : decode cX12_sits 224 = .ok (.getfield 7, 3) := by decide +kernel
theorem dX12_sits_227 : decode cX12_sits 227 = .ok (.iconst 5, 1) := by decide +kernel
theorem dX12_sits_228 : decode cX12_sits 228 = .ok (.iload_n 2, 1) := by decide +kernel
theorem dX12_sits_229 : decode cX12_sits 229 = .ok (.iastore, 1) := by decide +kernel
theorem dX12_sits_230 : decode cX12_sits 230 = .ok (.aload_n 0, 1) := by decide +kernel
theorem dX12_sits_231 : decode cX12_sits 231 = .ok (.getfield 7, 3) := by decide +kernel
theorem dX12_sits_234 : decode cX12_sits 234 = .ok (.bipush 6, 2) := by decide +kernel
theorem dX12_sits_236 : decode cX12_sits 236 = .ok (.iload_n 3, 1) := by decide +kernel
theorem dX12_sits_237 : decode cX12_sits 237 = .ok (.iastore, 1) := by decide +kernel
theorem dX12_sits_238 : decode cX12_sits 238 = .ok (.iconst 0, 1) := by decide +kernel
theorem dX12_sits_239 : decode cX12_sits 239 = .ok (.istore 5, 2) := by decide +kernel
theorem dX12_sits_241 : decode cX12_sits 241 = .ok (.iload 5, 2) := by decide +kernel
theorem dX12_sits_243 : decode cX12_sits 243 = .ok (.bipush 48, 2) := by decide +kernel
theorem dX12_sits_245 : decode cX12_sits 245 = .ok (.if_icmp .ge 26, 3) := by decide +kernel
theorem dX12_sits_248 : decode cX12_sits 248 = .ok (.aload_n 0, 1) := by decide +kernel
theorem dX12_sits_249 : decode cX12_sits 249 = .ok (.getfield 7, 3) := by decide +kernel
theorem dX12_sits_252 : decode cX12_sits 252 = .ok (.bipush 100, 2) := by decide +kernel
theorem dX12_sits_254 : decode cX12_sits 254 = .ok (.iload 5, 2) := by decide +kernel
theorem dX12_sits_256 : decode cX12_sits 256 = .ok (.iadd, 1) := by decide +kernel
theorem dX12_sits_257 : decode cX12_sits 257 = .ok (.aload_n 0, 1) := by decide +kernel
theorem dX12_sits_258 : decode cX12_sits 258 = .ok (.getfield 85, 3) := by decide +kernel
theorem dX12_sits_261 : decode cX12_sits 261 = .ok (.iload 5, 2) := by decide +kernel
theorem dX12_sits_263 : decode cX12_sits 263 = .ok (.iaload, 1) := by decide +kernel
theorem dX12_sits_264 : decode cX12_sits 264 = .ok (.iastore, 1) := by decide +kernel
theorem dX12_sits_265 : decode cX12_sits 265 = .ok (.iinc 5 1, 3) := by decide +kernel
theorem dX12_sits_268 : decode cX12_sits 268 = .ok (.goto (-27), 3) := by decide +kernel
theorem dX12_sits_271 : decode cX12_sits 271 = .ok (.return_, 1) := by decide +kernel
theorem dX12_canSit_0 : decode cX12_canSit 0 = .ok (.aload_n 0, 1) := by decide +kernel
theorem dX12_canSit_1 : decode cX12_canSit 1 = .ok (.getfield 7, 3) := by decide +kernel
theorem dX12_canSit_4 : decode cX12_canSit 4 = .ok (.bipush 7, 2) := by decide +kernel
theorem dX12_canSit_6 : decode cX12_canSit 6 = .ok (.iaload, 1) := by decide +kernel
theorem dX12_canSit_7 : decode cX12_canSit 7 = .ok (.iconst (-1), 1) := by decide +kernel
theorem dX12_canSit_8 : decode cX12_canSit 8 = .ok (.if_icmp .eq 15, 3) := by decide +kernel
theorem dX12_canSit_11 : decode cX12_canSit 11 = .ok (.aload_n 0, 1) := by decide +kernel
theorem dX12_canSit_12 : decode cX12_canSit 12 = .ok (.iconst 0, 1) := by decide +kernel
theorem dX12_canSit_13 : decode cX12_canSit 13 = .ok (.invokevirtual 298, 3) := by decide +kernel
theorem dX12_canSit_16 : decode cX12_canSit 16 = .ok (.ifCond .le 7, 3) := by decide +kernel
theorem dX12_canSit_19 : decode cX12_canSit 19 = .ok (.iconst 1, 1) := by decide +kernel
theorem dX12_canSit_20 : decode cX12_canSit 20 = .ok (.goto 4, 3) := by decide +kernel
theorem dX12_canSit_23 : decode cX12_canSit 23 = .ok (.iconst 0, 1) := by decide +kernel
theorem dX12_canSit_24 : decode cX12_canSit 24 = .ok (.ireturn, 1) := by decide +kernel
theorem dX12_sit_0 : decode cX12_sit 0 = .ok (.iload_n 1, 1) := by decide +kernel
theorem dX12_sit_1 : decode cX12_sit 1 = .ok (.i2l, 1) := by decide +kernel
theorem dX12_sit_2 : decode cX12_sit 2 = .ok (.lconst 0, 1) := by decide +kernel
theorem dX12_sit_3 : decode cX12_sit 3 = .ok (.ldc2_w 498, 3) := by decide +kernel
theorem dX12_sit_6 : decode cX12_sit 6 = .ok (.invokestatic 500, 3) := by decide +kernel
theorem dX12_sit_9 : decode cX12_sit 9 = .ok (.ifCond .ne 9, 3) := by decide +kernel
theorem dX12_sit_12 : decode cX12_sit 12 = .ok (.aload_n 0, 1) := by decide +kernel
theorem dX12_sit_13 : decode cX12_sit 13 = .ok (.iconst 1, 1) := by decide +kernel
theorem dX12_sit_14 : decode cX12_sit 14 = .ok (.invokevirtual 197, 3) := by decide +kernel
theorem dX12_sit_17 : decode cX12_sit 17 = .ok (.ireturn, 1) := by decide +kernel
theorem dX12_sit_18 : decode cX12_sit 18 = .ok (.aload_n 0, 1) := by decide +kernel
theorem dX12_sit_19 : decode cX12_sit 19 = .ok (.invokevirtual 504, 3) := by decide +kernel
theorem dX12_sit_22 : decode cX12_sit 22 = .ok (.ifCond .ne 10, 3) := by decide +kernel
theorem dX12_sit_25 : decode cX12_sit 25 = .ok (.aload_n 0, 1) := by decide +kernel
theorem dX12_sit_26 : decode cX12_sit 26 = .ok (.bipush 6, 2) := by decide +kernel
theorem dX12_sit_28 : decode cX12_sit 28 = .ok (.invokevirtual 197, 3) := by decide +kernel
theorem dX12_sit_31 : decode cX12_sit 31 = .ok (.ireturn, 1) := by decide +kernel
theorem dX12_sit_32 : decode cX12_sit 32 = .ok (.aload_n 0, 1) := by decide +kernel
theorem dX12_sit_33 : decode cX12_sit 33 = .ok (.iload_n 1, 1) := by decide +kernel
theorem dX12_sit_34 : decode cX12_sit 34 = .ok (.invokevirtual 507, 3) := by decide +kernel
theorem dX12_sit_37 : decode cX12_sit 37 = .ok (.iconst 0, 1) := by decide +kernel
theorem dX12_sit_38 : decode cX12_sit 38 = .ok (.istore_n 2, 1) := by decide +kernel
theorem dX12_sit_39 : decode cX12_sit 39 = .ok (.iload_n 2, 1) := by decide +kernel
theorem dX12_sit_40 : decode cX12_sit 40 = .ok (.bipush 6, 2) := by decide +kernel
theorem dX12_sit_42 : decode cX12_sit 42 = .ok (.if_icmp .ge 21, 3) := by decide +kernel
theorem dX12_sit_45 : decode cX12_sit 45 = .ok (.aload_n 0, 1) := by decide +kernel
theorem dX12_sit_46 : decode cX12_sit 46 = .ok (.getfield 91, 3) := by decide +kernel
theorem dX12_sit_49 : decode cX12_sit 49 = .ok (.iload_n 2, 1) := by decide +kernel
theorem dX12_sit_50 : decode cX12_sit 50 = .ok (.aload_n 0, 1) := by decide +kernel
theorem dX12_sit_51 : decode cX12_sit 51 = .ok (.getfield 88, 3) := by decide +kernel
theorem dX12_sit_54 : decode cX12_sit 54 = .ok (.iload_n 2, 1) := by decide +kernel
theorem dX12_sit_55 : decode cX12_sit 55 = .ok (.iaload, 1) := by decide +kernel
theorem dX12_sit_56 : decode cX12_sit 56 = .ok (.iastore, 1) := by decide +kernel
theorem dX12_sit_57 : decode cX12_sit 57 = .ok (.iinc 2 1, 3) := by decide +kernel
theorem dX12_sit_60 : decode cX12_sit 60 = .ok (.goto (-21), 3) := by decide +kernel
theorem dX12_sit_63 : decode cX12_sit 63 = .ok (.aload_n 0, 1) := by decide +kernel
theorem dX12_sit_64 : decode cX12_sit 64 = .ok (.iconst 1, 1) := by decide +kernel
theorem dX12_sit_65 : decode cX12_sit 65 = .ok (.putfield 510, 3) := by decide +kernel
theorem dX12_sit_68 : decode cX12_sit 68 = .ok (.aload_n 0, 1) := by decide +kernel
theorem dX12_sit_69 : decode cX12_sit 69 = .ok (.aload_n 0, 1) := by decide +kernel
theorem dX12_sit_70 : decode cX12_sit 70 = .ok (.getfield 480, 3) := by decide +kernel
theorem dX12_sit_73 : decode cX12_sit 73 = .ok (.invokevirtual 200, 3) := by decide +kernel
theorem dX12_sit_76 : decode cX12_sit 76 = .ok (.ireturn, 1) := by decide +kernel
theorem dX12_sat_0 : decode cX12_sat 0 = .ok (.iload_n 1, 1) := by decide +kernel
theorem dX12_sat_1 : decode cX12_sat 1 = .ok (.ifCond .lt 8, 3) := by decide +kernel
theorem dX12_sat_4 : decode cX12_sat 4 = .ok (.iload_n 1, 1) := by decide +kernel
theorem dX12_sat_5 : decode cX12_sat 5 = .ok (.iconst 5, 1) := by decide +kernel
theorem dX12_sat_6 : decode cX12_sat 6 = .ok (.if_icmp .le 11, 3) := by decide +kernel
theorem dX12_sat_9 : decode cX12_sat 9 = .ok (.aload_n 0, 1) := by decide +kernel
theorem dX12_sat_10 : decode cX12_sat 10 = .ok (.iconst 1, 1) := by decide +kernel
theorem dX12_sat_11 : decode cX12_sat 11 = .ok (.invokevirtual 197, 3) := by decide +kernel
theorem dX12_sat_14 : decode cX12_sat 14 = .ok (.goto 29, 3) := by decide +kernel
theorem dX12_sat_17 : decode cX12_sat 17 = .ok (.aload_n 0, 1) := by decide +kernel
theorem dX12_sat_18 : decode cX12_sat 18 = .ok (.getfield 510, 3) := by decide +kernel
theorem dX12_sat_21 : decode cX12_sat 21 = .ok (.ifCond .ne 12, 3) := by decide +kernel
theorem dX12_sat_24 : decode cX12_sat 24 = .ok (.aload_n 0, 1) := by decide +kernel
theorem dX12_sat_25 : decode cX12_sat 25 = .ok (.bipush 6, 2) := by decide +kernel
theorem dX12_sat_27 : decode cX12_sat 27 = .ok (.invokevirtual 197, 3) := by decide +kernel
theorem dX12_sat_30 : decode cX12_sat 30 = .ok (.goto 13, 3) := by decide +kernel
theorem dX12_sat_33 : decode cX12_sat 33 = .ok (.aload_n 0, 1) := by decide +kernel
theorem dX12_sat_34 : decode cX12_sat 34 = .ok (.aload_n 0, 1) := by decide +kernel
theorem dX12_sat_35 : decode cX12_sat 35 = .ok (.getfield 91, 3) := by decide +kernel
theorem dX12_sat_38 : decode cX12_sat 38 = .ok (.iload_n 1, 1) := by decide +kernel
theorem dX12_sat_39 : decode cX12_sat 39 = .ok (.iaload, 1) := by decide +kernel
theorem dX12_sat_40 : decode cX12_sat 40 = .ok (.invokevirtual 200, 3) := by decide +kernel
theorem dX12_sat_43 : decode cX12_sat 43 = .ok (.ireturn, 1) := by decide +kernel
theorem dX12_tally_0 : decode cX12_tally 0 = .ok (.iload_n 1, 1) := by decide +kernel
theorem dX12_tally_1 : decode cX12_tally 1 = .ok (.i2l, 1) := by decide +kernel
theorem dX12_tally_2 : decode cX12_tally 2 = .ok (.lconst 0, 1) := by decide +kernel
theorem dX12_tally_3 : decode cX12_tally 3 = .ok (.ldc2_w 498, 3) := by decide +kernel
theorem dX12_tally_6 : decode cX12_tally 6 = .ok (.invokestatic 500, 3) := by decide +kernel
theorem dX12_tally_9 : decode cX12_tally 9 = .ok (.ifCond .eq 35, 3) := by decide +kernel
theorem dX12_tally_12 : decode cX12_tally 12 = .ok (.iload_n 2, 1) := by decide +kernel
theorem dX12_tally_13 : decode cX12_tally 13 = .ok (.i2l, 1) := by decide +kernel
theorem dX12_tally_14 : decode cX12_tally 14 = .ok (.lconst 1, 1) := by decide +kernel
theorem dX12_tally_15 : decode cX12_tally 15 = .ok (.ldc2_w 514, 3) := by decide +kernel
theorem dX12_tally_18 : decode cX12_tally 18 = .ok (.invokestatic 500, 3) := by decide +kernel
theorem dX12_tally_21 : decode cX12_tally 21 = .ok (.ifCond .eq 23, 3) := by decide +kernel
theorem dX12_tally_24 : decode cX12_tally 24 = .ok (.iload_n 1, 1) := by decide +kernel
theorem dX12_tally_25 : decode cX12_tally 25 = .ok (.iload_n 2, 1) := by decide +kernel
theorem dX12_tally_26 : decode cX12_tally 26 = .ok (.iadd, 1) := by decide +kernel
theorem dX12_tally_27 : decode cX12_tally 27 = .ok (.iconst 1, 1) := by decide +kernel
theorem dX12_tally_28 : decode cX12_tally 28 = .ok (.isub, 1) := by decide +kernel
theorem dX12_tally_29 : decode cX12_tally 29 = .ok (.sipush 9999, 3) := by decide +kernel
theorem dX12_tally_32 : decode cX12_tally 32 = .ok (.if_icmp .gt 12, 3) := by decide +kernel
theorem dX12_tally_35 : decode cX12_tally 35 = .ok (.iload_n 3, 1) := by decide +kernel
theorem dX12_tally_36 : decode cX12_tally 36 = .ok (.ifCond .lt 8, 3) := by decide +kernel
theorem dX12_tally_39 : decode cX12_tally 39 = .ok (.iload_n 3, 1) := by decide +kernel
theorem dX12_tally_40 : decode cX12_tally 40 = .ok (.iconst 2, 1) := by decide +kernel
theorem dX12_tally_41 : decode cX12_tally 41 = .ok (.if_icmp .le 9, 3) := by decide +kernel
theorem dX12_tally_44 : decode cX12_tally 44 = .ok (.aload_n 0, 1) := by decide +kernel
theorem dX12_tally_45 : decode cX12_tally 45 = .ok (.iconst 1, 1) := by decide +kernel
theorem dX12_tally_46 : decode cX12_tally 46 = .ok (.invokevirtual 197, 3) := by decide +kernel
theorem dX12_tally_49 : decode cX12_tally 49 = .ok (.ireturn, 1) := by decide +kernel
theorem dX12_tally_50 : decode cX12_tally 50 = .ok (.aload_n 0, 1) := by decide +kernel
theorem dX12_tally_51 : decode cX12_tally 51 = .ok (.invokevirtual 504, 3) := by decide +kernel
theorem dX12_tally_54 : decode cX12_tally 54 = .ok (.ifCond .ne 10, 3) := by decide +kernel
theorem dX12_tally_57 : decode cX12_tally 57 = .ok (.aload_n 0, 1) := by decide +kernel
theorem dX12_tally_58 : decode cX12_tally 58 = .ok (.bipush 6, 2) := by decide +kernel
theorem dX12_tally_60 : decode cX12_tally 60 = .ok (.invokevirtual 197, 3) := by decide +kernel
theorem dX12_tally_63 : decode cX12_tally 63 = .ok (.ireturn, 1) := by decide +kernel
theorem dX12_tally_64 : decode cX12_tally 64 = .ok (.iconst 0, 1) := by decide +kernel
theorem dX12_tally_65 : decode cX12_tally 65 = .ok (.istore 4, 2) := by decide +kernel
theorem dX12_tally_67 : decode cX12_tally 67 = .ok (.iconst 0, 1) := by decide +kernel
theorem dX12_tally_68 : decode cX12_tally 68 = .ok (.istore 5, 2) := by decide +kernel
theorem dX12_tally_70 : decode cX12_tally 70 = .ok (.iload 5, 2) := by decide +kernel
theorem dX12_tally_72 : decode cX12_tally 72 = .ok (.iload_n 2, 1) := by decide +kernel
theorem dX12_tally_73 : decode cX12_tally 73 = .ok (.if_icmp .ge 35, 3) := by decide +kernel
theorem dX12_tally_76 : decode cX12_tally 76 = .ok (.aload_n 0, 1) := by decide +kernel
theorem dX12_tally_77 : decode cX12_tally 77 = .ok (.iload_n 1, 1) := by decide +kernel
theorem dX12_tally_78 : decode cX12_tally 78 = .ok (.iload 5, 2) := by decide +kernel
theorem dX12_tally_80 : decode cX12_tally 80 = .ok (.iadd, 1) := by decide +kernel
theorem dX12_tally_81 : decode cX12_tally 81 = .ok (.invokevirtual 507, 3) := by decide +kernel
theorem dX12_tally_84 : decode cX12_tally 84 = .ok (.iload 4, 2) := by decide +kernel
theorem dX12_tally_86 : decode cX12_tally 86 = .ok (.aload_n 0, 1) := by decide +kernel
theorem dX12_tally_87 : decode cX12_tally 87 = .ok (.getfield 480, 3) := by decide +kernel
theorem dX12_tally_90 : decode cX12_tally 90 = .ok (.iload_n 3, 1) := by decide +kernel
theorem dX12_tally_91 : decode cX12_tally 91 = .ok (.if_icmp .ne 7, 3) := by decide +kernel
theorem dX12_tally_94 : decode cX12_tally 94 = .ok (.iconst 1, 1) := by decide +kernel
theorem dX12_tally_95 : decode cX12_tally 95 = .ok (.goto 4, 3) := by decide +kernel
theorem dX12_tally_98 : decode cX12_tally 98 = .ok (.iconst 0, 1) := by decide +kernel
theorem dX12_tally_99 : decode cX12_tally 99 = .ok (.iadd, 1) := by decide +kernel
theorem dX12_tally_100 : decode cX12_tally 100 = .ok (.istore 4, 2) := by decide +kernel
theorem dX12_tally_102 : decode cX12_tally 102 = .ok (.iinc 5 1, 3) := by decide +kernel
theorem dX12_tally_105 : decode cX12_tally 105 = .ok (.goto (-35), 3) := by decide +kernel
theorem dX12_tally_108 : decode cX12_tally 108 = .ok (.aload_n 0, 1) := by decide +kernel
theorem dX12_tally_109 : decode cX12_tally 109 = .ok (.iload 4, 2) := by decide +kernel
theorem dX12_tally_111 : decode cX12_tally 111 = .ok (.invokevirtual 200, 3) := by decide +kernel
theorem dX12_tally_114 : decode cX12_tally 114 = .ok (.ireturn, 1) := by decide +kernel
theorem dX12_copies_0 : decode cX12_copies 0 = .ok (.iconst 0, 1) := by decide +kernel
theorem dX12_copies_1 : decode cX12_copies 1 = .ok (.istore_n 3, 1) := by decide +kernel
theorem dX12_copies_2 : decode cX12_copies 2 = .ok (.iload_n 3, 1) := by decide +kernel
theorem dX12_copies_3 : decode cX12_copies 3 = .ok (.sipush 400, 3) := by decide +kernel
theorem dX12_copies_6 : decode cX12_copies 6 = .ok (.if_icmp .ge 33, 3) := by decide +kernel
theorem dX12_copies_9 : decode cX12_copies 9 = .ok (.aload_n 0, 1) := by decide +kernel
theorem dX12_copies_10 : decode cX12_copies 10 = .ok (.getfield 7, 3) := by decide +kernel
theorem dX12_copies_13 : decode cX12_copies 13 = .ok (.sipush 400, 3) := by decide +kernel
theorem dX12_copies_16 : decode cX12_copies 16 = .ok (.iload_n 2, 1) := by decide +kernel
theorem dX12_copies_17 : decode cX12_copies 17 = .ok (.imul, 1) := by decide +kernel
theorem dX12_copies_18 : decode cX12_copies 18 = .ok (.iload_n 3, 1) := by decide +kernel
theorem dX12_copies_19 : decode cX12_copies 19 = .ok (.iadd, 1) := by decide +kernel
theorem dX12_copies_20 : decode cX12_copies 20 = .ok (.aload_n 0, 1) := by decide +kernel
theorem dX12_copies_21 : decode cX12_copies 21 = .ok (.getfield 7, 3) := by decide +kernel
theorem dX12_copies_24 : decode cX12_copies 24 = .ok (.sipush 400, 3) := by decide +kernel
theorem dX12_copies_27 : decode cX12_copies 27 = .ok (.iload_n 1, 1) := by decide +kernel
theorem dX12_copies_28 : decode cX12_copies 28 = .ok (.imul, 1) := by decide +kernel
theorem dX12_copies_29 : decode cX12_copies 29 = .ok (.iload_n 3, 1) := by decide +kernel
theorem dX12_copies_30 : decode cX12_copies 30 = .ok (.iadd, 1) := by decide +kernel
theorem dX12_copies_31 : decode cX12_copies 31 = .ok (.iaload, 1) := by decide +kernel
theorem dX12_copies_32 : decode cX12_copies 32 = .ok (.iastore, 1) := by decide +kernel
theorem dX12_copies_33 : decode cX12_copies 33 = .ok (.iinc 3 1, 3) := by decide +kernel
theorem dX12_copies_36 : decode cX12_copies 36 = .ok (.goto (-34), 3) := by decide +kernel
theorem dX12_copies_39 : decode cX12_copies 39 = .ok (.iconst 0, 1) := by decide +kernel
theorem dX12_copies_40 : decode cX12_copies 40 = .ok (.istore_n 3, 1) := by decide +kernel
theorem dX12_copies_41 : decode cX12_copies 41 = .ok (.iload_n 3, 1) := by decide +kernel
theorem dX12_copies_42 : decode cX12_copies 42 = .ok (.bipush 52, 2) := by decide +kernel
theorem dX12_copies_44 : decode cX12_copies 44 = .ok (.if_icmp .ge 31, 3) := by decide +kernel
theorem dX12_copies_47 : decode cX12_copies 47 = .ok (.aload_n 0, 1) := by decide +kernel
theorem dX12_copies_48 : decode cX12_copies 48 = .ok (.getfield 13, 3) := by decide +kernel
theorem dX12_copies_51 : decode cX12_copies 51 = .ok (.bipush 52, 2) := by decide +kernel
theorem dX12_copies_53 : decode cX12_copies 53 = .ok (.iload_n 2, 1) := by decide +kernel
theorem dX12_copies_54 : decode cX12_copies 54 = .ok (.imul, 1) := by decide +kernel
theorem dX12_copies_55 : decode cX12_copies 55 = .ok (.iload_n 3, 1) := by decide +kernel
theorem dX12_copies_56 : decode cX12_copies 56 = .ok (.iadd, 1) := by decide +kernel
theorem dX12_copies_57 : decode cX12_copies 57 = .ok (.aload_n 0, 1) := by decide +kernel
theorem dX12_copies_58 : decode cX12_copies 58 = .ok (.getfield 13, 3) := by decide +kernel
theorem dX12_copies_61 : decode cX12_copies 61 = .ok (.bipush 52, 2) := by decide +kernel
theorem dX12_copies_63 : decode cX12_copies 63 = .ok (.iload_n 1, 1) := by decide +kernel
theorem dX12_copies_64 : decode cX12_copies 64 = .ok (.imul, 1) := by decide +kernel
theorem dX12_copies_65 : decode cX12_copies 65 = .ok (.iload_n 3, 1) := by decide +kernel
theorem dX12_copies_66 : decode cX12_copies 66 = .ok (.iadd, 1) := by decide +kernel
theorem dX12_copies_67 : decode cX12_copies 67 = .ok (.laload, 1) := by decide +kernel
theorem dX12_copies_68 : decode cX12_copies 68 = .ok (.lastore, 1) := by decide +kernel
theorem dX12_copies_69 : decode cX12_copies 69 = .ok (.iinc 3 1, 3) := by decide +kernel
theorem dX12_copies_72 : decode cX12_copies 72 = .ok (.goto (-31), 3) := by decide +kernel
theorem dX12_copies_75 : decode cX12_copies 75 = .ok (.iconst 0, 1) := by decide +kernel
theorem dX12_copies_76 : decode cX12_copies 76 = .ok (.istore_n 3, 1) := by decide +kernel
theorem dX12_copies_77 : decode cX12_copies 77 = .ok (.iload_n 3, 1) := by decide +kernel
theorem dX12_copies_78 : decode cX12_copies 78 = .ok (.bipush 44, 2) := by decide +kernel
theorem dX12_copies_80 : decode cX12_copies 80 = .ok (.if_icmp .ge 31, 3) := by decide +kernel
theorem dX12_copies_83 : decode cX12_copies 83 = .ok (.aload_n 0, 1) := by decide +kernel
theorem dX12_copies_84 : decode cX12_copies 84 = .ok (.getfield 17, 3) := by decide +kernel
theorem dX12_copies_87 : decode cX12_copies 87 = .ok (.bipush 44, 2) := by decide +kernel
theorem dX12_copies_89 : decode cX12_copies 89 = .ok (.iload_n 2, 1) := by decide +kernel
theorem dX12_copies_90 : decode cX12_copies 90 = .ok (.imul, 1) := by decide +kernel
theorem dX12_copies_91 : decode cX12_copies 91 = .ok (.iload_n 3, 1) := by decide +kernel
theorem dX12_copies_92 : decode cX12_copies 92 = .ok (.iadd, 1) := by decide +kernel
theorem dX12_copies_93 : decode cX12_copies 93 = .ok (.aload_n 0, 1) := by decide +kernel
theorem dX12_copies_94 : decode cX12_copies 94 = .ok (.getfield 17, 3) := by decide +kernel
theorem dX12_copies_97 : decode cX12_copies 97 = .ok (.bipush 44, 2) := by decide +kernel
theorem dX12_copies_99 : decode cX12_copies 99 = .ok (.iload_n 1, 1) := by decide +kernel
theorem dX12_copies_100 : decode cX12_copies 100 = .ok (.imul, 1) := by decide +kernel
theorem dX12_copies_101 : decode cX12_copies 101 = .ok (.iload_n 3, 1) := by decide +kernel
theorem dX12_copies_102 : decode cX12_copies 102 = .ok (.iadd, 1) := by decide +kernel
theorem dX12_copies_103 : decode cX12_copies 103 = .ok (.laload, 1) := by decide +kernel
theorem dX12_copies_104 : decode cX12_copies 104 = .ok (.lastore, 1) := by decide +kernel
theorem dX12_copies_105 : decode cX12_copies 105 = .ok (.iinc 3 1, 3) := by decide +kernel
theorem dX12_copies_108 : decode cX12_copies 108 = .ok (.goto (-31), 3) := by decide +kernel
theorem dX12_copies_111 : decode cX12_copies 111 = .ok (.return_, 1) := by decide +kernel
theorem dX12_mark_0 : decode cX12_mark 0 = .ok (.aload_n 0, 1) := by decide +kernel
theorem dX12_mark_1 : decode cX12_mark 1 = .ok (.getfield 516, 3) := by decide +kernel
theorem dX12_mark_4 : decode cX12_mark 4 = .ok (.iconst 3, 1) := by decide +kernel
theorem dX12_mark_5 : decode cX12_mark 5 = .ok (.if_icmp .ne 9, 3) := by decide +kernel
theorem dX12_mark_8 : decode cX12_mark 8 = .ok (.aload_n 0, 1) := by decide +kernel
theorem dX12_mark_9 : decode cX12_mark 9 = .ok (.iconst 4, 1) := by decide +kernel
theorem dX12_mark_10 : decode cX12_mark 10 = .ok (.invokevirtual 197, 3) := by decide +kernel
theorem dX12_mark_13 : decode cX12_mark 13 = .ok (.ireturn, 1) := by decide +kernel
theorem dX12_mark_14 : decode cX12_mark 14 = .ok (.aload_n 0, 1) := by decide +kernel
theorem dX12_mark_15 : decode cX12_mark 15 = .ok (.dup, 1) := by decide +kernel
theorem dX12_mark_16 : decode cX12_mark 16 = .ok (.getfield 516, 3) := by decide +kernel
theorem dX12_mark_19 : decode cX12_mark 19 = .ok (.iconst 1, 1) := by decide +kernel
theorem dX12_mark_20 : decode cX12_mark 20 = .ok (.iadd, 1) := by decide +kernel
theorem dX12_mark_21 : decode cX12_mark 21 = .ok (.putfield 516, 3) := by decide +kernel
theorem dX12_mark_24 : decode cX12_mark 24 = .ok (.aload_n 0, 1) := by decide +kernel
theorem dX12_mark_25 : decode cX12_mark 25 = .ok (.iconst 0, 1) := by decide +kernel
theorem dX12_mark_26 : decode cX12_mark 26 = .ok (.aload_n 0, 1) := by decide +kernel
theorem dX12_mark_27 : decode cX12_mark 27 = .ok (.getfield 516, 3) := by decide +kernel
theorem dX12_mark_30 : decode cX12_mark 30 = .ok (.invokevirtual 519, 3) := by decide +kernel
theorem dX12_mark_33 : decode cX12_mark 33 = .ok (.aload_n 0, 1) := by decide +kernel
theorem dX12_mark_34 : decode cX12_mark 34 = .ok (.aload_n 0, 1) := by decide +kernel
theorem dX12_mark_35 : decode cX12_mark 35 = .ok (.getfield 516, 3) := by decide +kernel
theorem dX12_mark_38 : decode cX12_mark 38 = .ok (.invokevirtual 200, 3) := by decide +kernel
theorem dX12_mark_41 : decode cX12_mark 41 = .ok (.ireturn, 1) := by decide +kernel
theorem dX12_back_0 : decode cX12_back 0 = .ok (.aload_n 0, 1) := by decide +kernel
theorem dX12_back_1 : decode cX12_back 1 = .ok (.getfield 516, 3) := by decide +kernel
theorem dX12_back_4 : decode cX12_back 4 = .ok (.ifCond .ne 10, 3) := by decide +kernel
theorem dX12_back_7 : decode cX12_back 7 = .ok (.aload_n 0, 1) := by decide +kernel
theorem dX12_back_8 : decode cX12_back 8 = .ok (.bipush 6, 2) := by decide +kernel
theorem dX12_back_10 : decode cX12_back 10 = .ok (.invokevirtual 197, 3) := by decide +kernel
theorem dX12_back_13 : decode cX12_back 13 = .ok (.ireturn, 1) := by decide +kernel
theorem dX12_back_14 : decode cX12_back 14 = .ok (.aload_n 0, 1) := by decide +kernel
theorem dX12_back_15 : decode cX12_back 15 = .ok (.aload_n 0, 1) := by decide +kernel
theorem dX12_back_16 : decode cX12_back 16 = .ok (.getfield 516, 3) := by decide +kernel
theorem dX12_back_19 : decode cX12_back 19 = .ok (.iconst 0, 1) := by decide +kernel
theorem dX12_back_20 : decode cX12_back 20 = .ok (.invokevirtual 519, 3) := by decide +kernel
theorem dX12_back_23 : decode cX12_back 23 = .ok (.aload_n 0, 1) := by decide +kernel
theorem dX12_back_24 : decode cX12_back 24 = .ok (.dup, 1) := by decide +kernel
theorem dX12_back_25 : decode cX12_back 25 = .ok (.getfield 516, 3) := by decide +kernel
theorem dX12_back_28 : decode cX12_back 28 = .ok (.iconst 1, 1) := by decide +kernel
theorem dX12_back_29 : decode cX12_back 29 = .ok (.isub, 1) := by decide +kernel
theorem dX12_back_30 : decode cX12_back 30 = .ok (.putfield 516, 3) := by decide +kernel
theorem dX12_back_33 : decode cX12_back 33 = .ok (.aload_n 0, 1) := by decide +kernel
theorem dX12_back_34 : decode cX12_back 34 = .ok (.invokevirtual 100, 3) := by decide +kernel
theorem dX12_back_37 : decode cX12_back 37 = .ok (.aload_n 0, 1) := by decide +kernel
theorem dX12_back_38 : decode cX12_back 38 = .ok (.aload_n 0, 1) := by decide +kernel
theorem dX12_back_39 : decode cX12_back 39 = .ok (.getfield 516, 3) := by decide +kernel
theorem dX12_back_42 : decode cX12_back 42 = .ok (.invokevirtual 200, 3) := by decide +kernel
theorem dX12_back_45 : decode cX12_back 45 = .ok (.ireturn, 1) := by decide +kernel
theorem dJ6_bitCount_0f7a4_0 : decode cJ6_bitCount_0f7a4 0 = .ok (.iload_n 0, 1) := by decide +kernel
theorem dJ6_bitCount_0f7a4_1 : decode cJ6_bitCount_0f7a4 1 = .ok (.iload_n 0, 1) := by decide +kernel
theorem dJ6_bitCount_0f7a4_2 : decode cJ6_bitCount_0f7a4 2 = .ok (.iconst 1, 1) := by decide +kernel
theorem dJ6_bitCount_0f7a4_3 : decode cJ6_bitCount_0f7a4 3 = .ok (.iushr, 1) := by decide +kernel
theorem dJ6_bitCount_0f7a4_4 : decode cJ6_bitCount_0f7a4 4 = .ok (.ldc_w 265, 3) := by decide +kernel
theorem dJ6_bitCount_0f7a4_7 : decode cJ6_bitCount_0f7a4 7 = .ok (.iand, 1) := by decide +kernel
theorem dJ6_bitCount_0f7a4_8 : decode cJ6_bitCount_0f7a4 8 = .ok (.isub, 1) := by decide +kernel
theorem dJ6_bitCount_0f7a4_9 : decode cJ6_bitCount_0f7a4 9 = .ok (.istore_n 0, 1) := by decide +kernel
theorem dJ6_bitCount_0f7a4_10 : decode cJ6_bitCount_0f7a4 10 = .ok (.iload_n 0, 1) := by decide +kernel
theorem dJ6_bitCount_0f7a4_11 : decode cJ6_bitCount_0f7a4 11 = .ok (.ldc_w 266, 3) := by decide +kernel
theorem dJ6_bitCount_0f7a4_14 : decode cJ6_bitCount_0f7a4 14 = .ok (.iand, 1) := by decide +kernel
theorem dJ6_bitCount_0f7a4_15 : decode cJ6_bitCount_0f7a4 15 = .ok (.iload_n 0, 1) := by decide +kernel
theorem dJ6_bitCount_0f7a4_16 : decode cJ6_bitCount_0f7a4 16 = .ok (.iconst 2, 1) := by decide +kernel
theorem dJ6_bitCount_0f7a4_17 : decode cJ6_bitCount_0f7a4 17 = .ok (.iushr, 1) := by decide +kernel
theorem dJ6_bitCount_0f7a4_18 : decode cJ6_bitCount_0f7a4 18 = .ok (.ldc_w 266, 3) := by decide +kernel
theorem dJ6_bitCount_0f7a4_21 : decode cJ6_bitCount_0f7a4 21 = .ok (.iand, 1) := by decide +kernel
theorem dJ6_bitCount_0f7a4_22 : decode cJ6_bitCount_0f7a4 22 = .ok (.iadd, 1) := by decide +kernel
theorem dJ6_bitCount_0f7a4_23 : decode cJ6_bitCount_0f7a4 23 = .ok (.istore_n 0, 1) := by decide +kernel
theorem dJ6_bitCount_0f7a4_24 : decode cJ6_bitCount_0f7a4 24 = .ok (.iload_n 0, 1) := by decide +kernel
theorem dJ6_bitCount_0f7a4_25 : decode cJ6_bitCount_0f7a4 25 = .ok (.iload_n 0, 1) := by decide +kernel
theorem dJ6_bitCount_0f7a4_26 : decode cJ6_bitCount_0f7a4 26 = .ok (.iconst 4, 1) := by decide +kernel
theorem dJ6_bitCount_0f7a4_27 : decode cJ6_bitCount_0f7a4 27 = .ok (.iushr, 1) := by decide +kernel
theorem dJ6_bitCount_0f7a4_28 : decode cJ6_bitCount_0f7a4 28 = .ok (.iadd, 1) := by decide +kernel
theorem dJ6_bitCount_0f7a4_29 : decode cJ6_bitCount_0f7a4 29 = .ok (.ldc_w 267, 3) := by decide +kernel
theorem dJ6_bitCount_0f7a4_32 : decode cJ6_bitCount_0f7a4 32 = .ok (.iand, 1) := by decide +kernel
theorem dJ6_bitCount_0f7a4_33 : decode cJ6_bitCount_0f7a4 33 = .ok (.istore_n 0, 1) := by decide +kernel
theorem dJ6_bitCount_0f7a4_34 : decode cJ6_bitCount_0f7a4 34 = .ok (.iload_n 0, 1) := by decide +kernel
theorem dJ6_bitCount_0f7a4_35 : decode cJ6_bitCount_0f7a4 35 = .ok (.iload_n 0, 1) := by decide +kernel
theorem dJ6_bitCount_0f7a4_36 : decode cJ6_bitCount_0f7a4 36 = .ok (.bipush 8, 2) := by decide +kernel
theorem dJ6_bitCount_0f7a4_38 : decode cJ6_bitCount_0f7a4 38 = .ok (.iushr, 1) := by decide +kernel
theorem dJ6_bitCount_0f7a4_39 : decode cJ6_bitCount_0f7a4 39 = .ok (.iadd, 1) := by decide +kernel
theorem dJ6_bitCount_0f7a4_40 : decode cJ6_bitCount_0f7a4 40 = .ok (.istore_n 0, 1) := by decide +kernel
theorem dJ6_bitCount_0f7a4_41 : decode cJ6_bitCount_0f7a4 41 = .ok (.iload_n 0, 1) := by decide +kernel
theorem dJ6_bitCount_0f7a4_42 : decode cJ6_bitCount_0f7a4 42 = .ok (.iload_n 0, 1) := by decide +kernel
theorem dJ6_bitCount_0f7a4_43 : decode cJ6_bitCount_0f7a4 43 = .ok (.bipush 16, 2) := by decide +kernel
theorem dJ6_bitCount_0f7a4_45 : decode cJ6_bitCount_0f7a4 45 = .ok (.iushr, 1) := by decide +kernel
theorem dJ6_bitCount_0f7a4_46 : decode cJ6_bitCount_0f7a4 46 = .ok (.iadd, 1) := by decide +kernel
theorem dJ6_bitCount_0f7a4_47 : decode cJ6_bitCount_0f7a4 47 = .ok (.istore_n 0, 1) := by decide +kernel
theorem dJ6_bitCount_0f7a4_48 : decode cJ6_bitCount_0f7a4 48 = .ok (.iload_n 0, 1) := by decide +kernel
theorem dJ6_bitCount_0f7a4_49 : decode cJ6_bitCount_0f7a4 49 = .ok (.bipush 63, 2) := by decide +kernel
theorem dJ6_bitCount_0f7a4_51 : decode cJ6_bitCount_0f7a4 51 = .ok (.iand, 1) := by decide +kernel
theorem dJ6_bitCount_0f7a4_52 : decode cJ6_bitCount_0f7a4 52 = .ok (.ireturn, 1) := by decide +kernel
theorem dJ9_max_7cf53_0 : decode cJ9_max_7cf53 0 = .ok (.iload_n 0, 1) := by decide +kernel
theorem dJ9_max_7cf53_1 : decode cJ9_max_7cf53 1 = .ok (.iload_n 1, 1) := by decide +kernel
theorem dJ9_max_7cf53_2 : decode cJ9_max_7cf53 2 = .ok (.if_icmp .lt 7, 3) := by decide +kernel
theorem dJ9_max_7cf53_5 : decode cJ9_max_7cf53 5 = .ok (.iload_n 0, 1) := by decide +kernel
theorem dJ9_max_7cf53_6 : decode cJ9_max_7cf53 6 = .ok (.goto 4, 3) := by decide +kernel
theorem dJ9_max_7cf53_9 : decode cJ9_max_7cf53 9 = .ok (.iload_n 1, 1) := by decide +kernel
theorem dJ9_max_7cf53_10 : decode cJ9_max_7cf53 10 = .ok (.ireturn, 1) := by decide +kernel
theorem dJ9_min_7cf53_0 : decode cJ9_min_7cf53 0 = .ok (.iload_n 0, 1) := by decide +kernel
theorem dJ9_min_7cf53_1 : decode cJ9_min_7cf53 1 = .ok (.iload_n 1, 1) := by decide +kernel
theorem dJ9_min_7cf53_2 : decode cJ9_min_7cf53 2 = .ok (.if_icmp .gt 7, 3) := by decide +kernel
theorem dJ9_min_7cf53_5 : decode cJ9_min_7cf53 5 = .ok (.iload_n 0, 1) := by decide +kernel
theorem dJ9_min_7cf53_6 : decode cJ9_min_7cf53 6 = .ok (.goto 4, 3) := by decide +kernel
theorem dJ9_min_7cf53_9 : decode cJ9_min_7cf53 9 = .ok (.iload_n 1, 1) := by decide +kernel
theorem dJ9_min_7cf53_10 : decode cJ9_min_7cf53 10 = .ok (.ireturn, 1) := by decide +kernel
theorem dJ0_length_8abf5_0 : decode cJ0_length_8abf5 0 = .ok (.aload_n 0, 1) := by decide +kernel
theorem dJ0_length_8abf5_1 : decode cJ0_length_8abf5 1 = .ok (.getfield 9, 3) := by decide +kernel
theorem dJ0_length_8abf5_4 : decode cJ0_length_8abf5 4 = .ok (.arraylength, 1) := by decide +kernel
theorem dJ0_length_8abf5_5 : decode cJ0_length_8abf5 5 = .ok (.aload_n 0, 1) := by decide +kernel
theorem dJ0_length_8abf5_6 : decode cJ0_length_8abf5 6 = .ok (.invokevirtual 335, 3) := by decide +kernel
theorem dJ0_length_8abf5_9 : decode cJ0_length_8abf5 9 = .ok (.ishr, 1) := by decide +kernel
theorem dJ0_length_8abf5_10 : decode cJ0_length_8abf5 10 = .ok (.ireturn, 1) := by decide +kernel
theorem dJ0_charAt_5068e_0 : decode cJ0_charAt_5068e 0 = .ok (.aload_n 0, 1) := by decide +kernel
theorem dJ0_charAt_5068e_1 : decode cJ0_charAt_5068e 1 = .ok (.invokevirtual 492, 3) := by decide +kernel
theorem dJ0_charAt_5068e_4 : decode cJ0_charAt_5068e 4 = .ok (.ifCond .eq 12, 3) := by decide +kernel
theorem dJ0_charAt_5068e_7 : decode cJ0_charAt_5068e 7 = .ok (.aload_n 0, 1) := by decide +kernel
theorem dJ0_charAt_5068e_8 : decode cJ0_charAt_5068e 8 = .ok (.getfield 9, 3) := by decide +kernel
theorem dJ0_charAt_5068e_11 : decode cJ0_charAt_5068e 11 = .ok (.iload_n 1, 1) := by decide +kernel
theorem dJ0_charAt_5068e_12 : decode cJ0_charAt_5068e 12 = .ok (.invokestatic 495, 3) := by decide +kernel
theorem dJ0_charAt_5068e_15 : decode cJ0_charAt_5068e 15 = .ok (.ireturn, 1) := by decide +kernel
theorem dJ0_charAt_5068e_16 : decode cJ0_charAt_5068e 16 = .ok (.aload_n 0, 1) := by decide +kernel
theorem dJ0_charAt_5068e_17 : decode cJ0_charAt_5068e 17 = .ok (.getfield 9, 3) := by decide +kernel
theorem dJ0_charAt_5068e_20 : decode cJ0_charAt_5068e 20 = .ok (.iload_n 1, 1) := by decide +kernel
theorem dJ0_charAt_5068e_21 : decode cJ0_charAt_5068e 21 = .ok (.invokestatic 498, 3) := by decide +kernel
theorem dJ0_charAt_5068e_24 : decode cJ0_charAt_5068e 24 = .ok (.ireturn, 1) := by decide +kernel
theorem dJ0_coder_7d493_0 : decode cJ0_coder_7d493 0 = .ok (.getstatic 38, 3) := by decide +kernel
theorem dJ0_coder_7d493_3 : decode cJ0_coder_7d493 3 = .ok (.ifCond .eq 10, 3) := by decide +kernel
theorem dJ0_coder_7d493_6 : decode cJ0_coder_7d493 6 = .ok (.aload_n 0, 1) := by decide +kernel
theorem dJ0_coder_7d493_7 : decode cJ0_coder_7d493 7 = .ok (.getfield 15, 3) := by decide +kernel
theorem dJ0_coder_7d493_10 : decode cJ0_coder_7d493 10 = .ok (.goto 4, 3) := by decide +kernel
theorem dJ0_coder_7d493_13 : decode cJ0_coder_7d493 13 = .ok (.iconst 1, 1) := by decide +kernel
theorem dJ0_coder_7d493_14 : decode cJ0_coder_7d493 14 = .ok (.ireturn, 1) := by decide +kernel
theorem dJ0_isLatin1_aae02_0 : decode cJ0_isLatin1_aae02 0 = .ok (.getstatic 38, 3) := by decide +kernel
theorem dJ0_isLatin1_aae02_3 : decode cJ0_isLatin1_aae02 3 = .ok (.ifCond .eq 14, 3) := by decide +kernel
theorem dJ0_isLatin1_aae02_6 : decode cJ0_isLatin1_aae02 6 = .ok (.aload_n 0, 1) := by decide +kernel
theorem dJ0_isLatin1_aae02_7 : decode cJ0_isLatin1_aae02 7 = .ok (.getfield 15, 3) := by decide +kernel
theorem dJ0_isLatin1_aae02_10 : decode cJ0_isLatin1_aae02 10 = .ok (.ifCond .ne 7, 3) := by decide +kernel
theorem dJ0_isLatin1_aae02_13 : decode cJ0_isLatin1_aae02 13 = .ok (.iconst 1, 1) := by decide +kernel
theorem dJ0_isLatin1_aae02_14 : decode cJ0_isLatin1_aae02 14 = .ok (.goto 4, 3) := by decide +kernel
theorem dJ0_isLatin1_aae02_17 : decode cJ0_isLatin1_aae02 17 = .ok (.iconst 0, 1) := by decide +kernel
theorem dJ0_isLatin1_aae02_18 : decode cJ0_isLatin1_aae02 18 = .ok (.ireturn, 1) := by decide +kernel
theorem dJ0_checkIndex_df160_0 : decode cJ0_checkIndex_df160 0 = .ok (.iload_n 0, 1) := by decide +kernel
theorem dJ0_checkIndex_df160_1 : decode cJ0_checkIndex_df160 1 = .ok (.iload_n 1, 1) := by decide +kernel
theorem dJ0_checkIndex_df160_2 : decode cJ0_checkIndex_df160 2 = .ok (.getstatic 1053, 3) := by decide +kernel
theorem dJ0_checkIndex_df160_5 : decode cJ0_checkIndex_df160 5 = .ok (.invokestatic 1059, 3) := by decide +kernel
theorem dJ0_checkIndex_df160_8 : decode cJ0_checkIndex_df160 8 = .ok (.pop, 1) := by decide +kernel
theorem dJ0_checkIndex_df160_9 : decode cJ0_checkIndex_df160 9 = .ok (.return_, 1) := by decide +kernel
theorem dJ1_charAt_3b067_0 : decode cJ1_charAt_3b067 0 = .ok (.iload_n 1, 1) := by decide +kernel
theorem dJ1_charAt_3b067_1 : decode cJ1_charAt_3b067 1 = .ok (.aload_n 0, 1) := by decide +kernel
theorem dJ1_charAt_3b067_2 : decode cJ1_charAt_3b067 2 = .ok (.arraylength, 1) := by decide +kernel
theorem dJ1_charAt_3b067_3 : decode cJ1_charAt_3b067 3 = .ok (.invokestatic 9, 3) := by decide +kernel
theorem dJ1_charAt_3b067_6 : decode cJ1_charAt_3b067 6 = .ok (.aload_n 0, 1) := by decide +kernel
theorem dJ1_charAt_3b067_7 : decode cJ1_charAt_3b067 7 = .ok (.iload_n 1, 1) := by decide +kernel
theorem dJ1_charAt_3b067_8 : decode cJ1_charAt_3b067 8 = .ok (.baload, 1) := by decide +kernel
theorem dJ1_charAt_3b067_9 : decode cJ1_charAt_3b067 9 = .ok (.sipush 255, 3) := by decide +kernel
theorem dJ1_charAt_3b067_12 : decode cJ1_charAt_3b067 12 = .ok (.iand, 1) := by decide +kernel
theorem dJ1_charAt_3b067_13 : decode cJ1_charAt_3b067 13 = .ok (.i2c, 1) := by decide +kernel
theorem dJ1_charAt_3b067_14 : decode cJ1_charAt_3b067 14 = .ok (.ireturn, 1) := by decide +kernel
theorem dJ2_getChar_3b067_0 : decode cJ2_getChar_3b067 0 = .ok (.getstatic 44, 3) := by decide +kernel
theorem dJ2_getChar_3b067_3 : decode cJ2_getChar_3b067 3 = .ok (.ifCond .ne 25, 3) := by decide +kernel
theorem dJ2_getChar_3b067_6 : decode cJ2_getChar_3b067 6 = .ok (.iload_n 1, 1) := by decide +kernel
theorem dJ2_getChar_3b067_7 : decode cJ2_getChar_3b067 7 = .ok (.ifCond .lt 11, 3) := by decide +kernel
theorem dJ2_getChar_3b067_10 : decode cJ2_getChar_3b067 10 = .ok (.iload_n 1, 1) := by decide +kernel
theorem dJ2_getChar_3b067_11 : decode cJ2_getChar_3b067 11 = .ok (.aload_n 0, 1) := by decide +kernel
theorem dJ2_getChar_3b067_12 : decode cJ2_getChar_3b067 12 = .ok (.invokestatic 48, 3) := by decide +kernel
theorem dJ2_getChar_3b067_15 : decode cJ2_getChar_3b067 15 = .ok (.if_icmp .lt 13, 3) := by decide +kernel
theorem dJ2_getChar_3b067_18 : decode cJ2_getChar_3b067 18 = .ok (.new 52, 3) := by decide +kernel
theorem dJ2_getChar_3b067_21 : decode cJ2_getChar_3b067 21 = .ok (.dup, 1) := by decide +kernel
theorem dJ2_getChar_3b067_22 : decode cJ2_getChar_3b067 22 = .ok (.ldc 54, 2) := by decide +kernel
theorem dJ2_getChar_3b067_24 : decode cJ2_getChar_3b067 24 = .ok (.invokespecial 56, 3) := by decide +kernel
theorem dJ2_getChar_3b067_27 : decode cJ2_getChar_3b067 27 = .ok (.athrow, 1) := by decide +kernel
theorem dJ2_getChar_3b067_28 : decode cJ2_getChar_3b067 28 = .ok (.iload_n 1, 1) := by decide +kernel
theorem dJ2_getChar_3b067_29 : decode cJ2_getChar_3b067 29 = .ok (.iconst 1, 1) := by decide +kernel
theorem dJ2_getChar_3b067_30 : decode cJ2_getChar_3b067 30 = .ok (.ishl, 1) := by decide +kernel
theorem dJ2_getChar_3b067_31 : decode cJ2_getChar_3b067 31 = .ok (.istore_n 1, 1) := by decide +kernel
theorem dJ2_getChar_3b067_32 : decode cJ2_getChar_3b067 32 = .ok (.aload_n 0, 1) := by decide +kernel
theorem dJ2_getChar_3b067_33 : decode cJ2_getChar_3b067 33 = .ok (.iload_n 1, 1) := by decide +kernel
theorem dJ2_getChar_3b067_34 : decode cJ2_getChar_3b067 34 = .ok (.iinc 1 1, 3) := by decide +kernel
theorem dJ2_getChar_3b067_37 : decode cJ2_getChar_3b067 37 = .ok (.baload, 1) := by decide +kernel
theorem dJ2_getChar_3b067_38 : decode cJ2_getChar_3b067 38 = .ok (.sipush 255, 3) := by decide +kernel
theorem dJ2_getChar_3b067_41 : decode cJ2_getChar_3b067 41 = .ok (.iand, 1) := by decide +kernel
theorem dJ2_getChar_3b067_42 : decode cJ2_getChar_3b067 42 = .ok (.getstatic 59, 3) := by decide +kernel
theorem dJ2_getChar_3b067_45 : decode cJ2_getChar_3b067 45 = .ok (.ishl, 1) := by decide +kernel
theorem dJ2_getChar_3b067_46 : decode cJ2_getChar_3b067 46 = .ok (.aload_n 0, 1) := by decide +kernel
theorem dJ2_getChar_3b067_47 : decode cJ2_getChar_3b067 47 = .ok (.iload_n 1, 1) := by decide +kernel
theorem dJ2_getChar_3b067_48 : decode cJ2_getChar_3b067 48 = .ok (.baload, 1) := by decide +kernel
theorem dJ2_getChar_3b067_49 : decode cJ2_getChar_3b067 49 = .ok (.sipush 255, 3) := by decide +kernel
theorem dJ2_getChar_3b067_52 : decode cJ2_getChar_3b067 52 = .ok (.iand, 1) := by decide +kernel
theorem dJ2_getChar_3b067_53 : decode cJ2_getChar_3b067 53 = .ok (.getstatic 63, 3) := by decide +kernel
theorem dJ2_getChar_3b067_56 : decode cJ2_getChar_3b067 56 = .ok (.ishl, 1) := by decide +kernel
theorem dJ2_getChar_3b067_57 : decode cJ2_getChar_3b067 57 = .ok (.ior, 1) := by decide +kernel
theorem dJ2_getChar_3b067_58 : decode cJ2_getChar_3b067 58 = .ok (.i2c, 1) := by decide +kernel
theorem dJ2_getChar_3b067_59 : decode cJ2_getChar_3b067 59 = .ok (.ireturn, 1) := by decide +kernel
theorem dJ2_length_9d52b_0 : decode cJ2_length_9d52b 0 = .ok (.aload_n 0, 1) := by decide +kernel
theorem dJ2_length_9d52b_1 : decode cJ2_length_9d52b 1 = .ok (.arraylength, 1) := by decide +kernel
theorem dJ2_length_9d52b_2 : decode cJ2_length_9d52b 2 = .ok (.iconst 1, 1) := by decide +kernel
theorem dJ2_length_9d52b_3 : decode cJ2_length_9d52b 3 = .ok (.ishr, 1) := by decide +kernel
theorem dJ2_length_9d52b_4 : decode cJ2_length_9d52b 4 = .ok (.ireturn, 1) := by decide +kernel
theorem dJ2_charAt_3b067_0 : decode cJ2_charAt_3b067 0 = .ok (.iload_n 1, 1) := by decide +kernel
theorem dJ2_charAt_3b067_1 : decode cJ2_charAt_3b067 1 = .ok (.aload_n 0, 1) := by decide +kernel
theorem dJ2_charAt_3b067_2 : decode cJ2_charAt_3b067 2 = .ok (.invokestatic 67, 3) := by decide +kernel
theorem dJ2_charAt_3b067_5 : decode cJ2_charAt_3b067 5 = .ok (.aload_n 0, 1) := by decide +kernel
theorem dJ2_charAt_3b067_6 : decode cJ2_charAt_3b067 6 = .ok (.iload_n 1, 1) := by decide +kernel
theorem dJ2_charAt_3b067_7 : decode cJ2_charAt_3b067 7 = .ok (.invokestatic 71, 3) := by decide +kernel
theorem dJ2_charAt_3b067_10 : decode cJ2_charAt_3b067 10 = .ok (.ireturn, 1) := by decide +kernel
theorem dJ2_checkIndex_2214a_0 : decode cJ2_checkIndex_2214a 0 = .ok (.iload_n 0, 1) := by decide +kernel
theorem dJ2_checkIndex_2214a_1 : decode cJ2_checkIndex_2214a 1 = .ok (.aload_n 1, 1) := by decide +kernel
theorem dJ2_checkIndex_2214a_2 : decode cJ2_checkIndex_2214a 2 = .ok (.invokestatic 48, 3) := by decide +kernel
theorem dJ2_checkIndex_2214a_5 : decode cJ2_checkIndex_2214a 5 = .ok (.invokestatic 414, 3) := by decide +kernel
theorem dJ2_checkIndex_2214a_8 : decode cJ2_checkIndex_2214a 8 = .ok (.return_, 1) := by decide +kernel
theorem dJ7_rangeCheck_23922_0 : decode cJ7_rangeCheck_23922 0 = .ok (.iload_n 1, 1) := by decide +kernel
theorem dJ7_rangeCheck_23922_1 : decode cJ7_rangeCheck_23922 1 = .ok (.iload_n 2, 1) := by decide +kernel
theorem dJ7_rangeCheck_23922_2 : decode cJ7_rangeCheck_23922 2 = .ok (.if_icmp .le 44, 3) := by decide +kernel
theorem dJ7_rangeCheck_23922_5 : decode cJ7_rangeCheck_23922 5 = .ok (.new 43, 3) := by decide +kernel
theorem dJ7_rangeCheck_23922_8 : decode cJ7_rangeCheck_23922 8 = .ok (.dup, 1) := by decide +kernel
theorem dJ7_rangeCheck_23922_9 : decode cJ7_rangeCheck_23922 9 = .ok (.new 45, 3) := by decide +kernel
theorem dJ7_rangeCheck_23922_12 : decode cJ7_rangeCheck_23922 12 = .ok (.dup, 1) := by decide +kernel
theorem dJ7_rangeCheck_23922_13 : decode cJ7_rangeCheck_23922 13 = .ok (.invokespecial 47, 3) := by decide +kernel
theorem dJ7_rangeCheck_23922_16 : decode cJ7_rangeCheck_23922 16 = .ok (.ldc 48, 2) := by decide +kernel
theorem dJ7_rangeCheck_23922_18 : decode cJ7_rangeCheck_23922 18 = .ok (.invokevirtual 50, 3) := by decide +kernel
theorem dJ7_rangeCheck_23922_21 : decode cJ7_rangeCheck_23922 21 = .ok (.iload_n 1, 1) := by decide +kernel
theorem dJ7_rangeCheck_23922_22 : decode cJ7_rangeCheck_23922 22 = .ok (.invokevirtual 54, 3) := by decide +kernel
theorem dJ7_rangeCheck_23922_25 : decode cJ7_rangeCheck_23922 25 = .ok (.ldc 57, 2) := by decide +kernel
theorem dJ7_rangeCheck_23922_27 : decode cJ7_rangeCheck_23922 27 = .ok (.invokevirtual 50, 3) := by decide +kernel
theorem dJ7_rangeCheck_23922_30 : decode cJ7_rangeCheck_23922 30 = .ok (.iload_n 2, 1) := by decide +kernel
theorem dJ7_rangeCheck_23922_31 : decode cJ7_rangeCheck_23922 31 = .ok (.invokevirtual 54, 3) := by decide +kernel
theorem dJ7_rangeCheck_23922_34 : decode cJ7_rangeCheck_23922 34 = .ok (.ldc 59, 2) := by decide +kernel
theorem dJ7_rangeCheck_23922_36 : decode cJ7_rangeCheck_23922 36 = .ok (.invokevirtual 50, 3) := by decide +kernel
theorem dJ7_rangeCheck_23922_39 : decode cJ7_rangeCheck_23922 39 = .ok (.invokevirtual 61, 3) := by decide +kernel
theorem dJ7_rangeCheck_23922_42 : decode cJ7_rangeCheck_23922 42 = .ok (.invokespecial 65, 3) := by decide +kernel
theorem dJ7_rangeCheck_23922_45 : decode cJ7_rangeCheck_23922 45 = .ok (.athrow, 1) := by decide +kernel
theorem dJ7_rangeCheck_23922_46 : decode cJ7_rangeCheck_23922 46 = .ok (.iload_n 1, 1) := by decide +kernel
theorem dJ7_rangeCheck_23922_47 : decode cJ7_rangeCheck_23922 47 = .ok (.ifCond .ge 12, 3) := by decide +kernel
theorem dJ7_rangeCheck_23922_50 : decode cJ7_rangeCheck_23922 50 = .ok (.new 68, 3) := by decide +kernel
theorem dJ7_rangeCheck_23922_53 : decode cJ7_rangeCheck_23922 53 = .ok (.dup, 1) := by decide +kernel
theorem dJ7_rangeCheck_23922_54 : decode cJ7_rangeCheck_23922 54 = .ok (.iload_n 1, 1) := by decide +kernel
theorem dJ7_rangeCheck_23922_55 : decode cJ7_rangeCheck_23922 55 = .ok (.invokespecial 70, 3) := by decide +kernel
theorem dJ7_rangeCheck_23922_58 : decode cJ7_rangeCheck_23922 58 = .ok (.athrow, 1) := by decide +kernel
theorem dJ7_rangeCheck_23922_59 : decode cJ7_rangeCheck_23922 59 = .ok (.iload_n 2, 1) := by decide +kernel
theorem dJ7_rangeCheck_23922_60 : decode cJ7_rangeCheck_23922 60 = .ok (.iload_n 0, 1) := by decide +kernel
theorem dJ7_rangeCheck_23922_61 : decode cJ7_rangeCheck_23922 61 = .ok (.if_icmp .le 12, 3) := by decide +kernel
theorem dJ7_rangeCheck_23922_64 : decode cJ7_rangeCheck_23922 64 = .ok (.new 68, 3) := by decide +kernel
theorem dJ7_rangeCheck_23922_67 : decode cJ7_rangeCheck_23922 67 = .ok (.dup, 1) := by decide +kernel
theorem dJ7_rangeCheck_23922_68 : decode cJ7_rangeCheck_23922 68 = .ok (.iload_n 2, 1) := by decide +kernel
theorem dJ7_rangeCheck_23922_69 : decode cJ7_rangeCheck_23922 69 = .ok (.invokespecial 70, 3) := by decide +kernel
theorem dJ7_rangeCheck_23922_72 : decode cJ7_rangeCheck_23922 72 = .ok (.athrow, 1) := by decide +kernel
theorem dJ7_rangeCheck_23922_73 : decode cJ7_rangeCheck_23922 73 = .ok (.return_, 1) := by decide +kernel
theorem dJ7_fill_d0a16_0 : decode cJ7_fill_d0a16 0 = .ok (.iconst 0, 1) := by decide +kernel
theorem dJ7_fill_d0a16_1 : decode cJ7_fill_d0a16 1 = .ok (.istore_n 3, 1) := by decide +kernel
theorem dJ7_fill_d0a16_2 : decode cJ7_fill_d0a16 2 = .ok (.aload_n 0, 1) := by decide +kernel
theorem dJ7_fill_d0a16_3 : decode cJ7_fill_d0a16 3 = .ok (.arraylength, 1) := by decide +kernel
theorem dJ7_fill_d0a16_4 : decode cJ7_fill_d0a16 4 = .ok (.istore 4, 2) := by decide +kernel
theorem dJ7_fill_d0a16_6 : decode cJ7_fill_d0a16 6 = .ok (.iload_n 3, 1) := by decide +kernel
theorem dJ7_fill_d0a16_7 : decode cJ7_fill_d0a16 7 = .ok (.iload 4, 2) := by decide +kernel
theorem dJ7_fill_d0a16_9 : decode cJ7_fill_d0a16 9 = .ok (.if_icmp .ge 13, 3) := by decide +kernel
theorem dJ7_fill_d0a16_12 : decode cJ7_fill_d0a16 12 = .ok (.aload_n 0, 1) := by decide +kernel
theorem dJ7_fill_d0a16_13 : decode cJ7_fill_d0a16 13 = .ok (.iload_n 3, 1) := by decide +kernel
theorem dJ7_fill_d0a16_14 : decode cJ7_fill_d0a16 14 = .ok (.lload_n 1, 1) := by decide +kernel
theorem dJ7_fill_d0a16_15 : decode cJ7_fill_d0a16 15 = .ok (.lastore, 1) := by decide +kernel
theorem dJ7_fill_d0a16_16 : decode cJ7_fill_d0a16 16 = .ok (.iinc 3 1, 3) := by decide +kernel
theorem dJ7_fill_d0a16_19 : decode cJ7_fill_d0a16 19 = .ok (.goto (-13), 3) := by decide +kernel
theorem dJ7_fill_d0a16_22 : decode cJ7_fill_d0a16 22 = .ok (.return_, 1) := by decide +kernel
theorem dJ7_fill_bad5a_0 : decode cJ7_fill_bad5a 0 = .ok (.aload_n 0, 1) := by decide +kernel
theorem dJ7_fill_bad5a_1 : decode cJ7_fill_bad5a 1 = .ok (.arraylength, 1) := by decide +kernel
theorem dJ7_fill_bad5a_2 : decode cJ7_fill_bad5a 2 = .ok (.iload_n 1, 1) := by decide +kernel
theorem dJ7_fill_bad5a_3 : decode cJ7_fill_bad5a 3 = .ok (.iload_n 2, 1) := by decide +kernel
theorem dJ7_fill_bad5a_4 : decode cJ7_fill_bad5a 4 = .ok (.invokestatic 13, 3) := by decide +kernel
theorem dJ7_fill_bad5a_7 : decode cJ7_fill_bad5a 7 = .ok (.iload_n 1, 1) := by decide +kernel
theorem dJ7_fill_bad5a_8 : decode cJ7_fill_bad5a 8 = .ok (.istore 5, 2) := by decide +kernel
theorem dJ7_fill_bad5a_10 : decode cJ7_fill_bad5a 10 = .ok (.iload 5, 2) := by decide +kernel
theorem dJ7_fill_bad5a_12 : decode cJ7_fill_bad5a 12 = .ok (.iload_n 2, 1) := by decide +kernel
theorem dJ7_fill_bad5a_13 : decode cJ7_fill_bad5a 13 = .ok (.if_icmp .ge 14, 3) := by decide +kernel
theorem dJ7_fill_bad5a_16 : decode cJ7_fill_bad5a 16 = .ok (.aload_n 0, 1) := by decide +kernel
theorem dJ7_fill_bad5a_17 : decode cJ7_fill_bad5a 17 = .ok (.iload 5, 2) := by decide +kernel
theorem dJ7_fill_bad5a_19 : decode cJ7_fill_bad5a 19 = .ok (.lload_n 3, 1) := by decide +kernel
theorem dJ7_fill_bad5a_20 : decode cJ7_fill_bad5a 20 = .ok (.lastore, 1) := by decide +kernel
theorem dJ7_fill_bad5a_21 : decode cJ7_fill_bad5a 21 = .ok (.iinc 5 1, 3) := by decide +kernel
theorem dJ7_fill_bad5a_24 : decode cJ7_fill_bad5a 24 = .ok (.goto (-14), 3) := by decide +kernel
theorem dJ7_fill_bad5a_27 : decode cJ7_fill_bad5a 27 = .ok (.return_, 1) := by decide +kernel
theorem dJ7_fill_53178_0 : decode cJ7_fill_53178 0 = .ok (.iconst 0, 1) := by decide +kernel
theorem dJ7_fill_53178_1 : decode cJ7_fill_53178 1 = .ok (.istore_n 2, 1) := by decide +kernel
theorem dJ7_fill_53178_2 : decode cJ7_fill_53178 2 = .ok (.aload_n 0, 1) := by decide +kernel
theorem dJ7_fill_53178_3 : decode cJ7_fill_53178 3 = .ok (.arraylength, 1) := by decide +kernel
theorem dJ7_fill_53178_4 : decode cJ7_fill_53178 4 = .ok (.istore_n 3, 1) := by decide +kernel
theorem dJ7_fill_53178_5 : decode cJ7_fill_53178 5 = .ok (.iload_n 2, 1) := by decide +kernel
theorem dJ7_fill_53178_6 : decode cJ7_fill_53178 6 = .ok (.iload_n 3, 1) := by decide +kernel
theorem dJ7_fill_53178_7 : decode cJ7_fill_53178 7 = .ok (.if_icmp .ge 13, 3) := by decide +kernel
theorem dJ7_fill_53178_10 : decode cJ7_fill_53178 10 = .ok (.aload_n 0, 1) := by decide +kernel
theorem dJ7_fill_53178_11 : decode cJ7_fill_53178 11 = .ok (.iload_n 2, 1) := by decide +kernel
theorem dJ7_fill_53178_12 : decode cJ7_fill_53178 12 = .ok (.iload_n 1, 1) := by decide +kernel
theorem dJ7_fill_53178_13 : decode cJ7_fill_53178 13 = .ok (.iastore, 1) := by decide +kernel
theorem dJ7_fill_53178_14 : decode cJ7_fill_53178 14 = .ok (.iinc 2 1, 3) := by decide +kernel
theorem dJ7_fill_53178_17 : decode cJ7_fill_53178 17 = .ok (.goto (-12), 3) := by decide +kernel
theorem dJ7_fill_53178_20 : decode cJ7_fill_53178 20 = .ok (.return_, 1) := by decide +kernel
theorem dJ3_checkIndex_8e157_0 : decode cJ3_checkIndex_8e157 0 = .ok (.iload_n 0, 1) := by decide +kernel
theorem dJ3_checkIndex_8e157_1 : decode cJ3_checkIndex_8e157 1 = .ok (.ifCond .lt 8, 3) := by decide +kernel
theorem dJ3_checkIndex_8e157_4 : decode cJ3_checkIndex_8e157 4 = .ok (.iload_n 0, 1) := by decide +kernel
theorem dJ3_checkIndex_8e157_5 : decode cJ3_checkIndex_8e157 5 = .ok (.iload_n 1, 1) := by decide +kernel
theorem dJ3_checkIndex_8e157_6 : decode cJ3_checkIndex_8e157 6 = .ok (.if_icmp .lt 10, 3) := by decide +kernel
theorem dJ3_checkIndex_8e157_9 : decode cJ3_checkIndex_8e157 9 = .ok (.aload_n 2, 1) := by decide +kernel
theorem dJ3_checkIndex_8e157_10 : decode cJ3_checkIndex_8e157 10 = .ok (.iload_n 0, 1) := by decide +kernel
theorem dJ3_checkIndex_8e157_11 : decode cJ3_checkIndex_8e157 11 = .ok (.iload_n 1, 1) := by decide +kernel
theorem dJ3_checkIndex_8e157_12 : decode cJ3_checkIndex_8e157 12 = .ok (.invokestatic 95, 3) := by decide +kernel
theorem dJ3_checkIndex_8e157_15 : decode cJ3_checkIndex_8e157 15 = .ok (.athrow, 1) := by decide +kernel
theorem dJ3_checkIndex_8e157_16 : decode cJ3_checkIndex_8e157 16 = .ok (.iload_n 0, 1) := by decide +kernel
theorem dJ3_checkIndex_8e157_17 : decode cJ3_checkIndex_8e157 17 = .ok (.ireturn, 1) := by decide +kernel
theorem dL_law_0 : decode cL_law 0 = .ok (.new 7, 3) := by decide +kernel
theorem dL_law_3 : decode cL_law 3 = .ok (.dup, 1) := by decide +kernel
theorem dL_law_4 : decode cL_law 4 = .ok (.invokespecial 9, 3) := by decide +kernel
theorem dL_law_7 : decode cL_law 7 = .ok (.astore_n 1, 1) := by decide +kernel
theorem dL_law_8 : decode cL_law 8 = .ok (.new 10, 3) := by decide +kernel
theorem dL_law_11 : decode cL_law 11 = .ok (.dup, 1) := by decide +kernel
theorem dL_law_12 : decode cL_law 12 = .ok (.invokespecial 12, 3) := by decide +kernel
theorem dL_law_15 : decode cL_law 15 = .ok (.astore_n 2, 1) := by decide +kernel
theorem dL_law_16 : decode cL_law 16 = .ok (.iconst 0, 1) := by decide +kernel
theorem dL_law_17 : decode cL_law 17 = .ok (.istore_n 3, 1) := by decide +kernel
theorem dL_law_18 : decode cL_law 18 = .ok (.iload_n 3, 1) := by decide +kernel
theorem dL_law_19 : decode cL_law 19 = .ok (.aload_n 0, 1) := by decide +kernel
theorem dL_law_20 : decode cL_law 20 = .ok (.arraylength, 1) := by decide +kernel
theorem dL_law_21 : decode cL_law 21 = .ok (.bipush 6, 2) := by decide +kernel
theorem dL_law_23 : decode cL_law 23 = .ok (.isub, 1) := by decide +kernel
theorem dL_law_24 : decode cL_law 24 = .ok (.if_icmp .gt 1448, 3) := by decide +kernel
theorem dL_law_27 : decode cL_law 27 = .ok (.aload_n 0, 1) := by decide +kernel
theorem dL_law_28 : decode cL_law 28 = .ok (.iload_n 3, 1) := by decide +kernel
theorem dL_law_29 : decode cL_law 29 = .ok (.iaload, 1) := by decide +kernel
theorem dL_law_30 : decode cL_law 30 = .ok (.bipush 63, 2) := by decide +kernel
theorem dL_law_32 : decode cL_law 32 = .ok (.iand, 1) := by decide +kernel
theorem dL_law_33 : decode cL_law 33 = .ok (.tableswitch 1433 0 44 #[195, 208, 222, 236, 279, 352, 386, 449, 512, 535, 558, 581, 604, 637, 670, 693, 726, 749, 782, 835, 878, 891, 904, 937, 950, 973, 1016, 1039, 1062, 1095, 1118, 1141, 1154, 1187, 1210, 1243, 1266, 1279, 1292, 1305, 1318, 1341, 1364, 1407, 1420], 195) := by decide +kernel
theorem dL_law_228 : decode cL_law 228 = .ok (.aload_n 1, 1) := by decide +kernel
theorem dL_law_229 : decode cL_law 229 = .ok (.invokevirtual 13, 3) := by decide +kernel
theorem dL_law_232 : decode cL_law 232 = .ok (.aload_n 2, 1) := by decide +kernel
theorem dL_law_233 : decode cL_law 233 = .ok (.invokevirtual 17, 3) := by decide +kernel
theorem dL_law_236 : decode cL_law 236 = .ok (.if_icmp .eq 1230, 3) := by decide +kernel
theorem dL_law_239 : decode cL_law 239 = .ok (.iconst 0, 1) := by decide +kernel
theorem dL_law_240 : decode cL_law 240 = .ok (.ireturn, 1) := by decide +kernel
theorem dL_law_241 : decode cL_law 241 = .ok (.aload_n 1, 1) := by decide +kernel
theorem dL_law_242 : decode cL_law 242 = .ok (.invokevirtual 18, 3) := by decide +kernel
theorem dL_law_245 : decode cL_law 245 = .ok (.aload_n 2, 1) := by decide +kernel
theorem dL_law_246 : decode cL_law 246 = .ok (.invokevirtual 22, 3) := by decide +kernel
theorem dL_law_249 : decode cL_law 249 = .ok (.lcmp, 1) := by decide +kernel
theorem dL_law_250 : decode cL_law 250 = .ok (.ifCond .eq 1216, 3) := by decide +kernel
theorem dL_law_253 : decode cL_law 253 = .ok (.iconst 0, 1) := by decide +kernel
theorem dL_law_254 : decode cL_law 254 = .ok (.ireturn, 1) := by decide +kernel
theorem dL_law_255 : decode cL_law 255 = .ok (.aload_n 1, 1) := by decide +kernel
theorem dL_law_256 : decode cL_law 256 = .ok (.invokevirtual 23, 3) := by decide +kernel
theorem dL_law_259 : decode cL_law 259 = .ok (.aload_n 2, 1) := by decide +kernel
theorem dL_law_260 : decode cL_law 260 = .ok (.invokevirtual 26, 3) := by decide +kernel
theorem dL_law_263 : decode cL_law 263 = .ok (.lcmp, 1) := by decide +kernel
theorem dL_law_264 : decode cL_law 264 = .ok (.ifCond .eq 1202, 3) := by decide +kernel
theorem dL_law_267 : decode cL_law 267 = .ok (.iconst 0, 1) := by decide +kernel
theorem dL_law_268 : decode cL_law 268 = .ok (.ireturn, 1) := by decide +kernel
theorem dL_law_269 : decode cL_law 269 = .ok (.aload_n 1, 1) := by decide +kernel
theorem dL_law_270 : decode cL_law 270 = .ok (.aload_n 0, 1) := by decide +kernel
theorem dL_law_271 : decode cL_law 271 = .ok (.iload_n 3, 1) := by decide +kernel
theorem dL_law_272 : decode cL_law 272 = .ok (.iconst 1, 1) := by decide +kernel
theorem dL_law_273 : decode cL_law 273 = .ok (.iadd, 1) := by decide +kernel
theorem dL_law_274 : decode cL_law 274 = .ok (.iaload, 1) := by decide +kernel
theorem dL_law_275 : decode cL_law 275 = .ok (.aload_n 0, 1) := by decide +kernel
theorem dL_law_276 : decode cL_law 276 = .ok (.iload_n 3, 1) := by decide +kernel
theorem dL_law_277 : decode cL_law 277 = .ok (.iconst 2, 1) := by decide +kernel
theorem dL_law_278 : decode cL_law 278 = .ok (.iadd, 1) := by decide +kernel
theorem dL_law_279 : decode cL_law 279 = .ok (.iaload, 1) := by decide +kernel
theorem dL_law_280 : decode cL_law 280 = .ok (.aload_n 0, 1) := by decide +kernel
theorem dL_law_281 : decode cL_law 281 = .ok (.iload_n 3, 1) := by decide +kernel
theorem dL_law_282 : decode cL_law 282 = .ok (.iconst 3, 1) := by decide +kernel
theorem dL_law_283 : decode cL_law 283 = .ok (.iadd, 1) := by decide +kernel
theorem dL_law_284 : decode cL_law 284 = .ok (.iaload, 1) := by decide +kernel
theorem dL_law_285 : decode cL_law 285 = .ok (.invokevirtual 27, 3) := by decide +kernel
theorem dL_law_288 : decode cL_law 288 = .ok (.aload_n 2, 1) := by decide +kernel
theorem dL_law_289 : decode cL_law 289 = .ok (.aload_n 0, 1) := by decide +kernel
theorem dL_law_290 : decode cL_law 290 = .ok (.iload_n 3, 1) := by decide +kernel
theorem dL_law_291 : decode cL_law 291 = .ok (.iconst 1, 1) := by decide +kernel
theorem dL_law_292 : decode cL_law 292 = .ok (.iadd, 1) := by decide +kernel
theorem dL_law_293 : decode cL_law 293 = .ok (.iaload, 1) := by decide +kernel
theorem dL_law_294 : decode cL_law 294 = .ok (.aload_n 0, 1) := by decide +kernel
theorem dL_law_295 : decode cL_law 295 = .ok (.iload_n 3, 1) := by decide +kernel
theorem dL_law_296 : decode cL_law 296 = .ok (.iconst 2, 1) := by decide +kernel
theorem dL_law_297 : decode cL_law 297 = .ok (.iadd, 1) := by decide +kernel
theorem dL_law_298 : decode cL_law 298 = .ok (.iaload, 1) := by decide +kernel
theorem dL_law_299 : decode cL_law 299 = .ok (.aload_n 0, 1) := by decide +kernel
theorem dL_law_300 : decode cL_law 300 = .ok (.iload_n 3, 1) := by decide +kernel
theorem dL_law_301 : decode cL_law 301 = .ok (.iconst 3, 1) := by decide +kernel
theorem dL_law_302 : decode cL_law 302 = .ok (.iadd, 1) := by decide +kernel
theorem dL_law_303 : decode cL_law 303 = .ok (.iaload, 1) := by decide +kernel
theorem dL_law_304 : decode cL_law 304 = .ok (.invokevirtual 31, 3) := by decide +kernel
theorem dL_law_307 : decode cL_law 307 = .ok (.if_icmp .eq 1159, 3) := by decide +kernel
theorem dL_law_310 : decode cL_law 310 = .ok (.iconst 0, 1) := by decide +kernel
theorem dL_law_311 : decode cL_law 311 = .ok (.ireturn, 1) := by decide +kernel
theorem dL_law_312 : decode cL_law 312 = .ok (.aload_n 1, 1) := by decide +kernel
theorem dL_law_313 : decode cL_law 313 = .ok (.aload_n 0, 1) := by decide +kernel
theorem dL_law_314 : decode cL_law 314 = .ok (.iload_n 3, 1) := by decide +kernel
theorem dL_law_315 : decode cL_law 315 = .ok (.iconst 1, 1) := by decide +kernel
theorem dL_law_316 : decode cL_law 316 = .ok (.iadd, 1) := by decide +kernel
theorem dL_law_317 : decode cL_law 317 = .ok (.iaload, 1) := by decide +kernel
theorem dL_law_318 : decode cL_law 318 = .ok (.aload_n 0, 1) := by decide +kernel
theorem dL_law_319 : decode cL_law 319 = .ok (.iload_n 3, 1) := by decide +kernel
theorem dL_law_320 : decode cL_law 320 = .ok (.iconst 2, 1) := by decide +kernel
theorem dL_law_321 : decode cL_law 321 = .ok (.iadd, 1) := by decide +kernel
theorem dL_law_322 : decode cL_law 322 = .ok (.iaload, 1) := by decide +kernel
theorem dL_law_323 : decode cL_law 323 = .ok (.aload_n 0, 1) := by decide +kernel
theorem dL_law_324 : decode cL_law 324 = .ok (.iload_n 3, 1) := by decide +kernel
theorem dL_law_325 : decode cL_law 325 = .ok (.iconst 3, 1) := by decide +kernel
theorem dL_law_326 : decode cL_law 326 = .ok (.iadd, 1) := by decide +kernel
theorem dL_law_327 : decode cL_law 327 = .ok (.iaload, 1) := by decide +kernel
theorem dL_law_328 : decode cL_law 328 = .ok (.i2l, 1) := by decide +kernel
theorem dL_law_329 : decode cL_law 329 = .ok (.bipush 32, 2) := by decide +kernel
theorem dL_law_331 : decode cL_law 331 = .ok (.lshl, 1) := by decide +kernel
theorem dL_law_332 : decode cL_law 332 = .ok (.aload_n 0, 1) := by decide +kernel
theorem dL_law_333 : decode cL_law 333 = .ok (.iload_n 3, 1) := by decide +kernel
theorem dL_law_334 : decode cL_law 334 = .ok (.iconst 4, 1) := by decide +kernel
theorem dL_law_335 : decode cL_law 335 = .ok (.iadd, 1) := by decide +kernel
theorem dL_law_336 : decode cL_law 336 = .ok (.iaload, 1) := by decide +kernel
theorem dL_law_337 : decode cL_law 337 = .ok (.i2l, 1) := by decide +kernel
theorem dL_law_338 : decode cL_law 338 = .ok (.ldc2_w 32, 3) := by decide +kernel
theorem dL_law_341 : decode cL_law 341 = .ok (.land, 1) := by decide +kernel
theorem dL_law_342 : decode cL_law 342 = .ok (.lor, 1) := by decide +kernel
theorem dL_law_343 : decode cL_law 343 = .ok (.invokevirtual 34, 3) := by decide +kernel
theorem dL_law_346 : decode cL_law 346 = .ok (.aload_n 2, 1) := by decide +kernel
theorem dL_law_347 : decode cL_law 347 = .ok (.aload_n 0, 1) := by decide +kernel
theorem dL_law_348 : decode cL_law 348 = .ok (.iload_n 3, 1) := by decide +kernel
theorem dL_law_349 : decode cL_law 349 = .ok (.iconst 1, 1) := by decide +kernel
theorem dL_law_350 : decode cL_law 350 = .ok (.iadd, 1) := by decide +kernel
theorem dL_law_351 : decode cL_law 351 = .ok (.iaload, 1) := by decide +kernel
theorem dL_law_352 : decode cL_law 352 = .ok (.aload_n 0, 1) := by decide +kernel
theorem dL_law_353 : decode cL_law 353 = .ok (.iload_n 3, 1) := by decide +kernel
theorem dL_law_354 : decode cL_law 354 = .ok (.iconst 2, 1) := by decide +kernel
theorem dL_law_355 : decode cL_law 355 = .ok (.iadd, 1) := by decide +kernel
theorem dL_law_356 : decode cL_law 356 = .ok (.iaload, 1) := by decide +kernel
theorem dL_law_357 : decode cL_law 357 = .ok (.aload_n 0, 1) := by decide +kernel
theorem dL_law_358 : decode cL_law 358 = .ok (.iload_n 3, 1) := by decide +kernel
theorem dL_law_359 : decode cL_law 359 = .ok (.iconst 3, 1) := by decide +kernel
theorem dL_law_360 : decode cL_law 360 = .ok (.iadd, 1) := by decide +kernel
theorem dL_law_361 : decode cL_law 361 = .ok (.iaload, 1) := by decide +kernel
theorem dL_law_362 : decode cL_law 362 = .ok (.i2l, 1) := by decide +kernel
theorem dL_law_363 : decode cL_law 363 = .ok (.bipush 32, 2) := by decide +kernel
theorem dL_law_365 : decode cL_law 365 = .ok (.lshl, 1) := by decide +kernel
theorem dL_law_366 : decode cL_law 366 = .ok (.aload_n 0, 1) := by decide +kernel
theorem dL_law_367 : decode cL_law 367 = .ok (.iload_n 3, 1) := by decide +kernel
theorem dL_law_368 : decode cL_law 368 = .ok (.iconst 4, 1) := by decide +kernel
theorem dL_law_369 : decode cL_law 369 = .ok (.iadd, 1) := by decide +kernel
theorem dL_law_370 : decode cL_law 370 = .ok (.iaload, 1) := by decide +kernel
theorem dL_law_371 : decode cL_law 371 = .ok (.i2l, 1) := by decide +kernel
theorem dL_law_372 : decode cL_law 372 = .ok (.ldc2_w 32, 3) := by decide +kernel
theorem dL_law_375 : decode cL_law 375 = .ok (.land, 1) := by decide +kernel
theorem dL_law_376 : decode cL_law 376 = .ok (.lor, 1) := by decide +kernel
theorem dL_law_377 : decode cL_law 377 = .ok (.invokevirtual 38, 3) := by decide +kernel
theorem dL_law_380 : decode cL_law 380 = .ok (.if_icmp .eq 1086, 3) := by decide +kernel
theorem dL_law_383 : decode cL_law 383 = .ok (.iconst 0, 1) := by decide +kernel
theorem dL_law_384 : decode cL_law 384 = .ok (.ireturn, 1) := by decide +kernel
theorem dL_law_385 : decode cL_law 385 = .ok (.aload_n 1, 1) := by decide +kernel
theorem dL_law_386 : decode cL_law 386 = .ok (.aload_n 0, 1) := by decide +kernel
theorem dL_law_387 : decode cL_law 387 = .ok (.iload_n 3, 1) := by decide +kernel
theorem dL_law_388 : decode cL_law 388 = .ok (.iconst 1, 1) := by decide +kernel
theorem dL_law_389 : decode cL_law 389 = .ok (.iadd, 1) := by decide +kernel
theorem dL_law_390 : decode cL_law 390 = .ok (.iaload, 1) := by decide +kernel
theorem dL_law_391 : decode cL_law 391 = .ok (.aload_n 0, 1) := by decide +kernel
theorem dL_law_392 : decode cL_law 392 = .ok (.iload_n 3, 1) := by decide +kernel
theorem dL_law_393 : decode cL_law 393 = .ok (.iconst 2, 1) := by decide +kernel
theorem dL_law_394 : decode cL_law 394 = .ok (.iadd, 1) := by decide +kernel
theorem dL_law_395 : decode cL_law 395 = .ok (.iaload, 1) := by decide +kernel
theorem dL_law_396 : decode cL_law 396 = .ok (.invokevirtual 39, 3) := by decide +kernel
theorem dL_law_399 : decode cL_law 399 = .ok (.aload_n 2, 1) := by decide +kernel
theorem dL_law_400 : decode cL_law 400 = .ok (.aload_n 0, 1) := by decide +kernel
theorem dL_law_401 : decode cL_law 401 = .ok (.iload_n 3, 1) := by decide +kernel
theorem dL_law_402 : decode cL_law 402 = .ok (.iconst 1, 1) := by decide +kernel
theorem dL_law_403 : decode cL_law 403 = .ok (.iadd, 1) := by decide +kernel
theorem dL_law_404 : decode cL_law 404 = .ok (.iaload, 1) := by decide +kernel
theorem dL_law_405 : decode cL_law 405 = .ok (.aload_n 0, 1) := by decide +kernel
theorem dL_law_406 : decode cL_law 406 = .ok (.iload_n 3, 1) := by decide +kernel
theorem dL_law_407 : decode cL_law 407 = .ok (.iconst 2, 1) := by decide +kernel
theorem dL_law_408 : decode cL_law 408 = .ok (.iadd, 1) := by decide +kernel
theorem dL_law_409 : decode cL_law 409 = .ok (.iaload, 1) := by decide +kernel
theorem dL_law_410 : decode cL_law 410 = .ok (.invokevirtual 43, 3) := by decide +kernel
theorem dL_law_413 : decode cL_law 413 = .ok (.lcmp, 1) := by decide +kernel
theorem dL_law_414 : decode cL_law 414 = .ok (.ifCond .eq 1052, 3) := by decide +kernel
theorem dL_law_417 : decode cL_law 417 = .ok (.iconst 0, 1) := by decide +kernel
theorem dL_law_418 : decode cL_law 418 = .ok (.ireturn, 1) := by decide +kernel
theorem dL_law_419 : decode cL_law 419 = .ok (.aload_n 1, 1) := by decide +kernel
theorem dL_law_420 : decode cL_law 420 = .ok (.aload_n 0, 1) := by decide +kernel
theorem dL_law_421 : decode cL_law 421 = .ok (.iload_n 3, 1) := by decide +kernel
theorem dL_law_422 : decode cL_law 422 = .ok (.iconst 1, 1) := by decide +kernel
theorem dL_law_423 : decode cL_law 423 = .ok (.iadd, 1) := by decide +kernel
theorem dL_law_424 : decode cL_law 424 = .ok (.iaload, 1) := by decide +kernel
theorem dL_law_425 : decode cL_law 425 = .ok (.aload_n 0, 1) := by decide +kernel
theorem dL_law_426 : decode cL_law 426 = .ok (.iload_n 3, 1) := by decide +kernel
theorem dL_law_427 : decode cL_law 427 = .ok (.iconst 2, 1) := by decide +kernel
theorem dL_law_428 : decode cL_law 428 = .ok (.iadd, 1) := by decide +kernel
theorem dL_law_429 : decode cL_law 429 = .ok (.iaload, 1) := by decide +kernel
theorem dL_law_430 : decode cL_law 430 = .ok (.aload_n 0, 1) := by decide +kernel
theorem dL_law_431 : decode cL_law 431 = .ok (.iload_n 3, 1) := by decide +kernel
theorem dL_law_432 : decode cL_law 432 = .ok (.iconst 3, 1) := by decide +kernel
theorem dL_law_433 : decode cL_law 433 = .ok (.iadd, 1) := by decide +kernel
theorem dL_law_434 : decode cL_law 434 = .ok (.iaload, 1) := by decide +kernel
theorem dL_law_435 : decode cL_law 435 = .ok (.aload_n 0, 1) := by decide +kernel
theorem dL_law_436 : decode cL_law 436 = .ok (.iload_n 3, 1) := by decide +kernel
theorem dL_law_437 : decode cL_law 437 = .ok (.iconst 4, 1) := by decide +kernel
theorem dL_law_438 : decode cL_law 438 = .ok (.iadd, 1) := by decide +kernel
theorem dL_law_439 : decode cL_law 439 = .ok (.iaload, 1) := by decide +kernel
theorem dL_law_440 : decode cL_law 440 = .ok (.aload_n 0, 1) := by decide +kernel
theorem dL_law_441 : decode cL_law 441 = .ok (.iload_n 3, 1) := by decide +kernel
theorem dL_law_442 : decode cL_law 442 = .ok (.iconst 5, 1) := by decide +kernel
theorem dL_law_443 : decode cL_law 443 = .ok (.iadd, 1) := by decide +kernel
theorem dL_law_444 : decode cL_law 444 = .ok (.iaload, 1) := by decide +kernel
theorem dL_law_445 : decode cL_law 445 = .ok (.invokevirtual 44, 3) := by decide +kernel
theorem dL_law_448 : decode cL_law 448 = .ok (.aload_n 2, 1) := by decide +kernel
theorem dL_law_449 : decode cL_law 449 = .ok (.aload_n 0, 1) := by decide +kernel
theorem dL_law_450 : decode cL_law 450 = .ok (.iload_n 3, 1) := by decide +kernel
theorem dL_law_451 : decode cL_law 451 = .ok (.iconst 1, 1) := by decide +kernel
theorem dL_law_452 : decode cL_law 452 = .ok (.iadd, 1) := by decide +kernel
theorem dL_law_453 : decode cL_law 453 = .ok (.iaload, 1) := by decide +kernel
theorem dL_law_454 : decode cL_law 454 = .ok (.aload_n 0, 1) := by decide +kernel
theorem dL_law_455 : decode cL_law 455 = .ok (.iload_n 3, 1) := by decide +kernel
theorem dL_law_456 : decode cL_law 456 = .ok (.iconst 2, 1) := by decide +kernel
theorem dL_law_457 : decode cL_law 457 = .ok (.iadd, 1) := by decide +kernel
theorem dL_law_458 : decode cL_law 458 = .ok (.iaload, 1) := by decide +kernel
theorem dL_law_459 : decode cL_law 459 = .ok (.aload_n 0, 1) := by decide +kernel
theorem dL_law_460 : decode cL_law 460 = .ok (.iload_n 3, 1) := by decide +kernel
theorem dL_law_461 : decode cL_law 461 = .ok (.iconst 3, 1) := by decide +kernel
theorem dL_law_462 : decode cL_law 462 = .ok (.iadd, 1) := by decide +kernel
theorem dL_law_463 : decode cL_law 463 = .ok (.iaload, 1) := by decide +kernel
theorem dL_law_464 : decode cL_law 464 = .ok (.aload_n 0, 1) := by decide +kernel
theorem dL_law_465 : decode cL_law 465 = .ok (.iload_n 3, 1) := by decide +kernel
theorem dL_law_466 : decode cL_law 466 = .ok (.iconst 4, 1) := by decide +kernel
theorem dL_law_467 : decode cL_law 467 = .ok (.iadd, 1) := by decide +kernel
theorem dL_law_468 : decode cL_law 468 = .ok (.iaload, 1) := by decide +kernel
theorem dL_law_469 : decode cL_law 469 = .ok (.aload_n 0, 1) := by decide +kernel
theorem dL_law_470 : decode cL_law 470 = .ok (.iload_n 3, 1) := by decide +kernel
theorem dL_law_471 : decode cL_law 471 = .ok (.iconst 5, 1) := by decide +kernel
theorem dL_law_472 : decode cL_law 472 = .ok (.iadd, 1) := by decide +kernel
theorem dL_law_473 : decode cL_law 473 = .ok (.iaload, 1) := by decide +kernel
theorem dL_law_474 : decode cL_law 474 = .ok (.invokevirtual 48, 3) := by decide +kernel
theorem dL_law_477 : decode cL_law 477 = .ok (.if_icmp .eq 989, 3) := by decide +kernel
theorem dL_law_480 : decode cL_law 480 = .ok (.iconst 0, 1) := by decide +kernel
theorem dL_law_481 : decode cL_law 481 = .ok (.ireturn, 1) := by decide +kernel
theorem dL_law_482 : decode cL_law 482 = .ok (.aload_n 1, 1) := by decide +kernel
theorem dL_law_483 : decode cL_law 483 = .ok (.aload_n 0, 1) := by decide +kernel
theorem dL_law_484 : decode cL_law 484 = .ok (.iload_n 3, 1) := by decide +kernel
theorem dL_law_485 : decode cL_law 485 = .ok (.iconst 1, 1) := by decide +kernel
theorem dL_law_486 : decode cL_law 486 = .ok (.iadd, 1) := by decide +kernel
theorem dL_law_487 : decode cL_law 487 = .ok (.iaload, 1) := by decide +kernel
theorem dL_law_488 : decode cL_law 488 = .ok (.aload_n 0, 1) := by decide +kernel
theorem dL_law_489 : decode cL_law 489 = .ok (.iload_n 3, 1) := by decide +kernel
theorem dL_law_490 : decode cL_law 490 = .ok (.iconst 2, 1) := by decide +kernel
theorem dL_law_491 : decode cL_law 491 = .ok (.iadd, 1) := by decide +kernel
theorem dL_law_492 : decode cL_law 492 = .ok (.iaload, 1) := by decide +kernel
theorem dL_law_493 : decode cL_law 493 = .ok (.aload_n 0, 1) := by decide +kernel
theorem dL_law_494 : decode cL_law 494 = .ok (.iload_n 3, 1) := by decide +kernel
theorem dL_law_495 : decode cL_law 495 = .ok (.iconst 3, 1) := by decide +kernel
theorem dL_law_496 : decode cL_law 496 = .ok (.iadd, 1) := by decide +kernel
theorem dL_law_497 : decode cL_law 497 = .ok (.iaload, 1) := by decide +kernel
theorem dL_law_498 : decode cL_law 498 = .ok (.aload_n 0, 1) := by decide +kernel
theorem dL_law_499 : decode cL_law 499 = .ok (.iload_n 3, 1) := by decide +kernel
theorem dL_law_500 : decode cL_law 500 = .ok (.iconst 4, 1) := by decide +kernel
theorem dL_law_501 : decode cL_law 501 = .ok (.iadd, 1) := by decide +kernel
theorem dL_law_502 : decode cL_law 502 = .ok (.iaload, 1) := by decide +kernel
theorem dL_law_503 : decode cL_law 503 = .ok (.aload_n 0, 1) := by decide +kernel
theorem dL_law_504 : decode cL_law 504 = .ok (.iload_n 3, 1) := by decide +kernel
theorem dL_law_505 : decode cL_law 505 = .ok (.iconst 5, 1) := by decide +kernel
theorem dL_law_506 : decode cL_law 506 = .ok (.iadd, 1) := by decide +kernel
theorem dL_law_507 : decode cL_law 507 = .ok (.iaload, 1) := by decide +kernel
theorem dL_law_508 : decode cL_law 508 = .ok (.invokevirtual 49, 3) := by decide +kernel
theorem dL_law_511 : decode cL_law 511 = .ok (.aload_n 2, 1) := by decide +kernel
theorem dL_law_512 : decode cL_law 512 = .ok (.aload_n 0, 1) := by decide +kernel
theorem dL_law_513 : decode cL_law 513 = .ok (.iload_n 3, 1) := by decide +kernel
theorem dL_law_514 : decode cL_law 514 = .ok (.iconst 1, 1) := by decide +kernel
theorem dL_law_515 : decode cL_law 515 = .ok (.iadd, 1) := by decide +kernel
theorem dL_law_516 : decode cL_law 516 = .ok (.iaload, 1) := by decide +kernel
theorem dL_law_517 : decode cL_law 517 = .ok (.aload_n 0, 1) := by decide +kernel
theorem dL_law_518 : decode cL_law 518 = .ok (.iload_n 3, 1) := by decide +kernel
theorem dL_law_519 : decode cL_law 519 = .ok (.iconst 2, 1) := by decide +kernel
theorem dL_law_520 : decode cL_law 520 = .ok (.iadd, 1) := by decide +kernel
theorem dL_law_521 : decode cL_law 521 = .ok (.iaload, 1) := by decide +kernel
theorem dL_law_522 : decode cL_law 522 = .ok (.aload_n 0, 1) := by decide +kernel
theorem dL_law_523 : decode cL_law 523 = .ok (.iload_n 3, 1) := by decide +kernel
theorem dL_law_524 : decode cL_law 524 = .ok (.iconst 3, 1) := by decide +kernel
theorem dL_law_525 : decode cL_law 525 = .ok (.iadd, 1) := by decide +kernel
theorem dL_law_526 : decode cL_law 526 = .ok (.iaload, 1) := by decide +kernel
theorem dL_law_527 : decode cL_law 527 = .ok (.aload_n 0, 1) := by decide +kernel
theorem dL_law_528 : decode cL_law 528 = .ok (.iload_n 3, 1) := by decide +kernel
theorem dL_law_529 : decode cL_law 529 = .ok (.iconst 4, 1) := by decide +kernel
theorem dL_law_530 : decode cL_law 530 = .ok (.iadd, 1) := by decide +kernel
theorem dL_law_531 : decode cL_law 531 = .ok (.iaload, 1) := by decide +kernel
theorem dL_law_532 : decode cL_law 532 = .ok (.aload_n 0, 1) := by decide +kernel
theorem dL_law_533 : decode cL_law 533 = .ok (.iload_n 3, 1) := by decide +kernel
theorem dL_law_534 : decode cL_law 534 = .ok (.iconst 5, 1) := by decide +kernel
theorem dL_law_535 : decode cL_law 535 = .ok (.iadd, 1) := by decide +kernel
theorem dL_law_536 : decode cL_law 536 = .ok (.iaload, 1) := by decide +kernel
theorem dL_law_537 : decode cL_law 537 = .ok (.invokevirtual 53, 3) := by decide +kernel
theorem dL_law_540 : decode cL_law 540 = .ok (.if_icmp .eq 926, 3) := by decide +kernel
theorem dL_law_543 : decode cL_law 543 = .ok (.iconst 0, 1) := by decide +kernel
theorem dL_law_544 : decode cL_law 544 = .ok (.ireturn, 1) := by decide +kernel
theorem dL_law_545 : decode cL_law 545 = .ok (.aload_n 1, 1) := by decide +kernel
theorem dL_law_546 : decode cL_law 546 = .ok (.aload_n 0, 1) := by decide +kernel
theorem dL_law_547 : decode cL_law 547 = .ok (.iload_n 3, 1) := by decide +kernel
theorem dL_law_548 : decode cL_law 548 = .ok (.iconst 1, 1) := by decide +kernel
theorem dL_law_549 : decode cL_law 549 = .ok (.iadd, 1) := by decide +kernel
theorem dL_law_550 : decode cL_law 550 = .ok (.iaload, 1) := by decide +kernel
theorem dL_law_551 : decode cL_law 551 = .ok (.invokevirtual 54, 3) := by decide +kernel
theorem dL_law_554 : decode cL_law 554 = .ok (.aload_n 2, 1) := by decide +kernel
theorem dL_law_555 : decode cL_law 555 = .ok (.aload_n 0, 1) := by decide +kernel
theorem dL_law_556 : decode cL_law 556 = .ok (.iload_n 3, 1) := by decide +kernel
theorem dL_law_557 : decode cL_law 557 = .ok (.iconst 1, 1) := by decide +kernel
theorem dL_law_558 : decode cL_law 558 = .ok (.iadd, 1) := by decide +kernel
theorem dL_law_559 : decode cL_law 559 = .ok (.iaload, 1) := by decide +kernel
theorem dL_law_560 : decode cL_law 560 = .ok (.invokevirtual 58, 3) := by decide +kernel
theorem dL_law_563 : decode cL_law 563 = .ok (.if_icmp .eq 903, 3) := by decide +kernel
theorem dL_law_566 : decode cL_law 566 = .ok (.iconst 0, 1) := by decide +kernel
theorem dL_law_567 : decode cL_law 567 = .ok (.ireturn, 1) := by decide +kernel
theorem dL_law_568 : decode cL_law 568 = .ok (.aload_n 1, 1) := by decide +kernel
theorem dL_law_569 : decode cL_law 569 = .ok (.aload_n 0, 1) := by decide +kernel
theorem dL_law_570 : decode cL_law 570 = .ok (.iload_n 3, 1) := by decide +kernel
theorem dL_law_571 : decode cL_law 571 = .ok (.iconst 1, 1) := by decide +kernel
theorem dL_law_572 : decode cL_law 572 = .ok (.iadd, 1) := by decide +kernel
theorem dL_law_573 : decode cL_law 573 = .ok (.iaload, 1) := by decide +kernel
theorem dL_law_574 : decode cL_law 574 = .ok (.invokevirtual 59, 3) := by decide +kernel
theorem dL_law_577 : decode cL_law 577 = .ok (.aload_n 2, 1) := by decide +kernel
theorem dL_law_578 : decode cL_law 578 = .ok (.aload_n 0, 1) := by decide +kernel
theorem dL_law_579 : decode cL_law 579 = .ok (.iload_n 3, 1) := by decide +kernel
theorem dL_law_580 : decode cL_law 580 = .ok (.iconst 1, 1) := by decide +kernel
theorem dL_law_581 : decode cL_law 581 = .ok (.iadd, 1) := by decide +kernel
theorem dL_law_582 : decode cL_law 582 = .ok (.iaload, 1) := by decide +kernel
theorem dL_law_583 : decode cL_law 583 = .ok (.invokevirtual 62, 3) := by decide +kernel
theorem dL_law_586 : decode cL_law 586 = .ok (.if_icmp .eq 880, 3) := by decide +kernel
theorem dL_law_589 : decode cL_law 589 = .ok (.iconst 0, 1) := by decide +kernel
theorem dL_law_590 : decode cL_law 590 = .ok (.ireturn, 1) := by decide +kernel
theorem dL_law_591 : decode cL_law 591 = .ok (.aload_n 1, 1) := by decide +kernel
theorem dL_law_592 : decode cL_law 592 = .ok (.aload_n 0, 1) := by decide +kernel
theorem dL_law_593 : decode cL_law 593 = .ok (.iload_n 3, 1) := by decide +kernel
theorem dL_law_594 : decode cL_law 594 = .ok (.iconst 1, 1) := by decide +kernel
theorem dL_law_595 : decode cL_law 595 = .ok (.iadd, 1) := by decide +kernel
theorem dL_law_596 : decode cL_law 596 = .ok (.iaload, 1) := by decide +kernel
theorem dL_law_597 : decode cL_law 597 = .ok (.invokevirtual 63, 3) := by decide +kernel
theorem dL_law_600 : decode cL_law 600 = .ok (.aload_n 2, 1) := by decide +kernel
theorem dL_law_601 : decode cL_law 601 = .ok (.aload_n 0, 1) := by decide +kernel
theorem dL_law_602 : decode cL_law 602 = .ok (.iload_n 3, 1) := by decide +kernel
theorem dL_law_603 : decode cL_law 603 = .ok (.iconst 1, 1) := by decide +kernel
theorem dL_law_604 : decode cL_law 604 = .ok (.iadd, 1) := by decide +kernel
theorem dL_law_605 : decode cL_law 605 = .ok (.iaload, 1) := by decide +kernel
theorem dL_law_606 : decode cL_law 606 = .ok (.invokevirtual 66, 3) := by decide +kernel
theorem dL_law_609 : decode cL_law 609 = .ok (.if_icmp .eq 857, 3) := by decide +kernel
theorem dL_law_612 : decode cL_law 612 = .ok (.iconst 0, 1) := by decide +kernel
theorem dL_law_613 : decode cL_law 613 = .ok (.ireturn, 1) := by decide +kernel
theorem dL_law_614 : decode cL_law 614 = .ok (.aload_n 1, 1) := by decide +kernel
theorem dL_law_615 : decode cL_law 615 = .ok (.aload_n 0, 1) := by decide +kernel
theorem dL_law_616 : decode cL_law 616 = .ok (.iload_n 3, 1) := by decide +kernel
theorem dL_law_617 : decode cL_law 617 = .ok (.iconst 1, 1) := by decide +kernel
theorem dL_law_618 : decode cL_law 618 = .ok (.iadd, 1) := by decide +kernel
theorem dL_law_619 : decode cL_law 619 = .ok (.iaload, 1) := by decide +kernel
theorem dL_law_620 : decode cL_law 620 = .ok (.invokevirtual 67, 3) := by decide +kernel
theorem dL_law_623 : decode cL_law 623 = .ok (.aload_n 2, 1) := by decide +kernel
theorem dL_law_624 : decode cL_law 624 = .ok (.aload_n 0, 1) := by decide +kernel
theorem dL_law_625 : decode cL_law 625 = .ok (.iload_n 3, 1) := by decide +kernel
theorem dL_law_626 : decode cL_law 626 = .ok (.iconst 1, 1) := by decide +kernel
theorem dL_law_627 : decode cL_law 627 = .ok (.iadd, 1) := by decide +kernel
theorem dL_law_628 : decode cL_law 628 = .ok (.iaload, 1) := by decide +kernel
theorem dL_law_629 : decode cL_law 629 = .ok (.invokevirtual 70, 3) := by decide +kernel
theorem dL_law_632 : decode cL_law 632 = .ok (.if_icmp .eq 834, 3) := by decide +kernel
theorem dL_law_635 : decode cL_law 635 = .ok (.iconst 0, 1) := by decide +kernel
theorem dL_law_636 : decode cL_law 636 = .ok (.ireturn, 1) := by decide +kernel
theorem dL_law_637 : decode cL_law 637 = .ok (.aload_n 1, 1) := by decide +kernel
theorem dL_law_638 : decode cL_law 638 = .ok (.aload_n 0, 1) := by decide +kernel
theorem dL_law_639 : decode cL_law 639 = .ok (.iload_n 3, 1) := by decide +kernel
theorem dL_law_640 : decode cL_law 640 = .ok (.iconst 1, 1) := by decide +kernel
theorem dL_law_641 : decode cL_law 641 = .ok (.iadd, 1) := by decide +kernel
theorem dL_law_642 : decode cL_law 642 = .ok (.iaload, 1) := by decide +kernel
theorem dL_law_643 : decode cL_law 643 = .ok (.aload_n 0, 1) := by decide +kernel
theorem dL_law_644 : decode cL_law 644 = .ok (.iload_n 3, 1) := by decide +kernel
theorem dL_law_645 : decode cL_law 645 = .ok (.iconst 2, 1) := by decide +kernel
theorem dL_law_646 : decode cL_law 646 = .ok (.iadd, 1) := by decide +kernel
theorem dL_law_647 : decode cL_law 647 = .ok (.iaload, 1) := by decide +kernel
theorem dL_law_648 : decode cL_law 648 = .ok (.invokevirtual 71, 3) := by decide +kernel
theorem dL_law_651 : decode cL_law 651 = .ok (.aload_n 2, 1) := by decide +kernel
theorem dL_law_652 : decode cL_law 652 = .ok (.aload_n 0, 1) := by decide +kernel
theorem dL_law_653 : decode cL_law 653 = .ok (.iload_n 3, 1) := by decide +kernel
theorem dL_law_654 : decode cL_law 654 = .ok (.iconst 1, 1) := by decide +kernel
theorem dL_law_655 : decode cL_law 655 = .ok (.iadd, 1) := by decide +kernel
theorem dL_law_656 : decode cL_law 656 = .ok (.iaload, 1) := by decide +kernel
theorem dL_law_657 : decode cL_law 657 = .ok (.aload_n 0, 1) := by decide +kernel
theorem dL_law_658 : decode cL_law 658 = .ok (.iload_n 3, 1) := by decide +kernel
theorem dL_law_659 : decode cL_law 659 = .ok (.iconst 2, 1) := by decide +kernel
theorem dL_law_660 : decode cL_law 660 = .ok (.iadd, 1) := by decide +kernel
theorem dL_law_661 : decode cL_law 661 = .ok (.iaload, 1) := by decide +kernel
theorem dL_law_662 : decode cL_law 662 = .ok (.invokevirtual 75, 3) := by decide +kernel
theorem dL_law_665 : decode cL_law 665 = .ok (.if_icmp .eq 801, 3) := by decide +kernel
theorem dL_law_668 : decode cL_law 668 = .ok (.iconst 0, 1) := by decide +kernel
theorem dL_law_669 : decode cL_law 669 = .ok (.ireturn, 1) := by decide +kernel
theorem dL_law_670 : decode cL_law 670 = .ok (.aload_n 1, 1) := by decide +kernel
theorem dL_law_671 : decode cL_law 671 = .ok (.aload_n 0, 1) := by decide +kernel
theorem dL_law_672 : decode cL_law 672 = .ok (.iload_n 3, 1) := by decide +kernel
theorem dL_law_673 : decode cL_law 673 = .ok (.iconst 1, 1) := by decide +kernel
theorem dL_law_674 : decode cL_law 674 = .ok (.iadd, 1) := by decide +kernel
theorem dL_law_675 : decode cL_law 675 = .ok (.iaload, 1) := by decide +kernel
theorem dL_law_676 : decode cL_law 676 = .ok (.aload_n 0, 1) := by decide +kernel
theorem dL_law_677 : decode cL_law 677 = .ok (.iload_n 3, 1) := by decide +kernel
theorem dL_law_678 : decode cL_law 678 = .ok (.iconst 2, 1) := by decide +kernel
theorem dL_law_679 : decode cL_law 679 = .ok (.iadd, 1) := by decide +kernel
theorem dL_law_680 : decode cL_law 680 = .ok (.iaload, 1) := by decide +kernel
theorem dL_law_681 : decode cL_law 681 = .ok (.invokevirtual 76, 3) := by decide +kernel
theorem dL_law_684 : decode cL_law 684 = .ok (.aload_n 2, 1) := by decide +kernel
theorem dL_law_685 : decode cL_law 685 = .ok (.aload_n 0, 1) := by decide +kernel
theorem dL_law_686 : decode cL_law 686 = .ok (.iload_n 3, 1) := by decide +kernel
theorem dL_law_687 : decode cL_law 687 = .ok (.iconst 1, 1) := by decide +kernel
theorem dL_law_688 : decode cL_law 688 = .ok (.iadd, 1) := by decide +kernel
theorem dL_law_689 : decode cL_law 689 = .ok (.iaload, 1) := by decide +kernel
theorem dL_law_690 : decode cL_law 690 = .ok (.aload_n 0, 1) := by decide +kernel
theorem dL_law_691 : decode cL_law 691 = .ok (.iload_n 3, 1) := by decide +kernel
theorem dL_law_692 : decode cL_law 692 = .ok (.iconst 2, 1) := by decide +kernel
theorem dL_law_693 : decode cL_law 693 = .ok (.iadd, 1) := by decide +kernel
theorem dL_law_694 : decode cL_law 694 = .ok (.iaload, 1) := by decide +kernel
theorem dL_law_695 : decode cL_law 695 = .ok (.invokevirtual 79, 3) := by decide +kernel
theorem dL_law_698 : decode cL_law 698 = .ok (.if_icmp .eq 768, 3) := by decide +kernel
theorem dL_law_701 : decode cL_law 701 = .ok (.iconst 0, 1) := by decide +kernel
theorem dL_law_702 : decode cL_law 702 = .ok (.ireturn, 1) := by decide +kernel
theorem dL_law_703 : decode cL_law 703 = .ok (.aload_n 1, 1) := by decide +kernel
theorem dL_law_704 : decode cL_law 704 = .ok (.aload_n 0, 1) := by decide +kernel
theorem dL_law_705 : decode cL_law 705 = .ok (.iload_n 3, 1) := by decide +kernel
theorem dL_law_706 : decode cL_law 706 = .ok (.iconst 1, 1) := by decide +kernel
theorem dL_law_707 : decode cL_law 707 = .ok (.iadd, 1) := by decide +kernel
theorem dL_law_708 : decode cL_law 708 = .ok (.iaload, 1) := by decide +kernel
theorem dL_law_709 : decode cL_law 709 = .ok (.invokevirtual 80, 3) := by decide +kernel
theorem dL_law_712 : decode cL_law 712 = .ok (.aload_n 2, 1) := by decide +kernel
theorem dL_law_713 : decode cL_law 713 = .ok (.aload_n 0, 1) := by decide +kernel
theorem dL_law_714 : decode cL_law 714 = .ok (.iload_n 3, 1) := by decide +kernel
theorem dL_law_715 : decode cL_law 715 = .ok (.iconst 1, 1) := by decide +kernel
theorem dL_law_716 : decode cL_law 716 = .ok (.iadd, 1) := by decide +kernel
theorem dL_law_717 : decode cL_law 717 = .ok (.iaload, 1) := by decide +kernel
theorem dL_law_718 : decode cL_law 718 = .ok (.invokevirtual 83, 3) := by decide +kernel
theorem dL_law_721 : decode cL_law 721 = .ok (.if_icmp .eq 745, 3) := by decide +kernel
theorem dL_law_724 : decode cL_law 724 = .ok (.iconst 0, 1) := by decide +kernel
theorem dL_law_725 : decode cL_law 725 = .ok (.ireturn, 1) := by decide +kernel
theorem dL_law_726 : decode cL_law 726 = .ok (.aload_n 1, 1) := by decide +kernel
theorem dL_law_727 : decode cL_law 727 = .ok (.aload_n 0, 1) := by decide +kernel
theorem dL_law_728 : decode cL_law 728 = .ok (.iload_n 3, 1) := by decide +kernel
theorem dL_law_729 : decode cL_law 729 = .ok (.iconst 1, 1) := by decide +kernel
theorem dL_law_730 : decode cL_law 730 = .ok (.iadd, 1) := by decide +kernel
theorem dL_law_731 : decode cL_law 731 = .ok (.iaload, 1) := by decide +kernel
theorem dL_law_732 : decode cL_law 732 = .ok (.aload_n 0, 1) := by decide +kernel
theorem dL_law_733 : decode cL_law 733 = .ok (.iload_n 3, 1) := by decide +kernel
theorem dL_law_734 : decode cL_law 734 = .ok (.iconst 2, 1) := by decide +kernel
theorem dL_law_735 : decode cL_law 735 = .ok (.iadd, 1) := by decide +kernel
theorem dL_law_736 : decode cL_law 736 = .ok (.iaload, 1) := by decide +kernel
theorem dL_law_737 : decode cL_law 737 = .ok (.invokevirtual 84, 3) := by decide +kernel
theorem dL_law_740 : decode cL_law 740 = .ok (.aload_n 2, 1) := by decide +kernel
theorem dL_law_741 : decode cL_law 741 = .ok (.aload_n 0, 1) := by decide +kernel
theorem dL_law_742 : decode cL_law 742 = .ok (.iload_n 3, 1) := by decide +kernel
theorem dL_law_743 : decode cL_law 743 = .ok (.iconst 1, 1) := by decide +kernel
theorem dL_law_744 : decode cL_law 744 = .ok (.iadd, 1) := by decide +kernel
theorem dL_law_745 : decode cL_law 745 = .ok (.iaload, 1) := by decide +kernel
theorem dL_law_746 : decode cL_law 746 = .ok (.aload_n 0, 1) := by decide +kernel
theorem dL_law_747 : decode cL_law 747 = .ok (.iload_n 3, 1) := by decide +kernel
theorem dL_law_748 : decode cL_law 748 = .ok (.iconst 2, 1) := by decide +kernel
theorem dL_law_749 : decode cL_law 749 = .ok (.iadd, 1) := by decide +kernel
theorem dL_law_750 : decode cL_law 750 = .ok (.iaload, 1) := by decide +kernel
theorem dL_law_751 : decode cL_law 751 = .ok (.invokevirtual 87, 3) := by decide +kernel
theorem dL_law_754 : decode cL_law 754 = .ok (.if_icmp .eq 712, 3) := by decide +kernel
theorem dL_law_757 : decode cL_law 757 = .ok (.iconst 0, 1) := by decide +kernel
theorem dL_law_758 : decode cL_law 758 = .ok (.ireturn, 1) := by decide +kernel
theorem dL_law_759 : decode cL_law 759 = .ok (.aload_n 1, 1) := by decide +kernel
theorem dL_law_760 : decode cL_law 760 = .ok (.aload_n 0, 1) := by decide +kernel
theorem dL_law_761 : decode cL_law 761 = .ok (.iload_n 3, 1) := by decide +kernel
theorem dL_law_762 : decode cL_law 762 = .ok (.iconst 1, 1) := by decide +kernel
theorem dL_law_763 : decode cL_law 763 = .ok (.iadd, 1) := by decide +kernel
theorem dL_law_764 : decode cL_law 764 = .ok (.iaload, 1) := by decide +kernel
theorem dL_law_765 : decode cL_law 765 = .ok (.invokevirtual 88, 3) := by decide +kernel
theorem dL_law_768 : decode cL_law 768 = .ok (.aload_n 2, 1) := by decide +kernel
theorem dL_law_769 : decode cL_law 769 = .ok (.aload_n 0, 1) := by decide +kernel
theorem dL_law_770 : decode cL_law 770 = .ok (.iload_n 3, 1) := by decide +kernel
theorem dL_law_771 : decode cL_law 771 = .ok (.iconst 1, 1) := by decide +kernel
theorem dL_law_772 : decode cL_law 772 = .ok (.iadd, 1) := by decide +kernel
theorem dL_law_773 : decode cL_law 773 = .ok (.iaload, 1) := by decide +kernel
theorem dL_law_774 : decode cL_law 774 = .ok (.invokevirtual 91, 3) := by decide +kernel
theorem dL_law_777 : decode cL_law 777 = .ok (.if_icmp .eq 689, 3) := by decide +kernel
theorem dL_law_780 : decode cL_law 780 = .ok (.iconst 0, 1) := by decide +kernel
theorem dL_law_781 : decode cL_law 781 = .ok (.ireturn, 1) := by decide +kernel
theorem dL_law_782 : decode cL_law 782 = .ok (.aload_n 1, 1) := by decide +kernel
theorem dL_law_783 : decode cL_law 783 = .ok (.aload_n 0, 1) := by decide +kernel
theorem dL_law_784 : decode cL_law 784 = .ok (.iload_n 3, 1) := by decide +kernel
theorem dL_law_785 : decode cL_law 785 = .ok (.iconst 1, 1) := by decide +kernel
theorem dL_law_786 : decode cL_law 786 = .ok (.iadd, 1) := by decide +kernel
theorem dL_law_787 : decode cL_law 787 = .ok (.iaload, 1) := by decide +kernel
theorem dL_law_788 : decode cL_law 788 = .ok (.aload_n 0, 1) := by decide +kernel
theorem dL_law_789 : decode cL_law 789 = .ok (.iload_n 3, 1) := by decide +kernel
theorem dL_law_790 : decode cL_law 790 = .ok (.iconst 2, 1) := by decide +kernel
theorem dL_law_791 : decode cL_law 791 = .ok (.iadd, 1) := by decide +kernel
theorem dL_law_792 : decode cL_law 792 = .ok (.iaload, 1) := by decide +kernel
theorem dL_law_793 : decode cL_law 793 = .ok (.invokevirtual 92, 3) := by decide +kernel
theorem dL_law_796 : decode cL_law 796 = .ok (.aload_n 2, 1) := by decide +kernel
theorem dL_law_797 : decode cL_law 797 = .ok (.aload_n 0, 1) := by decide +kernel
theorem dL_law_798 : decode cL_law 798 = .ok (.iload_n 3, 1) := by decide +kernel
theorem dL_law_799 : decode cL_law 799 = .ok (.iconst 1, 1) := by decide +kernel
theorem dL_law_800 : decode cL_law 800 = .ok (.iadd, 1) := by decide +kernel
theorem dL_law_801 : decode cL_law 801 = .ok (.iaload, 1) := by decide +kernel
theorem dL_law_802 : decode cL_law 802 = .ok (.aload_n 0, 1) := by decide +kernel
theorem dL_law_803 : decode cL_law 803 = .ok (.iload_n 3, 1) := by decide +kernel
theorem dL_law_804 : decode cL_law 804 = .ok (.iconst 2, 1) := by decide +kernel
theorem dL_law_805 : decode cL_law 805 = .ok (.iadd, 1) := by decide +kernel
theorem dL_law_806 : decode cL_law 806 = .ok (.iaload, 1) := by decide +kernel
theorem dL_law_807 : decode cL_law 807 = .ok (.invokevirtual 95, 3) := by decide +kernel
theorem dL_law_810 : decode cL_law 810 = .ok (.if_icmp .eq 656, 3) := by decide +kernel
theorem dL_law_813 : decode cL_law 813 = .ok (.iconst 0, 1) := by decide +kernel
theorem dL_law_814 : decode cL_law 814 = .ok (.ireturn, 1) := by decide +kernel
theorem dL_law_815 : decode cL_law 815 = .ok (.aload_n 1, 1) := by decide +kernel
theorem dL_law_816 : decode cL_law 816 = .ok (.aload_n 0, 1) := by decide +kernel
theorem dL_law_817 : decode cL_law 817 = .ok (.iload_n 3, 1) := by decide +kernel
theorem dL_law_818 : decode cL_law 818 = .ok (.iconst 1, 1) := by decide +kernel
theorem dL_law_819 : decode cL_law 819 = .ok (.iadd, 1) := by decide +kernel
theorem dL_law_820 : decode cL_law 820 = .ok (.iaload, 1) := by decide +kernel
theorem dL_law_821 : decode cL_law 821 = .ok (.aload_n 0, 1) := by decide +kernel
theorem dL_law_822 : decode cL_law 822 = .ok (.iload_n 3, 1) := by decide +kernel
theorem dL_law_823 : decode cL_law 823 = .ok (.iconst 2, 1) := by decide +kernel
theorem dL_law_824 : decode cL_law 824 = .ok (.iadd, 1) := by decide +kernel
theorem dL_law_825 : decode cL_law 825 = .ok (.iaload, 1) := by decide +kernel
theorem dL_law_826 : decode cL_law 826 = .ok (.aload_n 0, 1) := by decide +kernel
theorem dL_law_827 : decode cL_law 827 = .ok (.iload_n 3, 1) := by decide +kernel
theorem dL_law_828 : decode cL_law 828 = .ok (.iconst 3, 1) := by decide +kernel
theorem dL_law_829 : decode cL_law 829 = .ok (.iadd, 1) := by decide +kernel
theorem dL_law_830 : decode cL_law 830 = .ok (.iaload, 1) := by decide +kernel
theorem dL_law_831 : decode cL_law 831 = .ok (.aload_n 0, 1) := by decide +kernel
theorem dL_law_832 : decode cL_law 832 = .ok (.iload_n 3, 1) := by decide +kernel
theorem dL_law_833 : decode cL_law 833 = .ok (.iconst 4, 1) := by decide +kernel
theorem dL_law_834 : decode cL_law 834 = .ok (.iadd, 1) := by decide +kernel
theorem dL_law_835 : decode cL_law 835 = .ok (.iaload, 1) := by decide +kernel
theorem dL_law_836 : decode cL_law 836 = .ok (.invokevirtual 96, 3) := by decide +kernel
theorem dL_law_839 : decode cL_law 839 = .ok (.aload_n 2, 1) := by decide +kernel
theorem dL_law_840 : decode cL_law 840 = .ok (.aload_n 0, 1) := by decide +kernel
theorem dL_law_841 : decode cL_law 841 = .ok (.iload_n 3, 1) := by decide +kernel
theorem dL_law_842 : decode cL_law 842 = .ok (.iconst 1, 1) := by decide +kernel
theorem dL_law_843 : decode cL_law 843 = .ok (.iadd, 1) := by decide +kernel
theorem dL_law_844 : decode cL_law 844 = .ok (.iaload, 1) := by decide +kernel
theorem dL_law_845 : decode cL_law 845 = .ok (.aload_n 0, 1) := by decide +kernel
theorem dL_law_846 : decode cL_law 846 = .ok (.iload_n 3, 1) := by decide +kernel
theorem dL_law_847 : decode cL_law 847 = .ok (.iconst 2, 1) := by decide +kernel
theorem dL_law_848 : decode cL_law 848 = .ok (.iadd, 1) := by decide +kernel
theorem dL_law_849 : decode cL_law 849 = .ok (.iaload, 1) := by decide +kernel
theorem dL_law_850 : decode cL_law 850 = .ok (.aload_n 0, 1) := by decide +kernel
theorem dL_law_851 : decode cL_law 851 = .ok (.iload_n 3, 1) := by decide +kernel
theorem dL_law_852 : decode cL_law 852 = .ok (.iconst 3, 1) := by decide +kernel
theorem dL_law_853 : decode cL_law 853 = .ok (.iadd, 1) := by decide +kernel
theorem dL_law_854 : decode cL_law 854 = .ok (.iaload, 1) := by decide +kernel
theorem dL_law_855 : decode cL_law 855 = .ok (.aload_n 0, 1) := by decide +kernel
theorem dL_law_856 : decode cL_law 856 = .ok (.iload_n 3, 1) := by decide +kernel
theorem dL_law_857 : decode cL_law 857 = .ok (.iconst 4, 1) := by decide +kernel
theorem dL_law_858 : decode cL_law 858 = .ok (.iadd, 1) := by decide +kernel
theorem dL_law_859 : decode cL_law 859 = .ok (.iaload, 1) := by decide +kernel
theorem dL_law_860 : decode cL_law 860 = .ok (.invokevirtual 100, 3) := by decide +kernel
theorem dL_law_863 : decode cL_law 863 = .ok (.if_icmp .eq 603, 3) := by decide +kernel
theorem dL_law_866 : decode cL_law 866 = .ok (.iconst 0, 1) := by decide +kernel
theorem dL_law_867 : decode cL_law 867 = .ok (.ireturn, 1) := by decide +kernel
theorem dL_law_868 : decode cL_law 868 = .ok (.aload_n 1, 1) := by decide +kernel
theorem dL_law_869 : decode cL_law 869 = .ok (.aload_n 0, 1) := by decide +kernel
theorem dL_law_870 : decode cL_law 870 = .ok (.iload_n 3, 1) := by decide +kernel
theorem dL_law_871 : decode cL_law 871 = .ok (.iconst 1, 1) := by decide +kernel
theorem dL_law_872 : decode cL_law 872 = .ok (.iadd, 1) := by decide +kernel
theorem dL_law_873 : decode cL_law 873 = .ok (.iaload, 1) := by decide +kernel
theorem dL_law_874 : decode cL_law 874 = .ok (.aload_n 0, 1) := by decide +kernel
theorem dL_law_875 : decode cL_law 875 = .ok (.iload_n 3, 1) := by decide +kernel
theorem dL_law_876 : decode cL_law 876 = .ok (.iconst 2, 1) := by decide +kernel
theorem dL_law_877 : decode cL_law 877 = .ok (.iadd, 1) := by decide +kernel
theorem dL_law_878 : decode cL_law 878 = .ok (.iaload, 1) := by decide +kernel
theorem dL_law_879 : decode cL_law 879 = .ok (.aload_n 0, 1) := by decide +kernel
theorem dL_law_880 : decode cL_law 880 = .ok (.iload_n 3, 1) := by decide +kernel
theorem dL_law_881 : decode cL_law 881 = .ok (.iconst 3, 1) := by decide +kernel
theorem dL_law_882 : decode cL_law 882 = .ok (.iadd, 1) := by decide +kernel
theorem dL_law_883 : decode cL_law 883 = .ok (.iaload, 1) := by decide +kernel
theorem dL_law_884 : decode cL_law 884 = .ok (.invokevirtual 101, 3) := by decide +kernel
theorem dL_law_887 : decode cL_law 887 = .ok (.aload_n 2, 1) := by decide +kernel
theorem dL_law_888 : decode cL_law 888 = .ok (.aload_n 0, 1) := by decide +kernel
theorem dL_law_889 : decode cL_law 889 = .ok (.iload_n 3, 1) := by decide +kernel
theorem dL_law_890 : decode cL_law 890 = .ok (.iconst 1, 1) := by decide +kernel
theorem dL_law_891 : decode cL_law 891 = .ok (.iadd, 1) := by decide +kernel
theorem dL_law_892 : decode cL_law 892 = .ok (.iaload, 1) := by decide +kernel
theorem dL_law_893 : decode cL_law 893 = .ok (.aload_n 0, 1) := by decide +kernel
theorem dL_law_894 : decode cL_law 894 = .ok (.iload_n 3, 1) := by decide +kernel
theorem dL_law_895 : decode cL_law 895 = .ok (.iconst 2, 1) := by decide +kernel
theorem dL_law_896 : decode cL_law 896 = .ok (.iadd, 1) := by decide +kernel
theorem dL_law_897 : decode cL_law 897 = .ok (.iaload, 1) := by decide +kernel
theorem dL_law_898 : decode cL_law 898 = .ok (.aload_n 0, 1) := by decide +kernel
theorem dL_law_899 : decode cL_law 899 = .ok (.iload_n 3, 1) := by decide +kernel
theorem dL_law_900 : decode cL_law 900 = .ok (.iconst 3, 1) := by decide +kernel
theorem dL_law_901 : decode cL_law 901 = .ok (.iadd, 1) := by decide +kernel
theorem dL_law_902 : decode cL_law 902 = .ok (.iaload, 1) := by decide +kernel
theorem dL_law_903 : decode cL_law 903 = .ok (.invokevirtual 104, 3) := by decide +kernel
theorem dL_law_906 : decode cL_law 906 = .ok (.if_icmp .eq 560, 3) := by decide +kernel
theorem dL_law_909 : decode cL_law 909 = .ok (.iconst 0, 1) := by decide +kernel
theorem dL_law_910 : decode cL_law 910 = .ok (.ireturn, 1) := by decide +kernel
theorem dL_law_911 : decode cL_law 911 = .ok (.aload_n 1, 1) := by decide +kernel
theorem dL_law_912 : decode cL_law 912 = .ok (.invokevirtual 105, 3) := by decide +kernel
theorem dL_law_915 : decode cL_law 915 = .ok (.aload_n 2, 1) := by decide +kernel
theorem dL_law_916 : decode cL_law 916 = .ok (.invokevirtual 108, 3) := by decide +kernel
theorem dL_law_919 : decode cL_law 919 = .ok (.if_icmp .eq 547, 3) := by decide +kernel
theorem dL_law_922 : decode cL_law 922 = .ok (.iconst 0, 1) := by decide +kernel
theorem dL_law_923 : decode cL_law 923 = .ok (.ireturn, 1) := by decide +kernel
theorem dL_law_924 : decode cL_law 924 = .ok (.aload_n 1, 1) := by decide +kernel
theorem dL_law_925 : decode cL_law 925 = .ok (.invokevirtual 109, 3) := by decide +kernel
theorem dL_law_928 : decode cL_law 928 = .ok (.aload_n 2, 1) := by decide +kernel
theorem dL_law_929 : decode cL_law 929 = .ok (.invokevirtual 112, 3) := by decide +kernel
theorem dL_law_932 : decode cL_law 932 = .ok (.if_icmp .eq 534, 3) := by decide +kernel
theorem dL_law_935 : decode cL_law 935 = .ok (.iconst 0, 1) := by decide +kernel
theorem dL_law_936 : decode cL_law 936 = .ok (.ireturn, 1) := by decide +kernel
theorem dL_law_937 : decode cL_law 937 = .ok (.aload_n 1, 1) := by decide +kernel
theorem dL_law_938 : decode cL_law 938 = .ok (.aload_n 0, 1) := by decide +kernel
theorem dL_law_939 : decode cL_law 939 = .ok (.iload_n 3, 1) := by decide +kernel
theorem dL_law_940 : decode cL_law 940 = .ok (.iconst 1, 1) := by decide +kernel
theorem dL_law_941 : decode cL_law 941 = .ok (.iadd, 1) := by decide +kernel
theorem dL_law_942 : decode cL_law 942 = .ok (.iaload, 1) := by decide +kernel
theorem dL_law_943 : decode cL_law 943 = .ok (.aload_n 0, 1) := by decide +kernel
theorem dL_law_944 : decode cL_law 944 = .ok (.iload_n 3, 1) := by decide +kernel
theorem dL_law_945 : decode cL_law 945 = .ok (.iconst 2, 1) := by decide +kernel
theorem dL_law_946 : decode cL_law 946 = .ok (.iadd, 1) := by decide +kernel
theorem dL_law_947 : decode cL_law 947 = .ok (.iaload, 1) := by decide +kernel
theorem dL_law_948 : decode cL_law 948 = .ok (.invokevirtual 113, 3) := by decide +kernel
theorem dL_law_951 : decode cL_law 951 = .ok (.aload_n 2, 1) := by decide +kernel
theorem dL_law_952 : decode cL_law 952 = .ok (.aload_n 0, 1) := by decide +kernel
theorem dL_law_953 : decode cL_law 953 = .ok (.iload_n 3, 1) := by decide +kernel
theorem dL_law_954 : decode cL_law 954 = .ok (.iconst 1, 1) := by decide +kernel
theorem dL_law_955 : decode cL_law 955 = .ok (.iadd, 1) := by decide +kernel
theorem dL_law_956 : decode cL_law 956 = .ok (.iaload, 1) := by decide +kernel
theorem dL_law_957 : decode cL_law 957 = .ok (.aload_n 0, 1) := by decide +kernel
theorem dL_law_958 : decode cL_law 958 = .ok (.iload_n 3, 1) := by decide +kernel
theorem dL_law_959 : decode cL_law 959 = .ok (.iconst 2, 1) := by decide +kernel
theorem dL_law_960 : decode cL_law 960 = .ok (.iadd, 1) := by decide +kernel
theorem dL_law_961 : decode cL_law 961 = .ok (.iaload, 1) := by decide +kernel
theorem dL_law_962 : decode cL_law 962 = .ok (.invokevirtual 116, 3) := by decide +kernel
theorem dL_law_965 : decode cL_law 965 = .ok (.if_icmp .eq 501, 3) := by decide +kernel
theorem dL_law_968 : decode cL_law 968 = .ok (.iconst 0, 1) := by decide +kernel
theorem dL_law_969 : decode cL_law 969 = .ok (.ireturn, 1) := by decide +kernel
theorem dL_law_970 : decode cL_law 970 = .ok (.aload_n 1, 1) := by decide +kernel
theorem dL_law_971 : decode cL_law 971 = .ok (.invokevirtual 117, 3) := by decide +kernel
theorem dL_law_974 : decode cL_law 974 = .ok (.aload_n 2, 1) := by decide +kernel
theorem dL_law_975 : decode cL_law 975 = .ok (.invokevirtual 120, 3) := by decide +kernel
theorem dL_law_978 : decode cL_law 978 = .ok (.if_icmp .eq 488, 3) := by decide +kernel
theorem dL_law_981 : decode cL_law 981 = .ok (.iconst 0, 1) := by decide +kernel
theorem dL_law_982 : decode cL_law 982 = .ok (.ireturn, 1) := by decide +kernel
theorem dL_law_983 : decode cL_law 983 = .ok (.aload_n 1, 1) := by decide +kernel
theorem dL_law_984 : decode cL_law 984 = .ok (.aload_n 0, 1) := by decide +kernel
theorem dL_law_985 : decode cL_law 985 = .ok (.iload_n 3, 1) := by decide +kernel
theorem dL_law_986 : decode cL_law 986 = .ok (.iconst 1, 1) := by decide +kernel
theorem dL_law_987 : decode cL_law 987 = .ok (.iadd, 1) := by decide +kernel
theorem dL_law_988 : decode cL_law 988 = .ok (.iaload, 1) := by decide +kernel
theorem dL_law_989 : decode cL_law 989 = .ok (.invokevirtual 121, 3) := by decide +kernel
theorem dL_law_992 : decode cL_law 992 = .ok (.aload_n 2, 1) := by decide +kernel
theorem dL_law_993 : decode cL_law 993 = .ok (.aload_n 0, 1) := by decide +kernel
theorem dL_law_994 : decode cL_law 994 = .ok (.iload_n 3, 1) := by decide +kernel
theorem dL_law_995 : decode cL_law 995 = .ok (.iconst 1, 1) := by decide +kernel
theorem dL_law_996 : decode cL_law 996 = .ok (.iadd, 1) := by decide +kernel
theorem dL_law_997 : decode cL_law 997 = .ok (.iaload, 1) := by decide +kernel
theorem dL_law_998 : decode cL_law 998 = .ok (.invokevirtual 124, 3) := by decide +kernel
theorem dL_law_1001 : decode cL_law 1001 = .ok (.if_icmp .eq 465, 3) := by decide +kernel
theorem dL_law_1004 : decode cL_law 1004 = .ok (.iconst 0, 1) := by decide +kernel
theorem dL_law_1005 : decode cL_law 1005 = .ok (.ireturn, 1) := by decide +kernel
theorem dL_law_1006 : decode cL_law 1006 = .ok (.aload_n 1, 1) := by decide +kernel
theorem dL_law_1007 : decode cL_law 1007 = .ok (.aload_n 0, 1) := by decide +kernel
theorem dL_law_1008 : decode cL_law 1008 = .ok (.iload_n 3, 1) := by decide +kernel
theorem dL_law_1009 : decode cL_law 1009 = .ok (.iconst 1, 1) := by decide +kernel
theorem dL_law_1010 : decode cL_law 1010 = .ok (.iadd, 1) := by decide +kernel
theorem dL_law_1011 : decode cL_law 1011 = .ok (.iaload, 1) := by decide +kernel
theorem dL_law_1012 : decode cL_law 1012 = .ok (.aload_n 0, 1) := by decide +kernel
theorem dL_law_1013 : decode cL_law 1013 = .ok (.iload_n 3, 1) := by decide +kernel
theorem dL_law_1014 : decode cL_law 1014 = .ok (.iconst 2, 1) := by decide +kernel
theorem dL_law_1015 : decode cL_law 1015 = .ok (.iadd, 1) := by decide +kernel
theorem dL_law_1016 : decode cL_law 1016 = .ok (.iaload, 1) := by decide +kernel
theorem dL_law_1017 : decode cL_law 1017 = .ok (.aload_n 0, 1) := by decide +kernel
theorem dL_law_1018 : decode cL_law 1018 = .ok (.iload_n 3, 1) := by decide +kernel
theorem dL_law_1019 : decode cL_law 1019 = .ok (.iconst 3, 1) := by decide +kernel
theorem dL_law_1020 : decode cL_law 1020 = .ok (.iadd, 1) := by decide +kernel
theorem dL_law_1021 : decode cL_law 1021 = .ok (.iaload, 1) := by decide +kernel
theorem dL_law_1022 : decode cL_law 1022 = .ok (.invokevirtual 125, 3) := by decide +kernel
theorem dL_law_1025 : decode cL_law 1025 = .ok (.aload_n 2, 1) := by decide +kernel
theorem dL_law_1026 : decode cL_law 1026 = .ok (.aload_n 0, 1) := by decide +kernel
theorem dL_law_1027 : decode cL_law 1027 = .ok (.iload_n 3, 1) := by decide +kernel
theorem dL_law_1028 : decode cL_law 1028 = .ok (.iconst 1, 1) := by decide +kernel
theorem dL_law_1029 : decode cL_law 1029 = .ok (.iadd, 1) := by decide +kernel
theorem dL_law_1030 : decode cL_law 1030 = .ok (.iaload, 1) := by decide +kernel
theorem dL_law_1031 : decode cL_law 1031 = .ok (.aload_n 0, 1) := by decide +kernel
theorem dL_law_1032 : decode cL_law 1032 = .ok (.iload_n 3, 1) := by decide +kernel
theorem dL_law_1033 : decode cL_law 1033 = .ok (.iconst 2, 1) := by decide +kernel
theorem dL_law_1034 : decode cL_law 1034 = .ok (.iadd, 1) := by decide +kernel
theorem dL_law_1035 : decode cL_law 1035 = .ok (.iaload, 1) := by decide +kernel
theorem dL_law_1036 : decode cL_law 1036 = .ok (.aload_n 0, 1) := by decide +kernel
theorem dL_law_1037 : decode cL_law 1037 = .ok (.iload_n 3, 1) := by decide +kernel
theorem dL_law_1038 : decode cL_law 1038 = .ok (.iconst 3, 1) := by decide +kernel
theorem dL_law_1039 : decode cL_law 1039 = .ok (.iadd, 1) := by decide +kernel
theorem dL_law_1040 : decode cL_law 1040 = .ok (.iaload, 1) := by decide +kernel
theorem dL_law_1041 : decode cL_law 1041 = .ok (.invokevirtual 129, 3) := by decide +kernel
theorem dL_law_1044 : decode cL_law 1044 = .ok (.if_icmp .eq 422, 3) := by decide +kernel
theorem dL_law_1047 : decode cL_law 1047 = .ok (.iconst 0, 1) := by decide +kernel
theorem dL_law_1048 : decode cL_law 1048 = .ok (.ireturn, 1) := by decide +kernel
theorem dL_law_1049 : decode cL_law 1049 = .ok (.aload_n 1, 1) := by decide +kernel
theorem dL_law_1050 : decode cL_law 1050 = .ok (.aload_n 0, 1) := by decide +kernel
theorem dL_law_1051 : decode cL_law 1051 = .ok (.iload_n 3, 1) := by decide +kernel
theorem dL_law_1052 : decode cL_law 1052 = .ok (.iconst 1, 1) := by decide +kernel
theorem dL_law_1053 : decode cL_law 1053 = .ok (.iadd, 1) := by decide +kernel
theorem dL_law_1054 : decode cL_law 1054 = .ok (.iaload, 1) := by decide +kernel
theorem dL_law_1055 : decode cL_law 1055 = .ok (.invokevirtual 130, 3) := by decide +kernel
theorem dL_law_1058 : decode cL_law 1058 = .ok (.aload_n 2, 1) := by decide +kernel
theorem dL_law_1059 : decode cL_law 1059 = .ok (.aload_n 0, 1) := by decide +kernel
theorem dL_law_1060 : decode cL_law 1060 = .ok (.iload_n 3, 1) := by decide +kernel
theorem dL_law_1061 : decode cL_law 1061 = .ok (.iconst 1, 1) := by decide +kernel
theorem dL_law_1062 : decode cL_law 1062 = .ok (.iadd, 1) := by decide +kernel
theorem dL_law_1063 : decode cL_law 1063 = .ok (.iaload, 1) := by decide +kernel
theorem dL_law_1064 : decode cL_law 1064 = .ok (.invokevirtual 133, 3) := by decide +kernel
theorem dL_law_1067 : decode cL_law 1067 = .ok (.if_icmp .eq 399, 3) := by decide +kernel
theorem dL_law_1070 : decode cL_law 1070 = .ok (.iconst 0, 1) := by decide +kernel
theorem dL_law_1071 : decode cL_law 1071 = .ok (.ireturn, 1) := by decide +kernel
theorem dL_law_1072 : decode cL_law 1072 = .ok (.aload_n 1, 1) := by decide +kernel
theorem dL_law_1073 : decode cL_law 1073 = .ok (.aload_n 0, 1) := by decide +kernel
theorem dL_law_1074 : decode cL_law 1074 = .ok (.iload_n 3, 1) := by decide +kernel
theorem dL_law_1075 : decode cL_law 1075 = .ok (.iconst 1, 1) := by decide +kernel
theorem dL_law_1076 : decode cL_law 1076 = .ok (.iadd, 1) := by decide +kernel
theorem dL_law_1077 : decode cL_law 1077 = .ok (.iaload, 1) := by decide +kernel
theorem dL_law_1078 : decode cL_law 1078 = .ok (.invokevirtual 134, 3) := by decide +kernel
theorem dL_law_1081 : decode cL_law 1081 = .ok (.aload_n 2, 1) := by decide +kernel
theorem dL_law_1082 : decode cL_law 1082 = .ok (.aload_n 0, 1) := by decide +kernel
theorem dL_law_1083 : decode cL_law 1083 = .ok (.iload_n 3, 1) := by decide +kernel
theorem dL_law_1084 : decode cL_law 1084 = .ok (.iconst 1, 1) := by decide +kernel
theorem dL_law_1085 : decode cL_law 1085 = .ok (.iadd, 1) := by decide +kernel
theorem dL_law_1086 : decode cL_law 1086 = .ok (.iaload, 1) := by decide +kernel
theorem dL_law_1087 : decode cL_law 1087 = .ok (.invokevirtual 138, 3) := by decide +kernel
theorem dL_law_1090 : decode cL_law 1090 = .ok (.if_icmp .eq 376, 3) := by decide +kernel
theorem dL_law_1093 : decode cL_law 1093 = .ok (.iconst 0, 1) := by decide +kernel
theorem dL_law_1094 : decode cL_law 1094 = .ok (.ireturn, 1) := by decide +kernel
theorem dL_law_1095 : decode cL_law 1095 = .ok (.aload_n 1, 1) := by decide +kernel
theorem dL_law_1096 : decode cL_law 1096 = .ok (.aload_n 0, 1) := by decide +kernel
theorem dL_law_1097 : decode cL_law 1097 = .ok (.iload_n 3, 1) := by decide +kernel
theorem dL_law_1098 : decode cL_law 1098 = .ok (.iconst 1, 1) := by decide +kernel
theorem dL_law_1099 : decode cL_law 1099 = .ok (.iadd, 1) := by decide +kernel
theorem dL_law_1100 : decode cL_law 1100 = .ok (.iaload, 1) := by decide +kernel
theorem dL_law_1101 : decode cL_law 1101 = .ok (.aload_n 0, 1) := by decide +kernel
theorem dL_law_1102 : decode cL_law 1102 = .ok (.iload_n 3, 1) := by decide +kernel
theorem dL_law_1103 : decode cL_law 1103 = .ok (.iconst 2, 1) := by decide +kernel
theorem dL_law_1104 : decode cL_law 1104 = .ok (.iadd, 1) := by decide +kernel
theorem dL_law_1105 : decode cL_law 1105 = .ok (.iaload, 1) := by decide +kernel
theorem dL_law_1106 : decode cL_law 1106 = .ok (.invokevirtual 139, 3) := by decide +kernel
theorem dL_law_1109 : decode cL_law 1109 = .ok (.aload_n 2, 1) := by decide +kernel
theorem dL_law_1110 : decode cL_law 1110 = .ok (.aload_n 0, 1) := by decide +kernel
theorem dL_law_1111 : decode cL_law 1111 = .ok (.iload_n 3, 1) := by decide +kernel
theorem dL_law_1112 : decode cL_law 1112 = .ok (.iconst 1, 1) := by decide +kernel
theorem dL_law_1113 : decode cL_law 1113 = .ok (.iadd, 1) := by decide +kernel
theorem dL_law_1114 : decode cL_law 1114 = .ok (.iaload, 1) := by decide +kernel
theorem dL_law_1115 : decode cL_law 1115 = .ok (.aload_n 0, 1) := by decide +kernel
theorem dL_law_1116 : decode cL_law 1116 = .ok (.iload_n 3, 1) := by decide +kernel
theorem dL_law_1117 : decode cL_law 1117 = .ok (.iconst 2, 1) := by decide +kernel
theorem dL_law_1118 : decode cL_law 1118 = .ok (.iadd, 1) := by decide +kernel
theorem dL_law_1119 : decode cL_law 1119 = .ok (.iaload, 1) := by decide +kernel
theorem dL_law_1120 : decode cL_law 1120 = .ok (.invokevirtual 143, 3) := by decide +kernel
theorem dL_law_1123 : decode cL_law 1123 = .ok (.if_icmp .eq 343, 3) := by decide +kernel
theorem dL_law_1126 : decode cL_law 1126 = .ok (.iconst 0, 1) := by decide +kernel
theorem dL_law_1127 : decode cL_law 1127 = .ok (.ireturn, 1) := by decide +kernel
theorem dL_law_1128 : decode cL_law 1128 = .ok (.aload_n 1, 1) := by decide +kernel
theorem dL_law_1129 : decode cL_law 1129 = .ok (.aload_n 0, 1) := by decide +kernel
theorem dL_law_1130 : decode cL_law 1130 = .ok (.iload_n 3, 1) := by decide +kernel
theorem dL_law_1131 : decode cL_law 1131 = .ok (.iconst 1, 1) := by decide +kernel
theorem dL_law_1132 : decode cL_law 1132 = .ok (.iadd, 1) := by decide +kernel
theorem dL_law_1133 : decode cL_law 1133 = .ok (.iaload, 1) := by decide +kernel
theorem dL_law_1134 : decode cL_law 1134 = .ok (.invokevirtual 144, 3) := by decide +kernel
theorem dL_law_1137 : decode cL_law 1137 = .ok (.aload_n 2, 1) := by decide +kernel
theorem dL_law_1138 : decode cL_law 1138 = .ok (.aload_n 0, 1) := by decide +kernel
theorem dL_law_1139 : decode cL_law 1139 = .ok (.iload_n 3, 1) := by decide +kernel
theorem dL_law_1140 : decode cL_law 1140 = .ok (.iconst 1, 1) := by decide +kernel
theorem dL_law_1141 : decode cL_law 1141 = .ok (.iadd, 1) := by decide +kernel
theorem dL_law_1142 : decode cL_law 1142 = .ok (.iaload, 1) := by decide +kernel
theorem dL_law_1143 : decode cL_law 1143 = .ok (.invokevirtual 147, 3) := by decide +kernel
theorem dL_law_1146 : decode cL_law 1146 = .ok (.if_icmp .eq 320, 3) := by decide +kernel
theorem dL_law_1149 : decode cL_law 1149 = .ok (.iconst 0, 1) := by decide +kernel
theorem dL_law_1150 : decode cL_law 1150 = .ok (.ireturn, 1) := by decide +kernel
theorem dL_law_1151 : decode cL_law 1151 = .ok (.aload_n 1, 1) := by decide +kernel
theorem dL_law_1152 : decode cL_law 1152 = .ok (.aload_n 0, 1) := by decide +kernel
theorem dL_law_1153 : decode cL_law 1153 = .ok (.iload_n 3, 1) := by decide +kernel
theorem dL_law_1154 : decode cL_law 1154 = .ok (.iconst 1, 1) := by decide +kernel
theorem dL_law_1155 : decode cL_law 1155 = .ok (.iadd, 1) := by decide +kernel
theorem dL_law_1156 : decode cL_law 1156 = .ok (.iaload, 1) := by decide +kernel
theorem dL_law_1157 : decode cL_law 1157 = .ok (.invokevirtual 148, 3) := by decide +kernel
theorem dL_law_1160 : decode cL_law 1160 = .ok (.aload_n 2, 1) := by decide +kernel
theorem dL_law_1161 : decode cL_law 1161 = .ok (.aload_n 0, 1) := by decide +kernel
theorem dL_law_1162 : decode cL_law 1162 = .ok (.iload_n 3, 1) := by decide +kernel
theorem dL_law_1163 : decode cL_law 1163 = .ok (.iconst 1, 1) := by decide +kernel
theorem dL_law_1164 : decode cL_law 1164 = .ok (.iadd, 1) := by decide +kernel
theorem dL_law_1165 : decode cL_law 1165 = .ok (.iaload, 1) := by decide +kernel
theorem dL_law_1166 : decode cL_law 1166 = .ok (.invokevirtual 151, 3) := by decide +kernel
theorem dL_law_1169 : decode cL_law 1169 = .ok (.if_icmp .eq 297, 3) := by decide +kernel
theorem dL_law_1172 : decode cL_law 1172 = .ok (.iconst 0, 1) := by decide +kernel
theorem dL_law_1173 : decode cL_law 1173 = .ok (.ireturn, 1) := by decide +kernel
theorem dL_law_1174 : decode cL_law 1174 = .ok (.aload_n 1, 1) := by decide +kernel
theorem dL_law_1175 : decode cL_law 1175 = .ok (.invokevirtual 152, 3) := by decide +kernel
theorem dL_law_1178 : decode cL_law 1178 = .ok (.aload_n 2, 1) := by decide +kernel
theorem dL_law_1179 : decode cL_law 1179 = .ok (.invokevirtual 155, 3) := by decide +kernel
theorem dL_law_1182 : decode cL_law 1182 = .ok (.if_icmp .eq 284, 3) := by decide +kernel
theorem dL_law_1185 : decode cL_law 1185 = .ok (.iconst 0, 1) := by decide +kernel
theorem dL_law_1186 : decode cL_law 1186 = .ok (.ireturn, 1) := by decide +kernel
theorem dL_law_1187 : decode cL_law 1187 = .ok (.aload_n 1, 1) := by decide +kernel
theorem dL_law_1188 : decode cL_law 1188 = .ok (.aload_n 0, 1) := by decide +kernel
theorem dL_law_1189 : decode cL_law 1189 = .ok (.iload_n 3, 1) := by decide +kernel
theorem dL_law_1190 : decode cL_law 1190 = .ok (.iconst 1, 1) := by decide +kernel
theorem dL_law_1191 : decode cL_law 1191 = .ok (.iadd, 1) := by decide +kernel
theorem dL_law_1192 : decode cL_law 1192 = .ok (.iaload, 1) := by decide +kernel
theorem dL_law_1193 : decode cL_law 1193 = .ok (.aload_n 0, 1) := by decide +kernel
theorem dL_law_1194 : decode cL_law 1194 = .ok (.iload_n 3, 1) := by decide +kernel
theorem dL_law_1195 : decode cL_law 1195 = .ok (.iconst 2, 1) := by decide +kernel
theorem dL_law_1196 : decode cL_law 1196 = .ok (.iadd, 1) := by decide +kernel
theorem dL_law_1197 : decode cL_law 1197 = .ok (.iaload, 1) := by decide +kernel
theorem dL_law_1198 : decode cL_law 1198 = .ok (.invokevirtual 156, 3) := by decide +kernel
theorem dL_law_1201 : decode cL_law 1201 = .ok (.aload_n 2, 1) := by decide +kernel
theorem dL_law_1202 : decode cL_law 1202 = .ok (.aload_n 0, 1) := by decide +kernel
theorem dL_law_1203 : decode cL_law 1203 = .ok (.iload_n 3, 1) := by decide +kernel
theorem dL_law_1204 : decode cL_law 1204 = .ok (.iconst 1, 1) := by decide +kernel
theorem dL_law_1205 : decode cL_law 1205 = .ok (.iadd, 1) := by decide +kernel
theorem dL_law_1206 : decode cL_law 1206 = .ok (.iaload, 1) := by decide +kernel
theorem dL_law_1207 : decode cL_law 1207 = .ok (.aload_n 0, 1) := by decide +kernel
theorem dL_law_1208 : decode cL_law 1208 = .ok (.iload_n 3, 1) := by decide +kernel
theorem dL_law_1209 : decode cL_law 1209 = .ok (.iconst 2, 1) := by decide +kernel
theorem dL_law_1210 : decode cL_law 1210 = .ok (.iadd, 1) := by decide +kernel
theorem dL_law_1211 : decode cL_law 1211 = .ok (.iaload, 1) := by decide +kernel
theorem dL_law_1212 : decode cL_law 1212 = .ok (.invokevirtual 159, 3) := by decide +kernel
theorem dL_law_1215 : decode cL_law 1215 = .ok (.if_icmp .eq 251, 3) := by decide +kernel
theorem dL_law_1218 : decode cL_law 1218 = .ok (.iconst 0, 1) := by decide +kernel
theorem dL_law_1219 : decode cL_law 1219 = .ok (.ireturn, 1) := by decide +kernel
theorem dL_law_1220 : decode cL_law 1220 = .ok (.aload_n 1, 1) := by decide +kernel
theorem dL_law_1221 : decode cL_law 1221 = .ok (.aload_n 0, 1) := by decide +kernel
theorem dL_law_1222 : decode cL_law 1222 = .ok (.iload_n 3, 1) := by decide +kernel
theorem dL_law_1223 : decode cL_law 1223 = .ok (.iconst 1, 1) := by decide +kernel
theorem dL_law_1224 : decode cL_law 1224 = .ok (.iadd, 1) := by decide +kernel
theorem dL_law_1225 : decode cL_law 1225 = .ok (.iaload, 1) := by decide +kernel
theorem dL_law_1226 : decode cL_law 1226 = .ok (.invokevirtual 160, 3) := by decide +kernel
theorem dL_law_1229 : decode cL_law 1229 = .ok (.aload_n 2, 1) := by decide +kernel
theorem dL_law_1230 : decode cL_law 1230 = .ok (.aload_n 0, 1) := by decide +kernel
theorem dL_law_1231 : decode cL_law 1231 = .ok (.iload_n 3, 1) := by decide +kernel
theorem dL_law_1232 : decode cL_law 1232 = .ok (.iconst 1, 1) := by decide +kernel
theorem dL_law_1233 : decode cL_law 1233 = .ok (.iadd, 1) := by decide +kernel
theorem dL_law_1234 : decode cL_law 1234 = .ok (.iaload, 1) := by decide +kernel
theorem dL_law_1235 : decode cL_law 1235 = .ok (.invokevirtual 163, 3) := by decide +kernel
theorem dL_law_1238 : decode cL_law 1238 = .ok (.if_icmp .eq 228, 3) := by decide +kernel
theorem dL_law_1241 : decode cL_law 1241 = .ok (.iconst 0, 1) := by decide +kernel
theorem dL_law_1242 : decode cL_law 1242 = .ok (.ireturn, 1) := by decide +kernel
theorem dL_law_1243 : decode cL_law 1243 = .ok (.aload_n 1, 1) := by decide +kernel
theorem dL_law_1244 : decode cL_law 1244 = .ok (.aload_n 0, 1) := by decide +kernel
theorem dL_law_1245 : decode cL_law 1245 = .ok (.iload_n 3, 1) := by decide +kernel
theorem dL_law_1246 : decode cL_law 1246 = .ok (.iconst 1, 1) := by decide +kernel
theorem dL_law_1247 : decode cL_law 1247 = .ok (.iadd, 1) := by decide +kernel
theorem dL_law_1248 : decode cL_law 1248 = .ok (.iaload, 1) := by decide +kernel
theorem dL_law_1249 : decode cL_law 1249 = .ok (.aload_n 0, 1) := by decide +kernel
theorem dL_law_1250 : decode cL_law 1250 = .ok (.iload_n 3, 1) := by decide +kernel
theorem dL_law_1251 : decode cL_law 1251 = .ok (.iconst 2, 1) := by decide +kernel
theorem dL_law_1252 : decode cL_law 1252 = .ok (.iadd, 1) := by decide +kernel
theorem dL_law_1253 : decode cL_law 1253 = .ok (.iaload, 1) := by decide +kernel
theorem dL_law_1254 : decode cL_law 1254 = .ok (.invokevirtual 164, 3) := by decide +kernel
theorem dL_law_1257 : decode cL_law 1257 = .ok (.aload_n 2, 1) := by decide +kernel
theorem dL_law_1258 : decode cL_law 1258 = .ok (.aload_n 0, 1) := by decide +kernel
theorem dL_law_1259 : decode cL_law 1259 = .ok (.iload_n 3, 1) := by decide +kernel
theorem dL_law_1260 : decode cL_law 1260 = .ok (.iconst 1, 1) := by decide +kernel
theorem dL_law_1261 : decode cL_law 1261 = .ok (.iadd, 1) := by decide +kernel
theorem dL_law_1262 : decode cL_law 1262 = .ok (.iaload, 1) := by decide +kernel
theorem dL_law_1263 : decode cL_law 1263 = .ok (.aload_n 0, 1) := by decide +kernel
theorem dL_law_1264 : decode cL_law 1264 = .ok (.iload_n 3, 1) := by decide +kernel
theorem dL_law_1265 : decode cL_law 1265 = .ok (.iconst 2, 1) := by decide +kernel
theorem dL_law_1266 : decode cL_law 1266 = .ok (.iadd, 1) := by decide +kernel
theorem dL_law_1267 : decode cL_law 1267 = .ok (.iaload, 1) := by decide +kernel
theorem dL_law_1268 : decode cL_law 1268 = .ok (.invokevirtual 167, 3) := by decide +kernel
theorem dL_law_1271 : decode cL_law 1271 = .ok (.if_icmp .eq 195, 3) := by decide +kernel
theorem dL_law_1274 : decode cL_law 1274 = .ok (.iconst 0, 1) := by decide +kernel
theorem dL_law_1275 : decode cL_law 1275 = .ok (.ireturn, 1) := by decide +kernel
theorem dL_law_1276 : decode cL_law 1276 = .ok (.aload_n 1, 1) := by decide +kernel
theorem dL_law_1277 : decode cL_law 1277 = .ok (.aload_n 0, 1) := by decide +kernel
theorem dL_law_1278 : decode cL_law 1278 = .ok (.iload_n 3, 1) := by decide +kernel
theorem dL_law_1279 : decode cL_law 1279 = .ok (.iconst 1, 1) := by decide +kernel
theorem dL_law_1280 : decode cL_law 1280 = .ok (.iadd, 1) := by decide +kernel
theorem dL_law_1281 : decode cL_law 1281 = .ok (.iaload, 1) := by decide +kernel
theorem dL_law_1282 : decode cL_law 1282 = .ok (.invokevirtual 168, 3) := by decide +kernel
theorem dL_law_1285 : decode cL_law 1285 = .ok (.aload_n 2, 1) := by decide +kernel
theorem dL_law_1286 : decode cL_law 1286 = .ok (.aload_n 0, 1) := by decide +kernel
theorem dL_law_1287 : decode cL_law 1287 = .ok (.iload_n 3, 1) := by decide +kernel
theorem dL_law_1288 : decode cL_law 1288 = .ok (.iconst 1, 1) := by decide +kernel
theorem dL_law_1289 : decode cL_law 1289 = .ok (.iadd, 1) := by decide +kernel
theorem dL_law_1290 : decode cL_law 1290 = .ok (.iaload, 1) := by decide +kernel
theorem dL_law_1291 : decode cL_law 1291 = .ok (.invokevirtual 171, 3) := by decide +kernel
theorem dL_law_1294 : decode cL_law 1294 = .ok (.if_icmp .eq 172, 3) := by decide +kernel
theorem dL_law_1297 : decode cL_law 1297 = .ok (.iconst 0, 1) := by decide +kernel
theorem dL_law_1298 : decode cL_law 1298 = .ok (.ireturn, 1) := by decide +kernel
theorem dL_law_1299 : decode cL_law 1299 = .ok (.aload_n 1, 1) := by decide +kernel
theorem dL_law_1300 : decode cL_law 1300 = .ok (.invokevirtual 172, 3) := by decide +kernel
theorem dL_law_1303 : decode cL_law 1303 = .ok (.aload_n 2, 1) := by decide +kernel
theorem dL_law_1304 : decode cL_law 1304 = .ok (.invokevirtual 175, 3) := by decide +kernel
theorem dL_law_1307 : decode cL_law 1307 = .ok (.if_icmp .eq 159, 3) := by decide +kernel
theorem dL_law_1310 : decode cL_law 1310 = .ok (.iconst 0, 1) := by decide +kernel
theorem dL_law_1311 : decode cL_law 1311 = .ok (.ireturn, 1) := by decide +kernel
theorem dL_law_1312 : decode cL_law 1312 = .ok (.aload_n 1, 1) := by decide +kernel
theorem dL_law_1313 : decode cL_law 1313 = .ok (.invokevirtual 176, 3) := by decide +kernel
theorem dL_law_1316 : decode cL_law 1316 = .ok (.aload_n 2, 1) := by decide +kernel
theorem dL_law_1317 : decode cL_law 1317 = .ok (.invokevirtual 179, 3) := by decide +kernel
theorem dL_law_1320 : decode cL_law 1320 = .ok (.if_icmp .eq 146, 3) := by decide +kernel
theorem dL_law_1323 : decode cL_law 1323 = .ok (.iconst 0, 1) := by decide +kernel
theorem dL_law_1324 : decode cL_law 1324 = .ok (.ireturn, 1) := by decide +kernel
theorem dL_law_1325 : decode cL_law 1325 = .ok (.aload_n 1, 1) := by decide +kernel
theorem dL_law_1326 : decode cL_law 1326 = .ok (.invokevirtual 180, 3) := by decide +kernel
theorem dL_law_1329 : decode cL_law 1329 = .ok (.aload_n 2, 1) := by decide +kernel
theorem dL_law_1330 : decode cL_law 1330 = .ok (.invokevirtual 183, 3) := by decide +kernel
theorem dL_law_1333 : decode cL_law 1333 = .ok (.if_icmp .eq 133, 3) := by decide +kernel
theorem dL_law_1336 : decode cL_law 1336 = .ok (.iconst 0, 1) := by decide +kernel
theorem dL_law_1337 : decode cL_law 1337 = .ok (.ireturn, 1) := by decide +kernel
theorem dL_law_1338 : decode cL_law 1338 = .ok (.aload_n 1, 1) := by decide +kernel
theorem dL_law_1339 : decode cL_law 1339 = .ok (.invokevirtual 184, 3) := by decide +kernel
theorem dL_law_1342 : decode cL_law 1342 = .ok (.aload_n 2, 1) := by decide +kernel
theorem dL_law_1343 : decode cL_law 1343 = .ok (.invokevirtual 187, 3) := by decide +kernel
theorem dL_law_1346 : decode cL_law 1346 = .ok (.if_icmp .eq 120, 3) := by decide +kernel
theorem dL_law_1349 : decode cL_law 1349 = .ok (.iconst 0, 1) := by decide +kernel
theorem dL_law_1350 : decode cL_law 1350 = .ok (.ireturn, 1) := by decide +kernel
theorem dL_law_1351 : decode cL_law 1351 = .ok (.aload_n 1, 1) := by decide +kernel
theorem dL_law_1352 : decode cL_law 1352 = .ok (.aload_n 0, 1) := by decide +kernel
theorem dL_law_1353 : decode cL_law 1353 = .ok (.iload_n 3, 1) := by decide +kernel
theorem dL_law_1354 : decode cL_law 1354 = .ok (.iconst 1, 1) := by decide +kernel
theorem dL_law_1355 : decode cL_law 1355 = .ok (.iadd, 1) := by decide +kernel
theorem dL_law_1356 : decode cL_law 1356 = .ok (.iaload, 1) := by decide +kernel
theorem dL_law_1357 : decode cL_law 1357 = .ok (.invokevirtual 188, 3) := by decide +kernel
theorem dL_law_1360 : decode cL_law 1360 = .ok (.aload_n 2, 1) := by decide +kernel
theorem dL_law_1361 : decode cL_law 1361 = .ok (.aload_n 0, 1) := by decide +kernel
theorem dL_law_1362 : decode cL_law 1362 = .ok (.iload_n 3, 1) := by decide +kernel
theorem dL_law_1363 : decode cL_law 1363 = .ok (.iconst 1, 1) := by decide +kernel
theorem dL_law_1364 : decode cL_law 1364 = .ok (.iadd, 1) := by decide +kernel
theorem dL_law_1365 : decode cL_law 1365 = .ok (.iaload, 1) := by decide +kernel
theorem dL_law_1366 : decode cL_law 1366 = .ok (.invokevirtual 191, 3) := by decide +kernel
theorem dL_law_1369 : decode cL_law 1369 = .ok (.if_icmp .eq 97, 3) := by decide +kernel
theorem dL_law_1372 : decode cL_law 1372 = .ok (.iconst 0, 1) := by decide +kernel
theorem dL_law_1373 : decode cL_law 1373 = .ok (.ireturn, 1) := by decide +kernel
theorem dL_law_1374 : decode cL_law 1374 = .ok (.aload_n 1, 1) := by decide +kernel
theorem dL_law_1375 : decode cL_law 1375 = .ok (.aload_n 0, 1) := by decide +kernel
theorem dL_law_1376 : decode cL_law 1376 = .ok (.iload_n 3, 1) := by decide +kernel
theorem dL_law_1377 : decode cL_law 1377 = .ok (.iconst 1, 1) := by decide +kernel
theorem dL_law_1378 : decode cL_law 1378 = .ok (.iadd, 1) := by decide +kernel
theorem dL_law_1379 : decode cL_law 1379 = .ok (.iaload, 1) := by decide +kernel
theorem dL_law_1380 : decode cL_law 1380 = .ok (.invokevirtual 192, 3) := by decide +kernel
theorem dL_law_1383 : decode cL_law 1383 = .ok (.aload_n 2, 1) := by decide +kernel
theorem dL_law_1384 : decode cL_law 1384 = .ok (.aload_n 0, 1) := by decide +kernel
theorem dL_law_1385 : decode cL_law 1385 = .ok (.iload_n 3, 1) := by decide +kernel
theorem dL_law_1386 : decode cL_law 1386 = .ok (.iconst 1, 1) := by decide +kernel
theorem dL_law_1387 : decode cL_law 1387 = .ok (.iadd, 1) := by decide +kernel
theorem dL_law_1388 : decode cL_law 1388 = .ok (.iaload, 1) := by decide +kernel
theorem dL_law_1389 : decode cL_law 1389 = .ok (.invokevirtual 195, 3) := by decide +kernel
theorem dL_law_1392 : decode cL_law 1392 = .ok (.if_icmp .eq 74, 3) := by decide +kernel
theorem dL_law_1395 : decode cL_law 1395 = .ok (.iconst 0, 1) := by decide +kernel
theorem dL_law_1396 : decode cL_law 1396 = .ok (.ireturn, 1) := by decide +kernel
theorem dL_law_1397 : decode cL_law 1397 = .ok (.aload_n 1, 1) := by decide +kernel
theorem dL_law_1398 : decode cL_law 1398 = .ok (.aload_n 0, 1) := by decide +kernel
theorem dL_law_1399 : decode cL_law 1399 = .ok (.iload_n 3, 1) := by decide +kernel
theorem dL_law_1400 : decode cL_law 1400 = .ok (.iconst 1, 1) := by decide +kernel
theorem dL_law_1401 : decode cL_law 1401 = .ok (.iadd, 1) := by decide +kernel
theorem dL_law_1402 : decode cL_law 1402 = .ok (.iaload, 1) := by decide +kernel
theorem dL_law_1403 : decode cL_law 1403 = .ok (.aload_n 0, 1) := by decide +kernel
theorem dL_law_1404 : decode cL_law 1404 = .ok (.iload_n 3, 1) := by decide +kernel
theorem dL_law_1405 : decode cL_law 1405 = .ok (.iconst 2, 1) := by decide +kernel
theorem dL_law_1406 : decode cL_law 1406 = .ok (.iadd, 1) := by decide +kernel
theorem dL_law_1407 : decode cL_law 1407 = .ok (.iaload, 1) := by decide +kernel
theorem dL_law_1408 : decode cL_law 1408 = .ok (.aload_n 0, 1) := by decide +kernel
theorem dL_law_1409 : decode cL_law 1409 = .ok (.iload_n 3, 1) := by decide +kernel
theorem dL_law_1410 : decode cL_law 1410 = .ok (.iconst 3, 1) := by decide +kernel
theorem dL_law_1411 : decode cL_law 1411 = .ok (.iadd, 1) := by decide +kernel
theorem dL_law_1412 : decode cL_law 1412 = .ok (.iaload, 1) := by decide +kernel
theorem dL_law_1413 : decode cL_law 1413 = .ok (.invokevirtual 196, 3) := by decide +kernel
theorem dL_law_1416 : decode cL_law 1416 = .ok (.aload_n 2, 1) := by decide +kernel
theorem dL_law_1417 : decode cL_law 1417 = .ok (.aload_n 0, 1) := by decide +kernel
theorem dL_law_1418 : decode cL_law 1418 = .ok (.iload_n 3, 1) := by decide +kernel
theorem dL_law_1419 : decode cL_law 1419 = .ok (.iconst 1, 1) := by decide +kernel
theorem dL_law_1420 : decode cL_law 1420 = .ok (.iadd, 1) := by decide +kernel
theorem dL_law_1421 : decode cL_law 1421 = .ok (.iaload, 1) := by decide +kernel
theorem dL_law_1422 : decode cL_law 1422 = .ok (.aload_n 0, 1) := by decide +kernel
theorem dL_law_1423 : decode cL_law 1423 = .ok (.iload_n 3, 1) := by decide +kernel
theorem dL_law_1424 : decode cL_law 1424 = .ok (.iconst 2, 1) := by decide +kernel
theorem dL_law_1425 : decode cL_law 1425 = .ok (.iadd, 1) := by decide +kernel
theorem dL_law_1426 : decode cL_law 1426 = .ok (.iaload, 1) := by decide +kernel
theorem dL_law_1427 : decode cL_law 1427 = .ok (.aload_n 0, 1) := by decide +kernel
theorem dL_law_1428 : decode cL_law 1428 = .ok (.iload_n 3, 1) := by decide +kernel
theorem dL_law_1429 : decode cL_law 1429 = .ok (.iconst 3, 1) := by decide +kernel
theorem dL_law_1430 : decode cL_law 1430 = .ok (.iadd, 1) := by decide +kernel
theorem dL_law_1431 : decode cL_law 1431 = .ok (.iaload, 1) := by decide +kernel
theorem dL_law_1432 : decode cL_law 1432 = .ok (.invokevirtual 199, 3) := by decide +kernel
theorem dL_law_1435 : decode cL_law 1435 = .ok (.if_icmp .eq 31, 3) := by decide +kernel
theorem dL_law_1438 : decode cL_law 1438 = .ok (.iconst 0, 1) := by decide +kernel
theorem dL_law_1439 : decode cL_law 1439 = .ok (.ireturn, 1) := by decide +kernel
theorem dL_law_1440 : decode cL_law 1440 = .ok (.aload_n 1, 1) := by decide +kernel
theorem dL_law_1441 : decode cL_law 1441 = .ok (.invokevirtual 200, 3) := by decide +kernel
theorem dL_law_1444 : decode cL_law 1444 = .ok (.aload_n 2, 1) := by decide +kernel
theorem dL_law_1445 : decode cL_law 1445 = .ok (.invokevirtual 203, 3) := by decide +kernel
theorem dL_law_1448 : decode cL_law 1448 = .ok (.if_icmp .eq 18, 3) := by decide +kernel
theorem dL_law_1451 : decode cL_law 1451 = .ok (.iconst 0, 1) := by decide +kernel
theorem dL_law_1452 : decode cL_law 1452 = .ok (.ireturn, 1) := by decide +kernel
theorem dL_law_1453 : decode cL_law 1453 = .ok (.aload_n 1, 1) := by decide +kernel
theorem dL_law_1454 : decode cL_law 1454 = .ok (.invokevirtual 204, 3) := by decide +kernel
theorem dL_law_1457 : decode cL_law 1457 = .ok (.aload_n 2, 1) := by decide +kernel
theorem dL_law_1458 : decode cL_law 1458 = .ok (.invokevirtual 207, 3) := by decide +kernel
theorem dL_law_1461 : decode cL_law 1461 = .ok (.if_icmp .eq 5, 3) := by decide +kernel
theorem dL_law_1464 : decode cL_law 1464 = .ok (.iconst 0, 1) := by decide +kernel
theorem dL_law_1465 : decode cL_law 1465 = .ok (.ireturn, 1) := by decide +kernel
theorem dL_law_1466 : decode cL_law 1466 = .ok (.iinc 3 6, 3) := by decide +kernel
theorem dL_law_1469 : decode cL_law 1469 = .ok (.goto (-1451), 3) := by decide +kernel
theorem dL_law_1472 : decode cL_law 1472 = .ok (.iconst 1, 1) := by decide +kernel
theorem dL_law_1473 : decode cL_law 1473 = .ok (.ireturn, 1) := by decide +kernel
