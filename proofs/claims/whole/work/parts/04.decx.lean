/-! decode rows: the class -/
theorem dX0_init_0 : decode cX0_init 0 = .ok (.aload_n 0, 1) := by decide +kernel
theorem dX0_init_1 : decode cX0_init 1 = .ok (.invokespecial 1, 3) := by decide +kernel
theorem dX0_init_4 : decode cX0_init 4 = .ok (.aload_n 0, 1) := by decide +kernel
theorem dX0_init_5 : decode cX0_init 5 = .ok (.iload_n 1, 1) := by decide +kernel
theorem dX0_init_6 : decode cX0_init 6 = .ok (.putfield 7, 3) := by decide +kernel
theorem dX0_init_9 : decode cX0_init 9 = .ok (.aload_n 0, 1) := by decide +kernel
theorem dX0_init_10 : decode cX0_init 10 = .ok (.iload_n 2, 1) := by decide +kernel
theorem dX0_init_11 : decode cX0_init 11 = .ok (.putfield 13, 3) := by decide +kernel
theorem dX0_init_14 : decode cX0_init 14 = .ok (.aload_n 0, 1) := by decide +kernel
theorem dX0_init_15 : decode cX0_init 15 = .ok (.iload_n 3, 1) := by decide +kernel
theorem dX0_init_16 : decode cX0_init 16 = .ok (.putfield 16, 3) := by decide +kernel
theorem dX0_init_19 : decode cX0_init 19 = .ok (.aload_n 0, 1) := by decide +kernel
theorem dX0_init_20 : decode cX0_init 20 = .ok (.iload 4, 2) := by decide +kernel
theorem dX0_init_22 : decode cX0_init 22 = .ok (.putfield 19, 3) := by decide +kernel
theorem dX0_init_25 : decode cX0_init 25 = .ok (.aload_n 0, 1) := by decide +kernel
theorem dX0_init_26 : decode cX0_init 26 = .ok (.iload 5, 2) := by decide +kernel
theorem dX0_init_28 : decode cX0_init 28 = .ok (.putfield 22, 3) := by decide +kernel
theorem dX0_init_31 : decode cX0_init 31 = .ok (.aload_n 0, 1) := by decide +kernel
theorem dX0_init_32 : decode cX0_init 32 = .ok (.iload 6, 2) := by decide +kernel
theorem dX0_init_34 : decode cX0_init 34 = .ok (.putfield 25, 3) := by decide +kernel
theorem dX0_init_37 : decode cX0_init 37 = .ok (.return_, 1) := by decide +kernel
theorem dX1_init_0 : decode cX1_init 0 = .ok (.aload_n 0, 1) := by decide +kernel
theorem dX1_init_1 : decode cX1_init 1 = .ok (.invokespecial 3, 3) := by decide +kernel
theorem dX1_init_4 : decode cX1_init 4 = .ok (.aload_n 0, 1) := by decide +kernel
theorem dX1_init_5 : decode cX1_init 5 = .ok (.bipush 64, 2) := by decide +kernel
theorem dX1_init_7 : decode cX1_init 7 = .ok (.newarray .int, 2) := by decide +kernel
theorem dX1_init_9 : decode cX1_init 9 = .ok (.putfield 9, 3) := by decide +kernel
theorem dX1_init_12 : decode cX1_init 12 = .ok (.aload_n 0, 1) := by decide +kernel
theorem dX1_init_13 : decode cX1_init 13 = .ok (.bipush 64, 2) := by decide +kernel
theorem dX1_init_15 : decode cX1_init 15 = .ok (.newarray .int, 2) := by decide +kernel
theorem dX1_init_17 : decode cX1_init 17 = .ok (.putfield 15, 3) := by decide +kernel
theorem dX1_init_20 : decode cX1_init 20 = .ok (.aload_n 0, 1) := by decide +kernel
theorem dX1_init_21 : decode cX1_init 21 = .ok (.aload_n 1, 1) := by decide +kernel
theorem dX1_init_22 : decode cX1_init 22 = .ok (.putfield 18, 3) := by decide +kernel
theorem dX1_init_25 : decode cX1_init 25 = .ok (.return_, 1) := by decide +kernel
theorem dX1_isFull_0 : decode cX1_isFull 0 = .ok (.aload_n 0, 1) := by decide +kernel
theorem dX1_isFull_1 : decode cX1_isFull 1 = .ok (.getfield 22, 3) := by decide +kernel
theorem dX1_isFull_4 : decode cX1_isFull 4 = .ok (.bipush 64, 2) := by decide +kernel
theorem dX1_isFull_6 : decode cX1_isFull 6 = .ok (.if_icmp .lt 7, 3) := by decide +kernel
theorem dX1_isFull_9 : decode cX1_isFull 9 = .ok (.iconst 1, 1) := by decide +kernel
theorem dX1_isFull_10 : decode cX1_isFull 10 = .ok (.goto 4, 3) := by decide +kernel
theorem dX1_isFull_13 : decode cX1_isFull 13 = .ok (.iconst 0, 1) := by decide +kernel
theorem dX1_isFull_14 : decode cX1_isFull 14 = .ok (.ireturn, 1) := by decide +kernel
theorem dX1_add_0 : decode cX1_add 0 = .ok (.aload_n 0, 1) := by decide +kernel
theorem dX1_add_1 : decode cX1_add 1 = .ok (.getfield 22, 3) := by decide +kernel
theorem dX1_add_4 : decode cX1_add 4 = .ok (.ifCond .lt 42, 3) := by decide +kernel
theorem dX1_add_7 : decode cX1_add 7 = .ok (.aload_n 0, 1) := by decide +kernel
theorem dX1_add_8 : decode cX1_add 8 = .ok (.getfield 22, 3) := by decide +kernel
theorem dX1_add_11 : decode cX1_add 11 = .ok (.bipush 64, 2) := by decide +kernel
theorem dX1_add_13 : decode cX1_add 13 = .ok (.if_icmp .ge 33, 3) := by decide +kernel
theorem dX1_add_16 : decode cX1_add 16 = .ok (.aload_n 0, 1) := by decide +kernel
theorem dX1_add_17 : decode cX1_add 17 = .ok (.getfield 9, 3) := by decide +kernel
theorem dX1_add_20 : decode cX1_add 20 = .ok (.aload_n 0, 1) := by decide +kernel
theorem dX1_add_21 : decode cX1_add 21 = .ok (.getfield 22, 3) := by decide +kernel
theorem dX1_add_24 : decode cX1_add 24 = .ok (.iload_n 1, 1) := by decide +kernel
theorem dX1_add_25 : decode cX1_add 25 = .ok (.iastore, 1) := by decide +kernel
theorem dX1_add_26 : decode cX1_add 26 = .ok (.aload_n 0, 1) := by decide +kernel
theorem dX1_add_27 : decode cX1_add 27 = .ok (.getfield 15, 3) := by decide +kernel
theorem dX1_add_30 : decode cX1_add 30 = .ok (.aload_n 0, 1) := by decide +kernel
theorem dX1_add_31 : decode cX1_add 31 = .ok (.getfield 22, 3) := by decide +kernel
theorem dX1_add_34 : decode cX1_add 34 = .ok (.iload_n 2, 1) := by decide +kernel
theorem dX1_add_35 : decode cX1_add 35 = .ok (.iastore, 1) := by decide +kernel
theorem dX1_add_36 : decode cX1_add 36 = .ok (.aload_n 0, 1) := by decide +kernel
theorem dX1_add_37 : decode cX1_add 37 = .ok (.dup, 1) := by decide +kernel
theorem dX1_add_38 : decode cX1_add 38 = .ok (.getfield 22, 3) := by decide +kernel
theorem dX1_add_41 : decode cX1_add 41 = .ok (.iconst 1, 1) := by decide +kernel
theorem dX1_add_42 : decode cX1_add 42 = .ok (.iadd, 1) := by decide +kernel
theorem dX1_add_43 : decode cX1_add 43 = .ok (.putfield 22, 3) := by decide +kernel
theorem dX1_add_46 : decode cX1_add 46 = .ok (.return_, 1) := by decide +kernel
theorem dX1_hours_0 : decode cX1_hours 0 = .ok (.iconst 0, 1) := by decide +kernel
theorem dX1_hours_1 : decode cX1_hours 1 = .ok (.istore_n 1, 1) := by decide +kernel
theorem dX1_hours_2 : decode cX1_hours 2 = .ok (.iconst 0, 1) := by decide +kernel
theorem dX1_hours_3 : decode cX1_hours 3 = .ok (.istore_n 2, 1) := by decide +kernel
theorem dX1_hours_4 : decode cX1_hours 4 = .ok (.iload_n 2, 1) := by decide +kernel
theorem dX1_hours_5 : decode cX1_hours 5 = .ok (.aload_n 0, 1) := by decide +kernel
theorem dX1_hours_6 : decode cX1_hours 6 = .ok (.getfield 22, 3) := by decide +kernel
theorem dX1_hours_9 : decode cX1_hours 9 = .ok (.if_icmp .ge 31, 3) := by decide +kernel
theorem dX1_hours_12 : decode cX1_hours 12 = .ok (.iload_n 2, 1) := by decide +kernel
theorem dX1_hours_13 : decode cX1_hours 13 = .ok (.bipush 64, 2) := by decide +kernel
theorem dX1_hours_15 : decode cX1_hours 15 = .ok (.if_icmp .ge 25, 3) := by decide +kernel
theorem dX1_hours_18 : decode cX1_hours 18 = .ok (.iload_n 1, 1) := by decide +kernel
theorem dX1_hours_19 : decode cX1_hours 19 = .ok (.aload_n 0, 1) := by decide +kernel
theorem dX1_hours_20 : decode cX1_hours 20 = .ok (.getfield 15, 3) := by decide +kernel
theorem dX1_hours_23 : decode cX1_hours 23 = .ok (.iload_n 2, 1) := by decide +kernel
theorem dX1_hours_24 : decode cX1_hours 24 = .ok (.iaload, 1) := by decide +kernel
theorem dX1_hours_25 : decode cX1_hours 25 = .ok (.aload_n 0, 1) := by decide +kernel
theorem dX1_hours_26 : decode cX1_hours 26 = .ok (.getfield 9, 3) := by decide +kernel
theorem dX1_hours_29 : decode cX1_hours 29 = .ok (.iload_n 2, 1) := by decide +kernel
theorem dX1_hours_30 : decode cX1_hours 30 = .ok (.iaload, 1) := by decide +kernel
theorem dX1_hours_31 : decode cX1_hours 31 = .ok (.isub, 1) := by decide +kernel
theorem dX1_hours_32 : decode cX1_hours 32 = .ok (.iadd, 1) := by decide +kernel
theorem dX1_hours_33 : decode cX1_hours 33 = .ok (.istore_n 1, 1) := by decide +kernel
theorem dX1_hours_34 : decode cX1_hours 34 = .ok (.iinc 2 1, 3) := by decide +kernel
theorem dX1_hours_37 : decode cX1_hours 37 = .ok (.goto (-33), 3) := by decide +kernel
theorem dX1_hours_40 : decode cX1_hours 40 = .ok (.iload_n 1, 1) := by decide +kernel
theorem dX1_hours_41 : decode cX1_hours 41 = .ok (.ireturn, 1) := by decide +kernel
theorem dX2_init_0 : decode cX2_init 0 = .ok (.aload_n 0, 1) := by decide +kernel
theorem dX2_init_1 : decode cX2_init 1 = .ok (.invokespecial 3, 3) := by decide +kernel
theorem dX2_init_4 : decode cX2_init 4 = .ok (.aload_n 0, 1) := by decide +kernel
theorem dX2_init_5 : decode cX2_init 5 = .ok (.iload_n 1, 1) := by decide +kernel
theorem dX2_init_6 : decode cX2_init 6 = .ok (.putfield 9, 3) := by decide +kernel
theorem dX2_init_9 : decode cX2_init 9 = .ok (.aload_n 0, 1) := by decide +kernel
theorem dX2_init_10 : decode cX2_init 10 = .ok (.iload_n 2, 1) := by decide +kernel
theorem dX2_init_11 : decode cX2_init 11 = .ok (.putfield 15, 3) := by decide +kernel
theorem dX2_init_14 : decode cX2_init 14 = .ok (.aload_n 0, 1) := by decide +kernel
theorem dX2_init_15 : decode cX2_init 15 = .ok (.iload_n 3, 1) := by decide +kernel
theorem dX2_init_16 : decode cX2_init 16 = .ok (.putfield 18, 3) := by decide +kernel
theorem dX2_init_19 : decode cX2_init 19 = .ok (.aload_n 0, 1) := by decide +kernel
theorem dX2_init_20 : decode cX2_init 20 = .ok (.iload 4, 2) := by decide +kernel
theorem dX2_init_22 : decode cX2_init 22 = .ok (.putfield 21, 3) := by decide +kernel
theorem dX2_init_25 : decode cX2_init 25 = .ok (.aload_n 0, 1) := by decide +kernel
theorem dX2_init_26 : decode cX2_init 26 = .ok (.iload 5, 2) := by decide +kernel
theorem dX2_init_28 : decode cX2_init 28 = .ok (.putfield 24, 3) := by decide +kernel
theorem dX2_init_31 : decode cX2_init 31 = .ok (.aload_n 0, 1) := by decide +kernel
theorem dX2_init_32 : decode cX2_init 32 = .ok (.iload 6, 2) := by decide +kernel
theorem dX2_init_34 : decode cX2_init 34 = .ok (.putfield 27, 3) := by decide +kernel
theorem dX2_init_37 : decode cX2_init 37 = .ok (.aload_n 0, 1) := by decide +kernel
theorem dX2_init_38 : decode cX2_init 38 = .ok (.iload 7, 2) := by decide +kernel
theorem dX2_init_40 : decode cX2_init 40 = .ok (.putfield 30, 3) := by decide +kernel
theorem dX2_init_43 : decode cX2_init 43 = .ok (.return_, 1) := by decide +kernel
theorem dX2_isOn_0 : decode cX2_isOn 0 = .ok (.aload_n 0, 1) := by decide +kernel
theorem dX2_isOn_1 : decode cX2_isOn 1 = .ok (.getfield 34, 3) := by decide +kernel
theorem dX2_isOn_4 : decode cX2_isOn 4 = .ok (.ifnull 14, 3) := by decide +kernel
theorem dX2_isOn_7 : decode cX2_isOn 7 = .ok (.aload_n 0, 1) := by decide +kernel
theorem dX2_isOn_8 : decode cX2_isOn 8 = .ok (.getfield 38, 3) := by decide +kernel
theorem dX2_isOn_11 : decode cX2_isOn 11 = .ok (.ifCond .ne 7, 3) := by decide +kernel
theorem dX2_isOn_14 : decode cX2_isOn 14 = .ok (.iconst 1, 1) := by decide +kernel
theorem dX2_isOn_15 : decode cX2_isOn 15 = .ok (.goto 4, 3) := by decide +kernel
theorem dX2_isOn_18 : decode cX2_isOn 18 = .ok (.iconst 0, 1) := by decide +kernel
theorem dX2_isOn_19 : decode cX2_isOn 19 = .ok (.ireturn, 1) := by decide +kernel
theorem dX2_distanceTo_0 : decode cX2_distanceTo 0 = .ok (.iload_n 1, 1) := by decide +kernel
theorem dX2_distanceTo_1 : decode cX2_distanceTo 1 = .ok (.aload_n 0, 1) := by decide +kernel
theorem dX2_distanceTo_2 : decode cX2_distanceTo 2 = .ok (.getfield 15, 3) := by decide +kernel
theorem dX2_distanceTo_5 : decode cX2_distanceTo 5 = .ok (.isub, 1) := by decide +kernel
theorem dX2_distanceTo_6 : decode cX2_distanceTo 6 = .ok (.invokestatic 41, 3) := by decide +kernel
theorem dX2_distanceTo_9 : decode cX2_distanceTo 9 = .ok (.ireturn, 1) := by decide +kernel
theorem dX2_covers_0 : decode cX2_covers 0 = .ok (.aload_n 0, 1) := by decide +kernel
theorem dX2_covers_1 : decode cX2_covers 1 = .ok (.iload_n 1, 1) := by decide +kernel
theorem dX2_covers_2 : decode cX2_covers 2 = .ok (.invokevirtual 47, 3) := by decide +kernel
theorem dX2_covers_5 : decode cX2_covers 5 = .ok (.aload_n 0, 1) := by decide +kernel
theorem dX2_covers_6 : decode cX2_covers 6 = .ok (.getfield 18, 3) := by decide +kernel
theorem dX2_covers_9 : decode cX2_covers 9 = .ok (.if_icmp .gt 7, 3) := by decide +kernel
theorem dX2_covers_12 : decode cX2_covers 12 = .ok (.iconst 1, 1) := by decide +kernel
theorem dX2_covers_13 : decode cX2_covers 13 = .ok (.goto 4, 3) := by decide +kernel
theorem dX2_covers_16 : decode cX2_covers 16 = .ok (.iconst 0, 1) := by decide +kernel
theorem dX2_covers_17 : decode cX2_covers 17 = .ok (.ireturn, 1) := by decide +kernel
theorem dX2_hasRoom_0 : decode cX2_hasRoom 0 = .ok (.aload_n 0, 1) := by decide +kernel
theorem dX2_hasRoom_1 : decode cX2_hasRoom 1 = .ok (.getfield 50, 3) := by decide +kernel
theorem dX2_hasRoom_4 : decode cX2_hasRoom 4 = .ok (.aload_n 0, 1) := by decide +kernel
theorem dX2_hasRoom_5 : decode cX2_hasRoom 5 = .ok (.getfield 21, 3) := by decide +kernel
theorem dX2_hasRoom_8 : decode cX2_hasRoom 8 = .ok (.if_icmp .ge 7, 3) := by decide +kernel
theorem dX2_hasRoom_11 : decode cX2_hasRoom 11 = .ok (.iconst 1, 1) := by decide +kernel
theorem dX2_hasRoom_12 : decode cX2_hasRoom 12 = .ok (.goto 4, 3) := by decide +kernel
theorem dX2_hasRoom_15 : decode cX2_hasRoom 15 = .ok (.iconst 0, 1) := by decide +kernel
theorem dX2_hasRoom_16 : decode cX2_hasRoom 16 = .ok (.ireturn, 1) := by decide +kernel
theorem dX2_takePower_0 : decode cX2_takePower 0 = .ok (.aload_n 0, 1) := by decide +kernel
theorem dX2_takePower_1 : decode cX2_takePower 1 = .ok (.iconst 0, 1) := by decide +kernel
theorem dX2_takePower_2 : decode cX2_takePower 2 = .ok (.putfield 38, 3) := by decide +kernel
theorem dX2_takePower_5 : decode cX2_takePower 5 = .ok (.aload_n 0, 1) := by decide +kernel
theorem dX2_takePower_6 : decode cX2_takePower 6 = .ok (.getfield 34, 3) := by decide +kernel
theorem dX2_takePower_9 : decode cX2_takePower 9 = .ok (.ifnonnull 4, 3) := by decide +kernel
theorem dX2_takePower_12 : decode cX2_takePower 12 = .ok (.return_, 1) := by decide +kernel
theorem dX2_takePower_13 : decode cX2_takePower 13 = .ok (.aload_n 0, 1) := by decide +kernel
theorem dX2_takePower_14 : decode cX2_takePower 14 = .ok (.getfield 53, 3) := by decide +kernel
theorem dX2_takePower_17 : decode cX2_takePower 17 = .ok (.aload_n 0, 1) := by decide +kernel
theorem dX2_takePower_18 : decode cX2_takePower 18 = .ok (.getfield 24, 3) := by decide +kernel
theorem dX2_takePower_21 : decode cX2_takePower 21 = .ok (.iload_n 1, 1) := by decide +kernel
theorem dX2_takePower_22 : decode cX2_takePower 22 = .ok (.imul, 1) := by decide +kernel
theorem dX2_takePower_23 : decode cX2_takePower 23 = .ok (.iadd, 1) := by decide +kernel
theorem dX2_takePower_24 : decode cX2_takePower 24 = .ok (.istore_n 2, 1) := by decide +kernel
theorem dX2_takePower_25 : decode cX2_takePower 25 = .ok (.iconst 2, 1) := by decide +kernel
theorem dX2_takePower_26 : decode cX2_takePower 26 = .ok (.aload_n 0, 1) := by decide +kernel
theorem dX2_takePower_27 : decode cX2_takePower 27 = .ok (.getfield 50, 3) := by decide +kernel
theorem dX2_takePower_30 : decode cX2_takePower 30 = .ok (.iadd, 1) := by decide +kernel
theorem dX2_takePower_31 : decode cX2_takePower 31 = .ok (.istore_n 3, 1) := by decide +kernel
theorem dX2_takePower_32 : decode cX2_takePower 32 = .ok (.iload_n 2, 1) := by decide +kernel
theorem dX2_takePower_33 : decode cX2_takePower 33 = .ok (.iload_n 3, 1) := by decide +kernel
theorem dX2_takePower_34 : decode cX2_takePower 34 = .ok (.if_icmp .lt 20, 3) := by decide +kernel
theorem dX2_takePower_37 : decode cX2_takePower 37 = .ok (.aload_n 0, 1) := by decide +kernel
theorem dX2_takePower_38 : decode cX2_takePower 38 = .ok (.iload_n 2, 1) := by decide +kernel
theorem dX2_takePower_39 : decode cX2_takePower 39 = .ok (.iload_n 3, 1) := by decide +kernel
theorem dX2_takePower_40 : decode cX2_takePower 40 = .ok (.isub, 1) := by decide +kernel
theorem dX2_takePower_41 : decode cX2_takePower 41 = .ok (.aload_n 0, 1) := by decide +kernel
theorem dX2_takePower_42 : decode cX2_takePower 42 = .ok (.getfield 27, 3) := by decide +kernel
theorem dX2_takePower_45 : decode cX2_takePower 45 = .ok (.invokestatic 56, 3) := by decide +kernel
theorem dX2_takePower_48 : decode cX2_takePower 48 = .ok (.putfield 53, 3) := by decide +kernel
theorem dX2_takePower_51 : decode cX2_takePower 51 = .ok (.goto 47, 3) := by decide +kernel
theorem dX2_takePower_54 : decode cX2_takePower 54 = .ok (.aload_n 0, 1) := by decide +kernel
theorem dX2_takePower_55 : decode cX2_takePower 55 = .ok (.getfield 30, 3) := by decide +kernel
theorem dX2_takePower_58 : decode cX2_takePower 58 = .ok (.ifCond .eq 23, 3) := by decide +kernel
theorem dX2_takePower_61 : decode cX2_takePower 61 = .ok (.aload_n 0, 1) := by decide +kernel
theorem dX2_takePower_62 : decode cX2_takePower 62 = .ok (.dup, 1) := by decide +kernel
theorem dX2_takePower_63 : decode cX2_takePower 63 = .ok (.getfield 60, 3) := by decide +kernel
theorem dX2_takePower_66 : decode cX2_takePower 66 = .ok (.iload_n 3, 1) := by decide +kernel
theorem dX2_takePower_67 : decode cX2_takePower 67 = .ok (.iload_n 2, 1) := by decide +kernel
theorem dX2_takePower_68 : decode cX2_takePower 68 = .ok (.isub, 1) := by decide +kernel
theorem dX2_takePower_69 : decode cX2_takePower 69 = .ok (.iadd, 1) := by decide +kernel
theorem dX2_takePower_70 : decode cX2_takePower 70 = .ok (.putfield 60, 3) := by decide +kernel
theorem dX2_takePower_73 : decode cX2_takePower 73 = .ok (.aload_n 0, 1) := by decide +kernel
theorem dX2_takePower_74 : decode cX2_takePower 74 = .ok (.iconst 0, 1) := by decide +kernel
theorem dX2_takePower_75 : decode cX2_takePower 75 = .ok (.putfield 53, 3) := by decide +kernel
theorem dX2_takePower_78 : decode cX2_takePower 78 = .ok (.goto 20, 3) := by decide +kernel
theorem dX2_takePower_81 : decode cX2_takePower 81 = .ok (.aload_n 0, 1) := by decide +kernel
theorem dX2_takePower_82 : decode cX2_takePower 82 = .ok (.iconst 1, 1) := by decide +kernel
theorem dX2_takePower_83 : decode cX2_takePower 83 = .ok (.putfield 38, 3) := by decide +kernel
theorem dX2_takePower_86 : decode cX2_takePower 86 = .ok (.aload_n 0, 1) := by decide +kernel
theorem dX2_takePower_87 : decode cX2_takePower 87 = .ok (.iload_n 2, 1) := by decide +kernel
theorem dX2_takePower_88 : decode cX2_takePower 88 = .ok (.aload_n 0, 1) := by decide +kernel
theorem dX2_takePower_89 : decode cX2_takePower 89 = .ok (.getfield 27, 3) := by decide +kernel
theorem dX2_takePower_92 : decode cX2_takePower 92 = .ok (.invokestatic 56, 3) := by decide +kernel
theorem dX2_takePower_95 : decode cX2_takePower 95 = .ok (.putfield 53, 3) := by decide +kernel
theorem dX2_takePower_98 : decode cX2_takePower 98 = .ok (.return_, 1) := by decide +kernel
theorem dX2_logStay_0 : decode cX2_logStay 0 = .ok (.iload_n 2, 1) := by decide +kernel
theorem dX2_logStay_1 : decode cX2_logStay 1 = .ok (.iload_n 1, 1) := by decide +kernel
theorem dX2_logStay_2 : decode cX2_logStay 2 = .ok (.if_icmp .gt 4, 3) := by decide +kernel
theorem dX2_logStay_5 : decode cX2_logStay 5 = .ok (.return_, 1) := by decide +kernel
theorem dX2_logStay_6 : decode cX2_logStay 6 = .ok (.aload_n 0, 1) := by decide +kernel
theorem dX2_logStay_7 : decode cX2_logStay 7 = .ok (.getfield 63, 3) := by decide +kernel
theorem dX2_logStay_10 : decode cX2_logStay 10 = .ok (.ifnull 13, 3) := by decide +kernel
theorem dX2_logStay_13 : decode cX2_logStay 13 = .ok (.aload_n 0, 1) := by decide +kernel
theorem dX2_logStay_14 : decode cX2_logStay 14 = .ok (.getfield 63, 3) := by decide +kernel
theorem dX2_logStay_17 : decode cX2_logStay 17 = .ok (.invokevirtual 67, 3) := by decide +kernel
theorem dX2_logStay_20 : decode cX2_logStay 20 = .ok (.ifCond .eq 18, 3) := by decide +kernel
theorem dX2_logStay_23 : decode cX2_logStay 23 = .ok (.aload_n 0, 1) := by decide +kernel
theorem dX2_logStay_24 : decode cX2_logStay 24 = .ok (.new 68, 3) := by decide +kernel
theorem dX2_logStay_27 : decode cX2_logStay 27 = .ok (.dup, 1) := by decide +kernel
theorem dX2_logStay_28 : decode cX2_logStay 28 = .ok (.aload_n 0, 1) := by decide +kernel
theorem dX2_logStay_29 : decode cX2_logStay 29 = .ok (.getfield 63, 3) := by decide +kernel
theorem dX2_logStay_32 : decode cX2_logStay 32 = .ok (.invokespecial 73, 3) := by decide +kernel
theorem dX2_logStay_35 : decode cX2_logStay 35 = .ok (.putfield 63, 3) := by decide +kernel
theorem dX2_logStay_38 : decode cX2_logStay 38 = .ok (.aload_n 0, 1) := by decide +kernel
theorem dX2_logStay_39 : decode cX2_logStay 39 = .ok (.getfield 63, 3) := by decide +kernel
theorem dX2_logStay_42 : decode cX2_logStay 42 = .ok (.iload_n 1, 1) := by decide +kernel
theorem dX2_logStay_43 : decode cX2_logStay 43 = .ok (.iload_n 2, 1) := by decide +kernel
theorem dX2_logStay_44 : decode cX2_logStay 44 = .ok (.invokevirtual 76, 3) := by decide +kernel
theorem dX2_logStay_47 : decode cX2_logStay 47 = .ok (.return_, 1) := by decide +kernel
theorem dX2_hoursOfLog_0 : decode cX2_hoursOfLog 0 = .ok (.iconst 0, 1) := by decide +kernel
theorem dX2_hoursOfLog_1 : decode cX2_hoursOfLog 1 = .ok (.istore_n 1, 1) := by decide +kernel
theorem dX2_hoursOfLog_2 : decode cX2_hoursOfLog 2 = .ok (.aload_n 0, 1) := by decide +kernel
theorem dX2_hoursOfLog_3 : decode cX2_hoursOfLog 3 = .ok (.getfield 63, 3) := by decide +kernel
theorem dX2_hoursOfLog_6 : decode cX2_hoursOfLog 6 = .ok (.astore_n 2, 1) := by decide +kernel
theorem dX2_hoursOfLog_7 : decode cX2_hoursOfLog 7 = .ok (.aload_n 2, 1) := by decide +kernel
theorem dX2_hoursOfLog_8 : decode cX2_hoursOfLog 8 = .ok (.ifnull 18, 3) := by decide +kernel
theorem dX2_hoursOfLog_11 : decode cX2_hoursOfLog 11 = .ok (.iload_n 1, 1) := by decide +kernel
theorem dX2_hoursOfLog_12 : decode cX2_hoursOfLog 12 = .ok (.aload_n 2, 1) := by decide +kernel
theorem dX2_hoursOfLog_13 : decode cX2_hoursOfLog 13 = .ok (.invokevirtual 80, 3) := by decide +kernel
theorem dX2_hoursOfLog_16 : decode cX2_hoursOfLog 16 = .ok (.iadd, 1) := by decide +kernel
theorem dX2_hoursOfLog_17 : decode cX2_hoursOfLog 17 = .ok (.istore_n 1, 1) := by decide +kernel
theorem dX2_hoursOfLog_18 : decode cX2_hoursOfLog 18 = .ok (.aload_n 2, 1) := by decide +kernel
theorem dX2_hoursOfLog_19 : decode cX2_hoursOfLog 19 = .ok (.getfield 84, 3) := by decide +kernel
theorem dX2_hoursOfLog_22 : decode cX2_hoursOfLog 22 = .ok (.astore_n 2, 1) := by decide +kernel
theorem dX2_hoursOfLog_23 : decode cX2_hoursOfLog 23 = .ok (.goto (-16), 3) := by decide +kernel
theorem dX2_hoursOfLog_26 : decode cX2_hoursOfLog 26 = .ok (.iload_n 1, 1) := by decide +kernel
theorem dX2_hoursOfLog_27 : decode cX2_hoursOfLog 27 = .ok (.ireturn, 1) := by decide +kernel
theorem dX3_init_0 : decode cX3_init 0 = .ok (.aload_n 0, 1) := by decide +kernel
theorem dX3_init_1 : decode cX3_init 1 = .ok (.invokespecial 3, 3) := by decide +kernel
theorem dX3_init_4 : decode cX3_init 4 = .ok (.aload_n 0, 1) := by decide +kernel
theorem dX3_init_5 : decode cX3_init 5 = .ok (.iload_n 1, 1) := by decide +kernel
theorem dX3_init_6 : decode cX3_init 6 = .ok (.putfield 9, 3) := by decide +kernel
theorem dX3_init_9 : decode cX3_init 9 = .ok (.return_, 1) := by decide +kernel
theorem dX3_carrierNumber_0 : decode cX3_carrierNumber 0 = .ok (.aload_n 0, 1) := by decide +kernel
theorem dX3_carrierNumber_1 : decode cX3_carrierNumber 1 = .ok (.getfield 15, 3) := by decide +kernel
theorem dX3_carrierNumber_4 : decode cX3_carrierNumber 4 = .ok (.ifnonnull 7, 3) := by decide +kernel
theorem dX3_carrierNumber_7 : decode cX3_carrierNumber 7 = .ok (.iconst (-1), 1) := by decide +kernel
theorem dX3_carrierNumber_8 : decode cX3_carrierNumber 8 = .ok (.goto 10, 3) := by decide +kernel
theorem dX3_carrierNumber_11 : decode cX3_carrierNumber 11 = .ok (.aload_n 0, 1) := by decide +kernel
theorem dX3_carrierNumber_12 : decode cX3_carrierNumber 12 = .ok (.getfield 15, 3) := by decide +kernel
theorem dX3_carrierNumber_15 : decode cX3_carrierNumber 15 = .ok (.getfield 19, 3) := by decide +kernel
theorem dX3_carrierNumber_18 : decode cX3_carrierNumber 18 = .ok (.ireturn, 1) := by decide +kernel
theorem dX3_comeTo_0 : decode cX3_comeTo 0 = .ok (.aload_n 1, 1) := by decide +kernel
theorem dX3_comeTo_1 : decode cX3_comeTo 1 = .ok (.ifnonnull 4, 3) := by decide +kernel
theorem dX3_comeTo_4 : decode cX3_comeTo 4 = .ok (.return_, 1) := by decide +kernel
theorem dX3_comeTo_5 : decode cX3_comeTo 5 = .ok (.aload_n 0, 1) := by decide +kernel
theorem dX3_comeTo_6 : decode cX3_comeTo 6 = .ok (.aload_n 1, 1) := by decide +kernel
theorem dX3_comeTo_7 : decode cX3_comeTo 7 = .ok (.putfield 15, 3) := by decide +kernel
theorem dX3_comeTo_10 : decode cX3_comeTo 10 = .ok (.aload_n 0, 1) := by decide +kernel
theorem dX3_comeTo_11 : decode cX3_comeTo 11 = .ok (.iload_n 2, 1) := by decide +kernel
theorem dX3_comeTo_12 : decode cX3_comeTo 12 = .ok (.putfield 24, 3) := by decide +kernel
theorem dX3_comeTo_15 : decode cX3_comeTo 15 = .ok (.aload_n 1, 1) := by decide +kernel
theorem dX3_comeTo_16 : decode cX3_comeTo 16 = .ok (.dup, 1) := by decide +kernel
theorem dX3_comeTo_17 : decode cX3_comeTo 17 = .ok (.getfield 27, 3) := by decide +kernel
theorem dX3_comeTo_20 : decode cX3_comeTo 20 = .ok (.iconst 1, 1) := by decide +kernel
theorem dX3_comeTo_21 : decode cX3_comeTo 21 = .ok (.iadd, 1) := by decide +kernel
theorem dX3_comeTo_22 : decode cX3_comeTo 22 = .ok (.putfield 27, 3) := by decide +kernel
theorem dX3_comeTo_25 : decode cX3_comeTo 25 = .ok (.return_, 1) := by decide +kernel
theorem dX3_goAway_0 : decode cX3_goAway 0 = .ok (.aload_n 0, 1) := by decide +kernel
theorem dX3_goAway_1 : decode cX3_goAway 1 = .ok (.getfield 15, 3) := by decide +kernel
theorem dX3_goAway_4 : decode cX3_goAway 4 = .ok (.ifnonnull 4, 3) := by decide +kernel
theorem dX3_goAway_7 : decode cX3_goAway 7 = .ok (.return_, 1) := by decide +kernel
theorem dX3_goAway_8 : decode cX3_goAway 8 = .ok (.aload_n 0, 1) := by decide +kernel
theorem dX3_goAway_9 : decode cX3_goAway 9 = .ok (.getfield 15, 3) := by decide +kernel
theorem dX3_goAway_12 : decode cX3_goAway 12 = .ok (.dup, 1) := by decide +kernel
theorem dX3_goAway_13 : decode cX3_goAway 13 = .ok (.getfield 27, 3) := by decide +kernel
theorem dX3_goAway_16 : decode cX3_goAway 16 = .ok (.iconst 1, 1) := by decide +kernel
theorem dX3_goAway_17 : decode cX3_goAway 17 = .ok (.isub, 1) := by decide +kernel
theorem dX3_goAway_18 : decode cX3_goAway 18 = .ok (.putfield 27, 3) := by decide +kernel
theorem dX3_goAway_21 : decode cX3_goAway 21 = .ok (.aload_n 0, 1) := by decide +kernel
theorem dX3_goAway_22 : decode cX3_goAway 22 = .ok (.getfield 15, 3) := by decide +kernel
theorem dX3_goAway_25 : decode cX3_goAway 25 = .ok (.aload_n 0, 1) := by decide +kernel
theorem dX3_goAway_26 : decode cX3_goAway 26 = .ok (.getfield 24, 3) := by decide +kernel
theorem dX3_goAway_29 : decode cX3_goAway 29 = .ok (.iload_n 1, 1) := by decide +kernel
theorem dX3_goAway_30 : decode cX3_goAway 30 = .ok (.invokevirtual 30, 3) := by decide +kernel
theorem dX3_goAway_33 : decode cX3_goAway 33 = .ok (.aload_n 0, 1) := by decide +kernel
theorem dX3_goAway_34 : decode cX3_goAway 34 = .ok (.aconst_null, 1) := by decide +kernel
theorem dX3_goAway_35 : decode cX3_goAway 35 = .ok (.putfield 15, 3) := by decide +kernel
theorem dX3_goAway_38 : decode cX3_goAway 38 = .ok (.return_, 1) := by decide +kernel
theorem dX4_init_0 : decode cX4_init 0 = .ok (.aload_n 0, 1) := by decide +kernel
theorem dX4_init_1 : decode cX4_init 1 = .ok (.invokespecial 1, 3) := by decide +kernel
theorem dX4_init_4 : decode cX4_init 4 = .ok (.aload_n 0, 1) := by decide +kernel
theorem dX4_init_5 : decode cX4_init 5 = .ok (.bipush 8, 2) := by decide +kernel
theorem dX4_init_7 : decode cX4_init 7 = .ok (.anewarray 9, 3) := by decide +kernel
theorem dX4_init_10 : decode cX4_init 10 = .ok (.putfield 11, 3) := by decide +kernel
theorem dX4_init_13 : decode cX4_init 13 = .ok (.aload_n 0, 1) := by decide +kernel
theorem dX4_init_14 : decode cX4_init 14 = .ok (.bipush 12, 2) := by decide +kernel
theorem dX4_init_16 : decode cX4_init 16 = .ok (.anewarray 15, 3) := by decide +kernel
theorem dX4_init_19 : decode cX4_init 19 = .ok (.putfield 17, 3) := by decide +kernel
theorem dX4_init_22 : decode cX4_init 22 = .ok (.aload_n 0, 1) := by decide +kernel
theorem dX4_init_23 : decode cX4_init 23 = .ok (.bipush 6, 2) := by decide +kernel
theorem dX4_init_25 : decode cX4_init 25 = .ok (.newarray .int, 2) := by decide +kernel
theorem dX4_init_27 : decode cX4_init 27 = .ok (.putfield 21, 3) := by decide +kernel
theorem dX4_init_30 : decode cX4_init 30 = .ok (.return_, 1) := by decide +kernel
theorem dX4_mast_0 : decode cX4_mast 0 = .ok (.iload_n 1, 1) := by decide +kernel
theorem dX4_mast_1 : decode cX4_mast 1 = .ok (.invokestatic 25, 3) := by decide +kernel
theorem dX4_mast_4 : decode cX4_mast 4 = .ok (.ifCond .eq 45, 3) := by decide +kernel
theorem dX4_mast_7 : decode cX4_mast 7 = .ok (.iload_n 2, 1) := by decide +kernel
theorem dX4_mast_8 : decode cX4_mast 8 = .ok (.iconst 1, 1) := by decide +kernel
theorem dX4_mast_9 : decode cX4_mast 9 = .ok (.bipush 40, 2) := by decide +kernel
theorem dX4_mast_11 : decode cX4_mast 11 = .ok (.invokestatic 29, 3) := by decide +kernel
theorem dX4_mast_14 : decode cX4_mast 14 = .ok (.ifCond .eq 35, 3) := by decide +kernel
theorem dX4_mast_17 : decode cX4_mast 17 = .ok (.iload_n 3, 1) := by decide +kernel
theorem dX4_mast_18 : decode cX4_mast 18 = .ok (.iconst 1, 1) := by decide +kernel
theorem dX4_mast_19 : decode cX4_mast 19 = .ok (.bipush 10, 2) := by decide +kernel
theorem dX4_mast_21 : decode cX4_mast 21 = .ok (.invokestatic 29, 3) := by decide +kernel
theorem dX4_mast_24 : decode cX4_mast 24 = .ok (.ifCond .eq 25, 3) := by decide +kernel
theorem dX4_mast_27 : decode cX4_mast 27 = .ok (.iload 4, 2) := by decide +kernel
theorem dX4_mast_29 : decode cX4_mast 29 = .ok (.iconst 0, 1) := by decide +kernel
theorem dX4_mast_30 : decode cX4_mast 30 = .ok (.bipush 10, 2) := by decide +kernel
theorem dX4_mast_32 : decode cX4_mast 32 = .ok (.invokestatic 29, 3) := by decide +kernel
theorem dX4_mast_35 : decode cX4_mast 35 = .ok (.ifCond .eq 14, 3) := by decide +kernel
theorem dX4_mast_38 : decode cX4_mast 38 = .ok (.iload 5, 2) := by decide +kernel
theorem dX4_mast_40 : decode cX4_mast 40 = .ok (.iconst 0, 1) := by decide +kernel
theorem dX4_mast_41 : decode cX4_mast 41 = .ok (.bipush 100, 2) := by decide +kernel
theorem dX4_mast_43 : decode cX4_mast 43 = .ok (.invokestatic 29, 3) := by decide +kernel
theorem dX4_mast_46 : decode cX4_mast 46 = .ok (.ifCond .ne 11, 3) := by decide +kernel
theorem dX4_mast_49 : decode cX4_mast 49 = .ok (.new 33, 3) := by decide +kernel
theorem dX4_mast_52 : decode cX4_mast 52 = .ok (.dup, 1) := by decide +kernel
theorem dX4_mast_53 : decode cX4_mast 53 = .ok (.invokespecial 35, 3) := by decide +kernel
theorem dX4_mast_56 : decode cX4_mast 56 = .ok (.athrow, 1) := by decide +kernel
theorem dX4_mast_57 : decode cX4_mast 57 = .ok (.iconst 0, 1) := by decide +kernel
theorem dX4_mast_58 : decode cX4_mast 58 = .ok (.istore 7, 2) := by decide +kernel
theorem dX4_mast_60 : decode cX4_mast 60 = .ok (.iload 7, 2) := by decide +kernel
theorem dX4_mast_62 : decode cX4_mast 62 = .ok (.aload_n 0, 1) := by decide +kernel
theorem dX4_mast_63 : decode cX4_mast 63 = .ok (.getfield 11, 3) := by decide +kernel
theorem dX4_mast_66 : decode cX4_mast 66 = .ok (.arraylength, 1) := by decide +kernel
theorem dX4_mast_67 : decode cX4_mast 67 = .ok (.if_icmp .ge 47, 3) := by decide +kernel
theorem dX4_mast_70 : decode cX4_mast 70 = .ok (.aload_n 0, 1) := by decide +kernel
theorem dX4_mast_71 : decode cX4_mast 71 = .ok (.getfield 11, 3) := by decide +kernel
theorem dX4_mast_74 : decode cX4_mast 74 = .ok (.iload 7, 2) := by decide +kernel
theorem dX4_mast_76 : decode cX4_mast 76 = .ok (.aaload, 1) := by decide +kernel
theorem dX4_mast_77 : decode cX4_mast 77 = .ok (.ifnonnull 31, 3) := by decide +kernel
theorem dX4_mast_80 : decode cX4_mast 80 = .ok (.aload_n 0, 1) := by decide +kernel
theorem dX4_mast_81 : decode cX4_mast 81 = .ok (.getfield 11, 3) := by decide +kernel
theorem dX4_mast_84 : decode cX4_mast 84 = .ok (.iload 7, 2) := by decide +kernel
theorem dX4_mast_86 : decode cX4_mast 86 = .ok (.new 9, 3) := by decide +kernel
theorem dX4_mast_89 : decode cX4_mast 89 = .ok (.dup, 1) := by decide +kernel
theorem dX4_mast_90 : decode cX4_mast 90 = .ok (.iload 7, 2) := by decide +kernel
theorem dX4_mast_92 : decode cX4_mast 92 = .ok (.iload_n 1, 1) := by decide +kernel
theorem dX4_mast_93 : decode cX4_mast 93 = .ok (.iload_n 2, 1) := by decide +kernel
theorem dX4_mast_94 : decode cX4_mast 94 = .ok (.iload_n 3, 1) := by decide +kernel
theorem dX4_mast_95 : decode cX4_mast 95 = .ok (.iload 4, 2) := by decide +kernel
theorem dX4_mast_97 : decode cX4_mast 97 = .ok (.iload 5, 2) := by decide +kernel
theorem dX4_mast_99 : decode cX4_mast 99 = .ok (.iload 6, 2) := by decide +kernel
theorem dX4_mast_101 : decode cX4_mast 101 = .ok (.invokespecial 36, 3) := by decide +kernel
theorem dX4_mast_104 : decode cX4_mast 104 = .ok (.aastore, 1) := by decide +kernel
theorem dX4_mast_105 : decode cX4_mast 105 = .ok (.iload 7, 2) := by decide +kernel
theorem dX4_mast_107 : decode cX4_mast 107 = .ok (.ireturn, 1) := by decide +kernel
theorem dX4_mast_108 : decode cX4_mast 108 = .ok (.iinc 7 1, 3) := by decide +kernel
theorem dX4_mast_111 : decode cX4_mast 111 = .ok (.goto (-51), 3) := by decide +kernel
theorem dX4_mast_114 : decode cX4_mast 114 = .ok (.new 39, 3) := by decide +kernel
theorem dX4_mast_117 : decode cX4_mast 117 = .ok (.dup, 1) := by decide +kernel
theorem dX4_mast_118 : decode cX4_mast 118 = .ok (.invokespecial 41, 3) := by decide +kernel
theorem dX4_mast_121 : decode cX4_mast 121 = .ok (.athrow, 1) := by decide +kernel
theorem dX4_lease_0 : decode cX4_lease 0 = .ok (.aload_n 0, 1) := by decide +kernel
theorem dX4_lease_1 : decode cX4_lease 1 = .ok (.iload_n 1, 1) := by decide +kernel
theorem dX4_lease_2 : decode cX4_lease 2 = .ok (.invokevirtual 42, 3) := by decide +kernel
theorem dX4_lease_5 : decode cX4_lease 5 = .ok (.astore 8, 2) := by decide +kernel
theorem dX4_lease_7 : decode cX4_lease 7 = .ok (.aload 8, 2) := by decide +kernel
theorem dX4_lease_9 : decode cX4_lease 9 = .ok (.ifnull 22, 3) := by decide +kernel
theorem dX4_lease_12 : decode cX4_lease 12 = .ok (.iload_n 2, 1) := by decide +kernel
theorem dX4_lease_13 : decode cX4_lease 13 = .ok (.invokestatic 46, 3) := by decide +kernel
theorem dX4_lease_16 : decode cX4_lease 16 = .ok (.ifCond .eq 15, 3) := by decide +kernel
theorem dX4_lease_19 : decode cX4_lease 19 = .ok (.iload_n 3, 1) := by decide +kernel
theorem dX4_lease_20 : decode cX4_lease 20 = .ok (.iconst (-1), 1) := by decide +kernel
theorem dX4_lease_21 : decode cX4_lease 21 = .ok (.if_icmp .eq 18, 3) := by decide +kernel
theorem dX4_lease_24 : decode cX4_lease 24 = .ok (.iload_n 3, 1) := by decide +kernel
theorem dX4_lease_25 : decode cX4_lease 25 = .ok (.invokestatic 46, 3) := by decide +kernel
theorem dX4_lease_28 : decode cX4_lease 28 = .ok (.ifCond .ne 11, 3) := by decide +kernel
theorem dX4_lease_31 : decode cX4_lease 31 = .ok (.new 49, 3) := by decide +kernel
theorem dX4_lease_34 : decode cX4_lease 34 = .ok (.dup, 1) := by decide +kernel
theorem dX4_lease_35 : decode cX4_lease 35 = .ok (.invokespecial 51, 3) := by decide +kernel
theorem dX4_lease_38 : decode cX4_lease 38 = .ok (.athrow, 1) := by decide +kernel
theorem dX4_lease_39 : decode cX4_lease 39 = .ok (.iload_n 2, 1) := by decide +kernel
theorem dX4_lease_40 : decode cX4_lease 40 = .ok (.iload_n 3, 1) := by decide +kernel
theorem dX4_lease_41 : decode cX4_lease 41 = .ok (.if_icmp .eq 64, 3) := by decide +kernel
theorem dX4_lease_44 : decode cX4_lease 44 = .ok (.iload 4, 2) := by decide +kernel
theorem dX4_lease_46 : decode cX4_lease 46 = .ok (.iload_n 3, 1) := by decide +kernel
theorem dX4_lease_47 : decode cX4_lease 47 = .ok (.iconst (-1), 1) := by decide +kernel
theorem dX4_lease_48 : decode cX4_lease 48 = .ok (.if_icmp .ne 8, 3) := by decide +kernel
theorem dX4_lease_51 : decode cX4_lease 51 = .ok (.bipush 10, 2) := by decide +kernel
theorem dX4_lease_53 : decode cX4_lease 53 = .ok (.goto 4, 3) := by decide +kernel
theorem dX4_lease_56 : decode cX4_lease 56 = .ok (.iconst 0, 1) := by decide +kernel
theorem dX4_lease_57 : decode cX4_lease 57 = .ok (.bipush 10, 2) := by decide +kernel
theorem dX4_lease_59 : decode cX4_lease 59 = .ok (.invokestatic 29, 3) := by decide +kernel
theorem dX4_lease_62 : decode cX4_lease 62 = .ok (.ifCond .eq 43, 3) := by decide +kernel
theorem dX4_lease_65 : decode cX4_lease 65 = .ok (.iload 5, 2) := by decide +kernel
theorem dX4_lease_67 : decode cX4_lease 67 = .ok (.aload_n 0, 1) := by decide +kernel
theorem dX4_lease_68 : decode cX4_lease 68 = .ok (.getfield 52, 3) := by decide +kernel
theorem dX4_lease_71 : decode cX4_lease 71 = .ok (.iconst 1, 1) := by decide +kernel
theorem dX4_lease_72 : decode cX4_lease 72 = .ok (.iadd, 1) := by decide +kernel
theorem dX4_lease_73 : decode cX4_lease 73 = .ok (.sipush 10000, 3) := by decide +kernel
theorem dX4_lease_76 : decode cX4_lease 76 = .ok (.invokestatic 29, 3) := by decide +kernel
theorem dX4_lease_79 : decode cX4_lease 79 = .ok (.ifCond .eq 26, 3) := by decide +kernel
theorem dX4_lease_82 : decode cX4_lease 82 = .ok (.iload 6, 2) := by decide +kernel
theorem dX4_lease_84 : decode cX4_lease 84 = .ok (.iconst 0, 1) := by decide +kernel
theorem dX4_lease_85 : decode cX4_lease 85 = .ok (.sipush 1000, 3) := by decide +kernel
theorem dX4_lease_88 : decode cX4_lease 88 = .ok (.invokestatic 29, 3) := by decide +kernel
theorem dX4_lease_91 : decode cX4_lease 91 = .ok (.ifCond .eq 14, 3) := by decide +kernel
theorem dX4_lease_94 : decode cX4_lease 94 = .ok (.iload 7, 2) := by decide +kernel
theorem dX4_lease_96 : decode cX4_lease 96 = .ok (.iconst 0, 1) := by decide +kernel
theorem dX4_lease_97 : decode cX4_lease 97 = .ok (.bipush 100, 2) := by decide +kernel
theorem dX4_lease_99 : decode cX4_lease 99 = .ok (.invokestatic 29, 3) := by decide +kernel
theorem dX4_lease_102 : decode cX4_lease 102 = .ok (.ifCond .ne 11, 3) := by decide +kernel
theorem dX4_lease_105 : decode cX4_lease 105 = .ok (.new 33, 3) := by decide +kernel
theorem dX4_lease_108 : decode cX4_lease 108 = .ok (.dup, 1) := by decide +kernel
theorem dX4_lease_109 : decode cX4_lease 109 = .ok (.invokespecial 35, 3) := by decide +kernel
theorem dX4_lease_112 : decode cX4_lease 112 = .ok (.athrow, 1) := by decide +kernel
theorem dX4_lease_113 : decode cX4_lease 113 = .ok (.aload 8, 2) := by decide +kernel
theorem dX4_lease_115 : decode cX4_lease 115 = .ok (.getfield 56, 3) := by decide +kernel
theorem dX4_lease_118 : decode cX4_lease 118 = .ok (.ifnull 11, 3) := by decide +kernel
theorem dX4_lease_121 : decode cX4_lease 121 = .ok (.new 39, 3) := by decide +kernel
theorem dX4_lease_124 : decode cX4_lease 124 = .ok (.dup, 1) := by decide +kernel
theorem dX4_lease_125 : decode cX4_lease 125 = .ok (.invokespecial 41, 3) := by decide +kernel
theorem dX4_lease_128 : decode cX4_lease 128 = .ok (.athrow, 1) := by decide +kernel
theorem dX4_lease_129 : decode cX4_lease 129 = .ok (.aload 8, 2) := by decide +kernel
theorem dX4_lease_131 : decode cX4_lease 131 = .ok (.new 60, 3) := by decide +kernel
theorem dX4_lease_134 : decode cX4_lease 134 = .ok (.dup, 1) := by decide +kernel
theorem dX4_lease_135 : decode cX4_lease 135 = .ok (.iload_n 2, 1) := by decide +kernel
theorem dX4_lease_136 : decode cX4_lease 136 = .ok (.iload_n 3, 1) := by decide +kernel
theorem dX4_lease_137 : decode cX4_lease 137 = .ok (.iload 4, 2) := by decide +kernel
theorem dX4_lease_139 : decode cX4_lease 139 = .ok (.iload 5, 2) := by decide +kernel
theorem dX4_lease_141 : decode cX4_lease 141 = .ok (.iload 6, 2) := by decide +kernel
theorem dX4_lease_143 : decode cX4_lease 143 = .ok (.iload 7, 2) := by decide +kernel
theorem dX4_lease_145 : decode cX4_lease 145 = .ok (.invokespecial 62, 3) := by decide +kernel
theorem dX4_lease_148 : decode cX4_lease 148 = .ok (.putfield 56, 3) := by decide +kernel
theorem dX4_lease_151 : decode cX4_lease 151 = .ok (.return_, 1) := by decide +kernel
theorem dX4_sun_0 : decode cX4_sun 0 = .ok (.iload_n 1, 1) := by decide +kernel
theorem dX4_sun_1 : decode cX4_sun 1 = .ok (.iconst 0, 1) := by decide +kernel
theorem dX4_sun_2 : decode cX4_sun 2 = .ok (.bipush 10, 2) := by decide +kernel
theorem dX4_sun_4 : decode cX4_sun 4 = .ok (.invokestatic 29, 3) := by decide +kernel
theorem dX4_sun_7 : decode cX4_sun 7 = .ok (.ifCond .ne 11, 3) := by decide +kernel
theorem dX4_sun_10 : decode cX4_sun 10 = .ok (.new 33, 3) := by decide +kernel
theorem dX4_sun_13 : decode cX4_sun 13 = .ok (.dup, 1) := by decide +kernel
theorem dX4_sun_14 : decode cX4_sun 14 = .ok (.invokespecial 35, 3) := by decide +kernel
theorem dX4_sun_17 : decode cX4_sun 17 = .ok (.athrow, 1) := by decide +kernel
theorem dX4_sun_18 : decode cX4_sun 18 = .ok (.aload_n 0, 1) := by decide +kernel
theorem dX4_sun_19 : decode cX4_sun 19 = .ok (.getfield 65, 3) := by decide +kernel
theorem dX4_sun_22 : decode cX4_sun 22 = .ok (.istore_n 2, 1) := by decide +kernel
theorem dX4_sun_23 : decode cX4_sun 23 = .ok (.aload_n 0, 1) := by decide +kernel
theorem dX4_sun_24 : decode cX4_sun 24 = .ok (.iload_n 1, 1) := by decide +kernel
theorem dX4_sun_25 : decode cX4_sun 25 = .ok (.putfield 65, 3) := by decide +kernel
theorem dX4_sun_28 : decode cX4_sun 28 = .ok (.iload_n 2, 1) := by decide +kernel
theorem dX4_sun_29 : decode cX4_sun 29 = .ok (.ireturn, 1) := by decide +kernel
theorem dX4_phone_0 : decode cX4_phone 0 = .ok (.iload_n 1, 1) := by decide +kernel
theorem dX4_phone_1 : decode cX4_phone 1 = .ok (.invokestatic 25, 3) := by decide +kernel
theorem dX4_phone_4 : decode cX4_phone 4 = .ok (.ifCond .ne 11, 3) := by decide +kernel
theorem dX4_phone_7 : decode cX4_phone 7 = .ok (.new 33, 3) := by decide +kernel
theorem dX4_phone_10 : decode cX4_phone 10 = .ok (.dup, 1) := by decide +kernel
theorem dX4_phone_11 : decode cX4_phone 11 = .ok (.invokespecial 35, 3) := by decide +kernel
theorem dX4_phone_14 : decode cX4_phone 14 = .ok (.athrow, 1) := by decide +kernel
theorem dX4_phone_15 : decode cX4_phone 15 = .ok (.iconst 0, 1) := by decide +kernel
theorem dX4_phone_16 : decode cX4_phone 16 = .ok (.istore_n 2, 1) := by decide +kernel
theorem dX4_phone_17 : decode cX4_phone 17 = .ok (.iload_n 2, 1) := by decide +kernel
theorem dX4_phone_18 : decode cX4_phone 18 = .ok (.aload_n 0, 1) := by decide +kernel
theorem dX4_phone_19 : decode cX4_phone 19 = .ok (.getfield 17, 3) := by decide +kernel
theorem dX4_phone_22 : decode cX4_phone 22 = .ok (.arraylength, 1) := by decide +kernel
theorem dX4_phone_23 : decode cX4_phone 23 = .ok (.if_icmp .ge 34, 3) := by decide +kernel
theorem dX4_phone_26 : decode cX4_phone 26 = .ok (.aload_n 0, 1) := by decide +kernel
theorem dX4_phone_27 : decode cX4_phone 27 = .ok (.getfield 17, 3) := by decide +kernel
theorem dX4_phone_30 : decode cX4_phone 30 = .ok (.iload_n 2, 1) := by decide +kernel
theorem dX4_phone_31 : decode cX4_phone 31 = .ok (.aaload, 1) := by decide +kernel
theorem dX4_phone_32 : decode cX4_phone 32 = .ok (.ifnonnull 19, 3) := by decide +kernel
theorem dX4_phone_35 : decode cX4_phone 35 = .ok (.aload_n 0, 1) := by decide +kernel
theorem dX4_phone_36 : decode cX4_phone 36 = .ok (.getfield 17, 3) := by decide +kernel
theorem dX4_phone_39 : decode cX4_phone 39 = .ok (.iload_n 2, 1) := by decide +kernel
theorem dX4_phone_40 : decode cX4_phone 40 = .ok (.new 15, 3) := by decide +kernel
theorem dX4_phone_43 : decode cX4_phone 43 = .ok (.dup, 1) := by decide +kernel
theorem dX4_phone_44 : decode cX4_phone 44 = .ok (.iload_n 1, 1) := by decide +kernel
theorem dX4_phone_45 : decode cX4_phone 45 = .ok (.invokespecial 68, 3) := by decide +kernel
theorem dX4_phone_48 : decode cX4_phone 48 = .ok (.aastore, 1) := by decide +kernel
theorem dX4_phone_49 : decode cX4_phone 49 = .ok (.iload_n 2, 1) := by decide +kernel
theorem dX4_phone_50 : decode cX4_phone 50 = .ok (.ireturn, 1) := by decide +kernel
theorem dX4_phone_51 : decode cX4_phone 51 = .ok (.iinc 2 1, 3) := by decide +kernel
theorem dX4_phone_54 : decode cX4_phone 54 = .ok (.goto (-37), 3) := by decide +kernel
theorem dX4_phone_57 : decode cX4_phone 57 = .ok (.new 39, 3) := by decide +kernel
theorem dX4_phone_60 : decode cX4_phone 60 = .ok (.dup, 1) := by decide +kernel
theorem dX4_phone_61 : decode cX4_phone 61 = .ok (.invokespecial 41, 3) := by decide +kernel
theorem dX4_phone_64 : decode cX4_phone 64 = .ok (.athrow, 1) := by decide +kernel
theorem dX4_call_0 : decode cX4_call 0 = .ok (.aload_n 0, 1) := by decide +kernel
theorem dX4_call_1 : decode cX4_call 1 = .ok (.iload_n 1, 1) := by decide +kernel
theorem dX4_call_2 : decode cX4_call 2 = .ok (.invokevirtual 71, 3) := by decide +kernel
theorem dX4_call_5 : decode cX4_call 5 = .ok (.astore_n 2, 1) := by decide +kernel
theorem dX4_call_6 : decode cX4_call 6 = .ok (.aload_n 2, 1) := by decide +kernel
theorem dX4_call_7 : decode cX4_call 7 = .ok (.ifnonnull 11, 3) := by decide +kernel
theorem dX4_call_10 : decode cX4_call 10 = .ok (.new 49, 3) := by decide +kernel
theorem dX4_call_13 : decode cX4_call 13 = .ok (.dup, 1) := by decide +kernel
theorem dX4_call_14 : decode cX4_call 14 = .ok (.invokespecial 51, 3) := by decide +kernel
theorem dX4_call_17 : decode cX4_call 17 = .ok (.athrow, 1) := by decide +kernel
theorem dX4_call_18 : decode cX4_call 18 = .ok (.aload_n 2, 1) := by decide +kernel
theorem dX4_call_19 : decode cX4_call 19 = .ok (.getfield 75, 3) := by decide +kernel
theorem dX4_call_22 : decode cX4_call 22 = .ok (.ifnull 11, 3) := by decide +kernel
theorem dX4_call_25 : decode cX4_call 25 = .ok (.new 39, 3) := by decide +kernel
theorem dX4_call_28 : decode cX4_call 28 = .ok (.dup, 1) := by decide +kernel
theorem dX4_call_29 : decode cX4_call 29 = .ok (.invokespecial 41, 3) := by decide +kernel
theorem dX4_call_32 : decode cX4_call 32 = .ok (.athrow, 1) := by decide +kernel
theorem dX4_call_33 : decode cX4_call 33 = .ok (.aload_n 0, 1) := by decide +kernel
theorem dX4_call_34 : decode cX4_call 34 = .ok (.aload_n 2, 1) := by decide +kernel
theorem dX4_call_35 : decode cX4_call 35 = .ok (.getfield 79, 3) := by decide +kernel
theorem dX4_call_38 : decode cX4_call 38 = .ok (.invokevirtual 82, 3) := by decide +kernel
theorem dX4_call_41 : decode cX4_call 41 = .ok (.astore_n 3, 1) := by decide +kernel
theorem dX4_call_42 : decode cX4_call 42 = .ok (.aload_n 3, 1) := by decide +kernel
theorem dX4_call_43 : decode cX4_call 43 = .ok (.ifnonnull 15, 3) := by decide +kernel
theorem dX4_call_46 : decode cX4_call 46 = .ok (.aload_n 2, 1) := by decide +kernel
theorem dX4_call_47 : decode cX4_call 47 = .ok (.dup, 1) := by decide +kernel
theorem dX4_call_48 : decode cX4_call 48 = .ok (.getfield 85, 3) := by decide +kernel
theorem dX4_call_51 : decode cX4_call 51 = .ok (.iconst 1, 1) := by decide +kernel
theorem dX4_call_52 : decode cX4_call 52 = .ok (.iadd, 1) := by decide +kernel
theorem dX4_call_53 : decode cX4_call 53 = .ok (.putfield 85, 3) := by decide +kernel
theorem dX4_call_56 : decode cX4_call 56 = .ok (.iconst (-1), 1) := by decide +kernel
theorem dX4_call_57 : decode cX4_call 57 = .ok (.ireturn, 1) := by decide +kernel
theorem dX4_call_58 : decode cX4_call 58 = .ok (.aload_n 2, 1) := by decide +kernel
theorem dX4_call_59 : decode cX4_call 59 = .ok (.aload_n 3, 1) := by decide +kernel
theorem dX4_call_60 : decode cX4_call 60 = .ok (.aload_n 0, 1) := by decide +kernel
theorem dX4_call_61 : decode cX4_call 61 = .ok (.getfield 52, 3) := by decide +kernel
theorem dX4_call_64 : decode cX4_call 64 = .ok (.invokevirtual 88, 3) := by decide +kernel
theorem dX4_call_67 : decode cX4_call 67 = .ok (.aload_n 3, 1) := by decide +kernel
theorem dX4_call_68 : decode cX4_call 68 = .ok (.getfield 92, 3) := by decide +kernel
theorem dX4_call_71 : decode cX4_call 71 = .ok (.ireturn, 1) := by decide +kernel
theorem dX4_end_0 : decode cX4_end 0 = .ok (.aload_n 0, 1) := by decide +kernel
theorem dX4_end_1 : decode cX4_end 1 = .ok (.iload_n 1, 1) := by decide +kernel
theorem dX4_end_2 : decode cX4_end 2 = .ok (.invokevirtual 71, 3) := by decide +kernel
theorem dX4_end_5 : decode cX4_end 5 = .ok (.astore_n 2, 1) := by decide +kernel
theorem dX4_end_6 : decode cX4_end 6 = .ok (.aload_n 2, 1) := by decide +kernel
theorem dX4_end_7 : decode cX4_end 7 = .ok (.ifnonnull 11, 3) := by decide +kernel
theorem dX4_end_10 : decode cX4_end 10 = .ok (.new 49, 3) := by decide +kernel
theorem dX4_end_13 : decode cX4_end 13 = .ok (.dup, 1) := by decide +kernel
theorem dX4_end_14 : decode cX4_end 14 = .ok (.invokespecial 51, 3) := by decide +kernel
theorem dX4_end_17 : decode cX4_end 17 = .ok (.athrow, 1) := by decide +kernel
theorem dX4_end_18 : decode cX4_end 18 = .ok (.aload_n 2, 1) := by decide +kernel
theorem dX4_end_19 : decode cX4_end 19 = .ok (.getfield 75, 3) := by decide +kernel
theorem dX4_end_22 : decode cX4_end 22 = .ok (.ifnonnull 11, 3) := by decide +kernel
theorem dX4_end_25 : decode cX4_end 25 = .ok (.new 39, 3) := by decide +kernel
theorem dX4_end_28 : decode cX4_end 28 = .ok (.dup, 1) := by decide +kernel
theorem dX4_end_29 : decode cX4_end 29 = .ok (.invokespecial 41, 3) := by decide +kernel
theorem dX4_end_32 : decode cX4_end 32 = .ok (.athrow, 1) := by decide +kernel
theorem dX4_end_33 : decode cX4_end 33 = .ok (.aload_n 2, 1) := by decide +kernel
theorem dX4_end_34 : decode cX4_end 34 = .ok (.invokevirtual 95, 3) := by decide +kernel
theorem dX4_end_37 : decode cX4_end 37 = .ok (.istore_n 3, 1) := by decide +kernel
theorem dX4_end_38 : decode cX4_end 38 = .ok (.aload_n 2, 1) := by decide +kernel
theorem dX4_end_39 : decode cX4_end 39 = .ok (.aload_n 0, 1) := by decide +kernel
theorem dX4_end_40 : decode cX4_end 40 = .ok (.getfield 52, 3) := by decide +kernel
theorem dX4_end_43 : decode cX4_end 43 = .ok (.invokevirtual 99, 3) := by decide +kernel
theorem dX4_end_46 : decode cX4_end 46 = .ok (.iload_n 3, 1) := by decide +kernel
theorem dX4_end_47 : decode cX4_end 47 = .ok (.ireturn, 1) := by decide +kernel
theorem dX4_move_0 : decode cX4_move 0 = .ok (.aload_n 0, 1) := by decide +kernel
theorem dX4_move_1 : decode cX4_move 1 = .ok (.iload_n 1, 1) := by decide +kernel
theorem dX4_move_2 : decode cX4_move 2 = .ok (.invokevirtual 71, 3) := by decide +kernel
theorem dX4_move_5 : decode cX4_move 5 = .ok (.astore_n 3, 1) := by decide +kernel
theorem dX4_move_6 : decode cX4_move 6 = .ok (.aload_n 3, 1) := by decide +kernel
theorem dX4_move_7 : decode cX4_move 7 = .ok (.ifnonnull 11, 3) := by decide +kernel
theorem dX4_move_10 : decode cX4_move 10 = .ok (.new 49, 3) := by decide +kernel
theorem dX4_move_13 : decode cX4_move 13 = .ok (.dup, 1) := by decide +kernel
theorem dX4_move_14 : decode cX4_move 14 = .ok (.invokespecial 51, 3) := by decide +kernel
theorem dX4_move_17 : decode cX4_move 17 = .ok (.athrow, 1) := by decide +kernel
theorem dX4_move_18 : decode cX4_move 18 = .ok (.iload_n 2, 1) := by decide +kernel
theorem dX4_move_19 : decode cX4_move 19 = .ok (.invokestatic 25, 3) := by decide +kernel
theorem dX4_move_22 : decode cX4_move 22 = .ok (.ifCond .ne 11, 3) := by decide +kernel
theorem dX4_move_25 : decode cX4_move 25 = .ok (.new 33, 3) := by decide +kernel
theorem dX4_move_28 : decode cX4_move 28 = .ok (.dup, 1) := by decide +kernel
theorem dX4_move_29 : decode cX4_move 29 = .ok (.invokespecial 35, 3) := by decide +kernel
theorem dX4_move_32 : decode cX4_move 32 = .ok (.athrow, 1) := by decide +kernel
theorem dX4_move_33 : decode cX4_move 33 = .ok (.aload_n 3, 1) := by decide +kernel
theorem dX4_move_34 : decode cX4_move 34 = .ok (.iload_n 2, 1) := by decide +kernel
theorem dX4_move_35 : decode cX4_move 35 = .ok (.putfield 79, 3) := by decide +kernel
theorem dX4_move_38 : decode cX4_move 38 = .ok (.aload_n 3, 1) := by decide +kernel
theorem dX4_move_39 : decode cX4_move 39 = .ok (.getfield 75, 3) := by decide +kernel
theorem dX4_move_42 : decode cX4_move 42 = .ok (.ifnull 19, 3) := by decide +kernel
theorem dX4_move_45 : decode cX4_move 45 = .ok (.aload_n 3, 1) := by decide +kernel
theorem dX4_move_46 : decode cX4_move 46 = .ok (.getfield 75, 3) := by decide +kernel
theorem dX4_move_49 : decode cX4_move 49 = .ok (.iload_n 2, 1) := by decide +kernel
theorem dX4_move_50 : decode cX4_move 50 = .ok (.invokevirtual 102, 3) := by decide +kernel
theorem dX4_move_53 : decode cX4_move 53 = .ok (.ifCond .ne 8, 3) := by decide +kernel
theorem dX4_move_56 : decode cX4_move 56 = .ok (.aload_n 0, 1) := by decide +kernel
theorem dX4_move_57 : decode cX4_move 57 = .ok (.aload_n 3, 1) := by decide +kernel
theorem dX4_move_58 : decode cX4_move 58 = .ok (.invokevirtual 105, 3) := by decide +kernel
theorem dX4_move_61 : decode cX4_move 61 = .ok (.aload_n 3, 1) := by decide +kernel
theorem dX4_move_62 : decode cX4_move 62 = .ok (.invokevirtual 95, 3) := by decide +kernel
theorem dX4_move_65 : decode cX4_move 65 = .ok (.ireturn, 1) := by decide +kernel
theorem dX4_pass_0 : decode cX4_pass 0 = .ok (.iload_n 1, 1) := by decide +kernel
theorem dX4_pass_1 : decode cX4_pass 1 = .ok (.iconst 1, 1) := by decide +kernel
theorem dX4_pass_2 : decode cX4_pass 2 = .ok (.bipush 100, 2) := by decide +kernel
theorem dX4_pass_4 : decode cX4_pass 4 = .ok (.invokestatic 29, 3) := by decide +kernel
theorem dX4_pass_7 : decode cX4_pass 7 = .ok (.ifCond .ne 11, 3) := by decide +kernel
theorem dX4_pass_10 : decode cX4_pass 10 = .ok (.new 33, 3) := by decide +kernel
theorem dX4_pass_13 : decode cX4_pass 13 = .ok (.dup, 1) := by decide +kernel
theorem dX4_pass_14 : decode cX4_pass 14 = .ok (.invokespecial 35, 3) := by decide +kernel
theorem dX4_pass_17 : decode cX4_pass 17 = .ok (.athrow, 1) := by decide +kernel
theorem dX4_pass_18 : decode cX4_pass 18 = .ok (.aload_n 0, 1) := by decide +kernel
theorem dX4_pass_19 : decode cX4_pass 19 = .ok (.getfield 52, 3) := by decide +kernel
theorem dX4_pass_22 : decode cX4_pass 22 = .ok (.iload_n 1, 1) := by decide +kernel
theorem dX4_pass_23 : decode cX4_pass 23 = .ok (.iadd, 1) := by decide +kernel
theorem dX4_pass_24 : decode cX4_pass 24 = .ok (.sipush 10000, 3) := by decide +kernel
theorem dX4_pass_27 : decode cX4_pass 27 = .ok (.if_icmp .le 11, 3) := by decide +kernel
theorem dX4_pass_30 : decode cX4_pass 30 = .ok (.new 39, 3) := by decide +kernel
theorem dX4_pass_33 : decode cX4_pass 33 = .ok (.dup, 1) := by decide +kernel
theorem dX4_pass_34 : decode cX4_pass 34 = .ok (.invokespecial 41, 3) := by decide +kernel
theorem dX4_pass_37 : decode cX4_pass 37 = .ok (.athrow, 1) := by decide +kernel
theorem dX4_pass_38 : decode cX4_pass 38 = .ok (.iconst 0, 1) := by decide +kernel
theorem dX4_pass_39 : decode cX4_pass 39 = .ok (.istore_n 2, 1) := by decide +kernel
theorem dX4_pass_40 : decode cX4_pass 40 = .ok (.iload_n 2, 1) := by decide +kernel
theorem dX4_pass_41 : decode cX4_pass 41 = .ok (.iload_n 1, 1) := by decide +kernel
theorem dX4_pass_42 : decode cX4_pass 42 = .ok (.if_icmp .ge 13, 3) := by decide +kernel
theorem dX4_pass_45 : decode cX4_pass 45 = .ok (.aload_n 0, 1) := by decide +kernel
theorem dX4_pass_46 : decode cX4_pass 46 = .ok (.invokevirtual 109, 3) := by decide +kernel
theorem dX4_pass_49 : decode cX4_pass 49 = .ok (.iinc 2 1, 3) := by decide +kernel
theorem dX4_pass_52 : decode cX4_pass 52 = .ok (.goto (-12), 3) := by decide +kernel
theorem dX4_pass_55 : decode cX4_pass 55 = .ok (.aload_n 0, 1) := by decide +kernel
theorem dX4_pass_56 : decode cX4_pass 56 = .ok (.getfield 52, 3) := by decide +kernel
theorem dX4_pass_59 : decode cX4_pass 59 = .ok (.ireturn, 1) := by decide +kernel
theorem dX4_ofMast_0 : decode cX4_ofMast 0 = .ok (.aload_n 0, 1) := by decide +kernel
theorem dX4_ofMast_1 : decode cX4_ofMast 1 = .ok (.iload_n 1, 1) := by decide +kernel
theorem dX4_ofMast_2 : decode cX4_ofMast 2 = .ok (.invokevirtual 42, 3) := by decide +kernel
theorem dX4_ofMast_5 : decode cX4_ofMast 5 = .ok (.astore_n 3, 1) := by decide +kernel
theorem dX4_ofMast_6 : decode cX4_ofMast 6 = .ok (.aload_n 3, 1) := by decide +kernel
theorem dX4_ofMast_7 : decode cX4_ofMast 7 = .ok (.ifnonnull 11, 3) := by decide +kernel
theorem dX4_ofMast_10 : decode cX4_ofMast 10 = .ok (.new 49, 3) := by decide +kernel
theorem dX4_ofMast_13 : decode cX4_ofMast 13 = .ok (.dup, 1) := by decide +kernel
theorem dX4_ofMast_14 : decode cX4_ofMast 14 = .ok (.invokespecial 51, 3) := by decide +kernel
theorem dX4_ofMast_17 : decode cX4_ofMast 17 = .ok (.athrow, 1) := by decide +kernel
theorem dX4_ofMast_18 : decode cX4_ofMast 18 = .ok (.iload_n 2, 1) := by decide +kernel
theorem dX4_ofMast_19 : decode cX4_ofMast 19 = .ok (.tableswitch 89 0 5 #[37, 50, 55, 60, 65, 70], 37) := by decide +kernel
theorem dX4_ofMast_56 : decode cX4_ofMast 56 = .ok (.aload_n 3, 1) := by decide +kernel
theorem dX4_ofMast_57 : decode cX4_ofMast 57 = .ok (.invokevirtual 112, 3) := by decide +kernel
theorem dX4_ofMast_60 : decode cX4_ofMast 60 = .ok (.ifCond .eq 7, 3) := by decide +kernel
theorem dX4_ofMast_63 : decode cX4_ofMast 63 = .ok (.iconst 1, 1) := by decide +kernel
theorem dX4_ofMast_64 : decode cX4_ofMast 64 = .ok (.goto 4, 3) := by decide +kernel
theorem dX4_ofMast_67 : decode cX4_ofMast 67 = .ok (.iconst 0, 1) := by decide +kernel
theorem dX4_ofMast_68 : decode cX4_ofMast 68 = .ok (.ireturn, 1) := by decide +kernel
theorem dX4_ofMast_69 : decode cX4_ofMast 69 = .ok (.aload_n 3, 1) := by decide +kernel
theorem dX4_ofMast_70 : decode cX4_ofMast 70 = .ok (.getfield 116, 3) := by decide +kernel
theorem dX4_ofMast_73 : decode cX4_ofMast 73 = .ok (.ireturn, 1) := by decide +kernel
theorem dX4_ofMast_74 : decode cX4_ofMast 74 = .ok (.aload_n 3, 1) := by decide +kernel
theorem dX4_ofMast_75 : decode cX4_ofMast 75 = .ok (.getfield 119, 3) := by decide +kernel
theorem dX4_ofMast_78 : decode cX4_ofMast 78 = .ok (.ireturn, 1) := by decide +kernel
theorem dX4_ofMast_79 : decode cX4_ofMast 79 = .ok (.aload_n 3, 1) := by decide +kernel
theorem dX4_ofMast_80 : decode cX4_ofMast 80 = .ok (.getfield 122, 3) := by decide +kernel
theorem dX4_ofMast_83 : decode cX4_ofMast 83 = .ok (.ireturn, 1) := by decide +kernel
theorem dX4_ofMast_84 : decode cX4_ofMast 84 = .ok (.aload_n 3, 1) := by decide +kernel
theorem dX4_ofMast_85 : decode cX4_ofMast 85 = .ok (.getfield 125, 3) := by decide +kernel
theorem dX4_ofMast_88 : decode cX4_ofMast 88 = .ok (.ireturn, 1) := by decide +kernel
theorem dX4_ofMast_89 : decode cX4_ofMast 89 = .ok (.aload_n 3, 1) := by decide +kernel
theorem dX4_ofMast_90 : decode cX4_ofMast 90 = .ok (.getfield 56, 3) := by decide +kernel
theorem dX4_ofMast_93 : decode cX4_ofMast 93 = .ok (.ifnonnull 7, 3) := by decide +kernel
theorem dX4_ofMast_96 : decode cX4_ofMast 96 = .ok (.iconst (-1), 1) := by decide +kernel
theorem dX4_ofMast_97 : decode cX4_ofMast 97 = .ok (.goto 10, 3) := by decide +kernel
theorem dX4_ofMast_100 : decode cX4_ofMast 100 = .ok (.aload_n 3, 1) := by decide +kernel
theorem dX4_ofMast_101 : decode cX4_ofMast 101 = .ok (.getfield 56, 3) := by decide +kernel
theorem dX4_ofMast_104 : decode cX4_ofMast 104 = .ok (.getfield 128, 3) := by decide +kernel
theorem dX4_ofMast_107 : decode cX4_ofMast 107 = .ok (.ireturn, 1) := by decide +kernel
theorem dX4_ofMast_108 : decode cX4_ofMast 108 = .ok (.new 33, 3) := by decide +kernel
theorem dX4_ofMast_111 : decode cX4_ofMast 111 = .ok (.dup, 1) := by decide +kernel
theorem dX4_ofMast_112 : decode cX4_ofMast 112 = .ok (.invokespecial 35, 3) := by decide +kernel
theorem dX4_ofMast_115 : decode cX4_ofMast 115 = .ok (.athrow, 1) := by decide +kernel
theorem dX4_trafficAnew_0 : decode cX4_trafficAnew 0 = .ok (.aload_n 0, 1) := by decide +kernel
theorem dX4_trafficAnew_1 : decode cX4_trafficAnew 1 = .ok (.iload_n 1, 1) := by decide +kernel
theorem dX4_trafficAnew_2 : decode cX4_trafficAnew 2 = .ok (.invokevirtual 42, 3) := by decide +kernel
theorem dX4_trafficAnew_5 : decode cX4_trafficAnew 5 = .ok (.astore_n 2, 1) := by decide +kernel
theorem dX4_trafficAnew_6 : decode cX4_trafficAnew 6 = .ok (.aload_n 2, 1) := by decide +kernel
theorem dX4_trafficAnew_7 : decode cX4_trafficAnew 7 = .ok (.ifnonnull 11, 3) := by decide +kernel
theorem dX4_trafficAnew_10 : decode cX4_trafficAnew 10 = .ok (.new 49, 3) := by decide +kernel
theorem dX4_trafficAnew_13 : decode cX4_trafficAnew 13 = .ok (.dup, 1) := by decide +kernel
theorem dX4_trafficAnew_14 : decode cX4_trafficAnew 14 = .ok (.invokespecial 51, 3) := by decide +kernel
theorem dX4_trafficAnew_17 : decode cX4_trafficAnew 17 = .ok (.athrow, 1) := by decide +kernel
theorem dX4_trafficAnew_18 : decode cX4_trafficAnew 18 = .ok (.aload_n 2, 1) := by decide +kernel
theorem dX4_trafficAnew_19 : decode cX4_trafficAnew 19 = .ok (.invokevirtual 131, 3) := by decide +kernel
theorem dX4_trafficAnew_22 : decode cX4_trafficAnew 22 = .ok (.istore_n 3, 1) := by decide +kernel
theorem dX4_trafficAnew_23 : decode cX4_trafficAnew 23 = .ok (.aload_n 0, 1) := by decide +kernel
theorem dX4_trafficAnew_24 : decode cX4_trafficAnew 24 = .ok (.getfield 17, 3) := by decide +kernel
theorem dX4_trafficAnew_27 : decode cX4_trafficAnew 27 = .ok (.astore 4, 2) := by decide +kernel
theorem dX4_trafficAnew_29 : decode cX4_trafficAnew 29 = .ok (.aload 4, 2) := by decide +kernel
theorem dX4_trafficAnew_31 : decode cX4_trafficAnew 31 = .ok (.arraylength, 1) := by decide +kernel
theorem dX4_trafficAnew_32 : decode cX4_trafficAnew 32 = .ok (.istore 5, 2) := by decide +kernel
theorem dX4_trafficAnew_34 : decode cX4_trafficAnew 34 = .ok (.iconst 0, 1) := by decide +kernel
theorem dX4_trafficAnew_35 : decode cX4_trafficAnew 35 = .ok (.istore 6, 2) := by decide +kernel
theorem dX4_trafficAnew_37 : decode cX4_trafficAnew 37 = .ok (.iload 6, 2) := by decide +kernel
theorem dX4_trafficAnew_39 : decode cX4_trafficAnew 39 = .ok (.iload 5, 2) := by decide +kernel
theorem dX4_trafficAnew_41 : decode cX4_trafficAnew 41 = .ok (.if_icmp .ge 43, 3) := by decide +kernel
theorem dX4_trafficAnew_44 : decode cX4_trafficAnew 44 = .ok (.aload 4, 2) := by decide +kernel
theorem dX4_trafficAnew_46 : decode cX4_trafficAnew 46 = .ok (.iload 6, 2) := by decide +kernel
theorem dX4_trafficAnew_48 : decode cX4_trafficAnew 48 = .ok (.aaload, 1) := by decide +kernel
theorem dX4_trafficAnew_49 : decode cX4_trafficAnew 49 = .ok (.astore 7, 2) := by decide +kernel
theorem dX4_trafficAnew_51 : decode cX4_trafficAnew 51 = .ok (.aload 7, 2) := by decide +kernel
theorem dX4_trafficAnew_53 : decode cX4_trafficAnew 53 = .ok (.ifnull 25, 3) := by decide +kernel
theorem dX4_trafficAnew_56 : decode cX4_trafficAnew 56 = .ok (.aload 7, 2) := by decide +kernel
theorem dX4_trafficAnew_58 : decode cX4_trafficAnew 58 = .ok (.getfield 75, 3) := by decide +kernel
theorem dX4_trafficAnew_61 : decode cX4_trafficAnew 61 = .ok (.aload_n 2, 1) := by decide +kernel
theorem dX4_trafficAnew_62 : decode cX4_trafficAnew 62 = .ok (.if_acmp .ne 16, 3) := by decide +kernel
theorem dX4_trafficAnew_65 : decode cX4_trafficAnew 65 = .ok (.iload_n 3, 1) := by decide +kernel
theorem dX4_trafficAnew_66 : decode cX4_trafficAnew 66 = .ok (.aload_n 0, 1) := by decide +kernel
theorem dX4_trafficAnew_67 : decode cX4_trafficAnew 67 = .ok (.getfield 52, 3) := by decide +kernel
theorem dX4_trafficAnew_70 : decode cX4_trafficAnew 70 = .ok (.aload 7, 2) := by decide +kernel
theorem dX4_trafficAnew_72 : decode cX4_trafficAnew 72 = .ok (.getfield 134, 3) := by decide +kernel
theorem dX4_trafficAnew_75 : decode cX4_trafficAnew 75 = .ok (.isub, 1) := by decide +kernel
theorem dX4_trafficAnew_76 : decode cX4_trafficAnew 76 = .ok (.iadd, 1) := by decide +kernel
theorem dX4_trafficAnew_77 : decode cX4_trafficAnew 77 = .ok (.istore_n 3, 1) := by decide +kernel
theorem dX4_trafficAnew_78 : decode cX4_trafficAnew 78 = .ok (.iinc 6 1, 3) := by decide +kernel
theorem dX4_trafficAnew_81 : decode cX4_trafficAnew 81 = .ok (.goto (-44), 3) := by decide +kernel
theorem dX4_trafficAnew_84 : decode cX4_trafficAnew 84 = .ok (.iload_n 3, 1) := by decide +kernel
theorem dX4_trafficAnew_85 : decode cX4_trafficAnew 85 = .ok (.ireturn, 1) := by decide +kernel
theorem dX4_ofPhone_0 : decode cX4_ofPhone 0 = .ok (.aload_n 0, 1) := by decide +kernel
theorem dX4_ofPhone_1 : decode cX4_ofPhone 1 = .ok (.iload_n 1, 1) := by decide +kernel
theorem dX4_ofPhone_2 : decode cX4_ofPhone 2 = .ok (.invokevirtual 71, 3) := by decide +kernel
theorem dX4_ofPhone_5 : decode cX4_ofPhone 5 = .ok (.astore_n 3, 1) := by decide +kernel
theorem dX4_ofPhone_6 : decode cX4_ofPhone 6 = .ok (.aload_n 3, 1) := by decide +kernel
theorem dX4_ofPhone_7 : decode cX4_ofPhone 7 = .ok (.ifnonnull 11, 3) := by decide +kernel
theorem dX4_ofPhone_10 : decode cX4_ofPhone 10 = .ok (.new 49, 3) := by decide +kernel
theorem dX4_ofPhone_13 : decode cX4_ofPhone 13 = .ok (.dup, 1) := by decide +kernel
theorem dX4_ofPhone_14 : decode cX4_ofPhone 14 = .ok (.invokespecial 51, 3) := by decide +kernel
theorem dX4_ofPhone_17 : decode cX4_ofPhone 17 = .ok (.athrow, 1) := by decide +kernel
theorem dX4_ofPhone_18 : decode cX4_ofPhone 18 = .ok (.iload_n 2, 1) := by decide +kernel
theorem dX4_ofPhone_19 : decode cX4_ofPhone 19 = .ok (.tableswitch 58 0 4 #[33, 38, 43, 48, 53], 33) := by decide +kernel
theorem dX4_ofPhone_52 : decode cX4_ofPhone 52 = .ok (.aload_n 3, 1) := by decide +kernel
theorem dX4_ofPhone_53 : decode cX4_ofPhone 53 = .ok (.getfield 79, 3) := by decide +kernel
theorem dX4_ofPhone_56 : decode cX4_ofPhone 56 = .ok (.ireturn, 1) := by decide +kernel
theorem dX4_ofPhone_57 : decode cX4_ofPhone 57 = .ok (.aload_n 3, 1) := by decide +kernel
theorem dX4_ofPhone_58 : decode cX4_ofPhone 58 = .ok (.invokevirtual 95, 3) := by decide +kernel
theorem dX4_ofPhone_61 : decode cX4_ofPhone 61 = .ok (.ireturn, 1) := by decide +kernel
theorem dX4_ofPhone_62 : decode cX4_ofPhone 62 = .ok (.aload_n 3, 1) := by decide +kernel
theorem dX4_ofPhone_63 : decode cX4_ofPhone 63 = .ok (.getfield 85, 3) := by decide +kernel
theorem dX4_ofPhone_66 : decode cX4_ofPhone 66 = .ok (.ireturn, 1) := by decide +kernel
theorem dX4_ofPhone_67 : decode cX4_ofPhone 67 = .ok (.aload_n 3, 1) := by decide +kernel
theorem dX4_ofPhone_68 : decode cX4_ofPhone 68 = .ok (.getfield 137, 3) := by decide +kernel
theorem dX4_ofPhone_71 : decode cX4_ofPhone 71 = .ok (.ireturn, 1) := by decide +kernel
theorem dX4_ofPhone_72 : decode cX4_ofPhone 72 = .ok (.aload_n 3, 1) := by decide +kernel
theorem dX4_ofPhone_73 : decode cX4_ofPhone 73 = .ok (.getfield 140, 3) := by decide +kernel
theorem dX4_ofPhone_76 : decode cX4_ofPhone 76 = .ok (.ireturn, 1) := by decide +kernel
theorem dX4_ofPhone_77 : decode cX4_ofPhone 77 = .ok (.new 33, 3) := by decide +kernel
theorem dX4_ofPhone_80 : decode cX4_ofPhone 80 = .ok (.dup, 1) := by decide +kernel
theorem dX4_ofPhone_81 : decode cX4_ofPhone 81 = .ok (.invokespecial 35, 3) := by decide +kernel
theorem dX4_ofPhone_84 : decode cX4_ofPhone 84 = .ok (.athrow, 1) := by decide +kernel
theorem dX4_strength_0 : decode cX4_strength 0 = .ok (.aload_n 0, 1) := by decide +kernel
theorem dX4_strength_1 : decode cX4_strength 1 = .ok (.iload_n 1, 1) := by decide +kernel
theorem dX4_strength_2 : decode cX4_strength 2 = .ok (.invokevirtual 71, 3) := by decide +kernel
theorem dX4_strength_5 : decode cX4_strength 5 = .ok (.astore_n 2, 1) := by decide +kernel
theorem dX4_strength_6 : decode cX4_strength 6 = .ok (.aload_n 2, 1) := by decide +kernel
theorem dX4_strength_7 : decode cX4_strength 7 = .ok (.ifnonnull 11, 3) := by decide +kernel
theorem dX4_strength_10 : decode cX4_strength 10 = .ok (.new 49, 3) := by decide +kernel
theorem dX4_strength_13 : decode cX4_strength 13 = .ok (.dup, 1) := by decide +kernel
theorem dX4_strength_14 : decode cX4_strength 14 = .ok (.invokespecial 51, 3) := by decide +kernel
theorem dX4_strength_17 : decode cX4_strength 17 = .ok (.athrow, 1) := by decide +kernel
theorem dX4_strength_18 : decode cX4_strength 18 = .ok (.aload_n 2, 1) := by decide +kernel
theorem dX4_strength_19 : decode cX4_strength 19 = .ok (.getfield 75, 3) := by decide +kernel
theorem dX4_strength_22 : decode cX4_strength 22 = .ok (.astore_n 3, 1) := by decide +kernel
theorem dX4_strength_23 : decode cX4_strength 23 = .ok (.aload_n 3, 1) := by decide +kernel
theorem dX4_strength_24 : decode cX4_strength 24 = .ok (.ifnull 11, 3) := by decide +kernel
theorem dX4_strength_27 : decode cX4_strength 27 = .ok (.aload_n 3, 1) := by decide +kernel
theorem dX4_strength_28 : decode cX4_strength 28 = .ok (.getfield 143, 3) := by decide +kernel
theorem dX4_strength_31 : decode cX4_strength 31 = .ok (.iconst 1, 1) := by decide +kernel
theorem dX4_strength_32 : decode cX4_strength 32 = .ok (.if_icmp .ge 5, 3) := by decide +kernel
theorem dX4_strength_35 : decode cX4_strength 35 = .ok (.fconst 0, 1) := by decide +kernel
theorem dX4_strength_36 : decode cX4_strength 36 = .ok (.freturn, 1) := by decide +kernel
theorem dX4_strength_37 : decode cX4_strength 37 = .ok (.fconst 1, 1) := by decide +kernel
theorem dX4_strength_38 : decode cX4_strength 38 = .ok (.aload_n 3, 1) := by decide +kernel
theorem dX4_strength_39 : decode cX4_strength 39 = .ok (.aload_n 2, 1) := by decide +kernel
theorem dX4_strength_40 : decode cX4_strength 40 = .ok (.getfield 79, 3) := by decide +kernel
theorem dX4_strength_43 : decode cX4_strength 43 = .ok (.invokevirtual 146, 3) := by decide +kernel
theorem dX4_strength_46 : decode cX4_strength 46 = .ok (.i2f, 1) := by decide +kernel
theorem dX4_strength_47 : decode cX4_strength 47 = .ok (.aload_n 3, 1) := by decide +kernel
theorem dX4_strength_48 : decode cX4_strength 48 = .ok (.getfield 143, 3) := by decide +kernel
theorem dX4_strength_51 : decode cX4_strength 51 = .ok (.i2f, 1) := by decide +kernel
theorem dX4_strength_52 : decode cX4_strength 52 = .ok (.fdiv, 1) := by decide +kernel
theorem dX4_strength_53 : decode cX4_strength 53 = .ok (.fsub, 1) := by decide +kernel
theorem dX4_strength_54 : decode cX4_strength 54 = .ok (.freturn, 1) := by decide +kernel
theorem dX4_paid_0 : decode cX4_paid 0 = .ok (.iload_n 1, 1) := by decide +kernel
theorem dX4_paid_1 : decode cX4_paid 1 = .ok (.invokestatic 46, 3) := by decide +kernel
theorem dX4_paid_4 : decode cX4_paid 4 = .ok (.ifCond .ne 11, 3) := by decide +kernel
theorem dX4_paid_7 : decode cX4_paid 7 = .ok (.new 49, 3) := by decide +kernel
theorem dX4_paid_10 : decode cX4_paid 10 = .ok (.dup, 1) := by decide +kernel
theorem dX4_paid_11 : decode cX4_paid 11 = .ok (.invokespecial 51, 3) := by decide +kernel
theorem dX4_paid_14 : decode cX4_paid 14 = .ok (.athrow, 1) := by decide +kernel
theorem dX4_paid_15 : decode cX4_paid 15 = .ok (.aload_n 0, 1) := by decide +kernel
theorem dX4_paid_16 : decode cX4_paid 16 = .ok (.getfield 21, 3) := by decide +kernel
theorem dX4_paid_19 : decode cX4_paid 19 = .ok (.iload_n 1, 1) := by decide +kernel
theorem dX4_paid_20 : decode cX4_paid 20 = .ok (.iaload, 1) := by decide +kernel
theorem dX4_paid_21 : decode cX4_paid 21 = .ok (.ireturn, 1) := by decide +kernel
theorem dX4_holes_0 : decode cX4_holes 0 = .ok (.iconst 0, 1) := by decide +kernel
theorem dX4_holes_1 : decode cX4_holes 1 = .ok (.istore_n 1, 1) := by decide +kernel
theorem dX4_holes_2 : decode cX4_holes 2 = .ok (.iconst 0, 1) := by decide +kernel
theorem dX4_holes_3 : decode cX4_holes 3 = .ok (.istore_n 2, 1) := by decide +kernel
theorem dX4_holes_4 : decode cX4_holes 4 = .ok (.iload_n 2, 1) := by decide +kernel
theorem dX4_holes_5 : decode cX4_holes 5 = .ok (.bipush 100, 2) := by decide +kernel
theorem dX4_holes_7 : decode cX4_holes 7 = .ok (.if_icmp .ge 20, 3) := by decide +kernel
theorem dX4_holes_10 : decode cX4_holes 10 = .ok (.aload_n 0, 1) := by decide +kernel
theorem dX4_holes_11 : decode cX4_holes 11 = .ok (.iload_n 2, 1) := by decide +kernel
theorem dX4_holes_12 : decode cX4_holes 12 = .ok (.invokevirtual 150, 3) := by decide +kernel
theorem dX4_holes_15 : decode cX4_holes 15 = .ok (.ifCond .ne 6, 3) := by decide +kernel
theorem dX4_holes_18 : decode cX4_holes 18 = .ok (.iinc 1 1, 3) := by decide +kernel
theorem dX4_holes_21 : decode cX4_holes 21 = .ok (.iinc 2 1, 3) := by decide +kernel
theorem dX4_holes_24 : decode cX4_holes 24 = .ok (.goto (-20), 3) := by decide +kernel
theorem dX4_holes_27 : decode cX4_holes 27 = .ok (.iload_n 1, 1) := by decide +kernel
theorem dX4_holes_28 : decode cX4_holes 28 = .ok (.ireturn, 1) := by decide +kernel
theorem dX4_isWithin_0 : decode cX4_isWithin 0 = .ok (.iload_n 1, 1) := by decide +kernel
theorem dX4_isWithin_1 : decode cX4_isWithin 1 = .ok (.iload_n 0, 1) := by decide +kernel
theorem dX4_isWithin_2 : decode cX4_isWithin 2 = .ok (.if_icmp .gt 12, 3) := by decide +kernel
theorem dX4_isWithin_5 : decode cX4_isWithin 5 = .ok (.iload_n 0, 1) := by decide +kernel
theorem dX4_isWithin_6 : decode cX4_isWithin 6 = .ok (.iload_n 2, 1) := by decide +kernel
theorem dX4_isWithin_7 : decode cX4_isWithin 7 = .ok (.if_icmp .gt 7, 3) := by decide +kernel
theorem dX4_isWithin_10 : decode cX4_isWithin 10 = .ok (.iconst 1, 1) := by decide +kernel
theorem dX4_isWithin_11 : decode cX4_isWithin 11 = .ok (.goto 4, 3) := by decide +kernel
theorem dX4_isWithin_14 : decode cX4_isWithin 14 = .ok (.iconst 0, 1) := by decide +kernel
theorem dX4_isWithin_15 : decode cX4_isWithin 15 = .ok (.ireturn, 1) := by decide +kernel
theorem dX4_isPlace_0 : decode cX4_isPlace 0 = .ok (.iload_n 0, 1) := by decide +kernel
theorem dX4_isPlace_1 : decode cX4_isPlace 1 = .ok (.iconst 0, 1) := by decide +kernel
theorem dX4_isPlace_2 : decode cX4_isPlace 2 = .ok (.bipush 99, 2) := by decide +kernel
theorem dX4_isPlace_4 : decode cX4_isPlace 4 = .ok (.invokestatic 29, 3) := by decide +kernel
theorem dX4_isPlace_7 : decode cX4_isPlace 7 = .ok (.ireturn, 1) := by decide +kernel
theorem dX4_isFarmer_0 : decode cX4_isFarmer 0 = .ok (.iload_n 0, 1) := by decide +kernel
theorem dX4_isFarmer_1 : decode cX4_isFarmer 1 = .ok (.iconst 0, 1) := by decide +kernel
theorem dX4_isFarmer_2 : decode cX4_isFarmer 2 = .ok (.iconst 5, 1) := by decide +kernel
theorem dX4_isFarmer_3 : decode cX4_isFarmer 3 = .ok (.invokestatic 29, 3) := by decide +kernel
theorem dX4_isFarmer_6 : decode cX4_isFarmer 6 = .ok (.ireturn, 1) := by decide +kernel
theorem dX4_mastAt_0 : decode cX4_mastAt 0 = .ok (.iload_n 1, 1) := by decide +kernel
theorem dX4_mastAt_1 : decode cX4_mastAt 1 = .ok (.iconst 0, 1) := by decide +kernel
theorem dX4_mastAt_2 : decode cX4_mastAt 2 = .ok (.aload_n 0, 1) := by decide +kernel
theorem dX4_mastAt_3 : decode cX4_mastAt 3 = .ok (.getfield 11, 3) := by decide +kernel
theorem dX4_mastAt_6 : decode cX4_mastAt 6 = .ok (.arraylength, 1) := by decide +kernel
theorem dX4_mastAt_7 : decode cX4_mastAt 7 = .ok (.iconst 1, 1) := by decide +kernel
theorem dX4_mastAt_8 : decode cX4_mastAt 8 = .ok (.isub, 1) := by decide +kernel
theorem dX4_mastAt_9 : decode cX4_mastAt 9 = .ok (.invokestatic 29, 3) := by decide +kernel
theorem dX4_mastAt_12 : decode cX4_mastAt 12 = .ok (.ifCond .eq 12, 3) := by decide +kernel
theorem dX4_mastAt_15 : decode cX4_mastAt 15 = .ok (.aload_n 0, 1) := by decide +kernel
theorem dX4_mastAt_16 : decode cX4_mastAt 16 = .ok (.getfield 11, 3) := by decide +kernel
theorem dX4_mastAt_19 : decode cX4_mastAt 19 = .ok (.iload_n 1, 1) := by decide +kernel
theorem dX4_mastAt_20 : decode cX4_mastAt 20 = .ok (.aaload, 1) := by decide +kernel
theorem dX4_mastAt_21 : decode cX4_mastAt 21 = .ok (.goto 4, 3) := by decide +kernel
theorem dX4_mastAt_24 : decode cX4_mastAt 24 = .ok (.aconst_null, 1) := by decide +kernel
theorem dX4_mastAt_25 : decode cX4_mastAt 25 = .ok (.areturn, 1) := by decide +kernel
theorem dX4_phoneAt_0 : decode cX4_phoneAt 0 = .ok (.iload_n 1, 1) := by decide +kernel
theorem dX4_phoneAt_1 : decode cX4_phoneAt 1 = .ok (.iconst 0, 1) := by decide +kernel
theorem dX4_phoneAt_2 : decode cX4_phoneAt 2 = .ok (.aload_n 0, 1) := by decide +kernel
theorem dX4_phoneAt_3 : decode cX4_phoneAt 3 = .ok (.getfield 17, 3) := by decide +kernel
theorem dX4_phoneAt_6 : decode cX4_phoneAt 6 = .ok (.arraylength, 1) := by decide +kernel
theorem dX4_phoneAt_7 : decode cX4_phoneAt 7 = .ok (.iconst 1, 1) := by decide +kernel
theorem dX4_phoneAt_8 : decode cX4_phoneAt 8 = .ok (.isub, 1) := by decide +kernel
theorem dX4_phoneAt_9 : decode cX4_phoneAt 9 = .ok (.invokestatic 29, 3) := by decide +kernel
theorem dX4_phoneAt_12 : decode cX4_phoneAt 12 = .ok (.ifCond .eq 12, 3) := by decide +kernel
theorem dX4_phoneAt_15 : decode cX4_phoneAt 15 = .ok (.aload_n 0, 1) := by decide +kernel
theorem dX4_phoneAt_16 : decode cX4_phoneAt 16 = .ok (.getfield 17, 3) := by decide +kernel
theorem dX4_phoneAt_19 : decode cX4_phoneAt 19 = .ok (.iload_n 1, 1) := by decide +kernel
theorem dX4_phoneAt_20 : decode cX4_phoneAt 20 = .ok (.aaload, 1) := by decide +kernel
theorem dX4_phoneAt_21 : decode cX4_phoneAt 21 = .ok (.goto 4, 3) := by decide +kernel
theorem dX4_phoneAt_24 : decode cX4_phoneAt 24 = .ok (.aconst_null, 1) := by decide +kernel
theorem dX4_phoneAt_25 : decode cX4_phoneAt 25 = .ok (.areturn, 1) := by decide +kernel
theorem dX4_isCovered_0 : decode cX4_isCovered 0 = .ok (.aload_n 0, 1) := by decide +kernel
theorem dX4_isCovered_1 : decode cX4_isCovered 1 = .ok (.getfield 11, 3) := by decide +kernel
theorem dX4_isCovered_4 : decode cX4_isCovered 4 = .ok (.astore_n 2, 1) := by decide +kernel
theorem dX4_isCovered_5 : decode cX4_isCovered 5 = .ok (.aload_n 2, 1) := by decide +kernel
theorem dX4_isCovered_6 : decode cX4_isCovered 6 = .ok (.arraylength, 1) := by decide +kernel
theorem dX4_isCovered_7 : decode cX4_isCovered 7 = .ok (.istore_n 3, 1) := by decide +kernel
theorem dX4_isCovered_8 : decode cX4_isCovered 8 = .ok (.iconst 0, 1) := by decide +kernel
theorem dX4_isCovered_9 : decode cX4_isCovered 9 = .ok (.istore 4, 2) := by decide +kernel
theorem dX4_isCovered_11 : decode cX4_isCovered 11 = .ok (.iload 4, 2) := by decide +kernel
theorem dX4_isCovered_13 : decode cX4_isCovered 13 = .ok (.iload_n 3, 1) := by decide +kernel
theorem dX4_isCovered_14 : decode cX4_isCovered 14 = .ok (.if_icmp .ge 39, 3) := by decide +kernel
theorem dX4_isCovered_17 : decode cX4_isCovered 17 = .ok (.aload_n 2, 1) := by decide +kernel
theorem dX4_isCovered_18 : decode cX4_isCovered 18 = .ok (.iload 4, 2) := by decide +kernel
theorem dX4_isCovered_20 : decode cX4_isCovered 20 = .ok (.aaload, 1) := by decide +kernel
theorem dX4_isCovered_21 : decode cX4_isCovered 21 = .ok (.astore 5, 2) := by decide +kernel
theorem dX4_isCovered_23 : decode cX4_isCovered 23 = .ok (.aload 5, 2) := by decide +kernel
theorem dX4_isCovered_25 : decode cX4_isCovered 25 = .ok (.ifnull 22, 3) := by decide +kernel
theorem dX4_isCovered_28 : decode cX4_isCovered 28 = .ok (.aload 5, 2) := by decide +kernel
theorem dX4_isCovered_30 : decode cX4_isCovered 30 = .ok (.invokevirtual 112, 3) := by decide +kernel
theorem dX4_isCovered_33 : decode cX4_isCovered 33 = .ok (.ifCond .eq 14, 3) := by decide +kernel
theorem dX4_isCovered_36 : decode cX4_isCovered 36 = .ok (.aload 5, 2) := by decide +kernel
theorem dX4_isCovered_38 : decode cX4_isCovered 38 = .ok (.iload_n 1, 1) := by decide +kernel
theorem dX4_isCovered_39 : decode cX4_isCovered 39 = .ok (.invokevirtual 102, 3) := by decide +kernel
theorem dX4_isCovered_42 : decode cX4_isCovered 42 = .ok (.ifCond .eq 5, 3) := by decide +kernel
theorem dX4_isCovered_45 : decode cX4_isCovered 45 = .ok (.iconst 1, 1) := by decide +kernel
theorem dX4_isCovered_46 : decode cX4_isCovered 46 = .ok (.ireturn, 1) := by decide +kernel
theorem dX4_isCovered_47 : decode cX4_isCovered 47 = .ok (.iinc 4 1, 3) := by decide +kernel
theorem dX4_isCovered_50 : decode cX4_isCovered 50 = .ok (.goto (-39), 3) := by decide +kernel
theorem dX4_isCovered_53 : decode cX4_isCovered 53 = .ok (.iconst 0, 1) := by decide +kernel
theorem dX4_isCovered_54 : decode cX4_isCovered 54 = .ok (.ireturn, 1) := by decide +kernel
theorem dX4_nearestFree_0 : decode cX4_nearestFree 0 = .ok (.aconst_null, 1) := by decide +kernel
theorem dX4_nearestFree_1 : decode cX4_nearestFree 1 = .ok (.astore_n 2, 1) := by decide +kernel
theorem dX4_nearestFree_2 : decode cX4_nearestFree 2 = .ok (.aload_n 0, 1) := by decide +kernel
theorem dX4_nearestFree_3 : decode cX4_nearestFree 3 = .ok (.getfield 11, 3) := by decide +kernel
theorem dX4_nearestFree_6 : decode cX4_nearestFree 6 = .ok (.astore_n 3, 1) := by decide +kernel
theorem dX4_nearestFree_7 : decode cX4_nearestFree 7 = .ok (.aload_n 3, 1) := by decide +kernel
theorem dX4_nearestFree_8 : decode cX4_nearestFree 8 = .ok (.arraylength, 1) := by decide +kernel
theorem dX4_nearestFree_9 : decode cX4_nearestFree 9 = .ok (.istore 4, 2) := by decide +kernel
theorem dX4_nearestFree_11 : decode cX4_nearestFree 11 = .ok (.iconst 0, 1) := by decide +kernel
theorem dX4_nearestFree_12 : decode cX4_nearestFree 12 = .ok (.istore 5, 2) := by decide +kernel
theorem dX4_nearestFree_14 : decode cX4_nearestFree 14 = .ok (.iload 5, 2) := by decide +kernel
theorem dX4_nearestFree_16 : decode cX4_nearestFree 16 = .ok (.iload 4, 2) := by decide +kernel
theorem dX4_nearestFree_18 : decode cX4_nearestFree 18 = .ok (.if_icmp .ge 66, 3) := by decide +kernel
theorem dX4_nearestFree_21 : decode cX4_nearestFree 21 = .ok (.aload_n 3, 1) := by decide +kernel
theorem dX4_nearestFree_22 : decode cX4_nearestFree 22 = .ok (.iload 5, 2) := by decide +kernel
theorem dX4_nearestFree_24 : decode cX4_nearestFree 24 = .ok (.aaload, 1) := by decide +kernel
theorem dX4_nearestFree_25 : decode cX4_nearestFree 25 = .ok (.astore 6, 2) := by decide +kernel
theorem dX4_nearestFree_27 : decode cX4_nearestFree 27 = .ok (.aload 6, 2) := by decide +kernel
theorem dX4_nearestFree_29 : decode cX4_nearestFree 29 = .ok (.ifnull 49, 3) := by decide +kernel
theorem dX4_nearestFree_32 : decode cX4_nearestFree 32 = .ok (.aload 6, 2) := by decide +kernel
theorem dX4_nearestFree_34 : decode cX4_nearestFree 34 = .ok (.invokevirtual 112, 3) := by decide +kernel
theorem dX4_nearestFree_37 : decode cX4_nearestFree 37 = .ok (.ifCond .eq 41, 3) := by decide +kernel
theorem dX4_nearestFree_40 : decode cX4_nearestFree 40 = .ok (.aload 6, 2) := by decide +kernel
theorem dX4_nearestFree_42 : decode cX4_nearestFree 42 = .ok (.invokevirtual 153, 3) := by decide +kernel
theorem dX4_nearestFree_45 : decode cX4_nearestFree 45 = .ok (.ifCond .eq 33, 3) := by decide +kernel
theorem dX4_nearestFree_48 : decode cX4_nearestFree 48 = .ok (.aload 6, 2) := by decide +kernel
theorem dX4_nearestFree_50 : decode cX4_nearestFree 50 = .ok (.iload_n 1, 1) := by decide +kernel
theorem dX4_nearestFree_51 : decode cX4_nearestFree 51 = .ok (.invokevirtual 102, 3) := by decide +kernel
theorem dX4_nearestFree_54 : decode cX4_nearestFree 54 = .ok (.ifCond .eq 24, 3) := by decide +kernel
theorem dX4_nearestFree_57 : decode cX4_nearestFree 57 = .ok (.aload_n 2, 1) := by decide +kernel
theorem dX4_nearestFree_58 : decode cX4_nearestFree 58 = .ok (.ifnull 17, 3) := by decide +kernel
theorem dX4_nearestFree_61 : decode cX4_nearestFree 61 = .ok (.aload 6, 2) := by decide +kernel
theorem dX4_nearestFree_63 : decode cX4_nearestFree 63 = .ok (.iload_n 1, 1) := by decide +kernel
theorem dX4_nearestFree_64 : decode cX4_nearestFree 64 = .ok (.invokevirtual 146, 3) := by decide +kernel
theorem dX4_nearestFree_67 : decode cX4_nearestFree 67 = .ok (.aload_n 2, 1) := by decide +kernel
theorem dX4_nearestFree_68 : decode cX4_nearestFree 68 = .ok (.iload_n 1, 1) := by decide +kernel
theorem dX4_nearestFree_69 : decode cX4_nearestFree 69 = .ok (.invokevirtual 146, 3) := by decide +kernel
theorem dX4_nearestFree_72 : decode cX4_nearestFree 72 = .ok (.if_icmp .ge 6, 3) := by decide +kernel
theorem dX4_nearestFree_75 : decode cX4_nearestFree 75 = .ok (.aload 6, 2) := by decide +kernel
theorem dX4_nearestFree_77 : decode cX4_nearestFree 77 = .ok (.astore_n 2, 1) := by decide +kernel
theorem dX4_nearestFree_78 : decode cX4_nearestFree 78 = .ok (.iinc 5 1, 3) := by decide +kernel
theorem dX4_nearestFree_81 : decode cX4_nearestFree 81 = .ok (.goto (-67), 3) := by decide +kernel
theorem dX4_nearestFree_84 : decode cX4_nearestFree 84 = .ok (.aload_n 2, 1) := by decide +kernel
theorem dX4_nearestFree_85 : decode cX4_nearestFree 85 = .ok (.areturn, 1) := by decide +kernel
theorem dX4_handOverOrDrop_0 : decode cX4_handOverOrDrop 0 = .ok (.aload_n 1, 1) := by decide +kernel
theorem dX4_handOverOrDrop_1 : decode cX4_handOverOrDrop 1 = .ok (.aload_n 0, 1) := by decide +kernel
theorem dX4_handOverOrDrop_2 : decode cX4_handOverOrDrop 2 = .ok (.getfield 52, 3) := by decide +kernel
theorem dX4_handOverOrDrop_5 : decode cX4_handOverOrDrop 5 = .ok (.invokevirtual 99, 3) := by decide +kernel
theorem dX4_handOverOrDrop_8 : decode cX4_handOverOrDrop 8 = .ok (.aload_n 0, 1) := by decide +kernel
theorem dX4_handOverOrDrop_9 : decode cX4_handOverOrDrop 9 = .ok (.aload_n 1, 1) := by decide +kernel
theorem dX4_handOverOrDrop_10 : decode cX4_handOverOrDrop 10 = .ok (.getfield 79, 3) := by decide +kernel
theorem dX4_handOverOrDrop_13 : decode cX4_handOverOrDrop 13 = .ok (.invokevirtual 82, 3) := by decide +kernel
theorem dX4_handOverOrDrop_16 : decode cX4_handOverOrDrop 16 = .ok (.astore_n 2, 1) := by decide +kernel
theorem dX4_handOverOrDrop_17 : decode cX4_handOverOrDrop 17 = .ok (.aload_n 2, 1) := by decide +kernel
theorem dX4_handOverOrDrop_18 : decode cX4_handOverOrDrop 18 = .ok (.ifnonnull 16, 3) := by decide +kernel
theorem dX4_handOverOrDrop_21 : decode cX4_handOverOrDrop 21 = .ok (.aload_n 1, 1) := by decide +kernel
theorem dX4_handOverOrDrop_22 : decode cX4_handOverOrDrop 22 = .ok (.dup, 1) := by decide +kernel
theorem dX4_handOverOrDrop_23 : decode cX4_handOverOrDrop 23 = .ok (.getfield 137, 3) := by decide +kernel
theorem dX4_handOverOrDrop_26 : decode cX4_handOverOrDrop 26 = .ok (.iconst 1, 1) := by decide +kernel
theorem dX4_handOverOrDrop_27 : decode cX4_handOverOrDrop 27 = .ok (.iadd, 1) := by decide +kernel
theorem dX4_handOverOrDrop_28 : decode cX4_handOverOrDrop 28 = .ok (.putfield 137, 3) := by decide +kernel
theorem dX4_handOverOrDrop_31 : decode cX4_handOverOrDrop 31 = .ok (.goto 22, 3) := by decide +kernel
theorem dX4_handOverOrDrop_34 : decode cX4_handOverOrDrop 34 = .ok (.aload_n 1, 1) := by decide +kernel
theorem dX4_handOverOrDrop_35 : decode cX4_handOverOrDrop 35 = .ok (.dup, 1) := by decide +kernel
theorem dX4_handOverOrDrop_36 : decode cX4_handOverOrDrop 36 = .ok (.getfield 140, 3) := by decide +kernel
theorem dX4_handOverOrDrop_39 : decode cX4_handOverOrDrop 39 = .ok (.iconst 1, 1) := by decide +kernel
theorem dX4_handOverOrDrop_40 : decode cX4_handOverOrDrop 40 = .ok (.iadd, 1) := by decide +kernel
theorem dX4_handOverOrDrop_41 : decode cX4_handOverOrDrop 41 = .ok (.putfield 140, 3) := by decide +kernel
theorem dX4_handOverOrDrop_44 : decode cX4_handOverOrDrop 44 = .ok (.aload_n 1, 1) := by decide +kernel
theorem dX4_handOverOrDrop_45 : decode cX4_handOverOrDrop 45 = .ok (.aload_n 2, 1) := by decide +kernel
theorem dX4_handOverOrDrop_46 : decode cX4_handOverOrDrop 46 = .ok (.aload_n 0, 1) := by decide +kernel
theorem dX4_handOverOrDrop_47 : decode cX4_handOverOrDrop 47 = .ok (.getfield 52, 3) := by decide +kernel
theorem dX4_handOverOrDrop_50 : decode cX4_handOverOrDrop 50 = .ok (.invokevirtual 88, 3) := by decide +kernel
theorem dX4_handOverOrDrop_53 : decode cX4_handOverOrDrop 53 = .ok (.return_, 1) := by decide +kernel
theorem dX4_letAnHourGoBy_0 : decode cX4_letAnHourGoBy 0 = .ok (.aload_n 0, 1) := by decide +kernel
theorem dX4_letAnHourGoBy_1 : decode cX4_letAnHourGoBy 1 = .ok (.invokevirtual 156, 3) := by decide +kernel
theorem dX4_letAnHourGoBy_4 : decode cX4_letAnHourGoBy 4 = .ok (.aload_n 0, 1) := by decide +kernel
theorem dX4_letAnHourGoBy_5 : decode cX4_letAnHourGoBy 5 = .ok (.invokevirtual 159, 3) := by decide +kernel
theorem dX4_letAnHourGoBy_8 : decode cX4_letAnHourGoBy 8 = .ok (.aload_n 0, 1) := by decide +kernel
theorem dX4_letAnHourGoBy_9 : decode cX4_letAnHourGoBy 9 = .ok (.invokevirtual 162, 3) := by decide +kernel
theorem dX4_letAnHourGoBy_12 : decode cX4_letAnHourGoBy 12 = .ok (.aload_n 0, 1) := by decide +kernel
theorem dX4_letAnHourGoBy_13 : decode cX4_letAnHourGoBy 13 = .ok (.dup, 1) := by decide +kernel
theorem dX4_letAnHourGoBy_14 : decode cX4_letAnHourGoBy 14 = .ok (.getfield 52, 3) := by decide +kernel
theorem dX4_letAnHourGoBy_17 : decode cX4_letAnHourGoBy 17 = .ok (.iconst 1, 1) := by decide +kernel
theorem dX4_letAnHourGoBy_18 : decode cX4_letAnHourGoBy 18 = .ok (.iadd, 1) := by decide +kernel
theorem dX4_letAnHourGoBy_19 : decode cX4_letAnHourGoBy 19 = .ok (.putfield 52, 3) := by decide +kernel
theorem dX4_letAnHourGoBy_22 : decode cX4_letAnHourGoBy 22 = .ok (.aload_n 0, 1) := by decide +kernel
theorem dX4_letAnHourGoBy_23 : decode cX4_letAnHourGoBy 23 = .ok (.invokevirtual 165, 3) := by decide +kernel
theorem dX4_letAnHourGoBy_26 : decode cX4_letAnHourGoBy 26 = .ok (.aload_n 0, 1) := by decide +kernel
theorem dX4_letAnHourGoBy_27 : decode cX4_letAnHourGoBy 27 = .ok (.invokevirtual 168, 3) := by decide +kernel
theorem dX4_letAnHourGoBy_30 : decode cX4_letAnHourGoBy 30 = .ok (.return_, 1) := by decide +kernel
theorem dX4_countTraffic_0 : decode cX4_countTraffic 0 = .ok (.aload_n 0, 1) := by decide +kernel
theorem dX4_countTraffic_1 : decode cX4_countTraffic 1 = .ok (.getfield 11, 3) := by decide +kernel
theorem dX4_countTraffic_4 : decode cX4_countTraffic 4 = .ok (.astore_n 1, 1) := by decide +kernel
theorem dX4_countTraffic_5 : decode cX4_countTraffic 5 = .ok (.aload_n 1, 1) := by decide +kernel
theorem dX4_countTraffic_6 : decode cX4_countTraffic 6 = .ok (.arraylength, 1) := by decide +kernel
theorem dX4_countTraffic_7 : decode cX4_countTraffic 7 = .ok (.istore_n 2, 1) := by decide +kernel
theorem dX4_countTraffic_8 : decode cX4_countTraffic 8 = .ok (.iconst 0, 1) := by decide +kernel
theorem dX4_countTraffic_9 : decode cX4_countTraffic 9 = .ok (.istore_n 3, 1) := by decide +kernel
theorem dX4_countTraffic_10 : decode cX4_countTraffic 10 = .ok (.iload_n 3, 1) := by decide +kernel
theorem dX4_countTraffic_11 : decode cX4_countTraffic 11 = .ok (.iload_n 2, 1) := by decide +kernel
theorem dX4_countTraffic_12 : decode cX4_countTraffic 12 = .ok (.if_icmp .ge 42, 3) := by decide +kernel
theorem dX4_countTraffic_15 : decode cX4_countTraffic 15 = .ok (.aload_n 1, 1) := by decide +kernel
theorem dX4_countTraffic_16 : decode cX4_countTraffic 16 = .ok (.iload_n 3, 1) := by decide +kernel
theorem dX4_countTraffic_17 : decode cX4_countTraffic 17 = .ok (.aaload, 1) := by decide +kernel
theorem dX4_countTraffic_18 : decode cX4_countTraffic 18 = .ok (.astore 4, 2) := by decide +kernel
theorem dX4_countTraffic_20 : decode cX4_countTraffic 20 = .ok (.aload 4, 2) := by decide +kernel
theorem dX4_countTraffic_22 : decode cX4_countTraffic 22 = .ok (.ifnull 26, 3) := by decide +kernel
theorem dX4_countTraffic_25 : decode cX4_countTraffic 25 = .ok (.aload 4, 2) := by decide +kernel
theorem dX4_countTraffic_27 : decode cX4_countTraffic 27 = .ok (.invokevirtual 112, 3) := by decide +kernel
theorem dX4_countTraffic_30 : decode cX4_countTraffic 30 = .ok (.ifCond .eq 18, 3) := by decide +kernel
theorem dX4_countTraffic_33 : decode cX4_countTraffic 33 = .ok (.aload 4, 2) := by decide +kernel
theorem dX4_countTraffic_35 : decode cX4_countTraffic 35 = .ok (.dup, 1) := by decide +kernel
theorem dX4_countTraffic_36 : decode cX4_countTraffic 36 = .ok (.getfield 125, 3) := by decide +kernel
theorem dX4_countTraffic_39 : decode cX4_countTraffic 39 = .ok (.aload 4, 2) := by decide +kernel
theorem dX4_countTraffic_41 : decode cX4_countTraffic 41 = .ok (.getfield 116, 3) := by decide +kernel
theorem dX4_countTraffic_44 : decode cX4_countTraffic 44 = .ok (.iadd, 1) := by decide +kernel
theorem dX4_countTraffic_45 : decode cX4_countTraffic 45 = .ok (.putfield 125, 3) := by decide +kernel
theorem dX4_countTraffic_48 : decode cX4_countTraffic 48 = .ok (.iinc 3 1, 3) := by decide +kernel
theorem dX4_countTraffic_51 : decode cX4_countTraffic 51 = .ok (.goto (-41), 3) := by decide +kernel
theorem dX4_countTraffic_54 : decode cX4_countTraffic 54 = .ok (.return_, 1) := by decide +kernel
theorem dX4_payRents_0 : decode cX4_payRents 0 = .ok (.aload_n 0, 1) := by decide +kernel
theorem dX4_payRents_1 : decode cX4_payRents 1 = .ok (.getfield 11, 3) := by decide +kernel
theorem dX4_payRents_4 : decode cX4_payRents 4 = .ok (.astore_n 1, 1) := by decide +kernel
theorem dX4_payRents_5 : decode cX4_payRents 5 = .ok (.aload_n 1, 1) := by decide +kernel
theorem dX4_payRents_6 : decode cX4_payRents 6 = .ok (.arraylength, 1) := by decide +kernel
theorem dX4_payRents_7 : decode cX4_payRents 7 = .ok (.istore_n 2, 1) := by decide +kernel
theorem dX4_payRents_8 : decode cX4_payRents 8 = .ok (.iconst 0, 1) := by decide +kernel
theorem dX4_payRents_9 : decode cX4_payRents 9 = .ok (.istore_n 3, 1) := by decide +kernel
theorem dX4_payRents_10 : decode cX4_payRents 10 = .ok (.iload_n 3, 1) := by decide +kernel
theorem dX4_payRents_11 : decode cX4_payRents 11 = .ok (.iload_n 2, 1) := by decide +kernel
theorem dX4_payRents_12 : decode cX4_payRents 12 = .ok (.if_icmp .ge 41, 3) := by decide +kernel
theorem dX4_payRents_15 : decode cX4_payRents 15 = .ok (.aload_n 1, 1) := by decide +kernel
theorem dX4_payRents_16 : decode cX4_payRents 16 = .ok (.iload_n 3, 1) := by decide +kernel
theorem dX4_payRents_17 : decode cX4_payRents 17 = .ok (.aaload, 1) := by decide +kernel
theorem dX4_payRents_18 : decode cX4_payRents 18 = .ok (.astore 4, 2) := by decide +kernel
theorem dX4_payRents_20 : decode cX4_payRents 20 = .ok (.aload 4, 2) := by decide +kernel
theorem dX4_payRents_22 : decode cX4_payRents 22 = .ok (.ifnull 25, 3) := by decide +kernel
theorem dX4_payRents_25 : decode cX4_payRents 25 = .ok (.aload 4, 2) := by decide +kernel
theorem dX4_payRents_27 : decode cX4_payRents 27 = .ok (.getfield 56, 3) := by decide +kernel
theorem dX4_payRents_30 : decode cX4_payRents 30 = .ok (.ifnull 17, 3) := by decide +kernel
theorem dX4_payRents_33 : decode cX4_payRents 33 = .ok (.aload_n 0, 1) := by decide +kernel
theorem dX4_payRents_34 : decode cX4_payRents 34 = .ok (.aload 4, 2) := by decide +kernel
theorem dX4_payRents_36 : decode cX4_payRents 36 = .ok (.getfield 56, 3) := by decide +kernel
theorem dX4_payRents_39 : decode cX4_payRents 39 = .ok (.aload 4, 2) := by decide +kernel
theorem dX4_payRents_41 : decode cX4_payRents 41 = .ok (.getfield 116, 3) := by decide +kernel
theorem dX4_payRents_44 : decode cX4_payRents 44 = .ok (.invokevirtual 171, 3) := by decide +kernel
theorem dX4_payRents_47 : decode cX4_payRents 47 = .ok (.iinc 3 1, 3) := by decide +kernel
theorem dX4_payRents_50 : decode cX4_payRents 50 = .ok (.goto (-40), 3) := by decide +kernel
theorem dX4_payRents_53 : decode cX4_payRents 53 = .ok (.return_, 1) := by decide +kernel
theorem dX4_payRent_0 : decode cX4_payRent 0 = .ok (.aload_n 1, 1) := by decide +kernel
theorem dX4_payRent_1 : decode cX4_payRent 1 = .ok (.getfield 175, 3) := by decide +kernel
theorem dX4_payRent_4 : decode cX4_payRent 4 = .ok (.aload_n 1, 1) := by decide +kernel
theorem dX4_payRent_5 : decode cX4_payRent 5 = .ok (.getfield 178, 3) := by decide +kernel
theorem dX4_payRent_8 : decode cX4_payRent 8 = .ok (.iload_n 2, 1) := by decide +kernel
theorem dX4_payRent_9 : decode cX4_payRent 9 = .ok (.imul, 1) := by decide +kernel
theorem dX4_payRent_10 : decode cX4_payRent 10 = .ok (.iadd, 1) := by decide +kernel
theorem dX4_payRent_11 : decode cX4_payRent 11 = .ok (.istore_n 3, 1) := by decide +kernel
theorem dX4_payRent_12 : decode cX4_payRent 12 = .ok (.iload_n 3, 1) := by decide +kernel
theorem dX4_payRent_13 : decode cX4_payRent 13 = .ok (.aload_n 1, 1) := by decide +kernel
theorem dX4_payRent_14 : decode cX4_payRent 14 = .ok (.getfield 181, 3) := by decide +kernel
theorem dX4_payRent_17 : decode cX4_payRent 17 = .ok (.imul, 1) := by decide +kernel
theorem dX4_payRent_18 : decode cX4_payRent 18 = .ok (.bipush 10, 2) := by decide +kernel
theorem dX4_payRent_20 : decode cX4_payRent 20 = .ok (.idiv, 1) := by decide +kernel
theorem dX4_payRent_21 : decode cX4_payRent 21 = .ok (.istore 4, 2) := by decide +kernel
theorem dX4_payRent_23 : decode cX4_payRent 23 = .ok (.aload_n 0, 1) := by decide +kernel
theorem dX4_payRent_24 : decode cX4_payRent 24 = .ok (.aload_n 1, 1) := by decide +kernel
theorem dX4_payRent_25 : decode cX4_payRent 25 = .ok (.getfield 184, 3) := by decide +kernel
theorem dX4_payRent_28 : decode cX4_payRent 28 = .ok (.iload 4, 2) := by decide +kernel
theorem dX4_payRent_30 : decode cX4_payRent 30 = .ok (.invokevirtual 187, 3) := by decide +kernel
theorem dX4_payRent_33 : decode cX4_payRent 33 = .ok (.aload_n 0, 1) := by decide +kernel
theorem dX4_payRent_34 : decode cX4_payRent 34 = .ok (.aload_n 1, 1) := by decide +kernel
theorem dX4_payRent_35 : decode cX4_payRent 35 = .ok (.getfield 191, 3) := by decide +kernel
theorem dX4_payRent_38 : decode cX4_payRent 38 = .ok (.iload_n 3, 1) := by decide +kernel
theorem dX4_payRent_39 : decode cX4_payRent 39 = .ok (.iload 4, 2) := by decide +kernel
theorem dX4_payRent_41 : decode cX4_payRent 41 = .ok (.isub, 1) := by decide +kernel
theorem dX4_payRent_42 : decode cX4_payRent 42 = .ok (.invokevirtual 187, 3) := by decide +kernel
theorem dX4_payRent_45 : decode cX4_payRent 45 = .ok (.return_, 1) := by decide +kernel
theorem dX4_pay_0 : decode cX4_pay 0 = .ok (.iload_n 1, 1) := by decide +kernel
theorem dX4_pay_1 : decode cX4_pay 1 = .ok (.invokestatic 46, 3) := by decide +kernel
theorem dX4_pay_4 : decode cX4_pay 4 = .ok (.ifCond .eq 13, 3) := by decide +kernel
theorem dX4_pay_7 : decode cX4_pay 7 = .ok (.aload_n 0, 1) := by decide +kernel
theorem dX4_pay_8 : decode cX4_pay 8 = .ok (.getfield 21, 3) := by decide +kernel
theorem dX4_pay_11 : decode cX4_pay 11 = .ok (.iload_n 1, 1) := by decide +kernel
theorem dX4_pay_12 : decode cX4_pay 12 = .ok (.dup2, 1) := by decide +kernel
theorem dX4_pay_13 : decode cX4_pay 13 = .ok (.iaload, 1) := by decide +kernel
theorem dX4_pay_14 : decode cX4_pay 14 = .ok (.iload_n 2, 1) := by decide +kernel
theorem dX4_pay_15 : decode cX4_pay 15 = .ok (.iadd, 1) := by decide +kernel
theorem dX4_pay_16 : decode cX4_pay 16 = .ok (.iastore, 1) := by decide +kernel
theorem dX4_pay_17 : decode cX4_pay 17 = .ok (.return_, 1) := by decide +kernel
theorem dX4_powerMasts_0 : decode cX4_powerMasts 0 = .ok (.aload_n 0, 1) := by decide +kernel
theorem dX4_powerMasts_1 : decode cX4_powerMasts 1 = .ok (.getfield 11, 3) := by decide +kernel
theorem dX4_powerMasts_4 : decode cX4_powerMasts 4 = .ok (.astore_n 1, 1) := by decide +kernel
theorem dX4_powerMasts_5 : decode cX4_powerMasts 5 = .ok (.aload_n 1, 1) := by decide +kernel
theorem dX4_powerMasts_6 : decode cX4_powerMasts 6 = .ok (.arraylength, 1) := by decide +kernel
theorem dX4_powerMasts_7 : decode cX4_powerMasts 7 = .ok (.istore_n 2, 1) := by decide +kernel
theorem dX4_powerMasts_8 : decode cX4_powerMasts 8 = .ok (.iconst 0, 1) := by decide +kernel
theorem dX4_powerMasts_9 : decode cX4_powerMasts 9 = .ok (.istore_n 3, 1) := by decide +kernel
theorem dX4_powerMasts_10 : decode cX4_powerMasts 10 = .ok (.iload_n 3, 1) := by decide +kernel
theorem dX4_powerMasts_11 : decode cX4_powerMasts 11 = .ok (.iload_n 2, 1) := by decide +kernel
theorem dX4_powerMasts_12 : decode cX4_powerMasts 12 = .ok (.if_icmp .ge 28, 3) := by decide +kernel
theorem dX4_powerMasts_15 : decode cX4_powerMasts 15 = .ok (.aload_n 1, 1) := by decide +kernel
theorem dX4_powerMasts_16 : decode cX4_powerMasts 16 = .ok (.iload_n 3, 1) := by decide +kernel
theorem dX4_powerMasts_17 : decode cX4_powerMasts 17 = .ok (.aaload, 1) := by decide +kernel
theorem dX4_powerMasts_18 : decode cX4_powerMasts 18 = .ok (.astore 4, 2) := by decide +kernel
theorem dX4_powerMasts_20 : decode cX4_powerMasts 20 = .ok (.aload 4, 2) := by decide +kernel
theorem dX4_powerMasts_22 : decode cX4_powerMasts 22 = .ok (.ifnull 12, 3) := by decide +kernel
theorem dX4_powerMasts_25 : decode cX4_powerMasts 25 = .ok (.aload 4, 2) := by decide +kernel
theorem dX4_powerMasts_27 : decode cX4_powerMasts 27 = .ok (.aload_n 0, 1) := by decide +kernel
theorem dX4_powerMasts_28 : decode cX4_powerMasts 28 = .ok (.getfield 65, 3) := by decide +kernel
theorem dX4_powerMasts_31 : decode cX4_powerMasts 31 = .ok (.invokevirtual 194, 3) := by decide +kernel
theorem dX4_powerMasts_34 : decode cX4_powerMasts 34 = .ok (.iinc 3 1, 3) := by decide +kernel
theorem dX4_powerMasts_37 : decode cX4_powerMasts 37 = .ok (.goto (-27), 3) := by decide +kernel
theorem dX4_powerMasts_40 : decode cX4_powerMasts 40 = .ok (.return_, 1) := by decide +kernel
theorem dX4_endLeases_0 : decode cX4_endLeases 0 = .ok (.aload_n 0, 1) := by decide +kernel
theorem dX4_endLeases_1 : decode cX4_endLeases 1 = .ok (.getfield 11, 3) := by decide +kernel
theorem dX4_endLeases_4 : decode cX4_endLeases 4 = .ok (.astore_n 1, 1) := by decide +kernel
theorem dX4_endLeases_5 : decode cX4_endLeases 5 = .ok (.aload_n 1, 1) := by decide +kernel
theorem dX4_endLeases_6 : decode cX4_endLeases 6 = .ok (.arraylength, 1) := by decide +kernel
theorem dX4_endLeases_7 : decode cX4_endLeases 7 = .ok (.istore_n 2, 1) := by decide +kernel
theorem dX4_endLeases_8 : decode cX4_endLeases 8 = .ok (.iconst 0, 1) := by decide +kernel
theorem dX4_endLeases_9 : decode cX4_endLeases 9 = .ok (.istore_n 3, 1) := by decide +kernel
theorem dX4_endLeases_10 : decode cX4_endLeases 10 = .ok (.iload_n 3, 1) := by decide +kernel
theorem dX4_endLeases_11 : decode cX4_endLeases 11 = .ok (.iload_n 2, 1) := by decide +kernel
theorem dX4_endLeases_12 : decode cX4_endLeases 12 = .ok (.if_icmp .ge 48, 3) := by decide +kernel
theorem dX4_endLeases_15 : decode cX4_endLeases 15 = .ok (.aload_n 1, 1) := by decide +kernel
theorem dX4_endLeases_16 : decode cX4_endLeases 16 = .ok (.iload_n 3, 1) := by decide +kernel
theorem dX4_endLeases_17 : decode cX4_endLeases 17 = .ok (.aaload, 1) := by decide +kernel
theorem dX4_endLeases_18 : decode cX4_endLeases 18 = .ok (.astore 4, 2) := by decide +kernel
theorem dX4_endLeases_20 : decode cX4_endLeases 20 = .ok (.aload 4, 2) := by decide +kernel
theorem dX4_endLeases_22 : decode cX4_endLeases 22 = .ok (.ifnull 32, 3) := by decide +kernel
theorem dX4_endLeases_25 : decode cX4_endLeases 25 = .ok (.aload 4, 2) := by decide +kernel
theorem dX4_endLeases_27 : decode cX4_endLeases 27 = .ok (.getfield 56, 3) := by decide +kernel
theorem dX4_endLeases_30 : decode cX4_endLeases 30 = .ok (.ifnull 24, 3) := by decide +kernel
theorem dX4_endLeases_33 : decode cX4_endLeases 33 = .ok (.aload 4, 2) := by decide +kernel
theorem dX4_endLeases_35 : decode cX4_endLeases 35 = .ok (.getfield 56, 3) := by decide +kernel
theorem dX4_endLeases_38 : decode cX4_endLeases 38 = .ok (.getfield 128, 3) := by decide +kernel
theorem dX4_endLeases_41 : decode cX4_endLeases 41 = .ok (.aload_n 0, 1) := by decide +kernel
theorem dX4_endLeases_42 : decode cX4_endLeases 42 = .ok (.getfield 52, 3) := by decide +kernel
theorem dX4_endLeases_45 : decode cX4_endLeases 45 = .ok (.if_icmp .gt 9, 3) := by decide +kernel
theorem dX4_endLeases_48 : decode cX4_endLeases 48 = .ok (.aload 4, 2) := by decide +kernel
theorem dX4_endLeases_50 : decode cX4_endLeases 50 = .ok (.aconst_null, 1) := by decide +kernel
theorem dX4_endLeases_51 : decode cX4_endLeases 51 = .ok (.putfield 56, 3) := by decide +kernel
theorem dX4_endLeases_54 : decode cX4_endLeases 54 = .ok (.iinc 3 1, 3) := by decide +kernel
theorem dX4_endLeases_57 : decode cX4_endLeases 57 = .ok (.goto (-47), 3) := by decide +kernel
theorem dX4_endLeases_60 : decode cX4_endLeases 60 = .ok (.return_, 1) := by decide +kernel
theorem dX4_leaveMastsThatAreNotOn_0 : decode cX4_leaveMastsThatAreNotOn 0 = .ok (.aload_n 0, 1) := by decide +kernel
theorem dX4_leaveMastsThatAreNotOn_1 : decode cX4_leaveMastsThatAreNotOn 1 = .ok (.getfield 17, 3) := by decide +kernel
theorem dX4_leaveMastsThatAreNotOn_4 : decode cX4_leaveMastsThatAreNotOn 4 = .ok (.astore_n 1, 1) := by decide +kernel
theorem dX4_leaveMastsThatAreNotOn_5 : decode cX4_leaveMastsThatAreNotOn 5 = .ok (.aload_n 1, 1) := by decide +kernel
theorem dX4_leaveMastsThatAreNotOn_6 : decode cX4_leaveMastsThatAreNotOn 6 = .ok (.arraylength, 1) := by decide +kernel
theorem dX4_leaveMastsThatAreNotOn_7 : decode cX4_leaveMastsThatAreNotOn 7 = .ok (.istore_n 2, 1) := by decide +kernel
theorem dX4_leaveMastsThatAreNotOn_8 : decode cX4_leaveMastsThatAreNotOn 8 = .ok (.iconst 0, 1) := by decide +kernel
theorem dX4_leaveMastsThatAreNotOn_9 : decode cX4_leaveMastsThatAreNotOn 9 = .ok (.istore_n 3, 1) := by decide +kernel
theorem dX4_leaveMastsThatAreNotOn_10 : decode cX4_leaveMastsThatAreNotOn 10 = .ok (.iload_n 3, 1) := by decide +kernel
theorem dX4_leaveMastsThatAreNotOn_11 : decode cX4_leaveMastsThatAreNotOn 11 = .ok (.iload_n 2, 1) := by decide +kernel
theorem dX4_leaveMastsThatAreNotOn_12 : decode cX4_leaveMastsThatAreNotOn 12 = .ok (.if_icmp .ge 44, 3) := by decide +kernel
theorem dX4_leaveMastsThatAreNotOn_15 : decode cX4_leaveMastsThatAreNotOn 15 = .ok (.aload_n 1, 1) := by decide +kernel
theorem dX4_leaveMastsThatAreNotOn_16 : decode cX4_leaveMastsThatAreNotOn 16 = .ok (.iload_n 3, 1) := by decide +kernel
theorem dX4_leaveMastsThatAreNotOn_17 : decode cX4_leaveMastsThatAreNotOn 17 = .ok (.aaload, 1) := by decide +kernel
theorem dX4_leaveMastsThatAreNotOn_18 : decode cX4_leaveMastsThatAreNotOn 18 = .ok (.astore 4, 2) := by decide +kernel
theorem dX4_leaveMastsThatAreNotOn_20 : decode cX4_leaveMastsThatAreNotOn 20 = .ok (.aload 4, 2) := by decide +kernel
theorem dX4_leaveMastsThatAreNotOn_22 : decode cX4_leaveMastsThatAreNotOn 22 = .ok (.ifnull 28, 3) := by decide +kernel
theorem dX4_leaveMastsThatAreNotOn_25 : decode cX4_leaveMastsThatAreNotOn 25 = .ok (.aload 4, 2) := by decide +kernel
theorem dX4_leaveMastsThatAreNotOn_27 : decode cX4_leaveMastsThatAreNotOn 27 = .ok (.getfield 75, 3) := by decide +kernel
theorem dX4_leaveMastsThatAreNotOn_30 : decode cX4_leaveMastsThatAreNotOn 30 = .ok (.ifnull 20, 3) := by decide +kernel
theorem dX4_leaveMastsThatAreNotOn_33 : decode cX4_leaveMastsThatAreNotOn 33 = .ok (.aload 4, 2) := by decide +kernel
theorem dX4_leaveMastsThatAreNotOn_35 : decode cX4_leaveMastsThatAreNotOn 35 = .ok (.getfield 75, 3) := by decide +kernel
theorem dX4_leaveMastsThatAreNotOn_38 : decode cX4_leaveMastsThatAreNotOn 38 = .ok (.invokevirtual 112, 3) := by decide +kernel
theorem dX4_leaveMastsThatAreNotOn_41 : decode cX4_leaveMastsThatAreNotOn 41 = .ok (.ifCond .ne 9, 3) := by decide +kernel
theorem dX4_leaveMastsThatAreNotOn_44 : decode cX4_leaveMastsThatAreNotOn 44 = .ok (.aload_n 0, 1) := by decide +kernel
theorem dX4_leaveMastsThatAreNotOn_45 : decode cX4_leaveMastsThatAreNotOn 45 = .ok (.aload 4, 2) := by decide +kernel
theorem dX4_leaveMastsThatAreNotOn_47 : decode cX4_leaveMastsThatAreNotOn 47 = .ok (.invokevirtual 105, 3) := by decide +kernel
theorem dX4_leaveMastsThatAreNotOn_50 : decode cX4_leaveMastsThatAreNotOn 50 = .ok (.iinc 3 1, 3) := by decide +kernel
theorem dX4_leaveMastsThatAreNotOn_53 : decode cX4_leaveMastsThatAreNotOn 53 = .ok (.goto (-43), 3) := by decide +kernel
theorem dX4_leaveMastsThatAreNotOn_56 : decode cX4_leaveMastsThatAreNotOn 56 = .ok (.return_, 1) := by decide +kernel
