theorem d_T_init_0 : decode b_T_init 0 = .ok (.aload_n 0, 1) := by decide +kernel
theorem d_T_init_1 : decode b_T_init 1 = .ok (.invokespecial 3, 3) := by decide +kernel
theorem d_T_init_4 : decode b_T_init 4 = .ok (.aload_n 0, 1) := by decide +kernel
theorem d_T_init_5 : decode b_T_init 5 = .ok (.iconst 0, 1) := by decide +kernel
theorem d_T_init_6 : decode b_T_init 6 = .ok (.putfield 9, 3) := by decide +kernel
theorem d_T_init_9 : decode b_T_init 9 = .ok (.aload_n 0, 1) := by decide +kernel
theorem d_T_init_10 : decode b_T_init 10 = .ok (.new 13, 3) := by decide +kernel
theorem d_T_init_13 : decode b_T_init 13 = .ok (.dup, 1) := by decide +kernel
theorem d_T_init_14 : decode b_T_init 14 = .ok (.invokespecial 15, 3) := by decide +kernel
theorem d_T_init_17 : decode b_T_init 17 = .ok (.putfield 16, 3) := by decide +kernel
theorem d_T_init_20 : decode b_T_init 20 = .ok (.aload_n 0, 1) := by decide +kernel
theorem d_T_init_21 : decode b_T_init 21 = .ok (.new 20, 3) := by decide +kernel
theorem d_T_init_24 : decode b_T_init 24 = .ok (.dup, 1) := by decide +kernel
theorem d_T_init_25 : decode b_T_init 25 = .ok (.invokespecial 22, 3) := by decide +kernel
theorem d_T_init_28 : decode b_T_init 28 = .ok (.putfield 23, 3) := by decide +kernel
theorem d_T_init_31 : decode b_T_init 31 = .ok (.aload_n 0, 1) := by decide +kernel
theorem d_T_init_32 : decode b_T_init 32 = .ok (.new 27, 3) := by decide +kernel
theorem d_T_init_35 : decode b_T_init 35 = .ok (.dup, 1) := by decide +kernel
theorem d_T_init_36 : decode b_T_init 36 = .ok (.invokespecial 29, 3) := by decide +kernel
theorem d_T_init_39 : decode b_T_init 39 = .ok (.putfield 30, 3) := by decide +kernel
theorem d_T_init_42 : decode b_T_init 42 = .ok (.aload_n 0, 1) := by decide +kernel
theorem d_T_init_43 : decode b_T_init 43 = .ok (.new 34, 3) := by decide +kernel
theorem d_T_init_46 : decode b_T_init 46 = .ok (.dup, 1) := by decide +kernel
theorem d_T_init_47 : decode b_T_init 47 = .ok (.invokespecial 36, 3) := by decide +kernel
theorem d_T_init_50 : decode b_T_init 50 = .ok (.putfield 37, 3) := by decide +kernel
theorem d_T_init_53 : decode b_T_init 53 = .ok (.aload_n 0, 1) := by decide +kernel
theorem d_T_init_54 : decode b_T_init 54 = .ok (.new 41, 3) := by decide +kernel
theorem d_T_init_57 : decode b_T_init 57 = .ok (.dup, 1) := by decide +kernel
theorem d_T_init_58 : decode b_T_init 58 = .ok (.invokespecial 43, 3) := by decide +kernel
theorem d_T_init_61 : decode b_T_init 61 = .ok (.putfield 44, 3) := by decide +kernel
theorem d_T_init_64 : decode b_T_init 64 = .ok (.aload_n 0, 1) := by decide +kernel
theorem d_T_init_65 : decode b_T_init 65 = .ok (.new 48, 3) := by decide +kernel
theorem d_T_init_68 : decode b_T_init 68 = .ok (.dup, 1) := by decide +kernel
theorem d_T_init_69 : decode b_T_init 69 = .ok (.invokespecial 50, 3) := by decide +kernel
theorem d_T_init_72 : decode b_T_init 72 = .ok (.putfield 51, 3) := by decide +kernel
theorem d_T_init_75 : decode b_T_init 75 = .ok (.return_, 1) := by decide +kernel
theorem d_T_node_0 : decode b_T_node 0 = .ok (.aload_n 0, 1) := by decide +kernel
theorem d_T_node_1 : decode b_T_node 1 = .ok (.getfield 9, 3) := by decide +kernel
theorem d_T_node_4 : decode b_T_node 4 = .ok (.bipush 12, 2) := by decide +kernel
theorem d_T_node_6 : decode b_T_node 6 = .ok (.if_icmp .lt 13, 3) := by decide +kernel
theorem d_T_node_9 : decode b_T_node 9 = .ok (.new 55, 3) := by decide +kernel
theorem d_T_node_12 : decode b_T_node 12 = .ok (.dup, 1) := by decide +kernel
theorem d_T_node_13 : decode b_T_node 13 = .ok (.ldc 57, 2) := by decide +kernel
theorem d_T_node_15 : decode b_T_node 15 = .ok (.invokespecial 59, 3) := by decide +kernel
theorem d_T_node_18 : decode b_T_node 18 = .ok (.athrow, 1) := by decide +kernel
theorem d_T_node_19 : decode b_T_node 19 = .ok (.aload_n 0, 1) := by decide +kernel
theorem d_T_node_20 : decode b_T_node 20 = .ok (.dup, 1) := by decide +kernel
theorem d_T_node_21 : decode b_T_node 21 = .ok (.getfield 9, 3) := by decide +kernel
theorem d_T_node_24 : decode b_T_node 24 = .ok (.dup_x1, 1) := by decide +kernel
theorem d_T_node_25 : decode b_T_node 25 = .ok (.iconst 1, 1) := by decide +kernel
theorem d_T_node_26 : decode b_T_node 26 = .ok (.iadd, 1) := by decide +kernel
theorem d_T_node_27 : decode b_T_node 27 = .ok (.putfield 9, 3) := by decide +kernel
theorem d_T_node_30 : decode b_T_node 30 = .ok (.ireturn, 1) := by decide +kernel
theorem d_T_zone_0 : decode b_T_zone 0 = .ok (.aload_n 0, 1) := by decide +kernel
theorem d_T_zone_1 : decode b_T_zone 1 = .ok (.iload_n 1, 1) := by decide +kernel
theorem d_T_zone_2 : decode b_T_zone 2 = .ok (.invokevirtual 62, 3) := by decide +kernel
theorem d_T_zone_5 : decode b_T_zone 5 = .ok (.iload_n 2, 1) := by decide +kernel
theorem d_T_zone_6 : decode b_T_zone 6 = .ok (.iconst 0, 1) := by decide +kernel
theorem d_T_zone_7 : decode b_T_zone 7 = .ok (.ldc 66, 2) := by decide +kernel
theorem d_T_zone_9 : decode b_T_zone 9 = .ok (.invokestatic 67, 3) := by decide +kernel
theorem d_T_zone_12 : decode b_T_zone 12 = .ok (.iload_n 3, 1) := by decide +kernel
theorem d_T_zone_13 : decode b_T_zone 13 = .ok (.iconst 0, 1) := by decide +kernel
theorem d_T_zone_14 : decode b_T_zone 14 = .ok (.ldc 66, 2) := by decide +kernel
theorem d_T_zone_16 : decode b_T_zone 16 = .ok (.invokestatic 67, 3) := by decide +kernel
theorem d_T_zone_19 : decode b_T_zone 19 = .ok (.aload_n 0, 1) := by decide +kernel
theorem d_T_zone_20 : decode b_T_zone 20 = .ok (.getfield 16, 3) := by decide +kernel
theorem d_T_zone_23 : decode b_T_zone 23 = .ok (.getfield 71, 3) := by decide +kernel
theorem d_T_zone_26 : decode b_T_zone 26 = .ok (.bipush 6, 2) := by decide +kernel
theorem d_T_zone_28 : decode b_T_zone 28 = .ok (.if_icmp .lt 13, 3) := by decide +kernel
theorem d_T_zone_31 : decode b_T_zone 31 = .ok (.new 55, 3) := by decide +kernel
theorem d_T_zone_34 : decode b_T_zone 34 = .ok (.dup, 1) := by decide +kernel
theorem d_T_zone_35 : decode b_T_zone 35 = .ok (.ldc 74, 2) := by decide +kernel
theorem d_T_zone_37 : decode b_T_zone 37 = .ok (.invokespecial 59, 3) := by decide +kernel
theorem d_T_zone_40 : decode b_T_zone 40 = .ok (.athrow, 1) := by decide +kernel
theorem d_T_zone_41 : decode b_T_zone 41 = .ok (.aload_n 0, 1) := by decide +kernel
theorem d_T_zone_42 : decode b_T_zone 42 = .ok (.getfield 16, 3) := by decide +kernel
theorem d_T_zone_45 : decode b_T_zone 45 = .ok (.iload_n 1, 1) := by decide +kernel
theorem d_T_zone_46 : decode b_T_zone 46 = .ok (.iload_n 2, 1) := by decide +kernel
theorem d_T_zone_47 : decode b_T_zone 47 = .ok (.iload_n 3, 1) := by decide +kernel
theorem d_T_zone_48 : decode b_T_zone 48 = .ok (.invokevirtual 76, 3) := by decide +kernel
theorem d_T_zone_51 : decode b_T_zone 51 = .ok (.ireturn, 1) := by decide +kernel
theorem d_T_street_0 : decode b_T_street 0 = .ok (.aload_n 0, 1) := by decide +kernel
theorem d_T_street_1 : decode b_T_street 1 = .ok (.iload_n 1, 1) := by decide +kernel
theorem d_T_street_2 : decode b_T_street 2 = .ok (.invokevirtual 62, 3) := by decide +kernel
theorem d_T_street_5 : decode b_T_street 5 = .ok (.aload_n 0, 1) := by decide +kernel
theorem d_T_street_6 : decode b_T_street 6 = .ok (.iload_n 2, 1) := by decide +kernel
theorem d_T_street_7 : decode b_T_street 7 = .ok (.invokevirtual 62, 3) := by decide +kernel
theorem d_T_street_10 : decode b_T_street 10 = .ok (.iload_n 1, 1) := by decide +kernel
theorem d_T_street_11 : decode b_T_street 11 = .ok (.iload_n 2, 1) := by decide +kernel
theorem d_T_street_12 : decode b_T_street 12 = .ok (.if_icmp .ne 13, 3) := by decide +kernel
theorem d_T_street_15 : decode b_T_street 15 = .ok (.new 80, 3) := by decide +kernel
theorem d_T_street_18 : decode b_T_street 18 = .ok (.dup, 1) := by decide +kernel
theorem d_T_street_19 : decode b_T_street 19 = .ok (.ldc 82, 2) := by decide +kernel
theorem d_T_street_21 : decode b_T_street 21 = .ok (.invokespecial 84, 3) := by decide +kernel
theorem d_T_street_24 : decode b_T_street 24 = .ok (.athrow, 1) := by decide +kernel
theorem d_T_street_25 : decode b_T_street 25 = .ok (.iload_n 3, 1) := by decide +kernel
theorem d_T_street_26 : decode b_T_street 26 = .ok (.iconst 1, 1) := by decide +kernel
theorem d_T_street_27 : decode b_T_street 27 = .ok (.sipush 1000, 3) := by decide +kernel
theorem d_T_street_30 : decode b_T_street 30 = .ok (.invokestatic 67, 3) := by decide +kernel
theorem d_T_street_33 : decode b_T_street 33 = .ok (.iload 4, 2) := by decide +kernel
theorem d_T_street_35 : decode b_T_street 35 = .ok (.iconst 0, 1) := by decide +kernel
theorem d_T_street_36 : decode b_T_street 36 = .ok (.sipush 1000, 3) := by decide +kernel
theorem d_T_street_39 : decode b_T_street 39 = .ok (.invokestatic 67, 3) := by decide +kernel
theorem d_T_street_42 : decode b_T_street 42 = .ok (.iload 5, 2) := by decide +kernel
theorem d_T_street_44 : decode b_T_street 44 = .ok (.iconst 1, 1) := by decide +kernel
theorem d_T_street_45 : decode b_T_street 45 = .ok (.ldc 85, 2) := by decide +kernel
theorem d_T_street_47 : decode b_T_street 47 = .ok (.invokestatic 67, 3) := by decide +kernel
theorem d_T_street_50 : decode b_T_street 50 = .ok (.aload_n 0, 1) := by decide +kernel
theorem d_T_street_51 : decode b_T_street 51 = .ok (.getfield 37, 3) := by decide +kernel
theorem d_T_street_54 : decode b_T_street 54 = .ok (.getfield 86, 3) := by decide +kernel
theorem d_T_street_57 : decode b_T_street 57 = .ok (.bipush 40, 2) := by decide +kernel
theorem d_T_street_59 : decode b_T_street 59 = .ok (.if_icmp .lt 13, 3) := by decide +kernel
theorem d_T_street_62 : decode b_T_street 62 = .ok (.new 55, 3) := by decide +kernel
theorem d_T_street_65 : decode b_T_street 65 = .ok (.dup, 1) := by decide +kernel
theorem d_T_street_66 : decode b_T_street 66 = .ok (.ldc 87, 2) := by decide +kernel
theorem d_T_street_68 : decode b_T_street 68 = .ok (.invokespecial 59, 3) := by decide +kernel
theorem d_T_street_71 : decode b_T_street 71 = .ok (.athrow, 1) := by decide +kernel
theorem d_T_street_72 : decode b_T_street 72 = .ok (.aload_n 0, 1) := by decide +kernel
theorem d_T_street_73 : decode b_T_street 73 = .ok (.getfield 37, 3) := by decide +kernel
theorem d_T_street_76 : decode b_T_street 76 = .ok (.iload_n 1, 1) := by decide +kernel
theorem d_T_street_77 : decode b_T_street 77 = .ok (.iload_n 2, 1) := by decide +kernel
theorem d_T_street_78 : decode b_T_street 78 = .ok (.iload_n 3, 1) := by decide +kernel
theorem d_T_street_79 : decode b_T_street 79 = .ok (.iload 4, 2) := by decide +kernel
theorem d_T_street_81 : decode b_T_street 81 = .ok (.iload 5, 2) := by decide +kernel
theorem d_T_street_83 : decode b_T_street 83 = .ok (.invokevirtual 89, 3) := by decide +kernel
theorem d_T_street_86 : decode b_T_street 86 = .ok (.ireturn, 1) := by decide +kernel
theorem d_T_toll_0 : decode b_T_toll 0 = .ok (.aload_n 0, 1) := by decide +kernel
theorem d_T_toll_1 : decode b_T_toll 1 = .ok (.iload_n 1, 1) := by decide +kernel
theorem d_T_toll_2 : decode b_T_toll 2 = .ok (.invokevirtual 93, 3) := by decide +kernel
theorem d_T_toll_5 : decode b_T_toll 5 = .ok (.iload_n 2, 1) := by decide +kernel
theorem d_T_toll_6 : decode b_T_toll 6 = .ok (.iconst 0, 1) := by decide +kernel
theorem d_T_toll_7 : decode b_T_toll 7 = .ok (.sipush 1000, 3) := by decide +kernel
theorem d_T_toll_10 : decode b_T_toll 10 = .ok (.invokestatic 67, 3) := by decide +kernel
theorem d_T_toll_13 : decode b_T_toll 13 = .ok (.aload_n 0, 1) := by decide +kernel
theorem d_T_toll_14 : decode b_T_toll 14 = .ok (.getfield 37, 3) := by decide +kernel
theorem d_T_toll_17 : decode b_T_toll 17 = .ok (.getfield 96, 3) := by decide +kernel
theorem d_T_toll_20 : decode b_T_toll 20 = .ok (.iload_n 1, 1) := by decide +kernel
theorem d_T_toll_21 : decode b_T_toll 21 = .ok (.iaload, 1) := by decide +kernel
theorem d_T_toll_22 : decode b_T_toll 22 = .ok (.istore_n 3, 1) := by decide +kernel
theorem d_T_toll_23 : decode b_T_toll 23 = .ok (.aload_n 0, 1) := by decide +kernel
theorem d_T_toll_24 : decode b_T_toll 24 = .ok (.getfield 37, 3) := by decide +kernel
theorem d_T_toll_27 : decode b_T_toll 27 = .ok (.getfield 96, 3) := by decide +kernel
theorem d_T_toll_30 : decode b_T_toll 30 = .ok (.iload_n 1, 1) := by decide +kernel
theorem d_T_toll_31 : decode b_T_toll 31 = .ok (.iload_n 2, 1) := by decide +kernel
theorem d_T_toll_32 : decode b_T_toll 32 = .ok (.iastore, 1) := by decide +kernel
theorem d_T_toll_33 : decode b_T_toll 33 = .ok (.iload_n 3, 1) := by decide +kernel
theorem d_T_toll_34 : decode b_T_toll 34 = .ok (.ireturn, 1) := by decide +kernel
theorem d_T_open_0 : decode b_T_open 0 = .ok (.aload_n 0, 1) := by decide +kernel
theorem d_T_open_1 : decode b_T_open 1 = .ok (.iload_n 1, 1) := by decide +kernel
theorem d_T_open_2 : decode b_T_open 2 = .ok (.invokevirtual 93, 3) := by decide +kernel
theorem d_T_open_5 : decode b_T_open 5 = .ok (.aload_n 0, 1) := by decide +kernel
theorem d_T_open_6 : decode b_T_open 6 = .ok (.getfield 37, 3) := by decide +kernel
theorem d_T_open_9 : decode b_T_open 9 = .ok (.getfield 100, 3) := by decide +kernel
theorem d_T_open_12 : decode b_T_open 12 = .ok (.iload_n 1, 1) := by decide +kernel
theorem d_T_open_13 : decode b_T_open 13 = .ok (.baload, 1) := by decide +kernel
theorem d_T_open_14 : decode b_T_open 14 = .ok (.istore_n 3, 1) := by decide +kernel
theorem d_T_open_15 : decode b_T_open 15 = .ok (.aload_n 0, 1) := by decide +kernel
theorem d_T_open_16 : decode b_T_open 16 = .ok (.getfield 37, 3) := by decide +kernel
theorem d_T_open_19 : decode b_T_open 19 = .ok (.getfield 100, 3) := by decide +kernel
theorem d_T_open_22 : decode b_T_open 22 = .ok (.iload_n 1, 1) := by decide +kernel
theorem d_T_open_23 : decode b_T_open 23 = .ok (.iload_n 2, 1) := by decide +kernel
theorem d_T_open_24 : decode b_T_open 24 = .ok (.bastore, 1) := by decide +kernel
theorem d_T_open_25 : decode b_T_open 25 = .ok (.iload_n 3, 1) := by decide +kernel
theorem d_T_open_26 : decode b_T_open 26 = .ok (.ireturn, 1) := by decide +kernel
theorem d_T_weight_0 : decode b_T_weight 0 = .ok (.aload_n 0, 1) := by decide +kernel
theorem d_T_weight_1 : decode b_T_weight 1 = .ok (.iload_n 1, 1) := by decide +kernel
theorem d_T_weight_2 : decode b_T_weight 2 = .ok (.invokevirtual 104, 3) := by decide +kernel
theorem d_T_weight_5 : decode b_T_weight 5 = .ok (.aload_n 0, 1) := by decide +kernel
theorem d_T_weight_6 : decode b_T_weight 6 = .ok (.iload_n 2, 1) := by decide +kernel
theorem d_T_weight_7 : decode b_T_weight 7 = .ok (.invokevirtual 104, 3) := by decide +kernel
theorem d_T_weight_10 : decode b_T_weight 10 = .ok (.iload_n 3, 1) := by decide +kernel
theorem d_T_weight_11 : decode b_T_weight 11 = .ok (.iconst 0, 1) := by decide +kernel
theorem d_T_weight_12 : decode b_T_weight 12 = .ok (.sipush 1000, 3) := by decide +kernel
theorem d_T_weight_15 : decode b_T_weight 15 = .ok (.invokestatic 67, 3) := by decide +kernel
theorem d_T_weight_18 : decode b_T_weight 18 = .ok (.iload_n 1, 1) := by decide +kernel
theorem d_T_weight_19 : decode b_T_weight 19 = .ok (.iload_n 2, 1) := by decide +kernel
theorem d_T_weight_20 : decode b_T_weight 20 = .ok (.invokestatic 107, 3) := by decide +kernel
theorem d_T_weight_23 : decode b_T_weight 23 = .ok (.istore 4, 2) := by decide +kernel
theorem d_T_weight_25 : decode b_T_weight 25 = .ok (.aload_n 0, 1) := by decide +kernel
theorem d_T_weight_26 : decode b_T_weight 26 = .ok (.getfield 23, 3) := by decide +kernel
theorem d_T_weight_29 : decode b_T_weight 29 = .ok (.getfield 111, 3) := by decide +kernel
theorem d_T_weight_32 : decode b_T_weight 32 = .ok (.iload 4, 2) := by decide +kernel
theorem d_T_weight_34 : decode b_T_weight 34 = .ok (.iaload, 1) := by decide +kernel
theorem d_T_weight_35 : decode b_T_weight 35 = .ok (.istore 5, 2) := by decide +kernel
theorem d_T_weight_37 : decode b_T_weight 37 = .ok (.aload_n 0, 1) := by decide +kernel
theorem d_T_weight_38 : decode b_T_weight 38 = .ok (.getfield 23, 3) := by decide +kernel
theorem d_T_weight_41 : decode b_T_weight 41 = .ok (.getfield 111, 3) := by decide +kernel
theorem d_T_weight_44 : decode b_T_weight 44 = .ok (.iload 4, 2) := by decide +kernel
theorem d_T_weight_46 : decode b_T_weight 46 = .ok (.iload_n 3, 1) := by decide +kernel
theorem d_T_weight_47 : decode b_T_weight 47 = .ok (.iastore, 1) := by decide +kernel
theorem d_T_weight_48 : decode b_T_weight 48 = .ok (.iload 5, 2) := by decide +kernel
theorem d_T_weight_50 : decode b_T_weight 50 = .ok (.ireturn, 1) := by decide +kernel
theorem d_T_size_0 : decode b_T_size 0 = .ok (.aload_n 0, 1) := by decide +kernel
theorem d_T_size_1 : decode b_T_size 1 = .ok (.iload_n 1, 1) := by decide +kernel
theorem d_T_size_2 : decode b_T_size 2 = .ok (.invokevirtual 104, 3) := by decide +kernel
theorem d_T_size_5 : decode b_T_size 5 = .ok (.iload_n 2, 1) := by decide +kernel
theorem d_T_size_6 : decode b_T_size 6 = .ok (.iconst 0, 1) := by decide +kernel
theorem d_T_size_7 : decode b_T_size 7 = .ok (.iconst 1, 1) := by decide +kernel
theorem d_T_size_8 : decode b_T_size 8 = .ok (.invokestatic 67, 3) := by decide +kernel
theorem d_T_size_11 : decode b_T_size 11 = .ok (.iload_n 3, 1) := by decide +kernel
theorem d_T_size_12 : decode b_T_size 12 = .ok (.iconst 0, 1) := by decide +kernel
theorem d_T_size_13 : decode b_T_size 13 = .ok (.ldc 66, 2) := by decide +kernel
theorem d_T_size_15 : decode b_T_size 15 = .ok (.invokestatic 67, 3) := by decide +kernel
theorem d_T_size_18 : decode b_T_size 18 = .ok (.iload_n 2, 1) := by decide +kernel
theorem d_T_size_19 : decode b_T_size 19 = .ok (.ifCond .ne 13, 3) := by decide +kernel
theorem d_T_size_22 : decode b_T_size 22 = .ok (.aload_n 0, 1) := by decide +kernel
theorem d_T_size_23 : decode b_T_size 23 = .ok (.getfield 16, 3) := by decide +kernel
theorem d_T_size_26 : decode b_T_size 26 = .ok (.getfield 114, 3) := by decide +kernel
theorem d_T_size_29 : decode b_T_size 29 = .ok (.goto 10, 3) := by decide +kernel
theorem d_T_size_32 : decode b_T_size 32 = .ok (.aload_n 0, 1) := by decide +kernel
theorem d_T_size_33 : decode b_T_size 33 = .ok (.getfield 16, 3) := by decide +kernel
theorem d_T_size_36 : decode b_T_size 36 = .ok (.getfield 117, 3) := by decide +kernel
theorem d_T_size_39 : decode b_T_size 39 = .ok (.astore 4, 2) := by decide +kernel
theorem d_T_size_41 : decode b_T_size 41 = .ok (.aload 4, 2) := by decide +kernel
theorem d_T_size_43 : decode b_T_size 43 = .ok (.iload_n 1, 1) := by decide +kernel
theorem d_T_size_44 : decode b_T_size 44 = .ok (.iaload, 1) := by decide +kernel
theorem d_T_size_45 : decode b_T_size 45 = .ok (.istore 5, 2) := by decide +kernel
theorem d_T_size_47 : decode b_T_size 47 = .ok (.aload 4, 2) := by decide +kernel
theorem d_T_size_49 : decode b_T_size 49 = .ok (.iload_n 1, 1) := by decide +kernel
theorem d_T_size_50 : decode b_T_size 50 = .ok (.iload_n 3, 1) := by decide +kernel
theorem d_T_size_51 : decode b_T_size 51 = .ok (.iastore, 1) := by decide +kernel
theorem d_T_size_52 : decode b_T_size 52 = .ok (.iload 5, 2) := by decide +kernel
theorem d_T_size_54 : decode b_T_size 54 = .ok (.ireturn, 1) := by decide +kernel
theorem d_T_rounds_0 : decode b_T_rounds 0 = .ok (.iload_n 1, 1) := by decide +kernel
theorem d_T_rounds_1 : decode b_T_rounds 1 = .ok (.iconst 1, 1) := by decide +kernel
theorem d_T_rounds_2 : decode b_T_rounds 2 = .ok (.bipush 50, 2) := by decide +kernel
theorem d_T_rounds_4 : decode b_T_rounds 4 = .ok (.invokestatic 67, 3) := by decide +kernel
theorem d_T_rounds_7 : decode b_T_rounds 7 = .ok (.iload_n 2, 1) := by decide +kernel
theorem d_T_rounds_8 : decode b_T_rounds 8 = .ok (.iconst 0, 1) := by decide +kernel
theorem d_T_rounds_9 : decode b_T_rounds 9 = .ok (.ldc 66, 2) := by decide +kernel
theorem d_T_rounds_11 : decode b_T_rounds 11 = .ok (.invokestatic 67, 3) := by decide +kernel
theorem d_T_rounds_14 : decode b_T_rounds 14 = .ok (.aload_n 0, 1) := by decide +kernel
theorem d_T_rounds_15 : decode b_T_rounds 15 = .ok (.getfield 23, 3) := by decide +kernel
theorem d_T_rounds_18 : decode b_T_rounds 18 = .ok (.aload_n 0, 1) := by decide +kernel
theorem d_T_rounds_19 : decode b_T_rounds 19 = .ok (.getfield 16, 3) := by decide +kernel
theorem d_T_rounds_22 : decode b_T_rounds 22 = .ok (.iload_n 1, 1) := by decide +kernel
theorem d_T_rounds_23 : decode b_T_rounds 23 = .ok (.iload_n 2, 1) := by decide +kernel
theorem d_T_rounds_24 : decode b_T_rounds 24 = .ok (.invokevirtual 120, 3) := by decide +kernel
theorem d_T_rounds_27 : decode b_T_rounds 27 = .ok (.ireturn, 1) := by decide +kernel
theorem d_T_trips_0 : decode b_T_trips 0 = .ok (.aload_n 0, 1) := by decide +kernel
theorem d_T_trips_1 : decode b_T_trips 1 = .ok (.iload_n 1, 1) := by decide +kernel
theorem d_T_trips_2 : decode b_T_trips 2 = .ok (.invokevirtual 104, 3) := by decide +kernel
theorem d_T_trips_5 : decode b_T_trips 5 = .ok (.aload_n 0, 1) := by decide +kernel
theorem d_T_trips_6 : decode b_T_trips 6 = .ok (.iload_n 2, 1) := by decide +kernel
theorem d_T_trips_7 : decode b_T_trips 7 = .ok (.invokevirtual 104, 3) := by decide +kernel
theorem d_T_trips_10 : decode b_T_trips 10 = .ok (.aload_n 0, 1) := by decide +kernel
theorem d_T_trips_11 : decode b_T_trips 11 = .ok (.getfield 23, 3) := by decide +kernel
theorem d_T_trips_14 : decode b_T_trips 14 = .ok (.getfield 124, 3) := by decide +kernel
theorem d_T_trips_17 : decode b_T_trips 17 = .ok (.iload_n 1, 1) := by decide +kernel
theorem d_T_trips_18 : decode b_T_trips 18 = .ok (.iload_n 2, 1) := by decide +kernel
theorem d_T_trips_19 : decode b_T_trips 19 = .ok (.invokestatic 107, 3) := by decide +kernel
theorem d_T_trips_22 : decode b_T_trips 22 = .ok (.iaload, 1) := by decide +kernel
theorem d_T_trips_23 : decode b_T_trips 23 = .ok (.ireturn, 1) := by decide +kernel
theorem d_T_sum_0 : decode b_T_sum 0 = .ok (.aload_n 0, 1) := by decide +kernel
theorem d_T_sum_1 : decode b_T_sum 1 = .ok (.iload_n 1, 1) := by decide +kernel
theorem d_T_sum_2 : decode b_T_sum 2 = .ok (.invokevirtual 104, 3) := by decide +kernel
theorem d_T_sum_5 : decode b_T_sum 5 = .ok (.iload_n 2, 1) := by decide +kernel
theorem d_T_sum_6 : decode b_T_sum 6 = .ok (.iconst 0, 1) := by decide +kernel
theorem d_T_sum_7 : decode b_T_sum 7 = .ok (.iconst 1, 1) := by decide +kernel
theorem d_T_sum_8 : decode b_T_sum 8 = .ok (.invokestatic 67, 3) := by decide +kernel
theorem d_T_sum_11 : decode b_T_sum 11 = .ok (.iload_n 2, 1) := by decide +kernel
theorem d_T_sum_12 : decode b_T_sum 12 = .ok (.ifCond .ne 14, 3) := by decide +kernel
theorem d_T_sum_15 : decode b_T_sum 15 = .ok (.aload_n 0, 1) := by decide +kernel
theorem d_T_sum_16 : decode b_T_sum 16 = .ok (.getfield 23, 3) := by decide +kernel
theorem d_T_sum_19 : decode b_T_sum 19 = .ok (.iload_n 1, 1) := by decide +kernel
theorem d_T_sum_20 : decode b_T_sum 20 = .ok (.invokevirtual 127, 3) := by decide +kernel
theorem d_T_sum_23 : decode b_T_sum 23 = .ok (.goto 11, 3) := by decide +kernel
theorem d_T_sum_26 : decode b_T_sum 26 = .ok (.aload_n 0, 1) := by decide +kernel
theorem d_T_sum_27 : decode b_T_sum 27 = .ok (.getfield 23, 3) := by decide +kernel
theorem d_T_sum_30 : decode b_T_sum 30 = .ok (.iload_n 1, 1) := by decide +kernel
theorem d_T_sum_31 : decode b_T_sum 31 = .ok (.invokevirtual 131, 3) := by decide +kernel
theorem d_T_sum_34 : decode b_T_sum 34 = .ok (.ireturn, 1) := by decide +kernel
theorem d_T_factor_0 : decode b_T_factor 0 = .ok (.aload_n 0, 1) := by decide +kernel
theorem d_T_factor_1 : decode b_T_factor 1 = .ok (.iload_n 1, 1) := by decide +kernel
theorem d_T_factor_2 : decode b_T_factor 2 = .ok (.invokevirtual 104, 3) := by decide +kernel
theorem d_T_factor_5 : decode b_T_factor 5 = .ok (.aload_n 0, 1) := by decide +kernel
theorem d_T_factor_6 : decode b_T_factor 6 = .ok (.getfield 23, 3) := by decide +kernel
theorem d_T_factor_9 : decode b_T_factor 9 = .ok (.getfield 134, 3) := by decide +kernel
theorem d_T_factor_12 : decode b_T_factor 12 = .ok (.iload_n 1, 1) := by decide +kernel
theorem d_T_factor_13 : decode b_T_factor 13 = .ok (.iaload, 1) := by decide +kernel
theorem d_T_factor_14 : decode b_T_factor 14 = .ok (.ireturn, 1) := by decide +kernel
theorem d_T_pull_0 : decode b_T_pull 0 = .ok (.iload_n 1, 1) := by decide +kernel
theorem d_T_pull_1 : decode b_T_pull 1 = .ok (.iconst 0, 1) := by decide +kernel
theorem d_T_pull_2 : decode b_T_pull 2 = .ok (.iconst 2, 1) := by decide +kernel
theorem d_T_pull_3 : decode b_T_pull 3 = .ok (.invokestatic 67, 3) := by decide +kernel
theorem d_T_pull_6 : decode b_T_pull 6 = .ok (.aload_n 0, 1) := by decide +kernel
theorem d_T_pull_7 : decode b_T_pull 7 = .ok (.iload_n 2, 1) := by decide +kernel
theorem d_T_pull_8 : decode b_T_pull 8 = .ok (.invokevirtual 104, 3) := by decide +kernel
theorem d_T_pull_11 : decode b_T_pull 11 = .ok (.aload_n 0, 1) := by decide +kernel
theorem d_T_pull_12 : decode b_T_pull 12 = .ok (.iload_n 3, 1) := by decide +kernel
theorem d_T_pull_13 : decode b_T_pull 13 = .ok (.invokevirtual 104, 3) := by decide +kernel
theorem d_T_pull_16 : decode b_T_pull 16 = .ok (.iload 4, 2) := by decide +kernel
theorem d_T_pull_18 : decode b_T_pull 18 = .ok (.iconst 0, 1) := by decide +kernel
theorem d_T_pull_19 : decode b_T_pull 19 = .ok (.sipush 1000, 3) := by decide +kernel
theorem d_T_pull_22 : decode b_T_pull 22 = .ok (.invokestatic 67, 3) := by decide +kernel
theorem d_T_pull_25 : decode b_T_pull 25 = .ok (.iload_n 1, 1) := by decide +kernel
theorem d_T_pull_26 : decode b_T_pull 26 = .ok (.iload_n 2, 1) := by decide +kernel
theorem d_T_pull_27 : decode b_T_pull 27 = .ok (.iload_n 3, 1) := by decide +kernel
theorem d_T_pull_28 : decode b_T_pull 28 = .ok (.invokestatic 107, 3) := by decide +kernel
theorem d_T_pull_31 : decode b_T_pull 31 = .ok (.invokestatic 137, 3) := by decide +kernel
theorem d_T_pull_34 : decode b_T_pull 34 = .ok (.istore 5, 2) := by decide +kernel
theorem d_T_pull_36 : decode b_T_pull 36 = .ok (.aload_n 0, 1) := by decide +kernel
theorem d_T_pull_37 : decode b_T_pull 37 = .ok (.getfield 30, 3) := by decide +kernel
theorem d_T_pull_40 : decode b_T_pull 40 = .ok (.getfield 140, 3) := by decide +kernel
theorem d_T_pull_43 : decode b_T_pull 43 = .ok (.iload 5, 2) := by decide +kernel
theorem d_T_pull_45 : decode b_T_pull 45 = .ok (.iaload, 1) := by decide +kernel
theorem d_T_pull_46 : decode b_T_pull 46 = .ok (.istore 6, 2) := by decide +kernel
theorem d_T_pull_48 : decode b_T_pull 48 = .ok (.aload_n 0, 1) := by decide +kernel
theorem d_T_pull_49 : decode b_T_pull 49 = .ok (.getfield 30, 3) := by decide +kernel
theorem d_T_pull_52 : decode b_T_pull 52 = .ok (.getfield 140, 3) := by decide +kernel
theorem d_T_pull_55 : decode b_T_pull 55 = .ok (.iload 5, 2) := by decide +kernel
theorem d_T_pull_57 : decode b_T_pull 57 = .ok (.iload 4, 2) := by decide +kernel
theorem d_T_pull_59 : decode b_T_pull 59 = .ok (.iastore, 1) := by decide +kernel
theorem d_T_pull_60 : decode b_T_pull 60 = .ok (.iload 6, 2) := by decide +kernel
theorem d_T_pull_62 : decode b_T_pull 62 = .ok (.ireturn, 1) := by decide +kernel
theorem d_T_chosen_0 : decode b_T_chosen 0 = .ok (.iload_n 1, 1) := by decide +kernel
theorem d_T_chosen_1 : decode b_T_chosen 1 = .ok (.iconst 0, 1) := by decide +kernel
theorem d_T_chosen_2 : decode b_T_chosen 2 = .ok (.iconst 2, 1) := by decide +kernel
theorem d_T_chosen_3 : decode b_T_chosen 3 = .ok (.invokestatic 67, 3) := by decide +kernel
theorem d_T_chosen_6 : decode b_T_chosen 6 = .ok (.aload_n 0, 1) := by decide +kernel
theorem d_T_chosen_7 : decode b_T_chosen 7 = .ok (.iload_n 2, 1) := by decide +kernel
theorem d_T_chosen_8 : decode b_T_chosen 8 = .ok (.invokevirtual 104, 3) := by decide +kernel
theorem d_T_chosen_11 : decode b_T_chosen 11 = .ok (.aload_n 0, 1) := by decide +kernel
theorem d_T_chosen_12 : decode b_T_chosen 12 = .ok (.iload_n 3, 1) := by decide +kernel
theorem d_T_chosen_13 : decode b_T_chosen 13 = .ok (.invokevirtual 104, 3) := by decide +kernel
theorem d_T_chosen_16 : decode b_T_chosen 16 = .ok (.iload_n 2, 1) := by decide +kernel
theorem d_T_chosen_17 : decode b_T_chosen 17 = .ok (.iload_n 3, 1) := by decide +kernel
theorem d_T_chosen_18 : decode b_T_chosen 18 = .ok (.invokestatic 107, 3) := by decide +kernel
theorem d_T_chosen_21 : decode b_T_chosen 21 = .ok (.istore 4, 2) := by decide +kernel
theorem d_T_chosen_23 : decode b_T_chosen 23 = .ok (.aload_n 0, 1) := by decide +kernel
theorem d_T_chosen_24 : decode b_T_chosen 24 = .ok (.getfield 30, 3) := by decide +kernel
theorem d_T_chosen_27 : decode b_T_chosen 27 = .ok (.iload_n 1, 1) := by decide +kernel
theorem d_T_chosen_28 : decode b_T_chosen 28 = .ok (.iload 4, 2) := by decide +kernel
theorem d_T_chosen_30 : decode b_T_chosen 30 = .ok (.aload_n 0, 1) := by decide +kernel
theorem d_T_chosen_31 : decode b_T_chosen 31 = .ok (.getfield 23, 3) := by decide +kernel
theorem d_T_chosen_34 : decode b_T_chosen 34 = .ok (.getfield 124, 3) := by decide +kernel
theorem d_T_chosen_37 : decode b_T_chosen 37 = .ok (.iload 4, 2) := by decide +kernel
theorem d_T_chosen_39 : decode b_T_chosen 39 = .ok (.iaload, 1) := by decide +kernel
theorem d_T_chosen_40 : decode b_T_chosen 40 = .ok (.invokevirtual 143, 3) := by decide +kernel
theorem d_T_chosen_43 : decode b_T_chosen 43 = .ok (.ireturn, 1) := by decide +kernel
theorem d_T_assign_0 : decode b_T_assign 0 = .ok (.iload_n 1, 1) := by decide +kernel
theorem d_T_assign_1 : decode b_T_assign 1 = .ok (.iconst 1, 1) := by decide +kernel
theorem d_T_assign_2 : decode b_T_assign 2 = .ok (.bipush 8, 2) := by decide +kernel
theorem d_T_assign_4 : decode b_T_assign 4 = .ok (.invokestatic 67, 3) := by decide +kernel
theorem d_T_assign_7 : decode b_T_assign 7 = .ok (.aload_n 0, 1) := by decide +kernel
theorem d_T_assign_8 : decode b_T_assign 8 = .ok (.iload_n 1, 1) := by decide +kernel
theorem d_T_assign_9 : decode b_T_assign 9 = .ok (.invokevirtual 146, 3) := by decide +kernel
theorem d_T_assign_12 : decode b_T_assign 12 = .ok (.aload_n 0, 1) := by decide +kernel
theorem d_T_assign_13 : decode b_T_assign 13 = .ok (.getfield 51, 3) := by decide +kernel
theorem d_T_assign_16 : decode b_T_assign 16 = .ok (.getfield 149, 3) := by decide +kernel
theorem d_T_assign_19 : decode b_T_assign 19 = .ok (.ireturn, 1) := by decide +kernel
theorem d_T_flow_0 : decode b_T_flow 0 = .ok (.aload_n 0, 1) := by decide +kernel
theorem d_T_flow_1 : decode b_T_flow 1 = .ok (.iload_n 1, 1) := by decide +kernel
theorem d_T_flow_2 : decode b_T_flow 2 = .ok (.invokevirtual 93, 3) := by decide +kernel
theorem d_T_flow_5 : decode b_T_flow 5 = .ok (.iload_n 2, 1) := by decide +kernel
theorem d_T_flow_6 : decode b_T_flow 6 = .ok (.iconst 0, 1) := by decide +kernel
theorem d_T_flow_7 : decode b_T_flow 7 = .ok (.iconst 1, 1) := by decide +kernel
theorem d_T_flow_8 : decode b_T_flow 8 = .ok (.invokestatic 67, 3) := by decide +kernel
theorem d_T_flow_11 : decode b_T_flow 11 = .ok (.iload_n 2, 1) := by decide +kernel
theorem d_T_flow_12 : decode b_T_flow 12 = .ok (.ifCond .ne 15, 3) := by decide +kernel
theorem d_T_flow_15 : decode b_T_flow 15 = .ok (.aload_n 0, 1) := by decide +kernel
theorem d_T_flow_16 : decode b_T_flow 16 = .ok (.getfield 37, 3) := by decide +kernel
theorem d_T_flow_19 : decode b_T_flow 19 = .ok (.getfield 152, 3) := by decide +kernel
theorem d_T_flow_22 : decode b_T_flow 22 = .ok (.iload_n 1, 1) := by decide +kernel
theorem d_T_flow_23 : decode b_T_flow 23 = .ok (.iaload, 1) := by decide +kernel
theorem d_T_flow_24 : decode b_T_flow 24 = .ok (.goto 11, 3) := by decide +kernel
theorem d_T_flow_27 : decode b_T_flow 27 = .ok (.aload_n 0, 1) := by decide +kernel
theorem d_T_flow_28 : decode b_T_flow 28 = .ok (.getfield 37, 3) := by decide +kernel
theorem d_T_flow_31 : decode b_T_flow 31 = .ok (.iload_n 1, 1) := by decide +kernel
theorem d_T_flow_32 : decode b_T_flow 32 = .ok (.invokevirtual 155, 3) := by decide +kernel
theorem d_T_flow_35 : decode b_T_flow 35 = .ok (.ireturn, 1) := by decide +kernel
theorem d_T_way_0 : decode b_T_way 0 = .ok (.aload_n 0, 1) := by decide +kernel
theorem d_T_way_1 : decode b_T_way 1 = .ok (.iload_n 1, 1) := by decide +kernel
theorem d_T_way_2 : decode b_T_way 2 = .ok (.invokevirtual 62, 3) := by decide +kernel
theorem d_T_way_5 : decode b_T_way 5 = .ok (.aload_n 0, 1) := by decide +kernel
theorem d_T_way_6 : decode b_T_way 6 = .ok (.iload_n 2, 1) := by decide +kernel
theorem d_T_way_7 : decode b_T_way 7 = .ok (.invokevirtual 62, 3) := by decide +kernel
theorem d_T_way_10 : decode b_T_way 10 = .ok (.iload_n 3, 1) := by decide +kernel
theorem d_T_way_11 : decode b_T_way 11 = .ok (.ifCond .ge 13, 3) := by decide +kernel
theorem d_T_way_14 : decode b_T_way 14 = .ok (.new 80, 3) := by decide +kernel
theorem d_T_way_17 : decode b_T_way 17 = .ok (.dup, 1) := by decide +kernel
theorem d_T_way_18 : decode b_T_way 18 = .ok (.ldc 158, 2) := by decide +kernel
theorem d_T_way_20 : decode b_T_way 20 = .ok (.invokespecial 84, 3) := by decide +kernel
theorem d_T_way_23 : decode b_T_way 23 = .ok (.athrow, 1) := by decide +kernel
theorem d_T_way_24 : decode b_T_way 24 = .ok (.aload_n 0, 1) := by decide +kernel
theorem d_T_way_25 : decode b_T_way 25 = .ok (.getfield 44, 3) := by decide +kernel
theorem d_T_way_28 : decode b_T_way 28 = .ok (.aload_n 0, 1) := by decide +kernel
theorem d_T_way_29 : decode b_T_way 29 = .ok (.getfield 37, 3) := by decide +kernel
theorem d_T_way_32 : decode b_T_way 32 = .ok (.invokevirtual 160, 3) := by decide +kernel
theorem d_T_way_35 : decode b_T_way 35 = .ok (.aload_n 0, 1) := by decide +kernel
theorem d_T_way_36 : decode b_T_way 36 = .ok (.getfield 44, 3) := by decide +kernel
theorem d_T_way_39 : decode b_T_way 39 = .ok (.iload_n 2, 1) := by decide +kernel
theorem d_T_way_40 : decode b_T_way 40 = .ok (.aload_n 0, 1) := by decide +kernel
theorem d_T_way_41 : decode b_T_way 41 = .ok (.getfield 37, 3) := by decide +kernel
theorem d_T_way_44 : decode b_T_way 44 = .ok (.invokevirtual 164, 3) := by decide +kernel
theorem d_T_way_47 : decode b_T_way 47 = .ok (.aload_n 0, 1) := by decide +kernel
theorem d_T_way_48 : decode b_T_way 48 = .ok (.getfield 44, 3) := by decide +kernel
theorem d_T_way_51 : decode b_T_way 51 = .ok (.iload_n 3, 1) := by decide +kernel
theorem d_T_way_52 : decode b_T_way 52 = .ok (.iload_n 1, 1) := by decide +kernel
theorem d_T_way_53 : decode b_T_way 53 = .ok (.aload_n 0, 1) := by decide +kernel
theorem d_T_way_54 : decode b_T_way 54 = .ok (.getfield 37, 3) := by decide +kernel
theorem d_T_way_57 : decode b_T_way 57 = .ok (.invokevirtual 168, 3) := by decide +kernel
theorem d_T_way_60 : decode b_T_way 60 = .ok (.ireturn, 1) := by decide +kernel
theorem d_T_least_0 : decode b_T_least 0 = .ok (.aload_n 0, 1) := by decide +kernel
theorem d_T_least_1 : decode b_T_least 1 = .ok (.iload_n 1, 1) := by decide +kernel
theorem d_T_least_2 : decode b_T_least 2 = .ok (.invokevirtual 62, 3) := by decide +kernel
theorem d_T_least_5 : decode b_T_least 5 = .ok (.aload_n 0, 1) := by decide +kernel
theorem d_T_least_6 : decode b_T_least 6 = .ok (.iload_n 2, 1) := by decide +kernel
theorem d_T_least_7 : decode b_T_least 7 = .ok (.invokevirtual 62, 3) := by decide +kernel
theorem d_T_least_10 : decode b_T_least 10 = .ok (.aload_n 0, 1) := by decide +kernel
theorem d_T_least_11 : decode b_T_least 11 = .ok (.getfield 44, 3) := by decide +kernel
theorem d_T_least_14 : decode b_T_least 14 = .ok (.aload_n 0, 1) := by decide +kernel
theorem d_T_least_15 : decode b_T_least 15 = .ok (.getfield 37, 3) := by decide +kernel
theorem d_T_least_18 : decode b_T_least 18 = .ok (.invokevirtual 160, 3) := by decide +kernel
theorem d_T_least_21 : decode b_T_least 21 = .ok (.aload_n 0, 1) := by decide +kernel
theorem d_T_least_22 : decode b_T_least 22 = .ok (.getfield 44, 3) := by decide +kernel
theorem d_T_least_25 : decode b_T_least 25 = .ok (.iload_n 2, 1) := by decide +kernel
theorem d_T_least_26 : decode b_T_least 26 = .ok (.aload_n 0, 1) := by decide +kernel
theorem d_T_least_27 : decode b_T_least 27 = .ok (.getfield 37, 3) := by decide +kernel
theorem d_T_least_30 : decode b_T_least 30 = .ok (.invokevirtual 164, 3) := by decide +kernel
theorem d_T_least_33 : decode b_T_least 33 = .ok (.aload_n 0, 1) := by decide +kernel
theorem d_T_least_34 : decode b_T_least 34 = .ok (.getfield 44, 3) := by decide +kernel
theorem d_T_least_37 : decode b_T_least 37 = .ok (.iload_n 1, 1) := by decide +kernel
theorem d_T_least_38 : decode b_T_least 38 = .ok (.invokevirtual 172, 3) := by decide +kernel
theorem d_T_least_41 : decode b_T_least 41 = .ok (.ireturn, 1) := by decide +kernel
theorem d_T_link_0 : decode b_T_link 0 = .ok (.aload_n 0, 1) := by decide +kernel
theorem d_T_link_1 : decode b_T_link 1 = .ok (.iload_n 1, 1) := by decide +kernel
theorem d_T_link_2 : decode b_T_link 2 = .ok (.invokevirtual 93, 3) := by decide +kernel
theorem d_T_link_5 : decode b_T_link 5 = .ok (.aload_n 0, 1) := by decide +kernel
theorem d_T_link_6 : decode b_T_link 6 = .ok (.iload_n 2, 1) := by decide +kernel
theorem d_T_link_7 : decode b_T_link 7 = .ok (.invokevirtual 104, 3) := by decide +kernel
theorem d_T_link_10 : decode b_T_link 10 = .ok (.aload_n 0, 1) := by decide +kernel
theorem d_T_link_11 : decode b_T_link 11 = .ok (.iload_n 3, 1) := by decide +kernel
theorem d_T_link_12 : decode b_T_link 12 = .ok (.invokevirtual 104, 3) := by decide +kernel
theorem d_T_link_15 : decode b_T_link 15 = .ok (.aload_n 0, 1) := by decide +kernel
theorem d_T_link_16 : decode b_T_link 16 = .ok (.getfield 51, 3) := by decide +kernel
theorem d_T_link_19 : decode b_T_link 19 = .ok (.getfield 175, 3) := by decide +kernel
theorem d_T_link_22 : decode b_T_link 22 = .ok (.iload_n 1, 1) := by decide +kernel
theorem d_T_link_23 : decode b_T_link 23 = .ok (.iload_n 2, 1) := by decide +kernel
theorem d_T_link_24 : decode b_T_link 24 = .ok (.iload_n 3, 1) := by decide +kernel
theorem d_T_link_25 : decode b_T_link 25 = .ok (.invokestatic 107, 3) := by decide +kernel
theorem d_T_link_28 : decode b_T_link 28 = .ok (.invokestatic 178, 3) := by decide +kernel
theorem d_T_link_31 : decode b_T_link 31 = .ok (.iaload, 1) := by decide +kernel
theorem d_T_link_32 : decode b_T_link 32 = .ok (.ireturn, 1) := by decide +kernel
theorem d_T_gap_0 : decode b_T_gap 0 = .ok (.aload_n 0, 1) := by decide +kernel
theorem d_T_gap_1 : decode b_T_gap 1 = .ok (.getfield 44, 3) := by decide +kernel
theorem d_T_gap_4 : decode b_T_gap 4 = .ok (.aload_n 0, 1) := by decide +kernel
theorem d_T_gap_5 : decode b_T_gap 5 = .ok (.getfield 37, 3) := by decide +kernel
theorem d_T_gap_8 : decode b_T_gap 8 = .ok (.invokevirtual 160, 3) := by decide +kernel
theorem d_T_gap_11 : decode b_T_gap 11 = .ok (.lconst 0, 1) := by decide +kernel
theorem d_T_gap_12 : decode b_T_gap 12 = .ok (.lstore_n 1, 1) := by decide +kernel
theorem d_T_gap_13 : decode b_T_gap 13 = .ok (.iconst 0, 1) := by decide +kernel
theorem d_T_gap_14 : decode b_T_gap 14 = .ok (.istore_n 3, 1) := by decide +kernel
theorem d_T_gap_15 : decode b_T_gap 15 = .ok (.iload_n 3, 1) := by decide +kernel
theorem d_T_gap_16 : decode b_T_gap 16 = .ok (.aload_n 0, 1) := by decide +kernel
theorem d_T_gap_17 : decode b_T_gap 17 = .ok (.getfield 37, 3) := by decide +kernel
theorem d_T_gap_20 : decode b_T_gap 20 = .ok (.getfield 86, 3) := by decide +kernel
theorem d_T_gap_23 : decode b_T_gap 23 = .ok (.if_icmp .ge 33, 3) := by decide +kernel
theorem d_T_gap_26 : decode b_T_gap 26 = .ok (.lload_n 1, 1) := by decide +kernel
theorem d_T_gap_27 : decode b_T_gap 27 = .ok (.aload_n 0, 1) := by decide +kernel
theorem d_T_gap_28 : decode b_T_gap 28 = .ok (.getfield 37, 3) := by decide +kernel
theorem d_T_gap_31 : decode b_T_gap 31 = .ok (.getfield 152, 3) := by decide +kernel
theorem d_T_gap_34 : decode b_T_gap 34 = .ok (.iload_n 3, 1) := by decide +kernel
theorem d_T_gap_35 : decode b_T_gap 35 = .ok (.iaload, 1) := by decide +kernel
theorem d_T_gap_36 : decode b_T_gap 36 = .ok (.i2l, 1) := by decide +kernel
theorem d_T_gap_37 : decode b_T_gap 37 = .ok (.aload_n 0, 1) := by decide +kernel
theorem d_T_gap_38 : decode b_T_gap 38 = .ok (.getfield 44, 3) := by decide +kernel
theorem d_T_gap_41 : decode b_T_gap 41 = .ok (.getfield 179, 3) := by decide +kernel
theorem d_T_gap_44 : decode b_T_gap 44 = .ok (.iload_n 3, 1) := by decide +kernel
theorem d_T_gap_45 : decode b_T_gap 45 = .ok (.iaload, 1) := by decide +kernel
theorem d_T_gap_46 : decode b_T_gap 46 = .ok (.i2l, 1) := by decide +kernel
theorem d_T_gap_47 : decode b_T_gap 47 = .ok (.lmul, 1) := by decide +kernel
theorem d_T_gap_48 : decode b_T_gap 48 = .ok (.ladd, 1) := by decide +kernel
theorem d_T_gap_49 : decode b_T_gap 49 = .ok (.lstore_n 1, 1) := by decide +kernel
theorem d_T_gap_50 : decode b_T_gap 50 = .ok (.iinc 3 1, 3) := by decide +kernel
theorem d_T_gap_53 : decode b_T_gap 53 = .ok (.goto (-38), 3) := by decide +kernel
theorem d_T_gap_56 : decode b_T_gap 56 = .ok (.iconst 0, 1) := by decide +kernel
theorem d_T_gap_57 : decode b_T_gap 57 = .ok (.istore_n 3, 1) := by decide +kernel
theorem d_T_gap_58 : decode b_T_gap 58 = .ok (.iload_n 3, 1) := by decide +kernel
theorem d_T_gap_59 : decode b_T_gap 59 = .ok (.aload_n 0, 1) := by decide +kernel
theorem d_T_gap_60 : decode b_T_gap 60 = .ok (.getfield 16, 3) := by decide +kernel
theorem d_T_gap_63 : decode b_T_gap 63 = .ok (.getfield 71, 3) := by decide +kernel
theorem d_T_gap_66 : decode b_T_gap 66 = .ok (.if_icmp .ge 37, 3) := by decide +kernel
theorem d_T_gap_69 : decode b_T_gap 69 = .ok (.aload_n 0, 1) := by decide +kernel
theorem d_T_gap_70 : decode b_T_gap 70 = .ok (.getfield 44, 3) := by decide +kernel
theorem d_T_gap_73 : decode b_T_gap 73 = .ok (.aload_n 0, 1) := by decide +kernel
theorem d_T_gap_74 : decode b_T_gap 74 = .ok (.getfield 16, 3) := by decide +kernel
theorem d_T_gap_77 : decode b_T_gap 77 = .ok (.getfield 182, 3) := by decide +kernel
theorem d_T_gap_80 : decode b_T_gap 80 = .ok (.iload_n 3, 1) := by decide +kernel
theorem d_T_gap_81 : decode b_T_gap 81 = .ok (.iaload, 1) := by decide +kernel
theorem d_T_gap_82 : decode b_T_gap 82 = .ok (.aload_n 0, 1) := by decide +kernel
theorem d_T_gap_83 : decode b_T_gap 83 = .ok (.getfield 37, 3) := by decide +kernel
theorem d_T_gap_86 : decode b_T_gap 86 = .ok (.invokevirtual 164, 3) := by decide +kernel
theorem d_T_gap_89 : decode b_T_gap 89 = .ok (.lload_n 1, 1) := by decide +kernel
theorem d_T_gap_90 : decode b_T_gap 90 = .ok (.aload_n 0, 1) := by decide +kernel
theorem d_T_gap_91 : decode b_T_gap 91 = .ok (.iload_n 3, 1) := by decide +kernel
theorem d_T_gap_92 : decode b_T_gap 92 = .ok (.invokevirtual 185, 3) := by decide +kernel
theorem d_T_gap_95 : decode b_T_gap 95 = .ok (.lsub, 1) := by decide +kernel
theorem d_T_gap_96 : decode b_T_gap 96 = .ok (.lstore_n 1, 1) := by decide +kernel
theorem d_T_gap_97 : decode b_T_gap 97 = .ok (.iinc 3 1, 3) := by decide +kernel
theorem d_T_gap_100 : decode b_T_gap 100 = .ok (.goto (-42), 3) := by decide +kernel
theorem d_T_gap_103 : decode b_T_gap 103 = .ok (.lload_n 1, 1) := by decide +kernel
theorem d_T_gap_104 : decode b_T_gap 104 = .ok (.lreturn, 1) := by decide +kernel
theorem d_T_count_0 : decode b_T_count 0 = .ok (.aload_n 0, 1) := by decide +kernel
theorem d_T_count_1 : decode b_T_count 1 = .ok (.iload_n 1, 1) := by decide +kernel
theorem d_T_count_2 : decode b_T_count 2 = .ok (.invokevirtual 93, 3) := by decide +kernel
theorem d_T_count_5 : decode b_T_count 5 = .ok (.iload_n 2, 1) := by decide +kernel
theorem d_T_count_6 : decode b_T_count 6 = .ok (.iconst (-1), 1) := by decide +kernel
theorem d_T_count_7 : decode b_T_count 7 = .ok (.ldc 85, 2) := by decide +kernel
theorem d_T_count_9 : decode b_T_count 9 = .ok (.invokestatic 67, 3) := by decide +kernel
theorem d_T_count_12 : decode b_T_count 12 = .ok (.aload_n 0, 1) := by decide +kernel
theorem d_T_count_13 : decode b_T_count 13 = .ok (.getfield 37, 3) := by decide +kernel
theorem d_T_count_16 : decode b_T_count 16 = .ok (.getfield 189, 3) := by decide +kernel
theorem d_T_count_19 : decode b_T_count 19 = .ok (.iload_n 1, 1) := by decide +kernel
theorem d_T_count_20 : decode b_T_count 20 = .ok (.iaload, 1) := by decide +kernel
theorem d_T_count_21 : decode b_T_count 21 = .ok (.istore_n 3, 1) := by decide +kernel
theorem d_T_count_22 : decode b_T_count 22 = .ok (.aload_n 0, 1) := by decide +kernel
theorem d_T_count_23 : decode b_T_count 23 = .ok (.getfield 37, 3) := by decide +kernel
theorem d_T_count_26 : decode b_T_count 26 = .ok (.getfield 189, 3) := by decide +kernel
theorem d_T_count_29 : decode b_T_count 29 = .ok (.iload_n 1, 1) := by decide +kernel
theorem d_T_count_30 : decode b_T_count 30 = .ok (.iload_n 2, 1) := by decide +kernel
theorem d_T_count_31 : decode b_T_count 31 = .ok (.iastore, 1) := by decide +kernel
theorem d_T_count_32 : decode b_T_count 32 = .ok (.iload_n 3, 1) := by decide +kernel
theorem d_T_count_33 : decode b_T_count 33 = .ok (.ireturn, 1) := by decide +kernel
theorem d_T_fit_0 : decode b_T_fit 0 = .ok (.iload_n 1, 1) := by decide +kernel
theorem d_T_fit_1 : decode b_T_fit 1 = .ok (.iconst 1, 1) := by decide +kernel
theorem d_T_fit_2 : decode b_T_fit 2 = .ok (.bipush 20, 2) := by decide +kernel
theorem d_T_fit_4 : decode b_T_fit 4 = .ok (.invokestatic 67, 3) := by decide +kernel
theorem d_T_fit_7 : decode b_T_fit 7 = .ok (.aload_n 0, 1) := by decide +kernel
theorem d_T_fit_8 : decode b_T_fit 8 = .ok (.getfield 51, 3) := by decide +kernel
theorem d_T_fit_11 : decode b_T_fit 11 = .ok (.getfield 192, 3) := by decide +kernel
theorem d_T_fit_14 : decode b_T_fit 14 = .ok (.ifCond .ne 13, 3) := by decide +kernel
theorem d_T_fit_17 : decode b_T_fit 17 = .ok (.new 55, 3) := by decide +kernel
theorem d_T_fit_20 : decode b_T_fit 20 = .ok (.dup, 1) := by decide +kernel
theorem d_T_fit_21 : decode b_T_fit 21 = .ok (.ldc 195, 2) := by decide +kernel
theorem d_T_fit_23 : decode b_T_fit 23 = .ok (.invokespecial 59, 3) := by decide +kernel
theorem d_T_fit_26 : decode b_T_fit 26 = .ok (.athrow, 1) := by decide +kernel
theorem d_T_fit_27 : decode b_T_fit 27 = .ok (.iconst 0, 1) := by decide +kernel
theorem d_T_fit_28 : decode b_T_fit 28 = .ok (.istore_n 2, 1) := by decide +kernel
theorem d_T_fit_29 : decode b_T_fit 29 = .ok (.iload_n 2, 1) := by decide +kernel
theorem d_T_fit_30 : decode b_T_fit 30 = .ok (.iload_n 1, 1) := by decide +kernel
theorem d_T_fit_31 : decode b_T_fit 31 = .ok (.if_icmp .ge 52, 3) := by decide +kernel
theorem d_T_fit_34 : decode b_T_fit 34 = .ok (.aload_n 0, 1) := by decide +kernel
theorem d_T_fit_35 : decode b_T_fit 35 = .ok (.getfield 37, 3) := by decide +kernel
theorem d_T_fit_38 : decode b_T_fit 38 = .ok (.invokevirtual 197, 3) := by decide +kernel
theorem d_T_fit_41 : decode b_T_fit 41 = .ok (.istore_n 3, 1) := by decide +kernel
theorem d_T_fit_42 : decode b_T_fit 42 = .ok (.iload_n 3, 1) := by decide +kernel
theorem d_T_fit_43 : decode b_T_fit 43 = .ok (.iconst (-1), 1) := by decide +kernel
theorem d_T_fit_44 : decode b_T_fit 44 = .ok (.if_icmp .eq 15, 3) := by decide +kernel
theorem d_T_fit_47 : decode b_T_fit 47 = .ok (.aload_n 0, 1) := by decide +kernel
theorem d_T_fit_48 : decode b_T_fit 48 = .ok (.getfield 37, 3) := by decide +kernel
theorem d_T_fit_51 : decode b_T_fit 51 = .ok (.getfield 152, 3) := by decide +kernel
theorem d_T_fit_54 : decode b_T_fit 54 = .ok (.iload_n 3, 1) := by decide +kernel
theorem d_T_fit_55 : decode b_T_fit 55 = .ok (.iaload, 1) := by decide +kernel
theorem d_T_fit_56 : decode b_T_fit 56 = .ok (.ifCond .ne 5, 3) := by decide +kernel
theorem d_T_fit_59 : decode b_T_fit 59 = .ok (.iload_n 2, 1) := by decide +kernel
theorem d_T_fit_60 : decode b_T_fit 60 = .ok (.ireturn, 1) := by decide +kernel
theorem d_T_fit_61 : decode b_T_fit 61 = .ok (.aload_n 0, 1) := by decide +kernel
theorem d_T_fit_62 : decode b_T_fit 62 = .ok (.iload_n 3, 1) := by decide +kernel
theorem d_T_fit_63 : decode b_T_fit 63 = .ok (.invokevirtual 201, 3) := by decide +kernel
theorem d_T_fit_66 : decode b_T_fit 66 = .ok (.aload_n 0, 1) := by decide +kernel
theorem d_T_fit_67 : decode b_T_fit 67 = .ok (.aload_n 0, 1) := by decide +kernel
theorem d_T_fit_68 : decode b_T_fit 68 = .ok (.getfield 51, 3) := by decide +kernel
theorem d_T_fit_71 : decode b_T_fit 71 = .ok (.getfield 192, 3) := by decide +kernel
theorem d_T_fit_74 : decode b_T_fit 74 = .ok (.invokevirtual 146, 3) := by decide +kernel
theorem d_T_fit_77 : decode b_T_fit 77 = .ok (.iinc 2 1, 3) := by decide +kernel
theorem d_T_fit_80 : decode b_T_fit 80 = .ok (.goto (-51), 3) := by decide +kernel
theorem d_T_fit_83 : decode b_T_fit 83 = .ok (.iload_n 1, 1) := by decide +kernel
theorem d_T_fit_84 : decode b_T_fit 84 = .ok (.ireturn, 1) := by decide +kernel
theorem d_T_needNode_0 : decode b_T_needNode 0 = .ok (.iload_n 1, 1) := by decide +kernel
theorem d_T_needNode_1 : decode b_T_needNode 1 = .ok (.ifCond .lt 11, 3) := by decide +kernel
theorem d_T_needNode_4 : decode b_T_needNode 4 = .ok (.iload_n 1, 1) := by decide +kernel
theorem d_T_needNode_5 : decode b_T_needNode 5 = .ok (.aload_n 0, 1) := by decide +kernel
theorem d_T_needNode_6 : decode b_T_needNode 6 = .ok (.getfield 9, 3) := by decide +kernel
theorem d_T_needNode_9 : decode b_T_needNode 9 = .ok (.if_icmp .lt 13, 3) := by decide +kernel
theorem d_T_needNode_12 : decode b_T_needNode 12 = .ok (.new 80, 3) := by decide +kernel
theorem d_T_needNode_15 : decode b_T_needNode 15 = .ok (.dup, 1) := by decide +kernel
theorem d_T_needNode_16 : decode b_T_needNode 16 = .ok (.ldc 204, 2) := by decide +kernel
theorem d_T_needNode_18 : decode b_T_needNode 18 = .ok (.invokespecial 84, 3) := by decide +kernel
theorem d_T_needNode_21 : decode b_T_needNode 21 = .ok (.athrow, 1) := by decide +kernel
theorem d_T_needNode_22 : decode b_T_needNode 22 = .ok (.return_, 1) := by decide +kernel
theorem d_T_needZone_0 : decode b_T_needZone 0 = .ok (.iload_n 1, 1) := by decide +kernel
theorem d_T_needZone_1 : decode b_T_needZone 1 = .ok (.ifCond .lt 14, 3) := by decide +kernel
theorem d_T_needZone_4 : decode b_T_needZone 4 = .ok (.iload_n 1, 1) := by decide +kernel
theorem d_T_needZone_5 : decode b_T_needZone 5 = .ok (.aload_n 0, 1) := by decide +kernel
theorem d_T_needZone_6 : decode b_T_needZone 6 = .ok (.getfield 16, 3) := by decide +kernel
theorem d_T_needZone_9 : decode b_T_needZone 9 = .ok (.getfield 71, 3) := by decide +kernel
theorem d_T_needZone_12 : decode b_T_needZone 12 = .ok (.if_icmp .lt 13, 3) := by decide +kernel
theorem d_T_needZone_15 : decode b_T_needZone 15 = .ok (.new 80, 3) := by decide +kernel
theorem d_T_needZone_18 : decode b_T_needZone 18 = .ok (.dup, 1) := by decide +kernel
theorem d_T_needZone_19 : decode b_T_needZone 19 = .ok (.ldc 206, 2) := by decide +kernel
theorem d_T_needZone_21 : decode b_T_needZone 21 = .ok (.invokespecial 84, 3) := by decide +kernel
theorem d_T_needZone_24 : decode b_T_needZone 24 = .ok (.athrow, 1) := by decide +kernel
theorem d_T_needZone_25 : decode b_T_needZone 25 = .ok (.return_, 1) := by decide +kernel
theorem d_T_needStreet_0 : decode b_T_needStreet 0 = .ok (.iload_n 1, 1) := by decide +kernel
theorem d_T_needStreet_1 : decode b_T_needStreet 1 = .ok (.ifCond .lt 14, 3) := by decide +kernel
theorem d_T_needStreet_4 : decode b_T_needStreet 4 = .ok (.iload_n 1, 1) := by decide +kernel
theorem d_T_needStreet_5 : decode b_T_needStreet 5 = .ok (.aload_n 0, 1) := by decide +kernel
theorem d_T_needStreet_6 : decode b_T_needStreet 6 = .ok (.getfield 37, 3) := by decide +kernel
theorem d_T_needStreet_9 : decode b_T_needStreet 9 = .ok (.getfield 86, 3) := by decide +kernel
theorem d_T_needStreet_12 : decode b_T_needStreet 12 = .ok (.if_icmp .lt 13, 3) := by decide +kernel
theorem d_T_needStreet_15 : decode b_T_needStreet 15 = .ok (.new 80, 3) := by decide +kernel
theorem d_T_needStreet_18 : decode b_T_needStreet 18 = .ok (.dup, 1) := by decide +kernel
theorem d_T_needStreet_19 : decode b_T_needStreet 19 = .ok (.ldc 208, 2) := by decide +kernel
theorem d_T_needStreet_21 : decode b_T_needStreet 21 = .ok (.invokespecial 84, 3) := by decide +kernel
theorem d_T_needStreet_24 : decode b_T_needStreet 24 = .ok (.athrow, 1) := by decide +kernel
theorem d_T_needStreet_25 : decode b_T_needStreet 25 = .ok (.return_, 1) := by decide +kernel
theorem d_T_needWithin_0 : decode b_T_needWithin 0 = .ok (.iload_n 0, 1) := by decide +kernel
theorem d_T_needWithin_1 : decode b_T_needWithin 1 = .ok (.iload_n 1, 1) := by decide +kernel
theorem d_T_needWithin_2 : decode b_T_needWithin 2 = .ok (.if_icmp .lt 8, 3) := by decide +kernel
theorem d_T_needWithin_5 : decode b_T_needWithin 5 = .ok (.iload_n 0, 1) := by decide +kernel
theorem d_T_needWithin_6 : decode b_T_needWithin 6 = .ok (.iload_n 2, 1) := by decide +kernel
theorem d_T_needWithin_7 : decode b_T_needWithin 7 = .ok (.if_icmp .le 13, 3) := by decide +kernel
theorem d_T_needWithin_10 : decode b_T_needWithin 10 = .ok (.new 80, 3) := by decide +kernel
theorem d_T_needWithin_13 : decode b_T_needWithin 13 = .ok (.dup, 1) := by decide +kernel
theorem d_T_needWithin_14 : decode b_T_needWithin 14 = .ok (.ldc 210, 2) := by decide +kernel
theorem d_T_needWithin_16 : decode b_T_needWithin 16 = .ok (.invokespecial 84, 3) := by decide +kernel
theorem d_T_needWithin_19 : decode b_T_needWithin 19 = .ok (.athrow, 1) := by decide +kernel
theorem d_T_needWithin_20 : decode b_T_needWithin 20 = .ok (.return_, 1) := by decide +kernel
theorem d_T_pairOf_0 : decode b_T_pairOf 0 = .ok (.iload_n 0, 1) := by decide +kernel
theorem d_T_pairOf_1 : decode b_T_pairOf 1 = .ok (.bipush 6, 2) := by decide +kernel
theorem d_T_pairOf_3 : decode b_T_pairOf 3 = .ok (.imul, 1) := by decide +kernel
theorem d_T_pairOf_4 : decode b_T_pairOf 4 = .ok (.iload_n 1, 1) := by decide +kernel
theorem d_T_pairOf_5 : decode b_T_pairOf 5 = .ok (.iadd, 1) := by decide +kernel
theorem d_T_pairOf_6 : decode b_T_pairOf 6 = .ok (.ireturn, 1) := by decide +kernel
theorem d_T_assignAll_0 : decode b_T_assignAll 0 = .ok (.aload_n 0, 1) := by decide +kernel
theorem d_T_assignAll_1 : decode b_T_assignAll 1 = .ok (.getfield 51, 3) := by decide +kernel
theorem d_T_assignAll_4 : decode b_T_assignAll 4 = .ok (.iload_n 1, 1) := by decide +kernel
theorem d_T_assignAll_5 : decode b_T_assignAll 5 = .ok (.invokevirtual 212, 3) := by decide +kernel
theorem d_T_assignAll_8 : decode b_T_assignAll 8 = .ok (.aload_n 0, 1) := by decide +kernel
theorem d_T_assignAll_9 : decode b_T_assignAll 9 = .ok (.getfield 37, 3) := by decide +kernel
theorem d_T_assignAll_12 : decode b_T_assignAll 12 = .ok (.getfield 152, 3) := by decide +kernel
theorem d_T_assignAll_15 : decode b_T_assignAll 15 = .ok (.iconst 0, 1) := by decide +kernel
theorem d_T_assignAll_16 : decode b_T_assignAll 16 = .ok (.invokestatic 215, 3) := by decide +kernel
theorem d_T_assignAll_19 : decode b_T_assignAll 19 = .ok (.aload_n 0, 1) := by decide +kernel
theorem d_T_assignAll_20 : decode b_T_assignAll 20 = .ok (.invokevirtual 221, 3) := by decide +kernel
theorem d_T_assignAll_23 : decode b_T_assignAll 23 = .ok (.iconst 0, 1) := by decide +kernel
theorem d_T_assignAll_24 : decode b_T_assignAll 24 = .ok (.istore_n 2, 1) := by decide +kernel
theorem d_T_assignAll_25 : decode b_T_assignAll 25 = .ok (.iload_n 2, 1) := by decide +kernel
theorem d_T_assignAll_26 : decode b_T_assignAll 26 = .ok (.iload_n 1, 1) := by decide +kernel
theorem d_T_assignAll_27 : decode b_T_assignAll 27 = .ok (.if_icmp .ge 14, 3) := by decide +kernel
theorem d_T_assignAll_30 : decode b_T_assignAll 30 = .ok (.aload_n 0, 1) := by decide +kernel
theorem d_T_assignAll_31 : decode b_T_assignAll 31 = .ok (.iload_n 2, 1) := by decide +kernel
theorem d_T_assignAll_32 : decode b_T_assignAll 32 = .ok (.invokevirtual 224, 3) := by decide +kernel
theorem d_T_assignAll_35 : decode b_T_assignAll 35 = .ok (.iinc 2 1, 3) := by decide +kernel
theorem d_T_assignAll_38 : decode b_T_assignAll 38 = .ok (.goto (-13), 3) := by decide +kernel
theorem d_T_assignAll_41 : decode b_T_assignAll 41 = .ok (.return_, 1) := by decide +kernel
theorem d_T_gatherDrivers_0 : decode b_T_gatherDrivers 0 = .ok (.iconst 0, 1) := by decide +kernel
theorem d_T_gatherDrivers_1 : decode b_T_gatherDrivers 1 = .ok (.istore_n 1, 1) := by decide +kernel
theorem d_T_gatherDrivers_2 : decode b_T_gatherDrivers 2 = .ok (.iload_n 1, 1) := by decide +kernel
theorem d_T_gatherDrivers_3 : decode b_T_gatherDrivers 3 = .ok (.aload_n 0, 1) := by decide +kernel
theorem d_T_gatherDrivers_4 : decode b_T_gatherDrivers 4 = .ok (.getfield 16, 3) := by decide +kernel
theorem d_T_gatherDrivers_7 : decode b_T_gatherDrivers 7 = .ok (.getfield 71, 3) := by decide +kernel
theorem d_T_gatherDrivers_10 : decode b_T_gatherDrivers 10 = .ok (.if_icmp .ge 70, 3) := by decide +kernel
theorem d_T_gatherDrivers_13 : decode b_T_gatherDrivers 13 = .ok (.iconst 0, 1) := by decide +kernel
theorem d_T_gatherDrivers_14 : decode b_T_gatherDrivers 14 = .ok (.istore_n 2, 1) := by decide +kernel
theorem d_T_gatherDrivers_15 : decode b_T_gatherDrivers 15 = .ok (.iload_n 2, 1) := by decide +kernel
theorem d_T_gatherDrivers_16 : decode b_T_gatherDrivers 16 = .ok (.aload_n 0, 1) := by decide +kernel
theorem d_T_gatherDrivers_17 : decode b_T_gatherDrivers 17 = .ok (.getfield 16, 3) := by decide +kernel
theorem d_T_gatherDrivers_20 : decode b_T_gatherDrivers 20 = .ok (.getfield 71, 3) := by decide +kernel
theorem d_T_gatherDrivers_23 : decode b_T_gatherDrivers 23 = .ok (.if_icmp .ge 51, 3) := by decide +kernel
theorem d_T_gatherDrivers_26 : decode b_T_gatherDrivers 26 = .ok (.iload_n 1, 1) := by decide +kernel
theorem d_T_gatherDrivers_27 : decode b_T_gatherDrivers 27 = .ok (.iload_n 2, 1) := by decide +kernel
theorem d_T_gatherDrivers_28 : decode b_T_gatherDrivers 28 = .ok (.invokestatic 107, 3) := by decide +kernel
theorem d_T_gatherDrivers_31 : decode b_T_gatherDrivers 31 = .ok (.istore_n 3, 1) := by decide +kernel
theorem d_T_gatherDrivers_32 : decode b_T_gatherDrivers 32 = .ok (.aload_n 0, 1) := by decide +kernel
theorem d_T_gatherDrivers_33 : decode b_T_gatherDrivers 33 = .ok (.getfield 51, 3) := by decide +kernel
theorem d_T_gatherDrivers_36 : decode b_T_gatherDrivers 36 = .ok (.getfield 227, 3) := by decide +kernel
theorem d_T_gatherDrivers_39 : decode b_T_gatherDrivers 39 = .ok (.iload_n 3, 1) := by decide +kernel
theorem d_T_gatherDrivers_40 : decode b_T_gatherDrivers 40 = .ok (.iload_n 1, 1) := by decide +kernel
theorem d_T_gatherDrivers_41 : decode b_T_gatherDrivers 41 = .ok (.iload_n 2, 1) := by decide +kernel
theorem d_T_gatherDrivers_42 : decode b_T_gatherDrivers 42 = .ok (.if_icmp .ne 7, 3) := by decide +kernel
theorem d_T_gatherDrivers_45 : decode b_T_gatherDrivers 45 = .ok (.iconst 0, 1) := by decide +kernel
theorem d_T_gatherDrivers_46 : decode b_T_gatherDrivers 46 = .ok (.goto 21, 3) := by decide +kernel
theorem d_T_gatherDrivers_49 : decode b_T_gatherDrivers 49 = .ok (.aload_n 0, 1) := by decide +kernel
theorem d_T_gatherDrivers_50 : decode b_T_gatherDrivers 50 = .ok (.getfield 30, 3) := by decide +kernel
theorem d_T_gatherDrivers_53 : decode b_T_gatherDrivers 53 = .ok (.iconst 0, 1) := by decide +kernel
theorem d_T_gatherDrivers_54 : decode b_T_gatherDrivers 54 = .ok (.iload_n 3, 1) := by decide +kernel
theorem d_T_gatherDrivers_55 : decode b_T_gatherDrivers 55 = .ok (.aload_n 0, 1) := by decide +kernel
theorem d_T_gatherDrivers_56 : decode b_T_gatherDrivers 56 = .ok (.getfield 23, 3) := by decide +kernel
theorem d_T_gatherDrivers_59 : decode b_T_gatherDrivers 59 = .ok (.getfield 124, 3) := by decide +kernel
theorem d_T_gatherDrivers_62 : decode b_T_gatherDrivers 62 = .ok (.iload_n 3, 1) := by decide +kernel
theorem d_T_gatherDrivers_63 : decode b_T_gatherDrivers 63 = .ok (.iaload, 1) := by decide +kernel
theorem d_T_gatherDrivers_64 : decode b_T_gatherDrivers 64 = .ok (.invokevirtual 143, 3) := by decide +kernel
theorem d_T_gatherDrivers_67 : decode b_T_gatherDrivers 67 = .ok (.iastore, 1) := by decide +kernel
theorem d_T_gatherDrivers_68 : decode b_T_gatherDrivers 68 = .ok (.iinc 2 1, 3) := by decide +kernel
theorem d_T_gatherDrivers_71 : decode b_T_gatherDrivers 71 = .ok (.goto (-56), 3) := by decide +kernel
theorem d_T_gatherDrivers_74 : decode b_T_gatherDrivers 74 = .ok (.iinc 1 1, 3) := by decide +kernel
theorem d_T_gatherDrivers_77 : decode b_T_gatherDrivers 77 = .ok (.goto (-75), 3) := by decide +kernel
theorem d_T_gatherDrivers_80 : decode b_T_gatherDrivers 80 = .ok (.return_, 1) := by decide +kernel
theorem d_T_assignPart_0 : decode b_T_assignPart 0 = .ok (.aload_n 0, 1) := by decide +kernel
theorem d_T_assignPart_1 : decode b_T_assignPart 1 = .ok (.getfield 44, 3) := by decide +kernel
theorem d_T_assignPart_4 : decode b_T_assignPart 4 = .ok (.aload_n 0, 1) := by decide +kernel
theorem d_T_assignPart_5 : decode b_T_assignPart 5 = .ok (.getfield 37, 3) := by decide +kernel
theorem d_T_assignPart_8 : decode b_T_assignPart 8 = .ok (.invokevirtual 160, 3) := by decide +kernel
theorem d_T_assignPart_11 : decode b_T_assignPart 11 = .ok (.iconst 0, 1) := by decide +kernel
theorem d_T_assignPart_12 : decode b_T_assignPart 12 = .ok (.istore_n 2, 1) := by decide +kernel
theorem d_T_assignPart_13 : decode b_T_assignPart 13 = .ok (.iload_n 2, 1) := by decide +kernel
theorem d_T_assignPart_14 : decode b_T_assignPart 14 = .ok (.aload_n 0, 1) := by decide +kernel
theorem d_T_assignPart_15 : decode b_T_assignPart 15 = .ok (.getfield 16, 3) := by decide +kernel
theorem d_T_assignPart_18 : decode b_T_assignPart 18 = .ok (.getfield 71, 3) := by decide +kernel
theorem d_T_assignPart_21 : decode b_T_assignPart 21 = .ok (.if_icmp .ge 91, 3) := by decide +kernel
theorem d_T_assignPart_24 : decode b_T_assignPart 24 = .ok (.aload_n 0, 1) := by decide +kernel
theorem d_T_assignPart_25 : decode b_T_assignPart 25 = .ok (.getfield 44, 3) := by decide +kernel
theorem d_T_assignPart_28 : decode b_T_assignPart 28 = .ok (.aload_n 0, 1) := by decide +kernel
theorem d_T_assignPart_29 : decode b_T_assignPart 29 = .ok (.getfield 16, 3) := by decide +kernel
theorem d_T_assignPart_32 : decode b_T_assignPart 32 = .ok (.getfield 182, 3) := by decide +kernel
theorem d_T_assignPart_35 : decode b_T_assignPart 35 = .ok (.iload_n 2, 1) := by decide +kernel
theorem d_T_assignPart_36 : decode b_T_assignPart 36 = .ok (.iaload, 1) := by decide +kernel
theorem d_T_assignPart_37 : decode b_T_assignPart 37 = .ok (.aload_n 0, 1) := by decide +kernel
theorem d_T_assignPart_38 : decode b_T_assignPart 38 = .ok (.getfield 37, 3) := by decide +kernel
theorem d_T_assignPart_41 : decode b_T_assignPart 41 = .ok (.invokevirtual 164, 3) := by decide +kernel
theorem d_T_assignPart_44 : decode b_T_assignPart 44 = .ok (.iconst 0, 1) := by decide +kernel
theorem d_T_assignPart_45 : decode b_T_assignPart 45 = .ok (.istore_n 3, 1) := by decide +kernel
theorem d_T_assignPart_46 : decode b_T_assignPart 46 = .ok (.iload_n 3, 1) := by decide +kernel
theorem d_T_assignPart_47 : decode b_T_assignPart 47 = .ok (.aload_n 0, 1) := by decide +kernel
theorem d_T_assignPart_48 : decode b_T_assignPart 48 = .ok (.getfield 16, 3) := by decide +kernel
theorem d_T_assignPart_51 : decode b_T_assignPart 51 = .ok (.getfield 71, 3) := by decide +kernel
theorem d_T_assignPart_54 : decode b_T_assignPart 54 = .ok (.if_icmp .ge 52, 3) := by decide +kernel
theorem d_T_assignPart_57 : decode b_T_assignPart 57 = .ok (.iload_n 3, 1) := by decide +kernel
theorem d_T_assignPart_58 : decode b_T_assignPart 58 = .ok (.iload_n 2, 1) := by decide +kernel
theorem d_T_assignPart_59 : decode b_T_assignPart 59 = .ok (.invokestatic 107, 3) := by decide +kernel
theorem d_T_assignPart_62 : decode b_T_assignPart 62 = .ok (.istore 4, 2) := by decide +kernel
theorem d_T_assignPart_64 : decode b_T_assignPart 64 = .ok (.aload_n 0, 1) := by decide +kernel
theorem d_T_assignPart_65 : decode b_T_assignPart 65 = .ok (.getfield 51, 3) := by decide +kernel
theorem d_T_assignPart_68 : decode b_T_assignPart 68 = .ok (.iload 4, 2) := by decide +kernel
theorem d_T_assignPart_70 : decode b_T_assignPart 70 = .ok (.aload_n 0, 1) := by decide +kernel
theorem d_T_assignPart_71 : decode b_T_assignPart 71 = .ok (.getfield 51, 3) := by decide +kernel
theorem d_T_assignPart_74 : decode b_T_assignPart 74 = .ok (.iload 4, 2) := by decide +kernel
theorem d_T_assignPart_76 : decode b_T_assignPart 76 = .ok (.iload_n 1, 1) := by decide +kernel
theorem d_T_assignPart_77 : decode b_T_assignPart 77 = .ok (.invokevirtual 230, 3) := by decide +kernel
theorem d_T_assignPart_80 : decode b_T_assignPart 80 = .ok (.aload_n 0, 1) := by decide +kernel
theorem d_T_assignPart_81 : decode b_T_assignPart 81 = .ok (.getfield 16, 3) := by decide +kernel
theorem d_T_assignPart_84 : decode b_T_assignPart 84 = .ok (.getfield 182, 3) := by decide +kernel
theorem d_T_assignPart_87 : decode b_T_assignPart 87 = .ok (.iload_n 3, 1) := by decide +kernel
theorem d_T_assignPart_88 : decode b_T_assignPart 88 = .ok (.iaload, 1) := by decide +kernel
theorem d_T_assignPart_89 : decode b_T_assignPart 89 = .ok (.aload_n 0, 1) := by decide +kernel
theorem d_T_assignPart_90 : decode b_T_assignPart 90 = .ok (.getfield 44, 3) := by decide +kernel
theorem d_T_assignPart_93 : decode b_T_assignPart 93 = .ok (.aload_n 0, 1) := by decide +kernel
theorem d_T_assignPart_94 : decode b_T_assignPart 94 = .ok (.getfield 37, 3) := by decide +kernel
theorem d_T_assignPart_97 : decode b_T_assignPart 97 = .ok (.invokevirtual 233, 3) := by decide +kernel
theorem d_T_assignPart_100 : decode b_T_assignPart 100 = .ok (.iinc 3 1, 3) := by decide +kernel
theorem d_T_assignPart_103 : decode b_T_assignPart 103 = .ok (.goto (-57), 3) := by decide +kernel
theorem d_T_assignPart_106 : decode b_T_assignPart 106 = .ok (.iinc 2 1, 3) := by decide +kernel
theorem d_T_assignPart_109 : decode b_T_assignPart 109 = .ok (.goto (-96), 3) := by decide +kernel
theorem d_T_assignPart_112 : decode b_T_assignPart 112 = .ok (.return_, 1) := by decide +kernel
theorem d_T_leastTimeTo_0 : decode b_T_leastTimeTo 0 = .ok (.lconst 0, 1) := by decide +kernel
theorem d_T_leastTimeTo_1 : decode b_T_leastTimeTo 1 = .ok (.lstore_n 2, 1) := by decide +kernel
theorem d_T_leastTimeTo_2 : decode b_T_leastTimeTo 2 = .ok (.iconst 0, 1) := by decide +kernel
theorem d_T_leastTimeTo_3 : decode b_T_leastTimeTo 3 = .ok (.istore 4, 2) := by decide +kernel
theorem d_T_leastTimeTo_5 : decode b_T_leastTimeTo 5 = .ok (.iload 4, 2) := by decide +kernel
theorem d_T_leastTimeTo_7 : decode b_T_leastTimeTo 7 = .ok (.aload_n 0, 1) := by decide +kernel
theorem d_T_leastTimeTo_8 : decode b_T_leastTimeTo 8 = .ok (.getfield 16, 3) := by decide +kernel
theorem d_T_leastTimeTo_11 : decode b_T_leastTimeTo 11 = .ok (.getfield 71, 3) := by decide +kernel
theorem d_T_leastTimeTo_14 : decode b_T_leastTimeTo 14 = .ok (.if_icmp .ge 56, 3) := by decide +kernel
theorem d_T_leastTimeTo_17 : decode b_T_leastTimeTo 17 = .ok (.aload_n 0, 1) := by decide +kernel
theorem d_T_leastTimeTo_18 : decode b_T_leastTimeTo 18 = .ok (.getfield 44, 3) := by decide +kernel
theorem d_T_leastTimeTo_21 : decode b_T_leastTimeTo 21 = .ok (.aload_n 0, 1) := by decide +kernel
theorem d_T_leastTimeTo_22 : decode b_T_leastTimeTo 22 = .ok (.getfield 16, 3) := by decide +kernel
theorem d_T_leastTimeTo_25 : decode b_T_leastTimeTo 25 = .ok (.getfield 182, 3) := by decide +kernel
theorem d_T_leastTimeTo_28 : decode b_T_leastTimeTo 28 = .ok (.iload 4, 2) := by decide +kernel
theorem d_T_leastTimeTo_30 : decode b_T_leastTimeTo 30 = .ok (.iaload, 1) := by decide +kernel
theorem d_T_leastTimeTo_31 : decode b_T_leastTimeTo 31 = .ok (.invokevirtual 172, 3) := by decide +kernel
theorem d_T_leastTimeTo_34 : decode b_T_leastTimeTo 34 = .ok (.istore 5, 2) := by decide +kernel
theorem d_T_leastTimeTo_36 : decode b_T_leastTimeTo 36 = .ok (.iload 5, 2) := by decide +kernel
theorem d_T_leastTimeTo_38 : decode b_T_leastTimeTo 38 = .ok (.iconst (-1), 1) := by decide +kernel
theorem d_T_leastTimeTo_39 : decode b_T_leastTimeTo 39 = .ok (.if_icmp .eq 25, 3) := by decide +kernel
theorem d_T_leastTimeTo_42 : decode b_T_leastTimeTo 42 = .ok (.lload_n 2, 1) := by decide +kernel
theorem d_T_leastTimeTo_43 : decode b_T_leastTimeTo 43 = .ok (.aload_n 0, 1) := by decide +kernel
theorem d_T_leastTimeTo_44 : decode b_T_leastTimeTo 44 = .ok (.getfield 51, 3) := by decide +kernel
theorem d_T_leastTimeTo_47 : decode b_T_leastTimeTo 47 = .ok (.getfield 237, 3) := by decide +kernel
theorem d_T_leastTimeTo_50 : decode b_T_leastTimeTo 50 = .ok (.iload 4, 2) := by decide +kernel
theorem d_T_leastTimeTo_52 : decode b_T_leastTimeTo 52 = .ok (.iload_n 1, 1) := by decide +kernel
theorem d_T_leastTimeTo_53 : decode b_T_leastTimeTo 53 = .ok (.invokestatic 107, 3) := by decide +kernel
theorem d_T_leastTimeTo_56 : decode b_T_leastTimeTo 56 = .ok (.iaload, 1) := by decide +kernel
theorem d_T_leastTimeTo_57 : decode b_T_leastTimeTo 57 = .ok (.i2l, 1) := by decide +kernel
theorem d_T_leastTimeTo_58 : decode b_T_leastTimeTo 58 = .ok (.iload 5, 2) := by decide +kernel
theorem d_T_leastTimeTo_60 : decode b_T_leastTimeTo 60 = .ok (.i2l, 1) := by decide +kernel
theorem d_T_leastTimeTo_61 : decode b_T_leastTimeTo 61 = .ok (.lmul, 1) := by decide +kernel
theorem d_T_leastTimeTo_62 : decode b_T_leastTimeTo 62 = .ok (.ladd, 1) := by decide +kernel
theorem d_T_leastTimeTo_63 : decode b_T_leastTimeTo 63 = .ok (.lstore_n 2, 1) := by decide +kernel
theorem d_T_leastTimeTo_64 : decode b_T_leastTimeTo 64 = .ok (.iinc 4 1, 3) := by decide +kernel
theorem d_T_leastTimeTo_67 : decode b_T_leastTimeTo 67 = .ok (.goto (-62), 3) := by decide +kernel
theorem d_T_leastTimeTo_70 : decode b_T_leastTimeTo 70 = .ok (.lload_n 2, 1) := by decide +kernel
theorem d_T_leastTimeTo_71 : decode b_T_leastTimeTo 71 = .ok (.lreturn, 1) := by decide +kernel
theorem d_T_scaleUsersOf_0 : decode b_T_scaleUsersOf 0 = .ok (.aload_n 0, 1) := by decide +kernel
theorem d_T_scaleUsersOf_1 : decode b_T_scaleUsersOf 1 = .ok (.getfield 37, 3) := by decide +kernel
theorem d_T_scaleUsersOf_4 : decode b_T_scaleUsersOf 4 = .ok (.getfield 152, 3) := by decide +kernel
theorem d_T_scaleUsersOf_7 : decode b_T_scaleUsersOf 7 = .ok (.iload_n 1, 1) := by decide +kernel
theorem d_T_scaleUsersOf_8 : decode b_T_scaleUsersOf 8 = .ok (.iaload, 1) := by decide +kernel
theorem d_T_scaleUsersOf_9 : decode b_T_scaleUsersOf 9 = .ok (.i2l, 1) := by decide +kernel
theorem d_T_scaleUsersOf_10 : decode b_T_scaleUsersOf 10 = .ok (.lstore_n 2, 1) := by decide +kernel
theorem d_T_scaleUsersOf_11 : decode b_T_scaleUsersOf 11 = .ok (.lload_n 2, 1) := by decide +kernel
theorem d_T_scaleUsersOf_12 : decode b_T_scaleUsersOf 12 = .ok (.lconst 0, 1) := by decide +kernel
theorem d_T_scaleUsersOf_13 : decode b_T_scaleUsersOf 13 = .ok (.lcmp, 1) := by decide +kernel
theorem d_T_scaleUsersOf_14 : decode b_T_scaleUsersOf 14 = .ok (.ifCond .ne 4, 3) := by decide +kernel
theorem d_T_scaleUsersOf_17 : decode b_T_scaleUsersOf 17 = .ok (.return_, 1) := by decide +kernel
theorem d_T_scaleUsersOf_18 : decode b_T_scaleUsersOf 18 = .ok (.iconst 0, 1) := by decide +kernel
theorem d_T_scaleUsersOf_19 : decode b_T_scaleUsersOf 19 = .ok (.istore 4, 2) := by decide +kernel
theorem d_T_scaleUsersOf_21 : decode b_T_scaleUsersOf 21 = .ok (.iload 4, 2) := by decide +kernel
theorem d_T_scaleUsersOf_23 : decode b_T_scaleUsersOf 23 = .ok (.bipush 36, 2) := by decide +kernel
theorem d_T_scaleUsersOf_25 : decode b_T_scaleUsersOf 25 = .ok (.if_icmp .ge 71, 3) := by decide +kernel
theorem d_T_scaleUsersOf_28 : decode b_T_scaleUsersOf 28 = .ok (.aload_n 0, 1) := by decide +kernel
theorem d_T_scaleUsersOf_29 : decode b_T_scaleUsersOf 29 = .ok (.getfield 51, 3) := by decide +kernel
theorem d_T_scaleUsersOf_32 : decode b_T_scaleUsersOf 32 = .ok (.getfield 175, 3) := by decide +kernel
theorem d_T_scaleUsersOf_35 : decode b_T_scaleUsersOf 35 = .ok (.iload_n 1, 1) := by decide +kernel
theorem d_T_scaleUsersOf_36 : decode b_T_scaleUsersOf 36 = .ok (.iload 4, 2) := by decide +kernel
theorem d_T_scaleUsersOf_38 : decode b_T_scaleUsersOf 38 = .ok (.invokestatic 178, 3) := by decide +kernel
theorem d_T_scaleUsersOf_41 : decode b_T_scaleUsersOf 41 = .ok (.iaload, 1) := by decide +kernel
theorem d_T_scaleUsersOf_42 : decode b_T_scaleUsersOf 42 = .ok (.ifCond .le 48, 3) := by decide +kernel
theorem d_T_scaleUsersOf_45 : decode b_T_scaleUsersOf 45 = .ok (.aload_n 0, 1) := by decide +kernel
theorem d_T_scaleUsersOf_46 : decode b_T_scaleUsersOf 46 = .ok (.getfield 23, 3) := by decide +kernel
theorem d_T_scaleUsersOf_49 : decode b_T_scaleUsersOf 49 = .ok (.getfield 124, 3) := by decide +kernel
theorem d_T_scaleUsersOf_52 : decode b_T_scaleUsersOf 52 = .ok (.iload 4, 2) := by decide +kernel
theorem d_T_scaleUsersOf_54 : decode b_T_scaleUsersOf 54 = .ok (.iaload, 1) := by decide +kernel
theorem d_T_scaleUsersOf_55 : decode b_T_scaleUsersOf 55 = .ok (.i2l, 1) := by decide +kernel
theorem d_T_scaleUsersOf_56 : decode b_T_scaleUsersOf 56 = .ok (.aload_n 0, 1) := by decide +kernel
theorem d_T_scaleUsersOf_57 : decode b_T_scaleUsersOf 57 = .ok (.getfield 37, 3) := by decide +kernel
theorem d_T_scaleUsersOf_60 : decode b_T_scaleUsersOf 60 = .ok (.getfield 189, 3) := by decide +kernel
theorem d_T_scaleUsersOf_63 : decode b_T_scaleUsersOf 63 = .ok (.iload_n 1, 1) := by decide +kernel
theorem d_T_scaleUsersOf_64 : decode b_T_scaleUsersOf 64 = .ok (.iaload, 1) := by decide +kernel
theorem d_T_scaleUsersOf_65 : decode b_T_scaleUsersOf 65 = .ok (.i2l, 1) := by decide +kernel
theorem d_T_scaleUsersOf_66 : decode b_T_scaleUsersOf 66 = .ok (.lmul, 1) := by decide +kernel
theorem d_T_scaleUsersOf_67 : decode b_T_scaleUsersOf 67 = .ok (.lload_n 2, 1) := by decide +kernel
theorem d_T_scaleUsersOf_68 : decode b_T_scaleUsersOf 68 = .ok (.ldiv, 1) := by decide +kernel
theorem d_T_scaleUsersOf_69 : decode b_T_scaleUsersOf 69 = .ok (.lstore 5, 2) := by decide +kernel
theorem d_T_scaleUsersOf_71 : decode b_T_scaleUsersOf 71 = .ok (.aload_n 0, 1) := by decide +kernel
theorem d_T_scaleUsersOf_72 : decode b_T_scaleUsersOf 72 = .ok (.getfield 23, 3) := by decide +kernel
theorem d_T_scaleUsersOf_75 : decode b_T_scaleUsersOf 75 = .ok (.getfield 124, 3) := by decide +kernel
theorem d_T_scaleUsersOf_78 : decode b_T_scaleUsersOf 78 = .ok (.iload 4, 2) := by decide +kernel
theorem d_T_scaleUsersOf_80 : decode b_T_scaleUsersOf 80 = .ok (.lload 5, 2) := by decide +kernel
theorem d_T_scaleUsersOf_82 : decode b_T_scaleUsersOf 82 = .ok (.ldc2_w 240, 3) := by decide +kernel
theorem d_T_scaleUsersOf_85 : decode b_T_scaleUsersOf 85 = .ok (.invokestatic 242, 3) := by decide +kernel
theorem d_T_scaleUsersOf_88 : decode b_T_scaleUsersOf 88 = .ok (.l2i, 1) := by decide +kernel
theorem d_T_scaleUsersOf_89 : decode b_T_scaleUsersOf 89 = .ok (.iastore, 1) := by decide +kernel
theorem d_T_scaleUsersOf_90 : decode b_T_scaleUsersOf 90 = .ok (.iinc 4 1, 3) := by decide +kernel
theorem d_T_scaleUsersOf_93 : decode b_T_scaleUsersOf 93 = .ok (.goto (-72), 3) := by decide +kernel
theorem d_T_scaleUsersOf_96 : decode b_T_scaleUsersOf 96 = .ok (.return_, 1) := by decide +kernel
theorem d_Z_init_0 : decode b_Z_init 0 = .ok (.aload_n 0, 1) := by decide +kernel
theorem d_Z_init_1 : decode b_Z_init 1 = .ok (.invokespecial 3, 3) := by decide +kernel
theorem d_Z_init_4 : decode b_Z_init 4 = .ok (.aload_n 0, 1) := by decide +kernel
theorem d_Z_init_5 : decode b_Z_init 5 = .ok (.iconst 0, 1) := by decide +kernel
theorem d_Z_init_6 : decode b_Z_init 6 = .ok (.putfield 9, 3) := by decide +kernel
theorem d_Z_init_9 : decode b_Z_init 9 = .ok (.aload_n 0, 1) := by decide +kernel
theorem d_Z_init_10 : decode b_Z_init 10 = .ok (.bipush 6, 2) := by decide +kernel
theorem d_Z_init_12 : decode b_Z_init 12 = .ok (.newarray .int, 2) := by decide +kernel
theorem d_Z_init_14 : decode b_Z_init 14 = .ok (.putfield 15, 3) := by decide +kernel
theorem d_Z_init_17 : decode b_Z_init 17 = .ok (.aload_n 0, 1) := by decide +kernel
theorem d_Z_init_18 : decode b_Z_init 18 = .ok (.bipush 6, 2) := by decide +kernel
theorem d_Z_init_20 : decode b_Z_init 20 = .ok (.newarray .int, 2) := by decide +kernel
theorem d_Z_init_22 : decode b_Z_init 22 = .ok (.putfield 19, 3) := by decide +kernel
theorem d_Z_init_25 : decode b_Z_init 25 = .ok (.aload_n 0, 1) := by decide +kernel
theorem d_Z_init_26 : decode b_Z_init 26 = .ok (.bipush 6, 2) := by decide +kernel
theorem d_Z_init_28 : decode b_Z_init 28 = .ok (.newarray .int, 2) := by decide +kernel
theorem d_Z_init_30 : decode b_Z_init 30 = .ok (.putfield 22, 3) := by decide +kernel
theorem d_Z_init_33 : decode b_Z_init 33 = .ok (.return_, 1) := by decide +kernel
theorem d_Z_addZone_0 : decode b_Z_addZone 0 = .ok (.aload_n 0, 1) := by decide +kernel
theorem d_Z_addZone_1 : decode b_Z_addZone 1 = .ok (.getfield 15, 3) := by decide +kernel
theorem d_Z_addZone_4 : decode b_Z_addZone 4 = .ok (.aload_n 0, 1) := by decide +kernel
theorem d_Z_addZone_5 : decode b_Z_addZone 5 = .ok (.getfield 9, 3) := by decide +kernel
theorem d_Z_addZone_8 : decode b_Z_addZone 8 = .ok (.iload_n 1, 1) := by decide +kernel
theorem d_Z_addZone_9 : decode b_Z_addZone 9 = .ok (.iastore, 1) := by decide +kernel
theorem d_Z_addZone_10 : decode b_Z_addZone 10 = .ok (.aload_n 0, 1) := by decide +kernel
theorem d_Z_addZone_11 : decode b_Z_addZone 11 = .ok (.getfield 19, 3) := by decide +kernel
theorem d_Z_addZone_14 : decode b_Z_addZone 14 = .ok (.aload_n 0, 1) := by decide +kernel
theorem d_Z_addZone_15 : decode b_Z_addZone 15 = .ok (.getfield 9, 3) := by decide +kernel
theorem d_Z_addZone_18 : decode b_Z_addZone 18 = .ok (.iload_n 2, 1) := by decide +kernel
theorem d_Z_addZone_19 : decode b_Z_addZone 19 = .ok (.iastore, 1) := by decide +kernel
theorem d_Z_addZone_20 : decode b_Z_addZone 20 = .ok (.aload_n 0, 1) := by decide +kernel
theorem d_Z_addZone_21 : decode b_Z_addZone 21 = .ok (.getfield 22, 3) := by decide +kernel
theorem d_Z_addZone_24 : decode b_Z_addZone 24 = .ok (.aload_n 0, 1) := by decide +kernel
theorem d_Z_addZone_25 : decode b_Z_addZone 25 = .ok (.getfield 9, 3) := by decide +kernel
theorem d_Z_addZone_28 : decode b_Z_addZone 28 = .ok (.iload_n 3, 1) := by decide +kernel
theorem d_Z_addZone_29 : decode b_Z_addZone 29 = .ok (.iastore, 1) := by decide +kernel
theorem d_Z_addZone_30 : decode b_Z_addZone 30 = .ok (.aload_n 0, 1) := by decide +kernel
theorem d_Z_addZone_31 : decode b_Z_addZone 31 = .ok (.dup, 1) := by decide +kernel
theorem d_Z_addZone_32 : decode b_Z_addZone 32 = .ok (.getfield 9, 3) := by decide +kernel
theorem d_Z_addZone_35 : decode b_Z_addZone 35 = .ok (.dup_x1, 1) := by decide +kernel
theorem d_Z_addZone_36 : decode b_Z_addZone 36 = .ok (.iconst 1, 1) := by decide +kernel
theorem d_Z_addZone_37 : decode b_Z_addZone 37 = .ok (.iadd, 1) := by decide +kernel
theorem d_Z_addZone_38 : decode b_Z_addZone 38 = .ok (.putfield 9, 3) := by decide +kernel
theorem d_Z_addZone_41 : decode b_Z_addZone 41 = .ok (.ireturn, 1) := by decide +kernel
theorem d_B_init_0 : decode b_B_init 0 = .ok (.aload_n 0, 1) := by decide +kernel
theorem d_B_init_1 : decode b_B_init 1 = .ok (.invokespecial 3, 3) := by decide +kernel
theorem d_B_init_4 : decode b_B_init 4 = .ok (.aload_n 0, 1) := by decide +kernel
theorem d_B_init_5 : decode b_B_init 5 = .ok (.bipush 36, 2) := by decide +kernel
theorem d_B_init_7 : decode b_B_init 7 = .ok (.newarray .int, 2) := by decide +kernel
theorem d_B_init_9 : decode b_B_init 9 = .ok (.putfield 9, 3) := by decide +kernel
theorem d_B_init_12 : decode b_B_init 12 = .ok (.aload_n 0, 1) := by decide +kernel
theorem d_B_init_13 : decode b_B_init 13 = .ok (.bipush 36, 2) := by decide +kernel
theorem d_B_init_15 : decode b_B_init 15 = .ok (.newarray .int, 2) := by decide +kernel
theorem d_B_init_17 : decode b_B_init 17 = .ok (.putfield 15, 3) := by decide +kernel
theorem d_B_init_20 : decode b_B_init 20 = .ok (.aload_n 0, 1) := by decide +kernel
theorem d_B_init_21 : decode b_B_init 21 = .ok (.bipush 6, 2) := by decide +kernel
theorem d_B_init_23 : decode b_B_init 23 = .ok (.newarray .int, 2) := by decide +kernel
theorem d_B_init_25 : decode b_B_init 25 = .ok (.putfield 18, 3) := by decide +kernel
theorem d_B_init_28 : decode b_B_init 28 = .ok (.aload_n 0, 1) := by decide +kernel
theorem d_B_init_29 : decode b_B_init 29 = .ok (.new 21, 3) := by decide +kernel
theorem d_B_init_32 : decode b_B_init 32 = .ok (.dup, 1) := by decide +kernel
theorem d_B_init_33 : decode b_B_init 33 = .ok (.bipush 6, 2) := by decide +kernel
theorem d_B_init_35 : decode b_B_init 35 = .ok (.invokespecial 23, 3) := by decide +kernel
theorem d_B_init_38 : decode b_B_init 38 = .ok (.putfield 26, 3) := by decide +kernel
theorem d_B_init_41 : decode b_B_init 41 = .ok (.aload_n 0, 1) := by decide +kernel
theorem d_B_init_42 : decode b_B_init 42 = .ok (.getfield 9, 3) := by decide +kernel
theorem d_B_init_45 : decode b_B_init 45 = .ok (.iconst 1, 1) := by decide +kernel
theorem d_B_init_46 : decode b_B_init 46 = .ok (.invokestatic 30, 3) := by decide +kernel
theorem d_B_init_49 : decode b_B_init 49 = .ok (.aload_n 0, 1) := by decide +kernel
theorem d_B_init_50 : decode b_B_init 50 = .ok (.getfield 18, 3) := by decide +kernel
theorem d_B_init_53 : decode b_B_init 53 = .ok (.iconst (-1), 1) := by decide +kernel
theorem d_B_init_54 : decode b_B_init 54 = .ok (.invokestatic 30, 3) := by decide +kernel
theorem d_B_init_57 : decode b_B_init 57 = .ok (.return_, 1) := by decide +kernel
theorem d_B_goRounds_0 : decode b_B_goRounds 0 = .ok (.iconst 0, 1) := by decide +kernel
theorem d_B_goRounds_1 : decode b_B_goRounds 1 = .ok (.istore 4, 2) := by decide +kernel
theorem d_B_goRounds_3 : decode b_B_goRounds 3 = .ok (.iload 4, 2) := by decide +kernel
theorem d_B_goRounds_5 : decode b_B_goRounds 5 = .ok (.aload_n 1, 1) := by decide +kernel
theorem d_B_goRounds_6 : decode b_B_goRounds 6 = .ok (.getfield 36, 3) := by decide +kernel
theorem d_B_goRounds_9 : decode b_B_goRounds 9 = .ok (.if_icmp .ge 19, 3) := by decide +kernel
theorem d_B_goRounds_12 : decode b_B_goRounds 12 = .ok (.aload_n 0, 1) := by decide +kernel
theorem d_B_goRounds_13 : decode b_B_goRounds 13 = .ok (.getfield 18, 3) := by decide +kernel
theorem d_B_goRounds_16 : decode b_B_goRounds 16 = .ok (.iload 4, 2) := by decide +kernel
theorem d_B_goRounds_18 : decode b_B_goRounds 18 = .ok (.sipush 1000, 3) := by decide +kernel
theorem d_B_goRounds_21 : decode b_B_goRounds 21 = .ok (.iastore, 1) := by decide +kernel
theorem d_B_goRounds_22 : decode b_B_goRounds 22 = .ok (.iinc 4 1, 3) := by decide +kernel
theorem d_B_goRounds_25 : decode b_B_goRounds 25 = .ok (.goto (-22), 3) := by decide +kernel
theorem d_B_goRounds_28 : decode b_B_goRounds 28 = .ok (.iconst 1, 1) := by decide +kernel
theorem d_B_goRounds_29 : decode b_B_goRounds 29 = .ok (.istore 4, 2) := by decide +kernel
theorem d_B_goRounds_31 : decode b_B_goRounds 31 = .ok (.iload 4, 2) := by decide +kernel
theorem d_B_goRounds_33 : decode b_B_goRounds 33 = .ok (.iload_n 2, 1) := by decide +kernel
theorem d_B_goRounds_34 : decode b_B_goRounds 34 = .ok (.if_icmp .gt 37, 3) := by decide +kernel
theorem d_B_goRounds_37 : decode b_B_goRounds 37 = .ok (.aload_n 0, 1) := by decide +kernel
theorem d_B_goRounds_38 : decode b_B_goRounds 38 = .ok (.aload_n 1, 1) := by decide +kernel
theorem d_B_goRounds_39 : decode b_B_goRounds 39 = .ok (.invokevirtual 42, 3) := by decide +kernel
theorem d_B_goRounds_42 : decode b_B_goRounds 42 = .ok (.aload_n 0, 1) := by decide +kernel
theorem d_B_goRounds_43 : decode b_B_goRounds 43 = .ok (.aload_n 1, 1) := by decide +kernel
theorem d_B_goRounds_44 : decode b_B_goRounds 44 = .ok (.iload_n 3, 1) := by decide +kernel
theorem d_B_goRounds_45 : decode b_B_goRounds 45 = .ok (.invokevirtual 46, 3) := by decide +kernel
theorem d_B_goRounds_48 : decode b_B_goRounds 48 = .ok (.ifCond .eq 6, 3) := by decide +kernel
theorem d_B_goRounds_51 : decode b_B_goRounds 51 = .ok (.iload 4, 2) := by decide +kernel
theorem d_B_goRounds_53 : decode b_B_goRounds 53 = .ok (.ireturn, 1) := by decide +kernel
theorem d_B_goRounds_54 : decode b_B_goRounds 54 = .ok (.iload 4, 2) := by decide +kernel
theorem d_B_goRounds_56 : decode b_B_goRounds 56 = .ok (.iload_n 2, 1) := by decide +kernel
theorem d_B_goRounds_57 : decode b_B_goRounds 57 = .ok (.if_icmp .ge 8, 3) := by decide +kernel
theorem d_B_goRounds_60 : decode b_B_goRounds 60 = .ok (.aload_n 0, 1) := by decide +kernel
theorem d_B_goRounds_61 : decode b_B_goRounds 61 = .ok (.aload_n 1, 1) := by decide +kernel
theorem d_B_goRounds_62 : decode b_B_goRounds 62 = .ok (.invokevirtual 50, 3) := by decide +kernel
theorem d_B_goRounds_65 : decode b_B_goRounds 65 = .ok (.iinc 4 1, 3) := by decide +kernel
theorem d_B_goRounds_68 : decode b_B_goRounds 68 = .ok (.goto (-37), 3) := by decide +kernel
theorem d_B_goRounds_71 : decode b_B_goRounds 71 = .ok (.iload_n 2, 1) := by decide +kernel
theorem d_B_goRounds_72 : decode b_B_goRounds 72 = .ok (.ineg, 1) := by decide +kernel
theorem d_B_goRounds_73 : decode b_B_goRounds 73 = .ok (.ireturn, 1) := by decide +kernel
theorem d_B_shareAllPeople_0 : decode b_B_shareAllPeople 0 = .ok (.iconst 0, 1) := by decide +kernel
theorem d_B_shareAllPeople_1 : decode b_B_shareAllPeople 1 = .ok (.istore_n 2, 1) := by decide +kernel
theorem d_B_shareAllPeople_2 : decode b_B_shareAllPeople 2 = .ok (.iload_n 2, 1) := by decide +kernel
theorem d_B_shareAllPeople_3 : decode b_B_shareAllPeople 3 = .ok (.aload_n 1, 1) := by decide +kernel
theorem d_B_shareAllPeople_4 : decode b_B_shareAllPeople 4 = .ok (.getfield 36, 3) := by decide +kernel
theorem d_B_shareAllPeople_7 : decode b_B_shareAllPeople 7 = .ok (.if_icmp .ge 105, 3) := by decide +kernel
theorem d_B_shareAllPeople_10 : decode b_B_shareAllPeople 10 = .ok (.iconst 0, 1) := by decide +kernel
theorem d_B_shareAllPeople_11 : decode b_B_shareAllPeople 11 = .ok (.istore_n 3, 1) := by decide +kernel
theorem d_B_shareAllPeople_12 : decode b_B_shareAllPeople 12 = .ok (.iload_n 3, 1) := by decide +kernel
theorem d_B_shareAllPeople_13 : decode b_B_shareAllPeople 13 = .ok (.aload_n 1, 1) := by decide +kernel
theorem d_B_shareAllPeople_14 : decode b_B_shareAllPeople 14 = .ok (.getfield 36, 3) := by decide +kernel
theorem d_B_shareAllPeople_17 : decode b_B_shareAllPeople 17 = .ok (.if_icmp .ge 37, 3) := by decide +kernel
theorem d_B_shareAllPeople_20 : decode b_B_shareAllPeople 20 = .ok (.aload_n 0, 1) := by decide +kernel
theorem d_B_shareAllPeople_21 : decode b_B_shareAllPeople 21 = .ok (.getfield 26, 3) := by decide +kernel
theorem d_B_shareAllPeople_24 : decode b_B_shareAllPeople 24 = .ok (.getfield 53, 3) := by decide +kernel
theorem d_B_shareAllPeople_27 : decode b_B_shareAllPeople 27 = .ok (.iload_n 3, 1) := by decide +kernel
theorem d_B_shareAllPeople_28 : decode b_B_shareAllPeople 28 = .ok (.aload_n 0, 1) := by decide +kernel
theorem d_B_shareAllPeople_29 : decode b_B_shareAllPeople 29 = .ok (.getfield 9, 3) := by decide +kernel
theorem d_B_shareAllPeople_32 : decode b_B_shareAllPeople 32 = .ok (.iload_n 2, 1) := by decide +kernel
theorem d_B_shareAllPeople_33 : decode b_B_shareAllPeople 33 = .ok (.iload_n 3, 1) := by decide +kernel
theorem d_B_shareAllPeople_34 : decode b_B_shareAllPeople 34 = .ok (.invokestatic 57, 3) := by decide +kernel
theorem d_B_shareAllPeople_37 : decode b_B_shareAllPeople 37 = .ok (.iaload, 1) := by decide +kernel
theorem d_B_shareAllPeople_38 : decode b_B_shareAllPeople 38 = .ok (.i2l, 1) := by decide +kernel
theorem d_B_shareAllPeople_39 : decode b_B_shareAllPeople 39 = .ok (.aload_n 0, 1) := by decide +kernel
theorem d_B_shareAllPeople_40 : decode b_B_shareAllPeople 40 = .ok (.getfield 18, 3) := by decide +kernel
theorem d_B_shareAllPeople_43 : decode b_B_shareAllPeople 43 = .ok (.iload_n 3, 1) := by decide +kernel
theorem d_B_shareAllPeople_44 : decode b_B_shareAllPeople 44 = .ok (.iaload, 1) := by decide +kernel
theorem d_B_shareAllPeople_45 : decode b_B_shareAllPeople 45 = .ok (.i2l, 1) := by decide +kernel
theorem d_B_shareAllPeople_46 : decode b_B_shareAllPeople 46 = .ok (.lmul, 1) := by decide +kernel
theorem d_B_shareAllPeople_47 : decode b_B_shareAllPeople 47 = .ok (.lastore, 1) := by decide +kernel
theorem d_B_shareAllPeople_48 : decode b_B_shareAllPeople 48 = .ok (.iinc 3 1, 3) := by decide +kernel
theorem d_B_shareAllPeople_51 : decode b_B_shareAllPeople 51 = .ok (.goto (-39), 3) := by decide +kernel
theorem d_B_shareAllPeople_54 : decode b_B_shareAllPeople 54 = .ok (.aload_n 0, 1) := by decide +kernel
theorem d_B_shareAllPeople_55 : decode b_B_shareAllPeople 55 = .ok (.getfield 26, 3) := by decide +kernel
theorem d_B_shareAllPeople_58 : decode b_B_shareAllPeople 58 = .ok (.aload_n 1, 1) := by decide +kernel
theorem d_B_shareAllPeople_59 : decode b_B_shareAllPeople 59 = .ok (.getfield 61, 3) := by decide +kernel
theorem d_B_shareAllPeople_62 : decode b_B_shareAllPeople 62 = .ok (.iload_n 2, 1) := by decide +kernel
theorem d_B_shareAllPeople_63 : decode b_B_shareAllPeople 63 = .ok (.iaload, 1) := by decide +kernel
theorem d_B_shareAllPeople_64 : decode b_B_shareAllPeople 64 = .ok (.aload_n 1, 1) := by decide +kernel
theorem d_B_shareAllPeople_65 : decode b_B_shareAllPeople 65 = .ok (.getfield 36, 3) := by decide +kernel
theorem d_B_shareAllPeople_68 : decode b_B_shareAllPeople 68 = .ok (.invokevirtual 64, 3) := by decide +kernel
theorem d_B_shareAllPeople_71 : decode b_B_shareAllPeople 71 = .ok (.iconst 0, 1) := by decide +kernel
theorem d_B_shareAllPeople_72 : decode b_B_shareAllPeople 72 = .ok (.istore_n 3, 1) := by decide +kernel
theorem d_B_shareAllPeople_73 : decode b_B_shareAllPeople 73 = .ok (.iload_n 3, 1) := by decide +kernel
theorem d_B_shareAllPeople_74 : decode b_B_shareAllPeople 74 = .ok (.aload_n 1, 1) := by decide +kernel
theorem d_B_shareAllPeople_75 : decode b_B_shareAllPeople 75 = .ok (.getfield 36, 3) := by decide +kernel
theorem d_B_shareAllPeople_78 : decode b_B_shareAllPeople 78 = .ok (.if_icmp .ge 28, 3) := by decide +kernel
theorem d_B_shareAllPeople_81 : decode b_B_shareAllPeople 81 = .ok (.aload_n 0, 1) := by decide +kernel
theorem d_B_shareAllPeople_82 : decode b_B_shareAllPeople 82 = .ok (.getfield 15, 3) := by decide +kernel
theorem d_B_shareAllPeople_85 : decode b_B_shareAllPeople 85 = .ok (.iload_n 2, 1) := by decide +kernel
theorem d_B_shareAllPeople_86 : decode b_B_shareAllPeople 86 = .ok (.iload_n 3, 1) := by decide +kernel
theorem d_B_shareAllPeople_87 : decode b_B_shareAllPeople 87 = .ok (.invokestatic 57, 3) := by decide +kernel
theorem d_B_shareAllPeople_90 : decode b_B_shareAllPeople 90 = .ok (.aload_n 0, 1) := by decide +kernel
theorem d_B_shareAllPeople_91 : decode b_B_shareAllPeople 91 = .ok (.getfield 26, 3) := by decide +kernel
theorem d_B_shareAllPeople_94 : decode b_B_shareAllPeople 94 = .ok (.getfield 68, 3) := by decide +kernel
theorem d_B_shareAllPeople_97 : decode b_B_shareAllPeople 97 = .ok (.iload_n 3, 1) := by decide +kernel
theorem d_B_shareAllPeople_98 : decode b_B_shareAllPeople 98 = .ok (.iaload, 1) := by decide +kernel
theorem d_B_shareAllPeople_99 : decode b_B_shareAllPeople 99 = .ok (.iastore, 1) := by decide +kernel
theorem d_B_shareAllPeople_100 : decode b_B_shareAllPeople 100 = .ok (.iinc 3 1, 3) := by decide +kernel
theorem d_B_shareAllPeople_103 : decode b_B_shareAllPeople 103 = .ok (.goto (-30), 3) := by decide +kernel
theorem d_B_shareAllPeople_106 : decode b_B_shareAllPeople 106 = .ok (.iinc 2 1, 3) := by decide +kernel
theorem d_B_shareAllPeople_109 : decode b_B_shareAllPeople 109 = .ok (.goto (-107), 3) := by decide +kernel
theorem d_B_shareAllPeople_112 : decode b_B_shareAllPeople 112 = .ok (.return_, 1) := by decide +kernel
theorem d_B_isMet_0 : decode b_B_isMet 0 = .ok (.iconst 0, 1) := by decide +kernel
theorem d_B_isMet_1 : decode b_B_isMet 1 = .ok (.istore_n 3, 1) := by decide +kernel
theorem d_B_isMet_2 : decode b_B_isMet 2 = .ok (.iload_n 3, 1) := by decide +kernel
theorem d_B_isMet_3 : decode b_B_isMet 3 = .ok (.aload_n 1, 1) := by decide +kernel
theorem d_B_isMet_4 : decode b_B_isMet 4 = .ok (.getfield 36, 3) := by decide +kernel
theorem d_B_isMet_7 : decode b_B_isMet 7 = .ok (.if_icmp .ge 30, 3) := by decide +kernel
theorem d_B_isMet_10 : decode b_B_isMet 10 = .ok (.aload_n 0, 1) := by decide +kernel
theorem d_B_isMet_11 : decode b_B_isMet 11 = .ok (.iload_n 3, 1) := by decide +kernel
theorem d_B_isMet_12 : decode b_B_isMet 12 = .ok (.invokevirtual 71, 3) := by decide +kernel
theorem d_B_isMet_15 : decode b_B_isMet 15 = .ok (.aload_n 1, 1) := by decide +kernel
theorem d_B_isMet_16 : decode b_B_isMet 16 = .ok (.getfield 75, 3) := by decide +kernel
theorem d_B_isMet_19 : decode b_B_isMet 19 = .ok (.iload_n 3, 1) := by decide +kernel
theorem d_B_isMet_20 : decode b_B_isMet 20 = .ok (.iaload, 1) := by decide +kernel
theorem d_B_isMet_21 : decode b_B_isMet 21 = .ok (.isub, 1) := by decide +kernel
theorem d_B_isMet_22 : decode b_B_isMet 22 = .ok (.invokestatic 78, 3) := by decide +kernel
theorem d_B_isMet_25 : decode b_B_isMet 25 = .ok (.iload_n 2, 1) := by decide +kernel
theorem d_B_isMet_26 : decode b_B_isMet 26 = .ok (.if_icmp .le 5, 3) := by decide +kernel
theorem d_B_isMet_29 : decode b_B_isMet 29 = .ok (.iconst 0, 1) := by decide +kernel
theorem d_B_isMet_30 : decode b_B_isMet 30 = .ok (.ireturn, 1) := by decide +kernel
theorem d_B_isMet_31 : decode b_B_isMet 31 = .ok (.iinc 3 1, 3) := by decide +kernel
theorem d_B_isMet_34 : decode b_B_isMet 34 = .ok (.goto (-32), 3) := by decide +kernel
theorem d_B_isMet_37 : decode b_B_isMet 37 = .ok (.iconst 1, 1) := by decide +kernel
theorem d_B_isMet_38 : decode b_B_isMet 38 = .ok (.ireturn, 1) := by decide +kernel
theorem d_B_changeFactors_0 : decode b_B_changeFactors 0 = .ok (.iconst 0, 1) := by decide +kernel
theorem d_B_changeFactors_1 : decode b_B_changeFactors 1 = .ok (.istore_n 2, 1) := by decide +kernel
theorem d_B_changeFactors_2 : decode b_B_changeFactors 2 = .ok (.iload_n 2, 1) := by decide +kernel
theorem d_B_changeFactors_3 : decode b_B_changeFactors 3 = .ok (.aload_n 1, 1) := by decide +kernel
theorem d_B_changeFactors_4 : decode b_B_changeFactors 4 = .ok (.getfield 36, 3) := by decide +kernel
theorem d_B_changeFactors_7 : decode b_B_changeFactors 7 = .ok (.if_icmp .ge 58, 3) := by decide +kernel
theorem d_B_changeFactors_10 : decode b_B_changeFactors 10 = .ok (.aload_n 0, 1) := by decide +kernel
theorem d_B_changeFactors_11 : decode b_B_changeFactors 11 = .ok (.iload_n 2, 1) := by decide +kernel
theorem d_B_changeFactors_12 : decode b_B_changeFactors 12 = .ok (.invokevirtual 71, 3) := by decide +kernel
theorem d_B_changeFactors_15 : decode b_B_changeFactors 15 = .ok (.istore_n 3, 1) := by decide +kernel
theorem d_B_changeFactors_16 : decode b_B_changeFactors 16 = .ok (.iload_n 3, 1) := by decide +kernel
theorem d_B_changeFactors_17 : decode b_B_changeFactors 17 = .ok (.ifCond .le 42, 3) := by decide +kernel
theorem d_B_changeFactors_20 : decode b_B_changeFactors 20 = .ok (.aload_n 0, 1) := by decide +kernel
theorem d_B_changeFactors_21 : decode b_B_changeFactors 21 = .ok (.getfield 18, 3) := by decide +kernel
theorem d_B_changeFactors_24 : decode b_B_changeFactors 24 = .ok (.iload_n 2, 1) := by decide +kernel
theorem d_B_changeFactors_25 : decode b_B_changeFactors 25 = .ok (.iaload, 1) := by decide +kernel
theorem d_B_changeFactors_26 : decode b_B_changeFactors 26 = .ok (.i2l, 1) := by decide +kernel
theorem d_B_changeFactors_27 : decode b_B_changeFactors 27 = .ok (.aload_n 1, 1) := by decide +kernel
theorem d_B_changeFactors_28 : decode b_B_changeFactors 28 = .ok (.getfield 75, 3) := by decide +kernel
theorem d_B_changeFactors_31 : decode b_B_changeFactors 31 = .ok (.iload_n 2, 1) := by decide +kernel
theorem d_B_changeFactors_32 : decode b_B_changeFactors 32 = .ok (.iaload, 1) := by decide +kernel
theorem d_B_changeFactors_33 : decode b_B_changeFactors 33 = .ok (.i2l, 1) := by decide +kernel
theorem d_B_changeFactors_34 : decode b_B_changeFactors 34 = .ok (.lmul, 1) := by decide +kernel
theorem d_B_changeFactors_35 : decode b_B_changeFactors 35 = .ok (.iload_n 3, 1) := by decide +kernel
theorem d_B_changeFactors_36 : decode b_B_changeFactors 36 = .ok (.i2l, 1) := by decide +kernel
theorem d_B_changeFactors_37 : decode b_B_changeFactors 37 = .ok (.ldiv, 1) := by decide +kernel
theorem d_B_changeFactors_38 : decode b_B_changeFactors 38 = .ok (.lstore 4, 2) := by decide +kernel
theorem d_B_changeFactors_40 : decode b_B_changeFactors 40 = .ok (.aload_n 0, 1) := by decide +kernel
theorem d_B_changeFactors_41 : decode b_B_changeFactors 41 = .ok (.getfield 18, 3) := by decide +kernel
theorem d_B_changeFactors_44 : decode b_B_changeFactors 44 = .ok (.iload_n 2, 1) := by decide +kernel
theorem d_B_changeFactors_45 : decode b_B_changeFactors 45 = .ok (.lconst 1, 1) := by decide +kernel
theorem d_B_changeFactors_46 : decode b_B_changeFactors 46 = .ok (.lload 4, 2) := by decide +kernel
theorem d_B_changeFactors_48 : decode b_B_changeFactors 48 = .ok (.ldc2_w 83, 3) := by decide +kernel
theorem d_B_changeFactors_51 : decode b_B_changeFactors 51 = .ok (.invokestatic 85, 3) := by decide +kernel
theorem d_B_changeFactors_54 : decode b_B_changeFactors 54 = .ok (.invokestatic 89, 3) := by decide +kernel
theorem d_B_changeFactors_57 : decode b_B_changeFactors 57 = .ok (.l2i, 1) := by decide +kernel
theorem d_B_changeFactors_58 : decode b_B_changeFactors 58 = .ok (.iastore, 1) := by decide +kernel
theorem d_B_changeFactors_59 : decode b_B_changeFactors 59 = .ok (.iinc 2 1, 3) := by decide +kernel
theorem d_B_changeFactors_62 : decode b_B_changeFactors 62 = .ok (.goto (-60), 3) := by decide +kernel
theorem d_B_changeFactors_65 : decode b_B_changeFactors 65 = .ok (.return_, 1) := by decide +kernel
theorem d_B_sumFrom_0 : decode b_B_sumFrom 0 = .ok (.iconst 0, 1) := by decide +kernel
theorem d_B_sumFrom_1 : decode b_B_sumFrom 1 = .ok (.istore_n 2, 1) := by decide +kernel
theorem d_B_sumFrom_2 : decode b_B_sumFrom 2 = .ok (.iconst 0, 1) := by decide +kernel
theorem d_B_sumFrom_3 : decode b_B_sumFrom 3 = .ok (.istore_n 3, 1) := by decide +kernel
theorem d_B_sumFrom_4 : decode b_B_sumFrom 4 = .ok (.iload_n 3, 1) := by decide +kernel
theorem d_B_sumFrom_5 : decode b_B_sumFrom 5 = .ok (.bipush 6, 2) := by decide +kernel
theorem d_B_sumFrom_7 : decode b_B_sumFrom 7 = .ok (.if_icmp .ge 22, 3) := by decide +kernel
theorem d_B_sumFrom_10 : decode b_B_sumFrom 10 = .ok (.iload_n 2, 1) := by decide +kernel
theorem d_B_sumFrom_11 : decode b_B_sumFrom 11 = .ok (.aload_n 0, 1) := by decide +kernel
theorem d_B_sumFrom_12 : decode b_B_sumFrom 12 = .ok (.getfield 15, 3) := by decide +kernel
theorem d_B_sumFrom_15 : decode b_B_sumFrom 15 = .ok (.iload_n 1, 1) := by decide +kernel
theorem d_B_sumFrom_16 : decode b_B_sumFrom 16 = .ok (.iload_n 3, 1) := by decide +kernel
theorem d_B_sumFrom_17 : decode b_B_sumFrom 17 = .ok (.invokestatic 57, 3) := by decide +kernel
theorem d_B_sumFrom_20 : decode b_B_sumFrom 20 = .ok (.iaload, 1) := by decide +kernel
theorem d_B_sumFrom_21 : decode b_B_sumFrom 21 = .ok (.iadd, 1) := by decide +kernel
theorem d_B_sumFrom_22 : decode b_B_sumFrom 22 = .ok (.istore_n 2, 1) := by decide +kernel
theorem d_B_sumFrom_23 : decode b_B_sumFrom 23 = .ok (.iinc 3 1, 3) := by decide +kernel
theorem d_B_sumFrom_26 : decode b_B_sumFrom 26 = .ok (.goto (-22), 3) := by decide +kernel
theorem d_B_sumFrom_29 : decode b_B_sumFrom 29 = .ok (.iload_n 2, 1) := by decide +kernel
theorem d_B_sumFrom_30 : decode b_B_sumFrom 30 = .ok (.ireturn, 1) := by decide +kernel
theorem d_B_sumTo_0 : decode b_B_sumTo 0 = .ok (.iconst 0, 1) := by decide +kernel
theorem d_B_sumTo_1 : decode b_B_sumTo 1 = .ok (.istore_n 2, 1) := by decide +kernel
theorem d_B_sumTo_2 : decode b_B_sumTo 2 = .ok (.iconst 0, 1) := by decide +kernel
theorem d_B_sumTo_3 : decode b_B_sumTo 3 = .ok (.istore_n 3, 1) := by decide +kernel
theorem d_B_sumTo_4 : decode b_B_sumTo 4 = .ok (.iload_n 3, 1) := by decide +kernel
theorem d_B_sumTo_5 : decode b_B_sumTo 5 = .ok (.bipush 6, 2) := by decide +kernel
theorem d_B_sumTo_7 : decode b_B_sumTo 7 = .ok (.if_icmp .ge 22, 3) := by decide +kernel
theorem d_B_sumTo_10 : decode b_B_sumTo 10 = .ok (.iload_n 2, 1) := by decide +kernel
theorem d_B_sumTo_11 : decode b_B_sumTo 11 = .ok (.aload_n 0, 1) := by decide +kernel
theorem d_B_sumTo_12 : decode b_B_sumTo 12 = .ok (.getfield 15, 3) := by decide +kernel
theorem d_B_sumTo_15 : decode b_B_sumTo 15 = .ok (.iload_n 3, 1) := by decide +kernel
theorem d_B_sumTo_16 : decode b_B_sumTo 16 = .ok (.iload_n 1, 1) := by decide +kernel
theorem d_B_sumTo_17 : decode b_B_sumTo 17 = .ok (.invokestatic 57, 3) := by decide +kernel
theorem d_B_sumTo_20 : decode b_B_sumTo 20 = .ok (.iaload, 1) := by decide +kernel
theorem d_B_sumTo_21 : decode b_B_sumTo 21 = .ok (.iadd, 1) := by decide +kernel
theorem d_B_sumTo_22 : decode b_B_sumTo 22 = .ok (.istore_n 2, 1) := by decide +kernel
theorem d_B_sumTo_23 : decode b_B_sumTo 23 = .ok (.iinc 3 1, 3) := by decide +kernel
theorem d_B_sumTo_26 : decode b_B_sumTo 26 = .ok (.goto (-22), 3) := by decide +kernel
theorem d_B_sumTo_29 : decode b_B_sumTo 29 = .ok (.iload_n 2, 1) := by decide +kernel
theorem d_B_sumTo_30 : decode b_B_sumTo 30 = .ok (.ireturn, 1) := by decide +kernel
theorem d_M_init_0 : decode b_M_init 0 = .ok (.aload_n 0, 1) := by decide +kernel
theorem d_M_init_1 : decode b_M_init 1 = .ok (.invokespecial 3, 3) := by decide +kernel
theorem d_M_init_4 : decode b_M_init 4 = .ok (.aload_n 0, 1) := by decide +kernel
theorem d_M_init_5 : decode b_M_init 5 = .ok (.bipush 108, 2) := by decide +kernel
theorem d_M_init_7 : decode b_M_init 7 = .ok (.newarray .int, 2) := by decide +kernel
theorem d_M_init_9 : decode b_M_init 9 = .ok (.putfield 9, 3) := by decide +kernel
theorem d_M_init_12 : decode b_M_init 12 = .ok (.aload_n 0, 1) := by decide +kernel
theorem d_M_init_13 : decode b_M_init 13 = .ok (.new 15, 3) := by decide +kernel
theorem d_M_init_16 : decode b_M_init 16 = .ok (.dup, 1) := by decide +kernel
theorem d_M_init_17 : decode b_M_init 17 = .ok (.iconst 3, 1) := by decide +kernel
theorem d_M_init_18 : decode b_M_init 18 = .ok (.invokespecial 17, 3) := by decide +kernel
theorem d_M_init_21 : decode b_M_init 21 = .ok (.putfield 20, 3) := by decide +kernel
theorem d_M_init_24 : decode b_M_init 24 = .ok (.iconst 0, 1) := by decide +kernel
theorem d_M_init_25 : decode b_M_init 25 = .ok (.istore_n 1, 1) := by decide +kernel
theorem d_M_init_26 : decode b_M_init 26 = .ok (.iload_n 1, 1) := by decide +kernel
theorem d_M_init_27 : decode b_M_init 27 = .ok (.bipush 36, 2) := by decide +kernel
theorem d_M_init_29 : decode b_M_init 29 = .ok (.if_icmp .ge 22, 3) := by decide +kernel
theorem d_M_init_32 : decode b_M_init 32 = .ok (.aload_n 0, 1) := by decide +kernel
theorem d_M_init_33 : decode b_M_init 33 = .ok (.getfield 9, 3) := by decide +kernel
theorem d_M_init_36 : decode b_M_init 36 = .ok (.iconst 0, 1) := by decide +kernel
theorem d_M_init_37 : decode b_M_init 37 = .ok (.iload_n 1, 1) := by decide +kernel
theorem d_M_init_38 : decode b_M_init 38 = .ok (.invokestatic 24, 3) := by decide +kernel
theorem d_M_init_41 : decode b_M_init 41 = .ok (.sipush 1000, 3) := by decide +kernel
theorem d_M_init_44 : decode b_M_init 44 = .ok (.iastore, 1) := by decide +kernel
theorem d_M_init_45 : decode b_M_init 45 = .ok (.iinc 1 1, 3) := by decide +kernel
theorem d_M_init_48 : decode b_M_init 48 = .ok (.goto (-22), 3) := by decide +kernel
theorem d_M_init_51 : decode b_M_init 51 = .ok (.return_, 1) := by decide +kernel
theorem d_M_placeOf_0 : decode b_M_placeOf 0 = .ok (.iload_n 0, 1) := by decide +kernel
theorem d_M_placeOf_1 : decode b_M_placeOf 1 = .ok (.bipush 36, 2) := by decide +kernel
theorem d_M_placeOf_3 : decode b_M_placeOf 3 = .ok (.imul, 1) := by decide +kernel
theorem d_M_placeOf_4 : decode b_M_placeOf 4 = .ok (.iload_n 1, 1) := by decide +kernel
theorem d_M_placeOf_5 : decode b_M_placeOf 5 = .ok (.iadd, 1) := by decide +kernel
theorem d_M_placeOf_6 : decode b_M_placeOf 6 = .ok (.ireturn, 1) := by decide +kernel
theorem d_M_tripsBy_0 : decode b_M_tripsBy 0 = .ok (.iconst 0, 1) := by decide +kernel
theorem d_M_tripsBy_1 : decode b_M_tripsBy 1 = .ok (.istore 4, 2) := by decide +kernel
theorem d_M_tripsBy_3 : decode b_M_tripsBy 3 = .ok (.iload 4, 2) := by decide +kernel
theorem d_M_tripsBy_5 : decode b_M_tripsBy 5 = .ok (.iconst 3, 1) := by decide +kernel
theorem d_M_tripsBy_6 : decode b_M_tripsBy 6 = .ok (.if_icmp .ge 31, 3) := by decide +kernel
theorem d_M_tripsBy_9 : decode b_M_tripsBy 9 = .ok (.aload_n 0, 1) := by decide +kernel
theorem d_M_tripsBy_10 : decode b_M_tripsBy 10 = .ok (.getfield 20, 3) := by decide +kernel
theorem d_M_tripsBy_13 : decode b_M_tripsBy 13 = .ok (.getfield 28, 3) := by decide +kernel
theorem d_M_tripsBy_16 : decode b_M_tripsBy 16 = .ok (.iload 4, 2) := by decide +kernel
theorem d_M_tripsBy_18 : decode b_M_tripsBy 18 = .ok (.aload_n 0, 1) := by decide +kernel
theorem d_M_tripsBy_19 : decode b_M_tripsBy 19 = .ok (.getfield 9, 3) := by decide +kernel
theorem d_M_tripsBy_22 : decode b_M_tripsBy 22 = .ok (.iload 4, 2) := by decide +kernel
theorem d_M_tripsBy_24 : decode b_M_tripsBy 24 = .ok (.iload_n 2, 1) := by decide +kernel
theorem d_M_tripsBy_25 : decode b_M_tripsBy 25 = .ok (.invokestatic 24, 3) := by decide +kernel
theorem d_M_tripsBy_28 : decode b_M_tripsBy 28 = .ok (.iaload, 1) := by decide +kernel
theorem d_M_tripsBy_29 : decode b_M_tripsBy 29 = .ok (.i2l, 1) := by decide +kernel
theorem d_M_tripsBy_30 : decode b_M_tripsBy 30 = .ok (.lastore, 1) := by decide +kernel
theorem d_M_tripsBy_31 : decode b_M_tripsBy 31 = .ok (.iinc 4 1, 3) := by decide +kernel
theorem d_M_tripsBy_34 : decode b_M_tripsBy 34 = .ok (.goto (-31), 3) := by decide +kernel
theorem d_M_tripsBy_37 : decode b_M_tripsBy 37 = .ok (.aload_n 0, 1) := by decide +kernel
theorem d_M_tripsBy_38 : decode b_M_tripsBy 38 = .ok (.getfield 20, 3) := by decide +kernel
theorem d_M_tripsBy_41 : decode b_M_tripsBy 41 = .ok (.iload_n 3, 1) := by decide +kernel
theorem d_M_tripsBy_42 : decode b_M_tripsBy 42 = .ok (.iconst 3, 1) := by decide +kernel
theorem d_M_tripsBy_43 : decode b_M_tripsBy 43 = .ok (.invokevirtual 32, 3) := by decide +kernel
theorem d_M_tripsBy_46 : decode b_M_tripsBy 46 = .ok (.aload_n 0, 1) := by decide +kernel
theorem d_M_tripsBy_47 : decode b_M_tripsBy 47 = .ok (.getfield 20, 3) := by decide +kernel
theorem d_M_tripsBy_50 : decode b_M_tripsBy 50 = .ok (.getfield 36, 3) := by decide +kernel
theorem d_M_tripsBy_53 : decode b_M_tripsBy 53 = .ok (.iload_n 1, 1) := by decide +kernel
theorem d_M_tripsBy_54 : decode b_M_tripsBy 54 = .ok (.iaload, 1) := by decide +kernel
theorem d_M_tripsBy_55 : decode b_M_tripsBy 55 = .ok (.ireturn, 1) := by decide +kernel
theorem d_S_init_0 : decode b_S_init 0 = .ok (.aload_n 0, 1) := by decide +kernel
theorem d_S_init_1 : decode b_S_init 1 = .ok (.invokespecial 3, 3) := by decide +kernel
theorem d_S_init_4 : decode b_S_init 4 = .ok (.aload_n 0, 1) := by decide +kernel
theorem d_S_init_5 : decode b_S_init 5 = .ok (.iconst 0, 1) := by decide +kernel
theorem d_S_init_6 : decode b_S_init 6 = .ok (.putfield 9, 3) := by decide +kernel
theorem d_S_init_9 : decode b_S_init 9 = .ok (.aload_n 0, 1) := by decide +kernel
theorem d_S_init_10 : decode b_S_init 10 = .ok (.bipush 40, 2) := by decide +kernel
theorem d_S_init_12 : decode b_S_init 12 = .ok (.newarray .int, 2) := by decide +kernel
theorem d_S_init_14 : decode b_S_init 14 = .ok (.putfield 15, 3) := by decide +kernel
theorem d_S_init_17 : decode b_S_init 17 = .ok (.aload_n 0, 1) := by decide +kernel
theorem d_S_init_18 : decode b_S_init 18 = .ok (.bipush 40, 2) := by decide +kernel
theorem d_S_init_20 : decode b_S_init 20 = .ok (.newarray .int, 2) := by decide +kernel
theorem d_S_init_22 : decode b_S_init 22 = .ok (.putfield 19, 3) := by decide +kernel
theorem d_S_init_25 : decode b_S_init 25 = .ok (.aload_n 0, 1) := by decide +kernel
theorem d_S_init_26 : decode b_S_init 26 = .ok (.bipush 40, 2) := by decide +kernel
theorem d_S_init_28 : decode b_S_init 28 = .ok (.newarray .int, 2) := by decide +kernel
theorem d_S_init_30 : decode b_S_init 30 = .ok (.putfield 22, 3) := by decide +kernel
theorem d_S_init_33 : decode b_S_init 33 = .ok (.aload_n 0, 1) := by decide +kernel
theorem d_S_init_34 : decode b_S_init 34 = .ok (.bipush 40, 2) := by decide +kernel
theorem d_S_init_36 : decode b_S_init 36 = .ok (.newarray .int, 2) := by decide +kernel
theorem d_S_init_38 : decode b_S_init 38 = .ok (.putfield 25, 3) := by decide +kernel
theorem d_S_init_41 : decode b_S_init 41 = .ok (.aload_n 0, 1) := by decide +kernel
theorem d_S_init_42 : decode b_S_init 42 = .ok (.bipush 40, 2) := by decide +kernel
theorem d_S_init_44 : decode b_S_init 44 = .ok (.newarray .int, 2) := by decide +kernel
theorem d_S_init_46 : decode b_S_init 46 = .ok (.putfield 28, 3) := by decide +kernel
theorem d_S_init_49 : decode b_S_init 49 = .ok (.aload_n 0, 1) := by decide +kernel
theorem d_S_init_50 : decode b_S_init 50 = .ok (.bipush 40, 2) := by decide +kernel
theorem d_S_init_52 : decode b_S_init 52 = .ok (.newarray .int, 2) := by decide +kernel
theorem d_S_init_54 : decode b_S_init 54 = .ok (.putfield 31, 3) := by decide +kernel
theorem d_S_init_57 : decode b_S_init 57 = .ok (.aload_n 0, 1) := by decide +kernel
theorem d_S_init_58 : decode b_S_init 58 = .ok (.bipush 40, 2) := by decide +kernel
theorem d_S_init_60 : decode b_S_init 60 = .ok (.newarray .boolean, 2) := by decide +kernel
theorem d_S_init_62 : decode b_S_init 62 = .ok (.putfield 34, 3) := by decide +kernel
theorem d_S_init_65 : decode b_S_init 65 = .ok (.aload_n 0, 1) := by decide +kernel
theorem d_S_init_66 : decode b_S_init 66 = .ok (.bipush 40, 2) := by decide +kernel
theorem d_S_init_68 : decode b_S_init 68 = .ok (.newarray .int, 2) := by decide +kernel
theorem d_S_init_70 : decode b_S_init 70 = .ok (.putfield 38, 3) := by decide +kernel
theorem d_S_init_73 : decode b_S_init 73 = .ok (.aload_n 0, 1) := by decide +kernel
theorem d_S_init_74 : decode b_S_init 74 = .ok (.bipush 40, 2) := by decide +kernel
theorem d_S_init_76 : decode b_S_init 76 = .ok (.newarray .int, 2) := by decide +kernel
theorem d_S_init_78 : decode b_S_init 78 = .ok (.putfield 41, 3) := by decide +kernel
theorem d_S_init_81 : decode b_S_init 81 = .ok (.aload_n 0, 1) := by decide +kernel
theorem d_S_init_82 : decode b_S_init 82 = .ok (.getfield 28, 3) := by decide +kernel
theorem d_S_init_85 : decode b_S_init 85 = .ok (.iconst 1, 1) := by decide +kernel
theorem d_S_init_86 : decode b_S_init 86 = .ok (.invokestatic 44, 3) := by decide +kernel
theorem d_S_init_89 : decode b_S_init 89 = .ok (.aload_n 0, 1) := by decide +kernel
theorem d_S_init_90 : decode b_S_init 90 = .ok (.getfield 38, 3) := by decide +kernel
theorem d_S_init_93 : decode b_S_init 93 = .ok (.iconst (-1), 1) := by decide +kernel
theorem d_S_init_94 : decode b_S_init 94 = .ok (.invokestatic 44, 3) := by decide +kernel
theorem d_S_init_97 : decode b_S_init 97 = .ok (.return_, 1) := by decide +kernel
theorem d_S_addStreet_0 : decode b_S_addStreet 0 = .ok (.aload_n 0, 1) := by decide +kernel
theorem d_S_addStreet_1 : decode b_S_addStreet 1 = .ok (.getfield 15, 3) := by decide +kernel
theorem d_S_addStreet_4 : decode b_S_addStreet 4 = .ok (.aload_n 0, 1) := by decide +kernel
theorem d_S_addStreet_5 : decode b_S_addStreet 5 = .ok (.getfield 9, 3) := by decide +kernel
theorem d_S_addStreet_8 : decode b_S_addStreet 8 = .ok (.iload_n 1, 1) := by decide +kernel
theorem d_S_addStreet_9 : decode b_S_addStreet 9 = .ok (.iastore, 1) := by decide +kernel
theorem d_S_addStreet_10 : decode b_S_addStreet 10 = .ok (.aload_n 0, 1) := by decide +kernel
theorem d_S_addStreet_11 : decode b_S_addStreet 11 = .ok (.getfield 19, 3) := by decide +kernel
theorem d_S_addStreet_14 : decode b_S_addStreet 14 = .ok (.aload_n 0, 1) := by decide +kernel
theorem d_S_addStreet_15 : decode b_S_addStreet 15 = .ok (.getfield 9, 3) := by decide +kernel
theorem d_S_addStreet_18 : decode b_S_addStreet 18 = .ok (.iload_n 2, 1) := by decide +kernel
theorem d_S_addStreet_19 : decode b_S_addStreet 19 = .ok (.iastore, 1) := by decide +kernel
theorem d_S_addStreet_20 : decode b_S_addStreet 20 = .ok (.aload_n 0, 1) := by decide +kernel
theorem d_S_addStreet_21 : decode b_S_addStreet 21 = .ok (.getfield 22, 3) := by decide +kernel
theorem d_S_addStreet_24 : decode b_S_addStreet 24 = .ok (.aload_n 0, 1) := by decide +kernel
theorem d_S_addStreet_25 : decode b_S_addStreet 25 = .ok (.getfield 9, 3) := by decide +kernel
theorem d_S_addStreet_28 : decode b_S_addStreet 28 = .ok (.iload_n 3, 1) := by decide +kernel
theorem d_S_addStreet_29 : decode b_S_addStreet 29 = .ok (.iastore, 1) := by decide +kernel
theorem d_S_addStreet_30 : decode b_S_addStreet 30 = .ok (.aload_n 0, 1) := by decide +kernel
theorem d_S_addStreet_31 : decode b_S_addStreet 31 = .ok (.getfield 25, 3) := by decide +kernel
theorem d_S_addStreet_34 : decode b_S_addStreet 34 = .ok (.aload_n 0, 1) := by decide +kernel
theorem d_S_addStreet_35 : decode b_S_addStreet 35 = .ok (.getfield 9, 3) := by decide +kernel
theorem d_S_addStreet_38 : decode b_S_addStreet 38 = .ok (.iload 4, 2) := by decide +kernel
theorem d_S_addStreet_40 : decode b_S_addStreet 40 = .ok (.iastore, 1) := by decide +kernel
theorem d_S_addStreet_41 : decode b_S_addStreet 41 = .ok (.aload_n 0, 1) := by decide +kernel
theorem d_S_addStreet_42 : decode b_S_addStreet 42 = .ok (.getfield 28, 3) := by decide +kernel
theorem d_S_addStreet_45 : decode b_S_addStreet 45 = .ok (.aload_n 0, 1) := by decide +kernel
theorem d_S_addStreet_46 : decode b_S_addStreet 46 = .ok (.getfield 9, 3) := by decide +kernel
theorem d_S_addStreet_49 : decode b_S_addStreet 49 = .ok (.iload 5, 2) := by decide +kernel
theorem d_S_addStreet_51 : decode b_S_addStreet 51 = .ok (.iastore, 1) := by decide +kernel
theorem d_S_addStreet_52 : decode b_S_addStreet 52 = .ok (.aload_n 0, 1) := by decide +kernel
theorem d_S_addStreet_53 : decode b_S_addStreet 53 = .ok (.getfield 34, 3) := by decide +kernel
theorem d_S_addStreet_56 : decode b_S_addStreet 56 = .ok (.aload_n 0, 1) := by decide +kernel
theorem d_S_addStreet_57 : decode b_S_addStreet 57 = .ok (.getfield 9, 3) := by decide +kernel
theorem d_S_addStreet_60 : decode b_S_addStreet 60 = .ok (.iconst 1, 1) := by decide +kernel
theorem d_S_addStreet_61 : decode b_S_addStreet 61 = .ok (.bastore, 1) := by decide +kernel
theorem d_S_addStreet_62 : decode b_S_addStreet 62 = .ok (.aload_n 0, 1) := by decide +kernel
theorem d_S_addStreet_63 : decode b_S_addStreet 63 = .ok (.dup, 1) := by decide +kernel
theorem d_S_addStreet_64 : decode b_S_addStreet 64 = .ok (.getfield 9, 3) := by decide +kernel
theorem d_S_addStreet_67 : decode b_S_addStreet 67 = .ok (.dup_x1, 1) := by decide +kernel
theorem d_S_addStreet_68 : decode b_S_addStreet 68 = .ok (.iconst 1, 1) := by decide +kernel
theorem d_S_addStreet_69 : decode b_S_addStreet 69 = .ok (.iadd, 1) := by decide +kernel
theorem d_S_addStreet_70 : decode b_S_addStreet 70 = .ok (.putfield 9, 3) := by decide +kernel
theorem d_S_addStreet_73 : decode b_S_addStreet 73 = .ok (.ireturn, 1) := by decide +kernel
theorem d_S_timeOf_0 : decode b_S_timeOf 0 = .ok (.aload_n 0, 1) := by decide +kernel
theorem d_S_timeOf_1 : decode b_S_timeOf 1 = .ok (.getfield 25, 3) := by decide +kernel
theorem d_S_timeOf_4 : decode b_S_timeOf 4 = .ok (.iload_n 1, 1) := by decide +kernel
theorem d_S_timeOf_5 : decode b_S_timeOf 5 = .ok (.iaload, 1) := by decide +kernel
theorem d_S_timeOf_6 : decode b_S_timeOf 6 = .ok (.i2l, 1) := by decide +kernel
theorem d_S_timeOf_7 : decode b_S_timeOf 7 = .ok (.aload_n 0, 1) := by decide +kernel
theorem d_S_timeOf_8 : decode b_S_timeOf 8 = .ok (.getfield 41, 3) := by decide +kernel
theorem d_S_timeOf_11 : decode b_S_timeOf 11 = .ok (.iload_n 1, 1) := by decide +kernel
theorem d_S_timeOf_12 : decode b_S_timeOf 12 = .ok (.iaload, 1) := by decide +kernel
theorem d_S_timeOf_13 : decode b_S_timeOf 13 = .ok (.i2l, 1) := by decide +kernel
theorem d_S_timeOf_14 : decode b_S_timeOf 14 = .ok (.lmul, 1) := by decide +kernel
theorem d_S_timeOf_15 : decode b_S_timeOf 15 = .ok (.aload_n 0, 1) := by decide +kernel
theorem d_S_timeOf_16 : decode b_S_timeOf 16 = .ok (.getfield 28, 3) := by decide +kernel
theorem d_S_timeOf_19 : decode b_S_timeOf 19 = .ok (.iload_n 1, 1) := by decide +kernel
theorem d_S_timeOf_20 : decode b_S_timeOf 20 = .ok (.iaload, 1) := by decide +kernel
theorem d_S_timeOf_21 : decode b_S_timeOf 21 = .ok (.i2l, 1) := by decide +kernel
theorem d_S_timeOf_22 : decode b_S_timeOf 22 = .ok (.ldiv, 1) := by decide +kernel
theorem d_S_timeOf_23 : decode b_S_timeOf 23 = .ok (.lstore_n 2, 1) := by decide +kernel
theorem d_S_timeOf_24 : decode b_S_timeOf 24 = .ok (.aload_n 0, 1) := by decide +kernel
theorem d_S_timeOf_25 : decode b_S_timeOf 25 = .ok (.getfield 22, 3) := by decide +kernel
theorem d_S_timeOf_28 : decode b_S_timeOf 28 = .ok (.iload_n 1, 1) := by decide +kernel
theorem d_S_timeOf_29 : decode b_S_timeOf 29 = .ok (.iaload, 1) := by decide +kernel
theorem d_S_timeOf_30 : decode b_S_timeOf 30 = .ok (.i2l, 1) := by decide +kernel
theorem d_S_timeOf_31 : decode b_S_timeOf 31 = .ok (.lload_n 2, 1) := by decide +kernel
theorem d_S_timeOf_32 : decode b_S_timeOf 32 = .ok (.ladd, 1) := by decide +kernel
theorem d_S_timeOf_33 : decode b_S_timeOf 33 = .ok (.aload_n 0, 1) := by decide +kernel
theorem d_S_timeOf_34 : decode b_S_timeOf 34 = .ok (.getfield 31, 3) := by decide +kernel
theorem d_S_timeOf_37 : decode b_S_timeOf 37 = .ok (.iload_n 1, 1) := by decide +kernel
theorem d_S_timeOf_38 : decode b_S_timeOf 38 = .ok (.iaload, 1) := by decide +kernel
theorem d_S_timeOf_39 : decode b_S_timeOf 39 = .ok (.i2l, 1) := by decide +kernel
theorem d_S_timeOf_40 : decode b_S_timeOf 40 = .ok (.ladd, 1) := by decide +kernel
theorem d_S_timeOf_41 : decode b_S_timeOf 41 = .ok (.ldc2_w 50, 3) := by decide +kernel
theorem d_S_timeOf_44 : decode b_S_timeOf 44 = .ok (.invokestatic 52, 3) := by decide +kernel
theorem d_S_timeOf_47 : decode b_S_timeOf 47 = .ok (.l2i, 1) := by decide +kernel
theorem d_S_timeOf_48 : decode b_S_timeOf 48 = .ok (.ireturn, 1) := by decide +kernel
theorem d_S_farthestFromCount_0 : decode b_S_farthestFromCount 0 = .ok (.iconst (-1), 1) := by decide +kernel
theorem d_S_farthestFromCount_1 : decode b_S_farthestFromCount 1 = .ok (.istore_n 1, 1) := by decide +kernel
theorem d_S_farthestFromCount_2 : decode b_S_farthestFromCount 2 = .ok (.iconst 0, 1) := by decide +kernel
theorem d_S_farthestFromCount_3 : decode b_S_farthestFromCount 3 = .ok (.istore_n 2, 1) := by decide +kernel
theorem d_S_farthestFromCount_4 : decode b_S_farthestFromCount 4 = .ok (.iconst 0, 1) := by decide +kernel
theorem d_S_farthestFromCount_5 : decode b_S_farthestFromCount 5 = .ok (.istore_n 3, 1) := by decide +kernel
theorem d_S_farthestFromCount_6 : decode b_S_farthestFromCount 6 = .ok (.iload_n 3, 1) := by decide +kernel
theorem d_S_farthestFromCount_7 : decode b_S_farthestFromCount 7 = .ok (.aload_n 0, 1) := by decide +kernel
theorem d_S_farthestFromCount_8 : decode b_S_farthestFromCount 8 = .ok (.getfield 9, 3) := by decide +kernel
theorem d_S_farthestFromCount_11 : decode b_S_farthestFromCount 11 = .ok (.if_icmp .ge 52, 3) := by decide +kernel
theorem d_S_farthestFromCount_14 : decode b_S_farthestFromCount 14 = .ok (.aload_n 0, 1) := by decide +kernel
theorem d_S_farthestFromCount_15 : decode b_S_farthestFromCount 15 = .ok (.getfield 38, 3) := by decide +kernel
theorem d_S_farthestFromCount_18 : decode b_S_farthestFromCount 18 = .ok (.iload_n 3, 1) := by decide +kernel
theorem d_S_farthestFromCount_19 : decode b_S_farthestFromCount 19 = .ok (.iaload, 1) := by decide +kernel
theorem d_S_farthestFromCount_20 : decode b_S_farthestFromCount 20 = .ok (.iconst (-1), 1) := by decide +kernel
theorem d_S_farthestFromCount_21 : decode b_S_farthestFromCount 21 = .ok (.if_icmp .ne 7, 3) := by decide +kernel
theorem d_S_farthestFromCount_24 : decode b_S_farthestFromCount 24 = .ok (.iconst 0, 1) := by decide +kernel
theorem d_S_farthestFromCount_25 : decode b_S_farthestFromCount 25 = .ok (.goto 19, 3) := by decide +kernel
theorem d_S_farthestFromCount_28 : decode b_S_farthestFromCount 28 = .ok (.aload_n 0, 1) := by decide +kernel
theorem d_S_farthestFromCount_29 : decode b_S_farthestFromCount 29 = .ok (.getfield 41, 3) := by decide +kernel
theorem d_S_farthestFromCount_32 : decode b_S_farthestFromCount 32 = .ok (.iload_n 3, 1) := by decide +kernel
theorem d_S_farthestFromCount_33 : decode b_S_farthestFromCount 33 = .ok (.iaload, 1) := by decide +kernel
theorem d_S_farthestFromCount_34 : decode b_S_farthestFromCount 34 = .ok (.aload_n 0, 1) := by decide +kernel
theorem d_S_farthestFromCount_35 : decode b_S_farthestFromCount 35 = .ok (.getfield 38, 3) := by decide +kernel
theorem d_S_farthestFromCount_38 : decode b_S_farthestFromCount 38 = .ok (.iload_n 3, 1) := by decide +kernel
theorem d_S_farthestFromCount_39 : decode b_S_farthestFromCount 39 = .ok (.iaload, 1) := by decide +kernel
theorem d_S_farthestFromCount_40 : decode b_S_farthestFromCount 40 = .ok (.isub, 1) := by decide +kernel
theorem d_S_farthestFromCount_41 : decode b_S_farthestFromCount 41 = .ok (.invokestatic 58, 3) := by decide +kernel
theorem d_S_farthestFromCount_44 : decode b_S_farthestFromCount 44 = .ok (.istore 4, 2) := by decide +kernel
theorem d_S_farthestFromCount_46 : decode b_S_farthestFromCount 46 = .ok (.iload 4, 2) := by decide +kernel
theorem d_S_farthestFromCount_48 : decode b_S_farthestFromCount 48 = .ok (.iload_n 2, 1) := by decide +kernel
theorem d_S_farthestFromCount_49 : decode b_S_farthestFromCount 49 = .ok (.if_icmp .le 8, 3) := by decide +kernel
theorem d_S_farthestFromCount_52 : decode b_S_farthestFromCount 52 = .ok (.iload_n 3, 1) := by decide +kernel
theorem d_S_farthestFromCount_53 : decode b_S_farthestFromCount 53 = .ok (.istore_n 1, 1) := by decide +kernel
theorem d_S_farthestFromCount_54 : decode b_S_farthestFromCount 54 = .ok (.iload 4, 2) := by decide +kernel
theorem d_S_farthestFromCount_56 : decode b_S_farthestFromCount 56 = .ok (.istore_n 2, 1) := by decide +kernel
theorem d_S_farthestFromCount_57 : decode b_S_farthestFromCount 57 = .ok (.iinc 3 1, 3) := by decide +kernel
theorem d_S_farthestFromCount_60 : decode b_S_farthestFromCount 60 = .ok (.goto (-54), 3) := by decide +kernel
theorem d_S_farthestFromCount_63 : decode b_S_farthestFromCount 63 = .ok (.iload_n 1, 1) := by decide +kernel
theorem d_S_farthestFromCount_64 : decode b_S_farthestFromCount 64 = .ok (.ireturn, 1) := by decide +kernel
theorem d_W_init_0 : decode b_W_init 0 = .ok (.aload_n 0, 1) := by decide +kernel
theorem d_W_init_1 : decode b_W_init 1 = .ok (.invokespecial 3, 3) := by decide +kernel
theorem d_W_init_4 : decode b_W_init 4 = .ok (.aload_n 0, 1) := by decide +kernel
theorem d_W_init_5 : decode b_W_init 5 = .ok (.bipush 40, 2) := by decide +kernel
theorem d_W_init_7 : decode b_W_init 7 = .ok (.newarray .int, 2) := by decide +kernel
theorem d_W_init_9 : decode b_W_init 9 = .ok (.putfield 9, 3) := by decide +kernel
theorem d_W_init_12 : decode b_W_init 12 = .ok (.aload_n 0, 1) := by decide +kernel
theorem d_W_init_13 : decode b_W_init 13 = .ok (.bipush 12, 2) := by decide +kernel
theorem d_W_init_15 : decode b_W_init 15 = .ok (.newarray .long, 2) := by decide +kernel
theorem d_W_init_17 : decode b_W_init 17 = .ok (.putfield 15, 3) := by decide +kernel
theorem d_W_init_20 : decode b_W_init 20 = .ok (.aload_n 0, 1) := by decide +kernel
theorem d_W_init_21 : decode b_W_init 21 = .ok (.bipush 12, 2) := by decide +kernel
theorem d_W_init_23 : decode b_W_init 23 = .ok (.newarray .int, 2) := by decide +kernel
theorem d_W_init_25 : decode b_W_init 25 = .ok (.putfield 19, 3) := by decide +kernel
theorem d_W_init_28 : decode b_W_init 28 = .ok (.return_, 1) := by decide +kernel
theorem d_W_holdTimes_0 : decode b_W_holdTimes 0 = .ok (.iconst 0, 1) := by decide +kernel
theorem d_W_holdTimes_1 : decode b_W_holdTimes 1 = .ok (.istore_n 2, 1) := by decide +kernel
theorem d_W_holdTimes_2 : decode b_W_holdTimes 2 = .ok (.iload_n 2, 1) := by decide +kernel
theorem d_W_holdTimes_3 : decode b_W_holdTimes 3 = .ok (.aload_n 1, 1) := by decide +kernel
theorem d_W_holdTimes_4 : decode b_W_holdTimes 4 = .ok (.getfield 22, 3) := by decide +kernel
theorem d_W_holdTimes_7 : decode b_W_holdTimes 7 = .ok (.if_icmp .ge 20, 3) := by decide +kernel
theorem d_W_holdTimes_10 : decode b_W_holdTimes 10 = .ok (.aload_n 0, 1) := by decide +kernel
theorem d_W_holdTimes_11 : decode b_W_holdTimes 11 = .ok (.getfield 9, 3) := by decide +kernel
theorem d_W_holdTimes_14 : decode b_W_holdTimes 14 = .ok (.iload_n 2, 1) := by decide +kernel
theorem d_W_holdTimes_15 : decode b_W_holdTimes 15 = .ok (.aload_n 1, 1) := by decide +kernel
theorem d_W_holdTimes_16 : decode b_W_holdTimes 16 = .ok (.iload_n 2, 1) := by decide +kernel
theorem d_W_holdTimes_17 : decode b_W_holdTimes 17 = .ok (.invokevirtual 28, 3) := by decide +kernel
theorem d_W_holdTimes_20 : decode b_W_holdTimes 20 = .ok (.iastore, 1) := by decide +kernel
theorem d_W_holdTimes_21 : decode b_W_holdTimes 21 = .ok (.iinc 2 1, 3) := by decide +kernel
theorem d_W_holdTimes_24 : decode b_W_holdTimes 24 = .ok (.goto (-22), 3) := by decide +kernel
theorem d_W_holdTimes_27 : decode b_W_holdTimes 27 = .ok (.return_, 1) := by decide +kernel
theorem d_W_aimAt_0 : decode b_W_aimAt 0 = .ok (.aload_n 0, 1) := by decide +kernel
theorem d_W_aimAt_1 : decode b_W_aimAt 1 = .ok (.getfield 15, 3) := by decide +kernel
theorem d_W_aimAt_4 : decode b_W_aimAt 4 = .ok (.ldc2_w 32, 3) := by decide +kernel
theorem d_W_aimAt_7 : decode b_W_aimAt 7 = .ok (.invokestatic 34, 3) := by decide +kernel
theorem d_W_aimAt_10 : decode b_W_aimAt 10 = .ok (.aload_n 0, 1) := by decide +kernel
theorem d_W_aimAt_11 : decode b_W_aimAt 11 = .ok (.getfield 15, 3) := by decide +kernel
theorem d_W_aimAt_14 : decode b_W_aimAt 14 = .ok (.iload_n 1, 1) := by decide +kernel
theorem d_W_aimAt_15 : decode b_W_aimAt 15 = .ok (.lconst 0, 1) := by decide +kernel
theorem d_W_aimAt_16 : decode b_W_aimAt 16 = .ok (.lastore, 1) := by decide +kernel
theorem d_W_aimAt_17 : decode b_W_aimAt 17 = .ok (.iconst 1, 1) := by decide +kernel
theorem d_W_aimAt_18 : decode b_W_aimAt 18 = .ok (.istore_n 3, 1) := by decide +kernel
theorem d_W_aimAt_19 : decode b_W_aimAt 19 = .ok (.iconst 0, 1) := by decide +kernel
theorem d_W_aimAt_20 : decode b_W_aimAt 20 = .ok (.istore 4, 2) := by decide +kernel
theorem d_W_aimAt_22 : decode b_W_aimAt 22 = .ok (.iload 4, 2) := by decide +kernel
theorem d_W_aimAt_24 : decode b_W_aimAt 24 = .ok (.bipush 12, 2) := by decide +kernel
theorem d_W_aimAt_26 : decode b_W_aimAt 26 = .ok (.if_icmp .ge 19, 3) := by decide +kernel
theorem d_W_aimAt_29 : decode b_W_aimAt 29 = .ok (.iload_n 3, 1) := by decide +kernel
theorem d_W_aimAt_30 : decode b_W_aimAt 30 = .ok (.ifCond .eq 15, 3) := by decide +kernel
theorem d_W_aimAt_33 : decode b_W_aimAt 33 = .ok (.aload_n 0, 1) := by decide +kernel
theorem d_W_aimAt_34 : decode b_W_aimAt 34 = .ok (.aload_n 2, 1) := by decide +kernel
theorem d_W_aimAt_35 : decode b_W_aimAt 35 = .ok (.invokevirtual 40, 3) := by decide +kernel
theorem d_W_aimAt_38 : decode b_W_aimAt 38 = .ok (.istore_n 3, 1) := by decide +kernel
theorem d_W_aimAt_39 : decode b_W_aimAt 39 = .ok (.iinc 4 1, 3) := by decide +kernel
theorem d_W_aimAt_42 : decode b_W_aimAt 42 = .ok (.goto (-20), 3) := by decide +kernel
theorem d_W_aimAt_45 : decode b_W_aimAt 45 = .ok (.aload_n 0, 1) := by decide +kernel
theorem d_W_aimAt_46 : decode b_W_aimAt 46 = .ok (.aload_n 2, 1) := by decide +kernel
theorem d_W_aimAt_47 : decode b_W_aimAt 47 = .ok (.invokevirtual 44, 3) := by decide +kernel
theorem d_W_aimAt_50 : decode b_W_aimAt 50 = .ok (.return_, 1) := by decide +kernel
theorem d_W_lowerCosts_0 : decode b_W_lowerCosts 0 = .ok (.iconst 0, 1) := by decide +kernel
theorem d_W_lowerCosts_1 : decode b_W_lowerCosts 1 = .ok (.istore_n 2, 1) := by decide +kernel
theorem d_W_lowerCosts_2 : decode b_W_lowerCosts 2 = .ok (.iconst 0, 1) := by decide +kernel
theorem d_W_lowerCosts_3 : decode b_W_lowerCosts 3 = .ok (.istore_n 3, 1) := by decide +kernel
theorem d_W_lowerCosts_4 : decode b_W_lowerCosts 4 = .ok (.iload_n 3, 1) := by decide +kernel
theorem d_W_lowerCosts_5 : decode b_W_lowerCosts 5 = .ok (.aload_n 1, 1) := by decide +kernel
theorem d_W_lowerCosts_6 : decode b_W_lowerCosts 6 = .ok (.getfield 22, 3) := by decide +kernel
theorem d_W_lowerCosts_9 : decode b_W_lowerCosts 9 = .ok (.if_icmp .ge 49, 3) := by decide +kernel
theorem d_W_lowerCosts_12 : decode b_W_lowerCosts 12 = .ok (.aload_n 0, 1) := by decide +kernel
theorem d_W_lowerCosts_13 : decode b_W_lowerCosts 13 = .ok (.iload_n 3, 1) := by decide +kernel
theorem d_W_lowerCosts_14 : decode b_W_lowerCosts 14 = .ok (.aload_n 1, 1) := by decide +kernel
theorem d_W_lowerCosts_15 : decode b_W_lowerCosts 15 = .ok (.invokevirtual 48, 3) := by decide +kernel
theorem d_W_lowerCosts_18 : decode b_W_lowerCosts 18 = .ok (.lstore 4, 2) := by decide +kernel
theorem d_W_lowerCosts_20 : decode b_W_lowerCosts 20 = .ok (.lload 4, 2) := by decide +kernel
theorem d_W_lowerCosts_22 : decode b_W_lowerCosts 22 = .ok (.aload_n 0, 1) := by decide +kernel
theorem d_W_lowerCosts_23 : decode b_W_lowerCosts 23 = .ok (.getfield 15, 3) := by decide +kernel
theorem d_W_lowerCosts_26 : decode b_W_lowerCosts 26 = .ok (.aload_n 1, 1) := by decide +kernel
theorem d_W_lowerCosts_27 : decode b_W_lowerCosts 27 = .ok (.getfield 52, 3) := by decide +kernel
theorem d_W_lowerCosts_30 : decode b_W_lowerCosts 30 = .ok (.iload_n 3, 1) := by decide +kernel
theorem d_W_lowerCosts_31 : decode b_W_lowerCosts 31 = .ok (.iaload, 1) := by decide +kernel
theorem d_W_lowerCosts_32 : decode b_W_lowerCosts 32 = .ok (.laload, 1) := by decide +kernel
theorem d_W_lowerCosts_33 : decode b_W_lowerCosts 33 = .ok (.lcmp, 1) := by decide +kernel
theorem d_W_lowerCosts_34 : decode b_W_lowerCosts 34 = .ok (.ifCond .ge 18, 3) := by decide +kernel
theorem d_W_lowerCosts_37 : decode b_W_lowerCosts 37 = .ok (.aload_n 0, 1) := by decide +kernel
theorem d_W_lowerCosts_38 : decode b_W_lowerCosts 38 = .ok (.getfield 15, 3) := by decide +kernel
theorem d_W_lowerCosts_41 : decode b_W_lowerCosts 41 = .ok (.aload_n 1, 1) := by decide +kernel
theorem d_W_lowerCosts_42 : decode b_W_lowerCosts 42 = .ok (.getfield 52, 3) := by decide +kernel
theorem d_W_lowerCosts_45 : decode b_W_lowerCosts 45 = .ok (.iload_n 3, 1) := by decide +kernel
theorem d_W_lowerCosts_46 : decode b_W_lowerCosts 46 = .ok (.iaload, 1) := by decide +kernel
theorem d_W_lowerCosts_47 : decode b_W_lowerCosts 47 = .ok (.lload 4, 2) := by decide +kernel
theorem d_W_lowerCosts_49 : decode b_W_lowerCosts 49 = .ok (.lastore, 1) := by decide +kernel
theorem d_W_lowerCosts_50 : decode b_W_lowerCosts 50 = .ok (.iconst 1, 1) := by decide +kernel
theorem d_W_lowerCosts_51 : decode b_W_lowerCosts 51 = .ok (.istore_n 2, 1) := by decide +kernel
theorem d_W_lowerCosts_52 : decode b_W_lowerCosts 52 = .ok (.iinc 3 1, 3) := by decide +kernel
theorem d_W_lowerCosts_55 : decode b_W_lowerCosts 55 = .ok (.goto (-51), 3) := by decide +kernel
theorem d_W_lowerCosts_58 : decode b_W_lowerCosts 58 = .ok (.iload_n 2, 1) := by decide +kernel
theorem d_W_lowerCosts_59 : decode b_W_lowerCosts 59 = .ok (.ireturn, 1) := by decide +kernel
theorem d_W_chooseNexts_0 : decode b_W_chooseNexts 0 = .ok (.aload_n 0, 1) := by decide +kernel
theorem d_W_chooseNexts_1 : decode b_W_chooseNexts 1 = .ok (.getfield 19, 3) := by decide +kernel
theorem d_W_chooseNexts_4 : decode b_W_chooseNexts 4 = .ok (.iconst (-1), 1) := by decide +kernel
theorem d_W_chooseNexts_5 : decode b_W_chooseNexts 5 = .ok (.invokestatic 55, 3) := by decide +kernel
theorem d_W_chooseNexts_8 : decode b_W_chooseNexts 8 = .ok (.iconst 0, 1) := by decide +kernel
theorem d_W_chooseNexts_9 : decode b_W_chooseNexts 9 = .ok (.istore_n 2, 1) := by decide +kernel
theorem d_W_chooseNexts_10 : decode b_W_chooseNexts 10 = .ok (.iload_n 2, 1) := by decide +kernel
theorem d_W_chooseNexts_11 : decode b_W_chooseNexts 11 = .ok (.aload_n 1, 1) := by decide +kernel
theorem d_W_chooseNexts_12 : decode b_W_chooseNexts 12 = .ok (.getfield 22, 3) := by decide +kernel
theorem d_W_chooseNexts_15 : decode b_W_chooseNexts 15 = .ok (.if_icmp .ge 62, 3) := by decide +kernel
theorem d_W_chooseNexts_18 : decode b_W_chooseNexts 18 = .ok (.aload_n 1, 1) := by decide +kernel
theorem d_W_chooseNexts_19 : decode b_W_chooseNexts 19 = .ok (.getfield 52, 3) := by decide +kernel
theorem d_W_chooseNexts_22 : decode b_W_chooseNexts 22 = .ok (.iload_n 2, 1) := by decide +kernel
theorem d_W_chooseNexts_23 : decode b_W_chooseNexts 23 = .ok (.iaload, 1) := by decide +kernel
theorem d_W_chooseNexts_24 : decode b_W_chooseNexts 24 = .ok (.istore_n 3, 1) := by decide +kernel
theorem d_W_chooseNexts_25 : decode b_W_chooseNexts 25 = .ok (.aload_n 0, 1) := by decide +kernel
theorem d_W_chooseNexts_26 : decode b_W_chooseNexts 26 = .ok (.iload_n 2, 1) := by decide +kernel
theorem d_W_chooseNexts_27 : decode b_W_chooseNexts 27 = .ok (.aload_n 1, 1) := by decide +kernel
theorem d_W_chooseNexts_28 : decode b_W_chooseNexts 28 = .ok (.invokevirtual 48, 3) := by decide +kernel
theorem d_W_chooseNexts_31 : decode b_W_chooseNexts 31 = .ok (.lstore 4, 2) := by decide +kernel
theorem d_W_chooseNexts_33 : decode b_W_chooseNexts 33 = .ok (.aload_n 0, 1) := by decide +kernel
theorem d_W_chooseNexts_34 : decode b_W_chooseNexts 34 = .ok (.getfield 19, 3) := by decide +kernel
theorem d_W_chooseNexts_37 : decode b_W_chooseNexts 37 = .ok (.iload_n 3, 1) := by decide +kernel
theorem d_W_chooseNexts_38 : decode b_W_chooseNexts 38 = .ok (.iaload, 1) := by decide +kernel
theorem d_W_chooseNexts_39 : decode b_W_chooseNexts 39 = .ok (.iconst (-1), 1) := by decide +kernel
theorem d_W_chooseNexts_40 : decode b_W_chooseNexts 40 = .ok (.if_icmp .ne 31, 3) := by decide +kernel
theorem d_W_chooseNexts_43 : decode b_W_chooseNexts 43 = .ok (.lload 4, 2) := by decide +kernel
theorem d_W_chooseNexts_45 : decode b_W_chooseNexts 45 = .ok (.ldc2_w 32, 3) := by decide +kernel
theorem d_W_chooseNexts_48 : decode b_W_chooseNexts 48 = .ok (.lcmp, 1) := by decide +kernel
theorem d_W_chooseNexts_49 : decode b_W_chooseNexts 49 = .ok (.ifCond .eq 22, 3) := by decide +kernel
theorem d_W_chooseNexts_52 : decode b_W_chooseNexts 52 = .ok (.lload 4, 2) := by decide +kernel
theorem d_W_chooseNexts_54 : decode b_W_chooseNexts 54 = .ok (.aload_n 0, 1) := by decide +kernel
theorem d_W_chooseNexts_55 : decode b_W_chooseNexts 55 = .ok (.getfield 15, 3) := by decide +kernel
theorem d_W_chooseNexts_58 : decode b_W_chooseNexts 58 = .ok (.iload_n 3, 1) := by decide +kernel
theorem d_W_chooseNexts_59 : decode b_W_chooseNexts 59 = .ok (.laload, 1) := by decide +kernel
theorem d_W_chooseNexts_60 : decode b_W_chooseNexts 60 = .ok (.lcmp, 1) := by decide +kernel
theorem d_W_chooseNexts_61 : decode b_W_chooseNexts 61 = .ok (.ifCond .ne 10, 3) := by decide +kernel
theorem d_W_chooseNexts_64 : decode b_W_chooseNexts 64 = .ok (.aload_n 0, 1) := by decide +kernel
theorem d_W_chooseNexts_65 : decode b_W_chooseNexts 65 = .ok (.getfield 19, 3) := by decide +kernel
theorem d_W_chooseNexts_68 : decode b_W_chooseNexts 68 = .ok (.iload_n 3, 1) := by decide +kernel
theorem d_W_chooseNexts_69 : decode b_W_chooseNexts 69 = .ok (.iload_n 2, 1) := by decide +kernel
theorem d_W_chooseNexts_70 : decode b_W_chooseNexts 70 = .ok (.iastore, 1) := by decide +kernel
theorem d_W_chooseNexts_71 : decode b_W_chooseNexts 71 = .ok (.iinc 2 1, 3) := by decide +kernel
theorem d_W_chooseNexts_74 : decode b_W_chooseNexts 74 = .ok (.goto (-64), 3) := by decide +kernel
theorem d_W_chooseNexts_77 : decode b_W_chooseNexts 77 = .ok (.return_, 1) := by decide +kernel
theorem d_W_costBy_0 : decode b_W_costBy 0 = .ok (.aload_n 0, 1) := by decide +kernel
theorem d_W_costBy_1 : decode b_W_costBy 1 = .ok (.getfield 15, 3) := by decide +kernel
theorem d_W_costBy_4 : decode b_W_costBy 4 = .ok (.aload_n 2, 1) := by decide +kernel
theorem d_W_costBy_5 : decode b_W_costBy 5 = .ok (.getfield 58, 3) := by decide +kernel
theorem d_W_costBy_8 : decode b_W_costBy 8 = .ok (.iload_n 1, 1) := by decide +kernel
theorem d_W_costBy_9 : decode b_W_costBy 9 = .ok (.iaload, 1) := by decide +kernel
theorem d_W_costBy_10 : decode b_W_costBy 10 = .ok (.laload, 1) := by decide +kernel
theorem d_W_costBy_11 : decode b_W_costBy 11 = .ok (.lstore_n 3, 1) := by decide +kernel
theorem d_W_costBy_12 : decode b_W_costBy 12 = .ok (.aload_n 2, 1) := by decide +kernel
theorem d_W_costBy_13 : decode b_W_costBy 13 = .ok (.getfield 61, 3) := by decide +kernel
theorem d_W_costBy_16 : decode b_W_costBy 16 = .ok (.iload_n 1, 1) := by decide +kernel
theorem d_W_costBy_17 : decode b_W_costBy 17 = .ok (.baload, 1) := by decide +kernel
theorem d_W_costBy_18 : decode b_W_costBy 18 = .ok (.ifCond .eq 11, 3) := by decide +kernel
theorem d_W_costBy_21 : decode b_W_costBy 21 = .ok (.lload_n 3, 1) := by decide +kernel
theorem d_W_costBy_22 : decode b_W_costBy 22 = .ok (.ldc2_w 32, 3) := by decide +kernel
theorem d_W_costBy_25 : decode b_W_costBy 25 = .ok (.lcmp, 1) := by decide +kernel
theorem d_W_costBy_26 : decode b_W_costBy 26 = .ok (.ifCond .ne 7, 3) := by decide +kernel
theorem d_W_costBy_29 : decode b_W_costBy 29 = .ok (.ldc2_w 32, 3) := by decide +kernel
theorem d_W_costBy_32 : decode b_W_costBy 32 = .ok (.lreturn, 1) := by decide +kernel
theorem d_W_costBy_33 : decode b_W_costBy 33 = .ok (.lload_n 3, 1) := by decide +kernel
theorem d_W_costBy_34 : decode b_W_costBy 34 = .ok (.aload_n 0, 1) := by decide +kernel
theorem d_W_costBy_35 : decode b_W_costBy 35 = .ok (.getfield 9, 3) := by decide +kernel
theorem d_W_costBy_38 : decode b_W_costBy 38 = .ok (.iload_n 1, 1) := by decide +kernel
theorem d_W_costBy_39 : decode b_W_costBy 39 = .ok (.iaload, 1) := by decide +kernel
theorem d_W_costBy_40 : decode b_W_costBy 40 = .ok (.i2l, 1) := by decide +kernel
theorem d_W_costBy_41 : decode b_W_costBy 41 = .ok (.ldc2_w 65, 3) := by decide +kernel
theorem d_W_costBy_44 : decode b_W_costBy 44 = .ok (.lmul, 1) := by decide +kernel
theorem d_W_costBy_45 : decode b_W_costBy 45 = .ok (.ladd, 1) := by decide +kernel
theorem d_W_costBy_46 : decode b_W_costBy 46 = .ok (.lconst 1, 1) := by decide +kernel
theorem d_W_costBy_47 : decode b_W_costBy 47 = .ok (.ladd, 1) := by decide +kernel
theorem d_W_costBy_48 : decode b_W_costBy 48 = .ok (.lreturn, 1) := by decide +kernel
theorem d_W_timeFrom_0 : decode b_W_timeFrom 0 = .ok (.aload_n 0, 1) := by decide +kernel
theorem d_W_timeFrom_1 : decode b_W_timeFrom 1 = .ok (.getfield 15, 3) := by decide +kernel
theorem d_W_timeFrom_4 : decode b_W_timeFrom 4 = .ok (.iload_n 1, 1) := by decide +kernel
theorem d_W_timeFrom_5 : decode b_W_timeFrom 5 = .ok (.laload, 1) := by decide +kernel
theorem d_W_timeFrom_6 : decode b_W_timeFrom 6 = .ok (.ldc2_w 32, 3) := by decide +kernel
theorem d_W_timeFrom_9 : decode b_W_timeFrom 9 = .ok (.lcmp, 1) := by decide +kernel
theorem d_W_timeFrom_10 : decode b_W_timeFrom 10 = .ok (.ifCond .ne 7, 3) := by decide +kernel
theorem d_W_timeFrom_13 : decode b_W_timeFrom 13 = .ok (.iconst (-1), 1) := by decide +kernel
theorem d_W_timeFrom_14 : decode b_W_timeFrom 14 = .ok (.goto 14, 3) := by decide +kernel
theorem d_W_timeFrom_17 : decode b_W_timeFrom 17 = .ok (.aload_n 0, 1) := by decide +kernel
theorem d_W_timeFrom_18 : decode b_W_timeFrom 18 = .ok (.getfield 15, 3) := by decide +kernel
theorem d_W_timeFrom_21 : decode b_W_timeFrom 21 = .ok (.iload_n 1, 1) := by decide +kernel
theorem d_W_timeFrom_22 : decode b_W_timeFrom 22 = .ok (.laload, 1) := by decide +kernel
theorem d_W_timeFrom_23 : decode b_W_timeFrom 23 = .ok (.ldc2_w 65, 3) := by decide +kernel
theorem d_W_timeFrom_26 : decode b_W_timeFrom 26 = .ok (.ldiv, 1) := by decide +kernel
theorem d_W_timeFrom_27 : decode b_W_timeFrom 27 = .ok (.l2i, 1) := by decide +kernel
theorem d_W_timeFrom_28 : decode b_W_timeFrom 28 = .ok (.ireturn, 1) := by decide +kernel
theorem d_W_streetAt_0 : decode b_W_streetAt 0 = .ok (.aload_n 0, 1) := by decide +kernel
theorem d_W_streetAt_1 : decode b_W_streetAt 1 = .ok (.getfield 19, 3) := by decide +kernel
theorem d_W_streetAt_4 : decode b_W_streetAt 4 = .ok (.iload_n 2, 1) := by decide +kernel
theorem d_W_streetAt_5 : decode b_W_streetAt 5 = .ok (.iaload, 1) := by decide +kernel
theorem d_W_streetAt_6 : decode b_W_streetAt 6 = .ok (.istore 4, 2) := by decide +kernel
theorem d_W_streetAt_8 : decode b_W_streetAt 8 = .ok (.iconst 0, 1) := by decide +kernel
theorem d_W_streetAt_9 : decode b_W_streetAt 9 = .ok (.istore 5, 2) := by decide +kernel
theorem d_W_streetAt_11 : decode b_W_streetAt 11 = .ok (.iload 5, 2) := by decide +kernel
theorem d_W_streetAt_13 : decode b_W_streetAt 13 = .ok (.iload_n 1, 1) := by decide +kernel
theorem d_W_streetAt_14 : decode b_W_streetAt 14 = .ok (.if_icmp .ge 36, 3) := by decide +kernel
theorem d_W_streetAt_17 : decode b_W_streetAt 17 = .ok (.iload 5, 2) := by decide +kernel
theorem d_W_streetAt_19 : decode b_W_streetAt 19 = .ok (.bipush 12, 2) := by decide +kernel
theorem d_W_streetAt_21 : decode b_W_streetAt 21 = .ok (.if_icmp .ge 29, 3) := by decide +kernel
theorem d_W_streetAt_24 : decode b_W_streetAt 24 = .ok (.iload 4, 2) := by decide +kernel
theorem d_W_streetAt_26 : decode b_W_streetAt 26 = .ok (.iconst (-1), 1) := by decide +kernel
theorem d_W_streetAt_27 : decode b_W_streetAt 27 = .ok (.if_icmp .eq 23, 3) := by decide +kernel
theorem d_W_streetAt_30 : decode b_W_streetAt 30 = .ok (.aload_n 0, 1) := by decide +kernel
theorem d_W_streetAt_31 : decode b_W_streetAt 31 = .ok (.getfield 19, 3) := by decide +kernel
theorem d_W_streetAt_34 : decode b_W_streetAt 34 = .ok (.aload_n 3, 1) := by decide +kernel
theorem d_W_streetAt_35 : decode b_W_streetAt 35 = .ok (.getfield 58, 3) := by decide +kernel
theorem d_W_streetAt_38 : decode b_W_streetAt 38 = .ok (.iload 4, 2) := by decide +kernel
theorem d_W_streetAt_40 : decode b_W_streetAt 40 = .ok (.iaload, 1) := by decide +kernel
theorem d_W_streetAt_41 : decode b_W_streetAt 41 = .ok (.iaload, 1) := by decide +kernel
theorem d_W_streetAt_42 : decode b_W_streetAt 42 = .ok (.istore 4, 2) := by decide +kernel
theorem d_W_streetAt_44 : decode b_W_streetAt 44 = .ok (.iinc 5 1, 3) := by decide +kernel
theorem d_W_streetAt_47 : decode b_W_streetAt 47 = .ok (.goto (-36), 3) := by decide +kernel
theorem d_W_streetAt_50 : decode b_W_streetAt 50 = .ok (.iload 4, 2) := by decide +kernel
theorem d_W_streetAt_52 : decode b_W_streetAt 52 = .ok (.ireturn, 1) := by decide +kernel
theorem d_A_init_0 : decode b_A_init 0 = .ok (.aload_n 0, 1) := by decide +kernel
theorem d_A_init_1 : decode b_A_init 1 = .ok (.invokespecial 3, 3) := by decide +kernel
theorem d_A_init_4 : decode b_A_init 4 = .ok (.aload_n 0, 1) := by decide +kernel
theorem d_A_init_5 : decode b_A_init 5 = .ok (.iconst 0, 1) := by decide +kernel
theorem d_A_init_6 : decode b_A_init 6 = .ok (.putfield 9, 3) := by decide +kernel
theorem d_A_init_9 : decode b_A_init 9 = .ok (.aload_n 0, 1) := by decide +kernel
theorem d_A_init_10 : decode b_A_init 10 = .ok (.iconst 0, 1) := by decide +kernel
theorem d_A_init_11 : decode b_A_init 11 = .ok (.putfield 15, 3) := by decide +kernel
theorem d_A_init_14 : decode b_A_init 14 = .ok (.aload_n 0, 1) := by decide +kernel
theorem d_A_init_15 : decode b_A_init 15 = .ok (.bipush 36, 2) := by decide +kernel
theorem d_A_init_17 : decode b_A_init 17 = .ok (.newarray .int, 2) := by decide +kernel
theorem d_A_init_19 : decode b_A_init 19 = .ok (.putfield 18, 3) := by decide +kernel
theorem d_A_init_22 : decode b_A_init 22 = .ok (.aload_n 0, 1) := by decide +kernel
theorem d_A_init_23 : decode b_A_init 23 = .ok (.bipush 36, 2) := by decide +kernel
theorem d_A_init_25 : decode b_A_init 25 = .ok (.newarray .int, 2) := by decide +kernel
theorem d_A_init_27 : decode b_A_init 27 = .ok (.putfield 22, 3) := by decide +kernel
theorem d_A_init_30 : decode b_A_init 30 = .ok (.aload_n 0, 1) := by decide +kernel
theorem d_A_init_31 : decode b_A_init 31 = .ok (.sipush 1440, 3) := by decide +kernel
theorem d_A_init_34 : decode b_A_init 34 = .ok (.newarray .int, 2) := by decide +kernel
theorem d_A_init_36 : decode b_A_init 36 = .ok (.putfield 25, 3) := by decide +kernel
theorem d_A_init_39 : decode b_A_init 39 = .ok (.return_, 1) := by decide +kernel
theorem d_A_placeOf_0 : decode b_A_placeOf 0 = .ok (.iload_n 0, 1) := by decide +kernel
theorem d_A_placeOf_1 : decode b_A_placeOf 1 = .ok (.bipush 36, 2) := by decide +kernel
theorem d_A_placeOf_3 : decode b_A_placeOf 3 = .ok (.imul, 1) := by decide +kernel
theorem d_A_placeOf_4 : decode b_A_placeOf 4 = .ok (.iload_n 1, 1) := by decide +kernel
theorem d_A_placeOf_5 : decode b_A_placeOf 5 = .ok (.iadd, 1) := by decide +kernel
theorem d_A_placeOf_6 : decode b_A_placeOf 6 = .ok (.ireturn, 1) := by decide +kernel
theorem d_A_begin_0 : decode b_A_begin 0 = .ok (.aload_n 0, 1) := by decide +kernel
theorem d_A_begin_1 : decode b_A_begin 1 = .ok (.iload_n 1, 1) := by decide +kernel
theorem d_A_begin_2 : decode b_A_begin 2 = .ok (.putfield 9, 3) := by decide +kernel
theorem d_A_begin_5 : decode b_A_begin 5 = .ok (.aload_n 0, 1) := by decide +kernel
theorem d_A_begin_6 : decode b_A_begin 6 = .ok (.iconst 0, 1) := by decide +kernel
theorem d_A_begin_7 : decode b_A_begin 7 = .ok (.putfield 15, 3) := by decide +kernel
theorem d_A_begin_10 : decode b_A_begin 10 = .ok (.aload_n 0, 1) := by decide +kernel
theorem d_A_begin_11 : decode b_A_begin 11 = .ok (.getfield 22, 3) := by decide +kernel
theorem d_A_begin_14 : decode b_A_begin 14 = .ok (.iconst 0, 1) := by decide +kernel
theorem d_A_begin_15 : decode b_A_begin 15 = .ok (.invokestatic 28, 3) := by decide +kernel
theorem d_A_begin_18 : decode b_A_begin 18 = .ok (.aload_n 0, 1) := by decide +kernel
theorem d_A_begin_19 : decode b_A_begin 19 = .ok (.getfield 25, 3) := by decide +kernel
theorem d_A_begin_22 : decode b_A_begin 22 = .ok (.iconst 0, 1) := by decide +kernel
theorem d_A_begin_23 : decode b_A_begin 23 = .ok (.invokestatic 28, 3) := by decide +kernel
theorem d_A_begin_26 : decode b_A_begin 26 = .ok (.return_, 1) := by decide +kernel
theorem d_A_tripsOfPart_0 : decode b_A_tripsOfPart 0 = .ok (.aload_n 0, 1) := by decide +kernel
theorem d_A_tripsOfPart_1 : decode b_A_tripsOfPart 1 = .ok (.getfield 9, 3) := by decide +kernel
theorem d_A_tripsOfPart_4 : decode b_A_tripsOfPart 4 = .ok (.ifCond .ne 5, 3) := by decide +kernel
theorem d_A_tripsOfPart_7 : decode b_A_tripsOfPart 7 = .ok (.iconst 0, 1) := by decide +kernel
theorem d_A_tripsOfPart_8 : decode b_A_tripsOfPart 8 = .ok (.ireturn, 1) := by decide +kernel
theorem d_A_tripsOfPart_9 : decode b_A_tripsOfPart 9 = .ok (.aload_n 0, 1) := by decide +kernel
theorem d_A_tripsOfPart_10 : decode b_A_tripsOfPart 10 = .ok (.getfield 18, 3) := by decide +kernel
theorem d_A_tripsOfPart_13 : decode b_A_tripsOfPart 13 = .ok (.iload_n 1, 1) := by decide +kernel
theorem d_A_tripsOfPart_14 : decode b_A_tripsOfPart 14 = .ok (.iaload, 1) := by decide +kernel
theorem d_A_tripsOfPart_15 : decode b_A_tripsOfPart 15 = .ok (.i2l, 1) := by decide +kernel
theorem d_A_tripsOfPart_16 : decode b_A_tripsOfPart 16 = .ok (.lstore_n 3, 1) := by decide +kernel
theorem d_A_tripsOfPart_17 : decode b_A_tripsOfPart 17 = .ok (.lload_n 3, 1) := by decide +kernel
theorem d_A_tripsOfPart_18 : decode b_A_tripsOfPart 18 = .ok (.iload_n 2, 1) := by decide +kernel
theorem d_A_tripsOfPart_19 : decode b_A_tripsOfPart 19 = .ok (.iconst 1, 1) := by decide +kernel
theorem d_A_tripsOfPart_20 : decode b_A_tripsOfPart 20 = .ok (.iadd, 1) := by decide +kernel
theorem d_A_tripsOfPart_21 : decode b_A_tripsOfPart 21 = .ok (.i2l, 1) := by decide +kernel
theorem d_A_tripsOfPart_22 : decode b_A_tripsOfPart 22 = .ok (.lmul, 1) := by decide +kernel
theorem d_A_tripsOfPart_23 : decode b_A_tripsOfPart 23 = .ok (.aload_n 0, 1) := by decide +kernel
theorem d_A_tripsOfPart_24 : decode b_A_tripsOfPart 24 = .ok (.getfield 9, 3) := by decide +kernel
theorem d_A_tripsOfPart_27 : decode b_A_tripsOfPart 27 = .ok (.i2l, 1) := by decide +kernel
theorem d_A_tripsOfPart_28 : decode b_A_tripsOfPart 28 = .ok (.ldiv, 1) := by decide +kernel
theorem d_A_tripsOfPart_29 : decode b_A_tripsOfPart 29 = .ok (.lload_n 3, 1) := by decide +kernel
theorem d_A_tripsOfPart_30 : decode b_A_tripsOfPart 30 = .ok (.iload_n 2, 1) := by decide +kernel
theorem d_A_tripsOfPart_31 : decode b_A_tripsOfPart 31 = .ok (.i2l, 1) := by decide +kernel
theorem d_A_tripsOfPart_32 : decode b_A_tripsOfPart 32 = .ok (.lmul, 1) := by decide +kernel
theorem d_A_tripsOfPart_33 : decode b_A_tripsOfPart 33 = .ok (.aload_n 0, 1) := by decide +kernel
theorem d_A_tripsOfPart_34 : decode b_A_tripsOfPart 34 = .ok (.getfield 9, 3) := by decide +kernel
theorem d_A_tripsOfPart_37 : decode b_A_tripsOfPart 37 = .ok (.i2l, 1) := by decide +kernel
theorem d_A_tripsOfPart_38 : decode b_A_tripsOfPart 38 = .ok (.ldiv, 1) := by decide +kernel
theorem d_A_tripsOfPart_39 : decode b_A_tripsOfPart 39 = .ok (.lsub, 1) := by decide +kernel
theorem d_A_tripsOfPart_40 : decode b_A_tripsOfPart 40 = .ok (.l2i, 1) := by decide +kernel
theorem d_A_tripsOfPart_41 : decode b_A_tripsOfPart 41 = .ok (.ireturn, 1) := by decide +kernel
theorem d_A_send_0 : decode b_A_send 0 = .ok (.aload 4, 2) := by decide +kernel
theorem d_A_send_2 : decode b_A_send 2 = .ok (.iload_n 3, 1) := by decide +kernel
theorem d_A_send_3 : decode b_A_send 3 = .ok (.invokevirtual 34, 3) := by decide +kernel
theorem d_A_send_6 : decode b_A_send 6 = .ok (.iconst (-1), 1) := by decide +kernel
theorem d_A_send_7 : decode b_A_send 7 = .ok (.if_icmp .ne 14, 3) := by decide +kernel
theorem d_A_send_10 : decode b_A_send 10 = .ok (.aload_n 0, 1) := by decide +kernel
theorem d_A_send_11 : decode b_A_send 11 = .ok (.dup, 1) := by decide +kernel
theorem d_A_send_12 : decode b_A_send 12 = .ok (.getfield 15, 3) := by decide +kernel
theorem d_A_send_15 : decode b_A_send 15 = .ok (.iload_n 2, 1) := by decide +kernel
theorem d_A_send_16 : decode b_A_send 16 = .ok (.iadd, 1) := by decide +kernel
theorem d_A_send_17 : decode b_A_send 17 = .ok (.putfield 15, 3) := by decide +kernel
theorem d_A_send_20 : decode b_A_send 20 = .ok (.return_, 1) := by decide +kernel
theorem d_A_send_21 : decode b_A_send 21 = .ok (.aload_n 0, 1) := by decide +kernel
theorem d_A_send_22 : decode b_A_send 22 = .ok (.getfield 22, 3) := by decide +kernel
theorem d_A_send_25 : decode b_A_send 25 = .ok (.iload_n 1, 1) := by decide +kernel
theorem d_A_send_26 : decode b_A_send 26 = .ok (.dup2, 1) := by decide +kernel
theorem d_A_send_27 : decode b_A_send 27 = .ok (.iaload, 1) := by decide +kernel
theorem d_A_send_28 : decode b_A_send 28 = .ok (.iload_n 2, 1) := by decide +kernel
theorem d_A_send_29 : decode b_A_send 29 = .ok (.iadd, 1) := by decide +kernel
theorem d_A_send_30 : decode b_A_send 30 = .ok (.iastore, 1) := by decide +kernel
theorem d_A_send_31 : decode b_A_send 31 = .ok (.aload 4, 2) := by decide +kernel
theorem d_A_send_33 : decode b_A_send 33 = .ok (.getfield 40, 3) := by decide +kernel
theorem d_A_send_36 : decode b_A_send 36 = .ok (.iload_n 3, 1) := by decide +kernel
theorem d_A_send_37 : decode b_A_send 37 = .ok (.iaload, 1) := by decide +kernel
theorem d_A_send_38 : decode b_A_send 38 = .ok (.istore 6, 2) := by decide +kernel
theorem d_A_send_40 : decode b_A_send 40 = .ok (.iconst 0, 1) := by decide +kernel
theorem d_A_send_41 : decode b_A_send 41 = .ok (.istore 7, 2) := by decide +kernel
theorem d_A_send_43 : decode b_A_send 43 = .ok (.iload 7, 2) := by decide +kernel
theorem d_A_send_45 : decode b_A_send 45 = .ok (.bipush 12, 2) := by decide +kernel
theorem d_A_send_47 : decode b_A_send 47 = .ok (.if_icmp .ge 58, 3) := by decide +kernel
theorem d_A_send_50 : decode b_A_send 50 = .ok (.iload 6, 2) := by decide +kernel
theorem d_A_send_52 : decode b_A_send 52 = .ok (.iconst (-1), 1) := by decide +kernel
theorem d_A_send_53 : decode b_A_send 53 = .ok (.if_icmp .eq 52, 3) := by decide +kernel
theorem d_A_send_56 : decode b_A_send 56 = .ok (.aload 5, 2) := by decide +kernel
theorem d_A_send_58 : decode b_A_send 58 = .ok (.getfield 43, 3) := by decide +kernel
theorem d_A_send_61 : decode b_A_send 61 = .ok (.iload 6, 2) := by decide +kernel
theorem d_A_send_63 : decode b_A_send 63 = .ok (.dup2, 1) := by decide +kernel
theorem d_A_send_64 : decode b_A_send 64 = .ok (.iaload, 1) := by decide +kernel
theorem d_A_send_65 : decode b_A_send 65 = .ok (.iload_n 2, 1) := by decide +kernel
theorem d_A_send_66 : decode b_A_send 66 = .ok (.iadd, 1) := by decide +kernel
theorem d_A_send_67 : decode b_A_send 67 = .ok (.iastore, 1) := by decide +kernel
theorem d_A_send_68 : decode b_A_send 68 = .ok (.aload_n 0, 1) := by decide +kernel
theorem d_A_send_69 : decode b_A_send 69 = .ok (.getfield 25, 3) := by decide +kernel
theorem d_A_send_72 : decode b_A_send 72 = .ok (.iload 6, 2) := by decide +kernel
theorem d_A_send_74 : decode b_A_send 74 = .ok (.iload_n 1, 1) := by decide +kernel
theorem d_A_send_75 : decode b_A_send 75 = .ok (.invokestatic 48, 3) := by decide +kernel
theorem d_A_send_78 : decode b_A_send 78 = .ok (.dup2, 1) := by decide +kernel
theorem d_A_send_79 : decode b_A_send 79 = .ok (.iaload, 1) := by decide +kernel
theorem d_A_send_80 : decode b_A_send 80 = .ok (.iload_n 2, 1) := by decide +kernel
theorem d_A_send_81 : decode b_A_send 81 = .ok (.iadd, 1) := by decide +kernel
theorem d_A_send_82 : decode b_A_send 82 = .ok (.iastore, 1) := by decide +kernel
theorem d_A_send_83 : decode b_A_send 83 = .ok (.aload 4, 2) := by decide +kernel
theorem d_A_send_85 : decode b_A_send 85 = .ok (.getfield 40, 3) := by decide +kernel
theorem d_A_send_88 : decode b_A_send 88 = .ok (.aload 5, 2) := by decide +kernel
theorem d_A_send_90 : decode b_A_send 90 = .ok (.getfield 52, 3) := by decide +kernel
theorem d_A_send_93 : decode b_A_send 93 = .ok (.iload 6, 2) := by decide +kernel
theorem d_A_send_95 : decode b_A_send 95 = .ok (.iaload, 1) := by decide +kernel
theorem d_A_send_96 : decode b_A_send 96 = .ok (.iaload, 1) := by decide +kernel
theorem d_A_send_97 : decode b_A_send 97 = .ok (.istore 6, 2) := by decide +kernel
theorem d_A_send_99 : decode b_A_send 99 = .ok (.iinc 7 1, 3) := by decide +kernel
theorem d_A_send_102 : decode b_A_send 102 = .ok (.goto (-59), 3) := by decide +kernel
theorem d_A_send_105 : decode b_A_send 105 = .ok (.return_, 1) := by decide +kernel
theorem d_H_init_0 : decode b_H_init 0 = .ok (.aload_n 0, 1) := by decide +kernel
theorem d_H_init_1 : decode b_H_init 1 = .ok (.invokespecial 1, 3) := by decide +kernel
theorem d_H_init_4 : decode b_H_init 4 = .ok (.aload_n 0, 1) := by decide +kernel
theorem d_H_init_5 : decode b_H_init 5 = .ok (.iload_n 1, 1) := by decide +kernel
theorem d_H_init_6 : decode b_H_init 6 = .ok (.newarray .long, 2) := by decide +kernel
theorem d_H_init_8 : decode b_H_init 8 = .ok (.putfield 7, 3) := by decide +kernel
theorem d_H_init_11 : decode b_H_init 11 = .ok (.aload_n 0, 1) := by decide +kernel
theorem d_H_init_12 : decode b_H_init 12 = .ok (.iload_n 1, 1) := by decide +kernel
theorem d_H_init_13 : decode b_H_init 13 = .ok (.newarray .long, 2) := by decide +kernel
theorem d_H_init_15 : decode b_H_init 15 = .ok (.putfield 13, 3) := by decide +kernel
theorem d_H_init_18 : decode b_H_init 18 = .ok (.aload_n 0, 1) := by decide +kernel
theorem d_H_init_19 : decode b_H_init 19 = .ok (.iload_n 1, 1) := by decide +kernel
theorem d_H_init_20 : decode b_H_init 20 = .ok (.newarray .int, 2) := by decide +kernel
theorem d_H_init_22 : decode b_H_init 22 = .ok (.putfield 16, 3) := by decide +kernel
theorem d_H_init_25 : decode b_H_init 25 = .ok (.return_, 1) := by decide +kernel
theorem d_H_shareOut_0 : decode b_H_shareOut 0 = .ok (.lconst 0, 1) := by decide +kernel
theorem d_H_shareOut_1 : decode b_H_shareOut 1 = .ok (.lstore_n 3, 1) := by decide +kernel
theorem d_H_shareOut_2 : decode b_H_shareOut 2 = .ok (.iconst 0, 1) := by decide +kernel
theorem d_H_shareOut_3 : decode b_H_shareOut 3 = .ok (.istore 5, 2) := by decide +kernel
theorem d_H_shareOut_5 : decode b_H_shareOut 5 = .ok (.iload 5, 2) := by decide +kernel
theorem d_H_shareOut_7 : decode b_H_shareOut 7 = .ok (.iload_n 2, 1) := by decide +kernel
theorem d_H_shareOut_8 : decode b_H_shareOut 8 = .ok (.if_icmp .ge 19, 3) := by decide +kernel
theorem d_H_shareOut_11 : decode b_H_shareOut 11 = .ok (.lload_n 3, 1) := by decide +kernel
theorem d_H_shareOut_12 : decode b_H_shareOut 12 = .ok (.aload_n 0, 1) := by decide +kernel
theorem d_H_shareOut_13 : decode b_H_shareOut 13 = .ok (.getfield 7, 3) := by decide +kernel
theorem d_H_shareOut_16 : decode b_H_shareOut 16 = .ok (.iload 5, 2) := by decide +kernel
theorem d_H_shareOut_18 : decode b_H_shareOut 18 = .ok (.laload, 1) := by decide +kernel
theorem d_H_shareOut_19 : decode b_H_shareOut 19 = .ok (.ladd, 1) := by decide +kernel
theorem d_H_shareOut_20 : decode b_H_shareOut 20 = .ok (.lstore_n 3, 1) := by decide +kernel
theorem d_H_shareOut_21 : decode b_H_shareOut 21 = .ok (.iinc 5 1, 3) := by decide +kernel
theorem d_H_shareOut_24 : decode b_H_shareOut 24 = .ok (.goto (-19), 3) := by decide +kernel
theorem d_H_shareOut_27 : decode b_H_shareOut 27 = .ok (.lload_n 3, 1) := by decide +kernel
theorem d_H_shareOut_28 : decode b_H_shareOut 28 = .ok (.lconst 0, 1) := by decide +kernel
theorem d_H_shareOut_29 : decode b_H_shareOut 29 = .ok (.lcmp, 1) := by decide +kernel
theorem d_H_shareOut_30 : decode b_H_shareOut 30 = .ok (.ifCond .ne 12, 3) := by decide +kernel
theorem d_H_shareOut_33 : decode b_H_shareOut 33 = .ok (.aload_n 0, 1) := by decide +kernel
theorem d_H_shareOut_34 : decode b_H_shareOut 34 = .ok (.getfield 16, 3) := by decide +kernel
theorem d_H_shareOut_37 : decode b_H_shareOut 37 = .ok (.iconst 0, 1) := by decide +kernel
theorem d_H_shareOut_38 : decode b_H_shareOut 38 = .ok (.invokestatic 20, 3) := by decide +kernel
theorem d_H_shareOut_41 : decode b_H_shareOut 41 = .ok (.return_, 1) := by decide +kernel
theorem d_H_shareOut_42 : decode b_H_shareOut 42 = .ok (.iload_n 1, 1) := by decide +kernel
theorem d_H_shareOut_43 : decode b_H_shareOut 43 = .ok (.istore 5, 2) := by decide +kernel
theorem d_H_shareOut_45 : decode b_H_shareOut 45 = .ok (.iconst 0, 1) := by decide +kernel
theorem d_H_shareOut_46 : decode b_H_shareOut 46 = .ok (.istore 6, 2) := by decide +kernel
theorem d_H_shareOut_48 : decode b_H_shareOut 48 = .ok (.iload 6, 2) := by decide +kernel
theorem d_H_shareOut_50 : decode b_H_shareOut 50 = .ok (.iload_n 2, 1) := by decide +kernel
theorem d_H_shareOut_51 : decode b_H_shareOut 51 = .ok (.if_icmp .ge 56, 3) := by decide +kernel
theorem d_H_shareOut_54 : decode b_H_shareOut 54 = .ok (.iload_n 1, 1) := by decide +kernel
theorem d_H_shareOut_55 : decode b_H_shareOut 55 = .ok (.i2l, 1) := by decide +kernel
theorem d_H_shareOut_56 : decode b_H_shareOut 56 = .ok (.aload_n 0, 1) := by decide +kernel
theorem d_H_shareOut_57 : decode b_H_shareOut 57 = .ok (.getfield 7, 3) := by decide +kernel
theorem d_H_shareOut_60 : decode b_H_shareOut 60 = .ok (.iload 6, 2) := by decide +kernel
theorem d_H_shareOut_62 : decode b_H_shareOut 62 = .ok (.laload, 1) := by decide +kernel
theorem d_H_shareOut_63 : decode b_H_shareOut 63 = .ok (.lmul, 1) := by decide +kernel
theorem d_H_shareOut_64 : decode b_H_shareOut 64 = .ok (.lstore 7, 2) := by decide +kernel
theorem d_H_shareOut_66 : decode b_H_shareOut 66 = .ok (.aload_n 0, 1) := by decide +kernel
theorem d_H_shareOut_67 : decode b_H_shareOut 67 = .ok (.getfield 16, 3) := by decide +kernel
theorem d_H_shareOut_70 : decode b_H_shareOut 70 = .ok (.iload 6, 2) := by decide +kernel
theorem d_H_shareOut_72 : decode b_H_shareOut 72 = .ok (.lload 7, 2) := by decide +kernel
theorem d_H_shareOut_74 : decode b_H_shareOut 74 = .ok (.lload_n 3, 1) := by decide +kernel
theorem d_H_shareOut_75 : decode b_H_shareOut 75 = .ok (.ldiv, 1) := by decide +kernel
theorem d_H_shareOut_76 : decode b_H_shareOut 76 = .ok (.l2i, 1) := by decide +kernel
theorem d_H_shareOut_77 : decode b_H_shareOut 77 = .ok (.iastore, 1) := by decide +kernel
theorem d_H_shareOut_78 : decode b_H_shareOut 78 = .ok (.aload_n 0, 1) := by decide +kernel
theorem d_H_shareOut_79 : decode b_H_shareOut 79 = .ok (.getfield 13, 3) := by decide +kernel
theorem d_H_shareOut_82 : decode b_H_shareOut 82 = .ok (.iload 6, 2) := by decide +kernel
theorem d_H_shareOut_84 : decode b_H_shareOut 84 = .ok (.lload 7, 2) := by decide +kernel
theorem d_H_shareOut_86 : decode b_H_shareOut 86 = .ok (.lload_n 3, 1) := by decide +kernel
theorem d_H_shareOut_87 : decode b_H_shareOut 87 = .ok (.lrem, 1) := by decide +kernel
theorem d_H_shareOut_88 : decode b_H_shareOut 88 = .ok (.lastore, 1) := by decide +kernel
theorem d_H_shareOut_89 : decode b_H_shareOut 89 = .ok (.iload 5, 2) := by decide +kernel
theorem d_H_shareOut_91 : decode b_H_shareOut 91 = .ok (.aload_n 0, 1) := by decide +kernel
theorem d_H_shareOut_92 : decode b_H_shareOut 92 = .ok (.getfield 16, 3) := by decide +kernel
theorem d_H_shareOut_95 : decode b_H_shareOut 95 = .ok (.iload 6, 2) := by decide +kernel
theorem d_H_shareOut_97 : decode b_H_shareOut 97 = .ok (.iaload, 1) := by decide +kernel
theorem d_H_shareOut_98 : decode b_H_shareOut 98 = .ok (.isub, 1) := by decide +kernel
theorem d_H_shareOut_99 : decode b_H_shareOut 99 = .ok (.istore 5, 2) := by decide +kernel
theorem d_H_shareOut_101 : decode b_H_shareOut 101 = .ok (.iinc 6 1, 3) := by decide +kernel
theorem d_H_shareOut_104 : decode b_H_shareOut 104 = .ok (.goto (-56), 3) := by decide +kernel
theorem d_H_shareOut_107 : decode b_H_shareOut 107 = .ok (.iconst 0, 1) := by decide +kernel
theorem d_H_shareOut_108 : decode b_H_shareOut 108 = .ok (.istore 6, 2) := by decide +kernel
theorem d_H_shareOut_110 : decode b_H_shareOut 110 = .ok (.iload 6, 2) := by decide +kernel
theorem d_H_shareOut_112 : decode b_H_shareOut 112 = .ok (.iload 5, 2) := by decide +kernel
theorem d_H_shareOut_114 : decode b_H_shareOut 114 = .ok (.if_icmp .ge 14, 3) := by decide +kernel
theorem d_H_shareOut_117 : decode b_H_shareOut 117 = .ok (.aload_n 0, 1) := by decide +kernel
theorem d_H_shareOut_118 : decode b_H_shareOut 118 = .ok (.iload_n 2, 1) := by decide +kernel
theorem d_H_shareOut_119 : decode b_H_shareOut 119 = .ok (.invokevirtual 26, 3) := by decide +kernel
theorem d_H_shareOut_122 : decode b_H_shareOut 122 = .ok (.iinc 6 1, 3) := by decide +kernel
theorem d_H_shareOut_125 : decode b_H_shareOut 125 = .ok (.goto (-15), 3) := by decide +kernel
theorem d_H_shareOut_128 : decode b_H_shareOut 128 = .ok (.return_, 1) := by decide +kernel
theorem d_H_giveOne_0 : decode b_H_giveOne 0 = .ok (.iconst 0, 1) := by decide +kernel
theorem d_H_giveOne_1 : decode b_H_giveOne 1 = .ok (.istore_n 2, 1) := by decide +kernel
theorem d_H_giveOne_2 : decode b_H_giveOne 2 = .ok (.iconst 1, 1) := by decide +kernel
theorem d_H_giveOne_3 : decode b_H_giveOne 3 = .ok (.istore_n 3, 1) := by decide +kernel
theorem d_H_giveOne_4 : decode b_H_giveOne 4 = .ok (.iload_n 3, 1) := by decide +kernel
theorem d_H_giveOne_5 : decode b_H_giveOne 5 = .ok (.iload_n 1, 1) := by decide +kernel
theorem d_H_giveOne_6 : decode b_H_giveOne 6 = .ok (.if_icmp .ge 27, 3) := by decide +kernel
theorem d_H_giveOne_9 : decode b_H_giveOne 9 = .ok (.aload_n 0, 1) := by decide +kernel
theorem d_H_giveOne_10 : decode b_H_giveOne 10 = .ok (.getfield 13, 3) := by decide +kernel
theorem d_H_giveOne_13 : decode b_H_giveOne 13 = .ok (.iload_n 3, 1) := by decide +kernel
theorem d_H_giveOne_14 : decode b_H_giveOne 14 = .ok (.laload, 1) := by decide +kernel
theorem d_H_giveOne_15 : decode b_H_giveOne 15 = .ok (.aload_n 0, 1) := by decide +kernel
theorem d_H_giveOne_16 : decode b_H_giveOne 16 = .ok (.getfield 13, 3) := by decide +kernel
theorem d_H_giveOne_19 : decode b_H_giveOne 19 = .ok (.iload_n 2, 1) := by decide +kernel
theorem d_H_giveOne_20 : decode b_H_giveOne 20 = .ok (.laload, 1) := by decide +kernel
theorem d_H_giveOne_21 : decode b_H_giveOne 21 = .ok (.lcmp, 1) := by decide +kernel
theorem d_H_giveOne_22 : decode b_H_giveOne 22 = .ok (.ifCond .le 5, 3) := by decide +kernel
theorem d_H_giveOne_25 : decode b_H_giveOne 25 = .ok (.iload_n 3, 1) := by decide +kernel
theorem d_H_giveOne_26 : decode b_H_giveOne 26 = .ok (.istore_n 2, 1) := by decide +kernel
theorem d_H_giveOne_27 : decode b_H_giveOne 27 = .ok (.iinc 3 1, 3) := by decide +kernel
theorem d_H_giveOne_30 : decode b_H_giveOne 30 = .ok (.goto (-26), 3) := by decide +kernel
theorem d_H_giveOne_33 : decode b_H_giveOne 33 = .ok (.aload_n 0, 1) := by decide +kernel
theorem d_H_giveOne_34 : decode b_H_giveOne 34 = .ok (.getfield 16, 3) := by decide +kernel
theorem d_H_giveOne_37 : decode b_H_giveOne 37 = .ok (.iload_n 2, 1) := by decide +kernel
theorem d_H_giveOne_38 : decode b_H_giveOne 38 = .ok (.dup2, 1) := by decide +kernel
theorem d_H_giveOne_39 : decode b_H_giveOne 39 = .ok (.iaload, 1) := by decide +kernel
theorem d_H_giveOne_40 : decode b_H_giveOne 40 = .ok (.iconst 1, 1) := by decide +kernel
theorem d_H_giveOne_41 : decode b_H_giveOne 41 = .ok (.iadd, 1) := by decide +kernel
theorem d_H_giveOne_42 : decode b_H_giveOne 42 = .ok (.iastore, 1) := by decide +kernel
theorem d_H_giveOne_43 : decode b_H_giveOne 43 = .ok (.aload_n 0, 1) := by decide +kernel
theorem d_H_giveOne_44 : decode b_H_giveOne 44 = .ok (.getfield 13, 3) := by decide +kernel
theorem d_H_giveOne_47 : decode b_H_giveOne 47 = .ok (.iload_n 2, 1) := by decide +kernel
theorem d_H_giveOne_48 : decode b_H_giveOne 48 = .ok (.ldc2_w 30, 3) := by decide +kernel
theorem d_H_giveOne_51 : decode b_H_giveOne 51 = .ok (.lastore, 1) := by decide +kernel
theorem d_H_giveOne_52 : decode b_H_giveOne 52 = .ok (.return_, 1) := by decide +kernel
