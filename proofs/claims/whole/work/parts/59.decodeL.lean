theorem d_L_node_0 : decode b_L_node 0 = .ok (.aload_n 1, 1) := by decide +kernel
theorem d_L_node_1 : decode b_L_node 1 = .ok (.iconst 0, 1) := by decide +kernel
theorem d_L_node_2 : decode b_L_node 2 = .ok (.aload_n 0, 1) := by decide +kernel
theorem d_L_node_3 : decode b_L_node 3 = .ok (.invokevirtual 7, 3) := by decide +kernel
theorem d_L_node_6 : decode b_L_node 6 = .ok (.i2l, 1) := by decide +kernel
theorem d_L_node_7 : decode b_L_node 7 = .ok (.lastore, 1) := by decide +kernel
theorem d_L_node_8 : decode b_L_node 8 = .ok (.goto 6, 3) := by decide +kernel
theorem d_L_node_11 : decode b_L_node 11 = .ok (.astore_n 2, 1) := by decide +kernel
theorem d_L_node_12 : decode b_L_node 12 = .ok (.iconst 1, 1) := by decide +kernel
theorem d_L_node_13 : decode b_L_node 13 = .ok (.ireturn, 1) := by decide +kernel
theorem d_L_node_14 : decode b_L_node 14 = .ok (.iconst 0, 1) := by decide +kernel
theorem d_L_node_15 : decode b_L_node 15 = .ok (.ireturn, 1) := by decide +kernel
theorem d_L_zone_0 : decode b_L_zone 0 = .ok (.aload 4, 2) := by decide +kernel
theorem d_L_zone_2 : decode b_L_zone 2 = .ok (.iconst 0, 1) := by decide +kernel
theorem d_L_zone_3 : decode b_L_zone 3 = .ok (.aload_n 0, 1) := by decide +kernel
theorem d_L_zone_4 : decode b_L_zone 4 = .ok (.iload_n 1, 1) := by decide +kernel
theorem d_L_zone_5 : decode b_L_zone 5 = .ok (.iload_n 2, 1) := by decide +kernel
theorem d_L_zone_6 : decode b_L_zone 6 = .ok (.iload_n 3, 1) := by decide +kernel
theorem d_L_zone_7 : decode b_L_zone 7 = .ok (.invokevirtual 15, 3) := by decide +kernel
theorem d_L_zone_10 : decode b_L_zone 10 = .ok (.i2l, 1) := by decide +kernel
theorem d_L_zone_11 : decode b_L_zone 11 = .ok (.lastore, 1) := by decide +kernel
theorem d_L_zone_12 : decode b_L_zone 12 = .ok (.goto 11, 3) := by decide +kernel
theorem d_L_zone_15 : decode b_L_zone 15 = .ok (.astore 5, 2) := by decide +kernel
theorem d_L_zone_17 : decode b_L_zone 17 = .ok (.iconst 1, 1) := by decide +kernel
theorem d_L_zone_18 : decode b_L_zone 18 = .ok (.ireturn, 1) := by decide +kernel
theorem d_L_zone_19 : decode b_L_zone 19 = .ok (.astore 5, 2) := by decide +kernel
theorem d_L_zone_21 : decode b_L_zone 21 = .ok (.iconst 2, 1) := by decide +kernel
theorem d_L_zone_22 : decode b_L_zone 22 = .ok (.ireturn, 1) := by decide +kernel
theorem d_L_zone_23 : decode b_L_zone 23 = .ok (.iconst 0, 1) := by decide +kernel
theorem d_L_zone_24 : decode b_L_zone 24 = .ok (.ireturn, 1) := by decide +kernel
theorem d_L_street_0 : decode b_L_street 0 = .ok (.aload 6, 2) := by decide +kernel
theorem d_L_street_2 : decode b_L_street 2 = .ok (.iconst 0, 1) := by decide +kernel
theorem d_L_street_3 : decode b_L_street 3 = .ok (.aload_n 0, 1) := by decide +kernel
theorem d_L_street_4 : decode b_L_street 4 = .ok (.iload_n 1, 1) := by decide +kernel
theorem d_L_street_5 : decode b_L_street 5 = .ok (.iload_n 2, 1) := by decide +kernel
theorem d_L_street_6 : decode b_L_street 6 = .ok (.iload_n 3, 1) := by decide +kernel
theorem d_L_street_7 : decode b_L_street 7 = .ok (.iload 4, 2) := by decide +kernel
theorem d_L_street_9 : decode b_L_street 9 = .ok (.iload 5, 2) := by decide +kernel
theorem d_L_street_11 : decode b_L_street 11 = .ok (.invokevirtual 21, 3) := by decide +kernel
theorem d_L_street_14 : decode b_L_street 14 = .ok (.i2l, 1) := by decide +kernel
theorem d_L_street_15 : decode b_L_street 15 = .ok (.lastore, 1) := by decide +kernel
theorem d_L_street_16 : decode b_L_street 16 = .ok (.goto 11, 3) := by decide +kernel
theorem d_L_street_19 : decode b_L_street 19 = .ok (.astore 7, 2) := by decide +kernel
theorem d_L_street_21 : decode b_L_street 21 = .ok (.iconst 1, 1) := by decide +kernel
theorem d_L_street_22 : decode b_L_street 22 = .ok (.ireturn, 1) := by decide +kernel
theorem d_L_street_23 : decode b_L_street 23 = .ok (.astore 7, 2) := by decide +kernel
theorem d_L_street_25 : decode b_L_street 25 = .ok (.iconst 2, 1) := by decide +kernel
theorem d_L_street_26 : decode b_L_street 26 = .ok (.ireturn, 1) := by decide +kernel
theorem d_L_street_27 : decode b_L_street 27 = .ok (.iconst 0, 1) := by decide +kernel
theorem d_L_street_28 : decode b_L_street 28 = .ok (.ireturn, 1) := by decide +kernel
theorem d_L_toll_0 : decode b_L_toll 0 = .ok (.aload_n 3, 1) := by decide +kernel
theorem d_L_toll_1 : decode b_L_toll 1 = .ok (.iconst 0, 1) := by decide +kernel
theorem d_L_toll_2 : decode b_L_toll 2 = .ok (.aload_n 0, 1) := by decide +kernel
theorem d_L_toll_3 : decode b_L_toll 3 = .ok (.iload_n 1, 1) := by decide +kernel
theorem d_L_toll_4 : decode b_L_toll 4 = .ok (.iload_n 2, 1) := by decide +kernel
theorem d_L_toll_5 : decode b_L_toll 5 = .ok (.invokevirtual 25, 3) := by decide +kernel
theorem d_L_toll_8 : decode b_L_toll 8 = .ok (.i2l, 1) := by decide +kernel
theorem d_L_toll_9 : decode b_L_toll 9 = .ok (.lastore, 1) := by decide +kernel
theorem d_L_toll_10 : decode b_L_toll 10 = .ok (.goto 7, 3) := by decide +kernel
theorem d_L_toll_13 : decode b_L_toll 13 = .ok (.astore 4, 2) := by decide +kernel
theorem d_L_toll_15 : decode b_L_toll 15 = .ok (.iconst 1, 1) := by decide +kernel
theorem d_L_toll_16 : decode b_L_toll 16 = .ok (.ireturn, 1) := by decide +kernel
theorem d_L_toll_17 : decode b_L_toll 17 = .ok (.iconst 0, 1) := by decide +kernel
theorem d_L_toll_18 : decode b_L_toll 18 = .ok (.ireturn, 1) := by decide +kernel
theorem d_L_open_0 : decode b_L_open 0 = .ok (.aload_n 3, 1) := by decide +kernel
theorem d_L_open_1 : decode b_L_open 1 = .ok (.iconst 0, 1) := by decide +kernel
theorem d_L_open_2 : decode b_L_open 2 = .ok (.aload_n 0, 1) := by decide +kernel
theorem d_L_open_3 : decode b_L_open 3 = .ok (.iload_n 1, 1) := by decide +kernel
theorem d_L_open_4 : decode b_L_open 4 = .ok (.iload_n 2, 1) := by decide +kernel
theorem d_L_open_5 : decode b_L_open 5 = .ok (.invokevirtual 29, 3) := by decide +kernel
theorem d_L_open_8 : decode b_L_open 8 = .ok (.ifCond .eq 7, 3) := by decide +kernel
theorem d_L_open_11 : decode b_L_open 11 = .ok (.lconst 1, 1) := by decide +kernel
theorem d_L_open_12 : decode b_L_open 12 = .ok (.goto 4, 3) := by decide +kernel
theorem d_L_open_15 : decode b_L_open 15 = .ok (.lconst 0, 1) := by decide +kernel
theorem d_L_open_16 : decode b_L_open 16 = .ok (.lastore, 1) := by decide +kernel
theorem d_L_open_17 : decode b_L_open 17 = .ok (.goto 7, 3) := by decide +kernel
theorem d_L_open_20 : decode b_L_open 20 = .ok (.astore 4, 2) := by decide +kernel
theorem d_L_open_22 : decode b_L_open 22 = .ok (.iconst 1, 1) := by decide +kernel
theorem d_L_open_23 : decode b_L_open 23 = .ok (.ireturn, 1) := by decide +kernel
theorem d_L_open_24 : decode b_L_open 24 = .ok (.iconst 0, 1) := by decide +kernel
theorem d_L_open_25 : decode b_L_open 25 = .ok (.ireturn, 1) := by decide +kernel
theorem d_L_weight_0 : decode b_L_weight 0 = .ok (.aload 4, 2) := by decide +kernel
theorem d_L_weight_2 : decode b_L_weight 2 = .ok (.iconst 0, 1) := by decide +kernel
theorem d_L_weight_3 : decode b_L_weight 3 = .ok (.aload_n 0, 1) := by decide +kernel
theorem d_L_weight_4 : decode b_L_weight 4 = .ok (.iload_n 1, 1) := by decide +kernel
theorem d_L_weight_5 : decode b_L_weight 5 = .ok (.iload_n 2, 1) := by decide +kernel
theorem d_L_weight_6 : decode b_L_weight 6 = .ok (.iload_n 3, 1) := by decide +kernel
theorem d_L_weight_7 : decode b_L_weight 7 = .ok (.invokevirtual 33, 3) := by decide +kernel
theorem d_L_weight_10 : decode b_L_weight 10 = .ok (.i2l, 1) := by decide +kernel
theorem d_L_weight_11 : decode b_L_weight 11 = .ok (.lastore, 1) := by decide +kernel
theorem d_L_weight_12 : decode b_L_weight 12 = .ok (.goto 7, 3) := by decide +kernel
theorem d_L_weight_15 : decode b_L_weight 15 = .ok (.astore 5, 2) := by decide +kernel
theorem d_L_weight_17 : decode b_L_weight 17 = .ok (.iconst 1, 1) := by decide +kernel
theorem d_L_weight_18 : decode b_L_weight 18 = .ok (.ireturn, 1) := by decide +kernel
theorem d_L_weight_19 : decode b_L_weight 19 = .ok (.iconst 0, 1) := by decide +kernel
theorem d_L_weight_20 : decode b_L_weight 20 = .ok (.ireturn, 1) := by decide +kernel
theorem d_L_size_0 : decode b_L_size 0 = .ok (.aload 4, 2) := by decide +kernel
theorem d_L_size_2 : decode b_L_size 2 = .ok (.iconst 0, 1) := by decide +kernel
theorem d_L_size_3 : decode b_L_size 3 = .ok (.aload_n 0, 1) := by decide +kernel
theorem d_L_size_4 : decode b_L_size 4 = .ok (.iload_n 1, 1) := by decide +kernel
theorem d_L_size_5 : decode b_L_size 5 = .ok (.iload_n 2, 1) := by decide +kernel
theorem d_L_size_6 : decode b_L_size 6 = .ok (.iload_n 3, 1) := by decide +kernel
theorem d_L_size_7 : decode b_L_size 7 = .ok (.invokevirtual 36, 3) := by decide +kernel
theorem d_L_size_10 : decode b_L_size 10 = .ok (.i2l, 1) := by decide +kernel
theorem d_L_size_11 : decode b_L_size 11 = .ok (.lastore, 1) := by decide +kernel
theorem d_L_size_12 : decode b_L_size 12 = .ok (.goto 7, 3) := by decide +kernel
theorem d_L_size_15 : decode b_L_size 15 = .ok (.astore 5, 2) := by decide +kernel
theorem d_L_size_17 : decode b_L_size 17 = .ok (.iconst 1, 1) := by decide +kernel
theorem d_L_size_18 : decode b_L_size 18 = .ok (.ireturn, 1) := by decide +kernel
theorem d_L_size_19 : decode b_L_size 19 = .ok (.iconst 0, 1) := by decide +kernel
theorem d_L_size_20 : decode b_L_size 20 = .ok (.ireturn, 1) := by decide +kernel
theorem d_L_rounds_0 : decode b_L_rounds 0 = .ok (.aload_n 3, 1) := by decide +kernel
theorem d_L_rounds_1 : decode b_L_rounds 1 = .ok (.iconst 0, 1) := by decide +kernel
theorem d_L_rounds_2 : decode b_L_rounds 2 = .ok (.aload_n 0, 1) := by decide +kernel
theorem d_L_rounds_3 : decode b_L_rounds 3 = .ok (.iload_n 1, 1) := by decide +kernel
theorem d_L_rounds_4 : decode b_L_rounds 4 = .ok (.iload_n 2, 1) := by decide +kernel
theorem d_L_rounds_5 : decode b_L_rounds 5 = .ok (.invokevirtual 39, 3) := by decide +kernel
theorem d_L_rounds_8 : decode b_L_rounds 8 = .ok (.i2l, 1) := by decide +kernel
theorem d_L_rounds_9 : decode b_L_rounds 9 = .ok (.lastore, 1) := by decide +kernel
theorem d_L_rounds_10 : decode b_L_rounds 10 = .ok (.goto 7, 3) := by decide +kernel
theorem d_L_rounds_13 : decode b_L_rounds 13 = .ok (.astore 4, 2) := by decide +kernel
theorem d_L_rounds_15 : decode b_L_rounds 15 = .ok (.iconst 1, 1) := by decide +kernel
theorem d_L_rounds_16 : decode b_L_rounds 16 = .ok (.ireturn, 1) := by decide +kernel
theorem d_L_rounds_17 : decode b_L_rounds 17 = .ok (.iconst 0, 1) := by decide +kernel
theorem d_L_rounds_18 : decode b_L_rounds 18 = .ok (.ireturn, 1) := by decide +kernel
theorem d_L_trips_0 : decode b_L_trips 0 = .ok (.aload_n 3, 1) := by decide +kernel
theorem d_L_trips_1 : decode b_L_trips 1 = .ok (.iconst 0, 1) := by decide +kernel
theorem d_L_trips_2 : decode b_L_trips 2 = .ok (.aload_n 0, 1) := by decide +kernel
theorem d_L_trips_3 : decode b_L_trips 3 = .ok (.iload_n 1, 1) := by decide +kernel
theorem d_L_trips_4 : decode b_L_trips 4 = .ok (.iload_n 2, 1) := by decide +kernel
theorem d_L_trips_5 : decode b_L_trips 5 = .ok (.invokevirtual 42, 3) := by decide +kernel
theorem d_L_trips_8 : decode b_L_trips 8 = .ok (.i2l, 1) := by decide +kernel
theorem d_L_trips_9 : decode b_L_trips 9 = .ok (.lastore, 1) := by decide +kernel
theorem d_L_trips_10 : decode b_L_trips 10 = .ok (.goto 7, 3) := by decide +kernel
theorem d_L_trips_13 : decode b_L_trips 13 = .ok (.astore 4, 2) := by decide +kernel
theorem d_L_trips_15 : decode b_L_trips 15 = .ok (.iconst 1, 1) := by decide +kernel
theorem d_L_trips_16 : decode b_L_trips 16 = .ok (.ireturn, 1) := by decide +kernel
theorem d_L_trips_17 : decode b_L_trips 17 = .ok (.iconst 0, 1) := by decide +kernel
theorem d_L_trips_18 : decode b_L_trips 18 = .ok (.ireturn, 1) := by decide +kernel
theorem d_L_sum_0 : decode b_L_sum 0 = .ok (.aload_n 3, 1) := by decide +kernel
theorem d_L_sum_1 : decode b_L_sum 1 = .ok (.iconst 0, 1) := by decide +kernel
theorem d_L_sum_2 : decode b_L_sum 2 = .ok (.aload_n 0, 1) := by decide +kernel
theorem d_L_sum_3 : decode b_L_sum 3 = .ok (.iload_n 1, 1) := by decide +kernel
theorem d_L_sum_4 : decode b_L_sum 4 = .ok (.iload_n 2, 1) := by decide +kernel
theorem d_L_sum_5 : decode b_L_sum 5 = .ok (.invokevirtual 45, 3) := by decide +kernel
theorem d_L_sum_8 : decode b_L_sum 8 = .ok (.i2l, 1) := by decide +kernel
theorem d_L_sum_9 : decode b_L_sum 9 = .ok (.lastore, 1) := by decide +kernel
theorem d_L_sum_10 : decode b_L_sum 10 = .ok (.goto 7, 3) := by decide +kernel
theorem d_L_sum_13 : decode b_L_sum 13 = .ok (.astore 4, 2) := by decide +kernel
theorem d_L_sum_15 : decode b_L_sum 15 = .ok (.iconst 1, 1) := by decide +kernel
theorem d_L_sum_16 : decode b_L_sum 16 = .ok (.ireturn, 1) := by decide +kernel
theorem d_L_sum_17 : decode b_L_sum 17 = .ok (.iconst 0, 1) := by decide +kernel
theorem d_L_sum_18 : decode b_L_sum 18 = .ok (.ireturn, 1) := by decide +kernel
theorem d_L_factor_0 : decode b_L_factor 0 = .ok (.aload_n 2, 1) := by decide +kernel
theorem d_L_factor_1 : decode b_L_factor 1 = .ok (.iconst 0, 1) := by decide +kernel
theorem d_L_factor_2 : decode b_L_factor 2 = .ok (.aload_n 0, 1) := by decide +kernel
theorem d_L_factor_3 : decode b_L_factor 3 = .ok (.iload_n 1, 1) := by decide +kernel
theorem d_L_factor_4 : decode b_L_factor 4 = .ok (.invokevirtual 48, 3) := by decide +kernel
theorem d_L_factor_7 : decode b_L_factor 7 = .ok (.i2l, 1) := by decide +kernel
theorem d_L_factor_8 : decode b_L_factor 8 = .ok (.lastore, 1) := by decide +kernel
theorem d_L_factor_9 : decode b_L_factor 9 = .ok (.goto 6, 3) := by decide +kernel
theorem d_L_factor_12 : decode b_L_factor 12 = .ok (.astore_n 3, 1) := by decide +kernel
theorem d_L_factor_13 : decode b_L_factor 13 = .ok (.iconst 1, 1) := by decide +kernel
theorem d_L_factor_14 : decode b_L_factor 14 = .ok (.ireturn, 1) := by decide +kernel
theorem d_L_factor_15 : decode b_L_factor 15 = .ok (.iconst 0, 1) := by decide +kernel
theorem d_L_factor_16 : decode b_L_factor 16 = .ok (.ireturn, 1) := by decide +kernel
theorem d_L_pull_0 : decode b_L_pull 0 = .ok (.aload 5, 2) := by decide +kernel
theorem d_L_pull_2 : decode b_L_pull 2 = .ok (.iconst 0, 1) := by decide +kernel
theorem d_L_pull_3 : decode b_L_pull 3 = .ok (.aload_n 0, 1) := by decide +kernel
theorem d_L_pull_4 : decode b_L_pull 4 = .ok (.iload_n 1, 1) := by decide +kernel
theorem d_L_pull_5 : decode b_L_pull 5 = .ok (.iload_n 2, 1) := by decide +kernel
theorem d_L_pull_6 : decode b_L_pull 6 = .ok (.iload_n 3, 1) := by decide +kernel
theorem d_L_pull_7 : decode b_L_pull 7 = .ok (.iload 4, 2) := by decide +kernel
theorem d_L_pull_9 : decode b_L_pull 9 = .ok (.invokevirtual 52, 3) := by decide +kernel
theorem d_L_pull_12 : decode b_L_pull 12 = .ok (.i2l, 1) := by decide +kernel
theorem d_L_pull_13 : decode b_L_pull 13 = .ok (.lastore, 1) := by decide +kernel
theorem d_L_pull_14 : decode b_L_pull 14 = .ok (.goto 7, 3) := by decide +kernel
theorem d_L_pull_17 : decode b_L_pull 17 = .ok (.astore 6, 2) := by decide +kernel
theorem d_L_pull_19 : decode b_L_pull 19 = .ok (.iconst 1, 1) := by decide +kernel
theorem d_L_pull_20 : decode b_L_pull 20 = .ok (.ireturn, 1) := by decide +kernel
theorem d_L_pull_21 : decode b_L_pull 21 = .ok (.iconst 0, 1) := by decide +kernel
theorem d_L_pull_22 : decode b_L_pull 22 = .ok (.ireturn, 1) := by decide +kernel
theorem d_L_chosen_0 : decode b_L_chosen 0 = .ok (.aload 4, 2) := by decide +kernel
theorem d_L_chosen_2 : decode b_L_chosen 2 = .ok (.iconst 0, 1) := by decide +kernel
theorem d_L_chosen_3 : decode b_L_chosen 3 = .ok (.aload_n 0, 1) := by decide +kernel
theorem d_L_chosen_4 : decode b_L_chosen 4 = .ok (.iload_n 1, 1) := by decide +kernel
theorem d_L_chosen_5 : decode b_L_chosen 5 = .ok (.iload_n 2, 1) := by decide +kernel
theorem d_L_chosen_6 : decode b_L_chosen 6 = .ok (.iload_n 3, 1) := by decide +kernel
theorem d_L_chosen_7 : decode b_L_chosen 7 = .ok (.invokevirtual 56, 3) := by decide +kernel
theorem d_L_chosen_10 : decode b_L_chosen 10 = .ok (.i2l, 1) := by decide +kernel
theorem d_L_chosen_11 : decode b_L_chosen 11 = .ok (.lastore, 1) := by decide +kernel
theorem d_L_chosen_12 : decode b_L_chosen 12 = .ok (.goto 7, 3) := by decide +kernel
theorem d_L_chosen_15 : decode b_L_chosen 15 = .ok (.astore 5, 2) := by decide +kernel
theorem d_L_chosen_17 : decode b_L_chosen 17 = .ok (.iconst 1, 1) := by decide +kernel
theorem d_L_chosen_18 : decode b_L_chosen 18 = .ok (.ireturn, 1) := by decide +kernel
theorem d_L_chosen_19 : decode b_L_chosen 19 = .ok (.iconst 0, 1) := by decide +kernel
theorem d_L_chosen_20 : decode b_L_chosen 20 = .ok (.ireturn, 1) := by decide +kernel
theorem d_L_assign_0 : decode b_L_assign 0 = .ok (.aload_n 2, 1) := by decide +kernel
theorem d_L_assign_1 : decode b_L_assign 1 = .ok (.iconst 0, 1) := by decide +kernel
theorem d_L_assign_2 : decode b_L_assign 2 = .ok (.aload_n 0, 1) := by decide +kernel
theorem d_L_assign_3 : decode b_L_assign 3 = .ok (.iload_n 1, 1) := by decide +kernel
theorem d_L_assign_4 : decode b_L_assign 4 = .ok (.invokevirtual 59, 3) := by decide +kernel
theorem d_L_assign_7 : decode b_L_assign 7 = .ok (.i2l, 1) := by decide +kernel
theorem d_L_assign_8 : decode b_L_assign 8 = .ok (.lastore, 1) := by decide +kernel
theorem d_L_assign_9 : decode b_L_assign 9 = .ok (.goto 6, 3) := by decide +kernel
theorem d_L_assign_12 : decode b_L_assign 12 = .ok (.astore_n 3, 1) := by decide +kernel
theorem d_L_assign_13 : decode b_L_assign 13 = .ok (.iconst 1, 1) := by decide +kernel
theorem d_L_assign_14 : decode b_L_assign 14 = .ok (.ireturn, 1) := by decide +kernel
theorem d_L_assign_15 : decode b_L_assign 15 = .ok (.iconst 0, 1) := by decide +kernel
theorem d_L_assign_16 : decode b_L_assign 16 = .ok (.ireturn, 1) := by decide +kernel
theorem d_L_flow_0 : decode b_L_flow 0 = .ok (.aload_n 3, 1) := by decide +kernel
theorem d_L_flow_1 : decode b_L_flow 1 = .ok (.iconst 0, 1) := by decide +kernel
theorem d_L_flow_2 : decode b_L_flow 2 = .ok (.aload_n 0, 1) := by decide +kernel
theorem d_L_flow_3 : decode b_L_flow 3 = .ok (.iload_n 1, 1) := by decide +kernel
theorem d_L_flow_4 : decode b_L_flow 4 = .ok (.iload_n 2, 1) := by decide +kernel
theorem d_L_flow_5 : decode b_L_flow 5 = .ok (.invokevirtual 62, 3) := by decide +kernel
theorem d_L_flow_8 : decode b_L_flow 8 = .ok (.i2l, 1) := by decide +kernel
theorem d_L_flow_9 : decode b_L_flow 9 = .ok (.lastore, 1) := by decide +kernel
theorem d_L_flow_10 : decode b_L_flow 10 = .ok (.goto 7, 3) := by decide +kernel
theorem d_L_flow_13 : decode b_L_flow 13 = .ok (.astore 4, 2) := by decide +kernel
theorem d_L_flow_15 : decode b_L_flow 15 = .ok (.iconst 1, 1) := by decide +kernel
theorem d_L_flow_16 : decode b_L_flow 16 = .ok (.ireturn, 1) := by decide +kernel
theorem d_L_flow_17 : decode b_L_flow 17 = .ok (.iconst 0, 1) := by decide +kernel
theorem d_L_flow_18 : decode b_L_flow 18 = .ok (.ireturn, 1) := by decide +kernel
theorem d_L_way_0 : decode b_L_way 0 = .ok (.aload 4, 2) := by decide +kernel
theorem d_L_way_2 : decode b_L_way 2 = .ok (.iconst 0, 1) := by decide +kernel
theorem d_L_way_3 : decode b_L_way 3 = .ok (.aload_n 0, 1) := by decide +kernel
theorem d_L_way_4 : decode b_L_way 4 = .ok (.iload_n 1, 1) := by decide +kernel
theorem d_L_way_5 : decode b_L_way 5 = .ok (.iload_n 2, 1) := by decide +kernel
theorem d_L_way_6 : decode b_L_way 6 = .ok (.iload_n 3, 1) := by decide +kernel
theorem d_L_way_7 : decode b_L_way 7 = .ok (.invokevirtual 65, 3) := by decide +kernel
theorem d_L_way_10 : decode b_L_way 10 = .ok (.i2l, 1) := by decide +kernel
theorem d_L_way_11 : decode b_L_way 11 = .ok (.lastore, 1) := by decide +kernel
theorem d_L_way_12 : decode b_L_way 12 = .ok (.goto 7, 3) := by decide +kernel
theorem d_L_way_15 : decode b_L_way 15 = .ok (.astore 5, 2) := by decide +kernel
theorem d_L_way_17 : decode b_L_way 17 = .ok (.iconst 1, 1) := by decide +kernel
theorem d_L_way_18 : decode b_L_way 18 = .ok (.ireturn, 1) := by decide +kernel
theorem d_L_way_19 : decode b_L_way 19 = .ok (.iconst 0, 1) := by decide +kernel
theorem d_L_way_20 : decode b_L_way 20 = .ok (.ireturn, 1) := by decide +kernel
theorem d_L_least_0 : decode b_L_least 0 = .ok (.aload_n 3, 1) := by decide +kernel
theorem d_L_least_1 : decode b_L_least 1 = .ok (.iconst 0, 1) := by decide +kernel
theorem d_L_least_2 : decode b_L_least 2 = .ok (.aload_n 0, 1) := by decide +kernel
theorem d_L_least_3 : decode b_L_least 3 = .ok (.iload_n 1, 1) := by decide +kernel
theorem d_L_least_4 : decode b_L_least 4 = .ok (.iload_n 2, 1) := by decide +kernel
theorem d_L_least_5 : decode b_L_least 5 = .ok (.invokevirtual 68, 3) := by decide +kernel
theorem d_L_least_8 : decode b_L_least 8 = .ok (.i2l, 1) := by decide +kernel
theorem d_L_least_9 : decode b_L_least 9 = .ok (.lastore, 1) := by decide +kernel
theorem d_L_least_10 : decode b_L_least 10 = .ok (.goto 7, 3) := by decide +kernel
theorem d_L_least_13 : decode b_L_least 13 = .ok (.astore 4, 2) := by decide +kernel
theorem d_L_least_15 : decode b_L_least 15 = .ok (.iconst 1, 1) := by decide +kernel
theorem d_L_least_16 : decode b_L_least 16 = .ok (.ireturn, 1) := by decide +kernel
theorem d_L_least_17 : decode b_L_least 17 = .ok (.iconst 0, 1) := by decide +kernel
theorem d_L_least_18 : decode b_L_least 18 = .ok (.ireturn, 1) := by decide +kernel
theorem d_L_link_0 : decode b_L_link 0 = .ok (.aload 4, 2) := by decide +kernel
theorem d_L_link_2 : decode b_L_link 2 = .ok (.iconst 0, 1) := by decide +kernel
theorem d_L_link_3 : decode b_L_link 3 = .ok (.aload_n 0, 1) := by decide +kernel
theorem d_L_link_4 : decode b_L_link 4 = .ok (.iload_n 1, 1) := by decide +kernel
theorem d_L_link_5 : decode b_L_link 5 = .ok (.iload_n 2, 1) := by decide +kernel
theorem d_L_link_6 : decode b_L_link 6 = .ok (.iload_n 3, 1) := by decide +kernel
theorem d_L_link_7 : decode b_L_link 7 = .ok (.invokevirtual 71, 3) := by decide +kernel
theorem d_L_link_10 : decode b_L_link 10 = .ok (.i2l, 1) := by decide +kernel
theorem d_L_link_11 : decode b_L_link 11 = .ok (.lastore, 1) := by decide +kernel
theorem d_L_link_12 : decode b_L_link 12 = .ok (.goto 7, 3) := by decide +kernel
theorem d_L_link_15 : decode b_L_link 15 = .ok (.astore 5, 2) := by decide +kernel
theorem d_L_link_17 : decode b_L_link 17 = .ok (.iconst 1, 1) := by decide +kernel
theorem d_L_link_18 : decode b_L_link 18 = .ok (.ireturn, 1) := by decide +kernel
theorem d_L_link_19 : decode b_L_link 19 = .ok (.iconst 0, 1) := by decide +kernel
theorem d_L_link_20 : decode b_L_link 20 = .ok (.ireturn, 1) := by decide +kernel
theorem d_L_count_0 : decode b_L_count 0 = .ok (.aload_n 3, 1) := by decide +kernel
theorem d_L_count_1 : decode b_L_count 1 = .ok (.iconst 0, 1) := by decide +kernel
theorem d_L_count_2 : decode b_L_count 2 = .ok (.aload_n 0, 1) := by decide +kernel
theorem d_L_count_3 : decode b_L_count 3 = .ok (.iload_n 1, 1) := by decide +kernel
theorem d_L_count_4 : decode b_L_count 4 = .ok (.iload_n 2, 1) := by decide +kernel
theorem d_L_count_5 : decode b_L_count 5 = .ok (.invokevirtual 74, 3) := by decide +kernel
theorem d_L_count_8 : decode b_L_count 8 = .ok (.i2l, 1) := by decide +kernel
theorem d_L_count_9 : decode b_L_count 9 = .ok (.lastore, 1) := by decide +kernel
theorem d_L_count_10 : decode b_L_count 10 = .ok (.goto 7, 3) := by decide +kernel
theorem d_L_count_13 : decode b_L_count 13 = .ok (.astore 4, 2) := by decide +kernel
theorem d_L_count_15 : decode b_L_count 15 = .ok (.iconst 1, 1) := by decide +kernel
theorem d_L_count_16 : decode b_L_count 16 = .ok (.ireturn, 1) := by decide +kernel
theorem d_L_count_17 : decode b_L_count 17 = .ok (.iconst 0, 1) := by decide +kernel
theorem d_L_count_18 : decode b_L_count 18 = .ok (.ireturn, 1) := by decide +kernel
theorem d_L_fit_0 : decode b_L_fit 0 = .ok (.aload_n 2, 1) := by decide +kernel
theorem d_L_fit_1 : decode b_L_fit 1 = .ok (.iconst 0, 1) := by decide +kernel
theorem d_L_fit_2 : decode b_L_fit 2 = .ok (.aload_n 0, 1) := by decide +kernel
theorem d_L_fit_3 : decode b_L_fit 3 = .ok (.iload_n 1, 1) := by decide +kernel
theorem d_L_fit_4 : decode b_L_fit 4 = .ok (.invokevirtual 77, 3) := by decide +kernel
theorem d_L_fit_7 : decode b_L_fit 7 = .ok (.i2l, 1) := by decide +kernel
theorem d_L_fit_8 : decode b_L_fit 8 = .ok (.lastore, 1) := by decide +kernel
theorem d_L_fit_9 : decode b_L_fit 9 = .ok (.goto 9, 3) := by decide +kernel
theorem d_L_fit_12 : decode b_L_fit 12 = .ok (.astore_n 3, 1) := by decide +kernel
theorem d_L_fit_13 : decode b_L_fit 13 = .ok (.iconst 1, 1) := by decide +kernel
theorem d_L_fit_14 : decode b_L_fit 14 = .ok (.ireturn, 1) := by decide +kernel
theorem d_L_fit_15 : decode b_L_fit 15 = .ok (.astore_n 3, 1) := by decide +kernel
theorem d_L_fit_16 : decode b_L_fit 16 = .ok (.iconst 2, 1) := by decide +kernel
theorem d_L_fit_17 : decode b_L_fit 17 = .ok (.ireturn, 1) := by decide +kernel
theorem d_L_fit_18 : decode b_L_fit 18 = .ok (.iconst 0, 1) := by decide +kernel
theorem d_L_fit_19 : decode b_L_fit 19 = .ok (.ireturn, 1) := by decide +kernel
