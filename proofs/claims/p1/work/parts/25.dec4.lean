theorem d_L_cell_0 : decode b_L_cell 0 = .ok (.iload_n 1, 1) := by decide +kernel
theorem d_L_cell_1 : decode b_L_cell 1 = .ok (.aload_n 0, 1) := by decide +kernel
theorem d_L_cell_2 : decode b_L_cell 2 = .ok (.arraylength, 1) := by decide +kernel
theorem d_L_cell_3 : decode b_L_cell 3 = .ok (.if_icmp .ge 9, 3) := by decide +kernel
theorem d_L_cell_6 : decode b_L_cell 6 = .ok (.aload_n 0, 1) := by decide +kernel
theorem d_L_cell_7 : decode b_L_cell 7 = .ok (.iload_n 1, 1) := by decide +kernel
theorem d_L_cell_8 : decode b_L_cell 8 = .ok (.iaload, 1) := by decide +kernel
theorem d_L_cell_9 : decode b_L_cell 9 = .ok (.goto 4, 3) := by decide +kernel
theorem d_L_cell_12 : decode b_L_cell 12 = .ok (.iconst 0, 1) := by decide +kernel
theorem d_L_cell_13 : decode b_L_cell 13 = .ok (.ireturn, 1) := by decide +kernel
theorem d_L_today_0 : decode b_L_today 0 = .ok (.aload_n 0, 1) := by decide +kernel
theorem d_L_today_1 : decode b_L_today 1 = .ok (.iload_n 1, 1) := by decide +kernel
theorem d_L_today_2 : decode b_L_today 2 = .ok (.invokevirtual 7, 3) := by decide +kernel
theorem d_L_today_5 : decode b_L_today 5 = .ok (.goto 6, 3) := by decide +kernel
theorem d_L_today_8 : decode b_L_today 8 = .ok (.astore_n 2, 1) := by decide +kernel
theorem d_L_today_9 : decode b_L_today 9 = .ok (.iconst 1, 1) := by decide +kernel
theorem d_L_today_10 : decode b_L_today 10 = .ok (.ireturn, 1) := by decide +kernel
theorem d_L_today_11 : decode b_L_today 11 = .ok (.iconst 0, 1) := by decide +kernel
theorem d_L_today_12 : decode b_L_today 12 = .ok (.ireturn, 1) := by decide +kernel
theorem d_L_rule_0 : decode b_L_rule 0 = .ok (.aload 4, 2) := by decide +kernel
theorem d_L_rule_2 : decode b_L_rule 2 = .ok (.iconst 0, 1) := by decide +kernel
theorem d_L_rule_3 : decode b_L_rule 3 = .ok (.aload_n 0, 1) := by decide +kernel
theorem d_L_rule_4 : decode b_L_rule 4 = .ok (.iload_n 1, 1) := by decide +kernel
theorem d_L_rule_5 : decode b_L_rule 5 = .ok (.iload_n 2, 1) := by decide +kernel
theorem d_L_rule_6 : decode b_L_rule 6 = .ok (.iload_n 3, 1) := by decide +kernel
theorem d_L_rule_7 : decode b_L_rule 7 = .ok (.invokevirtual 15, 3) := by decide +kernel
theorem d_L_rule_10 : decode b_L_rule 10 = .ok (.i2l, 1) := by decide +kernel
theorem d_L_rule_11 : decode b_L_rule 11 = .ok (.lastore, 1) := by decide +kernel
theorem d_L_rule_12 : decode b_L_rule 12 = .ok (.goto 11, 3) := by decide +kernel
theorem d_L_rule_15 : decode b_L_rule 15 = .ok (.astore 5, 2) := by decide +kernel
theorem d_L_rule_17 : decode b_L_rule 17 = .ok (.iconst 1, 1) := by decide +kernel
theorem d_L_rule_18 : decode b_L_rule 18 = .ok (.ireturn, 1) := by decide +kernel
theorem d_L_rule_19 : decode b_L_rule 19 = .ok (.astore 5, 2) := by decide +kernel
theorem d_L_rule_21 : decode b_L_rule 21 = .ok (.iconst 2, 1) := by decide +kernel
theorem d_L_rule_22 : decode b_L_rule 22 = .ok (.ireturn, 1) := by decide +kernel
theorem d_L_rule_23 : decode b_L_rule 23 = .ok (.iconst 0, 1) := by decide +kernel
theorem d_L_rule_24 : decode b_L_rule 24 = .ok (.ireturn, 1) := by decide +kernel
theorem d_L_op_0 : decode b_L_op 0 = .ok (.aload 4, 2) := by decide +kernel
theorem d_L_op_2 : decode b_L_op 2 = .ok (.iconst 0, 1) := by decide +kernel
theorem d_L_op_3 : decode b_L_op 3 = .ok (.aload_n 0, 1) := by decide +kernel
theorem d_L_op_4 : decode b_L_op 4 = .ok (.iload_n 1, 1) := by decide +kernel
theorem d_L_op_5 : decode b_L_op 5 = .ok (.iload_n 2, 1) := by decide +kernel
theorem d_L_op_6 : decode b_L_op 6 = .ok (.iload_n 3, 1) := by decide +kernel
theorem d_L_op_7 : decode b_L_op 7 = .ok (.invokevirtual 21, 3) := by decide +kernel
theorem d_L_op_10 : decode b_L_op 10 = .ok (.i2l, 1) := by decide +kernel
theorem d_L_op_11 : decode b_L_op 11 = .ok (.lastore, 1) := by decide +kernel
theorem d_L_op_12 : decode b_L_op 12 = .ok (.goto 19, 3) := by decide +kernel
theorem d_L_op_15 : decode b_L_op 15 = .ok (.astore 5, 2) := by decide +kernel
theorem d_L_op_17 : decode b_L_op 17 = .ok (.iconst 1, 1) := by decide +kernel
theorem d_L_op_18 : decode b_L_op 18 = .ok (.ireturn, 1) := by decide +kernel
theorem d_L_op_19 : decode b_L_op 19 = .ok (.astore 5, 2) := by decide +kernel
theorem d_L_op_21 : decode b_L_op 21 = .ok (.iconst 2, 1) := by decide +kernel
theorem d_L_op_22 : decode b_L_op 22 = .ok (.ireturn, 1) := by decide +kernel
theorem d_L_op_23 : decode b_L_op 23 = .ok (.astore 5, 2) := by decide +kernel
theorem d_L_op_25 : decode b_L_op 25 = .ok (.iconst 3, 1) := by decide +kernel
theorem d_L_op_26 : decode b_L_op 26 = .ok (.ireturn, 1) := by decide +kernel
theorem d_L_op_27 : decode b_L_op 27 = .ok (.astore 5, 2) := by decide +kernel
theorem d_L_op_29 : decode b_L_op 29 = .ok (.iconst 4, 1) := by decide +kernel
theorem d_L_op_30 : decode b_L_op 30 = .ok (.ireturn, 1) := by decide +kernel
theorem d_L_op_31 : decode b_L_op 31 = .ok (.iconst 0, 1) := by decide +kernel
theorem d_L_op_32 : decode b_L_op 32 = .ok (.ireturn, 1) := by decide +kernel
theorem d_L_make_0 : decode b_L_make 0 = .ok (.aload_n 2, 1) := by decide +kernel
theorem d_L_make_1 : decode b_L_make 1 = .ok (.iconst 0, 1) := by decide +kernel
theorem d_L_make_2 : decode b_L_make 2 = .ok (.aload_n 0, 1) := by decide +kernel
theorem d_L_make_3 : decode b_L_make 3 = .ok (.iload_n 1, 1) := by decide +kernel
theorem d_L_make_4 : decode b_L_make 4 = .ok (.invokevirtual 28, 3) := by decide +kernel
theorem d_L_make_7 : decode b_L_make 7 = .ok (.i2l, 1) := by decide +kernel
theorem d_L_make_8 : decode b_L_make 8 = .ok (.lastore, 1) := by decide +kernel
theorem d_L_make_9 : decode b_L_make 9 = .ok (.goto 9, 3) := by decide +kernel
theorem d_L_make_12 : decode b_L_make 12 = .ok (.astore_n 3, 1) := by decide +kernel
theorem d_L_make_13 : decode b_L_make 13 = .ok (.iconst 1, 1) := by decide +kernel
theorem d_L_make_14 : decode b_L_make 14 = .ok (.ireturn, 1) := by decide +kernel
theorem d_L_make_15 : decode b_L_make 15 = .ok (.astore_n 3, 1) := by decide +kernel
theorem d_L_make_16 : decode b_L_make 16 = .ok (.iconst 2, 1) := by decide +kernel
theorem d_L_make_17 : decode b_L_make 17 = .ok (.ireturn, 1) := by decide +kernel
theorem d_L_make_18 : decode b_L_make 18 = .ok (.iconst 0, 1) := by decide +kernel
theorem d_L_make_19 : decode b_L_make 19 = .ok (.ireturn, 1) := by decide +kernel
theorem d_L_fact_0 : decode b_L_fact 0 = .ok (.aload_n 0, 1) := by decide +kernel
theorem d_L_fact_1 : decode b_L_fact 1 = .ok (.iload_n 1, 1) := by decide +kernel
theorem d_L_fact_2 : decode b_L_fact 2 = .ok (.iload_n 2, 1) := by decide +kernel
theorem d_L_fact_3 : decode b_L_fact 3 = .ok (.invokevirtual 32, 3) := by decide +kernel
theorem d_L_fact_6 : decode b_L_fact 6 = .ok (.goto 6, 3) := by decide +kernel
theorem d_L_fact_9 : decode b_L_fact 9 = .ok (.astore_n 3, 1) := by decide +kernel
theorem d_L_fact_10 : decode b_L_fact 10 = .ok (.iconst 1, 1) := by decide +kernel
theorem d_L_fact_11 : decode b_L_fact 11 = .ok (.ireturn, 1) := by decide +kernel
theorem d_L_fact_12 : decode b_L_fact 12 = .ok (.iconst 0, 1) := by decide +kernel
theorem d_L_fact_13 : decode b_L_fact 13 = .ok (.ireturn, 1) := by decide +kernel
theorem d_L_ask_0 : decode b_L_ask 0 = .ok (.aload_n 3, 1) := by decide +kernel
theorem d_L_ask_1 : decode b_L_ask 1 = .ok (.iconst 0, 1) := by decide +kernel
theorem d_L_ask_2 : decode b_L_ask 2 = .ok (.aload_n 0, 1) := by decide +kernel
theorem d_L_ask_3 : decode b_L_ask 3 = .ok (.iload_n 1, 1) := by decide +kernel
theorem d_L_ask_4 : decode b_L_ask 4 = .ok (.iload_n 2, 1) := by decide +kernel
theorem d_L_ask_5 : decode b_L_ask 5 = .ok (.invokevirtual 36, 3) := by decide +kernel
theorem d_L_ask_8 : decode b_L_ask 8 = .ok (.i2l, 1) := by decide +kernel
theorem d_L_ask_9 : decode b_L_ask 9 = .ok (.lastore, 1) := by decide +kernel
theorem d_L_ask_10 : decode b_L_ask 10 = .ok (.goto 7, 3) := by decide +kernel
theorem d_L_ask_13 : decode b_L_ask 13 = .ok (.astore 4, 2) := by decide +kernel
theorem d_L_ask_15 : decode b_L_ask 15 = .ok (.iconst 1, 1) := by decide +kernel
theorem d_L_ask_16 : decode b_L_ask 16 = .ok (.ireturn, 1) := by decide +kernel
theorem d_L_ask_17 : decode b_L_ask 17 = .ok (.iconst 0, 1) := by decide +kernel
theorem d_L_ask_18 : decode b_L_ask 18 = .ok (.ireturn, 1) := by decide +kernel
theorem d_L_fallback_0 : decode b_L_fallback 0 = .ok (.aload_n 0, 1) := by decide +kernel
theorem d_L_fallback_1 : decode b_L_fallback 1 = .ok (.iload_n 1, 1) := by decide +kernel
theorem d_L_fallback_2 : decode b_L_fallback 2 = .ok (.iload_n 2, 1) := by decide +kernel
theorem d_L_fallback_3 : decode b_L_fallback 3 = .ok (.invokevirtual 40, 3) := by decide +kernel
theorem d_L_fallback_6 : decode b_L_fallback 6 = .ok (.goto 6, 3) := by decide +kernel
theorem d_L_fallback_9 : decode b_L_fallback 9 = .ok (.astore_n 3, 1) := by decide +kernel
theorem d_L_fallback_10 : decode b_L_fallback 10 = .ok (.iconst 1, 1) := by decide +kernel
theorem d_L_fallback_11 : decode b_L_fallback 11 = .ok (.ireturn, 1) := by decide +kernel
theorem d_L_fallback_12 : decode b_L_fallback 12 = .ok (.iconst 0, 1) := by decide +kernel
theorem d_L_fallback_13 : decode b_L_fallback 13 = .ok (.ireturn, 1) := by decide +kernel
theorem d_L_edition_0 : decode b_L_edition 0 = .ok (.aload 4, 2) := by decide +kernel
theorem d_L_edition_2 : decode b_L_edition 2 = .ok (.iconst 0, 1) := by decide +kernel
theorem d_L_edition_3 : decode b_L_edition 3 = .ok (.aload_n 0, 1) := by decide +kernel
theorem d_L_edition_4 : decode b_L_edition 4 = .ok (.iload_n 1, 1) := by decide +kernel
theorem d_L_edition_5 : decode b_L_edition 5 = .ok (.iload_n 2, 1) := by decide +kernel
theorem d_L_edition_6 : decode b_L_edition 6 = .ok (.iload_n 3, 1) := by decide +kernel
theorem d_L_edition_7 : decode b_L_edition 7 = .ok (.invokevirtual 43, 3) := by decide +kernel
theorem d_L_edition_10 : decode b_L_edition 10 = .ok (.i2l, 1) := by decide +kernel
theorem d_L_edition_11 : decode b_L_edition 11 = .ok (.lastore, 1) := by decide +kernel
theorem d_L_edition_12 : decode b_L_edition 12 = .ok (.goto 7, 3) := by decide +kernel
theorem d_L_edition_15 : decode b_L_edition 15 = .ok (.astore 5, 2) := by decide +kernel
theorem d_L_edition_17 : decode b_L_edition 17 = .ok (.iconst 1, 1) := by decide +kernel
theorem d_L_edition_18 : decode b_L_edition 18 = .ok (.ireturn, 1) := by decide +kernel
theorem d_L_edition_19 : decode b_L_edition 19 = .ok (.iconst 0, 1) := by decide +kernel
theorem d_L_edition_20 : decode b_L_edition 20 = .ok (.ireturn, 1) := by decide +kernel
theorem d_L_failed_0 : decode b_L_failed 0 = .ok (.aload_n 3, 1) := by decide +kernel
theorem d_L_failed_1 : decode b_L_failed 1 = .ok (.iconst 0, 1) := by decide +kernel
theorem d_L_failed_2 : decode b_L_failed 2 = .ok (.aload_n 0, 1) := by decide +kernel
theorem d_L_failed_3 : decode b_L_failed 3 = .ok (.iload_n 1, 1) := by decide +kernel
theorem d_L_failed_4 : decode b_L_failed 4 = .ok (.iload_n 2, 1) := by decide +kernel
theorem d_L_failed_5 : decode b_L_failed 5 = .ok (.invokevirtual 46, 3) := by decide +kernel
theorem d_L_failed_8 : decode b_L_failed 8 = .ok (.i2l, 1) := by decide +kernel
theorem d_L_failed_9 : decode b_L_failed 9 = .ok (.lastore, 1) := by decide +kernel
theorem d_L_failed_10 : decode b_L_failed 10 = .ok (.goto 7, 3) := by decide +kernel
theorem d_L_failed_13 : decode b_L_failed 13 = .ok (.astore 4, 2) := by decide +kernel
theorem d_L_failed_15 : decode b_L_failed 15 = .ok (.iconst 1, 1) := by decide +kernel
theorem d_L_failed_16 : decode b_L_failed 16 = .ok (.ireturn, 1) := by decide +kernel
theorem d_L_failed_17 : decode b_L_failed 17 = .ok (.iconst 0, 1) := by decide +kernel
theorem d_L_failed_18 : decode b_L_failed 18 = .ok (.ireturn, 1) := by decide +kernel
theorem d_L_handle_0 : decode b_L_handle 0 = .ok (.aload_n 2, 1) := by decide +kernel
theorem d_L_handle_1 : decode b_L_handle 1 = .ok (.iconst 0, 1) := by decide +kernel
theorem d_L_handle_2 : decode b_L_handle 2 = .ok (.aload_n 0, 1) := by decide +kernel
theorem d_L_handle_3 : decode b_L_handle 3 = .ok (.iload_n 1, 1) := by decide +kernel
theorem d_L_handle_4 : decode b_L_handle 4 = .ok (.invokevirtual 49, 3) := by decide +kernel
theorem d_L_handle_7 : decode b_L_handle 7 = .ok (.i2l, 1) := by decide +kernel
theorem d_L_handle_8 : decode b_L_handle 8 = .ok (.lastore, 1) := by decide +kernel
theorem d_L_handle_9 : decode b_L_handle 9 = .ok (.goto 12, 3) := by decide +kernel
theorem d_L_handle_12 : decode b_L_handle 12 = .ok (.astore_n 3, 1) := by decide +kernel
theorem d_L_handle_13 : decode b_L_handle 13 = .ok (.iconst 1, 1) := by decide +kernel
theorem d_L_handle_14 : decode b_L_handle 14 = .ok (.ireturn, 1) := by decide +kernel
theorem d_L_handle_15 : decode b_L_handle 15 = .ok (.astore_n 3, 1) := by decide +kernel
theorem d_L_handle_16 : decode b_L_handle 16 = .ok (.iconst 2, 1) := by decide +kernel
theorem d_L_handle_17 : decode b_L_handle 17 = .ok (.ireturn, 1) := by decide +kernel
theorem d_L_handle_18 : decode b_L_handle 18 = .ok (.astore_n 3, 1) := by decide +kernel
theorem d_L_handle_19 : decode b_L_handle 19 = .ok (.iconst 3, 1) := by decide +kernel
theorem d_L_handle_20 : decode b_L_handle 20 = .ok (.ireturn, 1) := by decide +kernel
theorem d_L_handle_21 : decode b_L_handle 21 = .ok (.iconst 0, 1) := by decide +kernel
theorem d_L_handle_22 : decode b_L_handle 22 = .ok (.ireturn, 1) := by decide +kernel
theorem d_L_by_0 : decode b_L_by 0 = .ok (.aload_n 2, 1) := by decide +kernel
theorem d_L_by_1 : decode b_L_by 1 = .ok (.iconst 0, 1) := by decide +kernel
theorem d_L_by_2 : decode b_L_by 2 = .ok (.aload_n 0, 1) := by decide +kernel
theorem d_L_by_3 : decode b_L_by 3 = .ok (.iload_n 1, 1) := by decide +kernel
theorem d_L_by_4 : decode b_L_by 4 = .ok (.invokevirtual 52, 3) := by decide +kernel
theorem d_L_by_7 : decode b_L_by 7 = .ok (.i2l, 1) := by decide +kernel
theorem d_L_by_8 : decode b_L_by 8 = .ok (.lastore, 1) := by decide +kernel
theorem d_L_by_9 : decode b_L_by 9 = .ok (.goto 9, 3) := by decide +kernel
theorem d_L_by_12 : decode b_L_by 12 = .ok (.astore_n 3, 1) := by decide +kernel
theorem d_L_by_13 : decode b_L_by 13 = .ok (.iconst 1, 1) := by decide +kernel
theorem d_L_by_14 : decode b_L_by 14 = .ok (.ireturn, 1) := by decide +kernel
theorem d_L_by_15 : decode b_L_by 15 = .ok (.astore_n 3, 1) := by decide +kernel
theorem d_L_by_16 : decode b_L_by 16 = .ok (.iconst 2, 1) := by decide +kernel
theorem d_L_by_17 : decode b_L_by 17 = .ok (.ireturn, 1) := by decide +kernel
theorem d_L_by_18 : decode b_L_by 18 = .ok (.iconst 0, 1) := by decide +kernel
theorem d_L_by_19 : decode b_L_by 19 = .ok (.ireturn, 1) := by decide +kernel
theorem d_L_keep_0 : decode b_L_keep 0 = .ok (.aload_n 1, 1) := by decide +kernel
theorem d_L_keep_1 : decode b_L_keep 1 = .ok (.iconst 0, 1) := by decide +kernel
theorem d_L_keep_2 : decode b_L_keep 2 = .ok (.aload_n 0, 1) := by decide +kernel
theorem d_L_keep_3 : decode b_L_keep 3 = .ok (.invokevirtual 55, 3) := by decide +kernel
theorem d_L_keep_6 : decode b_L_keep 6 = .ok (.i2l, 1) := by decide +kernel
theorem d_L_keep_7 : decode b_L_keep 7 = .ok (.lastore, 1) := by decide +kernel
theorem d_L_keep_8 : decode b_L_keep 8 = .ok (.goto 6, 3) := by decide +kernel
theorem d_L_keep_11 : decode b_L_keep 11 = .ok (.astore_n 2, 1) := by decide +kernel
theorem d_L_keep_12 : decode b_L_keep 12 = .ok (.iconst 1, 1) := by decide +kernel
theorem d_L_keep_13 : decode b_L_keep 13 = .ok (.ireturn, 1) := by decide +kernel
theorem d_L_keep_14 : decode b_L_keep 14 = .ok (.iconst 0, 1) := by decide +kernel
theorem d_L_keep_15 : decode b_L_keep 15 = .ok (.ireturn, 1) := by decide +kernel
theorem d_L_compare_0 : decode b_L_compare 0 = .ok (.aload_n 3, 1) := by decide +kernel
theorem d_L_compare_1 : decode b_L_compare 1 = .ok (.iconst 0, 1) := by decide +kernel
theorem d_L_compare_2 : decode b_L_compare 2 = .ok (.aload_n 0, 1) := by decide +kernel
theorem d_L_compare_3 : decode b_L_compare 3 = .ok (.iload_n 1, 1) := by decide +kernel
theorem d_L_compare_4 : decode b_L_compare 4 = .ok (.iload_n 2, 1) := by decide +kernel
theorem d_L_compare_5 : decode b_L_compare 5 = .ok (.invokevirtual 59, 3) := by decide +kernel
theorem d_L_compare_8 : decode b_L_compare 8 = .ok (.i2l, 1) := by decide +kernel
theorem d_L_compare_9 : decode b_L_compare 9 = .ok (.lastore, 1) := by decide +kernel
theorem d_L_compare_10 : decode b_L_compare 10 = .ok (.goto 7, 3) := by decide +kernel
theorem d_L_compare_13 : decode b_L_compare 13 = .ok (.astore 4, 2) := by decide +kernel
theorem d_L_compare_15 : decode b_L_compare 15 = .ok (.iconst 1, 1) := by decide +kernel
theorem d_L_compare_16 : decode b_L_compare 16 = .ok (.ireturn, 1) := by decide +kernel
theorem d_L_compare_17 : decode b_L_compare 17 = .ok (.iconst 0, 1) := by decide +kernel
theorem d_L_compare_18 : decode b_L_compare 18 = .ok (.ireturn, 1) := by decide +kernel
theorem d_L_same_0 : decode b_L_same 0 = .ok (.aload_n 3, 1) := by decide +kernel
theorem d_L_same_1 : decode b_L_same 1 = .ok (.iconst 0, 1) := by decide +kernel
theorem d_L_same_2 : decode b_L_same 2 = .ok (.aload_n 0, 1) := by decide +kernel
theorem d_L_same_3 : decode b_L_same 3 = .ok (.iload_n 1, 1) := by decide +kernel
theorem d_L_same_4 : decode b_L_same 4 = .ok (.iload_n 2, 1) := by decide +kernel
theorem d_L_same_5 : decode b_L_same 5 = .ok (.invokevirtual 62, 3) := by decide +kernel
theorem d_L_same_8 : decode b_L_same 8 = .ok (.ifCond .eq 7, 3) := by decide +kernel
theorem d_L_same_11 : decode b_L_same 11 = .ok (.lconst 1, 1) := by decide +kernel
theorem d_L_same_12 : decode b_L_same 12 = .ok (.goto 4, 3) := by decide +kernel
theorem d_L_same_15 : decode b_L_same 15 = .ok (.lconst 0, 1) := by decide +kernel
theorem d_L_same_16 : decode b_L_same 16 = .ok (.lastore, 1) := by decide +kernel
theorem d_L_same_17 : decode b_L_same 17 = .ok (.goto 7, 3) := by decide +kernel
theorem d_L_same_20 : decode b_L_same 20 = .ok (.astore 4, 2) := by decide +kernel
theorem d_L_same_22 : decode b_L_same 22 = .ok (.iconst 1, 1) := by decide +kernel
theorem d_L_same_23 : decode b_L_same 23 = .ok (.ireturn, 1) := by decide +kernel
theorem d_L_same_24 : decode b_L_same 24 = .ok (.iconst 0, 1) := by decide +kernel
theorem d_L_same_25 : decode b_L_same 25 = .ok (.ireturn, 1) := by decide +kernel
theorem d_L_shadow_0 : decode b_L_shadow 0 = .ok (.aload_n 0, 1) := by decide +kernel
theorem d_L_shadow_1 : decode b_L_shadow 1 = .ok (.iload_n 1, 1) := by decide +kernel
theorem d_L_shadow_2 : decode b_L_shadow 2 = .ok (.iload_n 2, 1) := by decide +kernel
theorem d_L_shadow_3 : decode b_L_shadow 3 = .ok (.iload_n 3, 1) := by decide +kernel
theorem d_L_shadow_4 : decode b_L_shadow 4 = .ok (.invokevirtual 66, 3) := by decide +kernel
theorem d_L_shadow_7 : decode b_L_shadow 7 = .ok (.goto 11, 3) := by decide +kernel
theorem d_L_shadow_10 : decode b_L_shadow 10 = .ok (.astore 4, 2) := by decide +kernel
theorem d_L_shadow_12 : decode b_L_shadow 12 = .ok (.iconst 1, 1) := by decide +kernel
theorem d_L_shadow_13 : decode b_L_shadow 13 = .ok (.ireturn, 1) := by decide +kernel
theorem d_L_shadow_14 : decode b_L_shadow 14 = .ok (.astore 4, 2) := by decide +kernel
theorem d_L_shadow_16 : decode b_L_shadow 16 = .ok (.iconst 2, 1) := by decide +kernel
theorem d_L_shadow_17 : decode b_L_shadow 17 = .ok (.ireturn, 1) := by decide +kernel
theorem d_L_shadow_18 : decode b_L_shadow 18 = .ok (.iconst 0, 1) := by decide +kernel
theorem d_L_shadow_19 : decode b_L_shadow 19 = .ok (.ireturn, 1) := by decide +kernel
theorem d_L_otherwise_0 : decode b_L_otherwise 0 = .ok (.aload_n 3, 1) := by decide +kernel
theorem d_L_otherwise_1 : decode b_L_otherwise 1 = .ok (.iconst 0, 1) := by decide +kernel
theorem d_L_otherwise_2 : decode b_L_otherwise 2 = .ok (.aload_n 0, 1) := by decide +kernel
theorem d_L_otherwise_3 : decode b_L_otherwise 3 = .ok (.iload_n 1, 1) := by decide +kernel
theorem d_L_otherwise_4 : decode b_L_otherwise 4 = .ok (.iload_n 2, 1) := by decide +kernel
theorem d_L_otherwise_5 : decode b_L_otherwise 5 = .ok (.invokevirtual 70, 3) := by decide +kernel
theorem d_L_otherwise_8 : decode b_L_otherwise 8 = .ok (.i2l, 1) := by decide +kernel
theorem d_L_otherwise_9 : decode b_L_otherwise 9 = .ok (.lastore, 1) := by decide +kernel
theorem d_L_otherwise_10 : decode b_L_otherwise 10 = .ok (.goto 7, 3) := by decide +kernel
theorem d_L_otherwise_13 : decode b_L_otherwise 13 = .ok (.astore 4, 2) := by decide +kernel
theorem d_L_otherwise_15 : decode b_L_otherwise 15 = .ok (.iconst 1, 1) := by decide +kernel
theorem d_L_otherwise_16 : decode b_L_otherwise 16 = .ok (.ireturn, 1) := by decide +kernel
theorem d_L_otherwise_17 : decode b_L_otherwise 17 = .ok (.iconst 0, 1) := by decide +kernel
theorem d_L_otherwise_18 : decode b_L_otherwise 18 = .ok (.ireturn, 1) := by decide +kernel
theorem d_L_divide_0 : decode b_L_divide 0 = .ok (.aload_n 3, 1) := by decide +kernel
theorem d_L_divide_1 : decode b_L_divide 1 = .ok (.iconst 0, 1) := by decide +kernel
theorem d_L_divide_2 : decode b_L_divide 2 = .ok (.aload_n 0, 1) := by decide +kernel
theorem d_L_divide_3 : decode b_L_divide 3 = .ok (.iload_n 1, 1) := by decide +kernel
theorem d_L_divide_4 : decode b_L_divide 4 = .ok (.iload_n 2, 1) := by decide +kernel
theorem d_L_divide_5 : decode b_L_divide 5 = .ok (.invokevirtual 73, 3) := by decide +kernel
theorem d_L_divide_8 : decode b_L_divide 8 = .ok (.i2l, 1) := by decide +kernel
theorem d_L_divide_9 : decode b_L_divide 9 = .ok (.lastore, 1) := by decide +kernel
theorem d_L_divide_10 : decode b_L_divide 10 = .ok (.goto 7, 3) := by decide +kernel
theorem d_L_divide_13 : decode b_L_divide 13 = .ok (.astore 4, 2) := by decide +kernel
theorem d_L_divide_15 : decode b_L_divide 15 = .ok (.iconst 1, 1) := by decide +kernel
theorem d_L_divide_16 : decode b_L_divide 16 = .ok (.ireturn, 1) := by decide +kernel
theorem d_L_divide_17 : decode b_L_divide 17 = .ok (.iconst 0, 1) := by decide +kernel
theorem d_L_divide_18 : decode b_L_divide 18 = .ok (.ireturn, 1) := by decide +kernel
theorem d_L_told_0 : decode b_L_told 0 = .ok (.aload_n 3, 1) := by decide +kernel
theorem d_L_told_1 : decode b_L_told 1 = .ok (.iconst 0, 1) := by decide +kernel
theorem d_L_told_2 : decode b_L_told 2 = .ok (.aload_n 0, 1) := by decide +kernel
theorem d_L_told_3 : decode b_L_told 3 = .ok (.iload_n 1, 1) := by decide +kernel
theorem d_L_told_4 : decode b_L_told 4 = .ok (.iload_n 2, 1) := by decide +kernel
theorem d_L_told_5 : decode b_L_told 5 = .ok (.invokevirtual 78, 3) := by decide +kernel
theorem d_L_told_8 : decode b_L_told 8 = .ok (.i2l, 1) := by decide +kernel
theorem d_L_told_9 : decode b_L_told 9 = .ok (.lastore, 1) := by decide +kernel
theorem d_L_told_10 : decode b_L_told 10 = .ok (.goto 11, 3) := by decide +kernel
theorem d_L_told_13 : decode b_L_told 13 = .ok (.astore 4, 2) := by decide +kernel
theorem d_L_told_15 : decode b_L_told 15 = .ok (.iconst 1, 1) := by decide +kernel
theorem d_L_told_16 : decode b_L_told 16 = .ok (.ireturn, 1) := by decide +kernel
theorem d_L_told_17 : decode b_L_told 17 = .ok (.astore 4, 2) := by decide +kernel
theorem d_L_told_19 : decode b_L_told 19 = .ok (.iconst 2, 1) := by decide +kernel
theorem d_L_told_20 : decode b_L_told 20 = .ok (.ireturn, 1) := by decide +kernel
theorem d_L_told_21 : decode b_L_told 21 = .ok (.iconst 0, 1) := by decide +kernel
theorem d_L_told_22 : decode b_L_told 22 = .ok (.ireturn, 1) := by decide +kernel
theorem d_L_law_0 : decode code 0 = .ok (.new 8, 3) := by decide +kernel
theorem d_L_law_3 : decode code 3 = .ok (.dup, 1) := by decide +kernel
theorem d_L_law_4 : decode code 4 = .ok (.aload_n 0, 1) := by decide +kernel
theorem d_L_law_5 : decode code 5 = .ok (.iconst 0, 1) := by decide +kernel
theorem d_L_law_6 : decode code 6 = .ok (.invokestatic 81, 3) := by decide +kernel
theorem d_L_law_9 : decode code 9 = .ok (.invokespecial 87, 3) := by decide +kernel
theorem d_L_law_12 : decode code 12 = .ok (.astore_n 1, 1) := by decide +kernel
theorem d_L_law_13 : decode code 13 = .ok (.new 89, 3) := by decide +kernel
theorem d_L_law_16 : decode code 16 = .ok (.dup, 1) := by decide +kernel
theorem d_L_law_17 : decode code 17 = .ok (.aload_n 0, 1) := by decide +kernel
theorem d_L_law_18 : decode code 18 = .ok (.iconst 0, 1) := by decide +kernel
theorem d_L_law_19 : decode code 19 = .ok (.invokestatic 81, 3) := by decide +kernel
theorem d_L_law_22 : decode code 22 = .ok (.invokespecial 91, 3) := by decide +kernel
theorem d_L_law_25 : decode code 25 = .ok (.astore_n 2, 1) := by decide +kernel
theorem d_L_law_26 : decode code 26 = .ok (.iconst 1, 1) := by decide +kernel
theorem d_L_law_27 : decode code 27 = .ok (.newarray .long, 2) := by decide +kernel
theorem d_L_law_29 : decode code 29 = .ok (.astore_n 3, 1) := by decide +kernel
theorem d_L_law_30 : decode code 30 = .ok (.iconst 1, 1) := by decide +kernel
theorem d_L_law_31 : decode code 31 = .ok (.istore 4, 2) := by decide +kernel
theorem d_L_law_33 : decode code 33 = .ok (.iload 4, 2) := by decide +kernel
theorem d_L_law_35 : decode code 35 = .ok (.aload_n 0, 1) := by decide +kernel
theorem d_L_law_36 : decode code 36 = .ok (.arraylength, 1) := by decide +kernel
theorem d_L_law_37 : decode code 37 = .ok (.iconst 4, 1) := by decide +kernel
theorem d_L_law_38 : decode code 38 = .ok (.isub, 1) := by decide +kernel
theorem d_L_law_39 : decode code 39 = .ok (.if_icmp .gt 1259, 3) := by decide +kernel
theorem d_L_law_42 : decode code 42 = .ok (.aload_n 0, 1) := by decide +kernel
theorem d_L_law_43 : decode code 43 = .ok (.iload 4, 2) := by decide +kernel
theorem d_L_law_45 : decode code 45 = .ok (.iaload, 1) := by decide +kernel
theorem d_L_law_46 : decode code 46 = .ok (.bipush 31, 2) := by decide +kernel
theorem d_L_law_48 : decode code 48 = .ok (.iand, 1) := by decide +kernel
theorem d_L_law_49 : decode code 49 = .ok (.tableswitch 1243 0 18 #[91, 127, 207, 287, 343, 391, 459, 507, 587, 655, 711, 767, 811, 879, 954, 1014, 1082, 1150, 1218], 91) := by decide +kernel
theorem d_L_law_140 : decode code 140 = .ok (.aload_n 1, 1) := by decide +kernel
theorem d_L_law_141 : decode code 141 = .ok (.aload_n 0, 1) := by decide +kernel
theorem d_L_law_142 : decode code 142 = .ok (.iload 4, 2) := by decide +kernel
theorem d_L_law_144 : decode code 144 = .ok (.iconst 1, 1) := by decide +kernel
theorem d_L_law_145 : decode code 145 = .ok (.iadd, 1) := by decide +kernel
theorem d_L_law_146 : decode code 146 = .ok (.iaload, 1) := by decide +kernel
theorem d_L_law_147 : decode code 147 = .ok (.invokestatic 92, 3) := by decide +kernel
theorem d_L_law_150 : decode code 150 = .ok (.istore 5, 2) := by decide +kernel
theorem d_L_law_152 : decode code 152 = .ok (.aload_n 2, 1) := by decide +kernel
theorem d_L_law_153 : decode code 153 = .ok (.aload_n 0, 1) := by decide +kernel
theorem d_L_law_154 : decode code 154 = .ok (.iload 4, 2) := by decide +kernel
theorem d_L_law_156 : decode code 156 = .ok (.iconst 1, 1) := by decide +kernel
theorem d_L_law_157 : decode code 157 = .ok (.iadd, 1) := by decide +kernel
theorem d_L_law_158 : decode code 158 = .ok (.iaload, 1) := by decide +kernel
theorem d_L_law_159 : decode code 159 = .ok (.invokevirtual 95, 3) := by decide +kernel
theorem d_L_law_162 : decode code 162 = .ok (.aload_n 2, 1) := by decide +kernel
theorem d_L_law_163 : decode code 163 = .ok (.invokevirtual 96, 3) := by decide +kernel
theorem d_L_law_166 : decode code 166 = .ok (.iload 5, 2) := by decide +kernel
theorem d_L_law_168 : decode code 168 = .ok (.if_icmp .eq 5, 3) := by decide +kernel
theorem d_L_law_171 : decode code 171 = .ok (.iconst 0, 1) := by decide +kernel
theorem d_L_law_172 : decode code 172 = .ok (.ireturn, 1) := by decide +kernel
theorem d_L_law_173 : decode code 173 = .ok (.goto 1119, 3) := by decide +kernel
theorem d_L_law_176 : decode code 176 = .ok (.aload_n 1, 1) := by decide +kernel
theorem d_L_law_177 : decode code 177 = .ok (.aload_n 0, 1) := by decide +kernel
theorem d_L_law_178 : decode code 178 = .ok (.iload 4, 2) := by decide +kernel
theorem d_L_law_180 : decode code 180 = .ok (.iconst 1, 1) := by decide +kernel
theorem d_L_law_181 : decode code 181 = .ok (.iadd, 1) := by decide +kernel
theorem d_L_law_182 : decode code 182 = .ok (.iaload, 1) := by decide +kernel
theorem d_L_law_183 : decode code 183 = .ok (.aload_n 0, 1) := by decide +kernel
theorem d_L_law_184 : decode code 184 = .ok (.iload 4, 2) := by decide +kernel
theorem d_L_law_186 : decode code 186 = .ok (.iconst 2, 1) := by decide +kernel
theorem d_L_law_187 : decode code 187 = .ok (.iadd, 1) := by decide +kernel
theorem d_L_law_188 : decode code 188 = .ok (.iaload, 1) := by decide +kernel
theorem d_L_law_189 : decode code 189 = .ok (.aload_n 0, 1) := by decide +kernel
theorem d_L_law_190 : decode code 190 = .ok (.iload 4, 2) := by decide +kernel
theorem d_L_law_192 : decode code 192 = .ok (.iconst 3, 1) := by decide +kernel
theorem d_L_law_193 : decode code 193 = .ok (.iadd, 1) := by decide +kernel
theorem d_L_law_194 : decode code 194 = .ok (.iaload, 1) := by decide +kernel
theorem d_L_law_195 : decode code 195 = .ok (.aload_n 3, 1) := by decide +kernel
theorem d_L_law_196 : decode code 196 = .ok (.invokestatic 99, 3) := by decide +kernel
theorem d_L_law_199 : decode code 199 = .ok (.istore 5, 2) := by decide +kernel
theorem d_L_law_201 : decode code 201 = .ok (.aload_n 2, 1) := by decide +kernel
theorem d_L_law_202 : decode code 202 = .ok (.aload_n 0, 1) := by decide +kernel
theorem d_L_law_203 : decode code 203 = .ok (.iload 4, 2) := by decide +kernel
theorem d_L_law_205 : decode code 205 = .ok (.iconst 1, 1) := by decide +kernel
theorem d_L_law_206 : decode code 206 = .ok (.iadd, 1) := by decide +kernel
theorem d_L_law_207 : decode code 207 = .ok (.iaload, 1) := by decide +kernel
theorem d_L_law_208 : decode code 208 = .ok (.aload_n 0, 1) := by decide +kernel
theorem d_L_law_209 : decode code 209 = .ok (.iload 4, 2) := by decide +kernel
theorem d_L_law_211 : decode code 211 = .ok (.iconst 2, 1) := by decide +kernel
theorem d_L_law_212 : decode code 212 = .ok (.iadd, 1) := by decide +kernel
theorem d_L_law_213 : decode code 213 = .ok (.iaload, 1) := by decide +kernel
theorem d_L_law_214 : decode code 214 = .ok (.aload_n 0, 1) := by decide +kernel
theorem d_L_law_215 : decode code 215 = .ok (.iload 4, 2) := by decide +kernel
theorem d_L_law_217 : decode code 217 = .ok (.iconst 3, 1) := by decide +kernel
theorem d_L_law_218 : decode code 218 = .ok (.iadd, 1) := by decide +kernel
theorem d_L_law_219 : decode code 219 = .ok (.iaload, 1) := by decide +kernel
theorem d_L_law_220 : decode code 220 = .ok (.invokevirtual 102, 3) := by decide +kernel
theorem d_L_law_223 : decode code 223 = .ok (.istore 6, 2) := by decide +kernel
theorem d_L_law_225 : decode code 225 = .ok (.aload_n 2, 1) := by decide +kernel
theorem d_L_law_226 : decode code 226 = .ok (.invokevirtual 96, 3) := by decide +kernel
theorem d_L_law_229 : decode code 229 = .ok (.iload 5, 2) := by decide +kernel
theorem d_L_law_231 : decode code 231 = .ok (.if_icmp .eq 5, 3) := by decide +kernel
theorem d_L_law_234 : decode code 234 = .ok (.iconst 0, 1) := by decide +kernel
theorem d_L_law_235 : decode code 235 = .ok (.ireturn, 1) := by decide +kernel
theorem d_L_law_236 : decode code 236 = .ok (.iload 5, 2) := by decide +kernel
theorem d_L_law_238 : decode code 238 = .ok (.ifCond .ne 15, 3) := by decide +kernel
theorem d_L_law_241 : decode code 241 = .ok (.aload_n 3, 1) := by decide +kernel
theorem d_L_law_242 : decode code 242 = .ok (.iconst 0, 1) := by decide +kernel
theorem d_L_law_243 : decode code 243 = .ok (.laload, 1) := by decide +kernel
theorem d_L_law_244 : decode code 244 = .ok (.iload 6, 2) := by decide +kernel
theorem d_L_law_246 : decode code 246 = .ok (.i2l, 1) := by decide +kernel
theorem d_L_law_247 : decode code 247 = .ok (.lcmp, 1) := by decide +kernel
theorem d_L_law_248 : decode code 248 = .ok (.ifCond .eq 5, 3) := by decide +kernel
theorem d_L_law_251 : decode code 251 = .ok (.iconst 0, 1) := by decide +kernel
theorem d_L_law_252 : decode code 252 = .ok (.ireturn, 1) := by decide +kernel
theorem d_L_law_253 : decode code 253 = .ok (.goto 1039, 3) := by decide +kernel
theorem d_L_law_256 : decode code 256 = .ok (.aload_n 1, 1) := by decide +kernel
theorem d_L_law_257 : decode code 257 = .ok (.aload_n 0, 1) := by decide +kernel
theorem d_L_law_258 : decode code 258 = .ok (.iload 4, 2) := by decide +kernel
theorem d_L_law_260 : decode code 260 = .ok (.iconst 1, 1) := by decide +kernel
theorem d_L_law_261 : decode code 261 = .ok (.iadd, 1) := by decide +kernel
theorem d_L_law_262 : decode code 262 = .ok (.iaload, 1) := by decide +kernel
theorem d_L_law_263 : decode code 263 = .ok (.aload_n 0, 1) := by decide +kernel
theorem d_L_law_264 : decode code 264 = .ok (.iload 4, 2) := by decide +kernel
theorem d_L_law_266 : decode code 266 = .ok (.iconst 2, 1) := by decide +kernel
theorem d_L_law_267 : decode code 267 = .ok (.iadd, 1) := by decide +kernel
theorem d_L_law_268 : decode code 268 = .ok (.iaload, 1) := by decide +kernel
theorem d_L_law_269 : decode code 269 = .ok (.aload_n 0, 1) := by decide +kernel
theorem d_L_law_270 : decode code 270 = .ok (.iload 4, 2) := by decide +kernel
theorem d_L_law_272 : decode code 272 = .ok (.iconst 3, 1) := by decide +kernel
theorem d_L_law_273 : decode code 273 = .ok (.iadd, 1) := by decide +kernel
theorem d_L_law_274 : decode code 274 = .ok (.iaload, 1) := by decide +kernel
theorem d_L_law_275 : decode code 275 = .ok (.aload_n 3, 1) := by decide +kernel
theorem d_L_law_276 : decode code 276 = .ok (.invokestatic 103, 3) := by decide +kernel
theorem d_L_law_279 : decode code 279 = .ok (.istore 5, 2) := by decide +kernel
theorem d_L_law_281 : decode code 281 = .ok (.aload_n 2, 1) := by decide +kernel
theorem d_L_law_282 : decode code 282 = .ok (.aload_n 0, 1) := by decide +kernel
theorem d_L_law_283 : decode code 283 = .ok (.iload 4, 2) := by decide +kernel
theorem d_L_law_285 : decode code 285 = .ok (.iconst 1, 1) := by decide +kernel
theorem d_L_law_286 : decode code 286 = .ok (.iadd, 1) := by decide +kernel
theorem d_L_law_287 : decode code 287 = .ok (.iaload, 1) := by decide +kernel
theorem d_L_law_288 : decode code 288 = .ok (.aload_n 0, 1) := by decide +kernel
theorem d_L_law_289 : decode code 289 = .ok (.iload 4, 2) := by decide +kernel
theorem d_L_law_291 : decode code 291 = .ok (.iconst 2, 1) := by decide +kernel
theorem d_L_law_292 : decode code 292 = .ok (.iadd, 1) := by decide +kernel
theorem d_L_law_293 : decode code 293 = .ok (.iaload, 1) := by decide +kernel
theorem d_L_law_294 : decode code 294 = .ok (.aload_n 0, 1) := by decide +kernel
theorem d_L_law_295 : decode code 295 = .ok (.iload 4, 2) := by decide +kernel
theorem d_L_law_297 : decode code 297 = .ok (.iconst 3, 1) := by decide +kernel
theorem d_L_law_298 : decode code 298 = .ok (.iadd, 1) := by decide +kernel
theorem d_L_law_299 : decode code 299 = .ok (.iaload, 1) := by decide +kernel
theorem d_L_law_300 : decode code 300 = .ok (.invokevirtual 105, 3) := by decide +kernel
theorem d_L_law_303 : decode code 303 = .ok (.istore 6, 2) := by decide +kernel
theorem d_L_law_305 : decode code 305 = .ok (.aload_n 2, 1) := by decide +kernel
theorem d_L_law_306 : decode code 306 = .ok (.invokevirtual 96, 3) := by decide +kernel
theorem d_L_law_309 : decode code 309 = .ok (.iload 5, 2) := by decide +kernel
theorem d_L_law_311 : decode code 311 = .ok (.if_icmp .eq 5, 3) := by decide +kernel
theorem d_L_law_314 : decode code 314 = .ok (.iconst 0, 1) := by decide +kernel
theorem d_L_law_315 : decode code 315 = .ok (.ireturn, 1) := by decide +kernel
theorem d_L_law_316 : decode code 316 = .ok (.iload 5, 2) := by decide +kernel
theorem d_L_law_318 : decode code 318 = .ok (.ifCond .ne 15, 3) := by decide +kernel
theorem d_L_law_321 : decode code 321 = .ok (.aload_n 3, 1) := by decide +kernel
theorem d_L_law_322 : decode code 322 = .ok (.iconst 0, 1) := by decide +kernel
theorem d_L_law_323 : decode code 323 = .ok (.laload, 1) := by decide +kernel
theorem d_L_law_324 : decode code 324 = .ok (.iload 6, 2) := by decide +kernel
theorem d_L_law_326 : decode code 326 = .ok (.i2l, 1) := by decide +kernel
theorem d_L_law_327 : decode code 327 = .ok (.lcmp, 1) := by decide +kernel
theorem d_L_law_328 : decode code 328 = .ok (.ifCond .eq 5, 3) := by decide +kernel
theorem d_L_law_331 : decode code 331 = .ok (.iconst 0, 1) := by decide +kernel
theorem d_L_law_332 : decode code 332 = .ok (.ireturn, 1) := by decide +kernel
theorem d_L_law_333 : decode code 333 = .ok (.goto 959, 3) := by decide +kernel
theorem d_L_law_336 : decode code 336 = .ok (.aload_n 1, 1) := by decide +kernel
theorem d_L_law_337 : decode code 337 = .ok (.aload_n 0, 1) := by decide +kernel
theorem d_L_law_338 : decode code 338 = .ok (.iload 4, 2) := by decide +kernel
theorem d_L_law_340 : decode code 340 = .ok (.iconst 1, 1) := by decide +kernel
theorem d_L_law_341 : decode code 341 = .ok (.iadd, 1) := by decide +kernel
theorem d_L_law_342 : decode code 342 = .ok (.iaload, 1) := by decide +kernel
theorem d_L_law_343 : decode code 343 = .ok (.aload_n 3, 1) := by decide +kernel
theorem d_L_law_344 : decode code 344 = .ok (.invokestatic 106, 3) := by decide +kernel
theorem d_L_law_347 : decode code 347 = .ok (.istore 5, 2) := by decide +kernel
theorem d_L_law_349 : decode code 349 = .ok (.aload_n 2, 1) := by decide +kernel
theorem d_L_law_350 : decode code 350 = .ok (.aload_n 0, 1) := by decide +kernel
theorem d_L_law_351 : decode code 351 = .ok (.iload 4, 2) := by decide +kernel
theorem d_L_law_353 : decode code 353 = .ok (.iconst 1, 1) := by decide +kernel
theorem d_L_law_354 : decode code 354 = .ok (.iadd, 1) := by decide +kernel
theorem d_L_law_355 : decode code 355 = .ok (.iaload, 1) := by decide +kernel
theorem d_L_law_356 : decode code 356 = .ok (.invokevirtual 109, 3) := by decide +kernel
theorem d_L_law_359 : decode code 359 = .ok (.istore 6, 2) := by decide +kernel
theorem d_L_law_361 : decode code 361 = .ok (.aload_n 2, 1) := by decide +kernel
theorem d_L_law_362 : decode code 362 = .ok (.invokevirtual 96, 3) := by decide +kernel
theorem d_L_law_365 : decode code 365 = .ok (.iload 5, 2) := by decide +kernel
theorem d_L_law_367 : decode code 367 = .ok (.if_icmp .eq 5, 3) := by decide +kernel
theorem d_L_law_370 : decode code 370 = .ok (.iconst 0, 1) := by decide +kernel
theorem d_L_law_371 : decode code 371 = .ok (.ireturn, 1) := by decide +kernel
theorem d_L_law_372 : decode code 372 = .ok (.iload 5, 2) := by decide +kernel
theorem d_L_law_374 : decode code 374 = .ok (.ifCond .ne 15, 3) := by decide +kernel
theorem d_L_law_377 : decode code 377 = .ok (.aload_n 3, 1) := by decide +kernel
theorem d_L_law_378 : decode code 378 = .ok (.iconst 0, 1) := by decide +kernel
theorem d_L_law_379 : decode code 379 = .ok (.laload, 1) := by decide +kernel
theorem d_L_law_380 : decode code 380 = .ok (.iload 6, 2) := by decide +kernel
theorem d_L_law_382 : decode code 382 = .ok (.i2l, 1) := by decide +kernel
theorem d_L_law_383 : decode code 383 = .ok (.lcmp, 1) := by decide +kernel
theorem d_L_law_384 : decode code 384 = .ok (.ifCond .eq 5, 3) := by decide +kernel
theorem d_L_law_387 : decode code 387 = .ok (.iconst 0, 1) := by decide +kernel
theorem d_L_law_388 : decode code 388 = .ok (.ireturn, 1) := by decide +kernel
theorem d_L_law_389 : decode code 389 = .ok (.goto 903, 3) := by decide +kernel
theorem d_L_law_392 : decode code 392 = .ok (.aload_n 1, 1) := by decide +kernel
theorem d_L_law_393 : decode code 393 = .ok (.aload_n 0, 1) := by decide +kernel
theorem d_L_law_394 : decode code 394 = .ok (.iload 4, 2) := by decide +kernel
theorem d_L_law_396 : decode code 396 = .ok (.iconst 1, 1) := by decide +kernel
theorem d_L_law_397 : decode code 397 = .ok (.iadd, 1) := by decide +kernel
theorem d_L_law_398 : decode code 398 = .ok (.iaload, 1) := by decide +kernel
theorem d_L_law_399 : decode code 399 = .ok (.aload_n 0, 1) := by decide +kernel
theorem d_L_law_400 : decode code 400 = .ok (.iload 4, 2) := by decide +kernel
theorem d_L_law_402 : decode code 402 = .ok (.iconst 2, 1) := by decide +kernel
theorem d_L_law_403 : decode code 403 = .ok (.iadd, 1) := by decide +kernel
theorem d_L_law_404 : decode code 404 = .ok (.iaload, 1) := by decide +kernel
theorem d_L_law_405 : decode code 405 = .ok (.invokestatic 110, 3) := by decide +kernel
theorem d_L_law_408 : decode code 408 = .ok (.istore 5, 2) := by decide +kernel
theorem d_L_law_410 : decode code 410 = .ok (.aload_n 2, 1) := by decide +kernel
theorem d_L_law_411 : decode code 411 = .ok (.aload_n 0, 1) := by decide +kernel
theorem d_L_law_412 : decode code 412 = .ok (.iload 4, 2) := by decide +kernel
theorem d_L_law_414 : decode code 414 = .ok (.iconst 1, 1) := by decide +kernel
theorem d_L_law_415 : decode code 415 = .ok (.iadd, 1) := by decide +kernel
theorem d_L_law_416 : decode code 416 = .ok (.iaload, 1) := by decide +kernel
theorem d_L_law_417 : decode code 417 = .ok (.aload_n 0, 1) := by decide +kernel
theorem d_L_law_418 : decode code 418 = .ok (.iload 4, 2) := by decide +kernel
theorem d_L_law_420 : decode code 420 = .ok (.iconst 2, 1) := by decide +kernel
theorem d_L_law_421 : decode code 421 = .ok (.iadd, 1) := by decide +kernel
theorem d_L_law_422 : decode code 422 = .ok (.iaload, 1) := by decide +kernel
theorem d_L_law_423 : decode code 423 = .ok (.invokevirtual 113, 3) := by decide +kernel
theorem d_L_law_426 : decode code 426 = .ok (.aload_n 2, 1) := by decide +kernel
theorem d_L_law_427 : decode code 427 = .ok (.invokevirtual 96, 3) := by decide +kernel
theorem d_L_law_430 : decode code 430 = .ok (.iload 5, 2) := by decide +kernel
theorem d_L_law_432 : decode code 432 = .ok (.if_icmp .eq 5, 3) := by decide +kernel
theorem d_L_law_435 : decode code 435 = .ok (.iconst 0, 1) := by decide +kernel
theorem d_L_law_436 : decode code 436 = .ok (.ireturn, 1) := by decide +kernel
theorem d_L_law_437 : decode code 437 = .ok (.goto 855, 3) := by decide +kernel
theorem d_L_law_440 : decode code 440 = .ok (.aload_n 1, 1) := by decide +kernel
theorem d_L_law_441 : decode code 441 = .ok (.aload_n 0, 1) := by decide +kernel
theorem d_L_law_442 : decode code 442 = .ok (.iload 4, 2) := by decide +kernel
theorem d_L_law_444 : decode code 444 = .ok (.iconst 1, 1) := by decide +kernel
theorem d_L_law_445 : decode code 445 = .ok (.iadd, 1) := by decide +kernel
theorem d_L_law_446 : decode code 446 = .ok (.iaload, 1) := by decide +kernel
theorem d_L_law_447 : decode code 447 = .ok (.aload_n 0, 1) := by decide +kernel
theorem d_L_law_448 : decode code 448 = .ok (.iload 4, 2) := by decide +kernel
theorem d_L_law_450 : decode code 450 = .ok (.iconst 2, 1) := by decide +kernel
theorem d_L_law_451 : decode code 451 = .ok (.iadd, 1) := by decide +kernel
theorem d_L_law_452 : decode code 452 = .ok (.iaload, 1) := by decide +kernel
theorem d_L_law_453 : decode code 453 = .ok (.aload_n 3, 1) := by decide +kernel
theorem d_L_law_454 : decode code 454 = .ok (.invokestatic 114, 3) := by decide +kernel
theorem d_L_law_457 : decode code 457 = .ok (.istore 5, 2) := by decide +kernel
theorem d_L_law_459 : decode code 459 = .ok (.aload_n 2, 1) := by decide +kernel
theorem d_L_law_460 : decode code 460 = .ok (.aload_n 0, 1) := by decide +kernel
theorem d_L_law_461 : decode code 461 = .ok (.iload 4, 2) := by decide +kernel
theorem d_L_law_463 : decode code 463 = .ok (.iconst 1, 1) := by decide +kernel
theorem d_L_law_464 : decode code 464 = .ok (.iadd, 1) := by decide +kernel
theorem d_L_law_465 : decode code 465 = .ok (.iaload, 1) := by decide +kernel
theorem d_L_law_466 : decode code 466 = .ok (.aload_n 0, 1) := by decide +kernel
theorem d_L_law_467 : decode code 467 = .ok (.iload 4, 2) := by decide +kernel
theorem d_L_law_469 : decode code 469 = .ok (.iconst 2, 1) := by decide +kernel
theorem d_L_law_470 : decode code 470 = .ok (.iadd, 1) := by decide +kernel
theorem d_L_law_471 : decode code 471 = .ok (.iaload, 1) := by decide +kernel
theorem d_L_law_472 : decode code 472 = .ok (.invokevirtual 117, 3) := by decide +kernel
theorem d_L_law_475 : decode code 475 = .ok (.istore 6, 2) := by decide +kernel
theorem d_L_law_477 : decode code 477 = .ok (.aload_n 2, 1) := by decide +kernel
theorem d_L_law_478 : decode code 478 = .ok (.invokevirtual 96, 3) := by decide +kernel
theorem d_L_law_481 : decode code 481 = .ok (.iload 5, 2) := by decide +kernel
theorem d_L_law_483 : decode code 483 = .ok (.if_icmp .eq 5, 3) := by decide +kernel
theorem d_L_law_486 : decode code 486 = .ok (.iconst 0, 1) := by decide +kernel
theorem d_L_law_487 : decode code 487 = .ok (.ireturn, 1) := by decide +kernel
theorem d_L_law_488 : decode code 488 = .ok (.iload 5, 2) := by decide +kernel
theorem d_L_law_490 : decode code 490 = .ok (.ifCond .ne 15, 3) := by decide +kernel
theorem d_L_law_493 : decode code 493 = .ok (.aload_n 3, 1) := by decide +kernel
theorem d_L_law_494 : decode code 494 = .ok (.iconst 0, 1) := by decide +kernel
theorem d_L_law_495 : decode code 495 = .ok (.laload, 1) := by decide +kernel
theorem d_L_law_496 : decode code 496 = .ok (.iload 6, 2) := by decide +kernel
theorem d_L_law_498 : decode code 498 = .ok (.i2l, 1) := by decide +kernel
theorem d_L_law_499 : decode code 499 = .ok (.lcmp, 1) := by decide +kernel
theorem d_L_law_500 : decode code 500 = .ok (.ifCond .eq 5, 3) := by decide +kernel
theorem d_L_law_503 : decode code 503 = .ok (.iconst 0, 1) := by decide +kernel
theorem d_L_law_504 : decode code 504 = .ok (.ireturn, 1) := by decide +kernel
theorem d_L_law_505 : decode code 505 = .ok (.goto 787, 3) := by decide +kernel
theorem d_L_law_508 : decode code 508 = .ok (.aload_n 1, 1) := by decide +kernel
theorem d_L_law_509 : decode code 509 = .ok (.aload_n 0, 1) := by decide +kernel
theorem d_L_law_510 : decode code 510 = .ok (.iload 4, 2) := by decide +kernel
theorem d_L_law_512 : decode code 512 = .ok (.iconst 1, 1) := by decide +kernel
theorem d_L_law_513 : decode code 513 = .ok (.iadd, 1) := by decide +kernel
theorem d_L_law_514 : decode code 514 = .ok (.iaload, 1) := by decide +kernel
theorem d_L_law_515 : decode code 515 = .ok (.aload_n 0, 1) := by decide +kernel
theorem d_L_law_516 : decode code 516 = .ok (.iload 4, 2) := by decide +kernel
theorem d_L_law_518 : decode code 518 = .ok (.iconst 2, 1) := by decide +kernel
theorem d_L_law_519 : decode code 519 = .ok (.iadd, 1) := by decide +kernel
theorem d_L_law_520 : decode code 520 = .ok (.iaload, 1) := by decide +kernel
theorem d_L_law_521 : decode code 521 = .ok (.invokestatic 118, 3) := by decide +kernel
theorem d_L_law_524 : decode code 524 = .ok (.istore 5, 2) := by decide +kernel
theorem d_L_law_526 : decode code 526 = .ok (.aload_n 2, 1) := by decide +kernel
theorem d_L_law_527 : decode code 527 = .ok (.aload_n 0, 1) := by decide +kernel
theorem d_L_law_528 : decode code 528 = .ok (.iload 4, 2) := by decide +kernel
theorem d_L_law_530 : decode code 530 = .ok (.iconst 1, 1) := by decide +kernel
theorem d_L_law_531 : decode code 531 = .ok (.iadd, 1) := by decide +kernel
theorem d_L_law_532 : decode code 532 = .ok (.iaload, 1) := by decide +kernel
theorem d_L_law_533 : decode code 533 = .ok (.aload_n 0, 1) := by decide +kernel
theorem d_L_law_534 : decode code 534 = .ok (.iload 4, 2) := by decide +kernel
theorem d_L_law_536 : decode code 536 = .ok (.iconst 2, 1) := by decide +kernel
theorem d_L_law_537 : decode code 537 = .ok (.iadd, 1) := by decide +kernel
theorem d_L_law_538 : decode code 538 = .ok (.iaload, 1) := by decide +kernel
theorem d_L_law_539 : decode code 539 = .ok (.invokevirtual 120, 3) := by decide +kernel
theorem d_L_law_542 : decode code 542 = .ok (.aload_n 2, 1) := by decide +kernel
theorem d_L_law_543 : decode code 543 = .ok (.invokevirtual 96, 3) := by decide +kernel
theorem d_L_law_546 : decode code 546 = .ok (.iload 5, 2) := by decide +kernel
theorem d_L_law_548 : decode code 548 = .ok (.if_icmp .eq 5, 3) := by decide +kernel
theorem d_L_law_551 : decode code 551 = .ok (.iconst 0, 1) := by decide +kernel
theorem d_L_law_552 : decode code 552 = .ok (.ireturn, 1) := by decide +kernel
theorem d_L_law_553 : decode code 553 = .ok (.goto 739, 3) := by decide +kernel
theorem d_L_law_556 : decode code 556 = .ok (.aload_n 1, 1) := by decide +kernel
theorem d_L_law_557 : decode code 557 = .ok (.aload_n 0, 1) := by decide +kernel
theorem d_L_law_558 : decode code 558 = .ok (.iload 4, 2) := by decide +kernel
theorem d_L_law_560 : decode code 560 = .ok (.iconst 1, 1) := by decide +kernel
theorem d_L_law_561 : decode code 561 = .ok (.iadd, 1) := by decide +kernel
theorem d_L_law_562 : decode code 562 = .ok (.iaload, 1) := by decide +kernel
theorem d_L_law_563 : decode code 563 = .ok (.aload_n 0, 1) := by decide +kernel
theorem d_L_law_564 : decode code 564 = .ok (.iload 4, 2) := by decide +kernel
theorem d_L_law_566 : decode code 566 = .ok (.iconst 2, 1) := by decide +kernel
theorem d_L_law_567 : decode code 567 = .ok (.iadd, 1) := by decide +kernel
theorem d_L_law_568 : decode code 568 = .ok (.iaload, 1) := by decide +kernel
theorem d_L_law_569 : decode code 569 = .ok (.aload_n 0, 1) := by decide +kernel
theorem d_L_law_570 : decode code 570 = .ok (.iload 4, 2) := by decide +kernel
theorem d_L_law_572 : decode code 572 = .ok (.iconst 3, 1) := by decide +kernel
theorem d_L_law_573 : decode code 573 = .ok (.iadd, 1) := by decide +kernel
theorem d_L_law_574 : decode code 574 = .ok (.iaload, 1) := by decide +kernel
theorem d_L_law_575 : decode code 575 = .ok (.aload_n 3, 1) := by decide +kernel
theorem d_L_law_576 : decode code 576 = .ok (.invokestatic 121, 3) := by decide +kernel
theorem d_L_law_579 : decode code 579 = .ok (.istore 5, 2) := by decide +kernel
theorem d_L_law_581 : decode code 581 = .ok (.aload_n 2, 1) := by decide +kernel
theorem d_L_law_582 : decode code 582 = .ok (.aload_n 0, 1) := by decide +kernel
theorem d_L_law_583 : decode code 583 = .ok (.iload 4, 2) := by decide +kernel
theorem d_L_law_585 : decode code 585 = .ok (.iconst 1, 1) := by decide +kernel
theorem d_L_law_586 : decode code 586 = .ok (.iadd, 1) := by decide +kernel
theorem d_L_law_587 : decode code 587 = .ok (.iaload, 1) := by decide +kernel
theorem d_L_law_588 : decode code 588 = .ok (.aload_n 0, 1) := by decide +kernel
theorem d_L_law_589 : decode code 589 = .ok (.iload 4, 2) := by decide +kernel
theorem d_L_law_591 : decode code 591 = .ok (.iconst 2, 1) := by decide +kernel
theorem d_L_law_592 : decode code 592 = .ok (.iadd, 1) := by decide +kernel
theorem d_L_law_593 : decode code 593 = .ok (.iaload, 1) := by decide +kernel
theorem d_L_law_594 : decode code 594 = .ok (.aload_n 0, 1) := by decide +kernel
theorem d_L_law_595 : decode code 595 = .ok (.iload 4, 2) := by decide +kernel
theorem d_L_law_597 : decode code 597 = .ok (.iconst 3, 1) := by decide +kernel
theorem d_L_law_598 : decode code 598 = .ok (.iadd, 1) := by decide +kernel
theorem d_L_law_599 : decode code 599 = .ok (.iaload, 1) := by decide +kernel
theorem d_L_law_600 : decode code 600 = .ok (.invokevirtual 123, 3) := by decide +kernel
theorem d_L_law_603 : decode code 603 = .ok (.istore 6, 2) := by decide +kernel
theorem d_L_law_605 : decode code 605 = .ok (.aload_n 2, 1) := by decide +kernel
theorem d_L_law_606 : decode code 606 = .ok (.invokevirtual 96, 3) := by decide +kernel
theorem d_L_law_609 : decode code 609 = .ok (.iload 5, 2) := by decide +kernel
theorem d_L_law_611 : decode code 611 = .ok (.if_icmp .eq 5, 3) := by decide +kernel
theorem d_L_law_614 : decode code 614 = .ok (.iconst 0, 1) := by decide +kernel
theorem d_L_law_615 : decode code 615 = .ok (.ireturn, 1) := by decide +kernel
theorem d_L_law_616 : decode code 616 = .ok (.iload 5, 2) := by decide +kernel
theorem d_L_law_618 : decode code 618 = .ok (.ifCond .ne 15, 3) := by decide +kernel
theorem d_L_law_621 : decode code 621 = .ok (.aload_n 3, 1) := by decide +kernel
theorem d_L_law_622 : decode code 622 = .ok (.iconst 0, 1) := by decide +kernel
theorem d_L_law_623 : decode code 623 = .ok (.laload, 1) := by decide +kernel
theorem d_L_law_624 : decode code 624 = .ok (.iload 6, 2) := by decide +kernel
theorem d_L_law_626 : decode code 626 = .ok (.i2l, 1) := by decide +kernel
theorem d_L_law_627 : decode code 627 = .ok (.lcmp, 1) := by decide +kernel
theorem d_L_law_628 : decode code 628 = .ok (.ifCond .eq 5, 3) := by decide +kernel
theorem d_L_law_631 : decode code 631 = .ok (.iconst 0, 1) := by decide +kernel
theorem d_L_law_632 : decode code 632 = .ok (.ireturn, 1) := by decide +kernel
theorem d_L_law_633 : decode code 633 = .ok (.goto 659, 3) := by decide +kernel
theorem d_L_law_636 : decode code 636 = .ok (.aload_n 1, 1) := by decide +kernel
theorem d_L_law_637 : decode code 637 = .ok (.aload_n 0, 1) := by decide +kernel
theorem d_L_law_638 : decode code 638 = .ok (.iload 4, 2) := by decide +kernel
theorem d_L_law_640 : decode code 640 = .ok (.iconst 1, 1) := by decide +kernel
theorem d_L_law_641 : decode code 641 = .ok (.iadd, 1) := by decide +kernel
theorem d_L_law_642 : decode code 642 = .ok (.iaload, 1) := by decide +kernel
theorem d_L_law_643 : decode code 643 = .ok (.aload_n 0, 1) := by decide +kernel
theorem d_L_law_644 : decode code 644 = .ok (.iload 4, 2) := by decide +kernel
theorem d_L_law_646 : decode code 646 = .ok (.iconst 2, 1) := by decide +kernel
theorem d_L_law_647 : decode code 647 = .ok (.iadd, 1) := by decide +kernel
theorem d_L_law_648 : decode code 648 = .ok (.iaload, 1) := by decide +kernel
theorem d_L_law_649 : decode code 649 = .ok (.aload_n 3, 1) := by decide +kernel
theorem d_L_law_650 : decode code 650 = .ok (.invokestatic 124, 3) := by decide +kernel
theorem d_L_law_653 : decode code 653 = .ok (.istore 5, 2) := by decide +kernel
theorem d_L_law_655 : decode code 655 = .ok (.aload_n 2, 1) := by decide +kernel
theorem d_L_law_656 : decode code 656 = .ok (.aload_n 0, 1) := by decide +kernel
theorem d_L_law_657 : decode code 657 = .ok (.iload 4, 2) := by decide +kernel
theorem d_L_law_659 : decode code 659 = .ok (.iconst 1, 1) := by decide +kernel
theorem d_L_law_660 : decode code 660 = .ok (.iadd, 1) := by decide +kernel
theorem d_L_law_661 : decode code 661 = .ok (.iaload, 1) := by decide +kernel
theorem d_L_law_662 : decode code 662 = .ok (.aload_n 0, 1) := by decide +kernel
theorem d_L_law_663 : decode code 663 = .ok (.iload 4, 2) := by decide +kernel
theorem d_L_law_665 : decode code 665 = .ok (.iconst 2, 1) := by decide +kernel
theorem d_L_law_666 : decode code 666 = .ok (.iadd, 1) := by decide +kernel
theorem d_L_law_667 : decode code 667 = .ok (.iaload, 1) := by decide +kernel
theorem d_L_law_668 : decode code 668 = .ok (.invokevirtual 126, 3) := by decide +kernel
theorem d_L_law_671 : decode code 671 = .ok (.istore 6, 2) := by decide +kernel
theorem d_L_law_673 : decode code 673 = .ok (.aload_n 2, 1) := by decide +kernel
theorem d_L_law_674 : decode code 674 = .ok (.invokevirtual 96, 3) := by decide +kernel
theorem d_L_law_677 : decode code 677 = .ok (.iload 5, 2) := by decide +kernel
theorem d_L_law_679 : decode code 679 = .ok (.if_icmp .eq 5, 3) := by decide +kernel
theorem d_L_law_682 : decode code 682 = .ok (.iconst 0, 1) := by decide +kernel
theorem d_L_law_683 : decode code 683 = .ok (.ireturn, 1) := by decide +kernel
theorem d_L_law_684 : decode code 684 = .ok (.iload 5, 2) := by decide +kernel
theorem d_L_law_686 : decode code 686 = .ok (.ifCond .ne 15, 3) := by decide +kernel
theorem d_L_law_689 : decode code 689 = .ok (.aload_n 3, 1) := by decide +kernel
theorem d_L_law_690 : decode code 690 = .ok (.iconst 0, 1) := by decide +kernel
theorem d_L_law_691 : decode code 691 = .ok (.laload, 1) := by decide +kernel
theorem d_L_law_692 : decode code 692 = .ok (.iload 6, 2) := by decide +kernel
theorem d_L_law_694 : decode code 694 = .ok (.i2l, 1) := by decide +kernel
theorem d_L_law_695 : decode code 695 = .ok (.lcmp, 1) := by decide +kernel
theorem d_L_law_696 : decode code 696 = .ok (.ifCond .eq 5, 3) := by decide +kernel
theorem d_L_law_699 : decode code 699 = .ok (.iconst 0, 1) := by decide +kernel
theorem d_L_law_700 : decode code 700 = .ok (.ireturn, 1) := by decide +kernel
theorem d_L_law_701 : decode code 701 = .ok (.goto 591, 3) := by decide +kernel
theorem d_L_law_704 : decode code 704 = .ok (.aload_n 1, 1) := by decide +kernel
theorem d_L_law_705 : decode code 705 = .ok (.aload_n 0, 1) := by decide +kernel
theorem d_L_law_706 : decode code 706 = .ok (.iload 4, 2) := by decide +kernel
theorem d_L_law_708 : decode code 708 = .ok (.iconst 1, 1) := by decide +kernel
theorem d_L_law_709 : decode code 709 = .ok (.iadd, 1) := by decide +kernel
theorem d_L_law_710 : decode code 710 = .ok (.iaload, 1) := by decide +kernel
theorem d_L_law_711 : decode code 711 = .ok (.aload_n 3, 1) := by decide +kernel
theorem d_L_law_712 : decode code 712 = .ok (.invokestatic 127, 3) := by decide +kernel
theorem d_L_law_715 : decode code 715 = .ok (.istore 5, 2) := by decide +kernel
theorem d_L_law_717 : decode code 717 = .ok (.aload_n 2, 1) := by decide +kernel
theorem d_L_law_718 : decode code 718 = .ok (.aload_n 0, 1) := by decide +kernel
theorem d_L_law_719 : decode code 719 = .ok (.iload 4, 2) := by decide +kernel
theorem d_L_law_721 : decode code 721 = .ok (.iconst 1, 1) := by decide +kernel
theorem d_L_law_722 : decode code 722 = .ok (.iadd, 1) := by decide +kernel
theorem d_L_law_723 : decode code 723 = .ok (.iaload, 1) := by decide +kernel
theorem d_L_law_724 : decode code 724 = .ok (.invokevirtual 129, 3) := by decide +kernel
theorem d_L_law_727 : decode code 727 = .ok (.istore 6, 2) := by decide +kernel
theorem d_L_law_729 : decode code 729 = .ok (.aload_n 2, 1) := by decide +kernel
theorem d_L_law_730 : decode code 730 = .ok (.invokevirtual 96, 3) := by decide +kernel
theorem d_L_law_733 : decode code 733 = .ok (.iload 5, 2) := by decide +kernel
theorem d_L_law_735 : decode code 735 = .ok (.if_icmp .eq 5, 3) := by decide +kernel
theorem d_L_law_738 : decode code 738 = .ok (.iconst 0, 1) := by decide +kernel
theorem d_L_law_739 : decode code 739 = .ok (.ireturn, 1) := by decide +kernel
theorem d_L_law_740 : decode code 740 = .ok (.iload 5, 2) := by decide +kernel
theorem d_L_law_742 : decode code 742 = .ok (.ifCond .ne 15, 3) := by decide +kernel
theorem d_L_law_745 : decode code 745 = .ok (.aload_n 3, 1) := by decide +kernel
theorem d_L_law_746 : decode code 746 = .ok (.iconst 0, 1) := by decide +kernel
theorem d_L_law_747 : decode code 747 = .ok (.laload, 1) := by decide +kernel
theorem d_L_law_748 : decode code 748 = .ok (.iload 6, 2) := by decide +kernel
theorem d_L_law_750 : decode code 750 = .ok (.i2l, 1) := by decide +kernel
theorem d_L_law_751 : decode code 751 = .ok (.lcmp, 1) := by decide +kernel
theorem d_L_law_752 : decode code 752 = .ok (.ifCond .eq 5, 3) := by decide +kernel
theorem d_L_law_755 : decode code 755 = .ok (.iconst 0, 1) := by decide +kernel
theorem d_L_law_756 : decode code 756 = .ok (.ireturn, 1) := by decide +kernel
theorem d_L_law_757 : decode code 757 = .ok (.goto 535, 3) := by decide +kernel
theorem d_L_law_760 : decode code 760 = .ok (.aload_n 1, 1) := by decide +kernel
theorem d_L_law_761 : decode code 761 = .ok (.aload_n 0, 1) := by decide +kernel
theorem d_L_law_762 : decode code 762 = .ok (.iload 4, 2) := by decide +kernel
theorem d_L_law_764 : decode code 764 = .ok (.iconst 1, 1) := by decide +kernel
theorem d_L_law_765 : decode code 765 = .ok (.iadd, 1) := by decide +kernel
theorem d_L_law_766 : decode code 766 = .ok (.iaload, 1) := by decide +kernel
theorem d_L_law_767 : decode code 767 = .ok (.aload_n 3, 1) := by decide +kernel
theorem d_L_law_768 : decode code 768 = .ok (.invokestatic 130, 3) := by decide +kernel
theorem d_L_law_771 : decode code 771 = .ok (.istore 5, 2) := by decide +kernel
theorem d_L_law_773 : decode code 773 = .ok (.aload_n 2, 1) := by decide +kernel
theorem d_L_law_774 : decode code 774 = .ok (.aload_n 0, 1) := by decide +kernel
theorem d_L_law_775 : decode code 775 = .ok (.iload 4, 2) := by decide +kernel
theorem d_L_law_777 : decode code 777 = .ok (.iconst 1, 1) := by decide +kernel
theorem d_L_law_778 : decode code 778 = .ok (.iadd, 1) := by decide +kernel
theorem d_L_law_779 : decode code 779 = .ok (.iaload, 1) := by decide +kernel
theorem d_L_law_780 : decode code 780 = .ok (.invokevirtual 132, 3) := by decide +kernel
theorem d_L_law_783 : decode code 783 = .ok (.istore 6, 2) := by decide +kernel
theorem d_L_law_785 : decode code 785 = .ok (.aload_n 2, 1) := by decide +kernel
theorem d_L_law_786 : decode code 786 = .ok (.invokevirtual 96, 3) := by decide +kernel
theorem d_L_law_789 : decode code 789 = .ok (.iload 5, 2) := by decide +kernel
theorem d_L_law_791 : decode code 791 = .ok (.if_icmp .eq 5, 3) := by decide +kernel
theorem d_L_law_794 : decode code 794 = .ok (.iconst 0, 1) := by decide +kernel
theorem d_L_law_795 : decode code 795 = .ok (.ireturn, 1) := by decide +kernel
theorem d_L_law_796 : decode code 796 = .ok (.iload 5, 2) := by decide +kernel
theorem d_L_law_798 : decode code 798 = .ok (.ifCond .ne 15, 3) := by decide +kernel
theorem d_L_law_801 : decode code 801 = .ok (.aload_n 3, 1) := by decide +kernel
theorem d_L_law_802 : decode code 802 = .ok (.iconst 0, 1) := by decide +kernel
theorem d_L_law_803 : decode code 803 = .ok (.laload, 1) := by decide +kernel
theorem d_L_law_804 : decode code 804 = .ok (.iload 6, 2) := by decide +kernel
theorem d_L_law_806 : decode code 806 = .ok (.i2l, 1) := by decide +kernel
theorem d_L_law_807 : decode code 807 = .ok (.lcmp, 1) := by decide +kernel
theorem d_L_law_808 : decode code 808 = .ok (.ifCond .eq 5, 3) := by decide +kernel
theorem d_L_law_811 : decode code 811 = .ok (.iconst 0, 1) := by decide +kernel
theorem d_L_law_812 : decode code 812 = .ok (.ireturn, 1) := by decide +kernel
theorem d_L_law_813 : decode code 813 = .ok (.goto 479, 3) := by decide +kernel
theorem d_L_law_816 : decode code 816 = .ok (.aload_n 1, 1) := by decide +kernel
theorem d_L_law_817 : decode code 817 = .ok (.aload_n 3, 1) := by decide +kernel
theorem d_L_law_818 : decode code 818 = .ok (.invokestatic 133, 3) := by decide +kernel
theorem d_L_law_821 : decode code 821 = .ok (.istore 5, 2) := by decide +kernel
theorem d_L_law_823 : decode code 823 = .ok (.aload_n 2, 1) := by decide +kernel
theorem d_L_law_824 : decode code 824 = .ok (.invokevirtual 136, 3) := by decide +kernel
theorem d_L_law_827 : decode code 827 = .ok (.istore 6, 2) := by decide +kernel
theorem d_L_law_829 : decode code 829 = .ok (.aload_n 2, 1) := by decide +kernel
theorem d_L_law_830 : decode code 830 = .ok (.invokevirtual 96, 3) := by decide +kernel
theorem d_L_law_833 : decode code 833 = .ok (.iload 5, 2) := by decide +kernel
theorem d_L_law_835 : decode code 835 = .ok (.if_icmp .eq 5, 3) := by decide +kernel
theorem d_L_law_838 : decode code 838 = .ok (.iconst 0, 1) := by decide +kernel
theorem d_L_law_839 : decode code 839 = .ok (.ireturn, 1) := by decide +kernel
theorem d_L_law_840 : decode code 840 = .ok (.iload 5, 2) := by decide +kernel
theorem d_L_law_842 : decode code 842 = .ok (.ifCond .ne 15, 3) := by decide +kernel
theorem d_L_law_845 : decode code 845 = .ok (.aload_n 3, 1) := by decide +kernel
theorem d_L_law_846 : decode code 846 = .ok (.iconst 0, 1) := by decide +kernel
theorem d_L_law_847 : decode code 847 = .ok (.laload, 1) := by decide +kernel
theorem d_L_law_848 : decode code 848 = .ok (.iload 6, 2) := by decide +kernel
theorem d_L_law_850 : decode code 850 = .ok (.i2l, 1) := by decide +kernel
theorem d_L_law_851 : decode code 851 = .ok (.lcmp, 1) := by decide +kernel
theorem d_L_law_852 : decode code 852 = .ok (.ifCond .eq 5, 3) := by decide +kernel
theorem d_L_law_855 : decode code 855 = .ok (.iconst 0, 1) := by decide +kernel
theorem d_L_law_856 : decode code 856 = .ok (.ireturn, 1) := by decide +kernel
theorem d_L_law_857 : decode code 857 = .ok (.goto 435, 3) := by decide +kernel
theorem d_L_law_860 : decode code 860 = .ok (.aload_n 1, 1) := by decide +kernel
theorem d_L_law_861 : decode code 861 = .ok (.aload_n 0, 1) := by decide +kernel
theorem d_L_law_862 : decode code 862 = .ok (.iload 4, 2) := by decide +kernel
theorem d_L_law_864 : decode code 864 = .ok (.iconst 1, 1) := by decide +kernel
theorem d_L_law_865 : decode code 865 = .ok (.iadd, 1) := by decide +kernel
theorem d_L_law_866 : decode code 866 = .ok (.iaload, 1) := by decide +kernel
theorem d_L_law_867 : decode code 867 = .ok (.aload_n 0, 1) := by decide +kernel
theorem d_L_law_868 : decode code 868 = .ok (.iload 4, 2) := by decide +kernel
theorem d_L_law_870 : decode code 870 = .ok (.iconst 2, 1) := by decide +kernel
theorem d_L_law_871 : decode code 871 = .ok (.iadd, 1) := by decide +kernel
theorem d_L_law_872 : decode code 872 = .ok (.iaload, 1) := by decide +kernel
theorem d_L_law_873 : decode code 873 = .ok (.aload_n 3, 1) := by decide +kernel
theorem d_L_law_874 : decode code 874 = .ok (.invokestatic 137, 3) := by decide +kernel
theorem d_L_law_877 : decode code 877 = .ok (.istore 5, 2) := by decide +kernel
theorem d_L_law_879 : decode code 879 = .ok (.aload_n 2, 1) := by decide +kernel
theorem d_L_law_880 : decode code 880 = .ok (.aload_n 0, 1) := by decide +kernel
theorem d_L_law_881 : decode code 881 = .ok (.iload 4, 2) := by decide +kernel
theorem d_L_law_883 : decode code 883 = .ok (.iconst 1, 1) := by decide +kernel
theorem d_L_law_884 : decode code 884 = .ok (.iadd, 1) := by decide +kernel
theorem d_L_law_885 : decode code 885 = .ok (.iaload, 1) := by decide +kernel
theorem d_L_law_886 : decode code 886 = .ok (.aload_n 0, 1) := by decide +kernel
theorem d_L_law_887 : decode code 887 = .ok (.iload 4, 2) := by decide +kernel
theorem d_L_law_889 : decode code 889 = .ok (.iconst 2, 1) := by decide +kernel
theorem d_L_law_890 : decode code 890 = .ok (.iadd, 1) := by decide +kernel
theorem d_L_law_891 : decode code 891 = .ok (.iaload, 1) := by decide +kernel
theorem d_L_law_892 : decode code 892 = .ok (.invokevirtual 139, 3) := by decide +kernel
theorem d_L_law_895 : decode code 895 = .ok (.istore 6, 2) := by decide +kernel
theorem d_L_law_897 : decode code 897 = .ok (.aload_n 2, 1) := by decide +kernel
theorem d_L_law_898 : decode code 898 = .ok (.invokevirtual 96, 3) := by decide +kernel
theorem d_L_law_901 : decode code 901 = .ok (.iload 5, 2) := by decide +kernel
theorem d_L_law_903 : decode code 903 = .ok (.if_icmp .eq 5, 3) := by decide +kernel
theorem d_L_law_906 : decode code 906 = .ok (.iconst 0, 1) := by decide +kernel
theorem d_L_law_907 : decode code 907 = .ok (.ireturn, 1) := by decide +kernel
theorem d_L_law_908 : decode code 908 = .ok (.iload 5, 2) := by decide +kernel
theorem d_L_law_910 : decode code 910 = .ok (.ifCond .ne 15, 3) := by decide +kernel
theorem d_L_law_913 : decode code 913 = .ok (.aload_n 3, 1) := by decide +kernel
theorem d_L_law_914 : decode code 914 = .ok (.iconst 0, 1) := by decide +kernel
theorem d_L_law_915 : decode code 915 = .ok (.laload, 1) := by decide +kernel
theorem d_L_law_916 : decode code 916 = .ok (.iload 6, 2) := by decide +kernel
theorem d_L_law_918 : decode code 918 = .ok (.i2l, 1) := by decide +kernel
theorem d_L_law_919 : decode code 919 = .ok (.lcmp, 1) := by decide +kernel
theorem d_L_law_920 : decode code 920 = .ok (.ifCond .eq 5, 3) := by decide +kernel
theorem d_L_law_923 : decode code 923 = .ok (.iconst 0, 1) := by decide +kernel
theorem d_L_law_924 : decode code 924 = .ok (.ireturn, 1) := by decide +kernel
theorem d_L_law_925 : decode code 925 = .ok (.goto 367, 3) := by decide +kernel
theorem d_L_law_928 : decode code 928 = .ok (.aload_n 1, 1) := by decide +kernel
theorem d_L_law_929 : decode code 929 = .ok (.aload_n 0, 1) := by decide +kernel
theorem d_L_law_930 : decode code 930 = .ok (.iload 4, 2) := by decide +kernel
theorem d_L_law_932 : decode code 932 = .ok (.iconst 1, 1) := by decide +kernel
theorem d_L_law_933 : decode code 933 = .ok (.iadd, 1) := by decide +kernel
theorem d_L_law_934 : decode code 934 = .ok (.iaload, 1) := by decide +kernel
theorem d_L_law_935 : decode code 935 = .ok (.aload_n 0, 1) := by decide +kernel
theorem d_L_law_936 : decode code 936 = .ok (.iload 4, 2) := by decide +kernel
theorem d_L_law_938 : decode code 938 = .ok (.iconst 2, 1) := by decide +kernel
theorem d_L_law_939 : decode code 939 = .ok (.iadd, 1) := by decide +kernel
theorem d_L_law_940 : decode code 940 = .ok (.iaload, 1) := by decide +kernel
theorem d_L_law_941 : decode code 941 = .ok (.aload_n 3, 1) := by decide +kernel
theorem d_L_law_942 : decode code 942 = .ok (.invokestatic 140, 3) := by decide +kernel
theorem d_L_law_945 : decode code 945 = .ok (.istore 5, 2) := by decide +kernel
theorem d_L_law_947 : decode code 947 = .ok (.aload_n 2, 1) := by decide +kernel
theorem d_L_law_948 : decode code 948 = .ok (.aload_n 0, 1) := by decide +kernel
theorem d_L_law_949 : decode code 949 = .ok (.iload 4, 2) := by decide +kernel
theorem d_L_law_951 : decode code 951 = .ok (.iconst 1, 1) := by decide +kernel
theorem d_L_law_952 : decode code 952 = .ok (.iadd, 1) := by decide +kernel
theorem d_L_law_953 : decode code 953 = .ok (.iaload, 1) := by decide +kernel
theorem d_L_law_954 : decode code 954 = .ok (.aload_n 0, 1) := by decide +kernel
theorem d_L_law_955 : decode code 955 = .ok (.iload 4, 2) := by decide +kernel
theorem d_L_law_957 : decode code 957 = .ok (.iconst 2, 1) := by decide +kernel
theorem d_L_law_958 : decode code 958 = .ok (.iadd, 1) := by decide +kernel
theorem d_L_law_959 : decode code 959 = .ok (.iaload, 1) := by decide +kernel
theorem d_L_law_960 : decode code 960 = .ok (.invokevirtual 142, 3) := by decide +kernel
theorem d_L_law_963 : decode code 963 = .ok (.istore 6, 2) := by decide +kernel
theorem d_L_law_965 : decode code 965 = .ok (.aload_n 2, 1) := by decide +kernel
theorem d_L_law_966 : decode code 966 = .ok (.invokevirtual 96, 3) := by decide +kernel
theorem d_L_law_969 : decode code 969 = .ok (.iload 5, 2) := by decide +kernel
theorem d_L_law_971 : decode code 971 = .ok (.if_icmp .eq 5, 3) := by decide +kernel
theorem d_L_law_974 : decode code 974 = .ok (.iconst 0, 1) := by decide +kernel
theorem d_L_law_975 : decode code 975 = .ok (.ireturn, 1) := by decide +kernel
theorem d_L_law_976 : decode code 976 = .ok (.iload 5, 2) := by decide +kernel
theorem d_L_law_978 : decode code 978 = .ok (.ifCond .ne 22, 3) := by decide +kernel
theorem d_L_law_981 : decode code 981 = .ok (.aload_n 3, 1) := by decide +kernel
theorem d_L_law_982 : decode code 982 = .ok (.iconst 0, 1) := by decide +kernel
theorem d_L_law_983 : decode code 983 = .ok (.laload, 1) := by decide +kernel
theorem d_L_law_984 : decode code 984 = .ok (.iload 6, 2) := by decide +kernel
theorem d_L_law_986 : decode code 986 = .ok (.ifCond .eq 7, 3) := by decide +kernel
theorem d_L_law_989 : decode code 989 = .ok (.lconst 1, 1) := by decide +kernel
theorem d_L_law_990 : decode code 990 = .ok (.goto 4, 3) := by decide +kernel
theorem d_L_law_993 : decode code 993 = .ok (.lconst 0, 1) := by decide +kernel
theorem d_L_law_994 : decode code 994 = .ok (.lcmp, 1) := by decide +kernel
theorem d_L_law_995 : decode code 995 = .ok (.ifCond .eq 5, 3) := by decide +kernel
theorem d_L_law_998 : decode code 998 = .ok (.iconst 0, 1) := by decide +kernel
theorem d_L_law_999 : decode code 999 = .ok (.ireturn, 1) := by decide +kernel
theorem d_L_law_1000 : decode code 1000 = .ok (.goto 292, 3) := by decide +kernel
theorem d_L_law_1003 : decode code 1003 = .ok (.aload_n 1, 1) := by decide +kernel
theorem d_L_law_1004 : decode code 1004 = .ok (.aload_n 0, 1) := by decide +kernel
theorem d_L_law_1005 : decode code 1005 = .ok (.iload 4, 2) := by decide +kernel
theorem d_L_law_1007 : decode code 1007 = .ok (.iconst 1, 1) := by decide +kernel
theorem d_L_law_1008 : decode code 1008 = .ok (.iadd, 1) := by decide +kernel
theorem d_L_law_1009 : decode code 1009 = .ok (.iaload, 1) := by decide +kernel
theorem d_L_law_1010 : decode code 1010 = .ok (.aload_n 0, 1) := by decide +kernel
theorem d_L_law_1011 : decode code 1011 = .ok (.iload 4, 2) := by decide +kernel
theorem d_L_law_1013 : decode code 1013 = .ok (.iconst 2, 1) := by decide +kernel
theorem d_L_law_1014 : decode code 1014 = .ok (.iadd, 1) := by decide +kernel
theorem d_L_law_1015 : decode code 1015 = .ok (.iaload, 1) := by decide +kernel
theorem d_L_law_1016 : decode code 1016 = .ok (.aload_n 0, 1) := by decide +kernel
theorem d_L_law_1017 : decode code 1017 = .ok (.iload 4, 2) := by decide +kernel
theorem d_L_law_1019 : decode code 1019 = .ok (.iconst 3, 1) := by decide +kernel
theorem d_L_law_1020 : decode code 1020 = .ok (.iadd, 1) := by decide +kernel
theorem d_L_law_1021 : decode code 1021 = .ok (.iaload, 1) := by decide +kernel
theorem d_L_law_1022 : decode code 1022 = .ok (.invokestatic 143, 3) := by decide +kernel
theorem d_L_law_1025 : decode code 1025 = .ok (.istore 5, 2) := by decide +kernel
theorem d_L_law_1027 : decode code 1027 = .ok (.aload_n 2, 1) := by decide +kernel
theorem d_L_law_1028 : decode code 1028 = .ok (.aload_n 0, 1) := by decide +kernel
theorem d_L_law_1029 : decode code 1029 = .ok (.iload 4, 2) := by decide +kernel
theorem d_L_law_1031 : decode code 1031 = .ok (.iconst 1, 1) := by decide +kernel
theorem d_L_law_1032 : decode code 1032 = .ok (.iadd, 1) := by decide +kernel
theorem d_L_law_1033 : decode code 1033 = .ok (.iaload, 1) := by decide +kernel
theorem d_L_law_1034 : decode code 1034 = .ok (.aload_n 0, 1) := by decide +kernel
theorem d_L_law_1035 : decode code 1035 = .ok (.iload 4, 2) := by decide +kernel
theorem d_L_law_1037 : decode code 1037 = .ok (.iconst 2, 1) := by decide +kernel
theorem d_L_law_1038 : decode code 1038 = .ok (.iadd, 1) := by decide +kernel
theorem d_L_law_1039 : decode code 1039 = .ok (.iaload, 1) := by decide +kernel
theorem d_L_law_1040 : decode code 1040 = .ok (.aload_n 0, 1) := by decide +kernel
theorem d_L_law_1041 : decode code 1041 = .ok (.iload 4, 2) := by decide +kernel
theorem d_L_law_1043 : decode code 1043 = .ok (.iconst 3, 1) := by decide +kernel
theorem d_L_law_1044 : decode code 1044 = .ok (.iadd, 1) := by decide +kernel
theorem d_L_law_1045 : decode code 1045 = .ok (.iaload, 1) := by decide +kernel
theorem d_L_law_1046 : decode code 1046 = .ok (.invokevirtual 146, 3) := by decide +kernel
theorem d_L_law_1049 : decode code 1049 = .ok (.aload_n 2, 1) := by decide +kernel
theorem d_L_law_1050 : decode code 1050 = .ok (.invokevirtual 96, 3) := by decide +kernel
theorem d_L_law_1053 : decode code 1053 = .ok (.iload 5, 2) := by decide +kernel
theorem d_L_law_1055 : decode code 1055 = .ok (.if_icmp .eq 5, 3) := by decide +kernel
theorem d_L_law_1058 : decode code 1058 = .ok (.iconst 0, 1) := by decide +kernel
theorem d_L_law_1059 : decode code 1059 = .ok (.ireturn, 1) := by decide +kernel
theorem d_L_law_1060 : decode code 1060 = .ok (.goto 232, 3) := by decide +kernel
theorem d_L_law_1063 : decode code 1063 = .ok (.aload_n 1, 1) := by decide +kernel
theorem d_L_law_1064 : decode code 1064 = .ok (.aload_n 0, 1) := by decide +kernel
theorem d_L_law_1065 : decode code 1065 = .ok (.iload 4, 2) := by decide +kernel
theorem d_L_law_1067 : decode code 1067 = .ok (.iconst 1, 1) := by decide +kernel
theorem d_L_law_1068 : decode code 1068 = .ok (.iadd, 1) := by decide +kernel
theorem d_L_law_1069 : decode code 1069 = .ok (.iaload, 1) := by decide +kernel
theorem d_L_law_1070 : decode code 1070 = .ok (.aload_n 0, 1) := by decide +kernel
theorem d_L_law_1071 : decode code 1071 = .ok (.iload 4, 2) := by decide +kernel
theorem d_L_law_1073 : decode code 1073 = .ok (.iconst 2, 1) := by decide +kernel
theorem d_L_law_1074 : decode code 1074 = .ok (.iadd, 1) := by decide +kernel
theorem d_L_law_1075 : decode code 1075 = .ok (.iaload, 1) := by decide +kernel
theorem d_L_law_1076 : decode code 1076 = .ok (.aload_n 3, 1) := by decide +kernel
theorem d_L_law_1077 : decode code 1077 = .ok (.invokestatic 147, 3) := by decide +kernel
theorem d_L_law_1080 : decode code 1080 = .ok (.istore 5, 2) := by decide +kernel
theorem d_L_law_1082 : decode code 1082 = .ok (.aload_n 2, 1) := by decide +kernel
theorem d_L_law_1083 : decode code 1083 = .ok (.aload_n 0, 1) := by decide +kernel
theorem d_L_law_1084 : decode code 1084 = .ok (.iload 4, 2) := by decide +kernel
theorem d_L_law_1086 : decode code 1086 = .ok (.iconst 1, 1) := by decide +kernel
theorem d_L_law_1087 : decode code 1087 = .ok (.iadd, 1) := by decide +kernel
theorem d_L_law_1088 : decode code 1088 = .ok (.iaload, 1) := by decide +kernel
theorem d_L_law_1089 : decode code 1089 = .ok (.aload_n 0, 1) := by decide +kernel
theorem d_L_law_1090 : decode code 1090 = .ok (.iload 4, 2) := by decide +kernel
theorem d_L_law_1092 : decode code 1092 = .ok (.iconst 2, 1) := by decide +kernel
theorem d_L_law_1093 : decode code 1093 = .ok (.iadd, 1) := by decide +kernel
theorem d_L_law_1094 : decode code 1094 = .ok (.iaload, 1) := by decide +kernel
theorem d_L_law_1095 : decode code 1095 = .ok (.invokevirtual 149, 3) := by decide +kernel
theorem d_L_law_1098 : decode code 1098 = .ok (.istore 6, 2) := by decide +kernel
theorem d_L_law_1100 : decode code 1100 = .ok (.aload_n 2, 1) := by decide +kernel
theorem d_L_law_1101 : decode code 1101 = .ok (.invokevirtual 96, 3) := by decide +kernel
theorem d_L_law_1104 : decode code 1104 = .ok (.iload 5, 2) := by decide +kernel
theorem d_L_law_1106 : decode code 1106 = .ok (.if_icmp .eq 5, 3) := by decide +kernel
theorem d_L_law_1109 : decode code 1109 = .ok (.iconst 0, 1) := by decide +kernel
theorem d_L_law_1110 : decode code 1110 = .ok (.ireturn, 1) := by decide +kernel
theorem d_L_law_1111 : decode code 1111 = .ok (.iload 5, 2) := by decide +kernel
theorem d_L_law_1113 : decode code 1113 = .ok (.ifCond .ne 15, 3) := by decide +kernel
theorem d_L_law_1116 : decode code 1116 = .ok (.aload_n 3, 1) := by decide +kernel
theorem d_L_law_1117 : decode code 1117 = .ok (.iconst 0, 1) := by decide +kernel
theorem d_L_law_1118 : decode code 1118 = .ok (.laload, 1) := by decide +kernel
theorem d_L_law_1119 : decode code 1119 = .ok (.iload 6, 2) := by decide +kernel
theorem d_L_law_1121 : decode code 1121 = .ok (.i2l, 1) := by decide +kernel
theorem d_L_law_1122 : decode code 1122 = .ok (.lcmp, 1) := by decide +kernel
theorem d_L_law_1123 : decode code 1123 = .ok (.ifCond .eq 5, 3) := by decide +kernel
theorem d_L_law_1126 : decode code 1126 = .ok (.iconst 0, 1) := by decide +kernel
theorem d_L_law_1127 : decode code 1127 = .ok (.ireturn, 1) := by decide +kernel
theorem d_L_law_1128 : decode code 1128 = .ok (.goto 164, 3) := by decide +kernel
theorem d_L_law_1131 : decode code 1131 = .ok (.aload_n 1, 1) := by decide +kernel
theorem d_L_law_1132 : decode code 1132 = .ok (.aload_n 0, 1) := by decide +kernel
theorem d_L_law_1133 : decode code 1133 = .ok (.iload 4, 2) := by decide +kernel
theorem d_L_law_1135 : decode code 1135 = .ok (.iconst 1, 1) := by decide +kernel
theorem d_L_law_1136 : decode code 1136 = .ok (.iadd, 1) := by decide +kernel
theorem d_L_law_1137 : decode code 1137 = .ok (.iaload, 1) := by decide +kernel
theorem d_L_law_1138 : decode code 1138 = .ok (.aload_n 0, 1) := by decide +kernel
theorem d_L_law_1139 : decode code 1139 = .ok (.iload 4, 2) := by decide +kernel
theorem d_L_law_1141 : decode code 1141 = .ok (.iconst 2, 1) := by decide +kernel
theorem d_L_law_1142 : decode code 1142 = .ok (.iadd, 1) := by decide +kernel
theorem d_L_law_1143 : decode code 1143 = .ok (.iaload, 1) := by decide +kernel
theorem d_L_law_1144 : decode code 1144 = .ok (.aload_n 3, 1) := by decide +kernel
theorem d_L_law_1145 : decode code 1145 = .ok (.invokestatic 150, 3) := by decide +kernel
theorem d_L_law_1148 : decode code 1148 = .ok (.istore 5, 2) := by decide +kernel
theorem d_L_law_1150 : decode code 1150 = .ok (.aload_n 2, 1) := by decide +kernel
theorem d_L_law_1151 : decode code 1151 = .ok (.aload_n 0, 1) := by decide +kernel
theorem d_L_law_1152 : decode code 1152 = .ok (.iload 4, 2) := by decide +kernel
theorem d_L_law_1154 : decode code 1154 = .ok (.iconst 1, 1) := by decide +kernel
theorem d_L_law_1155 : decode code 1155 = .ok (.iadd, 1) := by decide +kernel
theorem d_L_law_1156 : decode code 1156 = .ok (.iaload, 1) := by decide +kernel
theorem d_L_law_1157 : decode code 1157 = .ok (.aload_n 0, 1) := by decide +kernel
theorem d_L_law_1158 : decode code 1158 = .ok (.iload 4, 2) := by decide +kernel
theorem d_L_law_1160 : decode code 1160 = .ok (.iconst 2, 1) := by decide +kernel
theorem d_L_law_1161 : decode code 1161 = .ok (.iadd, 1) := by decide +kernel
theorem d_L_law_1162 : decode code 1162 = .ok (.iaload, 1) := by decide +kernel
theorem d_L_law_1163 : decode code 1163 = .ok (.invokevirtual 152, 3) := by decide +kernel
theorem d_L_law_1166 : decode code 1166 = .ok (.istore 6, 2) := by decide +kernel
theorem d_L_law_1168 : decode code 1168 = .ok (.aload_n 2, 1) := by decide +kernel
theorem d_L_law_1169 : decode code 1169 = .ok (.invokevirtual 96, 3) := by decide +kernel
theorem d_L_law_1172 : decode code 1172 = .ok (.iload 5, 2) := by decide +kernel
theorem d_L_law_1174 : decode code 1174 = .ok (.if_icmp .eq 5, 3) := by decide +kernel
theorem d_L_law_1177 : decode code 1177 = .ok (.iconst 0, 1) := by decide +kernel
theorem d_L_law_1178 : decode code 1178 = .ok (.ireturn, 1) := by decide +kernel
theorem d_L_law_1179 : decode code 1179 = .ok (.iload 5, 2) := by decide +kernel
theorem d_L_law_1181 : decode code 1181 = .ok (.ifCond .ne 15, 3) := by decide +kernel
theorem d_L_law_1184 : decode code 1184 = .ok (.aload_n 3, 1) := by decide +kernel
theorem d_L_law_1185 : decode code 1185 = .ok (.iconst 0, 1) := by decide +kernel
theorem d_L_law_1186 : decode code 1186 = .ok (.laload, 1) := by decide +kernel
theorem d_L_law_1187 : decode code 1187 = .ok (.iload 6, 2) := by decide +kernel
theorem d_L_law_1189 : decode code 1189 = .ok (.i2l, 1) := by decide +kernel
theorem d_L_law_1190 : decode code 1190 = .ok (.lcmp, 1) := by decide +kernel
theorem d_L_law_1191 : decode code 1191 = .ok (.ifCond .eq 5, 3) := by decide +kernel
theorem d_L_law_1194 : decode code 1194 = .ok (.iconst 0, 1) := by decide +kernel
theorem d_L_law_1195 : decode code 1195 = .ok (.ireturn, 1) := by decide +kernel
theorem d_L_law_1196 : decode code 1196 = .ok (.goto 96, 3) := by decide +kernel
theorem d_L_law_1199 : decode code 1199 = .ok (.aload_n 1, 1) := by decide +kernel
theorem d_L_law_1200 : decode code 1200 = .ok (.aload_n 0, 1) := by decide +kernel
theorem d_L_law_1201 : decode code 1201 = .ok (.iload 4, 2) := by decide +kernel
theorem d_L_law_1203 : decode code 1203 = .ok (.iconst 1, 1) := by decide +kernel
theorem d_L_law_1204 : decode code 1204 = .ok (.iadd, 1) := by decide +kernel
theorem d_L_law_1205 : decode code 1205 = .ok (.iaload, 1) := by decide +kernel
theorem d_L_law_1206 : decode code 1206 = .ok (.aload_n 0, 1) := by decide +kernel
theorem d_L_law_1207 : decode code 1207 = .ok (.iload 4, 2) := by decide +kernel
theorem d_L_law_1209 : decode code 1209 = .ok (.iconst 2, 1) := by decide +kernel
theorem d_L_law_1210 : decode code 1210 = .ok (.iadd, 1) := by decide +kernel
theorem d_L_law_1211 : decode code 1211 = .ok (.iaload, 1) := by decide +kernel
theorem d_L_law_1212 : decode code 1212 = .ok (.aload_n 3, 1) := by decide +kernel
theorem d_L_law_1213 : decode code 1213 = .ok (.invokestatic 153, 3) := by decide +kernel
theorem d_L_law_1216 : decode code 1216 = .ok (.istore 5, 2) := by decide +kernel
theorem d_L_law_1218 : decode code 1218 = .ok (.aload_n 2, 1) := by decide +kernel
theorem d_L_law_1219 : decode code 1219 = .ok (.aload_n 0, 1) := by decide +kernel
theorem d_L_law_1220 : decode code 1220 = .ok (.iload 4, 2) := by decide +kernel
theorem d_L_law_1222 : decode code 1222 = .ok (.iconst 1, 1) := by decide +kernel
theorem d_L_law_1223 : decode code 1223 = .ok (.iadd, 1) := by decide +kernel
theorem d_L_law_1224 : decode code 1224 = .ok (.iaload, 1) := by decide +kernel
theorem d_L_law_1225 : decode code 1225 = .ok (.aload_n 0, 1) := by decide +kernel
theorem d_L_law_1226 : decode code 1226 = .ok (.iload 4, 2) := by decide +kernel
theorem d_L_law_1228 : decode code 1228 = .ok (.iconst 2, 1) := by decide +kernel
theorem d_L_law_1229 : decode code 1229 = .ok (.iadd, 1) := by decide +kernel
theorem d_L_law_1230 : decode code 1230 = .ok (.iaload, 1) := by decide +kernel
theorem d_L_law_1231 : decode code 1231 = .ok (.invokevirtual 155, 3) := by decide +kernel
theorem d_L_law_1234 : decode code 1234 = .ok (.istore 6, 2) := by decide +kernel
theorem d_L_law_1236 : decode code 1236 = .ok (.aload_n 2, 1) := by decide +kernel
theorem d_L_law_1237 : decode code 1237 = .ok (.invokevirtual 96, 3) := by decide +kernel
theorem d_L_law_1240 : decode code 1240 = .ok (.iload 5, 2) := by decide +kernel
theorem d_L_law_1242 : decode code 1242 = .ok (.if_icmp .eq 5, 3) := by decide +kernel
theorem d_L_law_1245 : decode code 1245 = .ok (.iconst 0, 1) := by decide +kernel
theorem d_L_law_1246 : decode code 1246 = .ok (.ireturn, 1) := by decide +kernel
theorem d_L_law_1247 : decode code 1247 = .ok (.iload 5, 2) := by decide +kernel
theorem d_L_law_1249 : decode code 1249 = .ok (.ifCond .ne 15, 3) := by decide +kernel
theorem d_L_law_1252 : decode code 1252 = .ok (.aload_n 3, 1) := by decide +kernel
theorem d_L_law_1253 : decode code 1253 = .ok (.iconst 0, 1) := by decide +kernel
theorem d_L_law_1254 : decode code 1254 = .ok (.laload, 1) := by decide +kernel
theorem d_L_law_1255 : decode code 1255 = .ok (.iload 6, 2) := by decide +kernel
theorem d_L_law_1257 : decode code 1257 = .ok (.i2l, 1) := by decide +kernel
theorem d_L_law_1258 : decode code 1258 = .ok (.lcmp, 1) := by decide +kernel
theorem d_L_law_1259 : decode code 1259 = .ok (.ifCond .eq 5, 3) := by decide +kernel
theorem d_L_law_1262 : decode code 1262 = .ok (.iconst 0, 1) := by decide +kernel
theorem d_L_law_1263 : decode code 1263 = .ok (.ireturn, 1) := by decide +kernel
theorem d_L_law_1264 : decode code 1264 = .ok (.goto 28, 3) := by decide +kernel
theorem d_L_law_1267 : decode code 1267 = .ok (.aload_n 1, 1) := by decide +kernel
theorem d_L_law_1268 : decode code 1268 = .ok (.aload_n 0, 1) := by decide +kernel
theorem d_L_law_1269 : decode code 1269 = .ok (.iload 4, 2) := by decide +kernel
theorem d_L_law_1271 : decode code 1271 = .ok (.iconst 1, 1) := by decide +kernel
theorem d_L_law_1272 : decode code 1272 = .ok (.iadd, 1) := by decide +kernel
theorem d_L_law_1273 : decode code 1273 = .ok (.iaload, 1) := by decide +kernel
theorem d_L_law_1274 : decode code 1274 = .ok (.invokevirtual 156, 3) := by decide +kernel
theorem d_L_law_1277 : decode code 1277 = .ok (.aload_n 2, 1) := by decide +kernel
theorem d_L_law_1278 : decode code 1278 = .ok (.aload_n 0, 1) := by decide +kernel
theorem d_L_law_1279 : decode code 1279 = .ok (.iload 4, 2) := by decide +kernel
theorem d_L_law_1281 : decode code 1281 = .ok (.iconst 1, 1) := by decide +kernel
theorem d_L_law_1282 : decode code 1282 = .ok (.iadd, 1) := by decide +kernel
theorem d_L_law_1283 : decode code 1283 = .ok (.iaload, 1) := by decide +kernel
theorem d_L_law_1284 : decode code 1284 = .ok (.invokevirtual 159, 3) := by decide +kernel
theorem d_L_law_1287 : decode code 1287 = .ok (.if_icmp .eq 5, 3) := by decide +kernel
theorem d_L_law_1290 : decode code 1290 = .ok (.iconst 0, 1) := by decide +kernel
theorem d_L_law_1291 : decode code 1291 = .ok (.ireturn, 1) := by decide +kernel
theorem d_L_law_1292 : decode code 1292 = .ok (.iinc 4 4, 3) := by decide +kernel
theorem d_L_law_1295 : decode code 1295 = .ok (.goto (-1262), 3) := by decide +kernel
theorem d_L_law_1298 : decode code 1298 = .ok (.iconst 1, 1) := by decide +kernel
theorem d_L_law_1299 : decode code 1299 = .ok (.ireturn, 1) := by decide +kernel
