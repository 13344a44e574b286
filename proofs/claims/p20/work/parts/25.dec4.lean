theorem d_L_cell_0 : decode b_L_cell 0 = .ok (.iload_n 1, 1) := by decide +kernel
theorem d_L_cell_1 : decode b_L_cell 1 = .ok (.aload_n 0, 1) := by decide +kernel
theorem d_L_cell_2 : decode b_L_cell 2 = .ok (.arraylength, 1) := by decide +kernel
theorem d_L_cell_3 : decode b_L_cell 3 = .ok (.if_icmp .ge 9, 3) := by decide +kernel
theorem d_L_cell_6 : decode b_L_cell 6 = .ok (.aload_n 0, 1) := by decide +kernel
theorem d_L_cell_7 : decode b_L_cell 7 = .ok (.iload_n 1, 1) := by decide +kernel
theorem d_L_cell_8 : decode b_L_cell 8 = .ok (.iaload, 1) := by decide +kernel
theorem d_L_cell_9 : decode b_L_cell 9 = .ok (.goto 4, 3) := by decide +kernel
theorem d_L_cell_12 : decode b_L_cell 12 = .ok (.iconst 0, 1) := by decide +kernel
theorem d_L_cell_13 : decode b_L_cell 13 = .ok (.ireturn, 1) := by decide +kernel
theorem d_L_today_0 : decode b_L_today 0 = .ok (.aload_n 0, 1) := by decide +kernel
theorem d_L_today_1 : decode b_L_today 1 = .ok (.iload_n 1, 1) := by decide +kernel
theorem d_L_today_2 : decode b_L_today 2 = .ok (.invokevirtual 7, 3) := by decide +kernel
theorem d_L_today_5 : decode b_L_today 5 = .ok (.goto 6, 3) := by decide +kernel
theorem d_L_today_8 : decode b_L_today 8 = .ok (.astore_n 2, 1) := by decide +kernel
theorem d_L_today_9 : decode b_L_today 9 = .ok (.iconst 1, 1) := by decide +kernel
theorem d_L_today_10 : decode b_L_today 10 = .ok (.ireturn, 1) := by decide +kernel
theorem d_L_today_11 : decode b_L_today 11 = .ok (.iconst 0, 1) := by decide +kernel
theorem d_L_today_12 : decode b_L_today 12 = .ok (.ireturn, 1) := by decide +kernel
theorem d_L_rule_0 : decode b_L_rule 0 = .ok (.aload 4, 2) := by decide +kernel
theorem d_L_rule_2 : decode b_L_rule 2 = .ok (.iconst 0, 1) := by decide +kernel
theorem d_L_rule_3 : decode b_L_rule 3 = .ok (.aload_n 0, 1) := by decide +kernel
theorem d_L_rule_4 : decode b_L_rule 4 = .ok (.iload_n 1, 1) := by decide +kernel
theorem d_L_rule_5 : decode b_L_rule 5 = .ok (.iload_n 2, 1) := by decide +kernel
theorem d_L_rule_6 : decode b_L_rule 6 = .ok (.iload_n 3, 1) := by decide +kernel
theorem d_L_rule_7 : decode b_L_rule 7 = .ok (.invokevirtual 15, 3) := by decide +kernel
theorem d_L_rule_10 : decode b_L_rule 10 = .ok (.i2l, 1) := by decide +kernel
theorem d_L_rule_11 : decode b_L_rule 11 = .ok (.lastore, 1) := by decide +kernel
theorem d_L_rule_12 : decode b_L_rule 12 = .ok (.goto 11, 3) := by decide +kernel
theorem d_L_rule_15 : decode b_L_rule 15 = .ok (.astore 5, 2) := by decide +kernel
theorem d_L_rule_17 : decode b_L_rule 17 = .ok (.iconst 1, 1) := by decide +kernel
theorem d_L_rule_18 : decode b_L_rule 18 = .ok (.ireturn, 1) := by decide +kernel
theorem d_L_rule_19 : decode b_L_rule 19 = .ok (.astore 5, 2) := by decide +kernel
theorem d_L_rule_21 : decode b_L_rule 21 = .ok (.iconst 2, 1) := by decide +kernel
theorem d_L_rule_22 : decode b_L_rule 22 = .ok (.ireturn, 1) := by decide +kernel
theorem d_L_rule_23 : decode b_L_rule 23 = .ok (.iconst 0, 1) := by decide +kernel
theorem d_L_rule_24 : decode b_L_rule 24 = .ok (.ireturn, 1) := by decide +kernel
theorem d_L_op_0 : decode b_L_op 0 = .ok (.aload 4, 2) := by decide +kernel
theorem d_L_op_2 : decode b_L_op 2 = .ok (.iconst 0, 1) := by decide +kernel
theorem d_L_op_3 : decode b_L_op 3 = .ok (.aload_n 0, 1) := by decide +kernel
theorem d_L_op_4 : decode b_L_op 4 = .ok (.iload_n 1, 1) := by decide +kernel
theorem d_L_op_5 : decode b_L_op 5 = .ok (.iload_n 2, 1) := by decide +kernel
theorem d_L_op_6 : decode b_L_op 6 = .ok (.iload_n 3, 1) := by decide +kernel
theorem d_L_op_7 : decode b_L_op 7 = .ok (.invokevirtual 21, 3) := by decide +kernel
theorem d_L_op_10 : decode b_L_op 10 = .ok (.i2l, 1) := by decide +kernel
theorem d_L_op_11 : decode b_L_op 11 = .ok (.lastore, 1) := by decide +kernel
theorem d_L_op_12 : decode b_L_op 12 = .ok (.goto 19, 3) := by decide +kernel
theorem d_L_op_15 : decode b_L_op 15 = .ok (.astore 5, 2) := by decide +kernel
theorem d_L_op_17 : decode b_L_op 17 = .ok (.iconst 1, 1) := by decide +kernel
theorem d_L_op_18 : decode b_L_op 18 = .ok (.ireturn, 1) := by decide +kernel
theorem d_L_op_19 : decode b_L_op 19 = .ok (.astore 5, 2) := by decide +kernel
theorem d_L_op_21 : decode b_L_op 21 = .ok (.iconst 2, 1) := by decide +kernel
theorem d_L_op_22 : decode b_L_op 22 = .ok (.ireturn, 1) := by decide +kernel
theorem d_L_op_23 : decode b_L_op 23 = .ok (.astore 5, 2) := by decide +kernel
theorem d_L_op_25 : decode b_L_op 25 = .ok (.iconst 3, 1) := by decide +kernel
theorem d_L_op_26 : decode b_L_op 26 = .ok (.ireturn, 1) := by decide +kernel
theorem d_L_op_27 : decode b_L_op 27 = .ok (.astore 5, 2) := by decide +kernel
theorem d_L_op_29 : decode b_L_op 29 = .ok (.iconst 4, 1) := by decide +kernel
theorem d_L_op_30 : decode b_L_op 30 = .ok (.ireturn, 1) := by decide +kernel
theorem d_L_op_31 : decode b_L_op 31 = .ok (.iconst 0, 1) := by decide +kernel
theorem d_L_op_32 : decode b_L_op 32 = .ok (.ireturn, 1) := by decide +kernel
theorem d_L_make_0 : decode b_L_make 0 = .ok (.aload_n 2, 1) := by decide +kernel
theorem d_L_make_1 : decode b_L_make 1 = .ok (.iconst 0, 1) := by decide +kernel
theorem d_L_make_2 : decode b_L_make 2 = .ok (.aload_n 0, 1) := by decide +kernel
theorem d_L_make_3 : decode b_L_make 3 = .ok (.iload_n 1, 1) := by decide +kernel
theorem d_L_make_4 : decode b_L_make 4 = .ok (.invokevirtual 28, 3) := by decide +kernel
theorem d_L_make_7 : decode b_L_make 7 = .ok (.i2l, 1) := by decide +kernel
theorem d_L_make_8 : decode b_L_make 8 = .ok (.lastore, 1) := by decide +kernel
theorem d_L_make_9 : decode b_L_make 9 = .ok (.goto 9, 3) := by decide +kernel
theorem d_L_make_12 : decode b_L_make 12 = .ok (.astore_n 3, 1) := by decide +kernel
theorem d_L_make_13 : decode b_L_make 13 = .ok (.iconst 1, 1) := by decide +kernel
theorem d_L_make_14 : decode b_L_make 14 = .ok (.ireturn, 1) := by decide +kernel
theorem d_L_make_15 : decode b_L_make 15 = .ok (.astore_n 3, 1) := by decide +kernel
theorem d_L_make_16 : decode b_L_make 16 = .ok (.iconst 2, 1) := by decide +kernel
theorem d_L_make_17 : decode b_L_make 17 = .ok (.ireturn, 1) := by decide +kernel
theorem d_L_make_18 : decode b_L_make 18 = .ok (.iconst 0, 1) := by decide +kernel
theorem d_L_make_19 : decode b_L_make 19 = .ok (.ireturn, 1) := by decide +kernel
theorem d_L_fact_0 : decode b_L_fact 0 = .ok (.aload_n 0, 1) := by decide +kernel
theorem d_L_fact_1 : decode b_L_fact 1 = .ok (.iload_n 1, 1) := by decide +kernel
theorem d_L_fact_2 : decode b_L_fact 2 = .ok (.iload_n 2, 1) := by decide +kernel
theorem d_L_fact_3 : decode b_L_fact 3 = .ok (.invokevirtual 32, 3) := by decide +kernel
theorem d_L_fact_6 : decode b_L_fact 6 = .ok (.goto 6, 3) := by decide +kernel
theorem d_L_fact_9 : decode b_L_fact 9 = .ok (.astore_n 3, 1) := by decide +kernel
theorem d_L_fact_10 : decode b_L_fact 10 = .ok (.iconst 1, 1) := by decide +kernel
theorem d_L_fact_11 : decode b_L_fact 11 = .ok (.ireturn, 1) := by decide +kernel
theorem d_L_fact_12 : decode b_L_fact 12 = .ok (.iconst 0, 1) := by decide +kernel
theorem d_L_fact_13 : decode b_L_fact 13 = .ok (.ireturn, 1) := by decide +kernel
theorem d_L_ask_0 : decode b_L_ask 0 = .ok (.aload_n 3, 1) := by decide +kernel
theorem d_L_ask_1 : decode b_L_ask 1 = .ok (.iconst 0, 1) := by decide +kernel
theorem d_L_ask_2 : decode b_L_ask 2 = .ok (.aload_n 0, 1) := by decide +kernel
theorem d_L_ask_3 : decode b_L_ask 3 = .ok (.iload_n 1, 1) := by decide +kernel
theorem d_L_ask_4 : decode b_L_ask 4 = .ok (.iload_n 2, 1) := by decide +kernel
theorem d_L_ask_5 : decode b_L_ask 5 = .ok (.invokevirtual 36, 3) := by decide +kernel
theorem d_L_ask_8 : decode b_L_ask 8 = .ok (.i2l, 1) := by decide +kernel
theorem d_L_ask_9 : decode b_L_ask 9 = .ok (.lastore, 1) := by decide +kernel
theorem d_L_ask_10 : decode b_L_ask 10 = .ok (.goto 7, 3) := by decide +kernel
theorem d_L_ask_13 : decode b_L_ask 13 = .ok (.astore 4, 2) := by decide +kernel
theorem d_L_ask_15 : decode b_L_ask 15 = .ok (.iconst 1, 1) := by decide +kernel
theorem d_L_ask_16 : decode b_L_ask 16 = .ok (.ireturn, 1) := by decide +kernel
theorem d_L_ask_17 : decode b_L_ask 17 = .ok (.iconst 0, 1) := by decide +kernel
theorem d_L_ask_18 : decode b_L_ask 18 = .ok (.ireturn, 1) := by decide +kernel
theorem d_L_fallback_0 : decode b_L_fallback 0 = .ok (.aload_n 0, 1) := by decide +kernel
theorem d_L_fallback_1 : decode b_L_fallback 1 = .ok (.iload_n 1, 1) := by decide +kernel
theorem d_L_fallback_2 : decode b_L_fallback 2 = .ok (.iload_n 2, 1) := by decide +kernel
theorem d_L_fallback_3 : decode b_L_fallback 3 = .ok (.invokevirtual 40, 3) := by decide +kernel
theorem d_L_fallback_6 : decode b_L_fallback 6 = .ok (.goto 6, 3) := by decide +kernel
theorem d_L_fallback_9 : decode b_L_fallback 9 = .ok (.astore_n 3, 1) := by decide +kernel
theorem d_L_fallback_10 : decode b_L_fallback 10 = .ok (.iconst 1, 1) := by decide +kernel
theorem d_L_fallback_11 : decode b_L_fallback 11 = .ok (.ireturn, 1) := by decide +kernel
theorem d_L_fallback_12 : decode b_L_fallback 12 = .ok (.iconst 0, 1) := by decide +kernel
theorem d_L_fallback_13 : decode b_L_fallback 13 = .ok (.ireturn, 1) := by decide +kernel
theorem d_L_edition_0 : decode b_L_edition 0 = .ok (.aload 4, 2) := by decide +kernel
theorem d_L_edition_2 : decode b_L_edition 2 = .ok (.iconst 0, 1) := by decide +kernel
theorem d_L_edition_3 : decode b_L_edition 3 = .ok (.aload_n 0, 1) := by decide +kernel
theorem d_L_edition_4 : decode b_L_edition 4 = .ok (.iload_n 1, 1) := by decide +kernel
theorem d_L_edition_5 : decode b_L_edition 5 = .ok (.iload_n 2, 1) := by decide +kernel
theorem d_L_edition_6 : decode b_L_edition 6 = .ok (.iload_n 3, 1) := by decide +kernel
theorem d_L_edition_7 : decode b_L_edition 7 = .ok (.invokevirtual 43, 3) := by decide +kernel
theorem d_L_edition_10 : decode b_L_edition 10 = .ok (.i2l, 1) := by decide +kernel
theorem d_L_edition_11 : decode b_L_edition 11 = .ok (.lastore, 1) := by decide +kernel
theorem d_L_edition_12 : decode b_L_edition 12 = .ok (.goto 7, 3) := by decide +kernel
theorem d_L_edition_15 : decode b_L_edition 15 = .ok (.astore 5, 2) := by decide +kernel
theorem d_L_edition_17 : decode b_L_edition 17 = .ok (.iconst 1, 1) := by decide +kernel
theorem d_L_edition_18 : decode b_L_edition 18 = .ok (.ireturn, 1) := by decide +kernel
theorem d_L_edition_19 : decode b_L_edition 19 = .ok (.iconst 0, 1) := by decide +kernel
theorem d_L_edition_20 : decode b_L_edition 20 = .ok (.ireturn, 1) := by decide +kernel
theorem d_L_failed_0 : decode b_L_failed 0 = .ok (.aload_n 3, 1) := by decide +kernel
theorem d_L_failed_1 : decode b_L_failed 1 = .ok (.iconst 0, 1) := by decide +kernel
theorem d_L_failed_2 : decode b_L_failed 2 = .ok (.aload_n 0, 1) := by decide +kernel
theorem d_L_failed_3 : decode b_L_failed 3 = .ok (.iload_n 1, 1) := by decide +kernel
theorem d_L_failed_4 : decode b_L_failed 4 = .ok (.iload_n 2, 1) := by decide +kernel
theorem d_L_failed_5 : decode b_L_failed 5 = .ok (.invokevirtual 46, 3) := by decide +kernel
theorem d_L_failed_8 : decode b_L_failed 8 = .ok (.i2l, 1) := by decide +kernel
theorem d_L_failed_9 : decode b_L_failed 9 = .ok (.lastore, 1) := by decide +kernel
theorem d_L_failed_10 : decode b_L_failed 10 = .ok (.goto 7, 3) := by decide +kernel
theorem d_L_failed_13 : decode b_L_failed 13 = .ok (.astore 4, 2) := by decide +kernel
theorem d_L_failed_15 : decode b_L_failed 15 = .ok (.iconst 1, 1) := by decide +kernel
theorem d_L_failed_16 : decode b_L_failed 16 = .ok (.ireturn, 1) := by decide +kernel
theorem d_L_failed_17 : decode b_L_failed 17 = .ok (.iconst 0, 1) := by decide +kernel
theorem d_L_failed_18 : decode b_L_failed 18 = .ok (.ireturn, 1) := by decide +kernel
theorem d_L_handle_0 : decode b_L_handle 0 = .ok (.aload_n 2, 1) := by decide +kernel
theorem d_L_handle_1 : decode b_L_handle 1 = .ok (.iconst 0, 1) := by decide +kernel
theorem d_L_handle_2 : decode b_L_handle 2 = .ok (.aload_n 0, 1) := by decide +kernel
theorem d_L_handle_3 : decode b_L_handle 3 = .ok (.iload_n 1, 1) := by decide +kernel
theorem d_L_handle_4 : decode b_L_handle 4 = .ok (.invokevirtual 49, 3) := by decide +kernel
theorem d_L_handle_7 : decode b_L_handle 7 = .ok (.i2l, 1) := by decide +kernel
theorem d_L_handle_8 : decode b_L_handle 8 = .ok (.lastore, 1) := by decide +kernel
theorem d_L_handle_9 : decode b_L_handle 9 = .ok (.goto 12, 3) := by decide +kernel
theorem d_L_handle_12 : decode b_L_handle 12 = .ok (.astore_n 3, 1) := by decide +kernel
theorem d_L_handle_13 : decode b_L_handle 13 = .ok (.iconst 1, 1) := by decide +kernel
theorem d_L_handle_14 : decode b_L_handle 14 = .ok (.ireturn, 1) := by decide +kernel
theorem d_L_handle_15 : decode b_L_handle 15 = .ok (.astore_n 3, 1) := by decide +kernel
theorem d_L_handle_16 : decode b_L_handle 16 = .ok (.iconst 2, 1) := by decide +kernel
theorem d_L_handle_17 : decode b_L_handle 17 = .ok (.ireturn, 1) := by decide +kernel
theorem d_L_handle_18 : decode b_L_handle 18 = .ok (.astore_n 3, 1) := by decide +kernel
theorem d_L_handle_19 : decode b_L_handle 19 = .ok (.iconst 3, 1) := by decide +kernel
theorem d_L_handle_20 : decode b_L_handle 20 = .ok (.ireturn, 1) := by decide +kernel
theorem d_L_handle_21 : decode b_L_handle 21 = .ok (.iconst 0, 1) := by decide +kernel
theorem d_L_handle_22 : decode b_L_handle 22 = .ok (.ireturn, 1) := by decide +kernel
theorem d_L_by_0 : decode b_L_by 0 = .ok (.aload_n 2, 1) := by decide +kernel
theorem d_L_by_1 : decode b_L_by 1 = .ok (.iconst 0, 1) := by decide +kernel
theorem d_L_by_2 : decode b_L_by 2 = .ok (.aload_n 0, 1) := by decide +kernel
theorem d_L_by_3 : decode b_L_by 3 = .ok (.iload_n 1, 1) := by decide +kernel
theorem d_L_by_4 : decode b_L_by 4 = .ok (.invokevirtual 52, 3) := by decide +kernel
theorem d_L_by_7 : decode b_L_by 7 = .ok (.i2l, 1) := by decide +kernel
theorem d_L_by_8 : decode b_L_by 8 = .ok (.lastore, 1) := by decide +kernel
theorem d_L_by_9 : decode b_L_by 9 = .ok (.goto 9, 3) := by decide +kernel
theorem d_L_by_12 : decode b_L_by 12 = .ok (.astore_n 3, 1) := by decide +kernel
theorem d_L_by_13 : decode b_L_by 13 = .ok (.iconst 1, 1) := by decide +kernel
theorem d_L_by_14 : decode b_L_by 14 = .ok (.ireturn, 1) := by decide +kernel
theorem d_L_by_15 : decode b_L_by 15 = .ok (.astore_n 3, 1) := by decide +kernel
theorem d_L_by_16 : decode b_L_by 16 = .ok (.iconst 2, 1) := by decide +kernel
theorem d_L_by_17 : decode b_L_by 17 = .ok (.ireturn, 1) := by decide +kernel
theorem d_L_by_18 : decode b_L_by 18 = .ok (.iconst 0, 1) := by decide +kernel
theorem d_L_by_19 : decode b_L_by 19 = .ok (.ireturn, 1) := by decide +kernel
theorem d_L_keep_0 : decode b_L_keep 0 = .ok (.aload_n 1, 1) := by decide +kernel
theorem d_L_keep_1 : decode b_L_keep 1 = .ok (.iconst 0, 1) := by decide +kernel
theorem d_L_keep_2 : decode b_L_keep 2 = .ok (.aload_n 0, 1) := by decide +kernel
theorem d_L_keep_3 : decode b_L_keep 3 = .ok (.invokevirtual 55, 3) := by decide +kernel
theorem d_L_keep_6 : decode b_L_keep 6 = .ok (.i2l, 1) := by decide +kernel
theorem d_L_keep_7 : decode b_L_keep 7 = .ok (.lastore, 1) := by decide +kernel
theorem d_L_keep_8 : decode b_L_keep 8 = .ok (.goto 6, 3) := by decide +kernel
theorem d_L_keep_11 : decode b_L_keep 11 = .ok (.astore_n 2, 1) := by decide +kernel
theorem d_L_keep_12 : decode b_L_keep 12 = .ok (.iconst 1, 1) := by decide +kernel
theorem d_L_keep_13 : decode b_L_keep 13 = .ok (.ireturn, 1) := by decide +kernel
theorem d_L_keep_14 : decode b_L_keep 14 = .ok (.iconst 0, 1) := by decide +kernel
theorem d_L_keep_15 : decode b_L_keep 15 = .ok (.ireturn, 1) := by decide +kernel
theorem d_L_compare_0 : decode b_L_compare 0 = .ok (.aload_n 3, 1) := by decide +kernel
theorem d_L_compare_1 : decode b_L_compare 1 = .ok (.iconst 0, 1) := by decide +kernel
theorem d_L_compare_2 : decode b_L_compare 2 = .ok (.aload_n 0, 1) := by decide +kernel
theorem d_L_compare_3 : decode b_L_compare 3 = .ok (.iload_n 1, 1) := by decide +kernel
theorem d_L_compare_4 : decode b_L_compare 4 = .ok (.iload_n 2, 1) := by decide +kernel
theorem d_L_compare_5 : decode b_L_compare 5 = .ok (.invokevirtual 59, 3) := by decide +kernel
theorem d_L_compare_8 : decode b_L_compare 8 = .ok (.i2l, 1) := by decide +kernel
theorem d_L_compare_9 : decode b_L_compare 9 = .ok (.lastore, 1) := by decide +kernel
theorem d_L_compare_10 : decode b_L_compare 10 = .ok (.goto 7, 3) := by decide +kernel
theorem d_L_compare_13 : decode b_L_compare 13 = .ok (.astore 4, 2) := by decide +kernel
theorem d_L_compare_15 : decode b_L_compare 15 = .ok (.iconst 1, 1) := by decide +kernel
theorem d_L_compare_16 : decode b_L_compare 16 = .ok (.ireturn, 1) := by decide +kernel
theorem d_L_compare_17 : decode b_L_compare 17 = .ok (.iconst 0, 1) := by decide +kernel
theorem d_L_compare_18 : decode b_L_compare 18 = .ok (.ireturn, 1) := by decide +kernel
theorem d_L_same_0 : decode b_L_same 0 = .ok (.aload_n 3, 1) := by decide +kernel
theorem d_L_same_1 : decode b_L_same 1 = .ok (.iconst 0, 1) := by decide +kernel
theorem d_L_same_2 : decode b_L_same 2 = .ok (.aload_n 0, 1) := by decide +kernel
theorem d_L_same_3 : decode b_L_same 3 = .ok (.iload_n 1, 1) := by decide +kernel
theorem d_L_same_4 : decode b_L_same 4 = .ok (.iload_n 2, 1) := by decide +kernel
theorem d_L_same_5 : decode b_L_same 5 = .ok (.invokevirtual 62, 3) := by decide +kernel
theorem d_L_same_8 : decode b_L_same 8 = .ok (.ifCond .eq 7, 3) := by decide +kernel
theorem d_L_same_11 : decode b_L_same 11 = .ok (.lconst 1, 1) := by decide +kernel
theorem d_L_same_12 : decode b_L_same 12 = .ok (.goto 4, 3) := by decide +kernel
theorem d_L_same_15 : decode b_L_same 15 = .ok (.lconst 0, 1) := by decide +kernel
theorem d_L_same_16 : decode b_L_same 16 = .ok (.lastore, 1) := by decide +kernel
theorem d_L_same_17 : decode b_L_same 17 = .ok (.goto 7, 3) := by decide +kernel
theorem d_L_same_20 : decode b_L_same 20 = .ok (.astore 4, 2) := by decide +kernel
theorem d_L_same_22 : decode b_L_same 22 = .ok (.iconst 1, 1) := by decide +kernel
theorem d_L_same_23 : decode b_L_same 23 = .ok (.ireturn, 1) := by decide +kernel
theorem d_L_same_24 : decode b_L_same 24 = .ok (.iconst 0, 1) := by decide +kernel
theorem d_L_same_25 : decode b_L_same 25 = .ok (.ireturn, 1) := by decide +kernel
theorem d_L_shadow_0 : decode b_L_shadow 0 = .ok (.aload_n 0, 1) := by decide +kernel
theorem d_L_shadow_1 : decode b_L_shadow 1 = .ok (.iload_n 1, 1) := by decide +kernel
theorem d_L_shadow_2 : decode b_L_shadow 2 = .ok (.iload_n 2, 1) := by decide +kernel
theorem d_L_shadow_3 : decode b_L_shadow 3 = .ok (.iload_n 3, 1) := by decide +kernel
theorem d_L_shadow_4 : decode b_L_shadow 4 = .ok (.invokevirtual 66, 3) := by decide +kernel
theorem d_L_shadow_7 : decode b_L_shadow 7 = .ok (.goto 11, 3) := by decide +kernel
theorem d_L_shadow_10 : decode b_L_shadow 10 = .ok (.astore 4, 2) := by decide +kernel
theorem d_L_shadow_12 : decode b_L_shadow 12 = .ok (.iconst 1, 1) := by decide +kernel
theorem d_L_shadow_13 : decode b_L_shadow 13 = .ok (.ireturn, 1) := by decide +kernel
theorem d_L_shadow_14 : decode b_L_shadow 14 = .ok (.astore 4, 2) := by decide +kernel
theorem d_L_shadow_16 : decode b_L_shadow 16 = .ok (.iconst 2, 1) := by decide +kernel
theorem d_L_shadow_17 : decode b_L_shadow 17 = .ok (.ireturn, 1) := by decide +kernel
theorem d_L_shadow_18 : decode b_L_shadow 18 = .ok (.iconst 0, 1) := by decide +kernel
theorem d_L_shadow_19 : decode b_L_shadow 19 = .ok (.ireturn, 1) := by decide +kernel
theorem d_L_otherwise_0 : decode b_L_otherwise 0 = .ok (.aload_n 3, 1) := by decide +kernel
theorem d_L_otherwise_1 : decode b_L_otherwise 1 = .ok (.iconst 0, 1) := by decide +kernel
theorem d_L_otherwise_2 : decode b_L_otherwise 2 = .ok (.aload_n 0, 1) := by decide +kernel
theorem d_L_otherwise_3 : decode b_L_otherwise 3 = .ok (.iload_n 1, 1) := by decide +kernel
theorem d_L_otherwise_4 : decode b_L_otherwise 4 = .ok (.iload_n 2, 1) := by decide +kernel
theorem d_L_otherwise_5 : decode b_L_otherwise 5 = .ok (.invokevirtual 70, 3) := by decide +kernel
theorem d_L_otherwise_8 : decode b_L_otherwise 8 = .ok (.i2l, 1) := by decide +kernel
theorem d_L_otherwise_9 : decode b_L_otherwise 9 = .ok (.lastore, 1) := by decide +kernel
theorem d_L_otherwise_10 : decode b_L_otherwise 10 = .ok (.goto 7, 3) := by decide +kernel
theorem d_L_otherwise_13 : decode b_L_otherwise 13 = .ok (.astore 4, 2) := by decide +kernel
theorem d_L_otherwise_15 : decode b_L_otherwise 15 = .ok (.iconst 1, 1) := by decide +kernel
theorem d_L_otherwise_16 : decode b_L_otherwise 16 = .ok (.ireturn, 1) := by decide +kernel
theorem d_L_otherwise_17 : decode b_L_otherwise 17 = .ok (.iconst 0, 1) := by decide +kernel
theorem d_L_otherwise_18 : decode b_L_otherwise 18 = .ok (.ireturn, 1) := by decide +kernel
theorem d_L_divide_0 : decode b_L_divide 0 = .ok (.aload_n 3, 1) := by decide +kernel
theorem d_L_divide_1 : decode b_L_divide 1 = .ok (.iconst 0, 1) := by decide +kernel
theorem d_L_divide_2 : decode b_L_divide 2 = .ok (.aload_n 0, 1) := by decide +kernel
theorem d_L_divide_3 : decode b_L_divide 3 = .ok (.iload_n 1, 1) := by decide +kernel
theorem d_L_divide_4 : decode b_L_divide 4 = .ok (.iload_n 2, 1) := by decide +kernel
theorem d_L_divide_5 : decode b_L_divide 5 = .ok (.invokevirtual 73, 3) := by decide +kernel
theorem d_L_divide_8 : decode b_L_divide 8 = .ok (.i2l, 1) := by decide +kernel
theorem d_L_divide_9 : decode b_L_divide 9 = .ok (.lastore, 1) := by decide +kernel
theorem d_L_divide_10 : decode b_L_divide 10 = .ok (.goto 7, 3) := by decide +kernel
theorem d_L_divide_13 : decode b_L_divide 13 = .ok (.astore 4, 2) := by decide +kernel
theorem d_L_divide_15 : decode b_L_divide 15 = .ok (.iconst 1, 1) := by decide +kernel
theorem d_L_divide_16 : decode b_L_divide 16 = .ok (.ireturn, 1) := by decide +kernel
theorem d_L_divide_17 : decode b_L_divide 17 = .ok (.iconst 0, 1) := by decide +kernel
theorem d_L_divide_18 : decode b_L_divide 18 = .ok (.ireturn, 1) := by decide +kernel
theorem d_L_told_0 : decode b_L_told 0 = .ok (.aload_n 3, 1) := by decide +kernel
theorem d_L_told_1 : decode b_L_told 1 = .ok (.iconst 0, 1) := by decide +kernel
theorem d_L_told_2 : decode b_L_told 2 = .ok (.aload_n 0, 1) := by decide +kernel
theorem d_L_told_3 : decode b_L_told 3 = .ok (.iload_n 1, 1) := by decide +kernel
theorem d_L_told_4 : decode b_L_told 4 = .ok (.iload_n 2, 1) := by decide +kernel
theorem d_L_told_5 : decode b_L_told 5 = .ok (.invokevirtual 78, 3) := by decide +kernel
theorem d_L_told_8 : decode b_L_told 8 = .ok (.i2l, 1) := by decide +kernel
theorem d_L_told_9 : decode b_L_told 9 = .ok (.lastore, 1) := by decide +kernel
theorem d_L_told_10 : decode b_L_told 10 = .ok (.goto 11, 3) := by decide +kernel
theorem d_L_told_13 : decode b_L_told 13 = .ok (.astore 4, 2) := by decide +kernel
theorem d_L_told_15 : decode b_L_told 15 = .ok (.iconst 1, 1) := by decide +kernel
theorem d_L_told_16 : decode b_L_told 16 = .ok (.ireturn, 1) := by decide +kernel
theorem d_L_told_17 : decode b_L_told 17 = .ok (.astore 4, 2) := by decide +kernel
theorem d_L_told_19 : decode b_L_told 19 = .ok (.iconst 2, 1) := by decide +kernel
theorem d_L_told_20 : decode b_L_told 20 = .ok (.ireturn, 1) := by decide +kernel
theorem d_L_told_21 : decode b_L_told 21 = .ok (.iconst 0, 1) := by decide +kernel
theorem d_L_told_22 : decode b_L_told 22 = .ok (.ireturn, 1) := by decide +kernel
theorem d_L_law_0 : decode code 0 = .ok (.new 8, 3) := by decide +kernel
theorem d_L_law_3 : decode code 3 = .ok (.dup, 1) := by decide +kernel
theorem d_L_law_4 : decode code 4 = .ok (.aload_n 0, 1) := by decide +kernel
theorem d_L_law_5 : decode code 5 = .ok (.iconst 0, 1) := by decide +kernel
theorem d_L_law_6 : decode code 6 = .ok (.invokestatic 81, 3) := by decide +kernel
theorem d_L_law_9 : decode code 9 = .ok (.invokespecial 87, 3) := by decide +kernel
theorem d_L_law_12 : decode code 12 = .ok (.astore_n 1, 1) := by decide +kernel
theorem d_L_law_13 : decode code 13 = .ok (.new 89, 3) := by decide +kernel
theorem d_L_law_16 : decode code 16 = .ok (.dup, 1) := by decide +kernel
theorem d_L_law_17 : decode code 17 = .ok (.aload_n 0, 1) := by decide +kernel
theorem d_L_law_18 : decode code 18 = .ok (.iconst 0, 1) := by decide +kernel
theorem d_L_law_19 : decode code 19 = .ok (.invokestatic 81, 3) := by decide +kernel
theorem d_L_law_22 : decode code 22 = .ok (.invokespecial 91, 3) := by decide +kernel
theorem d_L_law_25 : decode code 25 = .ok (.astore_n 2, 1) := by decide +kernel
theorem d_L_law_26 : decode code 26 = .ok (.iconst 1, 1) := by decide +kernel
theorem d_L_law_27 : decode code 27 = .ok (.newarray .long, 2) := by decide +kernel
theorem d_L_law_29 : decode code 29 = .ok (.astore_n 3, 1) := by decide +kernel
theorem d_L_law_30 : decode code 30 = .ok (.iconst 1, 1) := by decide +kernel
theorem d_L_law_31 : decode code 31 = .ok (.istore 4, 2) := by decide +kernel
theorem d_L_law_33 : decode code 33 = .ok (.iload 4, 2) := by decide +kernel
theorem d_L_law_35 : decode code 35 = .ok (.aload_n 0, 1) := by decide +kernel
theorem d_L_law_36 : decode code 36 = .ok (.arraylength, 1) := by decide +kernel
theorem d_L_law_37 : decode code 37 = .ok (.iconst 4, 1) := by decide +kernel
theorem d_L_law_38 : decode code 38 = .ok (.isub, 1) := by decide +kernel
theorem d_L_law_39 : decode code 39 = .ok (.if_icmp .gt 816, 3) := by decide +kernel
theorem d_L_law_42 : decode code 42 = .ok (.aload_n 0, 1) := by decide +kernel
theorem d_L_law_43 : decode code 43 = .ok (.iload 4, 2) := by decide +kernel
theorem d_L_law_45 : decode code 45 = .ok (.iaload, 1) := by decide +kernel
theorem d_L_law_46 : decode code 46 = .ok (.bipush 31, 2) := by decide +kernel
theorem d_L_law_48 : decode code 48 = .ok (.iand, 1) := by decide +kernel
theorem d_L_law_49 : decode code 49 = .ok (.tableswitch 800 0 18 #[91, 116, 168, 220, 248, 285, 325, 362, 414, 454, 482, 510, 526, 566, 606, 655, 695, 735, 775], 91) := by decide +kernel
theorem d_L_law_140 : decode code 140 = .ok (.aload_n 1, 1) := by decide +kernel
theorem d_L_law_141 : decode code 141 = .ok (.aload_n 0, 1) := by decide +kernel
theorem d_L_law_142 : decode code 142 = .ok (.iload 4, 2) := by decide +kernel
theorem d_L_law_144 : decode code 144 = .ok (.iconst 1, 1) := by decide +kernel
theorem d_L_law_145 : decode code 145 = .ok (.iadd, 1) := by decide +kernel
theorem d_L_law_146 : decode code 146 = .ok (.iaload, 1) := by decide +kernel
theorem d_L_law_147 : decode code 147 = .ok (.invokestatic 92, 3) := by decide +kernel
theorem d_L_law_150 : decode code 150 = .ok (.istore 5, 2) := by decide +kernel
theorem d_L_law_152 : decode code 152 = .ok (.aload_n 2, 1) := by decide +kernel
theorem d_L_law_153 : decode code 153 = .ok (.aload_n 0, 1) := by decide +kernel
theorem d_L_law_154 : decode code 154 = .ok (.iload 4, 2) := by decide +kernel
theorem d_L_law_156 : decode code 156 = .ok (.iconst 1, 1) := by decide +kernel
theorem d_L_law_157 : decode code 157 = .ok (.iadd, 1) := by decide +kernel
theorem d_L_law_158 : decode code 158 = .ok (.iaload, 1) := by decide +kernel
theorem d_L_law_159 : decode code 159 = .ok (.invokevirtual 95, 3) := by decide +kernel
theorem d_L_law_162 : decode code 162 = .ok (.goto 687, 3) := by decide +kernel
theorem d_L_law_165 : decode code 165 = .ok (.aload_n 1, 1) := by decide +kernel
theorem d_L_law_166 : decode code 166 = .ok (.aload_n 0, 1) := by decide +kernel
theorem d_L_law_167 : decode code 167 = .ok (.iload 4, 2) := by decide +kernel
theorem d_L_law_169 : decode code 169 = .ok (.iconst 1, 1) := by decide +kernel
theorem d_L_law_170 : decode code 170 = .ok (.iadd, 1) := by decide +kernel
theorem d_L_law_171 : decode code 171 = .ok (.iaload, 1) := by decide +kernel
theorem d_L_law_172 : decode code 172 = .ok (.aload_n 0, 1) := by decide +kernel
theorem d_L_law_173 : decode code 173 = .ok (.iload 4, 2) := by decide +kernel
theorem d_L_law_175 : decode code 175 = .ok (.iconst 2, 1) := by decide +kernel
theorem d_L_law_176 : decode code 176 = .ok (.iadd, 1) := by decide +kernel
theorem d_L_law_177 : decode code 177 = .ok (.iaload, 1) := by decide +kernel
theorem d_L_law_178 : decode code 178 = .ok (.aload_n 0, 1) := by decide +kernel
theorem d_L_law_179 : decode code 179 = .ok (.iload 4, 2) := by decide +kernel
theorem d_L_law_181 : decode code 181 = .ok (.iconst 3, 1) := by decide +kernel
theorem d_L_law_182 : decode code 182 = .ok (.iadd, 1) := by decide +kernel
theorem d_L_law_183 : decode code 183 = .ok (.iaload, 1) := by decide +kernel
theorem d_L_law_184 : decode code 184 = .ok (.aload_n 3, 1) := by decide +kernel
theorem d_L_law_185 : decode code 185 = .ok (.invokestatic 96, 3) := by decide +kernel
theorem d_L_law_188 : decode code 188 = .ok (.istore 5, 2) := by decide +kernel
theorem d_L_law_190 : decode code 190 = .ok (.aload_n 2, 1) := by decide +kernel
theorem d_L_law_191 : decode code 191 = .ok (.aload_n 0, 1) := by decide +kernel
theorem d_L_law_192 : decode code 192 = .ok (.iload 4, 2) := by decide +kernel
theorem d_L_law_194 : decode code 194 = .ok (.iconst 1, 1) := by decide +kernel
theorem d_L_law_195 : decode code 195 = .ok (.iadd, 1) := by decide +kernel
theorem d_L_law_196 : decode code 196 = .ok (.iaload, 1) := by decide +kernel
theorem d_L_law_197 : decode code 197 = .ok (.aload_n 0, 1) := by decide +kernel
theorem d_L_law_198 : decode code 198 = .ok (.iload 4, 2) := by decide +kernel
theorem d_L_law_200 : decode code 200 = .ok (.iconst 2, 1) := by decide +kernel
theorem d_L_law_201 : decode code 201 = .ok (.iadd, 1) := by decide +kernel
theorem d_L_law_202 : decode code 202 = .ok (.iaload, 1) := by decide +kernel
theorem d_L_law_203 : decode code 203 = .ok (.aload_n 0, 1) := by decide +kernel
theorem d_L_law_204 : decode code 204 = .ok (.iload 4, 2) := by decide +kernel
theorem d_L_law_206 : decode code 206 = .ok (.iconst 3, 1) := by decide +kernel
theorem d_L_law_207 : decode code 207 = .ok (.iadd, 1) := by decide +kernel
theorem d_L_law_208 : decode code 208 = .ok (.iaload, 1) := by decide +kernel
theorem d_L_law_209 : decode code 209 = .ok (.invokevirtual 99, 3) := by decide +kernel
theorem d_L_law_212 : decode code 212 = .ok (.istore 6, 2) := by decide +kernel
theorem d_L_law_214 : decode code 214 = .ok (.goto 635, 3) := by decide +kernel
theorem d_L_law_217 : decode code 217 = .ok (.aload_n 1, 1) := by decide +kernel
theorem d_L_law_218 : decode code 218 = .ok (.aload_n 0, 1) := by decide +kernel
theorem d_L_law_219 : decode code 219 = .ok (.iload 4, 2) := by decide +kernel
theorem d_L_law_221 : decode code 221 = .ok (.iconst 1, 1) := by decide +kernel
theorem d_L_law_222 : decode code 222 = .ok (.iadd, 1) := by decide +kernel
theorem d_L_law_223 : decode code 223 = .ok (.iaload, 1) := by decide +kernel
theorem d_L_law_224 : decode code 224 = .ok (.aload_n 0, 1) := by decide +kernel
theorem d_L_law_225 : decode code 225 = .ok (.iload 4, 2) := by decide +kernel
theorem d_L_law_227 : decode code 227 = .ok (.iconst 2, 1) := by decide +kernel
theorem d_L_law_228 : decode code 228 = .ok (.iadd, 1) := by decide +kernel
theorem d_L_law_229 : decode code 229 = .ok (.iaload, 1) := by decide +kernel
theorem d_L_law_230 : decode code 230 = .ok (.aload_n 0, 1) := by decide +kernel
theorem d_L_law_231 : decode code 231 = .ok (.iload 4, 2) := by decide +kernel
theorem d_L_law_233 : decode code 233 = .ok (.iconst 3, 1) := by decide +kernel
theorem d_L_law_234 : decode code 234 = .ok (.iadd, 1) := by decide +kernel
theorem d_L_law_235 : decode code 235 = .ok (.iaload, 1) := by decide +kernel
theorem d_L_law_236 : decode code 236 = .ok (.aload_n 3, 1) := by decide +kernel
theorem d_L_law_237 : decode code 237 = .ok (.invokestatic 100, 3) := by decide +kernel
theorem d_L_law_240 : decode code 240 = .ok (.istore 5, 2) := by decide +kernel
theorem d_L_law_242 : decode code 242 = .ok (.aload_n 2, 1) := by decide +kernel
theorem d_L_law_243 : decode code 243 = .ok (.aload_n 0, 1) := by decide +kernel
theorem d_L_law_244 : decode code 244 = .ok (.iload 4, 2) := by decide +kernel
theorem d_L_law_246 : decode code 246 = .ok (.iconst 1, 1) := by decide +kernel
theorem d_L_law_247 : decode code 247 = .ok (.iadd, 1) := by decide +kernel
theorem d_L_law_248 : decode code 248 = .ok (.iaload, 1) := by decide +kernel
theorem d_L_law_249 : decode code 249 = .ok (.aload_n 0, 1) := by decide +kernel
theorem d_L_law_250 : decode code 250 = .ok (.iload 4, 2) := by decide +kernel
theorem d_L_law_252 : decode code 252 = .ok (.iconst 2, 1) := by decide +kernel
theorem d_L_law_253 : decode code 253 = .ok (.iadd, 1) := by decide +kernel
theorem d_L_law_254 : decode code 254 = .ok (.iaload, 1) := by decide +kernel
theorem d_L_law_255 : decode code 255 = .ok (.aload_n 0, 1) := by decide +kernel
theorem d_L_law_256 : decode code 256 = .ok (.iload 4, 2) := by decide +kernel
theorem d_L_law_258 : decode code 258 = .ok (.iconst 3, 1) := by decide +kernel
theorem d_L_law_259 : decode code 259 = .ok (.iadd, 1) := by decide +kernel
theorem d_L_law_260 : decode code 260 = .ok (.iaload, 1) := by decide +kernel
theorem d_L_law_261 : decode code 261 = .ok (.invokevirtual 102, 3) := by decide +kernel
theorem d_L_law_264 : decode code 264 = .ok (.istore 6, 2) := by decide +kernel
theorem d_L_law_266 : decode code 266 = .ok (.goto 583, 3) := by decide +kernel
theorem d_L_law_269 : decode code 269 = .ok (.aload_n 1, 1) := by decide +kernel
theorem d_L_law_270 : decode code 270 = .ok (.aload_n 0, 1) := by decide +kernel
theorem d_L_law_271 : decode code 271 = .ok (.iload 4, 2) := by decide +kernel
theorem d_L_law_273 : decode code 273 = .ok (.iconst 1, 1) := by decide +kernel
theorem d_L_law_274 : decode code 274 = .ok (.iadd, 1) := by decide +kernel
theorem d_L_law_275 : decode code 275 = .ok (.iaload, 1) := by decide +kernel
theorem d_L_law_276 : decode code 276 = .ok (.aload_n 3, 1) := by decide +kernel
theorem d_L_law_277 : decode code 277 = .ok (.invokestatic 103, 3) := by decide +kernel
theorem d_L_law_280 : decode code 280 = .ok (.istore 5, 2) := by decide +kernel
theorem d_L_law_282 : decode code 282 = .ok (.aload_n 2, 1) := by decide +kernel
theorem d_L_law_283 : decode code 283 = .ok (.aload_n 0, 1) := by decide +kernel
theorem d_L_law_284 : decode code 284 = .ok (.iload 4, 2) := by decide +kernel
theorem d_L_law_286 : decode code 286 = .ok (.iconst 1, 1) := by decide +kernel
theorem d_L_law_287 : decode code 287 = .ok (.iadd, 1) := by decide +kernel
theorem d_L_law_288 : decode code 288 = .ok (.iaload, 1) := by decide +kernel
theorem d_L_law_289 : decode code 289 = .ok (.invokevirtual 106, 3) := by decide +kernel
theorem d_L_law_292 : decode code 292 = .ok (.istore 6, 2) := by decide +kernel
theorem d_L_law_294 : decode code 294 = .ok (.goto 555, 3) := by decide +kernel
theorem d_L_law_297 : decode code 297 = .ok (.aload_n 1, 1) := by decide +kernel
theorem d_L_law_298 : decode code 298 = .ok (.aload_n 0, 1) := by decide +kernel
theorem d_L_law_299 : decode code 299 = .ok (.iload 4, 2) := by decide +kernel
theorem d_L_law_301 : decode code 301 = .ok (.iconst 1, 1) := by decide +kernel
theorem d_L_law_302 : decode code 302 = .ok (.iadd, 1) := by decide +kernel
theorem d_L_law_303 : decode code 303 = .ok (.iaload, 1) := by decide +kernel
theorem d_L_law_304 : decode code 304 = .ok (.aload_n 0, 1) := by decide +kernel
theorem d_L_law_305 : decode code 305 = .ok (.iload 4, 2) := by decide +kernel
theorem d_L_law_307 : decode code 307 = .ok (.iconst 2, 1) := by decide +kernel
theorem d_L_law_308 : decode code 308 = .ok (.iadd, 1) := by decide +kernel
theorem d_L_law_309 : decode code 309 = .ok (.iaload, 1) := by decide +kernel
theorem d_L_law_310 : decode code 310 = .ok (.invokestatic 107, 3) := by decide +kernel
theorem d_L_law_313 : decode code 313 = .ok (.istore 5, 2) := by decide +kernel
theorem d_L_law_315 : decode code 315 = .ok (.aload_n 2, 1) := by decide +kernel
theorem d_L_law_316 : decode code 316 = .ok (.aload_n 0, 1) := by decide +kernel
theorem d_L_law_317 : decode code 317 = .ok (.iload 4, 2) := by decide +kernel
theorem d_L_law_319 : decode code 319 = .ok (.iconst 1, 1) := by decide +kernel
theorem d_L_law_320 : decode code 320 = .ok (.iadd, 1) := by decide +kernel
theorem d_L_law_321 : decode code 321 = .ok (.iaload, 1) := by decide +kernel
theorem d_L_law_322 : decode code 322 = .ok (.aload_n 0, 1) := by decide +kernel
theorem d_L_law_323 : decode code 323 = .ok (.iload 4, 2) := by decide +kernel
theorem d_L_law_325 : decode code 325 = .ok (.iconst 2, 1) := by decide +kernel
theorem d_L_law_326 : decode code 326 = .ok (.iadd, 1) := by decide +kernel
theorem d_L_law_327 : decode code 327 = .ok (.iaload, 1) := by decide +kernel
theorem d_L_law_328 : decode code 328 = .ok (.invokevirtual 110, 3) := by decide +kernel
theorem d_L_law_331 : decode code 331 = .ok (.goto 518, 3) := by decide +kernel
theorem d_L_law_334 : decode code 334 = .ok (.aload_n 1, 1) := by decide +kernel
theorem d_L_law_335 : decode code 335 = .ok (.aload_n 0, 1) := by decide +kernel
theorem d_L_law_336 : decode code 336 = .ok (.iload 4, 2) := by decide +kernel
theorem d_L_law_338 : decode code 338 = .ok (.iconst 1, 1) := by decide +kernel
theorem d_L_law_339 : decode code 339 = .ok (.iadd, 1) := by decide +kernel
theorem d_L_law_340 : decode code 340 = .ok (.iaload, 1) := by decide +kernel
theorem d_L_law_341 : decode code 341 = .ok (.aload_n 0, 1) := by decide +kernel
theorem d_L_law_342 : decode code 342 = .ok (.iload 4, 2) := by decide +kernel
theorem d_L_law_344 : decode code 344 = .ok (.iconst 2, 1) := by decide +kernel
theorem d_L_law_345 : decode code 345 = .ok (.iadd, 1) := by decide +kernel
theorem d_L_law_346 : decode code 346 = .ok (.iaload, 1) := by decide +kernel
theorem d_L_law_347 : decode code 347 = .ok (.aload_n 3, 1) := by decide +kernel
theorem d_L_law_348 : decode code 348 = .ok (.invokestatic 111, 3) := by decide +kernel
theorem d_L_law_351 : decode code 351 = .ok (.istore 5, 2) := by decide +kernel
theorem d_L_law_353 : decode code 353 = .ok (.aload_n 2, 1) := by decide +kernel
theorem d_L_law_354 : decode code 354 = .ok (.aload_n 0, 1) := by decide +kernel
theorem d_L_law_355 : decode code 355 = .ok (.iload 4, 2) := by decide +kernel
theorem d_L_law_357 : decode code 357 = .ok (.iconst 1, 1) := by decide +kernel
theorem d_L_law_358 : decode code 358 = .ok (.iadd, 1) := by decide +kernel
theorem d_L_law_359 : decode code 359 = .ok (.iaload, 1) := by decide +kernel
theorem d_L_law_360 : decode code 360 = .ok (.aload_n 0, 1) := by decide +kernel
theorem d_L_law_361 : decode code 361 = .ok (.iload 4, 2) := by decide +kernel
theorem d_L_law_363 : decode code 363 = .ok (.iconst 2, 1) := by decide +kernel
theorem d_L_law_364 : decode code 364 = .ok (.iadd, 1) := by decide +kernel
theorem d_L_law_365 : decode code 365 = .ok (.iaload, 1) := by decide +kernel
theorem d_L_law_366 : decode code 366 = .ok (.invokevirtual 114, 3) := by decide +kernel
theorem d_L_law_369 : decode code 369 = .ok (.istore 6, 2) := by decide +kernel
theorem d_L_law_371 : decode code 371 = .ok (.goto 478, 3) := by decide +kernel
theorem d_L_law_374 : decode code 374 = .ok (.aload_n 1, 1) := by decide +kernel
theorem d_L_law_375 : decode code 375 = .ok (.aload_n 0, 1) := by decide +kernel
theorem d_L_law_376 : decode code 376 = .ok (.iload 4, 2) := by decide +kernel
theorem d_L_law_378 : decode code 378 = .ok (.iconst 1, 1) := by decide +kernel
theorem d_L_law_379 : decode code 379 = .ok (.iadd, 1) := by decide +kernel
theorem d_L_law_380 : decode code 380 = .ok (.iaload, 1) := by decide +kernel
theorem d_L_law_381 : decode code 381 = .ok (.aload_n 0, 1) := by decide +kernel
theorem d_L_law_382 : decode code 382 = .ok (.iload 4, 2) := by decide +kernel
theorem d_L_law_384 : decode code 384 = .ok (.iconst 2, 1) := by decide +kernel
theorem d_L_law_385 : decode code 385 = .ok (.iadd, 1) := by decide +kernel
theorem d_L_law_386 : decode code 386 = .ok (.iaload, 1) := by decide +kernel
theorem d_L_law_387 : decode code 387 = .ok (.invokestatic 115, 3) := by decide +kernel
theorem d_L_law_390 : decode code 390 = .ok (.istore 5, 2) := by decide +kernel
theorem d_L_law_392 : decode code 392 = .ok (.aload_n 2, 1) := by decide +kernel
theorem d_L_law_393 : decode code 393 = .ok (.aload_n 0, 1) := by decide +kernel
theorem d_L_law_394 : decode code 394 = .ok (.iload 4, 2) := by decide +kernel
theorem d_L_law_396 : decode code 396 = .ok (.iconst 1, 1) := by decide +kernel
theorem d_L_law_397 : decode code 397 = .ok (.iadd, 1) := by decide +kernel
theorem d_L_law_398 : decode code 398 = .ok (.iaload, 1) := by decide +kernel
theorem d_L_law_399 : decode code 399 = .ok (.aload_n 0, 1) := by decide +kernel
theorem d_L_law_400 : decode code 400 = .ok (.iload 4, 2) := by decide +kernel
theorem d_L_law_402 : decode code 402 = .ok (.iconst 2, 1) := by decide +kernel
theorem d_L_law_403 : decode code 403 = .ok (.iadd, 1) := by decide +kernel
theorem d_L_law_404 : decode code 404 = .ok (.iaload, 1) := by decide +kernel
theorem d_L_law_405 : decode code 405 = .ok (.invokevirtual 117, 3) := by decide +kernel
theorem d_L_law_408 : decode code 408 = .ok (.goto 441, 3) := by decide +kernel
theorem d_L_law_411 : decode code 411 = .ok (.aload_n 1, 1) := by decide +kernel
theorem d_L_law_412 : decode code 412 = .ok (.aload_n 0, 1) := by decide +kernel
theorem d_L_law_413 : decode code 413 = .ok (.iload 4, 2) := by decide +kernel
theorem d_L_law_415 : decode code 415 = .ok (.iconst 1, 1) := by decide +kernel
theorem d_L_law_416 : decode code 416 = .ok (.iadd, 1) := by decide +kernel
theorem d_L_law_417 : decode code 417 = .ok (.iaload, 1) := by decide +kernel
theorem d_L_law_418 : decode code 418 = .ok (.aload_n 0, 1) := by decide +kernel
theorem d_L_law_419 : decode code 419 = .ok (.iload 4, 2) := by decide +kernel
theorem d_L_law_421 : decode code 421 = .ok (.iconst 2, 1) := by decide +kernel
theorem d_L_law_422 : decode code 422 = .ok (.iadd, 1) := by decide +kernel
theorem d_L_law_423 : decode code 423 = .ok (.iaload, 1) := by decide +kernel
theorem d_L_law_424 : decode code 424 = .ok (.aload_n 0, 1) := by decide +kernel
theorem d_L_law_425 : decode code 425 = .ok (.iload 4, 2) := by decide +kernel
theorem d_L_law_427 : decode code 427 = .ok (.iconst 3, 1) := by decide +kernel
theorem d_L_law_428 : decode code 428 = .ok (.iadd, 1) := by decide +kernel
theorem d_L_law_429 : decode code 429 = .ok (.iaload, 1) := by decide +kernel
theorem d_L_law_430 : decode code 430 = .ok (.aload_n 3, 1) := by decide +kernel
theorem d_L_law_431 : decode code 431 = .ok (.invokestatic 118, 3) := by decide +kernel
theorem d_L_law_434 : decode code 434 = .ok (.istore 5, 2) := by decide +kernel
theorem d_L_law_436 : decode code 436 = .ok (.aload_n 2, 1) := by decide +kernel
theorem d_L_law_437 : decode code 437 = .ok (.aload_n 0, 1) := by decide +kernel
theorem d_L_law_438 : decode code 438 = .ok (.iload 4, 2) := by decide +kernel
theorem d_L_law_440 : decode code 440 = .ok (.iconst 1, 1) := by decide +kernel
theorem d_L_law_441 : decode code 441 = .ok (.iadd, 1) := by decide +kernel
theorem d_L_law_442 : decode code 442 = .ok (.iaload, 1) := by decide +kernel
theorem d_L_law_443 : decode code 443 = .ok (.aload_n 0, 1) := by decide +kernel
theorem d_L_law_444 : decode code 444 = .ok (.iload 4, 2) := by decide +kernel
theorem d_L_law_446 : decode code 446 = .ok (.iconst 2, 1) := by decide +kernel
theorem d_L_law_447 : decode code 447 = .ok (.iadd, 1) := by decide +kernel
theorem d_L_law_448 : decode code 448 = .ok (.iaload, 1) := by decide +kernel
theorem d_L_law_449 : decode code 449 = .ok (.aload_n 0, 1) := by decide +kernel
theorem d_L_law_450 : decode code 450 = .ok (.iload 4, 2) := by decide +kernel
theorem d_L_law_452 : decode code 452 = .ok (.iconst 3, 1) := by decide +kernel
theorem d_L_law_453 : decode code 453 = .ok (.iadd, 1) := by decide +kernel
theorem d_L_law_454 : decode code 454 = .ok (.iaload, 1) := by decide +kernel
theorem d_L_law_455 : decode code 455 = .ok (.invokevirtual 120, 3) := by decide +kernel
theorem d_L_law_458 : decode code 458 = .ok (.istore 6, 2) := by decide +kernel
theorem d_L_law_460 : decode code 460 = .ok (.goto 389, 3) := by decide +kernel
theorem d_L_law_463 : decode code 463 = .ok (.aload_n 1, 1) := by decide +kernel
theorem d_L_law_464 : decode code 464 = .ok (.aload_n 0, 1) := by decide +kernel
theorem d_L_law_465 : decode code 465 = .ok (.iload 4, 2) := by decide +kernel
theorem d_L_law_467 : decode code 467 = .ok (.iconst 1, 1) := by decide +kernel
theorem d_L_law_468 : decode code 468 = .ok (.iadd, 1) := by decide +kernel
theorem d_L_law_469 : decode code 469 = .ok (.iaload, 1) := by decide +kernel
theorem d_L_law_470 : decode code 470 = .ok (.aload_n 0, 1) := by decide +kernel
theorem d_L_law_471 : decode code 471 = .ok (.iload 4, 2) := by decide +kernel
theorem d_L_law_473 : decode code 473 = .ok (.iconst 2, 1) := by decide +kernel
theorem d_L_law_474 : decode code 474 = .ok (.iadd, 1) := by decide +kernel
theorem d_L_law_475 : decode code 475 = .ok (.iaload, 1) := by decide +kernel
theorem d_L_law_476 : decode code 476 = .ok (.aload_n 3, 1) := by decide +kernel
theorem d_L_law_477 : decode code 477 = .ok (.invokestatic 121, 3) := by decide +kernel
theorem d_L_law_480 : decode code 480 = .ok (.istore 5, 2) := by decide +kernel
theorem d_L_law_482 : decode code 482 = .ok (.aload_n 2, 1) := by decide +kernel
theorem d_L_law_483 : decode code 483 = .ok (.aload_n 0, 1) := by decide +kernel
theorem d_L_law_484 : decode code 484 = .ok (.iload 4, 2) := by decide +kernel
theorem d_L_law_486 : decode code 486 = .ok (.iconst 1, 1) := by decide +kernel
theorem d_L_law_487 : decode code 487 = .ok (.iadd, 1) := by decide +kernel
theorem d_L_law_488 : decode code 488 = .ok (.iaload, 1) := by decide +kernel
theorem d_L_law_489 : decode code 489 = .ok (.aload_n 0, 1) := by decide +kernel
theorem d_L_law_490 : decode code 490 = .ok (.iload 4, 2) := by decide +kernel
theorem d_L_law_492 : decode code 492 = .ok (.iconst 2, 1) := by decide +kernel
theorem d_L_law_493 : decode code 493 = .ok (.iadd, 1) := by decide +kernel
theorem d_L_law_494 : decode code 494 = .ok (.iaload, 1) := by decide +kernel
theorem d_L_law_495 : decode code 495 = .ok (.invokevirtual 123, 3) := by decide +kernel
theorem d_L_law_498 : decode code 498 = .ok (.istore 6, 2) := by decide +kernel
theorem d_L_law_500 : decode code 500 = .ok (.goto 349, 3) := by decide +kernel
theorem d_L_law_503 : decode code 503 = .ok (.aload_n 1, 1) := by decide +kernel
theorem d_L_law_504 : decode code 504 = .ok (.aload_n 0, 1) := by decide +kernel
theorem d_L_law_505 : decode code 505 = .ok (.iload 4, 2) := by decide +kernel
theorem d_L_law_507 : decode code 507 = .ok (.iconst 1, 1) := by decide +kernel
theorem d_L_law_508 : decode code 508 = .ok (.iadd, 1) := by decide +kernel
theorem d_L_law_509 : decode code 509 = .ok (.iaload, 1) := by decide +kernel
theorem d_L_law_510 : decode code 510 = .ok (.aload_n 3, 1) := by decide +kernel
theorem d_L_law_511 : decode code 511 = .ok (.invokestatic 124, 3) := by decide +kernel
theorem d_L_law_514 : decode code 514 = .ok (.istore 5, 2) := by decide +kernel
theorem d_L_law_516 : decode code 516 = .ok (.aload_n 2, 1) := by decide +kernel
theorem d_L_law_517 : decode code 517 = .ok (.aload_n 0, 1) := by decide +kernel
theorem d_L_law_518 : decode code 518 = .ok (.iload 4, 2) := by decide +kernel
theorem d_L_law_520 : decode code 520 = .ok (.iconst 1, 1) := by decide +kernel
theorem d_L_law_521 : decode code 521 = .ok (.iadd, 1) := by decide +kernel
theorem d_L_law_522 : decode code 522 = .ok (.iaload, 1) := by decide +kernel
theorem d_L_law_523 : decode code 523 = .ok (.invokevirtual 126, 3) := by decide +kernel
theorem d_L_law_526 : decode code 526 = .ok (.istore 6, 2) := by decide +kernel
theorem d_L_law_528 : decode code 528 = .ok (.goto 321, 3) := by decide +kernel
theorem d_L_law_531 : decode code 531 = .ok (.aload_n 1, 1) := by decide +kernel
theorem d_L_law_532 : decode code 532 = .ok (.aload_n 0, 1) := by decide +kernel
theorem d_L_law_533 : decode code 533 = .ok (.iload 4, 2) := by decide +kernel
theorem d_L_law_535 : decode code 535 = .ok (.iconst 1, 1) := by decide +kernel
theorem d_L_law_536 : decode code 536 = .ok (.iadd, 1) := by decide +kernel
theorem d_L_law_537 : decode code 537 = .ok (.iaload, 1) := by decide +kernel
theorem d_L_law_538 : decode code 538 = .ok (.aload_n 3, 1) := by decide +kernel
theorem d_L_law_539 : decode code 539 = .ok (.invokestatic 127, 3) := by decide +kernel
theorem d_L_law_542 : decode code 542 = .ok (.istore 5, 2) := by decide +kernel
theorem d_L_law_544 : decode code 544 = .ok (.aload_n 2, 1) := by decide +kernel
theorem d_L_law_545 : decode code 545 = .ok (.aload_n 0, 1) := by decide +kernel
theorem d_L_law_546 : decode code 546 = .ok (.iload 4, 2) := by decide +kernel
theorem d_L_law_548 : decode code 548 = .ok (.iconst 1, 1) := by decide +kernel
theorem d_L_law_549 : decode code 549 = .ok (.iadd, 1) := by decide +kernel
theorem d_L_law_550 : decode code 550 = .ok (.iaload, 1) := by decide +kernel
theorem d_L_law_551 : decode code 551 = .ok (.invokevirtual 129, 3) := by decide +kernel
theorem d_L_law_554 : decode code 554 = .ok (.istore 6, 2) := by decide +kernel
theorem d_L_law_556 : decode code 556 = .ok (.goto 293, 3) := by decide +kernel
theorem d_L_law_559 : decode code 559 = .ok (.aload_n 1, 1) := by decide +kernel
theorem d_L_law_560 : decode code 560 = .ok (.aload_n 3, 1) := by decide +kernel
theorem d_L_law_561 : decode code 561 = .ok (.invokestatic 130, 3) := by decide +kernel
theorem d_L_law_564 : decode code 564 = .ok (.istore 5, 2) := by decide +kernel
theorem d_L_law_566 : decode code 566 = .ok (.aload_n 2, 1) := by decide +kernel
theorem d_L_law_567 : decode code 567 = .ok (.invokevirtual 133, 3) := by decide +kernel
theorem d_L_law_570 : decode code 570 = .ok (.istore 6, 2) := by decide +kernel
theorem d_L_law_572 : decode code 572 = .ok (.goto 277, 3) := by decide +kernel
theorem d_L_law_575 : decode code 575 = .ok (.aload_n 1, 1) := by decide +kernel
theorem d_L_law_576 : decode code 576 = .ok (.aload_n 0, 1) := by decide +kernel
theorem d_L_law_577 : decode code 577 = .ok (.iload 4, 2) := by decide +kernel
theorem d_L_law_579 : decode code 579 = .ok (.iconst 1, 1) := by decide +kernel
theorem d_L_law_580 : decode code 580 = .ok (.iadd, 1) := by decide +kernel
theorem d_L_law_581 : decode code 581 = .ok (.iaload, 1) := by decide +kernel
theorem d_L_law_582 : decode code 582 = .ok (.aload_n 0, 1) := by decide +kernel
theorem d_L_law_583 : decode code 583 = .ok (.iload 4, 2) := by decide +kernel
theorem d_L_law_585 : decode code 585 = .ok (.iconst 2, 1) := by decide +kernel
theorem d_L_law_586 : decode code 586 = .ok (.iadd, 1) := by decide +kernel
theorem d_L_law_587 : decode code 587 = .ok (.iaload, 1) := by decide +kernel
theorem d_L_law_588 : decode code 588 = .ok (.aload_n 3, 1) := by decide +kernel
theorem d_L_law_589 : decode code 589 = .ok (.invokestatic 134, 3) := by decide +kernel
theorem d_L_law_592 : decode code 592 = .ok (.istore 5, 2) := by decide +kernel
theorem d_L_law_594 : decode code 594 = .ok (.aload_n 2, 1) := by decide +kernel
theorem d_L_law_595 : decode code 595 = .ok (.aload_n 0, 1) := by decide +kernel
theorem d_L_law_596 : decode code 596 = .ok (.iload 4, 2) := by decide +kernel
theorem d_L_law_598 : decode code 598 = .ok (.iconst 1, 1) := by decide +kernel
theorem d_L_law_599 : decode code 599 = .ok (.iadd, 1) := by decide +kernel
theorem d_L_law_600 : decode code 600 = .ok (.iaload, 1) := by decide +kernel
theorem d_L_law_601 : decode code 601 = .ok (.aload_n 0, 1) := by decide +kernel
theorem d_L_law_602 : decode code 602 = .ok (.iload 4, 2) := by decide +kernel
theorem d_L_law_604 : decode code 604 = .ok (.iconst 2, 1) := by decide +kernel
theorem d_L_law_605 : decode code 605 = .ok (.iadd, 1) := by decide +kernel
theorem d_L_law_606 : decode code 606 = .ok (.iaload, 1) := by decide +kernel
theorem d_L_law_607 : decode code 607 = .ok (.invokevirtual 136, 3) := by decide +kernel
theorem d_L_law_610 : decode code 610 = .ok (.istore 6, 2) := by decide +kernel
theorem d_L_law_612 : decode code 612 = .ok (.goto 237, 3) := by decide +kernel
theorem d_L_law_615 : decode code 615 = .ok (.aload_n 1, 1) := by decide +kernel
theorem d_L_law_616 : decode code 616 = .ok (.aload_n 0, 1) := by decide +kernel
theorem d_L_law_617 : decode code 617 = .ok (.iload 4, 2) := by decide +kernel
theorem d_L_law_619 : decode code 619 = .ok (.iconst 1, 1) := by decide +kernel
theorem d_L_law_620 : decode code 620 = .ok (.iadd, 1) := by decide +kernel
theorem d_L_law_621 : decode code 621 = .ok (.iaload, 1) := by decide +kernel
theorem d_L_law_622 : decode code 622 = .ok (.aload_n 0, 1) := by decide +kernel
theorem d_L_law_623 : decode code 623 = .ok (.iload 4, 2) := by decide +kernel
theorem d_L_law_625 : decode code 625 = .ok (.iconst 2, 1) := by decide +kernel
theorem d_L_law_626 : decode code 626 = .ok (.iadd, 1) := by decide +kernel
theorem d_L_law_627 : decode code 627 = .ok (.iaload, 1) := by decide +kernel
theorem d_L_law_628 : decode code 628 = .ok (.aload_n 3, 1) := by decide +kernel
theorem d_L_law_629 : decode code 629 = .ok (.invokestatic 137, 3) := by decide +kernel
theorem d_L_law_632 : decode code 632 = .ok (.istore 5, 2) := by decide +kernel
theorem d_L_law_634 : decode code 634 = .ok (.aload_n 2, 1) := by decide +kernel
theorem d_L_law_635 : decode code 635 = .ok (.aload_n 0, 1) := by decide +kernel
theorem d_L_law_636 : decode code 636 = .ok (.iload 4, 2) := by decide +kernel
theorem d_L_law_638 : decode code 638 = .ok (.iconst 1, 1) := by decide +kernel
theorem d_L_law_639 : decode code 639 = .ok (.iadd, 1) := by decide +kernel
theorem d_L_law_640 : decode code 640 = .ok (.iaload, 1) := by decide +kernel
theorem d_L_law_641 : decode code 641 = .ok (.aload_n 0, 1) := by decide +kernel
theorem d_L_law_642 : decode code 642 = .ok (.iload 4, 2) := by decide +kernel
theorem d_L_law_644 : decode code 644 = .ok (.iconst 2, 1) := by decide +kernel
theorem d_L_law_645 : decode code 645 = .ok (.iadd, 1) := by decide +kernel
theorem d_L_law_646 : decode code 646 = .ok (.iaload, 1) := by decide +kernel
theorem d_L_law_647 : decode code 647 = .ok (.invokevirtual 139, 3) := by decide +kernel
theorem d_L_law_650 : decode code 650 = .ok (.istore 6, 2) := by decide +kernel
theorem d_L_law_652 : decode code 652 = .ok (.goto 197, 3) := by decide +kernel
theorem d_L_law_655 : decode code 655 = .ok (.aload_n 1, 1) := by decide +kernel
theorem d_L_law_656 : decode code 656 = .ok (.aload_n 0, 1) := by decide +kernel
theorem d_L_law_657 : decode code 657 = .ok (.iload 4, 2) := by decide +kernel
theorem d_L_law_659 : decode code 659 = .ok (.iconst 1, 1) := by decide +kernel
theorem d_L_law_660 : decode code 660 = .ok (.iadd, 1) := by decide +kernel
theorem d_L_law_661 : decode code 661 = .ok (.iaload, 1) := by decide +kernel
theorem d_L_law_662 : decode code 662 = .ok (.aload_n 0, 1) := by decide +kernel
theorem d_L_law_663 : decode code 663 = .ok (.iload 4, 2) := by decide +kernel
theorem d_L_law_665 : decode code 665 = .ok (.iconst 2, 1) := by decide +kernel
theorem d_L_law_666 : decode code 666 = .ok (.iadd, 1) := by decide +kernel
theorem d_L_law_667 : decode code 667 = .ok (.iaload, 1) := by decide +kernel
theorem d_L_law_668 : decode code 668 = .ok (.aload_n 0, 1) := by decide +kernel
theorem d_L_law_669 : decode code 669 = .ok (.iload 4, 2) := by decide +kernel
theorem d_L_law_671 : decode code 671 = .ok (.iconst 3, 1) := by decide +kernel
theorem d_L_law_672 : decode code 672 = .ok (.iadd, 1) := by decide +kernel
theorem d_L_law_673 : decode code 673 = .ok (.iaload, 1) := by decide +kernel
theorem d_L_law_674 : decode code 674 = .ok (.invokestatic 140, 3) := by decide +kernel
theorem d_L_law_677 : decode code 677 = .ok (.istore 5, 2) := by decide +kernel
theorem d_L_law_679 : decode code 679 = .ok (.aload_n 2, 1) := by decide +kernel
theorem d_L_law_680 : decode code 680 = .ok (.aload_n 0, 1) := by decide +kernel
theorem d_L_law_681 : decode code 681 = .ok (.iload 4, 2) := by decide +kernel
theorem d_L_law_683 : decode code 683 = .ok (.iconst 1, 1) := by decide +kernel
theorem d_L_law_684 : decode code 684 = .ok (.iadd, 1) := by decide +kernel
theorem d_L_law_685 : decode code 685 = .ok (.iaload, 1) := by decide +kernel
theorem d_L_law_686 : decode code 686 = .ok (.aload_n 0, 1) := by decide +kernel
theorem d_L_law_687 : decode code 687 = .ok (.iload 4, 2) := by decide +kernel
theorem d_L_law_689 : decode code 689 = .ok (.iconst 2, 1) := by decide +kernel
theorem d_L_law_690 : decode code 690 = .ok (.iadd, 1) := by decide +kernel
theorem d_L_law_691 : decode code 691 = .ok (.iaload, 1) := by decide +kernel
theorem d_L_law_692 : decode code 692 = .ok (.aload_n 0, 1) := by decide +kernel
theorem d_L_law_693 : decode code 693 = .ok (.iload 4, 2) := by decide +kernel
theorem d_L_law_695 : decode code 695 = .ok (.iconst 3, 1) := by decide +kernel
theorem d_L_law_696 : decode code 696 = .ok (.iadd, 1) := by decide +kernel
theorem d_L_law_697 : decode code 697 = .ok (.iaload, 1) := by decide +kernel
theorem d_L_law_698 : decode code 698 = .ok (.invokevirtual 143, 3) := by decide +kernel
theorem d_L_law_701 : decode code 701 = .ok (.goto 148, 3) := by decide +kernel
theorem d_L_law_704 : decode code 704 = .ok (.aload_n 1, 1) := by decide +kernel
theorem d_L_law_705 : decode code 705 = .ok (.aload_n 0, 1) := by decide +kernel
theorem d_L_law_706 : decode code 706 = .ok (.iload 4, 2) := by decide +kernel
theorem d_L_law_708 : decode code 708 = .ok (.iconst 1, 1) := by decide +kernel
theorem d_L_law_709 : decode code 709 = .ok (.iadd, 1) := by decide +kernel
theorem d_L_law_710 : decode code 710 = .ok (.iaload, 1) := by decide +kernel
theorem d_L_law_711 : decode code 711 = .ok (.aload_n 0, 1) := by decide +kernel
theorem d_L_law_712 : decode code 712 = .ok (.iload 4, 2) := by decide +kernel
theorem d_L_law_714 : decode code 714 = .ok (.iconst 2, 1) := by decide +kernel
theorem d_L_law_715 : decode code 715 = .ok (.iadd, 1) := by decide +kernel
theorem d_L_law_716 : decode code 716 = .ok (.iaload, 1) := by decide +kernel
theorem d_L_law_717 : decode code 717 = .ok (.aload_n 3, 1) := by decide +kernel
theorem d_L_law_718 : decode code 718 = .ok (.invokestatic 144, 3) := by decide +kernel
theorem d_L_law_721 : decode code 721 = .ok (.istore 5, 2) := by decide +kernel
theorem d_L_law_723 : decode code 723 = .ok (.aload_n 2, 1) := by decide +kernel
theorem d_L_law_724 : decode code 724 = .ok (.aload_n 0, 1) := by decide +kernel
theorem d_L_law_725 : decode code 725 = .ok (.iload 4, 2) := by decide +kernel
theorem d_L_law_727 : decode code 727 = .ok (.iconst 1, 1) := by decide +kernel
theorem d_L_law_728 : decode code 728 = .ok (.iadd, 1) := by decide +kernel
theorem d_L_law_729 : decode code 729 = .ok (.iaload, 1) := by decide +kernel
theorem d_L_law_730 : decode code 730 = .ok (.aload_n 0, 1) := by decide +kernel
theorem d_L_law_731 : decode code 731 = .ok (.iload 4, 2) := by decide +kernel
theorem d_L_law_733 : decode code 733 = .ok (.iconst 2, 1) := by decide +kernel
theorem d_L_law_734 : decode code 734 = .ok (.iadd, 1) := by decide +kernel
theorem d_L_law_735 : decode code 735 = .ok (.iaload, 1) := by decide +kernel
theorem d_L_law_736 : decode code 736 = .ok (.invokevirtual 146, 3) := by decide +kernel
theorem d_L_law_739 : decode code 739 = .ok (.istore 6, 2) := by decide +kernel
theorem d_L_law_741 : decode code 741 = .ok (.goto 108, 3) := by decide +kernel
theorem d_L_law_744 : decode code 744 = .ok (.aload_n 1, 1) := by decide +kernel
theorem d_L_law_745 : decode code 745 = .ok (.aload_n 0, 1) := by decide +kernel
theorem d_L_law_746 : decode code 746 = .ok (.iload 4, 2) := by decide +kernel
theorem d_L_law_748 : decode code 748 = .ok (.iconst 1, 1) := by decide +kernel
theorem d_L_law_749 : decode code 749 = .ok (.iadd, 1) := by decide +kernel
theorem d_L_law_750 : decode code 750 = .ok (.iaload, 1) := by decide +kernel
theorem d_L_law_751 : decode code 751 = .ok (.aload_n 0, 1) := by decide +kernel
theorem d_L_law_752 : decode code 752 = .ok (.iload 4, 2) := by decide +kernel
theorem d_L_law_754 : decode code 754 = .ok (.iconst 2, 1) := by decide +kernel
theorem d_L_law_755 : decode code 755 = .ok (.iadd, 1) := by decide +kernel
theorem d_L_law_756 : decode code 756 = .ok (.iaload, 1) := by decide +kernel
theorem d_L_law_757 : decode code 757 = .ok (.aload_n 3, 1) := by decide +kernel
theorem d_L_law_758 : decode code 758 = .ok (.invokestatic 147, 3) := by decide +kernel
theorem d_L_law_761 : decode code 761 = .ok (.istore 5, 2) := by decide +kernel
theorem d_L_law_763 : decode code 763 = .ok (.aload_n 2, 1) := by decide +kernel
theorem d_L_law_764 : decode code 764 = .ok (.aload_n 0, 1) := by decide +kernel
theorem d_L_law_765 : decode code 765 = .ok (.iload 4, 2) := by decide +kernel
theorem d_L_law_767 : decode code 767 = .ok (.iconst 1, 1) := by decide +kernel
theorem d_L_law_768 : decode code 768 = .ok (.iadd, 1) := by decide +kernel
theorem d_L_law_769 : decode code 769 = .ok (.iaload, 1) := by decide +kernel
theorem d_L_law_770 : decode code 770 = .ok (.aload_n 0, 1) := by decide +kernel
theorem d_L_law_771 : decode code 771 = .ok (.iload 4, 2) := by decide +kernel
theorem d_L_law_773 : decode code 773 = .ok (.iconst 2, 1) := by decide +kernel
theorem d_L_law_774 : decode code 774 = .ok (.iadd, 1) := by decide +kernel
theorem d_L_law_775 : decode code 775 = .ok (.iaload, 1) := by decide +kernel
theorem d_L_law_776 : decode code 776 = .ok (.invokevirtual 149, 3) := by decide +kernel
theorem d_L_law_779 : decode code 779 = .ok (.istore 6, 2) := by decide +kernel
theorem d_L_law_781 : decode code 781 = .ok (.goto 68, 3) := by decide +kernel
theorem d_L_law_784 : decode code 784 = .ok (.aload_n 1, 1) := by decide +kernel
theorem d_L_law_785 : decode code 785 = .ok (.aload_n 0, 1) := by decide +kernel
theorem d_L_law_786 : decode code 786 = .ok (.iload 4, 2) := by decide +kernel
theorem d_L_law_788 : decode code 788 = .ok (.iconst 1, 1) := by decide +kernel
theorem d_L_law_789 : decode code 789 = .ok (.iadd, 1) := by decide +kernel
theorem d_L_law_790 : decode code 790 = .ok (.iaload, 1) := by decide +kernel
theorem d_L_law_791 : decode code 791 = .ok (.aload_n 0, 1) := by decide +kernel
theorem d_L_law_792 : decode code 792 = .ok (.iload 4, 2) := by decide +kernel
theorem d_L_law_794 : decode code 794 = .ok (.iconst 2, 1) := by decide +kernel
theorem d_L_law_795 : decode code 795 = .ok (.iadd, 1) := by decide +kernel
theorem d_L_law_796 : decode code 796 = .ok (.iaload, 1) := by decide +kernel
theorem d_L_law_797 : decode code 797 = .ok (.aload_n 3, 1) := by decide +kernel
theorem d_L_law_798 : decode code 798 = .ok (.invokestatic 150, 3) := by decide +kernel
theorem d_L_law_801 : decode code 801 = .ok (.istore 5, 2) := by decide +kernel
theorem d_L_law_803 : decode code 803 = .ok (.aload_n 2, 1) := by decide +kernel
theorem d_L_law_804 : decode code 804 = .ok (.aload_n 0, 1) := by decide +kernel
theorem d_L_law_805 : decode code 805 = .ok (.iload 4, 2) := by decide +kernel
theorem d_L_law_807 : decode code 807 = .ok (.iconst 1, 1) := by decide +kernel
theorem d_L_law_808 : decode code 808 = .ok (.iadd, 1) := by decide +kernel
theorem d_L_law_809 : decode code 809 = .ok (.iaload, 1) := by decide +kernel
theorem d_L_law_810 : decode code 810 = .ok (.aload_n 0, 1) := by decide +kernel
theorem d_L_law_811 : decode code 811 = .ok (.iload 4, 2) := by decide +kernel
theorem d_L_law_813 : decode code 813 = .ok (.iconst 2, 1) := by decide +kernel
theorem d_L_law_814 : decode code 814 = .ok (.iadd, 1) := by decide +kernel
theorem d_L_law_815 : decode code 815 = .ok (.iaload, 1) := by decide +kernel
theorem d_L_law_816 : decode code 816 = .ok (.invokevirtual 152, 3) := by decide +kernel
theorem d_L_law_819 : decode code 819 = .ok (.istore 6, 2) := by decide +kernel
theorem d_L_law_821 : decode code 821 = .ok (.goto 28, 3) := by decide +kernel
theorem d_L_law_824 : decode code 824 = .ok (.aload_n 1, 1) := by decide +kernel
theorem d_L_law_825 : decode code 825 = .ok (.aload_n 0, 1) := by decide +kernel
theorem d_L_law_826 : decode code 826 = .ok (.iload 4, 2) := by decide +kernel
theorem d_L_law_828 : decode code 828 = .ok (.iconst 1, 1) := by decide +kernel
theorem d_L_law_829 : decode code 829 = .ok (.iadd, 1) := by decide +kernel
theorem d_L_law_830 : decode code 830 = .ok (.iaload, 1) := by decide +kernel
theorem d_L_law_831 : decode code 831 = .ok (.invokevirtual 153, 3) := by decide +kernel
theorem d_L_law_834 : decode code 834 = .ok (.aload_n 2, 1) := by decide +kernel
theorem d_L_law_835 : decode code 835 = .ok (.aload_n 0, 1) := by decide +kernel
theorem d_L_law_836 : decode code 836 = .ok (.iload 4, 2) := by decide +kernel
theorem d_L_law_838 : decode code 838 = .ok (.iconst 1, 1) := by decide +kernel
theorem d_L_law_839 : decode code 839 = .ok (.iadd, 1) := by decide +kernel
theorem d_L_law_840 : decode code 840 = .ok (.iaload, 1) := by decide +kernel
theorem d_L_law_841 : decode code 841 = .ok (.invokevirtual 156, 3) := by decide +kernel
theorem d_L_law_844 : decode code 844 = .ok (.if_icmp .eq 5, 3) := by decide +kernel
theorem d_L_law_849 : decode code 849 = .ok (.iinc 4 4, 3) := by decide +kernel
theorem d_L_law_852 : decode code 852 = .ok (.goto (-819), 3) := by decide +kernel
theorem d_L_law_855 : decode code 855 = .ok (.iconst 1, 1) := by decide +kernel
theorem d_L_law_856 : decode code 856 = .ok (.ireturn, 1) := by decide +kernel
