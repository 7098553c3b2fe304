theorem dL_append_0 : decode cL_append 0 = .ok (.aload_n 2, 1) := by decide +kernel
theorem dL_append_1 : decode cL_append 1 = .ok (.iconst 0, 1) := by decide +kernel
theorem dL_append_2 : decode cL_append 2 = .ok (.aload_n 0, 1) := by decide +kernel
theorem dL_append_3 : decode cL_append 3 = .ok (.iload_n 1, 1) := by decide +kernel
theorem dL_append_4 : decode cL_append 4 = .ok (.invokevirtual 7, 3) := by decide +kernel
theorem dL_append_7 : decode cL_append 7 = .ok (.i2l, 1) := by decide +kernel
theorem dL_append_8 : decode cL_append 8 = .ok (.lastore, 1) := by decide +kernel
theorem dL_append_9 : decode cL_append 9 = .ok (.goto 9, 3) := by decide +kernel
theorem dL_append_12 : decode cL_append 12 = .ok (.astore_n 3, 1) := by decide +kernel
theorem dL_append_13 : decode cL_append 13 = .ok (.iconst 1, 1) := by decide +kernel
theorem dL_append_14 : decode cL_append 14 = .ok (.ireturn, 1) := by decide +kernel
theorem dL_append_15 : decode cL_append 15 = .ok (.astore_n 3, 1) := by decide +kernel
theorem dL_append_16 : decode cL_append 16 = .ok (.iconst 2, 1) := by decide +kernel
theorem dL_append_17 : decode cL_append 17 = .ok (.ireturn, 1) := by decide +kernel
theorem dL_append_18 : decode cL_append 18 = .ok (.iconst 0, 1) := by decide +kernel
theorem dL_append_19 : decode cL_append 19 = .ok (.ireturn, 1) := by decide +kernel
theorem dL_addRule_0 : decode cL_addRule 0 = .ok (.aload 4, 2) := by decide +kernel
theorem dL_addRule_2 : decode cL_addRule 2 = .ok (.iconst 0, 1) := by decide +kernel
theorem dL_addRule_3 : decode cL_addRule 3 = .ok (.aload_n 0, 1) := by decide +kernel
theorem dL_addRule_4 : decode cL_addRule 4 = .ok (.iload_n 1, 1) := by decide +kernel
theorem dL_addRule_5 : decode cL_addRule 5 = .ok (.iload_n 2, 1) := by decide +kernel
theorem dL_addRule_6 : decode cL_addRule 6 = .ok (.iload_n 3, 1) := by decide +kernel
theorem dL_addRule_7 : decode cL_addRule 7 = .ok (.invokevirtual 17, 3) := by decide +kernel
theorem dL_addRule_10 : decode cL_addRule 10 = .ok (.i2l, 1) := by decide +kernel
theorem dL_addRule_11 : decode cL_addRule 11 = .ok (.lastore, 1) := by decide +kernel
theorem dL_addRule_12 : decode cL_addRule 12 = .ok (.goto 15, 3) := by decide +kernel
theorem dL_addRule_15 : decode cL_addRule 15 = .ok (.astore 5, 2) := by decide +kernel
theorem dL_addRule_17 : decode cL_addRule 17 = .ok (.iconst 1, 1) := by decide +kernel
theorem dL_addRule_18 : decode cL_addRule 18 = .ok (.ireturn, 1) := by decide +kernel
theorem dL_addRule_19 : decode cL_addRule 19 = .ok (.astore 5, 2) := by decide +kernel
theorem dL_addRule_21 : decode cL_addRule 21 = .ok (.iconst 2, 1) := by decide +kernel
theorem dL_addRule_22 : decode cL_addRule 22 = .ok (.ireturn, 1) := by decide +kernel
theorem dL_addRule_23 : decode cL_addRule 23 = .ok (.astore 5, 2) := by decide +kernel
theorem dL_addRule_25 : decode cL_addRule 25 = .ok (.iconst 3, 1) := by decide +kernel
theorem dL_addRule_26 : decode cL_addRule 26 = .ok (.ireturn, 1) := by decide +kernel
theorem dL_addRule_27 : decode cL_addRule 27 = .ok (.iconst 0, 1) := by decide +kernel
theorem dL_addRule_28 : decode cL_addRule 28 = .ok (.ireturn, 1) := by decide +kernel
theorem dL_removeRule_0 : decode cL_removeRule 0 = .ok (.aload_n 2, 1) := by decide +kernel
theorem dL_removeRule_1 : decode cL_removeRule 1 = .ok (.iconst 0, 1) := by decide +kernel
theorem dL_removeRule_2 : decode cL_removeRule 2 = .ok (.aload_n 0, 1) := by decide +kernel
theorem dL_removeRule_3 : decode cL_removeRule 3 = .ok (.iload_n 1, 1) := by decide +kernel
theorem dL_removeRule_4 : decode cL_removeRule 4 = .ok (.invokevirtual 25, 3) := by decide +kernel
theorem dL_removeRule_7 : decode cL_removeRule 7 = .ok (.i2l, 1) := by decide +kernel
theorem dL_removeRule_8 : decode cL_removeRule 8 = .ok (.lastore, 1) := by decide +kernel
theorem dL_removeRule_9 : decode cL_removeRule 9 = .ok (.goto 6, 3) := by decide +kernel
theorem dL_removeRule_12 : decode cL_removeRule 12 = .ok (.astore_n 3, 1) := by decide +kernel
theorem dL_removeRule_13 : decode cL_removeRule 13 = .ok (.iconst 1, 1) := by decide +kernel
theorem dL_removeRule_14 : decode cL_removeRule 14 = .ok (.ireturn, 1) := by decide +kernel
theorem dL_removeRule_15 : decode cL_removeRule 15 = .ok (.iconst 0, 1) := by decide +kernel
theorem dL_removeRule_16 : decode cL_removeRule 16 = .ok (.ireturn, 1) := by decide +kernel
theorem dL_setPriority_0 : decode cL_setPriority 0 = .ok (.aload_n 3, 1) := by decide +kernel
theorem dL_setPriority_1 : decode cL_setPriority 1 = .ok (.iconst 0, 1) := by decide +kernel
theorem dL_setPriority_2 : decode cL_setPriority 2 = .ok (.aload_n 0, 1) := by decide +kernel
theorem dL_setPriority_3 : decode cL_setPriority 3 = .ok (.iload_n 1, 1) := by decide +kernel
theorem dL_setPriority_4 : decode cL_setPriority 4 = .ok (.iload_n 2, 1) := by decide +kernel
theorem dL_setPriority_5 : decode cL_setPriority 5 = .ok (.invokevirtual 29, 3) := by decide +kernel
theorem dL_setPriority_8 : decode cL_setPriority 8 = .ok (.i2l, 1) := by decide +kernel
theorem dL_setPriority_9 : decode cL_setPriority 9 = .ok (.lastore, 1) := by decide +kernel
theorem dL_setPriority_10 : decode cL_setPriority 10 = .ok (.goto 11, 3) := by decide +kernel
theorem dL_setPriority_13 : decode cL_setPriority 13 = .ok (.astore 4, 2) := by decide +kernel
theorem dL_setPriority_15 : decode cL_setPriority 15 = .ok (.iconst 1, 1) := by decide +kernel
theorem dL_setPriority_16 : decode cL_setPriority 16 = .ok (.ireturn, 1) := by decide +kernel
theorem dL_setPriority_17 : decode cL_setPriority 17 = .ok (.astore 4, 2) := by decide +kernel
theorem dL_setPriority_19 : decode cL_setPriority 19 = .ok (.iconst 2, 1) := by decide +kernel
theorem dL_setPriority_20 : decode cL_setPriority 20 = .ok (.ireturn, 1) := by decide +kernel
theorem dL_setPriority_21 : decode cL_setPriority 21 = .ok (.iconst 0, 1) := by decide +kernel
theorem dL_setPriority_22 : decode cL_setPriority 22 = .ok (.ireturn, 1) := by decide +kernel
theorem dL_setContext_0 : decode cL_setContext 0 = .ok (.aload_n 3, 1) := by decide +kernel
theorem dL_setContext_1 : decode cL_setContext 1 = .ok (.iconst 0, 1) := by decide +kernel
theorem dL_setContext_2 : decode cL_setContext 2 = .ok (.aload_n 0, 1) := by decide +kernel
theorem dL_setContext_3 : decode cL_setContext 3 = .ok (.iload_n 1, 1) := by decide +kernel
theorem dL_setContext_4 : decode cL_setContext 4 = .ok (.iload_n 2, 1) := by decide +kernel
theorem dL_setContext_5 : decode cL_setContext 5 = .ok (.invokevirtual 33, 3) := by decide +kernel
theorem dL_setContext_8 : decode cL_setContext 8 = .ok (.i2l, 1) := by decide +kernel
theorem dL_setContext_9 : decode cL_setContext 9 = .ok (.lastore, 1) := by decide +kernel
theorem dL_setContext_10 : decode cL_setContext 10 = .ok (.goto 11, 3) := by decide +kernel
theorem dL_setContext_13 : decode cL_setContext 13 = .ok (.astore 4, 2) := by decide +kernel
theorem dL_setContext_15 : decode cL_setContext 15 = .ok (.iconst 1, 1) := by decide +kernel
theorem dL_setContext_16 : decode cL_setContext 16 = .ok (.ireturn, 1) := by decide +kernel
theorem dL_setContext_17 : decode cL_setContext 17 = .ok (.astore 4, 2) := by decide +kernel
theorem dL_setContext_19 : decode cL_setContext 19 = .ok (.iconst 2, 1) := by decide +kernel
theorem dL_setContext_20 : decode cL_setContext 20 = .ok (.ireturn, 1) := by decide +kernel
theorem dL_setContext_21 : decode cL_setContext 21 = .ok (.iconst 0, 1) := by decide +kernel
theorem dL_setContext_22 : decode cL_setContext 22 = .ok (.ireturn, 1) := by decide +kernel
theorem dL_setMode_0 : decode cL_setMode 0 = .ok (.aload_n 2, 1) := by decide +kernel
theorem dL_setMode_1 : decode cL_setMode 1 = .ok (.iconst 0, 1) := by decide +kernel
theorem dL_setMode_2 : decode cL_setMode 2 = .ok (.aload_n 0, 1) := by decide +kernel
theorem dL_setMode_3 : decode cL_setMode 3 = .ok (.iload_n 1, 1) := by decide +kernel
theorem dL_setMode_4 : decode cL_setMode 4 = .ok (.invokevirtual 36, 3) := by decide +kernel
theorem dL_setMode_7 : decode cL_setMode 7 = .ok (.i2l, 1) := by decide +kernel
theorem dL_setMode_8 : decode cL_setMode 8 = .ok (.lastore, 1) := by decide +kernel
theorem dL_setMode_9 : decode cL_setMode 9 = .ok (.goto 6, 3) := by decide +kernel
theorem dL_setMode_12 : decode cL_setMode 12 = .ok (.astore_n 3, 1) := by decide +kernel
theorem dL_setMode_13 : decode cL_setMode 13 = .ok (.iconst 1, 1) := by decide +kernel
theorem dL_setMode_14 : decode cL_setMode 14 = .ok (.ireturn, 1) := by decide +kernel
theorem dL_setMode_15 : decode cL_setMode 15 = .ok (.iconst 0, 1) := by decide +kernel
theorem dL_setMode_16 : decode cL_setMode 16 = .ok (.ireturn, 1) := by decide +kernel
theorem dL_setThreshold_0 : decode cL_setThreshold 0 = .ok (.aload_n 2, 1) := by decide +kernel
theorem dL_setThreshold_1 : decode cL_setThreshold 1 = .ok (.iconst 0, 1) := by decide +kernel
theorem dL_setThreshold_2 : decode cL_setThreshold 2 = .ok (.aload_n 0, 1) := by decide +kernel
theorem dL_setThreshold_3 : decode cL_setThreshold 3 = .ok (.iload_n 1, 1) := by decide +kernel
theorem dL_setThreshold_4 : decode cL_setThreshold 4 = .ok (.invokevirtual 39, 3) := by decide +kernel
theorem dL_setThreshold_7 : decode cL_setThreshold 7 = .ok (.i2l, 1) := by decide +kernel
theorem dL_setThreshold_8 : decode cL_setThreshold 8 = .ok (.lastore, 1) := by decide +kernel
theorem dL_setThreshold_9 : decode cL_setThreshold 9 = .ok (.goto 6, 3) := by decide +kernel
theorem dL_setThreshold_12 : decode cL_setThreshold 12 = .ok (.astore_n 3, 1) := by decide +kernel
theorem dL_setThreshold_13 : decode cL_setThreshold 13 = .ok (.iconst 1, 1) := by decide +kernel
theorem dL_setThreshold_14 : decode cL_setThreshold 14 = .ok (.ireturn, 1) := by decide +kernel
theorem dL_setThreshold_15 : decode cL_setThreshold 15 = .ok (.iconst 0, 1) := by decide +kernel
theorem dL_setThreshold_16 : decode cL_setThreshold 16 = .ok (.ireturn, 1) := by decide +kernel
theorem dL_rule_0 : decode cL_rule 0 = .ok (.aload_n 3, 1) := by decide +kernel
theorem dL_rule_1 : decode cL_rule 1 = .ok (.iconst 0, 1) := by decide +kernel
theorem dL_rule_2 : decode cL_rule 2 = .ok (.aload_n 0, 1) := by decide +kernel
theorem dL_rule_3 : decode cL_rule 3 = .ok (.iload_n 1, 1) := by decide +kernel
theorem dL_rule_4 : decode cL_rule 4 = .ok (.iload_n 2, 1) := by decide +kernel
theorem dL_rule_5 : decode cL_rule 5 = .ok (.invokevirtual 42, 3) := by decide +kernel
theorem dL_rule_8 : decode cL_rule 8 = .ok (.i2l, 1) := by decide +kernel
theorem dL_rule_9 : decode cL_rule 9 = .ok (.lastore, 1) := by decide +kernel
theorem dL_rule_10 : decode cL_rule 10 = .ok (.goto 11, 3) := by decide +kernel
theorem dL_rule_13 : decode cL_rule 13 = .ok (.astore 4, 2) := by decide +kernel
theorem dL_rule_15 : decode cL_rule 15 = .ok (.iconst 1, 1) := by decide +kernel
theorem dL_rule_16 : decode cL_rule 16 = .ok (.ireturn, 1) := by decide +kernel
theorem dL_rule_17 : decode cL_rule 17 = .ok (.astore 4, 2) := by decide +kernel
theorem dL_rule_19 : decode cL_rule 19 = .ok (.iconst 2, 1) := by decide +kernel
theorem dL_rule_20 : decode cL_rule 20 = .ok (.ireturn, 1) := by decide +kernel
theorem dL_rule_21 : decode cL_rule 21 = .ok (.iconst 0, 1) := by decide +kernel
theorem dL_rule_22 : decode cL_rule 22 = .ok (.ireturn, 1) := by decide +kernel
theorem dL_letter_0 : decode cL_letter 0 = .ok (.aload 4, 2) := by decide +kernel
theorem dL_letter_2 : decode cL_letter 2 = .ok (.iconst 0, 1) := by decide +kernel
theorem dL_letter_3 : decode cL_letter 3 = .ok (.aload_n 0, 1) := by decide +kernel
theorem dL_letter_4 : decode cL_letter 4 = .ok (.iload_n 1, 1) := by decide +kernel
theorem dL_letter_5 : decode cL_letter 5 = .ok (.iload_n 2, 1) := by decide +kernel
theorem dL_letter_6 : decode cL_letter 6 = .ok (.iload_n 3, 1) := by decide +kernel
theorem dL_letter_7 : decode cL_letter 7 = .ok (.invokevirtual 45, 3) := by decide +kernel
theorem dL_letter_10 : decode cL_letter 10 = .ok (.i2l, 1) := by decide +kernel
theorem dL_letter_11 : decode cL_letter 11 = .ok (.lastore, 1) := by decide +kernel
theorem dL_letter_12 : decode cL_letter 12 = .ok (.goto 11, 3) := by decide +kernel
theorem dL_letter_15 : decode cL_letter 15 = .ok (.astore 5, 2) := by decide +kernel
theorem dL_letter_17 : decode cL_letter 17 = .ok (.iconst 1, 1) := by decide +kernel
theorem dL_letter_18 : decode cL_letter 18 = .ok (.ireturn, 1) := by decide +kernel
theorem dL_letter_19 : decode cL_letter 19 = .ok (.astore 5, 2) := by decide +kernel
theorem dL_letter_21 : decode cL_letter 21 = .ok (.iconst 2, 1) := by decide +kernel
theorem dL_letter_22 : decode cL_letter 22 = .ok (.ireturn, 1) := by decide +kernel
theorem dL_letter_23 : decode cL_letter 23 = .ok (.iconst 0, 1) := by decide +kernel
theorem dL_letter_24 : decode cL_letter 24 = .ok (.ireturn, 1) := by decide +kernel
theorem dL_count_0 : decode cL_count 0 = .ok (.aload_n 2, 1) := by decide +kernel
theorem dL_count_1 : decode cL_count 1 = .ok (.iconst 0, 1) := by decide +kernel
theorem dL_count_2 : decode cL_count 2 = .ok (.aload_n 0, 1) := by decide +kernel
theorem dL_count_3 : decode cL_count 3 = .ok (.iload_n 1, 1) := by decide +kernel
theorem dL_count_4 : decode cL_count 4 = .ok (.invokevirtual 51, 3) := by decide +kernel
theorem dL_count_7 : decode cL_count 7 = .ok (.i2l, 1) := by decide +kernel
theorem dL_count_8 : decode cL_count 8 = .ok (.lastore, 1) := by decide +kernel
theorem dL_count_9 : decode cL_count 9 = .ok (.goto 6, 3) := by decide +kernel
theorem dL_count_12 : decode cL_count 12 = .ok (.astore_n 3, 1) := by decide +kernel
theorem dL_count_13 : decode cL_count 13 = .ok (.iconst 1, 1) := by decide +kernel
theorem dL_count_14 : decode cL_count 14 = .ok (.ireturn, 1) := by decide +kernel
theorem dL_count_15 : decode cL_count 15 = .ok (.iconst 0, 1) := by decide +kernel
theorem dL_count_16 : decode cL_count 16 = .ok (.ireturn, 1) := by decide +kernel
theorem dL_collision_0 : decode cL_collision 0 = .ok (.aload_n 3, 1) := by decide +kernel
theorem dL_collision_1 : decode cL_collision 1 = .ok (.iconst 0, 1) := by decide +kernel
theorem dL_collision_2 : decode cL_collision 2 = .ok (.aload_n 0, 1) := by decide +kernel
theorem dL_collision_3 : decode cL_collision 3 = .ok (.iload_n 1, 1) := by decide +kernel
theorem dL_collision_4 : decode cL_collision 4 = .ok (.iload_n 2, 1) := by decide +kernel
theorem dL_collision_5 : decode cL_collision 5 = .ok (.invokevirtual 54, 3) := by decide +kernel
theorem dL_collision_8 : decode cL_collision 8 = .ok (.i2l, 1) := by decide +kernel
theorem dL_collision_9 : decode cL_collision 9 = .ok (.lastore, 1) := by decide +kernel
theorem dL_collision_10 : decode cL_collision 10 = .ok (.goto 7, 3) := by decide +kernel
theorem dL_collision_13 : decode cL_collision 13 = .ok (.astore 4, 2) := by decide +kernel
theorem dL_collision_15 : decode cL_collision 15 = .ok (.iconst 1, 1) := by decide +kernel
theorem dL_collision_16 : decode cL_collision 16 = .ok (.ireturn, 1) := by decide +kernel
theorem dL_collision_17 : decode cL_collision 17 = .ok (.iconst 0, 1) := by decide +kernel
theorem dL_collision_18 : decode cL_collision 18 = .ok (.ireturn, 1) := by decide +kernel
theorem dL_order_0 : decode cL_order 0 = .ok (.aload_n 2, 1) := by decide +kernel
theorem dL_order_1 : decode cL_order 1 = .ok (.iconst 0, 1) := by decide +kernel
theorem dL_order_2 : decode cL_order 2 = .ok (.aload_n 0, 1) := by decide +kernel
theorem dL_order_3 : decode cL_order 3 = .ok (.iload_n 1, 1) := by decide +kernel
theorem dL_order_4 : decode cL_order 4 = .ok (.invokevirtual 58, 3) := by decide +kernel
theorem dL_order_7 : decode cL_order 7 = .ok (.i2l, 1) := by decide +kernel
theorem dL_order_8 : decode cL_order 8 = .ok (.lastore, 1) := by decide +kernel
theorem dL_order_9 : decode cL_order 9 = .ok (.goto 6, 3) := by decide +kernel
theorem dL_order_12 : decode cL_order 12 = .ok (.astore_n 3, 1) := by decide +kernel
theorem dL_order_13 : decode cL_order 13 = .ok (.iconst 1, 1) := by decide +kernel
theorem dL_order_14 : decode cL_order 14 = .ok (.ireturn, 1) := by decide +kernel
theorem dL_order_15 : decode cL_order 15 = .ok (.iconst 0, 1) := by decide +kernel
theorem dL_order_16 : decode cL_order 16 = .ok (.ireturn, 1) := by decide +kernel
theorem dL_shadow_0 : decode cL_shadow 0 = .ok (.aload_n 3, 1) := by decide +kernel
theorem dL_shadow_1 : decode cL_shadow 1 = .ok (.iconst 0, 1) := by decide +kernel
theorem dL_shadow_2 : decode cL_shadow 2 = .ok (.aload_n 0, 1) := by decide +kernel
theorem dL_shadow_3 : decode cL_shadow 3 = .ok (.iload_n 1, 1) := by decide +kernel
theorem dL_shadow_4 : decode cL_shadow 4 = .ok (.iload_n 2, 1) := by decide +kernel
theorem dL_shadow_5 : decode cL_shadow 5 = .ok (.invokevirtual 61, 3) := by decide +kernel
theorem dL_shadow_8 : decode cL_shadow 8 = .ok (.i2l, 1) := by decide +kernel
theorem dL_shadow_9 : decode cL_shadow 9 = .ok (.lastore, 1) := by decide +kernel
theorem dL_shadow_10 : decode cL_shadow 10 = .ok (.goto 7, 3) := by decide +kernel
theorem dL_shadow_13 : decode cL_shadow 13 = .ok (.astore 4, 2) := by decide +kernel
theorem dL_shadow_15 : decode cL_shadow 15 = .ok (.iconst 1, 1) := by decide +kernel
theorem dL_shadow_16 : decode cL_shadow 16 = .ok (.ireturn, 1) := by decide +kernel
theorem dL_shadow_17 : decode cL_shadow 17 = .ok (.iconst 0, 1) := by decide +kernel
theorem dL_shadow_18 : decode cL_shadow 18 = .ok (.ireturn, 1) := by decide +kernel
theorem dL_letterCount_0 : decode cL_letterCount 0 = .ok (.aload_n 3, 1) := by decide +kernel
theorem dL_letterCount_1 : decode cL_letterCount 1 = .ok (.iconst 0, 1) := by decide +kernel
theorem dL_letterCount_2 : decode cL_letterCount 2 = .ok (.aload_n 0, 1) := by decide +kernel
theorem dL_letterCount_3 : decode cL_letterCount 3 = .ok (.iload_n 1, 1) := by decide +kernel
theorem dL_letterCount_4 : decode cL_letterCount 4 = .ok (.iload_n 2, 1) := by decide +kernel
theorem dL_letterCount_5 : decode cL_letterCount 5 = .ok (.invokevirtual 64, 3) := by decide +kernel
theorem dL_letterCount_8 : decode cL_letterCount 8 = .ok (.i2l, 1) := by decide +kernel
theorem dL_letterCount_9 : decode cL_letterCount 9 = .ok (.lastore, 1) := by decide +kernel
theorem dL_letterCount_10 : decode cL_letterCount 10 = .ok (.goto 7, 3) := by decide +kernel
theorem dL_letterCount_13 : decode cL_letterCount 13 = .ok (.astore 4, 2) := by decide +kernel
theorem dL_letterCount_15 : decode cL_letterCount 15 = .ok (.iconst 1, 1) := by decide +kernel
theorem dL_letterCount_16 : decode cL_letterCount 16 = .ok (.ireturn, 1) := by decide +kernel
theorem dL_letterCount_17 : decode cL_letterCount 17 = .ok (.iconst 0, 1) := by decide +kernel
theorem dL_letterCount_18 : decode cL_letterCount 18 = .ok (.ireturn, 1) := by decide +kernel
theorem dL_saving_0 : decode cL_saving 0 = .ok (.aload_n 2, 1) := by decide +kernel
theorem dL_saving_1 : decode cL_saving 1 = .ok (.iconst 0, 1) := by decide +kernel
theorem dL_saving_2 : decode cL_saving 2 = .ok (.aload_n 0, 1) := by decide +kernel
theorem dL_saving_3 : decode cL_saving 3 = .ok (.iload_n 1, 1) := by decide +kernel
theorem dL_saving_4 : decode cL_saving 4 = .ok (.invokevirtual 68, 3) := by decide +kernel
theorem dL_saving_7 : decode cL_saving 7 = .ok (.i2l, 1) := by decide +kernel
theorem dL_saving_8 : decode cL_saving 8 = .ok (.lastore, 1) := by decide +kernel
theorem dL_saving_9 : decode cL_saving 9 = .ok (.goto 6, 3) := by decide +kernel
theorem dL_saving_12 : decode cL_saving 12 = .ok (.astore_n 3, 1) := by decide +kernel
theorem dL_saving_13 : decode cL_saving 13 = .ok (.iconst 1, 1) := by decide +kernel
theorem dL_saving_14 : decode cL_saving 14 = .ok (.ireturn, 1) := by decide +kernel
theorem dL_saving_15 : decode cL_saving 15 = .ok (.iconst 0, 1) := by decide +kernel
theorem dL_saving_16 : decode cL_saving 16 = .ok (.ireturn, 1) := by decide +kernel
theorem dL_learn_0 : decode cL_learn 0 = .ok (.aload_n 1, 1) := by decide +kernel
theorem dL_learn_1 : decode cL_learn 1 = .ok (.iconst 0, 1) := by decide +kernel
theorem dL_learn_2 : decode cL_learn 2 = .ok (.aload_n 0, 1) := by decide +kernel
theorem dL_learn_3 : decode cL_learn 3 = .ok (.invokevirtual 71, 3) := by decide +kernel
theorem dL_learn_6 : decode cL_learn 6 = .ok (.i2l, 1) := by decide +kernel
theorem dL_learn_7 : decode cL_learn 7 = .ok (.lastore, 1) := by decide +kernel
theorem dL_learn_8 : decode cL_learn 8 = .ok (.goto 6, 3) := by decide +kernel
theorem dL_learn_11 : decode cL_learn 11 = .ok (.astore_n 2, 1) := by decide +kernel
theorem dL_learn_12 : decode cL_learn 12 = .ok (.iconst 1, 1) := by decide +kernel
theorem dL_learn_13 : decode cL_learn 13 = .ok (.ireturn, 1) := by decide +kernel
theorem dL_learn_14 : decode cL_learn 14 = .ok (.iconst 0, 1) := by decide +kernel
theorem dL_learn_15 : decode cL_learn 15 = .ok (.ireturn, 1) := by decide +kernel
theorem dL_pair_0 : decode cL_pair 0 = .ok (.aload_n 3, 1) := by decide +kernel
theorem dL_pair_1 : decode cL_pair 1 = .ok (.iconst 0, 1) := by decide +kernel
theorem dL_pair_2 : decode cL_pair 2 = .ok (.aload_n 0, 1) := by decide +kernel
theorem dL_pair_3 : decode cL_pair 3 = .ok (.iload_n 1, 1) := by decide +kernel
theorem dL_pair_4 : decode cL_pair 4 = .ok (.iload_n 2, 1) := by decide +kernel
theorem dL_pair_5 : decode cL_pair 5 = .ok (.invokevirtual 75, 3) := by decide +kernel
theorem dL_pair_8 : decode cL_pair 8 = .ok (.i2l, 1) := by decide +kernel
theorem dL_pair_9 : decode cL_pair 9 = .ok (.lastore, 1) := by decide +kernel
theorem dL_pair_10 : decode cL_pair 10 = .ok (.goto 11, 3) := by decide +kernel
theorem dL_pair_13 : decode cL_pair 13 = .ok (.astore 4, 2) := by decide +kernel
theorem dL_pair_15 : decode cL_pair 15 = .ok (.iconst 1, 1) := by decide +kernel
theorem dL_pair_16 : decode cL_pair 16 = .ok (.ireturn, 1) := by decide +kernel
theorem dL_pair_17 : decode cL_pair 17 = .ok (.astore 4, 2) := by decide +kernel
theorem dL_pair_19 : decode cL_pair 19 = .ok (.iconst 2, 1) := by decide +kernel
theorem dL_pair_20 : decode cL_pair 20 = .ok (.ireturn, 1) := by decide +kernel
theorem dL_pair_21 : decode cL_pair 21 = .ok (.iconst 0, 1) := by decide +kernel
theorem dL_pair_22 : decode cL_pair 22 = .ok (.ireturn, 1) := by decide +kernel
theorem dL_abbreviate_0 : decode cL_abbreviate 0 = .ok (.aload_n 1, 1) := by decide +kernel
theorem dL_abbreviate_1 : decode cL_abbreviate 1 = .ok (.iconst 0, 1) := by decide +kernel
theorem dL_abbreviate_2 : decode cL_abbreviate 2 = .ok (.aload_n 0, 1) := by decide +kernel
theorem dL_abbreviate_3 : decode cL_abbreviate 3 = .ok (.invokevirtual 78, 3) := by decide +kernel
theorem dL_abbreviate_6 : decode cL_abbreviate 6 = .ok (.i2l, 1) := by decide +kernel
theorem dL_abbreviate_7 : decode cL_abbreviate 7 = .ok (.lastore, 1) := by decide +kernel
theorem dL_abbreviate_8 : decode cL_abbreviate 8 = .ok (.goto 6, 3) := by decide +kernel
theorem dL_abbreviate_11 : decode cL_abbreviate 11 = .ok (.astore_n 2, 1) := by decide +kernel
theorem dL_abbreviate_12 : decode cL_abbreviate 12 = .ok (.iconst 1, 1) := by decide +kernel
theorem dL_abbreviate_13 : decode cL_abbreviate 13 = .ok (.ireturn, 1) := by decide +kernel
theorem dL_abbreviate_14 : decode cL_abbreviate 14 = .ok (.iconst 0, 1) := by decide +kernel
theorem dL_abbreviate_15 : decode cL_abbreviate 15 = .ok (.ireturn, 1) := by decide +kernel
theorem dL_expand_0 : decode cL_expand 0 = .ok (.aload_n 1, 1) := by decide +kernel
theorem dL_expand_1 : decode cL_expand 1 = .ok (.iconst 0, 1) := by decide +kernel
theorem dL_expand_2 : decode cL_expand 2 = .ok (.aload_n 0, 1) := by decide +kernel
theorem dL_expand_3 : decode cL_expand 3 = .ok (.invokevirtual 81, 3) := by decide +kernel
theorem dL_expand_6 : decode cL_expand 6 = .ok (.i2l, 1) := by decide +kernel
theorem dL_expand_7 : decode cL_expand 7 = .ok (.lastore, 1) := by decide +kernel
theorem dL_expand_8 : decode cL_expand 8 = .ok (.goto 6, 3) := by decide +kernel
theorem dL_expand_11 : decode cL_expand 11 = .ok (.astore_n 2, 1) := by decide +kernel
theorem dL_expand_12 : decode cL_expand 12 = .ok (.iconst 1, 1) := by decide +kernel
theorem dL_expand_13 : decode cL_expand 13 = .ok (.ireturn, 1) := by decide +kernel
theorem dL_expand_14 : decode cL_expand 14 = .ok (.iconst 0, 1) := by decide +kernel
theorem dL_expand_15 : decode cL_expand 15 = .ok (.ireturn, 1) := by decide +kernel
theorem dL_errorPosition_0 : decode cL_errorPosition 0 = .ok (.aload_n 1, 1) := by decide +kernel
theorem dL_errorPosition_1 : decode cL_errorPosition 1 = .ok (.iconst 0, 1) := by decide +kernel
theorem dL_errorPosition_2 : decode cL_errorPosition 2 = .ok (.aload_n 0, 1) := by decide +kernel
theorem dL_errorPosition_3 : decode cL_errorPosition 3 = .ok (.invokevirtual 84, 3) := by decide +kernel
theorem dL_errorPosition_6 : decode cL_errorPosition 6 = .ok (.i2l, 1) := by decide +kernel
theorem dL_errorPosition_7 : decode cL_errorPosition 7 = .ok (.lastore, 1) := by decide +kernel
theorem dL_errorPosition_8 : decode cL_errorPosition 8 = .ok (.goto 6, 3) := by decide +kernel
theorem dL_errorPosition_11 : decode cL_errorPosition 11 = .ok (.astore_n 2, 1) := by decide +kernel
theorem dL_errorPosition_12 : decode cL_errorPosition 12 = .ok (.iconst 1, 1) := by decide +kernel
theorem dL_errorPosition_13 : decode cL_errorPosition 13 = .ok (.ireturn, 1) := by decide +kernel
theorem dL_errorPosition_14 : decode cL_errorPosition 14 = .ok (.iconst 0, 1) := by decide +kernel
theorem dL_errorPosition_15 : decode cL_errorPosition 15 = .ok (.ireturn, 1) := by decide +kernel
theorem dL_output_0 : decode cL_output 0 = .ok (.aload_n 2, 1) := by decide +kernel
theorem dL_output_1 : decode cL_output 1 = .ok (.iconst 0, 1) := by decide +kernel
theorem dL_output_2 : decode cL_output 2 = .ok (.aload_n 0, 1) := by decide +kernel
theorem dL_output_3 : decode cL_output 3 = .ok (.iload_n 1, 1) := by decide +kernel
theorem dL_output_4 : decode cL_output 4 = .ok (.invokevirtual 87, 3) := by decide +kernel
theorem dL_output_7 : decode cL_output 7 = .ok (.i2l, 1) := by decide +kernel
theorem dL_output_8 : decode cL_output 8 = .ok (.lastore, 1) := by decide +kernel
theorem dL_output_9 : decode cL_output 9 = .ok (.goto 9, 3) := by decide +kernel
theorem dL_output_12 : decode cL_output 12 = .ok (.astore_n 3, 1) := by decide +kernel
theorem dL_output_13 : decode cL_output 13 = .ok (.iconst 1, 1) := by decide +kernel
theorem dL_output_14 : decode cL_output 14 = .ok (.ireturn, 1) := by decide +kernel
theorem dL_output_15 : decode cL_output 15 = .ok (.astore_n 3, 1) := by decide +kernel
theorem dL_output_16 : decode cL_output 16 = .ok (.iconst 2, 1) := by decide +kernel
theorem dL_output_17 : decode cL_output 17 = .ok (.ireturn, 1) := by decide +kernel
theorem dL_output_18 : decode cL_output 18 = .ok (.iconst 0, 1) := by decide +kernel
theorem dL_output_19 : decode cL_output 19 = .ok (.ireturn, 1) := by decide +kernel
theorem dL_takeBack_0 : decode cL_takeBack 0 = .ok (.aload_n 1, 1) := by decide +kernel
theorem dL_takeBack_1 : decode cL_takeBack 1 = .ok (.iconst 0, 1) := by decide +kernel
theorem dL_takeBack_2 : decode cL_takeBack 2 = .ok (.aload_n 0, 1) := by decide +kernel
theorem dL_takeBack_3 : decode cL_takeBack 3 = .ok (.invokevirtual 91, 3) := by decide +kernel
theorem dL_takeBack_6 : decode cL_takeBack 6 = .ok (.i2l, 1) := by decide +kernel
theorem dL_takeBack_7 : decode cL_takeBack 7 = .ok (.lastore, 1) := by decide +kernel
theorem dL_takeBack_8 : decode cL_takeBack 8 = .ok (.goto 9, 3) := by decide +kernel
theorem dL_takeBack_11 : decode cL_takeBack 11 = .ok (.astore_n 2, 1) := by decide +kernel
theorem dL_takeBack_12 : decode cL_takeBack 12 = .ok (.iconst 1, 1) := by decide +kernel
theorem dL_takeBack_13 : decode cL_takeBack 13 = .ok (.ireturn, 1) := by decide +kernel
theorem dL_takeBack_14 : decode cL_takeBack 14 = .ok (.astore_n 2, 1) := by decide +kernel
theorem dL_takeBack_15 : decode cL_takeBack 15 = .ok (.iconst 2, 1) := by decide +kernel
theorem dL_takeBack_16 : decode cL_takeBack 16 = .ok (.ireturn, 1) := by decide +kernel
theorem dL_takeBack_17 : decode cL_takeBack 17 = .ok (.iconst 0, 1) := by decide +kernel
theorem dL_takeBack_18 : decode cL_takeBack 18 = .ok (.ireturn, 1) := by decide +kernel
theorem dL_word_0 : decode cL_word 0 = .ok (.aload_n 3, 1) := by decide +kernel
theorem dL_word_1 : decode cL_word 1 = .ok (.iconst 0, 1) := by decide +kernel
theorem dL_word_2 : decode cL_word 2 = .ok (.aload_n 0, 1) := by decide +kernel
theorem dL_word_3 : decode cL_word 3 = .ok (.iload_n 1, 1) := by decide +kernel
theorem dL_word_4 : decode cL_word 4 = .ok (.iload_n 2, 1) := by decide +kernel
theorem dL_word_5 : decode cL_word 5 = .ok (.invokevirtual 94, 3) := by decide +kernel
theorem dL_word_8 : decode cL_word 8 = .ok (.i2l, 1) := by decide +kernel
theorem dL_word_9 : decode cL_word 9 = .ok (.lastore, 1) := by decide +kernel
theorem dL_word_10 : decode cL_word 10 = .ok (.goto 15, 3) := by decide +kernel
theorem dL_word_13 : decode cL_word 13 = .ok (.astore 4, 2) := by decide +kernel
theorem dL_word_15 : decode cL_word 15 = .ok (.iconst 1, 1) := by decide +kernel
theorem dL_word_16 : decode cL_word 16 = .ok (.ireturn, 1) := by decide +kernel
theorem dL_word_17 : decode cL_word 17 = .ok (.astore 4, 2) := by decide +kernel
theorem dL_word_19 : decode cL_word 19 = .ok (.iconst 2, 1) := by decide +kernel
theorem dL_word_20 : decode cL_word 20 = .ok (.ireturn, 1) := by decide +kernel
theorem dL_word_21 : decode cL_word 21 = .ok (.astore 4, 2) := by decide +kernel
theorem dL_word_23 : decode cL_word 23 = .ok (.iconst 3, 1) := by decide +kernel
theorem dL_word_24 : decode cL_word 24 = .ok (.ireturn, 1) := by decide +kernel
theorem dL_word_25 : decode cL_word 25 = .ok (.iconst 0, 1) := by decide +kernel
theorem dL_word_26 : decode cL_word 26 = .ok (.ireturn, 1) := by decide +kernel
theorem dL_result_0 : decode cL_result 0 = .ok (.aload_n 2, 1) := by decide +kernel
theorem dL_result_1 : decode cL_result 1 = .ok (.iconst 0, 1) := by decide +kernel
theorem dL_result_2 : decode cL_result 2 = .ok (.aload_n 0, 1) := by decide +kernel
theorem dL_result_3 : decode cL_result 3 = .ok (.iload_n 1, 1) := by decide +kernel
theorem dL_result_4 : decode cL_result 4 = .ok (.invokevirtual 97, 3) := by decide +kernel
theorem dL_result_7 : decode cL_result 7 = .ok (.i2l, 1) := by decide +kernel
theorem dL_result_8 : decode cL_result 8 = .ok (.lastore, 1) := by decide +kernel
theorem dL_result_9 : decode cL_result 9 = .ok (.goto 9, 3) := by decide +kernel
theorem dL_result_12 : decode cL_result 12 = .ok (.astore_n 3, 1) := by decide +kernel
theorem dL_result_13 : decode cL_result 13 = .ok (.iconst 1, 1) := by decide +kernel
theorem dL_result_14 : decode cL_result 14 = .ok (.ireturn, 1) := by decide +kernel
theorem dL_result_15 : decode cL_result 15 = .ok (.astore_n 3, 1) := by decide +kernel
theorem dL_result_16 : decode cL_result 16 = .ok (.iconst 2, 1) := by decide +kernel
theorem dL_result_17 : decode cL_result 17 = .ok (.ireturn, 1) := by decide +kernel
theorem dL_result_18 : decode cL_result 18 = .ok (.iconst 0, 1) := by decide +kernel
theorem dL_result_19 : decode cL_result 19 = .ok (.ireturn, 1) := by decide +kernel
theorem dL_firstLost_0 : decode cL_firstLost 0 = .ok (.aload_n 1, 1) := by decide +kernel
theorem dL_firstLost_1 : decode cL_firstLost 1 = .ok (.iconst 0, 1) := by decide +kernel
theorem dL_firstLost_2 : decode cL_firstLost 2 = .ok (.aload_n 0, 1) := by decide +kernel
theorem dL_firstLost_3 : decode cL_firstLost 3 = .ok (.invokevirtual 100, 3) := by decide +kernel
theorem dL_firstLost_6 : decode cL_firstLost 6 = .ok (.i2l, 1) := by decide +kernel
theorem dL_firstLost_7 : decode cL_firstLost 7 = .ok (.lastore, 1) := by decide +kernel
theorem dL_firstLost_8 : decode cL_firstLost 8 = .ok (.goto 6, 3) := by decide +kernel
theorem dL_firstLost_11 : decode cL_firstLost 11 = .ok (.astore_n 2, 1) := by decide +kernel
theorem dL_firstLost_12 : decode cL_firstLost 12 = .ok (.iconst 1, 1) := by decide +kernel
theorem dL_firstLost_13 : decode cL_firstLost 13 = .ok (.ireturn, 1) := by decide +kernel
theorem dL_firstLost_14 : decode cL_firstLost 14 = .ok (.iconst 0, 1) := by decide +kernel
theorem dL_firstLost_15 : decode cL_firstLost 15 = .ok (.ireturn, 1) := by decide +kernel
theorem dL_share_0 : decode cL_share 0 = .ok (.aload_n 1, 1) := by decide +kernel
theorem dL_share_1 : decode cL_share 1 = .ok (.iconst 0, 1) := by decide +kernel
theorem dL_share_2 : decode cL_share 2 = .ok (.aload_n 0, 1) := by decide +kernel
theorem dL_share_3 : decode cL_share 3 = .ok (.invokevirtual 103, 3) := by decide +kernel
theorem dL_share_6 : decode cL_share 6 = .ok (.dastore, 1) := by decide +kernel
theorem dL_share_7 : decode cL_share 7 = .ok (.goto 6, 3) := by decide +kernel
theorem dL_share_10 : decode cL_share 10 = .ok (.astore_n 2, 1) := by decide +kernel
theorem dL_share_11 : decode cL_share 11 = .ok (.iconst 1, 1) := by decide +kernel
theorem dL_share_12 : decode cL_share 12 = .ok (.ireturn, 1) := by decide +kernel
theorem dL_share_13 : decode cL_share 13 = .ok (.iconst 0, 1) := by decide +kernel
theorem dL_share_14 : decode cL_share 14 = .ok (.ireturn, 1) := by decide +kernel
theorem dL_meanPriority_0 : decode cL_meanPriority 0 = .ok (.aload_n 1, 1) := by decide +kernel
theorem dL_meanPriority_1 : decode cL_meanPriority 1 = .ok (.iconst 0, 1) := by decide +kernel
theorem dL_meanPriority_2 : decode cL_meanPriority 2 = .ok (.aload_n 0, 1) := by decide +kernel
theorem dL_meanPriority_3 : decode cL_meanPriority 3 = .ok (.invokevirtual 107, 3) := by decide +kernel
theorem dL_meanPriority_6 : decode cL_meanPriority 6 = .ok (.f2d, 1) := by decide +kernel
theorem dL_meanPriority_7 : decode cL_meanPriority 7 = .ok (.dastore, 1) := by decide +kernel
theorem dL_meanPriority_8 : decode cL_meanPriority 8 = .ok (.goto 9, 3) := by decide +kernel
theorem dL_meanPriority_11 : decode cL_meanPriority 11 = .ok (.astore_n 2, 1) := by decide +kernel
theorem dL_meanPriority_12 : decode cL_meanPriority 12 = .ok (.iconst 1, 1) := by decide +kernel
theorem dL_meanPriority_13 : decode cL_meanPriority 13 = .ok (.ireturn, 1) := by decide +kernel
theorem dL_meanPriority_14 : decode cL_meanPriority 14 = .ok (.astore_n 2, 1) := by decide +kernel
theorem dL_meanPriority_15 : decode cL_meanPriority 15 = .ok (.iconst 2, 1) := by decide +kernel
theorem dL_meanPriority_16 : decode cL_meanPriority 16 = .ok (.ireturn, 1) := by decide +kernel
theorem dL_meanPriority_17 : decode cL_meanPriority 17 = .ok (.iconst 0, 1) := by decide +kernel
theorem dL_meanPriority_18 : decode cL_meanPriority 18 = .ok (.ireturn, 1) := by decide +kernel
theorem dL_storeLengths_0 : decode cL_storeLengths 0 = .ok (.aload_n 3, 1) := by decide +kernel
theorem dL_storeLengths_1 : decode cL_storeLengths 1 = .ok (.iconst 0, 1) := by decide +kernel
theorem dL_storeLengths_2 : decode cL_storeLengths 2 = .ok (.aload_n 0, 1) := by decide +kernel
theorem dL_storeLengths_3 : decode cL_storeLengths 3 = .ok (.iload_n 1, 1) := by decide +kernel
theorem dL_storeLengths_4 : decode cL_storeLengths 4 = .ok (.iload_n 2, 1) := by decide +kernel
theorem dL_storeLengths_5 : decode cL_storeLengths 5 = .ok (.invokevirtual 113, 3) := by decide +kernel
theorem dL_storeLengths_8 : decode cL_storeLengths 8 = .ok (.i2l, 1) := by decide +kernel
theorem dL_storeLengths_9 : decode cL_storeLengths 9 = .ok (.lastore, 1) := by decide +kernel
theorem dL_storeLengths_10 : decode cL_storeLengths 10 = .ok (.goto 11, 3) := by decide +kernel
theorem dL_storeLengths_13 : decode cL_storeLengths 13 = .ok (.astore 4, 2) := by decide +kernel
theorem dL_storeLengths_15 : decode cL_storeLengths 15 = .ok (.iconst 1, 1) := by decide +kernel
theorem dL_storeLengths_16 : decode cL_storeLengths 16 = .ok (.ireturn, 1) := by decide +kernel
theorem dL_storeLengths_17 : decode cL_storeLengths 17 = .ok (.astore 4, 2) := by decide +kernel
theorem dL_storeLengths_19 : decode cL_storeLengths 19 = .ok (.iconst 2, 1) := by decide +kernel
theorem dL_storeLengths_20 : decode cL_storeLengths 20 = .ok (.ireturn, 1) := by decide +kernel
theorem dL_storeLengths_21 : decode cL_storeLengths 21 = .ok (.iconst 0, 1) := by decide +kernel
theorem dL_storeLengths_22 : decode cL_storeLengths 22 = .ok (.ireturn, 1) := by decide +kernel
theorem dL_copyLengths_0 : decode cL_copyLengths 0 = .ok (.aload_n 3, 1) := by decide +kernel
theorem dL_copyLengths_1 : decode cL_copyLengths 1 = .ok (.iconst 0, 1) := by decide +kernel
theorem dL_copyLengths_2 : decode cL_copyLengths 2 = .ok (.aload_n 0, 1) := by decide +kernel
theorem dL_copyLengths_3 : decode cL_copyLengths 3 = .ok (.iload_n 1, 1) := by decide +kernel
theorem dL_copyLengths_4 : decode cL_copyLengths 4 = .ok (.iload_n 2, 1) := by decide +kernel
theorem dL_copyLengths_5 : decode cL_copyLengths 5 = .ok (.invokevirtual 116, 3) := by decide +kernel
theorem dL_copyLengths_8 : decode cL_copyLengths 8 = .ok (.ifCond .eq 7, 3) := by decide +kernel
theorem dL_copyLengths_11 : decode cL_copyLengths 11 = .ok (.lconst 1, 1) := by decide +kernel
theorem dL_copyLengths_12 : decode cL_copyLengths 12 = .ok (.goto 4, 3) := by decide +kernel
theorem dL_copyLengths_15 : decode cL_copyLengths 15 = .ok (.lconst 0, 1) := by decide +kernel
theorem dL_copyLengths_16 : decode cL_copyLengths 16 = .ok (.lastore, 1) := by decide +kernel
theorem dL_copyLengths_17 : decode cL_copyLengths 17 = .ok (.goto 19, 3) := by decide +kernel
theorem dL_copyLengths_20 : decode cL_copyLengths 20 = .ok (.astore 4, 2) := by decide +kernel
theorem dL_copyLengths_22 : decode cL_copyLengths 22 = .ok (.iconst 1, 1) := by decide +kernel
theorem dL_copyLengths_23 : decode cL_copyLengths 23 = .ok (.ireturn, 1) := by decide +kernel
theorem dL_copyLengths_24 : decode cL_copyLengths 24 = .ok (.astore 4, 2) := by decide +kernel
theorem dL_copyLengths_26 : decode cL_copyLengths 26 = .ok (.iconst 2, 1) := by decide +kernel
theorem dL_copyLengths_27 : decode cL_copyLengths 27 = .ok (.ireturn, 1) := by decide +kernel
theorem dL_copyLengths_28 : decode cL_copyLengths 28 = .ok (.astore 4, 2) := by decide +kernel
theorem dL_copyLengths_30 : decode cL_copyLengths 30 = .ok (.iconst 3, 1) := by decide +kernel
theorem dL_copyLengths_31 : decode cL_copyLengths 31 = .ok (.ireturn, 1) := by decide +kernel
theorem dL_copyLengths_32 : decode cL_copyLengths 32 = .ok (.astore 4, 2) := by decide +kernel
theorem dL_copyLengths_34 : decode cL_copyLengths 34 = .ok (.iconst 4, 1) := by decide +kernel
theorem dL_copyLengths_35 : decode cL_copyLengths 35 = .ok (.ireturn, 1) := by decide +kernel
theorem dL_copyLengths_36 : decode cL_copyLengths 36 = .ok (.iconst 0, 1) := by decide +kernel
theorem dL_copyLengths_37 : decode cL_copyLengths 37 = .ok (.ireturn, 1) := by decide +kernel
theorem dL_storedBits_0 : decode cL_storedBits 0 = .ok (.aload_n 3, 1) := by decide +kernel
theorem dL_storedBits_1 : decode cL_storedBits 1 = .ok (.iconst 0, 1) := by decide +kernel
theorem dL_storedBits_2 : decode cL_storedBits 2 = .ok (.aload_n 0, 1) := by decide +kernel
theorem dL_storedBits_3 : decode cL_storedBits 3 = .ok (.iload_n 1, 1) := by decide +kernel
theorem dL_storedBits_4 : decode cL_storedBits 4 = .ok (.iload_n 2, 1) := by decide +kernel
theorem dL_storedBits_5 : decode cL_storedBits 5 = .ok (.invokevirtual 120, 3) := by decide +kernel
theorem dL_storedBits_8 : decode cL_storedBits 8 = .ok (.i2l, 1) := by decide +kernel
theorem dL_storedBits_9 : decode cL_storedBits 9 = .ok (.lastore, 1) := by decide +kernel
theorem dL_storedBits_10 : decode cL_storedBits 10 = .ok (.goto 11, 3) := by decide +kernel
theorem dL_storedBits_13 : decode cL_storedBits 13 = .ok (.astore 4, 2) := by decide +kernel
theorem dL_storedBits_15 : decode cL_storedBits 15 = .ok (.iconst 1, 1) := by decide +kernel
theorem dL_storedBits_16 : decode cL_storedBits 16 = .ok (.ireturn, 1) := by decide +kernel
theorem dL_storedBits_17 : decode cL_storedBits 17 = .ok (.astore 4, 2) := by decide +kernel
theorem dL_storedBits_19 : decode cL_storedBits 19 = .ok (.iconst 2, 1) := by decide +kernel
theorem dL_storedBits_20 : decode cL_storedBits 20 = .ok (.ireturn, 1) := by decide +kernel
theorem dL_storedBits_21 : decode cL_storedBits 21 = .ok (.iconst 0, 1) := by decide +kernel
theorem dL_storedBits_22 : decode cL_storedBits 22 = .ok (.ireturn, 1) := by decide +kernel
theorem dL_undo_0 : decode cL_undo 0 = .ok (.aload_n 1, 1) := by decide +kernel
theorem dL_undo_1 : decode cL_undo 1 = .ok (.iconst 0, 1) := by decide +kernel
theorem dL_undo_2 : decode cL_undo 2 = .ok (.aload_n 0, 1) := by decide +kernel
theorem dL_undo_3 : decode cL_undo 3 = .ok (.invokevirtual 123, 3) := by decide +kernel
theorem dL_undo_6 : decode cL_undo 6 = .ok (.i2l, 1) := by decide +kernel
theorem dL_undo_7 : decode cL_undo 7 = .ok (.lastore, 1) := by decide +kernel
theorem dL_undo_8 : decode cL_undo 8 = .ok (.goto 6, 3) := by decide +kernel
theorem dL_undo_11 : decode cL_undo 11 = .ok (.astore_n 2, 1) := by decide +kernel
theorem dL_undo_12 : decode cL_undo 12 = .ok (.iconst 1, 1) := by decide +kernel
theorem dL_undo_13 : decode cL_undo 13 = .ok (.ireturn, 1) := by decide +kernel
theorem dL_undo_14 : decode cL_undo 14 = .ok (.iconst 0, 1) := by decide +kernel
theorem dL_undo_15 : decode cL_undo 15 = .ok (.ireturn, 1) := by decide +kernel
theorem dL_restore_0 : decode cL_restore 0 = .ok (.aload_n 1, 1) := by decide +kernel
theorem dL_restore_1 : decode cL_restore 1 = .ok (.iconst 0, 1) := by decide +kernel
theorem dL_restore_2 : decode cL_restore 2 = .ok (.aload_n 0, 1) := by decide +kernel
theorem dL_restore_3 : decode cL_restore 3 = .ok (.invokevirtual 126, 3) := by decide +kernel
theorem dL_restore_6 : decode cL_restore 6 = .ok (.i2l, 1) := by decide +kernel
theorem dL_restore_7 : decode cL_restore 7 = .ok (.lastore, 1) := by decide +kernel
theorem dL_restore_8 : decode cL_restore 8 = .ok (.goto 6, 3) := by decide +kernel
theorem dL_restore_11 : decode cL_restore 11 = .ok (.astore_n 2, 1) := by decide +kernel
theorem dL_restore_12 : decode cL_restore 12 = .ok (.iconst 1, 1) := by decide +kernel
theorem dL_restore_13 : decode cL_restore 13 = .ok (.ireturn, 1) := by decide +kernel
theorem dL_restore_14 : decode cL_restore 14 = .ok (.iconst 0, 1) := by decide +kernel
theorem dL_restore_15 : decode cL_restore 15 = .ok (.ireturn, 1) := by decide +kernel
theorem dJx00060_init_a7421_0 : decode cJx00060_init_a7421 0 = .ok (.aload_n 0, 1) := by decide +kernel
theorem dJx00060_init_a7421_1 : decode cJx00060_init_a7421 1 = .ok (.aload_n 1, 1) := by decide +kernel
theorem dJx00060_init_a7421_2 : decode cJx00060_init_a7421 2 = .ok (.invokespecial 7, 3) := by decide +kernel
theorem dJx00060_init_a7421_5 : decode cJx00060_init_a7421 5 = .ok (.return_, 1) := by decide +kernel
theorem dJxf58ca_isNaN_12338_0 : decode cJxf58ca_isNaN_12338 0 = .ok (.fload_n 0, 1) := by decide +kernel
theorem dJxf58ca_isNaN_12338_1 : decode cJxf58ca_isNaN_12338 1 = .ok (.fload_n 0, 1) := by decide +kernel
theorem dJxf58ca_isNaN_12338_2 : decode cJxf58ca_isNaN_12338 2 = .ok (.fcmp .l, 1) := by decide +kernel
theorem dJxf58ca_isNaN_12338_3 : decode cJxf58ca_isNaN_12338 3 = .ok (.ifCond .eq 7, 3) := by decide +kernel
theorem dJxf58ca_isNaN_12338_6 : decode cJxf58ca_isNaN_12338 6 = .ok (.iconst 1, 1) := by decide +kernel
theorem dJxf58ca_isNaN_12338_7 : decode cJxf58ca_isNaN_12338 7 = .ok (.goto 4, 3) := by decide +kernel
theorem dJxf58ca_isNaN_12338_10 : decode cJxf58ca_isNaN_12338 10 = .ok (.iconst 0, 1) := by decide +kernel
theorem dJxf58ca_isNaN_12338_11 : decode cJxf58ca_isNaN_12338 11 = .ok (.ireturn, 1) := by decide +kernel
theorem dJxf58ca_floatToIntBits_5c35a_0 : decode cJxf58ca_floatToIntBits_5c35a 0 = .ok (.fload_n 0, 1) := by decide +kernel
theorem dJxf58ca_floatToIntBits_5c35a_1 : decode cJxf58ca_floatToIntBits_5c35a 1 = .ok (.invokestatic 59, 3) := by decide +kernel
theorem dJxf58ca_floatToIntBits_5c35a_4 : decode cJxf58ca_floatToIntBits_5c35a 4 = .ok (.ifCond .ne 8, 3) := by decide +kernel
theorem dJxf58ca_floatToIntBits_5c35a_7 : decode cJxf58ca_floatToIntBits_5c35a 7 = .ok (.fload_n 0, 1) := by decide +kernel
theorem dJxf58ca_floatToIntBits_5c35a_8 : decode cJxf58ca_floatToIntBits_5c35a 8 = .ok (.invokestatic 74, 3) := by decide +kernel
theorem dJxf58ca_floatToIntBits_5c35a_11 : decode cJxf58ca_floatToIntBits_5c35a 11 = .ok (.ireturn, 1) := by decide +kernel
theorem dJxf58ca_floatToIntBits_5c35a_12 : decode cJxf58ca_floatToIntBits_5c35a 12 = .ok (.ldc 77, 2) := by decide +kernel
theorem dJxf58ca_floatToIntBits_5c35a_14 : decode cJxf58ca_floatToIntBits_5c35a 14 = .ok (.ireturn, 1) := by decide +kernel
theorem dJ9_min_7cf53_0 : decode cJ9_min_7cf53 0 = .ok (.iload_n 0, 1) := by decide +kernel
theorem dJ9_min_7cf53_1 : decode cJ9_min_7cf53 1 = .ok (.iload_n 1, 1) := by decide +kernel
theorem dJ9_min_7cf53_2 : decode cJ9_min_7cf53 2 = .ok (.if_icmp .gt 7, 3) := by decide +kernel
theorem dJ9_min_7cf53_5 : decode cJ9_min_7cf53 5 = .ok (.iload_n 0, 1) := by decide +kernel
theorem dJ9_min_7cf53_6 : decode cJ9_min_7cf53 6 = .ok (.goto 4, 3) := by decide +kernel
theorem dJ9_min_7cf53_9 : decode cJ9_min_7cf53 9 = .ok (.iload_n 1, 1) := by decide +kernel
theorem dJ9_min_7cf53_10 : decode cJ9_min_7cf53 10 = .ok (.ireturn, 1) := by decide +kernel
