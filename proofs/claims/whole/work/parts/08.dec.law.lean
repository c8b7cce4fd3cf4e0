theorem dL_pass_0 : decode cL_pass 0 = .ok (.aload_n 2, 1) := by decide +kernel
theorem dL_pass_1 : decode cL_pass 1 = .ok (.iconst 0, 1) := by decide +kernel
theorem dL_pass_2 : decode cL_pass 2 = .ok (.aload_n 0, 1) := by decide +kernel
theorem dL_pass_3 : decode cL_pass 3 = .ok (.iload_n 1, 1) := by decide +kernel
theorem dL_pass_4 : decode cL_pass 4 = .ok (.invokevirtual 7, 3) := by decide +kernel
theorem dL_pass_7 : decode cL_pass 7 = .ok (.i2l, 1) := by decide +kernel
theorem dL_pass_8 : decode cL_pass 8 = .ok (.lastore, 1) := by decide +kernel
theorem dL_pass_9 : decode cL_pass 9 = .ok (.goto 6, 3) := by decide +kernel
theorem dL_pass_12 : decode cL_pass 12 = .ok (.astore_n 3, 1) := by decide +kernel
theorem dL_pass_13 : decode cL_pass 13 = .ok (.iconst 1, 1) := by decide +kernel
theorem dL_pass_14 : decode cL_pass 14 = .ok (.ireturn, 1) := by decide +kernel
theorem dL_pass_15 : decode cL_pass 15 = .ok (.iconst 0, 1) := by decide +kernel
theorem dL_pass_16 : decode cL_pass 16 = .ok (.ireturn, 1) := by decide +kernel
theorem dL_link_0 : decode cL_link 0 = .ok (.aload 4, 2) := by decide +kernel
theorem dL_link_2 : decode cL_link 2 = .ok (.iconst 0, 1) := by decide +kernel
theorem dL_link_3 : decode cL_link 3 = .ok (.aload_n 0, 1) := by decide +kernel
theorem dL_link_4 : decode cL_link 4 = .ok (.iload_n 1, 1) := by decide +kernel
theorem dL_link_5 : decode cL_link 5 = .ok (.iload_n 2, 1) := by decide +kernel
theorem dL_link_6 : decode cL_link 6 = .ok (.iload_n 3, 1) := by decide +kernel
theorem dL_link_7 : decode cL_link 7 = .ok (.invokevirtual 15, 3) := by decide +kernel
theorem dL_link_10 : decode cL_link 10 = .ok (.i2l, 1) := by decide +kernel
theorem dL_link_11 : decode cL_link 11 = .ok (.lastore, 1) := by decide +kernel
theorem dL_link_12 : decode cL_link 12 = .ok (.goto 7, 3) := by decide +kernel
theorem dL_link_15 : decode cL_link 15 = .ok (.astore 5, 2) := by decide +kernel
theorem dL_link_17 : decode cL_link 17 = .ok (.iconst 1, 1) := by decide +kernel
theorem dL_link_18 : decode cL_link 18 = .ok (.ireturn, 1) := by decide +kernel
theorem dL_link_19 : decode cL_link 19 = .ok (.iconst 0, 1) := by decide +kernel
theorem dL_link_20 : decode cL_link 20 = .ok (.ireturn, 1) := by decide +kernel
theorem dL_expire_0 : decode cL_expire 0 = .ok (.aload_n 2, 1) := by decide +kernel
theorem dL_expire_1 : decode cL_expire 1 = .ok (.iconst 0, 1) := by decide +kernel
theorem dL_expire_2 : decode cL_expire 2 = .ok (.aload_n 0, 1) := by decide +kernel
theorem dL_expire_3 : decode cL_expire 3 = .ok (.iload_n 1, 1) := by decide +kernel
theorem dL_expire_4 : decode cL_expire 4 = .ok (.invokevirtual 21, 3) := by decide +kernel
theorem dL_expire_7 : decode cL_expire 7 = .ok (.i2l, 1) := by decide +kernel
theorem dL_expire_8 : decode cL_expire 8 = .ok (.lastore, 1) := by decide +kernel
theorem dL_expire_9 : decode cL_expire 9 = .ok (.goto 6, 3) := by decide +kernel
theorem dL_expire_12 : decode cL_expire 12 = .ok (.astore_n 3, 1) := by decide +kernel
theorem dL_expire_13 : decode cL_expire 13 = .ok (.iconst 1, 1) := by decide +kernel
theorem dL_expire_14 : decode cL_expire 14 = .ok (.ireturn, 1) := by decide +kernel
theorem dL_expire_15 : decode cL_expire 15 = .ok (.iconst 0, 1) := by decide +kernel
theorem dL_expire_16 : decode cL_expire 16 = .ok (.ireturn, 1) := by decide +kernel
