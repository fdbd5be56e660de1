theorem dL_coast_0 : decode cL_coast 0 = .ok (.aload_n 1, 1) := by decide +kernel
theorem eL_coast_0 : zD KL_coast 0 (.aload_n 1) 1 1 := ⟨dL_coast_0, rfl⟩
theorem dL_coast_1 : decode cL_coast 1 = .ok (.iconst 0, 1) := by decide +kernel
theorem eL_coast_1 : zD KL_coast 1 (.iconst 0) 1 2 := ⟨dL_coast_1, rfl⟩
theorem dL_coast_2 : decode cL_coast 2 = .ok (.aload_n 0, 1) := by decide +kernel
theorem eL_coast_2 : zD KL_coast 2 (.aload_n 0) 1 3 := ⟨dL_coast_2, rfl⟩
theorem dL_coast_3 : decode cL_coast 3 = .ok (.invokevirtual 7, 3) := by decide +kernel
theorem eL_coast_3 : zD KL_coast 3 (.invokevirtual 7) 3 6 := ⟨dL_coast_3, rfl⟩
theorem dL_coast_6 : decode cL_coast 6 = .ok (.i2l, 1) := by decide +kernel
theorem eL_coast_6 : zD KL_coast 6 (.i2l) 1 7 := ⟨dL_coast_6, rfl⟩
theorem dL_coast_7 : decode cL_coast 7 = .ok (.lastore, 1) := by decide +kernel
theorem eL_coast_7 : zD KL_coast 7 (.lastore) 1 8 := ⟨dL_coast_7, rfl⟩
theorem dL_coast_8 : decode cL_coast 8 = .ok (.goto 9, 3) := by decide +kernel
theorem eL_coast_8 : zD KL_coast 8 (.goto 9) 3 11 := ⟨dL_coast_8, rfl⟩
theorem dL_coast_11 : decode cL_coast 11 = .ok (.astore_n 2, 1) := by decide +kernel
theorem eL_coast_11 : zD KL_coast 11 (.astore_n 2) 1 12 := ⟨dL_coast_11, rfl⟩
theorem dL_coast_12 : decode cL_coast 12 = .ok (.iconst 1, 1) := by decide +kernel
theorem eL_coast_12 : zD KL_coast 12 (.iconst 1) 1 13 := ⟨dL_coast_12, rfl⟩
theorem dL_coast_13 : decode cL_coast 13 = .ok (.ireturn, 1) := by decide +kernel
theorem eL_coast_13 : zD KL_coast 13 (.ireturn) 1 14 := ⟨dL_coast_13, rfl⟩
theorem dL_coast_14 : decode cL_coast 14 = .ok (.astore_n 2, 1) := by decide +kernel
theorem eL_coast_14 : zD KL_coast 14 (.astore_n 2) 1 15 := ⟨dL_coast_14, rfl⟩
theorem dL_coast_15 : decode cL_coast 15 = .ok (.iconst 2, 1) := by decide +kernel
theorem eL_coast_15 : zD KL_coast 15 (.iconst 2) 1 16 := ⟨dL_coast_15, rfl⟩
theorem dL_coast_16 : decode cL_coast 16 = .ok (.ireturn, 1) := by decide +kernel
theorem eL_coast_16 : zD KL_coast 16 (.ireturn) 1 17 := ⟨dL_coast_16, rfl⟩
theorem dL_coast_17 : decode cL_coast 17 = .ok (.iconst 0, 1) := by decide +kernel
theorem eL_coast_17 : zD KL_coast 17 (.iconst 0) 1 18 := ⟨dL_coast_17, rfl⟩
theorem dL_coast_18 : decode cL_coast 18 = .ok (.ireturn, 1) := by decide +kernel
theorem eL_coast_18 : zD KL_coast 18 (.ireturn) 1 19 := ⟨dL_coast_18, rfl⟩
theorem dL_law_0 : decode cL_law 0 = .ok (.aload_n 1, 1) := by decide +kernel
theorem eL_law_0 : zD KL_law 0 (.aload_n 1) 1 1 := ⟨dL_law_0, rfl⟩
theorem dL_law_1 : decode cL_law 1 = .ok (.iconst 0, 1) := by decide +kernel
theorem eL_law_1 : zD KL_law 1 (.iconst 0) 1 2 := ⟨dL_law_1, rfl⟩
theorem dL_law_2 : decode cL_law 2 = .ok (.aload_n 0, 1) := by decide +kernel
theorem eL_law_2 : zD KL_law 2 (.aload_n 0) 1 3 := ⟨dL_law_2, rfl⟩
theorem dL_law_3 : decode cL_law 3 = .ok (.invokevirtual 17, 3) := by decide +kernel
theorem eL_law_3 : zD KL_law 3 (.invokevirtual 17) 3 6 := ⟨dL_law_3, rfl⟩
theorem dL_law_6 : decode cL_law 6 = .ok (.i2l, 1) := by decide +kernel
theorem eL_law_6 : zD KL_law 6 (.i2l) 1 7 := ⟨dL_law_6, rfl⟩
theorem dL_law_7 : decode cL_law 7 = .ok (.lastore, 1) := by decide +kernel
theorem eL_law_7 : zD KL_law 7 (.lastore) 1 8 := ⟨dL_law_7, rfl⟩
theorem dL_law_8 : decode cL_law 8 = .ok (.goto 6, 3) := by decide +kernel
theorem eL_law_8 : zD KL_law 8 (.goto 6) 3 11 := ⟨dL_law_8, rfl⟩
theorem dL_law_11 : decode cL_law 11 = .ok (.astore_n 2, 1) := by decide +kernel
theorem eL_law_11 : zD KL_law 11 (.astore_n 2) 1 12 := ⟨dL_law_11, rfl⟩
theorem dL_law_12 : decode cL_law 12 = .ok (.iconst 1, 1) := by decide +kernel
theorem eL_law_12 : zD KL_law 12 (.iconst 1) 1 13 := ⟨dL_law_12, rfl⟩
theorem dL_law_13 : decode cL_law 13 = .ok (.ireturn, 1) := by decide +kernel
theorem eL_law_13 : zD KL_law 13 (.ireturn) 1 14 := ⟨dL_law_13, rfl⟩
theorem dL_law_14 : decode cL_law 14 = .ok (.iconst 0, 1) := by decide +kernel
theorem eL_law_14 : zD KL_law 14 (.iconst 0) 1 15 := ⟨dL_law_14, rfl⟩
theorem dL_law_15 : decode cL_law 15 = .ok (.ireturn, 1) := by decide +kernel
theorem eL_law_15 : zD KL_law 15 (.ireturn) 1 16 := ⟨dL_law_15, rfl⟩
theorem dL_member_0 : decode cL_member 0 = .ok (.aload_n 3, 1) := by decide +kernel
theorem eL_member_0 : zD KL_member 0 (.aload_n 3) 1 1 := ⟨dL_member_0, rfl⟩
theorem dL_member_1 : decode cL_member 1 = .ok (.iconst 0, 1) := by decide +kernel
theorem eL_member_1 : zD KL_member 1 (.iconst 0) 1 2 := ⟨dL_member_1, rfl⟩
theorem dL_member_2 : decode cL_member 2 = .ok (.aload_n 0, 1) := by decide +kernel
theorem eL_member_2 : zD KL_member 2 (.aload_n 0) 1 3 := ⟨dL_member_2, rfl⟩
theorem dL_member_3 : decode cL_member 3 = .ok (.iload_n 1, 1) := by decide +kernel
theorem eL_member_3 : zD KL_member 3 (.iload_n 1) 1 4 := ⟨dL_member_3, rfl⟩
theorem dL_member_4 : decode cL_member 4 = .ok (.iload_n 2, 1) := by decide +kernel
theorem eL_member_4 : zD KL_member 4 (.iload_n 2) 1 5 := ⟨dL_member_4, rfl⟩
theorem dL_member_5 : decode cL_member 5 = .ok (.invokevirtual 20, 3) := by decide +kernel
theorem eL_member_5 : zD KL_member 5 (.invokevirtual 20) 3 8 := ⟨dL_member_5, rfl⟩
theorem dL_member_8 : decode cL_member 8 = .ok (.i2l, 1) := by decide +kernel
theorem eL_member_8 : zD KL_member 8 (.i2l) 1 9 := ⟨dL_member_8, rfl⟩
theorem dL_member_9 : decode cL_member 9 = .ok (.lastore, 1) := by decide +kernel
theorem eL_member_9 : zD KL_member 9 (.lastore) 1 10 := ⟨dL_member_9, rfl⟩
theorem dL_member_10 : decode cL_member 10 = .ok (.goto 11, 3) := by decide +kernel
theorem eL_member_10 : zD KL_member 10 (.goto 11) 3 13 := ⟨dL_member_10, rfl⟩
theorem dL_member_13 : decode cL_member 13 = .ok (.astore 4, 2) := by decide +kernel
theorem eL_member_13 : zD KL_member 13 (.astore 4) 2 15 := ⟨dL_member_13, rfl⟩
theorem dL_member_15 : decode cL_member 15 = .ok (.iconst 1, 1) := by decide +kernel
theorem eL_member_15 : zD KL_member 15 (.iconst 1) 1 16 := ⟨dL_member_15, rfl⟩
theorem dL_member_16 : decode cL_member 16 = .ok (.ireturn, 1) := by decide +kernel
theorem eL_member_16 : zD KL_member 16 (.ireturn) 1 17 := ⟨dL_member_16, rfl⟩
theorem dL_member_17 : decode cL_member 17 = .ok (.astore 4, 2) := by decide +kernel
theorem eL_member_17 : zD KL_member 17 (.astore 4) 2 19 := ⟨dL_member_17, rfl⟩
theorem dL_member_19 : decode cL_member 19 = .ok (.iconst 2, 1) := by decide +kernel
theorem eL_member_19 : zD KL_member 19 (.iconst 2) 1 20 := ⟨dL_member_19, rfl⟩
theorem dL_member_20 : decode cL_member 20 = .ok (.ireturn, 1) := by decide +kernel
theorem eL_member_20 : zD KL_member 20 (.ireturn) 1 21 := ⟨dL_member_20, rfl⟩
theorem dL_member_21 : decode cL_member 21 = .ok (.iconst 0, 1) := by decide +kernel
theorem eL_member_21 : zD KL_member 21 (.iconst 0) 1 22 := ⟨dL_member_21, rfl⟩
theorem dL_member_22 : decode cL_member 22 = .ok (.ireturn, 1) := by decide +kernel
theorem eL_member_22 : zD KL_member 22 (.ireturn) 1 23 := ⟨dL_member_22, rfl⟩
theorem dL_motion_0 : decode cL_motion 0 = .ok (.aload_n 3, 1) := by decide +kernel
theorem eL_motion_0 : zD KL_motion 0 (.aload_n 3) 1 1 := ⟨dL_motion_0, rfl⟩
theorem dL_motion_1 : decode cL_motion 1 = .ok (.iconst 0, 1) := by decide +kernel
theorem eL_motion_1 : zD KL_motion 1 (.iconst 0) 1 2 := ⟨dL_motion_1, rfl⟩
theorem dL_motion_2 : decode cL_motion 2 = .ok (.aload_n 0, 1) := by decide +kernel
theorem eL_motion_2 : zD KL_motion 2 (.aload_n 0) 1 3 := ⟨dL_motion_2, rfl⟩
theorem dL_motion_3 : decode cL_motion 3 = .ok (.iload_n 1, 1) := by decide +kernel
theorem eL_motion_3 : zD KL_motion 3 (.iload_n 1) 1 4 := ⟨dL_motion_3, rfl⟩
theorem dL_motion_4 : decode cL_motion 4 = .ok (.iload_n 2, 1) := by decide +kernel
theorem eL_motion_4 : zD KL_motion 4 (.iload_n 2) 1 5 := ⟨dL_motion_4, rfl⟩
theorem dL_motion_5 : decode cL_motion 5 = .ok (.invokevirtual 28, 3) := by decide +kernel
theorem eL_motion_5 : zD KL_motion 5 (.invokevirtual 28) 3 8 := ⟨dL_motion_5, rfl⟩
theorem dL_motion_8 : decode cL_motion 8 = .ok (.i2l, 1) := by decide +kernel
theorem eL_motion_8 : zD KL_motion 8 (.i2l) 1 9 := ⟨dL_motion_8, rfl⟩
theorem dL_motion_9 : decode cL_motion 9 = .ok (.lastore, 1) := by decide +kernel
theorem eL_motion_9 : zD KL_motion 9 (.lastore) 1 10 := ⟨dL_motion_9, rfl⟩
theorem dL_motion_10 : decode cL_motion 10 = .ok (.goto 11, 3) := by decide +kernel
theorem eL_motion_10 : zD KL_motion 10 (.goto 11) 3 13 := ⟨dL_motion_10, rfl⟩
theorem dL_motion_13 : decode cL_motion 13 = .ok (.astore 4, 2) := by decide +kernel
theorem eL_motion_13 : zD KL_motion 13 (.astore 4) 2 15 := ⟨dL_motion_13, rfl⟩
theorem dL_motion_15 : decode cL_motion 15 = .ok (.iconst 1, 1) := by decide +kernel
theorem eL_motion_15 : zD KL_motion 15 (.iconst 1) 1 16 := ⟨dL_motion_15, rfl⟩
theorem dL_motion_16 : decode cL_motion 16 = .ok (.ireturn, 1) := by decide +kernel
theorem eL_motion_16 : zD KL_motion 16 (.ireturn) 1 17 := ⟨dL_motion_16, rfl⟩
theorem dL_motion_17 : decode cL_motion 17 = .ok (.astore 4, 2) := by decide +kernel
theorem eL_motion_17 : zD KL_motion 17 (.astore 4) 2 19 := ⟨dL_motion_17, rfl⟩
theorem dL_motion_19 : decode cL_motion 19 = .ok (.iconst 2, 1) := by decide +kernel
theorem eL_motion_19 : zD KL_motion 19 (.iconst 2) 1 20 := ⟨dL_motion_19, rfl⟩
theorem dL_motion_20 : decode cL_motion 20 = .ok (.ireturn, 1) := by decide +kernel
theorem eL_motion_20 : zD KL_motion 20 (.ireturn) 1 21 := ⟨dL_motion_20, rfl⟩
theorem dL_motion_21 : decode cL_motion 21 = .ok (.iconst 0, 1) := by decide +kernel
theorem eL_motion_21 : zD KL_motion 21 (.iconst 0) 1 22 := ⟨dL_motion_21, rfl⟩
theorem dL_motion_22 : decode cL_motion 22 = .ok (.ireturn, 1) := by decide +kernel
theorem eL_motion_22 : zD KL_motion 22 (.ireturn) 1 23 := ⟨dL_motion_22, rfl⟩
theorem dL_follows_0 : decode cL_follows 0 = .ok (.aload_n 3, 1) := by decide +kernel
theorem eL_follows_0 : zD KL_follows 0 (.aload_n 3) 1 1 := ⟨dL_follows_0, rfl⟩
theorem dL_follows_1 : decode cL_follows 1 = .ok (.iconst 0, 1) := by decide +kernel
theorem eL_follows_1 : zD KL_follows 1 (.iconst 0) 1 2 := ⟨dL_follows_1, rfl⟩
theorem dL_follows_2 : decode cL_follows 2 = .ok (.aload_n 0, 1) := by decide +kernel
theorem eL_follows_2 : zD KL_follows 2 (.aload_n 0) 1 3 := ⟨dL_follows_2, rfl⟩
theorem dL_follows_3 : decode cL_follows 3 = .ok (.iload_n 1, 1) := by decide +kernel
theorem eL_follows_3 : zD KL_follows 3 (.iload_n 1) 1 4 := ⟨dL_follows_3, rfl⟩
theorem dL_follows_4 : decode cL_follows 4 = .ok (.iload_n 2, 1) := by decide +kernel
theorem eL_follows_4 : zD KL_follows 4 (.iload_n 2) 1 5 := ⟨dL_follows_4, rfl⟩
theorem dL_follows_5 : decode cL_follows 5 = .ok (.invokevirtual 31, 3) := by decide +kernel
theorem eL_follows_5 : zD KL_follows 5 (.invokevirtual 31) 3 8 := ⟨dL_follows_5, rfl⟩
theorem dL_follows_8 : decode cL_follows 8 = .ok (.i2l, 1) := by decide +kernel
theorem eL_follows_8 : zD KL_follows 8 (.i2l) 1 9 := ⟨dL_follows_8, rfl⟩
theorem dL_follows_9 : decode cL_follows 9 = .ok (.lastore, 1) := by decide +kernel
theorem eL_follows_9 : zD KL_follows 9 (.lastore) 1 10 := ⟨dL_follows_9, rfl⟩
theorem dL_follows_10 : decode cL_follows 10 = .ok (.goto 7, 3) := by decide +kernel
theorem eL_follows_10 : zD KL_follows 10 (.goto 7) 3 13 := ⟨dL_follows_10, rfl⟩
theorem dL_follows_13 : decode cL_follows 13 = .ok (.astore 4, 2) := by decide +kernel
theorem eL_follows_13 : zD KL_follows 13 (.astore 4) 2 15 := ⟨dL_follows_13, rfl⟩
theorem dL_follows_15 : decode cL_follows 15 = .ok (.iconst 1, 1) := by decide +kernel
theorem eL_follows_15 : zD KL_follows 15 (.iconst 1) 1 16 := ⟨dL_follows_15, rfl⟩
theorem dL_follows_16 : decode cL_follows 16 = .ok (.ireturn, 1) := by decide +kernel
theorem eL_follows_16 : zD KL_follows 16 (.ireturn) 1 17 := ⟨dL_follows_16, rfl⟩
theorem dL_follows_17 : decode cL_follows 17 = .ok (.iconst 0, 1) := by decide +kernel
theorem eL_follows_17 : zD KL_follows 17 (.iconst 0) 1 18 := ⟨dL_follows_17, rfl⟩
theorem dL_follows_18 : decode cL_follows 18 = .ok (.ireturn, 1) := by decide +kernel
theorem eL_follows_18 : zD KL_follows 18 (.ireturn) 1 19 := ⟨dL_follows_18, rfl⟩
theorem dL_exposed_0 : decode cL_exposed 0 = .ok (.aload_n 2, 1) := by decide +kernel
theorem eL_exposed_0 : zD KL_exposed 0 (.aload_n 2) 1 1 := ⟨dL_exposed_0, rfl⟩
theorem dL_exposed_1 : decode cL_exposed 1 = .ok (.iconst 0, 1) := by decide +kernel
theorem eL_exposed_1 : zD KL_exposed 1 (.iconst 0) 1 2 := ⟨dL_exposed_1, rfl⟩
theorem dL_exposed_2 : decode cL_exposed 2 = .ok (.aload_n 0, 1) := by decide +kernel
theorem eL_exposed_2 : zD KL_exposed 2 (.aload_n 0) 1 3 := ⟨dL_exposed_2, rfl⟩
theorem dL_exposed_3 : decode cL_exposed 3 = .ok (.iload_n 1, 1) := by decide +kernel
theorem eL_exposed_3 : zD KL_exposed 3 (.iload_n 1) 1 4 := ⟨dL_exposed_3, rfl⟩
theorem dL_exposed_4 : decode cL_exposed 4 = .ok (.invokevirtual 34, 3) := by decide +kernel
theorem eL_exposed_4 : zD KL_exposed 4 (.invokevirtual 34) 3 7 := ⟨dL_exposed_4, rfl⟩
theorem dL_exposed_7 : decode cL_exposed 7 = .ok (.i2l, 1) := by decide +kernel
theorem eL_exposed_7 : zD KL_exposed 7 (.i2l) 1 8 := ⟨dL_exposed_7, rfl⟩
theorem dL_exposed_8 : decode cL_exposed 8 = .ok (.lastore, 1) := by decide +kernel
theorem eL_exposed_8 : zD KL_exposed 8 (.lastore) 1 9 := ⟨dL_exposed_8, rfl⟩
theorem dL_exposed_9 : decode cL_exposed 9 = .ok (.goto 6, 3) := by decide +kernel
theorem eL_exposed_9 : zD KL_exposed 9 (.goto 6) 3 12 := ⟨dL_exposed_9, rfl⟩
theorem dL_exposed_12 : decode cL_exposed 12 = .ok (.astore_n 3, 1) := by decide +kernel
theorem eL_exposed_12 : zD KL_exposed 12 (.astore_n 3) 1 13 := ⟨dL_exposed_12, rfl⟩
theorem dL_exposed_13 : decode cL_exposed 13 = .ok (.iconst 1, 1) := by decide +kernel
theorem eL_exposed_13 : zD KL_exposed 13 (.iconst 1) 1 14 := ⟨dL_exposed_13, rfl⟩
theorem dL_exposed_14 : decode cL_exposed 14 = .ok (.ireturn, 1) := by decide +kernel
theorem eL_exposed_14 : zD KL_exposed 14 (.ireturn) 1 15 := ⟨dL_exposed_14, rfl⟩
theorem dL_exposed_15 : decode cL_exposed 15 = .ok (.iconst 0, 1) := by decide +kernel
theorem eL_exposed_15 : zD KL_exposed 15 (.iconst 0) 1 16 := ⟨dL_exposed_15, rfl⟩
theorem dL_exposed_16 : decode cL_exposed 16 = .ok (.ireturn, 1) := by decide +kernel
theorem eL_exposed_16 : zD KL_exposed 16 (.ireturn) 1 17 := ⟨dL_exposed_16, rfl⟩
theorem dL_paper_0 : decode cL_paper 0 = .ok (.aload_n 2, 1) := by decide +kernel
theorem eL_paper_0 : zD KL_paper 0 (.aload_n 2) 1 1 := ⟨dL_paper_0, rfl⟩
theorem dL_paper_1 : decode cL_paper 1 = .ok (.iconst 0, 1) := by decide +kernel
theorem eL_paper_1 : zD KL_paper 1 (.iconst 0) 1 2 := ⟨dL_paper_1, rfl⟩
theorem dL_paper_2 : decode cL_paper 2 = .ok (.aload_n 0, 1) := by decide +kernel
theorem eL_paper_2 : zD KL_paper 2 (.aload_n 0) 1 3 := ⟨dL_paper_2, rfl⟩
theorem dL_paper_3 : decode cL_paper 3 = .ok (.iload_n 1, 1) := by decide +kernel
theorem eL_paper_3 : zD KL_paper 3 (.iload_n 1) 1 4 := ⟨dL_paper_3, rfl⟩
theorem dL_paper_4 : decode cL_paper 4 = .ok (.invokevirtual 38, 3) := by decide +kernel
theorem eL_paper_4 : zD KL_paper 4 (.invokevirtual 38) 3 7 := ⟨dL_paper_4, rfl⟩
theorem dL_paper_7 : decode cL_paper 7 = .ok (.i2l, 1) := by decide +kernel
theorem eL_paper_7 : zD KL_paper 7 (.i2l) 1 8 := ⟨dL_paper_7, rfl⟩
theorem dL_paper_8 : decode cL_paper 8 = .ok (.lastore, 1) := by decide +kernel
theorem eL_paper_8 : zD KL_paper 8 (.lastore) 1 9 := ⟨dL_paper_8, rfl⟩
theorem dL_paper_9 : decode cL_paper 9 = .ok (.goto 6, 3) := by decide +kernel
theorem eL_paper_9 : zD KL_paper 9 (.goto 6) 3 12 := ⟨dL_paper_9, rfl⟩
theorem dL_paper_12 : decode cL_paper 12 = .ok (.astore_n 3, 1) := by decide +kernel
theorem eL_paper_12 : zD KL_paper 12 (.astore_n 3) 1 13 := ⟨dL_paper_12, rfl⟩
theorem dL_paper_13 : decode cL_paper 13 = .ok (.iconst 1, 1) := by decide +kernel
theorem eL_paper_13 : zD KL_paper 13 (.iconst 1) 1 14 := ⟨dL_paper_13, rfl⟩
theorem dL_paper_14 : decode cL_paper 14 = .ok (.ireturn, 1) := by decide +kernel
theorem eL_paper_14 : zD KL_paper 14 (.ireturn) 1 15 := ⟨dL_paper_14, rfl⟩
theorem dL_paper_15 : decode cL_paper 15 = .ok (.iconst 0, 1) := by decide +kernel
theorem eL_paper_15 : zD KL_paper 15 (.iconst 0) 1 16 := ⟨dL_paper_15, rfl⟩
theorem dL_paper_16 : decode cL_paper 16 = .ok (.ireturn, 1) := by decide +kernel
theorem eL_paper_16 : zD KL_paper 16 (.ireturn) 1 17 := ⟨dL_paper_16, rfl⟩
theorem dL_felt_0 : decode cL_felt 0 = .ok (.aload 4, 2) := by decide +kernel
theorem eL_felt_0 : zD KL_felt 0 (.aload 4) 2 2 := ⟨dL_felt_0, rfl⟩
theorem dL_felt_2 : decode cL_felt 2 = .ok (.iconst 0, 1) := by decide +kernel
theorem eL_felt_2 : zD KL_felt 2 (.iconst 0) 1 3 := ⟨dL_felt_2, rfl⟩
theorem dL_felt_3 : decode cL_felt 3 = .ok (.aload_n 0, 1) := by decide +kernel
theorem eL_felt_3 : zD KL_felt 3 (.aload_n 0) 1 4 := ⟨dL_felt_3, rfl⟩
theorem dL_felt_4 : decode cL_felt 4 = .ok (.iload_n 1, 1) := by decide +kernel
theorem eL_felt_4 : zD KL_felt 4 (.iload_n 1) 1 5 := ⟨dL_felt_4, rfl⟩
theorem dL_felt_5 : decode cL_felt 5 = .ok (.iload_n 2, 1) := by decide +kernel
theorem eL_felt_5 : zD KL_felt 5 (.iload_n 2) 1 6 := ⟨dL_felt_5, rfl⟩
theorem dL_felt_6 : decode cL_felt 6 = .ok (.iload_n 3, 1) := by decide +kernel
theorem eL_felt_6 : zD KL_felt 6 (.iload_n 3) 1 7 := ⟨dL_felt_6, rfl⟩
theorem dL_felt_7 : decode cL_felt 7 = .ok (.invokevirtual 41, 3) := by decide +kernel
theorem eL_felt_7 : zD KL_felt 7 (.invokevirtual 41) 3 10 := ⟨dL_felt_7, rfl⟩
theorem dL_felt_10 : decode cL_felt 10 = .ok (.i2l, 1) := by decide +kernel
theorem eL_felt_10 : zD KL_felt 10 (.i2l) 1 11 := ⟨dL_felt_10, rfl⟩
theorem dL_felt_11 : decode cL_felt 11 = .ok (.lastore, 1) := by decide +kernel
theorem eL_felt_11 : zD KL_felt 11 (.lastore) 1 12 := ⟨dL_felt_11, rfl⟩
theorem dL_felt_12 : decode cL_felt 12 = .ok (.goto 7, 3) := by decide +kernel
theorem eL_felt_12 : zD KL_felt 12 (.goto 7) 3 15 := ⟨dL_felt_12, rfl⟩
theorem dL_felt_15 : decode cL_felt 15 = .ok (.astore 5, 2) := by decide +kernel
theorem eL_felt_15 : zD KL_felt 15 (.astore 5) 2 17 := ⟨dL_felt_15, rfl⟩
theorem dL_felt_17 : decode cL_felt 17 = .ok (.iconst 1, 1) := by decide +kernel
theorem eL_felt_17 : zD KL_felt 17 (.iconst 1) 1 18 := ⟨dL_felt_17, rfl⟩
theorem dL_felt_18 : decode cL_felt 18 = .ok (.ireturn, 1) := by decide +kernel
theorem eL_felt_18 : zD KL_felt 18 (.ireturn) 1 19 := ⟨dL_felt_18, rfl⟩
theorem dL_felt_19 : decode cL_felt 19 = .ok (.iconst 0, 1) := by decide +kernel
theorem eL_felt_19 : zD KL_felt 19 (.iconst 0) 1 20 := ⟨dL_felt_19, rfl⟩
theorem dL_felt_20 : decode cL_felt 20 = .ok (.ireturn, 1) := by decide +kernel
theorem eL_felt_20 : zD KL_felt 20 (.ireturn) 1 21 := ⟨dL_felt_20, rfl⟩
theorem dL_goes_0 : decode cL_goes 0 = .ok (.aload 4, 2) := by decide +kernel
theorem eL_goes_0 : zD KL_goes 0 (.aload 4) 2 2 := ⟨dL_goes_0, rfl⟩
theorem dL_goes_2 : decode cL_goes 2 = .ok (.iconst 0, 1) := by decide +kernel
theorem eL_goes_2 : zD KL_goes 2 (.iconst 0) 1 3 := ⟨dL_goes_2, rfl⟩
theorem dL_goes_3 : decode cL_goes 3 = .ok (.aload_n 0, 1) := by decide +kernel
theorem eL_goes_3 : zD KL_goes 3 (.aload_n 0) 1 4 := ⟨dL_goes_3, rfl⟩
theorem dL_goes_4 : decode cL_goes 4 = .ok (.iload_n 1, 1) := by decide +kernel
theorem eL_goes_4 : zD KL_goes 4 (.iload_n 1) 1 5 := ⟨dL_goes_4, rfl⟩
theorem dL_goes_5 : decode cL_goes 5 = .ok (.iload_n 2, 1) := by decide +kernel
theorem eL_goes_5 : zD KL_goes 5 (.iload_n 2) 1 6 := ⟨dL_goes_5, rfl⟩
theorem dL_goes_6 : decode cL_goes 6 = .ok (.iload_n 3, 1) := by decide +kernel
theorem eL_goes_6 : zD KL_goes 6 (.iload_n 3) 1 7 := ⟨dL_goes_6, rfl⟩
theorem dL_goes_7 : decode cL_goes 7 = .ok (.invokevirtual 45, 3) := by decide +kernel
theorem eL_goes_7 : zD KL_goes 7 (.invokevirtual 45) 3 10 := ⟨dL_goes_7, rfl⟩
theorem dL_goes_10 : decode cL_goes 10 = .ok (.i2l, 1) := by decide +kernel
theorem eL_goes_10 : zD KL_goes 10 (.i2l) 1 11 := ⟨dL_goes_10, rfl⟩
theorem dL_goes_11 : decode cL_goes 11 = .ok (.lastore, 1) := by decide +kernel
theorem eL_goes_11 : zD KL_goes 11 (.lastore) 1 12 := ⟨dL_goes_11, rfl⟩
theorem dL_goes_12 : decode cL_goes 12 = .ok (.goto 7, 3) := by decide +kernel
theorem eL_goes_12 : zD KL_goes 12 (.goto 7) 3 15 := ⟨dL_goes_12, rfl⟩
theorem dL_goes_15 : decode cL_goes 15 = .ok (.astore 5, 2) := by decide +kernel
theorem eL_goes_15 : zD KL_goes 15 (.astore 5) 2 17 := ⟨dL_goes_15, rfl⟩
theorem dL_goes_17 : decode cL_goes 17 = .ok (.iconst 1, 1) := by decide +kernel
theorem eL_goes_17 : zD KL_goes 17 (.iconst 1) 1 18 := ⟨dL_goes_17, rfl⟩
theorem dL_goes_18 : decode cL_goes 18 = .ok (.ireturn, 1) := by decide +kernel
theorem eL_goes_18 : zD KL_goes 18 (.ireturn) 1 19 := ⟨dL_goes_18, rfl⟩
theorem dL_goes_19 : decode cL_goes 19 = .ok (.iconst 0, 1) := by decide +kernel
theorem eL_goes_19 : zD KL_goes 19 (.iconst 0) 1 20 := ⟨dL_goes_19, rfl⟩
theorem dL_goes_20 : decode cL_goes 20 = .ok (.ireturn, 1) := by decide +kernel
theorem eL_goes_20 : zD KL_goes 20 (.ireturn) 1 21 := ⟨dL_goes_20, rfl⟩
theorem dL_hours_0 : decode cL_hours 0 = .ok (.aload_n 2, 1) := by decide +kernel
theorem eL_hours_0 : zD KL_hours 0 (.aload_n 2) 1 1 := ⟨dL_hours_0, rfl⟩
theorem dL_hours_1 : decode cL_hours 1 = .ok (.iconst 0, 1) := by decide +kernel
theorem eL_hours_1 : zD KL_hours 1 (.iconst 0) 1 2 := ⟨dL_hours_1, rfl⟩
theorem dL_hours_2 : decode cL_hours 2 = .ok (.aload_n 0, 1) := by decide +kernel
theorem eL_hours_2 : zD KL_hours 2 (.aload_n 0) 1 3 := ⟨dL_hours_2, rfl⟩
theorem dL_hours_3 : decode cL_hours 3 = .ok (.iload_n 1, 1) := by decide +kernel
theorem eL_hours_3 : zD KL_hours 3 (.iload_n 1) 1 4 := ⟨dL_hours_3, rfl⟩
theorem dL_hours_4 : decode cL_hours 4 = .ok (.invokevirtual 48, 3) := by decide +kernel
theorem eL_hours_4 : zD KL_hours 4 (.invokevirtual 48) 3 7 := ⟨dL_hours_4, rfl⟩
theorem dL_hours_7 : decode cL_hours 7 = .ok (.i2l, 1) := by decide +kernel
theorem eL_hours_7 : zD KL_hours 7 (.i2l) 1 8 := ⟨dL_hours_7, rfl⟩
theorem dL_hours_8 : decode cL_hours 8 = .ok (.lastore, 1) := by decide +kernel
theorem eL_hours_8 : zD KL_hours 8 (.lastore) 1 9 := ⟨dL_hours_8, rfl⟩
theorem dL_hours_9 : decode cL_hours 9 = .ok (.goto 6, 3) := by decide +kernel
theorem eL_hours_9 : zD KL_hours 9 (.goto 6) 3 12 := ⟨dL_hours_9, rfl⟩
theorem dL_hours_12 : decode cL_hours 12 = .ok (.astore_n 3, 1) := by decide +kernel
theorem eL_hours_12 : zD KL_hours 12 (.astore_n 3) 1 13 := ⟨dL_hours_12, rfl⟩
theorem dL_hours_13 : decode cL_hours 13 = .ok (.iconst 1, 1) := by decide +kernel
theorem eL_hours_13 : zD KL_hours 13 (.iconst 1) 1 14 := ⟨dL_hours_13, rfl⟩
theorem dL_hours_14 : decode cL_hours 14 = .ok (.ireturn, 1) := by decide +kernel
theorem eL_hours_14 : zD KL_hours 14 (.ireturn) 1 15 := ⟨dL_hours_14, rfl⟩
theorem dL_hours_15 : decode cL_hours 15 = .ok (.iconst 0, 1) := by decide +kernel
theorem eL_hours_15 : zD KL_hours 15 (.iconst 0) 1 16 := ⟨dL_hours_15, rfl⟩
theorem dL_hours_16 : decode cL_hours 16 = .ok (.ireturn, 1) := by decide +kernel
theorem eL_hours_16 : zD KL_hours 16 (.ireturn) 1 17 := ⟨dL_hours_16, rfl⟩
theorem dL_table_0 : decode cL_table 0 = .ok (.aload_n 3, 1) := by decide +kernel
theorem eL_table_0 : zD KL_table 0 (.aload_n 3) 1 1 := ⟨dL_table_0, rfl⟩
theorem dL_table_1 : decode cL_table 1 = .ok (.iconst 0, 1) := by decide +kernel
theorem eL_table_1 : zD KL_table 1 (.iconst 0) 1 2 := ⟨dL_table_1, rfl⟩
theorem dL_table_2 : decode cL_table 2 = .ok (.aload_n 0, 1) := by decide +kernel
theorem eL_table_2 : zD KL_table 2 (.aload_n 0) 1 3 := ⟨dL_table_2, rfl⟩
theorem dL_table_3 : decode cL_table 3 = .ok (.iload_n 1, 1) := by decide +kernel
theorem eL_table_3 : zD KL_table 3 (.iload_n 1) 1 4 := ⟨dL_table_3, rfl⟩
theorem dL_table_4 : decode cL_table 4 = .ok (.iload_n 2, 1) := by decide +kernel
theorem eL_table_4 : zD KL_table 4 (.iload_n 2) 1 5 := ⟨dL_table_4, rfl⟩
theorem dL_table_5 : decode cL_table 5 = .ok (.invokevirtual 51, 3) := by decide +kernel
theorem eL_table_5 : zD KL_table 5 (.invokevirtual 51) 3 8 := ⟨dL_table_5, rfl⟩
theorem dL_table_8 : decode cL_table 8 = .ok (.i2l, 1) := by decide +kernel
theorem eL_table_8 : zD KL_table 8 (.i2l) 1 9 := ⟨dL_table_8, rfl⟩
theorem dL_table_9 : decode cL_table 9 = .ok (.lastore, 1) := by decide +kernel
theorem eL_table_9 : zD KL_table 9 (.lastore) 1 10 := ⟨dL_table_9, rfl⟩
theorem dL_table_10 : decode cL_table 10 = .ok (.goto 11, 3) := by decide +kernel
theorem eL_table_10 : zD KL_table 10 (.goto 11) 3 13 := ⟨dL_table_10, rfl⟩
theorem dL_table_13 : decode cL_table 13 = .ok (.astore 4, 2) := by decide +kernel
theorem eL_table_13 : zD KL_table 13 (.astore 4) 2 15 := ⟨dL_table_13, rfl⟩
theorem dL_table_15 : decode cL_table 15 = .ok (.iconst 1, 1) := by decide +kernel
theorem eL_table_15 : zD KL_table 15 (.iconst 1) 1 16 := ⟨dL_table_15, rfl⟩
theorem dL_table_16 : decode cL_table 16 = .ok (.ireturn, 1) := by decide +kernel
theorem eL_table_16 : zD KL_table 16 (.ireturn) 1 17 := ⟨dL_table_16, rfl⟩
theorem dL_table_17 : decode cL_table 17 = .ok (.astore 4, 2) := by decide +kernel
theorem eL_table_17 : zD KL_table 17 (.astore 4) 2 19 := ⟨dL_table_17, rfl⟩
theorem dL_table_19 : decode cL_table 19 = .ok (.iconst 2, 1) := by decide +kernel
theorem eL_table_19 : zD KL_table 19 (.iconst 2) 1 20 := ⟨dL_table_19, rfl⟩
theorem dL_table_20 : decode cL_table 20 = .ok (.ireturn, 1) := by decide +kernel
theorem eL_table_20 : zD KL_table 20 (.ireturn) 1 21 := ⟨dL_table_20, rfl⟩
theorem dL_table_21 : decode cL_table 21 = .ok (.iconst 0, 1) := by decide +kernel
theorem eL_table_21 : zD KL_table 21 (.iconst 0) 1 22 := ⟨dL_table_21, rfl⟩
theorem dL_table_22 : decode cL_table 22 = .ok (.ireturn, 1) := by decide +kernel
theorem eL_table_22 : zD KL_table 22 (.ireturn) 1 23 := ⟨dL_table_22, rfl⟩
theorem dL_clear_0 : decode cL_clear 0 = .ok (.aload_n 2, 1) := by decide +kernel
theorem eL_clear_0 : zD KL_clear 0 (.aload_n 2) 1 1 := ⟨dL_clear_0, rfl⟩
theorem dL_clear_1 : decode cL_clear 1 = .ok (.iconst 0, 1) := by decide +kernel
theorem eL_clear_1 : zD KL_clear 1 (.iconst 0) 1 2 := ⟨dL_clear_1, rfl⟩
theorem dL_clear_2 : decode cL_clear 2 = .ok (.aload_n 0, 1) := by decide +kernel
theorem eL_clear_2 : zD KL_clear 2 (.aload_n 0) 1 3 := ⟨dL_clear_2, rfl⟩
theorem dL_clear_3 : decode cL_clear 3 = .ok (.iload_n 1, 1) := by decide +kernel
theorem eL_clear_3 : zD KL_clear 3 (.iload_n 1) 1 4 := ⟨dL_clear_3, rfl⟩
theorem dL_clear_4 : decode cL_clear 4 = .ok (.invokevirtual 56, 3) := by decide +kernel
theorem eL_clear_4 : zD KL_clear 4 (.invokevirtual 56) 3 7 := ⟨dL_clear_4, rfl⟩
theorem dL_clear_7 : decode cL_clear 7 = .ok (.i2l, 1) := by decide +kernel
theorem eL_clear_7 : zD KL_clear 7 (.i2l) 1 8 := ⟨dL_clear_7, rfl⟩
theorem dL_clear_8 : decode cL_clear 8 = .ok (.lastore, 1) := by decide +kernel
theorem eL_clear_8 : zD KL_clear 8 (.lastore) 1 9 := ⟨dL_clear_8, rfl⟩
theorem dL_clear_9 : decode cL_clear 9 = .ok (.goto 9, 3) := by decide +kernel
theorem eL_clear_9 : zD KL_clear 9 (.goto 9) 3 12 := ⟨dL_clear_9, rfl⟩
theorem dL_clear_12 : decode cL_clear 12 = .ok (.astore_n 3, 1) := by decide +kernel
theorem eL_clear_12 : zD KL_clear 12 (.astore_n 3) 1 13 := ⟨dL_clear_12, rfl⟩
theorem dL_clear_13 : decode cL_clear 13 = .ok (.iconst 1, 1) := by decide +kernel
theorem eL_clear_13 : zD KL_clear 13 (.iconst 1) 1 14 := ⟨dL_clear_13, rfl⟩
theorem dL_clear_14 : decode cL_clear 14 = .ok (.ireturn, 1) := by decide +kernel
theorem eL_clear_14 : zD KL_clear 14 (.ireturn) 1 15 := ⟨dL_clear_14, rfl⟩
theorem dL_clear_15 : decode cL_clear 15 = .ok (.astore_n 3, 1) := by decide +kernel
theorem eL_clear_15 : zD KL_clear 15 (.astore_n 3) 1 16 := ⟨dL_clear_15, rfl⟩
theorem dL_clear_16 : decode cL_clear 16 = .ok (.iconst 2, 1) := by decide +kernel
theorem eL_clear_16 : zD KL_clear 16 (.iconst 2) 1 17 := ⟨dL_clear_16, rfl⟩
theorem dL_clear_17 : decode cL_clear 17 = .ok (.ireturn, 1) := by decide +kernel
theorem eL_clear_17 : zD KL_clear 17 (.ireturn) 1 18 := ⟨dL_clear_17, rfl⟩
theorem dL_clear_18 : decode cL_clear 18 = .ok (.iconst 0, 1) := by decide +kernel
theorem eL_clear_18 : zD KL_clear 18 (.iconst 0) 1 19 := ⟨dL_clear_18, rfl⟩
theorem dL_clear_19 : decode cL_clear 19 = .ok (.ireturn, 1) := by decide +kernel
theorem eL_clear_19 : zD KL_clear 19 (.ireturn) 1 20 := ⟨dL_clear_19, rfl⟩
theorem dL_hat_0 : decode cL_hat 0 = .ok (.aload_n 3, 1) := by decide +kernel
theorem eL_hat_0 : zD KL_hat 0 (.aload_n 3) 1 1 := ⟨dL_hat_0, rfl⟩
theorem dL_hat_1 : decode cL_hat 1 = .ok (.iconst 0, 1) := by decide +kernel
theorem eL_hat_1 : zD KL_hat 1 (.iconst 0) 1 2 := ⟨dL_hat_1, rfl⟩
theorem dL_hat_2 : decode cL_hat 2 = .ok (.aload_n 0, 1) := by decide +kernel
theorem eL_hat_2 : zD KL_hat 2 (.aload_n 0) 1 3 := ⟨dL_hat_2, rfl⟩
theorem dL_hat_3 : decode cL_hat 3 = .ok (.iload_n 1, 1) := by decide +kernel
theorem eL_hat_3 : zD KL_hat 3 (.iload_n 1) 1 4 := ⟨dL_hat_3, rfl⟩
theorem dL_hat_4 : decode cL_hat 4 = .ok (.iload_n 2, 1) := by decide +kernel
theorem eL_hat_4 : zD KL_hat 4 (.iload_n 2) 1 5 := ⟨dL_hat_4, rfl⟩
theorem dL_hat_5 : decode cL_hat 5 = .ok (.invokevirtual 59, 3) := by decide +kernel
theorem eL_hat_5 : zD KL_hat 5 (.invokevirtual 59) 3 8 := ⟨dL_hat_5, rfl⟩
theorem dL_hat_8 : decode cL_hat 8 = .ok (.ifCond .eq 7, 3) := by decide +kernel
theorem eL_hat_8 : zD KL_hat 8 (.ifCond .eq 7) 3 11 := ⟨dL_hat_8, rfl⟩
theorem dL_hat_11 : decode cL_hat 11 = .ok (.lconst 1, 1) := by decide +kernel
theorem eL_hat_11 : zD KL_hat 11 (.lconst 1) 1 12 := ⟨dL_hat_11, rfl⟩
theorem dL_hat_12 : decode cL_hat 12 = .ok (.goto 4, 3) := by decide +kernel
theorem eL_hat_12 : zD KL_hat 12 (.goto 4) 3 15 := ⟨dL_hat_12, rfl⟩
theorem dL_hat_15 : decode cL_hat 15 = .ok (.lconst 0, 1) := by decide +kernel
theorem eL_hat_15 : zD KL_hat 15 (.lconst 0) 1 16 := ⟨dL_hat_15, rfl⟩
theorem dL_hat_16 : decode cL_hat 16 = .ok (.lastore, 1) := by decide +kernel
theorem eL_hat_16 : zD KL_hat 16 (.lastore) 1 17 := ⟨dL_hat_16, rfl⟩
theorem dL_hat_17 : decode cL_hat 17 = .ok (.goto 7, 3) := by decide +kernel
theorem eL_hat_17 : zD KL_hat 17 (.goto 7) 3 20 := ⟨dL_hat_17, rfl⟩
theorem dL_hat_20 : decode cL_hat 20 = .ok (.astore 4, 2) := by decide +kernel
theorem eL_hat_20 : zD KL_hat 20 (.astore 4) 2 22 := ⟨dL_hat_20, rfl⟩
theorem dL_hat_22 : decode cL_hat 22 = .ok (.iconst 1, 1) := by decide +kernel
theorem eL_hat_22 : zD KL_hat 22 (.iconst 1) 1 23 := ⟨dL_hat_22, rfl⟩
theorem dL_hat_23 : decode cL_hat 23 = .ok (.ireturn, 1) := by decide +kernel
theorem eL_hat_23 : zD KL_hat 23 (.ireturn) 1 24 := ⟨dL_hat_23, rfl⟩
theorem dL_hat_24 : decode cL_hat 24 = .ok (.iconst 0, 1) := by decide +kernel
theorem eL_hat_24 : zD KL_hat 24 (.iconst 0) 1 25 := ⟨dL_hat_24, rfl⟩
theorem dL_hat_25 : decode cL_hat 25 = .ok (.ireturn, 1) := by decide +kernel
theorem eL_hat_25 : zD KL_hat 25 (.ireturn) 1 26 := ⟨dL_hat_25, rfl⟩
theorem dL_out_0 : decode cL_out 0 = .ok (.aload_n 3, 1) := by decide +kernel
theorem eL_out_0 : zD KL_out 0 (.aload_n 3) 1 1 := ⟨dL_out_0, rfl⟩
theorem dL_out_1 : decode cL_out 1 = .ok (.iconst 0, 1) := by decide +kernel
theorem eL_out_1 : zD KL_out 1 (.iconst 0) 1 2 := ⟨dL_out_1, rfl⟩
theorem dL_out_2 : decode cL_out 2 = .ok (.aload_n 0, 1) := by decide +kernel
theorem eL_out_2 : zD KL_out 2 (.aload_n 0) 1 3 := ⟨dL_out_2, rfl⟩
theorem dL_out_3 : decode cL_out 3 = .ok (.iload_n 1, 1) := by decide +kernel
theorem eL_out_3 : zD KL_out 3 (.iload_n 1) 1 4 := ⟨dL_out_3, rfl⟩
theorem dL_out_4 : decode cL_out 4 = .ok (.iload_n 2, 1) := by decide +kernel
theorem eL_out_4 : zD KL_out 4 (.iload_n 2) 1 5 := ⟨dL_out_4, rfl⟩
theorem dL_out_5 : decode cL_out 5 = .ok (.invokevirtual 63, 3) := by decide +kernel
theorem eL_out_5 : zD KL_out 5 (.invokevirtual 63) 3 8 := ⟨dL_out_5, rfl⟩
theorem dL_out_8 : decode cL_out 8 = .ok (.ifCond .eq 7, 3) := by decide +kernel
theorem eL_out_8 : zD KL_out 8 (.ifCond .eq 7) 3 11 := ⟨dL_out_8, rfl⟩
theorem dL_out_11 : decode cL_out 11 = .ok (.lconst 1, 1) := by decide +kernel
theorem eL_out_11 : zD KL_out 11 (.lconst 1) 1 12 := ⟨dL_out_11, rfl⟩
theorem dL_out_12 : decode cL_out 12 = .ok (.goto 4, 3) := by decide +kernel
theorem eL_out_12 : zD KL_out 12 (.goto 4) 3 15 := ⟨dL_out_12, rfl⟩
theorem dL_out_15 : decode cL_out 15 = .ok (.lconst 0, 1) := by decide +kernel
theorem eL_out_15 : zD KL_out 15 (.lconst 0) 1 16 := ⟨dL_out_15, rfl⟩
theorem dL_out_16 : decode cL_out 16 = .ok (.lastore, 1) := by decide +kernel
theorem eL_out_16 : zD KL_out 16 (.lastore) 1 17 := ⟨dL_out_16, rfl⟩
theorem dL_out_17 : decode cL_out 17 = .ok (.goto 7, 3) := by decide +kernel
theorem eL_out_17 : zD KL_out 17 (.goto 7) 3 20 := ⟨dL_out_17, rfl⟩
theorem dL_out_20 : decode cL_out 20 = .ok (.astore 4, 2) := by decide +kernel
theorem eL_out_20 : zD KL_out 20 (.astore 4) 2 22 := ⟨dL_out_20, rfl⟩
theorem dL_out_22 : decode cL_out 22 = .ok (.iconst 1, 1) := by decide +kernel
theorem eL_out_22 : zD KL_out 22 (.iconst 1) 1 23 := ⟨dL_out_22, rfl⟩
theorem dL_out_23 : decode cL_out 23 = .ok (.ireturn, 1) := by decide +kernel
theorem eL_out_23 : zD KL_out 23 (.ireturn) 1 24 := ⟨dL_out_23, rfl⟩
theorem dL_out_24 : decode cL_out 24 = .ok (.iconst 0, 1) := by decide +kernel
theorem eL_out_24 : zD KL_out 24 (.iconst 0) 1 25 := ⟨dL_out_24, rfl⟩
theorem dL_out_25 : decode cL_out 25 = .ok (.ireturn, 1) := by decide +kernel
theorem eL_out_25 : zD KL_out 25 (.ireturn) 1 26 := ⟨dL_out_25, rfl⟩
theorem dL_walk_0 : decode cL_walk 0 = .ok (.aload_n 3, 1) := by decide +kernel
theorem eL_walk_0 : zD KL_walk 0 (.aload_n 3) 1 1 := ⟨dL_walk_0, rfl⟩
theorem dL_walk_1 : decode cL_walk 1 = .ok (.iconst 0, 1) := by decide +kernel
theorem eL_walk_1 : zD KL_walk 1 (.iconst 0) 1 2 := ⟨dL_walk_1, rfl⟩
theorem dL_walk_2 : decode cL_walk 2 = .ok (.aload_n 0, 1) := by decide +kernel
theorem eL_walk_2 : zD KL_walk 2 (.aload_n 0) 1 3 := ⟨dL_walk_2, rfl⟩
theorem dL_walk_3 : decode cL_walk 3 = .ok (.iload_n 1, 1) := by decide +kernel
theorem eL_walk_3 : zD KL_walk 3 (.iload_n 1) 1 4 := ⟨dL_walk_3, rfl⟩
theorem dL_walk_4 : decode cL_walk 4 = .ok (.iload_n 2, 1) := by decide +kernel
theorem eL_walk_4 : zD KL_walk 4 (.iload_n 2) 1 5 := ⟨dL_walk_4, rfl⟩
theorem dL_walk_5 : decode cL_walk 5 = .ok (.invokevirtual 66, 3) := by decide +kernel
theorem eL_walk_5 : zD KL_walk 5 (.invokevirtual 66) 3 8 := ⟨dL_walk_5, rfl⟩
theorem dL_walk_8 : decode cL_walk 8 = .ok (.i2l, 1) := by decide +kernel
theorem eL_walk_8 : zD KL_walk 8 (.i2l) 1 9 := ⟨dL_walk_8, rfl⟩
theorem dL_walk_9 : decode cL_walk 9 = .ok (.lastore, 1) := by decide +kernel
theorem eL_walk_9 : zD KL_walk 9 (.lastore) 1 10 := ⟨dL_walk_9, rfl⟩
theorem dL_walk_10 : decode cL_walk 10 = .ok (.goto 7, 3) := by decide +kernel
theorem eL_walk_10 : zD KL_walk 10 (.goto 7) 3 13 := ⟨dL_walk_10, rfl⟩
theorem dL_walk_13 : decode cL_walk 13 = .ok (.astore 4, 2) := by decide +kernel
theorem eL_walk_13 : zD KL_walk 13 (.astore 4) 2 15 := ⟨dL_walk_13, rfl⟩
theorem dL_walk_15 : decode cL_walk 15 = .ok (.iconst 1, 1) := by decide +kernel
theorem eL_walk_15 : zD KL_walk 15 (.iconst 1) 1 16 := ⟨dL_walk_15, rfl⟩
theorem dL_walk_16 : decode cL_walk 16 = .ok (.ireturn, 1) := by decide +kernel
theorem eL_walk_16 : zD KL_walk 16 (.ireturn) 1 17 := ⟨dL_walk_16, rfl⟩
theorem dL_walk_17 : decode cL_walk 17 = .ok (.iconst 0, 1) := by decide +kernel
theorem eL_walk_17 : zD KL_walk 17 (.iconst 0) 1 18 := ⟨dL_walk_17, rfl⟩
theorem dL_walk_18 : decode cL_walk 18 = .ok (.ireturn, 1) := by decide +kernel
theorem eL_walk_18 : zD KL_walk 18 (.ireturn) 1 19 := ⟨dL_walk_18, rfl⟩
theorem dL_mind_0 : decode cL_mind 0 = .ok (.aload_n 3, 1) := by decide +kernel
theorem eL_mind_0 : zD KL_mind 0 (.aload_n 3) 1 1 := ⟨dL_mind_0, rfl⟩
theorem dL_mind_1 : decode cL_mind 1 = .ok (.iconst 0, 1) := by decide +kernel
theorem eL_mind_1 : zD KL_mind 1 (.iconst 0) 1 2 := ⟨dL_mind_1, rfl⟩
theorem dL_mind_2 : decode cL_mind 2 = .ok (.aload_n 0, 1) := by decide +kernel
theorem eL_mind_2 : zD KL_mind 2 (.aload_n 0) 1 3 := ⟨dL_mind_2, rfl⟩
theorem dL_mind_3 : decode cL_mind 3 = .ok (.iload_n 1, 1) := by decide +kernel
theorem eL_mind_3 : zD KL_mind 3 (.iload_n 1) 1 4 := ⟨dL_mind_3, rfl⟩
theorem dL_mind_4 : decode cL_mind 4 = .ok (.iload_n 2, 1) := by decide +kernel
theorem eL_mind_4 : zD KL_mind 4 (.iload_n 2) 1 5 := ⟨dL_mind_4, rfl⟩
theorem dL_mind_5 : decode cL_mind 5 = .ok (.invokevirtual 69, 3) := by decide +kernel
theorem eL_mind_5 : zD KL_mind 5 (.invokevirtual 69) 3 8 := ⟨dL_mind_5, rfl⟩
theorem dL_mind_8 : decode cL_mind 8 = .ok (.ifCond .eq 7, 3) := by decide +kernel
theorem eL_mind_8 : zD KL_mind 8 (.ifCond .eq 7) 3 11 := ⟨dL_mind_8, rfl⟩
theorem dL_mind_11 : decode cL_mind 11 = .ok (.lconst 1, 1) := by decide +kernel
theorem eL_mind_11 : zD KL_mind 11 (.lconst 1) 1 12 := ⟨dL_mind_11, rfl⟩
theorem dL_mind_12 : decode cL_mind 12 = .ok (.goto 4, 3) := by decide +kernel
theorem eL_mind_12 : zD KL_mind 12 (.goto 4) 3 15 := ⟨dL_mind_12, rfl⟩
theorem dL_mind_15 : decode cL_mind 15 = .ok (.lconst 0, 1) := by decide +kernel
theorem eL_mind_15 : zD KL_mind 15 (.lconst 0) 1 16 := ⟨dL_mind_15, rfl⟩
theorem dL_mind_16 : decode cL_mind 16 = .ok (.lastore, 1) := by decide +kernel
theorem eL_mind_16 : zD KL_mind 16 (.lastore) 1 17 := ⟨dL_mind_16, rfl⟩
theorem dL_mind_17 : decode cL_mind 17 = .ok (.goto 11, 3) := by decide +kernel
theorem eL_mind_17 : zD KL_mind 17 (.goto 11) 3 20 := ⟨dL_mind_17, rfl⟩
theorem dL_mind_20 : decode cL_mind 20 = .ok (.astore 4, 2) := by decide +kernel
theorem eL_mind_20 : zD KL_mind 20 (.astore 4) 2 22 := ⟨dL_mind_20, rfl⟩
theorem dL_mind_22 : decode cL_mind 22 = .ok (.iconst 1, 1) := by decide +kernel
theorem eL_mind_22 : zD KL_mind 22 (.iconst 1) 1 23 := ⟨dL_mind_22, rfl⟩
theorem dL_mind_23 : decode cL_mind 23 = .ok (.ireturn, 1) := by decide +kernel
theorem eL_mind_23 : zD KL_mind 23 (.ireturn) 1 24 := ⟨dL_mind_23, rfl⟩
theorem dL_mind_24 : decode cL_mind 24 = .ok (.astore 4, 2) := by decide +kernel
theorem eL_mind_24 : zD KL_mind 24 (.astore 4) 2 26 := ⟨dL_mind_24, rfl⟩
theorem dL_mind_26 : decode cL_mind 26 = .ok (.iconst 2, 1) := by decide +kernel
theorem eL_mind_26 : zD KL_mind 26 (.iconst 2) 1 27 := ⟨dL_mind_26, rfl⟩
theorem dL_mind_27 : decode cL_mind 27 = .ok (.ireturn, 1) := by decide +kernel
theorem eL_mind_27 : zD KL_mind 27 (.ireturn) 1 28 := ⟨dL_mind_27, rfl⟩
theorem dL_mind_28 : decode cL_mind 28 = .ok (.iconst 0, 1) := by decide +kernel
theorem eL_mind_28 : zD KL_mind 28 (.iconst 0) 1 29 := ⟨dL_mind_28, rfl⟩
theorem dL_mind_29 : decode cL_mind 29 = .ok (.ireturn, 1) := by decide +kernel
theorem eL_mind_29 : zD KL_mind 29 (.ireturn) 1 30 := ⟨dL_mind_29, rfl⟩
theorem dL_seat_0 : decode cL_seat 0 = .ok (.aload_n 3, 1) := by decide +kernel
theorem eL_seat_0 : zD KL_seat 0 (.aload_n 3) 1 1 := ⟨dL_seat_0, rfl⟩
theorem dL_seat_1 : decode cL_seat 1 = .ok (.iconst 0, 1) := by decide +kernel
theorem eL_seat_1 : zD KL_seat 1 (.iconst 0) 1 2 := ⟨dL_seat_1, rfl⟩
theorem dL_seat_2 : decode cL_seat 2 = .ok (.aload_n 0, 1) := by decide +kernel
theorem eL_seat_2 : zD KL_seat 2 (.aload_n 0) 1 3 := ⟨dL_seat_2, rfl⟩
theorem dL_seat_3 : decode cL_seat 3 = .ok (.iload_n 1, 1) := by decide +kernel
theorem eL_seat_3 : zD KL_seat 3 (.iload_n 1) 1 4 := ⟨dL_seat_3, rfl⟩
theorem dL_seat_4 : decode cL_seat 4 = .ok (.iload_n 2, 1) := by decide +kernel
theorem eL_seat_4 : zD KL_seat 4 (.iload_n 2) 1 5 := ⟨dL_seat_4, rfl⟩
theorem dL_seat_5 : decode cL_seat 5 = .ok (.invokevirtual 73, 3) := by decide +kernel
theorem eL_seat_5 : zD KL_seat 5 (.invokevirtual 73) 3 8 := ⟨dL_seat_5, rfl⟩
theorem dL_seat_8 : decode cL_seat 8 = .ok (.i2l, 1) := by decide +kernel
theorem eL_seat_8 : zD KL_seat 8 (.i2l) 1 9 := ⟨dL_seat_8, rfl⟩
theorem dL_seat_9 : decode cL_seat 9 = .ok (.lastore, 1) := by decide +kernel
theorem eL_seat_9 : zD KL_seat 9 (.lastore) 1 10 := ⟨dL_seat_9, rfl⟩
theorem dL_seat_10 : decode cL_seat 10 = .ok (.goto 11, 3) := by decide +kernel
theorem eL_seat_10 : zD KL_seat 10 (.goto 11) 3 13 := ⟨dL_seat_10, rfl⟩
theorem dL_seat_13 : decode cL_seat 13 = .ok (.astore 4, 2) := by decide +kernel
theorem eL_seat_13 : zD KL_seat 13 (.astore 4) 2 15 := ⟨dL_seat_13, rfl⟩
theorem dL_seat_15 : decode cL_seat 15 = .ok (.iconst 1, 1) := by decide +kernel
theorem eL_seat_15 : zD KL_seat 15 (.iconst 1) 1 16 := ⟨dL_seat_15, rfl⟩
theorem dL_seat_16 : decode cL_seat 16 = .ok (.ireturn, 1) := by decide +kernel
theorem eL_seat_16 : zD KL_seat 16 (.ireturn) 1 17 := ⟨dL_seat_16, rfl⟩
theorem dL_seat_17 : decode cL_seat 17 = .ok (.astore 4, 2) := by decide +kernel
theorem eL_seat_17 : zD KL_seat 17 (.astore 4) 2 19 := ⟨dL_seat_17, rfl⟩
theorem dL_seat_19 : decode cL_seat 19 = .ok (.iconst 2, 1) := by decide +kernel
theorem eL_seat_19 : zD KL_seat 19 (.iconst 2) 1 20 := ⟨dL_seat_19, rfl⟩
theorem dL_seat_20 : decode cL_seat 20 = .ok (.ireturn, 1) := by decide +kernel
theorem eL_seat_20 : zD KL_seat 20 (.ireturn) 1 21 := ⟨dL_seat_20, rfl⟩
theorem dL_seat_21 : decode cL_seat 21 = .ok (.iconst 0, 1) := by decide +kernel
theorem eL_seat_21 : zD KL_seat 21 (.iconst 0) 1 22 := ⟨dL_seat_21, rfl⟩
theorem dL_seat_22 : decode cL_seat 22 = .ok (.ireturn, 1) := by decide +kernel
theorem eL_seat_22 : zD KL_seat 22 (.ireturn) 1 23 := ⟨dL_seat_22, rfl⟩
theorem dL_renew_0 : decode cL_renew 0 = .ok (.aload_n 2, 1) := by decide +kernel
theorem eL_renew_0 : zD KL_renew 0 (.aload_n 2) 1 1 := ⟨dL_renew_0, rfl⟩
theorem dL_renew_1 : decode cL_renew 1 = .ok (.iconst 0, 1) := by decide +kernel
theorem eL_renew_1 : zD KL_renew 1 (.iconst 0) 1 2 := ⟨dL_renew_1, rfl⟩
theorem dL_renew_2 : decode cL_renew 2 = .ok (.aload_n 0, 1) := by decide +kernel
theorem eL_renew_2 : zD KL_renew 2 (.aload_n 0) 1 3 := ⟨dL_renew_2, rfl⟩
theorem dL_renew_3 : decode cL_renew 3 = .ok (.iload_n 1, 1) := by decide +kernel
theorem eL_renew_3 : zD KL_renew 3 (.iload_n 1) 1 4 := ⟨dL_renew_3, rfl⟩
theorem dL_renew_4 : decode cL_renew 4 = .ok (.invokevirtual 76, 3) := by decide +kernel
theorem eL_renew_4 : zD KL_renew 4 (.invokevirtual 76) 3 7 := ⟨dL_renew_4, rfl⟩
theorem dL_renew_7 : decode cL_renew 7 = .ok (.i2l, 1) := by decide +kernel
theorem eL_renew_7 : zD KL_renew 7 (.i2l) 1 8 := ⟨dL_renew_7, rfl⟩
theorem dL_renew_8 : decode cL_renew 8 = .ok (.lastore, 1) := by decide +kernel
theorem eL_renew_8 : zD KL_renew 8 (.lastore) 1 9 := ⟨dL_renew_8, rfl⟩
theorem dL_renew_9 : decode cL_renew 9 = .ok (.goto 9, 3) := by decide +kernel
theorem eL_renew_9 : zD KL_renew 9 (.goto 9) 3 12 := ⟨dL_renew_9, rfl⟩
theorem dL_renew_12 : decode cL_renew 12 = .ok (.astore_n 3, 1) := by decide +kernel
theorem eL_renew_12 : zD KL_renew 12 (.astore_n 3) 1 13 := ⟨dL_renew_12, rfl⟩
theorem dL_renew_13 : decode cL_renew 13 = .ok (.iconst 1, 1) := by decide +kernel
theorem eL_renew_13 : zD KL_renew 13 (.iconst 1) 1 14 := ⟨dL_renew_13, rfl⟩
theorem dL_renew_14 : decode cL_renew 14 = .ok (.ireturn, 1) := by decide +kernel
theorem eL_renew_14 : zD KL_renew 14 (.ireturn) 1 15 := ⟨dL_renew_14, rfl⟩
theorem dL_renew_15 : decode cL_renew 15 = .ok (.astore_n 3, 1) := by decide +kernel
theorem eL_renew_15 : zD KL_renew 15 (.astore_n 3) 1 16 := ⟨dL_renew_15, rfl⟩
theorem dL_renew_16 : decode cL_renew 16 = .ok (.iconst 2, 1) := by decide +kernel
theorem eL_renew_16 : zD KL_renew 16 (.iconst 2) 1 17 := ⟨dL_renew_16, rfl⟩
theorem dL_renew_17 : decode cL_renew 17 = .ok (.ireturn, 1) := by decide +kernel
theorem eL_renew_17 : zD KL_renew 17 (.ireturn) 1 18 := ⟨dL_renew_17, rfl⟩
theorem dL_renew_18 : decode cL_renew 18 = .ok (.iconst 0, 1) := by decide +kernel
theorem eL_renew_18 : zD KL_renew 18 (.iconst 0) 1 19 := ⟨dL_renew_18, rfl⟩
theorem dL_renew_19 : decode cL_renew 19 = .ok (.ireturn, 1) := by decide +kernel
theorem eL_renew_19 : zD KL_renew 19 (.ireturn) 1 20 := ⟨dL_renew_19, rfl⟩
theorem dL_chance_0 : decode cL_chance 0 = .ok (.aload_n 3, 1) := by decide +kernel
theorem eL_chance_0 : zD KL_chance 0 (.aload_n 3) 1 1 := ⟨dL_chance_0, rfl⟩
theorem dL_chance_1 : decode cL_chance 1 = .ok (.iconst 0, 1) := by decide +kernel
theorem eL_chance_1 : zD KL_chance 1 (.iconst 0) 1 2 := ⟨dL_chance_1, rfl⟩
theorem dL_chance_2 : decode cL_chance 2 = .ok (.aload_n 0, 1) := by decide +kernel
theorem eL_chance_2 : zD KL_chance 2 (.aload_n 0) 1 3 := ⟨dL_chance_2, rfl⟩
theorem dL_chance_3 : decode cL_chance 3 = .ok (.iload_n 1, 1) := by decide +kernel
theorem eL_chance_3 : zD KL_chance 3 (.iload_n 1) 1 4 := ⟨dL_chance_3, rfl⟩
theorem dL_chance_4 : decode cL_chance 4 = .ok (.iload_n 2, 1) := by decide +kernel
theorem eL_chance_4 : zD KL_chance 4 (.iload_n 2) 1 5 := ⟨dL_chance_4, rfl⟩
theorem dL_chance_5 : decode cL_chance 5 = .ok (.invokevirtual 79, 3) := by decide +kernel
theorem eL_chance_5 : zD KL_chance 5 (.invokevirtual 79) 3 8 := ⟨dL_chance_5, rfl⟩
theorem dL_chance_8 : decode cL_chance 8 = .ok (.i2l, 1) := by decide +kernel
theorem eL_chance_8 : zD KL_chance 8 (.i2l) 1 9 := ⟨dL_chance_8, rfl⟩
theorem dL_chance_9 : decode cL_chance 9 = .ok (.lastore, 1) := by decide +kernel
theorem eL_chance_9 : zD KL_chance 9 (.lastore) 1 10 := ⟨dL_chance_9, rfl⟩
theorem dL_chance_10 : decode cL_chance 10 = .ok (.goto 11, 3) := by decide +kernel
theorem eL_chance_10 : zD KL_chance 10 (.goto 11) 3 13 := ⟨dL_chance_10, rfl⟩
theorem dL_chance_13 : decode cL_chance 13 = .ok (.astore 4, 2) := by decide +kernel
theorem eL_chance_13 : zD KL_chance 13 (.astore 4) 2 15 := ⟨dL_chance_13, rfl⟩
theorem dL_chance_15 : decode cL_chance 15 = .ok (.iconst 1, 1) := by decide +kernel
theorem eL_chance_15 : zD KL_chance 15 (.iconst 1) 1 16 := ⟨dL_chance_15, rfl⟩
theorem dL_chance_16 : decode cL_chance 16 = .ok (.ireturn, 1) := by decide +kernel
theorem eL_chance_16 : zD KL_chance 16 (.ireturn) 1 17 := ⟨dL_chance_16, rfl⟩
theorem dL_chance_17 : decode cL_chance 17 = .ok (.astore 4, 2) := by decide +kernel
theorem eL_chance_17 : zD KL_chance 17 (.astore 4) 2 19 := ⟨dL_chance_17, rfl⟩
theorem dL_chance_19 : decode cL_chance 19 = .ok (.iconst 2, 1) := by decide +kernel
theorem eL_chance_19 : zD KL_chance 19 (.iconst 2) 1 20 := ⟨dL_chance_19, rfl⟩
theorem dL_chance_20 : decode cL_chance 20 = .ok (.ireturn, 1) := by decide +kernel
theorem eL_chance_20 : zD KL_chance 20 (.ireturn) 1 21 := ⟨dL_chance_20, rfl⟩
theorem dL_chance_21 : decode cL_chance 21 = .ok (.iconst 0, 1) := by decide +kernel
theorem eL_chance_21 : zD KL_chance 21 (.iconst 0) 1 22 := ⟨dL_chance_21, rfl⟩
theorem dL_chance_22 : decode cL_chance 22 = .ok (.ireturn, 1) := by decide +kernel
theorem eL_chance_22 : zD KL_chance 22 (.ireturn) 1 23 := ⟨dL_chance_22, rfl⟩
theorem dL_carries_0 : decode cL_carries 0 = .ok (.aload_n 3, 1) := by decide +kernel
theorem eL_carries_0 : zD KL_carries 0 (.aload_n 3) 1 1 := ⟨dL_carries_0, rfl⟩
theorem dL_carries_1 : decode cL_carries 1 = .ok (.iconst 0, 1) := by decide +kernel
theorem eL_carries_1 : zD KL_carries 1 (.iconst 0) 1 2 := ⟨dL_carries_1, rfl⟩
theorem dL_carries_2 : decode cL_carries 2 = .ok (.aload_n 0, 1) := by decide +kernel
theorem eL_carries_2 : zD KL_carries 2 (.aload_n 0) 1 3 := ⟨dL_carries_2, rfl⟩
theorem dL_carries_3 : decode cL_carries 3 = .ok (.iload_n 1, 1) := by decide +kernel
theorem eL_carries_3 : zD KL_carries 3 (.iload_n 1) 1 4 := ⟨dL_carries_3, rfl⟩
theorem dL_carries_4 : decode cL_carries 4 = .ok (.iload_n 2, 1) := by decide +kernel
theorem eL_carries_4 : zD KL_carries 4 (.iload_n 2) 1 5 := ⟨dL_carries_4, rfl⟩
theorem dL_carries_5 : decode cL_carries 5 = .ok (.invokevirtual 82, 3) := by decide +kernel
theorem eL_carries_5 : zD KL_carries 5 (.invokevirtual 82) 3 8 := ⟨dL_carries_5, rfl⟩
theorem dL_carries_8 : decode cL_carries 8 = .ok (.i2l, 1) := by decide +kernel
theorem eL_carries_8 : zD KL_carries 8 (.i2l) 1 9 := ⟨dL_carries_8, rfl⟩
theorem dL_carries_9 : decode cL_carries 9 = .ok (.lastore, 1) := by decide +kernel
theorem eL_carries_9 : zD KL_carries 9 (.lastore) 1 10 := ⟨dL_carries_9, rfl⟩
theorem dL_carries_10 : decode cL_carries 10 = .ok (.goto 11, 3) := by decide +kernel
theorem eL_carries_10 : zD KL_carries 10 (.goto 11) 3 13 := ⟨dL_carries_10, rfl⟩
theorem dL_carries_13 : decode cL_carries 13 = .ok (.astore 4, 2) := by decide +kernel
theorem eL_carries_13 : zD KL_carries 13 (.astore 4) 2 15 := ⟨dL_carries_13, rfl⟩
theorem dL_carries_15 : decode cL_carries 15 = .ok (.iconst 1, 1) := by decide +kernel
theorem eL_carries_15 : zD KL_carries 15 (.iconst 1) 1 16 := ⟨dL_carries_15, rfl⟩
theorem dL_carries_16 : decode cL_carries 16 = .ok (.ireturn, 1) := by decide +kernel
theorem eL_carries_16 : zD KL_carries 16 (.ireturn) 1 17 := ⟨dL_carries_16, rfl⟩
theorem dL_carries_17 : decode cL_carries 17 = .ok (.astore 4, 2) := by decide +kernel
theorem eL_carries_17 : zD KL_carries 17 (.astore 4) 2 19 := ⟨dL_carries_17, rfl⟩
theorem dL_carries_19 : decode cL_carries 19 = .ok (.iconst 2, 1) := by decide +kernel
theorem eL_carries_19 : zD KL_carries 19 (.iconst 2) 1 20 := ⟨dL_carries_19, rfl⟩
theorem dL_carries_20 : decode cL_carries 20 = .ok (.ireturn, 1) := by decide +kernel
theorem eL_carries_20 : zD KL_carries 20 (.ireturn) 1 21 := ⟨dL_carries_20, rfl⟩
theorem dL_carries_21 : decode cL_carries 21 = .ok (.iconst 0, 1) := by decide +kernel
theorem eL_carries_21 : zD KL_carries 21 (.iconst 0) 1 22 := ⟨dL_carries_21, rfl⟩
theorem dL_carries_22 : decode cL_carries 22 = .ok (.ireturn, 1) := by decide +kernel
theorem eL_carries_22 : zD KL_carries 22 (.ireturn) 1 23 := ⟨dL_carries_22, rfl⟩
theorem dL_soonest_0 : decode cL_soonest 0 = .ok (.aload_n 3, 1) := by decide +kernel
theorem eL_soonest_0 : zD KL_soonest 0 (.aload_n 3) 1 1 := ⟨dL_soonest_0, rfl⟩
theorem dL_soonest_1 : decode cL_soonest 1 = .ok (.iconst 0, 1) := by decide +kernel
theorem eL_soonest_1 : zD KL_soonest 1 (.iconst 0) 1 2 := ⟨dL_soonest_1, rfl⟩
theorem dL_soonest_2 : decode cL_soonest 2 = .ok (.aload_n 0, 1) := by decide +kernel
theorem eL_soonest_2 : zD KL_soonest 2 (.aload_n 0) 1 3 := ⟨dL_soonest_2, rfl⟩
theorem dL_soonest_3 : decode cL_soonest 3 = .ok (.iload_n 1, 1) := by decide +kernel
theorem eL_soonest_3 : zD KL_soonest 3 (.iload_n 1) 1 4 := ⟨dL_soonest_3, rfl⟩
theorem dL_soonest_4 : decode cL_soonest 4 = .ok (.iload_n 2, 1) := by decide +kernel
theorem eL_soonest_4 : zD KL_soonest 4 (.iload_n 2) 1 5 := ⟨dL_soonest_4, rfl⟩
theorem dL_soonest_5 : decode cL_soonest 5 = .ok (.invokevirtual 85, 3) := by decide +kernel
theorem eL_soonest_5 : zD KL_soonest 5 (.invokevirtual 85) 3 8 := ⟨dL_soonest_5, rfl⟩
theorem dL_soonest_8 : decode cL_soonest 8 = .ok (.i2l, 1) := by decide +kernel
theorem eL_soonest_8 : zD KL_soonest 8 (.i2l) 1 9 := ⟨dL_soonest_8, rfl⟩
theorem dL_soonest_9 : decode cL_soonest 9 = .ok (.lastore, 1) := by decide +kernel
theorem eL_soonest_9 : zD KL_soonest 9 (.lastore) 1 10 := ⟨dL_soonest_9, rfl⟩
theorem dL_soonest_10 : decode cL_soonest 10 = .ok (.goto 11, 3) := by decide +kernel
theorem eL_soonest_10 : zD KL_soonest 10 (.goto 11) 3 13 := ⟨dL_soonest_10, rfl⟩
theorem dL_soonest_13 : decode cL_soonest 13 = .ok (.astore 4, 2) := by decide +kernel
theorem eL_soonest_13 : zD KL_soonest 13 (.astore 4) 2 15 := ⟨dL_soonest_13, rfl⟩
theorem dL_soonest_15 : decode cL_soonest 15 = .ok (.iconst 1, 1) := by decide +kernel
theorem eL_soonest_15 : zD KL_soonest 15 (.iconst 1) 1 16 := ⟨dL_soonest_15, rfl⟩
theorem dL_soonest_16 : decode cL_soonest 16 = .ok (.ireturn, 1) := by decide +kernel
theorem eL_soonest_16 : zD KL_soonest 16 (.ireturn) 1 17 := ⟨dL_soonest_16, rfl⟩
theorem dL_soonest_17 : decode cL_soonest 17 = .ok (.astore 4, 2) := by decide +kernel
theorem eL_soonest_17 : zD KL_soonest 17 (.astore 4) 2 19 := ⟨dL_soonest_17, rfl⟩
theorem dL_soonest_19 : decode cL_soonest 19 = .ok (.iconst 2, 1) := by decide +kernel
theorem eL_soonest_19 : zD KL_soonest 19 (.iconst 2) 1 20 := ⟨dL_soonest_19, rfl⟩
theorem dL_soonest_20 : decode cL_soonest 20 = .ok (.ireturn, 1) := by decide +kernel
theorem eL_soonest_20 : zD KL_soonest 20 (.ireturn) 1 21 := ⟨dL_soonest_20, rfl⟩
theorem dL_soonest_21 : decode cL_soonest 21 = .ok (.iconst 0, 1) := by decide +kernel
theorem eL_soonest_21 : zD KL_soonest 21 (.iconst 0) 1 22 := ⟨dL_soonest_21, rfl⟩
theorem dL_soonest_22 : decode cL_soonest 22 = .ok (.ireturn, 1) := by decide +kernel
theorem eL_soonest_22 : zD KL_soonest 22 (.ireturn) 1 23 := ⟨dL_soonest_22, rfl⟩
theorem dL_when_0 : decode cL_when 0 = .ok (.aload_n 2, 1) := by decide +kernel
theorem eL_when_0 : zD KL_when 0 (.aload_n 2) 1 1 := ⟨dL_when_0, rfl⟩
theorem dL_when_1 : decode cL_when 1 = .ok (.iconst 0, 1) := by decide +kernel
theorem eL_when_1 : zD KL_when 1 (.iconst 0) 1 2 := ⟨dL_when_1, rfl⟩
theorem dL_when_2 : decode cL_when 2 = .ok (.aload_n 0, 1) := by decide +kernel
theorem eL_when_2 : zD KL_when 2 (.aload_n 0) 1 3 := ⟨dL_when_2, rfl⟩
theorem dL_when_3 : decode cL_when 3 = .ok (.iload_n 1, 1) := by decide +kernel
theorem eL_when_3 : zD KL_when 3 (.iload_n 1) 1 4 := ⟨dL_when_3, rfl⟩
theorem dL_when_4 : decode cL_when 4 = .ok (.invokevirtual 88, 3) := by decide +kernel
theorem eL_when_4 : zD KL_when 4 (.invokevirtual 88) 3 7 := ⟨dL_when_4, rfl⟩
theorem dL_when_7 : decode cL_when 7 = .ok (.i2l, 1) := by decide +kernel
theorem eL_when_7 : zD KL_when 7 (.i2l) 1 8 := ⟨dL_when_7, rfl⟩
theorem dL_when_8 : decode cL_when 8 = .ok (.lastore, 1) := by decide +kernel
theorem eL_when_8 : zD KL_when 8 (.lastore) 1 9 := ⟨dL_when_8, rfl⟩
theorem dL_when_9 : decode cL_when 9 = .ok (.goto 6, 3) := by decide +kernel
theorem eL_when_9 : zD KL_when 9 (.goto 6) 3 12 := ⟨dL_when_9, rfl⟩
theorem dL_when_12 : decode cL_when 12 = .ok (.astore_n 3, 1) := by decide +kernel
theorem eL_when_12 : zD KL_when 12 (.astore_n 3) 1 13 := ⟨dL_when_12, rfl⟩
theorem dL_when_13 : decode cL_when 13 = .ok (.iconst 1, 1) := by decide +kernel
theorem eL_when_13 : zD KL_when 13 (.iconst 1) 1 14 := ⟨dL_when_13, rfl⟩
theorem dL_when_14 : decode cL_when 14 = .ok (.ireturn, 1) := by decide +kernel
theorem eL_when_14 : zD KL_when 14 (.ireturn) 1 15 := ⟨dL_when_14, rfl⟩
theorem dL_when_15 : decode cL_when 15 = .ok (.iconst 0, 1) := by decide +kernel
theorem eL_when_15 : zD KL_when 15 (.iconst 0) 1 16 := ⟨dL_when_15, rfl⟩
theorem dL_when_16 : decode cL_when 16 = .ok (.ireturn, 1) := by decide +kernel
theorem eL_when_16 : zD KL_when 16 (.ireturn) 1 17 := ⟨dL_when_16, rfl⟩
theorem dL_best_0 : decode cL_best 0 = .ok (.aload_n 2, 1) := by decide +kernel
theorem eL_best_0 : zD KL_best 0 (.aload_n 2) 1 1 := ⟨dL_best_0, rfl⟩
theorem dL_best_1 : decode cL_best 1 = .ok (.iconst 0, 1) := by decide +kernel
theorem eL_best_1 : zD KL_best 1 (.iconst 0) 1 2 := ⟨dL_best_1, rfl⟩
theorem dL_best_2 : decode cL_best 2 = .ok (.aload_n 0, 1) := by decide +kernel
theorem eL_best_2 : zD KL_best 2 (.aload_n 0) 1 3 := ⟨dL_best_2, rfl⟩
theorem dL_best_3 : decode cL_best 3 = .ok (.iload_n 1, 1) := by decide +kernel
theorem eL_best_3 : zD KL_best 3 (.iload_n 1) 1 4 := ⟨dL_best_3, rfl⟩
theorem dL_best_4 : decode cL_best 4 = .ok (.invokevirtual 91, 3) := by decide +kernel
theorem eL_best_4 : zD KL_best 4 (.invokevirtual 91) 3 7 := ⟨dL_best_4, rfl⟩
theorem dL_best_7 : decode cL_best 7 = .ok (.i2l, 1) := by decide +kernel
theorem eL_best_7 : zD KL_best 7 (.i2l) 1 8 := ⟨dL_best_7, rfl⟩
theorem dL_best_8 : decode cL_best 8 = .ok (.lastore, 1) := by decide +kernel
theorem eL_best_8 : zD KL_best 8 (.lastore) 1 9 := ⟨dL_best_8, rfl⟩
theorem dL_best_9 : decode cL_best 9 = .ok (.goto 6, 3) := by decide +kernel
theorem eL_best_9 : zD KL_best 9 (.goto 6) 3 12 := ⟨dL_best_9, rfl⟩
theorem dL_best_12 : decode cL_best 12 = .ok (.astore_n 3, 1) := by decide +kernel
theorem eL_best_12 : zD KL_best 12 (.astore_n 3) 1 13 := ⟨dL_best_12, rfl⟩
theorem dL_best_13 : decode cL_best 13 = .ok (.iconst 1, 1) := by decide +kernel
theorem eL_best_13 : zD KL_best 13 (.iconst 1) 1 14 := ⟨dL_best_13, rfl⟩
theorem dL_best_14 : decode cL_best 14 = .ok (.ireturn, 1) := by decide +kernel
theorem eL_best_14 : zD KL_best 14 (.ireturn) 1 15 := ⟨dL_best_14, rfl⟩
theorem dL_best_15 : decode cL_best 15 = .ok (.iconst 0, 1) := by decide +kernel
theorem eL_best_15 : zD KL_best 15 (.iconst 0) 1 16 := ⟨dL_best_15, rfl⟩
theorem dL_best_16 : decode cL_best 16 = .ok (.ireturn, 1) := by decide +kernel
theorem eL_best_16 : zD KL_best 16 (.ireturn) 1 17 := ⟨dL_best_16, rfl⟩
theorem dL_shower_0 : decode cL_shower 0 = .ok (.aload_n 3, 1) := by decide +kernel
theorem eL_shower_0 : zD KL_shower 0 (.aload_n 3) 1 1 := ⟨dL_shower_0, rfl⟩
theorem dL_shower_1 : decode cL_shower 1 = .ok (.iconst 0, 1) := by decide +kernel
theorem eL_shower_1 : zD KL_shower 1 (.iconst 0) 1 2 := ⟨dL_shower_1, rfl⟩
theorem dL_shower_2 : decode cL_shower 2 = .ok (.aload_n 0, 1) := by decide +kernel
theorem eL_shower_2 : zD KL_shower 2 (.aload_n 0) 1 3 := ⟨dL_shower_2, rfl⟩
theorem dL_shower_3 : decode cL_shower 3 = .ok (.iload_n 1, 1) := by decide +kernel
theorem eL_shower_3 : zD KL_shower 3 (.iload_n 1) 1 4 := ⟨dL_shower_3, rfl⟩
theorem dL_shower_4 : decode cL_shower 4 = .ok (.iload_n 2, 1) := by decide +kernel
theorem eL_shower_4 : zD KL_shower 4 (.iload_n 2) 1 5 := ⟨dL_shower_4, rfl⟩
theorem dL_shower_5 : decode cL_shower 5 = .ok (.invokevirtual 94, 3) := by decide +kernel
theorem eL_shower_5 : zD KL_shower 5 (.invokevirtual 94) 3 8 := ⟨dL_shower_5, rfl⟩
theorem dL_shower_8 : decode cL_shower 8 = .ok (.i2l, 1) := by decide +kernel
theorem eL_shower_8 : zD KL_shower 8 (.i2l) 1 9 := ⟨dL_shower_8, rfl⟩
theorem dL_shower_9 : decode cL_shower 9 = .ok (.lastore, 1) := by decide +kernel
theorem eL_shower_9 : zD KL_shower 9 (.lastore) 1 10 := ⟨dL_shower_9, rfl⟩
theorem dL_shower_10 : decode cL_shower 10 = .ok (.goto 7, 3) := by decide +kernel
theorem eL_shower_10 : zD KL_shower 10 (.goto 7) 3 13 := ⟨dL_shower_10, rfl⟩
theorem dL_shower_13 : decode cL_shower 13 = .ok (.astore 4, 2) := by decide +kernel
theorem eL_shower_13 : zD KL_shower 13 (.astore 4) 2 15 := ⟨dL_shower_13, rfl⟩
theorem dL_shower_15 : decode cL_shower 15 = .ok (.iconst 1, 1) := by decide +kernel
theorem eL_shower_15 : zD KL_shower 15 (.iconst 1) 1 16 := ⟨dL_shower_15, rfl⟩
theorem dL_shower_16 : decode cL_shower 16 = .ok (.ireturn, 1) := by decide +kernel
theorem eL_shower_16 : zD KL_shower 16 (.ireturn) 1 17 := ⟨dL_shower_16, rfl⟩
theorem dL_shower_17 : decode cL_shower 17 = .ok (.iconst 0, 1) := by decide +kernel
theorem eL_shower_17 : zD KL_shower 17 (.iconst 0) 1 18 := ⟨dL_shower_17, rfl⟩
theorem dL_shower_18 : decode cL_shower 18 = .ok (.ireturn, 1) := by decide +kernel
theorem eL_shower_18 : zD KL_shower 18 (.ireturn) 1 19 := ⟨dL_shower_18, rfl⟩
theorem dL_cuffs_0 : decode cL_cuffs 0 = .ok (.aload_n 2, 1) := by decide +kernel
theorem eL_cuffs_0 : zD KL_cuffs 0 (.aload_n 2) 1 1 := ⟨dL_cuffs_0, rfl⟩
theorem dL_cuffs_1 : decode cL_cuffs 1 = .ok (.iconst 0, 1) := by decide +kernel
theorem eL_cuffs_1 : zD KL_cuffs 1 (.iconst 0) 1 2 := ⟨dL_cuffs_1, rfl⟩
theorem dL_cuffs_2 : decode cL_cuffs 2 = .ok (.aload_n 0, 1) := by decide +kernel
theorem eL_cuffs_2 : zD KL_cuffs 2 (.aload_n 0) 1 3 := ⟨dL_cuffs_2, rfl⟩
theorem dL_cuffs_3 : decode cL_cuffs 3 = .ok (.iload_n 1, 1) := by decide +kernel
theorem eL_cuffs_3 : zD KL_cuffs 3 (.iload_n 1) 1 4 := ⟨dL_cuffs_3, rfl⟩
theorem dL_cuffs_4 : decode cL_cuffs 4 = .ok (.invokevirtual 98, 3) := by decide +kernel
theorem eL_cuffs_4 : zD KL_cuffs 4 (.invokevirtual 98) 3 7 := ⟨dL_cuffs_4, rfl⟩
theorem dL_cuffs_7 : decode cL_cuffs 7 = .ok (.i2l, 1) := by decide +kernel
theorem eL_cuffs_7 : zD KL_cuffs 7 (.i2l) 1 8 := ⟨dL_cuffs_7, rfl⟩
theorem dL_cuffs_8 : decode cL_cuffs 8 = .ok (.lastore, 1) := by decide +kernel
theorem eL_cuffs_8 : zD KL_cuffs 8 (.lastore) 1 9 := ⟨dL_cuffs_8, rfl⟩
theorem dL_cuffs_9 : decode cL_cuffs 9 = .ok (.goto 6, 3) := by decide +kernel
theorem eL_cuffs_9 : zD KL_cuffs 9 (.goto 6) 3 12 := ⟨dL_cuffs_9, rfl⟩
theorem dL_cuffs_12 : decode cL_cuffs 12 = .ok (.astore_n 3, 1) := by decide +kernel
theorem eL_cuffs_12 : zD KL_cuffs 12 (.astore_n 3) 1 13 := ⟨dL_cuffs_12, rfl⟩
theorem dL_cuffs_13 : decode cL_cuffs 13 = .ok (.iconst 1, 1) := by decide +kernel
theorem eL_cuffs_13 : zD KL_cuffs 13 (.iconst 1) 1 14 := ⟨dL_cuffs_13, rfl⟩
theorem dL_cuffs_14 : decode cL_cuffs 14 = .ok (.ireturn, 1) := by decide +kernel
theorem eL_cuffs_14 : zD KL_cuffs 14 (.ireturn) 1 15 := ⟨dL_cuffs_14, rfl⟩
theorem dL_cuffs_15 : decode cL_cuffs 15 = .ok (.iconst 0, 1) := by decide +kernel
theorem eL_cuffs_15 : zD KL_cuffs 15 (.iconst 0) 1 16 := ⟨dL_cuffs_15, rfl⟩
theorem dL_cuffs_16 : decode cL_cuffs 16 = .ok (.ireturn, 1) := by decide +kernel
theorem eL_cuffs_16 : zD KL_cuffs 16 (.ireturn) 1 17 := ⟨dL_cuffs_16, rfl⟩
theorem dL_likely_0 : decode cL_likely 0 = .ok (.aload_n 1, 1) := by decide +kernel
theorem eL_likely_0 : zD KL_likely 0 (.aload_n 1) 1 1 := ⟨dL_likely_0, rfl⟩
theorem dL_likely_1 : decode cL_likely 1 = .ok (.iconst 0, 1) := by decide +kernel
theorem eL_likely_1 : zD KL_likely 1 (.iconst 0) 1 2 := ⟨dL_likely_1, rfl⟩
theorem dL_likely_2 : decode cL_likely 2 = .ok (.aload_n 0, 1) := by decide +kernel
theorem eL_likely_2 : zD KL_likely 2 (.aload_n 0) 1 3 := ⟨dL_likely_2, rfl⟩
theorem dL_likely_3 : decode cL_likely 3 = .ok (.invokevirtual 102, 3) := by decide +kernel
theorem eL_likely_3 : zD KL_likely 3 (.invokevirtual 102) 3 6 := ⟨dL_likely_3, rfl⟩
theorem dL_likely_6 : decode cL_likely 6 = .ok (.i2l, 1) := by decide +kernel
theorem eL_likely_6 : zD KL_likely 6 (.i2l) 1 7 := ⟨dL_likely_6, rfl⟩
theorem dL_likely_7 : decode cL_likely 7 = .ok (.lastore, 1) := by decide +kernel
theorem eL_likely_7 : zD KL_likely 7 (.lastore) 1 8 := ⟨dL_likely_7, rfl⟩
theorem dL_likely_8 : decode cL_likely 8 = .ok (.goto 6, 3) := by decide +kernel
theorem eL_likely_8 : zD KL_likely 8 (.goto 6) 3 11 := ⟨dL_likely_8, rfl⟩
theorem dL_likely_11 : decode cL_likely 11 = .ok (.astore_n 2, 1) := by decide +kernel
theorem eL_likely_11 : zD KL_likely 11 (.astore_n 2) 1 12 := ⟨dL_likely_11, rfl⟩
theorem dL_likely_12 : decode cL_likely 12 = .ok (.iconst 1, 1) := by decide +kernel
theorem eL_likely_12 : zD KL_likely 12 (.iconst 1) 1 13 := ⟨dL_likely_12, rfl⟩
theorem dL_likely_13 : decode cL_likely 13 = .ok (.ireturn, 1) := by decide +kernel
theorem eL_likely_13 : zD KL_likely 13 (.ireturn) 1 14 := ⟨dL_likely_13, rfl⟩
theorem dL_likely_14 : decode cL_likely 14 = .ok (.iconst 0, 1) := by decide +kernel
theorem eL_likely_14 : zD KL_likely 14 (.iconst 0) 1 15 := ⟨dL_likely_14, rfl⟩
theorem dL_likely_15 : decode cL_likely 15 = .ok (.ireturn, 1) := by decide +kernel
theorem eL_likely_15 : zD KL_likely 15 (.ireturn) 1 16 := ⟨dL_likely_15, rfl⟩
theorem dL_ago_0 : decode cL_ago 0 = .ok (.aload_n 2, 1) := by decide +kernel
theorem eL_ago_0 : zD KL_ago 0 (.aload_n 2) 1 1 := ⟨dL_ago_0, rfl⟩
theorem dL_ago_1 : decode cL_ago 1 = .ok (.iconst 0, 1) := by decide +kernel
theorem eL_ago_1 : zD KL_ago 1 (.iconst 0) 1 2 := ⟨dL_ago_1, rfl⟩
theorem dL_ago_2 : decode cL_ago 2 = .ok (.aload_n 0, 1) := by decide +kernel
theorem eL_ago_2 : zD KL_ago 2 (.aload_n 0) 1 3 := ⟨dL_ago_2, rfl⟩
theorem dL_ago_3 : decode cL_ago 3 = .ok (.iload_n 1, 1) := by decide +kernel
theorem eL_ago_3 : zD KL_ago 3 (.iload_n 1) 1 4 := ⟨dL_ago_3, rfl⟩
theorem dL_ago_4 : decode cL_ago 4 = .ok (.invokevirtual 105, 3) := by decide +kernel
theorem eL_ago_4 : zD KL_ago 4 (.invokevirtual 105) 3 7 := ⟨dL_ago_4, rfl⟩
theorem dL_ago_7 : decode cL_ago 7 = .ok (.i2l, 1) := by decide +kernel
theorem eL_ago_7 : zD KL_ago 7 (.i2l) 1 8 := ⟨dL_ago_7, rfl⟩
theorem dL_ago_8 : decode cL_ago 8 = .ok (.lastore, 1) := by decide +kernel
theorem eL_ago_8 : zD KL_ago 8 (.lastore) 1 9 := ⟨dL_ago_8, rfl⟩
theorem dL_ago_9 : decode cL_ago 9 = .ok (.goto 6, 3) := by decide +kernel
theorem eL_ago_9 : zD KL_ago 9 (.goto 6) 3 12 := ⟨dL_ago_9, rfl⟩
theorem dL_ago_12 : decode cL_ago 12 = .ok (.astore_n 3, 1) := by decide +kernel
theorem eL_ago_12 : zD KL_ago 12 (.astore_n 3) 1 13 := ⟨dL_ago_12, rfl⟩
theorem dL_ago_13 : decode cL_ago 13 = .ok (.iconst 1, 1) := by decide +kernel
theorem eL_ago_13 : zD KL_ago 13 (.iconst 1) 1 14 := ⟨dL_ago_13, rfl⟩
theorem dL_ago_14 : decode cL_ago 14 = .ok (.ireturn, 1) := by decide +kernel
theorem eL_ago_14 : zD KL_ago 14 (.ireturn) 1 15 := ⟨dL_ago_14, rfl⟩
theorem dL_ago_15 : decode cL_ago 15 = .ok (.iconst 0, 1) := by decide +kernel
theorem eL_ago_15 : zD KL_ago 15 (.iconst 0) 1 16 := ⟨dL_ago_15, rfl⟩
theorem dL_ago_16 : decode cL_ago 16 = .ok (.ireturn, 1) := by decide +kernel
theorem eL_ago_16 : zD KL_ago 16 (.ireturn) 1 17 := ⟨dL_ago_16, rfl⟩
theorem dL_ask_0 : decode cL_ask 0 = .ok (.aload_n 1, 1) := by decide +kernel
theorem eL_ask_0 : zD KL_ask 0 (.aload_n 1) 1 1 := ⟨dL_ask_0, rfl⟩
theorem dL_ask_1 : decode cL_ask 1 = .ok (.iconst 0, 1) := by decide +kernel
theorem eL_ask_1 : zD KL_ask 1 (.iconst 0) 1 2 := ⟨dL_ask_1, rfl⟩
theorem dL_ask_2 : decode cL_ask 2 = .ok (.aload_n 0, 1) := by decide +kernel
theorem eL_ask_2 : zD KL_ask 2 (.aload_n 0) 1 3 := ⟨dL_ask_2, rfl⟩
theorem dL_ask_3 : decode cL_ask 3 = .ok (.invokevirtual 108, 3) := by decide +kernel
theorem eL_ask_3 : zD KL_ask 3 (.invokevirtual 108) 3 6 := ⟨dL_ask_3, rfl⟩
theorem dL_ask_6 : decode cL_ask 6 = .ok (.i2l, 1) := by decide +kernel
theorem eL_ask_6 : zD KL_ask 6 (.i2l) 1 7 := ⟨dL_ask_6, rfl⟩
theorem dL_ask_7 : decode cL_ask 7 = .ok (.lastore, 1) := by decide +kernel
theorem eL_ask_7 : zD KL_ask 7 (.lastore) 1 8 := ⟨dL_ask_7, rfl⟩
theorem dL_ask_8 : decode cL_ask 8 = .ok (.goto 6, 3) := by decide +kernel
theorem eL_ask_8 : zD KL_ask 8 (.goto 6) 3 11 := ⟨dL_ask_8, rfl⟩
theorem dL_ask_11 : decode cL_ask 11 = .ok (.astore_n 2, 1) := by decide +kernel
theorem eL_ask_11 : zD KL_ask 11 (.astore_n 2) 1 12 := ⟨dL_ask_11, rfl⟩
theorem dL_ask_12 : decode cL_ask 12 = .ok (.iconst 1, 1) := by decide +kernel
theorem eL_ask_12 : zD KL_ask 12 (.iconst 1) 1 13 := ⟨dL_ask_12, rfl⟩
theorem dL_ask_13 : decode cL_ask 13 = .ok (.ireturn, 1) := by decide +kernel
theorem eL_ask_13 : zD KL_ask 13 (.ireturn) 1 14 := ⟨dL_ask_13, rfl⟩
theorem dL_ask_14 : decode cL_ask 14 = .ok (.iconst 0, 1) := by decide +kernel
theorem eL_ask_14 : zD KL_ask 14 (.iconst 0) 1 15 := ⟨dL_ask_14, rfl⟩
theorem dL_ask_15 : decode cL_ask 15 = .ok (.ireturn, 1) := by decide +kernel
theorem eL_ask_15 : zD KL_ask 15 (.ireturn) 1 16 := ⟨dL_ask_15, rfl⟩
theorem dL_posts_0 : decode cL_posts 0 = .ok (.aload_n 2, 1) := by decide +kernel
theorem eL_posts_0 : zD KL_posts 0 (.aload_n 2) 1 1 := ⟨dL_posts_0, rfl⟩
theorem dL_posts_1 : decode cL_posts 1 = .ok (.iconst 0, 1) := by decide +kernel
theorem eL_posts_1 : zD KL_posts 1 (.iconst 0) 1 2 := ⟨dL_posts_1, rfl⟩
theorem dL_posts_2 : decode cL_posts 2 = .ok (.aload_n 0, 1) := by decide +kernel
theorem eL_posts_2 : zD KL_posts 2 (.aload_n 0) 1 3 := ⟨dL_posts_2, rfl⟩
theorem dL_posts_3 : decode cL_posts 3 = .ok (.iload_n 1, 1) := by decide +kernel
theorem eL_posts_3 : zD KL_posts 3 (.iload_n 1) 1 4 := ⟨dL_posts_3, rfl⟩
theorem dL_posts_4 : decode cL_posts 4 = .ok (.invokevirtual 111, 3) := by decide +kernel
theorem eL_posts_4 : zD KL_posts 4 (.invokevirtual 111) 3 7 := ⟨dL_posts_4, rfl⟩
theorem dL_posts_7 : decode cL_posts 7 = .ok (.i2l, 1) := by decide +kernel
theorem eL_posts_7 : zD KL_posts 7 (.i2l) 1 8 := ⟨dL_posts_7, rfl⟩
theorem dL_posts_8 : decode cL_posts 8 = .ok (.lastore, 1) := by decide +kernel
theorem eL_posts_8 : zD KL_posts 8 (.lastore) 1 9 := ⟨dL_posts_8, rfl⟩
theorem dL_posts_9 : decode cL_posts 9 = .ok (.goto 6, 3) := by decide +kernel
theorem eL_posts_9 : zD KL_posts 9 (.goto 6) 3 12 := ⟨dL_posts_9, rfl⟩
theorem dL_posts_12 : decode cL_posts 12 = .ok (.astore_n 3, 1) := by decide +kernel
theorem eL_posts_12 : zD KL_posts 12 (.astore_n 3) 1 13 := ⟨dL_posts_12, rfl⟩
theorem dL_posts_13 : decode cL_posts 13 = .ok (.iconst 1, 1) := by decide +kernel
theorem eL_posts_13 : zD KL_posts 13 (.iconst 1) 1 14 := ⟨dL_posts_13, rfl⟩
theorem dL_posts_14 : decode cL_posts 14 = .ok (.ireturn, 1) := by decide +kernel
theorem eL_posts_14 : zD KL_posts 14 (.ireturn) 1 15 := ⟨dL_posts_14, rfl⟩
theorem dL_posts_15 : decode cL_posts 15 = .ok (.iconst 0, 1) := by decide +kernel
theorem eL_posts_15 : zD KL_posts 15 (.iconst 0) 1 16 := ⟨dL_posts_15, rfl⟩
theorem dL_posts_16 : decode cL_posts 16 = .ok (.ireturn, 1) := by decide +kernel
theorem eL_posts_16 : zD KL_posts 16 (.ireturn) 1 17 := ⟨dL_posts_16, rfl⟩
theorem dL_swings_0 : decode cL_swings 0 = .ok (.aload_n 2, 1) := by decide +kernel
theorem eL_swings_0 : zD KL_swings 0 (.aload_n 2) 1 1 := ⟨dL_swings_0, rfl⟩
theorem dL_swings_1 : decode cL_swings 1 = .ok (.iconst 0, 1) := by decide +kernel
theorem eL_swings_1 : zD KL_swings 1 (.iconst 0) 1 2 := ⟨dL_swings_1, rfl⟩
theorem dL_swings_2 : decode cL_swings 2 = .ok (.aload_n 0, 1) := by decide +kernel
theorem eL_swings_2 : zD KL_swings 2 (.aload_n 0) 1 3 := ⟨dL_swings_2, rfl⟩
theorem dL_swings_3 : decode cL_swings 3 = .ok (.iload_n 1, 1) := by decide +kernel
theorem eL_swings_3 : zD KL_swings 3 (.iload_n 1) 1 4 := ⟨dL_swings_3, rfl⟩
theorem dL_swings_4 : decode cL_swings 4 = .ok (.invokevirtual 114, 3) := by decide +kernel
theorem eL_swings_4 : zD KL_swings 4 (.invokevirtual 114) 3 7 := ⟨dL_swings_4, rfl⟩
theorem dL_swings_7 : decode cL_swings 7 = .ok (.i2l, 1) := by decide +kernel
theorem eL_swings_7 : zD KL_swings 7 (.i2l) 1 8 := ⟨dL_swings_7, rfl⟩
theorem dL_swings_8 : decode cL_swings 8 = .ok (.lastore, 1) := by decide +kernel
theorem eL_swings_8 : zD KL_swings 8 (.lastore) 1 9 := ⟨dL_swings_8, rfl⟩
theorem dL_swings_9 : decode cL_swings 9 = .ok (.goto 6, 3) := by decide +kernel
theorem eL_swings_9 : zD KL_swings 9 (.goto 6) 3 12 := ⟨dL_swings_9, rfl⟩
theorem dL_swings_12 : decode cL_swings 12 = .ok (.astore_n 3, 1) := by decide +kernel
theorem eL_swings_12 : zD KL_swings 12 (.astore_n 3) 1 13 := ⟨dL_swings_12, rfl⟩
theorem dL_swings_13 : decode cL_swings 13 = .ok (.iconst 1, 1) := by decide +kernel
theorem eL_swings_13 : zD KL_swings 13 (.iconst 1) 1 14 := ⟨dL_swings_13, rfl⟩
theorem dL_swings_14 : decode cL_swings 14 = .ok (.ireturn, 1) := by decide +kernel
theorem eL_swings_14 : zD KL_swings 14 (.ireturn) 1 15 := ⟨dL_swings_14, rfl⟩
theorem dL_swings_15 : decode cL_swings 15 = .ok (.iconst 0, 1) := by decide +kernel
theorem eL_swings_15 : zD KL_swings 15 (.iconst 0) 1 16 := ⟨dL_swings_15, rfl⟩
theorem dL_swings_16 : decode cL_swings 16 = .ok (.ireturn, 1) := by decide +kernel
theorem eL_swings_16 : zD KL_swings 16 (.ireturn) 1 17 := ⟨dL_swings_16, rfl⟩
theorem dL_power_0 : decode cL_power 0 = .ok (.aload_n 2, 1) := by decide +kernel
theorem eL_power_0 : zD KL_power 0 (.aload_n 2) 1 1 := ⟨dL_power_0, rfl⟩
theorem dL_power_1 : decode cL_power 1 = .ok (.iconst 0, 1) := by decide +kernel
theorem eL_power_1 : zD KL_power 1 (.iconst 0) 1 2 := ⟨dL_power_1, rfl⟩
theorem dL_power_2 : decode cL_power 2 = .ok (.aload_n 0, 1) := by decide +kernel
theorem eL_power_2 : zD KL_power 2 (.aload_n 0) 1 3 := ⟨dL_power_2, rfl⟩
theorem dL_power_3 : decode cL_power 3 = .ok (.iload_n 1, 1) := by decide +kernel
theorem eL_power_3 : zD KL_power 3 (.iload_n 1) 1 4 := ⟨dL_power_3, rfl⟩
theorem dL_power_4 : decode cL_power 4 = .ok (.invokevirtual 117, 3) := by decide +kernel
theorem eL_power_4 : zD KL_power 4 (.invokevirtual 117) 3 7 := ⟨dL_power_4, rfl⟩
theorem dL_power_7 : decode cL_power 7 = .ok (.i2l, 1) := by decide +kernel
theorem eL_power_7 : zD KL_power 7 (.i2l) 1 8 := ⟨dL_power_7, rfl⟩
theorem dL_power_8 : decode cL_power 8 = .ok (.lastore, 1) := by decide +kernel
theorem eL_power_8 : zD KL_power 8 (.lastore) 1 9 := ⟨dL_power_8, rfl⟩
theorem dL_power_9 : decode cL_power 9 = .ok (.goto 6, 3) := by decide +kernel
theorem eL_power_9 : zD KL_power 9 (.goto 6) 3 12 := ⟨dL_power_9, rfl⟩
theorem dL_power_12 : decode cL_power 12 = .ok (.astore_n 3, 1) := by decide +kernel
theorem eL_power_12 : zD KL_power 12 (.astore_n 3) 1 13 := ⟨dL_power_12, rfl⟩
theorem dL_power_13 : decode cL_power 13 = .ok (.iconst 1, 1) := by decide +kernel
theorem eL_power_13 : zD KL_power 13 (.iconst 1) 1 14 := ⟨dL_power_13, rfl⟩
theorem dL_power_14 : decode cL_power 14 = .ok (.ireturn, 1) := by decide +kernel
theorem eL_power_14 : zD KL_power 14 (.ireturn) 1 15 := ⟨dL_power_14, rfl⟩
theorem dL_power_15 : decode cL_power 15 = .ok (.iconst 0, 1) := by decide +kernel
theorem eL_power_15 : zD KL_power 15 (.iconst 0) 1 16 := ⟨dL_power_15, rfl⟩
theorem dL_power_16 : decode cL_power 16 = .ok (.ireturn, 1) := by decide +kernel
theorem eL_power_16 : zD KL_power 16 (.ireturn) 1 17 := ⟨dL_power_16, rfl⟩
theorem dL_minds_0 : decode cL_minds 0 = .ok (.aload_n 2, 1) := by decide +kernel
theorem eL_minds_0 : zD KL_minds 0 (.aload_n 2) 1 1 := ⟨dL_minds_0, rfl⟩
theorem dL_minds_1 : decode cL_minds 1 = .ok (.iconst 0, 1) := by decide +kernel
theorem eL_minds_1 : zD KL_minds 1 (.iconst 0) 1 2 := ⟨dL_minds_1, rfl⟩
theorem dL_minds_2 : decode cL_minds 2 = .ok (.aload_n 0, 1) := by decide +kernel
theorem eL_minds_2 : zD KL_minds 2 (.aload_n 0) 1 3 := ⟨dL_minds_2, rfl⟩
theorem dL_minds_3 : decode cL_minds 3 = .ok (.iload_n 1, 1) := by decide +kernel
theorem eL_minds_3 : zD KL_minds 3 (.iload_n 1) 1 4 := ⟨dL_minds_3, rfl⟩
theorem dL_minds_4 : decode cL_minds 4 = .ok (.invokevirtual 120, 3) := by decide +kernel
theorem eL_minds_4 : zD KL_minds 4 (.invokevirtual 120) 3 7 := ⟨dL_minds_4, rfl⟩
theorem dL_minds_7 : decode cL_minds 7 = .ok (.i2l, 1) := by decide +kernel
theorem eL_minds_7 : zD KL_minds 7 (.i2l) 1 8 := ⟨dL_minds_7, rfl⟩
theorem dL_minds_8 : decode cL_minds 8 = .ok (.lastore, 1) := by decide +kernel
theorem eL_minds_8 : zD KL_minds 8 (.lastore) 1 9 := ⟨dL_minds_8, rfl⟩
theorem dL_minds_9 : decode cL_minds 9 = .ok (.goto 6, 3) := by decide +kernel
theorem eL_minds_9 : zD KL_minds 9 (.goto 6) 3 12 := ⟨dL_minds_9, rfl⟩
theorem dL_minds_12 : decode cL_minds 12 = .ok (.astore_n 3, 1) := by decide +kernel
theorem eL_minds_12 : zD KL_minds 12 (.astore_n 3) 1 13 := ⟨dL_minds_12, rfl⟩
theorem dL_minds_13 : decode cL_minds 13 = .ok (.iconst 1, 1) := by decide +kernel
theorem eL_minds_13 : zD KL_minds 13 (.iconst 1) 1 14 := ⟨dL_minds_13, rfl⟩
theorem dL_minds_14 : decode cL_minds 14 = .ok (.ireturn, 1) := by decide +kernel
theorem eL_minds_14 : zD KL_minds 14 (.ireturn) 1 15 := ⟨dL_minds_14, rfl⟩
theorem dL_minds_15 : decode cL_minds 15 = .ok (.iconst 0, 1) := by decide +kernel
theorem eL_minds_15 : zD KL_minds 15 (.iconst 0) 1 16 := ⟨dL_minds_15, rfl⟩
theorem dL_minds_16 : decode cL_minds 16 = .ok (.ireturn, 1) := by decide +kernel
theorem eL_minds_16 : zD KL_minds 16 (.ireturn) 1 17 := ⟨dL_minds_16, rfl⟩
theorem dL_bargain_0 : decode cL_bargain 0 = .ok (.aload_n 3, 1) := by decide +kernel
theorem eL_bargain_0 : zD KL_bargain 0 (.aload_n 3) 1 1 := ⟨dL_bargain_0, rfl⟩
theorem dL_bargain_1 : decode cL_bargain 1 = .ok (.iconst 0, 1) := by decide +kernel
theorem eL_bargain_1 : zD KL_bargain 1 (.iconst 0) 1 2 := ⟨dL_bargain_1, rfl⟩
theorem dL_bargain_2 : decode cL_bargain 2 = .ok (.aload_n 0, 1) := by decide +kernel
theorem eL_bargain_2 : zD KL_bargain 2 (.aload_n 0) 1 3 := ⟨dL_bargain_2, rfl⟩
theorem dL_bargain_3 : decode cL_bargain 3 = .ok (.iload_n 1, 1) := by decide +kernel
theorem eL_bargain_3 : zD KL_bargain 3 (.iload_n 1) 1 4 := ⟨dL_bargain_3, rfl⟩
theorem dL_bargain_4 : decode cL_bargain 4 = .ok (.iload_n 2, 1) := by decide +kernel
theorem eL_bargain_4 : zD KL_bargain 4 (.iload_n 2) 1 5 := ⟨dL_bargain_4, rfl⟩
theorem dL_bargain_5 : decode cL_bargain 5 = .ok (.invokevirtual 123, 3) := by decide +kernel
theorem eL_bargain_5 : zD KL_bargain 5 (.invokevirtual 123) 3 8 := ⟨dL_bargain_5, rfl⟩
theorem dL_bargain_8 : decode cL_bargain 8 = .ok (.i2l, 1) := by decide +kernel
theorem eL_bargain_8 : zD KL_bargain 8 (.i2l) 1 9 := ⟨dL_bargain_8, rfl⟩
theorem dL_bargain_9 : decode cL_bargain 9 = .ok (.lastore, 1) := by decide +kernel
theorem eL_bargain_9 : zD KL_bargain 9 (.lastore) 1 10 := ⟨dL_bargain_9, rfl⟩
theorem dL_bargain_10 : decode cL_bargain 10 = .ok (.goto 11, 3) := by decide +kernel
theorem eL_bargain_10 : zD KL_bargain 10 (.goto 11) 3 13 := ⟨dL_bargain_10, rfl⟩
theorem dL_bargain_13 : decode cL_bargain 13 = .ok (.astore 4, 2) := by decide +kernel
theorem eL_bargain_13 : zD KL_bargain 13 (.astore 4) 2 15 := ⟨dL_bargain_13, rfl⟩
theorem dL_bargain_15 : decode cL_bargain 15 = .ok (.iconst 1, 1) := by decide +kernel
theorem eL_bargain_15 : zD KL_bargain 15 (.iconst 1) 1 16 := ⟨dL_bargain_15, rfl⟩
theorem dL_bargain_16 : decode cL_bargain 16 = .ok (.ireturn, 1) := by decide +kernel
theorem eL_bargain_16 : zD KL_bargain 16 (.ireturn) 1 17 := ⟨dL_bargain_16, rfl⟩
theorem dL_bargain_17 : decode cL_bargain 17 = .ok (.astore 4, 2) := by decide +kernel
theorem eL_bargain_17 : zD KL_bargain 17 (.astore 4) 2 19 := ⟨dL_bargain_17, rfl⟩
theorem dL_bargain_19 : decode cL_bargain 19 = .ok (.iconst 2, 1) := by decide +kernel
theorem eL_bargain_19 : zD KL_bargain 19 (.iconst 2) 1 20 := ⟨dL_bargain_19, rfl⟩
theorem dL_bargain_20 : decode cL_bargain 20 = .ok (.ireturn, 1) := by decide +kernel
theorem eL_bargain_20 : zD KL_bargain 20 (.ireturn) 1 21 := ⟨dL_bargain_20, rfl⟩
theorem dL_bargain_21 : decode cL_bargain 21 = .ok (.iconst 0, 1) := by decide +kernel
theorem eL_bargain_21 : zD KL_bargain 21 (.iconst 0) 1 22 := ⟨dL_bargain_21, rfl⟩
theorem dL_bargain_22 : decode cL_bargain 22 = .ok (.ireturn, 1) := by decide +kernel
theorem eL_bargain_22 : zD KL_bargain 22 (.ireturn) 1 23 := ⟨dL_bargain_22, rfl⟩
theorem dL_like_0 : decode cL_like 0 = .ok (.aload_n 3, 1) := by decide +kernel
theorem eL_like_0 : zD KL_like 0 (.aload_n 3) 1 1 := ⟨dL_like_0, rfl⟩
theorem dL_like_1 : decode cL_like 1 = .ok (.iconst 0, 1) := by decide +kernel
theorem eL_like_1 : zD KL_like 1 (.iconst 0) 1 2 := ⟨dL_like_1, rfl⟩
theorem dL_like_2 : decode cL_like 2 = .ok (.aload_n 0, 1) := by decide +kernel
theorem eL_like_2 : zD KL_like 2 (.aload_n 0) 1 3 := ⟨dL_like_2, rfl⟩
theorem dL_like_3 : decode cL_like 3 = .ok (.iload_n 1, 1) := by decide +kernel
theorem eL_like_3 : zD KL_like 3 (.iload_n 1) 1 4 := ⟨dL_like_3, rfl⟩
theorem dL_like_4 : decode cL_like 4 = .ok (.iload_n 2, 1) := by decide +kernel
theorem eL_like_4 : zD KL_like 4 (.iload_n 2) 1 5 := ⟨dL_like_4, rfl⟩
theorem dL_like_5 : decode cL_like 5 = .ok (.invokevirtual 126, 3) := by decide +kernel
theorem eL_like_5 : zD KL_like 5 (.invokevirtual 126) 3 8 := ⟨dL_like_5, rfl⟩
theorem dL_like_8 : decode cL_like 8 = .ok (.i2l, 1) := by decide +kernel
theorem eL_like_8 : zD KL_like 8 (.i2l) 1 9 := ⟨dL_like_8, rfl⟩
theorem dL_like_9 : decode cL_like 9 = .ok (.lastore, 1) := by decide +kernel
theorem eL_like_9 : zD KL_like 9 (.lastore) 1 10 := ⟨dL_like_9, rfl⟩
theorem dL_like_10 : decode cL_like 10 = .ok (.goto 11, 3) := by decide +kernel
theorem eL_like_10 : zD KL_like 10 (.goto 11) 3 13 := ⟨dL_like_10, rfl⟩
theorem dL_like_13 : decode cL_like 13 = .ok (.astore 4, 2) := by decide +kernel
theorem eL_like_13 : zD KL_like 13 (.astore 4) 2 15 := ⟨dL_like_13, rfl⟩
theorem dL_like_15 : decode cL_like 15 = .ok (.iconst 1, 1) := by decide +kernel
theorem eL_like_15 : zD KL_like 15 (.iconst 1) 1 16 := ⟨dL_like_15, rfl⟩
theorem dL_like_16 : decode cL_like 16 = .ok (.ireturn, 1) := by decide +kernel
theorem eL_like_16 : zD KL_like 16 (.ireturn) 1 17 := ⟨dL_like_16, rfl⟩
theorem dL_like_17 : decode cL_like 17 = .ok (.astore 4, 2) := by decide +kernel
theorem eL_like_17 : zD KL_like 17 (.astore 4) 2 19 := ⟨dL_like_17, rfl⟩
theorem dL_like_19 : decode cL_like 19 = .ok (.iconst 2, 1) := by decide +kernel
theorem eL_like_19 : zD KL_like 19 (.iconst 2) 1 20 := ⟨dL_like_19, rfl⟩
theorem dL_like_20 : decode cL_like 20 = .ok (.ireturn, 1) := by decide +kernel
theorem eL_like_20 : zD KL_like 20 (.ireturn) 1 21 := ⟨dL_like_20, rfl⟩
theorem dL_like_21 : decode cL_like 21 = .ok (.iconst 0, 1) := by decide +kernel
theorem eL_like_21 : zD KL_like 21 (.iconst 0) 1 22 := ⟨dL_like_21, rfl⟩
theorem dL_like_22 : decode cL_like 22 = .ok (.ireturn, 1) := by decide +kernel
theorem eL_like_22 : zD KL_like 22 (.ireturn) 1 23 := ⟨dL_like_22, rfl⟩
theorem dL_dry_0 : decode cL_dry 0 = .ok (.aload_n 2, 1) := by decide +kernel
theorem eL_dry_0 : zD KL_dry 0 (.aload_n 2) 1 1 := ⟨dL_dry_0, rfl⟩
theorem dL_dry_1 : decode cL_dry 1 = .ok (.iconst 0, 1) := by decide +kernel
theorem eL_dry_1 : zD KL_dry 1 (.iconst 0) 1 2 := ⟨dL_dry_1, rfl⟩
theorem dL_dry_2 : decode cL_dry 2 = .ok (.aload_n 0, 1) := by decide +kernel
theorem eL_dry_2 : zD KL_dry 2 (.aload_n 0) 1 3 := ⟨dL_dry_2, rfl⟩
theorem dL_dry_3 : decode cL_dry 3 = .ok (.iload_n 1, 1) := by decide +kernel
theorem eL_dry_3 : zD KL_dry 3 (.iload_n 1) 1 4 := ⟨dL_dry_3, rfl⟩
theorem dL_dry_4 : decode cL_dry 4 = .ok (.invokevirtual 129, 3) := by decide +kernel
theorem eL_dry_4 : zD KL_dry 4 (.invokevirtual 129) 3 7 := ⟨dL_dry_4, rfl⟩
theorem dL_dry_7 : decode cL_dry 7 = .ok (.i2l, 1) := by decide +kernel
theorem eL_dry_7 : zD KL_dry 7 (.i2l) 1 8 := ⟨dL_dry_7, rfl⟩
theorem dL_dry_8 : decode cL_dry 8 = .ok (.lastore, 1) := by decide +kernel
theorem eL_dry_8 : zD KL_dry 8 (.lastore) 1 9 := ⟨dL_dry_8, rfl⟩
theorem dL_dry_9 : decode cL_dry 9 = .ok (.goto 6, 3) := by decide +kernel
theorem eL_dry_9 : zD KL_dry 9 (.goto 6) 3 12 := ⟨dL_dry_9, rfl⟩
theorem dL_dry_12 : decode cL_dry 12 = .ok (.astore_n 3, 1) := by decide +kernel
theorem eL_dry_12 : zD KL_dry 12 (.astore_n 3) 1 13 := ⟨dL_dry_12, rfl⟩
theorem dL_dry_13 : decode cL_dry 13 = .ok (.iconst 1, 1) := by decide +kernel
theorem eL_dry_13 : zD KL_dry 13 (.iconst 1) 1 14 := ⟨dL_dry_13, rfl⟩
theorem dL_dry_14 : decode cL_dry 14 = .ok (.ireturn, 1) := by decide +kernel
theorem eL_dry_14 : zD KL_dry 14 (.ireturn) 1 15 := ⟨dL_dry_14, rfl⟩
theorem dL_dry_15 : decode cL_dry 15 = .ok (.iconst 0, 1) := by decide +kernel
theorem eL_dry_15 : zD KL_dry 15 (.iconst 0) 1 16 := ⟨dL_dry_15, rfl⟩
theorem dL_dry_16 : decode cL_dry 16 = .ok (.ireturn, 1) := by decide +kernel
theorem eL_dry_16 : zD KL_dry 16 (.ireturn) 1 17 := ⟨dL_dry_16, rfl⟩
theorem dL_drought_0 : decode cL_drought 0 = .ok (.aload_n 2, 1) := by decide +kernel
theorem eL_drought_0 : zD KL_drought 0 (.aload_n 2) 1 1 := ⟨dL_drought_0, rfl⟩
theorem dL_drought_1 : decode cL_drought 1 = .ok (.iconst 0, 1) := by decide +kernel
theorem eL_drought_1 : zD KL_drought 1 (.iconst 0) 1 2 := ⟨dL_drought_1, rfl⟩
theorem dL_drought_2 : decode cL_drought 2 = .ok (.aload_n 0, 1) := by decide +kernel
theorem eL_drought_2 : zD KL_drought 2 (.aload_n 0) 1 3 := ⟨dL_drought_2, rfl⟩
theorem dL_drought_3 : decode cL_drought 3 = .ok (.iload_n 1, 1) := by decide +kernel
theorem eL_drought_3 : zD KL_drought 3 (.iload_n 1) 1 4 := ⟨dL_drought_3, rfl⟩
theorem dL_drought_4 : decode cL_drought 4 = .ok (.invokevirtual 132, 3) := by decide +kernel
theorem eL_drought_4 : zD KL_drought 4 (.invokevirtual 132) 3 7 := ⟨dL_drought_4, rfl⟩
theorem dL_drought_7 : decode cL_drought 7 = .ok (.i2l, 1) := by decide +kernel
theorem eL_drought_7 : zD KL_drought 7 (.i2l) 1 8 := ⟨dL_drought_7, rfl⟩
theorem dL_drought_8 : decode cL_drought 8 = .ok (.lastore, 1) := by decide +kernel
theorem eL_drought_8 : zD KL_drought 8 (.lastore) 1 9 := ⟨dL_drought_8, rfl⟩
theorem dL_drought_9 : decode cL_drought 9 = .ok (.goto 6, 3) := by decide +kernel
theorem eL_drought_9 : zD KL_drought 9 (.goto 6) 3 12 := ⟨dL_drought_9, rfl⟩
theorem dL_drought_12 : decode cL_drought 12 = .ok (.astore_n 3, 1) := by decide +kernel
theorem eL_drought_12 : zD KL_drought 12 (.astore_n 3) 1 13 := ⟨dL_drought_12, rfl⟩
theorem dL_drought_13 : decode cL_drought 13 = .ok (.iconst 1, 1) := by decide +kernel
theorem eL_drought_13 : zD KL_drought 13 (.iconst 1) 1 14 := ⟨dL_drought_13, rfl⟩
theorem dL_drought_14 : decode cL_drought 14 = .ok (.ireturn, 1) := by decide +kernel
theorem eL_drought_14 : zD KL_drought 14 (.ireturn) 1 15 := ⟨dL_drought_14, rfl⟩
theorem dL_drought_15 : decode cL_drought 15 = .ok (.iconst 0, 1) := by decide +kernel
theorem eL_drought_15 : zD KL_drought 15 (.iconst 0) 1 16 := ⟨dL_drought_15, rfl⟩
theorem dL_drought_16 : decode cL_drought 16 = .ok (.ireturn, 1) := by decide +kernel
theorem eL_drought_16 : zD KL_drought 16 (.ireturn) 1 17 := ⟨dL_drought_16, rfl⟩
theorem dL_rests_0 : decode cL_rests 0 = .ok (.aload_n 2, 1) := by decide +kernel
theorem eL_rests_0 : zD KL_rests 0 (.aload_n 2) 1 1 := ⟨dL_rests_0, rfl⟩
theorem dL_rests_1 : decode cL_rests 1 = .ok (.iconst 0, 1) := by decide +kernel
theorem eL_rests_1 : zD KL_rests 1 (.iconst 0) 1 2 := ⟨dL_rests_1, rfl⟩
theorem dL_rests_2 : decode cL_rests 2 = .ok (.aload_n 0, 1) := by decide +kernel
theorem eL_rests_2 : zD KL_rests 2 (.aload_n 0) 1 3 := ⟨dL_rests_2, rfl⟩
theorem dL_rests_3 : decode cL_rests 3 = .ok (.iload_n 1, 1) := by decide +kernel
theorem eL_rests_3 : zD KL_rests 3 (.iload_n 1) 1 4 := ⟨dL_rests_3, rfl⟩
theorem dL_rests_4 : decode cL_rests 4 = .ok (.invokevirtual 135, 3) := by decide +kernel
theorem eL_rests_4 : zD KL_rests 4 (.invokevirtual 135) 3 7 := ⟨dL_rests_4, rfl⟩
theorem dL_rests_7 : decode cL_rests 7 = .ok (.i2l, 1) := by decide +kernel
theorem eL_rests_7 : zD KL_rests 7 (.i2l) 1 8 := ⟨dL_rests_7, rfl⟩
theorem dL_rests_8 : decode cL_rests 8 = .ok (.lastore, 1) := by decide +kernel
theorem eL_rests_8 : zD KL_rests 8 (.lastore) 1 9 := ⟨dL_rests_8, rfl⟩
theorem dL_rests_9 : decode cL_rests 9 = .ok (.goto 6, 3) := by decide +kernel
theorem eL_rests_9 : zD KL_rests 9 (.goto 6) 3 12 := ⟨dL_rests_9, rfl⟩
theorem dL_rests_12 : decode cL_rests 12 = .ok (.astore_n 3, 1) := by decide +kernel
theorem eL_rests_12 : zD KL_rests 12 (.astore_n 3) 1 13 := ⟨dL_rests_12, rfl⟩
theorem dL_rests_13 : decode cL_rests 13 = .ok (.iconst 1, 1) := by decide +kernel
theorem eL_rests_13 : zD KL_rests 13 (.iconst 1) 1 14 := ⟨dL_rests_13, rfl⟩
theorem dL_rests_14 : decode cL_rests 14 = .ok (.ireturn, 1) := by decide +kernel
theorem eL_rests_14 : zD KL_rests 14 (.ireturn) 1 15 := ⟨dL_rests_14, rfl⟩
theorem dL_rests_15 : decode cL_rests 15 = .ok (.iconst 0, 1) := by decide +kernel
theorem eL_rests_15 : zD KL_rests 15 (.iconst 0) 1 16 := ⟨dL_rests_15, rfl⟩
theorem dL_rests_16 : decode cL_rests 16 = .ok (.ireturn, 1) := by decide +kernel
theorem eL_rests_16 : zD KL_rests 16 (.ireturn) 1 17 := ⟨dL_rests_16, rfl⟩
theorem dL_trial_0 : decode cL_trial 0 = .ok (.aload_n 3, 1) := by decide +kernel
theorem eL_trial_0 : zD KL_trial 0 (.aload_n 3) 1 1 := ⟨dL_trial_0, rfl⟩
theorem dL_trial_1 : decode cL_trial 1 = .ok (.iconst 0, 1) := by decide +kernel
theorem eL_trial_1 : zD KL_trial 1 (.iconst 0) 1 2 := ⟨dL_trial_1, rfl⟩
theorem dL_trial_2 : decode cL_trial 2 = .ok (.aload_n 0, 1) := by decide +kernel
theorem eL_trial_2 : zD KL_trial 2 (.aload_n 0) 1 3 := ⟨dL_trial_2, rfl⟩
theorem dL_trial_3 : decode cL_trial 3 = .ok (.iload_n 1, 1) := by decide +kernel
theorem eL_trial_3 : zD KL_trial 3 (.iload_n 1) 1 4 := ⟨dL_trial_3, rfl⟩
theorem dL_trial_4 : decode cL_trial 4 = .ok (.iload_n 2, 1) := by decide +kernel
theorem eL_trial_4 : zD KL_trial 4 (.iload_n 2) 1 5 := ⟨dL_trial_4, rfl⟩
theorem dL_trial_5 : decode cL_trial 5 = .ok (.invokevirtual 138, 3) := by decide +kernel
theorem eL_trial_5 : zD KL_trial 5 (.invokevirtual 138) 3 8 := ⟨dL_trial_5, rfl⟩
theorem dL_trial_8 : decode cL_trial 8 = .ok (.i2l, 1) := by decide +kernel
theorem eL_trial_8 : zD KL_trial 8 (.i2l) 1 9 := ⟨dL_trial_8, rfl⟩
theorem dL_trial_9 : decode cL_trial 9 = .ok (.lastore, 1) := by decide +kernel
theorem eL_trial_9 : zD KL_trial 9 (.lastore) 1 10 := ⟨dL_trial_9, rfl⟩
theorem dL_trial_10 : decode cL_trial 10 = .ok (.goto 7, 3) := by decide +kernel
theorem eL_trial_10 : zD KL_trial 10 (.goto 7) 3 13 := ⟨dL_trial_10, rfl⟩
theorem dL_trial_13 : decode cL_trial 13 = .ok (.astore 4, 2) := by decide +kernel
theorem eL_trial_13 : zD KL_trial 13 (.astore 4) 2 15 := ⟨dL_trial_13, rfl⟩
theorem dL_trial_15 : decode cL_trial 15 = .ok (.iconst 1, 1) := by decide +kernel
theorem eL_trial_15 : zD KL_trial 15 (.iconst 1) 1 16 := ⟨dL_trial_15, rfl⟩
theorem dL_trial_16 : decode cL_trial 16 = .ok (.ireturn, 1) := by decide +kernel
theorem eL_trial_16 : zD KL_trial 16 (.ireturn) 1 17 := ⟨dL_trial_16, rfl⟩
theorem dL_trial_17 : decode cL_trial 17 = .ok (.iconst 0, 1) := by decide +kernel
theorem eL_trial_17 : zD KL_trial 17 (.iconst 0) 1 18 := ⟨dL_trial_17, rfl⟩
theorem dL_trial_18 : decode cL_trial 18 = .ok (.ireturn, 1) := by decide +kernel
theorem eL_trial_18 : zD KL_trial 18 (.ireturn) 1 19 := ⟨dL_trial_18, rfl⟩
theorem dL_span_0 : decode cL_span 0 = .ok (.aload_n 3, 1) := by decide +kernel
theorem eL_span_0 : zD KL_span 0 (.aload_n 3) 1 1 := ⟨dL_span_0, rfl⟩
theorem dL_span_1 : decode cL_span 1 = .ok (.iconst 0, 1) := by decide +kernel
theorem eL_span_1 : zD KL_span 1 (.iconst 0) 1 2 := ⟨dL_span_1, rfl⟩
theorem dL_span_2 : decode cL_span 2 = .ok (.aload_n 0, 1) := by decide +kernel
theorem eL_span_2 : zD KL_span 2 (.aload_n 0) 1 3 := ⟨dL_span_2, rfl⟩
theorem dL_span_3 : decode cL_span 3 = .ok (.iload_n 1, 1) := by decide +kernel
theorem eL_span_3 : zD KL_span 3 (.iload_n 1) 1 4 := ⟨dL_span_3, rfl⟩
theorem dL_span_4 : decode cL_span 4 = .ok (.iload_n 2, 1) := by decide +kernel
theorem eL_span_4 : zD KL_span 4 (.iload_n 2) 1 5 := ⟨dL_span_4, rfl⟩
theorem dL_span_5 : decode cL_span 5 = .ok (.invokevirtual 141, 3) := by decide +kernel
theorem eL_span_5 : zD KL_span 5 (.invokevirtual 141) 3 8 := ⟨dL_span_5, rfl⟩
theorem dL_span_8 : decode cL_span 8 = .ok (.i2l, 1) := by decide +kernel
theorem eL_span_8 : zD KL_span 8 (.i2l) 1 9 := ⟨dL_span_8, rfl⟩
theorem dL_span_9 : decode cL_span 9 = .ok (.lastore, 1) := by decide +kernel
theorem eL_span_9 : zD KL_span 9 (.lastore) 1 10 := ⟨dL_span_9, rfl⟩
theorem dL_span_10 : decode cL_span 10 = .ok (.goto 7, 3) := by decide +kernel
theorem eL_span_10 : zD KL_span 10 (.goto 7) 3 13 := ⟨dL_span_10, rfl⟩
theorem dL_span_13 : decode cL_span 13 = .ok (.astore 4, 2) := by decide +kernel
theorem eL_span_13 : zD KL_span 13 (.astore 4) 2 15 := ⟨dL_span_13, rfl⟩
theorem dL_span_15 : decode cL_span 15 = .ok (.iconst 1, 1) := by decide +kernel
theorem eL_span_15 : zD KL_span 15 (.iconst 1) 1 16 := ⟨dL_span_15, rfl⟩
theorem dL_span_16 : decode cL_span 16 = .ok (.ireturn, 1) := by decide +kernel
theorem eL_span_16 : zD KL_span 16 (.ireturn) 1 17 := ⟨dL_span_16, rfl⟩
theorem dL_span_17 : decode cL_span 17 = .ok (.iconst 0, 1) := by decide +kernel
theorem eL_span_17 : zD KL_span 17 (.iconst 0) 1 18 := ⟨dL_span_17, rfl⟩
theorem dL_span_18 : decode cL_span 18 = .ok (.ireturn, 1) := by decide +kernel
theorem eL_span_18 : zD KL_span 18 (.ireturn) 1 19 := ⟨dL_span_18, rfl⟩
theorem dL_led_0 : decode cL_led 0 = .ok (.aload_n 3, 1) := by decide +kernel
theorem eL_led_0 : zD KL_led 0 (.aload_n 3) 1 1 := ⟨dL_led_0, rfl⟩
theorem dL_led_1 : decode cL_led 1 = .ok (.iconst 0, 1) := by decide +kernel
theorem eL_led_1 : zD KL_led 1 (.iconst 0) 1 2 := ⟨dL_led_1, rfl⟩
theorem dL_led_2 : decode cL_led 2 = .ok (.aload_n 0, 1) := by decide +kernel
theorem eL_led_2 : zD KL_led 2 (.aload_n 0) 1 3 := ⟨dL_led_2, rfl⟩
theorem dL_led_3 : decode cL_led 3 = .ok (.iload_n 1, 1) := by decide +kernel
theorem eL_led_3 : zD KL_led 3 (.iload_n 1) 1 4 := ⟨dL_led_3, rfl⟩
theorem dL_led_4 : decode cL_led 4 = .ok (.iload_n 2, 1) := by decide +kernel
theorem eL_led_4 : zD KL_led 4 (.iload_n 2) 1 5 := ⟨dL_led_4, rfl⟩
theorem dL_led_5 : decode cL_led 5 = .ok (.invokevirtual 144, 3) := by decide +kernel
theorem eL_led_5 : zD KL_led 5 (.invokevirtual 144) 3 8 := ⟨dL_led_5, rfl⟩
theorem dL_led_8 : decode cL_led 8 = .ok (.i2l, 1) := by decide +kernel
theorem eL_led_8 : zD KL_led 8 (.i2l) 1 9 := ⟨dL_led_8, rfl⟩
theorem dL_led_9 : decode cL_led 9 = .ok (.lastore, 1) := by decide +kernel
theorem eL_led_9 : zD KL_led 9 (.lastore) 1 10 := ⟨dL_led_9, rfl⟩
theorem dL_led_10 : decode cL_led 10 = .ok (.goto 7, 3) := by decide +kernel
theorem eL_led_10 : zD KL_led 10 (.goto 7) 3 13 := ⟨dL_led_10, rfl⟩
theorem dL_led_13 : decode cL_led 13 = .ok (.astore 4, 2) := by decide +kernel
theorem eL_led_13 : zD KL_led 13 (.astore 4) 2 15 := ⟨dL_led_13, rfl⟩
theorem dL_led_15 : decode cL_led 15 = .ok (.iconst 1, 1) := by decide +kernel
theorem eL_led_15 : zD KL_led 15 (.iconst 1) 1 16 := ⟨dL_led_15, rfl⟩
theorem dL_led_16 : decode cL_led 16 = .ok (.ireturn, 1) := by decide +kernel
theorem eL_led_16 : zD KL_led 16 (.ireturn) 1 17 := ⟨dL_led_16, rfl⟩
theorem dL_led_17 : decode cL_led 17 = .ok (.iconst 0, 1) := by decide +kernel
theorem eL_led_17 : zD KL_led 17 (.iconst 0) 1 18 := ⟨dL_led_17, rfl⟩
theorem dL_led_18 : decode cL_led 18 = .ok (.ireturn, 1) := by decide +kernel
theorem eL_led_18 : zD KL_led 18 (.ireturn) 1 19 := ⟨dL_led_18, rfl⟩
theorem dL_log_0 : decode cL_log 0 = .ok (.aload_n 3, 1) := by decide +kernel
theorem eL_log_0 : zD KL_log 0 (.aload_n 3) 1 1 := ⟨dL_log_0, rfl⟩
theorem dL_log_1 : decode cL_log 1 = .ok (.iconst 0, 1) := by decide +kernel
theorem eL_log_1 : zD KL_log 1 (.iconst 0) 1 2 := ⟨dL_log_1, rfl⟩
theorem dL_log_2 : decode cL_log 2 = .ok (.aload_n 0, 1) := by decide +kernel
theorem eL_log_2 : zD KL_log 2 (.aload_n 0) 1 3 := ⟨dL_log_2, rfl⟩
theorem dL_log_3 : decode cL_log 3 = .ok (.iload_n 1, 1) := by decide +kernel
theorem eL_log_3 : zD KL_log 3 (.iload_n 1) 1 4 := ⟨dL_log_3, rfl⟩
theorem dL_log_4 : decode cL_log 4 = .ok (.iload_n 2, 1) := by decide +kernel
theorem eL_log_4 : zD KL_log 4 (.iload_n 2) 1 5 := ⟨dL_log_4, rfl⟩
theorem dL_log_5 : decode cL_log 5 = .ok (.invokevirtual 147, 3) := by decide +kernel
theorem eL_log_5 : zD KL_log 5 (.invokevirtual 147) 3 8 := ⟨dL_log_5, rfl⟩
theorem dL_log_8 : decode cL_log 8 = .ok (.i2l, 1) := by decide +kernel
theorem eL_log_8 : zD KL_log 8 (.i2l) 1 9 := ⟨dL_log_8, rfl⟩
theorem dL_log_9 : decode cL_log 9 = .ok (.lastore, 1) := by decide +kernel
theorem eL_log_9 : zD KL_log 9 (.lastore) 1 10 := ⟨dL_log_9, rfl⟩
theorem dL_log_10 : decode cL_log 10 = .ok (.goto 7, 3) := by decide +kernel
theorem eL_log_10 : zD KL_log 10 (.goto 7) 3 13 := ⟨dL_log_10, rfl⟩
theorem dL_log_13 : decode cL_log 13 = .ok (.astore 4, 2) := by decide +kernel
theorem eL_log_13 : zD KL_log 13 (.astore 4) 2 15 := ⟨dL_log_13, rfl⟩
theorem dL_log_15 : decode cL_log 15 = .ok (.iconst 1, 1) := by decide +kernel
theorem eL_log_15 : zD KL_log 15 (.iconst 1) 1 16 := ⟨dL_log_15, rfl⟩
theorem dL_log_16 : decode cL_log 16 = .ok (.ireturn, 1) := by decide +kernel
theorem eL_log_16 : zD KL_log 16 (.ireturn) 1 17 := ⟨dL_log_16, rfl⟩
theorem dL_log_17 : decode cL_log 17 = .ok (.iconst 0, 1) := by decide +kernel
theorem eL_log_17 : zD KL_log 17 (.iconst 0) 1 18 := ⟨dL_log_17, rfl⟩
theorem dL_log_18 : decode cL_log 18 = .ok (.ireturn, 1) := by decide +kernel
theorem eL_log_18 : zD KL_log 18 (.ireturn) 1 19 := ⟨dL_log_18, rfl⟩
abbrev KL_law_ : zK := (yL_law_, cL_law_, 7, some .boolean, [])
