theorem dL_coast_0 : decode cL_coast 0 = .ok (.aload_n 1, 1) := by decide +kernel
theorem eL_coast_0 : zD KL_coast 0 (.aload_n 1) 1 1 := ⟨dL_coast_0, rfl⟩
theorem dL_coast_1 : decode cL_coast 1 = .ok (.iconst 0, 1) := by decide +kernel
theorem eL_coast_1 : zD KL_coast 1 (.iconst 0) 1 2 := ⟨dL_coast_1, rfl⟩
theorem dL_coast_2 : decode cL_coast 2 = .ok (.aload_n 0, 1) := by decide +kernel
theorem eL_coast_2 : zD KL_coast 2 (.aload_n 0) 1 3 := ⟨dL_coast_2, rfl⟩
theorem dL_coast_3 : decode cL_coast 3 = .ok (.invokevirtual 7, 3) := by decide +kernel
theorem eL_coast_3 : zD KL_coast 3 (.invokevirtual 7) 3 6 := ⟨dL_coast_3, rfl⟩
theorem dL_coast_6 : decode cL_coast 6 = .ok (.i2l, 1) := by decide +kernel
theorem eL_coast_6 : zD KL_coast 6 (.i2l) 1 7 := ⟨dL_coast_6, rfl⟩
theorem dL_coast_7 : decode cL_coast 7 = .ok (.lastore, 1) := by decide +kernel
theorem eL_coast_7 : zD KL_coast 7 (.lastore) 1 8 := ⟨dL_coast_7, rfl⟩
theorem dL_coast_8 : decode cL_coast 8 = .ok (.goto 9, 3) := by decide +kernel
theorem eL_coast_8 : zD KL_coast 8 (.goto 9) 3 11 := ⟨dL_coast_8, rfl⟩
theorem dL_coast_11 : decode cL_coast 11 = .ok (.astore_n 2, 1) := by decide +kernel
theorem eL_coast_11 : zD KL_coast 11 (.astore_n 2) 1 12 := ⟨dL_coast_11, rfl⟩
theorem dL_coast_12 : decode cL_coast 12 = .ok (.iconst 1, 1) := by decide +kernel
theorem eL_coast_12 : zD KL_coast 12 (.iconst 1) 1 13 := ⟨dL_coast_12, rfl⟩
theorem dL_coast_13 : decode cL_coast 13 = .ok (.ireturn, 1) := by decide +kernel
theorem eL_coast_13 : zD KL_coast 13 (.ireturn) 1 14 := ⟨dL_coast_13, rfl⟩
theorem dL_coast_14 : decode cL_coast 14 = .ok (.astore_n 2, 1) := by decide +kernel
theorem eL_coast_14 : zD KL_coast 14 (.astore_n 2) 1 15 := ⟨dL_coast_14, rfl⟩
theorem dL_coast_15 : decode cL_coast 15 = .ok (.iconst 2, 1) := by decide +kernel
theorem eL_coast_15 : zD KL_coast 15 (.iconst 2) 1 16 := ⟨dL_coast_15, rfl⟩
theorem dL_coast_16 : decode cL_coast 16 = .ok (.ireturn, 1) := by decide +kernel
theorem eL_coast_16 : zD KL_coast 16 (.ireturn) 1 17 := ⟨dL_coast_16, rfl⟩
theorem dL_coast_17 : decode cL_coast 17 = .ok (.iconst 0, 1) := by decide +kernel
theorem eL_coast_17 : zD KL_coast 17 (.iconst 0) 1 18 := ⟨dL_coast_17, rfl⟩
theorem dL_coast_18 : decode cL_coast 18 = .ok (.ireturn, 1) := by decide +kernel
theorem eL_coast_18 : zD KL_coast 18 (.ireturn) 1 19 := ⟨dL_coast_18, rfl⟩
theorem dL_law_0 : decode cL_law 0 = .ok (.aload_n 1, 1) := by decide +kernel
theorem eL_law_0 : zD KL_law 0 (.aload_n 1) 1 1 := ⟨dL_law_0, rfl⟩
theorem dL_law_1 : decode cL_law 1 = .ok (.iconst 0, 1) := by decide +kernel
theorem eL_law_1 : zD KL_law 1 (.iconst 0) 1 2 := ⟨dL_law_1, rfl⟩
theorem dL_law_2 : decode cL_law 2 = .ok (.aload_n 0, 1) := by decide +kernel
theorem eL_law_2 : zD KL_law 2 (.aload_n 0) 1 3 := ⟨dL_law_2, rfl⟩
theorem dL_law_3 : decode cL_law 3 = .ok (.invokevirtual 17, 3) := by decide +kernel
theorem eL_law_3 : zD KL_law 3 (.invokevirtual 17) 3 6 := ⟨dL_law_3, rfl⟩
theorem dL_law_6 : decode cL_law 6 = .ok (.i2l, 1) := by decide +kernel
theorem eL_law_6 : zD KL_law 6 (.i2l) 1 7 := ⟨dL_law_6, rfl⟩
theorem dL_law_7 : decode cL_law 7 = .ok (.lastore, 1) := by decide +kernel
theorem eL_law_7 : zD KL_law 7 (.lastore) 1 8 := ⟨dL_law_7, rfl⟩
theorem dL_law_8 : decode cL_law 8 = .ok (.goto 6, 3) := by decide +kernel
theorem eL_law_8 : zD KL_law 8 (.goto 6) 3 11 := ⟨dL_law_8, rfl⟩
theorem dL_law_11 : decode cL_law 11 = .ok (.astore_n 2, 1) := by decide +kernel
theorem eL_law_11 : zD KL_law 11 (.astore_n 2) 1 12 := ⟨dL_law_11, rfl⟩
theorem dL_law_12 : decode cL_law 12 = .ok (.iconst 1, 1) := by decide +kernel
theorem eL_law_12 : zD KL_law 12 (.iconst 1) 1 13 := ⟨dL_law_12, rfl⟩
theorem dL_law_13 : decode cL_law 13 = .ok (.ireturn, 1) := by decide +kernel
theorem eL_law_13 : zD KL_law 13 (.ireturn) 1 14 := ⟨dL_law_13, rfl⟩
theorem dL_law_14 : decode cL_law 14 = .ok (.iconst 0, 1) := by decide +kernel
theorem eL_law_14 : zD KL_law 14 (.iconst 0) 1 15 := ⟨dL_law_14, rfl⟩
theorem dL_law_15 : decode cL_law 15 = .ok (.ireturn, 1) := by decide +kernel
theorem eL_law_15 : zD KL_law 15 (.ireturn) 1 16 := ⟨dL_law_15, rfl⟩
theorem dL_member_0 : decode cL_member 0 = .ok (.aload_n 3, 1) := by decide +kernel
theorem eL_member_0 : zD KL_member 0 (.aload_n 3) 1 1 := ⟨dL_member_0, rfl⟩
theorem dL_member_1 : decode cL_member 1 = .ok (.iconst 0, 1) := by decide +kernel
theorem eL_member_1 : zD KL_member 1 (.iconst 0) 1 2 := ⟨dL_member_1, rfl⟩
theorem dL_member_2 : decode cL_member 2 = .ok (.aload_n 0, 1) := by decide +kernel
theorem eL_member_2 : zD KL_member 2 (.aload_n 0) 1 3 := ⟨dL_member_2, rfl⟩
theorem dL_member_3 : decode cL_member 3 = .ok (.iload_n 1, 1) := by decide +kernel
theorem eL_member_3 : zD KL_member 3 (.iload_n 1) 1 4 := ⟨dL_member_3, rfl⟩
theorem dL_member_4 : decode cL_member 4 = .ok (.iload_n 2, 1) := by decide +kernel
theorem eL_member_4 : zD KL_member 4 (.iload_n 2) 1 5 := ⟨dL_member_4, rfl⟩
theorem dL_member_5 : decode cL_member 5 = .ok (.invokevirtual 20, 3) := by decide +kernel
theorem eL_member_5 : zD KL_member 5 (.invokevirtual 20) 3 8 := ⟨dL_member_5, rfl⟩
theorem dL_member_8 : decode cL_member 8 = .ok (.i2l, 1) := by decide +kernel
theorem eL_member_8 : zD KL_member 8 (.i2l) 1 9 := ⟨dL_member_8, rfl⟩
theorem dL_member_9 : decode cL_member 9 = .ok (.lastore, 1) := by decide +kernel
theorem eL_member_9 : zD KL_member 9 (.lastore) 1 10 := ⟨dL_member_9, rfl⟩
theorem dL_member_10 : decode cL_member 10 = .ok (.goto 11, 3) := by decide +kernel
theorem eL_member_10 : zD KL_member 10 (.goto 11) 3 13 := ⟨dL_member_10, rfl⟩
theorem dL_member_13 : decode cL_member 13 = .ok (.astore 4, 2) := by decide +kernel
theorem eL_member_13 : zD KL_member 13 (.astore 4) 2 15 := ⟨dL_member_13, rfl⟩
theorem dL_member_15 : decode cL_member 15 = .ok (.iconst 1, 1) := by decide +kernel
theorem eL_member_15 : zD KL_member 15 (.iconst 1) 1 16 := ⟨dL_member_15, rfl⟩
theorem dL_member_16 : decode cL_member 16 = .ok (.ireturn, 1) := by decide +kernel
theorem eL_member_16 : zD KL_member 16 (.ireturn) 1 17 := ⟨dL_member_16, rfl⟩
theorem dL_member_17 : decode cL_member 17 = .ok (.astore 4, 2) := by decide +kernel
theorem eL_member_17 : zD KL_member 17 (.astore 4) 2 19 := ⟨dL_member_17, rfl⟩
theorem dL_member_19 : decode cL_member 19 = .ok (.iconst 2, 1) := by decide +kernel
theorem eL_member_19 : zD KL_member 19 (.iconst 2) 1 20 := ⟨dL_member_19, rfl⟩
theorem dL_member_20 : decode cL_member 20 = .ok (.ireturn, 1) := by decide +kernel
theorem eL_member_20 : zD KL_member 20 (.ireturn) 1 21 := ⟨dL_member_20, rfl⟩
theorem dL_member_21 : decode cL_member 21 = .ok (.iconst 0, 1) := by decide +kernel
theorem eL_member_21 : zD KL_member 21 (.iconst 0) 1 22 := ⟨dL_member_21, rfl⟩
theorem dL_member_22 : decode cL_member 22 = .ok (.ireturn, 1) := by decide +kernel
theorem eL_member_22 : zD KL_member 22 (.ireturn) 1 23 := ⟨dL_member_22, rfl⟩
theorem dL_motion_0 : decode cL_motion 0 = .ok (.aload_n 3, 1) := by decide +kernel
theorem eL_motion_0 : zD KL_motion 0 (.aload_n 3) 1 1 := ⟨dL_motion_0, rfl⟩
theorem dL_motion_1 : decode cL_motion 1 = .ok (.iconst 0, 1) := by decide +kernel
theorem eL_motion_1 : zD KL_motion 1 (.iconst 0) 1 2 := ⟨dL_motion_1, rfl⟩
theorem dL_motion_2 : decode cL_motion 2 = .ok (.aload_n 0, 1) := by decide +kernel
theorem eL_motion_2 : zD KL_motion 2 (.aload_n 0) 1 3 := ⟨dL_motion_2, rfl⟩
theorem dL_motion_3 : decode cL_motion 3 = .ok (.iload_n 1, 1) := by decide +kernel
theorem eL_motion_3 : zD KL_motion 3 (.iload_n 1) 1 4 := ⟨dL_motion_3, rfl⟩
theorem dL_motion_4 : decode cL_motion 4 = .ok (.iload_n 2, 1) := by decide +kernel
theorem eL_motion_4 : zD KL_motion 4 (.iload_n 2) 1 5 := ⟨dL_motion_4, rfl⟩
theorem dL_motion_5 : decode cL_motion 5 = .ok (.invokevirtual 28, 3) := by decide +kernel
theorem eL_motion_5 : zD KL_motion 5 (.invokevirtual 28) 3 8 := ⟨dL_motion_5, rfl⟩
theorem dL_motion_8 : decode cL_motion 8 = .ok (.i2l, 1) := by decide +kernel
theorem eL_motion_8 : zD KL_motion 8 (.i2l) 1 9 := ⟨dL_motion_8, rfl⟩
theorem dL_motion_9 : decode cL_motion 9 = .ok (.lastore, 1) := by decide +kernel
theorem eL_motion_9 : zD KL_motion 9 (.lastore) 1 10 := ⟨dL_motion_9, rfl⟩
theorem dL_motion_10 : decode cL_motion 10 = .ok (.goto 11, 3) := by decide +kernel
theorem eL_motion_10 : zD KL_motion 10 (.goto 11) 3 13 := ⟨dL_motion_10, rfl⟩
theorem dL_motion_13 : decode cL_motion 13 = .ok (.astore 4, 2) := by decide +kernel
theorem eL_motion_13 : zD KL_motion 13 (.astore 4) 2 15 := ⟨dL_motion_13, rfl⟩
theorem dL_motion_15 : decode cL_motion 15 = .ok (.iconst 1, 1) := by decide +kernel
theorem eL_motion_15 : zD KL_motion 15 (.iconst 1) 1 16 := ⟨dL_motion_15, rfl⟩
theorem dL_motion_16 : decode cL_motion 16 = .ok (.ireturn, 1) := by decide +kernel
theorem eL_motion_16 : zD KL_motion 16 (.ireturn) 1 17 := ⟨dL_motion_16, rfl⟩
theorem dL_motion_17 : decode cL_motion 17 = .ok (.astore 4, 2) := by decide +kernel
theorem eL_motion_17 : zD KL_motion 17 (.astore 4) 2 19 := ⟨dL_motion_17, rfl⟩
theorem dL_motion_19 : decode cL_motion 19 = .ok (.iconst 2, 1) := by decide +kernel
theorem eL_motion_19 : zD KL_motion 19 (.iconst 2) 1 20 := ⟨dL_motion_19, rfl⟩
theorem dL_motion_20 : decode cL_motion 20 = .ok (.ireturn, 1) := by decide +kernel
theorem eL_motion_20 : zD KL_motion 20 (.ireturn) 1 21 := ⟨dL_motion_20, rfl⟩
theorem dL_motion_21 : decode cL_motion 21 = .ok (.iconst 0, 1) := by decide +kernel
theorem eL_motion_21 : zD KL_motion 21 (.iconst 0) 1 22 := ⟨dL_motion_21, rfl⟩
theorem dL_motion_22 : decode cL_motion 22 = .ok (.ireturn, 1) := by decide +kernel
theorem eL_motion_22 : zD KL_motion 22 (.ireturn) 1 23 := ⟨dL_motion_22, rfl⟩
theorem dL_follows_0 : decode cL_follows 0 = .ok (.aload_n 3, 1) := by decide +kernel
theorem eL_follows_0 : zD KL_follows 0 (.aload_n 3) 1 1 := ⟨dL_follows_0, rfl⟩
theorem dL_follows_1 : decode cL_follows 1 = .ok (.iconst 0, 1) := by decide +kernel
theorem eL_follows_1 : zD KL_follows 1 (.iconst 0) 1 2 := ⟨dL_follows_1, rfl⟩
theorem dL_follows_2 : decode cL_follows 2 = .ok (.aload_n 0, 1) := by decide +kernel
theorem eL_follows_2 : zD KL_follows 2 (.aload_n 0) 1 3 := ⟨dL_follows_2, rfl⟩
theorem dL_follows_3 : decode cL_follows 3 = .ok (.iload_n 1, 1) := by decide +kernel
theorem eL_follows_3 : zD KL_follows 3 (.iload_n 1) 1 4 := ⟨dL_follows_3, rfl⟩
theorem dL_follows_4 : decode cL_follows 4 = .ok (.iload_n 2, 1) := by decide +kernel
theorem eL_follows_4 : zD KL_follows 4 (.iload_n 2) 1 5 := ⟨dL_follows_4, rfl⟩
theorem dL_follows_5 : decode cL_follows 5 = .ok (.invokevirtual 31, 3) := by decide +kernel
theorem eL_follows_5 : zD KL_follows 5 (.invokevirtual 31) 3 8 := ⟨dL_follows_5, rfl⟩
theorem dL_follows_8 : decode cL_follows 8 = .ok (.i2l, 1) := by decide +kernel
theorem eL_follows_8 : zD KL_follows 8 (.i2l) 1 9 := ⟨dL_follows_8, rfl⟩
theorem dL_follows_9 : decode cL_follows 9 = .ok (.lastore, 1) := by decide +kernel
theorem eL_follows_9 : zD KL_follows 9 (.lastore) 1 10 := ⟨dL_follows_9, rfl⟩
theorem dL_follows_10 : decode cL_follows 10 = .ok (.goto 7, 3) := by decide +kernel
theorem eL_follows_10 : zD KL_follows 10 (.goto 7) 3 13 := ⟨dL_follows_10, rfl⟩
theorem dL_follows_13 : decode cL_follows 13 = .ok (.astore 4, 2) := by decide +kernel
theorem eL_follows_13 : zD KL_follows 13 (.astore 4) 2 15 := ⟨dL_follows_13, rfl⟩
theorem dL_follows_15 : decode cL_follows 15 = .ok (.iconst 1, 1) := by decide +kernel
theorem eL_follows_15 : zD KL_follows 15 (.iconst 1) 1 16 := ⟨dL_follows_15, rfl⟩
theorem dL_follows_16 : decode cL_follows 16 = .ok (.ireturn, 1) := by decide +kernel
theorem eL_follows_16 : zD KL_follows 16 (.ireturn) 1 17 := ⟨dL_follows_16, rfl⟩
theorem dL_follows_17 : decode cL_follows 17 = .ok (.iconst 0, 1) := by decide +kernel
theorem eL_follows_17 : zD KL_follows 17 (.iconst 0) 1 18 := ⟨dL_follows_17, rfl⟩
theorem dL_follows_18 : decode cL_follows 18 = .ok (.ireturn, 1) := by decide +kernel
theorem eL_follows_18 : zD KL_follows 18 (.ireturn) 1 19 := ⟨dL_follows_18, rfl⟩
theorem dL_exposed_0 : decode cL_exposed 0 = .ok (.aload_n 2, 1) := by decide +kernel
theorem eL_exposed_0 : zD KL_exposed 0 (.aload_n 2) 1 1 := ⟨dL_exposed_0, rfl⟩
theorem dL_exposed_1 : decode cL_exposed 1 = .ok (.iconst 0, 1) := by decide +kernel
theorem eL_exposed_1 : zD KL_exposed 1 (.iconst 0) 1 2 := ⟨dL_exposed_1, rfl⟩
theorem dL_exposed_2 : decode cL_exposed 2 = .ok (.aload_n 0, 1) := by decide +kernel
theorem eL_exposed_2 : zD KL_exposed 2 (.aload_n 0) 1 3 := ⟨dL_exposed_2, rfl⟩
theorem dL_exposed_3 : decode cL_exposed 3 = .ok (.iload_n 1, 1) := by decide +kernel
theorem eL_exposed_3 : zD KL_exposed 3 (.iload_n 1) 1 4 := ⟨dL_exposed_3, rfl⟩
theorem dL_exposed_4 : decode cL_exposed 4 = .ok (.invokevirtual 34, 3) := by decide +kernel
theorem eL_exposed_4 : zD KL_exposed 4 (.invokevirtual 34) 3 7 := ⟨dL_exposed_4, rfl⟩
theorem dL_exposed_7 : decode cL_exposed 7 = .ok (.i2l, 1) := by decide +kernel
theorem eL_exposed_7 : zD KL_exposed 7 (.i2l) 1 8 := ⟨dL_exposed_7, rfl⟩
theorem dL_exposed_8 : decode cL_exposed 8 = .ok (.lastore, 1) := by decide +kernel
theorem eL_exposed_8 : zD KL_exposed 8 (.lastore) 1 9 := ⟨dL_exposed_8, rfl⟩
theorem dL_exposed_9 : decode cL_exposed 9 = .ok (.goto 6, 3) := by decide +kernel
theorem eL_exposed_9 : zD KL_exposed 9 (.goto 6) 3 12 := ⟨dL_exposed_9, rfl⟩
theorem dL_exposed_12 : decode cL_exposed 12 = .ok (.astore_n 3, 1) := by decide +kernel
theorem eL_exposed_12 : zD KL_exposed 12 (.astore_n 3) 1 13 := ⟨dL_exposed_12, rfl⟩
theorem dL_exposed_13 : decode cL_exposed 13 = .ok (.iconst 1, 1) := by decide +kernel
theorem eL_exposed_13 : zD KL_exposed 13 (.iconst 1) 1 14 := ⟨dL_exposed_13, rfl⟩
theorem dL_exposed_14 : decode cL_exposed 14 = .ok (.ireturn, 1) := by decide +kernel
theorem eL_exposed_14 : zD KL_exposed 14 (.ireturn) 1 15 := ⟨dL_exposed_14, rfl⟩
theorem dL_exposed_15 : decode cL_exposed 15 = .ok (.iconst 0, 1) := by decide +kernel
theorem eL_exposed_15 : zD KL_exposed 15 (.iconst 0) 1 16 := ⟨dL_exposed_15, rfl⟩
theorem dL_exposed_16 : decode cL_exposed 16 = .ok (.ireturn, 1) := by decide +kernel
theorem eL_exposed_16 : zD KL_exposed 16 (.ireturn) 1 17 := ⟨dL_exposed_16, rfl⟩
theorem dL_paper_0 : decode cL_paper 0 = .ok (.aload_n 2, 1) := by decide +kernel
theorem eL_paper_0 : zD KL_paper 0 (.aload_n 2) 1 1 := ⟨dL_paper_0, rfl⟩
theorem dL_paper_1 : decode cL_paper 1 = .ok (.iconst 0, 1) := by decide +kernel
theorem eL_paper_1 : zD KL_paper 1 (.iconst 0) 1 2 := ⟨dL_paper_1, rfl⟩
theorem dL_paper_2 : decode cL_paper 2 = .ok (.aload_n 0, 1) := by decide +kernel
theorem eL_paper_2 : zD KL_paper 2 (.aload_n 0) 1 3 := ⟨dL_paper_2, rfl⟩
theorem dL_paper_3 : decode cL_paper 3 = .ok (.iload_n 1, 1) := by decide +kernel
theorem eL_paper_3 : zD KL_paper 3 (.iload_n 1) 1 4 := ⟨dL_paper_3, rfl⟩
theorem dL_paper_4 : decode cL_paper 4 = .ok (.invokevirtual 38, 3) := by decide +kernel
theorem eL_paper_4 : zD KL_paper 4 (.invokevirtual 38) 3 7 := ⟨dL_paper_4, rfl⟩
theorem dL_paper_7 : decode cL_paper 7 = .ok (.i2l, 1) := by decide +kernel
theorem eL_paper_7 : zD KL_paper 7 (.i2l) 1 8 := ⟨dL_paper_7, rfl⟩
theorem dL_paper_8 : decode cL_paper 8 = .ok (.lastore, 1) := by decide +kernel
theorem eL_paper_8 : zD KL_paper 8 (.lastore) 1 9 := ⟨dL_paper_8, rfl⟩
theorem dL_paper_9 : decode cL_paper 9 = .ok (.goto 6, 3) := by decide +kernel
theorem eL_paper_9 : zD KL_paper 9 (.goto 6) 3 12 := ⟨dL_paper_9, rfl⟩
theorem dL_paper_12 : decode cL_paper 12 = .ok (.astore_n 3, 1) := by decide +kernel
theorem eL_paper_12 : zD KL_paper 12 (.astore_n 3) 1 13 := ⟨dL_paper_12, rfl⟩
theorem dL_paper_13 : decode cL_paper 13 = .ok (.iconst 1, 1) := by decide +kernel
theorem eL_paper_13 : zD KL_paper 13 (.iconst 1) 1 14 := ⟨dL_paper_13, rfl⟩
theorem dL_paper_14 : decode cL_paper 14 = .ok (.ireturn, 1) := by decide +kernel
theorem eL_paper_14 : zD KL_paper 14 (.ireturn) 1 15 := ⟨dL_paper_14, rfl⟩
theorem dL_paper_15 : decode cL_paper 15 = .ok (.iconst 0, 1) := by decide +kernel
theorem eL_paper_15 : zD KL_paper 15 (.iconst 0) 1 16 := ⟨dL_paper_15, rfl⟩
theorem dL_paper_16 : decode cL_paper 16 = .ok (.ireturn, 1) := by decide +kernel
theorem eL_paper_16 : zD KL_paper 16 (.ireturn) 1 17 := ⟨dL_paper_16, rfl⟩
theorem dL_felt_0 : decode cL_felt 0 = .ok (.aload 4, 2) := by decide +kernel
theorem eL_felt_0 : zD KL_felt 0 (.aload 4) 2 2 := ⟨dL_felt_0, rfl⟩
theorem dL_felt_2 : decode cL_felt 2 = .ok (.iconst 0, 1) := by decide +kernel
theorem eL_felt_2 : zD KL_felt 2 (.iconst 0) 1 3 := ⟨dL_felt_2, rfl⟩
theorem dL_felt_3 : decode cL_felt 3 = .ok (.aload_n 0, 1) := by decide +kernel
theorem eL_felt_3 : zD KL_felt 3 (.aload_n 0) 1 4 := ⟨dL_felt_3, rfl⟩
theorem dL_felt_4 : decode cL_felt 4 = .ok (.iload_n 1, 1) := by decide +kernel
theorem eL_felt_4 : zD KL_felt 4 (.iload_n 1) 1 5 := ⟨dL_felt_4, rfl⟩
theorem dL_felt_5 : decode cL_felt 5 = .ok (.iload_n 2, 1) := by decide +kernel
theorem eL_felt_5 : zD KL_felt 5 (.iload_n 2) 1 6 := ⟨dL_felt_5, rfl⟩
theorem dL_felt_6 : decode cL_felt 6 = .ok (.iload_n 3, 1) := by decide +kernel
theorem eL_felt_6 : zD KL_felt 6 (.iload_n 3) 1 7 := ⟨dL_felt_6, rfl⟩
theorem dL_felt_7 : decode cL_felt 7 = .ok (.invokevirtual 41, 3) := by decide +kernel
theorem eL_felt_7 : zD KL_felt 7 (.invokevirtual 41) 3 10 := ⟨dL_felt_7, rfl⟩
theorem dL_felt_10 : decode cL_felt 10 = .ok (.i2l, 1) := by decide +kernel
theorem eL_felt_10 : zD KL_felt 10 (.i2l) 1 11 := ⟨dL_felt_10, rfl⟩
theorem dL_felt_11 : decode cL_felt 11 = .ok (.lastore, 1) := by decide +kernel
theorem eL_felt_11 : zD KL_felt 11 (.lastore) 1 12 := ⟨dL_felt_11, rfl⟩
theorem dL_felt_12 : decode cL_felt 12 = .ok (.goto 7, 3) := by decide +kernel
theorem eL_felt_12 : zD KL_felt 12 (.goto 7) 3 15 := ⟨dL_felt_12, rfl⟩
theorem dL_felt_15 : decode cL_felt 15 = .ok (.astore 5, 2) := by decide +kernel
theorem eL_felt_15 : zD KL_felt 15 (.astore 5) 2 17 := ⟨dL_felt_15, rfl⟩
theorem dL_felt_17 : decode cL_felt 17 = .ok (.iconst 1, 1) := by decide +kernel
theorem eL_felt_17 : zD KL_felt 17 (.iconst 1) 1 18 := ⟨dL_felt_17, rfl⟩
theorem dL_felt_18 : decode cL_felt 18 = .ok (.ireturn, 1) := by decide +kernel
theorem eL_felt_18 : zD KL_felt 18 (.ireturn) 1 19 := ⟨dL_felt_18, rfl⟩
theorem dL_felt_19 : decode cL_felt 19 = .ok (.iconst 0, 1) := by decide +kernel
theorem eL_felt_19 : zD KL_felt 19 (.iconst 0) 1 20 := ⟨dL_felt_19, rfl⟩
theorem dL_felt_20 : decode cL_felt 20 = .ok (.ireturn, 1) := by decide +kernel
theorem eL_felt_20 : zD KL_felt 20 (.ireturn) 1 21 := ⟨dL_felt_20, rfl⟩
theorem dL_goes_0 : decode cL_goes 0 = .ok (.aload 4, 2) := by decide +kernel
theorem eL_goes_0 : zD KL_goes 0 (.aload 4) 2 2 := ⟨dL_goes_0, rfl⟩
theorem dL_goes_2 : decode cL_goes 2 = .ok (.iconst 0, 1) := by decide +kernel
theorem eL_goes_2 : zD KL_goes 2 (.iconst 0) 1 3 := ⟨dL_goes_2, rfl⟩
theorem dL_goes_3 : decode cL_goes 3 = .ok (.aload_n 0, 1) := by decide +kernel
theorem eL_goes_3 : zD KL_goes 3 (.aload_n 0) 1 4 := ⟨dL_goes_3, rfl⟩
theorem dL_goes_4 : decode cL_goes 4 = .ok (.iload_n 1, 1) := by decide +kernel
theorem eL_goes_4 : zD KL_goes 4 (.iload_n 1) 1 5 := ⟨dL_goes_4, rfl⟩
theorem dL_goes_5 : decode cL_goes 5 = .ok (.iload_n 2, 1) := by decide +kernel
theorem eL_goes_5 : zD KL_goes 5 (.iload_n 2) 1 6 := ⟨dL_goes_5, rfl⟩
theorem dL_goes_6 : decode cL_goes 6 = .ok (.iload_n 3, 1) := by decide +kernel
theorem eL_goes_6 : zD KL_goes 6 (.iload_n 3) 1 7 := ⟨dL_goes_6, rfl⟩
theorem dL_goes_7 : decode cL_goes 7 = .ok (.invokevirtual 45, 3) := by decide +kernel
theorem eL_goes_7 : zD KL_goes 7 (.invokevirtual 45) 3 10 := ⟨dL_goes_7, rfl⟩
theorem dL_goes_10 : decode cL_goes 10 = .ok (.i2l, 1) := by decide +kernel
theorem eL_goes_10 : zD KL_goes 10 (.i2l) 1 11 := ⟨dL_goes_10, rfl⟩
theorem dL_goes_11 : decode cL_goes 11 = .ok (.lastore, 1) := by decide +kernel
theorem eL_goes_11 : zD KL_goes 11 (.lastore) 1 12 := ⟨dL_goes_11, rfl⟩
theorem dL_goes_12 : decode cL_goes 12 = .ok (.goto 7, 3) := by decide +kernel
theorem eL_goes_12 : zD KL_goes 12 (.goto 7) 3 15 := ⟨dL_goes_12, rfl⟩
theorem dL_goes_15 : decode cL_goes 15 = .ok (.astore 5, 2) := by decide +kernel
theorem eL_goes_15 : zD KL_goes 15 (.astore 5) 2 17 := ⟨dL_goes_15, rfl⟩
theorem dL_goes_17 : decode cL_goes 17 = .ok (.iconst 1, 1) := by decide +kernel
theorem eL_goes_17 : zD KL_goes 17 (.iconst 1) 1 18 := ⟨dL_goes_17, rfl⟩
theorem dL_goes_18 : decode cL_goes 18 = .ok (.ireturn, 1) := by decide +kernel
theorem eL_goes_18 : zD KL_goes 18 (.ireturn) 1 19 := ⟨dL_goes_18, rfl⟩
theorem dL_goes_19 : decode cL_goes 19 = .ok (.iconst 0, 1) := by decide +kernel
theorem eL_goes_19 : zD KL_goes 19 (.iconst 0) 1 20 := ⟨dL_goes_19, rfl⟩
theorem dL_goes_20 : decode cL_goes 20 = .ok (.ireturn, 1) := by decide +kernel
theorem eL_goes_20 : zD KL_goes 20 (.ireturn) 1 21 := ⟨dL_goes_20, rfl⟩
theorem dL_hours_0 : decode cL_hours 0 = .ok (.aload_n 2, 1) := by decide +kernel
theorem eL_hours_0 : zD KL_hours 0 (.aload_n 2) 1 1 := ⟨dL_hours_0, rfl⟩
theorem dL_hours_1 : decode cL_hours 1 = .ok (.iconst 0, 1) := by decide +kernel
theorem eL_hours_1 : zD KL_hours 1 (.iconst 0) 1 2 := ⟨dL_hours_1, rfl⟩
theorem dL_hours_2 : decode cL_hours 2 = .ok (.aload_n 0, 1) := by decide +kernel
theorem eL_hours_2 : zD KL_hours 2 (.aload_n 0) 1 3 := ⟨dL_hours_2, rfl⟩
theorem dL_hours_3 : decode cL_hours 3 = .ok (.iload_n 1, 1) := by decide +kernel
theorem eL_hours_3 : zD KL_hours 3 (.iload_n 1) 1 4 := ⟨dL_hours_3, rfl⟩
theorem dL_hours_4 : decode cL_hours 4 = .ok (.invokevirtual 48, 3) := by decide +kernel
theorem eL_hours_4 : zD KL_hours 4 (.invokevirtual 48) 3 7 := ⟨dL_hours_4, rfl⟩
theorem dL_hours_7 : decode cL_hours 7 = .ok (.i2l, 1) := by decide +kernel
theorem eL_hours_7 : zD KL_hours 7 (.i2l) 1 8 := ⟨dL_hours_7, rfl⟩
theorem dL_hours_8 : decode cL_hours 8 = .ok (.lastore, 1) := by decide +kernel
theorem eL_hours_8 : zD KL_hours 8 (.lastore) 1 9 := ⟨dL_hours_8, rfl⟩
theorem dL_hours_9 : decode cL_hours 9 = .ok (.goto 6, 3) := by decide +kernel
theorem eL_hours_9 : zD KL_hours 9 (.goto 6) 3 12 := ⟨dL_hours_9, rfl⟩
theorem dL_hours_12 : decode cL_hours 12 = .ok (.astore_n 3, 1) := by decide +kernel
theorem eL_hours_12 : zD KL_hours 12 (.astore_n 3) 1 13 := ⟨dL_hours_12, rfl⟩
theorem dL_hours_13 : decode cL_hours 13 = .ok (.iconst 1, 1) := by decide +kernel
theorem eL_hours_13 : zD KL_hours 13 (.iconst 1) 1 14 := ⟨dL_hours_13, rfl⟩
theorem dL_hours_14 : decode cL_hours 14 = .ok (.ireturn, 1) := by decide +kernel
theorem eL_hours_14 : zD KL_hours 14 (.ireturn) 1 15 := ⟨dL_hours_14, rfl⟩
theorem dL_hours_15 : decode cL_hours 15 = .ok (.iconst 0, 1) := by decide +kernel
theorem eL_hours_15 : zD KL_hours 15 (.iconst 0) 1 16 := ⟨dL_hours_15, rfl⟩
theorem dL_hours_16 : decode cL_hours 16 = .ok (.ireturn, 1) := by decide +kernel
theorem eL_hours_16 : zD KL_hours 16 (.ireturn) 1 17 := ⟨dL_hours_16, rfl⟩
theorem dL_table_0 : decode cL_table 0 = .ok (.aload_n 3, 1) := by decide +kernel
theorem eL_table_0 : zD KL_table 0 (.aload_n 3) 1 1 := ⟨dL_table_0, rfl⟩
theorem dL_table_1 : decode cL_table 1 = .ok (.iconst 0, 1) := by decide +kernel
theorem eL_table_1 : zD KL_table 1 (.iconst 0) 1 2 := ⟨dL_table_1, rfl⟩
theorem dL_table_2 : decode cL_table 2 = .ok (.aload_n 0, 1) := by decide +kernel
theorem eL_table_2 : zD KL_table 2 (.aload_n 0) 1 3 := ⟨dL_table_2, rfl⟩
theorem dL_table_3 : decode cL_table 3 = .ok (.iload_n 1, 1) := by decide +kernel
theorem eL_table_3 : zD KL_table 3 (.iload_n 1) 1 4 := ⟨dL_table_3, rfl⟩
theorem dL_table_4 : decode cL_table 4 = .ok (.iload_n 2, 1) := by decide +kernel
theorem eL_table_4 : zD KL_table 4 (.iload_n 2) 1 5 := ⟨dL_table_4, rfl⟩
theorem dL_table_5 : decode cL_table 5 = .ok (.invokevirtual 51, 3) := by decide +kernel
theorem eL_table_5 : zD KL_table 5 (.invokevirtual 51) 3 8 := ⟨dL_table_5, rfl⟩
theorem dL_table_8 : decode cL_table 8 = .ok (.i2l, 1) := by decide +kernel
theorem eL_table_8 : zD KL_table 8 (.i2l) 1 9 := ⟨dL_table_8, rfl⟩
theorem dL_table_9 : decode cL_table 9 = .ok (.lastore, 1) := by decide +kernel
theorem eL_table_9 : zD KL_table 9 (.lastore) 1 10 := ⟨dL_table_9, rfl⟩
theorem dL_table_10 : decode cL_table 10 = .ok (.goto 11, 3) := by decide +kernel
theorem eL_table_10 : zD KL_table 10 (.goto 11) 3 13 := ⟨dL_table_10, rfl⟩
theorem dL_table_13 : decode cL_table 13 = .ok (.astore 4, 2) := by decide +kernel
theorem eL_table_13 : zD KL_table 13 (.astore 4) 2 15 := ⟨dL_table_13, rfl⟩
theorem dL_table_15 : decode cL_table 15 = .ok (.iconst 1, 1) := by decide +kernel
theorem eL_table_15 : zD KL_table 15 (.iconst 1) 1 16 := ⟨dL_table_15, rfl⟩
theorem dL_table_16 : decode cL_table 16 = .ok (.ireturn, 1) := by decide +kernel
theorem eL_table_16 : zD KL_table 16 (.ireturn) 1 17 := ⟨dL_table_16, rfl⟩
theorem dL_table_17 : decode cL_table 17 = .ok (.astore 4, 2) := by decide +kernel
theorem eL_table_17 : zD KL_table 17 (.astore 4) 2 19 := ⟨dL_table_17, rfl⟩
theorem dL_table_19 : decode cL_table 19 = .ok (.iconst 2, 1) := by decide +kernel
theorem eL_table_19 : zD KL_table 19 (.iconst 2) 1 20 := ⟨dL_table_19, rfl⟩
theorem dL_table_20 : decode cL_table 20 = .ok (.ireturn, 1) := by decide +kernel
theorem eL_table_20 : zD KL_table 20 (.ireturn) 1 21 := ⟨dL_table_20, rfl⟩
theorem dL_table_21 : decode cL_table 21 = .ok (.iconst 0, 1) := by decide +kernel
theorem eL_table_21 : zD KL_table 21 (.iconst 0) 1 22 := ⟨dL_table_21, rfl⟩
theorem dL_table_22 : decode cL_table 22 = .ok (.ireturn, 1) := by decide +kernel
theorem eL_table_22 : zD KL_table 22 (.ireturn) 1 23 := ⟨dL_table_22, rfl⟩
theorem dL_clear_0 : decode cL_clear 0 = .ok (.aload_n 2, 1) := by decide +kernel
theorem eL_clear_0 : zD KL_clear 0 (.aload_n 2) 1 1 := ⟨dL_clear_0, rfl⟩
theorem dL_clear_1 : decode cL_clear 1 = .ok (.iconst 0, 1) := by decide +kernel
theorem eL_clear_1 : zD KL_clear 1 (.iconst 0) 1 2 := ⟨dL_clear_1, rfl⟩
theorem dL_clear_2 : decode cL_clear 2 = .ok (.aload_n 0, 1) := by decide +kernel
theorem eL_clear_2 : zD KL_clear 2 (.aload_n 0) 1 3 := ⟨dL_clear_2, rfl⟩
theorem dL_clear_3 : decode cL_clear 3 = .ok (.iload_n 1, 1) := by decide +kernel
theorem eL_clear_3 : zD KL_clear 3 (.iload_n 1) 1 4 := ⟨dL_clear_3, rfl⟩
theorem dL_clear_4 : decode cL_clear 4 = .ok (.invokevirtual 56, 3) := by decide +kernel
theorem eL_clear_4 : zD KL_clear 4 (.invokevirtual 56) 3 7 := ⟨dL_clear_4, rfl⟩
theorem dL_clear_7 : decode cL_clear 7 = .ok (.i2l, 1) := by decide +kernel
theorem eL_clear_7 : zD KL_clear 7 (.i2l) 1 8 := ⟨dL_clear_7, rfl⟩
theorem dL_clear_8 : decode cL_clear 8 = .ok (.lastore, 1) := by decide +kernel
theorem eL_clear_8 : zD KL_clear 8 (.lastore) 1 9 := ⟨dL_clear_8, rfl⟩
theorem dL_clear_9 : decode cL_clear 9 = .ok (.goto 9, 3) := by decide +kernel
theorem eL_clear_9 : zD KL_clear 9 (.goto 9) 3 12 := ⟨dL_clear_9, rfl⟩
theorem dL_clear_12 : decode cL_clear 12 = .ok (.astore_n 3, 1) := by decide +kernel
theorem eL_clear_12 : zD KL_clear 12 (.astore_n 3) 1 13 := ⟨dL_clear_12, rfl⟩
theorem dL_clear_13 : decode cL_clear 13 = .ok (.iconst 1, 1) := by decide +kernel
theorem eL_clear_13 : zD KL_clear 13 (.iconst 1) 1 14 := ⟨dL_clear_13, rfl⟩
theorem dL_clear_14 : decode cL_clear 14 = .ok (.ireturn, 1) := by decide +kernel
theorem eL_clear_14 : zD KL_clear 14 (.ireturn) 1 15 := ⟨dL_clear_14, rfl⟩
theorem dL_clear_15 : decode cL_clear 15 = .ok (.astore_n 3, 1) := by decide +kernel
theorem eL_clear_15 : zD KL_clear 15 (.astore_n 3) 1 16 := ⟨dL_clear_15, rfl⟩
theorem dL_clear_16 : decode cL_clear 16 = .ok (.iconst 2, 1) := by decide +kernel
theorem eL_clear_16 : zD KL_clear 16 (.iconst 2) 1 17 := ⟨dL_clear_16, rfl⟩
theorem dL_clear_17 : decode cL_clear 17 = .ok (.ireturn, 1) := by decide +kernel
theorem eL_clear_17 : zD KL_clear 17 (.ireturn) 1 18 := ⟨dL_clear_17, rfl⟩
theorem dL_clear_18 : decode cL_clear 18 = .ok (.iconst 0, 1) := by decide +kernel
theorem eL_clear_18 : zD KL_clear 18 (.iconst 0) 1 19 := ⟨dL_clear_18, rfl⟩
theorem dL_clear_19 : decode cL_clear 19 = .ok (.ireturn, 1) := by decide +kernel
theorem eL_clear_19 : zD KL_clear 19 (.ireturn) 1 20 := ⟨dL_clear_19, rfl⟩
theorem dL_hat_0 : decode cL_hat 0 = .ok (.aload_n 3, 1) := by decide +kernel
theorem eL_hat_0 : zD KL_hat 0 (.aload_n 3) 1 1 := ⟨dL_hat_0, rfl⟩
theorem dL_hat_1 : decode cL_hat 1 = .ok (.iconst 0, 1) := by decide +kernel
theorem eL_hat_1 : zD KL_hat 1 (.iconst 0) 1 2 := ⟨dL_hat_1, rfl⟩
theorem dL_hat_2 : decode cL_hat 2 = .ok (.aload_n 0, 1) := by decide +kernel
theorem eL_hat_2 : zD KL_hat 2 (.aload_n 0) 1 3 := ⟨dL_hat_2, rfl⟩
theorem dL_hat_3 : decode cL_hat 3 = .ok (.iload_n 1, 1) := by decide +kernel
theorem eL_hat_3 : zD KL_hat 3 (.iload_n 1) 1 4 := ⟨dL_hat_3, rfl⟩
theorem dL_hat_4 : decode cL_hat 4 = .ok (.iload_n 2, 1) := by decide +kernel
theorem eL_hat_4 : zD KL_hat 4 (.iload_n 2) 1 5 := ⟨dL_hat_4, rfl⟩
theorem dL_hat_5 : decode cL_hat 5 = .ok (.invokevirtual 59, 3) := by decide +kernel
theorem eL_hat_5 : zD KL_hat 5 (.invokevirtual 59) 3 8 := ⟨dL_hat_5, rfl⟩
theorem dL_hat_8 : decode cL_hat 8 = .ok (.ifCond .eq 7, 3) := by decide +kernel
theorem eL_hat_8 : zD KL_hat 8 (.ifCond .eq 7) 3 11 := ⟨dL_hat_8, rfl⟩
theorem dL_hat_11 : decode cL_hat 11 = .ok (.lconst 1, 1) := by decide +kernel
theorem eL_hat_11 : zD KL_hat 11 (.lconst 1) 1 12 := ⟨dL_hat_11, rfl⟩
theorem dL_hat_12 : decode cL_hat 12 = .ok (.goto 4, 3) := by decide +kernel
theorem eL_hat_12 : zD KL_hat 12 (.goto 4) 3 15 := ⟨dL_hat_12, rfl⟩
theorem dL_hat_15 : decode cL_hat 15 = .ok (.lconst 0, 1) := by decide +kernel
theorem eL_hat_15 : zD KL_hat 15 (.lconst 0) 1 16 := ⟨dL_hat_15, rfl⟩
theorem dL_hat_16 : decode cL_hat 16 = .ok (.lastore, 1) := by decide +kernel
theorem eL_hat_16 : zD KL_hat 16 (.lastore) 1 17 := ⟨dL_hat_16, rfl⟩
theorem dL_hat_17 : decode cL_hat 17 = .ok (.goto 7, 3) := by decide +kernel
theorem eL_hat_17 : zD KL_hat 17 (.goto 7) 3 20 := ⟨dL_hat_17, rfl⟩
theorem dL_hat_20 : decode cL_hat 20 = .ok (.astore 4, 2) := by decide +kernel
theorem eL_hat_20 : zD KL_hat 20 (.astore 4) 2 22 := ⟨dL_hat_20, rfl⟩
theorem dL_hat_22 : decode cL_hat 22 = .ok (.iconst 1, 1) := by decide +kernel
theorem eL_hat_22 : zD KL_hat 22 (.iconst 1) 1 23 := ⟨dL_hat_22, rfl⟩
theorem dL_hat_23 : decode cL_hat 23 = .ok (.ireturn, 1) := by decide +kernel
theorem eL_hat_23 : zD KL_hat 23 (.ireturn) 1 24 := ⟨dL_hat_23, rfl⟩
theorem dL_hat_24 : decode cL_hat 24 = .ok (.iconst 0, 1) := by decide +kernel
theorem eL_hat_24 : zD KL_hat 24 (.iconst 0) 1 25 := ⟨dL_hat_24, rfl⟩
theorem dL_hat_25 : decode cL_hat 25 = .ok (.ireturn, 1) := by decide +kernel
theorem eL_hat_25 : zD KL_hat 25 (.ireturn) 1 26 := ⟨dL_hat_25, rfl⟩
theorem dL_out_0 : decode cL_out 0 = .ok (.aload_n 3, 1) := by decide +kernel
theorem eL_out_0 : zD KL_out 0 (.aload_n 3) 1 1 := ⟨dL_out_0, rfl⟩
theorem dL_out_1 : decode cL_out 1 = .ok (.iconst 0, 1) := by decide +kernel
theorem eL_out_1 : zD KL_out 1 (.iconst 0) 1 2 := ⟨dL_out_1, rfl⟩
theorem dL_out_2 : decode cL_out 2 = .ok (.aload_n 0, 1) := by decide +kernel
theorem eL_out_2 : zD KL_out 2 (.aload_n 0) 1 3 := ⟨dL_out_2, rfl⟩
theorem dL_out_3 : decode cL_out 3 = .ok (.iload_n 1, 1) := by decide +kernel
theorem eL_out_3 : zD KL_out 3 (.iload_n 1) 1 4 := ⟨dL_out_3, rfl⟩
theorem dL_out_4 : decode cL_out 4 = .ok (.iload_n 2, 1) := by decide +kernel
theorem eL_out_4 : zD KL_out 4 (.iload_n 2) 1 5 := ⟨dL_out_4, rfl⟩
theorem dL_out_5 : decode cL_out 5 = .ok (.invokevirtual 63, 3) := by decide +kernel
theorem eL_out_5 : zD KL_out 5 (.invokevirtual 63) 3 8 := ⟨dL_out_5, rfl⟩
theorem dL_out_8 : decode cL_out 8 = .ok (.ifCond .eq 7, 3) := by decide +kernel
theorem eL_out_8 : zD KL_out 8 (.ifCond .eq 7) 3 11 := ⟨dL_out_8, rfl⟩
theorem dL_out_11 : decode cL_out 11 = .ok (.lconst 1, 1) := by decide +kernel
theorem eL_out_11 : zD KL_out 11 (.lconst 1) 1 12 := ⟨dL_out_11, rfl⟩
theorem dL_out_12 : decode cL_out 12 = .ok (.goto 4, 3) := by decide +kernel
theorem eL_out_12 : zD KL_out 12 (.goto 4) 3 15 := ⟨dL_out_12, rfl⟩
theorem dL_out_15 : decode cL_out 15 = .ok (.lconst 0, 1) := by decide +kernel
theorem eL_out_15 : zD KL_out 15 (.lconst 0) 1 16 := ⟨dL_out_15, rfl⟩
theorem dL_out_16 : decode cL_out 16 = .ok (.lastore, 1) := by decide +kernel
theorem eL_out_16 : zD KL_out 16 (.lastore) 1 17 := ⟨dL_out_16, rfl⟩
theorem dL_out_17 : decode cL_out 17 = .ok (.goto 7, 3) := by decide +kernel
theorem eL_out_17 : zD KL_out 17 (.goto 7) 3 20 := ⟨dL_out_17, rfl⟩
theorem dL_out_20 : decode cL_out 20 = .ok (.astore 4, 2) := by decide +kernel
theorem eL_out_20 : zD KL_out 20 (.astore 4) 2 22 := ⟨dL_out_20, rfl⟩
theorem dL_out_22 : decode cL_out 22 = .ok (.iconst 1, 1) := by decide +kernel
theorem eL_out_22 : zD KL_out 22 (.iconst 1) 1 23 := ⟨dL_out_22, rfl⟩
theorem dL_out_23 : decode cL_out 23 = .ok (.ireturn, 1) := by decide +kernel
theorem eL_out_23 : zD KL_out 23 (.ireturn) 1 24 := ⟨dL_out_23, rfl⟩
theorem dL_out_24 : decode cL_out 24 = .ok (.iconst 0, 1) := by decide +kernel
theorem eL_out_24 : zD KL_out 24 (.iconst 0) 1 25 := ⟨dL_out_24, rfl⟩
theorem dL_out_25 : decode cL_out 25 = .ok (.ireturn, 1) := by decide +kernel
theorem eL_out_25 : zD KL_out 25 (.ireturn) 1 26 := ⟨dL_out_25, rfl⟩
theorem dL_walk_0 : decode cL_walk 0 = .ok (.aload_n 3, 1) := by decide +kernel
theorem eL_walk_0 : zD KL_walk 0 (.aload_n 3) 1 1 := ⟨dL_walk_0, rfl⟩
theorem dL_walk_1 : decode cL_walk 1 = .ok (.iconst 0, 1) := by decide +kernel
theorem eL_walk_1 : zD KL_walk 1 (.iconst 0) 1 2 := ⟨dL_walk_1, rfl⟩
theorem dL_walk_2 : decode cL_walk 2 = .ok (.aload_n 0, 1) := by decide +kernel
theorem eL_walk_2 : zD KL_walk 2 (.aload_n 0) 1 3 := ⟨dL_walk_2, rfl⟩
theorem dL_walk_3 : decode cL_walk 3 = .ok (.iload_n 1, 1) := by decide +kernel
theorem eL_walk_3 : zD KL_walk 3 (.iload_n 1) 1 4 := ⟨dL_walk_3, rfl⟩
theorem dL_walk_4 : decode cL_walk 4 = .ok (.iload_n 2, 1) := by decide +kernel
theorem eL_walk_4 : zD KL_walk 4 (.iload_n 2) 1 5 := ⟨dL_walk_4, rfl⟩
theorem dL_walk_5 : decode cL_walk 5 = .ok (.invokevirtual 66, 3) := by decide +kernel
theorem eL_walk_5 : zD KL_walk 5 (.invokevirtual 66) 3 8 := ⟨dL_walk_5, rfl⟩
theorem dL_walk_8 : decode cL_walk 8 = .ok (.i2l, 1) := by decide +kernel
theorem eL_walk_8 : zD KL_walk 8 (.i2l) 1 9 := ⟨dL_walk_8, rfl⟩
theorem dL_walk_9 : decode cL_walk 9 = .ok (.lastore, 1) := by decide +kernel
theorem eL_walk_9 : zD KL_walk 9 (.lastore) 1 10 := ⟨dL_walk_9, rfl⟩
theorem dL_walk_10 : decode cL_walk 10 = .ok (.goto 7, 3) := by decide +kernel
theorem eL_walk_10 : zD KL_walk 10 (.goto 7) 3 13 := ⟨dL_walk_10, rfl⟩
theorem dL_walk_13 : decode cL_walk 13 = .ok (.astore 4, 2) := by decide +kernel
theorem eL_walk_13 : zD KL_walk 13 (.astore 4) 2 15 := ⟨dL_walk_13, rfl⟩
theorem dL_walk_15 : decode cL_walk 15 = .ok (.iconst 1, 1) := by decide +kernel
theorem eL_walk_15 : zD KL_walk 15 (.iconst 1) 1 16 := ⟨dL_walk_15, rfl⟩
theorem dL_walk_16 : decode cL_walk 16 = .ok (.ireturn, 1) := by decide +kernel
theorem eL_walk_16 : zD KL_walk 16 (.ireturn) 1 17 := ⟨dL_walk_16, rfl⟩
theorem dL_walk_17 : decode cL_walk 17 = .ok (.iconst 0, 1) := by decide +kernel
theorem eL_walk_17 : zD KL_walk 17 (.iconst 0) 1 18 := ⟨dL_walk_17, rfl⟩
theorem dL_walk_18 : decode cL_walk 18 = .ok (.ireturn, 1) := by decide +kernel
theorem eL_walk_18 : zD KL_walk 18 (.ireturn) 1 19 := ⟨dL_walk_18, rfl⟩
theorem dL_mind_0 : decode cL_mind 0 = .ok (.aload_n 3, 1) := by decide +kernel
theorem eL_mind_0 : zD KL_mind 0 (.aload_n 3) 1 1 := ⟨dL_mind_0, rfl⟩
theorem dL_mind_1 : decode cL_mind 1 = .ok (.iconst 0, 1) := by decide +kernel
theorem eL_mind_1 : zD KL_mind 1 (.iconst 0) 1 2 := ⟨dL_mind_1, rfl⟩
theorem dL_mind_2 : decode cL_mind 2 = .ok (.aload_n 0, 1) := by decide +kernel
theorem eL_mind_2 : zD KL_mind 2 (.aload_n 0) 1 3 := ⟨dL_mind_2, rfl⟩
theorem dL_mind_3 : decode cL_mind 3 = .ok (.iload_n 1, 1) := by decide +kernel
theorem eL_mind_3 : zD KL_mind 3 (.iload_n 1) 1 4 := ⟨dL_mind_3, rfl⟩
theorem dL_mind_4 : decode cL_mind 4 = .ok (.iload_n 2, 1) := by decide +kernel
theorem eL_mind_4 : zD KL_mind 4 (.iload_n 2) 1 5 := ⟨dL_mind_4, rfl⟩
theorem dL_mind_5 : decode cL_mind 5 = .ok (.invokevirtual 69, 3) := by decide +kernel
theorem eL_mind_5 : zD KL_mind 5 (.invokevirtual 69) 3 8 := ⟨dL_mind_5, rfl⟩
theorem dL_mind_8 : decode cL_mind 8 = .ok (.ifCond .eq 7, 3) := by decide +kernel
theorem eL_mind_8 : zD KL_mind 8 (.ifCond .eq 7) 3 11 := ⟨dL_mind_8, rfl⟩
theorem dL_mind_11 : decode cL_mind 11 = .ok (.lconst 1, 1) := by decide +kernel
theorem eL_mind_11 : zD KL_mind 11 (.lconst 1) 1 12 := ⟨dL_mind_11, rfl⟩
theorem dL_mind_12 : decode cL_mind 12 = .ok (.goto 4, 3) := by decide +kernel
theorem eL_mind_12 : zD KL_mind 12 (.goto 4) 3 15 := ⟨dL_mind_12, rfl⟩
theorem dL_mind_15 : decode cL_mind 15 = .ok (.lconst 0, 1) := by decide +kernel
theorem eL_mind_15 : zD KL_mind 15 (.lconst 0) 1 16 := ⟨dL_mind_15, rfl⟩
theorem dL_mind_16 : decode cL_mind 16 = .ok (.lastore, 1) := by decide +kernel
theorem eL_mind_16 : zD KL_mind 16 (.lastore) 1 17 := ⟨dL_mind_16, rfl⟩
theorem dL_mind_17 : decode cL_mind 17 = .ok (.goto 11, 3) := by decide +kernel
theorem eL_mind_17 : zD KL_mind 17 (.goto 11) 3 20 := ⟨dL_mind_17, rfl⟩
theorem dL_mind_20 : decode cL_mind 20 = .ok (.astore 4, 2) := by decide +kernel
theorem eL_mind_20 : zD KL_mind 20 (.astore 4) 2 22 := ⟨dL_mind_20, rfl⟩
theorem dL_mind_22 : decode cL_mind 22 = .ok (.iconst 1, 1) := by decide +kernel
theorem eL_mind_22 : zD KL_mind 22 (.iconst 1) 1 23 := ⟨dL_mind_22, rfl⟩
theorem dL_mind_23 : decode cL_mind 23 = .ok (.ireturn, 1) := by decide +kernel
theorem eL_mind_23 : zD KL_mind 23 (.ireturn) 1 24 := ⟨dL_mind_23, rfl⟩
theorem dL_mind_24 : decode cL_mind 24 = .ok (.astore 4, 2) := by decide +kernel
theorem eL_mind_24 : zD KL_mind 24 (.astore 4) 2 26 := ⟨dL_mind_24, rfl⟩
theorem dL_mind_26 : decode cL_mind 26 = .ok (.iconst 2, 1) := by decide +kernel
theorem eL_mind_26 : zD KL_mind 26 (.iconst 2) 1 27 := ⟨dL_mind_26, rfl⟩
theorem dL_mind_27 : decode cL_mind 27 = .ok (.ireturn, 1) := by decide +kernel
theorem eL_mind_27 : zD KL_mind 27 (.ireturn) 1 28 := ⟨dL_mind_27, rfl⟩
theorem dL_mind_28 : decode cL_mind 28 = .ok (.iconst 0, 1) := by decide +kernel
theorem eL_mind_28 : zD KL_mind 28 (.iconst 0) 1 29 := ⟨dL_mind_28, rfl⟩
theorem dL_mind_29 : decode cL_mind 29 = .ok (.ireturn, 1) := by decide +kernel
theorem eL_mind_29 : zD KL_mind 29 (.ireturn) 1 30 := ⟨dL_mind_29, rfl⟩
theorem dL_seat_0 : decode cL_seat 0 = .ok (.aload_n 3, 1) := by decide +kernel
theorem eL_seat_0 : zD KL_seat 0 (.aload_n 3) 1 1 := ⟨dL_seat_0, rfl⟩
theorem dL_seat_1 : decode cL_seat 1 = .ok (.iconst 0, 1) := by decide +kernel
theorem eL_seat_1 : zD KL_seat 1 (.iconst 0) 1 2 := ⟨dL_seat_1, rfl⟩
theorem dL_seat_2 : decode cL_seat 2 = .ok (.aload_n 0, 1) := by decide +kernel
theorem eL_seat_2 : zD KL_seat 2 (.aload_n 0) 1 3 := ⟨dL_seat_2, rfl⟩
theorem dL_seat_3 : decode cL_seat 3 = .ok (.iload_n 1, 1) := by decide +kernel
theorem eL_seat_3 : zD KL_seat 3 (.iload_n 1) 1 4 := ⟨dL_seat_3, rfl⟩
theorem dL_seat_4 : decode cL_seat 4 = .ok (.iload_n 2, 1) := by decide +kernel
theorem eL_seat_4 : zD KL_seat 4 (.iload_n 2) 1 5 := ⟨dL_seat_4, rfl⟩
theorem dL_seat_5 : decode cL_seat 5 = .ok (.invokevirtual 73, 3) := by decide +kernel
theorem eL_seat_5 : zD KL_seat 5 (.invokevirtual 73) 3 8 := ⟨dL_seat_5, rfl⟩
theorem dL_seat_8 : decode cL_seat 8 = .ok (.i2l, 1) := by decide +kernel
theorem eL_seat_8 : zD KL_seat 8 (.i2l) 1 9 := ⟨dL_seat_8, rfl⟩
theorem dL_seat_9 : decode cL_seat 9 = .ok (.lastore, 1) := by decide +kernel
theorem eL_seat_9 : zD KL_seat 9 (.lastore) 1 10 := ⟨dL_seat_9, rfl⟩
theorem dL_seat_10 : decode cL_seat 10 = .ok (.goto 11, 3) := by decide +kernel
theorem eL_seat_10 : zD KL_seat 10 (.goto 11) 3 13 := ⟨dL_seat_10, rfl⟩
theorem dL_seat_13 : decode cL_seat 13 = .ok (.astore 4, 2) := by decide +kernel
theorem eL_seat_13 : zD KL_seat 13 (.astore 4) 2 15 := ⟨dL_seat_13, rfl⟩
theorem dL_seat_15 : decode cL_seat 15 = .ok (.iconst 1, 1) := by decide +kernel
theorem eL_seat_15 : zD KL_seat 15 (.iconst 1) 1 16 := ⟨dL_seat_15, rfl⟩
theorem dL_seat_16 : decode cL_seat 16 = .ok (.ireturn, 1) := by decide +kernel
theorem eL_seat_16 : zD KL_seat 16 (.ireturn) 1 17 := ⟨dL_seat_16, rfl⟩
theorem dL_seat_17 : decode cL_seat 17 = .ok (.astore 4, 2) := by decide +kernel
theorem eL_seat_17 : zD KL_seat 17 (.astore 4) 2 19 := ⟨dL_seat_17, rfl⟩
theorem dL_seat_19 : decode cL_seat 19 = .ok (.iconst 2, 1) := by decide +kernel
theorem eL_seat_19 : zD KL_seat 19 (.iconst 2) 1 20 := ⟨dL_seat_19, rfl⟩
theorem dL_seat_20 : decode cL_seat 20 = .ok (.ireturn, 1) := by decide +kernel
theorem eL_seat_20 : zD KL_seat 20 (.ireturn) 1 21 := ⟨dL_seat_20, rfl⟩
theorem dL_seat_21 : decode cL_seat 21 = .ok (.iconst 0, 1) := by decide +kernel
theorem eL_seat_21 : zD KL_seat 21 (.iconst 0) 1 22 := ⟨dL_seat_21, rfl⟩
theorem dL_seat_22 : decode cL_seat 22 = .ok (.ireturn, 1) := by decide +kernel
theorem eL_seat_22 : zD KL_seat 22 (.ireturn) 1 23 := ⟨dL_seat_22, rfl⟩
theorem dL_renew_0 : decode cL_renew 0 = .ok (.aload_n 2, 1) := by decide +kernel
theorem eL_renew_0 : zD KL_renew 0 (.aload_n 2) 1 1 := ⟨dL_renew_0, rfl⟩
theorem dL_renew_1 : decode cL_renew 1 = .ok (.iconst 0, 1) := by decide +kernel
theorem eL_renew_1 : zD KL_renew 1 (.iconst 0) 1 2 := ⟨dL_renew_1, rfl⟩
theorem dL_renew_2 : decode cL_renew 2 = .ok (.aload_n 0, 1) := by decide +kernel
theorem eL_renew_2 : zD KL_renew 2 (.aload_n 0) 1 3 := ⟨dL_renew_2, rfl⟩
theorem dL_renew_3 : decode cL_renew 3 = .ok (.iload_n 1, 1) := by decide +kernel
theorem eL_renew_3 : zD KL_renew 3 (.iload_n 1) 1 4 := ⟨dL_renew_3, rfl⟩
theorem dL_renew_4 : decode cL_renew 4 = .ok (.invokevirtual 76, 3) := by decide +kernel
theorem eL_renew_4 : zD KL_renew 4 (.invokevirtual 76) 3 7 := ⟨dL_renew_4, rfl⟩
theorem dL_renew_7 : decode cL_renew 7 = .ok (.i2l, 1) := by decide +kernel
theorem eL_renew_7 : zD KL_renew 7 (.i2l) 1 8 := ⟨dL_renew_7, rfl⟩
theorem dL_renew_8 : decode cL_renew 8 = .ok (.lastore, 1) := by decide +kernel
theorem eL_renew_8 : zD KL_renew 8 (.lastore) 1 9 := ⟨dL_renew_8, rfl⟩
theorem dL_renew_9 : decode cL_renew 9 = .ok (.goto 9, 3) := by decide +kernel
theorem eL_renew_9 : zD KL_renew 9 (.goto 9) 3 12 := ⟨dL_renew_9, rfl⟩
theorem dL_renew_12 : decode cL_renew 12 = .ok (.astore_n 3, 1) := by decide +kernel
theorem eL_renew_12 : zD KL_renew 12 (.astore_n 3) 1 13 := ⟨dL_renew_12, rfl⟩
theorem dL_renew_13 : decode cL_renew 13 = .ok (.iconst 1, 1) := by decide +kernel
theorem eL_renew_13 : zD KL_renew 13 (.iconst 1) 1 14 := ⟨dL_renew_13, rfl⟩
theorem dL_renew_14 : decode cL_renew 14 = .ok (.ireturn, 1) := by decide +kernel
theorem eL_renew_14 : zD KL_renew 14 (.ireturn) 1 15 := ⟨dL_renew_14, rfl⟩
theorem dL_renew_15 : decode cL_renew 15 = .ok (.astore_n 3, 1) := by decide +kernel
theorem eL_renew_15 : zD KL_renew 15 (.astore_n 3) 1 16 := ⟨dL_renew_15, rfl⟩
theorem dL_renew_16 : decode cL_renew 16 = .ok (.iconst 2, 1) := by decide +kernel
theorem eL_renew_16 : zD KL_renew 16 (.iconst 2) 1 17 := ⟨dL_renew_16, rfl⟩
theorem dL_renew_17 : decode cL_renew 17 = .ok (.ireturn, 1) := by decide +kernel
theorem eL_renew_17 : zD KL_renew 17 (.ireturn) 1 18 := ⟨dL_renew_17, rfl⟩
theorem dL_renew_18 : decode cL_renew 18 = .ok (.iconst 0, 1) := by decide +kernel
theorem eL_renew_18 : zD KL_renew 18 (.iconst 0) 1 19 := ⟨dL_renew_18, rfl⟩
theorem dL_renew_19 : decode cL_renew 19 = .ok (.ireturn, 1) := by decide +kernel
theorem eL_renew_19 : zD KL_renew 19 (.ireturn) 1 20 := ⟨dL_renew_19, rfl⟩
theorem dL_chance_0 : decode cL_chance 0 = .ok (.aload_n 3, 1) := by decide +kernel
theorem eL_chance_0 : zD KL_chance 0 (.aload_n 3) 1 1 := ⟨dL_chance_0, rfl⟩
theorem dL_chance_1 : decode cL_chance 1 = .ok (.iconst 0, 1) := by decide +kernel
theorem eL_chance_1 : zD KL_chance 1 (.iconst 0) 1 2 := ⟨dL_chance_1, rfl⟩
theorem dL_chance_2 : decode cL_chance 2 = .ok (.aload_n 0, 1) := by decide +kernel
theorem eL_chance_2 : zD KL_chance 2 (.aload_n 0) 1 3 := ⟨dL_chance_2, rfl⟩
theorem dL_chance_3 : decode cL_chance 3 = .ok (.iload_n 1, 1) := by decide +kernel
theorem eL_chance_3 : zD KL_chance 3 (.iload_n 1) 1 4 := ⟨dL_chance_3, rfl⟩
theorem dL_chance_4 : decode cL_chance 4 = .ok (.iload_n 2, 1) := by decide +kernel
theorem eL_chance_4 : zD KL_chance 4 (.iload_n 2) 1 5 := ⟨dL_chance_4, rfl⟩
theorem dL_chance_5 : decode cL_chance 5 = .ok (.invokevirtual 79, 3) := by decide +kernel
theorem eL_chance_5 : zD KL_chance 5 (.invokevirtual 79) 3 8 := ⟨dL_chance_5, rfl⟩
theorem dL_chance_8 : decode cL_chance 8 = .ok (.i2l, 1) := by decide +kernel
theorem eL_chance_8 : zD KL_chance 8 (.i2l) 1 9 := ⟨dL_chance_8, rfl⟩
theorem dL_chance_9 : decode cL_chance 9 = .ok (.lastore, 1) := by decide +kernel
theorem eL_chance_9 : zD KL_chance 9 (.lastore) 1 10 := ⟨dL_chance_9, rfl⟩
theorem dL_chance_10 : decode cL_chance 10 = .ok (.goto 11, 3) := by decide +kernel
theorem eL_chance_10 : zD KL_chance 10 (.goto 11) 3 13 := ⟨dL_chance_10, rfl⟩
theorem dL_chance_13 : decode cL_chance 13 = .ok (.astore 4, 2) := by decide +kernel
theorem eL_chance_13 : zD KL_chance 13 (.astore 4) 2 15 := ⟨dL_chance_13, rfl⟩
theorem dL_chance_15 : decode cL_chance 15 = .ok (.iconst 1, 1) := by decide +kernel
theorem eL_chance_15 : zD KL_chance 15 (.iconst 1) 1 16 := ⟨dL_chance_15, rfl⟩
theorem dL_chance_16 : decode cL_chance 16 = .ok (.ireturn, 1) := by decide +kernel
theorem eL_chance_16 : zD KL_chance 16 (.ireturn) 1 17 := ⟨dL_chance_16, rfl⟩
theorem dL_chance_17 : decode cL_chance 17 = .ok (.astore 4, 2) := by decide +kernel
theorem eL_chance_17 : zD KL_chance 17 (.astore 4) 2 19 := ⟨dL_chance_17, rfl⟩
theorem dL_chance_19 : decode cL_chance 19 = .ok (.iconst 2, 1) := by decide +kernel
theorem eL_chance_19 : zD KL_chance 19 (.iconst 2) 1 20 := ⟨dL_chance_19, rfl⟩
theorem dL_chance_20 : decode cL_chance 20 = .ok (.ireturn, 1) := by decide +kernel
theorem eL_chance_20 : zD KL_chance 20 (.ireturn) 1 21 := ⟨dL_chance_20, rfl⟩
theorem dL_chance_21 : decode cL_chance 21 = .ok (.iconst 0, 1) := by decide +kernel
theorem eL_chance_21 : zD KL_chance 21 (.iconst 0) 1 22 := ⟨dL_chance_21, rfl⟩
theorem dL_chance_22 : decode cL_chance 22 = .ok (.ireturn, 1) := by decide +kernel
theorem eL_chance_22 : zD KL_chance 22 (.ireturn) 1 23 := ⟨dL_chance_22, rfl⟩
theorem dL_carries_0 : decode cL_carries 0 = .ok (.aload_n 3, 1) := by decide +kernel
theorem eL_carries_0 : zD KL_carries 0 (.aload_n 3) 1 1 := ⟨dL_carries_0, rfl⟩
theorem dL_carries_1 : decode cL_carries 1 = .ok (.iconst 0, 1) := by decide +kernel
theorem eL_carries_1 : zD KL_carries 1 (.iconst 0) 1 2 := ⟨dL_carries_1, rfl⟩
theorem dL_carries_2 : decode cL_carries 2 = .ok (.aload_n 0, 1) := by decide +kernel
theorem eL_carries_2 : zD KL_carries 2 (.aload_n 0) 1 3 := ⟨dL_carries_2, rfl⟩
theorem dL_carries_3 : decode cL_carries 3 = .ok (.iload_n 1, 1) := by decide +kernel
theorem eL_carries_3 : zD KL_carries 3 (.iload_n 1) 1 4 := ⟨dL_carries_3, rfl⟩
theorem dL_carries_4 : decode cL_carries 4 = .ok (.iload_n 2, 1) := by decide +kernel
theorem eL_carries_4 : zD KL_carries 4 (.iload_n 2) 1 5 := ⟨dL_carries_4, rfl⟩
theorem dL_carries_5 : decode cL_carries 5 = .ok (.invokevirtual 82, 3) := by decide +kernel
theorem eL_carries_5 : zD KL_carries 5 (.invokevirtual 82) 3 8 := ⟨dL_carries_5, rfl⟩
theorem dL_carries_8 : decode cL_carries 8 = .ok (.i2l, 1) := by decide +kernel
theorem eL_carries_8 : zD KL_carries 8 (.i2l) 1 9 := ⟨dL_carries_8, rfl⟩
theorem dL_carries_9 : decode cL_carries 9 = .ok (.lastore, 1) := by decide +kernel
theorem eL_carries_9 : zD KL_carries 9 (.lastore) 1 10 := ⟨dL_carries_9, rfl⟩
theorem dL_carries_10 : decode cL_carries 10 = .ok (.goto 11, 3) := by decide +kernel
theorem eL_carries_10 : zD KL_carries 10 (.goto 11) 3 13 := ⟨dL_carries_10, rfl⟩
theorem dL_carries_13 : decode cL_carries 13 = .ok (.astore 4, 2) := by decide +kernel
theorem eL_carries_13 : zD KL_carries 13 (.astore 4) 2 15 := ⟨dL_carries_13, rfl⟩
theorem dL_carries_15 : decode cL_carries 15 = .ok (.iconst 1, 1) := by decide +kernel
theorem eL_carries_15 : zD KL_carries 15 (.iconst 1) 1 16 := ⟨dL_carries_15, rfl⟩
theorem dL_carries_16 : decode cL_carries 16 = .ok (.ireturn, 1) := by decide +kernel
theorem eL_carries_16 : zD KL_carries 16 (.ireturn) 1 17 := ⟨dL_carries_16, rfl⟩
theorem dL_carries_17 : decode cL_carries 17 = .ok (.astore 4, 2) := by decide +kernel
theorem eL_carries_17 : zD KL_carries 17 (.astore 4) 2 19 := ⟨dL_carries_17, rfl⟩
theorem dL_carries_19 : decode cL_carries 19 = .ok (.iconst 2, 1) := by decide +kernel
theorem eL_carries_19 : zD KL_carries 19 (.iconst 2) 1 20 := ⟨dL_carries_19, rfl⟩
theorem dL_carries_20 : decode cL_carries 20 = .ok (.ireturn, 1) := by decide +kernel
theorem eL_carries_20 : zD KL_carries 20 (.ireturn) 1 21 := ⟨dL_carries_20, rfl⟩
theorem dL_carries_21 : decode cL_carries 21 = .ok (.iconst 0, 1) := by decide +kernel
theorem eL_carries_21 : zD KL_carries 21 (.iconst 0) 1 22 := ⟨dL_carries_21, rfl⟩
theorem dL_carries_22 : decode cL_carries 22 = .ok (.ireturn, 1) := by decide +kernel
theorem eL_carries_22 : zD KL_carries 22 (.ireturn) 1 23 := ⟨dL_carries_22, rfl⟩
theorem dL_soonest_0 : decode cL_soonest 0 = .ok (.aload_n 3, 1) := by decide +kernel
theorem eL_soonest_0 : zD KL_soonest 0 (.aload_n 3) 1 1 := ⟨dL_soonest_0, rfl⟩
theorem dL_soonest_1 : decode cL_soonest 1 = .ok (.iconst 0, 1) := by decide +kernel
theorem eL_soonest_1 : zD KL_soonest 1 (.iconst 0) 1 2 := ⟨dL_soonest_1, rfl⟩
theorem dL_soonest_2 : decode cL_soonest 2 = .ok (.aload_n 0, 1) := by decide +kernel
theorem eL_soonest_2 : zD KL_soonest 2 (.aload_n 0) 1 3 := ⟨dL_soonest_2, rfl⟩
theorem dL_soonest_3 : decode cL_soonest 3 = .ok (.iload_n 1, 1) := by decide +kernel
theorem eL_soonest_3 : zD KL_soonest 3 (.iload_n 1) 1 4 := ⟨dL_soonest_3, rfl⟩
theorem dL_soonest_4 : decode cL_soonest 4 = .ok (.iload_n 2, 1) := by decide +kernel
theorem eL_soonest_4 : zD KL_soonest 4 (.iload_n 2) 1 5 := ⟨dL_soonest_4, rfl⟩
theorem dL_soonest_5 : decode cL_soonest 5 = .ok (.invokevirtual 85, 3) := by decide +kernel
theorem eL_soonest_5 : zD KL_soonest 5 (.invokevirtual 85) 3 8 := ⟨dL_soonest_5, rfl⟩
theorem dL_soonest_8 : decode cL_soonest 8 = .ok (.i2l, 1) := by decide +kernel
theorem eL_soonest_8 : zD KL_soonest 8 (.i2l) 1 9 := ⟨dL_soonest_8, rfl⟩
theorem dL_soonest_9 : decode cL_soonest 9 = .ok (.lastore, 1) := by decide +kernel
theorem eL_soonest_9 : zD KL_soonest 9 (.lastore) 1 10 := ⟨dL_soonest_9, rfl⟩
theorem dL_soonest_10 : decode cL_soonest 10 = .ok (.goto 11, 3) := by decide +kernel
theorem eL_soonest_10 : zD KL_soonest 10 (.goto 11) 3 13 := ⟨dL_soonest_10, rfl⟩
theorem dL_soonest_13 : decode cL_soonest 13 = .ok (.astore 4, 2) := by decide +kernel
theorem eL_soonest_13 : zD KL_soonest 13 (.astore 4) 2 15 := ⟨dL_soonest_13, rfl⟩
theorem dL_soonest_15 : decode cL_soonest 15 = .ok (.iconst 1, 1) := by decide +kernel
theorem eL_soonest_15 : zD KL_soonest 15 (.iconst 1) 1 16 := ⟨dL_soonest_15, rfl⟩
theorem dL_soonest_16 : decode cL_soonest 16 = .ok (.ireturn, 1) := by decide +kernel
theorem eL_soonest_16 : zD KL_soonest 16 (.ireturn) 1 17 := ⟨dL_soonest_16, rfl⟩
theorem dL_soonest_17 : decode cL_soonest 17 = .ok (.astore 4, 2) := by decide +kernel
theorem eL_soonest_17 : zD KL_soonest 17 (.astore 4) 2 19 := ⟨dL_soonest_17, rfl⟩
theorem dL_soonest_19 : decode cL_soonest 19 = .ok (.iconst 2, 1) := by decide +kernel
theorem eL_soonest_19 : zD KL_soonest 19 (.iconst 2) 1 20 := ⟨dL_soonest_19, rfl⟩
theorem dL_soonest_20 : decode cL_soonest 20 = .ok (.ireturn, 1) := by decide +kernel
theorem eL_soonest_20 : zD KL_soonest 20 (.ireturn) 1 21 := ⟨dL_soonest_20, rfl⟩
theorem dL_soonest_21 : decode cL_soonest 21 = .ok (.iconst 0, 1) := by decide +kernel
theorem eL_soonest_21 : zD KL_soonest 21 (.iconst 0) 1 22 := ⟨dL_soonest_21, rfl⟩
theorem dL_soonest_22 : decode cL_soonest 22 = .ok (.ireturn, 1) := by decide +kernel
theorem eL_soonest_22 : zD KL_soonest 22 (.ireturn) 1 23 := ⟨dL_soonest_22, rfl⟩
theorem dL_when_0 : decode cL_when 0 = .ok (.aload_n 2, 1) := by decide +kernel
theorem eL_when_0 : zD KL_when 0 (.aload_n 2) 1 1 := ⟨dL_when_0, rfl⟩
theorem dL_when_1 : decode cL_when 1 = .ok (.iconst 0, 1) := by decide +kernel
theorem eL_when_1 : zD KL_when 1 (.iconst 0) 1 2 := ⟨dL_when_1, rfl⟩
theorem dL_when_2 : decode cL_when 2 = .ok (.aload_n 0, 1) := by decide +kernel
theorem eL_when_2 : zD KL_when 2 (.aload_n 0) 1 3 := ⟨dL_when_2, rfl⟩
theorem dL_when_3 : decode cL_when 3 = .ok (.iload_n 1, 1) := by decide +kernel
theorem eL_when_3 : zD KL_when 3 (.iload_n 1) 1 4 := ⟨dL_when_3, rfl⟩
theorem dL_when_4 : decode cL_when 4 = .ok (.invokevirtual 88, 3) := by decide +kernel
theorem eL_when_4 : zD KL_when 4 (.invokevirtual 88) 3 7 := ⟨dL_when_4, rfl⟩
theorem dL_when_7 : decode cL_when 7 = .ok (.i2l, 1) := by decide +kernel
theorem eL_when_7 : zD KL_when 7 (.i2l) 1 8 := ⟨dL_when_7, rfl⟩
theorem dL_when_8 : decode cL_when 8 = .ok (.lastore, 1) := by decide +kernel
theorem eL_when_8 : zD KL_when 8 (.lastore) 1 9 := ⟨dL_when_8, rfl⟩
theorem dL_when_9 : decode cL_when 9 = .ok (.goto 6, 3) := by decide +kernel
theorem eL_when_9 : zD KL_when 9 (.goto 6) 3 12 := ⟨dL_when_9, rfl⟩
theorem dL_when_12 : decode cL_when 12 = .ok (.astore_n 3, 1) := by decide +kernel
theorem eL_when_12 : zD KL_when 12 (.astore_n 3) 1 13 := ⟨dL_when_12, rfl⟩
theorem dL_when_13 : decode cL_when 13 = .ok (.iconst 1, 1) := by decide +kernel
theorem eL_when_13 : zD KL_when 13 (.iconst 1) 1 14 := ⟨dL_when_13, rfl⟩
theorem dL_when_14 : decode cL_when 14 = .ok (.ireturn, 1) := by decide +kernel
theorem eL_when_14 : zD KL_when 14 (.ireturn) 1 15 := ⟨dL_when_14, rfl⟩
theorem dL_when_15 : decode cL_when 15 = .ok (.iconst 0, 1) := by decide +kernel
theorem eL_when_15 : zD KL_when 15 (.iconst 0) 1 16 := ⟨dL_when_15, rfl⟩
theorem dL_when_16 : decode cL_when 16 = .ok (.ireturn, 1) := by decide +kernel
theorem eL_when_16 : zD KL_when 16 (.ireturn) 1 17 := ⟨dL_when_16, rfl⟩
theorem dL_best_0 : decode cL_best 0 = .ok (.aload_n 2, 1) := by decide +kernel
theorem eL_best_0 : zD KL_best 0 (.aload_n 2) 1 1 := ⟨dL_best_0, rfl⟩
theorem dL_best_1 : decode cL_best 1 = .ok (.iconst 0, 1) := by decide +kernel
theorem eL_best_1 : zD KL_best 1 (.iconst 0) 1 2 := ⟨dL_best_1, rfl⟩
theorem dL_best_2 : decode cL_best 2 = .ok (.aload_n 0, 1) := by decide +kernel
theorem eL_best_2 : zD KL_best 2 (.aload_n 0) 1 3 := ⟨dL_best_2, rfl⟩
theorem dL_best_3 : decode cL_best 3 = .ok (.iload_n 1, 1) := by decide +kernel
theorem eL_best_3 : zD KL_best 3 (.iload_n 1) 1 4 := ⟨dL_best_3, rfl⟩
theorem dL_best_4 : decode cL_best 4 = .ok (.invokevirtual 91, 3) := by decide +kernel
theorem eL_best_4 : zD KL_best 4 (.invokevirtual 91) 3 7 := ⟨dL_best_4, rfl⟩
theorem dL_best_7 : decode cL_best 7 = .ok (.i2l, 1) := by decide +kernel
theorem eL_best_7 : zD KL_best 7 (.i2l) 1 8 := ⟨dL_best_7, rfl⟩
theorem dL_best_8 : decode cL_best 8 = .ok (.lastore, 1) := by decide +kernel
theorem eL_best_8 : zD KL_best 8 (.lastore) 1 9 := ⟨dL_best_8, rfl⟩
theorem dL_best_9 : decode cL_best 9 = .ok (.goto 6, 3) := by decide +kernel
theorem eL_best_9 : zD KL_best 9 (.goto 6) 3 12 := ⟨dL_best_9, rfl⟩
theorem dL_best_12 : decode cL_best 12 = .ok (.astore_n 3, 1) := by decide +kernel
theorem eL_best_12 : zD KL_best 12 (.astore_n 3) 1 13 := ⟨dL_best_12, rfl⟩
theorem dL_best_13 : decode cL_best 13 = .ok (.iconst 1, 1) := by decide +kernel
theorem eL_best_13 : zD KL_best 13 (.iconst 1) 1 14 := ⟨dL_best_13, rfl⟩
theorem dL_best_14 : decode cL_best 14 = .ok (.ireturn, 1) := by decide +kernel
theorem eL_best_14 : zD KL_best 14 (.ireturn) 1 15 := ⟨dL_best_14, rfl⟩
theorem dL_best_15 : decode cL_best 15 = .ok (.iconst 0, 1) := by decide +kernel
theorem eL_best_15 : zD KL_best 15 (.iconst 0) 1 16 := ⟨dL_best_15, rfl⟩
theorem dL_best_16 : decode cL_best 16 = .ok (.ireturn, 1) := by decide +kernel
theorem eL_best_16 : zD KL_best 16 (.ireturn) 1 17 := ⟨dL_best_16, rfl⟩
theorem dL_shower_0 : decode cL_shower 0 = .ok (.aload_n 3, 1) := by decide +kernel
theorem eL_shower_0 : zD KL_shower 0 (.aload_n 3) 1 1 := ⟨dL_shower_0, rfl⟩
theorem dL_shower_1 : decode cL_shower 1 = .ok (.iconst 0, 1) := by decide +kernel
theorem eL_shower_1 : zD KL_shower 1 (.iconst 0) 1 2 := ⟨dL_shower_1, rfl⟩
theorem dL_shower_2 : decode cL_shower 2 = .ok (.aload_n 0, 1) := by decide +kernel
theorem eL_shower_2 : zD KL_shower 2 (.aload_n 0) 1 3 := ⟨dL_shower_2, rfl⟩
theorem dL_shower_3 : decode cL_shower 3 = .ok (.iload_n 1, 1) := by decide +kernel
theorem eL_shower_3 : zD KL_shower 3 (.iload_n 1) 1 4 := ⟨dL_shower_3, rfl⟩
theorem dL_shower_4 : decode cL_shower 4 = .ok (.iload_n 2, 1) := by decide +kernel
theorem eL_shower_4 : zD KL_shower 4 (.iload_n 2) 1 5 := ⟨dL_shower_4, rfl⟩
theorem dL_shower_5 : decode cL_shower 5 = .ok (.invokevirtual 94, 3) := by decide +kernel
theorem eL_shower_5 : zD KL_shower 5 (.invokevirtual 94) 3 8 := ⟨dL_shower_5, rfl⟩
theorem dL_shower_8 : decode cL_shower 8 = .ok (.i2l, 1) := by decide +kernel
theorem eL_shower_8 : zD KL_shower 8 (.i2l) 1 9 := ⟨dL_shower_8, rfl⟩
theorem dL_shower_9 : decode cL_shower 9 = .ok (.lastore, 1) := by decide +kernel
theorem eL_shower_9 : zD KL_shower 9 (.lastore) 1 10 := ⟨dL_shower_9, rfl⟩
theorem dL_shower_10 : decode cL_shower 10 = .ok (.goto 7, 3) := by decide +kernel
theorem eL_shower_10 : zD KL_shower 10 (.goto 7) 3 13 := ⟨dL_shower_10, rfl⟩
theorem dL_shower_13 : decode cL_shower 13 = .ok (.astore 4, 2) := by decide +kernel
theorem eL_shower_13 : zD KL_shower 13 (.astore 4) 2 15 := ⟨dL_shower_13, rfl⟩
theorem dL_shower_15 : decode cL_shower 15 = .ok (.iconst 1, 1) := by decide +kernel
theorem eL_shower_15 : zD KL_shower 15 (.iconst 1) 1 16 := ⟨dL_shower_15, rfl⟩
theorem dL_shower_16 : decode cL_shower 16 = .ok (.ireturn, 1) := by decide +kernel
theorem eL_shower_16 : zD KL_shower 16 (.ireturn) 1 17 := ⟨dL_shower_16, rfl⟩
theorem dL_shower_17 : decode cL_shower 17 = .ok (.iconst 0, 1) := by decide +kernel
theorem eL_shower_17 : zD KL_shower 17 (.iconst 0) 1 18 := ⟨dL_shower_17, rfl⟩
theorem dL_shower_18 : decode cL_shower 18 = .ok (.ireturn, 1) := by decide +kernel
theorem eL_shower_18 : zD KL_shower 18 (.ireturn) 1 19 := ⟨dL_shower_18, rfl⟩
theorem dL_cuffs_0 : decode cL_cuffs 0 = .ok (.aload_n 2, 1) := by decide +kernel
theorem eL_cuffs_0 : zD KL_cuffs 0 (.aload_n 2) 1 1 := ⟨dL_cuffs_0, rfl⟩
theorem dL_cuffs_1 : decode cL_cuffs 1 = .ok (.iconst 0, 1) := by decide +kernel
theorem eL_cuffs_1 : zD KL_cuffs 1 (.iconst 0) 1 2 := ⟨dL_cuffs_1, rfl⟩
theorem dL_cuffs_2 : decode cL_cuffs 2 = .ok (.aload_n 0, 1) := by decide +kernel
theorem eL_cuffs_2 : zD KL_cuffs 2 (.aload_n 0) 1 3 := ⟨dL_cuffs_2, rfl⟩
theorem dL_cuffs_3 : decode cL_cuffs 3 = .ok (.iload_n 1, 1) := by decide +kernel
theorem eL_cuffs_3 : zD KL_cuffs 3 (.iload_n 1) 1 4 := ⟨dL_cuffs_3, rfl⟩
theorem dL_cuffs_4 : decode cL_cuffs 4 = .ok (.invokevirtual 98, 3) := by decide +kernel
theorem eL_cuffs_4 : zD KL_cuffs 4 (.invokevirtual 98) 3 7 := ⟨dL_cuffs_4, rfl⟩
theorem dL_cuffs_7 : decode cL_cuffs 7 = .ok (.i2l, 1) := by decide +kernel
theorem eL_cuffs_7 : zD KL_cuffs 7 (.i2l) 1 8 := ⟨dL_cuffs_7, rfl⟩
theorem dL_cuffs_8 : decode cL_cuffs 8 = .ok (.lastore, 1) := by decide +kernel
theorem eL_cuffs_8 : zD KL_cuffs 8 (.lastore) 1 9 := ⟨dL_cuffs_8, rfl⟩
theorem dL_cuffs_9 : decode cL_cuffs 9 = .ok (.goto 6, 3) := by decide +kernel
theorem eL_cuffs_9 : zD KL_cuffs 9 (.goto 6) 3 12 := ⟨dL_cuffs_9, rfl⟩
theorem dL_cuffs_12 : decode cL_cuffs 12 = .ok (.astore_n 3, 1) := by decide +kernel
theorem eL_cuffs_12 : zD KL_cuffs 12 (.astore_n 3) 1 13 := ⟨dL_cuffs_12, rfl⟩
theorem dL_cuffs_13 : decode cL_cuffs 13 = .ok (.iconst 1, 1) := by decide +kernel
theorem eL_cuffs_13 : zD KL_cuffs 13 (.iconst 1) 1 14 := ⟨dL_cuffs_13, rfl⟩
theorem dL_cuffs_14 : decode cL_cuffs 14 = .ok (.ireturn, 1) := by decide +kernel
theorem eL_cuffs_14 : zD KL_cuffs 14 (.ireturn) 1 15 := ⟨dL_cuffs_14, rfl⟩
theorem dL_cuffs_15 : decode cL_cuffs 15 = .ok (.iconst 0, 1) := by decide +kernel
theorem eL_cuffs_15 : zD KL_cuffs 15 (.iconst 0) 1 16 := ⟨dL_cuffs_15, rfl⟩
theorem dL_cuffs_16 : decode cL_cuffs 16 = .ok (.ireturn, 1) := by decide +kernel
theorem eL_cuffs_16 : zD KL_cuffs 16 (.ireturn) 1 17 := ⟨dL_cuffs_16, rfl⟩
theorem dL_likely_0 : decode cL_likely 0 = .ok (.aload_n 1, 1) := by decide +kernel
theorem eL_likely_0 : zD KL_likely 0 (.aload_n 1) 1 1 := ⟨dL_likely_0, rfl⟩
theorem dL_likely_1 : decode cL_likely 1 = .ok (.iconst 0, 1) := by decide +kernel
theorem eL_likely_1 : zD KL_likely 1 (.iconst 0) 1 2 := ⟨dL_likely_1, rfl⟩
theorem dL_likely_2 : decode cL_likely 2 = .ok (.aload_n 0, 1) := by decide +kernel
theorem eL_likely_2 : zD KL_likely 2 (.aload_n 0) 1 3 := ⟨dL_likely_2, rfl⟩
theorem dL_likely_3 : decode cL_likely 3 = .ok (.invokevirtual 102, 3) := by decide +kernel
theorem eL_likely_3 : zD KL_likely 3 (.invokevirtual 102) 3 6 := ⟨dL_likely_3, rfl⟩
theorem dL_likely_6 : decode cL_likely 6 = .ok (.i2l, 1) := by decide +kernel
theorem eL_likely_6 : zD KL_likely 6 (.i2l) 1 7 := ⟨dL_likely_6, rfl⟩
theorem dL_likely_7 : decode cL_likely 7 = .ok (.lastore, 1) := by decide +kernel
theorem eL_likely_7 : zD KL_likely 7 (.lastore) 1 8 := ⟨dL_likely_7, rfl⟩
theorem dL_likely_8 : decode cL_likely 8 = .ok (.goto 6, 3) := by decide +kernel
theorem eL_likely_8 : zD KL_likely 8 (.goto 6) 3 11 := ⟨dL_likely_8, rfl⟩
theorem dL_likely_11 : decode cL_likely 11 = .ok (.astore_n 2, 1) := by decide +kernel
theorem eL_likely_11 : zD KL_likely 11 (.astore_n 2) 1 12 := ⟨dL_likely_11, rfl⟩
theorem dL_likely_12 : decode cL_likely 12 = .ok (.iconst 1, 1) := by decide +kernel
theorem eL_likely_12 : zD KL_likely 12 (.iconst 1) 1 13 := ⟨dL_likely_12, rfl⟩
theorem dL_likely_13 : decode cL_likely 13 = .ok (.ireturn, 1) := by decide +kernel
theorem eL_likely_13 : zD KL_likely 13 (.ireturn) 1 14 := ⟨dL_likely_13, rfl⟩
theorem dL_likely_14 : decode cL_likely 14 = .ok (.iconst 0, 1) := by decide +kernel
theorem eL_likely_14 : zD KL_likely 14 (.iconst 0) 1 15 := ⟨dL_likely_14, rfl⟩
theorem dL_likely_15 : decode cL_likely 15 = .ok (.ireturn, 1) := by decide +kernel
theorem eL_likely_15 : zD KL_likely 15 (.ireturn) 1 16 := ⟨dL_likely_15, rfl⟩
theorem dL_ago_0 : decode cL_ago 0 = .ok (.aload_n 2, 1) := by decide +kernel
theorem eL_ago_0 : zD KL_ago 0 (.aload_n 2) 1 1 := ⟨dL_ago_0, rfl⟩
theorem dL_ago_1 : decode cL_ago 1 = .ok (.iconst 0, 1) := by decide +kernel
theorem eL_ago_1 : zD KL_ago 1 (.iconst 0) 1 2 := ⟨dL_ago_1, rfl⟩
theorem dL_ago_2 : decode cL_ago 2 = .ok (.aload_n 0, 1) := by decide +kernel
theorem eL_ago_2 : zD KL_ago 2 (.aload_n 0) 1 3 := ⟨dL_ago_2, rfl⟩
theorem dL_ago_3 : decode cL_ago 3 = .ok (.iload_n 1, 1) := by decide +kernel
theorem eL_ago_3 : zD KL_ago 3 (.iload_n 1) 1 4 := ⟨dL_ago_3, rfl⟩
theorem dL_ago_4 : decode cL_ago 4 = .ok (.invokevirtual 105, 3) := by decide +kernel
theorem eL_ago_4 : zD KL_ago 4 (.invokevirtual 105) 3 7 := ⟨dL_ago_4, rfl⟩
theorem dL_ago_7 : decode cL_ago 7 = .ok (.i2l, 1) := by decide +kernel
theorem eL_ago_7 : zD KL_ago 7 (.i2l) 1 8 := ⟨dL_ago_7, rfl⟩
theorem dL_ago_8 : decode cL_ago 8 = .ok (.lastore, 1) := by decide +kernel
theorem eL_ago_8 : zD KL_ago 8 (.lastore) 1 9 := ⟨dL_ago_8, rfl⟩
theorem dL_ago_9 : decode cL_ago 9 = .ok (.goto 6, 3) := by decide +kernel
theorem eL_ago_9 : zD KL_ago 9 (.goto 6) 3 12 := ⟨dL_ago_9, rfl⟩
theorem dL_ago_12 : decode cL_ago 12 = .ok (.astore_n 3, 1) := by decide +kernel
theorem eL_ago_12 : zD KL_ago 12 (.astore_n 3) 1 13 := ⟨dL_ago_12, rfl⟩
theorem dL_ago_13 : decode cL_ago 13 = .ok (.iconst 1, 1) := by decide +kernel
theorem eL_ago_13 : zD KL_ago 13 (.iconst 1) 1 14 := ⟨dL_ago_13, rfl⟩
theorem dL_ago_14 : decode cL_ago 14 = .ok (.ireturn, 1) := by decide +kernel
theorem eL_ago_14 : zD KL_ago 14 (.ireturn) 1 15 := ⟨dL_ago_14, rfl⟩
theorem dL_ago_15 : decode cL_ago 15 = .ok (.iconst 0, 1) := by decide +kernel
theorem eL_ago_15 : zD KL_ago 15 (.iconst 0) 1 16 := ⟨dL_ago_15, rfl⟩
theorem dL_ago_16 : decode cL_ago 16 = .ok (.ireturn, 1) := by decide +kernel
theorem eL_ago_16 : zD KL_ago 16 (.ireturn) 1 17 := ⟨dL_ago_16, rfl⟩
theorem dL_ask_0 : decode cL_ask 0 = .ok (.aload_n 1, 1) := by decide +kernel
theorem eL_ask_0 : zD KL_ask 0 (.aload_n 1) 1 1 := ⟨dL_ask_0, rfl⟩
theorem dL_ask_1 : decode cL_ask 1 = .ok (.iconst 0, 1) := by decide +kernel
theorem eL_ask_1 : zD KL_ask 1 (.iconst 0) 1 2 := ⟨dL_ask_1, rfl⟩
theorem dL_ask_2 : decode cL_ask 2 = .ok (.aload_n 0, 1) := by decide +kernel
theorem eL_ask_2 : zD KL_ask 2 (.aload_n 0) 1 3 := ⟨dL_ask_2, rfl⟩
theorem dL_ask_3 : decode cL_ask 3 = .ok (.invokevirtual 108, 3) := by decide +kernel
theorem eL_ask_3 : zD KL_ask 3 (.invokevirtual 108) 3 6 := ⟨dL_ask_3, rfl⟩
theorem dL_ask_6 : decode cL_ask 6 = .ok (.i2l, 1) := by decide +kernel
theorem eL_ask_6 : zD KL_ask 6 (.i2l) 1 7 := ⟨dL_ask_6, rfl⟩
theorem dL_ask_7 : decode cL_ask 7 = .ok (.lastore, 1) := by decide +kernel
theorem eL_ask_7 : zD KL_ask 7 (.lastore) 1 8 := ⟨dL_ask_7, rfl⟩
theorem dL_ask_8 : decode cL_ask 8 = .ok (.goto 6, 3) := by decide +kernel
theorem eL_ask_8 : zD KL_ask 8 (.goto 6) 3 11 := ⟨dL_ask_8, rfl⟩
theorem dL_ask_11 : decode cL_ask 11 = .ok (.astore_n 2, 1) := by decide +kernel
theorem eL_ask_11 : zD KL_ask 11 (.astore_n 2) 1 12 := ⟨dL_ask_11, rfl⟩
theorem dL_ask_12 : decode cL_ask 12 = .ok (.iconst 1, 1) := by decide +kernel
theorem eL_ask_12 : zD KL_ask 12 (.iconst 1) 1 13 := ⟨dL_ask_12, rfl⟩
theorem dL_ask_13 : decode cL_ask 13 = .ok (.ireturn, 1) := by decide +kernel
theorem eL_ask_13 : zD KL_ask 13 (.ireturn) 1 14 := ⟨dL_ask_13, rfl⟩
theorem dL_ask_14 : decode cL_ask 14 = .ok (.iconst 0, 1) := by decide +kernel
theorem eL_ask_14 : zD KL_ask 14 (.iconst 0) 1 15 := ⟨dL_ask_14, rfl⟩
theorem dL_ask_15 : decode cL_ask 15 = .ok (.ireturn, 1) := by decide +kernel
theorem eL_ask_15 : zD KL_ask 15 (.ireturn) 1 16 := ⟨dL_ask_15, rfl⟩
theorem dL_posts_0 : decode cL_posts 0 = .ok (.aload_n 2, 1) := by decide +kernel
theorem eL_posts_0 : zD KL_posts 0 (.aload_n 2) 1 1 := ⟨dL_posts_0, rfl⟩
theorem dL_posts_1 : decode cL_posts 1 = .ok (.iconst 0, 1) := by decide +kernel
theorem eL_posts_1 : zD KL_posts 1 (.iconst 0) 1 2 := ⟨dL_posts_1, rfl⟩
theorem dL_posts_2 : decode cL_posts 2 = .ok (.aload_n 0, 1) := by decide +kernel
theorem eL_posts_2 : zD KL_posts 2 (.aload_n 0) 1 3 := ⟨dL_posts_2, rfl⟩
theorem dL_posts_3 : decode cL_posts 3 = .ok (.iload_n 1, 1) := by decide +kernel
theorem eL_posts_3 : zD KL_posts 3 (.iload_n 1) 1 4 := ⟨dL_posts_3, rfl⟩
theorem dL_posts_4 : decode cL_posts 4 = .ok (.invokevirtual 111, 3) := by decide +kernel
theorem eL_posts_4 : zD KL_posts 4 (.invokevirtual 111) 3 7 := ⟨dL_posts_4, rfl⟩
theorem dL_posts_7 : decode cL_posts 7 = .ok (.i2l, 1) := by decide +kernel
theorem eL_posts_7 : zD KL_posts 7 (.i2l) 1 8 := ⟨dL_posts_7, rfl⟩
theorem dL_posts_8 : decode cL_posts 8 = .ok (.lastore, 1) := by decide +kernel
theorem eL_posts_8 : zD KL_posts 8 (.lastore) 1 9 := ⟨dL_posts_8, rfl⟩
theorem dL_posts_9 : decode cL_posts 9 = .ok (.goto 6, 3) := by decide +kernel
theorem eL_posts_9 : zD KL_posts 9 (.goto 6) 3 12 := ⟨dL_posts_9, rfl⟩
theorem dL_posts_12 : decode cL_posts 12 = .ok (.astore_n 3, 1) := by decide +kernel
theorem eL_posts_12 : zD KL_posts 12 (.astore_n 3) 1 13 := ⟨dL_posts_12, rfl⟩
theorem dL_posts_13 : decode cL_posts 13 = .ok (.iconst 1, 1) := by decide +kernel
theorem eL_posts_13 : zD KL_posts 13 (.iconst 1) 1 14 := ⟨dL_posts_13, rfl⟩
theorem dL_posts_14 : decode cL_posts 14 = .ok (.ireturn, 1) := by decide +kernel
theorem eL_posts_14 : zD KL_posts 14 (.ireturn) 1 15 := ⟨dL_posts_14, rfl⟩
theorem dL_posts_15 : decode cL_posts 15 = .ok (.iconst 0, 1) := by decide +kernel
theorem eL_posts_15 : zD KL_posts 15 (.iconst 0) 1 16 := ⟨dL_posts_15, rfl⟩
theorem dL_posts_16 : decode cL_posts 16 = .ok (.ireturn, 1) := by decide +kernel
theorem eL_posts_16 : zD KL_posts 16 (.ireturn) 1 17 := ⟨dL_posts_16, rfl⟩
theorem dL_swings_0 : decode cL_swings 0 = .ok (.aload_n 2, 1) := by decide +kernel
theorem eL_swings_0 : zD KL_swings 0 (.aload_n 2) 1 1 := ⟨dL_swings_0, rfl⟩
theorem dL_swings_1 : decode cL_swings 1 = .ok (.iconst 0, 1) := by decide +kernel
theorem eL_swings_1 : zD KL_swings 1 (.iconst 0) 1 2 := ⟨dL_swings_1, rfl⟩
theorem dL_swings_2 : decode cL_swings 2 = .ok (.aload_n 0, 1) := by decide +kernel
theorem eL_swings_2 : zD KL_swings 2 (.aload_n 0) 1 3 := ⟨dL_swings_2, rfl⟩
theorem dL_swings_3 : decode cL_swings 3 = .ok (.iload_n 1, 1) := by decide +kernel
theorem eL_swings_3 : zD KL_swings 3 (.iload_n 1) 1 4 := ⟨dL_swings_3, rfl⟩
theorem dL_swings_4 : decode cL_swings 4 = .ok (.invokevirtual 114, 3) := by decide +kernel
theorem eL_swings_4 : zD KL_swings 4 (.invokevirtual 114) 3 7 := ⟨dL_swings_4, rfl⟩
theorem dL_swings_7 : decode cL_swings 7 = .ok (.i2l, 1) := by decide +kernel
theorem eL_swings_7 : zD KL_swings 7 (.i2l) 1 8 := ⟨dL_swings_7, rfl⟩
theorem dL_swings_8 : decode cL_swings 8 = .ok (.lastore, 1) := by decide +kernel
theorem eL_swings_8 : zD KL_swings 8 (.lastore) 1 9 := ⟨dL_swings_8, rfl⟩
theorem dL_swings_9 : decode cL_swings 9 = .ok (.goto 6, 3) := by decide +kernel
theorem eL_swings_9 : zD KL_swings 9 (.goto 6) 3 12 := ⟨dL_swings_9, rfl⟩
theorem dL_swings_12 : decode cL_swings 12 = .ok (.astore_n 3, 1) := by decide +kernel
theorem eL_swings_12 : zD KL_swings 12 (.astore_n 3) 1 13 := ⟨dL_swings_12, rfl⟩
theorem dL_swings_13 : decode cL_swings 13 = .ok (.iconst 1, 1) := by decide +kernel
theorem eL_swings_13 : zD KL_swings 13 (.iconst 1) 1 14 := ⟨dL_swings_13, rfl⟩
theorem dL_swings_14 : decode cL_swings 14 = .ok (.ireturn, 1) := by decide +kernel
theorem eL_swings_14 : zD KL_swings 14 (.ireturn) 1 15 := ⟨dL_swings_14, rfl⟩
theorem dL_swings_15 : decode cL_swings 15 = .ok (.iconst 0, 1) := by decide +kernel
theorem eL_swings_15 : zD KL_swings 15 (.iconst 0) 1 16 := ⟨dL_swings_15, rfl⟩
theorem dL_swings_16 : decode cL_swings 16 = .ok (.ireturn, 1) := by decide +kernel
theorem eL_swings_16 : zD KL_swings 16 (.ireturn) 1 17 := ⟨dL_swings_16, rfl⟩
theorem dL_power_0 : decode cL_power 0 = .ok (.aload_n 2, 1) := by decide +kernel
theorem eL_power_0 : zD KL_power 0 (.aload_n 2) 1 1 := ⟨dL_power_0, rfl⟩
theorem dL_power_1 : decode cL_power 1 = .ok (.iconst 0, 1) := by decide +kernel
theorem eL_power_1 : zD KL_power 1 (.iconst 0) 1 2 := ⟨dL_power_1, rfl⟩
theorem dL_power_2 : decode cL_power 2 = .ok (.aload_n 0, 1) := by decide +kernel
theorem eL_power_2 : zD KL_power 2 (.aload_n 0) 1 3 := ⟨dL_power_2, rfl⟩
theorem dL_power_3 : decode cL_power 3 = .ok (.iload_n 1, 1) := by decide +kernel
theorem eL_power_3 : zD KL_power 3 (.iload_n 1) 1 4 := ⟨dL_power_3, rfl⟩
theorem dL_power_4 : decode cL_power 4 = .ok (.invokevirtual 117, 3) := by decide +kernel
theorem eL_power_4 : zD KL_power 4 (.invokevirtual 117) 3 7 := ⟨dL_power_4, rfl⟩
theorem dL_power_7 : decode cL_power 7 = .ok (.i2l, 1) := by decide +kernel
theorem eL_power_7 : zD KL_power 7 (.i2l) 1 8 := ⟨dL_power_7, rfl⟩
theorem dL_power_8 : decode cL_power 8 = .ok (.lastore, 1) := by decide +kernel
theorem eL_power_8 : zD KL_power 8 (.lastore) 1 9 := ⟨dL_power_8, rfl⟩
theorem dL_power_9 : decode cL_power 9 = .ok (.goto 6, 3) := by decide +kernel
theorem eL_power_9 : zD KL_power 9 (.goto 6) 3 12 := ⟨dL_power_9, rfl⟩
theorem dL_power_12 : decode cL_power 12 = .ok (.astore_n 3, 1) := by decide +kernel
theorem eL_power_12 : zD KL_power 12 (.astore_n 3) 1 13 := ⟨dL_power_12, rfl⟩
theorem dL_power_13 : decode cL_power 13 = .ok (.iconst 1, 1) := by decide +kernel
theorem eL_power_13 : zD KL_power 13 (.iconst 1) 1 14 := ⟨dL_power_13, rfl⟩
theorem dL_power_14 : decode cL_power 14 = .ok (.ireturn, 1) := by decide +kernel
theorem eL_power_14 : zD KL_power 14 (.ireturn) 1 15 := ⟨dL_power_14, rfl⟩
theorem dL_power_15 : decode cL_power 15 = .ok (.iconst 0, 1) := by decide +kernel
theorem eL_power_15 : zD KL_power 15 (.iconst 0) 1 16 := ⟨dL_power_15, rfl⟩
theorem dL_power_16 : decode cL_power 16 = .ok (.ireturn, 1) := by decide +kernel
theorem eL_power_16 : zD KL_power 16 (.ireturn) 1 17 := ⟨dL_power_16, rfl⟩
theorem dL_minds_0 : decode cL_minds 0 = .ok (.aload_n 2, 1) := by decide +kernel
theorem eL_minds_0 : zD KL_minds 0 (.aload_n 2) 1 1 := ⟨dL_minds_0, rfl⟩
theorem dL_minds_1 : decode cL_minds 1 = .ok (.iconst 0, 1) := by decide +kernel
theorem eL_minds_1 : zD KL_minds 1 (.iconst 0) 1 2 := ⟨dL_minds_1, rfl⟩
theorem dL_minds_2 : decode cL_minds 2 = .ok (.aload_n 0, 1) := by decide +kernel
theorem eL_minds_2 : zD KL_minds 2 (.aload_n 0) 1 3 := ⟨dL_minds_2, rfl⟩
theorem dL_minds_3 : decode cL_minds 3 = .ok (.iload_n 1, 1) := by decide +kernel
theorem eL_minds_3 : zD KL_minds 3 (.iload_n 1) 1 4 := ⟨dL_minds_3, rfl⟩
theorem dL_minds_4 : decode cL_minds 4 = .ok (.invokevirtual 120, 3) := by decide +kernel
theorem eL_minds_4 : zD KL_minds 4 (.invokevirtual 120) 3 7 := ⟨dL_minds_4, rfl⟩
theorem dL_minds_7 : decode cL_minds 7 = .ok (.i2l, 1) := by decide +kernel
theorem eL_minds_7 : zD KL_minds 7 (.i2l) 1 8 := ⟨dL_minds_7, rfl⟩
theorem dL_minds_8 : decode cL_minds 8 = .ok (.lastore, 1) := by decide +kernel
theorem eL_minds_8 : zD KL_minds 8 (.lastore) 1 9 := ⟨dL_minds_8, rfl⟩
theorem dL_minds_9 : decode cL_minds 9 = .ok (.goto 6, 3) := by decide +kernel
theorem eL_minds_9 : zD KL_minds 9 (.goto 6) 3 12 := ⟨dL_minds_9, rfl⟩
theorem dL_minds_12 : decode cL_minds 12 = .ok (.astore_n 3, 1) := by decide +kernel
theorem eL_minds_12 : zD KL_minds 12 (.astore_n 3) 1 13 := ⟨dL_minds_12, rfl⟩
theorem dL_minds_13 : decode cL_minds 13 = .ok (.iconst 1, 1) := by decide +kernel
theorem eL_minds_13 : zD KL_minds 13 (.iconst 1) 1 14 := ⟨dL_minds_13, rfl⟩
theorem dL_minds_14 : decode cL_minds 14 = .ok (.ireturn, 1) := by decide +kernel
theorem eL_minds_14 : zD KL_minds 14 (.ireturn) 1 15 := ⟨dL_minds_14, rfl⟩
theorem dL_minds_15 : decode cL_minds 15 = .ok (.iconst 0, 1) := by decide +kernel
theorem eL_minds_15 : zD KL_minds 15 (.iconst 0) 1 16 := ⟨dL_minds_15, rfl⟩
theorem dL_minds_16 : decode cL_minds 16 = .ok (.ireturn, 1) := by decide +kernel
theorem eL_minds_16 : zD KL_minds 16 (.ireturn) 1 17 := ⟨dL_minds_16, rfl⟩
theorem dL_bargain_0 : decode cL_bargain 0 = .ok (.aload_n 3, 1) := by decide +kernel
theorem eL_bargain_0 : zD KL_bargain 0 (.aload_n 3) 1 1 := ⟨dL_bargain_0, rfl⟩
theorem dL_bargain_1 : decode cL_bargain 1 = .ok (.iconst 0, 1) := by decide +kernel
theorem eL_bargain_1 : zD KL_bargain 1 (.iconst 0) 1 2 := ⟨dL_bargain_1, rfl⟩
theorem dL_bargain_2 : decode cL_bargain 2 = .ok (.aload_n 0, 1) := by decide +kernel
theorem eL_bargain_2 : zD KL_bargain 2 (.aload_n 0) 1 3 := ⟨dL_bargain_2, rfl⟩
theorem dL_bargain_3 : decode cL_bargain 3 = .ok (.iload_n 1, 1) := by decide +kernel
theorem eL_bargain_3 : zD KL_bargain 3 (.iload_n 1) 1 4 := ⟨dL_bargain_3, rfl⟩
theorem dL_bargain_4 : decode cL_bargain 4 = .ok (.iload_n 2, 1) := by decide +kernel
theorem eL_bargain_4 : zD KL_bargain 4 (.iload_n 2) 1 5 := ⟨dL_bargain_4, rfl⟩
theorem dL_bargain_5 : decode cL_bargain 5 = .ok (.invokevirtual 123, 3) := by decide +kernel
theorem eL_bargain_5 : zD KL_bargain 5 (.invokevirtual 123) 3 8 := ⟨dL_bargain_5, rfl⟩
theorem dL_bargain_8 : decode cL_bargain 8 = .ok (.i2l, 1) := by decide +kernel
theorem eL_bargain_8 : zD KL_bargain 8 (.i2l) 1 9 := ⟨dL_bargain_8, rfl⟩
theorem dL_bargain_9 : decode cL_bargain 9 = .ok (.lastore, 1) := by decide +kernel
theorem eL_bargain_9 : zD KL_bargain 9 (.lastore) 1 10 := ⟨dL_bargain_9, rfl⟩
theorem dL_bargain_10 : decode cL_bargain 10 = .ok (.goto 11, 3) := by decide +kernel
theorem eL_bargain_10 : zD KL_bargain 10 (.goto 11) 3 13 := ⟨dL_bargain_10, rfl⟩
theorem dL_bargain_13 : decode cL_bargain 13 = .ok (.astore 4, 2) := by decide +kernel
theorem eL_bargain_13 : zD KL_bargain 13 (.astore 4) 2 15 := ⟨dL_bargain_13, rfl⟩
theorem dL_bargain_15 : decode cL_bargain 15 = .ok (.iconst 1, 1) := by decide +kernel
theorem eL_bargain_15 : zD KL_bargain 15 (.iconst 1) 1 16 := ⟨dL_bargain_15, rfl⟩
theorem dL_bargain_16 : decode cL_bargain 16 = .ok (.ireturn, 1) := by decide +kernel
theorem eL_bargain_16 : zD KL_bargain 16 (.ireturn) 1 17 := ⟨dL_bargain_16, rfl⟩
theorem dL_bargain_17 : decode cL_bargain 17 = .ok (.astore 4, 2) := by decide +kernel
theorem eL_bargain_17 : zD KL_bargain 17 (.astore 4) 2 19 := ⟨dL_bargain_17, rfl⟩
theorem dL_bargain_19 : decode cL_bargain 19 = .ok (.iconst 2, 1) := by decide +kernel
theorem eL_bargain_19 : zD KL_bargain 19 (.iconst 2) 1 20 := ⟨dL_bargain_19, rfl⟩
theorem dL_bargain_20 : decode cL_bargain 20 = .ok (.ireturn, 1) := by decide +kernel
theorem eL_bargain_20 : zD KL_bargain 20 (.ireturn) 1 21 := ⟨dL_bargain_20, rfl⟩
theorem dL_bargain_21 : decode cL_bargain 21 = .ok (.iconst 0, 1) := by decide +kernel
theorem eL_bargain_21 : zD KL_bargain 21 (.iconst 0) 1 22 := ⟨dL_bargain_21, rfl⟩
theorem dL_bargain_22 : decode cL_bargain 22 = .ok (.ireturn, 1) := by decide +kernel
theorem eL_bargain_22 : zD KL_bargain 22 (.ireturn) 1 23 := ⟨dL_bargain_22, rfl⟩
theorem dL_like_0 : decode cL_like 0 = .ok (.aload_n 3, 1) := by decide +kernel
theorem eL_like_0 : zD KL_like 0 (.aload_n 3) 1 1 := ⟨dL_like_0, rfl⟩
theorem dL_like_1 : decode cL_like 1 = .ok (.iconst 0, 1) := by decide +kernel
theorem eL_like_1 : zD KL_like 1 (.iconst 0) 1 2 := ⟨dL_like_1, rfl⟩
theorem dL_like_2 : decode cL_like 2 = .ok (.aload_n 0, 1) := by decide +kernel
theorem eL_like_2 : zD KL_like 2 (.aload_n 0) 1 3 := ⟨dL_like_2, rfl⟩
theorem dL_like_3 : decode cL_like 3 = .ok (.iload_n 1, 1) := by decide +kernel
theorem eL_like_3 : zD KL_like 3 (.iload_n 1) 1 4 := ⟨dL_like_3, rfl⟩
theorem dL_like_4 : decode cL_like 4 = .ok (.iload_n 2, 1) := by decide +kernel
theorem eL_like_4 : zD KL_like 4 (.iload_n 2) 1 5 := ⟨dL_like_4, rfl⟩
theorem dL_like_5 : decode cL_like 5 = .ok (.invokevirtual 126, 3) := by decide +kernel
theorem eL_like_5 : zD KL_like 5 (.invokevirtual 126) 3 8 := ⟨dL_like_5, rfl⟩
theorem dL_like_8 : decode cL_like 8 = .ok (.i2l, 1) := by decide +kernel
theorem eL_like_8 : zD KL_like 8 (.i2l) 1 9 := ⟨dL_like_8, rfl⟩
theorem dL_like_9 : decode cL_like 9 = .ok (.lastore, 1) := by decide +kernel
theorem eL_like_9 : zD KL_like 9 (.lastore) 1 10 := ⟨dL_like_9, rfl⟩
theorem dL_like_10 : decode cL_like 10 = .ok (.goto 11, 3) := by decide +kernel
theorem eL_like_10 : zD KL_like 10 (.goto 11) 3 13 := ⟨dL_like_10, rfl⟩
theorem dL_like_13 : decode cL_like 13 = .ok (.astore 4, 2) := by decide +kernel
theorem eL_like_13 : zD KL_like 13 (.astore 4) 2 15 := ⟨dL_like_13, rfl⟩
theorem dL_like_15 : decode cL_like 15 = .ok (.iconst 1, 1) := by decide +kernel
theorem eL_like_15 : zD KL_like 15 (.iconst 1) 1 16 := ⟨dL_like_15, rfl⟩
theorem dL_like_16 : decode cL_like 16 = .ok (.ireturn, 1) := by decide +kernel
theorem eL_like_16 : zD KL_like 16 (.ireturn) 1 17 := ⟨dL_like_16, rfl⟩
theorem dL_like_17 : decode cL_like 17 = .ok (.astore 4, 2) := by decide +kernel
theorem eL_like_17 : zD KL_like 17 (.astore 4) 2 19 := ⟨dL_like_17, rfl⟩
theorem dL_like_19 : decode cL_like 19 = .ok (.iconst 2, 1) := by decide +kernel
theorem eL_like_19 : zD KL_like 19 (.iconst 2) 1 20 := ⟨dL_like_19, rfl⟩
theorem dL_like_20 : decode cL_like 20 = .ok (.ireturn, 1) := by decide +kernel
theorem eL_like_20 : zD KL_like 20 (.ireturn) 1 21 := ⟨dL_like_20, rfl⟩
theorem dL_like_21 : decode cL_like 21 = .ok (.iconst 0, 1) := by decide +kernel
theorem eL_like_21 : zD KL_like 21 (.iconst 0) 1 22 := ⟨dL_like_21, rfl⟩
theorem dL_like_22 : decode cL_like 22 = .ok (.ireturn, 1) := by decide +kernel
theorem eL_like_22 : zD KL_like 22 (.ireturn) 1 23 := ⟨dL_like_22, rfl⟩
theorem dL_dry_0 : decode cL_dry 0 = .ok (.aload_n 2, 1) := by decide +kernel
theorem eL_dry_0 : zD KL_dry 0 (.aload_n 2) 1 1 := ⟨dL_dry_0, rfl⟩
theorem dL_dry_1 : decode cL_dry 1 = .ok (.iconst 0, 1) := by decide +kernel
theorem eL_dry_1 : zD KL_dry 1 (.iconst 0) 1 2 := ⟨dL_dry_1, rfl⟩
theorem dL_dry_2 : decode cL_dry 2 = .ok (.aload_n 0, 1) := by decide +kernel
theorem eL_dry_2 : zD KL_dry 2 (.aload_n 0) 1 3 := ⟨dL_dry_2, rfl⟩
theorem dL_dry_3 : decode cL_dry 3 = .ok (.iload_n 1, 1) := by decide +kernel
theorem eL_dry_3 : zD KL_dry 3 (.iload_n 1) 1 4 := ⟨dL_dry_3, rfl⟩
theorem dL_dry_4 : decode cL_dry 4 = .ok (.invokevirtual 129, 3) := by decide +kernel
theorem eL_dry_4 : zD KL_dry 4 (.invokevirtual 129) 3 7 := ⟨dL_dry_4, rfl⟩
theorem dL_dry_7 : decode cL_dry 7 = .ok (.i2l, 1) := by decide +kernel
theorem eL_dry_7 : zD KL_dry 7 (.i2l) 1 8 := ⟨dL_dry_7, rfl⟩
theorem dL_dry_8 : decode cL_dry 8 = .ok (.lastore, 1) := by decide +kernel
theorem eL_dry_8 : zD KL_dry 8 (.lastore) 1 9 := ⟨dL_dry_8, rfl⟩
theorem dL_dry_9 : decode cL_dry 9 = .ok (.goto 6, 3) := by decide +kernel
theorem eL_dry_9 : zD KL_dry 9 (.goto 6) 3 12 := ⟨dL_dry_9, rfl⟩
theorem dL_dry_12 : decode cL_dry 12 = .ok (.astore_n 3, 1) := by decide +kernel
theorem eL_dry_12 : zD KL_dry 12 (.astore_n 3) 1 13 := ⟨dL_dry_12, rfl⟩
theorem dL_dry_13 : decode cL_dry 13 = .ok (.iconst 1, 1) := by decide +kernel
theorem eL_dry_13 : zD KL_dry 13 (.iconst 1) 1 14 := ⟨dL_dry_13, rfl⟩
theorem dL_dry_14 : decode cL_dry 14 = .ok (.ireturn, 1) := by decide +kernel
theorem eL_dry_14 : zD KL_dry 14 (.ireturn) 1 15 := ⟨dL_dry_14, rfl⟩
theorem dL_dry_15 : decode cL_dry 15 = .ok (.iconst 0, 1) := by decide +kernel
theorem eL_dry_15 : zD KL_dry 15 (.iconst 0) 1 16 := ⟨dL_dry_15, rfl⟩
theorem dL_dry_16 : decode cL_dry 16 = .ok (.ireturn, 1) := by decide +kernel
theorem eL_dry_16 : zD KL_dry 16 (.ireturn) 1 17 := ⟨dL_dry_16, rfl⟩
theorem dL_drought_0 : decode cL_drought 0 = .ok (.aload_n 2, 1) := by decide +kernel
theorem eL_drought_0 : zD KL_drought 0 (.aload_n 2) 1 1 := ⟨dL_drought_0, rfl⟩
theorem dL_drought_1 : decode cL_drought 1 = .ok (.iconst 0, 1) := by decide +kernel
theorem eL_drought_1 : zD KL_drought 1 (.iconst 0) 1 2 := ⟨dL_drought_1, rfl⟩
theorem dL_drought_2 : decode cL_drought 2 = .ok (.aload_n 0, 1) := by decide +kernel
theorem eL_drought_2 : zD KL_drought 2 (.aload_n 0) 1 3 := ⟨dL_drought_2, rfl⟩
theorem dL_drought_3 : decode cL_drought 3 = .ok (.iload_n 1, 1) := by decide +kernel
theorem eL_drought_3 : zD KL_drought 3 (.iload_n 1) 1 4 := ⟨dL_drought_3, rfl⟩
theorem dL_drought_4 : decode cL_drought 4 = .ok (.invokevirtual 132, 3) := by decide +kernel
theorem eL_drought_4 : zD KL_drought 4 (.invokevirtual 132) 3 7 := ⟨dL_drought_4, rfl⟩
theorem dL_drought_7 : decode cL_drought 7 = .ok (.i2l, 1) := by decide +kernel
theorem eL_drought_7 : zD KL_drought 7 (.i2l) 1 8 := ⟨dL_drought_7, rfl⟩
theorem dL_drought_8 : decode cL_drought 8 = .ok (.lastore, 1) := by decide +kernel
theorem eL_drought_8 : zD KL_drought 8 (.lastore) 1 9 := ⟨dL_drought_8, rfl⟩
theorem dL_drought_9 : decode cL_drought 9 = .ok (.goto 6, 3) := by decide +kernel
theorem eL_drought_9 : zD KL_drought 9 (.goto 6) 3 12 := ⟨dL_drought_9, rfl⟩
theorem dL_drought_12 : decode cL_drought 12 = .ok (.astore_n 3, 1) := by decide +kernel
theorem eL_drought_12 : zD KL_drought 12 (.astore_n 3) 1 13 := ⟨dL_drought_12, rfl⟩
theorem dL_drought_13 : decode cL_drought 13 = .ok (.iconst 1, 1) := by decide +kernel
theorem eL_drought_13 : zD KL_drought 13 (.iconst 1) 1 14 := ⟨dL_drought_13, rfl⟩
theorem dL_drought_14 : decode cL_drought 14 = .ok (.ireturn, 1) := by decide +kernel
theorem eL_drought_14 : zD KL_drought 14 (.ireturn) 1 15 := ⟨dL_drought_14, rfl⟩
theorem dL_drought_15 : decode cL_drought 15 = .ok (.iconst 0, 1) := by decide +kernel
theorem eL_drought_15 : zD KL_drought 15 (.iconst 0) 1 16 := ⟨dL_drought_15, rfl⟩
theorem dL_drought_16 : decode cL_drought 16 = .ok (.ireturn, 1) := by decide +kernel
theorem eL_drought_16 : zD KL_drought 16 (.ireturn) 1 17 := ⟨dL_drought_16, rfl⟩
theorem dL_rests_0 : decode cL_rests 0 = .ok (.aload_n 2, 1) := by decide +kernel
theorem eL_rests_0 : zD KL_rests 0 (.aload_n 2) 1 1 := ⟨dL_rests_0, rfl⟩
theorem dL_rests_1 : decode cL_rests 1 = .ok (.iconst 0, 1) := by decide +kernel
theorem eL_rests_1 : zD KL_rests 1 (.iconst 0) 1 2 := ⟨dL_rests_1, rfl⟩
theorem dL_rests_2 : decode cL_rests 2 = .ok (.aload_n 0, 1) := by decide +kernel
theorem eL_rests_2 : zD KL_rests 2 (.aload_n 0) 1 3 := ⟨dL_rests_2, rfl⟩
theorem dL_rests_3 : decode cL_rests 3 = .ok (.iload_n 1, 1) := by decide +kernel
theorem eL_rests_3 : zD KL_rests 3 (.iload_n 1) 1 4 := ⟨dL_rests_3, rfl⟩
theorem dL_rests_4 : decode cL_rests 4 = .ok (.invokevirtual 135, 3) := by decide +kernel
theorem eL_rests_4 : zD KL_rests 4 (.invokevirtual 135) 3 7 := ⟨dL_rests_4, rfl⟩
theorem dL_rests_7 : decode cL_rests 7 = .ok (.i2l, 1) := by decide +kernel
theorem eL_rests_7 : zD KL_rests 7 (.i2l) 1 8 := ⟨dL_rests_7, rfl⟩
theorem dL_rests_8 : decode cL_rests 8 = .ok (.lastore, 1) := by decide +kernel
theorem eL_rests_8 : zD KL_rests 8 (.lastore) 1 9 := ⟨dL_rests_8, rfl⟩
theorem dL_rests_9 : decode cL_rests 9 = .ok (.goto 6, 3) := by decide +kernel
theorem eL_rests_9 : zD KL_rests 9 (.goto 6) 3 12 := ⟨dL_rests_9, rfl⟩
theorem dL_rests_12 : decode cL_rests 12 = .ok (.astore_n 3, 1) := by decide +kernel
theorem eL_rests_12 : zD KL_rests 12 (.astore_n 3) 1 13 := ⟨dL_rests_12, rfl⟩
theorem dL_rests_13 : decode cL_rests 13 = .ok (.iconst 1, 1) := by decide +kernel
theorem eL_rests_13 : zD KL_rests 13 (.iconst 1) 1 14 := ⟨dL_rests_13, rfl⟩
theorem dL_rests_14 : decode cL_rests 14 = .ok (.ireturn, 1) := by decide +kernel
theorem eL_rests_14 : zD KL_rests 14 (.ireturn) 1 15 := ⟨dL_rests_14, rfl⟩
theorem dL_rests_15 : decode cL_rests 15 = .ok (.iconst 0, 1) := by decide +kernel
theorem eL_rests_15 : zD KL_rests 15 (.iconst 0) 1 16 := ⟨dL_rests_15, rfl⟩
theorem dL_rests_16 : decode cL_rests 16 = .ok (.ireturn, 1) := by decide +kernel
theorem eL_rests_16 : zD KL_rests 16 (.ireturn) 1 17 := ⟨dL_rests_16, rfl⟩
theorem dL_trial_0 : decode cL_trial 0 = .ok (.aload_n 3, 1) := by decide +kernel
theorem eL_trial_0 : zD KL_trial 0 (.aload_n 3) 1 1 := ⟨dL_trial_0, rfl⟩
theorem dL_trial_1 : decode cL_trial 1 = .ok (.iconst 0, 1) := by decide +kernel
theorem eL_trial_1 : zD KL_trial 1 (.iconst 0) 1 2 := ⟨dL_trial_1, rfl⟩
theorem dL_trial_2 : decode cL_trial 2 = .ok (.aload_n 0, 1) := by decide +kernel
theorem eL_trial_2 : zD KL_trial 2 (.aload_n 0) 1 3 := ⟨dL_trial_2, rfl⟩
theorem dL_trial_3 : decode cL_trial 3 = .ok (.iload_n 1, 1) := by decide +kernel
theorem eL_trial_3 : zD KL_trial 3 (.iload_n 1) 1 4 := ⟨dL_trial_3, rfl⟩
theorem dL_trial_4 : decode cL_trial 4 = .ok (.iload_n 2, 1) := by decide +kernel
theorem eL_trial_4 : zD KL_trial 4 (.iload_n 2) 1 5 := ⟨dL_trial_4, rfl⟩
theorem dL_trial_5 : decode cL_trial 5 = .ok (.invokevirtual 138, 3) := by decide +kernel
theorem eL_trial_5 : zD KL_trial 5 (.invokevirtual 138) 3 8 := ⟨dL_trial_5, rfl⟩
theorem dL_trial_8 : decode cL_trial 8 = .ok (.i2l, 1) := by decide +kernel
theorem eL_trial_8 : zD KL_trial 8 (.i2l) 1 9 := ⟨dL_trial_8, rfl⟩
theorem dL_trial_9 : decode cL_trial 9 = .ok (.lastore, 1) := by decide +kernel
theorem eL_trial_9 : zD KL_trial 9 (.lastore) 1 10 := ⟨dL_trial_9, rfl⟩
theorem dL_trial_10 : decode cL_trial 10 = .ok (.goto 7, 3) := by decide +kernel
theorem eL_trial_10 : zD KL_trial 10 (.goto 7) 3 13 := ⟨dL_trial_10, rfl⟩
theorem dL_trial_13 : decode cL_trial 13 = .ok (.astore 4, 2) := by decide +kernel
theorem eL_trial_13 : zD KL_trial 13 (.astore 4) 2 15 := ⟨dL_trial_13, rfl⟩
theorem dL_trial_15 : decode cL_trial 15 = .ok (.iconst 1, 1) := by decide +kernel
theorem eL_trial_15 : zD KL_trial 15 (.iconst 1) 1 16 := ⟨dL_trial_15, rfl⟩
theorem dL_trial_16 : decode cL_trial 16 = .ok (.ireturn, 1) := by decide +kernel
theorem eL_trial_16 : zD KL_trial 16 (.ireturn) 1 17 := ⟨dL_trial_16, rfl⟩
theorem dL_trial_17 : decode cL_trial 17 = .ok (.iconst 0, 1) := by decide +kernel
theorem eL_trial_17 : zD KL_trial 17 (.iconst 0) 1 18 := ⟨dL_trial_17, rfl⟩
theorem dL_trial_18 : decode cL_trial 18 = .ok (.ireturn, 1) := by decide +kernel
theorem eL_trial_18 : zD KL_trial 18 (.ireturn) 1 19 := ⟨dL_trial_18, rfl⟩
theorem dL_span_0 : decode cL_span 0 = .ok (.aload_n 3, 1) := by decide +kernel
theorem eL_span_0 : zD KL_span 0 (.aload_n 3) 1 1 := ⟨dL_span_0, rfl⟩
theorem dL_span_1 : decode cL_span 1 = .ok (.iconst 0, 1) := by decide +kernel
theorem eL_span_1 : zD KL_span 1 (.iconst 0) 1 2 := ⟨dL_span_1, rfl⟩
theorem dL_span_2 : decode cL_span 2 = .ok (.aload_n 0, 1) := by decide +kernel
theorem eL_span_2 : zD KL_span 2 (.aload_n 0) 1 3 := ⟨dL_span_2, rfl⟩
theorem dL_span_3 : decode cL_span 3 = .ok (.iload_n 1, 1) := by decide +kernel
theorem eL_span_3 : zD KL_span 3 (.iload_n 1) 1 4 := ⟨dL_span_3, rfl⟩
theorem dL_span_4 : decode cL_span 4 = .ok (.iload_n 2, 1) := by decide +kernel
theorem eL_span_4 : zD KL_span 4 (.iload_n 2) 1 5 := ⟨dL_span_4, rfl⟩
theorem dL_span_5 : decode cL_span 5 = .ok (.invokevirtual 141, 3) := by decide +kernel
theorem eL_span_5 : zD KL_span 5 (.invokevirtual 141) 3 8 := ⟨dL_span_5, rfl⟩
theorem dL_span_8 : decode cL_span 8 = .ok (.i2l, 1) := by decide +kernel
theorem eL_span_8 : zD KL_span 8 (.i2l) 1 9 := ⟨dL_span_8, rfl⟩
theorem dL_span_9 : decode cL_span 9 = .ok (.lastore, 1) := by decide +kernel
theorem eL_span_9 : zD KL_span 9 (.lastore) 1 10 := ⟨dL_span_9, rfl⟩
theorem dL_span_10 : decode cL_span 10 = .ok (.goto 7, 3) := by decide +kernel
theorem eL_span_10 : zD KL_span 10 (.goto 7) 3 13 := ⟨dL_span_10, rfl⟩
theorem dL_span_13 : decode cL_span 13 = .ok (.astore 4, 2) := by decide +kernel
theorem eL_span_13 : zD KL_span 13 (.astore 4) 2 15 := ⟨dL_span_13, rfl⟩
theorem dL_span_15 : decode cL_span 15 = .ok (.iconst 1, 1) := by decide +kernel
theorem eL_span_15 : zD KL_span 15 (.iconst 1) 1 16 := ⟨dL_span_15, rfl⟩
theorem dL_span_16 : decode cL_span 16 = .ok (.ireturn, 1) := by decide +kernel
theorem eL_span_16 : zD KL_span 16 (.ireturn) 1 17 := ⟨dL_span_16, rfl⟩
theorem dL_span_17 : decode cL_span 17 = .ok (.iconst 0, 1) := by decide +kernel
theorem eL_span_17 : zD KL_span 17 (.iconst 0) 1 18 := ⟨dL_span_17, rfl⟩
theorem dL_span_18 : decode cL_span 18 = .ok (.ireturn, 1) := by decide +kernel
theorem eL_span_18 : zD KL_span 18 (.ireturn) 1 19 := ⟨dL_span_18, rfl⟩
theorem dL_led_0 : decode cL_led 0 = .ok (.aload_n 3, 1) := by decide +kernel
theorem eL_led_0 : zD KL_led 0 (.aload_n 3) 1 1 := ⟨dL_led_0, rfl⟩
theorem dL_led_1 : decode cL_led 1 = .ok (.iconst 0, 1) := by decide +kernel
theorem eL_led_1 : zD KL_led 1 (.iconst 0) 1 2 := ⟨dL_led_1, rfl⟩
theorem dL_led_2 : decode cL_led 2 = .ok (.aload_n 0, 1) := by decide +kernel
theorem eL_led_2 : zD KL_led 2 (.aload_n 0) 1 3 := ⟨dL_led_2, rfl⟩
theorem dL_led_3 : decode cL_led 3 = .ok (.iload_n 1, 1) := by decide +kernel
theorem eL_led_3 : zD KL_led 3 (.iload_n 1) 1 4 := ⟨dL_led_3, rfl⟩
theorem dL_led_4 : decode cL_led 4 = .ok (.iload_n 2, 1) := by decide +kernel
theorem eL_led_4 : zD KL_led 4 (.iload_n 2) 1 5 := ⟨dL_led_4, rfl⟩
theorem dL_led_5 : decode cL_led 5 = .ok (.invokevirtual 144, 3) := by decide +kernel
theorem eL_led_5 : zD KL_led 5 (.invokevirtual 144) 3 8 := ⟨dL_led_5, rfl⟩
theorem dL_led_8 : decode cL_led 8 = .ok (.i2l, 1) := by decide +kernel
theorem eL_led_8 : zD KL_led 8 (.i2l) 1 9 := ⟨dL_led_8, rfl⟩
theorem dL_led_9 : decode cL_led 9 = .ok (.lastore, 1) := by decide +kernel
theorem eL_led_9 : zD KL_led 9 (.lastore) 1 10 := ⟨dL_led_9, rfl⟩
theorem dL_led_10 : decode cL_led 10 = .ok (.goto 7, 3) := by decide +kernel
theorem eL_led_10 : zD KL_led 10 (.goto 7) 3 13 := ⟨dL_led_10, rfl⟩
theorem dL_led_13 : decode cL_led 13 = .ok (.astore 4, 2) := by decide +kernel
theorem eL_led_13 : zD KL_led 13 (.astore 4) 2 15 := ⟨dL_led_13, rfl⟩
theorem dL_led_15 : decode cL_led 15 = .ok (.iconst 1, 1) := by decide +kernel
theorem eL_led_15 : zD KL_led 15 (.iconst 1) 1 16 := ⟨dL_led_15, rfl⟩
theorem dL_led_16 : decode cL_led 16 = .ok (.ireturn, 1) := by decide +kernel
theorem eL_led_16 : zD KL_led 16 (.ireturn) 1 17 := ⟨dL_led_16, rfl⟩
theorem dL_led_17 : decode cL_led 17 = .ok (.iconst 0, 1) := by decide +kernel
theorem eL_led_17 : zD KL_led 17 (.iconst 0) 1 18 := ⟨dL_led_17, rfl⟩
theorem dL_led_18 : decode cL_led 18 = .ok (.ireturn, 1) := by decide +kernel
theorem eL_led_18 : zD KL_led 18 (.ireturn) 1 19 := ⟨dL_led_18, rfl⟩
theorem dL_log_0 : decode cL_log 0 = .ok (.aload_n 3, 1) := by decide +kernel
theorem eL_log_0 : zD KL_log 0 (.aload_n 3) 1 1 := ⟨dL_log_0, rfl⟩
theorem dL_log_1 : decode cL_log 1 = .ok (.iconst 0, 1) := by decide +kernel
theorem eL_log_1 : zD KL_log 1 (.iconst 0) 1 2 := ⟨dL_log_1, rfl⟩
theorem dL_log_2 : decode cL_log 2 = .ok (.aload_n 0, 1) := by decide +kernel
theorem eL_log_2 : zD KL_log 2 (.aload_n 0) 1 3 := ⟨dL_log_2, rfl⟩
theorem dL_log_3 : decode cL_log 3 = .ok (.iload_n 1, 1) := by decide +kernel
theorem eL_log_3 : zD KL_log 3 (.iload_n 1) 1 4 := ⟨dL_log_3, rfl⟩
theorem dL_log_4 : decode cL_log 4 = .ok (.iload_n 2, 1) := by decide +kernel
theorem eL_log_4 : zD KL_log 4 (.iload_n 2) 1 5 := ⟨dL_log_4, rfl⟩
theorem dL_log_5 : decode cL_log 5 = .ok (.invokevirtual 147, 3) := by decide +kernel
theorem eL_log_5 : zD KL_log 5 (.invokevirtual 147) 3 8 := ⟨dL_log_5, rfl⟩
theorem dL_log_8 : decode cL_log 8 = .ok (.i2l, 1) := by decide +kernel
theorem eL_log_8 : zD KL_log 8 (.i2l) 1 9 := ⟨dL_log_8, rfl⟩
theorem dL_log_9 : decode cL_log 9 = .ok (.lastore, 1) := by decide +kernel
theorem eL_log_9 : zD KL_log 9 (.lastore) 1 10 := ⟨dL_log_9, rfl⟩
theorem dL_log_10 : decode cL_log 10 = .ok (.goto 7, 3) := by decide +kernel
theorem eL_log_10 : zD KL_log 10 (.goto 7) 3 13 := ⟨dL_log_10, rfl⟩
theorem dL_log_13 : decode cL_log 13 = .ok (.astore 4, 2) := by decide +kernel
theorem eL_log_13 : zD KL_log 13 (.astore 4) 2 15 := ⟨dL_log_13, rfl⟩
theorem dL_log_15 : decode cL_log 15 = .ok (.iconst 1, 1) := by decide +kernel
theorem eL_log_15 : zD KL_log 15 (.iconst 1) 1 16 := ⟨dL_log_15, rfl⟩
theorem dL_log_16 : decode cL_log 16 = .ok (.ireturn, 1) := by decide +kernel
theorem eL_log_16 : zD KL_log 16 (.ireturn) 1 17 := ⟨dL_log_16, rfl⟩
theorem dL_log_17 : decode cL_log 17 = .ok (.iconst 0, 1) := by decide +kernel
theorem eL_log_17 : zD KL_log 17 (.iconst 0) 1 18 := ⟨dL_log_17, rfl⟩
theorem dL_log_18 : decode cL_log 18 = .ok (.ireturn, 1) := by decide +kernel
theorem eL_log_18 : zD KL_log 18 (.ireturn) 1 19 := ⟨dL_log_18, rfl⟩
abbrev KL_law_ : zK := (yL_law_, cL_law_, 7, some .boolean, [])
theorem dL_law__0 : decode cL_law_ 0 = .ok (.new 8, 3) := by decide +kernel
theorem eL_law__0 : zD KL_law_ 0 (.new 8) 3 3 := ⟨dL_law__0, rfl⟩
theorem dL_law__3 : decode cL_law_ 3 = .ok (.dup, 1) := by decide +kernel
theorem eL_law__3 : zD KL_law_ 3 (.dup) 1 4 := ⟨dL_law__3, rfl⟩
theorem dL_law__4 : decode cL_law_ 4 = .ok (.invokespecial 150, 3) := by decide +kernel
theorem eL_law__4 : zD KL_law_ 4 (.invokespecial 150) 3 7 := ⟨dL_law__4, rfl⟩
theorem dL_law__7 : decode cL_law_ 7 = .ok (.astore_n 1, 1) := by decide +kernel
theorem eL_law__7 : zD KL_law_ 7 (.astore_n 1) 1 8 := ⟨dL_law__7, rfl⟩
theorem dL_law__8 : decode cL_law_ 8 = .ok (.new 151, 3) := by decide +kernel
theorem eL_law__8 : zD KL_law_ 8 (.new 151) 3 11 := ⟨dL_law__8, rfl⟩
theorem dL_law__11 : decode cL_law_ 11 = .ok (.dup, 1) := by decide +kernel
theorem eL_law__11 : zD KL_law_ 11 (.dup) 1 12 := ⟨dL_law__11, rfl⟩
theorem dL_law__12 : decode cL_law_ 12 = .ok (.invokespecial 153, 3) := by decide +kernel
theorem eL_law__12 : zD KL_law_ 12 (.invokespecial 153) 3 15 := ⟨dL_law__12, rfl⟩
theorem dL_law__15 : decode cL_law_ 15 = .ok (.astore_n 2, 1) := by decide +kernel
theorem eL_law__15 : zD KL_law_ 15 (.astore_n 2) 1 16 := ⟨dL_law__15, rfl⟩
theorem dL_law__16 : decode cL_law_ 16 = .ok (.iconst 1, 1) := by decide +kernel
theorem eL_law__16 : zD KL_law_ 16 (.iconst 1) 1 17 := ⟨dL_law__16, rfl⟩
theorem dL_law__17 : decode cL_law_ 17 = .ok (.newarray .long, 2) := by decide +kernel
theorem eL_law__17 : zD KL_law_ 17 (.newarray .long) 2 19 := ⟨dL_law__17, rfl⟩
theorem dL_law__19 : decode cL_law_ 19 = .ok (.astore_n 3, 1) := by decide +kernel
theorem eL_law__19 : zD KL_law_ 19 (.astore_n 3) 1 20 := ⟨dL_law__19, rfl⟩
theorem dL_law__20 : decode cL_law_ 20 = .ok (.iconst 0, 1) := by decide +kernel
theorem eL_law__20 : zD KL_law_ 20 (.iconst 0) 1 21 := ⟨dL_law__20, rfl⟩
theorem dL_law__21 : decode cL_law_ 21 = .ok (.istore 4, 2) := by decide +kernel
theorem eL_law__21 : zD KL_law_ 21 (.istore 4) 2 23 := ⟨dL_law__21, rfl⟩
theorem dL_law__23 : decode cL_law_ 23 = .ok (.iload 4, 2) := by decide +kernel
theorem eL_law__23 : zD KL_law_ 23 (.iload 4) 2 25 := ⟨dL_law__23, rfl⟩
theorem dL_law__25 : decode cL_law_ 25 = .ok (.aload_n 0, 1) := by decide +kernel
theorem eL_law__25 : zD KL_law_ 25 (.aload_n 0) 1 26 := ⟨dL_law__25, rfl⟩
theorem dL_law__26 : decode cL_law_ 26 = .ok (.arraylength, 1) := by decide +kernel
theorem eL_law__26 : zD KL_law_ 26 (.arraylength) 1 27 := ⟨dL_law__26, rfl⟩
theorem dL_law__27 : decode cL_law_ 27 = .ok (.bipush 6, 2) := by decide +kernel
theorem eL_law__27 : zD KL_law_ 27 (.bipush 6) 2 29 := ⟨dL_law__27, rfl⟩
theorem dL_law__29 : decode cL_law_ 29 = .ok (.isub, 1) := by decide +kernel
theorem eL_law__29 : zD KL_law_ 29 (.isub) 1 30 := ⟨dL_law__29, rfl⟩
theorem dL_law__30 : decode cL_law_ 30 = .ok (.if_icmp .gt 3328, 3) := by decide +kernel
theorem eL_law__30 : zD KL_law_ 30 (.if_icmp .gt 3328) 3 33 := ⟨dL_law__30, rfl⟩
theorem dL_law__33 : decode cL_law_ 33 = .ok (.aload_n 0, 1) := by decide +kernel
theorem eL_law__33 : zD KL_law_ 33 (.aload_n 0) 1 34 := ⟨dL_law__33, rfl⟩
theorem dL_law__34 : decode cL_law_ 34 = .ok (.iload 4, 2) := by decide +kernel
theorem eL_law__34 : zD KL_law_ 34 (.iload 4) 2 36 := ⟨dL_law__34, rfl⟩
theorem dL_law__36 : decode cL_law_ 36 = .ok (.iaload, 1) := by decide +kernel
theorem eL_law__36 : zD KL_law_ 36 (.iaload) 1 37 := ⟨dL_law__36, rfl⟩
theorem dL_law__37 : decode cL_law_ 37 = .ok (.bipush 63, 2) := by decide +kernel
theorem eL_law__37 : zD KL_law_ 37 (.bipush 63) 2 39 := ⟨dL_law__37, rfl⟩
theorem dL_law__39 : decode cL_law_ 39 = .ok (.iand, 1) := by decide +kernel
theorem eL_law__39 : zD KL_law_ 39 (.iand) 1 40 := ⟨dL_law__39, rfl⟩
theorem dL_law__40 : decode cL_law_ 40 = .ok (.tableswitch 3312 0 61 #[264, 337, 362, 406, 450, 463, 531, 599, 667, 723, 779, 859, 939, 995, 1063, 1119, 1210, 1301, 1369, 1444, 1512, 1568, 1636, 1704, 1772, 1828, 1841, 1897, 1981, 2006, 2078, 2122, 2178, 2222, 2235, 2291, 2316, 2372, 2428, 2441, 2454, 2510, 2578, 2646, 2659, 2715, 2771, 2784, 2797, 2853, 2866, 2879, 2892, 2905, 2989, 3073, 3157, 3225, 3250, 3263, 3274, 3287], 264) := by decide +kernel
theorem eL_law__40 : zD KL_law_ 40 (.tableswitch 3312 0 61 #[264, 337, 362, 406, 450, 463, 531, 599, 667, 723, 779, 859, 939, 995, 1063, 1119, 1210, 1301, 1369, 1444, 1512, 1568, 1636, 1704, 1772, 1828, 1841, 1897, 1981, 2006, 2078, 2122, 2178, 2222, 2235, 2291, 2316, 2372, 2428, 2441, 2454, 2510, 2578, 2646, 2659, 2715, 2771, 2784, 2797, 2853, 2866, 2879, 2892, 2905, 2989, 3073, 3157, 3225, 3250, 3263, 3274, 3287]) 264 304 := ⟨dL_law__40, rfl⟩
theorem dL_law__304 : decode cL_law_ 304 = .ok (.aload_n 1, 1) := by decide +kernel
theorem eL_law__304 : zD KL_law_ 304 (.aload_n 1) 1 305 := ⟨dL_law__304, rfl⟩
theorem dL_law__305 : decode cL_law_ 305 = .ok (.aload_n 0, 1) := by decide +kernel
theorem eL_law__305 : zD KL_law_ 305 (.aload_n 0) 1 306 := ⟨dL_law__305, rfl⟩
theorem dL_law__306 : decode cL_law_ 306 = .ok (.iload 4, 2) := by decide +kernel
theorem eL_law__306 : zD KL_law_ 306 (.iload 4) 2 308 := ⟨dL_law__306, rfl⟩
theorem dL_law__308 : decode cL_law_ 308 = .ok (.iconst 1, 1) := by decide +kernel
theorem eL_law__308 : zD KL_law_ 308 (.iconst 1) 1 309 := ⟨dL_law__308, rfl⟩
theorem dL_law__309 : decode cL_law_ 309 = .ok (.iadd, 1) := by decide +kernel
theorem eL_law__309 : zD KL_law_ 309 (.iadd) 1 310 := ⟨dL_law__309, rfl⟩
theorem dL_law__310 : decode cL_law_ 310 = .ok (.iaload, 1) := by decide +kernel
theorem eL_law__310 : zD KL_law_ 310 (.iaload) 1 311 := ⟨dL_law__310, rfl⟩
theorem dL_law__311 : decode cL_law_ 311 = .ok (.aload_n 0, 1) := by decide +kernel
theorem eL_law__311 : zD KL_law_ 311 (.aload_n 0) 1 312 := ⟨dL_law__311, rfl⟩
theorem dL_law__312 : decode cL_law_ 312 = .ok (.iload 4, 2) := by decide +kernel
theorem eL_law__312 : zD KL_law_ 312 (.iload 4) 2 314 := ⟨dL_law__312, rfl⟩
theorem dL_law__314 : decode cL_law_ 314 = .ok (.iconst 2, 1) := by decide +kernel
theorem eL_law__314 : zD KL_law_ 314 (.iconst 2) 1 315 := ⟨dL_law__314, rfl⟩
theorem dL_law__315 : decode cL_law_ 315 = .ok (.iadd, 1) := by decide +kernel
theorem eL_law__315 : zD KL_law_ 315 (.iadd) 1 316 := ⟨dL_law__315, rfl⟩
theorem dL_law__316 : decode cL_law_ 316 = .ok (.iaload, 1) := by decide +kernel
theorem eL_law__316 : zD KL_law_ 316 (.iaload) 1 317 := ⟨dL_law__316, rfl⟩
theorem dL_law__317 : decode cL_law_ 317 = .ok (.aload_n 0, 1) := by decide +kernel
theorem eL_law__317 : zD KL_law_ 317 (.aload_n 0) 1 318 := ⟨dL_law__317, rfl⟩
theorem dL_law__318 : decode cL_law_ 318 = .ok (.iload 4, 2) := by decide +kernel
theorem eL_law__318 : zD KL_law_ 318 (.iload 4) 2 320 := ⟨dL_law__318, rfl⟩
theorem dL_law__320 : decode cL_law_ 320 = .ok (.iconst 3, 1) := by decide +kernel
theorem eL_law__320 : zD KL_law_ 320 (.iconst 3) 1 321 := ⟨dL_law__320, rfl⟩
theorem dL_law__321 : decode cL_law_ 321 = .ok (.iadd, 1) := by decide +kernel
theorem eL_law__321 : zD KL_law_ 321 (.iadd) 1 322 := ⟨dL_law__321, rfl⟩
theorem dL_law__322 : decode cL_law_ 322 = .ok (.iaload, 1) := by decide +kernel
theorem eL_law__322 : zD KL_law_ 322 (.iaload) 1 323 := ⟨dL_law__322, rfl⟩
theorem dL_law__323 : decode cL_law_ 323 = .ok (.aload_n 0, 1) := by decide +kernel
theorem eL_law__323 : zD KL_law_ 323 (.aload_n 0) 1 324 := ⟨dL_law__323, rfl⟩
theorem dL_law__324 : decode cL_law_ 324 = .ok (.iload 4, 2) := by decide +kernel
theorem eL_law__324 : zD KL_law_ 324 (.iload 4) 2 326 := ⟨dL_law__324, rfl⟩
theorem dL_law__326 : decode cL_law_ 326 = .ok (.iconst 4, 1) := by decide +kernel
theorem eL_law__326 : zD KL_law_ 326 (.iconst 4) 1 327 := ⟨dL_law__326, rfl⟩
theorem dL_law__327 : decode cL_law_ 327 = .ok (.iadd, 1) := by decide +kernel
theorem eL_law__327 : zD KL_law_ 327 (.iadd) 1 328 := ⟨dL_law__327, rfl⟩
theorem dL_law__328 : decode cL_law_ 328 = .ok (.iaload, 1) := by decide +kernel
theorem eL_law__328 : zD KL_law_ 328 (.iaload) 1 329 := ⟨dL_law__328, rfl⟩
theorem dL_law__329 : decode cL_law_ 329 = .ok (.aload_n 0, 1) := by decide +kernel
theorem eL_law__329 : zD KL_law_ 329 (.aload_n 0) 1 330 := ⟨dL_law__329, rfl⟩
theorem dL_law__330 : decode cL_law_ 330 = .ok (.iload 4, 2) := by decide +kernel
theorem eL_law__330 : zD KL_law_ 330 (.iload 4) 2 332 := ⟨dL_law__330, rfl⟩
theorem dL_law__332 : decode cL_law_ 332 = .ok (.iconst 5, 1) := by decide +kernel
theorem eL_law__332 : zD KL_law_ 332 (.iconst 5) 1 333 := ⟨dL_law__332, rfl⟩
theorem dL_law__333 : decode cL_law_ 333 = .ok (.iadd, 1) := by decide +kernel
theorem eL_law__333 : zD KL_law_ 333 (.iadd) 1 334 := ⟨dL_law__333, rfl⟩
theorem dL_law__334 : decode cL_law_ 334 = .ok (.iaload, 1) := by decide +kernel
theorem eL_law__334 : zD KL_law_ 334 (.iaload) 1 335 := ⟨dL_law__334, rfl⟩
theorem dL_law__335 : decode cL_law_ 335 = .ok (.invokevirtual 154, 3) := by decide +kernel
theorem eL_law__335 : zD KL_law_ 335 (.invokevirtual 154) 3 338 := ⟨dL_law__335, rfl⟩
theorem dL_law__338 : decode cL_law_ 338 = .ok (.aload_n 2, 1) := by decide +kernel
theorem eL_law__338 : zD KL_law_ 338 (.aload_n 2) 1 339 := ⟨dL_law__338, rfl⟩
theorem dL_law__339 : decode cL_law_ 339 = .ok (.aload_n 0, 1) := by decide +kernel
theorem eL_law__339 : zD KL_law_ 339 (.aload_n 0) 1 340 := ⟨dL_law__339, rfl⟩
theorem dL_law__340 : decode cL_law_ 340 = .ok (.iload 4, 2) := by decide +kernel
theorem eL_law__340 : zD KL_law_ 340 (.iload 4) 2 342 := ⟨dL_law__340, rfl⟩
theorem dL_law__342 : decode cL_law_ 342 = .ok (.iconst 1, 1) := by decide +kernel
theorem eL_law__342 : zD KL_law_ 342 (.iconst 1) 1 343 := ⟨dL_law__342, rfl⟩
theorem dL_law__343 : decode cL_law_ 343 = .ok (.iadd, 1) := by decide +kernel
theorem eL_law__343 : zD KL_law_ 343 (.iadd) 1 344 := ⟨dL_law__343, rfl⟩
theorem dL_law__344 : decode cL_law_ 344 = .ok (.iaload, 1) := by decide +kernel
theorem eL_law__344 : zD KL_law_ 344 (.iaload) 1 345 := ⟨dL_law__344, rfl⟩
theorem dL_law__345 : decode cL_law_ 345 = .ok (.aload_n 0, 1) := by decide +kernel
theorem eL_law__345 : zD KL_law_ 345 (.aload_n 0) 1 346 := ⟨dL_law__345, rfl⟩
theorem dL_law__346 : decode cL_law_ 346 = .ok (.iload 4, 2) := by decide +kernel
theorem eL_law__346 : zD KL_law_ 346 (.iload 4) 2 348 := ⟨dL_law__346, rfl⟩
theorem dL_law__348 : decode cL_law_ 348 = .ok (.iconst 2, 1) := by decide +kernel
theorem eL_law__348 : zD KL_law_ 348 (.iconst 2) 1 349 := ⟨dL_law__348, rfl⟩
theorem dL_law__349 : decode cL_law_ 349 = .ok (.iadd, 1) := by decide +kernel
theorem eL_law__349 : zD KL_law_ 349 (.iadd) 1 350 := ⟨dL_law__349, rfl⟩
theorem dL_law__350 : decode cL_law_ 350 = .ok (.iaload, 1) := by decide +kernel
theorem eL_law__350 : zD KL_law_ 350 (.iaload) 1 351 := ⟨dL_law__350, rfl⟩
theorem dL_law__351 : decode cL_law_ 351 = .ok (.aload_n 0, 1) := by decide +kernel
theorem eL_law__351 : zD KL_law_ 351 (.aload_n 0) 1 352 := ⟨dL_law__351, rfl⟩
theorem dL_law__352 : decode cL_law_ 352 = .ok (.iload 4, 2) := by decide +kernel
theorem eL_law__352 : zD KL_law_ 352 (.iload 4) 2 354 := ⟨dL_law__352, rfl⟩
theorem dL_law__354 : decode cL_law_ 354 = .ok (.iconst 3, 1) := by decide +kernel
theorem eL_law__354 : zD KL_law_ 354 (.iconst 3) 1 355 := ⟨dL_law__354, rfl⟩
theorem dL_law__355 : decode cL_law_ 355 = .ok (.iadd, 1) := by decide +kernel
theorem eL_law__355 : zD KL_law_ 355 (.iadd) 1 356 := ⟨dL_law__355, rfl⟩
theorem dL_law__356 : decode cL_law_ 356 = .ok (.iaload, 1) := by decide +kernel
theorem eL_law__356 : zD KL_law_ 356 (.iaload) 1 357 := ⟨dL_law__356, rfl⟩
theorem dL_law__357 : decode cL_law_ 357 = .ok (.aload_n 0, 1) := by decide +kernel
theorem eL_law__357 : zD KL_law_ 357 (.aload_n 0) 1 358 := ⟨dL_law__357, rfl⟩
theorem dL_law__358 : decode cL_law_ 358 = .ok (.iload 4, 2) := by decide +kernel
theorem eL_law__358 : zD KL_law_ 358 (.iload 4) 2 360 := ⟨dL_law__358, rfl⟩
theorem dL_law__360 : decode cL_law_ 360 = .ok (.iconst 4, 1) := by decide +kernel
theorem eL_law__360 : zD KL_law_ 360 (.iconst 4) 1 361 := ⟨dL_law__360, rfl⟩
theorem dL_law__361 : decode cL_law_ 361 = .ok (.iadd, 1) := by decide +kernel
theorem eL_law__361 : zD KL_law_ 361 (.iadd) 1 362 := ⟨dL_law__361, rfl⟩
theorem dL_law__362 : decode cL_law_ 362 = .ok (.iaload, 1) := by decide +kernel
theorem eL_law__362 : zD KL_law_ 362 (.iaload) 1 363 := ⟨dL_law__362, rfl⟩
theorem dL_law__363 : decode cL_law_ 363 = .ok (.aload_n 0, 1) := by decide +kernel
theorem eL_law__363 : zD KL_law_ 363 (.aload_n 0) 1 364 := ⟨dL_law__363, rfl⟩
theorem dL_law__364 : decode cL_law_ 364 = .ok (.iload 4, 2) := by decide +kernel
theorem eL_law__364 : zD KL_law_ 364 (.iload 4) 2 366 := ⟨dL_law__364, rfl⟩
theorem dL_law__366 : decode cL_law_ 366 = .ok (.iconst 5, 1) := by decide +kernel
theorem eL_law__366 : zD KL_law_ 366 (.iconst 5) 1 367 := ⟨dL_law__366, rfl⟩
theorem dL_law__367 : decode cL_law_ 367 = .ok (.iadd, 1) := by decide +kernel
theorem eL_law__367 : zD KL_law_ 367 (.iadd) 1 368 := ⟨dL_law__367, rfl⟩
theorem dL_law__368 : decode cL_law_ 368 = .ok (.iaload, 1) := by decide +kernel
theorem eL_law__368 : zD KL_law_ 368 (.iaload) 1 369 := ⟨dL_law__368, rfl⟩
theorem dL_law__369 : decode cL_law_ 369 = .ok (.invokevirtual 158, 3) := by decide +kernel
theorem eL_law__369 : zD KL_law_ 369 (.invokevirtual 158) 3 372 := ⟨dL_law__369, rfl⟩
theorem dL_law__372 : decode cL_law_ 372 = .ok (.if_icmp .eq 2980, 3) := by decide +kernel
theorem eL_law__372 : zD KL_law_ 372 (.if_icmp .eq 2980) 3 375 := ⟨dL_law__372, rfl⟩
theorem dL_law__375 : decode cL_law_ 375 = .ok (.iconst 0, 1) := by decide +kernel
theorem eL_law__375 : zD KL_law_ 375 (.iconst 0) 1 376 := ⟨dL_law__375, rfl⟩
theorem dL_law__376 : decode cL_law_ 376 = .ok (.ireturn, 1) := by decide +kernel
theorem eL_law__376 : zD KL_law_ 376 (.ireturn) 1 377 := ⟨dL_law__376, rfl⟩
theorem dL_law__377 : decode cL_law_ 377 = .ok (.aload_n 1, 1) := by decide +kernel
theorem eL_law__377 : zD KL_law_ 377 (.aload_n 1) 1 378 := ⟨dL_law__377, rfl⟩
theorem dL_law__378 : decode cL_law_ 378 = .ok (.aload_n 0, 1) := by decide +kernel
theorem eL_law__378 : zD KL_law_ 378 (.aload_n 0) 1 379 := ⟨dL_law__378, rfl⟩
theorem dL_law__379 : decode cL_law_ 379 = .ok (.iload 4, 2) := by decide +kernel
theorem eL_law__379 : zD KL_law_ 379 (.iload 4) 2 381 := ⟨dL_law__379, rfl⟩
theorem dL_law__381 : decode cL_law_ 381 = .ok (.iconst 1, 1) := by decide +kernel
theorem eL_law__381 : zD KL_law_ 381 (.iconst 1) 1 382 := ⟨dL_law__381, rfl⟩
theorem dL_law__382 : decode cL_law_ 382 = .ok (.iadd, 1) := by decide +kernel
theorem eL_law__382 : zD KL_law_ 382 (.iadd) 1 383 := ⟨dL_law__382, rfl⟩
theorem dL_law__383 : decode cL_law_ 383 = .ok (.iaload, 1) := by decide +kernel
theorem eL_law__383 : zD KL_law_ 383 (.iaload) 1 384 := ⟨dL_law__383, rfl⟩
theorem dL_law__384 : decode cL_law_ 384 = .ok (.invokevirtual 159, 3) := by decide +kernel
theorem eL_law__384 : zD KL_law_ 384 (.invokevirtual 159) 3 387 := ⟨dL_law__384, rfl⟩
theorem dL_law__387 : decode cL_law_ 387 = .ok (.aload_n 2, 1) := by decide +kernel
theorem eL_law__387 : zD KL_law_ 387 (.aload_n 2) 1 388 := ⟨dL_law__387, rfl⟩
theorem dL_law__388 : decode cL_law_ 388 = .ok (.aload_n 0, 1) := by decide +kernel
theorem eL_law__388 : zD KL_law_ 388 (.aload_n 0) 1 389 := ⟨dL_law__388, rfl⟩
theorem dL_law__389 : decode cL_law_ 389 = .ok (.iload 4, 2) := by decide +kernel
theorem eL_law__389 : zD KL_law_ 389 (.iload 4) 2 391 := ⟨dL_law__389, rfl⟩
theorem dL_law__391 : decode cL_law_ 391 = .ok (.iconst 1, 1) := by decide +kernel
theorem eL_law__391 : zD KL_law_ 391 (.iconst 1) 1 392 := ⟨dL_law__391, rfl⟩
theorem dL_law__392 : decode cL_law_ 392 = .ok (.iadd, 1) := by decide +kernel
theorem eL_law__392 : zD KL_law_ 392 (.iadd) 1 393 := ⟨dL_law__392, rfl⟩
theorem dL_law__393 : decode cL_law_ 393 = .ok (.iaload, 1) := by decide +kernel
theorem eL_law__393 : zD KL_law_ 393 (.iaload) 1 394 := ⟨dL_law__393, rfl⟩
theorem dL_law__394 : decode cL_law_ 394 = .ok (.invokevirtual 163, 3) := by decide +kernel
theorem eL_law__394 : zD KL_law_ 394 (.invokevirtual 163) 3 397 := ⟨dL_law__394, rfl⟩
theorem dL_law__397 : decode cL_law_ 397 = .ok (.if_icmp .eq 2955, 3) := by decide +kernel
theorem eL_law__397 : zD KL_law_ 397 (.if_icmp .eq 2955) 3 400 := ⟨dL_law__397, rfl⟩
theorem dL_law__400 : decode cL_law_ 400 = .ok (.iconst 0, 1) := by decide +kernel
theorem eL_law__400 : zD KL_law_ 400 (.iconst 0) 1 401 := ⟨dL_law__400, rfl⟩
theorem dL_law__401 : decode cL_law_ 401 = .ok (.ireturn, 1) := by decide +kernel
theorem eL_law__401 : zD KL_law_ 401 (.ireturn) 1 402 := ⟨dL_law__401, rfl⟩
theorem dL_law__402 : decode cL_law_ 402 = .ok (.aload_n 1, 1) := by decide +kernel
theorem eL_law__402 : zD KL_law_ 402 (.aload_n 1) 1 403 := ⟨dL_law__402, rfl⟩
theorem dL_law__403 : decode cL_law_ 403 = .ok (.aload_n 3, 1) := by decide +kernel
theorem eL_law__403 : zD KL_law_ 403 (.aload_n 3) 1 404 := ⟨dL_law__403, rfl⟩
theorem dL_law__404 : decode cL_law_ 404 = .ok (.invokestatic 164, 3) := by decide +kernel
theorem eL_law__404 : zD KL_law_ 404 (.invokestatic 164) 3 407 := ⟨dL_law__404, rfl⟩
theorem dL_law__407 : decode cL_law_ 407 = .ok (.istore 5, 2) := by decide +kernel
theorem eL_law__407 : zD KL_law_ 407 (.istore 5) 2 409 := ⟨dL_law__407, rfl⟩
theorem dL_law__409 : decode cL_law_ 409 = .ok (.aload_n 2, 1) := by decide +kernel
theorem eL_law__409 : zD KL_law_ 409 (.aload_n 2) 1 410 := ⟨dL_law__409, rfl⟩
theorem dL_law__410 : decode cL_law_ 410 = .ok (.invokevirtual 169, 3) := by decide +kernel
theorem eL_law__410 : zD KL_law_ 410 (.invokevirtual 169) 3 413 := ⟨dL_law__410, rfl⟩
theorem dL_law__413 : decode cL_law_ 413 = .ok (.istore 6, 2) := by decide +kernel
theorem eL_law__413 : zD KL_law_ 413 (.istore 6) 2 415 := ⟨dL_law__413, rfl⟩
theorem dL_law__415 : decode cL_law_ 415 = .ok (.aload_n 2, 1) := by decide +kernel
theorem eL_law__415 : zD KL_law_ 415 (.aload_n 2) 1 416 := ⟨dL_law__415, rfl⟩
theorem dL_law__416 : decode cL_law_ 416 = .ok (.invokevirtual 170, 3) := by decide +kernel
theorem eL_law__416 : zD KL_law_ 416 (.invokevirtual 170) 3 419 := ⟨dL_law__416, rfl⟩
theorem dL_law__419 : decode cL_law_ 419 = .ok (.iload 5, 2) := by decide +kernel
theorem eL_law__419 : zD KL_law_ 419 (.iload 5) 2 421 := ⟨dL_law__419, rfl⟩
theorem dL_law__421 : decode cL_law_ 421 = .ok (.if_icmp .eq 5, 3) := by decide +kernel
theorem eL_law__421 : zD KL_law_ 421 (.if_icmp .eq 5) 3 424 := ⟨dL_law__421, rfl⟩
theorem dL_law__424 : decode cL_law_ 424 = .ok (.iconst 0, 1) := by decide +kernel
theorem eL_law__424 : zD KL_law_ 424 (.iconst 0) 1 425 := ⟨dL_law__424, rfl⟩
theorem dL_law__425 : decode cL_law_ 425 = .ok (.ireturn, 1) := by decide +kernel
theorem eL_law__425 : zD KL_law_ 425 (.ireturn) 1 426 := ⟨dL_law__425, rfl⟩
theorem dL_law__426 : decode cL_law_ 426 = .ok (.iload 5, 2) := by decide +kernel
theorem eL_law__426 : zD KL_law_ 426 (.iload 5) 2 428 := ⟨dL_law__426, rfl⟩
theorem dL_law__428 : decode cL_law_ 428 = .ok (.ifCond .ne 15, 3) := by decide +kernel
theorem eL_law__428 : zD KL_law_ 428 (.ifCond .ne 15) 3 431 := ⟨dL_law__428, rfl⟩
theorem dL_law__431 : decode cL_law_ 431 = .ok (.aload_n 3, 1) := by decide +kernel
theorem eL_law__431 : zD KL_law_ 431 (.aload_n 3) 1 432 := ⟨dL_law__431, rfl⟩
theorem dL_law__432 : decode cL_law_ 432 = .ok (.iconst 0, 1) := by decide +kernel
theorem eL_law__432 : zD KL_law_ 432 (.iconst 0) 1 433 := ⟨dL_law__432, rfl⟩
theorem dL_law__433 : decode cL_law_ 433 = .ok (.laload, 1) := by decide +kernel
theorem eL_law__433 : zD KL_law_ 433 (.laload) 1 434 := ⟨dL_law__433, rfl⟩
theorem dL_law__434 : decode cL_law_ 434 = .ok (.iload 6, 2) := by decide +kernel
theorem eL_law__434 : zD KL_law_ 434 (.iload 6) 2 436 := ⟨dL_law__434, rfl⟩
theorem dL_law__436 : decode cL_law_ 436 = .ok (.i2l, 1) := by decide +kernel
theorem eL_law__436 : zD KL_law_ 436 (.i2l) 1 437 := ⟨dL_law__436, rfl⟩
theorem dL_law__437 : decode cL_law_ 437 = .ok (.lcmp, 1) := by decide +kernel
theorem eL_law__437 : zD KL_law_ 437 (.lcmp) 1 438 := ⟨dL_law__437, rfl⟩
theorem dL_law__438 : decode cL_law_ 438 = .ok (.ifCond .eq 5, 3) := by decide +kernel
theorem eL_law__438 : zD KL_law_ 438 (.ifCond .eq 5) 3 441 := ⟨dL_law__438, rfl⟩
theorem dL_law__441 : decode cL_law_ 441 = .ok (.iconst 0, 1) := by decide +kernel
theorem eL_law__441 : zD KL_law_ 441 (.iconst 0) 1 442 := ⟨dL_law__441, rfl⟩
theorem dL_law__442 : decode cL_law_ 442 = .ok (.ireturn, 1) := by decide +kernel
theorem eL_law__442 : zD KL_law_ 442 (.ireturn) 1 443 := ⟨dL_law__442, rfl⟩
theorem dL_law__443 : decode cL_law_ 443 = .ok (.goto 2909, 3) := by decide +kernel
theorem eL_law__443 : zD KL_law_ 443 (.goto 2909) 3 446 := ⟨dL_law__443, rfl⟩
theorem dL_law__446 : decode cL_law_ 446 = .ok (.aload_n 1, 1) := by decide +kernel
theorem eL_law__446 : zD KL_law_ 446 (.aload_n 1) 1 447 := ⟨dL_law__446, rfl⟩
theorem dL_law__447 : decode cL_law_ 447 = .ok (.aload_n 3, 1) := by decide +kernel
theorem eL_law__447 : zD KL_law_ 447 (.aload_n 3) 1 448 := ⟨dL_law__447, rfl⟩
theorem dL_law__448 : decode cL_law_ 448 = .ok (.invokestatic 173, 3) := by decide +kernel
theorem eL_law__448 : zD KL_law_ 448 (.invokestatic 173) 3 451 := ⟨dL_law__448, rfl⟩
theorem dL_law__451 : decode cL_law_ 451 = .ok (.istore 5, 2) := by decide +kernel
theorem eL_law__451 : zD KL_law_ 451 (.istore 5) 2 453 := ⟨dL_law__451, rfl⟩
theorem dL_law__453 : decode cL_law_ 453 = .ok (.aload_n 2, 1) := by decide +kernel
theorem eL_law__453 : zD KL_law_ 453 (.aload_n 2) 1 454 := ⟨dL_law__453, rfl⟩
theorem dL_law__454 : decode cL_law_ 454 = .ok (.invokevirtual 175, 3) := by decide +kernel
theorem eL_law__454 : zD KL_law_ 454 (.invokevirtual 175) 3 457 := ⟨dL_law__454, rfl⟩
theorem dL_law__457 : decode cL_law_ 457 = .ok (.istore 6, 2) := by decide +kernel
theorem eL_law__457 : zD KL_law_ 457 (.istore 6) 2 459 := ⟨dL_law__457, rfl⟩
theorem dL_law__459 : decode cL_law_ 459 = .ok (.aload_n 2, 1) := by decide +kernel
theorem eL_law__459 : zD KL_law_ 459 (.aload_n 2) 1 460 := ⟨dL_law__459, rfl⟩
theorem dL_law__460 : decode cL_law_ 460 = .ok (.invokevirtual 170, 3) := by decide +kernel
theorem eL_law__460 : zD KL_law_ 460 (.invokevirtual 170) 3 463 := ⟨dL_law__460, rfl⟩
theorem dL_law__463 : decode cL_law_ 463 = .ok (.iload 5, 2) := by decide +kernel
theorem eL_law__463 : zD KL_law_ 463 (.iload 5) 2 465 := ⟨dL_law__463, rfl⟩
theorem dL_law__465 : decode cL_law_ 465 = .ok (.if_icmp .eq 5, 3) := by decide +kernel
theorem eL_law__465 : zD KL_law_ 465 (.if_icmp .eq 5) 3 468 := ⟨dL_law__465, rfl⟩
theorem dL_law__468 : decode cL_law_ 468 = .ok (.iconst 0, 1) := by decide +kernel
theorem eL_law__468 : zD KL_law_ 468 (.iconst 0) 1 469 := ⟨dL_law__468, rfl⟩
theorem dL_law__469 : decode cL_law_ 469 = .ok (.ireturn, 1) := by decide +kernel
theorem eL_law__469 : zD KL_law_ 469 (.ireturn) 1 470 := ⟨dL_law__469, rfl⟩
theorem dL_law__470 : decode cL_law_ 470 = .ok (.iload 5, 2) := by decide +kernel
theorem eL_law__470 : zD KL_law_ 470 (.iload 5) 2 472 := ⟨dL_law__470, rfl⟩
theorem dL_law__472 : decode cL_law_ 472 = .ok (.ifCond .ne 15, 3) := by decide +kernel
theorem eL_law__472 : zD KL_law_ 472 (.ifCond .ne 15) 3 475 := ⟨dL_law__472, rfl⟩
theorem dL_law__475 : decode cL_law_ 475 = .ok (.aload_n 3, 1) := by decide +kernel
theorem eL_law__475 : zD KL_law_ 475 (.aload_n 3) 1 476 := ⟨dL_law__475, rfl⟩
theorem dL_law__476 : decode cL_law_ 476 = .ok (.iconst 0, 1) := by decide +kernel
theorem eL_law__476 : zD KL_law_ 476 (.iconst 0) 1 477 := ⟨dL_law__476, rfl⟩
theorem dL_law__477 : decode cL_law_ 477 = .ok (.laload, 1) := by decide +kernel
theorem eL_law__477 : zD KL_law_ 477 (.laload) 1 478 := ⟨dL_law__477, rfl⟩
theorem dL_law__478 : decode cL_law_ 478 = .ok (.iload 6, 2) := by decide +kernel
theorem eL_law__478 : zD KL_law_ 478 (.iload 6) 2 480 := ⟨dL_law__478, rfl⟩
theorem dL_law__480 : decode cL_law_ 480 = .ok (.i2l, 1) := by decide +kernel
theorem eL_law__480 : zD KL_law_ 480 (.i2l) 1 481 := ⟨dL_law__480, rfl⟩
theorem dL_law__481 : decode cL_law_ 481 = .ok (.lcmp, 1) := by decide +kernel
theorem eL_law__481 : zD KL_law_ 481 (.lcmp) 1 482 := ⟨dL_law__481, rfl⟩
theorem dL_law__482 : decode cL_law_ 482 = .ok (.ifCond .eq 5, 3) := by decide +kernel
theorem eL_law__482 : zD KL_law_ 482 (.ifCond .eq 5) 3 485 := ⟨dL_law__482, rfl⟩
theorem dL_law__485 : decode cL_law_ 485 = .ok (.iconst 0, 1) := by decide +kernel
theorem eL_law__485 : zD KL_law_ 485 (.iconst 0) 1 486 := ⟨dL_law__485, rfl⟩
theorem dL_law__486 : decode cL_law_ 486 = .ok (.ireturn, 1) := by decide +kernel
theorem eL_law__486 : zD KL_law_ 486 (.ireturn) 1 487 := ⟨dL_law__486, rfl⟩
theorem dL_law__487 : decode cL_law_ 487 = .ok (.goto 2865, 3) := by decide +kernel
theorem eL_law__487 : zD KL_law_ 487 (.goto 2865) 3 490 := ⟨dL_law__487, rfl⟩
theorem dL_law__490 : decode cL_law_ 490 = .ok (.aload_n 1, 1) := by decide +kernel
theorem eL_law__490 : zD KL_law_ 490 (.aload_n 1) 1 491 := ⟨dL_law__490, rfl⟩
theorem dL_law__491 : decode cL_law_ 491 = .ok (.invokevirtual 176, 3) := by decide +kernel
theorem eL_law__491 : zD KL_law_ 491 (.invokevirtual 176) 3 494 := ⟨dL_law__491, rfl⟩
theorem dL_law__494 : decode cL_law_ 494 = .ok (.aload_n 2, 1) := by decide +kernel
theorem eL_law__494 : zD KL_law_ 494 (.aload_n 2) 1 495 := ⟨dL_law__494, rfl⟩
theorem dL_law__495 : decode cL_law_ 495 = .ok (.invokevirtual 179, 3) := by decide +kernel
theorem eL_law__495 : zD KL_law_ 495 (.invokevirtual 179) 3 498 := ⟨dL_law__495, rfl⟩
theorem dL_law__498 : decode cL_law_ 498 = .ok (.if_icmp .eq 2854, 3) := by decide +kernel
theorem eL_law__498 : zD KL_law_ 498 (.if_icmp .eq 2854) 3 501 := ⟨dL_law__498, rfl⟩
theorem dL_law__501 : decode cL_law_ 501 = .ok (.iconst 0, 1) := by decide +kernel
theorem eL_law__501 : zD KL_law_ 501 (.iconst 0) 1 502 := ⟨dL_law__501, rfl⟩
theorem dL_law__502 : decode cL_law_ 502 = .ok (.ireturn, 1) := by decide +kernel
theorem eL_law__502 : zD KL_law_ 502 (.ireturn) 1 503 := ⟨dL_law__502, rfl⟩
theorem dL_law__503 : decode cL_law_ 503 = .ok (.aload_n 1, 1) := by decide +kernel
theorem eL_law__503 : zD KL_law_ 503 (.aload_n 1) 1 504 := ⟨dL_law__503, rfl⟩
theorem dL_law__504 : decode cL_law_ 504 = .ok (.aload_n 0, 1) := by decide +kernel
theorem eL_law__504 : zD KL_law_ 504 (.aload_n 0) 1 505 := ⟨dL_law__504, rfl⟩
theorem dL_law__505 : decode cL_law_ 505 = .ok (.iload 4, 2) := by decide +kernel
theorem eL_law__505 : zD KL_law_ 505 (.iload 4) 2 507 := ⟨dL_law__505, rfl⟩
theorem dL_law__507 : decode cL_law_ 507 = .ok (.iconst 1, 1) := by decide +kernel
theorem eL_law__507 : zD KL_law_ 507 (.iconst 1) 1 508 := ⟨dL_law__507, rfl⟩
theorem dL_law__508 : decode cL_law_ 508 = .ok (.iadd, 1) := by decide +kernel
theorem eL_law__508 : zD KL_law_ 508 (.iadd) 1 509 := ⟨dL_law__508, rfl⟩
theorem dL_law__509 : decode cL_law_ 509 = .ok (.iaload, 1) := by decide +kernel
theorem eL_law__509 : zD KL_law_ 509 (.iaload) 1 510 := ⟨dL_law__509, rfl⟩
theorem dL_law__510 : decode cL_law_ 510 = .ok (.aload_n 0, 1) := by decide +kernel
theorem eL_law__510 : zD KL_law_ 510 (.aload_n 0) 1 511 := ⟨dL_law__510, rfl⟩
theorem dL_law__511 : decode cL_law_ 511 = .ok (.iload 4, 2) := by decide +kernel
theorem eL_law__511 : zD KL_law_ 511 (.iload 4) 2 513 := ⟨dL_law__511, rfl⟩
theorem dL_law__513 : decode cL_law_ 513 = .ok (.iconst 2, 1) := by decide +kernel
theorem eL_law__513 : zD KL_law_ 513 (.iconst 2) 1 514 := ⟨dL_law__513, rfl⟩
theorem dL_law__514 : decode cL_law_ 514 = .ok (.iadd, 1) := by decide +kernel
theorem eL_law__514 : zD KL_law_ 514 (.iadd) 1 515 := ⟨dL_law__514, rfl⟩
theorem dL_law__515 : decode cL_law_ 515 = .ok (.iaload, 1) := by decide +kernel
theorem eL_law__515 : zD KL_law_ 515 (.iaload) 1 516 := ⟨dL_law__515, rfl⟩
theorem dL_law__516 : decode cL_law_ 516 = .ok (.aload_n 3, 1) := by decide +kernel
theorem eL_law__516 : zD KL_law_ 516 (.aload_n 3) 1 517 := ⟨dL_law__516, rfl⟩
theorem dL_law__517 : decode cL_law_ 517 = .ok (.invokestatic 180, 3) := by decide +kernel
theorem eL_law__517 : zD KL_law_ 517 (.invokestatic 180) 3 520 := ⟨dL_law__517, rfl⟩
theorem dL_law__520 : decode cL_law_ 520 = .ok (.istore 5, 2) := by decide +kernel
theorem eL_law__520 : zD KL_law_ 520 (.istore 5) 2 522 := ⟨dL_law__520, rfl⟩
theorem dL_law__522 : decode cL_law_ 522 = .ok (.aload_n 2, 1) := by decide +kernel
theorem eL_law__522 : zD KL_law_ 522 (.aload_n 2) 1 523 := ⟨dL_law__522, rfl⟩
theorem dL_law__523 : decode cL_law_ 523 = .ok (.aload_n 0, 1) := by decide +kernel
theorem eL_law__523 : zD KL_law_ 523 (.aload_n 0) 1 524 := ⟨dL_law__523, rfl⟩
theorem dL_law__524 : decode cL_law_ 524 = .ok (.iload 4, 2) := by decide +kernel
theorem eL_law__524 : zD KL_law_ 524 (.iload 4) 2 526 := ⟨dL_law__524, rfl⟩
theorem dL_law__526 : decode cL_law_ 526 = .ok (.iconst 1, 1) := by decide +kernel
theorem eL_law__526 : zD KL_law_ 526 (.iconst 1) 1 527 := ⟨dL_law__526, rfl⟩
theorem dL_law__527 : decode cL_law_ 527 = .ok (.iadd, 1) := by decide +kernel
theorem eL_law__527 : zD KL_law_ 527 (.iadd) 1 528 := ⟨dL_law__527, rfl⟩
theorem dL_law__528 : decode cL_law_ 528 = .ok (.iaload, 1) := by decide +kernel
theorem eL_law__528 : zD KL_law_ 528 (.iaload) 1 529 := ⟨dL_law__528, rfl⟩
theorem dL_law__529 : decode cL_law_ 529 = .ok (.aload_n 0, 1) := by decide +kernel
theorem eL_law__529 : zD KL_law_ 529 (.aload_n 0) 1 530 := ⟨dL_law__529, rfl⟩
theorem dL_law__530 : decode cL_law_ 530 = .ok (.iload 4, 2) := by decide +kernel
theorem eL_law__530 : zD KL_law_ 530 (.iload 4) 2 532 := ⟨dL_law__530, rfl⟩
theorem dL_law__532 : decode cL_law_ 532 = .ok (.iconst 2, 1) := by decide +kernel
theorem eL_law__532 : zD KL_law_ 532 (.iconst 2) 1 533 := ⟨dL_law__532, rfl⟩
theorem dL_law__533 : decode cL_law_ 533 = .ok (.iadd, 1) := by decide +kernel
theorem eL_law__533 : zD KL_law_ 533 (.iadd) 1 534 := ⟨dL_law__533, rfl⟩
theorem dL_law__534 : decode cL_law_ 534 = .ok (.iaload, 1) := by decide +kernel
theorem eL_law__534 : zD KL_law_ 534 (.iaload) 1 535 := ⟨dL_law__534, rfl⟩
theorem dL_law__535 : decode cL_law_ 535 = .ok (.invokevirtual 183, 3) := by decide +kernel
theorem eL_law__535 : zD KL_law_ 535 (.invokevirtual 183) 3 538 := ⟨dL_law__535, rfl⟩
theorem dL_law__538 : decode cL_law_ 538 = .ok (.istore 6, 2) := by decide +kernel
theorem eL_law__538 : zD KL_law_ 538 (.istore 6) 2 540 := ⟨dL_law__538, rfl⟩
theorem dL_law__540 : decode cL_law_ 540 = .ok (.aload_n 2, 1) := by decide +kernel
theorem eL_law__540 : zD KL_law_ 540 (.aload_n 2) 1 541 := ⟨dL_law__540, rfl⟩
theorem dL_law__541 : decode cL_law_ 541 = .ok (.invokevirtual 170, 3) := by decide +kernel
theorem eL_law__541 : zD KL_law_ 541 (.invokevirtual 170) 3 544 := ⟨dL_law__541, rfl⟩
theorem dL_law__544 : decode cL_law_ 544 = .ok (.iload 5, 2) := by decide +kernel
theorem eL_law__544 : zD KL_law_ 544 (.iload 5) 2 546 := ⟨dL_law__544, rfl⟩
theorem dL_law__546 : decode cL_law_ 546 = .ok (.if_icmp .eq 5, 3) := by decide +kernel
theorem eL_law__546 : zD KL_law_ 546 (.if_icmp .eq 5) 3 549 := ⟨dL_law__546, rfl⟩
theorem dL_law__549 : decode cL_law_ 549 = .ok (.iconst 0, 1) := by decide +kernel
theorem eL_law__549 : zD KL_law_ 549 (.iconst 0) 1 550 := ⟨dL_law__549, rfl⟩
theorem dL_law__550 : decode cL_law_ 550 = .ok (.ireturn, 1) := by decide +kernel
theorem eL_law__550 : zD KL_law_ 550 (.ireturn) 1 551 := ⟨dL_law__550, rfl⟩
theorem dL_law__551 : decode cL_law_ 551 = .ok (.iload 5, 2) := by decide +kernel
theorem eL_law__551 : zD KL_law_ 551 (.iload 5) 2 553 := ⟨dL_law__551, rfl⟩
theorem dL_law__553 : decode cL_law_ 553 = .ok (.ifCond .ne 15, 3) := by decide +kernel
theorem eL_law__553 : zD KL_law_ 553 (.ifCond .ne 15) 3 556 := ⟨dL_law__553, rfl⟩
theorem dL_law__556 : decode cL_law_ 556 = .ok (.aload_n 3, 1) := by decide +kernel
theorem eL_law__556 : zD KL_law_ 556 (.aload_n 3) 1 557 := ⟨dL_law__556, rfl⟩
theorem dL_law__557 : decode cL_law_ 557 = .ok (.iconst 0, 1) := by decide +kernel
theorem eL_law__557 : zD KL_law_ 557 (.iconst 0) 1 558 := ⟨dL_law__557, rfl⟩
theorem dL_law__558 : decode cL_law_ 558 = .ok (.laload, 1) := by decide +kernel
theorem eL_law__558 : zD KL_law_ 558 (.laload) 1 559 := ⟨dL_law__558, rfl⟩
theorem dL_law__559 : decode cL_law_ 559 = .ok (.iload 6, 2) := by decide +kernel
theorem eL_law__559 : zD KL_law_ 559 (.iload 6) 2 561 := ⟨dL_law__559, rfl⟩
theorem dL_law__561 : decode cL_law_ 561 = .ok (.i2l, 1) := by decide +kernel
theorem eL_law__561 : zD KL_law_ 561 (.i2l) 1 562 := ⟨dL_law__561, rfl⟩
theorem dL_law__562 : decode cL_law_ 562 = .ok (.lcmp, 1) := by decide +kernel
theorem eL_law__562 : zD KL_law_ 562 (.lcmp) 1 563 := ⟨dL_law__562, rfl⟩
theorem dL_law__563 : decode cL_law_ 563 = .ok (.ifCond .eq 5, 3) := by decide +kernel
theorem eL_law__563 : zD KL_law_ 563 (.ifCond .eq 5) 3 566 := ⟨dL_law__563, rfl⟩
theorem dL_law__566 : decode cL_law_ 566 = .ok (.iconst 0, 1) := by decide +kernel
theorem eL_law__566 : zD KL_law_ 566 (.iconst 0) 1 567 := ⟨dL_law__566, rfl⟩
theorem dL_law__567 : decode cL_law_ 567 = .ok (.ireturn, 1) := by decide +kernel
theorem eL_law__567 : zD KL_law_ 567 (.ireturn) 1 568 := ⟨dL_law__567, rfl⟩
theorem dL_law__568 : decode cL_law_ 568 = .ok (.goto 2784, 3) := by decide +kernel
theorem eL_law__568 : zD KL_law_ 568 (.goto 2784) 3 571 := ⟨dL_law__568, rfl⟩
theorem dL_law__571 : decode cL_law_ 571 = .ok (.aload_n 1, 1) := by decide +kernel
theorem eL_law__571 : zD KL_law_ 571 (.aload_n 1) 1 572 := ⟨dL_law__571, rfl⟩
theorem dL_law__572 : decode cL_law_ 572 = .ok (.aload_n 0, 1) := by decide +kernel
theorem eL_law__572 : zD KL_law_ 572 (.aload_n 0) 1 573 := ⟨dL_law__572, rfl⟩
theorem dL_law__573 : decode cL_law_ 573 = .ok (.iload 4, 2) := by decide +kernel
theorem eL_law__573 : zD KL_law_ 573 (.iload 4) 2 575 := ⟨dL_law__573, rfl⟩
theorem dL_law__575 : decode cL_law_ 575 = .ok (.iconst 1, 1) := by decide +kernel
theorem eL_law__575 : zD KL_law_ 575 (.iconst 1) 1 576 := ⟨dL_law__575, rfl⟩
theorem dL_law__576 : decode cL_law_ 576 = .ok (.iadd, 1) := by decide +kernel
theorem eL_law__576 : zD KL_law_ 576 (.iadd) 1 577 := ⟨dL_law__576, rfl⟩
theorem dL_law__577 : decode cL_law_ 577 = .ok (.iaload, 1) := by decide +kernel
theorem eL_law__577 : zD KL_law_ 577 (.iaload) 1 578 := ⟨dL_law__577, rfl⟩
theorem dL_law__578 : decode cL_law_ 578 = .ok (.aload_n 0, 1) := by decide +kernel
theorem eL_law__578 : zD KL_law_ 578 (.aload_n 0) 1 579 := ⟨dL_law__578, rfl⟩
theorem dL_law__579 : decode cL_law_ 579 = .ok (.iload 4, 2) := by decide +kernel
theorem eL_law__579 : zD KL_law_ 579 (.iload 4) 2 581 := ⟨dL_law__579, rfl⟩
theorem dL_law__581 : decode cL_law_ 581 = .ok (.iconst 2, 1) := by decide +kernel
theorem eL_law__581 : zD KL_law_ 581 (.iconst 2) 1 582 := ⟨dL_law__581, rfl⟩
theorem dL_law__582 : decode cL_law_ 582 = .ok (.iadd, 1) := by decide +kernel
theorem eL_law__582 : zD KL_law_ 582 (.iadd) 1 583 := ⟨dL_law__582, rfl⟩
theorem dL_law__583 : decode cL_law_ 583 = .ok (.iaload, 1) := by decide +kernel
theorem eL_law__583 : zD KL_law_ 583 (.iaload) 1 584 := ⟨dL_law__583, rfl⟩
theorem dL_law__584 : decode cL_law_ 584 = .ok (.aload_n 3, 1) := by decide +kernel
theorem eL_law__584 : zD KL_law_ 584 (.aload_n 3) 1 585 := ⟨dL_law__584, rfl⟩
theorem dL_law__585 : decode cL_law_ 585 = .ok (.invokestatic 184, 3) := by decide +kernel
theorem eL_law__585 : zD KL_law_ 585 (.invokestatic 184) 3 588 := ⟨dL_law__585, rfl⟩
theorem dL_law__588 : decode cL_law_ 588 = .ok (.istore 5, 2) := by decide +kernel
theorem eL_law__588 : zD KL_law_ 588 (.istore 5) 2 590 := ⟨dL_law__588, rfl⟩
theorem dL_law__590 : decode cL_law_ 590 = .ok (.aload_n 2, 1) := by decide +kernel
theorem eL_law__590 : zD KL_law_ 590 (.aload_n 2) 1 591 := ⟨dL_law__590, rfl⟩
theorem dL_law__591 : decode cL_law_ 591 = .ok (.aload_n 0, 1) := by decide +kernel
theorem eL_law__591 : zD KL_law_ 591 (.aload_n 0) 1 592 := ⟨dL_law__591, rfl⟩
theorem dL_law__592 : decode cL_law_ 592 = .ok (.iload 4, 2) := by decide +kernel
theorem eL_law__592 : zD KL_law_ 592 (.iload 4) 2 594 := ⟨dL_law__592, rfl⟩
theorem dL_law__594 : decode cL_law_ 594 = .ok (.iconst 1, 1) := by decide +kernel
theorem eL_law__594 : zD KL_law_ 594 (.iconst 1) 1 595 := ⟨dL_law__594, rfl⟩
theorem dL_law__595 : decode cL_law_ 595 = .ok (.iadd, 1) := by decide +kernel
theorem eL_law__595 : zD KL_law_ 595 (.iadd) 1 596 := ⟨dL_law__595, rfl⟩
theorem dL_law__596 : decode cL_law_ 596 = .ok (.iaload, 1) := by decide +kernel
theorem eL_law__596 : zD KL_law_ 596 (.iaload) 1 597 := ⟨dL_law__596, rfl⟩
theorem dL_law__597 : decode cL_law_ 597 = .ok (.aload_n 0, 1) := by decide +kernel
theorem eL_law__597 : zD KL_law_ 597 (.aload_n 0) 1 598 := ⟨dL_law__597, rfl⟩
theorem dL_law__598 : decode cL_law_ 598 = .ok (.iload 4, 2) := by decide +kernel
theorem eL_law__598 : zD KL_law_ 598 (.iload 4) 2 600 := ⟨dL_law__598, rfl⟩
theorem dL_law__600 : decode cL_law_ 600 = .ok (.iconst 2, 1) := by decide +kernel
theorem eL_law__600 : zD KL_law_ 600 (.iconst 2) 1 601 := ⟨dL_law__600, rfl⟩
theorem dL_law__601 : decode cL_law_ 601 = .ok (.iadd, 1) := by decide +kernel
theorem eL_law__601 : zD KL_law_ 601 (.iadd) 1 602 := ⟨dL_law__601, rfl⟩
theorem dL_law__602 : decode cL_law_ 602 = .ok (.iaload, 1) := by decide +kernel
theorem eL_law__602 : zD KL_law_ 602 (.iaload) 1 603 := ⟨dL_law__602, rfl⟩
theorem dL_law__603 : decode cL_law_ 603 = .ok (.invokevirtual 186, 3) := by decide +kernel
theorem eL_law__603 : zD KL_law_ 603 (.invokevirtual 186) 3 606 := ⟨dL_law__603, rfl⟩
theorem dL_law__606 : decode cL_law_ 606 = .ok (.istore 6, 2) := by decide +kernel
theorem eL_law__606 : zD KL_law_ 606 (.istore 6) 2 608 := ⟨dL_law__606, rfl⟩
theorem dL_law__608 : decode cL_law_ 608 = .ok (.aload_n 2, 1) := by decide +kernel
theorem eL_law__608 : zD KL_law_ 608 (.aload_n 2) 1 609 := ⟨dL_law__608, rfl⟩
theorem dL_law__609 : decode cL_law_ 609 = .ok (.invokevirtual 170, 3) := by decide +kernel
theorem eL_law__609 : zD KL_law_ 609 (.invokevirtual 170) 3 612 := ⟨dL_law__609, rfl⟩
theorem dL_law__612 : decode cL_law_ 612 = .ok (.iload 5, 2) := by decide +kernel
theorem eL_law__612 : zD KL_law_ 612 (.iload 5) 2 614 := ⟨dL_law__612, rfl⟩
theorem dL_law__614 : decode cL_law_ 614 = .ok (.if_icmp .eq 5, 3) := by decide +kernel
theorem eL_law__614 : zD KL_law_ 614 (.if_icmp .eq 5) 3 617 := ⟨dL_law__614, rfl⟩
theorem dL_law__617 : decode cL_law_ 617 = .ok (.iconst 0, 1) := by decide +kernel
theorem eL_law__617 : zD KL_law_ 617 (.iconst 0) 1 618 := ⟨dL_law__617, rfl⟩
theorem dL_law__618 : decode cL_law_ 618 = .ok (.ireturn, 1) := by decide +kernel
theorem eL_law__618 : zD KL_law_ 618 (.ireturn) 1 619 := ⟨dL_law__618, rfl⟩
theorem dL_law__619 : decode cL_law_ 619 = .ok (.iload 5, 2) := by decide +kernel
theorem eL_law__619 : zD KL_law_ 619 (.iload 5) 2 621 := ⟨dL_law__619, rfl⟩
theorem dL_law__621 : decode cL_law_ 621 = .ok (.ifCond .ne 15, 3) := by decide +kernel
theorem eL_law__621 : zD KL_law_ 621 (.ifCond .ne 15) 3 624 := ⟨dL_law__621, rfl⟩
theorem dL_law__624 : decode cL_law_ 624 = .ok (.aload_n 3, 1) := by decide +kernel
theorem eL_law__624 : zD KL_law_ 624 (.aload_n 3) 1 625 := ⟨dL_law__624, rfl⟩
theorem dL_law__625 : decode cL_law_ 625 = .ok (.iconst 0, 1) := by decide +kernel
theorem eL_law__625 : zD KL_law_ 625 (.iconst 0) 1 626 := ⟨dL_law__625, rfl⟩
theorem dL_law__626 : decode cL_law_ 626 = .ok (.laload, 1) := by decide +kernel
theorem eL_law__626 : zD KL_law_ 626 (.laload) 1 627 := ⟨dL_law__626, rfl⟩
theorem dL_law__627 : decode cL_law_ 627 = .ok (.iload 6, 2) := by decide +kernel
theorem eL_law__627 : zD KL_law_ 627 (.iload 6) 2 629 := ⟨dL_law__627, rfl⟩
theorem dL_law__629 : decode cL_law_ 629 = .ok (.i2l, 1) := by decide +kernel
theorem eL_law__629 : zD KL_law_ 629 (.i2l) 1 630 := ⟨dL_law__629, rfl⟩
theorem dL_law__630 : decode cL_law_ 630 = .ok (.lcmp, 1) := by decide +kernel
theorem eL_law__630 : zD KL_law_ 630 (.lcmp) 1 631 := ⟨dL_law__630, rfl⟩
theorem dL_law__631 : decode cL_law_ 631 = .ok (.ifCond .eq 5, 3) := by decide +kernel
theorem eL_law__631 : zD KL_law_ 631 (.ifCond .eq 5) 3 634 := ⟨dL_law__631, rfl⟩
theorem dL_law__634 : decode cL_law_ 634 = .ok (.iconst 0, 1) := by decide +kernel
theorem eL_law__634 : zD KL_law_ 634 (.iconst 0) 1 635 := ⟨dL_law__634, rfl⟩
theorem dL_law__635 : decode cL_law_ 635 = .ok (.ireturn, 1) := by decide +kernel
theorem eL_law__635 : zD KL_law_ 635 (.ireturn) 1 636 := ⟨dL_law__635, rfl⟩
theorem dL_law__636 : decode cL_law_ 636 = .ok (.goto 2716, 3) := by decide +kernel
theorem eL_law__636 : zD KL_law_ 636 (.goto 2716) 3 639 := ⟨dL_law__636, rfl⟩
theorem dL_law__639 : decode cL_law_ 639 = .ok (.aload_n 1, 1) := by decide +kernel
theorem eL_law__639 : zD KL_law_ 639 (.aload_n 1) 1 640 := ⟨dL_law__639, rfl⟩
theorem dL_law__640 : decode cL_law_ 640 = .ok (.aload_n 0, 1) := by decide +kernel
theorem eL_law__640 : zD KL_law_ 640 (.aload_n 0) 1 641 := ⟨dL_law__640, rfl⟩
theorem dL_law__641 : decode cL_law_ 641 = .ok (.iload 4, 2) := by decide +kernel
theorem eL_law__641 : zD KL_law_ 641 (.iload 4) 2 643 := ⟨dL_law__641, rfl⟩
theorem dL_law__643 : decode cL_law_ 643 = .ok (.iconst 1, 1) := by decide +kernel
theorem eL_law__643 : zD KL_law_ 643 (.iconst 1) 1 644 := ⟨dL_law__643, rfl⟩
theorem dL_law__644 : decode cL_law_ 644 = .ok (.iadd, 1) := by decide +kernel
theorem eL_law__644 : zD KL_law_ 644 (.iadd) 1 645 := ⟨dL_law__644, rfl⟩
theorem dL_law__645 : decode cL_law_ 645 = .ok (.iaload, 1) := by decide +kernel
theorem eL_law__645 : zD KL_law_ 645 (.iaload) 1 646 := ⟨dL_law__645, rfl⟩
theorem dL_law__646 : decode cL_law_ 646 = .ok (.aload_n 0, 1) := by decide +kernel
theorem eL_law__646 : zD KL_law_ 646 (.aload_n 0) 1 647 := ⟨dL_law__646, rfl⟩
theorem dL_law__647 : decode cL_law_ 647 = .ok (.iload 4, 2) := by decide +kernel
theorem eL_law__647 : zD KL_law_ 647 (.iload 4) 2 649 := ⟨dL_law__647, rfl⟩
theorem dL_law__649 : decode cL_law_ 649 = .ok (.iconst 2, 1) := by decide +kernel
theorem eL_law__649 : zD KL_law_ 649 (.iconst 2) 1 650 := ⟨dL_law__649, rfl⟩
theorem dL_law__650 : decode cL_law_ 650 = .ok (.iadd, 1) := by decide +kernel
theorem eL_law__650 : zD KL_law_ 650 (.iadd) 1 651 := ⟨dL_law__650, rfl⟩
theorem dL_law__651 : decode cL_law_ 651 = .ok (.iaload, 1) := by decide +kernel
theorem eL_law__651 : zD KL_law_ 651 (.iaload) 1 652 := ⟨dL_law__651, rfl⟩
theorem dL_law__652 : decode cL_law_ 652 = .ok (.aload_n 3, 1) := by decide +kernel
theorem eL_law__652 : zD KL_law_ 652 (.aload_n 3) 1 653 := ⟨dL_law__652, rfl⟩
theorem dL_law__653 : decode cL_law_ 653 = .ok (.invokestatic 187, 3) := by decide +kernel
theorem eL_law__653 : zD KL_law_ 653 (.invokestatic 187) 3 656 := ⟨dL_law__653, rfl⟩
theorem dL_law__656 : decode cL_law_ 656 = .ok (.istore 5, 2) := by decide +kernel
theorem eL_law__656 : zD KL_law_ 656 (.istore 5) 2 658 := ⟨dL_law__656, rfl⟩
theorem dL_law__658 : decode cL_law_ 658 = .ok (.aload_n 2, 1) := by decide +kernel
theorem eL_law__658 : zD KL_law_ 658 (.aload_n 2) 1 659 := ⟨dL_law__658, rfl⟩
theorem dL_law__659 : decode cL_law_ 659 = .ok (.aload_n 0, 1) := by decide +kernel
theorem eL_law__659 : zD KL_law_ 659 (.aload_n 0) 1 660 := ⟨dL_law__659, rfl⟩
theorem dL_law__660 : decode cL_law_ 660 = .ok (.iload 4, 2) := by decide +kernel
theorem eL_law__660 : zD KL_law_ 660 (.iload 4) 2 662 := ⟨dL_law__660, rfl⟩
theorem dL_law__662 : decode cL_law_ 662 = .ok (.iconst 1, 1) := by decide +kernel
theorem eL_law__662 : zD KL_law_ 662 (.iconst 1) 1 663 := ⟨dL_law__662, rfl⟩
theorem dL_law__663 : decode cL_law_ 663 = .ok (.iadd, 1) := by decide +kernel
theorem eL_law__663 : zD KL_law_ 663 (.iadd) 1 664 := ⟨dL_law__663, rfl⟩
theorem dL_law__664 : decode cL_law_ 664 = .ok (.iaload, 1) := by decide +kernel
theorem eL_law__664 : zD KL_law_ 664 (.iaload) 1 665 := ⟨dL_law__664, rfl⟩
theorem dL_law__665 : decode cL_law_ 665 = .ok (.aload_n 0, 1) := by decide +kernel
theorem eL_law__665 : zD KL_law_ 665 (.aload_n 0) 1 666 := ⟨dL_law__665, rfl⟩
theorem dL_law__666 : decode cL_law_ 666 = .ok (.iload 4, 2) := by decide +kernel
theorem eL_law__666 : zD KL_law_ 666 (.iload 4) 2 668 := ⟨dL_law__666, rfl⟩
theorem dL_law__668 : decode cL_law_ 668 = .ok (.iconst 2, 1) := by decide +kernel
theorem eL_law__668 : zD KL_law_ 668 (.iconst 2) 1 669 := ⟨dL_law__668, rfl⟩
theorem dL_law__669 : decode cL_law_ 669 = .ok (.iadd, 1) := by decide +kernel
theorem eL_law__669 : zD KL_law_ 669 (.iadd) 1 670 := ⟨dL_law__669, rfl⟩
theorem dL_law__670 : decode cL_law_ 670 = .ok (.iaload, 1) := by decide +kernel
theorem eL_law__670 : zD KL_law_ 670 (.iaload) 1 671 := ⟨dL_law__670, rfl⟩
theorem dL_law__671 : decode cL_law_ 671 = .ok (.invokevirtual 189, 3) := by decide +kernel
theorem eL_law__671 : zD KL_law_ 671 (.invokevirtual 189) 3 674 := ⟨dL_law__671, rfl⟩
theorem dL_law__674 : decode cL_law_ 674 = .ok (.istore 6, 2) := by decide +kernel
theorem eL_law__674 : zD KL_law_ 674 (.istore 6) 2 676 := ⟨dL_law__674, rfl⟩
theorem dL_law__676 : decode cL_law_ 676 = .ok (.aload_n 2, 1) := by decide +kernel
theorem eL_law__676 : zD KL_law_ 676 (.aload_n 2) 1 677 := ⟨dL_law__676, rfl⟩
theorem dL_law__677 : decode cL_law_ 677 = .ok (.invokevirtual 170, 3) := by decide +kernel
theorem eL_law__677 : zD KL_law_ 677 (.invokevirtual 170) 3 680 := ⟨dL_law__677, rfl⟩
theorem dL_law__680 : decode cL_law_ 680 = .ok (.iload 5, 2) := by decide +kernel
theorem eL_law__680 : zD KL_law_ 680 (.iload 5) 2 682 := ⟨dL_law__680, rfl⟩
theorem dL_law__682 : decode cL_law_ 682 = .ok (.if_icmp .eq 5, 3) := by decide +kernel
theorem eL_law__682 : zD KL_law_ 682 (.if_icmp .eq 5) 3 685 := ⟨dL_law__682, rfl⟩
theorem dL_law__685 : decode cL_law_ 685 = .ok (.iconst 0, 1) := by decide +kernel
theorem eL_law__685 : zD KL_law_ 685 (.iconst 0) 1 686 := ⟨dL_law__685, rfl⟩
theorem dL_law__686 : decode cL_law_ 686 = .ok (.ireturn, 1) := by decide +kernel
theorem eL_law__686 : zD KL_law_ 686 (.ireturn) 1 687 := ⟨dL_law__686, rfl⟩
theorem dL_law__687 : decode cL_law_ 687 = .ok (.iload 5, 2) := by decide +kernel
theorem eL_law__687 : zD KL_law_ 687 (.iload 5) 2 689 := ⟨dL_law__687, rfl⟩
theorem dL_law__689 : decode cL_law_ 689 = .ok (.ifCond .ne 15, 3) := by decide +kernel
theorem eL_law__689 : zD KL_law_ 689 (.ifCond .ne 15) 3 692 := ⟨dL_law__689, rfl⟩
theorem dL_law__692 : decode cL_law_ 692 = .ok (.aload_n 3, 1) := by decide +kernel
theorem eL_law__692 : zD KL_law_ 692 (.aload_n 3) 1 693 := ⟨dL_law__692, rfl⟩
theorem dL_law__693 : decode cL_law_ 693 = .ok (.iconst 0, 1) := by decide +kernel
theorem eL_law__693 : zD KL_law_ 693 (.iconst 0) 1 694 := ⟨dL_law__693, rfl⟩
theorem dL_law__694 : decode cL_law_ 694 = .ok (.laload, 1) := by decide +kernel
theorem eL_law__694 : zD KL_law_ 694 (.laload) 1 695 := ⟨dL_law__694, rfl⟩
theorem dL_law__695 : decode cL_law_ 695 = .ok (.iload 6, 2) := by decide +kernel
theorem eL_law__695 : zD KL_law_ 695 (.iload 6) 2 697 := ⟨dL_law__695, rfl⟩
theorem dL_law__697 : decode cL_law_ 697 = .ok (.i2l, 1) := by decide +kernel
theorem eL_law__697 : zD KL_law_ 697 (.i2l) 1 698 := ⟨dL_law__697, rfl⟩
theorem dL_law__698 : decode cL_law_ 698 = .ok (.lcmp, 1) := by decide +kernel
theorem eL_law__698 : zD KL_law_ 698 (.lcmp) 1 699 := ⟨dL_law__698, rfl⟩
theorem dL_law__699 : decode cL_law_ 699 = .ok (.ifCond .eq 5, 3) := by decide +kernel
theorem eL_law__699 : zD KL_law_ 699 (.ifCond .eq 5) 3 702 := ⟨dL_law__699, rfl⟩
theorem dL_law__702 : decode cL_law_ 702 = .ok (.iconst 0, 1) := by decide +kernel
theorem eL_law__702 : zD KL_law_ 702 (.iconst 0) 1 703 := ⟨dL_law__702, rfl⟩
theorem dL_law__703 : decode cL_law_ 703 = .ok (.ireturn, 1) := by decide +kernel
theorem eL_law__703 : zD KL_law_ 703 (.ireturn) 1 704 := ⟨dL_law__703, rfl⟩
theorem dL_law__704 : decode cL_law_ 704 = .ok (.goto 2648, 3) := by decide +kernel
theorem eL_law__704 : zD KL_law_ 704 (.goto 2648) 3 707 := ⟨dL_law__704, rfl⟩
theorem dL_law__707 : decode cL_law_ 707 = .ok (.aload_n 1, 1) := by decide +kernel
theorem eL_law__707 : zD KL_law_ 707 (.aload_n 1) 1 708 := ⟨dL_law__707, rfl⟩
theorem dL_law__708 : decode cL_law_ 708 = .ok (.aload_n 0, 1) := by decide +kernel
theorem eL_law__708 : zD KL_law_ 708 (.aload_n 0) 1 709 := ⟨dL_law__708, rfl⟩
theorem dL_law__709 : decode cL_law_ 709 = .ok (.iload 4, 2) := by decide +kernel
theorem eL_law__709 : zD KL_law_ 709 (.iload 4) 2 711 := ⟨dL_law__709, rfl⟩
theorem dL_law__711 : decode cL_law_ 711 = .ok (.iconst 1, 1) := by decide +kernel
theorem eL_law__711 : zD KL_law_ 711 (.iconst 1) 1 712 := ⟨dL_law__711, rfl⟩
theorem dL_law__712 : decode cL_law_ 712 = .ok (.iadd, 1) := by decide +kernel
theorem eL_law__712 : zD KL_law_ 712 (.iadd) 1 713 := ⟨dL_law__712, rfl⟩
theorem dL_law__713 : decode cL_law_ 713 = .ok (.iaload, 1) := by decide +kernel
theorem eL_law__713 : zD KL_law_ 713 (.iaload) 1 714 := ⟨dL_law__713, rfl⟩
theorem dL_law__714 : decode cL_law_ 714 = .ok (.aload_n 3, 1) := by decide +kernel
theorem eL_law__714 : zD KL_law_ 714 (.aload_n 3) 1 715 := ⟨dL_law__714, rfl⟩
theorem dL_law__715 : decode cL_law_ 715 = .ok (.invokestatic 190, 3) := by decide +kernel
theorem eL_law__715 : zD KL_law_ 715 (.invokestatic 190) 3 718 := ⟨dL_law__715, rfl⟩
theorem dL_law__718 : decode cL_law_ 718 = .ok (.istore 5, 2) := by decide +kernel
theorem eL_law__718 : zD KL_law_ 718 (.istore 5) 2 720 := ⟨dL_law__718, rfl⟩
theorem dL_law__720 : decode cL_law_ 720 = .ok (.aload_n 2, 1) := by decide +kernel
theorem eL_law__720 : zD KL_law_ 720 (.aload_n 2) 1 721 := ⟨dL_law__720, rfl⟩
theorem dL_law__721 : decode cL_law_ 721 = .ok (.aload_n 0, 1) := by decide +kernel
theorem eL_law__721 : zD KL_law_ 721 (.aload_n 0) 1 722 := ⟨dL_law__721, rfl⟩
theorem dL_law__722 : decode cL_law_ 722 = .ok (.iload 4, 2) := by decide +kernel
theorem eL_law__722 : zD KL_law_ 722 (.iload 4) 2 724 := ⟨dL_law__722, rfl⟩
theorem dL_law__724 : decode cL_law_ 724 = .ok (.iconst 1, 1) := by decide +kernel
theorem eL_law__724 : zD KL_law_ 724 (.iconst 1) 1 725 := ⟨dL_law__724, rfl⟩
theorem dL_law__725 : decode cL_law_ 725 = .ok (.iadd, 1) := by decide +kernel
theorem eL_law__725 : zD KL_law_ 725 (.iadd) 1 726 := ⟨dL_law__725, rfl⟩
theorem dL_law__726 : decode cL_law_ 726 = .ok (.iaload, 1) := by decide +kernel
theorem eL_law__726 : zD KL_law_ 726 (.iaload) 1 727 := ⟨dL_law__726, rfl⟩
theorem dL_law__727 : decode cL_law_ 727 = .ok (.invokevirtual 193, 3) := by decide +kernel
theorem eL_law__727 : zD KL_law_ 727 (.invokevirtual 193) 3 730 := ⟨dL_law__727, rfl⟩
theorem dL_law__730 : decode cL_law_ 730 = .ok (.istore 6, 2) := by decide +kernel
theorem eL_law__730 : zD KL_law_ 730 (.istore 6) 2 732 := ⟨dL_law__730, rfl⟩
theorem dL_law__732 : decode cL_law_ 732 = .ok (.aload_n 2, 1) := by decide +kernel
theorem eL_law__732 : zD KL_law_ 732 (.aload_n 2) 1 733 := ⟨dL_law__732, rfl⟩
theorem dL_law__733 : decode cL_law_ 733 = .ok (.invokevirtual 170, 3) := by decide +kernel
theorem eL_law__733 : zD KL_law_ 733 (.invokevirtual 170) 3 736 := ⟨dL_law__733, rfl⟩
theorem dL_law__736 : decode cL_law_ 736 = .ok (.iload 5, 2) := by decide +kernel
theorem eL_law__736 : zD KL_law_ 736 (.iload 5) 2 738 := ⟨dL_law__736, rfl⟩
theorem dL_law__738 : decode cL_law_ 738 = .ok (.if_icmp .eq 5, 3) := by decide +kernel
theorem eL_law__738 : zD KL_law_ 738 (.if_icmp .eq 5) 3 741 := ⟨dL_law__738, rfl⟩
theorem dL_law__741 : decode cL_law_ 741 = .ok (.iconst 0, 1) := by decide +kernel
theorem eL_law__741 : zD KL_law_ 741 (.iconst 0) 1 742 := ⟨dL_law__741, rfl⟩
theorem dL_law__742 : decode cL_law_ 742 = .ok (.ireturn, 1) := by decide +kernel
theorem eL_law__742 : zD KL_law_ 742 (.ireturn) 1 743 := ⟨dL_law__742, rfl⟩
theorem dL_law__743 : decode cL_law_ 743 = .ok (.iload 5, 2) := by decide +kernel
theorem eL_law__743 : zD KL_law_ 743 (.iload 5) 2 745 := ⟨dL_law__743, rfl⟩
theorem dL_law__745 : decode cL_law_ 745 = .ok (.ifCond .ne 15, 3) := by decide +kernel
theorem eL_law__745 : zD KL_law_ 745 (.ifCond .ne 15) 3 748 := ⟨dL_law__745, rfl⟩
theorem dL_law__748 : decode cL_law_ 748 = .ok (.aload_n 3, 1) := by decide +kernel
theorem eL_law__748 : zD KL_law_ 748 (.aload_n 3) 1 749 := ⟨dL_law__748, rfl⟩
theorem dL_law__749 : decode cL_law_ 749 = .ok (.iconst 0, 1) := by decide +kernel
theorem eL_law__749 : zD KL_law_ 749 (.iconst 0) 1 750 := ⟨dL_law__749, rfl⟩
theorem dL_law__750 : decode cL_law_ 750 = .ok (.laload, 1) := by decide +kernel
theorem eL_law__750 : zD KL_law_ 750 (.laload) 1 751 := ⟨dL_law__750, rfl⟩
theorem dL_law__751 : decode cL_law_ 751 = .ok (.iload 6, 2) := by decide +kernel
theorem eL_law__751 : zD KL_law_ 751 (.iload 6) 2 753 := ⟨dL_law__751, rfl⟩
theorem dL_law__753 : decode cL_law_ 753 = .ok (.i2l, 1) := by decide +kernel
theorem eL_law__753 : zD KL_law_ 753 (.i2l) 1 754 := ⟨dL_law__753, rfl⟩
theorem dL_law__754 : decode cL_law_ 754 = .ok (.lcmp, 1) := by decide +kernel
theorem eL_law__754 : zD KL_law_ 754 (.lcmp) 1 755 := ⟨dL_law__754, rfl⟩
theorem dL_law__755 : decode cL_law_ 755 = .ok (.ifCond .eq 5, 3) := by decide +kernel
theorem eL_law__755 : zD KL_law_ 755 (.ifCond .eq 5) 3 758 := ⟨dL_law__755, rfl⟩
theorem dL_law__758 : decode cL_law_ 758 = .ok (.iconst 0, 1) := by decide +kernel
theorem eL_law__758 : zD KL_law_ 758 (.iconst 0) 1 759 := ⟨dL_law__758, rfl⟩
theorem dL_law__759 : decode cL_law_ 759 = .ok (.ireturn, 1) := by decide +kernel
theorem eL_law__759 : zD KL_law_ 759 (.ireturn) 1 760 := ⟨dL_law__759, rfl⟩
theorem dL_law__760 : decode cL_law_ 760 = .ok (.goto 2592, 3) := by decide +kernel
theorem eL_law__760 : zD KL_law_ 760 (.goto 2592) 3 763 := ⟨dL_law__760, rfl⟩
theorem dL_law__763 : decode cL_law_ 763 = .ok (.aload_n 1, 1) := by decide +kernel
theorem eL_law__763 : zD KL_law_ 763 (.aload_n 1) 1 764 := ⟨dL_law__763, rfl⟩
theorem dL_law__764 : decode cL_law_ 764 = .ok (.aload_n 0, 1) := by decide +kernel
theorem eL_law__764 : zD KL_law_ 764 (.aload_n 0) 1 765 := ⟨dL_law__764, rfl⟩
theorem dL_law__765 : decode cL_law_ 765 = .ok (.iload 4, 2) := by decide +kernel
theorem eL_law__765 : zD KL_law_ 765 (.iload 4) 2 767 := ⟨dL_law__765, rfl⟩
theorem dL_law__767 : decode cL_law_ 767 = .ok (.iconst 1, 1) := by decide +kernel
theorem eL_law__767 : zD KL_law_ 767 (.iconst 1) 1 768 := ⟨dL_law__767, rfl⟩
theorem dL_law__768 : decode cL_law_ 768 = .ok (.iadd, 1) := by decide +kernel
theorem eL_law__768 : zD KL_law_ 768 (.iadd) 1 769 := ⟨dL_law__768, rfl⟩
theorem dL_law__769 : decode cL_law_ 769 = .ok (.iaload, 1) := by decide +kernel
theorem eL_law__769 : zD KL_law_ 769 (.iaload) 1 770 := ⟨dL_law__769, rfl⟩
theorem dL_law__770 : decode cL_law_ 770 = .ok (.aload_n 3, 1) := by decide +kernel
theorem eL_law__770 : zD KL_law_ 770 (.aload_n 3) 1 771 := ⟨dL_law__770, rfl⟩
theorem dL_law__771 : decode cL_law_ 771 = .ok (.invokestatic 194, 3) := by decide +kernel
theorem eL_law__771 : zD KL_law_ 771 (.invokestatic 194) 3 774 := ⟨dL_law__771, rfl⟩
theorem dL_law__774 : decode cL_law_ 774 = .ok (.istore 5, 2) := by decide +kernel
theorem eL_law__774 : zD KL_law_ 774 (.istore 5) 2 776 := ⟨dL_law__774, rfl⟩
theorem dL_law__776 : decode cL_law_ 776 = .ok (.aload_n 2, 1) := by decide +kernel
theorem eL_law__776 : zD KL_law_ 776 (.aload_n 2) 1 777 := ⟨dL_law__776, rfl⟩
theorem dL_law__777 : decode cL_law_ 777 = .ok (.aload_n 0, 1) := by decide +kernel
theorem eL_law__777 : zD KL_law_ 777 (.aload_n 0) 1 778 := ⟨dL_law__777, rfl⟩
theorem dL_law__778 : decode cL_law_ 778 = .ok (.iload 4, 2) := by decide +kernel
theorem eL_law__778 : zD KL_law_ 778 (.iload 4) 2 780 := ⟨dL_law__778, rfl⟩
theorem dL_law__780 : decode cL_law_ 780 = .ok (.iconst 1, 1) := by decide +kernel
theorem eL_law__780 : zD KL_law_ 780 (.iconst 1) 1 781 := ⟨dL_law__780, rfl⟩
theorem dL_law__781 : decode cL_law_ 781 = .ok (.iadd, 1) := by decide +kernel
theorem eL_law__781 : zD KL_law_ 781 (.iadd) 1 782 := ⟨dL_law__781, rfl⟩
theorem dL_law__782 : decode cL_law_ 782 = .ok (.iaload, 1) := by decide +kernel
theorem eL_law__782 : zD KL_law_ 782 (.iaload) 1 783 := ⟨dL_law__782, rfl⟩
theorem dL_law__783 : decode cL_law_ 783 = .ok (.invokevirtual 196, 3) := by decide +kernel
theorem eL_law__783 : zD KL_law_ 783 (.invokevirtual 196) 3 786 := ⟨dL_law__783, rfl⟩
theorem dL_law__786 : decode cL_law_ 786 = .ok (.istore 6, 2) := by decide +kernel
theorem eL_law__786 : zD KL_law_ 786 (.istore 6) 2 788 := ⟨dL_law__786, rfl⟩
theorem dL_law__788 : decode cL_law_ 788 = .ok (.aload_n 2, 1) := by decide +kernel
theorem eL_law__788 : zD KL_law_ 788 (.aload_n 2) 1 789 := ⟨dL_law__788, rfl⟩
theorem dL_law__789 : decode cL_law_ 789 = .ok (.invokevirtual 170, 3) := by decide +kernel
theorem eL_law__789 : zD KL_law_ 789 (.invokevirtual 170) 3 792 := ⟨dL_law__789, rfl⟩
theorem dL_law__792 : decode cL_law_ 792 = .ok (.iload 5, 2) := by decide +kernel
theorem eL_law__792 : zD KL_law_ 792 (.iload 5) 2 794 := ⟨dL_law__792, rfl⟩
theorem dL_law__794 : decode cL_law_ 794 = .ok (.if_icmp .eq 5, 3) := by decide +kernel
theorem eL_law__794 : zD KL_law_ 794 (.if_icmp .eq 5) 3 797 := ⟨dL_law__794, rfl⟩
theorem dL_law__797 : decode cL_law_ 797 = .ok (.iconst 0, 1) := by decide +kernel
theorem eL_law__797 : zD KL_law_ 797 (.iconst 0) 1 798 := ⟨dL_law__797, rfl⟩
theorem dL_law__798 : decode cL_law_ 798 = .ok (.ireturn, 1) := by decide +kernel
theorem eL_law__798 : zD KL_law_ 798 (.ireturn) 1 799 := ⟨dL_law__798, rfl⟩
theorem dL_law__799 : decode cL_law_ 799 = .ok (.iload 5, 2) := by decide +kernel
theorem eL_law__799 : zD KL_law_ 799 (.iload 5) 2 801 := ⟨dL_law__799, rfl⟩
theorem dL_law__801 : decode cL_law_ 801 = .ok (.ifCond .ne 15, 3) := by decide +kernel
theorem eL_law__801 : zD KL_law_ 801 (.ifCond .ne 15) 3 804 := ⟨dL_law__801, rfl⟩
theorem dL_law__804 : decode cL_law_ 804 = .ok (.aload_n 3, 1) := by decide +kernel
theorem eL_law__804 : zD KL_law_ 804 (.aload_n 3) 1 805 := ⟨dL_law__804, rfl⟩
theorem dL_law__805 : decode cL_law_ 805 = .ok (.iconst 0, 1) := by decide +kernel
theorem eL_law__805 : zD KL_law_ 805 (.iconst 0) 1 806 := ⟨dL_law__805, rfl⟩
theorem dL_law__806 : decode cL_law_ 806 = .ok (.laload, 1) := by decide +kernel
theorem eL_law__806 : zD KL_law_ 806 (.laload) 1 807 := ⟨dL_law__806, rfl⟩
theorem dL_law__807 : decode cL_law_ 807 = .ok (.iload 6, 2) := by decide +kernel
theorem eL_law__807 : zD KL_law_ 807 (.iload 6) 2 809 := ⟨dL_law__807, rfl⟩
theorem dL_law__809 : decode cL_law_ 809 = .ok (.i2l, 1) := by decide +kernel
theorem eL_law__809 : zD KL_law_ 809 (.i2l) 1 810 := ⟨dL_law__809, rfl⟩
theorem dL_law__810 : decode cL_law_ 810 = .ok (.lcmp, 1) := by decide +kernel
theorem eL_law__810 : zD KL_law_ 810 (.lcmp) 1 811 := ⟨dL_law__810, rfl⟩
theorem dL_law__811 : decode cL_law_ 811 = .ok (.ifCond .eq 5, 3) := by decide +kernel
theorem eL_law__811 : zD KL_law_ 811 (.ifCond .eq 5) 3 814 := ⟨dL_law__811, rfl⟩
theorem dL_law__814 : decode cL_law_ 814 = .ok (.iconst 0, 1) := by decide +kernel
theorem eL_law__814 : zD KL_law_ 814 (.iconst 0) 1 815 := ⟨dL_law__814, rfl⟩
theorem dL_law__815 : decode cL_law_ 815 = .ok (.ireturn, 1) := by decide +kernel
theorem eL_law__815 : zD KL_law_ 815 (.ireturn) 1 816 := ⟨dL_law__815, rfl⟩
theorem dL_law__816 : decode cL_law_ 816 = .ok (.goto 2536, 3) := by decide +kernel
theorem eL_law__816 : zD KL_law_ 816 (.goto 2536) 3 819 := ⟨dL_law__816, rfl⟩
theorem dL_law__819 : decode cL_law_ 819 = .ok (.aload_n 1, 1) := by decide +kernel
theorem eL_law__819 : zD KL_law_ 819 (.aload_n 1) 1 820 := ⟨dL_law__819, rfl⟩
theorem dL_law__820 : decode cL_law_ 820 = .ok (.aload_n 0, 1) := by decide +kernel
theorem eL_law__820 : zD KL_law_ 820 (.aload_n 0) 1 821 := ⟨dL_law__820, rfl⟩
theorem dL_law__821 : decode cL_law_ 821 = .ok (.iload 4, 2) := by decide +kernel
theorem eL_law__821 : zD KL_law_ 821 (.iload 4) 2 823 := ⟨dL_law__821, rfl⟩
theorem dL_law__823 : decode cL_law_ 823 = .ok (.iconst 1, 1) := by decide +kernel
theorem eL_law__823 : zD KL_law_ 823 (.iconst 1) 1 824 := ⟨dL_law__823, rfl⟩
theorem dL_law__824 : decode cL_law_ 824 = .ok (.iadd, 1) := by decide +kernel
theorem eL_law__824 : zD KL_law_ 824 (.iadd) 1 825 := ⟨dL_law__824, rfl⟩
theorem dL_law__825 : decode cL_law_ 825 = .ok (.iaload, 1) := by decide +kernel
theorem eL_law__825 : zD KL_law_ 825 (.iaload) 1 826 := ⟨dL_law__825, rfl⟩
theorem dL_law__826 : decode cL_law_ 826 = .ok (.aload_n 0, 1) := by decide +kernel
theorem eL_law__826 : zD KL_law_ 826 (.aload_n 0) 1 827 := ⟨dL_law__826, rfl⟩
theorem dL_law__827 : decode cL_law_ 827 = .ok (.iload 4, 2) := by decide +kernel
theorem eL_law__827 : zD KL_law_ 827 (.iload 4) 2 829 := ⟨dL_law__827, rfl⟩
theorem dL_law__829 : decode cL_law_ 829 = .ok (.iconst 2, 1) := by decide +kernel
theorem eL_law__829 : zD KL_law_ 829 (.iconst 2) 1 830 := ⟨dL_law__829, rfl⟩
theorem dL_law__830 : decode cL_law_ 830 = .ok (.iadd, 1) := by decide +kernel
theorem eL_law__830 : zD KL_law_ 830 (.iadd) 1 831 := ⟨dL_law__830, rfl⟩
theorem dL_law__831 : decode cL_law_ 831 = .ok (.iaload, 1) := by decide +kernel
theorem eL_law__831 : zD KL_law_ 831 (.iaload) 1 832 := ⟨dL_law__831, rfl⟩
theorem dL_law__832 : decode cL_law_ 832 = .ok (.aload_n 0, 1) := by decide +kernel
theorem eL_law__832 : zD KL_law_ 832 (.aload_n 0) 1 833 := ⟨dL_law__832, rfl⟩
theorem dL_law__833 : decode cL_law_ 833 = .ok (.iload 4, 2) := by decide +kernel
theorem eL_law__833 : zD KL_law_ 833 (.iload 4) 2 835 := ⟨dL_law__833, rfl⟩
theorem dL_law__835 : decode cL_law_ 835 = .ok (.iconst 3, 1) := by decide +kernel
theorem eL_law__835 : zD KL_law_ 835 (.iconst 3) 1 836 := ⟨dL_law__835, rfl⟩
theorem dL_law__836 : decode cL_law_ 836 = .ok (.iadd, 1) := by decide +kernel
theorem eL_law__836 : zD KL_law_ 836 (.iadd) 1 837 := ⟨dL_law__836, rfl⟩
theorem dL_law__837 : decode cL_law_ 837 = .ok (.iaload, 1) := by decide +kernel
theorem eL_law__837 : zD KL_law_ 837 (.iaload) 1 838 := ⟨dL_law__837, rfl⟩
theorem dL_law__838 : decode cL_law_ 838 = .ok (.aload_n 3, 1) := by decide +kernel
theorem eL_law__838 : zD KL_law_ 838 (.aload_n 3) 1 839 := ⟨dL_law__838, rfl⟩
theorem dL_law__839 : decode cL_law_ 839 = .ok (.invokestatic 197, 3) := by decide +kernel
theorem eL_law__839 : zD KL_law_ 839 (.invokestatic 197) 3 842 := ⟨dL_law__839, rfl⟩
theorem dL_law__842 : decode cL_law_ 842 = .ok (.istore 5, 2) := by decide +kernel
theorem eL_law__842 : zD KL_law_ 842 (.istore 5) 2 844 := ⟨dL_law__842, rfl⟩
theorem dL_law__844 : decode cL_law_ 844 = .ok (.aload_n 2, 1) := by decide +kernel
theorem eL_law__844 : zD KL_law_ 844 (.aload_n 2) 1 845 := ⟨dL_law__844, rfl⟩
theorem dL_law__845 : decode cL_law_ 845 = .ok (.aload_n 0, 1) := by decide +kernel
theorem eL_law__845 : zD KL_law_ 845 (.aload_n 0) 1 846 := ⟨dL_law__845, rfl⟩
theorem dL_law__846 : decode cL_law_ 846 = .ok (.iload 4, 2) := by decide +kernel
theorem eL_law__846 : zD KL_law_ 846 (.iload 4) 2 848 := ⟨dL_law__846, rfl⟩
theorem dL_law__848 : decode cL_law_ 848 = .ok (.iconst 1, 1) := by decide +kernel
theorem eL_law__848 : zD KL_law_ 848 (.iconst 1) 1 849 := ⟨dL_law__848, rfl⟩
theorem dL_law__849 : decode cL_law_ 849 = .ok (.iadd, 1) := by decide +kernel
theorem eL_law__849 : zD KL_law_ 849 (.iadd) 1 850 := ⟨dL_law__849, rfl⟩
theorem dL_law__850 : decode cL_law_ 850 = .ok (.iaload, 1) := by decide +kernel
theorem eL_law__850 : zD KL_law_ 850 (.iaload) 1 851 := ⟨dL_law__850, rfl⟩
theorem dL_law__851 : decode cL_law_ 851 = .ok (.aload_n 0, 1) := by decide +kernel
theorem eL_law__851 : zD KL_law_ 851 (.aload_n 0) 1 852 := ⟨dL_law__851, rfl⟩
theorem dL_law__852 : decode cL_law_ 852 = .ok (.iload 4, 2) := by decide +kernel
theorem eL_law__852 : zD KL_law_ 852 (.iload 4) 2 854 := ⟨dL_law__852, rfl⟩
theorem dL_law__854 : decode cL_law_ 854 = .ok (.iconst 2, 1) := by decide +kernel
theorem eL_law__854 : zD KL_law_ 854 (.iconst 2) 1 855 := ⟨dL_law__854, rfl⟩
theorem dL_law__855 : decode cL_law_ 855 = .ok (.iadd, 1) := by decide +kernel
theorem eL_law__855 : zD KL_law_ 855 (.iadd) 1 856 := ⟨dL_law__855, rfl⟩
theorem dL_law__856 : decode cL_law_ 856 = .ok (.iaload, 1) := by decide +kernel
theorem eL_law__856 : zD KL_law_ 856 (.iaload) 1 857 := ⟨dL_law__856, rfl⟩
theorem dL_law__857 : decode cL_law_ 857 = .ok (.aload_n 0, 1) := by decide +kernel
theorem eL_law__857 : zD KL_law_ 857 (.aload_n 0) 1 858 := ⟨dL_law__857, rfl⟩
theorem dL_law__858 : decode cL_law_ 858 = .ok (.iload 4, 2) := by decide +kernel
theorem eL_law__858 : zD KL_law_ 858 (.iload 4) 2 860 := ⟨dL_law__858, rfl⟩
theorem dL_law__860 : decode cL_law_ 860 = .ok (.iconst 3, 1) := by decide +kernel
theorem eL_law__860 : zD KL_law_ 860 (.iconst 3) 1 861 := ⟨dL_law__860, rfl⟩
theorem dL_law__861 : decode cL_law_ 861 = .ok (.iadd, 1) := by decide +kernel
theorem eL_law__861 : zD KL_law_ 861 (.iadd) 1 862 := ⟨dL_law__861, rfl⟩
theorem dL_law__862 : decode cL_law_ 862 = .ok (.iaload, 1) := by decide +kernel
theorem eL_law__862 : zD KL_law_ 862 (.iaload) 1 863 := ⟨dL_law__862, rfl⟩
theorem dL_law__863 : decode cL_law_ 863 = .ok (.invokevirtual 200, 3) := by decide +kernel
theorem eL_law__863 : zD KL_law_ 863 (.invokevirtual 200) 3 866 := ⟨dL_law__863, rfl⟩
theorem dL_law__866 : decode cL_law_ 866 = .ok (.istore 6, 2) := by decide +kernel
theorem eL_law__866 : zD KL_law_ 866 (.istore 6) 2 868 := ⟨dL_law__866, rfl⟩
theorem dL_law__868 : decode cL_law_ 868 = .ok (.aload_n 2, 1) := by decide +kernel
theorem eL_law__868 : zD KL_law_ 868 (.aload_n 2) 1 869 := ⟨dL_law__868, rfl⟩
theorem dL_law__869 : decode cL_law_ 869 = .ok (.invokevirtual 170, 3) := by decide +kernel
theorem eL_law__869 : zD KL_law_ 869 (.invokevirtual 170) 3 872 := ⟨dL_law__869, rfl⟩
theorem dL_law__872 : decode cL_law_ 872 = .ok (.iload 5, 2) := by decide +kernel
theorem eL_law__872 : zD KL_law_ 872 (.iload 5) 2 874 := ⟨dL_law__872, rfl⟩
theorem dL_law__874 : decode cL_law_ 874 = .ok (.if_icmp .eq 5, 3) := by decide +kernel
theorem eL_law__874 : zD KL_law_ 874 (.if_icmp .eq 5) 3 877 := ⟨dL_law__874, rfl⟩
theorem dL_law__877 : decode cL_law_ 877 = .ok (.iconst 0, 1) := by decide +kernel
theorem eL_law__877 : zD KL_law_ 877 (.iconst 0) 1 878 := ⟨dL_law__877, rfl⟩
theorem dL_law__878 : decode cL_law_ 878 = .ok (.ireturn, 1) := by decide +kernel
theorem eL_law__878 : zD KL_law_ 878 (.ireturn) 1 879 := ⟨dL_law__878, rfl⟩
theorem dL_law__879 : decode cL_law_ 879 = .ok (.iload 5, 2) := by decide +kernel
theorem eL_law__879 : zD KL_law_ 879 (.iload 5) 2 881 := ⟨dL_law__879, rfl⟩
theorem dL_law__881 : decode cL_law_ 881 = .ok (.ifCond .ne 15, 3) := by decide +kernel
theorem eL_law__881 : zD KL_law_ 881 (.ifCond .ne 15) 3 884 := ⟨dL_law__881, rfl⟩
theorem dL_law__884 : decode cL_law_ 884 = .ok (.aload_n 3, 1) := by decide +kernel
theorem eL_law__884 : zD KL_law_ 884 (.aload_n 3) 1 885 := ⟨dL_law__884, rfl⟩
theorem dL_law__885 : decode cL_law_ 885 = .ok (.iconst 0, 1) := by decide +kernel
theorem eL_law__885 : zD KL_law_ 885 (.iconst 0) 1 886 := ⟨dL_law__885, rfl⟩
theorem dL_law__886 : decode cL_law_ 886 = .ok (.laload, 1) := by decide +kernel
theorem eL_law__886 : zD KL_law_ 886 (.laload) 1 887 := ⟨dL_law__886, rfl⟩
theorem dL_law__887 : decode cL_law_ 887 = .ok (.iload 6, 2) := by decide +kernel
theorem eL_law__887 : zD KL_law_ 887 (.iload 6) 2 889 := ⟨dL_law__887, rfl⟩
theorem dL_law__889 : decode cL_law_ 889 = .ok (.i2l, 1) := by decide +kernel
theorem eL_law__889 : zD KL_law_ 889 (.i2l) 1 890 := ⟨dL_law__889, rfl⟩
theorem dL_law__890 : decode cL_law_ 890 = .ok (.lcmp, 1) := by decide +kernel
theorem eL_law__890 : zD KL_law_ 890 (.lcmp) 1 891 := ⟨dL_law__890, rfl⟩
theorem dL_law__891 : decode cL_law_ 891 = .ok (.ifCond .eq 5, 3) := by decide +kernel
theorem eL_law__891 : zD KL_law_ 891 (.ifCond .eq 5) 3 894 := ⟨dL_law__891, rfl⟩
theorem dL_law__894 : decode cL_law_ 894 = .ok (.iconst 0, 1) := by decide +kernel
theorem eL_law__894 : zD KL_law_ 894 (.iconst 0) 1 895 := ⟨dL_law__894, rfl⟩
theorem dL_law__895 : decode cL_law_ 895 = .ok (.ireturn, 1) := by decide +kernel
theorem eL_law__895 : zD KL_law_ 895 (.ireturn) 1 896 := ⟨dL_law__895, rfl⟩
theorem dL_law__896 : decode cL_law_ 896 = .ok (.goto 2456, 3) := by decide +kernel
theorem eL_law__896 : zD KL_law_ 896 (.goto 2456) 3 899 := ⟨dL_law__896, rfl⟩
theorem dL_law__899 : decode cL_law_ 899 = .ok (.aload_n 1, 1) := by decide +kernel
theorem eL_law__899 : zD KL_law_ 899 (.aload_n 1) 1 900 := ⟨dL_law__899, rfl⟩
theorem dL_law__900 : decode cL_law_ 900 = .ok (.aload_n 0, 1) := by decide +kernel
theorem eL_law__900 : zD KL_law_ 900 (.aload_n 0) 1 901 := ⟨dL_law__900, rfl⟩
theorem dL_law__901 : decode cL_law_ 901 = .ok (.iload 4, 2) := by decide +kernel
theorem eL_law__901 : zD KL_law_ 901 (.iload 4) 2 903 := ⟨dL_law__901, rfl⟩
theorem dL_law__903 : decode cL_law_ 903 = .ok (.iconst 1, 1) := by decide +kernel
theorem eL_law__903 : zD KL_law_ 903 (.iconst 1) 1 904 := ⟨dL_law__903, rfl⟩
theorem dL_law__904 : decode cL_law_ 904 = .ok (.iadd, 1) := by decide +kernel
theorem eL_law__904 : zD KL_law_ 904 (.iadd) 1 905 := ⟨dL_law__904, rfl⟩
theorem dL_law__905 : decode cL_law_ 905 = .ok (.iaload, 1) := by decide +kernel
theorem eL_law__905 : zD KL_law_ 905 (.iaload) 1 906 := ⟨dL_law__905, rfl⟩
theorem dL_law__906 : decode cL_law_ 906 = .ok (.aload_n 0, 1) := by decide +kernel
theorem eL_law__906 : zD KL_law_ 906 (.aload_n 0) 1 907 := ⟨dL_law__906, rfl⟩
theorem dL_law__907 : decode cL_law_ 907 = .ok (.iload 4, 2) := by decide +kernel
theorem eL_law__907 : zD KL_law_ 907 (.iload 4) 2 909 := ⟨dL_law__907, rfl⟩
theorem dL_law__909 : decode cL_law_ 909 = .ok (.iconst 2, 1) := by decide +kernel
theorem eL_law__909 : zD KL_law_ 909 (.iconst 2) 1 910 := ⟨dL_law__909, rfl⟩
theorem dL_law__910 : decode cL_law_ 910 = .ok (.iadd, 1) := by decide +kernel
theorem eL_law__910 : zD KL_law_ 910 (.iadd) 1 911 := ⟨dL_law__910, rfl⟩
theorem dL_law__911 : decode cL_law_ 911 = .ok (.iaload, 1) := by decide +kernel
theorem eL_law__911 : zD KL_law_ 911 (.iaload) 1 912 := ⟨dL_law__911, rfl⟩
theorem dL_law__912 : decode cL_law_ 912 = .ok (.aload_n 0, 1) := by decide +kernel
theorem eL_law__912 : zD KL_law_ 912 (.aload_n 0) 1 913 := ⟨dL_law__912, rfl⟩
theorem dL_law__913 : decode cL_law_ 913 = .ok (.iload 4, 2) := by decide +kernel
theorem eL_law__913 : zD KL_law_ 913 (.iload 4) 2 915 := ⟨dL_law__913, rfl⟩
theorem dL_law__915 : decode cL_law_ 915 = .ok (.iconst 3, 1) := by decide +kernel
theorem eL_law__915 : zD KL_law_ 915 (.iconst 3) 1 916 := ⟨dL_law__915, rfl⟩
theorem dL_law__916 : decode cL_law_ 916 = .ok (.iadd, 1) := by decide +kernel
theorem eL_law__916 : zD KL_law_ 916 (.iadd) 1 917 := ⟨dL_law__916, rfl⟩
theorem dL_law__917 : decode cL_law_ 917 = .ok (.iaload, 1) := by decide +kernel
theorem eL_law__917 : zD KL_law_ 917 (.iaload) 1 918 := ⟨dL_law__917, rfl⟩
theorem dL_law__918 : decode cL_law_ 918 = .ok (.aload_n 3, 1) := by decide +kernel
theorem eL_law__918 : zD KL_law_ 918 (.aload_n 3) 1 919 := ⟨dL_law__918, rfl⟩
theorem dL_law__919 : decode cL_law_ 919 = .ok (.invokestatic 201, 3) := by decide +kernel
theorem eL_law__919 : zD KL_law_ 919 (.invokestatic 201) 3 922 := ⟨dL_law__919, rfl⟩
theorem dL_law__922 : decode cL_law_ 922 = .ok (.istore 5, 2) := by decide +kernel
theorem eL_law__922 : zD KL_law_ 922 (.istore 5) 2 924 := ⟨dL_law__922, rfl⟩
theorem dL_law__924 : decode cL_law_ 924 = .ok (.aload_n 2, 1) := by decide +kernel
theorem eL_law__924 : zD KL_law_ 924 (.aload_n 2) 1 925 := ⟨dL_law__924, rfl⟩
theorem dL_law__925 : decode cL_law_ 925 = .ok (.aload_n 0, 1) := by decide +kernel
theorem eL_law__925 : zD KL_law_ 925 (.aload_n 0) 1 926 := ⟨dL_law__925, rfl⟩
theorem dL_law__926 : decode cL_law_ 926 = .ok (.iload 4, 2) := by decide +kernel
theorem eL_law__926 : zD KL_law_ 926 (.iload 4) 2 928 := ⟨dL_law__926, rfl⟩
theorem dL_law__928 : decode cL_law_ 928 = .ok (.iconst 1, 1) := by decide +kernel
theorem eL_law__928 : zD KL_law_ 928 (.iconst 1) 1 929 := ⟨dL_law__928, rfl⟩
theorem dL_law__929 : decode cL_law_ 929 = .ok (.iadd, 1) := by decide +kernel
theorem eL_law__929 : zD KL_law_ 929 (.iadd) 1 930 := ⟨dL_law__929, rfl⟩
theorem dL_law__930 : decode cL_law_ 930 = .ok (.iaload, 1) := by decide +kernel
theorem eL_law__930 : zD KL_law_ 930 (.iaload) 1 931 := ⟨dL_law__930, rfl⟩
theorem dL_law__931 : decode cL_law_ 931 = .ok (.aload_n 0, 1) := by decide +kernel
theorem eL_law__931 : zD KL_law_ 931 (.aload_n 0) 1 932 := ⟨dL_law__931, rfl⟩
theorem dL_law__932 : decode cL_law_ 932 = .ok (.iload 4, 2) := by decide +kernel
theorem eL_law__932 : zD KL_law_ 932 (.iload 4) 2 934 := ⟨dL_law__932, rfl⟩
theorem dL_law__934 : decode cL_law_ 934 = .ok (.iconst 2, 1) := by decide +kernel
theorem eL_law__934 : zD KL_law_ 934 (.iconst 2) 1 935 := ⟨dL_law__934, rfl⟩
theorem dL_law__935 : decode cL_law_ 935 = .ok (.iadd, 1) := by decide +kernel
theorem eL_law__935 : zD KL_law_ 935 (.iadd) 1 936 := ⟨dL_law__935, rfl⟩
theorem dL_law__936 : decode cL_law_ 936 = .ok (.iaload, 1) := by decide +kernel
theorem eL_law__936 : zD KL_law_ 936 (.iaload) 1 937 := ⟨dL_law__936, rfl⟩
theorem dL_law__937 : decode cL_law_ 937 = .ok (.aload_n 0, 1) := by decide +kernel
theorem eL_law__937 : zD KL_law_ 937 (.aload_n 0) 1 938 := ⟨dL_law__937, rfl⟩
theorem dL_law__938 : decode cL_law_ 938 = .ok (.iload 4, 2) := by decide +kernel
theorem eL_law__938 : zD KL_law_ 938 (.iload 4) 2 940 := ⟨dL_law__938, rfl⟩
theorem dL_law__940 : decode cL_law_ 940 = .ok (.iconst 3, 1) := by decide +kernel
theorem eL_law__940 : zD KL_law_ 940 (.iconst 3) 1 941 := ⟨dL_law__940, rfl⟩
theorem dL_law__941 : decode cL_law_ 941 = .ok (.iadd, 1) := by decide +kernel
theorem eL_law__941 : zD KL_law_ 941 (.iadd) 1 942 := ⟨dL_law__941, rfl⟩
theorem dL_law__942 : decode cL_law_ 942 = .ok (.iaload, 1) := by decide +kernel
theorem eL_law__942 : zD KL_law_ 942 (.iaload) 1 943 := ⟨dL_law__942, rfl⟩
theorem dL_law__943 : decode cL_law_ 943 = .ok (.invokevirtual 203, 3) := by decide +kernel
theorem eL_law__943 : zD KL_law_ 943 (.invokevirtual 203) 3 946 := ⟨dL_law__943, rfl⟩
theorem dL_law__946 : decode cL_law_ 946 = .ok (.istore 6, 2) := by decide +kernel
theorem eL_law__946 : zD KL_law_ 946 (.istore 6) 2 948 := ⟨dL_law__946, rfl⟩
theorem dL_law__948 : decode cL_law_ 948 = .ok (.aload_n 2, 1) := by decide +kernel
theorem eL_law__948 : zD KL_law_ 948 (.aload_n 2) 1 949 := ⟨dL_law__948, rfl⟩
theorem dL_law__949 : decode cL_law_ 949 = .ok (.invokevirtual 170, 3) := by decide +kernel
theorem eL_law__949 : zD KL_law_ 949 (.invokevirtual 170) 3 952 := ⟨dL_law__949, rfl⟩
theorem dL_law__952 : decode cL_law_ 952 = .ok (.iload 5, 2) := by decide +kernel
theorem eL_law__952 : zD KL_law_ 952 (.iload 5) 2 954 := ⟨dL_law__952, rfl⟩
theorem dL_law__954 : decode cL_law_ 954 = .ok (.if_icmp .eq 5, 3) := by decide +kernel
theorem eL_law__954 : zD KL_law_ 954 (.if_icmp .eq 5) 3 957 := ⟨dL_law__954, rfl⟩
theorem dL_law__957 : decode cL_law_ 957 = .ok (.iconst 0, 1) := by decide +kernel
theorem eL_law__957 : zD KL_law_ 957 (.iconst 0) 1 958 := ⟨dL_law__957, rfl⟩
theorem dL_law__958 : decode cL_law_ 958 = .ok (.ireturn, 1) := by decide +kernel
theorem eL_law__958 : zD KL_law_ 958 (.ireturn) 1 959 := ⟨dL_law__958, rfl⟩
theorem dL_law__959 : decode cL_law_ 959 = .ok (.iload 5, 2) := by decide +kernel
theorem eL_law__959 : zD KL_law_ 959 (.iload 5) 2 961 := ⟨dL_law__959, rfl⟩
theorem dL_law__961 : decode cL_law_ 961 = .ok (.ifCond .ne 15, 3) := by decide +kernel
theorem eL_law__961 : zD KL_law_ 961 (.ifCond .ne 15) 3 964 := ⟨dL_law__961, rfl⟩
theorem dL_law__964 : decode cL_law_ 964 = .ok (.aload_n 3, 1) := by decide +kernel
theorem eL_law__964 : zD KL_law_ 964 (.aload_n 3) 1 965 := ⟨dL_law__964, rfl⟩
theorem dL_law__965 : decode cL_law_ 965 = .ok (.iconst 0, 1) := by decide +kernel
theorem eL_law__965 : zD KL_law_ 965 (.iconst 0) 1 966 := ⟨dL_law__965, rfl⟩
theorem dL_law__966 : decode cL_law_ 966 = .ok (.laload, 1) := by decide +kernel
theorem eL_law__966 : zD KL_law_ 966 (.laload) 1 967 := ⟨dL_law__966, rfl⟩
theorem dL_law__967 : decode cL_law_ 967 = .ok (.iload 6, 2) := by decide +kernel
theorem eL_law__967 : zD KL_law_ 967 (.iload 6) 2 969 := ⟨dL_law__967, rfl⟩
theorem dL_law__969 : decode cL_law_ 969 = .ok (.i2l, 1) := by decide +kernel
theorem eL_law__969 : zD KL_law_ 969 (.i2l) 1 970 := ⟨dL_law__969, rfl⟩
theorem dL_law__970 : decode cL_law_ 970 = .ok (.lcmp, 1) := by decide +kernel
theorem eL_law__970 : zD KL_law_ 970 (.lcmp) 1 971 := ⟨dL_law__970, rfl⟩
theorem dL_law__971 : decode cL_law_ 971 = .ok (.ifCond .eq 5, 3) := by decide +kernel
theorem eL_law__971 : zD KL_law_ 971 (.ifCond .eq 5) 3 974 := ⟨dL_law__971, rfl⟩
theorem dL_law__974 : decode cL_law_ 974 = .ok (.iconst 0, 1) := by decide +kernel
theorem eL_law__974 : zD KL_law_ 974 (.iconst 0) 1 975 := ⟨dL_law__974, rfl⟩
theorem dL_law__975 : decode cL_law_ 975 = .ok (.ireturn, 1) := by decide +kernel
theorem eL_law__975 : zD KL_law_ 975 (.ireturn) 1 976 := ⟨dL_law__975, rfl⟩
theorem dL_law__976 : decode cL_law_ 976 = .ok (.goto 2376, 3) := by decide +kernel
theorem eL_law__976 : zD KL_law_ 976 (.goto 2376) 3 979 := ⟨dL_law__976, rfl⟩
theorem dL_law__979 : decode cL_law_ 979 = .ok (.aload_n 1, 1) := by decide +kernel
theorem eL_law__979 : zD KL_law_ 979 (.aload_n 1) 1 980 := ⟨dL_law__979, rfl⟩
theorem dL_law__980 : decode cL_law_ 980 = .ok (.aload_n 0, 1) := by decide +kernel
theorem eL_law__980 : zD KL_law_ 980 (.aload_n 0) 1 981 := ⟨dL_law__980, rfl⟩
theorem dL_law__981 : decode cL_law_ 981 = .ok (.iload 4, 2) := by decide +kernel
theorem eL_law__981 : zD KL_law_ 981 (.iload 4) 2 983 := ⟨dL_law__981, rfl⟩
theorem dL_law__983 : decode cL_law_ 983 = .ok (.iconst 1, 1) := by decide +kernel
theorem eL_law__983 : zD KL_law_ 983 (.iconst 1) 1 984 := ⟨dL_law__983, rfl⟩
theorem dL_law__984 : decode cL_law_ 984 = .ok (.iadd, 1) := by decide +kernel
theorem eL_law__984 : zD KL_law_ 984 (.iadd) 1 985 := ⟨dL_law__984, rfl⟩
theorem dL_law__985 : decode cL_law_ 985 = .ok (.iaload, 1) := by decide +kernel
theorem eL_law__985 : zD KL_law_ 985 (.iaload) 1 986 := ⟨dL_law__985, rfl⟩
theorem dL_law__986 : decode cL_law_ 986 = .ok (.aload_n 3, 1) := by decide +kernel
theorem eL_law__986 : zD KL_law_ 986 (.aload_n 3) 1 987 := ⟨dL_law__986, rfl⟩
theorem dL_law__987 : decode cL_law_ 987 = .ok (.invokestatic 204, 3) := by decide +kernel
theorem eL_law__987 : zD KL_law_ 987 (.invokestatic 204) 3 990 := ⟨dL_law__987, rfl⟩
theorem dL_law__990 : decode cL_law_ 990 = .ok (.istore 5, 2) := by decide +kernel
theorem eL_law__990 : zD KL_law_ 990 (.istore 5) 2 992 := ⟨dL_law__990, rfl⟩
theorem dL_law__992 : decode cL_law_ 992 = .ok (.aload_n 2, 1) := by decide +kernel
theorem eL_law__992 : zD KL_law_ 992 (.aload_n 2) 1 993 := ⟨dL_law__992, rfl⟩
theorem dL_law__993 : decode cL_law_ 993 = .ok (.aload_n 0, 1) := by decide +kernel
theorem eL_law__993 : zD KL_law_ 993 (.aload_n 0) 1 994 := ⟨dL_law__993, rfl⟩
theorem dL_law__994 : decode cL_law_ 994 = .ok (.iload 4, 2) := by decide +kernel
theorem eL_law__994 : zD KL_law_ 994 (.iload 4) 2 996 := ⟨dL_law__994, rfl⟩
theorem dL_law__996 : decode cL_law_ 996 = .ok (.iconst 1, 1) := by decide +kernel
theorem eL_law__996 : zD KL_law_ 996 (.iconst 1) 1 997 := ⟨dL_law__996, rfl⟩
theorem dL_law__997 : decode cL_law_ 997 = .ok (.iadd, 1) := by decide +kernel
theorem eL_law__997 : zD KL_law_ 997 (.iadd) 1 998 := ⟨dL_law__997, rfl⟩
theorem dL_law__998 : decode cL_law_ 998 = .ok (.iaload, 1) := by decide +kernel
theorem eL_law__998 : zD KL_law_ 998 (.iaload) 1 999 := ⟨dL_law__998, rfl⟩
theorem dL_law__999 : decode cL_law_ 999 = .ok (.invokevirtual 206, 3) := by decide +kernel
theorem eL_law__999 : zD KL_law_ 999 (.invokevirtual 206) 3 1002 := ⟨dL_law__999, rfl⟩
theorem dL_law__1002 : decode cL_law_ 1002 = .ok (.istore 6, 2) := by decide +kernel
theorem eL_law__1002 : zD KL_law_ 1002 (.istore 6) 2 1004 := ⟨dL_law__1002, rfl⟩
theorem dL_law__1004 : decode cL_law_ 1004 = .ok (.aload_n 2, 1) := by decide +kernel
theorem eL_law__1004 : zD KL_law_ 1004 (.aload_n 2) 1 1005 := ⟨dL_law__1004, rfl⟩
theorem dL_law__1005 : decode cL_law_ 1005 = .ok (.invokevirtual 170, 3) := by decide +kernel
theorem eL_law__1005 : zD KL_law_ 1005 (.invokevirtual 170) 3 1008 := ⟨dL_law__1005, rfl⟩
theorem dL_law__1008 : decode cL_law_ 1008 = .ok (.iload 5, 2) := by decide +kernel
theorem eL_law__1008 : zD KL_law_ 1008 (.iload 5) 2 1010 := ⟨dL_law__1008, rfl⟩
theorem dL_law__1010 : decode cL_law_ 1010 = .ok (.if_icmp .eq 5, 3) := by decide +kernel
theorem eL_law__1010 : zD KL_law_ 1010 (.if_icmp .eq 5) 3 1013 := ⟨dL_law__1010, rfl⟩
theorem dL_law__1013 : decode cL_law_ 1013 = .ok (.iconst 0, 1) := by decide +kernel
theorem eL_law__1013 : zD KL_law_ 1013 (.iconst 0) 1 1014 := ⟨dL_law__1013, rfl⟩
theorem dL_law__1014 : decode cL_law_ 1014 = .ok (.ireturn, 1) := by decide +kernel
theorem eL_law__1014 : zD KL_law_ 1014 (.ireturn) 1 1015 := ⟨dL_law__1014, rfl⟩
theorem dL_law__1015 : decode cL_law_ 1015 = .ok (.iload 5, 2) := by decide +kernel
theorem eL_law__1015 : zD KL_law_ 1015 (.iload 5) 2 1017 := ⟨dL_law__1015, rfl⟩
theorem dL_law__1017 : decode cL_law_ 1017 = .ok (.ifCond .ne 15, 3) := by decide +kernel
theorem eL_law__1017 : zD KL_law_ 1017 (.ifCond .ne 15) 3 1020 := ⟨dL_law__1017, rfl⟩
theorem dL_law__1020 : decode cL_law_ 1020 = .ok (.aload_n 3, 1) := by decide +kernel
theorem eL_law__1020 : zD KL_law_ 1020 (.aload_n 3) 1 1021 := ⟨dL_law__1020, rfl⟩
theorem dL_law__1021 : decode cL_law_ 1021 = .ok (.iconst 0, 1) := by decide +kernel
theorem eL_law__1021 : zD KL_law_ 1021 (.iconst 0) 1 1022 := ⟨dL_law__1021, rfl⟩
theorem dL_law__1022 : decode cL_law_ 1022 = .ok (.laload, 1) := by decide +kernel
theorem eL_law__1022 : zD KL_law_ 1022 (.laload) 1 1023 := ⟨dL_law__1022, rfl⟩
theorem dL_law__1023 : decode cL_law_ 1023 = .ok (.iload 6, 2) := by decide +kernel
theorem eL_law__1023 : zD KL_law_ 1023 (.iload 6) 2 1025 := ⟨dL_law__1023, rfl⟩
theorem dL_law__1025 : decode cL_law_ 1025 = .ok (.i2l, 1) := by decide +kernel
theorem eL_law__1025 : zD KL_law_ 1025 (.i2l) 1 1026 := ⟨dL_law__1025, rfl⟩
theorem dL_law__1026 : decode cL_law_ 1026 = .ok (.lcmp, 1) := by decide +kernel
theorem eL_law__1026 : zD KL_law_ 1026 (.lcmp) 1 1027 := ⟨dL_law__1026, rfl⟩
theorem dL_law__1027 : decode cL_law_ 1027 = .ok (.ifCond .eq 5, 3) := by decide +kernel
theorem eL_law__1027 : zD KL_law_ 1027 (.ifCond .eq 5) 3 1030 := ⟨dL_law__1027, rfl⟩
theorem dL_law__1030 : decode cL_law_ 1030 = .ok (.iconst 0, 1) := by decide +kernel
theorem eL_law__1030 : zD KL_law_ 1030 (.iconst 0) 1 1031 := ⟨dL_law__1030, rfl⟩
theorem dL_law__1031 : decode cL_law_ 1031 = .ok (.ireturn, 1) := by decide +kernel
theorem eL_law__1031 : zD KL_law_ 1031 (.ireturn) 1 1032 := ⟨dL_law__1031, rfl⟩
theorem dL_law__1032 : decode cL_law_ 1032 = .ok (.goto 2320, 3) := by decide +kernel
theorem eL_law__1032 : zD KL_law_ 1032 (.goto 2320) 3 1035 := ⟨dL_law__1032, rfl⟩
theorem dL_law__1035 : decode cL_law_ 1035 = .ok (.aload_n 1, 1) := by decide +kernel
theorem eL_law__1035 : zD KL_law_ 1035 (.aload_n 1) 1 1036 := ⟨dL_law__1035, rfl⟩
theorem dL_law__1036 : decode cL_law_ 1036 = .ok (.aload_n 0, 1) := by decide +kernel
theorem eL_law__1036 : zD KL_law_ 1036 (.aload_n 0) 1 1037 := ⟨dL_law__1036, rfl⟩
theorem dL_law__1037 : decode cL_law_ 1037 = .ok (.iload 4, 2) := by decide +kernel
theorem eL_law__1037 : zD KL_law_ 1037 (.iload 4) 2 1039 := ⟨dL_law__1037, rfl⟩
theorem dL_law__1039 : decode cL_law_ 1039 = .ok (.iconst 1, 1) := by decide +kernel
theorem eL_law__1039 : zD KL_law_ 1039 (.iconst 1) 1 1040 := ⟨dL_law__1039, rfl⟩
theorem dL_law__1040 : decode cL_law_ 1040 = .ok (.iadd, 1) := by decide +kernel
theorem eL_law__1040 : zD KL_law_ 1040 (.iadd) 1 1041 := ⟨dL_law__1040, rfl⟩
theorem dL_law__1041 : decode cL_law_ 1041 = .ok (.iaload, 1) := by decide +kernel
theorem eL_law__1041 : zD KL_law_ 1041 (.iaload) 1 1042 := ⟨dL_law__1041, rfl⟩
theorem dL_law__1042 : decode cL_law_ 1042 = .ok (.aload_n 0, 1) := by decide +kernel
theorem eL_law__1042 : zD KL_law_ 1042 (.aload_n 0) 1 1043 := ⟨dL_law__1042, rfl⟩
theorem dL_law__1043 : decode cL_law_ 1043 = .ok (.iload 4, 2) := by decide +kernel
theorem eL_law__1043 : zD KL_law_ 1043 (.iload 4) 2 1045 := ⟨dL_law__1043, rfl⟩
theorem dL_law__1045 : decode cL_law_ 1045 = .ok (.iconst 2, 1) := by decide +kernel
theorem eL_law__1045 : zD KL_law_ 1045 (.iconst 2) 1 1046 := ⟨dL_law__1045, rfl⟩
theorem dL_law__1046 : decode cL_law_ 1046 = .ok (.iadd, 1) := by decide +kernel
theorem eL_law__1046 : zD KL_law_ 1046 (.iadd) 1 1047 := ⟨dL_law__1046, rfl⟩
theorem dL_law__1047 : decode cL_law_ 1047 = .ok (.iaload, 1) := by decide +kernel
theorem eL_law__1047 : zD KL_law_ 1047 (.iaload) 1 1048 := ⟨dL_law__1047, rfl⟩
theorem dL_law__1048 : decode cL_law_ 1048 = .ok (.aload_n 3, 1) := by decide +kernel
theorem eL_law__1048 : zD KL_law_ 1048 (.aload_n 3) 1 1049 := ⟨dL_law__1048, rfl⟩
theorem dL_law__1049 : decode cL_law_ 1049 = .ok (.invokestatic 207, 3) := by decide +kernel
theorem eL_law__1049 : zD KL_law_ 1049 (.invokestatic 207) 3 1052 := ⟨dL_law__1049, rfl⟩
theorem dL_law__1052 : decode cL_law_ 1052 = .ok (.istore 5, 2) := by decide +kernel
theorem eL_law__1052 : zD KL_law_ 1052 (.istore 5) 2 1054 := ⟨dL_law__1052, rfl⟩
theorem dL_law__1054 : decode cL_law_ 1054 = .ok (.aload_n 2, 1) := by decide +kernel
theorem eL_law__1054 : zD KL_law_ 1054 (.aload_n 2) 1 1055 := ⟨dL_law__1054, rfl⟩
theorem dL_law__1055 : decode cL_law_ 1055 = .ok (.aload_n 0, 1) := by decide +kernel
theorem eL_law__1055 : zD KL_law_ 1055 (.aload_n 0) 1 1056 := ⟨dL_law__1055, rfl⟩
theorem dL_law__1056 : decode cL_law_ 1056 = .ok (.iload 4, 2) := by decide +kernel
theorem eL_law__1056 : zD KL_law_ 1056 (.iload 4) 2 1058 := ⟨dL_law__1056, rfl⟩
theorem dL_law__1058 : decode cL_law_ 1058 = .ok (.iconst 1, 1) := by decide +kernel
theorem eL_law__1058 : zD KL_law_ 1058 (.iconst 1) 1 1059 := ⟨dL_law__1058, rfl⟩
theorem dL_law__1059 : decode cL_law_ 1059 = .ok (.iadd, 1) := by decide +kernel
theorem eL_law__1059 : zD KL_law_ 1059 (.iadd) 1 1060 := ⟨dL_law__1059, rfl⟩
theorem dL_law__1060 : decode cL_law_ 1060 = .ok (.iaload, 1) := by decide +kernel
theorem eL_law__1060 : zD KL_law_ 1060 (.iaload) 1 1061 := ⟨dL_law__1060, rfl⟩
theorem dL_law__1061 : decode cL_law_ 1061 = .ok (.aload_n 0, 1) := by decide +kernel
theorem eL_law__1061 : zD KL_law_ 1061 (.aload_n 0) 1 1062 := ⟨dL_law__1061, rfl⟩
theorem dL_law__1062 : decode cL_law_ 1062 = .ok (.iload 4, 2) := by decide +kernel
theorem eL_law__1062 : zD KL_law_ 1062 (.iload 4) 2 1064 := ⟨dL_law__1062, rfl⟩
theorem dL_law__1064 : decode cL_law_ 1064 = .ok (.iconst 2, 1) := by decide +kernel
theorem eL_law__1064 : zD KL_law_ 1064 (.iconst 2) 1 1065 := ⟨dL_law__1064, rfl⟩
theorem dL_law__1065 : decode cL_law_ 1065 = .ok (.iadd, 1) := by decide +kernel
theorem eL_law__1065 : zD KL_law_ 1065 (.iadd) 1 1066 := ⟨dL_law__1065, rfl⟩
theorem dL_law__1066 : decode cL_law_ 1066 = .ok (.iaload, 1) := by decide +kernel
theorem eL_law__1066 : zD KL_law_ 1066 (.iaload) 1 1067 := ⟨dL_law__1066, rfl⟩
theorem dL_law__1067 : decode cL_law_ 1067 = .ok (.invokevirtual 209, 3) := by decide +kernel
theorem eL_law__1067 : zD KL_law_ 1067 (.invokevirtual 209) 3 1070 := ⟨dL_law__1067, rfl⟩
theorem dL_law__1070 : decode cL_law_ 1070 = .ok (.istore 6, 2) := by decide +kernel
theorem eL_law__1070 : zD KL_law_ 1070 (.istore 6) 2 1072 := ⟨dL_law__1070, rfl⟩
theorem dL_law__1072 : decode cL_law_ 1072 = .ok (.aload_n 2, 1) := by decide +kernel
theorem eL_law__1072 : zD KL_law_ 1072 (.aload_n 2) 1 1073 := ⟨dL_law__1072, rfl⟩
theorem dL_law__1073 : decode cL_law_ 1073 = .ok (.invokevirtual 170, 3) := by decide +kernel
theorem eL_law__1073 : zD KL_law_ 1073 (.invokevirtual 170) 3 1076 := ⟨dL_law__1073, rfl⟩
theorem dL_law__1076 : decode cL_law_ 1076 = .ok (.iload 5, 2) := by decide +kernel
theorem eL_law__1076 : zD KL_law_ 1076 (.iload 5) 2 1078 := ⟨dL_law__1076, rfl⟩
theorem dL_law__1078 : decode cL_law_ 1078 = .ok (.if_icmp .eq 5, 3) := by decide +kernel
theorem eL_law__1078 : zD KL_law_ 1078 (.if_icmp .eq 5) 3 1081 := ⟨dL_law__1078, rfl⟩
theorem dL_law__1081 : decode cL_law_ 1081 = .ok (.iconst 0, 1) := by decide +kernel
theorem eL_law__1081 : zD KL_law_ 1081 (.iconst 0) 1 1082 := ⟨dL_law__1081, rfl⟩
theorem dL_law__1082 : decode cL_law_ 1082 = .ok (.ireturn, 1) := by decide +kernel
theorem eL_law__1082 : zD KL_law_ 1082 (.ireturn) 1 1083 := ⟨dL_law__1082, rfl⟩
theorem dL_law__1083 : decode cL_law_ 1083 = .ok (.iload 5, 2) := by decide +kernel
theorem eL_law__1083 : zD KL_law_ 1083 (.iload 5) 2 1085 := ⟨dL_law__1083, rfl⟩
theorem dL_law__1085 : decode cL_law_ 1085 = .ok (.ifCond .ne 15, 3) := by decide +kernel
theorem eL_law__1085 : zD KL_law_ 1085 (.ifCond .ne 15) 3 1088 := ⟨dL_law__1085, rfl⟩
theorem dL_law__1088 : decode cL_law_ 1088 = .ok (.aload_n 3, 1) := by decide +kernel
theorem eL_law__1088 : zD KL_law_ 1088 (.aload_n 3) 1 1089 := ⟨dL_law__1088, rfl⟩
theorem dL_law__1089 : decode cL_law_ 1089 = .ok (.iconst 0, 1) := by decide +kernel
theorem eL_law__1089 : zD KL_law_ 1089 (.iconst 0) 1 1090 := ⟨dL_law__1089, rfl⟩
theorem dL_law__1090 : decode cL_law_ 1090 = .ok (.laload, 1) := by decide +kernel
theorem eL_law__1090 : zD KL_law_ 1090 (.laload) 1 1091 := ⟨dL_law__1090, rfl⟩
theorem dL_law__1091 : decode cL_law_ 1091 = .ok (.iload 6, 2) := by decide +kernel
theorem eL_law__1091 : zD KL_law_ 1091 (.iload 6) 2 1093 := ⟨dL_law__1091, rfl⟩
theorem dL_law__1093 : decode cL_law_ 1093 = .ok (.i2l, 1) := by decide +kernel
theorem eL_law__1093 : zD KL_law_ 1093 (.i2l) 1 1094 := ⟨dL_law__1093, rfl⟩
theorem dL_law__1094 : decode cL_law_ 1094 = .ok (.lcmp, 1) := by decide +kernel
theorem eL_law__1094 : zD KL_law_ 1094 (.lcmp) 1 1095 := ⟨dL_law__1094, rfl⟩
theorem dL_law__1095 : decode cL_law_ 1095 = .ok (.ifCond .eq 5, 3) := by decide +kernel
theorem eL_law__1095 : zD KL_law_ 1095 (.ifCond .eq 5) 3 1098 := ⟨dL_law__1095, rfl⟩
theorem dL_law__1098 : decode cL_law_ 1098 = .ok (.iconst 0, 1) := by decide +kernel
theorem eL_law__1098 : zD KL_law_ 1098 (.iconst 0) 1 1099 := ⟨dL_law__1098, rfl⟩
theorem dL_law__1099 : decode cL_law_ 1099 = .ok (.ireturn, 1) := by decide +kernel
theorem eL_law__1099 : zD KL_law_ 1099 (.ireturn) 1 1100 := ⟨dL_law__1099, rfl⟩
theorem dL_law__1100 : decode cL_law_ 1100 = .ok (.goto 2252, 3) := by decide +kernel
theorem eL_law__1100 : zD KL_law_ 1100 (.goto 2252) 3 1103 := ⟨dL_law__1100, rfl⟩
theorem dL_law__1103 : decode cL_law_ 1103 = .ok (.aload_n 1, 1) := by decide +kernel
theorem eL_law__1103 : zD KL_law_ 1103 (.aload_n 1) 1 1104 := ⟨dL_law__1103, rfl⟩
theorem dL_law__1104 : decode cL_law_ 1104 = .ok (.aload_n 0, 1) := by decide +kernel
theorem eL_law__1104 : zD KL_law_ 1104 (.aload_n 0) 1 1105 := ⟨dL_law__1104, rfl⟩
theorem dL_law__1105 : decode cL_law_ 1105 = .ok (.iload 4, 2) := by decide +kernel
theorem eL_law__1105 : zD KL_law_ 1105 (.iload 4) 2 1107 := ⟨dL_law__1105, rfl⟩
theorem dL_law__1107 : decode cL_law_ 1107 = .ok (.iconst 1, 1) := by decide +kernel
theorem eL_law__1107 : zD KL_law_ 1107 (.iconst 1) 1 1108 := ⟨dL_law__1107, rfl⟩
theorem dL_law__1108 : decode cL_law_ 1108 = .ok (.iadd, 1) := by decide +kernel
theorem eL_law__1108 : zD KL_law_ 1108 (.iadd) 1 1109 := ⟨dL_law__1108, rfl⟩
theorem dL_law__1109 : decode cL_law_ 1109 = .ok (.iaload, 1) := by decide +kernel
theorem eL_law__1109 : zD KL_law_ 1109 (.iaload) 1 1110 := ⟨dL_law__1109, rfl⟩
theorem dL_law__1110 : decode cL_law_ 1110 = .ok (.aload_n 3, 1) := by decide +kernel
theorem eL_law__1110 : zD KL_law_ 1110 (.aload_n 3) 1 1111 := ⟨dL_law__1110, rfl⟩
theorem dL_law__1111 : decode cL_law_ 1111 = .ok (.invokestatic 210, 3) := by decide +kernel
theorem eL_law__1111 : zD KL_law_ 1111 (.invokestatic 210) 3 1114 := ⟨dL_law__1111, rfl⟩
theorem dL_law__1114 : decode cL_law_ 1114 = .ok (.istore 5, 2) := by decide +kernel
theorem eL_law__1114 : zD KL_law_ 1114 (.istore 5) 2 1116 := ⟨dL_law__1114, rfl⟩
theorem dL_law__1116 : decode cL_law_ 1116 = .ok (.aload_n 2, 1) := by decide +kernel
theorem eL_law__1116 : zD KL_law_ 1116 (.aload_n 2) 1 1117 := ⟨dL_law__1116, rfl⟩
theorem dL_law__1117 : decode cL_law_ 1117 = .ok (.aload_n 0, 1) := by decide +kernel
theorem eL_law__1117 : zD KL_law_ 1117 (.aload_n 0) 1 1118 := ⟨dL_law__1117, rfl⟩
theorem dL_law__1118 : decode cL_law_ 1118 = .ok (.iload 4, 2) := by decide +kernel
theorem eL_law__1118 : zD KL_law_ 1118 (.iload 4) 2 1120 := ⟨dL_law__1118, rfl⟩
theorem dL_law__1120 : decode cL_law_ 1120 = .ok (.iconst 1, 1) := by decide +kernel
theorem eL_law__1120 : zD KL_law_ 1120 (.iconst 1) 1 1121 := ⟨dL_law__1120, rfl⟩
theorem dL_law__1121 : decode cL_law_ 1121 = .ok (.iadd, 1) := by decide +kernel
theorem eL_law__1121 : zD KL_law_ 1121 (.iadd) 1 1122 := ⟨dL_law__1121, rfl⟩
theorem dL_law__1122 : decode cL_law_ 1122 = .ok (.iaload, 1) := by decide +kernel
theorem eL_law__1122 : zD KL_law_ 1122 (.iaload) 1 1123 := ⟨dL_law__1122, rfl⟩
theorem dL_law__1123 : decode cL_law_ 1123 = .ok (.invokevirtual 212, 3) := by decide +kernel
theorem eL_law__1123 : zD KL_law_ 1123 (.invokevirtual 212) 3 1126 := ⟨dL_law__1123, rfl⟩
theorem dL_law__1126 : decode cL_law_ 1126 = .ok (.istore 6, 2) := by decide +kernel
theorem eL_law__1126 : zD KL_law_ 1126 (.istore 6) 2 1128 := ⟨dL_law__1126, rfl⟩
theorem dL_law__1128 : decode cL_law_ 1128 = .ok (.aload_n 2, 1) := by decide +kernel
theorem eL_law__1128 : zD KL_law_ 1128 (.aload_n 2) 1 1129 := ⟨dL_law__1128, rfl⟩
theorem dL_law__1129 : decode cL_law_ 1129 = .ok (.invokevirtual 170, 3) := by decide +kernel
theorem eL_law__1129 : zD KL_law_ 1129 (.invokevirtual 170) 3 1132 := ⟨dL_law__1129, rfl⟩
theorem dL_law__1132 : decode cL_law_ 1132 = .ok (.iload 5, 2) := by decide +kernel
theorem eL_law__1132 : zD KL_law_ 1132 (.iload 5) 2 1134 := ⟨dL_law__1132, rfl⟩
theorem dL_law__1134 : decode cL_law_ 1134 = .ok (.if_icmp .eq 5, 3) := by decide +kernel
theorem eL_law__1134 : zD KL_law_ 1134 (.if_icmp .eq 5) 3 1137 := ⟨dL_law__1134, rfl⟩
theorem dL_law__1137 : decode cL_law_ 1137 = .ok (.iconst 0, 1) := by decide +kernel
theorem eL_law__1137 : zD KL_law_ 1137 (.iconst 0) 1 1138 := ⟨dL_law__1137, rfl⟩
theorem dL_law__1138 : decode cL_law_ 1138 = .ok (.ireturn, 1) := by decide +kernel
theorem eL_law__1138 : zD KL_law_ 1138 (.ireturn) 1 1139 := ⟨dL_law__1138, rfl⟩
theorem dL_law__1139 : decode cL_law_ 1139 = .ok (.iload 5, 2) := by decide +kernel
theorem eL_law__1139 : zD KL_law_ 1139 (.iload 5) 2 1141 := ⟨dL_law__1139, rfl⟩
theorem dL_law__1141 : decode cL_law_ 1141 = .ok (.ifCond .ne 15, 3) := by decide +kernel
theorem eL_law__1141 : zD KL_law_ 1141 (.ifCond .ne 15) 3 1144 := ⟨dL_law__1141, rfl⟩
theorem dL_law__1144 : decode cL_law_ 1144 = .ok (.aload_n 3, 1) := by decide +kernel
theorem eL_law__1144 : zD KL_law_ 1144 (.aload_n 3) 1 1145 := ⟨dL_law__1144, rfl⟩
theorem dL_law__1145 : decode cL_law_ 1145 = .ok (.iconst 0, 1) := by decide +kernel
theorem eL_law__1145 : zD KL_law_ 1145 (.iconst 0) 1 1146 := ⟨dL_law__1145, rfl⟩
theorem dL_law__1146 : decode cL_law_ 1146 = .ok (.laload, 1) := by decide +kernel
theorem eL_law__1146 : zD KL_law_ 1146 (.laload) 1 1147 := ⟨dL_law__1146, rfl⟩
theorem dL_law__1147 : decode cL_law_ 1147 = .ok (.iload 6, 2) := by decide +kernel
theorem eL_law__1147 : zD KL_law_ 1147 (.iload 6) 2 1149 := ⟨dL_law__1147, rfl⟩
theorem dL_law__1149 : decode cL_law_ 1149 = .ok (.i2l, 1) := by decide +kernel
theorem eL_law__1149 : zD KL_law_ 1149 (.i2l) 1 1150 := ⟨dL_law__1149, rfl⟩
theorem dL_law__1150 : decode cL_law_ 1150 = .ok (.lcmp, 1) := by decide +kernel
theorem eL_law__1150 : zD KL_law_ 1150 (.lcmp) 1 1151 := ⟨dL_law__1150, rfl⟩
theorem dL_law__1151 : decode cL_law_ 1151 = .ok (.ifCond .eq 5, 3) := by decide +kernel
theorem eL_law__1151 : zD KL_law_ 1151 (.ifCond .eq 5) 3 1154 := ⟨dL_law__1151, rfl⟩
theorem dL_law__1154 : decode cL_law_ 1154 = .ok (.iconst 0, 1) := by decide +kernel
theorem eL_law__1154 : zD KL_law_ 1154 (.iconst 0) 1 1155 := ⟨dL_law__1154, rfl⟩
theorem dL_law__1155 : decode cL_law_ 1155 = .ok (.ireturn, 1) := by decide +kernel
theorem eL_law__1155 : zD KL_law_ 1155 (.ireturn) 1 1156 := ⟨dL_law__1155, rfl⟩
theorem dL_law__1156 : decode cL_law_ 1156 = .ok (.goto 2196, 3) := by decide +kernel
theorem eL_law__1156 : zD KL_law_ 1156 (.goto 2196) 3 1159 := ⟨dL_law__1156, rfl⟩
theorem dL_law__1159 : decode cL_law_ 1159 = .ok (.aload_n 1, 1) := by decide +kernel
theorem eL_law__1159 : zD KL_law_ 1159 (.aload_n 1) 1 1160 := ⟨dL_law__1159, rfl⟩
theorem dL_law__1160 : decode cL_law_ 1160 = .ok (.aload_n 0, 1) := by decide +kernel
theorem eL_law__1160 : zD KL_law_ 1160 (.aload_n 0) 1 1161 := ⟨dL_law__1160, rfl⟩
theorem dL_law__1161 : decode cL_law_ 1161 = .ok (.iload 4, 2) := by decide +kernel
theorem eL_law__1161 : zD KL_law_ 1161 (.iload 4) 2 1163 := ⟨dL_law__1161, rfl⟩
theorem dL_law__1163 : decode cL_law_ 1163 = .ok (.iconst 1, 1) := by decide +kernel
theorem eL_law__1163 : zD KL_law_ 1163 (.iconst 1) 1 1164 := ⟨dL_law__1163, rfl⟩
theorem dL_law__1164 : decode cL_law_ 1164 = .ok (.iadd, 1) := by decide +kernel
theorem eL_law__1164 : zD KL_law_ 1164 (.iadd) 1 1165 := ⟨dL_law__1164, rfl⟩
theorem dL_law__1165 : decode cL_law_ 1165 = .ok (.iaload, 1) := by decide +kernel
theorem eL_law__1165 : zD KL_law_ 1165 (.iaload) 1 1166 := ⟨dL_law__1165, rfl⟩
theorem dL_law__1166 : decode cL_law_ 1166 = .ok (.aload_n 0, 1) := by decide +kernel
theorem eL_law__1166 : zD KL_law_ 1166 (.aload_n 0) 1 1167 := ⟨dL_law__1166, rfl⟩
theorem dL_law__1167 : decode cL_law_ 1167 = .ok (.iload 4, 2) := by decide +kernel
theorem eL_law__1167 : zD KL_law_ 1167 (.iload 4) 2 1169 := ⟨dL_law__1167, rfl⟩
theorem dL_law__1169 : decode cL_law_ 1169 = .ok (.iconst 2, 1) := by decide +kernel
theorem eL_law__1169 : zD KL_law_ 1169 (.iconst 2) 1 1170 := ⟨dL_law__1169, rfl⟩
theorem dL_law__1170 : decode cL_law_ 1170 = .ok (.iadd, 1) := by decide +kernel
theorem eL_law__1170 : zD KL_law_ 1170 (.iadd) 1 1171 := ⟨dL_law__1170, rfl⟩
theorem dL_law__1171 : decode cL_law_ 1171 = .ok (.iaload, 1) := by decide +kernel
theorem eL_law__1171 : zD KL_law_ 1171 (.iaload) 1 1172 := ⟨dL_law__1171, rfl⟩
theorem dL_law__1172 : decode cL_law_ 1172 = .ok (.ifCond .eq 7, 3) := by decide +kernel
theorem eL_law__1172 : zD KL_law_ 1172 (.ifCond .eq 7) 3 1175 := ⟨dL_law__1172, rfl⟩
theorem dL_law__1175 : decode cL_law_ 1175 = .ok (.iconst 1, 1) := by decide +kernel
theorem eL_law__1175 : zD KL_law_ 1175 (.iconst 1) 1 1176 := ⟨dL_law__1175, rfl⟩
theorem dL_law__1176 : decode cL_law_ 1176 = .ok (.goto 4, 3) := by decide +kernel
theorem eL_law__1176 : zD KL_law_ 1176 (.goto 4) 3 1179 := ⟨dL_law__1176, rfl⟩
theorem dL_law__1179 : decode cL_law_ 1179 = .ok (.iconst 0, 1) := by decide +kernel
theorem eL_law__1179 : zD KL_law_ 1179 (.iconst 0) 1 1180 := ⟨dL_law__1179, rfl⟩
theorem dL_law__1180 : decode cL_law_ 1180 = .ok (.aload_n 3, 1) := by decide +kernel
theorem eL_law__1180 : zD KL_law_ 1180 (.aload_n 3) 1 1181 := ⟨dL_law__1180, rfl⟩
theorem dL_law__1181 : decode cL_law_ 1181 = .ok (.invokestatic 213, 3) := by decide +kernel
theorem eL_law__1181 : zD KL_law_ 1181 (.invokestatic 213) 3 1184 := ⟨dL_law__1181, rfl⟩
theorem dL_law__1184 : decode cL_law_ 1184 = .ok (.istore 5, 2) := by decide +kernel
theorem eL_law__1184 : zD KL_law_ 1184 (.istore 5) 2 1186 := ⟨dL_law__1184, rfl⟩
theorem dL_law__1186 : decode cL_law_ 1186 = .ok (.aload_n 2, 1) := by decide +kernel
theorem eL_law__1186 : zD KL_law_ 1186 (.aload_n 2) 1 1187 := ⟨dL_law__1186, rfl⟩
theorem dL_law__1187 : decode cL_law_ 1187 = .ok (.aload_n 0, 1) := by decide +kernel
theorem eL_law__1187 : zD KL_law_ 1187 (.aload_n 0) 1 1188 := ⟨dL_law__1187, rfl⟩
theorem dL_law__1188 : decode cL_law_ 1188 = .ok (.iload 4, 2) := by decide +kernel
theorem eL_law__1188 : zD KL_law_ 1188 (.iload 4) 2 1190 := ⟨dL_law__1188, rfl⟩
theorem dL_law__1190 : decode cL_law_ 1190 = .ok (.iconst 1, 1) := by decide +kernel
theorem eL_law__1190 : zD KL_law_ 1190 (.iconst 1) 1 1191 := ⟨dL_law__1190, rfl⟩
theorem dL_law__1191 : decode cL_law_ 1191 = .ok (.iadd, 1) := by decide +kernel
theorem eL_law__1191 : zD KL_law_ 1191 (.iadd) 1 1192 := ⟨dL_law__1191, rfl⟩
theorem dL_law__1192 : decode cL_law_ 1192 = .ok (.iaload, 1) := by decide +kernel
theorem eL_law__1192 : zD KL_law_ 1192 (.iaload) 1 1193 := ⟨dL_law__1192, rfl⟩
theorem dL_law__1193 : decode cL_law_ 1193 = .ok (.aload_n 0, 1) := by decide +kernel
theorem eL_law__1193 : zD KL_law_ 1193 (.aload_n 0) 1 1194 := ⟨dL_law__1193, rfl⟩
theorem dL_law__1194 : decode cL_law_ 1194 = .ok (.iload 4, 2) := by decide +kernel
theorem eL_law__1194 : zD KL_law_ 1194 (.iload 4) 2 1196 := ⟨dL_law__1194, rfl⟩
theorem dL_law__1196 : decode cL_law_ 1196 = .ok (.iconst 2, 1) := by decide +kernel
theorem eL_law__1196 : zD KL_law_ 1196 (.iconst 2) 1 1197 := ⟨dL_law__1196, rfl⟩
theorem dL_law__1197 : decode cL_law_ 1197 = .ok (.iadd, 1) := by decide +kernel
theorem eL_law__1197 : zD KL_law_ 1197 (.iadd) 1 1198 := ⟨dL_law__1197, rfl⟩
theorem dL_law__1198 : decode cL_law_ 1198 = .ok (.iaload, 1) := by decide +kernel
theorem eL_law__1198 : zD KL_law_ 1198 (.iaload) 1 1199 := ⟨dL_law__1198, rfl⟩
theorem dL_law__1199 : decode cL_law_ 1199 = .ok (.ifCond .eq 7, 3) := by decide +kernel
theorem eL_law__1199 : zD KL_law_ 1199 (.ifCond .eq 7) 3 1202 := ⟨dL_law__1199, rfl⟩
theorem dL_law__1202 : decode cL_law_ 1202 = .ok (.iconst 1, 1) := by decide +kernel
theorem eL_law__1202 : zD KL_law_ 1202 (.iconst 1) 1 1203 := ⟨dL_law__1202, rfl⟩
theorem dL_law__1203 : decode cL_law_ 1203 = .ok (.goto 4, 3) := by decide +kernel
theorem eL_law__1203 : zD KL_law_ 1203 (.goto 4) 3 1206 := ⟨dL_law__1203, rfl⟩
theorem dL_law__1206 : decode cL_law_ 1206 = .ok (.iconst 0, 1) := by decide +kernel
theorem eL_law__1206 : zD KL_law_ 1206 (.iconst 0) 1 1207 := ⟨dL_law__1206, rfl⟩
theorem dL_law__1207 : decode cL_law_ 1207 = .ok (.invokevirtual 216, 3) := by decide +kernel
theorem eL_law__1207 : zD KL_law_ 1207 (.invokevirtual 216) 3 1210 := ⟨dL_law__1207, rfl⟩
theorem dL_law__1210 : decode cL_law_ 1210 = .ok (.istore 6, 2) := by decide +kernel
theorem eL_law__1210 : zD KL_law_ 1210 (.istore 6) 2 1212 := ⟨dL_law__1210, rfl⟩
theorem dL_law__1212 : decode cL_law_ 1212 = .ok (.aload_n 2, 1) := by decide +kernel
theorem eL_law__1212 : zD KL_law_ 1212 (.aload_n 2) 1 1213 := ⟨dL_law__1212, rfl⟩
theorem dL_law__1213 : decode cL_law_ 1213 = .ok (.invokevirtual 170, 3) := by decide +kernel
theorem eL_law__1213 : zD KL_law_ 1213 (.invokevirtual 170) 3 1216 := ⟨dL_law__1213, rfl⟩
theorem dL_law__1216 : decode cL_law_ 1216 = .ok (.iload 5, 2) := by decide +kernel
theorem eL_law__1216 : zD KL_law_ 1216 (.iload 5) 2 1218 := ⟨dL_law__1216, rfl⟩
theorem dL_law__1218 : decode cL_law_ 1218 = .ok (.if_icmp .eq 5, 3) := by decide +kernel
theorem eL_law__1218 : zD KL_law_ 1218 (.if_icmp .eq 5) 3 1221 := ⟨dL_law__1218, rfl⟩
theorem dL_law__1221 : decode cL_law_ 1221 = .ok (.iconst 0, 1) := by decide +kernel
theorem eL_law__1221 : zD KL_law_ 1221 (.iconst 0) 1 1222 := ⟨dL_law__1221, rfl⟩
theorem dL_law__1222 : decode cL_law_ 1222 = .ok (.ireturn, 1) := by decide +kernel
theorem eL_law__1222 : zD KL_law_ 1222 (.ireturn) 1 1223 := ⟨dL_law__1222, rfl⟩
theorem dL_law__1223 : decode cL_law_ 1223 = .ok (.iload 5, 2) := by decide +kernel
theorem eL_law__1223 : zD KL_law_ 1223 (.iload 5) 2 1225 := ⟨dL_law__1223, rfl⟩
theorem dL_law__1225 : decode cL_law_ 1225 = .ok (.ifCond .ne 22, 3) := by decide +kernel
theorem eL_law__1225 : zD KL_law_ 1225 (.ifCond .ne 22) 3 1228 := ⟨dL_law__1225, rfl⟩
theorem dL_law__1228 : decode cL_law_ 1228 = .ok (.aload_n 3, 1) := by decide +kernel
theorem eL_law__1228 : zD KL_law_ 1228 (.aload_n 3) 1 1229 := ⟨dL_law__1228, rfl⟩
theorem dL_law__1229 : decode cL_law_ 1229 = .ok (.iconst 0, 1) := by decide +kernel
theorem eL_law__1229 : zD KL_law_ 1229 (.iconst 0) 1 1230 := ⟨dL_law__1229, rfl⟩
theorem dL_law__1230 : decode cL_law_ 1230 = .ok (.laload, 1) := by decide +kernel
theorem eL_law__1230 : zD KL_law_ 1230 (.laload) 1 1231 := ⟨dL_law__1230, rfl⟩
theorem dL_law__1231 : decode cL_law_ 1231 = .ok (.iload 6, 2) := by decide +kernel
theorem eL_law__1231 : zD KL_law_ 1231 (.iload 6) 2 1233 := ⟨dL_law__1231, rfl⟩
theorem dL_law__1233 : decode cL_law_ 1233 = .ok (.ifCond .eq 7, 3) := by decide +kernel
theorem eL_law__1233 : zD KL_law_ 1233 (.ifCond .eq 7) 3 1236 := ⟨dL_law__1233, rfl⟩
theorem dL_law__1236 : decode cL_law_ 1236 = .ok (.lconst 1, 1) := by decide +kernel
theorem eL_law__1236 : zD KL_law_ 1236 (.lconst 1) 1 1237 := ⟨dL_law__1236, rfl⟩
theorem dL_law__1237 : decode cL_law_ 1237 = .ok (.goto 4, 3) := by decide +kernel
theorem eL_law__1237 : zD KL_law_ 1237 (.goto 4) 3 1240 := ⟨dL_law__1237, rfl⟩
theorem dL_law__1240 : decode cL_law_ 1240 = .ok (.lconst 0, 1) := by decide +kernel
theorem eL_law__1240 : zD KL_law_ 1240 (.lconst 0) 1 1241 := ⟨dL_law__1240, rfl⟩
theorem dL_law__1241 : decode cL_law_ 1241 = .ok (.lcmp, 1) := by decide +kernel
theorem eL_law__1241 : zD KL_law_ 1241 (.lcmp) 1 1242 := ⟨dL_law__1241, rfl⟩
theorem dL_law__1242 : decode cL_law_ 1242 = .ok (.ifCond .eq 5, 3) := by decide +kernel
theorem eL_law__1242 : zD KL_law_ 1242 (.ifCond .eq 5) 3 1245 := ⟨dL_law__1242, rfl⟩
theorem dL_law__1245 : decode cL_law_ 1245 = .ok (.iconst 0, 1) := by decide +kernel
theorem eL_law__1245 : zD KL_law_ 1245 (.iconst 0) 1 1246 := ⟨dL_law__1245, rfl⟩
theorem dL_law__1246 : decode cL_law_ 1246 = .ok (.ireturn, 1) := by decide +kernel
theorem eL_law__1246 : zD KL_law_ 1246 (.ireturn) 1 1247 := ⟨dL_law__1246, rfl⟩
theorem dL_law__1247 : decode cL_law_ 1247 = .ok (.goto 2105, 3) := by decide +kernel
theorem eL_law__1247 : zD KL_law_ 1247 (.goto 2105) 3 1250 := ⟨dL_law__1247, rfl⟩
theorem dL_law__1250 : decode cL_law_ 1250 = .ok (.aload_n 1, 1) := by decide +kernel
theorem eL_law__1250 : zD KL_law_ 1250 (.aload_n 1) 1 1251 := ⟨dL_law__1250, rfl⟩
theorem dL_law__1251 : decode cL_law_ 1251 = .ok (.aload_n 0, 1) := by decide +kernel
theorem eL_law__1251 : zD KL_law_ 1251 (.aload_n 0) 1 1252 := ⟨dL_law__1251, rfl⟩
theorem dL_law__1252 : decode cL_law_ 1252 = .ok (.iload 4, 2) := by decide +kernel
theorem eL_law__1252 : zD KL_law_ 1252 (.iload 4) 2 1254 := ⟨dL_law__1252, rfl⟩
theorem dL_law__1254 : decode cL_law_ 1254 = .ok (.iconst 1, 1) := by decide +kernel
theorem eL_law__1254 : zD KL_law_ 1254 (.iconst 1) 1 1255 := ⟨dL_law__1254, rfl⟩
theorem dL_law__1255 : decode cL_law_ 1255 = .ok (.iadd, 1) := by decide +kernel
theorem eL_law__1255 : zD KL_law_ 1255 (.iadd) 1 1256 := ⟨dL_law__1255, rfl⟩
theorem dL_law__1256 : decode cL_law_ 1256 = .ok (.iaload, 1) := by decide +kernel
theorem eL_law__1256 : zD KL_law_ 1256 (.iaload) 1 1257 := ⟨dL_law__1256, rfl⟩
theorem dL_law__1257 : decode cL_law_ 1257 = .ok (.aload_n 0, 1) := by decide +kernel
theorem eL_law__1257 : zD KL_law_ 1257 (.aload_n 0) 1 1258 := ⟨dL_law__1257, rfl⟩
theorem dL_law__1258 : decode cL_law_ 1258 = .ok (.iload 4, 2) := by decide +kernel
theorem eL_law__1258 : zD KL_law_ 1258 (.iload 4) 2 1260 := ⟨dL_law__1258, rfl⟩
theorem dL_law__1260 : decode cL_law_ 1260 = .ok (.iconst 2, 1) := by decide +kernel
theorem eL_law__1260 : zD KL_law_ 1260 (.iconst 2) 1 1261 := ⟨dL_law__1260, rfl⟩
theorem dL_law__1261 : decode cL_law_ 1261 = .ok (.iadd, 1) := by decide +kernel
theorem eL_law__1261 : zD KL_law_ 1261 (.iadd) 1 1262 := ⟨dL_law__1261, rfl⟩
theorem dL_law__1262 : decode cL_law_ 1262 = .ok (.iaload, 1) := by decide +kernel
theorem eL_law__1262 : zD KL_law_ 1262 (.iaload) 1 1263 := ⟨dL_law__1262, rfl⟩
theorem dL_law__1263 : decode cL_law_ 1263 = .ok (.ifCond .eq 7, 3) := by decide +kernel
theorem eL_law__1263 : zD KL_law_ 1263 (.ifCond .eq 7) 3 1266 := ⟨dL_law__1263, rfl⟩
theorem dL_law__1266 : decode cL_law_ 1266 = .ok (.iconst 1, 1) := by decide +kernel
theorem eL_law__1266 : zD KL_law_ 1266 (.iconst 1) 1 1267 := ⟨dL_law__1266, rfl⟩
theorem dL_law__1267 : decode cL_law_ 1267 = .ok (.goto 4, 3) := by decide +kernel
theorem eL_law__1267 : zD KL_law_ 1267 (.goto 4) 3 1270 := ⟨dL_law__1267, rfl⟩
theorem dL_law__1270 : decode cL_law_ 1270 = .ok (.iconst 0, 1) := by decide +kernel
theorem eL_law__1270 : zD KL_law_ 1270 (.iconst 0) 1 1271 := ⟨dL_law__1270, rfl⟩
theorem dL_law__1271 : decode cL_law_ 1271 = .ok (.aload_n 3, 1) := by decide +kernel
theorem eL_law__1271 : zD KL_law_ 1271 (.aload_n 3) 1 1272 := ⟨dL_law__1271, rfl⟩
theorem dL_law__1272 : decode cL_law_ 1272 = .ok (.invokestatic 217, 3) := by decide +kernel
theorem eL_law__1272 : zD KL_law_ 1272 (.invokestatic 217) 3 1275 := ⟨dL_law__1272, rfl⟩
theorem dL_law__1275 : decode cL_law_ 1275 = .ok (.istore 5, 2) := by decide +kernel
theorem eL_law__1275 : zD KL_law_ 1275 (.istore 5) 2 1277 := ⟨dL_law__1275, rfl⟩
theorem dL_law__1277 : decode cL_law_ 1277 = .ok (.aload_n 2, 1) := by decide +kernel
theorem eL_law__1277 : zD KL_law_ 1277 (.aload_n 2) 1 1278 := ⟨dL_law__1277, rfl⟩
theorem dL_law__1278 : decode cL_law_ 1278 = .ok (.aload_n 0, 1) := by decide +kernel
theorem eL_law__1278 : zD KL_law_ 1278 (.aload_n 0) 1 1279 := ⟨dL_law__1278, rfl⟩
theorem dL_law__1279 : decode cL_law_ 1279 = .ok (.iload 4, 2) := by decide +kernel
theorem eL_law__1279 : zD KL_law_ 1279 (.iload 4) 2 1281 := ⟨dL_law__1279, rfl⟩
theorem dL_law__1281 : decode cL_law_ 1281 = .ok (.iconst 1, 1) := by decide +kernel
theorem eL_law__1281 : zD KL_law_ 1281 (.iconst 1) 1 1282 := ⟨dL_law__1281, rfl⟩
theorem dL_law__1282 : decode cL_law_ 1282 = .ok (.iadd, 1) := by decide +kernel
theorem eL_law__1282 : zD KL_law_ 1282 (.iadd) 1 1283 := ⟨dL_law__1282, rfl⟩
theorem dL_law__1283 : decode cL_law_ 1283 = .ok (.iaload, 1) := by decide +kernel
theorem eL_law__1283 : zD KL_law_ 1283 (.iaload) 1 1284 := ⟨dL_law__1283, rfl⟩
theorem dL_law__1284 : decode cL_law_ 1284 = .ok (.aload_n 0, 1) := by decide +kernel
theorem eL_law__1284 : zD KL_law_ 1284 (.aload_n 0) 1 1285 := ⟨dL_law__1284, rfl⟩
theorem dL_law__1285 : decode cL_law_ 1285 = .ok (.iload 4, 2) := by decide +kernel
theorem eL_law__1285 : zD KL_law_ 1285 (.iload 4) 2 1287 := ⟨dL_law__1285, rfl⟩
theorem dL_law__1287 : decode cL_law_ 1287 = .ok (.iconst 2, 1) := by decide +kernel
theorem eL_law__1287 : zD KL_law_ 1287 (.iconst 2) 1 1288 := ⟨dL_law__1287, rfl⟩
theorem dL_law__1288 : decode cL_law_ 1288 = .ok (.iadd, 1) := by decide +kernel
theorem eL_law__1288 : zD KL_law_ 1288 (.iadd) 1 1289 := ⟨dL_law__1288, rfl⟩
theorem dL_law__1289 : decode cL_law_ 1289 = .ok (.iaload, 1) := by decide +kernel
theorem eL_law__1289 : zD KL_law_ 1289 (.iaload) 1 1290 := ⟨dL_law__1289, rfl⟩
theorem dL_law__1290 : decode cL_law_ 1290 = .ok (.ifCond .eq 7, 3) := by decide +kernel
theorem eL_law__1290 : zD KL_law_ 1290 (.ifCond .eq 7) 3 1293 := ⟨dL_law__1290, rfl⟩
theorem dL_law__1293 : decode cL_law_ 1293 = .ok (.iconst 1, 1) := by decide +kernel
theorem eL_law__1293 : zD KL_law_ 1293 (.iconst 1) 1 1294 := ⟨dL_law__1293, rfl⟩
theorem dL_law__1294 : decode cL_law_ 1294 = .ok (.goto 4, 3) := by decide +kernel
theorem eL_law__1294 : zD KL_law_ 1294 (.goto 4) 3 1297 := ⟨dL_law__1294, rfl⟩
theorem dL_law__1297 : decode cL_law_ 1297 = .ok (.iconst 0, 1) := by decide +kernel
theorem eL_law__1297 : zD KL_law_ 1297 (.iconst 0) 1 1298 := ⟨dL_law__1297, rfl⟩
theorem dL_law__1298 : decode cL_law_ 1298 = .ok (.invokevirtual 219, 3) := by decide +kernel
theorem eL_law__1298 : zD KL_law_ 1298 (.invokevirtual 219) 3 1301 := ⟨dL_law__1298, rfl⟩
theorem dL_law__1301 : decode cL_law_ 1301 = .ok (.istore 6, 2) := by decide +kernel
theorem eL_law__1301 : zD KL_law_ 1301 (.istore 6) 2 1303 := ⟨dL_law__1301, rfl⟩
theorem dL_law__1303 : decode cL_law_ 1303 = .ok (.aload_n 2, 1) := by decide +kernel
theorem eL_law__1303 : zD KL_law_ 1303 (.aload_n 2) 1 1304 := ⟨dL_law__1303, rfl⟩
theorem dL_law__1304 : decode cL_law_ 1304 = .ok (.invokevirtual 170, 3) := by decide +kernel
theorem eL_law__1304 : zD KL_law_ 1304 (.invokevirtual 170) 3 1307 := ⟨dL_law__1304, rfl⟩
theorem dL_law__1307 : decode cL_law_ 1307 = .ok (.iload 5, 2) := by decide +kernel
theorem eL_law__1307 : zD KL_law_ 1307 (.iload 5) 2 1309 := ⟨dL_law__1307, rfl⟩
theorem dL_law__1309 : decode cL_law_ 1309 = .ok (.if_icmp .eq 5, 3) := by decide +kernel
theorem eL_law__1309 : zD KL_law_ 1309 (.if_icmp .eq 5) 3 1312 := ⟨dL_law__1309, rfl⟩
theorem dL_law__1312 : decode cL_law_ 1312 = .ok (.iconst 0, 1) := by decide +kernel
theorem eL_law__1312 : zD KL_law_ 1312 (.iconst 0) 1 1313 := ⟨dL_law__1312, rfl⟩
theorem dL_law__1313 : decode cL_law_ 1313 = .ok (.ireturn, 1) := by decide +kernel
theorem eL_law__1313 : zD KL_law_ 1313 (.ireturn) 1 1314 := ⟨dL_law__1313, rfl⟩
theorem dL_law__1314 : decode cL_law_ 1314 = .ok (.iload 5, 2) := by decide +kernel
theorem eL_law__1314 : zD KL_law_ 1314 (.iload 5) 2 1316 := ⟨dL_law__1314, rfl⟩
theorem dL_law__1316 : decode cL_law_ 1316 = .ok (.ifCond .ne 22, 3) := by decide +kernel
theorem eL_law__1316 : zD KL_law_ 1316 (.ifCond .ne 22) 3 1319 := ⟨dL_law__1316, rfl⟩
theorem dL_law__1319 : decode cL_law_ 1319 = .ok (.aload_n 3, 1) := by decide +kernel
theorem eL_law__1319 : zD KL_law_ 1319 (.aload_n 3) 1 1320 := ⟨dL_law__1319, rfl⟩
theorem dL_law__1320 : decode cL_law_ 1320 = .ok (.iconst 0, 1) := by decide +kernel
theorem eL_law__1320 : zD KL_law_ 1320 (.iconst 0) 1 1321 := ⟨dL_law__1320, rfl⟩
theorem dL_law__1321 : decode cL_law_ 1321 = .ok (.laload, 1) := by decide +kernel
theorem eL_law__1321 : zD KL_law_ 1321 (.laload) 1 1322 := ⟨dL_law__1321, rfl⟩
theorem dL_law__1322 : decode cL_law_ 1322 = .ok (.iload 6, 2) := by decide +kernel
theorem eL_law__1322 : zD KL_law_ 1322 (.iload 6) 2 1324 := ⟨dL_law__1322, rfl⟩
theorem dL_law__1324 : decode cL_law_ 1324 = .ok (.ifCond .eq 7, 3) := by decide +kernel
theorem eL_law__1324 : zD KL_law_ 1324 (.ifCond .eq 7) 3 1327 := ⟨dL_law__1324, rfl⟩
theorem dL_law__1327 : decode cL_law_ 1327 = .ok (.lconst 1, 1) := by decide +kernel
theorem eL_law__1327 : zD KL_law_ 1327 (.lconst 1) 1 1328 := ⟨dL_law__1327, rfl⟩
theorem dL_law__1328 : decode cL_law_ 1328 = .ok (.goto 4, 3) := by decide +kernel
theorem eL_law__1328 : zD KL_law_ 1328 (.goto 4) 3 1331 := ⟨dL_law__1328, rfl⟩
theorem dL_law__1331 : decode cL_law_ 1331 = .ok (.lconst 0, 1) := by decide +kernel
theorem eL_law__1331 : zD KL_law_ 1331 (.lconst 0) 1 1332 := ⟨dL_law__1331, rfl⟩
theorem dL_law__1332 : decode cL_law_ 1332 = .ok (.lcmp, 1) := by decide +kernel
theorem eL_law__1332 : zD KL_law_ 1332 (.lcmp) 1 1333 := ⟨dL_law__1332, rfl⟩
theorem dL_law__1333 : decode cL_law_ 1333 = .ok (.ifCond .eq 5, 3) := by decide +kernel
theorem eL_law__1333 : zD KL_law_ 1333 (.ifCond .eq 5) 3 1336 := ⟨dL_law__1333, rfl⟩
theorem dL_law__1336 : decode cL_law_ 1336 = .ok (.iconst 0, 1) := by decide +kernel
theorem eL_law__1336 : zD KL_law_ 1336 (.iconst 0) 1 1337 := ⟨dL_law__1336, rfl⟩
theorem dL_law__1337 : decode cL_law_ 1337 = .ok (.ireturn, 1) := by decide +kernel
theorem eL_law__1337 : zD KL_law_ 1337 (.ireturn) 1 1338 := ⟨dL_law__1337, rfl⟩
theorem dL_law__1338 : decode cL_law_ 1338 = .ok (.goto 2014, 3) := by decide +kernel
theorem eL_law__1338 : zD KL_law_ 1338 (.goto 2014) 3 1341 := ⟨dL_law__1338, rfl⟩
theorem dL_law__1341 : decode cL_law_ 1341 = .ok (.aload_n 1, 1) := by decide +kernel
theorem eL_law__1341 : zD KL_law_ 1341 (.aload_n 1) 1 1342 := ⟨dL_law__1341, rfl⟩
theorem dL_law__1342 : decode cL_law_ 1342 = .ok (.aload_n 0, 1) := by decide +kernel
theorem eL_law__1342 : zD KL_law_ 1342 (.aload_n 0) 1 1343 := ⟨dL_law__1342, rfl⟩
theorem dL_law__1343 : decode cL_law_ 1343 = .ok (.iload 4, 2) := by decide +kernel
theorem eL_law__1343 : zD KL_law_ 1343 (.iload 4) 2 1345 := ⟨dL_law__1343, rfl⟩
theorem dL_law__1345 : decode cL_law_ 1345 = .ok (.iconst 1, 1) := by decide +kernel
theorem eL_law__1345 : zD KL_law_ 1345 (.iconst 1) 1 1346 := ⟨dL_law__1345, rfl⟩
theorem dL_law__1346 : decode cL_law_ 1346 = .ok (.iadd, 1) := by decide +kernel
theorem eL_law__1346 : zD KL_law_ 1346 (.iadd) 1 1347 := ⟨dL_law__1346, rfl⟩
theorem dL_law__1347 : decode cL_law_ 1347 = .ok (.iaload, 1) := by decide +kernel
theorem eL_law__1347 : zD KL_law_ 1347 (.iaload) 1 1348 := ⟨dL_law__1347, rfl⟩
theorem dL_law__1348 : decode cL_law_ 1348 = .ok (.aload_n 0, 1) := by decide +kernel
theorem eL_law__1348 : zD KL_law_ 1348 (.aload_n 0) 1 1349 := ⟨dL_law__1348, rfl⟩
theorem dL_law__1349 : decode cL_law_ 1349 = .ok (.iload 4, 2) := by decide +kernel
theorem eL_law__1349 : zD KL_law_ 1349 (.iload 4) 2 1351 := ⟨dL_law__1349, rfl⟩
theorem dL_law__1351 : decode cL_law_ 1351 = .ok (.iconst 2, 1) := by decide +kernel
theorem eL_law__1351 : zD KL_law_ 1351 (.iconst 2) 1 1352 := ⟨dL_law__1351, rfl⟩
theorem dL_law__1352 : decode cL_law_ 1352 = .ok (.iadd, 1) := by decide +kernel
theorem eL_law__1352 : zD KL_law_ 1352 (.iadd) 1 1353 := ⟨dL_law__1352, rfl⟩
theorem dL_law__1353 : decode cL_law_ 1353 = .ok (.iaload, 1) := by decide +kernel
theorem eL_law__1353 : zD KL_law_ 1353 (.iaload) 1 1354 := ⟨dL_law__1353, rfl⟩
theorem dL_law__1354 : decode cL_law_ 1354 = .ok (.aload_n 3, 1) := by decide +kernel
theorem eL_law__1354 : zD KL_law_ 1354 (.aload_n 3) 1 1355 := ⟨dL_law__1354, rfl⟩
theorem dL_law__1355 : decode cL_law_ 1355 = .ok (.invokestatic 220, 3) := by decide +kernel
theorem eL_law__1355 : zD KL_law_ 1355 (.invokestatic 220) 3 1358 := ⟨dL_law__1355, rfl⟩
theorem dL_law__1358 : decode cL_law_ 1358 = .ok (.istore 5, 2) := by decide +kernel
theorem eL_law__1358 : zD KL_law_ 1358 (.istore 5) 2 1360 := ⟨dL_law__1358, rfl⟩
theorem dL_law__1360 : decode cL_law_ 1360 = .ok (.aload_n 2, 1) := by decide +kernel
theorem eL_law__1360 : zD KL_law_ 1360 (.aload_n 2) 1 1361 := ⟨dL_law__1360, rfl⟩
theorem dL_law__1361 : decode cL_law_ 1361 = .ok (.aload_n 0, 1) := by decide +kernel
theorem eL_law__1361 : zD KL_law_ 1361 (.aload_n 0) 1 1362 := ⟨dL_law__1361, rfl⟩
theorem dL_law__1362 : decode cL_law_ 1362 = .ok (.iload 4, 2) := by decide +kernel
theorem eL_law__1362 : zD KL_law_ 1362 (.iload 4) 2 1364 := ⟨dL_law__1362, rfl⟩
theorem dL_law__1364 : decode cL_law_ 1364 = .ok (.iconst 1, 1) := by decide +kernel
theorem eL_law__1364 : zD KL_law_ 1364 (.iconst 1) 1 1365 := ⟨dL_law__1364, rfl⟩
theorem dL_law__1365 : decode cL_law_ 1365 = .ok (.iadd, 1) := by decide +kernel
theorem eL_law__1365 : zD KL_law_ 1365 (.iadd) 1 1366 := ⟨dL_law__1365, rfl⟩
theorem dL_law__1366 : decode cL_law_ 1366 = .ok (.iaload, 1) := by decide +kernel
theorem eL_law__1366 : zD KL_law_ 1366 (.iaload) 1 1367 := ⟨dL_law__1366, rfl⟩
theorem dL_law__1367 : decode cL_law_ 1367 = .ok (.aload_n 0, 1) := by decide +kernel
theorem eL_law__1367 : zD KL_law_ 1367 (.aload_n 0) 1 1368 := ⟨dL_law__1367, rfl⟩
theorem dL_law__1368 : decode cL_law_ 1368 = .ok (.iload 4, 2) := by decide +kernel
theorem eL_law__1368 : zD KL_law_ 1368 (.iload 4) 2 1370 := ⟨dL_law__1368, rfl⟩
theorem dL_law__1370 : decode cL_law_ 1370 = .ok (.iconst 2, 1) := by decide +kernel
theorem eL_law__1370 : zD KL_law_ 1370 (.iconst 2) 1 1371 := ⟨dL_law__1370, rfl⟩
theorem dL_law__1371 : decode cL_law_ 1371 = .ok (.iadd, 1) := by decide +kernel
theorem eL_law__1371 : zD KL_law_ 1371 (.iadd) 1 1372 := ⟨dL_law__1371, rfl⟩
theorem dL_law__1372 : decode cL_law_ 1372 = .ok (.iaload, 1) := by decide +kernel
theorem eL_law__1372 : zD KL_law_ 1372 (.iaload) 1 1373 := ⟨dL_law__1372, rfl⟩
theorem dL_law__1373 : decode cL_law_ 1373 = .ok (.invokevirtual 222, 3) := by decide +kernel
theorem eL_law__1373 : zD KL_law_ 1373 (.invokevirtual 222) 3 1376 := ⟨dL_law__1373, rfl⟩
theorem dL_law__1376 : decode cL_law_ 1376 = .ok (.istore 6, 2) := by decide +kernel
theorem eL_law__1376 : zD KL_law_ 1376 (.istore 6) 2 1378 := ⟨dL_law__1376, rfl⟩
theorem dL_law__1378 : decode cL_law_ 1378 = .ok (.aload_n 2, 1) := by decide +kernel
theorem eL_law__1378 : zD KL_law_ 1378 (.aload_n 2) 1 1379 := ⟨dL_law__1378, rfl⟩
theorem dL_law__1379 : decode cL_law_ 1379 = .ok (.invokevirtual 170, 3) := by decide +kernel
theorem eL_law__1379 : zD KL_law_ 1379 (.invokevirtual 170) 3 1382 := ⟨dL_law__1379, rfl⟩
theorem dL_law__1382 : decode cL_law_ 1382 = .ok (.iload 5, 2) := by decide +kernel
theorem eL_law__1382 : zD KL_law_ 1382 (.iload 5) 2 1384 := ⟨dL_law__1382, rfl⟩
theorem dL_law__1384 : decode cL_law_ 1384 = .ok (.if_icmp .eq 5, 3) := by decide +kernel
theorem eL_law__1384 : zD KL_law_ 1384 (.if_icmp .eq 5) 3 1387 := ⟨dL_law__1384, rfl⟩
theorem dL_law__1387 : decode cL_law_ 1387 = .ok (.iconst 0, 1) := by decide +kernel
theorem eL_law__1387 : zD KL_law_ 1387 (.iconst 0) 1 1388 := ⟨dL_law__1387, rfl⟩
theorem dL_law__1388 : decode cL_law_ 1388 = .ok (.ireturn, 1) := by decide +kernel
theorem eL_law__1388 : zD KL_law_ 1388 (.ireturn) 1 1389 := ⟨dL_law__1388, rfl⟩
theorem dL_law__1389 : decode cL_law_ 1389 = .ok (.iload 5, 2) := by decide +kernel
theorem eL_law__1389 : zD KL_law_ 1389 (.iload 5) 2 1391 := ⟨dL_law__1389, rfl⟩
theorem dL_law__1391 : decode cL_law_ 1391 = .ok (.ifCond .ne 15, 3) := by decide +kernel
theorem eL_law__1391 : zD KL_law_ 1391 (.ifCond .ne 15) 3 1394 := ⟨dL_law__1391, rfl⟩
theorem dL_law__1394 : decode cL_law_ 1394 = .ok (.aload_n 3, 1) := by decide +kernel
theorem eL_law__1394 : zD KL_law_ 1394 (.aload_n 3) 1 1395 := ⟨dL_law__1394, rfl⟩
theorem dL_law__1395 : decode cL_law_ 1395 = .ok (.iconst 0, 1) := by decide +kernel
theorem eL_law__1395 : zD KL_law_ 1395 (.iconst 0) 1 1396 := ⟨dL_law__1395, rfl⟩
theorem dL_law__1396 : decode cL_law_ 1396 = .ok (.laload, 1) := by decide +kernel
theorem eL_law__1396 : zD KL_law_ 1396 (.laload) 1 1397 := ⟨dL_law__1396, rfl⟩
theorem dL_law__1397 : decode cL_law_ 1397 = .ok (.iload 6, 2) := by decide +kernel
theorem eL_law__1397 : zD KL_law_ 1397 (.iload 6) 2 1399 := ⟨dL_law__1397, rfl⟩
theorem dL_law__1399 : decode cL_law_ 1399 = .ok (.i2l, 1) := by decide +kernel
theorem eL_law__1399 : zD KL_law_ 1399 (.i2l) 1 1400 := ⟨dL_law__1399, rfl⟩
theorem dL_law__1400 : decode cL_law_ 1400 = .ok (.lcmp, 1) := by decide +kernel
theorem eL_law__1400 : zD KL_law_ 1400 (.lcmp) 1 1401 := ⟨dL_law__1400, rfl⟩
theorem dL_law__1401 : decode cL_law_ 1401 = .ok (.ifCond .eq 5, 3) := by decide +kernel
theorem eL_law__1401 : zD KL_law_ 1401 (.ifCond .eq 5) 3 1404 := ⟨dL_law__1401, rfl⟩
theorem dL_law__1404 : decode cL_law_ 1404 = .ok (.iconst 0, 1) := by decide +kernel
theorem eL_law__1404 : zD KL_law_ 1404 (.iconst 0) 1 1405 := ⟨dL_law__1404, rfl⟩
theorem dL_law__1405 : decode cL_law_ 1405 = .ok (.ireturn, 1) := by decide +kernel
theorem eL_law__1405 : zD KL_law_ 1405 (.ireturn) 1 1406 := ⟨dL_law__1405, rfl⟩
theorem dL_law__1406 : decode cL_law_ 1406 = .ok (.goto 1946, 3) := by decide +kernel
theorem eL_law__1406 : zD KL_law_ 1406 (.goto 1946) 3 1409 := ⟨dL_law__1406, rfl⟩
theorem dL_law__1409 : decode cL_law_ 1409 = .ok (.aload_n 1, 1) := by decide +kernel
theorem eL_law__1409 : zD KL_law_ 1409 (.aload_n 1) 1 1410 := ⟨dL_law__1409, rfl⟩
theorem dL_law__1410 : decode cL_law_ 1410 = .ok (.aload_n 0, 1) := by decide +kernel
theorem eL_law__1410 : zD KL_law_ 1410 (.aload_n 0) 1 1411 := ⟨dL_law__1410, rfl⟩
theorem dL_law__1411 : decode cL_law_ 1411 = .ok (.iload 4, 2) := by decide +kernel
theorem eL_law__1411 : zD KL_law_ 1411 (.iload 4) 2 1413 := ⟨dL_law__1411, rfl⟩
theorem dL_law__1413 : decode cL_law_ 1413 = .ok (.iconst 1, 1) := by decide +kernel
theorem eL_law__1413 : zD KL_law_ 1413 (.iconst 1) 1 1414 := ⟨dL_law__1413, rfl⟩
theorem dL_law__1414 : decode cL_law_ 1414 = .ok (.iadd, 1) := by decide +kernel
theorem eL_law__1414 : zD KL_law_ 1414 (.iadd) 1 1415 := ⟨dL_law__1414, rfl⟩
theorem dL_law__1415 : decode cL_law_ 1415 = .ok (.iaload, 1) := by decide +kernel
theorem eL_law__1415 : zD KL_law_ 1415 (.iaload) 1 1416 := ⟨dL_law__1415, rfl⟩
theorem dL_law__1416 : decode cL_law_ 1416 = .ok (.aload_n 0, 1) := by decide +kernel
theorem eL_law__1416 : zD KL_law_ 1416 (.aload_n 0) 1 1417 := ⟨dL_law__1416, rfl⟩
theorem dL_law__1417 : decode cL_law_ 1417 = .ok (.iload 4, 2) := by decide +kernel
theorem eL_law__1417 : zD KL_law_ 1417 (.iload 4) 2 1419 := ⟨dL_law__1417, rfl⟩
theorem dL_law__1419 : decode cL_law_ 1419 = .ok (.iconst 2, 1) := by decide +kernel
theorem eL_law__1419 : zD KL_law_ 1419 (.iconst 2) 1 1420 := ⟨dL_law__1419, rfl⟩
theorem dL_law__1420 : decode cL_law_ 1420 = .ok (.iadd, 1) := by decide +kernel
theorem eL_law__1420 : zD KL_law_ 1420 (.iadd) 1 1421 := ⟨dL_law__1420, rfl⟩
theorem dL_law__1421 : decode cL_law_ 1421 = .ok (.iaload, 1) := by decide +kernel
theorem eL_law__1421 : zD KL_law_ 1421 (.iaload) 1 1422 := ⟨dL_law__1421, rfl⟩
theorem dL_law__1422 : decode cL_law_ 1422 = .ok (.aload_n 3, 1) := by decide +kernel
theorem eL_law__1422 : zD KL_law_ 1422 (.aload_n 3) 1 1423 := ⟨dL_law__1422, rfl⟩
theorem dL_law__1423 : decode cL_law_ 1423 = .ok (.invokestatic 223, 3) := by decide +kernel
theorem eL_law__1423 : zD KL_law_ 1423 (.invokestatic 223) 3 1426 := ⟨dL_law__1423, rfl⟩
theorem dL_law__1426 : decode cL_law_ 1426 = .ok (.istore 5, 2) := by decide +kernel
theorem eL_law__1426 : zD KL_law_ 1426 (.istore 5) 2 1428 := ⟨dL_law__1426, rfl⟩
theorem dL_law__1428 : decode cL_law_ 1428 = .ok (.aload_n 2, 1) := by decide +kernel
theorem eL_law__1428 : zD KL_law_ 1428 (.aload_n 2) 1 1429 := ⟨dL_law__1428, rfl⟩
theorem dL_law__1429 : decode cL_law_ 1429 = .ok (.aload_n 0, 1) := by decide +kernel
theorem eL_law__1429 : zD KL_law_ 1429 (.aload_n 0) 1 1430 := ⟨dL_law__1429, rfl⟩
theorem dL_law__1430 : decode cL_law_ 1430 = .ok (.iload 4, 2) := by decide +kernel
theorem eL_law__1430 : zD KL_law_ 1430 (.iload 4) 2 1432 := ⟨dL_law__1430, rfl⟩
theorem dL_law__1432 : decode cL_law_ 1432 = .ok (.iconst 1, 1) := by decide +kernel
theorem eL_law__1432 : zD KL_law_ 1432 (.iconst 1) 1 1433 := ⟨dL_law__1432, rfl⟩
theorem dL_law__1433 : decode cL_law_ 1433 = .ok (.iadd, 1) := by decide +kernel
theorem eL_law__1433 : zD KL_law_ 1433 (.iadd) 1 1434 := ⟨dL_law__1433, rfl⟩
theorem dL_law__1434 : decode cL_law_ 1434 = .ok (.iaload, 1) := by decide +kernel
theorem eL_law__1434 : zD KL_law_ 1434 (.iaload) 1 1435 := ⟨dL_law__1434, rfl⟩
theorem dL_law__1435 : decode cL_law_ 1435 = .ok (.aload_n 0, 1) := by decide +kernel
theorem eL_law__1435 : zD KL_law_ 1435 (.aload_n 0) 1 1436 := ⟨dL_law__1435, rfl⟩
theorem dL_law__1436 : decode cL_law_ 1436 = .ok (.iload 4, 2) := by decide +kernel
theorem eL_law__1436 : zD KL_law_ 1436 (.iload 4) 2 1438 := ⟨dL_law__1436, rfl⟩
theorem dL_law__1438 : decode cL_law_ 1438 = .ok (.iconst 2, 1) := by decide +kernel
theorem eL_law__1438 : zD KL_law_ 1438 (.iconst 2) 1 1439 := ⟨dL_law__1438, rfl⟩
theorem dL_law__1439 : decode cL_law_ 1439 = .ok (.iadd, 1) := by decide +kernel
theorem eL_law__1439 : zD KL_law_ 1439 (.iadd) 1 1440 := ⟨dL_law__1439, rfl⟩
theorem dL_law__1440 : decode cL_law_ 1440 = .ok (.iaload, 1) := by decide +kernel
theorem eL_law__1440 : zD KL_law_ 1440 (.iaload) 1 1441 := ⟨dL_law__1440, rfl⟩
theorem dL_law__1441 : decode cL_law_ 1441 = .ok (.invokevirtual 225, 3) := by decide +kernel
theorem eL_law__1441 : zD KL_law_ 1441 (.invokevirtual 225) 3 1444 := ⟨dL_law__1441, rfl⟩
theorem dL_law__1444 : decode cL_law_ 1444 = .ok (.istore 6, 2) := by decide +kernel
theorem eL_law__1444 : zD KL_law_ 1444 (.istore 6) 2 1446 := ⟨dL_law__1444, rfl⟩
theorem dL_law__1446 : decode cL_law_ 1446 = .ok (.aload_n 2, 1) := by decide +kernel
theorem eL_law__1446 : zD KL_law_ 1446 (.aload_n 2) 1 1447 := ⟨dL_law__1446, rfl⟩
theorem dL_law__1447 : decode cL_law_ 1447 = .ok (.invokevirtual 170, 3) := by decide +kernel
theorem eL_law__1447 : zD KL_law_ 1447 (.invokevirtual 170) 3 1450 := ⟨dL_law__1447, rfl⟩
theorem dL_law__1450 : decode cL_law_ 1450 = .ok (.iload 5, 2) := by decide +kernel
theorem eL_law__1450 : zD KL_law_ 1450 (.iload 5) 2 1452 := ⟨dL_law__1450, rfl⟩
theorem dL_law__1452 : decode cL_law_ 1452 = .ok (.if_icmp .eq 5, 3) := by decide +kernel
theorem eL_law__1452 : zD KL_law_ 1452 (.if_icmp .eq 5) 3 1455 := ⟨dL_law__1452, rfl⟩
theorem dL_law__1455 : decode cL_law_ 1455 = .ok (.iconst 0, 1) := by decide +kernel
theorem eL_law__1455 : zD KL_law_ 1455 (.iconst 0) 1 1456 := ⟨dL_law__1455, rfl⟩
theorem dL_law__1456 : decode cL_law_ 1456 = .ok (.ireturn, 1) := by decide +kernel
theorem eL_law__1456 : zD KL_law_ 1456 (.ireturn) 1 1457 := ⟨dL_law__1456, rfl⟩
theorem dL_law__1457 : decode cL_law_ 1457 = .ok (.iload 5, 2) := by decide +kernel
theorem eL_law__1457 : zD KL_law_ 1457 (.iload 5) 2 1459 := ⟨dL_law__1457, rfl⟩
theorem dL_law__1459 : decode cL_law_ 1459 = .ok (.ifCond .ne 22, 3) := by decide +kernel
theorem eL_law__1459 : zD KL_law_ 1459 (.ifCond .ne 22) 3 1462 := ⟨dL_law__1459, rfl⟩
theorem dL_law__1462 : decode cL_law_ 1462 = .ok (.aload_n 3, 1) := by decide +kernel
theorem eL_law__1462 : zD KL_law_ 1462 (.aload_n 3) 1 1463 := ⟨dL_law__1462, rfl⟩
theorem dL_law__1463 : decode cL_law_ 1463 = .ok (.iconst 0, 1) := by decide +kernel
theorem eL_law__1463 : zD KL_law_ 1463 (.iconst 0) 1 1464 := ⟨dL_law__1463, rfl⟩
theorem dL_law__1464 : decode cL_law_ 1464 = .ok (.laload, 1) := by decide +kernel
theorem eL_law__1464 : zD KL_law_ 1464 (.laload) 1 1465 := ⟨dL_law__1464, rfl⟩
theorem dL_law__1465 : decode cL_law_ 1465 = .ok (.iload 6, 2) := by decide +kernel
theorem eL_law__1465 : zD KL_law_ 1465 (.iload 6) 2 1467 := ⟨dL_law__1465, rfl⟩
theorem dL_law__1467 : decode cL_law_ 1467 = .ok (.ifCond .eq 7, 3) := by decide +kernel
theorem eL_law__1467 : zD KL_law_ 1467 (.ifCond .eq 7) 3 1470 := ⟨dL_law__1467, rfl⟩
theorem dL_law__1470 : decode cL_law_ 1470 = .ok (.lconst 1, 1) := by decide +kernel
theorem eL_law__1470 : zD KL_law_ 1470 (.lconst 1) 1 1471 := ⟨dL_law__1470, rfl⟩
theorem dL_law__1471 : decode cL_law_ 1471 = .ok (.goto 4, 3) := by decide +kernel
theorem eL_law__1471 : zD KL_law_ 1471 (.goto 4) 3 1474 := ⟨dL_law__1471, rfl⟩
theorem dL_law__1474 : decode cL_law_ 1474 = .ok (.lconst 0, 1) := by decide +kernel
theorem eL_law__1474 : zD KL_law_ 1474 (.lconst 0) 1 1475 := ⟨dL_law__1474, rfl⟩
theorem dL_law__1475 : decode cL_law_ 1475 = .ok (.lcmp, 1) := by decide +kernel
theorem eL_law__1475 : zD KL_law_ 1475 (.lcmp) 1 1476 := ⟨dL_law__1475, rfl⟩
theorem dL_law__1476 : decode cL_law_ 1476 = .ok (.ifCond .eq 5, 3) := by decide +kernel
theorem eL_law__1476 : zD KL_law_ 1476 (.ifCond .eq 5) 3 1479 := ⟨dL_law__1476, rfl⟩
theorem dL_law__1479 : decode cL_law_ 1479 = .ok (.iconst 0, 1) := by decide +kernel
theorem eL_law__1479 : zD KL_law_ 1479 (.iconst 0) 1 1480 := ⟨dL_law__1479, rfl⟩
theorem dL_law__1480 : decode cL_law_ 1480 = .ok (.ireturn, 1) := by decide +kernel
theorem eL_law__1480 : zD KL_law_ 1480 (.ireturn) 1 1481 := ⟨dL_law__1480, rfl⟩
theorem dL_law__1481 : decode cL_law_ 1481 = .ok (.goto 1871, 3) := by decide +kernel
theorem eL_law__1481 : zD KL_law_ 1481 (.goto 1871) 3 1484 := ⟨dL_law__1481, rfl⟩
theorem dL_law__1484 : decode cL_law_ 1484 = .ok (.aload_n 1, 1) := by decide +kernel
theorem eL_law__1484 : zD KL_law_ 1484 (.aload_n 1) 1 1485 := ⟨dL_law__1484, rfl⟩
theorem dL_law__1485 : decode cL_law_ 1485 = .ok (.aload_n 0, 1) := by decide +kernel
theorem eL_law__1485 : zD KL_law_ 1485 (.aload_n 0) 1 1486 := ⟨dL_law__1485, rfl⟩
theorem dL_law__1486 : decode cL_law_ 1486 = .ok (.iload 4, 2) := by decide +kernel
theorem eL_law__1486 : zD KL_law_ 1486 (.iload 4) 2 1488 := ⟨dL_law__1486, rfl⟩
theorem dL_law__1488 : decode cL_law_ 1488 = .ok (.iconst 1, 1) := by decide +kernel
theorem eL_law__1488 : zD KL_law_ 1488 (.iconst 1) 1 1489 := ⟨dL_law__1488, rfl⟩
theorem dL_law__1489 : decode cL_law_ 1489 = .ok (.iadd, 1) := by decide +kernel
theorem eL_law__1489 : zD KL_law_ 1489 (.iadd) 1 1490 := ⟨dL_law__1489, rfl⟩
theorem dL_law__1490 : decode cL_law_ 1490 = .ok (.iaload, 1) := by decide +kernel
theorem eL_law__1490 : zD KL_law_ 1490 (.iaload) 1 1491 := ⟨dL_law__1490, rfl⟩
theorem dL_law__1491 : decode cL_law_ 1491 = .ok (.aload_n 0, 1) := by decide +kernel
theorem eL_law__1491 : zD KL_law_ 1491 (.aload_n 0) 1 1492 := ⟨dL_law__1491, rfl⟩
theorem dL_law__1492 : decode cL_law_ 1492 = .ok (.iload 4, 2) := by decide +kernel
theorem eL_law__1492 : zD KL_law_ 1492 (.iload 4) 2 1494 := ⟨dL_law__1492, rfl⟩
theorem dL_law__1494 : decode cL_law_ 1494 = .ok (.iconst 2, 1) := by decide +kernel
theorem eL_law__1494 : zD KL_law_ 1494 (.iconst 2) 1 1495 := ⟨dL_law__1494, rfl⟩
theorem dL_law__1495 : decode cL_law_ 1495 = .ok (.iadd, 1) := by decide +kernel
theorem eL_law__1495 : zD KL_law_ 1495 (.iadd) 1 1496 := ⟨dL_law__1495, rfl⟩
theorem dL_law__1496 : decode cL_law_ 1496 = .ok (.iaload, 1) := by decide +kernel
theorem eL_law__1496 : zD KL_law_ 1496 (.iaload) 1 1497 := ⟨dL_law__1496, rfl⟩
theorem dL_law__1497 : decode cL_law_ 1497 = .ok (.aload_n 3, 1) := by decide +kernel
theorem eL_law__1497 : zD KL_law_ 1497 (.aload_n 3) 1 1498 := ⟨dL_law__1497, rfl⟩
theorem dL_law__1498 : decode cL_law_ 1498 = .ok (.invokestatic 226, 3) := by decide +kernel
theorem eL_law__1498 : zD KL_law_ 1498 (.invokestatic 226) 3 1501 := ⟨dL_law__1498, rfl⟩
theorem dL_law__1501 : decode cL_law_ 1501 = .ok (.istore 5, 2) := by decide +kernel
theorem eL_law__1501 : zD KL_law_ 1501 (.istore 5) 2 1503 := ⟨dL_law__1501, rfl⟩
theorem dL_law__1503 : decode cL_law_ 1503 = .ok (.aload_n 2, 1) := by decide +kernel
theorem eL_law__1503 : zD KL_law_ 1503 (.aload_n 2) 1 1504 := ⟨dL_law__1503, rfl⟩
theorem dL_law__1504 : decode cL_law_ 1504 = .ok (.aload_n 0, 1) := by decide +kernel
theorem eL_law__1504 : zD KL_law_ 1504 (.aload_n 0) 1 1505 := ⟨dL_law__1504, rfl⟩
theorem dL_law__1505 : decode cL_law_ 1505 = .ok (.iload 4, 2) := by decide +kernel
theorem eL_law__1505 : zD KL_law_ 1505 (.iload 4) 2 1507 := ⟨dL_law__1505, rfl⟩
theorem dL_law__1507 : decode cL_law_ 1507 = .ok (.iconst 1, 1) := by decide +kernel
theorem eL_law__1507 : zD KL_law_ 1507 (.iconst 1) 1 1508 := ⟨dL_law__1507, rfl⟩
theorem dL_law__1508 : decode cL_law_ 1508 = .ok (.iadd, 1) := by decide +kernel
theorem eL_law__1508 : zD KL_law_ 1508 (.iadd) 1 1509 := ⟨dL_law__1508, rfl⟩
theorem dL_law__1509 : decode cL_law_ 1509 = .ok (.iaload, 1) := by decide +kernel
theorem eL_law__1509 : zD KL_law_ 1509 (.iaload) 1 1510 := ⟨dL_law__1509, rfl⟩
theorem dL_law__1510 : decode cL_law_ 1510 = .ok (.aload_n 0, 1) := by decide +kernel
theorem eL_law__1510 : zD KL_law_ 1510 (.aload_n 0) 1 1511 := ⟨dL_law__1510, rfl⟩
theorem dL_law__1511 : decode cL_law_ 1511 = .ok (.iload 4, 2) := by decide +kernel
theorem eL_law__1511 : zD KL_law_ 1511 (.iload 4) 2 1513 := ⟨dL_law__1511, rfl⟩
theorem dL_law__1513 : decode cL_law_ 1513 = .ok (.iconst 2, 1) := by decide +kernel
theorem eL_law__1513 : zD KL_law_ 1513 (.iconst 2) 1 1514 := ⟨dL_law__1513, rfl⟩
theorem dL_law__1514 : decode cL_law_ 1514 = .ok (.iadd, 1) := by decide +kernel
theorem eL_law__1514 : zD KL_law_ 1514 (.iadd) 1 1515 := ⟨dL_law__1514, rfl⟩
theorem dL_law__1515 : decode cL_law_ 1515 = .ok (.iaload, 1) := by decide +kernel
theorem eL_law__1515 : zD KL_law_ 1515 (.iaload) 1 1516 := ⟨dL_law__1515, rfl⟩
theorem dL_law__1516 : decode cL_law_ 1516 = .ok (.invokevirtual 228, 3) := by decide +kernel
theorem eL_law__1516 : zD KL_law_ 1516 (.invokevirtual 228) 3 1519 := ⟨dL_law__1516, rfl⟩
theorem dL_law__1519 : decode cL_law_ 1519 = .ok (.istore 6, 2) := by decide +kernel
theorem eL_law__1519 : zD KL_law_ 1519 (.istore 6) 2 1521 := ⟨dL_law__1519, rfl⟩
theorem dL_law__1521 : decode cL_law_ 1521 = .ok (.aload_n 2, 1) := by decide +kernel
theorem eL_law__1521 : zD KL_law_ 1521 (.aload_n 2) 1 1522 := ⟨dL_law__1521, rfl⟩
theorem dL_law__1522 : decode cL_law_ 1522 = .ok (.invokevirtual 170, 3) := by decide +kernel
theorem eL_law__1522 : zD KL_law_ 1522 (.invokevirtual 170) 3 1525 := ⟨dL_law__1522, rfl⟩
theorem dL_law__1525 : decode cL_law_ 1525 = .ok (.iload 5, 2) := by decide +kernel
theorem eL_law__1525 : zD KL_law_ 1525 (.iload 5) 2 1527 := ⟨dL_law__1525, rfl⟩
theorem dL_law__1527 : decode cL_law_ 1527 = .ok (.if_icmp .eq 5, 3) := by decide +kernel
theorem eL_law__1527 : zD KL_law_ 1527 (.if_icmp .eq 5) 3 1530 := ⟨dL_law__1527, rfl⟩
theorem dL_law__1530 : decode cL_law_ 1530 = .ok (.iconst 0, 1) := by decide +kernel
theorem eL_law__1530 : zD KL_law_ 1530 (.iconst 0) 1 1531 := ⟨dL_law__1530, rfl⟩
theorem dL_law__1531 : decode cL_law_ 1531 = .ok (.ireturn, 1) := by decide +kernel
theorem eL_law__1531 : zD KL_law_ 1531 (.ireturn) 1 1532 := ⟨dL_law__1531, rfl⟩
theorem dL_law__1532 : decode cL_law_ 1532 = .ok (.iload 5, 2) := by decide +kernel
theorem eL_law__1532 : zD KL_law_ 1532 (.iload 5) 2 1534 := ⟨dL_law__1532, rfl⟩
theorem dL_law__1534 : decode cL_law_ 1534 = .ok (.ifCond .ne 15, 3) := by decide +kernel
theorem eL_law__1534 : zD KL_law_ 1534 (.ifCond .ne 15) 3 1537 := ⟨dL_law__1534, rfl⟩
theorem dL_law__1537 : decode cL_law_ 1537 = .ok (.aload_n 3, 1) := by decide +kernel
theorem eL_law__1537 : zD KL_law_ 1537 (.aload_n 3) 1 1538 := ⟨dL_law__1537, rfl⟩
theorem dL_law__1538 : decode cL_law_ 1538 = .ok (.iconst 0, 1) := by decide +kernel
theorem eL_law__1538 : zD KL_law_ 1538 (.iconst 0) 1 1539 := ⟨dL_law__1538, rfl⟩
theorem dL_law__1539 : decode cL_law_ 1539 = .ok (.laload, 1) := by decide +kernel
theorem eL_law__1539 : zD KL_law_ 1539 (.laload) 1 1540 := ⟨dL_law__1539, rfl⟩
theorem dL_law__1540 : decode cL_law_ 1540 = .ok (.iload 6, 2) := by decide +kernel
theorem eL_law__1540 : zD KL_law_ 1540 (.iload 6) 2 1542 := ⟨dL_law__1540, rfl⟩
theorem dL_law__1542 : decode cL_law_ 1542 = .ok (.i2l, 1) := by decide +kernel
theorem eL_law__1542 : zD KL_law_ 1542 (.i2l) 1 1543 := ⟨dL_law__1542, rfl⟩
theorem dL_law__1543 : decode cL_law_ 1543 = .ok (.lcmp, 1) := by decide +kernel
theorem eL_law__1543 : zD KL_law_ 1543 (.lcmp) 1 1544 := ⟨dL_law__1543, rfl⟩
theorem dL_law__1544 : decode cL_law_ 1544 = .ok (.ifCond .eq 5, 3) := by decide +kernel
theorem eL_law__1544 : zD KL_law_ 1544 (.ifCond .eq 5) 3 1547 := ⟨dL_law__1544, rfl⟩
theorem dL_law__1547 : decode cL_law_ 1547 = .ok (.iconst 0, 1) := by decide +kernel
theorem eL_law__1547 : zD KL_law_ 1547 (.iconst 0) 1 1548 := ⟨dL_law__1547, rfl⟩
theorem dL_law__1548 : decode cL_law_ 1548 = .ok (.ireturn, 1) := by decide +kernel
theorem eL_law__1548 : zD KL_law_ 1548 (.ireturn) 1 1549 := ⟨dL_law__1548, rfl⟩
theorem dL_law__1549 : decode cL_law_ 1549 = .ok (.goto 1803, 3) := by decide +kernel
theorem eL_law__1549 : zD KL_law_ 1549 (.goto 1803) 3 1552 := ⟨dL_law__1549, rfl⟩
theorem dL_law__1552 : decode cL_law_ 1552 = .ok (.aload_n 1, 1) := by decide +kernel
theorem eL_law__1552 : zD KL_law_ 1552 (.aload_n 1) 1 1553 := ⟨dL_law__1552, rfl⟩
theorem dL_law__1553 : decode cL_law_ 1553 = .ok (.aload_n 0, 1) := by decide +kernel
theorem eL_law__1553 : zD KL_law_ 1553 (.aload_n 0) 1 1554 := ⟨dL_law__1553, rfl⟩
theorem dL_law__1554 : decode cL_law_ 1554 = .ok (.iload 4, 2) := by decide +kernel
theorem eL_law__1554 : zD KL_law_ 1554 (.iload 4) 2 1556 := ⟨dL_law__1554, rfl⟩
theorem dL_law__1556 : decode cL_law_ 1556 = .ok (.iconst 1, 1) := by decide +kernel
theorem eL_law__1556 : zD KL_law_ 1556 (.iconst 1) 1 1557 := ⟨dL_law__1556, rfl⟩
theorem dL_law__1557 : decode cL_law_ 1557 = .ok (.iadd, 1) := by decide +kernel
theorem eL_law__1557 : zD KL_law_ 1557 (.iadd) 1 1558 := ⟨dL_law__1557, rfl⟩
theorem dL_law__1558 : decode cL_law_ 1558 = .ok (.iaload, 1) := by decide +kernel
theorem eL_law__1558 : zD KL_law_ 1558 (.iaload) 1 1559 := ⟨dL_law__1558, rfl⟩
theorem dL_law__1559 : decode cL_law_ 1559 = .ok (.aload_n 3, 1) := by decide +kernel
theorem eL_law__1559 : zD KL_law_ 1559 (.aload_n 3) 1 1560 := ⟨dL_law__1559, rfl⟩
theorem dL_law__1560 : decode cL_law_ 1560 = .ok (.invokestatic 229, 3) := by decide +kernel
theorem eL_law__1560 : zD KL_law_ 1560 (.invokestatic 229) 3 1563 := ⟨dL_law__1560, rfl⟩
theorem dL_law__1563 : decode cL_law_ 1563 = .ok (.istore 5, 2) := by decide +kernel
theorem eL_law__1563 : zD KL_law_ 1563 (.istore 5) 2 1565 := ⟨dL_law__1563, rfl⟩
theorem dL_law__1565 : decode cL_law_ 1565 = .ok (.aload_n 2, 1) := by decide +kernel
theorem eL_law__1565 : zD KL_law_ 1565 (.aload_n 2) 1 1566 := ⟨dL_law__1565, rfl⟩
theorem dL_law__1566 : decode cL_law_ 1566 = .ok (.aload_n 0, 1) := by decide +kernel
theorem eL_law__1566 : zD KL_law_ 1566 (.aload_n 0) 1 1567 := ⟨dL_law__1566, rfl⟩
theorem dL_law__1567 : decode cL_law_ 1567 = .ok (.iload 4, 2) := by decide +kernel
theorem eL_law__1567 : zD KL_law_ 1567 (.iload 4) 2 1569 := ⟨dL_law__1567, rfl⟩
theorem dL_law__1569 : decode cL_law_ 1569 = .ok (.iconst 1, 1) := by decide +kernel
theorem eL_law__1569 : zD KL_law_ 1569 (.iconst 1) 1 1570 := ⟨dL_law__1569, rfl⟩
theorem dL_law__1570 : decode cL_law_ 1570 = .ok (.iadd, 1) := by decide +kernel
theorem eL_law__1570 : zD KL_law_ 1570 (.iadd) 1 1571 := ⟨dL_law__1570, rfl⟩
theorem dL_law__1571 : decode cL_law_ 1571 = .ok (.iaload, 1) := by decide +kernel
theorem eL_law__1571 : zD KL_law_ 1571 (.iaload) 1 1572 := ⟨dL_law__1571, rfl⟩
theorem dL_law__1572 : decode cL_law_ 1572 = .ok (.invokevirtual 231, 3) := by decide +kernel
theorem eL_law__1572 : zD KL_law_ 1572 (.invokevirtual 231) 3 1575 := ⟨dL_law__1572, rfl⟩
theorem dL_law__1575 : decode cL_law_ 1575 = .ok (.istore 6, 2) := by decide +kernel
theorem eL_law__1575 : zD KL_law_ 1575 (.istore 6) 2 1577 := ⟨dL_law__1575, rfl⟩
theorem dL_law__1577 : decode cL_law_ 1577 = .ok (.aload_n 2, 1) := by decide +kernel
theorem eL_law__1577 : zD KL_law_ 1577 (.aload_n 2) 1 1578 := ⟨dL_law__1577, rfl⟩
theorem dL_law__1578 : decode cL_law_ 1578 = .ok (.invokevirtual 170, 3) := by decide +kernel
theorem eL_law__1578 : zD KL_law_ 1578 (.invokevirtual 170) 3 1581 := ⟨dL_law__1578, rfl⟩
theorem dL_law__1581 : decode cL_law_ 1581 = .ok (.iload 5, 2) := by decide +kernel
theorem eL_law__1581 : zD KL_law_ 1581 (.iload 5) 2 1583 := ⟨dL_law__1581, rfl⟩
theorem dL_law__1583 : decode cL_law_ 1583 = .ok (.if_icmp .eq 5, 3) := by decide +kernel
theorem eL_law__1583 : zD KL_law_ 1583 (.if_icmp .eq 5) 3 1586 := ⟨dL_law__1583, rfl⟩
theorem dL_law__1586 : decode cL_law_ 1586 = .ok (.iconst 0, 1) := by decide +kernel
theorem eL_law__1586 : zD KL_law_ 1586 (.iconst 0) 1 1587 := ⟨dL_law__1586, rfl⟩
theorem dL_law__1587 : decode cL_law_ 1587 = .ok (.ireturn, 1) := by decide +kernel
theorem eL_law__1587 : zD KL_law_ 1587 (.ireturn) 1 1588 := ⟨dL_law__1587, rfl⟩
theorem dL_law__1588 : decode cL_law_ 1588 = .ok (.iload 5, 2) := by decide +kernel
theorem eL_law__1588 : zD KL_law_ 1588 (.iload 5) 2 1590 := ⟨dL_law__1588, rfl⟩
theorem dL_law__1590 : decode cL_law_ 1590 = .ok (.ifCond .ne 15, 3) := by decide +kernel
theorem eL_law__1590 : zD KL_law_ 1590 (.ifCond .ne 15) 3 1593 := ⟨dL_law__1590, rfl⟩
theorem dL_law__1593 : decode cL_law_ 1593 = .ok (.aload_n 3, 1) := by decide +kernel
theorem eL_law__1593 : zD KL_law_ 1593 (.aload_n 3) 1 1594 := ⟨dL_law__1593, rfl⟩
theorem dL_law__1594 : decode cL_law_ 1594 = .ok (.iconst 0, 1) := by decide +kernel
theorem eL_law__1594 : zD KL_law_ 1594 (.iconst 0) 1 1595 := ⟨dL_law__1594, rfl⟩
theorem dL_law__1595 : decode cL_law_ 1595 = .ok (.laload, 1) := by decide +kernel
theorem eL_law__1595 : zD KL_law_ 1595 (.laload) 1 1596 := ⟨dL_law__1595, rfl⟩
theorem dL_law__1596 : decode cL_law_ 1596 = .ok (.iload 6, 2) := by decide +kernel
theorem eL_law__1596 : zD KL_law_ 1596 (.iload 6) 2 1598 := ⟨dL_law__1596, rfl⟩
theorem dL_law__1598 : decode cL_law_ 1598 = .ok (.i2l, 1) := by decide +kernel
theorem eL_law__1598 : zD KL_law_ 1598 (.i2l) 1 1599 := ⟨dL_law__1598, rfl⟩
theorem dL_law__1599 : decode cL_law_ 1599 = .ok (.lcmp, 1) := by decide +kernel
theorem eL_law__1599 : zD KL_law_ 1599 (.lcmp) 1 1600 := ⟨dL_law__1599, rfl⟩
theorem dL_law__1600 : decode cL_law_ 1600 = .ok (.ifCond .eq 5, 3) := by decide +kernel
theorem eL_law__1600 : zD KL_law_ 1600 (.ifCond .eq 5) 3 1603 := ⟨dL_law__1600, rfl⟩
theorem dL_law__1603 : decode cL_law_ 1603 = .ok (.iconst 0, 1) := by decide +kernel
theorem eL_law__1603 : zD KL_law_ 1603 (.iconst 0) 1 1604 := ⟨dL_law__1603, rfl⟩
theorem dL_law__1604 : decode cL_law_ 1604 = .ok (.ireturn, 1) := by decide +kernel
theorem eL_law__1604 : zD KL_law_ 1604 (.ireturn) 1 1605 := ⟨dL_law__1604, rfl⟩
theorem dL_law__1605 : decode cL_law_ 1605 = .ok (.goto 1747, 3) := by decide +kernel
theorem eL_law__1605 : zD KL_law_ 1605 (.goto 1747) 3 1608 := ⟨dL_law__1605, rfl⟩
theorem dL_law__1608 : decode cL_law_ 1608 = .ok (.aload_n 1, 1) := by decide +kernel
theorem eL_law__1608 : zD KL_law_ 1608 (.aload_n 1) 1 1609 := ⟨dL_law__1608, rfl⟩
theorem dL_law__1609 : decode cL_law_ 1609 = .ok (.aload_n 0, 1) := by decide +kernel
theorem eL_law__1609 : zD KL_law_ 1609 (.aload_n 0) 1 1610 := ⟨dL_law__1609, rfl⟩
theorem dL_law__1610 : decode cL_law_ 1610 = .ok (.iload 4, 2) := by decide +kernel
theorem eL_law__1610 : zD KL_law_ 1610 (.iload 4) 2 1612 := ⟨dL_law__1610, rfl⟩
theorem dL_law__1612 : decode cL_law_ 1612 = .ok (.iconst 1, 1) := by decide +kernel
theorem eL_law__1612 : zD KL_law_ 1612 (.iconst 1) 1 1613 := ⟨dL_law__1612, rfl⟩
theorem dL_law__1613 : decode cL_law_ 1613 = .ok (.iadd, 1) := by decide +kernel
theorem eL_law__1613 : zD KL_law_ 1613 (.iadd) 1 1614 := ⟨dL_law__1613, rfl⟩
theorem dL_law__1614 : decode cL_law_ 1614 = .ok (.iaload, 1) := by decide +kernel
theorem eL_law__1614 : zD KL_law_ 1614 (.iaload) 1 1615 := ⟨dL_law__1614, rfl⟩
theorem dL_law__1615 : decode cL_law_ 1615 = .ok (.aload_n 0, 1) := by decide +kernel
theorem eL_law__1615 : zD KL_law_ 1615 (.aload_n 0) 1 1616 := ⟨dL_law__1615, rfl⟩
theorem dL_law__1616 : decode cL_law_ 1616 = .ok (.iload 4, 2) := by decide +kernel
theorem eL_law__1616 : zD KL_law_ 1616 (.iload 4) 2 1618 := ⟨dL_law__1616, rfl⟩
theorem dL_law__1618 : decode cL_law_ 1618 = .ok (.iconst 2, 1) := by decide +kernel
theorem eL_law__1618 : zD KL_law_ 1618 (.iconst 2) 1 1619 := ⟨dL_law__1618, rfl⟩
theorem dL_law__1619 : decode cL_law_ 1619 = .ok (.iadd, 1) := by decide +kernel
theorem eL_law__1619 : zD KL_law_ 1619 (.iadd) 1 1620 := ⟨dL_law__1619, rfl⟩
theorem dL_law__1620 : decode cL_law_ 1620 = .ok (.iaload, 1) := by decide +kernel
theorem eL_law__1620 : zD KL_law_ 1620 (.iaload) 1 1621 := ⟨dL_law__1620, rfl⟩
theorem dL_law__1621 : decode cL_law_ 1621 = .ok (.aload_n 3, 1) := by decide +kernel
theorem eL_law__1621 : zD KL_law_ 1621 (.aload_n 3) 1 1622 := ⟨dL_law__1621, rfl⟩
theorem dL_law__1622 : decode cL_law_ 1622 = .ok (.invokestatic 232, 3) := by decide +kernel
theorem eL_law__1622 : zD KL_law_ 1622 (.invokestatic 232) 3 1625 := ⟨dL_law__1622, rfl⟩
theorem dL_law__1625 : decode cL_law_ 1625 = .ok (.istore 5, 2) := by decide +kernel
theorem eL_law__1625 : zD KL_law_ 1625 (.istore 5) 2 1627 := ⟨dL_law__1625, rfl⟩
theorem dL_law__1627 : decode cL_law_ 1627 = .ok (.aload_n 2, 1) := by decide +kernel
theorem eL_law__1627 : zD KL_law_ 1627 (.aload_n 2) 1 1628 := ⟨dL_law__1627, rfl⟩
theorem dL_law__1628 : decode cL_law_ 1628 = .ok (.aload_n 0, 1) := by decide +kernel
theorem eL_law__1628 : zD KL_law_ 1628 (.aload_n 0) 1 1629 := ⟨dL_law__1628, rfl⟩
theorem dL_law__1629 : decode cL_law_ 1629 = .ok (.iload 4, 2) := by decide +kernel
theorem eL_law__1629 : zD KL_law_ 1629 (.iload 4) 2 1631 := ⟨dL_law__1629, rfl⟩
theorem dL_law__1631 : decode cL_law_ 1631 = .ok (.iconst 1, 1) := by decide +kernel
theorem eL_law__1631 : zD KL_law_ 1631 (.iconst 1) 1 1632 := ⟨dL_law__1631, rfl⟩
theorem dL_law__1632 : decode cL_law_ 1632 = .ok (.iadd, 1) := by decide +kernel
theorem eL_law__1632 : zD KL_law_ 1632 (.iadd) 1 1633 := ⟨dL_law__1632, rfl⟩
theorem dL_law__1633 : decode cL_law_ 1633 = .ok (.iaload, 1) := by decide +kernel
theorem eL_law__1633 : zD KL_law_ 1633 (.iaload) 1 1634 := ⟨dL_law__1633, rfl⟩
theorem dL_law__1634 : decode cL_law_ 1634 = .ok (.aload_n 0, 1) := by decide +kernel
theorem eL_law__1634 : zD KL_law_ 1634 (.aload_n 0) 1 1635 := ⟨dL_law__1634, rfl⟩
theorem dL_law__1635 : decode cL_law_ 1635 = .ok (.iload 4, 2) := by decide +kernel
theorem eL_law__1635 : zD KL_law_ 1635 (.iload 4) 2 1637 := ⟨dL_law__1635, rfl⟩
theorem dL_law__1637 : decode cL_law_ 1637 = .ok (.iconst 2, 1) := by decide +kernel
theorem eL_law__1637 : zD KL_law_ 1637 (.iconst 2) 1 1638 := ⟨dL_law__1637, rfl⟩
theorem dL_law__1638 : decode cL_law_ 1638 = .ok (.iadd, 1) := by decide +kernel
theorem eL_law__1638 : zD KL_law_ 1638 (.iadd) 1 1639 := ⟨dL_law__1638, rfl⟩
theorem dL_law__1639 : decode cL_law_ 1639 = .ok (.iaload, 1) := by decide +kernel
theorem eL_law__1639 : zD KL_law_ 1639 (.iaload) 1 1640 := ⟨dL_law__1639, rfl⟩
theorem dL_law__1640 : decode cL_law_ 1640 = .ok (.invokevirtual 234, 3) := by decide +kernel
theorem eL_law__1640 : zD KL_law_ 1640 (.invokevirtual 234) 3 1643 := ⟨dL_law__1640, rfl⟩
theorem dL_law__1643 : decode cL_law_ 1643 = .ok (.istore 6, 2) := by decide +kernel
theorem eL_law__1643 : zD KL_law_ 1643 (.istore 6) 2 1645 := ⟨dL_law__1643, rfl⟩
theorem dL_law__1645 : decode cL_law_ 1645 = .ok (.aload_n 2, 1) := by decide +kernel
theorem eL_law__1645 : zD KL_law_ 1645 (.aload_n 2) 1 1646 := ⟨dL_law__1645, rfl⟩
theorem dL_law__1646 : decode cL_law_ 1646 = .ok (.invokevirtual 170, 3) := by decide +kernel
theorem eL_law__1646 : zD KL_law_ 1646 (.invokevirtual 170) 3 1649 := ⟨dL_law__1646, rfl⟩
theorem dL_law__1649 : decode cL_law_ 1649 = .ok (.iload 5, 2) := by decide +kernel
theorem eL_law__1649 : zD KL_law_ 1649 (.iload 5) 2 1651 := ⟨dL_law__1649, rfl⟩
theorem dL_law__1651 : decode cL_law_ 1651 = .ok (.if_icmp .eq 5, 3) := by decide +kernel
theorem eL_law__1651 : zD KL_law_ 1651 (.if_icmp .eq 5) 3 1654 := ⟨dL_law__1651, rfl⟩
theorem dL_law__1654 : decode cL_law_ 1654 = .ok (.iconst 0, 1) := by decide +kernel
theorem eL_law__1654 : zD KL_law_ 1654 (.iconst 0) 1 1655 := ⟨dL_law__1654, rfl⟩
theorem dL_law__1655 : decode cL_law_ 1655 = .ok (.ireturn, 1) := by decide +kernel
theorem eL_law__1655 : zD KL_law_ 1655 (.ireturn) 1 1656 := ⟨dL_law__1655, rfl⟩
theorem dL_law__1656 : decode cL_law_ 1656 = .ok (.iload 5, 2) := by decide +kernel
theorem eL_law__1656 : zD KL_law_ 1656 (.iload 5) 2 1658 := ⟨dL_law__1656, rfl⟩
theorem dL_law__1658 : decode cL_law_ 1658 = .ok (.ifCond .ne 15, 3) := by decide +kernel
theorem eL_law__1658 : zD KL_law_ 1658 (.ifCond .ne 15) 3 1661 := ⟨dL_law__1658, rfl⟩
theorem dL_law__1661 : decode cL_law_ 1661 = .ok (.aload_n 3, 1) := by decide +kernel
theorem eL_law__1661 : zD KL_law_ 1661 (.aload_n 3) 1 1662 := ⟨dL_law__1661, rfl⟩
theorem dL_law__1662 : decode cL_law_ 1662 = .ok (.iconst 0, 1) := by decide +kernel
theorem eL_law__1662 : zD KL_law_ 1662 (.iconst 0) 1 1663 := ⟨dL_law__1662, rfl⟩
theorem dL_law__1663 : decode cL_law_ 1663 = .ok (.laload, 1) := by decide +kernel
theorem eL_law__1663 : zD KL_law_ 1663 (.laload) 1 1664 := ⟨dL_law__1663, rfl⟩
theorem dL_law__1664 : decode cL_law_ 1664 = .ok (.iload 6, 2) := by decide +kernel
theorem eL_law__1664 : zD KL_law_ 1664 (.iload 6) 2 1666 := ⟨dL_law__1664, rfl⟩
theorem dL_law__1666 : decode cL_law_ 1666 = .ok (.i2l, 1) := by decide +kernel
theorem eL_law__1666 : zD KL_law_ 1666 (.i2l) 1 1667 := ⟨dL_law__1666, rfl⟩
theorem dL_law__1667 : decode cL_law_ 1667 = .ok (.lcmp, 1) := by decide +kernel
theorem eL_law__1667 : zD KL_law_ 1667 (.lcmp) 1 1668 := ⟨dL_law__1667, rfl⟩
theorem dL_law__1668 : decode cL_law_ 1668 = .ok (.ifCond .eq 5, 3) := by decide +kernel
theorem eL_law__1668 : zD KL_law_ 1668 (.ifCond .eq 5) 3 1671 := ⟨dL_law__1668, rfl⟩
theorem dL_law__1671 : decode cL_law_ 1671 = .ok (.iconst 0, 1) := by decide +kernel
theorem eL_law__1671 : zD KL_law_ 1671 (.iconst 0) 1 1672 := ⟨dL_law__1671, rfl⟩
theorem dL_law__1672 : decode cL_law_ 1672 = .ok (.ireturn, 1) := by decide +kernel
theorem eL_law__1672 : zD KL_law_ 1672 (.ireturn) 1 1673 := ⟨dL_law__1672, rfl⟩
theorem dL_law__1673 : decode cL_law_ 1673 = .ok (.goto 1679, 3) := by decide +kernel
theorem eL_law__1673 : zD KL_law_ 1673 (.goto 1679) 3 1676 := ⟨dL_law__1673, rfl⟩
theorem dL_law__1676 : decode cL_law_ 1676 = .ok (.aload_n 1, 1) := by decide +kernel
theorem eL_law__1676 : zD KL_law_ 1676 (.aload_n 1) 1 1677 := ⟨dL_law__1676, rfl⟩
theorem dL_law__1677 : decode cL_law_ 1677 = .ok (.aload_n 0, 1) := by decide +kernel
theorem eL_law__1677 : zD KL_law_ 1677 (.aload_n 0) 1 1678 := ⟨dL_law__1677, rfl⟩
theorem dL_law__1678 : decode cL_law_ 1678 = .ok (.iload 4, 2) := by decide +kernel
theorem eL_law__1678 : zD KL_law_ 1678 (.iload 4) 2 1680 := ⟨dL_law__1678, rfl⟩
theorem dL_law__1680 : decode cL_law_ 1680 = .ok (.iconst 1, 1) := by decide +kernel
theorem eL_law__1680 : zD KL_law_ 1680 (.iconst 1) 1 1681 := ⟨dL_law__1680, rfl⟩
theorem dL_law__1681 : decode cL_law_ 1681 = .ok (.iadd, 1) := by decide +kernel
theorem eL_law__1681 : zD KL_law_ 1681 (.iadd) 1 1682 := ⟨dL_law__1681, rfl⟩
theorem dL_law__1682 : decode cL_law_ 1682 = .ok (.iaload, 1) := by decide +kernel
theorem eL_law__1682 : zD KL_law_ 1682 (.iaload) 1 1683 := ⟨dL_law__1682, rfl⟩
theorem dL_law__1683 : decode cL_law_ 1683 = .ok (.aload_n 0, 1) := by decide +kernel
theorem eL_law__1683 : zD KL_law_ 1683 (.aload_n 0) 1 1684 := ⟨dL_law__1683, rfl⟩
theorem dL_law__1684 : decode cL_law_ 1684 = .ok (.iload 4, 2) := by decide +kernel
theorem eL_law__1684 : zD KL_law_ 1684 (.iload 4) 2 1686 := ⟨dL_law__1684, rfl⟩
theorem dL_law__1686 : decode cL_law_ 1686 = .ok (.iconst 2, 1) := by decide +kernel
theorem eL_law__1686 : zD KL_law_ 1686 (.iconst 2) 1 1687 := ⟨dL_law__1686, rfl⟩
theorem dL_law__1687 : decode cL_law_ 1687 = .ok (.iadd, 1) := by decide +kernel
theorem eL_law__1687 : zD KL_law_ 1687 (.iadd) 1 1688 := ⟨dL_law__1687, rfl⟩
theorem dL_law__1688 : decode cL_law_ 1688 = .ok (.iaload, 1) := by decide +kernel
theorem eL_law__1688 : zD KL_law_ 1688 (.iaload) 1 1689 := ⟨dL_law__1688, rfl⟩
theorem dL_law__1689 : decode cL_law_ 1689 = .ok (.aload_n 3, 1) := by decide +kernel
theorem eL_law__1689 : zD KL_law_ 1689 (.aload_n 3) 1 1690 := ⟨dL_law__1689, rfl⟩
theorem dL_law__1690 : decode cL_law_ 1690 = .ok (.invokestatic 235, 3) := by decide +kernel
theorem eL_law__1690 : zD KL_law_ 1690 (.invokestatic 235) 3 1693 := ⟨dL_law__1690, rfl⟩
theorem dL_law__1693 : decode cL_law_ 1693 = .ok (.istore 5, 2) := by decide +kernel
theorem eL_law__1693 : zD KL_law_ 1693 (.istore 5) 2 1695 := ⟨dL_law__1693, rfl⟩
theorem dL_law__1695 : decode cL_law_ 1695 = .ok (.aload_n 2, 1) := by decide +kernel
theorem eL_law__1695 : zD KL_law_ 1695 (.aload_n 2) 1 1696 := ⟨dL_law__1695, rfl⟩
theorem dL_law__1696 : decode cL_law_ 1696 = .ok (.aload_n 0, 1) := by decide +kernel
theorem eL_law__1696 : zD KL_law_ 1696 (.aload_n 0) 1 1697 := ⟨dL_law__1696, rfl⟩
theorem dL_law__1697 : decode cL_law_ 1697 = .ok (.iload 4, 2) := by decide +kernel
theorem eL_law__1697 : zD KL_law_ 1697 (.iload 4) 2 1699 := ⟨dL_law__1697, rfl⟩
theorem dL_law__1699 : decode cL_law_ 1699 = .ok (.iconst 1, 1) := by decide +kernel
theorem eL_law__1699 : zD KL_law_ 1699 (.iconst 1) 1 1700 := ⟨dL_law__1699, rfl⟩
theorem dL_law__1700 : decode cL_law_ 1700 = .ok (.iadd, 1) := by decide +kernel
theorem eL_law__1700 : zD KL_law_ 1700 (.iadd) 1 1701 := ⟨dL_law__1700, rfl⟩
theorem dL_law__1701 : decode cL_law_ 1701 = .ok (.iaload, 1) := by decide +kernel
theorem eL_law__1701 : zD KL_law_ 1701 (.iaload) 1 1702 := ⟨dL_law__1701, rfl⟩
theorem dL_law__1702 : decode cL_law_ 1702 = .ok (.aload_n 0, 1) := by decide +kernel
theorem eL_law__1702 : zD KL_law_ 1702 (.aload_n 0) 1 1703 := ⟨dL_law__1702, rfl⟩
theorem dL_law__1703 : decode cL_law_ 1703 = .ok (.iload 4, 2) := by decide +kernel
theorem eL_law__1703 : zD KL_law_ 1703 (.iload 4) 2 1705 := ⟨dL_law__1703, rfl⟩
theorem dL_law__1705 : decode cL_law_ 1705 = .ok (.iconst 2, 1) := by decide +kernel
theorem eL_law__1705 : zD KL_law_ 1705 (.iconst 2) 1 1706 := ⟨dL_law__1705, rfl⟩
theorem dL_law__1706 : decode cL_law_ 1706 = .ok (.iadd, 1) := by decide +kernel
theorem eL_law__1706 : zD KL_law_ 1706 (.iadd) 1 1707 := ⟨dL_law__1706, rfl⟩
theorem dL_law__1707 : decode cL_law_ 1707 = .ok (.iaload, 1) := by decide +kernel
theorem eL_law__1707 : zD KL_law_ 1707 (.iaload) 1 1708 := ⟨dL_law__1707, rfl⟩
theorem dL_law__1708 : decode cL_law_ 1708 = .ok (.invokevirtual 237, 3) := by decide +kernel
theorem eL_law__1708 : zD KL_law_ 1708 (.invokevirtual 237) 3 1711 := ⟨dL_law__1708, rfl⟩
theorem dL_law__1711 : decode cL_law_ 1711 = .ok (.istore 6, 2) := by decide +kernel
theorem eL_law__1711 : zD KL_law_ 1711 (.istore 6) 2 1713 := ⟨dL_law__1711, rfl⟩
theorem dL_law__1713 : decode cL_law_ 1713 = .ok (.aload_n 2, 1) := by decide +kernel
theorem eL_law__1713 : zD KL_law_ 1713 (.aload_n 2) 1 1714 := ⟨dL_law__1713, rfl⟩
theorem dL_law__1714 : decode cL_law_ 1714 = .ok (.invokevirtual 170, 3) := by decide +kernel
theorem eL_law__1714 : zD KL_law_ 1714 (.invokevirtual 170) 3 1717 := ⟨dL_law__1714, rfl⟩
theorem dL_law__1717 : decode cL_law_ 1717 = .ok (.iload 5, 2) := by decide +kernel
theorem eL_law__1717 : zD KL_law_ 1717 (.iload 5) 2 1719 := ⟨dL_law__1717, rfl⟩
theorem dL_law__1719 : decode cL_law_ 1719 = .ok (.if_icmp .eq 5, 3) := by decide +kernel
theorem eL_law__1719 : zD KL_law_ 1719 (.if_icmp .eq 5) 3 1722 := ⟨dL_law__1719, rfl⟩
theorem dL_law__1722 : decode cL_law_ 1722 = .ok (.iconst 0, 1) := by decide +kernel
theorem eL_law__1722 : zD KL_law_ 1722 (.iconst 0) 1 1723 := ⟨dL_law__1722, rfl⟩
theorem dL_law__1723 : decode cL_law_ 1723 = .ok (.ireturn, 1) := by decide +kernel
theorem eL_law__1723 : zD KL_law_ 1723 (.ireturn) 1 1724 := ⟨dL_law__1723, rfl⟩
theorem dL_law__1724 : decode cL_law_ 1724 = .ok (.iload 5, 2) := by decide +kernel
theorem eL_law__1724 : zD KL_law_ 1724 (.iload 5) 2 1726 := ⟨dL_law__1724, rfl⟩
theorem dL_law__1726 : decode cL_law_ 1726 = .ok (.ifCond .ne 15, 3) := by decide +kernel
theorem eL_law__1726 : zD KL_law_ 1726 (.ifCond .ne 15) 3 1729 := ⟨dL_law__1726, rfl⟩
theorem dL_law__1729 : decode cL_law_ 1729 = .ok (.aload_n 3, 1) := by decide +kernel
theorem eL_law__1729 : zD KL_law_ 1729 (.aload_n 3) 1 1730 := ⟨dL_law__1729, rfl⟩
theorem dL_law__1730 : decode cL_law_ 1730 = .ok (.iconst 0, 1) := by decide +kernel
theorem eL_law__1730 : zD KL_law_ 1730 (.iconst 0) 1 1731 := ⟨dL_law__1730, rfl⟩
theorem dL_law__1731 : decode cL_law_ 1731 = .ok (.laload, 1) := by decide +kernel
theorem eL_law__1731 : zD KL_law_ 1731 (.laload) 1 1732 := ⟨dL_law__1731, rfl⟩
theorem dL_law__1732 : decode cL_law_ 1732 = .ok (.iload 6, 2) := by decide +kernel
theorem eL_law__1732 : zD KL_law_ 1732 (.iload 6) 2 1734 := ⟨dL_law__1732, rfl⟩
theorem dL_law__1734 : decode cL_law_ 1734 = .ok (.i2l, 1) := by decide +kernel
theorem eL_law__1734 : zD KL_law_ 1734 (.i2l) 1 1735 := ⟨dL_law__1734, rfl⟩
theorem dL_law__1735 : decode cL_law_ 1735 = .ok (.lcmp, 1) := by decide +kernel
theorem eL_law__1735 : zD KL_law_ 1735 (.lcmp) 1 1736 := ⟨dL_law__1735, rfl⟩
theorem dL_law__1736 : decode cL_law_ 1736 = .ok (.ifCond .eq 5, 3) := by decide +kernel
theorem eL_law__1736 : zD KL_law_ 1736 (.ifCond .eq 5) 3 1739 := ⟨dL_law__1736, rfl⟩
theorem dL_law__1739 : decode cL_law_ 1739 = .ok (.iconst 0, 1) := by decide +kernel
theorem eL_law__1739 : zD KL_law_ 1739 (.iconst 0) 1 1740 := ⟨dL_law__1739, rfl⟩
theorem dL_law__1740 : decode cL_law_ 1740 = .ok (.ireturn, 1) := by decide +kernel
theorem eL_law__1740 : zD KL_law_ 1740 (.ireturn) 1 1741 := ⟨dL_law__1740, rfl⟩
theorem dL_law__1741 : decode cL_law_ 1741 = .ok (.goto 1611, 3) := by decide +kernel
theorem eL_law__1741 : zD KL_law_ 1741 (.goto 1611) 3 1744 := ⟨dL_law__1741, rfl⟩
theorem dL_law__1744 : decode cL_law_ 1744 = .ok (.aload_n 1, 1) := by decide +kernel
theorem eL_law__1744 : zD KL_law_ 1744 (.aload_n 1) 1 1745 := ⟨dL_law__1744, rfl⟩
theorem dL_law__1745 : decode cL_law_ 1745 = .ok (.aload_n 0, 1) := by decide +kernel
theorem eL_law__1745 : zD KL_law_ 1745 (.aload_n 0) 1 1746 := ⟨dL_law__1745, rfl⟩
theorem dL_law__1746 : decode cL_law_ 1746 = .ok (.iload 4, 2) := by decide +kernel
theorem eL_law__1746 : zD KL_law_ 1746 (.iload 4) 2 1748 := ⟨dL_law__1746, rfl⟩
theorem dL_law__1748 : decode cL_law_ 1748 = .ok (.iconst 1, 1) := by decide +kernel
theorem eL_law__1748 : zD KL_law_ 1748 (.iconst 1) 1 1749 := ⟨dL_law__1748, rfl⟩
theorem dL_law__1749 : decode cL_law_ 1749 = .ok (.iadd, 1) := by decide +kernel
theorem eL_law__1749 : zD KL_law_ 1749 (.iadd) 1 1750 := ⟨dL_law__1749, rfl⟩
theorem dL_law__1750 : decode cL_law_ 1750 = .ok (.iaload, 1) := by decide +kernel
theorem eL_law__1750 : zD KL_law_ 1750 (.iaload) 1 1751 := ⟨dL_law__1750, rfl⟩
theorem dL_law__1751 : decode cL_law_ 1751 = .ok (.aload_n 0, 1) := by decide +kernel
theorem eL_law__1751 : zD KL_law_ 1751 (.aload_n 0) 1 1752 := ⟨dL_law__1751, rfl⟩
theorem dL_law__1752 : decode cL_law_ 1752 = .ok (.iload 4, 2) := by decide +kernel
theorem eL_law__1752 : zD KL_law_ 1752 (.iload 4) 2 1754 := ⟨dL_law__1752, rfl⟩
theorem dL_law__1754 : decode cL_law_ 1754 = .ok (.iconst 2, 1) := by decide +kernel
theorem eL_law__1754 : zD KL_law_ 1754 (.iconst 2) 1 1755 := ⟨dL_law__1754, rfl⟩
theorem dL_law__1755 : decode cL_law_ 1755 = .ok (.iadd, 1) := by decide +kernel
theorem eL_law__1755 : zD KL_law_ 1755 (.iadd) 1 1756 := ⟨dL_law__1755, rfl⟩
theorem dL_law__1756 : decode cL_law_ 1756 = .ok (.iaload, 1) := by decide +kernel
theorem eL_law__1756 : zD KL_law_ 1756 (.iaload) 1 1757 := ⟨dL_law__1756, rfl⟩
theorem dL_law__1757 : decode cL_law_ 1757 = .ok (.aload_n 3, 1) := by decide +kernel
theorem eL_law__1757 : zD KL_law_ 1757 (.aload_n 3) 1 1758 := ⟨dL_law__1757, rfl⟩
theorem dL_law__1758 : decode cL_law_ 1758 = .ok (.invokestatic 238, 3) := by decide +kernel
theorem eL_law__1758 : zD KL_law_ 1758 (.invokestatic 238) 3 1761 := ⟨dL_law__1758, rfl⟩
theorem dL_law__1761 : decode cL_law_ 1761 = .ok (.istore 5, 2) := by decide +kernel
theorem eL_law__1761 : zD KL_law_ 1761 (.istore 5) 2 1763 := ⟨dL_law__1761, rfl⟩
theorem dL_law__1763 : decode cL_law_ 1763 = .ok (.aload_n 2, 1) := by decide +kernel
theorem eL_law__1763 : zD KL_law_ 1763 (.aload_n 2) 1 1764 := ⟨dL_law__1763, rfl⟩
theorem dL_law__1764 : decode cL_law_ 1764 = .ok (.aload_n 0, 1) := by decide +kernel
theorem eL_law__1764 : zD KL_law_ 1764 (.aload_n 0) 1 1765 := ⟨dL_law__1764, rfl⟩
theorem dL_law__1765 : decode cL_law_ 1765 = .ok (.iload 4, 2) := by decide +kernel
theorem eL_law__1765 : zD KL_law_ 1765 (.iload 4) 2 1767 := ⟨dL_law__1765, rfl⟩
theorem dL_law__1767 : decode cL_law_ 1767 = .ok (.iconst 1, 1) := by decide +kernel
theorem eL_law__1767 : zD KL_law_ 1767 (.iconst 1) 1 1768 := ⟨dL_law__1767, rfl⟩
theorem dL_law__1768 : decode cL_law_ 1768 = .ok (.iadd, 1) := by decide +kernel
theorem eL_law__1768 : zD KL_law_ 1768 (.iadd) 1 1769 := ⟨dL_law__1768, rfl⟩
theorem dL_law__1769 : decode cL_law_ 1769 = .ok (.iaload, 1) := by decide +kernel
theorem eL_law__1769 : zD KL_law_ 1769 (.iaload) 1 1770 := ⟨dL_law__1769, rfl⟩
theorem dL_law__1770 : decode cL_law_ 1770 = .ok (.aload_n 0, 1) := by decide +kernel
theorem eL_law__1770 : zD KL_law_ 1770 (.aload_n 0) 1 1771 := ⟨dL_law__1770, rfl⟩
theorem dL_law__1771 : decode cL_law_ 1771 = .ok (.iload 4, 2) := by decide +kernel
theorem eL_law__1771 : zD KL_law_ 1771 (.iload 4) 2 1773 := ⟨dL_law__1771, rfl⟩
theorem dL_law__1773 : decode cL_law_ 1773 = .ok (.iconst 2, 1) := by decide +kernel
theorem eL_law__1773 : zD KL_law_ 1773 (.iconst 2) 1 1774 := ⟨dL_law__1773, rfl⟩
theorem dL_law__1774 : decode cL_law_ 1774 = .ok (.iadd, 1) := by decide +kernel
theorem eL_law__1774 : zD KL_law_ 1774 (.iadd) 1 1775 := ⟨dL_law__1774, rfl⟩
theorem dL_law__1775 : decode cL_law_ 1775 = .ok (.iaload, 1) := by decide +kernel
theorem eL_law__1775 : zD KL_law_ 1775 (.iaload) 1 1776 := ⟨dL_law__1775, rfl⟩
theorem dL_law__1776 : decode cL_law_ 1776 = .ok (.invokevirtual 240, 3) := by decide +kernel
theorem eL_law__1776 : zD KL_law_ 1776 (.invokevirtual 240) 3 1779 := ⟨dL_law__1776, rfl⟩
theorem dL_law__1779 : decode cL_law_ 1779 = .ok (.istore 6, 2) := by decide +kernel
theorem eL_law__1779 : zD KL_law_ 1779 (.istore 6) 2 1781 := ⟨dL_law__1779, rfl⟩
theorem dL_law__1781 : decode cL_law_ 1781 = .ok (.aload_n 2, 1) := by decide +kernel
theorem eL_law__1781 : zD KL_law_ 1781 (.aload_n 2) 1 1782 := ⟨dL_law__1781, rfl⟩
theorem dL_law__1782 : decode cL_law_ 1782 = .ok (.invokevirtual 170, 3) := by decide +kernel
theorem eL_law__1782 : zD KL_law_ 1782 (.invokevirtual 170) 3 1785 := ⟨dL_law__1782, rfl⟩
theorem dL_law__1785 : decode cL_law_ 1785 = .ok (.iload 5, 2) := by decide +kernel
theorem eL_law__1785 : zD KL_law_ 1785 (.iload 5) 2 1787 := ⟨dL_law__1785, rfl⟩
theorem dL_law__1787 : decode cL_law_ 1787 = .ok (.if_icmp .eq 5, 3) := by decide +kernel
theorem eL_law__1787 : zD KL_law_ 1787 (.if_icmp .eq 5) 3 1790 := ⟨dL_law__1787, rfl⟩
theorem dL_law__1790 : decode cL_law_ 1790 = .ok (.iconst 0, 1) := by decide +kernel
theorem eL_law__1790 : zD KL_law_ 1790 (.iconst 0) 1 1791 := ⟨dL_law__1790, rfl⟩
theorem dL_law__1791 : decode cL_law_ 1791 = .ok (.ireturn, 1) := by decide +kernel
theorem eL_law__1791 : zD KL_law_ 1791 (.ireturn) 1 1792 := ⟨dL_law__1791, rfl⟩
theorem dL_law__1792 : decode cL_law_ 1792 = .ok (.iload 5, 2) := by decide +kernel
theorem eL_law__1792 : zD KL_law_ 1792 (.iload 5) 2 1794 := ⟨dL_law__1792, rfl⟩
theorem dL_law__1794 : decode cL_law_ 1794 = .ok (.ifCond .ne 15, 3) := by decide +kernel
theorem eL_law__1794 : zD KL_law_ 1794 (.ifCond .ne 15) 3 1797 := ⟨dL_law__1794, rfl⟩
theorem dL_law__1797 : decode cL_law_ 1797 = .ok (.aload_n 3, 1) := by decide +kernel
theorem eL_law__1797 : zD KL_law_ 1797 (.aload_n 3) 1 1798 := ⟨dL_law__1797, rfl⟩
theorem dL_law__1798 : decode cL_law_ 1798 = .ok (.iconst 0, 1) := by decide +kernel
theorem eL_law__1798 : zD KL_law_ 1798 (.iconst 0) 1 1799 := ⟨dL_law__1798, rfl⟩
theorem dL_law__1799 : decode cL_law_ 1799 = .ok (.laload, 1) := by decide +kernel
theorem eL_law__1799 : zD KL_law_ 1799 (.laload) 1 1800 := ⟨dL_law__1799, rfl⟩
theorem dL_law__1800 : decode cL_law_ 1800 = .ok (.iload 6, 2) := by decide +kernel
theorem eL_law__1800 : zD KL_law_ 1800 (.iload 6) 2 1802 := ⟨dL_law__1800, rfl⟩
theorem dL_law__1802 : decode cL_law_ 1802 = .ok (.i2l, 1) := by decide +kernel
theorem eL_law__1802 : zD KL_law_ 1802 (.i2l) 1 1803 := ⟨dL_law__1802, rfl⟩
theorem dL_law__1803 : decode cL_law_ 1803 = .ok (.lcmp, 1) := by decide +kernel
theorem eL_law__1803 : zD KL_law_ 1803 (.lcmp) 1 1804 := ⟨dL_law__1803, rfl⟩
theorem dL_law__1804 : decode cL_law_ 1804 = .ok (.ifCond .eq 5, 3) := by decide +kernel
theorem eL_law__1804 : zD KL_law_ 1804 (.ifCond .eq 5) 3 1807 := ⟨dL_law__1804, rfl⟩
theorem dL_law__1807 : decode cL_law_ 1807 = .ok (.iconst 0, 1) := by decide +kernel
theorem eL_law__1807 : zD KL_law_ 1807 (.iconst 0) 1 1808 := ⟨dL_law__1807, rfl⟩
theorem dL_law__1808 : decode cL_law_ 1808 = .ok (.ireturn, 1) := by decide +kernel
theorem eL_law__1808 : zD KL_law_ 1808 (.ireturn) 1 1809 := ⟨dL_law__1808, rfl⟩
theorem dL_law__1809 : decode cL_law_ 1809 = .ok (.goto 1543, 3) := by decide +kernel
theorem eL_law__1809 : zD KL_law_ 1809 (.goto 1543) 3 1812 := ⟨dL_law__1809, rfl⟩
theorem dL_law__1812 : decode cL_law_ 1812 = .ok (.aload_n 1, 1) := by decide +kernel
theorem eL_law__1812 : zD KL_law_ 1812 (.aload_n 1) 1 1813 := ⟨dL_law__1812, rfl⟩
theorem dL_law__1813 : decode cL_law_ 1813 = .ok (.aload_n 0, 1) := by decide +kernel
theorem eL_law__1813 : zD KL_law_ 1813 (.aload_n 0) 1 1814 := ⟨dL_law__1813, rfl⟩
theorem dL_law__1814 : decode cL_law_ 1814 = .ok (.iload 4, 2) := by decide +kernel
theorem eL_law__1814 : zD KL_law_ 1814 (.iload 4) 2 1816 := ⟨dL_law__1814, rfl⟩
theorem dL_law__1816 : decode cL_law_ 1816 = .ok (.iconst 1, 1) := by decide +kernel
theorem eL_law__1816 : zD KL_law_ 1816 (.iconst 1) 1 1817 := ⟨dL_law__1816, rfl⟩
theorem dL_law__1817 : decode cL_law_ 1817 = .ok (.iadd, 1) := by decide +kernel
theorem eL_law__1817 : zD KL_law_ 1817 (.iadd) 1 1818 := ⟨dL_law__1817, rfl⟩
theorem dL_law__1818 : decode cL_law_ 1818 = .ok (.iaload, 1) := by decide +kernel
theorem eL_law__1818 : zD KL_law_ 1818 (.iaload) 1 1819 := ⟨dL_law__1818, rfl⟩
theorem dL_law__1819 : decode cL_law_ 1819 = .ok (.aload_n 3, 1) := by decide +kernel
theorem eL_law__1819 : zD KL_law_ 1819 (.aload_n 3) 1 1820 := ⟨dL_law__1819, rfl⟩
theorem dL_law__1820 : decode cL_law_ 1820 = .ok (.invokestatic 241, 3) := by decide +kernel
theorem eL_law__1820 : zD KL_law_ 1820 (.invokestatic 241) 3 1823 := ⟨dL_law__1820, rfl⟩
theorem dL_law__1823 : decode cL_law_ 1823 = .ok (.istore 5, 2) := by decide +kernel
theorem eL_law__1823 : zD KL_law_ 1823 (.istore 5) 2 1825 := ⟨dL_law__1823, rfl⟩
theorem dL_law__1825 : decode cL_law_ 1825 = .ok (.aload_n 2, 1) := by decide +kernel
theorem eL_law__1825 : zD KL_law_ 1825 (.aload_n 2) 1 1826 := ⟨dL_law__1825, rfl⟩
theorem dL_law__1826 : decode cL_law_ 1826 = .ok (.aload_n 0, 1) := by decide +kernel
theorem eL_law__1826 : zD KL_law_ 1826 (.aload_n 0) 1 1827 := ⟨dL_law__1826, rfl⟩
theorem dL_law__1827 : decode cL_law_ 1827 = .ok (.iload 4, 2) := by decide +kernel
theorem eL_law__1827 : zD KL_law_ 1827 (.iload 4) 2 1829 := ⟨dL_law__1827, rfl⟩
theorem dL_law__1829 : decode cL_law_ 1829 = .ok (.iconst 1, 1) := by decide +kernel
theorem eL_law__1829 : zD KL_law_ 1829 (.iconst 1) 1 1830 := ⟨dL_law__1829, rfl⟩
theorem dL_law__1830 : decode cL_law_ 1830 = .ok (.iadd, 1) := by decide +kernel
theorem eL_law__1830 : zD KL_law_ 1830 (.iadd) 1 1831 := ⟨dL_law__1830, rfl⟩
theorem dL_law__1831 : decode cL_law_ 1831 = .ok (.iaload, 1) := by decide +kernel
theorem eL_law__1831 : zD KL_law_ 1831 (.iaload) 1 1832 := ⟨dL_law__1831, rfl⟩
theorem dL_law__1832 : decode cL_law_ 1832 = .ok (.invokevirtual 243, 3) := by decide +kernel
theorem eL_law__1832 : zD KL_law_ 1832 (.invokevirtual 243) 3 1835 := ⟨dL_law__1832, rfl⟩
theorem dL_law__1835 : decode cL_law_ 1835 = .ok (.istore 6, 2) := by decide +kernel
theorem eL_law__1835 : zD KL_law_ 1835 (.istore 6) 2 1837 := ⟨dL_law__1835, rfl⟩
theorem dL_law__1837 : decode cL_law_ 1837 = .ok (.aload_n 2, 1) := by decide +kernel
theorem eL_law__1837 : zD KL_law_ 1837 (.aload_n 2) 1 1838 := ⟨dL_law__1837, rfl⟩
theorem dL_law__1838 : decode cL_law_ 1838 = .ok (.invokevirtual 170, 3) := by decide +kernel
theorem eL_law__1838 : zD KL_law_ 1838 (.invokevirtual 170) 3 1841 := ⟨dL_law__1838, rfl⟩
theorem dL_law__1841 : decode cL_law_ 1841 = .ok (.iload 5, 2) := by decide +kernel
theorem eL_law__1841 : zD KL_law_ 1841 (.iload 5) 2 1843 := ⟨dL_law__1841, rfl⟩
theorem dL_law__1843 : decode cL_law_ 1843 = .ok (.if_icmp .eq 5, 3) := by decide +kernel
theorem eL_law__1843 : zD KL_law_ 1843 (.if_icmp .eq 5) 3 1846 := ⟨dL_law__1843, rfl⟩
theorem dL_law__1846 : decode cL_law_ 1846 = .ok (.iconst 0, 1) := by decide +kernel
theorem eL_law__1846 : zD KL_law_ 1846 (.iconst 0) 1 1847 := ⟨dL_law__1846, rfl⟩
theorem dL_law__1847 : decode cL_law_ 1847 = .ok (.ireturn, 1) := by decide +kernel
theorem eL_law__1847 : zD KL_law_ 1847 (.ireturn) 1 1848 := ⟨dL_law__1847, rfl⟩
theorem dL_law__1848 : decode cL_law_ 1848 = .ok (.iload 5, 2) := by decide +kernel
theorem eL_law__1848 : zD KL_law_ 1848 (.iload 5) 2 1850 := ⟨dL_law__1848, rfl⟩
theorem dL_law__1850 : decode cL_law_ 1850 = .ok (.ifCond .ne 15, 3) := by decide +kernel
theorem eL_law__1850 : zD KL_law_ 1850 (.ifCond .ne 15) 3 1853 := ⟨dL_law__1850, rfl⟩
theorem dL_law__1853 : decode cL_law_ 1853 = .ok (.aload_n 3, 1) := by decide +kernel
theorem eL_law__1853 : zD KL_law_ 1853 (.aload_n 3) 1 1854 := ⟨dL_law__1853, rfl⟩
theorem dL_law__1854 : decode cL_law_ 1854 = .ok (.iconst 0, 1) := by decide +kernel
theorem eL_law__1854 : zD KL_law_ 1854 (.iconst 0) 1 1855 := ⟨dL_law__1854, rfl⟩
theorem dL_law__1855 : decode cL_law_ 1855 = .ok (.laload, 1) := by decide +kernel
theorem eL_law__1855 : zD KL_law_ 1855 (.laload) 1 1856 := ⟨dL_law__1855, rfl⟩
theorem dL_law__1856 : decode cL_law_ 1856 = .ok (.iload 6, 2) := by decide +kernel
theorem eL_law__1856 : zD KL_law_ 1856 (.iload 6) 2 1858 := ⟨dL_law__1856, rfl⟩
theorem dL_law__1858 : decode cL_law_ 1858 = .ok (.i2l, 1) := by decide +kernel
theorem eL_law__1858 : zD KL_law_ 1858 (.i2l) 1 1859 := ⟨dL_law__1858, rfl⟩
theorem dL_law__1859 : decode cL_law_ 1859 = .ok (.lcmp, 1) := by decide +kernel
theorem eL_law__1859 : zD KL_law_ 1859 (.lcmp) 1 1860 := ⟨dL_law__1859, rfl⟩
theorem dL_law__1860 : decode cL_law_ 1860 = .ok (.ifCond .eq 5, 3) := by decide +kernel
theorem eL_law__1860 : zD KL_law_ 1860 (.ifCond .eq 5) 3 1863 := ⟨dL_law__1860, rfl⟩
theorem dL_law__1863 : decode cL_law_ 1863 = .ok (.iconst 0, 1) := by decide +kernel
theorem eL_law__1863 : zD KL_law_ 1863 (.iconst 0) 1 1864 := ⟨dL_law__1863, rfl⟩
theorem dL_law__1864 : decode cL_law_ 1864 = .ok (.ireturn, 1) := by decide +kernel
theorem eL_law__1864 : zD KL_law_ 1864 (.ireturn) 1 1865 := ⟨dL_law__1864, rfl⟩
theorem dL_law__1865 : decode cL_law_ 1865 = .ok (.goto 1487, 3) := by decide +kernel
theorem eL_law__1865 : zD KL_law_ 1865 (.goto 1487) 3 1868 := ⟨dL_law__1865, rfl⟩
theorem dL_law__1868 : decode cL_law_ 1868 = .ok (.aload_n 1, 1) := by decide +kernel
theorem eL_law__1868 : zD KL_law_ 1868 (.aload_n 1) 1 1869 := ⟨dL_law__1868, rfl⟩
theorem dL_law__1869 : decode cL_law_ 1869 = .ok (.invokevirtual 244, 3) := by decide +kernel
theorem eL_law__1869 : zD KL_law_ 1869 (.invokevirtual 244) 3 1872 := ⟨dL_law__1869, rfl⟩
theorem dL_law__1872 : decode cL_law_ 1872 = .ok (.aload_n 2, 1) := by decide +kernel
theorem eL_law__1872 : zD KL_law_ 1872 (.aload_n 2) 1 1873 := ⟨dL_law__1872, rfl⟩
theorem dL_law__1873 : decode cL_law_ 1873 = .ok (.invokevirtual 247, 3) := by decide +kernel
theorem eL_law__1873 : zD KL_law_ 1873 (.invokevirtual 247) 3 1876 := ⟨dL_law__1873, rfl⟩
theorem dL_law__1876 : decode cL_law_ 1876 = .ok (.if_icmp .eq 1476, 3) := by decide +kernel
theorem eL_law__1876 : zD KL_law_ 1876 (.if_icmp .eq 1476) 3 1879 := ⟨dL_law__1876, rfl⟩
theorem dL_law__1879 : decode cL_law_ 1879 = .ok (.iconst 0, 1) := by decide +kernel
theorem eL_law__1879 : zD KL_law_ 1879 (.iconst 0) 1 1880 := ⟨dL_law__1879, rfl⟩
theorem dL_law__1880 : decode cL_law_ 1880 = .ok (.ireturn, 1) := by decide +kernel
theorem eL_law__1880 : zD KL_law_ 1880 (.ireturn) 1 1881 := ⟨dL_law__1880, rfl⟩
theorem dL_law__1881 : decode cL_law_ 1881 = .ok (.aload_n 1, 1) := by decide +kernel
theorem eL_law__1881 : zD KL_law_ 1881 (.aload_n 1) 1 1882 := ⟨dL_law__1881, rfl⟩
theorem dL_law__1882 : decode cL_law_ 1882 = .ok (.aload_n 0, 1) := by decide +kernel
theorem eL_law__1882 : zD KL_law_ 1882 (.aload_n 0) 1 1883 := ⟨dL_law__1882, rfl⟩
theorem dL_law__1883 : decode cL_law_ 1883 = .ok (.iload 4, 2) := by decide +kernel
theorem eL_law__1883 : zD KL_law_ 1883 (.iload 4) 2 1885 := ⟨dL_law__1883, rfl⟩
theorem dL_law__1885 : decode cL_law_ 1885 = .ok (.iconst 1, 1) := by decide +kernel
theorem eL_law__1885 : zD KL_law_ 1885 (.iconst 1) 1 1886 := ⟨dL_law__1885, rfl⟩
theorem dL_law__1886 : decode cL_law_ 1886 = .ok (.iadd, 1) := by decide +kernel
theorem eL_law__1886 : zD KL_law_ 1886 (.iadd) 1 1887 := ⟨dL_law__1886, rfl⟩
theorem dL_law__1887 : decode cL_law_ 1887 = .ok (.iaload, 1) := by decide +kernel
theorem eL_law__1887 : zD KL_law_ 1887 (.iaload) 1 1888 := ⟨dL_law__1887, rfl⟩
theorem dL_law__1888 : decode cL_law_ 1888 = .ok (.aload_n 3, 1) := by decide +kernel
theorem eL_law__1888 : zD KL_law_ 1888 (.aload_n 3) 1 1889 := ⟨dL_law__1888, rfl⟩
theorem dL_law__1889 : decode cL_law_ 1889 = .ok (.invokestatic 248, 3) := by decide +kernel
theorem eL_law__1889 : zD KL_law_ 1889 (.invokestatic 248) 3 1892 := ⟨dL_law__1889, rfl⟩
theorem dL_law__1892 : decode cL_law_ 1892 = .ok (.istore 5, 2) := by decide +kernel
theorem eL_law__1892 : zD KL_law_ 1892 (.istore 5) 2 1894 := ⟨dL_law__1892, rfl⟩
theorem dL_law__1894 : decode cL_law_ 1894 = .ok (.aload_n 2, 1) := by decide +kernel
theorem eL_law__1894 : zD KL_law_ 1894 (.aload_n 2) 1 1895 := ⟨dL_law__1894, rfl⟩
theorem dL_law__1895 : decode cL_law_ 1895 = .ok (.aload_n 0, 1) := by decide +kernel
theorem eL_law__1895 : zD KL_law_ 1895 (.aload_n 0) 1 1896 := ⟨dL_law__1895, rfl⟩
theorem dL_law__1896 : decode cL_law_ 1896 = .ok (.iload 4, 2) := by decide +kernel
theorem eL_law__1896 : zD KL_law_ 1896 (.iload 4) 2 1898 := ⟨dL_law__1896, rfl⟩
theorem dL_law__1898 : decode cL_law_ 1898 = .ok (.iconst 1, 1) := by decide +kernel
theorem eL_law__1898 : zD KL_law_ 1898 (.iconst 1) 1 1899 := ⟨dL_law__1898, rfl⟩
theorem dL_law__1899 : decode cL_law_ 1899 = .ok (.iadd, 1) := by decide +kernel
theorem eL_law__1899 : zD KL_law_ 1899 (.iadd) 1 1900 := ⟨dL_law__1899, rfl⟩
theorem dL_law__1900 : decode cL_law_ 1900 = .ok (.iaload, 1) := by decide +kernel
theorem eL_law__1900 : zD KL_law_ 1900 (.iaload) 1 1901 := ⟨dL_law__1900, rfl⟩
theorem dL_law__1901 : decode cL_law_ 1901 = .ok (.invokevirtual 250, 3) := by decide +kernel
theorem eL_law__1901 : zD KL_law_ 1901 (.invokevirtual 250) 3 1904 := ⟨dL_law__1901, rfl⟩
theorem dL_law__1904 : decode cL_law_ 1904 = .ok (.istore 6, 2) := by decide +kernel
theorem eL_law__1904 : zD KL_law_ 1904 (.istore 6) 2 1906 := ⟨dL_law__1904, rfl⟩
theorem dL_law__1906 : decode cL_law_ 1906 = .ok (.aload_n 2, 1) := by decide +kernel
theorem eL_law__1906 : zD KL_law_ 1906 (.aload_n 2) 1 1907 := ⟨dL_law__1906, rfl⟩
theorem dL_law__1907 : decode cL_law_ 1907 = .ok (.invokevirtual 170, 3) := by decide +kernel
theorem eL_law__1907 : zD KL_law_ 1907 (.invokevirtual 170) 3 1910 := ⟨dL_law__1907, rfl⟩
theorem dL_law__1910 : decode cL_law_ 1910 = .ok (.iload 5, 2) := by decide +kernel
theorem eL_law__1910 : zD KL_law_ 1910 (.iload 5) 2 1912 := ⟨dL_law__1910, rfl⟩
theorem dL_law__1912 : decode cL_law_ 1912 = .ok (.if_icmp .eq 5, 3) := by decide +kernel
theorem eL_law__1912 : zD KL_law_ 1912 (.if_icmp .eq 5) 3 1915 := ⟨dL_law__1912, rfl⟩
theorem dL_law__1915 : decode cL_law_ 1915 = .ok (.iconst 0, 1) := by decide +kernel
theorem eL_law__1915 : zD KL_law_ 1915 (.iconst 0) 1 1916 := ⟨dL_law__1915, rfl⟩
theorem dL_law__1916 : decode cL_law_ 1916 = .ok (.ireturn, 1) := by decide +kernel
theorem eL_law__1916 : zD KL_law_ 1916 (.ireturn) 1 1917 := ⟨dL_law__1916, rfl⟩
theorem dL_law__1917 : decode cL_law_ 1917 = .ok (.iload 5, 2) := by decide +kernel
theorem eL_law__1917 : zD KL_law_ 1917 (.iload 5) 2 1919 := ⟨dL_law__1917, rfl⟩
theorem dL_law__1919 : decode cL_law_ 1919 = .ok (.ifCond .ne 15, 3) := by decide +kernel
theorem eL_law__1919 : zD KL_law_ 1919 (.ifCond .ne 15) 3 1922 := ⟨dL_law__1919, rfl⟩
theorem dL_law__1922 : decode cL_law_ 1922 = .ok (.aload_n 3, 1) := by decide +kernel
theorem eL_law__1922 : zD KL_law_ 1922 (.aload_n 3) 1 1923 := ⟨dL_law__1922, rfl⟩
theorem dL_law__1923 : decode cL_law_ 1923 = .ok (.iconst 0, 1) := by decide +kernel
theorem eL_law__1923 : zD KL_law_ 1923 (.iconst 0) 1 1924 := ⟨dL_law__1923, rfl⟩
theorem dL_law__1924 : decode cL_law_ 1924 = .ok (.laload, 1) := by decide +kernel
theorem eL_law__1924 : zD KL_law_ 1924 (.laload) 1 1925 := ⟨dL_law__1924, rfl⟩
theorem dL_law__1925 : decode cL_law_ 1925 = .ok (.iload 6, 2) := by decide +kernel
theorem eL_law__1925 : zD KL_law_ 1925 (.iload 6) 2 1927 := ⟨dL_law__1925, rfl⟩
theorem dL_law__1927 : decode cL_law_ 1927 = .ok (.i2l, 1) := by decide +kernel
theorem eL_law__1927 : zD KL_law_ 1927 (.i2l) 1 1928 := ⟨dL_law__1927, rfl⟩
theorem dL_law__1928 : decode cL_law_ 1928 = .ok (.lcmp, 1) := by decide +kernel
theorem eL_law__1928 : zD KL_law_ 1928 (.lcmp) 1 1929 := ⟨dL_law__1928, rfl⟩
theorem dL_law__1929 : decode cL_law_ 1929 = .ok (.ifCond .eq 5, 3) := by decide +kernel
theorem eL_law__1929 : zD KL_law_ 1929 (.ifCond .eq 5) 3 1932 := ⟨dL_law__1929, rfl⟩
theorem dL_law__1932 : decode cL_law_ 1932 = .ok (.iconst 0, 1) := by decide +kernel
theorem eL_law__1932 : zD KL_law_ 1932 (.iconst 0) 1 1933 := ⟨dL_law__1932, rfl⟩
theorem dL_law__1933 : decode cL_law_ 1933 = .ok (.ireturn, 1) := by decide +kernel
theorem eL_law__1933 : zD KL_law_ 1933 (.ireturn) 1 1934 := ⟨dL_law__1933, rfl⟩
theorem dL_law__1934 : decode cL_law_ 1934 = .ok (.goto 1418, 3) := by decide +kernel
theorem eL_law__1934 : zD KL_law_ 1934 (.goto 1418) 3 1937 := ⟨dL_law__1934, rfl⟩
theorem dL_law__1937 : decode cL_law_ 1937 = .ok (.aload_n 1, 1) := by decide +kernel
theorem eL_law__1937 : zD KL_law_ 1937 (.aload_n 1) 1 1938 := ⟨dL_law__1937, rfl⟩
theorem dL_law__1938 : decode cL_law_ 1938 = .ok (.aload_n 0, 1) := by decide +kernel
theorem eL_law__1938 : zD KL_law_ 1938 (.aload_n 0) 1 1939 := ⟨dL_law__1938, rfl⟩
theorem dL_law__1939 : decode cL_law_ 1939 = .ok (.iload 4, 2) := by decide +kernel
theorem eL_law__1939 : zD KL_law_ 1939 (.iload 4) 2 1941 := ⟨dL_law__1939, rfl⟩
theorem dL_law__1941 : decode cL_law_ 1941 = .ok (.iconst 1, 1) := by decide +kernel
theorem eL_law__1941 : zD KL_law_ 1941 (.iconst 1) 1 1942 := ⟨dL_law__1941, rfl⟩
theorem dL_law__1942 : decode cL_law_ 1942 = .ok (.iadd, 1) := by decide +kernel
theorem eL_law__1942 : zD KL_law_ 1942 (.iadd) 1 1943 := ⟨dL_law__1942, rfl⟩
theorem dL_law__1943 : decode cL_law_ 1943 = .ok (.iaload, 1) := by decide +kernel
theorem eL_law__1943 : zD KL_law_ 1943 (.iaload) 1 1944 := ⟨dL_law__1943, rfl⟩
theorem dL_law__1944 : decode cL_law_ 1944 = .ok (.aload_n 0, 1) := by decide +kernel
theorem eL_law__1944 : zD KL_law_ 1944 (.aload_n 0) 1 1945 := ⟨dL_law__1944, rfl⟩
theorem dL_law__1945 : decode cL_law_ 1945 = .ok (.iload 4, 2) := by decide +kernel
theorem eL_law__1945 : zD KL_law_ 1945 (.iload 4) 2 1947 := ⟨dL_law__1945, rfl⟩
theorem dL_law__1947 : decode cL_law_ 1947 = .ok (.iconst 2, 1) := by decide +kernel
theorem eL_law__1947 : zD KL_law_ 1947 (.iconst 2) 1 1948 := ⟨dL_law__1947, rfl⟩
theorem dL_law__1948 : decode cL_law_ 1948 = .ok (.iadd, 1) := by decide +kernel
theorem eL_law__1948 : zD KL_law_ 1948 (.iadd) 1 1949 := ⟨dL_law__1948, rfl⟩
theorem dL_law__1949 : decode cL_law_ 1949 = .ok (.iaload, 1) := by decide +kernel
theorem eL_law__1949 : zD KL_law_ 1949 (.iaload) 1 1950 := ⟨dL_law__1949, rfl⟩
theorem dL_law__1950 : decode cL_law_ 1950 = .ok (.ifCond .eq 7, 3) := by decide +kernel
theorem eL_law__1950 : zD KL_law_ 1950 (.ifCond .eq 7) 3 1953 := ⟨dL_law__1950, rfl⟩
theorem dL_law__1953 : decode cL_law_ 1953 = .ok (.iconst 1, 1) := by decide +kernel
theorem eL_law__1953 : zD KL_law_ 1953 (.iconst 1) 1 1954 := ⟨dL_law__1953, rfl⟩
theorem dL_law__1954 : decode cL_law_ 1954 = .ok (.goto 4, 3) := by decide +kernel
theorem eL_law__1954 : zD KL_law_ 1954 (.goto 4) 3 1957 := ⟨dL_law__1954, rfl⟩
theorem dL_law__1957 : decode cL_law_ 1957 = .ok (.iconst 0, 1) := by decide +kernel
theorem eL_law__1957 : zD KL_law_ 1957 (.iconst 0) 1 1958 := ⟨dL_law__1957, rfl⟩
theorem dL_law__1958 : decode cL_law_ 1958 = .ok (.aload_n 3, 1) := by decide +kernel
theorem eL_law__1958 : zD KL_law_ 1958 (.aload_n 3) 1 1959 := ⟨dL_law__1958, rfl⟩
theorem dL_law__1959 : decode cL_law_ 1959 = .ok (.invokestatic 251, 3) := by decide +kernel
theorem eL_law__1959 : zD KL_law_ 1959 (.invokestatic 251) 3 1962 := ⟨dL_law__1959, rfl⟩
theorem dL_law__1962 : decode cL_law_ 1962 = .ok (.istore 5, 2) := by decide +kernel
theorem eL_law__1962 : zD KL_law_ 1962 (.istore 5) 2 1964 := ⟨dL_law__1962, rfl⟩
theorem dL_law__1964 : decode cL_law_ 1964 = .ok (.aload_n 2, 1) := by decide +kernel
theorem eL_law__1964 : zD KL_law_ 1964 (.aload_n 2) 1 1965 := ⟨dL_law__1964, rfl⟩
theorem dL_law__1965 : decode cL_law_ 1965 = .ok (.aload_n 0, 1) := by decide +kernel
theorem eL_law__1965 : zD KL_law_ 1965 (.aload_n 0) 1 1966 := ⟨dL_law__1965, rfl⟩
theorem dL_law__1966 : decode cL_law_ 1966 = .ok (.iload 4, 2) := by decide +kernel
theorem eL_law__1966 : zD KL_law_ 1966 (.iload 4) 2 1968 := ⟨dL_law__1966, rfl⟩
theorem dL_law__1968 : decode cL_law_ 1968 = .ok (.iconst 1, 1) := by decide +kernel
theorem eL_law__1968 : zD KL_law_ 1968 (.iconst 1) 1 1969 := ⟨dL_law__1968, rfl⟩
theorem dL_law__1969 : decode cL_law_ 1969 = .ok (.iadd, 1) := by decide +kernel
theorem eL_law__1969 : zD KL_law_ 1969 (.iadd) 1 1970 := ⟨dL_law__1969, rfl⟩
theorem dL_law__1970 : decode cL_law_ 1970 = .ok (.iaload, 1) := by decide +kernel
theorem eL_law__1970 : zD KL_law_ 1970 (.iaload) 1 1971 := ⟨dL_law__1970, rfl⟩
theorem dL_law__1971 : decode cL_law_ 1971 = .ok (.aload_n 0, 1) := by decide +kernel
theorem eL_law__1971 : zD KL_law_ 1971 (.aload_n 0) 1 1972 := ⟨dL_law__1971, rfl⟩
theorem dL_law__1972 : decode cL_law_ 1972 = .ok (.iload 4, 2) := by decide +kernel
theorem eL_law__1972 : zD KL_law_ 1972 (.iload 4) 2 1974 := ⟨dL_law__1972, rfl⟩
theorem dL_law__1974 : decode cL_law_ 1974 = .ok (.iconst 2, 1) := by decide +kernel
theorem eL_law__1974 : zD KL_law_ 1974 (.iconst 2) 1 1975 := ⟨dL_law__1974, rfl⟩
theorem dL_law__1975 : decode cL_law_ 1975 = .ok (.iadd, 1) := by decide +kernel
theorem eL_law__1975 : zD KL_law_ 1975 (.iadd) 1 1976 := ⟨dL_law__1975, rfl⟩
theorem dL_law__1976 : decode cL_law_ 1976 = .ok (.iaload, 1) := by decide +kernel
theorem eL_law__1976 : zD KL_law_ 1976 (.iaload) 1 1977 := ⟨dL_law__1976, rfl⟩
theorem dL_law__1977 : decode cL_law_ 1977 = .ok (.ifCond .eq 7, 3) := by decide +kernel
theorem eL_law__1977 : zD KL_law_ 1977 (.ifCond .eq 7) 3 1980 := ⟨dL_law__1977, rfl⟩
theorem dL_law__1980 : decode cL_law_ 1980 = .ok (.iconst 1, 1) := by decide +kernel
theorem eL_law__1980 : zD KL_law_ 1980 (.iconst 1) 1 1981 := ⟨dL_law__1980, rfl⟩
theorem dL_law__1981 : decode cL_law_ 1981 = .ok (.goto 4, 3) := by decide +kernel
theorem eL_law__1981 : zD KL_law_ 1981 (.goto 4) 3 1984 := ⟨dL_law__1981, rfl⟩
theorem dL_law__1984 : decode cL_law_ 1984 = .ok (.iconst 0, 1) := by decide +kernel
theorem eL_law__1984 : zD KL_law_ 1984 (.iconst 0) 1 1985 := ⟨dL_law__1984, rfl⟩
theorem dL_law__1985 : decode cL_law_ 1985 = .ok (.invokevirtual 253, 3) := by decide +kernel
theorem eL_law__1985 : zD KL_law_ 1985 (.invokevirtual 253) 3 1988 := ⟨dL_law__1985, rfl⟩
theorem dL_law__1988 : decode cL_law_ 1988 = .ok (.istore 6, 2) := by decide +kernel
theorem eL_law__1988 : zD KL_law_ 1988 (.istore 6) 2 1990 := ⟨dL_law__1988, rfl⟩
theorem dL_law__1990 : decode cL_law_ 1990 = .ok (.aload_n 2, 1) := by decide +kernel
theorem eL_law__1990 : zD KL_law_ 1990 (.aload_n 2) 1 1991 := ⟨dL_law__1990, rfl⟩
theorem dL_law__1991 : decode cL_law_ 1991 = .ok (.invokevirtual 170, 3) := by decide +kernel
theorem eL_law__1991 : zD KL_law_ 1991 (.invokevirtual 170) 3 1994 := ⟨dL_law__1991, rfl⟩
theorem dL_law__1994 : decode cL_law_ 1994 = .ok (.iload 5, 2) := by decide +kernel
theorem eL_law__1994 : zD KL_law_ 1994 (.iload 5) 2 1996 := ⟨dL_law__1994, rfl⟩
theorem dL_law__1996 : decode cL_law_ 1996 = .ok (.if_icmp .eq 5, 3) := by decide +kernel
theorem eL_law__1996 : zD KL_law_ 1996 (.if_icmp .eq 5) 3 1999 := ⟨dL_law__1996, rfl⟩
theorem dL_law__1999 : decode cL_law_ 1999 = .ok (.iconst 0, 1) := by decide +kernel
theorem eL_law__1999 : zD KL_law_ 1999 (.iconst 0) 1 2000 := ⟨dL_law__1999, rfl⟩
theorem dL_law__2000 : decode cL_law_ 2000 = .ok (.ireturn, 1) := by decide +kernel
theorem eL_law__2000 : zD KL_law_ 2000 (.ireturn) 1 2001 := ⟨dL_law__2000, rfl⟩
theorem dL_law__2001 : decode cL_law_ 2001 = .ok (.iload 5, 2) := by decide +kernel
theorem eL_law__2001 : zD KL_law_ 2001 (.iload 5) 2 2003 := ⟨dL_law__2001, rfl⟩
theorem dL_law__2003 : decode cL_law_ 2003 = .ok (.ifCond .ne 15, 3) := by decide +kernel
theorem eL_law__2003 : zD KL_law_ 2003 (.ifCond .ne 15) 3 2006 := ⟨dL_law__2003, rfl⟩
theorem dL_law__2006 : decode cL_law_ 2006 = .ok (.aload_n 3, 1) := by decide +kernel
theorem eL_law__2006 : zD KL_law_ 2006 (.aload_n 3) 1 2007 := ⟨dL_law__2006, rfl⟩
theorem dL_law__2007 : decode cL_law_ 2007 = .ok (.iconst 0, 1) := by decide +kernel
theorem eL_law__2007 : zD KL_law_ 2007 (.iconst 0) 1 2008 := ⟨dL_law__2007, rfl⟩
theorem dL_law__2008 : decode cL_law_ 2008 = .ok (.laload, 1) := by decide +kernel
theorem eL_law__2008 : zD KL_law_ 2008 (.laload) 1 2009 := ⟨dL_law__2008, rfl⟩
theorem dL_law__2009 : decode cL_law_ 2009 = .ok (.iload 6, 2) := by decide +kernel
theorem eL_law__2009 : zD KL_law_ 2009 (.iload 6) 2 2011 := ⟨dL_law__2009, rfl⟩
theorem dL_law__2011 : decode cL_law_ 2011 = .ok (.i2l, 1) := by decide +kernel
theorem eL_law__2011 : zD KL_law_ 2011 (.i2l) 1 2012 := ⟨dL_law__2011, rfl⟩
theorem dL_law__2012 : decode cL_law_ 2012 = .ok (.lcmp, 1) := by decide +kernel
theorem eL_law__2012 : zD KL_law_ 2012 (.lcmp) 1 2013 := ⟨dL_law__2012, rfl⟩
theorem dL_law__2013 : decode cL_law_ 2013 = .ok (.ifCond .eq 5, 3) := by decide +kernel
theorem eL_law__2013 : zD KL_law_ 2013 (.ifCond .eq 5) 3 2016 := ⟨dL_law__2013, rfl⟩
theorem dL_law__2016 : decode cL_law_ 2016 = .ok (.iconst 0, 1) := by decide +kernel
theorem eL_law__2016 : zD KL_law_ 2016 (.iconst 0) 1 2017 := ⟨dL_law__2016, rfl⟩
theorem dL_law__2017 : decode cL_law_ 2017 = .ok (.ireturn, 1) := by decide +kernel
theorem eL_law__2017 : zD KL_law_ 2017 (.ireturn) 1 2018 := ⟨dL_law__2017, rfl⟩
theorem dL_law__2018 : decode cL_law_ 2018 = .ok (.goto 1334, 3) := by decide +kernel
theorem eL_law__2018 : zD KL_law_ 2018 (.goto 1334) 3 2021 := ⟨dL_law__2018, rfl⟩
theorem dL_law__2021 : decode cL_law_ 2021 = .ok (.aload_n 1, 1) := by decide +kernel
theorem eL_law__2021 : zD KL_law_ 2021 (.aload_n 1) 1 2022 := ⟨dL_law__2021, rfl⟩
theorem dL_law__2022 : decode cL_law_ 2022 = .ok (.aload_n 0, 1) := by decide +kernel
theorem eL_law__2022 : zD KL_law_ 2022 (.aload_n 0) 1 2023 := ⟨dL_law__2022, rfl⟩
theorem dL_law__2023 : decode cL_law_ 2023 = .ok (.iload 4, 2) := by decide +kernel
theorem eL_law__2023 : zD KL_law_ 2023 (.iload 4) 2 2025 := ⟨dL_law__2023, rfl⟩
theorem dL_law__2025 : decode cL_law_ 2025 = .ok (.iconst 1, 1) := by decide +kernel
theorem eL_law__2025 : zD KL_law_ 2025 (.iconst 1) 1 2026 := ⟨dL_law__2025, rfl⟩
theorem dL_law__2026 : decode cL_law_ 2026 = .ok (.iadd, 1) := by decide +kernel
theorem eL_law__2026 : zD KL_law_ 2026 (.iadd) 1 2027 := ⟨dL_law__2026, rfl⟩
theorem dL_law__2027 : decode cL_law_ 2027 = .ok (.iaload, 1) := by decide +kernel
theorem eL_law__2027 : zD KL_law_ 2027 (.iaload) 1 2028 := ⟨dL_law__2027, rfl⟩
theorem dL_law__2028 : decode cL_law_ 2028 = .ok (.invokevirtual 254, 3) := by decide +kernel
theorem eL_law__2028 : zD KL_law_ 2028 (.invokevirtual 254) 3 2031 := ⟨dL_law__2028, rfl⟩
theorem dL_law__2031 : decode cL_law_ 2031 = .ok (.aload_n 2, 1) := by decide +kernel
theorem eL_law__2031 : zD KL_law_ 2031 (.aload_n 2) 1 2032 := ⟨dL_law__2031, rfl⟩
theorem dL_law__2032 : decode cL_law_ 2032 = .ok (.aload_n 0, 1) := by decide +kernel
theorem eL_law__2032 : zD KL_law_ 2032 (.aload_n 0) 1 2033 := ⟨dL_law__2032, rfl⟩
theorem dL_law__2033 : decode cL_law_ 2033 = .ok (.iload 4, 2) := by decide +kernel
theorem eL_law__2033 : zD KL_law_ 2033 (.iload 4) 2 2035 := ⟨dL_law__2033, rfl⟩
theorem dL_law__2035 : decode cL_law_ 2035 = .ok (.iconst 1, 1) := by decide +kernel
theorem eL_law__2035 : zD KL_law_ 2035 (.iconst 1) 1 2036 := ⟨dL_law__2035, rfl⟩
theorem dL_law__2036 : decode cL_law_ 2036 = .ok (.iadd, 1) := by decide +kernel
theorem eL_law__2036 : zD KL_law_ 2036 (.iadd) 1 2037 := ⟨dL_law__2036, rfl⟩
theorem dL_law__2037 : decode cL_law_ 2037 = .ok (.iaload, 1) := by decide +kernel
theorem eL_law__2037 : zD KL_law_ 2037 (.iaload) 1 2038 := ⟨dL_law__2037, rfl⟩
theorem dL_law__2038 : decode cL_law_ 2038 = .ok (.invokevirtual 257, 3) := by decide +kernel
theorem eL_law__2038 : zD KL_law_ 2038 (.invokevirtual 257) 3 2041 := ⟨dL_law__2038, rfl⟩
theorem dL_law__2041 : decode cL_law_ 2041 = .ok (.if_icmp .eq 1311, 3) := by decide +kernel
theorem eL_law__2041 : zD KL_law_ 2041 (.if_icmp .eq 1311) 3 2044 := ⟨dL_law__2041, rfl⟩
theorem dL_law__2044 : decode cL_law_ 2044 = .ok (.iconst 0, 1) := by decide +kernel
theorem eL_law__2044 : zD KL_law_ 2044 (.iconst 0) 1 2045 := ⟨dL_law__2044, rfl⟩
theorem dL_law__2045 : decode cL_law_ 2045 = .ok (.ireturn, 1) := by decide +kernel
theorem eL_law__2045 : zD KL_law_ 2045 (.ireturn) 1 2046 := ⟨dL_law__2045, rfl⟩
theorem dL_law__2046 : decode cL_law_ 2046 = .ok (.aload_n 1, 1) := by decide +kernel
theorem eL_law__2046 : zD KL_law_ 2046 (.aload_n 1) 1 2047 := ⟨dL_law__2046, rfl⟩
theorem dL_law__2047 : decode cL_law_ 2047 = .ok (.aload_n 0, 1) := by decide +kernel
theorem eL_law__2047 : zD KL_law_ 2047 (.aload_n 0) 1 2048 := ⟨dL_law__2047, rfl⟩
theorem dL_law__2048 : decode cL_law_ 2048 = .ok (.iload 4, 2) := by decide +kernel
theorem eL_law__2048 : zD KL_law_ 2048 (.iload 4) 2 2050 := ⟨dL_law__2048, rfl⟩
theorem dL_law__2050 : decode cL_law_ 2050 = .ok (.iconst 1, 1) := by decide +kernel
theorem eL_law__2050 : zD KL_law_ 2050 (.iconst 1) 1 2051 := ⟨dL_law__2050, rfl⟩
theorem dL_law__2051 : decode cL_law_ 2051 = .ok (.iadd, 1) := by decide +kernel
theorem eL_law__2051 : zD KL_law_ 2051 (.iadd) 1 2052 := ⟨dL_law__2051, rfl⟩
theorem dL_law__2052 : decode cL_law_ 2052 = .ok (.iaload, 1) := by decide +kernel
theorem eL_law__2052 : zD KL_law_ 2052 (.iaload) 1 2053 := ⟨dL_law__2052, rfl⟩
theorem dL_law__2053 : decode cL_law_ 2053 = .ok (.ifCond .eq 7, 3) := by decide +kernel
theorem eL_law__2053 : zD KL_law_ 2053 (.ifCond .eq 7) 3 2056 := ⟨dL_law__2053, rfl⟩
theorem dL_law__2056 : decode cL_law_ 2056 = .ok (.iconst 1, 1) := by decide +kernel
theorem eL_law__2056 : zD KL_law_ 2056 (.iconst 1) 1 2057 := ⟨dL_law__2056, rfl⟩
theorem dL_law__2057 : decode cL_law_ 2057 = .ok (.goto 4, 3) := by decide +kernel
theorem eL_law__2057 : zD KL_law_ 2057 (.goto 4) 3 2060 := ⟨dL_law__2057, rfl⟩
theorem dL_law__2060 : decode cL_law_ 2060 = .ok (.iconst 0, 1) := by decide +kernel
theorem eL_law__2060 : zD KL_law_ 2060 (.iconst 0) 1 2061 := ⟨dL_law__2060, rfl⟩
theorem dL_law__2061 : decode cL_law_ 2061 = .ok (.aload_n 3, 1) := by decide +kernel
theorem eL_law__2061 : zD KL_law_ 2061 (.aload_n 3) 1 2062 := ⟨dL_law__2061, rfl⟩
theorem dL_law__2062 : decode cL_law_ 2062 = .ok (.invokestatic 258, 3) := by decide +kernel
theorem eL_law__2062 : zD KL_law_ 2062 (.invokestatic 258) 3 2065 := ⟨dL_law__2062, rfl⟩
theorem dL_law__2065 : decode cL_law_ 2065 = .ok (.istore 5, 2) := by decide +kernel
theorem eL_law__2065 : zD KL_law_ 2065 (.istore 5) 2 2067 := ⟨dL_law__2065, rfl⟩
theorem dL_law__2067 : decode cL_law_ 2067 = .ok (.aload_n 2, 1) := by decide +kernel
theorem eL_law__2067 : zD KL_law_ 2067 (.aload_n 2) 1 2068 := ⟨dL_law__2067, rfl⟩
theorem dL_law__2068 : decode cL_law_ 2068 = .ok (.aload_n 0, 1) := by decide +kernel
theorem eL_law__2068 : zD KL_law_ 2068 (.aload_n 0) 1 2069 := ⟨dL_law__2068, rfl⟩
theorem dL_law__2069 : decode cL_law_ 2069 = .ok (.iload 4, 2) := by decide +kernel
theorem eL_law__2069 : zD KL_law_ 2069 (.iload 4) 2 2071 := ⟨dL_law__2069, rfl⟩
theorem dL_law__2071 : decode cL_law_ 2071 = .ok (.iconst 1, 1) := by decide +kernel
theorem eL_law__2071 : zD KL_law_ 2071 (.iconst 1) 1 2072 := ⟨dL_law__2071, rfl⟩
theorem dL_law__2072 : decode cL_law_ 2072 = .ok (.iadd, 1) := by decide +kernel
theorem eL_law__2072 : zD KL_law_ 2072 (.iadd) 1 2073 := ⟨dL_law__2072, rfl⟩
theorem dL_law__2073 : decode cL_law_ 2073 = .ok (.iaload, 1) := by decide +kernel
theorem eL_law__2073 : zD KL_law_ 2073 (.iaload) 1 2074 := ⟨dL_law__2073, rfl⟩
theorem dL_law__2074 : decode cL_law_ 2074 = .ok (.ifCond .eq 7, 3) := by decide +kernel
theorem eL_law__2074 : zD KL_law_ 2074 (.ifCond .eq 7) 3 2077 := ⟨dL_law__2074, rfl⟩
theorem dL_law__2077 : decode cL_law_ 2077 = .ok (.iconst 1, 1) := by decide +kernel
theorem eL_law__2077 : zD KL_law_ 2077 (.iconst 1) 1 2078 := ⟨dL_law__2077, rfl⟩
theorem dL_law__2078 : decode cL_law_ 2078 = .ok (.goto 4, 3) := by decide +kernel
theorem eL_law__2078 : zD KL_law_ 2078 (.goto 4) 3 2081 := ⟨dL_law__2078, rfl⟩
theorem dL_law__2081 : decode cL_law_ 2081 = .ok (.iconst 0, 1) := by decide +kernel
theorem eL_law__2081 : zD KL_law_ 2081 (.iconst 0) 1 2082 := ⟨dL_law__2081, rfl⟩
theorem dL_law__2082 : decode cL_law_ 2082 = .ok (.invokevirtual 261, 3) := by decide +kernel
theorem eL_law__2082 : zD KL_law_ 2082 (.invokevirtual 261) 3 2085 := ⟨dL_law__2082, rfl⟩
theorem dL_law__2085 : decode cL_law_ 2085 = .ok (.istore 6, 2) := by decide +kernel
theorem eL_law__2085 : zD KL_law_ 2085 (.istore 6) 2 2087 := ⟨dL_law__2085, rfl⟩
theorem dL_law__2087 : decode cL_law_ 2087 = .ok (.aload_n 2, 1) := by decide +kernel
theorem eL_law__2087 : zD KL_law_ 2087 (.aload_n 2) 1 2088 := ⟨dL_law__2087, rfl⟩
theorem dL_law__2088 : decode cL_law_ 2088 = .ok (.invokevirtual 170, 3) := by decide +kernel
theorem eL_law__2088 : zD KL_law_ 2088 (.invokevirtual 170) 3 2091 := ⟨dL_law__2088, rfl⟩
theorem dL_law__2091 : decode cL_law_ 2091 = .ok (.iload 5, 2) := by decide +kernel
theorem eL_law__2091 : zD KL_law_ 2091 (.iload 5) 2 2093 := ⟨dL_law__2091, rfl⟩
theorem dL_law__2093 : decode cL_law_ 2093 = .ok (.if_icmp .eq 5, 3) := by decide +kernel
theorem eL_law__2093 : zD KL_law_ 2093 (.if_icmp .eq 5) 3 2096 := ⟨dL_law__2093, rfl⟩
theorem dL_law__2096 : decode cL_law_ 2096 = .ok (.iconst 0, 1) := by decide +kernel
theorem eL_law__2096 : zD KL_law_ 2096 (.iconst 0) 1 2097 := ⟨dL_law__2096, rfl⟩
theorem dL_law__2097 : decode cL_law_ 2097 = .ok (.ireturn, 1) := by decide +kernel
theorem eL_law__2097 : zD KL_law_ 2097 (.ireturn) 1 2098 := ⟨dL_law__2097, rfl⟩
theorem dL_law__2098 : decode cL_law_ 2098 = .ok (.iload 5, 2) := by decide +kernel
theorem eL_law__2098 : zD KL_law_ 2098 (.iload 5) 2 2100 := ⟨dL_law__2098, rfl⟩
theorem dL_law__2100 : decode cL_law_ 2100 = .ok (.ifCond .ne 15, 3) := by decide +kernel
theorem eL_law__2100 : zD KL_law_ 2100 (.ifCond .ne 15) 3 2103 := ⟨dL_law__2100, rfl⟩
theorem dL_law__2103 : decode cL_law_ 2103 = .ok (.aload_n 3, 1) := by decide +kernel
theorem eL_law__2103 : zD KL_law_ 2103 (.aload_n 3) 1 2104 := ⟨dL_law__2103, rfl⟩
theorem dL_law__2104 : decode cL_law_ 2104 = .ok (.iconst 0, 1) := by decide +kernel
theorem eL_law__2104 : zD KL_law_ 2104 (.iconst 0) 1 2105 := ⟨dL_law__2104, rfl⟩
theorem dL_law__2105 : decode cL_law_ 2105 = .ok (.laload, 1) := by decide +kernel
theorem eL_law__2105 : zD KL_law_ 2105 (.laload) 1 2106 := ⟨dL_law__2105, rfl⟩
theorem dL_law__2106 : decode cL_law_ 2106 = .ok (.iload 6, 2) := by decide +kernel
theorem eL_law__2106 : zD KL_law_ 2106 (.iload 6) 2 2108 := ⟨dL_law__2106, rfl⟩
theorem dL_law__2108 : decode cL_law_ 2108 = .ok (.i2l, 1) := by decide +kernel
theorem eL_law__2108 : zD KL_law_ 2108 (.i2l) 1 2109 := ⟨dL_law__2108, rfl⟩
theorem dL_law__2109 : decode cL_law_ 2109 = .ok (.lcmp, 1) := by decide +kernel
theorem eL_law__2109 : zD KL_law_ 2109 (.lcmp) 1 2110 := ⟨dL_law__2109, rfl⟩
theorem dL_law__2110 : decode cL_law_ 2110 = .ok (.ifCond .eq 5, 3) := by decide +kernel
theorem eL_law__2110 : zD KL_law_ 2110 (.ifCond .eq 5) 3 2113 := ⟨dL_law__2110, rfl⟩
theorem dL_law__2113 : decode cL_law_ 2113 = .ok (.iconst 0, 1) := by decide +kernel
theorem eL_law__2113 : zD KL_law_ 2113 (.iconst 0) 1 2114 := ⟨dL_law__2113, rfl⟩
theorem dL_law__2114 : decode cL_law_ 2114 = .ok (.ireturn, 1) := by decide +kernel
theorem eL_law__2114 : zD KL_law_ 2114 (.ireturn) 1 2115 := ⟨dL_law__2114, rfl⟩
theorem dL_law__2115 : decode cL_law_ 2115 = .ok (.goto 1237, 3) := by decide +kernel
theorem eL_law__2115 : zD KL_law_ 2115 (.goto 1237) 3 2118 := ⟨dL_law__2115, rfl⟩
theorem dL_law__2118 : decode cL_law_ 2118 = .ok (.aload_n 1, 1) := by decide +kernel
theorem eL_law__2118 : zD KL_law_ 2118 (.aload_n 1) 1 2119 := ⟨dL_law__2118, rfl⟩
theorem dL_law__2119 : decode cL_law_ 2119 = .ok (.aload_n 3, 1) := by decide +kernel
theorem eL_law__2119 : zD KL_law_ 2119 (.aload_n 3) 1 2120 := ⟨dL_law__2119, rfl⟩
theorem dL_law__2120 : decode cL_law_ 2120 = .ok (.invokestatic 262, 3) := by decide +kernel
theorem eL_law__2120 : zD KL_law_ 2120 (.invokestatic 262) 3 2123 := ⟨dL_law__2120, rfl⟩
theorem dL_law__2123 : decode cL_law_ 2123 = .ok (.istore 5, 2) := by decide +kernel
theorem eL_law__2123 : zD KL_law_ 2123 (.istore 5) 2 2125 := ⟨dL_law__2123, rfl⟩
theorem dL_law__2125 : decode cL_law_ 2125 = .ok (.aload_n 2, 1) := by decide +kernel
theorem eL_law__2125 : zD KL_law_ 2125 (.aload_n 2) 1 2126 := ⟨dL_law__2125, rfl⟩
theorem dL_law__2126 : decode cL_law_ 2126 = .ok (.invokevirtual 264, 3) := by decide +kernel
theorem eL_law__2126 : zD KL_law_ 2126 (.invokevirtual 264) 3 2129 := ⟨dL_law__2126, rfl⟩
theorem dL_law__2129 : decode cL_law_ 2129 = .ok (.istore 6, 2) := by decide +kernel
theorem eL_law__2129 : zD KL_law_ 2129 (.istore 6) 2 2131 := ⟨dL_law__2129, rfl⟩
theorem dL_law__2131 : decode cL_law_ 2131 = .ok (.aload_n 2, 1) := by decide +kernel
theorem eL_law__2131 : zD KL_law_ 2131 (.aload_n 2) 1 2132 := ⟨dL_law__2131, rfl⟩
theorem dL_law__2132 : decode cL_law_ 2132 = .ok (.invokevirtual 170, 3) := by decide +kernel
theorem eL_law__2132 : zD KL_law_ 2132 (.invokevirtual 170) 3 2135 := ⟨dL_law__2132, rfl⟩
theorem dL_law__2135 : decode cL_law_ 2135 = .ok (.iload 5, 2) := by decide +kernel
theorem eL_law__2135 : zD KL_law_ 2135 (.iload 5) 2 2137 := ⟨dL_law__2135, rfl⟩
theorem dL_law__2137 : decode cL_law_ 2137 = .ok (.if_icmp .eq 5, 3) := by decide +kernel
theorem eL_law__2137 : zD KL_law_ 2137 (.if_icmp .eq 5) 3 2140 := ⟨dL_law__2137, rfl⟩
theorem dL_law__2140 : decode cL_law_ 2140 = .ok (.iconst 0, 1) := by decide +kernel
theorem eL_law__2140 : zD KL_law_ 2140 (.iconst 0) 1 2141 := ⟨dL_law__2140, rfl⟩
theorem dL_law__2141 : decode cL_law_ 2141 = .ok (.ireturn, 1) := by decide +kernel
theorem eL_law__2141 : zD KL_law_ 2141 (.ireturn) 1 2142 := ⟨dL_law__2141, rfl⟩
theorem dL_law__2142 : decode cL_law_ 2142 = .ok (.iload 5, 2) := by decide +kernel
theorem eL_law__2142 : zD KL_law_ 2142 (.iload 5) 2 2144 := ⟨dL_law__2142, rfl⟩
theorem dL_law__2144 : decode cL_law_ 2144 = .ok (.ifCond .ne 15, 3) := by decide +kernel
theorem eL_law__2144 : zD KL_law_ 2144 (.ifCond .ne 15) 3 2147 := ⟨dL_law__2144, rfl⟩
theorem dL_law__2147 : decode cL_law_ 2147 = .ok (.aload_n 3, 1) := by decide +kernel
theorem eL_law__2147 : zD KL_law_ 2147 (.aload_n 3) 1 2148 := ⟨dL_law__2147, rfl⟩
theorem dL_law__2148 : decode cL_law_ 2148 = .ok (.iconst 0, 1) := by decide +kernel
theorem eL_law__2148 : zD KL_law_ 2148 (.iconst 0) 1 2149 := ⟨dL_law__2148, rfl⟩
theorem dL_law__2149 : decode cL_law_ 2149 = .ok (.laload, 1) := by decide +kernel
theorem eL_law__2149 : zD KL_law_ 2149 (.laload) 1 2150 := ⟨dL_law__2149, rfl⟩
theorem dL_law__2150 : decode cL_law_ 2150 = .ok (.iload 6, 2) := by decide +kernel
theorem eL_law__2150 : zD KL_law_ 2150 (.iload 6) 2 2152 := ⟨dL_law__2150, rfl⟩
theorem dL_law__2152 : decode cL_law_ 2152 = .ok (.i2l, 1) := by decide +kernel
theorem eL_law__2152 : zD KL_law_ 2152 (.i2l) 1 2153 := ⟨dL_law__2152, rfl⟩
theorem dL_law__2153 : decode cL_law_ 2153 = .ok (.lcmp, 1) := by decide +kernel
theorem eL_law__2153 : zD KL_law_ 2153 (.lcmp) 1 2154 := ⟨dL_law__2153, rfl⟩
theorem dL_law__2154 : decode cL_law_ 2154 = .ok (.ifCond .eq 5, 3) := by decide +kernel
theorem eL_law__2154 : zD KL_law_ 2154 (.ifCond .eq 5) 3 2157 := ⟨dL_law__2154, rfl⟩
theorem dL_law__2157 : decode cL_law_ 2157 = .ok (.iconst 0, 1) := by decide +kernel
theorem eL_law__2157 : zD KL_law_ 2157 (.iconst 0) 1 2158 := ⟨dL_law__2157, rfl⟩
theorem dL_law__2158 : decode cL_law_ 2158 = .ok (.ireturn, 1) := by decide +kernel
theorem eL_law__2158 : zD KL_law_ 2158 (.ireturn) 1 2159 := ⟨dL_law__2158, rfl⟩
theorem dL_law__2159 : decode cL_law_ 2159 = .ok (.goto 1193, 3) := by decide +kernel
theorem eL_law__2159 : zD KL_law_ 2159 (.goto 1193) 3 2162 := ⟨dL_law__2159, rfl⟩
theorem dL_law__2162 : decode cL_law_ 2162 = .ok (.aload_n 1, 1) := by decide +kernel
theorem eL_law__2162 : zD KL_law_ 2162 (.aload_n 1) 1 2163 := ⟨dL_law__2162, rfl⟩
theorem dL_law__2163 : decode cL_law_ 2163 = .ok (.aload_n 0, 1) := by decide +kernel
theorem eL_law__2163 : zD KL_law_ 2163 (.aload_n 0) 1 2164 := ⟨dL_law__2163, rfl⟩
theorem dL_law__2164 : decode cL_law_ 2164 = .ok (.iload 4, 2) := by decide +kernel
theorem eL_law__2164 : zD KL_law_ 2164 (.iload 4) 2 2166 := ⟨dL_law__2164, rfl⟩
theorem dL_law__2166 : decode cL_law_ 2166 = .ok (.iconst 1, 1) := by decide +kernel
theorem eL_law__2166 : zD KL_law_ 2166 (.iconst 1) 1 2167 := ⟨dL_law__2166, rfl⟩
theorem dL_law__2167 : decode cL_law_ 2167 = .ok (.iadd, 1) := by decide +kernel
theorem eL_law__2167 : zD KL_law_ 2167 (.iadd) 1 2168 := ⟨dL_law__2167, rfl⟩
theorem dL_law__2168 : decode cL_law_ 2168 = .ok (.iaload, 1) := by decide +kernel
theorem eL_law__2168 : zD KL_law_ 2168 (.iaload) 1 2169 := ⟨dL_law__2168, rfl⟩
theorem dL_law__2169 : decode cL_law_ 2169 = .ok (.aload_n 3, 1) := by decide +kernel
theorem eL_law__2169 : zD KL_law_ 2169 (.aload_n 3) 1 2170 := ⟨dL_law__2169, rfl⟩
theorem dL_law__2170 : decode cL_law_ 2170 = .ok (.invokestatic 265, 3) := by decide +kernel
theorem eL_law__2170 : zD KL_law_ 2170 (.invokestatic 265) 3 2173 := ⟨dL_law__2170, rfl⟩
theorem dL_law__2173 : decode cL_law_ 2173 = .ok (.istore 5, 2) := by decide +kernel
theorem eL_law__2173 : zD KL_law_ 2173 (.istore 5) 2 2175 := ⟨dL_law__2173, rfl⟩
theorem dL_law__2175 : decode cL_law_ 2175 = .ok (.aload_n 2, 1) := by decide +kernel
theorem eL_law__2175 : zD KL_law_ 2175 (.aload_n 2) 1 2176 := ⟨dL_law__2175, rfl⟩
theorem dL_law__2176 : decode cL_law_ 2176 = .ok (.aload_n 0, 1) := by decide +kernel
theorem eL_law__2176 : zD KL_law_ 2176 (.aload_n 0) 1 2177 := ⟨dL_law__2176, rfl⟩
theorem dL_law__2177 : decode cL_law_ 2177 = .ok (.iload 4, 2) := by decide +kernel
theorem eL_law__2177 : zD KL_law_ 2177 (.iload 4) 2 2179 := ⟨dL_law__2177, rfl⟩
theorem dL_law__2179 : decode cL_law_ 2179 = .ok (.iconst 1, 1) := by decide +kernel
theorem eL_law__2179 : zD KL_law_ 2179 (.iconst 1) 1 2180 := ⟨dL_law__2179, rfl⟩
theorem dL_law__2180 : decode cL_law_ 2180 = .ok (.iadd, 1) := by decide +kernel
theorem eL_law__2180 : zD KL_law_ 2180 (.iadd) 1 2181 := ⟨dL_law__2180, rfl⟩
theorem dL_law__2181 : decode cL_law_ 2181 = .ok (.iaload, 1) := by decide +kernel
theorem eL_law__2181 : zD KL_law_ 2181 (.iaload) 1 2182 := ⟨dL_law__2181, rfl⟩
theorem dL_law__2182 : decode cL_law_ 2182 = .ok (.invokevirtual 267, 3) := by decide +kernel
theorem eL_law__2182 : zD KL_law_ 2182 (.invokevirtual 267) 3 2185 := ⟨dL_law__2182, rfl⟩
theorem dL_law__2185 : decode cL_law_ 2185 = .ok (.istore 6, 2) := by decide +kernel
theorem eL_law__2185 : zD KL_law_ 2185 (.istore 6) 2 2187 := ⟨dL_law__2185, rfl⟩
theorem dL_law__2187 : decode cL_law_ 2187 = .ok (.aload_n 2, 1) := by decide +kernel
theorem eL_law__2187 : zD KL_law_ 2187 (.aload_n 2) 1 2188 := ⟨dL_law__2187, rfl⟩
theorem dL_law__2188 : decode cL_law_ 2188 = .ok (.invokevirtual 170, 3) := by decide +kernel
theorem eL_law__2188 : zD KL_law_ 2188 (.invokevirtual 170) 3 2191 := ⟨dL_law__2188, rfl⟩
theorem dL_law__2191 : decode cL_law_ 2191 = .ok (.iload 5, 2) := by decide +kernel
theorem eL_law__2191 : zD KL_law_ 2191 (.iload 5) 2 2193 := ⟨dL_law__2191, rfl⟩
theorem dL_law__2193 : decode cL_law_ 2193 = .ok (.if_icmp .eq 5, 3) := by decide +kernel
theorem eL_law__2193 : zD KL_law_ 2193 (.if_icmp .eq 5) 3 2196 := ⟨dL_law__2193, rfl⟩
theorem dL_law__2196 : decode cL_law_ 2196 = .ok (.iconst 0, 1) := by decide +kernel
theorem eL_law__2196 : zD KL_law_ 2196 (.iconst 0) 1 2197 := ⟨dL_law__2196, rfl⟩
theorem dL_law__2197 : decode cL_law_ 2197 = .ok (.ireturn, 1) := by decide +kernel
theorem eL_law__2197 : zD KL_law_ 2197 (.ireturn) 1 2198 := ⟨dL_law__2197, rfl⟩
theorem dL_law__2198 : decode cL_law_ 2198 = .ok (.iload 5, 2) := by decide +kernel
theorem eL_law__2198 : zD KL_law_ 2198 (.iload 5) 2 2200 := ⟨dL_law__2198, rfl⟩
theorem dL_law__2200 : decode cL_law_ 2200 = .ok (.ifCond .ne 15, 3) := by decide +kernel
theorem eL_law__2200 : zD KL_law_ 2200 (.ifCond .ne 15) 3 2203 := ⟨dL_law__2200, rfl⟩
theorem dL_law__2203 : decode cL_law_ 2203 = .ok (.aload_n 3, 1) := by decide +kernel
theorem eL_law__2203 : zD KL_law_ 2203 (.aload_n 3) 1 2204 := ⟨dL_law__2203, rfl⟩
theorem dL_law__2204 : decode cL_law_ 2204 = .ok (.iconst 0, 1) := by decide +kernel
theorem eL_law__2204 : zD KL_law_ 2204 (.iconst 0) 1 2205 := ⟨dL_law__2204, rfl⟩
theorem dL_law__2205 : decode cL_law_ 2205 = .ok (.laload, 1) := by decide +kernel
theorem eL_law__2205 : zD KL_law_ 2205 (.laload) 1 2206 := ⟨dL_law__2205, rfl⟩
theorem dL_law__2206 : decode cL_law_ 2206 = .ok (.iload 6, 2) := by decide +kernel
theorem eL_law__2206 : zD KL_law_ 2206 (.iload 6) 2 2208 := ⟨dL_law__2206, rfl⟩
theorem dL_law__2208 : decode cL_law_ 2208 = .ok (.i2l, 1) := by decide +kernel
theorem eL_law__2208 : zD KL_law_ 2208 (.i2l) 1 2209 := ⟨dL_law__2208, rfl⟩
theorem dL_law__2209 : decode cL_law_ 2209 = .ok (.lcmp, 1) := by decide +kernel
theorem eL_law__2209 : zD KL_law_ 2209 (.lcmp) 1 2210 := ⟨dL_law__2209, rfl⟩
theorem dL_law__2210 : decode cL_law_ 2210 = .ok (.ifCond .eq 5, 3) := by decide +kernel
theorem eL_law__2210 : zD KL_law_ 2210 (.ifCond .eq 5) 3 2213 := ⟨dL_law__2210, rfl⟩
theorem dL_law__2213 : decode cL_law_ 2213 = .ok (.iconst 0, 1) := by decide +kernel
theorem eL_law__2213 : zD KL_law_ 2213 (.iconst 0) 1 2214 := ⟨dL_law__2213, rfl⟩
theorem dL_law__2214 : decode cL_law_ 2214 = .ok (.ireturn, 1) := by decide +kernel
theorem eL_law__2214 : zD KL_law_ 2214 (.ireturn) 1 2215 := ⟨dL_law__2214, rfl⟩
theorem dL_law__2215 : decode cL_law_ 2215 = .ok (.goto 1137, 3) := by decide +kernel
theorem eL_law__2215 : zD KL_law_ 2215 (.goto 1137) 3 2218 := ⟨dL_law__2215, rfl⟩
theorem dL_law__2218 : decode cL_law_ 2218 = .ok (.aload_n 1, 1) := by decide +kernel
theorem eL_law__2218 : zD KL_law_ 2218 (.aload_n 1) 1 2219 := ⟨dL_law__2218, rfl⟩
theorem dL_law__2219 : decode cL_law_ 2219 = .ok (.aload_n 3, 1) := by decide +kernel
theorem eL_law__2219 : zD KL_law_ 2219 (.aload_n 3) 1 2220 := ⟨dL_law__2219, rfl⟩
theorem dL_law__2220 : decode cL_law_ 2220 = .ok (.invokestatic 268, 3) := by decide +kernel
theorem eL_law__2220 : zD KL_law_ 2220 (.invokestatic 268) 3 2223 := ⟨dL_law__2220, rfl⟩
theorem dL_law__2223 : decode cL_law_ 2223 = .ok (.istore 5, 2) := by decide +kernel
theorem eL_law__2223 : zD KL_law_ 2223 (.istore 5) 2 2225 := ⟨dL_law__2223, rfl⟩
theorem dL_law__2225 : decode cL_law_ 2225 = .ok (.aload_n 2, 1) := by decide +kernel
theorem eL_law__2225 : zD KL_law_ 2225 (.aload_n 2) 1 2226 := ⟨dL_law__2225, rfl⟩
theorem dL_law__2226 : decode cL_law_ 2226 = .ok (.invokevirtual 270, 3) := by decide +kernel
theorem eL_law__2226 : zD KL_law_ 2226 (.invokevirtual 270) 3 2229 := ⟨dL_law__2226, rfl⟩
theorem dL_law__2229 : decode cL_law_ 2229 = .ok (.istore 6, 2) := by decide +kernel
theorem eL_law__2229 : zD KL_law_ 2229 (.istore 6) 2 2231 := ⟨dL_law__2229, rfl⟩
theorem dL_law__2231 : decode cL_law_ 2231 = .ok (.aload_n 2, 1) := by decide +kernel
theorem eL_law__2231 : zD KL_law_ 2231 (.aload_n 2) 1 2232 := ⟨dL_law__2231, rfl⟩
theorem dL_law__2232 : decode cL_law_ 2232 = .ok (.invokevirtual 170, 3) := by decide +kernel
theorem eL_law__2232 : zD KL_law_ 2232 (.invokevirtual 170) 3 2235 := ⟨dL_law__2232, rfl⟩
theorem dL_law__2235 : decode cL_law_ 2235 = .ok (.iload 5, 2) := by decide +kernel
theorem eL_law__2235 : zD KL_law_ 2235 (.iload 5) 2 2237 := ⟨dL_law__2235, rfl⟩
theorem dL_law__2237 : decode cL_law_ 2237 = .ok (.if_icmp .eq 5, 3) := by decide +kernel
theorem eL_law__2237 : zD KL_law_ 2237 (.if_icmp .eq 5) 3 2240 := ⟨dL_law__2237, rfl⟩
theorem dL_law__2240 : decode cL_law_ 2240 = .ok (.iconst 0, 1) := by decide +kernel
theorem eL_law__2240 : zD KL_law_ 2240 (.iconst 0) 1 2241 := ⟨dL_law__2240, rfl⟩
theorem dL_law__2241 : decode cL_law_ 2241 = .ok (.ireturn, 1) := by decide +kernel
theorem eL_law__2241 : zD KL_law_ 2241 (.ireturn) 1 2242 := ⟨dL_law__2241, rfl⟩
theorem dL_law__2242 : decode cL_law_ 2242 = .ok (.iload 5, 2) := by decide +kernel
theorem eL_law__2242 : zD KL_law_ 2242 (.iload 5) 2 2244 := ⟨dL_law__2242, rfl⟩
theorem dL_law__2244 : decode cL_law_ 2244 = .ok (.ifCond .ne 15, 3) := by decide +kernel
theorem eL_law__2244 : zD KL_law_ 2244 (.ifCond .ne 15) 3 2247 := ⟨dL_law__2244, rfl⟩
theorem dL_law__2247 : decode cL_law_ 2247 = .ok (.aload_n 3, 1) := by decide +kernel
theorem eL_law__2247 : zD KL_law_ 2247 (.aload_n 3) 1 2248 := ⟨dL_law__2247, rfl⟩
theorem dL_law__2248 : decode cL_law_ 2248 = .ok (.iconst 0, 1) := by decide +kernel
theorem eL_law__2248 : zD KL_law_ 2248 (.iconst 0) 1 2249 := ⟨dL_law__2248, rfl⟩
theorem dL_law__2249 : decode cL_law_ 2249 = .ok (.laload, 1) := by decide +kernel
theorem eL_law__2249 : zD KL_law_ 2249 (.laload) 1 2250 := ⟨dL_law__2249, rfl⟩
theorem dL_law__2250 : decode cL_law_ 2250 = .ok (.iload 6, 2) := by decide +kernel
theorem eL_law__2250 : zD KL_law_ 2250 (.iload 6) 2 2252 := ⟨dL_law__2250, rfl⟩
theorem dL_law__2252 : decode cL_law_ 2252 = .ok (.i2l, 1) := by decide +kernel
theorem eL_law__2252 : zD KL_law_ 2252 (.i2l) 1 2253 := ⟨dL_law__2252, rfl⟩
theorem dL_law__2253 : decode cL_law_ 2253 = .ok (.lcmp, 1) := by decide +kernel
theorem eL_law__2253 : zD KL_law_ 2253 (.lcmp) 1 2254 := ⟨dL_law__2253, rfl⟩
theorem dL_law__2254 : decode cL_law_ 2254 = .ok (.ifCond .eq 5, 3) := by decide +kernel
theorem eL_law__2254 : zD KL_law_ 2254 (.ifCond .eq 5) 3 2257 := ⟨dL_law__2254, rfl⟩
theorem dL_law__2257 : decode cL_law_ 2257 = .ok (.iconst 0, 1) := by decide +kernel
theorem eL_law__2257 : zD KL_law_ 2257 (.iconst 0) 1 2258 := ⟨dL_law__2257, rfl⟩
theorem dL_law__2258 : decode cL_law_ 2258 = .ok (.ireturn, 1) := by decide +kernel
theorem eL_law__2258 : zD KL_law_ 2258 (.ireturn) 1 2259 := ⟨dL_law__2258, rfl⟩
theorem dL_law__2259 : decode cL_law_ 2259 = .ok (.goto 1093, 3) := by decide +kernel
theorem eL_law__2259 : zD KL_law_ 2259 (.goto 1093) 3 2262 := ⟨dL_law__2259, rfl⟩
theorem dL_law__2262 : decode cL_law_ 2262 = .ok (.aload_n 1, 1) := by decide +kernel
theorem eL_law__2262 : zD KL_law_ 2262 (.aload_n 1) 1 2263 := ⟨dL_law__2262, rfl⟩
theorem dL_law__2263 : decode cL_law_ 2263 = .ok (.invokevirtual 271, 3) := by decide +kernel
theorem eL_law__2263 : zD KL_law_ 2263 (.invokevirtual 271) 3 2266 := ⟨dL_law__2263, rfl⟩
theorem dL_law__2266 : decode cL_law_ 2266 = .ok (.aload_n 2, 1) := by decide +kernel
theorem eL_law__2266 : zD KL_law_ 2266 (.aload_n 2) 1 2267 := ⟨dL_law__2266, rfl⟩
theorem dL_law__2267 : decode cL_law_ 2267 = .ok (.invokevirtual 274, 3) := by decide +kernel
theorem eL_law__2267 : zD KL_law_ 2267 (.invokevirtual 274) 3 2270 := ⟨dL_law__2267, rfl⟩
theorem dL_law__2270 : decode cL_law_ 2270 = .ok (.if_icmp .eq 1082, 3) := by decide +kernel
theorem eL_law__2270 : zD KL_law_ 2270 (.if_icmp .eq 1082) 3 2273 := ⟨dL_law__2270, rfl⟩
theorem dL_law__2273 : decode cL_law_ 2273 = .ok (.iconst 0, 1) := by decide +kernel
theorem eL_law__2273 : zD KL_law_ 2273 (.iconst 0) 1 2274 := ⟨dL_law__2273, rfl⟩
theorem dL_law__2274 : decode cL_law_ 2274 = .ok (.ireturn, 1) := by decide +kernel
theorem eL_law__2274 : zD KL_law_ 2274 (.ireturn) 1 2275 := ⟨dL_law__2274, rfl⟩
theorem dL_law__2275 : decode cL_law_ 2275 = .ok (.aload_n 1, 1) := by decide +kernel
theorem eL_law__2275 : zD KL_law_ 2275 (.aload_n 1) 1 2276 := ⟨dL_law__2275, rfl⟩
theorem dL_law__2276 : decode cL_law_ 2276 = .ok (.aload_n 0, 1) := by decide +kernel
theorem eL_law__2276 : zD KL_law_ 2276 (.aload_n 0) 1 2277 := ⟨dL_law__2276, rfl⟩
theorem dL_law__2277 : decode cL_law_ 2277 = .ok (.iload 4, 2) := by decide +kernel
theorem eL_law__2277 : zD KL_law_ 2277 (.iload 4) 2 2279 := ⟨dL_law__2277, rfl⟩
theorem dL_law__2279 : decode cL_law_ 2279 = .ok (.iconst 1, 1) := by decide +kernel
theorem eL_law__2279 : zD KL_law_ 2279 (.iconst 1) 1 2280 := ⟨dL_law__2279, rfl⟩
theorem dL_law__2280 : decode cL_law_ 2280 = .ok (.iadd, 1) := by decide +kernel
theorem eL_law__2280 : zD KL_law_ 2280 (.iadd) 1 2281 := ⟨dL_law__2280, rfl⟩
theorem dL_law__2281 : decode cL_law_ 2281 = .ok (.iaload, 1) := by decide +kernel
theorem eL_law__2281 : zD KL_law_ 2281 (.iaload) 1 2282 := ⟨dL_law__2281, rfl⟩
theorem dL_law__2282 : decode cL_law_ 2282 = .ok (.aload_n 3, 1) := by decide +kernel
theorem eL_law__2282 : zD KL_law_ 2282 (.aload_n 3) 1 2283 := ⟨dL_law__2282, rfl⟩
theorem dL_law__2283 : decode cL_law_ 2283 = .ok (.invokestatic 275, 3) := by decide +kernel
theorem eL_law__2283 : zD KL_law_ 2283 (.invokestatic 275) 3 2286 := ⟨dL_law__2283, rfl⟩
theorem dL_law__2286 : decode cL_law_ 2286 = .ok (.istore 5, 2) := by decide +kernel
theorem eL_law__2286 : zD KL_law_ 2286 (.istore 5) 2 2288 := ⟨dL_law__2286, rfl⟩
theorem dL_law__2288 : decode cL_law_ 2288 = .ok (.aload_n 2, 1) := by decide +kernel
theorem eL_law__2288 : zD KL_law_ 2288 (.aload_n 2) 1 2289 := ⟨dL_law__2288, rfl⟩
theorem dL_law__2289 : decode cL_law_ 2289 = .ok (.aload_n 0, 1) := by decide +kernel
theorem eL_law__2289 : zD KL_law_ 2289 (.aload_n 0) 1 2290 := ⟨dL_law__2289, rfl⟩
theorem dL_law__2290 : decode cL_law_ 2290 = .ok (.iload 4, 2) := by decide +kernel
theorem eL_law__2290 : zD KL_law_ 2290 (.iload 4) 2 2292 := ⟨dL_law__2290, rfl⟩
theorem dL_law__2292 : decode cL_law_ 2292 = .ok (.iconst 1, 1) := by decide +kernel
theorem eL_law__2292 : zD KL_law_ 2292 (.iconst 1) 1 2293 := ⟨dL_law__2292, rfl⟩
theorem dL_law__2293 : decode cL_law_ 2293 = .ok (.iadd, 1) := by decide +kernel
theorem eL_law__2293 : zD KL_law_ 2293 (.iadd) 1 2294 := ⟨dL_law__2293, rfl⟩
theorem dL_law__2294 : decode cL_law_ 2294 = .ok (.iaload, 1) := by decide +kernel
theorem eL_law__2294 : zD KL_law_ 2294 (.iaload) 1 2295 := ⟨dL_law__2294, rfl⟩
theorem dL_law__2295 : decode cL_law_ 2295 = .ok (.invokevirtual 277, 3) := by decide +kernel
theorem eL_law__2295 : zD KL_law_ 2295 (.invokevirtual 277) 3 2298 := ⟨dL_law__2295, rfl⟩
theorem dL_law__2298 : decode cL_law_ 2298 = .ok (.istore 6, 2) := by decide +kernel
theorem eL_law__2298 : zD KL_law_ 2298 (.istore 6) 2 2300 := ⟨dL_law__2298, rfl⟩
theorem dL_law__2300 : decode cL_law_ 2300 = .ok (.aload_n 2, 1) := by decide +kernel
theorem eL_law__2300 : zD KL_law_ 2300 (.aload_n 2) 1 2301 := ⟨dL_law__2300, rfl⟩
theorem dL_law__2301 : decode cL_law_ 2301 = .ok (.invokevirtual 170, 3) := by decide +kernel
theorem eL_law__2301 : zD KL_law_ 2301 (.invokevirtual 170) 3 2304 := ⟨dL_law__2301, rfl⟩
theorem dL_law__2304 : decode cL_law_ 2304 = .ok (.iload 5, 2) := by decide +kernel
theorem eL_law__2304 : zD KL_law_ 2304 (.iload 5) 2 2306 := ⟨dL_law__2304, rfl⟩
theorem dL_law__2306 : decode cL_law_ 2306 = .ok (.if_icmp .eq 5, 3) := by decide +kernel
theorem eL_law__2306 : zD KL_law_ 2306 (.if_icmp .eq 5) 3 2309 := ⟨dL_law__2306, rfl⟩
theorem dL_law__2309 : decode cL_law_ 2309 = .ok (.iconst 0, 1) := by decide +kernel
theorem eL_law__2309 : zD KL_law_ 2309 (.iconst 0) 1 2310 := ⟨dL_law__2309, rfl⟩
theorem dL_law__2310 : decode cL_law_ 2310 = .ok (.ireturn, 1) := by decide +kernel
theorem eL_law__2310 : zD KL_law_ 2310 (.ireturn) 1 2311 := ⟨dL_law__2310, rfl⟩
theorem dL_law__2311 : decode cL_law_ 2311 = .ok (.iload 5, 2) := by decide +kernel
theorem eL_law__2311 : zD KL_law_ 2311 (.iload 5) 2 2313 := ⟨dL_law__2311, rfl⟩
theorem dL_law__2313 : decode cL_law_ 2313 = .ok (.ifCond .ne 15, 3) := by decide +kernel
theorem eL_law__2313 : zD KL_law_ 2313 (.ifCond .ne 15) 3 2316 := ⟨dL_law__2313, rfl⟩
theorem dL_law__2316 : decode cL_law_ 2316 = .ok (.aload_n 3, 1) := by decide +kernel
theorem eL_law__2316 : zD KL_law_ 2316 (.aload_n 3) 1 2317 := ⟨dL_law__2316, rfl⟩
theorem dL_law__2317 : decode cL_law_ 2317 = .ok (.iconst 0, 1) := by decide +kernel
theorem eL_law__2317 : zD KL_law_ 2317 (.iconst 0) 1 2318 := ⟨dL_law__2317, rfl⟩
theorem dL_law__2318 : decode cL_law_ 2318 = .ok (.laload, 1) := by decide +kernel
theorem eL_law__2318 : zD KL_law_ 2318 (.laload) 1 2319 := ⟨dL_law__2318, rfl⟩
theorem dL_law__2319 : decode cL_law_ 2319 = .ok (.iload 6, 2) := by decide +kernel
theorem eL_law__2319 : zD KL_law_ 2319 (.iload 6) 2 2321 := ⟨dL_law__2319, rfl⟩
theorem dL_law__2321 : decode cL_law_ 2321 = .ok (.i2l, 1) := by decide +kernel
theorem eL_law__2321 : zD KL_law_ 2321 (.i2l) 1 2322 := ⟨dL_law__2321, rfl⟩
theorem dL_law__2322 : decode cL_law_ 2322 = .ok (.lcmp, 1) := by decide +kernel
theorem eL_law__2322 : zD KL_law_ 2322 (.lcmp) 1 2323 := ⟨dL_law__2322, rfl⟩
theorem dL_law__2323 : decode cL_law_ 2323 = .ok (.ifCond .eq 5, 3) := by decide +kernel
theorem eL_law__2323 : zD KL_law_ 2323 (.ifCond .eq 5) 3 2326 := ⟨dL_law__2323, rfl⟩
theorem dL_law__2326 : decode cL_law_ 2326 = .ok (.iconst 0, 1) := by decide +kernel
theorem eL_law__2326 : zD KL_law_ 2326 (.iconst 0) 1 2327 := ⟨dL_law__2326, rfl⟩
theorem dL_law__2327 : decode cL_law_ 2327 = .ok (.ireturn, 1) := by decide +kernel
theorem eL_law__2327 : zD KL_law_ 2327 (.ireturn) 1 2328 := ⟨dL_law__2327, rfl⟩
theorem dL_law__2328 : decode cL_law_ 2328 = .ok (.goto 1024, 3) := by decide +kernel
theorem eL_law__2328 : zD KL_law_ 2328 (.goto 1024) 3 2331 := ⟨dL_law__2328, rfl⟩
theorem dL_law__2331 : decode cL_law_ 2331 = .ok (.aload_n 1, 1) := by decide +kernel
theorem eL_law__2331 : zD KL_law_ 2331 (.aload_n 1) 1 2332 := ⟨dL_law__2331, rfl⟩
theorem dL_law__2332 : decode cL_law_ 2332 = .ok (.aload_n 0, 1) := by decide +kernel
theorem eL_law__2332 : zD KL_law_ 2332 (.aload_n 0) 1 2333 := ⟨dL_law__2332, rfl⟩
theorem dL_law__2333 : decode cL_law_ 2333 = .ok (.iload 4, 2) := by decide +kernel
theorem eL_law__2333 : zD KL_law_ 2333 (.iload 4) 2 2335 := ⟨dL_law__2333, rfl⟩
theorem dL_law__2335 : decode cL_law_ 2335 = .ok (.iconst 1, 1) := by decide +kernel
theorem eL_law__2335 : zD KL_law_ 2335 (.iconst 1) 1 2336 := ⟨dL_law__2335, rfl⟩
theorem dL_law__2336 : decode cL_law_ 2336 = .ok (.iadd, 1) := by decide +kernel
theorem eL_law__2336 : zD KL_law_ 2336 (.iadd) 1 2337 := ⟨dL_law__2336, rfl⟩
theorem dL_law__2337 : decode cL_law_ 2337 = .ok (.iaload, 1) := by decide +kernel
theorem eL_law__2337 : zD KL_law_ 2337 (.iaload) 1 2338 := ⟨dL_law__2337, rfl⟩
theorem dL_law__2338 : decode cL_law_ 2338 = .ok (.invokevirtual 278, 3) := by decide +kernel
theorem eL_law__2338 : zD KL_law_ 2338 (.invokevirtual 278) 3 2341 := ⟨dL_law__2338, rfl⟩
theorem dL_law__2341 : decode cL_law_ 2341 = .ok (.aload_n 2, 1) := by decide +kernel
theorem eL_law__2341 : zD KL_law_ 2341 (.aload_n 2) 1 2342 := ⟨dL_law__2341, rfl⟩
theorem dL_law__2342 : decode cL_law_ 2342 = .ok (.aload_n 0, 1) := by decide +kernel
theorem eL_law__2342 : zD KL_law_ 2342 (.aload_n 0) 1 2343 := ⟨dL_law__2342, rfl⟩
theorem dL_law__2343 : decode cL_law_ 2343 = .ok (.iload 4, 2) := by decide +kernel
theorem eL_law__2343 : zD KL_law_ 2343 (.iload 4) 2 2345 := ⟨dL_law__2343, rfl⟩
theorem dL_law__2345 : decode cL_law_ 2345 = .ok (.iconst 1, 1) := by decide +kernel
theorem eL_law__2345 : zD KL_law_ 2345 (.iconst 1) 1 2346 := ⟨dL_law__2345, rfl⟩
theorem dL_law__2346 : decode cL_law_ 2346 = .ok (.iadd, 1) := by decide +kernel
theorem eL_law__2346 : zD KL_law_ 2346 (.iadd) 1 2347 := ⟨dL_law__2346, rfl⟩
theorem dL_law__2347 : decode cL_law_ 2347 = .ok (.iaload, 1) := by decide +kernel
theorem eL_law__2347 : zD KL_law_ 2347 (.iaload) 1 2348 := ⟨dL_law__2347, rfl⟩
theorem dL_law__2348 : decode cL_law_ 2348 = .ok (.invokevirtual 281, 3) := by decide +kernel
theorem eL_law__2348 : zD KL_law_ 2348 (.invokevirtual 281) 3 2351 := ⟨dL_law__2348, rfl⟩
theorem dL_law__2351 : decode cL_law_ 2351 = .ok (.if_icmp .eq 1001, 3) := by decide +kernel
theorem eL_law__2351 : zD KL_law_ 2351 (.if_icmp .eq 1001) 3 2354 := ⟨dL_law__2351, rfl⟩
theorem dL_law__2354 : decode cL_law_ 2354 = .ok (.iconst 0, 1) := by decide +kernel
theorem eL_law__2354 : zD KL_law_ 2354 (.iconst 0) 1 2355 := ⟨dL_law__2354, rfl⟩
theorem dL_law__2355 : decode cL_law_ 2355 = .ok (.ireturn, 1) := by decide +kernel
theorem eL_law__2355 : zD KL_law_ 2355 (.ireturn) 1 2356 := ⟨dL_law__2355, rfl⟩
theorem dL_law__2356 : decode cL_law_ 2356 = .ok (.aload_n 1, 1) := by decide +kernel
theorem eL_law__2356 : zD KL_law_ 2356 (.aload_n 1) 1 2357 := ⟨dL_law__2356, rfl⟩
theorem dL_law__2357 : decode cL_law_ 2357 = .ok (.aload_n 0, 1) := by decide +kernel
theorem eL_law__2357 : zD KL_law_ 2357 (.aload_n 0) 1 2358 := ⟨dL_law__2357, rfl⟩
theorem dL_law__2358 : decode cL_law_ 2358 = .ok (.iload 4, 2) := by decide +kernel
theorem eL_law__2358 : zD KL_law_ 2358 (.iload 4) 2 2360 := ⟨dL_law__2358, rfl⟩
theorem dL_law__2360 : decode cL_law_ 2360 = .ok (.iconst 1, 1) := by decide +kernel
theorem eL_law__2360 : zD KL_law_ 2360 (.iconst 1) 1 2361 := ⟨dL_law__2360, rfl⟩
theorem dL_law__2361 : decode cL_law_ 2361 = .ok (.iadd, 1) := by decide +kernel
theorem eL_law__2361 : zD KL_law_ 2361 (.iadd) 1 2362 := ⟨dL_law__2361, rfl⟩
theorem dL_law__2362 : decode cL_law_ 2362 = .ok (.iaload, 1) := by decide +kernel
theorem eL_law__2362 : zD KL_law_ 2362 (.iaload) 1 2363 := ⟨dL_law__2362, rfl⟩
theorem dL_law__2363 : decode cL_law_ 2363 = .ok (.aload_n 3, 1) := by decide +kernel
theorem eL_law__2363 : zD KL_law_ 2363 (.aload_n 3) 1 2364 := ⟨dL_law__2363, rfl⟩
theorem dL_law__2364 : decode cL_law_ 2364 = .ok (.invokestatic 282, 3) := by decide +kernel
theorem eL_law__2364 : zD KL_law_ 2364 (.invokestatic 282) 3 2367 := ⟨dL_law__2364, rfl⟩
theorem dL_law__2367 : decode cL_law_ 2367 = .ok (.istore 5, 2) := by decide +kernel
theorem eL_law__2367 : zD KL_law_ 2367 (.istore 5) 2 2369 := ⟨dL_law__2367, rfl⟩
theorem dL_law__2369 : decode cL_law_ 2369 = .ok (.aload_n 2, 1) := by decide +kernel
theorem eL_law__2369 : zD KL_law_ 2369 (.aload_n 2) 1 2370 := ⟨dL_law__2369, rfl⟩
theorem dL_law__2370 : decode cL_law_ 2370 = .ok (.aload_n 0, 1) := by decide +kernel
theorem eL_law__2370 : zD KL_law_ 2370 (.aload_n 0) 1 2371 := ⟨dL_law__2370, rfl⟩
theorem dL_law__2371 : decode cL_law_ 2371 = .ok (.iload 4, 2) := by decide +kernel
theorem eL_law__2371 : zD KL_law_ 2371 (.iload 4) 2 2373 := ⟨dL_law__2371, rfl⟩
theorem dL_law__2373 : decode cL_law_ 2373 = .ok (.iconst 1, 1) := by decide +kernel
theorem eL_law__2373 : zD KL_law_ 2373 (.iconst 1) 1 2374 := ⟨dL_law__2373, rfl⟩
theorem dL_law__2374 : decode cL_law_ 2374 = .ok (.iadd, 1) := by decide +kernel
theorem eL_law__2374 : zD KL_law_ 2374 (.iadd) 1 2375 := ⟨dL_law__2374, rfl⟩
theorem dL_law__2375 : decode cL_law_ 2375 = .ok (.iaload, 1) := by decide +kernel
theorem eL_law__2375 : zD KL_law_ 2375 (.iaload) 1 2376 := ⟨dL_law__2375, rfl⟩
theorem dL_law__2376 : decode cL_law_ 2376 = .ok (.invokevirtual 284, 3) := by decide +kernel
theorem eL_law__2376 : zD KL_law_ 2376 (.invokevirtual 284) 3 2379 := ⟨dL_law__2376, rfl⟩
theorem dL_law__2379 : decode cL_law_ 2379 = .ok (.istore 6, 2) := by decide +kernel
theorem eL_law__2379 : zD KL_law_ 2379 (.istore 6) 2 2381 := ⟨dL_law__2379, rfl⟩
theorem dL_law__2381 : decode cL_law_ 2381 = .ok (.aload_n 2, 1) := by decide +kernel
theorem eL_law__2381 : zD KL_law_ 2381 (.aload_n 2) 1 2382 := ⟨dL_law__2381, rfl⟩
theorem dL_law__2382 : decode cL_law_ 2382 = .ok (.invokevirtual 170, 3) := by decide +kernel
theorem eL_law__2382 : zD KL_law_ 2382 (.invokevirtual 170) 3 2385 := ⟨dL_law__2382, rfl⟩
theorem dL_law__2385 : decode cL_law_ 2385 = .ok (.iload 5, 2) := by decide +kernel
theorem eL_law__2385 : zD KL_law_ 2385 (.iload 5) 2 2387 := ⟨dL_law__2385, rfl⟩
theorem dL_law__2387 : decode cL_law_ 2387 = .ok (.if_icmp .eq 5, 3) := by decide +kernel
theorem eL_law__2387 : zD KL_law_ 2387 (.if_icmp .eq 5) 3 2390 := ⟨dL_law__2387, rfl⟩
theorem dL_law__2390 : decode cL_law_ 2390 = .ok (.iconst 0, 1) := by decide +kernel
theorem eL_law__2390 : zD KL_law_ 2390 (.iconst 0) 1 2391 := ⟨dL_law__2390, rfl⟩
theorem dL_law__2391 : decode cL_law_ 2391 = .ok (.ireturn, 1) := by decide +kernel
theorem eL_law__2391 : zD KL_law_ 2391 (.ireturn) 1 2392 := ⟨dL_law__2391, rfl⟩
theorem dL_law__2392 : decode cL_law_ 2392 = .ok (.iload 5, 2) := by decide +kernel
theorem eL_law__2392 : zD KL_law_ 2392 (.iload 5) 2 2394 := ⟨dL_law__2392, rfl⟩
theorem dL_law__2394 : decode cL_law_ 2394 = .ok (.ifCond .ne 15, 3) := by decide +kernel
theorem eL_law__2394 : zD KL_law_ 2394 (.ifCond .ne 15) 3 2397 := ⟨dL_law__2394, rfl⟩
theorem dL_law__2397 : decode cL_law_ 2397 = .ok (.aload_n 3, 1) := by decide +kernel
theorem eL_law__2397 : zD KL_law_ 2397 (.aload_n 3) 1 2398 := ⟨dL_law__2397, rfl⟩
theorem dL_law__2398 : decode cL_law_ 2398 = .ok (.iconst 0, 1) := by decide +kernel
theorem eL_law__2398 : zD KL_law_ 2398 (.iconst 0) 1 2399 := ⟨dL_law__2398, rfl⟩
theorem dL_law__2399 : decode cL_law_ 2399 = .ok (.laload, 1) := by decide +kernel
theorem eL_law__2399 : zD KL_law_ 2399 (.laload) 1 2400 := ⟨dL_law__2399, rfl⟩
theorem dL_law__2400 : decode cL_law_ 2400 = .ok (.iload 6, 2) := by decide +kernel
theorem eL_law__2400 : zD KL_law_ 2400 (.iload 6) 2 2402 := ⟨dL_law__2400, rfl⟩
theorem dL_law__2402 : decode cL_law_ 2402 = .ok (.i2l, 1) := by decide +kernel
theorem eL_law__2402 : zD KL_law_ 2402 (.i2l) 1 2403 := ⟨dL_law__2402, rfl⟩
theorem dL_law__2403 : decode cL_law_ 2403 = .ok (.lcmp, 1) := by decide +kernel
theorem eL_law__2403 : zD KL_law_ 2403 (.lcmp) 1 2404 := ⟨dL_law__2403, rfl⟩
theorem dL_law__2404 : decode cL_law_ 2404 = .ok (.ifCond .eq 5, 3) := by decide +kernel
theorem eL_law__2404 : zD KL_law_ 2404 (.ifCond .eq 5) 3 2407 := ⟨dL_law__2404, rfl⟩
theorem dL_law__2407 : decode cL_law_ 2407 = .ok (.iconst 0, 1) := by decide +kernel
theorem eL_law__2407 : zD KL_law_ 2407 (.iconst 0) 1 2408 := ⟨dL_law__2407, rfl⟩
theorem dL_law__2408 : decode cL_law_ 2408 = .ok (.ireturn, 1) := by decide +kernel
theorem eL_law__2408 : zD KL_law_ 2408 (.ireturn) 1 2409 := ⟨dL_law__2408, rfl⟩
theorem dL_law__2409 : decode cL_law_ 2409 = .ok (.goto 943, 3) := by decide +kernel
theorem eL_law__2409 : zD KL_law_ 2409 (.goto 943) 3 2412 := ⟨dL_law__2409, rfl⟩
theorem dL_law__2412 : decode cL_law_ 2412 = .ok (.aload_n 1, 1) := by decide +kernel
theorem eL_law__2412 : zD KL_law_ 2412 (.aload_n 1) 1 2413 := ⟨dL_law__2412, rfl⟩
theorem dL_law__2413 : decode cL_law_ 2413 = .ok (.aload_n 0, 1) := by decide +kernel
theorem eL_law__2413 : zD KL_law_ 2413 (.aload_n 0) 1 2414 := ⟨dL_law__2413, rfl⟩
theorem dL_law__2414 : decode cL_law_ 2414 = .ok (.iload 4, 2) := by decide +kernel
theorem eL_law__2414 : zD KL_law_ 2414 (.iload 4) 2 2416 := ⟨dL_law__2414, rfl⟩
theorem dL_law__2416 : decode cL_law_ 2416 = .ok (.iconst 1, 1) := by decide +kernel
theorem eL_law__2416 : zD KL_law_ 2416 (.iconst 1) 1 2417 := ⟨dL_law__2416, rfl⟩
theorem dL_law__2417 : decode cL_law_ 2417 = .ok (.iadd, 1) := by decide +kernel
theorem eL_law__2417 : zD KL_law_ 2417 (.iadd) 1 2418 := ⟨dL_law__2417, rfl⟩
theorem dL_law__2418 : decode cL_law_ 2418 = .ok (.iaload, 1) := by decide +kernel
theorem eL_law__2418 : zD KL_law_ 2418 (.iaload) 1 2419 := ⟨dL_law__2418, rfl⟩
theorem dL_law__2419 : decode cL_law_ 2419 = .ok (.aload_n 3, 1) := by decide +kernel
theorem eL_law__2419 : zD KL_law_ 2419 (.aload_n 3) 1 2420 := ⟨dL_law__2419, rfl⟩
theorem dL_law__2420 : decode cL_law_ 2420 = .ok (.invokestatic 285, 3) := by decide +kernel
theorem eL_law__2420 : zD KL_law_ 2420 (.invokestatic 285) 3 2423 := ⟨dL_law__2420, rfl⟩
theorem dL_law__2423 : decode cL_law_ 2423 = .ok (.istore 5, 2) := by decide +kernel
theorem eL_law__2423 : zD KL_law_ 2423 (.istore 5) 2 2425 := ⟨dL_law__2423, rfl⟩
theorem dL_law__2425 : decode cL_law_ 2425 = .ok (.aload_n 2, 1) := by decide +kernel
theorem eL_law__2425 : zD KL_law_ 2425 (.aload_n 2) 1 2426 := ⟨dL_law__2425, rfl⟩
theorem dL_law__2426 : decode cL_law_ 2426 = .ok (.aload_n 0, 1) := by decide +kernel
theorem eL_law__2426 : zD KL_law_ 2426 (.aload_n 0) 1 2427 := ⟨dL_law__2426, rfl⟩
theorem dL_law__2427 : decode cL_law_ 2427 = .ok (.iload 4, 2) := by decide +kernel
theorem eL_law__2427 : zD KL_law_ 2427 (.iload 4) 2 2429 := ⟨dL_law__2427, rfl⟩
theorem dL_law__2429 : decode cL_law_ 2429 = .ok (.iconst 1, 1) := by decide +kernel
theorem eL_law__2429 : zD KL_law_ 2429 (.iconst 1) 1 2430 := ⟨dL_law__2429, rfl⟩
theorem dL_law__2430 : decode cL_law_ 2430 = .ok (.iadd, 1) := by decide +kernel
theorem eL_law__2430 : zD KL_law_ 2430 (.iadd) 1 2431 := ⟨dL_law__2430, rfl⟩
theorem dL_law__2431 : decode cL_law_ 2431 = .ok (.iaload, 1) := by decide +kernel
theorem eL_law__2431 : zD KL_law_ 2431 (.iaload) 1 2432 := ⟨dL_law__2431, rfl⟩
theorem dL_law__2432 : decode cL_law_ 2432 = .ok (.invokevirtual 287, 3) := by decide +kernel
theorem eL_law__2432 : zD KL_law_ 2432 (.invokevirtual 287) 3 2435 := ⟨dL_law__2432, rfl⟩
theorem dL_law__2435 : decode cL_law_ 2435 = .ok (.istore 6, 2) := by decide +kernel
theorem eL_law__2435 : zD KL_law_ 2435 (.istore 6) 2 2437 := ⟨dL_law__2435, rfl⟩
theorem dL_law__2437 : decode cL_law_ 2437 = .ok (.aload_n 2, 1) := by decide +kernel
theorem eL_law__2437 : zD KL_law_ 2437 (.aload_n 2) 1 2438 := ⟨dL_law__2437, rfl⟩
theorem dL_law__2438 : decode cL_law_ 2438 = .ok (.invokevirtual 170, 3) := by decide +kernel
theorem eL_law__2438 : zD KL_law_ 2438 (.invokevirtual 170) 3 2441 := ⟨dL_law__2438, rfl⟩
theorem dL_law__2441 : decode cL_law_ 2441 = .ok (.iload 5, 2) := by decide +kernel
theorem eL_law__2441 : zD KL_law_ 2441 (.iload 5) 2 2443 := ⟨dL_law__2441, rfl⟩
theorem dL_law__2443 : decode cL_law_ 2443 = .ok (.if_icmp .eq 5, 3) := by decide +kernel
theorem eL_law__2443 : zD KL_law_ 2443 (.if_icmp .eq 5) 3 2446 := ⟨dL_law__2443, rfl⟩
theorem dL_law__2446 : decode cL_law_ 2446 = .ok (.iconst 0, 1) := by decide +kernel
theorem eL_law__2446 : zD KL_law_ 2446 (.iconst 0) 1 2447 := ⟨dL_law__2446, rfl⟩
theorem dL_law__2447 : decode cL_law_ 2447 = .ok (.ireturn, 1) := by decide +kernel
theorem eL_law__2447 : zD KL_law_ 2447 (.ireturn) 1 2448 := ⟨dL_law__2447, rfl⟩
theorem dL_law__2448 : decode cL_law_ 2448 = .ok (.iload 5, 2) := by decide +kernel
theorem eL_law__2448 : zD KL_law_ 2448 (.iload 5) 2 2450 := ⟨dL_law__2448, rfl⟩
theorem dL_law__2450 : decode cL_law_ 2450 = .ok (.ifCond .ne 15, 3) := by decide +kernel
theorem eL_law__2450 : zD KL_law_ 2450 (.ifCond .ne 15) 3 2453 := ⟨dL_law__2450, rfl⟩
theorem dL_law__2453 : decode cL_law_ 2453 = .ok (.aload_n 3, 1) := by decide +kernel
theorem eL_law__2453 : zD KL_law_ 2453 (.aload_n 3) 1 2454 := ⟨dL_law__2453, rfl⟩
theorem dL_law__2454 : decode cL_law_ 2454 = .ok (.iconst 0, 1) := by decide +kernel
theorem eL_law__2454 : zD KL_law_ 2454 (.iconst 0) 1 2455 := ⟨dL_law__2454, rfl⟩
theorem dL_law__2455 : decode cL_law_ 2455 = .ok (.laload, 1) := by decide +kernel
theorem eL_law__2455 : zD KL_law_ 2455 (.laload) 1 2456 := ⟨dL_law__2455, rfl⟩
theorem dL_law__2456 : decode cL_law_ 2456 = .ok (.iload 6, 2) := by decide +kernel
theorem eL_law__2456 : zD KL_law_ 2456 (.iload 6) 2 2458 := ⟨dL_law__2456, rfl⟩
theorem dL_law__2458 : decode cL_law_ 2458 = .ok (.i2l, 1) := by decide +kernel
theorem eL_law__2458 : zD KL_law_ 2458 (.i2l) 1 2459 := ⟨dL_law__2458, rfl⟩
theorem dL_law__2459 : decode cL_law_ 2459 = .ok (.lcmp, 1) := by decide +kernel
theorem eL_law__2459 : zD KL_law_ 2459 (.lcmp) 1 2460 := ⟨dL_law__2459, rfl⟩
theorem dL_law__2460 : decode cL_law_ 2460 = .ok (.ifCond .eq 5, 3) := by decide +kernel
theorem eL_law__2460 : zD KL_law_ 2460 (.ifCond .eq 5) 3 2463 := ⟨dL_law__2460, rfl⟩
theorem dL_law__2463 : decode cL_law_ 2463 = .ok (.iconst 0, 1) := by decide +kernel
theorem eL_law__2463 : zD KL_law_ 2463 (.iconst 0) 1 2464 := ⟨dL_law__2463, rfl⟩
theorem dL_law__2464 : decode cL_law_ 2464 = .ok (.ireturn, 1) := by decide +kernel
theorem eL_law__2464 : zD KL_law_ 2464 (.ireturn) 1 2465 := ⟨dL_law__2464, rfl⟩
theorem dL_law__2465 : decode cL_law_ 2465 = .ok (.goto 887, 3) := by decide +kernel
theorem eL_law__2465 : zD KL_law_ 2465 (.goto 887) 3 2468 := ⟨dL_law__2465, rfl⟩
theorem dL_law__2468 : decode cL_law_ 2468 = .ok (.aload_n 1, 1) := by decide +kernel
theorem eL_law__2468 : zD KL_law_ 2468 (.aload_n 1) 1 2469 := ⟨dL_law__2468, rfl⟩
theorem dL_law__2469 : decode cL_law_ 2469 = .ok (.invokevirtual 288, 3) := by decide +kernel
theorem eL_law__2469 : zD KL_law_ 2469 (.invokevirtual 288) 3 2472 := ⟨dL_law__2469, rfl⟩
theorem dL_law__2472 : decode cL_law_ 2472 = .ok (.aload_n 2, 1) := by decide +kernel
theorem eL_law__2472 : zD KL_law_ 2472 (.aload_n 2) 1 2473 := ⟨dL_law__2472, rfl⟩
theorem dL_law__2473 : decode cL_law_ 2473 = .ok (.invokevirtual 291, 3) := by decide +kernel
theorem eL_law__2473 : zD KL_law_ 2473 (.invokevirtual 291) 3 2476 := ⟨dL_law__2473, rfl⟩
theorem dL_law__2476 : decode cL_law_ 2476 = .ok (.if_icmp .eq 876, 3) := by decide +kernel
theorem eL_law__2476 : zD KL_law_ 2476 (.if_icmp .eq 876) 3 2479 := ⟨dL_law__2476, rfl⟩
theorem dL_law__2479 : decode cL_law_ 2479 = .ok (.iconst 0, 1) := by decide +kernel
theorem eL_law__2479 : zD KL_law_ 2479 (.iconst 0) 1 2480 := ⟨dL_law__2479, rfl⟩
theorem dL_law__2480 : decode cL_law_ 2480 = .ok (.ireturn, 1) := by decide +kernel
theorem eL_law__2480 : zD KL_law_ 2480 (.ireturn) 1 2481 := ⟨dL_law__2480, rfl⟩
theorem dL_law__2481 : decode cL_law_ 2481 = .ok (.aload_n 1, 1) := by decide +kernel
theorem eL_law__2481 : zD KL_law_ 2481 (.aload_n 1) 1 2482 := ⟨dL_law__2481, rfl⟩
theorem dL_law__2482 : decode cL_law_ 2482 = .ok (.invokevirtual 292, 3) := by decide +kernel
theorem eL_law__2482 : zD KL_law_ 2482 (.invokevirtual 292) 3 2485 := ⟨dL_law__2482, rfl⟩
theorem dL_law__2485 : decode cL_law_ 2485 = .ok (.aload_n 2, 1) := by decide +kernel
theorem eL_law__2485 : zD KL_law_ 2485 (.aload_n 2) 1 2486 := ⟨dL_law__2485, rfl⟩
theorem dL_law__2486 : decode cL_law_ 2486 = .ok (.invokevirtual 295, 3) := by decide +kernel
theorem eL_law__2486 : zD KL_law_ 2486 (.invokevirtual 295) 3 2489 := ⟨dL_law__2486, rfl⟩
theorem dL_law__2489 : decode cL_law_ 2489 = .ok (.if_icmp .eq 863, 3) := by decide +kernel
theorem eL_law__2489 : zD KL_law_ 2489 (.if_icmp .eq 863) 3 2492 := ⟨dL_law__2489, rfl⟩
theorem dL_law__2492 : decode cL_law_ 2492 = .ok (.iconst 0, 1) := by decide +kernel
theorem eL_law__2492 : zD KL_law_ 2492 (.iconst 0) 1 2493 := ⟨dL_law__2492, rfl⟩
theorem dL_law__2493 : decode cL_law_ 2493 = .ok (.ireturn, 1) := by decide +kernel
theorem eL_law__2493 : zD KL_law_ 2493 (.ireturn) 1 2494 := ⟨dL_law__2493, rfl⟩
theorem dL_law__2494 : decode cL_law_ 2494 = .ok (.aload_n 1, 1) := by decide +kernel
theorem eL_law__2494 : zD KL_law_ 2494 (.aload_n 1) 1 2495 := ⟨dL_law__2494, rfl⟩
theorem dL_law__2495 : decode cL_law_ 2495 = .ok (.aload_n 0, 1) := by decide +kernel
theorem eL_law__2495 : zD KL_law_ 2495 (.aload_n 0) 1 2496 := ⟨dL_law__2495, rfl⟩
theorem dL_law__2496 : decode cL_law_ 2496 = .ok (.iload 4, 2) := by decide +kernel
theorem eL_law__2496 : zD KL_law_ 2496 (.iload 4) 2 2498 := ⟨dL_law__2496, rfl⟩
theorem dL_law__2498 : decode cL_law_ 2498 = .ok (.iconst 1, 1) := by decide +kernel
theorem eL_law__2498 : zD KL_law_ 2498 (.iconst 1) 1 2499 := ⟨dL_law__2498, rfl⟩
theorem dL_law__2499 : decode cL_law_ 2499 = .ok (.iadd, 1) := by decide +kernel
theorem eL_law__2499 : zD KL_law_ 2499 (.iadd) 1 2500 := ⟨dL_law__2499, rfl⟩
theorem dL_law__2500 : decode cL_law_ 2500 = .ok (.iaload, 1) := by decide +kernel
theorem eL_law__2500 : zD KL_law_ 2500 (.iaload) 1 2501 := ⟨dL_law__2500, rfl⟩
theorem dL_law__2501 : decode cL_law_ 2501 = .ok (.aload_n 3, 1) := by decide +kernel
theorem eL_law__2501 : zD KL_law_ 2501 (.aload_n 3) 1 2502 := ⟨dL_law__2501, rfl⟩
theorem dL_law__2502 : decode cL_law_ 2502 = .ok (.invokestatic 296, 3) := by decide +kernel
theorem eL_law__2502 : zD KL_law_ 2502 (.invokestatic 296) 3 2505 := ⟨dL_law__2502, rfl⟩
theorem dL_law__2505 : decode cL_law_ 2505 = .ok (.istore 5, 2) := by decide +kernel
theorem eL_law__2505 : zD KL_law_ 2505 (.istore 5) 2 2507 := ⟨dL_law__2505, rfl⟩
theorem dL_law__2507 : decode cL_law_ 2507 = .ok (.aload_n 2, 1) := by decide +kernel
theorem eL_law__2507 : zD KL_law_ 2507 (.aload_n 2) 1 2508 := ⟨dL_law__2507, rfl⟩
theorem dL_law__2508 : decode cL_law_ 2508 = .ok (.aload_n 0, 1) := by decide +kernel
theorem eL_law__2508 : zD KL_law_ 2508 (.aload_n 0) 1 2509 := ⟨dL_law__2508, rfl⟩
theorem dL_law__2509 : decode cL_law_ 2509 = .ok (.iload 4, 2) := by decide +kernel
theorem eL_law__2509 : zD KL_law_ 2509 (.iload 4) 2 2511 := ⟨dL_law__2509, rfl⟩
theorem dL_law__2511 : decode cL_law_ 2511 = .ok (.iconst 1, 1) := by decide +kernel
theorem eL_law__2511 : zD KL_law_ 2511 (.iconst 1) 1 2512 := ⟨dL_law__2511, rfl⟩
theorem dL_law__2512 : decode cL_law_ 2512 = .ok (.iadd, 1) := by decide +kernel
theorem eL_law__2512 : zD KL_law_ 2512 (.iadd) 1 2513 := ⟨dL_law__2512, rfl⟩
theorem dL_law__2513 : decode cL_law_ 2513 = .ok (.iaload, 1) := by decide +kernel
theorem eL_law__2513 : zD KL_law_ 2513 (.iaload) 1 2514 := ⟨dL_law__2513, rfl⟩
theorem dL_law__2514 : decode cL_law_ 2514 = .ok (.invokevirtual 298, 3) := by decide +kernel
theorem eL_law__2514 : zD KL_law_ 2514 (.invokevirtual 298) 3 2517 := ⟨dL_law__2514, rfl⟩
theorem dL_law__2517 : decode cL_law_ 2517 = .ok (.istore 6, 2) := by decide +kernel
theorem eL_law__2517 : zD KL_law_ 2517 (.istore 6) 2 2519 := ⟨dL_law__2517, rfl⟩
theorem dL_law__2519 : decode cL_law_ 2519 = .ok (.aload_n 2, 1) := by decide +kernel
theorem eL_law__2519 : zD KL_law_ 2519 (.aload_n 2) 1 2520 := ⟨dL_law__2519, rfl⟩
theorem dL_law__2520 : decode cL_law_ 2520 = .ok (.invokevirtual 170, 3) := by decide +kernel
theorem eL_law__2520 : zD KL_law_ 2520 (.invokevirtual 170) 3 2523 := ⟨dL_law__2520, rfl⟩
theorem dL_law__2523 : decode cL_law_ 2523 = .ok (.iload 5, 2) := by decide +kernel
theorem eL_law__2523 : zD KL_law_ 2523 (.iload 5) 2 2525 := ⟨dL_law__2523, rfl⟩
theorem dL_law__2525 : decode cL_law_ 2525 = .ok (.if_icmp .eq 5, 3) := by decide +kernel
theorem eL_law__2525 : zD KL_law_ 2525 (.if_icmp .eq 5) 3 2528 := ⟨dL_law__2525, rfl⟩
theorem dL_law__2528 : decode cL_law_ 2528 = .ok (.iconst 0, 1) := by decide +kernel
theorem eL_law__2528 : zD KL_law_ 2528 (.iconst 0) 1 2529 := ⟨dL_law__2528, rfl⟩
theorem dL_law__2529 : decode cL_law_ 2529 = .ok (.ireturn, 1) := by decide +kernel
theorem eL_law__2529 : zD KL_law_ 2529 (.ireturn) 1 2530 := ⟨dL_law__2529, rfl⟩
theorem dL_law__2530 : decode cL_law_ 2530 = .ok (.iload 5, 2) := by decide +kernel
theorem eL_law__2530 : zD KL_law_ 2530 (.iload 5) 2 2532 := ⟨dL_law__2530, rfl⟩
theorem dL_law__2532 : decode cL_law_ 2532 = .ok (.ifCond .ne 15, 3) := by decide +kernel
theorem eL_law__2532 : zD KL_law_ 2532 (.ifCond .ne 15) 3 2535 := ⟨dL_law__2532, rfl⟩
theorem dL_law__2535 : decode cL_law_ 2535 = .ok (.aload_n 3, 1) := by decide +kernel
theorem eL_law__2535 : zD KL_law_ 2535 (.aload_n 3) 1 2536 := ⟨dL_law__2535, rfl⟩
theorem dL_law__2536 : decode cL_law_ 2536 = .ok (.iconst 0, 1) := by decide +kernel
theorem eL_law__2536 : zD KL_law_ 2536 (.iconst 0) 1 2537 := ⟨dL_law__2536, rfl⟩
theorem dL_law__2537 : decode cL_law_ 2537 = .ok (.laload, 1) := by decide +kernel
theorem eL_law__2537 : zD KL_law_ 2537 (.laload) 1 2538 := ⟨dL_law__2537, rfl⟩
theorem dL_law__2538 : decode cL_law_ 2538 = .ok (.iload 6, 2) := by decide +kernel
theorem eL_law__2538 : zD KL_law_ 2538 (.iload 6) 2 2540 := ⟨dL_law__2538, rfl⟩
theorem dL_law__2540 : decode cL_law_ 2540 = .ok (.i2l, 1) := by decide +kernel
theorem eL_law__2540 : zD KL_law_ 2540 (.i2l) 1 2541 := ⟨dL_law__2540, rfl⟩
theorem dL_law__2541 : decode cL_law_ 2541 = .ok (.lcmp, 1) := by decide +kernel
theorem eL_law__2541 : zD KL_law_ 2541 (.lcmp) 1 2542 := ⟨dL_law__2541, rfl⟩
theorem dL_law__2542 : decode cL_law_ 2542 = .ok (.ifCond .eq 5, 3) := by decide +kernel
theorem eL_law__2542 : zD KL_law_ 2542 (.ifCond .eq 5) 3 2545 := ⟨dL_law__2542, rfl⟩
theorem dL_law__2545 : decode cL_law_ 2545 = .ok (.iconst 0, 1) := by decide +kernel
theorem eL_law__2545 : zD KL_law_ 2545 (.iconst 0) 1 2546 := ⟨dL_law__2545, rfl⟩
theorem dL_law__2546 : decode cL_law_ 2546 = .ok (.ireturn, 1) := by decide +kernel
theorem eL_law__2546 : zD KL_law_ 2546 (.ireturn) 1 2547 := ⟨dL_law__2546, rfl⟩
theorem dL_law__2547 : decode cL_law_ 2547 = .ok (.goto 805, 3) := by decide +kernel
theorem eL_law__2547 : zD KL_law_ 2547 (.goto 805) 3 2550 := ⟨dL_law__2547, rfl⟩
theorem dL_law__2550 : decode cL_law_ 2550 = .ok (.aload_n 1, 1) := by decide +kernel
theorem eL_law__2550 : zD KL_law_ 2550 (.aload_n 1) 1 2551 := ⟨dL_law__2550, rfl⟩
theorem dL_law__2551 : decode cL_law_ 2551 = .ok (.aload_n 0, 1) := by decide +kernel
theorem eL_law__2551 : zD KL_law_ 2551 (.aload_n 0) 1 2552 := ⟨dL_law__2551, rfl⟩
theorem dL_law__2552 : decode cL_law_ 2552 = .ok (.iload 4, 2) := by decide +kernel
theorem eL_law__2552 : zD KL_law_ 2552 (.iload 4) 2 2554 := ⟨dL_law__2552, rfl⟩
theorem dL_law__2554 : decode cL_law_ 2554 = .ok (.iconst 1, 1) := by decide +kernel
theorem eL_law__2554 : zD KL_law_ 2554 (.iconst 1) 1 2555 := ⟨dL_law__2554, rfl⟩
theorem dL_law__2555 : decode cL_law_ 2555 = .ok (.iadd, 1) := by decide +kernel
theorem eL_law__2555 : zD KL_law_ 2555 (.iadd) 1 2556 := ⟨dL_law__2555, rfl⟩
theorem dL_law__2556 : decode cL_law_ 2556 = .ok (.iaload, 1) := by decide +kernel
theorem eL_law__2556 : zD KL_law_ 2556 (.iaload) 1 2557 := ⟨dL_law__2556, rfl⟩
theorem dL_law__2557 : decode cL_law_ 2557 = .ok (.aload_n 0, 1) := by decide +kernel
theorem eL_law__2557 : zD KL_law_ 2557 (.aload_n 0) 1 2558 := ⟨dL_law__2557, rfl⟩
theorem dL_law__2558 : decode cL_law_ 2558 = .ok (.iload 4, 2) := by decide +kernel
theorem eL_law__2558 : zD KL_law_ 2558 (.iload 4) 2 2560 := ⟨dL_law__2558, rfl⟩
theorem dL_law__2560 : decode cL_law_ 2560 = .ok (.iconst 2, 1) := by decide +kernel
theorem eL_law__2560 : zD KL_law_ 2560 (.iconst 2) 1 2561 := ⟨dL_law__2560, rfl⟩
theorem dL_law__2561 : decode cL_law_ 2561 = .ok (.iadd, 1) := by decide +kernel
theorem eL_law__2561 : zD KL_law_ 2561 (.iadd) 1 2562 := ⟨dL_law__2561, rfl⟩
theorem dL_law__2562 : decode cL_law_ 2562 = .ok (.iaload, 1) := by decide +kernel
theorem eL_law__2562 : zD KL_law_ 2562 (.iaload) 1 2563 := ⟨dL_law__2562, rfl⟩
theorem dL_law__2563 : decode cL_law_ 2563 = .ok (.aload_n 3, 1) := by decide +kernel
theorem eL_law__2563 : zD KL_law_ 2563 (.aload_n 3) 1 2564 := ⟨dL_law__2563, rfl⟩
theorem dL_law__2564 : decode cL_law_ 2564 = .ok (.invokestatic 299, 3) := by decide +kernel
theorem eL_law__2564 : zD KL_law_ 2564 (.invokestatic 299) 3 2567 := ⟨dL_law__2564, rfl⟩
theorem dL_law__2567 : decode cL_law_ 2567 = .ok (.istore 5, 2) := by decide +kernel
theorem eL_law__2567 : zD KL_law_ 2567 (.istore 5) 2 2569 := ⟨dL_law__2567, rfl⟩
theorem dL_law__2569 : decode cL_law_ 2569 = .ok (.aload_n 2, 1) := by decide +kernel
theorem eL_law__2569 : zD KL_law_ 2569 (.aload_n 2) 1 2570 := ⟨dL_law__2569, rfl⟩
theorem dL_law__2570 : decode cL_law_ 2570 = .ok (.aload_n 0, 1) := by decide +kernel
theorem eL_law__2570 : zD KL_law_ 2570 (.aload_n 0) 1 2571 := ⟨dL_law__2570, rfl⟩
theorem dL_law__2571 : decode cL_law_ 2571 = .ok (.iload 4, 2) := by decide +kernel
theorem eL_law__2571 : zD KL_law_ 2571 (.iload 4) 2 2573 := ⟨dL_law__2571, rfl⟩
theorem dL_law__2573 : decode cL_law_ 2573 = .ok (.iconst 1, 1) := by decide +kernel
theorem eL_law__2573 : zD KL_law_ 2573 (.iconst 1) 1 2574 := ⟨dL_law__2573, rfl⟩
theorem dL_law__2574 : decode cL_law_ 2574 = .ok (.iadd, 1) := by decide +kernel
theorem eL_law__2574 : zD KL_law_ 2574 (.iadd) 1 2575 := ⟨dL_law__2574, rfl⟩
theorem dL_law__2575 : decode cL_law_ 2575 = .ok (.iaload, 1) := by decide +kernel
theorem eL_law__2575 : zD KL_law_ 2575 (.iaload) 1 2576 := ⟨dL_law__2575, rfl⟩
theorem dL_law__2576 : decode cL_law_ 2576 = .ok (.aload_n 0, 1) := by decide +kernel
theorem eL_law__2576 : zD KL_law_ 2576 (.aload_n 0) 1 2577 := ⟨dL_law__2576, rfl⟩
theorem dL_law__2577 : decode cL_law_ 2577 = .ok (.iload 4, 2) := by decide +kernel
theorem eL_law__2577 : zD KL_law_ 2577 (.iload 4) 2 2579 := ⟨dL_law__2577, rfl⟩
theorem dL_law__2579 : decode cL_law_ 2579 = .ok (.iconst 2, 1) := by decide +kernel
theorem eL_law__2579 : zD KL_law_ 2579 (.iconst 2) 1 2580 := ⟨dL_law__2579, rfl⟩
theorem dL_law__2580 : decode cL_law_ 2580 = .ok (.iadd, 1) := by decide +kernel
theorem eL_law__2580 : zD KL_law_ 2580 (.iadd) 1 2581 := ⟨dL_law__2580, rfl⟩
theorem dL_law__2581 : decode cL_law_ 2581 = .ok (.iaload, 1) := by decide +kernel
theorem eL_law__2581 : zD KL_law_ 2581 (.iaload) 1 2582 := ⟨dL_law__2581, rfl⟩
theorem dL_law__2582 : decode cL_law_ 2582 = .ok (.invokevirtual 301, 3) := by decide +kernel
theorem eL_law__2582 : zD KL_law_ 2582 (.invokevirtual 301) 3 2585 := ⟨dL_law__2582, rfl⟩
theorem dL_law__2585 : decode cL_law_ 2585 = .ok (.istore 6, 2) := by decide +kernel
theorem eL_law__2585 : zD KL_law_ 2585 (.istore 6) 2 2587 := ⟨dL_law__2585, rfl⟩
theorem dL_law__2587 : decode cL_law_ 2587 = .ok (.aload_n 2, 1) := by decide +kernel
theorem eL_law__2587 : zD KL_law_ 2587 (.aload_n 2) 1 2588 := ⟨dL_law__2587, rfl⟩
theorem dL_law__2588 : decode cL_law_ 2588 = .ok (.invokevirtual 170, 3) := by decide +kernel
theorem eL_law__2588 : zD KL_law_ 2588 (.invokevirtual 170) 3 2591 := ⟨dL_law__2588, rfl⟩
theorem dL_law__2591 : decode cL_law_ 2591 = .ok (.iload 5, 2) := by decide +kernel
theorem eL_law__2591 : zD KL_law_ 2591 (.iload 5) 2 2593 := ⟨dL_law__2591, rfl⟩
theorem dL_law__2593 : decode cL_law_ 2593 = .ok (.if_icmp .eq 5, 3) := by decide +kernel
theorem eL_law__2593 : zD KL_law_ 2593 (.if_icmp .eq 5) 3 2596 := ⟨dL_law__2593, rfl⟩
theorem dL_law__2596 : decode cL_law_ 2596 = .ok (.iconst 0, 1) := by decide +kernel
theorem eL_law__2596 : zD KL_law_ 2596 (.iconst 0) 1 2597 := ⟨dL_law__2596, rfl⟩
theorem dL_law__2597 : decode cL_law_ 2597 = .ok (.ireturn, 1) := by decide +kernel
theorem eL_law__2597 : zD KL_law_ 2597 (.ireturn) 1 2598 := ⟨dL_law__2597, rfl⟩
theorem dL_law__2598 : decode cL_law_ 2598 = .ok (.iload 5, 2) := by decide +kernel
theorem eL_law__2598 : zD KL_law_ 2598 (.iload 5) 2 2600 := ⟨dL_law__2598, rfl⟩
theorem dL_law__2600 : decode cL_law_ 2600 = .ok (.ifCond .ne 15, 3) := by decide +kernel
theorem eL_law__2600 : zD KL_law_ 2600 (.ifCond .ne 15) 3 2603 := ⟨dL_law__2600, rfl⟩
theorem dL_law__2603 : decode cL_law_ 2603 = .ok (.aload_n 3, 1) := by decide +kernel
theorem eL_law__2603 : zD KL_law_ 2603 (.aload_n 3) 1 2604 := ⟨dL_law__2603, rfl⟩
theorem dL_law__2604 : decode cL_law_ 2604 = .ok (.iconst 0, 1) := by decide +kernel
theorem eL_law__2604 : zD KL_law_ 2604 (.iconst 0) 1 2605 := ⟨dL_law__2604, rfl⟩
theorem dL_law__2605 : decode cL_law_ 2605 = .ok (.laload, 1) := by decide +kernel
theorem eL_law__2605 : zD KL_law_ 2605 (.laload) 1 2606 := ⟨dL_law__2605, rfl⟩
theorem dL_law__2606 : decode cL_law_ 2606 = .ok (.iload 6, 2) := by decide +kernel
theorem eL_law__2606 : zD KL_law_ 2606 (.iload 6) 2 2608 := ⟨dL_law__2606, rfl⟩
theorem dL_law__2608 : decode cL_law_ 2608 = .ok (.i2l, 1) := by decide +kernel
theorem eL_law__2608 : zD KL_law_ 2608 (.i2l) 1 2609 := ⟨dL_law__2608, rfl⟩
theorem dL_law__2609 : decode cL_law_ 2609 = .ok (.lcmp, 1) := by decide +kernel
theorem eL_law__2609 : zD KL_law_ 2609 (.lcmp) 1 2610 := ⟨dL_law__2609, rfl⟩
theorem dL_law__2610 : decode cL_law_ 2610 = .ok (.ifCond .eq 5, 3) := by decide +kernel
theorem eL_law__2610 : zD KL_law_ 2610 (.ifCond .eq 5) 3 2613 := ⟨dL_law__2610, rfl⟩
theorem dL_law__2613 : decode cL_law_ 2613 = .ok (.iconst 0, 1) := by decide +kernel
theorem eL_law__2613 : zD KL_law_ 2613 (.iconst 0) 1 2614 := ⟨dL_law__2613, rfl⟩
theorem dL_law__2614 : decode cL_law_ 2614 = .ok (.ireturn, 1) := by decide +kernel
theorem eL_law__2614 : zD KL_law_ 2614 (.ireturn) 1 2615 := ⟨dL_law__2614, rfl⟩
theorem dL_law__2615 : decode cL_law_ 2615 = .ok (.goto 737, 3) := by decide +kernel
theorem eL_law__2615 : zD KL_law_ 2615 (.goto 737) 3 2618 := ⟨dL_law__2615, rfl⟩
theorem dL_law__2618 : decode cL_law_ 2618 = .ok (.aload_n 1, 1) := by decide +kernel
theorem eL_law__2618 : zD KL_law_ 2618 (.aload_n 1) 1 2619 := ⟨dL_law__2618, rfl⟩
theorem dL_law__2619 : decode cL_law_ 2619 = .ok (.aload_n 0, 1) := by decide +kernel
theorem eL_law__2619 : zD KL_law_ 2619 (.aload_n 0) 1 2620 := ⟨dL_law__2619, rfl⟩
theorem dL_law__2620 : decode cL_law_ 2620 = .ok (.iload 4, 2) := by decide +kernel
theorem eL_law__2620 : zD KL_law_ 2620 (.iload 4) 2 2622 := ⟨dL_law__2620, rfl⟩
theorem dL_law__2622 : decode cL_law_ 2622 = .ok (.iconst 1, 1) := by decide +kernel
theorem eL_law__2622 : zD KL_law_ 2622 (.iconst 1) 1 2623 := ⟨dL_law__2622, rfl⟩
theorem dL_law__2623 : decode cL_law_ 2623 = .ok (.iadd, 1) := by decide +kernel
theorem eL_law__2623 : zD KL_law_ 2623 (.iadd) 1 2624 := ⟨dL_law__2623, rfl⟩
theorem dL_law__2624 : decode cL_law_ 2624 = .ok (.iaload, 1) := by decide +kernel
theorem eL_law__2624 : zD KL_law_ 2624 (.iaload) 1 2625 := ⟨dL_law__2624, rfl⟩
theorem dL_law__2625 : decode cL_law_ 2625 = .ok (.aload_n 0, 1) := by decide +kernel
theorem eL_law__2625 : zD KL_law_ 2625 (.aload_n 0) 1 2626 := ⟨dL_law__2625, rfl⟩
theorem dL_law__2626 : decode cL_law_ 2626 = .ok (.iload 4, 2) := by decide +kernel
theorem eL_law__2626 : zD KL_law_ 2626 (.iload 4) 2 2628 := ⟨dL_law__2626, rfl⟩
theorem dL_law__2628 : decode cL_law_ 2628 = .ok (.iconst 2, 1) := by decide +kernel
theorem eL_law__2628 : zD KL_law_ 2628 (.iconst 2) 1 2629 := ⟨dL_law__2628, rfl⟩
theorem dL_law__2629 : decode cL_law_ 2629 = .ok (.iadd, 1) := by decide +kernel
theorem eL_law__2629 : zD KL_law_ 2629 (.iadd) 1 2630 := ⟨dL_law__2629, rfl⟩
theorem dL_law__2630 : decode cL_law_ 2630 = .ok (.iaload, 1) := by decide +kernel
theorem eL_law__2630 : zD KL_law_ 2630 (.iaload) 1 2631 := ⟨dL_law__2630, rfl⟩
theorem dL_law__2631 : decode cL_law_ 2631 = .ok (.aload_n 3, 1) := by decide +kernel
theorem eL_law__2631 : zD KL_law_ 2631 (.aload_n 3) 1 2632 := ⟨dL_law__2631, rfl⟩
theorem dL_law__2632 : decode cL_law_ 2632 = .ok (.invokestatic 302, 3) := by decide +kernel
theorem eL_law__2632 : zD KL_law_ 2632 (.invokestatic 302) 3 2635 := ⟨dL_law__2632, rfl⟩
theorem dL_law__2635 : decode cL_law_ 2635 = .ok (.istore 5, 2) := by decide +kernel
theorem eL_law__2635 : zD KL_law_ 2635 (.istore 5) 2 2637 := ⟨dL_law__2635, rfl⟩
theorem dL_law__2637 : decode cL_law_ 2637 = .ok (.aload_n 2, 1) := by decide +kernel
theorem eL_law__2637 : zD KL_law_ 2637 (.aload_n 2) 1 2638 := ⟨dL_law__2637, rfl⟩
theorem dL_law__2638 : decode cL_law_ 2638 = .ok (.aload_n 0, 1) := by decide +kernel
theorem eL_law__2638 : zD KL_law_ 2638 (.aload_n 0) 1 2639 := ⟨dL_law__2638, rfl⟩
theorem dL_law__2639 : decode cL_law_ 2639 = .ok (.iload 4, 2) := by decide +kernel
theorem eL_law__2639 : zD KL_law_ 2639 (.iload 4) 2 2641 := ⟨dL_law__2639, rfl⟩
theorem dL_law__2641 : decode cL_law_ 2641 = .ok (.iconst 1, 1) := by decide +kernel
theorem eL_law__2641 : zD KL_law_ 2641 (.iconst 1) 1 2642 := ⟨dL_law__2641, rfl⟩
theorem dL_law__2642 : decode cL_law_ 2642 = .ok (.iadd, 1) := by decide +kernel
theorem eL_law__2642 : zD KL_law_ 2642 (.iadd) 1 2643 := ⟨dL_law__2642, rfl⟩
theorem dL_law__2643 : decode cL_law_ 2643 = .ok (.iaload, 1) := by decide +kernel
theorem eL_law__2643 : zD KL_law_ 2643 (.iaload) 1 2644 := ⟨dL_law__2643, rfl⟩
theorem dL_law__2644 : decode cL_law_ 2644 = .ok (.aload_n 0, 1) := by decide +kernel
theorem eL_law__2644 : zD KL_law_ 2644 (.aload_n 0) 1 2645 := ⟨dL_law__2644, rfl⟩
theorem dL_law__2645 : decode cL_law_ 2645 = .ok (.iload 4, 2) := by decide +kernel
theorem eL_law__2645 : zD KL_law_ 2645 (.iload 4) 2 2647 := ⟨dL_law__2645, rfl⟩
theorem dL_law__2647 : decode cL_law_ 2647 = .ok (.iconst 2, 1) := by decide +kernel
theorem eL_law__2647 : zD KL_law_ 2647 (.iconst 2) 1 2648 := ⟨dL_law__2647, rfl⟩
theorem dL_law__2648 : decode cL_law_ 2648 = .ok (.iadd, 1) := by decide +kernel
theorem eL_law__2648 : zD KL_law_ 2648 (.iadd) 1 2649 := ⟨dL_law__2648, rfl⟩
theorem dL_law__2649 : decode cL_law_ 2649 = .ok (.iaload, 1) := by decide +kernel
theorem eL_law__2649 : zD KL_law_ 2649 (.iaload) 1 2650 := ⟨dL_law__2649, rfl⟩
theorem dL_law__2650 : decode cL_law_ 2650 = .ok (.invokevirtual 304, 3) := by decide +kernel
theorem eL_law__2650 : zD KL_law_ 2650 (.invokevirtual 304) 3 2653 := ⟨dL_law__2650, rfl⟩
theorem dL_law__2653 : decode cL_law_ 2653 = .ok (.istore 6, 2) := by decide +kernel
theorem eL_law__2653 : zD KL_law_ 2653 (.istore 6) 2 2655 := ⟨dL_law__2653, rfl⟩
theorem dL_law__2655 : decode cL_law_ 2655 = .ok (.aload_n 2, 1) := by decide +kernel
theorem eL_law__2655 : zD KL_law_ 2655 (.aload_n 2) 1 2656 := ⟨dL_law__2655, rfl⟩
theorem dL_law__2656 : decode cL_law_ 2656 = .ok (.invokevirtual 170, 3) := by decide +kernel
theorem eL_law__2656 : zD KL_law_ 2656 (.invokevirtual 170) 3 2659 := ⟨dL_law__2656, rfl⟩
theorem dL_law__2659 : decode cL_law_ 2659 = .ok (.iload 5, 2) := by decide +kernel
theorem eL_law__2659 : zD KL_law_ 2659 (.iload 5) 2 2661 := ⟨dL_law__2659, rfl⟩
theorem dL_law__2661 : decode cL_law_ 2661 = .ok (.if_icmp .eq 5, 3) := by decide +kernel
theorem eL_law__2661 : zD KL_law_ 2661 (.if_icmp .eq 5) 3 2664 := ⟨dL_law__2661, rfl⟩
theorem dL_law__2664 : decode cL_law_ 2664 = .ok (.iconst 0, 1) := by decide +kernel
theorem eL_law__2664 : zD KL_law_ 2664 (.iconst 0) 1 2665 := ⟨dL_law__2664, rfl⟩
theorem dL_law__2665 : decode cL_law_ 2665 = .ok (.ireturn, 1) := by decide +kernel
theorem eL_law__2665 : zD KL_law_ 2665 (.ireturn) 1 2666 := ⟨dL_law__2665, rfl⟩
theorem dL_law__2666 : decode cL_law_ 2666 = .ok (.iload 5, 2) := by decide +kernel
theorem eL_law__2666 : zD KL_law_ 2666 (.iload 5) 2 2668 := ⟨dL_law__2666, rfl⟩
theorem dL_law__2668 : decode cL_law_ 2668 = .ok (.ifCond .ne 15, 3) := by decide +kernel
theorem eL_law__2668 : zD KL_law_ 2668 (.ifCond .ne 15) 3 2671 := ⟨dL_law__2668, rfl⟩
theorem dL_law__2671 : decode cL_law_ 2671 = .ok (.aload_n 3, 1) := by decide +kernel
theorem eL_law__2671 : zD KL_law_ 2671 (.aload_n 3) 1 2672 := ⟨dL_law__2671, rfl⟩
theorem dL_law__2672 : decode cL_law_ 2672 = .ok (.iconst 0, 1) := by decide +kernel
theorem eL_law__2672 : zD KL_law_ 2672 (.iconst 0) 1 2673 := ⟨dL_law__2672, rfl⟩
theorem dL_law__2673 : decode cL_law_ 2673 = .ok (.laload, 1) := by decide +kernel
theorem eL_law__2673 : zD KL_law_ 2673 (.laload) 1 2674 := ⟨dL_law__2673, rfl⟩
theorem dL_law__2674 : decode cL_law_ 2674 = .ok (.iload 6, 2) := by decide +kernel
theorem eL_law__2674 : zD KL_law_ 2674 (.iload 6) 2 2676 := ⟨dL_law__2674, rfl⟩
theorem dL_law__2676 : decode cL_law_ 2676 = .ok (.i2l, 1) := by decide +kernel
theorem eL_law__2676 : zD KL_law_ 2676 (.i2l) 1 2677 := ⟨dL_law__2676, rfl⟩
theorem dL_law__2677 : decode cL_law_ 2677 = .ok (.lcmp, 1) := by decide +kernel
theorem eL_law__2677 : zD KL_law_ 2677 (.lcmp) 1 2678 := ⟨dL_law__2677, rfl⟩
theorem dL_law__2678 : decode cL_law_ 2678 = .ok (.ifCond .eq 5, 3) := by decide +kernel
theorem eL_law__2678 : zD KL_law_ 2678 (.ifCond .eq 5) 3 2681 := ⟨dL_law__2678, rfl⟩
theorem dL_law__2681 : decode cL_law_ 2681 = .ok (.iconst 0, 1) := by decide +kernel
theorem eL_law__2681 : zD KL_law_ 2681 (.iconst 0) 1 2682 := ⟨dL_law__2681, rfl⟩
theorem dL_law__2682 : decode cL_law_ 2682 = .ok (.ireturn, 1) := by decide +kernel
theorem eL_law__2682 : zD KL_law_ 2682 (.ireturn) 1 2683 := ⟨dL_law__2682, rfl⟩
theorem dL_law__2683 : decode cL_law_ 2683 = .ok (.goto 669, 3) := by decide +kernel
theorem eL_law__2683 : zD KL_law_ 2683 (.goto 669) 3 2686 := ⟨dL_law__2683, rfl⟩
theorem dL_law__2686 : decode cL_law_ 2686 = .ok (.aload_n 1, 1) := by decide +kernel
theorem eL_law__2686 : zD KL_law_ 2686 (.aload_n 1) 1 2687 := ⟨dL_law__2686, rfl⟩
theorem dL_law__2687 : decode cL_law_ 2687 = .ok (.invokevirtual 305, 3) := by decide +kernel
theorem eL_law__2687 : zD KL_law_ 2687 (.invokevirtual 305) 3 2690 := ⟨dL_law__2687, rfl⟩
theorem dL_law__2690 : decode cL_law_ 2690 = .ok (.aload_n 2, 1) := by decide +kernel
theorem eL_law__2690 : zD KL_law_ 2690 (.aload_n 2) 1 2691 := ⟨dL_law__2690, rfl⟩
theorem dL_law__2691 : decode cL_law_ 2691 = .ok (.invokevirtual 308, 3) := by decide +kernel
theorem eL_law__2691 : zD KL_law_ 2691 (.invokevirtual 308) 3 2694 := ⟨dL_law__2691, rfl⟩
theorem dL_law__2694 : decode cL_law_ 2694 = .ok (.if_icmp .eq 658, 3) := by decide +kernel
theorem eL_law__2694 : zD KL_law_ 2694 (.if_icmp .eq 658) 3 2697 := ⟨dL_law__2694, rfl⟩
theorem dL_law__2697 : decode cL_law_ 2697 = .ok (.iconst 0, 1) := by decide +kernel
theorem eL_law__2697 : zD KL_law_ 2697 (.iconst 0) 1 2698 := ⟨dL_law__2697, rfl⟩
theorem dL_law__2698 : decode cL_law_ 2698 = .ok (.ireturn, 1) := by decide +kernel
theorem eL_law__2698 : zD KL_law_ 2698 (.ireturn) 1 2699 := ⟨dL_law__2698, rfl⟩
theorem dL_law__2699 : decode cL_law_ 2699 = .ok (.aload_n 1, 1) := by decide +kernel
theorem eL_law__2699 : zD KL_law_ 2699 (.aload_n 1) 1 2700 := ⟨dL_law__2699, rfl⟩
theorem dL_law__2700 : decode cL_law_ 2700 = .ok (.aload_n 0, 1) := by decide +kernel
theorem eL_law__2700 : zD KL_law_ 2700 (.aload_n 0) 1 2701 := ⟨dL_law__2700, rfl⟩
theorem dL_law__2701 : decode cL_law_ 2701 = .ok (.iload 4, 2) := by decide +kernel
theorem eL_law__2701 : zD KL_law_ 2701 (.iload 4) 2 2703 := ⟨dL_law__2701, rfl⟩
theorem dL_law__2703 : decode cL_law_ 2703 = .ok (.iconst 1, 1) := by decide +kernel
theorem eL_law__2703 : zD KL_law_ 2703 (.iconst 1) 1 2704 := ⟨dL_law__2703, rfl⟩
theorem dL_law__2704 : decode cL_law_ 2704 = .ok (.iadd, 1) := by decide +kernel
theorem eL_law__2704 : zD KL_law_ 2704 (.iadd) 1 2705 := ⟨dL_law__2704, rfl⟩
theorem dL_law__2705 : decode cL_law_ 2705 = .ok (.iaload, 1) := by decide +kernel
theorem eL_law__2705 : zD KL_law_ 2705 (.iaload) 1 2706 := ⟨dL_law__2705, rfl⟩
theorem dL_law__2706 : decode cL_law_ 2706 = .ok (.aload_n 3, 1) := by decide +kernel
theorem eL_law__2706 : zD KL_law_ 2706 (.aload_n 3) 1 2707 := ⟨dL_law__2706, rfl⟩
theorem dL_law__2707 : decode cL_law_ 2707 = .ok (.invokestatic 309, 3) := by decide +kernel
theorem eL_law__2707 : zD KL_law_ 2707 (.invokestatic 309) 3 2710 := ⟨dL_law__2707, rfl⟩
theorem dL_law__2710 : decode cL_law_ 2710 = .ok (.istore 5, 2) := by decide +kernel
theorem eL_law__2710 : zD KL_law_ 2710 (.istore 5) 2 2712 := ⟨dL_law__2710, rfl⟩
theorem dL_law__2712 : decode cL_law_ 2712 = .ok (.aload_n 2, 1) := by decide +kernel
theorem eL_law__2712 : zD KL_law_ 2712 (.aload_n 2) 1 2713 := ⟨dL_law__2712, rfl⟩
theorem dL_law__2713 : decode cL_law_ 2713 = .ok (.aload_n 0, 1) := by decide +kernel
theorem eL_law__2713 : zD KL_law_ 2713 (.aload_n 0) 1 2714 := ⟨dL_law__2713, rfl⟩
theorem dL_law__2714 : decode cL_law_ 2714 = .ok (.iload 4, 2) := by decide +kernel
theorem eL_law__2714 : zD KL_law_ 2714 (.iload 4) 2 2716 := ⟨dL_law__2714, rfl⟩
theorem dL_law__2716 : decode cL_law_ 2716 = .ok (.iconst 1, 1) := by decide +kernel
theorem eL_law__2716 : zD KL_law_ 2716 (.iconst 1) 1 2717 := ⟨dL_law__2716, rfl⟩
theorem dL_law__2717 : decode cL_law_ 2717 = .ok (.iadd, 1) := by decide +kernel
theorem eL_law__2717 : zD KL_law_ 2717 (.iadd) 1 2718 := ⟨dL_law__2717, rfl⟩
theorem dL_law__2718 : decode cL_law_ 2718 = .ok (.iaload, 1) := by decide +kernel
theorem eL_law__2718 : zD KL_law_ 2718 (.iaload) 1 2719 := ⟨dL_law__2718, rfl⟩
theorem dL_law__2719 : decode cL_law_ 2719 = .ok (.invokevirtual 311, 3) := by decide +kernel
theorem eL_law__2719 : zD KL_law_ 2719 (.invokevirtual 311) 3 2722 := ⟨dL_law__2719, rfl⟩
theorem dL_law__2722 : decode cL_law_ 2722 = .ok (.istore 6, 2) := by decide +kernel
theorem eL_law__2722 : zD KL_law_ 2722 (.istore 6) 2 2724 := ⟨dL_law__2722, rfl⟩
theorem dL_law__2724 : decode cL_law_ 2724 = .ok (.aload_n 2, 1) := by decide +kernel
theorem eL_law__2724 : zD KL_law_ 2724 (.aload_n 2) 1 2725 := ⟨dL_law__2724, rfl⟩
theorem dL_law__2725 : decode cL_law_ 2725 = .ok (.invokevirtual 170, 3) := by decide +kernel
theorem eL_law__2725 : zD KL_law_ 2725 (.invokevirtual 170) 3 2728 := ⟨dL_law__2725, rfl⟩
theorem dL_law__2728 : decode cL_law_ 2728 = .ok (.iload 5, 2) := by decide +kernel
theorem eL_law__2728 : zD KL_law_ 2728 (.iload 5) 2 2730 := ⟨dL_law__2728, rfl⟩
theorem dL_law__2730 : decode cL_law_ 2730 = .ok (.if_icmp .eq 5, 3) := by decide +kernel
theorem eL_law__2730 : zD KL_law_ 2730 (.if_icmp .eq 5) 3 2733 := ⟨dL_law__2730, rfl⟩
theorem dL_law__2733 : decode cL_law_ 2733 = .ok (.iconst 0, 1) := by decide +kernel
theorem eL_law__2733 : zD KL_law_ 2733 (.iconst 0) 1 2734 := ⟨dL_law__2733, rfl⟩
theorem dL_law__2734 : decode cL_law_ 2734 = .ok (.ireturn, 1) := by decide +kernel
theorem eL_law__2734 : zD KL_law_ 2734 (.ireturn) 1 2735 := ⟨dL_law__2734, rfl⟩
theorem dL_law__2735 : decode cL_law_ 2735 = .ok (.iload 5, 2) := by decide +kernel
theorem eL_law__2735 : zD KL_law_ 2735 (.iload 5) 2 2737 := ⟨dL_law__2735, rfl⟩
theorem dL_law__2737 : decode cL_law_ 2737 = .ok (.ifCond .ne 15, 3) := by decide +kernel
theorem eL_law__2737 : zD KL_law_ 2737 (.ifCond .ne 15) 3 2740 := ⟨dL_law__2737, rfl⟩
theorem dL_law__2740 : decode cL_law_ 2740 = .ok (.aload_n 3, 1) := by decide +kernel
theorem eL_law__2740 : zD KL_law_ 2740 (.aload_n 3) 1 2741 := ⟨dL_law__2740, rfl⟩
theorem dL_law__2741 : decode cL_law_ 2741 = .ok (.iconst 0, 1) := by decide +kernel
theorem eL_law__2741 : zD KL_law_ 2741 (.iconst 0) 1 2742 := ⟨dL_law__2741, rfl⟩
theorem dL_law__2742 : decode cL_law_ 2742 = .ok (.laload, 1) := by decide +kernel
theorem eL_law__2742 : zD KL_law_ 2742 (.laload) 1 2743 := ⟨dL_law__2742, rfl⟩
theorem dL_law__2743 : decode cL_law_ 2743 = .ok (.iload 6, 2) := by decide +kernel
theorem eL_law__2743 : zD KL_law_ 2743 (.iload 6) 2 2745 := ⟨dL_law__2743, rfl⟩
theorem dL_law__2745 : decode cL_law_ 2745 = .ok (.i2l, 1) := by decide +kernel
theorem eL_law__2745 : zD KL_law_ 2745 (.i2l) 1 2746 := ⟨dL_law__2745, rfl⟩
theorem dL_law__2746 : decode cL_law_ 2746 = .ok (.lcmp, 1) := by decide +kernel
theorem eL_law__2746 : zD KL_law_ 2746 (.lcmp) 1 2747 := ⟨dL_law__2746, rfl⟩
theorem dL_law__2747 : decode cL_law_ 2747 = .ok (.ifCond .eq 5, 3) := by decide +kernel
theorem eL_law__2747 : zD KL_law_ 2747 (.ifCond .eq 5) 3 2750 := ⟨dL_law__2747, rfl⟩
theorem dL_law__2750 : decode cL_law_ 2750 = .ok (.iconst 0, 1) := by decide +kernel
theorem eL_law__2750 : zD KL_law_ 2750 (.iconst 0) 1 2751 := ⟨dL_law__2750, rfl⟩
theorem dL_law__2751 : decode cL_law_ 2751 = .ok (.ireturn, 1) := by decide +kernel
theorem eL_law__2751 : zD KL_law_ 2751 (.ireturn) 1 2752 := ⟨dL_law__2751, rfl⟩
theorem dL_law__2752 : decode cL_law_ 2752 = .ok (.goto 600, 3) := by decide +kernel
theorem eL_law__2752 : zD KL_law_ 2752 (.goto 600) 3 2755 := ⟨dL_law__2752, rfl⟩
theorem dL_law__2755 : decode cL_law_ 2755 = .ok (.aload_n 1, 1) := by decide +kernel
theorem eL_law__2755 : zD KL_law_ 2755 (.aload_n 1) 1 2756 := ⟨dL_law__2755, rfl⟩
theorem dL_law__2756 : decode cL_law_ 2756 = .ok (.aload_n 0, 1) := by decide +kernel
theorem eL_law__2756 : zD KL_law_ 2756 (.aload_n 0) 1 2757 := ⟨dL_law__2756, rfl⟩
theorem dL_law__2757 : decode cL_law_ 2757 = .ok (.iload 4, 2) := by decide +kernel
theorem eL_law__2757 : zD KL_law_ 2757 (.iload 4) 2 2759 := ⟨dL_law__2757, rfl⟩
theorem dL_law__2759 : decode cL_law_ 2759 = .ok (.iconst 1, 1) := by decide +kernel
theorem eL_law__2759 : zD KL_law_ 2759 (.iconst 1) 1 2760 := ⟨dL_law__2759, rfl⟩
theorem dL_law__2760 : decode cL_law_ 2760 = .ok (.iadd, 1) := by decide +kernel
theorem eL_law__2760 : zD KL_law_ 2760 (.iadd) 1 2761 := ⟨dL_law__2760, rfl⟩
theorem dL_law__2761 : decode cL_law_ 2761 = .ok (.iaload, 1) := by decide +kernel
theorem eL_law__2761 : zD KL_law_ 2761 (.iaload) 1 2762 := ⟨dL_law__2761, rfl⟩
theorem dL_law__2762 : decode cL_law_ 2762 = .ok (.aload_n 3, 1) := by decide +kernel
theorem eL_law__2762 : zD KL_law_ 2762 (.aload_n 3) 1 2763 := ⟨dL_law__2762, rfl⟩
theorem dL_law__2763 : decode cL_law_ 2763 = .ok (.invokestatic 312, 3) := by decide +kernel
theorem eL_law__2763 : zD KL_law_ 2763 (.invokestatic 312) 3 2766 := ⟨dL_law__2763, rfl⟩
theorem dL_law__2766 : decode cL_law_ 2766 = .ok (.istore 5, 2) := by decide +kernel
theorem eL_law__2766 : zD KL_law_ 2766 (.istore 5) 2 2768 := ⟨dL_law__2766, rfl⟩
theorem dL_law__2768 : decode cL_law_ 2768 = .ok (.aload_n 2, 1) := by decide +kernel
theorem eL_law__2768 : zD KL_law_ 2768 (.aload_n 2) 1 2769 := ⟨dL_law__2768, rfl⟩
theorem dL_law__2769 : decode cL_law_ 2769 = .ok (.aload_n 0, 1) := by decide +kernel
theorem eL_law__2769 : zD KL_law_ 2769 (.aload_n 0) 1 2770 := ⟨dL_law__2769, rfl⟩
theorem dL_law__2770 : decode cL_law_ 2770 = .ok (.iload 4, 2) := by decide +kernel
theorem eL_law__2770 : zD KL_law_ 2770 (.iload 4) 2 2772 := ⟨dL_law__2770, rfl⟩
theorem dL_law__2772 : decode cL_law_ 2772 = .ok (.iconst 1, 1) := by decide +kernel
theorem eL_law__2772 : zD KL_law_ 2772 (.iconst 1) 1 2773 := ⟨dL_law__2772, rfl⟩
theorem dL_law__2773 : decode cL_law_ 2773 = .ok (.iadd, 1) := by decide +kernel
theorem eL_law__2773 : zD KL_law_ 2773 (.iadd) 1 2774 := ⟨dL_law__2773, rfl⟩
theorem dL_law__2774 : decode cL_law_ 2774 = .ok (.iaload, 1) := by decide +kernel
theorem eL_law__2774 : zD KL_law_ 2774 (.iaload) 1 2775 := ⟨dL_law__2774, rfl⟩
theorem dL_law__2775 : decode cL_law_ 2775 = .ok (.invokevirtual 314, 3) := by decide +kernel
theorem eL_law__2775 : zD KL_law_ 2775 (.invokevirtual 314) 3 2778 := ⟨dL_law__2775, rfl⟩
theorem dL_law__2778 : decode cL_law_ 2778 = .ok (.istore 6, 2) := by decide +kernel
theorem eL_law__2778 : zD KL_law_ 2778 (.istore 6) 2 2780 := ⟨dL_law__2778, rfl⟩
theorem dL_law__2780 : decode cL_law_ 2780 = .ok (.aload_n 2, 1) := by decide +kernel
theorem eL_law__2780 : zD KL_law_ 2780 (.aload_n 2) 1 2781 := ⟨dL_law__2780, rfl⟩
theorem dL_law__2781 : decode cL_law_ 2781 = .ok (.invokevirtual 170, 3) := by decide +kernel
theorem eL_law__2781 : zD KL_law_ 2781 (.invokevirtual 170) 3 2784 := ⟨dL_law__2781, rfl⟩
theorem dL_law__2784 : decode cL_law_ 2784 = .ok (.iload 5, 2) := by decide +kernel
theorem eL_law__2784 : zD KL_law_ 2784 (.iload 5) 2 2786 := ⟨dL_law__2784, rfl⟩
theorem dL_law__2786 : decode cL_law_ 2786 = .ok (.if_icmp .eq 5, 3) := by decide +kernel
theorem eL_law__2786 : zD KL_law_ 2786 (.if_icmp .eq 5) 3 2789 := ⟨dL_law__2786, rfl⟩
theorem dL_law__2789 : decode cL_law_ 2789 = .ok (.iconst 0, 1) := by decide +kernel
theorem eL_law__2789 : zD KL_law_ 2789 (.iconst 0) 1 2790 := ⟨dL_law__2789, rfl⟩
theorem dL_law__2790 : decode cL_law_ 2790 = .ok (.ireturn, 1) := by decide +kernel
theorem eL_law__2790 : zD KL_law_ 2790 (.ireturn) 1 2791 := ⟨dL_law__2790, rfl⟩
theorem dL_law__2791 : decode cL_law_ 2791 = .ok (.iload 5, 2) := by decide +kernel
theorem eL_law__2791 : zD KL_law_ 2791 (.iload 5) 2 2793 := ⟨dL_law__2791, rfl⟩
theorem dL_law__2793 : decode cL_law_ 2793 = .ok (.ifCond .ne 15, 3) := by decide +kernel
theorem eL_law__2793 : zD KL_law_ 2793 (.ifCond .ne 15) 3 2796 := ⟨dL_law__2793, rfl⟩
theorem dL_law__2796 : decode cL_law_ 2796 = .ok (.aload_n 3, 1) := by decide +kernel
theorem eL_law__2796 : zD KL_law_ 2796 (.aload_n 3) 1 2797 := ⟨dL_law__2796, rfl⟩
theorem dL_law__2797 : decode cL_law_ 2797 = .ok (.iconst 0, 1) := by decide +kernel
theorem eL_law__2797 : zD KL_law_ 2797 (.iconst 0) 1 2798 := ⟨dL_law__2797, rfl⟩
theorem dL_law__2798 : decode cL_law_ 2798 = .ok (.laload, 1) := by decide +kernel
theorem eL_law__2798 : zD KL_law_ 2798 (.laload) 1 2799 := ⟨dL_law__2798, rfl⟩
theorem dL_law__2799 : decode cL_law_ 2799 = .ok (.iload 6, 2) := by decide +kernel
theorem eL_law__2799 : zD KL_law_ 2799 (.iload 6) 2 2801 := ⟨dL_law__2799, rfl⟩
theorem dL_law__2801 : decode cL_law_ 2801 = .ok (.i2l, 1) := by decide +kernel
theorem eL_law__2801 : zD KL_law_ 2801 (.i2l) 1 2802 := ⟨dL_law__2801, rfl⟩
theorem dL_law__2802 : decode cL_law_ 2802 = .ok (.lcmp, 1) := by decide +kernel
theorem eL_law__2802 : zD KL_law_ 2802 (.lcmp) 1 2803 := ⟨dL_law__2802, rfl⟩
theorem dL_law__2803 : decode cL_law_ 2803 = .ok (.ifCond .eq 5, 3) := by decide +kernel
theorem eL_law__2803 : zD KL_law_ 2803 (.ifCond .eq 5) 3 2806 := ⟨dL_law__2803, rfl⟩
theorem dL_law__2806 : decode cL_law_ 2806 = .ok (.iconst 0, 1) := by decide +kernel
theorem eL_law__2806 : zD KL_law_ 2806 (.iconst 0) 1 2807 := ⟨dL_law__2806, rfl⟩
theorem dL_law__2807 : decode cL_law_ 2807 = .ok (.ireturn, 1) := by decide +kernel
theorem eL_law__2807 : zD KL_law_ 2807 (.ireturn) 1 2808 := ⟨dL_law__2807, rfl⟩
theorem dL_law__2808 : decode cL_law_ 2808 = .ok (.goto 544, 3) := by decide +kernel
theorem eL_law__2808 : zD KL_law_ 2808 (.goto 544) 3 2811 := ⟨dL_law__2808, rfl⟩
theorem dL_law__2811 : decode cL_law_ 2811 = .ok (.aload_n 1, 1) := by decide +kernel
theorem eL_law__2811 : zD KL_law_ 2811 (.aload_n 1) 1 2812 := ⟨dL_law__2811, rfl⟩
theorem dL_law__2812 : decode cL_law_ 2812 = .ok (.invokevirtual 315, 3) := by decide +kernel
theorem eL_law__2812 : zD KL_law_ 2812 (.invokevirtual 315) 3 2815 := ⟨dL_law__2812, rfl⟩
theorem dL_law__2815 : decode cL_law_ 2815 = .ok (.aload_n 2, 1) := by decide +kernel
theorem eL_law__2815 : zD KL_law_ 2815 (.aload_n 2) 1 2816 := ⟨dL_law__2815, rfl⟩
theorem dL_law__2816 : decode cL_law_ 2816 = .ok (.invokevirtual 319, 3) := by decide +kernel
theorem eL_law__2816 : zD KL_law_ 2816 (.invokevirtual 319) 3 2819 := ⟨dL_law__2816, rfl⟩
theorem dL_law__2819 : decode cL_law_ 2819 = .ok (.if_icmp .eq 533, 3) := by decide +kernel
theorem eL_law__2819 : zD KL_law_ 2819 (.if_icmp .eq 533) 3 2822 := ⟨dL_law__2819, rfl⟩
theorem dL_law__2822 : decode cL_law_ 2822 = .ok (.iconst 0, 1) := by decide +kernel
theorem eL_law__2822 : zD KL_law_ 2822 (.iconst 0) 1 2823 := ⟨dL_law__2822, rfl⟩
theorem dL_law__2823 : decode cL_law_ 2823 = .ok (.ireturn, 1) := by decide +kernel
theorem eL_law__2823 : zD KL_law_ 2823 (.ireturn) 1 2824 := ⟨dL_law__2823, rfl⟩
theorem dL_law__2824 : decode cL_law_ 2824 = .ok (.aload_n 1, 1) := by decide +kernel
theorem eL_law__2824 : zD KL_law_ 2824 (.aload_n 1) 1 2825 := ⟨dL_law__2824, rfl⟩
theorem dL_law__2825 : decode cL_law_ 2825 = .ok (.invokevirtual 320, 3) := by decide +kernel
theorem eL_law__2825 : zD KL_law_ 2825 (.invokevirtual 320) 3 2828 := ⟨dL_law__2825, rfl⟩
theorem dL_law__2828 : decode cL_law_ 2828 = .ok (.aload_n 2, 1) := by decide +kernel
theorem eL_law__2828 : zD KL_law_ 2828 (.aload_n 2) 1 2829 := ⟨dL_law__2828, rfl⟩
theorem dL_law__2829 : decode cL_law_ 2829 = .ok (.invokevirtual 323, 3) := by decide +kernel
theorem eL_law__2829 : zD KL_law_ 2829 (.invokevirtual 323) 3 2832 := ⟨dL_law__2829, rfl⟩
theorem dL_law__2832 : decode cL_law_ 2832 = .ok (.if_icmp .eq 520, 3) := by decide +kernel
theorem eL_law__2832 : zD KL_law_ 2832 (.if_icmp .eq 520) 3 2835 := ⟨dL_law__2832, rfl⟩
theorem dL_law__2835 : decode cL_law_ 2835 = .ok (.iconst 0, 1) := by decide +kernel
theorem eL_law__2835 : zD KL_law_ 2835 (.iconst 0) 1 2836 := ⟨dL_law__2835, rfl⟩
theorem dL_law__2836 : decode cL_law_ 2836 = .ok (.ireturn, 1) := by decide +kernel
theorem eL_law__2836 : zD KL_law_ 2836 (.ireturn) 1 2837 := ⟨dL_law__2836, rfl⟩
theorem dL_law__2837 : decode cL_law_ 2837 = .ok (.aload_n 1, 1) := by decide +kernel
theorem eL_law__2837 : zD KL_law_ 2837 (.aload_n 1) 1 2838 := ⟨dL_law__2837, rfl⟩
theorem dL_law__2838 : decode cL_law_ 2838 = .ok (.aload_n 0, 1) := by decide +kernel
theorem eL_law__2838 : zD KL_law_ 2838 (.aload_n 0) 1 2839 := ⟨dL_law__2838, rfl⟩
theorem dL_law__2839 : decode cL_law_ 2839 = .ok (.iload 4, 2) := by decide +kernel
theorem eL_law__2839 : zD KL_law_ 2839 (.iload 4) 2 2841 := ⟨dL_law__2839, rfl⟩
theorem dL_law__2841 : decode cL_law_ 2841 = .ok (.iconst 1, 1) := by decide +kernel
theorem eL_law__2841 : zD KL_law_ 2841 (.iconst 1) 1 2842 := ⟨dL_law__2841, rfl⟩
theorem dL_law__2842 : decode cL_law_ 2842 = .ok (.iadd, 1) := by decide +kernel
theorem eL_law__2842 : zD KL_law_ 2842 (.iadd) 1 2843 := ⟨dL_law__2842, rfl⟩
theorem dL_law__2843 : decode cL_law_ 2843 = .ok (.iaload, 1) := by decide +kernel
theorem eL_law__2843 : zD KL_law_ 2843 (.iaload) 1 2844 := ⟨dL_law__2843, rfl⟩
theorem dL_law__2844 : decode cL_law_ 2844 = .ok (.aload_n 3, 1) := by decide +kernel
theorem eL_law__2844 : zD KL_law_ 2844 (.aload_n 3) 1 2845 := ⟨dL_law__2844, rfl⟩
theorem dL_law__2845 : decode cL_law_ 2845 = .ok (.invokestatic 324, 3) := by decide +kernel
theorem eL_law__2845 : zD KL_law_ 2845 (.invokestatic 324) 3 2848 := ⟨dL_law__2845, rfl⟩
theorem dL_law__2848 : decode cL_law_ 2848 = .ok (.istore 5, 2) := by decide +kernel
theorem eL_law__2848 : zD KL_law_ 2848 (.istore 5) 2 2850 := ⟨dL_law__2848, rfl⟩
theorem dL_law__2850 : decode cL_law_ 2850 = .ok (.aload_n 2, 1) := by decide +kernel
theorem eL_law__2850 : zD KL_law_ 2850 (.aload_n 2) 1 2851 := ⟨dL_law__2850, rfl⟩
theorem dL_law__2851 : decode cL_law_ 2851 = .ok (.aload_n 0, 1) := by decide +kernel
theorem eL_law__2851 : zD KL_law_ 2851 (.aload_n 0) 1 2852 := ⟨dL_law__2851, rfl⟩
theorem dL_law__2852 : decode cL_law_ 2852 = .ok (.iload 4, 2) := by decide +kernel
theorem eL_law__2852 : zD KL_law_ 2852 (.iload 4) 2 2854 := ⟨dL_law__2852, rfl⟩
theorem dL_law__2854 : decode cL_law_ 2854 = .ok (.iconst 1, 1) := by decide +kernel
theorem eL_law__2854 : zD KL_law_ 2854 (.iconst 1) 1 2855 := ⟨dL_law__2854, rfl⟩
theorem dL_law__2855 : decode cL_law_ 2855 = .ok (.iadd, 1) := by decide +kernel
theorem eL_law__2855 : zD KL_law_ 2855 (.iadd) 1 2856 := ⟨dL_law__2855, rfl⟩
theorem dL_law__2856 : decode cL_law_ 2856 = .ok (.iaload, 1) := by decide +kernel
theorem eL_law__2856 : zD KL_law_ 2856 (.iaload) 1 2857 := ⟨dL_law__2856, rfl⟩
theorem dL_law__2857 : decode cL_law_ 2857 = .ok (.invokevirtual 326, 3) := by decide +kernel
theorem eL_law__2857 : zD KL_law_ 2857 (.invokevirtual 326) 3 2860 := ⟨dL_law__2857, rfl⟩
theorem dL_law__2860 : decode cL_law_ 2860 = .ok (.istore 6, 2) := by decide +kernel
theorem eL_law__2860 : zD KL_law_ 2860 (.istore 6) 2 2862 := ⟨dL_law__2860, rfl⟩
theorem dL_law__2862 : decode cL_law_ 2862 = .ok (.aload_n 2, 1) := by decide +kernel
theorem eL_law__2862 : zD KL_law_ 2862 (.aload_n 2) 1 2863 := ⟨dL_law__2862, rfl⟩
theorem dL_law__2863 : decode cL_law_ 2863 = .ok (.invokevirtual 170, 3) := by decide +kernel
theorem eL_law__2863 : zD KL_law_ 2863 (.invokevirtual 170) 3 2866 := ⟨dL_law__2863, rfl⟩
theorem dL_law__2866 : decode cL_law_ 2866 = .ok (.iload 5, 2) := by decide +kernel
theorem eL_law__2866 : zD KL_law_ 2866 (.iload 5) 2 2868 := ⟨dL_law__2866, rfl⟩
theorem dL_law__2868 : decode cL_law_ 2868 = .ok (.if_icmp .eq 5, 3) := by decide +kernel
theorem eL_law__2868 : zD KL_law_ 2868 (.if_icmp .eq 5) 3 2871 := ⟨dL_law__2868, rfl⟩
theorem dL_law__2871 : decode cL_law_ 2871 = .ok (.iconst 0, 1) := by decide +kernel
theorem eL_law__2871 : zD KL_law_ 2871 (.iconst 0) 1 2872 := ⟨dL_law__2871, rfl⟩
theorem dL_law__2872 : decode cL_law_ 2872 = .ok (.ireturn, 1) := by decide +kernel
theorem eL_law__2872 : zD KL_law_ 2872 (.ireturn) 1 2873 := ⟨dL_law__2872, rfl⟩
theorem dL_law__2873 : decode cL_law_ 2873 = .ok (.iload 5, 2) := by decide +kernel
theorem eL_law__2873 : zD KL_law_ 2873 (.iload 5) 2 2875 := ⟨dL_law__2873, rfl⟩
theorem dL_law__2875 : decode cL_law_ 2875 = .ok (.ifCond .ne 15, 3) := by decide +kernel
theorem eL_law__2875 : zD KL_law_ 2875 (.ifCond .ne 15) 3 2878 := ⟨dL_law__2875, rfl⟩
theorem dL_law__2878 : decode cL_law_ 2878 = .ok (.aload_n 3, 1) := by decide +kernel
theorem eL_law__2878 : zD KL_law_ 2878 (.aload_n 3) 1 2879 := ⟨dL_law__2878, rfl⟩
theorem dL_law__2879 : decode cL_law_ 2879 = .ok (.iconst 0, 1) := by decide +kernel
theorem eL_law__2879 : zD KL_law_ 2879 (.iconst 0) 1 2880 := ⟨dL_law__2879, rfl⟩
theorem dL_law__2880 : decode cL_law_ 2880 = .ok (.laload, 1) := by decide +kernel
theorem eL_law__2880 : zD KL_law_ 2880 (.laload) 1 2881 := ⟨dL_law__2880, rfl⟩
theorem dL_law__2881 : decode cL_law_ 2881 = .ok (.iload 6, 2) := by decide +kernel
theorem eL_law__2881 : zD KL_law_ 2881 (.iload 6) 2 2883 := ⟨dL_law__2881, rfl⟩
theorem dL_law__2883 : decode cL_law_ 2883 = .ok (.i2l, 1) := by decide +kernel
theorem eL_law__2883 : zD KL_law_ 2883 (.i2l) 1 2884 := ⟨dL_law__2883, rfl⟩
theorem dL_law__2884 : decode cL_law_ 2884 = .ok (.lcmp, 1) := by decide +kernel
theorem eL_law__2884 : zD KL_law_ 2884 (.lcmp) 1 2885 := ⟨dL_law__2884, rfl⟩
theorem dL_law__2885 : decode cL_law_ 2885 = .ok (.ifCond .eq 5, 3) := by decide +kernel
theorem eL_law__2885 : zD KL_law_ 2885 (.ifCond .eq 5) 3 2888 := ⟨dL_law__2885, rfl⟩
theorem dL_law__2888 : decode cL_law_ 2888 = .ok (.iconst 0, 1) := by decide +kernel
theorem eL_law__2888 : zD KL_law_ 2888 (.iconst 0) 1 2889 := ⟨dL_law__2888, rfl⟩
theorem dL_law__2889 : decode cL_law_ 2889 = .ok (.ireturn, 1) := by decide +kernel
theorem eL_law__2889 : zD KL_law_ 2889 (.ireturn) 1 2890 := ⟨dL_law__2889, rfl⟩
theorem dL_law__2890 : decode cL_law_ 2890 = .ok (.goto 462, 3) := by decide +kernel
theorem eL_law__2890 : zD KL_law_ 2890 (.goto 462) 3 2893 := ⟨dL_law__2890, rfl⟩
theorem dL_law__2893 : decode cL_law_ 2893 = .ok (.aload_n 1, 1) := by decide +kernel
theorem eL_law__2893 : zD KL_law_ 2893 (.aload_n 1) 1 2894 := ⟨dL_law__2893, rfl⟩
theorem dL_law__2894 : decode cL_law_ 2894 = .ok (.invokevirtual 327, 3) := by decide +kernel
theorem eL_law__2894 : zD KL_law_ 2894 (.invokevirtual 327) 3 2897 := ⟨dL_law__2894, rfl⟩
theorem dL_law__2897 : decode cL_law_ 2897 = .ok (.aload_n 2, 1) := by decide +kernel
theorem eL_law__2897 : zD KL_law_ 2897 (.aload_n 2) 1 2898 := ⟨dL_law__2897, rfl⟩
theorem dL_law__2898 : decode cL_law_ 2898 = .ok (.invokevirtual 330, 3) := by decide +kernel
theorem eL_law__2898 : zD KL_law_ 2898 (.invokevirtual 330) 3 2901 := ⟨dL_law__2898, rfl⟩
theorem dL_law__2901 : decode cL_law_ 2901 = .ok (.if_icmp .eq 451, 3) := by decide +kernel
theorem eL_law__2901 : zD KL_law_ 2901 (.if_icmp .eq 451) 3 2904 := ⟨dL_law__2901, rfl⟩
theorem dL_law__2904 : decode cL_law_ 2904 = .ok (.iconst 0, 1) := by decide +kernel
theorem eL_law__2904 : zD KL_law_ 2904 (.iconst 0) 1 2905 := ⟨dL_law__2904, rfl⟩
theorem dL_law__2905 : decode cL_law_ 2905 = .ok (.ireturn, 1) := by decide +kernel
theorem eL_law__2905 : zD KL_law_ 2905 (.ireturn) 1 2906 := ⟨dL_law__2905, rfl⟩
theorem dL_law__2906 : decode cL_law_ 2906 = .ok (.aload_n 1, 1) := by decide +kernel
theorem eL_law__2906 : zD KL_law_ 2906 (.aload_n 1) 1 2907 := ⟨dL_law__2906, rfl⟩
theorem dL_law__2907 : decode cL_law_ 2907 = .ok (.invokevirtual 331, 3) := by decide +kernel
theorem eL_law__2907 : zD KL_law_ 2907 (.invokevirtual 331) 3 2910 := ⟨dL_law__2907, rfl⟩
theorem dL_law__2910 : decode cL_law_ 2910 = .ok (.aload_n 2, 1) := by decide +kernel
theorem eL_law__2910 : zD KL_law_ 2910 (.aload_n 2) 1 2911 := ⟨dL_law__2910, rfl⟩
theorem dL_law__2911 : decode cL_law_ 2911 = .ok (.invokevirtual 334, 3) := by decide +kernel
theorem eL_law__2911 : zD KL_law_ 2911 (.invokevirtual 334) 3 2914 := ⟨dL_law__2911, rfl⟩
theorem dL_law__2914 : decode cL_law_ 2914 = .ok (.if_icmp .eq 438, 3) := by decide +kernel
theorem eL_law__2914 : zD KL_law_ 2914 (.if_icmp .eq 438) 3 2917 := ⟨dL_law__2914, rfl⟩
theorem dL_law__2917 : decode cL_law_ 2917 = .ok (.iconst 0, 1) := by decide +kernel
theorem eL_law__2917 : zD KL_law_ 2917 (.iconst 0) 1 2918 := ⟨dL_law__2917, rfl⟩
theorem dL_law__2918 : decode cL_law_ 2918 = .ok (.ireturn, 1) := by decide +kernel
theorem eL_law__2918 : zD KL_law_ 2918 (.ireturn) 1 2919 := ⟨dL_law__2918, rfl⟩
theorem dL_law__2919 : decode cL_law_ 2919 = .ok (.aload_n 1, 1) := by decide +kernel
theorem eL_law__2919 : zD KL_law_ 2919 (.aload_n 1) 1 2920 := ⟨dL_law__2919, rfl⟩
theorem dL_law__2920 : decode cL_law_ 2920 = .ok (.invokevirtual 335, 3) := by decide +kernel
theorem eL_law__2920 : zD KL_law_ 2920 (.invokevirtual 335) 3 2923 := ⟨dL_law__2920, rfl⟩
theorem dL_law__2923 : decode cL_law_ 2923 = .ok (.aload_n 2, 1) := by decide +kernel
theorem eL_law__2923 : zD KL_law_ 2923 (.aload_n 2) 1 2924 := ⟨dL_law__2923, rfl⟩
theorem dL_law__2924 : decode cL_law_ 2924 = .ok (.invokevirtual 338, 3) := by decide +kernel
theorem eL_law__2924 : zD KL_law_ 2924 (.invokevirtual 338) 3 2927 := ⟨dL_law__2924, rfl⟩
theorem dL_law__2927 : decode cL_law_ 2927 = .ok (.if_icmp .eq 425, 3) := by decide +kernel
theorem eL_law__2927 : zD KL_law_ 2927 (.if_icmp .eq 425) 3 2930 := ⟨dL_law__2927, rfl⟩
theorem dL_law__2930 : decode cL_law_ 2930 = .ok (.iconst 0, 1) := by decide +kernel
theorem eL_law__2930 : zD KL_law_ 2930 (.iconst 0) 1 2931 := ⟨dL_law__2930, rfl⟩
theorem dL_law__2931 : decode cL_law_ 2931 = .ok (.ireturn, 1) := by decide +kernel
theorem eL_law__2931 : zD KL_law_ 2931 (.ireturn) 1 2932 := ⟨dL_law__2931, rfl⟩
theorem dL_law__2932 : decode cL_law_ 2932 = .ok (.aload_n 1, 1) := by decide +kernel
theorem eL_law__2932 : zD KL_law_ 2932 (.aload_n 1) 1 2933 := ⟨dL_law__2932, rfl⟩
theorem dL_law__2933 : decode cL_law_ 2933 = .ok (.invokevirtual 339, 3) := by decide +kernel
theorem eL_law__2933 : zD KL_law_ 2933 (.invokevirtual 339) 3 2936 := ⟨dL_law__2933, rfl⟩
theorem dL_law__2936 : decode cL_law_ 2936 = .ok (.aload_n 2, 1) := by decide +kernel
theorem eL_law__2936 : zD KL_law_ 2936 (.aload_n 2) 1 2937 := ⟨dL_law__2936, rfl⟩
theorem dL_law__2937 : decode cL_law_ 2937 = .ok (.invokevirtual 342, 3) := by decide +kernel
theorem eL_law__2937 : zD KL_law_ 2937 (.invokevirtual 342) 3 2940 := ⟨dL_law__2937, rfl⟩
theorem dL_law__2940 : decode cL_law_ 2940 = .ok (.if_icmp .eq 412, 3) := by decide +kernel
theorem eL_law__2940 : zD KL_law_ 2940 (.if_icmp .eq 412) 3 2943 := ⟨dL_law__2940, rfl⟩
theorem dL_law__2943 : decode cL_law_ 2943 = .ok (.iconst 0, 1) := by decide +kernel
theorem eL_law__2943 : zD KL_law_ 2943 (.iconst 0) 1 2944 := ⟨dL_law__2943, rfl⟩
theorem dL_law__2944 : decode cL_law_ 2944 = .ok (.ireturn, 1) := by decide +kernel
theorem eL_law__2944 : zD KL_law_ 2944 (.ireturn) 1 2945 := ⟨dL_law__2944, rfl⟩
theorem dL_law__2945 : decode cL_law_ 2945 = .ok (.aload_n 1, 1) := by decide +kernel
theorem eL_law__2945 : zD KL_law_ 2945 (.aload_n 1) 1 2946 := ⟨dL_law__2945, rfl⟩
theorem dL_law__2946 : decode cL_law_ 2946 = .ok (.aload_n 0, 1) := by decide +kernel
theorem eL_law__2946 : zD KL_law_ 2946 (.aload_n 0) 1 2947 := ⟨dL_law__2946, rfl⟩
theorem dL_law__2947 : decode cL_law_ 2947 = .ok (.iload 4, 2) := by decide +kernel
theorem eL_law__2947 : zD KL_law_ 2947 (.iload 4) 2 2949 := ⟨dL_law__2947, rfl⟩
theorem dL_law__2949 : decode cL_law_ 2949 = .ok (.iconst 1, 1) := by decide +kernel
theorem eL_law__2949 : zD KL_law_ 2949 (.iconst 1) 1 2950 := ⟨dL_law__2949, rfl⟩
theorem dL_law__2950 : decode cL_law_ 2950 = .ok (.iadd, 1) := by decide +kernel
theorem eL_law__2950 : zD KL_law_ 2950 (.iadd) 1 2951 := ⟨dL_law__2950, rfl⟩
theorem dL_law__2951 : decode cL_law_ 2951 = .ok (.iaload, 1) := by decide +kernel
theorem eL_law__2951 : zD KL_law_ 2951 (.iaload) 1 2952 := ⟨dL_law__2951, rfl⟩
theorem dL_law__2952 : decode cL_law_ 2952 = .ok (.aload_n 0, 1) := by decide +kernel
theorem eL_law__2952 : zD KL_law_ 2952 (.aload_n 0) 1 2953 := ⟨dL_law__2952, rfl⟩
theorem dL_law__2953 : decode cL_law_ 2953 = .ok (.iload 4, 2) := by decide +kernel
theorem eL_law__2953 : zD KL_law_ 2953 (.iload 4) 2 2955 := ⟨dL_law__2953, rfl⟩
theorem dL_law__2955 : decode cL_law_ 2955 = .ok (.iconst 2, 1) := by decide +kernel
theorem eL_law__2955 : zD KL_law_ 2955 (.iconst 2) 1 2956 := ⟨dL_law__2955, rfl⟩
theorem dL_law__2956 : decode cL_law_ 2956 = .ok (.iadd, 1) := by decide +kernel
theorem eL_law__2956 : zD KL_law_ 2956 (.iadd) 1 2957 := ⟨dL_law__2956, rfl⟩
theorem dL_law__2957 : decode cL_law_ 2957 = .ok (.iaload, 1) := by decide +kernel
theorem eL_law__2957 : zD KL_law_ 2957 (.iaload) 1 2958 := ⟨dL_law__2957, rfl⟩
theorem dL_law__2958 : decode cL_law_ 2958 = .ok (.ifCond .eq 7, 3) := by decide +kernel
theorem eL_law__2958 : zD KL_law_ 2958 (.ifCond .eq 7) 3 2961 := ⟨dL_law__2958, rfl⟩
theorem dL_law__2961 : decode cL_law_ 2961 = .ok (.iconst 1, 1) := by decide +kernel
theorem eL_law__2961 : zD KL_law_ 2961 (.iconst 1) 1 2962 := ⟨dL_law__2961, rfl⟩
theorem dL_law__2962 : decode cL_law_ 2962 = .ok (.goto 4, 3) := by decide +kernel
theorem eL_law__2962 : zD KL_law_ 2962 (.goto 4) 3 2965 := ⟨dL_law__2962, rfl⟩
theorem dL_law__2965 : decode cL_law_ 2965 = .ok (.iconst 0, 1) := by decide +kernel
theorem eL_law__2965 : zD KL_law_ 2965 (.iconst 0) 1 2966 := ⟨dL_law__2965, rfl⟩
theorem dL_law__2966 : decode cL_law_ 2966 = .ok (.aload_n 3, 1) := by decide +kernel
theorem eL_law__2966 : zD KL_law_ 2966 (.aload_n 3) 1 2967 := ⟨dL_law__2966, rfl⟩
theorem dL_law__2967 : decode cL_law_ 2967 = .ok (.invokestatic 343, 3) := by decide +kernel
theorem eL_law__2967 : zD KL_law_ 2967 (.invokestatic 343) 3 2970 := ⟨dL_law__2967, rfl⟩
theorem dL_law__2970 : decode cL_law_ 2970 = .ok (.istore 5, 2) := by decide +kernel
theorem eL_law__2970 : zD KL_law_ 2970 (.istore 5) 2 2972 := ⟨dL_law__2970, rfl⟩
theorem dL_law__2972 : decode cL_law_ 2972 = .ok (.aload_n 2, 1) := by decide +kernel
theorem eL_law__2972 : zD KL_law_ 2972 (.aload_n 2) 1 2973 := ⟨dL_law__2972, rfl⟩
theorem dL_law__2973 : decode cL_law_ 2973 = .ok (.aload_n 0, 1) := by decide +kernel
theorem eL_law__2973 : zD KL_law_ 2973 (.aload_n 0) 1 2974 := ⟨dL_law__2973, rfl⟩
theorem dL_law__2974 : decode cL_law_ 2974 = .ok (.iload 4, 2) := by decide +kernel
theorem eL_law__2974 : zD KL_law_ 2974 (.iload 4) 2 2976 := ⟨dL_law__2974, rfl⟩
theorem dL_law__2976 : decode cL_law_ 2976 = .ok (.iconst 1, 1) := by decide +kernel
theorem eL_law__2976 : zD KL_law_ 2976 (.iconst 1) 1 2977 := ⟨dL_law__2976, rfl⟩
theorem dL_law__2977 : decode cL_law_ 2977 = .ok (.iadd, 1) := by decide +kernel
theorem eL_law__2977 : zD KL_law_ 2977 (.iadd) 1 2978 := ⟨dL_law__2977, rfl⟩
theorem dL_law__2978 : decode cL_law_ 2978 = .ok (.iaload, 1) := by decide +kernel
theorem eL_law__2978 : zD KL_law_ 2978 (.iaload) 1 2979 := ⟨dL_law__2978, rfl⟩
theorem dL_law__2979 : decode cL_law_ 2979 = .ok (.aload_n 0, 1) := by decide +kernel
theorem eL_law__2979 : zD KL_law_ 2979 (.aload_n 0) 1 2980 := ⟨dL_law__2979, rfl⟩
theorem dL_law__2980 : decode cL_law_ 2980 = .ok (.iload 4, 2) := by decide +kernel
theorem eL_law__2980 : zD KL_law_ 2980 (.iload 4) 2 2982 := ⟨dL_law__2980, rfl⟩
theorem dL_law__2982 : decode cL_law_ 2982 = .ok (.iconst 2, 1) := by decide +kernel
theorem eL_law__2982 : zD KL_law_ 2982 (.iconst 2) 1 2983 := ⟨dL_law__2982, rfl⟩
theorem dL_law__2983 : decode cL_law_ 2983 = .ok (.iadd, 1) := by decide +kernel
theorem eL_law__2983 : zD KL_law_ 2983 (.iadd) 1 2984 := ⟨dL_law__2983, rfl⟩
theorem dL_law__2984 : decode cL_law_ 2984 = .ok (.iaload, 1) := by decide +kernel
theorem eL_law__2984 : zD KL_law_ 2984 (.iaload) 1 2985 := ⟨dL_law__2984, rfl⟩
theorem dL_law__2985 : decode cL_law_ 2985 = .ok (.ifCond .eq 7, 3) := by decide +kernel
theorem eL_law__2985 : zD KL_law_ 2985 (.ifCond .eq 7) 3 2988 := ⟨dL_law__2985, rfl⟩
theorem dL_law__2988 : decode cL_law_ 2988 = .ok (.iconst 1, 1) := by decide +kernel
theorem eL_law__2988 : zD KL_law_ 2988 (.iconst 1) 1 2989 := ⟨dL_law__2988, rfl⟩
theorem dL_law__2989 : decode cL_law_ 2989 = .ok (.goto 4, 3) := by decide +kernel
theorem eL_law__2989 : zD KL_law_ 2989 (.goto 4) 3 2992 := ⟨dL_law__2989, rfl⟩
theorem dL_law__2992 : decode cL_law_ 2992 = .ok (.iconst 0, 1) := by decide +kernel
theorem eL_law__2992 : zD KL_law_ 2992 (.iconst 0) 1 2993 := ⟨dL_law__2992, rfl⟩
theorem dL_law__2993 : decode cL_law_ 2993 = .ok (.invokevirtual 345, 3) := by decide +kernel
theorem eL_law__2993 : zD KL_law_ 2993 (.invokevirtual 345) 3 2996 := ⟨dL_law__2993, rfl⟩
theorem dL_law__2996 : decode cL_law_ 2996 = .ok (.istore 6, 2) := by decide +kernel
theorem eL_law__2996 : zD KL_law_ 2996 (.istore 6) 2 2998 := ⟨dL_law__2996, rfl⟩
theorem dL_law__2998 : decode cL_law_ 2998 = .ok (.aload_n 2, 1) := by decide +kernel
theorem eL_law__2998 : zD KL_law_ 2998 (.aload_n 2) 1 2999 := ⟨dL_law__2998, rfl⟩
theorem dL_law__2999 : decode cL_law_ 2999 = .ok (.invokevirtual 170, 3) := by decide +kernel
theorem eL_law__2999 : zD KL_law_ 2999 (.invokevirtual 170) 3 3002 := ⟨dL_law__2999, rfl⟩
theorem dL_law__3002 : decode cL_law_ 3002 = .ok (.iload 5, 2) := by decide +kernel
theorem eL_law__3002 : zD KL_law_ 3002 (.iload 5) 2 3004 := ⟨dL_law__3002, rfl⟩
theorem dL_law__3004 : decode cL_law_ 3004 = .ok (.if_icmp .eq 5, 3) := by decide +kernel
theorem eL_law__3004 : zD KL_law_ 3004 (.if_icmp .eq 5) 3 3007 := ⟨dL_law__3004, rfl⟩
theorem dL_law__3007 : decode cL_law_ 3007 = .ok (.iconst 0, 1) := by decide +kernel
theorem eL_law__3007 : zD KL_law_ 3007 (.iconst 0) 1 3008 := ⟨dL_law__3007, rfl⟩
theorem dL_law__3008 : decode cL_law_ 3008 = .ok (.ireturn, 1) := by decide +kernel
theorem eL_law__3008 : zD KL_law_ 3008 (.ireturn) 1 3009 := ⟨dL_law__3008, rfl⟩
theorem dL_law__3009 : decode cL_law_ 3009 = .ok (.iload 5, 2) := by decide +kernel
theorem eL_law__3009 : zD KL_law_ 3009 (.iload 5) 2 3011 := ⟨dL_law__3009, rfl⟩
theorem dL_law__3011 : decode cL_law_ 3011 = .ok (.ifCond .ne 15, 3) := by decide +kernel
theorem eL_law__3011 : zD KL_law_ 3011 (.ifCond .ne 15) 3 3014 := ⟨dL_law__3011, rfl⟩
theorem dL_law__3014 : decode cL_law_ 3014 = .ok (.aload_n 3, 1) := by decide +kernel
theorem eL_law__3014 : zD KL_law_ 3014 (.aload_n 3) 1 3015 := ⟨dL_law__3014, rfl⟩
theorem dL_law__3015 : decode cL_law_ 3015 = .ok (.iconst 0, 1) := by decide +kernel
theorem eL_law__3015 : zD KL_law_ 3015 (.iconst 0) 1 3016 := ⟨dL_law__3015, rfl⟩
theorem dL_law__3016 : decode cL_law_ 3016 = .ok (.laload, 1) := by decide +kernel
theorem eL_law__3016 : zD KL_law_ 3016 (.laload) 1 3017 := ⟨dL_law__3016, rfl⟩
theorem dL_law__3017 : decode cL_law_ 3017 = .ok (.iload 6, 2) := by decide +kernel
theorem eL_law__3017 : zD KL_law_ 3017 (.iload 6) 2 3019 := ⟨dL_law__3017, rfl⟩
theorem dL_law__3019 : decode cL_law_ 3019 = .ok (.i2l, 1) := by decide +kernel
theorem eL_law__3019 : zD KL_law_ 3019 (.i2l) 1 3020 := ⟨dL_law__3019, rfl⟩
theorem dL_law__3020 : decode cL_law_ 3020 = .ok (.lcmp, 1) := by decide +kernel
theorem eL_law__3020 : zD KL_law_ 3020 (.lcmp) 1 3021 := ⟨dL_law__3020, rfl⟩
theorem dL_law__3021 : decode cL_law_ 3021 = .ok (.ifCond .eq 5, 3) := by decide +kernel
theorem eL_law__3021 : zD KL_law_ 3021 (.ifCond .eq 5) 3 3024 := ⟨dL_law__3021, rfl⟩
theorem dL_law__3024 : decode cL_law_ 3024 = .ok (.iconst 0, 1) := by decide +kernel
theorem eL_law__3024 : zD KL_law_ 3024 (.iconst 0) 1 3025 := ⟨dL_law__3024, rfl⟩
theorem dL_law__3025 : decode cL_law_ 3025 = .ok (.ireturn, 1) := by decide +kernel
theorem eL_law__3025 : zD KL_law_ 3025 (.ireturn) 1 3026 := ⟨dL_law__3025, rfl⟩
theorem dL_law__3026 : decode cL_law_ 3026 = .ok (.goto 326, 3) := by decide +kernel
theorem eL_law__3026 : zD KL_law_ 3026 (.goto 326) 3 3029 := ⟨dL_law__3026, rfl⟩
theorem dL_law__3029 : decode cL_law_ 3029 = .ok (.aload_n 1, 1) := by decide +kernel
theorem eL_law__3029 : zD KL_law_ 3029 (.aload_n 1) 1 3030 := ⟨dL_law__3029, rfl⟩
theorem dL_law__3030 : decode cL_law_ 3030 = .ok (.aload_n 0, 1) := by decide +kernel
theorem eL_law__3030 : zD KL_law_ 3030 (.aload_n 0) 1 3031 := ⟨dL_law__3030, rfl⟩
theorem dL_law__3031 : decode cL_law_ 3031 = .ok (.iload 4, 2) := by decide +kernel
theorem eL_law__3031 : zD KL_law_ 3031 (.iload 4) 2 3033 := ⟨dL_law__3031, rfl⟩
theorem dL_law__3033 : decode cL_law_ 3033 = .ok (.iconst 1, 1) := by decide +kernel
theorem eL_law__3033 : zD KL_law_ 3033 (.iconst 1) 1 3034 := ⟨dL_law__3033, rfl⟩
theorem dL_law__3034 : decode cL_law_ 3034 = .ok (.iadd, 1) := by decide +kernel
theorem eL_law__3034 : zD KL_law_ 3034 (.iadd) 1 3035 := ⟨dL_law__3034, rfl⟩
theorem dL_law__3035 : decode cL_law_ 3035 = .ok (.iaload, 1) := by decide +kernel
theorem eL_law__3035 : zD KL_law_ 3035 (.iaload) 1 3036 := ⟨dL_law__3035, rfl⟩
theorem dL_law__3036 : decode cL_law_ 3036 = .ok (.aload_n 0, 1) := by decide +kernel
theorem eL_law__3036 : zD KL_law_ 3036 (.aload_n 0) 1 3037 := ⟨dL_law__3036, rfl⟩
theorem dL_law__3037 : decode cL_law_ 3037 = .ok (.iload 4, 2) := by decide +kernel
theorem eL_law__3037 : zD KL_law_ 3037 (.iload 4) 2 3039 := ⟨dL_law__3037, rfl⟩
theorem dL_law__3039 : decode cL_law_ 3039 = .ok (.iconst 2, 1) := by decide +kernel
theorem eL_law__3039 : zD KL_law_ 3039 (.iconst 2) 1 3040 := ⟨dL_law__3039, rfl⟩
theorem dL_law__3040 : decode cL_law_ 3040 = .ok (.iadd, 1) := by decide +kernel
theorem eL_law__3040 : zD KL_law_ 3040 (.iadd) 1 3041 := ⟨dL_law__3040, rfl⟩
theorem dL_law__3041 : decode cL_law_ 3041 = .ok (.iaload, 1) := by decide +kernel
theorem eL_law__3041 : zD KL_law_ 3041 (.iaload) 1 3042 := ⟨dL_law__3041, rfl⟩
theorem dL_law__3042 : decode cL_law_ 3042 = .ok (.ifCond .eq 7, 3) := by decide +kernel
theorem eL_law__3042 : zD KL_law_ 3042 (.ifCond .eq 7) 3 3045 := ⟨dL_law__3042, rfl⟩
theorem dL_law__3045 : decode cL_law_ 3045 = .ok (.iconst 1, 1) := by decide +kernel
theorem eL_law__3045 : zD KL_law_ 3045 (.iconst 1) 1 3046 := ⟨dL_law__3045, rfl⟩
theorem dL_law__3046 : decode cL_law_ 3046 = .ok (.goto 4, 3) := by decide +kernel
theorem eL_law__3046 : zD KL_law_ 3046 (.goto 4) 3 3049 := ⟨dL_law__3046, rfl⟩
theorem dL_law__3049 : decode cL_law_ 3049 = .ok (.iconst 0, 1) := by decide +kernel
theorem eL_law__3049 : zD KL_law_ 3049 (.iconst 0) 1 3050 := ⟨dL_law__3049, rfl⟩
theorem dL_law__3050 : decode cL_law_ 3050 = .ok (.aload_n 3, 1) := by decide +kernel
theorem eL_law__3050 : zD KL_law_ 3050 (.aload_n 3) 1 3051 := ⟨dL_law__3050, rfl⟩
theorem dL_law__3051 : decode cL_law_ 3051 = .ok (.invokestatic 346, 3) := by decide +kernel
theorem eL_law__3051 : zD KL_law_ 3051 (.invokestatic 346) 3 3054 := ⟨dL_law__3051, rfl⟩
theorem dL_law__3054 : decode cL_law_ 3054 = .ok (.istore 5, 2) := by decide +kernel
theorem eL_law__3054 : zD KL_law_ 3054 (.istore 5) 2 3056 := ⟨dL_law__3054, rfl⟩
theorem dL_law__3056 : decode cL_law_ 3056 = .ok (.aload_n 2, 1) := by decide +kernel
theorem eL_law__3056 : zD KL_law_ 3056 (.aload_n 2) 1 3057 := ⟨dL_law__3056, rfl⟩
theorem dL_law__3057 : decode cL_law_ 3057 = .ok (.aload_n 0, 1) := by decide +kernel
theorem eL_law__3057 : zD KL_law_ 3057 (.aload_n 0) 1 3058 := ⟨dL_law__3057, rfl⟩
theorem dL_law__3058 : decode cL_law_ 3058 = .ok (.iload 4, 2) := by decide +kernel
theorem eL_law__3058 : zD KL_law_ 3058 (.iload 4) 2 3060 := ⟨dL_law__3058, rfl⟩
theorem dL_law__3060 : decode cL_law_ 3060 = .ok (.iconst 1, 1) := by decide +kernel
theorem eL_law__3060 : zD KL_law_ 3060 (.iconst 1) 1 3061 := ⟨dL_law__3060, rfl⟩
theorem dL_law__3061 : decode cL_law_ 3061 = .ok (.iadd, 1) := by decide +kernel
theorem eL_law__3061 : zD KL_law_ 3061 (.iadd) 1 3062 := ⟨dL_law__3061, rfl⟩
theorem dL_law__3062 : decode cL_law_ 3062 = .ok (.iaload, 1) := by decide +kernel
theorem eL_law__3062 : zD KL_law_ 3062 (.iaload) 1 3063 := ⟨dL_law__3062, rfl⟩
theorem dL_law__3063 : decode cL_law_ 3063 = .ok (.aload_n 0, 1) := by decide +kernel
theorem eL_law__3063 : zD KL_law_ 3063 (.aload_n 0) 1 3064 := ⟨dL_law__3063, rfl⟩
theorem dL_law__3064 : decode cL_law_ 3064 = .ok (.iload 4, 2) := by decide +kernel
theorem eL_law__3064 : zD KL_law_ 3064 (.iload 4) 2 3066 := ⟨dL_law__3064, rfl⟩
theorem dL_law__3066 : decode cL_law_ 3066 = .ok (.iconst 2, 1) := by decide +kernel
theorem eL_law__3066 : zD KL_law_ 3066 (.iconst 2) 1 3067 := ⟨dL_law__3066, rfl⟩
theorem dL_law__3067 : decode cL_law_ 3067 = .ok (.iadd, 1) := by decide +kernel
theorem eL_law__3067 : zD KL_law_ 3067 (.iadd) 1 3068 := ⟨dL_law__3067, rfl⟩
theorem dL_law__3068 : decode cL_law_ 3068 = .ok (.iaload, 1) := by decide +kernel
theorem eL_law__3068 : zD KL_law_ 3068 (.iaload) 1 3069 := ⟨dL_law__3068, rfl⟩
theorem dL_law__3069 : decode cL_law_ 3069 = .ok (.ifCond .eq 7, 3) := by decide +kernel
theorem eL_law__3069 : zD KL_law_ 3069 (.ifCond .eq 7) 3 3072 := ⟨dL_law__3069, rfl⟩
theorem dL_law__3072 : decode cL_law_ 3072 = .ok (.iconst 1, 1) := by decide +kernel
theorem eL_law__3072 : zD KL_law_ 3072 (.iconst 1) 1 3073 := ⟨dL_law__3072, rfl⟩
theorem dL_law__3073 : decode cL_law_ 3073 = .ok (.goto 4, 3) := by decide +kernel
theorem eL_law__3073 : zD KL_law_ 3073 (.goto 4) 3 3076 := ⟨dL_law__3073, rfl⟩
theorem dL_law__3076 : decode cL_law_ 3076 = .ok (.iconst 0, 1) := by decide +kernel
theorem eL_law__3076 : zD KL_law_ 3076 (.iconst 0) 1 3077 := ⟨dL_law__3076, rfl⟩
theorem dL_law__3077 : decode cL_law_ 3077 = .ok (.invokevirtual 348, 3) := by decide +kernel
theorem eL_law__3077 : zD KL_law_ 3077 (.invokevirtual 348) 3 3080 := ⟨dL_law__3077, rfl⟩
theorem dL_law__3080 : decode cL_law_ 3080 = .ok (.istore 6, 2) := by decide +kernel
theorem eL_law__3080 : zD KL_law_ 3080 (.istore 6) 2 3082 := ⟨dL_law__3080, rfl⟩
theorem dL_law__3082 : decode cL_law_ 3082 = .ok (.aload_n 2, 1) := by decide +kernel
theorem eL_law__3082 : zD KL_law_ 3082 (.aload_n 2) 1 3083 := ⟨dL_law__3082, rfl⟩
theorem dL_law__3083 : decode cL_law_ 3083 = .ok (.invokevirtual 170, 3) := by decide +kernel
theorem eL_law__3083 : zD KL_law_ 3083 (.invokevirtual 170) 3 3086 := ⟨dL_law__3083, rfl⟩
theorem dL_law__3086 : decode cL_law_ 3086 = .ok (.iload 5, 2) := by decide +kernel
theorem eL_law__3086 : zD KL_law_ 3086 (.iload 5) 2 3088 := ⟨dL_law__3086, rfl⟩
theorem dL_law__3088 : decode cL_law_ 3088 = .ok (.if_icmp .eq 5, 3) := by decide +kernel
theorem eL_law__3088 : zD KL_law_ 3088 (.if_icmp .eq 5) 3 3091 := ⟨dL_law__3088, rfl⟩
theorem dL_law__3091 : decode cL_law_ 3091 = .ok (.iconst 0, 1) := by decide +kernel
theorem eL_law__3091 : zD KL_law_ 3091 (.iconst 0) 1 3092 := ⟨dL_law__3091, rfl⟩
theorem dL_law__3092 : decode cL_law_ 3092 = .ok (.ireturn, 1) := by decide +kernel
theorem eL_law__3092 : zD KL_law_ 3092 (.ireturn) 1 3093 := ⟨dL_law__3092, rfl⟩
theorem dL_law__3093 : decode cL_law_ 3093 = .ok (.iload 5, 2) := by decide +kernel
theorem eL_law__3093 : zD KL_law_ 3093 (.iload 5) 2 3095 := ⟨dL_law__3093, rfl⟩
theorem dL_law__3095 : decode cL_law_ 3095 = .ok (.ifCond .ne 15, 3) := by decide +kernel
theorem eL_law__3095 : zD KL_law_ 3095 (.ifCond .ne 15) 3 3098 := ⟨dL_law__3095, rfl⟩
theorem dL_law__3098 : decode cL_law_ 3098 = .ok (.aload_n 3, 1) := by decide +kernel
theorem eL_law__3098 : zD KL_law_ 3098 (.aload_n 3) 1 3099 := ⟨dL_law__3098, rfl⟩
theorem dL_law__3099 : decode cL_law_ 3099 = .ok (.iconst 0, 1) := by decide +kernel
theorem eL_law__3099 : zD KL_law_ 3099 (.iconst 0) 1 3100 := ⟨dL_law__3099, rfl⟩
theorem dL_law__3100 : decode cL_law_ 3100 = .ok (.laload, 1) := by decide +kernel
theorem eL_law__3100 : zD KL_law_ 3100 (.laload) 1 3101 := ⟨dL_law__3100, rfl⟩
theorem dL_law__3101 : decode cL_law_ 3101 = .ok (.iload 6, 2) := by decide +kernel
theorem eL_law__3101 : zD KL_law_ 3101 (.iload 6) 2 3103 := ⟨dL_law__3101, rfl⟩
theorem dL_law__3103 : decode cL_law_ 3103 = .ok (.i2l, 1) := by decide +kernel
theorem eL_law__3103 : zD KL_law_ 3103 (.i2l) 1 3104 := ⟨dL_law__3103, rfl⟩
theorem dL_law__3104 : decode cL_law_ 3104 = .ok (.lcmp, 1) := by decide +kernel
theorem eL_law__3104 : zD KL_law_ 3104 (.lcmp) 1 3105 := ⟨dL_law__3104, rfl⟩
theorem dL_law__3105 : decode cL_law_ 3105 = .ok (.ifCond .eq 5, 3) := by decide +kernel
theorem eL_law__3105 : zD KL_law_ 3105 (.ifCond .eq 5) 3 3108 := ⟨dL_law__3105, rfl⟩
theorem dL_law__3108 : decode cL_law_ 3108 = .ok (.iconst 0, 1) := by decide +kernel
theorem eL_law__3108 : zD KL_law_ 3108 (.iconst 0) 1 3109 := ⟨dL_law__3108, rfl⟩
theorem dL_law__3109 : decode cL_law_ 3109 = .ok (.ireturn, 1) := by decide +kernel
theorem eL_law__3109 : zD KL_law_ 3109 (.ireturn) 1 3110 := ⟨dL_law__3109, rfl⟩
theorem dL_law__3110 : decode cL_law_ 3110 = .ok (.goto 242, 3) := by decide +kernel
theorem eL_law__3110 : zD KL_law_ 3110 (.goto 242) 3 3113 := ⟨dL_law__3110, rfl⟩
theorem dL_law__3113 : decode cL_law_ 3113 = .ok (.aload_n 1, 1) := by decide +kernel
theorem eL_law__3113 : zD KL_law_ 3113 (.aload_n 1) 1 3114 := ⟨dL_law__3113, rfl⟩
theorem dL_law__3114 : decode cL_law_ 3114 = .ok (.aload_n 0, 1) := by decide +kernel
theorem eL_law__3114 : zD KL_law_ 3114 (.aload_n 0) 1 3115 := ⟨dL_law__3114, rfl⟩
theorem dL_law__3115 : decode cL_law_ 3115 = .ok (.iload 4, 2) := by decide +kernel
theorem eL_law__3115 : zD KL_law_ 3115 (.iload 4) 2 3117 := ⟨dL_law__3115, rfl⟩
theorem dL_law__3117 : decode cL_law_ 3117 = .ok (.iconst 1, 1) := by decide +kernel
theorem eL_law__3117 : zD KL_law_ 3117 (.iconst 1) 1 3118 := ⟨dL_law__3117, rfl⟩
theorem dL_law__3118 : decode cL_law_ 3118 = .ok (.iadd, 1) := by decide +kernel
theorem eL_law__3118 : zD KL_law_ 3118 (.iadd) 1 3119 := ⟨dL_law__3118, rfl⟩
theorem dL_law__3119 : decode cL_law_ 3119 = .ok (.iaload, 1) := by decide +kernel
theorem eL_law__3119 : zD KL_law_ 3119 (.iaload) 1 3120 := ⟨dL_law__3119, rfl⟩
theorem dL_law__3120 : decode cL_law_ 3120 = .ok (.aload_n 0, 1) := by decide +kernel
theorem eL_law__3120 : zD KL_law_ 3120 (.aload_n 0) 1 3121 := ⟨dL_law__3120, rfl⟩
theorem dL_law__3121 : decode cL_law_ 3121 = .ok (.iload 4, 2) := by decide +kernel
theorem eL_law__3121 : zD KL_law_ 3121 (.iload 4) 2 3123 := ⟨dL_law__3121, rfl⟩
theorem dL_law__3123 : decode cL_law_ 3123 = .ok (.iconst 2, 1) := by decide +kernel
theorem eL_law__3123 : zD KL_law_ 3123 (.iconst 2) 1 3124 := ⟨dL_law__3123, rfl⟩
theorem dL_law__3124 : decode cL_law_ 3124 = .ok (.iadd, 1) := by decide +kernel
theorem eL_law__3124 : zD KL_law_ 3124 (.iadd) 1 3125 := ⟨dL_law__3124, rfl⟩
theorem dL_law__3125 : decode cL_law_ 3125 = .ok (.iaload, 1) := by decide +kernel
theorem eL_law__3125 : zD KL_law_ 3125 (.iaload) 1 3126 := ⟨dL_law__3125, rfl⟩
theorem dL_law__3126 : decode cL_law_ 3126 = .ok (.ifCond .eq 7, 3) := by decide +kernel
theorem eL_law__3126 : zD KL_law_ 3126 (.ifCond .eq 7) 3 3129 := ⟨dL_law__3126, rfl⟩
theorem dL_law__3129 : decode cL_law_ 3129 = .ok (.iconst 1, 1) := by decide +kernel
theorem eL_law__3129 : zD KL_law_ 3129 (.iconst 1) 1 3130 := ⟨dL_law__3129, rfl⟩
theorem dL_law__3130 : decode cL_law_ 3130 = .ok (.goto 4, 3) := by decide +kernel
theorem eL_law__3130 : zD KL_law_ 3130 (.goto 4) 3 3133 := ⟨dL_law__3130, rfl⟩
theorem dL_law__3133 : decode cL_law_ 3133 = .ok (.iconst 0, 1) := by decide +kernel
theorem eL_law__3133 : zD KL_law_ 3133 (.iconst 0) 1 3134 := ⟨dL_law__3133, rfl⟩
theorem dL_law__3134 : decode cL_law_ 3134 = .ok (.aload_n 3, 1) := by decide +kernel
theorem eL_law__3134 : zD KL_law_ 3134 (.aload_n 3) 1 3135 := ⟨dL_law__3134, rfl⟩
theorem dL_law__3135 : decode cL_law_ 3135 = .ok (.invokestatic 349, 3) := by decide +kernel
theorem eL_law__3135 : zD KL_law_ 3135 (.invokestatic 349) 3 3138 := ⟨dL_law__3135, rfl⟩
theorem dL_law__3138 : decode cL_law_ 3138 = .ok (.istore 5, 2) := by decide +kernel
theorem eL_law__3138 : zD KL_law_ 3138 (.istore 5) 2 3140 := ⟨dL_law__3138, rfl⟩
theorem dL_law__3140 : decode cL_law_ 3140 = .ok (.aload_n 2, 1) := by decide +kernel
theorem eL_law__3140 : zD KL_law_ 3140 (.aload_n 2) 1 3141 := ⟨dL_law__3140, rfl⟩
theorem dL_law__3141 : decode cL_law_ 3141 = .ok (.aload_n 0, 1) := by decide +kernel
theorem eL_law__3141 : zD KL_law_ 3141 (.aload_n 0) 1 3142 := ⟨dL_law__3141, rfl⟩
theorem dL_law__3142 : decode cL_law_ 3142 = .ok (.iload 4, 2) := by decide +kernel
theorem eL_law__3142 : zD KL_law_ 3142 (.iload 4) 2 3144 := ⟨dL_law__3142, rfl⟩
theorem dL_law__3144 : decode cL_law_ 3144 = .ok (.iconst 1, 1) := by decide +kernel
theorem eL_law__3144 : zD KL_law_ 3144 (.iconst 1) 1 3145 := ⟨dL_law__3144, rfl⟩
theorem dL_law__3145 : decode cL_law_ 3145 = .ok (.iadd, 1) := by decide +kernel
theorem eL_law__3145 : zD KL_law_ 3145 (.iadd) 1 3146 := ⟨dL_law__3145, rfl⟩
theorem dL_law__3146 : decode cL_law_ 3146 = .ok (.iaload, 1) := by decide +kernel
theorem eL_law__3146 : zD KL_law_ 3146 (.iaload) 1 3147 := ⟨dL_law__3146, rfl⟩
theorem dL_law__3147 : decode cL_law_ 3147 = .ok (.aload_n 0, 1) := by decide +kernel
theorem eL_law__3147 : zD KL_law_ 3147 (.aload_n 0) 1 3148 := ⟨dL_law__3147, rfl⟩
theorem dL_law__3148 : decode cL_law_ 3148 = .ok (.iload 4, 2) := by decide +kernel
theorem eL_law__3148 : zD KL_law_ 3148 (.iload 4) 2 3150 := ⟨dL_law__3148, rfl⟩
theorem dL_law__3150 : decode cL_law_ 3150 = .ok (.iconst 2, 1) := by decide +kernel
theorem eL_law__3150 : zD KL_law_ 3150 (.iconst 2) 1 3151 := ⟨dL_law__3150, rfl⟩
theorem dL_law__3151 : decode cL_law_ 3151 = .ok (.iadd, 1) := by decide +kernel
theorem eL_law__3151 : zD KL_law_ 3151 (.iadd) 1 3152 := ⟨dL_law__3151, rfl⟩
theorem dL_law__3152 : decode cL_law_ 3152 = .ok (.iaload, 1) := by decide +kernel
theorem eL_law__3152 : zD KL_law_ 3152 (.iaload) 1 3153 := ⟨dL_law__3152, rfl⟩
theorem dL_law__3153 : decode cL_law_ 3153 = .ok (.ifCond .eq 7, 3) := by decide +kernel
theorem eL_law__3153 : zD KL_law_ 3153 (.ifCond .eq 7) 3 3156 := ⟨dL_law__3153, rfl⟩
theorem dL_law__3156 : decode cL_law_ 3156 = .ok (.iconst 1, 1) := by decide +kernel
theorem eL_law__3156 : zD KL_law_ 3156 (.iconst 1) 1 3157 := ⟨dL_law__3156, rfl⟩
theorem dL_law__3157 : decode cL_law_ 3157 = .ok (.goto 4, 3) := by decide +kernel
theorem eL_law__3157 : zD KL_law_ 3157 (.goto 4) 3 3160 := ⟨dL_law__3157, rfl⟩
theorem dL_law__3160 : decode cL_law_ 3160 = .ok (.iconst 0, 1) := by decide +kernel
theorem eL_law__3160 : zD KL_law_ 3160 (.iconst 0) 1 3161 := ⟨dL_law__3160, rfl⟩
theorem dL_law__3161 : decode cL_law_ 3161 = .ok (.invokevirtual 351, 3) := by decide +kernel
theorem eL_law__3161 : zD KL_law_ 3161 (.invokevirtual 351) 3 3164 := ⟨dL_law__3161, rfl⟩
theorem dL_law__3164 : decode cL_law_ 3164 = .ok (.istore 6, 2) := by decide +kernel
theorem eL_law__3164 : zD KL_law_ 3164 (.istore 6) 2 3166 := ⟨dL_law__3164, rfl⟩
theorem dL_law__3166 : decode cL_law_ 3166 = .ok (.aload_n 2, 1) := by decide +kernel
theorem eL_law__3166 : zD KL_law_ 3166 (.aload_n 2) 1 3167 := ⟨dL_law__3166, rfl⟩
theorem dL_law__3167 : decode cL_law_ 3167 = .ok (.invokevirtual 170, 3) := by decide +kernel
theorem eL_law__3167 : zD KL_law_ 3167 (.invokevirtual 170) 3 3170 := ⟨dL_law__3167, rfl⟩
theorem dL_law__3170 : decode cL_law_ 3170 = .ok (.iload 5, 2) := by decide +kernel
theorem eL_law__3170 : zD KL_law_ 3170 (.iload 5) 2 3172 := ⟨dL_law__3170, rfl⟩
theorem dL_law__3172 : decode cL_law_ 3172 = .ok (.if_icmp .eq 5, 3) := by decide +kernel
theorem eL_law__3172 : zD KL_law_ 3172 (.if_icmp .eq 5) 3 3175 := ⟨dL_law__3172, rfl⟩
theorem dL_law__3175 : decode cL_law_ 3175 = .ok (.iconst 0, 1) := by decide +kernel
theorem eL_law__3175 : zD KL_law_ 3175 (.iconst 0) 1 3176 := ⟨dL_law__3175, rfl⟩
theorem dL_law__3176 : decode cL_law_ 3176 = .ok (.ireturn, 1) := by decide +kernel
theorem eL_law__3176 : zD KL_law_ 3176 (.ireturn) 1 3177 := ⟨dL_law__3176, rfl⟩
theorem dL_law__3177 : decode cL_law_ 3177 = .ok (.iload 5, 2) := by decide +kernel
theorem eL_law__3177 : zD KL_law_ 3177 (.iload 5) 2 3179 := ⟨dL_law__3177, rfl⟩
theorem dL_law__3179 : decode cL_law_ 3179 = .ok (.ifCond .ne 15, 3) := by decide +kernel
theorem eL_law__3179 : zD KL_law_ 3179 (.ifCond .ne 15) 3 3182 := ⟨dL_law__3179, rfl⟩
theorem dL_law__3182 : decode cL_law_ 3182 = .ok (.aload_n 3, 1) := by decide +kernel
theorem eL_law__3182 : zD KL_law_ 3182 (.aload_n 3) 1 3183 := ⟨dL_law__3182, rfl⟩
theorem dL_law__3183 : decode cL_law_ 3183 = .ok (.iconst 0, 1) := by decide +kernel
theorem eL_law__3183 : zD KL_law_ 3183 (.iconst 0) 1 3184 := ⟨dL_law__3183, rfl⟩
theorem dL_law__3184 : decode cL_law_ 3184 = .ok (.laload, 1) := by decide +kernel
theorem eL_law__3184 : zD KL_law_ 3184 (.laload) 1 3185 := ⟨dL_law__3184, rfl⟩
theorem dL_law__3185 : decode cL_law_ 3185 = .ok (.iload 6, 2) := by decide +kernel
theorem eL_law__3185 : zD KL_law_ 3185 (.iload 6) 2 3187 := ⟨dL_law__3185, rfl⟩
theorem dL_law__3187 : decode cL_law_ 3187 = .ok (.i2l, 1) := by decide +kernel
theorem eL_law__3187 : zD KL_law_ 3187 (.i2l) 1 3188 := ⟨dL_law__3187, rfl⟩
theorem dL_law__3188 : decode cL_law_ 3188 = .ok (.lcmp, 1) := by decide +kernel
theorem eL_law__3188 : zD KL_law_ 3188 (.lcmp) 1 3189 := ⟨dL_law__3188, rfl⟩
theorem dL_law__3189 : decode cL_law_ 3189 = .ok (.ifCond .eq 5, 3) := by decide +kernel
theorem eL_law__3189 : zD KL_law_ 3189 (.ifCond .eq 5) 3 3192 := ⟨dL_law__3189, rfl⟩
theorem dL_law__3192 : decode cL_law_ 3192 = .ok (.iconst 0, 1) := by decide +kernel
theorem eL_law__3192 : zD KL_law_ 3192 (.iconst 0) 1 3193 := ⟨dL_law__3192, rfl⟩
theorem dL_law__3193 : decode cL_law_ 3193 = .ok (.ireturn, 1) := by decide +kernel
theorem eL_law__3193 : zD KL_law_ 3193 (.ireturn) 1 3194 := ⟨dL_law__3193, rfl⟩
theorem dL_law__3194 : decode cL_law_ 3194 = .ok (.goto 158, 3) := by decide +kernel
theorem eL_law__3194 : zD KL_law_ 3194 (.goto 158) 3 3197 := ⟨dL_law__3194, rfl⟩
theorem dL_law__3197 : decode cL_law_ 3197 = .ok (.aload_n 1, 1) := by decide +kernel
theorem eL_law__3197 : zD KL_law_ 3197 (.aload_n 1) 1 3198 := ⟨dL_law__3197, rfl⟩
theorem dL_law__3198 : decode cL_law_ 3198 = .ok (.aload_n 0, 1) := by decide +kernel
theorem eL_law__3198 : zD KL_law_ 3198 (.aload_n 0) 1 3199 := ⟨dL_law__3198, rfl⟩
theorem dL_law__3199 : decode cL_law_ 3199 = .ok (.iload 4, 2) := by decide +kernel
theorem eL_law__3199 : zD KL_law_ 3199 (.iload 4) 2 3201 := ⟨dL_law__3199, rfl⟩
theorem dL_law__3201 : decode cL_law_ 3201 = .ok (.iconst 1, 1) := by decide +kernel
theorem eL_law__3201 : zD KL_law_ 3201 (.iconst 1) 1 3202 := ⟨dL_law__3201, rfl⟩
theorem dL_law__3202 : decode cL_law_ 3202 = .ok (.iadd, 1) := by decide +kernel
theorem eL_law__3202 : zD KL_law_ 3202 (.iadd) 1 3203 := ⟨dL_law__3202, rfl⟩
theorem dL_law__3203 : decode cL_law_ 3203 = .ok (.iaload, 1) := by decide +kernel
theorem eL_law__3203 : zD KL_law_ 3203 (.iaload) 1 3204 := ⟨dL_law__3203, rfl⟩
theorem dL_law__3204 : decode cL_law_ 3204 = .ok (.aload_n 0, 1) := by decide +kernel
theorem eL_law__3204 : zD KL_law_ 3204 (.aload_n 0) 1 3205 := ⟨dL_law__3204, rfl⟩
theorem dL_law__3205 : decode cL_law_ 3205 = .ok (.iload 4, 2) := by decide +kernel
theorem eL_law__3205 : zD KL_law_ 3205 (.iload 4) 2 3207 := ⟨dL_law__3205, rfl⟩
theorem dL_law__3207 : decode cL_law_ 3207 = .ok (.iconst 2, 1) := by decide +kernel
theorem eL_law__3207 : zD KL_law_ 3207 (.iconst 2) 1 3208 := ⟨dL_law__3207, rfl⟩
theorem dL_law__3208 : decode cL_law_ 3208 = .ok (.iadd, 1) := by decide +kernel
theorem eL_law__3208 : zD KL_law_ 3208 (.iadd) 1 3209 := ⟨dL_law__3208, rfl⟩
theorem dL_law__3209 : decode cL_law_ 3209 = .ok (.iaload, 1) := by decide +kernel
theorem eL_law__3209 : zD KL_law_ 3209 (.iaload) 1 3210 := ⟨dL_law__3209, rfl⟩
theorem dL_law__3210 : decode cL_law_ 3210 = .ok (.aload_n 3, 1) := by decide +kernel
theorem eL_law__3210 : zD KL_law_ 3210 (.aload_n 3) 1 3211 := ⟨dL_law__3210, rfl⟩
theorem dL_law__3211 : decode cL_law_ 3211 = .ok (.invokestatic 352, 3) := by decide +kernel
theorem eL_law__3211 : zD KL_law_ 3211 (.invokestatic 352) 3 3214 := ⟨dL_law__3211, rfl⟩
theorem dL_law__3214 : decode cL_law_ 3214 = .ok (.istore 5, 2) := by decide +kernel
theorem eL_law__3214 : zD KL_law_ 3214 (.istore 5) 2 3216 := ⟨dL_law__3214, rfl⟩
theorem dL_law__3216 : decode cL_law_ 3216 = .ok (.aload_n 2, 1) := by decide +kernel
theorem eL_law__3216 : zD KL_law_ 3216 (.aload_n 2) 1 3217 := ⟨dL_law__3216, rfl⟩
theorem dL_law__3217 : decode cL_law_ 3217 = .ok (.aload_n 0, 1) := by decide +kernel
theorem eL_law__3217 : zD KL_law_ 3217 (.aload_n 0) 1 3218 := ⟨dL_law__3217, rfl⟩
theorem dL_law__3218 : decode cL_law_ 3218 = .ok (.iload 4, 2) := by decide +kernel
theorem eL_law__3218 : zD KL_law_ 3218 (.iload 4) 2 3220 := ⟨dL_law__3218, rfl⟩
theorem dL_law__3220 : decode cL_law_ 3220 = .ok (.iconst 1, 1) := by decide +kernel
theorem eL_law__3220 : zD KL_law_ 3220 (.iconst 1) 1 3221 := ⟨dL_law__3220, rfl⟩
theorem dL_law__3221 : decode cL_law_ 3221 = .ok (.iadd, 1) := by decide +kernel
theorem eL_law__3221 : zD KL_law_ 3221 (.iadd) 1 3222 := ⟨dL_law__3221, rfl⟩
theorem dL_law__3222 : decode cL_law_ 3222 = .ok (.iaload, 1) := by decide +kernel
theorem eL_law__3222 : zD KL_law_ 3222 (.iaload) 1 3223 := ⟨dL_law__3222, rfl⟩
theorem dL_law__3223 : decode cL_law_ 3223 = .ok (.aload_n 0, 1) := by decide +kernel
theorem eL_law__3223 : zD KL_law_ 3223 (.aload_n 0) 1 3224 := ⟨dL_law__3223, rfl⟩
theorem dL_law__3224 : decode cL_law_ 3224 = .ok (.iload 4, 2) := by decide +kernel
theorem eL_law__3224 : zD KL_law_ 3224 (.iload 4) 2 3226 := ⟨dL_law__3224, rfl⟩
theorem dL_law__3226 : decode cL_law_ 3226 = .ok (.iconst 2, 1) := by decide +kernel
theorem eL_law__3226 : zD KL_law_ 3226 (.iconst 2) 1 3227 := ⟨dL_law__3226, rfl⟩
theorem dL_law__3227 : decode cL_law_ 3227 = .ok (.iadd, 1) := by decide +kernel
theorem eL_law__3227 : zD KL_law_ 3227 (.iadd) 1 3228 := ⟨dL_law__3227, rfl⟩
theorem dL_law__3228 : decode cL_law_ 3228 = .ok (.iaload, 1) := by decide +kernel
theorem eL_law__3228 : zD KL_law_ 3228 (.iaload) 1 3229 := ⟨dL_law__3228, rfl⟩
theorem dL_law__3229 : decode cL_law_ 3229 = .ok (.invokevirtual 354, 3) := by decide +kernel
theorem eL_law__3229 : zD KL_law_ 3229 (.invokevirtual 354) 3 3232 := ⟨dL_law__3229, rfl⟩
theorem dL_law__3232 : decode cL_law_ 3232 = .ok (.istore 6, 2) := by decide +kernel
theorem eL_law__3232 : zD KL_law_ 3232 (.istore 6) 2 3234 := ⟨dL_law__3232, rfl⟩
theorem dL_law__3234 : decode cL_law_ 3234 = .ok (.aload_n 2, 1) := by decide +kernel
theorem eL_law__3234 : zD KL_law_ 3234 (.aload_n 2) 1 3235 := ⟨dL_law__3234, rfl⟩
theorem dL_law__3235 : decode cL_law_ 3235 = .ok (.invokevirtual 170, 3) := by decide +kernel
theorem eL_law__3235 : zD KL_law_ 3235 (.invokevirtual 170) 3 3238 := ⟨dL_law__3235, rfl⟩
theorem dL_law__3238 : decode cL_law_ 3238 = .ok (.iload 5, 2) := by decide +kernel
theorem eL_law__3238 : zD KL_law_ 3238 (.iload 5) 2 3240 := ⟨dL_law__3238, rfl⟩
theorem dL_law__3240 : decode cL_law_ 3240 = .ok (.if_icmp .eq 5, 3) := by decide +kernel
theorem eL_law__3240 : zD KL_law_ 3240 (.if_icmp .eq 5) 3 3243 := ⟨dL_law__3240, rfl⟩
theorem dL_law__3243 : decode cL_law_ 3243 = .ok (.iconst 0, 1) := by decide +kernel
theorem eL_law__3243 : zD KL_law_ 3243 (.iconst 0) 1 3244 := ⟨dL_law__3243, rfl⟩
theorem dL_law__3244 : decode cL_law_ 3244 = .ok (.ireturn, 1) := by decide +kernel
theorem eL_law__3244 : zD KL_law_ 3244 (.ireturn) 1 3245 := ⟨dL_law__3244, rfl⟩
theorem dL_law__3245 : decode cL_law_ 3245 = .ok (.iload 5, 2) := by decide +kernel
theorem eL_law__3245 : zD KL_law_ 3245 (.iload 5) 2 3247 := ⟨dL_law__3245, rfl⟩
theorem dL_law__3247 : decode cL_law_ 3247 = .ok (.ifCond .ne 15, 3) := by decide +kernel
theorem eL_law__3247 : zD KL_law_ 3247 (.ifCond .ne 15) 3 3250 := ⟨dL_law__3247, rfl⟩
theorem dL_law__3250 : decode cL_law_ 3250 = .ok (.aload_n 3, 1) := by decide +kernel
theorem eL_law__3250 : zD KL_law_ 3250 (.aload_n 3) 1 3251 := ⟨dL_law__3250, rfl⟩
theorem dL_law__3251 : decode cL_law_ 3251 = .ok (.iconst 0, 1) := by decide +kernel
theorem eL_law__3251 : zD KL_law_ 3251 (.iconst 0) 1 3252 := ⟨dL_law__3251, rfl⟩
theorem dL_law__3252 : decode cL_law_ 3252 = .ok (.laload, 1) := by decide +kernel
theorem eL_law__3252 : zD KL_law_ 3252 (.laload) 1 3253 := ⟨dL_law__3252, rfl⟩
theorem dL_law__3253 : decode cL_law_ 3253 = .ok (.iload 6, 2) := by decide +kernel
theorem eL_law__3253 : zD KL_law_ 3253 (.iload 6) 2 3255 := ⟨dL_law__3253, rfl⟩
theorem dL_law__3255 : decode cL_law_ 3255 = .ok (.i2l, 1) := by decide +kernel
theorem eL_law__3255 : zD KL_law_ 3255 (.i2l) 1 3256 := ⟨dL_law__3255, rfl⟩
theorem dL_law__3256 : decode cL_law_ 3256 = .ok (.lcmp, 1) := by decide +kernel
theorem eL_law__3256 : zD KL_law_ 3256 (.lcmp) 1 3257 := ⟨dL_law__3256, rfl⟩
theorem dL_law__3257 : decode cL_law_ 3257 = .ok (.ifCond .eq 5, 3) := by decide +kernel
theorem eL_law__3257 : zD KL_law_ 3257 (.ifCond .eq 5) 3 3260 := ⟨dL_law__3257, rfl⟩
theorem dL_law__3260 : decode cL_law_ 3260 = .ok (.iconst 0, 1) := by decide +kernel
theorem eL_law__3260 : zD KL_law_ 3260 (.iconst 0) 1 3261 := ⟨dL_law__3260, rfl⟩
theorem dL_law__3261 : decode cL_law_ 3261 = .ok (.ireturn, 1) := by decide +kernel
theorem eL_law__3261 : zD KL_law_ 3261 (.ireturn) 1 3262 := ⟨dL_law__3261, rfl⟩
theorem dL_law__3262 : decode cL_law_ 3262 = .ok (.goto 90, 3) := by decide +kernel
theorem eL_law__3262 : zD KL_law_ 3262 (.goto 90) 3 3265 := ⟨dL_law__3262, rfl⟩
theorem dL_law__3265 : decode cL_law_ 3265 = .ok (.aload_n 1, 1) := by decide +kernel
theorem eL_law__3265 : zD KL_law_ 3265 (.aload_n 1) 1 3266 := ⟨dL_law__3265, rfl⟩
theorem dL_law__3266 : decode cL_law_ 3266 = .ok (.aload_n 0, 1) := by decide +kernel
theorem eL_law__3266 : zD KL_law_ 3266 (.aload_n 0) 1 3267 := ⟨dL_law__3266, rfl⟩
theorem dL_law__3267 : decode cL_law_ 3267 = .ok (.iload 4, 2) := by decide +kernel
theorem eL_law__3267 : zD KL_law_ 3267 (.iload 4) 2 3269 := ⟨dL_law__3267, rfl⟩
theorem dL_law__3269 : decode cL_law_ 3269 = .ok (.iconst 1, 1) := by decide +kernel
theorem eL_law__3269 : zD KL_law_ 3269 (.iconst 1) 1 3270 := ⟨dL_law__3269, rfl⟩
theorem dL_law__3270 : decode cL_law_ 3270 = .ok (.iadd, 1) := by decide +kernel
theorem eL_law__3270 : zD KL_law_ 3270 (.iadd) 1 3271 := ⟨dL_law__3270, rfl⟩
theorem dL_law__3271 : decode cL_law_ 3271 = .ok (.iaload, 1) := by decide +kernel
theorem eL_law__3271 : zD KL_law_ 3271 (.iaload) 1 3272 := ⟨dL_law__3271, rfl⟩
theorem dL_law__3272 : decode cL_law_ 3272 = .ok (.invokevirtual 355, 3) := by decide +kernel
theorem eL_law__3272 : zD KL_law_ 3272 (.invokevirtual 355) 3 3275 := ⟨dL_law__3272, rfl⟩
theorem dL_law__3275 : decode cL_law_ 3275 = .ok (.aload_n 2, 1) := by decide +kernel
theorem eL_law__3275 : zD KL_law_ 3275 (.aload_n 2) 1 3276 := ⟨dL_law__3275, rfl⟩
theorem dL_law__3276 : decode cL_law_ 3276 = .ok (.aload_n 0, 1) := by decide +kernel
theorem eL_law__3276 : zD KL_law_ 3276 (.aload_n 0) 1 3277 := ⟨dL_law__3276, rfl⟩
theorem dL_law__3277 : decode cL_law_ 3277 = .ok (.iload 4, 2) := by decide +kernel
theorem eL_law__3277 : zD KL_law_ 3277 (.iload 4) 2 3279 := ⟨dL_law__3277, rfl⟩
theorem dL_law__3279 : decode cL_law_ 3279 = .ok (.iconst 1, 1) := by decide +kernel
theorem eL_law__3279 : zD KL_law_ 3279 (.iconst 1) 1 3280 := ⟨dL_law__3279, rfl⟩
theorem dL_law__3280 : decode cL_law_ 3280 = .ok (.iadd, 1) := by decide +kernel
theorem eL_law__3280 : zD KL_law_ 3280 (.iadd) 1 3281 := ⟨dL_law__3280, rfl⟩
theorem dL_law__3281 : decode cL_law_ 3281 = .ok (.iaload, 1) := by decide +kernel
theorem eL_law__3281 : zD KL_law_ 3281 (.iaload) 1 3282 := ⟨dL_law__3281, rfl⟩
theorem dL_law__3282 : decode cL_law_ 3282 = .ok (.invokevirtual 358, 3) := by decide +kernel
theorem eL_law__3282 : zD KL_law_ 3282 (.invokevirtual 358) 3 3285 := ⟨dL_law__3282, rfl⟩
theorem dL_law__3285 : decode cL_law_ 3285 = .ok (.if_icmp .eq 67, 3) := by decide +kernel
theorem eL_law__3285 : zD KL_law_ 3285 (.if_icmp .eq 67) 3 3288 := ⟨dL_law__3285, rfl⟩
theorem dL_law__3288 : decode cL_law_ 3288 = .ok (.iconst 0, 1) := by decide +kernel
theorem eL_law__3288 : zD KL_law_ 3288 (.iconst 0) 1 3289 := ⟨dL_law__3288, rfl⟩
theorem dL_law__3289 : decode cL_law_ 3289 = .ok (.ireturn, 1) := by decide +kernel
theorem eL_law__3289 : zD KL_law_ 3289 (.ireturn) 1 3290 := ⟨dL_law__3289, rfl⟩
theorem dL_law__3290 : decode cL_law_ 3290 = .ok (.aload_n 1, 1) := by decide +kernel
theorem eL_law__3290 : zD KL_law_ 3290 (.aload_n 1) 1 3291 := ⟨dL_law__3290, rfl⟩
theorem dL_law__3291 : decode cL_law_ 3291 = .ok (.invokevirtual 359, 3) := by decide +kernel
theorem eL_law__3291 : zD KL_law_ 3291 (.invokevirtual 359) 3 3294 := ⟨dL_law__3291, rfl⟩
theorem dL_law__3294 : decode cL_law_ 3294 = .ok (.aload_n 2, 1) := by decide +kernel
theorem eL_law__3294 : zD KL_law_ 3294 (.aload_n 2) 1 3295 := ⟨dL_law__3294, rfl⟩
theorem dL_law__3295 : decode cL_law_ 3295 = .ok (.invokevirtual 362, 3) := by decide +kernel
theorem eL_law__3295 : zD KL_law_ 3295 (.invokevirtual 362) 3 3298 := ⟨dL_law__3295, rfl⟩
theorem dL_law__3298 : decode cL_law_ 3298 = .ok (.if_icmp .eq 54, 3) := by decide +kernel
theorem eL_law__3298 : zD KL_law_ 3298 (.if_icmp .eq 54) 3 3301 := ⟨dL_law__3298, rfl⟩
theorem dL_law__3301 : decode cL_law_ 3301 = .ok (.iconst 0, 1) := by decide +kernel
theorem eL_law__3301 : zD KL_law_ 3301 (.iconst 0) 1 3302 := ⟨dL_law__3301, rfl⟩
theorem dL_law__3302 : decode cL_law_ 3302 = .ok (.ireturn, 1) := by decide +kernel
theorem eL_law__3302 : zD KL_law_ 3302 (.ireturn) 1 3303 := ⟨dL_law__3302, rfl⟩
theorem dL_law__3303 : decode cL_law_ 3303 = .ok (.aload_n 1, 1) := by decide +kernel
theorem eL_law__3303 : zD KL_law_ 3303 (.aload_n 1) 1 3304 := ⟨dL_law__3303, rfl⟩
theorem dL_law__3304 : decode cL_law_ 3304 = .ok (.invokevirtual 363, 3) := by decide +kernel
theorem eL_law__3304 : zD KL_law_ 3304 (.invokevirtual 363) 3 3307 := ⟨dL_law__3304, rfl⟩
theorem dL_law__3307 : decode cL_law_ 3307 = .ok (.aload_n 2, 1) := by decide +kernel
theorem eL_law__3307 : zD KL_law_ 3307 (.aload_n 2) 1 3308 := ⟨dL_law__3307, rfl⟩
theorem dL_law__3308 : decode cL_law_ 3308 = .ok (.invokevirtual 366, 3) := by decide +kernel
theorem eL_law__3308 : zD KL_law_ 3308 (.invokevirtual 366) 3 3311 := ⟨dL_law__3308, rfl⟩
theorem dL_law__3311 : decode cL_law_ 3311 = .ok (.goto 41, 3) := by decide +kernel
theorem eL_law__3311 : zD KL_law_ 3311 (.goto 41) 3 3314 := ⟨dL_law__3311, rfl⟩
theorem dL_law__3314 : decode cL_law_ 3314 = .ok (.aload_n 1, 1) := by decide +kernel
theorem eL_law__3314 : zD KL_law_ 3314 (.aload_n 1) 1 3315 := ⟨dL_law__3314, rfl⟩
theorem dL_law__3315 : decode cL_law_ 3315 = .ok (.invokevirtual 367, 3) := by decide +kernel
theorem eL_law__3315 : zD KL_law_ 3315 (.invokevirtual 367) 3 3318 := ⟨dL_law__3315, rfl⟩
theorem dL_law__3318 : decode cL_law_ 3318 = .ok (.aload_n 2, 1) := by decide +kernel
theorem eL_law__3318 : zD KL_law_ 3318 (.aload_n 2) 1 3319 := ⟨dL_law__3318, rfl⟩
theorem dL_law__3319 : decode cL_law_ 3319 = .ok (.invokevirtual 370, 3) := by decide +kernel
theorem eL_law__3319 : zD KL_law_ 3319 (.invokevirtual 370) 3 3322 := ⟨dL_law__3319, rfl⟩
theorem dL_law__3322 : decode cL_law_ 3322 = .ok (.if_icmp .eq 30, 3) := by decide +kernel
theorem eL_law__3322 : zD KL_law_ 3322 (.if_icmp .eq 30) 3 3325 := ⟨dL_law__3322, rfl⟩
theorem dL_law__3325 : decode cL_law_ 3325 = .ok (.iconst 0, 1) := by decide +kernel
theorem eL_law__3325 : zD KL_law_ 3325 (.iconst 0) 1 3326 := ⟨dL_law__3325, rfl⟩
theorem dL_law__3326 : decode cL_law_ 3326 = .ok (.ireturn, 1) := by decide +kernel
theorem eL_law__3326 : zD KL_law_ 3326 (.ireturn) 1 3327 := ⟨dL_law__3326, rfl⟩
theorem dL_law__3327 : decode cL_law_ 3327 = .ok (.aload_n 1, 1) := by decide +kernel
theorem eL_law__3327 : zD KL_law_ 3327 (.aload_n 1) 1 3328 := ⟨dL_law__3327, rfl⟩
theorem dL_law__3328 : decode cL_law_ 3328 = .ok (.aload_n 0, 1) := by decide +kernel
theorem eL_law__3328 : zD KL_law_ 3328 (.aload_n 0) 1 3329 := ⟨dL_law__3328, rfl⟩
theorem dL_law__3329 : decode cL_law_ 3329 = .ok (.iload 4, 2) := by decide +kernel
theorem eL_law__3329 : zD KL_law_ 3329 (.iload 4) 2 3331 := ⟨dL_law__3329, rfl⟩
theorem dL_law__3331 : decode cL_law_ 3331 = .ok (.iconst 1, 1) := by decide +kernel
theorem eL_law__3331 : zD KL_law_ 3331 (.iconst 1) 1 3332 := ⟨dL_law__3331, rfl⟩
theorem dL_law__3332 : decode cL_law_ 3332 = .ok (.iadd, 1) := by decide +kernel
theorem eL_law__3332 : zD KL_law_ 3332 (.iadd) 1 3333 := ⟨dL_law__3332, rfl⟩
theorem dL_law__3333 : decode cL_law_ 3333 = .ok (.iaload, 1) := by decide +kernel
theorem eL_law__3333 : zD KL_law_ 3333 (.iaload) 1 3334 := ⟨dL_law__3333, rfl⟩
theorem dL_law__3334 : decode cL_law_ 3334 = .ok (.invokevirtual 371, 3) := by decide +kernel
theorem eL_law__3334 : zD KL_law_ 3334 (.invokevirtual 371) 3 3337 := ⟨dL_law__3334, rfl⟩
theorem dL_law__3337 : decode cL_law_ 3337 = .ok (.aload_n 2, 1) := by decide +kernel
theorem eL_law__3337 : zD KL_law_ 3337 (.aload_n 2) 1 3338 := ⟨dL_law__3337, rfl⟩
theorem dL_law__3338 : decode cL_law_ 3338 = .ok (.aload_n 0, 1) := by decide +kernel
theorem eL_law__3338 : zD KL_law_ 3338 (.aload_n 0) 1 3339 := ⟨dL_law__3338, rfl⟩
theorem dL_law__3339 : decode cL_law_ 3339 = .ok (.iload 4, 2) := by decide +kernel
theorem eL_law__3339 : zD KL_law_ 3339 (.iload 4) 2 3341 := ⟨dL_law__3339, rfl⟩
theorem dL_law__3341 : decode cL_law_ 3341 = .ok (.iconst 1, 1) := by decide +kernel
theorem eL_law__3341 : zD KL_law_ 3341 (.iconst 1) 1 3342 := ⟨dL_law__3341, rfl⟩
theorem dL_law__3342 : decode cL_law_ 3342 = .ok (.iadd, 1) := by decide +kernel
theorem eL_law__3342 : zD KL_law_ 3342 (.iadd) 1 3343 := ⟨dL_law__3342, rfl⟩
theorem dL_law__3343 : decode cL_law_ 3343 = .ok (.iaload, 1) := by decide +kernel
theorem eL_law__3343 : zD KL_law_ 3343 (.iaload) 1 3344 := ⟨dL_law__3343, rfl⟩
theorem dL_law__3344 : decode cL_law_ 3344 = .ok (.invokevirtual 374, 3) := by decide +kernel
theorem eL_law__3344 : zD KL_law_ 3344 (.invokevirtual 374) 3 3347 := ⟨dL_law__3344, rfl⟩
theorem dL_law__3347 : decode cL_law_ 3347 = .ok (.if_icmp .eq 5, 3) := by decide +kernel
theorem eL_law__3347 : zD KL_law_ 3347 (.if_icmp .eq 5) 3 3350 := ⟨dL_law__3347, rfl⟩
theorem dL_law__3350 : decode cL_law_ 3350 = .ok (.iconst 0, 1) := by decide +kernel
theorem eL_law__3350 : zD KL_law_ 3350 (.iconst 0) 1 3351 := ⟨dL_law__3350, rfl⟩
theorem dL_law__3351 : decode cL_law_ 3351 = .ok (.ireturn, 1) := by decide +kernel
theorem eL_law__3351 : zD KL_law_ 3351 (.ireturn) 1 3352 := ⟨dL_law__3351, rfl⟩
theorem dL_law__3352 : decode cL_law_ 3352 = .ok (.iinc 4 6, 3) := by decide +kernel
theorem eL_law__3352 : zD KL_law_ 3352 (.iinc 4 6) 3 3355 := ⟨dL_law__3352, rfl⟩
theorem dL_law__3355 : decode cL_law_ 3355 = .ok (.goto (-3332), 3) := by decide +kernel
theorem eL_law__3355 : zD KL_law_ 3355 (.goto (-3332)) 3 3358 := ⟨dL_law__3355, rfl⟩
theorem dL_law__3358 : decode cL_law_ 3358 = .ok (.iconst 1, 1) := by decide +kernel
theorem eL_law__3358 : zD KL_law_ 3358 (.iconst 1) 1 3359 := ⟨dL_law__3358, rfl⟩
theorem dL_law__3359 : decode cL_law_ 3359 = .ok (.ireturn, 1) := by decide +kernel
theorem eL_law__3359 : zD KL_law_ 3359 (.ireturn) 1 3360 := ⟨dL_law__3359, rfl⟩
