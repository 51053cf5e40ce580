/-! what stands at each place of the code: printed -/
abbrev cL_law : ByteArray := code
theorem dL_append_0 : decode cL_append 0 = .ok (.aload 4, 2) := by decide +kernel
theorem dL_append_2 : decode cL_append 2 = .ok (.iconst 0, 1) := by decide +kernel
theorem dL_append_3 : decode cL_append 3 = .ok (.aload_n 0, 1) := by decide +kernel
theorem dL_append_4 : decode cL_append 4 = .ok (.iload_n 1, 1) := by decide +kernel
theorem dL_append_5 : decode cL_append 5 = .ok (.iload_n 2, 1) := by decide +kernel
theorem dL_append_6 : decode cL_append 6 = .ok (.iload_n 3, 1) := by decide +kernel
theorem dL_append_7 : decode cL_append 7 = .ok (.invokevirtual 7, 3) := by decide +kernel
theorem dL_append_10 : decode cL_append 10 = .ok (.i2l, 1) := by decide +kernel
theorem dL_append_11 : decode cL_append 11 = .ok (.lastore, 1) := by decide +kernel
theorem dL_append_12 : decode cL_append 12 = .ok (.goto 11, 3) := by decide +kernel
theorem dL_append_15 : decode cL_append 15 = .ok (.astore 5, 2) := by decide +kernel
theorem dL_append_17 : decode cL_append 17 = .ok (.iconst 1, 1) := by decide +kernel
theorem dL_append_18 : decode cL_append 18 = .ok (.ireturn, 1) := by decide +kernel
theorem dL_append_19 : decode cL_append 19 = .ok (.astore 5, 2) := by decide +kernel
theorem dL_append_21 : decode cL_append 21 = .ok (.iconst 2, 1) := by decide +kernel
theorem dL_append_22 : decode cL_append 22 = .ok (.ireturn, 1) := by decide +kernel
theorem dL_append_23 : decode cL_append 23 = .ok (.iconst 0, 1) := by decide +kernel
theorem dL_append_24 : decode cL_append 24 = .ok (.ireturn, 1) := by decide +kernel
theorem dL_appendCopy_0 : decode cL_appendCopy 0 = .ok (.aload 5, 2) := by decide +kernel
theorem dL_appendCopy_2 : decode cL_appendCopy 2 = .ok (.iconst 0, 1) := by decide +kernel
theorem dL_appendCopy_3 : decode cL_appendCopy 3 = .ok (.aload_n 0, 1) := by decide +kernel
theorem dL_appendCopy_4 : decode cL_appendCopy 4 = .ok (.iload_n 1, 1) := by decide +kernel
theorem dL_appendCopy_5 : decode cL_appendCopy 5 = .ok (.iload_n 2, 1) := by decide +kernel
theorem dL_appendCopy_6 : decode cL_appendCopy 6 = .ok (.iload_n 3, 1) := by decide +kernel
theorem dL_appendCopy_7 : decode cL_appendCopy 7 = .ok (.iload 4, 2) := by decide +kernel
theorem dL_appendCopy_9 : decode cL_appendCopy 9 = .ok (.invokevirtual 17, 3) := by decide +kernel
theorem dL_appendCopy_12 : decode cL_appendCopy 12 = .ok (.i2l, 1) := by decide +kernel
theorem dL_appendCopy_13 : decode cL_appendCopy 13 = .ok (.lastore, 1) := by decide +kernel
theorem dL_appendCopy_14 : decode cL_appendCopy 14 = .ok (.goto 11, 3) := by decide +kernel
theorem dL_appendCopy_17 : decode cL_appendCopy 17 = .ok (.astore 6, 2) := by decide +kernel
theorem dL_appendCopy_19 : decode cL_appendCopy 19 = .ok (.iconst 1, 1) := by decide +kernel
theorem dL_appendCopy_20 : decode cL_appendCopy 20 = .ok (.ireturn, 1) := by decide +kernel
theorem dL_appendCopy_21 : decode cL_appendCopy 21 = .ok (.astore 6, 2) := by decide +kernel
theorem dL_appendCopy_23 : decode cL_appendCopy 23 = .ok (.iconst 2, 1) := by decide +kernel
theorem dL_appendCopy_24 : decode cL_appendCopy 24 = .ok (.ireturn, 1) := by decide +kernel
theorem dL_appendCopy_25 : decode cL_appendCopy 25 = .ok (.iconst 0, 1) := by decide +kernel
theorem dL_appendCopy_26 : decode cL_appendCopy 26 = .ok (.ireturn, 1) := by decide +kernel
theorem dL_insert_0 : decode cL_insert 0 = .ok (.aload_n 3, 1) := by decide +kernel
theorem dL_insert_1 : decode cL_insert 1 = .ok (.iconst 0, 1) := by decide +kernel
theorem dL_insert_2 : decode cL_insert 2 = .ok (.aload_n 0, 1) := by decide +kernel
theorem dL_insert_3 : decode cL_insert 3 = .ok (.iload_n 1, 1) := by decide +kernel
theorem dL_insert_4 : decode cL_insert 4 = .ok (.iload_n 2, 1) := by decide +kernel
theorem dL_insert_5 : decode cL_insert 5 = .ok (.invokevirtual 23, 3) := by decide +kernel
theorem dL_insert_8 : decode cL_insert 8 = .ok (.i2l, 1) := by decide +kernel
theorem dL_insert_9 : decode cL_insert 9 = .ok (.lastore, 1) := by decide +kernel
theorem dL_insert_10 : decode cL_insert 10 = .ok (.goto 15, 3) := by decide +kernel
theorem dL_insert_13 : decode cL_insert 13 = .ok (.astore 4, 2) := by decide +kernel
theorem dL_insert_15 : decode cL_insert 15 = .ok (.iconst 1, 1) := by decide +kernel
theorem dL_insert_16 : decode cL_insert 16 = .ok (.ireturn, 1) := by decide +kernel
theorem dL_insert_17 : decode cL_insert 17 = .ok (.astore 4, 2) := by decide +kernel
theorem dL_insert_19 : decode cL_insert 19 = .ok (.iconst 2, 1) := by decide +kernel
theorem dL_insert_20 : decode cL_insert 20 = .ok (.ireturn, 1) := by decide +kernel
theorem dL_insert_21 : decode cL_insert 21 = .ok (.astore 4, 2) := by decide +kernel
theorem dL_insert_23 : decode cL_insert 23 = .ok (.iconst 3, 1) := by decide +kernel
theorem dL_insert_24 : decode cL_insert 24 = .ok (.ireturn, 1) := by decide +kernel
theorem dL_insert_25 : decode cL_insert 25 = .ok (.iconst 0, 1) := by decide +kernel
theorem dL_insert_26 : decode cL_insert 26 = .ok (.ireturn, 1) := by decide +kernel
theorem dL_cut_0 : decode cL_cut 0 = .ok (.aload_n 3, 1) := by decide +kernel
theorem dL_cut_1 : decode cL_cut 1 = .ok (.iconst 0, 1) := by decide +kernel
theorem dL_cut_2 : decode cL_cut 2 = .ok (.aload_n 0, 1) := by decide +kernel
theorem dL_cut_3 : decode cL_cut 3 = .ok (.iload_n 1, 1) := by decide +kernel
theorem dL_cut_4 : decode cL_cut 4 = .ok (.iload_n 2, 1) := by decide +kernel
theorem dL_cut_5 : decode cL_cut 5 = .ok (.invokevirtual 27, 3) := by decide +kernel
theorem dL_cut_8 : decode cL_cut 8 = .ok (.i2l, 1) := by decide +kernel
theorem dL_cut_9 : decode cL_cut 9 = .ok (.lastore, 1) := by decide +kernel
theorem dL_cut_10 : decode cL_cut 10 = .ok (.goto 7, 3) := by decide +kernel
theorem dL_cut_13 : decode cL_cut 13 = .ok (.astore 4, 2) := by decide +kernel
theorem dL_cut_15 : decode cL_cut 15 = .ok (.iconst 1, 1) := by decide +kernel
theorem dL_cut_16 : decode cL_cut 16 = .ok (.ireturn, 1) := by decide +kernel
theorem dL_cut_17 : decode cL_cut 17 = .ok (.iconst 0, 1) := by decide +kernel
theorem dL_cut_18 : decode cL_cut 18 = .ok (.ireturn, 1) := by decide +kernel
theorem dL_draftAt_0 : decode cL_draftAt 0 = .ok (.aload_n 2, 1) := by decide +kernel
theorem dL_draftAt_1 : decode cL_draftAt 1 = .ok (.iconst 0, 1) := by decide +kernel
theorem dL_draftAt_2 : decode cL_draftAt 2 = .ok (.aload_n 0, 1) := by decide +kernel
theorem dL_draftAt_3 : decode cL_draftAt 3 = .ok (.iload_n 1, 1) := by decide +kernel
theorem dL_draftAt_4 : decode cL_draftAt 4 = .ok (.invokevirtual 30, 3) := by decide +kernel
theorem dL_draftAt_7 : decode cL_draftAt 7 = .ok (.i2l, 1) := by decide +kernel
theorem dL_draftAt_8 : decode cL_draftAt 8 = .ok (.lastore, 1) := by decide +kernel
theorem dL_draftAt_9 : decode cL_draftAt 9 = .ok (.goto 6, 3) := by decide +kernel
theorem dL_draftAt_12 : decode cL_draftAt 12 = .ok (.astore_n 3, 1) := by decide +kernel
theorem dL_draftAt_13 : decode cL_draftAt 13 = .ok (.iconst 1, 1) := by decide +kernel
theorem dL_draftAt_14 : decode cL_draftAt 14 = .ok (.ireturn, 1) := by decide +kernel
theorem dL_draftAt_15 : decode cL_draftAt 15 = .ok (.iconst 0, 1) := by decide +kernel
theorem dL_draftAt_16 : decode cL_draftAt 16 = .ok (.ireturn, 1) := by decide +kernel
theorem dL_save_0 : decode cL_save 0 = .ok (.aload_n 2, 1) := by decide +kernel
theorem dL_save_1 : decode cL_save 1 = .ok (.iconst 0, 1) := by decide +kernel
theorem dL_save_2 : decode cL_save 2 = .ok (.aload_n 0, 1) := by decide +kernel
theorem dL_save_3 : decode cL_save 3 = .ok (.iload_n 1, 1) := by decide +kernel
theorem dL_save_4 : decode cL_save 4 = .ok (.invokevirtual 34, 3) := by decide +kernel
theorem dL_save_7 : decode cL_save 7 = .ok (.i2l, 1) := by decide +kernel
theorem dL_save_8 : decode cL_save 8 = .ok (.lastore, 1) := by decide +kernel
theorem dL_save_9 : decode cL_save 9 = .ok (.goto 9, 3) := by decide +kernel
theorem dL_save_12 : decode cL_save 12 = .ok (.astore_n 3, 1) := by decide +kernel
theorem dL_save_13 : decode cL_save 13 = .ok (.iconst 1, 1) := by decide +kernel
theorem dL_save_14 : decode cL_save 14 = .ok (.ireturn, 1) := by decide +kernel
theorem dL_save_15 : decode cL_save 15 = .ok (.astore_n 3, 1) := by decide +kernel
theorem dL_save_16 : decode cL_save 16 = .ok (.iconst 2, 1) := by decide +kernel
theorem dL_save_17 : decode cL_save 17 = .ok (.ireturn, 1) := by decide +kernel
theorem dL_save_18 : decode cL_save 18 = .ok (.iconst 0, 1) := by decide +kernel
theorem dL_save_19 : decode cL_save 19 = .ok (.ireturn, 1) := by decide +kernel
theorem dL_forget_0 : decode cL_forget 0 = .ok (.aload_n 3, 1) := by decide +kernel
theorem dL_forget_1 : decode cL_forget 1 = .ok (.iconst 0, 1) := by decide +kernel
theorem dL_forget_2 : decode cL_forget 2 = .ok (.aload_n 0, 1) := by decide +kernel
theorem dL_forget_3 : decode cL_forget 3 = .ok (.iload_n 1, 1) := by decide +kernel
theorem dL_forget_4 : decode cL_forget 4 = .ok (.iload_n 2, 1) := by decide +kernel
theorem dL_forget_5 : decode cL_forget 5 = .ok (.invokevirtual 37, 3) := by decide +kernel
theorem dL_forget_8 : decode cL_forget 8 = .ok (.i2l, 1) := by decide +kernel
theorem dL_forget_9 : decode cL_forget 9 = .ok (.lastore, 1) := by decide +kernel
theorem dL_forget_10 : decode cL_forget 10 = .ok (.goto 7, 3) := by decide +kernel
theorem dL_forget_13 : decode cL_forget 13 = .ok (.astore 4, 2) := by decide +kernel
theorem dL_forget_15 : decode cL_forget 15 = .ok (.iconst 1, 1) := by decide +kernel
theorem dL_forget_16 : decode cL_forget 16 = .ok (.ireturn, 1) := by decide +kernel
theorem dL_forget_17 : decode cL_forget 17 = .ok (.iconst 0, 1) := by decide +kernel
theorem dL_forget_18 : decode cL_forget 18 = .ok (.ireturn, 1) := by decide +kernel
theorem dL_isKept_0 : decode cL_isKept 0 = .ok (.aload_n 3, 1) := by decide +kernel
theorem dL_isKept_1 : decode cL_isKept 1 = .ok (.iconst 0, 1) := by decide +kernel
theorem dL_isKept_2 : decode cL_isKept 2 = .ok (.aload_n 0, 1) := by decide +kernel
theorem dL_isKept_3 : decode cL_isKept 3 = .ok (.iload_n 1, 1) := by decide +kernel
theorem dL_isKept_4 : decode cL_isKept 4 = .ok (.iload_n 2, 1) := by decide +kernel
theorem dL_isKept_5 : decode cL_isKept 5 = .ok (.invokevirtual 40, 3) := by decide +kernel
theorem dL_isKept_8 : decode cL_isKept 8 = .ok (.ifCond .eq 7, 3) := by decide +kernel
theorem dL_isKept_11 : decode cL_isKept 11 = .ok (.lconst 1, 1) := by decide +kernel
theorem dL_isKept_12 : decode cL_isKept 12 = .ok (.goto 4, 3) := by decide +kernel
theorem dL_isKept_15 : decode cL_isKept 15 = .ok (.lconst 0, 1) := by decide +kernel
theorem dL_isKept_16 : decode cL_isKept 16 = .ok (.lastore, 1) := by decide +kernel
theorem dL_isKept_17 : decode cL_isKept 17 = .ok (.goto 7, 3) := by decide +kernel
theorem dL_isKept_20 : decode cL_isKept 20 = .ok (.astore 4, 2) := by decide +kernel
theorem dL_isKept_22 : decode cL_isKept 22 = .ok (.iconst 1, 1) := by decide +kernel
theorem dL_isKept_23 : decode cL_isKept 23 = .ok (.ireturn, 1) := by decide +kernel
theorem dL_isKept_24 : decode cL_isKept 24 = .ok (.iconst 0, 1) := by decide +kernel
theorem dL_isKept_25 : decode cL_isKept 25 = .ok (.ireturn, 1) := by decide +kernel
theorem dL_latest_0 : decode cL_latest 0 = .ok (.aload_n 2, 1) := by decide +kernel
theorem dL_latest_1 : decode cL_latest 1 = .ok (.iconst 0, 1) := by decide +kernel
theorem dL_latest_2 : decode cL_latest 2 = .ok (.aload_n 0, 1) := by decide +kernel
theorem dL_latest_3 : decode cL_latest 3 = .ok (.iload_n 1, 1) := by decide +kernel
theorem dL_latest_4 : decode cL_latest 4 = .ok (.invokevirtual 44, 3) := by decide +kernel
theorem dL_latest_7 : decode cL_latest 7 = .ok (.i2l, 1) := by decide +kernel
theorem dL_latest_8 : decode cL_latest 8 = .ok (.lastore, 1) := by decide +kernel
theorem dL_latest_9 : decode cL_latest 9 = .ok (.goto 6, 3) := by decide +kernel
theorem dL_latest_12 : decode cL_latest 12 = .ok (.astore_n 3, 1) := by decide +kernel
theorem dL_latest_13 : decode cL_latest 13 = .ok (.iconst 1, 1) := by decide +kernel
theorem dL_latest_14 : decode cL_latest 14 = .ok (.ireturn, 1) := by decide +kernel
theorem dL_latest_15 : decode cL_latest 15 = .ok (.iconst 0, 1) := by decide +kernel
theorem dL_latest_16 : decode cL_latest 16 = .ok (.ireturn, 1) := by decide +kernel
theorem dL_length_0 : decode cL_length 0 = .ok (.aload_n 3, 1) := by decide +kernel
theorem dL_length_1 : decode cL_length 1 = .ok (.iconst 0, 1) := by decide +kernel
theorem dL_length_2 : decode cL_length 2 = .ok (.aload_n 0, 1) := by decide +kernel
theorem dL_length_3 : decode cL_length 3 = .ok (.iload_n 1, 1) := by decide +kernel
theorem dL_length_4 : decode cL_length 4 = .ok (.iload_n 2, 1) := by decide +kernel
theorem dL_length_5 : decode cL_length 5 = .ok (.invokevirtual 47, 3) := by decide +kernel
theorem dL_length_8 : decode cL_length 8 = .ok (.i2l, 1) := by decide +kernel
theorem dL_length_9 : decode cL_length 9 = .ok (.lastore, 1) := by decide +kernel
theorem dL_length_10 : decode cL_length 10 = .ok (.goto 7, 3) := by decide +kernel
theorem dL_length_13 : decode cL_length 13 = .ok (.astore 4, 2) := by decide +kernel
theorem dL_length_15 : decode cL_length 15 = .ok (.iconst 1, 1) := by decide +kernel
theorem dL_length_16 : decode cL_length 16 = .ok (.ireturn, 1) := by decide +kernel
theorem dL_length_17 : decode cL_length 17 = .ok (.iconst 0, 1) := by decide +kernel
theorem dL_length_18 : decode cL_length 18 = .ok (.ireturn, 1) := by decide +kernel
theorem dL_byteAt_0 : decode cL_byteAt 0 = .ok (.aload 4, 2) := by decide +kernel
theorem dL_byteAt_2 : decode cL_byteAt 2 = .ok (.iconst 0, 1) := by decide +kernel
theorem dL_byteAt_3 : decode cL_byteAt 3 = .ok (.aload_n 0, 1) := by decide +kernel
theorem dL_byteAt_4 : decode cL_byteAt 4 = .ok (.iload_n 1, 1) := by decide +kernel
theorem dL_byteAt_5 : decode cL_byteAt 5 = .ok (.iload_n 2, 1) := by decide +kernel
theorem dL_byteAt_6 : decode cL_byteAt 6 = .ok (.iload_n 3, 1) := by decide +kernel
theorem dL_byteAt_7 : decode cL_byteAt 7 = .ok (.invokevirtual 50, 3) := by decide +kernel
theorem dL_byteAt_10 : decode cL_byteAt 10 = .ok (.i2l, 1) := by decide +kernel
theorem dL_byteAt_11 : decode cL_byteAt 11 = .ok (.lastore, 1) := by decide +kernel
theorem dL_byteAt_12 : decode cL_byteAt 12 = .ok (.goto 7, 3) := by decide +kernel
theorem dL_byteAt_15 : decode cL_byteAt 15 = .ok (.astore 5, 2) := by decide +kernel
theorem dL_byteAt_17 : decode cL_byteAt 17 = .ok (.iconst 1, 1) := by decide +kernel
theorem dL_byteAt_18 : decode cL_byteAt 18 = .ok (.ireturn, 1) := by decide +kernel
theorem dL_byteAt_19 : decode cL_byteAt 19 = .ok (.iconst 0, 1) := by decide +kernel
theorem dL_byteAt_20 : decode cL_byteAt 20 = .ok (.ireturn, 1) := by decide +kernel
theorem dL_byteByCopy_0 : decode cL_byteByCopy 0 = .ok (.aload 4, 2) := by decide +kernel
theorem dL_byteByCopy_2 : decode cL_byteByCopy 2 = .ok (.iconst 0, 1) := by decide +kernel
theorem dL_byteByCopy_3 : decode cL_byteByCopy 3 = .ok (.aload_n 0, 1) := by decide +kernel
theorem dL_byteByCopy_4 : decode cL_byteByCopy 4 = .ok (.iload_n 1, 1) := by decide +kernel
theorem dL_byteByCopy_5 : decode cL_byteByCopy 5 = .ok (.iload_n 2, 1) := by decide +kernel
theorem dL_byteByCopy_6 : decode cL_byteByCopy 6 = .ok (.iload_n 3, 1) := by decide +kernel
theorem dL_byteByCopy_7 : decode cL_byteByCopy 7 = .ok (.invokevirtual 53, 3) := by decide +kernel
theorem dL_byteByCopy_10 : decode cL_byteByCopy 10 = .ok (.i2l, 1) := by decide +kernel
theorem dL_byteByCopy_11 : decode cL_byteByCopy 11 = .ok (.lastore, 1) := by decide +kernel
theorem dL_byteByCopy_12 : decode cL_byteByCopy 12 = .ok (.goto 7, 3) := by decide +kernel
theorem dL_byteByCopy_15 : decode cL_byteByCopy 15 = .ok (.astore 5, 2) := by decide +kernel
theorem dL_byteByCopy_17 : decode cL_byteByCopy 17 = .ok (.iconst 1, 1) := by decide +kernel
theorem dL_byteByCopy_18 : decode cL_byteByCopy 18 = .ok (.ireturn, 1) := by decide +kernel
theorem dL_byteByCopy_19 : decode cL_byteByCopy 19 = .ok (.iconst 0, 1) := by decide +kernel
theorem dL_byteByCopy_20 : decode cL_byteByCopy 20 = .ok (.ireturn, 1) := by decide +kernel
theorem dL_chunksOf_0 : decode cL_chunksOf 0 = .ok (.aload_n 3, 1) := by decide +kernel
theorem dL_chunksOf_1 : decode cL_chunksOf 1 = .ok (.iconst 0, 1) := by decide +kernel
theorem dL_chunksOf_2 : decode cL_chunksOf 2 = .ok (.aload_n 0, 1) := by decide +kernel
theorem dL_chunksOf_3 : decode cL_chunksOf 3 = .ok (.iload_n 1, 1) := by decide +kernel
theorem dL_chunksOf_4 : decode cL_chunksOf 4 = .ok (.iload_n 2, 1) := by decide +kernel
theorem dL_chunksOf_5 : decode cL_chunksOf 5 = .ok (.invokevirtual 56, 3) := by decide +kernel
theorem dL_chunksOf_8 : decode cL_chunksOf 8 = .ok (.i2l, 1) := by decide +kernel
theorem dL_chunksOf_9 : decode cL_chunksOf 9 = .ok (.lastore, 1) := by decide +kernel
theorem dL_chunksOf_10 : decode cL_chunksOf 10 = .ok (.goto 7, 3) := by decide +kernel
theorem dL_chunksOf_13 : decode cL_chunksOf 13 = .ok (.astore 4, 2) := by decide +kernel
theorem dL_chunksOf_15 : decode cL_chunksOf 15 = .ok (.iconst 1, 1) := by decide +kernel
theorem dL_chunksOf_16 : decode cL_chunksOf 16 = .ok (.ireturn, 1) := by decide +kernel
theorem dL_chunksOf_17 : decode cL_chunksOf 17 = .ok (.iconst 0, 1) := by decide +kernel
theorem dL_chunksOf_18 : decode cL_chunksOf 18 = .ok (.ireturn, 1) := by decide +kernel
theorem dL_chunkAt_0 : decode cL_chunkAt 0 = .ok (.aload 4, 2) := by decide +kernel
theorem dL_chunkAt_2 : decode cL_chunkAt 2 = .ok (.iconst 0, 1) := by decide +kernel
theorem dL_chunkAt_3 : decode cL_chunkAt 3 = .ok (.aload_n 0, 1) := by decide +kernel
theorem dL_chunkAt_4 : decode cL_chunkAt 4 = .ok (.iload_n 1, 1) := by decide +kernel
theorem dL_chunkAt_5 : decode cL_chunkAt 5 = .ok (.iload_n 2, 1) := by decide +kernel
theorem dL_chunkAt_6 : decode cL_chunkAt 6 = .ok (.iload_n 3, 1) := by decide +kernel
theorem dL_chunkAt_7 : decode cL_chunkAt 7 = .ok (.invokevirtual 59, 3) := by decide +kernel
theorem dL_chunkAt_10 : decode cL_chunkAt 10 = .ok (.i2l, 1) := by decide +kernel
theorem dL_chunkAt_11 : decode cL_chunkAt 11 = .ok (.lastore, 1) := by decide +kernel
theorem dL_chunkAt_12 : decode cL_chunkAt 12 = .ok (.goto 7, 3) := by decide +kernel
theorem dL_chunkAt_15 : decode cL_chunkAt 15 = .ok (.astore 5, 2) := by decide +kernel
theorem dL_chunkAt_17 : decode cL_chunkAt 17 = .ok (.iconst 1, 1) := by decide +kernel
theorem dL_chunkAt_18 : decode cL_chunkAt 18 = .ok (.ireturn, 1) := by decide +kernel
theorem dL_chunkAt_19 : decode cL_chunkAt 19 = .ok (.iconst 0, 1) := by decide +kernel
theorem dL_chunkAt_20 : decode cL_chunkAt 20 = .ok (.ireturn, 1) := by decide +kernel
theorem dL_baseOf_0 : decode cL_baseOf 0 = .ok (.aload_n 3, 1) := by decide +kernel
theorem dL_baseOf_1 : decode cL_baseOf 1 = .ok (.iconst 0, 1) := by decide +kernel
theorem dL_baseOf_2 : decode cL_baseOf 2 = .ok (.aload_n 0, 1) := by decide +kernel
theorem dL_baseOf_3 : decode cL_baseOf 3 = .ok (.iload_n 1, 1) := by decide +kernel
theorem dL_baseOf_4 : decode cL_baseOf 4 = .ok (.iload_n 2, 1) := by decide +kernel
theorem dL_baseOf_5 : decode cL_baseOf 5 = .ok (.invokevirtual 62, 3) := by decide +kernel
theorem dL_baseOf_8 : decode cL_baseOf 8 = .ok (.i2l, 1) := by decide +kernel
theorem dL_baseOf_9 : decode cL_baseOf 9 = .ok (.lastore, 1) := by decide +kernel
theorem dL_baseOf_10 : decode cL_baseOf 10 = .ok (.goto 7, 3) := by decide +kernel
theorem dL_baseOf_13 : decode cL_baseOf 13 = .ok (.astore 4, 2) := by decide +kernel
theorem dL_baseOf_15 : decode cL_baseOf 15 = .ok (.iconst 1, 1) := by decide +kernel
theorem dL_baseOf_16 : decode cL_baseOf 16 = .ok (.ireturn, 1) := by decide +kernel
theorem dL_baseOf_17 : decode cL_baseOf 17 = .ok (.iconst 0, 1) := by decide +kernel
theorem dL_baseOf_18 : decode cL_baseOf 18 = .ok (.ireturn, 1) := by decide +kernel
theorem dL_chainOf_0 : decode cL_chainOf 0 = .ok (.aload_n 3, 1) := by decide +kernel
theorem dL_chainOf_1 : decode cL_chainOf 1 = .ok (.iconst 0, 1) := by decide +kernel
theorem dL_chainOf_2 : decode cL_chainOf 2 = .ok (.aload_n 0, 1) := by decide +kernel
theorem dL_chainOf_3 : decode cL_chainOf 3 = .ok (.iload_n 1, 1) := by decide +kernel
theorem dL_chainOf_4 : decode cL_chainOf 4 = .ok (.iload_n 2, 1) := by decide +kernel
theorem dL_chainOf_5 : decode cL_chainOf 5 = .ok (.invokevirtual 65, 3) := by decide +kernel
theorem dL_chainOf_8 : decode cL_chainOf 8 = .ok (.i2l, 1) := by decide +kernel
theorem dL_chainOf_9 : decode cL_chainOf 9 = .ok (.lastore, 1) := by decide +kernel
theorem dL_chainOf_10 : decode cL_chainOf 10 = .ok (.goto 7, 3) := by decide +kernel
theorem dL_chainOf_13 : decode cL_chainOf 13 = .ok (.astore 4, 2) := by decide +kernel
theorem dL_chainOf_15 : decode cL_chainOf 15 = .ok (.iconst 1, 1) := by decide +kernel
theorem dL_chainOf_16 : decode cL_chainOf 16 = .ok (.ireturn, 1) := by decide +kernel
theorem dL_chainOf_17 : decode cL_chainOf 17 = .ok (.iconst 0, 1) := by decide +kernel
theorem dL_chainOf_18 : decode cL_chainOf 18 = .ok (.ireturn, 1) := by decide +kernel
theorem dL_costOf_0 : decode cL_costOf 0 = .ok (.aload_n 3, 1) := by decide +kernel
theorem dL_costOf_1 : decode cL_costOf 1 = .ok (.iconst 0, 1) := by decide +kernel
theorem dL_costOf_2 : decode cL_costOf 2 = .ok (.aload_n 0, 1) := by decide +kernel
theorem dL_costOf_3 : decode cL_costOf 3 = .ok (.iload_n 1, 1) := by decide +kernel
theorem dL_costOf_4 : decode cL_costOf 4 = .ok (.iload_n 2, 1) := by decide +kernel
theorem dL_costOf_5 : decode cL_costOf 5 = .ok (.invokevirtual 68, 3) := by decide +kernel
theorem dL_costOf_8 : decode cL_costOf 8 = .ok (.i2l, 1) := by decide +kernel
theorem dL_costOf_9 : decode cL_costOf 9 = .ok (.lastore, 1) := by decide +kernel
theorem dL_costOf_10 : decode cL_costOf 10 = .ok (.goto 7, 3) := by decide +kernel
theorem dL_costOf_13 : decode cL_costOf 13 = .ok (.astore 4, 2) := by decide +kernel
theorem dL_costOf_15 : decode cL_costOf 15 = .ok (.iconst 1, 1) := by decide +kernel
theorem dL_costOf_16 : decode cL_costOf 16 = .ok (.ireturn, 1) := by decide +kernel
theorem dL_costOf_17 : decode cL_costOf 17 = .ok (.iconst 0, 1) := by decide +kernel
theorem dL_costOf_18 : decode cL_costOf 18 = .ok (.ireturn, 1) := by decide +kernel
theorem dL_chunkLength_0 : decode cL_chunkLength 0 = .ok (.aload_n 2, 1) := by decide +kernel
theorem dL_chunkLength_1 : decode cL_chunkLength 1 = .ok (.iconst 0, 1) := by decide +kernel
theorem dL_chunkLength_2 : decode cL_chunkLength 2 = .ok (.aload_n 0, 1) := by decide +kernel
theorem dL_chunkLength_3 : decode cL_chunkLength 3 = .ok (.iload_n 1, 1) := by decide +kernel
theorem dL_chunkLength_4 : decode cL_chunkLength 4 = .ok (.invokevirtual 71, 3) := by decide +kernel
theorem dL_chunkLength_7 : decode cL_chunkLength 7 = .ok (.i2l, 1) := by decide +kernel
theorem dL_chunkLength_8 : decode cL_chunkLength 8 = .ok (.lastore, 1) := by decide +kernel
theorem dL_chunkLength_9 : decode cL_chunkLength 9 = .ok (.goto 6, 3) := by decide +kernel
theorem dL_chunkLength_12 : decode cL_chunkLength 12 = .ok (.astore_n 3, 1) := by decide +kernel
theorem dL_chunkLength_13 : decode cL_chunkLength 13 = .ok (.iconst 1, 1) := by decide +kernel
theorem dL_chunkLength_14 : decode cL_chunkLength 14 = .ok (.ireturn, 1) := by decide +kernel
theorem dL_chunkLength_15 : decode cL_chunkLength 15 = .ok (.iconst 0, 1) := by decide +kernel
theorem dL_chunkLength_16 : decode cL_chunkLength 16 = .ok (.ireturn, 1) := by decide +kernel
theorem dL_fingerprint_0 : decode cL_fingerprint 0 = .ok (.aload_n 2, 1) := by decide +kernel
theorem dL_fingerprint_1 : decode cL_fingerprint 1 = .ok (.iconst 0, 1) := by decide +kernel
theorem dL_fingerprint_2 : decode cL_fingerprint 2 = .ok (.aload_n 0, 1) := by decide +kernel
theorem dL_fingerprint_3 : decode cL_fingerprint 3 = .ok (.iload_n 1, 1) := by decide +kernel
theorem dL_fingerprint_4 : decode cL_fingerprint 4 = .ok (.invokevirtual 74, 3) := by decide +kernel
theorem dL_fingerprint_7 : decode cL_fingerprint 7 = .ok (.i2l, 1) := by decide +kernel
theorem dL_fingerprint_8 : decode cL_fingerprint 8 = .ok (.lastore, 1) := by decide +kernel
theorem dL_fingerprint_9 : decode cL_fingerprint 9 = .ok (.goto 6, 3) := by decide +kernel
theorem dL_fingerprint_12 : decode cL_fingerprint 12 = .ok (.astore_n 3, 1) := by decide +kernel
theorem dL_fingerprint_13 : decode cL_fingerprint 13 = .ok (.iconst 1, 1) := by decide +kernel
theorem dL_fingerprint_14 : decode cL_fingerprint 14 = .ok (.ireturn, 1) := by decide +kernel
theorem dL_fingerprint_15 : decode cL_fingerprint 15 = .ok (.iconst 0, 1) := by decide +kernel
theorem dL_fingerprint_16 : decode cL_fingerprint 16 = .ok (.ireturn, 1) := by decide +kernel
theorem dL_references_0 : decode cL_references 0 = .ok (.aload_n 2, 1) := by decide +kernel
theorem dL_references_1 : decode cL_references 1 = .ok (.iconst 0, 1) := by decide +kernel
theorem dL_references_2 : decode cL_references 2 = .ok (.aload_n 0, 1) := by decide +kernel
theorem dL_references_3 : decode cL_references 3 = .ok (.iload_n 1, 1) := by decide +kernel
theorem dL_references_4 : decode cL_references 4 = .ok (.invokevirtual 77, 3) := by decide +kernel
theorem dL_references_7 : decode cL_references 7 = .ok (.i2l, 1) := by decide +kernel
theorem dL_references_8 : decode cL_references 8 = .ok (.lastore, 1) := by decide +kernel
theorem dL_references_9 : decode cL_references 9 = .ok (.goto 6, 3) := by decide +kernel
theorem dL_references_12 : decode cL_references 12 = .ok (.astore_n 3, 1) := by decide +kernel
theorem dL_references_13 : decode cL_references 13 = .ok (.iconst 1, 1) := by decide +kernel
theorem dL_references_14 : decode cL_references 14 = .ok (.ireturn, 1) := by decide +kernel
theorem dL_references_15 : decode cL_references 15 = .ok (.iconst 0, 1) := by decide +kernel
theorem dL_references_16 : decode cL_references 16 = .ok (.ireturn, 1) := by decide +kernel
theorem dL_containerOf_0 : decode cL_containerOf 0 = .ok (.aload_n 2, 1) := by decide +kernel
theorem dL_containerOf_1 : decode cL_containerOf 1 = .ok (.iconst 0, 1) := by decide +kernel
theorem dL_containerOf_2 : decode cL_containerOf 2 = .ok (.aload_n 0, 1) := by decide +kernel
theorem dL_containerOf_3 : decode cL_containerOf 3 = .ok (.iload_n 1, 1) := by decide +kernel
theorem dL_containerOf_4 : decode cL_containerOf 4 = .ok (.invokevirtual 80, 3) := by decide +kernel
theorem dL_containerOf_7 : decode cL_containerOf 7 = .ok (.i2l, 1) := by decide +kernel
theorem dL_containerOf_8 : decode cL_containerOf 8 = .ok (.lastore, 1) := by decide +kernel
theorem dL_containerOf_9 : decode cL_containerOf 9 = .ok (.goto 6, 3) := by decide +kernel
theorem dL_containerOf_12 : decode cL_containerOf 12 = .ok (.astore_n 3, 1) := by decide +kernel
theorem dL_containerOf_13 : decode cL_containerOf 13 = .ok (.iconst 1, 1) := by decide +kernel
theorem dL_containerOf_14 : decode cL_containerOf 14 = .ok (.ireturn, 1) := by decide +kernel
theorem dL_containerOf_15 : decode cL_containerOf 15 = .ok (.iconst 0, 1) := by decide +kernel
theorem dL_containerOf_16 : decode cL_containerOf 16 = .ok (.ireturn, 1) := by decide +kernel
theorem dL_cached_0 : decode cL_cached 0 = .ok (.aload_n 2, 1) := by decide +kernel
theorem dL_cached_1 : decode cL_cached 1 = .ok (.iconst 0, 1) := by decide +kernel
theorem dL_cached_2 : decode cL_cached 2 = .ok (.aload_n 0, 1) := by decide +kernel
theorem dL_cached_3 : decode cL_cached 3 = .ok (.iload_n 1, 1) := by decide +kernel
theorem dL_cached_4 : decode cL_cached 4 = .ok (.invokevirtual 83, 3) := by decide +kernel
theorem dL_cached_7 : decode cL_cached 7 = .ok (.i2l, 1) := by decide +kernel
theorem dL_cached_8 : decode cL_cached 8 = .ok (.lastore, 1) := by decide +kernel
theorem dL_cached_9 : decode cL_cached 9 = .ok (.goto 6, 3) := by decide +kernel
theorem dL_cached_12 : decode cL_cached 12 = .ok (.astore_n 3, 1) := by decide +kernel
theorem dL_cached_13 : decode cL_cached 13 = .ok (.iconst 1, 1) := by decide +kernel
theorem dL_cached_14 : decode cL_cached 14 = .ok (.ireturn, 1) := by decide +kernel
theorem dL_cached_15 : decode cL_cached 15 = .ok (.iconst 0, 1) := by decide +kernel
theorem dL_cached_16 : decode cL_cached 16 = .ok (.ireturn, 1) := by decide +kernel
