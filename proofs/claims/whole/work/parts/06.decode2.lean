theorem d_B_init_0 : decode b_B_init 0 = .ok (.aload_n 0, 1) := by decide +kernel
theorem d_B_init_1 : decode b_B_init 1 = .ok (.invokespecial 3, 3) := by decide +kernel
theorem d_B_init_4 : decode b_B_init 4 = .ok (.aload_n 0, 1) := by decide +kernel
theorem d_B_init_5 : decode b_B_init 5 = .ok (.sipush 1024, 3) := by decide +kernel
theorem d_B_init_8 : decode b_B_init 8 = .ok (.newarray .int, 2) := by decide +kernel
theorem d_B_init_10 : decode b_B_init 10 = .ok (.putfield 11, 3) := by decide +kernel
theorem d_B_init_13 : decode b_B_init 13 = .ok (.aload_n 0, 1) := by decide +kernel
theorem d_B_init_14 : decode b_B_init 14 = .ok (.bipush 64, 2) := by decide +kernel
theorem d_B_init_16 : decode b_B_init 16 = .ok (.newarray .int, 2) := by decide +kernel
theorem d_B_init_18 : decode b_B_init 18 = .ok (.putfield 15, 3) := by decide +kernel
theorem d_B_init_21 : decode b_B_init 21 = .ok (.return_, 1) := by decide +kernel
theorem d_B_kind_0 : decode b_B_kind 0 = .ok (.iconst 2, 1) := by decide +kernel
theorem d_B_kind_1 : decode b_B_kind 1 = .ok (.ireturn, 1) := by decide +kernel
theorem d_B_cells_0 : decode b_B_cells 0 = .ok (.iconst 4, 1) := by decide +kernel
theorem d_B_cells_1 : decode b_B_cells 1 = .ok (.aload_n 0, 1) := by decide +kernel
theorem d_B_cells_2 : decode b_B_cells 2 = .ok (.invokevirtual 18, 3) := by decide +kernel
theorem d_B_cells_5 : decode b_B_cells 5 = .ok (.imul, 1) := by decide +kernel
theorem d_B_cells_6 : decode b_B_cells 6 = .ok (.ireturn, 1) := by decide +kernel
theorem d_B_wipe_0 : decode b_B_wipe 0 = .ok (.aload_n 0, 1) := by decide +kernel
theorem d_B_wipe_1 : decode b_B_wipe 1 = .ok (.getfield 11, 3) := by decide +kernel
theorem d_B_wipe_4 : decode b_B_wipe 4 = .ok (.iconst 0, 1) := by decide +kernel
theorem d_B_wipe_5 : decode b_B_wipe 5 = .ok (.invokestatic 22, 3) := by decide +kernel
theorem d_B_wipe_8 : decode b_B_wipe 8 = .ok (.aload_n 0, 1) := by decide +kernel
theorem d_B_wipe_9 : decode b_B_wipe 9 = .ok (.iconst 0, 1) := by decide +kernel
theorem d_B_wipe_10 : decode b_B_wipe 10 = .ok (.putfield 28, 3) := by decide +kernel
theorem d_B_wipe_13 : decode b_B_wipe 13 = .ok (.return_, 1) := by decide +kernel
theorem d_B_put_0 : decode b_B_put 0 = .ok (.aload_n 0, 1) := by decide +kernel
theorem d_B_put_1 : decode b_B_put 1 = .ok (.lload_n 1, 1) := by decide +kernel
theorem d_B_put_2 : decode b_B_put 2 = .ok (.invokevirtual 32, 3) := by decide +kernel
theorem d_B_put_5 : decode b_B_put 5 = .ok (.istore_n 3, 1) := by decide +kernel
theorem d_B_put_6 : decode b_B_put 6 = .ok (.aload_n 0, 1) := by decide +kernel
theorem d_B_put_7 : decode b_B_put 7 = .ok (.lload_n 1, 1) := by decide +kernel
theorem d_B_put_8 : decode b_B_put 8 = .ok (.invokevirtual 36, 3) := by decide +kernel
theorem d_B_put_11 : decode b_B_put 11 = .ok (.istore 4, 2) := by decide +kernel
theorem d_B_put_13 : decode b_B_put 13 = .ok (.aload_n 0, 1) := by decide +kernel
theorem d_B_put_14 : decode b_B_put 14 = .ok (.iload 4, 2) := by decide +kernel
theorem d_B_put_16 : decode b_B_put 16 = .ok (.iload_n 3, 1) := by decide +kernel
theorem d_B_put_17 : decode b_B_put 17 = .ok (.invokevirtual 39, 3) := by decide +kernel
theorem d_B_put_20 : decode b_B_put 20 = .ok (.istore 5, 2) := by decide +kernel
theorem d_B_put_22 : decode b_B_put 22 = .ok (.aload_n 0, 1) := by decide +kernel
theorem d_B_put_23 : decode b_B_put 23 = .ok (.iload 4, 2) := by decide +kernel
theorem d_B_put_25 : decode b_B_put 25 = .ok (.iload_n 3, 1) := by decide +kernel
theorem d_B_put_26 : decode b_B_put 26 = .ok (.invokevirtual 43, 3) := by decide +kernel
theorem d_B_put_29 : decode b_B_put 29 = .ok (.ifCond .ne 23, 3) := by decide +kernel
theorem d_B_put_32 : decode b_B_put 32 = .ok (.aload_n 0, 1) := by decide +kernel
theorem d_B_put_33 : decode b_B_put 33 = .ok (.iload 5, 2) := by decide +kernel
theorem d_B_put_35 : decode b_B_put 35 = .ok (.iload_n 3, 1) := by decide +kernel
theorem d_B_put_36 : decode b_B_put 36 = .ok (.invokevirtual 43, 3) := by decide +kernel
theorem d_B_put_39 : decode b_B_put 39 = .ok (.ifCond .ne 13, 3) := by decide +kernel
theorem d_B_put_42 : decode b_B_put 42 = .ok (.aload_n 0, 1) := by decide +kernel
theorem d_B_put_43 : decode b_B_put 43 = .ok (.iload 5, 2) := by decide +kernel
theorem d_B_put_45 : decode b_B_put 45 = .ok (.iload_n 3, 1) := by decide +kernel
theorem d_B_put_46 : decode b_B_put 46 = .ok (.invokevirtual 47, 3) := by decide +kernel
theorem d_B_put_49 : decode b_B_put 49 = .ok (.ifCond .eq 7, 3) := by decide +kernel
theorem d_B_put_52 : decode b_B_put 52 = .ok (.iconst 1, 1) := by decide +kernel
theorem d_B_put_53 : decode b_B_put 53 = .ok (.goto 4, 3) := by decide +kernel
theorem d_B_put_56 : decode b_B_put 56 = .ok (.iconst 0, 1) := by decide +kernel
theorem d_B_put_57 : decode b_B_put 57 = .ok (.ireturn, 1) := by decide +kernel
theorem d_B_take_0 : decode b_B_take 0 = .ok (.aload_n 0, 1) := by decide +kernel
theorem d_B_take_1 : decode b_B_take 1 = .ok (.lload_n 1, 1) := by decide +kernel
theorem d_B_take_2 : decode b_B_take 2 = .ok (.invokevirtual 50, 3) := by decide +kernel
theorem d_B_take_5 : decode b_B_take 5 = .ok (.istore_n 3, 1) := by decide +kernel
theorem d_B_take_6 : decode b_B_take 6 = .ok (.iload_n 3, 1) := by decide +kernel
theorem d_B_take_7 : decode b_B_take 7 = .ok (.iconst (-1), 1) := by decide +kernel
theorem d_B_take_8 : decode b_B_take 8 = .ok (.if_icmp .ne 5, 3) := by decide +kernel
theorem d_B_take_11 : decode b_B_take 11 = .ok (.iconst 0, 1) := by decide +kernel
theorem d_B_take_12 : decode b_B_take 12 = .ok (.ireturn, 1) := by decide +kernel
theorem d_B_take_13 : decode b_B_take 13 = .ok (.aload_n 0, 1) := by decide +kernel
theorem d_B_take_14 : decode b_B_take 14 = .ok (.getfield 11, 3) := by decide +kernel
theorem d_B_take_17 : decode b_B_take 17 = .ok (.iload_n 3, 1) := by decide +kernel
theorem d_B_take_18 : decode b_B_take 18 = .ok (.iconst 0, 1) := by decide +kernel
theorem d_B_take_19 : decode b_B_take 19 = .ok (.iastore, 1) := by decide +kernel
theorem d_B_take_20 : decode b_B_take 20 = .ok (.iconst 1, 1) := by decide +kernel
theorem d_B_take_21 : decode b_B_take 21 = .ok (.ireturn, 1) := by decide +kernel
theorem d_B_holds_0 : decode b_B_holds 0 = .ok (.aload_n 0, 1) := by decide +kernel
theorem d_B_holds_1 : decode b_B_holds 1 = .ok (.lload_n 1, 1) := by decide +kernel
theorem d_B_holds_2 : decode b_B_holds 2 = .ok (.invokevirtual 50, 3) := by decide +kernel
theorem d_B_holds_5 : decode b_B_holds 5 = .ok (.iconst (-1), 1) := by decide +kernel
theorem d_B_holds_6 : decode b_B_holds 6 = .ok (.if_icmp .eq 7, 3) := by decide +kernel
theorem d_B_holds_9 : decode b_B_holds 9 = .ok (.iconst 1, 1) := by decide +kernel
theorem d_B_holds_10 : decode b_B_holds 10 = .ok (.goto 4, 3) := by decide +kernel
theorem d_B_holds_13 : decode b_B_holds 13 = .ok (.iconst 0, 1) := by decide +kernel
theorem d_B_holds_14 : decode b_B_holds 14 = .ok (.ireturn, 1) := by decide +kernel
theorem d_B_looksAlike_0 : decode b_B_looksAlike 0 = .ok (.aload_n 0, 1) := by decide +kernel
theorem d_B_looksAlike_1 : decode b_B_looksAlike 1 = .ok (.lload_n 1, 1) := by decide +kernel
theorem d_B_looksAlike_2 : decode b_B_looksAlike 2 = .ok (.invokevirtual 32, 3) := by decide +kernel
theorem d_B_looksAlike_5 : decode b_B_looksAlike 5 = .ok (.istore 5, 2) := by decide +kernel
theorem d_B_looksAlike_7 : decode b_B_looksAlike 7 = .ok (.iload 5, 2) := by decide +kernel
theorem d_B_looksAlike_9 : decode b_B_looksAlike 9 = .ok (.aload_n 0, 1) := by decide +kernel
theorem d_B_looksAlike_10 : decode b_B_looksAlike 10 = .ok (.lload_n 3, 1) := by decide +kernel
theorem d_B_looksAlike_11 : decode b_B_looksAlike 11 = .ok (.invokevirtual 32, 3) := by decide +kernel
theorem d_B_looksAlike_14 : decode b_B_looksAlike 14 = .ok (.if_icmp .eq 5, 3) := by decide +kernel
theorem d_B_looksAlike_17 : decode b_B_looksAlike 17 = .ok (.iconst 0, 1) := by decide +kernel
theorem d_B_looksAlike_18 : decode b_B_looksAlike 18 = .ok (.ireturn, 1) := by decide +kernel
theorem d_B_looksAlike_19 : decode b_B_looksAlike 19 = .ok (.aload_n 0, 1) := by decide +kernel
theorem d_B_looksAlike_20 : decode b_B_looksAlike 20 = .ok (.lload_n 1, 1) := by decide +kernel
theorem d_B_looksAlike_21 : decode b_B_looksAlike 21 = .ok (.invokevirtual 36, 3) := by decide +kernel
theorem d_B_looksAlike_24 : decode b_B_looksAlike 24 = .ok (.istore 6, 2) := by decide +kernel
theorem d_B_looksAlike_26 : decode b_B_looksAlike 26 = .ok (.aload_n 0, 1) := by decide +kernel
theorem d_B_looksAlike_27 : decode b_B_looksAlike 27 = .ok (.lload_n 3, 1) := by decide +kernel
theorem d_B_looksAlike_28 : decode b_B_looksAlike 28 = .ok (.invokevirtual 36, 3) := by decide +kernel
theorem d_B_looksAlike_31 : decode b_B_looksAlike 31 = .ok (.istore 7, 2) := by decide +kernel
theorem d_B_looksAlike_33 : decode b_B_looksAlike 33 = .ok (.iload 6, 2) := by decide +kernel
theorem d_B_looksAlike_35 : decode b_B_looksAlike 35 = .ok (.iload 7, 2) := by decide +kernel
theorem d_B_looksAlike_37 : decode b_B_looksAlike 37 = .ok (.if_icmp .eq 16, 3) := by decide +kernel
theorem d_B_looksAlike_40 : decode b_B_looksAlike 40 = .ok (.aload_n 0, 1) := by decide +kernel
theorem d_B_looksAlike_41 : decode b_B_looksAlike 41 = .ok (.iload 6, 2) := by decide +kernel
theorem d_B_looksAlike_43 : decode b_B_looksAlike 43 = .ok (.iload 5, 2) := by decide +kernel
theorem d_B_looksAlike_45 : decode b_B_looksAlike 45 = .ok (.invokevirtual 39, 3) := by decide +kernel
theorem d_B_looksAlike_48 : decode b_B_looksAlike 48 = .ok (.iload 7, 2) := by decide +kernel
theorem d_B_looksAlike_50 : decode b_B_looksAlike 50 = .ok (.if_icmp .ne 7, 3) := by decide +kernel
theorem d_B_looksAlike_53 : decode b_B_looksAlike 53 = .ok (.iconst 1, 1) := by decide +kernel
theorem d_B_looksAlike_54 : decode b_B_looksAlike 54 = .ok (.goto 4, 3) := by decide +kernel
theorem d_B_looksAlike_57 : decode b_B_looksAlike 57 = .ok (.iconst 0, 1) := by decide +kernel
theorem d_B_looksAlike_58 : decode b_B_looksAlike 58 = .ok (.ireturn, 1) := by decide +kernel
theorem d_B_strain_0 : decode b_B_strain 0 = .ok (.aload_n 0, 1) := by decide +kernel
theorem d_B_strain_1 : decode b_B_strain 1 = .ok (.getfield 28, 3) := by decide +kernel
theorem d_B_strain_4 : decode b_B_strain 4 = .ok (.ireturn, 1) := by decide +kernel
theorem d_B_look_0 : decode b_B_look 0 = .ok (.aload_n 0, 1) := by decide +kernel
theorem d_B_look_1 : decode b_B_look 1 = .ok (.getfield 11, 3) := by decide +kernel
theorem d_B_look_4 : decode b_B_look 4 = .ok (.iload_n 1, 1) := by decide +kernel
theorem d_B_look_5 : decode b_B_look 5 = .ok (.iaload, 1) := by decide +kernel
theorem d_B_look_6 : decode b_B_look 6 = .ok (.ireturn, 1) := by decide +kernel
theorem d_B_fingerprint_0 : decode b_B_fingerprint 0 = .ok (.lload_n 1, 1) := by decide +kernel
theorem d_B_fingerprint_1 : decode b_B_fingerprint 1 = .ok (.iconst 0, 1) := by decide +kernel
theorem d_B_fingerprint_2 : decode b_B_fingerprint 2 = .ok (.invokestatic 53, 3) := by decide +kernel
theorem d_B_fingerprint_5 : decode b_B_fingerprint 5 = .ok (.bipush 64, 2) := by decide +kernel
theorem d_B_fingerprint_7 : decode b_B_fingerprint 7 = .ok (.aload_n 0, 1) := by decide +kernel
theorem d_B_fingerprint_8 : decode b_B_fingerprint 8 = .ok (.getfield 57, 3) := by decide +kernel
theorem d_B_fingerprint_11 : decode b_B_fingerprint 11 = .ok (.isub, 1) := by decide +kernel
theorem d_B_fingerprint_12 : decode b_B_fingerprint 12 = .ok (.lushr, 1) := by decide +kernel
theorem d_B_fingerprint_13 : decode b_B_fingerprint 13 = .ok (.l2i, 1) := by decide +kernel
theorem d_B_fingerprint_14 : decode b_B_fingerprint 14 = .ok (.istore_n 3, 1) := by decide +kernel
theorem d_B_fingerprint_15 : decode b_B_fingerprint 15 = .ok (.iload_n 3, 1) := by decide +kernel
theorem d_B_fingerprint_16 : decode b_B_fingerprint 16 = .ok (.ifCond .ne 7, 3) := by decide +kernel
theorem d_B_fingerprint_19 : decode b_B_fingerprint 19 = .ok (.iconst 1, 1) := by decide +kernel
theorem d_B_fingerprint_20 : decode b_B_fingerprint 20 = .ok (.goto 4, 3) := by decide +kernel
theorem d_B_fingerprint_23 : decode b_B_fingerprint 23 = .ok (.iload_n 3, 1) := by decide +kernel
theorem d_B_fingerprint_24 : decode b_B_fingerprint 24 = .ok (.ireturn, 1) := by decide +kernel
theorem d_B_firstBucket_0 : decode b_B_firstBucket 0 = .ok (.aload_n 0, 1) := by decide +kernel
theorem d_B_firstBucket_1 : decode b_B_firstBucket 1 = .ok (.lload_n 1, 1) := by decide +kernel
theorem d_B_firstBucket_2 : decode b_B_firstBucket 2 = .ok (.iconst 1, 1) := by decide +kernel
theorem d_B_firstBucket_3 : decode b_B_firstBucket 3 = .ok (.invokestatic 53, 3) := by decide +kernel
theorem d_B_firstBucket_6 : decode b_B_firstBucket 6 = .ok (.invokevirtual 60, 3) := by decide +kernel
theorem d_B_firstBucket_9 : decode b_B_firstBucket 9 = .ok (.ireturn, 1) := by decide +kernel
theorem d_B_otherBucket_0 : decode b_B_otherBucket 0 = .ok (.iload_n 1, 1) := by decide +kernel
theorem d_B_otherBucket_1 : decode b_B_otherBucket 1 = .ok (.aload_n 0, 1) := by decide +kernel
theorem d_B_otherBucket_2 : decode b_B_otherBucket 2 = .ok (.iload_n 2, 1) := by decide +kernel
theorem d_B_otherBucket_3 : decode b_B_otherBucket 3 = .ok (.i2l, 1) := by decide +kernel
theorem d_B_otherBucket_4 : decode b_B_otherBucket 4 = .ok (.iconst 2, 1) := by decide +kernel
theorem d_B_otherBucket_5 : decode b_B_otherBucket 5 = .ok (.invokestatic 53, 3) := by decide +kernel
theorem d_B_otherBucket_8 : decode b_B_otherBucket 8 = .ok (.invokevirtual 60, 3) := by decide +kernel
theorem d_B_otherBucket_11 : decode b_B_otherBucket 11 = .ok (.ixor, 1) := by decide +kernel
theorem d_B_otherBucket_12 : decode b_B_otherBucket 12 = .ok (.ireturn, 1) := by decide +kernel
theorem d_B_slotOf_0 : decode b_B_slotOf 0 = .ok (.aload_n 0, 1) := by decide +kernel
theorem d_B_slotOf_1 : decode b_B_slotOf 1 = .ok (.lload_n 1, 1) := by decide +kernel
theorem d_B_slotOf_2 : decode b_B_slotOf 2 = .ok (.invokevirtual 32, 3) := by decide +kernel
theorem d_B_slotOf_5 : decode b_B_slotOf 5 = .ok (.istore_n 3, 1) := by decide +kernel
theorem d_B_slotOf_6 : decode b_B_slotOf 6 = .ok (.aload_n 0, 1) := by decide +kernel
theorem d_B_slotOf_7 : decode b_B_slotOf 7 = .ok (.lload_n 1, 1) := by decide +kernel
theorem d_B_slotOf_8 : decode b_B_slotOf 8 = .ok (.invokevirtual 36, 3) := by decide +kernel
theorem d_B_slotOf_11 : decode b_B_slotOf 11 = .ok (.istore 4, 2) := by decide +kernel
theorem d_B_slotOf_13 : decode b_B_slotOf 13 = .ok (.aload_n 0, 1) := by decide +kernel
theorem d_B_slotOf_14 : decode b_B_slotOf 14 = .ok (.iload 4, 2) := by decide +kernel
theorem d_B_slotOf_16 : decode b_B_slotOf 16 = .ok (.iload_n 3, 1) := by decide +kernel
theorem d_B_slotOf_17 : decode b_B_slotOf 17 = .ok (.invokevirtual 63, 3) := by decide +kernel
theorem d_B_slotOf_20 : decode b_B_slotOf 20 = .ok (.istore 5, 2) := by decide +kernel
theorem d_B_slotOf_22 : decode b_B_slotOf 22 = .ok (.iload 5, 2) := by decide +kernel
theorem d_B_slotOf_24 : decode b_B_slotOf 24 = .ok (.iconst (-1), 1) := by decide +kernel
theorem d_B_slotOf_25 : decode b_B_slotOf 25 = .ok (.if_icmp .eq 8, 3) := by decide +kernel
theorem d_B_slotOf_28 : decode b_B_slotOf 28 = .ok (.iload 5, 2) := by decide +kernel
theorem d_B_slotOf_30 : decode b_B_slotOf 30 = .ok (.goto 15, 3) := by decide +kernel
theorem d_B_slotOf_33 : decode b_B_slotOf 33 = .ok (.aload_n 0, 1) := by decide +kernel
theorem d_B_slotOf_34 : decode b_B_slotOf 34 = .ok (.aload_n 0, 1) := by decide +kernel
theorem d_B_slotOf_35 : decode b_B_slotOf 35 = .ok (.iload 4, 2) := by decide +kernel
theorem d_B_slotOf_37 : decode b_B_slotOf 37 = .ok (.iload_n 3, 1) := by decide +kernel
theorem d_B_slotOf_38 : decode b_B_slotOf 38 = .ok (.invokevirtual 39, 3) := by decide +kernel
theorem d_B_slotOf_41 : decode b_B_slotOf 41 = .ok (.iload_n 3, 1) := by decide +kernel
theorem d_B_slotOf_42 : decode b_B_slotOf 42 = .ok (.invokevirtual 63, 3) := by decide +kernel
theorem d_B_slotOf_45 : decode b_B_slotOf 45 = .ok (.ireturn, 1) := by decide +kernel
theorem d_B_slotWith_0 : decode b_B_slotWith 0 = .ok (.iload_n 1, 1) := by decide +kernel
theorem d_B_slotWith_1 : decode b_B_slotWith 1 = .ok (.iconst 4, 1) := by decide +kernel
theorem d_B_slotWith_2 : decode b_B_slotWith 2 = .ok (.imul, 1) := by decide +kernel
theorem d_B_slotWith_3 : decode b_B_slotWith 3 = .ok (.istore_n 3, 1) := by decide +kernel
theorem d_B_slotWith_4 : decode b_B_slotWith 4 = .ok (.iload_n 3, 1) := by decide +kernel
theorem d_B_slotWith_5 : decode b_B_slotWith 5 = .ok (.istore 4, 2) := by decide +kernel
theorem d_B_slotWith_7 : decode b_B_slotWith 7 = .ok (.iload 4, 2) := by decide +kernel
theorem d_B_slotWith_9 : decode b_B_slotWith 9 = .ok (.iload_n 3, 1) := by decide +kernel
theorem d_B_slotWith_10 : decode b_B_slotWith 10 = .ok (.iconst 4, 1) := by decide +kernel
theorem d_B_slotWith_11 : decode b_B_slotWith 11 = .ok (.iadd, 1) := by decide +kernel
theorem d_B_slotWith_12 : decode b_B_slotWith 12 = .ok (.if_icmp .ge 23, 3) := by decide +kernel
theorem d_B_slotWith_15 : decode b_B_slotWith 15 = .ok (.aload_n 0, 1) := by decide +kernel
theorem d_B_slotWith_16 : decode b_B_slotWith 16 = .ok (.getfield 11, 3) := by decide +kernel
theorem d_B_slotWith_19 : decode b_B_slotWith 19 = .ok (.iload 4, 2) := by decide +kernel
theorem d_B_slotWith_21 : decode b_B_slotWith 21 = .ok (.iaload, 1) := by decide +kernel
theorem d_B_slotWith_22 : decode b_B_slotWith 22 = .ok (.iload_n 2, 1) := by decide +kernel
theorem d_B_slotWith_23 : decode b_B_slotWith 23 = .ok (.if_icmp .ne 6, 3) := by decide +kernel
theorem d_B_slotWith_26 : decode b_B_slotWith 26 = .ok (.iload 4, 2) := by decide +kernel
theorem d_B_slotWith_28 : decode b_B_slotWith 28 = .ok (.ireturn, 1) := by decide +kernel
theorem d_B_slotWith_29 : decode b_B_slotWith 29 = .ok (.iinc 4 1, 3) := by decide +kernel
theorem d_B_slotWith_32 : decode b_B_slotWith 32 = .ok (.goto (-25), 3) := by decide +kernel
theorem d_B_slotWith_35 : decode b_B_slotWith 35 = .ok (.iconst (-1), 1) := by decide +kernel
theorem d_B_slotWith_36 : decode b_B_slotWith 36 = .ok (.ireturn, 1) := by decide +kernel
theorem d_B_putFree_0 : decode b_B_putFree 0 = .ok (.aload_n 0, 1) := by decide +kernel
theorem d_B_putFree_1 : decode b_B_putFree 1 = .ok (.iload_n 1, 1) := by decide +kernel
theorem d_B_putFree_2 : decode b_B_putFree 2 = .ok (.iconst 0, 1) := by decide +kernel
theorem d_B_putFree_3 : decode b_B_putFree 3 = .ok (.invokevirtual 63, 3) := by decide +kernel
theorem d_B_putFree_6 : decode b_B_putFree 6 = .ok (.istore_n 3, 1) := by decide +kernel
theorem d_B_putFree_7 : decode b_B_putFree 7 = .ok (.iload_n 3, 1) := by decide +kernel
theorem d_B_putFree_8 : decode b_B_putFree 8 = .ok (.iconst (-1), 1) := by decide +kernel
theorem d_B_putFree_9 : decode b_B_putFree 9 = .ok (.if_icmp .ne 5, 3) := by decide +kernel
theorem d_B_putFree_12 : decode b_B_putFree 12 = .ok (.iconst 0, 1) := by decide +kernel
theorem d_B_putFree_13 : decode b_B_putFree 13 = .ok (.ireturn, 1) := by decide +kernel
theorem d_B_putFree_14 : decode b_B_putFree 14 = .ok (.aload_n 0, 1) := by decide +kernel
theorem d_B_putFree_15 : decode b_B_putFree 15 = .ok (.getfield 11, 3) := by decide +kernel
theorem d_B_putFree_18 : decode b_B_putFree 18 = .ok (.iload_n 3, 1) := by decide +kernel
theorem d_B_putFree_19 : decode b_B_putFree 19 = .ok (.iload_n 2, 1) := by decide +kernel
theorem d_B_putFree_20 : decode b_B_putFree 20 = .ok (.iastore, 1) := by decide +kernel
theorem d_B_putFree_21 : decode b_B_putFree 21 = .ok (.iconst 1, 1) := by decide +kernel
theorem d_B_putFree_22 : decode b_B_putFree 22 = .ok (.ireturn, 1) := by decide +kernel
theorem d_B_pushInto_0 : decode b_B_pushInto 0 = .ok (.iload_n 1, 1) := by decide +kernel
theorem d_B_pushInto_1 : decode b_B_pushInto 1 = .ok (.istore_n 3, 1) := by decide +kernel
theorem d_B_pushInto_2 : decode b_B_pushInto 2 = .ok (.iload_n 2, 1) := by decide +kernel
theorem d_B_pushInto_3 : decode b_B_pushInto 3 = .ok (.istore 4, 2) := by decide +kernel
theorem d_B_pushInto_5 : decode b_B_pushInto 5 = .ok (.iconst 0, 1) := by decide +kernel
theorem d_B_pushInto_6 : decode b_B_pushInto 6 = .ok (.istore 5, 2) := by decide +kernel
theorem d_B_pushInto_8 : decode b_B_pushInto 8 = .ok (.iload 5, 2) := by decide +kernel
theorem d_B_pushInto_10 : decode b_B_pushInto 10 = .ok (.bipush 64, 2) := by decide +kernel
theorem d_B_pushInto_12 : decode b_B_pushInto 12 = .ok (.if_icmp .ge 69, 3) := by decide +kernel
theorem d_B_pushInto_15 : decode b_B_pushInto 15 = .ok (.aload_n 0, 1) := by decide +kernel
theorem d_B_pushInto_16 : decode b_B_pushInto 16 = .ok (.getfield 15, 3) := by decide +kernel
theorem d_B_pushInto_19 : decode b_B_pushInto 19 = .ok (.iload 5, 2) := by decide +kernel
theorem d_B_pushInto_21 : decode b_B_pushInto 21 = .ok (.iload_n 3, 1) := by decide +kernel
theorem d_B_pushInto_22 : decode b_B_pushInto 22 = .ok (.iconst 4, 1) := by decide +kernel
theorem d_B_pushInto_23 : decode b_B_pushInto 23 = .ok (.imul, 1) := by decide +kernel
theorem d_B_pushInto_24 : decode b_B_pushInto 24 = .ok (.iload 5, 2) := by decide +kernel
theorem d_B_pushInto_26 : decode b_B_pushInto 26 = .ok (.iconst 4, 1) := by decide +kernel
theorem d_B_pushInto_27 : decode b_B_pushInto 27 = .ok (.irem, 1) := by decide +kernel
theorem d_B_pushInto_28 : decode b_B_pushInto 28 = .ok (.iadd, 1) := by decide +kernel
theorem d_B_pushInto_29 : decode b_B_pushInto 29 = .ok (.iastore, 1) := by decide +kernel
theorem d_B_pushInto_30 : decode b_B_pushInto 30 = .ok (.aload_n 0, 1) := by decide +kernel
theorem d_B_pushInto_31 : decode b_B_pushInto 31 = .ok (.aload_n 0, 1) := by decide +kernel
theorem d_B_pushInto_32 : decode b_B_pushInto 32 = .ok (.getfield 15, 3) := by decide +kernel
theorem d_B_pushInto_35 : decode b_B_pushInto 35 = .ok (.iload 5, 2) := by decide +kernel
theorem d_B_pushInto_37 : decode b_B_pushInto 37 = .ok (.iaload, 1) := by decide +kernel
theorem d_B_pushInto_38 : decode b_B_pushInto 38 = .ok (.iload 4, 2) := by decide +kernel
theorem d_B_pushInto_40 : decode b_B_pushInto 40 = .ok (.invokevirtual 66, 3) := by decide +kernel
theorem d_B_pushInto_43 : decode b_B_pushInto 43 = .ok (.istore 4, 2) := by decide +kernel
theorem d_B_pushInto_45 : decode b_B_pushInto 45 = .ok (.aload_n 0, 1) := by decide +kernel
theorem d_B_pushInto_46 : decode b_B_pushInto 46 = .ok (.dup, 1) := by decide +kernel
theorem d_B_pushInto_47 : decode b_B_pushInto 47 = .ok (.getfield 28, 3) := by decide +kernel
theorem d_B_pushInto_50 : decode b_B_pushInto 50 = .ok (.iconst 1, 1) := by decide +kernel
theorem d_B_pushInto_51 : decode b_B_pushInto 51 = .ok (.iadd, 1) := by decide +kernel
theorem d_B_pushInto_52 : decode b_B_pushInto 52 = .ok (.putfield 28, 3) := by decide +kernel
theorem d_B_pushInto_55 : decode b_B_pushInto 55 = .ok (.aload_n 0, 1) := by decide +kernel
theorem d_B_pushInto_56 : decode b_B_pushInto 56 = .ok (.iload_n 3, 1) := by decide +kernel
theorem d_B_pushInto_57 : decode b_B_pushInto 57 = .ok (.iload 4, 2) := by decide +kernel
theorem d_B_pushInto_59 : decode b_B_pushInto 59 = .ok (.invokevirtual 39, 3) := by decide +kernel
theorem d_B_pushInto_62 : decode b_B_pushInto 62 = .ok (.istore_n 3, 1) := by decide +kernel
theorem d_B_pushInto_63 : decode b_B_pushInto 63 = .ok (.aload_n 0, 1) := by decide +kernel
theorem d_B_pushInto_64 : decode b_B_pushInto 64 = .ok (.iload_n 3, 1) := by decide +kernel
theorem d_B_pushInto_65 : decode b_B_pushInto 65 = .ok (.iload 4, 2) := by decide +kernel
theorem d_B_pushInto_67 : decode b_B_pushInto 67 = .ok (.invokevirtual 43, 3) := by decide +kernel
theorem d_B_pushInto_70 : decode b_B_pushInto 70 = .ok (.ifCond .eq 5, 3) := by decide +kernel
theorem d_B_pushInto_73 : decode b_B_pushInto 73 = .ok (.iconst 1, 1) := by decide +kernel
theorem d_B_pushInto_74 : decode b_B_pushInto 74 = .ok (.ireturn, 1) := by decide +kernel
theorem d_B_pushInto_75 : decode b_B_pushInto 75 = .ok (.iinc 5 1, 3) := by decide +kernel
theorem d_B_pushInto_78 : decode b_B_pushInto 78 = .ok (.goto (-70), 3) := by decide +kernel
theorem d_B_pushInto_81 : decode b_B_pushInto 81 = .ok (.aload_n 0, 1) := by decide +kernel
theorem d_B_pushInto_82 : decode b_B_pushInto 82 = .ok (.iload 4, 2) := by decide +kernel
theorem d_B_pushInto_84 : decode b_B_pushInto 84 = .ok (.invokevirtual 69, 3) := by decide +kernel
theorem d_B_pushInto_87 : decode b_B_pushInto 87 = .ok (.iconst 0, 1) := by decide +kernel
theorem d_B_pushInto_88 : decode b_B_pushInto 88 = .ok (.ireturn, 1) := by decide +kernel
theorem d_B_pushBack_0 : decode b_B_pushBack 0 = .ok (.iload_n 1, 1) := by decide +kernel
theorem d_B_pushBack_1 : decode b_B_pushBack 1 = .ok (.istore_n 2, 1) := by decide +kernel
theorem d_B_pushBack_2 : decode b_B_pushBack 2 = .ok (.bipush 63, 2) := by decide +kernel
theorem d_B_pushBack_4 : decode b_B_pushBack 4 = .ok (.istore_n 3, 1) := by decide +kernel
theorem d_B_pushBack_5 : decode b_B_pushBack 5 = .ok (.iload_n 3, 1) := by decide +kernel
theorem d_B_pushBack_6 : decode b_B_pushBack 6 = .ok (.ifCond .lt 21, 3) := by decide +kernel
theorem d_B_pushBack_9 : decode b_B_pushBack 9 = .ok (.aload_n 0, 1) := by decide +kernel
theorem d_B_pushBack_10 : decode b_B_pushBack 10 = .ok (.aload_n 0, 1) := by decide +kernel
theorem d_B_pushBack_11 : decode b_B_pushBack 11 = .ok (.getfield 15, 3) := by decide +kernel
theorem d_B_pushBack_14 : decode b_B_pushBack 14 = .ok (.iload_n 3, 1) := by decide +kernel
theorem d_B_pushBack_15 : decode b_B_pushBack 15 = .ok (.iaload, 1) := by decide +kernel
theorem d_B_pushBack_16 : decode b_B_pushBack 16 = .ok (.iload_n 2, 1) := by decide +kernel
theorem d_B_pushBack_17 : decode b_B_pushBack 17 = .ok (.invokevirtual 66, 3) := by decide +kernel
theorem d_B_pushBack_20 : decode b_B_pushBack 20 = .ok (.istore_n 2, 1) := by decide +kernel
theorem d_B_pushBack_21 : decode b_B_pushBack 21 = .ok (.iinc 3 (-1), 3) := by decide +kernel
theorem d_B_pushBack_24 : decode b_B_pushBack 24 = .ok (.goto (-19), 3) := by decide +kernel
theorem d_B_pushBack_27 : decode b_B_pushBack 27 = .ok (.return_, 1) := by decide +kernel
theorem d_B_exchange_0 : decode b_B_exchange 0 = .ok (.aload_n 0, 1) := by decide +kernel
theorem d_B_exchange_1 : decode b_B_exchange 1 = .ok (.getfield 11, 3) := by decide +kernel
theorem d_B_exchange_4 : decode b_B_exchange 4 = .ok (.iload_n 1, 1) := by decide +kernel
theorem d_B_exchange_5 : decode b_B_exchange 5 = .ok (.iaload, 1) := by decide +kernel
theorem d_B_exchange_6 : decode b_B_exchange 6 = .ok (.istore_n 3, 1) := by decide +kernel
theorem d_B_exchange_7 : decode b_B_exchange 7 = .ok (.aload_n 0, 1) := by decide +kernel
theorem d_B_exchange_8 : decode b_B_exchange 8 = .ok (.getfield 11, 3) := by decide +kernel
theorem d_B_exchange_11 : decode b_B_exchange 11 = .ok (.iload_n 1, 1) := by decide +kernel
theorem d_B_exchange_12 : decode b_B_exchange 12 = .ok (.iload_n 2, 1) := by decide +kernel
theorem d_B_exchange_13 : decode b_B_exchange 13 = .ok (.iastore, 1) := by decide +kernel
theorem d_B_exchange_14 : decode b_B_exchange 14 = .ok (.iload_n 3, 1) := by decide +kernel
theorem d_B_exchange_15 : decode b_B_exchange 15 = .ok (.ireturn, 1) := by decide +kernel
theorem d_R_init_0 : decode b_R_init 0 = .ok (.aload_n 0, 1) := by decide +kernel
theorem d_R_init_1 : decode b_R_init 1 = .ok (.invokespecial 3, 3) := by decide +kernel
theorem d_R_init_4 : decode b_R_init 4 = .ok (.aload_n 0, 1) := by decide +kernel
theorem d_R_init_5 : decode b_R_init 5 = .ok (.sipush 256, 3) := by decide +kernel
theorem d_R_init_8 : decode b_R_init 8 = .ok (.newarray .int, 2) := by decide +kernel
theorem d_R_init_10 : decode b_R_init 10 = .ok (.putfield 11, 3) := by decide +kernel
theorem d_R_init_13 : decode b_R_init 13 = .ok (.aload_n 0, 1) := by decide +kernel
theorem d_R_init_14 : decode b_R_init 14 = .ok (.sipush 256, 3) := by decide +kernel
theorem d_R_init_17 : decode b_R_init 17 = .ok (.newarray .int, 2) := by decide +kernel
theorem d_R_init_19 : decode b_R_init 19 = .ok (.putfield 15, 3) := by decide +kernel
theorem d_R_init_22 : decode b_R_init 22 = .ok (.return_, 1) := by decide +kernel
theorem d_R_kind_0 : decode b_R_kind 0 = .ok (.iconst 3, 1) := by decide +kernel
theorem d_R_kind_1 : decode b_R_kind 1 = .ok (.ireturn, 1) := by decide +kernel
theorem d_R_wipe_0 : decode b_R_wipe 0 = .ok (.return_, 1) := by decide +kernel
theorem d_R_put_0 : decode b_R_put 0 = .ok (.aload_n 0, 1) := by decide +kernel
theorem d_R_put_1 : decode b_R_put 1 = .ok (.getfield 18, 3) := by decide +kernel
theorem d_R_put_4 : decode b_R_put 4 = .ok (.aload_n 0, 1) := by decide +kernel
theorem d_R_put_5 : decode b_R_put 5 = .ok (.invokevirtual 22, 3) := by decide +kernel
theorem d_R_put_8 : decode b_R_put 8 = .ok (.if_icmp .lt 5, 3) := by decide +kernel
theorem d_R_put_11 : decode b_R_put 11 = .ok (.iconst 0, 1) := by decide +kernel
theorem d_R_put_12 : decode b_R_put 12 = .ok (.ireturn, 1) := by decide +kernel
theorem d_R_put_13 : decode b_R_put 13 = .ok (.aload_n 0, 1) := by decide +kernel
theorem d_R_put_14 : decode b_R_put 14 = .ok (.lload_n 1, 1) := by decide +kernel
theorem d_R_put_15 : decode b_R_put 15 = .ok (.invokevirtual 26, 3) := by decide +kernel
theorem d_R_put_18 : decode b_R_put 18 = .ok (.istore_n 3, 1) := by decide +kernel
theorem d_R_put_19 : decode b_R_put 19 = .ok (.aload_n 0, 1) := by decide +kernel
theorem d_R_put_20 : decode b_R_put 20 = .ok (.iload_n 3, 1) := by decide +kernel
theorem d_R_put_21 : decode b_R_put 21 = .ok (.invokevirtual 30, 3) := by decide +kernel
theorem d_R_put_24 : decode b_R_put 24 = .ok (.istore 4, 2) := by decide +kernel
theorem d_R_put_26 : decode b_R_put 26 = .ok (.aload_n 0, 1) := by decide +kernel
theorem d_R_put_27 : decode b_R_put 27 = .ok (.getfield 11, 3) := by decide +kernel
theorem d_R_put_30 : decode b_R_put 30 = .ok (.iload 4, 2) := by decide +kernel
theorem d_R_put_32 : decode b_R_put 32 = .ok (.aload_n 0, 1) := by decide +kernel
theorem d_R_put_33 : decode b_R_put 33 = .ok (.getfield 11, 3) := by decide +kernel
theorem d_R_put_36 : decode b_R_put 36 = .ok (.iload 4, 2) := by decide +kernel
theorem d_R_put_38 : decode b_R_put 38 = .ok (.iconst 1, 1) := by decide +kernel
theorem d_R_put_39 : decode b_R_put 39 = .ok (.iadd, 1) := by decide +kernel
theorem d_R_put_40 : decode b_R_put 40 = .ok (.aload_n 0, 1) := by decide +kernel
theorem d_R_put_41 : decode b_R_put 41 = .ok (.getfield 18, 3) := by decide +kernel
theorem d_R_put_44 : decode b_R_put 44 = .ok (.iload 4, 2) := by decide +kernel
theorem d_R_put_46 : decode b_R_put 46 = .ok (.isub, 1) := by decide +kernel
theorem d_R_put_47 : decode b_R_put 47 = .ok (.invokestatic 34, 3) := by decide +kernel
theorem d_R_put_50 : decode b_R_put 50 = .ok (.aload_n 0, 1) := by decide +kernel
theorem d_R_put_51 : decode b_R_put 51 = .ok (.getfield 11, 3) := by decide +kernel
theorem d_R_put_54 : decode b_R_put 54 = .ok (.iload 4, 2) := by decide +kernel
theorem d_R_put_56 : decode b_R_put 56 = .ok (.iload_n 3, 1) := by decide +kernel
theorem d_R_put_57 : decode b_R_put 57 = .ok (.iastore, 1) := by decide +kernel
theorem d_R_put_58 : decode b_R_put 58 = .ok (.iconst 1, 1) := by decide +kernel
theorem d_R_put_59 : decode b_R_put 59 = .ok (.ireturn, 1) := by decide +kernel
theorem d_R_take_0 : decode b_R_take 0 = .ok (.aload_n 0, 1) := by decide +kernel
theorem d_R_take_1 : decode b_R_take 1 = .ok (.lload_n 1, 1) := by decide +kernel
theorem d_R_take_2 : decode b_R_take 2 = .ok (.invokevirtual 26, 3) := by decide +kernel
theorem d_R_take_5 : decode b_R_take 5 = .ok (.istore_n 3, 1) := by decide +kernel
theorem d_R_take_6 : decode b_R_take 6 = .ok (.aload_n 0, 1) := by decide +kernel
theorem d_R_take_7 : decode b_R_take 7 = .ok (.iload_n 3, 1) := by decide +kernel
theorem d_R_take_8 : decode b_R_take 8 = .ok (.invokevirtual 30, 3) := by decide +kernel
theorem d_R_take_11 : decode b_R_take 11 = .ok (.istore 4, 2) := by decide +kernel
theorem d_R_take_13 : decode b_R_take 13 = .ok (.iload 4, 2) := by decide +kernel
theorem d_R_take_15 : decode b_R_take 15 = .ok (.aload_n 0, 1) := by decide +kernel
theorem d_R_take_16 : decode b_R_take 16 = .ok (.getfield 18, 3) := by decide +kernel
theorem d_R_take_19 : decode b_R_take 19 = .ok (.if_icmp .ge 14, 3) := by decide +kernel
theorem d_R_take_22 : decode b_R_take 22 = .ok (.aload_n 0, 1) := by decide +kernel
theorem d_R_take_23 : decode b_R_take 23 = .ok (.getfield 11, 3) := by decide +kernel
theorem d_R_take_26 : decode b_R_take 26 = .ok (.iload 4, 2) := by decide +kernel
theorem d_R_take_28 : decode b_R_take 28 = .ok (.iaload, 1) := by decide +kernel
theorem d_R_take_29 : decode b_R_take 29 = .ok (.iload_n 3, 1) := by decide +kernel
theorem d_R_take_30 : decode b_R_take 30 = .ok (.if_icmp .eq 5, 3) := by decide +kernel
theorem d_R_take_33 : decode b_R_take 33 = .ok (.iconst 0, 1) := by decide +kernel
theorem d_R_take_34 : decode b_R_take 34 = .ok (.ireturn, 1) := by decide +kernel
theorem d_R_take_35 : decode b_R_take 35 = .ok (.aload_n 0, 1) := by decide +kernel
theorem d_R_take_36 : decode b_R_take 36 = .ok (.getfield 11, 3) := by decide +kernel
theorem d_R_take_39 : decode b_R_take 39 = .ok (.iload 4, 2) := by decide +kernel
theorem d_R_take_41 : decode b_R_take 41 = .ok (.iconst 1, 1) := by decide +kernel
theorem d_R_take_42 : decode b_R_take 42 = .ok (.iadd, 1) := by decide +kernel
theorem d_R_take_43 : decode b_R_take 43 = .ok (.aload_n 0, 1) := by decide +kernel
theorem d_R_take_44 : decode b_R_take 44 = .ok (.getfield 11, 3) := by decide +kernel
theorem d_R_take_47 : decode b_R_take 47 = .ok (.iload 4, 2) := by decide +kernel
theorem d_R_take_49 : decode b_R_take 49 = .ok (.aload_n 0, 1) := by decide +kernel
theorem d_R_take_50 : decode b_R_take 50 = .ok (.getfield 18, 3) := by decide +kernel
theorem d_R_take_53 : decode b_R_take 53 = .ok (.iload 4, 2) := by decide +kernel
theorem d_R_take_55 : decode b_R_take 55 = .ok (.isub, 1) := by decide +kernel
theorem d_R_take_56 : decode b_R_take 56 = .ok (.iconst 1, 1) := by decide +kernel
theorem d_R_take_57 : decode b_R_take 57 = .ok (.isub, 1) := by decide +kernel
theorem d_R_take_58 : decode b_R_take 58 = .ok (.invokestatic 34, 3) := by decide +kernel
theorem d_R_take_61 : decode b_R_take 61 = .ok (.iconst 1, 1) := by decide +kernel
theorem d_R_take_62 : decode b_R_take 62 = .ok (.ireturn, 1) := by decide +kernel
theorem d_R_holds_0 : decode b_R_holds 0 = .ok (.aload_n 0, 1) := by decide +kernel
theorem d_R_holds_1 : decode b_R_holds 1 = .ok (.lload_n 1, 1) := by decide +kernel
theorem d_R_holds_2 : decode b_R_holds 2 = .ok (.invokevirtual 26, 3) := by decide +kernel
theorem d_R_holds_5 : decode b_R_holds 5 = .ok (.istore_n 3, 1) := by decide +kernel
theorem d_R_holds_6 : decode b_R_holds 6 = .ok (.aload_n 0, 1) := by decide +kernel
theorem d_R_holds_7 : decode b_R_holds 7 = .ok (.iload_n 3, 1) := by decide +kernel
theorem d_R_holds_8 : decode b_R_holds 8 = .ok (.invokevirtual 30, 3) := by decide +kernel
theorem d_R_holds_11 : decode b_R_holds 11 = .ok (.istore 4, 2) := by decide +kernel
theorem d_R_holds_13 : decode b_R_holds 13 = .ok (.iload 4, 2) := by decide +kernel
theorem d_R_holds_15 : decode b_R_holds 15 = .ok (.aload_n 0, 1) := by decide +kernel
theorem d_R_holds_16 : decode b_R_holds 16 = .ok (.getfield 18, 3) := by decide +kernel
theorem d_R_holds_19 : decode b_R_holds 19 = .ok (.if_icmp .ge 18, 3) := by decide +kernel
theorem d_R_holds_22 : decode b_R_holds 22 = .ok (.aload_n 0, 1) := by decide +kernel
theorem d_R_holds_23 : decode b_R_holds 23 = .ok (.getfield 11, 3) := by decide +kernel
theorem d_R_holds_26 : decode b_R_holds 26 = .ok (.iload 4, 2) := by decide +kernel
theorem d_R_holds_28 : decode b_R_holds 28 = .ok (.iaload, 1) := by decide +kernel
theorem d_R_holds_29 : decode b_R_holds 29 = .ok (.iload_n 3, 1) := by decide +kernel
theorem d_R_holds_30 : decode b_R_holds 30 = .ok (.if_icmp .ne 7, 3) := by decide +kernel
theorem d_R_holds_33 : decode b_R_holds 33 = .ok (.iconst 1, 1) := by decide +kernel
theorem d_R_holds_34 : decode b_R_holds 34 = .ok (.goto 4, 3) := by decide +kernel
theorem d_R_holds_37 : decode b_R_holds 37 = .ok (.iconst 0, 1) := by decide +kernel
theorem d_R_holds_38 : decode b_R_holds 38 = .ok (.ireturn, 1) := by decide +kernel
theorem d_R_looksAlike_0 : decode b_R_looksAlike 0 = .ok (.aload_n 0, 1) := by decide +kernel
theorem d_R_looksAlike_1 : decode b_R_looksAlike 1 = .ok (.lload_n 1, 1) := by decide +kernel
theorem d_R_looksAlike_2 : decode b_R_looksAlike 2 = .ok (.invokevirtual 26, 3) := by decide +kernel
theorem d_R_looksAlike_5 : decode b_R_looksAlike 5 = .ok (.aload_n 0, 1) := by decide +kernel
theorem d_R_looksAlike_6 : decode b_R_looksAlike 6 = .ok (.lload_n 3, 1) := by decide +kernel
theorem d_R_looksAlike_7 : decode b_R_looksAlike 7 = .ok (.invokevirtual 26, 3) := by decide +kernel
theorem d_R_looksAlike_10 : decode b_R_looksAlike 10 = .ok (.if_icmp .ne 7, 3) := by decide +kernel
theorem d_R_looksAlike_13 : decode b_R_looksAlike 13 = .ok (.iconst 1, 1) := by decide +kernel
theorem d_R_looksAlike_14 : decode b_R_looksAlike 14 = .ok (.goto 4, 3) := by decide +kernel
theorem d_R_looksAlike_17 : decode b_R_looksAlike 17 = .ok (.iconst 0, 1) := by decide +kernel
theorem d_R_looksAlike_18 : decode b_R_looksAlike 18 = .ok (.ireturn, 1) := by decide +kernel
theorem d_R_strain_0 : decode b_R_strain 0 = .ok (.aload_n 0, 1) := by decide +kernel
theorem d_R_strain_1 : decode b_R_strain 1 = .ok (.invokevirtual 40, 3) := by decide +kernel
theorem d_R_strain_4 : decode b_R_strain 4 = .ok (.iconst 0, 1) := by decide +kernel
theorem d_R_strain_5 : decode b_R_strain 5 = .ok (.istore_n 1, 1) := by decide +kernel
theorem d_R_strain_6 : decode b_R_strain 6 = .ok (.iconst 0, 1) := by decide +kernel
theorem d_R_strain_7 : decode b_R_strain 7 = .ok (.istore_n 2, 1) := by decide +kernel
theorem d_R_strain_8 : decode b_R_strain 8 = .ok (.iconst 0, 1) := by decide +kernel
theorem d_R_strain_9 : decode b_R_strain 9 = .ok (.istore_n 3, 1) := by decide +kernel
theorem d_R_strain_10 : decode b_R_strain 10 = .ok (.iload_n 3, 1) := by decide +kernel
theorem d_R_strain_11 : decode b_R_strain 11 = .ok (.iconst 2, 1) := by decide +kernel
theorem d_R_strain_12 : decode b_R_strain 12 = .ok (.aload_n 0, 1) := by decide +kernel
theorem d_R_strain_13 : decode b_R_strain 13 = .ok (.invokevirtual 22, 3) := by decide +kernel
theorem d_R_strain_16 : decode b_R_strain 16 = .ok (.imul, 1) := by decide +kernel
theorem d_R_strain_17 : decode b_R_strain 17 = .ok (.if_icmp .ge 40, 3) := by decide +kernel
theorem d_R_strain_20 : decode b_R_strain 20 = .ok (.aload_n 0, 1) := by decide +kernel
theorem d_R_strain_21 : decode b_R_strain 21 = .ok (.getfield 15, 3) := by decide +kernel
theorem d_R_strain_24 : decode b_R_strain 24 = .ok (.iload_n 3, 1) := by decide +kernel
theorem d_R_strain_25 : decode b_R_strain 25 = .ok (.aload_n 0, 1) := by decide +kernel
theorem d_R_strain_26 : decode b_R_strain 26 = .ok (.invokevirtual 22, 3) := by decide +kernel
theorem d_R_strain_29 : decode b_R_strain 29 = .ok (.iconst 1, 1) := by decide +kernel
theorem d_R_strain_30 : decode b_R_strain 30 = .ok (.isub, 1) := by decide +kernel
theorem d_R_strain_31 : decode b_R_strain 31 = .ok (.iand, 1) := by decide +kernel
theorem d_R_strain_32 : decode b_R_strain 32 = .ok (.iaload, 1) := by decide +kernel
theorem d_R_strain_33 : decode b_R_strain 33 = .ok (.iconst (-1), 1) := by decide +kernel
theorem d_R_strain_34 : decode b_R_strain 34 = .ok (.if_icmp .ne 7, 3) := by decide +kernel
theorem d_R_strain_37 : decode b_R_strain 37 = .ok (.iconst 0, 1) := by decide +kernel
theorem d_R_strain_38 : decode b_R_strain 38 = .ok (.goto 6, 3) := by decide +kernel
theorem d_R_strain_41 : decode b_R_strain 41 = .ok (.iload_n 2, 1) := by decide +kernel
theorem d_R_strain_42 : decode b_R_strain 42 = .ok (.iconst 1, 1) := by decide +kernel
theorem d_R_strain_43 : decode b_R_strain 43 = .ok (.iadd, 1) := by decide +kernel
theorem d_R_strain_44 : decode b_R_strain 44 = .ok (.istore_n 2, 1) := by decide +kernel
theorem d_R_strain_45 : decode b_R_strain 45 = .ok (.iload_n 1, 1) := by decide +kernel
theorem d_R_strain_46 : decode b_R_strain 46 = .ok (.iload_n 2, 1) := by decide +kernel
theorem d_R_strain_47 : decode b_R_strain 47 = .ok (.invokestatic 43, 3) := by decide +kernel
theorem d_R_strain_50 : decode b_R_strain 50 = .ok (.istore_n 1, 1) := by decide +kernel
theorem d_R_strain_51 : decode b_R_strain 51 = .ok (.iinc 3 1, 3) := by decide +kernel
theorem d_R_strain_54 : decode b_R_strain 54 = .ok (.goto (-44), 3) := by decide +kernel
theorem d_R_strain_57 : decode b_R_strain 57 = .ok (.iload_n 1, 1) := by decide +kernel
theorem d_R_strain_58 : decode b_R_strain 58 = .ok (.aload_n 0, 1) := by decide +kernel
theorem d_R_strain_59 : decode b_R_strain 59 = .ok (.invokevirtual 22, 3) := by decide +kernel
theorem d_R_strain_62 : decode b_R_strain 62 = .ok (.invokestatic 49, 3) := by decide +kernel
theorem d_R_strain_65 : decode b_R_strain 65 = .ok (.ireturn, 1) := by decide +kernel
theorem d_R_look_0 : decode b_R_look 0 = .ok (.aload_n 0, 1) := by decide +kernel
theorem d_R_look_1 : decode b_R_look 1 = .ok (.invokevirtual 40, 3) := by decide +kernel
theorem d_R_look_4 : decode b_R_look 4 = .ok (.aload_n 0, 1) := by decide +kernel
theorem d_R_look_5 : decode b_R_look 5 = .ok (.getfield 15, 3) := by decide +kernel
theorem d_R_look_8 : decode b_R_look 8 = .ok (.iload_n 1, 1) := by decide +kernel
theorem d_R_look_9 : decode b_R_look 9 = .ok (.iaload, 1) := by decide +kernel
theorem d_R_look_10 : decode b_R_look 10 = .ok (.istore_n 2, 1) := by decide +kernel
theorem d_R_look_11 : decode b_R_look 11 = .ok (.iload_n 2, 1) := by decide +kernel
theorem d_R_look_12 : decode b_R_look 12 = .ok (.iconst (-1), 1) := by decide +kernel
theorem d_R_look_13 : decode b_R_look 13 = .ok (.if_icmp .ne 5, 3) := by decide +kernel
theorem d_R_look_16 : decode b_R_look 16 = .ok (.iconst 0, 1) := by decide +kernel
theorem d_R_look_17 : decode b_R_look 17 = .ok (.ireturn, 1) := by decide +kernel
theorem d_R_look_18 : decode b_R_look 18 = .ok (.aload_n 0, 1) := by decide +kernel
theorem d_R_look_19 : decode b_R_look 19 = .ok (.iload_n 2, 1) := by decide +kernel
theorem d_R_look_20 : decode b_R_look 20 = .ok (.invokevirtual 52, 3) := by decide +kernel
theorem d_R_look_23 : decode b_R_look 23 = .ok (.istore_n 3, 1) := by decide +kernel
theorem d_R_look_24 : decode b_R_look 24 = .ok (.bipush 8, 2) := by decide +kernel
theorem d_R_look_26 : decode b_R_look 26 = .ok (.aload_n 0, 1) := by decide +kernel
theorem d_R_look_27 : decode b_R_look 27 = .ok (.iload_n 2, 1) := by decide +kernel
theorem d_R_look_28 : decode b_R_look 28 = .ok (.invokevirtual 55, 3) := by decide +kernel
theorem d_R_look_31 : decode b_R_look 31 = .ok (.imul, 1) := by decide +kernel
theorem d_R_look_32 : decode b_R_look 32 = .ok (.istore 4, 2) := by decide +kernel
theorem d_R_look_34 : decode b_R_look 34 = .ok (.aload_n 0, 1) := by decide +kernel
theorem d_R_look_35 : decode b_R_look 35 = .ok (.iload_n 1, 1) := by decide +kernel
theorem d_R_look_36 : decode b_R_look 36 = .ok (.invokevirtual 58, 3) := by decide +kernel
theorem d_R_look_39 : decode b_R_look 39 = .ok (.ifCond .eq 6, 3) := by decide +kernel
theorem d_R_look_42 : decode b_R_look 42 = .ok (.iinc 4 1, 3) := by decide +kernel
theorem d_R_look_45 : decode b_R_look 45 = .ok (.iload_n 2, 1) := by decide +kernel
theorem d_R_look_46 : decode b_R_look 46 = .ok (.ifCond .le 17, 3) := by decide +kernel
theorem d_R_look_49 : decode b_R_look 49 = .ok (.aload_n 0, 1) := by decide +kernel
theorem d_R_look_50 : decode b_R_look 50 = .ok (.iload_n 2, 1) := by decide +kernel
theorem d_R_look_51 : decode b_R_look 51 = .ok (.iconst 1, 1) := by decide +kernel
theorem d_R_look_52 : decode b_R_look 52 = .ok (.isub, 1) := by decide +kernel
theorem d_R_look_53 : decode b_R_look 53 = .ok (.invokevirtual 52, 3) := by decide +kernel
theorem d_R_look_56 : decode b_R_look 56 = .ok (.iload_n 3, 1) := by decide +kernel
theorem d_R_look_57 : decode b_R_look 57 = .ok (.if_icmp .ne 6, 3) := by decide +kernel
theorem d_R_look_60 : decode b_R_look 60 = .ok (.iinc 4 2, 3) := by decide +kernel
theorem d_R_look_63 : decode b_R_look 63 = .ok (.iload_n 3, 1) := by decide +kernel
theorem d_R_look_64 : decode b_R_look 64 = .ok (.iload_n 1, 1) := by decide +kernel
theorem d_R_look_65 : decode b_R_look 65 = .ok (.if_icmp .eq 6, 3) := by decide +kernel
theorem d_R_look_68 : decode b_R_look 68 = .ok (.iinc 4 4, 3) := by decide +kernel
theorem d_R_look_71 : decode b_R_look 71 = .ok (.iload 4, 2) := by decide +kernel
theorem d_R_look_73 : decode b_R_look 73 = .ok (.ireturn, 1) := by decide +kernel
theorem d_R_acceptPairs_0 : decode b_R_acceptPairs 0 = .ok (.aload_n 0, 1) := by decide +kernel
theorem d_R_acceptPairs_1 : decode b_R_acceptPairs 1 = .ok (.getfield 18, 3) := by decide +kernel
theorem d_R_acceptPairs_4 : decode b_R_acceptPairs 4 = .ok (.iconst 1, 1) := by decide +kernel
theorem d_R_acceptPairs_5 : decode b_R_acceptPairs 5 = .ok (.isub, 1) := by decide +kernel
theorem d_R_acceptPairs_6 : decode b_R_acceptPairs 6 = .ok (.istore_n 2, 1) := by decide +kernel
theorem d_R_acceptPairs_7 : decode b_R_acceptPairs 7 = .ok (.aload_n 1, 1) := by decide +kernel
theorem d_R_acceptPairs_8 : decode b_R_acceptPairs 8 = .ok (.getfield 18, 3) := by decide +kernel
theorem d_R_acceptPairs_11 : decode b_R_acceptPairs 11 = .ok (.iconst 1, 1) := by decide +kernel
theorem d_R_acceptPairs_12 : decode b_R_acceptPairs 12 = .ok (.isub, 1) := by decide +kernel
theorem d_R_acceptPairs_13 : decode b_R_acceptPairs 13 = .ok (.istore_n 3, 1) := by decide +kernel
theorem d_R_acceptPairs_14 : decode b_R_acceptPairs 14 = .ok (.aload_n 0, 1) := by decide +kernel
theorem d_R_acceptPairs_15 : decode b_R_acceptPairs 15 = .ok (.getfield 18, 3) := by decide +kernel
theorem d_R_acceptPairs_18 : decode b_R_acceptPairs 18 = .ok (.aload_n 1, 1) := by decide +kernel
theorem d_R_acceptPairs_19 : decode b_R_acceptPairs 19 = .ok (.getfield 18, 3) := by decide +kernel
theorem d_R_acceptPairs_22 : decode b_R_acceptPairs 22 = .ok (.iadd, 1) := by decide +kernel
theorem d_R_acceptPairs_23 : decode b_R_acceptPairs 23 = .ok (.istore 4, 2) := by decide +kernel
theorem d_R_acceptPairs_25 : decode b_R_acceptPairs 25 = .ok (.iload 4, 2) := by decide +kernel
theorem d_R_acceptPairs_27 : decode b_R_acceptPairs 27 = .ok (.aload_n 0, 1) := by decide +kernel
theorem d_R_acceptPairs_28 : decode b_R_acceptPairs 28 = .ok (.invokevirtual 22, 3) := by decide +kernel
theorem d_R_acceptPairs_31 : decode b_R_acceptPairs 31 = .ok (.if_icmp .le 5, 3) := by decide +kernel
theorem d_R_acceptPairs_34 : decode b_R_acceptPairs 34 = .ok (.iconst 0, 1) := by decide +kernel
theorem d_R_acceptPairs_35 : decode b_R_acceptPairs 35 = .ok (.ireturn, 1) := by decide +kernel
theorem d_R_acceptPairs_36 : decode b_R_acceptPairs 36 = .ok (.iload 4, 2) := by decide +kernel
theorem d_R_acceptPairs_38 : decode b_R_acceptPairs 38 = .ok (.iconst 1, 1) := by decide +kernel
theorem d_R_acceptPairs_39 : decode b_R_acceptPairs 39 = .ok (.isub, 1) := by decide +kernel
theorem d_R_acceptPairs_40 : decode b_R_acceptPairs 40 = .ok (.istore 5, 2) := by decide +kernel
theorem d_R_acceptPairs_42 : decode b_R_acceptPairs 42 = .ok (.iload 5, 2) := by decide +kernel
theorem d_R_acceptPairs_44 : decode b_R_acceptPairs 44 = .ok (.ifCond .lt 67, 3) := by decide +kernel
theorem d_R_acceptPairs_47 : decode b_R_acceptPairs 47 = .ok (.iload_n 3, 1) := by decide +kernel
theorem d_R_acceptPairs_48 : decode b_R_acceptPairs 48 = .ok (.ifCond .lt 63, 3) := by decide +kernel
theorem d_R_acceptPairs_51 : decode b_R_acceptPairs 51 = .ok (.iload_n 2, 1) := by decide +kernel
theorem d_R_acceptPairs_52 : decode b_R_acceptPairs 52 = .ok (.ifCond .lt 37, 3) := by decide +kernel
theorem d_R_acceptPairs_55 : decode b_R_acceptPairs 55 = .ok (.aload_n 0, 1) := by decide +kernel
theorem d_R_acceptPairs_56 : decode b_R_acceptPairs 56 = .ok (.getfield 11, 3) := by decide +kernel
theorem d_R_acceptPairs_59 : decode b_R_acceptPairs 59 = .ok (.iload_n 2, 1) := by decide +kernel
theorem d_R_acceptPairs_60 : decode b_R_acceptPairs 60 = .ok (.iaload, 1) := by decide +kernel
theorem d_R_acceptPairs_61 : decode b_R_acceptPairs 61 = .ok (.aload_n 1, 1) := by decide +kernel
theorem d_R_acceptPairs_62 : decode b_R_acceptPairs 62 = .ok (.getfield 11, 3) := by decide +kernel
theorem d_R_acceptPairs_65 : decode b_R_acceptPairs 65 = .ok (.iload_n 3, 1) := by decide +kernel
theorem d_R_acceptPairs_66 : decode b_R_acceptPairs 66 = .ok (.iaload, 1) := by decide +kernel
theorem d_R_acceptPairs_67 : decode b_R_acceptPairs 67 = .ok (.if_icmp .le 22, 3) := by decide +kernel
theorem d_R_acceptPairs_70 : decode b_R_acceptPairs 70 = .ok (.aload_n 0, 1) := by decide +kernel
theorem d_R_acceptPairs_71 : decode b_R_acceptPairs 71 = .ok (.getfield 11, 3) := by decide +kernel
theorem d_R_acceptPairs_74 : decode b_R_acceptPairs 74 = .ok (.iload 5, 2) := by decide +kernel
theorem d_R_acceptPairs_76 : decode b_R_acceptPairs 76 = .ok (.aload_n 0, 1) := by decide +kernel
theorem d_R_acceptPairs_77 : decode b_R_acceptPairs 77 = .ok (.getfield 11, 3) := by decide +kernel
theorem d_R_acceptPairs_80 : decode b_R_acceptPairs 80 = .ok (.iload_n 2, 1) := by decide +kernel
theorem d_R_acceptPairs_81 : decode b_R_acceptPairs 81 = .ok (.iaload, 1) := by decide +kernel
theorem d_R_acceptPairs_82 : decode b_R_acceptPairs 82 = .ok (.iastore, 1) := by decide +kernel
theorem d_R_acceptPairs_83 : decode b_R_acceptPairs 83 = .ok (.iinc 2 (-1), 3) := by decide +kernel
theorem d_R_acceptPairs_86 : decode b_R_acceptPairs 86 = .ok (.goto 19, 3) := by decide +kernel
theorem d_R_acceptPairs_89 : decode b_R_acceptPairs 89 = .ok (.aload_n 0, 1) := by decide +kernel
theorem d_R_acceptPairs_90 : decode b_R_acceptPairs 90 = .ok (.getfield 11, 3) := by decide +kernel
theorem d_R_acceptPairs_93 : decode b_R_acceptPairs 93 = .ok (.iload 5, 2) := by decide +kernel
theorem d_R_acceptPairs_95 : decode b_R_acceptPairs 95 = .ok (.aload_n 1, 1) := by decide +kernel
theorem d_R_acceptPairs_96 : decode b_R_acceptPairs 96 = .ok (.getfield 11, 3) := by decide +kernel
theorem d_R_acceptPairs_99 : decode b_R_acceptPairs 99 = .ok (.iload_n 3, 1) := by decide +kernel
theorem d_R_acceptPairs_100 : decode b_R_acceptPairs 100 = .ok (.iaload, 1) := by decide +kernel
theorem d_R_acceptPairs_101 : decode b_R_acceptPairs 101 = .ok (.iastore, 1) := by decide +kernel
theorem d_R_acceptPairs_102 : decode b_R_acceptPairs 102 = .ok (.iinc 3 (-1), 3) := by decide +kernel
theorem d_R_acceptPairs_105 : decode b_R_acceptPairs 105 = .ok (.iinc 5 (-1), 3) := by decide +kernel
theorem d_R_acceptPairs_108 : decode b_R_acceptPairs 108 = .ok (.goto (-66), 3) := by decide +kernel
theorem d_R_acceptPairs_111 : decode b_R_acceptPairs 111 = .ok (.aload_n 0, 1) := by decide +kernel
theorem d_R_acceptPairs_112 : decode b_R_acceptPairs 112 = .ok (.iload 4, 2) := by decide +kernel
theorem d_R_acceptPairs_114 : decode b_R_acceptPairs 114 = .ok (.putfield 18, 3) := by decide +kernel
theorem d_R_acceptPairs_117 : decode b_R_acceptPairs 117 = .ok (.iconst 1, 1) := by decide +kernel
theorem d_R_acceptPairs_118 : decode b_R_acceptPairs 118 = .ok (.ireturn, 1) := by decide +kernel
theorem d_R_moveOneBit_0 : decode b_R_moveOneBit 0 = .ok (.aload_n 0, 1) := by decide +kernel
theorem d_R_moveOneBit_1 : decode b_R_moveOneBit 1 = .ok (.dup, 1) := by decide +kernel
theorem d_R_moveOneBit_2 : decode b_R_moveOneBit 2 = .ok (.getfield 62, 3) := by decide +kernel
theorem d_R_moveOneBit_5 : decode b_R_moveOneBit 5 = .ok (.iconst 1, 1) := by decide +kernel
theorem d_R_moveOneBit_6 : decode b_R_moveOneBit 6 = .ok (.iadd, 1) := by decide +kernel
theorem d_R_moveOneBit_7 : decode b_R_moveOneBit 7 = .ok (.putfield 62, 3) := by decide +kernel
theorem d_R_moveOneBit_10 : decode b_R_moveOneBit 10 = .ok (.aload_n 0, 1) := by decide +kernel
theorem d_R_moveOneBit_11 : decode b_R_moveOneBit 11 = .ok (.dup, 1) := by decide +kernel
theorem d_R_moveOneBit_12 : decode b_R_moveOneBit 12 = .ok (.getfield 65, 3) := by decide +kernel
theorem d_R_moveOneBit_15 : decode b_R_moveOneBit 15 = .ok (.iconst 1, 1) := by decide +kernel
theorem d_R_moveOneBit_16 : decode b_R_moveOneBit 16 = .ok (.isub, 1) := by decide +kernel
theorem d_R_moveOneBit_17 : decode b_R_moveOneBit 17 = .ok (.putfield 65, 3) := by decide +kernel
theorem d_R_moveOneBit_20 : decode b_R_moveOneBit 20 = .ok (.return_, 1) := by decide +kernel
theorem d_R_pairOf_0 : decode b_R_pairOf 0 = .ok (.lload_n 1, 1) := by decide +kernel
theorem d_R_pairOf_1 : decode b_R_pairOf 1 = .ok (.iconst 0, 1) := by decide +kernel
theorem d_R_pairOf_2 : decode b_R_pairOf 2 = .ok (.invokestatic 68, 3) := by decide +kernel
theorem d_R_pairOf_5 : decode b_R_pairOf 5 = .ok (.bipush 64, 2) := by decide +kernel
theorem d_R_pairOf_7 : decode b_R_pairOf 7 = .ok (.aload_n 0, 1) := by decide +kernel
theorem d_R_pairOf_8 : decode b_R_pairOf 8 = .ok (.getfield 62, 3) := by decide +kernel
theorem d_R_pairOf_11 : decode b_R_pairOf 11 = .ok (.isub, 1) := by decide +kernel
theorem d_R_pairOf_12 : decode b_R_pairOf 12 = .ok (.aload_n 0, 1) := by decide +kernel
theorem d_R_pairOf_13 : decode b_R_pairOf 13 = .ok (.getfield 65, 3) := by decide +kernel
theorem d_R_pairOf_16 : decode b_R_pairOf 16 = .ok (.isub, 1) := by decide +kernel
theorem d_R_pairOf_17 : decode b_R_pairOf 17 = .ok (.lushr, 1) := by decide +kernel
theorem d_R_pairOf_18 : decode b_R_pairOf 18 = .ok (.l2i, 1) := by decide +kernel
theorem d_R_pairOf_19 : decode b_R_pairOf 19 = .ok (.ireturn, 1) := by decide +kernel
theorem d_R_quotient_0 : decode b_R_quotient 0 = .ok (.aload_n 0, 1) := by decide +kernel
theorem d_R_quotient_1 : decode b_R_quotient 1 = .ok (.getfield 11, 3) := by decide +kernel
theorem d_R_quotient_4 : decode b_R_quotient 4 = .ok (.iload_n 1, 1) := by decide +kernel
theorem d_R_quotient_5 : decode b_R_quotient 5 = .ok (.iaload, 1) := by decide +kernel
theorem d_R_quotient_6 : decode b_R_quotient 6 = .ok (.aload_n 0, 1) := by decide +kernel
theorem d_R_quotient_7 : decode b_R_quotient 7 = .ok (.getfield 65, 3) := by decide +kernel
theorem d_R_quotient_10 : decode b_R_quotient 10 = .ok (.ishr, 1) := by decide +kernel
theorem d_R_quotient_11 : decode b_R_quotient 11 = .ok (.ireturn, 1) := by decide +kernel
theorem d_R_remainder_0 : decode b_R_remainder 0 = .ok (.aload_n 0, 1) := by decide +kernel
theorem d_R_remainder_1 : decode b_R_remainder 1 = .ok (.getfield 11, 3) := by decide +kernel
theorem d_R_remainder_4 : decode b_R_remainder 4 = .ok (.iload_n 1, 1) := by decide +kernel
theorem d_R_remainder_5 : decode b_R_remainder 5 = .ok (.iaload, 1) := by decide +kernel
theorem d_R_remainder_6 : decode b_R_remainder 6 = .ok (.iconst 1, 1) := by decide +kernel
theorem d_R_remainder_7 : decode b_R_remainder 7 = .ok (.aload_n 0, 1) := by decide +kernel
theorem d_R_remainder_8 : decode b_R_remainder 8 = .ok (.getfield 65, 3) := by decide +kernel
theorem d_R_remainder_11 : decode b_R_remainder 11 = .ok (.ishl, 1) := by decide +kernel
theorem d_R_remainder_12 : decode b_R_remainder 12 = .ok (.iconst 1, 1) := by decide +kernel
theorem d_R_remainder_13 : decode b_R_remainder 13 = .ok (.isub, 1) := by decide +kernel
theorem d_R_remainder_14 : decode b_R_remainder 14 = .ok (.iand, 1) := by decide +kernel
theorem d_R_remainder_15 : decode b_R_remainder 15 = .ok (.ireturn, 1) := by decide +kernel
theorem d_R_isClaimed_0 : decode b_R_isClaimed 0 = .ok (.aload_n 0, 1) := by decide +kernel
theorem d_R_isClaimed_1 : decode b_R_isClaimed 1 = .ok (.iload_n 1, 1) := by decide +kernel
theorem d_R_isClaimed_2 : decode b_R_isClaimed 2 = .ok (.aload_n 0, 1) := by decide +kernel
theorem d_R_isClaimed_3 : decode b_R_isClaimed 3 = .ok (.getfield 65, 3) := by decide +kernel
theorem d_R_isClaimed_6 : decode b_R_isClaimed 6 = .ok (.ishl, 1) := by decide +kernel
theorem d_R_isClaimed_7 : decode b_R_isClaimed 7 = .ok (.invokevirtual 30, 3) := by decide +kernel
theorem d_R_isClaimed_10 : decode b_R_isClaimed 10 = .ok (.istore_n 2, 1) := by decide +kernel
theorem d_R_isClaimed_11 : decode b_R_isClaimed 11 = .ok (.iload_n 2, 1) := by decide +kernel
theorem d_R_isClaimed_12 : decode b_R_isClaimed 12 = .ok (.aload_n 0, 1) := by decide +kernel
theorem d_R_isClaimed_13 : decode b_R_isClaimed 13 = .ok (.getfield 18, 3) := by decide +kernel
theorem d_R_isClaimed_16 : decode b_R_isClaimed 16 = .ok (.if_icmp .ge 16, 3) := by decide +kernel
theorem d_R_isClaimed_19 : decode b_R_isClaimed 19 = .ok (.aload_n 0, 1) := by decide +kernel
theorem d_R_isClaimed_20 : decode b_R_isClaimed 20 = .ok (.iload_n 2, 1) := by decide +kernel
theorem d_R_isClaimed_21 : decode b_R_isClaimed 21 = .ok (.invokevirtual 52, 3) := by decide +kernel
theorem d_R_isClaimed_24 : decode b_R_isClaimed 24 = .ok (.iload_n 1, 1) := by decide +kernel
theorem d_R_isClaimed_25 : decode b_R_isClaimed 25 = .ok (.if_icmp .ne 7, 3) := by decide +kernel
theorem d_R_isClaimed_28 : decode b_R_isClaimed 28 = .ok (.iconst 1, 1) := by decide +kernel
theorem d_R_isClaimed_29 : decode b_R_isClaimed 29 = .ok (.goto 4, 3) := by decide +kernel
theorem d_R_isClaimed_32 : decode b_R_isClaimed 32 = .ok (.iconst 0, 1) := by decide +kernel
theorem d_R_isClaimed_33 : decode b_R_isClaimed 33 = .ok (.ireturn, 1) := by decide +kernel
theorem d_R_firstNotBelow_0 : decode b_R_firstNotBelow 0 = .ok (.iconst 0, 1) := by decide +kernel
theorem d_R_firstNotBelow_1 : decode b_R_firstNotBelow 1 = .ok (.istore_n 2, 1) := by decide +kernel
theorem d_R_firstNotBelow_2 : decode b_R_firstNotBelow 2 = .ok (.sipush 256, 3) := by decide +kernel
theorem d_R_firstNotBelow_5 : decode b_R_firstNotBelow 5 = .ok (.istore_n 3, 1) := by decide +kernel
theorem d_R_firstNotBelow_6 : decode b_R_firstNotBelow 6 = .ok (.iload_n 3, 1) := by decide +kernel
theorem d_R_firstNotBelow_7 : decode b_R_firstNotBelow 7 = .ok (.ifCond .le 38, 3) := by decide +kernel
theorem d_R_firstNotBelow_10 : decode b_R_firstNotBelow 10 = .ok (.iload_n 2, 1) := by decide +kernel
theorem d_R_firstNotBelow_11 : decode b_R_firstNotBelow 11 = .ok (.iload_n 3, 1) := by decide +kernel
theorem d_R_firstNotBelow_12 : decode b_R_firstNotBelow 12 = .ok (.iadd, 1) := by decide +kernel
theorem d_R_firstNotBelow_13 : decode b_R_firstNotBelow 13 = .ok (.aload_n 0, 1) := by decide +kernel
theorem d_R_firstNotBelow_14 : decode b_R_firstNotBelow 14 = .ok (.getfield 18, 3) := by decide +kernel
theorem d_R_firstNotBelow_17 : decode b_R_firstNotBelow 17 = .ok (.if_icmp .gt 21, 3) := by decide +kernel
theorem d_R_firstNotBelow_20 : decode b_R_firstNotBelow 20 = .ok (.aload_n 0, 1) := by decide +kernel
theorem d_R_firstNotBelow_21 : decode b_R_firstNotBelow 21 = .ok (.getfield 11, 3) := by decide +kernel
theorem d_R_firstNotBelow_24 : decode b_R_firstNotBelow 24 = .ok (.iload_n 2, 1) := by decide +kernel
theorem d_R_firstNotBelow_25 : decode b_R_firstNotBelow 25 = .ok (.iload_n 3, 1) := by decide +kernel
theorem d_R_firstNotBelow_26 : decode b_R_firstNotBelow 26 = .ok (.iadd, 1) := by decide +kernel
theorem d_R_firstNotBelow_27 : decode b_R_firstNotBelow 27 = .ok (.iconst 1, 1) := by decide +kernel
theorem d_R_firstNotBelow_28 : decode b_R_firstNotBelow 28 = .ok (.isub, 1) := by decide +kernel
theorem d_R_firstNotBelow_29 : decode b_R_firstNotBelow 29 = .ok (.iaload, 1) := by decide +kernel
theorem d_R_firstNotBelow_30 : decode b_R_firstNotBelow 30 = .ok (.iload_n 1, 1) := by decide +kernel
theorem d_R_firstNotBelow_31 : decode b_R_firstNotBelow 31 = .ok (.if_icmp .ge 7, 3) := by decide +kernel
theorem d_R_firstNotBelow_34 : decode b_R_firstNotBelow 34 = .ok (.iload_n 2, 1) := by decide +kernel
theorem d_R_firstNotBelow_35 : decode b_R_firstNotBelow 35 = .ok (.iload_n 3, 1) := by decide +kernel
theorem d_R_firstNotBelow_36 : decode b_R_firstNotBelow 36 = .ok (.iadd, 1) := by decide +kernel
theorem d_R_firstNotBelow_37 : decode b_R_firstNotBelow 37 = .ok (.istore_n 2, 1) := by decide +kernel
theorem d_R_firstNotBelow_38 : decode b_R_firstNotBelow 38 = .ok (.iload_n 3, 1) := by decide +kernel
theorem d_R_firstNotBelow_39 : decode b_R_firstNotBelow 39 = .ok (.iconst 1, 1) := by decide +kernel
theorem d_R_firstNotBelow_40 : decode b_R_firstNotBelow 40 = .ok (.ishr, 1) := by decide +kernel
theorem d_R_firstNotBelow_41 : decode b_R_firstNotBelow 41 = .ok (.istore_n 3, 1) := by decide +kernel
theorem d_R_firstNotBelow_42 : decode b_R_firstNotBelow 42 = .ok (.goto (-36), 3) := by decide +kernel
theorem d_R_firstNotBelow_45 : decode b_R_firstNotBelow 45 = .ok (.iload_n 2, 1) := by decide +kernel
theorem d_R_firstNotBelow_46 : decode b_R_firstNotBelow 46 = .ok (.ireturn, 1) := by decide +kernel
theorem d_R_layOut_0 : decode b_R_layOut 0 = .ok (.aload_n 0, 1) := by decide +kernel
theorem d_R_layOut_1 : decode b_R_layOut 1 = .ok (.getfield 15, 3) := by decide +kernel
theorem d_R_layOut_4 : decode b_R_layOut 4 = .ok (.iconst (-1), 1) := by decide +kernel
theorem d_R_layOut_5 : decode b_R_layOut 5 = .ok (.invokestatic 72, 3) := by decide +kernel
theorem d_R_layOut_8 : decode b_R_layOut 8 = .ok (.aload_n 0, 1) := by decide +kernel
theorem d_R_layOut_9 : decode b_R_layOut 9 = .ok (.invokevirtual 78, 3) := by decide +kernel
theorem d_R_layOut_12 : decode b_R_layOut 12 = .ok (.istore_n 1, 1) := by decide +kernel
theorem d_R_layOut_13 : decode b_R_layOut 13 = .ok (.iconst 0, 1) := by decide +kernel
theorem d_R_layOut_14 : decode b_R_layOut 14 = .ok (.istore_n 2, 1) := by decide +kernel
theorem d_R_layOut_15 : decode b_R_layOut 15 = .ok (.iload_n 2, 1) := by decide +kernel
theorem d_R_layOut_16 : decode b_R_layOut 16 = .ok (.aload_n 0, 1) := by decide +kernel
theorem d_R_layOut_17 : decode b_R_layOut 17 = .ok (.getfield 18, 3) := by decide +kernel
theorem d_R_layOut_20 : decode b_R_layOut 20 = .ok (.if_icmp .ge 37, 3) := by decide +kernel
theorem d_R_layOut_23 : decode b_R_layOut 23 = .ok (.iload_n 1, 1) := by decide +kernel
theorem d_R_layOut_24 : decode b_R_layOut 24 = .ok (.aload_n 0, 1) := by decide +kernel
theorem d_R_layOut_25 : decode b_R_layOut 25 = .ok (.iload_n 2, 1) := by decide +kernel
theorem d_R_layOut_26 : decode b_R_layOut 26 = .ok (.invokevirtual 52, 3) := by decide +kernel
theorem d_R_layOut_29 : decode b_R_layOut 29 = .ok (.invokestatic 43, 3) := by decide +kernel
theorem d_R_layOut_32 : decode b_R_layOut 32 = .ok (.istore_n 3, 1) := by decide +kernel
theorem d_R_layOut_33 : decode b_R_layOut 33 = .ok (.aload_n 0, 1) := by decide +kernel
theorem d_R_layOut_34 : decode b_R_layOut 34 = .ok (.getfield 15, 3) := by decide +kernel
theorem d_R_layOut_37 : decode b_R_layOut 37 = .ok (.iload_n 3, 1) := by decide +kernel
theorem d_R_layOut_38 : decode b_R_layOut 38 = .ok (.aload_n 0, 1) := by decide +kernel
theorem d_R_layOut_39 : decode b_R_layOut 39 = .ok (.invokevirtual 22, 3) := by decide +kernel
theorem d_R_layOut_42 : decode b_R_layOut 42 = .ok (.iconst 1, 1) := by decide +kernel
theorem d_R_layOut_43 : decode b_R_layOut 43 = .ok (.isub, 1) := by decide +kernel
theorem d_R_layOut_44 : decode b_R_layOut 44 = .ok (.iand, 1) := by decide +kernel
theorem d_R_layOut_45 : decode b_R_layOut 45 = .ok (.iload_n 2, 1) := by decide +kernel
theorem d_R_layOut_46 : decode b_R_layOut 46 = .ok (.iastore, 1) := by decide +kernel
theorem d_R_layOut_47 : decode b_R_layOut 47 = .ok (.iload_n 3, 1) := by decide +kernel
theorem d_R_layOut_48 : decode b_R_layOut 48 = .ok (.iconst 1, 1) := by decide +kernel
theorem d_R_layOut_49 : decode b_R_layOut 49 = .ok (.iadd, 1) := by decide +kernel
theorem d_R_layOut_50 : decode b_R_layOut 50 = .ok (.istore_n 1, 1) := by decide +kernel
theorem d_R_layOut_51 : decode b_R_layOut 51 = .ok (.iinc 2 1, 3) := by decide +kernel
theorem d_R_layOut_54 : decode b_R_layOut 54 = .ok (.goto (-39), 3) := by decide +kernel
theorem d_R_layOut_57 : decode b_R_layOut 57 = .ok (.return_, 1) := by decide +kernel
theorem d_R_overEnd_0 : decode b_R_overEnd 0 = .ok (.iconst 0, 1) := by decide +kernel
theorem d_R_overEnd_1 : decode b_R_overEnd 1 = .ok (.istore_n 1, 1) := by decide +kernel
theorem d_R_overEnd_2 : decode b_R_overEnd 2 = .ok (.iconst 0, 1) := by decide +kernel
theorem d_R_overEnd_3 : decode b_R_overEnd 3 = .ok (.istore_n 2, 1) := by decide +kernel
theorem d_R_overEnd_4 : decode b_R_overEnd 4 = .ok (.iload_n 2, 1) := by decide +kernel
theorem d_R_overEnd_5 : decode b_R_overEnd 5 = .ok (.aload_n 0, 1) := by decide +kernel
theorem d_R_overEnd_6 : decode b_R_overEnd 6 = .ok (.getfield 18, 3) := by decide +kernel
theorem d_R_overEnd_9 : decode b_R_overEnd 9 = .ok (.if_icmp .ge 21, 3) := by decide +kernel
theorem d_R_overEnd_12 : decode b_R_overEnd 12 = .ok (.iload_n 1, 1) := by decide +kernel
theorem d_R_overEnd_13 : decode b_R_overEnd 13 = .ok (.aload_n 0, 1) := by decide +kernel
theorem d_R_overEnd_14 : decode b_R_overEnd 14 = .ok (.iload_n 2, 1) := by decide +kernel
theorem d_R_overEnd_15 : decode b_R_overEnd 15 = .ok (.invokevirtual 52, 3) := by decide +kernel
theorem d_R_overEnd_18 : decode b_R_overEnd 18 = .ok (.invokestatic 43, 3) := by decide +kernel
theorem d_R_overEnd_21 : decode b_R_overEnd 21 = .ok (.iconst 1, 1) := by decide +kernel
theorem d_R_overEnd_22 : decode b_R_overEnd 22 = .ok (.iadd, 1) := by decide +kernel
theorem d_R_overEnd_23 : decode b_R_overEnd 23 = .ok (.istore_n 1, 1) := by decide +kernel
theorem d_R_overEnd_24 : decode b_R_overEnd 24 = .ok (.iinc 2 1, 3) := by decide +kernel
theorem d_R_overEnd_27 : decode b_R_overEnd 27 = .ok (.goto (-23), 3) := by decide +kernel
theorem d_R_overEnd_30 : decode b_R_overEnd 30 = .ok (.iconst 0, 1) := by decide +kernel
theorem d_R_overEnd_31 : decode b_R_overEnd 31 = .ok (.iload_n 1, 1) := by decide +kernel
theorem d_R_overEnd_32 : decode b_R_overEnd 32 = .ok (.aload_n 0, 1) := by decide +kernel
theorem d_R_overEnd_33 : decode b_R_overEnd 33 = .ok (.invokevirtual 22, 3) := by decide +kernel
theorem d_R_overEnd_36 : decode b_R_overEnd 36 = .ok (.isub, 1) := by decide +kernel
theorem d_R_overEnd_37 : decode b_R_overEnd 37 = .ok (.invokestatic 43, 3) := by decide +kernel
theorem d_R_overEnd_40 : decode b_R_overEnd 40 = .ok (.ireturn, 1) := by decide +kernel
theorem d_L_make_0 : decode b_L_make 0 = .ok (.aload_n 0, 1) := by decide +kernel
theorem d_L_make_1 : decode b_L_make 1 = .ok (.iload_n 1, 1) := by decide +kernel
theorem d_L_make_2 : decode b_L_make 2 = .ok (.iload_n 2, 1) := by decide +kernel
theorem d_L_make_3 : decode b_L_make 3 = .ok (.iload_n 3, 1) := by decide +kernel
theorem d_L_make_4 : decode b_L_make 4 = .ok (.iload 4, 2) := by decide +kernel
theorem d_L_make_6 : decode b_L_make 6 = .ok (.invokevirtual 7, 3) := by decide +kernel
theorem d_L_make_9 : decode b_L_make 9 = .ok (.goto 11, 3) := by decide +kernel
theorem d_L_make_12 : decode b_L_make 12 = .ok (.astore 5, 2) := by decide +kernel
theorem d_L_make_14 : decode b_L_make 14 = .ok (.iconst 1, 1) := by decide +kernel
theorem d_L_make_15 : decode b_L_make 15 = .ok (.ireturn, 1) := by decide +kernel
theorem d_L_make_16 : decode b_L_make 16 = .ok (.astore 5, 2) := by decide +kernel
theorem d_L_make_18 : decode b_L_make 18 = .ok (.iconst 2, 1) := by decide +kernel
theorem d_L_make_19 : decode b_L_make 19 = .ok (.ireturn, 1) := by decide +kernel
theorem d_L_make_20 : decode b_L_make 20 = .ok (.iconst 0, 1) := by decide +kernel
theorem d_L_make_21 : decode b_L_make 21 = .ok (.ireturn, 1) := by decide +kernel
theorem d_L_add_0 : decode b_L_add 0 = .ok (.aload 4, 2) := by decide +kernel
theorem d_L_add_2 : decode b_L_add 2 = .ok (.iconst 0, 1) := by decide +kernel
theorem d_L_add_3 : decode b_L_add 3 = .ok (.aload_n 0, 1) := by decide +kernel
theorem d_L_add_4 : decode b_L_add 4 = .ok (.iload_n 1, 1) := by decide +kernel
theorem d_L_add_5 : decode b_L_add 5 = .ok (.lload_n 2, 1) := by decide +kernel
theorem d_L_add_6 : decode b_L_add 6 = .ok (.invokevirtual 17, 3) := by decide +kernel
theorem d_L_add_9 : decode b_L_add 9 = .ok (.i2l, 1) := by decide +kernel
theorem d_L_add_10 : decode b_L_add 10 = .ok (.lastore, 1) := by decide +kernel
theorem d_L_add_11 : decode b_L_add 11 = .ok (.goto 15, 3) := by decide +kernel
theorem d_L_add_14 : decode b_L_add 14 = .ok (.astore 5, 2) := by decide +kernel
theorem d_L_add_16 : decode b_L_add 16 = .ok (.iconst 1, 1) := by decide +kernel
theorem d_L_add_17 : decode b_L_add 17 = .ok (.ireturn, 1) := by decide +kernel
theorem d_L_add_18 : decode b_L_add 18 = .ok (.astore 5, 2) := by decide +kernel
theorem d_L_add_20 : decode b_L_add 20 = .ok (.iconst 2, 1) := by decide +kernel
theorem d_L_add_21 : decode b_L_add 21 = .ok (.ireturn, 1) := by decide +kernel
theorem d_L_add_22 : decode b_L_add 22 = .ok (.astore 5, 2) := by decide +kernel
theorem d_L_add_24 : decode b_L_add 24 = .ok (.iconst 3, 1) := by decide +kernel
theorem d_L_add_25 : decode b_L_add 25 = .ok (.ireturn, 1) := by decide +kernel
theorem d_L_add_26 : decode b_L_add 26 = .ok (.iconst 0, 1) := by decide +kernel
theorem d_L_add_27 : decode b_L_add 27 = .ok (.ireturn, 1) := by decide +kernel
theorem d_L_addAll_0 : decode b_L_addAll 0 = .ok (.aload 7, 2) := by decide +kernel
theorem d_L_addAll_2 : decode b_L_addAll 2 = .ok (.iconst 0, 1) := by decide +kernel
theorem d_L_addAll_3 : decode b_L_addAll 3 = .ok (.aload_n 0, 1) := by decide +kernel
theorem d_L_addAll_4 : decode b_L_addAll 4 = .ok (.iload_n 1, 1) := by decide +kernel
theorem d_L_addAll_5 : decode b_L_addAll 5 = .ok (.lload_n 2, 1) := by decide +kernel
theorem d_L_addAll_6 : decode b_L_addAll 6 = .ok (.lload 4, 2) := by decide +kernel
theorem d_L_addAll_8 : decode b_L_addAll 8 = .ok (.iload 6, 2) := by decide +kernel
theorem d_L_addAll_10 : decode b_L_addAll 10 = .ok (.invokevirtual 25, 3) := by decide +kernel
theorem d_L_addAll_13 : decode b_L_addAll 13 = .ok (.i2l, 1) := by decide +kernel
theorem d_L_addAll_14 : decode b_L_addAll 14 = .ok (.lastore, 1) := by decide +kernel
theorem d_L_addAll_15 : decode b_L_addAll 15 = .ok (.goto 15, 3) := by decide +kernel
theorem d_L_addAll_18 : decode b_L_addAll 18 = .ok (.astore 8, 2) := by decide +kernel
theorem d_L_addAll_20 : decode b_L_addAll 20 = .ok (.iconst 1, 1) := by decide +kernel
theorem d_L_addAll_21 : decode b_L_addAll 21 = .ok (.ireturn, 1) := by decide +kernel
theorem d_L_addAll_22 : decode b_L_addAll 22 = .ok (.astore 8, 2) := by decide +kernel
theorem d_L_addAll_24 : decode b_L_addAll 24 = .ok (.iconst 2, 1) := by decide +kernel
theorem d_L_addAll_25 : decode b_L_addAll 25 = .ok (.ireturn, 1) := by decide +kernel
theorem d_L_addAll_26 : decode b_L_addAll 26 = .ok (.astore 8, 2) := by decide +kernel
theorem d_L_addAll_28 : decode b_L_addAll 28 = .ok (.iconst 3, 1) := by decide +kernel
theorem d_L_addAll_29 : decode b_L_addAll 29 = .ok (.ireturn, 1) := by decide +kernel
theorem d_L_addAll_30 : decode b_L_addAll 30 = .ok (.iconst 0, 1) := by decide +kernel
theorem d_L_addAll_31 : decode b_L_addAll 31 = .ok (.ireturn, 1) := by decide +kernel
theorem d_L_remove_0 : decode b_L_remove 0 = .ok (.aload 4, 2) := by decide +kernel
theorem d_L_remove_2 : decode b_L_remove 2 = .ok (.iconst 0, 1) := by decide +kernel
theorem d_L_remove_3 : decode b_L_remove 3 = .ok (.aload_n 0, 1) := by decide +kernel
theorem d_L_remove_4 : decode b_L_remove 4 = .ok (.iload_n 1, 1) := by decide +kernel
theorem d_L_remove_5 : decode b_L_remove 5 = .ok (.lload_n 2, 1) := by decide +kernel
theorem d_L_remove_6 : decode b_L_remove 6 = .ok (.invokevirtual 29, 3) := by decide +kernel
theorem d_L_remove_9 : decode b_L_remove 9 = .ok (.i2l, 1) := by decide +kernel
theorem d_L_remove_10 : decode b_L_remove 10 = .ok (.lastore, 1) := by decide +kernel
theorem d_L_remove_11 : decode b_L_remove 11 = .ok (.goto 15, 3) := by decide +kernel
theorem d_L_remove_14 : decode b_L_remove 14 = .ok (.astore 5, 2) := by decide +kernel
theorem d_L_remove_16 : decode b_L_remove 16 = .ok (.iconst 1, 1) := by decide +kernel
theorem d_L_remove_17 : decode b_L_remove 17 = .ok (.ireturn, 1) := by decide +kernel
theorem d_L_remove_18 : decode b_L_remove 18 = .ok (.astore 5, 2) := by decide +kernel
theorem d_L_remove_20 : decode b_L_remove 20 = .ok (.iconst 2, 1) := by decide +kernel
theorem d_L_remove_21 : decode b_L_remove 21 = .ok (.ireturn, 1) := by decide +kernel
theorem d_L_remove_22 : decode b_L_remove 22 = .ok (.astore 5, 2) := by decide +kernel
theorem d_L_remove_24 : decode b_L_remove 24 = .ok (.iconst 3, 1) := by decide +kernel
theorem d_L_remove_25 : decode b_L_remove 25 = .ok (.ireturn, 1) := by decide +kernel
theorem d_L_remove_26 : decode b_L_remove 26 = .ok (.iconst 0, 1) := by decide +kernel
theorem d_L_remove_27 : decode b_L_remove 27 = .ok (.ireturn, 1) := by decide +kernel
theorem d_L_has_0 : decode b_L_has 0 = .ok (.aload 4, 2) := by decide +kernel
theorem d_L_has_2 : decode b_L_has 2 = .ok (.iconst 0, 1) := by decide +kernel
theorem d_L_has_3 : decode b_L_has 3 = .ok (.aload_n 0, 1) := by decide +kernel
theorem d_L_has_4 : decode b_L_has 4 = .ok (.iload_n 1, 1) := by decide +kernel
theorem d_L_has_5 : decode b_L_has 5 = .ok (.lload_n 2, 1) := by decide +kernel
theorem d_L_has_6 : decode b_L_has 6 = .ok (.invokevirtual 34, 3) := by decide +kernel
theorem d_L_has_9 : decode b_L_has 9 = .ok (.ifCond .eq 7, 3) := by decide +kernel
theorem d_L_has_12 : decode b_L_has 12 = .ok (.lconst 1, 1) := by decide +kernel
theorem d_L_has_13 : decode b_L_has 13 = .ok (.goto 4, 3) := by decide +kernel
theorem d_L_has_16 : decode b_L_has 16 = .ok (.lconst 0, 1) := by decide +kernel
theorem d_L_has_17 : decode b_L_has 17 = .ok (.lastore, 1) := by decide +kernel
theorem d_L_has_18 : decode b_L_has 18 = .ok (.goto 11, 3) := by decide +kernel
theorem d_L_has_21 : decode b_L_has 21 = .ok (.astore 5, 2) := by decide +kernel
theorem d_L_has_23 : decode b_L_has 23 = .ok (.iconst 1, 1) := by decide +kernel
theorem d_L_has_24 : decode b_L_has 24 = .ok (.ireturn, 1) := by decide +kernel
theorem d_L_has_25 : decode b_L_has 25 = .ok (.astore 5, 2) := by decide +kernel
theorem d_L_has_27 : decode b_L_has 27 = .ok (.iconst 2, 1) := by decide +kernel
theorem d_L_has_28 : decode b_L_has 28 = .ok (.ireturn, 1) := by decide +kernel
theorem d_L_has_29 : decode b_L_has 29 = .ok (.iconst 0, 1) := by decide +kernel
theorem d_L_has_30 : decode b_L_has 30 = .ok (.ireturn, 1) := by decide +kernel
theorem d_L_hasAll_0 : decode b_L_hasAll 0 = .ok (.aload 7, 2) := by decide +kernel
theorem d_L_hasAll_2 : decode b_L_hasAll 2 = .ok (.iconst 0, 1) := by decide +kernel
theorem d_L_hasAll_3 : decode b_L_hasAll 3 = .ok (.aload_n 0, 1) := by decide +kernel
theorem d_L_hasAll_4 : decode b_L_hasAll 4 = .ok (.iload_n 1, 1) := by decide +kernel
theorem d_L_hasAll_5 : decode b_L_hasAll 5 = .ok (.lload_n 2, 1) := by decide +kernel
theorem d_L_hasAll_6 : decode b_L_hasAll 6 = .ok (.lload 4, 2) := by decide +kernel
theorem d_L_hasAll_8 : decode b_L_hasAll 8 = .ok (.iload 6, 2) := by decide +kernel
theorem d_L_hasAll_10 : decode b_L_hasAll 10 = .ok (.invokevirtual 38, 3) := by decide +kernel
theorem d_L_hasAll_13 : decode b_L_hasAll 13 = .ok (.i2l, 1) := by decide +kernel
theorem d_L_hasAll_14 : decode b_L_hasAll 14 = .ok (.lastore, 1) := by decide +kernel
theorem d_L_hasAll_15 : decode b_L_hasAll 15 = .ok (.goto 15, 3) := by decide +kernel
theorem d_L_hasAll_18 : decode b_L_hasAll 18 = .ok (.astore 8, 2) := by decide +kernel
theorem d_L_hasAll_20 : decode b_L_hasAll 20 = .ok (.iconst 1, 1) := by decide +kernel
theorem d_L_hasAll_21 : decode b_L_hasAll 21 = .ok (.ireturn, 1) := by decide +kernel
theorem d_L_hasAll_22 : decode b_L_hasAll 22 = .ok (.astore 8, 2) := by decide +kernel
theorem d_L_hasAll_24 : decode b_L_hasAll 24 = .ok (.iconst 2, 1) := by decide +kernel
theorem d_L_hasAll_25 : decode b_L_hasAll 25 = .ok (.ireturn, 1) := by decide +kernel
theorem d_L_hasAll_26 : decode b_L_hasAll 26 = .ok (.astore 8, 2) := by decide +kernel
theorem d_L_hasAll_28 : decode b_L_hasAll 28 = .ok (.iconst 3, 1) := by decide +kernel
theorem d_L_hasAll_29 : decode b_L_hasAll 29 = .ok (.ireturn, 1) := by decide +kernel
theorem d_L_hasAll_30 : decode b_L_hasAll 30 = .ok (.iconst 0, 1) := by decide +kernel
theorem d_L_hasAll_31 : decode b_L_hasAll 31 = .ok (.ireturn, 1) := by decide +kernel
theorem d_L_same_0 : decode b_L_same 0 = .ok (.aload 6, 2) := by decide +kernel
theorem d_L_same_2 : decode b_L_same 2 = .ok (.iconst 0, 1) := by decide +kernel
theorem d_L_same_3 : decode b_L_same 3 = .ok (.aload_n 0, 1) := by decide +kernel
theorem d_L_same_4 : decode b_L_same 4 = .ok (.iload_n 1, 1) := by decide +kernel
theorem d_L_same_5 : decode b_L_same 5 = .ok (.lload_n 2, 1) := by decide +kernel
theorem d_L_same_6 : decode b_L_same 6 = .ok (.lload 4, 2) := by decide +kernel
theorem d_L_same_8 : decode b_L_same 8 = .ok (.invokevirtual 41, 3) := by decide +kernel
theorem d_L_same_11 : decode b_L_same 11 = .ok (.ifCond .eq 7, 3) := by decide +kernel
theorem d_L_same_14 : decode b_L_same 14 = .ok (.lconst 1, 1) := by decide +kernel
theorem d_L_same_15 : decode b_L_same 15 = .ok (.goto 4, 3) := by decide +kernel
theorem d_L_same_18 : decode b_L_same 18 = .ok (.lconst 0, 1) := by decide +kernel
theorem d_L_same_19 : decode b_L_same 19 = .ok (.lastore, 1) := by decide +kernel
theorem d_L_same_20 : decode b_L_same 20 = .ok (.goto 11, 3) := by decide +kernel
theorem d_L_same_23 : decode b_L_same 23 = .ok (.astore 7, 2) := by decide +kernel
theorem d_L_same_25 : decode b_L_same 25 = .ok (.iconst 1, 1) := by decide +kernel
theorem d_L_same_26 : decode b_L_same 26 = .ok (.ireturn, 1) := by decide +kernel
theorem d_L_same_27 : decode b_L_same 27 = .ok (.astore 7, 2) := by decide +kernel
theorem d_L_same_29 : decode b_L_same 29 = .ok (.iconst 2, 1) := by decide +kernel
theorem d_L_same_30 : decode b_L_same 30 = .ok (.ireturn, 1) := by decide +kernel
theorem d_L_same_31 : decode b_L_same 31 = .ok (.iconst 0, 1) := by decide +kernel
theorem d_L_same_32 : decode b_L_same 32 = .ok (.ireturn, 1) := by decide +kernel
theorem d_L_count_0 : decode b_L_count 0 = .ok (.aload_n 3, 1) := by decide +kernel
theorem d_L_count_1 : decode b_L_count 1 = .ok (.iconst 0, 1) := by decide +kernel
theorem d_L_count_2 : decode b_L_count 2 = .ok (.aload_n 0, 1) := by decide +kernel
theorem d_L_count_3 : decode b_L_count 3 = .ok (.iload_n 1, 1) := by decide +kernel
theorem d_L_count_4 : decode b_L_count 4 = .ok (.iload_n 2, 1) := by decide +kernel
theorem d_L_count_5 : decode b_L_count 5 = .ok (.invokevirtual 45, 3) := by decide +kernel
theorem d_L_count_8 : decode b_L_count 8 = .ok (.i2l, 1) := by decide +kernel
theorem d_L_count_9 : decode b_L_count 9 = .ok (.lastore, 1) := by decide +kernel
theorem d_L_count_10 : decode b_L_count 10 = .ok (.goto 15, 3) := by decide +kernel
theorem d_L_count_13 : decode b_L_count 13 = .ok (.astore 4, 2) := by decide +kernel
theorem d_L_count_15 : decode b_L_count 15 = .ok (.iconst 1, 1) := by decide +kernel
theorem d_L_count_16 : decode b_L_count 16 = .ok (.ireturn, 1) := by decide +kernel
theorem d_L_count_17 : decode b_L_count 17 = .ok (.astore 4, 2) := by decide +kernel
theorem d_L_count_19 : decode b_L_count 19 = .ok (.iconst 2, 1) := by decide +kernel
theorem d_L_count_20 : decode b_L_count 20 = .ok (.ireturn, 1) := by decide +kernel
theorem d_L_count_21 : decode b_L_count 21 = .ok (.astore 4, 2) := by decide +kernel
theorem d_L_count_23 : decode b_L_count 23 = .ok (.iconst 3, 1) := by decide +kernel
theorem d_L_count_24 : decode b_L_count 24 = .ok (.ireturn, 1) := by decide +kernel
theorem d_L_count_25 : decode b_L_count 25 = .ok (.iconst 0, 1) := by decide +kernel
theorem d_L_count_26 : decode b_L_count 26 = .ok (.ireturn, 1) := by decide +kernel
theorem d_L_cell_0 : decode b_L_cell 0 = .ok (.aload_n 3, 1) := by decide +kernel
theorem d_L_cell_1 : decode b_L_cell 1 = .ok (.iconst 0, 1) := by decide +kernel
theorem d_L_cell_2 : decode b_L_cell 2 = .ok (.aload_n 0, 1) := by decide +kernel
theorem d_L_cell_3 : decode b_L_cell 3 = .ok (.iload_n 1, 1) := by decide +kernel
theorem d_L_cell_4 : decode b_L_cell 4 = .ok (.iload_n 2, 1) := by decide +kernel
theorem d_L_cell_5 : decode b_L_cell 5 = .ok (.invokevirtual 49, 3) := by decide +kernel
theorem d_L_cell_8 : decode b_L_cell 8 = .ok (.i2l, 1) := by decide +kernel
theorem d_L_cell_9 : decode b_L_cell 9 = .ok (.lastore, 1) := by decide +kernel
theorem d_L_cell_10 : decode b_L_cell 10 = .ok (.goto 11, 3) := by decide +kernel
theorem d_L_cell_13 : decode b_L_cell 13 = .ok (.astore 4, 2) := by decide +kernel
theorem d_L_cell_15 : decode b_L_cell 15 = .ok (.iconst 1, 1) := by decide +kernel
theorem d_L_cell_16 : decode b_L_cell 16 = .ok (.ireturn, 1) := by decide +kernel
theorem d_L_cell_17 : decode b_L_cell 17 = .ok (.astore 4, 2) := by decide +kernel
theorem d_L_cell_19 : decode b_L_cell 19 = .ok (.iconst 2, 1) := by decide +kernel
theorem d_L_cell_20 : decode b_L_cell 20 = .ok (.ireturn, 1) := by decide +kernel
theorem d_L_cell_21 : decode b_L_cell 21 = .ok (.iconst 0, 1) := by decide +kernel
theorem d_L_cell_22 : decode b_L_cell 22 = .ok (.ireturn, 1) := by decide +kernel
theorem d_L_merge_0 : decode b_L_merge 0 = .ok (.aload_n 3, 1) := by decide +kernel
theorem d_L_merge_1 : decode b_L_merge 1 = .ok (.iconst 0, 1) := by decide +kernel
theorem d_L_merge_2 : decode b_L_merge 2 = .ok (.aload_n 0, 1) := by decide +kernel
theorem d_L_merge_3 : decode b_L_merge 3 = .ok (.iload_n 1, 1) := by decide +kernel
theorem d_L_merge_4 : decode b_L_merge 4 = .ok (.iload_n 2, 1) := by decide +kernel
theorem d_L_merge_5 : decode b_L_merge 5 = .ok (.invokevirtual 52, 3) := by decide +kernel
theorem d_L_merge_8 : decode b_L_merge 8 = .ok (.i2l, 1) := by decide +kernel
theorem d_L_merge_9 : decode b_L_merge 9 = .ok (.lastore, 1) := by decide +kernel
theorem d_L_merge_10 : decode b_L_merge 10 = .ok (.goto 19, 3) := by decide +kernel
theorem d_L_merge_13 : decode b_L_merge 13 = .ok (.astore 4, 2) := by decide +kernel
theorem d_L_merge_15 : decode b_L_merge 15 = .ok (.iconst 1, 1) := by decide +kernel
theorem d_L_merge_16 : decode b_L_merge 16 = .ok (.ireturn, 1) := by decide +kernel
theorem d_L_merge_17 : decode b_L_merge 17 = .ok (.astore 4, 2) := by decide +kernel
theorem d_L_merge_19 : decode b_L_merge 19 = .ok (.iconst 2, 1) := by decide +kernel
theorem d_L_merge_20 : decode b_L_merge 20 = .ok (.ireturn, 1) := by decide +kernel
theorem d_L_merge_21 : decode b_L_merge 21 = .ok (.astore 4, 2) := by decide +kernel
theorem d_L_merge_23 : decode b_L_merge 23 = .ok (.iconst 3, 1) := by decide +kernel
theorem d_L_merge_24 : decode b_L_merge 24 = .ok (.ireturn, 1) := by decide +kernel
theorem d_L_merge_25 : decode b_L_merge 25 = .ok (.astore 4, 2) := by decide +kernel
theorem d_L_merge_27 : decode b_L_merge 27 = .ok (.iconst 4, 1) := by decide +kernel
theorem d_L_merge_28 : decode b_L_merge 28 = .ok (.ireturn, 1) := by decide +kernel
theorem d_L_merge_29 : decode b_L_merge 29 = .ok (.iconst 0, 1) := by decide +kernel
theorem d_L_merge_30 : decode b_L_merge 30 = .ok (.ireturn, 1) := by decide +kernel
theorem d_L_grow_0 : decode b_L_grow 0 = .ok (.aload_n 0, 1) := by decide +kernel
theorem d_L_grow_1 : decode b_L_grow 1 = .ok (.iload_n 1, 1) := by decide +kernel
theorem d_L_grow_2 : decode b_L_grow 2 = .ok (.invokevirtual 55, 3) := by decide +kernel
theorem d_L_grow_5 : decode b_L_grow 5 = .ok (.goto 12, 3) := by decide +kernel
theorem d_L_grow_8 : decode b_L_grow 8 = .ok (.astore_n 2, 1) := by decide +kernel
theorem d_L_grow_9 : decode b_L_grow 9 = .ok (.iconst 1, 1) := by decide +kernel
theorem d_L_grow_10 : decode b_L_grow 10 = .ok (.ireturn, 1) := by decide +kernel
theorem d_L_grow_11 : decode b_L_grow 11 = .ok (.astore_n 2, 1) := by decide +kernel
theorem d_L_grow_12 : decode b_L_grow 12 = .ok (.iconst 2, 1) := by decide +kernel
theorem d_L_grow_13 : decode b_L_grow 13 = .ok (.ireturn, 1) := by decide +kernel
theorem d_L_grow_14 : decode b_L_grow 14 = .ok (.astore_n 2, 1) := by decide +kernel
theorem d_L_grow_15 : decode b_L_grow 15 = .ok (.iconst 3, 1) := by decide +kernel
theorem d_L_grow_16 : decode b_L_grow 16 = .ok (.ireturn, 1) := by decide +kernel
theorem d_L_grow_17 : decode b_L_grow 17 = .ok (.iconst 0, 1) := by decide +kernel
theorem d_L_grow_18 : decode b_L_grow 18 = .ok (.ireturn, 1) := by decide +kernel
theorem d_L_clear_0 : decode b_L_clear 0 = .ok (.aload_n 2, 1) := by decide +kernel
theorem d_L_clear_1 : decode b_L_clear 1 = .ok (.iconst 0, 1) := by decide +kernel
theorem d_L_clear_2 : decode b_L_clear 2 = .ok (.aload_n 0, 1) := by decide +kernel
theorem d_L_clear_3 : decode b_L_clear 3 = .ok (.iload_n 1, 1) := by decide +kernel
theorem d_L_clear_4 : decode b_L_clear 4 = .ok (.invokevirtual 59, 3) := by decide +kernel
theorem d_L_clear_7 : decode b_L_clear 7 = .ok (.i2l, 1) := by decide +kernel
theorem d_L_clear_8 : decode b_L_clear 8 = .ok (.lastore, 1) := by decide +kernel
theorem d_L_clear_9 : decode b_L_clear 9 = .ok (.goto 9, 3) := by decide +kernel
theorem d_L_clear_12 : decode b_L_clear 12 = .ok (.astore_n 3, 1) := by decide +kernel
theorem d_L_clear_13 : decode b_L_clear 13 = .ok (.iconst 1, 1) := by decide +kernel
theorem d_L_clear_14 : decode b_L_clear 14 = .ok (.ireturn, 1) := by decide +kernel
theorem d_L_clear_15 : decode b_L_clear 15 = .ok (.astore_n 3, 1) := by decide +kernel
theorem d_L_clear_16 : decode b_L_clear 16 = .ok (.iconst 2, 1) := by decide +kernel
theorem d_L_clear_17 : decode b_L_clear 17 = .ok (.ireturn, 1) := by decide +kernel
theorem d_L_clear_18 : decode b_L_clear 18 = .ok (.iconst 0, 1) := by decide +kernel
theorem d_L_clear_19 : decode b_L_clear 19 = .ok (.ireturn, 1) := by decide +kernel
