theorem d_M_init_0 : decode b_M_init 0 = .ok (.aload_n 0, 1) := by decide +kernel
theorem d_M_init_1 : decode b_M_init 1 = .ok (.invokespecial 1, 3) := by decide +kernel
theorem d_M_init_4 : decode b_M_init 4 = .ok (.aload_n 0, 1) := by decide +kernel
theorem d_M_init_5 : decode b_M_init 5 = .ok (.iconst 4, 1) := by decide +kernel
theorem d_M_init_6 : decode b_M_init 6 = .ok (.newarray .int, 2) := by decide +kernel
theorem d_M_init_8 : decode b_M_init 8 = .ok (.putfield 7, 3) := by decide +kernel
theorem d_M_init_11 : decode b_M_init 11 = .ok (.aload_n 0, 1) := by decide +kernel
theorem d_M_init_12 : decode b_M_init 12 = .ok (.iconst 4, 1) := by decide +kernel
theorem d_M_init_13 : decode b_M_init 13 = .ok (.newarray .int, 2) := by decide +kernel
theorem d_M_init_15 : decode b_M_init 15 = .ok (.putfield 13, 3) := by decide +kernel
theorem d_M_init_18 : decode b_M_init 18 = .ok (.aload_n 0, 1) := by decide +kernel
theorem d_M_init_19 : decode b_M_init 19 = .ok (.iconst 4, 1) := by decide +kernel
theorem d_M_init_20 : decode b_M_init 20 = .ok (.newarray .int, 2) := by decide +kernel
theorem d_M_init_22 : decode b_M_init 22 = .ok (.putfield 16, 3) := by decide +kernel
theorem d_M_init_25 : decode b_M_init 25 = .ok (.aload_n 0, 1) := by decide +kernel
theorem d_M_init_26 : decode b_M_init 26 = .ok (.iconst 4, 1) := by decide +kernel
theorem d_M_init_27 : decode b_M_init 27 = .ok (.newarray .int, 2) := by decide +kernel
theorem d_M_init_29 : decode b_M_init 29 = .ok (.putfield 19, 3) := by decide +kernel
theorem d_M_init_32 : decode b_M_init 32 = .ok (.aload_n 0, 1) := by decide +kernel
theorem d_M_init_33 : decode b_M_init 33 = .ok (.iconst 4, 1) := by decide +kernel
theorem d_M_init_34 : decode b_M_init 34 = .ok (.newarray .int, 2) := by decide +kernel
theorem d_M_init_36 : decode b_M_init 36 = .ok (.putfield 22, 3) := by decide +kernel
theorem d_M_init_39 : decode b_M_init 39 = .ok (.aload_n 0, 1) := by decide +kernel
theorem d_M_init_40 : decode b_M_init 40 = .ok (.sipush 4096, 3) := by decide +kernel
theorem d_M_init_43 : decode b_M_init 43 = .ok (.newarray .int, 2) := by decide +kernel
theorem d_M_init_45 : decode b_M_init 45 = .ok (.putfield 25, 3) := by decide +kernel
theorem d_M_init_48 : decode b_M_init 48 = .ok (.aload_n 0, 1) := by decide +kernel
theorem d_M_init_49 : decode b_M_init 49 = .ok (.sipush 1024, 3) := by decide +kernel
theorem d_M_init_52 : decode b_M_init 52 = .ok (.newarray .int, 2) := by decide +kernel
theorem d_M_init_54 : decode b_M_init 54 = .ok (.putfield 28, 3) := by decide +kernel
theorem d_M_init_57 : decode b_M_init 57 = .ok (.aload_n 0, 1) := by decide +kernel
theorem d_M_init_58 : decode b_M_init 58 = .ok (.sipush 1024, 3) := by decide +kernel
theorem d_M_init_61 : decode b_M_init 61 = .ok (.newarray .int, 2) := by decide +kernel
theorem d_M_init_63 : decode b_M_init 63 = .ok (.putfield 31, 3) := by decide +kernel
theorem d_M_init_66 : decode b_M_init 66 = .ok (.aload_n 0, 1) := by decide +kernel
theorem d_M_init_67 : decode b_M_init 67 = .ok (.sipush 256, 3) := by decide +kernel
theorem d_M_init_70 : decode b_M_init 70 = .ok (.newarray .int, 2) := by decide +kernel
theorem d_M_init_72 : decode b_M_init 72 = .ok (.putfield 34, 3) := by decide +kernel
theorem d_M_init_75 : decode b_M_init 75 = .ok (.aload_n 0, 1) := by decide +kernel
theorem d_M_init_76 : decode b_M_init 76 = .ok (.bipush 6, 2) := by decide +kernel
theorem d_M_init_78 : decode b_M_init 78 = .ok (.newarray .int, 2) := by decide +kernel
theorem d_M_init_80 : decode b_M_init 80 = .ok (.putfield 37, 3) := by decide +kernel
theorem d_M_init_83 : decode b_M_init 83 = .ok (.aload_n 0, 1) := by decide +kernel
theorem d_M_init_84 : decode b_M_init 84 = .ok (.bipush 6, 2) := by decide +kernel
theorem d_M_init_86 : decode b_M_init 86 = .ok (.newarray .int, 2) := by decide +kernel
theorem d_M_init_88 : decode b_M_init 88 = .ok (.putfield 40, 3) := by decide +kernel
theorem d_M_init_91 : decode b_M_init 91 = .ok (.return_, 1) := by decide +kernel
theorem d_M_thrown_0 : decode b_M_thrown 0 = .ok (.aload_n 0, 1) := by decide +kernel
theorem d_M_thrown_1 : decode b_M_thrown 1 = .ok (.getfield 43, 3) := by decide +kernel
theorem d_M_thrown_4 : decode b_M_thrown 4 = .ok (.ireturn, 1) := by decide +kernel
theorem d_M_mixed_0 : decode b_M_mixed 0 = .ok (.lload_n 0, 1) := by decide +kernel
theorem d_M_mixed_1 : decode b_M_mixed 1 = .ok (.lload_n 2, 1) := by decide +kernel
theorem d_M_mixed_2 : decode b_M_mixed 2 = .ok (.lconst 1, 1) := by decide +kernel
theorem d_M_mixed_3 : decode b_M_mixed 3 = .ok (.ladd, 1) := by decide +kernel
theorem d_M_mixed_4 : decode b_M_mixed 4 = .ok (.ldc2_w 47, 3) := by decide +kernel
theorem d_M_mixed_7 : decode b_M_mixed 7 = .ok (.lmul, 1) := by decide +kernel
theorem d_M_mixed_8 : decode b_M_mixed 8 = .ok (.ladd, 1) := by decide +kernel
theorem d_M_mixed_9 : decode b_M_mixed 9 = .ok (.lstore 4, 2) := by decide +kernel
theorem d_M_mixed_11 : decode b_M_mixed 11 = .ok (.lload 4, 2) := by decide +kernel
theorem d_M_mixed_13 : decode b_M_mixed 13 = .ok (.lload 4, 2) := by decide +kernel
theorem d_M_mixed_15 : decode b_M_mixed 15 = .ok (.bipush 30, 2) := by decide +kernel
theorem d_M_mixed_17 : decode b_M_mixed 17 = .ok (.lushr, 1) := by decide +kernel
theorem d_M_mixed_18 : decode b_M_mixed 18 = .ok (.lxor, 1) := by decide +kernel
theorem d_M_mixed_19 : decode b_M_mixed 19 = .ok (.ldc2_w 49, 3) := by decide +kernel
theorem d_M_mixed_22 : decode b_M_mixed 22 = .ok (.lmul, 1) := by decide +kernel
theorem d_M_mixed_23 : decode b_M_mixed 23 = .ok (.lstore 4, 2) := by decide +kernel
theorem d_M_mixed_25 : decode b_M_mixed 25 = .ok (.lload 4, 2) := by decide +kernel
theorem d_M_mixed_27 : decode b_M_mixed 27 = .ok (.lload 4, 2) := by decide +kernel
theorem d_M_mixed_29 : decode b_M_mixed 29 = .ok (.bipush 27, 2) := by decide +kernel
theorem d_M_mixed_31 : decode b_M_mixed 31 = .ok (.lushr, 1) := by decide +kernel
theorem d_M_mixed_32 : decode b_M_mixed 32 = .ok (.lxor, 1) := by decide +kernel
theorem d_M_mixed_33 : decode b_M_mixed 33 = .ok (.ldc2_w 51, 3) := by decide +kernel
theorem d_M_mixed_36 : decode b_M_mixed 36 = .ok (.lmul, 1) := by decide +kernel
theorem d_M_mixed_37 : decode b_M_mixed 37 = .ok (.lstore 4, 2) := by decide +kernel
theorem d_M_mixed_39 : decode b_M_mixed 39 = .ok (.lload 4, 2) := by decide +kernel
theorem d_M_mixed_41 : decode b_M_mixed 41 = .ok (.lload 4, 2) := by decide +kernel
theorem d_M_mixed_43 : decode b_M_mixed 43 = .ok (.bipush 31, 2) := by decide +kernel
theorem d_M_mixed_45 : decode b_M_mixed 45 = .ok (.lushr, 1) := by decide +kernel
theorem d_M_mixed_46 : decode b_M_mixed 46 = .ok (.lxor, 1) := by decide +kernel
theorem d_M_mixed_47 : decode b_M_mixed 47 = .ok (.lreturn, 1) := by decide +kernel
theorem d_M_mix_0 : decode b_M_mix 0 = .ok (.aload_n 0, 1) := by decide +kernel
theorem d_M_mix_1 : decode b_M_mix 1 = .ok (.iconst 0, 1) := by decide +kernel
theorem d_M_mix_2 : decode b_M_mix 2 = .ok (.putfield 43, 3) := by decide +kernel
theorem d_M_mix_5 : decode b_M_mix 5 = .ok (.lload_n 1, 1) := by decide +kernel
theorem d_M_mix_6 : decode b_M_mix 6 = .ok (.iload_n 3, 1) := by decide +kernel
theorem d_M_mix_7 : decode b_M_mix 7 = .ok (.i2l, 1) := by decide +kernel
theorem d_M_mix_8 : decode b_M_mix 8 = .ok (.invokestatic 53, 3) := by decide +kernel
theorem d_M_mix_11 : decode b_M_mix 11 = .ok (.lreturn, 1) := by decide +kernel
theorem d_M_lowest_0 : decode b_M_lowest 0 = .ok (.lload_n 0, 1) := by decide +kernel
theorem d_M_lowest_1 : decode b_M_lowest 1 = .ok (.lconst 1, 1) := by decide +kernel
theorem d_M_lowest_2 : decode b_M_lowest 2 = .ok (.iload_n 2, 1) := by decide +kernel
theorem d_M_lowest_3 : decode b_M_lowest 3 = .ok (.lshl, 1) := by decide +kernel
theorem d_M_lowest_4 : decode b_M_lowest 4 = .ok (.lconst 1, 1) := by decide +kernel
theorem d_M_lowest_5 : decode b_M_lowest 5 = .ok (.lsub, 1) := by decide +kernel
theorem d_M_lowest_6 : decode b_M_lowest 6 = .ok (.land, 1) := by decide +kernel
theorem d_M_lowest_7 : decode b_M_lowest 7 = .ok (.l2i, 1) := by decide +kernel
theorem d_M_lowest_8 : decode b_M_lowest 8 = .ok (.ireturn, 1) := by decide +kernel
theorem d_M_isNumber_0 : decode b_M_isNumber 0 = .ok (.iload_n 0, 1) := by decide +kernel
theorem d_M_isNumber_1 : decode b_M_isNumber 1 = .ok (.ifCond .lt 12, 3) := by decide +kernel
theorem d_M_isNumber_4 : decode b_M_isNumber 4 = .ok (.iload_n 0, 1) := by decide +kernel
theorem d_M_isNumber_5 : decode b_M_isNumber 5 = .ok (.iconst 4, 1) := by decide +kernel
theorem d_M_isNumber_6 : decode b_M_isNumber 6 = .ok (.if_icmp .ge 7, 3) := by decide +kernel
theorem d_M_isNumber_9 : decode b_M_isNumber 9 = .ok (.iconst 1, 1) := by decide +kernel
theorem d_M_isNumber_10 : decode b_M_isNumber 10 = .ok (.goto 4, 3) := by decide +kernel
theorem d_M_isNumber_13 : decode b_M_isNumber 13 = .ok (.iconst 0, 1) := by decide +kernel
theorem d_M_isNumber_14 : decode b_M_isNumber 14 = .ok (.ireturn, 1) := by decide +kernel
theorem d_M_wrong_0 : decode b_M_wrong 0 = .ok (.iload_n 1, 1) := by decide +kernel
theorem d_M_wrong_1 : decode b_M_wrong 1 = .ok (.invokestatic 57, 3) := by decide +kernel
theorem d_M_wrong_4 : decode b_M_wrong 4 = .ok (.ifCond .ne 7, 3) := by decide +kernel
theorem d_M_wrong_7 : decode b_M_wrong 7 = .ok (.iconst 1, 1) := by decide +kernel
theorem d_M_wrong_8 : decode b_M_wrong 8 = .ok (.goto 17, 3) := by decide +kernel
theorem d_M_wrong_11 : decode b_M_wrong 11 = .ok (.aload_n 0, 1) := by decide +kernel
theorem d_M_wrong_12 : decode b_M_wrong 12 = .ok (.getfield 7, 3) := by decide +kernel
theorem d_M_wrong_15 : decode b_M_wrong 15 = .ok (.iload_n 1, 1) := by decide +kernel
theorem d_M_wrong_16 : decode b_M_wrong 16 = .ok (.iaload, 1) := by decide +kernel
theorem d_M_wrong_17 : decode b_M_wrong 17 = .ok (.ifCond .ne 7, 3) := by decide +kernel
theorem d_M_wrong_20 : decode b_M_wrong 20 = .ok (.iconst 2, 1) := by decide +kernel
theorem d_M_wrong_21 : decode b_M_wrong 21 = .ok (.goto 4, 3) := by decide +kernel
theorem d_M_wrong_24 : decode b_M_wrong 24 = .ok (.iconst 0, 1) := by decide +kernel
theorem d_M_wrong_25 : decode b_M_wrong 25 = .ok (.ireturn, 1) := by decide +kernel
theorem d_M_fingerprint_0 : decode b_M_fingerprint 0 = .ok (.lload_n 2, 1) := by decide +kernel
theorem d_M_fingerprint_1 : decode b_M_fingerprint 1 = .ok (.lconst 0, 1) := by decide +kernel
theorem d_M_fingerprint_2 : decode b_M_fingerprint 2 = .ok (.invokestatic 53, 3) := by decide +kernel
theorem d_M_fingerprint_5 : decode b_M_fingerprint 5 = .ok (.bipush 64, 2) := by decide +kernel
theorem d_M_fingerprint_7 : decode b_M_fingerprint 7 = .ok (.aload_n 0, 1) := by decide +kernel
theorem d_M_fingerprint_8 : decode b_M_fingerprint 8 = .ok (.getfield 16, 3) := by decide +kernel
theorem d_M_fingerprint_11 : decode b_M_fingerprint 11 = .ok (.iload_n 1, 1) := by decide +kernel
theorem d_M_fingerprint_12 : decode b_M_fingerprint 12 = .ok (.iaload, 1) := by decide +kernel
theorem d_M_fingerprint_13 : decode b_M_fingerprint 13 = .ok (.isub, 1) := by decide +kernel
theorem d_M_fingerprint_14 : decode b_M_fingerprint 14 = .ok (.lushr, 1) := by decide +kernel
theorem d_M_fingerprint_15 : decode b_M_fingerprint 15 = .ok (.l2i, 1) := by decide +kernel
theorem d_M_fingerprint_16 : decode b_M_fingerprint 16 = .ok (.istore 4, 2) := by decide +kernel
theorem d_M_fingerprint_18 : decode b_M_fingerprint 18 = .ok (.iload 4, 2) := by decide +kernel
theorem d_M_fingerprint_20 : decode b_M_fingerprint 20 = .ok (.ifCond .ne 7, 3) := by decide +kernel
theorem d_M_fingerprint_23 : decode b_M_fingerprint 23 = .ok (.iconst 1, 1) := by decide +kernel
theorem d_M_fingerprint_24 : decode b_M_fingerprint 24 = .ok (.goto 5, 3) := by decide +kernel
theorem d_M_fingerprint_27 : decode b_M_fingerprint 27 = .ok (.iload 4, 2) := by decide +kernel
theorem d_M_fingerprint_29 : decode b_M_fingerprint 29 = .ok (.ireturn, 1) := by decide +kernel
theorem d_M_firstBucket_0 : decode b_M_firstBucket 0 = .ok (.lload_n 2, 1) := by decide +kernel
theorem d_M_firstBucket_1 : decode b_M_firstBucket 1 = .ok (.lconst 1, 1) := by decide +kernel
theorem d_M_firstBucket_2 : decode b_M_firstBucket 2 = .ok (.invokestatic 53, 3) := by decide +kernel
theorem d_M_firstBucket_5 : decode b_M_firstBucket 5 = .ok (.aload_n 0, 1) := by decide +kernel
theorem d_M_firstBucket_6 : decode b_M_firstBucket 6 = .ok (.getfield 13, 3) := by decide +kernel
theorem d_M_firstBucket_9 : decode b_M_firstBucket 9 = .ok (.iload_n 1, 1) := by decide +kernel
theorem d_M_firstBucket_10 : decode b_M_firstBucket 10 = .ok (.iaload, 1) := by decide +kernel
theorem d_M_firstBucket_11 : decode b_M_firstBucket 11 = .ok (.invokestatic 61, 3) := by decide +kernel
theorem d_M_firstBucket_14 : decode b_M_firstBucket 14 = .ok (.ireturn, 1) := by decide +kernel
theorem d_M_otherBucket_0 : decode b_M_otherBucket 0 = .ok (.iload_n 3, 1) := by decide +kernel
theorem d_M_otherBucket_1 : decode b_M_otherBucket 1 = .ok (.iload_n 2, 1) := by decide +kernel
theorem d_M_otherBucket_2 : decode b_M_otherBucket 2 = .ok (.i2l, 1) := by decide +kernel
theorem d_M_otherBucket_3 : decode b_M_otherBucket 3 = .ok (.ldc2_w 65, 3) := by decide +kernel
theorem d_M_otherBucket_6 : decode b_M_otherBucket 6 = .ok (.invokestatic 53, 3) := by decide +kernel
theorem d_M_otherBucket_9 : decode b_M_otherBucket 9 = .ok (.aload_n 0, 1) := by decide +kernel
theorem d_M_otherBucket_10 : decode b_M_otherBucket 10 = .ok (.getfield 13, 3) := by decide +kernel
theorem d_M_otherBucket_13 : decode b_M_otherBucket 13 = .ok (.iload_n 1, 1) := by decide +kernel
theorem d_M_otherBucket_14 : decode b_M_otherBucket 14 = .ok (.iaload, 1) := by decide +kernel
theorem d_M_otherBucket_15 : decode b_M_otherBucket 15 = .ok (.invokestatic 61, 3) := by decide +kernel
theorem d_M_otherBucket_18 : decode b_M_otherBucket 18 = .ok (.ixor, 1) := by decide +kernel
theorem d_M_otherBucket_19 : decode b_M_otherBucket 19 = .ok (.ireturn, 1) := by decide +kernel
theorem d_M_pair_0 : decode b_M_pair 0 = .ok (.lload_n 2, 1) := by decide +kernel
theorem d_M_pair_1 : decode b_M_pair 1 = .ok (.lconst 0, 1) := by decide +kernel
theorem d_M_pair_2 : decode b_M_pair 2 = .ok (.invokestatic 53, 3) := by decide +kernel
theorem d_M_pair_5 : decode b_M_pair 5 = .ok (.lstore 4, 2) := by decide +kernel
theorem d_M_pair_7 : decode b_M_pair 7 = .ok (.lload 4, 2) := by decide +kernel
theorem d_M_pair_9 : decode b_M_pair 9 = .ok (.bipush 64, 2) := by decide +kernel
theorem d_M_pair_11 : decode b_M_pair 11 = .ok (.aload_n 0, 1) := by decide +kernel
theorem d_M_pair_12 : decode b_M_pair 12 = .ok (.getfield 13, 3) := by decide +kernel
theorem d_M_pair_15 : decode b_M_pair 15 = .ok (.iload_n 1, 1) := by decide +kernel
theorem d_M_pair_16 : decode b_M_pair 16 = .ok (.iaload, 1) := by decide +kernel
theorem d_M_pair_17 : decode b_M_pair 17 = .ok (.isub, 1) := by decide +kernel
theorem d_M_pair_18 : decode b_M_pair 18 = .ok (.lushr, 1) := by decide +kernel
theorem d_M_pair_19 : decode b_M_pair 19 = .ok (.l2i, 1) := by decide +kernel
theorem d_M_pair_20 : decode b_M_pair 20 = .ok (.istore 6, 2) := by decide +kernel
theorem d_M_pair_22 : decode b_M_pair 22 = .ok (.lload 4, 2) := by decide +kernel
theorem d_M_pair_24 : decode b_M_pair 24 = .ok (.aload_n 0, 1) := by decide +kernel
theorem d_M_pair_25 : decode b_M_pair 25 = .ok (.getfield 13, 3) := by decide +kernel
theorem d_M_pair_28 : decode b_M_pair 28 = .ok (.iload_n 1, 1) := by decide +kernel
theorem d_M_pair_29 : decode b_M_pair 29 = .ok (.iaload, 1) := by decide +kernel
theorem d_M_pair_30 : decode b_M_pair 30 = .ok (.lshl, 1) := by decide +kernel
theorem d_M_pair_31 : decode b_M_pair 31 = .ok (.bipush 64, 2) := by decide +kernel
theorem d_M_pair_33 : decode b_M_pair 33 = .ok (.aload_n 0, 1) := by decide +kernel
theorem d_M_pair_34 : decode b_M_pair 34 = .ok (.getfield 16, 3) := by decide +kernel
theorem d_M_pair_37 : decode b_M_pair 37 = .ok (.iload_n 1, 1) := by decide +kernel
theorem d_M_pair_38 : decode b_M_pair 38 = .ok (.iaload, 1) := by decide +kernel
theorem d_M_pair_39 : decode b_M_pair 39 = .ok (.isub, 1) := by decide +kernel
theorem d_M_pair_40 : decode b_M_pair 40 = .ok (.lushr, 1) := by decide +kernel
theorem d_M_pair_41 : decode b_M_pair 41 = .ok (.l2i, 1) := by decide +kernel
theorem d_M_pair_42 : decode b_M_pair 42 = .ok (.istore 7, 2) := by decide +kernel
theorem d_M_pair_44 : decode b_M_pair 44 = .ok (.iload 6, 2) := by decide +kernel
theorem d_M_pair_46 : decode b_M_pair 46 = .ok (.bipush 20, 2) := by decide +kernel
theorem d_M_pair_48 : decode b_M_pair 48 = .ok (.ishl, 1) := by decide +kernel
theorem d_M_pair_49 : decode b_M_pair 49 = .ok (.iload 7, 2) := by decide +kernel
theorem d_M_pair_51 : decode b_M_pair 51 = .ok (.ior, 1) := by decide +kernel
theorem d_M_pair_52 : decode b_M_pair 52 = .ok (.ireturn, 1) := by decide +kernel
theorem d_M_findPlaces_0 : decode b_M_findPlaces 0 = .ok (.iconst 0, 1) := by decide +kernel
theorem d_M_findPlaces_1 : decode b_M_findPlaces 1 = .ok (.istore 5, 2) := by decide +kernel
theorem d_M_findPlaces_3 : decode b_M_findPlaces 3 = .ok (.iload 5, 2) := by decide +kernel
theorem d_M_findPlaces_5 : decode b_M_findPlaces 5 = .ok (.aload_n 0, 1) := by decide +kernel
theorem d_M_findPlaces_6 : decode b_M_findPlaces 6 = .ok (.getfield 16, 3) := by decide +kernel
theorem d_M_findPlaces_9 : decode b_M_findPlaces 9 = .ok (.iload_n 1, 1) := by decide +kernel
theorem d_M_findPlaces_10 : decode b_M_findPlaces 10 = .ok (.iaload, 1) := by decide +kernel
theorem d_M_findPlaces_11 : decode b_M_findPlaces 11 = .ok (.if_icmp .ge 30, 3) := by decide +kernel
theorem d_M_findPlaces_14 : decode b_M_findPlaces 14 = .ok (.aload 4, 2) := by decide +kernel
theorem d_M_findPlaces_16 : decode b_M_findPlaces 16 = .ok (.iload 5, 2) := by decide +kernel
theorem d_M_findPlaces_18 : decode b_M_findPlaces 18 = .ok (.lload_n 2, 1) := by decide +kernel
theorem d_M_findPlaces_19 : decode b_M_findPlaces 19 = .ok (.iload 5, 2) := by decide +kernel
theorem d_M_findPlaces_21 : decode b_M_findPlaces 21 = .ok (.i2l, 1) := by decide +kernel
theorem d_M_findPlaces_22 : decode b_M_findPlaces 22 = .ok (.invokestatic 53, 3) := by decide +kernel
theorem d_M_findPlaces_25 : decode b_M_findPlaces 25 = .ok (.aload_n 0, 1) := by decide +kernel
theorem d_M_findPlaces_26 : decode b_M_findPlaces 26 = .ok (.getfield 13, 3) := by decide +kernel
theorem d_M_findPlaces_29 : decode b_M_findPlaces 29 = .ok (.iload_n 1, 1) := by decide +kernel
theorem d_M_findPlaces_30 : decode b_M_findPlaces 30 = .ok (.iaload, 1) := by decide +kernel
theorem d_M_findPlaces_31 : decode b_M_findPlaces 31 = .ok (.invokestatic 61, 3) := by decide +kernel
theorem d_M_findPlaces_34 : decode b_M_findPlaces 34 = .ok (.iastore, 1) := by decide +kernel
theorem d_M_findPlaces_35 : decode b_M_findPlaces 35 = .ok (.iinc 5 1, 3) := by decide +kernel
theorem d_M_findPlaces_38 : decode b_M_findPlaces 38 = .ok (.goto (-35), 3) := by decide +kernel
theorem d_M_findPlaces_41 : decode b_M_findPlaces 41 = .ok (.return_, 1) := by decide +kernel
theorem d_M_howOften_0 : decode b_M_howOften 0 = .ok (.iconst 0, 1) := by decide +kernel
theorem d_M_howOften_1 : decode b_M_howOften 1 = .ok (.istore_n 3, 1) := by decide +kernel
theorem d_M_howOften_2 : decode b_M_howOften 2 = .ok (.iconst 0, 1) := by decide +kernel
theorem d_M_howOften_3 : decode b_M_howOften 3 = .ok (.istore 4, 2) := by decide +kernel
theorem d_M_howOften_5 : decode b_M_howOften 5 = .ok (.iload 4, 2) := by decide +kernel
theorem d_M_howOften_7 : decode b_M_howOften 7 = .ok (.iload_n 1, 1) := by decide +kernel
theorem d_M_howOften_8 : decode b_M_howOften 8 = .ok (.if_icmp .ge 25, 3) := by decide +kernel
theorem d_M_howOften_11 : decode b_M_howOften 11 = .ok (.aload_n 0, 1) := by decide +kernel
theorem d_M_howOften_12 : decode b_M_howOften 12 = .ok (.iload 4, 2) := by decide +kernel
theorem d_M_howOften_14 : decode b_M_howOften 14 = .ok (.iaload, 1) := by decide +kernel
theorem d_M_howOften_15 : decode b_M_howOften 15 = .ok (.iload_n 2, 1) := by decide +kernel
theorem d_M_howOften_16 : decode b_M_howOften 16 = .ok (.if_icmp .ne 9, 3) := by decide +kernel
theorem d_M_howOften_19 : decode b_M_howOften 19 = .ok (.iload_n 3, 1) := by decide +kernel
theorem d_M_howOften_20 : decode b_M_howOften 20 = .ok (.iconst 1, 1) := by decide +kernel
theorem d_M_howOften_21 : decode b_M_howOften 21 = .ok (.iadd, 1) := by decide +kernel
theorem d_M_howOften_22 : decode b_M_howOften 22 = .ok (.goto 4, 3) := by decide +kernel
theorem d_M_howOften_25 : decode b_M_howOften 25 = .ok (.iload_n 3, 1) := by decide +kernel
theorem d_M_howOften_26 : decode b_M_howOften 26 = .ok (.istore_n 3, 1) := by decide +kernel
theorem d_M_howOften_27 : decode b_M_howOften 27 = .ok (.iinc 4 1, 3) := by decide +kernel
theorem d_M_howOften_30 : decode b_M_howOften 30 = .ok (.goto (-25), 3) := by decide +kernel
theorem d_M_howOften_33 : decode b_M_howOften 33 = .ok (.iload_n 3, 1) := by decide +kernel
theorem d_M_howOften_34 : decode b_M_howOften 34 = .ok (.ireturn, 1) := by decide +kernel
theorem d_M_slotWith_0 : decode b_M_slotWith 0 = .ok (.iconst 0, 1) := by decide +kernel
theorem d_M_slotWith_1 : decode b_M_slotWith 1 = .ok (.istore 5, 2) := by decide +kernel
theorem d_M_slotWith_3 : decode b_M_slotWith 3 = .ok (.iload 5, 2) := by decide +kernel
theorem d_M_slotWith_5 : decode b_M_slotWith 5 = .ok (.iconst 4, 1) := by decide +kernel
theorem d_M_slotWith_6 : decode b_M_slotWith 6 = .ok (.if_icmp .ge 33, 3) := by decide +kernel
theorem d_M_slotWith_9 : decode b_M_slotWith 9 = .ok (.aload_n 1, 1) := by decide +kernel
theorem d_M_slotWith_10 : decode b_M_slotWith 10 = .ok (.iload_n 2, 1) := by decide +kernel
theorem d_M_slotWith_11 : decode b_M_slotWith 11 = .ok (.iconst 4, 1) := by decide +kernel
theorem d_M_slotWith_12 : decode b_M_slotWith 12 = .ok (.iload_n 3, 1) := by decide +kernel
theorem d_M_slotWith_13 : decode b_M_slotWith 13 = .ok (.imul, 1) := by decide +kernel
theorem d_M_slotWith_14 : decode b_M_slotWith 14 = .ok (.iadd, 1) := by decide +kernel
theorem d_M_slotWith_15 : decode b_M_slotWith 15 = .ok (.iload 5, 2) := by decide +kernel
theorem d_M_slotWith_17 : decode b_M_slotWith 17 = .ok (.iadd, 1) := by decide +kernel
theorem d_M_slotWith_18 : decode b_M_slotWith 18 = .ok (.iaload, 1) := by decide +kernel
theorem d_M_slotWith_19 : decode b_M_slotWith 19 = .ok (.iload 4, 2) := by decide +kernel
theorem d_M_slotWith_21 : decode b_M_slotWith 21 = .ok (.if_icmp .ne 12, 3) := by decide +kernel
theorem d_M_slotWith_24 : decode b_M_slotWith 24 = .ok (.iload_n 2, 1) := by decide +kernel
theorem d_M_slotWith_25 : decode b_M_slotWith 25 = .ok (.iconst 4, 1) := by decide +kernel
theorem d_M_slotWith_26 : decode b_M_slotWith 26 = .ok (.iload_n 3, 1) := by decide +kernel
theorem d_M_slotWith_27 : decode b_M_slotWith 27 = .ok (.imul, 1) := by decide +kernel
theorem d_M_slotWith_28 : decode b_M_slotWith 28 = .ok (.iadd, 1) := by decide +kernel
theorem d_M_slotWith_29 : decode b_M_slotWith 29 = .ok (.iload 5, 2) := by decide +kernel
theorem d_M_slotWith_31 : decode b_M_slotWith 31 = .ok (.iadd, 1) := by decide +kernel
theorem d_M_slotWith_32 : decode b_M_slotWith 32 = .ok (.ireturn, 1) := by decide +kernel
theorem d_M_slotWith_33 : decode b_M_slotWith 33 = .ok (.iinc 5 1, 3) := by decide +kernel
theorem d_M_slotWith_36 : decode b_M_slotWith 36 = .ok (.goto (-33), 3) := by decide +kernel
theorem d_M_slotWith_39 : decode b_M_slotWith 39 = .ok (.iconst (-1), 1) := by decide +kernel
theorem d_M_slotWith_40 : decode b_M_slotWith 40 = .ok (.ireturn, 1) := by decide +kernel
theorem d_M_isThere_0 : decode b_M_isThere 0 = .ok (.sipush 1024, 3) := by decide +kernel
theorem d_M_isThere_3 : decode b_M_isThere 3 = .ok (.iload_n 1, 1) := by decide +kernel
theorem d_M_isThere_4 : decode b_M_isThere 4 = .ok (.imul, 1) := by decide +kernel
theorem d_M_isThere_5 : decode b_M_isThere 5 = .ok (.istore 4, 2) := by decide +kernel
theorem d_M_isThere_7 : decode b_M_isThere 7 = .ok (.aload_n 0, 1) := by decide +kernel
theorem d_M_isThere_8 : decode b_M_isThere 8 = .ok (.getfield 7, 3) := by decide +kernel
theorem d_M_isThere_11 : decode b_M_isThere 11 = .ok (.iload_n 1, 1) := by decide +kernel
theorem d_M_isThere_12 : decode b_M_isThere 12 = .ok (.iaload, 1) := by decide +kernel
theorem d_M_isThere_13 : decode b_M_isThere 13 = .ok (.iconst 1, 1) := by decide +kernel
theorem d_M_isThere_14 : decode b_M_isThere 14 = .ok (.if_icmp .ne 68, 3) := by decide +kernel
theorem d_M_isThere_17 : decode b_M_isThere 17 = .ok (.iconst 1, 1) := by decide +kernel
theorem d_M_isThere_18 : decode b_M_isThere 18 = .ok (.istore 5, 2) := by decide +kernel
theorem d_M_isThere_20 : decode b_M_isThere 20 = .ok (.iconst 0, 1) := by decide +kernel
theorem d_M_isThere_21 : decode b_M_isThere 21 = .ok (.istore 6, 2) := by decide +kernel
theorem d_M_isThere_23 : decode b_M_isThere 23 = .ok (.iload 6, 2) := by decide +kernel
theorem d_M_isThere_25 : decode b_M_isThere 25 = .ok (.aload_n 0, 1) := by decide +kernel
theorem d_M_isThere_26 : decode b_M_isThere 26 = .ok (.getfield 16, 3) := by decide +kernel
theorem d_M_isThere_29 : decode b_M_isThere 29 = .ok (.iload_n 1, 1) := by decide +kernel
theorem d_M_isThere_30 : decode b_M_isThere 30 = .ok (.iaload, 1) := by decide +kernel
theorem d_M_isThere_31 : decode b_M_isThere 31 = .ok (.if_icmp .ge 48, 3) := by decide +kernel
theorem d_M_isThere_34 : decode b_M_isThere 34 = .ok (.iload 5, 2) := by decide +kernel
theorem d_M_isThere_36 : decode b_M_isThere 36 = .ok (.ifCond .eq 34, 3) := by decide +kernel
theorem d_M_isThere_39 : decode b_M_isThere 39 = .ok (.aload_n 0, 1) := by decide +kernel
theorem d_M_isThere_40 : decode b_M_isThere 40 = .ok (.getfield 25, 3) := by decide +kernel
theorem d_M_isThere_43 : decode b_M_isThere 43 = .ok (.iload 4, 2) := by decide +kernel
theorem d_M_isThere_45 : decode b_M_isThere 45 = .ok (.lload_n 2, 1) := by decide +kernel
theorem d_M_isThere_46 : decode b_M_isThere 46 = .ok (.iload 6, 2) := by decide +kernel
theorem d_M_isThere_48 : decode b_M_isThere 48 = .ok (.i2l, 1) := by decide +kernel
theorem d_M_isThere_49 : decode b_M_isThere 49 = .ok (.invokestatic 53, 3) := by decide +kernel
theorem d_M_isThere_52 : decode b_M_isThere 52 = .ok (.aload_n 0, 1) := by decide +kernel
theorem d_M_isThere_53 : decode b_M_isThere 53 = .ok (.getfield 13, 3) := by decide +kernel
theorem d_M_isThere_56 : decode b_M_isThere 56 = .ok (.iload_n 1, 1) := by decide +kernel
theorem d_M_isThere_57 : decode b_M_isThere 57 = .ok (.iaload, 1) := by decide +kernel
theorem d_M_isThere_58 : decode b_M_isThere 58 = .ok (.invokestatic 61, 3) := by decide +kernel
theorem d_M_isThere_61 : decode b_M_isThere 61 = .ok (.iadd, 1) := by decide +kernel
theorem d_M_isThere_62 : decode b_M_isThere 62 = .ok (.iaload, 1) := by decide +kernel
theorem d_M_isThere_63 : decode b_M_isThere 63 = .ok (.ifCond .le 7, 3) := by decide +kernel
theorem d_M_isThere_66 : decode b_M_isThere 66 = .ok (.iconst 1, 1) := by decide +kernel
theorem d_M_isThere_67 : decode b_M_isThere 67 = .ok (.goto 4, 3) := by decide +kernel
theorem d_M_isThere_70 : decode b_M_isThere 70 = .ok (.iconst 0, 1) := by decide +kernel
theorem d_M_isThere_71 : decode b_M_isThere 71 = .ok (.istore 5, 2) := by decide +kernel
theorem d_M_isThere_73 : decode b_M_isThere 73 = .ok (.iinc 6 1, 3) := by decide +kernel
theorem d_M_isThere_76 : decode b_M_isThere 76 = .ok (.goto (-53), 3) := by decide +kernel
theorem d_M_isThere_79 : decode b_M_isThere 79 = .ok (.iload 5, 2) := by decide +kernel
theorem d_M_isThere_81 : decode b_M_isThere 81 = .ok (.ireturn, 1) := by decide +kernel
theorem d_M_isThere_82 : decode b_M_isThere 82 = .ok (.aload_n 0, 1) := by decide +kernel
theorem d_M_isThere_83 : decode b_M_isThere 83 = .ok (.getfield 7, 3) := by decide +kernel
theorem d_M_isThere_86 : decode b_M_isThere 86 = .ok (.iload_n 1, 1) := by decide +kernel
theorem d_M_isThere_87 : decode b_M_isThere 87 = .ok (.iaload, 1) := by decide +kernel
theorem d_M_isThere_88 : decode b_M_isThere 88 = .ok (.iconst 2, 1) := by decide +kernel
theorem d_M_isThere_89 : decode b_M_isThere 89 = .ok (.if_icmp .ne 66, 3) := by decide +kernel
theorem d_M_isThere_92 : decode b_M_isThere 92 = .ok (.aload_n 0, 1) := by decide +kernel
theorem d_M_isThere_93 : decode b_M_isThere 93 = .ok (.iload_n 1, 1) := by decide +kernel
theorem d_M_isThere_94 : decode b_M_isThere 94 = .ok (.lload_n 2, 1) := by decide +kernel
theorem d_M_isThere_95 : decode b_M_isThere 95 = .ok (.invokevirtual 67, 3) := by decide +kernel
theorem d_M_isThere_98 : decode b_M_isThere 98 = .ok (.istore 5, 2) := by decide +kernel
theorem d_M_isThere_100 : decode b_M_isThere 100 = .ok (.aload_n 0, 1) := by decide +kernel
theorem d_M_isThere_101 : decode b_M_isThere 101 = .ok (.iload_n 1, 1) := by decide +kernel
theorem d_M_isThere_102 : decode b_M_isThere 102 = .ok (.lload_n 2, 1) := by decide +kernel
theorem d_M_isThere_103 : decode b_M_isThere 103 = .ok (.invokevirtual 71, 3) := by decide +kernel
theorem d_M_isThere_106 : decode b_M_isThere 106 = .ok (.istore 6, 2) := by decide +kernel
theorem d_M_isThere_108 : decode b_M_isThere 108 = .ok (.aload_n 0, 1) := by decide +kernel
theorem d_M_isThere_109 : decode b_M_isThere 109 = .ok (.aload_n 0, 1) := by decide +kernel
theorem d_M_isThere_110 : decode b_M_isThere 110 = .ok (.getfield 25, 3) := by decide +kernel
theorem d_M_isThere_113 : decode b_M_isThere 113 = .ok (.iload 4, 2) := by decide +kernel
theorem d_M_isThere_115 : decode b_M_isThere 115 = .ok (.iload 6, 2) := by decide +kernel
theorem d_M_isThere_117 : decode b_M_isThere 117 = .ok (.iload 5, 2) := by decide +kernel
theorem d_M_isThere_119 : decode b_M_isThere 119 = .ok (.invokevirtual 74, 3) := by decide +kernel
theorem d_M_isThere_122 : decode b_M_isThere 122 = .ok (.ifCond .ge 27, 3) := by decide +kernel
theorem d_M_isThere_125 : decode b_M_isThere 125 = .ok (.aload_n 0, 1) := by decide +kernel
theorem d_M_isThere_126 : decode b_M_isThere 126 = .ok (.aload_n 0, 1) := by decide +kernel
theorem d_M_isThere_127 : decode b_M_isThere 127 = .ok (.getfield 25, 3) := by decide +kernel
theorem d_M_isThere_130 : decode b_M_isThere 130 = .ok (.iload 4, 2) := by decide +kernel
theorem d_M_isThere_132 : decode b_M_isThere 132 = .ok (.aload_n 0, 1) := by decide +kernel
theorem d_M_isThere_133 : decode b_M_isThere 133 = .ok (.iload_n 1, 1) := by decide +kernel
theorem d_M_isThere_134 : decode b_M_isThere 134 = .ok (.iload 5, 2) := by decide +kernel
theorem d_M_isThere_136 : decode b_M_isThere 136 = .ok (.iload 6, 2) := by decide +kernel
theorem d_M_isThere_138 : decode b_M_isThere 138 = .ok (.invokevirtual 78, 3) := by decide +kernel
theorem d_M_isThere_141 : decode b_M_isThere 141 = .ok (.iload 5, 2) := by decide +kernel
theorem d_M_isThere_143 : decode b_M_isThere 143 = .ok (.invokevirtual 74, 3) := by decide +kernel
theorem d_M_isThere_146 : decode b_M_isThere 146 = .ok (.ifCond .lt 7, 3) := by decide +kernel
theorem d_M_isThere_149 : decode b_M_isThere 149 = .ok (.iconst 1, 1) := by decide +kernel
theorem d_M_isThere_150 : decode b_M_isThere 150 = .ok (.goto 4, 3) := by decide +kernel
theorem d_M_isThere_153 : decode b_M_isThere 153 = .ok (.iconst 0, 1) := by decide +kernel
theorem d_M_isThere_154 : decode b_M_isThere 154 = .ok (.ireturn, 1) := by decide +kernel
theorem d_M_isThere_155 : decode b_M_isThere 155 = .ok (.aload_n 0, 1) := by decide +kernel
theorem d_M_isThere_156 : decode b_M_isThere 156 = .ok (.iload_n 1, 1) := by decide +kernel
theorem d_M_isThere_157 : decode b_M_isThere 157 = .ok (.aload_n 0, 1) := by decide +kernel
theorem d_M_isThere_158 : decode b_M_isThere 158 = .ok (.iload_n 1, 1) := by decide +kernel
theorem d_M_isThere_159 : decode b_M_isThere 159 = .ok (.lload_n 2, 1) := by decide +kernel
theorem d_M_isThere_160 : decode b_M_isThere 160 = .ok (.invokevirtual 82, 3) := by decide +kernel
theorem d_M_isThere_163 : decode b_M_isThere 163 = .ok (.invokevirtual 85, 3) := by decide +kernel
theorem d_M_isThere_166 : decode b_M_isThere 166 = .ok (.ifCond .lt 7, 3) := by decide +kernel
theorem d_M_isThere_169 : decode b_M_isThere 169 = .ok (.iconst 1, 1) := by decide +kernel
theorem d_M_isThere_170 : decode b_M_isThere 170 = .ok (.goto 4, 3) := by decide +kernel
theorem d_M_isThere_173 : decode b_M_isThere 173 = .ok (.iconst 0, 1) := by decide +kernel
theorem d_M_isThere_174 : decode b_M_isThere 174 = .ok (.ireturn, 1) := by decide +kernel
theorem d_M_findPair_0 : decode b_M_findPair 0 = .ok (.iconst 0, 1) := by decide +kernel
theorem d_M_findPair_1 : decode b_M_findPair 1 = .ok (.istore_n 3, 1) := by decide +kernel
theorem d_M_findPair_2 : decode b_M_findPair 2 = .ok (.iload_n 3, 1) := by decide +kernel
theorem d_M_findPair_3 : decode b_M_findPair 3 = .ok (.aload_n 0, 1) := by decide +kernel
theorem d_M_findPair_4 : decode b_M_findPair 4 = .ok (.getfield 19, 3) := by decide +kernel
theorem d_M_findPair_7 : decode b_M_findPair 7 = .ok (.iload_n 1, 1) := by decide +kernel
theorem d_M_findPair_8 : decode b_M_findPair 8 = .ok (.iaload, 1) := by decide +kernel
theorem d_M_findPair_9 : decode b_M_findPair 9 = .ok (.if_icmp .ge 27, 3) := by decide +kernel
theorem d_M_findPair_12 : decode b_M_findPair 12 = .ok (.aload_n 0, 1) := by decide +kernel
theorem d_M_findPair_13 : decode b_M_findPair 13 = .ok (.getfield 28, 3) := by decide +kernel
theorem d_M_findPair_16 : decode b_M_findPair 16 = .ok (.sipush 256, 3) := by decide +kernel
theorem d_M_findPair_19 : decode b_M_findPair 19 = .ok (.iload_n 1, 1) := by decide +kernel
theorem d_M_findPair_20 : decode b_M_findPair 20 = .ok (.imul, 1) := by decide +kernel
theorem d_M_findPair_21 : decode b_M_findPair 21 = .ok (.iload_n 3, 1) := by decide +kernel
theorem d_M_findPair_22 : decode b_M_findPair 22 = .ok (.iadd, 1) := by decide +kernel
theorem d_M_findPair_23 : decode b_M_findPair 23 = .ok (.iaload, 1) := by decide +kernel
theorem d_M_findPair_24 : decode b_M_findPair 24 = .ok (.iload_n 2, 1) := by decide +kernel
theorem d_M_findPair_25 : decode b_M_findPair 25 = .ok (.if_icmp .ne 5, 3) := by decide +kernel
theorem d_M_findPair_28 : decode b_M_findPair 28 = .ok (.iload_n 3, 1) := by decide +kernel
theorem d_M_findPair_29 : decode b_M_findPair 29 = .ok (.ireturn, 1) := by decide +kernel
theorem d_M_findPair_30 : decode b_M_findPair 30 = .ok (.iinc 3 1, 3) := by decide +kernel
theorem d_M_findPair_33 : decode b_M_findPair 33 = .ok (.goto (-31), 3) := by decide +kernel
theorem d_M_findPair_36 : decode b_M_findPair 36 = .ok (.iconst (-1), 1) := by decide +kernel
theorem d_M_findPair_37 : decode b_M_findPair 37 = .ok (.ireturn, 1) := by decide +kernel
theorem d_M_addCounted_0 : decode b_M_addCounted 0 = .ok (.aload_n 0, 1) := by decide +kernel
theorem d_M_addCounted_1 : decode b_M_addCounted 1 = .ok (.iload_n 1, 1) := by decide +kernel
theorem d_M_addCounted_2 : decode b_M_addCounted 2 = .ok (.lload_n 2, 1) := by decide +kernel
theorem d_M_addCounted_3 : decode b_M_addCounted 3 = .ok (.aload_n 0, 1) := by decide +kernel
theorem d_M_addCounted_4 : decode b_M_addCounted 4 = .ok (.getfield 37, 3) := by decide +kernel
theorem d_M_addCounted_7 : decode b_M_addCounted 7 = .ok (.invokevirtual 89, 3) := by decide +kernel
theorem d_M_addCounted_10 : decode b_M_addCounted 10 = .ok (.iconst 1, 1) := by decide +kernel
theorem d_M_addCounted_11 : decode b_M_addCounted 11 = .ok (.istore 5, 2) := by decide +kernel
theorem d_M_addCounted_13 : decode b_M_addCounted 13 = .ok (.iconst 0, 1) := by decide +kernel
theorem d_M_addCounted_14 : decode b_M_addCounted 14 = .ok (.istore 6, 2) := by decide +kernel
theorem d_M_addCounted_16 : decode b_M_addCounted 16 = .ok (.iload 6, 2) := by decide +kernel
theorem d_M_addCounted_18 : decode b_M_addCounted 18 = .ok (.aload_n 0, 1) := by decide +kernel
theorem d_M_addCounted_19 : decode b_M_addCounted 19 = .ok (.getfield 16, 3) := by decide +kernel
theorem d_M_addCounted_22 : decode b_M_addCounted 22 = .ok (.iload_n 1, 1) := by decide +kernel
theorem d_M_addCounted_23 : decode b_M_addCounted 23 = .ok (.iaload, 1) := by decide +kernel
theorem d_M_addCounted_24 : decode b_M_addCounted 24 = .ok (.if_icmp .ge 77, 3) := by decide +kernel
theorem d_M_addCounted_27 : decode b_M_addCounted 27 = .ok (.aload_n 0, 1) := by decide +kernel
theorem d_M_addCounted_28 : decode b_M_addCounted 28 = .ok (.getfield 25, 3) := by decide +kernel
theorem d_M_addCounted_31 : decode b_M_addCounted 31 = .ok (.sipush 1024, 3) := by decide +kernel
theorem d_M_addCounted_34 : decode b_M_addCounted 34 = .ok (.iload_n 1, 1) := by decide +kernel
theorem d_M_addCounted_35 : decode b_M_addCounted 35 = .ok (.imul, 1) := by decide +kernel
theorem d_M_addCounted_36 : decode b_M_addCounted 36 = .ok (.aload_n 0, 1) := by decide +kernel
theorem d_M_addCounted_37 : decode b_M_addCounted 37 = .ok (.getfield 37, 3) := by decide +kernel
theorem d_M_addCounted_40 : decode b_M_addCounted 40 = .ok (.iload 6, 2) := by decide +kernel
theorem d_M_addCounted_42 : decode b_M_addCounted 42 = .ok (.iaload, 1) := by decide +kernel
theorem d_M_addCounted_43 : decode b_M_addCounted 43 = .ok (.iadd, 1) := by decide +kernel
theorem d_M_addCounted_44 : decode b_M_addCounted 44 = .ok (.iaload, 1) := by decide +kernel
theorem d_M_addCounted_45 : decode b_M_addCounted 45 = .ok (.iload 4, 2) := by decide +kernel
theorem d_M_addCounted_47 : decode b_M_addCounted 47 = .ok (.aload_n 0, 1) := by decide +kernel
theorem d_M_addCounted_48 : decode b_M_addCounted 48 = .ok (.getfield 37, 3) := by decide +kernel
theorem d_M_addCounted_51 : decode b_M_addCounted 51 = .ok (.aload_n 0, 1) := by decide +kernel
theorem d_M_addCounted_52 : decode b_M_addCounted 52 = .ok (.getfield 16, 3) := by decide +kernel
theorem d_M_addCounted_55 : decode b_M_addCounted 55 = .ok (.iload_n 1, 1) := by decide +kernel
theorem d_M_addCounted_56 : decode b_M_addCounted 56 = .ok (.iaload, 1) := by decide +kernel
theorem d_M_addCounted_57 : decode b_M_addCounted 57 = .ok (.aload_n 0, 1) := by decide +kernel
theorem d_M_addCounted_58 : decode b_M_addCounted 58 = .ok (.getfield 37, 3) := by decide +kernel
theorem d_M_addCounted_61 : decode b_M_addCounted 61 = .ok (.iload 6, 2) := by decide +kernel
theorem d_M_addCounted_63 : decode b_M_addCounted 63 = .ok (.iaload, 1) := by decide +kernel
theorem d_M_addCounted_64 : decode b_M_addCounted 64 = .ok (.invokestatic 93, 3) := by decide +kernel
theorem d_M_addCounted_67 : decode b_M_addCounted 67 = .ok (.imul, 1) := by decide +kernel
theorem d_M_addCounted_68 : decode b_M_addCounted 68 = .ok (.iadd, 1) := by decide +kernel
theorem d_M_addCounted_69 : decode b_M_addCounted 69 = .ok (.istore 7, 2) := by decide +kernel
theorem d_M_addCounted_71 : decode b_M_addCounted 71 = .ok (.iload 5, 2) := by decide +kernel
theorem d_M_addCounted_73 : decode b_M_addCounted 73 = .ok (.ifCond .eq 19, 3) := by decide +kernel
theorem d_M_addCounted_76 : decode b_M_addCounted 76 = .ok (.iload 7, 2) := by decide +kernel
theorem d_M_addCounted_78 : decode b_M_addCounted 78 = .ok (.ifCond .lt 14, 3) := by decide +kernel
theorem d_M_addCounted_81 : decode b_M_addCounted 81 = .ok (.iload 7, 2) := by decide +kernel
theorem d_M_addCounted_83 : decode b_M_addCounted 83 = .ok (.bipush 15, 2) := by decide +kernel
theorem d_M_addCounted_85 : decode b_M_addCounted 85 = .ok (.if_icmp .gt 7, 3) := by decide +kernel
theorem d_M_addCounted_88 : decode b_M_addCounted 88 = .ok (.iconst 1, 1) := by decide +kernel
theorem d_M_addCounted_89 : decode b_M_addCounted 89 = .ok (.goto 4, 3) := by decide +kernel
theorem d_M_addCounted_92 : decode b_M_addCounted 92 = .ok (.iconst 0, 1) := by decide +kernel
theorem d_M_addCounted_93 : decode b_M_addCounted 93 = .ok (.istore 5, 2) := by decide +kernel
theorem d_M_addCounted_95 : decode b_M_addCounted 95 = .ok (.iinc 6 1, 3) := by decide +kernel
theorem d_M_addCounted_98 : decode b_M_addCounted 98 = .ok (.goto (-82), 3) := by decide +kernel
theorem d_M_addCounted_101 : decode b_M_addCounted 101 = .ok (.iconst 0, 1) := by decide +kernel
theorem d_M_addCounted_102 : decode b_M_addCounted 102 = .ok (.istore 6, 2) := by decide +kernel
theorem d_M_addCounted_104 : decode b_M_addCounted 104 = .ok (.iload 6, 2) := by decide +kernel
theorem d_M_addCounted_106 : decode b_M_addCounted 106 = .ok (.aload_n 0, 1) := by decide +kernel
theorem d_M_addCounted_107 : decode b_M_addCounted 107 = .ok (.getfield 16, 3) := by decide +kernel
theorem d_M_addCounted_110 : decode b_M_addCounted 110 = .ok (.iload_n 1, 1) := by decide +kernel
theorem d_M_addCounted_111 : decode b_M_addCounted 111 = .ok (.iaload, 1) := by decide +kernel
theorem d_M_addCounted_112 : decode b_M_addCounted 112 = .ok (.if_icmp .ge 37, 3) := by decide +kernel
theorem d_M_addCounted_115 : decode b_M_addCounted 115 = .ok (.iload 5, 2) := by decide +kernel
theorem d_M_addCounted_117 : decode b_M_addCounted 117 = .ok (.ifCond .eq 32, 3) := by decide +kernel
theorem d_M_addCounted_120 : decode b_M_addCounted 120 = .ok (.aload_n 0, 1) := by decide +kernel
theorem d_M_addCounted_121 : decode b_M_addCounted 121 = .ok (.getfield 25, 3) := by decide +kernel
theorem d_M_addCounted_124 : decode b_M_addCounted 124 = .ok (.sipush 1024, 3) := by decide +kernel
theorem d_M_addCounted_127 : decode b_M_addCounted 127 = .ok (.iload_n 1, 1) := by decide +kernel
theorem d_M_addCounted_128 : decode b_M_addCounted 128 = .ok (.imul, 1) := by decide +kernel
theorem d_M_addCounted_129 : decode b_M_addCounted 129 = .ok (.aload_n 0, 1) := by decide +kernel
theorem d_M_addCounted_130 : decode b_M_addCounted 130 = .ok (.getfield 37, 3) := by decide +kernel
theorem d_M_addCounted_133 : decode b_M_addCounted 133 = .ok (.iload 6, 2) := by decide +kernel
theorem d_M_addCounted_135 : decode b_M_addCounted 135 = .ok (.iaload, 1) := by decide +kernel
theorem d_M_addCounted_136 : decode b_M_addCounted 136 = .ok (.iadd, 1) := by decide +kernel
theorem d_M_addCounted_137 : decode b_M_addCounted 137 = .ok (.dup2, 1) := by decide +kernel
theorem d_M_addCounted_138 : decode b_M_addCounted 138 = .ok (.iaload, 1) := by decide +kernel
theorem d_M_addCounted_139 : decode b_M_addCounted 139 = .ok (.iload 4, 2) := by decide +kernel
theorem d_M_addCounted_141 : decode b_M_addCounted 141 = .ok (.iadd, 1) := by decide +kernel
theorem d_M_addCounted_142 : decode b_M_addCounted 142 = .ok (.iastore, 1) := by decide +kernel
theorem d_M_addCounted_143 : decode b_M_addCounted 143 = .ok (.iinc 6 1, 3) := by decide +kernel
theorem d_M_addCounted_146 : decode b_M_addCounted 146 = .ok (.goto (-42), 3) := by decide +kernel
theorem d_M_addCounted_149 : decode b_M_addCounted 149 = .ok (.iload 5, 2) := by decide +kernel
theorem d_M_addCounted_151 : decode b_M_addCounted 151 = .ok (.ireturn, 1) := by decide +kernel
theorem d_M_addPrint_0 : decode b_M_addPrint 0 = .ok (.sipush 1024, 3) := by decide +kernel
theorem d_M_addPrint_3 : decode b_M_addPrint 3 = .ok (.iload_n 1, 1) := by decide +kernel
theorem d_M_addPrint_4 : decode b_M_addPrint 4 = .ok (.imul, 1) := by decide +kernel
theorem d_M_addPrint_5 : decode b_M_addPrint 5 = .ok (.istore 4, 2) := by decide +kernel
theorem d_M_addPrint_7 : decode b_M_addPrint 7 = .ok (.aload_n 0, 1) := by decide +kernel
theorem d_M_addPrint_8 : decode b_M_addPrint 8 = .ok (.iload_n 1, 1) := by decide +kernel
theorem d_M_addPrint_9 : decode b_M_addPrint 9 = .ok (.lload_n 2, 1) := by decide +kernel
theorem d_M_addPrint_10 : decode b_M_addPrint 10 = .ok (.invokevirtual 67, 3) := by decide +kernel
theorem d_M_addPrint_13 : decode b_M_addPrint 13 = .ok (.istore 5, 2) := by decide +kernel
theorem d_M_addPrint_15 : decode b_M_addPrint 15 = .ok (.aload_n 0, 1) := by decide +kernel
theorem d_M_addPrint_16 : decode b_M_addPrint 16 = .ok (.iload_n 1, 1) := by decide +kernel
theorem d_M_addPrint_17 : decode b_M_addPrint 17 = .ok (.lload_n 2, 1) := by decide +kernel
theorem d_M_addPrint_18 : decode b_M_addPrint 18 = .ok (.invokevirtual 71, 3) := by decide +kernel
theorem d_M_addPrint_21 : decode b_M_addPrint 21 = .ok (.istore 6, 2) := by decide +kernel
theorem d_M_addPrint_23 : decode b_M_addPrint 23 = .ok (.aload_n 0, 1) := by decide +kernel
theorem d_M_addPrint_24 : decode b_M_addPrint 24 = .ok (.aload_n 0, 1) := by decide +kernel
theorem d_M_addPrint_25 : decode b_M_addPrint 25 = .ok (.getfield 25, 3) := by decide +kernel
theorem d_M_addPrint_28 : decode b_M_addPrint 28 = .ok (.iload 4, 2) := by decide +kernel
theorem d_M_addPrint_30 : decode b_M_addPrint 30 = .ok (.iload 6, 2) := by decide +kernel
theorem d_M_addPrint_32 : decode b_M_addPrint 32 = .ok (.iconst 0, 1) := by decide +kernel
theorem d_M_addPrint_33 : decode b_M_addPrint 33 = .ok (.invokevirtual 74, 3) := by decide +kernel
theorem d_M_addPrint_36 : decode b_M_addPrint 36 = .ok (.istore 7, 2) := by decide +kernel
theorem d_M_addPrint_38 : decode b_M_addPrint 38 = .ok (.iload 7, 2) := by decide +kernel
theorem d_M_addPrint_40 : decode b_M_addPrint 40 = .ok (.ifCond .lt 8, 3) := by decide +kernel
theorem d_M_addPrint_43 : decode b_M_addPrint 43 = .ok (.iload 6, 2) := by decide +kernel
theorem d_M_addPrint_45 : decode b_M_addPrint 45 = .ok (.goto 12, 3) := by decide +kernel
theorem d_M_addPrint_48 : decode b_M_addPrint 48 = .ok (.aload_n 0, 1) := by decide +kernel
theorem d_M_addPrint_49 : decode b_M_addPrint 49 = .ok (.iload_n 1, 1) := by decide +kernel
theorem d_M_addPrint_50 : decode b_M_addPrint 50 = .ok (.iload 5, 2) := by decide +kernel
theorem d_M_addPrint_52 : decode b_M_addPrint 52 = .ok (.iload 6, 2) := by decide +kernel
theorem d_M_addPrint_54 : decode b_M_addPrint 54 = .ok (.invokevirtual 78, 3) := by decide +kernel
theorem d_M_addPrint_57 : decode b_M_addPrint 57 = .ok (.istore 6, 2) := by decide +kernel
theorem d_M_addPrint_59 : decode b_M_addPrint 59 = .ok (.iload 7, 2) := by decide +kernel
theorem d_M_addPrint_61 : decode b_M_addPrint 61 = .ok (.ifCond .lt 8, 3) := by decide +kernel
theorem d_M_addPrint_64 : decode b_M_addPrint 64 = .ok (.iload 7, 2) := by decide +kernel
theorem d_M_addPrint_66 : decode b_M_addPrint 66 = .ok (.goto 16, 3) := by decide +kernel
theorem d_M_addPrint_69 : decode b_M_addPrint 69 = .ok (.aload_n 0, 1) := by decide +kernel
theorem d_M_addPrint_70 : decode b_M_addPrint 70 = .ok (.aload_n 0, 1) := by decide +kernel
theorem d_M_addPrint_71 : decode b_M_addPrint 71 = .ok (.getfield 25, 3) := by decide +kernel
theorem d_M_addPrint_74 : decode b_M_addPrint 74 = .ok (.iload 4, 2) := by decide +kernel
theorem d_M_addPrint_76 : decode b_M_addPrint 76 = .ok (.iload 6, 2) := by decide +kernel
theorem d_M_addPrint_78 : decode b_M_addPrint 78 = .ok (.iconst 0, 1) := by decide +kernel
theorem d_M_addPrint_79 : decode b_M_addPrint 79 = .ok (.invokevirtual 74, 3) := by decide +kernel
theorem d_M_addPrint_82 : decode b_M_addPrint 82 = .ok (.istore 7, 2) := by decide +kernel
theorem d_M_addPrint_84 : decode b_M_addPrint 84 = .ok (.iload 7, 2) := by decide +kernel
theorem d_M_addPrint_86 : decode b_M_addPrint 86 = .ok (.ifCond .lt 14, 3) := by decide +kernel
theorem d_M_addPrint_89 : decode b_M_addPrint 89 = .ok (.aload_n 0, 1) := by decide +kernel
theorem d_M_addPrint_90 : decode b_M_addPrint 90 = .ok (.getfield 25, 3) := by decide +kernel
theorem d_M_addPrint_93 : decode b_M_addPrint 93 = .ok (.iload 7, 2) := by decide +kernel
theorem d_M_addPrint_95 : decode b_M_addPrint 95 = .ok (.iload 5, 2) := by decide +kernel
theorem d_M_addPrint_97 : decode b_M_addPrint 97 = .ok (.iastore, 1) := by decide +kernel
theorem d_M_addPrint_98 : decode b_M_addPrint 98 = .ok (.iconst 1, 1) := by decide +kernel
theorem d_M_addPrint_99 : decode b_M_addPrint 99 = .ok (.ireturn, 1) := by decide +kernel
theorem d_M_addPrint_100 : decode b_M_addPrint 100 = .ok (.iconst 4, 1) := by decide +kernel
theorem d_M_addPrint_101 : decode b_M_addPrint 101 = .ok (.aload_n 0, 1) := by decide +kernel
theorem d_M_addPrint_102 : decode b_M_addPrint 102 = .ok (.getfield 13, 3) := by decide +kernel
theorem d_M_addPrint_105 : decode b_M_addPrint 105 = .ok (.iload_n 1, 1) := by decide +kernel
theorem d_M_addPrint_106 : decode b_M_addPrint 106 = .ok (.iaload, 1) := by decide +kernel
theorem d_M_addPrint_107 : decode b_M_addPrint 107 = .ok (.ishl, 1) := by decide +kernel
theorem d_M_addPrint_108 : decode b_M_addPrint 108 = .ok (.istore 8, 2) := by decide +kernel
theorem d_M_addPrint_110 : decode b_M_addPrint 110 = .ok (.iconst 0, 1) := by decide +kernel
theorem d_M_addPrint_111 : decode b_M_addPrint 111 = .ok (.istore 9, 2) := by decide +kernel
theorem d_M_addPrint_113 : decode b_M_addPrint 113 = .ok (.iload 9, 2) := by decide +kernel
theorem d_M_addPrint_115 : decode b_M_addPrint 115 = .ok (.iload 8, 2) := by decide +kernel
theorem d_M_addPrint_117 : decode b_M_addPrint 117 = .ok (.if_icmp .ge 26, 3) := by decide +kernel
theorem d_M_addPrint_120 : decode b_M_addPrint 120 = .ok (.aload_n 0, 1) := by decide +kernel
theorem d_M_addPrint_121 : decode b_M_addPrint 121 = .ok (.getfield 31, 3) := by decide +kernel
theorem d_M_addPrint_124 : decode b_M_addPrint 124 = .ok (.iload 9, 2) := by decide +kernel
theorem d_M_addPrint_126 : decode b_M_addPrint 126 = .ok (.aload_n 0, 1) := by decide +kernel
theorem d_M_addPrint_127 : decode b_M_addPrint 127 = .ok (.getfield 25, 3) := by decide +kernel
theorem d_M_addPrint_130 : decode b_M_addPrint 130 = .ok (.iload 4, 2) := by decide +kernel
theorem d_M_addPrint_132 : decode b_M_addPrint 132 = .ok (.iload 9, 2) := by decide +kernel
theorem d_M_addPrint_134 : decode b_M_addPrint 134 = .ok (.iadd, 1) := by decide +kernel
theorem d_M_addPrint_135 : decode b_M_addPrint 135 = .ok (.iaload, 1) := by decide +kernel
theorem d_M_addPrint_136 : decode b_M_addPrint 136 = .ok (.iastore, 1) := by decide +kernel
theorem d_M_addPrint_137 : decode b_M_addPrint 137 = .ok (.iinc 9 1, 3) := by decide +kernel
theorem d_M_addPrint_140 : decode b_M_addPrint 140 = .ok (.goto (-27), 3) := by decide +kernel
theorem d_M_addPrint_143 : decode b_M_addPrint 143 = .ok (.iload 5, 2) := by decide +kernel
theorem d_M_addPrint_145 : decode b_M_addPrint 145 = .ok (.istore 9, 2) := by decide +kernel
theorem d_M_addPrint_147 : decode b_M_addPrint 147 = .ok (.iconst 0, 1) := by decide +kernel
theorem d_M_addPrint_148 : decode b_M_addPrint 148 = .ok (.istore 10, 2) := by decide +kernel
theorem d_M_addPrint_150 : decode b_M_addPrint 150 = .ok (.iload 10, 2) := by decide +kernel
theorem d_M_addPrint_152 : decode b_M_addPrint 152 = .ok (.bipush 64, 2) := by decide +kernel
theorem d_M_addPrint_154 : decode b_M_addPrint 154 = .ok (.if_icmp .ge 126, 3) := by decide +kernel
theorem d_M_addPrint_157 : decode b_M_addPrint 157 = .ok (.iconst 4, 1) := by decide +kernel
theorem d_M_addPrint_158 : decode b_M_addPrint 158 = .ok (.iload 6, 2) := by decide +kernel
theorem d_M_addPrint_160 : decode b_M_addPrint 160 = .ok (.imul, 1) := by decide +kernel
theorem d_M_addPrint_161 : decode b_M_addPrint 161 = .ok (.iload 10, 2) := by decide +kernel
theorem d_M_addPrint_163 : decode b_M_addPrint 163 = .ok (.iconst 4, 1) := by decide +kernel
theorem d_M_addPrint_164 : decode b_M_addPrint 164 = .ok (.irem, 1) := by decide +kernel
theorem d_M_addPrint_165 : decode b_M_addPrint 165 = .ok (.iadd, 1) := by decide +kernel
theorem d_M_addPrint_166 : decode b_M_addPrint 166 = .ok (.istore 11, 2) := by decide +kernel
theorem d_M_addPrint_168 : decode b_M_addPrint 168 = .ok (.aload_n 0, 1) := by decide +kernel
theorem d_M_addPrint_169 : decode b_M_addPrint 169 = .ok (.getfield 31, 3) := by decide +kernel
theorem d_M_addPrint_172 : decode b_M_addPrint 172 = .ok (.iload 11, 2) := by decide +kernel
theorem d_M_addPrint_174 : decode b_M_addPrint 174 = .ok (.iaload, 1) := by decide +kernel
theorem d_M_addPrint_175 : decode b_M_addPrint 175 = .ok (.istore 12, 2) := by decide +kernel
theorem d_M_addPrint_177 : decode b_M_addPrint 177 = .ok (.aload_n 0, 1) := by decide +kernel
theorem d_M_addPrint_178 : decode b_M_addPrint 178 = .ok (.getfield 31, 3) := by decide +kernel
theorem d_M_addPrint_181 : decode b_M_addPrint 181 = .ok (.iload 11, 2) := by decide +kernel
theorem d_M_addPrint_183 : decode b_M_addPrint 183 = .ok (.iload 9, 2) := by decide +kernel
theorem d_M_addPrint_185 : decode b_M_addPrint 185 = .ok (.iastore, 1) := by decide +kernel
theorem d_M_addPrint_186 : decode b_M_addPrint 186 = .ok (.iload 12, 2) := by decide +kernel
theorem d_M_addPrint_188 : decode b_M_addPrint 188 = .ok (.istore 9, 2) := by decide +kernel
theorem d_M_addPrint_190 : decode b_M_addPrint 190 = .ok (.aload_n 0, 1) := by decide +kernel
theorem d_M_addPrint_191 : decode b_M_addPrint 191 = .ok (.getfield 22, 3) := by decide +kernel
theorem d_M_addPrint_194 : decode b_M_addPrint 194 = .ok (.iload_n 1, 1) := by decide +kernel
theorem d_M_addPrint_195 : decode b_M_addPrint 195 = .ok (.dup2, 1) := by decide +kernel
theorem d_M_addPrint_196 : decode b_M_addPrint 196 = .ok (.iaload, 1) := by decide +kernel
theorem d_M_addPrint_197 : decode b_M_addPrint 197 = .ok (.iconst 1, 1) := by decide +kernel
theorem d_M_addPrint_198 : decode b_M_addPrint 198 = .ok (.iadd, 1) := by decide +kernel
theorem d_M_addPrint_199 : decode b_M_addPrint 199 = .ok (.iastore, 1) := by decide +kernel
theorem d_M_addPrint_200 : decode b_M_addPrint 200 = .ok (.aload_n 0, 1) := by decide +kernel
theorem d_M_addPrint_201 : decode b_M_addPrint 201 = .ok (.iload_n 1, 1) := by decide +kernel
theorem d_M_addPrint_202 : decode b_M_addPrint 202 = .ok (.iload 9, 2) := by decide +kernel
theorem d_M_addPrint_204 : decode b_M_addPrint 204 = .ok (.iload 6, 2) := by decide +kernel
theorem d_M_addPrint_206 : decode b_M_addPrint 206 = .ok (.invokevirtual 78, 3) := by decide +kernel
theorem d_M_addPrint_209 : decode b_M_addPrint 209 = .ok (.istore 6, 2) := by decide +kernel
theorem d_M_addPrint_211 : decode b_M_addPrint 211 = .ok (.aload_n 0, 1) := by decide +kernel
theorem d_M_addPrint_212 : decode b_M_addPrint 212 = .ok (.aload_n 0, 1) := by decide +kernel
theorem d_M_addPrint_213 : decode b_M_addPrint 213 = .ok (.getfield 31, 3) := by decide +kernel
theorem d_M_addPrint_216 : decode b_M_addPrint 216 = .ok (.iconst 0, 1) := by decide +kernel
theorem d_M_addPrint_217 : decode b_M_addPrint 217 = .ok (.iload 6, 2) := by decide +kernel
theorem d_M_addPrint_219 : decode b_M_addPrint 219 = .ok (.iconst 0, 1) := by decide +kernel
theorem d_M_addPrint_220 : decode b_M_addPrint 220 = .ok (.invokevirtual 74, 3) := by decide +kernel
theorem d_M_addPrint_223 : decode b_M_addPrint 223 = .ok (.istore 7, 2) := by decide +kernel
theorem d_M_addPrint_225 : decode b_M_addPrint 225 = .ok (.iload 7, 2) := by decide +kernel
theorem d_M_addPrint_227 : decode b_M_addPrint 227 = .ok (.ifCond .lt 47, 3) := by decide +kernel
theorem d_M_addPrint_230 : decode b_M_addPrint 230 = .ok (.aload_n 0, 1) := by decide +kernel
theorem d_M_addPrint_231 : decode b_M_addPrint 231 = .ok (.getfield 31, 3) := by decide +kernel
theorem d_M_addPrint_234 : decode b_M_addPrint 234 = .ok (.iload 7, 2) := by decide +kernel
theorem d_M_addPrint_236 : decode b_M_addPrint 236 = .ok (.iload 9, 2) := by decide +kernel
theorem d_M_addPrint_238 : decode b_M_addPrint 238 = .ok (.iastore, 1) := by decide +kernel
theorem d_M_addPrint_239 : decode b_M_addPrint 239 = .ok (.iconst 0, 1) := by decide +kernel
theorem d_M_addPrint_240 : decode b_M_addPrint 240 = .ok (.istore 13, 2) := by decide +kernel
theorem d_M_addPrint_242 : decode b_M_addPrint 242 = .ok (.iload 13, 2) := by decide +kernel
theorem d_M_addPrint_244 : decode b_M_addPrint 244 = .ok (.iload 8, 2) := by decide +kernel
theorem d_M_addPrint_246 : decode b_M_addPrint 246 = .ok (.if_icmp .ge 26, 3) := by decide +kernel
theorem d_M_addPrint_249 : decode b_M_addPrint 249 = .ok (.aload_n 0, 1) := by decide +kernel
theorem d_M_addPrint_250 : decode b_M_addPrint 250 = .ok (.getfield 25, 3) := by decide +kernel
theorem d_M_addPrint_253 : decode b_M_addPrint 253 = .ok (.iload 4, 2) := by decide +kernel
theorem d_M_addPrint_255 : decode b_M_addPrint 255 = .ok (.iload 13, 2) := by decide +kernel
theorem d_M_addPrint_257 : decode b_M_addPrint 257 = .ok (.iadd, 1) := by decide +kernel
theorem d_M_addPrint_258 : decode b_M_addPrint 258 = .ok (.aload_n 0, 1) := by decide +kernel
theorem d_M_addPrint_259 : decode b_M_addPrint 259 = .ok (.getfield 31, 3) := by decide +kernel
theorem d_M_addPrint_262 : decode b_M_addPrint 262 = .ok (.iload 13, 2) := by decide +kernel
theorem d_M_addPrint_264 : decode b_M_addPrint 264 = .ok (.iaload, 1) := by decide +kernel
theorem d_M_addPrint_265 : decode b_M_addPrint 265 = .ok (.iastore, 1) := by decide +kernel
theorem d_M_addPrint_266 : decode b_M_addPrint 266 = .ok (.iinc 13 1, 3) := by decide +kernel
theorem d_M_addPrint_269 : decode b_M_addPrint 269 = .ok (.goto (-27), 3) := by decide +kernel
theorem d_M_addPrint_272 : decode b_M_addPrint 272 = .ok (.iconst 1, 1) := by decide +kernel
theorem d_M_addPrint_273 : decode b_M_addPrint 273 = .ok (.ireturn, 1) := by decide +kernel
theorem d_M_addPrint_274 : decode b_M_addPrint 274 = .ok (.iinc 10 1, 3) := by decide +kernel
theorem d_M_addPrint_277 : decode b_M_addPrint 277 = .ok (.goto (-127), 3) := by decide +kernel
theorem d_M_addPrint_280 : decode b_M_addPrint 280 = .ok (.iconst 0, 1) := by decide +kernel
theorem d_M_addPrint_281 : decode b_M_addPrint 281 = .ok (.ireturn, 1) := by decide +kernel
theorem d_M_insertPair_0 : decode b_M_insertPair 0 = .ok (.iload_n 2, 1) := by decide +kernel
theorem d_M_insertPair_1 : decode b_M_insertPair 1 = .ok (.istore 4, 2) := by decide +kernel
theorem d_M_insertPair_3 : decode b_M_insertPair 3 = .ok (.sipush 256, 3) := by decide +kernel
theorem d_M_insertPair_6 : decode b_M_insertPair 6 = .ok (.iload_n 1, 1) := by decide +kernel
theorem d_M_insertPair_7 : decode b_M_insertPair 7 = .ok (.imul, 1) := by decide +kernel
theorem d_M_insertPair_8 : decode b_M_insertPair 8 = .ok (.istore 5, 2) := by decide +kernel
theorem d_M_insertPair_10 : decode b_M_insertPair 10 = .ok (.iload 4, 2) := by decide +kernel
theorem d_M_insertPair_12 : decode b_M_insertPair 12 = .ok (.ifCond .le 47, 3) := by decide +kernel
theorem d_M_insertPair_15 : decode b_M_insertPair 15 = .ok (.aload_n 0, 1) := by decide +kernel
theorem d_M_insertPair_16 : decode b_M_insertPair 16 = .ok (.getfield 28, 3) := by decide +kernel
theorem d_M_insertPair_19 : decode b_M_insertPair 19 = .ok (.iload 5, 2) := by decide +kernel
theorem d_M_insertPair_21 : decode b_M_insertPair 21 = .ok (.iload 4, 2) := by decide +kernel
theorem d_M_insertPair_23 : decode b_M_insertPair 23 = .ok (.iadd, 1) := by decide +kernel
theorem d_M_insertPair_24 : decode b_M_insertPair 24 = .ok (.iconst 1, 1) := by decide +kernel
theorem d_M_insertPair_25 : decode b_M_insertPair 25 = .ok (.isub, 1) := by decide +kernel
theorem d_M_insertPair_26 : decode b_M_insertPair 26 = .ok (.iaload, 1) := by decide +kernel
theorem d_M_insertPair_27 : decode b_M_insertPair 27 = .ok (.iload_n 3, 1) := by decide +kernel
theorem d_M_insertPair_28 : decode b_M_insertPair 28 = .ok (.if_icmp .le 31, 3) := by decide +kernel
theorem d_M_insertPair_31 : decode b_M_insertPair 31 = .ok (.aload_n 0, 1) := by decide +kernel
theorem d_M_insertPair_32 : decode b_M_insertPair 32 = .ok (.getfield 28, 3) := by decide +kernel
theorem d_M_insertPair_35 : decode b_M_insertPair 35 = .ok (.iload 5, 2) := by decide +kernel
theorem d_M_insertPair_37 : decode b_M_insertPair 37 = .ok (.iload 4, 2) := by decide +kernel
theorem d_M_insertPair_39 : decode b_M_insertPair 39 = .ok (.iadd, 1) := by decide +kernel
theorem d_M_insertPair_40 : decode b_M_insertPair 40 = .ok (.aload_n 0, 1) := by decide +kernel
theorem d_M_insertPair_41 : decode b_M_insertPair 41 = .ok (.getfield 28, 3) := by decide +kernel
theorem d_M_insertPair_44 : decode b_M_insertPair 44 = .ok (.iload 5, 2) := by decide +kernel
theorem d_M_insertPair_46 : decode b_M_insertPair 46 = .ok (.iload 4, 2) := by decide +kernel
theorem d_M_insertPair_48 : decode b_M_insertPair 48 = .ok (.iadd, 1) := by decide +kernel
theorem d_M_insertPair_49 : decode b_M_insertPair 49 = .ok (.iconst 1, 1) := by decide +kernel
theorem d_M_insertPair_50 : decode b_M_insertPair 50 = .ok (.isub, 1) := by decide +kernel
theorem d_M_insertPair_51 : decode b_M_insertPair 51 = .ok (.iaload, 1) := by decide +kernel
theorem d_M_insertPair_52 : decode b_M_insertPair 52 = .ok (.iastore, 1) := by decide +kernel
theorem d_M_insertPair_53 : decode b_M_insertPair 53 = .ok (.iinc 4 (-1), 3) := by decide +kernel
theorem d_M_insertPair_56 : decode b_M_insertPair 56 = .ok (.goto (-46), 3) := by decide +kernel
theorem d_M_insertPair_59 : decode b_M_insertPair 59 = .ok (.aload_n 0, 1) := by decide +kernel
theorem d_M_insertPair_60 : decode b_M_insertPair 60 = .ok (.getfield 28, 3) := by decide +kernel
theorem d_M_insertPair_63 : decode b_M_insertPair 63 = .ok (.iload 5, 2) := by decide +kernel
theorem d_M_insertPair_65 : decode b_M_insertPair 65 = .ok (.iload 4, 2) := by decide +kernel
theorem d_M_insertPair_67 : decode b_M_insertPair 67 = .ok (.iadd, 1) := by decide +kernel
theorem d_M_insertPair_68 : decode b_M_insertPair 68 = .ok (.iload_n 3, 1) := by decide +kernel
theorem d_M_insertPair_69 : decode b_M_insertPair 69 = .ok (.iastore, 1) := by decide +kernel
theorem d_M_insertPair_70 : decode b_M_insertPair 70 = .ok (.return_, 1) := by decide +kernel
theorem d_M_addPair_0 : decode b_M_addPair 0 = .ok (.aload_n 0, 1) := by decide +kernel
theorem d_M_addPair_1 : decode b_M_addPair 1 = .ok (.getfield 19, 3) := by decide +kernel
theorem d_M_addPair_4 : decode b_M_addPair 4 = .ok (.iload_n 1, 1) := by decide +kernel
theorem d_M_addPair_5 : decode b_M_addPair 5 = .ok (.iaload, 1) := by decide +kernel
theorem d_M_addPair_6 : decode b_M_addPair 6 = .ok (.iconst 1, 1) := by decide +kernel
theorem d_M_addPair_7 : decode b_M_addPair 7 = .ok (.aload_n 0, 1) := by decide +kernel
theorem d_M_addPair_8 : decode b_M_addPair 8 = .ok (.getfield 13, 3) := by decide +kernel
theorem d_M_addPair_11 : decode b_M_addPair 11 = .ok (.iload_n 1, 1) := by decide +kernel
theorem d_M_addPair_12 : decode b_M_addPair 12 = .ok (.iaload, 1) := by decide +kernel
theorem d_M_addPair_13 : decode b_M_addPair 13 = .ok (.ishl, 1) := by decide +kernel
theorem d_M_addPair_14 : decode b_M_addPair 14 = .ok (.if_icmp .ne 5, 3) := by decide +kernel
theorem d_M_addPair_17 : decode b_M_addPair 17 = .ok (.iconst 0, 1) := by decide +kernel
theorem d_M_addPair_18 : decode b_M_addPair 18 = .ok (.ireturn, 1) := by decide +kernel
theorem d_M_addPair_19 : decode b_M_addPair 19 = .ok (.aload_n 0, 1) := by decide +kernel
theorem d_M_addPair_20 : decode b_M_addPair 20 = .ok (.iload_n 1, 1) := by decide +kernel
theorem d_M_addPair_21 : decode b_M_addPair 21 = .ok (.aload_n 0, 1) := by decide +kernel
theorem d_M_addPair_22 : decode b_M_addPair 22 = .ok (.getfield 19, 3) := by decide +kernel
theorem d_M_addPair_25 : decode b_M_addPair 25 = .ok (.iload_n 1, 1) := by decide +kernel
theorem d_M_addPair_26 : decode b_M_addPair 26 = .ok (.iaload, 1) := by decide +kernel
theorem d_M_addPair_27 : decode b_M_addPair 27 = .ok (.aload_n 0, 1) := by decide +kernel
theorem d_M_addPair_28 : decode b_M_addPair 28 = .ok (.iload_n 1, 1) := by decide +kernel
theorem d_M_addPair_29 : decode b_M_addPair 29 = .ok (.lload_n 2, 1) := by decide +kernel
theorem d_M_addPair_30 : decode b_M_addPair 30 = .ok (.invokevirtual 82, 3) := by decide +kernel
theorem d_M_addPair_33 : decode b_M_addPair 33 = .ok (.invokevirtual 97, 3) := by decide +kernel
theorem d_M_addPair_36 : decode b_M_addPair 36 = .ok (.iconst 1, 1) := by decide +kernel
theorem d_M_addPair_37 : decode b_M_addPair 37 = .ok (.ireturn, 1) := by decide +kernel
theorem d_M_addOne_0 : decode b_M_addOne 0 = .ok (.aload_n 0, 1) := by decide +kernel
theorem d_M_addOne_1 : decode b_M_addOne 1 = .ok (.getfield 7, 3) := by decide +kernel
theorem d_M_addOne_4 : decode b_M_addOne 4 = .ok (.iload_n 1, 1) := by decide +kernel
theorem d_M_addOne_5 : decode b_M_addOne 5 = .ok (.iaload, 1) := by decide +kernel
theorem d_M_addOne_6 : decode b_M_addOne 6 = .ok (.iconst 1, 1) := by decide +kernel
theorem d_M_addOne_7 : decode b_M_addOne 7 = .ok (.if_icmp .ne 13, 3) := by decide +kernel
theorem d_M_addOne_10 : decode b_M_addOne 10 = .ok (.aload_n 0, 1) := by decide +kernel
theorem d_M_addOne_11 : decode b_M_addOne 11 = .ok (.iload_n 1, 1) := by decide +kernel
theorem d_M_addOne_12 : decode b_M_addOne 12 = .ok (.lload_n 2, 1) := by decide +kernel
theorem d_M_addOne_13 : decode b_M_addOne 13 = .ok (.iconst 1, 1) := by decide +kernel
theorem d_M_addOne_14 : decode b_M_addOne 14 = .ok (.invokevirtual 101, 3) := by decide +kernel
theorem d_M_addOne_17 : decode b_M_addOne 17 = .ok (.goto 28, 3) := by decide +kernel
theorem d_M_addOne_20 : decode b_M_addOne 20 = .ok (.aload_n 0, 1) := by decide +kernel
theorem d_M_addOne_21 : decode b_M_addOne 21 = .ok (.getfield 7, 3) := by decide +kernel
theorem d_M_addOne_24 : decode b_M_addOne 24 = .ok (.iload_n 1, 1) := by decide +kernel
theorem d_M_addOne_25 : decode b_M_addOne 25 = .ok (.iaload, 1) := by decide +kernel
theorem d_M_addOne_26 : decode b_M_addOne 26 = .ok (.iconst 2, 1) := by decide +kernel
theorem d_M_addOne_27 : decode b_M_addOne 27 = .ok (.if_icmp .ne 12, 3) := by decide +kernel
theorem d_M_addOne_30 : decode b_M_addOne 30 = .ok (.aload_n 0, 1) := by decide +kernel
theorem d_M_addOne_31 : decode b_M_addOne 31 = .ok (.iload_n 1, 1) := by decide +kernel
theorem d_M_addOne_32 : decode b_M_addOne 32 = .ok (.lload_n 2, 1) := by decide +kernel
theorem d_M_addOne_33 : decode b_M_addOne 33 = .ok (.invokevirtual 105, 3) := by decide +kernel
theorem d_M_addOne_36 : decode b_M_addOne 36 = .ok (.goto 9, 3) := by decide +kernel
theorem d_M_addOne_39 : decode b_M_addOne 39 = .ok (.aload_n 0, 1) := by decide +kernel
theorem d_M_addOne_40 : decode b_M_addOne 40 = .ok (.iload_n 1, 1) := by decide +kernel
theorem d_M_addOne_41 : decode b_M_addOne 41 = .ok (.lload_n 2, 1) := by decide +kernel
theorem d_M_addOne_42 : decode b_M_addOne 42 = .ok (.invokevirtual 109, 3) := by decide +kernel
theorem d_M_addOne_45 : decode b_M_addOne 45 = .ok (.istore 4, 2) := by decide +kernel
theorem d_M_addOne_47 : decode b_M_addOne 47 = .ok (.aload_n 0, 1) := by decide +kernel
theorem d_M_addOne_48 : decode b_M_addOne 48 = .ok (.getfield 19, 3) := by decide +kernel
theorem d_M_addOne_51 : decode b_M_addOne 51 = .ok (.iload_n 1, 1) := by decide +kernel
theorem d_M_addOne_52 : decode b_M_addOne 52 = .ok (.iload 4, 2) := by decide +kernel
theorem d_M_addOne_54 : decode b_M_addOne 54 = .ok (.ifCond .eq 14, 3) := by decide +kernel
theorem d_M_addOne_57 : decode b_M_addOne 57 = .ok (.aload_n 0, 1) := by decide +kernel
theorem d_M_addOne_58 : decode b_M_addOne 58 = .ok (.getfield 19, 3) := by decide +kernel
theorem d_M_addOne_61 : decode b_M_addOne 61 = .ok (.iload_n 1, 1) := by decide +kernel
theorem d_M_addOne_62 : decode b_M_addOne 62 = .ok (.iaload, 1) := by decide +kernel
theorem d_M_addOne_63 : decode b_M_addOne 63 = .ok (.iconst 1, 1) := by decide +kernel
theorem d_M_addOne_64 : decode b_M_addOne 64 = .ok (.iadd, 1) := by decide +kernel
theorem d_M_addOne_65 : decode b_M_addOne 65 = .ok (.goto 9, 3) := by decide +kernel
theorem d_M_addOne_68 : decode b_M_addOne 68 = .ok (.aload_n 0, 1) := by decide +kernel
theorem d_M_addOne_69 : decode b_M_addOne 69 = .ok (.getfield 19, 3) := by decide +kernel
theorem d_M_addOne_72 : decode b_M_addOne 72 = .ok (.iload_n 1, 1) := by decide +kernel
theorem d_M_addOne_73 : decode b_M_addOne 73 = .ok (.iaload, 1) := by decide +kernel
theorem d_M_addOne_74 : decode b_M_addOne 74 = .ok (.iastore, 1) := by decide +kernel
theorem d_M_addOne_75 : decode b_M_addOne 75 = .ok (.iload 4, 2) := by decide +kernel
theorem d_M_addOne_77 : decode b_M_addOne 77 = .ok (.ireturn, 1) := by decide +kernel
theorem d_M_make_0 : decode b_M_make 0 = .ok (.iload_n 2, 1) := by decide +kernel
theorem d_M_make_1 : decode b_M_make 1 = .ok (.iconst 1, 1) := by decide +kernel
theorem d_M_make_2 : decode b_M_make 2 = .ok (.if_icmp .ne 27, 3) := by decide +kernel
theorem d_M_make_5 : decode b_M_make 5 = .ok (.iload_n 3, 1) := by decide +kernel
theorem d_M_make_6 : decode b_M_make 6 = .ok (.iconst 3, 1) := by decide +kernel
theorem d_M_make_7 : decode b_M_make 7 = .ok (.if_icmp .lt 22, 3) := by decide +kernel
theorem d_M_make_10 : decode b_M_make 10 = .ok (.iload_n 3, 1) := by decide +kernel
theorem d_M_make_11 : decode b_M_make 11 = .ok (.bipush 10, 2) := by decide +kernel
theorem d_M_make_13 : decode b_M_make 13 = .ok (.if_icmp .gt 16, 3) := by decide +kernel
theorem d_M_make_16 : decode b_M_make 16 = .ok (.iload 4, 2) := by decide +kernel
theorem d_M_make_18 : decode b_M_make 18 = .ok (.iconst 1, 1) := by decide +kernel
theorem d_M_make_19 : decode b_M_make 19 = .ok (.if_icmp .lt 10, 3) := by decide +kernel
theorem d_M_make_22 : decode b_M_make 22 = .ok (.iload 4, 2) := by decide +kernel
theorem d_M_make_24 : decode b_M_make 24 = .ok (.bipush 6, 2) := by decide +kernel
theorem d_M_make_26 : decode b_M_make 26 = .ok (.if_icmp .le 61, 3) := by decide +kernel
theorem d_M_make_29 : decode b_M_make 29 = .ok (.iload_n 2, 1) := by decide +kernel
theorem d_M_make_30 : decode b_M_make 30 = .ok (.iconst 2, 1) := by decide +kernel
theorem d_M_make_31 : decode b_M_make 31 = .ok (.if_icmp .ne 27, 3) := by decide +kernel
theorem d_M_make_34 : decode b_M_make 34 = .ok (.iload_n 3, 1) := by decide +kernel
theorem d_M_make_35 : decode b_M_make 35 = .ok (.iconst 1, 1) := by decide +kernel
theorem d_M_make_36 : decode b_M_make 36 = .ok (.if_icmp .lt 22, 3) := by decide +kernel
theorem d_M_make_39 : decode b_M_make 39 = .ok (.iload_n 3, 1) := by decide +kernel
theorem d_M_make_40 : decode b_M_make 40 = .ok (.bipush 8, 2) := by decide +kernel
theorem d_M_make_42 : decode b_M_make 42 = .ok (.if_icmp .gt 16, 3) := by decide +kernel
theorem d_M_make_45 : decode b_M_make 45 = .ok (.iload 4, 2) := by decide +kernel
theorem d_M_make_47 : decode b_M_make 47 = .ok (.iconst 4, 1) := by decide +kernel
theorem d_M_make_48 : decode b_M_make 48 = .ok (.if_icmp .lt 10, 3) := by decide +kernel
theorem d_M_make_51 : decode b_M_make 51 = .ok (.iload 4, 2) := by decide +kernel
theorem d_M_make_53 : decode b_M_make 53 = .ok (.bipush 16, 2) := by decide +kernel
theorem d_M_make_55 : decode b_M_make 55 = .ok (.if_icmp .le 32, 3) := by decide +kernel
theorem d_M_make_58 : decode b_M_make 58 = .ok (.iload_n 2, 1) := by decide +kernel
theorem d_M_make_59 : decode b_M_make 59 = .ok (.iconst 3, 1) := by decide +kernel
theorem d_M_make_60 : decode b_M_make 60 = .ok (.if_icmp .ne 31, 3) := by decide +kernel
theorem d_M_make_63 : decode b_M_make 63 = .ok (.iload_n 3, 1) := by decide +kernel
theorem d_M_make_64 : decode b_M_make 64 = .ok (.iconst 2, 1) := by decide +kernel
theorem d_M_make_65 : decode b_M_make 65 = .ok (.if_icmp .lt 26, 3) := by decide +kernel
theorem d_M_make_68 : decode b_M_make 68 = .ok (.iload_n 3, 1) := by decide +kernel
theorem d_M_make_69 : decode b_M_make 69 = .ok (.bipush 8, 2) := by decide +kernel
theorem d_M_make_71 : decode b_M_make 71 = .ok (.if_icmp .gt 20, 3) := by decide +kernel
theorem d_M_make_74 : decode b_M_make 74 = .ok (.iload 4, 2) := by decide +kernel
theorem d_M_make_76 : decode b_M_make 76 = .ok (.iconst 4, 1) := by decide +kernel
theorem d_M_make_77 : decode b_M_make 77 = .ok (.if_icmp .lt 14, 3) := by decide +kernel
theorem d_M_make_80 : decode b_M_make 80 = .ok (.iload 4, 2) := by decide +kernel
theorem d_M_make_82 : decode b_M_make 82 = .ok (.bipush 20, 2) := by decide +kernel
theorem d_M_make_84 : decode b_M_make 84 = .ok (.if_icmp .gt 7, 3) := by decide +kernel
theorem d_M_make_87 : decode b_M_make 87 = .ok (.iconst 1, 1) := by decide +kernel
theorem d_M_make_88 : decode b_M_make 88 = .ok (.goto 4, 3) := by decide +kernel
theorem d_M_make_91 : decode b_M_make 91 = .ok (.iconst 0, 1) := by decide +kernel
theorem d_M_make_92 : decode b_M_make 92 = .ok (.istore 5, 2) := by decide +kernel
theorem d_M_make_94 : decode b_M_make 94 = .ok (.aload_n 0, 1) := by decide +kernel
theorem d_M_make_95 : decode b_M_make 95 = .ok (.iload_n 1, 1) := by decide +kernel
theorem d_M_make_96 : decode b_M_make 96 = .ok (.invokestatic 57, 3) := by decide +kernel
theorem d_M_make_99 : decode b_M_make 99 = .ok (.ifCond .ne 7, 3) := by decide +kernel
theorem d_M_make_102 : decode b_M_make 102 = .ok (.iconst 1, 1) := by decide +kernel
theorem d_M_make_103 : decode b_M_make 103 = .ok (.goto 13, 3) := by decide +kernel
theorem d_M_make_106 : decode b_M_make 106 = .ok (.iload 5, 2) := by decide +kernel
theorem d_M_make_108 : decode b_M_make 108 = .ok (.ifCond .ne 7, 3) := by decide +kernel
theorem d_M_make_111 : decode b_M_make 111 = .ok (.iconst 2, 1) := by decide +kernel
theorem d_M_make_112 : decode b_M_make 112 = .ok (.goto 4, 3) := by decide +kernel
theorem d_M_make_115 : decode b_M_make 115 = .ok (.iconst 0, 1) := by decide +kernel
theorem d_M_make_116 : decode b_M_make 116 = .ok (.putfield 43, 3) := by decide +kernel
theorem d_M_make_119 : decode b_M_make 119 = .ok (.aload_n 0, 1) := by decide +kernel
theorem d_M_make_120 : decode b_M_make 120 = .ok (.getfield 43, 3) := by decide +kernel
theorem d_M_make_123 : decode b_M_make 123 = .ok (.ifCond .ne 30, 3) := by decide +kernel
theorem d_M_make_126 : decode b_M_make 126 = .ok (.aload_n 0, 1) := by decide +kernel
theorem d_M_make_127 : decode b_M_make 127 = .ok (.getfield 7, 3) := by decide +kernel
theorem d_M_make_130 : decode b_M_make 130 = .ok (.iload_n 1, 1) := by decide +kernel
theorem d_M_make_131 : decode b_M_make 131 = .ok (.iload_n 2, 1) := by decide +kernel
theorem d_M_make_132 : decode b_M_make 132 = .ok (.iastore, 1) := by decide +kernel
theorem d_M_make_133 : decode b_M_make 133 = .ok (.aload_n 0, 1) := by decide +kernel
theorem d_M_make_134 : decode b_M_make 134 = .ok (.getfield 13, 3) := by decide +kernel
theorem d_M_make_137 : decode b_M_make 137 = .ok (.iload_n 1, 1) := by decide +kernel
theorem d_M_make_138 : decode b_M_make 138 = .ok (.iload_n 3, 1) := by decide +kernel
theorem d_M_make_139 : decode b_M_make 139 = .ok (.iastore, 1) := by decide +kernel
theorem d_M_make_140 : decode b_M_make 140 = .ok (.aload_n 0, 1) := by decide +kernel
theorem d_M_make_141 : decode b_M_make 141 = .ok (.getfield 16, 3) := by decide +kernel
theorem d_M_make_144 : decode b_M_make 144 = .ok (.iload_n 1, 1) := by decide +kernel
theorem d_M_make_145 : decode b_M_make 145 = .ok (.iload 4, 2) := by decide +kernel
theorem d_M_make_147 : decode b_M_make 147 = .ok (.iastore, 1) := by decide +kernel
theorem d_M_make_148 : decode b_M_make 148 = .ok (.aload_n 0, 1) := by decide +kernel
theorem d_M_make_149 : decode b_M_make 149 = .ok (.iload_n 1, 1) := by decide +kernel
theorem d_M_make_150 : decode b_M_make 150 = .ok (.invokevirtual 112, 3) := by decide +kernel
theorem d_M_make_153 : decode b_M_make 153 = .ok (.return_, 1) := by decide +kernel
theorem d_M_empty_0 : decode b_M_empty 0 = .ok (.aload_n 0, 1) := by decide +kernel
theorem d_M_empty_1 : decode b_M_empty 1 = .ok (.getfield 19, 3) := by decide +kernel
theorem d_M_empty_4 : decode b_M_empty 4 = .ok (.iload_n 1, 1) := by decide +kernel
theorem d_M_empty_5 : decode b_M_empty 5 = .ok (.iconst 0, 1) := by decide +kernel
theorem d_M_empty_6 : decode b_M_empty 6 = .ok (.iastore, 1) := by decide +kernel
theorem d_M_empty_7 : decode b_M_empty 7 = .ok (.aload_n 0, 1) := by decide +kernel
theorem d_M_empty_8 : decode b_M_empty 8 = .ok (.getfield 22, 3) := by decide +kernel
theorem d_M_empty_11 : decode b_M_empty 11 = .ok (.iload_n 1, 1) := by decide +kernel
theorem d_M_empty_12 : decode b_M_empty 12 = .ok (.iconst 0, 1) := by decide +kernel
theorem d_M_empty_13 : decode b_M_empty 13 = .ok (.iastore, 1) := by decide +kernel
theorem d_M_empty_14 : decode b_M_empty 14 = .ok (.iconst 0, 1) := by decide +kernel
theorem d_M_empty_15 : decode b_M_empty 15 = .ok (.istore_n 2, 1) := by decide +kernel
theorem d_M_empty_16 : decode b_M_empty 16 = .ok (.iload_n 2, 1) := by decide +kernel
theorem d_M_empty_17 : decode b_M_empty 17 = .ok (.sipush 1024, 3) := by decide +kernel
theorem d_M_empty_20 : decode b_M_empty 20 = .ok (.if_icmp .ge 22, 3) := by decide +kernel
theorem d_M_empty_23 : decode b_M_empty 23 = .ok (.aload_n 0, 1) := by decide +kernel
theorem d_M_empty_24 : decode b_M_empty 24 = .ok (.getfield 25, 3) := by decide +kernel
theorem d_M_empty_27 : decode b_M_empty 27 = .ok (.sipush 1024, 3) := by decide +kernel
theorem d_M_empty_30 : decode b_M_empty 30 = .ok (.iload_n 1, 1) := by decide +kernel
theorem d_M_empty_31 : decode b_M_empty 31 = .ok (.imul, 1) := by decide +kernel
theorem d_M_empty_32 : decode b_M_empty 32 = .ok (.iload_n 2, 1) := by decide +kernel
theorem d_M_empty_33 : decode b_M_empty 33 = .ok (.iadd, 1) := by decide +kernel
theorem d_M_empty_34 : decode b_M_empty 34 = .ok (.iconst 0, 1) := by decide +kernel
theorem d_M_empty_35 : decode b_M_empty 35 = .ok (.iastore, 1) := by decide +kernel
theorem d_M_empty_36 : decode b_M_empty 36 = .ok (.iinc 2 1, 3) := by decide +kernel
theorem d_M_empty_39 : decode b_M_empty 39 = .ok (.goto (-23), 3) := by decide +kernel
theorem d_M_empty_42 : decode b_M_empty 42 = .ok (.return_, 1) := by decide +kernel
theorem d_M_add_0 : decode b_M_add 0 = .ok (.aload_n 0, 1) := by decide +kernel
theorem d_M_add_1 : decode b_M_add 1 = .ok (.aload_n 0, 1) := by decide +kernel
theorem d_M_add_2 : decode b_M_add 2 = .ok (.iload_n 1, 1) := by decide +kernel
theorem d_M_add_3 : decode b_M_add 3 = .ok (.invokevirtual 116, 3) := by decide +kernel
theorem d_M_add_6 : decode b_M_add 6 = .ok (.putfield 43, 3) := by decide +kernel
theorem d_M_add_9 : decode b_M_add 9 = .ok (.aload_n 0, 1) := by decide +kernel
theorem d_M_add_10 : decode b_M_add 10 = .ok (.getfield 43, 3) := by decide +kernel
theorem d_M_add_13 : decode b_M_add 13 = .ok (.ifCond .le 5, 3) := by decide +kernel
theorem d_M_add_16 : decode b_M_add 16 = .ok (.iconst 0, 1) := by decide +kernel
theorem d_M_add_17 : decode b_M_add 17 = .ok (.ireturn, 1) := by decide +kernel
theorem d_M_add_18 : decode b_M_add 18 = .ok (.aload_n 0, 1) := by decide +kernel
theorem d_M_add_19 : decode b_M_add 19 = .ok (.aload_n 0, 1) := by decide +kernel
theorem d_M_add_20 : decode b_M_add 20 = .ok (.iload_n 1, 1) := by decide +kernel
theorem d_M_add_21 : decode b_M_add 21 = .ok (.lload_n 2, 1) := by decide +kernel
theorem d_M_add_22 : decode b_M_add 22 = .ok (.invokevirtual 120, 3) := by decide +kernel
theorem d_M_add_25 : decode b_M_add 25 = .ok (.ifCond .eq 7, 3) := by decide +kernel
theorem d_M_add_28 : decode b_M_add 28 = .ok (.iconst 0, 1) := by decide +kernel
theorem d_M_add_29 : decode b_M_add 29 = .ok (.goto 4, 3) := by decide +kernel
theorem d_M_add_32 : decode b_M_add 32 = .ok (.iconst 3, 1) := by decide +kernel
theorem d_M_add_33 : decode b_M_add 33 = .ok (.putfield 43, 3) := by decide +kernel
theorem d_M_add_36 : decode b_M_add 36 = .ok (.aload_n 0, 1) := by decide +kernel
theorem d_M_add_37 : decode b_M_add 37 = .ok (.getfield 43, 3) := by decide +kernel
theorem d_M_add_40 : decode b_M_add 40 = .ok (.ifCond .le 7, 3) := by decide +kernel
theorem d_M_add_43 : decode b_M_add 43 = .ok (.iconst 0, 1) := by decide +kernel
theorem d_M_add_44 : decode b_M_add 44 = .ok (.goto 9, 3) := by decide +kernel
theorem d_M_add_47 : decode b_M_add 47 = .ok (.aload_n 0, 1) := by decide +kernel
theorem d_M_add_48 : decode b_M_add 48 = .ok (.getfield 19, 3) := by decide +kernel
theorem d_M_add_51 : decode b_M_add 51 = .ok (.iload_n 1, 1) := by decide +kernel
theorem d_M_add_52 : decode b_M_add 52 = .ok (.iaload, 1) := by decide +kernel
theorem d_M_add_53 : decode b_M_add 53 = .ok (.ireturn, 1) := by decide +kernel
theorem d_M_addAll_0 : decode b_M_addAll 0 = .ok (.aload_n 0, 1) := by decide +kernel
theorem d_M_addAll_1 : decode b_M_addAll 1 = .ok (.aload_n 0, 1) := by decide +kernel
theorem d_M_addAll_2 : decode b_M_addAll 2 = .ok (.iload_n 1, 1) := by decide +kernel
theorem d_M_addAll_3 : decode b_M_addAll 3 = .ok (.invokevirtual 116, 3) := by decide +kernel
theorem d_M_addAll_6 : decode b_M_addAll 6 = .ok (.ifCond .le 11, 3) := by decide +kernel
theorem d_M_addAll_9 : decode b_M_addAll 9 = .ok (.aload_n 0, 1) := by decide +kernel
theorem d_M_addAll_10 : decode b_M_addAll 10 = .ok (.iload_n 1, 1) := by decide +kernel
theorem d_M_addAll_11 : decode b_M_addAll 11 = .ok (.invokevirtual 116, 3) := by decide +kernel
theorem d_M_addAll_14 : decode b_M_addAll 14 = .ok (.goto 21, 3) := by decide +kernel
theorem d_M_addAll_17 : decode b_M_addAll 17 = .ok (.iload 6, 2) := by decide +kernel
theorem d_M_addAll_19 : decode b_M_addAll 19 = .ok (.ifCond .lt 11, 3) := by decide +kernel
theorem d_M_addAll_22 : decode b_M_addAll 22 = .ok (.iload 6, 2) := by decide +kernel
theorem d_M_addAll_24 : decode b_M_addAll 24 = .ok (.sipush 400, 3) := by decide +kernel
theorem d_M_addAll_27 : decode b_M_addAll 27 = .ok (.if_icmp .le 7, 3) := by decide +kernel
theorem d_M_addAll_30 : decode b_M_addAll 30 = .ok (.iconst 3, 1) := by decide +kernel
theorem d_M_addAll_31 : decode b_M_addAll 31 = .ok (.goto 4, 3) := by decide +kernel
theorem d_M_addAll_34 : decode b_M_addAll 34 = .ok (.iconst 0, 1) := by decide +kernel
theorem d_M_addAll_35 : decode b_M_addAll 35 = .ok (.putfield 43, 3) := by decide +kernel
theorem d_M_addAll_38 : decode b_M_addAll 38 = .ok (.aload_n 0, 1) := by decide +kernel
theorem d_M_addAll_39 : decode b_M_addAll 39 = .ok (.getfield 43, 3) := by decide +kernel
theorem d_M_addAll_42 : decode b_M_addAll 42 = .ok (.ifCond .le 5, 3) := by decide +kernel
theorem d_M_addAll_45 : decode b_M_addAll 45 = .ok (.iconst 0, 1) := by decide +kernel
theorem d_M_addAll_46 : decode b_M_addAll 46 = .ok (.ireturn, 1) := by decide +kernel
theorem d_M_addAll_47 : decode b_M_addAll 47 = .ok (.iconst 0, 1) := by decide +kernel
theorem d_M_addAll_48 : decode b_M_addAll 48 = .ok (.istore 7, 2) := by decide +kernel
theorem d_M_addAll_50 : decode b_M_addAll 50 = .ok (.iload 7, 2) := by decide +kernel
theorem d_M_addAll_52 : decode b_M_addAll 52 = .ok (.iload 6, 2) := by decide +kernel
theorem d_M_addAll_54 : decode b_M_addAll 54 = .ok (.if_icmp .ge 25, 3) := by decide +kernel
theorem d_M_addAll_57 : decode b_M_addAll 57 = .ok (.aload_n 0, 1) := by decide +kernel
theorem d_M_addAll_58 : decode b_M_addAll 58 = .ok (.iload_n 1, 1) := by decide +kernel
theorem d_M_addAll_59 : decode b_M_addAll 59 = .ok (.lload_n 2, 1) := by decide +kernel
theorem d_M_addAll_60 : decode b_M_addAll 60 = .ok (.iload 7, 2) := by decide +kernel
theorem d_M_addAll_62 : decode b_M_addAll 62 = .ok (.i2l, 1) := by decide +kernel
theorem d_M_addAll_63 : decode b_M_addAll 63 = .ok (.lload 4, 2) := by decide +kernel
theorem d_M_addAll_65 : decode b_M_addAll 65 = .ok (.lmul, 1) := by decide +kernel
theorem d_M_addAll_66 : decode b_M_addAll 66 = .ok (.ladd, 1) := by decide +kernel
theorem d_M_addAll_67 : decode b_M_addAll 67 = .ok (.invokevirtual 120, 3) := by decide +kernel
theorem d_M_addAll_70 : decode b_M_addAll 70 = .ok (.ifCond .eq 9, 3) := by decide +kernel
theorem d_M_addAll_73 : decode b_M_addAll 73 = .ok (.iinc 7 1, 3) := by decide +kernel
theorem d_M_addAll_76 : decode b_M_addAll 76 = .ok (.goto (-26), 3) := by decide +kernel
theorem d_M_addAll_79 : decode b_M_addAll 79 = .ok (.iload 7, 2) := by decide +kernel
theorem d_M_addAll_81 : decode b_M_addAll 81 = .ok (.ireturn, 1) := by decide +kernel
theorem d_M_remove_0 : decode b_M_remove 0 = .ok (.aload_n 0, 1) := by decide +kernel
theorem d_M_remove_1 : decode b_M_remove 1 = .ok (.aload_n 0, 1) := by decide +kernel
theorem d_M_remove_2 : decode b_M_remove 2 = .ok (.iload_n 1, 1) := by decide +kernel
theorem d_M_remove_3 : decode b_M_remove 3 = .ok (.invokevirtual 116, 3) := by decide +kernel
theorem d_M_remove_6 : decode b_M_remove 6 = .ok (.putfield 43, 3) := by decide +kernel
theorem d_M_remove_9 : decode b_M_remove 9 = .ok (.aload_n 0, 1) := by decide +kernel
theorem d_M_remove_10 : decode b_M_remove 10 = .ok (.getfield 43, 3) := by decide +kernel
theorem d_M_remove_13 : decode b_M_remove 13 = .ok (.ifCond .le 5, 3) := by decide +kernel
theorem d_M_remove_16 : decode b_M_remove 16 = .ok (.iconst 0, 1) := by decide +kernel
theorem d_M_remove_17 : decode b_M_remove 17 = .ok (.ireturn, 1) := by decide +kernel
theorem d_M_remove_18 : decode b_M_remove 18 = .ok (.iconst 0, 1) := by decide +kernel
theorem d_M_remove_19 : decode b_M_remove 19 = .ok (.istore 4, 2) := by decide +kernel
theorem d_M_remove_21 : decode b_M_remove 21 = .ok (.aload_n 0, 1) := by decide +kernel
theorem d_M_remove_22 : decode b_M_remove 22 = .ok (.getfield 7, 3) := by decide +kernel
theorem d_M_remove_25 : decode b_M_remove 25 = .ok (.iload_n 1, 1) := by decide +kernel
theorem d_M_remove_26 : decode b_M_remove 26 = .ok (.iaload, 1) := by decide +kernel
theorem d_M_remove_27 : decode b_M_remove 27 = .ok (.iconst 1, 1) := by decide +kernel
theorem d_M_remove_28 : decode b_M_remove 28 = .ok (.if_icmp .ne 15, 3) := by decide +kernel
theorem d_M_remove_31 : decode b_M_remove 31 = .ok (.aload_n 0, 1) := by decide +kernel
theorem d_M_remove_32 : decode b_M_remove 32 = .ok (.iload_n 1, 1) := by decide +kernel
theorem d_M_remove_33 : decode b_M_remove 33 = .ok (.lload_n 2, 1) := by decide +kernel
theorem d_M_remove_34 : decode b_M_remove 34 = .ok (.iconst (-1), 1) := by decide +kernel
theorem d_M_remove_35 : decode b_M_remove 35 = .ok (.invokevirtual 101, 3) := by decide +kernel
theorem d_M_remove_38 : decode b_M_remove 38 = .ok (.istore 4, 2) := by decide +kernel
theorem d_M_remove_40 : decode b_M_remove 40 = .ok (.goto 193, 3) := by decide +kernel
theorem d_M_remove_43 : decode b_M_remove 43 = .ok (.aload_n 0, 1) := by decide +kernel
theorem d_M_remove_44 : decode b_M_remove 44 = .ok (.getfield 7, 3) := by decide +kernel
theorem d_M_remove_47 : decode b_M_remove 47 = .ok (.iload_n 1, 1) := by decide +kernel
theorem d_M_remove_48 : decode b_M_remove 48 = .ok (.iaload, 1) := by decide +kernel
theorem d_M_remove_49 : decode b_M_remove 49 = .ok (.iconst 2, 1) := by decide +kernel
theorem d_M_remove_50 : decode b_M_remove 50 = .ok (.if_icmp .ne 102, 3) := by decide +kernel
theorem d_M_remove_53 : decode b_M_remove 53 = .ok (.aload_n 0, 1) := by decide +kernel
theorem d_M_remove_54 : decode b_M_remove 54 = .ok (.iload_n 1, 1) := by decide +kernel
theorem d_M_remove_55 : decode b_M_remove 55 = .ok (.lload_n 2, 1) := by decide +kernel
theorem d_M_remove_56 : decode b_M_remove 56 = .ok (.invokevirtual 67, 3) := by decide +kernel
theorem d_M_remove_59 : decode b_M_remove 59 = .ok (.istore 5, 2) := by decide +kernel
theorem d_M_remove_61 : decode b_M_remove 61 = .ok (.aload_n 0, 1) := by decide +kernel
theorem d_M_remove_62 : decode b_M_remove 62 = .ok (.iload_n 1, 1) := by decide +kernel
theorem d_M_remove_63 : decode b_M_remove 63 = .ok (.lload_n 2, 1) := by decide +kernel
theorem d_M_remove_64 : decode b_M_remove 64 = .ok (.invokevirtual 71, 3) := by decide +kernel
theorem d_M_remove_67 : decode b_M_remove 67 = .ok (.istore 6, 2) := by decide +kernel
theorem d_M_remove_69 : decode b_M_remove 69 = .ok (.aload_n 0, 1) := by decide +kernel
theorem d_M_remove_70 : decode b_M_remove 70 = .ok (.aload_n 0, 1) := by decide +kernel
theorem d_M_remove_71 : decode b_M_remove 71 = .ok (.getfield 25, 3) := by decide +kernel
theorem d_M_remove_74 : decode b_M_remove 74 = .ok (.sipush 1024, 3) := by decide +kernel
theorem d_M_remove_77 : decode b_M_remove 77 = .ok (.iload_n 1, 1) := by decide +kernel
theorem d_M_remove_78 : decode b_M_remove 78 = .ok (.imul, 1) := by decide +kernel
theorem d_M_remove_79 : decode b_M_remove 79 = .ok (.iload 6, 2) := by decide +kernel
theorem d_M_remove_81 : decode b_M_remove 81 = .ok (.iload 5, 2) := by decide +kernel
theorem d_M_remove_83 : decode b_M_remove 83 = .ok (.invokevirtual 74, 3) := by decide +kernel
theorem d_M_remove_86 : decode b_M_remove 86 = .ok (.istore 7, 2) := by decide +kernel
theorem d_M_remove_88 : decode b_M_remove 88 = .ok (.iload 7, 2) := by decide +kernel
theorem d_M_remove_90 : decode b_M_remove 90 = .ok (.ifCond .lt 8, 3) := by decide +kernel
theorem d_M_remove_93 : decode b_M_remove 93 = .ok (.iload 7, 2) := by decide +kernel
theorem d_M_remove_95 : decode b_M_remove 95 = .ok (.goto 27, 3) := by decide +kernel
theorem d_M_remove_98 : decode b_M_remove 98 = .ok (.aload_n 0, 1) := by decide +kernel
theorem d_M_remove_99 : decode b_M_remove 99 = .ok (.aload_n 0, 1) := by decide +kernel
theorem d_M_remove_100 : decode b_M_remove 100 = .ok (.getfield 25, 3) := by decide +kernel
theorem d_M_remove_103 : decode b_M_remove 103 = .ok (.sipush 1024, 3) := by decide +kernel
theorem d_M_remove_106 : decode b_M_remove 106 = .ok (.iload_n 1, 1) := by decide +kernel
theorem d_M_remove_107 : decode b_M_remove 107 = .ok (.imul, 1) := by decide +kernel
theorem d_M_remove_108 : decode b_M_remove 108 = .ok (.aload_n 0, 1) := by decide +kernel
theorem d_M_remove_109 : decode b_M_remove 109 = .ok (.iload_n 1, 1) := by decide +kernel
theorem d_M_remove_110 : decode b_M_remove 110 = .ok (.iload 5, 2) := by decide +kernel
theorem d_M_remove_112 : decode b_M_remove 112 = .ok (.iload 6, 2) := by decide +kernel
theorem d_M_remove_114 : decode b_M_remove 114 = .ok (.invokevirtual 78, 3) := by decide +kernel
theorem d_M_remove_117 : decode b_M_remove 117 = .ok (.iload 5, 2) := by decide +kernel
theorem d_M_remove_119 : decode b_M_remove 119 = .ok (.invokevirtual 74, 3) := by decide +kernel
theorem d_M_remove_122 : decode b_M_remove 122 = .ok (.istore 7, 2) := by decide +kernel
theorem d_M_remove_124 : decode b_M_remove 124 = .ok (.iload 7, 2) := by decide +kernel
theorem d_M_remove_126 : decode b_M_remove 126 = .ok (.ifCond .lt 7, 3) := by decide +kernel
theorem d_M_remove_129 : decode b_M_remove 129 = .ok (.iconst 1, 1) := by decide +kernel
theorem d_M_remove_130 : decode b_M_remove 130 = .ok (.goto 4, 3) := by decide +kernel
theorem d_M_remove_133 : decode b_M_remove 133 = .ok (.iconst 0, 1) := by decide +kernel
theorem d_M_remove_134 : decode b_M_remove 134 = .ok (.istore 4, 2) := by decide +kernel
theorem d_M_remove_136 : decode b_M_remove 136 = .ok (.iload 4, 2) := by decide +kernel
theorem d_M_remove_138 : decode b_M_remove 138 = .ok (.ifCond .eq 11, 3) := by decide +kernel
theorem d_M_remove_141 : decode b_M_remove 141 = .ok (.aload_n 0, 1) := by decide +kernel
theorem d_M_remove_142 : decode b_M_remove 142 = .ok (.getfield 25, 3) := by decide +kernel
theorem d_M_remove_145 : decode b_M_remove 145 = .ok (.iload 7, 2) := by decide +kernel
theorem d_M_remove_147 : decode b_M_remove 147 = .ok (.iconst 0, 1) := by decide +kernel
theorem d_M_remove_148 : decode b_M_remove 148 = .ok (.iastore, 1) := by decide +kernel
theorem d_M_remove_149 : decode b_M_remove 149 = .ok (.goto 84, 3) := by decide +kernel
theorem d_M_remove_152 : decode b_M_remove 152 = .ok (.aload_n 0, 1) := by decide +kernel
theorem d_M_remove_153 : decode b_M_remove 153 = .ok (.iload_n 1, 1) := by decide +kernel
theorem d_M_remove_154 : decode b_M_remove 154 = .ok (.aload_n 0, 1) := by decide +kernel
theorem d_M_remove_155 : decode b_M_remove 155 = .ok (.iload_n 1, 1) := by decide +kernel
theorem d_M_remove_156 : decode b_M_remove 156 = .ok (.lload_n 2, 1) := by decide +kernel
theorem d_M_remove_157 : decode b_M_remove 157 = .ok (.invokevirtual 82, 3) := by decide +kernel
theorem d_M_remove_160 : decode b_M_remove 160 = .ok (.invokevirtual 85, 3) := by decide +kernel
theorem d_M_remove_163 : decode b_M_remove 163 = .ok (.istore 5, 2) := by decide +kernel
theorem d_M_remove_165 : decode b_M_remove 165 = .ok (.iload 5, 2) := by decide +kernel
theorem d_M_remove_167 : decode b_M_remove 167 = .ok (.ifCond .lt 7, 3) := by decide +kernel
theorem d_M_remove_170 : decode b_M_remove 170 = .ok (.iconst 1, 1) := by decide +kernel
theorem d_M_remove_171 : decode b_M_remove 171 = .ok (.goto 4, 3) := by decide +kernel
theorem d_M_remove_174 : decode b_M_remove 174 = .ok (.iconst 0, 1) := by decide +kernel
theorem d_M_remove_175 : decode b_M_remove 175 = .ok (.istore 4, 2) := by decide +kernel
theorem d_M_remove_177 : decode b_M_remove 177 = .ok (.iload 5, 2) := by decide +kernel
theorem d_M_remove_179 : decode b_M_remove 179 = .ok (.istore 6, 2) := by decide +kernel
theorem d_M_remove_181 : decode b_M_remove 181 = .ok (.iload 4, 2) := by decide +kernel
theorem d_M_remove_183 : decode b_M_remove 183 = .ok (.ifCond .eq 50, 3) := by decide +kernel
theorem d_M_remove_186 : decode b_M_remove 186 = .ok (.iload 6, 2) := by decide +kernel
theorem d_M_remove_188 : decode b_M_remove 188 = .ok (.iconst 1, 1) := by decide +kernel
theorem d_M_remove_189 : decode b_M_remove 189 = .ok (.iadd, 1) := by decide +kernel
theorem d_M_remove_190 : decode b_M_remove 190 = .ok (.aload_n 0, 1) := by decide +kernel
theorem d_M_remove_191 : decode b_M_remove 191 = .ok (.getfield 19, 3) := by decide +kernel
theorem d_M_remove_194 : decode b_M_remove 194 = .ok (.iload_n 1, 1) := by decide +kernel
theorem d_M_remove_195 : decode b_M_remove 195 = .ok (.iaload, 1) := by decide +kernel
theorem d_M_remove_196 : decode b_M_remove 196 = .ok (.if_icmp .ge 37, 3) := by decide +kernel
theorem d_M_remove_199 : decode b_M_remove 199 = .ok (.aload_n 0, 1) := by decide +kernel
theorem d_M_remove_200 : decode b_M_remove 200 = .ok (.getfield 28, 3) := by decide +kernel
theorem d_M_remove_203 : decode b_M_remove 203 = .ok (.sipush 256, 3) := by decide +kernel
theorem d_M_remove_206 : decode b_M_remove 206 = .ok (.iload_n 1, 1) := by decide +kernel
theorem d_M_remove_207 : decode b_M_remove 207 = .ok (.imul, 1) := by decide +kernel
theorem d_M_remove_208 : decode b_M_remove 208 = .ok (.iload 6, 2) := by decide +kernel
theorem d_M_remove_210 : decode b_M_remove 210 = .ok (.iadd, 1) := by decide +kernel
theorem d_M_remove_211 : decode b_M_remove 211 = .ok (.aload_n 0, 1) := by decide +kernel
theorem d_M_remove_212 : decode b_M_remove 212 = .ok (.getfield 28, 3) := by decide +kernel
theorem d_M_remove_215 : decode b_M_remove 215 = .ok (.sipush 256, 3) := by decide +kernel
theorem d_M_remove_218 : decode b_M_remove 218 = .ok (.iload_n 1, 1) := by decide +kernel
theorem d_M_remove_219 : decode b_M_remove 219 = .ok (.imul, 1) := by decide +kernel
theorem d_M_remove_220 : decode b_M_remove 220 = .ok (.iload 6, 2) := by decide +kernel
theorem d_M_remove_222 : decode b_M_remove 222 = .ok (.iadd, 1) := by decide +kernel
theorem d_M_remove_223 : decode b_M_remove 223 = .ok (.iconst 1, 1) := by decide +kernel
theorem d_M_remove_224 : decode b_M_remove 224 = .ok (.iadd, 1) := by decide +kernel
theorem d_M_remove_225 : decode b_M_remove 225 = .ok (.iaload, 1) := by decide +kernel
theorem d_M_remove_226 : decode b_M_remove 226 = .ok (.iastore, 1) := by decide +kernel
theorem d_M_remove_227 : decode b_M_remove 227 = .ok (.iinc 6 1, 3) := by decide +kernel
theorem d_M_remove_230 : decode b_M_remove 230 = .ok (.goto (-49), 3) := by decide +kernel
theorem d_M_remove_233 : decode b_M_remove 233 = .ok (.aload_n 0, 1) := by decide +kernel
theorem d_M_remove_234 : decode b_M_remove 234 = .ok (.iload 4, 2) := by decide +kernel
theorem d_M_remove_236 : decode b_M_remove 236 = .ok (.ifCond .eq 7, 3) := by decide +kernel
theorem d_M_remove_239 : decode b_M_remove 239 = .ok (.iconst 0, 1) := by decide +kernel
theorem d_M_remove_240 : decode b_M_remove 240 = .ok (.goto 4, 3) := by decide +kernel
theorem d_M_remove_243 : decode b_M_remove 243 = .ok (.iconst 3, 1) := by decide +kernel
theorem d_M_remove_244 : decode b_M_remove 244 = .ok (.putfield 43, 3) := by decide +kernel
theorem d_M_remove_247 : decode b_M_remove 247 = .ok (.aload_n 0, 1) := by decide +kernel
theorem d_M_remove_248 : decode b_M_remove 248 = .ok (.getfield 19, 3) := by decide +kernel
theorem d_M_remove_251 : decode b_M_remove 251 = .ok (.iload_n 1, 1) := by decide +kernel
theorem d_M_remove_252 : decode b_M_remove 252 = .ok (.iload 4, 2) := by decide +kernel
theorem d_M_remove_254 : decode b_M_remove 254 = .ok (.ifCond .eq 14, 3) := by decide +kernel
theorem d_M_remove_257 : decode b_M_remove 257 = .ok (.aload_n 0, 1) := by decide +kernel
theorem d_M_remove_258 : decode b_M_remove 258 = .ok (.getfield 19, 3) := by decide +kernel
theorem d_M_remove_261 : decode b_M_remove 261 = .ok (.iload_n 1, 1) := by decide +kernel
theorem d_M_remove_262 : decode b_M_remove 262 = .ok (.iaload, 1) := by decide +kernel
theorem d_M_remove_263 : decode b_M_remove 263 = .ok (.iconst 1, 1) := by decide +kernel
theorem d_M_remove_264 : decode b_M_remove 264 = .ok (.isub, 1) := by decide +kernel
theorem d_M_remove_265 : decode b_M_remove 265 = .ok (.goto 9, 3) := by decide +kernel
theorem d_M_remove_268 : decode b_M_remove 268 = .ok (.aload_n 0, 1) := by decide +kernel
theorem d_M_remove_269 : decode b_M_remove 269 = .ok (.getfield 19, 3) := by decide +kernel
theorem d_M_remove_272 : decode b_M_remove 272 = .ok (.iload_n 1, 1) := by decide +kernel
theorem d_M_remove_273 : decode b_M_remove 273 = .ok (.iaload, 1) := by decide +kernel
theorem d_M_remove_274 : decode b_M_remove 274 = .ok (.iastore, 1) := by decide +kernel
theorem d_M_remove_275 : decode b_M_remove 275 = .ok (.iload 4, 2) := by decide +kernel
theorem d_M_remove_277 : decode b_M_remove 277 = .ok (.ifCond .eq 12, 3) := by decide +kernel
theorem d_M_remove_280 : decode b_M_remove 280 = .ok (.aload_n 0, 1) := by decide +kernel
theorem d_M_remove_281 : decode b_M_remove 281 = .ok (.getfield 19, 3) := by decide +kernel
theorem d_M_remove_284 : decode b_M_remove 284 = .ok (.iload_n 1, 1) := by decide +kernel
theorem d_M_remove_285 : decode b_M_remove 285 = .ok (.iaload, 1) := by decide +kernel
theorem d_M_remove_286 : decode b_M_remove 286 = .ok (.goto 4, 3) := by decide +kernel
theorem d_M_remove_289 : decode b_M_remove 289 = .ok (.iconst 0, 1) := by decide +kernel
theorem d_M_remove_290 : decode b_M_remove 290 = .ok (.ireturn, 1) := by decide +kernel
theorem d_M_has_0 : decode b_M_has 0 = .ok (.aload_n 0, 1) := by decide +kernel
theorem d_M_has_1 : decode b_M_has 1 = .ok (.aload_n 0, 1) := by decide +kernel
theorem d_M_has_2 : decode b_M_has 2 = .ok (.iload_n 1, 1) := by decide +kernel
theorem d_M_has_3 : decode b_M_has 3 = .ok (.invokevirtual 116, 3) := by decide +kernel
theorem d_M_has_6 : decode b_M_has 6 = .ok (.putfield 43, 3) := by decide +kernel
theorem d_M_has_9 : decode b_M_has 9 = .ok (.aload_n 0, 1) := by decide +kernel
theorem d_M_has_10 : decode b_M_has 10 = .ok (.getfield 43, 3) := by decide +kernel
theorem d_M_has_13 : decode b_M_has 13 = .ok (.ifCond .ne 16, 3) := by decide +kernel
theorem d_M_has_16 : decode b_M_has 16 = .ok (.aload_n 0, 1) := by decide +kernel
theorem d_M_has_17 : decode b_M_has 17 = .ok (.iload_n 1, 1) := by decide +kernel
theorem d_M_has_18 : decode b_M_has 18 = .ok (.lload_n 2, 1) := by decide +kernel
theorem d_M_has_19 : decode b_M_has 19 = .ok (.invokevirtual 123, 3) := by decide +kernel
theorem d_M_has_22 : decode b_M_has 22 = .ok (.ifCond .eq 7, 3) := by decide +kernel
theorem d_M_has_25 : decode b_M_has 25 = .ok (.iconst 1, 1) := by decide +kernel
theorem d_M_has_26 : decode b_M_has 26 = .ok (.goto 4, 3) := by decide +kernel
theorem d_M_has_29 : decode b_M_has 29 = .ok (.iconst 0, 1) := by decide +kernel
theorem d_M_has_30 : decode b_M_has 30 = .ok (.ireturn, 1) := by decide +kernel
theorem d_M_hasAll_0 : decode b_M_hasAll 0 = .ok (.aload_n 0, 1) := by decide +kernel
theorem d_M_hasAll_1 : decode b_M_hasAll 1 = .ok (.aload_n 0, 1) := by decide +kernel
theorem d_M_hasAll_2 : decode b_M_hasAll 2 = .ok (.iload_n 1, 1) := by decide +kernel
theorem d_M_hasAll_3 : decode b_M_hasAll 3 = .ok (.invokevirtual 116, 3) := by decide +kernel
theorem d_M_hasAll_6 : decode b_M_hasAll 6 = .ok (.ifCond .le 11, 3) := by decide +kernel
theorem d_M_hasAll_9 : decode b_M_hasAll 9 = .ok (.aload_n 0, 1) := by decide +kernel
theorem d_M_hasAll_10 : decode b_M_hasAll 10 = .ok (.iload_n 1, 1) := by decide +kernel
theorem d_M_hasAll_11 : decode b_M_hasAll 11 = .ok (.invokevirtual 116, 3) := by decide +kernel
theorem d_M_hasAll_14 : decode b_M_hasAll 14 = .ok (.goto 21, 3) := by decide +kernel
theorem d_M_hasAll_17 : decode b_M_hasAll 17 = .ok (.iload 6, 2) := by decide +kernel
theorem d_M_hasAll_19 : decode b_M_hasAll 19 = .ok (.ifCond .lt 11, 3) := by decide +kernel
theorem d_M_hasAll_22 : decode b_M_hasAll 22 = .ok (.iload 6, 2) := by decide +kernel
theorem d_M_hasAll_24 : decode b_M_hasAll 24 = .ok (.sipush 400, 3) := by decide +kernel
theorem d_M_hasAll_27 : decode b_M_hasAll 27 = .ok (.if_icmp .le 7, 3) := by decide +kernel
theorem d_M_hasAll_30 : decode b_M_hasAll 30 = .ok (.iconst 3, 1) := by decide +kernel
theorem d_M_hasAll_31 : decode b_M_hasAll 31 = .ok (.goto 4, 3) := by decide +kernel
theorem d_M_hasAll_34 : decode b_M_hasAll 34 = .ok (.iconst 0, 1) := by decide +kernel
theorem d_M_hasAll_35 : decode b_M_hasAll 35 = .ok (.putfield 43, 3) := by decide +kernel
theorem d_M_hasAll_38 : decode b_M_hasAll 38 = .ok (.iconst 0, 1) := by decide +kernel
theorem d_M_hasAll_39 : decode b_M_hasAll 39 = .ok (.istore 7, 2) := by decide +kernel
theorem d_M_hasAll_41 : decode b_M_hasAll 41 = .ok (.iconst 0, 1) := by decide +kernel
theorem d_M_hasAll_42 : decode b_M_hasAll 42 = .ok (.istore 8, 2) := by decide +kernel
theorem d_M_hasAll_44 : decode b_M_hasAll 44 = .ok (.aload_n 0, 1) := by decide +kernel
theorem d_M_hasAll_45 : decode b_M_hasAll 45 = .ok (.getfield 43, 3) := by decide +kernel
theorem d_M_hasAll_48 : decode b_M_hasAll 48 = .ok (.ifCond .ne 43, 3) := by decide +kernel
theorem d_M_hasAll_51 : decode b_M_hasAll 51 = .ok (.iload 8, 2) := by decide +kernel
theorem d_M_hasAll_53 : decode b_M_hasAll 53 = .ok (.iload 6, 2) := by decide +kernel
theorem d_M_hasAll_55 : decode b_M_hasAll 55 = .ok (.if_icmp .ge 36, 3) := by decide +kernel
theorem d_M_hasAll_58 : decode b_M_hasAll 58 = .ok (.aload_n 0, 1) := by decide +kernel
theorem d_M_hasAll_59 : decode b_M_hasAll 59 = .ok (.iload_n 1, 1) := by decide +kernel
theorem d_M_hasAll_60 : decode b_M_hasAll 60 = .ok (.lload_n 2, 1) := by decide +kernel
theorem d_M_hasAll_61 : decode b_M_hasAll 61 = .ok (.iload 8, 2) := by decide +kernel
theorem d_M_hasAll_63 : decode b_M_hasAll 63 = .ok (.i2l, 1) := by decide +kernel
theorem d_M_hasAll_64 : decode b_M_hasAll 64 = .ok (.lload 4, 2) := by decide +kernel
theorem d_M_hasAll_66 : decode b_M_hasAll 66 = .ok (.lmul, 1) := by decide +kernel
theorem d_M_hasAll_67 : decode b_M_hasAll 67 = .ok (.ladd, 1) := by decide +kernel
theorem d_M_hasAll_68 : decode b_M_hasAll 68 = .ok (.invokevirtual 123, 3) := by decide +kernel
theorem d_M_hasAll_71 : decode b_M_hasAll 71 = .ok (.ifCond .eq 10, 3) := by decide +kernel
theorem d_M_hasAll_74 : decode b_M_hasAll 74 = .ok (.iload 7, 2) := by decide +kernel
theorem d_M_hasAll_76 : decode b_M_hasAll 76 = .ok (.iconst 1, 1) := by decide +kernel
theorem d_M_hasAll_77 : decode b_M_hasAll 77 = .ok (.iadd, 1) := by decide +kernel
theorem d_M_hasAll_78 : decode b_M_hasAll 78 = .ok (.goto 5, 3) := by decide +kernel
theorem d_M_hasAll_81 : decode b_M_hasAll 81 = .ok (.iload 7, 2) := by decide +kernel
theorem d_M_hasAll_83 : decode b_M_hasAll 83 = .ok (.istore 7, 2) := by decide +kernel
theorem d_M_hasAll_85 : decode b_M_hasAll 85 = .ok (.iinc 8 1, 3) := by decide +kernel
theorem d_M_hasAll_88 : decode b_M_hasAll 88 = .ok (.goto (-44), 3) := by decide +kernel
theorem d_M_hasAll_91 : decode b_M_hasAll 91 = .ok (.iload 7, 2) := by decide +kernel
theorem d_M_hasAll_93 : decode b_M_hasAll 93 = .ok (.ireturn, 1) := by decide +kernel
theorem d_M_same_0 : decode b_M_same 0 = .ok (.aload_n 0, 1) := by decide +kernel
theorem d_M_same_1 : decode b_M_same 1 = .ok (.aload_n 0, 1) := by decide +kernel
theorem d_M_same_2 : decode b_M_same 2 = .ok (.iload_n 1, 1) := by decide +kernel
theorem d_M_same_3 : decode b_M_same 3 = .ok (.invokevirtual 116, 3) := by decide +kernel
theorem d_M_same_6 : decode b_M_same 6 = .ok (.putfield 43, 3) := by decide +kernel
theorem d_M_same_9 : decode b_M_same 9 = .ok (.aload_n 0, 1) := by decide +kernel
theorem d_M_same_10 : decode b_M_same 10 = .ok (.getfield 43, 3) := by decide +kernel
theorem d_M_same_13 : decode b_M_same 13 = .ok (.ifCond .le 5, 3) := by decide +kernel
theorem d_M_same_16 : decode b_M_same 16 = .ok (.iconst 0, 1) := by decide +kernel
theorem d_M_same_17 : decode b_M_same 17 = .ok (.ireturn, 1) := by decide +kernel
theorem d_M_same_18 : decode b_M_same 18 = .ok (.aload_n 0, 1) := by decide +kernel
theorem d_M_same_19 : decode b_M_same 19 = .ok (.getfield 7, 3) := by decide +kernel
theorem d_M_same_22 : decode b_M_same 22 = .ok (.iload_n 1, 1) := by decide +kernel
theorem d_M_same_23 : decode b_M_same 23 = .ok (.iaload, 1) := by decide +kernel
theorem d_M_same_24 : decode b_M_same 24 = .ok (.iconst 3, 1) := by decide +kernel
theorem d_M_same_25 : decode b_M_same 25 = .ok (.if_icmp .ne 25, 3) := by decide +kernel
theorem d_M_same_28 : decode b_M_same 28 = .ok (.aload_n 0, 1) := by decide +kernel
theorem d_M_same_29 : decode b_M_same 29 = .ok (.iload_n 1, 1) := by decide +kernel
theorem d_M_same_30 : decode b_M_same 30 = .ok (.lload_n 2, 1) := by decide +kernel
theorem d_M_same_31 : decode b_M_same 31 = .ok (.invokevirtual 82, 3) := by decide +kernel
theorem d_M_same_34 : decode b_M_same 34 = .ok (.aload_n 0, 1) := by decide +kernel
theorem d_M_same_35 : decode b_M_same 35 = .ok (.iload_n 1, 1) := by decide +kernel
theorem d_M_same_36 : decode b_M_same 36 = .ok (.lload 4, 2) := by decide +kernel
theorem d_M_same_38 : decode b_M_same 38 = .ok (.invokevirtual 82, 3) := by decide +kernel
theorem d_M_same_41 : decode b_M_same 41 = .ok (.if_icmp .ne 7, 3) := by decide +kernel
theorem d_M_same_44 : decode b_M_same 44 = .ok (.iconst 1, 1) := by decide +kernel
theorem d_M_same_45 : decode b_M_same 45 = .ok (.goto 4, 3) := by decide +kernel
theorem d_M_same_48 : decode b_M_same 48 = .ok (.iconst 0, 1) := by decide +kernel
theorem d_M_same_49 : decode b_M_same 49 = .ok (.ireturn, 1) := by decide +kernel
theorem d_M_same_50 : decode b_M_same 50 = .ok (.aload_n 0, 1) := by decide +kernel
theorem d_M_same_51 : decode b_M_same 51 = .ok (.getfield 7, 3) := by decide +kernel
theorem d_M_same_54 : decode b_M_same 54 = .ok (.iload_n 1, 1) := by decide +kernel
theorem d_M_same_55 : decode b_M_same 55 = .ok (.iaload, 1) := by decide +kernel
theorem d_M_same_56 : decode b_M_same 56 = .ok (.iconst 2, 1) := by decide +kernel
theorem d_M_same_57 : decode b_M_same 57 = .ok (.if_icmp .ne 67, 3) := by decide +kernel
theorem d_M_same_60 : decode b_M_same 60 = .ok (.aload_n 0, 1) := by decide +kernel
theorem d_M_same_61 : decode b_M_same 61 = .ok (.iload_n 1, 1) := by decide +kernel
theorem d_M_same_62 : decode b_M_same 62 = .ok (.lload_n 2, 1) := by decide +kernel
theorem d_M_same_63 : decode b_M_same 63 = .ok (.invokevirtual 67, 3) := by decide +kernel
theorem d_M_same_66 : decode b_M_same 66 = .ok (.istore 6, 2) := by decide +kernel
theorem d_M_same_68 : decode b_M_same 68 = .ok (.aload_n 0, 1) := by decide +kernel
theorem d_M_same_69 : decode b_M_same 69 = .ok (.iload_n 1, 1) := by decide +kernel
theorem d_M_same_70 : decode b_M_same 70 = .ok (.lload_n 2, 1) := by decide +kernel
theorem d_M_same_71 : decode b_M_same 71 = .ok (.invokevirtual 71, 3) := by decide +kernel
theorem d_M_same_74 : decode b_M_same 74 = .ok (.istore 7, 2) := by decide +kernel
theorem d_M_same_76 : decode b_M_same 76 = .ok (.aload_n 0, 1) := by decide +kernel
theorem d_M_same_77 : decode b_M_same 77 = .ok (.iload_n 1, 1) := by decide +kernel
theorem d_M_same_78 : decode b_M_same 78 = .ok (.lload 4, 2) := by decide +kernel
theorem d_M_same_80 : decode b_M_same 80 = .ok (.invokevirtual 71, 3) := by decide +kernel
theorem d_M_same_83 : decode b_M_same 83 = .ok (.istore 8, 2) := by decide +kernel
theorem d_M_same_85 : decode b_M_same 85 = .ok (.iload 6, 2) := by decide +kernel
theorem d_M_same_87 : decode b_M_same 87 = .ok (.aload_n 0, 1) := by decide +kernel
theorem d_M_same_88 : decode b_M_same 88 = .ok (.iload_n 1, 1) := by decide +kernel
theorem d_M_same_89 : decode b_M_same 89 = .ok (.lload 4, 2) := by decide +kernel
theorem d_M_same_91 : decode b_M_same 91 = .ok (.invokevirtual 67, 3) := by decide +kernel
theorem d_M_same_94 : decode b_M_same 94 = .ok (.if_icmp .ne 28, 3) := by decide +kernel
theorem d_M_same_97 : decode b_M_same 97 = .ok (.iload 7, 2) := by decide +kernel
theorem d_M_same_99 : decode b_M_same 99 = .ok (.iload 8, 2) := by decide +kernel
theorem d_M_same_101 : decode b_M_same 101 = .ok (.if_icmp .eq 17, 3) := by decide +kernel
theorem d_M_same_104 : decode b_M_same 104 = .ok (.aload_n 0, 1) := by decide +kernel
theorem d_M_same_105 : decode b_M_same 105 = .ok (.iload_n 1, 1) := by decide +kernel
theorem d_M_same_106 : decode b_M_same 106 = .ok (.iload 6, 2) := by decide +kernel
theorem d_M_same_108 : decode b_M_same 108 = .ok (.iload 7, 2) := by decide +kernel
theorem d_M_same_110 : decode b_M_same 110 = .ok (.invokevirtual 78, 3) := by decide +kernel
theorem d_M_same_113 : decode b_M_same 113 = .ok (.iload 8, 2) := by decide +kernel
theorem d_M_same_115 : decode b_M_same 115 = .ok (.if_icmp .ne 7, 3) := by decide +kernel
theorem d_M_same_118 : decode b_M_same 118 = .ok (.iconst 1, 1) := by decide +kernel
theorem d_M_same_119 : decode b_M_same 119 = .ok (.goto 4, 3) := by decide +kernel
theorem d_M_same_122 : decode b_M_same 122 = .ok (.iconst 0, 1) := by decide +kernel
theorem d_M_same_123 : decode b_M_same 123 = .ok (.ireturn, 1) := by decide +kernel
theorem d_M_same_124 : decode b_M_same 124 = .ok (.aload_n 0, 1) := by decide +kernel
theorem d_M_same_125 : decode b_M_same 125 = .ok (.iload_n 1, 1) := by decide +kernel
theorem d_M_same_126 : decode b_M_same 126 = .ok (.lload_n 2, 1) := by decide +kernel
theorem d_M_same_127 : decode b_M_same 127 = .ok (.aload_n 0, 1) := by decide +kernel
theorem d_M_same_128 : decode b_M_same 128 = .ok (.getfield 37, 3) := by decide +kernel
theorem d_M_same_131 : decode b_M_same 131 = .ok (.invokevirtual 89, 3) := by decide +kernel
theorem d_M_same_134 : decode b_M_same 134 = .ok (.aload_n 0, 1) := by decide +kernel
theorem d_M_same_135 : decode b_M_same 135 = .ok (.iload_n 1, 1) := by decide +kernel
theorem d_M_same_136 : decode b_M_same 136 = .ok (.lload 4, 2) := by decide +kernel
theorem d_M_same_138 : decode b_M_same 138 = .ok (.aload_n 0, 1) := by decide +kernel
theorem d_M_same_139 : decode b_M_same 139 = .ok (.getfield 40, 3) := by decide +kernel
theorem d_M_same_142 : decode b_M_same 142 = .ok (.invokevirtual 89, 3) := by decide +kernel
theorem d_M_same_145 : decode b_M_same 145 = .ok (.iconst 1, 1) := by decide +kernel
theorem d_M_same_146 : decode b_M_same 146 = .ok (.istore 6, 2) := by decide +kernel
theorem d_M_same_148 : decode b_M_same 148 = .ok (.iconst 0, 1) := by decide +kernel
theorem d_M_same_149 : decode b_M_same 149 = .ok (.istore 7, 2) := by decide +kernel
theorem d_M_same_151 : decode b_M_same 151 = .ok (.iload 7, 2) := by decide +kernel
theorem d_M_same_153 : decode b_M_same 153 = .ok (.aload_n 0, 1) := by decide +kernel
theorem d_M_same_154 : decode b_M_same 154 = .ok (.getfield 16, 3) := by decide +kernel
theorem d_M_same_157 : decode b_M_same 157 = .ok (.iload_n 1, 1) := by decide +kernel
theorem d_M_same_158 : decode b_M_same 158 = .ok (.iaload, 1) := by decide +kernel
theorem d_M_same_159 : decode b_M_same 159 = .ok (.if_icmp .ge 64, 3) := by decide +kernel
theorem d_M_same_162 : decode b_M_same 162 = .ok (.iload 6, 2) := by decide +kernel
theorem d_M_same_164 : decode b_M_same 164 = .ok (.ifCond .eq 50, 3) := by decide +kernel
theorem d_M_same_167 : decode b_M_same 167 = .ok (.aload_n 0, 1) := by decide +kernel
theorem d_M_same_168 : decode b_M_same 168 = .ok (.getfield 37, 3) := by decide +kernel
theorem d_M_same_171 : decode b_M_same 171 = .ok (.aload_n 0, 1) := by decide +kernel
theorem d_M_same_172 : decode b_M_same 172 = .ok (.getfield 16, 3) := by decide +kernel
theorem d_M_same_175 : decode b_M_same 175 = .ok (.iload_n 1, 1) := by decide +kernel
theorem d_M_same_176 : decode b_M_same 176 = .ok (.iaload, 1) := by decide +kernel
theorem d_M_same_177 : decode b_M_same 177 = .ok (.aload_n 0, 1) := by decide +kernel
theorem d_M_same_178 : decode b_M_same 178 = .ok (.getfield 37, 3) := by decide +kernel
theorem d_M_same_181 : decode b_M_same 181 = .ok (.iload 7, 2) := by decide +kernel
theorem d_M_same_183 : decode b_M_same 183 = .ok (.iaload, 1) := by decide +kernel
theorem d_M_same_184 : decode b_M_same 184 = .ok (.invokestatic 93, 3) := by decide +kernel
theorem d_M_same_187 : decode b_M_same 187 = .ok (.aload_n 0, 1) := by decide +kernel
theorem d_M_same_188 : decode b_M_same 188 = .ok (.getfield 40, 3) := by decide +kernel
theorem d_M_same_191 : decode b_M_same 191 = .ok (.aload_n 0, 1) := by decide +kernel
theorem d_M_same_192 : decode b_M_same 192 = .ok (.getfield 16, 3) := by decide +kernel
theorem d_M_same_195 : decode b_M_same 195 = .ok (.iload_n 1, 1) := by decide +kernel
theorem d_M_same_196 : decode b_M_same 196 = .ok (.iaload, 1) := by decide +kernel
theorem d_M_same_197 : decode b_M_same 197 = .ok (.aload_n 0, 1) := by decide +kernel
theorem d_M_same_198 : decode b_M_same 198 = .ok (.getfield 37, 3) := by decide +kernel
theorem d_M_same_201 : decode b_M_same 201 = .ok (.iload 7, 2) := by decide +kernel
theorem d_M_same_203 : decode b_M_same 203 = .ok (.iaload, 1) := by decide +kernel
theorem d_M_same_204 : decode b_M_same 204 = .ok (.invokestatic 93, 3) := by decide +kernel
theorem d_M_same_207 : decode b_M_same 207 = .ok (.if_icmp .ne 7, 3) := by decide +kernel
theorem d_M_same_210 : decode b_M_same 210 = .ok (.iconst 1, 1) := by decide +kernel
theorem d_M_same_211 : decode b_M_same 211 = .ok (.goto 4, 3) := by decide +kernel
theorem d_M_same_214 : decode b_M_same 214 = .ok (.iconst 0, 1) := by decide +kernel
theorem d_M_same_215 : decode b_M_same 215 = .ok (.istore 6, 2) := by decide +kernel
theorem d_M_same_217 : decode b_M_same 217 = .ok (.iinc 7 1, 3) := by decide +kernel
theorem d_M_same_220 : decode b_M_same 220 = .ok (.goto (-69), 3) := by decide +kernel
theorem d_M_same_223 : decode b_M_same 223 = .ok (.iload 6, 2) := by decide +kernel
theorem d_M_same_225 : decode b_M_same 225 = .ok (.ireturn, 1) := by decide +kernel
theorem d_M_layOut_0 : decode b_M_layOut 0 = .ok (.iconst 1, 1) := by decide +kernel
theorem d_M_layOut_1 : decode b_M_layOut 1 = .ok (.aload_n 0, 1) := by decide +kernel
theorem d_M_layOut_2 : decode b_M_layOut 2 = .ok (.getfield 13, 3) := by decide +kernel
theorem d_M_layOut_5 : decode b_M_layOut 5 = .ok (.iload_n 1, 1) := by decide +kernel
theorem d_M_layOut_6 : decode b_M_layOut 6 = .ok (.iaload, 1) := by decide +kernel
theorem d_M_layOut_7 : decode b_M_layOut 7 = .ok (.ishl, 1) := by decide +kernel
theorem d_M_layOut_8 : decode b_M_layOut 8 = .ok (.istore_n 2, 1) := by decide +kernel
theorem d_M_layOut_9 : decode b_M_layOut 9 = .ok (.iconst 0, 1) := by decide +kernel
theorem d_M_layOut_10 : decode b_M_layOut 10 = .ok (.istore_n 3, 1) := by decide +kernel
theorem d_M_layOut_11 : decode b_M_layOut 11 = .ok (.iconst 0, 1) := by decide +kernel
theorem d_M_layOut_12 : decode b_M_layOut 12 = .ok (.istore 4, 2) := by decide +kernel
theorem d_M_layOut_14 : decode b_M_layOut 14 = .ok (.iload 4, 2) := by decide +kernel
theorem d_M_layOut_16 : decode b_M_layOut 16 = .ok (.iconst 2, 1) := by decide +kernel
theorem d_M_layOut_17 : decode b_M_layOut 17 = .ok (.if_icmp .ge 118, 3) := by decide +kernel
theorem d_M_layOut_20 : decode b_M_layOut 20 = .ok (.iconst 0, 1) := by decide +kernel
theorem d_M_layOut_21 : decode b_M_layOut 21 = .ok (.istore 5, 2) := by decide +kernel
theorem d_M_layOut_23 : decode b_M_layOut 23 = .ok (.iload 5, 2) := by decide +kernel
theorem d_M_layOut_25 : decode b_M_layOut 25 = .ok (.iload_n 2, 1) := by decide +kernel
theorem d_M_layOut_26 : decode b_M_layOut 26 = .ok (.if_icmp .ge 17, 3) := by decide +kernel
theorem d_M_layOut_29 : decode b_M_layOut 29 = .ok (.aload_n 0, 1) := by decide +kernel
theorem d_M_layOut_30 : decode b_M_layOut 30 = .ok (.getfield 34, 3) := by decide +kernel
theorem d_M_layOut_33 : decode b_M_layOut 33 = .ok (.iload 5, 2) := by decide +kernel
theorem d_M_layOut_35 : decode b_M_layOut 35 = .ok (.iconst (-1), 1) := by decide +kernel
theorem d_M_layOut_36 : decode b_M_layOut 36 = .ok (.iastore, 1) := by decide +kernel
theorem d_M_layOut_37 : decode b_M_layOut 37 = .ok (.iinc 5 1, 3) := by decide +kernel
theorem d_M_layOut_40 : decode b_M_layOut 40 = .ok (.goto (-17), 3) := by decide +kernel
theorem d_M_layOut_43 : decode b_M_layOut 43 = .ok (.iload_n 3, 1) := by decide +kernel
theorem d_M_layOut_44 : decode b_M_layOut 44 = .ok (.istore 5, 2) := by decide +kernel
theorem d_M_layOut_46 : decode b_M_layOut 46 = .ok (.iconst 0, 1) := by decide +kernel
theorem d_M_layOut_47 : decode b_M_layOut 47 = .ok (.istore 6, 2) := by decide +kernel
theorem d_M_layOut_49 : decode b_M_layOut 49 = .ok (.iload 6, 2) := by decide +kernel
theorem d_M_layOut_51 : decode b_M_layOut 51 = .ok (.aload_n 0, 1) := by decide +kernel
theorem d_M_layOut_52 : decode b_M_layOut 52 = .ok (.getfield 19, 3) := by decide +kernel
theorem d_M_layOut_55 : decode b_M_layOut 55 = .ok (.iload_n 1, 1) := by decide +kernel
theorem d_M_layOut_56 : decode b_M_layOut 56 = .ok (.iaload, 1) := by decide +kernel
theorem d_M_layOut_57 : decode b_M_layOut 57 = .ok (.if_icmp .ge 57, 3) := by decide +kernel
theorem d_M_layOut_60 : decode b_M_layOut 60 = .ok (.aload_n 0, 1) := by decide +kernel
theorem d_M_layOut_61 : decode b_M_layOut 61 = .ok (.getfield 28, 3) := by decide +kernel
theorem d_M_layOut_64 : decode b_M_layOut 64 = .ok (.sipush 256, 3) := by decide +kernel
theorem d_M_layOut_67 : decode b_M_layOut 67 = .ok (.iload_n 1, 1) := by decide +kernel
theorem d_M_layOut_68 : decode b_M_layOut 68 = .ok (.imul, 1) := by decide +kernel
theorem d_M_layOut_69 : decode b_M_layOut 69 = .ok (.iload 6, 2) := by decide +kernel
theorem d_M_layOut_71 : decode b_M_layOut 71 = .ok (.iadd, 1) := by decide +kernel
theorem d_M_layOut_72 : decode b_M_layOut 72 = .ok (.iaload, 1) := by decide +kernel
theorem d_M_layOut_73 : decode b_M_layOut 73 = .ok (.bipush 20, 2) := by decide +kernel
theorem d_M_layOut_75 : decode b_M_layOut 75 = .ok (.ishr, 1) := by decide +kernel
theorem d_M_layOut_76 : decode b_M_layOut 76 = .ok (.istore 7, 2) := by decide +kernel
theorem d_M_layOut_78 : decode b_M_layOut 78 = .ok (.iload 5, 2) := by decide +kernel
theorem d_M_layOut_80 : decode b_M_layOut 80 = .ok (.iload 7, 2) := by decide +kernel
theorem d_M_layOut_82 : decode b_M_layOut 82 = .ok (.if_icmp .ge 8, 3) := by decide +kernel
theorem d_M_layOut_85 : decode b_M_layOut 85 = .ok (.iload 7, 2) := by decide +kernel
theorem d_M_layOut_87 : decode b_M_layOut 87 = .ok (.goto 5, 3) := by decide +kernel
theorem d_M_layOut_90 : decode b_M_layOut 90 = .ok (.iload 5, 2) := by decide +kernel
theorem d_M_layOut_92 : decode b_M_layOut 92 = .ok (.istore 5, 2) := by decide +kernel
theorem d_M_layOut_94 : decode b_M_layOut 94 = .ok (.aload_n 0, 1) := by decide +kernel
theorem d_M_layOut_95 : decode b_M_layOut 95 = .ok (.getfield 34, 3) := by decide +kernel
theorem d_M_layOut_98 : decode b_M_layOut 98 = .ok (.iload 5, 2) := by decide +kernel
theorem d_M_layOut_100 : decode b_M_layOut 100 = .ok (.iload_n 2, 1) := by decide +kernel
theorem d_M_layOut_101 : decode b_M_layOut 101 = .ok (.irem, 1) := by decide +kernel
theorem d_M_layOut_102 : decode b_M_layOut 102 = .ok (.iload 6, 2) := by decide +kernel
theorem d_M_layOut_104 : decode b_M_layOut 104 = .ok (.iastore, 1) := by decide +kernel
theorem d_M_layOut_105 : decode b_M_layOut 105 = .ok (.iinc 5 1, 3) := by decide +kernel
theorem d_M_layOut_108 : decode b_M_layOut 108 = .ok (.iinc 6 1, 3) := by decide +kernel
theorem d_M_layOut_111 : decode b_M_layOut 111 = .ok (.goto (-62), 3) := by decide +kernel
theorem d_M_layOut_114 : decode b_M_layOut 114 = .ok (.iload 5, 2) := by decide +kernel
theorem d_M_layOut_116 : decode b_M_layOut 116 = .ok (.iload_n 2, 1) := by decide +kernel
theorem d_M_layOut_117 : decode b_M_layOut 117 = .ok (.if_icmp .le 10, 3) := by decide +kernel
theorem d_M_layOut_120 : decode b_M_layOut 120 = .ok (.iload 5, 2) := by decide +kernel
theorem d_M_layOut_122 : decode b_M_layOut 122 = .ok (.iload_n 2, 1) := by decide +kernel
theorem d_M_layOut_123 : decode b_M_layOut 123 = .ok (.isub, 1) := by decide +kernel
theorem d_M_layOut_124 : decode b_M_layOut 124 = .ok (.goto 4, 3) := by decide +kernel
theorem d_M_layOut_127 : decode b_M_layOut 127 = .ok (.iconst 0, 1) := by decide +kernel
theorem d_M_layOut_128 : decode b_M_layOut 128 = .ok (.istore_n 3, 1) := by decide +kernel
theorem d_M_layOut_129 : decode b_M_layOut 129 = .ok (.iinc 4 1, 3) := by decide +kernel
theorem d_M_layOut_132 : decode b_M_layOut 132 = .ok (.goto (-118), 3) := by decide +kernel
theorem d_M_layOut_135 : decode b_M_layOut 135 = .ok (.return_, 1) := by decide +kernel
theorem d_M_runCell_0 : decode b_M_runCell 0 = .ok (.aload_n 0, 1) := by decide +kernel
theorem d_M_runCell_1 : decode b_M_runCell 1 = .ok (.iload_n 1, 1) := by decide +kernel
theorem d_M_runCell_2 : decode b_M_runCell 2 = .ok (.invokevirtual 126, 3) := by decide +kernel
theorem d_M_runCell_5 : decode b_M_runCell 5 = .ok (.iconst 0, 1) := by decide +kernel
theorem d_M_runCell_6 : decode b_M_runCell 6 = .ok (.istore_n 3, 1) := by decide +kernel
theorem d_M_runCell_7 : decode b_M_runCell 7 = .ok (.iconst 0, 1) := by decide +kernel
theorem d_M_runCell_8 : decode b_M_runCell 8 = .ok (.istore 4, 2) := by decide +kernel
theorem d_M_runCell_10 : decode b_M_runCell 10 = .ok (.iload 4, 2) := by decide +kernel
theorem d_M_runCell_12 : decode b_M_runCell 12 = .ok (.aload_n 0, 1) := by decide +kernel
theorem d_M_runCell_13 : decode b_M_runCell 13 = .ok (.getfield 19, 3) := by decide +kernel
theorem d_M_runCell_16 : decode b_M_runCell 16 = .ok (.iload_n 1, 1) := by decide +kernel
theorem d_M_runCell_17 : decode b_M_runCell 17 = .ok (.iaload, 1) := by decide +kernel
theorem d_M_runCell_18 : decode b_M_runCell 18 = .ok (.if_icmp .ge 39, 3) := by decide +kernel
theorem d_M_runCell_21 : decode b_M_runCell 21 = .ok (.iload_n 3, 1) := by decide +kernel
theorem d_M_runCell_22 : decode b_M_runCell 22 = .ok (.ifCond .ne 23, 3) := by decide +kernel
theorem d_M_runCell_25 : decode b_M_runCell 25 = .ok (.aload_n 0, 1) := by decide +kernel
theorem d_M_runCell_26 : decode b_M_runCell 26 = .ok (.getfield 28, 3) := by decide +kernel
theorem d_M_runCell_29 : decode b_M_runCell 29 = .ok (.sipush 256, 3) := by decide +kernel
theorem d_M_runCell_32 : decode b_M_runCell 32 = .ok (.iload_n 1, 1) := by decide +kernel
theorem d_M_runCell_33 : decode b_M_runCell 33 = .ok (.imul, 1) := by decide +kernel
theorem d_M_runCell_34 : decode b_M_runCell 34 = .ok (.iload 4, 2) := by decide +kernel
theorem d_M_runCell_36 : decode b_M_runCell 36 = .ok (.iadd, 1) := by decide +kernel
theorem d_M_runCell_37 : decode b_M_runCell 37 = .ok (.iaload, 1) := by decide +kernel
theorem d_M_runCell_38 : decode b_M_runCell 38 = .ok (.bipush 20, 2) := by decide +kernel
theorem d_M_runCell_40 : decode b_M_runCell 40 = .ok (.ishr, 1) := by decide +kernel
theorem d_M_runCell_41 : decode b_M_runCell 41 = .ok (.iload_n 2, 1) := by decide +kernel
theorem d_M_runCell_42 : decode b_M_runCell 42 = .ok (.if_icmp .ne 7, 3) := by decide +kernel
theorem d_M_runCell_45 : decode b_M_runCell 45 = .ok (.iconst 1, 1) := by decide +kernel
theorem d_M_runCell_46 : decode b_M_runCell 46 = .ok (.goto 4, 3) := by decide +kernel
theorem d_M_runCell_49 : decode b_M_runCell 49 = .ok (.iconst 0, 1) := by decide +kernel
theorem d_M_runCell_50 : decode b_M_runCell 50 = .ok (.istore_n 3, 1) := by decide +kernel
theorem d_M_runCell_51 : decode b_M_runCell 51 = .ok (.iinc 4 1, 3) := by decide +kernel
theorem d_M_runCell_54 : decode b_M_runCell 54 = .ok (.goto (-44), 3) := by decide +kernel
theorem d_M_runCell_57 : decode b_M_runCell 57 = .ok (.aload_n 0, 1) := by decide +kernel
theorem d_M_runCell_58 : decode b_M_runCell 58 = .ok (.getfield 34, 3) := by decide +kernel
theorem d_M_runCell_61 : decode b_M_runCell 61 = .ok (.iload_n 2, 1) := by decide +kernel
theorem d_M_runCell_62 : decode b_M_runCell 62 = .ok (.iaload, 1) := by decide +kernel
theorem d_M_runCell_63 : decode b_M_runCell 63 = .ok (.istore 4, 2) := by decide +kernel
theorem d_M_runCell_65 : decode b_M_runCell 65 = .ok (.iload_n 3, 1) := by decide +kernel
theorem d_M_runCell_66 : decode b_M_runCell 66 = .ok (.ifCond .eq 7, 3) := by decide +kernel
theorem d_M_runCell_69 : decode b_M_runCell 69 = .ok (.iconst 1, 1) := by decide +kernel
theorem d_M_runCell_70 : decode b_M_runCell 70 = .ok (.goto 4, 3) := by decide +kernel
theorem d_M_runCell_73 : decode b_M_runCell 73 = .ok (.iconst 0, 1) := by decide +kernel
theorem d_M_runCell_74 : decode b_M_runCell 74 = .ok (.istore 5, 2) := by decide +kernel
theorem d_M_runCell_76 : decode b_M_runCell 76 = .ok (.iload 4, 2) := by decide +kernel
theorem d_M_runCell_78 : decode b_M_runCell 78 = .ok (.ifCond .ge 6, 3) := by decide +kernel
theorem d_M_runCell_81 : decode b_M_runCell 81 = .ok (.iload 5, 2) := by decide +kernel
theorem d_M_runCell_83 : decode b_M_runCell 83 = .ok (.ireturn, 1) := by decide +kernel
theorem d_M_runCell_84 : decode b_M_runCell 84 = .ok (.aload_n 0, 1) := by decide +kernel
theorem d_M_runCell_85 : decode b_M_runCell 85 = .ok (.getfield 28, 3) := by decide +kernel
theorem d_M_runCell_88 : decode b_M_runCell 88 = .ok (.sipush 256, 3) := by decide +kernel
theorem d_M_runCell_91 : decode b_M_runCell 91 = .ok (.iload_n 1, 1) := by decide +kernel
theorem d_M_runCell_92 : decode b_M_runCell 92 = .ok (.imul, 1) := by decide +kernel
theorem d_M_runCell_93 : decode b_M_runCell 93 = .ok (.iload 4, 2) := by decide +kernel
theorem d_M_runCell_95 : decode b_M_runCell 95 = .ok (.iadd, 1) := by decide +kernel
theorem d_M_runCell_96 : decode b_M_runCell 96 = .ok (.iaload, 1) := by decide +kernel
theorem d_M_runCell_97 : decode b_M_runCell 97 = .ok (.istore 6, 2) := by decide +kernel
theorem d_M_runCell_99 : decode b_M_runCell 99 = .ok (.iload 4, 2) := by decide +kernel
theorem d_M_runCell_101 : decode b_M_runCell 101 = .ok (.ifCond .le 33, 3) := by decide +kernel
theorem d_M_runCell_104 : decode b_M_runCell 104 = .ok (.aload_n 0, 1) := by decide +kernel
theorem d_M_runCell_105 : decode b_M_runCell 105 = .ok (.getfield 28, 3) := by decide +kernel
theorem d_M_runCell_108 : decode b_M_runCell 108 = .ok (.sipush 256, 3) := by decide +kernel
theorem d_M_runCell_111 : decode b_M_runCell 111 = .ok (.iload_n 1, 1) := by decide +kernel
theorem d_M_runCell_112 : decode b_M_runCell 112 = .ok (.imul, 1) := by decide +kernel
theorem d_M_runCell_113 : decode b_M_runCell 113 = .ok (.iload 4, 2) := by decide +kernel
theorem d_M_runCell_115 : decode b_M_runCell 115 = .ok (.iadd, 1) := by decide +kernel
theorem d_M_runCell_116 : decode b_M_runCell 116 = .ok (.iconst 1, 1) := by decide +kernel
theorem d_M_runCell_117 : decode b_M_runCell 117 = .ok (.isub, 1) := by decide +kernel
theorem d_M_runCell_118 : decode b_M_runCell 118 = .ok (.iaload, 1) := by decide +kernel
theorem d_M_runCell_119 : decode b_M_runCell 119 = .ok (.bipush 20, 2) := by decide +kernel
theorem d_M_runCell_121 : decode b_M_runCell 121 = .ok (.ishr, 1) := by decide +kernel
theorem d_M_runCell_122 : decode b_M_runCell 122 = .ok (.iload 6, 2) := by decide +kernel
theorem d_M_runCell_124 : decode b_M_runCell 124 = .ok (.bipush 20, 2) := by decide +kernel
theorem d_M_runCell_126 : decode b_M_runCell 126 = .ok (.ishr, 1) := by decide +kernel
theorem d_M_runCell_127 : decode b_M_runCell 127 = .ok (.if_icmp .ne 7, 3) := by decide +kernel
theorem d_M_runCell_130 : decode b_M_runCell 130 = .ok (.iconst 1, 1) := by decide +kernel
theorem d_M_runCell_131 : decode b_M_runCell 131 = .ok (.goto 4, 3) := by decide +kernel
theorem d_M_runCell_134 : decode b_M_runCell 134 = .ok (.iconst 0, 1) := by decide +kernel
theorem d_M_runCell_135 : decode b_M_runCell 135 = .ok (.istore 7, 2) := by decide +kernel
theorem d_M_runCell_137 : decode b_M_runCell 137 = .ok (.iload 6, 2) := by decide +kernel
theorem d_M_runCell_139 : decode b_M_runCell 139 = .ok (.ldc 129, 2) := by decide +kernel
theorem d_M_runCell_141 : decode b_M_runCell 141 = .ok (.iand, 1) := by decide +kernel
theorem d_M_runCell_142 : decode b_M_runCell 142 = .ok (.bipush 8, 2) := by decide +kernel
theorem d_M_runCell_144 : decode b_M_runCell 144 = .ok (.imul, 1) := by decide +kernel
theorem d_M_runCell_145 : decode b_M_runCell 145 = .ok (.iload 5, 2) := by decide +kernel
theorem d_M_runCell_147 : decode b_M_runCell 147 = .ok (.iadd, 1) := by decide +kernel
theorem d_M_runCell_148 : decode b_M_runCell 148 = .ok (.iload 7, 2) := by decide +kernel
theorem d_M_runCell_150 : decode b_M_runCell 150 = .ok (.ifCond .eq 7, 3) := by decide +kernel
theorem d_M_runCell_153 : decode b_M_runCell 153 = .ok (.iconst 2, 1) := by decide +kernel
theorem d_M_runCell_154 : decode b_M_runCell 154 = .ok (.goto 4, 3) := by decide +kernel
theorem d_M_runCell_157 : decode b_M_runCell 157 = .ok (.iconst 0, 1) := by decide +kernel
theorem d_M_runCell_158 : decode b_M_runCell 158 = .ok (.iadd, 1) := by decide +kernel
theorem d_M_runCell_159 : decode b_M_runCell 159 = .ok (.iload 6, 2) := by decide +kernel
theorem d_M_runCell_161 : decode b_M_runCell 161 = .ok (.bipush 20, 2) := by decide +kernel
theorem d_M_runCell_163 : decode b_M_runCell 163 = .ok (.ishr, 1) := by decide +kernel
theorem d_M_runCell_164 : decode b_M_runCell 164 = .ok (.iload_n 2, 1) := by decide +kernel
theorem d_M_runCell_165 : decode b_M_runCell 165 = .ok (.if_icmp .ne 7, 3) := by decide +kernel
theorem d_M_runCell_168 : decode b_M_runCell 168 = .ok (.iconst 0, 1) := by decide +kernel
theorem d_M_runCell_169 : decode b_M_runCell 169 = .ok (.goto 4, 3) := by decide +kernel
theorem d_M_runCell_172 : decode b_M_runCell 172 = .ok (.iconst 4, 1) := by decide +kernel
theorem d_M_runCell_173 : decode b_M_runCell 173 = .ok (.iadd, 1) := by decide +kernel
theorem d_M_runCell_174 : decode b_M_runCell 174 = .ok (.ireturn, 1) := by decide +kernel
theorem d_M_longestRow_0 : decode b_M_longestRow 0 = .ok (.aload_n 0, 1) := by decide +kernel
theorem d_M_longestRow_1 : decode b_M_longestRow 1 = .ok (.iload_n 1, 1) := by decide +kernel
theorem d_M_longestRow_2 : decode b_M_longestRow 2 = .ok (.invokevirtual 126, 3) := by decide +kernel
theorem d_M_longestRow_5 : decode b_M_longestRow 5 = .ok (.iconst 1, 1) := by decide +kernel
theorem d_M_longestRow_6 : decode b_M_longestRow 6 = .ok (.aload_n 0, 1) := by decide +kernel
theorem d_M_longestRow_7 : decode b_M_longestRow 7 = .ok (.getfield 13, 3) := by decide +kernel
theorem d_M_longestRow_10 : decode b_M_longestRow 10 = .ok (.iload_n 1, 1) := by decide +kernel
theorem d_M_longestRow_11 : decode b_M_longestRow 11 = .ok (.iaload, 1) := by decide +kernel
theorem d_M_longestRow_12 : decode b_M_longestRow 12 = .ok (.ishl, 1) := by decide +kernel
theorem d_M_longestRow_13 : decode b_M_longestRow 13 = .ok (.istore_n 2, 1) := by decide +kernel
theorem d_M_longestRow_14 : decode b_M_longestRow 14 = .ok (.iconst 0, 1) := by decide +kernel
theorem d_M_longestRow_15 : decode b_M_longestRow 15 = .ok (.istore_n 3, 1) := by decide +kernel
theorem d_M_longestRow_16 : decode b_M_longestRow 16 = .ok (.iconst 0, 1) := by decide +kernel
theorem d_M_longestRow_17 : decode b_M_longestRow 17 = .ok (.istore 4, 2) := by decide +kernel
theorem d_M_longestRow_19 : decode b_M_longestRow 19 = .ok (.iload 4, 2) := by decide +kernel
theorem d_M_longestRow_21 : decode b_M_longestRow 21 = .ok (.iload_n 2, 1) := by decide +kernel
theorem d_M_longestRow_22 : decode b_M_longestRow 22 = .ok (.if_icmp .ge 52, 3) := by decide +kernel
theorem d_M_longestRow_25 : decode b_M_longestRow 25 = .ok (.iconst 0, 1) := by decide +kernel
theorem d_M_longestRow_26 : decode b_M_longestRow 26 = .ok (.istore 5, 2) := by decide +kernel
theorem d_M_longestRow_28 : decode b_M_longestRow 28 = .ok (.iload 5, 2) := by decide +kernel
theorem d_M_longestRow_30 : decode b_M_longestRow 30 = .ok (.iload_n 2, 1) := by decide +kernel
theorem d_M_longestRow_31 : decode b_M_longestRow 31 = .ok (.if_icmp .ge 24, 3) := by decide +kernel
theorem d_M_longestRow_34 : decode b_M_longestRow 34 = .ok (.aload_n 0, 1) := by decide +kernel
theorem d_M_longestRow_35 : decode b_M_longestRow 35 = .ok (.getfield 34, 3) := by decide +kernel
theorem d_M_longestRow_38 : decode b_M_longestRow 38 = .ok (.iload 4, 2) := by decide +kernel
theorem d_M_longestRow_40 : decode b_M_longestRow 40 = .ok (.iload 5, 2) := by decide +kernel
theorem d_M_longestRow_42 : decode b_M_longestRow 42 = .ok (.iadd, 1) := by decide +kernel
theorem d_M_longestRow_43 : decode b_M_longestRow 43 = .ok (.iload_n 2, 1) := by decide +kernel
theorem d_M_longestRow_44 : decode b_M_longestRow 44 = .ok (.irem, 1) := by decide +kernel
theorem d_M_longestRow_45 : decode b_M_longestRow 45 = .ok (.iaload, 1) := by decide +kernel
theorem d_M_longestRow_46 : decode b_M_longestRow 46 = .ok (.ifCond .lt 9, 3) := by decide +kernel
theorem d_M_longestRow_49 : decode b_M_longestRow 49 = .ok (.iinc 5 1, 3) := by decide +kernel
theorem d_M_longestRow_52 : decode b_M_longestRow 52 = .ok (.goto (-24), 3) := by decide +kernel
theorem d_M_longestRow_55 : decode b_M_longestRow 55 = .ok (.iload 5, 2) := by decide +kernel
theorem d_M_longestRow_57 : decode b_M_longestRow 57 = .ok (.iload_n 3, 1) := by decide +kernel
theorem d_M_longestRow_58 : decode b_M_longestRow 58 = .ok (.if_icmp .le 8, 3) := by decide +kernel
theorem d_M_longestRow_61 : decode b_M_longestRow 61 = .ok (.iload 5, 2) := by decide +kernel
theorem d_M_longestRow_63 : decode b_M_longestRow 63 = .ok (.goto 4, 3) := by decide +kernel
theorem d_M_longestRow_66 : decode b_M_longestRow 66 = .ok (.iload_n 3, 1) := by decide +kernel
theorem d_M_longestRow_67 : decode b_M_longestRow 67 = .ok (.istore_n 3, 1) := by decide +kernel
theorem d_M_longestRow_68 : decode b_M_longestRow 68 = .ok (.iinc 4 1, 3) := by decide +kernel
theorem d_M_longestRow_71 : decode b_M_longestRow 71 = .ok (.goto (-52), 3) := by decide +kernel
theorem d_M_longestRow_74 : decode b_M_longestRow 74 = .ok (.iload_n 3, 1) := by decide +kernel
theorem d_M_longestRow_75 : decode b_M_longestRow 75 = .ok (.ireturn, 1) := by decide +kernel
theorem d_M_count_0 : decode b_M_count 0 = .ok (.aload_n 0, 1) := by decide +kernel
theorem d_M_count_1 : decode b_M_count 1 = .ok (.aload_n 0, 1) := by decide +kernel
theorem d_M_count_2 : decode b_M_count 2 = .ok (.iload_n 1, 1) := by decide +kernel
theorem d_M_count_3 : decode b_M_count 3 = .ok (.invokevirtual 116, 3) := by decide +kernel
theorem d_M_count_6 : decode b_M_count 6 = .ok (.ifCond .le 11, 3) := by decide +kernel
theorem d_M_count_9 : decode b_M_count 9 = .ok (.aload_n 0, 1) := by decide +kernel
theorem d_M_count_10 : decode b_M_count 10 = .ok (.iload_n 1, 1) := by decide +kernel
theorem d_M_count_11 : decode b_M_count 11 = .ok (.invokevirtual 116, 3) := by decide +kernel
theorem d_M_count_14 : decode b_M_count 14 = .ok (.goto 17, 3) := by decide +kernel
theorem d_M_count_17 : decode b_M_count 17 = .ok (.iload_n 2, 1) := by decide +kernel
theorem d_M_count_18 : decode b_M_count 18 = .ok (.ifCond .lt 8, 3) := by decide +kernel
theorem d_M_count_21 : decode b_M_count 21 = .ok (.iload_n 2, 1) := by decide +kernel
theorem d_M_count_22 : decode b_M_count 22 = .ok (.iconst 5, 1) := by decide +kernel
theorem d_M_count_23 : decode b_M_count 23 = .ok (.if_icmp .le 7, 3) := by decide +kernel
theorem d_M_count_26 : decode b_M_count 26 = .ok (.iconst 3, 1) := by decide +kernel
theorem d_M_count_27 : decode b_M_count 27 = .ok (.goto 4, 3) := by decide +kernel
theorem d_M_count_30 : decode b_M_count 30 = .ok (.iconst 0, 1) := by decide +kernel
theorem d_M_count_31 : decode b_M_count 31 = .ok (.putfield 43, 3) := by decide +kernel
theorem d_M_count_34 : decode b_M_count 34 = .ok (.aload_n 0, 1) := by decide +kernel
theorem d_M_count_35 : decode b_M_count 35 = .ok (.getfield 43, 3) := by decide +kernel
theorem d_M_count_38 : decode b_M_count 38 = .ok (.ifCond .le 5, 3) := by decide +kernel
theorem d_M_count_41 : decode b_M_count 41 = .ok (.iconst 0, 1) := by decide +kernel
theorem d_M_count_42 : decode b_M_count 42 = .ok (.ireturn, 1) := by decide +kernel
theorem d_M_count_43 : decode b_M_count 43 = .ok (.iload_n 2, 1) := by decide +kernel
theorem d_M_count_44 : decode b_M_count 44 = .ok (.iconst 4, 1) := by decide +kernel
theorem d_M_count_45 : decode b_M_count 45 = .ok (.if_icmp .ge 51, 3) := by decide +kernel
theorem d_M_count_48 : decode b_M_count 48 = .ok (.iload_n 2, 1) := by decide +kernel
theorem d_M_count_49 : decode b_M_count 49 = .ok (.ifCond .ne 12, 3) := by decide +kernel
theorem d_M_count_52 : decode b_M_count 52 = .ok (.aload_n 0, 1) := by decide +kernel
theorem d_M_count_53 : decode b_M_count 53 = .ok (.getfield 7, 3) := by decide +kernel
theorem d_M_count_56 : decode b_M_count 56 = .ok (.iload_n 1, 1) := by decide +kernel
theorem d_M_count_57 : decode b_M_count 57 = .ok (.iaload, 1) := by decide +kernel
theorem d_M_count_58 : decode b_M_count 58 = .ok (.goto 37, 3) := by decide +kernel
theorem d_M_count_61 : decode b_M_count 61 = .ok (.iload_n 2, 1) := by decide +kernel
theorem d_M_count_62 : decode b_M_count 62 = .ok (.iconst 1, 1) := by decide +kernel
theorem d_M_count_63 : decode b_M_count 63 = .ok (.if_icmp .ne 12, 3) := by decide +kernel
theorem d_M_count_66 : decode b_M_count 66 = .ok (.aload_n 0, 1) := by decide +kernel
theorem d_M_count_67 : decode b_M_count 67 = .ok (.getfield 13, 3) := by decide +kernel
theorem d_M_count_70 : decode b_M_count 70 = .ok (.iload_n 1, 1) := by decide +kernel
theorem d_M_count_71 : decode b_M_count 71 = .ok (.iaload, 1) := by decide +kernel
theorem d_M_count_72 : decode b_M_count 72 = .ok (.goto 23, 3) := by decide +kernel
theorem d_M_count_75 : decode b_M_count 75 = .ok (.iload_n 2, 1) := by decide +kernel
theorem d_M_count_76 : decode b_M_count 76 = .ok (.iconst 2, 1) := by decide +kernel
theorem d_M_count_77 : decode b_M_count 77 = .ok (.if_icmp .ne 12, 3) := by decide +kernel
theorem d_M_count_80 : decode b_M_count 80 = .ok (.aload_n 0, 1) := by decide +kernel
theorem d_M_count_81 : decode b_M_count 81 = .ok (.getfield 16, 3) := by decide +kernel
theorem d_M_count_84 : decode b_M_count 84 = .ok (.iload_n 1, 1) := by decide +kernel
theorem d_M_count_85 : decode b_M_count 85 = .ok (.iaload, 1) := by decide +kernel
theorem d_M_count_86 : decode b_M_count 86 = .ok (.goto 9, 3) := by decide +kernel
theorem d_M_count_89 : decode b_M_count 89 = .ok (.aload_n 0, 1) := by decide +kernel
theorem d_M_count_90 : decode b_M_count 90 = .ok (.getfield 19, 3) := by decide +kernel
theorem d_M_count_93 : decode b_M_count 93 = .ok (.iload_n 1, 1) := by decide +kernel
theorem d_M_count_94 : decode b_M_count 94 = .ok (.iaload, 1) := by decide +kernel
theorem d_M_count_95 : decode b_M_count 95 = .ok (.ireturn, 1) := by decide +kernel
theorem d_M_count_96 : decode b_M_count 96 = .ok (.aload_n 0, 1) := by decide +kernel
theorem d_M_count_97 : decode b_M_count 97 = .ok (.getfield 7, 3) := by decide +kernel
theorem d_M_count_100 : decode b_M_count 100 = .ok (.iload_n 1, 1) := by decide +kernel
theorem d_M_count_101 : decode b_M_count 101 = .ok (.iaload, 1) := by decide +kernel
theorem d_M_count_102 : decode b_M_count 102 = .ok (.iconst 3, 1) := by decide +kernel
theorem d_M_count_103 : decode b_M_count 103 = .ok (.if_icmp .ne 23, 3) := by decide +kernel
theorem d_M_count_106 : decode b_M_count 106 = .ok (.iload_n 2, 1) := by decide +kernel
theorem d_M_count_107 : decode b_M_count 107 = .ok (.iconst 4, 1) := by decide +kernel
theorem d_M_count_108 : decode b_M_count 108 = .ok (.if_icmp .ne 12, 3) := by decide +kernel
theorem d_M_count_111 : decode b_M_count 111 = .ok (.aload_n 0, 1) := by decide +kernel
theorem d_M_count_112 : decode b_M_count 112 = .ok (.getfield 19, 3) := by decide +kernel
theorem d_M_count_115 : decode b_M_count 115 = .ok (.iload_n 1, 1) := by decide +kernel
theorem d_M_count_116 : decode b_M_count 116 = .ok (.iaload, 1) := by decide +kernel
theorem d_M_count_117 : decode b_M_count 117 = .ok (.goto 8, 3) := by decide +kernel
theorem d_M_count_120 : decode b_M_count 120 = .ok (.aload_n 0, 1) := by decide +kernel
theorem d_M_count_121 : decode b_M_count 121 = .ok (.iload_n 1, 1) := by decide +kernel
theorem d_M_count_122 : decode b_M_count 122 = .ok (.invokevirtual 130, 3) := by decide +kernel
theorem d_M_count_125 : decode b_M_count 125 = .ok (.ireturn, 1) := by decide +kernel
theorem d_M_count_126 : decode b_M_count 126 = .ok (.iconst 0, 1) := by decide +kernel
theorem d_M_count_127 : decode b_M_count 127 = .ok (.istore_n 3, 1) := by decide +kernel
theorem d_M_count_128 : decode b_M_count 128 = .ok (.iconst 0, 1) := by decide +kernel
theorem d_M_count_129 : decode b_M_count 129 = .ok (.istore 4, 2) := by decide +kernel
theorem d_M_count_131 : decode b_M_count 131 = .ok (.iconst 0, 1) := by decide +kernel
theorem d_M_count_132 : decode b_M_count 132 = .ok (.istore 5, 2) := by decide +kernel
theorem d_M_count_134 : decode b_M_count 134 = .ok (.iload 5, 2) := by decide +kernel
theorem d_M_count_136 : decode b_M_count 136 = .ok (.sipush 1024, 3) := by decide +kernel
theorem d_M_count_139 : decode b_M_count 139 = .ok (.if_icmp .ge 53, 3) := by decide +kernel
theorem d_M_count_142 : decode b_M_count 142 = .ok (.aload_n 0, 1) := by decide +kernel
theorem d_M_count_143 : decode b_M_count 143 = .ok (.getfield 25, 3) := by decide +kernel
theorem d_M_count_146 : decode b_M_count 146 = .ok (.sipush 1024, 3) := by decide +kernel
theorem d_M_count_149 : decode b_M_count 149 = .ok (.iload_n 1, 1) := by decide +kernel
theorem d_M_count_150 : decode b_M_count 150 = .ok (.imul, 1) := by decide +kernel
theorem d_M_count_151 : decode b_M_count 151 = .ok (.iload 5, 2) := by decide +kernel
theorem d_M_count_153 : decode b_M_count 153 = .ok (.iadd, 1) := by decide +kernel
theorem d_M_count_154 : decode b_M_count 154 = .ok (.iaload, 1) := by decide +kernel
theorem d_M_count_155 : decode b_M_count 155 = .ok (.istore 6, 2) := by decide +kernel
theorem d_M_count_157 : decode b_M_count 157 = .ok (.iload 6, 2) := by decide +kernel
theorem d_M_count_159 : decode b_M_count 159 = .ok (.ifCond .le 9, 3) := by decide +kernel
theorem d_M_count_162 : decode b_M_count 162 = .ok (.iload_n 3, 1) := by decide +kernel
theorem d_M_count_163 : decode b_M_count 163 = .ok (.iconst 1, 1) := by decide +kernel
theorem d_M_count_164 : decode b_M_count 164 = .ok (.iadd, 1) := by decide +kernel
theorem d_M_count_165 : decode b_M_count 165 = .ok (.goto 4, 3) := by decide +kernel
theorem d_M_count_168 : decode b_M_count 168 = .ok (.iload_n 3, 1) := by decide +kernel
theorem d_M_count_169 : decode b_M_count 169 = .ok (.istore_n 3, 1) := by decide +kernel
theorem d_M_count_170 : decode b_M_count 170 = .ok (.iload 6, 2) := by decide +kernel
theorem d_M_count_172 : decode b_M_count 172 = .ok (.iload 4, 2) := by decide +kernel
theorem d_M_count_174 : decode b_M_count 174 = .ok (.if_icmp .le 8, 3) := by decide +kernel
theorem d_M_count_177 : decode b_M_count 177 = .ok (.iload 6, 2) := by decide +kernel
theorem d_M_count_179 : decode b_M_count 179 = .ok (.goto 5, 3) := by decide +kernel
theorem d_M_count_182 : decode b_M_count 182 = .ok (.iload 4, 2) := by decide +kernel
theorem d_M_count_184 : decode b_M_count 184 = .ok (.istore 4, 2) := by decide +kernel
theorem d_M_count_186 : decode b_M_count 186 = .ok (.iinc 5 1, 3) := by decide +kernel
theorem d_M_count_189 : decode b_M_count 189 = .ok (.goto (-55), 3) := by decide +kernel
theorem d_M_count_192 : decode b_M_count 192 = .ok (.iload_n 2, 1) := by decide +kernel
theorem d_M_count_193 : decode b_M_count 193 = .ok (.iconst 4, 1) := by decide +kernel
theorem d_M_count_194 : decode b_M_count 194 = .ok (.if_icmp .ne 7, 3) := by decide +kernel
theorem d_M_count_197 : decode b_M_count 197 = .ok (.iload_n 3, 1) := by decide +kernel
theorem d_M_count_198 : decode b_M_count 198 = .ok (.goto 24, 3) := by decide +kernel
theorem d_M_count_201 : decode b_M_count 201 = .ok (.aload_n 0, 1) := by decide +kernel
theorem d_M_count_202 : decode b_M_count 202 = .ok (.getfield 7, 3) := by decide +kernel
theorem d_M_count_205 : decode b_M_count 205 = .ok (.iload_n 1, 1) := by decide +kernel
theorem d_M_count_206 : decode b_M_count 206 = .ok (.iaload, 1) := by decide +kernel
theorem d_M_count_207 : decode b_M_count 207 = .ok (.iconst 1, 1) := by decide +kernel
theorem d_M_count_208 : decode b_M_count 208 = .ok (.if_icmp .ne 8, 3) := by decide +kernel
theorem d_M_count_211 : decode b_M_count 211 = .ok (.iload 4, 2) := by decide +kernel
theorem d_M_count_213 : decode b_M_count 213 = .ok (.goto 9, 3) := by decide +kernel
theorem d_M_count_216 : decode b_M_count 216 = .ok (.aload_n 0, 1) := by decide +kernel
theorem d_M_count_217 : decode b_M_count 217 = .ok (.getfield 22, 3) := by decide +kernel
theorem d_M_count_220 : decode b_M_count 220 = .ok (.iload_n 1, 1) := by decide +kernel
theorem d_M_count_221 : decode b_M_count 221 = .ok (.iaload, 1) := by decide +kernel
theorem d_M_count_222 : decode b_M_count 222 = .ok (.ireturn, 1) := by decide +kernel
theorem d_M_cell_0 : decode b_M_cell 0 = .ok (.aload_n 0, 1) := by decide +kernel
theorem d_M_cell_1 : decode b_M_cell 1 = .ok (.aload_n 0, 1) := by decide +kernel
theorem d_M_cell_2 : decode b_M_cell 2 = .ok (.iload_n 1, 1) := by decide +kernel
theorem d_M_cell_3 : decode b_M_cell 3 = .ok (.invokevirtual 116, 3) := by decide +kernel
theorem d_M_cell_6 : decode b_M_cell 6 = .ok (.ifCond .le 7, 3) := by decide +kernel
theorem d_M_cell_9 : decode b_M_cell 9 = .ok (.iconst 1, 1) := by decide +kernel
theorem d_M_cell_10 : decode b_M_cell 10 = .ok (.goto 4, 3) := by decide +kernel
theorem d_M_cell_13 : decode b_M_cell 13 = .ok (.iconst 0, 1) := by decide +kernel
theorem d_M_cell_14 : decode b_M_cell 14 = .ok (.putfield 43, 3) := by decide +kernel
theorem d_M_cell_17 : decode b_M_cell 17 = .ok (.aload_n 0, 1) := by decide +kernel
theorem d_M_cell_18 : decode b_M_cell 18 = .ok (.getfield 43, 3) := by decide +kernel
theorem d_M_cell_21 : decode b_M_cell 21 = .ok (.ifCond .le 5, 3) := by decide +kernel
theorem d_M_cell_24 : decode b_M_cell 24 = .ok (.iconst 0, 1) := by decide +kernel
theorem d_M_cell_25 : decode b_M_cell 25 = .ok (.ireturn, 1) := by decide +kernel
theorem d_M_cell_26 : decode b_M_cell 26 = .ok (.aload_n 0, 1) := by decide +kernel
theorem d_M_cell_27 : decode b_M_cell 27 = .ok (.getfield 7, 3) := by decide +kernel
theorem d_M_cell_30 : decode b_M_cell 30 = .ok (.iload_n 1, 1) := by decide +kernel
theorem d_M_cell_31 : decode b_M_cell 31 = .ok (.iaload, 1) := by decide +kernel
theorem d_M_cell_32 : decode b_M_cell 32 = .ok (.iconst 2, 1) := by decide +kernel
theorem d_M_cell_33 : decode b_M_cell 33 = .ok (.if_icmp .ne 14, 3) := by decide +kernel
theorem d_M_cell_36 : decode b_M_cell 36 = .ok (.iconst 4, 1) := by decide +kernel
theorem d_M_cell_37 : decode b_M_cell 37 = .ok (.aload_n 0, 1) := by decide +kernel
theorem d_M_cell_38 : decode b_M_cell 38 = .ok (.getfield 13, 3) := by decide +kernel
theorem d_M_cell_41 : decode b_M_cell 41 = .ok (.iload_n 1, 1) := by decide +kernel
theorem d_M_cell_42 : decode b_M_cell 42 = .ok (.iaload, 1) := by decide +kernel
theorem d_M_cell_43 : decode b_M_cell 43 = .ok (.ishl, 1) := by decide +kernel
theorem d_M_cell_44 : decode b_M_cell 44 = .ok (.goto 11, 3) := by decide +kernel
theorem d_M_cell_47 : decode b_M_cell 47 = .ok (.iconst 1, 1) := by decide +kernel
theorem d_M_cell_48 : decode b_M_cell 48 = .ok (.aload_n 0, 1) := by decide +kernel
theorem d_M_cell_49 : decode b_M_cell 49 = .ok (.getfield 13, 3) := by decide +kernel
theorem d_M_cell_52 : decode b_M_cell 52 = .ok (.iload_n 1, 1) := by decide +kernel
theorem d_M_cell_53 : decode b_M_cell 53 = .ok (.iaload, 1) := by decide +kernel
theorem d_M_cell_54 : decode b_M_cell 54 = .ok (.ishl, 1) := by decide +kernel
theorem d_M_cell_55 : decode b_M_cell 55 = .ok (.istore_n 3, 1) := by decide +kernel
theorem d_M_cell_56 : decode b_M_cell 56 = .ok (.aload_n 0, 1) := by decide +kernel
theorem d_M_cell_57 : decode b_M_cell 57 = .ok (.iload_n 2, 1) := by decide +kernel
theorem d_M_cell_58 : decode b_M_cell 58 = .ok (.ifCond .lt 12, 3) := by decide +kernel
theorem d_M_cell_61 : decode b_M_cell 61 = .ok (.iload_n 2, 1) := by decide +kernel
theorem d_M_cell_62 : decode b_M_cell 62 = .ok (.iload_n 3, 1) := by decide +kernel
theorem d_M_cell_63 : decode b_M_cell 63 = .ok (.if_icmp .ge 7, 3) := by decide +kernel
theorem d_M_cell_66 : decode b_M_cell 66 = .ok (.iconst 0, 1) := by decide +kernel
theorem d_M_cell_67 : decode b_M_cell 67 = .ok (.goto 4, 3) := by decide +kernel
theorem d_M_cell_70 : decode b_M_cell 70 = .ok (.iconst 2, 1) := by decide +kernel
theorem d_M_cell_71 : decode b_M_cell 71 = .ok (.putfield 43, 3) := by decide +kernel
theorem d_M_cell_74 : decode b_M_cell 74 = .ok (.aload_n 0, 1) := by decide +kernel
theorem d_M_cell_75 : decode b_M_cell 75 = .ok (.getfield 43, 3) := by decide +kernel
theorem d_M_cell_78 : decode b_M_cell 78 = .ok (.ifCond .le 5, 3) := by decide +kernel
theorem d_M_cell_81 : decode b_M_cell 81 = .ok (.iconst 0, 1) := by decide +kernel
theorem d_M_cell_82 : decode b_M_cell 82 = .ok (.ireturn, 1) := by decide +kernel
theorem d_M_cell_83 : decode b_M_cell 83 = .ok (.aload_n 0, 1) := by decide +kernel
theorem d_M_cell_84 : decode b_M_cell 84 = .ok (.getfield 7, 3) := by decide +kernel
theorem d_M_cell_87 : decode b_M_cell 87 = .ok (.iload_n 1, 1) := by decide +kernel
theorem d_M_cell_88 : decode b_M_cell 88 = .ok (.iaload, 1) := by decide +kernel
theorem d_M_cell_89 : decode b_M_cell 89 = .ok (.iconst 3, 1) := by decide +kernel
theorem d_M_cell_90 : decode b_M_cell 90 = .ok (.if_icmp .ne 12, 3) := by decide +kernel
theorem d_M_cell_93 : decode b_M_cell 93 = .ok (.aload_n 0, 1) := by decide +kernel
theorem d_M_cell_94 : decode b_M_cell 94 = .ok (.iload_n 1, 1) := by decide +kernel
theorem d_M_cell_95 : decode b_M_cell 95 = .ok (.iload_n 2, 1) := by decide +kernel
theorem d_M_cell_96 : decode b_M_cell 96 = .ok (.invokevirtual 133, 3) := by decide +kernel
theorem d_M_cell_99 : decode b_M_cell 99 = .ok (.goto 15, 3) := by decide +kernel
theorem d_M_cell_102 : decode b_M_cell 102 = .ok (.aload_n 0, 1) := by decide +kernel
theorem d_M_cell_103 : decode b_M_cell 103 = .ok (.getfield 25, 3) := by decide +kernel
theorem d_M_cell_106 : decode b_M_cell 106 = .ok (.sipush 1024, 3) := by decide +kernel
theorem d_M_cell_109 : decode b_M_cell 109 = .ok (.iload_n 1, 1) := by decide +kernel
theorem d_M_cell_110 : decode b_M_cell 110 = .ok (.imul, 1) := by decide +kernel
theorem d_M_cell_111 : decode b_M_cell 111 = .ok (.iload_n 2, 1) := by decide +kernel
theorem d_M_cell_112 : decode b_M_cell 112 = .ok (.iadd, 1) := by decide +kernel
theorem d_M_cell_113 : decode b_M_cell 113 = .ok (.iaload, 1) := by decide +kernel
theorem d_M_cell_114 : decode b_M_cell 114 = .ok (.ireturn, 1) := by decide +kernel
theorem d_M_merge_0 : decode b_M_merge 0 = .ok (.iload_n 1, 1) := by decide +kernel
theorem d_M_merge_1 : decode b_M_merge 1 = .ok (.invokestatic 57, 3) := by decide +kernel
theorem d_M_merge_4 : decode b_M_merge 4 = .ok (.ifCond .eq 14, 3) := by decide +kernel
theorem d_M_merge_7 : decode b_M_merge 7 = .ok (.iload_n 2, 1) := by decide +kernel
theorem d_M_merge_8 : decode b_M_merge 8 = .ok (.invokestatic 57, 3) := by decide +kernel
theorem d_M_merge_11 : decode b_M_merge 11 = .ok (.ifCond .eq 7, 3) := by decide +kernel
theorem d_M_merge_14 : decode b_M_merge 14 = .ok (.iconst 1, 1) := by decide +kernel
theorem d_M_merge_15 : decode b_M_merge 15 = .ok (.goto 4, 3) := by decide +kernel
theorem d_M_merge_18 : decode b_M_merge 18 = .ok (.iconst 0, 1) := by decide +kernel
theorem d_M_merge_19 : decode b_M_merge 19 = .ok (.istore_n 3, 1) := by decide +kernel
theorem d_M_merge_20 : decode b_M_merge 20 = .ok (.iload_n 3, 1) := by decide +kernel
theorem d_M_merge_21 : decode b_M_merge 21 = .ok (.ifCond .eq 25, 3) := by decide +kernel
theorem d_M_merge_24 : decode b_M_merge 24 = .ok (.aload_n 0, 1) := by decide +kernel
theorem d_M_merge_25 : decode b_M_merge 25 = .ok (.getfield 7, 3) := by decide +kernel
theorem d_M_merge_28 : decode b_M_merge 28 = .ok (.iload_n 1, 1) := by decide +kernel
theorem d_M_merge_29 : decode b_M_merge 29 = .ok (.iaload, 1) := by decide +kernel
theorem d_M_merge_30 : decode b_M_merge 30 = .ok (.ifCond .le 16, 3) := by decide +kernel
theorem d_M_merge_33 : decode b_M_merge 33 = .ok (.aload_n 0, 1) := by decide +kernel
theorem d_M_merge_34 : decode b_M_merge 34 = .ok (.getfield 7, 3) := by decide +kernel
theorem d_M_merge_37 : decode b_M_merge 37 = .ok (.iload_n 2, 1) := by decide +kernel
theorem d_M_merge_38 : decode b_M_merge 38 = .ok (.iaload, 1) := by decide +kernel
theorem d_M_merge_39 : decode b_M_merge 39 = .ok (.ifCond .le 7, 3) := by decide +kernel
theorem d_M_merge_42 : decode b_M_merge 42 = .ok (.iconst 1, 1) := by decide +kernel
theorem d_M_merge_43 : decode b_M_merge 43 = .ok (.goto 4, 3) := by decide +kernel
theorem d_M_merge_46 : decode b_M_merge 46 = .ok (.iconst 0, 1) := by decide +kernel
theorem d_M_merge_47 : decode b_M_merge 47 = .ok (.istore 4, 2) := by decide +kernel
theorem d_M_merge_49 : decode b_M_merge 49 = .ok (.iload 4, 2) := by decide +kernel
theorem d_M_merge_51 : decode b_M_merge 51 = .ok (.ifCond .eq 57, 3) := by decide +kernel
theorem d_M_merge_54 : decode b_M_merge 54 = .ok (.aload_n 0, 1) := by decide +kernel
theorem d_M_merge_55 : decode b_M_merge 55 = .ok (.getfield 7, 3) := by decide +kernel
theorem d_M_merge_58 : decode b_M_merge 58 = .ok (.iload_n 1, 1) := by decide +kernel
theorem d_M_merge_59 : decode b_M_merge 59 = .ok (.iaload, 1) := by decide +kernel
theorem d_M_merge_60 : decode b_M_merge 60 = .ok (.iconst 3, 1) := by decide +kernel
theorem d_M_merge_61 : decode b_M_merge 61 = .ok (.if_icmp .ne 47, 3) := by decide +kernel
theorem d_M_merge_64 : decode b_M_merge 64 = .ok (.aload_n 0, 1) := by decide +kernel
theorem d_M_merge_65 : decode b_M_merge 65 = .ok (.getfield 7, 3) := by decide +kernel
theorem d_M_merge_68 : decode b_M_merge 68 = .ok (.iload_n 2, 1) := by decide +kernel
theorem d_M_merge_69 : decode b_M_merge 69 = .ok (.iaload, 1) := by decide +kernel
theorem d_M_merge_70 : decode b_M_merge 70 = .ok (.iconst 3, 1) := by decide +kernel
theorem d_M_merge_71 : decode b_M_merge 71 = .ok (.if_icmp .ne 37, 3) := by decide +kernel
theorem d_M_merge_74 : decode b_M_merge 74 = .ok (.aload_n 0, 1) := by decide +kernel
theorem d_M_merge_75 : decode b_M_merge 75 = .ok (.getfield 13, 3) := by decide +kernel
theorem d_M_merge_78 : decode b_M_merge 78 = .ok (.iload_n 1, 1) := by decide +kernel
theorem d_M_merge_79 : decode b_M_merge 79 = .ok (.iaload, 1) := by decide +kernel
theorem d_M_merge_80 : decode b_M_merge 80 = .ok (.aload_n 0, 1) := by decide +kernel
theorem d_M_merge_81 : decode b_M_merge 81 = .ok (.getfield 13, 3) := by decide +kernel
theorem d_M_merge_84 : decode b_M_merge 84 = .ok (.iload_n 2, 1) := by decide +kernel
theorem d_M_merge_85 : decode b_M_merge 85 = .ok (.iaload, 1) := by decide +kernel
theorem d_M_merge_86 : decode b_M_merge 86 = .ok (.if_icmp .ne 22, 3) := by decide +kernel
theorem d_M_merge_89 : decode b_M_merge 89 = .ok (.aload_n 0, 1) := by decide +kernel
theorem d_M_merge_90 : decode b_M_merge 90 = .ok (.getfield 16, 3) := by decide +kernel
theorem d_M_merge_93 : decode b_M_merge 93 = .ok (.iload_n 1, 1) := by decide +kernel
theorem d_M_merge_94 : decode b_M_merge 94 = .ok (.iaload, 1) := by decide +kernel
theorem d_M_merge_95 : decode b_M_merge 95 = .ok (.aload_n 0, 1) := by decide +kernel
theorem d_M_merge_96 : decode b_M_merge 96 = .ok (.getfield 16, 3) := by decide +kernel
theorem d_M_merge_99 : decode b_M_merge 99 = .ok (.iload_n 2, 1) := by decide +kernel
theorem d_M_merge_100 : decode b_M_merge 100 = .ok (.iaload, 1) := by decide +kernel
theorem d_M_merge_101 : decode b_M_merge 101 = .ok (.if_icmp .ne 7, 3) := by decide +kernel
theorem d_M_merge_104 : decode b_M_merge 104 = .ok (.iconst 1, 1) := by decide +kernel
theorem d_M_merge_105 : decode b_M_merge 105 = .ok (.goto 4, 3) := by decide +kernel
theorem d_M_merge_108 : decode b_M_merge 108 = .ok (.iconst 0, 1) := by decide +kernel
theorem d_M_merge_109 : decode b_M_merge 109 = .ok (.istore 5, 2) := by decide +kernel
theorem d_M_merge_111 : decode b_M_merge 111 = .ok (.aload_n 0, 1) := by decide +kernel
theorem d_M_merge_112 : decode b_M_merge 112 = .ok (.iload_n 3, 1) := by decide +kernel
theorem d_M_merge_113 : decode b_M_merge 113 = .ok (.ifCond .ne 7, 3) := by decide +kernel
theorem d_M_merge_116 : decode b_M_merge 116 = .ok (.iconst 1, 1) := by decide +kernel
theorem d_M_merge_117 : decode b_M_merge 117 = .ok (.goto 50, 3) := by decide +kernel
theorem d_M_merge_120 : decode b_M_merge 120 = .ok (.iload 4, 2) := by decide +kernel
theorem d_M_merge_122 : decode b_M_merge 122 = .ok (.ifCond .ne 7, 3) := by decide +kernel
theorem d_M_merge_125 : decode b_M_merge 125 = .ok (.iconst 2, 1) := by decide +kernel
theorem d_M_merge_126 : decode b_M_merge 126 = .ok (.goto 41, 3) := by decide +kernel
theorem d_M_merge_129 : decode b_M_merge 129 = .ok (.iload 5, 2) := by decide +kernel
theorem d_M_merge_131 : decode b_M_merge 131 = .ok (.ifCond .ne 7, 3) := by decide +kernel
theorem d_M_merge_134 : decode b_M_merge 134 = .ok (.iconst 3, 1) := by decide +kernel
theorem d_M_merge_135 : decode b_M_merge 135 = .ok (.goto 32, 3) := by decide +kernel
theorem d_M_merge_138 : decode b_M_merge 138 = .ok (.aload_n 0, 1) := by decide +kernel
theorem d_M_merge_139 : decode b_M_merge 139 = .ok (.getfield 19, 3) := by decide +kernel
theorem d_M_merge_142 : decode b_M_merge 142 = .ok (.iload_n 1, 1) := by decide +kernel
theorem d_M_merge_143 : decode b_M_merge 143 = .ok (.iaload, 1) := by decide +kernel
theorem d_M_merge_144 : decode b_M_merge 144 = .ok (.aload_n 0, 1) := by decide +kernel
theorem d_M_merge_145 : decode b_M_merge 145 = .ok (.getfield 19, 3) := by decide +kernel
theorem d_M_merge_148 : decode b_M_merge 148 = .ok (.iload_n 2, 1) := by decide +kernel
theorem d_M_merge_149 : decode b_M_merge 149 = .ok (.iaload, 1) := by decide +kernel
theorem d_M_merge_150 : decode b_M_merge 150 = .ok (.iadd, 1) := by decide +kernel
theorem d_M_merge_151 : decode b_M_merge 151 = .ok (.iconst 1, 1) := by decide +kernel
theorem d_M_merge_152 : decode b_M_merge 152 = .ok (.aload_n 0, 1) := by decide +kernel
theorem d_M_merge_153 : decode b_M_merge 153 = .ok (.getfield 13, 3) := by decide +kernel
theorem d_M_merge_156 : decode b_M_merge 156 = .ok (.iload_n 1, 1) := by decide +kernel
theorem d_M_merge_157 : decode b_M_merge 157 = .ok (.iaload, 1) := by decide +kernel
theorem d_M_merge_158 : decode b_M_merge 158 = .ok (.ishl, 1) := by decide +kernel
theorem d_M_merge_159 : decode b_M_merge 159 = .ok (.if_icmp .le 7, 3) := by decide +kernel
theorem d_M_merge_162 : decode b_M_merge 162 = .ok (.iconst 4, 1) := by decide +kernel
theorem d_M_merge_163 : decode b_M_merge 163 = .ok (.goto 4, 3) := by decide +kernel
theorem d_M_merge_166 : decode b_M_merge 166 = .ok (.iconst 0, 1) := by decide +kernel
theorem d_M_merge_167 : decode b_M_merge 167 = .ok (.putfield 43, 3) := by decide +kernel
theorem d_M_merge_170 : decode b_M_merge 170 = .ok (.aload_n 0, 1) := by decide +kernel
theorem d_M_merge_171 : decode b_M_merge 171 = .ok (.getfield 43, 3) := by decide +kernel
theorem d_M_merge_174 : decode b_M_merge 174 = .ok (.ifCond .le 5, 3) := by decide +kernel
theorem d_M_merge_177 : decode b_M_merge 177 = .ok (.iconst 0, 1) := by decide +kernel
theorem d_M_merge_178 : decode b_M_merge 178 = .ok (.ireturn, 1) := by decide +kernel
theorem d_M_merge_179 : decode b_M_merge 179 = .ok (.aload_n 0, 1) := by decide +kernel
theorem d_M_merge_180 : decode b_M_merge 180 = .ok (.getfield 19, 3) := by decide +kernel
theorem d_M_merge_183 : decode b_M_merge 183 = .ok (.iload_n 2, 1) := by decide +kernel
theorem d_M_merge_184 : decode b_M_merge 184 = .ok (.iaload, 1) := by decide +kernel
theorem d_M_merge_185 : decode b_M_merge 185 = .ok (.istore 6, 2) := by decide +kernel
theorem d_M_merge_187 : decode b_M_merge 187 = .ok (.iconst 0, 1) := by decide +kernel
theorem d_M_merge_188 : decode b_M_merge 188 = .ok (.istore 7, 2) := by decide +kernel
theorem d_M_merge_190 : decode b_M_merge 190 = .ok (.iload 7, 2) := by decide +kernel
theorem d_M_merge_192 : decode b_M_merge 192 = .ok (.iload 6, 2) := by decide +kernel
theorem d_M_merge_194 : decode b_M_merge 194 = .ok (.if_icmp .ge 59, 3) := by decide +kernel
theorem d_M_merge_197 : decode b_M_merge 197 = .ok (.aload_n 0, 1) := by decide +kernel
theorem d_M_merge_198 : decode b_M_merge 198 = .ok (.getfield 28, 3) := by decide +kernel
theorem d_M_merge_201 : decode b_M_merge 201 = .ok (.sipush 256, 3) := by decide +kernel
theorem d_M_merge_204 : decode b_M_merge 204 = .ok (.iload_n 2, 1) := by decide +kernel
theorem d_M_merge_205 : decode b_M_merge 205 = .ok (.imul, 1) := by decide +kernel
theorem d_M_merge_206 : decode b_M_merge 206 = .ok (.iload_n 1, 1) := by decide +kernel
theorem d_M_merge_207 : decode b_M_merge 207 = .ok (.iload_n 2, 1) := by decide +kernel
theorem d_M_merge_208 : decode b_M_merge 208 = .ok (.if_icmp .ne 10, 3) := by decide +kernel
theorem d_M_merge_211 : decode b_M_merge 211 = .ok (.iconst 2, 1) := by decide +kernel
theorem d_M_merge_212 : decode b_M_merge 212 = .ok (.iload 7, 2) := by decide +kernel
theorem d_M_merge_214 : decode b_M_merge 214 = .ok (.imul, 1) := by decide +kernel
theorem d_M_merge_215 : decode b_M_merge 215 = .ok (.goto 5, 3) := by decide +kernel
theorem d_M_merge_218 : decode b_M_merge 218 = .ok (.iload 7, 2) := by decide +kernel
theorem d_M_merge_220 : decode b_M_merge 220 = .ok (.iadd, 1) := by decide +kernel
theorem d_M_merge_221 : decode b_M_merge 221 = .ok (.iaload, 1) := by decide +kernel
theorem d_M_merge_222 : decode b_M_merge 222 = .ok (.istore 8, 2) := by decide +kernel
theorem d_M_merge_224 : decode b_M_merge 224 = .ok (.aload_n 0, 1) := by decide +kernel
theorem d_M_merge_225 : decode b_M_merge 225 = .ok (.iload_n 1, 1) := by decide +kernel
theorem d_M_merge_226 : decode b_M_merge 226 = .ok (.aload_n 0, 1) := by decide +kernel
theorem d_M_merge_227 : decode b_M_merge 227 = .ok (.getfield 19, 3) := by decide +kernel
theorem d_M_merge_230 : decode b_M_merge 230 = .ok (.iload_n 1, 1) := by decide +kernel
theorem d_M_merge_231 : decode b_M_merge 231 = .ok (.iaload, 1) := by decide +kernel
theorem d_M_merge_232 : decode b_M_merge 232 = .ok (.iload 8, 2) := by decide +kernel
theorem d_M_merge_234 : decode b_M_merge 234 = .ok (.invokevirtual 97, 3) := by decide +kernel
theorem d_M_merge_237 : decode b_M_merge 237 = .ok (.aload_n 0, 1) := by decide +kernel
theorem d_M_merge_238 : decode b_M_merge 238 = .ok (.getfield 19, 3) := by decide +kernel
theorem d_M_merge_241 : decode b_M_merge 241 = .ok (.iload_n 1, 1) := by decide +kernel
theorem d_M_merge_242 : decode b_M_merge 242 = .ok (.dup2, 1) := by decide +kernel
theorem d_M_merge_243 : decode b_M_merge 243 = .ok (.iaload, 1) := by decide +kernel
theorem d_M_merge_244 : decode b_M_merge 244 = .ok (.iconst 1, 1) := by decide +kernel
theorem d_M_merge_245 : decode b_M_merge 245 = .ok (.iadd, 1) := by decide +kernel
theorem d_M_merge_246 : decode b_M_merge 246 = .ok (.iastore, 1) := by decide +kernel
theorem d_M_merge_247 : decode b_M_merge 247 = .ok (.iinc 7 1, 3) := by decide +kernel
theorem d_M_merge_250 : decode b_M_merge 250 = .ok (.goto (-60), 3) := by decide +kernel
theorem d_M_merge_253 : decode b_M_merge 253 = .ok (.aload_n 0, 1) := by decide +kernel
theorem d_M_merge_254 : decode b_M_merge 254 = .ok (.getfield 19, 3) := by decide +kernel
theorem d_M_merge_257 : decode b_M_merge 257 = .ok (.iload_n 1, 1) := by decide +kernel
theorem d_M_merge_258 : decode b_M_merge 258 = .ok (.iaload, 1) := by decide +kernel
theorem d_M_merge_259 : decode b_M_merge 259 = .ok (.ireturn, 1) := by decide +kernel
theorem d_M_grow_0 : decode b_M_grow 0 = .ok (.aload_n 0, 1) := by decide +kernel
theorem d_M_grow_1 : decode b_M_grow 1 = .ok (.aload_n 0, 1) := by decide +kernel
theorem d_M_grow_2 : decode b_M_grow 2 = .ok (.iload_n 1, 1) := by decide +kernel
theorem d_M_grow_3 : decode b_M_grow 3 = .ok (.invokevirtual 116, 3) := by decide +kernel
theorem d_M_grow_6 : decode b_M_grow 6 = .ok (.ifCond .le 11, 3) := by decide +kernel
theorem d_M_grow_9 : decode b_M_grow 9 = .ok (.aload_n 0, 1) := by decide +kernel
theorem d_M_grow_10 : decode b_M_grow 10 = .ok (.iload_n 1, 1) := by decide +kernel
theorem d_M_grow_11 : decode b_M_grow 11 = .ok (.invokevirtual 116, 3) := by decide +kernel
theorem d_M_grow_14 : decode b_M_grow 14 = .ok (.goto 39, 3) := by decide +kernel
theorem d_M_grow_17 : decode b_M_grow 17 = .ok (.aload_n 0, 1) := by decide +kernel
theorem d_M_grow_18 : decode b_M_grow 18 = .ok (.getfield 7, 3) := by decide +kernel
theorem d_M_grow_21 : decode b_M_grow 21 = .ok (.iload_n 1, 1) := by decide +kernel
theorem d_M_grow_22 : decode b_M_grow 22 = .ok (.iaload, 1) := by decide +kernel
theorem d_M_grow_23 : decode b_M_grow 23 = .ok (.iconst 3, 1) := by decide +kernel
theorem d_M_grow_24 : decode b_M_grow 24 = .ok (.if_icmp .ne 24, 3) := by decide +kernel
theorem d_M_grow_27 : decode b_M_grow 27 = .ok (.aload_n 0, 1) := by decide +kernel
theorem d_M_grow_28 : decode b_M_grow 28 = .ok (.getfield 13, 3) := by decide +kernel
theorem d_M_grow_31 : decode b_M_grow 31 = .ok (.iload_n 1, 1) := by decide +kernel
theorem d_M_grow_32 : decode b_M_grow 32 = .ok (.iaload, 1) := by decide +kernel
theorem d_M_grow_33 : decode b_M_grow 33 = .ok (.bipush 8, 2) := by decide +kernel
theorem d_M_grow_35 : decode b_M_grow 35 = .ok (.if_icmp .eq 13, 3) := by decide +kernel
theorem d_M_grow_38 : decode b_M_grow 38 = .ok (.aload_n 0, 1) := by decide +kernel
theorem d_M_grow_39 : decode b_M_grow 39 = .ok (.getfield 16, 3) := by decide +kernel
theorem d_M_grow_42 : decode b_M_grow 42 = .ok (.iload_n 1, 1) := by decide +kernel
theorem d_M_grow_43 : decode b_M_grow 43 = .ok (.iaload, 1) := by decide +kernel
theorem d_M_grow_44 : decode b_M_grow 44 = .ok (.iconst 4, 1) := by decide +kernel
theorem d_M_grow_45 : decode b_M_grow 45 = .ok (.if_icmp .ne 7, 3) := by decide +kernel
theorem d_M_grow_48 : decode b_M_grow 48 = .ok (.iconst 3, 1) := by decide +kernel
theorem d_M_grow_49 : decode b_M_grow 49 = .ok (.goto 4, 3) := by decide +kernel
theorem d_M_grow_52 : decode b_M_grow 52 = .ok (.iconst 0, 1) := by decide +kernel
theorem d_M_grow_53 : decode b_M_grow 53 = .ok (.putfield 43, 3) := by decide +kernel
theorem d_M_grow_56 : decode b_M_grow 56 = .ok (.aload_n 0, 1) := by decide +kernel
theorem d_M_grow_57 : decode b_M_grow 57 = .ok (.getfield 43, 3) := by decide +kernel
theorem d_M_grow_60 : decode b_M_grow 60 = .ok (.ifCond .le 4, 3) := by decide +kernel
theorem d_M_grow_63 : decode b_M_grow 63 = .ok (.return_, 1) := by decide +kernel
theorem d_M_grow_64 : decode b_M_grow 64 = .ok (.aload_n 0, 1) := by decide +kernel
theorem d_M_grow_65 : decode b_M_grow 65 = .ok (.getfield 13, 3) := by decide +kernel
theorem d_M_grow_68 : decode b_M_grow 68 = .ok (.iload_n 1, 1) := by decide +kernel
theorem d_M_grow_69 : decode b_M_grow 69 = .ok (.dup2, 1) := by decide +kernel
theorem d_M_grow_70 : decode b_M_grow 70 = .ok (.iaload, 1) := by decide +kernel
theorem d_M_grow_71 : decode b_M_grow 71 = .ok (.iconst 1, 1) := by decide +kernel
theorem d_M_grow_72 : decode b_M_grow 72 = .ok (.iadd, 1) := by decide +kernel
theorem d_M_grow_73 : decode b_M_grow 73 = .ok (.iastore, 1) := by decide +kernel
theorem d_M_grow_74 : decode b_M_grow 74 = .ok (.aload_n 0, 1) := by decide +kernel
theorem d_M_grow_75 : decode b_M_grow 75 = .ok (.getfield 16, 3) := by decide +kernel
theorem d_M_grow_78 : decode b_M_grow 78 = .ok (.iload_n 1, 1) := by decide +kernel
theorem d_M_grow_79 : decode b_M_grow 79 = .ok (.dup2, 1) := by decide +kernel
theorem d_M_grow_80 : decode b_M_grow 80 = .ok (.iaload, 1) := by decide +kernel
theorem d_M_grow_81 : decode b_M_grow 81 = .ok (.iconst 1, 1) := by decide +kernel
theorem d_M_grow_82 : decode b_M_grow 82 = .ok (.isub, 1) := by decide +kernel
theorem d_M_grow_83 : decode b_M_grow 83 = .ok (.iastore, 1) := by decide +kernel
theorem d_M_grow_84 : decode b_M_grow 84 = .ok (.iconst 0, 1) := by decide +kernel
theorem d_M_grow_85 : decode b_M_grow 85 = .ok (.istore_n 2, 1) := by decide +kernel
theorem d_M_grow_86 : decode b_M_grow 86 = .ok (.iload_n 2, 1) := by decide +kernel
theorem d_M_grow_87 : decode b_M_grow 87 = .ok (.aload_n 0, 1) := by decide +kernel
theorem d_M_grow_88 : decode b_M_grow 88 = .ok (.getfield 19, 3) := by decide +kernel
theorem d_M_grow_91 : decode b_M_grow 91 = .ok (.iload_n 1, 1) := by decide +kernel
theorem d_M_grow_92 : decode b_M_grow 92 = .ok (.iaload, 1) := by decide +kernel
theorem d_M_grow_93 : decode b_M_grow 93 = .ok (.if_icmp .ge 79, 3) := by decide +kernel
theorem d_M_grow_96 : decode b_M_grow 96 = .ok (.aload_n 0, 1) := by decide +kernel
theorem d_M_grow_97 : decode b_M_grow 97 = .ok (.getfield 28, 3) := by decide +kernel
theorem d_M_grow_100 : decode b_M_grow 100 = .ok (.sipush 256, 3) := by decide +kernel
theorem d_M_grow_103 : decode b_M_grow 103 = .ok (.iload_n 1, 1) := by decide +kernel
theorem d_M_grow_104 : decode b_M_grow 104 = .ok (.imul, 1) := by decide +kernel
theorem d_M_grow_105 : decode b_M_grow 105 = .ok (.iload_n 2, 1) := by decide +kernel
theorem d_M_grow_106 : decode b_M_grow 106 = .ok (.iadd, 1) := by decide +kernel
theorem d_M_grow_107 : decode b_M_grow 107 = .ok (.iaload, 1) := by decide +kernel
theorem d_M_grow_108 : decode b_M_grow 108 = .ok (.istore_n 3, 1) := by decide +kernel
theorem d_M_grow_109 : decode b_M_grow 109 = .ok (.iload_n 3, 1) := by decide +kernel
theorem d_M_grow_110 : decode b_M_grow 110 = .ok (.ldc 129, 2) := by decide +kernel
theorem d_M_grow_112 : decode b_M_grow 112 = .ok (.iand, 1) := by decide +kernel
theorem d_M_grow_113 : decode b_M_grow 113 = .ok (.istore 4, 2) := by decide +kernel
theorem d_M_grow_115 : decode b_M_grow 115 = .ok (.iconst 2, 1) := by decide +kernel
theorem d_M_grow_116 : decode b_M_grow 116 = .ok (.iload_n 3, 1) := by decide +kernel
theorem d_M_grow_117 : decode b_M_grow 117 = .ok (.bipush 20, 2) := by decide +kernel
theorem d_M_grow_119 : decode b_M_grow 119 = .ok (.ishr, 1) := by decide +kernel
theorem d_M_grow_120 : decode b_M_grow 120 = .ok (.imul, 1) := by decide +kernel
theorem d_M_grow_121 : decode b_M_grow 121 = .ok (.iload 4, 2) := by decide +kernel
theorem d_M_grow_123 : decode b_M_grow 123 = .ok (.aload_n 0, 1) := by decide +kernel
theorem d_M_grow_124 : decode b_M_grow 124 = .ok (.getfield 16, 3) := by decide +kernel
theorem d_M_grow_127 : decode b_M_grow 127 = .ok (.iload_n 1, 1) := by decide +kernel
theorem d_M_grow_128 : decode b_M_grow 128 = .ok (.iaload, 1) := by decide +kernel
theorem d_M_grow_129 : decode b_M_grow 129 = .ok (.ishr, 1) := by decide +kernel
theorem d_M_grow_130 : decode b_M_grow 130 = .ok (.iconst 1, 1) := by decide +kernel
theorem d_M_grow_131 : decode b_M_grow 131 = .ok (.iand, 1) := by decide +kernel
theorem d_M_grow_132 : decode b_M_grow 132 = .ok (.iadd, 1) := by decide +kernel
theorem d_M_grow_133 : decode b_M_grow 133 = .ok (.istore 5, 2) := by decide +kernel
theorem d_M_grow_135 : decode b_M_grow 135 = .ok (.aload_n 0, 1) := by decide +kernel
theorem d_M_grow_136 : decode b_M_grow 136 = .ok (.getfield 28, 3) := by decide +kernel
theorem d_M_grow_139 : decode b_M_grow 139 = .ok (.sipush 256, 3) := by decide +kernel
theorem d_M_grow_142 : decode b_M_grow 142 = .ok (.iload_n 1, 1) := by decide +kernel
theorem d_M_grow_143 : decode b_M_grow 143 = .ok (.imul, 1) := by decide +kernel
theorem d_M_grow_144 : decode b_M_grow 144 = .ok (.iload_n 2, 1) := by decide +kernel
theorem d_M_grow_145 : decode b_M_grow 145 = .ok (.iadd, 1) := by decide +kernel
theorem d_M_grow_146 : decode b_M_grow 146 = .ok (.iload 5, 2) := by decide +kernel
theorem d_M_grow_148 : decode b_M_grow 148 = .ok (.bipush 20, 2) := by decide +kernel
theorem d_M_grow_150 : decode b_M_grow 150 = .ok (.ishl, 1) := by decide +kernel
theorem d_M_grow_151 : decode b_M_grow 151 = .ok (.iload 4, 2) := by decide +kernel
theorem d_M_grow_153 : decode b_M_grow 153 = .ok (.iconst 1, 1) := by decide +kernel
theorem d_M_grow_154 : decode b_M_grow 154 = .ok (.aload_n 0, 1) := by decide +kernel
theorem d_M_grow_155 : decode b_M_grow 155 = .ok (.getfield 16, 3) := by decide +kernel
theorem d_M_grow_158 : decode b_M_grow 158 = .ok (.iload_n 1, 1) := by decide +kernel
theorem d_M_grow_159 : decode b_M_grow 159 = .ok (.iaload, 1) := by decide +kernel
theorem d_M_grow_160 : decode b_M_grow 160 = .ok (.ishl, 1) := by decide +kernel
theorem d_M_grow_161 : decode b_M_grow 161 = .ok (.iconst 1, 1) := by decide +kernel
theorem d_M_grow_162 : decode b_M_grow 162 = .ok (.isub, 1) := by decide +kernel
theorem d_M_grow_163 : decode b_M_grow 163 = .ok (.iand, 1) := by decide +kernel
theorem d_M_grow_164 : decode b_M_grow 164 = .ok (.ior, 1) := by decide +kernel
theorem d_M_grow_165 : decode b_M_grow 165 = .ok (.iastore, 1) := by decide +kernel
theorem d_M_grow_166 : decode b_M_grow 166 = .ok (.iinc 2 1, 3) := by decide +kernel
theorem d_M_grow_169 : decode b_M_grow 169 = .ok (.goto (-83), 3) := by decide +kernel
theorem d_M_grow_172 : decode b_M_grow 172 = .ok (.return_, 1) := by decide +kernel
theorem d_M_clear_0 : decode b_M_clear 0 = .ok (.aload_n 0, 1) := by decide +kernel
theorem d_M_clear_1 : decode b_M_clear 1 = .ok (.aload_n 0, 1) := by decide +kernel
theorem d_M_clear_2 : decode b_M_clear 2 = .ok (.iload_n 1, 1) := by decide +kernel
theorem d_M_clear_3 : decode b_M_clear 3 = .ok (.invokevirtual 116, 3) := by decide +kernel
theorem d_M_clear_6 : decode b_M_clear 6 = .ok (.putfield 43, 3) := by decide +kernel
theorem d_M_clear_9 : decode b_M_clear 9 = .ok (.aload_n 0, 1) := by decide +kernel
theorem d_M_clear_10 : decode b_M_clear 10 = .ok (.getfield 43, 3) := by decide +kernel
theorem d_M_clear_13 : decode b_M_clear 13 = .ok (.ifCond .le 5, 3) := by decide +kernel
theorem d_M_clear_16 : decode b_M_clear 16 = .ok (.iconst 0, 1) := by decide +kernel
theorem d_M_clear_17 : decode b_M_clear 17 = .ok (.ireturn, 1) := by decide +kernel
theorem d_M_clear_18 : decode b_M_clear 18 = .ok (.aload_n 0, 1) := by decide +kernel
theorem d_M_clear_19 : decode b_M_clear 19 = .ok (.getfield 19, 3) := by decide +kernel
theorem d_M_clear_22 : decode b_M_clear 22 = .ok (.iload_n 1, 1) := by decide +kernel
theorem d_M_clear_23 : decode b_M_clear 23 = .ok (.iaload, 1) := by decide +kernel
theorem d_M_clear_24 : decode b_M_clear 24 = .ok (.istore_n 2, 1) := by decide +kernel
theorem d_M_clear_25 : decode b_M_clear 25 = .ok (.aload_n 0, 1) := by decide +kernel
theorem d_M_clear_26 : decode b_M_clear 26 = .ok (.iload_n 1, 1) := by decide +kernel
theorem d_M_clear_27 : decode b_M_clear 27 = .ok (.invokevirtual 112, 3) := by decide +kernel
theorem d_M_clear_30 : decode b_M_clear 30 = .ok (.iload_n 2, 1) := by decide +kernel
theorem d_M_clear_31 : decode b_M_clear 31 = .ok (.ireturn, 1) := by decide +kernel
