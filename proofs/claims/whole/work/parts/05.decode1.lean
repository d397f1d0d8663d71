theorem d_F_init_0 : decode b_F_init 0 = .ok (.aload_n 0, 1) := by decide +kernel
theorem d_F_init_1 : decode b_F_init 1 = .ok (.invokespecial 1, 3) := by decide +kernel
theorem d_F_init_4 : decode b_F_init 4 = .ok (.aload_n 0, 1) := by decide +kernel
theorem d_F_init_5 : decode b_F_init 5 = .ok (.iconst 4, 1) := by decide +kernel
theorem d_F_init_6 : decode b_F_init 6 = .ok (.anewarray 9, 3) := by decide +kernel
theorem d_F_init_9 : decode b_F_init 9 = .ok (.putfield 11, 3) := by decide +kernel
theorem d_F_init_12 : decode b_F_init 12 = .ok (.aload_n 0, 1) := by decide +kernel
theorem d_F_init_13 : decode b_F_init 13 = .ok (.bipush 12, 2) := by decide +kernel
theorem d_F_init_15 : decode b_F_init 15 = .ok (.anewarray 9, 3) := by decide +kernel
theorem d_F_init_18 : decode b_F_init 18 = .ok (.putfield 15, 3) := by decide +kernel
theorem d_F_init_21 : decode b_F_init 21 = .ok (.return_, 1) := by decide +kernel
theorem d_F_mix_0 : decode b_F_mix 0 = .ok (.lload_n 1, 1) := by decide +kernel
theorem d_F_mix_1 : decode b_F_mix 1 = .ok (.iload_n 3, 1) := by decide +kernel
theorem d_F_mix_2 : decode b_F_mix 2 = .ok (.invokestatic 18, 3) := by decide +kernel
theorem d_F_mix_5 : decode b_F_mix 5 = .ok (.lreturn, 1) := by decide +kernel
theorem d_F_make_0 : decode b_F_make 0 = .ok (.iload_n 1, 1) := by decide +kernel
theorem d_F_make_1 : decode b_F_make 1 = .ok (.invokestatic 22, 3) := by decide +kernel
theorem d_F_make_4 : decode b_F_make 4 = .ok (.iload_n 2, 1) := by decide +kernel
theorem d_F_make_5 : decode b_F_make 5 = .ok (.iload_n 3, 1) := by decide +kernel
theorem d_F_make_6 : decode b_F_make 6 = .ok (.iload 4, 2) := by decide +kernel
theorem d_F_make_8 : decode b_F_make 8 = .ok (.invokestatic 26, 3) := by decide +kernel
theorem d_F_make_11 : decode b_F_make 11 = .ok (.ifCond .ne 13, 3) := by decide +kernel
theorem d_F_make_14 : decode b_F_make 14 = .ok (.new 30, 3) := by decide +kernel
theorem d_F_make_17 : decode b_F_make 17 = .ok (.dup, 1) := by decide +kernel
theorem d_F_make_18 : decode b_F_make 18 = .ok (.ldc 32, 2) := by decide +kernel
theorem d_F_make_20 : decode b_F_make 20 = .ok (.invokespecial 34, 3) := by decide +kernel
theorem d_F_make_23 : decode b_F_make 23 = .ok (.athrow, 1) := by decide +kernel
theorem d_F_make_24 : decode b_F_make 24 = .ok (.aload_n 0, 1) := by decide +kernel
theorem d_F_make_25 : decode b_F_make 25 = .ok (.iload_n 1, 1) := by decide +kernel
theorem d_F_make_26 : decode b_F_make 26 = .ok (.iload_n 2, 1) := by decide +kernel
theorem d_F_make_27 : decode b_F_make 27 = .ok (.invokevirtual 37, 3) := by decide +kernel
theorem d_F_make_30 : decode b_F_make 30 = .ok (.astore 5, 2) := by decide +kernel
theorem d_F_make_32 : decode b_F_make 32 = .ok (.aload 5, 2) := by decide +kernel
theorem d_F_make_34 : decode b_F_make 34 = .ok (.iload_n 3, 1) := by decide +kernel
theorem d_F_make_35 : decode b_F_make 35 = .ok (.iload 4, 2) := by decide +kernel
theorem d_F_make_37 : decode b_F_make 37 = .ok (.invokevirtual 41, 3) := by decide +kernel
theorem d_F_make_40 : decode b_F_make 40 = .ok (.aload_n 0, 1) := by decide +kernel
theorem d_F_make_41 : decode b_F_make 41 = .ok (.getfield 11, 3) := by decide +kernel
theorem d_F_make_44 : decode b_F_make 44 = .ok (.iload_n 1, 1) := by decide +kernel
theorem d_F_make_45 : decode b_F_make 45 = .ok (.aload 5, 2) := by decide +kernel
theorem d_F_make_47 : decode b_F_make 47 = .ok (.aastore, 1) := by decide +kernel
theorem d_F_make_48 : decode b_F_make 48 = .ok (.return_, 1) := by decide +kernel
theorem d_F_add_0 : decode b_F_add 0 = .ok (.aload_n 0, 1) := by decide +kernel
theorem d_F_add_1 : decode b_F_add 1 = .ok (.iload_n 1, 1) := by decide +kernel
theorem d_F_add_2 : decode b_F_add 2 = .ok (.invokevirtual 45, 3) := by decide +kernel
theorem d_F_add_5 : decode b_F_add 5 = .ok (.astore 4, 2) := by decide +kernel
theorem d_F_add_7 : decode b_F_add 7 = .ok (.aload 4, 2) := by decide +kernel
theorem d_F_add_9 : decode b_F_add 9 = .ok (.lload_n 2, 1) := by decide +kernel
theorem d_F_add_10 : decode b_F_add 10 = .ok (.invokevirtual 49, 3) := by decide +kernel
theorem d_F_add_13 : decode b_F_add 13 = .ok (.ifCond .ne 13, 3) := by decide +kernel
theorem d_F_add_16 : decode b_F_add 16 = .ok (.new 53, 3) := by decide +kernel
theorem d_F_add_19 : decode b_F_add 19 = .ok (.dup, 1) := by decide +kernel
theorem d_F_add_20 : decode b_F_add 20 = .ok (.ldc 55, 2) := by decide +kernel
theorem d_F_add_22 : decode b_F_add 22 = .ok (.invokespecial 57, 3) := by decide +kernel
theorem d_F_add_25 : decode b_F_add 25 = .ok (.athrow, 1) := by decide +kernel
theorem d_F_add_26 : decode b_F_add 26 = .ok (.aload 4, 2) := by decide +kernel
theorem d_F_add_28 : decode b_F_add 28 = .ok (.getfield 58, 3) := by decide +kernel
theorem d_F_add_31 : decode b_F_add 31 = .ok (.ireturn, 1) := by decide +kernel
theorem d_F_addAll_0 : decode b_F_addAll 0 = .ok (.aload_n 0, 1) := by decide +kernel
theorem d_F_addAll_1 : decode b_F_addAll 1 = .ok (.iload_n 1, 1) := by decide +kernel
theorem d_F_addAll_2 : decode b_F_addAll 2 = .ok (.invokevirtual 45, 3) := by decide +kernel
theorem d_F_addAll_5 : decode b_F_addAll 5 = .ok (.astore 7, 2) := by decide +kernel
theorem d_F_addAll_7 : decode b_F_addAll 7 = .ok (.iload 6, 2) := by decide +kernel
theorem d_F_addAll_9 : decode b_F_addAll 9 = .ok (.invokestatic 62, 3) := by decide +kernel
theorem d_F_addAll_12 : decode b_F_addAll 12 = .ok (.lload_n 2, 1) := by decide +kernel
theorem d_F_addAll_13 : decode b_F_addAll 13 = .ok (.lstore 8, 2) := by decide +kernel
theorem d_F_addAll_15 : decode b_F_addAll 15 = .ok (.iconst 0, 1) := by decide +kernel
theorem d_F_addAll_16 : decode b_F_addAll 16 = .ok (.istore 10, 2) := by decide +kernel
theorem d_F_addAll_18 : decode b_F_addAll 18 = .ok (.iload 10, 2) := by decide +kernel
theorem d_F_addAll_20 : decode b_F_addAll 20 = .ok (.iload 6, 2) := by decide +kernel
theorem d_F_addAll_22 : decode b_F_addAll 22 = .ok (.if_icmp .ge 29, 3) := by decide +kernel
theorem d_F_addAll_25 : decode b_F_addAll 25 = .ok (.aload 7, 2) := by decide +kernel
theorem d_F_addAll_27 : decode b_F_addAll 27 = .ok (.lload 8, 2) := by decide +kernel
theorem d_F_addAll_29 : decode b_F_addAll 29 = .ok (.invokevirtual 49, 3) := by decide +kernel
theorem d_F_addAll_32 : decode b_F_addAll 32 = .ok (.ifCond .ne 6, 3) := by decide +kernel
theorem d_F_addAll_35 : decode b_F_addAll 35 = .ok (.iload 10, 2) := by decide +kernel
theorem d_F_addAll_37 : decode b_F_addAll 37 = .ok (.ireturn, 1) := by decide +kernel
theorem d_F_addAll_38 : decode b_F_addAll 38 = .ok (.lload 8, 2) := by decide +kernel
theorem d_F_addAll_40 : decode b_F_addAll 40 = .ok (.lload 4, 2) := by decide +kernel
theorem d_F_addAll_42 : decode b_F_addAll 42 = .ok (.ladd, 1) := by decide +kernel
theorem d_F_addAll_43 : decode b_F_addAll 43 = .ok (.lstore 8, 2) := by decide +kernel
theorem d_F_addAll_45 : decode b_F_addAll 45 = .ok (.iinc 10 1, 3) := by decide +kernel
theorem d_F_addAll_48 : decode b_F_addAll 48 = .ok (.goto (-30), 3) := by decide +kernel
theorem d_F_addAll_51 : decode b_F_addAll 51 = .ok (.iload 6, 2) := by decide +kernel
theorem d_F_addAll_53 : decode b_F_addAll 53 = .ok (.ireturn, 1) := by decide +kernel
theorem d_F_remove_0 : decode b_F_remove 0 = .ok (.aload_n 0, 1) := by decide +kernel
theorem d_F_remove_1 : decode b_F_remove 1 = .ok (.iload_n 1, 1) := by decide +kernel
theorem d_F_remove_2 : decode b_F_remove 2 = .ok (.invokevirtual 45, 3) := by decide +kernel
theorem d_F_remove_5 : decode b_F_remove 5 = .ok (.astore 4, 2) := by decide +kernel
theorem d_F_remove_7 : decode b_F_remove 7 = .ok (.aload 4, 2) := by decide +kernel
theorem d_F_remove_9 : decode b_F_remove 9 = .ok (.lload_n 2, 1) := by decide +kernel
theorem d_F_remove_10 : decode b_F_remove 10 = .ok (.invokevirtual 65, 3) := by decide +kernel
theorem d_F_remove_13 : decode b_F_remove 13 = .ok (.ifCond .ne 13, 3) := by decide +kernel
theorem d_F_remove_16 : decode b_F_remove 16 = .ok (.new 68, 3) := by decide +kernel
theorem d_F_remove_19 : decode b_F_remove 19 = .ok (.dup, 1) := by decide +kernel
theorem d_F_remove_20 : decode b_F_remove 20 = .ok (.ldc 70, 2) := by decide +kernel
theorem d_F_remove_22 : decode b_F_remove 22 = .ok (.invokespecial 72, 3) := by decide +kernel
theorem d_F_remove_25 : decode b_F_remove 25 = .ok (.athrow, 1) := by decide +kernel
theorem d_F_remove_26 : decode b_F_remove 26 = .ok (.aload 4, 2) := by decide +kernel
theorem d_F_remove_28 : decode b_F_remove 28 = .ok (.getfield 58, 3) := by decide +kernel
theorem d_F_remove_31 : decode b_F_remove 31 = .ok (.ireturn, 1) := by decide +kernel
theorem d_F_has_0 : decode b_F_has 0 = .ok (.aload_n 0, 1) := by decide +kernel
theorem d_F_has_1 : decode b_F_has 1 = .ok (.iload_n 1, 1) := by decide +kernel
theorem d_F_has_2 : decode b_F_has 2 = .ok (.invokevirtual 45, 3) := by decide +kernel
theorem d_F_has_5 : decode b_F_has 5 = .ok (.lload_n 2, 1) := by decide +kernel
theorem d_F_has_6 : decode b_F_has 6 = .ok (.invokevirtual 73, 3) := by decide +kernel
theorem d_F_has_9 : decode b_F_has 9 = .ok (.ireturn, 1) := by decide +kernel
theorem d_F_hasAll_0 : decode b_F_hasAll 0 = .ok (.aload_n 0, 1) := by decide +kernel
theorem d_F_hasAll_1 : decode b_F_hasAll 1 = .ok (.iload_n 1, 1) := by decide +kernel
theorem d_F_hasAll_2 : decode b_F_hasAll 2 = .ok (.invokevirtual 45, 3) := by decide +kernel
theorem d_F_hasAll_5 : decode b_F_hasAll 5 = .ok (.astore 7, 2) := by decide +kernel
theorem d_F_hasAll_7 : decode b_F_hasAll 7 = .ok (.iload 6, 2) := by decide +kernel
theorem d_F_hasAll_9 : decode b_F_hasAll 9 = .ok (.invokestatic 62, 3) := by decide +kernel
theorem d_F_hasAll_12 : decode b_F_hasAll 12 = .ok (.iconst 0, 1) := by decide +kernel
theorem d_F_hasAll_13 : decode b_F_hasAll 13 = .ok (.istore 8, 2) := by decide +kernel
theorem d_F_hasAll_15 : decode b_F_hasAll 15 = .ok (.lload_n 2, 1) := by decide +kernel
theorem d_F_hasAll_16 : decode b_F_hasAll 16 = .ok (.lstore 9, 2) := by decide +kernel
theorem d_F_hasAll_18 : decode b_F_hasAll 18 = .ok (.iconst 0, 1) := by decide +kernel
theorem d_F_hasAll_19 : decode b_F_hasAll 19 = .ok (.istore 11, 2) := by decide +kernel
theorem d_F_hasAll_21 : decode b_F_hasAll 21 = .ok (.iload 11, 2) := by decide +kernel
theorem d_F_hasAll_23 : decode b_F_hasAll 23 = .ok (.iload 6, 2) := by decide +kernel
theorem d_F_hasAll_25 : decode b_F_hasAll 25 = .ok (.if_icmp .ge 29, 3) := by decide +kernel
theorem d_F_hasAll_28 : decode b_F_hasAll 28 = .ok (.aload 7, 2) := by decide +kernel
theorem d_F_hasAll_30 : decode b_F_hasAll 30 = .ok (.lload 9, 2) := by decide +kernel
theorem d_F_hasAll_32 : decode b_F_hasAll 32 = .ok (.invokevirtual 73, 3) := by decide +kernel
theorem d_F_hasAll_35 : decode b_F_hasAll 35 = .ok (.ifCond .eq 6, 3) := by decide +kernel
theorem d_F_hasAll_38 : decode b_F_hasAll 38 = .ok (.iinc 8 1, 3) := by decide +kernel
theorem d_F_hasAll_41 : decode b_F_hasAll 41 = .ok (.lload 9, 2) := by decide +kernel
theorem d_F_hasAll_43 : decode b_F_hasAll 43 = .ok (.lload 4, 2) := by decide +kernel
theorem d_F_hasAll_45 : decode b_F_hasAll 45 = .ok (.ladd, 1) := by decide +kernel
theorem d_F_hasAll_46 : decode b_F_hasAll 46 = .ok (.lstore 9, 2) := by decide +kernel
theorem d_F_hasAll_48 : decode b_F_hasAll 48 = .ok (.iinc 11 1, 3) := by decide +kernel
theorem d_F_hasAll_51 : decode b_F_hasAll 51 = .ok (.goto (-30), 3) := by decide +kernel
theorem d_F_hasAll_54 : decode b_F_hasAll 54 = .ok (.iload 8, 2) := by decide +kernel
theorem d_F_hasAll_56 : decode b_F_hasAll 56 = .ok (.ireturn, 1) := by decide +kernel
theorem d_F_same_0 : decode b_F_same 0 = .ok (.aload_n 0, 1) := by decide +kernel
theorem d_F_same_1 : decode b_F_same 1 = .ok (.iload_n 1, 1) := by decide +kernel
theorem d_F_same_2 : decode b_F_same 2 = .ok (.invokevirtual 45, 3) := by decide +kernel
theorem d_F_same_5 : decode b_F_same 5 = .ok (.lload_n 2, 1) := by decide +kernel
theorem d_F_same_6 : decode b_F_same 6 = .ok (.lload 4, 2) := by decide +kernel
theorem d_F_same_8 : decode b_F_same 8 = .ok (.invokevirtual 76, 3) := by decide +kernel
theorem d_F_same_11 : decode b_F_same 11 = .ok (.ireturn, 1) := by decide +kernel
theorem d_F_count_0 : decode b_F_count 0 = .ok (.aload_n 0, 1) := by decide +kernel
theorem d_F_count_1 : decode b_F_count 1 = .ok (.iload_n 1, 1) := by decide +kernel
theorem d_F_count_2 : decode b_F_count 2 = .ok (.invokevirtual 45, 3) := by decide +kernel
theorem d_F_count_5 : decode b_F_count 5 = .ok (.astore_n 3, 1) := by decide +kernel
theorem d_F_count_6 : decode b_F_count 6 = .ok (.iload_n 2, 1) := by decide +kernel
theorem d_F_count_7 : decode b_F_count 7 = .ok (.tableswitch 67 0 5 #[37, 42, 47, 52, 57, 62], 37) := by decide +kernel
theorem d_F_count_44 : decode b_F_count 44 = .ok (.aload_n 3, 1) := by decide +kernel
theorem d_F_count_45 : decode b_F_count 45 = .ok (.invokevirtual 80, 3) := by decide +kernel
theorem d_F_count_48 : decode b_F_count 48 = .ok (.ireturn, 1) := by decide +kernel
theorem d_F_count_49 : decode b_F_count 49 = .ok (.aload_n 3, 1) := by decide +kernel
theorem d_F_count_50 : decode b_F_count 50 = .ok (.getfield 84, 3) := by decide +kernel
theorem d_F_count_53 : decode b_F_count 53 = .ok (.ireturn, 1) := by decide +kernel
theorem d_F_count_54 : decode b_F_count 54 = .ok (.aload_n 3, 1) := by decide +kernel
theorem d_F_count_55 : decode b_F_count 55 = .ok (.getfield 87, 3) := by decide +kernel
theorem d_F_count_58 : decode b_F_count 58 = .ok (.ireturn, 1) := by decide +kernel
theorem d_F_count_59 : decode b_F_count 59 = .ok (.aload_n 3, 1) := by decide +kernel
theorem d_F_count_60 : decode b_F_count 60 = .ok (.getfield 58, 3) := by decide +kernel
theorem d_F_count_63 : decode b_F_count 63 = .ok (.ireturn, 1) := by decide +kernel
theorem d_F_count_64 : decode b_F_count 64 = .ok (.aload_n 3, 1) := by decide +kernel
theorem d_F_count_65 : decode b_F_count 65 = .ok (.invokevirtual 90, 3) := by decide +kernel
theorem d_F_count_68 : decode b_F_count 68 = .ok (.ireturn, 1) := by decide +kernel
theorem d_F_count_69 : decode b_F_count 69 = .ok (.aload_n 3, 1) := by decide +kernel
theorem d_F_count_70 : decode b_F_count 70 = .ok (.invokevirtual 93, 3) := by decide +kernel
theorem d_F_count_73 : decode b_F_count 73 = .ok (.ireturn, 1) := by decide +kernel
theorem d_F_count_74 : decode b_F_count 74 = .ok (.new 30, 3) := by decide +kernel
theorem d_F_count_77 : decode b_F_count 77 = .ok (.dup, 1) := by decide +kernel
theorem d_F_count_78 : decode b_F_count 78 = .ok (.ldc 96, 2) := by decide +kernel
theorem d_F_count_80 : decode b_F_count 80 = .ok (.invokespecial 34, 3) := by decide +kernel
theorem d_F_count_83 : decode b_F_count 83 = .ok (.athrow, 1) := by decide +kernel
theorem d_F_cell_0 : decode b_F_cell 0 = .ok (.iload_n 1, 1) := by decide +kernel
theorem d_F_cell_1 : decode b_F_cell 1 = .ok (.invokestatic 98, 3) := by decide +kernel
theorem d_F_cell_4 : decode b_F_cell 4 = .ok (.ifCond .eq 12, 3) := by decide +kernel
theorem d_F_cell_7 : decode b_F_cell 7 = .ok (.aload_n 0, 1) := by decide +kernel
theorem d_F_cell_8 : decode b_F_cell 8 = .ok (.getfield 11, 3) := by decide +kernel
theorem d_F_cell_11 : decode b_F_cell 11 = .ok (.iload_n 1, 1) := by decide +kernel
theorem d_F_cell_12 : decode b_F_cell 12 = .ok (.aaload, 1) := by decide +kernel
theorem d_F_cell_13 : decode b_F_cell 13 = .ok (.ifnonnull 13, 3) := by decide +kernel
theorem d_F_cell_16 : decode b_F_cell 16 = .ok (.new 102, 3) := by decide +kernel
theorem d_F_cell_19 : decode b_F_cell 19 = .ok (.dup, 1) := by decide +kernel
theorem d_F_cell_20 : decode b_F_cell 20 = .ok (.ldc 104, 2) := by decide +kernel
theorem d_F_cell_22 : decode b_F_cell 22 = .ok (.invokespecial 106, 3) := by decide +kernel
theorem d_F_cell_25 : decode b_F_cell 25 = .ok (.athrow, 1) := by decide +kernel
theorem d_F_cell_26 : decode b_F_cell 26 = .ok (.aload_n 0, 1) := by decide +kernel
theorem d_F_cell_27 : decode b_F_cell 27 = .ok (.getfield 11, 3) := by decide +kernel
theorem d_F_cell_30 : decode b_F_cell 30 = .ok (.iload_n 1, 1) := by decide +kernel
theorem d_F_cell_31 : decode b_F_cell 31 = .ok (.aaload, 1) := by decide +kernel
theorem d_F_cell_32 : decode b_F_cell 32 = .ok (.astore_n 3, 1) := by decide +kernel
theorem d_F_cell_33 : decode b_F_cell 33 = .ok (.iload_n 2, 1) := by decide +kernel
theorem d_F_cell_34 : decode b_F_cell 34 = .ok (.ifCond .lt 11, 3) := by decide +kernel
theorem d_F_cell_37 : decode b_F_cell 37 = .ok (.iload_n 2, 1) := by decide +kernel
theorem d_F_cell_38 : decode b_F_cell 38 = .ok (.aload_n 3, 1) := by decide +kernel
theorem d_F_cell_39 : decode b_F_cell 39 = .ok (.invokevirtual 107, 3) := by decide +kernel
theorem d_F_cell_42 : decode b_F_cell 42 = .ok (.if_icmp .lt 13, 3) := by decide +kernel
theorem d_F_cell_45 : decode b_F_cell 45 = .ok (.new 110, 3) := by decide +kernel
theorem d_F_cell_48 : decode b_F_cell 48 = .ok (.dup, 1) := by decide +kernel
theorem d_F_cell_49 : decode b_F_cell 49 = .ok (.ldc 112, 2) := by decide +kernel
theorem d_F_cell_51 : decode b_F_cell 51 = .ok (.invokespecial 114, 3) := by decide +kernel
theorem d_F_cell_54 : decode b_F_cell 54 = .ok (.athrow, 1) := by decide +kernel
theorem d_F_cell_55 : decode b_F_cell 55 = .ok (.aload_n 3, 1) := by decide +kernel
theorem d_F_cell_56 : decode b_F_cell 56 = .ok (.iload_n 2, 1) := by decide +kernel
theorem d_F_cell_57 : decode b_F_cell 57 = .ok (.invokevirtual 115, 3) := by decide +kernel
theorem d_F_cell_60 : decode b_F_cell 60 = .ok (.ireturn, 1) := by decide +kernel
theorem d_F_merge_0 : decode b_F_merge 0 = .ok (.iload_n 1, 1) := by decide +kernel
theorem d_F_merge_1 : decode b_F_merge 1 = .ok (.invokestatic 22, 3) := by decide +kernel
theorem d_F_merge_4 : decode b_F_merge 4 = .ok (.iload_n 2, 1) := by decide +kernel
theorem d_F_merge_5 : decode b_F_merge 5 = .ok (.invokestatic 22, 3) := by decide +kernel
theorem d_F_merge_8 : decode b_F_merge 8 = .ok (.aload_n 0, 1) := by decide +kernel
theorem d_F_merge_9 : decode b_F_merge 9 = .ok (.iload_n 1, 1) := by decide +kernel
theorem d_F_merge_10 : decode b_F_merge 10 = .ok (.invokevirtual 45, 3) := by decide +kernel
theorem d_F_merge_13 : decode b_F_merge 13 = .ok (.astore_n 3, 1) := by decide +kernel
theorem d_F_merge_14 : decode b_F_merge 14 = .ok (.aload_n 0, 1) := by decide +kernel
theorem d_F_merge_15 : decode b_F_merge 15 = .ok (.iload_n 2, 1) := by decide +kernel
theorem d_F_merge_16 : decode b_F_merge 16 = .ok (.invokevirtual 45, 3) := by decide +kernel
theorem d_F_merge_19 : decode b_F_merge 19 = .ok (.astore 4, 2) := by decide +kernel
theorem d_F_merge_21 : decode b_F_merge 21 = .ok (.aload_n 3, 1) := by decide +kernel
theorem d_F_merge_22 : decode b_F_merge 22 = .ok (.invokestatic 119, 3) := by decide +kernel
theorem d_F_merge_25 : decode b_F_merge 25 = .ok (.astore 5, 2) := by decide +kernel
theorem d_F_merge_27 : decode b_F_merge 27 = .ok (.aload 4, 2) := by decide +kernel
theorem d_F_merge_29 : decode b_F_merge 29 = .ok (.invokestatic 119, 3) := by decide +kernel
theorem d_F_merge_32 : decode b_F_merge 32 = .ok (.astore 6, 2) := by decide +kernel
theorem d_F_merge_34 : decode b_F_merge 34 = .ok (.aload 5, 2) := by decide +kernel
theorem d_F_merge_36 : decode b_F_merge 36 = .ok (.getfield 123, 3) := by decide +kernel
theorem d_F_merge_39 : decode b_F_merge 39 = .ok (.aload 6, 2) := by decide +kernel
theorem d_F_merge_41 : decode b_F_merge 41 = .ok (.getfield 123, 3) := by decide +kernel
theorem d_F_merge_44 : decode b_F_merge 44 = .ok (.if_icmp .ne 16, 3) := by decide +kernel
theorem d_F_merge_47 : decode b_F_merge 47 = .ok (.aload 5, 2) := by decide +kernel
theorem d_F_merge_49 : decode b_F_merge 49 = .ok (.getfield 126, 3) := by decide +kernel
theorem d_F_merge_52 : decode b_F_merge 52 = .ok (.aload 6, 2) := by decide +kernel
theorem d_F_merge_54 : decode b_F_merge 54 = .ok (.getfield 126, 3) := by decide +kernel
theorem d_F_merge_57 : decode b_F_merge 57 = .ok (.if_icmp .eq 13, 3) := by decide +kernel
theorem d_F_merge_60 : decode b_F_merge 60 = .ok (.new 30, 3) := by decide +kernel
theorem d_F_merge_63 : decode b_F_merge 63 = .ok (.dup, 1) := by decide +kernel
theorem d_F_merge_64 : decode b_F_merge 64 = .ok (.ldc 127, 2) := by decide +kernel
theorem d_F_merge_66 : decode b_F_merge 66 = .ok (.invokespecial 34, 3) := by decide +kernel
theorem d_F_merge_69 : decode b_F_merge 69 = .ok (.athrow, 1) := by decide +kernel
theorem d_F_merge_70 : decode b_F_merge 70 = .ok (.aload 5, 2) := by decide +kernel
theorem d_F_merge_72 : decode b_F_merge 72 = .ok (.aload 6, 2) := by decide +kernel
theorem d_F_merge_74 : decode b_F_merge 74 = .ok (.invokevirtual 129, 3) := by decide +kernel
theorem d_F_merge_77 : decode b_F_merge 77 = .ok (.ifCond .ne 13, 3) := by decide +kernel
theorem d_F_merge_80 : decode b_F_merge 80 = .ok (.new 53, 3) := by decide +kernel
theorem d_F_merge_83 : decode b_F_merge 83 = .ok (.dup, 1) := by decide +kernel
theorem d_F_merge_84 : decode b_F_merge 84 = .ok (.ldc 133, 2) := by decide +kernel
theorem d_F_merge_86 : decode b_F_merge 86 = .ok (.invokespecial 57, 3) := by decide +kernel
theorem d_F_merge_89 : decode b_F_merge 89 = .ok (.athrow, 1) := by decide +kernel
theorem d_F_merge_90 : decode b_F_merge 90 = .ok (.aload 5, 2) := by decide +kernel
theorem d_F_merge_92 : decode b_F_merge 92 = .ok (.getfield 135, 3) := by decide +kernel
theorem d_F_merge_95 : decode b_F_merge 95 = .ok (.ireturn, 1) := by decide +kernel
theorem d_F_grow_0 : decode b_F_grow 0 = .ok (.aload_n 0, 1) := by decide +kernel
theorem d_F_grow_1 : decode b_F_grow 1 = .ok (.iload_n 1, 1) := by decide +kernel
theorem d_F_grow_2 : decode b_F_grow 2 = .ok (.invokevirtual 45, 3) := by decide +kernel
theorem d_F_grow_5 : decode b_F_grow 5 = .ok (.invokestatic 119, 3) := by decide +kernel
theorem d_F_grow_8 : decode b_F_grow 8 = .ok (.astore_n 2, 1) := by decide +kernel
theorem d_F_grow_9 : decode b_F_grow 9 = .ok (.iconst 3, 1) := by decide +kernel
theorem d_F_grow_10 : decode b_F_grow 10 = .ok (.aload_n 2, 1) := by decide +kernel
theorem d_F_grow_11 : decode b_F_grow 11 = .ok (.getfield 123, 3) := by decide +kernel
theorem d_F_grow_14 : decode b_F_grow 14 = .ok (.iconst 1, 1) := by decide +kernel
theorem d_F_grow_15 : decode b_F_grow 15 = .ok (.iadd, 1) := by decide +kernel
theorem d_F_grow_16 : decode b_F_grow 16 = .ok (.aload_n 2, 1) := by decide +kernel
theorem d_F_grow_17 : decode b_F_grow 17 = .ok (.getfield 126, 3) := by decide +kernel
theorem d_F_grow_20 : decode b_F_grow 20 = .ok (.iconst 1, 1) := by decide +kernel
theorem d_F_grow_21 : decode b_F_grow 21 = .ok (.isub, 1) := by decide +kernel
theorem d_F_grow_22 : decode b_F_grow 22 = .ok (.invokestatic 26, 3) := by decide +kernel
theorem d_F_grow_25 : decode b_F_grow 25 = .ok (.ifCond .ne 13, 3) := by decide +kernel
theorem d_F_grow_28 : decode b_F_grow 28 = .ok (.new 30, 3) := by decide +kernel
theorem d_F_grow_31 : decode b_F_grow 31 = .ok (.dup, 1) := by decide +kernel
theorem d_F_grow_32 : decode b_F_grow 32 = .ok (.ldc 136, 2) := by decide +kernel
theorem d_F_grow_34 : decode b_F_grow 34 = .ok (.invokespecial 34, 3) := by decide +kernel
theorem d_F_grow_37 : decode b_F_grow 37 = .ok (.athrow, 1) := by decide +kernel
theorem d_F_grow_38 : decode b_F_grow 38 = .ok (.aload_n 2, 1) := by decide +kernel
theorem d_F_grow_39 : decode b_F_grow 39 = .ok (.invokevirtual 138, 3) := by decide +kernel
theorem d_F_grow_42 : decode b_F_grow 42 = .ok (.return_, 1) := by decide +kernel
theorem d_F_clear_0 : decode b_F_clear 0 = .ok (.aload_n 0, 1) := by decide +kernel
theorem d_F_clear_1 : decode b_F_clear 1 = .ok (.iload_n 1, 1) := by decide +kernel
theorem d_F_clear_2 : decode b_F_clear 2 = .ok (.invokevirtual 45, 3) := by decide +kernel
theorem d_F_clear_5 : decode b_F_clear 5 = .ok (.astore_n 2, 1) := by decide +kernel
theorem d_F_clear_6 : decode b_F_clear 6 = .ok (.aload_n 2, 1) := by decide +kernel
theorem d_F_clear_7 : decode b_F_clear 7 = .ok (.getfield 58, 3) := by decide +kernel
theorem d_F_clear_10 : decode b_F_clear 10 = .ok (.istore_n 3, 1) := by decide +kernel
theorem d_F_clear_11 : decode b_F_clear 11 = .ok (.aload_n 2, 1) := by decide +kernel
theorem d_F_clear_12 : decode b_F_clear 12 = .ok (.aload_n 2, 1) := by decide +kernel
theorem d_F_clear_13 : decode b_F_clear 13 = .ok (.getfield 84, 3) := by decide +kernel
theorem d_F_clear_16 : decode b_F_clear 16 = .ok (.aload_n 2, 1) := by decide +kernel
theorem d_F_clear_17 : decode b_F_clear 17 = .ok (.getfield 87, 3) := by decide +kernel
theorem d_F_clear_20 : decode b_F_clear 20 = .ok (.invokevirtual 41, 3) := by decide +kernel
theorem d_F_clear_23 : decode b_F_clear 23 = .ok (.iload_n 3, 1) := by decide +kernel
theorem d_F_clear_24 : decode b_F_clear 24 = .ok (.ireturn, 1) := by decide +kernel
theorem d_F_mixed_0 : decode b_F_mixed 0 = .ok (.lload_n 0, 1) := by decide +kernel
theorem d_F_mixed_1 : decode b_F_mixed 1 = .ok (.iload_n 2, 1) := by decide +kernel
theorem d_F_mixed_2 : decode b_F_mixed 2 = .ok (.i2l, 1) := by decide +kernel
theorem d_F_mixed_3 : decode b_F_mixed 3 = .ok (.lconst 1, 1) := by decide +kernel
theorem d_F_mixed_4 : decode b_F_mixed 4 = .ok (.ladd, 1) := by decide +kernel
theorem d_F_mixed_5 : decode b_F_mixed 5 = .ok (.ldc2_w 141, 3) := by decide +kernel
theorem d_F_mixed_8 : decode b_F_mixed 8 = .ok (.lmul, 1) := by decide +kernel
theorem d_F_mixed_9 : decode b_F_mixed 9 = .ok (.ladd, 1) := by decide +kernel
theorem d_F_mixed_10 : decode b_F_mixed 10 = .ok (.lstore_n 3, 1) := by decide +kernel
theorem d_F_mixed_11 : decode b_F_mixed 11 = .ok (.lload_n 3, 1) := by decide +kernel
theorem d_F_mixed_12 : decode b_F_mixed 12 = .ok (.lload_n 3, 1) := by decide +kernel
theorem d_F_mixed_13 : decode b_F_mixed 13 = .ok (.bipush 30, 2) := by decide +kernel
theorem d_F_mixed_15 : decode b_F_mixed 15 = .ok (.lushr, 1) := by decide +kernel
theorem d_F_mixed_16 : decode b_F_mixed 16 = .ok (.lxor, 1) := by decide +kernel
theorem d_F_mixed_17 : decode b_F_mixed 17 = .ok (.ldc2_w 143, 3) := by decide +kernel
theorem d_F_mixed_20 : decode b_F_mixed 20 = .ok (.lmul, 1) := by decide +kernel
theorem d_F_mixed_21 : decode b_F_mixed 21 = .ok (.lstore_n 3, 1) := by decide +kernel
theorem d_F_mixed_22 : decode b_F_mixed 22 = .ok (.lload_n 3, 1) := by decide +kernel
theorem d_F_mixed_23 : decode b_F_mixed 23 = .ok (.lload_n 3, 1) := by decide +kernel
theorem d_F_mixed_24 : decode b_F_mixed 24 = .ok (.bipush 27, 2) := by decide +kernel
theorem d_F_mixed_26 : decode b_F_mixed 26 = .ok (.lushr, 1) := by decide +kernel
theorem d_F_mixed_27 : decode b_F_mixed 27 = .ok (.lxor, 1) := by decide +kernel
theorem d_F_mixed_28 : decode b_F_mixed 28 = .ok (.ldc2_w 145, 3) := by decide +kernel
theorem d_F_mixed_31 : decode b_F_mixed 31 = .ok (.lmul, 1) := by decide +kernel
theorem d_F_mixed_32 : decode b_F_mixed 32 = .ok (.lstore_n 3, 1) := by decide +kernel
theorem d_F_mixed_33 : decode b_F_mixed 33 = .ok (.lload_n 3, 1) := by decide +kernel
theorem d_F_mixed_34 : decode b_F_mixed 34 = .ok (.lload_n 3, 1) := by decide +kernel
theorem d_F_mixed_35 : decode b_F_mixed 35 = .ok (.bipush 31, 2) := by decide +kernel
theorem d_F_mixed_37 : decode b_F_mixed 37 = .ok (.lushr, 1) := by decide +kernel
theorem d_F_mixed_38 : decode b_F_mixed 38 = .ok (.lxor, 1) := by decide +kernel
theorem d_F_mixed_39 : decode b_F_mixed 39 = .ok (.lreturn, 1) := by decide +kernel
theorem d_F_isNumber_0 : decode b_F_isNumber 0 = .ok (.iload_n 0, 1) := by decide +kernel
theorem d_F_isNumber_1 : decode b_F_isNumber 1 = .ok (.iconst 0, 1) := by decide +kernel
theorem d_F_isNumber_2 : decode b_F_isNumber 2 = .ok (.iconst 3, 1) := by decide +kernel
theorem d_F_isNumber_3 : decode b_F_isNumber 3 = .ok (.invokestatic 147, 3) := by decide +kernel
theorem d_F_isNumber_6 : decode b_F_isNumber 6 = .ok (.ireturn, 1) := by decide +kernel
theorem d_F_isWithin_0 : decode b_F_isWithin 0 = .ok (.iload_n 0, 1) := by decide +kernel
theorem d_F_isWithin_1 : decode b_F_isWithin 1 = .ok (.iload_n 1, 1) := by decide +kernel
theorem d_F_isWithin_2 : decode b_F_isWithin 2 = .ok (.if_icmp .lt 12, 3) := by decide +kernel
theorem d_F_isWithin_5 : decode b_F_isWithin 5 = .ok (.iload_n 0, 1) := by decide +kernel
theorem d_F_isWithin_6 : decode b_F_isWithin 6 = .ok (.iload_n 2, 1) := by decide +kernel
theorem d_F_isWithin_7 : decode b_F_isWithin 7 = .ok (.if_icmp .gt 7, 3) := by decide +kernel
theorem d_F_isWithin_10 : decode b_F_isWithin 10 = .ok (.iconst 1, 1) := by decide +kernel
theorem d_F_isWithin_11 : decode b_F_isWithin 11 = .ok (.goto 4, 3) := by decide +kernel
theorem d_F_isWithin_14 : decode b_F_isWithin 14 = .ok (.iconst 0, 1) := by decide +kernel
theorem d_F_isWithin_15 : decode b_F_isWithin 15 = .ok (.ireturn, 1) := by decide +kernel
theorem d_F_mayBe_0 : decode b_F_mayBe 0 = .ok (.iload_n 0, 1) := by decide +kernel
theorem d_F_mayBe_1 : decode b_F_mayBe 1 = .ok (.tableswitch 105 1 3 #[27, 53, 79], 27) := by decide +kernel
theorem d_F_mayBe_28 : decode b_F_mayBe 28 = .ok (.iload_n 1, 1) := by decide +kernel
theorem d_F_mayBe_29 : decode b_F_mayBe 29 = .ok (.iconst 3, 1) := by decide +kernel
theorem d_F_mayBe_30 : decode b_F_mayBe 30 = .ok (.bipush 10, 2) := by decide +kernel
theorem d_F_mayBe_32 : decode b_F_mayBe 32 = .ok (.invokestatic 147, 3) := by decide +kernel
theorem d_F_mayBe_35 : decode b_F_mayBe 35 = .ok (.ifCond .eq 17, 3) := by decide +kernel
theorem d_F_mayBe_38 : decode b_F_mayBe 38 = .ok (.iload_n 2, 1) := by decide +kernel
theorem d_F_mayBe_39 : decode b_F_mayBe 39 = .ok (.iconst 1, 1) := by decide +kernel
theorem d_F_mayBe_40 : decode b_F_mayBe 40 = .ok (.bipush 6, 2) := by decide +kernel
theorem d_F_mayBe_42 : decode b_F_mayBe 42 = .ok (.invokestatic 147, 3) := by decide +kernel
theorem d_F_mayBe_45 : decode b_F_mayBe 45 = .ok (.ifCond .eq 7, 3) := by decide +kernel
theorem d_F_mayBe_48 : decode b_F_mayBe 48 = .ok (.iconst 1, 1) := by decide +kernel
theorem d_F_mayBe_49 : decode b_F_mayBe 49 = .ok (.goto 4, 3) := by decide +kernel
theorem d_F_mayBe_52 : decode b_F_mayBe 52 = .ok (.iconst 0, 1) := by decide +kernel
theorem d_F_mayBe_53 : decode b_F_mayBe 53 = .ok (.ireturn, 1) := by decide +kernel
theorem d_F_mayBe_54 : decode b_F_mayBe 54 = .ok (.iload_n 1, 1) := by decide +kernel
theorem d_F_mayBe_55 : decode b_F_mayBe 55 = .ok (.iconst 1, 1) := by decide +kernel
theorem d_F_mayBe_56 : decode b_F_mayBe 56 = .ok (.bipush 8, 2) := by decide +kernel
theorem d_F_mayBe_58 : decode b_F_mayBe 58 = .ok (.invokestatic 147, 3) := by decide +kernel
theorem d_F_mayBe_61 : decode b_F_mayBe 61 = .ok (.ifCond .eq 17, 3) := by decide +kernel
theorem d_F_mayBe_64 : decode b_F_mayBe 64 = .ok (.iload_n 2, 1) := by decide +kernel
theorem d_F_mayBe_65 : decode b_F_mayBe 65 = .ok (.iconst 4, 1) := by decide +kernel
theorem d_F_mayBe_66 : decode b_F_mayBe 66 = .ok (.bipush 16, 2) := by decide +kernel
theorem d_F_mayBe_68 : decode b_F_mayBe 68 = .ok (.invokestatic 147, 3) := by decide +kernel
theorem d_F_mayBe_71 : decode b_F_mayBe 71 = .ok (.ifCond .eq 7, 3) := by decide +kernel
theorem d_F_mayBe_74 : decode b_F_mayBe 74 = .ok (.iconst 1, 1) := by decide +kernel
theorem d_F_mayBe_75 : decode b_F_mayBe 75 = .ok (.goto 4, 3) := by decide +kernel
theorem d_F_mayBe_78 : decode b_F_mayBe 78 = .ok (.iconst 0, 1) := by decide +kernel
theorem d_F_mayBe_79 : decode b_F_mayBe 79 = .ok (.ireturn, 1) := by decide +kernel
theorem d_F_mayBe_80 : decode b_F_mayBe 80 = .ok (.iload_n 1, 1) := by decide +kernel
theorem d_F_mayBe_81 : decode b_F_mayBe 81 = .ok (.iconst 2, 1) := by decide +kernel
theorem d_F_mayBe_82 : decode b_F_mayBe 82 = .ok (.bipush 8, 2) := by decide +kernel
theorem d_F_mayBe_84 : decode b_F_mayBe 84 = .ok (.invokestatic 147, 3) := by decide +kernel
theorem d_F_mayBe_87 : decode b_F_mayBe 87 = .ok (.ifCond .eq 17, 3) := by decide +kernel
theorem d_F_mayBe_90 : decode b_F_mayBe 90 = .ok (.iload_n 2, 1) := by decide +kernel
theorem d_F_mayBe_91 : decode b_F_mayBe 91 = .ok (.iconst 4, 1) := by decide +kernel
theorem d_F_mayBe_92 : decode b_F_mayBe 92 = .ok (.bipush 20, 2) := by decide +kernel
theorem d_F_mayBe_94 : decode b_F_mayBe 94 = .ok (.invokestatic 147, 3) := by decide +kernel
theorem d_F_mayBe_97 : decode b_F_mayBe 97 = .ok (.ifCond .eq 7, 3) := by decide +kernel
theorem d_F_mayBe_100 : decode b_F_mayBe 100 = .ok (.iconst 1, 1) := by decide +kernel
theorem d_F_mayBe_101 : decode b_F_mayBe 101 = .ok (.goto 4, 3) := by decide +kernel
theorem d_F_mayBe_104 : decode b_F_mayBe 104 = .ok (.iconst 0, 1) := by decide +kernel
theorem d_F_mayBe_105 : decode b_F_mayBe 105 = .ok (.ireturn, 1) := by decide +kernel
theorem d_F_mayBe_106 : decode b_F_mayBe 106 = .ok (.iconst 0, 1) := by decide +kernel
theorem d_F_mayBe_107 : decode b_F_mayBe 107 = .ok (.ireturn, 1) := by decide +kernel
theorem d_F_requireNumber_0 : decode b_F_requireNumber 0 = .ok (.iload_n 0, 1) := by decide +kernel
theorem d_F_requireNumber_1 : decode b_F_requireNumber 1 = .ok (.invokestatic 98, 3) := by decide +kernel
theorem d_F_requireNumber_4 : decode b_F_requireNumber 4 = .ok (.ifCond .ne 13, 3) := by decide +kernel
theorem d_F_requireNumber_7 : decode b_F_requireNumber 7 = .ok (.new 110, 3) := by decide +kernel
theorem d_F_requireNumber_10 : decode b_F_requireNumber 10 = .ok (.dup, 1) := by decide +kernel
theorem d_F_requireNumber_11 : decode b_F_requireNumber 11 = .ok (.ldc 154, 2) := by decide +kernel
theorem d_F_requireNumber_13 : decode b_F_requireNumber 13 = .ok (.invokespecial 114, 3) := by decide +kernel
theorem d_F_requireNumber_16 : decode b_F_requireNumber 16 = .ok (.athrow, 1) := by decide +kernel
theorem d_F_requireNumber_17 : decode b_F_requireNumber 17 = .ok (.return_, 1) := by decide +kernel
theorem d_F_requireItems_0 : decode b_F_requireItems 0 = .ok (.iload_n 0, 1) := by decide +kernel
theorem d_F_requireItems_1 : decode b_F_requireItems 1 = .ok (.iconst 0, 1) := by decide +kernel
theorem d_F_requireItems_2 : decode b_F_requireItems 2 = .ok (.sipush 400, 3) := by decide +kernel
theorem d_F_requireItems_5 : decode b_F_requireItems 5 = .ok (.invokestatic 147, 3) := by decide +kernel
theorem d_F_requireItems_8 : decode b_F_requireItems 8 = .ok (.ifCond .ne 13, 3) := by decide +kernel
theorem d_F_requireItems_11 : decode b_F_requireItems 11 = .ok (.new 30, 3) := by decide +kernel
theorem d_F_requireItems_14 : decode b_F_requireItems 14 = .ok (.dup, 1) := by decide +kernel
theorem d_F_requireItems_15 : decode b_F_requireItems 15 = .ok (.ldc 156, 2) := by decide +kernel
theorem d_F_requireItems_17 : decode b_F_requireItems 17 = .ok (.invokespecial 34, 3) := by decide +kernel
theorem d_F_requireItems_20 : decode b_F_requireItems 20 = .ok (.athrow, 1) := by decide +kernel
theorem d_F_requireItems_21 : decode b_F_requireItems 21 = .ok (.return_, 1) := by decide +kernel
theorem d_F_filterAt_0 : decode b_F_filterAt 0 = .ok (.iload_n 1, 1) := by decide +kernel
theorem d_F_filterAt_1 : decode b_F_filterAt 1 = .ok (.invokestatic 22, 3) := by decide +kernel
theorem d_F_filterAt_4 : decode b_F_filterAt 4 = .ok (.aload_n 0, 1) := by decide +kernel
theorem d_F_filterAt_5 : decode b_F_filterAt 5 = .ok (.getfield 11, 3) := by decide +kernel
theorem d_F_filterAt_8 : decode b_F_filterAt 8 = .ok (.iload_n 1, 1) := by decide +kernel
theorem d_F_filterAt_9 : decode b_F_filterAt 9 = .ok (.aaload, 1) := by decide +kernel
theorem d_F_filterAt_10 : decode b_F_filterAt 10 = .ok (.astore_n 2, 1) := by decide +kernel
theorem d_F_filterAt_11 : decode b_F_filterAt 11 = .ok (.aload_n 2, 1) := by decide +kernel
theorem d_F_filterAt_12 : decode b_F_filterAt 12 = .ok (.ifnonnull 13, 3) := by decide +kernel
theorem d_F_filterAt_15 : decode b_F_filterAt 15 = .ok (.new 102, 3) := by decide +kernel
theorem d_F_filterAt_18 : decode b_F_filterAt 18 = .ok (.dup, 1) := by decide +kernel
theorem d_F_filterAt_19 : decode b_F_filterAt 19 = .ok (.ldc 104, 2) := by decide +kernel
theorem d_F_filterAt_21 : decode b_F_filterAt 21 = .ok (.invokespecial 106, 3) := by decide +kernel
theorem d_F_filterAt_24 : decode b_F_filterAt 24 = .ok (.athrow, 1) := by decide +kernel
theorem d_F_filterAt_25 : decode b_F_filterAt 25 = .ok (.aload_n 2, 1) := by decide +kernel
theorem d_F_filterAt_26 : decode b_F_filterAt 26 = .ok (.areturn, 1) := by decide +kernel
theorem d_F_filterFor_0 : decode b_F_filterFor 0 = .ok (.iload_n 1, 1) := by decide +kernel
theorem d_F_filterFor_1 : decode b_F_filterFor 1 = .ok (.iconst 3, 1) := by decide +kernel
theorem d_F_filterFor_2 : decode b_F_filterFor 2 = .ok (.imul, 1) := by decide +kernel
theorem d_F_filterFor_3 : decode b_F_filterFor 3 = .ok (.iload_n 2, 1) := by decide +kernel
theorem d_F_filterFor_4 : decode b_F_filterFor 4 = .ok (.iadd, 1) := by decide +kernel
theorem d_F_filterFor_5 : decode b_F_filterFor 5 = .ok (.iconst 1, 1) := by decide +kernel
theorem d_F_filterFor_6 : decode b_F_filterFor 6 = .ok (.isub, 1) := by decide +kernel
theorem d_F_filterFor_7 : decode b_F_filterFor 7 = .ok (.istore_n 3, 1) := by decide +kernel
theorem d_F_filterFor_8 : decode b_F_filterFor 8 = .ok (.aload_n 0, 1) := by decide +kernel
theorem d_F_filterFor_9 : decode b_F_filterFor 9 = .ok (.getfield 15, 3) := by decide +kernel
theorem d_F_filterFor_12 : decode b_F_filterFor 12 = .ok (.iload_n 3, 1) := by decide +kernel
theorem d_F_filterFor_13 : decode b_F_filterFor 13 = .ok (.aaload, 1) := by decide +kernel
theorem d_F_filterFor_14 : decode b_F_filterFor 14 = .ok (.ifnonnull 13, 3) := by decide +kernel
theorem d_F_filterFor_17 : decode b_F_filterFor 17 = .ok (.aload_n 0, 1) := by decide +kernel
theorem d_F_filterFor_18 : decode b_F_filterFor 18 = .ok (.getfield 15, 3) := by decide +kernel
theorem d_F_filterFor_21 : decode b_F_filterFor 21 = .ok (.iload_n 3, 1) := by decide +kernel
theorem d_F_filterFor_22 : decode b_F_filterFor 22 = .ok (.iload_n 2, 1) := by decide +kernel
theorem d_F_filterFor_23 : decode b_F_filterFor 23 = .ok (.invokestatic 158, 3) := by decide +kernel
theorem d_F_filterFor_26 : decode b_F_filterFor 26 = .ok (.aastore, 1) := by decide +kernel
theorem d_F_filterFor_27 : decode b_F_filterFor 27 = .ok (.aload_n 0, 1) := by decide +kernel
theorem d_F_filterFor_28 : decode b_F_filterFor 28 = .ok (.getfield 15, 3) := by decide +kernel
theorem d_F_filterFor_31 : decode b_F_filterFor 31 = .ok (.iload_n 3, 1) := by decide +kernel
theorem d_F_filterFor_32 : decode b_F_filterFor 32 = .ok (.aaload, 1) := by decide +kernel
theorem d_F_filterFor_33 : decode b_F_filterFor 33 = .ok (.areturn, 1) := by decide +kernel
theorem d_F_newFilter_0 : decode b_F_newFilter 0 = .ok (.iload_n 0, 1) := by decide +kernel
theorem d_F_newFilter_1 : decode b_F_newFilter 1 = .ok (.lookupswitch 43 #[(1, 27), (2, 35)], 27) := by decide +kernel
theorem d_F_newFilter_28 : decode b_F_newFilter 28 = .ok (.new 150, 3) := by decide +kernel
theorem d_F_newFilter_31 : decode b_F_newFilter 31 = .ok (.dup, 1) := by decide +kernel
theorem d_F_newFilter_32 : decode b_F_newFilter 32 = .ok (.invokespecial 161, 3) := by decide +kernel
theorem d_F_newFilter_35 : decode b_F_newFilter 35 = .ok (.areturn, 1) := by decide +kernel
theorem d_F_newFilter_36 : decode b_F_newFilter 36 = .ok (.new 152, 3) := by decide +kernel
theorem d_F_newFilter_39 : decode b_F_newFilter 39 = .ok (.dup, 1) := by decide +kernel
theorem d_F_newFilter_40 : decode b_F_newFilter 40 = .ok (.invokespecial 162, 3) := by decide +kernel
theorem d_F_newFilter_43 : decode b_F_newFilter 43 = .ok (.areturn, 1) := by decide +kernel
theorem d_F_newFilter_44 : decode b_F_newFilter 44 = .ok (.new 124, 3) := by decide +kernel
theorem d_F_newFilter_47 : decode b_F_newFilter 47 = .ok (.dup, 1) := by decide +kernel
theorem d_F_newFilter_48 : decode b_F_newFilter 48 = .ok (.invokespecial 163, 3) := by decide +kernel
theorem d_F_newFilter_51 : decode b_F_newFilter 51 = .ok (.areturn, 1) := by decide +kernel
theorem d_F_asRuns_0 : decode b_F_asRuns 0 = .ok (.aload_n 0, 1) := by decide +kernel
theorem d_F_asRuns_1 : decode b_F_asRuns 1 = .ok (.instanceof 124, 3) := by decide +kernel
theorem d_F_asRuns_4 : decode b_F_asRuns 4 = .ok (.ifCond .eq 10, 3) := by decide +kernel
theorem d_F_asRuns_7 : decode b_F_asRuns 7 = .ok (.aload_n 0, 1) := by decide +kernel
theorem d_F_asRuns_8 : decode b_F_asRuns 8 = .ok (.checkcast 124, 3) := by decide +kernel
theorem d_F_asRuns_11 : decode b_F_asRuns 11 = .ok (.astore_n 1, 1) := by decide +kernel
theorem d_F_asRuns_12 : decode b_F_asRuns 12 = .ok (.aload_n 1, 1) := by decide +kernel
theorem d_F_asRuns_13 : decode b_F_asRuns 13 = .ok (.areturn, 1) := by decide +kernel
theorem d_F_asRuns_14 : decode b_F_asRuns 14 = .ok (.new 30, 3) := by decide +kernel
theorem d_F_asRuns_17 : decode b_F_asRuns 17 = .ok (.dup, 1) := by decide +kernel
theorem d_F_asRuns_18 : decode b_F_asRuns 18 = .ok (.ldc 164, 2) := by decide +kernel
theorem d_F_asRuns_20 : decode b_F_asRuns 20 = .ok (.invokespecial 34, 3) := by decide +kernel
theorem d_F_asRuns_23 : decode b_F_asRuns 23 = .ok (.athrow, 1) := by decide +kernel
theorem d_C_init_0 : decode b_C_init 0 = .ok (.aload_n 0, 1) := by decide +kernel
theorem d_C_init_1 : decode b_C_init 1 = .ok (.invokespecial 3, 3) := by decide +kernel
theorem d_C_init_4 : decode b_C_init 4 = .ok (.aload_n 0, 1) := by decide +kernel
theorem d_C_init_5 : decode b_C_init 5 = .ok (.sipush 1024, 3) := by decide +kernel
theorem d_C_init_8 : decode b_C_init 8 = .ok (.newarray .int, 2) := by decide +kernel
theorem d_C_init_10 : decode b_C_init 10 = .ok (.putfield 11, 3) := by decide +kernel
theorem d_C_init_13 : decode b_C_init 13 = .ok (.aload_n 0, 1) := by decide +kernel
theorem d_C_init_14 : decode b_C_init 14 = .ok (.bipush 6, 2) := by decide +kernel
theorem d_C_init_16 : decode b_C_init 16 = .ok (.newarray .int, 2) := by decide +kernel
theorem d_C_init_18 : decode b_C_init 18 = .ok (.putfield 15, 3) := by decide +kernel
theorem d_C_init_21 : decode b_C_init 21 = .ok (.aload_n 0, 1) := by decide +kernel
theorem d_C_init_22 : decode b_C_init 22 = .ok (.bipush 6, 2) := by decide +kernel
theorem d_C_init_24 : decode b_C_init 24 = .ok (.newarray .int, 2) := by decide +kernel
theorem d_C_init_26 : decode b_C_init 26 = .ok (.putfield 18, 3) := by decide +kernel
theorem d_C_init_29 : decode b_C_init 29 = .ok (.return_, 1) := by decide +kernel
theorem d_C_kind_0 : decode b_C_kind 0 = .ok (.iconst 1, 1) := by decide +kernel
theorem d_C_kind_1 : decode b_C_kind 1 = .ok (.ireturn, 1) := by decide +kernel
theorem d_C_wipe_0 : decode b_C_wipe 0 = .ok (.aload_n 0, 1) := by decide +kernel
theorem d_C_wipe_1 : decode b_C_wipe 1 = .ok (.getfield 11, 3) := by decide +kernel
theorem d_C_wipe_4 : decode b_C_wipe 4 = .ok (.iconst 0, 1) := by decide +kernel
theorem d_C_wipe_5 : decode b_C_wipe 5 = .ok (.invokestatic 21, 3) := by decide +kernel
theorem d_C_wipe_8 : decode b_C_wipe 8 = .ok (.return_, 1) := by decide +kernel
theorem d_C_put_0 : decode b_C_put 0 = .ok (.aload_n 0, 1) := by decide +kernel
theorem d_C_put_1 : decode b_C_put 1 = .ok (.lload_n 1, 1) := by decide +kernel
theorem d_C_put_2 : decode b_C_put 2 = .ok (.aload_n 0, 1) := by decide +kernel
theorem d_C_put_3 : decode b_C_put 3 = .ok (.getfield 15, 3) := by decide +kernel
theorem d_C_put_6 : decode b_C_put 6 = .ok (.invokevirtual 27, 3) := by decide +kernel
theorem d_C_put_9 : decode b_C_put 9 = .ok (.iconst 0, 1) := by decide +kernel
theorem d_C_put_10 : decode b_C_put 10 = .ok (.istore_n 3, 1) := by decide +kernel
theorem d_C_put_11 : decode b_C_put 11 = .ok (.iload_n 3, 1) := by decide +kernel
theorem d_C_put_12 : decode b_C_put 12 = .ok (.aload_n 0, 1) := by decide +kernel
theorem d_C_put_13 : decode b_C_put 13 = .ok (.getfield 31, 3) := by decide +kernel
theorem d_C_put_16 : decode b_C_put 16 = .ok (.if_icmp .ge 42, 3) := by decide +kernel
theorem d_C_put_19 : decode b_C_put 19 = .ok (.aload_n 0, 1) := by decide +kernel
theorem d_C_put_20 : decode b_C_put 20 = .ok (.getfield 11, 3) := by decide +kernel
theorem d_C_put_23 : decode b_C_put 23 = .ok (.aload_n 0, 1) := by decide +kernel
theorem d_C_put_24 : decode b_C_put 24 = .ok (.getfield 15, 3) := by decide +kernel
theorem d_C_put_27 : decode b_C_put 27 = .ok (.iload_n 3, 1) := by decide +kernel
theorem d_C_put_28 : decode b_C_put 28 = .ok (.iaload, 1) := by decide +kernel
theorem d_C_put_29 : decode b_C_put 29 = .ok (.iaload, 1) := by decide +kernel
theorem d_C_put_30 : decode b_C_put 30 = .ok (.aload_n 0, 1) := by decide +kernel
theorem d_C_put_31 : decode b_C_put 31 = .ok (.aload_n 0, 1) := by decide +kernel
theorem d_C_put_32 : decode b_C_put 32 = .ok (.getfield 15, 3) := by decide +kernel
theorem d_C_put_35 : decode b_C_put 35 = .ok (.aload_n 0, 1) := by decide +kernel
theorem d_C_put_36 : decode b_C_put 36 = .ok (.getfield 15, 3) := by decide +kernel
theorem d_C_put_39 : decode b_C_put 39 = .ok (.iload_n 3, 1) := by decide +kernel
theorem d_C_put_40 : decode b_C_put 40 = .ok (.iaload, 1) := by decide +kernel
theorem d_C_put_41 : decode b_C_put 41 = .ok (.invokevirtual 35, 3) := by decide +kernel
theorem d_C_put_44 : decode b_C_put 44 = .ok (.iadd, 1) := by decide +kernel
theorem d_C_put_45 : decode b_C_put 45 = .ok (.bipush 15, 2) := by decide +kernel
theorem d_C_put_47 : decode b_C_put 47 = .ok (.if_icmp .le 5, 3) := by decide +kernel
theorem d_C_put_50 : decode b_C_put 50 = .ok (.iconst 0, 1) := by decide +kernel
theorem d_C_put_51 : decode b_C_put 51 = .ok (.ireturn, 1) := by decide +kernel
theorem d_C_put_52 : decode b_C_put 52 = .ok (.iinc 3 1, 3) := by decide +kernel
theorem d_C_put_55 : decode b_C_put 55 = .ok (.goto (-44), 3) := by decide +kernel
theorem d_C_put_58 : decode b_C_put 58 = .ok (.aload_n 0, 1) := by decide +kernel
theorem d_C_put_59 : decode b_C_put 59 = .ok (.iconst 1, 1) := by decide +kernel
theorem d_C_put_60 : decode b_C_put 60 = .ok (.invokevirtual 39, 3) := by decide +kernel
theorem d_C_put_63 : decode b_C_put 63 = .ok (.iconst 1, 1) := by decide +kernel
theorem d_C_put_64 : decode b_C_put 64 = .ok (.ireturn, 1) := by decide +kernel
theorem d_C_take_0 : decode b_C_take 0 = .ok (.aload_n 0, 1) := by decide +kernel
theorem d_C_take_1 : decode b_C_take 1 = .ok (.lload_n 1, 1) := by decide +kernel
theorem d_C_take_2 : decode b_C_take 2 = .ok (.aload_n 0, 1) := by decide +kernel
theorem d_C_take_3 : decode b_C_take 3 = .ok (.getfield 15, 3) := by decide +kernel
theorem d_C_take_6 : decode b_C_take 6 = .ok (.invokevirtual 27, 3) := by decide +kernel
theorem d_C_take_9 : decode b_C_take 9 = .ok (.iconst 0, 1) := by decide +kernel
theorem d_C_take_10 : decode b_C_take 10 = .ok (.istore_n 3, 1) := by decide +kernel
theorem d_C_take_11 : decode b_C_take 11 = .ok (.iload_n 3, 1) := by decide +kernel
theorem d_C_take_12 : decode b_C_take 12 = .ok (.aload_n 0, 1) := by decide +kernel
theorem d_C_take_13 : decode b_C_take 13 = .ok (.getfield 31, 3) := by decide +kernel
theorem d_C_take_16 : decode b_C_take 16 = .ok (.if_icmp .ge 39, 3) := by decide +kernel
theorem d_C_take_19 : decode b_C_take 19 = .ok (.aload_n 0, 1) := by decide +kernel
theorem d_C_take_20 : decode b_C_take 20 = .ok (.getfield 11, 3) := by decide +kernel
theorem d_C_take_23 : decode b_C_take 23 = .ok (.aload_n 0, 1) := by decide +kernel
theorem d_C_take_24 : decode b_C_take 24 = .ok (.getfield 15, 3) := by decide +kernel
theorem d_C_take_27 : decode b_C_take 27 = .ok (.iload_n 3, 1) := by decide +kernel
theorem d_C_take_28 : decode b_C_take 28 = .ok (.iaload, 1) := by decide +kernel
theorem d_C_take_29 : decode b_C_take 29 = .ok (.iaload, 1) := by decide +kernel
theorem d_C_take_30 : decode b_C_take 30 = .ok (.aload_n 0, 1) := by decide +kernel
theorem d_C_take_31 : decode b_C_take 31 = .ok (.aload_n 0, 1) := by decide +kernel
theorem d_C_take_32 : decode b_C_take 32 = .ok (.getfield 15, 3) := by decide +kernel
theorem d_C_take_35 : decode b_C_take 35 = .ok (.aload_n 0, 1) := by decide +kernel
theorem d_C_take_36 : decode b_C_take 36 = .ok (.getfield 15, 3) := by decide +kernel
theorem d_C_take_39 : decode b_C_take 39 = .ok (.iload_n 3, 1) := by decide +kernel
theorem d_C_take_40 : decode b_C_take 40 = .ok (.iaload, 1) := by decide +kernel
theorem d_C_take_41 : decode b_C_take 41 = .ok (.invokevirtual 35, 3) := by decide +kernel
theorem d_C_take_44 : decode b_C_take 44 = .ok (.if_icmp .ge 5, 3) := by decide +kernel
theorem d_C_take_47 : decode b_C_take 47 = .ok (.iconst 0, 1) := by decide +kernel
theorem d_C_take_48 : decode b_C_take 48 = .ok (.ireturn, 1) := by decide +kernel
theorem d_C_take_49 : decode b_C_take 49 = .ok (.iinc 3 1, 3) := by decide +kernel
theorem d_C_take_52 : decode b_C_take 52 = .ok (.goto (-41), 3) := by decide +kernel
theorem d_C_take_55 : decode b_C_take 55 = .ok (.aload_n 0, 1) := by decide +kernel
theorem d_C_take_56 : decode b_C_take 56 = .ok (.iconst (-1), 1) := by decide +kernel
theorem d_C_take_57 : decode b_C_take 57 = .ok (.invokevirtual 39, 3) := by decide +kernel
theorem d_C_take_60 : decode b_C_take 60 = .ok (.iconst 1, 1) := by decide +kernel
theorem d_C_take_61 : decode b_C_take 61 = .ok (.ireturn, 1) := by decide +kernel
theorem d_C_holds_0 : decode b_C_holds 0 = .ok (.aload_n 0, 1) := by decide +kernel
theorem d_C_holds_1 : decode b_C_holds 1 = .ok (.lload_n 1, 1) := by decide +kernel
theorem d_C_holds_2 : decode b_C_holds 2 = .ok (.aload_n 0, 1) := by decide +kernel
theorem d_C_holds_3 : decode b_C_holds 3 = .ok (.getfield 15, 3) := by decide +kernel
theorem d_C_holds_6 : decode b_C_holds 6 = .ok (.invokevirtual 27, 3) := by decide +kernel
theorem d_C_holds_9 : decode b_C_holds 9 = .ok (.iconst 0, 1) := by decide +kernel
theorem d_C_holds_10 : decode b_C_holds 10 = .ok (.istore_n 3, 1) := by decide +kernel
theorem d_C_holds_11 : decode b_C_holds 11 = .ok (.iload_n 3, 1) := by decide +kernel
theorem d_C_holds_12 : decode b_C_holds 12 = .ok (.aload_n 0, 1) := by decide +kernel
theorem d_C_holds_13 : decode b_C_holds 13 = .ok (.getfield 31, 3) := by decide +kernel
theorem d_C_holds_16 : decode b_C_holds 16 = .ok (.if_icmp .ge 25, 3) := by decide +kernel
theorem d_C_holds_19 : decode b_C_holds 19 = .ok (.aload_n 0, 1) := by decide +kernel
theorem d_C_holds_20 : decode b_C_holds 20 = .ok (.getfield 11, 3) := by decide +kernel
theorem d_C_holds_23 : decode b_C_holds 23 = .ok (.aload_n 0, 1) := by decide +kernel
theorem d_C_holds_24 : decode b_C_holds 24 = .ok (.getfield 15, 3) := by decide +kernel
theorem d_C_holds_27 : decode b_C_holds 27 = .ok (.iload_n 3, 1) := by decide +kernel
theorem d_C_holds_28 : decode b_C_holds 28 = .ok (.iaload, 1) := by decide +kernel
theorem d_C_holds_29 : decode b_C_holds 29 = .ok (.iaload, 1) := by decide +kernel
theorem d_C_holds_30 : decode b_C_holds 30 = .ok (.ifCond .ne 5, 3) := by decide +kernel
theorem d_C_holds_33 : decode b_C_holds 33 = .ok (.iconst 0, 1) := by decide +kernel
theorem d_C_holds_34 : decode b_C_holds 34 = .ok (.ireturn, 1) := by decide +kernel
theorem d_C_holds_35 : decode b_C_holds 35 = .ok (.iinc 3 1, 3) := by decide +kernel
theorem d_C_holds_38 : decode b_C_holds 38 = .ok (.goto (-27), 3) := by decide +kernel
theorem d_C_holds_41 : decode b_C_holds 41 = .ok (.iconst 1, 1) := by decide +kernel
theorem d_C_holds_42 : decode b_C_holds 42 = .ok (.ireturn, 1) := by decide +kernel
theorem d_C_looksAlike_0 : decode b_C_looksAlike 0 = .ok (.aload_n 0, 1) := by decide +kernel
theorem d_C_looksAlike_1 : decode b_C_looksAlike 1 = .ok (.lload_n 1, 1) := by decide +kernel
theorem d_C_looksAlike_2 : decode b_C_looksAlike 2 = .ok (.aload_n 0, 1) := by decide +kernel
theorem d_C_looksAlike_3 : decode b_C_looksAlike 3 = .ok (.getfield 15, 3) := by decide +kernel
theorem d_C_looksAlike_6 : decode b_C_looksAlike 6 = .ok (.invokevirtual 27, 3) := by decide +kernel
theorem d_C_looksAlike_9 : decode b_C_looksAlike 9 = .ok (.aload_n 0, 1) := by decide +kernel
theorem d_C_looksAlike_10 : decode b_C_looksAlike 10 = .ok (.lload_n 3, 1) := by decide +kernel
theorem d_C_looksAlike_11 : decode b_C_looksAlike 11 = .ok (.aload_n 0, 1) := by decide +kernel
theorem d_C_looksAlike_12 : decode b_C_looksAlike 12 = .ok (.getfield 18, 3) := by decide +kernel
theorem d_C_looksAlike_15 : decode b_C_looksAlike 15 = .ok (.invokevirtual 27, 3) := by decide +kernel
theorem d_C_looksAlike_18 : decode b_C_looksAlike 18 = .ok (.iconst 0, 1) := by decide +kernel
theorem d_C_looksAlike_19 : decode b_C_looksAlike 19 = .ok (.istore 5, 2) := by decide +kernel
theorem d_C_looksAlike_21 : decode b_C_looksAlike 21 = .ok (.iload 5, 2) := by decide +kernel
theorem d_C_looksAlike_23 : decode b_C_looksAlike 23 = .ok (.aload_n 0, 1) := by decide +kernel
theorem d_C_looksAlike_24 : decode b_C_looksAlike 24 = .ok (.getfield 31, 3) := by decide +kernel
theorem d_C_looksAlike_27 : decode b_C_looksAlike 27 = .ok (.if_icmp .ge 44, 3) := by decide +kernel
theorem d_C_looksAlike_30 : decode b_C_looksAlike 30 = .ok (.aload_n 0, 1) := by decide +kernel
theorem d_C_looksAlike_31 : decode b_C_looksAlike 31 = .ok (.aload_n 0, 1) := by decide +kernel
theorem d_C_looksAlike_32 : decode b_C_looksAlike 32 = .ok (.getfield 15, 3) := by decide +kernel
theorem d_C_looksAlike_35 : decode b_C_looksAlike 35 = .ok (.aload_n 0, 1) := by decide +kernel
theorem d_C_looksAlike_36 : decode b_C_looksAlike 36 = .ok (.getfield 15, 3) := by decide +kernel
theorem d_C_looksAlike_39 : decode b_C_looksAlike 39 = .ok (.iload 5, 2) := by decide +kernel
theorem d_C_looksAlike_41 : decode b_C_looksAlike 41 = .ok (.iaload, 1) := by decide +kernel
theorem d_C_looksAlike_42 : decode b_C_looksAlike 42 = .ok (.invokevirtual 35, 3) := by decide +kernel
theorem d_C_looksAlike_45 : decode b_C_looksAlike 45 = .ok (.aload_n 0, 1) := by decide +kernel
theorem d_C_looksAlike_46 : decode b_C_looksAlike 46 = .ok (.aload_n 0, 1) := by decide +kernel
theorem d_C_looksAlike_47 : decode b_C_looksAlike 47 = .ok (.getfield 18, 3) := by decide +kernel
theorem d_C_looksAlike_50 : decode b_C_looksAlike 50 = .ok (.aload_n 0, 1) := by decide +kernel
theorem d_C_looksAlike_51 : decode b_C_looksAlike 51 = .ok (.getfield 15, 3) := by decide +kernel
theorem d_C_looksAlike_54 : decode b_C_looksAlike 54 = .ok (.iload 5, 2) := by decide +kernel
theorem d_C_looksAlike_56 : decode b_C_looksAlike 56 = .ok (.iaload, 1) := by decide +kernel
theorem d_C_looksAlike_57 : decode b_C_looksAlike 57 = .ok (.invokevirtual 35, 3) := by decide +kernel
theorem d_C_looksAlike_60 : decode b_C_looksAlike 60 = .ok (.if_icmp .eq 5, 3) := by decide +kernel
theorem d_C_looksAlike_63 : decode b_C_looksAlike 63 = .ok (.iconst 0, 1) := by decide +kernel
theorem d_C_looksAlike_64 : decode b_C_looksAlike 64 = .ok (.ireturn, 1) := by decide +kernel
theorem d_C_looksAlike_65 : decode b_C_looksAlike 65 = .ok (.iinc 5 1, 3) := by decide +kernel
theorem d_C_looksAlike_68 : decode b_C_looksAlike 68 = .ok (.goto (-47), 3) := by decide +kernel
theorem d_C_looksAlike_71 : decode b_C_looksAlike 71 = .ok (.iconst 1, 1) := by decide +kernel
theorem d_C_looksAlike_72 : decode b_C_looksAlike 72 = .ok (.ireturn, 1) := by decide +kernel
theorem d_C_filledCells_0 : decode b_C_filledCells 0 = .ok (.iconst 0, 1) := by decide +kernel
theorem d_C_filledCells_1 : decode b_C_filledCells 1 = .ok (.istore_n 1, 1) := by decide +kernel
theorem d_C_filledCells_2 : decode b_C_filledCells 2 = .ok (.iconst 0, 1) := by decide +kernel
theorem d_C_filledCells_3 : decode b_C_filledCells 3 = .ok (.istore_n 2, 1) := by decide +kernel
theorem d_C_filledCells_4 : decode b_C_filledCells 4 = .ok (.iload_n 2, 1) := by decide +kernel
theorem d_C_filledCells_5 : decode b_C_filledCells 5 = .ok (.aload_n 0, 1) := by decide +kernel
theorem d_C_filledCells_6 : decode b_C_filledCells 6 = .ok (.invokevirtual 43, 3) := by decide +kernel
theorem d_C_filledCells_9 : decode b_C_filledCells 9 = .ok (.if_icmp .ge 21, 3) := by decide +kernel
theorem d_C_filledCells_12 : decode b_C_filledCells 12 = .ok (.aload_n 0, 1) := by decide +kernel
theorem d_C_filledCells_13 : decode b_C_filledCells 13 = .ok (.getfield 11, 3) := by decide +kernel
theorem d_C_filledCells_16 : decode b_C_filledCells 16 = .ok (.iload_n 2, 1) := by decide +kernel
theorem d_C_filledCells_17 : decode b_C_filledCells 17 = .ok (.iaload, 1) := by decide +kernel
theorem d_C_filledCells_18 : decode b_C_filledCells 18 = .ok (.ifCond .le 6, 3) := by decide +kernel
theorem d_C_filledCells_21 : decode b_C_filledCells 21 = .ok (.iinc 1 1, 3) := by decide +kernel
theorem d_C_filledCells_24 : decode b_C_filledCells 24 = .ok (.iinc 2 1, 3) := by decide +kernel
theorem d_C_filledCells_27 : decode b_C_filledCells 27 = .ok (.goto (-23), 3) := by decide +kernel
theorem d_C_filledCells_30 : decode b_C_filledCells 30 = .ok (.iload_n 1, 1) := by decide +kernel
theorem d_C_filledCells_31 : decode b_C_filledCells 31 = .ok (.ireturn, 1) := by decide +kernel
theorem d_C_strain_0 : decode b_C_strain 0 = .ok (.iconst 0, 1) := by decide +kernel
theorem d_C_strain_1 : decode b_C_strain 1 = .ok (.istore_n 1, 1) := by decide +kernel
theorem d_C_strain_2 : decode b_C_strain 2 = .ok (.iconst 0, 1) := by decide +kernel
theorem d_C_strain_3 : decode b_C_strain 3 = .ok (.istore_n 2, 1) := by decide +kernel
theorem d_C_strain_4 : decode b_C_strain 4 = .ok (.iload_n 2, 1) := by decide +kernel
theorem d_C_strain_5 : decode b_C_strain 5 = .ok (.aload_n 0, 1) := by decide +kernel
theorem d_C_strain_6 : decode b_C_strain 6 = .ok (.invokevirtual 43, 3) := by decide +kernel
theorem d_C_strain_9 : decode b_C_strain 9 = .ok (.if_icmp .ge 20, 3) := by decide +kernel
theorem d_C_strain_12 : decode b_C_strain 12 = .ok (.iload_n 1, 1) := by decide +kernel
theorem d_C_strain_13 : decode b_C_strain 13 = .ok (.aload_n 0, 1) := by decide +kernel
theorem d_C_strain_14 : decode b_C_strain 14 = .ok (.getfield 11, 3) := by decide +kernel
theorem d_C_strain_17 : decode b_C_strain 17 = .ok (.iload_n 2, 1) := by decide +kernel
theorem d_C_strain_18 : decode b_C_strain 18 = .ok (.iaload, 1) := by decide +kernel
theorem d_C_strain_19 : decode b_C_strain 19 = .ok (.invokestatic 47, 3) := by decide +kernel
theorem d_C_strain_22 : decode b_C_strain 22 = .ok (.istore_n 1, 1) := by decide +kernel
theorem d_C_strain_23 : decode b_C_strain 23 = .ok (.iinc 2 1, 3) := by decide +kernel
theorem d_C_strain_26 : decode b_C_strain 26 = .ok (.goto (-22), 3) := by decide +kernel
theorem d_C_strain_29 : decode b_C_strain 29 = .ok (.iload_n 1, 1) := by decide +kernel
theorem d_C_strain_30 : decode b_C_strain 30 = .ok (.ireturn, 1) := by decide +kernel
theorem d_C_look_0 : decode b_C_look 0 = .ok (.aload_n 0, 1) := by decide +kernel
theorem d_C_look_1 : decode b_C_look 1 = .ok (.getfield 11, 3) := by decide +kernel
theorem d_C_look_4 : decode b_C_look 4 = .ok (.iload_n 1, 1) := by decide +kernel
theorem d_C_look_5 : decode b_C_look 5 = .ok (.iaload, 1) := by decide +kernel
theorem d_C_look_6 : decode b_C_look 6 = .ok (.ireturn, 1) := by decide +kernel
theorem d_C_findPlaces_0 : decode b_C_findPlaces 0 = .ok (.iconst 0, 1) := by decide +kernel
theorem d_C_findPlaces_1 : decode b_C_findPlaces 1 = .ok (.istore 4, 2) := by decide +kernel
theorem d_C_findPlaces_3 : decode b_C_findPlaces 3 = .ok (.iload 4, 2) := by decide +kernel
theorem d_C_findPlaces_5 : decode b_C_findPlaces 5 = .ok (.aload_n 0, 1) := by decide +kernel
theorem d_C_findPlaces_6 : decode b_C_findPlaces 6 = .ok (.getfield 31, 3) := by decide +kernel
theorem d_C_findPlaces_9 : decode b_C_findPlaces 9 = .ok (.if_icmp .ge 23, 3) := by decide +kernel
theorem d_C_findPlaces_12 : decode b_C_findPlaces 12 = .ok (.aload_n 3, 1) := by decide +kernel
theorem d_C_findPlaces_13 : decode b_C_findPlaces 13 = .ok (.iload 4, 2) := by decide +kernel
theorem d_C_findPlaces_15 : decode b_C_findPlaces 15 = .ok (.aload_n 0, 1) := by decide +kernel
theorem d_C_findPlaces_16 : decode b_C_findPlaces 16 = .ok (.lload_n 1, 1) := by decide +kernel
theorem d_C_findPlaces_17 : decode b_C_findPlaces 17 = .ok (.iload 4, 2) := by decide +kernel
theorem d_C_findPlaces_19 : decode b_C_findPlaces 19 = .ok (.invokestatic 53, 3) := by decide +kernel
theorem d_C_findPlaces_22 : decode b_C_findPlaces 22 = .ok (.invokevirtual 57, 3) := by decide +kernel
theorem d_C_findPlaces_25 : decode b_C_findPlaces 25 = .ok (.iastore, 1) := by decide +kernel
theorem d_C_findPlaces_26 : decode b_C_findPlaces 26 = .ok (.iinc 4 1, 3) := by decide +kernel
theorem d_C_findPlaces_29 : decode b_C_findPlaces 29 = .ok (.goto (-26), 3) := by decide +kernel
theorem d_C_findPlaces_32 : decode b_C_findPlaces 32 = .ok (.return_, 1) := by decide +kernel
theorem d_C_timesIn_0 : decode b_C_timesIn 0 = .ok (.iconst 0, 1) := by decide +kernel
theorem d_C_timesIn_1 : decode b_C_timesIn 1 = .ok (.istore_n 3, 1) := by decide +kernel
theorem d_C_timesIn_2 : decode b_C_timesIn 2 = .ok (.iconst 0, 1) := by decide +kernel
theorem d_C_timesIn_3 : decode b_C_timesIn 3 = .ok (.istore 4, 2) := by decide +kernel
theorem d_C_timesIn_5 : decode b_C_timesIn 5 = .ok (.iload 4, 2) := by decide +kernel
theorem d_C_timesIn_7 : decode b_C_timesIn 7 = .ok (.aload_n 0, 1) := by decide +kernel
theorem d_C_timesIn_8 : decode b_C_timesIn 8 = .ok (.getfield 31, 3) := by decide +kernel
theorem d_C_timesIn_11 : decode b_C_timesIn 11 = .ok (.if_icmp .ge 20, 3) := by decide +kernel
theorem d_C_timesIn_14 : decode b_C_timesIn 14 = .ok (.aload_n 1, 1) := by decide +kernel
theorem d_C_timesIn_15 : decode b_C_timesIn 15 = .ok (.iload 4, 2) := by decide +kernel
theorem d_C_timesIn_17 : decode b_C_timesIn 17 = .ok (.iaload, 1) := by decide +kernel
theorem d_C_timesIn_18 : decode b_C_timesIn 18 = .ok (.iload_n 2, 1) := by decide +kernel
theorem d_C_timesIn_19 : decode b_C_timesIn 19 = .ok (.if_icmp .ne 6, 3) := by decide +kernel
theorem d_C_timesIn_22 : decode b_C_timesIn 22 = .ok (.iinc 3 1, 3) := by decide +kernel
theorem d_C_timesIn_25 : decode b_C_timesIn 25 = .ok (.iinc 4 1, 3) := by decide +kernel
theorem d_C_timesIn_28 : decode b_C_timesIn 28 = .ok (.goto (-23), 3) := by decide +kernel
theorem d_C_timesIn_31 : decode b_C_timesIn 31 = .ok (.iload_n 3, 1) := by decide +kernel
theorem d_C_timesIn_32 : decode b_C_timesIn 32 = .ok (.ireturn, 1) := by decide +kernel
theorem d_C_countBy_0 : decode b_C_countBy 0 = .ok (.iconst 0, 1) := by decide +kernel
theorem d_C_countBy_1 : decode b_C_countBy 1 = .ok (.istore_n 2, 1) := by decide +kernel
theorem d_C_countBy_2 : decode b_C_countBy 2 = .ok (.iload_n 2, 1) := by decide +kernel
theorem d_C_countBy_3 : decode b_C_countBy 3 = .ok (.aload_n 0, 1) := by decide +kernel
theorem d_C_countBy_4 : decode b_C_countBy 4 = .ok (.getfield 31, 3) := by decide +kernel
theorem d_C_countBy_7 : decode b_C_countBy 7 = .ok (.if_icmp .ge 24, 3) := by decide +kernel
theorem d_C_countBy_10 : decode b_C_countBy 10 = .ok (.aload_n 0, 1) := by decide +kernel
theorem d_C_countBy_11 : decode b_C_countBy 11 = .ok (.getfield 11, 3) := by decide +kernel
theorem d_C_countBy_14 : decode b_C_countBy 14 = .ok (.aload_n 0, 1) := by decide +kernel
theorem d_C_countBy_15 : decode b_C_countBy 15 = .ok (.getfield 15, 3) := by decide +kernel
theorem d_C_countBy_18 : decode b_C_countBy 18 = .ok (.iload_n 2, 1) := by decide +kernel
theorem d_C_countBy_19 : decode b_C_countBy 19 = .ok (.iaload, 1) := by decide +kernel
theorem d_C_countBy_20 : decode b_C_countBy 20 = .ok (.dup2, 1) := by decide +kernel
theorem d_C_countBy_21 : decode b_C_countBy 21 = .ok (.iaload, 1) := by decide +kernel
theorem d_C_countBy_22 : decode b_C_countBy 22 = .ok (.iload_n 1, 1) := by decide +kernel
theorem d_C_countBy_23 : decode b_C_countBy 23 = .ok (.iadd, 1) := by decide +kernel
theorem d_C_countBy_24 : decode b_C_countBy 24 = .ok (.iastore, 1) := by decide +kernel
theorem d_C_countBy_25 : decode b_C_countBy 25 = .ok (.iinc 2 1, 3) := by decide +kernel
theorem d_C_countBy_28 : decode b_C_countBy 28 = .ok (.goto (-26), 3) := by decide +kernel
theorem d_C_countBy_31 : decode b_C_countBy 31 = .ok (.return_, 1) := by decide +kernel
theorem d_P_init_0 : decode b_P_init 0 = .ok (.aload_n 0, 1) := by decide +kernel
theorem d_P_init_1 : decode b_P_init 1 = .ok (.invokespecial 1, 3) := by decide +kernel
theorem d_P_init_4 : decode b_P_init 4 = .ok (.return_, 1) := by decide +kernel
theorem d_P_begin_0 : decode b_P_begin 0 = .ok (.aload_n 0, 1) := by decide +kernel
theorem d_P_begin_1 : decode b_P_begin 1 = .ok (.iload_n 1, 1) := by decide +kernel
theorem d_P_begin_2 : decode b_P_begin 2 = .ok (.putfield 7, 3) := by decide +kernel
theorem d_P_begin_5 : decode b_P_begin 5 = .ok (.aload_n 0, 1) := by decide +kernel
theorem d_P_begin_6 : decode b_P_begin 6 = .ok (.iload_n 2, 1) := by decide +kernel
theorem d_P_begin_7 : decode b_P_begin 7 = .ok (.putfield 13, 3) := by decide +kernel
theorem d_P_begin_10 : decode b_P_begin 10 = .ok (.aload_n 0, 1) := by decide +kernel
theorem d_P_begin_11 : decode b_P_begin 11 = .ok (.iconst 0, 1) := by decide +kernel
theorem d_P_begin_12 : decode b_P_begin 12 = .ok (.putfield 16, 3) := by decide +kernel
theorem d_P_begin_15 : decode b_P_begin 15 = .ok (.aload_n 0, 1) := by decide +kernel
theorem d_P_begin_16 : decode b_P_begin 16 = .ok (.invokevirtual 19, 3) := by decide +kernel
theorem d_P_begin_19 : decode b_P_begin 19 = .ok (.return_, 1) := by decide +kernel
theorem d_P_accept_0 : decode b_P_accept 0 = .ok (.aload_n 0, 1) := by decide +kernel
theorem d_P_accept_1 : decode b_P_accept 1 = .ok (.lload_n 1, 1) := by decide +kernel
theorem d_P_accept_2 : decode b_P_accept 2 = .ok (.invokevirtual 22, 3) := by decide +kernel
theorem d_P_accept_5 : decode b_P_accept 5 = .ok (.ifCond .ne 5, 3) := by decide +kernel
theorem d_P_accept_8 : decode b_P_accept 8 = .ok (.iconst 0, 1) := by decide +kernel
theorem d_P_accept_9 : decode b_P_accept 9 = .ok (.ireturn, 1) := by decide +kernel
theorem d_P_accept_10 : decode b_P_accept 10 = .ok (.aload_n 0, 1) := by decide +kernel
theorem d_P_accept_11 : decode b_P_accept 11 = .ok (.dup, 1) := by decide +kernel
theorem d_P_accept_12 : decode b_P_accept 12 = .ok (.getfield 16, 3) := by decide +kernel
theorem d_P_accept_15 : decode b_P_accept 15 = .ok (.iconst 1, 1) := by decide +kernel
theorem d_P_accept_16 : decode b_P_accept 16 = .ok (.iadd, 1) := by decide +kernel
theorem d_P_accept_17 : decode b_P_accept 17 = .ok (.putfield 16, 3) := by decide +kernel
theorem d_P_accept_20 : decode b_P_accept 20 = .ok (.iconst 1, 1) := by decide +kernel
theorem d_P_accept_21 : decode b_P_accept 21 = .ok (.ireturn, 1) := by decide +kernel
theorem d_P_release_0 : decode b_P_release 0 = .ok (.aload_n 0, 1) := by decide +kernel
theorem d_P_release_1 : decode b_P_release 1 = .ok (.lload_n 1, 1) := by decide +kernel
theorem d_P_release_2 : decode b_P_release 2 = .ok (.invokevirtual 26, 3) := by decide +kernel
theorem d_P_release_5 : decode b_P_release 5 = .ok (.ifCond .ne 5, 3) := by decide +kernel
theorem d_P_release_8 : decode b_P_release 8 = .ok (.iconst 0, 1) := by decide +kernel
theorem d_P_release_9 : decode b_P_release 9 = .ok (.ireturn, 1) := by decide +kernel
theorem d_P_release_10 : decode b_P_release 10 = .ok (.aload_n 0, 1) := by decide +kernel
theorem d_P_release_11 : decode b_P_release 11 = .ok (.dup, 1) := by decide +kernel
theorem d_P_release_12 : decode b_P_release 12 = .ok (.getfield 16, 3) := by decide +kernel
theorem d_P_release_15 : decode b_P_release 15 = .ok (.iconst 1, 1) := by decide +kernel
theorem d_P_release_16 : decode b_P_release 16 = .ok (.isub, 1) := by decide +kernel
theorem d_P_release_17 : decode b_P_release 17 = .ok (.putfield 16, 3) := by decide +kernel
theorem d_P_release_20 : decode b_P_release 20 = .ok (.iconst 1, 1) := by decide +kernel
theorem d_P_release_21 : decode b_P_release 21 = .ok (.ireturn, 1) := by decide +kernel
theorem d_P_power_0 : decode b_P_power 0 = .ok (.iconst 1, 1) := by decide +kernel
theorem d_P_power_1 : decode b_P_power 1 = .ok (.aload_n 0, 1) := by decide +kernel
theorem d_P_power_2 : decode b_P_power 2 = .ok (.getfield 7, 3) := by decide +kernel
theorem d_P_power_5 : decode b_P_power 5 = .ok (.ishl, 1) := by decide +kernel
theorem d_P_power_6 : decode b_P_power 6 = .ok (.ireturn, 1) := by decide +kernel
theorem d_P_lowestBits_0 : decode b_P_lowestBits 0 = .ok (.lload_n 1, 1) := by decide +kernel
theorem d_P_lowestBits_1 : decode b_P_lowestBits 1 = .ok (.l2i, 1) := by decide +kernel
theorem d_P_lowestBits_2 : decode b_P_lowestBits 2 = .ok (.aload_n 0, 1) := by decide +kernel
theorem d_P_lowestBits_3 : decode b_P_lowestBits 3 = .ok (.invokevirtual 29, 3) := by decide +kernel
theorem d_P_lowestBits_6 : decode b_P_lowestBits 6 = .ok (.iconst 1, 1) := by decide +kernel
theorem d_P_lowestBits_7 : decode b_P_lowestBits 7 = .ok (.isub, 1) := by decide +kernel
theorem d_P_lowestBits_8 : decode b_P_lowestBits 8 = .ok (.iand, 1) := by decide +kernel
theorem d_P_lowestBits_9 : decode b_P_lowestBits 9 = .ok (.ireturn, 1) := by decide +kernel
theorem d_P_cells_0 : decode b_P_cells 0 = .ok (.aload_n 0, 1) := by decide +kernel
theorem d_P_cells_1 : decode b_P_cells 1 = .ok (.invokevirtual 29, 3) := by decide +kernel
theorem d_P_cells_4 : decode b_P_cells 4 = .ok (.ireturn, 1) := by decide +kernel
theorem d_P_filledCells_0 : decode b_P_filledCells 0 = .ok (.aload_n 0, 1) := by decide +kernel
theorem d_P_filledCells_1 : decode b_P_filledCells 1 = .ok (.getfield 16, 3) := by decide +kernel
theorem d_P_filledCells_4 : decode b_P_filledCells 4 = .ok (.ireturn, 1) := by decide +kernel
theorem d_A_fill_0 : decode b_A_fill 0 = .ok (.iconst 0, 1) := by decide +kernel
theorem d_A_fill_1 : decode b_A_fill 1 = .ok (.istore_n 2, 1) := by decide +kernel
theorem d_A_fill_2 : decode b_A_fill 2 = .ok (.aload_n 0, 1) := by decide +kernel
theorem d_A_fill_3 : decode b_A_fill 3 = .ok (.arraylength, 1) := by decide +kernel
theorem d_A_fill_4 : decode b_A_fill 4 = .ok (.istore_n 3, 1) := by decide +kernel
theorem d_A_fill_5 : decode b_A_fill 5 = .ok (.iload_n 2, 1) := by decide +kernel
theorem d_A_fill_6 : decode b_A_fill 6 = .ok (.iload_n 3, 1) := by decide +kernel
theorem d_A_fill_7 : decode b_A_fill 7 = .ok (.if_icmp .ge 13, 3) := by decide +kernel
theorem d_A_fill_10 : decode b_A_fill 10 = .ok (.aload_n 0, 1) := by decide +kernel
theorem d_A_fill_11 : decode b_A_fill 11 = .ok (.iload_n 2, 1) := by decide +kernel
theorem d_A_fill_12 : decode b_A_fill 12 = .ok (.iload_n 1, 1) := by decide +kernel
theorem d_A_fill_13 : decode b_A_fill 13 = .ok (.iastore, 1) := by decide +kernel
theorem d_A_fill_14 : decode b_A_fill 14 = .ok (.iinc 2 1, 3) := by decide +kernel
theorem d_A_fill_17 : decode b_A_fill 17 = .ok (.goto (-12), 3) := by decide +kernel
theorem d_A_fill_20 : decode b_A_fill 20 = .ok (.return_, 1) := by decide +kernel
