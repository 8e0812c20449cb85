theorem dX0_init_0 : decode cX0_init 0 = .ok (.aload_n 0, 1) := by decide +kernel
theorem dX0_init_1 : decode cX0_init 1 = .ok (.invokespecial 3, 3) := by decide +kernel
theorem dX0_init_4 : decode cX0_init 4 = .ok (.aload_n 0, 1) := by decide +kernel
theorem dX0_init_5 : decode cX0_init 5 = .ok (.bipush 6, 2) := by decide +kernel
theorem dX0_init_7 : decode cX0_init 7 = .ok (.newarray .int, 2) := by decide +kernel
theorem dX0_init_9 : decode cX0_init 9 = .ok (.putfield 9, 3) := by decide +kernel
theorem dX0_init_12 : decode cX0_init 12 = .ok (.aload_n 0, 1) := by decide +kernel
theorem dX0_init_13 : decode cX0_init 13 = .ok (.bipush 6, 2) := by decide +kernel
theorem dX0_init_15 : decode cX0_init 15 = .ok (.newarray .int, 2) := by decide +kernel
theorem dX0_init_17 : decode cX0_init 17 = .ok (.putfield 15, 3) := by decide +kernel
theorem dX0_init_20 : decode cX0_init 20 = .ok (.aload_n 0, 1) := by decide +kernel
theorem dX0_init_21 : decode cX0_init 21 = .ok (.bipush 6, 2) := by decide +kernel
theorem dX0_init_23 : decode cX0_init 23 = .ok (.newarray .int, 2) := by decide +kernel
theorem dX0_init_25 : decode cX0_init 25 = .ok (.putfield 18, 3) := by decide +kernel
theorem dX0_init_28 : decode cX0_init 28 = .ok (.return_, 1) := by decide +kernel
theorem dX0_add_0 : decode cX0_add 0 = .ok (.aload_n 0, 1) := by decide +kernel
theorem dX0_add_1 : decode cX0_add 1 = .ok (.getfield 21, 3) := by decide +kernel
theorem dX0_add_4 : decode cX0_add 4 = .ok (.bipush 6, 2) := by decide +kernel
theorem dX0_add_6 : decode cX0_add 6 = .ok (.if_icmp .lt 5, 3) := by decide +kernel
theorem dX0_add_9 : decode cX0_add 9 = .ok (.iconst 0, 1) := by decide +kernel
theorem dX0_add_10 : decode cX0_add 10 = .ok (.ireturn, 1) := by decide +kernel
theorem dX0_add_11 : decode cX0_add 11 = .ok (.aload_n 0, 1) := by decide +kernel
theorem dX0_add_12 : decode cX0_add 12 = .ok (.getfield 9, 3) := by decide +kernel
theorem dX0_add_15 : decode cX0_add 15 = .ok (.aload_n 0, 1) := by decide +kernel
theorem dX0_add_16 : decode cX0_add 16 = .ok (.getfield 21, 3) := by decide +kernel
theorem dX0_add_19 : decode cX0_add 19 = .ok (.iload_n 1, 1) := by decide +kernel
theorem dX0_add_20 : decode cX0_add 20 = .ok (.iastore, 1) := by decide +kernel
theorem dX0_add_21 : decode cX0_add 21 = .ok (.aload_n 0, 1) := by decide +kernel
theorem dX0_add_22 : decode cX0_add 22 = .ok (.getfield 15, 3) := by decide +kernel
theorem dX0_add_25 : decode cX0_add 25 = .ok (.aload_n 0, 1) := by decide +kernel
theorem dX0_add_26 : decode cX0_add 26 = .ok (.getfield 21, 3) := by decide +kernel
theorem dX0_add_29 : decode cX0_add 29 = .ok (.iload_n 2, 1) := by decide +kernel
theorem dX0_add_30 : decode cX0_add 30 = .ok (.ifCond .eq 7, 3) := by decide +kernel
theorem dX0_add_33 : decode cX0_add 33 = .ok (.iconst (-1), 1) := by decide +kernel
theorem dX0_add_34 : decode cX0_add 34 = .ok (.goto 4, 3) := by decide +kernel
theorem dX0_add_37 : decode cX0_add 37 = .ok (.iload_n 3, 1) := by decide +kernel
theorem dX0_add_38 : decode cX0_add 38 = .ok (.iastore, 1) := by decide +kernel
theorem dX0_add_39 : decode cX0_add 39 = .ok (.aload_n 0, 1) := by decide +kernel
theorem dX0_add_40 : decode cX0_add 40 = .ok (.getfield 18, 3) := by decide +kernel
theorem dX0_add_43 : decode cX0_add 43 = .ok (.aload_n 0, 1) := by decide +kernel
theorem dX0_add_44 : decode cX0_add 44 = .ok (.getfield 21, 3) := by decide +kernel
theorem dX0_add_47 : decode cX0_add 47 = .ok (.iload_n 2, 1) := by decide +kernel
theorem dX0_add_48 : decode cX0_add 48 = .ok (.ifCond .eq 7, 3) := by decide +kernel
theorem dX0_add_51 : decode cX0_add 51 = .ok (.iload_n 3, 1) := by decide +kernel
theorem dX0_add_52 : decode cX0_add 52 = .ok (.goto 4, 3) := by decide +kernel
theorem dX0_add_55 : decode cX0_add 55 = .ok (.iconst (-1), 1) := by decide +kernel
theorem dX0_add_56 : decode cX0_add 56 = .ok (.iastore, 1) := by decide +kernel
theorem dX0_add_57 : decode cX0_add 57 = .ok (.aload_n 0, 1) := by decide +kernel
theorem dX0_add_58 : decode cX0_add 58 = .ok (.dup, 1) := by decide +kernel
theorem dX0_add_59 : decode cX0_add 59 = .ok (.getfield 21, 3) := by decide +kernel
theorem dX0_add_62 : decode cX0_add 62 = .ok (.iconst 1, 1) := by decide +kernel
theorem dX0_add_63 : decode cX0_add 63 = .ok (.iadd, 1) := by decide +kernel
theorem dX0_add_64 : decode cX0_add 64 = .ok (.putfield 21, 3) := by decide +kernel
theorem dX0_add_67 : decode cX0_add 67 = .ok (.iconst 1, 1) := by decide +kernel
theorem dX0_add_68 : decode cX0_add 68 = .ok (.ireturn, 1) := by decide +kernel
theorem dX0_clear_0 : decode cX0_clear 0 = .ok (.aload_n 0, 1) := by decide +kernel
theorem dX0_clear_1 : decode cX0_clear 1 = .ok (.iconst 0, 1) := by decide +kernel
theorem dX0_clear_2 : decode cX0_clear 2 = .ok (.putfield 21, 3) := by decide +kernel
theorem dX0_clear_5 : decode cX0_clear 5 = .ok (.return_, 1) := by decide +kernel
theorem dX0_copy_0 : decode cX0_copy 0 = .ok (.new 10, 3) := by decide +kernel
theorem dX0_copy_3 : decode cX0_copy 3 = .ok (.dup, 1) := by decide +kernel
theorem dX0_copy_4 : decode cX0_copy 4 = .ok (.invokespecial 25, 3) := by decide +kernel
theorem dX0_copy_7 : decode cX0_copy 7 = .ok (.astore_n 1, 1) := by decide +kernel
theorem dX0_copy_8 : decode cX0_copy 8 = .ok (.aload_n 0, 1) := by decide +kernel
theorem dX0_copy_9 : decode cX0_copy 9 = .ok (.getfield 9, 3) := by decide +kernel
theorem dX0_copy_12 : decode cX0_copy 12 = .ok (.iconst 0, 1) := by decide +kernel
theorem dX0_copy_13 : decode cX0_copy 13 = .ok (.aload_n 1, 1) := by decide +kernel
theorem dX0_copy_14 : decode cX0_copy 14 = .ok (.getfield 9, 3) := by decide +kernel
theorem dX0_copy_17 : decode cX0_copy 17 = .ok (.iconst 0, 1) := by decide +kernel
theorem dX0_copy_18 : decode cX0_copy 18 = .ok (.aload_n 0, 1) := by decide +kernel
theorem dX0_copy_19 : decode cX0_copy 19 = .ok (.getfield 21, 3) := by decide +kernel
theorem dX0_copy_22 : decode cX0_copy 22 = .ok (.invokestatic 26, 3) := by decide +kernel
theorem dX0_copy_25 : decode cX0_copy 25 = .ok (.aload_n 0, 1) := by decide +kernel
theorem dX0_copy_26 : decode cX0_copy 26 = .ok (.getfield 15, 3) := by decide +kernel
theorem dX0_copy_29 : decode cX0_copy 29 = .ok (.iconst 0, 1) := by decide +kernel
theorem dX0_copy_30 : decode cX0_copy 30 = .ok (.aload_n 1, 1) := by decide +kernel
theorem dX0_copy_31 : decode cX0_copy 31 = .ok (.getfield 15, 3) := by decide +kernel
theorem dX0_copy_34 : decode cX0_copy 34 = .ok (.iconst 0, 1) := by decide +kernel
theorem dX0_copy_35 : decode cX0_copy 35 = .ok (.aload_n 0, 1) := by decide +kernel
theorem dX0_copy_36 : decode cX0_copy 36 = .ok (.getfield 21, 3) := by decide +kernel
theorem dX0_copy_39 : decode cX0_copy 39 = .ok (.invokestatic 26, 3) := by decide +kernel
theorem dX0_copy_42 : decode cX0_copy 42 = .ok (.aload_n 0, 1) := by decide +kernel
theorem dX0_copy_43 : decode cX0_copy 43 = .ok (.getfield 18, 3) := by decide +kernel
theorem dX0_copy_46 : decode cX0_copy 46 = .ok (.iconst 0, 1) := by decide +kernel
theorem dX0_copy_47 : decode cX0_copy 47 = .ok (.aload_n 1, 1) := by decide +kernel
theorem dX0_copy_48 : decode cX0_copy 48 = .ok (.getfield 18, 3) := by decide +kernel
theorem dX0_copy_51 : decode cX0_copy 51 = .ok (.iconst 0, 1) := by decide +kernel
theorem dX0_copy_52 : decode cX0_copy 52 = .ok (.aload_n 0, 1) := by decide +kernel
theorem dX0_copy_53 : decode cX0_copy 53 = .ok (.getfield 21, 3) := by decide +kernel
theorem dX0_copy_56 : decode cX0_copy 56 = .ok (.invokestatic 26, 3) := by decide +kernel
theorem dX0_copy_59 : decode cX0_copy 59 = .ok (.aload_n 1, 1) := by decide +kernel
theorem dX0_copy_60 : decode cX0_copy 60 = .ok (.aload_n 0, 1) := by decide +kernel
theorem dX0_copy_61 : decode cX0_copy 61 = .ok (.getfield 21, 3) := by decide +kernel
theorem dX0_copy_64 : decode cX0_copy 64 = .ok (.putfield 21, 3) := by decide +kernel
theorem dX0_copy_67 : decode cX0_copy 67 = .ok (.aload_n 1, 1) := by decide +kernel
theorem dX0_copy_68 : decode cX0_copy 68 = .ok (.areturn, 1) := by decide +kernel
theorem dX0_size_0 : decode cX0_size 0 = .ok (.aload_n 0, 1) := by decide +kernel
theorem dX0_size_1 : decode cX0_size 1 = .ok (.getfield 21, 3) := by decide +kernel
theorem dX0_size_4 : decode cX0_size 4 = .ok (.ireturn, 1) := by decide +kernel
theorem dX0_role_0 : decode cX0_role 0 = .ok (.aload_n 0, 1) := by decide +kernel
theorem dX0_role_1 : decode cX0_role 1 = .ok (.getfield 9, 3) := by decide +kernel
theorem dX0_role_4 : decode cX0_role 4 = .ok (.iload_n 1, 1) := by decide +kernel
theorem dX0_role_5 : decode cX0_role 5 = .ok (.iaload, 1) := by decide +kernel
theorem dX0_role_6 : decode cX0_role 6 = .ok (.ireturn, 1) := by decide +kernel
theorem dX0_thing_0 : decode cX0_thing 0 = .ok (.aload_n 0, 1) := by decide +kernel
theorem dX0_thing_1 : decode cX0_thing 1 = .ok (.getfield 15, 3) := by decide +kernel
theorem dX0_thing_4 : decode cX0_thing 4 = .ok (.iload_n 1, 1) := by decide +kernel
theorem dX0_thing_5 : decode cX0_thing 5 = .ok (.iaload, 1) := by decide +kernel
theorem dX0_thing_6 : decode cX0_thing 6 = .ok (.ireturn, 1) := by decide +kernel
theorem dX0_line_0 : decode cX0_line 0 = .ok (.aload_n 0, 1) := by decide +kernel
theorem dX0_line_1 : decode cX0_line 1 = .ok (.getfield 18, 3) := by decide +kernel
theorem dX0_line_4 : decode cX0_line 4 = .ok (.iload_n 1, 1) := by decide +kernel
theorem dX0_line_5 : decode cX0_line 5 = .ok (.iaload, 1) := by decide +kernel
theorem dX0_line_6 : decode cX0_line 6 = .ok (.ireturn, 1) := by decide +kernel
theorem dX0_inRole_0 : decode cX0_inRole 0 = .ok (.iconst 0, 1) := by decide +kernel
theorem dX0_inRole_1 : decode cX0_inRole 1 = .ok (.istore_n 2, 1) := by decide +kernel
theorem dX0_inRole_2 : decode cX0_inRole 2 = .ok (.iconst 0, 1) := by decide +kernel
theorem dX0_inRole_3 : decode cX0_inRole 3 = .ok (.istore_n 3, 1) := by decide +kernel
theorem dX0_inRole_4 : decode cX0_inRole 4 = .ok (.iload_n 3, 1) := by decide +kernel
theorem dX0_inRole_5 : decode cX0_inRole 5 = .ok (.aload_n 0, 1) := by decide +kernel
theorem dX0_inRole_6 : decode cX0_inRole 6 = .ok (.getfield 21, 3) := by decide +kernel
theorem dX0_inRole_9 : decode cX0_inRole 9 = .ok (.if_icmp .ge 22, 3) := by decide +kernel
theorem dX0_inRole_12 : decode cX0_inRole 12 = .ok (.aload_n 0, 1) := by decide +kernel
theorem dX0_inRole_13 : decode cX0_inRole 13 = .ok (.getfield 9, 3) := by decide +kernel
theorem dX0_inRole_16 : decode cX0_inRole 16 = .ok (.iload_n 3, 1) := by decide +kernel
theorem dX0_inRole_17 : decode cX0_inRole 17 = .ok (.iaload, 1) := by decide +kernel
theorem dX0_inRole_18 : decode cX0_inRole 18 = .ok (.iload_n 1, 1) := by decide +kernel
theorem dX0_inRole_19 : decode cX0_inRole 19 = .ok (.if_icmp .ne 6, 3) := by decide +kernel
theorem dX0_inRole_22 : decode cX0_inRole 22 = .ok (.iinc 2 1, 3) := by decide +kernel
theorem dX0_inRole_25 : decode cX0_inRole 25 = .ok (.iinc 3 1, 3) := by decide +kernel
theorem dX0_inRole_28 : decode cX0_inRole 28 = .ok (.goto (-24), 3) := by decide +kernel
theorem dX0_inRole_31 : decode cX0_inRole 31 = .ok (.iload_n 2, 1) := by decide +kernel
theorem dX0_inRole_32 : decode cX0_inRole 32 = .ok (.ireturn, 1) := by decide +kernel
theorem dX0_hasLine_0 : decode cX0_hasLine 0 = .ok (.iconst 0, 1) := by decide +kernel
theorem dX0_hasLine_1 : decode cX0_hasLine 1 = .ok (.istore_n 2, 1) := by decide +kernel
theorem dX0_hasLine_2 : decode cX0_hasLine 2 = .ok (.iload_n 2, 1) := by decide +kernel
theorem dX0_hasLine_3 : decode cX0_hasLine 3 = .ok (.aload_n 0, 1) := by decide +kernel
theorem dX0_hasLine_4 : decode cX0_hasLine 4 = .ok (.getfield 21, 3) := by decide +kernel
theorem dX0_hasLine_7 : decode cX0_hasLine 7 = .ok (.if_icmp .ge 21, 3) := by decide +kernel
theorem dX0_hasLine_10 : decode cX0_hasLine 10 = .ok (.aload_n 0, 1) := by decide +kernel
theorem dX0_hasLine_11 : decode cX0_hasLine 11 = .ok (.getfield 18, 3) := by decide +kernel
theorem dX0_hasLine_14 : decode cX0_hasLine 14 = .ok (.iload_n 2, 1) := by decide +kernel
theorem dX0_hasLine_15 : decode cX0_hasLine 15 = .ok (.iaload, 1) := by decide +kernel
theorem dX0_hasLine_16 : decode cX0_hasLine 16 = .ok (.iload_n 1, 1) := by decide +kernel
theorem dX0_hasLine_17 : decode cX0_hasLine 17 = .ok (.if_icmp .ne 5, 3) := by decide +kernel
theorem dX0_hasLine_20 : decode cX0_hasLine 20 = .ok (.iconst 1, 1) := by decide +kernel
theorem dX0_hasLine_21 : decode cX0_hasLine 21 = .ok (.ireturn, 1) := by decide +kernel
theorem dX0_hasLine_22 : decode cX0_hasLine 22 = .ok (.iinc 2 1, 3) := by decide +kernel
theorem dX0_hasLine_25 : decode cX0_hasLine 25 = .ok (.goto (-23), 3) := by decide +kernel
theorem dX0_hasLine_28 : decode cX0_hasLine 28 = .ok (.iconst 0, 1) := by decide +kernel
theorem dX0_hasLine_29 : decode cX0_hasLine 29 = .ok (.ireturn, 1) := by decide +kernel
theorem dX0_thingsInRole_0 : decode cX0_thingsInRole 0 = .ok (.lconst 0, 1) := by decide +kernel
theorem dX0_thingsInRole_1 : decode cX0_thingsInRole 1 = .ok (.lstore_n 3, 1) := by decide +kernel
theorem dX0_thingsInRole_2 : decode cX0_thingsInRole 2 = .ok (.iconst 0, 1) := by decide +kernel
theorem dX0_thingsInRole_3 : decode cX0_thingsInRole 3 = .ok (.istore 5, 2) := by decide +kernel
theorem dX0_thingsInRole_5 : decode cX0_thingsInRole 5 = .ok (.iload 5, 2) := by decide +kernel
theorem dX0_thingsInRole_7 : decode cX0_thingsInRole 7 = .ok (.aload_n 0, 1) := by decide +kernel
theorem dX0_thingsInRole_8 : decode cX0_thingsInRole 8 = .ok (.getfield 21, 3) := by decide +kernel
theorem dX0_thingsInRole_11 : decode cX0_thingsInRole 11 = .ok (.if_icmp .ge 47, 3) := by decide +kernel
theorem dX0_thingsInRole_14 : decode cX0_thingsInRole 14 = .ok (.aload_n 0, 1) := by decide +kernel
theorem dX0_thingsInRole_15 : decode cX0_thingsInRole 15 = .ok (.getfield 9, 3) := by decide +kernel
theorem dX0_thingsInRole_18 : decode cX0_thingsInRole 18 = .ok (.iload 5, 2) := by decide +kernel
theorem dX0_thingsInRole_20 : decode cX0_thingsInRole 20 = .ok (.iaload, 1) := by decide +kernel
theorem dX0_thingsInRole_21 : decode cX0_thingsInRole 21 = .ok (.iload_n 1, 1) := by decide +kernel
theorem dX0_thingsInRole_22 : decode cX0_thingsInRole 22 = .ok (.if_icmp .ne 30, 3) := by decide +kernel
theorem dX0_thingsInRole_25 : decode cX0_thingsInRole 25 = .ok (.aload_n 0, 1) := by decide +kernel
theorem dX0_thingsInRole_26 : decode cX0_thingsInRole 26 = .ok (.getfield 15, 3) := by decide +kernel
theorem dX0_thingsInRole_29 : decode cX0_thingsInRole 29 = .ok (.iload 5, 2) := by decide +kernel
theorem dX0_thingsInRole_31 : decode cX0_thingsInRole 31 = .ok (.iaload, 1) := by decide +kernel
theorem dX0_thingsInRole_32 : decode cX0_thingsInRole 32 = .ok (.iconst (-1), 1) := by decide +kernel
theorem dX0_thingsInRole_33 : decode cX0_thingsInRole 33 = .ok (.if_icmp .eq 19, 3) := by decide +kernel
theorem dX0_thingsInRole_36 : decode cX0_thingsInRole 36 = .ok (.lload_n 3, 1) := by decide +kernel
theorem dX0_thingsInRole_37 : decode cX0_thingsInRole 37 = .ok (.lconst 1, 1) := by decide +kernel
theorem dX0_thingsInRole_38 : decode cX0_thingsInRole 38 = .ok (.aload_n 2, 1) := by decide +kernel
theorem dX0_thingsInRole_39 : decode cX0_thingsInRole 39 = .ok (.aload_n 0, 1) := by decide +kernel
theorem dX0_thingsInRole_40 : decode cX0_thingsInRole 40 = .ok (.getfield 15, 3) := by decide +kernel
theorem dX0_thingsInRole_43 : decode cX0_thingsInRole 43 = .ok (.iload 5, 2) := by decide +kernel
theorem dX0_thingsInRole_45 : decode cX0_thingsInRole 45 = .ok (.iaload, 1) := by decide +kernel
theorem dX0_thingsInRole_46 : decode cX0_thingsInRole 46 = .ok (.invokevirtual 32, 3) := by decide +kernel
theorem dX0_thingsInRole_49 : decode cX0_thingsInRole 49 = .ok (.lshl, 1) := by decide +kernel
theorem dX0_thingsInRole_50 : decode cX0_thingsInRole 50 = .ok (.lor, 1) := by decide +kernel
theorem dX0_thingsInRole_51 : decode cX0_thingsInRole 51 = .ok (.lstore_n 3, 1) := by decide +kernel
theorem dX0_thingsInRole_52 : decode cX0_thingsInRole 52 = .ok (.iinc 5 1, 3) := by decide +kernel
theorem dX0_thingsInRole_55 : decode cX0_thingsInRole 55 = .ok (.goto (-50), 3) := by decide +kernel
theorem dX0_thingsInRole_58 : decode cX0_thingsInRole 58 = .ok (.lload_n 3, 1) := by decide +kernel
theorem dX0_thingsInRole_59 : decode cX0_thingsInRole 59 = .ok (.lreturn, 1) := by decide +kernel
theorem dX0_allThings_0 : decode cX0_allThings 0 = .ok (.lconst 0, 1) := by decide +kernel
theorem dX0_allThings_1 : decode cX0_allThings 1 = .ok (.lstore_n 2, 1) := by decide +kernel
theorem dX0_allThings_2 : decode cX0_allThings 2 = .ok (.iconst 0, 1) := by decide +kernel
theorem dX0_allThings_3 : decode cX0_allThings 3 = .ok (.istore 4, 2) := by decide +kernel
theorem dX0_allThings_5 : decode cX0_allThings 5 = .ok (.iload 4, 2) := by decide +kernel
theorem dX0_allThings_7 : decode cX0_allThings 7 = .ok (.aload_n 0, 1) := by decide +kernel
theorem dX0_allThings_8 : decode cX0_allThings 8 = .ok (.getfield 21, 3) := by decide +kernel
theorem dX0_allThings_11 : decode cX0_allThings 11 = .ok (.if_icmp .ge 36, 3) := by decide +kernel
theorem dX0_allThings_14 : decode cX0_allThings 14 = .ok (.aload_n 0, 1) := by decide +kernel
theorem dX0_allThings_15 : decode cX0_allThings 15 = .ok (.getfield 15, 3) := by decide +kernel
theorem dX0_allThings_18 : decode cX0_allThings 18 = .ok (.iload 4, 2) := by decide +kernel
theorem dX0_allThings_20 : decode cX0_allThings 20 = .ok (.iaload, 1) := by decide +kernel
theorem dX0_allThings_21 : decode cX0_allThings 21 = .ok (.iconst (-1), 1) := by decide +kernel
theorem dX0_allThings_22 : decode cX0_allThings 22 = .ok (.if_icmp .eq 19, 3) := by decide +kernel
theorem dX0_allThings_25 : decode cX0_allThings 25 = .ok (.lload_n 2, 1) := by decide +kernel
theorem dX0_allThings_26 : decode cX0_allThings 26 = .ok (.lconst 1, 1) := by decide +kernel
theorem dX0_allThings_27 : decode cX0_allThings 27 = .ok (.aload_n 1, 1) := by decide +kernel
theorem dX0_allThings_28 : decode cX0_allThings 28 = .ok (.aload_n 0, 1) := by decide +kernel
theorem dX0_allThings_29 : decode cX0_allThings 29 = .ok (.getfield 15, 3) := by decide +kernel
theorem dX0_allThings_32 : decode cX0_allThings 32 = .ok (.iload 4, 2) := by decide +kernel
theorem dX0_allThings_34 : decode cX0_allThings 34 = .ok (.iaload, 1) := by decide +kernel
theorem dX0_allThings_35 : decode cX0_allThings 35 = .ok (.invokevirtual 32, 3) := by decide +kernel
theorem dX0_allThings_38 : decode cX0_allThings 38 = .ok (.lshl, 1) := by decide +kernel
theorem dX0_allThings_39 : decode cX0_allThings 39 = .ok (.lor, 1) := by decide +kernel
theorem dX0_allThings_40 : decode cX0_allThings 40 = .ok (.lstore_n 2, 1) := by decide +kernel
theorem dX0_allThings_41 : decode cX0_allThings 41 = .ok (.iinc 4 1, 3) := by decide +kernel
theorem dX0_allThings_44 : decode cX0_allThings 44 = .ok (.goto (-39), 3) := by decide +kernel
theorem dX0_allThings_47 : decode cX0_allThings 47 = .ok (.lload_n 2, 1) := by decide +kernel
theorem dX0_allThings_48 : decode cX0_allThings 48 = .ok (.lreturn, 1) := by decide +kernel
theorem dX1_init_0 : decode cX1_init 0 = .ok (.aload_n 0, 1) := by decide +kernel
theorem dX1_init_1 : decode cX1_init 1 = .ok (.invokespecial 3, 3) := by decide +kernel
theorem dX1_init_4 : decode cX1_init 4 = .ok (.aload_n 0, 1) := by decide +kernel
theorem dX1_init_5 : decode cX1_init 5 = .ok (.bipush 36, 2) := by decide +kernel
theorem dX1_init_7 : decode cX1_init 7 = .ok (.newarray .int, 2) := by decide +kernel
theorem dX1_init_9 : decode cX1_init 9 = .ok (.putfield 9, 3) := by decide +kernel
theorem dX1_init_12 : decode cX1_init 12 = .ok (.aload_n 0, 1) := by decide +kernel
theorem dX1_init_13 : decode cX1_init 13 = .ok (.bipush 36, 2) := by decide +kernel
theorem dX1_init_15 : decode cX1_init 15 = .ok (.newarray .int, 2) := by decide +kernel
theorem dX1_init_17 : decode cX1_init 17 = .ok (.putfield 15, 3) := by decide +kernel
theorem dX1_init_20 : decode cX1_init 20 = .ok (.aload_n 0, 1) := by decide +kernel
theorem dX1_init_21 : decode cX1_init 21 = .ok (.bipush 36, 2) := by decide +kernel
theorem dX1_init_23 : decode cX1_init 23 = .ok (.newarray .int, 2) := by decide +kernel
theorem dX1_init_25 : decode cX1_init 25 = .ok (.putfield 18, 3) := by decide +kernel
theorem dX1_init_28 : decode cX1_init 28 = .ok (.aload_n 0, 1) := by decide +kernel
theorem dX1_init_29 : decode cX1_init 29 = .ok (.bipush 6, 2) := by decide +kernel
theorem dX1_init_31 : decode cX1_init 31 = .ok (.newarray .boolean, 2) := by decide +kernel
theorem dX1_init_33 : decode cX1_init 33 = .ok (.putfield 21, 3) := by decide +kernel
theorem dX1_init_36 : decode cX1_init 36 = .ok (.iconst 0, 1) := by decide +kernel
theorem dX1_init_37 : decode cX1_init 37 = .ok (.istore_n 1, 1) := by decide +kernel
theorem dX1_init_38 : decode cX1_init 38 = .ok (.iload_n 1, 1) := by decide +kernel
theorem dX1_init_39 : decode cX1_init 39 = .ok (.aload_n 0, 1) := by decide +kernel
theorem dX1_init_40 : decode cX1_init 40 = .ok (.getfield 15, 3) := by decide +kernel
theorem dX1_init_43 : decode cX1_init 43 = .ok (.arraylength, 1) := by decide +kernel
theorem dX1_init_44 : decode cX1_init 44 = .ok (.if_icmp .ge 17, 3) := by decide +kernel
theorem dX1_init_47 : decode cX1_init 47 = .ok (.aload_n 0, 1) := by decide +kernel
theorem dX1_init_48 : decode cX1_init 48 = .ok (.getfield 15, 3) := by decide +kernel
theorem dX1_init_51 : decode cX1_init 51 = .ok (.iload_n 1, 1) := by decide +kernel
theorem dX1_init_52 : decode cX1_init 52 = .ok (.bipush 6, 2) := by decide +kernel
theorem dX1_init_54 : decode cX1_init 54 = .ok (.iastore, 1) := by decide +kernel
theorem dX1_init_55 : decode cX1_init 55 = .ok (.iinc 1 1, 3) := by decide +kernel
theorem dX1_init_58 : decode cX1_init 58 = .ok (.goto (-20), 3) := by decide +kernel
theorem dX1_init_61 : decode cX1_init 61 = .ok (.iconst 0, 1) := by decide +kernel
theorem dX1_init_62 : decode cX1_init 62 = .ok (.istore_n 1, 1) := by decide +kernel
theorem dX1_init_63 : decode cX1_init 63 = .ok (.iload_n 1, 1) := by decide +kernel
theorem dX1_init_64 : decode cX1_init 64 = .ok (.bipush 6, 2) := by decide +kernel
theorem dX1_init_66 : decode cX1_init 66 = .ok (.if_icmp .ge 16, 3) := by decide +kernel
theorem dX1_init_69 : decode cX1_init 69 = .ok (.aload_n 0, 1) := by decide +kernel
theorem dX1_init_70 : decode cX1_init 70 = .ok (.getfield 21, 3) := by decide +kernel
theorem dX1_init_73 : decode cX1_init 73 = .ok (.iload_n 1, 1) := by decide +kernel
theorem dX1_init_74 : decode cX1_init 74 = .ok (.iconst 1, 1) := by decide +kernel
theorem dX1_init_75 : decode cX1_init 75 = .ok (.bastore, 1) := by decide +kernel
theorem dX1_init_76 : decode cX1_init 76 = .ok (.iinc 1 1, 3) := by decide +kernel
theorem dX1_init_79 : decode cX1_init 79 = .ok (.goto (-16), 3) := by decide +kernel
theorem dX1_init_82 : decode cX1_init 82 = .ok (.return_, 1) := by decide +kernel
theorem dX1_setEnds_0 : decode cX1_setEnds 0 = .ok (.aload_n 0, 1) := by decide +kernel
theorem dX1_setEnds_1 : decode cX1_setEnds 1 = .ok (.getfield 9, 3) := by decide +kernel
theorem dX1_setEnds_4 : decode cX1_setEnds 4 = .ok (.iload_n 1, 1) := by decide +kernel
theorem dX1_setEnds_5 : decode cX1_setEnds 5 = .ok (.bipush 6, 2) := by decide +kernel
theorem dX1_setEnds_7 : decode cX1_setEnds 7 = .ok (.imul, 1) := by decide +kernel
theorem dX1_setEnds_8 : decode cX1_setEnds 8 = .ok (.iload_n 2, 1) := by decide +kernel
theorem dX1_setEnds_9 : decode cX1_setEnds 9 = .ok (.iadd, 1) := by decide +kernel
theorem dX1_setEnds_10 : decode cX1_setEnds 10 = .ok (.iload_n 3, 1) := by decide +kernel
theorem dX1_setEnds_11 : decode cX1_setEnds 11 = .ok (.iastore, 1) := by decide +kernel
theorem dX1_setEnds_12 : decode cX1_setEnds 12 = .ok (.aload_n 0, 1) := by decide +kernel
theorem dX1_setEnds_13 : decode cX1_setEnds 13 = .ok (.getfield 15, 3) := by decide +kernel
theorem dX1_setEnds_16 : decode cX1_setEnds 16 = .ok (.iload_n 1, 1) := by decide +kernel
theorem dX1_setEnds_17 : decode cX1_setEnds 17 = .ok (.bipush 6, 2) := by decide +kernel
theorem dX1_setEnds_19 : decode cX1_setEnds 19 = .ok (.imul, 1) := by decide +kernel
theorem dX1_setEnds_20 : decode cX1_setEnds 20 = .ok (.iload_n 2, 1) := by decide +kernel
theorem dX1_setEnds_21 : decode cX1_setEnds 21 = .ok (.iadd, 1) := by decide +kernel
theorem dX1_setEnds_22 : decode cX1_setEnds 22 = .ok (.iload 4, 2) := by decide +kernel
theorem dX1_setEnds_24 : decode cX1_setEnds 24 = .ok (.iastore, 1) := by decide +kernel
theorem dX1_setEnds_25 : decode cX1_setEnds 25 = .ok (.return_, 1) := by decide +kernel
theorem dX1_setAlone_0 : decode cX1_setAlone 0 = .ok (.aload_n 0, 1) := by decide +kernel
theorem dX1_setAlone_1 : decode cX1_setAlone 1 = .ok (.getfield 18, 3) := by decide +kernel
theorem dX1_setAlone_4 : decode cX1_setAlone 4 = .ok (.iload_n 1, 1) := by decide +kernel
theorem dX1_setAlone_5 : decode cX1_setAlone 5 = .ok (.bipush 6, 2) := by decide +kernel
theorem dX1_setAlone_7 : decode cX1_setAlone 7 = .ok (.imul, 1) := by decide +kernel
theorem dX1_setAlone_8 : decode cX1_setAlone 8 = .ok (.iload_n 2, 1) := by decide +kernel
theorem dX1_setAlone_9 : decode cX1_setAlone 9 = .ok (.iadd, 1) := by decide +kernel
theorem dX1_setAlone_10 : decode cX1_setAlone 10 = .ok (.iload_n 3, 1) := by decide +kernel
theorem dX1_setAlone_11 : decode cX1_setAlone 11 = .ok (.iastore, 1) := by decide +kernel
theorem dX1_setAlone_12 : decode cX1_setAlone 12 = .ok (.return_, 1) := by decide +kernel
theorem dX1_setHolding_0 : decode cX1_setHolding 0 = .ok (.aload_n 0, 1) := by decide +kernel
theorem dX1_setHolding_1 : decode cX1_setHolding 1 = .ok (.getfield 21, 3) := by decide +kernel
theorem dX1_setHolding_4 : decode cX1_setHolding 4 = .ok (.iload_n 1, 1) := by decide +kernel
theorem dX1_setHolding_5 : decode cX1_setHolding 5 = .ok (.baload, 1) := by decide +kernel
theorem dX1_setHolding_6 : decode cX1_setHolding 6 = .ok (.iload_n 2, 1) := by decide +kernel
theorem dX1_setHolding_7 : decode cX1_setHolding 7 = .ok (.if_icmp .eq 7, 3) := by decide +kernel
theorem dX1_setHolding_10 : decode cX1_setHolding 10 = .ok (.iconst 1, 1) := by decide +kernel
theorem dX1_setHolding_11 : decode cX1_setHolding 11 = .ok (.goto 4, 3) := by decide +kernel
theorem dX1_setHolding_14 : decode cX1_setHolding 14 = .ok (.iconst 0, 1) := by decide +kernel
theorem dX1_setHolding_15 : decode cX1_setHolding 15 = .ok (.istore_n 3, 1) := by decide +kernel
theorem dX1_setHolding_16 : decode cX1_setHolding 16 = .ok (.aload_n 0, 1) := by decide +kernel
theorem dX1_setHolding_17 : decode cX1_setHolding 17 = .ok (.getfield 21, 3) := by decide +kernel
theorem dX1_setHolding_20 : decode cX1_setHolding 20 = .ok (.iload_n 1, 1) := by decide +kernel
theorem dX1_setHolding_21 : decode cX1_setHolding 21 = .ok (.iload_n 2, 1) := by decide +kernel
theorem dX1_setHolding_22 : decode cX1_setHolding 22 = .ok (.bastore, 1) := by decide +kernel
theorem dX1_setHolding_23 : decode cX1_setHolding 23 = .ok (.iload_n 3, 1) := by decide +kernel
theorem dX1_setHolding_24 : decode cX1_setHolding 24 = .ok (.ireturn, 1) := by decide +kernel
theorem dX1_isHolding_0 : decode cX1_isHolding 0 = .ok (.aload_n 0, 1) := by decide +kernel
theorem dX1_isHolding_1 : decode cX1_isHolding 1 = .ok (.getfield 21, 3) := by decide +kernel
theorem dX1_isHolding_4 : decode cX1_isHolding 4 = .ok (.iload_n 1, 1) := by decide +kernel
theorem dX1_isHolding_5 : decode cX1_isHolding 5 = .ok (.baload, 1) := by decide +kernel
theorem dX1_isHolding_6 : decode cX1_isHolding 6 = .ok (.ireturn, 1) := by decide +kernel
theorem dX1_mostAlone_0 : decode cX1_mostAlone 0 = .ok (.aload_n 0, 1) := by decide +kernel
theorem dX1_mostAlone_1 : decode cX1_mostAlone 1 = .ok (.getfield 18, 3) := by decide +kernel
theorem dX1_mostAlone_4 : decode cX1_mostAlone 4 = .ok (.iload_n 1, 1) := by decide +kernel
theorem dX1_mostAlone_5 : decode cX1_mostAlone 5 = .ok (.bipush 6, 2) := by decide +kernel
theorem dX1_mostAlone_7 : decode cX1_mostAlone 7 = .ok (.imul, 1) := by decide +kernel
theorem dX1_mostAlone_8 : decode cX1_mostAlone 8 = .ok (.iload_n 2, 1) := by decide +kernel
theorem dX1_mostAlone_9 : decode cX1_mostAlone 9 = .ok (.iadd, 1) := by decide +kernel
theorem dX1_mostAlone_10 : decode cX1_mostAlone 10 = .ok (.iaload, 1) := by decide +kernel
theorem dX1_mostAlone_11 : decode cX1_mostAlone 11 = .ok (.ireturn, 1) := by decide +kernel
theorem dX1_allowEnds_0 : decode cX1_allowEnds 0 = .ok (.iconst 0, 1) := by decide +kernel
theorem dX1_allowEnds_1 : decode cX1_allowEnds 1 = .ok (.istore_n 2, 1) := by decide +kernel
theorem dX1_allowEnds_2 : decode cX1_allowEnds 2 = .ok (.iload_n 2, 1) := by decide +kernel
theorem dX1_allowEnds_3 : decode cX1_allowEnds 3 = .ok (.bipush 6, 2) := by decide +kernel
theorem dX1_allowEnds_5 : decode cX1_allowEnds 5 = .ok (.if_icmp .ge 53, 3) := by decide +kernel
theorem dX1_allowEnds_8 : decode cX1_allowEnds 8 = .ok (.aload_n 1, 1) := by decide +kernel
theorem dX1_allowEnds_9 : decode cX1_allowEnds 9 = .ok (.getfield 25, 3) := by decide +kernel
theorem dX1_allowEnds_12 : decode cX1_allowEnds 12 = .ok (.iload_n 2, 1) := by decide +kernel
theorem dX1_allowEnds_13 : decode cX1_allowEnds 13 = .ok (.invokevirtual 31, 3) := by decide +kernel
theorem dX1_allowEnds_16 : decode cX1_allowEnds 16 = .ok (.istore_n 3, 1) := by decide +kernel
theorem dX1_allowEnds_17 : decode cX1_allowEnds 17 = .ok (.aload_n 1, 1) := by decide +kernel
theorem dX1_allowEnds_18 : decode cX1_allowEnds 18 = .ok (.getfield 37, 3) := by decide +kernel
theorem dX1_allowEnds_21 : decode cX1_allowEnds 21 = .ok (.bipush 6, 2) := by decide +kernel
theorem dX1_allowEnds_23 : decode cX1_allowEnds 23 = .ok (.imul, 1) := by decide +kernel
theorem dX1_allowEnds_24 : decode cX1_allowEnds 24 = .ok (.iload_n 2, 1) := by decide +kernel
theorem dX1_allowEnds_25 : decode cX1_allowEnds 25 = .ok (.iadd, 1) := by decide +kernel
theorem dX1_allowEnds_26 : decode cX1_allowEnds 26 = .ok (.istore 4, 2) := by decide +kernel
theorem dX1_allowEnds_28 : decode cX1_allowEnds 28 = .ok (.iload_n 3, 1) := by decide +kernel
theorem dX1_allowEnds_29 : decode cX1_allowEnds 29 = .ok (.aload_n 0, 1) := by decide +kernel
theorem dX1_allowEnds_30 : decode cX1_allowEnds 30 = .ok (.getfield 9, 3) := by decide +kernel
theorem dX1_allowEnds_33 : decode cX1_allowEnds 33 = .ok (.iload 4, 2) := by decide +kernel
theorem dX1_allowEnds_35 : decode cX1_allowEnds 35 = .ok (.iaload, 1) := by decide +kernel
theorem dX1_allowEnds_36 : decode cX1_allowEnds 36 = .ok (.if_icmp .lt 14, 3) := by decide +kernel
theorem dX1_allowEnds_39 : decode cX1_allowEnds 39 = .ok (.iload_n 3, 1) := by decide +kernel
theorem dX1_allowEnds_40 : decode cX1_allowEnds 40 = .ok (.aload_n 0, 1) := by decide +kernel
theorem dX1_allowEnds_41 : decode cX1_allowEnds 41 = .ok (.getfield 15, 3) := by decide +kernel
theorem dX1_allowEnds_44 : decode cX1_allowEnds 44 = .ok (.iload 4, 2) := by decide +kernel
theorem dX1_allowEnds_46 : decode cX1_allowEnds 46 = .ok (.iaload, 1) := by decide +kernel
theorem dX1_allowEnds_47 : decode cX1_allowEnds 47 = .ok (.if_icmp .le 5, 3) := by decide +kernel
theorem dX1_allowEnds_50 : decode cX1_allowEnds 50 = .ok (.iconst 0, 1) := by decide +kernel
theorem dX1_allowEnds_51 : decode cX1_allowEnds 51 = .ok (.ireturn, 1) := by decide +kernel
theorem dX1_allowEnds_52 : decode cX1_allowEnds 52 = .ok (.iinc 2 1, 3) := by decide +kernel
theorem dX1_allowEnds_55 : decode cX1_allowEnds 55 = .ok (.goto (-53), 3) := by decide +kernel
theorem dX1_allowEnds_58 : decode cX1_allowEnds 58 = .ok (.iconst 1, 1) := by decide +kernel
theorem dX1_allowEnds_59 : decode cX1_allowEnds 59 = .ok (.ireturn, 1) := by decide +kernel
theorem dX2_init_0 : decode cX2_init 0 = .ok (.aload_n 0, 1) := by decide +kernel
theorem dX2_init_1 : decode cX2_init 1 = .ok (.invokespecial 1, 3) := by decide +kernel
theorem dX2_init_4 : decode cX2_init 4 = .ok (.aload_n 0, 1) := by decide +kernel
theorem dX2_init_5 : decode cX2_init 5 = .ok (.iload_n 1, 1) := by decide +kernel
theorem dX2_init_6 : decode cX2_init 6 = .ok (.putfield 7, 3) := by decide +kernel
theorem dX2_init_9 : decode cX2_init 9 = .ok (.aload_n 0, 1) := by decide +kernel
theorem dX2_init_10 : decode cX2_init 10 = .ok (.iload_n 2, 1) := by decide +kernel
theorem dX2_init_11 : decode cX2_init 11 = .ok (.putfield 13, 3) := by decide +kernel
theorem dX2_init_14 : decode cX2_init 14 = .ok (.aload_n 0, 1) := by decide +kernel
theorem dX2_init_15 : decode cX2_init 15 = .ok (.iload_n 3, 1) := by decide +kernel
theorem dX2_init_16 : decode cX2_init 16 = .ok (.putfield 16, 3) := by decide +kernel
theorem dX2_init_19 : decode cX2_init 19 = .ok (.aload_n 0, 1) := by decide +kernel
theorem dX2_init_20 : decode cX2_init 20 = .ok (.aload 4, 2) := by decide +kernel
theorem dX2_init_22 : decode cX2_init 22 = .ok (.putfield 19, 3) := by decide +kernel
theorem dX2_init_25 : decode cX2_init 25 = .ok (.return_, 1) := by decide +kernel
theorem dX2_isInForce_0 : decode cX2_isInForce 0 = .ok (.aload_n 0, 1) := by decide +kernel
theorem dX2_isInForce_1 : decode cX2_isInForce 1 = .ok (.getfield 13, 3) := by decide +kernel
theorem dX2_isInForce_4 : decode cX2_isInForce 4 = .ok (.iload_n 1, 1) := by decide +kernel
theorem dX2_isInForce_5 : decode cX2_isInForce 5 = .ok (.if_icmp .gt 15, 3) := by decide +kernel
theorem dX2_isInForce_8 : decode cX2_isInForce 8 = .ok (.iload_n 1, 1) := by decide +kernel
theorem dX2_isInForce_9 : decode cX2_isInForce 9 = .ok (.aload_n 0, 1) := by decide +kernel
theorem dX2_isInForce_10 : decode cX2_isInForce 10 = .ok (.getfield 16, 3) := by decide +kernel
theorem dX2_isInForce_13 : decode cX2_isInForce 13 = .ok (.if_icmp .gt 7, 3) := by decide +kernel
theorem dX2_isInForce_16 : decode cX2_isInForce 16 = .ok (.iconst 1, 1) := by decide +kernel
theorem dX2_isInForce_17 : decode cX2_isInForce 17 = .ok (.goto 4, 3) := by decide +kernel
theorem dX2_isInForce_20 : decode cX2_isInForce 20 = .ok (.iconst 0, 1) := by decide +kernel
theorem dX2_isInForce_21 : decode cX2_isInForce 21 = .ok (.ireturn, 1) := by decide +kernel
theorem dX2_isInForceOnOrAfter_0 : decode cX2_isInForceOnOrAfter 0 = .ok (.aload_n 0, 1) := by decide +kernel
theorem dX2_isInForceOnOrAfter_1 : decode cX2_isInForceOnOrAfter 1 = .ok (.getfield 13, 3) := by decide +kernel
theorem dX2_isInForceOnOrAfter_4 : decode cX2_isInForceOnOrAfter 4 = .ok (.aload_n 0, 1) := by decide +kernel
theorem dX2_isInForceOnOrAfter_5 : decode cX2_isInForceOnOrAfter 5 = .ok (.getfield 16, 3) := by decide +kernel
theorem dX2_isInForceOnOrAfter_8 : decode cX2_isInForceOnOrAfter 8 = .ok (.if_icmp .gt 15, 3) := by decide +kernel
theorem dX2_isInForceOnOrAfter_11 : decode cX2_isInForceOnOrAfter 11 = .ok (.iload_n 1, 1) := by decide +kernel
theorem dX2_isInForceOnOrAfter_12 : decode cX2_isInForceOnOrAfter 12 = .ok (.aload_n 0, 1) := by decide +kernel
theorem dX2_isInForceOnOrAfter_13 : decode cX2_isInForceOnOrAfter 13 = .ok (.getfield 16, 3) := by decide +kernel
theorem dX2_isInForceOnOrAfter_16 : decode cX2_isInForceOnOrAfter 16 = .ok (.if_icmp .gt 7, 3) := by decide +kernel
theorem dX2_isInForceOnOrAfter_19 : decode cX2_isInForceOnOrAfter 19 = .ok (.iconst 1, 1) := by decide +kernel
theorem dX2_isInForceOnOrAfter_20 : decode cX2_isInForceOnOrAfter 20 = .ok (.goto 4, 3) := by decide +kernel
theorem dX2_isInForceOnOrAfter_23 : decode cX2_isInForceOnOrAfter 23 = .ok (.iconst 0, 1) := by decide +kernel
theorem dX2_isInForceOnOrAfter_24 : decode cX2_isInForceOnOrAfter 24 = .ok (.ireturn, 1) := by decide +kernel
theorem dX2_isInForceThrough_0 : decode cX2_isInForceThrough 0 = .ok (.aload_n 0, 1) := by decide +kernel
theorem dX2_isInForceThrough_1 : decode cX2_isInForceThrough 1 = .ok (.getfield 13, 3) := by decide +kernel
theorem dX2_isInForceThrough_4 : decode cX2_isInForceThrough 4 = .ok (.iload_n 1, 1) := by decide +kernel
theorem dX2_isInForceThrough_5 : decode cX2_isInForceThrough 5 = .ok (.if_icmp .gt 15, 3) := by decide +kernel
theorem dX2_isInForceThrough_8 : decode cX2_isInForceThrough 8 = .ok (.iload_n 2, 1) := by decide +kernel
theorem dX2_isInForceThrough_9 : decode cX2_isInForceThrough 9 = .ok (.aload_n 0, 1) := by decide +kernel
theorem dX2_isInForceThrough_10 : decode cX2_isInForceThrough 10 = .ok (.getfield 16, 3) := by decide +kernel
theorem dX2_isInForceThrough_13 : decode cX2_isInForceThrough 13 = .ok (.if_icmp .gt 7, 3) := by decide +kernel
theorem dX2_isInForceThrough_16 : decode cX2_isInForceThrough 16 = .ok (.iconst 1, 1) := by decide +kernel
theorem dX2_isInForceThrough_17 : decode cX2_isInForceThrough 17 = .ok (.goto 4, 3) := by decide +kernel
theorem dX2_isInForceThrough_20 : decode cX2_isInForceThrough 20 = .ok (.iconst 0, 1) := by decide +kernel
theorem dX2_isInForceThrough_21 : decode cX2_isInForceThrough 21 = .ok (.ireturn, 1) := by decide +kernel
theorem dX2_isInForceWithin_0 : decode cX2_isInForceWithin 0 = .ok (.aload_n 0, 1) := by decide +kernel
theorem dX2_isInForceWithin_1 : decode cX2_isInForceWithin 1 = .ok (.getfield 13, 3) := by decide +kernel
theorem dX2_isInForceWithin_4 : decode cX2_isInForceWithin 4 = .ok (.iload_n 1, 1) := by decide +kernel
theorem dX2_isInForceWithin_5 : decode cX2_isInForceWithin 5 = .ok (.invokestatic 23, 3) := by decide +kernel
theorem dX2_isInForceWithin_8 : decode cX2_isInForceWithin 8 = .ok (.aload_n 0, 1) := by decide +kernel
theorem dX2_isInForceWithin_9 : decode cX2_isInForceWithin 9 = .ok (.getfield 16, 3) := by decide +kernel
theorem dX2_isInForceWithin_12 : decode cX2_isInForceWithin 12 = .ok (.iload_n 2, 1) := by decide +kernel
theorem dX2_isInForceWithin_13 : decode cX2_isInForceWithin 13 = .ok (.invokestatic 29, 3) := by decide +kernel
theorem dX2_isInForceWithin_16 : decode cX2_isInForceWithin 16 = .ok (.if_icmp .gt 7, 3) := by decide +kernel
theorem dX2_isInForceWithin_19 : decode cX2_isInForceWithin 19 = .ok (.iconst 1, 1) := by decide +kernel
theorem dX2_isInForceWithin_20 : decode cX2_isInForceWithin 20 = .ok (.goto 4, 3) := by decide +kernel
theorem dX2_isInForceWithin_23 : decode cX2_isInForceWithin 23 = .ok (.iconst 0, 1) := by decide +kernel
theorem dX2_isInForceWithin_24 : decode cX2_isInForceWithin 24 = .ok (.ireturn, 1) := by decide +kernel
theorem dX3_init_0 : decode cX3_init 0 = .ok (.aload_n 0, 1) := by decide +kernel
theorem dX3_init_1 : decode cX3_init 1 = .ok (.invokespecial 3, 3) := by decide +kernel
theorem dX3_init_4 : decode cX3_init 4 = .ok (.aload_n 0, 1) := by decide +kernel
theorem dX3_init_5 : decode cX3_init 5 = .ok (.new 9, 3) := by decide +kernel
theorem dX3_init_8 : decode cX3_init 8 = .ok (.dup, 1) := by decide +kernel
theorem dX3_init_9 : decode cX3_init 9 = .ok (.invokespecial 11, 3) := by decide +kernel
theorem dX3_init_12 : decode cX3_init 12 = .ok (.putfield 12, 3) := by decide +kernel
theorem dX3_init_15 : decode cX3_init 15 = .ok (.aload_n 0, 1) := by decide +kernel
theorem dX3_init_16 : decode cX3_init 16 = .ok (.bipush 120, 2) := by decide +kernel
theorem dX3_init_18 : decode cX3_init 18 = .ok (.newarray .boolean, 2) := by decide +kernel
theorem dX3_init_20 : decode cX3_init 20 = .ok (.putfield 18, 3) := by decide +kernel
theorem dX3_init_23 : decode cX3_init 23 = .ok (.aload_n 0, 1) := by decide +kernel
theorem dX3_init_24 : decode cX3_init 24 = .ok (.bipush 120, 2) := by decide +kernel
theorem dX3_init_26 : decode cX3_init 26 = .ok (.newarray .int, 2) := by decide +kernel
theorem dX3_init_28 : decode cX3_init 28 = .ok (.putfield 22, 3) := by decide +kernel
theorem dX3_init_31 : decode cX3_init 31 = .ok (.aload_n 0, 1) := by decide +kernel
theorem dX3_init_32 : decode cX3_init 32 = .ok (.bipush 120, 2) := by decide +kernel
theorem dX3_init_34 : decode cX3_init 34 = .ok (.newarray .int, 2) := by decide +kernel
theorem dX3_init_36 : decode cX3_init 36 = .ok (.putfield 26, 3) := by decide +kernel
theorem dX3_init_39 : decode cX3_init 39 = .ok (.return_, 1) := by decide +kernel
theorem dX3_size_0 : decode cX3_size 0 = .ok (.aload_n 0, 1) := by decide +kernel
theorem dX3_size_1 : decode cX3_size 1 = .ok (.getfield 12, 3) := by decide +kernel
theorem dX3_size_4 : decode cX3_size 4 = .ok (.invokevirtual 29, 3) := by decide +kernel
theorem dX3_size_7 : decode cX3_size 7 = .ok (.ireturn, 1) := by decide +kernel
theorem dX3_get_0 : decode cX3_get 0 = .ok (.aload_n 0, 1) := by decide +kernel
theorem dX3_get_1 : decode cX3_get 1 = .ok (.getfield 12, 3) := by decide +kernel
theorem dX3_get_4 : decode cX3_get 4 = .ok (.iload_n 1, 1) := by decide +kernel
theorem dX3_get_5 : decode cX3_get 5 = .ok (.invokevirtual 33, 3) := by decide +kernel
theorem dX3_get_8 : decode cX3_get 8 = .ok (.checkcast 37, 3) := by decide +kernel
theorem dX3_get_11 : decode cX3_get 11 = .ok (.areturn, 1) := by decide +kernel
theorem dX3_add_0 : decode cX3_add 0 = .ok (.aload_n 0, 1) := by decide +kernel
theorem dX3_add_1 : decode cX3_add 1 = .ok (.getfield 12, 3) := by decide +kernel
theorem dX3_add_4 : decode cX3_add 4 = .ok (.aload_n 1, 1) := by decide +kernel
theorem dX3_add_5 : decode cX3_add 5 = .ok (.invokevirtual 39, 3) := by decide +kernel
theorem dX3_add_8 : decode cX3_add 8 = .ok (.pop, 1) := by decide +kernel
theorem dX3_add_9 : decode cX3_add 9 = .ok (.aload_n 0, 1) := by decide +kernel
theorem dX3_add_10 : decode cX3_add 10 = .ok (.getfield 12, 3) := by decide +kernel
theorem dX3_add_13 : decode cX3_add 13 = .ok (.invokevirtual 29, 3) := by decide +kernel
theorem dX3_add_16 : decode cX3_add 16 = .ok (.iconst 1, 1) := by decide +kernel
theorem dX3_add_17 : decode cX3_add 17 = .ok (.isub, 1) := by decide +kernel
theorem dX3_add_18 : decode cX3_add 18 = .ok (.ireturn, 1) := by decide +kernel
theorem dX3_hangingOn_0 : decode cX3_hangingOn 0 = .ok (.iconst 0, 1) := by decide +kernel
theorem dX3_hangingOn_1 : decode cX3_hangingOn 1 = .ok (.istore_n 2, 1) := by decide +kernel
theorem dX3_hangingOn_2 : decode cX3_hangingOn 2 = .ok (.iload_n 1, 1) := by decide +kernel
theorem dX3_hangingOn_3 : decode cX3_hangingOn 3 = .ok (.iconst 1, 1) := by decide +kernel
theorem dX3_hangingOn_4 : decode cX3_hangingOn 4 = .ok (.iadd, 1) := by decide +kernel
theorem dX3_hangingOn_5 : decode cX3_hangingOn 5 = .ok (.istore_n 3, 1) := by decide +kernel
theorem dX3_hangingOn_6 : decode cX3_hangingOn 6 = .ok (.iload_n 3, 1) := by decide +kernel
theorem dX3_hangingOn_7 : decode cX3_hangingOn 7 = .ok (.aload_n 0, 1) := by decide +kernel
theorem dX3_hangingOn_8 : decode cX3_hangingOn 8 = .ok (.getfield 12, 3) := by decide +kernel
theorem dX3_hangingOn_11 : decode cX3_hangingOn 11 = .ok (.invokevirtual 29, 3) := by decide +kernel
theorem dX3_hangingOn_14 : decode cX3_hangingOn 14 = .ok (.if_icmp .ge 33, 3) := by decide +kernel
theorem dX3_hangingOn_17 : decode cX3_hangingOn 17 = .ok (.aload_n 0, 1) := by decide +kernel
theorem dX3_hangingOn_18 : decode cX3_hangingOn 18 = .ok (.getfield 12, 3) := by decide +kernel
theorem dX3_hangingOn_21 : decode cX3_hangingOn 21 = .ok (.iload_n 3, 1) := by decide +kernel
theorem dX3_hangingOn_22 : decode cX3_hangingOn 22 = .ok (.invokevirtual 33, 3) := by decide +kernel
theorem dX3_hangingOn_25 : decode cX3_hangingOn 25 = .ok (.checkcast 37, 3) := by decide +kernel
theorem dX3_hangingOn_28 : decode cX3_hangingOn 28 = .ok (.getfield 43, 3) := by decide +kernel
theorem dX3_hangingOn_31 : decode cX3_hangingOn 31 = .ok (.iload_n 1, 1) := by decide +kernel
theorem dX3_hangingOn_32 : decode cX3_hangingOn 32 = .ok (.invokevirtual 47, 3) := by decide +kernel
theorem dX3_hangingOn_35 : decode cX3_hangingOn 35 = .ok (.ifCond .eq 6, 3) := by decide +kernel
theorem dX3_hangingOn_38 : decode cX3_hangingOn 38 = .ok (.iinc 2 1, 3) := by decide +kernel
theorem dX3_hangingOn_41 : decode cX3_hangingOn 41 = .ok (.iinc 3 1, 3) := by decide +kernel
theorem dX3_hangingOn_44 : decode cX3_hangingOn 44 = .ok (.goto (-38), 3) := by decide +kernel
theorem dX3_hangingOn_47 : decode cX3_hangingOn 47 = .ok (.iload_n 2, 1) := by decide +kernel
theorem dX3_hangingOn_48 : decode cX3_hangingOn 48 = .ok (.ireturn, 1) := by decide +kernel
theorem dX3_bear_0 : decode cX3_bear 0 = .ok (.iconst 0, 1) := by decide +kernel
theorem dX3_bear_1 : decode cX3_bear 1 = .ok (.istore_n 2, 1) := by decide +kernel
theorem dX3_bear_2 : decode cX3_bear 2 = .ok (.iload_n 2, 1) := by decide +kernel
theorem dX3_bear_3 : decode cX3_bear 3 = .ok (.aload_n 1, 1) := by decide +kernel
theorem dX3_bear_4 : decode cX3_bear 4 = .ok (.getfield 43, 3) := by decide +kernel
theorem dX3_bear_7 : decode cX3_bear 7 = .ok (.invokevirtual 53, 3) := by decide +kernel
theorem dX3_bear_10 : decode cX3_bear 10 = .ok (.if_icmp .ge 50, 3) := by decide +kernel
theorem dX3_bear_13 : decode cX3_bear 13 = .ok (.aload_n 1, 1) := by decide +kernel
theorem dX3_bear_14 : decode cX3_bear 14 = .ok (.getfield 43, 3) := by decide +kernel
theorem dX3_bear_17 : decode cX3_bear 17 = .ok (.iload_n 2, 1) := by decide +kernel
theorem dX3_bear_18 : decode cX3_bear 18 = .ok (.invokevirtual 54, 3) := by decide +kernel
theorem dX3_bear_21 : decode cX3_bear 21 = .ok (.istore_n 3, 1) := by decide +kernel
theorem dX3_bear_22 : decode cX3_bear 22 = .ok (.iload_n 3, 1) := by decide +kernel
theorem dX3_bear_23 : decode cX3_bear 23 = .ok (.iconst (-1), 1) := by decide +kernel
theorem dX3_bear_24 : decode cX3_bear 24 = .ok (.if_icmp .eq 30, 3) := by decide +kernel
theorem dX3_bear_27 : decode cX3_bear 27 = .ok (.aload_n 0, 1) := by decide +kernel
theorem dX3_bear_28 : decode cX3_bear 28 = .ok (.getfield 12, 3) := by decide +kernel
theorem dX3_bear_31 : decode cX3_bear 31 = .ok (.iload_n 3, 1) := by decide +kernel
theorem dX3_bear_32 : decode cX3_bear 32 = .ok (.invokevirtual 33, 3) := by decide +kernel
theorem dX3_bear_35 : decode cX3_bear 35 = .ok (.checkcast 37, 3) := by decide +kernel
theorem dX3_bear_38 : decode cX3_bear 38 = .ok (.aload_n 1, 1) := by decide +kernel
theorem dX3_bear_39 : decode cX3_bear 39 = .ok (.getfield 58, 3) := by decide +kernel
theorem dX3_bear_42 : decode cX3_bear 42 = .ok (.aload_n 1, 1) := by decide +kernel
theorem dX3_bear_43 : decode cX3_bear 43 = .ok (.getfield 62, 3) := by decide +kernel
theorem dX3_bear_46 : decode cX3_bear 46 = .ok (.invokevirtual 65, 3) := by decide +kernel
theorem dX3_bear_49 : decode cX3_bear 49 = .ok (.ifCond .ne 5, 3) := by decide +kernel
theorem dX3_bear_52 : decode cX3_bear 52 = .ok (.iconst 0, 1) := by decide +kernel
theorem dX3_bear_53 : decode cX3_bear 53 = .ok (.ireturn, 1) := by decide +kernel
theorem dX3_bear_54 : decode cX3_bear 54 = .ok (.iinc 2 1, 3) := by decide +kernel
theorem dX3_bear_57 : decode cX3_bear 57 = .ok (.goto (-55), 3) := by decide +kernel
theorem dX3_bear_60 : decode cX3_bear 60 = .ok (.iconst 1, 1) := by decide +kernel
theorem dX3_bear_61 : decode cX3_bear 61 = .ok (.ireturn, 1) := by decide +kernel
theorem dX3_crowdedBy_0 : decode cX3_crowdedBy 0 = .ok (.iconst 0, 1) := by decide +kernel
theorem dX3_crowdedBy_1 : decode cX3_crowdedBy 1 = .ok (.istore 4, 2) := by decide +kernel
theorem dX3_crowdedBy_3 : decode cX3_crowdedBy 3 = .ok (.iload 4, 2) := by decide +kernel
theorem dX3_crowdedBy_5 : decode cX3_crowdedBy 5 = .ok (.aload_n 1, 1) := by decide +kernel
theorem dX3_crowdedBy_6 : decode cX3_crowdedBy 6 = .ok (.getfield 43, 3) := by decide +kernel
theorem dX3_crowdedBy_9 : decode cX3_crowdedBy 9 = .ok (.invokevirtual 53, 3) := by decide +kernel
theorem dX3_crowdedBy_12 : decode cX3_crowdedBy 12 = .ok (.if_icmp .ge 75, 3) := by decide +kernel
theorem dX3_crowdedBy_15 : decode cX3_crowdedBy 15 = .ok (.aload_n 1, 1) := by decide +kernel
theorem dX3_crowdedBy_16 : decode cX3_crowdedBy 16 = .ok (.getfield 43, 3) := by decide +kernel
theorem dX3_crowdedBy_19 : decode cX3_crowdedBy 19 = .ok (.iload 4, 2) := by decide +kernel
theorem dX3_crowdedBy_21 : decode cX3_crowdedBy 21 = .ok (.invokevirtual 69, 3) := by decide +kernel
theorem dX3_crowdedBy_24 : decode cX3_crowdedBy 24 = .ok (.istore 5, 2) := by decide +kernel
theorem dX3_crowdedBy_26 : decode cX3_crowdedBy 26 = .ok (.aload_n 1, 1) := by decide +kernel
theorem dX3_crowdedBy_27 : decode cX3_crowdedBy 27 = .ok (.getfield 43, 3) := by decide +kernel
theorem dX3_crowdedBy_30 : decode cX3_crowdedBy 30 = .ok (.iload 4, 2) := by decide +kernel
theorem dX3_crowdedBy_32 : decode cX3_crowdedBy 32 = .ok (.invokevirtual 72, 3) := by decide +kernel
theorem dX3_crowdedBy_35 : decode cX3_crowdedBy 35 = .ok (.istore 6, 2) := by decide +kernel
theorem dX3_crowdedBy_37 : decode cX3_crowdedBy 37 = .ok (.aload_n 2, 1) := by decide +kernel
theorem dX3_crowdedBy_38 : decode cX3_crowdedBy 38 = .ok (.aload_n 1, 1) := by decide +kernel
theorem dX3_crowdedBy_39 : decode cX3_crowdedBy 39 = .ok (.getfield 75, 3) := by decide +kernel
theorem dX3_crowdedBy_42 : decode cX3_crowdedBy 42 = .ok (.iload 5, 2) := by decide +kernel
theorem dX3_crowdedBy_44 : decode cX3_crowdedBy 44 = .ok (.invokevirtual 78, 3) := by decide +kernel
theorem dX3_crowdedBy_47 : decode cX3_crowdedBy 47 = .ok (.istore 7, 2) := by decide +kernel
theorem dX3_crowdedBy_49 : decode cX3_crowdedBy 49 = .ok (.iload 6, 2) := by decide +kernel
theorem dX3_crowdedBy_51 : decode cX3_crowdedBy 51 = .ok (.iconst (-1), 1) := by decide +kernel
theorem dX3_crowdedBy_52 : decode cX3_crowdedBy 52 = .ok (.if_icmp .eq 29, 3) := by decide +kernel
theorem dX3_crowdedBy_55 : decode cX3_crowdedBy 55 = .ok (.iload 7, 2) := by decide +kernel
theorem dX3_crowdedBy_57 : decode cX3_crowdedBy 57 = .ok (.ifCond .le 24, 3) := by decide +kernel
theorem dX3_crowdedBy_60 : decode cX3_crowdedBy 60 = .ok (.aload_n 0, 1) := by decide +kernel
theorem dX3_crowdedBy_61 : decode cX3_crowdedBy 61 = .ok (.aload_n 1, 1) := by decide +kernel
theorem dX3_crowdedBy_62 : decode cX3_crowdedBy 62 = .ok (.iload 5, 2) := by decide +kernel
theorem dX3_crowdedBy_64 : decode cX3_crowdedBy 64 = .ok (.aload_n 3, 1) := by decide +kernel
theorem dX3_crowdedBy_65 : decode cX3_crowdedBy 65 = .ok (.iload 6, 2) := by decide +kernel
theorem dX3_crowdedBy_67 : decode cX3_crowdedBy 67 = .ok (.invokevirtual 84, 3) := by decide +kernel
theorem dX3_crowdedBy_70 : decode cX3_crowdedBy 70 = .ok (.aload_n 3, 1) := by decide +kernel
theorem dX3_crowdedBy_71 : decode cX3_crowdedBy 71 = .ok (.invokevirtual 89, 3) := by decide +kernel
theorem dX3_crowdedBy_74 : decode cX3_crowdedBy 74 = .ok (.iload 7, 2) := by decide +kernel
theorem dX3_crowdedBy_76 : decode cX3_crowdedBy 76 = .ok (.if_icmp .lt 5, 3) := by decide +kernel
theorem dX3_crowdedBy_79 : decode cX3_crowdedBy 79 = .ok (.iconst 1, 1) := by decide +kernel
theorem dX3_crowdedBy_80 : decode cX3_crowdedBy 80 = .ok (.ireturn, 1) := by decide +kernel
theorem dX3_crowdedBy_81 : decode cX3_crowdedBy 81 = .ok (.iinc 4 1, 3) := by decide +kernel
theorem dX3_crowdedBy_84 : decode cX3_crowdedBy 84 = .ok (.goto (-81), 3) := by decide +kernel
theorem dX3_crowdedBy_87 : decode cX3_crowdedBy 87 = .ok (.iconst 0, 1) := by decide +kernel
theorem dX3_crowdedBy_88 : decode cX3_crowdedBy 88 = .ok (.ireturn, 1) := by decide +kernel
theorem dX3_mostAtOnce_0 : decode cX3_mostAtOnce 0 = .ok (.iconst 0, 1) := by decide +kernel
theorem dX3_mostAtOnce_1 : decode cX3_mostAtOnce 1 = .ok (.istore 5, 2) := by decide +kernel
theorem dX3_mostAtOnce_3 : decode cX3_mostAtOnce 3 = .ok (.iconst 0, 1) := by decide +kernel
theorem dX3_mostAtOnce_4 : decode cX3_mostAtOnce 4 = .ok (.istore 6, 2) := by decide +kernel
theorem dX3_mostAtOnce_6 : decode cX3_mostAtOnce 6 = .ok (.iload 6, 2) := by decide +kernel
theorem dX3_mostAtOnce_8 : decode cX3_mostAtOnce 8 = .ok (.aload_n 0, 1) := by decide +kernel
theorem dX3_mostAtOnce_9 : decode cX3_mostAtOnce 9 = .ok (.getfield 12, 3) := by decide +kernel
theorem dX3_mostAtOnce_12 : decode cX3_mostAtOnce 12 = .ok (.invokevirtual 29, 3) := by decide +kernel
theorem dX3_mostAtOnce_15 : decode cX3_mostAtOnce 15 = .ok (.if_icmp .ge 96, 3) := by decide +kernel
theorem dX3_mostAtOnce_18 : decode cX3_mostAtOnce 18 = .ok (.aload_n 0, 1) := by decide +kernel
theorem dX3_mostAtOnce_19 : decode cX3_mostAtOnce 19 = .ok (.getfield 12, 3) := by decide +kernel
theorem dX3_mostAtOnce_22 : decode cX3_mostAtOnce 22 = .ok (.iload 6, 2) := by decide +kernel
theorem dX3_mostAtOnce_24 : decode cX3_mostAtOnce 24 = .ok (.invokevirtual 33, 3) := by decide +kernel
theorem dX3_mostAtOnce_27 : decode cX3_mostAtOnce 27 = .ok (.checkcast 37, 3) := by decide +kernel
theorem dX3_mostAtOnce_30 : decode cX3_mostAtOnce 30 = .ok (.astore 7, 2) := by decide +kernel
theorem dX3_mostAtOnce_32 : decode cX3_mostAtOnce 32 = .ok (.aload 7, 2) := by decide +kernel
theorem dX3_mostAtOnce_34 : decode cX3_mostAtOnce 34 = .ok (.getfield 75, 3) := by decide +kernel
theorem dX3_mostAtOnce_37 : decode cX3_mostAtOnce 37 = .ok (.aload_n 1, 1) := by decide +kernel
theorem dX3_mostAtOnce_38 : decode cX3_mostAtOnce 38 = .ok (.getfield 75, 3) := by decide +kernel
theorem dX3_mostAtOnce_41 : decode cX3_mostAtOnce 41 = .ok (.if_icmp .ne 64, 3) := by decide +kernel
theorem dX3_mostAtOnce_44 : decode cX3_mostAtOnce 44 = .ok (.aload 7, 2) := by decide +kernel
theorem dX3_mostAtOnce_46 : decode cX3_mostAtOnce 46 = .ok (.aload_n 1, 1) := by decide +kernel
theorem dX3_mostAtOnce_47 : decode cX3_mostAtOnce 47 = .ok (.getfield 58, 3) := by decide +kernel
theorem dX3_mostAtOnce_50 : decode cX3_mostAtOnce 50 = .ok (.aload_n 1, 1) := by decide +kernel
theorem dX3_mostAtOnce_51 : decode cX3_mostAtOnce 51 = .ok (.getfield 62, 3) := by decide +kernel
theorem dX3_mostAtOnce_54 : decode cX3_mostAtOnce 54 = .ok (.invokevirtual 93, 3) := by decide +kernel
theorem dX3_mostAtOnce_57 : decode cX3_mostAtOnce 57 = .ok (.ifCond .eq 48, 3) := by decide +kernel
theorem dX3_mostAtOnce_60 : decode cX3_mostAtOnce 60 = .ok (.aload 7, 2) := by decide +kernel
theorem dX3_mostAtOnce_62 : decode cX3_mostAtOnce 62 = .ok (.getfield 43, 3) := by decide +kernel
theorem dX3_mostAtOnce_65 : decode cX3_mostAtOnce 65 = .ok (.iload_n 2, 1) := by decide +kernel
theorem dX3_mostAtOnce_66 : decode cX3_mostAtOnce 66 = .ok (.aload 4, 2) := by decide +kernel
theorem dX3_mostAtOnce_68 : decode cX3_mostAtOnce 68 = .ok (.invokevirtual 96, 3) := by decide +kernel
theorem dX3_mostAtOnce_71 : decode cX3_mostAtOnce 71 = .ok (.iload_n 3, 1) := by decide +kernel
theorem dX3_mostAtOnce_72 : decode cX3_mostAtOnce 72 = .ok (.invokestatic 100, 3) := by decide +kernel
theorem dX3_mostAtOnce_75 : decode cX3_mostAtOnce 75 = .ok (.ifCond .eq 30, 3) := by decide +kernel
theorem dX3_mostAtOnce_78 : decode cX3_mostAtOnce 78 = .ok (.aload_n 0, 1) := by decide +kernel
theorem dX3_mostAtOnce_79 : decode cX3_mostAtOnce 79 = .ok (.getfield 22, 3) := by decide +kernel
theorem dX3_mostAtOnce_82 : decode cX3_mostAtOnce 82 = .ok (.iload 5, 2) := by decide +kernel
theorem dX3_mostAtOnce_84 : decode cX3_mostAtOnce 84 = .ok (.aload 7, 2) := by decide +kernel
theorem dX3_mostAtOnce_86 : decode cX3_mostAtOnce 86 = .ok (.getfield 58, 3) := by decide +kernel
theorem dX3_mostAtOnce_89 : decode cX3_mostAtOnce 89 = .ok (.iastore, 1) := by decide +kernel
theorem dX3_mostAtOnce_90 : decode cX3_mostAtOnce 90 = .ok (.aload_n 0, 1) := by decide +kernel
theorem dX3_mostAtOnce_91 : decode cX3_mostAtOnce 91 = .ok (.getfield 26, 3) := by decide +kernel
theorem dX3_mostAtOnce_94 : decode cX3_mostAtOnce 94 = .ok (.iload 5, 2) := by decide +kernel
theorem dX3_mostAtOnce_96 : decode cX3_mostAtOnce 96 = .ok (.aload 7, 2) := by decide +kernel
theorem dX3_mostAtOnce_98 : decode cX3_mostAtOnce 98 = .ok (.getfield 62, 3) := by decide +kernel
theorem dX3_mostAtOnce_101 : decode cX3_mostAtOnce 101 = .ok (.iastore, 1) := by decide +kernel
theorem dX3_mostAtOnce_102 : decode cX3_mostAtOnce 102 = .ok (.iinc 5 1, 3) := by decide +kernel
theorem dX3_mostAtOnce_105 : decode cX3_mostAtOnce 105 = .ok (.iinc 6 1, 3) := by decide +kernel
theorem dX3_mostAtOnce_108 : decode cX3_mostAtOnce 108 = .ok (.goto (-102), 3) := by decide +kernel
theorem dX3_mostAtOnce_111 : decode cX3_mostAtOnce 111 = .ok (.aload_n 0, 1) := by decide +kernel
theorem dX3_mostAtOnce_112 : decode cX3_mostAtOnce 112 = .ok (.iload 5, 2) := by decide +kernel
theorem dX3_mostAtOnce_114 : decode cX3_mostAtOnce 114 = .ok (.aload_n 1, 1) := by decide +kernel
theorem dX3_mostAtOnce_115 : decode cX3_mostAtOnce 115 = .ok (.getfield 58, 3) := by decide +kernel
theorem dX3_mostAtOnce_118 : decode cX3_mostAtOnce 118 = .ok (.invokevirtual 104, 3) := by decide +kernel
theorem dX3_mostAtOnce_121 : decode cX3_mostAtOnce 121 = .ok (.ireturn, 1) := by decide +kernel
theorem dX3_fullestDay_0 : decode cX3_fullestDay 0 = .ok (.iconst 0, 1) := by decide +kernel
theorem dX3_fullestDay_1 : decode cX3_fullestDay 1 = .ok (.istore_n 3, 1) := by decide +kernel
theorem dX3_fullestDay_2 : decode cX3_fullestDay 2 = .ok (.iconst 0, 1) := by decide +kernel
theorem dX3_fullestDay_3 : decode cX3_fullestDay 3 = .ok (.istore 4, 2) := by decide +kernel
theorem dX3_fullestDay_5 : decode cX3_fullestDay 5 = .ok (.iload 4, 2) := by decide +kernel
theorem dX3_fullestDay_7 : decode cX3_fullestDay 7 = .ok (.iload_n 1, 1) := by decide +kernel
theorem dX3_fullestDay_8 : decode cX3_fullestDay 8 = .ok (.if_icmp .ge 74, 3) := by decide +kernel
theorem dX3_fullestDay_11 : decode cX3_fullestDay 11 = .ok (.aload_n 0, 1) := by decide +kernel
theorem dX3_fullestDay_12 : decode cX3_fullestDay 12 = .ok (.getfield 22, 3) := by decide +kernel
theorem dX3_fullestDay_15 : decode cX3_fullestDay 15 = .ok (.iload 4, 2) := by decide +kernel
theorem dX3_fullestDay_17 : decode cX3_fullestDay 17 = .ok (.iaload, 1) := by decide +kernel
theorem dX3_fullestDay_18 : decode cX3_fullestDay 18 = .ok (.iload_n 2, 1) := by decide +kernel
theorem dX3_fullestDay_19 : decode cX3_fullestDay 19 = .ok (.invokestatic 107, 3) := by decide +kernel
theorem dX3_fullestDay_22 : decode cX3_fullestDay 22 = .ok (.istore 5, 2) := by decide +kernel
theorem dX3_fullestDay_24 : decode cX3_fullestDay 24 = .ok (.iconst 0, 1) := by decide +kernel
theorem dX3_fullestDay_25 : decode cX3_fullestDay 25 = .ok (.istore 6, 2) := by decide +kernel
theorem dX3_fullestDay_27 : decode cX3_fullestDay 27 = .ok (.iconst 0, 1) := by decide +kernel
theorem dX3_fullestDay_28 : decode cX3_fullestDay 28 = .ok (.istore 7, 2) := by decide +kernel
theorem dX3_fullestDay_30 : decode cX3_fullestDay 30 = .ok (.iload 7, 2) := by decide +kernel
theorem dX3_fullestDay_32 : decode cX3_fullestDay 32 = .ok (.iload_n 1, 1) := by decide +kernel
theorem dX3_fullestDay_33 : decode cX3_fullestDay 33 = .ok (.if_icmp .ge 36, 3) := by decide +kernel
theorem dX3_fullestDay_36 : decode cX3_fullestDay 36 = .ok (.aload_n 0, 1) := by decide +kernel
theorem dX3_fullestDay_37 : decode cX3_fullestDay 37 = .ok (.getfield 22, 3) := by decide +kernel
theorem dX3_fullestDay_40 : decode cX3_fullestDay 40 = .ok (.iload 7, 2) := by decide +kernel
theorem dX3_fullestDay_42 : decode cX3_fullestDay 42 = .ok (.iaload, 1) := by decide +kernel
theorem dX3_fullestDay_43 : decode cX3_fullestDay 43 = .ok (.iload 5, 2) := by decide +kernel
theorem dX3_fullestDay_45 : decode cX3_fullestDay 45 = .ok (.if_icmp .gt 18, 3) := by decide +kernel
theorem dX3_fullestDay_48 : decode cX3_fullestDay 48 = .ok (.iload 5, 2) := by decide +kernel
theorem dX3_fullestDay_50 : decode cX3_fullestDay 50 = .ok (.aload_n 0, 1) := by decide +kernel
theorem dX3_fullestDay_51 : decode cX3_fullestDay 51 = .ok (.getfield 26, 3) := by decide +kernel
theorem dX3_fullestDay_54 : decode cX3_fullestDay 54 = .ok (.iload 7, 2) := by decide +kernel
theorem dX3_fullestDay_56 : decode cX3_fullestDay 56 = .ok (.iaload, 1) := by decide +kernel
theorem dX3_fullestDay_57 : decode cX3_fullestDay 57 = .ok (.if_icmp .gt 6, 3) := by decide +kernel
theorem dX3_fullestDay_60 : decode cX3_fullestDay 60 = .ok (.iinc 6 1, 3) := by decide +kernel
theorem dX3_fullestDay_63 : decode cX3_fullestDay 63 = .ok (.iinc 7 1, 3) := by decide +kernel
theorem dX3_fullestDay_66 : decode cX3_fullestDay 66 = .ok (.goto (-36), 3) := by decide +kernel
theorem dX3_fullestDay_69 : decode cX3_fullestDay 69 = .ok (.iload_n 3, 1) := by decide +kernel
theorem dX3_fullestDay_70 : decode cX3_fullestDay 70 = .ok (.iload 6, 2) := by decide +kernel
theorem dX3_fullestDay_72 : decode cX3_fullestDay 72 = .ok (.invokestatic 107, 3) := by decide +kernel
theorem dX3_fullestDay_75 : decode cX3_fullestDay 75 = .ok (.istore_n 3, 1) := by decide +kernel
theorem dX3_fullestDay_76 : decode cX3_fullestDay 76 = .ok (.iinc 4 1, 3) := by decide +kernel
theorem dX3_fullestDay_79 : decode cX3_fullestDay 79 = .ok (.goto (-74), 3) := by decide +kernel
theorem dX3_fullestDay_82 : decode cX3_fullestDay 82 = .ok (.iload_n 3, 1) := by decide +kernel
theorem dX3_fullestDay_83 : decode cX3_fullestDay 83 = .ok (.ireturn, 1) := by decide +kernel
theorem dX3_strikeFrom_0 : decode cX3_strikeFrom 0 = .ok (.aload_n 0, 1) := by decide +kernel
theorem dX3_strikeFrom_1 : decode cX3_strikeFrom 1 = .ok (.getfield 12, 3) := by decide +kernel
theorem dX3_strikeFrom_4 : decode cX3_strikeFrom 4 = .ok (.iload_n 1, 1) := by decide +kernel
theorem dX3_strikeFrom_5 : decode cX3_strikeFrom 5 = .ok (.invokevirtual 33, 3) := by decide +kernel
theorem dX3_strikeFrom_8 : decode cX3_strikeFrom 8 = .ok (.checkcast 37, 3) := by decide +kernel
theorem dX3_strikeFrom_11 : decode cX3_strikeFrom 11 = .ok (.iload_n 2, 1) := by decide +kernel
theorem dX3_strikeFrom_12 : decode cX3_strikeFrom 12 = .ok (.invokevirtual 112, 3) := by decide +kernel
theorem dX3_strikeFrom_15 : decode cX3_strikeFrom 15 = .ok (.ifCond .eq 13, 3) := by decide +kernel
theorem dX3_strikeFrom_18 : decode cX3_strikeFrom 18 = .ok (.aload_n 0, 1) := by decide +kernel
theorem dX3_strikeFrom_19 : decode cX3_strikeFrom 19 = .ok (.iload_n 1, 1) := by decide +kernel
theorem dX3_strikeFrom_20 : decode cX3_strikeFrom 20 = .ok (.iload_n 2, 1) := by decide +kernel
theorem dX3_strikeFrom_21 : decode cX3_strikeFrom 21 = .ok (.aload_n 3, 1) := by decide +kernel
theorem dX3_strikeFrom_22 : decode cX3_strikeFrom 22 = .ok (.invokevirtual 115, 3) := by decide +kernel
theorem dX3_strikeFrom_25 : decode cX3_strikeFrom 25 = .ok (.ifCond .ne 5, 3) := by decide +kernel
theorem dX3_strikeFrom_28 : decode cX3_strikeFrom 28 = .ok (.iconst 0, 1) := by decide +kernel
theorem dX3_strikeFrom_29 : decode cX3_strikeFrom 29 = .ok (.ireturn, 1) := by decide +kernel
theorem dX3_strikeFrom_30 : decode cX3_strikeFrom 30 = .ok (.iconst 0, 1) := by decide +kernel
theorem dX3_strikeFrom_31 : decode cX3_strikeFrom 31 = .ok (.istore 4, 2) := by decide +kernel
theorem dX3_strikeFrom_33 : decode cX3_strikeFrom 33 = .ok (.iload_n 1, 1) := by decide +kernel
theorem dX3_strikeFrom_34 : decode cX3_strikeFrom 34 = .ok (.istore 5, 2) := by decide +kernel
theorem dX3_strikeFrom_36 : decode cX3_strikeFrom 36 = .ok (.iload 5, 2) := by decide +kernel
theorem dX3_strikeFrom_38 : decode cX3_strikeFrom 38 = .ok (.aload_n 0, 1) := by decide +kernel
theorem dX3_strikeFrom_39 : decode cX3_strikeFrom 39 = .ok (.getfield 12, 3) := by decide +kernel
theorem dX3_strikeFrom_42 : decode cX3_strikeFrom 42 = .ok (.invokevirtual 29, 3) := by decide +kernel
theorem dX3_strikeFrom_45 : decode cX3_strikeFrom 45 = .ok (.if_icmp .ge 52, 3) := by decide +kernel
theorem dX3_strikeFrom_48 : decode cX3_strikeFrom 48 = .ok (.aload_n 0, 1) := by decide +kernel
theorem dX3_strikeFrom_49 : decode cX3_strikeFrom 49 = .ok (.getfield 18, 3) := by decide +kernel
theorem dX3_strikeFrom_52 : decode cX3_strikeFrom 52 = .ok (.iload 5, 2) := by decide +kernel
theorem dX3_strikeFrom_54 : decode cX3_strikeFrom 54 = .ok (.baload, 1) := by decide +kernel
theorem dX3_strikeFrom_55 : decode cX3_strikeFrom 55 = .ok (.ifCond .eq 36, 3) := by decide +kernel
theorem dX3_strikeFrom_58 : decode cX3_strikeFrom 58 = .ok (.aload_n 0, 1) := by decide +kernel
theorem dX3_strikeFrom_59 : decode cX3_strikeFrom 59 = .ok (.getfield 12, 3) := by decide +kernel
theorem dX3_strikeFrom_62 : decode cX3_strikeFrom 62 = .ok (.iload 5, 2) := by decide +kernel
theorem dX3_strikeFrom_64 : decode cX3_strikeFrom 64 = .ok (.invokevirtual 33, 3) := by decide +kernel
theorem dX3_strikeFrom_67 : decode cX3_strikeFrom 67 = .ok (.checkcast 37, 3) := by decide +kernel
theorem dX3_strikeFrom_70 : decode cX3_strikeFrom 70 = .ok (.astore 6, 2) := by decide +kernel
theorem dX3_strikeFrom_72 : decode cX3_strikeFrom 72 = .ok (.aload 6, 2) := by decide +kernel
theorem dX3_strikeFrom_74 : decode cX3_strikeFrom 74 = .ok (.iload_n 2, 1) := by decide +kernel
theorem dX3_strikeFrom_75 : decode cX3_strikeFrom 75 = .ok (.aload 6, 2) := by decide +kernel
theorem dX3_strikeFrom_77 : decode cX3_strikeFrom 77 = .ok (.getfield 58, 3) := by decide +kernel
theorem dX3_strikeFrom_80 : decode cX3_strikeFrom 80 = .ok (.invokestatic 107, 3) := by decide +kernel
theorem dX3_strikeFrom_83 : decode cX3_strikeFrom 83 = .ok (.iconst 1, 1) := by decide +kernel
theorem dX3_strikeFrom_84 : decode cX3_strikeFrom 84 = .ok (.isub, 1) := by decide +kernel
theorem dX3_strikeFrom_85 : decode cX3_strikeFrom 85 = .ok (.putfield 62, 3) := by decide +kernel
theorem dX3_strikeFrom_88 : decode cX3_strikeFrom 88 = .ok (.iinc 4 1, 3) := by decide +kernel
theorem dX3_strikeFrom_91 : decode cX3_strikeFrom 91 = .ok (.iinc 5 1, 3) := by decide +kernel
theorem dX3_strikeFrom_94 : decode cX3_strikeFrom 94 = .ok (.goto (-58), 3) := by decide +kernel
theorem dX3_strikeFrom_97 : decode cX3_strikeFrom 97 = .ok (.iload 4, 2) := by decide +kernel
theorem dX3_strikeFrom_99 : decode cX3_strikeFrom 99 = .ok (.ireturn, 1) := by decide +kernel
theorem dX3_markStruck_0 : decode cX3_markStruck 0 = .ok (.iload_n 1, 1) := by decide +kernel
theorem dX3_markStruck_1 : decode cX3_markStruck 1 = .ok (.istore 4, 2) := by decide +kernel
theorem dX3_markStruck_3 : decode cX3_markStruck 3 = .ok (.iload 4, 2) := by decide +kernel
theorem dX3_markStruck_5 : decode cX3_markStruck 5 = .ok (.aload_n 0, 1) := by decide +kernel
theorem dX3_markStruck_6 : decode cX3_markStruck 6 = .ok (.getfield 12, 3) := by decide +kernel
theorem dX3_markStruck_9 : decode cX3_markStruck 9 = .ok (.invokevirtual 29, 3) := by decide +kernel
theorem dX3_markStruck_12 : decode cX3_markStruck 12 = .ok (.if_icmp .ge 144, 3) := by decide +kernel
theorem dX3_markStruck_15 : decode cX3_markStruck 15 = .ok (.aload_n 0, 1) := by decide +kernel
theorem dX3_markStruck_16 : decode cX3_markStruck 16 = .ok (.getfield 18, 3) := by decide +kernel
theorem dX3_markStruck_19 : decode cX3_markStruck 19 = .ok (.iload 4, 2) := by decide +kernel
theorem dX3_markStruck_21 : decode cX3_markStruck 21 = .ok (.iload 4, 2) := by decide +kernel
theorem dX3_markStruck_23 : decode cX3_markStruck 23 = .ok (.iload_n 1, 1) := by decide +kernel
theorem dX3_markStruck_24 : decode cX3_markStruck 24 = .ok (.if_icmp .ne 7, 3) := by decide +kernel
theorem dX3_markStruck_27 : decode cX3_markStruck 27 = .ok (.iconst 1, 1) := by decide +kernel
theorem dX3_markStruck_28 : decode cX3_markStruck 28 = .ok (.goto 4, 3) := by decide +kernel
theorem dX3_markStruck_31 : decode cX3_markStruck 31 = .ok (.iconst 0, 1) := by decide +kernel
theorem dX3_markStruck_32 : decode cX3_markStruck 32 = .ok (.bastore, 1) := by decide +kernel
theorem dX3_markStruck_33 : decode cX3_markStruck 33 = .ok (.aload_n 0, 1) := by decide +kernel
theorem dX3_markStruck_34 : decode cX3_markStruck 34 = .ok (.getfield 12, 3) := by decide +kernel
theorem dX3_markStruck_37 : decode cX3_markStruck 37 = .ok (.iload 4, 2) := by decide +kernel
theorem dX3_markStruck_39 : decode cX3_markStruck 39 = .ok (.invokevirtual 33, 3) := by decide +kernel
theorem dX3_markStruck_42 : decode cX3_markStruck 42 = .ok (.checkcast 37, 3) := by decide +kernel
theorem dX3_markStruck_45 : decode cX3_markStruck 45 = .ok (.astore 5, 2) := by decide +kernel
theorem dX3_markStruck_47 : decode cX3_markStruck 47 = .ok (.iload 4, 2) := by decide +kernel
theorem dX3_markStruck_49 : decode cX3_markStruck 49 = .ok (.iload_n 1, 1) := by decide +kernel
theorem dX3_markStruck_50 : decode cX3_markStruck 50 = .ok (.if_icmp .eq 100, 3) := by decide +kernel
theorem dX3_markStruck_53 : decode cX3_markStruck 53 = .ok (.aload 5, 2) := by decide +kernel
theorem dX3_markStruck_55 : decode cX3_markStruck 55 = .ok (.iload_n 2, 1) := by decide +kernel
theorem dX3_markStruck_56 : decode cX3_markStruck 56 = .ok (.invokevirtual 119, 3) := by decide +kernel
theorem dX3_markStruck_59 : decode cX3_markStruck 59 = .ok (.ifCond .ne 6, 3) := by decide +kernel
theorem dX3_markStruck_62 : decode cX3_markStruck 62 = .ok (.goto 88, 3) := by decide +kernel
theorem dX3_markStruck_65 : decode cX3_markStruck 65 = .ok (.iconst 0, 1) := by decide +kernel
theorem dX3_markStruck_66 : decode cX3_markStruck 66 = .ok (.istore 6, 2) := by decide +kernel
theorem dX3_markStruck_68 : decode cX3_markStruck 68 = .ok (.iload 6, 2) := by decide +kernel
theorem dX3_markStruck_70 : decode cX3_markStruck 70 = .ok (.aload 5, 2) := by decide +kernel
theorem dX3_markStruck_72 : decode cX3_markStruck 72 = .ok (.getfield 43, 3) := by decide +kernel
theorem dX3_markStruck_75 : decode cX3_markStruck 75 = .ok (.invokevirtual 53, 3) := by decide +kernel
theorem dX3_markStruck_78 : decode cX3_markStruck 78 = .ok (.if_icmp .ge 72, 3) := by decide +kernel
theorem dX3_markStruck_81 : decode cX3_markStruck 81 = .ok (.aload 5, 2) := by decide +kernel
theorem dX3_markStruck_83 : decode cX3_markStruck 83 = .ok (.getfield 43, 3) := by decide +kernel
theorem dX3_markStruck_86 : decode cX3_markStruck 86 = .ok (.iload 6, 2) := by decide +kernel
theorem dX3_markStruck_88 : decode cX3_markStruck 88 = .ok (.invokevirtual 54, 3) := by decide +kernel
theorem dX3_markStruck_91 : decode cX3_markStruck 91 = .ok (.istore 7, 2) := by decide +kernel
theorem dX3_markStruck_93 : decode cX3_markStruck 93 = .ok (.iload 7, 2) := by decide +kernel
theorem dX3_markStruck_95 : decode cX3_markStruck 95 = .ok (.iload_n 1, 1) := by decide +kernel
theorem dX3_markStruck_96 : decode cX3_markStruck 96 = .ok (.if_icmp .lt 48, 3) := by decide +kernel
theorem dX3_markStruck_99 : decode cX3_markStruck 99 = .ok (.aload_n 0, 1) := by decide +kernel
theorem dX3_markStruck_100 : decode cX3_markStruck 100 = .ok (.getfield 18, 3) := by decide +kernel
theorem dX3_markStruck_103 : decode cX3_markStruck 103 = .ok (.iload 7, 2) := by decide +kernel
theorem dX3_markStruck_105 : decode cX3_markStruck 105 = .ok (.baload, 1) := by decide +kernel
theorem dX3_markStruck_106 : decode cX3_markStruck 106 = .ok (.ifCond .ne 6, 3) := by decide +kernel
theorem dX3_markStruck_109 : decode cX3_markStruck 109 = .ok (.goto 35, 3) := by decide +kernel
theorem dX3_markStruck_112 : decode cX3_markStruck 112 = .ok (.aload_n 3, 1) := by decide +kernel
theorem dX3_markStruck_113 : decode cX3_markStruck 113 = .ok (.aload_n 0, 1) := by decide +kernel
theorem dX3_markStruck_114 : decode cX3_markStruck 114 = .ok (.getfield 12, 3) := by decide +kernel
theorem dX3_markStruck_117 : decode cX3_markStruck 117 = .ok (.iload 7, 2) := by decide +kernel
theorem dX3_markStruck_119 : decode cX3_markStruck 119 = .ok (.invokevirtual 33, 3) := by decide +kernel
theorem dX3_markStruck_122 : decode cX3_markStruck 122 = .ok (.checkcast 37, 3) := by decide +kernel
theorem dX3_markStruck_125 : decode cX3_markStruck 125 = .ok (.getfield 75, 3) := by decide +kernel
theorem dX3_markStruck_128 : decode cX3_markStruck 128 = .ok (.invokevirtual 122, 3) := by decide +kernel
theorem dX3_markStruck_131 : decode cX3_markStruck 131 = .ok (.ifCond .eq 5, 3) := by decide +kernel
theorem dX3_markStruck_134 : decode cX3_markStruck 134 = .ok (.iconst 0, 1) := by decide +kernel
theorem dX3_markStruck_135 : decode cX3_markStruck 135 = .ok (.ireturn, 1) := by decide +kernel
theorem dX3_markStruck_136 : decode cX3_markStruck 136 = .ok (.aload_n 0, 1) := by decide +kernel
theorem dX3_markStruck_137 : decode cX3_markStruck 137 = .ok (.getfield 18, 3) := by decide +kernel
theorem dX3_markStruck_140 : decode cX3_markStruck 140 = .ok (.iload 4, 2) := by decide +kernel
theorem dX3_markStruck_142 : decode cX3_markStruck 142 = .ok (.iconst 1, 1) := by decide +kernel
theorem dX3_markStruck_143 : decode cX3_markStruck 143 = .ok (.bastore, 1) := by decide +kernel
theorem dX3_markStruck_144 : decode cX3_markStruck 144 = .ok (.iinc 6 1, 3) := by decide +kernel
theorem dX3_markStruck_147 : decode cX3_markStruck 147 = .ok (.goto (-79), 3) := by decide +kernel
theorem dX3_markStruck_150 : decode cX3_markStruck 150 = .ok (.iinc 4 1, 3) := by decide +kernel
theorem dX3_markStruck_153 : decode cX3_markStruck 153 = .ok (.goto (-150), 3) := by decide +kernel
theorem dX3_markStruck_156 : decode cX3_markStruck 156 = .ok (.iconst 1, 1) := by decide +kernel
theorem dX3_markStruck_157 : decode cX3_markStruck 157 = .ok (.ireturn, 1) := by decide +kernel
theorem dX3_fewestBetween_0 : decode cX3_fewestBetween 0 = .ok (.lconst 1, 1) := by decide +kernel
theorem dX3_fewestBetween_1 : decode cX3_fewestBetween 1 = .ok (.iload_n 1, 1) := by decide +kernel
theorem dX3_fewestBetween_2 : decode cX3_fewestBetween 2 = .ok (.lshl, 1) := by decide +kernel
theorem dX3_fewestBetween_3 : decode cX3_fewestBetween 3 = .ok (.lstore 6, 2) := by decide +kernel
theorem dX3_fewestBetween_5 : decode cX3_fewestBetween 5 = .ok (.iconst 0, 1) := by decide +kernel
theorem dX3_fewestBetween_6 : decode cX3_fewestBetween 6 = .ok (.istore 8, 2) := by decide +kernel
theorem dX3_fewestBetween_8 : decode cX3_fewestBetween 8 = .ok (.iload 8, 2) := by decide +kernel
theorem dX3_fewestBetween_10 : decode cX3_fewestBetween 10 = .ok (.bipush 40, 2) := by decide +kernel
theorem dX3_fewestBetween_12 : decode cX3_fewestBetween 12 = .ok (.if_icmp .ge 51, 3) := by decide +kernel
theorem dX3_fewestBetween_15 : decode cX3_fewestBetween 15 = .ok (.lload 6, 2) := by decide +kernel
theorem dX3_fewestBetween_17 : decode cX3_fewestBetween 17 = .ok (.iload_n 2, 1) := by decide +kernel
theorem dX3_fewestBetween_18 : decode cX3_fewestBetween 18 = .ok (.invokestatic 100, 3) := by decide +kernel
theorem dX3_fewestBetween_21 : decode cX3_fewestBetween 21 = .ok (.ifCond .eq 6, 3) := by decide +kernel
theorem dX3_fewestBetween_24 : decode cX3_fewestBetween 24 = .ok (.iload 8, 2) := by decide +kernel
theorem dX3_fewestBetween_26 : decode cX3_fewestBetween 26 = .ok (.ireturn, 1) := by decide +kernel
theorem dX3_fewestBetween_27 : decode cX3_fewestBetween 27 = .ok (.lload 6, 2) := by decide +kernel
theorem dX3_fewestBetween_29 : decode cX3_fewestBetween 29 = .ok (.aload_n 0, 1) := by decide +kernel
theorem dX3_fewestBetween_30 : decode cX3_fewestBetween 30 = .ok (.lload 6, 2) := by decide +kernel
theorem dX3_fewestBetween_32 : decode cX3_fewestBetween 32 = .ok (.iload_n 3, 1) := by decide +kernel
theorem dX3_fewestBetween_33 : decode cX3_fewestBetween 33 = .ok (.iload 4, 2) := by decide +kernel
theorem dX3_fewestBetween_35 : decode cX3_fewestBetween 35 = .ok (.aload 5, 2) := by decide +kernel
theorem dX3_fewestBetween_37 : decode cX3_fewestBetween 37 = .ok (.invokevirtual 125, 3) := by decide +kernel
theorem dX3_fewestBetween_40 : decode cX3_fewestBetween 40 = .ok (.lor, 1) := by decide +kernel
theorem dX3_fewestBetween_41 : decode cX3_fewestBetween 41 = .ok (.lstore 9, 2) := by decide +kernel
theorem dX3_fewestBetween_43 : decode cX3_fewestBetween 43 = .ok (.lload 9, 2) := by decide +kernel
theorem dX3_fewestBetween_45 : decode cX3_fewestBetween 45 = .ok (.lload 6, 2) := by decide +kernel
theorem dX3_fewestBetween_47 : decode cX3_fewestBetween 47 = .ok (.lcmp, 1) := by decide +kernel
theorem dX3_fewestBetween_48 : decode cX3_fewestBetween 48 = .ok (.ifCond .ne 5, 3) := by decide +kernel
theorem dX3_fewestBetween_51 : decode cX3_fewestBetween 51 = .ok (.iconst (-1), 1) := by decide +kernel
theorem dX3_fewestBetween_52 : decode cX3_fewestBetween 52 = .ok (.ireturn, 1) := by decide +kernel
theorem dX3_fewestBetween_53 : decode cX3_fewestBetween 53 = .ok (.lload 9, 2) := by decide +kernel
theorem dX3_fewestBetween_55 : decode cX3_fewestBetween 55 = .ok (.lstore 6, 2) := by decide +kernel
theorem dX3_fewestBetween_57 : decode cX3_fewestBetween 57 = .ok (.iinc 8 1, 3) := by decide +kernel
theorem dX3_fewestBetween_60 : decode cX3_fewestBetween 60 = .ok (.goto (-52), 3) := by decide +kernel
theorem dX3_fewestBetween_63 : decode cX3_fewestBetween 63 = .ok (.iconst (-1), 1) := by decide +kernel
theorem dX3_fewestBetween_64 : decode cX3_fewestBetween 64 = .ok (.ireturn, 1) := by decide +kernel
theorem dX3_nextTo_0 : decode cX3_nextTo 0 = .ok (.lconst 0, 1) := by decide +kernel
theorem dX3_nextTo_1 : decode cX3_nextTo 1 = .ok (.lstore 6, 2) := by decide +kernel
theorem dX3_nextTo_3 : decode cX3_nextTo 3 = .ok (.iconst 0, 1) := by decide +kernel
theorem dX3_nextTo_4 : decode cX3_nextTo 4 = .ok (.istore 8, 2) := by decide +kernel
theorem dX3_nextTo_6 : decode cX3_nextTo 6 = .ok (.iload 8, 2) := by decide +kernel
theorem dX3_nextTo_8 : decode cX3_nextTo 8 = .ok (.aload_n 0, 1) := by decide +kernel
theorem dX3_nextTo_9 : decode cX3_nextTo 9 = .ok (.getfield 12, 3) := by decide +kernel
theorem dX3_nextTo_12 : decode cX3_nextTo 12 = .ok (.invokevirtual 29, 3) := by decide +kernel
theorem dX3_nextTo_15 : decode cX3_nextTo 15 = .ok (.if_icmp .ge 77, 3) := by decide +kernel
theorem dX3_nextTo_18 : decode cX3_nextTo 18 = .ok (.aload_n 0, 1) := by decide +kernel
theorem dX3_nextTo_19 : decode cX3_nextTo 19 = .ok (.getfield 12, 3) := by decide +kernel
theorem dX3_nextTo_22 : decode cX3_nextTo 22 = .ok (.iload 8, 2) := by decide +kernel
theorem dX3_nextTo_24 : decode cX3_nextTo 24 = .ok (.invokevirtual 33, 3) := by decide +kernel
theorem dX3_nextTo_27 : decode cX3_nextTo 27 = .ok (.checkcast 37, 3) := by decide +kernel
theorem dX3_nextTo_30 : decode cX3_nextTo 30 = .ok (.astore 9, 2) := by decide +kernel
theorem dX3_nextTo_32 : decode cX3_nextTo 32 = .ok (.iload_n 3, 1) := by decide +kernel
theorem dX3_nextTo_33 : decode cX3_nextTo 33 = .ok (.aload 9, 2) := by decide +kernel
theorem dX3_nextTo_35 : decode cX3_nextTo 35 = .ok (.getfield 75, 3) := by decide +kernel
theorem dX3_nextTo_38 : decode cX3_nextTo 38 = .ok (.iushr, 1) := by decide +kernel
theorem dX3_nextTo_39 : decode cX3_nextTo 39 = .ok (.iconst 1, 1) := by decide +kernel
theorem dX3_nextTo_40 : decode cX3_nextTo 40 = .ok (.iand, 1) := by decide +kernel
theorem dX3_nextTo_41 : decode cX3_nextTo 41 = .ok (.ifCond .eq 45, 3) := by decide +kernel
theorem dX3_nextTo_44 : decode cX3_nextTo 44 = .ok (.aload 9, 2) := by decide +kernel
theorem dX3_nextTo_46 : decode cX3_nextTo 46 = .ok (.iload 4, 2) := by decide +kernel
theorem dX3_nextTo_48 : decode cX3_nextTo 48 = .ok (.invokevirtual 112, 3) := by decide +kernel
theorem dX3_nextTo_51 : decode cX3_nextTo 51 = .ok (.ifCond .eq 35, 3) := by decide +kernel
theorem dX3_nextTo_54 : decode cX3_nextTo 54 = .ok (.aload 9, 2) := by decide +kernel
theorem dX3_nextTo_56 : decode cX3_nextTo 56 = .ok (.getfield 43, 3) := by decide +kernel
theorem dX3_nextTo_59 : decode cX3_nextTo 59 = .ok (.aload 5, 2) := by decide +kernel
theorem dX3_nextTo_61 : decode cX3_nextTo 61 = .ok (.invokevirtual 129, 3) := by decide +kernel
theorem dX3_nextTo_64 : decode cX3_nextTo 64 = .ok (.lstore 10, 2) := by decide +kernel
theorem dX3_nextTo_66 : decode cX3_nextTo 66 = .ok (.lload 6, 2) := by decide +kernel
theorem dX3_nextTo_68 : decode cX3_nextTo 68 = .ok (.lload 10, 2) := by decide +kernel
theorem dX3_nextTo_70 : decode cX3_nextTo 70 = .ok (.lload_n 1, 1) := by decide +kernel
theorem dX3_nextTo_71 : decode cX3_nextTo 71 = .ok (.land, 1) := by decide +kernel
theorem dX3_nextTo_72 : decode cX3_nextTo 72 = .ok (.lconst 0, 1) := by decide +kernel
theorem dX3_nextTo_73 : decode cX3_nextTo 73 = .ok (.lcmp, 1) := by decide +kernel
theorem dX3_nextTo_74 : decode cX3_nextTo 74 = .ok (.ifCond .eq 8, 3) := by decide +kernel
theorem dX3_nextTo_77 : decode cX3_nextTo 77 = .ok (.lload 10, 2) := by decide +kernel
theorem dX3_nextTo_79 : decode cX3_nextTo 79 = .ok (.goto 4, 3) := by decide +kernel
theorem dX3_nextTo_82 : decode cX3_nextTo 82 = .ok (.lconst 0, 1) := by decide +kernel
theorem dX3_nextTo_83 : decode cX3_nextTo 83 = .ok (.lor, 1) := by decide +kernel
theorem dX3_nextTo_84 : decode cX3_nextTo 84 = .ok (.lstore 6, 2) := by decide +kernel
theorem dX3_nextTo_86 : decode cX3_nextTo 86 = .ok (.iinc 8 1, 3) := by decide +kernel
theorem dX3_nextTo_89 : decode cX3_nextTo 89 = .ok (.goto (-83), 3) := by decide +kernel
theorem dX3_nextTo_92 : decode cX3_nextTo 92 = .ok (.lload 6, 2) := by decide +kernel
theorem dX3_nextTo_94 : decode cX3_nextTo 94 = .ok (.lreturn, 1) := by decide +kernel
theorem dX3_withThing_0 : decode cX3_withThing 0 = .ok (.iconst 0, 1) := by decide +kernel
theorem dX3_withThing_1 : decode cX3_withThing 1 = .ok (.istore 6, 2) := by decide +kernel
theorem dX3_withThing_3 : decode cX3_withThing 3 = .ok (.iconst 0, 1) := by decide +kernel
theorem dX3_withThing_4 : decode cX3_withThing 4 = .ok (.istore 7, 2) := by decide +kernel
theorem dX3_withThing_6 : decode cX3_withThing 6 = .ok (.iload 7, 2) := by decide +kernel
theorem dX3_withThing_8 : decode cX3_withThing 8 = .ok (.aload_n 0, 1) := by decide +kernel
theorem dX3_withThing_9 : decode cX3_withThing 9 = .ok (.getfield 12, 3) := by decide +kernel
theorem dX3_withThing_12 : decode cX3_withThing 12 = .ok (.invokevirtual 29, 3) := by decide +kernel
theorem dX3_withThing_15 : decode cX3_withThing 15 = .ok (.if_icmp .ge 63, 3) := by decide +kernel
theorem dX3_withThing_18 : decode cX3_withThing 18 = .ok (.aload_n 0, 1) := by decide +kernel
theorem dX3_withThing_19 : decode cX3_withThing 19 = .ok (.getfield 12, 3) := by decide +kernel
theorem dX3_withThing_22 : decode cX3_withThing 22 = .ok (.iload 7, 2) := by decide +kernel
theorem dX3_withThing_24 : decode cX3_withThing 24 = .ok (.invokevirtual 33, 3) := by decide +kernel
theorem dX3_withThing_27 : decode cX3_withThing 27 = .ok (.checkcast 37, 3) := by decide +kernel
theorem dX3_withThing_30 : decode cX3_withThing 30 = .ok (.astore 8, 2) := by decide +kernel
theorem dX3_withThing_32 : decode cX3_withThing 32 = .ok (.aload 8, 2) := by decide +kernel
theorem dX3_withThing_34 : decode cX3_withThing 34 = .ok (.getfield 75, 3) := by decide +kernel
theorem dX3_withThing_37 : decode cX3_withThing 37 = .ok (.iload_n 2, 1) := by decide +kernel
theorem dX3_withThing_38 : decode cX3_withThing 38 = .ok (.if_icmp .ne 34, 3) := by decide +kernel
theorem dX3_withThing_41 : decode cX3_withThing 41 = .ok (.aload 8, 2) := by decide +kernel
theorem dX3_withThing_43 : decode cX3_withThing 43 = .ok (.iload 4, 2) := by decide +kernel
theorem dX3_withThing_45 : decode cX3_withThing 45 = .ok (.invokevirtual 112, 3) := by decide +kernel
theorem dX3_withThing_48 : decode cX3_withThing 48 = .ok (.ifCond .eq 24, 3) := by decide +kernel
theorem dX3_withThing_51 : decode cX3_withThing 51 = .ok (.aload 8, 2) := by decide +kernel
theorem dX3_withThing_53 : decode cX3_withThing 53 = .ok (.getfield 43, 3) := by decide +kernel
theorem dX3_withThing_56 : decode cX3_withThing 56 = .ok (.iload_n 3, 1) := by decide +kernel
theorem dX3_withThing_57 : decode cX3_withThing 57 = .ok (.aload 5, 2) := by decide +kernel
theorem dX3_withThing_59 : decode cX3_withThing 59 = .ok (.invokevirtual 96, 3) := by decide +kernel
theorem dX3_withThing_62 : decode cX3_withThing 62 = .ok (.iload_n 1, 1) := by decide +kernel
theorem dX3_withThing_63 : decode cX3_withThing 63 = .ok (.invokestatic 100, 3) := by decide +kernel
theorem dX3_withThing_66 : decode cX3_withThing 66 = .ok (.ifCond .eq 6, 3) := by decide +kernel
theorem dX3_withThing_69 : decode cX3_withThing 69 = .ok (.iinc 6 1, 3) := by decide +kernel
theorem dX3_withThing_72 : decode cX3_withThing 72 = .ok (.iinc 7 1, 3) := by decide +kernel
theorem dX3_withThing_75 : decode cX3_withThing 75 = .ok (.goto (-69), 3) := by decide +kernel
theorem dX3_withThing_78 : decode cX3_withThing 78 = .ok (.iload 6, 2) := by decide +kernel
theorem dX3_withThing_80 : decode cX3_withThing 80 = .ok (.ireturn, 1) := by decide +kernel
theorem dX4_init_0 : decode cX4_init 0 = .ok (.aload_n 0, 1) := by decide +kernel
theorem dX4_init_1 : decode cX4_init 1 = .ok (.invokespecial 3, 3) := by decide +kernel
theorem dX4_init_4 : decode cX4_init 4 = .ok (.aload_n 0, 1) := by decide +kernel
theorem dX4_init_5 : decode cX4_init 5 = .ok (.sipush 2160, 3) := by decide +kernel
theorem dX4_init_8 : decode cX4_init 8 = .ok (.newarray .long, 2) := by decide +kernel
theorem dX4_init_10 : decode cX4_init 10 = .ok (.putfield 9, 3) := by decide +kernel
theorem dX4_init_13 : decode cX4_init 13 = .ok (.aload_n 0, 1) := by decide +kernel
theorem dX4_init_14 : decode cX4_init 14 = .ok (.bipush 6, 2) := by decide +kernel
theorem dX4_init_16 : decode cX4_init 16 = .ok (.newarray .int, 2) := by decide +kernel
theorem dX4_init_18 : decode cX4_init 18 = .ok (.putfield 15, 3) := by decide +kernel
theorem dX4_init_21 : decode cX4_init 21 = .ok (.aload_n 0, 1) := by decide +kernel
theorem dX4_init_22 : decode cX4_init 22 = .ok (.sipush 240, 3) := by decide +kernel
theorem dX4_init_25 : decode cX4_init 25 = .ok (.newarray .long, 2) := by decide +kernel
theorem dX4_init_27 : decode cX4_init 27 = .ok (.putfield 19, 3) := by decide +kernel
theorem dX4_init_30 : decode cX4_init 30 = .ok (.aload_n 0, 1) := by decide +kernel
theorem dX4_init_31 : decode cX4_init 31 = .ok (.iconst 3, 1) := by decide +kernel
theorem dX4_init_32 : decode cX4_init 32 = .ok (.newarray .long, 2) := by decide +kernel
theorem dX4_init_34 : decode cX4_init 34 = .ok (.putfield 22, 3) := by decide +kernel
theorem dX4_init_37 : decode cX4_init 37 = .ok (.aload_n 0, 1) := by decide +kernel
theorem dX4_init_38 : decode cX4_init 38 = .ok (.iconst 3, 1) := by decide +kernel
theorem dX4_init_39 : decode cX4_init 39 = .ok (.newarray .int, 2) := by decide +kernel
theorem dX4_init_41 : decode cX4_init 41 = .ok (.putfield 25, 3) := by decide +kernel
theorem dX4_init_44 : decode cX4_init 44 = .ok (.aload_n 0, 1) := by decide +kernel
theorem dX4_init_45 : decode cX4_init 45 = .ok (.new 28, 3) := by decide +kernel
theorem dX4_init_48 : decode cX4_init 48 = .ok (.dup, 1) := by decide +kernel
theorem dX4_init_49 : decode cX4_init 49 = .ok (.invokespecial 30, 3) := by decide +kernel
theorem dX4_init_52 : decode cX4_init 52 = .ok (.putfield 31, 3) := by decide +kernel
theorem dX4_init_55 : decode cX4_init 55 = .ok (.return_, 1) := by decide +kernel
theorem dX4_prepare_0 : decode cX4_prepare 0 = .ok (.aload_n 0, 1) := by decide +kernel
theorem dX4_prepare_1 : decode cX4_prepare 1 = .ok (.aload_n 1, 1) := by decide +kernel
theorem dX4_prepare_2 : decode cX4_prepare 2 = .ok (.putfield 31, 3) := by decide +kernel
theorem dX4_prepare_5 : decode cX4_prepare 5 = .ok (.iconst 0, 1) := by decide +kernel
theorem dX4_prepare_6 : decode cX4_prepare 6 = .ok (.istore 5, 2) := by decide +kernel
theorem dX4_prepare_8 : decode cX4_prepare 8 = .ok (.iload 5, 2) := by decide +kernel
theorem dX4_prepare_10 : decode cX4_prepare 10 = .ok (.aload_n 0, 1) := by decide +kernel
theorem dX4_prepare_11 : decode cX4_prepare 11 = .ok (.getfield 31, 3) := by decide +kernel
theorem dX4_prepare_14 : decode cX4_prepare 14 = .ok (.invokevirtual 35, 3) := by decide +kernel
theorem dX4_prepare_17 : decode cX4_prepare 17 = .ok (.if_icmp .ge 82, 3) := by decide +kernel
theorem dX4_prepare_20 : decode cX4_prepare 20 = .ok (.aload_n 0, 1) := by decide +kernel
theorem dX4_prepare_21 : decode cX4_prepare 21 = .ok (.getfield 15, 3) := by decide +kernel
theorem dX4_prepare_24 : decode cX4_prepare 24 = .ok (.iload 5, 2) := by decide +kernel
theorem dX4_prepare_26 : decode cX4_prepare 26 = .ok (.iconst 0, 1) := by decide +kernel
theorem dX4_prepare_27 : decode cX4_prepare 27 = .ok (.iastore, 1) := by decide +kernel
theorem dX4_prepare_28 : decode cX4_prepare 28 = .ok (.iconst 0, 1) := by decide +kernel
theorem dX4_prepare_29 : decode cX4_prepare 29 = .ok (.istore 6, 2) := by decide +kernel
theorem dX4_prepare_31 : decode cX4_prepare 31 = .ok (.iload 6, 2) := by decide +kernel
theorem dX4_prepare_33 : decode cX4_prepare 33 = .ok (.aload_n 2, 1) := by decide +kernel
theorem dX4_prepare_34 : decode cX4_prepare 34 = .ok (.invokevirtual 39, 3) := by decide +kernel
theorem dX4_prepare_37 : decode cX4_prepare 37 = .ok (.if_icmp .ge 56, 3) := by decide +kernel
theorem dX4_prepare_40 : decode cX4_prepare 40 = .ok (.aload_n 2, 1) := by decide +kernel
theorem dX4_prepare_41 : decode cX4_prepare 41 = .ok (.iload 6, 2) := by decide +kernel
theorem dX4_prepare_43 : decode cX4_prepare 43 = .ok (.invokevirtual 44, 3) := by decide +kernel
theorem dX4_prepare_46 : decode cX4_prepare 46 = .ok (.astore 7, 2) := by decide +kernel
theorem dX4_prepare_48 : decode cX4_prepare 48 = .ok (.aload 7, 2) := by decide +kernel
theorem dX4_prepare_50 : decode cX4_prepare 50 = .ok (.getfield 48, 3) := by decide +kernel
theorem dX4_prepare_53 : decode cX4_prepare 53 = .ok (.aload_n 0, 1) := by decide +kernel
theorem dX4_prepare_54 : decode cX4_prepare 54 = .ok (.getfield 31, 3) := by decide +kernel
theorem dX4_prepare_57 : decode cX4_prepare 57 = .ok (.iload 5, 2) := by decide +kernel
theorem dX4_prepare_59 : decode cX4_prepare 59 = .ok (.invokevirtual 54, 3) := by decide +kernel
theorem dX4_prepare_62 : decode cX4_prepare 62 = .ok (.if_icmp .ne 25, 3) := by decide +kernel
theorem dX4_prepare_65 : decode cX4_prepare 65 = .ok (.aload 7, 2) := by decide +kernel
theorem dX4_prepare_67 : decode cX4_prepare 67 = .ok (.iload 4, 2) := by decide +kernel
theorem dX4_prepare_69 : decode cX4_prepare 69 = .ok (.invokevirtual 57, 3) := by decide +kernel
theorem dX4_prepare_72 : decode cX4_prepare 72 = .ok (.ifCond .eq 15, 3) := by decide +kernel
theorem dX4_prepare_75 : decode cX4_prepare 75 = .ok (.aload_n 0, 1) := by decide +kernel
theorem dX4_prepare_76 : decode cX4_prepare 76 = .ok (.iload 5, 2) := by decide +kernel
theorem dX4_prepare_78 : decode cX4_prepare 78 = .ok (.aload 7, 2) := by decide +kernel
theorem dX4_prepare_80 : decode cX4_prepare 80 = .ok (.getfield 61, 3) := by decide +kernel
theorem dX4_prepare_83 : decode cX4_prepare 83 = .ok (.aload_n 3, 1) := by decide +kernel
theorem dX4_prepare_84 : decode cX4_prepare 84 = .ok (.invokevirtual 65, 3) := by decide +kernel
theorem dX4_prepare_87 : decode cX4_prepare 87 = .ok (.iinc 6 1, 3) := by decide +kernel
theorem dX4_prepare_90 : decode cX4_prepare 90 = .ok (.goto (-59), 3) := by decide +kernel
theorem dX4_prepare_93 : decode cX4_prepare 93 = .ok (.iinc 5 1, 3) := by decide +kernel
theorem dX4_prepare_96 : decode cX4_prepare 96 = .ok (.goto (-88), 3) := by decide +kernel
theorem dX4_prepare_99 : decode cX4_prepare 99 = .ok (.iconst 0, 1) := by decide +kernel
theorem dX4_prepare_100 : decode cX4_prepare 100 = .ok (.istore 5, 2) := by decide +kernel
theorem dX4_prepare_102 : decode cX4_prepare 102 = .ok (.iload 5, 2) := by decide +kernel
theorem dX4_prepare_104 : decode cX4_prepare 104 = .ok (.iconst 3, 1) := by decide +kernel
theorem dX4_prepare_105 : decode cX4_prepare 105 = .ok (.if_icmp .ge 22, 3) := by decide +kernel
theorem dX4_prepare_108 : decode cX4_prepare 108 = .ok (.aload_n 0, 1) := by decide +kernel
theorem dX4_prepare_109 : decode cX4_prepare 109 = .ok (.getfield 22, 3) := by decide +kernel
theorem dX4_prepare_112 : decode cX4_prepare 112 = .ok (.iload 5, 2) := by decide +kernel
theorem dX4_prepare_114 : decode cX4_prepare 114 = .ok (.aload_n 0, 1) := by decide +kernel
theorem dX4_prepare_115 : decode cX4_prepare 115 = .ok (.iload 5, 2) := by decide +kernel
theorem dX4_prepare_117 : decode cX4_prepare 117 = .ok (.invokevirtual 69, 3) := by decide +kernel
theorem dX4_prepare_120 : decode cX4_prepare 120 = .ok (.lastore, 1) := by decide +kernel
theorem dX4_prepare_121 : decode cX4_prepare 121 = .ok (.iinc 5 1, 3) := by decide +kernel
theorem dX4_prepare_124 : decode cX4_prepare 124 = .ok (.goto (-22), 3) := by decide +kernel
theorem dX4_prepare_127 : decode cX4_prepare 127 = .ok (.return_, 1) := by decide +kernel
theorem dX4_howMany_0 : decode cX4_howMany 0 = .ok (.aload_n 0, 1) := by decide +kernel
theorem dX4_howMany_1 : decode cX4_howMany 1 = .ok (.ldc 73, 2) := by decide +kernel
theorem dX4_howMany_3 : decode cX4_howMany 3 = .ok (.invokevirtual 74, 3) := by decide +kernel
theorem dX4_howMany_6 : decode cX4_howMany 6 = .ok (.pop, 1) := by decide +kernel
theorem dX4_howMany_7 : decode cX4_howMany 7 = .ok (.aload_n 0, 1) := by decide +kernel
theorem dX4_howMany_8 : decode cX4_howMany 8 = .ok (.getfield 77, 3) := by decide +kernel
theorem dX4_howMany_11 : decode cX4_howMany 11 = .ok (.ireturn, 1) := by decide +kernel
theorem dX4_found_0 : decode cX4_found 0 = .ok (.aload_n 0, 1) := by decide +kernel
theorem dX4_found_1 : decode cX4_found 1 = .ok (.getfield 25, 3) := by decide +kernel
theorem dX4_found_4 : decode cX4_found 4 = .ok (.iload_n 1, 1) := by decide +kernel
theorem dX4_found_5 : decode cX4_found 5 = .ok (.iaload, 1) := by decide +kernel
theorem dX4_found_6 : decode cX4_found 6 = .ok (.ireturn, 1) := by decide +kernel
theorem dX4_find_0 : decode cX4_find 0 = .ok (.aload_n 0, 1) := by decide +kernel
theorem dX4_find_1 : decode cX4_find 1 = .ok (.iconst 0, 1) := by decide +kernel
theorem dX4_find_2 : decode cX4_find 2 = .ok (.putfield 77, 3) := by decide +kernel
theorem dX4_find_5 : decode cX4_find 5 = .ok (.aload_n 0, 1) := by decide +kernel
theorem dX4_find_6 : decode cX4_find 6 = .ok (.iconst 0, 1) := by decide +kernel
theorem dX4_find_7 : decode cX4_find 7 = .ok (.iconst 0, 1) := by decide +kernel
theorem dX4_find_8 : decode cX4_find 8 = .ok (.invokevirtual 80, 3) := by decide +kernel
theorem dX4_find_11 : decode cX4_find 11 = .ok (.iconst 0, 1) := by decide +kernel
theorem dX4_find_12 : decode cX4_find 12 = .ok (.istore_n 2, 1) := by decide +kernel
theorem dX4_find_13 : decode cX4_find 13 = .ok (.iload_n 2, 1) := by decide +kernel
theorem dX4_find_14 : decode cX4_find 14 = .ok (.bipush 40, 2) := by decide +kernel
theorem dX4_find_16 : decode cX4_find 16 = .ok (.if_icmp .ge 131, 3) := by decide +kernel
theorem dX4_find_19 : decode cX4_find 19 = .ok (.aload_n 0, 1) := by decide +kernel
theorem dX4_find_20 : decode cX4_find 20 = .ok (.getfield 22, 3) := by decide +kernel
theorem dX4_find_23 : decode cX4_find 23 = .ok (.iconst 0, 1) := by decide +kernel
theorem dX4_find_24 : decode cX4_find 24 = .ok (.laload, 1) := by decide +kernel
theorem dX4_find_25 : decode cX4_find 25 = .ok (.iload_n 2, 1) := by decide +kernel
theorem dX4_find_26 : decode cX4_find 26 = .ok (.invokestatic 84, 3) := by decide +kernel
theorem dX4_find_29 : decode cX4_find 29 = .ok (.ifCond .ne 6, 3) := by decide +kernel
theorem dX4_find_32 : decode cX4_find 32 = .ok (.goto 109, 3) := by decide +kernel
theorem dX4_find_35 : decode cX4_find 35 = .ok (.aload_n 0, 1) := by decide +kernel
theorem dX4_find_36 : decode cX4_find 36 = .ok (.iload_n 2, 1) := by decide +kernel
theorem dX4_find_37 : decode cX4_find 37 = .ok (.iconst 1, 1) := by decide +kernel
theorem dX4_find_38 : decode cX4_find 38 = .ok (.invokevirtual 80, 3) := by decide +kernel
theorem dX4_find_41 : decode cX4_find 41 = .ok (.iconst 0, 1) := by decide +kernel
theorem dX4_find_42 : decode cX4_find 42 = .ok (.istore_n 3, 1) := by decide +kernel
theorem dX4_find_43 : decode cX4_find 43 = .ok (.iload_n 3, 1) := by decide +kernel
theorem dX4_find_44 : decode cX4_find 44 = .ok (.bipush 40, 2) := by decide +kernel
theorem dX4_find_46 : decode cX4_find 46 = .ok (.if_icmp .ge 95, 3) := by decide +kernel
theorem dX4_find_49 : decode cX4_find 49 = .ok (.aload_n 0, 1) := by decide +kernel
theorem dX4_find_50 : decode cX4_find 50 = .ok (.getfield 22, 3) := by decide +kernel
theorem dX4_find_53 : decode cX4_find 53 = .ok (.iconst 1, 1) := by decide +kernel
theorem dX4_find_54 : decode cX4_find 54 = .ok (.laload, 1) := by decide +kernel
theorem dX4_find_55 : decode cX4_find 55 = .ok (.iload_n 3, 1) := by decide +kernel
theorem dX4_find_56 : decode cX4_find 56 = .ok (.invokestatic 84, 3) := by decide +kernel
theorem dX4_find_59 : decode cX4_find 59 = .ok (.ifCond .eq 11, 3) := by decide +kernel
theorem dX4_find_62 : decode cX4_find 62 = .ok (.aload_n 0, 1) := by decide +kernel
theorem dX4_find_63 : decode cX4_find 63 = .ok (.iload_n 3, 1) := by decide +kernel
theorem dX4_find_64 : decode cX4_find 64 = .ok (.invokevirtual 88, 3) := by decide +kernel
theorem dX4_find_67 : decode cX4_find 67 = .ok (.goto 4, 3) := by decide +kernel
theorem dX4_find_70 : decode cX4_find 70 = .ok (.lconst 0, 1) := by decide +kernel
theorem dX4_find_71 : decode cX4_find 71 = .ok (.lstore 4, 2) := by decide +kernel
theorem dX4_find_73 : decode cX4_find 73 = .ok (.lload 4, 2) := by decide +kernel
theorem dX4_find_75 : decode cX4_find 75 = .ok (.invokestatic 91, 3) := by decide +kernel
theorem dX4_find_78 : decode cX4_find 78 = .ok (.istore 6, 2) := by decide +kernel
theorem dX4_find_80 : decode cX4_find 80 = .ok (.iload_n 1, 1) := by decide +kernel
theorem dX4_find_81 : decode cX4_find 81 = .ok (.aload_n 0, 1) := by decide +kernel
theorem dX4_find_82 : decode cX4_find 82 = .ok (.getfield 77, 3) := by decide +kernel
theorem dX4_find_85 : decode cX4_find 85 = .ok (.isub, 1) := by decide +kernel
theorem dX4_find_86 : decode cX4_find 86 = .ok (.iload 6, 2) := by decide +kernel
theorem dX4_find_88 : decode cX4_find 88 = .ok (.if_icmp .ge 36, 3) := by decide +kernel
theorem dX4_find_91 : decode cX4_find 91 = .ok (.aload_n 0, 1) := by decide +kernel
theorem dX4_find_92 : decode cX4_find 92 = .ok (.getfield 25, 3) := by decide +kernel
theorem dX4_find_95 : decode cX4_find 95 = .ok (.iconst 0, 1) := by decide +kernel
theorem dX4_find_96 : decode cX4_find 96 = .ok (.iload_n 2, 1) := by decide +kernel
theorem dX4_find_97 : decode cX4_find 97 = .ok (.iastore, 1) := by decide +kernel
theorem dX4_find_98 : decode cX4_find 98 = .ok (.aload_n 0, 1) := by decide +kernel
theorem dX4_find_99 : decode cX4_find 99 = .ok (.getfield 25, 3) := by decide +kernel
theorem dX4_find_102 : decode cX4_find 102 = .ok (.iconst 1, 1) := by decide +kernel
theorem dX4_find_103 : decode cX4_find 103 = .ok (.iload_n 3, 1) := by decide +kernel
theorem dX4_find_104 : decode cX4_find 104 = .ok (.iastore, 1) := by decide +kernel
theorem dX4_find_105 : decode cX4_find 105 = .ok (.aload_n 0, 1) := by decide +kernel
theorem dX4_find_106 : decode cX4_find 106 = .ok (.getfield 25, 3) := by decide +kernel
theorem dX4_find_109 : decode cX4_find 109 = .ok (.iconst 2, 1) := by decide +kernel
theorem dX4_find_110 : decode cX4_find 110 = .ok (.lload 4, 2) := by decide +kernel
theorem dX4_find_112 : decode cX4_find 112 = .ok (.iload_n 1, 1) := by decide +kernel
theorem dX4_find_113 : decode cX4_find 113 = .ok (.aload_n 0, 1) := by decide +kernel
theorem dX4_find_114 : decode cX4_find 114 = .ok (.getfield 77, 3) := by decide +kernel
theorem dX4_find_117 : decode cX4_find 117 = .ok (.isub, 1) := by decide +kernel
theorem dX4_find_118 : decode cX4_find 118 = .ok (.invokestatic 97, 3) := by decide +kernel
theorem dX4_find_121 : decode cX4_find 121 = .ok (.iastore, 1) := by decide +kernel
theorem dX4_find_122 : decode cX4_find 122 = .ok (.iconst 1, 1) := by decide +kernel
theorem dX4_find_123 : decode cX4_find 123 = .ok (.ireturn, 1) := by decide +kernel
theorem dX4_find_124 : decode cX4_find 124 = .ok (.aload_n 0, 1) := by decide +kernel
theorem dX4_find_125 : decode cX4_find 125 = .ok (.dup, 1) := by decide +kernel
theorem dX4_find_126 : decode cX4_find 126 = .ok (.getfield 77, 3) := by decide +kernel
theorem dX4_find_129 : decode cX4_find 129 = .ok (.iload 6, 2) := by decide +kernel
theorem dX4_find_131 : decode cX4_find 131 = .ok (.iadd, 1) := by decide +kernel
theorem dX4_find_132 : decode cX4_find 132 = .ok (.putfield 77, 3) := by decide +kernel
theorem dX4_find_135 : decode cX4_find 135 = .ok (.iinc 3 1, 3) := by decide +kernel
theorem dX4_find_138 : decode cX4_find 138 = .ok (.goto (-95), 3) := by decide +kernel
theorem dX4_find_141 : decode cX4_find 141 = .ok (.iinc 2 1, 3) := by decide +kernel
theorem dX4_find_144 : decode cX4_find 144 = .ok (.goto (-131), 3) := by decide +kernel
theorem dX4_find_147 : decode cX4_find 147 = .ok (.iconst 0, 1) := by decide +kernel
theorem dX4_find_148 : decode cX4_find 148 = .ok (.ireturn, 1) := by decide +kernel
theorem dX4_addIfFits_0 : decode cX4_addIfFits 0 = .ok (.iload_n 1, 1) := by decide +kernel
theorem dX4_addIfFits_1 : decode cX4_addIfFits 1 = .ok (.bipush 120, 2) := by decide +kernel
theorem dX4_addIfFits_3 : decode cX4_addIfFits 3 = .ok (.imul, 1) := by decide +kernel
theorem dX4_addIfFits_4 : decode cX4_addIfFits 4 = .ok (.aload_n 0, 1) := by decide +kernel
theorem dX4_addIfFits_5 : decode cX4_addIfFits 5 = .ok (.getfield 15, 3) := by decide +kernel
theorem dX4_addIfFits_8 : decode cX4_addIfFits 8 = .ok (.iload_n 1, 1) := by decide +kernel
theorem dX4_addIfFits_9 : decode cX4_addIfFits 9 = .ok (.iaload, 1) := by decide +kernel
theorem dX4_addIfFits_10 : decode cX4_addIfFits 10 = .ok (.iadd, 1) := by decide +kernel
theorem dX4_addIfFits_11 : decode cX4_addIfFits 11 = .ok (.iconst 3, 1) := by decide +kernel
theorem dX4_addIfFits_12 : decode cX4_addIfFits 12 = .ok (.imul, 1) := by decide +kernel
theorem dX4_addIfFits_13 : decode cX4_addIfFits 13 = .ok (.istore 4, 2) := by decide +kernel
theorem dX4_addIfFits_15 : decode cX4_addIfFits 15 = .ok (.iconst 0, 1) := by decide +kernel
theorem dX4_addIfFits_16 : decode cX4_addIfFits 16 = .ok (.istore 5, 2) := by decide +kernel
theorem dX4_addIfFits_18 : decode cX4_addIfFits 18 = .ok (.iload 5, 2) := by decide +kernel
theorem dX4_addIfFits_20 : decode cX4_addIfFits 20 = .ok (.iconst 3, 1) := by decide +kernel
theorem dX4_addIfFits_21 : decode cX4_addIfFits 21 = .ok (.if_icmp .ge 22, 3) := by decide +kernel
theorem dX4_addIfFits_24 : decode cX4_addIfFits 24 = .ok (.aload_n 0, 1) := by decide +kernel
theorem dX4_addIfFits_25 : decode cX4_addIfFits 25 = .ok (.getfield 9, 3) := by decide +kernel
theorem dX4_addIfFits_28 : decode cX4_addIfFits 28 = .ok (.iload 4, 2) := by decide +kernel
theorem dX4_addIfFits_30 : decode cX4_addIfFits 30 = .ok (.iload 5, 2) := by decide +kernel
theorem dX4_addIfFits_32 : decode cX4_addIfFits 32 = .ok (.iadd, 1) := by decide +kernel
theorem dX4_addIfFits_33 : decode cX4_addIfFits 33 = .ok (.ldc2_w 101, 3) := by decide +kernel
theorem dX4_addIfFits_36 : decode cX4_addIfFits 36 = .ok (.lastore, 1) := by decide +kernel
theorem dX4_addIfFits_37 : decode cX4_addIfFits 37 = .ok (.iinc 5 1, 3) := by decide +kernel
theorem dX4_addIfFits_40 : decode cX4_addIfFits 40 = .ok (.goto (-22), 3) := by decide +kernel
theorem dX4_addIfFits_43 : decode cX4_addIfFits 43 = .ok (.iconst 0, 1) := by decide +kernel
theorem dX4_addIfFits_44 : decode cX4_addIfFits 44 = .ok (.istore 5, 2) := by decide +kernel
theorem dX4_addIfFits_46 : decode cX4_addIfFits 46 = .ok (.iload 5, 2) := by decide +kernel
theorem dX4_addIfFits_48 : decode cX4_addIfFits 48 = .ok (.aload_n 0, 1) := by decide +kernel
theorem dX4_addIfFits_49 : decode cX4_addIfFits 49 = .ok (.getfield 31, 3) := by decide +kernel
theorem dX4_addIfFits_52 : decode cX4_addIfFits 52 = .ok (.iload_n 1, 1) := by decide +kernel
theorem dX4_addIfFits_53 : decode cX4_addIfFits 53 = .ok (.invokevirtual 103, 3) := by decide +kernel
theorem dX4_addIfFits_56 : decode cX4_addIfFits 56 = .ok (.if_icmp .ge 102, 3) := by decide +kernel
theorem dX4_addIfFits_59 : decode cX4_addIfFits 59 = .ok (.aload_n 2, 1) := by decide +kernel
theorem dX4_addIfFits_60 : decode cX4_addIfFits 60 = .ok (.aload_n 0, 1) := by decide +kernel
theorem dX4_addIfFits_61 : decode cX4_addIfFits 61 = .ok (.getfield 31, 3) := by decide +kernel
theorem dX4_addIfFits_64 : decode cX4_addIfFits 64 = .ok (.iload_n 1, 1) := by decide +kernel
theorem dX4_addIfFits_65 : decode cX4_addIfFits 65 = .ok (.iload 5, 2) := by decide +kernel
theorem dX4_addIfFits_67 : decode cX4_addIfFits 67 = .ok (.invokevirtual 106, 3) := by decide +kernel
theorem dX4_addIfFits_70 : decode cX4_addIfFits 70 = .ok (.aload_n 3, 1) := by decide +kernel
theorem dX4_addIfFits_71 : decode cX4_addIfFits 71 = .ok (.invokevirtual 110, 3) := by decide +kernel
theorem dX4_addIfFits_74 : decode cX4_addIfFits 74 = .ok (.lstore 6, 2) := by decide +kernel
theorem dX4_addIfFits_76 : decode cX4_addIfFits 76 = .ok (.aload_n 0, 1) := by decide +kernel
theorem dX4_addIfFits_77 : decode cX4_addIfFits 77 = .ok (.getfield 31, 3) := by decide +kernel
theorem dX4_addIfFits_80 : decode cX4_addIfFits 80 = .ok (.iload_n 1, 1) := by decide +kernel
theorem dX4_addIfFits_81 : decode cX4_addIfFits 81 = .ok (.iload 5, 2) := by decide +kernel
theorem dX4_addIfFits_83 : decode cX4_addIfFits 83 = .ok (.invokevirtual 116, 3) := by decide +kernel
theorem dX4_addIfFits_86 : decode cX4_addIfFits 86 = .ok (.istore 8, 2) := by decide +kernel
theorem dX4_addIfFits_88 : decode cX4_addIfFits 88 = .ok (.iload 8, 2) := by decide +kernel
theorem dX4_addIfFits_90 : decode cX4_addIfFits 90 = .ok (.bipush 40, 2) := by decide +kernel
theorem dX4_addIfFits_92 : decode cX4_addIfFits 92 = .ok (.if_icmp .ge 19, 3) := by decide +kernel
theorem dX4_addIfFits_95 : decode cX4_addIfFits 95 = .ok (.lload 6, 2) := by decide +kernel
theorem dX4_addIfFits_97 : decode cX4_addIfFits 97 = .ok (.lconst 1, 1) := by decide +kernel
theorem dX4_addIfFits_98 : decode cX4_addIfFits 98 = .ok (.aload_n 3, 1) := by decide +kernel
theorem dX4_addIfFits_99 : decode cX4_addIfFits 99 = .ok (.iload 8, 2) := by decide +kernel
theorem dX4_addIfFits_101 : decode cX4_addIfFits 101 = .ok (.invokevirtual 119, 3) := by decide +kernel
theorem dX4_addIfFits_104 : decode cX4_addIfFits 104 = .ok (.lshl, 1) := by decide +kernel
theorem dX4_addIfFits_105 : decode cX4_addIfFits 105 = .ok (.land, 1) := by decide +kernel
theorem dX4_addIfFits_106 : decode cX4_addIfFits 106 = .ok (.lstore 6, 2) := by decide +kernel
theorem dX4_addIfFits_108 : decode cX4_addIfFits 108 = .ok (.goto 36, 3) := by decide +kernel
theorem dX4_addIfFits_111 : decode cX4_addIfFits 111 = .ok (.lload 6, 2) := by decide +kernel
theorem dX4_addIfFits_113 : decode cX4_addIfFits 113 = .ok (.aload_n 0, 1) := by decide +kernel
theorem dX4_addIfFits_114 : decode cX4_addIfFits 114 = .ok (.getfield 9, 3) := by decide +kernel
theorem dX4_addIfFits_117 : decode cX4_addIfFits 117 = .ok (.iload 4, 2) := by decide +kernel
theorem dX4_addIfFits_119 : decode cX4_addIfFits 119 = .ok (.iload 8, 2) := by decide +kernel
theorem dX4_addIfFits_121 : decode cX4_addIfFits 121 = .ok (.iadd, 1) := by decide +kernel
theorem dX4_addIfFits_122 : decode cX4_addIfFits 122 = .ok (.bipush 40, 2) := by decide +kernel
theorem dX4_addIfFits_124 : decode cX4_addIfFits 124 = .ok (.isub, 1) := by decide +kernel
theorem dX4_addIfFits_125 : decode cX4_addIfFits 125 = .ok (.laload, 1) := by decide +kernel
theorem dX4_addIfFits_126 : decode cX4_addIfFits 126 = .ok (.land, 1) := by decide +kernel
theorem dX4_addIfFits_127 : decode cX4_addIfFits 127 = .ok (.lstore 6, 2) := by decide +kernel
theorem dX4_addIfFits_129 : decode cX4_addIfFits 129 = .ok (.aload_n 0, 1) := by decide +kernel
theorem dX4_addIfFits_130 : decode cX4_addIfFits 130 = .ok (.getfield 9, 3) := by decide +kernel
theorem dX4_addIfFits_133 : decode cX4_addIfFits 133 = .ok (.iload 4, 2) := by decide +kernel
theorem dX4_addIfFits_135 : decode cX4_addIfFits 135 = .ok (.iload 8, 2) := by decide +kernel
theorem dX4_addIfFits_137 : decode cX4_addIfFits 137 = .ok (.iadd, 1) := by decide +kernel
theorem dX4_addIfFits_138 : decode cX4_addIfFits 138 = .ok (.bipush 40, 2) := by decide +kernel
theorem dX4_addIfFits_140 : decode cX4_addIfFits 140 = .ok (.isub, 1) := by decide +kernel
theorem dX4_addIfFits_141 : decode cX4_addIfFits 141 = .ok (.lload 6, 2) := by decide +kernel
theorem dX4_addIfFits_143 : decode cX4_addIfFits 143 = .ok (.lastore, 1) := by decide +kernel
theorem dX4_addIfFits_144 : decode cX4_addIfFits 144 = .ok (.lload 6, 2) := by decide +kernel
theorem dX4_addIfFits_146 : decode cX4_addIfFits 146 = .ok (.lconst 0, 1) := by decide +kernel
theorem dX4_addIfFits_147 : decode cX4_addIfFits 147 = .ok (.lcmp, 1) := by decide +kernel
theorem dX4_addIfFits_148 : decode cX4_addIfFits 148 = .ok (.ifCond .ne 4, 3) := by decide +kernel
theorem dX4_addIfFits_151 : decode cX4_addIfFits 151 = .ok (.return_, 1) := by decide +kernel
theorem dX4_addIfFits_152 : decode cX4_addIfFits 152 = .ok (.iinc 5 1, 3) := by decide +kernel
theorem dX4_addIfFits_155 : decode cX4_addIfFits 155 = .ok (.goto (-109), 3) := by decide +kernel
theorem dX4_addIfFits_158 : decode cX4_addIfFits 158 = .ok (.aload_n 0, 1) := by decide +kernel
theorem dX4_addIfFits_159 : decode cX4_addIfFits 159 = .ok (.getfield 15, 3) := by decide +kernel
theorem dX4_addIfFits_162 : decode cX4_addIfFits 162 = .ok (.iload_n 1, 1) := by decide +kernel
theorem dX4_addIfFits_163 : decode cX4_addIfFits 163 = .ok (.dup2, 1) := by decide +kernel
theorem dX4_addIfFits_164 : decode cX4_addIfFits 164 = .ok (.iaload, 1) := by decide +kernel
theorem dX4_addIfFits_165 : decode cX4_addIfFits 165 = .ok (.iconst 1, 1) := by decide +kernel
theorem dX4_addIfFits_166 : decode cX4_addIfFits 166 = .ok (.iadd, 1) := by decide +kernel
theorem dX4_addIfFits_167 : decode cX4_addIfFits 167 = .ok (.iastore, 1) := by decide +kernel
theorem dX4_addIfFits_168 : decode cX4_addIfFits 168 = .ok (.return_, 1) := by decide +kernel
theorem dX4_domain_0 : decode cX4_domain 0 = .ok (.aload_n 0, 1) := by decide +kernel
theorem dX4_domain_1 : decode cX4_domain 1 = .ok (.getfield 31, 3) := by decide +kernel
theorem dX4_domain_4 : decode cX4_domain 4 = .ok (.iload_n 1, 1) := by decide +kernel
theorem dX4_domain_5 : decode cX4_domain 5 = .ok (.invokevirtual 124, 3) := by decide +kernel
theorem dX4_domain_8 : decode cX4_domain 8 = .ok (.ifCond .ne 5, 3) := by decide +kernel
theorem dX4_domain_11 : decode cX4_domain 11 = .ok (.lconst 1, 1) := by decide +kernel
theorem dX4_domain_12 : decode cX4_domain 12 = .ok (.lreturn, 1) := by decide +kernel
theorem dX4_domain_13 : decode cX4_domain 13 = .ok (.ldc2_w 101, 3) := by decide +kernel
theorem dX4_domain_16 : decode cX4_domain 16 = .ok (.lstore_n 2, 1) := by decide +kernel
theorem dX4_domain_17 : decode cX4_domain 17 = .ok (.iconst 0, 1) := by decide +kernel
theorem dX4_domain_18 : decode cX4_domain 18 = .ok (.istore 4, 2) := by decide +kernel
theorem dX4_domain_20 : decode cX4_domain 20 = .ok (.iload 4, 2) := by decide +kernel
theorem dX4_domain_22 : decode cX4_domain 22 = .ok (.aload_n 0, 1) := by decide +kernel
theorem dX4_domain_23 : decode cX4_domain 23 = .ok (.getfield 31, 3) := by decide +kernel
theorem dX4_domain_26 : decode cX4_domain 26 = .ok (.invokevirtual 35, 3) := by decide +kernel
theorem dX4_domain_29 : decode cX4_domain 29 = .ok (.if_icmp .ge 75, 3) := by decide +kernel
theorem dX4_domain_32 : decode cX4_domain 32 = .ok (.aload_n 0, 1) := by decide +kernel
theorem dX4_domain_33 : decode cX4_domain 33 = .ok (.getfield 31, 3) := by decide +kernel
theorem dX4_domain_36 : decode cX4_domain 36 = .ok (.iload 4, 2) := by decide +kernel
theorem dX4_domain_38 : decode cX4_domain 38 = .ok (.invokevirtual 127, 3) := by decide +kernel
theorem dX4_domain_41 : decode cX4_domain 41 = .ok (.ifCond .eq 6, 3) := by decide +kernel
theorem dX4_domain_44 : decode cX4_domain 44 = .ok (.goto 54, 3) := by decide +kernel
theorem dX4_domain_47 : decode cX4_domain 47 = .ok (.lconst 0, 1) := by decide +kernel
theorem dX4_domain_48 : decode cX4_domain 48 = .ok (.lstore 5, 2) := by decide +kernel
theorem dX4_domain_50 : decode cX4_domain 50 = .ok (.iconst 0, 1) := by decide +kernel
theorem dX4_domain_51 : decode cX4_domain 51 = .ok (.istore 7, 2) := by decide +kernel
theorem dX4_domain_53 : decode cX4_domain 53 = .ok (.iload 7, 2) := by decide +kernel
theorem dX4_domain_55 : decode cX4_domain 55 = .ok (.aload_n 0, 1) := by decide +kernel
theorem dX4_domain_56 : decode cX4_domain 56 = .ok (.getfield 15, 3) := by decide +kernel
theorem dX4_domain_59 : decode cX4_domain 59 = .ok (.iload 4, 2) := by decide +kernel
theorem dX4_domain_61 : decode cX4_domain 61 = .ok (.iaload, 1) := by decide +kernel
theorem dX4_domain_62 : decode cX4_domain 62 = .ok (.if_icmp .ge 31, 3) := by decide +kernel
theorem dX4_domain_65 : decode cX4_domain 65 = .ok (.lload 5, 2) := by decide +kernel
theorem dX4_domain_67 : decode cX4_domain 67 = .ok (.aload_n 0, 1) := by decide +kernel
theorem dX4_domain_68 : decode cX4_domain 68 = .ok (.getfield 9, 3) := by decide +kernel
theorem dX4_domain_71 : decode cX4_domain 71 = .ok (.iload 4, 2) := by decide +kernel
theorem dX4_domain_73 : decode cX4_domain 73 = .ok (.bipush 120, 2) := by decide +kernel
theorem dX4_domain_75 : decode cX4_domain 75 = .ok (.imul, 1) := by decide +kernel
theorem dX4_domain_76 : decode cX4_domain 76 = .ok (.iload 7, 2) := by decide +kernel
theorem dX4_domain_78 : decode cX4_domain 78 = .ok (.iadd, 1) := by decide +kernel
theorem dX4_domain_79 : decode cX4_domain 79 = .ok (.iconst 3, 1) := by decide +kernel
theorem dX4_domain_80 : decode cX4_domain 80 = .ok (.imul, 1) := by decide +kernel
theorem dX4_domain_81 : decode cX4_domain 81 = .ok (.iload_n 1, 1) := by decide +kernel
theorem dX4_domain_82 : decode cX4_domain 82 = .ok (.iadd, 1) := by decide +kernel
theorem dX4_domain_83 : decode cX4_domain 83 = .ok (.laload, 1) := by decide +kernel
theorem dX4_domain_84 : decode cX4_domain 84 = .ok (.lor, 1) := by decide +kernel
theorem dX4_domain_85 : decode cX4_domain 85 = .ok (.lstore 5, 2) := by decide +kernel
theorem dX4_domain_87 : decode cX4_domain 87 = .ok (.iinc 7 1, 3) := by decide +kernel
theorem dX4_domain_90 : decode cX4_domain 90 = .ok (.goto (-37), 3) := by decide +kernel
theorem dX4_domain_93 : decode cX4_domain 93 = .ok (.lload_n 2, 1) := by decide +kernel
theorem dX4_domain_94 : decode cX4_domain 94 = .ok (.lload 5, 2) := by decide +kernel
theorem dX4_domain_96 : decode cX4_domain 96 = .ok (.land, 1) := by decide +kernel
theorem dX4_domain_97 : decode cX4_domain 97 = .ok (.lstore_n 2, 1) := by decide +kernel
theorem dX4_domain_98 : decode cX4_domain 98 = .ok (.iinc 4 1, 3) := by decide +kernel
theorem dX4_domain_101 : decode cX4_domain 101 = .ok (.goto (-81), 3) := by decide +kernel
theorem dX4_domain_104 : decode cX4_domain 104 = .ok (.lload_n 2, 1) := by decide +kernel
theorem dX4_domain_105 : decode cX4_domain 105 = .ok (.lreturn, 1) := by decide +kernel
theorem dX4_fillRows_0 : decode cX4_fillRows 0 = .ok (.iconst 0, 1) := by decide +kernel
theorem dX4_fillRows_1 : decode cX4_fillRows 1 = .ok (.istore_n 3, 1) := by decide +kernel
theorem dX4_fillRows_2 : decode cX4_fillRows 2 = .ok (.iload_n 3, 1) := by decide +kernel
theorem dX4_fillRows_3 : decode cX4_fillRows 3 = .ok (.aload_n 0, 1) := by decide +kernel
theorem dX4_fillRows_4 : decode cX4_fillRows 4 = .ok (.getfield 31, 3) := by decide +kernel
theorem dX4_fillRows_7 : decode cX4_fillRows 7 = .ok (.invokevirtual 35, 3) := by decide +kernel
theorem dX4_fillRows_10 : decode cX4_fillRows 10 = .ok (.if_icmp .ge 28, 3) := by decide +kernel
theorem dX4_fillRows_13 : decode cX4_fillRows 13 = .ok (.aload_n 0, 1) := by decide +kernel
theorem dX4_fillRows_14 : decode cX4_fillRows 14 = .ok (.getfield 31, 3) := by decide +kernel
theorem dX4_fillRows_17 : decode cX4_fillRows 17 = .ok (.iload_n 3, 1) := by decide +kernel
theorem dX4_fillRows_18 : decode cX4_fillRows 18 = .ok (.iconst 0, 1) := by decide +kernel
theorem dX4_fillRows_19 : decode cX4_fillRows 19 = .ok (.invokevirtual 130, 3) := by decide +kernel
theorem dX4_fillRows_22 : decode cX4_fillRows 22 = .ok (.iload_n 2, 1) := by decide +kernel
theorem dX4_fillRows_23 : decode cX4_fillRows 23 = .ok (.if_icmp .ne 9, 3) := by decide +kernel
theorem dX4_fillRows_26 : decode cX4_fillRows 26 = .ok (.aload_n 0, 1) := by decide +kernel
theorem dX4_fillRows_27 : decode cX4_fillRows 27 = .ok (.iload_n 3, 1) := by decide +kernel
theorem dX4_fillRows_28 : decode cX4_fillRows 28 = .ok (.iload_n 1, 1) := by decide +kernel
theorem dX4_fillRows_29 : decode cX4_fillRows 29 = .ok (.invokevirtual 134, 3) := by decide +kernel
theorem dX4_fillRows_32 : decode cX4_fillRows 32 = .ok (.iinc 3 1, 3) := by decide +kernel
theorem dX4_fillRows_35 : decode cX4_fillRows 35 = .ok (.goto (-33), 3) := by decide +kernel
theorem dX4_fillRows_38 : decode cX4_fillRows 38 = .ok (.return_, 1) := by decide +kernel
theorem dX4_fillRow_0 : decode cX4_fillRow 0 = .ok (.iload_n 1, 1) := by decide +kernel
theorem dX4_fillRow_1 : decode cX4_fillRow 1 = .ok (.bipush 40, 2) := by decide +kernel
theorem dX4_fillRow_3 : decode cX4_fillRow 3 = .ok (.imul, 1) := by decide +kernel
theorem dX4_fillRow_4 : decode cX4_fillRow 4 = .ok (.istore_n 3, 1) := by decide +kernel
theorem dX4_fillRow_5 : decode cX4_fillRow 5 = .ok (.iconst 0, 1) := by decide +kernel
theorem dX4_fillRow_6 : decode cX4_fillRow 6 = .ok (.istore 4, 2) := by decide +kernel
theorem dX4_fillRow_8 : decode cX4_fillRow 8 = .ok (.iload 4, 2) := by decide +kernel
theorem dX4_fillRow_10 : decode cX4_fillRow 10 = .ok (.bipush 40, 2) := by decide +kernel
theorem dX4_fillRow_12 : decode cX4_fillRow 12 = .ok (.if_icmp .ge 19, 3) := by decide +kernel
theorem dX4_fillRow_15 : decode cX4_fillRow 15 = .ok (.aload_n 0, 1) := by decide +kernel
theorem dX4_fillRow_16 : decode cX4_fillRow 16 = .ok (.getfield 19, 3) := by decide +kernel
theorem dX4_fillRow_19 : decode cX4_fillRow 19 = .ok (.iload_n 3, 1) := by decide +kernel
theorem dX4_fillRow_20 : decode cX4_fillRow 20 = .ok (.iload 4, 2) := by decide +kernel
theorem dX4_fillRow_22 : decode cX4_fillRow 22 = .ok (.iadd, 1) := by decide +kernel
theorem dX4_fillRow_23 : decode cX4_fillRow 23 = .ok (.lconst 0, 1) := by decide +kernel
theorem dX4_fillRow_24 : decode cX4_fillRow 24 = .ok (.lastore, 1) := by decide +kernel
theorem dX4_fillRow_25 : decode cX4_fillRow 25 = .ok (.iinc 4 1, 3) := by decide +kernel
theorem dX4_fillRow_28 : decode cX4_fillRow 28 = .ok (.goto (-20), 3) := by decide +kernel
theorem dX4_fillRow_31 : decode cX4_fillRow 31 = .ok (.iconst 0, 1) := by decide +kernel
theorem dX4_fillRow_32 : decode cX4_fillRow 32 = .ok (.istore 4, 2) := by decide +kernel
theorem dX4_fillRow_34 : decode cX4_fillRow 34 = .ok (.iload 4, 2) := by decide +kernel
theorem dX4_fillRow_36 : decode cX4_fillRow 36 = .ok (.aload_n 0, 1) := by decide +kernel
theorem dX4_fillRow_37 : decode cX4_fillRow 37 = .ok (.getfield 15, 3) := by decide +kernel
theorem dX4_fillRow_40 : decode cX4_fillRow 40 = .ok (.iload_n 1, 1) := by decide +kernel
theorem dX4_fillRow_41 : decode cX4_fillRow 41 = .ok (.iaload, 1) := by decide +kernel
theorem dX4_fillRow_42 : decode cX4_fillRow 42 = .ok (.if_icmp .ge 91, 3) := by decide +kernel
theorem dX4_fillRow_45 : decode cX4_fillRow 45 = .ok (.iload_n 1, 1) := by decide +kernel
theorem dX4_fillRow_46 : decode cX4_fillRow 46 = .ok (.bipush 120, 2) := by decide +kernel
theorem dX4_fillRow_48 : decode cX4_fillRow 48 = .ok (.imul, 1) := by decide +kernel
theorem dX4_fillRow_49 : decode cX4_fillRow 49 = .ok (.iload 4, 2) := by decide +kernel
theorem dX4_fillRow_51 : decode cX4_fillRow 51 = .ok (.iadd, 1) := by decide +kernel
theorem dX4_fillRow_52 : decode cX4_fillRow 52 = .ok (.iconst 3, 1) := by decide +kernel
theorem dX4_fillRow_53 : decode cX4_fillRow 53 = .ok (.imul, 1) := by decide +kernel
theorem dX4_fillRow_54 : decode cX4_fillRow 54 = .ok (.istore 5, 2) := by decide +kernel
theorem dX4_fillRow_56 : decode cX4_fillRow 56 = .ok (.aload_n 0, 1) := by decide +kernel
theorem dX4_fillRow_57 : decode cX4_fillRow 57 = .ok (.getfield 9, 3) := by decide +kernel
theorem dX4_fillRow_60 : decode cX4_fillRow 60 = .ok (.iload 5, 2) := by decide +kernel
theorem dX4_fillRow_62 : decode cX4_fillRow 62 = .ok (.laload, 1) := by decide +kernel
theorem dX4_fillRow_63 : decode cX4_fillRow 63 = .ok (.iload_n 2, 1) := by decide +kernel
theorem dX4_fillRow_64 : decode cX4_fillRow 64 = .ok (.invokestatic 84, 3) := by decide +kernel
theorem dX4_fillRow_67 : decode cX4_fillRow 67 = .ok (.ifCond .ne 6, 3) := by decide +kernel
theorem dX4_fillRow_70 : decode cX4_fillRow 70 = .ok (.goto 57, 3) := by decide +kernel
theorem dX4_fillRow_73 : decode cX4_fillRow 73 = .ok (.iconst 0, 1) := by decide +kernel
theorem dX4_fillRow_74 : decode cX4_fillRow 74 = .ok (.istore 6, 2) := by decide +kernel
theorem dX4_fillRow_76 : decode cX4_fillRow 76 = .ok (.iload 6, 2) := by decide +kernel
theorem dX4_fillRow_78 : decode cX4_fillRow 78 = .ok (.bipush 40, 2) := by decide +kernel
theorem dX4_fillRow_80 : decode cX4_fillRow 80 = .ok (.if_icmp .ge 47, 3) := by decide +kernel
theorem dX4_fillRow_83 : decode cX4_fillRow 83 = .ok (.aload_n 0, 1) := by decide +kernel
theorem dX4_fillRow_84 : decode cX4_fillRow 84 = .ok (.getfield 9, 3) := by decide +kernel
theorem dX4_fillRow_87 : decode cX4_fillRow 87 = .ok (.iload 5, 2) := by decide +kernel
theorem dX4_fillRow_89 : decode cX4_fillRow 89 = .ok (.iconst 1, 1) := by decide +kernel
theorem dX4_fillRow_90 : decode cX4_fillRow 90 = .ok (.iadd, 1) := by decide +kernel
theorem dX4_fillRow_91 : decode cX4_fillRow 91 = .ok (.laload, 1) := by decide +kernel
theorem dX4_fillRow_92 : decode cX4_fillRow 92 = .ok (.iload 6, 2) := by decide +kernel
theorem dX4_fillRow_94 : decode cX4_fillRow 94 = .ok (.invokestatic 84, 3) := by decide +kernel
theorem dX4_fillRow_97 : decode cX4_fillRow 97 = .ok (.ifCond .eq 24, 3) := by decide +kernel
theorem dX4_fillRow_100 : decode cX4_fillRow 100 = .ok (.aload_n 0, 1) := by decide +kernel
theorem dX4_fillRow_101 : decode cX4_fillRow 101 = .ok (.getfield 19, 3) := by decide +kernel
theorem dX4_fillRow_104 : decode cX4_fillRow 104 = .ok (.iload_n 3, 1) := by decide +kernel
theorem dX4_fillRow_105 : decode cX4_fillRow 105 = .ok (.iload 6, 2) := by decide +kernel
theorem dX4_fillRow_107 : decode cX4_fillRow 107 = .ok (.iadd, 1) := by decide +kernel
theorem dX4_fillRow_108 : decode cX4_fillRow 108 = .ok (.dup2, 1) := by decide +kernel
theorem dX4_fillRow_109 : decode cX4_fillRow 109 = .ok (.laload, 1) := by decide +kernel
theorem dX4_fillRow_110 : decode cX4_fillRow 110 = .ok (.aload_n 0, 1) := by decide +kernel
theorem dX4_fillRow_111 : decode cX4_fillRow 111 = .ok (.getfield 9, 3) := by decide +kernel
theorem dX4_fillRow_114 : decode cX4_fillRow 114 = .ok (.iload 5, 2) := by decide +kernel
theorem dX4_fillRow_116 : decode cX4_fillRow 116 = .ok (.iconst 2, 1) := by decide +kernel
theorem dX4_fillRow_117 : decode cX4_fillRow 117 = .ok (.iadd, 1) := by decide +kernel
theorem dX4_fillRow_118 : decode cX4_fillRow 118 = .ok (.laload, 1) := by decide +kernel
theorem dX4_fillRow_119 : decode cX4_fillRow 119 = .ok (.lor, 1) := by decide +kernel
theorem dX4_fillRow_120 : decode cX4_fillRow 120 = .ok (.lastore, 1) := by decide +kernel
theorem dX4_fillRow_121 : decode cX4_fillRow 121 = .ok (.iinc 6 1, 3) := by decide +kernel
theorem dX4_fillRow_124 : decode cX4_fillRow 124 = .ok (.goto (-48), 3) := by decide +kernel
theorem dX4_fillRow_127 : decode cX4_fillRow 127 = .ok (.iinc 4 1, 3) := by decide +kernel
theorem dX4_fillRow_130 : decode cX4_fillRow 130 = .ok (.goto (-96), 3) := by decide +kernel
theorem dX4_fillRow_133 : decode cX4_fillRow 133 = .ok (.return_, 1) := by decide +kernel
theorem dX4_answersWith_0 : decode cX4_answersWith 0 = .ok (.aload_n 0, 1) := by decide +kernel
theorem dX4_answersWith_1 : decode cX4_answersWith 1 = .ok (.getfield 22, 3) := by decide +kernel
theorem dX4_answersWith_4 : decode cX4_answersWith 4 = .ok (.iconst 2, 1) := by decide +kernel
theorem dX4_answersWith_5 : decode cX4_answersWith 5 = .ok (.laload, 1) := by decide +kernel
theorem dX4_answersWith_6 : decode cX4_answersWith 6 = .ok (.lstore_n 2, 1) := by decide +kernel
theorem dX4_answersWith_7 : decode cX4_answersWith 7 = .ok (.iconst 0, 1) := by decide +kernel
theorem dX4_answersWith_8 : decode cX4_answersWith 8 = .ok (.istore 4, 2) := by decide +kernel
theorem dX4_answersWith_10 : decode cX4_answersWith 10 = .ok (.iload 4, 2) := by decide +kernel
theorem dX4_answersWith_12 : decode cX4_answersWith 12 = .ok (.aload_n 0, 1) := by decide +kernel
theorem dX4_answersWith_13 : decode cX4_answersWith 13 = .ok (.getfield 31, 3) := by decide +kernel
theorem dX4_answersWith_16 : decode cX4_answersWith 16 = .ok (.invokevirtual 35, 3) := by decide +kernel
theorem dX4_answersWith_19 : decode cX4_answersWith 19 = .ok (.if_icmp .ge 49, 3) := by decide +kernel
theorem dX4_answersWith_22 : decode cX4_answersWith 22 = .ok (.aload_n 0, 1) := by decide +kernel
theorem dX4_answersWith_23 : decode cX4_answersWith 23 = .ok (.getfield 19, 3) := by decide +kernel
theorem dX4_answersWith_26 : decode cX4_answersWith 26 = .ok (.iload 4, 2) := by decide +kernel
theorem dX4_answersWith_28 : decode cX4_answersWith 28 = .ok (.bipush 40, 2) := by decide +kernel
theorem dX4_answersWith_30 : decode cX4_answersWith 30 = .ok (.imul, 1) := by decide +kernel
theorem dX4_answersWith_31 : decode cX4_answersWith 31 = .ok (.iload_n 1, 1) := by decide +kernel
theorem dX4_answersWith_32 : decode cX4_answersWith 32 = .ok (.iadd, 1) := by decide +kernel
theorem dX4_answersWith_33 : decode cX4_answersWith 33 = .ok (.laload, 1) := by decide +kernel
theorem dX4_answersWith_34 : decode cX4_answersWith 34 = .ok (.lstore 5, 2) := by decide +kernel
theorem dX4_answersWith_36 : decode cX4_answersWith 36 = .ok (.lload_n 2, 1) := by decide +kernel
theorem dX4_answersWith_37 : decode cX4_answersWith 37 = .ok (.aload_n 0, 1) := by decide +kernel
theorem dX4_answersWith_38 : decode cX4_answersWith 38 = .ok (.getfield 31, 3) := by decide +kernel
theorem dX4_answersWith_41 : decode cX4_answersWith 41 = .ok (.iload 4, 2) := by decide +kernel
theorem dX4_answersWith_43 : decode cX4_answersWith 43 = .ok (.invokevirtual 127, 3) := by decide +kernel
theorem dX4_answersWith_46 : decode cX4_answersWith 46 = .ok (.ifCond .eq 12, 3) := by decide +kernel
theorem dX4_answersWith_49 : decode cX4_answersWith 49 = .ok (.lload 5, 2) := by decide +kernel
theorem dX4_answersWith_51 : decode cX4_answersWith 51 = .ok (.ldc2_w 138, 3) := by decide +kernel
theorem dX4_answersWith_54 : decode cX4_answersWith 54 = .ok (.lxor, 1) := by decide +kernel
theorem dX4_answersWith_55 : decode cX4_answersWith 55 = .ok (.goto 5, 3) := by decide +kernel
theorem dX4_answersWith_58 : decode cX4_answersWith 58 = .ok (.lload 5, 2) := by decide +kernel
theorem dX4_answersWith_60 : decode cX4_answersWith 60 = .ok (.land, 1) := by decide +kernel
theorem dX4_answersWith_61 : decode cX4_answersWith 61 = .ok (.lstore_n 2, 1) := by decide +kernel
theorem dX4_answersWith_62 : decode cX4_answersWith 62 = .ok (.iinc 4 1, 3) := by decide +kernel
theorem dX4_answersWith_65 : decode cX4_answersWith 65 = .ok (.goto (-55), 3) := by decide +kernel
theorem dX4_answersWith_68 : decode cX4_answersWith 68 = .ok (.lload_n 2, 1) := by decide +kernel
theorem dX4_answersWith_69 : decode cX4_answersWith 69 = .ok (.lreturn, 1) := by decide +kernel
theorem dX4_member_0 : decode cX4_member 0 = .ok (.iload_n 2, 1) := by decide +kernel
theorem dX4_member_1 : decode cX4_member 1 = .ok (.istore_n 3, 1) := by decide +kernel
theorem dX4_member_2 : decode cX4_member 2 = .ok (.iconst 0, 1) := by decide +kernel
theorem dX4_member_3 : decode cX4_member 3 = .ok (.istore 4, 2) := by decide +kernel
theorem dX4_member_5 : decode cX4_member 5 = .ok (.iload 4, 2) := by decide +kernel
theorem dX4_member_7 : decode cX4_member 7 = .ok (.bipush 40, 2) := by decide +kernel
theorem dX4_member_9 : decode cX4_member 9 = .ok (.if_icmp .ge 28, 3) := by decide +kernel
theorem dX4_member_12 : decode cX4_member 12 = .ok (.lload_n 0, 1) := by decide +kernel
theorem dX4_member_13 : decode cX4_member 13 = .ok (.iload 4, 2) := by decide +kernel
theorem dX4_member_15 : decode cX4_member 15 = .ok (.invokestatic 84, 3) := by decide +kernel
theorem dX4_member_18 : decode cX4_member 18 = .ok (.ifCond .eq 13, 3) := by decide +kernel
theorem dX4_member_21 : decode cX4_member 21 = .ok (.iload_n 3, 1) := by decide +kernel
theorem dX4_member_22 : decode cX4_member 22 = .ok (.ifCond .ne 6, 3) := by decide +kernel
theorem dX4_member_25 : decode cX4_member 25 = .ok (.iload 4, 2) := by decide +kernel
theorem dX4_member_27 : decode cX4_member 27 = .ok (.ireturn, 1) := by decide +kernel
theorem dX4_member_28 : decode cX4_member 28 = .ok (.iinc 3 (-1), 3) := by decide +kernel
theorem dX4_member_31 : decode cX4_member 31 = .ok (.iinc 4 1, 3) := by decide +kernel
theorem dX4_member_34 : decode cX4_member 34 = .ok (.goto (-29), 3) := by decide +kernel
theorem dX4_member_37 : decode cX4_member 37 = .ok (.iconst (-1), 1) := by decide +kernel
theorem dX4_member_38 : decode cX4_member 38 = .ok (.ireturn, 1) := by decide +kernel
theorem dX5_init_0 : decode cX5_init 0 = .ok (.aload_n 0, 1) := by decide +kernel
theorem dX5_init_1 : decode cX5_init 1 = .ok (.invokespecial 3, 3) := by decide +kernel
theorem dX5_init_4 : decode cX5_init 4 = .ok (.aload_n 0, 1) := by decide +kernel
theorem dX5_init_5 : decode cX5_init 5 = .ok (.bipush 40, 2) := by decide +kernel
theorem dX5_init_7 : decode cX5_init 7 = .ok (.newarray .int, 2) := by decide +kernel
theorem dX5_init_9 : decode cX5_init 9 = .ok (.putfield 9, 3) := by decide +kernel
theorem dX5_init_12 : decode cX5_init 12 = .ok (.aload_n 0, 1) := by decide +kernel
theorem dX5_init_13 : decode cX5_init 13 = .ok (.bipush 40, 2) := by decide +kernel
theorem dX5_init_15 : decode cX5_init 15 = .ok (.newarray .int, 2) := by decide +kernel
theorem dX5_init_17 : decode cX5_init 17 = .ok (.putfield 15, 3) := by decide +kernel
theorem dX5_init_20 : decode cX5_init 20 = .ok (.aload_n 0, 1) := by decide +kernel
theorem dX5_init_21 : decode cX5_init 21 = .ok (.bipush 40, 2) := by decide +kernel
theorem dX5_init_23 : decode cX5_init 23 = .ok (.newarray .int, 2) := by decide +kernel
theorem dX5_init_25 : decode cX5_init 25 = .ok (.putfield 18, 3) := by decide +kernel
theorem dX5_init_28 : decode cX5_init 28 = .ok (.iconst 0, 1) := by decide +kernel
theorem dX5_init_29 : decode cX5_init 29 = .ok (.istore_n 1, 1) := by decide +kernel
theorem dX5_init_30 : decode cX5_init 30 = .ok (.iload_n 1, 1) := by decide +kernel
theorem dX5_init_31 : decode cX5_init 31 = .ok (.bipush 40, 2) := by decide +kernel
theorem dX5_init_33 : decode cX5_init 33 = .ok (.if_icmp .ge 23, 3) := by decide +kernel
theorem dX5_init_36 : decode cX5_init 36 = .ok (.aload_n 0, 1) := by decide +kernel
theorem dX5_init_37 : decode cX5_init 37 = .ok (.getfield 9, 3) := by decide +kernel
theorem dX5_init_40 : decode cX5_init 40 = .ok (.iload_n 1, 1) := by decide +kernel
theorem dX5_init_41 : decode cX5_init 41 = .ok (.iload_n 1, 1) := by decide +kernel
theorem dX5_init_42 : decode cX5_init 42 = .ok (.iastore, 1) := by decide +kernel
theorem dX5_init_43 : decode cX5_init 43 = .ok (.aload_n 0, 1) := by decide +kernel
theorem dX5_init_44 : decode cX5_init 44 = .ok (.getfield 15, 3) := by decide +kernel
theorem dX5_init_47 : decode cX5_init 47 = .ok (.iload_n 1, 1) := by decide +kernel
theorem dX5_init_48 : decode cX5_init 48 = .ok (.iload_n 1, 1) := by decide +kernel
theorem dX5_init_49 : decode cX5_init 49 = .ok (.iastore, 1) := by decide +kernel
theorem dX5_init_50 : decode cX5_init 50 = .ok (.iinc 1 1, 3) := by decide +kernel
theorem dX5_init_53 : decode cX5_init 53 = .ok (.goto (-23), 3) := by decide +kernel
theorem dX5_init_56 : decode cX5_init 56 = .ok (.return_, 1) := by decide +kernel
theorem dX5_of_0 : decode cX5_of 0 = .ok (.aload_n 0, 1) := by decide +kernel
theorem dX5_of_1 : decode cX5_of 1 = .ok (.getfield 15, 3) := by decide +kernel
theorem dX5_of_4 : decode cX5_of 4 = .ok (.iload_n 1, 1) := by decide +kernel
theorem dX5_of_5 : decode cX5_of 5 = .ok (.iaload, 1) := by decide +kernel
theorem dX5_of_6 : decode cX5_of 6 = .ok (.ireturn, 1) := by decide +kernel
theorem dX5_joins_0 : decode cX5_joins 0 = .ok (.aload_n 0, 1) := by decide +kernel
theorem dX5_joins_1 : decode cX5_joins 1 = .ok (.getfield 21, 3) := by decide +kernel
theorem dX5_joins_4 : decode cX5_joins 4 = .ok (.ireturn, 1) := by decide +kernel
theorem dX5_join_0 : decode cX5_join 0 = .ok (.aload_n 0, 1) := by decide +kernel
theorem dX5_join_1 : decode cX5_join 1 = .ok (.getfield 15, 3) := by decide +kernel
theorem dX5_join_4 : decode cX5_join 4 = .ok (.iload_n 1, 1) := by decide +kernel
theorem dX5_join_5 : decode cX5_join 5 = .ok (.iaload, 1) := by decide +kernel
theorem dX5_join_6 : decode cX5_join 6 = .ok (.aload_n 0, 1) := by decide +kernel
theorem dX5_join_7 : decode cX5_join 7 = .ok (.getfield 15, 3) := by decide +kernel
theorem dX5_join_10 : decode cX5_join 10 = .ok (.iload_n 2, 1) := by decide +kernel
theorem dX5_join_11 : decode cX5_join 11 = .ok (.iaload, 1) := by decide +kernel
theorem dX5_join_12 : decode cX5_join 12 = .ok (.invokestatic 25, 3) := by decide +kernel
theorem dX5_join_15 : decode cX5_join 15 = .ok (.istore_n 3, 1) := by decide +kernel
theorem dX5_join_16 : decode cX5_join 16 = .ok (.aload_n 0, 1) := by decide +kernel
theorem dX5_join_17 : decode cX5_join 17 = .ok (.getfield 15, 3) := by decide +kernel
theorem dX5_join_20 : decode cX5_join 20 = .ok (.iload_n 1, 1) := by decide +kernel
theorem dX5_join_21 : decode cX5_join 21 = .ok (.iaload, 1) := by decide +kernel
theorem dX5_join_22 : decode cX5_join 22 = .ok (.aload_n 0, 1) := by decide +kernel
theorem dX5_join_23 : decode cX5_join 23 = .ok (.getfield 15, 3) := by decide +kernel
theorem dX5_join_26 : decode cX5_join 26 = .ok (.iload_n 2, 1) := by decide +kernel
theorem dX5_join_27 : decode cX5_join 27 = .ok (.iaload, 1) := by decide +kernel
theorem dX5_join_28 : decode cX5_join 28 = .ok (.invokestatic 31, 3) := by decide +kernel
theorem dX5_join_31 : decode cX5_join 31 = .ok (.istore 4, 2) := by decide +kernel
theorem dX5_join_33 : decode cX5_join 33 = .ok (.iload_n 3, 1) := by decide +kernel
theorem dX5_join_34 : decode cX5_join 34 = .ok (.iload 4, 2) := by decide +kernel
theorem dX5_join_36 : decode cX5_join 36 = .ok (.if_icmp .ne 5, 3) := by decide +kernel
theorem dX5_join_39 : decode cX5_join 39 = .ok (.iconst 0, 1) := by decide +kernel
theorem dX5_join_40 : decode cX5_join 40 = .ok (.ireturn, 1) := by decide +kernel
theorem dX5_join_41 : decode cX5_join 41 = .ok (.aload_n 0, 1) := by decide +kernel
theorem dX5_join_42 : decode cX5_join 42 = .ok (.getfield 9, 3) := by decide +kernel
theorem dX5_join_45 : decode cX5_join 45 = .ok (.iload 4, 2) := by decide +kernel
theorem dX5_join_47 : decode cX5_join 47 = .ok (.iload_n 3, 1) := by decide +kernel
theorem dX5_join_48 : decode cX5_join 48 = .ok (.iastore, 1) := by decide +kernel
theorem dX5_join_49 : decode cX5_join 49 = .ok (.aload_n 0, 1) := by decide +kernel
theorem dX5_join_50 : decode cX5_join 50 = .ok (.getfield 18, 3) := by decide +kernel
theorem dX5_join_53 : decode cX5_join 53 = .ok (.aload_n 0, 1) := by decide +kernel
theorem dX5_join_54 : decode cX5_join 54 = .ok (.getfield 21, 3) := by decide +kernel
theorem dX5_join_57 : decode cX5_join 57 = .ok (.iload 4, 2) := by decide +kernel
theorem dX5_join_59 : decode cX5_join 59 = .ok (.iastore, 1) := by decide +kernel
theorem dX5_join_60 : decode cX5_join 60 = .ok (.aload_n 0, 1) := by decide +kernel
theorem dX5_join_61 : decode cX5_join 61 = .ok (.dup, 1) := by decide +kernel
theorem dX5_join_62 : decode cX5_join 62 = .ok (.getfield 21, 3) := by decide +kernel
theorem dX5_join_65 : decode cX5_join 65 = .ok (.iconst 1, 1) := by decide +kernel
theorem dX5_join_66 : decode cX5_join 66 = .ok (.iadd, 1) := by decide +kernel
theorem dX5_join_67 : decode cX5_join 67 = .ok (.putfield 21, 3) := by decide +kernel
theorem dX5_join_70 : decode cX5_join 70 = .ok (.aload_n 0, 1) := by decide +kernel
theorem dX5_join_71 : decode cX5_join 71 = .ok (.invokevirtual 34, 3) := by decide +kernel
theorem dX5_join_74 : decode cX5_join 74 = .ok (.iconst 1, 1) := by decide +kernel
theorem dX5_join_75 : decode cX5_join 75 = .ok (.ireturn, 1) := by decide +kernel
theorem dX5_undo_0 : decode cX5_undo 0 = .ok (.aload_n 0, 1) := by decide +kernel
theorem dX5_undo_1 : decode cX5_undo 1 = .ok (.getfield 21, 3) := by decide +kernel
theorem dX5_undo_4 : decode cX5_undo 4 = .ok (.ifCond .ne 5, 3) := by decide +kernel
theorem dX5_undo_7 : decode cX5_undo 7 = .ok (.iconst 0, 1) := by decide +kernel
theorem dX5_undo_8 : decode cX5_undo 8 = .ok (.ireturn, 1) := by decide +kernel
theorem dX5_undo_9 : decode cX5_undo 9 = .ok (.aload_n 0, 1) := by decide +kernel
theorem dX5_undo_10 : decode cX5_undo 10 = .ok (.dup, 1) := by decide +kernel
theorem dX5_undo_11 : decode cX5_undo 11 = .ok (.getfield 21, 3) := by decide +kernel
theorem dX5_undo_14 : decode cX5_undo 14 = .ok (.iconst 1, 1) := by decide +kernel
theorem dX5_undo_15 : decode cX5_undo 15 = .ok (.isub, 1) := by decide +kernel
theorem dX5_undo_16 : decode cX5_undo 16 = .ok (.putfield 21, 3) := by decide +kernel
theorem dX5_undo_19 : decode cX5_undo 19 = .ok (.aload_n 0, 1) := by decide +kernel
theorem dX5_undo_20 : decode cX5_undo 20 = .ok (.getfield 9, 3) := by decide +kernel
theorem dX5_undo_23 : decode cX5_undo 23 = .ok (.aload_n 0, 1) := by decide +kernel
theorem dX5_undo_24 : decode cX5_undo 24 = .ok (.getfield 18, 3) := by decide +kernel
theorem dX5_undo_27 : decode cX5_undo 27 = .ok (.aload_n 0, 1) := by decide +kernel
theorem dX5_undo_28 : decode cX5_undo 28 = .ok (.getfield 21, 3) := by decide +kernel
theorem dX5_undo_31 : decode cX5_undo 31 = .ok (.iaload, 1) := by decide +kernel
theorem dX5_undo_32 : decode cX5_undo 32 = .ok (.aload_n 0, 1) := by decide +kernel
theorem dX5_undo_33 : decode cX5_undo 33 = .ok (.getfield 18, 3) := by decide +kernel
theorem dX5_undo_36 : decode cX5_undo 36 = .ok (.aload_n 0, 1) := by decide +kernel
theorem dX5_undo_37 : decode cX5_undo 37 = .ok (.getfield 21, 3) := by decide +kernel
theorem dX5_undo_40 : decode cX5_undo 40 = .ok (.iaload, 1) := by decide +kernel
theorem dX5_undo_41 : decode cX5_undo 41 = .ok (.iastore, 1) := by decide +kernel
theorem dX5_undo_42 : decode cX5_undo 42 = .ok (.aload_n 0, 1) := by decide +kernel
theorem dX5_undo_43 : decode cX5_undo 43 = .ok (.invokevirtual 34, 3) := by decide +kernel
theorem dX5_undo_46 : decode cX5_undo 46 = .ok (.iconst 1, 1) := by decide +kernel
theorem dX5_undo_47 : decode cX5_undo 47 = .ok (.ireturn, 1) := by decide +kernel
theorem dX5_renewLeast_0 : decode cX5_renewLeast 0 = .ok (.iconst 0, 1) := by decide +kernel
theorem dX5_renewLeast_1 : decode cX5_renewLeast 1 = .ok (.istore_n 1, 1) := by decide +kernel
theorem dX5_renewLeast_2 : decode cX5_renewLeast 2 = .ok (.iload_n 1, 1) := by decide +kernel
theorem dX5_renewLeast_3 : decode cX5_renewLeast 3 = .ok (.bipush 40, 2) := by decide +kernel
theorem dX5_renewLeast_5 : decode cX5_renewLeast 5 = .ok (.if_icmp .ge 37, 3) := by decide +kernel
theorem dX5_renewLeast_8 : decode cX5_renewLeast 8 = .ok (.aload_n 0, 1) := by decide +kernel
theorem dX5_renewLeast_9 : decode cX5_renewLeast 9 = .ok (.getfield 9, 3) := by decide +kernel
theorem dX5_renewLeast_12 : decode cX5_renewLeast 12 = .ok (.iload_n 1, 1) := by decide +kernel
theorem dX5_renewLeast_13 : decode cX5_renewLeast 13 = .ok (.iaload, 1) := by decide +kernel
theorem dX5_renewLeast_14 : decode cX5_renewLeast 14 = .ok (.istore_n 2, 1) := by decide +kernel
theorem dX5_renewLeast_15 : decode cX5_renewLeast 15 = .ok (.aload_n 0, 1) := by decide +kernel
theorem dX5_renewLeast_16 : decode cX5_renewLeast 16 = .ok (.getfield 15, 3) := by decide +kernel
theorem dX5_renewLeast_19 : decode cX5_renewLeast 19 = .ok (.iload_n 1, 1) := by decide +kernel
theorem dX5_renewLeast_20 : decode cX5_renewLeast 20 = .ok (.iload_n 2, 1) := by decide +kernel
theorem dX5_renewLeast_21 : decode cX5_renewLeast 21 = .ok (.iload_n 1, 1) := by decide +kernel
theorem dX5_renewLeast_22 : decode cX5_renewLeast 22 = .ok (.if_icmp .ne 7, 3) := by decide +kernel
theorem dX5_renewLeast_25 : decode cX5_renewLeast 25 = .ok (.iload_n 1, 1) := by decide +kernel
theorem dX5_renewLeast_26 : decode cX5_renewLeast 26 = .ok (.goto 9, 3) := by decide +kernel
theorem dX5_renewLeast_29 : decode cX5_renewLeast 29 = .ok (.aload_n 0, 1) := by decide +kernel
theorem dX5_renewLeast_30 : decode cX5_renewLeast 30 = .ok (.getfield 15, 3) := by decide +kernel
theorem dX5_renewLeast_33 : decode cX5_renewLeast 33 = .ok (.iload_n 2, 1) := by decide +kernel
theorem dX5_renewLeast_34 : decode cX5_renewLeast 34 = .ok (.iaload, 1) := by decide +kernel
theorem dX5_renewLeast_35 : decode cX5_renewLeast 35 = .ok (.iastore, 1) := by decide +kernel
theorem dX5_renewLeast_36 : decode cX5_renewLeast 36 = .ok (.iinc 1 1, 3) := by decide +kernel
theorem dX5_renewLeast_39 : decode cX5_renewLeast 39 = .ok (.goto (-37), 3) := by decide +kernel
theorem dX5_renewLeast_42 : decode cX5_renewLeast 42 = .ok (.return_, 1) := by decide +kernel
theorem dX6_init_0 : decode cX6_init 0 = .ok (.aload_n 0, 1) := by decide +kernel
theorem dX6_init_1 : decode cX6_init 1 = .ok (.invokespecial 3, 3) := by decide +kernel
theorem dX6_init_4 : decode cX6_init 4 = .ok (.aload_n 0, 1) := by decide +kernel
theorem dX6_init_5 : decode cX6_init 5 = .ok (.bipush 6, 2) := by decide +kernel
theorem dX6_init_7 : decode cX6_init 7 = .ok (.newarray .int, 2) := by decide +kernel
theorem dX6_init_9 : decode cX6_init 9 = .ok (.putfield 9, 3) := by decide +kernel
theorem dX6_init_12 : decode cX6_init 12 = .ok (.aload_n 0, 1) := by decide +kernel
theorem dX6_init_13 : decode cX6_init 13 = .ok (.bipush 6, 2) := by decide +kernel
theorem dX6_init_15 : decode cX6_init 15 = .ok (.newarray .boolean, 2) := by decide +kernel
theorem dX6_init_17 : decode cX6_init 17 = .ok (.putfield 15, 3) := by decide +kernel
theorem dX6_init_20 : decode cX6_init 20 = .ok (.aload_n 0, 1) := by decide +kernel
theorem dX6_init_21 : decode cX6_init 21 = .ok (.bipush 6, 2) := by decide +kernel
theorem dX6_init_23 : decode cX6_init 23 = .ok (.newarray .int, 2) := by decide +kernel
theorem dX6_init_25 : decode cX6_init 25 = .ok (.putfield 19, 3) := by decide +kernel
theorem dX6_init_28 : decode cX6_init 28 = .ok (.aload_n 0, 1) := by decide +kernel
theorem dX6_init_29 : decode cX6_init 29 = .ok (.bipush 6, 2) := by decide +kernel
theorem dX6_init_31 : decode cX6_init 31 = .ok (.newarray .int, 2) := by decide +kernel
theorem dX6_init_33 : decode cX6_init 33 = .ok (.putfield 22, 3) := by decide +kernel
theorem dX6_init_36 : decode cX6_init 36 = .ok (.aload_n 0, 1) := by decide +kernel
theorem dX6_init_37 : decode cX6_init 37 = .ok (.bipush 24, 2) := by decide +kernel
theorem dX6_init_39 : decode cX6_init 39 = .ok (.newarray .int, 2) := by decide +kernel
theorem dX6_init_41 : decode cX6_init 41 = .ok (.putfield 25, 3) := by decide +kernel
theorem dX6_init_44 : decode cX6_init 44 = .ok (.aload_n 0, 1) := by decide +kernel
theorem dX6_init_45 : decode cX6_init 45 = .ok (.bipush 24, 2) := by decide +kernel
theorem dX6_init_47 : decode cX6_init 47 = .ok (.newarray .int, 2) := by decide +kernel
theorem dX6_init_49 : decode cX6_init 49 = .ok (.putfield 28, 3) := by decide +kernel
theorem dX6_init_52 : decode cX6_init 52 = .ok (.return_, 1) := by decide +kernel
theorem dX6_clear_0 : decode cX6_clear 0 = .ok (.aload_n 0, 1) := by decide +kernel
theorem dX6_clear_1 : decode cX6_clear 1 = .ok (.iconst 0, 1) := by decide +kernel
theorem dX6_clear_2 : decode cX6_clear 2 = .ok (.putfield 31, 3) := by decide +kernel
theorem dX6_clear_5 : decode cX6_clear 5 = .ok (.aload_n 0, 1) := by decide +kernel
theorem dX6_clear_6 : decode cX6_clear 6 = .ok (.iconst 0, 1) := by decide +kernel
theorem dX6_clear_7 : decode cX6_clear 7 = .ok (.putfield 35, 3) := by decide +kernel
theorem dX6_clear_10 : decode cX6_clear 10 = .ok (.return_, 1) := by decide +kernel
theorem dX6_addAtom_0 : decode cX6_addAtom 0 = .ok (.aload_n 0, 1) := by decide +kernel
theorem dX6_addAtom_1 : decode cX6_addAtom 1 = .ok (.getfield 31, 3) := by decide +kernel
theorem dX6_addAtom_4 : decode cX6_addAtom 4 = .ok (.bipush 6, 2) := by decide +kernel
theorem dX6_addAtom_6 : decode cX6_addAtom 6 = .ok (.if_icmp .lt 5, 3) := by decide +kernel
theorem dX6_addAtom_9 : decode cX6_addAtom 9 = .ok (.iconst 0, 1) := by decide +kernel
theorem dX6_addAtom_10 : decode cX6_addAtom 10 = .ok (.ireturn, 1) := by decide +kernel
theorem dX6_addAtom_11 : decode cX6_addAtom 11 = .ok (.aload_n 0, 1) := by decide +kernel
theorem dX6_addAtom_12 : decode cX6_addAtom 12 = .ok (.getfield 9, 3) := by decide +kernel
theorem dX6_addAtom_15 : decode cX6_addAtom 15 = .ok (.aload_n 0, 1) := by decide +kernel
theorem dX6_addAtom_16 : decode cX6_addAtom 16 = .ok (.getfield 31, 3) := by decide +kernel
theorem dX6_addAtom_19 : decode cX6_addAtom 19 = .ok (.iload_n 1, 1) := by decide +kernel
theorem dX6_addAtom_20 : decode cX6_addAtom 20 = .ok (.iastore, 1) := by decide +kernel
theorem dX6_addAtom_21 : decode cX6_addAtom 21 = .ok (.aload_n 0, 1) := by decide +kernel
theorem dX6_addAtom_22 : decode cX6_addAtom 22 = .ok (.getfield 15, 3) := by decide +kernel
theorem dX6_addAtom_25 : decode cX6_addAtom 25 = .ok (.aload_n 0, 1) := by decide +kernel
theorem dX6_addAtom_26 : decode cX6_addAtom 26 = .ok (.getfield 31, 3) := by decide +kernel
theorem dX6_addAtom_29 : decode cX6_addAtom 29 = .ok (.iload_n 2, 1) := by decide +kernel
theorem dX6_addAtom_30 : decode cX6_addAtom 30 = .ok (.bastore, 1) := by decide +kernel
theorem dX6_addAtom_31 : decode cX6_addAtom 31 = .ok (.aload_n 0, 1) := by decide +kernel
theorem dX6_addAtom_32 : decode cX6_addAtom 32 = .ok (.getfield 19, 3) := by decide +kernel
theorem dX6_addAtom_35 : decode cX6_addAtom 35 = .ok (.aload_n 0, 1) := by decide +kernel
theorem dX6_addAtom_36 : decode cX6_addAtom 36 = .ok (.getfield 31, 3) := by decide +kernel
theorem dX6_addAtom_39 : decode cX6_addAtom 39 = .ok (.iconst 0, 1) := by decide +kernel
theorem dX6_addAtom_40 : decode cX6_addAtom 40 = .ok (.iastore, 1) := by decide +kernel
theorem dX6_addAtom_41 : decode cX6_addAtom 41 = .ok (.aload_n 0, 1) := by decide +kernel
theorem dX6_addAtom_42 : decode cX6_addAtom 42 = .ok (.getfield 22, 3) := by decide +kernel
theorem dX6_addAtom_45 : decode cX6_addAtom 45 = .ok (.aload_n 0, 1) := by decide +kernel
theorem dX6_addAtom_46 : decode cX6_addAtom 46 = .ok (.getfield 31, 3) := by decide +kernel
theorem dX6_addAtom_49 : decode cX6_addAtom 49 = .ok (.iconst 0, 1) := by decide +kernel
theorem dX6_addAtom_50 : decode cX6_addAtom 50 = .ok (.iastore, 1) := by decide +kernel
theorem dX6_addAtom_51 : decode cX6_addAtom 51 = .ok (.aload_n 0, 1) := by decide +kernel
theorem dX6_addAtom_52 : decode cX6_addAtom 52 = .ok (.dup, 1) := by decide +kernel
theorem dX6_addAtom_53 : decode cX6_addAtom 53 = .ok (.getfield 31, 3) := by decide +kernel
theorem dX6_addAtom_56 : decode cX6_addAtom 56 = .ok (.iconst 1, 1) := by decide +kernel
theorem dX6_addAtom_57 : decode cX6_addAtom 57 = .ok (.iadd, 1) := by decide +kernel
theorem dX6_addAtom_58 : decode cX6_addAtom 58 = .ok (.putfield 31, 3) := by decide +kernel
theorem dX6_addAtom_61 : decode cX6_addAtom 61 = .ok (.iconst 1, 1) := by decide +kernel
theorem dX6_addAtom_62 : decode cX6_addAtom 62 = .ok (.ireturn, 1) := by decide +kernel
theorem dX6_addPart_0 : decode cX6_addPart 0 = .ok (.aload_n 0, 1) := by decide +kernel
theorem dX6_addPart_1 : decode cX6_addPart 1 = .ok (.getfield 31, 3) := by decide +kernel
theorem dX6_addPart_4 : decode cX6_addPart 4 = .ok (.iconst 1, 1) := by decide +kernel
theorem dX6_addPart_5 : decode cX6_addPart 5 = .ok (.isub, 1) := by decide +kernel
theorem dX6_addPart_6 : decode cX6_addPart 6 = .ok (.istore_n 3, 1) := by decide +kernel
theorem dX6_addPart_7 : decode cX6_addPart 7 = .ok (.iload_n 3, 1) := by decide +kernel
theorem dX6_addPart_8 : decode cX6_addPart 8 = .ok (.ifCond .lt 13, 3) := by decide +kernel
theorem dX6_addPart_11 : decode cX6_addPart 11 = .ok (.aload_n 0, 1) := by decide +kernel
theorem dX6_addPart_12 : decode cX6_addPart 12 = .ok (.getfield 19, 3) := by decide +kernel
theorem dX6_addPart_15 : decode cX6_addPart 15 = .ok (.iload_n 3, 1) := by decide +kernel
theorem dX6_addPart_16 : decode cX6_addPart 16 = .ok (.iaload, 1) := by decide +kernel
theorem dX6_addPart_17 : decode cX6_addPart 17 = .ok (.iconst 4, 1) := by decide +kernel
theorem dX6_addPart_18 : decode cX6_addPart 18 = .ok (.if_icmp .lt 5, 3) := by decide +kernel
theorem dX6_addPart_21 : decode cX6_addPart 21 = .ok (.iconst 0, 1) := by decide +kernel
theorem dX6_addPart_22 : decode cX6_addPart 22 = .ok (.ireturn, 1) := by decide +kernel
theorem dX6_addPart_23 : decode cX6_addPart 23 = .ok (.iload_n 2, 1) := by decide +kernel
theorem dX6_addPart_24 : decode cX6_addPart 24 = .ok (.bipush 40, 2) := by decide +kernel
theorem dX6_addPart_26 : decode cX6_addPart 26 = .ok (.if_icmp .lt 54, 3) := by decide +kernel
theorem dX6_addPart_29 : decode cX6_addPart 29 = .ok (.iconst 1, 1) := by decide +kernel
theorem dX6_addPart_30 : decode cX6_addPart 30 = .ok (.iload_n 2, 1) := by decide +kernel
theorem dX6_addPart_31 : decode cX6_addPart 31 = .ok (.bipush 40, 2) := by decide +kernel
theorem dX6_addPart_33 : decode cX6_addPart 33 = .ok (.isub, 1) := by decide +kernel
theorem dX6_addPart_34 : decode cX6_addPart 34 = .ok (.ishl, 1) := by decide +kernel
theorem dX6_addPart_35 : decode cX6_addPart 35 = .ok (.istore 4, 2) := by decide +kernel
theorem dX6_addPart_37 : decode cX6_addPart 37 = .ok (.aload_n 0, 1) := by decide +kernel
theorem dX6_addPart_38 : decode cX6_addPart 38 = .ok (.getfield 15, 3) := by decide +kernel
theorem dX6_addPart_41 : decode cX6_addPart 41 = .ok (.iload_n 3, 1) := by decide +kernel
theorem dX6_addPart_42 : decode cX6_addPart 42 = .ok (.baload, 1) := by decide +kernel
theorem dX6_addPart_43 : decode cX6_addPart 43 = .ok (.ifCond .eq 15, 3) := by decide +kernel
theorem dX6_addPart_46 : decode cX6_addPart 46 = .ok (.aload_n 0, 1) := by decide +kernel
theorem dX6_addPart_47 : decode cX6_addPart 47 = .ok (.getfield 35, 3) := by decide +kernel
theorem dX6_addPart_50 : decode cX6_addPart 50 = .ok (.iload 4, 2) := by decide +kernel
theorem dX6_addPart_52 : decode cX6_addPart 52 = .ok (.iand, 1) := by decide +kernel
theorem dX6_addPart_53 : decode cX6_addPart 53 = .ok (.ifCond .ne 5, 3) := by decide +kernel
theorem dX6_addPart_56 : decode cX6_addPart 56 = .ok (.iconst 0, 1) := by decide +kernel
theorem dX6_addPart_57 : decode cX6_addPart 57 = .ok (.ireturn, 1) := by decide +kernel
theorem dX6_addPart_58 : decode cX6_addPart 58 = .ok (.aload_n 0, 1) := by decide +kernel
theorem dX6_addPart_59 : decode cX6_addPart 59 = .ok (.dup, 1) := by decide +kernel
theorem dX6_addPart_60 : decode cX6_addPart 60 = .ok (.getfield 35, 3) := by decide +kernel
theorem dX6_addPart_63 : decode cX6_addPart 63 = .ok (.iload 4, 2) := by decide +kernel
theorem dX6_addPart_65 : decode cX6_addPart 65 = .ok (.ior, 1) := by decide +kernel
theorem dX6_addPart_66 : decode cX6_addPart 66 = .ok (.putfield 35, 3) := by decide +kernel
theorem dX6_addPart_69 : decode cX6_addPart 69 = .ok (.aload_n 0, 1) := by decide +kernel
theorem dX6_addPart_70 : decode cX6_addPart 70 = .ok (.getfield 22, 3) := by decide +kernel
theorem dX6_addPart_73 : decode cX6_addPart 73 = .ok (.iload_n 3, 1) := by decide +kernel
theorem dX6_addPart_74 : decode cX6_addPart 74 = .ok (.dup2, 1) := by decide +kernel
theorem dX6_addPart_75 : decode cX6_addPart 75 = .ok (.iaload, 1) := by decide +kernel
theorem dX6_addPart_76 : decode cX6_addPart 76 = .ok (.iload 4, 2) := by decide +kernel
theorem dX6_addPart_78 : decode cX6_addPart 78 = .ok (.ior, 1) := by decide +kernel
theorem dX6_addPart_79 : decode cX6_addPart 79 = .ok (.iastore, 1) := by decide +kernel
theorem dX6_addPart_80 : decode cX6_addPart 80 = .ok (.iload_n 3, 1) := by decide +kernel
theorem dX6_addPart_81 : decode cX6_addPart 81 = .ok (.iconst 4, 1) := by decide +kernel
theorem dX6_addPart_82 : decode cX6_addPart 82 = .ok (.imul, 1) := by decide +kernel
theorem dX6_addPart_83 : decode cX6_addPart 83 = .ok (.aload_n 0, 1) := by decide +kernel
theorem dX6_addPart_84 : decode cX6_addPart 84 = .ok (.getfield 19, 3) := by decide +kernel
theorem dX6_addPart_87 : decode cX6_addPart 87 = .ok (.iload_n 3, 1) := by decide +kernel
theorem dX6_addPart_88 : decode cX6_addPart 88 = .ok (.iaload, 1) := by decide +kernel
theorem dX6_addPart_89 : decode cX6_addPart 89 = .ok (.iadd, 1) := by decide +kernel
theorem dX6_addPart_90 : decode cX6_addPart 90 = .ok (.istore 4, 2) := by decide +kernel
theorem dX6_addPart_92 : decode cX6_addPart 92 = .ok (.aload_n 0, 1) := by decide +kernel
theorem dX6_addPart_93 : decode cX6_addPart 93 = .ok (.getfield 25, 3) := by decide +kernel
theorem dX6_addPart_96 : decode cX6_addPart 96 = .ok (.iload 4, 2) := by decide +kernel
theorem dX6_addPart_98 : decode cX6_addPart 98 = .ok (.iload_n 1, 1) := by decide +kernel
theorem dX6_addPart_99 : decode cX6_addPart 99 = .ok (.iastore, 1) := by decide +kernel
theorem dX6_addPart_100 : decode cX6_addPart 100 = .ok (.aload_n 0, 1) := by decide +kernel
theorem dX6_addPart_101 : decode cX6_addPart 101 = .ok (.getfield 28, 3) := by decide +kernel
theorem dX6_addPart_104 : decode cX6_addPart 104 = .ok (.iload 4, 2) := by decide +kernel
theorem dX6_addPart_106 : decode cX6_addPart 106 = .ok (.iload_n 2, 1) := by decide +kernel
theorem dX6_addPart_107 : decode cX6_addPart 107 = .ok (.iastore, 1) := by decide +kernel
theorem dX6_addPart_108 : decode cX6_addPart 108 = .ok (.aload_n 0, 1) := by decide +kernel
theorem dX6_addPart_109 : decode cX6_addPart 109 = .ok (.getfield 19, 3) := by decide +kernel
theorem dX6_addPart_112 : decode cX6_addPart 112 = .ok (.iload_n 3, 1) := by decide +kernel
theorem dX6_addPart_113 : decode cX6_addPart 113 = .ok (.dup2, 1) := by decide +kernel
theorem dX6_addPart_114 : decode cX6_addPart 114 = .ok (.iaload, 1) := by decide +kernel
theorem dX6_addPart_115 : decode cX6_addPart 115 = .ok (.iconst 1, 1) := by decide +kernel
theorem dX6_addPart_116 : decode cX6_addPart 116 = .ok (.iadd, 1) := by decide +kernel
theorem dX6_addPart_117 : decode cX6_addPart 117 = .ok (.iastore, 1) := by decide +kernel
theorem dX6_addPart_118 : decode cX6_addPart 118 = .ok (.iconst 1, 1) := by decide +kernel
theorem dX6_addPart_119 : decode cX6_addPart 119 = .ok (.ireturn, 1) := by decide +kernel
theorem dX6_atoms_0 : decode cX6_atoms 0 = .ok (.aload_n 0, 1) := by decide +kernel
theorem dX6_atoms_1 : decode cX6_atoms 1 = .ok (.getfield 31, 3) := by decide +kernel
theorem dX6_atoms_4 : decode cX6_atoms 4 = .ok (.ireturn, 1) := by decide +kernel
theorem dX6_variables_0 : decode cX6_variables 0 = .ok (.aload_n 0, 1) := by decide +kernel
theorem dX6_variables_1 : decode cX6_variables 1 = .ok (.getfield 35, 3) := by decide +kernel
theorem dX6_variables_4 : decode cX6_variables 4 = .ok (.invokestatic 38, 3) := by decide +kernel
theorem dX6_variables_7 : decode cX6_variables 7 = .ok (.ireturn, 1) := by decide +kernel
theorem dX6_uses_0 : decode cX6_uses 0 = .ok (.aload_n 0, 1) := by decide +kernel
theorem dX6_uses_1 : decode cX6_uses 1 = .ok (.getfield 35, 3) := by decide +kernel
theorem dX6_uses_4 : decode cX6_uses 4 = .ok (.iload_n 1, 1) := by decide +kernel
theorem dX6_uses_5 : decode cX6_uses 5 = .ok (.iushr, 1) := by decide +kernel
theorem dX6_uses_6 : decode cX6_uses 6 = .ok (.iconst 1, 1) := by decide +kernel
theorem dX6_uses_7 : decode cX6_uses 7 = .ok (.iand, 1) := by decide +kernel
theorem dX6_uses_8 : decode cX6_uses 8 = .ok (.ifCond .eq 7, 3) := by decide +kernel
theorem dX6_uses_11 : decode cX6_uses 11 = .ok (.iconst 1, 1) := by decide +kernel
theorem dX6_uses_12 : decode cX6_uses 12 = .ok (.goto 4, 3) := by decide +kernel
theorem dX6_uses_15 : decode cX6_uses 15 = .ok (.iconst 0, 1) := by decide +kernel
theorem dX6_uses_16 : decode cX6_uses 16 = .ok (.ireturn, 1) := by decide +kernel
theorem dX6_atomUses_0 : decode cX6_atomUses 0 = .ok (.aload_n 0, 1) := by decide +kernel
theorem dX6_atomUses_1 : decode cX6_atomUses 1 = .ok (.getfield 22, 3) := by decide +kernel
theorem dX6_atomUses_4 : decode cX6_atomUses 4 = .ok (.iload_n 1, 1) := by decide +kernel
theorem dX6_atomUses_5 : decode cX6_atomUses 5 = .ok (.iaload, 1) := by decide +kernel
theorem dX6_atomUses_6 : decode cX6_atomUses 6 = .ok (.iload_n 2, 1) := by decide +kernel
theorem dX6_atomUses_7 : decode cX6_atomUses 7 = .ok (.iushr, 1) := by decide +kernel
theorem dX6_atomUses_8 : decode cX6_atomUses 8 = .ok (.iconst 1, 1) := by decide +kernel
theorem dX6_atomUses_9 : decode cX6_atomUses 9 = .ok (.iand, 1) := by decide +kernel
theorem dX6_atomUses_10 : decode cX6_atomUses 10 = .ok (.ifCond .eq 7, 3) := by decide +kernel
theorem dX6_atomUses_13 : decode cX6_atomUses 13 = .ok (.iconst 1, 1) := by decide +kernel
theorem dX6_atomUses_14 : decode cX6_atomUses 14 = .ok (.goto 4, 3) := by decide +kernel
theorem dX6_atomUses_17 : decode cX6_atomUses 17 = .ok (.iconst 0, 1) := by decide +kernel
theorem dX6_atomUses_18 : decode cX6_atomUses 18 = .ok (.ireturn, 1) := by decide +kernel
theorem dX6_kind_0 : decode cX6_kind 0 = .ok (.aload_n 0, 1) := by decide +kernel
theorem dX6_kind_1 : decode cX6_kind 1 = .ok (.getfield 9, 3) := by decide +kernel
theorem dX6_kind_4 : decode cX6_kind 4 = .ok (.iload_n 1, 1) := by decide +kernel
theorem dX6_kind_5 : decode cX6_kind 5 = .ok (.iaload, 1) := by decide +kernel
theorem dX6_kind_6 : decode cX6_kind 6 = .ok (.ireturn, 1) := by decide +kernel
theorem dX6_isNot_0 : decode cX6_isNot 0 = .ok (.aload_n 0, 1) := by decide +kernel
theorem dX6_isNot_1 : decode cX6_isNot 1 = .ok (.getfield 15, 3) := by decide +kernel
theorem dX6_isNot_4 : decode cX6_isNot 4 = .ok (.iload_n 1, 1) := by decide +kernel
theorem dX6_isNot_5 : decode cX6_isNot 5 = .ok (.baload, 1) := by decide +kernel
theorem dX6_isNot_6 : decode cX6_isNot 6 = .ok (.ireturn, 1) := by decide +kernel
theorem dX6_parts_0 : decode cX6_parts 0 = .ok (.aload_n 0, 1) := by decide +kernel
theorem dX6_parts_1 : decode cX6_parts 1 = .ok (.getfield 19, 3) := by decide +kernel
theorem dX6_parts_4 : decode cX6_parts 4 = .ok (.iload_n 1, 1) := by decide +kernel
theorem dX6_parts_5 : decode cX6_parts 5 = .ok (.iaload, 1) := by decide +kernel
theorem dX6_parts_6 : decode cX6_parts 6 = .ok (.ireturn, 1) := by decide +kernel
theorem dX6_role_0 : decode cX6_role 0 = .ok (.aload_n 0, 1) := by decide +kernel
theorem dX6_role_1 : decode cX6_role 1 = .ok (.getfield 25, 3) := by decide +kernel
theorem dX6_role_4 : decode cX6_role 4 = .ok (.iload_n 1, 1) := by decide +kernel
theorem dX6_role_5 : decode cX6_role 5 = .ok (.iconst 4, 1) := by decide +kernel
theorem dX6_role_6 : decode cX6_role 6 = .ok (.imul, 1) := by decide +kernel
theorem dX6_role_7 : decode cX6_role 7 = .ok (.iload_n 2, 1) := by decide +kernel
theorem dX6_role_8 : decode cX6_role 8 = .ok (.iadd, 1) := by decide +kernel
theorem dX6_role_9 : decode cX6_role 9 = .ok (.iaload, 1) := by decide +kernel
theorem dX6_role_10 : decode cX6_role 10 = .ok (.ireturn, 1) := by decide +kernel
theorem dX6_term_0 : decode cX6_term 0 = .ok (.aload_n 0, 1) := by decide +kernel
theorem dX6_term_1 : decode cX6_term 1 = .ok (.getfield 28, 3) := by decide +kernel
theorem dX6_term_4 : decode cX6_term 4 = .ok (.iload_n 1, 1) := by decide +kernel
theorem dX6_term_5 : decode cX6_term 5 = .ok (.iconst 4, 1) := by decide +kernel
theorem dX6_term_6 : decode cX6_term 6 = .ok (.imul, 1) := by decide +kernel
theorem dX6_term_7 : decode cX6_term 7 = .ok (.iload_n 2, 1) := by decide +kernel
theorem dX6_term_8 : decode cX6_term 8 = .ok (.iadd, 1) := by decide +kernel
theorem dX6_term_9 : decode cX6_term 9 = .ok (.iaload, 1) := by decide +kernel
theorem dX6_term_10 : decode cX6_term 10 = .ok (.ireturn, 1) := by decide +kernel
theorem dX7_init_0 : decode cX7_init 0 = .ok (.aload_n 0, 1) := by decide +kernel
theorem dX7_init_1 : decode cX7_init 1 = .ok (.invokespecial 3, 3) := by decide +kernel
theorem dX7_init_4 : decode cX7_init 4 = .ok (.return_, 1) := by decide +kernel
theorem dX7_begin_0 : decode cX7_begin 0 = .ok (.aload_n 0, 1) := by decide +kernel
theorem dX7_begin_1 : decode cX7_begin 1 = .ok (.getfield 9, 3) := by decide +kernel
theorem dX7_begin_4 : decode cX7_begin 4 = .ok (.ireturn, 1) := by decide +kernel
theorem dX7_read_0 : decode cX7_read 0 = .ok (.aload_n 0, 1) := by decide +kernel
theorem dX7_read_1 : decode cX7_read 1 = .ok (.iconst 0, 1) := by decide +kernel
theorem dX7_read_2 : decode cX7_read 2 = .ok (.putfield 15, 3) := by decide +kernel
theorem dX7_read_5 : decode cX7_read 5 = .ok (.aload_n 2, 1) := by decide +kernel
theorem dX7_read_6 : decode cX7_read 6 = .ok (.invokevirtual 18, 3) := by decide +kernel
theorem dX7_read_9 : decode cX7_read 9 = .ok (.iconst 0, 1) := by decide +kernel
theorem dX7_read_10 : decode cX7_read 10 = .ok (.istore_n 3, 1) := by decide +kernel
theorem dX7_read_11 : decode cX7_read 11 = .ok (.iload_n 3, 1) := by decide +kernel
theorem dX7_read_12 : decode cX7_read 12 = .ok (.bipush 6, 2) := by decide +kernel
theorem dX7_read_14 : decode cX7_read 14 = .ok (.if_icmp .ge 48, 3) := by decide +kernel
theorem dX7_read_17 : decode cX7_read 17 = .ok (.aload_n 0, 1) := by decide +kernel
theorem dX7_read_18 : decode cX7_read 18 = .ok (.aload_n 1, 1) := by decide +kernel
theorem dX7_read_19 : decode cX7_read 19 = .ok (.aload_n 2, 1) := by decide +kernel
theorem dX7_read_20 : decode cX7_read 20 = .ok (.invokevirtual 23, 3) := by decide +kernel
theorem dX7_read_23 : decode cX7_read 23 = .ok (.ifCond .ne 5, 3) := by decide +kernel
theorem dX7_read_26 : decode cX7_read 26 = .ok (.iconst 0, 1) := by decide +kernel
theorem dX7_read_27 : decode cX7_read 27 = .ok (.ireturn, 1) := by decide +kernel
theorem dX7_read_28 : decode cX7_read 28 = .ok (.aload_n 0, 1) := by decide +kernel
theorem dX7_read_29 : decode cX7_read 29 = .ok (.aload_n 1, 1) := by decide +kernel
theorem dX7_read_30 : decode cX7_read 30 = .ok (.invokevirtual 27, 3) := by decide +kernel
theorem dX7_read_33 : decode cX7_read 33 = .ok (.aload_n 0, 1) := by decide +kernel
theorem dX7_read_34 : decode cX7_read 34 = .ok (.getfield 31, 3) := by decide +kernel
theorem dX7_read_37 : decode cX7_read 37 = .ok (.bipush 44, 2) := by decide +kernel
theorem dX7_read_39 : decode cX7_read 39 = .ok (.if_icmp .eq 17, 3) := by decide +kernel
theorem dX7_read_42 : decode cX7_read 42 = .ok (.aload_n 0, 1) := by decide +kernel
theorem dX7_read_43 : decode cX7_read 43 = .ok (.getfield 31, 3) := by decide +kernel
theorem dX7_read_46 : decode cX7_read 46 = .ok (.iconst (-1), 1) := by decide +kernel
theorem dX7_read_47 : decode cX7_read 47 = .ok (.if_icmp .ne 7, 3) := by decide +kernel
theorem dX7_read_50 : decode cX7_read 50 = .ok (.iconst 1, 1) := by decide +kernel
theorem dX7_read_51 : decode cX7_read 51 = .ok (.goto 4, 3) := by decide +kernel
theorem dX7_read_54 : decode cX7_read 54 = .ok (.iconst 0, 1) := by decide +kernel
theorem dX7_read_55 : decode cX7_read 55 = .ok (.ireturn, 1) := by decide +kernel
theorem dX7_read_56 : decode cX7_read 56 = .ok (.iinc 3 1, 3) := by decide +kernel
theorem dX7_read_59 : decode cX7_read 59 = .ok (.goto (-48), 3) := by decide +kernel
theorem dX7_read_62 : decode cX7_read 62 = .ok (.iconst 0, 1) := by decide +kernel
theorem dX7_read_63 : decode cX7_read 63 = .ok (.ireturn, 1) := by decide +kernel
theorem dX7_readAtom_0 : decode cX7_readAtom 0 = .ok (.aload_n 0, 1) := by decide +kernel
theorem dX7_readAtom_1 : decode cX7_readAtom 1 = .ok (.aload_n 1, 1) := by decide +kernel
theorem dX7_readAtom_2 : decode cX7_readAtom 2 = .ok (.invokevirtual 27, 3) := by decide +kernel
theorem dX7_readAtom_5 : decode cX7_readAtom 5 = .ok (.aload_n 0, 1) := by decide +kernel
theorem dX7_readAtom_6 : decode cX7_readAtom 6 = .ok (.getfield 31, 3) := by decide +kernel
theorem dX7_readAtom_9 : decode cX7_readAtom 9 = .ok (.bipush (-3), 2) := by decide +kernel
theorem dX7_readAtom_11 : decode cX7_readAtom 11 = .ok (.if_icmp .ne 7, 3) := by decide +kernel
theorem dX7_readAtom_14 : decode cX7_readAtom 14 = .ok (.iconst 1, 1) := by decide +kernel
theorem dX7_readAtom_15 : decode cX7_readAtom 15 = .ok (.goto 4, 3) := by decide +kernel
theorem dX7_readAtom_18 : decode cX7_readAtom 18 = .ok (.iconst 0, 1) := by decide +kernel
theorem dX7_readAtom_19 : decode cX7_readAtom 19 = .ok (.istore_n 3, 1) := by decide +kernel
theorem dX7_readAtom_20 : decode cX7_readAtom 20 = .ok (.iload_n 3, 1) := by decide +kernel
theorem dX7_readAtom_21 : decode cX7_readAtom 21 = .ok (.ifCond .eq 8, 3) := by decide +kernel
theorem dX7_readAtom_24 : decode cX7_readAtom 24 = .ok (.aload_n 0, 1) := by decide +kernel
theorem dX7_readAtom_25 : decode cX7_readAtom 25 = .ok (.aload_n 1, 1) := by decide +kernel
theorem dX7_readAtom_26 : decode cX7_readAtom 26 = .ok (.invokevirtual 27, 3) := by decide +kernel
theorem dX7_readAtom_29 : decode cX7_readAtom 29 = .ok (.aload_n 0, 1) := by decide +kernel
theorem dX7_readAtom_30 : decode cX7_readAtom 30 = .ok (.getfield 31, 3) := by decide +kernel
theorem dX7_readAtom_33 : decode cX7_readAtom 33 = .ok (.bipush 107, 2) := by decide +kernel
theorem dX7_readAtom_35 : decode cX7_readAtom 35 = .ok (.if_icmp .ne 25, 3) := by decide +kernel
theorem dX7_readAtom_38 : decode cX7_readAtom 38 = .ok (.aload_n 0, 1) := by decide +kernel
theorem dX7_readAtom_39 : decode cX7_readAtom 39 = .ok (.aload_n 1, 1) := by decide +kernel
theorem dX7_readAtom_40 : decode cX7_readAtom 40 = .ok (.bipush 6, 2) := by decide +kernel
theorem dX7_readAtom_42 : decode cX7_readAtom 42 = .ok (.invokevirtual 34, 3) := by decide +kernel
theorem dX7_readAtom_45 : decode cX7_readAtom 45 = .ok (.ifCond .eq 15, 3) := by decide +kernel
theorem dX7_readAtom_48 : decode cX7_readAtom 48 = .ok (.aload_n 2, 1) := by decide +kernel
theorem dX7_readAtom_49 : decode cX7_readAtom 49 = .ok (.aload_n 0, 1) := by decide +kernel
theorem dX7_readAtom_50 : decode cX7_readAtom 50 = .ok (.getfield 38, 3) := by decide +kernel
theorem dX7_readAtom_53 : decode cX7_readAtom 53 = .ok (.iload_n 3, 1) := by decide +kernel
theorem dX7_readAtom_54 : decode cX7_readAtom 54 = .ok (.invokevirtual 41, 3) := by decide +kernel
theorem dX7_readAtom_57 : decode cX7_readAtom 57 = .ok (.ifCond .ne 5, 3) := by decide +kernel
theorem dX7_readAtom_60 : decode cX7_readAtom 60 = .ok (.iconst 0, 1) := by decide +kernel
theorem dX7_readAtom_61 : decode cX7_readAtom 61 = .ok (.ireturn, 1) := by decide +kernel
theorem dX7_readAtom_62 : decode cX7_readAtom 62 = .ok (.aload_n 0, 1) := by decide +kernel
theorem dX7_readAtom_63 : decode cX7_readAtom 63 = .ok (.aload_n 1, 1) := by decide +kernel
theorem dX7_readAtom_64 : decode cX7_readAtom 64 = .ok (.invokevirtual 27, 3) := by decide +kernel
theorem dX7_readAtom_67 : decode cX7_readAtom 67 = .ok (.aload_n 0, 1) := by decide +kernel
theorem dX7_readAtom_68 : decode cX7_readAtom 68 = .ok (.getfield 31, 3) := by decide +kernel
theorem dX7_readAtom_71 : decode cX7_readAtom 71 = .ok (.bipush 40, 2) := by decide +kernel
theorem dX7_readAtom_73 : decode cX7_readAtom 73 = .ok (.if_icmp .eq 5, 3) := by decide +kernel
theorem dX7_readAtom_76 : decode cX7_readAtom 76 = .ok (.iconst 0, 1) := by decide +kernel
theorem dX7_readAtom_77 : decode cX7_readAtom 77 = .ok (.ireturn, 1) := by decide +kernel
theorem dX7_readAtom_78 : decode cX7_readAtom 78 = .ok (.iconst 0, 1) := by decide +kernel
theorem dX7_readAtom_79 : decode cX7_readAtom 79 = .ok (.istore 4, 2) := by decide +kernel
theorem dX7_readAtom_81 : decode cX7_readAtom 81 = .ok (.iload 4, 2) := by decide +kernel
theorem dX7_readAtom_83 : decode cX7_readAtom 83 = .ok (.iconst 4, 1) := by decide +kernel
theorem dX7_readAtom_84 : decode cX7_readAtom 84 = .ok (.if_icmp .ge 49, 3) := by decide +kernel
theorem dX7_readAtom_87 : decode cX7_readAtom 87 = .ok (.aload_n 0, 1) := by decide +kernel
theorem dX7_readAtom_88 : decode cX7_readAtom 88 = .ok (.aload_n 1, 1) := by decide +kernel
theorem dX7_readAtom_89 : decode cX7_readAtom 89 = .ok (.aload_n 2, 1) := by decide +kernel
theorem dX7_readAtom_90 : decode cX7_readAtom 90 = .ok (.invokevirtual 45, 3) := by decide +kernel
theorem dX7_readAtom_93 : decode cX7_readAtom 93 = .ok (.ifCond .ne 5, 3) := by decide +kernel
theorem dX7_readAtom_96 : decode cX7_readAtom 96 = .ok (.iconst 0, 1) := by decide +kernel
theorem dX7_readAtom_97 : decode cX7_readAtom 97 = .ok (.ireturn, 1) := by decide +kernel
theorem dX7_readAtom_98 : decode cX7_readAtom 98 = .ok (.aload_n 0, 1) := by decide +kernel
theorem dX7_readAtom_99 : decode cX7_readAtom 99 = .ok (.aload_n 1, 1) := by decide +kernel
theorem dX7_readAtom_100 : decode cX7_readAtom 100 = .ok (.invokevirtual 27, 3) := by decide +kernel
theorem dX7_readAtom_103 : decode cX7_readAtom 103 = .ok (.aload_n 0, 1) := by decide +kernel
theorem dX7_readAtom_104 : decode cX7_readAtom 104 = .ok (.getfield 31, 3) := by decide +kernel
theorem dX7_readAtom_107 : decode cX7_readAtom 107 = .ok (.bipush 44, 2) := by decide +kernel
theorem dX7_readAtom_109 : decode cX7_readAtom 109 = .ok (.if_icmp .eq 18, 3) := by decide +kernel
theorem dX7_readAtom_112 : decode cX7_readAtom 112 = .ok (.aload_n 0, 1) := by decide +kernel
theorem dX7_readAtom_113 : decode cX7_readAtom 113 = .ok (.getfield 31, 3) := by decide +kernel
theorem dX7_readAtom_116 : decode cX7_readAtom 116 = .ok (.bipush 41, 2) := by decide +kernel
theorem dX7_readAtom_118 : decode cX7_readAtom 118 = .ok (.if_icmp .ne 7, 3) := by decide +kernel
theorem dX7_readAtom_121 : decode cX7_readAtom 121 = .ok (.iconst 1, 1) := by decide +kernel
theorem dX7_readAtom_122 : decode cX7_readAtom 122 = .ok (.goto 4, 3) := by decide +kernel
theorem dX7_readAtom_125 : decode cX7_readAtom 125 = .ok (.iconst 0, 1) := by decide +kernel
theorem dX7_readAtom_126 : decode cX7_readAtom 126 = .ok (.ireturn, 1) := by decide +kernel
theorem dX7_readAtom_127 : decode cX7_readAtom 127 = .ok (.iinc 4 1, 3) := by decide +kernel
theorem dX7_readAtom_130 : decode cX7_readAtom 130 = .ok (.goto (-49), 3) := by decide +kernel
theorem dX7_readAtom_133 : decode cX7_readAtom 133 = .ok (.iconst 0, 1) := by decide +kernel
theorem dX7_readAtom_134 : decode cX7_readAtom 134 = .ok (.ireturn, 1) := by decide +kernel
theorem dX7_readPart_0 : decode cX7_readPart 0 = .ok (.aload_n 0, 1) := by decide +kernel
theorem dX7_readPart_1 : decode cX7_readPart 1 = .ok (.aload_n 1, 1) := by decide +kernel
theorem dX7_readPart_2 : decode cX7_readPart 2 = .ok (.invokevirtual 27, 3) := by decide +kernel
theorem dX7_readPart_5 : decode cX7_readPart 5 = .ok (.aload_n 0, 1) := by decide +kernel
theorem dX7_readPart_6 : decode cX7_readPart 6 = .ok (.getfield 31, 3) := by decide +kernel
theorem dX7_readPart_9 : decode cX7_readPart 9 = .ok (.bipush 114, 2) := by decide +kernel
theorem dX7_readPart_11 : decode cX7_readPart 11 = .ok (.if_icmp .ne 13, 3) := by decide +kernel
theorem dX7_readPart_14 : decode cX7_readPart 14 = .ok (.aload_n 0, 1) := by decide +kernel
theorem dX7_readPart_15 : decode cX7_readPart 15 = .ok (.aload_n 1, 1) := by decide +kernel
theorem dX7_readPart_16 : decode cX7_readPart 16 = .ok (.bipush 6, 2) := by decide +kernel
theorem dX7_readPart_18 : decode cX7_readPart 18 = .ok (.invokevirtual 34, 3) := by decide +kernel
theorem dX7_readPart_21 : decode cX7_readPart 21 = .ok (.ifCond .ne 5, 3) := by decide +kernel
theorem dX7_readPart_24 : decode cX7_readPart 24 = .ok (.iconst 0, 1) := by decide +kernel
theorem dX7_readPart_25 : decode cX7_readPart 25 = .ok (.ireturn, 1) := by decide +kernel
theorem dX7_readPart_26 : decode cX7_readPart 26 = .ok (.aload_n 0, 1) := by decide +kernel
theorem dX7_readPart_27 : decode cX7_readPart 27 = .ok (.getfield 38, 3) := by decide +kernel
theorem dX7_readPart_30 : decode cX7_readPart 30 = .ok (.istore_n 3, 1) := by decide +kernel
theorem dX7_readPart_31 : decode cX7_readPart 31 = .ok (.aload_n 0, 1) := by decide +kernel
theorem dX7_readPart_32 : decode cX7_readPart 32 = .ok (.aload_n 1, 1) := by decide +kernel
theorem dX7_readPart_33 : decode cX7_readPart 33 = .ok (.invokevirtual 27, 3) := by decide +kernel
theorem dX7_readPart_36 : decode cX7_readPart 36 = .ok (.aload_n 0, 1) := by decide +kernel
theorem dX7_readPart_37 : decode cX7_readPart 37 = .ok (.getfield 31, 3) := by decide +kernel
theorem dX7_readPart_40 : decode cX7_readPart 40 = .ok (.bipush 116, 2) := by decide +kernel
theorem dX7_readPart_42 : decode cX7_readPart 42 = .ok (.if_icmp .ne 31, 3) := by decide +kernel
theorem dX7_readPart_45 : decode cX7_readPart 45 = .ok (.aload_n 0, 1) := by decide +kernel
theorem dX7_readPart_46 : decode cX7_readPart 46 = .ok (.aload_n 1, 1) := by decide +kernel
theorem dX7_readPart_47 : decode cX7_readPart 47 = .ok (.bipush 40, 2) := by decide +kernel
theorem dX7_readPart_49 : decode cX7_readPart 49 = .ok (.invokevirtual 34, 3) := by decide +kernel
theorem dX7_readPart_52 : decode cX7_readPart 52 = .ok (.ifCond .eq 19, 3) := by decide +kernel
theorem dX7_readPart_55 : decode cX7_readPart 55 = .ok (.aload_n 2, 1) := by decide +kernel
theorem dX7_readPart_56 : decode cX7_readPart 56 = .ok (.iload_n 3, 1) := by decide +kernel
theorem dX7_readPart_57 : decode cX7_readPart 57 = .ok (.aload_n 0, 1) := by decide +kernel
theorem dX7_readPart_58 : decode cX7_readPart 58 = .ok (.getfield 38, 3) := by decide +kernel
theorem dX7_readPart_61 : decode cX7_readPart 61 = .ok (.invokevirtual 48, 3) := by decide +kernel
theorem dX7_readPart_64 : decode cX7_readPart 64 = .ok (.ifCond .eq 7, 3) := by decide +kernel
theorem dX7_readPart_67 : decode cX7_readPart 67 = .ok (.iconst 1, 1) := by decide +kernel
theorem dX7_readPart_68 : decode cX7_readPart 68 = .ok (.goto 4, 3) := by decide +kernel
theorem dX7_readPart_71 : decode cX7_readPart 71 = .ok (.iconst 0, 1) := by decide +kernel
theorem dX7_readPart_72 : decode cX7_readPart 72 = .ok (.ireturn, 1) := by decide +kernel
theorem dX7_readPart_73 : decode cX7_readPart 73 = .ok (.aload_n 0, 1) := by decide +kernel
theorem dX7_readPart_74 : decode cX7_readPart 74 = .ok (.getfield 31, 3) := by decide +kernel
theorem dX7_readPart_77 : decode cX7_readPart 77 = .ok (.bipush 97, 2) := by decide +kernel
theorem dX7_readPart_79 : decode cX7_readPart 79 = .ok (.if_icmp .lt 12, 3) := by decide +kernel
theorem dX7_readPart_82 : decode cX7_readPart 82 = .ok (.aload_n 0, 1) := by decide +kernel
theorem dX7_readPart_83 : decode cX7_readPart 83 = .ok (.getfield 31, 3) := by decide +kernel
theorem dX7_readPart_86 : decode cX7_readPart 86 = .ok (.bipush 100, 2) := by decide +kernel
theorem dX7_readPart_88 : decode cX7_readPart 88 = .ok (.if_icmp .lt 5, 3) := by decide +kernel
theorem dX7_readPart_91 : decode cX7_readPart 91 = .ok (.iconst 0, 1) := by decide +kernel
theorem dX7_readPart_92 : decode cX7_readPart 92 = .ok (.ireturn, 1) := by decide +kernel
theorem dX7_readPart_93 : decode cX7_readPart 93 = .ok (.aload_n 2, 1) := by decide +kernel
theorem dX7_readPart_94 : decode cX7_readPart 94 = .ok (.iload_n 3, 1) := by decide +kernel
theorem dX7_readPart_95 : decode cX7_readPart 95 = .ok (.bipush 40, 2) := by decide +kernel
theorem dX7_readPart_97 : decode cX7_readPart 97 = .ok (.aload_n 0, 1) := by decide +kernel
theorem dX7_readPart_98 : decode cX7_readPart 98 = .ok (.getfield 31, 3) := by decide +kernel
theorem dX7_readPart_101 : decode cX7_readPart 101 = .ok (.iadd, 1) := by decide +kernel
theorem dX7_readPart_102 : decode cX7_readPart 102 = .ok (.bipush 97, 2) := by decide +kernel
theorem dX7_readPart_104 : decode cX7_readPart 104 = .ok (.isub, 1) := by decide +kernel
theorem dX7_readPart_105 : decode cX7_readPart 105 = .ok (.invokevirtual 48, 3) := by decide +kernel
theorem dX7_readPart_108 : decode cX7_readPart 108 = .ok (.ireturn, 1) := by decide +kernel
theorem dX7_readNumber_0 : decode cX7_readNumber 0 = .ok (.aload_n 0, 1) := by decide +kernel
theorem dX7_readNumber_1 : decode cX7_readNumber 1 = .ok (.aload_n 1, 1) := by decide +kernel
theorem dX7_readNumber_2 : decode cX7_readNumber 2 = .ok (.invokevirtual 27, 3) := by decide +kernel
theorem dX7_readNumber_5 : decode cX7_readNumber 5 = .ok (.aload_n 0, 1) := by decide +kernel
theorem dX7_readNumber_6 : decode cX7_readNumber 6 = .ok (.getfield 31, 3) := by decide +kernel
theorem dX7_readNumber_9 : decode cX7_readNumber 9 = .ok (.bipush (-2), 2) := by decide +kernel
theorem dX7_readNumber_11 : decode cX7_readNumber 11 = .ok (.if_icmp .ne 15, 3) := by decide +kernel
theorem dX7_readNumber_14 : decode cX7_readNumber 14 = .ok (.aload_n 0, 1) := by decide +kernel
theorem dX7_readNumber_15 : decode cX7_readNumber 15 = .ok (.getfield 38, 3) := by decide +kernel
theorem dX7_readNumber_18 : decode cX7_readNumber 18 = .ok (.iload_n 2, 1) := by decide +kernel
theorem dX7_readNumber_19 : decode cX7_readNumber 19 = .ok (.if_icmp .ge 7, 3) := by decide +kernel
theorem dX7_readNumber_22 : decode cX7_readNumber 22 = .ok (.iconst 1, 1) := by decide +kernel
theorem dX7_readNumber_23 : decode cX7_readNumber 23 = .ok (.goto 4, 3) := by decide +kernel
theorem dX7_readNumber_26 : decode cX7_readNumber 26 = .ok (.iconst 0, 1) := by decide +kernel
theorem dX7_readNumber_27 : decode cX7_readNumber 27 = .ok (.ireturn, 1) := by decide +kernel
theorem dX7_next_0 : decode cX7_next 0 = .ok (.aload_n 0, 1) := by decide +kernel
theorem dX7_next_1 : decode cX7_next 1 = .ok (.getfield 15, 3) := by decide +kernel
theorem dX7_next_4 : decode cX7_next 4 = .ok (.aload_n 1, 1) := by decide +kernel
theorem dX7_next_5 : decode cX7_next 5 = .ok (.invokevirtual 52, 3) := by decide +kernel
theorem dX7_next_8 : decode cX7_next 8 = .ok (.if_icmp .ge 29, 3) := by decide +kernel
theorem dX7_next_11 : decode cX7_next 11 = .ok (.aload_n 1, 1) := by decide +kernel
theorem dX7_next_12 : decode cX7_next 12 = .ok (.aload_n 0, 1) := by decide +kernel
theorem dX7_next_13 : decode cX7_next 13 = .ok (.getfield 15, 3) := by decide +kernel
theorem dX7_next_16 : decode cX7_next 16 = .ok (.invokevirtual 58, 3) := by decide +kernel
theorem dX7_next_19 : decode cX7_next 19 = .ok (.bipush 32, 2) := by decide +kernel
theorem dX7_next_21 : decode cX7_next 21 = .ok (.if_icmp .ne 16, 3) := by decide +kernel
theorem dX7_next_24 : decode cX7_next 24 = .ok (.aload_n 0, 1) := by decide +kernel
theorem dX7_next_25 : decode cX7_next 25 = .ok (.dup, 1) := by decide +kernel
theorem dX7_next_26 : decode cX7_next 26 = .ok (.getfield 15, 3) := by decide +kernel
theorem dX7_next_29 : decode cX7_next 29 = .ok (.iconst 1, 1) := by decide +kernel
theorem dX7_next_30 : decode cX7_next 30 = .ok (.iadd, 1) := by decide +kernel
theorem dX7_next_31 : decode cX7_next 31 = .ok (.putfield 15, 3) := by decide +kernel
theorem dX7_next_34 : decode cX7_next 34 = .ok (.goto (-34), 3) := by decide +kernel
theorem dX7_next_37 : decode cX7_next 37 = .ok (.aload_n 0, 1) := by decide +kernel
theorem dX7_next_38 : decode cX7_next 38 = .ok (.aload_n 0, 1) := by decide +kernel
theorem dX7_next_39 : decode cX7_next 39 = .ok (.getfield 15, 3) := by decide +kernel
theorem dX7_next_42 : decode cX7_next 42 = .ok (.putfield 9, 3) := by decide +kernel
theorem dX7_next_45 : decode cX7_next 45 = .ok (.aload_n 1, 1) := by decide +kernel
theorem dX7_next_46 : decode cX7_next 46 = .ok (.aload_n 0, 1) := by decide +kernel
theorem dX7_next_47 : decode cX7_next 47 = .ok (.getfield 15, 3) := by decide +kernel
theorem dX7_next_50 : decode cX7_next 50 = .ok (.invokevirtual 58, 3) := by decide +kernel
theorem dX7_next_53 : decode cX7_next 53 = .ok (.istore_n 2, 1) := by decide +kernel
theorem dX7_next_54 : decode cX7_next 54 = .ok (.iload_n 2, 1) := by decide +kernel
theorem dX7_next_55 : decode cX7_next 55 = .ok (.iconst (-1), 1) := by decide +kernel
theorem dX7_next_56 : decode cX7_next 56 = .ok (.if_icmp .ne 11, 3) := by decide +kernel
theorem dX7_next_59 : decode cX7_next 59 = .ok (.aload_n 0, 1) := by decide +kernel
theorem dX7_next_60 : decode cX7_next 60 = .ok (.iconst (-1), 1) := by decide +kernel
theorem dX7_next_61 : decode cX7_next 61 = .ok (.putfield 31, 3) := by decide +kernel
theorem dX7_next_64 : decode cX7_next 64 = .ok (.goto 48, 3) := by decide +kernel
theorem dX7_next_67 : decode cX7_next 67 = .ok (.iload_n 2, 1) := by decide +kernel
theorem dX7_next_68 : decode cX7_next 68 = .ok (.invokestatic 61, 3) := by decide +kernel
theorem dX7_next_71 : decode cX7_next 71 = .ok (.ifCond .eq 11, 3) := by decide +kernel
theorem dX7_next_74 : decode cX7_next 74 = .ok (.aload_n 0, 1) := by decide +kernel
theorem dX7_next_75 : decode cX7_next 75 = .ok (.aload_n 1, 1) := by decide +kernel
theorem dX7_next_76 : decode cX7_next 76 = .ok (.invokevirtual 65, 3) := by decide +kernel
theorem dX7_next_79 : decode cX7_next 79 = .ok (.goto 33, 3) := by decide +kernel
theorem dX7_next_82 : decode cX7_next 82 = .ok (.iload_n 2, 1) := by decide +kernel
theorem dX7_next_83 : decode cX7_next 83 = .ok (.invokestatic 68, 3) := by decide +kernel
theorem dX7_next_86 : decode cX7_next 86 = .ok (.ifCond .eq 11, 3) := by decide +kernel
theorem dX7_next_89 : decode cX7_next 89 = .ok (.aload_n 0, 1) := by decide +kernel
theorem dX7_next_90 : decode cX7_next 90 = .ok (.aload_n 1, 1) := by decide +kernel
theorem dX7_next_91 : decode cX7_next 91 = .ok (.invokevirtual 71, 3) := by decide +kernel
theorem dX7_next_94 : decode cX7_next 94 = .ok (.goto 18, 3) := by decide +kernel
theorem dX7_next_97 : decode cX7_next 97 = .ok (.aload_n 0, 1) := by decide +kernel
theorem dX7_next_98 : decode cX7_next 98 = .ok (.iload_n 2, 1) := by decide +kernel
theorem dX7_next_99 : decode cX7_next 99 = .ok (.putfield 31, 3) := by decide +kernel
theorem dX7_next_102 : decode cX7_next 102 = .ok (.aload_n 0, 1) := by decide +kernel
theorem dX7_next_103 : decode cX7_next 103 = .ok (.dup, 1) := by decide +kernel
theorem dX7_next_104 : decode cX7_next 104 = .ok (.getfield 15, 3) := by decide +kernel
theorem dX7_next_107 : decode cX7_next 107 = .ok (.iconst 1, 1) := by decide +kernel
theorem dX7_next_108 : decode cX7_next 108 = .ok (.iadd, 1) := by decide +kernel
theorem dX7_next_109 : decode cX7_next 109 = .ok (.putfield 15, 3) := by decide +kernel
theorem dX7_next_112 : decode cX7_next 112 = .ok (.return_, 1) := by decide +kernel
theorem dX7_takeWord_0 : decode cX7_takeWord 0 = .ok (.aload_n 0, 1) := by decide +kernel
theorem dX7_takeWord_1 : decode cX7_takeWord 1 = .ok (.getfield 15, 3) := by decide +kernel
theorem dX7_takeWord_4 : decode cX7_takeWord 4 = .ok (.aload_n 1, 1) := by decide +kernel
theorem dX7_takeWord_5 : decode cX7_takeWord 5 = .ok (.invokevirtual 52, 3) := by decide +kernel
theorem dX7_takeWord_8 : decode cX7_takeWord 8 = .ok (.if_icmp .ge 30, 3) := by decide +kernel
theorem dX7_takeWord_11 : decode cX7_takeWord 11 = .ok (.aload_n 1, 1) := by decide +kernel
theorem dX7_takeWord_12 : decode cX7_takeWord 12 = .ok (.aload_n 0, 1) := by decide +kernel
theorem dX7_takeWord_13 : decode cX7_takeWord 13 = .ok (.getfield 15, 3) := by decide +kernel
theorem dX7_takeWord_16 : decode cX7_takeWord 16 = .ok (.invokevirtual 58, 3) := by decide +kernel
theorem dX7_takeWord_19 : decode cX7_takeWord 19 = .ok (.invokestatic 61, 3) := by decide +kernel
theorem dX7_takeWord_22 : decode cX7_takeWord 22 = .ok (.ifCond .eq 16, 3) := by decide +kernel
theorem dX7_takeWord_25 : decode cX7_takeWord 25 = .ok (.aload_n 0, 1) := by decide +kernel
theorem dX7_takeWord_26 : decode cX7_takeWord 26 = .ok (.dup, 1) := by decide +kernel
theorem dX7_takeWord_27 : decode cX7_takeWord 27 = .ok (.getfield 15, 3) := by decide +kernel
theorem dX7_takeWord_30 : decode cX7_takeWord 30 = .ok (.iconst 1, 1) := by decide +kernel
theorem dX7_takeWord_31 : decode cX7_takeWord 31 = .ok (.iadd, 1) := by decide +kernel
theorem dX7_takeWord_32 : decode cX7_takeWord 32 = .ok (.putfield 15, 3) := by decide +kernel
theorem dX7_takeWord_35 : decode cX7_takeWord 35 = .ok (.goto (-35), 3) := by decide +kernel
theorem dX7_takeWord_38 : decode cX7_takeWord 38 = .ok (.aload_n 0, 1) := by decide +kernel
theorem dX7_takeWord_39 : decode cX7_takeWord 39 = .ok (.getfield 15, 3) := by decide +kernel
theorem dX7_takeWord_42 : decode cX7_takeWord 42 = .ok (.aload_n 0, 1) := by decide +kernel
theorem dX7_takeWord_43 : decode cX7_takeWord 43 = .ok (.getfield 9, 3) := by decide +kernel
theorem dX7_takeWord_46 : decode cX7_takeWord 46 = .ok (.isub, 1) := by decide +kernel
theorem dX7_takeWord_47 : decode cX7_takeWord 47 = .ok (.iconst 1, 1) := by decide +kernel
theorem dX7_takeWord_48 : decode cX7_takeWord 48 = .ok (.if_icmp .ne 18, 3) := by decide +kernel
theorem dX7_takeWord_51 : decode cX7_takeWord 51 = .ok (.aload_n 0, 1) := by decide +kernel
theorem dX7_takeWord_52 : decode cX7_takeWord 52 = .ok (.aload_n 1, 1) := by decide +kernel
theorem dX7_takeWord_53 : decode cX7_takeWord 53 = .ok (.aload_n 0, 1) := by decide +kernel
theorem dX7_takeWord_54 : decode cX7_takeWord 54 = .ok (.getfield 9, 3) := by decide +kernel
theorem dX7_takeWord_57 : decode cX7_takeWord 57 = .ok (.invokevirtual 58, 3) := by decide +kernel
theorem dX7_takeWord_60 : decode cX7_takeWord 60 = .ok (.putfield 31, 3) := by decide +kernel
theorem dX7_takeWord_63 : decode cX7_takeWord 63 = .ok (.goto 74, 3) := by decide +kernel
theorem dX7_takeWord_66 : decode cX7_takeWord 66 = .ok (.aload_n 0, 1) := by decide +kernel
theorem dX7_takeWord_67 : decode cX7_takeWord 67 = .ok (.getfield 15, 3) := by decide +kernel
theorem dX7_takeWord_70 : decode cX7_takeWord 70 = .ok (.aload_n 0, 1) := by decide +kernel
theorem dX7_takeWord_71 : decode cX7_takeWord 71 = .ok (.getfield 9, 3) := by decide +kernel
theorem dX7_takeWord_74 : decode cX7_takeWord 74 = .ok (.isub, 1) := by decide +kernel
theorem dX7_takeWord_75 : decode cX7_takeWord 75 = .ok (.iconst 3, 1) := by decide +kernel
theorem dX7_takeWord_76 : decode cX7_takeWord 76 = .ok (.if_icmp .ne 55, 3) := by decide +kernel
theorem dX7_takeWord_79 : decode cX7_takeWord 79 = .ok (.aload_n 1, 1) := by decide +kernel
theorem dX7_takeWord_80 : decode cX7_takeWord 80 = .ok (.aload_n 0, 1) := by decide +kernel
theorem dX7_takeWord_81 : decode cX7_takeWord 81 = .ok (.getfield 9, 3) := by decide +kernel
theorem dX7_takeWord_84 : decode cX7_takeWord 84 = .ok (.invokevirtual 58, 3) := by decide +kernel
theorem dX7_takeWord_87 : decode cX7_takeWord 87 = .ok (.bipush 110, 2) := by decide +kernel
theorem dX7_takeWord_89 : decode cX7_takeWord 89 = .ok (.if_icmp .ne 42, 3) := by decide +kernel
theorem dX7_takeWord_92 : decode cX7_takeWord 92 = .ok (.aload_n 1, 1) := by decide +kernel
theorem dX7_takeWord_93 : decode cX7_takeWord 93 = .ok (.aload_n 0, 1) := by decide +kernel
theorem dX7_takeWord_94 : decode cX7_takeWord 94 = .ok (.getfield 9, 3) := by decide +kernel
theorem dX7_takeWord_97 : decode cX7_takeWord 97 = .ok (.iconst 1, 1) := by decide +kernel
theorem dX7_takeWord_98 : decode cX7_takeWord 98 = .ok (.iadd, 1) := by decide +kernel
theorem dX7_takeWord_99 : decode cX7_takeWord 99 = .ok (.invokevirtual 58, 3) := by decide +kernel
theorem dX7_takeWord_102 : decode cX7_takeWord 102 = .ok (.bipush 111, 2) := by decide +kernel
theorem dX7_takeWord_104 : decode cX7_takeWord 104 = .ok (.if_icmp .ne 27, 3) := by decide +kernel
theorem dX7_takeWord_107 : decode cX7_takeWord 107 = .ok (.aload_n 1, 1) := by decide +kernel
theorem dX7_takeWord_108 : decode cX7_takeWord 108 = .ok (.aload_n 0, 1) := by decide +kernel
theorem dX7_takeWord_109 : decode cX7_takeWord 109 = .ok (.getfield 9, 3) := by decide +kernel
theorem dX7_takeWord_112 : decode cX7_takeWord 112 = .ok (.iconst 2, 1) := by decide +kernel
theorem dX7_takeWord_113 : decode cX7_takeWord 113 = .ok (.iadd, 1) := by decide +kernel
theorem dX7_takeWord_114 : decode cX7_takeWord 114 = .ok (.invokevirtual 58, 3) := by decide +kernel
theorem dX7_takeWord_117 : decode cX7_takeWord 117 = .ok (.bipush 116, 2) := by decide +kernel
theorem dX7_takeWord_119 : decode cX7_takeWord 119 = .ok (.if_icmp .ne 12, 3) := by decide +kernel
theorem dX7_takeWord_122 : decode cX7_takeWord 122 = .ok (.aload_n 0, 1) := by decide +kernel
theorem dX7_takeWord_123 : decode cX7_takeWord 123 = .ok (.bipush (-3), 2) := by decide +kernel
theorem dX7_takeWord_125 : decode cX7_takeWord 125 = .ok (.putfield 31, 3) := by decide +kernel
theorem dX7_takeWord_128 : decode cX7_takeWord 128 = .ok (.goto 9, 3) := by decide +kernel
theorem dX7_takeWord_131 : decode cX7_takeWord 131 = .ok (.aload_n 0, 1) := by decide +kernel
theorem dX7_takeWord_132 : decode cX7_takeWord 132 = .ok (.bipush (-4), 2) := by decide +kernel
theorem dX7_takeWord_134 : decode cX7_takeWord 134 = .ok (.putfield 31, 3) := by decide +kernel
theorem dX7_takeWord_137 : decode cX7_takeWord 137 = .ok (.return_, 1) := by decide +kernel
theorem dX7_takeNumber_0 : decode cX7_takeNumber 0 = .ok (.aload_n 0, 1) := by decide +kernel
theorem dX7_takeNumber_1 : decode cX7_takeNumber 1 = .ok (.bipush (-2), 2) := by decide +kernel
theorem dX7_takeNumber_3 : decode cX7_takeNumber 3 = .ok (.putfield 31, 3) := by decide +kernel
theorem dX7_takeNumber_6 : decode cX7_takeNumber 6 = .ok (.aload_n 0, 1) := by decide +kernel
theorem dX7_takeNumber_7 : decode cX7_takeNumber 7 = .ok (.iconst 0, 1) := by decide +kernel
theorem dX7_takeNumber_8 : decode cX7_takeNumber 8 = .ok (.putfield 38, 3) := by decide +kernel
theorem dX7_takeNumber_11 : decode cX7_takeNumber 11 = .ok (.aload_n 0, 1) := by decide +kernel
theorem dX7_takeNumber_12 : decode cX7_takeNumber 12 = .ok (.getfield 15, 3) := by decide +kernel
theorem dX7_takeNumber_15 : decode cX7_takeNumber 15 = .ok (.aload_n 1, 1) := by decide +kernel
theorem dX7_takeNumber_16 : decode cX7_takeNumber 16 = .ok (.invokevirtual 52, 3) := by decide +kernel
theorem dX7_takeNumber_19 : decode cX7_takeNumber 19 = .ok (.if_icmp .ge 71, 3) := by decide +kernel
theorem dX7_takeNumber_22 : decode cX7_takeNumber 22 = .ok (.aload_n 1, 1) := by decide +kernel
theorem dX7_takeNumber_23 : decode cX7_takeNumber 23 = .ok (.aload_n 0, 1) := by decide +kernel
theorem dX7_takeNumber_24 : decode cX7_takeNumber 24 = .ok (.getfield 15, 3) := by decide +kernel
theorem dX7_takeNumber_27 : decode cX7_takeNumber 27 = .ok (.invokevirtual 58, 3) := by decide +kernel
theorem dX7_takeNumber_30 : decode cX7_takeNumber 30 = .ok (.invokestatic 68, 3) := by decide +kernel
theorem dX7_takeNumber_33 : decode cX7_takeNumber 33 = .ok (.ifCond .eq 57, 3) := by decide +kernel
theorem dX7_takeNumber_36 : decode cX7_takeNumber 36 = .ok (.aload_n 0, 1) := by decide +kernel
theorem dX7_takeNumber_37 : decode cX7_takeNumber 37 = .ok (.aload_n 0, 1) := by decide +kernel
theorem dX7_takeNumber_38 : decode cX7_takeNumber 38 = .ok (.getfield 15, 3) := by decide +kernel
theorem dX7_takeNumber_41 : decode cX7_takeNumber 41 = .ok (.aload_n 0, 1) := by decide +kernel
theorem dX7_takeNumber_42 : decode cX7_takeNumber 42 = .ok (.getfield 9, 3) := by decide +kernel
theorem dX7_takeNumber_45 : decode cX7_takeNumber 45 = .ok (.isub, 1) := by decide +kernel
theorem dX7_takeNumber_46 : decode cX7_takeNumber 46 = .ok (.iconst 2, 1) := by decide +kernel
theorem dX7_takeNumber_47 : decode cX7_takeNumber 47 = .ok (.if_icmp .ge 25, 3) := by decide +kernel
theorem dX7_takeNumber_50 : decode cX7_takeNumber 50 = .ok (.aload_n 0, 1) := by decide +kernel
theorem dX7_takeNumber_51 : decode cX7_takeNumber 51 = .ok (.getfield 38, 3) := by decide +kernel
theorem dX7_takeNumber_54 : decode cX7_takeNumber 54 = .ok (.bipush 10, 2) := by decide +kernel
theorem dX7_takeNumber_56 : decode cX7_takeNumber 56 = .ok (.imul, 1) := by decide +kernel
theorem dX7_takeNumber_57 : decode cX7_takeNumber 57 = .ok (.aload_n 1, 1) := by decide +kernel
theorem dX7_takeNumber_58 : decode cX7_takeNumber 58 = .ok (.aload_n 0, 1) := by decide +kernel
theorem dX7_takeNumber_59 : decode cX7_takeNumber 59 = .ok (.getfield 15, 3) := by decide +kernel
theorem dX7_takeNumber_62 : decode cX7_takeNumber 62 = .ok (.invokevirtual 58, 3) := by decide +kernel
theorem dX7_takeNumber_65 : decode cX7_takeNumber 65 = .ok (.iadd, 1) := by decide +kernel
theorem dX7_takeNumber_66 : decode cX7_takeNumber 66 = .ok (.bipush 48, 2) := by decide +kernel
theorem dX7_takeNumber_68 : decode cX7_takeNumber 68 = .ok (.isub, 1) := by decide +kernel
theorem dX7_takeNumber_69 : decode cX7_takeNumber 69 = .ok (.goto 5, 3) := by decide +kernel
theorem dX7_takeNumber_72 : decode cX7_takeNumber 72 = .ok (.bipush 100, 2) := by decide +kernel
theorem dX7_takeNumber_74 : decode cX7_takeNumber 74 = .ok (.putfield 38, 3) := by decide +kernel
theorem dX7_takeNumber_77 : decode cX7_takeNumber 77 = .ok (.aload_n 0, 1) := by decide +kernel
theorem dX7_takeNumber_78 : decode cX7_takeNumber 78 = .ok (.dup, 1) := by decide +kernel
theorem dX7_takeNumber_79 : decode cX7_takeNumber 79 = .ok (.getfield 15, 3) := by decide +kernel
theorem dX7_takeNumber_82 : decode cX7_takeNumber 82 = .ok (.iconst 1, 1) := by decide +kernel
theorem dX7_takeNumber_83 : decode cX7_takeNumber 83 = .ok (.iadd, 1) := by decide +kernel
theorem dX7_takeNumber_84 : decode cX7_takeNumber 84 = .ok (.putfield 15, 3) := by decide +kernel
theorem dX7_takeNumber_87 : decode cX7_takeNumber 87 = .ok (.goto (-76), 3) := by decide +kernel
theorem dX7_takeNumber_90 : decode cX7_takeNumber 90 = .ok (.return_, 1) := by decide +kernel
theorem dX7_isLetter_0 : decode cX7_isLetter 0 = .ok (.iload_n 0, 1) := by decide +kernel
theorem dX7_isLetter_1 : decode cX7_isLetter 1 = .ok (.bipush 97, 2) := by decide +kernel
theorem dX7_isLetter_3 : decode cX7_isLetter 3 = .ok (.if_icmp .lt 13, 3) := by decide +kernel
theorem dX7_isLetter_6 : decode cX7_isLetter 6 = .ok (.iload_n 0, 1) := by decide +kernel
theorem dX7_isLetter_7 : decode cX7_isLetter 7 = .ok (.bipush 122, 2) := by decide +kernel
theorem dX7_isLetter_9 : decode cX7_isLetter 9 = .ok (.if_icmp .gt 7, 3) := by decide +kernel
theorem dX7_isLetter_12 : decode cX7_isLetter 12 = .ok (.iconst 1, 1) := by decide +kernel
theorem dX7_isLetter_13 : decode cX7_isLetter 13 = .ok (.goto 4, 3) := by decide +kernel
theorem dX7_isLetter_16 : decode cX7_isLetter 16 = .ok (.iconst 0, 1) := by decide +kernel
theorem dX7_isLetter_17 : decode cX7_isLetter 17 = .ok (.ireturn, 1) := by decide +kernel
theorem dX7_isDigit_0 : decode cX7_isDigit 0 = .ok (.iload_n 0, 1) := by decide +kernel
theorem dX7_isDigit_1 : decode cX7_isDigit 1 = .ok (.bipush 48, 2) := by decide +kernel
theorem dX7_isDigit_3 : decode cX7_isDigit 3 = .ok (.if_icmp .lt 13, 3) := by decide +kernel
theorem dX7_isDigit_6 : decode cX7_isDigit 6 = .ok (.iload_n 0, 1) := by decide +kernel
theorem dX7_isDigit_7 : decode cX7_isDigit 7 = .ok (.bipush 57, 2) := by decide +kernel
theorem dX7_isDigit_9 : decode cX7_isDigit 9 = .ok (.if_icmp .gt 7, 3) := by decide +kernel
theorem dX7_isDigit_12 : decode cX7_isDigit 12 = .ok (.iconst 1, 1) := by decide +kernel
theorem dX7_isDigit_13 : decode cX7_isDigit 13 = .ok (.goto 4, 3) := by decide +kernel
theorem dX7_isDigit_16 : decode cX7_isDigit 16 = .ok (.iconst 0, 1) := by decide +kernel
theorem dX7_isDigit_17 : decode cX7_isDigit 17 = .ok (.ireturn, 1) := by decide +kernel
theorem dX8_init_0 : decode cX8_init 0 = .ok (.aload_n 0, 1) := by decide +kernel
theorem dX8_init_1 : decode cX8_init 1 = .ok (.invokespecial 3, 3) := by decide +kernel
theorem dX8_init_4 : decode cX8_init 4 = .ok (.aload_n 0, 1) := by decide +kernel
theorem dX8_init_5 : decode cX8_init 5 = .ok (.sipush 400, 3) := by decide +kernel
theorem dX8_init_8 : decode cX8_init 8 = .ok (.newarray .int, 2) := by decide +kernel
theorem dX8_init_10 : decode cX8_init 10 = .ok (.putfield 9, 3) := by decide +kernel
theorem dX8_init_13 : decode cX8_init 13 = .ok (.return_, 1) := by decide +kernel
theorem dX8_hasRoom_0 : decode cX8_hasRoom 0 = .ok (.aload_n 0, 1) := by decide +kernel
theorem dX8_hasRoom_1 : decode cX8_hasRoom 1 = .ok (.getfield 15, 3) := by decide +kernel
theorem dX8_hasRoom_4 : decode cX8_hasRoom 4 = .ok (.iload_n 1, 1) := by decide +kernel
theorem dX8_hasRoom_5 : decode cX8_hasRoom 5 = .ok (.iadd, 1) := by decide +kernel
theorem dX8_hasRoom_6 : decode cX8_hasRoom 6 = .ok (.sipush 400, 3) := by decide +kernel
theorem dX8_hasRoom_9 : decode cX8_hasRoom 9 = .ok (.if_icmp .gt 7, 3) := by decide +kernel
theorem dX8_hasRoom_12 : decode cX8_hasRoom 12 = .ok (.iconst 1, 1) := by decide +kernel
theorem dX8_hasRoom_13 : decode cX8_hasRoom 13 = .ok (.goto 4, 3) := by decide +kernel
theorem dX8_hasRoom_16 : decode cX8_hasRoom 16 = .ok (.iconst 0, 1) := by decide +kernel
theorem dX8_hasRoom_17 : decode cX8_hasRoom 17 = .ok (.ireturn, 1) := by decide +kernel
theorem dX8_add_0 : decode cX8_add 0 = .ok (.aload_n 0, 1) := by decide +kernel
theorem dX8_add_1 : decode cX8_add 1 = .ok (.iconst 4, 1) := by decide +kernel
theorem dX8_add_2 : decode cX8_add 2 = .ok (.invokevirtual 19, 3) := by decide +kernel
theorem dX8_add_5 : decode cX8_add 5 = .ok (.ifCond .ne 4, 3) := by decide +kernel
theorem dX8_add_8 : decode cX8_add 8 = .ok (.return_, 1) := by decide +kernel
theorem dX8_add_9 : decode cX8_add 9 = .ok (.bipush 24, 2) := by decide +kernel
theorem dX8_add_11 : decode cX8_add 11 = .ok (.istore_n 2, 1) := by decide +kernel
theorem dX8_add_12 : decode cX8_add 12 = .ok (.iload_n 2, 1) := by decide +kernel
theorem dX8_add_13 : decode cX8_add 13 = .ok (.ifCond .lt 35, 3) := by decide +kernel
theorem dX8_add_16 : decode cX8_add 16 = .ok (.aload_n 0, 1) := by decide +kernel
theorem dX8_add_17 : decode cX8_add 17 = .ok (.getfield 9, 3) := by decide +kernel
theorem dX8_add_20 : decode cX8_add 20 = .ok (.aload_n 0, 1) := by decide +kernel
theorem dX8_add_21 : decode cX8_add 21 = .ok (.getfield 15, 3) := by decide +kernel
theorem dX8_add_24 : decode cX8_add 24 = .ok (.iload_n 1, 1) := by decide +kernel
theorem dX8_add_25 : decode cX8_add 25 = .ok (.iload_n 2, 1) := by decide +kernel
theorem dX8_add_26 : decode cX8_add 26 = .ok (.iushr, 1) := by decide +kernel
theorem dX8_add_27 : decode cX8_add 27 = .ok (.sipush 255, 3) := by decide +kernel
theorem dX8_add_30 : decode cX8_add 30 = .ok (.iand, 1) := by decide +kernel
theorem dX8_add_31 : decode cX8_add 31 = .ok (.iastore, 1) := by decide +kernel
theorem dX8_add_32 : decode cX8_add 32 = .ok (.aload_n 0, 1) := by decide +kernel
theorem dX8_add_33 : decode cX8_add 33 = .ok (.dup, 1) := by decide +kernel
theorem dX8_add_34 : decode cX8_add 34 = .ok (.getfield 15, 3) := by decide +kernel
theorem dX8_add_37 : decode cX8_add 37 = .ok (.iconst 1, 1) := by decide +kernel
theorem dX8_add_38 : decode cX8_add 38 = .ok (.iadd, 1) := by decide +kernel
theorem dX8_add_39 : decode cX8_add 39 = .ok (.putfield 15, 3) := by decide +kernel
theorem dX8_add_42 : decode cX8_add 42 = .ok (.iinc 2 (-8), 3) := by decide +kernel
theorem dX8_add_45 : decode cX8_add 45 = .ok (.goto (-33), 3) := by decide +kernel
theorem dX8_add_48 : decode cX8_add 48 = .ok (.return_, 1) := by decide +kernel
theorem dX8_cut_0 : decode cX8_cut 0 = .ok (.iload_n 1, 1) := by decide +kernel
theorem dX8_cut_1 : decode cX8_cut 1 = .ok (.ifCond .lt 11, 3) := by decide +kernel
theorem dX8_cut_4 : decode cX8_cut 4 = .ok (.iload_n 1, 1) := by decide +kernel
theorem dX8_cut_5 : decode cX8_cut 5 = .ok (.aload_n 0, 1) := by decide +kernel
theorem dX8_cut_6 : decode cX8_cut 6 = .ok (.getfield 15, 3) := by decide +kernel
theorem dX8_cut_9 : decode cX8_cut 9 = .ok (.if_icmp .le 5, 3) := by decide +kernel
theorem dX8_cut_12 : decode cX8_cut 12 = .ok (.iconst 0, 1) := by decide +kernel
theorem dX8_cut_13 : decode cX8_cut 13 = .ok (.ireturn, 1) := by decide +kernel
theorem dX8_cut_14 : decode cX8_cut 14 = .ok (.aload_n 0, 1) := by decide +kernel
theorem dX8_cut_15 : decode cX8_cut 15 = .ok (.iload_n 1, 1) := by decide +kernel
theorem dX8_cut_16 : decode cX8_cut 16 = .ok (.putfield 15, 3) := by decide +kernel
theorem dX8_cut_19 : decode cX8_cut 19 = .ok (.iconst 1, 1) := by decide +kernel
theorem dX8_cut_20 : decode cX8_cut 20 = .ok (.ireturn, 1) := by decide +kernel
theorem dX8_clear_0 : decode cX8_clear 0 = .ok (.aload_n 0, 1) := by decide +kernel
theorem dX8_clear_1 : decode cX8_clear 1 = .ok (.iconst 0, 1) := by decide +kernel
theorem dX8_clear_2 : decode cX8_clear 2 = .ok (.putfield 15, 3) := by decide +kernel
theorem dX8_clear_5 : decode cX8_clear 5 = .ok (.return_, 1) := by decide +kernel
theorem dX8_length_0 : decode cX8_length 0 = .ok (.aload_n 0, 1) := by decide +kernel
theorem dX8_length_1 : decode cX8_length 1 = .ok (.getfield 15, 3) := by decide +kernel
theorem dX8_length_4 : decode cX8_length 4 = .ok (.ireturn, 1) := by decide +kernel
theorem dX8_at_0 : decode cX8_at 0 = .ok (.iload_n 1, 1) := by decide +kernel
theorem dX8_at_1 : decode cX8_at 1 = .ok (.ifCond .lt 20, 3) := by decide +kernel
theorem dX8_at_4 : decode cX8_at 4 = .ok (.iload_n 1, 1) := by decide +kernel
theorem dX8_at_5 : decode cX8_at 5 = .ok (.aload_n 0, 1) := by decide +kernel
theorem dX8_at_6 : decode cX8_at 6 = .ok (.getfield 15, 3) := by decide +kernel
theorem dX8_at_9 : decode cX8_at 9 = .ok (.if_icmp .ge 12, 3) := by decide +kernel
theorem dX8_at_12 : decode cX8_at 12 = .ok (.aload_n 0, 1) := by decide +kernel
theorem dX8_at_13 : decode cX8_at 13 = .ok (.getfield 9, 3) := by decide +kernel
theorem dX8_at_16 : decode cX8_at 16 = .ok (.iload_n 1, 1) := by decide +kernel
theorem dX8_at_17 : decode cX8_at 17 = .ok (.iaload, 1) := by decide +kernel
theorem dX8_at_18 : decode cX8_at 18 = .ok (.goto 4, 3) := by decide +kernel
theorem dX8_at_21 : decode cX8_at 21 = .ok (.iconst (-1), 1) := by decide +kernel
theorem dX8_at_22 : decode cX8_at 22 = .ok (.ireturn, 1) := by decide +kernel
theorem dX9_init_0 : decode cX9_init 0 = .ok (.aload_n 0, 1) := by decide +kernel
theorem dX9_init_1 : decode cX9_init 1 = .ok (.invokespecial 3, 3) := by decide +kernel
theorem dX9_init_4 : decode cX9_init 4 = .ok (.aload_n 0, 1) := by decide +kernel
theorem dX9_init_5 : decode cX9_init 5 = .ok (.new 9, 3) := by decide +kernel
theorem dX9_init_8 : decode cX9_init 8 = .ok (.dup, 1) := by decide +kernel
theorem dX9_init_9 : decode cX9_init 9 = .ok (.invokespecial 11, 3) := by decide +kernel
theorem dX9_init_12 : decode cX9_init 12 = .ok (.putfield 12, 3) := by decide +kernel
theorem dX9_init_15 : decode cX9_init 15 = .ok (.aload_n 0, 1) := by decide +kernel
theorem dX9_init_16 : decode cX9_init 16 = .ok (.new 16, 3) := by decide +kernel
theorem dX9_init_19 : decode cX9_init 19 = .ok (.dup, 1) := by decide +kernel
theorem dX9_init_20 : decode cX9_init 20 = .ok (.invokespecial 18, 3) := by decide +kernel
theorem dX9_init_23 : decode cX9_init 23 = .ok (.putfield 19, 3) := by decide +kernel
theorem dX9_init_26 : decode cX9_init 26 = .ok (.aload_n 0, 1) := by decide +kernel
theorem dX9_init_27 : decode cX9_init 27 = .ok (.new 23, 3) := by decide +kernel
theorem dX9_init_30 : decode cX9_init 30 = .ok (.dup, 1) := by decide +kernel
theorem dX9_init_31 : decode cX9_init 31 = .ok (.invokespecial 25, 3) := by decide +kernel
theorem dX9_init_34 : decode cX9_init 34 = .ok (.putfield 26, 3) := by decide +kernel
theorem dX9_init_37 : decode cX9_init 37 = .ok (.aload_n 0, 1) := by decide +kernel
theorem dX9_init_38 : decode cX9_init 38 = .ok (.new 30, 3) := by decide +kernel
theorem dX9_init_41 : decode cX9_init 41 = .ok (.dup, 1) := by decide +kernel
theorem dX9_init_42 : decode cX9_init 42 = .ok (.invokespecial 32, 3) := by decide +kernel
theorem dX9_init_45 : decode cX9_init 45 = .ok (.putfield 33, 3) := by decide +kernel
theorem dX9_init_48 : decode cX9_init 48 = .ok (.aload_n 0, 1) := by decide +kernel
theorem dX9_init_49 : decode cX9_init 49 = .ok (.new 37, 3) := by decide +kernel
theorem dX9_init_52 : decode cX9_init 52 = .ok (.dup, 1) := by decide +kernel
theorem dX9_init_53 : decode cX9_init 53 = .ok (.invokespecial 39, 3) := by decide +kernel
theorem dX9_init_56 : decode cX9_init 56 = .ok (.putfield 40, 3) := by decide +kernel
theorem dX9_init_59 : decode cX9_init 59 = .ok (.aload_n 0, 1) := by decide +kernel
theorem dX9_init_60 : decode cX9_init 60 = .ok (.new 44, 3) := by decide +kernel
theorem dX9_init_63 : decode cX9_init 63 = .ok (.dup, 1) := by decide +kernel
theorem dX9_init_64 : decode cX9_init 64 = .ok (.invokespecial 46, 3) := by decide +kernel
theorem dX9_init_67 : decode cX9_init 67 = .ok (.putfield 47, 3) := by decide +kernel
theorem dX9_init_70 : decode cX9_init 70 = .ok (.aload_n 0, 1) := by decide +kernel
theorem dX9_init_71 : decode cX9_init 71 = .ok (.new 51, 3) := by decide +kernel
theorem dX9_init_74 : decode cX9_init 74 = .ok (.dup, 1) := by decide +kernel
theorem dX9_init_75 : decode cX9_init 75 = .ok (.invokespecial 53, 3) := by decide +kernel
theorem dX9_init_78 : decode cX9_init 78 = .ok (.putfield 54, 3) := by decide +kernel
theorem dX9_init_81 : decode cX9_init 81 = .ok (.aload_n 0, 1) := by decide +kernel
theorem dX9_init_82 : decode cX9_init 82 = .ok (.new 58, 3) := by decide +kernel
theorem dX9_init_85 : decode cX9_init 85 = .ok (.dup, 1) := by decide +kernel
theorem dX9_init_86 : decode cX9_init 86 = .ok (.invokespecial 60, 3) := by decide +kernel
theorem dX9_init_89 : decode cX9_init 89 = .ok (.putfield 61, 3) := by decide +kernel
theorem dX9_init_92 : decode cX9_init 92 = .ok (.aload_n 0, 1) := by decide +kernel
theorem dX9_init_93 : decode cX9_init 93 = .ok (.new 58, 3) := by decide +kernel
theorem dX9_init_96 : decode cX9_init 96 = .ok (.dup, 1) := by decide +kernel
theorem dX9_init_97 : decode cX9_init 97 = .ok (.invokespecial 60, 3) := by decide +kernel
theorem dX9_init_100 : decode cX9_init 100 = .ok (.putfield 65, 3) := by decide +kernel
theorem dX9_init_103 : decode cX9_init 103 = .ok (.aload_n 0, 1) := by decide +kernel
theorem dX9_init_104 : decode cX9_init 104 = .ok (.iconst (-1), 1) := by decide +kernel
theorem dX9_init_105 : decode cX9_init 105 = .ok (.putfield 68, 3) := by decide +kernel
theorem dX9_init_108 : decode cX9_init 108 = .ok (.return_, 1) := by decide +kernel
theorem dX9_feed_0 : decode cX9_feed 0 = .ok (.aload_n 0, 1) := by decide +kernel
theorem dX9_feed_1 : decode cX9_feed 1 = .ok (.getfield 12, 3) := by decide +kernel
theorem dX9_feed_4 : decode cX9_feed 4 = .ok (.bipush 20, 2) := by decide +kernel
theorem dX9_feed_6 : decode cX9_feed 6 = .ok (.invokevirtual 72, 3) := by decide +kernel
theorem dX9_feed_9 : decode cX9_feed 9 = .ok (.ifCond .ne 5, 3) := by decide +kernel
theorem dX9_feed_12 : decode cX9_feed 12 = .ok (.iconst (-1), 1) := by decide +kernel
theorem dX9_feed_13 : decode cX9_feed 13 = .ok (.ireturn, 1) := by decide +kernel
theorem dX9_feed_14 : decode cX9_feed 14 = .ok (.aload_n 0, 1) := by decide +kernel
theorem dX9_feed_15 : decode cX9_feed 15 = .ok (.getfield 12, 3) := by decide +kernel
theorem dX9_feed_18 : decode cX9_feed 18 = .ok (.iload_n 1, 1) := by decide +kernel
theorem dX9_feed_19 : decode cX9_feed 19 = .ok (.invokevirtual 76, 3) := by decide +kernel
theorem dX9_feed_22 : decode cX9_feed 22 = .ok (.aload_n 0, 1) := by decide +kernel
theorem dX9_feed_23 : decode cX9_feed 23 = .ok (.getfield 12, 3) := by decide +kernel
theorem dX9_feed_26 : decode cX9_feed 26 = .ok (.iload_n 2, 1) := by decide +kernel
theorem dX9_feed_27 : decode cX9_feed 27 = .ok (.invokevirtual 76, 3) := by decide +kernel
theorem dX9_feed_30 : decode cX9_feed 30 = .ok (.aload_n 0, 1) := by decide +kernel
theorem dX9_feed_31 : decode cX9_feed 31 = .ok (.getfield 12, 3) := by decide +kernel
theorem dX9_feed_34 : decode cX9_feed 34 = .ok (.iload_n 3, 1) := by decide +kernel
theorem dX9_feed_35 : decode cX9_feed 35 = .ok (.invokevirtual 76, 3) := by decide +kernel
theorem dX9_feed_38 : decode cX9_feed 38 = .ok (.aload_n 0, 1) := by decide +kernel
theorem dX9_feed_39 : decode cX9_feed 39 = .ok (.getfield 12, 3) := by decide +kernel
theorem dX9_feed_42 : decode cX9_feed 42 = .ok (.iload 4, 2) := by decide +kernel
theorem dX9_feed_44 : decode cX9_feed 44 = .ok (.invokevirtual 76, 3) := by decide +kernel
theorem dX9_feed_47 : decode cX9_feed 47 = .ok (.aload_n 0, 1) := by decide +kernel
theorem dX9_feed_48 : decode cX9_feed 48 = .ok (.getfield 12, 3) := by decide +kernel
theorem dX9_feed_51 : decode cX9_feed 51 = .ok (.iload 5, 2) := by decide +kernel
theorem dX9_feed_53 : decode cX9_feed 53 = .ok (.invokevirtual 76, 3) := by decide +kernel
theorem dX9_feed_56 : decode cX9_feed 56 = .ok (.aload_n 0, 1) := by decide +kernel
theorem dX9_feed_57 : decode cX9_feed 57 = .ok (.getfield 12, 3) := by decide +kernel
theorem dX9_feed_60 : decode cX9_feed 60 = .ok (.invokevirtual 80, 3) := by decide +kernel
theorem dX9_feed_63 : decode cX9_feed 63 = .ok (.ireturn, 1) := by decide +kernel
theorem dX9_end_0 : decode cX9_end 0 = .ok (.aload_n 0, 1) := by decide +kernel
theorem dX9_end_1 : decode cX9_end 1 = .ok (.getfield 12, 3) := by decide +kernel
theorem dX9_end_4 : decode cX9_end 4 = .ok (.iload_n 1, 1) := by decide +kernel
theorem dX9_end_5 : decode cX9_end 5 = .ok (.invokevirtual 84, 3) := by decide +kernel
theorem dX9_end_8 : decode cX9_end 8 = .ok (.ireturn, 1) := by decide +kernel
theorem dX9_ends_0 : decode cX9_ends 0 = .ok (.iload_n 1, 1) := by decide +kernel
theorem dX9_ends_1 : decode cX9_ends 1 = .ok (.invokestatic 87, 3) := by decide +kernel
theorem dX9_ends_4 : decode cX9_ends 4 = .ok (.iload_n 2, 1) := by decide +kernel
theorem dX9_ends_5 : decode cX9_ends 5 = .ok (.invokestatic 90, 3) := by decide +kernel
theorem dX9_ends_8 : decode cX9_ends 8 = .ok (.iload_n 3, 1) := by decide +kernel
theorem dX9_ends_9 : decode cX9_ends 9 = .ok (.ifCond .lt 16, 3) := by decide +kernel
theorem dX9_ends_12 : decode cX9_ends 12 = .ok (.iload_n 3, 1) := by decide +kernel
theorem dX9_ends_13 : decode cX9_ends 13 = .ok (.iload 4, 2) := by decide +kernel
theorem dX9_ends_15 : decode cX9_ends 15 = .ok (.if_icmp .gt 10, 3) := by decide +kernel
theorem dX9_ends_18 : decode cX9_ends 18 = .ok (.iload 4, 2) := by decide +kernel
theorem dX9_ends_20 : decode cX9_ends 20 = .ok (.bipush 6, 2) := by decide +kernel
theorem dX9_ends_22 : decode cX9_ends 22 = .ok (.if_icmp .le 13, 3) := by decide +kernel
theorem dX9_ends_25 : decode cX9_ends 25 = .ok (.new 93, 3) := by decide +kernel
theorem dX9_ends_28 : decode cX9_ends 28 = .ok (.dup, 1) := by decide +kernel
theorem dX9_ends_29 : decode cX9_ends 29 = .ok (.ldc 95, 2) := by decide +kernel
theorem dX9_ends_31 : decode cX9_ends 31 = .ok (.invokespecial 97, 3) := by decide +kernel
theorem dX9_ends_34 : decode cX9_ends 34 = .ok (.athrow, 1) := by decide +kernel
theorem dX9_ends_35 : decode cX9_ends 35 = .ok (.aload_n 0, 1) := by decide +kernel
theorem dX9_ends_36 : decode cX9_ends 36 = .ok (.getfield 19, 3) := by decide +kernel
theorem dX9_ends_39 : decode cX9_ends 39 = .ok (.iload_n 1, 1) := by decide +kernel
theorem dX9_ends_40 : decode cX9_ends 40 = .ok (.iload_n 2, 1) := by decide +kernel
theorem dX9_ends_41 : decode cX9_ends 41 = .ok (.iload_n 3, 1) := by decide +kernel
theorem dX9_ends_42 : decode cX9_ends 42 = .ok (.iload 4, 2) := by decide +kernel
theorem dX9_ends_44 : decode cX9_ends 44 = .ok (.invokevirtual 100, 3) := by decide +kernel
theorem dX9_ends_47 : decode cX9_ends 47 = .ok (.return_, 1) := by decide +kernel
theorem dX9_alone_0 : decode cX9_alone 0 = .ok (.iload_n 1, 1) := by decide +kernel
theorem dX9_alone_1 : decode cX9_alone 1 = .ok (.invokestatic 87, 3) := by decide +kernel
theorem dX9_alone_4 : decode cX9_alone 4 = .ok (.iload_n 2, 1) := by decide +kernel
theorem dX9_alone_5 : decode cX9_alone 5 = .ok (.invokestatic 90, 3) := by decide +kernel
theorem dX9_alone_8 : decode cX9_alone 8 = .ok (.iload_n 3, 1) := by decide +kernel
theorem dX9_alone_9 : decode cX9_alone 9 = .ok (.ifCond .lt 9, 3) := by decide +kernel
theorem dX9_alone_12 : decode cX9_alone 12 = .ok (.iload_n 3, 1) := by decide +kernel
theorem dX9_alone_13 : decode cX9_alone 13 = .ok (.bipush 100, 2) := by decide +kernel
theorem dX9_alone_15 : decode cX9_alone 15 = .ok (.if_icmp .le 13, 3) := by decide +kernel
theorem dX9_alone_18 : decode cX9_alone 18 = .ok (.new 93, 3) := by decide +kernel
theorem dX9_alone_21 : decode cX9_alone 21 = .ok (.dup, 1) := by decide +kernel
theorem dX9_alone_22 : decode cX9_alone 22 = .ok (.ldc 104, 2) := by decide +kernel
theorem dX9_alone_24 : decode cX9_alone 24 = .ok (.invokespecial 97, 3) := by decide +kernel
theorem dX9_alone_27 : decode cX9_alone 27 = .ok (.athrow, 1) := by decide +kernel
theorem dX9_alone_28 : decode cX9_alone 28 = .ok (.aload_n 0, 1) := by decide +kernel
theorem dX9_alone_29 : decode cX9_alone 29 = .ok (.getfield 19, 3) := by decide +kernel
theorem dX9_alone_32 : decode cX9_alone 32 = .ok (.iload_n 1, 1) := by decide +kernel
theorem dX9_alone_33 : decode cX9_alone 33 = .ok (.iload_n 2, 1) := by decide +kernel
theorem dX9_alone_34 : decode cX9_alone 34 = .ok (.iload_n 3, 1) := by decide +kernel
theorem dX9_alone_35 : decode cX9_alone 35 = .ok (.invokevirtual 106, 3) := by decide +kernel
theorem dX9_alone_38 : decode cX9_alone 38 = .ok (.return_, 1) := by decide +kernel
theorem dX9_holds_0 : decode cX9_holds 0 = .ok (.iload_n 1, 1) := by decide +kernel
theorem dX9_holds_1 : decode cX9_holds 1 = .ok (.invokestatic 87, 3) := by decide +kernel
theorem dX9_holds_4 : decode cX9_holds 4 = .ok (.aload_n 0, 1) := by decide +kernel
theorem dX9_holds_5 : decode cX9_holds 5 = .ok (.getfield 19, 3) := by decide +kernel
theorem dX9_holds_8 : decode cX9_holds 8 = .ok (.iload_n 1, 1) := by decide +kernel
theorem dX9_holds_9 : decode cX9_holds 9 = .ok (.iload_n 2, 1) := by decide +kernel
theorem dX9_holds_10 : decode cX9_holds 10 = .ok (.invokevirtual 110, 3) := by decide +kernel
theorem dX9_holds_13 : decode cX9_holds 13 = .ok (.ireturn, 1) := by decide +kernel
theorem dX9_draft_0 : decode cX9_draft 0 = .ok (.iload_n 1, 1) := by decide +kernel
theorem dX9_draft_1 : decode cX9_draft 1 = .ok (.invokestatic 90, 3) := by decide +kernel
theorem dX9_draft_4 : decode cX9_draft 4 = .ok (.iload_n 2, 1) := by decide +kernel
theorem dX9_draft_5 : decode cX9_draft 5 = .ok (.ifCond .eq 11, 3) := by decide +kernel
theorem dX9_draft_8 : decode cX9_draft 8 = .ok (.aload_n 0, 1) := by decide +kernel
theorem dX9_draft_9 : decode cX9_draft 9 = .ok (.iload_n 3, 1) := by decide +kernel
theorem dX9_draft_10 : decode cX9_draft 10 = .ok (.invokevirtual 114, 3) := by decide +kernel
theorem dX9_draft_13 : decode cX9_draft 13 = .ok (.goto 7, 3) := by decide +kernel
theorem dX9_draft_16 : decode cX9_draft 16 = .ok (.iload_n 3, 1) := by decide +kernel
theorem dX9_draft_17 : decode cX9_draft 17 = .ok (.invokestatic 117, 3) := by decide +kernel
theorem dX9_draft_20 : decode cX9_draft 20 = .ok (.aload_n 0, 1) := by decide +kernel
theorem dX9_draft_21 : decode cX9_draft 21 = .ok (.getfield 33, 3) := by decide +kernel
theorem dX9_draft_24 : decode cX9_draft 24 = .ok (.iload_n 1, 1) := by decide +kernel
theorem dX9_draft_25 : decode cX9_draft 25 = .ok (.iload_n 2, 1) := by decide +kernel
theorem dX9_draft_26 : decode cX9_draft 26 = .ok (.iload_n 3, 1) := by decide +kernel
theorem dX9_draft_27 : decode cX9_draft 27 = .ok (.invokevirtual 120, 3) := by decide +kernel
theorem dX9_draft_30 : decode cX9_draft 30 = .ok (.ifCond .eq 13, 3) := by decide +kernel
theorem dX9_draft_33 : decode cX9_draft 33 = .ok (.aload_n 0, 1) := by decide +kernel
theorem dX9_draft_34 : decode cX9_draft 34 = .ok (.getfield 33, 3) := by decide +kernel
theorem dX9_draft_37 : decode cX9_draft 37 = .ok (.invokevirtual 123, 3) := by decide +kernel
theorem dX9_draft_40 : decode cX9_draft 40 = .ok (.goto 4, 3) := by decide +kernel
theorem dX9_draft_43 : decode cX9_draft 43 = .ok (.iconst (-1), 1) := by decide +kernel
theorem dX9_draft_44 : decode cX9_draft 44 = .ok (.ireturn, 1) := by decide +kernel
theorem dX9_put_0 : decode cX9_put 0 = .ok (.iload_n 1, 1) := by decide +kernel
theorem dX9_put_1 : decode cX9_put 1 = .ok (.invokestatic 87, 3) := by decide +kernel
theorem dX9_put_4 : decode cX9_put 4 = .ok (.iload_n 2, 1) := by decide +kernel
theorem dX9_put_5 : decode cX9_put 5 = .ok (.ifCond .lt 15, 3) := by decide +kernel
theorem dX9_put_8 : decode cX9_put 8 = .ok (.iload_n 2, 1) := by decide +kernel
theorem dX9_put_9 : decode cX9_put 9 = .ok (.iload_n 3, 1) := by decide +kernel
theorem dX9_put_10 : decode cX9_put 10 = .ok (.if_icmp .gt 10, 3) := by decide +kernel
theorem dX9_put_13 : decode cX9_put 13 = .ok (.iload_n 3, 1) := by decide +kernel
theorem dX9_put_14 : decode cX9_put 14 = .ok (.sipush 1000, 3) := by decide +kernel
theorem dX9_put_17 : decode cX9_put 17 = .ok (.if_icmp .le 13, 3) := by decide +kernel
theorem dX9_put_20 : decode cX9_put 20 = .ok (.new 93, 3) := by decide +kernel
theorem dX9_put_23 : decode cX9_put 23 = .ok (.dup, 1) := by decide +kernel
theorem dX9_put_24 : decode cX9_put 24 = .ok (.ldc 126, 2) := by decide +kernel
theorem dX9_put_26 : decode cX9_put 26 = .ok (.invokespecial 97, 3) := by decide +kernel
theorem dX9_put_29 : decode cX9_put 29 = .ok (.athrow, 1) := by decide +kernel
theorem dX9_put_30 : decode cX9_put 30 = .ok (.aload_n 0, 1) := by decide +kernel
theorem dX9_put_31 : decode cX9_put 31 = .ok (.getfield 33, 3) := by decide +kernel
theorem dX9_put_34 : decode cX9_put 34 = .ok (.invokevirtual 123, 3) := by decide +kernel
theorem dX9_put_37 : decode cX9_put 37 = .ok (.ifCond .ne 13, 3) := by decide +kernel
theorem dX9_put_40 : decode cX9_put 40 = .ok (.new 93, 3) := by decide +kernel
theorem dX9_put_43 : decode cX9_put 43 = .ok (.dup, 1) := by decide +kernel
theorem dX9_put_44 : decode cX9_put 44 = .ok (.ldc 128, 2) := by decide +kernel
theorem dX9_put_46 : decode cX9_put 46 = .ok (.invokespecial 97, 3) := by decide +kernel
theorem dX9_put_49 : decode cX9_put 49 = .ok (.athrow, 1) := by decide +kernel
theorem dX9_put_50 : decode cX9_put 50 = .ok (.aload_n 0, 1) := by decide +kernel
theorem dX9_put_51 : decode cX9_put 51 = .ok (.getfield 40, 3) := by decide +kernel
theorem dX9_put_54 : decode cX9_put 54 = .ok (.invokevirtual 130, 3) := by decide +kernel
theorem dX9_put_57 : decode cX9_put 57 = .ok (.bipush 120, 2) := by decide +kernel
theorem dX9_put_59 : decode cX9_put 59 = .ok (.if_icmp .lt 13, 3) := by decide +kernel
theorem dX9_put_62 : decode cX9_put 62 = .ok (.new 131, 3) := by decide +kernel
theorem dX9_put_65 : decode cX9_put 65 = .ok (.dup, 1) := by decide +kernel
theorem dX9_put_66 : decode cX9_put 66 = .ok (.ldc 133, 2) := by decide +kernel
theorem dX9_put_68 : decode cX9_put 68 = .ok (.invokespecial 135, 3) := by decide +kernel
theorem dX9_put_71 : decode cX9_put 71 = .ok (.athrow, 1) := by decide +kernel
theorem dX9_put_72 : decode cX9_put 72 = .ok (.new 136, 3) := by decide +kernel
theorem dX9_put_75 : decode cX9_put 75 = .ok (.dup, 1) := by decide +kernel
theorem dX9_put_76 : decode cX9_put 76 = .ok (.iload_n 1, 1) := by decide +kernel
theorem dX9_put_77 : decode cX9_put 77 = .ok (.iload_n 2, 1) := by decide +kernel
theorem dX9_put_78 : decode cX9_put 78 = .ok (.iload_n 3, 1) := by decide +kernel
theorem dX9_put_79 : decode cX9_put 79 = .ok (.aload_n 0, 1) := by decide +kernel
theorem dX9_put_80 : decode cX9_put 80 = .ok (.getfield 33, 3) := by decide +kernel
theorem dX9_put_83 : decode cX9_put 83 = .ok (.invokevirtual 138, 3) := by decide +kernel
theorem dX9_put_86 : decode cX9_put 86 = .ok (.invokespecial 142, 3) := by decide +kernel
theorem dX9_put_89 : decode cX9_put 89 = .ok (.astore 4, 2) := by decide +kernel
theorem dX9_put_91 : decode cX9_put 91 = .ok (.aload_n 0, 1) := by decide +kernel
theorem dX9_put_92 : decode cX9_put 92 = .ok (.getfield 33, 3) := by decide +kernel
theorem dX9_put_95 : decode cX9_put 95 = .ok (.invokevirtual 145, 3) := by decide +kernel
theorem dX9_put_98 : decode cX9_put 98 = .ok (.aload_n 0, 1) := by decide +kernel
theorem dX9_put_99 : decode cX9_put 99 = .ok (.aload 4, 2) := by decide +kernel
theorem dX9_put_101 : decode cX9_put 101 = .ok (.invokevirtual 148, 3) := by decide +kernel
theorem dX9_put_104 : decode cX9_put 104 = .ok (.istore 5, 2) := by decide +kernel
theorem dX9_put_106 : decode cX9_put 106 = .ok (.iload 5, 2) := by decide +kernel
theorem dX9_put_108 : decode cX9_put 108 = .ok (.ifCond .ne 15, 3) := by decide +kernel
theorem dX9_put_111 : decode cX9_put 111 = .ok (.aload_n 0, 1) := by decide +kernel
theorem dX9_put_112 : decode cX9_put 112 = .ok (.getfield 40, 3) := by decide +kernel
theorem dX9_put_115 : decode cX9_put 115 = .ok (.aload 4, 2) := by decide +kernel
theorem dX9_put_117 : decode cX9_put 117 = .ok (.invokevirtual 152, 3) := by decide +kernel
theorem dX9_put_120 : decode cX9_put 120 = .ok (.goto 6, 3) := by decide +kernel
theorem dX9_put_123 : decode cX9_put 123 = .ok (.iload 5, 2) := by decide +kernel
theorem dX9_put_125 : decode cX9_put 125 = .ok (.ineg, 1) := by decide +kernel
theorem dX9_put_126 : decode cX9_put 126 = .ok (.ireturn, 1) := by decide +kernel
theorem dX9_strike_0 : decode cX9_strike 0 = .ok (.aload_n 0, 1) := by decide +kernel
theorem dX9_strike_1 : decode cX9_strike 1 = .ok (.iload_n 1, 1) := by decide +kernel
theorem dX9_strike_2 : decode cX9_strike 2 = .ok (.invokevirtual 114, 3) := by decide +kernel
theorem dX9_strike_5 : decode cX9_strike 5 = .ok (.aload_n 0, 1) := by decide +kernel
theorem dX9_strike_6 : decode cX9_strike 6 = .ok (.getfield 40, 3) := by decide +kernel
theorem dX9_strike_9 : decode cX9_strike 9 = .ok (.iload_n 1, 1) := by decide +kernel
theorem dX9_strike_10 : decode cX9_strike 10 = .ok (.iload_n 2, 1) := by decide +kernel
theorem dX9_strike_11 : decode cX9_strike 11 = .ok (.aload_n 0, 1) := by decide +kernel
theorem dX9_strike_12 : decode cX9_strike 12 = .ok (.getfield 19, 3) := by decide +kernel
theorem dX9_strike_15 : decode cX9_strike 15 = .ok (.invokevirtual 154, 3) := by decide +kernel
theorem dX9_strike_18 : decode cX9_strike 18 = .ok (.ireturn, 1) := by decide +kernel
theorem dX9_one_0 : decode cX9_one 0 = .ok (.iload_n 1, 1) := by decide +kernel
theorem dX9_one_1 : decode cX9_one 1 = .ok (.invokestatic 117, 3) := by decide +kernel
theorem dX9_one_4 : decode cX9_one 4 = .ok (.iload_n 2, 1) := by decide +kernel
theorem dX9_one_5 : decode cX9_one 5 = .ok (.invokestatic 117, 3) := by decide +kernel
theorem dX9_one_8 : decode cX9_one 8 = .ok (.aload_n 0, 1) := by decide +kernel
theorem dX9_one_9 : decode cX9_one 9 = .ok (.getfield 26, 3) := by decide +kernel
theorem dX9_one_12 : decode cX9_one 12 = .ok (.iload_n 1, 1) := by decide +kernel
theorem dX9_one_13 : decode cX9_one 13 = .ok (.iload_n 2, 1) := by decide +kernel
theorem dX9_one_14 : decode cX9_one 14 = .ok (.invokevirtual 158, 3) := by decide +kernel
theorem dX9_one_17 : decode cX9_one 17 = .ok (.ireturn, 1) := by decide +kernel
theorem dX9_part_0 : decode cX9_part 0 = .ok (.aload_n 0, 1) := by decide +kernel
theorem dX9_part_1 : decode cX9_part 1 = .ok (.getfield 26, 3) := by decide +kernel
theorem dX9_part_4 : decode cX9_part 4 = .ok (.invokevirtual 162, 3) := by decide +kernel
theorem dX9_part_7 : decode cX9_part 7 = .ok (.ireturn, 1) := by decide +kernel
theorem dX9_as_0 : decode cX9_as 0 = .ok (.iload_n 1, 1) := by decide +kernel
theorem dX9_as_1 : decode cX9_as 1 = .ok (.invokestatic 117, 3) := by decide +kernel
theorem dX9_as_4 : decode cX9_as 4 = .ok (.aload_n 0, 1) := by decide +kernel
theorem dX9_as_5 : decode cX9_as 5 = .ok (.getfield 26, 3) := by decide +kernel
theorem dX9_as_8 : decode cX9_as 8 = .ok (.iload_n 1, 1) := by decide +kernel
theorem dX9_as_9 : decode cX9_as 9 = .ok (.invokevirtual 166, 3) := by decide +kernel
theorem dX9_as_12 : decode cX9_as 12 = .ok (.ireturn, 1) := by decide +kernel
theorem dX9_look_0 : decode cX9_look 0 = .ok (.aload_n 0, 1) := by decide +kernel
theorem dX9_look_1 : decode cX9_look 1 = .ok (.iload_n 1, 1) := by decide +kernel
theorem dX9_look_2 : decode cX9_look 2 = .ok (.invokevirtual 114, 3) := by decide +kernel
theorem dX9_look_5 : decode cX9_look 5 = .ok (.aload_n 0, 1) := by decide +kernel
theorem dX9_look_6 : decode cX9_look 6 = .ok (.getfield 40, 3) := by decide +kernel
theorem dX9_look_9 : decode cX9_look 9 = .ok (.iload_n 1, 1) := by decide +kernel
theorem dX9_look_10 : decode cX9_look 10 = .ok (.invokevirtual 170, 3) := by decide +kernel
theorem dX9_look_13 : decode cX9_look 13 = .ok (.astore_n 3, 1) := by decide +kernel
theorem dX9_look_14 : decode cX9_look 14 = .ok (.iload_n 2, 1) := by decide +kernel
theorem dX9_look_15 : decode cX9_look 15 = .ok (.tableswitch 65 0 4 #[33, 38, 43, 48, 56], 33) := by decide +kernel
theorem dX9_look_48 : decode cX9_look 48 = .ok (.aload_n 3, 1) := by decide +kernel
theorem dX9_look_49 : decode cX9_look 49 = .ok (.getfield 174, 3) := by decide +kernel
theorem dX9_look_52 : decode cX9_look 52 = .ok (.ireturn, 1) := by decide +kernel
theorem dX9_look_53 : decode cX9_look 53 = .ok (.aload_n 3, 1) := by decide +kernel
theorem dX9_look_54 : decode cX9_look 54 = .ok (.getfield 177, 3) := by decide +kernel
theorem dX9_look_57 : decode cX9_look 57 = .ok (.ireturn, 1) := by decide +kernel
theorem dX9_look_58 : decode cX9_look 58 = .ok (.aload_n 3, 1) := by decide +kernel
theorem dX9_look_59 : decode cX9_look 59 = .ok (.getfield 180, 3) := by decide +kernel
theorem dX9_look_62 : decode cX9_look 62 = .ok (.ireturn, 1) := by decide +kernel
theorem dX9_look_63 : decode cX9_look 63 = .ok (.aload_n 3, 1) := by decide +kernel
theorem dX9_look_64 : decode cX9_look 64 = .ok (.getfield 183, 3) := by decide +kernel
theorem dX9_look_67 : decode cX9_look 67 = .ok (.invokevirtual 123, 3) := by decide +kernel
theorem dX9_look_70 : decode cX9_look 70 = .ok (.ireturn, 1) := by decide +kernel
theorem dX9_look_71 : decode cX9_look 71 = .ok (.aload_n 0, 1) := by decide +kernel
theorem dX9_look_72 : decode cX9_look 72 = .ok (.getfield 40, 3) := by decide +kernel
theorem dX9_look_75 : decode cX9_look 75 = .ok (.iload_n 1, 1) := by decide +kernel
theorem dX9_look_76 : decode cX9_look 76 = .ok (.invokevirtual 186, 3) := by decide +kernel
theorem dX9_look_79 : decode cX9_look 79 = .ok (.ireturn, 1) := by decide +kernel
theorem dX9_look_80 : decode cX9_look 80 = .ok (.new 189, 3) := by decide +kernel
theorem dX9_look_83 : decode cX9_look 83 = .ok (.dup, 1) := by decide +kernel
theorem dX9_look_84 : decode cX9_look 84 = .ok (.ldc 191, 2) := by decide +kernel
theorem dX9_look_86 : decode cX9_look 86 = .ok (.invokespecial 193, 3) := by decide +kernel
theorem dX9_look_89 : decode cX9_look 89 = .ok (.athrow, 1) := by decide +kernel
theorem dX9_ended_0 : decode cX9_ended 0 = .ok (.aload_n 0, 1) := by decide +kernel
theorem dX9_ended_1 : decode cX9_ended 1 = .ok (.iload_n 1, 1) := by decide +kernel
theorem dX9_ended_2 : decode cX9_ended 2 = .ok (.invokevirtual 114, 3) := by decide +kernel
theorem dX9_ended_5 : decode cX9_ended 5 = .ok (.aload_n 0, 1) := by decide +kernel
theorem dX9_ended_6 : decode cX9_ended 6 = .ok (.getfield 40, 3) := by decide +kernel
theorem dX9_ended_9 : decode cX9_ended 9 = .ok (.iload_n 1, 1) := by decide +kernel
theorem dX9_ended_10 : decode cX9_ended 10 = .ok (.invokevirtual 170, 3) := by decide +kernel
theorem dX9_ended_13 : decode cX9_ended 13 = .ok (.getfield 183, 3) := by decide +kernel
theorem dX9_ended_16 : decode cX9_ended 16 = .ok (.astore 4, 2) := by decide +kernel
theorem dX9_ended_18 : decode cX9_ended 18 = .ok (.iload_n 2, 1) := by decide +kernel
theorem dX9_ended_19 : decode cX9_ended 19 = .ok (.ifCond .lt 12, 3) := by decide +kernel
theorem dX9_ended_22 : decode cX9_ended 22 = .ok (.iload_n 2, 1) := by decide +kernel
theorem dX9_ended_23 : decode cX9_ended 23 = .ok (.aload 4, 2) := by decide +kernel
theorem dX9_ended_25 : decode cX9_ended 25 = .ok (.invokevirtual 123, 3) := by decide +kernel
theorem dX9_ended_28 : decode cX9_ended 28 = .ok (.if_icmp .lt 13, 3) := by decide +kernel
theorem dX9_ended_31 : decode cX9_ended 31 = .ok (.new 189, 3) := by decide +kernel
theorem dX9_ended_34 : decode cX9_ended 34 = .ok (.dup, 1) := by decide +kernel
theorem dX9_ended_35 : decode cX9_ended 35 = .ok (.ldc 194, 2) := by decide +kernel
theorem dX9_ended_37 : decode cX9_ended 37 = .ok (.invokespecial 193, 3) := by decide +kernel
theorem dX9_ended_40 : decode cX9_ended 40 = .ok (.athrow, 1) := by decide +kernel
theorem dX9_ended_41 : decode cX9_ended 41 = .ok (.iload_n 3, 1) := by decide +kernel
theorem dX9_ended_42 : decode cX9_ended 42 = .ok (.tableswitch 47 0 2 #[26, 33, 40], 26) := by decide +kernel
theorem dX9_ended_68 : decode cX9_ended 68 = .ok (.aload 4, 2) := by decide +kernel
theorem dX9_ended_70 : decode cX9_ended 70 = .ok (.iload_n 2, 1) := by decide +kernel
theorem dX9_ended_71 : decode cX9_ended 71 = .ok (.invokevirtual 196, 3) := by decide +kernel
theorem dX9_ended_74 : decode cX9_ended 74 = .ok (.ireturn, 1) := by decide +kernel
theorem dX9_ended_75 : decode cX9_ended 75 = .ok (.aload 4, 2) := by decide +kernel
theorem dX9_ended_77 : decode cX9_ended 77 = .ok (.iload_n 2, 1) := by decide +kernel
theorem dX9_ended_78 : decode cX9_ended 78 = .ok (.invokevirtual 199, 3) := by decide +kernel
theorem dX9_ended_81 : decode cX9_ended 81 = .ok (.ireturn, 1) := by decide +kernel
theorem dX9_ended_82 : decode cX9_ended 82 = .ok (.aload 4, 2) := by decide +kernel
theorem dX9_ended_84 : decode cX9_ended 84 = .ok (.iload_n 2, 1) := by decide +kernel
theorem dX9_ended_85 : decode cX9_ended 85 = .ok (.invokevirtual 202, 3) := by decide +kernel
theorem dX9_ended_88 : decode cX9_ended 88 = .ok (.ireturn, 1) := by decide +kernel
theorem dX9_ended_89 : decode cX9_ended 89 = .ok (.new 189, 3) := by decide +kernel
theorem dX9_ended_92 : decode cX9_ended 92 = .ok (.dup, 1) := by decide +kernel
theorem dX9_ended_93 : decode cX9_ended 93 = .ok (.ldc 205, 2) := by decide +kernel
theorem dX9_ended_95 : decode cX9_ended 95 = .ok (.invokespecial 193, 3) := by decide +kernel
theorem dX9_ended_98 : decode cX9_ended 98 = .ok (.athrow, 1) := by decide +kernel
theorem dX9_question_0 : decode cX9_question 0 = .ok (.aload_n 0, 1) := by decide +kernel
theorem dX9_question_1 : decode cX9_question 1 = .ok (.getfield 47, 3) := by decide +kernel
theorem dX9_question_4 : decode cX9_question 4 = .ok (.aload_n 0, 1) := by decide +kernel
theorem dX9_question_5 : decode cX9_question 5 = .ok (.getfield 12, 3) := by decide +kernel
theorem dX9_question_8 : decode cX9_question 8 = .ok (.aload_n 0, 1) := by decide +kernel
theorem dX9_question_9 : decode cX9_question 9 = .ok (.getfield 65, 3) := by decide +kernel
theorem dX9_question_12 : decode cX9_question 12 = .ok (.invokevirtual 207, 3) := by decide +kernel
theorem dX9_question_15 : decode cX9_question 15 = .ok (.istore_n 1, 1) := by decide +kernel
theorem dX9_question_16 : decode cX9_question 16 = .ok (.aload_n 0, 1) := by decide +kernel
theorem dX9_question_17 : decode cX9_question 17 = .ok (.getfield 12, 3) := by decide +kernel
theorem dX9_question_20 : decode cX9_question 20 = .ok (.invokevirtual 211, 3) := by decide +kernel
theorem dX9_question_23 : decode cX9_question 23 = .ok (.aload_n 0, 1) := by decide +kernel
theorem dX9_question_24 : decode cX9_question 24 = .ok (.iload_n 1, 1) := by decide +kernel
theorem dX9_question_25 : decode cX9_question 25 = .ok (.ifCond .eq 7, 3) := by decide +kernel
theorem dX9_question_28 : decode cX9_question 28 = .ok (.iconst (-1), 1) := by decide +kernel
theorem dX9_question_29 : decode cX9_question 29 = .ok (.goto 10, 3) := by decide +kernel
theorem dX9_question_32 : decode cX9_question 32 = .ok (.aload_n 0, 1) := by decide +kernel
theorem dX9_question_33 : decode cX9_question 33 = .ok (.getfield 47, 3) := by decide +kernel
theorem dX9_question_36 : decode cX9_question 36 = .ok (.invokevirtual 212, 3) := by decide +kernel
theorem dX9_question_39 : decode cX9_question 39 = .ok (.putfield 68, 3) := by decide +kernel
theorem dX9_question_42 : decode cX9_question 42 = .ok (.iload_n 1, 1) := by decide +kernel
theorem dX9_question_43 : decode cX9_question 43 = .ok (.ifCond .ne 13, 3) := by decide +kernel
theorem dX9_question_46 : decode cX9_question 46 = .ok (.new 93, 3) := by decide +kernel
theorem dX9_question_49 : decode cX9_question 49 = .ok (.dup, 1) := by decide +kernel
theorem dX9_question_50 : decode cX9_question 50 = .ok (.ldc 215, 2) := by decide +kernel
theorem dX9_question_52 : decode cX9_question 52 = .ok (.invokespecial 97, 3) := by decide +kernel
theorem dX9_question_55 : decode cX9_question 55 = .ok (.athrow, 1) := by decide +kernel
theorem dX9_question_56 : decode cX9_question 56 = .ok (.aload_n 0, 1) := by decide +kernel
theorem dX9_question_57 : decode cX9_question 57 = .ok (.getfield 61, 3) := by decide +kernel
theorem dX9_question_60 : decode cX9_question 60 = .ok (.astore_n 2, 1) := by decide +kernel
theorem dX9_question_61 : decode cX9_question 61 = .ok (.aload_n 0, 1) := by decide +kernel
theorem dX9_question_62 : decode cX9_question 62 = .ok (.aload_n 0, 1) := by decide +kernel
theorem dX9_question_63 : decode cX9_question 63 = .ok (.getfield 65, 3) := by decide +kernel
theorem dX9_question_66 : decode cX9_question 66 = .ok (.putfield 61, 3) := by decide +kernel
theorem dX9_question_69 : decode cX9_question 69 = .ok (.aload_n 0, 1) := by decide +kernel
theorem dX9_question_70 : decode cX9_question 70 = .ok (.aload_n 2, 1) := by decide +kernel
theorem dX9_question_71 : decode cX9_question 71 = .ok (.putfield 65, 3) := by decide +kernel
theorem dX9_question_74 : decode cX9_question 74 = .ok (.aload_n 0, 1) := by decide +kernel
theorem dX9_question_75 : decode cX9_question 75 = .ok (.getfield 61, 3) := by decide +kernel
theorem dX9_question_78 : decode cX9_question 78 = .ok (.invokevirtual 217, 3) := by decide +kernel
theorem dX9_question_81 : decode cX9_question 81 = .ok (.ireturn, 1) := by decide +kernel
theorem dX9_fault_0 : decode cX9_fault 0 = .ok (.aload_n 0, 1) := by decide +kernel
theorem dX9_fault_1 : decode cX9_fault 1 = .ok (.getfield 68, 3) := by decide +kernel
theorem dX9_fault_4 : decode cX9_fault 4 = .ok (.ireturn, 1) := by decide +kernel
theorem dX9_answers_0 : decode cX9_answers 0 = .ok (.aload_n 0, 1) := by decide +kernel
theorem dX9_answers_1 : decode cX9_answers 1 = .ok (.getfield 61, 3) := by decide +kernel
theorem dX9_answers_4 : decode cX9_answers 4 = .ok (.invokevirtual 217, 3) := by decide +kernel
theorem dX9_answers_7 : decode cX9_answers 7 = .ok (.ifCond .ne 5, 3) := by decide +kernel
theorem dX9_answers_10 : decode cX9_answers 10 = .ok (.iconst 0, 1) := by decide +kernel
theorem dX9_answers_11 : decode cX9_answers 11 = .ok (.ireturn, 1) := by decide +kernel
theorem dX9_answers_12 : decode cX9_answers 12 = .ok (.aload_n 0, 1) := by decide +kernel
theorem dX9_answers_13 : decode cX9_answers 13 = .ok (.getfield 54, 3) := by decide +kernel
theorem dX9_answers_16 : decode cX9_answers 16 = .ok (.aload_n 0, 1) := by decide +kernel
theorem dX9_answers_17 : decode cX9_answers 17 = .ok (.getfield 61, 3) := by decide +kernel
theorem dX9_answers_20 : decode cX9_answers 20 = .ok (.aload_n 0, 1) := by decide +kernel
theorem dX9_answers_21 : decode cX9_answers 21 = .ok (.getfield 40, 3) := by decide +kernel
theorem dX9_answers_24 : decode cX9_answers 24 = .ok (.aload_n 0, 1) := by decide +kernel
theorem dX9_answers_25 : decode cX9_answers 25 = .ok (.getfield 26, 3) := by decide +kernel
theorem dX9_answers_28 : decode cX9_answers 28 = .ok (.iload_n 1, 1) := by decide +kernel
theorem dX9_answers_29 : decode cX9_answers 29 = .ok (.invokevirtual 220, 3) := by decide +kernel
theorem dX9_answers_32 : decode cX9_answers 32 = .ok (.aload_n 0, 1) := by decide +kernel
theorem dX9_answers_33 : decode cX9_answers 33 = .ok (.getfield 54, 3) := by decide +kernel
theorem dX9_answers_36 : decode cX9_answers 36 = .ok (.invokevirtual 224, 3) := by decide +kernel
theorem dX9_answers_39 : decode cX9_answers 39 = .ok (.ireturn, 1) := by decide +kernel
theorem dX9_answer_0 : decode cX9_answer 0 = .ok (.iload_n 2, 1) := by decide +kernel
theorem dX9_answer_1 : decode cX9_answer 1 = .ok (.ifCond .lt 23, 3) := by decide +kernel
theorem dX9_answer_4 : decode cX9_answer 4 = .ok (.iload_n 3, 1) := by decide +kernel
theorem dX9_answer_5 : decode cX9_answer 5 = .ok (.ifCond .lt 19, 3) := by decide +kernel
theorem dX9_answer_8 : decode cX9_answer 8 = .ok (.iload_n 3, 1) := by decide +kernel
theorem dX9_answer_9 : decode cX9_answer 9 = .ok (.iconst 3, 1) := by decide +kernel
theorem dX9_answer_10 : decode cX9_answer 10 = .ok (.if_icmp .ge 14, 3) := by decide +kernel
theorem dX9_answer_13 : decode cX9_answer 13 = .ok (.aload_n 0, 1) := by decide +kernel
theorem dX9_answer_14 : decode cX9_answer 14 = .ok (.getfield 61, 3) := by decide +kernel
theorem dX9_answer_17 : decode cX9_answer 17 = .ok (.iload_n 3, 1) := by decide +kernel
theorem dX9_answer_18 : decode cX9_answer 18 = .ok (.invokevirtual 227, 3) := by decide +kernel
theorem dX9_answer_21 : decode cX9_answer 21 = .ok (.ifCond .ne 5, 3) := by decide +kernel
theorem dX9_answer_24 : decode cX9_answer 24 = .ok (.iconst (-1), 1) := by decide +kernel
theorem dX9_answer_25 : decode cX9_answer 25 = .ok (.ireturn, 1) := by decide +kernel
theorem dX9_answer_26 : decode cX9_answer 26 = .ok (.aload_n 0, 1) := by decide +kernel
theorem dX9_answer_27 : decode cX9_answer 27 = .ok (.getfield 54, 3) := by decide +kernel
theorem dX9_answer_30 : decode cX9_answer 30 = .ok (.aload_n 0, 1) := by decide +kernel
theorem dX9_answer_31 : decode cX9_answer 31 = .ok (.getfield 61, 3) := by decide +kernel
theorem dX9_answer_34 : decode cX9_answer 34 = .ok (.aload_n 0, 1) := by decide +kernel
theorem dX9_answer_35 : decode cX9_answer 35 = .ok (.getfield 40, 3) := by decide +kernel
theorem dX9_answer_38 : decode cX9_answer 38 = .ok (.aload_n 0, 1) := by decide +kernel
theorem dX9_answer_39 : decode cX9_answer 39 = .ok (.getfield 26, 3) := by decide +kernel
theorem dX9_answer_42 : decode cX9_answer 42 = .ok (.iload_n 1, 1) := by decide +kernel
theorem dX9_answer_43 : decode cX9_answer 43 = .ok (.invokevirtual 220, 3) := by decide +kernel
theorem dX9_answer_46 : decode cX9_answer 46 = .ok (.aload_n 0, 1) := by decide +kernel
theorem dX9_answer_47 : decode cX9_answer 47 = .ok (.getfield 54, 3) := by decide +kernel
theorem dX9_answer_50 : decode cX9_answer 50 = .ok (.iload_n 2, 1) := by decide +kernel
theorem dX9_answer_51 : decode cX9_answer 51 = .ok (.invokevirtual 230, 3) := by decide +kernel
theorem dX9_answer_54 : decode cX9_answer 54 = .ok (.ifCond .eq 14, 3) := by decide +kernel
theorem dX9_answer_57 : decode cX9_answer 57 = .ok (.aload_n 0, 1) := by decide +kernel
theorem dX9_answer_58 : decode cX9_answer 58 = .ok (.getfield 54, 3) := by decide +kernel
theorem dX9_answer_61 : decode cX9_answer 61 = .ok (.iload_n 3, 1) := by decide +kernel
theorem dX9_answer_62 : decode cX9_answer 62 = .ok (.invokevirtual 233, 3) := by decide +kernel
theorem dX9_answer_65 : decode cX9_answer 65 = .ok (.goto 4, 3) := by decide +kernel
theorem dX9_answer_68 : decode cX9_answer 68 = .ok (.iconst (-1), 1) := by decide +kernel
theorem dX9_answer_69 : decode cX9_answer 69 = .ok (.ireturn, 1) := by decide +kernel
theorem dX9_ways_0 : decode cX9_ways 0 = .ok (.iload_n 1, 1) := by decide +kernel
theorem dX9_ways_1 : decode cX9_ways 1 = .ok (.invokestatic 117, 3) := by decide +kernel
theorem dX9_ways_4 : decode cX9_ways 4 = .ok (.iload_n 2, 1) := by decide +kernel
theorem dX9_ways_5 : decode cX9_ways 5 = .ok (.invokestatic 117, 3) := by decide +kernel
theorem dX9_ways_8 : decode cX9_ways 8 = .ok (.aload_n 0, 1) := by decide +kernel
theorem dX9_ways_9 : decode cX9_ways 9 = .ok (.getfield 40, 3) := by decide +kernel
theorem dX9_ways_12 : decode cX9_ways 12 = .ok (.aload_n 0, 1) := by decide +kernel
theorem dX9_ways_13 : decode cX9_ways 13 = .ok (.getfield 26, 3) := by decide +kernel
theorem dX9_ways_16 : decode cX9_ways 16 = .ok (.iload_n 1, 1) := by decide +kernel
theorem dX9_ways_17 : decode cX9_ways 17 = .ok (.invokevirtual 166, 3) := by decide +kernel
theorem dX9_ways_20 : decode cX9_ways 20 = .ok (.aload_n 0, 1) := by decide +kernel
theorem dX9_ways_21 : decode cX9_ways 21 = .ok (.getfield 26, 3) := by decide +kernel
theorem dX9_ways_24 : decode cX9_ways 24 = .ok (.iload_n 2, 1) := by decide +kernel
theorem dX9_ways_25 : decode cX9_ways 25 = .ok (.invokevirtual 166, 3) := by decide +kernel
theorem dX9_ways_28 : decode cX9_ways 28 = .ok (.iload_n 3, 1) := by decide +kernel
theorem dX9_ways_29 : decode cX9_ways 29 = .ok (.iload 4, 2) := by decide +kernel
theorem dX9_ways_31 : decode cX9_ways 31 = .ok (.aload_n 0, 1) := by decide +kernel
theorem dX9_ways_32 : decode cX9_ways 32 = .ok (.getfield 26, 3) := by decide +kernel
theorem dX9_ways_35 : decode cX9_ways 35 = .ok (.invokevirtual 236, 3) := by decide +kernel
theorem dX9_ways_38 : decode cX9_ways 38 = .ok (.ireturn, 1) := by decide +kernel
theorem dX9_degree_0 : decode cX9_degree 0 = .ok (.iload_n 1, 1) := by decide +kernel
theorem dX9_degree_1 : decode cX9_degree 1 = .ok (.invokestatic 117, 3) := by decide +kernel
theorem dX9_degree_4 : decode cX9_degree 4 = .ok (.iload_n 2, 1) := by decide +kernel
theorem dX9_degree_5 : decode cX9_degree 5 = .ok (.invokestatic 87, 3) := by decide +kernel
theorem dX9_degree_8 : decode cX9_degree 8 = .ok (.iload_n 3, 1) := by decide +kernel
theorem dX9_degree_9 : decode cX9_degree 9 = .ok (.invokestatic 90, 3) := by decide +kernel
theorem dX9_degree_12 : decode cX9_degree 12 = .ok (.aload_n 0, 1) := by decide +kernel
theorem dX9_degree_13 : decode cX9_degree 13 = .ok (.getfield 40, 3) := by decide +kernel
theorem dX9_degree_16 : decode cX9_degree 16 = .ok (.aload_n 0, 1) := by decide +kernel
theorem dX9_degree_17 : decode cX9_degree 17 = .ok (.getfield 26, 3) := by decide +kernel
theorem dX9_degree_20 : decode cX9_degree 20 = .ok (.iload_n 1, 1) := by decide +kernel
theorem dX9_degree_21 : decode cX9_degree 21 = .ok (.invokevirtual 166, 3) := by decide +kernel
theorem dX9_degree_24 : decode cX9_degree 24 = .ok (.iload_n 2, 1) := by decide +kernel
theorem dX9_degree_25 : decode cX9_degree 25 = .ok (.iload_n 3, 1) := by decide +kernel
theorem dX9_degree_26 : decode cX9_degree 26 = .ok (.iload 4, 2) := by decide +kernel
theorem dX9_degree_28 : decode cX9_degree 28 = .ok (.aload_n 0, 1) := by decide +kernel
theorem dX9_degree_29 : decode cX9_degree 29 = .ok (.getfield 26, 3) := by decide +kernel
theorem dX9_degree_32 : decode cX9_degree 32 = .ok (.invokevirtual 240, 3) := by decide +kernel
theorem dX9_degree_35 : decode cX9_degree 35 = .ok (.ireturn, 1) := by decide +kernel
theorem dX9_count_0 : decode cX9_count 0 = .ok (.iload_n 1, 1) := by decide +kernel
theorem dX9_count_1 : decode cX9_count 1 = .ok (.tableswitch 90 0 5 #[39, 47, 55, 63, 74, 82], 39) := by decide +kernel
theorem dX9_count_40 : decode cX9_count 40 = .ok (.aload_n 0, 1) := by decide +kernel
theorem dX9_count_41 : decode cX9_count 41 = .ok (.getfield 40, 3) := by decide +kernel
theorem dX9_count_44 : decode cX9_count 44 = .ok (.invokevirtual 130, 3) := by decide +kernel
theorem dX9_count_47 : decode cX9_count 47 = .ok (.ireturn, 1) := by decide +kernel
theorem dX9_count_48 : decode cX9_count 48 = .ok (.aload_n 0, 1) := by decide +kernel
theorem dX9_count_49 : decode cX9_count 49 = .ok (.getfield 33, 3) := by decide +kernel
theorem dX9_count_52 : decode cX9_count 52 = .ok (.invokevirtual 123, 3) := by decide +kernel
theorem dX9_count_55 : decode cX9_count 55 = .ok (.ireturn, 1) := by decide +kernel
theorem dX9_count_56 : decode cX9_count 56 = .ok (.aload_n 0, 1) := by decide +kernel
theorem dX9_count_57 : decode cX9_count 57 = .ok (.getfield 26, 3) := by decide +kernel
theorem dX9_count_60 : decode cX9_count 60 = .ok (.invokevirtual 243, 3) := by decide +kernel
theorem dX9_count_63 : decode cX9_count 63 = .ok (.ireturn, 1) := by decide +kernel
theorem dX9_count_64 : decode cX9_count 64 = .ok (.bipush 40, 2) := by decide +kernel
theorem dX9_count_66 : decode cX9_count 66 = .ok (.aload_n 0, 1) := by decide +kernel
theorem dX9_count_67 : decode cX9_count 67 = .ok (.getfield 26, 3) := by decide +kernel
theorem dX9_count_70 : decode cX9_count 70 = .ok (.invokevirtual 243, 3) := by decide +kernel
theorem dX9_count_73 : decode cX9_count 73 = .ok (.isub, 1) := by decide +kernel
theorem dX9_count_74 : decode cX9_count 74 = .ok (.ireturn, 1) := by decide +kernel
theorem dX9_count_75 : decode cX9_count 75 = .ok (.aload_n 0, 1) := by decide +kernel
theorem dX9_count_76 : decode cX9_count 76 = .ok (.getfield 61, 3) := by decide +kernel
theorem dX9_count_79 : decode cX9_count 79 = .ok (.invokevirtual 217, 3) := by decide +kernel
theorem dX9_count_82 : decode cX9_count 82 = .ok (.ireturn, 1) := by decide +kernel
theorem dX9_count_83 : decode cX9_count 83 = .ok (.aload_n 0, 1) := by decide +kernel
theorem dX9_count_84 : decode cX9_count 84 = .ok (.getfield 61, 3) := by decide +kernel
theorem dX9_count_87 : decode cX9_count 87 = .ok (.invokevirtual 246, 3) := by decide +kernel
theorem dX9_count_90 : decode cX9_count 90 = .ok (.ireturn, 1) := by decide +kernel
theorem dX9_count_91 : decode cX9_count 91 = .ok (.iconst (-1), 1) := by decide +kernel
theorem dX9_count_92 : decode cX9_count 92 = .ok (.ireturn, 1) := by decide +kernel
theorem dX9_whyRefused_0 : decode cX9_whyRefused 0 = .ok (.aload_n 0, 1) := by decide +kernel
theorem dX9_whyRefused_1 : decode cX9_whyRefused 1 = .ok (.getfield 19, 3) := by decide +kernel
theorem dX9_whyRefused_4 : decode cX9_whyRefused 4 = .ok (.aload_n 1, 1) := by decide +kernel
theorem dX9_whyRefused_5 : decode cX9_whyRefused 5 = .ok (.invokevirtual 249, 3) := by decide +kernel
theorem dX9_whyRefused_8 : decode cX9_whyRefused 8 = .ok (.ifCond .ne 5, 3) := by decide +kernel
theorem dX9_whyRefused_11 : decode cX9_whyRefused 11 = .ok (.iconst 1, 1) := by decide +kernel
theorem dX9_whyRefused_12 : decode cX9_whyRefused 12 = .ok (.ireturn, 1) := by decide +kernel
theorem dX9_whyRefused_13 : decode cX9_whyRefused 13 = .ok (.aload_n 0, 1) := by decide +kernel
theorem dX9_whyRefused_14 : decode cX9_whyRefused 14 = .ok (.getfield 40, 3) := by decide +kernel
theorem dX9_whyRefused_17 : decode cX9_whyRefused 17 = .ok (.aload_n 1, 1) := by decide +kernel
theorem dX9_whyRefused_18 : decode cX9_whyRefused 18 = .ok (.invokevirtual 253, 3) := by decide +kernel
theorem dX9_whyRefused_21 : decode cX9_whyRefused 21 = .ok (.ifCond .ne 5, 3) := by decide +kernel
theorem dX9_whyRefused_24 : decode cX9_whyRefused 24 = .ok (.iconst 2, 1) := by decide +kernel
theorem dX9_whyRefused_25 : decode cX9_whyRefused 25 = .ok (.ireturn, 1) := by decide +kernel
theorem dX9_whyRefused_26 : decode cX9_whyRefused 26 = .ok (.aload_n 0, 1) := by decide +kernel
theorem dX9_whyRefused_27 : decode cX9_whyRefused 27 = .ok (.getfield 40, 3) := by decide +kernel
theorem dX9_whyRefused_30 : decode cX9_whyRefused 30 = .ok (.aload_n 1, 1) := by decide +kernel
theorem dX9_whyRefused_31 : decode cX9_whyRefused 31 = .ok (.aload_n 0, 1) := by decide +kernel
theorem dX9_whyRefused_32 : decode cX9_whyRefused 32 = .ok (.getfield 19, 3) := by decide +kernel
theorem dX9_whyRefused_35 : decode cX9_whyRefused 35 = .ok (.aload_n 0, 1) := by decide +kernel
theorem dX9_whyRefused_36 : decode cX9_whyRefused 36 = .ok (.getfield 26, 3) := by decide +kernel
theorem dX9_whyRefused_39 : decode cX9_whyRefused 39 = .ok (.invokevirtual 256, 3) := by decide +kernel
theorem dX9_whyRefused_42 : decode cX9_whyRefused 42 = .ok (.ifCond .eq 7, 3) := by decide +kernel
theorem dX9_whyRefused_45 : decode cX9_whyRefused 45 = .ok (.iconst 3, 1) := by decide +kernel
theorem dX9_whyRefused_46 : decode cX9_whyRefused 46 = .ok (.goto 4, 3) := by decide +kernel
theorem dX9_whyRefused_49 : decode cX9_whyRefused 49 = .ok (.iconst 0, 1) := by decide +kernel
theorem dX9_whyRefused_50 : decode cX9_whyRefused 50 = .ok (.ireturn, 1) := by decide +kernel
theorem dX9_checkThing_0 : decode cX9_checkThing 0 = .ok (.iload_n 0, 1) := by decide +kernel
theorem dX9_checkThing_1 : decode cX9_checkThing 1 = .ok (.ifCond .lt 9, 3) := by decide +kernel
theorem dX9_checkThing_4 : decode cX9_checkThing 4 = .ok (.iload_n 0, 1) := by decide +kernel
theorem dX9_checkThing_5 : decode cX9_checkThing 5 = .ok (.bipush 40, 2) := by decide +kernel
theorem dX9_checkThing_7 : decode cX9_checkThing 7 = .ok (.if_icmp .lt 14, 3) := by decide +kernel
theorem dX9_checkThing_10 : decode cX9_checkThing 10 = .ok (.new 260, 3) := by decide +kernel
theorem dX9_checkThing_13 : decode cX9_checkThing 13 = .ok (.dup, 1) := by decide +kernel
theorem dX9_checkThing_14 : decode cX9_checkThing 14 = .ok (.ldc_w 262, 3) := by decide +kernel
theorem dX9_checkThing_17 : decode cX9_checkThing 17 = .ok (.invokespecial 264, 3) := by decide +kernel
theorem dX9_checkThing_20 : decode cX9_checkThing 20 = .ok (.athrow, 1) := by decide +kernel
theorem dX9_checkThing_21 : decode cX9_checkThing 21 = .ok (.return_, 1) := by decide +kernel
theorem dX9_checkRole_0 : decode cX9_checkRole 0 = .ok (.iload_n 0, 1) := by decide +kernel
theorem dX9_checkRole_1 : decode cX9_checkRole 1 = .ok (.ifCond .lt 9, 3) := by decide +kernel
theorem dX9_checkRole_4 : decode cX9_checkRole 4 = .ok (.iload_n 0, 1) := by decide +kernel
theorem dX9_checkRole_5 : decode cX9_checkRole 5 = .ok (.bipush 6, 2) := by decide +kernel
theorem dX9_checkRole_7 : decode cX9_checkRole 7 = .ok (.if_icmp .lt 14, 3) := by decide +kernel
theorem dX9_checkRole_10 : decode cX9_checkRole 10 = .ok (.new 260, 3) := by decide +kernel
theorem dX9_checkRole_13 : decode cX9_checkRole 13 = .ok (.dup, 1) := by decide +kernel
theorem dX9_checkRole_14 : decode cX9_checkRole 14 = .ok (.ldc_w 265, 3) := by decide +kernel
theorem dX9_checkRole_17 : decode cX9_checkRole 17 = .ok (.invokespecial 264, 3) := by decide +kernel
theorem dX9_checkRole_20 : decode cX9_checkRole 20 = .ok (.athrow, 1) := by decide +kernel
theorem dX9_checkRole_21 : decode cX9_checkRole 21 = .ok (.return_, 1) := by decide +kernel
theorem dX9_checkKind_0 : decode cX9_checkKind 0 = .ok (.iload_n 0, 1) := by decide +kernel
theorem dX9_checkKind_1 : decode cX9_checkKind 1 = .ok (.ifCond .lt 9, 3) := by decide +kernel
theorem dX9_checkKind_4 : decode cX9_checkKind 4 = .ok (.iload_n 0, 1) := by decide +kernel
theorem dX9_checkKind_5 : decode cX9_checkKind 5 = .ok (.bipush 6, 2) := by decide +kernel
theorem dX9_checkKind_7 : decode cX9_checkKind 7 = .ok (.if_icmp .lt 14, 3) := by decide +kernel
theorem dX9_checkKind_10 : decode cX9_checkKind 10 = .ok (.new 260, 3) := by decide +kernel
theorem dX9_checkKind_13 : decode cX9_checkKind 13 = .ok (.dup, 1) := by decide +kernel
theorem dX9_checkKind_14 : decode cX9_checkKind 14 = .ok (.ldc_w 267, 3) := by decide +kernel
theorem dX9_checkKind_17 : decode cX9_checkKind 17 = .ok (.invokespecial 264, 3) := by decide +kernel
theorem dX9_checkKind_20 : decode cX9_checkKind 20 = .ok (.athrow, 1) := by decide +kernel
theorem dX9_checkKind_21 : decode cX9_checkKind 21 = .ok (.return_, 1) := by decide +kernel
theorem dX9_checkLine_0 : decode cX9_checkLine 0 = .ok (.iload_n 1, 1) := by decide +kernel
theorem dX9_checkLine_1 : decode cX9_checkLine 1 = .ok (.ifCond .lt 14, 3) := by decide +kernel
theorem dX9_checkLine_4 : decode cX9_checkLine 4 = .ok (.iload_n 1, 1) := by decide +kernel
theorem dX9_checkLine_5 : decode cX9_checkLine 5 = .ok (.aload_n 0, 1) := by decide +kernel
theorem dX9_checkLine_6 : decode cX9_checkLine 6 = .ok (.getfield 40, 3) := by decide +kernel
theorem dX9_checkLine_9 : decode cX9_checkLine 9 = .ok (.invokevirtual 130, 3) := by decide +kernel
theorem dX9_checkLine_12 : decode cX9_checkLine 12 = .ok (.if_icmp .lt 14, 3) := by decide +kernel
theorem dX9_checkLine_15 : decode cX9_checkLine 15 = .ok (.new 260, 3) := by decide +kernel
theorem dX9_checkLine_18 : decode cX9_checkLine 18 = .ok (.dup, 1) := by decide +kernel
theorem dX9_checkLine_19 : decode cX9_checkLine 19 = .ok (.ldc_w 269, 3) := by decide +kernel
theorem dX9_checkLine_22 : decode cX9_checkLine 22 = .ok (.invokespecial 264, 3) := by decide +kernel
theorem dX9_checkLine_25 : decode cX9_checkLine 25 = .ok (.athrow, 1) := by decide +kernel
theorem dX9_checkLine_26 : decode cX9_checkLine 26 = .ok (.return_, 1) := by decide +kernel
theorem dX9_isIn_0 : decode cX9_isIn 0 = .ok (.lload_n 0, 1) := by decide +kernel
theorem dX9_isIn_1 : decode cX9_isIn 1 = .ok (.iload_n 2, 1) := by decide +kernel
theorem dX9_isIn_2 : decode cX9_isIn 2 = .ok (.lushr, 1) := by decide +kernel
theorem dX9_isIn_3 : decode cX9_isIn 3 = .ok (.lconst 1, 1) := by decide +kernel
theorem dX9_isIn_4 : decode cX9_isIn 4 = .ok (.land, 1) := by decide +kernel
theorem dX9_isIn_5 : decode cX9_isIn 5 = .ok (.lconst 0, 1) := by decide +kernel
theorem dX9_isIn_6 : decode cX9_isIn 6 = .ok (.lcmp, 1) := by decide +kernel
theorem dX9_isIn_7 : decode cX9_isIn 7 = .ok (.ifCond .eq 7, 3) := by decide +kernel
theorem dX9_isIn_10 : decode cX9_isIn 10 = .ok (.iconst 1, 1) := by decide +kernel
theorem dX9_isIn_11 : decode cX9_isIn 11 = .ok (.goto 4, 3) := by decide +kernel
theorem dX9_isIn_14 : decode cX9_isIn 14 = .ok (.iconst 0, 1) := by decide +kernel
theorem dX9_isIn_15 : decode cX9_isIn 15 = .ok (.ireturn, 1) := by decide +kernel
