theorem dX0_init_0 : decode cX0_init 0 = .ok (.aload_n 0, 1) := by decide +kernel
theorem dX0_init_1 : decode cX0_init 1 = .ok (.invokespecial 3, 3) := by decide +kernel
theorem dX0_init_4 : decode cX0_init 4 = .ok (.aload_n 0, 1) := by decide +kernel
theorem dX0_init_5 : decode cX0_init 5 = .ok (.aload_n 1, 1) := by decide +kernel
theorem dX0_init_6 : decode cX0_init 6 = .ok (.putfield 9, 3) := by decide +kernel
theorem dX0_init_9 : decode cX0_init 9 = .ok (.return_, 1) := by decide +kernel
theorem dX0_here_0 : decode cX0_here 0 = .ok (.aload_n 0, 1) := by decide +kernel
theorem dX0_here_1 : decode cX0_here 1 = .ok (.getfield 15, 3) := by decide +kernel
theorem dX0_here_4 : decode cX0_here 4 = .ok (.ifCond .lt 38, 3) := by decide +kernel
theorem dX0_here_7 : decode cX0_here 7 = .ok (.aload_n 0, 1) := by decide +kernel
theorem dX0_here_8 : decode cX0_here 8 = .ok (.getfield 15, 3) := by decide +kernel
theorem dX0_here_11 : decode cX0_here 11 = .ok (.aload_n 0, 1) := by decide +kernel
theorem dX0_here_12 : decode cX0_here 12 = .ok (.getfield 19, 3) := by decide +kernel
theorem dX0_here_15 : decode cX0_here 15 = .ok (.if_icmp .ge 27, 3) := by decide +kernel
theorem dX0_here_18 : decode cX0_here 18 = .ok (.aload_n 0, 1) := by decide +kernel
theorem dX0_here_19 : decode cX0_here 19 = .ok (.getfield 15, 3) := by decide +kernel
theorem dX0_here_22 : decode cX0_here 22 = .ok (.aload_n 0, 1) := by decide +kernel
theorem dX0_here_23 : decode cX0_here 23 = .ok (.getfield 9, 3) := by decide +kernel
theorem dX0_here_26 : decode cX0_here 26 = .ok (.arraylength, 1) := by decide +kernel
theorem dX0_here_27 : decode cX0_here 27 = .ok (.if_icmp .ge 15, 3) := by decide +kernel
theorem dX0_here_30 : decode cX0_here 30 = .ok (.aload_n 0, 1) := by decide +kernel
theorem dX0_here_31 : decode cX0_here 31 = .ok (.getfield 9, 3) := by decide +kernel
theorem dX0_here_34 : decode cX0_here 34 = .ok (.aload_n 0, 1) := by decide +kernel
theorem dX0_here_35 : decode cX0_here 35 = .ok (.getfield 15, 3) := by decide +kernel
theorem dX0_here_38 : decode cX0_here 38 = .ok (.caload, 1) := by decide +kernel
theorem dX0_here_39 : decode cX0_here 39 = .ok (.goto 4, 3) := by decide +kernel
theorem dX0_here_42 : decode cX0_here 42 = .ok (.iconst 0, 1) := by decide +kernel
theorem dX0_here_43 : decode cX0_here 43 = .ok (.ireturn, 1) := by decide +kernel
theorem dX0_passDigit_0 : decode cX0_passDigit 0 = .ok (.aload_n 0, 1) := by decide +kernel
theorem dX0_passDigit_1 : decode cX0_passDigit 1 = .ok (.invokevirtual 22, 3) := by decide +kernel
theorem dX0_passDigit_4 : decode cX0_passDigit 4 = .ok (.bipush 48, 2) := by decide +kernel
theorem dX0_passDigit_6 : decode cX0_passDigit 6 = .ok (.isub, 1) := by decide +kernel
theorem dX0_passDigit_7 : decode cX0_passDigit 7 = .ok (.istore_n 2, 1) := by decide +kernel
theorem dX0_passDigit_8 : decode cX0_passDigit 8 = .ok (.iload_n 2, 1) := by decide +kernel
theorem dX0_passDigit_9 : decode cX0_passDigit 9 = .ok (.ifCond .lt 8, 3) := by decide +kernel
theorem dX0_passDigit_12 : decode cX0_passDigit 12 = .ok (.iload_n 2, 1) := by decide +kernel
theorem dX0_passDigit_13 : decode cX0_passDigit 13 = .ok (.iload_n 1, 1) := by decide +kernel
theorem dX0_passDigit_14 : decode cX0_passDigit 14 = .ok (.if_icmp .lt 5, 3) := by decide +kernel
theorem dX0_passDigit_17 : decode cX0_passDigit 17 = .ok (.iconst (-1), 1) := by decide +kernel
theorem dX0_passDigit_18 : decode cX0_passDigit 18 = .ok (.ireturn, 1) := by decide +kernel
theorem dX0_passDigit_19 : decode cX0_passDigit 19 = .ok (.aload_n 0, 1) := by decide +kernel
theorem dX0_passDigit_20 : decode cX0_passDigit 20 = .ok (.dup, 1) := by decide +kernel
theorem dX0_passDigit_21 : decode cX0_passDigit 21 = .ok (.getfield 15, 3) := by decide +kernel
theorem dX0_passDigit_24 : decode cX0_passDigit 24 = .ok (.iconst 1, 1) := by decide +kernel
theorem dX0_passDigit_25 : decode cX0_passDigit 25 = .ok (.iadd, 1) := by decide +kernel
theorem dX0_passDigit_26 : decode cX0_passDigit 26 = .ok (.putfield 15, 3) := by decide +kernel
theorem dX0_passDigit_29 : decode cX0_passDigit 29 = .ok (.iload_n 2, 1) := by decide +kernel
theorem dX0_passDigit_30 : decode cX0_passDigit 30 = .ok (.ireturn, 1) := by decide +kernel
theorem dX0_passNumber_0 : decode cX0_passNumber 0 = .ok (.iconst 0, 1) := by decide +kernel
theorem dX0_passNumber_1 : decode cX0_passNumber 1 = .ok (.istore_n 1, 1) := by decide +kernel
theorem dX0_passNumber_2 : decode cX0_passNumber 2 = .ok (.iconst 0, 1) := by decide +kernel
theorem dX0_passNumber_3 : decode cX0_passNumber 3 = .ok (.istore_n 2, 1) := by decide +kernel
theorem dX0_passNumber_4 : decode cX0_passNumber 4 = .ok (.iload_n 2, 1) := by decide +kernel
theorem dX0_passNumber_5 : decode cX0_passNumber 5 = .ok (.bipush 6, 2) := by decide +kernel
theorem dX0_passNumber_7 : decode cX0_passNumber 7 = .ok (.if_icmp .ge 50, 3) := by decide +kernel
theorem dX0_passNumber_10 : decode cX0_passNumber 10 = .ok (.aload_n 0, 1) := by decide +kernel
theorem dX0_passNumber_11 : decode cX0_passNumber 11 = .ok (.invokevirtual 22, 3) := by decide +kernel
theorem dX0_passNumber_14 : decode cX0_passNumber 14 = .ok (.bipush 48, 2) := by decide +kernel
theorem dX0_passNumber_16 : decode cX0_passNumber 16 = .ok (.if_icmp .lt 41, 3) := by decide +kernel
theorem dX0_passNumber_19 : decode cX0_passNumber 19 = .ok (.aload_n 0, 1) := by decide +kernel
theorem dX0_passNumber_20 : decode cX0_passNumber 20 = .ok (.invokevirtual 22, 3) := by decide +kernel
theorem dX0_passNumber_23 : decode cX0_passNumber 23 = .ok (.bipush 57, 2) := by decide +kernel
theorem dX0_passNumber_25 : decode cX0_passNumber 25 = .ok (.if_icmp .gt 32, 3) := by decide +kernel
theorem dX0_passNumber_28 : decode cX0_passNumber 28 = .ok (.iload_n 1, 1) := by decide +kernel
theorem dX0_passNumber_29 : decode cX0_passNumber 29 = .ok (.bipush 10, 2) := by decide +kernel
theorem dX0_passNumber_31 : decode cX0_passNumber 31 = .ok (.imul, 1) := by decide +kernel
theorem dX0_passNumber_32 : decode cX0_passNumber 32 = .ok (.aload_n 0, 1) := by decide +kernel
theorem dX0_passNumber_33 : decode cX0_passNumber 33 = .ok (.invokevirtual 22, 3) := by decide +kernel
theorem dX0_passNumber_36 : decode cX0_passNumber 36 = .ok (.bipush 48, 2) := by decide +kernel
theorem dX0_passNumber_38 : decode cX0_passNumber 38 = .ok (.isub, 1) := by decide +kernel
theorem dX0_passNumber_39 : decode cX0_passNumber 39 = .ok (.iadd, 1) := by decide +kernel
theorem dX0_passNumber_40 : decode cX0_passNumber 40 = .ok (.istore_n 1, 1) := by decide +kernel
theorem dX0_passNumber_41 : decode cX0_passNumber 41 = .ok (.aload_n 0, 1) := by decide +kernel
theorem dX0_passNumber_42 : decode cX0_passNumber 42 = .ok (.dup, 1) := by decide +kernel
theorem dX0_passNumber_43 : decode cX0_passNumber 43 = .ok (.getfield 15, 3) := by decide +kernel
theorem dX0_passNumber_46 : decode cX0_passNumber 46 = .ok (.iconst 1, 1) := by decide +kernel
theorem dX0_passNumber_47 : decode cX0_passNumber 47 = .ok (.iadd, 1) := by decide +kernel
theorem dX0_passNumber_48 : decode cX0_passNumber 48 = .ok (.putfield 15, 3) := by decide +kernel
theorem dX0_passNumber_51 : decode cX0_passNumber 51 = .ok (.iinc 2 1, 3) := by decide +kernel
theorem dX0_passNumber_54 : decode cX0_passNumber 54 = .ok (.goto (-50), 3) := by decide +kernel
theorem dX0_passNumber_57 : decode cX0_passNumber 57 = .ok (.iload_n 1, 1) := by decide +kernel
theorem dX0_passNumber_58 : decode cX0_passNumber 58 = .ok (.ireturn, 1) := by decide +kernel
theorem dX0_passPrefixes_0 : decode cX0_passPrefixes 0 = .ok (.iconst 0, 1) := by decide +kernel
theorem dX0_passPrefixes_1 : decode cX0_passPrefixes 1 = .ok (.istore_n 1, 1) := by decide +kernel
theorem dX0_passPrefixes_2 : decode cX0_passPrefixes 2 = .ok (.iload_n 1, 1) := by decide +kernel
theorem dX0_passPrefixes_3 : decode cX0_passPrefixes 3 = .ok (.sipush 300, 3) := by decide +kernel
theorem dX0_passPrefixes_6 : decode cX0_passPrefixes 6 = .ok (.if_icmp .ge 63, 3) := by decide +kernel
theorem dX0_passPrefixes_9 : decode cX0_passPrefixes 9 = .ok (.aload_n 0, 1) := by decide +kernel
theorem dX0_passPrefixes_10 : decode cX0_passPrefixes 10 = .ok (.invokevirtual 22, 3) := by decide +kernel
theorem dX0_passPrefixes_13 : decode cX0_passPrefixes 13 = .ok (.istore_n 2, 1) := by decide +kernel
theorem dX0_passPrefixes_14 : decode cX0_passPrefixes 14 = .ok (.iload_n 2, 1) := by decide +kernel
theorem dX0_passPrefixes_15 : decode cX0_passPrefixes 15 = .ok (.bipush 45, 2) := by decide +kernel
theorem dX0_passPrefixes_17 : decode cX0_passPrefixes 17 = .ok (.if_icmp .eq 18, 3) := by decide +kernel
theorem dX0_passPrefixes_20 : decode cX0_passPrefixes 20 = .ok (.iload_n 2, 1) := by decide +kernel
theorem dX0_passPrefixes_21 : decode cX0_passPrefixes 21 = .ok (.bipush 102, 2) := by decide +kernel
theorem dX0_passPrefixes_23 : decode cX0_passPrefixes 23 = .ok (.if_icmp .eq 12, 3) := by decide +kernel
theorem dX0_passPrefixes_26 : decode cX0_passPrefixes 26 = .ok (.iload_n 2, 1) := by decide +kernel
theorem dX0_passPrefixes_27 : decode cX0_passPrefixes 27 = .ok (.bipush 99, 2) := by decide +kernel
theorem dX0_passPrefixes_29 : decode cX0_passPrefixes 29 = .ok (.if_icmp .eq 6, 3) := by decide +kernel
theorem dX0_passPrefixes_32 : decode cX0_passPrefixes 32 = .ok (.goto 37, 3) := by decide +kernel
theorem dX0_passPrefixes_35 : decode cX0_passPrefixes 35 = .ok (.aload_n 0, 1) := by decide +kernel
theorem dX0_passPrefixes_36 : decode cX0_passPrefixes 36 = .ok (.dup, 1) := by decide +kernel
theorem dX0_passPrefixes_37 : decode cX0_passPrefixes 37 = .ok (.getfield 15, 3) := by decide +kernel
theorem dX0_passPrefixes_40 : decode cX0_passPrefixes 40 = .ok (.iconst 1, 1) := by decide +kernel
theorem dX0_passPrefixes_41 : decode cX0_passPrefixes 41 = .ok (.iadd, 1) := by decide +kernel
theorem dX0_passPrefixes_42 : decode cX0_passPrefixes 42 = .ok (.putfield 15, 3) := by decide +kernel
theorem dX0_passPrefixes_45 : decode cX0_passPrefixes 45 = .ok (.iload_n 2, 1) := by decide +kernel
theorem dX0_passPrefixes_46 : decode cX0_passPrefixes 46 = .ok (.bipush 99, 2) := by decide +kernel
theorem dX0_passPrefixes_48 : decode cX0_passPrefixes 48 = .ok (.if_icmp .ne 15, 3) := by decide +kernel
theorem dX0_passPrefixes_51 : decode cX0_passPrefixes 51 = .ok (.aload_n 0, 1) := by decide +kernel
theorem dX0_passPrefixes_52 : decode cX0_passPrefixes 52 = .ok (.bipush 8, 2) := by decide +kernel
theorem dX0_passPrefixes_54 : decode cX0_passPrefixes 54 = .ok (.invokevirtual 26, 3) := by decide +kernel
theorem dX0_passPrefixes_57 : decode cX0_passPrefixes 57 = .ok (.iconst (-1), 1) := by decide +kernel
theorem dX0_passPrefixes_58 : decode cX0_passPrefixes 58 = .ok (.if_icmp .ne 5, 3) := by decide +kernel
theorem dX0_passPrefixes_61 : decode cX0_passPrefixes 61 = .ok (.iconst 0, 1) := by decide +kernel
theorem dX0_passPrefixes_62 : decode cX0_passPrefixes 62 = .ok (.ireturn, 1) := by decide +kernel
theorem dX0_passPrefixes_63 : decode cX0_passPrefixes 63 = .ok (.iinc 1 1, 3) := by decide +kernel
theorem dX0_passPrefixes_66 : decode cX0_passPrefixes 66 = .ok (.goto (-64), 3) := by decide +kernel
theorem dX0_passPrefixes_69 : decode cX0_passPrefixes 69 = .ok (.iconst 1, 1) := by decide +kernel
theorem dX0_passPrefixes_70 : decode cX0_passPrefixes 70 = .ok (.ireturn, 1) := by decide +kernel
theorem dX1_init_0 : decode cX1_init 0 = .ok (.aload_n 0, 1) := by decide +kernel
theorem dX1_init_1 : decode cX1_init 1 = .ok (.invokespecial 3, 3) := by decide +kernel
theorem dX1_init_4 : decode cX1_init 4 = .ok (.aload_n 0, 1) := by decide +kernel
theorem dX1_init_5 : decode cX1_init 5 = .ok (.bipush 10, 2) := by decide +kernel
theorem dX1_init_7 : decode cX1_init 7 = .ok (.newarray .int, 2) := by decide +kernel
theorem dX1_init_9 : decode cX1_init 9 = .ok (.putfield 9, 3) := by decide +kernel
theorem dX1_init_12 : decode cX1_init 12 = .ok (.aload_n 0, 1) := by decide +kernel
theorem dX1_init_13 : decode cX1_init 13 = .ok (.bipush 10, 2) := by decide +kernel
theorem dX1_init_15 : decode cX1_init 15 = .ok (.newarray .int, 2) := by decide +kernel
theorem dX1_init_17 : decode cX1_init 17 = .ok (.putfield 15, 3) := by decide +kernel
theorem dX1_init_20 : decode cX1_init 20 = .ok (.aload_n 0, 1) := by decide +kernel
theorem dX1_init_21 : decode cX1_init 21 = .ok (.bipush 10, 2) := by decide +kernel
theorem dX1_init_23 : decode cX1_init 23 = .ok (.newarray .int, 2) := by decide +kernel
theorem dX1_init_25 : decode cX1_init 25 = .ok (.putfield 18, 3) := by decide +kernel
theorem dX1_init_28 : decode cX1_init 28 = .ok (.aload_n 0, 1) := by decide +kernel
theorem dX1_init_29 : decode cX1_init 29 = .ok (.bipush 10, 2) := by decide +kernel
theorem dX1_init_31 : decode cX1_init 31 = .ok (.newarray .int, 2) := by decide +kernel
theorem dX1_init_33 : decode cX1_init 33 = .ok (.putfield 21, 3) := by decide +kernel
theorem dX1_init_36 : decode cX1_init 36 = .ok (.aload_n 0, 1) := by decide +kernel
theorem dX1_init_37 : decode cX1_init 37 = .ok (.bipush 10, 2) := by decide +kernel
theorem dX1_init_39 : decode cX1_init 39 = .ok (.newarray .int, 2) := by decide +kernel
theorem dX1_init_41 : decode cX1_init 41 = .ok (.putfield 24, 3) := by decide +kernel
theorem dX1_init_44 : decode cX1_init 44 = .ok (.aload_n 0, 1) := by decide +kernel
theorem dX1_init_45 : decode cX1_init 45 = .ok (.bipush 10, 2) := by decide +kernel
theorem dX1_init_47 : decode cX1_init 47 = .ok (.newarray .int, 2) := by decide +kernel
theorem dX1_init_49 : decode cX1_init 49 = .ok (.putfield 27, 3) := by decide +kernel
theorem dX1_init_52 : decode cX1_init 52 = .ok (.return_, 1) := by decide +kernel
theorem dX1_resize_0 : decode cX1_resize 0 = .ok (.aload_n 0, 1) := by decide +kernel
theorem dX1_resize_1 : decode cX1_resize 1 = .ok (.iload_n 1, 1) := by decide +kernel
theorem dX1_resize_2 : decode cX1_resize 2 = .ok (.putfield 30, 3) := by decide +kernel
theorem dX1_resize_5 : decode cX1_resize 5 = .ok (.aload_n 0, 1) := by decide +kernel
theorem dX1_resize_6 : decode cX1_resize 6 = .ok (.iload_n 2, 1) := by decide +kernel
theorem dX1_resize_7 : decode cX1_resize 7 = .ok (.putfield 34, 3) := by decide +kernel
theorem dX1_resize_10 : decode cX1_resize 10 = .ok (.aload_n 0, 1) := by decide +kernel
theorem dX1_resize_11 : decode cX1_resize 11 = .ok (.iload_n 3, 1) := by decide +kernel
theorem dX1_resize_12 : decode cX1_resize 12 = .ok (.putfield 37, 3) := by decide +kernel
theorem dX1_resize_15 : decode cX1_resize 15 = .ok (.aload_n 0, 1) := by decide +kernel
theorem dX1_resize_16 : decode cX1_resize 16 = .ok (.dup, 1) := by decide +kernel
theorem dX1_resize_17 : decode cX1_resize 17 = .ok (.getfield 40, 3) := by decide +kernel
theorem dX1_resize_20 : decode cX1_resize 20 = .ok (.iconst 1, 1) := by decide +kernel
theorem dX1_resize_21 : decode cX1_resize 21 = .ok (.iadd, 1) := by decide +kernel
theorem dX1_resize_22 : decode cX1_resize 22 = .ok (.putfield 40, 3) := by decide +kernel
theorem dX1_resize_25 : decode cX1_resize 25 = .ok (.return_, 1) := by decide +kernel
theorem dX1_append_0 : decode cX1_append 0 = .ok (.aload_n 0, 1) := by decide +kernel
theorem dX1_append_1 : decode cX1_append 1 = .ok (.getfield 43, 3) := by decide +kernel
theorem dX1_append_4 : decode cX1_append 4 = .ok (.istore 7, 2) := by decide +kernel
theorem dX1_append_6 : decode cX1_append 6 = .ok (.iload 7, 2) := by decide +kernel
theorem dX1_append_8 : decode cX1_append 8 = .ok (.bipush 10, 2) := by decide +kernel
theorem dX1_append_10 : decode cX1_append 10 = .ok (.invokestatic 46, 3) := by decide +kernel
theorem dX1_append_13 : decode cX1_append 13 = .ok (.ifCond .ne 4, 3) := by decide +kernel
theorem dX1_append_16 : decode cX1_append 16 = .ok (.return_, 1) := by decide +kernel
theorem dX1_append_17 : decode cX1_append 17 = .ok (.aload_n 0, 1) := by decide +kernel
theorem dX1_append_18 : decode cX1_append 18 = .ok (.getfield 9, 3) := by decide +kernel
theorem dX1_append_21 : decode cX1_append 21 = .ok (.iload 7, 2) := by decide +kernel
theorem dX1_append_23 : decode cX1_append 23 = .ok (.iload_n 1, 1) := by decide +kernel
theorem dX1_append_24 : decode cX1_append 24 = .ok (.iastore, 1) := by decide +kernel
theorem dX1_append_25 : decode cX1_append 25 = .ok (.aload_n 0, 1) := by decide +kernel
theorem dX1_append_26 : decode cX1_append 26 = .ok (.getfield 15, 3) := by decide +kernel
theorem dX1_append_29 : decode cX1_append 29 = .ok (.iload 7, 2) := by decide +kernel
theorem dX1_append_31 : decode cX1_append 31 = .ok (.iload_n 2, 1) := by decide +kernel
theorem dX1_append_32 : decode cX1_append 32 = .ok (.iastore, 1) := by decide +kernel
theorem dX1_append_33 : decode cX1_append 33 = .ok (.aload_n 0, 1) := by decide +kernel
theorem dX1_append_34 : decode cX1_append 34 = .ok (.getfield 18, 3) := by decide +kernel
theorem dX1_append_37 : decode cX1_append 37 = .ok (.iload 7, 2) := by decide +kernel
theorem dX1_append_39 : decode cX1_append 39 = .ok (.iload_n 3, 1) := by decide +kernel
theorem dX1_append_40 : decode cX1_append 40 = .ok (.iastore, 1) := by decide +kernel
theorem dX1_append_41 : decode cX1_append 41 = .ok (.aload_n 0, 1) := by decide +kernel
theorem dX1_append_42 : decode cX1_append 42 = .ok (.getfield 21, 3) := by decide +kernel
theorem dX1_append_45 : decode cX1_append 45 = .ok (.iload 7, 2) := by decide +kernel
theorem dX1_append_47 : decode cX1_append 47 = .ok (.iload 4, 2) := by decide +kernel
theorem dX1_append_49 : decode cX1_append 49 = .ok (.iastore, 1) := by decide +kernel
theorem dX1_append_50 : decode cX1_append 50 = .ok (.aload_n 0, 1) := by decide +kernel
theorem dX1_append_51 : decode cX1_append 51 = .ok (.getfield 24, 3) := by decide +kernel
theorem dX1_append_54 : decode cX1_append 54 = .ok (.iload 7, 2) := by decide +kernel
theorem dX1_append_56 : decode cX1_append 56 = .ok (.iload 5, 2) := by decide +kernel
theorem dX1_append_58 : decode cX1_append 58 = .ok (.iastore, 1) := by decide +kernel
theorem dX1_append_59 : decode cX1_append 59 = .ok (.aload_n 0, 1) := by decide +kernel
theorem dX1_append_60 : decode cX1_append 60 = .ok (.getfield 27, 3) := by decide +kernel
theorem dX1_append_63 : decode cX1_append 63 = .ok (.iload 7, 2) := by decide +kernel
theorem dX1_append_65 : decode cX1_append 65 = .ok (.iload 6, 2) := by decide +kernel
theorem dX1_append_67 : decode cX1_append 67 = .ok (.iastore, 1) := by decide +kernel
theorem dX1_append_68 : decode cX1_append 68 = .ok (.aload_n 0, 1) := by decide +kernel
theorem dX1_append_69 : decode cX1_append 69 = .ok (.iload 7, 2) := by decide +kernel
theorem dX1_append_71 : decode cX1_append 71 = .ok (.iconst 1, 1) := by decide +kernel
theorem dX1_append_72 : decode cX1_append 72 = .ok (.iadd, 1) := by decide +kernel
theorem dX1_append_73 : decode cX1_append 73 = .ok (.putfield 43, 3) := by decide +kernel
theorem dX1_append_76 : decode cX1_append 76 = .ok (.aload_n 0, 1) := by decide +kernel
theorem dX1_append_77 : decode cX1_append 77 = .ok (.dup, 1) := by decide +kernel
theorem dX1_append_78 : decode cX1_append 78 = .ok (.getfield 40, 3) := by decide +kernel
theorem dX1_append_81 : decode cX1_append 81 = .ok (.iconst 1, 1) := by decide +kernel
theorem dX1_append_82 : decode cX1_append 82 = .ok (.iadd, 1) := by decide +kernel
theorem dX1_append_83 : decode cX1_append 83 = .ok (.putfield 40, 3) := by decide +kernel
theorem dX1_append_86 : decode cX1_append 86 = .ok (.return_, 1) := by decide +kernel
theorem dX1_empty_0 : decode cX1_empty 0 = .ok (.aload_n 0, 1) := by decide +kernel
theorem dX1_empty_1 : decode cX1_empty 1 = .ok (.iconst 0, 1) := by decide +kernel
theorem dX1_empty_2 : decode cX1_empty 2 = .ok (.putfield 43, 3) := by decide +kernel
theorem dX1_empty_5 : decode cX1_empty 5 = .ok (.aload_n 0, 1) := by decide +kernel
theorem dX1_empty_6 : decode cX1_empty 6 = .ok (.dup, 1) := by decide +kernel
theorem dX1_empty_7 : decode cX1_empty 7 = .ok (.getfield 40, 3) := by decide +kernel
theorem dX1_empty_10 : decode cX1_empty 10 = .ok (.iconst 1, 1) := by decide +kernel
theorem dX1_empty_11 : decode cX1_empty 11 = .ok (.iadd, 1) := by decide +kernel
theorem dX1_empty_12 : decode cX1_empty 12 = .ok (.putfield 40, 3) := by decide +kernel
theorem dX1_empty_15 : decode cX1_empty 15 = .ok (.return_, 1) := by decide +kernel
theorem dX1_onFace_0 : decode cX1_onFace 0 = .ok (.iconst 0, 1) := by decide +kernel
theorem dX1_onFace_1 : decode cX1_onFace 1 = .ok (.istore_n 3, 1) := by decide +kernel
theorem dX1_onFace_2 : decode cX1_onFace 2 = .ok (.iconst 0, 1) := by decide +kernel
theorem dX1_onFace_3 : decode cX1_onFace 3 = .ok (.istore 4, 2) := by decide +kernel
theorem dX1_onFace_5 : decode cX1_onFace 5 = .ok (.iload 4, 2) := by decide +kernel
theorem dX1_onFace_7 : decode cX1_onFace 7 = .ok (.aload_n 0, 1) := by decide +kernel
theorem dX1_onFace_8 : decode cX1_onFace 8 = .ok (.getfield 43, 3) := by decide +kernel
theorem dX1_onFace_11 : decode cX1_onFace 11 = .ok (.if_icmp .ge 39, 3) := by decide +kernel
theorem dX1_onFace_14 : decode cX1_onFace 14 = .ok (.iload 4, 2) := by decide +kernel
theorem dX1_onFace_16 : decode cX1_onFace 16 = .ok (.bipush 10, 2) := by decide +kernel
theorem dX1_onFace_18 : decode cX1_onFace 18 = .ok (.if_icmp .ge 32, 3) := by decide +kernel
theorem dX1_onFace_21 : decode cX1_onFace 21 = .ok (.aload_n 0, 1) := by decide +kernel
theorem dX1_onFace_22 : decode cX1_onFace 22 = .ok (.getfield 9, 3) := by decide +kernel
theorem dX1_onFace_25 : decode cX1_onFace 25 = .ok (.iload 4, 2) := by decide +kernel
theorem dX1_onFace_27 : decode cX1_onFace 27 = .ok (.iaload, 1) := by decide +kernel
theorem dX1_onFace_28 : decode cX1_onFace 28 = .ok (.iload_n 1, 1) := by decide +kernel
theorem dX1_onFace_29 : decode cX1_onFace 29 = .ok (.if_icmp .ne 15, 3) := by decide +kernel
theorem dX1_onFace_32 : decode cX1_onFace 32 = .ok (.iload_n 2, 1) := by decide +kernel
theorem dX1_onFace_33 : decode cX1_onFace 33 = .ok (.iload 4, 2) := by decide +kernel
theorem dX1_onFace_35 : decode cX1_onFace 35 = .ok (.iushr, 1) := by decide +kernel
theorem dX1_onFace_36 : decode cX1_onFace 36 = .ok (.iconst 1, 1) := by decide +kernel
theorem dX1_onFace_37 : decode cX1_onFace 37 = .ok (.iand, 1) := by decide +kernel
theorem dX1_onFace_38 : decode cX1_onFace 38 = .ok (.ifCond .ne 6, 3) := by decide +kernel
theorem dX1_onFace_41 : decode cX1_onFace 41 = .ok (.iinc 3 1, 3) := by decide +kernel
theorem dX1_onFace_44 : decode cX1_onFace 44 = .ok (.iinc 4 1, 3) := by decide +kernel
theorem dX1_onFace_47 : decode cX1_onFace 47 = .ok (.goto (-42), 3) := by decide +kernel
theorem dX1_onFace_50 : decode cX1_onFace 50 = .ok (.iload_n 3, 1) := by decide +kernel
theorem dX1_onFace_51 : decode cX1_onFace 51 = .ok (.ireturn, 1) := by decide +kernel
theorem dX1_measure_0 : decode cX1_measure 0 = .ok (.iload_n 1, 1) := by decide +kernel
theorem dX1_measure_1 : decode cX1_measure 1 = .ok (.bipush 108, 2) := by decide +kernel
theorem dX1_measure_3 : decode cX1_measure 3 = .ok (.if_icmp .ne 9, 3) := by decide +kernel
theorem dX1_measure_6 : decode cX1_measure 6 = .ok (.aload_n 0, 1) := by decide +kernel
theorem dX1_measure_7 : decode cX1_measure 7 = .ok (.getfield 30, 3) := by decide +kernel
theorem dX1_measure_10 : decode cX1_measure 10 = .ok (.i2l, 1) := by decide +kernel
theorem dX1_measure_11 : decode cX1_measure 11 = .ok (.lreturn, 1) := by decide +kernel
theorem dX1_measure_12 : decode cX1_measure 12 = .ok (.iload_n 1, 1) := by decide +kernel
theorem dX1_measure_13 : decode cX1_measure 13 = .ok (.bipush 119, 2) := by decide +kernel
theorem dX1_measure_15 : decode cX1_measure 15 = .ok (.if_icmp .ne 9, 3) := by decide +kernel
theorem dX1_measure_18 : decode cX1_measure 18 = .ok (.aload_n 0, 1) := by decide +kernel
theorem dX1_measure_19 : decode cX1_measure 19 = .ok (.getfield 34, 3) := by decide +kernel
theorem dX1_measure_22 : decode cX1_measure 22 = .ok (.i2l, 1) := by decide +kernel
theorem dX1_measure_23 : decode cX1_measure 23 = .ok (.lreturn, 1) := by decide +kernel
theorem dX1_measure_24 : decode cX1_measure 24 = .ok (.iload_n 1, 1) := by decide +kernel
theorem dX1_measure_25 : decode cX1_measure 25 = .ok (.bipush 116, 2) := by decide +kernel
theorem dX1_measure_27 : decode cX1_measure 27 = .ok (.if_icmp .ne 9, 3) := by decide +kernel
theorem dX1_measure_30 : decode cX1_measure 30 = .ok (.aload_n 0, 1) := by decide +kernel
theorem dX1_measure_31 : decode cX1_measure 31 = .ok (.getfield 37, 3) := by decide +kernel
theorem dX1_measure_34 : decode cX1_measure 34 = .ok (.i2l, 1) := by decide +kernel
theorem dX1_measure_35 : decode cX1_measure 35 = .ok (.lreturn, 1) := by decide +kernel
theorem dX1_measure_36 : decode cX1_measure 36 = .ok (.iload_n 1, 1) := by decide +kernel
theorem dX1_measure_37 : decode cX1_measure 37 = .ok (.bipush 101, 2) := by decide +kernel
theorem dX1_measure_39 : decode cX1_measure 39 = .ok (.if_icmp .ne 11, 3) := by decide +kernel
theorem dX1_measure_42 : decode cX1_measure 42 = .ok (.aload_n 0, 1) := by decide +kernel
theorem dX1_measure_43 : decode cX1_measure 43 = .ok (.getfield 34, 3) := by decide +kernel
theorem dX1_measure_46 : decode cX1_measure 46 = .ok (.i2l, 1) := by decide +kernel
theorem dX1_measure_47 : decode cX1_measure 47 = .ok (.goto 4, 3) := by decide +kernel
theorem dX1_measure_50 : decode cX1_measure 50 = .ok (.lconst 0, 1) := by decide +kernel
theorem dX1_measure_51 : decode cX1_measure 51 = .ok (.lstore 4, 2) := by decide +kernel
theorem dX1_measure_53 : decode cX1_measure 53 = .ok (.iconst 0, 1) := by decide +kernel
theorem dX1_measure_54 : decode cX1_measure 54 = .ok (.istore 6, 2) := by decide +kernel
theorem dX1_measure_56 : decode cX1_measure 56 = .ok (.iload 6, 2) := by decide +kernel
theorem dX1_measure_58 : decode cX1_measure 58 = .ok (.aload_n 0, 1) := by decide +kernel
theorem dX1_measure_59 : decode cX1_measure 59 = .ok (.getfield 43, 3) := by decide +kernel
theorem dX1_measure_62 : decode cX1_measure 62 = .ok (.if_icmp .ge 157, 3) := by decide +kernel
theorem dX1_measure_65 : decode cX1_measure 65 = .ok (.iload 6, 2) := by decide +kernel
theorem dX1_measure_67 : decode cX1_measure 67 = .ok (.bipush 10, 2) := by decide +kernel
theorem dX1_measure_69 : decode cX1_measure 69 = .ok (.if_icmp .ge 150, 3) := by decide +kernel
theorem dX1_measure_72 : decode cX1_measure 72 = .ok (.aload_n 0, 1) := by decide +kernel
theorem dX1_measure_73 : decode cX1_measure 73 = .ok (.getfield 15, 3) := by decide +kernel
theorem dX1_measure_76 : decode cX1_measure 76 = .ok (.iload 6, 2) := by decide +kernel
theorem dX1_measure_78 : decode cX1_measure 78 = .ok (.iaload, 1) := by decide +kernel
theorem dX1_measure_79 : decode cX1_measure 79 = .ok (.iload_n 2, 1) := by decide +kernel
theorem dX1_measure_80 : decode cX1_measure 80 = .ok (.if_icmp .ne 133, 3) := by decide +kernel
theorem dX1_measure_83 : decode cX1_measure 83 = .ok (.iload_n 3, 1) := by decide +kernel
theorem dX1_measure_84 : decode cX1_measure 84 = .ok (.iload 6, 2) := by decide +kernel
theorem dX1_measure_86 : decode cX1_measure 86 = .ok (.iushr, 1) := by decide +kernel
theorem dX1_measure_87 : decode cX1_measure 87 = .ok (.iconst 1, 1) := by decide +kernel
theorem dX1_measure_88 : decode cX1_measure 88 = .ok (.iand, 1) := by decide +kernel
theorem dX1_measure_89 : decode cX1_measure 89 = .ok (.ifCond .eq 6, 3) := by decide +kernel
theorem dX1_measure_92 : decode cX1_measure 92 = .ok (.goto 121, 3) := by decide +kernel
theorem dX1_measure_95 : decode cX1_measure 95 = .ok (.iload_n 1, 1) := by decide +kernel
theorem dX1_measure_96 : decode cX1_measure 96 = .ok (.bipush 110, 2) := by decide +kernel
theorem dX1_measure_98 : decode cX1_measure 98 = .ok (.if_icmp .ne 12, 3) := by decide +kernel
theorem dX1_measure_101 : decode cX1_measure 101 = .ok (.lload 4, 2) := by decide +kernel
theorem dX1_measure_103 : decode cX1_measure 103 = .ok (.lconst 1, 1) := by decide +kernel
theorem dX1_measure_104 : decode cX1_measure 104 = .ok (.ladd, 1) := by decide +kernel
theorem dX1_measure_105 : decode cX1_measure 105 = .ok (.lstore 4, 2) := by decide +kernel
theorem dX1_measure_107 : decode cX1_measure 107 = .ok (.goto 106, 3) := by decide +kernel
theorem dX1_measure_110 : decode cX1_measure 110 = .ok (.iload_n 1, 1) := by decide +kernel
theorem dX1_measure_111 : decode cX1_measure 111 = .ok (.bipush 97, 2) := by decide +kernel
theorem dX1_measure_113 : decode cX1_measure 113 = .ok (.if_icmp .ne 28, 3) := by decide +kernel
theorem dX1_measure_116 : decode cX1_measure 116 = .ok (.lload 4, 2) := by decide +kernel
theorem dX1_measure_118 : decode cX1_measure 118 = .ok (.aload_n 0, 1) := by decide +kernel
theorem dX1_measure_119 : decode cX1_measure 119 = .ok (.getfield 24, 3) := by decide +kernel
theorem dX1_measure_122 : decode cX1_measure 122 = .ok (.iload 6, 2) := by decide +kernel
theorem dX1_measure_124 : decode cX1_measure 124 = .ok (.iaload, 1) := by decide +kernel
theorem dX1_measure_125 : decode cX1_measure 125 = .ok (.i2l, 1) := by decide +kernel
theorem dX1_measure_126 : decode cX1_measure 126 = .ok (.aload_n 0, 1) := by decide +kernel
theorem dX1_measure_127 : decode cX1_measure 127 = .ok (.getfield 27, 3) := by decide +kernel
theorem dX1_measure_130 : decode cX1_measure 130 = .ok (.iload 6, 2) := by decide +kernel
theorem dX1_measure_132 : decode cX1_measure 132 = .ok (.iaload, 1) := by decide +kernel
theorem dX1_measure_133 : decode cX1_measure 133 = .ok (.i2l, 1) := by decide +kernel
theorem dX1_measure_134 : decode cX1_measure 134 = .ok (.lmul, 1) := by decide +kernel
theorem dX1_measure_135 : decode cX1_measure 135 = .ok (.ladd, 1) := by decide +kernel
theorem dX1_measure_136 : decode cX1_measure 136 = .ok (.lstore 4, 2) := by decide +kernel
theorem dX1_measure_138 : decode cX1_measure 138 = .ok (.goto 75, 3) := by decide +kernel
theorem dX1_measure_141 : decode cX1_measure 141 = .ok (.iload_n 1, 1) := by decide +kernel
theorem dX1_measure_142 : decode cX1_measure 142 = .ok (.bipush 115, 2) := by decide +kernel
theorem dX1_measure_144 : decode cX1_measure 144 = .ok (.if_icmp .ne 31, 3) := by decide +kernel
theorem dX1_measure_147 : decode cX1_measure 147 = .ok (.lload 4, 2) := by decide +kernel
theorem dX1_measure_149 : decode cX1_measure 149 = .ok (.aload_n 0, 1) := by decide +kernel
theorem dX1_measure_150 : decode cX1_measure 150 = .ok (.getfield 24, 3) := by decide +kernel
theorem dX1_measure_153 : decode cX1_measure 153 = .ok (.iload 6, 2) := by decide +kernel
theorem dX1_measure_155 : decode cX1_measure 155 = .ok (.iaload, 1) := by decide +kernel
theorem dX1_measure_156 : decode cX1_measure 156 = .ok (.aload_n 0, 1) := by decide +kernel
theorem dX1_measure_157 : decode cX1_measure 157 = .ok (.getfield 27, 3) := by decide +kernel
theorem dX1_measure_160 : decode cX1_measure 160 = .ok (.iload 6, 2) := by decide +kernel
theorem dX1_measure_162 : decode cX1_measure 162 = .ok (.iaload, 1) := by decide +kernel
theorem dX1_measure_163 : decode cX1_measure 163 = .ok (.invokestatic 50, 3) := by decide +kernel
theorem dX1_measure_166 : decode cX1_measure 166 = .ok (.i2l, 1) := by decide +kernel
theorem dX1_measure_167 : decode cX1_measure 167 = .ok (.invokestatic 56, 3) := by decide +kernel
theorem dX1_measure_170 : decode cX1_measure 170 = .ok (.lstore 4, 2) := by decide +kernel
theorem dX1_measure_172 : decode cX1_measure 172 = .ok (.goto 41, 3) := by decide +kernel
theorem dX1_measure_175 : decode cX1_measure 175 = .ok (.lload 4, 2) := by decide +kernel
theorem dX1_measure_177 : decode cX1_measure 177 = .ok (.aload_n 0, 1) := by decide +kernel
theorem dX1_measure_178 : decode cX1_measure 178 = .ok (.getfield 21, 3) := by decide +kernel
theorem dX1_measure_181 : decode cX1_measure 181 = .ok (.iload 6, 2) := by decide +kernel
theorem dX1_measure_183 : decode cX1_measure 183 = .ok (.iaload, 1) := by decide +kernel
theorem dX1_measure_184 : decode cX1_measure 184 = .ok (.aload_n 0, 1) := by decide +kernel
theorem dX1_measure_185 : decode cX1_measure 185 = .ok (.getfield 34, 3) := by decide +kernel
theorem dX1_measure_188 : decode cX1_measure 188 = .ok (.aload_n 0, 1) := by decide +kernel
theorem dX1_measure_189 : decode cX1_measure 189 = .ok (.getfield 21, 3) := by decide +kernel
theorem dX1_measure_192 : decode cX1_measure 192 = .ok (.iload 6, 2) := by decide +kernel
theorem dX1_measure_194 : decode cX1_measure 194 = .ok (.iaload, 1) := by decide +kernel
theorem dX1_measure_195 : decode cX1_measure 195 = .ok (.isub, 1) := by decide +kernel
theorem dX1_measure_196 : decode cX1_measure 196 = .ok (.aload_n 0, 1) := by decide +kernel
theorem dX1_measure_197 : decode cX1_measure 197 = .ok (.getfield 27, 3) := by decide +kernel
theorem dX1_measure_200 : decode cX1_measure 200 = .ok (.iload 6, 2) := by decide +kernel
theorem dX1_measure_202 : decode cX1_measure 202 = .ok (.iaload, 1) := by decide +kernel
theorem dX1_measure_203 : decode cX1_measure 203 = .ok (.isub, 1) := by decide +kernel
theorem dX1_measure_204 : decode cX1_measure 204 = .ok (.invokestatic 59, 3) := by decide +kernel
theorem dX1_measure_207 : decode cX1_measure 207 = .ok (.i2l, 1) := by decide +kernel
theorem dX1_measure_208 : decode cX1_measure 208 = .ok (.invokestatic 62, 3) := by decide +kernel
theorem dX1_measure_211 : decode cX1_measure 211 = .ok (.lstore 4, 2) := by decide +kernel
theorem dX1_measure_213 : decode cX1_measure 213 = .ok (.iinc 6 1, 3) := by decide +kernel
theorem dX1_measure_216 : decode cX1_measure 216 = .ok (.goto (-160), 3) := by decide +kernel
theorem dX1_measure_219 : decode cX1_measure 219 = .ok (.lload 4, 2) := by decide +kernel
theorem dX1_measure_221 : decode cX1_measure 221 = .ok (.lreturn, 1) := by decide +kernel
theorem dX1_worstIn_0 : decode cX1_worstIn 0 = .ok (.lconst 0, 1) := by decide +kernel
theorem dX1_worstIn_1 : decode cX1_worstIn 1 = .ok (.lstore 6, 2) := by decide +kernel
theorem dX1_worstIn_3 : decode cX1_worstIn 3 = .ok (.iconst 0, 1) := by decide +kernel
theorem dX1_worstIn_4 : decode cX1_worstIn 4 = .ok (.istore 8, 2) := by decide +kernel
theorem dX1_worstIn_6 : decode cX1_worstIn 6 = .ok (.iload 8, 2) := by decide +kernel
theorem dX1_worstIn_8 : decode cX1_worstIn 8 = .ok (.aload_n 0, 1) := by decide +kernel
theorem dX1_worstIn_9 : decode cX1_worstIn 9 = .ok (.getfield 43, 3) := by decide +kernel
theorem dX1_worstIn_12 : decode cX1_worstIn 12 = .ok (.if_icmp .ge 61, 3) := by decide +kernel
theorem dX1_worstIn_15 : decode cX1_worstIn 15 = .ok (.iload 8, 2) := by decide +kernel
theorem dX1_worstIn_17 : decode cX1_worstIn 17 = .ok (.bipush 10, 2) := by decide +kernel
theorem dX1_worstIn_19 : decode cX1_worstIn 19 = .ok (.if_icmp .ge 54, 3) := by decide +kernel
theorem dX1_worstIn_22 : decode cX1_worstIn 22 = .ok (.aload_n 0, 1) := by decide +kernel
theorem dX1_worstIn_23 : decode cX1_worstIn 23 = .ok (.getfield 15, 3) := by decide +kernel
theorem dX1_worstIn_26 : decode cX1_worstIn 26 = .ok (.iload 8, 2) := by decide +kernel
theorem dX1_worstIn_28 : decode cX1_worstIn 28 = .ok (.iaload, 1) := by decide +kernel
theorem dX1_worstIn_29 : decode cX1_worstIn 29 = .ok (.iload_n 1, 1) := by decide +kernel
theorem dX1_worstIn_30 : decode cX1_worstIn 30 = .ok (.if_icmp .ne 37, 3) := by decide +kernel
theorem dX1_worstIn_33 : decode cX1_worstIn 33 = .ok (.iload 5, 2) := by decide +kernel
theorem dX1_worstIn_35 : decode cX1_worstIn 35 = .ok (.iload 8, 2) := by decide +kernel
theorem dX1_worstIn_37 : decode cX1_worstIn 37 = .ok (.iushr, 1) := by decide +kernel
theorem dX1_worstIn_38 : decode cX1_worstIn 38 = .ok (.iconst 1, 1) := by decide +kernel
theorem dX1_worstIn_39 : decode cX1_worstIn 39 = .ok (.iand, 1) := by decide +kernel
theorem dX1_worstIn_40 : decode cX1_worstIn 40 = .ok (.ifCond .ne 27, 3) := by decide +kernel
theorem dX1_worstIn_43 : decode cX1_worstIn 43 = .ok (.lload 6, 2) := by decide +kernel
theorem dX1_worstIn_45 : decode cX1_worstIn 45 = .ok (.aload_n 0, 1) := by decide +kernel
theorem dX1_worstIn_46 : decode cX1_worstIn 46 = .ok (.aload_n 0, 1) := by decide +kernel
theorem dX1_worstIn_47 : decode cX1_worstIn 47 = .ok (.getfield 18, 3) := by decide +kernel
theorem dX1_worstIn_50 : decode cX1_worstIn 50 = .ok (.iload 8, 2) := by decide +kernel
theorem dX1_worstIn_52 : decode cX1_worstIn 52 = .ok (.iaload, 1) := by decide +kernel
theorem dX1_worstIn_53 : decode cX1_worstIn 53 = .ok (.iload_n 1, 1) := by decide +kernel
theorem dX1_worstIn_54 : decode cX1_worstIn 54 = .ok (.lload_n 2, 1) := by decide +kernel
theorem dX1_worstIn_55 : decode cX1_worstIn 55 = .ok (.iload 4, 2) := by decide +kernel
theorem dX1_worstIn_57 : decode cX1_worstIn 57 = .ok (.iload 5, 2) := by decide +kernel
theorem dX1_worstIn_59 : decode cX1_worstIn 59 = .ok (.invokevirtual 64, 3) := by decide +kernel
theorem dX1_worstIn_62 : decode cX1_worstIn 62 = .ok (.invokestatic 56, 3) := by decide +kernel
theorem dX1_worstIn_65 : decode cX1_worstIn 65 = .ok (.lstore 6, 2) := by decide +kernel
theorem dX1_worstIn_67 : decode cX1_worstIn 67 = .ok (.iinc 8 1, 3) := by decide +kernel
theorem dX1_worstIn_70 : decode cX1_worstIn 70 = .ok (.goto (-64), 3) := by decide +kernel
theorem dX1_worstIn_73 : decode cX1_worstIn 73 = .ok (.lload 6, 2) := by decide +kernel
theorem dX1_worstIn_75 : decode cX1_worstIn 75 = .ok (.lreturn, 1) := by decide +kernel
theorem dX1_inWindow_0 : decode cX1_inWindow 0 = .ok (.lconst 0, 1) := by decide +kernel
theorem dX1_inWindow_1 : decode cX1_inWindow 1 = .ok (.lstore 7, 2) := by decide +kernel
theorem dX1_inWindow_3 : decode cX1_inWindow 3 = .ok (.iconst 0, 1) := by decide +kernel
theorem dX1_inWindow_4 : decode cX1_inWindow 4 = .ok (.istore 9, 2) := by decide +kernel
theorem dX1_inWindow_6 : decode cX1_inWindow 6 = .ok (.iload 9, 2) := by decide +kernel
theorem dX1_inWindow_8 : decode cX1_inWindow 8 = .ok (.aload_n 0, 1) := by decide +kernel
theorem dX1_inWindow_9 : decode cX1_inWindow 9 = .ok (.getfield 43, 3) := by decide +kernel
theorem dX1_inWindow_12 : decode cX1_inWindow 12 = .ok (.if_icmp .ge 106, 3) := by decide +kernel
theorem dX1_inWindow_15 : decode cX1_inWindow 15 = .ok (.iload 9, 2) := by decide +kernel
theorem dX1_inWindow_17 : decode cX1_inWindow 17 = .ok (.bipush 10, 2) := by decide +kernel
theorem dX1_inWindow_19 : decode cX1_inWindow 19 = .ok (.if_icmp .ge 99, 3) := by decide +kernel
theorem dX1_inWindow_22 : decode cX1_inWindow 22 = .ok (.aload_n 0, 1) := by decide +kernel
theorem dX1_inWindow_23 : decode cX1_inWindow 23 = .ok (.getfield 15, 3) := by decide +kernel
theorem dX1_inWindow_26 : decode cX1_inWindow 26 = .ok (.iload 9, 2) := by decide +kernel
theorem dX1_inWindow_28 : decode cX1_inWindow 28 = .ok (.iaload, 1) := by decide +kernel
theorem dX1_inWindow_29 : decode cX1_inWindow 29 = .ok (.iload_n 2, 1) := by decide +kernel
theorem dX1_inWindow_30 : decode cX1_inWindow 30 = .ok (.if_icmp .ne 17, 3) := by decide +kernel
theorem dX1_inWindow_33 : decode cX1_inWindow 33 = .ok (.iload 6, 2) := by decide +kernel
theorem dX1_inWindow_35 : decode cX1_inWindow 35 = .ok (.iload 9, 2) := by decide +kernel
theorem dX1_inWindow_37 : decode cX1_inWindow 37 = .ok (.iushr, 1) := by decide +kernel
theorem dX1_inWindow_38 : decode cX1_inWindow 38 = .ok (.iconst 1, 1) := by decide +kernel
theorem dX1_inWindow_39 : decode cX1_inWindow 39 = .ok (.iand, 1) := by decide +kernel
theorem dX1_inWindow_40 : decode cX1_inWindow 40 = .ok (.ifCond .ne 7, 3) := by decide +kernel
theorem dX1_inWindow_43 : decode cX1_inWindow 43 = .ok (.iconst 1, 1) := by decide +kernel
theorem dX1_inWindow_44 : decode cX1_inWindow 44 = .ok (.goto 4, 3) := by decide +kernel
theorem dX1_inWindow_47 : decode cX1_inWindow 47 = .ok (.iconst 0, 1) := by decide +kernel
theorem dX1_inWindow_48 : decode cX1_inWindow 48 = .ok (.istore 10, 2) := by decide +kernel
theorem dX1_inWindow_50 : decode cX1_inWindow 50 = .ok (.iload 10, 2) := by decide +kernel
theorem dX1_inWindow_52 : decode cX1_inWindow 52 = .ok (.ifCond .eq 60, 3) := by decide +kernel
theorem dX1_inWindow_55 : decode cX1_inWindow 55 = .ok (.aload_n 0, 1) := by decide +kernel
theorem dX1_inWindow_56 : decode cX1_inWindow 56 = .ok (.getfield 18, 3) := by decide +kernel
theorem dX1_inWindow_59 : decode cX1_inWindow 59 = .ok (.iload 9, 2) := by decide +kernel
theorem dX1_inWindow_61 : decode cX1_inWindow 61 = .ok (.iaload, 1) := by decide +kernel
theorem dX1_inWindow_62 : decode cX1_inWindow 62 = .ok (.iload_n 1, 1) := by decide +kernel
theorem dX1_inWindow_63 : decode cX1_inWindow 63 = .ok (.if_icmp .lt 49, 3) := by decide +kernel
theorem dX1_inWindow_66 : decode cX1_inWindow 66 = .ok (.aload_n 0, 1) := by decide +kernel
theorem dX1_inWindow_67 : decode cX1_inWindow 67 = .ok (.getfield 18, 3) := by decide +kernel
theorem dX1_inWindow_70 : decode cX1_inWindow 70 = .ok (.iload 9, 2) := by decide +kernel
theorem dX1_inWindow_72 : decode cX1_inWindow 72 = .ok (.iaload, 1) := by decide +kernel
theorem dX1_inWindow_73 : decode cX1_inWindow 73 = .ok (.iload_n 1, 1) := by decide +kernel
theorem dX1_inWindow_74 : decode cX1_inWindow 74 = .ok (.isub, 1) := by decide +kernel
theorem dX1_inWindow_75 : decode cX1_inWindow 75 = .ok (.i2l, 1) := by decide +kernel
theorem dX1_inWindow_76 : decode cX1_inWindow 76 = .ok (.lload_n 3, 1) := by decide +kernel
theorem dX1_inWindow_77 : decode cX1_inWindow 77 = .ok (.lcmp, 1) := by decide +kernel
theorem dX1_inWindow_78 : decode cX1_inWindow 78 = .ok (.ifCond .ge 34, 3) := by decide +kernel
theorem dX1_inWindow_81 : decode cX1_inWindow 81 = .ok (.lload 7, 2) := by decide +kernel
theorem dX1_inWindow_83 : decode cX1_inWindow 83 = .ok (.iload 5, 2) := by decide +kernel
theorem dX1_inWindow_85 : decode cX1_inWindow 85 = .ok (.ifCond .ne 7, 3) := by decide +kernel
theorem dX1_inWindow_88 : decode cX1_inWindow 88 = .ok (.lconst 1, 1) := by decide +kernel
theorem dX1_inWindow_89 : decode cX1_inWindow 89 = .ok (.goto 20, 3) := by decide +kernel
theorem dX1_inWindow_92 : decode cX1_inWindow 92 = .ok (.aload_n 0, 1) := by decide +kernel
theorem dX1_inWindow_93 : decode cX1_inWindow 93 = .ok (.getfield 24, 3) := by decide +kernel
theorem dX1_inWindow_96 : decode cX1_inWindow 96 = .ok (.iload 9, 2) := by decide +kernel
theorem dX1_inWindow_98 : decode cX1_inWindow 98 = .ok (.iaload, 1) := by decide +kernel
theorem dX1_inWindow_99 : decode cX1_inWindow 99 = .ok (.i2l, 1) := by decide +kernel
theorem dX1_inWindow_100 : decode cX1_inWindow 100 = .ok (.aload_n 0, 1) := by decide +kernel
theorem dX1_inWindow_101 : decode cX1_inWindow 101 = .ok (.getfield 27, 3) := by decide +kernel
theorem dX1_inWindow_104 : decode cX1_inWindow 104 = .ok (.iload 9, 2) := by decide +kernel
theorem dX1_inWindow_106 : decode cX1_inWindow 106 = .ok (.iaload, 1) := by decide +kernel
theorem dX1_inWindow_107 : decode cX1_inWindow 107 = .ok (.i2l, 1) := by decide +kernel
theorem dX1_inWindow_108 : decode cX1_inWindow 108 = .ok (.lmul, 1) := by decide +kernel
theorem dX1_inWindow_109 : decode cX1_inWindow 109 = .ok (.ladd, 1) := by decide +kernel
theorem dX1_inWindow_110 : decode cX1_inWindow 110 = .ok (.lstore 7, 2) := by decide +kernel
theorem dX1_inWindow_112 : decode cX1_inWindow 112 = .ok (.iinc 9 1, 3) := by decide +kernel
theorem dX1_inWindow_115 : decode cX1_inWindow 115 = .ok (.goto (-109), 3) := by decide +kernel
theorem dX1_inWindow_118 : decode cX1_inWindow 118 = .ok (.lload 7, 2) := by decide +kernel
theorem dX1_inWindow_120 : decode cX1_inWindow 120 = .ok (.lreturn, 1) := by decide +kernel
theorem dX2_init_0 : decode cX2_init 0 = .ok (.aload_n 0, 1) := by decide +kernel
theorem dX2_init_1 : decode cX2_init 1 = .ok (.invokespecial 3, 3) := by decide +kernel
theorem dX2_init_4 : decode cX2_init 4 = .ok (.aload_n 0, 1) := by decide +kernel
theorem dX2_init_5 : decode cX2_init 5 = .ok (.sipush 1024, 3) := by decide +kernel
theorem dX2_init_8 : decode cX2_init 8 = .ok (.newarray .int, 2) := by decide +kernel
theorem dX2_init_10 : decode cX2_init 10 = .ok (.putfield 9, 3) := by decide +kernel
theorem dX2_init_13 : decode cX2_init 13 = .ok (.aload_n 0, 1) := by decide +kernel
theorem dX2_init_14 : decode cX2_init 14 = .ok (.new 15, 3) := by decide +kernel
theorem dX2_init_17 : decode cX2_init 17 = .ok (.dup, 1) := by decide +kernel
theorem dX2_init_18 : decode cX2_init 18 = .ok (.iconst 0, 1) := by decide +kernel
theorem dX2_init_19 : decode cX2_init 19 = .ok (.invokespecial 17, 3) := by decide +kernel
theorem dX2_init_22 : decode cX2_init 22 = .ok (.putfield 20, 3) := by decide +kernel
theorem dX2_init_25 : decode cX2_init 25 = .ok (.aload_n 0, 1) := by decide +kernel
theorem dX2_init_26 : decode cX2_init 26 = .ok (.iconst (-1), 1) := by decide +kernel
theorem dX2_init_27 : decode cX2_init 27 = .ok (.putfield 24, 3) := by decide +kernel
theorem dX2_init_30 : decode cX2_init 30 = .ok (.aload_n 0, 1) := by decide +kernel
theorem dX2_init_31 : decode cX2_init 31 = .ok (.bipush 10, 2) := by decide +kernel
theorem dX2_init_33 : decode cX2_init 33 = .ok (.newarray .int, 2) := by decide +kernel
theorem dX2_init_35 : decode cX2_init 35 = .ok (.putfield 28, 3) := by decide +kernel
theorem dX2_init_38 : decode cX2_init 38 = .ok (.aload_n 0, 1) := by decide +kernel
theorem dX2_init_39 : decode cX2_init 39 = .ok (.aload_n 1, 1) := by decide +kernel
theorem dX2_init_40 : decode cX2_init 40 = .ok (.putfield 31, 3) := by decide +kernel
theorem dX2_init_43 : decode cX2_init 43 = .ok (.aload_n 0, 1) := by decide +kernel
theorem dX2_init_44 : decode cX2_init 44 = .ok (.aload_n 2, 1) := by decide +kernel
theorem dX2_init_45 : decode cX2_init 45 = .ok (.putfield 35, 3) := by decide +kernel
theorem dX2_init_48 : decode cX2_init 48 = .ok (.return_, 1) := by decide +kernel
theorem dX2_fewest_0 : decode cX2_fewest 0 = .ok (.aload_n 0, 1) := by decide +kernel
theorem dX2_fewest_1 : decode cX2_fewest 1 = .ok (.getfield 20, 3) := by decide +kernel
theorem dX2_fewest_4 : decode cX2_fewest 4 = .ok (.aload_n 1, 1) := by decide +kernel
theorem dX2_fewest_5 : decode cX2_fewest 5 = .ok (.if_acmp .ne 17, 3) := by decide +kernel
theorem dX2_fewest_8 : decode cX2_fewest 8 = .ok (.aload_n 0, 1) := by decide +kernel
theorem dX2_fewest_9 : decode cX2_fewest 9 = .ok (.getfield 24, 3) := by decide +kernel
theorem dX2_fewest_12 : decode cX2_fewest 12 = .ok (.aload_n 0, 1) := by decide +kernel
theorem dX2_fewest_13 : decode cX2_fewest 13 = .ok (.getfield 31, 3) := by decide +kernel
theorem dX2_fewest_16 : decode cX2_fewest 16 = .ok (.getfield 39, 3) := by decide +kernel
theorem dX2_fewest_19 : decode cX2_fewest 19 = .ok (.if_icmp .eq 28, 3) := by decide +kernel
theorem dX2_fewest_22 : decode cX2_fewest 22 = .ok (.aload_n 0, 1) := by decide +kernel
theorem dX2_fewest_23 : decode cX2_fewest 23 = .ok (.aload_n 1, 1) := by decide +kernel
theorem dX2_fewest_24 : decode cX2_fewest 24 = .ok (.putfield 20, 3) := by decide +kernel
theorem dX2_fewest_27 : decode cX2_fewest 27 = .ok (.aload_n 0, 1) := by decide +kernel
theorem dX2_fewest_28 : decode cX2_fewest 28 = .ok (.aload_n 0, 1) := by decide +kernel
theorem dX2_fewest_29 : decode cX2_fewest 29 = .ok (.getfield 31, 3) := by decide +kernel
theorem dX2_fewest_32 : decode cX2_fewest 32 = .ok (.getfield 39, 3) := by decide +kernel
theorem dX2_fewest_35 : decode cX2_fewest 35 = .ok (.putfield 24, 3) := by decide +kernel
theorem dX2_fewest_38 : decode cX2_fewest 38 = .ok (.aload_n 0, 1) := by decide +kernel
theorem dX2_fewest_39 : decode cX2_fewest 39 = .ok (.getfield 9, 3) := by decide +kernel
theorem dX2_fewest_42 : decode cX2_fewest 42 = .ok (.bipush (-2), 2) := by decide +kernel
theorem dX2_fewest_44 : decode cX2_fewest 44 = .ok (.invokestatic 42, 3) := by decide +kernel
theorem dX2_fewest_47 : decode cX2_fewest 47 = .ok (.iconst 0, 1) := by decide +kernel
theorem dX2_fewest_48 : decode cX2_fewest 48 = .ok (.istore_n 3, 1) := by decide +kernel
theorem dX2_fewest_49 : decode cX2_fewest 49 = .ok (.iload_n 3, 1) := by decide +kernel
theorem dX2_fewest_50 : decode cX2_fewest 50 = .ok (.aload_n 0, 1) := by decide +kernel
theorem dX2_fewest_51 : decode cX2_fewest 51 = .ok (.getfield 31, 3) := by decide +kernel
theorem dX2_fewest_54 : decode cX2_fewest 54 = .ok (.getfield 48, 3) := by decide +kernel
theorem dX2_fewest_57 : decode cX2_fewest 57 = .ok (.if_icmp .gt 26, 3) := by decide +kernel
theorem dX2_fewest_60 : decode cX2_fewest 60 = .ok (.iload_n 3, 1) := by decide +kernel
theorem dX2_fewest_61 : decode cX2_fewest 61 = .ok (.bipush 10, 2) := by decide +kernel
theorem dX2_fewest_63 : decode cX2_fewest 63 = .ok (.if_icmp .gt 20, 3) := by decide +kernel
theorem dX2_fewest_66 : decode cX2_fewest 66 = .ok (.aload_n 0, 1) := by decide +kernel
theorem dX2_fewest_67 : decode cX2_fewest 67 = .ok (.iload_n 3, 1) := by decide +kernel
theorem dX2_fewest_68 : decode cX2_fewest 68 = .ok (.iload_n 2, 1) := by decide +kernel
theorem dX2_fewest_69 : decode cX2_fewest 69 = .ok (.invokevirtual 51, 3) := by decide +kernel
theorem dX2_fewest_72 : decode cX2_fewest 72 = .ok (.ifCond .eq 5, 3) := by decide +kernel
theorem dX2_fewest_75 : decode cX2_fewest 75 = .ok (.iload_n 3, 1) := by decide +kernel
theorem dX2_fewest_76 : decode cX2_fewest 76 = .ok (.ireturn, 1) := by decide +kernel
theorem dX2_fewest_77 : decode cX2_fewest 77 = .ok (.iinc 3 1, 3) := by decide +kernel
theorem dX2_fewest_80 : decode cX2_fewest 80 = .ok (.goto (-31), 3) := by decide +kernel
theorem dX2_fewest_83 : decode cX2_fewest 83 = .ok (.iconst (-1), 1) := by decide +kernel
theorem dX2_fewest_84 : decode cX2_fewest 84 = .ok (.ireturn, 1) := by decide +kernel
theorem dX2_findSet_0 : decode cX2_findSet 0 = .ok (.iconst 0, 1) := by decide +kernel
theorem dX2_findSet_1 : decode cX2_findSet 1 = .ok (.istore_n 3, 1) := by decide +kernel
theorem dX2_findSet_2 : decode cX2_findSet 2 = .ok (.iload_n 3, 1) := by decide +kernel
theorem dX2_findSet_3 : decode cX2_findSet 3 = .ok (.iload_n 1, 1) := by decide +kernel
theorem dX2_findSet_4 : decode cX2_findSet 4 = .ok (.if_icmp .ge 22, 3) := by decide +kernel
theorem dX2_findSet_7 : decode cX2_findSet 7 = .ok (.iload_n 3, 1) := by decide +kernel
theorem dX2_findSet_8 : decode cX2_findSet 8 = .ok (.bipush 10, 2) := by decide +kernel
theorem dX2_findSet_10 : decode cX2_findSet 10 = .ok (.if_icmp .ge 16, 3) := by decide +kernel
theorem dX2_findSet_13 : decode cX2_findSet 13 = .ok (.aload_n 0, 1) := by decide +kernel
theorem dX2_findSet_14 : decode cX2_findSet 14 = .ok (.getfield 28, 3) := by decide +kernel
theorem dX2_findSet_17 : decode cX2_findSet 17 = .ok (.iload_n 3, 1) := by decide +kernel
theorem dX2_findSet_18 : decode cX2_findSet 18 = .ok (.iload_n 3, 1) := by decide +kernel
theorem dX2_findSet_19 : decode cX2_findSet 19 = .ok (.iastore, 1) := by decide +kernel
theorem dX2_findSet_20 : decode cX2_findSet 20 = .ok (.iinc 3 1, 3) := by decide +kernel
theorem dX2_findSet_23 : decode cX2_findSet 23 = .ok (.goto (-21), 3) := by decide +kernel
theorem dX2_findSet_26 : decode cX2_findSet 26 = .ok (.iconst 1, 1) := by decide +kernel
theorem dX2_findSet_27 : decode cX2_findSet 27 = .ok (.istore_n 3, 1) := by decide +kernel
theorem dX2_findSet_28 : decode cX2_findSet 28 = .ok (.iconst 0, 1) := by decide +kernel
theorem dX2_findSet_29 : decode cX2_findSet 29 = .ok (.istore 4, 2) := by decide +kernel
theorem dX2_findSet_31 : decode cX2_findSet 31 = .ok (.iload 4, 2) := by decide +kernel
theorem dX2_findSet_33 : decode cX2_findSet 33 = .ok (.sipush 1024, 3) := by decide +kernel
theorem dX2_findSet_36 : decode cX2_findSet 36 = .ok (.if_icmp .ge 34, 3) := by decide +kernel
theorem dX2_findSet_39 : decode cX2_findSet 39 = .ok (.iload_n 3, 1) := by decide +kernel
theorem dX2_findSet_40 : decode cX2_findSet 40 = .ok (.ifCond .eq 30, 3) := by decide +kernel
theorem dX2_findSet_43 : decode cX2_findSet 43 = .ok (.aload_n 0, 1) := by decide +kernel
theorem dX2_findSet_44 : decode cX2_findSet 44 = .ok (.aload_n 0, 1) := by decide +kernel
theorem dX2_findSet_45 : decode cX2_findSet 45 = .ok (.iload_n 1, 1) := by decide +kernel
theorem dX2_findSet_46 : decode cX2_findSet 46 = .ok (.invokevirtual 55, 3) := by decide +kernel
theorem dX2_findSet_49 : decode cX2_findSet 49 = .ok (.invokevirtual 59, 3) := by decide +kernel
theorem dX2_findSet_52 : decode cX2_findSet 52 = .ok (.iload_n 2, 1) := by decide +kernel
theorem dX2_findSet_53 : decode cX2_findSet 53 = .ok (.if_icmp .ne 5, 3) := by decide +kernel
theorem dX2_findSet_56 : decode cX2_findSet 56 = .ok (.iconst 1, 1) := by decide +kernel
theorem dX2_findSet_57 : decode cX2_findSet 57 = .ok (.ireturn, 1) := by decide +kernel
theorem dX2_findSet_58 : decode cX2_findSet 58 = .ok (.aload_n 0, 1) := by decide +kernel
theorem dX2_findSet_59 : decode cX2_findSet 59 = .ok (.iload_n 1, 1) := by decide +kernel
theorem dX2_findSet_60 : decode cX2_findSet 60 = .ok (.invokevirtual 62, 3) := by decide +kernel
theorem dX2_findSet_63 : decode cX2_findSet 63 = .ok (.istore_n 3, 1) := by decide +kernel
theorem dX2_findSet_64 : decode cX2_findSet 64 = .ok (.iinc 4 1, 3) := by decide +kernel
theorem dX2_findSet_67 : decode cX2_findSet 67 = .ok (.goto (-36), 3) := by decide +kernel
theorem dX2_findSet_70 : decode cX2_findSet 70 = .ok (.iconst 0, 1) := by decide +kernel
theorem dX2_findSet_71 : decode cX2_findSet 71 = .ok (.ireturn, 1) := by decide +kernel
theorem dX2_moveOn_0 : decode cX2_moveOn 0 = .ok (.iload_n 1, 1) := by decide +kernel
theorem dX2_moveOn_1 : decode cX2_moveOn 1 = .ok (.iconst 1, 1) := by decide +kernel
theorem dX2_moveOn_2 : decode cX2_moveOn 2 = .ok (.isub, 1) := by decide +kernel
theorem dX2_moveOn_3 : decode cX2_moveOn 3 = .ok (.istore_n 2, 1) := by decide +kernel
theorem dX2_moveOn_4 : decode cX2_moveOn 4 = .ok (.iload_n 2, 1) := by decide +kernel
theorem dX2_moveOn_5 : decode cX2_moveOn 5 = .ok (.bipush 10, 2) := by decide +kernel
theorem dX2_moveOn_7 : decode cX2_moveOn 7 = .ok (.invokestatic 66, 3) := by decide +kernel
theorem dX2_moveOn_10 : decode cX2_moveOn 10 = .ok (.ifCond .eq 78, 3) := by decide +kernel
theorem dX2_moveOn_13 : decode cX2_moveOn 13 = .ok (.aload_n 0, 1) := by decide +kernel
theorem dX2_moveOn_14 : decode cX2_moveOn 14 = .ok (.getfield 28, 3) := by decide +kernel
theorem dX2_moveOn_17 : decode cX2_moveOn 17 = .ok (.iload_n 2, 1) := by decide +kernel
theorem dX2_moveOn_18 : decode cX2_moveOn 18 = .ok (.iaload, 1) := by decide +kernel
theorem dX2_moveOn_19 : decode cX2_moveOn 19 = .ok (.aload_n 0, 1) := by decide +kernel
theorem dX2_moveOn_20 : decode cX2_moveOn 20 = .ok (.getfield 31, 3) := by decide +kernel
theorem dX2_moveOn_23 : decode cX2_moveOn 23 = .ok (.getfield 48, 3) := by decide +kernel
theorem dX2_moveOn_26 : decode cX2_moveOn 26 = .ok (.iload_n 1, 1) := by decide +kernel
theorem dX2_moveOn_27 : decode cX2_moveOn 27 = .ok (.isub, 1) := by decide +kernel
theorem dX2_moveOn_28 : decode cX2_moveOn 28 = .ok (.iload_n 2, 1) := by decide +kernel
theorem dX2_moveOn_29 : decode cX2_moveOn 29 = .ok (.iadd, 1) := by decide +kernel
theorem dX2_moveOn_30 : decode cX2_moveOn 30 = .ok (.if_icmp .ge 52, 3) := by decide +kernel
theorem dX2_moveOn_33 : decode cX2_moveOn 33 = .ok (.aload_n 0, 1) := by decide +kernel
theorem dX2_moveOn_34 : decode cX2_moveOn 34 = .ok (.getfield 28, 3) := by decide +kernel
theorem dX2_moveOn_37 : decode cX2_moveOn 37 = .ok (.iload_n 2, 1) := by decide +kernel
theorem dX2_moveOn_38 : decode cX2_moveOn 38 = .ok (.dup2, 1) := by decide +kernel
theorem dX2_moveOn_39 : decode cX2_moveOn 39 = .ok (.iaload, 1) := by decide +kernel
theorem dX2_moveOn_40 : decode cX2_moveOn 40 = .ok (.iconst 1, 1) := by decide +kernel
theorem dX2_moveOn_41 : decode cX2_moveOn 41 = .ok (.iadd, 1) := by decide +kernel
theorem dX2_moveOn_42 : decode cX2_moveOn 42 = .ok (.iastore, 1) := by decide +kernel
theorem dX2_moveOn_43 : decode cX2_moveOn 43 = .ok (.iload_n 2, 1) := by decide +kernel
theorem dX2_moveOn_44 : decode cX2_moveOn 44 = .ok (.iconst 1, 1) := by decide +kernel
theorem dX2_moveOn_45 : decode cX2_moveOn 45 = .ok (.iadd, 1) := by decide +kernel
theorem dX2_moveOn_46 : decode cX2_moveOn 46 = .ok (.istore_n 3, 1) := by decide +kernel
theorem dX2_moveOn_47 : decode cX2_moveOn 47 = .ok (.iload_n 3, 1) := by decide +kernel
theorem dX2_moveOn_48 : decode cX2_moveOn 48 = .ok (.iload_n 1, 1) := by decide +kernel
theorem dX2_moveOn_49 : decode cX2_moveOn 49 = .ok (.if_icmp .ge 31, 3) := by decide +kernel
theorem dX2_moveOn_52 : decode cX2_moveOn 52 = .ok (.iload_n 3, 1) := by decide +kernel
theorem dX2_moveOn_53 : decode cX2_moveOn 53 = .ok (.bipush 10, 2) := by decide +kernel
theorem dX2_moveOn_55 : decode cX2_moveOn 55 = .ok (.if_icmp .ge 25, 3) := by decide +kernel
theorem dX2_moveOn_58 : decode cX2_moveOn 58 = .ok (.aload_n 0, 1) := by decide +kernel
theorem dX2_moveOn_59 : decode cX2_moveOn 59 = .ok (.getfield 28, 3) := by decide +kernel
theorem dX2_moveOn_62 : decode cX2_moveOn 62 = .ok (.iload_n 3, 1) := by decide +kernel
theorem dX2_moveOn_63 : decode cX2_moveOn 63 = .ok (.aload_n 0, 1) := by decide +kernel
theorem dX2_moveOn_64 : decode cX2_moveOn 64 = .ok (.getfield 28, 3) := by decide +kernel
theorem dX2_moveOn_67 : decode cX2_moveOn 67 = .ok (.iload_n 3, 1) := by decide +kernel
theorem dX2_moveOn_68 : decode cX2_moveOn 68 = .ok (.iconst 1, 1) := by decide +kernel
theorem dX2_moveOn_69 : decode cX2_moveOn 69 = .ok (.isub, 1) := by decide +kernel
theorem dX2_moveOn_70 : decode cX2_moveOn 70 = .ok (.iaload, 1) := by decide +kernel
theorem dX2_moveOn_71 : decode cX2_moveOn 71 = .ok (.iconst 1, 1) := by decide +kernel
theorem dX2_moveOn_72 : decode cX2_moveOn 72 = .ok (.iadd, 1) := by decide +kernel
theorem dX2_moveOn_73 : decode cX2_moveOn 73 = .ok (.iastore, 1) := by decide +kernel
theorem dX2_moveOn_74 : decode cX2_moveOn 74 = .ok (.iinc 3 1, 3) := by decide +kernel
theorem dX2_moveOn_77 : decode cX2_moveOn 77 = .ok (.goto (-30), 3) := by decide +kernel
theorem dX2_moveOn_80 : decode cX2_moveOn 80 = .ok (.iconst 1, 1) := by decide +kernel
theorem dX2_moveOn_81 : decode cX2_moveOn 81 = .ok (.ireturn, 1) := by decide +kernel
theorem dX2_moveOn_82 : decode cX2_moveOn 82 = .ok (.iinc 2 (-1), 3) := by decide +kernel
theorem dX2_moveOn_85 : decode cX2_moveOn 85 = .ok (.goto (-81), 3) := by decide +kernel
theorem dX2_moveOn_88 : decode cX2_moveOn 88 = .ok (.iconst 0, 1) := by decide +kernel
theorem dX2_moveOn_89 : decode cX2_moveOn 89 = .ok (.ireturn, 1) := by decide +kernel
theorem dX2_picksAsBits_0 : decode cX2_picksAsBits 0 = .ok (.iconst 0, 1) := by decide +kernel
theorem dX2_picksAsBits_1 : decode cX2_picksAsBits 1 = .ok (.istore_n 2, 1) := by decide +kernel
theorem dX2_picksAsBits_2 : decode cX2_picksAsBits 2 = .ok (.iconst 0, 1) := by decide +kernel
theorem dX2_picksAsBits_3 : decode cX2_picksAsBits 3 = .ok (.istore_n 3, 1) := by decide +kernel
theorem dX2_picksAsBits_4 : decode cX2_picksAsBits 4 = .ok (.iload_n 3, 1) := by decide +kernel
theorem dX2_picksAsBits_5 : decode cX2_picksAsBits 5 = .ok (.iload_n 1, 1) := by decide +kernel
theorem dX2_picksAsBits_6 : decode cX2_picksAsBits 6 = .ok (.if_icmp .ge 26, 3) := by decide +kernel
theorem dX2_picksAsBits_9 : decode cX2_picksAsBits 9 = .ok (.iload_n 3, 1) := by decide +kernel
theorem dX2_picksAsBits_10 : decode cX2_picksAsBits 10 = .ok (.bipush 10, 2) := by decide +kernel
theorem dX2_picksAsBits_12 : decode cX2_picksAsBits 12 = .ok (.if_icmp .ge 20, 3) := by decide +kernel
theorem dX2_picksAsBits_15 : decode cX2_picksAsBits 15 = .ok (.iload_n 2, 1) := by decide +kernel
theorem dX2_picksAsBits_16 : decode cX2_picksAsBits 16 = .ok (.iconst 1, 1) := by decide +kernel
theorem dX2_picksAsBits_17 : decode cX2_picksAsBits 17 = .ok (.aload_n 0, 1) := by decide +kernel
theorem dX2_picksAsBits_18 : decode cX2_picksAsBits 18 = .ok (.getfield 28, 3) := by decide +kernel
theorem dX2_picksAsBits_21 : decode cX2_picksAsBits 21 = .ok (.iload_n 3, 1) := by decide +kernel
theorem dX2_picksAsBits_22 : decode cX2_picksAsBits 22 = .ok (.iaload, 1) := by decide +kernel
theorem dX2_picksAsBits_23 : decode cX2_picksAsBits 23 = .ok (.ishl, 1) := by decide +kernel
theorem dX2_picksAsBits_24 : decode cX2_picksAsBits 24 = .ok (.ior, 1) := by decide +kernel
theorem dX2_picksAsBits_25 : decode cX2_picksAsBits 25 = .ok (.istore_n 2, 1) := by decide +kernel
theorem dX2_picksAsBits_26 : decode cX2_picksAsBits 26 = .ok (.iinc 3 1, 3) := by decide +kernel
theorem dX2_picksAsBits_29 : decode cX2_picksAsBits 29 = .ok (.goto (-25), 3) := by decide +kernel
theorem dX2_picksAsBits_32 : decode cX2_picksAsBits 32 = .ok (.iload_n 2, 1) := by decide +kernel
theorem dX2_picksAsBits_33 : decode cX2_picksAsBits 33 = .ok (.ireturn, 1) := by decide +kernel
theorem dX2_gradeWithout_0 : decode cX2_gradeWithout 0 = .ok (.iload_n 1, 1) := by decide +kernel
theorem dX2_gradeWithout_1 : decode cX2_gradeWithout 1 = .ok (.sipush 1024, 3) := by decide +kernel
theorem dX2_gradeWithout_4 : decode cX2_gradeWithout 4 = .ok (.invokestatic 66, 3) := by decide +kernel
theorem dX2_gradeWithout_7 : decode cX2_gradeWithout 7 = .ok (.ifCond .ne 5, 3) := by decide +kernel
theorem dX2_gradeWithout_10 : decode cX2_gradeWithout 10 = .ok (.iconst (-1), 1) := by decide +kernel
theorem dX2_gradeWithout_11 : decode cX2_gradeWithout 11 = .ok (.ireturn, 1) := by decide +kernel
theorem dX2_gradeWithout_12 : decode cX2_gradeWithout 12 = .ok (.aload_n 0, 1) := by decide +kernel
theorem dX2_gradeWithout_13 : decode cX2_gradeWithout 13 = .ok (.getfield 9, 3) := by decide +kernel
theorem dX2_gradeWithout_16 : decode cX2_gradeWithout 16 = .ok (.iload_n 1, 1) := by decide +kernel
theorem dX2_gradeWithout_17 : decode cX2_gradeWithout 17 = .ok (.iaload, 1) := by decide +kernel
theorem dX2_gradeWithout_18 : decode cX2_gradeWithout 18 = .ok (.bipush (-2), 2) := by decide +kernel
theorem dX2_gradeWithout_20 : decode cX2_gradeWithout 20 = .ok (.if_icmp .ne 76, 3) := by decide +kernel
theorem dX2_gradeWithout_23 : decode cX2_gradeWithout 23 = .ok (.aload_n 0, 1) := by decide +kernel
theorem dX2_gradeWithout_24 : decode cX2_gradeWithout 24 = .ok (.getfield 9, 3) := by decide +kernel
theorem dX2_gradeWithout_27 : decode cX2_gradeWithout 27 = .ok (.iload_n 1, 1) := by decide +kernel
theorem dX2_gradeWithout_28 : decode cX2_gradeWithout 28 = .ok (.iconst (-1), 1) := by decide +kernel
theorem dX2_gradeWithout_29 : decode cX2_gradeWithout 29 = .ok (.iastore, 1) := by decide +kernel
theorem dX2_gradeWithout_30 : decode cX2_gradeWithout 30 = .ok (.iconst 0, 1) := by decide +kernel
theorem dX2_gradeWithout_31 : decode cX2_gradeWithout 31 = .ok (.istore_n 2, 1) := by decide +kernel
theorem dX2_gradeWithout_32 : decode cX2_gradeWithout 32 = .ok (.iload_n 2, 1) := by decide +kernel
theorem dX2_gradeWithout_33 : decode cX2_gradeWithout 33 = .ok (.aload_n 0, 1) := by decide +kernel
theorem dX2_gradeWithout_34 : decode cX2_gradeWithout 34 = .ok (.getfield 20, 3) := by decide +kernel
theorem dX2_gradeWithout_37 : decode cX2_gradeWithout 37 = .ok (.getfield 69, 3) := by decide +kernel
theorem dX2_gradeWithout_40 : decode cX2_gradeWithout 40 = .ok (.if_icmp .ge 56, 3) := by decide +kernel
theorem dX2_gradeWithout_43 : decode cX2_gradeWithout 43 = .ok (.iload_n 2, 1) := by decide +kernel
theorem dX2_gradeWithout_44 : decode cX2_gradeWithout 44 = .ok (.bipush 12, 2) := by decide +kernel
theorem dX2_gradeWithout_46 : decode cX2_gradeWithout 46 = .ok (.if_icmp .ge 50, 3) := by decide +kernel
theorem dX2_gradeWithout_49 : decode cX2_gradeWithout 49 = .ok (.aload_n 0, 1) := by decide +kernel
theorem dX2_gradeWithout_50 : decode cX2_gradeWithout 50 = .ok (.getfield 9, 3) := by decide +kernel
theorem dX2_gradeWithout_53 : decode cX2_gradeWithout 53 = .ok (.iload_n 1, 1) := by decide +kernel
theorem dX2_gradeWithout_54 : decode cX2_gradeWithout 54 = .ok (.iaload, 1) := by decide +kernel
theorem dX2_gradeWithout_55 : decode cX2_gradeWithout 55 = .ok (.iconst (-1), 1) := by decide +kernel
theorem dX2_gradeWithout_56 : decode cX2_gradeWithout 56 = .ok (.if_icmp .ne 40, 3) := by decide +kernel
theorem dX2_gradeWithout_59 : decode cX2_gradeWithout 59 = .ok (.aload_n 0, 1) := by decide +kernel
theorem dX2_gradeWithout_60 : decode cX2_gradeWithout 60 = .ok (.getfield 35, 3) := by decide +kernel
theorem dX2_gradeWithout_63 : decode cX2_gradeWithout 63 = .ok (.aload_n 0, 1) := by decide +kernel
theorem dX2_gradeWithout_64 : decode cX2_gradeWithout 64 = .ok (.getfield 20, 3) := by decide +kernel
theorem dX2_gradeWithout_67 : decode cX2_gradeWithout 67 = .ok (.iload_n 2, 1) := by decide +kernel
theorem dX2_gradeWithout_68 : decode cX2_gradeWithout 68 = .ok (.iload_n 1, 1) := by decide +kernel
theorem dX2_gradeWithout_69 : decode cX2_gradeWithout 69 = .ok (.invokevirtual 70, 3) := by decide +kernel
theorem dX2_gradeWithout_72 : decode cX2_gradeWithout 72 = .ok (.ifCond .eq 18, 3) := by decide +kernel
theorem dX2_gradeWithout_75 : decode cX2_gradeWithout 75 = .ok (.aload_n 0, 1) := by decide +kernel
theorem dX2_gradeWithout_76 : decode cX2_gradeWithout 76 = .ok (.getfield 9, 3) := by decide +kernel
theorem dX2_gradeWithout_79 : decode cX2_gradeWithout 79 = .ok (.iload_n 1, 1) := by decide +kernel
theorem dX2_gradeWithout_80 : decode cX2_gradeWithout 80 = .ok (.aload_n 0, 1) := by decide +kernel
theorem dX2_gradeWithout_81 : decode cX2_gradeWithout 81 = .ok (.getfield 20, 3) := by decide +kernel
theorem dX2_gradeWithout_84 : decode cX2_gradeWithout 84 = .ok (.getfield 76, 3) := by decide +kernel
theorem dX2_gradeWithout_87 : decode cX2_gradeWithout 87 = .ok (.iload_n 2, 1) := by decide +kernel
theorem dX2_gradeWithout_88 : decode cX2_gradeWithout 88 = .ok (.iaload, 1) := by decide +kernel
theorem dX2_gradeWithout_89 : decode cX2_gradeWithout 89 = .ok (.iastore, 1) := by decide +kernel
theorem dX2_gradeWithout_90 : decode cX2_gradeWithout 90 = .ok (.iinc 2 1, 3) := by decide +kernel
theorem dX2_gradeWithout_93 : decode cX2_gradeWithout 93 = .ok (.goto (-61), 3) := by decide +kernel
theorem dX2_gradeWithout_96 : decode cX2_gradeWithout 96 = .ok (.aload_n 0, 1) := by decide +kernel
theorem dX2_gradeWithout_97 : decode cX2_gradeWithout 97 = .ok (.getfield 9, 3) := by decide +kernel
theorem dX2_gradeWithout_100 : decode cX2_gradeWithout 100 = .ok (.iload_n 1, 1) := by decide +kernel
theorem dX2_gradeWithout_101 : decode cX2_gradeWithout 101 = .ok (.iaload, 1) := by decide +kernel
theorem dX2_gradeWithout_102 : decode cX2_gradeWithout 102 = .ok (.ireturn, 1) := by decide +kernel
theorem dX3_init_0 : decode cX3_init 0 = .ok (.aload_n 0, 1) := by decide +kernel
theorem dX3_init_1 : decode cX3_init 1 = .ok (.sipush 300, 3) := by decide +kernel
theorem dX3_init_4 : decode cX3_init 4 = .ok (.newarray .char, 2) := by decide +kernel
theorem dX3_init_6 : decode cX3_init 6 = .ok (.invokespecial 3, 3) := by decide +kernel
theorem dX3_init_9 : decode cX3_init 9 = .ok (.aload_n 0, 1) := by decide +kernel
theorem dX3_init_10 : decode cX3_init 10 = .ok (.sipush 300, 3) := by decide +kernel
theorem dX3_init_13 : decode cX3_init 13 = .ok (.newarray .boolean, 2) := by decide +kernel
theorem dX3_init_15 : decode cX3_init 15 = .ok (.putfield 9, 3) := by decide +kernel
theorem dX3_init_18 : decode cX3_init 18 = .ok (.aload_n 0, 1) := by decide +kernel
theorem dX3_init_19 : decode cX3_init 19 = .ok (.new 15, 3) := by decide +kernel
theorem dX3_init_22 : decode cX3_init 22 = .ok (.dup, 1) := by decide +kernel
theorem dX3_init_23 : decode cX3_init 23 = .ok (.iconst 0, 1) := by decide +kernel
theorem dX3_init_24 : decode cX3_init 24 = .ok (.invokespecial 17, 3) := by decide +kernel
theorem dX3_init_27 : decode cX3_init 27 = .ok (.putfield 20, 3) := by decide +kernel
theorem dX3_init_30 : decode cX3_init 30 = .ok (.return_, 1) := by decide +kernel
theorem dX3_append_0 : decode cX3_append 0 = .ok (.aload_n 0, 1) := by decide +kernel
theorem dX3_append_1 : decode cX3_append 1 = .ok (.getfield 24, 3) := by decide +kernel
theorem dX3_append_4 : decode cX3_append 4 = .ok (.sipush 300, 3) := by decide +kernel
theorem dX3_append_7 : decode cX3_append 7 = .ok (.if_icmp .ge 18, 3) := by decide +kernel
theorem dX3_append_10 : decode cX3_append 10 = .ok (.aload_n 0, 1) := by decide +kernel
theorem dX3_append_11 : decode cX3_append 11 = .ok (.getfield 24, 3) := by decide +kernel
theorem dX3_append_14 : decode cX3_append 14 = .ok (.aload_n 0, 1) := by decide +kernel
theorem dX3_append_15 : decode cX3_append 15 = .ok (.getfield 28, 3) := by decide +kernel
theorem dX3_append_18 : decode cX3_append 18 = .ok (.arraylength, 1) := by decide +kernel
theorem dX3_append_19 : decode cX3_append 19 = .ok (.invokestatic 32, 3) := by decide +kernel
theorem dX3_append_22 : decode cX3_append 22 = .ok (.ifCond .ne 5, 3) := by decide +kernel
theorem dX3_append_25 : decode cX3_append 25 = .ok (.iconst 0, 1) := by decide +kernel
theorem dX3_append_26 : decode cX3_append 26 = .ok (.ireturn, 1) := by decide +kernel
theorem dX3_append_27 : decode cX3_append 27 = .ok (.aload_n 0, 1) := by decide +kernel
theorem dX3_append_28 : decode cX3_append 28 = .ok (.getfield 28, 3) := by decide +kernel
theorem dX3_append_31 : decode cX3_append 31 = .ok (.aload_n 0, 1) := by decide +kernel
theorem dX3_append_32 : decode cX3_append 32 = .ok (.getfield 24, 3) := by decide +kernel
theorem dX3_append_35 : decode cX3_append 35 = .ok (.iload_n 1, 1) := by decide +kernel
theorem dX3_append_36 : decode cX3_append 36 = .ok (.castore, 1) := by decide +kernel
theorem dX3_append_37 : decode cX3_append 37 = .ok (.aload_n 0, 1) := by decide +kernel
theorem dX3_append_38 : decode cX3_append 38 = .ok (.aload_n 0, 1) := by decide +kernel
theorem dX3_append_39 : decode cX3_append 39 = .ok (.getfield 24, 3) := by decide +kernel
theorem dX3_append_42 : decode cX3_append 42 = .ok (.iconst 0, 1) := by decide +kernel
theorem dX3_append_43 : decode cX3_append 43 = .ok (.invokevirtual 36, 3) := by decide +kernel
theorem dX3_append_46 : decode cX3_append 46 = .ok (.aload_n 0, 1) := by decide +kernel
theorem dX3_append_47 : decode cX3_append 47 = .ok (.dup, 1) := by decide +kernel
theorem dX3_append_48 : decode cX3_append 48 = .ok (.getfield 24, 3) := by decide +kernel
theorem dX3_append_51 : decode cX3_append 51 = .ok (.iconst 1, 1) := by decide +kernel
theorem dX3_append_52 : decode cX3_append 52 = .ok (.iadd, 1) := by decide +kernel
theorem dX3_append_53 : decode cX3_append 53 = .ok (.putfield 24, 3) := by decide +kernel
theorem dX3_append_56 : decode cX3_append 56 = .ok (.iconst 1, 1) := by decide +kernel
theorem dX3_append_57 : decode cX3_append 57 = .ok (.ireturn, 1) := by decide +kernel
theorem dX3_parse_0 : decode cX3_parse 0 = .ok (.aload_n 0, 1) := by decide +kernel
theorem dX3_parse_1 : decode cX3_parse 1 = .ok (.iconst 0, 1) := by decide +kernel
theorem dX3_parse_2 : decode cX3_parse 2 = .ok (.putfield 40, 3) := by decide +kernel
theorem dX3_parse_5 : decode cX3_parse 5 = .ok (.aload_n 0, 1) := by decide +kernel
theorem dX3_parse_6 : decode cX3_parse 6 = .ok (.new 15, 3) := by decide +kernel
theorem dX3_parse_9 : decode cX3_parse 9 = .ok (.dup, 1) := by decide +kernel
theorem dX3_parse_10 : decode cX3_parse 10 = .ok (.aload_n 0, 1) := by decide +kernel
theorem dX3_parse_11 : decode cX3_parse 11 = .ok (.getfield 24, 3) := by decide +kernel
theorem dX3_parse_14 : decode cX3_parse 14 = .ok (.invokespecial 17, 3) := by decide +kernel
theorem dX3_parse_17 : decode cX3_parse 17 = .ok (.putfield 20, 3) := by decide +kernel
theorem dX3_parse_20 : decode cX3_parse 20 = .ok (.iconst 0, 1) := by decide +kernel
theorem dX3_parse_21 : decode cX3_parse 21 = .ok (.istore_n 1, 1) := by decide +kernel
theorem dX3_parse_22 : decode cX3_parse 22 = .ok (.iload_n 1, 1) := by decide +kernel
theorem dX3_parse_23 : decode cX3_parse 23 = .ok (.bipush 12, 2) := by decide +kernel
theorem dX3_parse_25 : decode cX3_parse 25 = .ok (.if_icmp .ge 74, 3) := by decide +kernel
theorem dX3_parse_28 : decode cX3_parse 28 = .ok (.aload_n 0, 1) := by decide +kernel
theorem dX3_parse_29 : decode cX3_parse 29 = .ok (.invokevirtual 43, 3) := by decide +kernel
theorem dX3_parse_32 : decode cX3_parse 32 = .ok (.ifCond .ne 5, 3) := by decide +kernel
theorem dX3_parse_35 : decode cX3_parse 35 = .ok (.aconst_null, 1) := by decide +kernel
theorem dX3_parse_36 : decode cX3_parse 36 = .ok (.areturn, 1) := by decide +kernel
theorem dX3_parse_37 : decode cX3_parse 37 = .ok (.aload_n 0, 1) := by decide +kernel
theorem dX3_parse_38 : decode cX3_parse 38 = .ok (.getfield 40, 3) := by decide +kernel
theorem dX3_parse_41 : decode cX3_parse 41 = .ok (.aload_n 0, 1) := by decide +kernel
theorem dX3_parse_42 : decode cX3_parse 42 = .ok (.getfield 24, 3) := by decide +kernel
theorem dX3_parse_45 : decode cX3_parse 45 = .ok (.if_icmp .ne 19, 3) := by decide +kernel
theorem dX3_parse_48 : decode cX3_parse 48 = .ok (.aload_n 0, 1) := by decide +kernel
theorem dX3_parse_49 : decode cX3_parse 49 = .ok (.getfield 20, 3) := by decide +kernel
theorem dX3_parse_52 : decode cX3_parse 52 = .ok (.aload_n 0, 1) := by decide +kernel
theorem dX3_parse_53 : decode cX3_parse 53 = .ok (.invokevirtual 47, 3) := by decide +kernel
theorem dX3_parse_56 : decode cX3_parse 56 = .ok (.putfield 51, 3) := by decide +kernel
theorem dX3_parse_59 : decode cX3_parse 59 = .ok (.aload_n 0, 1) := by decide +kernel
theorem dX3_parse_60 : decode cX3_parse 60 = .ok (.getfield 20, 3) := by decide +kernel
theorem dX3_parse_63 : decode cX3_parse 63 = .ok (.areturn, 1) := by decide +kernel
theorem dX3_parse_64 : decode cX3_parse 64 = .ok (.aload_n 0, 1) := by decide +kernel
theorem dX3_parse_65 : decode cX3_parse 65 = .ok (.invokevirtual 54, 3) := by decide +kernel
theorem dX3_parse_68 : decode cX3_parse 68 = .ok (.bipush 59, 2) := by decide +kernel
theorem dX3_parse_70 : decode cX3_parse 70 = .ok (.if_icmp .ne 11, 3) := by decide +kernel
theorem dX3_parse_73 : decode cX3_parse 73 = .ok (.iload_n 1, 1) := by decide +kernel
theorem dX3_parse_74 : decode cX3_parse 74 = .ok (.iconst 1, 1) := by decide +kernel
theorem dX3_parse_75 : decode cX3_parse 75 = .ok (.iadd, 1) := by decide +kernel
theorem dX3_parse_76 : decode cX3_parse 76 = .ok (.bipush 12, 2) := by decide +kernel
theorem dX3_parse_78 : decode cX3_parse 78 = .ok (.if_icmp .ne 5, 3) := by decide +kernel
theorem dX3_parse_81 : decode cX3_parse 81 = .ok (.aconst_null, 1) := by decide +kernel
theorem dX3_parse_82 : decode cX3_parse 82 = .ok (.areturn, 1) := by decide +kernel
theorem dX3_parse_83 : decode cX3_parse 83 = .ok (.aload_n 0, 1) := by decide +kernel
theorem dX3_parse_84 : decode cX3_parse 84 = .ok (.dup, 1) := by decide +kernel
theorem dX3_parse_85 : decode cX3_parse 85 = .ok (.getfield 40, 3) := by decide +kernel
theorem dX3_parse_88 : decode cX3_parse 88 = .ok (.iconst 1, 1) := by decide +kernel
theorem dX3_parse_89 : decode cX3_parse 89 = .ok (.iadd, 1) := by decide +kernel
theorem dX3_parse_90 : decode cX3_parse 90 = .ok (.putfield 40, 3) := by decide +kernel
theorem dX3_parse_93 : decode cX3_parse 93 = .ok (.iinc 1 1, 3) := by decide +kernel
theorem dX3_parse_96 : decode cX3_parse 96 = .ok (.goto (-74), 3) := by decide +kernel
theorem dX3_parse_99 : decode cX3_parse 99 = .ok (.aconst_null, 1) := by decide +kernel
theorem dX3_parse_100 : decode cX3_parse 100 = .ok (.areturn, 1) := by decide +kernel
theorem dX3_parseRule_0 : decode cX3_parseRule 0 = .ok (.aload_n 0, 1) := by decide +kernel
theorem dX3_parseRule_1 : decode cX3_parseRule 1 = .ok (.bipush 10, 2) := by decide +kernel
theorem dX3_parseRule_3 : decode cX3_parseRule 3 = .ok (.invokevirtual 58, 3) := by decide +kernel
theorem dX3_parseRule_6 : decode cX3_parseRule 6 = .ok (.istore_n 1, 1) := by decide +kernel
theorem dX3_parseRule_7 : decode cX3_parseRule 7 = .ok (.iload_n 1, 1) := by decide +kernel
theorem dX3_parseRule_8 : decode cX3_parseRule 8 = .ok (.iconst (-1), 1) := by decide +kernel
theorem dX3_parseRule_9 : decode cX3_parseRule 9 = .ok (.if_icmp .eq 12, 3) := by decide +kernel
theorem dX3_parseRule_12 : decode cX3_parseRule 12 = .ok (.aload_n 0, 1) := by decide +kernel
theorem dX3_parseRule_13 : decode cX3_parseRule 13 = .ok (.invokevirtual 54, 3) := by decide +kernel
theorem dX3_parseRule_16 : decode cX3_parseRule 16 = .ok (.bipush 58, 2) := by decide +kernel
theorem dX3_parseRule_18 : decode cX3_parseRule 18 = .ok (.if_icmp .eq 5, 3) := by decide +kernel
theorem dX3_parseRule_21 : decode cX3_parseRule 21 = .ok (.iconst 0, 1) := by decide +kernel
theorem dX3_parseRule_22 : decode cX3_parseRule 22 = .ok (.ireturn, 1) := by decide +kernel
theorem dX3_parseRule_23 : decode cX3_parseRule 23 = .ok (.aload_n 0, 1) := by decide +kernel
theorem dX3_parseRule_24 : decode cX3_parseRule 24 = .ok (.dup, 1) := by decide +kernel
theorem dX3_parseRule_25 : decode cX3_parseRule 25 = .ok (.getfield 40, 3) := by decide +kernel
theorem dX3_parseRule_28 : decode cX3_parseRule 28 = .ok (.iconst 1, 1) := by decide +kernel
theorem dX3_parseRule_29 : decode cX3_parseRule 29 = .ok (.iadd, 1) := by decide +kernel
theorem dX3_parseRule_30 : decode cX3_parseRule 30 = .ok (.putfield 40, 3) := by decide +kernel
theorem dX3_parseRule_33 : decode cX3_parseRule 33 = .ok (.aload_n 0, 1) := by decide +kernel
theorem dX3_parseRule_34 : decode cX3_parseRule 34 = .ok (.getfield 20, 3) := by decide +kernel
theorem dX3_parseRule_37 : decode cX3_parseRule 37 = .ok (.iload_n 1, 1) := by decide +kernel
theorem dX3_parseRule_38 : decode cX3_parseRule 38 = .ok (.invokevirtual 62, 3) := by decide +kernel
theorem dX3_parseRule_41 : decode cX3_parseRule 41 = .ok (.aload_n 0, 1) := by decide +kernel
theorem dX3_parseRule_42 : decode cX3_parseRule 42 = .ok (.getfield 40, 3) := by decide +kernel
theorem dX3_parseRule_45 : decode cX3_parseRule 45 = .ok (.aload_n 0, 1) := by decide +kernel
theorem dX3_parseRule_46 : decode cX3_parseRule 46 = .ok (.getfield 24, 3) := by decide +kernel
theorem dX3_parseRule_49 : decode cX3_parseRule 49 = .ok (.if_icmp .eq 12, 3) := by decide +kernel
theorem dX3_parseRule_52 : decode cX3_parseRule 52 = .ok (.aload_n 0, 1) := by decide +kernel
theorem dX3_parseRule_53 : decode cX3_parseRule 53 = .ok (.invokevirtual 54, 3) := by decide +kernel
theorem dX3_parseRule_56 : decode cX3_parseRule 56 = .ok (.bipush 59, 2) := by decide +kernel
theorem dX3_parseRule_58 : decode cX3_parseRule 58 = .ok (.if_icmp .ne 5, 3) := by decide +kernel
theorem dX3_parseRule_61 : decode cX3_parseRule 61 = .ok (.iconst 1, 1) := by decide +kernel
theorem dX3_parseRule_62 : decode cX3_parseRule 62 = .ok (.ireturn, 1) := by decide +kernel
theorem dX3_parseRule_63 : decode cX3_parseRule 63 = .ok (.iconst 0, 1) := by decide +kernel
theorem dX3_parseRule_64 : decode cX3_parseRule 64 = .ok (.istore_n 2, 1) := by decide +kernel
theorem dX3_parseRule_65 : decode cX3_parseRule 65 = .ok (.iload_n 2, 1) := by decide +kernel
theorem dX3_parseRule_66 : decode cX3_parseRule 66 = .ok (.bipush 6, 2) := by decide +kernel
theorem dX3_parseRule_68 : decode cX3_parseRule 68 = .ok (.if_icmp .ge 47, 3) := by decide +kernel
theorem dX3_parseRule_71 : decode cX3_parseRule 71 = .ok (.aload_n 0, 1) := by decide +kernel
theorem dX3_parseRule_72 : decode cX3_parseRule 72 = .ok (.invokevirtual 65, 3) := by decide +kernel
theorem dX3_parseRule_75 : decode cX3_parseRule 75 = .ok (.ifCond .ne 5, 3) := by decide +kernel
theorem dX3_parseRule_78 : decode cX3_parseRule 78 = .ok (.iconst 0, 1) := by decide +kernel
theorem dX3_parseRule_79 : decode cX3_parseRule 79 = .ok (.ireturn, 1) := by decide +kernel
theorem dX3_parseRule_80 : decode cX3_parseRule 80 = .ok (.aload_n 0, 1) := by decide +kernel
theorem dX3_parseRule_81 : decode cX3_parseRule 81 = .ok (.invokevirtual 54, 3) := by decide +kernel
theorem dX3_parseRule_84 : decode cX3_parseRule 84 = .ok (.bipush 44, 2) := by decide +kernel
theorem dX3_parseRule_86 : decode cX3_parseRule 86 = .ok (.if_icmp .ne 11, 3) := by decide +kernel
theorem dX3_parseRule_89 : decode cX3_parseRule 89 = .ok (.iload_n 2, 1) := by decide +kernel
theorem dX3_parseRule_90 : decode cX3_parseRule 90 = .ok (.iconst 1, 1) := by decide +kernel
theorem dX3_parseRule_91 : decode cX3_parseRule 91 = .ok (.iadd, 1) := by decide +kernel
theorem dX3_parseRule_92 : decode cX3_parseRule 92 = .ok (.bipush 6, 2) := by decide +kernel
theorem dX3_parseRule_94 : decode cX3_parseRule 94 = .ok (.if_icmp .ne 5, 3) := by decide +kernel
theorem dX3_parseRule_97 : decode cX3_parseRule 97 = .ok (.iconst 1, 1) := by decide +kernel
theorem dX3_parseRule_98 : decode cX3_parseRule 98 = .ok (.ireturn, 1) := by decide +kernel
theorem dX3_parseRule_99 : decode cX3_parseRule 99 = .ok (.aload_n 0, 1) := by decide +kernel
theorem dX3_parseRule_100 : decode cX3_parseRule 100 = .ok (.dup, 1) := by decide +kernel
theorem dX3_parseRule_101 : decode cX3_parseRule 101 = .ok (.getfield 40, 3) := by decide +kernel
theorem dX3_parseRule_104 : decode cX3_parseRule 104 = .ok (.iconst 1, 1) := by decide +kernel
theorem dX3_parseRule_105 : decode cX3_parseRule 105 = .ok (.iadd, 1) := by decide +kernel
theorem dX3_parseRule_106 : decode cX3_parseRule 106 = .ok (.putfield 40, 3) := by decide +kernel
theorem dX3_parseRule_109 : decode cX3_parseRule 109 = .ok (.iinc 2 1, 3) := by decide +kernel
theorem dX3_parseRule_112 : decode cX3_parseRule 112 = .ok (.goto (-47), 3) := by decide +kernel
theorem dX3_parseRule_115 : decode cX3_parseRule 115 = .ok (.iconst 1, 1) := by decide +kernel
theorem dX3_parseRule_116 : decode cX3_parseRule 116 = .ok (.ireturn, 1) := by decide +kernel
theorem dX3_parseCondition_0 : decode cX3_parseCondition 0 = .ok (.aload_n 0, 1) := by decide +kernel
theorem dX3_parseCondition_1 : decode cX3_parseCondition 1 = .ok (.iconst 0, 1) := by decide +kernel
theorem dX3_parseCondition_2 : decode cX3_parseCondition 2 = .ok (.invokevirtual 68, 3) := by decide +kernel
theorem dX3_parseCondition_5 : decode cX3_parseCondition 5 = .ok (.iconst (-1), 1) := by decide +kernel
theorem dX3_parseCondition_6 : decode cX3_parseCondition 6 = .ok (.if_icmp .ne 5, 3) := by decide +kernel
theorem dX3_parseCondition_9 : decode cX3_parseCondition 9 = .ok (.iconst 0, 1) := by decide +kernel
theorem dX3_parseCondition_10 : decode cX3_parseCondition 10 = .ok (.ireturn, 1) := by decide +kernel
theorem dX3_parseCondition_11 : decode cX3_parseCondition 11 = .ok (.aload_n 0, 1) := by decide +kernel
theorem dX3_parseCondition_12 : decode cX3_parseCondition 12 = .ok (.invokevirtual 54, 3) := by decide +kernel
theorem dX3_parseCondition_15 : decode cX3_parseCondition 15 = .ok (.istore_n 1, 1) := by decide +kernel
theorem dX3_parseCondition_16 : decode cX3_parseCondition 16 = .ok (.iload_n 1, 1) := by decide +kernel
theorem dX3_parseCondition_17 : decode cX3_parseCondition 17 = .ok (.bipush 60, 2) := by decide +kernel
theorem dX3_parseCondition_19 : decode cX3_parseCondition 19 = .ok (.if_icmp .eq 23, 3) := by decide +kernel
theorem dX3_parseCondition_22 : decode cX3_parseCondition 22 = .ok (.iload_n 1, 1) := by decide +kernel
theorem dX3_parseCondition_23 : decode cX3_parseCondition 23 = .ok (.bipush 62, 2) := by decide +kernel
theorem dX3_parseCondition_25 : decode cX3_parseCondition 25 = .ok (.if_icmp .eq 17, 3) := by decide +kernel
theorem dX3_parseCondition_28 : decode cX3_parseCondition 28 = .ok (.iload_n 1, 1) := by decide +kernel
theorem dX3_parseCondition_29 : decode cX3_parseCondition 29 = .ok (.bipush 61, 2) := by decide +kernel
theorem dX3_parseCondition_31 : decode cX3_parseCondition 31 = .ok (.if_icmp .eq 11, 3) := by decide +kernel
theorem dX3_parseCondition_34 : decode cX3_parseCondition 34 = .ok (.iload_n 1, 1) := by decide +kernel
theorem dX3_parseCondition_35 : decode cX3_parseCondition 35 = .ok (.bipush 33, 2) := by decide +kernel
theorem dX3_parseCondition_37 : decode cX3_parseCondition 37 = .ok (.if_icmp .eq 5, 3) := by decide +kernel
theorem dX3_parseCondition_40 : decode cX3_parseCondition 40 = .ok (.iconst 0, 1) := by decide +kernel
theorem dX3_parseCondition_41 : decode cX3_parseCondition 41 = .ok (.ireturn, 1) := by decide +kernel
theorem dX3_parseCondition_42 : decode cX3_parseCondition 42 = .ok (.aload_n 0, 1) := by decide +kernel
theorem dX3_parseCondition_43 : decode cX3_parseCondition 43 = .ok (.dup, 1) := by decide +kernel
theorem dX3_parseCondition_44 : decode cX3_parseCondition 44 = .ok (.getfield 40, 3) := by decide +kernel
theorem dX3_parseCondition_47 : decode cX3_parseCondition 47 = .ok (.iconst 1, 1) := by decide +kernel
theorem dX3_parseCondition_48 : decode cX3_parseCondition 48 = .ok (.iadd, 1) := by decide +kernel
theorem dX3_parseCondition_49 : decode cX3_parseCondition 49 = .ok (.putfield 40, 3) := by decide +kernel
theorem dX3_parseCondition_52 : decode cX3_parseCondition 52 = .ok (.aload_n 0, 1) := by decide +kernel
theorem dX3_parseCondition_53 : decode cX3_parseCondition 53 = .ok (.iconst 0, 1) := by decide +kernel
theorem dX3_parseCondition_54 : decode cX3_parseCondition 54 = .ok (.invokevirtual 68, 3) := by decide +kernel
theorem dX3_parseCondition_57 : decode cX3_parseCondition 57 = .ok (.iconst (-1), 1) := by decide +kernel
theorem dX3_parseCondition_58 : decode cX3_parseCondition 58 = .ok (.if_icmp .ne 5, 3) := by decide +kernel
theorem dX3_parseCondition_61 : decode cX3_parseCondition 61 = .ok (.iconst 0, 1) := by decide +kernel
theorem dX3_parseCondition_62 : decode cX3_parseCondition 62 = .ok (.ireturn, 1) := by decide +kernel
theorem dX3_parseCondition_63 : decode cX3_parseCondition 63 = .ok (.aload_n 0, 1) := by decide +kernel
theorem dX3_parseCondition_64 : decode cX3_parseCondition 64 = .ok (.getfield 20, 3) := by decide +kernel
theorem dX3_parseCondition_67 : decode cX3_parseCondition 67 = .ok (.iload_n 1, 1) := by decide +kernel
theorem dX3_parseCondition_68 : decode cX3_parseCondition 68 = .ok (.iconst 0, 1) := by decide +kernel
theorem dX3_parseCondition_69 : decode cX3_parseCondition 69 = .ok (.invokevirtual 71, 3) := by decide +kernel
theorem dX3_parseCondition_72 : decode cX3_parseCondition 72 = .ok (.iconst 1, 1) := by decide +kernel
theorem dX3_parseCondition_73 : decode cX3_parseCondition 73 = .ok (.ireturn, 1) := by decide +kernel
theorem dX3_parseExpression_0 : decode cX3_parseExpression 0 = .ok (.aload_n 0, 1) := by decide +kernel
theorem dX3_parseExpression_1 : decode cX3_parseExpression 1 = .ok (.iload_n 1, 1) := by decide +kernel
theorem dX3_parseExpression_2 : decode cX3_parseExpression 2 = .ok (.iconst 0, 1) := by decide +kernel
theorem dX3_parseExpression_3 : decode cX3_parseExpression 3 = .ok (.invokevirtual 75, 3) := by decide +kernel
theorem dX3_parseExpression_6 : decode cX3_parseExpression 6 = .ok (.istore_n 2, 1) := by decide +kernel
theorem dX3_parseExpression_7 : decode cX3_parseExpression 7 = .ok (.iconst 0, 1) := by decide +kernel
theorem dX3_parseExpression_8 : decode cX3_parseExpression 8 = .ok (.istore_n 3, 1) := by decide +kernel
theorem dX3_parseExpression_9 : decode cX3_parseExpression 9 = .ok (.iload_n 3, 1) := by decide +kernel
theorem dX3_parseExpression_10 : decode cX3_parseExpression 10 = .ok (.sipush 300, 3) := by decide +kernel
theorem dX3_parseExpression_13 : decode cX3_parseExpression 13 = .ok (.if_icmp .ge 73, 3) := by decide +kernel
theorem dX3_parseExpression_16 : decode cX3_parseExpression 16 = .ok (.iload_n 2, 1) := by decide +kernel
theorem dX3_parseExpression_17 : decode cX3_parseExpression 17 = .ok (.iconst (-1), 1) := by decide +kernel
theorem dX3_parseExpression_18 : decode cX3_parseExpression 18 = .ok (.if_icmp .eq 68, 3) := by decide +kernel
theorem dX3_parseExpression_21 : decode cX3_parseExpression 21 = .ok (.aload_n 0, 1) := by decide +kernel
theorem dX3_parseExpression_22 : decode cX3_parseExpression 22 = .ok (.invokevirtual 54, 3) := by decide +kernel
theorem dX3_parseExpression_25 : decode cX3_parseExpression 25 = .ok (.istore 4, 2) := by decide +kernel
theorem dX3_parseExpression_27 : decode cX3_parseExpression 27 = .ok (.iload 4, 2) := by decide +kernel
theorem dX3_parseExpression_29 : decode cX3_parseExpression 29 = .ok (.bipush 43, 2) := by decide +kernel
theorem dX3_parseExpression_31 : decode cX3_parseExpression 31 = .ok (.if_icmp .eq 13, 3) := by decide +kernel
theorem dX3_parseExpression_34 : decode cX3_parseExpression 34 = .ok (.iload 4, 2) := by decide +kernel
theorem dX3_parseExpression_36 : decode cX3_parseExpression 36 = .ok (.bipush 45, 2) := by decide +kernel
theorem dX3_parseExpression_38 : decode cX3_parseExpression 38 = .ok (.if_icmp .eq 6, 3) := by decide +kernel
theorem dX3_parseExpression_41 : decode cX3_parseExpression 41 = .ok (.goto 45, 3) := by decide +kernel
theorem dX3_parseExpression_44 : decode cX3_parseExpression 44 = .ok (.aload_n 0, 1) := by decide +kernel
theorem dX3_parseExpression_45 : decode cX3_parseExpression 45 = .ok (.dup, 1) := by decide +kernel
theorem dX3_parseExpression_46 : decode cX3_parseExpression 46 = .ok (.getfield 40, 3) := by decide +kernel
theorem dX3_parseExpression_49 : decode cX3_parseExpression 49 = .ok (.iconst 1, 1) := by decide +kernel
theorem dX3_parseExpression_50 : decode cX3_parseExpression 50 = .ok (.iadd, 1) := by decide +kernel
theorem dX3_parseExpression_51 : decode cX3_parseExpression 51 = .ok (.putfield 40, 3) := by decide +kernel
theorem dX3_parseExpression_54 : decode cX3_parseExpression 54 = .ok (.aload_n 0, 1) := by decide +kernel
theorem dX3_parseExpression_55 : decode cX3_parseExpression 55 = .ok (.iload_n 1, 1) := by decide +kernel
theorem dX3_parseExpression_56 : decode cX3_parseExpression 56 = .ok (.iconst 1, 1) := by decide +kernel
theorem dX3_parseExpression_57 : decode cX3_parseExpression 57 = .ok (.invokevirtual 75, 3) := by decide +kernel
theorem dX3_parseExpression_60 : decode cX3_parseExpression 60 = .ok (.iconst (-1), 1) := by decide +kernel
theorem dX3_parseExpression_61 : decode cX3_parseExpression 61 = .ok (.if_icmp .ne 7, 3) := by decide +kernel
theorem dX3_parseExpression_64 : decode cX3_parseExpression 64 = .ok (.iconst (-1), 1) := by decide +kernel
theorem dX3_parseExpression_65 : decode cX3_parseExpression 65 = .ok (.goto 4, 3) := by decide +kernel
theorem dX3_parseExpression_68 : decode cX3_parseExpression 68 = .ok (.iconst 2, 1) := by decide +kernel
theorem dX3_parseExpression_69 : decode cX3_parseExpression 69 = .ok (.istore_n 2, 1) := by decide +kernel
theorem dX3_parseExpression_70 : decode cX3_parseExpression 70 = .ok (.aload_n 0, 1) := by decide +kernel
theorem dX3_parseExpression_71 : decode cX3_parseExpression 71 = .ok (.getfield 20, 3) := by decide +kernel
theorem dX3_parseExpression_74 : decode cX3_parseExpression 74 = .ok (.iload 4, 2) := by decide +kernel
theorem dX3_parseExpression_76 : decode cX3_parseExpression 76 = .ok (.iconst 0, 1) := by decide +kernel
theorem dX3_parseExpression_77 : decode cX3_parseExpression 77 = .ok (.invokevirtual 71, 3) := by decide +kernel
theorem dX3_parseExpression_80 : decode cX3_parseExpression 80 = .ok (.iinc 3 1, 3) := by decide +kernel
theorem dX3_parseExpression_83 : decode cX3_parseExpression 83 = .ok (.goto (-74), 3) := by decide +kernel
theorem dX3_parseExpression_86 : decode cX3_parseExpression 86 = .ok (.iload_n 2, 1) := by decide +kernel
theorem dX3_parseExpression_87 : decode cX3_parseExpression 87 = .ok (.ireturn, 1) := by decide +kernel
theorem dX3_parseTerm_0 : decode cX3_parseTerm 0 = .ok (.aload_n 0, 1) := by decide +kernel
theorem dX3_parseTerm_1 : decode cX3_parseTerm 1 = .ok (.getfield 40, 3) := by decide +kernel
theorem dX3_parseTerm_4 : decode cX3_parseTerm 4 = .ok (.istore_n 3, 1) := by decide +kernel
theorem dX3_parseTerm_5 : decode cX3_parseTerm 5 = .ok (.aload_n 0, 1) := by decide +kernel
theorem dX3_parseTerm_6 : decode cX3_parseTerm 6 = .ok (.iload_n 1, 1) := by decide +kernel
theorem dX3_parseTerm_7 : decode cX3_parseTerm 7 = .ok (.invokevirtual 79, 3) := by decide +kernel
theorem dX3_parseTerm_10 : decode cX3_parseTerm 10 = .ok (.istore 4, 2) := by decide +kernel
theorem dX3_parseTerm_12 : decode cX3_parseTerm 12 = .ok (.iload 4, 2) := by decide +kernel
theorem dX3_parseTerm_14 : decode cX3_parseTerm 14 = .ok (.iconst 2, 1) := by decide +kernel
theorem dX3_parseTerm_15 : decode cX3_parseTerm 15 = .ok (.if_icmp .ne 33, 3) := by decide +kernel
theorem dX3_parseTerm_18 : decode cX3_parseTerm 18 = .ok (.iload_n 2, 1) := by decide +kernel
theorem dX3_parseTerm_19 : decode cX3_parseTerm 19 = .ok (.ifCond .ne 21, 3) := by decide +kernel
theorem dX3_parseTerm_22 : decode cX3_parseTerm 22 = .ok (.aload_n 0, 1) := by decide +kernel
theorem dX3_parseTerm_23 : decode cX3_parseTerm 23 = .ok (.invokevirtual 54, 3) := by decide +kernel
theorem dX3_parseTerm_26 : decode cX3_parseTerm 26 = .ok (.bipush 42, 2) := by decide +kernel
theorem dX3_parseTerm_28 : decode cX3_parseTerm 28 = .ok (.if_icmp .eq 12, 3) := by decide +kernel
theorem dX3_parseTerm_31 : decode cX3_parseTerm 31 = .ok (.aload_n 0, 1) := by decide +kernel
theorem dX3_parseTerm_32 : decode cX3_parseTerm 32 = .ok (.invokevirtual 54, 3) := by decide +kernel
theorem dX3_parseTerm_35 : decode cX3_parseTerm 35 = .ok (.bipush 47, 2) := by decide +kernel
theorem dX3_parseTerm_37 : decode cX3_parseTerm 37 = .ok (.if_icmp .ne 11, 3) := by decide +kernel
theorem dX3_parseTerm_40 : decode cX3_parseTerm 40 = .ok (.aload_n 0, 1) := by decide +kernel
theorem dX3_parseTerm_41 : decode cX3_parseTerm 41 = .ok (.iload_n 3, 1) := by decide +kernel
theorem dX3_parseTerm_42 : decode cX3_parseTerm 42 = .ok (.invokevirtual 82, 3) := by decide +kernel
theorem dX3_parseTerm_45 : decode cX3_parseTerm 45 = .ok (.iconst 0, 1) := by decide +kernel
theorem dX3_parseTerm_46 : decode cX3_parseTerm 46 = .ok (.istore 4, 2) := by decide +kernel
theorem dX3_parseTerm_48 : decode cX3_parseTerm 48 = .ok (.iconst 0, 1) := by decide +kernel
theorem dX3_parseTerm_49 : decode cX3_parseTerm 49 = .ok (.istore 5, 2) := by decide +kernel
theorem dX3_parseTerm_51 : decode cX3_parseTerm 51 = .ok (.iload 5, 2) := by decide +kernel
theorem dX3_parseTerm_53 : decode cX3_parseTerm 53 = .ok (.sipush 300, 3) := by decide +kernel
theorem dX3_parseTerm_56 : decode cX3_parseTerm 56 = .ok (.if_icmp .ge 74, 3) := by decide +kernel
theorem dX3_parseTerm_59 : decode cX3_parseTerm 59 = .ok (.iload 4, 2) := by decide +kernel
theorem dX3_parseTerm_61 : decode cX3_parseTerm 61 = .ok (.iconst (-1), 1) := by decide +kernel
theorem dX3_parseTerm_62 : decode cX3_parseTerm 62 = .ok (.if_icmp .eq 68, 3) := by decide +kernel
theorem dX3_parseTerm_65 : decode cX3_parseTerm 65 = .ok (.aload_n 0, 1) := by decide +kernel
theorem dX3_parseTerm_66 : decode cX3_parseTerm 66 = .ok (.invokevirtual 54, 3) := by decide +kernel
theorem dX3_parseTerm_69 : decode cX3_parseTerm 69 = .ok (.istore 6, 2) := by decide +kernel
theorem dX3_parseTerm_71 : decode cX3_parseTerm 71 = .ok (.iload 6, 2) := by decide +kernel
theorem dX3_parseTerm_73 : decode cX3_parseTerm 73 = .ok (.bipush 42, 2) := by decide +kernel
theorem dX3_parseTerm_75 : decode cX3_parseTerm 75 = .ok (.if_icmp .eq 13, 3) := by decide +kernel
theorem dX3_parseTerm_78 : decode cX3_parseTerm 78 = .ok (.iload 6, 2) := by decide +kernel
theorem dX3_parseTerm_80 : decode cX3_parseTerm 80 = .ok (.bipush 47, 2) := by decide +kernel
theorem dX3_parseTerm_82 : decode cX3_parseTerm 82 = .ok (.if_icmp .eq 6, 3) := by decide +kernel
theorem dX3_parseTerm_85 : decode cX3_parseTerm 85 = .ok (.goto 45, 3) := by decide +kernel
theorem dX3_parseTerm_88 : decode cX3_parseTerm 88 = .ok (.aload_n 0, 1) := by decide +kernel
theorem dX3_parseTerm_89 : decode cX3_parseTerm 89 = .ok (.dup, 1) := by decide +kernel
theorem dX3_parseTerm_90 : decode cX3_parseTerm 90 = .ok (.getfield 40, 3) := by decide +kernel
theorem dX3_parseTerm_93 : decode cX3_parseTerm 93 = .ok (.iconst 1, 1) := by decide +kernel
theorem dX3_parseTerm_94 : decode cX3_parseTerm 94 = .ok (.iadd, 1) := by decide +kernel
theorem dX3_parseTerm_95 : decode cX3_parseTerm 95 = .ok (.putfield 40, 3) := by decide +kernel
theorem dX3_parseTerm_98 : decode cX3_parseTerm 98 = .ok (.aload_n 0, 1) := by decide +kernel
theorem dX3_parseTerm_99 : decode cX3_parseTerm 99 = .ok (.iload_n 1, 1) := by decide +kernel
theorem dX3_parseTerm_100 : decode cX3_parseTerm 100 = .ok (.invokevirtual 85, 3) := by decide +kernel
theorem dX3_parseTerm_103 : decode cX3_parseTerm 103 = .ok (.iconst (-1), 1) := by decide +kernel
theorem dX3_parseTerm_104 : decode cX3_parseTerm 104 = .ok (.if_icmp .ne 7, 3) := by decide +kernel
theorem dX3_parseTerm_107 : decode cX3_parseTerm 107 = .ok (.iconst (-1), 1) := by decide +kernel
theorem dX3_parseTerm_108 : decode cX3_parseTerm 108 = .ok (.goto 4, 3) := by decide +kernel
theorem dX3_parseTerm_111 : decode cX3_parseTerm 111 = .ok (.iconst 1, 1) := by decide +kernel
theorem dX3_parseTerm_112 : decode cX3_parseTerm 112 = .ok (.istore 4, 2) := by decide +kernel
theorem dX3_parseTerm_114 : decode cX3_parseTerm 114 = .ok (.aload_n 0, 1) := by decide +kernel
theorem dX3_parseTerm_115 : decode cX3_parseTerm 115 = .ok (.getfield 20, 3) := by decide +kernel
theorem dX3_parseTerm_118 : decode cX3_parseTerm 118 = .ok (.iload 6, 2) := by decide +kernel
theorem dX3_parseTerm_120 : decode cX3_parseTerm 120 = .ok (.iconst 0, 1) := by decide +kernel
theorem dX3_parseTerm_121 : decode cX3_parseTerm 121 = .ok (.invokevirtual 71, 3) := by decide +kernel
theorem dX3_parseTerm_124 : decode cX3_parseTerm 124 = .ok (.iinc 5 1, 3) := by decide +kernel
theorem dX3_parseTerm_127 : decode cX3_parseTerm 127 = .ok (.goto (-76), 3) := by decide +kernel
theorem dX3_parseTerm_130 : decode cX3_parseTerm 130 = .ok (.iload 4, 2) := by decide +kernel
theorem dX3_parseTerm_132 : decode cX3_parseTerm 132 = .ok (.ireturn, 1) := by decide +kernel
theorem dX3_parseLaterFactor_0 : decode cX3_parseLaterFactor 0 = .ok (.aload_n 0, 1) := by decide +kernel
theorem dX3_parseLaterFactor_1 : decode cX3_parseLaterFactor 1 = .ok (.getfield 40, 3) := by decide +kernel
theorem dX3_parseLaterFactor_4 : decode cX3_parseLaterFactor 4 = .ok (.istore_n 2, 1) := by decide +kernel
theorem dX3_parseLaterFactor_5 : decode cX3_parseLaterFactor 5 = .ok (.aload_n 0, 1) := by decide +kernel
theorem dX3_parseLaterFactor_6 : decode cX3_parseLaterFactor 6 = .ok (.iload_n 1, 1) := by decide +kernel
theorem dX3_parseLaterFactor_7 : decode cX3_parseLaterFactor 7 = .ok (.invokevirtual 79, 3) := by decide +kernel
theorem dX3_parseLaterFactor_10 : decode cX3_parseLaterFactor 10 = .ok (.istore_n 3, 1) := by decide +kernel
theorem dX3_parseLaterFactor_11 : decode cX3_parseLaterFactor 11 = .ok (.iload_n 3, 1) := by decide +kernel
theorem dX3_parseLaterFactor_12 : decode cX3_parseLaterFactor 12 = .ok (.iconst 2, 1) := by decide +kernel
theorem dX3_parseLaterFactor_13 : decode cX3_parseLaterFactor 13 = .ok (.if_icmp .eq 8, 3) := by decide +kernel
theorem dX3_parseLaterFactor_16 : decode cX3_parseLaterFactor 16 = .ok (.iload_n 3, 1) := by decide +kernel
theorem dX3_parseLaterFactor_17 : decode cX3_parseLaterFactor 17 = .ok (.iconst 1, 1) := by decide +kernel
theorem dX3_parseLaterFactor_18 : decode cX3_parseLaterFactor 18 = .ok (.if_icmp .ne 8, 3) := by decide +kernel
theorem dX3_parseLaterFactor_21 : decode cX3_parseLaterFactor 21 = .ok (.aload_n 0, 1) := by decide +kernel
theorem dX3_parseLaterFactor_22 : decode cX3_parseLaterFactor 22 = .ok (.iload_n 2, 1) := by decide +kernel
theorem dX3_parseLaterFactor_23 : decode cX3_parseLaterFactor 23 = .ok (.invokevirtual 82, 3) := by decide +kernel
theorem dX3_parseLaterFactor_26 : decode cX3_parseLaterFactor 26 = .ok (.iload_n 3, 1) := by decide +kernel
theorem dX3_parseLaterFactor_27 : decode cX3_parseLaterFactor 27 = .ok (.ireturn, 1) := by decide +kernel
theorem dX3_parseFactor_0 : decode cX3_parseFactor 0 = .ok (.aload_n 0, 1) := by decide +kernel
theorem dX3_parseFactor_1 : decode cX3_parseFactor 1 = .ok (.getfield 40, 3) := by decide +kernel
theorem dX3_parseFactor_4 : decode cX3_parseFactor 4 = .ok (.istore_n 2, 1) := by decide +kernel
theorem dX3_parseFactor_5 : decode cX3_parseFactor 5 = .ok (.aload_n 0, 1) := by decide +kernel
theorem dX3_parseFactor_6 : decode cX3_parseFactor 6 = .ok (.invokevirtual 88, 3) := by decide +kernel
theorem dX3_parseFactor_9 : decode cX3_parseFactor 9 = .ok (.ifCond .ne 5, 3) := by decide +kernel
theorem dX3_parseFactor_12 : decode cX3_parseFactor 12 = .ok (.iconst (-1), 1) := by decide +kernel
theorem dX3_parseFactor_13 : decode cX3_parseFactor 13 = .ok (.ireturn, 1) := by decide +kernel
theorem dX3_parseFactor_14 : decode cX3_parseFactor 14 = .ok (.aload_n 0, 1) := by decide +kernel
theorem dX3_parseFactor_15 : decode cX3_parseFactor 15 = .ok (.getfield 40, 3) := by decide +kernel
theorem dX3_parseFactor_18 : decode cX3_parseFactor 18 = .ok (.istore_n 3, 1) := by decide +kernel
theorem dX3_parseFactor_19 : decode cX3_parseFactor 19 = .ok (.aload_n 0, 1) := by decide +kernel
theorem dX3_parseFactor_20 : decode cX3_parseFactor 20 = .ok (.iload_n 1, 1) := by decide +kernel
theorem dX3_parseFactor_21 : decode cX3_parseFactor 21 = .ok (.invokevirtual 91, 3) := by decide +kernel
theorem dX3_parseFactor_24 : decode cX3_parseFactor 24 = .ok (.istore 4, 2) := by decide +kernel
theorem dX3_parseFactor_26 : decode cX3_parseFactor 26 = .ok (.iload 4, 2) := by decide +kernel
theorem dX3_parseFactor_28 : decode cX3_parseFactor 28 = .ok (.iconst (-1), 1) := by decide +kernel
theorem dX3_parseFactor_29 : decode cX3_parseFactor 29 = .ok (.if_icmp .eq 8, 3) := by decide +kernel
theorem dX3_parseFactor_32 : decode cX3_parseFactor 32 = .ok (.iload_n 3, 1) := by decide +kernel
theorem dX3_parseFactor_33 : decode cX3_parseFactor 33 = .ok (.iload_n 2, 1) := by decide +kernel
theorem dX3_parseFactor_34 : decode cX3_parseFactor 34 = .ok (.if_icmp .ne 6, 3) := by decide +kernel
theorem dX3_parseFactor_37 : decode cX3_parseFactor 37 = .ok (.iload 4, 2) := by decide +kernel
theorem dX3_parseFactor_39 : decode cX3_parseFactor 39 = .ok (.ireturn, 1) := by decide +kernel
theorem dX3_parseFactor_40 : decode cX3_parseFactor 40 = .ok (.iload 4, 2) := by decide +kernel
theorem dX3_parseFactor_42 : decode cX3_parseFactor 42 = .ok (.ifCond .eq 8, 3) := by decide +kernel
theorem dX3_parseFactor_45 : decode cX3_parseFactor 45 = .ok (.aload_n 0, 1) := by decide +kernel
theorem dX3_parseFactor_46 : decode cX3_parseFactor 46 = .ok (.iload_n 3, 1) := by decide +kernel
theorem dX3_parseFactor_47 : decode cX3_parseFactor 47 = .ok (.invokevirtual 82, 3) := by decide +kernel
theorem dX3_parseFactor_50 : decode cX3_parseFactor 50 = .ok (.aload_n 0, 1) := by decide +kernel
theorem dX3_parseFactor_51 : decode cX3_parseFactor 51 = .ok (.iload_n 2, 1) := by decide +kernel
theorem dX3_parseFactor_52 : decode cX3_parseFactor 52 = .ok (.iload_n 3, 1) := by decide +kernel
theorem dX3_parseFactor_53 : decode cX3_parseFactor 53 = .ok (.invokevirtual 94, 3) := by decide +kernel
theorem dX3_parseFactor_56 : decode cX3_parseFactor 56 = .ok (.iconst 0, 1) := by decide +kernel
theorem dX3_parseFactor_57 : decode cX3_parseFactor 57 = .ok (.ireturn, 1) := by decide +kernel
theorem dX3_parseBare_0 : decode cX3_parseBare 0 = .ok (.aload_n 0, 1) := by decide +kernel
theorem dX3_parseBare_1 : decode cX3_parseBare 1 = .ok (.invokevirtual 54, 3) := by decide +kernel
theorem dX3_parseBare_4 : decode cX3_parseBare 4 = .ok (.istore_n 2, 1) := by decide +kernel
theorem dX3_parseBare_5 : decode cX3_parseBare 5 = .ok (.iload_n 2, 1) := by decide +kernel
theorem dX3_parseBare_6 : decode cX3_parseBare 6 = .ok (.bipush 40, 2) := by decide +kernel
theorem dX3_parseBare_8 : decode cX3_parseBare 8 = .ok (.if_icmp .ne 9, 3) := by decide +kernel
theorem dX3_parseBare_11 : decode cX3_parseBare 11 = .ok (.aload_n 0, 1) := by decide +kernel
theorem dX3_parseBare_12 : decode cX3_parseBare 12 = .ok (.iload_n 1, 1) := by decide +kernel
theorem dX3_parseBare_13 : decode cX3_parseBare 13 = .ok (.invokevirtual 97, 3) := by decide +kernel
theorem dX3_parseBare_16 : decode cX3_parseBare 16 = .ok (.ireturn, 1) := by decide +kernel
theorem dX3_parseBare_17 : decode cX3_parseBare 17 = .ok (.iload_n 2, 1) := by decide +kernel
theorem dX3_parseBare_18 : decode cX3_parseBare 18 = .ok (.bipush 48, 2) := by decide +kernel
theorem dX3_parseBare_20 : decode cX3_parseBare 20 = .ok (.if_icmp .lt 16, 3) := by decide +kernel
theorem dX3_parseBare_23 : decode cX3_parseBare 23 = .ok (.iload_n 2, 1) := by decide +kernel
theorem dX3_parseBare_24 : decode cX3_parseBare 24 = .ok (.bipush 57, 2) := by decide +kernel
theorem dX3_parseBare_26 : decode cX3_parseBare 26 = .ok (.if_icmp .gt 10, 3) := by decide +kernel
theorem dX3_parseBare_29 : decode cX3_parseBare 29 = .ok (.aload_n 0, 1) := by decide +kernel
theorem dX3_parseBare_30 : decode cX3_parseBare 30 = .ok (.invokevirtual 100, 3) := by decide +kernel
theorem dX3_parseBare_33 : decode cX3_parseBare 33 = .ok (.goto 8, 3) := by decide +kernel
theorem dX3_parseBare_36 : decode cX3_parseBare 36 = .ok (.aload_n 0, 1) := by decide +kernel
theorem dX3_parseBare_37 : decode cX3_parseBare 37 = .ok (.iload_n 2, 1) := by decide +kernel
theorem dX3_parseBare_38 : decode cX3_parseBare 38 = .ok (.invokevirtual 104, 3) := by decide +kernel
theorem dX3_parseBare_41 : decode cX3_parseBare 41 = .ok (.ireturn, 1) := by decide +kernel
theorem dX3_parseParentheses_0 : decode cX3_parseParentheses 0 = .ok (.iload_n 1, 1) := by decide +kernel
theorem dX3_parseParentheses_1 : decode cX3_parseParentheses 1 = .ok (.bipush 8, 2) := by decide +kernel
theorem dX3_parseParentheses_3 : decode cX3_parseParentheses 3 = .ok (.if_icmp .lt 5, 3) := by decide +kernel
theorem dX3_parseParentheses_6 : decode cX3_parseParentheses 6 = .ok (.iconst (-1), 1) := by decide +kernel
theorem dX3_parseParentheses_7 : decode cX3_parseParentheses 7 = .ok (.ireturn, 1) := by decide +kernel
theorem dX3_parseParentheses_8 : decode cX3_parseParentheses 8 = .ok (.aload_n 0, 1) := by decide +kernel
theorem dX3_parseParentheses_9 : decode cX3_parseParentheses 9 = .ok (.getfield 40, 3) := by decide +kernel
theorem dX3_parseParentheses_12 : decode cX3_parseParentheses 12 = .ok (.istore_n 2, 1) := by decide +kernel
theorem dX3_parseParentheses_13 : decode cX3_parseParentheses 13 = .ok (.aload_n 0, 1) := by decide +kernel
theorem dX3_parseParentheses_14 : decode cX3_parseParentheses 14 = .ok (.dup, 1) := by decide +kernel
theorem dX3_parseParentheses_15 : decode cX3_parseParentheses 15 = .ok (.getfield 40, 3) := by decide +kernel
theorem dX3_parseParentheses_18 : decode cX3_parseParentheses 18 = .ok (.iconst 1, 1) := by decide +kernel
theorem dX3_parseParentheses_19 : decode cX3_parseParentheses 19 = .ok (.iadd, 1) := by decide +kernel
theorem dX3_parseParentheses_20 : decode cX3_parseParentheses 20 = .ok (.putfield 40, 3) := by decide +kernel
theorem dX3_parseParentheses_23 : decode cX3_parseParentheses 23 = .ok (.aload_n 0, 1) := by decide +kernel
theorem dX3_parseParentheses_24 : decode cX3_parseParentheses 24 = .ok (.iload_n 1, 1) := by decide +kernel
theorem dX3_parseParentheses_25 : decode cX3_parseParentheses 25 = .ok (.iconst 1, 1) := by decide +kernel
theorem dX3_parseParentheses_26 : decode cX3_parseParentheses 26 = .ok (.iadd, 1) := by decide +kernel
theorem dX3_parseParentheses_27 : decode cX3_parseParentheses 27 = .ok (.invokevirtual 68, 3) := by decide +kernel
theorem dX3_parseParentheses_30 : decode cX3_parseParentheses 30 = .ok (.istore_n 3, 1) := by decide +kernel
theorem dX3_parseParentheses_31 : decode cX3_parseParentheses 31 = .ok (.iload_n 3, 1) := by decide +kernel
theorem dX3_parseParentheses_32 : decode cX3_parseParentheses 32 = .ok (.iconst (-1), 1) := by decide +kernel
theorem dX3_parseParentheses_33 : decode cX3_parseParentheses 33 = .ok (.if_icmp .eq 12, 3) := by decide +kernel
theorem dX3_parseParentheses_36 : decode cX3_parseParentheses 36 = .ok (.aload_n 0, 1) := by decide +kernel
theorem dX3_parseParentheses_37 : decode cX3_parseParentheses 37 = .ok (.invokevirtual 54, 3) := by decide +kernel
theorem dX3_parseParentheses_40 : decode cX3_parseParentheses 40 = .ok (.bipush 41, 2) := by decide +kernel
theorem dX3_parseParentheses_42 : decode cX3_parseParentheses 42 = .ok (.if_icmp .eq 5, 3) := by decide +kernel
theorem dX3_parseParentheses_45 : decode cX3_parseParentheses 45 = .ok (.iconst (-1), 1) := by decide +kernel
theorem dX3_parseParentheses_46 : decode cX3_parseParentheses 46 = .ok (.ireturn, 1) := by decide +kernel
theorem dX3_parseParentheses_47 : decode cX3_parseParentheses 47 = .ok (.aload_n 0, 1) := by decide +kernel
theorem dX3_parseParentheses_48 : decode cX3_parseParentheses 48 = .ok (.iload_n 2, 1) := by decide +kernel
theorem dX3_parseParentheses_49 : decode cX3_parseParentheses 49 = .ok (.iconst 1, 1) := by decide +kernel
theorem dX3_parseParentheses_50 : decode cX3_parseParentheses 50 = .ok (.invokevirtual 36, 3) := by decide +kernel
theorem dX3_parseParentheses_53 : decode cX3_parseParentheses 53 = .ok (.aload_n 0, 1) := by decide +kernel
theorem dX3_parseParentheses_54 : decode cX3_parseParentheses 54 = .ok (.aload_n 0, 1) := by decide +kernel
theorem dX3_parseParentheses_55 : decode cX3_parseParentheses 55 = .ok (.getfield 40, 3) := by decide +kernel
theorem dX3_parseParentheses_58 : decode cX3_parseParentheses 58 = .ok (.iconst 1, 1) := by decide +kernel
theorem dX3_parseParentheses_59 : decode cX3_parseParentheses 59 = .ok (.invokevirtual 36, 3) := by decide +kernel
theorem dX3_parseParentheses_62 : decode cX3_parseParentheses 62 = .ok (.aload_n 0, 1) := by decide +kernel
theorem dX3_parseParentheses_63 : decode cX3_parseParentheses 63 = .ok (.dup, 1) := by decide +kernel
theorem dX3_parseParentheses_64 : decode cX3_parseParentheses 64 = .ok (.getfield 40, 3) := by decide +kernel
theorem dX3_parseParentheses_67 : decode cX3_parseParentheses 67 = .ok (.iconst 1, 1) := by decide +kernel
theorem dX3_parseParentheses_68 : decode cX3_parseParentheses 68 = .ok (.iadd, 1) := by decide +kernel
theorem dX3_parseParentheses_69 : decode cX3_parseParentheses 69 = .ok (.putfield 40, 3) := by decide +kernel
theorem dX3_parseParentheses_72 : decode cX3_parseParentheses 72 = .ok (.iload_n 3, 1) := by decide +kernel
theorem dX3_parseParentheses_73 : decode cX3_parseParentheses 73 = .ok (.ireturn, 1) := by decide +kernel
theorem dX3_parseNumber_0 : decode cX3_parseNumber 0 = .ok (.aload_n 0, 1) := by decide +kernel
theorem dX3_parseNumber_1 : decode cX3_parseNumber 1 = .ok (.getfield 40, 3) := by decide +kernel
theorem dX3_parseNumber_4 : decode cX3_parseNumber 4 = .ok (.istore_n 1, 1) := by decide +kernel
theorem dX3_parseNumber_5 : decode cX3_parseNumber 5 = .ok (.aload_n 0, 1) := by decide +kernel
theorem dX3_parseNumber_6 : decode cX3_parseNumber 6 = .ok (.getfield 20, 3) := by decide +kernel
theorem dX3_parseNumber_9 : decode cX3_parseNumber 9 = .ok (.bipush 35, 2) := by decide +kernel
theorem dX3_parseNumber_11 : decode cX3_parseNumber 11 = .ok (.aload_n 0, 1) := by decide +kernel
theorem dX3_parseNumber_12 : decode cX3_parseNumber 12 = .ok (.invokevirtual 108, 3) := by decide +kernel
theorem dX3_parseNumber_15 : decode cX3_parseNumber 15 = .ok (.invokevirtual 71, 3) := by decide +kernel
theorem dX3_parseNumber_18 : decode cX3_parseNumber 18 = .ok (.iload_n 1, 1) := by decide +kernel
theorem dX3_parseNumber_19 : decode cX3_parseNumber 19 = .ok (.istore_n 2, 1) := by decide +kernel
theorem dX3_parseNumber_20 : decode cX3_parseNumber 20 = .ok (.iload_n 2, 1) := by decide +kernel
theorem dX3_parseNumber_21 : decode cX3_parseNumber 21 = .ok (.aload_n 0, 1) := by decide +kernel
theorem dX3_parseNumber_22 : decode cX3_parseNumber 22 = .ok (.getfield 40, 3) := by decide +kernel
theorem dX3_parseNumber_25 : decode cX3_parseNumber 25 = .ok (.iconst 1, 1) := by decide +kernel
theorem dX3_parseNumber_26 : decode cX3_parseNumber 26 = .ok (.isub, 1) := by decide +kernel
theorem dX3_parseNumber_27 : decode cX3_parseNumber 27 = .ok (.if_icmp .ge 38, 3) := by decide +kernel
theorem dX3_parseNumber_30 : decode cX3_parseNumber 30 = .ok (.iload_n 2, 1) := by decide +kernel
theorem dX3_parseNumber_31 : decode cX3_parseNumber 31 = .ok (.aload_n 0, 1) := by decide +kernel
theorem dX3_parseNumber_32 : decode cX3_parseNumber 32 = .ok (.getfield 28, 3) := by decide +kernel
theorem dX3_parseNumber_35 : decode cX3_parseNumber 35 = .ok (.arraylength, 1) := by decide +kernel
theorem dX3_parseNumber_36 : decode cX3_parseNumber 36 = .ok (.invokestatic 32, 3) := by decide +kernel
theorem dX3_parseNumber_39 : decode cX3_parseNumber 39 = .ok (.ifCond .eq 26, 3) := by decide +kernel
theorem dX3_parseNumber_42 : decode cX3_parseNumber 42 = .ok (.aload_n 0, 1) := by decide +kernel
theorem dX3_parseNumber_43 : decode cX3_parseNumber 43 = .ok (.getfield 28, 3) := by decide +kernel
theorem dX3_parseNumber_46 : decode cX3_parseNumber 46 = .ok (.iload_n 2, 1) := by decide +kernel
theorem dX3_parseNumber_47 : decode cX3_parseNumber 47 = .ok (.caload, 1) := by decide +kernel
theorem dX3_parseNumber_48 : decode cX3_parseNumber 48 = .ok (.bipush 48, 2) := by decide +kernel
theorem dX3_parseNumber_50 : decode cX3_parseNumber 50 = .ok (.if_icmp .ne 15, 3) := by decide +kernel
theorem dX3_parseNumber_53 : decode cX3_parseNumber 53 = .ok (.aload_n 0, 1) := by decide +kernel
theorem dX3_parseNumber_54 : decode cX3_parseNumber 54 = .ok (.iload_n 2, 1) := by decide +kernel
theorem dX3_parseNumber_55 : decode cX3_parseNumber 55 = .ok (.iconst 1, 1) := by decide +kernel
theorem dX3_parseNumber_56 : decode cX3_parseNumber 56 = .ok (.invokevirtual 36, 3) := by decide +kernel
theorem dX3_parseNumber_59 : decode cX3_parseNumber 59 = .ok (.iinc 2 1, 3) := by decide +kernel
theorem dX3_parseNumber_62 : decode cX3_parseNumber 62 = .ok (.goto (-42), 3) := by decide +kernel
theorem dX3_parseNumber_65 : decode cX3_parseNumber 65 = .ok (.iconst 0, 1) := by decide +kernel
theorem dX3_parseNumber_66 : decode cX3_parseNumber 66 = .ok (.ireturn, 1) := by decide +kernel
theorem dX3_parseLetter_0 : decode cX3_parseLetter 0 = .ok (.iload_n 1, 1) := by decide +kernel
theorem dX3_parseLetter_1 : decode cX3_parseLetter 1 = .ok (.bipush 108, 2) := by decide +kernel
theorem dX3_parseLetter_3 : decode cX3_parseLetter 3 = .ok (.if_icmp .eq 15, 3) := by decide +kernel
theorem dX3_parseLetter_6 : decode cX3_parseLetter 6 = .ok (.iload_n 1, 1) := by decide +kernel
theorem dX3_parseLetter_7 : decode cX3_parseLetter 7 = .ok (.bipush 119, 2) := by decide +kernel
theorem dX3_parseLetter_9 : decode cX3_parseLetter 9 = .ok (.if_icmp .eq 9, 3) := by decide +kernel
theorem dX3_parseLetter_12 : decode cX3_parseLetter 12 = .ok (.iload_n 1, 1) := by decide +kernel
theorem dX3_parseLetter_13 : decode cX3_parseLetter 13 = .ok (.bipush 116, 2) := by decide +kernel
theorem dX3_parseLetter_15 : decode cX3_parseLetter 15 = .ok (.if_icmp .ne 7, 3) := by decide +kernel
theorem dX3_parseLetter_18 : decode cX3_parseLetter 18 = .ok (.iconst 1, 1) := by decide +kernel
theorem dX3_parseLetter_19 : decode cX3_parseLetter 19 = .ok (.goto 4, 3) := by decide +kernel
theorem dX3_parseLetter_22 : decode cX3_parseLetter 22 = .ok (.iconst 0, 1) := by decide +kernel
theorem dX3_parseLetter_23 : decode cX3_parseLetter 23 = .ok (.istore_n 2, 1) := by decide +kernel
theorem dX3_parseLetter_24 : decode cX3_parseLetter 24 = .ok (.iload_n 1, 1) := by decide +kernel
theorem dX3_parseLetter_25 : decode cX3_parseLetter 25 = .ok (.bipush 110, 2) := by decide +kernel
theorem dX3_parseLetter_27 : decode cX3_parseLetter 27 = .ok (.if_icmp .eq 21, 3) := by decide +kernel
theorem dX3_parseLetter_30 : decode cX3_parseLetter 30 = .ok (.iload_n 1, 1) := by decide +kernel
theorem dX3_parseLetter_31 : decode cX3_parseLetter 31 = .ok (.bipush 97, 2) := by decide +kernel
theorem dX3_parseLetter_33 : decode cX3_parseLetter 33 = .ok (.if_icmp .eq 15, 3) := by decide +kernel
theorem dX3_parseLetter_36 : decode cX3_parseLetter 36 = .ok (.iload_n 1, 1) := by decide +kernel
theorem dX3_parseLetter_37 : decode cX3_parseLetter 37 = .ok (.bipush 115, 2) := by decide +kernel
theorem dX3_parseLetter_39 : decode cX3_parseLetter 39 = .ok (.if_icmp .eq 9, 3) := by decide +kernel
theorem dX3_parseLetter_42 : decode cX3_parseLetter 42 = .ok (.iload_n 1, 1) := by decide +kernel
theorem dX3_parseLetter_43 : decode cX3_parseLetter 43 = .ok (.bipush 101, 2) := by decide +kernel
theorem dX3_parseLetter_45 : decode cX3_parseLetter 45 = .ok (.if_icmp .ne 7, 3) := by decide +kernel
theorem dX3_parseLetter_48 : decode cX3_parseLetter 48 = .ok (.iconst 1, 1) := by decide +kernel
theorem dX3_parseLetter_49 : decode cX3_parseLetter 49 = .ok (.goto 4, 3) := by decide +kernel
theorem dX3_parseLetter_52 : decode cX3_parseLetter 52 = .ok (.iconst 0, 1) := by decide +kernel
theorem dX3_parseLetter_53 : decode cX3_parseLetter 53 = .ok (.istore_n 3, 1) := by decide +kernel
theorem dX3_parseLetter_54 : decode cX3_parseLetter 54 = .ok (.iload_n 2, 1) := by decide +kernel
theorem dX3_parseLetter_55 : decode cX3_parseLetter 55 = .ok (.ifCond .ne 9, 3) := by decide +kernel
theorem dX3_parseLetter_58 : decode cX3_parseLetter 58 = .ok (.iload_n 3, 1) := by decide +kernel
theorem dX3_parseLetter_59 : decode cX3_parseLetter 59 = .ok (.ifCond .ne 5, 3) := by decide +kernel
theorem dX3_parseLetter_62 : decode cX3_parseLetter 62 = .ok (.iconst (-1), 1) := by decide +kernel
theorem dX3_parseLetter_63 : decode cX3_parseLetter 63 = .ok (.ireturn, 1) := by decide +kernel
theorem dX3_parseLetter_64 : decode cX3_parseLetter 64 = .ok (.aload_n 0, 1) := by decide +kernel
theorem dX3_parseLetter_65 : decode cX3_parseLetter 65 = .ok (.dup, 1) := by decide +kernel
theorem dX3_parseLetter_66 : decode cX3_parseLetter 66 = .ok (.getfield 40, 3) := by decide +kernel
theorem dX3_parseLetter_69 : decode cX3_parseLetter 69 = .ok (.iconst 1, 1) := by decide +kernel
theorem dX3_parseLetter_70 : decode cX3_parseLetter 70 = .ok (.iadd, 1) := by decide +kernel
theorem dX3_parseLetter_71 : decode cX3_parseLetter 71 = .ok (.putfield 40, 3) := by decide +kernel
theorem dX3_parseLetter_74 : decode cX3_parseLetter 74 = .ok (.iload_n 3, 1) := by decide +kernel
theorem dX3_parseLetter_75 : decode cX3_parseLetter 75 = .ok (.ifCond .eq 12, 3) := by decide +kernel
theorem dX3_parseLetter_78 : decode cX3_parseLetter 78 = .ok (.aload_n 0, 1) := by decide +kernel
theorem dX3_parseLetter_79 : decode cX3_parseLetter 79 = .ok (.bipush 8, 2) := by decide +kernel
theorem dX3_parseLetter_81 : decode cX3_parseLetter 81 = .ok (.invokevirtual 58, 3) := by decide +kernel
theorem dX3_parseLetter_84 : decode cX3_parseLetter 84 = .ok (.goto 4, 3) := by decide +kernel
theorem dX3_parseLetter_87 : decode cX3_parseLetter 87 = .ok (.iconst 0, 1) := by decide +kernel
theorem dX3_parseLetter_88 : decode cX3_parseLetter 88 = .ok (.istore 4, 2) := by decide +kernel
theorem dX3_parseLetter_90 : decode cX3_parseLetter 90 = .ok (.aload_n 0, 1) := by decide +kernel
theorem dX3_parseLetter_91 : decode cX3_parseLetter 91 = .ok (.getfield 20, 3) := by decide +kernel
theorem dX3_parseLetter_94 : decode cX3_parseLetter 94 = .ok (.iload_n 1, 1) := by decide +kernel
theorem dX3_parseLetter_95 : decode cX3_parseLetter 95 = .ok (.iload 4, 2) := by decide +kernel
theorem dX3_parseLetter_97 : decode cX3_parseLetter 97 = .ok (.invokevirtual 71, 3) := by decide +kernel
theorem dX3_parseLetter_100 : decode cX3_parseLetter 100 = .ok (.iload 4, 2) := by decide +kernel
theorem dX3_parseLetter_102 : decode cX3_parseLetter 102 = .ok (.iconst (-1), 1) := by decide +kernel
theorem dX3_parseLetter_103 : decode cX3_parseLetter 103 = .ok (.if_icmp .ne 7, 3) := by decide +kernel
theorem dX3_parseLetter_106 : decode cX3_parseLetter 106 = .ok (.iconst (-1), 1) := by decide +kernel
theorem dX3_parseLetter_107 : decode cX3_parseLetter 107 = .ok (.goto 4, 3) := by decide +kernel
theorem dX3_parseLetter_110 : decode cX3_parseLetter 110 = .ok (.iconst 0, 1) := by decide +kernel
theorem dX3_parseLetter_111 : decode cX3_parseLetter 111 = .ok (.ireturn, 1) := by decide +kernel
theorem dX3_addPrefixSteps_0 : decode cX3_addPrefixSteps 0 = .ok (.iload_n 2, 1) := by decide +kernel
theorem dX3_addPrefixSteps_1 : decode cX3_addPrefixSteps 1 = .ok (.iconst 1, 1) := by decide +kernel
theorem dX3_addPrefixSteps_2 : decode cX3_addPrefixSteps 2 = .ok (.isub, 1) := by decide +kernel
theorem dX3_addPrefixSteps_3 : decode cX3_addPrefixSteps 3 = .ok (.istore_n 3, 1) := by decide +kernel
theorem dX3_addPrefixSteps_4 : decode cX3_addPrefixSteps 4 = .ok (.iload_n 3, 1) := by decide +kernel
theorem dX3_addPrefixSteps_5 : decode cX3_addPrefixSteps 5 = .ok (.iload_n 1, 1) := by decide +kernel
theorem dX3_addPrefixSteps_6 : decode cX3_addPrefixSteps 6 = .ok (.if_icmp .lt 86, 3) := by decide +kernel
theorem dX3_addPrefixSteps_9 : decode cX3_addPrefixSteps 9 = .ok (.iload_n 3, 1) := by decide +kernel
theorem dX3_addPrefixSteps_10 : decode cX3_addPrefixSteps 10 = .ok (.aload_n 0, 1) := by decide +kernel
theorem dX3_addPrefixSteps_11 : decode cX3_addPrefixSteps 11 = .ok (.getfield 28, 3) := by decide +kernel
theorem dX3_addPrefixSteps_14 : decode cX3_addPrefixSteps 14 = .ok (.arraylength, 1) := by decide +kernel
theorem dX3_addPrefixSteps_15 : decode cX3_addPrefixSteps 15 = .ok (.invokestatic 32, 3) := by decide +kernel
theorem dX3_addPrefixSteps_18 : decode cX3_addPrefixSteps 18 = .ok (.ifCond .eq 74, 3) := by decide +kernel
theorem dX3_addPrefixSteps_21 : decode cX3_addPrefixSteps 21 = .ok (.aload_n 0, 1) := by decide +kernel
theorem dX3_addPrefixSteps_22 : decode cX3_addPrefixSteps 22 = .ok (.getfield 28, 3) := by decide +kernel
theorem dX3_addPrefixSteps_25 : decode cX3_addPrefixSteps 25 = .ok (.iload_n 3, 1) := by decide +kernel
theorem dX3_addPrefixSteps_26 : decode cX3_addPrefixSteps 26 = .ok (.caload, 1) := by decide +kernel
theorem dX3_addPrefixSteps_27 : decode cX3_addPrefixSteps 27 = .ok (.istore 4, 2) := by decide +kernel
theorem dX3_addPrefixSteps_29 : decode cX3_addPrefixSteps 29 = .ok (.iload 4, 2) := by decide +kernel
theorem dX3_addPrefixSteps_31 : decode cX3_addPrefixSteps 31 = .ok (.bipush 45, 2) := by decide +kernel
theorem dX3_addPrefixSteps_33 : decode cX3_addPrefixSteps 33 = .ok (.if_icmp .ne 16, 3) := by decide +kernel
theorem dX3_addPrefixSteps_36 : decode cX3_addPrefixSteps 36 = .ok (.aload_n 0, 1) := by decide +kernel
theorem dX3_addPrefixSteps_37 : decode cX3_addPrefixSteps 37 = .ok (.getfield 20, 3) := by decide +kernel
theorem dX3_addPrefixSteps_40 : decode cX3_addPrefixSteps 40 = .ok (.bipush 126, 2) := by decide +kernel
theorem dX3_addPrefixSteps_42 : decode cX3_addPrefixSteps 42 = .ok (.iconst 0, 1) := by decide +kernel
theorem dX3_addPrefixSteps_43 : decode cX3_addPrefixSteps 43 = .ok (.invokevirtual 71, 3) := by decide +kernel
theorem dX3_addPrefixSteps_46 : decode cX3_addPrefixSteps 46 = .ok (.goto 40, 3) := by decide +kernel
theorem dX3_addPrefixSteps_49 : decode cX3_addPrefixSteps 49 = .ok (.iload 4, 2) := by decide +kernel
theorem dX3_addPrefixSteps_51 : decode cX3_addPrefixSteps 51 = .ok (.bipush 102, 2) := by decide +kernel
theorem dX3_addPrefixSteps_53 : decode cX3_addPrefixSteps 53 = .ok (.if_icmp .ne 16, 3) := by decide +kernel
theorem dX3_addPrefixSteps_56 : decode cX3_addPrefixSteps 56 = .ok (.aload_n 0, 1) := by decide +kernel
theorem dX3_addPrefixSteps_57 : decode cX3_addPrefixSteps 57 = .ok (.getfield 20, 3) := by decide +kernel
theorem dX3_addPrefixSteps_60 : decode cX3_addPrefixSteps 60 = .ok (.bipush 102, 2) := by decide +kernel
theorem dX3_addPrefixSteps_62 : decode cX3_addPrefixSteps 62 = .ok (.iconst 0, 1) := by decide +kernel
theorem dX3_addPrefixSteps_63 : decode cX3_addPrefixSteps 63 = .ok (.invokevirtual 71, 3) := by decide +kernel
theorem dX3_addPrefixSteps_66 : decode cX3_addPrefixSteps 66 = .ok (.goto 20, 3) := by decide +kernel
theorem dX3_addPrefixSteps_69 : decode cX3_addPrefixSteps 69 = .ok (.aload_n 0, 1) := by decide +kernel
theorem dX3_addPrefixSteps_70 : decode cX3_addPrefixSteps 70 = .ok (.getfield 20, 3) := by decide +kernel
theorem dX3_addPrefixSteps_73 : decode cX3_addPrefixSteps 73 = .ok (.bipush 99, 2) := by decide +kernel
theorem dX3_addPrefixSteps_75 : decode cX3_addPrefixSteps 75 = .ok (.iload 4, 2) := by decide +kernel
theorem dX3_addPrefixSteps_77 : decode cX3_addPrefixSteps 77 = .ok (.bipush 48, 2) := by decide +kernel
theorem dX3_addPrefixSteps_79 : decode cX3_addPrefixSteps 79 = .ok (.isub, 1) := by decide +kernel
theorem dX3_addPrefixSteps_80 : decode cX3_addPrefixSteps 80 = .ok (.invokevirtual 71, 3) := by decide +kernel
theorem dX3_addPrefixSteps_83 : decode cX3_addPrefixSteps 83 = .ok (.iinc 3 (-1), 3) := by decide +kernel
theorem dX3_addPrefixSteps_86 : decode cX3_addPrefixSteps 86 = .ok (.iinc 3 (-1), 3) := by decide +kernel
theorem dX3_addPrefixSteps_89 : decode cX3_addPrefixSteps 89 = .ok (.goto (-85), 3) := by decide +kernel
theorem dX3_addPrefixSteps_92 : decode cX3_addPrefixSteps 92 = .ok (.return_, 1) := by decide +kernel
theorem dX3_keepParentheses_0 : decode cX3_keepParentheses 0 = .ok (.aload_n 0, 1) := by decide +kernel
theorem dX3_keepParentheses_1 : decode cX3_keepParentheses 1 = .ok (.iload_n 1, 1) := by decide +kernel
theorem dX3_keepParentheses_2 : decode cX3_keepParentheses 2 = .ok (.iconst 0, 1) := by decide +kernel
theorem dX3_keepParentheses_3 : decode cX3_keepParentheses 3 = .ok (.invokevirtual 36, 3) := by decide +kernel
theorem dX3_keepParentheses_6 : decode cX3_keepParentheses 6 = .ok (.aload_n 0, 1) := by decide +kernel
theorem dX3_keepParentheses_7 : decode cX3_keepParentheses 7 = .ok (.aload_n 0, 1) := by decide +kernel
theorem dX3_keepParentheses_8 : decode cX3_keepParentheses 8 = .ok (.getfield 40, 3) := by decide +kernel
theorem dX3_keepParentheses_11 : decode cX3_keepParentheses 11 = .ok (.iconst 1, 1) := by decide +kernel
theorem dX3_keepParentheses_12 : decode cX3_keepParentheses 12 = .ok (.isub, 1) := by decide +kernel
theorem dX3_keepParentheses_13 : decode cX3_keepParentheses 13 = .ok (.iconst 0, 1) := by decide +kernel
theorem dX3_keepParentheses_14 : decode cX3_keepParentheses 14 = .ok (.invokevirtual 36, 3) := by decide +kernel
theorem dX3_keepParentheses_17 : decode cX3_keepParentheses 17 = .ok (.return_, 1) := by decide +kernel
theorem dX3_setDropped_0 : decode cX3_setDropped 0 = .ok (.iload_n 1, 1) := by decide +kernel
theorem dX3_setDropped_1 : decode cX3_setDropped 1 = .ok (.sipush 300, 3) := by decide +kernel
theorem dX3_setDropped_4 : decode cX3_setDropped 4 = .ok (.invokestatic 32, 3) := by decide +kernel
theorem dX3_setDropped_7 : decode cX3_setDropped 7 = .ok (.ifCond .eq 10, 3) := by decide +kernel
theorem dX3_setDropped_10 : decode cX3_setDropped 10 = .ok (.aload_n 0, 1) := by decide +kernel
theorem dX3_setDropped_11 : decode cX3_setDropped 11 = .ok (.getfield 9, 3) := by decide +kernel
theorem dX3_setDropped_14 : decode cX3_setDropped 14 = .ok (.iload_n 1, 1) := by decide +kernel
theorem dX3_setDropped_15 : decode cX3_setDropped 15 = .ok (.iload_n 2, 1) := by decide +kernel
theorem dX3_setDropped_16 : decode cX3_setDropped 16 = .ok (.bastore, 1) := by decide +kernel
theorem dX3_setDropped_17 : decode cX3_setDropped 17 = .ok (.return_, 1) := by decide +kernel
theorem dX3_printedUnits_0 : decode cX3_printedUnits 0 = .ok (.aload_n 0, 1) := by decide +kernel
theorem dX3_printedUnits_1 : decode cX3_printedUnits 1 = .ok (.getfield 24, 3) := by decide +kernel
theorem dX3_printedUnits_4 : decode cX3_printedUnits 4 = .ok (.aload_n 0, 1) := by decide +kernel
theorem dX3_printedUnits_5 : decode cX3_printedUnits 5 = .ok (.getfield 28, 3) := by decide +kernel
theorem dX3_printedUnits_8 : decode cX3_printedUnits 8 = .ok (.arraylength, 1) := by decide +kernel
theorem dX3_printedUnits_9 : decode cX3_printedUnits 9 = .ok (.sipush 300, 3) := by decide +kernel
theorem dX3_printedUnits_12 : decode cX3_printedUnits 12 = .ok (.invokestatic 111, 3) := by decide +kernel
theorem dX3_printedUnits_15 : decode cX3_printedUnits 15 = .ok (.invokestatic 111, 3) := by decide +kernel
theorem dX3_printedUnits_18 : decode cX3_printedUnits 18 = .ok (.istore_n 1, 1) := by decide +kernel
theorem dX3_printedUnits_19 : decode cX3_printedUnits 19 = .ok (.iconst 0, 1) := by decide +kernel
theorem dX3_printedUnits_20 : decode cX3_printedUnits 20 = .ok (.istore_n 2, 1) := by decide +kernel
theorem dX3_printedUnits_21 : decode cX3_printedUnits 21 = .ok (.iconst 0, 1) := by decide +kernel
theorem dX3_printedUnits_22 : decode cX3_printedUnits 22 = .ok (.istore_n 3, 1) := by decide +kernel
theorem dX3_printedUnits_23 : decode cX3_printedUnits 23 = .ok (.iload_n 3, 1) := by decide +kernel
theorem dX3_printedUnits_24 : decode cX3_printedUnits 24 = .ok (.iload_n 1, 1) := by decide +kernel
theorem dX3_printedUnits_25 : decode cX3_printedUnits 25 = .ok (.if_icmp .ge 26, 3) := by decide +kernel
theorem dX3_printedUnits_28 : decode cX3_printedUnits 28 = .ok (.iload_n 2, 1) := by decide +kernel
theorem dX3_printedUnits_29 : decode cX3_printedUnits 29 = .ok (.aload_n 0, 1) := by decide +kernel
theorem dX3_printedUnits_30 : decode cX3_printedUnits 30 = .ok (.getfield 9, 3) := by decide +kernel
theorem dX3_printedUnits_33 : decode cX3_printedUnits 33 = .ok (.iload_n 3, 1) := by decide +kernel
theorem dX3_printedUnits_34 : decode cX3_printedUnits 34 = .ok (.baload, 1) := by decide +kernel
theorem dX3_printedUnits_35 : decode cX3_printedUnits 35 = .ok (.ifCond .eq 7, 3) := by decide +kernel
theorem dX3_printedUnits_38 : decode cX3_printedUnits 38 = .ok (.iconst 0, 1) := by decide +kernel
theorem dX3_printedUnits_39 : decode cX3_printedUnits 39 = .ok (.goto 4, 3) := by decide +kernel
theorem dX3_printedUnits_42 : decode cX3_printedUnits 42 = .ok (.iconst 1, 1) := by decide +kernel
theorem dX3_printedUnits_43 : decode cX3_printedUnits 43 = .ok (.iadd, 1) := by decide +kernel
theorem dX3_printedUnits_44 : decode cX3_printedUnits 44 = .ok (.istore_n 2, 1) := by decide +kernel
theorem dX3_printedUnits_45 : decode cX3_printedUnits 45 = .ok (.iinc 3 1, 3) := by decide +kernel
theorem dX3_printedUnits_48 : decode cX3_printedUnits 48 = .ok (.goto (-25), 3) := by decide +kernel
theorem dX3_printedUnits_51 : decode cX3_printedUnits 51 = .ok (.iload_n 2, 1) := by decide +kernel
theorem dX3_printedUnits_52 : decode cX3_printedUnits 52 = .ok (.newarray .char, 2) := by decide +kernel
theorem dX3_printedUnits_54 : decode cX3_printedUnits 54 = .ok (.astore_n 3, 1) := by decide +kernel
theorem dX3_printedUnits_55 : decode cX3_printedUnits 55 = .ok (.iconst 0, 1) := by decide +kernel
theorem dX3_printedUnits_56 : decode cX3_printedUnits 56 = .ok (.istore 4, 2) := by decide +kernel
theorem dX3_printedUnits_58 : decode cX3_printedUnits 58 = .ok (.iconst 0, 1) := by decide +kernel
theorem dX3_printedUnits_59 : decode cX3_printedUnits 59 = .ok (.istore 5, 2) := by decide +kernel
theorem dX3_printedUnits_61 : decode cX3_printedUnits 61 = .ok (.iload 5, 2) := by decide +kernel
theorem dX3_printedUnits_63 : decode cX3_printedUnits 63 = .ok (.iload_n 1, 1) := by decide +kernel
theorem dX3_printedUnits_64 : decode cX3_printedUnits 64 = .ok (.if_icmp .ge 39, 3) := by decide +kernel
theorem dX3_printedUnits_67 : decode cX3_printedUnits 67 = .ok (.aload_n 0, 1) := by decide +kernel
theorem dX3_printedUnits_68 : decode cX3_printedUnits 68 = .ok (.getfield 9, 3) := by decide +kernel
theorem dX3_printedUnits_71 : decode cX3_printedUnits 71 = .ok (.iload 5, 2) := by decide +kernel
theorem dX3_printedUnits_73 : decode cX3_printedUnits 73 = .ok (.baload, 1) := by decide +kernel
theorem dX3_printedUnits_74 : decode cX3_printedUnits 74 = .ok (.ifCond .ne 23, 3) := by decide +kernel
theorem dX3_printedUnits_77 : decode cX3_printedUnits 77 = .ok (.iload 4, 2) := by decide +kernel
theorem dX3_printedUnits_79 : decode cX3_printedUnits 79 = .ok (.iload_n 2, 1) := by decide +kernel
theorem dX3_printedUnits_80 : decode cX3_printedUnits 80 = .ok (.if_icmp .ge 17, 3) := by decide +kernel
theorem dX3_printedUnits_83 : decode cX3_printedUnits 83 = .ok (.aload_n 3, 1) := by decide +kernel
theorem dX3_printedUnits_84 : decode cX3_printedUnits 84 = .ok (.iload 4, 2) := by decide +kernel
theorem dX3_printedUnits_86 : decode cX3_printedUnits 86 = .ok (.aload_n 0, 1) := by decide +kernel
theorem dX3_printedUnits_87 : decode cX3_printedUnits 87 = .ok (.getfield 28, 3) := by decide +kernel
theorem dX3_printedUnits_90 : decode cX3_printedUnits 90 = .ok (.iload 5, 2) := by decide +kernel
theorem dX3_printedUnits_92 : decode cX3_printedUnits 92 = .ok (.caload, 1) := by decide +kernel
theorem dX3_printedUnits_93 : decode cX3_printedUnits 93 = .ok (.castore, 1) := by decide +kernel
theorem dX3_printedUnits_94 : decode cX3_printedUnits 94 = .ok (.iinc 4 1, 3) := by decide +kernel
theorem dX3_printedUnits_97 : decode cX3_printedUnits 97 = .ok (.iinc 5 1, 3) := by decide +kernel
theorem dX3_printedUnits_100 : decode cX3_printedUnits 100 = .ok (.goto (-39), 3) := by decide +kernel
theorem dX3_printedUnits_103 : decode cX3_printedUnits 103 = .ok (.aload_n 3, 1) := by decide +kernel
theorem dX3_printedUnits_104 : decode cX3_printedUnits 104 = .ok (.areturn, 1) := by decide +kernel
theorem dX4_init_0 : decode cX4_init 0 = .ok (.aload_n 0, 1) := by decide +kernel
theorem dX4_init_1 : decode cX4_init 1 = .ok (.invokespecial 3, 3) := by decide +kernel
theorem dX4_init_4 : decode cX4_init 4 = .ok (.aload_n 0, 1) := by decide +kernel
theorem dX4_init_5 : decode cX4_init 5 = .ok (.bipush 32, 2) := by decide +kernel
theorem dX4_init_7 : decode cX4_init 7 = .ok (.newarray .long, 2) := by decide +kernel
theorem dX4_init_9 : decode cX4_init 9 = .ok (.putfield 9, 3) := by decide +kernel
theorem dX4_init_12 : decode cX4_init 12 = .ok (.aload_n 0, 1) := by decide +kernel
theorem dX4_init_13 : decode cX4_init 13 = .ok (.aload_n 1, 1) := by decide +kernel
theorem dX4_init_14 : decode cX4_init 14 = .ok (.putfield 15, 3) := by decide +kernel
theorem dX4_init_17 : decode cX4_init 17 = .ok (.return_, 1) := by decide +kernel
theorem dX4_holds_0 : decode cX4_holds 0 = .ok (.aload_n 0, 1) := by decide +kernel
theorem dX4_holds_1 : decode cX4_holds 1 = .ok (.iconst 0, 1) := by decide +kernel
theorem dX4_holds_2 : decode cX4_holds 2 = .ok (.putfield 19, 3) := by decide +kernel
theorem dX4_holds_5 : decode cX4_holds 5 = .ok (.aload_n 0, 1) := by decide +kernel
theorem dX4_holds_6 : decode cX4_holds 6 = .ok (.iconst 0, 1) := by decide +kernel
theorem dX4_holds_7 : decode cX4_holds 7 = .ok (.putfield 23, 3) := by decide +kernel
theorem dX4_holds_10 : decode cX4_holds 10 = .ok (.aload_n 0, 1) := by decide +kernel
theorem dX4_holds_11 : decode cX4_holds 11 = .ok (.iconst 0, 1) := by decide +kernel
theorem dX4_holds_12 : decode cX4_holds 12 = .ok (.putfield 26, 3) := by decide +kernel
theorem dX4_holds_15 : decode cX4_holds 15 = .ok (.iload_n 2, 1) := by decide +kernel
theorem dX4_holds_16 : decode cX4_holds 16 = .ok (.bipush 12, 2) := by decide +kernel
theorem dX4_holds_18 : decode cX4_holds 18 = .ok (.invokestatic 29, 3) := by decide +kernel
theorem dX4_holds_21 : decode cX4_holds 21 = .ok (.ifCond .ne 5, 3) := by decide +kernel
theorem dX4_holds_24 : decode cX4_holds 24 = .ok (.iconst 0, 1) := by decide +kernel
theorem dX4_holds_25 : decode cX4_holds 25 = .ok (.ireturn, 1) := by decide +kernel
theorem dX4_holds_26 : decode cX4_holds 26 = .ok (.aload_n 1, 1) := by decide +kernel
theorem dX4_holds_27 : decode cX4_holds 27 = .ok (.getfield 33, 3) := by decide +kernel
theorem dX4_holds_30 : decode cX4_holds 30 = .ok (.iload_n 2, 1) := by decide +kernel
theorem dX4_holds_31 : decode cX4_holds 31 = .ok (.iconst 1, 1) := by decide +kernel
theorem dX4_holds_32 : decode cX4_holds 32 = .ok (.iadd, 1) := by decide +kernel
theorem dX4_holds_33 : decode cX4_holds 33 = .ok (.iaload, 1) := by decide +kernel
theorem dX4_holds_34 : decode cX4_holds 34 = .ok (.aload_n 1, 1) := by decide +kernel
theorem dX4_holds_35 : decode cX4_holds 35 = .ok (.getfield 39, 3) := by decide +kernel
theorem dX4_holds_38 : decode cX4_holds 38 = .ok (.invokestatic 42, 3) := by decide +kernel
theorem dX4_holds_41 : decode cX4_holds 41 = .ok (.istore 4, 2) := by decide +kernel
theorem dX4_holds_43 : decode cX4_holds 43 = .ok (.aload_n 1, 1) := by decide +kernel
theorem dX4_holds_44 : decode cX4_holds 44 = .ok (.getfield 33, 3) := by decide +kernel
theorem dX4_holds_47 : decode cX4_holds 47 = .ok (.iload_n 2, 1) := by decide +kernel
theorem dX4_holds_48 : decode cX4_holds 48 = .ok (.iaload, 1) := by decide +kernel
theorem dX4_holds_49 : decode cX4_holds 49 = .ok (.istore 5, 2) := by decide +kernel
theorem dX4_holds_51 : decode cX4_holds 51 = .ok (.iload 5, 2) := by decide +kernel
theorem dX4_holds_53 : decode cX4_holds 53 = .ok (.iload 4, 2) := by decide +kernel
theorem dX4_holds_55 : decode cX4_holds 55 = .ok (.if_icmp .ge 129, 3) := by decide +kernel
theorem dX4_holds_58 : decode cX4_holds 58 = .ok (.iload 5, 2) := by decide +kernel
theorem dX4_holds_60 : decode cX4_holds 60 = .ok (.aload_n 1, 1) := by decide +kernel
theorem dX4_holds_61 : decode cX4_holds 61 = .ok (.getfield 48, 3) := by decide +kernel
theorem dX4_holds_64 : decode cX4_holds 64 = .ok (.arraylength, 1) := by decide +kernel
theorem dX4_holds_65 : decode cX4_holds 65 = .ok (.invokestatic 29, 3) := by decide +kernel
theorem dX4_holds_68 : decode cX4_holds 68 = .ok (.ifCond .eq 13, 3) := by decide +kernel
theorem dX4_holds_71 : decode cX4_holds 71 = .ok (.iload 5, 2) := by decide +kernel
theorem dX4_holds_73 : decode cX4_holds 73 = .ok (.aload_n 1, 1) := by decide +kernel
theorem dX4_holds_74 : decode cX4_holds 74 = .ok (.getfield 51, 3) := by decide +kernel
theorem dX4_holds_77 : decode cX4_holds 77 = .ok (.arraylength, 1) := by decide +kernel
theorem dX4_holds_78 : decode cX4_holds 78 = .ok (.if_icmp .lt 5, 3) := by decide +kernel
theorem dX4_holds_81 : decode cX4_holds 81 = .ok (.iconst 0, 1) := by decide +kernel
theorem dX4_holds_82 : decode cX4_holds 82 = .ok (.ireturn, 1) := by decide +kernel
theorem dX4_holds_83 : decode cX4_holds 83 = .ok (.aload_n 1, 1) := by decide +kernel
theorem dX4_holds_84 : decode cX4_holds 84 = .ok (.getfield 48, 3) := by decide +kernel
theorem dX4_holds_87 : decode cX4_holds 87 = .ok (.iload 5, 2) := by decide +kernel
theorem dX4_holds_89 : decode cX4_holds 89 = .ok (.iaload, 1) := by decide +kernel
theorem dX4_holds_90 : decode cX4_holds 90 = .ok (.istore 6, 2) := by decide +kernel
theorem dX4_holds_92 : decode cX4_holds 92 = .ok (.iload 6, 2) := by decide +kernel
theorem dX4_holds_94 : decode cX4_holds 94 = .ok (.bipush 60, 2) := by decide +kernel
theorem dX4_holds_96 : decode cX4_holds 96 = .ok (.if_icmp .eq 24, 3) := by decide +kernel
theorem dX4_holds_99 : decode cX4_holds 99 = .ok (.iload 6, 2) := by decide +kernel
theorem dX4_holds_101 : decode cX4_holds 101 = .ok (.bipush 62, 2) := by decide +kernel
theorem dX4_holds_103 : decode cX4_holds 103 = .ok (.if_icmp .eq 17, 3) := by decide +kernel
theorem dX4_holds_106 : decode cX4_holds 106 = .ok (.iload 6, 2) := by decide +kernel
theorem dX4_holds_108 : decode cX4_holds 108 = .ok (.bipush 61, 2) := by decide +kernel
theorem dX4_holds_110 : decode cX4_holds 110 = .ok (.if_icmp .eq 10, 3) := by decide +kernel
theorem dX4_holds_113 : decode cX4_holds 113 = .ok (.iload 6, 2) := by decide +kernel
theorem dX4_holds_115 : decode cX4_holds 115 = .ok (.bipush 33, 2) := by decide +kernel
theorem dX4_holds_117 : decode cX4_holds 117 = .ok (.if_icmp .ne 38, 3) := by decide +kernel
theorem dX4_holds_120 : decode cX4_holds 120 = .ok (.aload_n 0, 1) := by decide +kernel
theorem dX4_holds_121 : decode cX4_holds 121 = .ok (.invokevirtual 54, 3) := by decide +kernel
theorem dX4_holds_124 : decode cX4_holds 124 = .ok (.lstore 7, 2) := by decide +kernel
theorem dX4_holds_126 : decode cX4_holds 126 = .ok (.iload 6, 2) := by decide +kernel
theorem dX4_holds_128 : decode cX4_holds 128 = .ok (.aload_n 0, 1) := by decide +kernel
theorem dX4_holds_129 : decode cX4_holds 129 = .ok (.invokevirtual 54, 3) := by decide +kernel
theorem dX4_holds_132 : decode cX4_holds 132 = .ok (.lload 7, 2) := by decide +kernel
theorem dX4_holds_134 : decode cX4_holds 134 = .ok (.invokestatic 58, 3) := by decide +kernel
theorem dX4_holds_137 : decode cX4_holds 137 = .ok (.ifCond .ne 5, 3) := by decide +kernel
theorem dX4_holds_140 : decode cX4_holds 140 = .ok (.iconst 0, 1) := by decide +kernel
theorem dX4_holds_141 : decode cX4_holds 141 = .ok (.ireturn, 1) := by decide +kernel
theorem dX4_holds_142 : decode cX4_holds 142 = .ok (.aload_n 0, 1) := by decide +kernel
theorem dX4_holds_143 : decode cX4_holds 143 = .ok (.dup, 1) := by decide +kernel
theorem dX4_holds_144 : decode cX4_holds 144 = .ok (.getfield 23, 3) := by decide +kernel
theorem dX4_holds_147 : decode cX4_holds 147 = .ok (.iconst 1, 1) := by decide +kernel
theorem dX4_holds_148 : decode cX4_holds 148 = .ok (.iadd, 1) := by decide +kernel
theorem dX4_holds_149 : decode cX4_holds 149 = .ok (.putfield 23, 3) := by decide +kernel
theorem dX4_holds_152 : decode cX4_holds 152 = .ok (.goto 17, 3) := by decide +kernel
theorem dX4_holds_155 : decode cX4_holds 155 = .ok (.aload_n 0, 1) := by decide +kernel
theorem dX4_holds_156 : decode cX4_holds 156 = .ok (.iload 6, 2) := by decide +kernel
theorem dX4_holds_158 : decode cX4_holds 158 = .ok (.aload_n 1, 1) := by decide +kernel
theorem dX4_holds_159 : decode cX4_holds 159 = .ok (.getfield 51, 3) := by decide +kernel
theorem dX4_holds_162 : decode cX4_holds 162 = .ok (.iload 5, 2) := by decide +kernel
theorem dX4_holds_164 : decode cX4_holds 164 = .ok (.iaload, 1) := by decide +kernel
theorem dX4_holds_165 : decode cX4_holds 165 = .ok (.iload_n 3, 1) := by decide +kernel
theorem dX4_holds_166 : decode cX4_holds 166 = .ok (.invokevirtual 62, 3) := by decide +kernel
theorem dX4_holds_169 : decode cX4_holds 169 = .ok (.aload_n 0, 1) := by decide +kernel
theorem dX4_holds_170 : decode cX4_holds 170 = .ok (.getfield 26, 3) := by decide +kernel
theorem dX4_holds_173 : decode cX4_holds 173 = .ok (.ifCond .eq 5, 3) := by decide +kernel
theorem dX4_holds_176 : decode cX4_holds 176 = .ok (.iconst 0, 1) := by decide +kernel
theorem dX4_holds_177 : decode cX4_holds 177 = .ok (.ireturn, 1) := by decide +kernel
theorem dX4_holds_178 : decode cX4_holds 178 = .ok (.iinc 5 1, 3) := by decide +kernel
theorem dX4_holds_181 : decode cX4_holds 181 = .ok (.goto (-130), 3) := by decide +kernel
theorem dX4_holds_184 : decode cX4_holds 184 = .ok (.iconst 1, 1) := by decide +kernel
theorem dX4_holds_185 : decode cX4_holds 185 = .ok (.ireturn, 1) := by decide +kernel
theorem dX4_compare_0 : decode cX4_compare 0 = .ok (.iload_n 0, 1) := by decide +kernel
theorem dX4_compare_1 : decode cX4_compare 1 = .ok (.tableswitch 63 60 62 #[27, 51, 39], 27) := by decide +kernel
theorem dX4_compare_28 : decode cX4_compare 28 = .ok (.lload_n 1, 1) := by decide +kernel
theorem dX4_compare_29 : decode cX4_compare 29 = .ok (.lload_n 3, 1) := by decide +kernel
theorem dX4_compare_30 : decode cX4_compare 30 = .ok (.lcmp, 1) := by decide +kernel
theorem dX4_compare_31 : decode cX4_compare 31 = .ok (.ifCond .ge 7, 3) := by decide +kernel
theorem dX4_compare_34 : decode cX4_compare 34 = .ok (.iconst 1, 1) := by decide +kernel
theorem dX4_compare_35 : decode cX4_compare 35 = .ok (.goto 4, 3) := by decide +kernel
theorem dX4_compare_38 : decode cX4_compare 38 = .ok (.iconst 0, 1) := by decide +kernel
theorem dX4_compare_39 : decode cX4_compare 39 = .ok (.ireturn, 1) := by decide +kernel
theorem dX4_compare_40 : decode cX4_compare 40 = .ok (.lload_n 1, 1) := by decide +kernel
theorem dX4_compare_41 : decode cX4_compare 41 = .ok (.lload_n 3, 1) := by decide +kernel
theorem dX4_compare_42 : decode cX4_compare 42 = .ok (.lcmp, 1) := by decide +kernel
theorem dX4_compare_43 : decode cX4_compare 43 = .ok (.ifCond .le 7, 3) := by decide +kernel
theorem dX4_compare_46 : decode cX4_compare 46 = .ok (.iconst 1, 1) := by decide +kernel
theorem dX4_compare_47 : decode cX4_compare 47 = .ok (.goto 4, 3) := by decide +kernel
theorem dX4_compare_50 : decode cX4_compare 50 = .ok (.iconst 0, 1) := by decide +kernel
theorem dX4_compare_51 : decode cX4_compare 51 = .ok (.ireturn, 1) := by decide +kernel
theorem dX4_compare_52 : decode cX4_compare 52 = .ok (.lload_n 1, 1) := by decide +kernel
theorem dX4_compare_53 : decode cX4_compare 53 = .ok (.lload_n 3, 1) := by decide +kernel
theorem dX4_compare_54 : decode cX4_compare 54 = .ok (.lcmp, 1) := by decide +kernel
theorem dX4_compare_55 : decode cX4_compare 55 = .ok (.ifCond .ne 7, 3) := by decide +kernel
theorem dX4_compare_58 : decode cX4_compare 58 = .ok (.iconst 1, 1) := by decide +kernel
theorem dX4_compare_59 : decode cX4_compare 59 = .ok (.goto 4, 3) := by decide +kernel
theorem dX4_compare_62 : decode cX4_compare 62 = .ok (.iconst 0, 1) := by decide +kernel
theorem dX4_compare_63 : decode cX4_compare 63 = .ok (.ireturn, 1) := by decide +kernel
theorem dX4_compare_64 : decode cX4_compare 64 = .ok (.lload_n 1, 1) := by decide +kernel
theorem dX4_compare_65 : decode cX4_compare 65 = .ok (.lload_n 3, 1) := by decide +kernel
theorem dX4_compare_66 : decode cX4_compare 66 = .ok (.lcmp, 1) := by decide +kernel
theorem dX4_compare_67 : decode cX4_compare 67 = .ok (.ifCond .eq 7, 3) := by decide +kernel
theorem dX4_compare_70 : decode cX4_compare 70 = .ok (.iconst 1, 1) := by decide +kernel
theorem dX4_compare_71 : decode cX4_compare 71 = .ok (.goto 4, 3) := by decide +kernel
theorem dX4_compare_74 : decode cX4_compare 74 = .ok (.iconst 0, 1) := by decide +kernel
theorem dX4_compare_75 : decode cX4_compare 75 = .ok (.ireturn, 1) := by decide +kernel
theorem dX4_reckonStep_0 : decode cX4_reckonStep 0 = .ok (.iload_n 1, 1) := by decide +kernel
theorem dX4_reckonStep_1 : decode cX4_reckonStep 1 = .ok (.lookupswitch 157 #[(35, 75), (42, 133), (43, 133), (45, 133), (47, 133), (99, 96), (102, 117), (126, 84)], 75) := by decide +kernel
theorem dX4_reckonStep_76 : decode cX4_reckonStep 76 = .ok (.aload_n 0, 1) := by decide +kernel
theorem dX4_reckonStep_77 : decode cX4_reckonStep 77 = .ok (.iload_n 2, 1) := by decide +kernel
theorem dX4_reckonStep_78 : decode cX4_reckonStep 78 = .ok (.i2l, 1) := by decide +kernel
theorem dX4_reckonStep_79 : decode cX4_reckonStep 79 = .ok (.invokevirtual 66, 3) := by decide +kernel
theorem dX4_reckonStep_82 : decode cX4_reckonStep 82 = .ok (.goto 90, 3) := by decide +kernel
theorem dX4_reckonStep_85 : decode cX4_reckonStep 85 = .ok (.aload_n 0, 1) := by decide +kernel
theorem dX4_reckonStep_86 : decode cX4_reckonStep 86 = .ok (.aload_n 0, 1) := by decide +kernel
theorem dX4_reckonStep_87 : decode cX4_reckonStep 87 = .ok (.invokevirtual 54, 3) := by decide +kernel
theorem dX4_reckonStep_90 : decode cX4_reckonStep 90 = .ok (.lneg, 1) := by decide +kernel
theorem dX4_reckonStep_91 : decode cX4_reckonStep 91 = .ok (.invokevirtual 66, 3) := by decide +kernel
theorem dX4_reckonStep_94 : decode cX4_reckonStep 94 = .ok (.goto 78, 3) := by decide +kernel
theorem dX4_reckonStep_97 : decode cX4_reckonStep 97 = .ok (.aload_n 0, 1) := by decide +kernel
theorem dX4_reckonStep_98 : decode cX4_reckonStep 98 = .ok (.aload_n 0, 1) := by decide +kernel
theorem dX4_reckonStep_99 : decode cX4_reckonStep 99 = .ok (.getfield 15, 3) := by decide +kernel
theorem dX4_reckonStep_102 : decode cX4_reckonStep 102 = .ok (.iload_n 2, 1) := by decide +kernel
theorem dX4_reckonStep_103 : decode cX4_reckonStep 103 = .ok (.aload_n 0, 1) := by decide +kernel
theorem dX4_reckonStep_104 : decode cX4_reckonStep 104 = .ok (.invokevirtual 54, 3) := by decide +kernel
theorem dX4_reckonStep_107 : decode cX4_reckonStep 107 = .ok (.iconst 0, 1) := by decide +kernel
theorem dX4_reckonStep_108 : decode cX4_reckonStep 108 = .ok (.iload_n 3, 1) := by decide +kernel
theorem dX4_reckonStep_109 : decode cX4_reckonStep 109 = .ok (.invokevirtual 70, 3) := by decide +kernel
theorem dX4_reckonStep_112 : decode cX4_reckonStep 112 = .ok (.invokevirtual 66, 3) := by decide +kernel
theorem dX4_reckonStep_115 : decode cX4_reckonStep 115 = .ok (.goto 57, 3) := by decide +kernel
theorem dX4_reckonStep_118 : decode cX4_reckonStep 118 = .ok (.aload_n 0, 1) := by decide +kernel
theorem dX4_reckonStep_119 : decode cX4_reckonStep 119 = .ok (.aload_n 0, 1) := by decide +kernel
theorem dX4_reckonStep_120 : decode cX4_reckonStep 120 = .ok (.aload_n 0, 1) := by decide +kernel
theorem dX4_reckonStep_121 : decode cX4_reckonStep 121 = .ok (.invokevirtual 54, 3) := by decide +kernel
theorem dX4_reckonStep_124 : decode cX4_reckonStep 124 = .ok (.iload_n 3, 1) := by decide +kernel
theorem dX4_reckonStep_125 : decode cX4_reckonStep 125 = .ok (.invokevirtual 76, 3) := by decide +kernel
theorem dX4_reckonStep_128 : decode cX4_reckonStep 128 = .ok (.invokevirtual 66, 3) := by decide +kernel
theorem dX4_reckonStep_131 : decode cX4_reckonStep 131 = .ok (.goto 41, 3) := by decide +kernel
theorem dX4_reckonStep_134 : decode cX4_reckonStep 134 = .ok (.aload_n 0, 1) := by decide +kernel
theorem dX4_reckonStep_135 : decode cX4_reckonStep 135 = .ok (.invokevirtual 54, 3) := by decide +kernel
theorem dX4_reckonStep_138 : decode cX4_reckonStep 138 = .ok (.lstore 4, 2) := by decide +kernel
theorem dX4_reckonStep_140 : decode cX4_reckonStep 140 = .ok (.aload_n 0, 1) := by decide +kernel
theorem dX4_reckonStep_141 : decode cX4_reckonStep 141 = .ok (.aload_n 0, 1) := by decide +kernel
theorem dX4_reckonStep_142 : decode cX4_reckonStep 142 = .ok (.iload_n 1, 1) := by decide +kernel
theorem dX4_reckonStep_143 : decode cX4_reckonStep 143 = .ok (.aload_n 0, 1) := by decide +kernel
theorem dX4_reckonStep_144 : decode cX4_reckonStep 144 = .ok (.invokevirtual 54, 3) := by decide +kernel
theorem dX4_reckonStep_147 : decode cX4_reckonStep 147 = .ok (.lload 4, 2) := by decide +kernel
theorem dX4_reckonStep_149 : decode cX4_reckonStep 149 = .ok (.invokevirtual 80, 3) := by decide +kernel
theorem dX4_reckonStep_152 : decode cX4_reckonStep 152 = .ok (.invokevirtual 66, 3) := by decide +kernel
theorem dX4_reckonStep_155 : decode cX4_reckonStep 155 = .ok (.goto 17, 3) := by decide +kernel
theorem dX4_reckonStep_158 : decode cX4_reckonStep 158 = .ok (.aload_n 0, 1) := by decide +kernel
theorem dX4_reckonStep_159 : decode cX4_reckonStep 159 = .ok (.aload_n 0, 1) := by decide +kernel
theorem dX4_reckonStep_160 : decode cX4_reckonStep 160 = .ok (.getfield 15, 3) := by decide +kernel
theorem dX4_reckonStep_163 : decode cX4_reckonStep 163 = .ok (.iload_n 1, 1) := by decide +kernel
theorem dX4_reckonStep_164 : decode cX4_reckonStep 164 = .ok (.iload_n 2, 1) := by decide +kernel
theorem dX4_reckonStep_165 : decode cX4_reckonStep 165 = .ok (.iload_n 3, 1) := by decide +kernel
theorem dX4_reckonStep_166 : decode cX4_reckonStep 166 = .ok (.invokevirtual 84, 3) := by decide +kernel
theorem dX4_reckonStep_169 : decode cX4_reckonStep 169 = .ok (.invokevirtual 66, 3) := by decide +kernel
theorem dX4_reckonStep_172 : decode cX4_reckonStep 172 = .ok (.return_, 1) := by decide +kernel
theorem dX4_combine_0 : decode cX4_combine 0 = .ok (.iload_n 1, 1) := by decide +kernel
theorem dX4_combine_1 : decode cX4_combine 1 = .ok (.tableswitch 46 42 45 #[41, 31, 46, 36], 31) := by decide +kernel
theorem dX4_combine_32 : decode cX4_combine 32 = .ok (.lload_n 2, 1) := by decide +kernel
theorem dX4_combine_33 : decode cX4_combine 33 = .ok (.lload 4, 2) := by decide +kernel
theorem dX4_combine_35 : decode cX4_combine 35 = .ok (.ladd, 1) := by decide +kernel
theorem dX4_combine_36 : decode cX4_combine 36 = .ok (.lreturn, 1) := by decide +kernel
theorem dX4_combine_37 : decode cX4_combine 37 = .ok (.lload_n 2, 1) := by decide +kernel
theorem dX4_combine_38 : decode cX4_combine 38 = .ok (.lload 4, 2) := by decide +kernel
theorem dX4_combine_40 : decode cX4_combine 40 = .ok (.lsub, 1) := by decide +kernel
theorem dX4_combine_41 : decode cX4_combine 41 = .ok (.lreturn, 1) := by decide +kernel
theorem dX4_combine_42 : decode cX4_combine 42 = .ok (.lload_n 2, 1) := by decide +kernel
theorem dX4_combine_43 : decode cX4_combine 43 = .ok (.lload 4, 2) := by decide +kernel
theorem dX4_combine_45 : decode cX4_combine 45 = .ok (.lmul, 1) := by decide +kernel
theorem dX4_combine_46 : decode cX4_combine 46 = .ok (.lreturn, 1) := by decide +kernel
theorem dX4_combine_47 : decode cX4_combine 47 = .ok (.lload 4, 2) := by decide +kernel
theorem dX4_combine_49 : decode cX4_combine 49 = .ok (.lconst 0, 1) := by decide +kernel
theorem dX4_combine_50 : decode cX4_combine 50 = .ok (.lcmp, 1) := by decide +kernel
theorem dX4_combine_51 : decode cX4_combine 51 = .ok (.ifCond .ne 10, 3) := by decide +kernel
theorem dX4_combine_54 : decode cX4_combine 54 = .ok (.aload_n 0, 1) := by decide +kernel
theorem dX4_combine_55 : decode cX4_combine 55 = .ok (.iconst 1, 1) := by decide +kernel
theorem dX4_combine_56 : decode cX4_combine 56 = .ok (.putfield 26, 3) := by decide +kernel
theorem dX4_combine_59 : decode cX4_combine 59 = .ok (.lconst 0, 1) := by decide +kernel
theorem dX4_combine_60 : decode cX4_combine 60 = .ok (.lreturn, 1) := by decide +kernel
theorem dX4_combine_61 : decode cX4_combine 61 = .ok (.lload_n 2, 1) := by decide +kernel
theorem dX4_combine_62 : decode cX4_combine 62 = .ok (.lload 4, 2) := by decide +kernel
theorem dX4_combine_64 : decode cX4_combine 64 = .ok (.ldiv, 1) := by decide +kernel
theorem dX4_combine_65 : decode cX4_combine 65 = .ok (.lreturn, 1) := by decide +kernel
theorem dX4_faultsOn_0 : decode cX4_faultsOn 0 = .ok (.lload_n 1, 1) := by decide +kernel
theorem dX4_faultsOn_1 : decode cX4_faultsOn 1 = .ok (.l2i, 1) := by decide +kernel
theorem dX4_faultsOn_2 : decode cX4_faultsOn 2 = .ok (.istore 4, 2) := by decide +kernel
theorem dX4_faultsOn_4 : decode cX4_faultsOn 4 = .ok (.iload 4, 2) := by decide +kernel
theorem dX4_faultsOn_6 : decode cX4_faultsOn 6 = .ok (.iconst 2, 1) := by decide +kernel
theorem dX4_faultsOn_7 : decode cX4_faultsOn 7 = .ok (.invokestatic 29, 3) := by decide +kernel
theorem dX4_faultsOn_10 : decode cX4_faultsOn 10 = .ok (.ifCond .ne 10, 3) := by decide +kernel
theorem dX4_faultsOn_13 : decode cX4_faultsOn 13 = .ok (.aload_n 0, 1) := by decide +kernel
theorem dX4_faultsOn_14 : decode cX4_faultsOn 14 = .ok (.iconst 2, 1) := by decide +kernel
theorem dX4_faultsOn_15 : decode cX4_faultsOn 15 = .ok (.putfield 26, 3) := by decide +kernel
theorem dX4_faultsOn_18 : decode cX4_faultsOn 18 = .ok (.lconst 0, 1) := by decide +kernel
theorem dX4_faultsOn_19 : decode cX4_faultsOn 19 = .ok (.lreturn, 1) := by decide +kernel
theorem dX4_faultsOn_20 : decode cX4_faultsOn 20 = .ok (.aload_n 0, 1) := by decide +kernel
theorem dX4_faultsOn_21 : decode cX4_faultsOn 21 = .ok (.getfield 15, 3) := by decide +kernel
theorem dX4_faultsOn_24 : decode cX4_faultsOn 24 = .ok (.iload 4, 2) := by decide +kernel
theorem dX4_faultsOn_26 : decode cX4_faultsOn 26 = .ok (.iload_n 3, 1) := by decide +kernel
theorem dX4_faultsOn_27 : decode cX4_faultsOn 27 = .ok (.invokevirtual 88, 3) := by decide +kernel
theorem dX4_faultsOn_30 : decode cX4_faultsOn 30 = .ok (.i2l, 1) := by decide +kernel
theorem dX4_faultsOn_31 : decode cX4_faultsOn 31 = .ok (.lreturn, 1) := by decide +kernel
theorem dX4_push_0 : decode cX4_push 0 = .ok (.aload_n 0, 1) := by decide +kernel
theorem dX4_push_1 : decode cX4_push 1 = .ok (.getfield 19, 3) := by decide +kernel
theorem dX4_push_4 : decode cX4_push 4 = .ok (.bipush 32, 2) := by decide +kernel
theorem dX4_push_6 : decode cX4_push 6 = .ok (.invokestatic 29, 3) := by decide +kernel
theorem dX4_push_9 : decode cX4_push 9 = .ok (.ifCond .eq 23, 3) := by decide +kernel
theorem dX4_push_12 : decode cX4_push 12 = .ok (.aload_n 0, 1) := by decide +kernel
theorem dX4_push_13 : decode cX4_push 13 = .ok (.getfield 9, 3) := by decide +kernel
theorem dX4_push_16 : decode cX4_push 16 = .ok (.aload_n 0, 1) := by decide +kernel
theorem dX4_push_17 : decode cX4_push 17 = .ok (.getfield 19, 3) := by decide +kernel
theorem dX4_push_20 : decode cX4_push 20 = .ok (.lload_n 1, 1) := by decide +kernel
theorem dX4_push_21 : decode cX4_push 21 = .ok (.lastore, 1) := by decide +kernel
theorem dX4_push_22 : decode cX4_push 22 = .ok (.aload_n 0, 1) := by decide +kernel
theorem dX4_push_23 : decode cX4_push 23 = .ok (.dup, 1) := by decide +kernel
theorem dX4_push_24 : decode cX4_push 24 = .ok (.getfield 19, 3) := by decide +kernel
theorem dX4_push_27 : decode cX4_push 27 = .ok (.iconst 1, 1) := by decide +kernel
theorem dX4_push_28 : decode cX4_push 28 = .ok (.iadd, 1) := by decide +kernel
theorem dX4_push_29 : decode cX4_push 29 = .ok (.putfield 19, 3) := by decide +kernel
theorem dX4_push_32 : decode cX4_push 32 = .ok (.return_, 1) := by decide +kernel
theorem dX4_pop_0 : decode cX4_pop 0 = .ok (.aload_n 0, 1) := by decide +kernel
theorem dX4_pop_1 : decode cX4_pop 1 = .ok (.getfield 19, 3) := by decide +kernel
theorem dX4_pop_4 : decode cX4_pop 4 = .ok (.iconst 1, 1) := by decide +kernel
theorem dX4_pop_5 : decode cX4_pop 5 = .ok (.if_icmp .lt 12, 3) := by decide +kernel
theorem dX4_pop_8 : decode cX4_pop 8 = .ok (.aload_n 0, 1) := by decide +kernel
theorem dX4_pop_9 : decode cX4_pop 9 = .ok (.getfield 19, 3) := by decide +kernel
theorem dX4_pop_12 : decode cX4_pop 12 = .ok (.bipush 32, 2) := by decide +kernel
theorem dX4_pop_14 : decode cX4_pop 14 = .ok (.if_icmp .le 5, 3) := by decide +kernel
theorem dX4_pop_17 : decode cX4_pop 17 = .ok (.lconst 0, 1) := by decide +kernel
theorem dX4_pop_18 : decode cX4_pop 18 = .ok (.lreturn, 1) := by decide +kernel
theorem dX4_pop_19 : decode cX4_pop 19 = .ok (.aload_n 0, 1) := by decide +kernel
theorem dX4_pop_20 : decode cX4_pop 20 = .ok (.dup, 1) := by decide +kernel
theorem dX4_pop_21 : decode cX4_pop 21 = .ok (.getfield 19, 3) := by decide +kernel
theorem dX4_pop_24 : decode cX4_pop 24 = .ok (.iconst 1, 1) := by decide +kernel
theorem dX4_pop_25 : decode cX4_pop 25 = .ok (.isub, 1) := by decide +kernel
theorem dX4_pop_26 : decode cX4_pop 26 = .ok (.putfield 19, 3) := by decide +kernel
theorem dX4_pop_29 : decode cX4_pop 29 = .ok (.aload_n 0, 1) := by decide +kernel
theorem dX4_pop_30 : decode cX4_pop 30 = .ok (.getfield 9, 3) := by decide +kernel
theorem dX4_pop_33 : decode cX4_pop 33 = .ok (.aload_n 0, 1) := by decide +kernel
theorem dX4_pop_34 : decode cX4_pop 34 = .ok (.getfield 19, 3) := by decide +kernel
theorem dX4_pop_37 : decode cX4_pop 37 = .ok (.laload, 1) := by decide +kernel
theorem dX4_pop_38 : decode cX4_pop 38 = .ok (.lreturn, 1) := by decide +kernel
theorem dX5_init_0 : decode cX5_init 0 = .ok (.aload_n 0, 1) := by decide +kernel
theorem dX5_init_1 : decode cX5_init 1 = .ok (.invokespecial 3, 3) := by decide +kernel
theorem dX5_init_4 : decode cX5_init 4 = .ok (.aload_n 0, 1) := by decide +kernel
theorem dX5_init_5 : decode cX5_init 5 = .ok (.bipush 12, 2) := by decide +kernel
theorem dX5_init_7 : decode cX5_init 7 = .ok (.newarray .int, 2) := by decide +kernel
theorem dX5_init_9 : decode cX5_init 9 = .ok (.putfield 9, 3) := by decide +kernel
theorem dX5_init_12 : decode cX5_init 12 = .ok (.aload_n 0, 1) := by decide +kernel
theorem dX5_init_13 : decode cX5_init 13 = .ok (.bipush 12, 2) := by decide +kernel
theorem dX5_init_15 : decode cX5_init 15 = .ok (.newarray .int, 2) := by decide +kernel
theorem dX5_init_17 : decode cX5_init 17 = .ok (.putfield 15, 3) := by decide +kernel
theorem dX5_init_20 : decode cX5_init 20 = .ok (.aload_n 0, 1) := by decide +kernel
theorem dX5_init_21 : decode cX5_init 21 = .ok (.bipush 12, 2) := by decide +kernel
theorem dX5_init_23 : decode cX5_init 23 = .ok (.newarray .int, 2) := by decide +kernel
theorem dX5_init_25 : decode cX5_init 25 = .ok (.putfield 18, 3) := by decide +kernel
theorem dX5_init_28 : decode cX5_init 28 = .ok (.aload_n 0, 1) := by decide +kernel
theorem dX5_init_29 : decode cX5_init 29 = .ok (.bipush 12, 2) := by decide +kernel
theorem dX5_init_31 : decode cX5_init 31 = .ok (.newarray .int, 2) := by decide +kernel
theorem dX5_init_33 : decode cX5_init 33 = .ok (.putfield 21, 3) := by decide +kernel
theorem dX5_init_36 : decode cX5_init 36 = .ok (.return_, 1) := by decide +kernel
theorem dX5_take_0 : decode cX5_take 0 = .ok (.aload_n 0, 1) := by decide +kernel
theorem dX5_take_1 : decode cX5_take 1 = .ok (.aload_n 1, 1) := by decide +kernel
theorem dX5_take_2 : decode cX5_take 2 = .ok (.putfield 24, 3) := by decide +kernel
theorem dX5_take_5 : decode cX5_take 5 = .ok (.aload_n 0, 1) := by decide +kernel
theorem dX5_take_6 : decode cX5_take 6 = .ok (.iconst 0, 1) := by decide +kernel
theorem dX5_take_7 : decode cX5_take 7 = .ok (.putfield 28, 3) := by decide +kernel
theorem dX5_take_10 : decode cX5_take 10 = .ok (.aload_n 0, 1) := by decide +kernel
theorem dX5_take_11 : decode cX5_take 11 = .ok (.iconst 0, 1) := by decide +kernel
theorem dX5_take_12 : decode cX5_take 12 = .ok (.putfield 32, 3) := by decide +kernel
theorem dX5_take_15 : decode cX5_take 15 = .ok (.iconst 0, 1) := by decide +kernel
theorem dX5_take_16 : decode cX5_take 16 = .ok (.istore_n 3, 1) := by decide +kernel
theorem dX5_take_17 : decode cX5_take 17 = .ok (.iload_n 3, 1) := by decide +kernel
theorem dX5_take_18 : decode cX5_take 18 = .ok (.aload_n 1, 1) := by decide +kernel
theorem dX5_take_19 : decode cX5_take 19 = .ok (.getfield 35, 3) := by decide +kernel
theorem dX5_take_22 : decode cX5_take 22 = .ok (.if_icmp .ge 73, 3) := by decide +kernel
theorem dX5_take_25 : decode cX5_take 25 = .ok (.iload_n 3, 1) := by decide +kernel
theorem dX5_take_26 : decode cX5_take 26 = .ok (.bipush 12, 2) := by decide +kernel
theorem dX5_take_28 : decode cX5_take 28 = .ok (.if_icmp .ge 67, 3) := by decide +kernel
theorem dX5_take_31 : decode cX5_take 31 = .ok (.aload_n 2, 1) := by decide +kernel
theorem dX5_take_32 : decode cX5_take 32 = .ok (.aload_n 1, 1) := by decide +kernel
theorem dX5_take_33 : decode cX5_take 33 = .ok (.iload_n 3, 1) := by decide +kernel
theorem dX5_take_34 : decode cX5_take 34 = .ok (.iconst 0, 1) := by decide +kernel
theorem dX5_take_35 : decode cX5_take 35 = .ok (.invokevirtual 40, 3) := by decide +kernel
theorem dX5_take_38 : decode cX5_take 38 = .ok (.istore 4, 2) := by decide +kernel
theorem dX5_take_40 : decode cX5_take 40 = .ok (.aload_n 0, 1) := by decide +kernel
theorem dX5_take_41 : decode cX5_take 41 = .ok (.getfield 21, 3) := by decide +kernel
theorem dX5_take_44 : decode cX5_take 44 = .ok (.iload_n 3, 1) := by decide +kernel
theorem dX5_take_45 : decode cX5_take 45 = .ok (.aload_n 2, 1) := by decide +kernel
theorem dX5_take_46 : decode cX5_take 46 = .ok (.getfield 46, 3) := by decide +kernel
theorem dX5_take_49 : decode cX5_take 49 = .ok (.iastore, 1) := by decide +kernel
theorem dX5_take_50 : decode cX5_take 50 = .ok (.aload_n 0, 1) := by decide +kernel
theorem dX5_take_51 : decode cX5_take 51 = .ok (.iload_n 3, 1) := by decide +kernel
theorem dX5_take_52 : decode cX5_take 52 = .ok (.iconst 1, 1) := by decide +kernel
theorem dX5_take_53 : decode cX5_take 53 = .ok (.iadd, 1) := by decide +kernel
theorem dX5_take_54 : decode cX5_take 54 = .ok (.putfield 28, 3) := by decide +kernel
theorem dX5_take_57 : decode cX5_take 57 = .ok (.iload 4, 2) := by decide +kernel
theorem dX5_take_59 : decode cX5_take 59 = .ok (.ifCond .eq 10, 3) := by decide +kernel
theorem dX5_take_62 : decode cX5_take 62 = .ok (.aload_n 1, 1) := by decide +kernel
theorem dX5_take_63 : decode cX5_take 63 = .ok (.getfield 48, 3) := by decide +kernel
theorem dX5_take_66 : decode cX5_take 66 = .ok (.iload_n 3, 1) := by decide +kernel
theorem dX5_take_67 : decode cX5_take 67 = .ok (.iaload, 1) := by decide +kernel
theorem dX5_take_68 : decode cX5_take 68 = .ok (.ireturn, 1) := by decide +kernel
theorem dX5_take_69 : decode cX5_take 69 = .ok (.aload_n 2, 1) := by decide +kernel
theorem dX5_take_70 : decode cX5_take 70 = .ok (.getfield 51, 3) := by decide +kernel
theorem dX5_take_73 : decode cX5_take 73 = .ok (.ifCond .eq 16, 3) := by decide +kernel
theorem dX5_take_76 : decode cX5_take 76 = .ok (.aload_n 0, 1) := by decide +kernel
theorem dX5_take_77 : decode cX5_take 77 = .ok (.iload_n 3, 1) := by decide +kernel
theorem dX5_take_78 : decode cX5_take 78 = .ok (.aload_n 2, 1) := by decide +kernel
theorem dX5_take_79 : decode cX5_take 79 = .ok (.getfield 46, 3) := by decide +kernel
theorem dX5_take_82 : decode cX5_take 82 = .ok (.aload_n 2, 1) := by decide +kernel
theorem dX5_take_83 : decode cX5_take 83 = .ok (.getfield 51, 3) := by decide +kernel
theorem dX5_take_86 : decode cX5_take 86 = .ok (.invokevirtual 54, 3) := by decide +kernel
theorem dX5_take_89 : decode cX5_take 89 = .ok (.iinc 3 1, 3) := by decide +kernel
theorem dX5_take_92 : decode cX5_take 92 = .ok (.goto (-75), 3) := by decide +kernel
theorem dX5_take_95 : decode cX5_take 95 = .ok (.iconst (-1), 1) := by decide +kernel
theorem dX5_take_96 : decode cX5_take 96 = .ok (.ireturn, 1) := by decide +kernel
theorem dX5_addOpen_0 : decode cX5_addOpen 0 = .ok (.aload_n 0, 1) := by decide +kernel
theorem dX5_addOpen_1 : decode cX5_addOpen 1 = .ok (.getfield 32, 3) := by decide +kernel
theorem dX5_addOpen_4 : decode cX5_addOpen 4 = .ok (.bipush 12, 2) := by decide +kernel
theorem dX5_addOpen_6 : decode cX5_addOpen 6 = .ok (.invokestatic 58, 3) := by decide +kernel
theorem dX5_addOpen_9 : decode cX5_addOpen 9 = .ok (.ifCond .eq 43, 3) := by decide +kernel
theorem dX5_addOpen_12 : decode cX5_addOpen 12 = .ok (.aload_n 0, 1) := by decide +kernel
theorem dX5_addOpen_13 : decode cX5_addOpen 13 = .ok (.getfield 9, 3) := by decide +kernel
theorem dX5_addOpen_16 : decode cX5_addOpen 16 = .ok (.aload_n 0, 1) := by decide +kernel
theorem dX5_addOpen_17 : decode cX5_addOpen 17 = .ok (.getfield 32, 3) := by decide +kernel
theorem dX5_addOpen_20 : decode cX5_addOpen 20 = .ok (.iload_n 1, 1) := by decide +kernel
theorem dX5_addOpen_21 : decode cX5_addOpen 21 = .ok (.iastore, 1) := by decide +kernel
theorem dX5_addOpen_22 : decode cX5_addOpen 22 = .ok (.aload_n 0, 1) := by decide +kernel
theorem dX5_addOpen_23 : decode cX5_addOpen 23 = .ok (.getfield 15, 3) := by decide +kernel
theorem dX5_addOpen_26 : decode cX5_addOpen 26 = .ok (.aload_n 0, 1) := by decide +kernel
theorem dX5_addOpen_27 : decode cX5_addOpen 27 = .ok (.getfield 32, 3) := by decide +kernel
theorem dX5_addOpen_30 : decode cX5_addOpen 30 = .ok (.iload_n 2, 1) := by decide +kernel
theorem dX5_addOpen_31 : decode cX5_addOpen 31 = .ok (.iastore, 1) := by decide +kernel
theorem dX5_addOpen_32 : decode cX5_addOpen 32 = .ok (.aload_n 0, 1) := by decide +kernel
theorem dX5_addOpen_33 : decode cX5_addOpen 33 = .ok (.getfield 18, 3) := by decide +kernel
theorem dX5_addOpen_36 : decode cX5_addOpen 36 = .ok (.aload_n 0, 1) := by decide +kernel
theorem dX5_addOpen_37 : decode cX5_addOpen 37 = .ok (.getfield 32, 3) := by decide +kernel
theorem dX5_addOpen_40 : decode cX5_addOpen 40 = .ok (.iload_n 3, 1) := by decide +kernel
theorem dX5_addOpen_41 : decode cX5_addOpen 41 = .ok (.iastore, 1) := by decide +kernel
theorem dX5_addOpen_42 : decode cX5_addOpen 42 = .ok (.aload_n 0, 1) := by decide +kernel
theorem dX5_addOpen_43 : decode cX5_addOpen 43 = .ok (.dup, 1) := by decide +kernel
theorem dX5_addOpen_44 : decode cX5_addOpen 44 = .ok (.getfield 32, 3) := by decide +kernel
theorem dX5_addOpen_47 : decode cX5_addOpen 47 = .ok (.iconst 1, 1) := by decide +kernel
theorem dX5_addOpen_48 : decode cX5_addOpen 48 = .ok (.iadd, 1) := by decide +kernel
theorem dX5_addOpen_49 : decode cX5_addOpen 49 = .ok (.putfield 32, 3) := by decide +kernel
theorem dX5_addOpen_52 : decode cX5_addOpen 52 = .ok (.return_, 1) := by decide +kernel
theorem dX5_heldOf_0 : decode cX5_heldOf 0 = .ok (.iload_n 2, 1) := by decide +kernel
theorem dX5_heldOf_1 : decode cX5_heldOf 1 = .ok (.istore_n 3, 1) := by decide +kernel
theorem dX5_heldOf_2 : decode cX5_heldOf 2 = .ok (.iconst 0, 1) := by decide +kernel
theorem dX5_heldOf_3 : decode cX5_heldOf 3 = .ok (.istore 4, 2) := by decide +kernel
theorem dX5_heldOf_5 : decode cX5_heldOf 5 = .ok (.aload_n 0, 1) := by decide +kernel
theorem dX5_heldOf_6 : decode cX5_heldOf 6 = .ok (.getfield 24, 3) := by decide +kernel
theorem dX5_heldOf_9 : decode cX5_heldOf 9 = .ok (.ifnull 57, 3) := by decide +kernel
theorem dX5_heldOf_12 : decode cX5_heldOf 12 = .ok (.iload 4, 2) := by decide +kernel
theorem dX5_heldOf_14 : decode cX5_heldOf 14 = .ok (.aload_n 0, 1) := by decide +kernel
theorem dX5_heldOf_15 : decode cX5_heldOf 15 = .ok (.getfield 28, 3) := by decide +kernel
theorem dX5_heldOf_18 : decode cX5_heldOf 18 = .ok (.if_icmp .ge 48, 3) := by decide +kernel
theorem dX5_heldOf_21 : decode cX5_heldOf 21 = .ok (.iload 4, 2) := by decide +kernel
theorem dX5_heldOf_23 : decode cX5_heldOf 23 = .ok (.bipush 12, 2) := by decide +kernel
theorem dX5_heldOf_25 : decode cX5_heldOf 25 = .ok (.if_icmp .ge 41, 3) := by decide +kernel
theorem dX5_heldOf_28 : decode cX5_heldOf 28 = .ok (.aload_n 0, 1) := by decide +kernel
theorem dX5_heldOf_29 : decode cX5_heldOf 29 = .ok (.getfield 24, 3) := by decide +kernel
theorem dX5_heldOf_32 : decode cX5_heldOf 32 = .ok (.getfield 48, 3) := by decide +kernel
theorem dX5_heldOf_35 : decode cX5_heldOf 35 = .ok (.iload 4, 2) := by decide +kernel
theorem dX5_heldOf_37 : decode cX5_heldOf 37 = .ok (.iaload, 1) := by decide +kernel
theorem dX5_heldOf_38 : decode cX5_heldOf 38 = .ok (.iload_n 1, 1) := by decide +kernel
theorem dX5_heldOf_39 : decode cX5_heldOf 39 = .ok (.if_icmp .eq 6, 3) := by decide +kernel
theorem dX5_heldOf_42 : decode cX5_heldOf 42 = .ok (.goto 18, 3) := by decide +kernel
theorem dX5_heldOf_45 : decode cX5_heldOf 45 = .ok (.iload_n 3, 1) := by decide +kernel
theorem dX5_heldOf_46 : decode cX5_heldOf 46 = .ok (.ifCond .ne 11, 3) := by decide +kernel
theorem dX5_heldOf_49 : decode cX5_heldOf 49 = .ok (.aload_n 0, 1) := by decide +kernel
theorem dX5_heldOf_50 : decode cX5_heldOf 50 = .ok (.getfield 21, 3) := by decide +kernel
theorem dX5_heldOf_53 : decode cX5_heldOf 53 = .ok (.iload 4, 2) := by decide +kernel
theorem dX5_heldOf_55 : decode cX5_heldOf 55 = .ok (.iaload, 1) := by decide +kernel
theorem dX5_heldOf_56 : decode cX5_heldOf 56 = .ok (.ireturn, 1) := by decide +kernel
theorem dX5_heldOf_57 : decode cX5_heldOf 57 = .ok (.iinc 3 (-1), 3) := by decide +kernel
theorem dX5_heldOf_60 : decode cX5_heldOf 60 = .ok (.iinc 4 1, 3) := by decide +kernel
theorem dX5_heldOf_63 : decode cX5_heldOf 63 = .ok (.goto (-58), 3) := by decide +kernel
theorem dX5_heldOf_66 : decode cX5_heldOf 66 = .ok (.iconst (-1), 1) := by decide +kernel
theorem dX5_heldOf_67 : decode cX5_heldOf 67 = .ok (.ireturn, 1) := by decide +kernel
theorem dX6_init_0 : decode cX6_init 0 = .ok (.aload_n 0, 1) := by decide +kernel
theorem dX6_init_1 : decode cX6_init 1 = .ok (.invokespecial 3, 3) := by decide +kernel
theorem dX6_init_4 : decode cX6_init 4 = .ok (.aload_n 0, 1) := by decide +kernel
theorem dX6_init_5 : decode cX6_init 5 = .ok (.bipush 12, 2) := by decide +kernel
theorem dX6_init_7 : decode cX6_init 7 = .ok (.newarray .int, 2) := by decide +kernel
theorem dX6_init_9 : decode cX6_init 9 = .ok (.putfield 9, 3) := by decide +kernel
theorem dX6_init_12 : decode cX6_init 12 = .ok (.aload_n 0, 1) := by decide +kernel
theorem dX6_init_13 : decode cX6_init 13 = .ok (.bipush 13, 2) := by decide +kernel
theorem dX6_init_15 : decode cX6_init 15 = .ok (.newarray .int, 2) := by decide +kernel
theorem dX6_init_17 : decode cX6_init 17 = .ok (.putfield 15, 3) := by decide +kernel
theorem dX6_init_20 : decode cX6_init 20 = .ok (.aload_n 0, 1) := by decide +kernel
theorem dX6_init_21 : decode cX6_init 21 = .ok (.iconst 0, 1) := by decide +kernel
theorem dX6_init_22 : decode cX6_init 22 = .ok (.newarray .char, 2) := by decide +kernel
theorem dX6_init_24 : decode cX6_init 24 = .ok (.putfield 18, 3) := by decide +kernel
theorem dX6_init_27 : decode cX6_init 27 = .ok (.iload_n 1, 1) := by decide +kernel
theorem dX6_init_28 : decode cX6_init 28 = .ok (.iconst 0, 1) := by decide +kernel
theorem dX6_init_29 : decode cX6_init 29 = .ok (.invokestatic 22, 3) := by decide +kernel
theorem dX6_init_32 : decode cX6_init 32 = .ok (.istore_n 2, 1) := by decide +kernel
theorem dX6_init_33 : decode cX6_init 33 = .ok (.aload_n 0, 1) := by decide +kernel
theorem dX6_init_34 : decode cX6_init 34 = .ok (.iload_n 2, 1) := by decide +kernel
theorem dX6_init_35 : decode cX6_init 35 = .ok (.newarray .int, 2) := by decide +kernel
theorem dX6_init_37 : decode cX6_init 37 = .ok (.putfield 28, 3) := by decide +kernel
theorem dX6_init_40 : decode cX6_init 40 = .ok (.aload_n 0, 1) := by decide +kernel
theorem dX6_init_41 : decode cX6_init 41 = .ok (.iload_n 2, 1) := by decide +kernel
theorem dX6_init_42 : decode cX6_init 42 = .ok (.newarray .int, 2) := by decide +kernel
theorem dX6_init_44 : decode cX6_init 44 = .ok (.putfield 31, 3) := by decide +kernel
theorem dX6_init_47 : decode cX6_init 47 = .ok (.return_, 1) := by decide +kernel
theorem dX6_beginRule_0 : decode cX6_beginRule 0 = .ok (.aload_n 0, 1) := by decide +kernel
theorem dX6_beginRule_1 : decode cX6_beginRule 1 = .ok (.getfield 34, 3) := by decide +kernel
theorem dX6_beginRule_4 : decode cX6_beginRule 4 = .ok (.bipush 12, 2) := by decide +kernel
theorem dX6_beginRule_6 : decode cX6_beginRule 6 = .ok (.invokestatic 38, 3) := by decide +kernel
theorem dX6_beginRule_9 : decode cX6_beginRule 9 = .ok (.ifCond .eq 49, 3) := by decide +kernel
theorem dX6_beginRule_12 : decode cX6_beginRule 12 = .ok (.aload_n 0, 1) := by decide +kernel
theorem dX6_beginRule_13 : decode cX6_beginRule 13 = .ok (.getfield 9, 3) := by decide +kernel
theorem dX6_beginRule_16 : decode cX6_beginRule 16 = .ok (.aload_n 0, 1) := by decide +kernel
theorem dX6_beginRule_17 : decode cX6_beginRule 17 = .ok (.getfield 34, 3) := by decide +kernel
theorem dX6_beginRule_20 : decode cX6_beginRule 20 = .ok (.iload_n 1, 1) := by decide +kernel
theorem dX6_beginRule_21 : decode cX6_beginRule 21 = .ok (.iastore, 1) := by decide +kernel
theorem dX6_beginRule_22 : decode cX6_beginRule 22 = .ok (.aload_n 0, 1) := by decide +kernel
theorem dX6_beginRule_23 : decode cX6_beginRule 23 = .ok (.getfield 15, 3) := by decide +kernel
theorem dX6_beginRule_26 : decode cX6_beginRule 26 = .ok (.aload_n 0, 1) := by decide +kernel
theorem dX6_beginRule_27 : decode cX6_beginRule 27 = .ok (.getfield 34, 3) := by decide +kernel
theorem dX6_beginRule_30 : decode cX6_beginRule 30 = .ok (.aload_n 0, 1) := by decide +kernel
theorem dX6_beginRule_31 : decode cX6_beginRule 31 = .ok (.getfield 42, 3) := by decide +kernel
theorem dX6_beginRule_34 : decode cX6_beginRule 34 = .ok (.iastore, 1) := by decide +kernel
theorem dX6_beginRule_35 : decode cX6_beginRule 35 = .ok (.aload_n 0, 1) := by decide +kernel
theorem dX6_beginRule_36 : decode cX6_beginRule 36 = .ok (.dup, 1) := by decide +kernel
theorem dX6_beginRule_37 : decode cX6_beginRule 37 = .ok (.getfield 34, 3) := by decide +kernel
theorem dX6_beginRule_40 : decode cX6_beginRule 40 = .ok (.iconst 1, 1) := by decide +kernel
theorem dX6_beginRule_41 : decode cX6_beginRule 41 = .ok (.iadd, 1) := by decide +kernel
theorem dX6_beginRule_42 : decode cX6_beginRule 42 = .ok (.putfield 34, 3) := by decide +kernel
theorem dX6_beginRule_45 : decode cX6_beginRule 45 = .ok (.aload_n 0, 1) := by decide +kernel
theorem dX6_beginRule_46 : decode cX6_beginRule 46 = .ok (.getfield 15, 3) := by decide +kernel
theorem dX6_beginRule_49 : decode cX6_beginRule 49 = .ok (.aload_n 0, 1) := by decide +kernel
theorem dX6_beginRule_50 : decode cX6_beginRule 50 = .ok (.getfield 34, 3) := by decide +kernel
theorem dX6_beginRule_53 : decode cX6_beginRule 53 = .ok (.aload_n 0, 1) := by decide +kernel
theorem dX6_beginRule_54 : decode cX6_beginRule 54 = .ok (.getfield 42, 3) := by decide +kernel
theorem dX6_beginRule_57 : decode cX6_beginRule 57 = .ok (.iastore, 1) := by decide +kernel
theorem dX6_beginRule_58 : decode cX6_beginRule 58 = .ok (.return_, 1) := by decide +kernel
theorem dX6_addStep_0 : decode cX6_addStep 0 = .ok (.aload_n 0, 1) := by decide +kernel
theorem dX6_addStep_1 : decode cX6_addStep 1 = .ok (.getfield 42, 3) := by decide +kernel
theorem dX6_addStep_4 : decode cX6_addStep 4 = .ok (.aload_n 0, 1) := by decide +kernel
theorem dX6_addStep_5 : decode cX6_addStep 5 = .ok (.getfield 28, 3) := by decide +kernel
theorem dX6_addStep_8 : decode cX6_addStep 8 = .ok (.arraylength, 1) := by decide +kernel
theorem dX6_addStep_9 : decode cX6_addStep 9 = .ok (.invokestatic 38, 3) := by decide +kernel
theorem dX6_addStep_12 : decode cX6_addStep 12 = .ok (.ifCond .eq 73, 3) := by decide +kernel
theorem dX6_addStep_15 : decode cX6_addStep 15 = .ok (.aload_n 0, 1) := by decide +kernel
theorem dX6_addStep_16 : decode cX6_addStep 16 = .ok (.getfield 42, 3) := by decide +kernel
theorem dX6_addStep_19 : decode cX6_addStep 19 = .ok (.aload_n 0, 1) := by decide +kernel
theorem dX6_addStep_20 : decode cX6_addStep 20 = .ok (.getfield 31, 3) := by decide +kernel
theorem dX6_addStep_23 : decode cX6_addStep 23 = .ok (.arraylength, 1) := by decide +kernel
theorem dX6_addStep_24 : decode cX6_addStep 24 = .ok (.if_icmp .ge 61, 3) := by decide +kernel
theorem dX6_addStep_27 : decode cX6_addStep 27 = .ok (.aload_n 0, 1) := by decide +kernel
theorem dX6_addStep_28 : decode cX6_addStep 28 = .ok (.getfield 34, 3) := by decide +kernel
theorem dX6_addStep_31 : decode cX6_addStep 31 = .ok (.aload_n 0, 1) := by decide +kernel
theorem dX6_addStep_32 : decode cX6_addStep 32 = .ok (.getfield 15, 3) := by decide +kernel
theorem dX6_addStep_35 : decode cX6_addStep 35 = .ok (.arraylength, 1) := by decide +kernel
theorem dX6_addStep_36 : decode cX6_addStep 36 = .ok (.invokestatic 38, 3) := by decide +kernel
theorem dX6_addStep_39 : decode cX6_addStep 39 = .ok (.ifCond .eq 46, 3) := by decide +kernel
theorem dX6_addStep_42 : decode cX6_addStep 42 = .ok (.aload_n 0, 1) := by decide +kernel
theorem dX6_addStep_43 : decode cX6_addStep 43 = .ok (.getfield 28, 3) := by decide +kernel
theorem dX6_addStep_46 : decode cX6_addStep 46 = .ok (.aload_n 0, 1) := by decide +kernel
theorem dX6_addStep_47 : decode cX6_addStep 47 = .ok (.getfield 42, 3) := by decide +kernel
theorem dX6_addStep_50 : decode cX6_addStep 50 = .ok (.iload_n 1, 1) := by decide +kernel
theorem dX6_addStep_51 : decode cX6_addStep 51 = .ok (.iastore, 1) := by decide +kernel
theorem dX6_addStep_52 : decode cX6_addStep 52 = .ok (.aload_n 0, 1) := by decide +kernel
theorem dX6_addStep_53 : decode cX6_addStep 53 = .ok (.getfield 31, 3) := by decide +kernel
theorem dX6_addStep_56 : decode cX6_addStep 56 = .ok (.aload_n 0, 1) := by decide +kernel
theorem dX6_addStep_57 : decode cX6_addStep 57 = .ok (.getfield 42, 3) := by decide +kernel
theorem dX6_addStep_60 : decode cX6_addStep 60 = .ok (.iload_n 2, 1) := by decide +kernel
theorem dX6_addStep_61 : decode cX6_addStep 61 = .ok (.iastore, 1) := by decide +kernel
theorem dX6_addStep_62 : decode cX6_addStep 62 = .ok (.aload_n 0, 1) := by decide +kernel
theorem dX6_addStep_63 : decode cX6_addStep 63 = .ok (.dup, 1) := by decide +kernel
theorem dX6_addStep_64 : decode cX6_addStep 64 = .ok (.getfield 42, 3) := by decide +kernel
theorem dX6_addStep_67 : decode cX6_addStep 67 = .ok (.iconst 1, 1) := by decide +kernel
theorem dX6_addStep_68 : decode cX6_addStep 68 = .ok (.iadd, 1) := by decide +kernel
theorem dX6_addStep_69 : decode cX6_addStep 69 = .ok (.putfield 42, 3) := by decide +kernel
theorem dX6_addStep_72 : decode cX6_addStep 72 = .ok (.aload_n 0, 1) := by decide +kernel
theorem dX6_addStep_73 : decode cX6_addStep 73 = .ok (.getfield 15, 3) := by decide +kernel
theorem dX6_addStep_76 : decode cX6_addStep 76 = .ok (.aload_n 0, 1) := by decide +kernel
theorem dX6_addStep_77 : decode cX6_addStep 77 = .ok (.getfield 34, 3) := by decide +kernel
theorem dX6_addStep_80 : decode cX6_addStep 80 = .ok (.aload_n 0, 1) := by decide +kernel
theorem dX6_addStep_81 : decode cX6_addStep 81 = .ok (.getfield 42, 3) := by decide +kernel
theorem dX6_addStep_84 : decode cX6_addStep 84 = .ok (.iastore, 1) := by decide +kernel
theorem dX6_addStep_85 : decode cX6_addStep 85 = .ok (.return_, 1) := by decide +kernel
theorem dX7_init_0 : decode cX7_init 0 = .ok (.aload_n 0, 1) := by decide +kernel
theorem dX7_init_1 : decode cX7_init 1 = .ok (.iconst 0, 1) := by decide +kernel
theorem dX7_init_2 : decode cX7_init 2 = .ok (.newarray .char, 2) := by decide +kernel
theorem dX7_init_4 : decode cX7_init 4 = .ok (.invokespecial 3, 3) := by decide +kernel
theorem dX7_init_7 : decode cX7_init 7 = .ok (.aload_n 0, 1) := by decide +kernel
theorem dX7_init_8 : decode cX7_init 8 = .ok (.aload_n 1, 1) := by decide +kernel
theorem dX7_init_9 : decode cX7_init 9 = .ok (.putfield 9, 3) := by decide +kernel
theorem dX7_init_12 : decode cX7_init 12 = .ok (.return_, 1) := by decide +kernel
theorem dX7_begin_0 : decode cX7_begin 0 = .ok (.aload_n 0, 1) := by decide +kernel
theorem dX7_begin_1 : decode cX7_begin 1 = .ok (.aload_n 1, 1) := by decide +kernel
theorem dX7_begin_2 : decode cX7_begin 2 = .ok (.getfield 15, 3) := by decide +kernel
theorem dX7_begin_5 : decode cX7_begin 5 = .ok (.putfield 21, 3) := by decide +kernel
theorem dX7_begin_8 : decode cX7_begin 8 = .ok (.aload_n 0, 1) := by decide +kernel
theorem dX7_begin_9 : decode cX7_begin 9 = .ok (.aload_n 0, 1) := by decide +kernel
theorem dX7_begin_10 : decode cX7_begin 10 = .ok (.getfield 21, 3) := by decide +kernel
theorem dX7_begin_13 : decode cX7_begin 13 = .ok (.arraylength, 1) := by decide +kernel
theorem dX7_begin_14 : decode cX7_begin 14 = .ok (.putfield 24, 3) := by decide +kernel
theorem dX7_begin_17 : decode cX7_begin 17 = .ok (.aload_n 0, 1) := by decide +kernel
theorem dX7_begin_18 : decode cX7_begin 18 = .ok (.iconst 0, 1) := by decide +kernel
theorem dX7_begin_19 : decode cX7_begin 19 = .ok (.putfield 28, 3) := by decide +kernel
theorem dX7_begin_22 : decode cX7_begin 22 = .ok (.return_, 1) := by decide +kernel
theorem dX7_passRule_0 : decode cX7_passRule 0 = .ok (.aload_n 0, 1) := by decide +kernel
theorem dX7_passRule_1 : decode cX7_passRule 1 = .ok (.iconst 0, 1) := by decide +kernel
theorem dX7_passRule_2 : decode cX7_passRule 2 = .ok (.putfield 31, 3) := by decide +kernel
theorem dX7_passRule_5 : decode cX7_passRule 5 = .ok (.aload_n 0, 1) := by decide +kernel
theorem dX7_passRule_6 : decode cX7_passRule 6 = .ok (.dup, 1) := by decide +kernel
theorem dX7_passRule_7 : decode cX7_passRule 7 = .ok (.getfield 28, 3) := by decide +kernel
theorem dX7_passRule_10 : decode cX7_passRule 10 = .ok (.iconst 2, 1) := by decide +kernel
theorem dX7_passRule_11 : decode cX7_passRule 11 = .ok (.iadd, 1) := by decide +kernel
theorem dX7_passRule_12 : decode cX7_passRule 12 = .ok (.putfield 28, 3) := by decide +kernel
theorem dX7_passRule_15 : decode cX7_passRule 15 = .ok (.aload_n 0, 1) := by decide +kernel
theorem dX7_passRule_16 : decode cX7_passRule 16 = .ok (.getfield 28, 3) := by decide +kernel
theorem dX7_passRule_19 : decode cX7_passRule 19 = .ok (.aload_n 0, 1) := by decide +kernel
theorem dX7_passRule_20 : decode cX7_passRule 20 = .ok (.getfield 24, 3) := by decide +kernel
theorem dX7_passRule_23 : decode cX7_passRule 23 = .ok (.if_icmp .ge 12, 3) := by decide +kernel
theorem dX7_passRule_26 : decode cX7_passRule 26 = .ok (.aload_n 0, 1) := by decide +kernel
theorem dX7_passRule_27 : decode cX7_passRule 27 = .ok (.invokevirtual 35, 3) := by decide +kernel
theorem dX7_passRule_30 : decode cX7_passRule 30 = .ok (.bipush 59, 2) := by decide +kernel
theorem dX7_passRule_32 : decode cX7_passRule 32 = .ok (.if_icmp .ne 7, 3) := by decide +kernel
theorem dX7_passRule_35 : decode cX7_passRule 35 = .ok (.iconst 1, 1) := by decide +kernel
theorem dX7_passRule_36 : decode cX7_passRule 36 = .ok (.goto 4, 3) := by decide +kernel
theorem dX7_passRule_39 : decode cX7_passRule 39 = .ok (.iconst 0, 1) := by decide +kernel
theorem dX7_passRule_40 : decode cX7_passRule 40 = .ok (.istore_n 1, 1) := by decide +kernel
theorem dX7_passRule_41 : decode cX7_passRule 41 = .ok (.iconst 0, 1) := by decide +kernel
theorem dX7_passRule_42 : decode cX7_passRule 42 = .ok (.istore_n 2, 1) := by decide +kernel
theorem dX7_passRule_43 : decode cX7_passRule 43 = .ok (.iload_n 2, 1) := by decide +kernel
theorem dX7_passRule_44 : decode cX7_passRule 44 = .ok (.bipush 6, 2) := by decide +kernel
theorem dX7_passRule_46 : decode cX7_passRule 46 = .ok (.if_icmp .ge 47, 3) := by decide +kernel
theorem dX7_passRule_49 : decode cX7_passRule 49 = .ok (.iload_n 1, 1) := by decide +kernel
theorem dX7_passRule_50 : decode cX7_passRule 50 = .ok (.ifCond .ne 43, 3) := by decide +kernel
theorem dX7_passRule_53 : decode cX7_passRule 53 = .ok (.aload_n 0, 1) := by decide +kernel
theorem dX7_passRule_54 : decode cX7_passRule 54 = .ok (.invokevirtual 39, 3) := by decide +kernel
theorem dX7_passRule_57 : decode cX7_passRule 57 = .ok (.ifCond .ne 6, 3) := by decide +kernel
theorem dX7_passRule_60 : decode cX7_passRule 60 = .ok (.goto 33, 3) := by decide +kernel
theorem dX7_passRule_63 : decode cX7_passRule 63 = .ok (.aload_n 0, 1) := by decide +kernel
theorem dX7_passRule_64 : decode cX7_passRule 64 = .ok (.invokevirtual 35, 3) := by decide +kernel
theorem dX7_passRule_67 : decode cX7_passRule 67 = .ok (.bipush 44, 2) := by decide +kernel
theorem dX7_passRule_69 : decode cX7_passRule 69 = .ok (.if_icmp .ne 16, 3) := by decide +kernel
theorem dX7_passRule_72 : decode cX7_passRule 72 = .ok (.aload_n 0, 1) := by decide +kernel
theorem dX7_passRule_73 : decode cX7_passRule 73 = .ok (.dup, 1) := by decide +kernel
theorem dX7_passRule_74 : decode cX7_passRule 74 = .ok (.getfield 28, 3) := by decide +kernel
theorem dX7_passRule_77 : decode cX7_passRule 77 = .ok (.iconst 1, 1) := by decide +kernel
theorem dX7_passRule_78 : decode cX7_passRule 78 = .ok (.iadd, 1) := by decide +kernel
theorem dX7_passRule_79 : decode cX7_passRule 79 = .ok (.putfield 28, 3) := by decide +kernel
theorem dX7_passRule_82 : decode cX7_passRule 82 = .ok (.goto 5, 3) := by decide +kernel
theorem dX7_passRule_85 : decode cX7_passRule 85 = .ok (.iconst 1, 1) := by decide +kernel
theorem dX7_passRule_86 : decode cX7_passRule 86 = .ok (.istore_n 1, 1) := by decide +kernel
theorem dX7_passRule_87 : decode cX7_passRule 87 = .ok (.iinc 2 1, 3) := by decide +kernel
theorem dX7_passRule_90 : decode cX7_passRule 90 = .ok (.goto (-47), 3) := by decide +kernel
theorem dX7_passRule_93 : decode cX7_passRule 93 = .ok (.aload_n 0, 1) := by decide +kernel
theorem dX7_passRule_94 : decode cX7_passRule 94 = .ok (.invokevirtual 43, 3) := by decide +kernel
theorem dX7_passRule_97 : decode cX7_passRule 97 = .ok (.iload_n 1, 1) := by decide +kernel
theorem dX7_passRule_98 : decode cX7_passRule 98 = .ok (.ireturn, 1) := by decide +kernel
theorem dX7_skipRule_0 : decode cX7_skipRule 0 = .ok (.iconst 0, 1) := by decide +kernel
theorem dX7_skipRule_1 : decode cX7_skipRule 1 = .ok (.istore_n 1, 1) := by decide +kernel
theorem dX7_skipRule_2 : decode cX7_skipRule 2 = .ok (.iload_n 1, 1) := by decide +kernel
theorem dX7_skipRule_3 : decode cX7_skipRule 3 = .ok (.sipush 300, 3) := by decide +kernel
theorem dX7_skipRule_6 : decode cX7_skipRule 6 = .ok (.if_icmp .ge 39, 3) := by decide +kernel
theorem dX7_skipRule_9 : decode cX7_skipRule 9 = .ok (.aload_n 0, 1) := by decide +kernel
theorem dX7_skipRule_10 : decode cX7_skipRule 10 = .ok (.getfield 28, 3) := by decide +kernel
theorem dX7_skipRule_13 : decode cX7_skipRule 13 = .ok (.aload_n 0, 1) := by decide +kernel
theorem dX7_skipRule_14 : decode cX7_skipRule 14 = .ok (.getfield 24, 3) := by decide +kernel
theorem dX7_skipRule_17 : decode cX7_skipRule 17 = .ok (.if_icmp .ge 28, 3) := by decide +kernel
theorem dX7_skipRule_20 : decode cX7_skipRule 20 = .ok (.aload_n 0, 1) := by decide +kernel
theorem dX7_skipRule_21 : decode cX7_skipRule 21 = .ok (.invokevirtual 35, 3) := by decide +kernel
theorem dX7_skipRule_24 : decode cX7_skipRule 24 = .ok (.bipush 59, 2) := by decide +kernel
theorem dX7_skipRule_26 : decode cX7_skipRule 26 = .ok (.if_icmp .eq 19, 3) := by decide +kernel
theorem dX7_skipRule_29 : decode cX7_skipRule 29 = .ok (.aload_n 0, 1) := by decide +kernel
theorem dX7_skipRule_30 : decode cX7_skipRule 30 = .ok (.dup, 1) := by decide +kernel
theorem dX7_skipRule_31 : decode cX7_skipRule 31 = .ok (.getfield 28, 3) := by decide +kernel
theorem dX7_skipRule_34 : decode cX7_skipRule 34 = .ok (.iconst 1, 1) := by decide +kernel
theorem dX7_skipRule_35 : decode cX7_skipRule 35 = .ok (.iadd, 1) := by decide +kernel
theorem dX7_skipRule_36 : decode cX7_skipRule 36 = .ok (.putfield 28, 3) := by decide +kernel
theorem dX7_skipRule_39 : decode cX7_skipRule 39 = .ok (.iinc 1 1, 3) := by decide +kernel
theorem dX7_skipRule_42 : decode cX7_skipRule 42 = .ok (.goto (-40), 3) := by decide +kernel
theorem dX7_skipRule_45 : decode cX7_skipRule 45 = .ok (.aload_n 0, 1) := by decide +kernel
theorem dX7_skipRule_46 : decode cX7_skipRule 46 = .ok (.dup, 1) := by decide +kernel
theorem dX7_skipRule_47 : decode cX7_skipRule 47 = .ok (.getfield 28, 3) := by decide +kernel
theorem dX7_skipRule_50 : decode cX7_skipRule 50 = .ok (.iconst 1, 1) := by decide +kernel
theorem dX7_skipRule_51 : decode cX7_skipRule 51 = .ok (.iadd, 1) := by decide +kernel
theorem dX7_skipRule_52 : decode cX7_skipRule 52 = .ok (.putfield 28, 3) := by decide +kernel
theorem dX7_skipRule_55 : decode cX7_skipRule 55 = .ok (.return_, 1) := by decide +kernel
theorem dX7_walkCondition_0 : decode cX7_walkCondition 0 = .ok (.aload_n 0, 1) := by decide +kernel
theorem dX7_walkCondition_1 : decode cX7_walkCondition 1 = .ok (.iconst 0, 1) := by decide +kernel
theorem dX7_walkCondition_2 : decode cX7_walkCondition 2 = .ok (.invokevirtual 47, 3) := by decide +kernel
theorem dX7_walkCondition_5 : decode cX7_walkCondition 5 = .ok (.lstore_n 1, 1) := by decide +kernel
theorem dX7_walkCondition_6 : decode cX7_walkCondition 6 = .ok (.aload_n 0, 1) := by decide +kernel
theorem dX7_walkCondition_7 : decode cX7_walkCondition 7 = .ok (.invokevirtual 35, 3) := by decide +kernel
theorem dX7_walkCondition_10 : decode cX7_walkCondition 10 = .ok (.istore_n 3, 1) := by decide +kernel
theorem dX7_walkCondition_11 : decode cX7_walkCondition 11 = .ok (.aload_n 0, 1) := by decide +kernel
theorem dX7_walkCondition_12 : decode cX7_walkCondition 12 = .ok (.getfield 31, 3) := by decide +kernel
theorem dX7_walkCondition_15 : decode cX7_walkCondition 15 = .ok (.ifCond .eq 5, 3) := by decide +kernel
theorem dX7_walkCondition_18 : decode cX7_walkCondition 18 = .ok (.iconst 0, 1) := by decide +kernel
theorem dX7_walkCondition_19 : decode cX7_walkCondition 19 = .ok (.ireturn, 1) := by decide +kernel
theorem dX7_walkCondition_20 : decode cX7_walkCondition 20 = .ok (.aload_n 0, 1) := by decide +kernel
theorem dX7_walkCondition_21 : decode cX7_walkCondition 21 = .ok (.dup, 1) := by decide +kernel
theorem dX7_walkCondition_22 : decode cX7_walkCondition 22 = .ok (.getfield 28, 3) := by decide +kernel
theorem dX7_walkCondition_25 : decode cX7_walkCondition 25 = .ok (.iconst 1, 1) := by decide +kernel
theorem dX7_walkCondition_26 : decode cX7_walkCondition 26 = .ok (.iadd, 1) := by decide +kernel
theorem dX7_walkCondition_27 : decode cX7_walkCondition 27 = .ok (.putfield 28, 3) := by decide +kernel
theorem dX7_walkCondition_30 : decode cX7_walkCondition 30 = .ok (.aload_n 0, 1) := by decide +kernel
theorem dX7_walkCondition_31 : decode cX7_walkCondition 31 = .ok (.iconst 0, 1) := by decide +kernel
theorem dX7_walkCondition_32 : decode cX7_walkCondition 32 = .ok (.invokevirtual 47, 3) := by decide +kernel
theorem dX7_walkCondition_35 : decode cX7_walkCondition 35 = .ok (.lstore 4, 2) := by decide +kernel
theorem dX7_walkCondition_37 : decode cX7_walkCondition 37 = .ok (.aload_n 0, 1) := by decide +kernel
theorem dX7_walkCondition_38 : decode cX7_walkCondition 38 = .ok (.getfield 31, 3) := by decide +kernel
theorem dX7_walkCondition_41 : decode cX7_walkCondition 41 = .ok (.ifCond .ne 17, 3) := by decide +kernel
theorem dX7_walkCondition_44 : decode cX7_walkCondition 44 = .ok (.iload_n 3, 1) := by decide +kernel
theorem dX7_walkCondition_45 : decode cX7_walkCondition 45 = .ok (.lload_n 1, 1) := by decide +kernel
theorem dX7_walkCondition_46 : decode cX7_walkCondition 46 = .ok (.lload 4, 2) := by decide +kernel
theorem dX7_walkCondition_48 : decode cX7_walkCondition 48 = .ok (.invokestatic 51, 3) := by decide +kernel
theorem dX7_walkCondition_51 : decode cX7_walkCondition 51 = .ok (.ifCond .eq 7, 3) := by decide +kernel
theorem dX7_walkCondition_54 : decode cX7_walkCondition 54 = .ok (.iconst 1, 1) := by decide +kernel
theorem dX7_walkCondition_55 : decode cX7_walkCondition 55 = .ok (.goto 4, 3) := by decide +kernel
theorem dX7_walkCondition_58 : decode cX7_walkCondition 58 = .ok (.iconst 0, 1) := by decide +kernel
theorem dX7_walkCondition_59 : decode cX7_walkCondition 59 = .ok (.ireturn, 1) := by decide +kernel
theorem dX7_walkExpression_0 : decode cX7_walkExpression 0 = .ok (.aload_n 0, 1) := by decide +kernel
theorem dX7_walkExpression_1 : decode cX7_walkExpression 1 = .ok (.iload_n 1, 1) := by decide +kernel
theorem dX7_walkExpression_2 : decode cX7_walkExpression 2 = .ok (.invokevirtual 57, 3) := by decide +kernel
theorem dX7_walkExpression_5 : decode cX7_walkExpression 5 = .ok (.lstore_n 2, 1) := by decide +kernel
theorem dX7_walkExpression_6 : decode cX7_walkExpression 6 = .ok (.iconst 0, 1) := by decide +kernel
theorem dX7_walkExpression_7 : decode cX7_walkExpression 7 = .ok (.istore 4, 2) := by decide +kernel
theorem dX7_walkExpression_9 : decode cX7_walkExpression 9 = .ok (.iload 4, 2) := by decide +kernel
theorem dX7_walkExpression_11 : decode cX7_walkExpression 11 = .ok (.sipush 300, 3) := by decide +kernel
theorem dX7_walkExpression_14 : decode cX7_walkExpression 14 = .ok (.if_icmp .ge 75, 3) := by decide +kernel
theorem dX7_walkExpression_17 : decode cX7_walkExpression 17 = .ok (.aload_n 0, 1) := by decide +kernel
theorem dX7_walkExpression_18 : decode cX7_walkExpression 18 = .ok (.getfield 31, 3) := by decide +kernel
theorem dX7_walkExpression_21 : decode cX7_walkExpression 21 = .ok (.ifCond .ne 68, 3) := by decide +kernel
theorem dX7_walkExpression_24 : decode cX7_walkExpression 24 = .ok (.aload_n 0, 1) := by decide +kernel
theorem dX7_walkExpression_25 : decode cX7_walkExpression 25 = .ok (.invokevirtual 35, 3) := by decide +kernel
theorem dX7_walkExpression_28 : decode cX7_walkExpression 28 = .ok (.istore 5, 2) := by decide +kernel
theorem dX7_walkExpression_30 : decode cX7_walkExpression 30 = .ok (.iload 5, 2) := by decide +kernel
theorem dX7_walkExpression_32 : decode cX7_walkExpression 32 = .ok (.bipush 43, 2) := by decide +kernel
theorem dX7_walkExpression_34 : decode cX7_walkExpression 34 = .ok (.if_icmp .eq 13, 3) := by decide +kernel
theorem dX7_walkExpression_37 : decode cX7_walkExpression 37 = .ok (.iload 5, 2) := by decide +kernel
theorem dX7_walkExpression_39 : decode cX7_walkExpression 39 = .ok (.bipush 45, 2) := by decide +kernel
theorem dX7_walkExpression_41 : decode cX7_walkExpression 41 = .ok (.if_icmp .eq 6, 3) := by decide +kernel
theorem dX7_walkExpression_44 : decode cX7_walkExpression 44 = .ok (.goto 45, 3) := by decide +kernel
theorem dX7_walkExpression_47 : decode cX7_walkExpression 47 = .ok (.aload_n 0, 1) := by decide +kernel
theorem dX7_walkExpression_48 : decode cX7_walkExpression 48 = .ok (.dup, 1) := by decide +kernel
theorem dX7_walkExpression_49 : decode cX7_walkExpression 49 = .ok (.getfield 28, 3) := by decide +kernel
theorem dX7_walkExpression_52 : decode cX7_walkExpression 52 = .ok (.iconst 1, 1) := by decide +kernel
theorem dX7_walkExpression_53 : decode cX7_walkExpression 53 = .ok (.iadd, 1) := by decide +kernel
theorem dX7_walkExpression_54 : decode cX7_walkExpression 54 = .ok (.putfield 28, 3) := by decide +kernel
theorem dX7_walkExpression_57 : decode cX7_walkExpression 57 = .ok (.aload_n 0, 1) := by decide +kernel
theorem dX7_walkExpression_58 : decode cX7_walkExpression 58 = .ok (.iload_n 1, 1) := by decide +kernel
theorem dX7_walkExpression_59 : decode cX7_walkExpression 59 = .ok (.invokevirtual 57, 3) := by decide +kernel
theorem dX7_walkExpression_62 : decode cX7_walkExpression 62 = .ok (.lstore 6, 2) := by decide +kernel
theorem dX7_walkExpression_64 : decode cX7_walkExpression 64 = .ok (.iload 5, 2) := by decide +kernel
theorem dX7_walkExpression_66 : decode cX7_walkExpression 66 = .ok (.bipush 43, 2) := by decide +kernel
theorem dX7_walkExpression_68 : decode cX7_walkExpression 68 = .ok (.if_icmp .ne 10, 3) := by decide +kernel
theorem dX7_walkExpression_71 : decode cX7_walkExpression 71 = .ok (.lload_n 2, 1) := by decide +kernel
theorem dX7_walkExpression_72 : decode cX7_walkExpression 72 = .ok (.lload 6, 2) := by decide +kernel
theorem dX7_walkExpression_74 : decode cX7_walkExpression 74 = .ok (.ladd, 1) := by decide +kernel
theorem dX7_walkExpression_75 : decode cX7_walkExpression 75 = .ok (.goto 7, 3) := by decide +kernel
theorem dX7_walkExpression_78 : decode cX7_walkExpression 78 = .ok (.lload_n 2, 1) := by decide +kernel
theorem dX7_walkExpression_79 : decode cX7_walkExpression 79 = .ok (.lload 6, 2) := by decide +kernel
theorem dX7_walkExpression_81 : decode cX7_walkExpression 81 = .ok (.lsub, 1) := by decide +kernel
theorem dX7_walkExpression_82 : decode cX7_walkExpression 82 = .ok (.lstore_n 2, 1) := by decide +kernel
theorem dX7_walkExpression_83 : decode cX7_walkExpression 83 = .ok (.iinc 4 1, 3) := by decide +kernel
theorem dX7_walkExpression_86 : decode cX7_walkExpression 86 = .ok (.goto (-77), 3) := by decide +kernel
theorem dX7_walkExpression_89 : decode cX7_walkExpression 89 = .ok (.lload_n 2, 1) := by decide +kernel
theorem dX7_walkExpression_90 : decode cX7_walkExpression 90 = .ok (.lreturn, 1) := by decide +kernel
theorem dX7_walkTerm_0 : decode cX7_walkTerm 0 = .ok (.aload_n 0, 1) := by decide +kernel
theorem dX7_walkTerm_1 : decode cX7_walkTerm 1 = .ok (.iload_n 1, 1) := by decide +kernel
theorem dX7_walkTerm_2 : decode cX7_walkTerm 2 = .ok (.invokevirtual 60, 3) := by decide +kernel
theorem dX7_walkTerm_5 : decode cX7_walkTerm 5 = .ok (.lstore_n 2, 1) := by decide +kernel
theorem dX7_walkTerm_6 : decode cX7_walkTerm 6 = .ok (.iconst 0, 1) := by decide +kernel
theorem dX7_walkTerm_7 : decode cX7_walkTerm 7 = .ok (.istore 4, 2) := by decide +kernel
theorem dX7_walkTerm_9 : decode cX7_walkTerm 9 = .ok (.iload 4, 2) := by decide +kernel
theorem dX7_walkTerm_11 : decode cX7_walkTerm 11 = .ok (.sipush 300, 3) := by decide +kernel
theorem dX7_walkTerm_14 : decode cX7_walkTerm 14 = .ok (.if_icmp .ge 91, 3) := by decide +kernel
theorem dX7_walkTerm_17 : decode cX7_walkTerm 17 = .ok (.aload_n 0, 1) := by decide +kernel
theorem dX7_walkTerm_18 : decode cX7_walkTerm 18 = .ok (.getfield 31, 3) := by decide +kernel
theorem dX7_walkTerm_21 : decode cX7_walkTerm 21 = .ok (.ifCond .ne 84, 3) := by decide +kernel
theorem dX7_walkTerm_24 : decode cX7_walkTerm 24 = .ok (.aload_n 0, 1) := by decide +kernel
theorem dX7_walkTerm_25 : decode cX7_walkTerm 25 = .ok (.invokevirtual 35, 3) := by decide +kernel
theorem dX7_walkTerm_28 : decode cX7_walkTerm 28 = .ok (.istore 5, 2) := by decide +kernel
theorem dX7_walkTerm_30 : decode cX7_walkTerm 30 = .ok (.iload 5, 2) := by decide +kernel
theorem dX7_walkTerm_32 : decode cX7_walkTerm 32 = .ok (.bipush 42, 2) := by decide +kernel
theorem dX7_walkTerm_34 : decode cX7_walkTerm 34 = .ok (.if_icmp .eq 13, 3) := by decide +kernel
theorem dX7_walkTerm_37 : decode cX7_walkTerm 37 = .ok (.iload 5, 2) := by decide +kernel
theorem dX7_walkTerm_39 : decode cX7_walkTerm 39 = .ok (.bipush 47, 2) := by decide +kernel
theorem dX7_walkTerm_41 : decode cX7_walkTerm 41 = .ok (.if_icmp .eq 6, 3) := by decide +kernel
theorem dX7_walkTerm_44 : decode cX7_walkTerm 44 = .ok (.goto 61, 3) := by decide +kernel
theorem dX7_walkTerm_47 : decode cX7_walkTerm 47 = .ok (.aload_n 0, 1) := by decide +kernel
theorem dX7_walkTerm_48 : decode cX7_walkTerm 48 = .ok (.dup, 1) := by decide +kernel
theorem dX7_walkTerm_49 : decode cX7_walkTerm 49 = .ok (.getfield 28, 3) := by decide +kernel
theorem dX7_walkTerm_52 : decode cX7_walkTerm 52 = .ok (.iconst 1, 1) := by decide +kernel
theorem dX7_walkTerm_53 : decode cX7_walkTerm 53 = .ok (.iadd, 1) := by decide +kernel
theorem dX7_walkTerm_54 : decode cX7_walkTerm 54 = .ok (.putfield 28, 3) := by decide +kernel
theorem dX7_walkTerm_57 : decode cX7_walkTerm 57 = .ok (.aload_n 0, 1) := by decide +kernel
theorem dX7_walkTerm_58 : decode cX7_walkTerm 58 = .ok (.iload_n 1, 1) := by decide +kernel
theorem dX7_walkTerm_59 : decode cX7_walkTerm 59 = .ok (.invokevirtual 60, 3) := by decide +kernel
theorem dX7_walkTerm_62 : decode cX7_walkTerm 62 = .ok (.lstore 6, 2) := by decide +kernel
theorem dX7_walkTerm_64 : decode cX7_walkTerm 64 = .ok (.iload 5, 2) := by decide +kernel
theorem dX7_walkTerm_66 : decode cX7_walkTerm 66 = .ok (.bipush 42, 2) := by decide +kernel
theorem dX7_walkTerm_68 : decode cX7_walkTerm 68 = .ok (.if_icmp .ne 11, 3) := by decide +kernel
theorem dX7_walkTerm_71 : decode cX7_walkTerm 71 = .ok (.lload_n 2, 1) := by decide +kernel
theorem dX7_walkTerm_72 : decode cX7_walkTerm 72 = .ok (.lload 6, 2) := by decide +kernel
theorem dX7_walkTerm_74 : decode cX7_walkTerm 74 = .ok (.lmul, 1) := by decide +kernel
theorem dX7_walkTerm_75 : decode cX7_walkTerm 75 = .ok (.lstore_n 2, 1) := by decide +kernel
theorem dX7_walkTerm_76 : decode cX7_walkTerm 76 = .ok (.goto 23, 3) := by decide +kernel
theorem dX7_walkTerm_79 : decode cX7_walkTerm 79 = .ok (.lload 6, 2) := by decide +kernel
theorem dX7_walkTerm_81 : decode cX7_walkTerm 81 = .ok (.lconst 0, 1) := by decide +kernel
theorem dX7_walkTerm_82 : decode cX7_walkTerm 82 = .ok (.lcmp, 1) := by decide +kernel
theorem dX7_walkTerm_83 : decode cX7_walkTerm 83 = .ok (.ifCond .eq 11, 3) := by decide +kernel
theorem dX7_walkTerm_86 : decode cX7_walkTerm 86 = .ok (.lload_n 2, 1) := by decide +kernel
theorem dX7_walkTerm_87 : decode cX7_walkTerm 87 = .ok (.lload 6, 2) := by decide +kernel
theorem dX7_walkTerm_89 : decode cX7_walkTerm 89 = .ok (.ldiv, 1) := by decide +kernel
theorem dX7_walkTerm_90 : decode cX7_walkTerm 90 = .ok (.lstore_n 2, 1) := by decide +kernel
theorem dX7_walkTerm_91 : decode cX7_walkTerm 91 = .ok (.goto 8, 3) := by decide +kernel
theorem dX7_walkTerm_94 : decode cX7_walkTerm 94 = .ok (.aload_n 0, 1) := by decide +kernel
theorem dX7_walkTerm_95 : decode cX7_walkTerm 95 = .ok (.iconst 1, 1) := by decide +kernel
theorem dX7_walkTerm_96 : decode cX7_walkTerm 96 = .ok (.putfield 31, 3) := by decide +kernel
theorem dX7_walkTerm_99 : decode cX7_walkTerm 99 = .ok (.iinc 4 1, 3) := by decide +kernel
theorem dX7_walkTerm_102 : decode cX7_walkTerm 102 = .ok (.goto (-93), 3) := by decide +kernel
theorem dX7_walkTerm_105 : decode cX7_walkTerm 105 = .ok (.lload_n 2, 1) := by decide +kernel
theorem dX7_walkTerm_106 : decode cX7_walkTerm 106 = .ok (.lreturn, 1) := by decide +kernel
theorem dX7_walkFactor_0 : decode cX7_walkFactor 0 = .ok (.aload_n 0, 1) := by decide +kernel
theorem dX7_walkFactor_1 : decode cX7_walkFactor 1 = .ok (.getfield 28, 3) := by decide +kernel
theorem dX7_walkFactor_4 : decode cX7_walkFactor 4 = .ok (.istore_n 2, 1) := by decide +kernel
theorem dX7_walkFactor_5 : decode cX7_walkFactor 5 = .ok (.aload_n 0, 1) := by decide +kernel
theorem dX7_walkFactor_6 : decode cX7_walkFactor 6 = .ok (.invokevirtual 63, 3) := by decide +kernel
theorem dX7_walkFactor_9 : decode cX7_walkFactor 9 = .ok (.pop, 1) := by decide +kernel
theorem dX7_walkFactor_10 : decode cX7_walkFactor 10 = .ok (.aload_n 0, 1) := by decide +kernel
theorem dX7_walkFactor_11 : decode cX7_walkFactor 11 = .ok (.getfield 28, 3) := by decide +kernel
theorem dX7_walkFactor_14 : decode cX7_walkFactor 14 = .ok (.istore_n 3, 1) := by decide +kernel
theorem dX7_walkFactor_15 : decode cX7_walkFactor 15 = .ok (.aload_n 0, 1) := by decide +kernel
theorem dX7_walkFactor_16 : decode cX7_walkFactor 16 = .ok (.invokevirtual 35, 3) := by decide +kernel
theorem dX7_walkFactor_19 : decode cX7_walkFactor 19 = .ok (.istore 4, 2) := by decide +kernel
theorem dX7_walkFactor_21 : decode cX7_walkFactor 21 = .ok (.lconst 0, 1) := by decide +kernel
theorem dX7_walkFactor_22 : decode cX7_walkFactor 22 = .ok (.lstore 5, 2) := by decide +kernel
theorem dX7_walkFactor_24 : decode cX7_walkFactor 24 = .ok (.iload 4, 2) := by decide +kernel
theorem dX7_walkFactor_26 : decode cX7_walkFactor 26 = .ok (.bipush 40, 2) := by decide +kernel
theorem dX7_walkFactor_28 : decode cX7_walkFactor 28 = .ok (.if_icmp .ne 45, 3) := by decide +kernel
theorem dX7_walkFactor_31 : decode cX7_walkFactor 31 = .ok (.aload_n 0, 1) := by decide +kernel
theorem dX7_walkFactor_32 : decode cX7_walkFactor 32 = .ok (.dup, 1) := by decide +kernel
theorem dX7_walkFactor_33 : decode cX7_walkFactor 33 = .ok (.getfield 28, 3) := by decide +kernel
theorem dX7_walkFactor_36 : decode cX7_walkFactor 36 = .ok (.iconst 1, 1) := by decide +kernel
theorem dX7_walkFactor_37 : decode cX7_walkFactor 37 = .ok (.iadd, 1) := by decide +kernel
theorem dX7_walkFactor_38 : decode cX7_walkFactor 38 = .ok (.putfield 28, 3) := by decide +kernel
theorem dX7_walkFactor_41 : decode cX7_walkFactor 41 = .ok (.iload_n 1, 1) := by decide +kernel
theorem dX7_walkFactor_42 : decode cX7_walkFactor 42 = .ok (.bipush 8, 2) := by decide +kernel
theorem dX7_walkFactor_44 : decode cX7_walkFactor 44 = .ok (.if_icmp .ge 13, 3) := by decide +kernel
theorem dX7_walkFactor_47 : decode cX7_walkFactor 47 = .ok (.aload_n 0, 1) := by decide +kernel
theorem dX7_walkFactor_48 : decode cX7_walkFactor 48 = .ok (.iload_n 1, 1) := by decide +kernel
theorem dX7_walkFactor_49 : decode cX7_walkFactor 49 = .ok (.iconst 1, 1) := by decide +kernel
theorem dX7_walkFactor_50 : decode cX7_walkFactor 50 = .ok (.iadd, 1) := by decide +kernel
theorem dX7_walkFactor_51 : decode cX7_walkFactor 51 = .ok (.invokevirtual 47, 3) := by decide +kernel
theorem dX7_walkFactor_54 : decode cX7_walkFactor 54 = .ok (.goto 4, 3) := by decide +kernel
theorem dX7_walkFactor_57 : decode cX7_walkFactor 57 = .ok (.lconst 0, 1) := by decide +kernel
theorem dX7_walkFactor_58 : decode cX7_walkFactor 58 = .ok (.lstore 5, 2) := by decide +kernel
theorem dX7_walkFactor_60 : decode cX7_walkFactor 60 = .ok (.aload_n 0, 1) := by decide +kernel
theorem dX7_walkFactor_61 : decode cX7_walkFactor 61 = .ok (.dup, 1) := by decide +kernel
theorem dX7_walkFactor_62 : decode cX7_walkFactor 62 = .ok (.getfield 28, 3) := by decide +kernel
theorem dX7_walkFactor_65 : decode cX7_walkFactor 65 = .ok (.iconst 1, 1) := by decide +kernel
theorem dX7_walkFactor_66 : decode cX7_walkFactor 66 = .ok (.iadd, 1) := by decide +kernel
theorem dX7_walkFactor_67 : decode cX7_walkFactor 67 = .ok (.putfield 28, 3) := by decide +kernel
theorem dX7_walkFactor_70 : decode cX7_walkFactor 70 = .ok (.goto 92, 3) := by decide +kernel
theorem dX7_walkFactor_73 : decode cX7_walkFactor 73 = .ok (.iload 4, 2) := by decide +kernel
theorem dX7_walkFactor_75 : decode cX7_walkFactor 75 = .ok (.bipush 48, 2) := by decide +kernel
theorem dX7_walkFactor_77 : decode cX7_walkFactor 77 = .ok (.if_icmp .lt 20, 3) := by decide +kernel
theorem dX7_walkFactor_80 : decode cX7_walkFactor 80 = .ok (.iload 4, 2) := by decide +kernel
theorem dX7_walkFactor_82 : decode cX7_walkFactor 82 = .ok (.bipush 57, 2) := by decide +kernel
theorem dX7_walkFactor_84 : decode cX7_walkFactor 84 = .ok (.if_icmp .gt 13, 3) := by decide +kernel
theorem dX7_walkFactor_87 : decode cX7_walkFactor 87 = .ok (.aload_n 0, 1) := by decide +kernel
theorem dX7_walkFactor_88 : decode cX7_walkFactor 88 = .ok (.invokevirtual 66, 3) := by decide +kernel
theorem dX7_walkFactor_91 : decode cX7_walkFactor 91 = .ok (.i2l, 1) := by decide +kernel
theorem dX7_walkFactor_92 : decode cX7_walkFactor 92 = .ok (.lstore 5, 2) := by decide +kernel
theorem dX7_walkFactor_94 : decode cX7_walkFactor 94 = .ok (.goto 68, 3) := by decide +kernel
theorem dX7_walkFactor_97 : decode cX7_walkFactor 97 = .ok (.aload_n 0, 1) := by decide +kernel
theorem dX7_walkFactor_98 : decode cX7_walkFactor 98 = .ok (.dup, 1) := by decide +kernel
theorem dX7_walkFactor_99 : decode cX7_walkFactor 99 = .ok (.getfield 28, 3) := by decide +kernel
theorem dX7_walkFactor_102 : decode cX7_walkFactor 102 = .ok (.iconst 1, 1) := by decide +kernel
theorem dX7_walkFactor_103 : decode cX7_walkFactor 103 = .ok (.iadd, 1) := by decide +kernel
theorem dX7_walkFactor_104 : decode cX7_walkFactor 104 = .ok (.putfield 28, 3) := by decide +kernel
theorem dX7_walkFactor_107 : decode cX7_walkFactor 107 = .ok (.iload 4, 2) := by decide +kernel
theorem dX7_walkFactor_109 : decode cX7_walkFactor 109 = .ok (.bipush 108, 2) := by decide +kernel
theorem dX7_walkFactor_111 : decode cX7_walkFactor 111 = .ok (.if_icmp .eq 21, 3) := by decide +kernel
theorem dX7_walkFactor_114 : decode cX7_walkFactor 114 = .ok (.iload 4, 2) := by decide +kernel
theorem dX7_walkFactor_116 : decode cX7_walkFactor 116 = .ok (.bipush 119, 2) := by decide +kernel
theorem dX7_walkFactor_118 : decode cX7_walkFactor 118 = .ok (.if_icmp .eq 14, 3) := by decide +kernel
theorem dX7_walkFactor_121 : decode cX7_walkFactor 121 = .ok (.iload 4, 2) := by decide +kernel
theorem dX7_walkFactor_123 : decode cX7_walkFactor 123 = .ok (.bipush 116, 2) := by decide +kernel
theorem dX7_walkFactor_125 : decode cX7_walkFactor 125 = .ok (.if_icmp .eq 7, 3) := by decide +kernel
theorem dX7_walkFactor_128 : decode cX7_walkFactor 128 = .ok (.iconst 1, 1) := by decide +kernel
theorem dX7_walkFactor_129 : decode cX7_walkFactor 129 = .ok (.goto 4, 3) := by decide +kernel
theorem dX7_walkFactor_132 : decode cX7_walkFactor 132 = .ok (.iconst 0, 1) := by decide +kernel
theorem dX7_walkFactor_133 : decode cX7_walkFactor 133 = .ok (.istore 7, 2) := by decide +kernel
theorem dX7_walkFactor_135 : decode cX7_walkFactor 135 = .ok (.aload_n 0, 1) := by decide +kernel
theorem dX7_walkFactor_136 : decode cX7_walkFactor 136 = .ok (.getfield 9, 3) := by decide +kernel
theorem dX7_walkFactor_139 : decode cX7_walkFactor 139 = .ok (.iload 4, 2) := by decide +kernel
theorem dX7_walkFactor_141 : decode cX7_walkFactor 141 = .ok (.iload 7, 2) := by decide +kernel
theorem dX7_walkFactor_143 : decode cX7_walkFactor 143 = .ok (.ifCond .eq 12, 3) := by decide +kernel
theorem dX7_walkFactor_146 : decode cX7_walkFactor 146 = .ok (.aload_n 0, 1) := by decide +kernel
theorem dX7_walkFactor_147 : decode cX7_walkFactor 147 = .ok (.bipush 8, 2) := by decide +kernel
theorem dX7_walkFactor_149 : decode cX7_walkFactor 149 = .ok (.invokevirtual 70, 3) := by decide +kernel
theorem dX7_walkFactor_152 : decode cX7_walkFactor 152 = .ok (.goto 4, 3) := by decide +kernel
theorem dX7_walkFactor_155 : decode cX7_walkFactor 155 = .ok (.iconst 0, 1) := by decide +kernel
theorem dX7_walkFactor_156 : decode cX7_walkFactor 156 = .ok (.iconst 0, 1) := by decide +kernel
theorem dX7_walkFactor_157 : decode cX7_walkFactor 157 = .ok (.invokevirtual 74, 3) := by decide +kernel
theorem dX7_walkFactor_160 : decode cX7_walkFactor 160 = .ok (.lstore 5, 2) := by decide +kernel
theorem dX7_walkFactor_162 : decode cX7_walkFactor 162 = .ok (.aload_n 0, 1) := by decide +kernel
theorem dX7_walkFactor_163 : decode cX7_walkFactor 163 = .ok (.iload_n 2, 1) := by decide +kernel
theorem dX7_walkFactor_164 : decode cX7_walkFactor 164 = .ok (.iload_n 3, 1) := by decide +kernel
theorem dX7_walkFactor_165 : decode cX7_walkFactor 165 = .ok (.lload 5, 2) := by decide +kernel
theorem dX7_walkFactor_167 : decode cX7_walkFactor 167 = .ok (.invokevirtual 80, 3) := by decide +kernel
theorem dX7_walkFactor_170 : decode cX7_walkFactor 170 = .ok (.lreturn, 1) := by decide +kernel
theorem dX7_applyPrefixes_0 : decode cX7_applyPrefixes 0 = .ok (.lload_n 3, 1) := by decide +kernel
theorem dX7_applyPrefixes_1 : decode cX7_applyPrefixes 1 = .ok (.lstore 5, 2) := by decide +kernel
theorem dX7_applyPrefixes_3 : decode cX7_applyPrefixes 3 = .ok (.iload_n 2, 1) := by decide +kernel
theorem dX7_applyPrefixes_4 : decode cX7_applyPrefixes 4 = .ok (.iconst 1, 1) := by decide +kernel
theorem dX7_applyPrefixes_5 : decode cX7_applyPrefixes 5 = .ok (.isub, 1) := by decide +kernel
theorem dX7_applyPrefixes_6 : decode cX7_applyPrefixes 6 = .ok (.istore 7, 2) := by decide +kernel
theorem dX7_applyPrefixes_8 : decode cX7_applyPrefixes 8 = .ok (.iload 7, 2) := by decide +kernel
theorem dX7_applyPrefixes_10 : decode cX7_applyPrefixes 10 = .ok (.iload_n 1, 1) := by decide +kernel
theorem dX7_applyPrefixes_11 : decode cX7_applyPrefixes 11 = .ok (.if_icmp .lt 120, 3) := by decide +kernel
theorem dX7_applyPrefixes_14 : decode cX7_applyPrefixes 14 = .ok (.iload 7, 2) := by decide +kernel
theorem dX7_applyPrefixes_16 : decode cX7_applyPrefixes 16 = .ok (.aload_n 0, 1) := by decide +kernel
theorem dX7_applyPrefixes_17 : decode cX7_applyPrefixes 17 = .ok (.getfield 21, 3) := by decide +kernel
theorem dX7_applyPrefixes_20 : decode cX7_applyPrefixes 20 = .ok (.arraylength, 1) := by decide +kernel
theorem dX7_applyPrefixes_21 : decode cX7_applyPrefixes 21 = .ok (.invokestatic 84, 3) := by decide +kernel
theorem dX7_applyPrefixes_24 : decode cX7_applyPrefixes 24 = .ok (.ifCond .eq 107, 3) := by decide +kernel
theorem dX7_applyPrefixes_27 : decode cX7_applyPrefixes 27 = .ok (.aload_n 0, 1) := by decide +kernel
theorem dX7_applyPrefixes_28 : decode cX7_applyPrefixes 28 = .ok (.getfield 31, 3) := by decide +kernel
theorem dX7_applyPrefixes_31 : decode cX7_applyPrefixes 31 = .ok (.ifCond .ne 100, 3) := by decide +kernel
theorem dX7_applyPrefixes_34 : decode cX7_applyPrefixes 34 = .ok (.aload_n 0, 1) := by decide +kernel
theorem dX7_applyPrefixes_35 : decode cX7_applyPrefixes 35 = .ok (.getfield 21, 3) := by decide +kernel
theorem dX7_applyPrefixes_38 : decode cX7_applyPrefixes 38 = .ok (.iload 7, 2) := by decide +kernel
theorem dX7_applyPrefixes_40 : decode cX7_applyPrefixes 40 = .ok (.caload, 1) := by decide +kernel
theorem dX7_applyPrefixes_41 : decode cX7_applyPrefixes 41 = .ok (.istore 8, 2) := by decide +kernel
theorem dX7_applyPrefixes_43 : decode cX7_applyPrefixes 43 = .ok (.iload 8, 2) := by decide +kernel
theorem dX7_applyPrefixes_45 : decode cX7_applyPrefixes 45 = .ok (.bipush 45, 2) := by decide +kernel
theorem dX7_applyPrefixes_47 : decode cX7_applyPrefixes 47 = .ok (.if_icmp .ne 11, 3) := by decide +kernel
theorem dX7_applyPrefixes_50 : decode cX7_applyPrefixes 50 = .ok (.lload 5, 2) := by decide +kernel
theorem dX7_applyPrefixes_52 : decode cX7_applyPrefixes 52 = .ok (.lneg, 1) := by decide +kernel
theorem dX7_applyPrefixes_53 : decode cX7_applyPrefixes 53 = .ok (.lstore 5, 2) := by decide +kernel
theorem dX7_applyPrefixes_55 : decode cX7_applyPrefixes 55 = .ok (.goto 70, 3) := by decide +kernel
theorem dX7_applyPrefixes_58 : decode cX7_applyPrefixes 58 = .ok (.iload 8, 2) := by decide +kernel
theorem dX7_applyPrefixes_60 : decode cX7_applyPrefixes 60 = .ok (.bipush 102, 2) := by decide +kernel
theorem dX7_applyPrefixes_62 : decode cX7_applyPrefixes 62 = .ok (.if_icmp .ne 42, 3) := by decide +kernel
theorem dX7_applyPrefixes_65 : decode cX7_applyPrefixes 65 = .ok (.lload 5, 2) := by decide +kernel
theorem dX7_applyPrefixes_67 : decode cX7_applyPrefixes 67 = .ok (.l2i, 1) := by decide +kernel
theorem dX7_applyPrefixes_68 : decode cX7_applyPrefixes 68 = .ok (.istore 9, 2) := by decide +kernel
theorem dX7_applyPrefixes_70 : decode cX7_applyPrefixes 70 = .ok (.aload_n 0, 1) := by decide +kernel
theorem dX7_applyPrefixes_71 : decode cX7_applyPrefixes 71 = .ok (.iload 9, 2) := by decide +kernel
theorem dX7_applyPrefixes_73 : decode cX7_applyPrefixes 73 = .ok (.iconst 2, 1) := by decide +kernel
theorem dX7_applyPrefixes_74 : decode cX7_applyPrefixes 74 = .ok (.invokestatic 84, 3) := by decide +kernel
theorem dX7_applyPrefixes_77 : decode cX7_applyPrefixes 77 = .ok (.ifCond .ne 7, 3) := by decide +kernel
theorem dX7_applyPrefixes_80 : decode cX7_applyPrefixes 80 = .ok (.iconst 1, 1) := by decide +kernel
theorem dX7_applyPrefixes_81 : decode cX7_applyPrefixes 81 = .ok (.goto 4, 3) := by decide +kernel
theorem dX7_applyPrefixes_84 : decode cX7_applyPrefixes 84 = .ok (.iconst 0, 1) := by decide +kernel
theorem dX7_applyPrefixes_85 : decode cX7_applyPrefixes 85 = .ok (.putfield 31, 3) := by decide +kernel
theorem dX7_applyPrefixes_88 : decode cX7_applyPrefixes 88 = .ok (.aload_n 0, 1) := by decide +kernel
theorem dX7_applyPrefixes_89 : decode cX7_applyPrefixes 89 = .ok (.getfield 9, 3) := by decide +kernel
theorem dX7_applyPrefixes_92 : decode cX7_applyPrefixes 92 = .ok (.iload 9, 2) := by decide +kernel
theorem dX7_applyPrefixes_94 : decode cX7_applyPrefixes 94 = .ok (.iconst 0, 1) := by decide +kernel
theorem dX7_applyPrefixes_95 : decode cX7_applyPrefixes 95 = .ok (.invokevirtual 88, 3) := by decide +kernel
theorem dX7_applyPrefixes_98 : decode cX7_applyPrefixes 98 = .ok (.i2l, 1) := by decide +kernel
theorem dX7_applyPrefixes_99 : decode cX7_applyPrefixes 99 = .ok (.lstore 5, 2) := by decide +kernel
theorem dX7_applyPrefixes_101 : decode cX7_applyPrefixes 101 = .ok (.goto 24, 3) := by decide +kernel
theorem dX7_applyPrefixes_104 : decode cX7_applyPrefixes 104 = .ok (.aload_n 0, 1) := by decide +kernel
theorem dX7_applyPrefixes_105 : decode cX7_applyPrefixes 105 = .ok (.getfield 9, 3) := by decide +kernel
theorem dX7_applyPrefixes_108 : decode cX7_applyPrefixes 108 = .ok (.iload 8, 2) := by decide +kernel
theorem dX7_applyPrefixes_110 : decode cX7_applyPrefixes 110 = .ok (.bipush 48, 2) := by decide +kernel
theorem dX7_applyPrefixes_112 : decode cX7_applyPrefixes 112 = .ok (.isub, 1) := by decide +kernel
theorem dX7_applyPrefixes_113 : decode cX7_applyPrefixes 113 = .ok (.lload 5, 2) := by decide +kernel
theorem dX7_applyPrefixes_115 : decode cX7_applyPrefixes 115 = .ok (.iconst 0, 1) := by decide +kernel
theorem dX7_applyPrefixes_116 : decode cX7_applyPrefixes 116 = .ok (.iconst 0, 1) := by decide +kernel
theorem dX7_applyPrefixes_117 : decode cX7_applyPrefixes 117 = .ok (.invokevirtual 92, 3) := by decide +kernel
theorem dX7_applyPrefixes_120 : decode cX7_applyPrefixes 120 = .ok (.lstore 5, 2) := by decide +kernel
theorem dX7_applyPrefixes_122 : decode cX7_applyPrefixes 122 = .ok (.iinc 7 (-1), 3) := by decide +kernel
theorem dX7_applyPrefixes_125 : decode cX7_applyPrefixes 125 = .ok (.iinc 7 (-1), 3) := by decide +kernel
theorem dX7_applyPrefixes_128 : decode cX7_applyPrefixes 128 = .ok (.goto (-120), 3) := by decide +kernel
theorem dX7_applyPrefixes_131 : decode cX7_applyPrefixes 131 = .ok (.lload 5, 2) := by decide +kernel
theorem dX7_applyPrefixes_133 : decode cX7_applyPrefixes 133 = .ok (.lreturn, 1) := by decide +kernel
theorem dX8_init_0 : decode cX8_init 0 = .ok (.aload_n 0, 1) := by decide +kernel
theorem dX8_init_1 : decode cX8_init 1 = .ok (.invokespecial 3, 3) := by decide +kernel
theorem dX8_init_4 : decode cX8_init 4 = .ok (.aload_n 0, 1) := by decide +kernel
theorem dX8_init_5 : decode cX8_init 5 = .ok (.new 9, 3) := by decide +kernel
theorem dX8_init_8 : decode cX8_init 8 = .ok (.dup, 1) := by decide +kernel
theorem dX8_init_9 : decode cX8_init 9 = .ok (.invokespecial 11, 3) := by decide +kernel
theorem dX8_init_12 : decode cX8_init 12 = .ok (.putfield 12, 3) := by decide +kernel
theorem dX8_init_15 : decode cX8_init 15 = .ok (.aload_n 0, 1) := by decide +kernel
theorem dX8_init_16 : decode cX8_init 16 = .ok (.new 16, 3) := by decide +kernel
theorem dX8_init_19 : decode cX8_init 19 = .ok (.dup, 1) := by decide +kernel
theorem dX8_init_20 : decode cX8_init 20 = .ok (.invokespecial 18, 3) := by decide +kernel
theorem dX8_init_23 : decode cX8_init 23 = .ok (.putfield 19, 3) := by decide +kernel
theorem dX8_init_26 : decode cX8_init 26 = .ok (.aload_n 0, 1) := by decide +kernel
theorem dX8_init_27 : decode cX8_init 27 = .ok (.new 23, 3) := by decide +kernel
theorem dX8_init_30 : decode cX8_init 30 = .ok (.dup, 1) := by decide +kernel
theorem dX8_init_31 : decode cX8_init 31 = .ok (.aload_n 0, 1) := by decide +kernel
theorem dX8_init_32 : decode cX8_init 32 = .ok (.getfield 12, 3) := by decide +kernel
theorem dX8_init_35 : decode cX8_init 35 = .ok (.invokespecial 25, 3) := by decide +kernel
theorem dX8_init_38 : decode cX8_init 38 = .ok (.putfield 28, 3) := by decide +kernel
theorem dX8_init_41 : decode cX8_init 41 = .ok (.aload_n 0, 1) := by decide +kernel
theorem dX8_init_42 : decode cX8_init 42 = .ok (.new 32, 3) := by decide +kernel
theorem dX8_init_45 : decode cX8_init 45 = .ok (.dup, 1) := by decide +kernel
theorem dX8_init_46 : decode cX8_init 46 = .ok (.aload_n 0, 1) := by decide +kernel
theorem dX8_init_47 : decode cX8_init 47 = .ok (.getfield 12, 3) := by decide +kernel
theorem dX8_init_50 : decode cX8_init 50 = .ok (.invokespecial 34, 3) := by decide +kernel
theorem dX8_init_53 : decode cX8_init 53 = .ok (.putfield 35, 3) := by decide +kernel
theorem dX8_init_56 : decode cX8_init 56 = .ok (.aload_n 0, 1) := by decide +kernel
theorem dX8_init_57 : decode cX8_init 57 = .ok (.new 39, 3) := by decide +kernel
theorem dX8_init_60 : decode cX8_init 60 = .ok (.dup, 1) := by decide +kernel
theorem dX8_init_61 : decode cX8_init 61 = .ok (.invokespecial 41, 3) := by decide +kernel
theorem dX8_init_64 : decode cX8_init 64 = .ok (.putfield 42, 3) := by decide +kernel
theorem dX8_init_67 : decode cX8_init 67 = .ok (.aload_n 0, 1) := by decide +kernel
theorem dX8_init_68 : decode cX8_init 68 = .ok (.new 46, 3) := by decide +kernel
theorem dX8_init_71 : decode cX8_init 71 = .ok (.dup, 1) := by decide +kernel
theorem dX8_init_72 : decode cX8_init 72 = .ok (.aload_n 0, 1) := by decide +kernel
theorem dX8_init_73 : decode cX8_init 73 = .ok (.getfield 12, 3) := by decide +kernel
theorem dX8_init_76 : decode cX8_init 76 = .ok (.aload_n 0, 1) := by decide +kernel
theorem dX8_init_77 : decode cX8_init 77 = .ok (.getfield 28, 3) := by decide +kernel
theorem dX8_init_80 : decode cX8_init 80 = .ok (.invokespecial 48, 3) := by decide +kernel
theorem dX8_init_83 : decode cX8_init 83 = .ok (.putfield 51, 3) := by decide +kernel
theorem dX8_init_86 : decode cX8_init 86 = .ok (.aload_n 0, 1) := by decide +kernel
theorem dX8_init_87 : decode cX8_init 87 = .ok (.aconst_null, 1) := by decide +kernel
theorem dX8_init_88 : decode cX8_init 88 = .ok (.putfield 55, 3) := by decide +kernel
theorem dX8_init_91 : decode cX8_init 91 = .ok (.aload_n 0, 1) := by decide +kernel
theorem dX8_init_92 : decode cX8_init 92 = .ok (.iconst 4, 1) := by decide +kernel
theorem dX8_init_93 : decode cX8_init 93 = .ok (.anewarray 59, 3) := by decide +kernel
theorem dX8_init_96 : decode cX8_init 96 = .ok (.putfield 61, 3) := by decide +kernel
theorem dX8_init_99 : decode cX8_init 99 = .ok (.aload_n 0, 1) := by decide +kernel
theorem dX8_init_100 : decode cX8_init 100 = .ok (.iconst 4, 1) := by decide +kernel
theorem dX8_init_101 : decode cX8_init 101 = .ok (.newarray .long, 2) := by decide +kernel
theorem dX8_init_103 : decode cX8_init 103 = .ok (.putfield 65, 3) := by decide +kernel
theorem dX8_init_106 : decode cX8_init 106 = .ok (.aload_n 0, 1) := by decide +kernel
theorem dX8_init_107 : decode cX8_init 107 = .ok (.iconst 0, 1) := by decide +kernel
theorem dX8_init_108 : decode cX8_init 108 = .ok (.putfield 69, 3) := by decide +kernel
theorem dX8_init_111 : decode cX8_init 111 = .ok (.aload_n 0, 1) := by decide +kernel
theorem dX8_init_112 : decode cX8_init 112 = .ok (.bipush 11, 2) := by decide +kernel
theorem dX8_init_114 : decode cX8_init 114 = .ok (.newarray .long, 2) := by decide +kernel
theorem dX8_init_116 : decode cX8_init 116 = .ok (.putfield 73, 3) := by decide +kernel
theorem dX8_init_119 : decode cX8_init 119 = .ok (.aload_n 0, 1) := by decide +kernel
theorem dX8_init_120 : decode cX8_init 120 = .ok (.bipush 100, 2) := by decide +kernel
theorem dX8_init_122 : decode cX8_init 122 = .ok (.newarray .int, 2) := by decide +kernel
theorem dX8_init_124 : decode cX8_init 124 = .ok (.putfield 76, 3) := by decide +kernel
theorem dX8_init_127 : decode cX8_init 127 = .ok (.return_, 1) := by decide +kernel
theorem dX8_unit_0 : decode cX8_unit 0 = .ok (.iload_n 1, 1) := by decide +kernel
theorem dX8_unit_1 : decode cX8_unit 1 = .ok (.bipush 33, 2) := by decide +kernel
theorem dX8_unit_3 : decode cX8_unit 3 = .ok (.if_icmp .lt 25, 3) := by decide +kernel
theorem dX8_unit_6 : decode cX8_unit 6 = .ok (.iload_n 1, 1) := by decide +kernel
theorem dX8_unit_7 : decode cX8_unit 7 = .ok (.bipush 126, 2) := by decide +kernel
theorem dX8_unit_9 : decode cX8_unit 9 = .ok (.if_icmp .gt 19, 3) := by decide +kernel
theorem dX8_unit_12 : decode cX8_unit 12 = .ok (.aload_n 0, 1) := by decide +kernel
theorem dX8_unit_13 : decode cX8_unit 13 = .ok (.getfield 19, 3) := by decide +kernel
theorem dX8_unit_16 : decode cX8_unit 16 = .ok (.iload_n 1, 1) := by decide +kernel
theorem dX8_unit_17 : decode cX8_unit 17 = .ok (.i2c, 1) := by decide +kernel
theorem dX8_unit_18 : decode cX8_unit 18 = .ok (.invokevirtual 80, 3) := by decide +kernel
theorem dX8_unit_21 : decode cX8_unit 21 = .ok (.ifCond .eq 7, 3) := by decide +kernel
theorem dX8_unit_24 : decode cX8_unit 24 = .ok (.iconst 1, 1) := by decide +kernel
theorem dX8_unit_25 : decode cX8_unit 25 = .ok (.goto 4, 3) := by decide +kernel
theorem dX8_unit_28 : decode cX8_unit 28 = .ok (.iconst 0, 1) := by decide +kernel
theorem dX8_unit_29 : decode cX8_unit 29 = .ok (.ireturn, 1) := by decide +kernel
theorem dX8_read_0 : decode cX8_read 0 = .ok (.aload_n 0, 1) := by decide +kernel
theorem dX8_read_1 : decode cX8_read 1 = .ok (.getfield 19, 3) := by decide +kernel
theorem dX8_read_4 : decode cX8_read 4 = .ok (.invokevirtual 84, 3) := by decide +kernel
theorem dX8_read_7 : decode cX8_read 7 = .ok (.astore_n 1, 1) := by decide +kernel
theorem dX8_read_8 : decode cX8_read 8 = .ok (.aload_n 1, 1) := by decide +kernel
theorem dX8_read_9 : decode cX8_read 9 = .ok (.ifnonnull 15, 3) := by decide +kernel
theorem dX8_read_12 : decode cX8_read 12 = .ok (.iconst (-1), 1) := by decide +kernel
theorem dX8_read_13 : decode cX8_read 13 = .ok (.aload_n 0, 1) := by decide +kernel
theorem dX8_read_14 : decode cX8_read 14 = .ok (.getfield 19, 3) := by decide +kernel
theorem dX8_read_17 : decode cX8_read 17 = .ok (.getfield 88, 3) := by decide +kernel
theorem dX8_read_20 : decode cX8_read 20 = .ok (.isub, 1) := by decide +kernel
theorem dX8_read_21 : decode cX8_read 21 = .ok (.goto 7, 3) := by decide +kernel
theorem dX8_read_24 : decode cX8_read 24 = .ok (.aload_n 1, 1) := by decide +kernel
theorem dX8_read_25 : decode cX8_read 25 = .ok (.getfield 91, 3) := by decide +kernel
theorem dX8_read_28 : decode cX8_read 28 = .ok (.istore_n 2, 1) := by decide +kernel
theorem dX8_read_29 : decode cX8_read 29 = .ok (.aload_n 0, 1) := by decide +kernel
theorem dX8_read_30 : decode cX8_read 30 = .ok (.getfield 19, 3) := by decide +kernel
theorem dX8_read_33 : decode cX8_read 33 = .ok (.iconst 0, 1) := by decide +kernel
theorem dX8_read_34 : decode cX8_read 34 = .ok (.putfield 94, 3) := by decide +kernel
theorem dX8_read_37 : decode cX8_read 37 = .ok (.aload_n 1, 1) := by decide +kernel
theorem dX8_read_38 : decode cX8_read 38 = .ok (.ifnull 8, 3) := by decide +kernel
theorem dX8_read_41 : decode cX8_read 41 = .ok (.aload_n 0, 1) := by decide +kernel
theorem dX8_read_42 : decode cX8_read 42 = .ok (.aload_n 1, 1) := by decide +kernel
theorem dX8_read_43 : decode cX8_read 43 = .ok (.putfield 55, 3) := by decide +kernel
theorem dX8_read_46 : decode cX8_read 46 = .ok (.iload_n 2, 1) := by decide +kernel
theorem dX8_read_47 : decode cX8_read 47 = .ok (.ireturn, 1) := by decide +kernel
theorem dX8_write_0 : decode cX8_write 0 = .ok (.aload_n 0, 1) := by decide +kernel
theorem dX8_write_1 : decode cX8_write 1 = .ok (.getfield 55, 3) := by decide +kernel
theorem dX8_write_4 : decode cX8_write 4 = .ok (.astore_n 2, 1) := by decide +kernel
theorem dX8_write_5 : decode cX8_write 5 = .ok (.aload_n 2, 1) := by decide +kernel
theorem dX8_write_6 : decode cX8_write 6 = .ok (.ifnonnull 13, 3) := by decide +kernel
theorem dX8_write_9 : decode cX8_write 9 = .ok (.new 97, 3) := by decide +kernel
theorem dX8_write_12 : decode cX8_write 12 = .ok (.dup, 1) := by decide +kernel
theorem dX8_write_13 : decode cX8_write 13 = .ok (.ldc 99, 2) := by decide +kernel
theorem dX8_write_15 : decode cX8_write 15 = .ok (.invokespecial 101, 3) := by decide +kernel
theorem dX8_write_18 : decode cX8_write 18 = .ok (.athrow, 1) := by decide +kernel
theorem dX8_write_19 : decode cX8_write 19 = .ok (.iload_n 1, 1) := by decide +kernel
theorem dX8_write_20 : decode cX8_write 20 = .ok (.ifCond .ge 13, 3) := by decide +kernel
theorem dX8_write_23 : decode cX8_write 23 = .ok (.new 104, 3) := by decide +kernel
theorem dX8_write_26 : decode cX8_write 26 = .ok (.dup, 1) := by decide +kernel
theorem dX8_write_27 : decode cX8_write 27 = .ok (.ldc 106, 2) := by decide +kernel
theorem dX8_write_29 : decode cX8_write 29 = .ok (.invokespecial 108, 3) := by decide +kernel
theorem dX8_write_32 : decode cX8_write 32 = .ok (.athrow, 1) := by decide +kernel
theorem dX8_write_33 : decode cX8_write 33 = .ok (.iload_n 1, 1) := by decide +kernel
theorem dX8_write_34 : decode cX8_write 34 = .ok (.aload_n 2, 1) := by decide +kernel
theorem dX8_write_35 : decode cX8_write 35 = .ok (.getfield 109, 3) := by decide +kernel
theorem dX8_write_38 : decode cX8_write 38 = .ok (.arraylength, 1) := by decide +kernel
theorem dX8_write_39 : decode cX8_write 39 = .ok (.if_icmp .ge 12, 3) := by decide +kernel
theorem dX8_write_42 : decode cX8_write 42 = .ok (.aload_n 2, 1) := by decide +kernel
theorem dX8_write_43 : decode cX8_write 43 = .ok (.getfield 109, 3) := by decide +kernel
theorem dX8_write_46 : decode cX8_write 46 = .ok (.iload_n 1, 1) := by decide +kernel
theorem dX8_write_47 : decode cX8_write 47 = .ok (.caload, 1) := by decide +kernel
theorem dX8_write_48 : decode cX8_write 48 = .ok (.goto 4, 3) := by decide +kernel
theorem dX8_write_51 : decode cX8_write 51 = .ok (.iconst (-1), 1) := by decide +kernel
theorem dX8_write_52 : decode cX8_write 52 = .ok (.ireturn, 1) := by decide +kernel
theorem dX8_edition_0 : decode cX8_edition 0 = .ok (.aload_n 0, 1) := by decide +kernel
theorem dX8_edition_1 : decode cX8_edition 1 = .ok (.getfield 55, 3) := by decide +kernel
theorem dX8_edition_4 : decode cX8_edition 4 = .ok (.ifnonnull 13, 3) := by decide +kernel
theorem dX8_edition_7 : decode cX8_edition 7 = .ok (.new 97, 3) := by decide +kernel
theorem dX8_edition_10 : decode cX8_edition 10 = .ok (.dup, 1) := by decide +kernel
theorem dX8_edition_11 : decode cX8_edition 11 = .ok (.ldc 99, 2) := by decide +kernel
theorem dX8_edition_13 : decode cX8_edition 13 = .ok (.invokespecial 101, 3) := by decide +kernel
theorem dX8_edition_16 : decode cX8_edition 16 = .ok (.athrow, 1) := by decide +kernel
theorem dX8_edition_17 : decode cX8_edition 17 = .ok (.aload_n 0, 1) := by decide +kernel
theorem dX8_edition_18 : decode cX8_edition 18 = .ok (.getfield 69, 3) := by decide +kernel
theorem dX8_edition_21 : decode cX8_edition 21 = .ok (.istore_n 3, 1) := by decide +kernel
theorem dX8_edition_22 : decode cX8_edition 22 = .ok (.iload_n 3, 1) := by decide +kernel
theorem dX8_edition_23 : decode cX8_edition 23 = .ok (.ifCond .lt 8, 3) := by decide +kernel
theorem dX8_edition_26 : decode cX8_edition 26 = .ok (.iload_n 3, 1) := by decide +kernel
theorem dX8_edition_27 : decode cX8_edition 27 = .ok (.iconst 4, 1) := by decide +kernel
theorem dX8_edition_28 : decode cX8_edition 28 = .ok (.if_icmp .lt 13, 3) := by decide +kernel
theorem dX8_edition_31 : decode cX8_edition 31 = .ok (.new 97, 3) := by decide +kernel
theorem dX8_edition_34 : decode cX8_edition 34 = .ok (.dup, 1) := by decide +kernel
theorem dX8_edition_35 : decode cX8_edition 35 = .ok (.ldc 113, 2) := by decide +kernel
theorem dX8_edition_37 : decode cX8_edition 37 = .ok (.invokespecial 101, 3) := by decide +kernel
theorem dX8_edition_40 : decode cX8_edition 40 = .ok (.athrow, 1) := by decide +kernel
theorem dX8_edition_41 : decode cX8_edition 41 = .ok (.lload_n 1, 1) := by decide +kernel
theorem dX8_edition_42 : decode cX8_edition 42 = .ok (.lconst 0, 1) := by decide +kernel
theorem dX8_edition_43 : decode cX8_edition 43 = .ok (.lcmp, 1) := by decide +kernel
theorem dX8_edition_44 : decode cX8_edition 44 = .ok (.ifCond .lt 20, 3) := by decide +kernel
theorem dX8_edition_47 : decode cX8_edition 47 = .ok (.iload_n 3, 1) := by decide +kernel
theorem dX8_edition_48 : decode cX8_edition 48 = .ok (.ifCond .le 26, 3) := by decide +kernel
theorem dX8_edition_51 : decode cX8_edition 51 = .ok (.lload_n 1, 1) := by decide +kernel
theorem dX8_edition_52 : decode cX8_edition 52 = .ok (.aload_n 0, 1) := by decide +kernel
theorem dX8_edition_53 : decode cX8_edition 53 = .ok (.getfield 65, 3) := by decide +kernel
theorem dX8_edition_56 : decode cX8_edition 56 = .ok (.iload_n 3, 1) := by decide +kernel
theorem dX8_edition_57 : decode cX8_edition 57 = .ok (.iconst 1, 1) := by decide +kernel
theorem dX8_edition_58 : decode cX8_edition 58 = .ok (.isub, 1) := by decide +kernel
theorem dX8_edition_59 : decode cX8_edition 59 = .ok (.laload, 1) := by decide +kernel
theorem dX8_edition_60 : decode cX8_edition 60 = .ok (.lcmp, 1) := by decide +kernel
theorem dX8_edition_61 : decode cX8_edition 61 = .ok (.ifCond .gt 13, 3) := by decide +kernel
theorem dX8_edition_64 : decode cX8_edition 64 = .ok (.new 104, 3) := by decide +kernel
theorem dX8_edition_67 : decode cX8_edition 67 = .ok (.dup, 1) := by decide +kernel
theorem dX8_edition_68 : decode cX8_edition 68 = .ok (.ldc 115, 2) := by decide +kernel
theorem dX8_edition_70 : decode cX8_edition 70 = .ok (.invokespecial 108, 3) := by decide +kernel
theorem dX8_edition_73 : decode cX8_edition 73 = .ok (.athrow, 1) := by decide +kernel
theorem dX8_edition_74 : decode cX8_edition 74 = .ok (.aload_n 0, 1) := by decide +kernel
theorem dX8_edition_75 : decode cX8_edition 75 = .ok (.getfield 61, 3) := by decide +kernel
theorem dX8_edition_78 : decode cX8_edition 78 = .ok (.iload_n 3, 1) := by decide +kernel
theorem dX8_edition_79 : decode cX8_edition 79 = .ok (.aload_n 0, 1) := by decide +kernel
theorem dX8_edition_80 : decode cX8_edition 80 = .ok (.getfield 55, 3) := by decide +kernel
theorem dX8_edition_83 : decode cX8_edition 83 = .ok (.aastore, 1) := by decide +kernel
theorem dX8_edition_84 : decode cX8_edition 84 = .ok (.aload_n 0, 1) := by decide +kernel
theorem dX8_edition_85 : decode cX8_edition 85 = .ok (.getfield 65, 3) := by decide +kernel
theorem dX8_edition_88 : decode cX8_edition 88 = .ok (.iload_n 3, 1) := by decide +kernel
theorem dX8_edition_89 : decode cX8_edition 89 = .ok (.lload_n 1, 1) := by decide +kernel
theorem dX8_edition_90 : decode cX8_edition 90 = .ok (.lastore, 1) := by decide +kernel
theorem dX8_edition_91 : decode cX8_edition 91 = .ok (.aload_n 0, 1) := by decide +kernel
theorem dX8_edition_92 : decode cX8_edition 92 = .ok (.iload_n 3, 1) := by decide +kernel
theorem dX8_edition_93 : decode cX8_edition 93 = .ok (.iconst 1, 1) := by decide +kernel
theorem dX8_edition_94 : decode cX8_edition 94 = .ok (.iadd, 1) := by decide +kernel
theorem dX8_edition_95 : decode cX8_edition 95 = .ok (.putfield 69, 3) := by decide +kernel
theorem dX8_edition_98 : decode cX8_edition 98 = .ok (.aload_n 0, 1) := by decide +kernel
theorem dX8_edition_99 : decode cX8_edition 99 = .ok (.getfield 69, 3) := by decide +kernel
theorem dX8_edition_102 : decode cX8_edition 102 = .ok (.ireturn, 1) := by decide +kernel
theorem dX8_board_0 : decode cX8_board 0 = .ok (.iload_n 1, 1) := by decide +kernel
theorem dX8_board_1 : decode cX8_board 1 = .ok (.invokestatic 117, 3) := by decide +kernel
theorem dX8_board_4 : decode cX8_board 4 = .ok (.ifCond .eq 17, 3) := by decide +kernel
theorem dX8_board_7 : decode cX8_board 7 = .ok (.iload_n 2, 1) := by decide +kernel
theorem dX8_board_8 : decode cX8_board 8 = .ok (.invokestatic 117, 3) := by decide +kernel
theorem dX8_board_11 : decode cX8_board 11 = .ok (.ifCond .eq 10, 3) := by decide +kernel
theorem dX8_board_14 : decode cX8_board 14 = .ok (.iload_n 3, 1) := by decide +kernel
theorem dX8_board_15 : decode cX8_board 15 = .ok (.invokestatic 117, 3) := by decide +kernel
theorem dX8_board_18 : decode cX8_board 18 = .ok (.ifCond .ne 13, 3) := by decide +kernel
theorem dX8_board_21 : decode cX8_board 21 = .ok (.new 104, 3) := by decide +kernel
theorem dX8_board_24 : decode cX8_board 24 = .ok (.dup, 1) := by decide +kernel
theorem dX8_board_25 : decode cX8_board 25 = .ok (.ldc 121, 2) := by decide +kernel
theorem dX8_board_27 : decode cX8_board 27 = .ok (.invokespecial 108, 3) := by decide +kernel
theorem dX8_board_30 : decode cX8_board 30 = .ok (.athrow, 1) := by decide +kernel
theorem dX8_board_31 : decode cX8_board 31 = .ok (.aload_n 0, 1) := by decide +kernel
theorem dX8_board_32 : decode cX8_board 32 = .ok (.getfield 12, 3) := by decide +kernel
theorem dX8_board_35 : decode cX8_board 35 = .ok (.iload_n 1, 1) := by decide +kernel
theorem dX8_board_36 : decode cX8_board 36 = .ok (.iload_n 2, 1) := by decide +kernel
theorem dX8_board_37 : decode cX8_board 37 = .ok (.iload_n 3, 1) := by decide +kernel
theorem dX8_board_38 : decode cX8_board 38 = .ok (.invokevirtual 123, 3) := by decide +kernel
theorem dX8_board_41 : decode cX8_board 41 = .ok (.return_, 1) := by decide +kernel
theorem dX8_fault_0 : decode cX8_fault 0 = .ok (.iload_n 1, 1) := by decide +kernel
theorem dX8_fault_1 : decode cX8_fault 1 = .ok (.iconst 2, 1) := by decide +kernel
theorem dX8_fault_2 : decode cX8_fault 2 = .ok (.invokestatic 127, 3) := by decide +kernel
theorem dX8_fault_5 : decode cX8_fault 5 = .ok (.ifCond .ne 13, 3) := by decide +kernel
theorem dX8_fault_8 : decode cX8_fault 8 = .ok (.new 131, 3) := by decide +kernel
theorem dX8_fault_11 : decode cX8_fault 11 = .ok (.dup, 1) := by decide +kernel
theorem dX8_fault_12 : decode cX8_fault 12 = .ok (.ldc 133, 2) := by decide +kernel
theorem dX8_fault_14 : decode cX8_fault 14 = .ok (.invokespecial 135, 3) := by decide +kernel
theorem dX8_fault_17 : decode cX8_fault 17 = .ok (.athrow, 1) := by decide +kernel
theorem dX8_fault_18 : decode cX8_fault 18 = .ok (.aload_n 0, 1) := by decide +kernel
theorem dX8_fault_19 : decode cX8_fault 19 = .ok (.getfield 12, 3) := by decide +kernel
theorem dX8_fault_22 : decode cX8_fault 22 = .ok (.getfield 136, 3) := by decide +kernel
theorem dX8_fault_25 : decode cX8_fault 25 = .ok (.bipush 10, 2) := by decide +kernel
theorem dX8_fault_27 : decode cX8_fault 27 = .ok (.if_icmp .lt 13, 3) := by decide +kernel
theorem dX8_fault_30 : decode cX8_fault 30 = .ok (.new 97, 3) := by decide +kernel
theorem dX8_fault_33 : decode cX8_fault 33 = .ok (.dup, 1) := by decide +kernel
theorem dX8_fault_34 : decode cX8_fault 34 = .ok (.ldc 137, 2) := by decide +kernel
theorem dX8_fault_36 : decode cX8_fault 36 = .ok (.invokespecial 101, 3) := by decide +kernel
theorem dX8_fault_39 : decode cX8_fault 39 = .ok (.athrow, 1) := by decide +kernel
theorem dX8_fault_40 : decode cX8_fault 40 = .ok (.iload_n 2, 1) := by decide +kernel
theorem dX8_fault_41 : decode cX8_fault 41 = .ok (.bipush 8, 2) := by decide +kernel
theorem dX8_fault_43 : decode cX8_fault 43 = .ok (.invokestatic 127, 3) := by decide +kernel
theorem dX8_fault_46 : decode cX8_fault 46 = .ok (.ifCond .eq 34, 3) := by decide +kernel
theorem dX8_fault_49 : decode cX8_fault 49 = .ok (.iload_n 3, 1) := by decide +kernel
theorem dX8_fault_50 : decode cX8_fault 50 = .ok (.invokestatic 117, 3) := by decide +kernel
theorem dX8_fault_53 : decode cX8_fault 53 = .ok (.ifCond .eq 27, 3) := by decide +kernel
theorem dX8_fault_56 : decode cX8_fault 56 = .ok (.iload 4, 2) := by decide +kernel
theorem dX8_fault_58 : decode cX8_fault 58 = .ok (.invokestatic 117, 3) := by decide +kernel
theorem dX8_fault_61 : decode cX8_fault 61 = .ok (.ifCond .eq 19, 3) := by decide +kernel
theorem dX8_fault_64 : decode cX8_fault 64 = .ok (.iload 5, 2) := by decide +kernel
theorem dX8_fault_66 : decode cX8_fault 66 = .ok (.invokestatic 117, 3) := by decide +kernel
theorem dX8_fault_69 : decode cX8_fault 69 = .ok (.ifCond .eq 11, 3) := by decide +kernel
theorem dX8_fault_72 : decode cX8_fault 72 = .ok (.iload 6, 2) := by decide +kernel
theorem dX8_fault_74 : decode cX8_fault 74 = .ok (.invokestatic 117, 3) := by decide +kernel
theorem dX8_fault_77 : decode cX8_fault 77 = .ok (.ifCond .ne 13, 3) := by decide +kernel
theorem dX8_fault_80 : decode cX8_fault 80 = .ok (.new 104, 3) := by decide +kernel
theorem dX8_fault_83 : decode cX8_fault 83 = .ok (.dup, 1) := by decide +kernel
theorem dX8_fault_84 : decode cX8_fault 84 = .ok (.ldc 139, 2) := by decide +kernel
theorem dX8_fault_86 : decode cX8_fault 86 = .ok (.invokespecial 108, 3) := by decide +kernel
theorem dX8_fault_89 : decode cX8_fault 89 = .ok (.athrow, 1) := by decide +kernel
theorem dX8_fault_90 : decode cX8_fault 90 = .ok (.aload_n 0, 1) := by decide +kernel
theorem dX8_fault_91 : decode cX8_fault 91 = .ok (.getfield 12, 3) := by decide +kernel
theorem dX8_fault_94 : decode cX8_fault 94 = .ok (.iload_n 1, 1) := by decide +kernel
theorem dX8_fault_95 : decode cX8_fault 95 = .ok (.iload_n 2, 1) := by decide +kernel
theorem dX8_fault_96 : decode cX8_fault 96 = .ok (.iload_n 3, 1) := by decide +kernel
theorem dX8_fault_97 : decode cX8_fault 97 = .ok (.iload 4, 2) := by decide +kernel
theorem dX8_fault_99 : decode cX8_fault 99 = .ok (.iload 5, 2) := by decide +kernel
theorem dX8_fault_101 : decode cX8_fault 101 = .ok (.iload 6, 2) := by decide +kernel
theorem dX8_fault_103 : decode cX8_fault 103 = .ok (.invokevirtual 141, 3) := by decide +kernel
theorem dX8_fault_106 : decode cX8_fault 106 = .ok (.aload_n 0, 1) := by decide +kernel
theorem dX8_fault_107 : decode cX8_fault 107 = .ok (.getfield 12, 3) := by decide +kernel
theorem dX8_fault_110 : decode cX8_fault 110 = .ok (.getfield 136, 3) := by decide +kernel
theorem dX8_fault_113 : decode cX8_fault 113 = .ok (.ireturn, 1) := by decide +kernel
theorem dX8_clearFaults_0 : decode cX8_clearFaults 0 = .ok (.aload_n 0, 1) := by decide +kernel
theorem dX8_clearFaults_1 : decode cX8_clearFaults 1 = .ok (.getfield 12, 3) := by decide +kernel
theorem dX8_clearFaults_4 : decode cX8_clearFaults 4 = .ok (.invokevirtual 144, 3) := by decide +kernel
theorem dX8_clearFaults_7 : decode cX8_clearFaults 7 = .ok (.return_, 1) := by decide +kernel
theorem dX8_face_0 : decode cX8_face 0 = .ok (.iload_n 1, 1) := by decide +kernel
theorem dX8_face_1 : decode cX8_face 1 = .ok (.iconst 2, 1) := by decide +kernel
theorem dX8_face_2 : decode cX8_face 2 = .ok (.invokestatic 127, 3) := by decide +kernel
theorem dX8_face_5 : decode cX8_face 5 = .ok (.ifCond .ne 13, 3) := by decide +kernel
theorem dX8_face_8 : decode cX8_face 8 = .ok (.new 131, 3) := by decide +kernel
theorem dX8_face_11 : decode cX8_face 11 = .ok (.dup, 1) := by decide +kernel
theorem dX8_face_12 : decode cX8_face 12 = .ok (.ldc 133, 2) := by decide +kernel
theorem dX8_face_14 : decode cX8_face 14 = .ok (.invokespecial 135, 3) := by decide +kernel
theorem dX8_face_17 : decode cX8_face 17 = .ok (.athrow, 1) := by decide +kernel
theorem dX8_face_18 : decode cX8_face 18 = .ok (.aload_n 0, 1) := by decide +kernel
theorem dX8_face_19 : decode cX8_face 19 = .ok (.getfield 12, 3) := by decide +kernel
theorem dX8_face_22 : decode cX8_face 22 = .ok (.iload_n 1, 1) := by decide +kernel
theorem dX8_face_23 : decode cX8_face 23 = .ok (.iconst 0, 1) := by decide +kernel
theorem dX8_face_24 : decode cX8_face 24 = .ok (.invokevirtual 147, 3) := by decide +kernel
theorem dX8_face_27 : decode cX8_face 27 = .ok (.ireturn, 1) := by decide +kernel
theorem dX8_run_0 : decode cX8_run 0 = .ok (.aload_n 0, 1) := by decide +kernel
theorem dX8_run_1 : decode cX8_run 1 = .ok (.lload_n 1, 1) := by decide +kernel
theorem dX8_run_2 : decode cX8_run 2 = .ok (.invokevirtual 151, 3) := by decide +kernel
theorem dX8_run_5 : decode cX8_run 5 = .ok (.astore_n 3, 1) := by decide +kernel
theorem dX8_run_6 : decode cX8_run 6 = .ok (.aload_n 3, 1) := by decide +kernel
theorem dX8_run_7 : decode cX8_run 7 = .ok (.ifnonnull 13, 3) := by decide +kernel
theorem dX8_run_10 : decode cX8_run 10 = .ok (.new 97, 3) := by decide +kernel
theorem dX8_run_13 : decode cX8_run 13 = .ok (.dup, 1) := by decide +kernel
theorem dX8_run_14 : decode cX8_run 14 = .ok (.ldc 99, 2) := by decide +kernel
theorem dX8_run_16 : decode cX8_run 16 = .ok (.invokespecial 101, 3) := by decide +kernel
theorem dX8_run_19 : decode cX8_run 19 = .ok (.athrow, 1) := by decide +kernel
theorem dX8_run_20 : decode cX8_run 20 = .ok (.aload_n 0, 1) := by decide +kernel
theorem dX8_run_21 : decode cX8_run 21 = .ok (.getfield 42, 3) := by decide +kernel
theorem dX8_run_24 : decode cX8_run 24 = .ok (.aload_n 3, 1) := by decide +kernel
theorem dX8_run_25 : decode cX8_run 25 = .ok (.aload_n 0, 1) := by decide +kernel
theorem dX8_run_26 : decode cX8_run 26 = .ok (.getfield 28, 3) := by decide +kernel
theorem dX8_run_29 : decode cX8_run 29 = .ok (.invokevirtual 155, 3) := by decide +kernel
theorem dX8_run_32 : decode cX8_run 32 = .ok (.istore 4, 2) := by decide +kernel
theorem dX8_run_34 : decode cX8_run 34 = .ok (.iload 4, 2) := by decide +kernel
theorem dX8_run_36 : decode cX8_run 36 = .ok (.iconst 1, 1) := by decide +kernel
theorem dX8_run_37 : decode cX8_run 37 = .ok (.iadd, 1) := by decide +kernel
theorem dX8_run_38 : decode cX8_run 38 = .ok (.aload_n 0, 1) := by decide +kernel
theorem dX8_run_39 : decode cX8_run 39 = .ok (.getfield 73, 3) := by decide +kernel
theorem dX8_run_42 : decode cX8_run 42 = .ok (.arraylength, 1) := by decide +kernel
theorem dX8_run_43 : decode cX8_run 43 = .ok (.invokestatic 127, 3) := by decide +kernel
theorem dX8_run_46 : decode cX8_run 46 = .ok (.ifCond .eq 16, 3) := by decide +kernel
theorem dX8_run_49 : decode cX8_run 49 = .ok (.aload_n 0, 1) := by decide +kernel
theorem dX8_run_50 : decode cX8_run 50 = .ok (.getfield 73, 3) := by decide +kernel
theorem dX8_run_53 : decode cX8_run 53 = .ok (.iload 4, 2) := by decide +kernel
theorem dX8_run_55 : decode cX8_run 55 = .ok (.iconst 1, 1) := by decide +kernel
theorem dX8_run_56 : decode cX8_run 56 = .ok (.iadd, 1) := by decide +kernel
theorem dX8_run_57 : decode cX8_run 57 = .ok (.dup2, 1) := by decide +kernel
theorem dX8_run_58 : decode cX8_run 58 = .ok (.laload, 1) := by decide +kernel
theorem dX8_run_59 : decode cX8_run 59 = .ok (.lconst 1, 1) := by decide +kernel
theorem dX8_run_60 : decode cX8_run 60 = .ok (.ladd, 1) := by decide +kernel
theorem dX8_run_61 : decode cX8_run 61 = .ok (.lastore, 1) := by decide +kernel
theorem dX8_run_62 : decode cX8_run 62 = .ok (.iload 4, 2) := by decide +kernel
theorem dX8_run_64 : decode cX8_run 64 = .ok (.ireturn, 1) := by decide +kernel
theorem dX8_walk_0 : decode cX8_walk 0 = .ok (.aload_n 0, 1) := by decide +kernel
theorem dX8_walk_1 : decode cX8_walk 1 = .ok (.lload_n 1, 1) := by decide +kernel
theorem dX8_walk_2 : decode cX8_walk 2 = .ok (.invokevirtual 151, 3) := by decide +kernel
theorem dX8_walk_5 : decode cX8_walk 5 = .ok (.astore_n 3, 1) := by decide +kernel
theorem dX8_walk_6 : decode cX8_walk 6 = .ok (.aload_n 3, 1) := by decide +kernel
theorem dX8_walk_7 : decode cX8_walk 7 = .ok (.ifnonnull 13, 3) := by decide +kernel
theorem dX8_walk_10 : decode cX8_walk 10 = .ok (.new 97, 3) := by decide +kernel
theorem dX8_walk_13 : decode cX8_walk 13 = .ok (.dup, 1) := by decide +kernel
theorem dX8_walk_14 : decode cX8_walk 14 = .ok (.ldc 99, 2) := by decide +kernel
theorem dX8_walk_16 : decode cX8_walk 16 = .ok (.invokespecial 101, 3) := by decide +kernel
theorem dX8_walk_19 : decode cX8_walk 19 = .ok (.athrow, 1) := by decide +kernel
theorem dX8_walk_20 : decode cX8_walk 20 = .ok (.aload_n 0, 1) := by decide +kernel
theorem dX8_walk_21 : decode cX8_walk 21 = .ok (.getfield 35, 3) := by decide +kernel
theorem dX8_walk_24 : decode cX8_walk 24 = .ok (.aload_n 3, 1) := by decide +kernel
theorem dX8_walk_25 : decode cX8_walk 25 = .ok (.invokevirtual 159, 3) := by decide +kernel
theorem dX8_walk_28 : decode cX8_walk 28 = .ok (.iconst 0, 1) := by decide +kernel
theorem dX8_walk_29 : decode cX8_walk 29 = .ok (.istore 4, 2) := by decide +kernel
theorem dX8_walk_31 : decode cX8_walk 31 = .ok (.iload 4, 2) := by decide +kernel
theorem dX8_walk_33 : decode cX8_walk 33 = .ok (.aload_n 3, 1) := by decide +kernel
theorem dX8_walk_34 : decode cX8_walk 34 = .ok (.getfield 91, 3) := by decide +kernel
theorem dX8_walk_37 : decode cX8_walk 37 = .ok (.if_icmp .ge 34, 3) := by decide +kernel
theorem dX8_walk_40 : decode cX8_walk 40 = .ok (.iload 4, 2) := by decide +kernel
theorem dX8_walk_42 : decode cX8_walk 42 = .ok (.bipush 12, 2) := by decide +kernel
theorem dX8_walk_44 : decode cX8_walk 44 = .ok (.if_icmp .ge 27, 3) := by decide +kernel
theorem dX8_walk_47 : decode cX8_walk 47 = .ok (.aload_n 0, 1) := by decide +kernel
theorem dX8_walk_48 : decode cX8_walk 48 = .ok (.getfield 35, 3) := by decide +kernel
theorem dX8_walk_51 : decode cX8_walk 51 = .ok (.invokevirtual 163, 3) := by decide +kernel
theorem dX8_walk_54 : decode cX8_walk 54 = .ok (.ifCond .eq 11, 3) := by decide +kernel
theorem dX8_walk_57 : decode cX8_walk 57 = .ok (.aload_n 3, 1) := by decide +kernel
theorem dX8_walk_58 : decode cX8_walk 58 = .ok (.getfield 167, 3) := by decide +kernel
theorem dX8_walk_61 : decode cX8_walk 61 = .ok (.iload 4, 2) := by decide +kernel
theorem dX8_walk_63 : decode cX8_walk 63 = .ok (.iaload, 1) := by decide +kernel
theorem dX8_walk_64 : decode cX8_walk 64 = .ok (.ireturn, 1) := by decide +kernel
theorem dX8_walk_65 : decode cX8_walk 65 = .ok (.iinc 4 1, 3) := by decide +kernel
theorem dX8_walk_68 : decode cX8_walk 68 = .ok (.goto (-37), 3) := by decide +kernel
theorem dX8_walk_71 : decode cX8_walk 71 = .ok (.iconst (-1), 1) := by decide +kernel
theorem dX8_walk_72 : decode cX8_walk 72 = .ok (.ireturn, 1) := by decide +kernel
theorem dX8_why_0 : decode cX8_why 0 = .ok (.aload_n 0, 1) := by decide +kernel
theorem dX8_why_1 : decode cX8_why 1 = .ok (.getfield 42, 3) := by decide +kernel
theorem dX8_why_4 : decode cX8_why 4 = .ok (.getfield 170, 3) := by decide +kernel
theorem dX8_why_7 : decode cX8_why 7 = .ok (.ifnonnull 13, 3) := by decide +kernel
theorem dX8_why_10 : decode cX8_why 10 = .ok (.new 97, 3) := by decide +kernel
theorem dX8_why_13 : decode cX8_why 13 = .ok (.dup, 1) := by decide +kernel
theorem dX8_why_14 : decode cX8_why 14 = .ok (.ldc 173, 2) := by decide +kernel
theorem dX8_why_16 : decode cX8_why 16 = .ok (.invokespecial 101, 3) := by decide +kernel
theorem dX8_why_19 : decode cX8_why 19 = .ok (.athrow, 1) := by decide +kernel
theorem dX8_why_20 : decode cX8_why 20 = .ok (.iload_n 1, 1) := by decide +kernel
theorem dX8_why_21 : decode cX8_why 21 = .ok (.bipush 10, 2) := by decide +kernel
theorem dX8_why_23 : decode cX8_why 23 = .ok (.invokestatic 127, 3) := by decide +kernel
theorem dX8_why_26 : decode cX8_why 26 = .ok (.ifCond .eq 7, 3) := by decide +kernel
theorem dX8_why_29 : decode cX8_why 29 = .ok (.iload_n 2, 1) := by decide +kernel
theorem dX8_why_30 : decode cX8_why 30 = .ok (.ifCond .ge 13, 3) := by decide +kernel
theorem dX8_why_33 : decode cX8_why 33 = .ok (.new 104, 3) := by decide +kernel
theorem dX8_why_36 : decode cX8_why 36 = .ok (.dup, 1) := by decide +kernel
theorem dX8_why_37 : decode cX8_why 37 = .ok (.ldc 175, 2) := by decide +kernel
theorem dX8_why_39 : decode cX8_why 39 = .ok (.invokespecial 108, 3) := by decide +kernel
theorem dX8_why_42 : decode cX8_why 42 = .ok (.athrow, 1) := by decide +kernel
theorem dX8_why_43 : decode cX8_why 43 = .ok (.aload_n 0, 1) := by decide +kernel
theorem dX8_why_44 : decode cX8_why 44 = .ok (.getfield 42, 3) := by decide +kernel
theorem dX8_why_47 : decode cX8_why 47 = .ok (.iload_n 1, 1) := by decide +kernel
theorem dX8_why_48 : decode cX8_why 48 = .ok (.iload_n 2, 1) := by decide +kernel
theorem dX8_why_49 : decode cX8_why 49 = .ok (.invokevirtual 177, 3) := by decide +kernel
theorem dX8_why_52 : decode cX8_why 52 = .ok (.ireturn, 1) := by decide +kernel
theorem dX8_open_0 : decode cX8_open 0 = .ok (.iload_n 1, 1) := by decide +kernel
theorem dX8_open_1 : decode cX8_open 1 = .ok (.aload_n 0, 1) := by decide +kernel
theorem dX8_open_2 : decode cX8_open 2 = .ok (.getfield 42, 3) := by decide +kernel
theorem dX8_open_5 : decode cX8_open 5 = .ok (.getfield 180, 3) := by decide +kernel
theorem dX8_open_8 : decode cX8_open 8 = .ok (.invokestatic 127, 3) := by decide +kernel
theorem dX8_open_11 : decode cX8_open 11 = .ok (.ifCond .eq 12, 3) := by decide +kernel
theorem dX8_open_14 : decode cX8_open 14 = .ok (.iload_n 1, 1) := by decide +kernel
theorem dX8_open_15 : decode cX8_open 15 = .ok (.bipush 12, 2) := by decide +kernel
theorem dX8_open_17 : decode cX8_open 17 = .ok (.invokestatic 127, 3) := by decide +kernel
theorem dX8_open_20 : decode cX8_open 20 = .ok (.ifCond .ne 13, 3) := by decide +kernel
theorem dX8_open_23 : decode cX8_open 23 = .ok (.new 131, 3) := by decide +kernel
theorem dX8_open_26 : decode cX8_open 26 = .ok (.dup, 1) := by decide +kernel
theorem dX8_open_27 : decode cX8_open 27 = .ok (.ldc 183, 2) := by decide +kernel
theorem dX8_open_29 : decode cX8_open 29 = .ok (.invokespecial 135, 3) := by decide +kernel
theorem dX8_open_32 : decode cX8_open 32 = .ok (.athrow, 1) := by decide +kernel
theorem dX8_open_33 : decode cX8_open 33 = .ok (.iload_n 2, 1) := by decide +kernel
theorem dX8_open_34 : decode cX8_open 34 = .ok (.tableswitch 56 0 2 #[26, 36, 46], 26) := by decide +kernel
theorem dX8_open_60 : decode cX8_open 60 = .ok (.aload_n 0, 1) := by decide +kernel
theorem dX8_open_61 : decode cX8_open 61 = .ok (.getfield 42, 3) := by decide +kernel
theorem dX8_open_64 : decode cX8_open 64 = .ok (.getfield 185, 3) := by decide +kernel
theorem dX8_open_67 : decode cX8_open 67 = .ok (.iload_n 1, 1) := by decide +kernel
theorem dX8_open_68 : decode cX8_open 68 = .ok (.iaload, 1) := by decide +kernel
theorem dX8_open_69 : decode cX8_open 69 = .ok (.ireturn, 1) := by decide +kernel
theorem dX8_open_70 : decode cX8_open 70 = .ok (.aload_n 0, 1) := by decide +kernel
theorem dX8_open_71 : decode cX8_open 71 = .ok (.getfield 42, 3) := by decide +kernel
theorem dX8_open_74 : decode cX8_open 74 = .ok (.getfield 188, 3) := by decide +kernel
theorem dX8_open_77 : decode cX8_open 77 = .ok (.iload_n 1, 1) := by decide +kernel
theorem dX8_open_78 : decode cX8_open 78 = .ok (.iaload, 1) := by decide +kernel
theorem dX8_open_79 : decode cX8_open 79 = .ok (.ireturn, 1) := by decide +kernel
theorem dX8_open_80 : decode cX8_open 80 = .ok (.aload_n 0, 1) := by decide +kernel
theorem dX8_open_81 : decode cX8_open 81 = .ok (.getfield 42, 3) := by decide +kernel
theorem dX8_open_84 : decode cX8_open 84 = .ok (.getfield 191, 3) := by decide +kernel
theorem dX8_open_87 : decode cX8_open 87 = .ok (.iload_n 1, 1) := by decide +kernel
theorem dX8_open_88 : decode cX8_open 88 = .ok (.iaload, 1) := by decide +kernel
theorem dX8_open_89 : decode cX8_open 89 = .ok (.ireturn, 1) := by decide +kernel
theorem dX8_open_90 : decode cX8_open 90 = .ok (.new 104, 3) := by decide +kernel
theorem dX8_open_93 : decode cX8_open 93 = .ok (.dup, 1) := by decide +kernel
theorem dX8_open_94 : decode cX8_open 94 = .ok (.ldc 194, 2) := by decide +kernel
theorem dX8_open_96 : decode cX8_open 96 = .ok (.invokespecial 108, 3) := by decide +kernel
theorem dX8_open_99 : decode cX8_open 99 = .ok (.athrow, 1) := by decide +kernel
theorem dX8_worst_0 : decode cX8_worst 0 = .ok (.iload_n 1, 1) := by decide +kernel
theorem dX8_worst_1 : decode cX8_worst 1 = .ok (.bipush 8, 2) := by decide +kernel
theorem dX8_worst_3 : decode cX8_worst 3 = .ok (.invokestatic 127, 3) := by decide +kernel
theorem dX8_worst_6 : decode cX8_worst 6 = .ok (.ifCond .eq 11, 3) := by decide +kernel
theorem dX8_worst_9 : decode cX8_worst 9 = .ok (.iload_n 3, 1) := by decide +kernel
theorem dX8_worst_10 : decode cX8_worst 10 = .ok (.iconst 2, 1) := by decide +kernel
theorem dX8_worst_11 : decode cX8_worst 11 = .ok (.invokestatic 127, 3) := by decide +kernel
theorem dX8_worst_14 : decode cX8_worst 14 = .ok (.ifCond .ne 13, 3) := by decide +kernel
theorem dX8_worst_17 : decode cX8_worst 17 = .ok (.new 104, 3) := by decide +kernel
theorem dX8_worst_20 : decode cX8_worst 20 = .ok (.dup, 1) := by decide +kernel
theorem dX8_worst_21 : decode cX8_worst 21 = .ok (.ldc 196, 2) := by decide +kernel
theorem dX8_worst_23 : decode cX8_worst 23 = .ok (.invokespecial 108, 3) := by decide +kernel
theorem dX8_worst_26 : decode cX8_worst 26 = .ok (.athrow, 1) := by decide +kernel
theorem dX8_worst_27 : decode cX8_worst 27 = .ok (.aload_n 0, 1) := by decide +kernel
theorem dX8_worst_28 : decode cX8_worst 28 = .ok (.getfield 12, 3) := by decide +kernel
theorem dX8_worst_31 : decode cX8_worst 31 = .ok (.iload_n 1, 1) := by decide +kernel
theorem dX8_worst_32 : decode cX8_worst 32 = .ok (.iload_n 2, 1) := by decide +kernel
theorem dX8_worst_33 : decode cX8_worst 33 = .ok (.i2l, 1) := by decide +kernel
theorem dX8_worst_34 : decode cX8_worst 34 = .ok (.iload_n 3, 1) := by decide +kernel
theorem dX8_worst_35 : decode cX8_worst 35 = .ok (.iconst 0, 1) := by decide +kernel
theorem dX8_worst_36 : decode cX8_worst 36 = .ok (.invokevirtual 198, 3) := by decide +kernel
theorem dX8_worst_39 : decode cX8_worst 39 = .ok (.lreturn, 1) := by decide +kernel
theorem dX8_raise_0 : decode cX8_raise 0 = .ok (.aload_n 0, 1) := by decide +kernel
theorem dX8_raise_1 : decode cX8_raise 1 = .ok (.getfield 42, 3) := by decide +kernel
theorem dX8_raise_4 : decode cX8_raise 4 = .ok (.getfield 170, 3) := by decide +kernel
theorem dX8_raise_7 : decode cX8_raise 7 = .ok (.astore_n 3, 1) := by decide +kernel
theorem dX8_raise_8 : decode cX8_raise 8 = .ok (.aload_n 3, 1) := by decide +kernel
theorem dX8_raise_9 : decode cX8_raise 9 = .ok (.ifnonnull 13, 3) := by decide +kernel
theorem dX8_raise_12 : decode cX8_raise 12 = .ok (.new 97, 3) := by decide +kernel
theorem dX8_raise_15 : decode cX8_raise 15 = .ok (.dup, 1) := by decide +kernel
theorem dX8_raise_16 : decode cX8_raise 16 = .ok (.ldc 173, 2) := by decide +kernel
theorem dX8_raise_18 : decode cX8_raise 18 = .ok (.invokespecial 101, 3) := by decide +kernel
theorem dX8_raise_21 : decode cX8_raise 21 = .ok (.athrow, 1) := by decide +kernel
theorem dX8_raise_22 : decode cX8_raise 22 = .ok (.iload_n 1, 1) := by decide +kernel
theorem dX8_raise_23 : decode cX8_raise 23 = .ok (.bipush 10, 2) := by decide +kernel
theorem dX8_raise_25 : decode cX8_raise 25 = .ok (.invokestatic 127, 3) := by decide +kernel
theorem dX8_raise_28 : decode cX8_raise 28 = .ok (.ifCond .eq 7, 3) := by decide +kernel
theorem dX8_raise_31 : decode cX8_raise 31 = .ok (.iload_n 2, 1) := by decide +kernel
theorem dX8_raise_32 : decode cX8_raise 32 = .ok (.ifCond .ge 13, 3) := by decide +kernel
theorem dX8_raise_35 : decode cX8_raise 35 = .ok (.new 104, 3) := by decide +kernel
theorem dX8_raise_38 : decode cX8_raise 38 = .ok (.dup, 1) := by decide +kernel
theorem dX8_raise_39 : decode cX8_raise 39 = .ok (.ldc 175, 2) := by decide +kernel
theorem dX8_raise_41 : decode cX8_raise 41 = .ok (.invokespecial 108, 3) := by decide +kernel
theorem dX8_raise_44 : decode cX8_raise 44 = .ok (.athrow, 1) := by decide +kernel
theorem dX8_raise_45 : decode cX8_raise 45 = .ok (.aload_n 0, 1) := by decide +kernel
theorem dX8_raise_46 : decode cX8_raise 46 = .ok (.getfield 51, 3) := by decide +kernel
theorem dX8_raise_49 : decode cX8_raise 49 = .ok (.aload_n 3, 1) := by decide +kernel
theorem dX8_raise_50 : decode cX8_raise 50 = .ok (.iload_n 1, 1) := by decide +kernel
theorem dX8_raise_51 : decode cX8_raise 51 = .ok (.invokevirtual 202, 3) := by decide +kernel
theorem dX8_raise_54 : decode cX8_raise 54 = .ok (.istore 4, 2) := by decide +kernel
theorem dX8_raise_56 : decode cX8_raise 56 = .ok (.iload_n 2, 1) := by decide +kernel
theorem dX8_raise_57 : decode cX8_raise 57 = .ok (.iload 4, 2) := by decide +kernel
theorem dX8_raise_59 : decode cX8_raise 59 = .ok (.if_icmp .ge 21, 3) := by decide +kernel
theorem dX8_raise_62 : decode cX8_raise 62 = .ok (.iload_n 2, 1) := by decide +kernel
theorem dX8_raise_63 : decode cX8_raise 63 = .ok (.bipush 10, 2) := by decide +kernel
theorem dX8_raise_65 : decode cX8_raise 65 = .ok (.if_icmp .ge 15, 3) := by decide +kernel
theorem dX8_raise_68 : decode cX8_raise 68 = .ok (.aload_n 0, 1) := by decide +kernel
theorem dX8_raise_69 : decode cX8_raise 69 = .ok (.getfield 51, 3) := by decide +kernel
theorem dX8_raise_72 : decode cX8_raise 72 = .ok (.getfield 206, 3) := by decide +kernel
theorem dX8_raise_75 : decode cX8_raise 75 = .ok (.iload_n 2, 1) := by decide +kernel
theorem dX8_raise_76 : decode cX8_raise 76 = .ok (.iaload, 1) := by decide +kernel
theorem dX8_raise_77 : decode cX8_raise 77 = .ok (.goto 4, 3) := by decide +kernel
theorem dX8_raise_80 : decode cX8_raise 80 = .ok (.iconst (-1), 1) := by decide +kernel
theorem dX8_raise_81 : decode cX8_raise 81 = .ok (.ireturn, 1) := by decide +kernel
theorem dX8_appeal_0 : decode cX8_appeal 0 = .ok (.iload_n 1, 1) := by decide +kernel
theorem dX8_appeal_1 : decode cX8_appeal 1 = .ok (.iload_n 3, 1) := by decide +kernel
theorem dX8_appeal_2 : decode cX8_appeal 2 = .ok (.if_icmp .ne 5, 3) := by decide +kernel
theorem dX8_appeal_5 : decode cX8_appeal 5 = .ok (.iconst 2, 1) := by decide +kernel
theorem dX8_appeal_6 : decode cX8_appeal 6 = .ok (.ireturn, 1) := by decide +kernel
theorem dX8_appeal_7 : decode cX8_appeal 7 = .ok (.iload_n 2, 1) := by decide +kernel
theorem dX8_appeal_8 : decode cX8_appeal 8 = .ok (.iload 4, 2) := by decide +kernel
theorem dX8_appeal_10 : decode cX8_appeal 10 = .ok (.if_icmp .eq 7, 3) := by decide +kernel
theorem dX8_appeal_13 : decode cX8_appeal 13 = .ok (.iconst 1, 1) := by decide +kernel
theorem dX8_appeal_14 : decode cX8_appeal 14 = .ok (.goto 4, 3) := by decide +kernel
theorem dX8_appeal_17 : decode cX8_appeal 17 = .ok (.iconst 0, 1) := by decide +kernel
theorem dX8_appeal_18 : decode cX8_appeal 18 = .ok (.ireturn, 1) := by decide +kernel
theorem dX8_counted_0 : decode cX8_counted 0 = .ok (.iload_n 1, 1) := by decide +kernel
theorem dX8_counted_1 : decode cX8_counted 1 = .ok (.iconst (-1), 1) := by decide +kernel
theorem dX8_counted_2 : decode cX8_counted 2 = .ok (.if_icmp .lt 9, 3) := by decide +kernel
theorem dX8_counted_5 : decode cX8_counted 5 = .ok (.iload_n 1, 1) := by decide +kernel
theorem dX8_counted_6 : decode cX8_counted 6 = .ok (.bipush 10, 2) := by decide +kernel
theorem dX8_counted_8 : decode cX8_counted 8 = .ok (.if_icmp .lt 13, 3) := by decide +kernel
theorem dX8_counted_11 : decode cX8_counted 11 = .ok (.new 104, 3) := by decide +kernel
theorem dX8_counted_14 : decode cX8_counted 14 = .ok (.dup, 1) := by decide +kernel
theorem dX8_counted_15 : decode cX8_counted 15 = .ok (.ldc 209, 2) := by decide +kernel
theorem dX8_counted_17 : decode cX8_counted 17 = .ok (.invokespecial 108, 3) := by decide +kernel
theorem dX8_counted_20 : decode cX8_counted 20 = .ok (.athrow, 1) := by decide +kernel
theorem dX8_counted_21 : decode cX8_counted 21 = .ok (.aload_n 0, 1) := by decide +kernel
theorem dX8_counted_22 : decode cX8_counted 22 = .ok (.getfield 73, 3) := by decide +kernel
theorem dX8_counted_25 : decode cX8_counted 25 = .ok (.iload_n 1, 1) := by decide +kernel
theorem dX8_counted_26 : decode cX8_counted 26 = .ok (.iconst 1, 1) := by decide +kernel
theorem dX8_counted_27 : decode cX8_counted 27 = .ok (.iadd, 1) := by decide +kernel
theorem dX8_counted_28 : decode cX8_counted 28 = .ok (.laload, 1) := by decide +kernel
theorem dX8_counted_29 : decode cX8_counted 29 = .ok (.lreturn, 1) := by decide +kernel
theorem dX8_machine_0 : decode cX8_machine 0 = .ok (.iload_n 1, 1) := by decide +kernel
theorem dX8_machine_1 : decode cX8_machine 1 = .ok (.bipush 10, 2) := by decide +kernel
theorem dX8_machine_3 : decode cX8_machine 3 = .ok (.invokestatic 127, 3) := by decide +kernel
theorem dX8_machine_6 : decode cX8_machine 6 = .ok (.ifCond .eq 12, 3) := by decide +kernel
theorem dX8_machine_9 : decode cX8_machine 9 = .ok (.iload_n 2, 1) := by decide +kernel
theorem dX8_machine_10 : decode cX8_machine 10 = .ok (.bipush 10, 2) := by decide +kernel
theorem dX8_machine_12 : decode cX8_machine 12 = .ok (.invokestatic 127, 3) := by decide +kernel
theorem dX8_machine_15 : decode cX8_machine 15 = .ok (.ifCond .ne 13, 3) := by decide +kernel
theorem dX8_machine_18 : decode cX8_machine 18 = .ok (.new 104, 3) := by decide +kernel
theorem dX8_machine_21 : decode cX8_machine 21 = .ok (.dup, 1) := by decide +kernel
theorem dX8_machine_22 : decode cX8_machine 22 = .ok (.ldc 211, 2) := by decide +kernel
theorem dX8_machine_24 : decode cX8_machine 24 = .ok (.invokespecial 108, 3) := by decide +kernel
theorem dX8_machine_27 : decode cX8_machine 27 = .ok (.athrow, 1) := by decide +kernel
theorem dX8_machine_28 : decode cX8_machine 28 = .ok (.iload_n 1, 1) := by decide +kernel
theorem dX8_machine_29 : decode cX8_machine 29 = .ok (.bipush 10, 2) := by decide +kernel
theorem dX8_machine_31 : decode cX8_machine 31 = .ok (.imul, 1) := by decide +kernel
theorem dX8_machine_32 : decode cX8_machine 32 = .ok (.iload_n 2, 1) := by decide +kernel
theorem dX8_machine_33 : decode cX8_machine 33 = .ok (.iadd, 1) := by decide +kernel
theorem dX8_machine_34 : decode cX8_machine 34 = .ok (.istore_n 3, 1) := by decide +kernel
theorem dX8_machine_35 : decode cX8_machine 35 = .ok (.aload_n 0, 1) := by decide +kernel
theorem dX8_machine_36 : decode cX8_machine 36 = .ok (.getfield 76, 3) := by decide +kernel
theorem dX8_machine_39 : decode cX8_machine 39 = .ok (.iload_n 3, 1) := by decide +kernel
theorem dX8_machine_40 : decode cX8_machine 40 = .ok (.dup2, 1) := by decide +kernel
theorem dX8_machine_41 : decode cX8_machine 41 = .ok (.iaload, 1) := by decide +kernel
theorem dX8_machine_42 : decode cX8_machine 42 = .ok (.iconst 1, 1) := by decide +kernel
theorem dX8_machine_43 : decode cX8_machine 43 = .ok (.iadd, 1) := by decide +kernel
theorem dX8_machine_44 : decode cX8_machine 44 = .ok (.iastore, 1) := by decide +kernel
theorem dX8_machine_45 : decode cX8_machine 45 = .ok (.aload_n 0, 1) := by decide +kernel
theorem dX8_machine_46 : decode cX8_machine 46 = .ok (.getfield 76, 3) := by decide +kernel
theorem dX8_machine_49 : decode cX8_machine 49 = .ok (.iload_n 3, 1) := by decide +kernel
theorem dX8_machine_50 : decode cX8_machine 50 = .ok (.iaload, 1) := by decide +kernel
theorem dX8_machine_51 : decode cX8_machine 51 = .ok (.ireturn, 1) := by decide +kernel
theorem dX8_isBelow_0 : decode cX8_isBelow 0 = .ok (.iload_n 0, 1) := by decide +kernel
theorem dX8_isBelow_1 : decode cX8_isBelow 1 = .ok (.ifCond .lt 12, 3) := by decide +kernel
theorem dX8_isBelow_4 : decode cX8_isBelow 4 = .ok (.iload_n 0, 1) := by decide +kernel
theorem dX8_isBelow_5 : decode cX8_isBelow 5 = .ok (.iload_n 1, 1) := by decide +kernel
theorem dX8_isBelow_6 : decode cX8_isBelow 6 = .ok (.if_icmp .ge 7, 3) := by decide +kernel
theorem dX8_isBelow_9 : decode cX8_isBelow 9 = .ok (.iconst 1, 1) := by decide +kernel
theorem dX8_isBelow_10 : decode cX8_isBelow 10 = .ok (.goto 4, 3) := by decide +kernel
theorem dX8_isBelow_13 : decode cX8_isBelow 13 = .ok (.iconst 0, 1) := by decide +kernel
theorem dX8_isBelow_14 : decode cX8_isBelow 14 = .ok (.ireturn, 1) := by decide +kernel
theorem dX8_isSize_0 : decode cX8_isSize 0 = .ok (.iload_n 0, 1) := by decide +kernel
theorem dX8_isSize_1 : decode cX8_isSize 1 = .ok (.ifCond .lt 13, 3) := by decide +kernel
theorem dX8_isSize_4 : decode cX8_isSize 4 = .ok (.iload_n 0, 1) := by decide +kernel
theorem dX8_isSize_5 : decode cX8_isSize 5 = .ok (.ldc 213, 2) := by decide +kernel
theorem dX8_isSize_7 : decode cX8_isSize 7 = .ok (.if_icmp .gt 7, 3) := by decide +kernel
theorem dX8_isSize_10 : decode cX8_isSize 10 = .ok (.iconst 1, 1) := by decide +kernel
theorem dX8_isSize_11 : decode cX8_isSize 11 = .ok (.goto 4, 3) := by decide +kernel
theorem dX8_isSize_14 : decode cX8_isSize 14 = .ok (.iconst 0, 1) := by decide +kernel
theorem dX8_isSize_15 : decode cX8_isSize 15 = .ok (.ireturn, 1) := by decide +kernel
theorem dX8_rulesOn_0 : decode cX8_rulesOn 0 = .ok (.aload_n 0, 1) := by decide +kernel
theorem dX8_rulesOn_1 : decode cX8_rulesOn 1 = .ok (.getfield 55, 3) := by decide +kernel
theorem dX8_rulesOn_4 : decode cX8_rulesOn 4 = .ok (.astore_n 3, 1) := by decide +kernel
theorem dX8_rulesOn_5 : decode cX8_rulesOn 5 = .ok (.iconst 0, 1) := by decide +kernel
theorem dX8_rulesOn_6 : decode cX8_rulesOn 6 = .ok (.istore 4, 2) := by decide +kernel
theorem dX8_rulesOn_8 : decode cX8_rulesOn 8 = .ok (.iload 4, 2) := by decide +kernel
theorem dX8_rulesOn_10 : decode cX8_rulesOn 10 = .ok (.aload_n 0, 1) := by decide +kernel
theorem dX8_rulesOn_11 : decode cX8_rulesOn 11 = .ok (.getfield 69, 3) := by decide +kernel
theorem dX8_rulesOn_14 : decode cX8_rulesOn 14 = .ok (.if_icmp .ge 35, 3) := by decide +kernel
theorem dX8_rulesOn_17 : decode cX8_rulesOn 17 = .ok (.iload 4, 2) := by decide +kernel
theorem dX8_rulesOn_19 : decode cX8_rulesOn 19 = .ok (.iconst 4, 1) := by decide +kernel
theorem dX8_rulesOn_20 : decode cX8_rulesOn 20 = .ok (.if_icmp .ge 29, 3) := by decide +kernel
theorem dX8_rulesOn_23 : decode cX8_rulesOn 23 = .ok (.aload_n 0, 1) := by decide +kernel
theorem dX8_rulesOn_24 : decode cX8_rulesOn 24 = .ok (.getfield 65, 3) := by decide +kernel
theorem dX8_rulesOn_27 : decode cX8_rulesOn 27 = .ok (.iload 4, 2) := by decide +kernel
theorem dX8_rulesOn_29 : decode cX8_rulesOn 29 = .ok (.laload, 1) := by decide +kernel
theorem dX8_rulesOn_30 : decode cX8_rulesOn 30 = .ok (.lload_n 1, 1) := by decide +kernel
theorem dX8_rulesOn_31 : decode cX8_rulesOn 31 = .ok (.lcmp, 1) := by decide +kernel
theorem dX8_rulesOn_32 : decode cX8_rulesOn 32 = .ok (.ifCond .gt 11, 3) := by decide +kernel
theorem dX8_rulesOn_35 : decode cX8_rulesOn 35 = .ok (.aload_n 0, 1) := by decide +kernel
theorem dX8_rulesOn_36 : decode cX8_rulesOn 36 = .ok (.getfield 61, 3) := by decide +kernel
theorem dX8_rulesOn_39 : decode cX8_rulesOn 39 = .ok (.iload 4, 2) := by decide +kernel
theorem dX8_rulesOn_41 : decode cX8_rulesOn 41 = .ok (.aaload, 1) := by decide +kernel
theorem dX8_rulesOn_42 : decode cX8_rulesOn 42 = .ok (.astore_n 3, 1) := by decide +kernel
theorem dX8_rulesOn_43 : decode cX8_rulesOn 43 = .ok (.iinc 4 1, 3) := by decide +kernel
theorem dX8_rulesOn_46 : decode cX8_rulesOn 46 = .ok (.goto (-38), 3) := by decide +kernel
theorem dX8_rulesOn_49 : decode cX8_rulesOn 49 = .ok (.aload_n 3, 1) := by decide +kernel
theorem dX8_rulesOn_50 : decode cX8_rulesOn 50 = .ok (.areturn, 1) := by decide +kernel
theorem dJx00060_init_a7421_0 : decode cJx00060_init_a7421 0 = .ok (.aload_n 0, 1) := by decide +kernel
theorem dJx00060_init_a7421_1 : decode cJx00060_init_a7421 1 = .ok (.aload_n 1, 1) := by decide +kernel
theorem dJx00060_init_a7421_2 : decode cJx00060_init_a7421 2 = .ok (.invokespecial 7, 3) := by decide +kernel
theorem dJx00060_init_a7421_5 : decode cJx00060_init_a7421 5 = .ok (.return_, 1) := by decide +kernel
theorem dJ9_max_7cf53_0 : decode cJ9_max_7cf53 0 = .ok (.iload_n 0, 1) := by decide +kernel
theorem dJ9_max_7cf53_1 : decode cJ9_max_7cf53 1 = .ok (.iload_n 1, 1) := by decide +kernel
theorem dJ9_max_7cf53_2 : decode cJ9_max_7cf53 2 = .ok (.if_icmp .lt 7, 3) := by decide +kernel
theorem dJ9_max_7cf53_5 : decode cJ9_max_7cf53 5 = .ok (.iload_n 0, 1) := by decide +kernel
theorem dJ9_max_7cf53_6 : decode cJ9_max_7cf53 6 = .ok (.goto 4, 3) := by decide +kernel
theorem dJ9_max_7cf53_9 : decode cJ9_max_7cf53 9 = .ok (.iload_n 1, 1) := by decide +kernel
theorem dJ9_max_7cf53_10 : decode cJ9_max_7cf53 10 = .ok (.ireturn, 1) := by decide +kernel
theorem dJ9_max_f86c9_0 : decode cJ9_max_f86c9 0 = .ok (.lload_n 0, 1) := by decide +kernel
theorem dJ9_max_f86c9_1 : decode cJ9_max_f86c9 1 = .ok (.lload_n 2, 1) := by decide +kernel
theorem dJ9_max_f86c9_2 : decode cJ9_max_f86c9 2 = .ok (.lcmp, 1) := by decide +kernel
theorem dJ9_max_f86c9_3 : decode cJ9_max_f86c9 3 = .ok (.ifCond .lt 7, 3) := by decide +kernel
theorem dJ9_max_f86c9_6 : decode cJ9_max_f86c9 6 = .ok (.lload_n 0, 1) := by decide +kernel
theorem dJ9_max_f86c9_7 : decode cJ9_max_f86c9 7 = .ok (.goto 4, 3) := by decide +kernel
theorem dJ9_max_f86c9_10 : decode cJ9_max_f86c9 10 = .ok (.lload_n 2, 1) := by decide +kernel
theorem dJ9_max_f86c9_11 : decode cJ9_max_f86c9 11 = .ok (.lreturn, 1) := by decide +kernel
theorem dJ9_min_7cf53_0 : decode cJ9_min_7cf53 0 = .ok (.iload_n 0, 1) := by decide +kernel
theorem dJ9_min_7cf53_1 : decode cJ9_min_7cf53 1 = .ok (.iload_n 1, 1) := by decide +kernel
theorem dJ9_min_7cf53_2 : decode cJ9_min_7cf53 2 = .ok (.if_icmp .gt 7, 3) := by decide +kernel
theorem dJ9_min_7cf53_5 : decode cJ9_min_7cf53 5 = .ok (.iload_n 0, 1) := by decide +kernel
theorem dJ9_min_7cf53_6 : decode cJ9_min_7cf53 6 = .ok (.goto 4, 3) := by decide +kernel
theorem dJ9_min_7cf53_9 : decode cJ9_min_7cf53 9 = .ok (.iload_n 1, 1) := by decide +kernel
theorem dJ9_min_7cf53_10 : decode cJ9_min_7cf53 10 = .ok (.ireturn, 1) := by decide +kernel
theorem dJ9_min_f86c9_0 : decode cJ9_min_f86c9 0 = .ok (.lload_n 0, 1) := by decide +kernel
theorem dJ9_min_f86c9_1 : decode cJ9_min_f86c9 1 = .ok (.lload_n 2, 1) := by decide +kernel
theorem dJ9_min_f86c9_2 : decode cJ9_min_f86c9 2 = .ok (.lcmp, 1) := by decide +kernel
theorem dJ9_min_f86c9_3 : decode cJ9_min_f86c9 3 = .ok (.ifCond .gt 7, 3) := by decide +kernel
theorem dJ9_min_f86c9_6 : decode cJ9_min_f86c9 6 = .ok (.lload_n 0, 1) := by decide +kernel
theorem dJ9_min_f86c9_7 : decode cJ9_min_f86c9 7 = .ok (.goto 4, 3) := by decide +kernel
theorem dJ9_min_f86c9_10 : decode cJ9_min_f86c9 10 = .ok (.lload_n 2, 1) := by decide +kernel
theorem dJ9_min_f86c9_11 : decode cJ9_min_f86c9 11 = .ok (.lreturn, 1) := by decide +kernel
theorem dJ7_fill_53178_0 : decode cJ7_fill_53178 0 = .ok (.iconst 0, 1) := by decide +kernel
theorem dJ7_fill_53178_1 : decode cJ7_fill_53178 1 = .ok (.istore_n 2, 1) := by decide +kernel
theorem dJ7_fill_53178_2 : decode cJ7_fill_53178 2 = .ok (.aload_n 0, 1) := by decide +kernel
theorem dJ7_fill_53178_3 : decode cJ7_fill_53178 3 = .ok (.arraylength, 1) := by decide +kernel
theorem dJ7_fill_53178_4 : decode cJ7_fill_53178 4 = .ok (.istore_n 3, 1) := by decide +kernel
theorem dJ7_fill_53178_5 : decode cJ7_fill_53178 5 = .ok (.iload_n 2, 1) := by decide +kernel
theorem dJ7_fill_53178_6 : decode cJ7_fill_53178 6 = .ok (.iload_n 3, 1) := by decide +kernel
theorem dJ7_fill_53178_7 : decode cJ7_fill_53178 7 = .ok (.if_icmp .ge 13, 3) := by decide +kernel
theorem dJ7_fill_53178_10 : decode cJ7_fill_53178 10 = .ok (.aload_n 0, 1) := by decide +kernel
theorem dJ7_fill_53178_11 : decode cJ7_fill_53178 11 = .ok (.iload_n 2, 1) := by decide +kernel
theorem dJ7_fill_53178_12 : decode cJ7_fill_53178 12 = .ok (.iload_n 1, 1) := by decide +kernel
theorem dJ7_fill_53178_13 : decode cJ7_fill_53178 13 = .ok (.iastore, 1) := by decide +kernel
theorem dJ7_fill_53178_14 : decode cJ7_fill_53178 14 = .ok (.iinc 2 1, 3) := by decide +kernel
theorem dJ7_fill_53178_17 : decode cJ7_fill_53178 17 = .ok (.goto (-12), 3) := by decide +kernel
theorem dJ7_fill_53178_20 : decode cJ7_fill_53178 20 = .ok (.return_, 1) := by decide +kernel
