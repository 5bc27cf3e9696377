theorem dX0_init_0 : decode cX0_init 0 = .ok (.aload_n 0, 1) := by decide +kernel
theorem dX0_init_1 : decode cX0_init 1 = .ok (.invokespecial 3, 3) := by decide +kernel
theorem dX0_init_4 : decode cX0_init 4 = .ok (.aload_n 0, 1) := by decide +kernel
theorem dX0_init_5 : decode cX0_init 5 = .ok (.new 9, 3) := by decide +kernel
theorem dX0_init_8 : decode cX0_init 8 = .ok (.dup, 1) := by decide +kernel
theorem dX0_init_9 : decode cX0_init 9 = .ok (.invokespecial 11, 3) := by decide +kernel
theorem dX0_init_12 : decode cX0_init 12 = .ok (.putfield 12, 3) := by decide +kernel
theorem dX0_init_15 : decode cX0_init 15 = .ok (.aload_n 0, 1) := by decide +kernel
theorem dX0_init_16 : decode cX0_init 16 = .ok (.bipush 60, 2) := by decide +kernel
theorem dX0_init_18 : decode cX0_init 18 = .ok (.newarray .int, 2) := by decide +kernel
theorem dX0_init_20 : decode cX0_init 20 = .ok (.putfield 18, 3) := by decide +kernel
theorem dX0_init_23 : decode cX0_init 23 = .ok (.aload_n 0, 1) := by decide +kernel
theorem dX0_init_24 : decode cX0_init 24 = .ok (.bipush 120, 2) := by decide +kernel
theorem dX0_init_26 : decode cX0_init 26 = .ok (.newarray .int, 2) := by decide +kernel
theorem dX0_init_28 : decode cX0_init 28 = .ok (.putfield 22, 3) := by decide +kernel
theorem dX0_init_31 : decode cX0_init 31 = .ok (.aload_n 0, 1) := by decide +kernel
theorem dX0_init_32 : decode cX0_init 32 = .ok (.iconst 0, 1) := by decide +kernel
theorem dX0_init_33 : decode cX0_init 33 = .ok (.putfield 25, 3) := by decide +kernel
theorem dX0_init_36 : decode cX0_init 36 = .ok (.aload_n 0, 1) := by decide +kernel
theorem dX0_init_37 : decode cX0_init 37 = .ok (.iconst 0, 1) := by decide +kernel
theorem dX0_init_38 : decode cX0_init 38 = .ok (.putfield 29, 3) := by decide +kernel
theorem dX0_init_41 : decode cX0_init 41 = .ok (.return_, 1) := by decide +kernel
theorem dX0_isFull_0 : decode cX0_isFull 0 = .ok (.aload_n 0, 1) := by decide +kernel
theorem dX0_isFull_1 : decode cX0_isFull 1 = .ok (.getfield 12, 3) := by decide +kernel
theorem dX0_isFull_4 : decode cX0_isFull 4 = .ok (.invokevirtual 32, 3) := by decide +kernel
theorem dX0_isFull_7 : decode cX0_isFull 7 = .ok (.bipush 60, 2) := by decide +kernel
theorem dX0_isFull_9 : decode cX0_isFull 9 = .ok (.if_icmp .lt 7, 3) := by decide +kernel
theorem dX0_isFull_12 : decode cX0_isFull 12 = .ok (.iconst 1, 1) := by decide +kernel
theorem dX0_isFull_13 : decode cX0_isFull 13 = .ok (.goto 4, 3) := by decide +kernel
theorem dX0_isFull_16 : decode cX0_isFull 16 = .ok (.iconst 0, 1) := by decide +kernel
theorem dX0_isFull_17 : decode cX0_isFull 17 = .ok (.ireturn, 1) := by decide +kernel
theorem dX0_addCharacter_0 : decode cX0_addCharacter 0 = .ok (.aload_n 0, 1) := by decide +kernel
theorem dX0_addCharacter_1 : decode cX0_addCharacter 1 = .ok (.getfield 12, 3) := by decide +kernel
theorem dX0_addCharacter_4 : decode cX0_addCharacter 4 = .ok (.iload_n 1, 1) := by decide +kernel
theorem dX0_addCharacter_5 : decode cX0_addCharacter 5 = .ok (.invokevirtual 36, 3) := by decide +kernel
theorem dX0_addCharacter_8 : decode cX0_addCharacter 8 = .ok (.pop, 1) := by decide +kernel
theorem dX0_addCharacter_9 : decode cX0_addCharacter 9 = .ok (.aload_n 0, 1) := by decide +kernel
theorem dX0_addCharacter_10 : decode cX0_addCharacter 10 = .ok (.getfield 12, 3) := by decide +kernel
theorem dX0_addCharacter_13 : decode cX0_addCharacter 13 = .ok (.invokevirtual 32, 3) := by decide +kernel
theorem dX0_addCharacter_16 : decode cX0_addCharacter 16 = .ok (.ireturn, 1) := by decide +kernel
theorem dX0_clearText_0 : decode cX0_clearText 0 = .ok (.aload_n 0, 1) := by decide +kernel
theorem dX0_clearText_1 : decode cX0_clearText 1 = .ok (.getfield 12, 3) := by decide +kernel
theorem dX0_clearText_4 : decode cX0_clearText 4 = .ok (.iconst 0, 1) := by decide +kernel
theorem dX0_clearText_5 : decode cX0_clearText 5 = .ok (.invokevirtual 40, 3) := by decide +kernel
theorem dX0_clearText_8 : decode cX0_clearText 8 = .ok (.return_, 1) := by decide +kernel
theorem dX0_formOf_0 : decode cX0_formOf 0 = .ok (.iload_n 0, 1) := by decide +kernel
theorem dX0_formOf_1 : decode cX0_formOf 1 = .ok (.tableswitch 99 0 11 #[63, 66, 69, 72, 75, 78, 81, 84, 87, 90, 93, 96], 63) := by decide +kernel
theorem dX0_formOf_64 : decode cX0_formOf 64 = .ok (.ldc 44, 2) := by decide +kernel
theorem dX0_formOf_66 : decode cX0_formOf 66 = .ok (.areturn, 1) := by decide +kernel
theorem dX0_formOf_67 : decode cX0_formOf 67 = .ok (.ldc 46, 2) := by decide +kernel
theorem dX0_formOf_69 : decode cX0_formOf 69 = .ok (.areturn, 1) := by decide +kernel
theorem dX0_formOf_70 : decode cX0_formOf 70 = .ok (.ldc 48, 2) := by decide +kernel
theorem dX0_formOf_72 : decode cX0_formOf 72 = .ok (.areturn, 1) := by decide +kernel
theorem dX0_formOf_73 : decode cX0_formOf 73 = .ok (.ldc 50, 2) := by decide +kernel
theorem dX0_formOf_75 : decode cX0_formOf 75 = .ok (.areturn, 1) := by decide +kernel
theorem dX0_formOf_76 : decode cX0_formOf 76 = .ok (.ldc 52, 2) := by decide +kernel
theorem dX0_formOf_78 : decode cX0_formOf 78 = .ok (.areturn, 1) := by decide +kernel
theorem dX0_formOf_79 : decode cX0_formOf 79 = .ok (.ldc 54, 2) := by decide +kernel
theorem dX0_formOf_81 : decode cX0_formOf 81 = .ok (.areturn, 1) := by decide +kernel
theorem dX0_formOf_82 : decode cX0_formOf 82 = .ok (.ldc 56, 2) := by decide +kernel
theorem dX0_formOf_84 : decode cX0_formOf 84 = .ok (.areturn, 1) := by decide +kernel
theorem dX0_formOf_85 : decode cX0_formOf 85 = .ok (.ldc 58, 2) := by decide +kernel
theorem dX0_formOf_87 : decode cX0_formOf 87 = .ok (.areturn, 1) := by decide +kernel
theorem dX0_formOf_88 : decode cX0_formOf 88 = .ok (.ldc 60, 2) := by decide +kernel
theorem dX0_formOf_90 : decode cX0_formOf 90 = .ok (.areturn, 1) := by decide +kernel
theorem dX0_formOf_91 : decode cX0_formOf 91 = .ok (.ldc 62, 2) := by decide +kernel
theorem dX0_formOf_93 : decode cX0_formOf 93 = .ok (.areturn, 1) := by decide +kernel
theorem dX0_formOf_94 : decode cX0_formOf 94 = .ok (.ldc 64, 2) := by decide +kernel
theorem dX0_formOf_96 : decode cX0_formOf 96 = .ok (.areturn, 1) := by decide +kernel
theorem dX0_formOf_97 : decode cX0_formOf 97 = .ok (.ldc 66, 2) := by decide +kernel
theorem dX0_formOf_99 : decode cX0_formOf 99 = .ok (.areturn, 1) := by decide +kernel
theorem dX0_formOf_100 : decode cX0_formOf 100 = .ok (.ldc 68, 2) := by decide +kernel
theorem dX0_formOf_102 : decode cX0_formOf 102 = .ok (.areturn, 1) := by decide +kernel
theorem dX0_readText_0 : decode cX0_readText 0 = .ok (.aload_n 0, 1) := by decide +kernel
theorem dX0_readText_1 : decode cX0_readText 1 = .ok (.iconst 0, 1) := by decide +kernel
theorem dX0_readText_2 : decode cX0_readText 2 = .ok (.putfield 29, 3) := by decide +kernel
theorem dX0_readText_5 : decode cX0_readText 5 = .ok (.aload_n 0, 1) := by decide +kernel
theorem dX0_readText_6 : decode cX0_readText 6 = .ok (.iconst 0, 1) := by decide +kernel
theorem dX0_readText_7 : decode cX0_readText 7 = .ok (.putfield 25, 3) := by decide +kernel
theorem dX0_readText_10 : decode cX0_readText 10 = .ok (.aload_n 0, 1) := by decide +kernel
theorem dX0_readText_11 : decode cX0_readText 11 = .ok (.getfield 25, 3) := by decide +kernel
theorem dX0_readText_14 : decode cX0_readText 14 = .ok (.bipush 60, 2) := by decide +kernel
theorem dX0_readText_16 : decode cX0_readText 16 = .ok (.if_icmp .ge 51, 3) := by decide +kernel
theorem dX0_readText_19 : decode cX0_readText 19 = .ok (.aload_n 0, 1) := by decide +kernel
theorem dX0_readText_20 : decode cX0_readText 20 = .ok (.invokevirtual 70, 3) := by decide +kernel
theorem dX0_readText_23 : decode cX0_readText 23 = .ok (.ifCond .ne 5, 3) := by decide +kernel
theorem dX0_readText_26 : decode cX0_readText 26 = .ok (.iconst 0, 1) := by decide +kernel
theorem dX0_readText_27 : decode cX0_readText 27 = .ok (.ireturn, 1) := by decide +kernel
theorem dX0_readText_28 : decode cX0_readText 28 = .ok (.aload_n 0, 1) := by decide +kernel
theorem dX0_readText_29 : decode cX0_readText 29 = .ok (.dup, 1) := by decide +kernel
theorem dX0_readText_30 : decode cX0_readText 30 = .ok (.getfield 25, 3) := by decide +kernel
theorem dX0_readText_33 : decode cX0_readText 33 = .ok (.iconst 1, 1) := by decide +kernel
theorem dX0_readText_34 : decode cX0_readText 34 = .ok (.iadd, 1) := by decide +kernel
theorem dX0_readText_35 : decode cX0_readText 35 = .ok (.putfield 25, 3) := by decide +kernel
theorem dX0_readText_38 : decode cX0_readText 38 = .ok (.aload_n 0, 1) := by decide +kernel
theorem dX0_readText_39 : decode cX0_readText 39 = .ok (.bipush 59, 2) := by decide +kernel
theorem dX0_readText_41 : decode cX0_readText 41 = .ok (.invokevirtual 74, 3) := by decide +kernel
theorem dX0_readText_44 : decode cX0_readText 44 = .ok (.ifCond .ne (-34), 3) := by decide +kernel
theorem dX0_readText_47 : decode cX0_readText 47 = .ok (.aload_n 0, 1) := by decide +kernel
theorem dX0_readText_48 : decode cX0_readText 48 = .ok (.getfield 29, 3) := by decide +kernel
theorem dX0_readText_51 : decode cX0_readText 51 = .ok (.aload_n 0, 1) := by decide +kernel
theorem dX0_readText_52 : decode cX0_readText 52 = .ok (.getfield 12, 3) := by decide +kernel
theorem dX0_readText_55 : decode cX0_readText 55 = .ok (.invokevirtual 32, 3) := by decide +kernel
theorem dX0_readText_58 : decode cX0_readText 58 = .ok (.if_icmp .ne 7, 3) := by decide +kernel
theorem dX0_readText_61 : decode cX0_readText 61 = .ok (.iconst 1, 1) := by decide +kernel
theorem dX0_readText_62 : decode cX0_readText 62 = .ok (.goto 4, 3) := by decide +kernel
theorem dX0_readText_65 : decode cX0_readText 65 = .ok (.iconst 0, 1) := by decide +kernel
theorem dX0_readText_66 : decode cX0_readText 66 = .ok (.ireturn, 1) := by decide +kernel
theorem dX0_readText_67 : decode cX0_readText 67 = .ok (.iconst 0, 1) := by decide +kernel
theorem dX0_readText_68 : decode cX0_readText 68 = .ok (.ireturn, 1) := by decide +kernel
theorem dX0_readCommand_0 : decode cX0_readCommand 0 = .ok (.aload_n 0, 1) := by decide +kernel
theorem dX0_readCommand_1 : decode cX0_readCommand 1 = .ok (.getfield 29, 3) := by decide +kernel
theorem dX0_readCommand_4 : decode cX0_readCommand 4 = .ok (.istore_n 1, 1) := by decide +kernel
theorem dX0_readCommand_5 : decode cX0_readCommand 5 = .ok (.iload_n 1, 1) := by decide +kernel
theorem dX0_readCommand_6 : decode cX0_readCommand 6 = .ok (.istore_n 2, 1) := by decide +kernel
theorem dX0_readCommand_7 : decode cX0_readCommand 7 = .ok (.iconst 0, 1) := by decide +kernel
theorem dX0_readCommand_8 : decode cX0_readCommand 8 = .ok (.istore_n 3, 1) := by decide +kernel
theorem dX0_readCommand_9 : decode cX0_readCommand 9 = .ok (.iload_n 3, 1) := by decide +kernel
theorem dX0_readCommand_10 : decode cX0_readCommand 10 = .ok (.bipush 13, 2) := by decide +kernel
theorem dX0_readCommand_12 : decode cX0_readCommand 12 = .ok (.if_icmp .ge 46, 3) := by decide +kernel
theorem dX0_readCommand_15 : decode cX0_readCommand 15 = .ok (.aload_n 0, 1) := by decide +kernel
theorem dX0_readCommand_16 : decode cX0_readCommand 16 = .ok (.iload_n 1, 1) := by decide +kernel
theorem dX0_readCommand_17 : decode cX0_readCommand 17 = .ok (.putfield 29, 3) := by decide +kernel
theorem dX0_readCommand_20 : decode cX0_readCommand 20 = .ok (.aload_n 0, 1) := by decide +kernel
theorem dX0_readCommand_21 : decode cX0_readCommand 21 = .ok (.iload_n 3, 1) := by decide +kernel
theorem dX0_readCommand_22 : decode cX0_readCommand 22 = .ok (.invokestatic 78, 3) := by decide +kernel
theorem dX0_readCommand_25 : decode cX0_readCommand 25 = .ok (.invokevirtual 82, 3) := by decide +kernel
theorem dX0_readCommand_28 : decode cX0_readCommand 28 = .ok (.ifCond .eq 15, 3) := by decide +kernel
theorem dX0_readCommand_31 : decode cX0_readCommand 31 = .ok (.aload_n 0, 1) := by decide +kernel
theorem dX0_readCommand_32 : decode cX0_readCommand 32 = .ok (.getfield 18, 3) := by decide +kernel
theorem dX0_readCommand_35 : decode cX0_readCommand 35 = .ok (.aload_n 0, 1) := by decide +kernel
theorem dX0_readCommand_36 : decode cX0_readCommand 36 = .ok (.getfield 25, 3) := by decide +kernel
theorem dX0_readCommand_39 : decode cX0_readCommand 39 = .ok (.iload_n 3, 1) := by decide +kernel
theorem dX0_readCommand_40 : decode cX0_readCommand 40 = .ok (.iastore, 1) := by decide +kernel
theorem dX0_readCommand_41 : decode cX0_readCommand 41 = .ok (.iconst 1, 1) := by decide +kernel
theorem dX0_readCommand_42 : decode cX0_readCommand 42 = .ok (.ireturn, 1) := by decide +kernel
theorem dX0_readCommand_43 : decode cX0_readCommand 43 = .ok (.iload_n 2, 1) := by decide +kernel
theorem dX0_readCommand_44 : decode cX0_readCommand 44 = .ok (.aload_n 0, 1) := by decide +kernel
theorem dX0_readCommand_45 : decode cX0_readCommand 45 = .ok (.getfield 29, 3) := by decide +kernel
theorem dX0_readCommand_48 : decode cX0_readCommand 48 = .ok (.invokestatic 86, 3) := by decide +kernel
theorem dX0_readCommand_51 : decode cX0_readCommand 51 = .ok (.istore_n 2, 1) := by decide +kernel
theorem dX0_readCommand_52 : decode cX0_readCommand 52 = .ok (.iinc 3 1, 3) := by decide +kernel
theorem dX0_readCommand_55 : decode cX0_readCommand 55 = .ok (.goto (-46), 3) := by decide +kernel
theorem dX0_readCommand_58 : decode cX0_readCommand 58 = .ok (.aload_n 0, 1) := by decide +kernel
theorem dX0_readCommand_59 : decode cX0_readCommand 59 = .ok (.iload_n 2, 1) := by decide +kernel
theorem dX0_readCommand_60 : decode cX0_readCommand 60 = .ok (.putfield 29, 3) := by decide +kernel
theorem dX0_readCommand_63 : decode cX0_readCommand 63 = .ok (.iconst 0, 1) := by decide +kernel
theorem dX0_readCommand_64 : decode cX0_readCommand 64 = .ok (.ireturn, 1) := by decide +kernel
theorem dX0_readForm_0 : decode cX0_readForm 0 = .ok (.iconst 2, 1) := by decide +kernel
theorem dX0_readForm_1 : decode cX0_readForm 1 = .ok (.aload_n 0, 1) := by decide +kernel
theorem dX0_readForm_2 : decode cX0_readForm 2 = .ok (.getfield 25, 3) := by decide +kernel
theorem dX0_readForm_5 : decode cX0_readForm 5 = .ok (.imul, 1) := by decide +kernel
theorem dX0_readForm_6 : decode cX0_readForm 6 = .ok (.istore_n 2, 1) := by decide +kernel
theorem dX0_readForm_7 : decode cX0_readForm 7 = .ok (.iconst 0, 1) := by decide +kernel
theorem dX0_readForm_8 : decode cX0_readForm 8 = .ok (.istore_n 3, 1) := by decide +kernel
theorem dX0_readForm_9 : decode cX0_readForm 9 = .ok (.iload_n 3, 1) := by decide +kernel
theorem dX0_readForm_10 : decode cX0_readForm 10 = .ok (.aload_n 1, 1) := by decide +kernel
theorem dX0_readForm_11 : decode cX0_readForm 11 = .ok (.invokevirtual 92, 3) := by decide +kernel
theorem dX0_readForm_14 : decode cX0_readForm 14 = .ok (.if_icmp .ge 69, 3) := by decide +kernel
theorem dX0_readForm_17 : decode cX0_readForm 17 = .ok (.aload_n 1, 1) := by decide +kernel
theorem dX0_readForm_18 : decode cX0_readForm 18 = .ok (.iload_n 3, 1) := by decide +kernel
theorem dX0_readForm_19 : decode cX0_readForm 19 = .ok (.invokevirtual 95, 3) := by decide +kernel
theorem dX0_readForm_22 : decode cX0_readForm 22 = .ok (.istore 4, 2) := by decide +kernel
theorem dX0_readForm_24 : decode cX0_readForm 24 = .ok (.iload 4, 2) := by decide +kernel
theorem dX0_readForm_26 : decode cX0_readForm 26 = .ok (.bipush 57, 2) := by decide +kernel
theorem dX0_readForm_28 : decode cX0_readForm 28 = .ok (.if_icmp .eq 10, 3) := by decide +kernel
theorem dX0_readForm_31 : decode cX0_readForm 31 = .ok (.iload 4, 2) := by decide +kernel
theorem dX0_readForm_33 : decode cX0_readForm 33 = .ok (.bipush 35, 2) := by decide +kernel
theorem dX0_readForm_35 : decode cX0_readForm 35 = .ok (.if_icmp .ne 31, 3) := by decide +kernel
theorem dX0_readForm_38 : decode cX0_readForm 38 = .ok (.aload_n 0, 1) := by decide +kernel
theorem dX0_readForm_39 : decode cX0_readForm 39 = .ok (.iload 4, 2) := by decide +kernel
theorem dX0_readForm_41 : decode cX0_readForm 41 = .ok (.bipush 57, 2) := by decide +kernel
theorem dX0_readForm_43 : decode cX0_readForm 43 = .ok (.if_icmp .ne 7, 3) := by decide +kernel
theorem dX0_readForm_46 : decode cX0_readForm 46 = .ok (.iconst 1, 1) := by decide +kernel
theorem dX0_readForm_47 : decode cX0_readForm 47 = .ok (.goto 4, 3) := by decide +kernel
theorem dX0_readForm_50 : decode cX0_readForm 50 = .ok (.iconst 3, 1) := by decide +kernel
theorem dX0_readForm_51 : decode cX0_readForm 51 = .ok (.iload_n 2, 1) := by decide +kernel
theorem dX0_readForm_52 : decode cX0_readForm 52 = .ok (.invokevirtual 99, 3) := by decide +kernel
theorem dX0_readForm_55 : decode cX0_readForm 55 = .ok (.ifCond .ne 5, 3) := by decide +kernel
theorem dX0_readForm_58 : decode cX0_readForm 58 = .ok (.iconst 0, 1) := by decide +kernel
theorem dX0_readForm_59 : decode cX0_readForm 59 = .ok (.ireturn, 1) := by decide +kernel
theorem dX0_readForm_60 : decode cX0_readForm 60 = .ok (.iinc 2 1, 3) := by decide +kernel
theorem dX0_readForm_63 : decode cX0_readForm 63 = .ok (.goto 14, 3) := by decide +kernel
theorem dX0_readForm_66 : decode cX0_readForm 66 = .ok (.aload_n 0, 1) := by decide +kernel
theorem dX0_readForm_67 : decode cX0_readForm 67 = .ok (.iload 4, 2) := by decide +kernel
theorem dX0_readForm_69 : decode cX0_readForm 69 = .ok (.invokevirtual 74, 3) := by decide +kernel
theorem dX0_readForm_72 : decode cX0_readForm 72 = .ok (.ifCond .ne 5, 3) := by decide +kernel
theorem dX0_readForm_75 : decode cX0_readForm 75 = .ok (.iconst 0, 1) := by decide +kernel
theorem dX0_readForm_76 : decode cX0_readForm 76 = .ok (.ireturn, 1) := by decide +kernel
theorem dX0_readForm_77 : decode cX0_readForm 77 = .ok (.iinc 3 1, 3) := by decide +kernel
theorem dX0_readForm_80 : decode cX0_readForm 80 = .ok (.goto (-71), 3) := by decide +kernel
theorem dX0_readForm_83 : decode cX0_readForm 83 = .ok (.iconst 1, 1) := by decide +kernel
theorem dX0_readForm_84 : decode cX0_readForm 84 = .ok (.ireturn, 1) := by decide +kernel
theorem dX0_readNumber_0 : decode cX0_readNumber 0 = .ok (.iconst 0, 1) := by decide +kernel
theorem dX0_readNumber_1 : decode cX0_readNumber 1 = .ok (.istore_n 3, 1) := by decide +kernel
theorem dX0_readNumber_2 : decode cX0_readNumber 2 = .ok (.iconst 0, 1) := by decide +kernel
theorem dX0_readNumber_3 : decode cX0_readNumber 3 = .ok (.istore 4, 2) := by decide +kernel
theorem dX0_readNumber_5 : decode cX0_readNumber 5 = .ok (.iload 4, 2) := by decide +kernel
theorem dX0_readNumber_7 : decode cX0_readNumber 7 = .ok (.iload_n 1, 1) := by decide +kernel
theorem dX0_readNumber_8 : decode cX0_readNumber 8 = .ok (.if_icmp .ge 46, 3) := by decide +kernel
theorem dX0_readNumber_11 : decode cX0_readNumber 11 = .ok (.aload_n 0, 1) := by decide +kernel
theorem dX0_readNumber_12 : decode cX0_readNumber 12 = .ok (.invokevirtual 103, 3) := by decide +kernel
theorem dX0_readNumber_15 : decode cX0_readNumber 15 = .ok (.ifCond .eq 39, 3) := by decide +kernel
theorem dX0_readNumber_18 : decode cX0_readNumber 18 = .ok (.bipush 10, 2) := by decide +kernel
theorem dX0_readNumber_20 : decode cX0_readNumber 20 = .ok (.iload_n 3, 1) := by decide +kernel
theorem dX0_readNumber_21 : decode cX0_readNumber 21 = .ok (.imul, 1) := by decide +kernel
theorem dX0_readNumber_22 : decode cX0_readNumber 22 = .ok (.aload_n 0, 1) := by decide +kernel
theorem dX0_readNumber_23 : decode cX0_readNumber 23 = .ok (.getfield 12, 3) := by decide +kernel
theorem dX0_readNumber_26 : decode cX0_readNumber 26 = .ok (.aload_n 0, 1) := by decide +kernel
theorem dX0_readNumber_27 : decode cX0_readNumber 27 = .ok (.getfield 29, 3) := by decide +kernel
theorem dX0_readNumber_30 : decode cX0_readNumber 30 = .ok (.invokevirtual 106, 3) := by decide +kernel
theorem dX0_readNumber_33 : decode cX0_readNumber 33 = .ok (.bipush 48, 2) := by decide +kernel
theorem dX0_readNumber_35 : decode cX0_readNumber 35 = .ok (.isub, 1) := by decide +kernel
theorem dX0_readNumber_36 : decode cX0_readNumber 36 = .ok (.iadd, 1) := by decide +kernel
theorem dX0_readNumber_37 : decode cX0_readNumber 37 = .ok (.istore_n 3, 1) := by decide +kernel
theorem dX0_readNumber_38 : decode cX0_readNumber 38 = .ok (.iinc 4 1, 3) := by decide +kernel
theorem dX0_readNumber_41 : decode cX0_readNumber 41 = .ok (.aload_n 0, 1) := by decide +kernel
theorem dX0_readNumber_42 : decode cX0_readNumber 42 = .ok (.dup, 1) := by decide +kernel
theorem dX0_readNumber_43 : decode cX0_readNumber 43 = .ok (.getfield 29, 3) := by decide +kernel
theorem dX0_readNumber_46 : decode cX0_readNumber 46 = .ok (.iconst 1, 1) := by decide +kernel
theorem dX0_readNumber_47 : decode cX0_readNumber 47 = .ok (.iadd, 1) := by decide +kernel
theorem dX0_readNumber_48 : decode cX0_readNumber 48 = .ok (.putfield 29, 3) := by decide +kernel
theorem dX0_readNumber_51 : decode cX0_readNumber 51 = .ok (.goto (-46), 3) := by decide +kernel
theorem dX0_readNumber_54 : decode cX0_readNumber 54 = .ok (.aload_n 0, 1) := by decide +kernel
theorem dX0_readNumber_55 : decode cX0_readNumber 55 = .ok (.getfield 22, 3) := by decide +kernel
theorem dX0_readNumber_58 : decode cX0_readNumber 58 = .ok (.iload_n 2, 1) := by decide +kernel
theorem dX0_readNumber_59 : decode cX0_readNumber 59 = .ok (.iload_n 3, 1) := by decide +kernel
theorem dX0_readNumber_60 : decode cX0_readNumber 60 = .ok (.iastore, 1) := by decide +kernel
theorem dX0_readNumber_61 : decode cX0_readNumber 61 = .ok (.iload 4, 2) := by decide +kernel
theorem dX0_readNumber_63 : decode cX0_readNumber 63 = .ok (.ifCond .le 7, 3) := by decide +kernel
theorem dX0_readNumber_66 : decode cX0_readNumber 66 = .ok (.iconst 1, 1) := by decide +kernel
theorem dX0_readNumber_67 : decode cX0_readNumber 67 = .ok (.goto 4, 3) := by decide +kernel
theorem dX0_readNumber_70 : decode cX0_readNumber 70 = .ok (.iconst 0, 1) := by decide +kernel
theorem dX0_readNumber_71 : decode cX0_readNumber 71 = .ok (.ireturn, 1) := by decide +kernel
theorem dX0_isAtDigit_0 : decode cX0_isAtDigit 0 = .ok (.aload_n 0, 1) := by decide +kernel
theorem dX0_isAtDigit_1 : decode cX0_isAtDigit 1 = .ok (.getfield 29, 3) := by decide +kernel
theorem dX0_isAtDigit_4 : decode cX0_isAtDigit 4 = .ok (.aload_n 0, 1) := by decide +kernel
theorem dX0_isAtDigit_5 : decode cX0_isAtDigit 5 = .ok (.getfield 12, 3) := by decide +kernel
theorem dX0_isAtDigit_8 : decode cX0_isAtDigit 8 = .ok (.invokevirtual 32, 3) := by decide +kernel
theorem dX0_isAtDigit_11 : decode cX0_isAtDigit 11 = .ok (.if_icmp .ge 39, 3) := by decide +kernel
theorem dX0_isAtDigit_14 : decode cX0_isAtDigit 14 = .ok (.aload_n 0, 1) := by decide +kernel
theorem dX0_isAtDigit_15 : decode cX0_isAtDigit 15 = .ok (.getfield 12, 3) := by decide +kernel
theorem dX0_isAtDigit_18 : decode cX0_isAtDigit 18 = .ok (.aload_n 0, 1) := by decide +kernel
theorem dX0_isAtDigit_19 : decode cX0_isAtDigit 19 = .ok (.getfield 29, 3) := by decide +kernel
theorem dX0_isAtDigit_22 : decode cX0_isAtDigit 22 = .ok (.invokevirtual 106, 3) := by decide +kernel
theorem dX0_isAtDigit_25 : decode cX0_isAtDigit 25 = .ok (.bipush 48, 2) := by decide +kernel
theorem dX0_isAtDigit_27 : decode cX0_isAtDigit 27 = .ok (.if_icmp .lt 23, 3) := by decide +kernel
theorem dX0_isAtDigit_30 : decode cX0_isAtDigit 30 = .ok (.aload_n 0, 1) := by decide +kernel
theorem dX0_isAtDigit_31 : decode cX0_isAtDigit 31 = .ok (.getfield 12, 3) := by decide +kernel
theorem dX0_isAtDigit_34 : decode cX0_isAtDigit 34 = .ok (.aload_n 0, 1) := by decide +kernel
theorem dX0_isAtDigit_35 : decode cX0_isAtDigit 35 = .ok (.getfield 29, 3) := by decide +kernel
theorem dX0_isAtDigit_38 : decode cX0_isAtDigit 38 = .ok (.invokevirtual 106, 3) := by decide +kernel
theorem dX0_isAtDigit_41 : decode cX0_isAtDigit 41 = .ok (.bipush 57, 2) := by decide +kernel
theorem dX0_isAtDigit_43 : decode cX0_isAtDigit 43 = .ok (.if_icmp .gt 7, 3) := by decide +kernel
theorem dX0_isAtDigit_46 : decode cX0_isAtDigit 46 = .ok (.iconst 1, 1) := by decide +kernel
theorem dX0_isAtDigit_47 : decode cX0_isAtDigit 47 = .ok (.goto 4, 3) := by decide +kernel
theorem dX0_isAtDigit_50 : decode cX0_isAtDigit 50 = .ok (.iconst 0, 1) := by decide +kernel
theorem dX0_isAtDigit_51 : decode cX0_isAtDigit 51 = .ok (.ireturn, 1) := by decide +kernel
theorem dX0_readSign_0 : decode cX0_readSign 0 = .ok (.aload_n 0, 1) := by decide +kernel
theorem dX0_readSign_1 : decode cX0_readSign 1 = .ok (.getfield 29, 3) := by decide +kernel
theorem dX0_readSign_4 : decode cX0_readSign 4 = .ok (.aload_n 0, 1) := by decide +kernel
theorem dX0_readSign_5 : decode cX0_readSign 5 = .ok (.getfield 12, 3) := by decide +kernel
theorem dX0_readSign_8 : decode cX0_readSign 8 = .ok (.invokevirtual 32, 3) := by decide +kernel
theorem dX0_readSign_11 : decode cX0_readSign 11 = .ok (.if_icmp .ge 30, 3) := by decide +kernel
theorem dX0_readSign_14 : decode cX0_readSign 14 = .ok (.aload_n 0, 1) := by decide +kernel
theorem dX0_readSign_15 : decode cX0_readSign 15 = .ok (.getfield 12, 3) := by decide +kernel
theorem dX0_readSign_18 : decode cX0_readSign 18 = .ok (.aload_n 0, 1) := by decide +kernel
theorem dX0_readSign_19 : decode cX0_readSign 19 = .ok (.getfield 29, 3) := by decide +kernel
theorem dX0_readSign_22 : decode cX0_readSign 22 = .ok (.invokevirtual 106, 3) := by decide +kernel
theorem dX0_readSign_25 : decode cX0_readSign 25 = .ok (.iload_n 1, 1) := by decide +kernel
theorem dX0_readSign_26 : decode cX0_readSign 26 = .ok (.if_icmp .ne 15, 3) := by decide +kernel
theorem dX0_readSign_29 : decode cX0_readSign 29 = .ok (.aload_n 0, 1) := by decide +kernel
theorem dX0_readSign_30 : decode cX0_readSign 30 = .ok (.dup, 1) := by decide +kernel
theorem dX0_readSign_31 : decode cX0_readSign 31 = .ok (.getfield 29, 3) := by decide +kernel
theorem dX0_readSign_34 : decode cX0_readSign 34 = .ok (.iconst 1, 1) := by decide +kernel
theorem dX0_readSign_35 : decode cX0_readSign 35 = .ok (.iadd, 1) := by decide +kernel
theorem dX0_readSign_36 : decode cX0_readSign 36 = .ok (.putfield 29, 3) := by decide +kernel
theorem dX0_readSign_39 : decode cX0_readSign 39 = .ok (.iconst 1, 1) := by decide +kernel
theorem dX0_readSign_40 : decode cX0_readSign 40 = .ok (.ireturn, 1) := by decide +kernel
theorem dX0_readSign_41 : decode cX0_readSign 41 = .ok (.iconst 0, 1) := by decide +kernel
theorem dX0_readSign_42 : decode cX0_readSign 42 = .ok (.ireturn, 1) := by decide +kernel
theorem dX0_faultOf_0 : decode cX0_faultOf 0 = .ok (.aload_n 0, 1) := by decide +kernel
theorem dX0_faultOf_1 : decode cX0_faultOf 1 = .ok (.getfield 22, 3) := by decide +kernel
theorem dX0_faultOf_4 : decode cX0_faultOf 4 = .ok (.iconst 2, 1) := by decide +kernel
theorem dX0_faultOf_5 : decode cX0_faultOf 5 = .ok (.iload_n 1, 1) := by decide +kernel
theorem dX0_faultOf_6 : decode cX0_faultOf 6 = .ok (.imul, 1) := by decide +kernel
theorem dX0_faultOf_7 : decode cX0_faultOf 7 = .ok (.iaload, 1) := by decide +kernel
theorem dX0_faultOf_8 : decode cX0_faultOf 8 = .ok (.istore_n 3, 1) := by decide +kernel
theorem dX0_faultOf_9 : decode cX0_faultOf 9 = .ok (.aload_n 0, 1) := by decide +kernel
theorem dX0_faultOf_10 : decode cX0_faultOf 10 = .ok (.getfield 22, 3) := by decide +kernel
theorem dX0_faultOf_13 : decode cX0_faultOf 13 = .ok (.iconst 2, 1) := by decide +kernel
theorem dX0_faultOf_14 : decode cX0_faultOf 14 = .ok (.iload_n 1, 1) := by decide +kernel
theorem dX0_faultOf_15 : decode cX0_faultOf 15 = .ok (.imul, 1) := by decide +kernel
theorem dX0_faultOf_16 : decode cX0_faultOf 16 = .ok (.iconst 1, 1) := by decide +kernel
theorem dX0_faultOf_17 : decode cX0_faultOf 17 = .ok (.iadd, 1) := by decide +kernel
theorem dX0_faultOf_18 : decode cX0_faultOf 18 = .ok (.iaload, 1) := by decide +kernel
theorem dX0_faultOf_19 : decode cX0_faultOf 19 = .ok (.istore 4, 2) := by decide +kernel
theorem dX0_faultOf_21 : decode cX0_faultOf 21 = .ok (.aload_n 0, 1) := by decide +kernel
theorem dX0_faultOf_22 : decode cX0_faultOf 22 = .ok (.getfield 18, 3) := by decide +kernel
theorem dX0_faultOf_25 : decode cX0_faultOf 25 = .ok (.iload_n 1, 1) := by decide +kernel
theorem dX0_faultOf_26 : decode cX0_faultOf 26 = .ok (.iaload, 1) := by decide +kernel
theorem dX0_faultOf_27 : decode cX0_faultOf 27 = .ok (.tableswitch 135 0 11 #[61, 67, 73, 81, 87, 87, 95, 103, 111, 117, 123, 129], 61) := by decide +kernel
theorem dX0_faultOf_88 : decode cX0_faultOf 88 = .ok (.aload_n 2, 1) := by decide +kernel
theorem dX0_faultOf_89 : decode cX0_faultOf 89 = .ok (.iload_n 3, 1) := by decide +kernel
theorem dX0_faultOf_90 : decode cX0_faultOf 90 = .ok (.invokevirtual 107, 3) := by decide +kernel
theorem dX0_faultOf_93 : decode cX0_faultOf 93 = .ok (.ireturn, 1) := by decide +kernel
theorem dX0_faultOf_94 : decode cX0_faultOf 94 = .ok (.aload_n 2, 1) := by decide +kernel
theorem dX0_faultOf_95 : decode cX0_faultOf 95 = .ok (.iload_n 3, 1) := by decide +kernel
theorem dX0_faultOf_96 : decode cX0_faultOf 96 = .ok (.invokevirtual 113, 3) := by decide +kernel
theorem dX0_faultOf_99 : decode cX0_faultOf 99 = .ok (.ireturn, 1) := by decide +kernel
theorem dX0_faultOf_100 : decode cX0_faultOf 100 = .ok (.aload_n 2, 1) := by decide +kernel
theorem dX0_faultOf_101 : decode cX0_faultOf 101 = .ok (.iload_n 3, 1) := by decide +kernel
theorem dX0_faultOf_102 : decode cX0_faultOf 102 = .ok (.iload 4, 2) := by decide +kernel
theorem dX0_faultOf_104 : decode cX0_faultOf 104 = .ok (.invokevirtual 116, 3) := by decide +kernel
theorem dX0_faultOf_107 : decode cX0_faultOf 107 = .ok (.ireturn, 1) := by decide +kernel
theorem dX0_faultOf_108 : decode cX0_faultOf 108 = .ok (.aload_n 2, 1) := by decide +kernel
theorem dX0_faultOf_109 : decode cX0_faultOf 109 = .ok (.iload_n 3, 1) := by decide +kernel
theorem dX0_faultOf_110 : decode cX0_faultOf 110 = .ok (.invokevirtual 119, 3) := by decide +kernel
theorem dX0_faultOf_113 : decode cX0_faultOf 113 = .ok (.ireturn, 1) := by decide +kernel
theorem dX0_faultOf_114 : decode cX0_faultOf 114 = .ok (.aload_n 2, 1) := by decide +kernel
theorem dX0_faultOf_115 : decode cX0_faultOf 115 = .ok (.iload_n 3, 1) := by decide +kernel
theorem dX0_faultOf_116 : decode cX0_faultOf 116 = .ok (.iload 4, 2) := by decide +kernel
theorem dX0_faultOf_118 : decode cX0_faultOf 118 = .ok (.invokevirtual 122, 3) := by decide +kernel
theorem dX0_faultOf_121 : decode cX0_faultOf 121 = .ok (.ireturn, 1) := by decide +kernel
theorem dX0_faultOf_122 : decode cX0_faultOf 122 = .ok (.aload_n 2, 1) := by decide +kernel
theorem dX0_faultOf_123 : decode cX0_faultOf 123 = .ok (.iload_n 3, 1) := by decide +kernel
theorem dX0_faultOf_124 : decode cX0_faultOf 124 = .ok (.iload 4, 2) := by decide +kernel
theorem dX0_faultOf_126 : decode cX0_faultOf 126 = .ok (.invokevirtual 125, 3) := by decide +kernel
theorem dX0_faultOf_129 : decode cX0_faultOf 129 = .ok (.ireturn, 1) := by decide +kernel
theorem dX0_faultOf_130 : decode cX0_faultOf 130 = .ok (.aload_n 2, 1) := by decide +kernel
theorem dX0_faultOf_131 : decode cX0_faultOf 131 = .ok (.iload_n 3, 1) := by decide +kernel
theorem dX0_faultOf_132 : decode cX0_faultOf 132 = .ok (.iload 4, 2) := by decide +kernel
theorem dX0_faultOf_134 : decode cX0_faultOf 134 = .ok (.invokevirtual 128, 3) := by decide +kernel
theorem dX0_faultOf_137 : decode cX0_faultOf 137 = .ok (.ireturn, 1) := by decide +kernel
theorem dX0_faultOf_138 : decode cX0_faultOf 138 = .ok (.aload_n 2, 1) := by decide +kernel
theorem dX0_faultOf_139 : decode cX0_faultOf 139 = .ok (.iload_n 3, 1) := by decide +kernel
theorem dX0_faultOf_140 : decode cX0_faultOf 140 = .ok (.invokevirtual 131, 3) := by decide +kernel
theorem dX0_faultOf_143 : decode cX0_faultOf 143 = .ok (.ireturn, 1) := by decide +kernel
theorem dX0_faultOf_144 : decode cX0_faultOf 144 = .ok (.aload_n 2, 1) := by decide +kernel
theorem dX0_faultOf_145 : decode cX0_faultOf 145 = .ok (.iload_n 3, 1) := by decide +kernel
theorem dX0_faultOf_146 : decode cX0_faultOf 146 = .ok (.invokevirtual 134, 3) := by decide +kernel
theorem dX0_faultOf_149 : decode cX0_faultOf 149 = .ok (.ireturn, 1) := by decide +kernel
theorem dX0_faultOf_150 : decode cX0_faultOf 150 = .ok (.aload_n 2, 1) := by decide +kernel
theorem dX0_faultOf_151 : decode cX0_faultOf 151 = .ok (.iload_n 3, 1) := by decide +kernel
theorem dX0_faultOf_152 : decode cX0_faultOf 152 = .ok (.invokevirtual 137, 3) := by decide +kernel
theorem dX0_faultOf_155 : decode cX0_faultOf 155 = .ok (.ireturn, 1) := by decide +kernel
theorem dX0_faultOf_156 : decode cX0_faultOf 156 = .ok (.aload_n 2, 1) := by decide +kernel
theorem dX0_faultOf_157 : decode cX0_faultOf 157 = .ok (.iload_n 3, 1) := by decide +kernel
theorem dX0_faultOf_158 : decode cX0_faultOf 158 = .ok (.invokevirtual 140, 3) := by decide +kernel
theorem dX0_faultOf_161 : decode cX0_faultOf 161 = .ok (.ireturn, 1) := by decide +kernel
theorem dX0_faultOf_162 : decode cX0_faultOf 162 = .ok (.aload_n 2, 1) := by decide +kernel
theorem dX0_faultOf_163 : decode cX0_faultOf 163 = .ok (.iload_n 3, 1) := by decide +kernel
theorem dX0_faultOf_164 : decode cX0_faultOf 164 = .ok (.invokevirtual 143, 3) := by decide +kernel
theorem dX0_faultOf_167 : decode cX0_faultOf 167 = .ok (.ireturn, 1) := by decide +kernel
theorem dX0_carryOut_0 : decode cX0_carryOut 0 = .ok (.aload_n 0, 1) := by decide +kernel
theorem dX0_carryOut_1 : decode cX0_carryOut 1 = .ok (.getfield 22, 3) := by decide +kernel
theorem dX0_carryOut_4 : decode cX0_carryOut 4 = .ok (.iconst 2, 1) := by decide +kernel
theorem dX0_carryOut_5 : decode cX0_carryOut 5 = .ok (.iload_n 1, 1) := by decide +kernel
theorem dX0_carryOut_6 : decode cX0_carryOut 6 = .ok (.imul, 1) := by decide +kernel
theorem dX0_carryOut_7 : decode cX0_carryOut 7 = .ok (.iaload, 1) := by decide +kernel
theorem dX0_carryOut_8 : decode cX0_carryOut 8 = .ok (.istore_n 3, 1) := by decide +kernel
theorem dX0_carryOut_9 : decode cX0_carryOut 9 = .ok (.aload_n 0, 1) := by decide +kernel
theorem dX0_carryOut_10 : decode cX0_carryOut 10 = .ok (.getfield 22, 3) := by decide +kernel
theorem dX0_carryOut_13 : decode cX0_carryOut 13 = .ok (.iconst 2, 1) := by decide +kernel
theorem dX0_carryOut_14 : decode cX0_carryOut 14 = .ok (.iload_n 1, 1) := by decide +kernel
theorem dX0_carryOut_15 : decode cX0_carryOut 15 = .ok (.imul, 1) := by decide +kernel
theorem dX0_carryOut_16 : decode cX0_carryOut 16 = .ok (.iconst 1, 1) := by decide +kernel
theorem dX0_carryOut_17 : decode cX0_carryOut 17 = .ok (.iadd, 1) := by decide +kernel
theorem dX0_carryOut_18 : decode cX0_carryOut 18 = .ok (.iaload, 1) := by decide +kernel
theorem dX0_carryOut_19 : decode cX0_carryOut 19 = .ok (.istore 4, 2) := by decide +kernel
theorem dX0_carryOut_21 : decode cX0_carryOut 21 = .ok (.aload_n 0, 1) := by decide +kernel
theorem dX0_carryOut_22 : decode cX0_carryOut 22 = .ok (.getfield 18, 3) := by decide +kernel
theorem dX0_carryOut_25 : decode cX0_carryOut 25 = .ok (.iload_n 1, 1) := by decide +kernel
theorem dX0_carryOut_26 : decode cX0_carryOut 26 = .ok (.iaload, 1) := by decide +kernel
theorem dX0_carryOut_27 : decode cX0_carryOut 27 = .ok (.tableswitch 185 0 11 #[61, 70, 79, 90, 99, 112, 125, 138, 149, 158, 167, 176], 61) := by decide +kernel
theorem dX0_carryOut_88 : decode cX0_carryOut 88 = .ok (.aload_n 2, 1) := by decide +kernel
theorem dX0_carryOut_89 : decode cX0_carryOut 89 = .ok (.iload_n 3, 1) := by decide +kernel
theorem dX0_carryOut_90 : decode cX0_carryOut 90 = .ok (.invokevirtual 146, 3) := by decide +kernel
theorem dX0_carryOut_93 : decode cX0_carryOut 93 = .ok (.pop, 1) := by decide +kernel
theorem dX0_carryOut_94 : decode cX0_carryOut 94 = .ok (.goto 124, 3) := by decide +kernel
theorem dX0_carryOut_97 : decode cX0_carryOut 97 = .ok (.aload_n 2, 1) := by decide +kernel
theorem dX0_carryOut_98 : decode cX0_carryOut 98 = .ok (.iload_n 3, 1) := by decide +kernel
theorem dX0_carryOut_99 : decode cX0_carryOut 99 = .ok (.invokevirtual 149, 3) := by decide +kernel
theorem dX0_carryOut_102 : decode cX0_carryOut 102 = .ok (.pop, 1) := by decide +kernel
theorem dX0_carryOut_103 : decode cX0_carryOut 103 = .ok (.goto 115, 3) := by decide +kernel
theorem dX0_carryOut_106 : decode cX0_carryOut 106 = .ok (.aload_n 2, 1) := by decide +kernel
theorem dX0_carryOut_107 : decode cX0_carryOut 107 = .ok (.iload_n 3, 1) := by decide +kernel
theorem dX0_carryOut_108 : decode cX0_carryOut 108 = .ok (.iload 4, 2) := by decide +kernel
theorem dX0_carryOut_110 : decode cX0_carryOut 110 = .ok (.invokevirtual 152, 3) := by decide +kernel
theorem dX0_carryOut_113 : decode cX0_carryOut 113 = .ok (.pop, 1) := by decide +kernel
theorem dX0_carryOut_114 : decode cX0_carryOut 114 = .ok (.goto 104, 3) := by decide +kernel
theorem dX0_carryOut_117 : decode cX0_carryOut 117 = .ok (.aload_n 2, 1) := by decide +kernel
theorem dX0_carryOut_118 : decode cX0_carryOut 118 = .ok (.iload_n 3, 1) := by decide +kernel
theorem dX0_carryOut_119 : decode cX0_carryOut 119 = .ok (.invokevirtual 155, 3) := by decide +kernel
theorem dX0_carryOut_122 : decode cX0_carryOut 122 = .ok (.pop, 1) := by decide +kernel
theorem dX0_carryOut_123 : decode cX0_carryOut 123 = .ok (.goto 95, 3) := by decide +kernel
theorem dX0_carryOut_126 : decode cX0_carryOut 126 = .ok (.aload_n 2, 1) := by decide +kernel
theorem dX0_carryOut_127 : decode cX0_carryOut 127 = .ok (.bipush 114, 2) := by decide +kernel
theorem dX0_carryOut_129 : decode cX0_carryOut 129 = .ok (.iload_n 3, 1) := by decide +kernel
theorem dX0_carryOut_130 : decode cX0_carryOut 130 = .ok (.iload 4, 2) := by decide +kernel
theorem dX0_carryOut_132 : decode cX0_carryOut 132 = .ok (.invokevirtual 158, 3) := by decide +kernel
theorem dX0_carryOut_135 : decode cX0_carryOut 135 = .ok (.pop, 1) := by decide +kernel
theorem dX0_carryOut_136 : decode cX0_carryOut 136 = .ok (.goto 82, 3) := by decide +kernel
theorem dX0_carryOut_139 : decode cX0_carryOut 139 = .ok (.aload_n 2, 1) := by decide +kernel
theorem dX0_carryOut_140 : decode cX0_carryOut 140 = .ok (.bipush 116, 2) := by decide +kernel
theorem dX0_carryOut_142 : decode cX0_carryOut 142 = .ok (.iload_n 3, 1) := by decide +kernel
theorem dX0_carryOut_143 : decode cX0_carryOut 143 = .ok (.iload 4, 2) := by decide +kernel
theorem dX0_carryOut_145 : decode cX0_carryOut 145 = .ok (.invokevirtual 158, 3) := by decide +kernel
theorem dX0_carryOut_148 : decode cX0_carryOut 148 = .ok (.pop, 1) := by decide +kernel
theorem dX0_carryOut_149 : decode cX0_carryOut 149 = .ok (.goto 69, 3) := by decide +kernel
theorem dX0_carryOut_152 : decode cX0_carryOut 152 = .ok (.aload_n 2, 1) := by decide +kernel
theorem dX0_carryOut_153 : decode cX0_carryOut 153 = .ok (.bipush 103, 2) := by decide +kernel
theorem dX0_carryOut_155 : decode cX0_carryOut 155 = .ok (.iload_n 3, 1) := by decide +kernel
theorem dX0_carryOut_156 : decode cX0_carryOut 156 = .ok (.iload 4, 2) := by decide +kernel
theorem dX0_carryOut_158 : decode cX0_carryOut 158 = .ok (.invokevirtual 158, 3) := by decide +kernel
theorem dX0_carryOut_161 : decode cX0_carryOut 161 = .ok (.pop, 1) := by decide +kernel
theorem dX0_carryOut_162 : decode cX0_carryOut 162 = .ok (.goto 56, 3) := by decide +kernel
theorem dX0_carryOut_165 : decode cX0_carryOut 165 = .ok (.aload_n 2, 1) := by decide +kernel
theorem dX0_carryOut_166 : decode cX0_carryOut 166 = .ok (.iload_n 3, 1) := by decide +kernel
theorem dX0_carryOut_167 : decode cX0_carryOut 167 = .ok (.iload 4, 2) := by decide +kernel
theorem dX0_carryOut_169 : decode cX0_carryOut 169 = .ok (.invokevirtual 162, 3) := by decide +kernel
theorem dX0_carryOut_172 : decode cX0_carryOut 172 = .ok (.pop, 1) := by decide +kernel
theorem dX0_carryOut_173 : decode cX0_carryOut 173 = .ok (.goto 45, 3) := by decide +kernel
theorem dX0_carryOut_176 : decode cX0_carryOut 176 = .ok (.aload_n 2, 1) := by decide +kernel
theorem dX0_carryOut_177 : decode cX0_carryOut 177 = .ok (.iload_n 3, 1) := by decide +kernel
theorem dX0_carryOut_178 : decode cX0_carryOut 178 = .ok (.invokevirtual 165, 3) := by decide +kernel
theorem dX0_carryOut_181 : decode cX0_carryOut 181 = .ok (.pop, 1) := by decide +kernel
theorem dX0_carryOut_182 : decode cX0_carryOut 182 = .ok (.goto 36, 3) := by decide +kernel
theorem dX0_carryOut_185 : decode cX0_carryOut 185 = .ok (.aload_n 2, 1) := by decide +kernel
theorem dX0_carryOut_186 : decode cX0_carryOut 186 = .ok (.iload_n 3, 1) := by decide +kernel
theorem dX0_carryOut_187 : decode cX0_carryOut 187 = .ok (.invokevirtual 168, 3) := by decide +kernel
theorem dX0_carryOut_190 : decode cX0_carryOut 190 = .ok (.pop, 1) := by decide +kernel
theorem dX0_carryOut_191 : decode cX0_carryOut 191 = .ok (.goto 27, 3) := by decide +kernel
theorem dX0_carryOut_194 : decode cX0_carryOut 194 = .ok (.aload_n 2, 1) := by decide +kernel
theorem dX0_carryOut_195 : decode cX0_carryOut 195 = .ok (.iload_n 3, 1) := by decide +kernel
theorem dX0_carryOut_196 : decode cX0_carryOut 196 = .ok (.invokevirtual 171, 3) := by decide +kernel
theorem dX0_carryOut_199 : decode cX0_carryOut 199 = .ok (.pop, 1) := by decide +kernel
theorem dX0_carryOut_200 : decode cX0_carryOut 200 = .ok (.goto 18, 3) := by decide +kernel
theorem dX0_carryOut_203 : decode cX0_carryOut 203 = .ok (.aload_n 2, 1) := by decide +kernel
theorem dX0_carryOut_204 : decode cX0_carryOut 204 = .ok (.iload_n 3, 1) := by decide +kernel
theorem dX0_carryOut_205 : decode cX0_carryOut 205 = .ok (.invokevirtual 175, 3) := by decide +kernel
theorem dX0_carryOut_208 : decode cX0_carryOut 208 = .ok (.pop, 1) := by decide +kernel
theorem dX0_carryOut_209 : decode cX0_carryOut 209 = .ok (.goto 9, 3) := by decide +kernel
theorem dX0_carryOut_212 : decode cX0_carryOut 212 = .ok (.aload_n 2, 1) := by decide +kernel
theorem dX0_carryOut_213 : decode cX0_carryOut 213 = .ok (.iload_n 3, 1) := by decide +kernel
theorem dX0_carryOut_214 : decode cX0_carryOut 214 = .ok (.invokevirtual 178, 3) := by decide +kernel
theorem dX0_carryOut_217 : decode cX0_carryOut 217 = .ok (.pop, 1) := by decide +kernel
theorem dX0_carryOut_218 : decode cX0_carryOut 218 = .ok (.return_, 1) := by decide +kernel
theorem dX1_init_0 : decode cX1_init 0 = .ok (.aload_n 0, 1) := by decide +kernel
theorem dX1_init_1 : decode cX1_init 1 = .ok (.invokespecial 3, 3) := by decide +kernel
theorem dX1_init_4 : decode cX1_init 4 = .ok (.aload_n 0, 1) := by decide +kernel
theorem dX1_init_5 : decode cX1_init 5 = .ok (.bipush 8, 2) := by decide +kernel
theorem dX1_init_7 : decode cX1_init 7 = .ok (.anewarray 9, 3) := by decide +kernel
theorem dX1_init_10 : decode cX1_init 10 = .ok (.putfield 11, 3) := by decide +kernel
theorem dX1_init_13 : decode cX1_init 13 = .ok (.aload_n 0, 1) := by decide +kernel
theorem dX1_init_14 : decode cX1_init 14 = .ok (.iconst 0, 1) := by decide +kernel
theorem dX1_init_15 : decode cX1_init 15 = .ok (.putfield 17, 3) := by decide +kernel
theorem dX1_init_18 : decode cX1_init 18 = .ok (.aload_n 0, 1) := by decide +kernel
theorem dX1_init_19 : decode cX1_init 19 = .ok (.iconst 0, 1) := by decide +kernel
theorem dX1_init_20 : decode cX1_init 20 = .ok (.putfield 21, 3) := by decide +kernel
theorem dX1_init_23 : decode cX1_init 23 = .ok (.iconst 0, 1) := by decide +kernel
theorem dX1_init_24 : decode cX1_init 24 = .ok (.istore_n 1, 1) := by decide +kernel
theorem dX1_init_25 : decode cX1_init 25 = .ok (.iload_n 1, 1) := by decide +kernel
theorem dX1_init_26 : decode cX1_init 26 = .ok (.bipush 8, 2) := by decide +kernel
theorem dX1_init_28 : decode cX1_init 28 = .ok (.if_icmp .ge 22, 3) := by decide +kernel
theorem dX1_init_31 : decode cX1_init 31 = .ok (.aload_n 0, 1) := by decide +kernel
theorem dX1_init_32 : decode cX1_init 32 = .ok (.getfield 11, 3) := by decide +kernel
theorem dX1_init_35 : decode cX1_init 35 = .ok (.iload_n 1, 1) := by decide +kernel
theorem dX1_init_36 : decode cX1_init 36 = .ok (.new 9, 3) := by decide +kernel
theorem dX1_init_39 : decode cX1_init 39 = .ok (.dup, 1) := by decide +kernel
theorem dX1_init_40 : decode cX1_init 40 = .ok (.invokespecial 24, 3) := by decide +kernel
theorem dX1_init_43 : decode cX1_init 43 = .ok (.aastore, 1) := by decide +kernel
theorem dX1_init_44 : decode cX1_init 44 = .ok (.iinc 1 1, 3) := by decide +kernel
theorem dX1_init_47 : decode cX1_init 47 = .ok (.goto (-22), 3) := by decide +kernel
theorem dX1_init_50 : decode cX1_init 50 = .ok (.return_, 1) := by decide +kernel
theorem dX1_keep_0 : decode cX1_keep 0 = .ok (.aload_n 0, 1) := by decide +kernel
theorem dX1_keep_1 : decode cX1_keep 1 = .ok (.getfield 11, 3) := by decide +kernel
theorem dX1_keep_4 : decode cX1_keep 4 = .ok (.aload_n 0, 1) := by decide +kernel
theorem dX1_keep_5 : decode cX1_keep 5 = .ok (.getfield 17, 3) := by decide +kernel
theorem dX1_keep_8 : decode cX1_keep 8 = .ok (.aaload, 1) := by decide +kernel
theorem dX1_keep_9 : decode cX1_keep 9 = .ok (.astore_n 2, 1) := by decide +kernel
theorem dX1_keep_10 : decode cX1_keep 10 = .ok (.aload_n 2, 1) := by decide +kernel
theorem dX1_keep_11 : decode cX1_keep 11 = .ok (.ifnull 8, 3) := by decide +kernel
theorem dX1_keep_14 : decode cX1_keep 14 = .ok (.aload_n 2, 1) := by decide +kernel
theorem dX1_keep_15 : decode cX1_keep 15 = .ok (.aload_n 1, 1) := by decide +kernel
theorem dX1_keep_16 : decode cX1_keep 16 = .ok (.invokevirtual 25, 3) := by decide +kernel
theorem dX1_keep_19 : decode cX1_keep 19 = .ok (.aload_n 0, 1) := by decide +kernel
theorem dX1_keep_20 : decode cX1_keep 20 = .ok (.aload_n 0, 1) := by decide +kernel
theorem dX1_keep_21 : decode cX1_keep 21 = .ok (.getfield 17, 3) := by decide +kernel
theorem dX1_keep_24 : decode cX1_keep 24 = .ok (.iconst 1, 1) := by decide +kernel
theorem dX1_keep_25 : decode cX1_keep 25 = .ok (.iadd, 1) := by decide +kernel
theorem dX1_keep_26 : decode cX1_keep 26 = .ok (.bipush 8, 2) := by decide +kernel
theorem dX1_keep_28 : decode cX1_keep 28 = .ok (.irem, 1) := by decide +kernel
theorem dX1_keep_29 : decode cX1_keep 29 = .ok (.putfield 17, 3) := by decide +kernel
theorem dX1_keep_32 : decode cX1_keep 32 = .ok (.aload_n 0, 1) := by decide +kernel
theorem dX1_keep_33 : decode cX1_keep 33 = .ok (.aload_n 0, 1) := by decide +kernel
theorem dX1_keep_34 : decode cX1_keep 34 = .ok (.getfield 21, 3) := by decide +kernel
theorem dX1_keep_37 : decode cX1_keep 37 = .ok (.iconst 1, 1) := by decide +kernel
theorem dX1_keep_38 : decode cX1_keep 38 = .ok (.iadd, 1) := by decide +kernel
theorem dX1_keep_39 : decode cX1_keep 39 = .ok (.bipush 8, 2) := by decide +kernel
theorem dX1_keep_41 : decode cX1_keep 41 = .ok (.invokestatic 29, 3) := by decide +kernel
theorem dX1_keep_44 : decode cX1_keep 44 = .ok (.putfield 21, 3) := by decide +kernel
theorem dX1_keep_47 : decode cX1_keep 47 = .ok (.return_, 1) := by decide +kernel
theorem dX1_takeBack_0 : decode cX1_takeBack 0 = .ok (.aload_n 0, 1) := by decide +kernel
theorem dX1_takeBack_1 : decode cX1_takeBack 1 = .ok (.aload_n 0, 1) := by decide +kernel
theorem dX1_takeBack_2 : decode cX1_takeBack 2 = .ok (.getfield 17, 3) := by decide +kernel
theorem dX1_takeBack_5 : decode cX1_takeBack 5 = .ok (.bipush 8, 2) := by decide +kernel
theorem dX1_takeBack_7 : decode cX1_takeBack 7 = .ok (.iadd, 1) := by decide +kernel
theorem dX1_takeBack_8 : decode cX1_takeBack 8 = .ok (.iconst 1, 1) := by decide +kernel
theorem dX1_takeBack_9 : decode cX1_takeBack 9 = .ok (.isub, 1) := by decide +kernel
theorem dX1_takeBack_10 : decode cX1_takeBack 10 = .ok (.bipush 8, 2) := by decide +kernel
theorem dX1_takeBack_12 : decode cX1_takeBack 12 = .ok (.irem, 1) := by decide +kernel
theorem dX1_takeBack_13 : decode cX1_takeBack 13 = .ok (.putfield 17, 3) := by decide +kernel
theorem dX1_takeBack_16 : decode cX1_takeBack 16 = .ok (.aload_n 0, 1) := by decide +kernel
theorem dX1_takeBack_17 : decode cX1_takeBack 17 = .ok (.dup, 1) := by decide +kernel
theorem dX1_takeBack_18 : decode cX1_takeBack 18 = .ok (.getfield 21, 3) := by decide +kernel
theorem dX1_takeBack_21 : decode cX1_takeBack 21 = .ok (.iconst 1, 1) := by decide +kernel
theorem dX1_takeBack_22 : decode cX1_takeBack 22 = .ok (.isub, 1) := by decide +kernel
theorem dX1_takeBack_23 : decode cX1_takeBack 23 = .ok (.putfield 21, 3) := by decide +kernel
theorem dX1_takeBack_26 : decode cX1_takeBack 26 = .ok (.aload_n 0, 1) := by decide +kernel
theorem dX1_takeBack_27 : decode cX1_takeBack 27 = .ok (.getfield 11, 3) := by decide +kernel
theorem dX1_takeBack_30 : decode cX1_takeBack 30 = .ok (.aload_n 0, 1) := by decide +kernel
theorem dX1_takeBack_31 : decode cX1_takeBack 31 = .ok (.getfield 17, 3) := by decide +kernel
theorem dX1_takeBack_34 : decode cX1_takeBack 34 = .ok (.aaload, 1) := by decide +kernel
theorem dX1_takeBack_35 : decode cX1_takeBack 35 = .ok (.astore_n 2, 1) := by decide +kernel
theorem dX1_takeBack_36 : decode cX1_takeBack 36 = .ok (.aload_n 2, 1) := by decide +kernel
theorem dX1_takeBack_37 : decode cX1_takeBack 37 = .ok (.ifnull 8, 3) := by decide +kernel
theorem dX1_takeBack_40 : decode cX1_takeBack 40 = .ok (.aload_n 1, 1) := by decide +kernel
theorem dX1_takeBack_41 : decode cX1_takeBack 41 = .ok (.aload_n 2, 1) := by decide +kernel
theorem dX1_takeBack_42 : decode cX1_takeBack 42 = .ok (.invokevirtual 25, 3) := by decide +kernel
theorem dX1_takeBack_45 : decode cX1_takeBack 45 = .ok (.return_, 1) := by decide +kernel
theorem dX1_forget_0 : decode cX1_forget 0 = .ok (.aload_n 0, 1) := by decide +kernel
theorem dX1_forget_1 : decode cX1_forget 1 = .ok (.iconst 0, 1) := by decide +kernel
theorem dX1_forget_2 : decode cX1_forget 2 = .ok (.putfield 21, 3) := by decide +kernel
theorem dX1_forget_5 : decode cX1_forget 5 = .ok (.return_, 1) := by decide +kernel
theorem dX2_init_0 : decode cX2_init 0 = .ok (.aload_n 0, 1) := by decide +kernel
theorem dX2_init_1 : decode cX2_init 1 = .ok (.invokespecial 3, 3) := by decide +kernel
theorem dX2_init_4 : decode cX2_init 4 = .ok (.aload_n 0, 1) := by decide +kernel
theorem dX2_init_5 : decode cX2_init 5 = .ok (.iconst 0, 1) := by decide +kernel
theorem dX2_init_6 : decode cX2_init 6 = .ok (.putfield 9, 3) := by decide +kernel
theorem dX2_init_9 : decode cX2_init 9 = .ok (.aload_n 0, 1) := by decide +kernel
theorem dX2_init_10 : decode cX2_init 10 = .ok (.iconst 0, 1) := by decide +kernel
theorem dX2_init_11 : decode cX2_init 11 = .ok (.putfield 15, 3) := by decide +kernel
theorem dX2_init_14 : decode cX2_init 14 = .ok (.aload_n 0, 1) := by decide +kernel
theorem dX2_init_15 : decode cX2_init 15 = .ok (.bipush 8, 2) := by decide +kernel
theorem dX2_init_17 : decode cX2_init 17 = .ok (.newarray .int, 2) := by decide +kernel
theorem dX2_init_19 : decode cX2_init 19 = .ok (.putfield 18, 3) := by decide +kernel
theorem dX2_init_22 : decode cX2_init 22 = .ok (.aload_n 0, 1) := by decide +kernel
theorem dX2_init_23 : decode cX2_init 23 = .ok (.bipush 8, 2) := by decide +kernel
theorem dX2_init_25 : decode cX2_init 25 = .ok (.newarray .char, 2) := by decide +kernel
theorem dX2_init_27 : decode cX2_init 27 = .ok (.putfield 22, 3) := by decide +kernel
theorem dX2_init_30 : decode cX2_init 30 = .ok (.aload_n 0, 1) := by decide +kernel
theorem dX2_init_31 : decode cX2_init 31 = .ok (.bipush 8, 2) := by decide +kernel
theorem dX2_init_33 : decode cX2_init 33 = .ok (.newarray .int, 2) := by decide +kernel
theorem dX2_init_35 : decode cX2_init 35 = .ok (.putfield 26, 3) := by decide +kernel
theorem dX2_init_38 : decode cX2_init 38 = .ok (.aload_n 0, 1) := by decide +kernel
theorem dX2_init_39 : decode cX2_init 39 = .ok (.bipush 8, 2) := by decide +kernel
theorem dX2_init_41 : decode cX2_init 41 = .ok (.newarray .int, 2) := by decide +kernel
theorem dX2_init_43 : decode cX2_init 43 = .ok (.putfield 29, 3) := by decide +kernel
theorem dX2_init_46 : decode cX2_init 46 = .ok (.aload_n 0, 1) := by decide +kernel
theorem dX2_init_47 : decode cX2_init 47 = .ok (.bipush 8, 2) := by decide +kernel
theorem dX2_init_49 : decode cX2_init 49 = .ok (.newarray .int, 2) := by decide +kernel
theorem dX2_init_51 : decode cX2_init 51 = .ok (.putfield 32, 3) := by decide +kernel
theorem dX2_init_54 : decode cX2_init 54 = .ok (.aload_n 0, 1) := by decide +kernel
theorem dX2_init_55 : decode cX2_init 55 = .ok (.bipush 8, 2) := by decide +kernel
theorem dX2_init_57 : decode cX2_init 57 = .ok (.newarray .boolean, 2) := by decide +kernel
theorem dX2_init_59 : decode cX2_init 59 = .ok (.putfield 35, 3) := by decide +kernel
theorem dX2_init_62 : decode cX2_init 62 = .ok (.return_, 1) := by decide +kernel
theorem dX2_slotOf_0 : decode cX2_slotOf 0 = .ok (.iconst 0, 1) := by decide +kernel
theorem dX2_slotOf_1 : decode cX2_slotOf 1 = .ok (.istore_n 2, 1) := by decide +kernel
theorem dX2_slotOf_2 : decode cX2_slotOf 2 = .ok (.iload_n 2, 1) := by decide +kernel
theorem dX2_slotOf_3 : decode cX2_slotOf 3 = .ok (.aload_n 0, 1) := by decide +kernel
theorem dX2_slotOf_4 : decode cX2_slotOf 4 = .ok (.getfield 9, 3) := by decide +kernel
theorem dX2_slotOf_7 : decode cX2_slotOf 7 = .ok (.if_icmp .ge 21, 3) := by decide +kernel
theorem dX2_slotOf_10 : decode cX2_slotOf 10 = .ok (.aload_n 0, 1) := by decide +kernel
theorem dX2_slotOf_11 : decode cX2_slotOf 11 = .ok (.getfield 18, 3) := by decide +kernel
theorem dX2_slotOf_14 : decode cX2_slotOf 14 = .ok (.iload_n 2, 1) := by decide +kernel
theorem dX2_slotOf_15 : decode cX2_slotOf 15 = .ok (.iaload, 1) := by decide +kernel
theorem dX2_slotOf_16 : decode cX2_slotOf 16 = .ok (.iload_n 1, 1) := by decide +kernel
theorem dX2_slotOf_17 : decode cX2_slotOf 17 = .ok (.if_icmp .ne 5, 3) := by decide +kernel
theorem dX2_slotOf_20 : decode cX2_slotOf 20 = .ok (.iload_n 2, 1) := by decide +kernel
theorem dX2_slotOf_21 : decode cX2_slotOf 21 = .ok (.ireturn, 1) := by decide +kernel
theorem dX2_slotOf_22 : decode cX2_slotOf 22 = .ok (.iinc 2 1, 3) := by decide +kernel
theorem dX2_slotOf_25 : decode cX2_slotOf 25 = .ok (.goto (-23), 3) := by decide +kernel
theorem dX2_slotOf_28 : decode cX2_slotOf 28 = .ok (.iconst (-1), 1) := by decide +kernel
theorem dX2_slotOf_29 : decode cX2_slotOf 29 = .ok (.ireturn, 1) := by decide +kernel
theorem dX2_areFull_0 : decode cX2_areFull 0 = .ok (.aload_n 0, 1) := by decide +kernel
theorem dX2_areFull_1 : decode cX2_areFull 1 = .ok (.getfield 9, 3) := by decide +kernel
theorem dX2_areFull_4 : decode cX2_areFull 4 = .ok (.bipush 8, 2) := by decide +kernel
theorem dX2_areFull_6 : decode cX2_areFull 6 = .ok (.if_icmp .lt 7, 3) := by decide +kernel
theorem dX2_areFull_9 : decode cX2_areFull 9 = .ok (.iconst 1, 1) := by decide +kernel
theorem dX2_areFull_10 : decode cX2_areFull 10 = .ok (.goto 4, 3) := by decide +kernel
theorem dX2_areFull_13 : decode cX2_areFull 13 = .ok (.iconst 0, 1) := by decide +kernel
theorem dX2_areFull_14 : decode cX2_areFull 14 = .ok (.ireturn, 1) := by decide +kernel
theorem dX2_enter_0 : decode cX2_enter 0 = .ok (.aload_n 0, 1) := by decide +kernel
theorem dX2_enter_1 : decode cX2_enter 1 = .ok (.getfield 18, 3) := by decide +kernel
theorem dX2_enter_4 : decode cX2_enter 4 = .ok (.aload_n 0, 1) := by decide +kernel
theorem dX2_enter_5 : decode cX2_enter 5 = .ok (.getfield 9, 3) := by decide +kernel
theorem dX2_enter_8 : decode cX2_enter 8 = .ok (.aload_n 0, 1) := by decide +kernel
theorem dX2_enter_9 : decode cX2_enter 9 = .ok (.getfield 15, 3) := by decide +kernel
theorem dX2_enter_12 : decode cX2_enter 12 = .ok (.iastore, 1) := by decide +kernel
theorem dX2_enter_13 : decode cX2_enter 13 = .ok (.aload_n 0, 1) := by decide +kernel
theorem dX2_enter_14 : decode cX2_enter 14 = .ok (.getfield 22, 3) := by decide +kernel
theorem dX2_enter_17 : decode cX2_enter 17 = .ok (.aload_n 0, 1) := by decide +kernel
theorem dX2_enter_18 : decode cX2_enter 18 = .ok (.getfield 9, 3) := by decide +kernel
theorem dX2_enter_21 : decode cX2_enter 21 = .ok (.iload_n 1, 1) := by decide +kernel
theorem dX2_enter_22 : decode cX2_enter 22 = .ok (.castore, 1) := by decide +kernel
theorem dX2_enter_23 : decode cX2_enter 23 = .ok (.aload_n 0, 1) := by decide +kernel
theorem dX2_enter_24 : decode cX2_enter 24 = .ok (.getfield 26, 3) := by decide +kernel
theorem dX2_enter_27 : decode cX2_enter 27 = .ok (.aload_n 0, 1) := by decide +kernel
theorem dX2_enter_28 : decode cX2_enter 28 = .ok (.getfield 9, 3) := by decide +kernel
theorem dX2_enter_31 : decode cX2_enter 31 = .ok (.iload_n 2, 1) := by decide +kernel
theorem dX2_enter_32 : decode cX2_enter 32 = .ok (.iastore, 1) := by decide +kernel
theorem dX2_enter_33 : decode cX2_enter 33 = .ok (.aload_n 0, 1) := by decide +kernel
theorem dX2_enter_34 : decode cX2_enter 34 = .ok (.getfield 29, 3) := by decide +kernel
theorem dX2_enter_37 : decode cX2_enter 37 = .ok (.aload_n 0, 1) := by decide +kernel
theorem dX2_enter_38 : decode cX2_enter 38 = .ok (.getfield 9, 3) := by decide +kernel
theorem dX2_enter_41 : decode cX2_enter 41 = .ok (.iload_n 3, 1) := by decide +kernel
theorem dX2_enter_42 : decode cX2_enter 42 = .ok (.iastore, 1) := by decide +kernel
theorem dX2_enter_43 : decode cX2_enter 43 = .ok (.aload_n 0, 1) := by decide +kernel
theorem dX2_enter_44 : decode cX2_enter 44 = .ok (.getfield 32, 3) := by decide +kernel
theorem dX2_enter_47 : decode cX2_enter 47 = .ok (.aload_n 0, 1) := by decide +kernel
theorem dX2_enter_48 : decode cX2_enter 48 = .ok (.getfield 9, 3) := by decide +kernel
theorem dX2_enter_51 : decode cX2_enter 51 = .ok (.iconst (-1), 1) := by decide +kernel
theorem dX2_enter_52 : decode cX2_enter 52 = .ok (.iastore, 1) := by decide +kernel
theorem dX2_enter_53 : decode cX2_enter 53 = .ok (.aload_n 0, 1) := by decide +kernel
theorem dX2_enter_54 : decode cX2_enter 54 = .ok (.getfield 35, 3) := by decide +kernel
theorem dX2_enter_57 : decode cX2_enter 57 = .ok (.aload_n 0, 1) := by decide +kernel
theorem dX2_enter_58 : decode cX2_enter 58 = .ok (.getfield 9, 3) := by decide +kernel
theorem dX2_enter_61 : decode cX2_enter 61 = .ok (.iconst 0, 1) := by decide +kernel
theorem dX2_enter_62 : decode cX2_enter 62 = .ok (.bastore, 1) := by decide +kernel
theorem dX2_enter_63 : decode cX2_enter 63 = .ok (.aload_n 0, 1) := by decide +kernel
theorem dX2_enter_64 : decode cX2_enter 64 = .ok (.dup, 1) := by decide +kernel
theorem dX2_enter_65 : decode cX2_enter 65 = .ok (.getfield 9, 3) := by decide +kernel
theorem dX2_enter_68 : decode cX2_enter 68 = .ok (.iconst 1, 1) := by decide +kernel
theorem dX2_enter_69 : decode cX2_enter 69 = .ok (.iadd, 1) := by decide +kernel
theorem dX2_enter_70 : decode cX2_enter 70 = .ok (.putfield 9, 3) := by decide +kernel
theorem dX2_enter_73 : decode cX2_enter 73 = .ok (.aload_n 0, 1) := by decide +kernel
theorem dX2_enter_74 : decode cX2_enter 74 = .ok (.dup, 1) := by decide +kernel
theorem dX2_enter_75 : decode cX2_enter 75 = .ok (.getfield 15, 3) := by decide +kernel
theorem dX2_enter_78 : decode cX2_enter 78 = .ok (.iconst 1, 1) := by decide +kernel
theorem dX2_enter_79 : decode cX2_enter 79 = .ok (.iadd, 1) := by decide +kernel
theorem dX2_enter_80 : decode cX2_enter 80 = .ok (.putfield 15, 3) := by decide +kernel
theorem dX2_enter_83 : decode cX2_enter 83 = .ok (.aload_n 0, 1) := by decide +kernel
theorem dX2_enter_84 : decode cX2_enter 84 = .ok (.getfield 15, 3) := by decide +kernel
theorem dX2_enter_87 : decode cX2_enter 87 = .ok (.iconst 1, 1) := by decide +kernel
theorem dX2_enter_88 : decode cX2_enter 88 = .ok (.isub, 1) := by decide +kernel
theorem dX2_enter_89 : decode cX2_enter 89 = .ok (.ireturn, 1) := by decide +kernel
theorem dX2_close_0 : decode cX2_close 0 = .ok (.aload_n 0, 1) := by decide +kernel
theorem dX2_close_1 : decode cX2_close 1 = .ok (.dup, 1) := by decide +kernel
theorem dX2_close_2 : decode cX2_close 2 = .ok (.getfield 9, 3) := by decide +kernel
theorem dX2_close_5 : decode cX2_close 5 = .ok (.iconst 1, 1) := by decide +kernel
theorem dX2_close_6 : decode cX2_close 6 = .ok (.isub, 1) := by decide +kernel
theorem dX2_close_7 : decode cX2_close 7 = .ok (.putfield 9, 3) := by decide +kernel
theorem dX2_close_10 : decode cX2_close 10 = .ok (.iload_n 1, 1) := by decide +kernel
theorem dX2_close_11 : decode cX2_close 11 = .ok (.istore_n 2, 1) := by decide +kernel
theorem dX2_close_12 : decode cX2_close 12 = .ok (.iload_n 2, 1) := by decide +kernel
theorem dX2_close_13 : decode cX2_close 13 = .ok (.aload_n 0, 1) := by decide +kernel
theorem dX2_close_14 : decode cX2_close 14 = .ok (.getfield 9, 3) := by decide +kernel
theorem dX2_close_17 : decode cX2_close 17 = .ok (.if_icmp .ge 18, 3) := by decide +kernel
theorem dX2_close_20 : decode cX2_close 20 = .ok (.aload_n 0, 1) := by decide +kernel
theorem dX2_close_21 : decode cX2_close 21 = .ok (.aload_n 0, 1) := by decide +kernel
theorem dX2_close_22 : decode cX2_close 22 = .ok (.iload_n 2, 1) := by decide +kernel
theorem dX2_close_23 : decode cX2_close 23 = .ok (.iconst 1, 1) := by decide +kernel
theorem dX2_close_24 : decode cX2_close 24 = .ok (.iadd, 1) := by decide +kernel
theorem dX2_close_25 : decode cX2_close 25 = .ok (.iload_n 2, 1) := by decide +kernel
theorem dX2_close_26 : decode cX2_close 26 = .ok (.invokevirtual 39, 3) := by decide +kernel
theorem dX2_close_29 : decode cX2_close 29 = .ok (.iinc 2 1, 3) := by decide +kernel
theorem dX2_close_32 : decode cX2_close 32 = .ok (.goto (-20), 3) := by decide +kernel
theorem dX2_close_35 : decode cX2_close 35 = .ok (.return_, 1) := by decide +kernel
theorem dX2_countSeconded_0 : decode cX2_countSeconded 0 = .ok (.iconst 0, 1) := by decide +kernel
theorem dX2_countSeconded_1 : decode cX2_countSeconded 1 = .ok (.istore_n 1, 1) := by decide +kernel
theorem dX2_countSeconded_2 : decode cX2_countSeconded 2 = .ok (.iconst 0, 1) := by decide +kernel
theorem dX2_countSeconded_3 : decode cX2_countSeconded 3 = .ok (.istore_n 2, 1) := by decide +kernel
theorem dX2_countSeconded_4 : decode cX2_countSeconded 4 = .ok (.iload_n 2, 1) := by decide +kernel
theorem dX2_countSeconded_5 : decode cX2_countSeconded 5 = .ok (.aload_n 0, 1) := by decide +kernel
theorem dX2_countSeconded_6 : decode cX2_countSeconded 6 = .ok (.getfield 9, 3) := by decide +kernel
theorem dX2_countSeconded_9 : decode cX2_countSeconded 9 = .ok (.if_icmp .ge 22, 3) := by decide +kernel
theorem dX2_countSeconded_12 : decode cX2_countSeconded 12 = .ok (.aload_n 0, 1) := by decide +kernel
theorem dX2_countSeconded_13 : decode cX2_countSeconded 13 = .ok (.getfield 32, 3) := by decide +kernel
theorem dX2_countSeconded_16 : decode cX2_countSeconded 16 = .ok (.iload_n 2, 1) := by decide +kernel
theorem dX2_countSeconded_17 : decode cX2_countSeconded 17 = .ok (.iaload, 1) := by decide +kernel
theorem dX2_countSeconded_18 : decode cX2_countSeconded 18 = .ok (.iconst (-1), 1) := by decide +kernel
theorem dX2_countSeconded_19 : decode cX2_countSeconded 19 = .ok (.if_icmp .eq 6, 3) := by decide +kernel
theorem dX2_countSeconded_22 : decode cX2_countSeconded 22 = .ok (.iinc 1 1, 3) := by decide +kernel
theorem dX2_countSeconded_25 : decode cX2_countSeconded 25 = .ok (.iinc 2 1, 3) := by decide +kernel
theorem dX2_countSeconded_28 : decode cX2_countSeconded 28 = .ok (.goto (-24), 3) := by decide +kernel
theorem dX2_countSeconded_31 : decode cX2_countSeconded 31 = .ok (.iload_n 1, 1) := by decide +kernel
theorem dX2_countSeconded_32 : decode cX2_countSeconded 32 = .ok (.ireturn, 1) := by decide +kernel
theorem dX2_copyFrom_0 : decode cX2_copyFrom 0 = .ok (.aload_n 0, 1) := by decide +kernel
theorem dX2_copyFrom_1 : decode cX2_copyFrom 1 = .ok (.aload_n 1, 1) := by decide +kernel
theorem dX2_copyFrom_2 : decode cX2_copyFrom 2 = .ok (.getfield 9, 3) := by decide +kernel
theorem dX2_copyFrom_5 : decode cX2_copyFrom 5 = .ok (.putfield 9, 3) := by decide +kernel
theorem dX2_copyFrom_8 : decode cX2_copyFrom 8 = .ok (.aload_n 0, 1) := by decide +kernel
theorem dX2_copyFrom_9 : decode cX2_copyFrom 9 = .ok (.aload_n 1, 1) := by decide +kernel
theorem dX2_copyFrom_10 : decode cX2_copyFrom 10 = .ok (.getfield 15, 3) := by decide +kernel
theorem dX2_copyFrom_13 : decode cX2_copyFrom 13 = .ok (.putfield 15, 3) := by decide +kernel
theorem dX2_copyFrom_16 : decode cX2_copyFrom 16 = .ok (.iconst 0, 1) := by decide +kernel
theorem dX2_copyFrom_17 : decode cX2_copyFrom 17 = .ok (.istore_n 2, 1) := by decide +kernel
theorem dX2_copyFrom_18 : decode cX2_copyFrom 18 = .ok (.iload_n 2, 1) := by decide +kernel
theorem dX2_copyFrom_19 : decode cX2_copyFrom 19 = .ok (.aload_n 0, 1) := by decide +kernel
theorem dX2_copyFrom_20 : decode cX2_copyFrom 20 = .ok (.getfield 9, 3) := by decide +kernel
theorem dX2_copyFrom_23 : decode cX2_copyFrom 23 = .ok (.if_icmp .ge 16, 3) := by decide +kernel
theorem dX2_copyFrom_26 : decode cX2_copyFrom 26 = .ok (.aload_n 0, 1) := by decide +kernel
theorem dX2_copyFrom_27 : decode cX2_copyFrom 27 = .ok (.aload_n 1, 1) := by decide +kernel
theorem dX2_copyFrom_28 : decode cX2_copyFrom 28 = .ok (.iload_n 2, 1) := by decide +kernel
theorem dX2_copyFrom_29 : decode cX2_copyFrom 29 = .ok (.iload_n 2, 1) := by decide +kernel
theorem dX2_copyFrom_30 : decode cX2_copyFrom 30 = .ok (.invokevirtual 39, 3) := by decide +kernel
theorem dX2_copyFrom_33 : decode cX2_copyFrom 33 = .ok (.iinc 2 1, 3) := by decide +kernel
theorem dX2_copyFrom_36 : decode cX2_copyFrom 36 = .ok (.goto (-18), 3) := by decide +kernel
theorem dX2_copyFrom_39 : decode cX2_copyFrom 39 = .ok (.return_, 1) := by decide +kernel
theorem dX2_copySlot_0 : decode cX2_copySlot 0 = .ok (.aload_n 0, 1) := by decide +kernel
theorem dX2_copySlot_1 : decode cX2_copySlot 1 = .ok (.getfield 18, 3) := by decide +kernel
theorem dX2_copySlot_4 : decode cX2_copySlot 4 = .ok (.iload_n 3, 1) := by decide +kernel
theorem dX2_copySlot_5 : decode cX2_copySlot 5 = .ok (.aload_n 1, 1) := by decide +kernel
theorem dX2_copySlot_6 : decode cX2_copySlot 6 = .ok (.getfield 18, 3) := by decide +kernel
theorem dX2_copySlot_9 : decode cX2_copySlot 9 = .ok (.iload_n 2, 1) := by decide +kernel
theorem dX2_copySlot_10 : decode cX2_copySlot 10 = .ok (.iaload, 1) := by decide +kernel
theorem dX2_copySlot_11 : decode cX2_copySlot 11 = .ok (.iastore, 1) := by decide +kernel
theorem dX2_copySlot_12 : decode cX2_copySlot 12 = .ok (.aload_n 0, 1) := by decide +kernel
theorem dX2_copySlot_13 : decode cX2_copySlot 13 = .ok (.getfield 22, 3) := by decide +kernel
theorem dX2_copySlot_16 : decode cX2_copySlot 16 = .ok (.iload_n 3, 1) := by decide +kernel
theorem dX2_copySlot_17 : decode cX2_copySlot 17 = .ok (.aload_n 1, 1) := by decide +kernel
theorem dX2_copySlot_18 : decode cX2_copySlot 18 = .ok (.getfield 22, 3) := by decide +kernel
theorem dX2_copySlot_21 : decode cX2_copySlot 21 = .ok (.iload_n 2, 1) := by decide +kernel
theorem dX2_copySlot_22 : decode cX2_copySlot 22 = .ok (.caload, 1) := by decide +kernel
theorem dX2_copySlot_23 : decode cX2_copySlot 23 = .ok (.castore, 1) := by decide +kernel
theorem dX2_copySlot_24 : decode cX2_copySlot 24 = .ok (.aload_n 0, 1) := by decide +kernel
theorem dX2_copySlot_25 : decode cX2_copySlot 25 = .ok (.getfield 26, 3) := by decide +kernel
theorem dX2_copySlot_28 : decode cX2_copySlot 28 = .ok (.iload_n 3, 1) := by decide +kernel
theorem dX2_copySlot_29 : decode cX2_copySlot 29 = .ok (.aload_n 1, 1) := by decide +kernel
theorem dX2_copySlot_30 : decode cX2_copySlot 30 = .ok (.getfield 26, 3) := by decide +kernel
theorem dX2_copySlot_33 : decode cX2_copySlot 33 = .ok (.iload_n 2, 1) := by decide +kernel
theorem dX2_copySlot_34 : decode cX2_copySlot 34 = .ok (.iaload, 1) := by decide +kernel
theorem dX2_copySlot_35 : decode cX2_copySlot 35 = .ok (.iastore, 1) := by decide +kernel
theorem dX2_copySlot_36 : decode cX2_copySlot 36 = .ok (.aload_n 0, 1) := by decide +kernel
theorem dX2_copySlot_37 : decode cX2_copySlot 37 = .ok (.getfield 29, 3) := by decide +kernel
theorem dX2_copySlot_40 : decode cX2_copySlot 40 = .ok (.iload_n 3, 1) := by decide +kernel
theorem dX2_copySlot_41 : decode cX2_copySlot 41 = .ok (.aload_n 1, 1) := by decide +kernel
theorem dX2_copySlot_42 : decode cX2_copySlot 42 = .ok (.getfield 29, 3) := by decide +kernel
theorem dX2_copySlot_45 : decode cX2_copySlot 45 = .ok (.iload_n 2, 1) := by decide +kernel
theorem dX2_copySlot_46 : decode cX2_copySlot 46 = .ok (.iaload, 1) := by decide +kernel
theorem dX2_copySlot_47 : decode cX2_copySlot 47 = .ok (.iastore, 1) := by decide +kernel
theorem dX2_copySlot_48 : decode cX2_copySlot 48 = .ok (.aload_n 0, 1) := by decide +kernel
theorem dX2_copySlot_49 : decode cX2_copySlot 49 = .ok (.getfield 32, 3) := by decide +kernel
theorem dX2_copySlot_52 : decode cX2_copySlot 52 = .ok (.iload_n 3, 1) := by decide +kernel
theorem dX2_copySlot_53 : decode cX2_copySlot 53 = .ok (.aload_n 1, 1) := by decide +kernel
theorem dX2_copySlot_54 : decode cX2_copySlot 54 = .ok (.getfield 32, 3) := by decide +kernel
theorem dX2_copySlot_57 : decode cX2_copySlot 57 = .ok (.iload_n 2, 1) := by decide +kernel
theorem dX2_copySlot_58 : decode cX2_copySlot 58 = .ok (.iaload, 1) := by decide +kernel
theorem dX2_copySlot_59 : decode cX2_copySlot 59 = .ok (.iastore, 1) := by decide +kernel
theorem dX2_copySlot_60 : decode cX2_copySlot 60 = .ok (.aload_n 0, 1) := by decide +kernel
theorem dX2_copySlot_61 : decode cX2_copySlot 61 = .ok (.getfield 35, 3) := by decide +kernel
theorem dX2_copySlot_64 : decode cX2_copySlot 64 = .ok (.iload_n 3, 1) := by decide +kernel
theorem dX2_copySlot_65 : decode cX2_copySlot 65 = .ok (.aload_n 1, 1) := by decide +kernel
theorem dX2_copySlot_66 : decode cX2_copySlot 66 = .ok (.getfield 35, 3) := by decide +kernel
theorem dX2_copySlot_69 : decode cX2_copySlot 69 = .ok (.iload_n 2, 1) := by decide +kernel
theorem dX2_copySlot_70 : decode cX2_copySlot 70 = .ok (.baload, 1) := by decide +kernel
theorem dX2_copySlot_71 : decode cX2_copySlot 71 = .ok (.bastore, 1) := by decide +kernel
theorem dX2_copySlot_72 : decode cX2_copySlot 72 = .ok (.return_, 1) := by decide +kernel
theorem dX3_init_0 : decode cX3_init 0 = .ok (.aload_n 0, 1) := by decide +kernel
theorem dX3_init_1 : decode cX3_init 1 = .ok (.invokespecial 3, 3) := by decide +kernel
theorem dX3_init_4 : decode cX3_init 4 = .ok (.aload_n 0, 1) := by decide +kernel
theorem dX3_init_5 : decode cX3_init 5 = .ok (.iconst 0, 1) := by decide +kernel
theorem dX3_init_6 : decode cX3_init 6 = .ok (.putfield 9, 3) := by decide +kernel
theorem dX3_init_9 : decode cX3_init 9 = .ok (.aload_n 0, 1) := by decide +kernel
theorem dX3_init_10 : decode cX3_init 10 = .ok (.bipush 6, 2) := by decide +kernel
theorem dX3_init_12 : decode cX3_init 12 = .ok (.newarray .int, 2) := by decide +kernel
theorem dX3_init_14 : decode cX3_init 14 = .ok (.putfield 15, 3) := by decide +kernel
theorem dX3_init_17 : decode cX3_init 17 = .ok (.aload_n 0, 1) := by decide +kernel
theorem dX3_init_18 : decode cX3_init 18 = .ok (.bipush 6, 2) := by decide +kernel
theorem dX3_init_20 : decode cX3_init 20 = .ok (.newarray .int, 2) := by decide +kernel
theorem dX3_init_22 : decode cX3_init 22 = .ok (.putfield 19, 3) := by decide +kernel
theorem dX3_init_25 : decode cX3_init 25 = .ok (.aload_n 0, 1) := by decide +kernel
theorem dX3_init_26 : decode cX3_init 26 = .ok (.bipush 6, 2) := by decide +kernel
theorem dX3_init_28 : decode cX3_init 28 = .ok (.newarray .boolean, 2) := by decide +kernel
theorem dX3_init_30 : decode cX3_init 30 = .ok (.putfield 22, 3) := by decide +kernel
theorem dX3_init_33 : decode cX3_init 33 = .ok (.aload_n 0, 1) := by decide +kernel
theorem dX3_init_34 : decode cX3_init 34 = .ok (.iconst 0, 1) := by decide +kernel
theorem dX3_init_35 : decode cX3_init 35 = .ok (.putfield 26, 3) := by decide +kernel
theorem dX3_init_38 : decode cX3_init 38 = .ok (.aload_n 0, 1) := by decide +kernel
theorem dX3_init_39 : decode cX3_init 39 = .ok (.bipush 8, 2) := by decide +kernel
theorem dX3_init_41 : decode cX3_init 41 = .ok (.newarray .int, 2) := by decide +kernel
theorem dX3_init_43 : decode cX3_init 43 = .ok (.putfield 29, 3) := by decide +kernel
theorem dX3_init_46 : decode cX3_init 46 = .ok (.aload_n 0, 1) := by decide +kernel
theorem dX3_init_47 : decode cX3_init 47 = .ok (.bipush 8, 2) := by decide +kernel
theorem dX3_init_49 : decode cX3_init 49 = .ok (.newarray .int, 2) := by decide +kernel
theorem dX3_init_51 : decode cX3_init 51 = .ok (.putfield 32, 3) := by decide +kernel
theorem dX3_init_54 : decode cX3_init 54 = .ok (.aload_n 0, 1) := by decide +kernel
theorem dX3_init_55 : decode cX3_init 55 = .ok (.new 35, 3) := by decide +kernel
theorem dX3_init_58 : decode cX3_init 58 = .ok (.dup, 1) := by decide +kernel
theorem dX3_init_59 : decode cX3_init 59 = .ok (.invokespecial 37, 3) := by decide +kernel
theorem dX3_init_62 : decode cX3_init 62 = .ok (.putfield 38, 3) := by decide +kernel
theorem dX3_init_65 : decode cX3_init 65 = .ok (.aload_n 0, 1) := by decide +kernel
theorem dX3_init_66 : decode cX3_init 66 = .ok (.iconst 0, 1) := by decide +kernel
theorem dX3_init_67 : decode cX3_init 67 = .ok (.putfield 42, 3) := by decide +kernel
theorem dX3_init_70 : decode cX3_init 70 = .ok (.aload_n 0, 1) := by decide +kernel
theorem dX3_init_71 : decode cX3_init 71 = .ok (.iconst 0, 1) := by decide +kernel
theorem dX3_init_72 : decode cX3_init 72 = .ok (.putfield 45, 3) := by decide +kernel
theorem dX3_init_75 : decode cX3_init 75 = .ok (.aload_n 0, 1) := by decide +kernel
theorem dX3_init_76 : decode cX3_init 76 = .ok (.iconst 0, 1) := by decide +kernel
theorem dX3_init_77 : decode cX3_init 77 = .ok (.putfield 48, 3) := by decide +kernel
theorem dX3_init_80 : decode cX3_init 80 = .ok (.aload_n 0, 1) := by decide +kernel
theorem dX3_init_81 : decode cX3_init 81 = .ok (.iconst 0, 1) := by decide +kernel
theorem dX3_init_82 : decode cX3_init 82 = .ok (.putfield 51, 3) := by decide +kernel
theorem dX3_init_85 : decode cX3_init 85 = .ok (.aload_n 0, 1) := by decide +kernel
theorem dX3_init_86 : decode cX3_init 86 = .ok (.iconst 0, 1) := by decide +kernel
theorem dX3_init_87 : decode cX3_init 87 = .ok (.putfield 54, 3) := by decide +kernel
theorem dX3_init_90 : decode cX3_init 90 = .ok (.return_, 1) := by decide +kernel
theorem dX3_copyFrom_0 : decode cX3_copyFrom 0 = .ok (.aload_n 0, 1) := by decide +kernel
theorem dX3_copyFrom_1 : decode cX3_copyFrom 1 = .ok (.aload_n 1, 1) := by decide +kernel
theorem dX3_copyFrom_2 : decode cX3_copyFrom 2 = .ok (.getfield 9, 3) := by decide +kernel
theorem dX3_copyFrom_5 : decode cX3_copyFrom 5 = .ok (.putfield 9, 3) := by decide +kernel
theorem dX3_copyFrom_8 : decode cX3_copyFrom 8 = .ok (.iconst 0, 1) := by decide +kernel
theorem dX3_copyFrom_9 : decode cX3_copyFrom 9 = .ok (.istore_n 2, 1) := by decide +kernel
theorem dX3_copyFrom_10 : decode cX3_copyFrom 10 = .ok (.iload_n 2, 1) := by decide +kernel
theorem dX3_copyFrom_11 : decode cX3_copyFrom 11 = .ok (.aload_n 0, 1) := by decide +kernel
theorem dX3_copyFrom_12 : decode cX3_copyFrom 12 = .ok (.getfield 9, 3) := by decide +kernel
theorem dX3_copyFrom_15 : decode cX3_copyFrom 15 = .ok (.if_icmp .ge 45, 3) := by decide +kernel
theorem dX3_copyFrom_18 : decode cX3_copyFrom 18 = .ok (.aload_n 0, 1) := by decide +kernel
theorem dX3_copyFrom_19 : decode cX3_copyFrom 19 = .ok (.getfield 15, 3) := by decide +kernel
theorem dX3_copyFrom_22 : decode cX3_copyFrom 22 = .ok (.iload_n 2, 1) := by decide +kernel
theorem dX3_copyFrom_23 : decode cX3_copyFrom 23 = .ok (.aload_n 1, 1) := by decide +kernel
theorem dX3_copyFrom_24 : decode cX3_copyFrom 24 = .ok (.getfield 15, 3) := by decide +kernel
theorem dX3_copyFrom_27 : decode cX3_copyFrom 27 = .ok (.iload_n 2, 1) := by decide +kernel
theorem dX3_copyFrom_28 : decode cX3_copyFrom 28 = .ok (.iaload, 1) := by decide +kernel
theorem dX3_copyFrom_29 : decode cX3_copyFrom 29 = .ok (.iastore, 1) := by decide +kernel
theorem dX3_copyFrom_30 : decode cX3_copyFrom 30 = .ok (.aload_n 0, 1) := by decide +kernel
theorem dX3_copyFrom_31 : decode cX3_copyFrom 31 = .ok (.getfield 19, 3) := by decide +kernel
theorem dX3_copyFrom_34 : decode cX3_copyFrom 34 = .ok (.iload_n 2, 1) := by decide +kernel
theorem dX3_copyFrom_35 : decode cX3_copyFrom 35 = .ok (.aload_n 1, 1) := by decide +kernel
theorem dX3_copyFrom_36 : decode cX3_copyFrom 36 = .ok (.getfield 19, 3) := by decide +kernel
theorem dX3_copyFrom_39 : decode cX3_copyFrom 39 = .ok (.iload_n 2, 1) := by decide +kernel
theorem dX3_copyFrom_40 : decode cX3_copyFrom 40 = .ok (.iaload, 1) := by decide +kernel
theorem dX3_copyFrom_41 : decode cX3_copyFrom 41 = .ok (.iastore, 1) := by decide +kernel
theorem dX3_copyFrom_42 : decode cX3_copyFrom 42 = .ok (.aload_n 0, 1) := by decide +kernel
theorem dX3_copyFrom_43 : decode cX3_copyFrom 43 = .ok (.getfield 22, 3) := by decide +kernel
theorem dX3_copyFrom_46 : decode cX3_copyFrom 46 = .ok (.iload_n 2, 1) := by decide +kernel
theorem dX3_copyFrom_47 : decode cX3_copyFrom 47 = .ok (.aload_n 1, 1) := by decide +kernel
theorem dX3_copyFrom_48 : decode cX3_copyFrom 48 = .ok (.getfield 22, 3) := by decide +kernel
theorem dX3_copyFrom_51 : decode cX3_copyFrom 51 = .ok (.iload_n 2, 1) := by decide +kernel
theorem dX3_copyFrom_52 : decode cX3_copyFrom 52 = .ok (.baload, 1) := by decide +kernel
theorem dX3_copyFrom_53 : decode cX3_copyFrom 53 = .ok (.bastore, 1) := by decide +kernel
theorem dX3_copyFrom_54 : decode cX3_copyFrom 54 = .ok (.iinc 2 1, 3) := by decide +kernel
theorem dX3_copyFrom_57 : decode cX3_copyFrom 57 = .ok (.goto (-47), 3) := by decide +kernel
theorem dX3_copyFrom_60 : decode cX3_copyFrom 60 = .ok (.aload_n 0, 1) := by decide +kernel
theorem dX3_copyFrom_61 : decode cX3_copyFrom 61 = .ok (.aload_n 1, 1) := by decide +kernel
theorem dX3_copyFrom_62 : decode cX3_copyFrom 62 = .ok (.getfield 26, 3) := by decide +kernel
theorem dX3_copyFrom_65 : decode cX3_copyFrom 65 = .ok (.putfield 26, 3) := by decide +kernel
theorem dX3_copyFrom_68 : decode cX3_copyFrom 68 = .ok (.iconst 0, 1) := by decide +kernel
theorem dX3_copyFrom_69 : decode cX3_copyFrom 69 = .ok (.istore_n 2, 1) := by decide +kernel
theorem dX3_copyFrom_70 : decode cX3_copyFrom 70 = .ok (.iload_n 2, 1) := by decide +kernel
theorem dX3_copyFrom_71 : decode cX3_copyFrom 71 = .ok (.aload_n 0, 1) := by decide +kernel
theorem dX3_copyFrom_72 : decode cX3_copyFrom 72 = .ok (.getfield 26, 3) := by decide +kernel
theorem dX3_copyFrom_75 : decode cX3_copyFrom 75 = .ok (.if_icmp .ge 33, 3) := by decide +kernel
theorem dX3_copyFrom_78 : decode cX3_copyFrom 78 = .ok (.aload_n 0, 1) := by decide +kernel
theorem dX3_copyFrom_79 : decode cX3_copyFrom 79 = .ok (.getfield 29, 3) := by decide +kernel
theorem dX3_copyFrom_82 : decode cX3_copyFrom 82 = .ok (.iload_n 2, 1) := by decide +kernel
theorem dX3_copyFrom_83 : decode cX3_copyFrom 83 = .ok (.aload_n 1, 1) := by decide +kernel
theorem dX3_copyFrom_84 : decode cX3_copyFrom 84 = .ok (.getfield 29, 3) := by decide +kernel
theorem dX3_copyFrom_87 : decode cX3_copyFrom 87 = .ok (.iload_n 2, 1) := by decide +kernel
theorem dX3_copyFrom_88 : decode cX3_copyFrom 88 = .ok (.iaload, 1) := by decide +kernel
theorem dX3_copyFrom_89 : decode cX3_copyFrom 89 = .ok (.iastore, 1) := by decide +kernel
theorem dX3_copyFrom_90 : decode cX3_copyFrom 90 = .ok (.aload_n 0, 1) := by decide +kernel
theorem dX3_copyFrom_91 : decode cX3_copyFrom 91 = .ok (.getfield 32, 3) := by decide +kernel
theorem dX3_copyFrom_94 : decode cX3_copyFrom 94 = .ok (.iload_n 2, 1) := by decide +kernel
theorem dX3_copyFrom_95 : decode cX3_copyFrom 95 = .ok (.aload_n 1, 1) := by decide +kernel
theorem dX3_copyFrom_96 : decode cX3_copyFrom 96 = .ok (.getfield 32, 3) := by decide +kernel
theorem dX3_copyFrom_99 : decode cX3_copyFrom 99 = .ok (.iload_n 2, 1) := by decide +kernel
theorem dX3_copyFrom_100 : decode cX3_copyFrom 100 = .ok (.iaload, 1) := by decide +kernel
theorem dX3_copyFrom_101 : decode cX3_copyFrom 101 = .ok (.iastore, 1) := by decide +kernel
theorem dX3_copyFrom_102 : decode cX3_copyFrom 102 = .ok (.iinc 2 1, 3) := by decide +kernel
theorem dX3_copyFrom_105 : decode cX3_copyFrom 105 = .ok (.goto (-35), 3) := by decide +kernel
theorem dX3_copyFrom_108 : decode cX3_copyFrom 108 = .ok (.aload_n 0, 1) := by decide +kernel
theorem dX3_copyFrom_109 : decode cX3_copyFrom 109 = .ok (.getfield 38, 3) := by decide +kernel
theorem dX3_copyFrom_112 : decode cX3_copyFrom 112 = .ok (.aload_n 1, 1) := by decide +kernel
theorem dX3_copyFrom_113 : decode cX3_copyFrom 113 = .ok (.getfield 38, 3) := by decide +kernel
theorem dX3_copyFrom_116 : decode cX3_copyFrom 116 = .ok (.invokevirtual 57, 3) := by decide +kernel
theorem dX3_copyFrom_119 : decode cX3_copyFrom 119 = .ok (.aload_n 0, 1) := by decide +kernel
theorem dX3_copyFrom_120 : decode cX3_copyFrom 120 = .ok (.aload_n 1, 1) := by decide +kernel
theorem dX3_copyFrom_121 : decode cX3_copyFrom 121 = .ok (.getfield 42, 3) := by decide +kernel
theorem dX3_copyFrom_124 : decode cX3_copyFrom 124 = .ok (.putfield 42, 3) := by decide +kernel
theorem dX3_copyFrom_127 : decode cX3_copyFrom 127 = .ok (.aload_n 0, 1) := by decide +kernel
theorem dX3_copyFrom_128 : decode cX3_copyFrom 128 = .ok (.aload_n 1, 1) := by decide +kernel
theorem dX3_copyFrom_129 : decode cX3_copyFrom 129 = .ok (.getfield 45, 3) := by decide +kernel
theorem dX3_copyFrom_132 : decode cX3_copyFrom 132 = .ok (.putfield 45, 3) := by decide +kernel
theorem dX3_copyFrom_135 : decode cX3_copyFrom 135 = .ok (.aload_n 0, 1) := by decide +kernel
theorem dX3_copyFrom_136 : decode cX3_copyFrom 136 = .ok (.aload_n 1, 1) := by decide +kernel
theorem dX3_copyFrom_137 : decode cX3_copyFrom 137 = .ok (.getfield 48, 3) := by decide +kernel
theorem dX3_copyFrom_140 : decode cX3_copyFrom 140 = .ok (.putfield 48, 3) := by decide +kernel
theorem dX3_copyFrom_143 : decode cX3_copyFrom 143 = .ok (.aload_n 0, 1) := by decide +kernel
theorem dX3_copyFrom_144 : decode cX3_copyFrom 144 = .ok (.aload_n 1, 1) := by decide +kernel
theorem dX3_copyFrom_145 : decode cX3_copyFrom 145 = .ok (.getfield 51, 3) := by decide +kernel
theorem dX3_copyFrom_148 : decode cX3_copyFrom 148 = .ok (.putfield 51, 3) := by decide +kernel
theorem dX3_copyFrom_151 : decode cX3_copyFrom 151 = .ok (.aload_n 0, 1) := by decide +kernel
theorem dX3_copyFrom_152 : decode cX3_copyFrom 152 = .ok (.aload_n 1, 1) := by decide +kernel
theorem dX3_copyFrom_153 : decode cX3_copyFrom 153 = .ok (.getfield 54, 3) := by decide +kernel
theorem dX3_copyFrom_156 : decode cX3_copyFrom 156 = .ok (.putfield 54, 3) := by decide +kernel
theorem dX3_copyFrom_159 : decode cX3_copyFrom 159 = .ok (.return_, 1) := by decide +kernel
theorem dX3_hasCommittee_0 : decode cX3_hasCommittee 0 = .ok (.iload_n 1, 1) := by decide +kernel
theorem dX3_hasCommittee_1 : decode cX3_hasCommittee 1 = .ok (.ifCond .lt 15, 3) := by decide +kernel
theorem dX3_hasCommittee_4 : decode cX3_hasCommittee 4 = .ok (.iload_n 1, 1) := by decide +kernel
theorem dX3_hasCommittee_5 : decode cX3_hasCommittee 5 = .ok (.aload_n 0, 1) := by decide +kernel
theorem dX3_hasCommittee_6 : decode cX3_hasCommittee 6 = .ok (.getfield 9, 3) := by decide +kernel
theorem dX3_hasCommittee_9 : decode cX3_hasCommittee 9 = .ok (.if_icmp .ge 7, 3) := by decide +kernel
theorem dX3_hasCommittee_12 : decode cX3_hasCommittee 12 = .ok (.iconst 1, 1) := by decide +kernel
theorem dX3_hasCommittee_13 : decode cX3_hasCommittee 13 = .ok (.goto 4, 3) := by decide +kernel
theorem dX3_hasCommittee_16 : decode cX3_hasCommittee 16 = .ok (.iconst 0, 1) := by decide +kernel
theorem dX3_hasCommittee_17 : decode cX3_hasCommittee 17 = .ok (.ireturn, 1) := by decide +kernel
theorem dX3_hasTail_0 : decode cX3_hasTail 0 = .ok (.iload_n 1, 1) := by decide +kernel
theorem dX3_hasTail_1 : decode cX3_hasTail 1 = .ok (.ifCond .lt 15, 3) := by decide +kernel
theorem dX3_hasTail_4 : decode cX3_hasTail 4 = .ok (.iload_n 1, 1) := by decide +kernel
theorem dX3_hasTail_5 : decode cX3_hasTail 5 = .ok (.aload_n 0, 1) := by decide +kernel
theorem dX3_hasTail_6 : decode cX3_hasTail 6 = .ok (.getfield 26, 3) := by decide +kernel
theorem dX3_hasTail_9 : decode cX3_hasTail 9 = .ok (.if_icmp .ge 7, 3) := by decide +kernel
theorem dX3_hasTail_12 : decode cX3_hasTail 12 = .ok (.iconst 1, 1) := by decide +kernel
theorem dX3_hasTail_13 : decode cX3_hasTail 13 = .ok (.goto 4, 3) := by decide +kernel
theorem dX3_hasTail_16 : decode cX3_hasTail 16 = .ok (.iconst 0, 1) := by decide +kernel
theorem dX3_hasTail_17 : decode cX3_hasTail 17 = .ok (.ireturn, 1) := by decide +kernel
theorem dX3_committeeFault_0 : decode cX3_committeeFault 0 = .ok (.iload_n 1, 1) := by decide +kernel
theorem dX3_committeeFault_1 : decode cX3_committeeFault 1 = .ok (.iconst 1, 1) := by decide +kernel
theorem dX3_committeeFault_2 : decode cX3_committeeFault 2 = .ok (.if_icmp .lt 9, 3) := by decide +kernel
theorem dX3_committeeFault_5 : decode cX3_committeeFault 5 = .ok (.iload_n 1, 1) := by decide +kernel
theorem dX3_committeeFault_6 : decode cX3_committeeFault 6 = .ok (.bipush 9, 2) := by decide +kernel
theorem dX3_committeeFault_8 : decode cX3_committeeFault 8 = .ok (.if_icmp .le 5, 3) := by decide +kernel
theorem dX3_committeeFault_11 : decode cX3_committeeFault 11 = .ok (.iconst 1, 1) := by decide +kernel
theorem dX3_committeeFault_12 : decode cX3_committeeFault 12 = .ok (.ireturn, 1) := by decide +kernel
theorem dX3_committeeFault_13 : decode cX3_committeeFault 13 = .ok (.aload_n 0, 1) := by decide +kernel
theorem dX3_committeeFault_14 : decode cX3_committeeFault 14 = .ok (.getfield 9, 3) := by decide +kernel
theorem dX3_committeeFault_17 : decode cX3_committeeFault 17 = .ok (.bipush 6, 2) := by decide +kernel
theorem dX3_committeeFault_19 : decode cX3_committeeFault 19 = .ok (.if_icmp .lt 7, 3) := by decide +kernel
theorem dX3_committeeFault_22 : decode cX3_committeeFault 22 = .ok (.iconst 2, 1) := by decide +kernel
theorem dX3_committeeFault_23 : decode cX3_committeeFault 23 = .ok (.goto 4, 3) := by decide +kernel
theorem dX3_committeeFault_26 : decode cX3_committeeFault 26 = .ok (.iconst 0, 1) := by decide +kernel
theorem dX3_committeeFault_27 : decode cX3_committeeFault 27 = .ok (.ireturn, 1) := by decide +kernel
theorem dX3_enterCommittee_0 : decode cX3_enterCommittee 0 = .ok (.aload_n 0, 1) := by decide +kernel
theorem dX3_enterCommittee_1 : decode cX3_enterCommittee 1 = .ok (.getfield 15, 3) := by decide +kernel
theorem dX3_enterCommittee_4 : decode cX3_enterCommittee 4 = .ok (.aload_n 0, 1) := by decide +kernel
theorem dX3_enterCommittee_5 : decode cX3_enterCommittee 5 = .ok (.getfield 9, 3) := by decide +kernel
theorem dX3_enterCommittee_8 : decode cX3_enterCommittee 8 = .ok (.iload_n 1, 1) := by decide +kernel
theorem dX3_enterCommittee_9 : decode cX3_enterCommittee 9 = .ok (.iastore, 1) := by decide +kernel
theorem dX3_enterCommittee_10 : decode cX3_enterCommittee 10 = .ok (.aload_n 0, 1) := by decide +kernel
theorem dX3_enterCommittee_11 : decode cX3_enterCommittee 11 = .ok (.getfield 19, 3) := by decide +kernel
theorem dX3_enterCommittee_14 : decode cX3_enterCommittee 14 = .ok (.aload_n 0, 1) := by decide +kernel
theorem dX3_enterCommittee_15 : decode cX3_enterCommittee 15 = .ok (.getfield 9, 3) := by decide +kernel
theorem dX3_enterCommittee_18 : decode cX3_enterCommittee 18 = .ok (.iconst 0, 1) := by decide +kernel
theorem dX3_enterCommittee_19 : decode cX3_enterCommittee 19 = .ok (.iastore, 1) := by decide +kernel
theorem dX3_enterCommittee_20 : decode cX3_enterCommittee 20 = .ok (.aload_n 0, 1) := by decide +kernel
theorem dX3_enterCommittee_21 : decode cX3_enterCommittee 21 = .ok (.getfield 22, 3) := by decide +kernel
theorem dX3_enterCommittee_24 : decode cX3_enterCommittee 24 = .ok (.aload_n 0, 1) := by decide +kernel
theorem dX3_enterCommittee_25 : decode cX3_enterCommittee 25 = .ok (.getfield 9, 3) := by decide +kernel
theorem dX3_enterCommittee_28 : decode cX3_enterCommittee 28 = .ok (.iconst 1, 1) := by decide +kernel
theorem dX3_enterCommittee_29 : decode cX3_enterCommittee 29 = .ok (.bastore, 1) := by decide +kernel
theorem dX3_enterCommittee_30 : decode cX3_enterCommittee 30 = .ok (.aload_n 0, 1) := by decide +kernel
theorem dX3_enterCommittee_31 : decode cX3_enterCommittee 31 = .ok (.dup, 1) := by decide +kernel
theorem dX3_enterCommittee_32 : decode cX3_enterCommittee 32 = .ok (.getfield 9, 3) := by decide +kernel
theorem dX3_enterCommittee_35 : decode cX3_enterCommittee 35 = .ok (.iconst 1, 1) := by decide +kernel
theorem dX3_enterCommittee_36 : decode cX3_enterCommittee 36 = .ok (.iadd, 1) := by decide +kernel
theorem dX3_enterCommittee_37 : decode cX3_enterCommittee 37 = .ok (.putfield 9, 3) := by decide +kernel
theorem dX3_enterCommittee_40 : decode cX3_enterCommittee 40 = .ok (.aload_n 0, 1) := by decide +kernel
theorem dX3_enterCommittee_41 : decode cX3_enterCommittee 41 = .ok (.getfield 9, 3) := by decide +kernel
theorem dX3_enterCommittee_44 : decode cX3_enterCommittee 44 = .ok (.iconst 1, 1) := by decide +kernel
theorem dX3_enterCommittee_45 : decode cX3_enterCommittee 45 = .ok (.isub, 1) := by decide +kernel
theorem dX3_enterCommittee_46 : decode cX3_enterCommittee 46 = .ok (.ireturn, 1) := by decide +kernel
theorem dX3_payFault_0 : decode cX3_payFault 0 = .ok (.aload_n 0, 1) := by decide +kernel
theorem dX3_payFault_1 : decode cX3_payFault 1 = .ok (.iload_n 1, 1) := by decide +kernel
theorem dX3_payFault_2 : decode cX3_payFault 2 = .ok (.invokevirtual 61, 3) := by decide +kernel
theorem dX3_payFault_5 : decode cX3_payFault 5 = .ok (.ifCond .ne 5, 3) := by decide +kernel
theorem dX3_payFault_8 : decode cX3_payFault 8 = .ok (.iconst 1, 1) := by decide +kernel
theorem dX3_payFault_9 : decode cX3_payFault 9 = .ok (.ireturn, 1) := by decide +kernel
theorem dX3_payFault_10 : decode cX3_payFault 10 = .ok (.iload_n 2, 1) := by decide +kernel
theorem dX3_payFault_11 : decode cX3_payFault 11 = .ok (.iconst 1, 1) := by decide +kernel
theorem dX3_payFault_12 : decode cX3_payFault 12 = .ok (.if_icmp .lt 9, 3) := by decide +kernel
theorem dX3_payFault_15 : decode cX3_payFault 15 = .ok (.iload_n 2, 1) := by decide +kernel
theorem dX3_payFault_16 : decode cX3_payFault 16 = .ok (.bipush 99, 2) := by decide +kernel
theorem dX3_payFault_18 : decode cX3_payFault 18 = .ok (.if_icmp .le 5, 3) := by decide +kernel
theorem dX3_payFault_21 : decode cX3_payFault 21 = .ok (.iconst 2, 1) := by decide +kernel
theorem dX3_payFault_22 : decode cX3_payFault 22 = .ok (.ireturn, 1) := by decide +kernel
theorem dX3_payFault_23 : decode cX3_payFault 23 = .ok (.iload_n 2, 1) := by decide +kernel
theorem dX3_payFault_24 : decode cX3_payFault 24 = .ok (.aload_n 0, 1) := by decide +kernel
theorem dX3_payFault_25 : decode cX3_payFault 25 = .ok (.getfield 19, 3) := by decide +kernel
theorem dX3_payFault_28 : decode cX3_payFault 28 = .ok (.iload_n 1, 1) := by decide +kernel
theorem dX3_payFault_29 : decode cX3_payFault 29 = .ok (.iaload, 1) := by decide +kernel
theorem dX3_payFault_30 : decode cX3_payFault 30 = .ok (.if_icmp .le 7, 3) := by decide +kernel
theorem dX3_payFault_33 : decode cX3_payFault 33 = .ok (.iconst 3, 1) := by decide +kernel
theorem dX3_payFault_34 : decode cX3_payFault 34 = .ok (.goto 4, 3) := by decide +kernel
theorem dX3_payFault_37 : decode cX3_payFault 37 = .ok (.iconst 0, 1) := by decide +kernel
theorem dX3_payFault_38 : decode cX3_payFault 38 = .ok (.ireturn, 1) := by decide +kernel
theorem dX3_takeCoins_0 : decode cX3_takeCoins 0 = .ok (.aload_n 0, 1) := by decide +kernel
theorem dX3_takeCoins_1 : decode cX3_takeCoins 1 = .ok (.getfield 19, 3) := by decide +kernel
theorem dX3_takeCoins_4 : decode cX3_takeCoins 4 = .ok (.iload_n 1, 1) := by decide +kernel
theorem dX3_takeCoins_5 : decode cX3_takeCoins 5 = .ok (.dup2, 1) := by decide +kernel
theorem dX3_takeCoins_6 : decode cX3_takeCoins 6 = .ok (.iaload, 1) := by decide +kernel
theorem dX3_takeCoins_7 : decode cX3_takeCoins 7 = .ok (.iload_n 2, 1) := by decide +kernel
theorem dX3_takeCoins_8 : decode cX3_takeCoins 8 = .ok (.isub, 1) := by decide +kernel
theorem dX3_takeCoins_9 : decode cX3_takeCoins 9 = .ok (.iastore, 1) := by decide +kernel
theorem dX3_takeCoins_10 : decode cX3_takeCoins 10 = .ok (.aload_n 0, 1) := by decide +kernel
theorem dX3_takeCoins_11 : decode cX3_takeCoins 11 = .ok (.dup, 1) := by decide +kernel
theorem dX3_takeCoins_12 : decode cX3_takeCoins 12 = .ok (.getfield 51, 3) := by decide +kernel
theorem dX3_takeCoins_15 : decode cX3_takeCoins 15 = .ok (.iload_n 2, 1) := by decide +kernel
theorem dX3_takeCoins_16 : decode cX3_takeCoins 16 = .ok (.iadd, 1) := by decide +kernel
theorem dX3_takeCoins_17 : decode cX3_takeCoins 17 = .ok (.putfield 51, 3) := by decide +kernel
theorem dX3_takeCoins_20 : decode cX3_takeCoins 20 = .ok (.aload_n 0, 1) := by decide +kernel
theorem dX3_takeCoins_21 : decode cX3_takeCoins 21 = .ok (.getfield 19, 3) := by decide +kernel
theorem dX3_takeCoins_24 : decode cX3_takeCoins 24 = .ok (.iload_n 1, 1) := by decide +kernel
theorem dX3_takeCoins_25 : decode cX3_takeCoins 25 = .ok (.iaload, 1) := by decide +kernel
theorem dX3_takeCoins_26 : decode cX3_takeCoins 26 = .ok (.ireturn, 1) := by decide +kernel
theorem dX3_launchFault_0 : decode cX3_launchFault 0 = .ok (.aload_n 0, 1) := by decide +kernel
theorem dX3_launchFault_1 : decode cX3_launchFault 1 = .ok (.iload_n 1, 1) := by decide +kernel
theorem dX3_launchFault_2 : decode cX3_launchFault 2 = .ok (.invokevirtual 61, 3) := by decide +kernel
theorem dX3_launchFault_5 : decode cX3_launchFault 5 = .ok (.ifCond .ne 5, 3) := by decide +kernel
theorem dX3_launchFault_8 : decode cX3_launchFault 8 = .ok (.iconst 1, 1) := by decide +kernel
theorem dX3_launchFault_9 : decode cX3_launchFault 9 = .ok (.ireturn, 1) := by decide +kernel
theorem dX3_launchFault_10 : decode cX3_launchFault 10 = .ok (.aload_n 0, 1) := by decide +kernel
theorem dX3_launchFault_11 : decode cX3_launchFault 11 = .ok (.getfield 22, 3) := by decide +kernel
theorem dX3_launchFault_14 : decode cX3_launchFault 14 = .ok (.iload_n 1, 1) := by decide +kernel
theorem dX3_launchFault_15 : decode cX3_launchFault 15 = .ok (.baload, 1) := by decide +kernel
theorem dX3_launchFault_16 : decode cX3_launchFault 16 = .ok (.ifCond .ne 12, 3) := by decide +kernel
theorem dX3_launchFault_19 : decode cX3_launchFault 19 = .ok (.aload_n 0, 1) := by decide +kernel
theorem dX3_launchFault_20 : decode cX3_launchFault 20 = .ok (.getfield 19, 3) := by decide +kernel
theorem dX3_launchFault_23 : decode cX3_launchFault 23 = .ok (.iload_n 1, 1) := by decide +kernel
theorem dX3_launchFault_24 : decode cX3_launchFault 24 = .ok (.iaload, 1) := by decide +kernel
theorem dX3_launchFault_25 : decode cX3_launchFault 25 = .ok (.ifCond .le 7, 3) := by decide +kernel
theorem dX3_launchFault_28 : decode cX3_launchFault 28 = .ok (.iconst 2, 1) := by decide +kernel
theorem dX3_launchFault_29 : decode cX3_launchFault 29 = .ok (.goto 4, 3) := by decide +kernel
theorem dX3_launchFault_32 : decode cX3_launchFault 32 = .ok (.iconst 0, 1) := by decide +kernel
theorem dX3_launchFault_33 : decode cX3_launchFault 33 = .ok (.ireturn, 1) := by decide +kernel
theorem dX3_letFly_0 : decode cX3_letFly 0 = .ok (.aload_n 0, 1) := by decide +kernel
theorem dX3_letFly_1 : decode cX3_letFly 1 = .ok (.getfield 22, 3) := by decide +kernel
theorem dX3_letFly_4 : decode cX3_letFly 4 = .ok (.iload_n 1, 1) := by decide +kernel
theorem dX3_letFly_5 : decode cX3_letFly 5 = .ok (.iconst 1, 1) := by decide +kernel
theorem dX3_letFly_6 : decode cX3_letFly 6 = .ok (.bastore, 1) := by decide +kernel
theorem dX3_letFly_7 : decode cX3_letFly 7 = .ok (.iconst 0, 1) := by decide +kernel
theorem dX3_letFly_8 : decode cX3_letFly 8 = .ok (.istore_n 2, 1) := by decide +kernel
theorem dX3_letFly_9 : decode cX3_letFly 9 = .ok (.iconst 0, 1) := by decide +kernel
theorem dX3_letFly_10 : decode cX3_letFly 10 = .ok (.istore_n 3, 1) := by decide +kernel
theorem dX3_letFly_11 : decode cX3_letFly 11 = .ok (.iload_n 3, 1) := by decide +kernel
theorem dX3_letFly_12 : decode cX3_letFly 12 = .ok (.aload_n 0, 1) := by decide +kernel
theorem dX3_letFly_13 : decode cX3_letFly 13 = .ok (.getfield 9, 3) := by decide +kernel
theorem dX3_letFly_16 : decode cX3_letFly 16 = .ok (.if_icmp .ge 21, 3) := by decide +kernel
theorem dX3_letFly_19 : decode cX3_letFly 19 = .ok (.aload_n 0, 1) := by decide +kernel
theorem dX3_letFly_20 : decode cX3_letFly 20 = .ok (.getfield 22, 3) := by decide +kernel
theorem dX3_letFly_23 : decode cX3_letFly 23 = .ok (.iload_n 3, 1) := by decide +kernel
theorem dX3_letFly_24 : decode cX3_letFly 24 = .ok (.baload, 1) := by decide +kernel
theorem dX3_letFly_25 : decode cX3_letFly 25 = .ok (.ifCond .eq 6, 3) := by decide +kernel
theorem dX3_letFly_28 : decode cX3_letFly 28 = .ok (.iinc 2 1, 3) := by decide +kernel
theorem dX3_letFly_31 : decode cX3_letFly 31 = .ok (.iinc 3 1, 3) := by decide +kernel
theorem dX3_letFly_34 : decode cX3_letFly 34 = .ok (.goto (-23), 3) := by decide +kernel
theorem dX3_letFly_37 : decode cX3_letFly 37 = .ok (.iload_n 2, 1) := by decide +kernel
theorem dX3_letFly_38 : decode cX3_letFly 38 = .ok (.ireturn, 1) := by decide +kernel
theorem dX3_groundKite_0 : decode cX3_groundKite 0 = .ok (.aload_n 0, 1) := by decide +kernel
theorem dX3_groundKite_1 : decode cX3_groundKite 1 = .ok (.getfield 22, 3) := by decide +kernel
theorem dX3_groundKite_4 : decode cX3_groundKite 4 = .ok (.iload_n 1, 1) := by decide +kernel
theorem dX3_groundKite_5 : decode cX3_groundKite 5 = .ok (.iconst 0, 1) := by decide +kernel
theorem dX3_groundKite_6 : decode cX3_groundKite 6 = .ok (.bastore, 1) := by decide +kernel
theorem dX3_groundKite_7 : decode cX3_groundKite 7 = .ok (.iconst 0, 1) := by decide +kernel
theorem dX3_groundKite_8 : decode cX3_groundKite 8 = .ok (.istore_n 2, 1) := by decide +kernel
theorem dX3_groundKite_9 : decode cX3_groundKite 9 = .ok (.iload_n 2, 1) := by decide +kernel
theorem dX3_groundKite_10 : decode cX3_groundKite 10 = .ok (.aload_n 0, 1) := by decide +kernel
theorem dX3_groundKite_11 : decode cX3_groundKite 11 = .ok (.getfield 26, 3) := by decide +kernel
theorem dX3_groundKite_14 : decode cX3_groundKite 14 = .ok (.if_icmp .ge 26, 3) := by decide +kernel
theorem dX3_groundKite_17 : decode cX3_groundKite 17 = .ok (.aload_n 0, 1) := by decide +kernel
theorem dX3_groundKite_18 : decode cX3_groundKite 18 = .ok (.getfield 32, 3) := by decide +kernel
theorem dX3_groundKite_21 : decode cX3_groundKite 21 = .ok (.iload_n 2, 1) := by decide +kernel
theorem dX3_groundKite_22 : decode cX3_groundKite 22 = .ok (.iaload, 1) := by decide +kernel
theorem dX3_groundKite_23 : decode cX3_groundKite 23 = .ok (.iload_n 1, 1) := by decide +kernel
theorem dX3_groundKite_24 : decode cX3_groundKite 24 = .ok (.if_icmp .ne 10, 3) := by decide +kernel
theorem dX3_groundKite_27 : decode cX3_groundKite 27 = .ok (.aload_n 0, 1) := by decide +kernel
theorem dX3_groundKite_28 : decode cX3_groundKite 28 = .ok (.getfield 32, 3) := by decide +kernel
theorem dX3_groundKite_31 : decode cX3_groundKite 31 = .ok (.iload_n 2, 1) := by decide +kernel
theorem dX3_groundKite_32 : decode cX3_groundKite 32 = .ok (.iconst (-1), 1) := by decide +kernel
theorem dX3_groundKite_33 : decode cX3_groundKite 33 = .ok (.iastore, 1) := by decide +kernel
theorem dX3_groundKite_34 : decode cX3_groundKite 34 = .ok (.iinc 2 1, 3) := by decide +kernel
theorem dX3_groundKite_37 : decode cX3_groundKite 37 = .ok (.goto (-28), 3) := by decide +kernel
theorem dX3_groundKite_40 : decode cX3_groundKite 40 = .ok (.return_, 1) := by decide +kernel
theorem dX3_committeeRanked_0 : decode cX3_committeeRanked 0 = .ok (.iconst 0, 1) := by decide +kernel
theorem dX3_committeeRanked_1 : decode cX3_committeeRanked 1 = .ok (.istore_n 2, 1) := by decide +kernel
theorem dX3_committeeRanked_2 : decode cX3_committeeRanked 2 = .ok (.iload_n 2, 1) := by decide +kernel
theorem dX3_committeeRanked_3 : decode cX3_committeeRanked 3 = .ok (.aload_n 0, 1) := by decide +kernel
theorem dX3_committeeRanked_4 : decode cX3_committeeRanked 4 = .ok (.getfield 9, 3) := by decide +kernel
theorem dX3_committeeRanked_7 : decode cX3_committeeRanked 7 = .ok (.if_icmp .ge 20, 3) := by decide +kernel
theorem dX3_committeeRanked_10 : decode cX3_committeeRanked 10 = .ok (.aload_n 0, 1) := by decide +kernel
theorem dX3_committeeRanked_11 : decode cX3_committeeRanked 11 = .ok (.iload_n 2, 1) := by decide +kernel
theorem dX3_committeeRanked_12 : decode cX3_committeeRanked 12 = .ok (.invokevirtual 65, 3) := by decide +kernel
theorem dX3_committeeRanked_15 : decode cX3_committeeRanked 15 = .ok (.iload_n 1, 1) := by decide +kernel
theorem dX3_committeeRanked_16 : decode cX3_committeeRanked 16 = .ok (.if_icmp .ne 5, 3) := by decide +kernel
theorem dX3_committeeRanked_19 : decode cX3_committeeRanked 19 = .ok (.iload_n 2, 1) := by decide +kernel
theorem dX3_committeeRanked_20 : decode cX3_committeeRanked 20 = .ok (.ireturn, 1) := by decide +kernel
theorem dX3_committeeRanked_21 : decode cX3_committeeRanked 21 = .ok (.iinc 2 1, 3) := by decide +kernel
theorem dX3_committeeRanked_24 : decode cX3_committeeRanked 24 = .ok (.goto (-22), 3) := by decide +kernel
theorem dX3_committeeRanked_27 : decode cX3_committeeRanked 27 = .ok (.iconst (-1), 1) := by decide +kernel
theorem dX3_committeeRanked_28 : decode cX3_committeeRanked 28 = .ok (.ireturn, 1) := by decide +kernel
theorem dX3_rankOf_0 : decode cX3_rankOf 0 = .ok (.iconst 0, 1) := by decide +kernel
theorem dX3_rankOf_1 : decode cX3_rankOf 1 = .ok (.istore_n 2, 1) := by decide +kernel
theorem dX3_rankOf_2 : decode cX3_rankOf 2 = .ok (.iconst 0, 1) := by decide +kernel
theorem dX3_rankOf_3 : decode cX3_rankOf 3 = .ok (.istore_n 3, 1) := by decide +kernel
theorem dX3_rankOf_4 : decode cX3_rankOf 4 = .ok (.iload_n 3, 1) := by decide +kernel
theorem dX3_rankOf_5 : decode cX3_rankOf 5 = .ok (.aload_n 0, 1) := by decide +kernel
theorem dX3_rankOf_6 : decode cX3_rankOf 6 = .ok (.getfield 9, 3) := by decide +kernel
theorem dX3_rankOf_9 : decode cX3_rankOf 9 = .ok (.if_icmp .ge 21, 3) := by decide +kernel
theorem dX3_rankOf_12 : decode cX3_rankOf 12 = .ok (.aload_n 0, 1) := by decide +kernel
theorem dX3_rankOf_13 : decode cX3_rankOf 13 = .ok (.iload_n 3, 1) := by decide +kernel
theorem dX3_rankOf_14 : decode cX3_rankOf 14 = .ok (.iload_n 1, 1) := by decide +kernel
theorem dX3_rankOf_15 : decode cX3_rankOf 15 = .ok (.invokevirtual 69, 3) := by decide +kernel
theorem dX3_rankOf_18 : decode cX3_rankOf 18 = .ok (.ifCond .eq 6, 3) := by decide +kernel
theorem dX3_rankOf_21 : decode cX3_rankOf 21 = .ok (.iinc 2 1, 3) := by decide +kernel
theorem dX3_rankOf_24 : decode cX3_rankOf 24 = .ok (.iinc 3 1, 3) := by decide +kernel
theorem dX3_rankOf_27 : decode cX3_rankOf 27 = .ok (.goto (-23), 3) := by decide +kernel
theorem dX3_rankOf_30 : decode cX3_rankOf 30 = .ok (.iload_n 2, 1) := by decide +kernel
theorem dX3_rankOf_31 : decode cX3_rankOf 31 = .ok (.ireturn, 1) := by decide +kernel
theorem dX3_isAhead_0 : decode cX3_isAhead 0 = .ok (.aload_n 0, 1) := by decide +kernel
theorem dX3_isAhead_1 : decode cX3_isAhead 1 = .ok (.getfield 19, 3) := by decide +kernel
theorem dX3_isAhead_4 : decode cX3_isAhead 4 = .ok (.iload_n 1, 1) := by decide +kernel
theorem dX3_isAhead_5 : decode cX3_isAhead 5 = .ok (.iaload, 1) := by decide +kernel
theorem dX3_isAhead_6 : decode cX3_isAhead 6 = .ok (.aload_n 0, 1) := by decide +kernel
theorem dX3_isAhead_7 : decode cX3_isAhead 7 = .ok (.getfield 19, 3) := by decide +kernel
theorem dX3_isAhead_10 : decode cX3_isAhead 10 = .ok (.iload_n 2, 1) := by decide +kernel
theorem dX3_isAhead_11 : decode cX3_isAhead 11 = .ok (.iaload, 1) := by decide +kernel
theorem dX3_isAhead_12 : decode cX3_isAhead 12 = .ok (.if_icmp .eq 24, 3) := by decide +kernel
theorem dX3_isAhead_15 : decode cX3_isAhead 15 = .ok (.aload_n 0, 1) := by decide +kernel
theorem dX3_isAhead_16 : decode cX3_isAhead 16 = .ok (.getfield 19, 3) := by decide +kernel
theorem dX3_isAhead_19 : decode cX3_isAhead 19 = .ok (.iload_n 1, 1) := by decide +kernel
theorem dX3_isAhead_20 : decode cX3_isAhead 20 = .ok (.iaload, 1) := by decide +kernel
theorem dX3_isAhead_21 : decode cX3_isAhead 21 = .ok (.aload_n 0, 1) := by decide +kernel
theorem dX3_isAhead_22 : decode cX3_isAhead 22 = .ok (.getfield 19, 3) := by decide +kernel
theorem dX3_isAhead_25 : decode cX3_isAhead 25 = .ok (.iload_n 2, 1) := by decide +kernel
theorem dX3_isAhead_26 : decode cX3_isAhead 26 = .ok (.iaload, 1) := by decide +kernel
theorem dX3_isAhead_27 : decode cX3_isAhead 27 = .ok (.if_icmp .le 7, 3) := by decide +kernel
theorem dX3_isAhead_30 : decode cX3_isAhead 30 = .ok (.iconst 1, 1) := by decide +kernel
theorem dX3_isAhead_31 : decode cX3_isAhead 31 = .ok (.goto 4, 3) := by decide +kernel
theorem dX3_isAhead_34 : decode cX3_isAhead 34 = .ok (.iconst 0, 1) := by decide +kernel
theorem dX3_isAhead_35 : decode cX3_isAhead 35 = .ok (.ireturn, 1) := by decide +kernel
theorem dX3_isAhead_36 : decode cX3_isAhead 36 = .ok (.aload_n 0, 1) := by decide +kernel
theorem dX3_isAhead_37 : decode cX3_isAhead 37 = .ok (.getfield 15, 3) := by decide +kernel
theorem dX3_isAhead_40 : decode cX3_isAhead 40 = .ok (.iload_n 1, 1) := by decide +kernel
theorem dX3_isAhead_41 : decode cX3_isAhead 41 = .ok (.iaload, 1) := by decide +kernel
theorem dX3_isAhead_42 : decode cX3_isAhead 42 = .ok (.aload_n 0, 1) := by decide +kernel
theorem dX3_isAhead_43 : decode cX3_isAhead 43 = .ok (.getfield 15, 3) := by decide +kernel
theorem dX3_isAhead_46 : decode cX3_isAhead 46 = .ok (.iload_n 2, 1) := by decide +kernel
theorem dX3_isAhead_47 : decode cX3_isAhead 47 = .ok (.iaload, 1) := by decide +kernel
theorem dX3_isAhead_48 : decode cX3_isAhead 48 = .ok (.if_icmp .eq 24, 3) := by decide +kernel
theorem dX3_isAhead_51 : decode cX3_isAhead 51 = .ok (.aload_n 0, 1) := by decide +kernel
theorem dX3_isAhead_52 : decode cX3_isAhead 52 = .ok (.getfield 15, 3) := by decide +kernel
theorem dX3_isAhead_55 : decode cX3_isAhead 55 = .ok (.iload_n 1, 1) := by decide +kernel
theorem dX3_isAhead_56 : decode cX3_isAhead 56 = .ok (.iaload, 1) := by decide +kernel
theorem dX3_isAhead_57 : decode cX3_isAhead 57 = .ok (.aload_n 0, 1) := by decide +kernel
theorem dX3_isAhead_58 : decode cX3_isAhead 58 = .ok (.getfield 15, 3) := by decide +kernel
theorem dX3_isAhead_61 : decode cX3_isAhead 61 = .ok (.iload_n 2, 1) := by decide +kernel
theorem dX3_isAhead_62 : decode cX3_isAhead 62 = .ok (.iaload, 1) := by decide +kernel
theorem dX3_isAhead_63 : decode cX3_isAhead 63 = .ok (.if_icmp .le 7, 3) := by decide +kernel
theorem dX3_isAhead_66 : decode cX3_isAhead 66 = .ok (.iconst 1, 1) := by decide +kernel
theorem dX3_isAhead_67 : decode cX3_isAhead 67 = .ok (.goto 4, 3) := by decide +kernel
theorem dX3_isAhead_70 : decode cX3_isAhead 70 = .ok (.iconst 0, 1) := by decide +kernel
theorem dX3_isAhead_71 : decode cX3_isAhead 71 = .ok (.ireturn, 1) := by decide +kernel
theorem dX3_isAhead_72 : decode cX3_isAhead 72 = .ok (.iload_n 1, 1) := by decide +kernel
theorem dX3_isAhead_73 : decode cX3_isAhead 73 = .ok (.iload_n 2, 1) := by decide +kernel
theorem dX3_isAhead_74 : decode cX3_isAhead 74 = .ok (.if_icmp .ge 7, 3) := by decide +kernel
theorem dX3_isAhead_77 : decode cX3_isAhead 77 = .ok (.iconst 1, 1) := by decide +kernel
theorem dX3_isAhead_78 : decode cX3_isAhead 78 = .ok (.goto 4, 3) := by decide +kernel
theorem dX3_isAhead_81 : decode cX3_isAhead 81 = .ok (.iconst 0, 1) := by decide +kernel
theorem dX3_isAhead_82 : decode cX3_isAhead 82 = .ok (.ireturn, 1) := by decide +kernel
theorem dX3_sumOfArrears_0 : decode cX3_sumOfArrears 0 = .ok (.iconst 0, 1) := by decide +kernel
theorem dX3_sumOfArrears_1 : decode cX3_sumOfArrears 1 = .ok (.istore_n 1, 1) := by decide +kernel
theorem dX3_sumOfArrears_2 : decode cX3_sumOfArrears 2 = .ok (.iconst 0, 1) := by decide +kernel
theorem dX3_sumOfArrears_3 : decode cX3_sumOfArrears 3 = .ok (.istore_n 2, 1) := by decide +kernel
theorem dX3_sumOfArrears_4 : decode cX3_sumOfArrears 4 = .ok (.iload_n 2, 1) := by decide +kernel
theorem dX3_sumOfArrears_5 : decode cX3_sumOfArrears 5 = .ok (.aload_n 0, 1) := by decide +kernel
theorem dX3_sumOfArrears_6 : decode cX3_sumOfArrears 6 = .ok (.getfield 9, 3) := by decide +kernel
theorem dX3_sumOfArrears_9 : decode cX3_sumOfArrears 9 = .ok (.if_icmp .ge 18, 3) := by decide +kernel
theorem dX3_sumOfArrears_12 : decode cX3_sumOfArrears 12 = .ok (.iload_n 1, 1) := by decide +kernel
theorem dX3_sumOfArrears_13 : decode cX3_sumOfArrears 13 = .ok (.aload_n 0, 1) := by decide +kernel
theorem dX3_sumOfArrears_14 : decode cX3_sumOfArrears 14 = .ok (.getfield 19, 3) := by decide +kernel
theorem dX3_sumOfArrears_17 : decode cX3_sumOfArrears 17 = .ok (.iload_n 2, 1) := by decide +kernel
theorem dX3_sumOfArrears_18 : decode cX3_sumOfArrears 18 = .ok (.iaload, 1) := by decide +kernel
theorem dX3_sumOfArrears_19 : decode cX3_sumOfArrears 19 = .ok (.iadd, 1) := by decide +kernel
theorem dX3_sumOfArrears_20 : decode cX3_sumOfArrears 20 = .ok (.istore_n 1, 1) := by decide +kernel
theorem dX3_sumOfArrears_21 : decode cX3_sumOfArrears 21 = .ok (.iinc 2 1, 3) := by decide +kernel
theorem dX3_sumOfArrears_24 : decode cX3_sumOfArrears 24 = .ok (.goto (-20), 3) := by decide +kernel
theorem dX3_sumOfArrears_27 : decode cX3_sumOfArrears 27 = .ok (.iload_n 1, 1) := by decide +kernel
theorem dX3_sumOfArrears_28 : decode cX3_sumOfArrears 28 = .ok (.ireturn, 1) := by decide +kernel
theorem dX3_tailFault_0 : decode cX3_tailFault 0 = .ok (.iload_n 1, 1) := by decide +kernel
theorem dX3_tailFault_1 : decode cX3_tailFault 1 = .ok (.iconst 1, 1) := by decide +kernel
theorem dX3_tailFault_2 : decode cX3_tailFault 2 = .ok (.if_icmp .lt 9, 3) := by decide +kernel
theorem dX3_tailFault_5 : decode cX3_tailFault 5 = .ok (.iload_n 1, 1) := by decide +kernel
theorem dX3_tailFault_6 : decode cX3_tailFault 6 = .ok (.bipush 9, 2) := by decide +kernel
theorem dX3_tailFault_8 : decode cX3_tailFault 8 = .ok (.if_icmp .le 5, 3) := by decide +kernel
theorem dX3_tailFault_11 : decode cX3_tailFault 11 = .ok (.iconst 1, 1) := by decide +kernel
theorem dX3_tailFault_12 : decode cX3_tailFault 12 = .ok (.ireturn, 1) := by decide +kernel
theorem dX3_tailFault_13 : decode cX3_tailFault 13 = .ok (.aload_n 0, 1) := by decide +kernel
theorem dX3_tailFault_14 : decode cX3_tailFault 14 = .ok (.getfield 26, 3) := by decide +kernel
theorem dX3_tailFault_17 : decode cX3_tailFault 17 = .ok (.bipush 8, 2) := by decide +kernel
theorem dX3_tailFault_19 : decode cX3_tailFault 19 = .ok (.if_icmp .lt 7, 3) := by decide +kernel
theorem dX3_tailFault_22 : decode cX3_tailFault 22 = .ok (.iconst 2, 1) := by decide +kernel
theorem dX3_tailFault_23 : decode cX3_tailFault 23 = .ok (.goto 4, 3) := by decide +kernel
theorem dX3_tailFault_26 : decode cX3_tailFault 26 = .ok (.iconst 0, 1) := by decide +kernel
theorem dX3_tailFault_27 : decode cX3_tailFault 27 = .ok (.ireturn, 1) := by decide +kernel
theorem dX3_enterTail_0 : decode cX3_enterTail 0 = .ok (.aload_n 0, 1) := by decide +kernel
theorem dX3_enterTail_1 : decode cX3_enterTail 1 = .ok (.getfield 29, 3) := by decide +kernel
theorem dX3_enterTail_4 : decode cX3_enterTail 4 = .ok (.aload_n 0, 1) := by decide +kernel
theorem dX3_enterTail_5 : decode cX3_enterTail 5 = .ok (.getfield 26, 3) := by decide +kernel
theorem dX3_enterTail_8 : decode cX3_enterTail 8 = .ok (.iload_n 1, 1) := by decide +kernel
theorem dX3_enterTail_9 : decode cX3_enterTail 9 = .ok (.iastore, 1) := by decide +kernel
theorem dX3_enterTail_10 : decode cX3_enterTail 10 = .ok (.aload_n 0, 1) := by decide +kernel
theorem dX3_enterTail_11 : decode cX3_enterTail 11 = .ok (.getfield 32, 3) := by decide +kernel
theorem dX3_enterTail_14 : decode cX3_enterTail 14 = .ok (.aload_n 0, 1) := by decide +kernel
theorem dX3_enterTail_15 : decode cX3_enterTail 15 = .ok (.getfield 26, 3) := by decide +kernel
theorem dX3_enterTail_18 : decode cX3_enterTail 18 = .ok (.iconst (-1), 1) := by decide +kernel
theorem dX3_enterTail_19 : decode cX3_enterTail 19 = .ok (.iastore, 1) := by decide +kernel
theorem dX3_enterTail_20 : decode cX3_enterTail 20 = .ok (.aload_n 0, 1) := by decide +kernel
theorem dX3_enterTail_21 : decode cX3_enterTail 21 = .ok (.dup, 1) := by decide +kernel
theorem dX3_enterTail_22 : decode cX3_enterTail 22 = .ok (.getfield 26, 3) := by decide +kernel
theorem dX3_enterTail_25 : decode cX3_enterTail 25 = .ok (.iconst 1, 1) := by decide +kernel
theorem dX3_enterTail_26 : decode cX3_enterTail 26 = .ok (.iadd, 1) := by decide +kernel
theorem dX3_enterTail_27 : decode cX3_enterTail 27 = .ok (.putfield 26, 3) := by decide +kernel
theorem dX3_enterTail_30 : decode cX3_enterTail 30 = .ok (.aload_n 0, 1) := by decide +kernel
theorem dX3_enterTail_31 : decode cX3_enterTail 31 = .ok (.getfield 26, 3) := by decide +kernel
theorem dX3_enterTail_34 : decode cX3_enterTail 34 = .ok (.iconst 1, 1) := by decide +kernel
theorem dX3_enterTail_35 : decode cX3_enterTail 35 = .ok (.isub, 1) := by decide +kernel
theorem dX3_enterTail_36 : decode cX3_enterTail 36 = .ok (.ireturn, 1) := by decide +kernel
theorem dX3_lengthBehind_0 : decode cX3_lengthBehind 0 = .ok (.iconst 0, 1) := by decide +kernel
theorem dX3_lengthBehind_1 : decode cX3_lengthBehind 1 = .ok (.istore_n 2, 1) := by decide +kernel
theorem dX3_lengthBehind_2 : decode cX3_lengthBehind 2 = .ok (.iconst 0, 1) := by decide +kernel
theorem dX3_lengthBehind_3 : decode cX3_lengthBehind 3 = .ok (.istore_n 3, 1) := by decide +kernel
theorem dX3_lengthBehind_4 : decode cX3_lengthBehind 4 = .ok (.iload_n 3, 1) := by decide +kernel
theorem dX3_lengthBehind_5 : decode cX3_lengthBehind 5 = .ok (.aload_n 0, 1) := by decide +kernel
theorem dX3_lengthBehind_6 : decode cX3_lengthBehind 6 = .ok (.getfield 26, 3) := by decide +kernel
theorem dX3_lengthBehind_9 : decode cX3_lengthBehind 9 = .ok (.if_icmp .ge 28, 3) := by decide +kernel
theorem dX3_lengthBehind_12 : decode cX3_lengthBehind 12 = .ok (.aload_n 0, 1) := by decide +kernel
theorem dX3_lengthBehind_13 : decode cX3_lengthBehind 13 = .ok (.getfield 32, 3) := by decide +kernel
theorem dX3_lengthBehind_16 : decode cX3_lengthBehind 16 = .ok (.iload_n 3, 1) := by decide +kernel
theorem dX3_lengthBehind_17 : decode cX3_lengthBehind 17 = .ok (.iaload, 1) := by decide +kernel
theorem dX3_lengthBehind_18 : decode cX3_lengthBehind 18 = .ok (.iload_n 1, 1) := by decide +kernel
theorem dX3_lengthBehind_19 : decode cX3_lengthBehind 19 = .ok (.if_icmp .ne 12, 3) := by decide +kernel
theorem dX3_lengthBehind_22 : decode cX3_lengthBehind 22 = .ok (.iload_n 2, 1) := by decide +kernel
theorem dX3_lengthBehind_23 : decode cX3_lengthBehind 23 = .ok (.aload_n 0, 1) := by decide +kernel
theorem dX3_lengthBehind_24 : decode cX3_lengthBehind 24 = .ok (.getfield 29, 3) := by decide +kernel
theorem dX3_lengthBehind_27 : decode cX3_lengthBehind 27 = .ok (.iload_n 3, 1) := by decide +kernel
theorem dX3_lengthBehind_28 : decode cX3_lengthBehind 28 = .ok (.iaload, 1) := by decide +kernel
theorem dX3_lengthBehind_29 : decode cX3_lengthBehind 29 = .ok (.iadd, 1) := by decide +kernel
theorem dX3_lengthBehind_30 : decode cX3_lengthBehind 30 = .ok (.istore_n 2, 1) := by decide +kernel
theorem dX3_lengthBehind_31 : decode cX3_lengthBehind 31 = .ok (.iinc 3 1, 3) := by decide +kernel
theorem dX3_lengthBehind_34 : decode cX3_lengthBehind 34 = .ok (.goto (-30), 3) := by decide +kernel
theorem dX3_lengthBehind_37 : decode cX3_lengthBehind 37 = .ok (.iload_n 2, 1) := by decide +kernel
theorem dX3_lengthBehind_38 : decode cX3_lengthBehind 38 = .ok (.ireturn, 1) := by decide +kernel
theorem dX3_tailsBehind_0 : decode cX3_tailsBehind 0 = .ok (.iconst 0, 1) := by decide +kernel
theorem dX3_tailsBehind_1 : decode cX3_tailsBehind 1 = .ok (.istore_n 2, 1) := by decide +kernel
theorem dX3_tailsBehind_2 : decode cX3_tailsBehind 2 = .ok (.iconst 0, 1) := by decide +kernel
theorem dX3_tailsBehind_3 : decode cX3_tailsBehind 3 = .ok (.istore_n 3, 1) := by decide +kernel
theorem dX3_tailsBehind_4 : decode cX3_tailsBehind 4 = .ok (.iload_n 3, 1) := by decide +kernel
theorem dX3_tailsBehind_5 : decode cX3_tailsBehind 5 = .ok (.aload_n 0, 1) := by decide +kernel
theorem dX3_tailsBehind_6 : decode cX3_tailsBehind 6 = .ok (.getfield 26, 3) := by decide +kernel
theorem dX3_tailsBehind_9 : decode cX3_tailsBehind 9 = .ok (.if_icmp .ge 22, 3) := by decide +kernel
theorem dX3_tailsBehind_12 : decode cX3_tailsBehind 12 = .ok (.aload_n 0, 1) := by decide +kernel
theorem dX3_tailsBehind_13 : decode cX3_tailsBehind 13 = .ok (.getfield 32, 3) := by decide +kernel
theorem dX3_tailsBehind_16 : decode cX3_tailsBehind 16 = .ok (.iload_n 3, 1) := by decide +kernel
theorem dX3_tailsBehind_17 : decode cX3_tailsBehind 17 = .ok (.iaload, 1) := by decide +kernel
theorem dX3_tailsBehind_18 : decode cX3_tailsBehind 18 = .ok (.iload_n 1, 1) := by decide +kernel
theorem dX3_tailsBehind_19 : decode cX3_tailsBehind 19 = .ok (.if_icmp .ne 6, 3) := by decide +kernel
theorem dX3_tailsBehind_22 : decode cX3_tailsBehind 22 = .ok (.iinc 2 1, 3) := by decide +kernel
theorem dX3_tailsBehind_25 : decode cX3_tailsBehind 25 = .ok (.iinc 3 1, 3) := by decide +kernel
theorem dX3_tailsBehind_28 : decode cX3_tailsBehind 28 = .ok (.goto (-24), 3) := by decide +kernel
theorem dX3_tailsBehind_31 : decode cX3_tailsBehind 31 = .ok (.iload_n 2, 1) := by decide +kernel
theorem dX3_tailsBehind_32 : decode cX3_tailsBehind 32 = .ok (.ireturn, 1) := by decide +kernel
theorem dX3_rentedTails_0 : decode cX3_rentedTails 0 = .ok (.aload_n 0, 1) := by decide +kernel
theorem dX3_rentedTails_1 : decode cX3_rentedTails 1 = .ok (.getfield 26, 3) := by decide +kernel
theorem dX3_rentedTails_4 : decode cX3_rentedTails 4 = .ok (.aload_n 0, 1) := by decide +kernel
theorem dX3_rentedTails_5 : decode cX3_rentedTails 5 = .ok (.iconst (-1), 1) := by decide +kernel
theorem dX3_rentedTails_6 : decode cX3_rentedTails 6 = .ok (.invokevirtual 73, 3) := by decide +kernel
theorem dX3_rentedTails_9 : decode cX3_rentedTails 9 = .ok (.isub, 1) := by decide +kernel
theorem dX3_rentedTails_10 : decode cX3_rentedTails 10 = .ok (.ireturn, 1) := by decide +kernel
theorem dX3_shortestFree_0 : decode cX3_shortestFree 0 = .ok (.iconst (-1), 1) := by decide +kernel
theorem dX3_shortestFree_1 : decode cX3_shortestFree 1 = .ok (.istore_n 1, 1) := by decide +kernel
theorem dX3_shortestFree_2 : decode cX3_shortestFree 2 = .ok (.iconst 0, 1) := by decide +kernel
theorem dX3_shortestFree_3 : decode cX3_shortestFree 3 = .ok (.istore_n 2, 1) := by decide +kernel
theorem dX3_shortestFree_4 : decode cX3_shortestFree 4 = .ok (.iload_n 2, 1) := by decide +kernel
theorem dX3_shortestFree_5 : decode cX3_shortestFree 5 = .ok (.aload_n 0, 1) := by decide +kernel
theorem dX3_shortestFree_6 : decode cX3_shortestFree 6 = .ok (.getfield 26, 3) := by decide +kernel
theorem dX3_shortestFree_9 : decode cX3_shortestFree 9 = .ok (.if_icmp .ge 41, 3) := by decide +kernel
theorem dX3_shortestFree_12 : decode cX3_shortestFree 12 = .ok (.aload_n 0, 1) := by decide +kernel
theorem dX3_shortestFree_13 : decode cX3_shortestFree 13 = .ok (.getfield 32, 3) := by decide +kernel
theorem dX3_shortestFree_16 : decode cX3_shortestFree 16 = .ok (.iload_n 2, 1) := by decide +kernel
theorem dX3_shortestFree_17 : decode cX3_shortestFree 17 = .ok (.iaload, 1) := by decide +kernel
theorem dX3_shortestFree_18 : decode cX3_shortestFree 18 = .ok (.iconst (-1), 1) := by decide +kernel
theorem dX3_shortestFree_19 : decode cX3_shortestFree 19 = .ok (.if_icmp .ne 25, 3) := by decide +kernel
theorem dX3_shortestFree_22 : decode cX3_shortestFree 22 = .ok (.iload_n 1, 1) := by decide +kernel
theorem dX3_shortestFree_23 : decode cX3_shortestFree 23 = .ok (.iconst (-1), 1) := by decide +kernel
theorem dX3_shortestFree_24 : decode cX3_shortestFree 24 = .ok (.if_icmp .eq 18, 3) := by decide +kernel
theorem dX3_shortestFree_27 : decode cX3_shortestFree 27 = .ok (.aload_n 0, 1) := by decide +kernel
theorem dX3_shortestFree_28 : decode cX3_shortestFree 28 = .ok (.getfield 29, 3) := by decide +kernel
theorem dX3_shortestFree_31 : decode cX3_shortestFree 31 = .ok (.iload_n 2, 1) := by decide +kernel
theorem dX3_shortestFree_32 : decode cX3_shortestFree 32 = .ok (.iaload, 1) := by decide +kernel
theorem dX3_shortestFree_33 : decode cX3_shortestFree 33 = .ok (.aload_n 0, 1) := by decide +kernel
theorem dX3_shortestFree_34 : decode cX3_shortestFree 34 = .ok (.getfield 29, 3) := by decide +kernel
theorem dX3_shortestFree_37 : decode cX3_shortestFree 37 = .ok (.iload_n 1, 1) := by decide +kernel
theorem dX3_shortestFree_38 : decode cX3_shortestFree 38 = .ok (.iaload, 1) := by decide +kernel
theorem dX3_shortestFree_39 : decode cX3_shortestFree 39 = .ok (.if_icmp .ge 5, 3) := by decide +kernel
theorem dX3_shortestFree_42 : decode cX3_shortestFree 42 = .ok (.iload_n 2, 1) := by decide +kernel
theorem dX3_shortestFree_43 : decode cX3_shortestFree 43 = .ok (.istore_n 1, 1) := by decide +kernel
theorem dX3_shortestFree_44 : decode cX3_shortestFree 44 = .ok (.iinc 2 1, 3) := by decide +kernel
theorem dX3_shortestFree_47 : decode cX3_shortestFree 47 = .ok (.goto (-43), 3) := by decide +kernel
theorem dX3_shortestFree_50 : decode cX3_shortestFree 50 = .ok (.iload_n 1, 1) := by decide +kernel
theorem dX3_shortestFree_51 : decode cX3_shortestFree 51 = .ok (.ireturn, 1) := by decide +kernel
theorem dX3_allRentersFly_0 : decode cX3_allRentersFly 0 = .ok (.iconst 0, 1) := by decide +kernel
theorem dX3_allRentersFly_1 : decode cX3_allRentersFly 1 = .ok (.istore_n 1, 1) := by decide +kernel
theorem dX3_allRentersFly_2 : decode cX3_allRentersFly 2 = .ok (.iload_n 1, 1) := by decide +kernel
theorem dX3_allRentersFly_3 : decode cX3_allRentersFly 3 = .ok (.aload_n 0, 1) := by decide +kernel
theorem dX3_allRentersFly_4 : decode cX3_allRentersFly 4 = .ok (.getfield 26, 3) := by decide +kernel
theorem dX3_allRentersFly_7 : decode cX3_allRentersFly 7 = .ok (.if_icmp .ge 40, 3) := by decide +kernel
theorem dX3_allRentersFly_10 : decode cX3_allRentersFly 10 = .ok (.aload_n 0, 1) := by decide +kernel
theorem dX3_allRentersFly_11 : decode cX3_allRentersFly 11 = .ok (.getfield 32, 3) := by decide +kernel
theorem dX3_allRentersFly_14 : decode cX3_allRentersFly 14 = .ok (.iload_n 1, 1) := by decide +kernel
theorem dX3_allRentersFly_15 : decode cX3_allRentersFly 15 = .ok (.iaload, 1) := by decide +kernel
theorem dX3_allRentersFly_16 : decode cX3_allRentersFly 16 = .ok (.istore_n 2, 1) := by decide +kernel
theorem dX3_allRentersFly_17 : decode cX3_allRentersFly 17 = .ok (.iload_n 2, 1) := by decide +kernel
theorem dX3_allRentersFly_18 : decode cX3_allRentersFly 18 = .ok (.iconst (-1), 1) := by decide +kernel
theorem dX3_allRentersFly_19 : decode cX3_allRentersFly 19 = .ok (.if_icmp .eq 22, 3) := by decide +kernel
theorem dX3_allRentersFly_22 : decode cX3_allRentersFly 22 = .ok (.aload_n 0, 1) := by decide +kernel
theorem dX3_allRentersFly_23 : decode cX3_allRentersFly 23 = .ok (.iload_n 2, 1) := by decide +kernel
theorem dX3_allRentersFly_24 : decode cX3_allRentersFly 24 = .ok (.invokevirtual 61, 3) := by decide +kernel
theorem dX3_allRentersFly_27 : decode cX3_allRentersFly 27 = .ok (.ifCond .eq 12, 3) := by decide +kernel
theorem dX3_allRentersFly_30 : decode cX3_allRentersFly 30 = .ok (.aload_n 0, 1) := by decide +kernel
theorem dX3_allRentersFly_31 : decode cX3_allRentersFly 31 = .ok (.getfield 22, 3) := by decide +kernel
theorem dX3_allRentersFly_34 : decode cX3_allRentersFly 34 = .ok (.iload_n 2, 1) := by decide +kernel
theorem dX3_allRentersFly_35 : decode cX3_allRentersFly 35 = .ok (.baload, 1) := by decide +kernel
theorem dX3_allRentersFly_36 : decode cX3_allRentersFly 36 = .ok (.ifCond .ne 5, 3) := by decide +kernel
theorem dX3_allRentersFly_39 : decode cX3_allRentersFly 39 = .ok (.iconst 0, 1) := by decide +kernel
theorem dX3_allRentersFly_40 : decode cX3_allRentersFly 40 = .ok (.ireturn, 1) := by decide +kernel
theorem dX3_allRentersFly_41 : decode cX3_allRentersFly 41 = .ok (.iinc 1 1, 3) := by decide +kernel
theorem dX3_allRentersFly_44 : decode cX3_allRentersFly 44 = .ok (.goto (-42), 3) := by decide +kernel
theorem dX3_allRentersFly_47 : decode cX3_allRentersFly 47 = .ok (.iconst 1, 1) := by decide +kernel
theorem dX3_allRentersFly_48 : decode cX3_allRentersFly 48 = .ok (.ireturn, 1) := by decide +kernel
theorem dX3_tailMotionFault_0 : decode cX3_tailMotionFault 0 = .ok (.aload_n 0, 1) := by decide +kernel
theorem dX3_tailMotionFault_1 : decode cX3_tailMotionFault 1 = .ok (.iload_n 1, 1) := by decide +kernel
theorem dX3_tailMotionFault_2 : decode cX3_tailMotionFault 2 = .ok (.invokevirtual 61, 3) := by decide +kernel
theorem dX3_tailMotionFault_5 : decode cX3_tailMotionFault 5 = .ok (.ifCond .eq 11, 3) := by decide +kernel
theorem dX3_tailMotionFault_8 : decode cX3_tailMotionFault 8 = .ok (.aload_n 0, 1) := by decide +kernel
theorem dX3_tailMotionFault_9 : decode cX3_tailMotionFault 9 = .ok (.iload_n 2, 1) := by decide +kernel
theorem dX3_tailMotionFault_10 : decode cX3_tailMotionFault 10 = .ok (.invokevirtual 76, 3) := by decide +kernel
theorem dX3_tailMotionFault_13 : decode cX3_tailMotionFault 13 = .ok (.ifCond .ne 5, 3) := by decide +kernel
theorem dX3_tailMotionFault_16 : decode cX3_tailMotionFault 16 = .ok (.iconst 1, 1) := by decide +kernel
theorem dX3_tailMotionFault_17 : decode cX3_tailMotionFault 17 = .ok (.ireturn, 1) := by decide +kernel
theorem dX3_tailMotionFault_18 : decode cX3_tailMotionFault 18 = .ok (.aload_n 0, 1) := by decide +kernel
theorem dX3_tailMotionFault_19 : decode cX3_tailMotionFault 19 = .ok (.getfield 38, 3) := by decide +kernel
theorem dX3_tailMotionFault_22 : decode cX3_tailMotionFault 22 = .ok (.invokevirtual 79, 3) := by decide +kernel
theorem dX3_tailMotionFault_25 : decode cX3_tailMotionFault 25 = .ok (.ifCond .eq 7, 3) := by decide +kernel
theorem dX3_tailMotionFault_28 : decode cX3_tailMotionFault 28 = .ok (.iconst 2, 1) := by decide +kernel
theorem dX3_tailMotionFault_29 : decode cX3_tailMotionFault 29 = .ok (.goto 4, 3) := by decide +kernel
theorem dX3_tailMotionFault_32 : decode cX3_tailMotionFault 32 = .ok (.iconst 0, 1) := by decide +kernel
theorem dX3_tailMotionFault_33 : decode cX3_tailMotionFault 33 = .ok (.ireturn, 1) := by decide +kernel
theorem dX3_groundMotionFault_0 : decode cX3_groundMotionFault 0 = .ok (.aload_n 0, 1) := by decide +kernel
theorem dX3_groundMotionFault_1 : decode cX3_groundMotionFault 1 = .ok (.iload_n 1, 1) := by decide +kernel
theorem dX3_groundMotionFault_2 : decode cX3_groundMotionFault 2 = .ok (.invokevirtual 61, 3) := by decide +kernel
theorem dX3_groundMotionFault_5 : decode cX3_groundMotionFault 5 = .ok (.ifCond .eq 11, 3) := by decide +kernel
theorem dX3_groundMotionFault_8 : decode cX3_groundMotionFault 8 = .ok (.aload_n 0, 1) := by decide +kernel
theorem dX3_groundMotionFault_9 : decode cX3_groundMotionFault 9 = .ok (.iload_n 2, 1) := by decide +kernel
theorem dX3_groundMotionFault_10 : decode cX3_groundMotionFault 10 = .ok (.invokevirtual 61, 3) := by decide +kernel
theorem dX3_groundMotionFault_13 : decode cX3_groundMotionFault 13 = .ok (.ifCond .ne 5, 3) := by decide +kernel
theorem dX3_groundMotionFault_16 : decode cX3_groundMotionFault 16 = .ok (.iconst 1, 1) := by decide +kernel
theorem dX3_groundMotionFault_17 : decode cX3_groundMotionFault 17 = .ok (.ireturn, 1) := by decide +kernel
theorem dX3_groundMotionFault_18 : decode cX3_groundMotionFault 18 = .ok (.aload_n 0, 1) := by decide +kernel
theorem dX3_groundMotionFault_19 : decode cX3_groundMotionFault 19 = .ok (.getfield 38, 3) := by decide +kernel
theorem dX3_groundMotionFault_22 : decode cX3_groundMotionFault 22 = .ok (.invokevirtual 79, 3) := by decide +kernel
theorem dX3_groundMotionFault_25 : decode cX3_groundMotionFault 25 = .ok (.ifCond .eq 7, 3) := by decide +kernel
theorem dX3_groundMotionFault_28 : decode cX3_groundMotionFault 28 = .ok (.iconst 2, 1) := by decide +kernel
theorem dX3_groundMotionFault_29 : decode cX3_groundMotionFault 29 = .ok (.goto 4, 3) := by decide +kernel
theorem dX3_groundMotionFault_32 : decode cX3_groundMotionFault 32 = .ok (.iconst 0, 1) := by decide +kernel
theorem dX3_groundMotionFault_33 : decode cX3_groundMotionFault 33 = .ok (.ireturn, 1) := by decide +kernel
theorem dX3_enterMotion_0 : decode cX3_enterMotion 0 = .ok (.aload_n 0, 1) := by decide +kernel
theorem dX3_enterMotion_1 : decode cX3_enterMotion 1 = .ok (.getfield 38, 3) := by decide +kernel
theorem dX3_enterMotion_4 : decode cX3_enterMotion 4 = .ok (.iload_n 1, 1) := by decide +kernel
theorem dX3_enterMotion_5 : decode cX3_enterMotion 5 = .ok (.iload_n 2, 1) := by decide +kernel
theorem dX3_enterMotion_6 : decode cX3_enterMotion 6 = .ok (.iload_n 3, 1) := by decide +kernel
theorem dX3_enterMotion_7 : decode cX3_enterMotion 7 = .ok (.invokevirtual 83, 3) := by decide +kernel
theorem dX3_enterMotion_10 : decode cX3_enterMotion 10 = .ok (.ireturn, 1) := by decide +kernel
theorem dX3_secondFault_0 : decode cX3_secondFault 0 = .ok (.aload_n 0, 1) := by decide +kernel
theorem dX3_secondFault_1 : decode cX3_secondFault 1 = .ok (.iload_n 1, 1) := by decide +kernel
theorem dX3_secondFault_2 : decode cX3_secondFault 2 = .ok (.invokevirtual 61, 3) := by decide +kernel
theorem dX3_secondFault_5 : decode cX3_secondFault 5 = .ok (.ifCond .ne 5, 3) := by decide +kernel
theorem dX3_secondFault_8 : decode cX3_secondFault 8 = .ok (.iconst 1, 1) := by decide +kernel
theorem dX3_secondFault_9 : decode cX3_secondFault 9 = .ok (.ireturn, 1) := by decide +kernel
theorem dX3_secondFault_10 : decode cX3_secondFault 10 = .ok (.aload_n 0, 1) := by decide +kernel
theorem dX3_secondFault_11 : decode cX3_secondFault 11 = .ok (.getfield 38, 3) := by decide +kernel
theorem dX3_secondFault_14 : decode cX3_secondFault 14 = .ok (.iload_n 2, 1) := by decide +kernel
theorem dX3_secondFault_15 : decode cX3_secondFault 15 = .ok (.invokevirtual 87, 3) := by decide +kernel
theorem dX3_secondFault_18 : decode cX3_secondFault 18 = .ok (.istore_n 3, 1) := by decide +kernel
theorem dX3_secondFault_19 : decode cX3_secondFault 19 = .ok (.iload_n 3, 1) := by decide +kernel
theorem dX3_secondFault_20 : decode cX3_secondFault 20 = .ok (.iconst (-1), 1) := by decide +kernel
theorem dX3_secondFault_21 : decode cX3_secondFault 21 = .ok (.if_icmp .ne 5, 3) := by decide +kernel
theorem dX3_secondFault_24 : decode cX3_secondFault 24 = .ok (.iconst 2, 1) := by decide +kernel
theorem dX3_secondFault_25 : decode cX3_secondFault 25 = .ok (.ireturn, 1) := by decide +kernel
theorem dX3_secondFault_26 : decode cX3_secondFault 26 = .ok (.aload_n 0, 1) := by decide +kernel
theorem dX3_secondFault_27 : decode cX3_secondFault 27 = .ok (.getfield 38, 3) := by decide +kernel
theorem dX3_secondFault_30 : decode cX3_secondFault 30 = .ok (.getfield 90, 3) := by decide +kernel
theorem dX3_secondFault_33 : decode cX3_secondFault 33 = .ok (.iload_n 3, 1) := by decide +kernel
theorem dX3_secondFault_34 : decode cX3_secondFault 34 = .ok (.iaload, 1) := by decide +kernel
theorem dX3_secondFault_35 : decode cX3_secondFault 35 = .ok (.iload_n 1, 1) := by decide +kernel
theorem dX3_secondFault_36 : decode cX3_secondFault 36 = .ok (.if_icmp .ne 5, 3) := by decide +kernel
theorem dX3_secondFault_39 : decode cX3_secondFault 39 = .ok (.iconst 3, 1) := by decide +kernel
theorem dX3_secondFault_40 : decode cX3_secondFault 40 = .ok (.ireturn, 1) := by decide +kernel
theorem dX3_secondFault_41 : decode cX3_secondFault 41 = .ok (.aload_n 0, 1) := by decide +kernel
theorem dX3_secondFault_42 : decode cX3_secondFault 42 = .ok (.getfield 38, 3) := by decide +kernel
theorem dX3_secondFault_45 : decode cX3_secondFault 45 = .ok (.getfield 93, 3) := by decide +kernel
theorem dX3_secondFault_48 : decode cX3_secondFault 48 = .ok (.iload_n 3, 1) := by decide +kernel
theorem dX3_secondFault_49 : decode cX3_secondFault 49 = .ok (.iaload, 1) := by decide +kernel
theorem dX3_secondFault_50 : decode cX3_secondFault 50 = .ok (.iconst (-1), 1) := by decide +kernel
theorem dX3_secondFault_51 : decode cX3_secondFault 51 = .ok (.if_icmp .eq 7, 3) := by decide +kernel
theorem dX3_secondFault_54 : decode cX3_secondFault 54 = .ok (.iconst 4, 1) := by decide +kernel
theorem dX3_secondFault_55 : decode cX3_secondFault 55 = .ok (.goto 4, 3) := by decide +kernel
theorem dX3_secondFault_58 : decode cX3_secondFault 58 = .ok (.iconst 0, 1) := by decide +kernel
theorem dX3_secondFault_59 : decode cX3_secondFault 59 = .ok (.ireturn, 1) := by decide +kernel
theorem dX3_setSeconder_0 : decode cX3_setSeconder 0 = .ok (.aload_n 0, 1) := by decide +kernel
theorem dX3_setSeconder_1 : decode cX3_setSeconder 1 = .ok (.getfield 38, 3) := by decide +kernel
theorem dX3_setSeconder_4 : decode cX3_setSeconder 4 = .ok (.iload_n 2, 1) := by decide +kernel
theorem dX3_setSeconder_5 : decode cX3_setSeconder 5 = .ok (.invokevirtual 87, 3) := by decide +kernel
theorem dX3_setSeconder_8 : decode cX3_setSeconder 8 = .ok (.istore_n 3, 1) := by decide +kernel
theorem dX3_setSeconder_9 : decode cX3_setSeconder 9 = .ok (.iload_n 3, 1) := by decide +kernel
theorem dX3_setSeconder_10 : decode cX3_setSeconder 10 = .ok (.iconst (-1), 1) := by decide +kernel
theorem dX3_setSeconder_11 : decode cX3_setSeconder 11 = .ok (.if_icmp .eq 13, 3) := by decide +kernel
theorem dX3_setSeconder_14 : decode cX3_setSeconder 14 = .ok (.aload_n 0, 1) := by decide +kernel
theorem dX3_setSeconder_15 : decode cX3_setSeconder 15 = .ok (.getfield 38, 3) := by decide +kernel
theorem dX3_setSeconder_18 : decode cX3_setSeconder 18 = .ok (.getfield 93, 3) := by decide +kernel
theorem dX3_setSeconder_21 : decode cX3_setSeconder 21 = .ok (.iload_n 3, 1) := by decide +kernel
theorem dX3_setSeconder_22 : decode cX3_setSeconder 22 = .ok (.iload_n 1, 1) := by decide +kernel
theorem dX3_setSeconder_23 : decode cX3_setSeconder 23 = .ok (.iastore, 1) := by decide +kernel
theorem dX3_setSeconder_24 : decode cX3_setSeconder 24 = .ok (.aload_n 0, 1) := by decide +kernel
theorem dX3_setSeconder_25 : decode cX3_setSeconder 25 = .ok (.getfield 38, 3) := by decide +kernel
theorem dX3_setSeconder_28 : decode cX3_setSeconder 28 = .ok (.invokevirtual 96, 3) := by decide +kernel
theorem dX3_setSeconder_31 : decode cX3_setSeconder 31 = .ok (.ireturn, 1) := by decide +kernel
theorem dX3_untableFault_0 : decode cX3_untableFault 0 = .ok (.aload_n 0, 1) := by decide +kernel
theorem dX3_untableFault_1 : decode cX3_untableFault 1 = .ok (.getfield 38, 3) := by decide +kernel
theorem dX3_untableFault_4 : decode cX3_untableFault 4 = .ok (.iload_n 1, 1) := by decide +kernel
theorem dX3_untableFault_5 : decode cX3_untableFault 5 = .ok (.invokevirtual 87, 3) := by decide +kernel
theorem dX3_untableFault_8 : decode cX3_untableFault 8 = .ok (.istore_n 2, 1) := by decide +kernel
theorem dX3_untableFault_9 : decode cX3_untableFault 9 = .ok (.iload_n 2, 1) := by decide +kernel
theorem dX3_untableFault_10 : decode cX3_untableFault 10 = .ok (.iconst (-1), 1) := by decide +kernel
theorem dX3_untableFault_11 : decode cX3_untableFault 11 = .ok (.if_icmp .ne 5, 3) := by decide +kernel
theorem dX3_untableFault_14 : decode cX3_untableFault 14 = .ok (.iconst 1, 1) := by decide +kernel
theorem dX3_untableFault_15 : decode cX3_untableFault 15 = .ok (.ireturn, 1) := by decide +kernel
theorem dX3_untableFault_16 : decode cX3_untableFault 16 = .ok (.aload_n 0, 1) := by decide +kernel
theorem dX3_untableFault_17 : decode cX3_untableFault 17 = .ok (.getfield 38, 3) := by decide +kernel
theorem dX3_untableFault_20 : decode cX3_untableFault 20 = .ok (.getfield 100, 3) := by decide +kernel
theorem dX3_untableFault_23 : decode cX3_untableFault 23 = .ok (.iload_n 2, 1) := by decide +kernel
theorem dX3_untableFault_24 : decode cX3_untableFault 24 = .ok (.baload, 1) := by decide +kernel
theorem dX3_untableFault_25 : decode cX3_untableFault 25 = .ok (.ifCond .eq 7, 3) := by decide +kernel
theorem dX3_untableFault_28 : decode cX3_untableFault 28 = .ok (.iconst 0, 1) := by decide +kernel
theorem dX3_untableFault_29 : decode cX3_untableFault 29 = .ok (.goto 4, 3) := by decide +kernel
theorem dX3_untableFault_32 : decode cX3_untableFault 32 = .ok (.iconst 2, 1) := by decide +kernel
theorem dX3_untableFault_33 : decode cX3_untableFault 33 = .ok (.ireturn, 1) := by decide +kernel
theorem dX3_takeFromTable_0 : decode cX3_takeFromTable 0 = .ok (.aload_n 0, 1) := by decide +kernel
theorem dX3_takeFromTable_1 : decode cX3_takeFromTable 1 = .ok (.getfield 38, 3) := by decide +kernel
theorem dX3_takeFromTable_4 : decode cX3_takeFromTable 4 = .ok (.iload_n 1, 1) := by decide +kernel
theorem dX3_takeFromTable_5 : decode cX3_takeFromTable 5 = .ok (.invokevirtual 87, 3) := by decide +kernel
theorem dX3_takeFromTable_8 : decode cX3_takeFromTable 8 = .ok (.istore_n 2, 1) := by decide +kernel
theorem dX3_takeFromTable_9 : decode cX3_takeFromTable 9 = .ok (.iload_n 2, 1) := by decide +kernel
theorem dX3_takeFromTable_10 : decode cX3_takeFromTable 10 = .ok (.iconst (-1), 1) := by decide +kernel
theorem dX3_takeFromTable_11 : decode cX3_takeFromTable 11 = .ok (.if_icmp .ne 5, 3) := by decide +kernel
theorem dX3_takeFromTable_14 : decode cX3_takeFromTable 14 = .ok (.iconst 0, 1) := by decide +kernel
theorem dX3_takeFromTable_15 : decode cX3_takeFromTable 15 = .ok (.ireturn, 1) := by decide +kernel
theorem dX3_takeFromTable_16 : decode cX3_takeFromTable 16 = .ok (.aload_n 0, 1) := by decide +kernel
theorem dX3_takeFromTable_17 : decode cX3_takeFromTable 17 = .ok (.getfield 38, 3) := by decide +kernel
theorem dX3_takeFromTable_20 : decode cX3_takeFromTable 20 = .ok (.getfield 90, 3) := by decide +kernel
theorem dX3_takeFromTable_23 : decode cX3_takeFromTable 23 = .ok (.iload_n 2, 1) := by decide +kernel
theorem dX3_takeFromTable_24 : decode cX3_takeFromTable 24 = .ok (.iaload, 1) := by decide +kernel
theorem dX3_takeFromTable_25 : decode cX3_takeFromTable 25 = .ok (.istore_n 3, 1) := by decide +kernel
theorem dX3_takeFromTable_26 : decode cX3_takeFromTable 26 = .ok (.aload_n 0, 1) := by decide +kernel
theorem dX3_takeFromTable_27 : decode cX3_takeFromTable 27 = .ok (.getfield 38, 3) := by decide +kernel
theorem dX3_takeFromTable_30 : decode cX3_takeFromTable 30 = .ok (.getfield 100, 3) := by decide +kernel
theorem dX3_takeFromTable_33 : decode cX3_takeFromTable 33 = .ok (.iload_n 2, 1) := by decide +kernel
theorem dX3_takeFromTable_34 : decode cX3_takeFromTable 34 = .ok (.iconst 0, 1) := by decide +kernel
theorem dX3_takeFromTable_35 : decode cX3_takeFromTable 35 = .ok (.bastore, 1) := by decide +kernel
theorem dX3_takeFromTable_36 : decode cX3_takeFromTable 36 = .ok (.aload_n 0, 1) := by decide +kernel
theorem dX3_takeFromTable_37 : decode cX3_takeFromTable 37 = .ok (.getfield 19, 3) := by decide +kernel
theorem dX3_takeFromTable_40 : decode cX3_takeFromTable 40 = .ok (.iload_n 3, 1) := by decide +kernel
theorem dX3_takeFromTable_41 : decode cX3_takeFromTable 41 = .ok (.dup2, 1) := by decide +kernel
theorem dX3_takeFromTable_42 : decode cX3_takeFromTable 42 = .ok (.iaload, 1) := by decide +kernel
theorem dX3_takeFromTable_43 : decode cX3_takeFromTable 43 = .ok (.iconst 1, 1) := by decide +kernel
theorem dX3_takeFromTable_44 : decode cX3_takeFromTable 44 = .ok (.iadd, 1) := by decide +kernel
theorem dX3_takeFromTable_45 : decode cX3_takeFromTable 45 = .ok (.iastore, 1) := by decide +kernel
theorem dX3_takeFromTable_46 : decode cX3_takeFromTable 46 = .ok (.aload_n 0, 1) := by decide +kernel
theorem dX3_takeFromTable_47 : decode cX3_takeFromTable 47 = .ok (.dup, 1) := by decide +kernel
theorem dX3_takeFromTable_48 : decode cX3_takeFromTable 48 = .ok (.getfield 54, 3) := by decide +kernel
theorem dX3_takeFromTable_51 : decode cX3_takeFromTable 51 = .ok (.iconst 1, 1) := by decide +kernel
theorem dX3_takeFromTable_52 : decode cX3_takeFromTable 52 = .ok (.iadd, 1) := by decide +kernel
theorem dX3_takeFromTable_53 : decode cX3_takeFromTable 53 = .ok (.putfield 54, 3) := by decide +kernel
theorem dX3_takeFromTable_56 : decode cX3_takeFromTable 56 = .ok (.aload_n 0, 1) := by decide +kernel
theorem dX3_takeFromTable_57 : decode cX3_takeFromTable 57 = .ok (.getfield 19, 3) := by decide +kernel
theorem dX3_takeFromTable_60 : decode cX3_takeFromTable 60 = .ok (.iload_n 3, 1) := by decide +kernel
theorem dX3_takeFromTable_61 : decode cX3_takeFromTable 61 = .ok (.iaload, 1) := by decide +kernel
theorem dX3_takeFromTable_62 : decode cX3_takeFromTable 62 = .ok (.ireturn, 1) := by decide +kernel
theorem dX3_withdrawFault_0 : decode cX3_withdrawFault 0 = .ok (.aload_n 0, 1) := by decide +kernel
theorem dX3_withdrawFault_1 : decode cX3_withdrawFault 1 = .ok (.getfield 38, 3) := by decide +kernel
theorem dX3_withdrawFault_4 : decode cX3_withdrawFault 4 = .ok (.iload_n 1, 1) := by decide +kernel
theorem dX3_withdrawFault_5 : decode cX3_withdrawFault 5 = .ok (.invokevirtual 87, 3) := by decide +kernel
theorem dX3_withdrawFault_8 : decode cX3_withdrawFault 8 = .ok (.iconst (-1), 1) := by decide +kernel
theorem dX3_withdrawFault_9 : decode cX3_withdrawFault 9 = .ok (.if_icmp .ne 7, 3) := by decide +kernel
theorem dX3_withdrawFault_12 : decode cX3_withdrawFault 12 = .ok (.iconst 1, 1) := by decide +kernel
theorem dX3_withdrawFault_13 : decode cX3_withdrawFault 13 = .ok (.goto 4, 3) := by decide +kernel
theorem dX3_withdrawFault_16 : decode cX3_withdrawFault 16 = .ok (.iconst 0, 1) := by decide +kernel
theorem dX3_withdrawFault_17 : decode cX3_withdrawFault 17 = .ok (.ireturn, 1) := by decide +kernel
theorem dX3_dropMotion_0 : decode cX3_dropMotion 0 = .ok (.aload_n 0, 1) := by decide +kernel
theorem dX3_dropMotion_1 : decode cX3_dropMotion 1 = .ok (.getfield 38, 3) := by decide +kernel
theorem dX3_dropMotion_4 : decode cX3_dropMotion 4 = .ok (.iload_n 1, 1) := by decide +kernel
theorem dX3_dropMotion_5 : decode cX3_dropMotion 5 = .ok (.invokevirtual 87, 3) := by decide +kernel
theorem dX3_dropMotion_8 : decode cX3_dropMotion 8 = .ok (.istore_n 2, 1) := by decide +kernel
theorem dX3_dropMotion_9 : decode cX3_dropMotion 9 = .ok (.iload_n 2, 1) := by decide +kernel
theorem dX3_dropMotion_10 : decode cX3_dropMotion 10 = .ok (.iconst (-1), 1) := by decide +kernel
theorem dX3_dropMotion_11 : decode cX3_dropMotion 11 = .ok (.if_icmp .eq 11, 3) := by decide +kernel
theorem dX3_dropMotion_14 : decode cX3_dropMotion 14 = .ok (.aload_n 0, 1) := by decide +kernel
theorem dX3_dropMotion_15 : decode cX3_dropMotion 15 = .ok (.getfield 38, 3) := by decide +kernel
theorem dX3_dropMotion_18 : decode cX3_dropMotion 18 = .ok (.iload_n 2, 1) := by decide +kernel
theorem dX3_dropMotion_19 : decode cX3_dropMotion 19 = .ok (.invokevirtual 103, 3) := by decide +kernel
theorem dX3_dropMotion_22 : decode cX3_dropMotion 22 = .ok (.aload_n 0, 1) := by decide +kernel
theorem dX3_dropMotion_23 : decode cX3_dropMotion 23 = .ok (.getfield 38, 3) := by decide +kernel
theorem dX3_dropMotion_26 : decode cX3_dropMotion 26 = .ok (.getfield 107, 3) := by decide +kernel
theorem dX3_dropMotion_29 : decode cX3_dropMotion 29 = .ok (.ireturn, 1) := by decide +kernel
theorem dX3_voteFault_0 : decode cX3_voteFault 0 = .ok (.aload_n 0, 1) := by decide +kernel
theorem dX3_voteFault_1 : decode cX3_voteFault 1 = .ok (.getfield 38, 3) := by decide +kernel
theorem dX3_voteFault_4 : decode cX3_voteFault 4 = .ok (.iload_n 1, 1) := by decide +kernel
theorem dX3_voteFault_5 : decode cX3_voteFault 5 = .ok (.invokevirtual 87, 3) := by decide +kernel
theorem dX3_voteFault_8 : decode cX3_voteFault 8 = .ok (.istore_n 2, 1) := by decide +kernel
theorem dX3_voteFault_9 : decode cX3_voteFault 9 = .ok (.iload_n 2, 1) := by decide +kernel
theorem dX3_voteFault_10 : decode cX3_voteFault 10 = .ok (.iconst (-1), 1) := by decide +kernel
theorem dX3_voteFault_11 : decode cX3_voteFault 11 = .ok (.if_icmp .ne 5, 3) := by decide +kernel
theorem dX3_voteFault_14 : decode cX3_voteFault 14 = .ok (.iconst 1, 1) := by decide +kernel
theorem dX3_voteFault_15 : decode cX3_voteFault 15 = .ok (.ireturn, 1) := by decide +kernel
theorem dX3_voteFault_16 : decode cX3_voteFault 16 = .ok (.aload_n 0, 1) := by decide +kernel
theorem dX3_voteFault_17 : decode cX3_voteFault 17 = .ok (.getfield 38, 3) := by decide +kernel
theorem dX3_voteFault_20 : decode cX3_voteFault 20 = .ok (.getfield 93, 3) := by decide +kernel
theorem dX3_voteFault_23 : decode cX3_voteFault 23 = .ok (.iload_n 2, 1) := by decide +kernel
theorem dX3_voteFault_24 : decode cX3_voteFault 24 = .ok (.iaload, 1) := by decide +kernel
theorem dX3_voteFault_25 : decode cX3_voteFault 25 = .ok (.iconst (-1), 1) := by decide +kernel
theorem dX3_voteFault_26 : decode cX3_voteFault 26 = .ok (.if_icmp .eq 15, 3) := by decide +kernel
theorem dX3_voteFault_29 : decode cX3_voteFault 29 = .ok (.aload_n 0, 1) := by decide +kernel
theorem dX3_voteFault_30 : decode cX3_voteFault 30 = .ok (.getfield 38, 3) := by decide +kernel
theorem dX3_voteFault_33 : decode cX3_voteFault 33 = .ok (.getfield 100, 3) := by decide +kernel
theorem dX3_voteFault_36 : decode cX3_voteFault 36 = .ok (.iload_n 2, 1) := by decide +kernel
theorem dX3_voteFault_37 : decode cX3_voteFault 37 = .ok (.baload, 1) := by decide +kernel
theorem dX3_voteFault_38 : decode cX3_voteFault 38 = .ok (.ifCond .eq 7, 3) := by decide +kernel
theorem dX3_voteFault_41 : decode cX3_voteFault 41 = .ok (.iconst 2, 1) := by decide +kernel
theorem dX3_voteFault_42 : decode cX3_voteFault 42 = .ok (.goto 4, 3) := by decide +kernel
theorem dX3_voteFault_45 : decode cX3_voteFault 45 = .ok (.iconst 0, 1) := by decide +kernel
theorem dX3_voteFault_46 : decode cX3_voteFault 46 = .ok (.ireturn, 1) := by decide +kernel
theorem dX3_holdVote_0 : decode cX3_holdVote 0 = .ok (.aload_n 0, 1) := by decide +kernel
theorem dX3_holdVote_1 : decode cX3_holdVote 1 = .ok (.getfield 38, 3) := by decide +kernel
theorem dX3_holdVote_4 : decode cX3_holdVote 4 = .ok (.iload_n 1, 1) := by decide +kernel
theorem dX3_holdVote_5 : decode cX3_holdVote 5 = .ok (.invokevirtual 87, 3) := by decide +kernel
theorem dX3_holdVote_8 : decode cX3_holdVote 8 = .ok (.istore_n 2, 1) := by decide +kernel
theorem dX3_holdVote_9 : decode cX3_holdVote 9 = .ok (.iload_n 2, 1) := by decide +kernel
theorem dX3_holdVote_10 : decode cX3_holdVote 10 = .ok (.iconst (-1), 1) := by decide +kernel
theorem dX3_holdVote_11 : decode cX3_holdVote 11 = .ok (.if_icmp .ne 5, 3) := by decide +kernel
theorem dX3_holdVote_14 : decode cX3_holdVote 14 = .ok (.iconst 0, 1) := by decide +kernel
theorem dX3_holdVote_15 : decode cX3_holdVote 15 = .ok (.ireturn, 1) := by decide +kernel
theorem dX3_holdVote_16 : decode cX3_holdVote 16 = .ok (.aload_n 0, 1) := by decide +kernel
theorem dX3_holdVote_17 : decode cX3_holdVote 17 = .ok (.iload_n 2, 1) := by decide +kernel
theorem dX3_holdVote_18 : decode cX3_holdVote 18 = .ok (.invokevirtual 110, 3) := by decide +kernel
theorem dX3_holdVote_21 : decode cX3_holdVote 21 = .ok (.aload_n 0, 1) := by decide +kernel
theorem dX3_holdVote_22 : decode cX3_holdVote 22 = .ok (.iload_n 2, 1) := by decide +kernel
theorem dX3_holdVote_23 : decode cX3_holdVote 23 = .ok (.invokevirtual 113, 3) := by decide +kernel
theorem dX3_holdVote_26 : decode cX3_holdVote 26 = .ok (.if_icmp .le 15, 3) := by decide +kernel
theorem dX3_holdVote_29 : decode cX3_holdVote 29 = .ok (.aload_n 0, 1) := by decide +kernel
theorem dX3_holdVote_30 : decode cX3_holdVote 30 = .ok (.iload_n 2, 1) := by decide +kernel
theorem dX3_holdVote_31 : decode cX3_holdVote 31 = .ok (.invokevirtual 116, 3) := by decide +kernel
theorem dX3_holdVote_34 : decode cX3_holdVote 34 = .ok (.ifCond .eq 7, 3) := by decide +kernel
theorem dX3_holdVote_37 : decode cX3_holdVote 37 = .ok (.iconst 1, 1) := by decide +kernel
theorem dX3_holdVote_38 : decode cX3_holdVote 38 = .ok (.goto 4, 3) := by decide +kernel
theorem dX3_holdVote_41 : decode cX3_holdVote 41 = .ok (.iconst 0, 1) := by decide +kernel
theorem dX3_holdVote_42 : decode cX3_holdVote 42 = .ok (.istore_n 3, 1) := by decide +kernel
theorem dX3_holdVote_43 : decode cX3_holdVote 43 = .ok (.iload_n 3, 1) := by decide +kernel
theorem dX3_holdVote_44 : decode cX3_holdVote 44 = .ok (.ifCond .eq 21, 3) := by decide +kernel
theorem dX3_holdVote_47 : decode cX3_holdVote 47 = .ok (.aload_n 0, 1) := by decide +kernel
theorem dX3_holdVote_48 : decode cX3_holdVote 48 = .ok (.iload_n 2, 1) := by decide +kernel
theorem dX3_holdVote_49 : decode cX3_holdVote 49 = .ok (.invokevirtual 119, 3) := by decide +kernel
theorem dX3_holdVote_52 : decode cX3_holdVote 52 = .ok (.aload_n 0, 1) := by decide +kernel
theorem dX3_holdVote_53 : decode cX3_holdVote 53 = .ok (.dup, 1) := by decide +kernel
theorem dX3_holdVote_54 : decode cX3_holdVote 54 = .ok (.getfield 45, 3) := by decide +kernel
theorem dX3_holdVote_57 : decode cX3_holdVote 57 = .ok (.iconst 1, 1) := by decide +kernel
theorem dX3_holdVote_58 : decode cX3_holdVote 58 = .ok (.iadd, 1) := by decide +kernel
theorem dX3_holdVote_59 : decode cX3_holdVote 59 = .ok (.putfield 45, 3) := by decide +kernel
theorem dX3_holdVote_62 : decode cX3_holdVote 62 = .ok (.goto 13, 3) := by decide +kernel
theorem dX3_holdVote_65 : decode cX3_holdVote 65 = .ok (.aload_n 0, 1) := by decide +kernel
theorem dX3_holdVote_66 : decode cX3_holdVote 66 = .ok (.dup, 1) := by decide +kernel
theorem dX3_holdVote_67 : decode cX3_holdVote 67 = .ok (.getfield 48, 3) := by decide +kernel
theorem dX3_holdVote_70 : decode cX3_holdVote 70 = .ok (.iconst 1, 1) := by decide +kernel
theorem dX3_holdVote_71 : decode cX3_holdVote 71 = .ok (.iadd, 1) := by decide +kernel
theorem dX3_holdVote_72 : decode cX3_holdVote 72 = .ok (.putfield 48, 3) := by decide +kernel
theorem dX3_holdVote_75 : decode cX3_holdVote 75 = .ok (.aload_n 0, 1) := by decide +kernel
theorem dX3_holdVote_76 : decode cX3_holdVote 76 = .ok (.getfield 38, 3) := by decide +kernel
theorem dX3_holdVote_79 : decode cX3_holdVote 79 = .ok (.iload_n 2, 1) := by decide +kernel
theorem dX3_holdVote_80 : decode cX3_holdVote 80 = .ok (.invokevirtual 103, 3) := by decide +kernel
theorem dX3_holdVote_83 : decode cX3_holdVote 83 = .ok (.iload_n 3, 1) := by decide +kernel
theorem dX3_holdVote_84 : decode cX3_holdVote 84 = .ok (.ireturn, 1) := by decide +kernel
theorem dX3_isPossible_0 : decode cX3_isPossible 0 = .ok (.aload_n 0, 1) := by decide +kernel
theorem dX3_isPossible_1 : decode cX3_isPossible 1 = .ok (.getfield 38, 3) := by decide +kernel
theorem dX3_isPossible_4 : decode cX3_isPossible 4 = .ok (.getfield 90, 3) := by decide +kernel
theorem dX3_isPossible_7 : decode cX3_isPossible 7 = .ok (.iload_n 1, 1) := by decide +kernel
theorem dX3_isPossible_8 : decode cX3_isPossible 8 = .ok (.iaload, 1) := by decide +kernel
theorem dX3_isPossible_9 : decode cX3_isPossible 9 = .ok (.istore_n 2, 1) := by decide +kernel
theorem dX3_isPossible_10 : decode cX3_isPossible 10 = .ok (.aload_n 0, 1) := by decide +kernel
theorem dX3_isPossible_11 : decode cX3_isPossible 11 = .ok (.getfield 38, 3) := by decide +kernel
theorem dX3_isPossible_14 : decode cX3_isPossible 14 = .ok (.getfield 122, 3) := by decide +kernel
theorem dX3_isPossible_17 : decode cX3_isPossible 17 = .ok (.iload_n 1, 1) := by decide +kernel
theorem dX3_isPossible_18 : decode cX3_isPossible 18 = .ok (.iaload, 1) := by decide +kernel
theorem dX3_isPossible_19 : decode cX3_isPossible 19 = .ok (.istore_n 3, 1) := by decide +kernel
theorem dX3_isPossible_20 : decode cX3_isPossible 20 = .ok (.aload_n 0, 1) := by decide +kernel
theorem dX3_isPossible_21 : decode cX3_isPossible 21 = .ok (.getfield 38, 3) := by decide +kernel
theorem dX3_isPossible_24 : decode cX3_isPossible 24 = .ok (.getfield 125, 3) := by decide +kernel
theorem dX3_isPossible_27 : decode cX3_isPossible 27 = .ok (.iload_n 1, 1) := by decide +kernel
theorem dX3_isPossible_28 : decode cX3_isPossible 28 = .ok (.caload, 1) := by decide +kernel
theorem dX3_isPossible_29 : decode cX3_isPossible 29 = .ok (.lookupswitch 68 #[(114, 27), (116, 52)], 27) := by decide +kernel
theorem dX3_isPossible_56 : decode cX3_isPossible 56 = .ok (.aload_n 0, 1) := by decide +kernel
theorem dX3_isPossible_57 : decode cX3_isPossible 57 = .ok (.getfield 32, 3) := by decide +kernel
theorem dX3_isPossible_60 : decode cX3_isPossible 60 = .ok (.iload_n 3, 1) := by decide +kernel
theorem dX3_isPossible_61 : decode cX3_isPossible 61 = .ok (.iaload, 1) := by decide +kernel
theorem dX3_isPossible_62 : decode cX3_isPossible 62 = .ok (.iconst (-1), 1) := by decide +kernel
theorem dX3_isPossible_63 : decode cX3_isPossible 63 = .ok (.if_icmp .ne 16, 3) := by decide +kernel
theorem dX3_isPossible_66 : decode cX3_isPossible 66 = .ok (.aload_n 0, 1) := by decide +kernel
theorem dX3_isPossible_67 : decode cX3_isPossible 67 = .ok (.getfield 22, 3) := by decide +kernel
theorem dX3_isPossible_70 : decode cX3_isPossible 70 = .ok (.iload_n 2, 1) := by decide +kernel
theorem dX3_isPossible_71 : decode cX3_isPossible 71 = .ok (.baload, 1) := by decide +kernel
theorem dX3_isPossible_72 : decode cX3_isPossible 72 = .ok (.ifCond .eq 7, 3) := by decide +kernel
theorem dX3_isPossible_75 : decode cX3_isPossible 75 = .ok (.iconst 1, 1) := by decide +kernel
theorem dX3_isPossible_76 : decode cX3_isPossible 76 = .ok (.goto 4, 3) := by decide +kernel
theorem dX3_isPossible_79 : decode cX3_isPossible 79 = .ok (.iconst 0, 1) := by decide +kernel
theorem dX3_isPossible_80 : decode cX3_isPossible 80 = .ok (.ireturn, 1) := by decide +kernel
theorem dX3_isPossible_81 : decode cX3_isPossible 81 = .ok (.aload_n 0, 1) := by decide +kernel
theorem dX3_isPossible_82 : decode cX3_isPossible 82 = .ok (.getfield 32, 3) := by decide +kernel
theorem dX3_isPossible_85 : decode cX3_isPossible 85 = .ok (.iload_n 3, 1) := by decide +kernel
theorem dX3_isPossible_86 : decode cX3_isPossible 86 = .ok (.iaload, 1) := by decide +kernel
theorem dX3_isPossible_87 : decode cX3_isPossible 87 = .ok (.iload_n 2, 1) := by decide +kernel
theorem dX3_isPossible_88 : decode cX3_isPossible 88 = .ok (.if_icmp .ne 7, 3) := by decide +kernel
theorem dX3_isPossible_91 : decode cX3_isPossible 91 = .ok (.iconst 1, 1) := by decide +kernel
theorem dX3_isPossible_92 : decode cX3_isPossible 92 = .ok (.goto 4, 3) := by decide +kernel
theorem dX3_isPossible_95 : decode cX3_isPossible 95 = .ok (.iconst 0, 1) := by decide +kernel
theorem dX3_isPossible_96 : decode cX3_isPossible 96 = .ok (.ireturn, 1) := by decide +kernel
theorem dX3_isPossible_97 : decode cX3_isPossible 97 = .ok (.aload_n 0, 1) := by decide +kernel
theorem dX3_isPossible_98 : decode cX3_isPossible 98 = .ok (.getfield 22, 3) := by decide +kernel
theorem dX3_isPossible_101 : decode cX3_isPossible 101 = .ok (.iload_n 3, 1) := by decide +kernel
theorem dX3_isPossible_102 : decode cX3_isPossible 102 = .ok (.baload, 1) := by decide +kernel
theorem dX3_isPossible_103 : decode cX3_isPossible 103 = .ok (.ireturn, 1) := by decide +kernel
theorem dX3_takeEffect_0 : decode cX3_takeEffect 0 = .ok (.aload_n 0, 1) := by decide +kernel
theorem dX3_takeEffect_1 : decode cX3_takeEffect 1 = .ok (.getfield 38, 3) := by decide +kernel
theorem dX3_takeEffect_4 : decode cX3_takeEffect 4 = .ok (.getfield 122, 3) := by decide +kernel
theorem dX3_takeEffect_7 : decode cX3_takeEffect 7 = .ok (.iload_n 1, 1) := by decide +kernel
theorem dX3_takeEffect_8 : decode cX3_takeEffect 8 = .ok (.iaload, 1) := by decide +kernel
theorem dX3_takeEffect_9 : decode cX3_takeEffect 9 = .ok (.istore_n 2, 1) := by decide +kernel
theorem dX3_takeEffect_10 : decode cX3_takeEffect 10 = .ok (.aload_n 0, 1) := by decide +kernel
theorem dX3_takeEffect_11 : decode cX3_takeEffect 11 = .ok (.getfield 38, 3) := by decide +kernel
theorem dX3_takeEffect_14 : decode cX3_takeEffect 14 = .ok (.getfield 125, 3) := by decide +kernel
theorem dX3_takeEffect_17 : decode cX3_takeEffect 17 = .ok (.iload_n 1, 1) := by decide +kernel
theorem dX3_takeEffect_18 : decode cX3_takeEffect 18 = .ok (.caload, 1) := by decide +kernel
theorem dX3_takeEffect_19 : decode cX3_takeEffect 19 = .ok (.lookupswitch 53 #[(114, 25), (116, 43)], 25) := by decide +kernel
theorem dX3_takeEffect_44 : decode cX3_takeEffect 44 = .ok (.aload_n 0, 1) := by decide +kernel
theorem dX3_takeEffect_45 : decode cX3_takeEffect 45 = .ok (.getfield 32, 3) := by decide +kernel
theorem dX3_takeEffect_48 : decode cX3_takeEffect 48 = .ok (.iload_n 2, 1) := by decide +kernel
theorem dX3_takeEffect_49 : decode cX3_takeEffect 49 = .ok (.aload_n 0, 1) := by decide +kernel
theorem dX3_takeEffect_50 : decode cX3_takeEffect 50 = .ok (.getfield 38, 3) := by decide +kernel
theorem dX3_takeEffect_53 : decode cX3_takeEffect 53 = .ok (.getfield 90, 3) := by decide +kernel
theorem dX3_takeEffect_56 : decode cX3_takeEffect 56 = .ok (.iload_n 1, 1) := by decide +kernel
theorem dX3_takeEffect_57 : decode cX3_takeEffect 57 = .ok (.iaload, 1) := by decide +kernel
theorem dX3_takeEffect_58 : decode cX3_takeEffect 58 = .ok (.iastore, 1) := by decide +kernel
theorem dX3_takeEffect_59 : decode cX3_takeEffect 59 = .ok (.goto 18, 3) := by decide +kernel
theorem dX3_takeEffect_62 : decode cX3_takeEffect 62 = .ok (.aload_n 0, 1) := by decide +kernel
theorem dX3_takeEffect_63 : decode cX3_takeEffect 63 = .ok (.getfield 32, 3) := by decide +kernel
theorem dX3_takeEffect_66 : decode cX3_takeEffect 66 = .ok (.iload_n 2, 1) := by decide +kernel
theorem dX3_takeEffect_67 : decode cX3_takeEffect 67 = .ok (.iconst (-1), 1) := by decide +kernel
theorem dX3_takeEffect_68 : decode cX3_takeEffect 68 = .ok (.iastore, 1) := by decide +kernel
theorem dX3_takeEffect_69 : decode cX3_takeEffect 69 = .ok (.goto 8, 3) := by decide +kernel
theorem dX3_takeEffect_72 : decode cX3_takeEffect 72 = .ok (.aload_n 0, 1) := by decide +kernel
theorem dX3_takeEffect_73 : decode cX3_takeEffect 73 = .ok (.iload_n 2, 1) := by decide +kernel
theorem dX3_takeEffect_74 : decode cX3_takeEffect 74 = .ok (.invokevirtual 129, 3) := by decide +kernel
theorem dX3_takeEffect_77 : decode cX3_takeEffect 77 = .ok (.return_, 1) := by decide +kernel
theorem dX3_voiceOf_0 : decode cX3_voiceOf 0 = .ok (.aload_n 0, 1) := by decide +kernel
theorem dX3_voiceOf_1 : decode cX3_voiceOf 1 = .ok (.getfield 38, 3) := by decide +kernel
theorem dX3_voiceOf_4 : decode cX3_voiceOf 4 = .ok (.getfield 90, 3) := by decide +kernel
theorem dX3_voiceOf_7 : decode cX3_voiceOf 7 = .ok (.iload_n 2, 1) := by decide +kernel
theorem dX3_voiceOf_8 : decode cX3_voiceOf 8 = .ok (.iaload, 1) := by decide +kernel
theorem dX3_voiceOf_9 : decode cX3_voiceOf 9 = .ok (.istore_n 3, 1) := by decide +kernel
theorem dX3_voiceOf_10 : decode cX3_voiceOf 10 = .ok (.iload_n 1, 1) := by decide +kernel
theorem dX3_voiceOf_11 : decode cX3_voiceOf 11 = .ok (.iload_n 3, 1) := by decide +kernel
theorem dX3_voiceOf_12 : decode cX3_voiceOf 12 = .ok (.if_icmp .eq 16, 3) := by decide +kernel
theorem dX3_voiceOf_15 : decode cX3_voiceOf 15 = .ok (.iload_n 1, 1) := by decide +kernel
theorem dX3_voiceOf_16 : decode cX3_voiceOf 16 = .ok (.aload_n 0, 1) := by decide +kernel
theorem dX3_voiceOf_17 : decode cX3_voiceOf 17 = .ok (.getfield 38, 3) := by decide +kernel
theorem dX3_voiceOf_20 : decode cX3_voiceOf 20 = .ok (.getfield 93, 3) := by decide +kernel
theorem dX3_voiceOf_23 : decode cX3_voiceOf 23 = .ok (.iload_n 2, 1) := by decide +kernel
theorem dX3_voiceOf_24 : decode cX3_voiceOf 24 = .ok (.iaload, 1) := by decide +kernel
theorem dX3_voiceOf_25 : decode cX3_voiceOf 25 = .ok (.if_icmp .ne 5, 3) := by decide +kernel
theorem dX3_voiceOf_28 : decode cX3_voiceOf 28 = .ok (.iconst 1, 1) := by decide +kernel
theorem dX3_voiceOf_29 : decode cX3_voiceOf 29 = .ok (.ireturn, 1) := by decide +kernel
theorem dX3_voiceOf_30 : decode cX3_voiceOf 30 = .ok (.aload_n 0, 1) := by decide +kernel
theorem dX3_voiceOf_31 : decode cX3_voiceOf 31 = .ok (.getfield 22, 3) := by decide +kernel
theorem dX3_voiceOf_34 : decode cX3_voiceOf 34 = .ok (.iload_n 1, 1) := by decide +kernel
theorem dX3_voiceOf_35 : decode cX3_voiceOf 35 = .ok (.baload, 1) := by decide +kernel
theorem dX3_voiceOf_36 : decode cX3_voiceOf 36 = .ok (.ifCond .ne 5, 3) := by decide +kernel
theorem dX3_voiceOf_39 : decode cX3_voiceOf 39 = .ok (.iconst 0, 1) := by decide +kernel
theorem dX3_voiceOf_40 : decode cX3_voiceOf 40 = .ok (.ireturn, 1) := by decide +kernel
theorem dX3_voiceOf_41 : decode cX3_voiceOf 41 = .ok (.aload_n 0, 1) := by decide +kernel
theorem dX3_voiceOf_42 : decode cX3_voiceOf 42 = .ok (.getfield 19, 3) := by decide +kernel
theorem dX3_voiceOf_45 : decode cX3_voiceOf 45 = .ok (.iload_n 1, 1) := by decide +kernel
theorem dX3_voiceOf_46 : decode cX3_voiceOf 46 = .ok (.iaload, 1) := by decide +kernel
theorem dX3_voiceOf_47 : decode cX3_voiceOf 47 = .ok (.aload_n 0, 1) := by decide +kernel
theorem dX3_voiceOf_48 : decode cX3_voiceOf 48 = .ok (.getfield 19, 3) := by decide +kernel
theorem dX3_voiceOf_51 : decode cX3_voiceOf 51 = .ok (.iload_n 3, 1) := by decide +kernel
theorem dX3_voiceOf_52 : decode cX3_voiceOf 52 = .ok (.iaload, 1) := by decide +kernel
theorem dX3_voiceOf_53 : decode cX3_voiceOf 53 = .ok (.if_icmp .gt 7, 3) := by decide +kernel
theorem dX3_voiceOf_56 : decode cX3_voiceOf 56 = .ok (.iconst 1, 1) := by decide +kernel
theorem dX3_voiceOf_57 : decode cX3_voiceOf 57 = .ok (.goto 4, 3) := by decide +kernel
theorem dX3_voiceOf_60 : decode cX3_voiceOf 60 = .ok (.iconst (-1), 1) := by decide +kernel
theorem dX3_voiceOf_61 : decode cX3_voiceOf 61 = .ok (.ireturn, 1) := by decide +kernel
theorem dX3_sumOfVotes_0 : decode cX3_sumOfVotes 0 = .ok (.iconst 0, 1) := by decide +kernel
theorem dX3_sumOfVotes_1 : decode cX3_sumOfVotes 1 = .ok (.istore_n 3, 1) := by decide +kernel
theorem dX3_sumOfVotes_2 : decode cX3_sumOfVotes 2 = .ok (.iconst 0, 1) := by decide +kernel
theorem dX3_sumOfVotes_3 : decode cX3_sumOfVotes 3 = .ok (.istore 4, 2) := by decide +kernel
theorem dX3_sumOfVotes_5 : decode cX3_sumOfVotes 5 = .ok (.iload 4, 2) := by decide +kernel
theorem dX3_sumOfVotes_7 : decode cX3_sumOfVotes 7 = .ok (.aload_n 0, 1) := by decide +kernel
theorem dX3_sumOfVotes_8 : decode cX3_sumOfVotes 8 = .ok (.getfield 9, 3) := by decide +kernel
theorem dX3_sumOfVotes_11 : decode cX3_sumOfVotes 11 = .ok (.if_icmp .ge 30, 3) := by decide +kernel
theorem dX3_sumOfVotes_14 : decode cX3_sumOfVotes 14 = .ok (.aload_n 0, 1) := by decide +kernel
theorem dX3_sumOfVotes_15 : decode cX3_sumOfVotes 15 = .ok (.iload 4, 2) := by decide +kernel
theorem dX3_sumOfVotes_17 : decode cX3_sumOfVotes 17 = .ok (.iload_n 1, 1) := by decide +kernel
theorem dX3_sumOfVotes_18 : decode cX3_sumOfVotes 18 = .ok (.invokevirtual 132, 3) := by decide +kernel
theorem dX3_sumOfVotes_21 : decode cX3_sumOfVotes 21 = .ok (.iload_n 2, 1) := by decide +kernel
theorem dX3_sumOfVotes_22 : decode cX3_sumOfVotes 22 = .ok (.if_icmp .ne 13, 3) := by decide +kernel
theorem dX3_sumOfVotes_25 : decode cX3_sumOfVotes 25 = .ok (.iload_n 3, 1) := by decide +kernel
theorem dX3_sumOfVotes_26 : decode cX3_sumOfVotes 26 = .ok (.aload_n 0, 1) := by decide +kernel
theorem dX3_sumOfVotes_27 : decode cX3_sumOfVotes 27 = .ok (.getfield 15, 3) := by decide +kernel
theorem dX3_sumOfVotes_30 : decode cX3_sumOfVotes 30 = .ok (.iload 4, 2) := by decide +kernel
theorem dX3_sumOfVotes_32 : decode cX3_sumOfVotes 32 = .ok (.iaload, 1) := by decide +kernel
theorem dX3_sumOfVotes_33 : decode cX3_sumOfVotes 33 = .ok (.iadd, 1) := by decide +kernel
theorem dX3_sumOfVotes_34 : decode cX3_sumOfVotes 34 = .ok (.istore_n 3, 1) := by decide +kernel
theorem dX3_sumOfVotes_35 : decode cX3_sumOfVotes 35 = .ok (.iinc 4 1, 3) := by decide +kernel
theorem dX3_sumOfVotes_38 : decode cX3_sumOfVotes 38 = .ok (.goto (-33), 3) := by decide +kernel
theorem dX3_sumOfVotes_41 : decode cX3_sumOfVotes 41 = .ok (.iload_n 3, 1) := by decide +kernel
theorem dX3_sumOfVotes_42 : decode cX3_sumOfVotes 42 = .ok (.ireturn, 1) := by decide +kernel
theorem dX3_sumFor_0 : decode cX3_sumFor 0 = .ok (.aload_n 0, 1) := by decide +kernel
theorem dX3_sumFor_1 : decode cX3_sumFor 1 = .ok (.iload_n 1, 1) := by decide +kernel
theorem dX3_sumFor_2 : decode cX3_sumFor 2 = .ok (.iconst 1, 1) := by decide +kernel
theorem dX3_sumFor_3 : decode cX3_sumFor 3 = .ok (.invokevirtual 136, 3) := by decide +kernel
theorem dX3_sumFor_6 : decode cX3_sumFor 6 = .ok (.ireturn, 1) := by decide +kernel
theorem dX3_sumAgainst_0 : decode cX3_sumAgainst 0 = .ok (.aload_n 0, 1) := by decide +kernel
theorem dX3_sumAgainst_1 : decode cX3_sumAgainst 1 = .ok (.iload_n 1, 1) := by decide +kernel
theorem dX3_sumAgainst_2 : decode cX3_sumAgainst 2 = .ok (.iconst (-1), 1) := by decide +kernel
theorem dX3_sumAgainst_3 : decode cX3_sumAgainst 3 = .ok (.invokevirtual 136, 3) := by decide +kernel
theorem dX3_sumAgainst_6 : decode cX3_sumAgainst 6 = .ok (.ireturn, 1) := by decide +kernel
theorem dX3_sumForByMember_0 : decode cX3_sumForByMember 0 = .ok (.iconst 0, 1) := by decide +kernel
theorem dX3_sumForByMember_1 : decode cX3_sumForByMember 1 = .ok (.istore_n 2, 1) := by decide +kernel
theorem dX3_sumForByMember_2 : decode cX3_sumForByMember 2 = .ok (.iconst 1, 1) := by decide +kernel
theorem dX3_sumForByMember_3 : decode cX3_sumForByMember 3 = .ok (.istore_n 3, 1) := by decide +kernel
theorem dX3_sumForByMember_4 : decode cX3_sumForByMember 4 = .ok (.iload_n 3, 1) := by decide +kernel
theorem dX3_sumForByMember_5 : decode cX3_sumForByMember 5 = .ok (.bipush 9, 2) := by decide +kernel
theorem dX3_sumForByMember_7 : decode cX3_sumForByMember 7 = .ok (.if_icmp .gt 52, 3) := by decide +kernel
theorem dX3_sumForByMember_10 : decode cX3_sumForByMember 10 = .ok (.iconst 0, 1) := by decide +kernel
theorem dX3_sumForByMember_11 : decode cX3_sumForByMember 11 = .ok (.istore 4, 2) := by decide +kernel
theorem dX3_sumForByMember_13 : decode cX3_sumForByMember 13 = .ok (.iload 4, 2) := by decide +kernel
theorem dX3_sumForByMember_15 : decode cX3_sumForByMember 15 = .ok (.aload_n 0, 1) := by decide +kernel
theorem dX3_sumForByMember_16 : decode cX3_sumForByMember 16 = .ok (.getfield 9, 3) := by decide +kernel
theorem dX3_sumForByMember_19 : decode cX3_sumForByMember 19 = .ok (.if_icmp .ge 34, 3) := by decide +kernel
theorem dX3_sumForByMember_22 : decode cX3_sumForByMember 22 = .ok (.aload_n 0, 1) := by decide +kernel
theorem dX3_sumForByMember_23 : decode cX3_sumForByMember 23 = .ok (.getfield 15, 3) := by decide +kernel
theorem dX3_sumForByMember_26 : decode cX3_sumForByMember 26 = .ok (.iload 4, 2) := by decide +kernel
theorem dX3_sumForByMember_28 : decode cX3_sumForByMember 28 = .ok (.iaload, 1) := by decide +kernel
theorem dX3_sumForByMember_29 : decode cX3_sumForByMember 29 = .ok (.iload_n 3, 1) := by decide +kernel
theorem dX3_sumForByMember_30 : decode cX3_sumForByMember 30 = .ok (.if_icmp .lt 17, 3) := by decide +kernel
theorem dX3_sumForByMember_33 : decode cX3_sumForByMember 33 = .ok (.aload_n 0, 1) := by decide +kernel
theorem dX3_sumForByMember_34 : decode cX3_sumForByMember 34 = .ok (.iload 4, 2) := by decide +kernel
theorem dX3_sumForByMember_36 : decode cX3_sumForByMember 36 = .ok (.iload_n 1, 1) := by decide +kernel
theorem dX3_sumForByMember_37 : decode cX3_sumForByMember 37 = .ok (.invokevirtual 132, 3) := by decide +kernel
theorem dX3_sumForByMember_40 : decode cX3_sumForByMember 40 = .ok (.iconst 1, 1) := by decide +kernel
theorem dX3_sumForByMember_41 : decode cX3_sumForByMember 41 = .ok (.if_icmp .ne 6, 3) := by decide +kernel
theorem dX3_sumForByMember_44 : decode cX3_sumForByMember 44 = .ok (.iinc 2 1, 3) := by decide +kernel
theorem dX3_sumForByMember_47 : decode cX3_sumForByMember 47 = .ok (.iinc 4 1, 3) := by decide +kernel
theorem dX3_sumForByMember_50 : decode cX3_sumForByMember 50 = .ok (.goto (-37), 3) := by decide +kernel
theorem dX3_sumForByMember_53 : decode cX3_sumForByMember 53 = .ok (.iinc 3 1, 3) := by decide +kernel
theorem dX3_sumForByMember_56 : decode cX3_sumForByMember 56 = .ok (.goto (-52), 3) := by decide +kernel
theorem dX3_sumForByMember_59 : decode cX3_sumForByMember 59 = .ok (.iload_n 2, 1) := by decide +kernel
theorem dX3_sumForByMember_60 : decode cX3_sumForByMember 60 = .ok (.ireturn, 1) := by decide +kernel
theorem dX3_sumsForAgree_0 : decode cX3_sumsForAgree 0 = .ok (.iconst 0, 1) := by decide +kernel
theorem dX3_sumsForAgree_1 : decode cX3_sumsForAgree 1 = .ok (.istore_n 1, 1) := by decide +kernel
theorem dX3_sumsForAgree_2 : decode cX3_sumsForAgree 2 = .ok (.iload_n 1, 1) := by decide +kernel
theorem dX3_sumsForAgree_3 : decode cX3_sumsForAgree 3 = .ok (.aload_n 0, 1) := by decide +kernel
theorem dX3_sumsForAgree_4 : decode cX3_sumsForAgree 4 = .ok (.getfield 38, 3) := by decide +kernel
theorem dX3_sumsForAgree_7 : decode cX3_sumsForAgree 7 = .ok (.getfield 107, 3) := by decide +kernel
theorem dX3_sumsForAgree_10 : decode cX3_sumsForAgree 10 = .ok (.if_icmp .ge 24, 3) := by decide +kernel
theorem dX3_sumsForAgree_13 : decode cX3_sumsForAgree 13 = .ok (.aload_n 0, 1) := by decide +kernel
theorem dX3_sumsForAgree_14 : decode cX3_sumsForAgree 14 = .ok (.iload_n 1, 1) := by decide +kernel
theorem dX3_sumsForAgree_15 : decode cX3_sumsForAgree 15 = .ok (.invokevirtual 110, 3) := by decide +kernel
theorem dX3_sumsForAgree_18 : decode cX3_sumsForAgree 18 = .ok (.aload_n 0, 1) := by decide +kernel
theorem dX3_sumsForAgree_19 : decode cX3_sumsForAgree 19 = .ok (.iload_n 1, 1) := by decide +kernel
theorem dX3_sumsForAgree_20 : decode cX3_sumsForAgree 20 = .ok (.invokevirtual 139, 3) := by decide +kernel
theorem dX3_sumsForAgree_23 : decode cX3_sumsForAgree 23 = .ok (.if_icmp .eq 5, 3) := by decide +kernel
theorem dX3_sumsForAgree_26 : decode cX3_sumsForAgree 26 = .ok (.iconst 0, 1) := by decide +kernel
theorem dX3_sumsForAgree_27 : decode cX3_sumsForAgree 27 = .ok (.ireturn, 1) := by decide +kernel
theorem dX3_sumsForAgree_28 : decode cX3_sumsForAgree 28 = .ok (.iinc 1 1, 3) := by decide +kernel
theorem dX3_sumsForAgree_31 : decode cX3_sumsForAgree 31 = .ok (.goto (-29), 3) := by decide +kernel
theorem dX3_sumsForAgree_34 : decode cX3_sumsForAgree 34 = .ok (.iconst 1, 1) := by decide +kernel
theorem dX3_sumsForAgree_35 : decode cX3_sumsForAgree 35 = .ok (.ireturn, 1) := by decide +kernel
theorem dX3_gustFault_0 : decode cX3_gustFault 0 = .ok (.iload_n 1, 1) := by decide +kernel
theorem dX3_gustFault_1 : decode cX3_gustFault 1 = .ok (.ifCond .lt 9, 3) := by decide +kernel
theorem dX3_gustFault_4 : decode cX3_gustFault 4 = .ok (.iload_n 1, 1) := by decide +kernel
theorem dX3_gustFault_5 : decode cX3_gustFault 5 = .ok (.bipush 20, 2) := by decide +kernel
theorem dX3_gustFault_7 : decode cX3_gustFault 7 = .ok (.if_icmp .le 7, 3) := by decide +kernel
theorem dX3_gustFault_10 : decode cX3_gustFault 10 = .ok (.iconst 1, 1) := by decide +kernel
theorem dX3_gustFault_11 : decode cX3_gustFault 11 = .ok (.goto 4, 3) := by decide +kernel
theorem dX3_gustFault_14 : decode cX3_gustFault 14 = .ok (.iconst 0, 1) := by decide +kernel
theorem dX3_gustFault_15 : decode cX3_gustFault 15 = .ok (.ireturn, 1) := by decide +kernel
theorem dX3_blowGust_0 : decode cX3_blowGust 0 = .ok (.iconst 0, 1) := by decide +kernel
theorem dX3_blowGust_1 : decode cX3_blowGust 1 = .ok (.istore_n 2, 1) := by decide +kernel
theorem dX3_blowGust_2 : decode cX3_blowGust 2 = .ok (.iconst 0, 1) := by decide +kernel
theorem dX3_blowGust_3 : decode cX3_blowGust 3 = .ok (.istore_n 3, 1) := by decide +kernel
theorem dX3_blowGust_4 : decode cX3_blowGust 4 = .ok (.iload_n 3, 1) := by decide +kernel
theorem dX3_blowGust_5 : decode cX3_blowGust 5 = .ok (.aload_n 0, 1) := by decide +kernel
theorem dX3_blowGust_6 : decode cX3_blowGust 6 = .ok (.getfield 38, 3) := by decide +kernel
theorem dX3_blowGust_9 : decode cX3_blowGust 9 = .ok (.getfield 107, 3) := by decide +kernel
theorem dX3_blowGust_12 : decode cX3_blowGust 12 = .ok (.if_icmp .ge 65, 3) := by decide +kernel
theorem dX3_blowGust_15 : decode cX3_blowGust 15 = .ok (.aload_n 0, 1) := by decide +kernel
theorem dX3_blowGust_16 : decode cX3_blowGust 16 = .ok (.getfield 38, 3) := by decide +kernel
theorem dX3_blowGust_19 : decode cX3_blowGust 19 = .ok (.getfield 90, 3) := by decide +kernel
theorem dX3_blowGust_22 : decode cX3_blowGust 22 = .ok (.iload_n 3, 1) := by decide +kernel
theorem dX3_blowGust_23 : decode cX3_blowGust 23 = .ok (.iaload, 1) := by decide +kernel
theorem dX3_blowGust_24 : decode cX3_blowGust 24 = .ok (.istore 4, 2) := by decide +kernel
theorem dX3_blowGust_26 : decode cX3_blowGust 26 = .ok (.aload_n 0, 1) := by decide +kernel
theorem dX3_blowGust_27 : decode cX3_blowGust 27 = .ok (.getfield 38, 3) := by decide +kernel
theorem dX3_blowGust_30 : decode cX3_blowGust 30 = .ok (.getfield 100, 3) := by decide +kernel
theorem dX3_blowGust_33 : decode cX3_blowGust 33 = .ok (.iload_n 3, 1) := by decide +kernel
theorem dX3_blowGust_34 : decode cX3_blowGust 34 = .ok (.baload, 1) := by decide +kernel
theorem dX3_blowGust_35 : decode cX3_blowGust 35 = .ok (.ifCond .ne 36, 3) := by decide +kernel
theorem dX3_blowGust_38 : decode cX3_blowGust 38 = .ok (.aload_n 0, 1) := by decide +kernel
theorem dX3_blowGust_39 : decode cX3_blowGust 39 = .ok (.getfield 22, 3) := by decide +kernel
theorem dX3_blowGust_42 : decode cX3_blowGust 42 = .ok (.iload 4, 2) := by decide +kernel
theorem dX3_blowGust_44 : decode cX3_blowGust 44 = .ok (.baload, 1) := by decide +kernel
theorem dX3_blowGust_45 : decode cX3_blowGust 45 = .ok (.ifCond .eq 26, 3) := by decide +kernel
theorem dX3_blowGust_48 : decode cX3_blowGust 48 = .ok (.aload_n 0, 1) := by decide +kernel
theorem dX3_blowGust_49 : decode cX3_blowGust 49 = .ok (.iload 4, 2) := by decide +kernel
theorem dX3_blowGust_51 : decode cX3_blowGust 51 = .ok (.invokevirtual 142, 3) := by decide +kernel
theorem dX3_blowGust_54 : decode cX3_blowGust 54 = .ok (.iload_n 1, 1) := by decide +kernel
theorem dX3_blowGust_55 : decode cX3_blowGust 55 = .ok (.if_icmp .ge 16, 3) := by decide +kernel
theorem dX3_blowGust_58 : decode cX3_blowGust 58 = .ok (.aload_n 0, 1) := by decide +kernel
theorem dX3_blowGust_59 : decode cX3_blowGust 59 = .ok (.getfield 38, 3) := by decide +kernel
theorem dX3_blowGust_62 : decode cX3_blowGust 62 = .ok (.getfield 100, 3) := by decide +kernel
theorem dX3_blowGust_65 : decode cX3_blowGust 65 = .ok (.iload_n 3, 1) := by decide +kernel
theorem dX3_blowGust_66 : decode cX3_blowGust 66 = .ok (.iconst 1, 1) := by decide +kernel
theorem dX3_blowGust_67 : decode cX3_blowGust 67 = .ok (.bastore, 1) := by decide +kernel
theorem dX3_blowGust_68 : decode cX3_blowGust 68 = .ok (.iinc 2 1, 3) := by decide +kernel
theorem dX3_blowGust_71 : decode cX3_blowGust 71 = .ok (.iinc 3 1, 3) := by decide +kernel
theorem dX3_blowGust_74 : decode cX3_blowGust 74 = .ok (.goto (-70), 3) := by decide +kernel
theorem dX3_blowGust_77 : decode cX3_blowGust 77 = .ok (.iload_n 2, 1) := by decide +kernel
theorem dX3_blowGust_78 : decode cX3_blowGust 78 = .ok (.ireturn, 1) := by decide +kernel
theorem dX3_passFault_0 : decode cX3_passFault 0 = .ok (.iload_n 1, 1) := by decide +kernel
theorem dX3_passFault_1 : decode cX3_passFault 1 = .ok (.iconst 1, 1) := by decide +kernel
theorem dX3_passFault_2 : decode cX3_passFault 2 = .ok (.if_icmp .lt 9, 3) := by decide +kernel
theorem dX3_passFault_5 : decode cX3_passFault 5 = .ok (.iload_n 1, 1) := by decide +kernel
theorem dX3_passFault_6 : decode cX3_passFault 6 = .ok (.bipush 12, 2) := by decide +kernel
theorem dX3_passFault_8 : decode cX3_passFault 8 = .ok (.if_icmp .le 7, 3) := by decide +kernel
theorem dX3_passFault_11 : decode cX3_passFault 11 = .ok (.iconst 1, 1) := by decide +kernel
theorem dX3_passFault_12 : decode cX3_passFault 12 = .ok (.goto 4, 3) := by decide +kernel
theorem dX3_passFault_15 : decode cX3_passFault 15 = .ok (.iconst 0, 1) := by decide +kernel
theorem dX3_passFault_16 : decode cX3_passFault 16 = .ok (.ireturn, 1) := by decide +kernel
theorem dX3_passHours_0 : decode cX3_passHours 0 = .ok (.iconst 0, 1) := by decide +kernel
theorem dX3_passHours_1 : decode cX3_passHours 1 = .ok (.istore_n 2, 1) := by decide +kernel
theorem dX3_passHours_2 : decode cX3_passHours 2 = .ok (.iconst 0, 1) := by decide +kernel
theorem dX3_passHours_3 : decode cX3_passHours 3 = .ok (.istore_n 3, 1) := by decide +kernel
theorem dX3_passHours_4 : decode cX3_passHours 4 = .ok (.iload_n 3, 1) := by decide +kernel
theorem dX3_passHours_5 : decode cX3_passHours 5 = .ok (.iload_n 1, 1) := by decide +kernel
theorem dX3_passHours_6 : decode cX3_passHours 6 = .ok (.if_icmp .ge 30, 3) := by decide +kernel
theorem dX3_passHours_9 : decode cX3_passHours 9 = .ok (.aload_n 0, 1) := by decide +kernel
theorem dX3_passHours_10 : decode cX3_passHours 10 = .ok (.invokevirtual 145, 3) := by decide +kernel
theorem dX3_passHours_13 : decode cX3_passHours 13 = .ok (.iload_n 2, 1) := by decide +kernel
theorem dX3_passHours_14 : decode cX3_passHours 14 = .ok (.aload_n 0, 1) := by decide +kernel
theorem dX3_passHours_15 : decode cX3_passHours 15 = .ok (.invokevirtual 148, 3) := by decide +kernel
theorem dX3_passHours_18 : decode cX3_passHours 18 = .ok (.iadd, 1) := by decide +kernel
theorem dX3_passHours_19 : decode cX3_passHours 19 = .ok (.istore_n 2, 1) := by decide +kernel
theorem dX3_passHours_20 : decode cX3_passHours 20 = .ok (.aload_n 0, 1) := by decide +kernel
theorem dX3_passHours_21 : decode cX3_passHours 21 = .ok (.dup, 1) := by decide +kernel
theorem dX3_passHours_22 : decode cX3_passHours 22 = .ok (.getfield 42, 3) := by decide +kernel
theorem dX3_passHours_25 : decode cX3_passHours 25 = .ok (.iconst 1, 1) := by decide +kernel
theorem dX3_passHours_26 : decode cX3_passHours 26 = .ok (.iadd, 1) := by decide +kernel
theorem dX3_passHours_27 : decode cX3_passHours 27 = .ok (.putfield 42, 3) := by decide +kernel
theorem dX3_passHours_30 : decode cX3_passHours 30 = .ok (.iinc 3 1, 3) := by decide +kernel
theorem dX3_passHours_33 : decode cX3_passHours 33 = .ok (.goto (-29), 3) := by decide +kernel
theorem dX3_passHours_36 : decode cX3_passHours 36 = .ok (.iload_n 2, 1) := by decide +kernel
theorem dX3_passHours_37 : decode cX3_passHours 37 = .ok (.ireturn, 1) := by decide +kernel
theorem dX3_chargeForTails_0 : decode cX3_chargeForTails 0 = .ok (.iconst 0, 1) := by decide +kernel
theorem dX3_chargeForTails_1 : decode cX3_chargeForTails 1 = .ok (.istore_n 1, 1) := by decide +kernel
theorem dX3_chargeForTails_2 : decode cX3_chargeForTails 2 = .ok (.iload_n 1, 1) := by decide +kernel
theorem dX3_chargeForTails_3 : decode cX3_chargeForTails 3 = .ok (.aload_n 0, 1) := by decide +kernel
theorem dX3_chargeForTails_4 : decode cX3_chargeForTails 4 = .ok (.getfield 9, 3) := by decide +kernel
theorem dX3_chargeForTails_7 : decode cX3_chargeForTails 7 = .ok (.if_icmp .ge 35, 3) := by decide +kernel
theorem dX3_chargeForTails_10 : decode cX3_chargeForTails 10 = .ok (.aload_n 0, 1) := by decide +kernel
theorem dX3_chargeForTails_11 : decode cX3_chargeForTails 11 = .ok (.iload_n 1, 1) := by decide +kernel
theorem dX3_chargeForTails_12 : decode cX3_chargeForTails 12 = .ok (.invokevirtual 142, 3) := by decide +kernel
theorem dX3_chargeForTails_15 : decode cX3_chargeForTails 15 = .ok (.istore_n 2, 1) := by decide +kernel
theorem dX3_chargeForTails_16 : decode cX3_chargeForTails 16 = .ok (.aload_n 0, 1) := by decide +kernel
theorem dX3_chargeForTails_17 : decode cX3_chargeForTails 17 = .ok (.getfield 19, 3) := by decide +kernel
theorem dX3_chargeForTails_20 : decode cX3_chargeForTails 20 = .ok (.iload_n 1, 1) := by decide +kernel
theorem dX3_chargeForTails_21 : decode cX3_chargeForTails 21 = .ok (.dup2, 1) := by decide +kernel
theorem dX3_chargeForTails_22 : decode cX3_chargeForTails 22 = .ok (.iaload, 1) := by decide +kernel
theorem dX3_chargeForTails_23 : decode cX3_chargeForTails 23 = .ok (.iload_n 2, 1) := by decide +kernel
theorem dX3_chargeForTails_24 : decode cX3_chargeForTails 24 = .ok (.iadd, 1) := by decide +kernel
theorem dX3_chargeForTails_25 : decode cX3_chargeForTails 25 = .ok (.iastore, 1) := by decide +kernel
theorem dX3_chargeForTails_26 : decode cX3_chargeForTails 26 = .ok (.aload_n 0, 1) := by decide +kernel
theorem dX3_chargeForTails_27 : decode cX3_chargeForTails 27 = .ok (.dup, 1) := by decide +kernel
theorem dX3_chargeForTails_28 : decode cX3_chargeForTails 28 = .ok (.getfield 54, 3) := by decide +kernel
theorem dX3_chargeForTails_31 : decode cX3_chargeForTails 31 = .ok (.iload_n 2, 1) := by decide +kernel
theorem dX3_chargeForTails_32 : decode cX3_chargeForTails 32 = .ok (.iadd, 1) := by decide +kernel
theorem dX3_chargeForTails_33 : decode cX3_chargeForTails 33 = .ok (.putfield 54, 3) := by decide +kernel
theorem dX3_chargeForTails_36 : decode cX3_chargeForTails 36 = .ok (.iinc 1 1, 3) := by decide +kernel
theorem dX3_chargeForTails_39 : decode cX3_chargeForTails 39 = .ok (.goto (-37), 3) := by decide +kernel
theorem dX3_chargeForTails_42 : decode cX3_chargeForTails 42 = .ok (.return_, 1) := by decide +kernel
theorem dX3_groundDebtors_0 : decode cX3_groundDebtors 0 = .ok (.iconst 0, 1) := by decide +kernel
theorem dX3_groundDebtors_1 : decode cX3_groundDebtors 1 = .ok (.istore_n 1, 1) := by decide +kernel
theorem dX3_groundDebtors_2 : decode cX3_groundDebtors 2 = .ok (.iconst 0, 1) := by decide +kernel
theorem dX3_groundDebtors_3 : decode cX3_groundDebtors 3 = .ok (.istore_n 2, 1) := by decide +kernel
theorem dX3_groundDebtors_4 : decode cX3_groundDebtors 4 = .ok (.iload_n 2, 1) := by decide +kernel
theorem dX3_groundDebtors_5 : decode cX3_groundDebtors 5 = .ok (.aload_n 0, 1) := by decide +kernel
theorem dX3_groundDebtors_6 : decode cX3_groundDebtors 6 = .ok (.getfield 9, 3) := by decide +kernel
theorem dX3_groundDebtors_9 : decode cX3_groundDebtors 9 = .ok (.if_icmp .ge 37, 3) := by decide +kernel
theorem dX3_groundDebtors_12 : decode cX3_groundDebtors 12 = .ok (.aload_n 0, 1) := by decide +kernel
theorem dX3_groundDebtors_13 : decode cX3_groundDebtors 13 = .ok (.getfield 22, 3) := by decide +kernel
theorem dX3_groundDebtors_16 : decode cX3_groundDebtors 16 = .ok (.iload_n 2, 1) := by decide +kernel
theorem dX3_groundDebtors_17 : decode cX3_groundDebtors 17 = .ok (.baload, 1) := by decide +kernel
theorem dX3_groundDebtors_18 : decode cX3_groundDebtors 18 = .ok (.ifCond .eq 22, 3) := by decide +kernel
theorem dX3_groundDebtors_21 : decode cX3_groundDebtors 21 = .ok (.aload_n 0, 1) := by decide +kernel
theorem dX3_groundDebtors_22 : decode cX3_groundDebtors 22 = .ok (.getfield 19, 3) := by decide +kernel
theorem dX3_groundDebtors_25 : decode cX3_groundDebtors 25 = .ok (.iload_n 2, 1) := by decide +kernel
theorem dX3_groundDebtors_26 : decode cX3_groundDebtors 26 = .ok (.iaload, 1) := by decide +kernel
theorem dX3_groundDebtors_27 : decode cX3_groundDebtors 27 = .ok (.bipush 30, 2) := by decide +kernel
theorem dX3_groundDebtors_29 : decode cX3_groundDebtors 29 = .ok (.if_icmp .le 11, 3) := by decide +kernel
theorem dX3_groundDebtors_32 : decode cX3_groundDebtors 32 = .ok (.aload_n 0, 1) := by decide +kernel
theorem dX3_groundDebtors_33 : decode cX3_groundDebtors 33 = .ok (.iload_n 2, 1) := by decide +kernel
theorem dX3_groundDebtors_34 : decode cX3_groundDebtors 34 = .ok (.invokevirtual 129, 3) := by decide +kernel
theorem dX3_groundDebtors_37 : decode cX3_groundDebtors 37 = .ok (.iinc 1 1, 3) := by decide +kernel
theorem dX3_groundDebtors_40 : decode cX3_groundDebtors 40 = .ok (.iinc 2 1, 3) := by decide +kernel
theorem dX3_groundDebtors_43 : decode cX3_groundDebtors 43 = .ok (.goto (-39), 3) := by decide +kernel
theorem dX3_groundDebtors_46 : decode cX3_groundDebtors 46 = .ok (.iload_n 1, 1) := by decide +kernel
theorem dX3_groundDebtors_47 : decode cX3_groundDebtors 47 = .ok (.ireturn, 1) := by decide +kernel
theorem dX3_arrearsByRate_0 : decode cX3_arrearsByRate 0 = .ok (.aload_n 0, 1) := by decide +kernel
theorem dX3_arrearsByRate_1 : decode cX3_arrearsByRate 1 = .ok (.getfield 19, 3) := by decide +kernel
theorem dX3_arrearsByRate_4 : decode cX3_arrearsByRate 4 = .ok (.iload_n 1, 1) := by decide +kernel
theorem dX3_arrearsByRate_5 : decode cX3_arrearsByRate 5 = .ok (.iaload, 1) := by decide +kernel
theorem dX3_arrearsByRate_6 : decode cX3_arrearsByRate 6 = .ok (.istore_n 3, 1) := by decide +kernel
theorem dX3_arrearsByRate_7 : decode cX3_arrearsByRate 7 = .ok (.aload_n 0, 1) := by decide +kernel
theorem dX3_arrearsByRate_8 : decode cX3_arrearsByRate 8 = .ok (.iload_n 1, 1) := by decide +kernel
theorem dX3_arrearsByRate_9 : decode cX3_arrearsByRate 9 = .ok (.invokevirtual 142, 3) := by decide +kernel
theorem dX3_arrearsByRate_12 : decode cX3_arrearsByRate 12 = .ok (.istore 4, 2) := by decide +kernel
theorem dX3_arrearsByRate_14 : decode cX3_arrearsByRate 14 = .ok (.iload 4, 2) := by decide +kernel
theorem dX3_arrearsByRate_16 : decode cX3_arrearsByRate 16 = .ok (.ifCond .ne 5, 3) := by decide +kernel
theorem dX3_arrearsByRate_19 : decode cX3_arrearsByRate 19 = .ok (.iload_n 3, 1) := by decide +kernel
theorem dX3_arrearsByRate_20 : decode cX3_arrearsByRate 20 = .ok (.ireturn, 1) := by decide +kernel
theorem dX3_arrearsByRate_21 : decode cX3_arrearsByRate 21 = .ok (.iload_n 3, 1) := by decide +kernel
theorem dX3_arrearsByRate_22 : decode cX3_arrearsByRate 22 = .ok (.bipush 30, 2) := by decide +kernel
theorem dX3_arrearsByRate_24 : decode cX3_arrearsByRate 24 = .ok (.if_icmp .le 7, 3) := by decide +kernel
theorem dX3_arrearsByRate_27 : decode cX3_arrearsByRate 27 = .ok (.iconst 1, 1) := by decide +kernel
theorem dX3_arrearsByRate_28 : decode cX3_arrearsByRate 28 = .ok (.goto 12, 3) := by decide +kernel
theorem dX3_arrearsByRate_31 : decode cX3_arrearsByRate 31 = .ok (.bipush 30, 2) := by decide +kernel
theorem dX3_arrearsByRate_33 : decode cX3_arrearsByRate 33 = .ok (.iload_n 3, 1) := by decide +kernel
theorem dX3_arrearsByRate_34 : decode cX3_arrearsByRate 34 = .ok (.isub, 1) := by decide +kernel
theorem dX3_arrearsByRate_35 : decode cX3_arrearsByRate 35 = .ok (.iload 4, 2) := by decide +kernel
theorem dX3_arrearsByRate_37 : decode cX3_arrearsByRate 37 = .ok (.idiv, 1) := by decide +kernel
theorem dX3_arrearsByRate_38 : decode cX3_arrearsByRate 38 = .ok (.iconst 1, 1) := by decide +kernel
theorem dX3_arrearsByRate_39 : decode cX3_arrearsByRate 39 = .ok (.iadd, 1) := by decide +kernel
theorem dX3_arrearsByRate_40 : decode cX3_arrearsByRate 40 = .ok (.istore 5, 2) := by decide +kernel
theorem dX3_arrearsByRate_42 : decode cX3_arrearsByRate 42 = .ok (.iload_n 3, 1) := by decide +kernel
theorem dX3_arrearsByRate_43 : decode cX3_arrearsByRate 43 = .ok (.iload 4, 2) := by decide +kernel
theorem dX3_arrearsByRate_45 : decode cX3_arrearsByRate 45 = .ok (.iload_n 2, 1) := by decide +kernel
theorem dX3_arrearsByRate_46 : decode cX3_arrearsByRate 46 = .ok (.iload 5, 2) := by decide +kernel
theorem dX3_arrearsByRate_48 : decode cX3_arrearsByRate 48 = .ok (.invokestatic 151, 3) := by decide +kernel
theorem dX3_arrearsByRate_51 : decode cX3_arrearsByRate 51 = .ok (.imul, 1) := by decide +kernel
theorem dX3_arrearsByRate_52 : decode cX3_arrearsByRate 52 = .ok (.iadd, 1) := by decide +kernel
theorem dX3_arrearsByRate_53 : decode cX3_arrearsByRate 53 = .ok (.ireturn, 1) := by decide +kernel
theorem dX4_init_0 : decode cX4_init 0 = .ok (.aload_n 0, 1) := by decide +kernel
theorem dX4_init_1 : decode cX4_init 1 = .ok (.invokespecial 1, 3) := by decide +kernel
theorem dX4_init_4 : decode cX4_init 4 = .ok (.aload_n 0, 1) := by decide +kernel
theorem dX4_init_5 : decode cX4_init 5 = .ok (.new 7, 3) := by decide +kernel
theorem dX4_init_8 : decode cX4_init 8 = .ok (.dup, 1) := by decide +kernel
theorem dX4_init_9 : decode cX4_init 9 = .ok (.invokespecial 9, 3) := by decide +kernel
theorem dX4_init_12 : decode cX4_init 12 = .ok (.putfield 10, 3) := by decide +kernel
theorem dX4_init_15 : decode cX4_init 15 = .ok (.aload_n 0, 1) := by decide +kernel
theorem dX4_init_16 : decode cX4_init 16 = .ok (.new 7, 3) := by decide +kernel
theorem dX4_init_19 : decode cX4_init 19 = .ok (.dup, 1) := by decide +kernel
theorem dX4_init_20 : decode cX4_init 20 = .ok (.invokespecial 9, 3) := by decide +kernel
theorem dX4_init_23 : decode cX4_init 23 = .ok (.putfield 16, 3) := by decide +kernel
theorem dX4_init_26 : decode cX4_init 26 = .ok (.aload_n 0, 1) := by decide +kernel
theorem dX4_init_27 : decode cX4_init 27 = .ok (.new 7, 3) := by decide +kernel
theorem dX4_init_30 : decode cX4_init 30 = .ok (.dup, 1) := by decide +kernel
theorem dX4_init_31 : decode cX4_init 31 = .ok (.invokespecial 9, 3) := by decide +kernel
theorem dX4_init_34 : decode cX4_init 34 = .ok (.putfield 19, 3) := by decide +kernel
theorem dX4_init_37 : decode cX4_init 37 = .ok (.aload_n 0, 1) := by decide +kernel
theorem dX4_init_38 : decode cX4_init 38 = .ok (.iconst 0, 1) := by decide +kernel
theorem dX4_init_39 : decode cX4_init 39 = .ok (.putfield 22, 3) := by decide +kernel
theorem dX4_init_42 : decode cX4_init 42 = .ok (.aload_n 0, 1) := by decide +kernel
theorem dX4_init_43 : decode cX4_init 43 = .ok (.new 26, 3) := by decide +kernel
theorem dX4_init_46 : decode cX4_init 46 = .ok (.dup, 1) := by decide +kernel
theorem dX4_init_47 : decode cX4_init 47 = .ok (.invokespecial 28, 3) := by decide +kernel
theorem dX4_init_50 : decode cX4_init 50 = .ok (.putfield 29, 3) := by decide +kernel
theorem dX4_init_53 : decode cX4_init 53 = .ok (.aload_n 0, 1) := by decide +kernel
theorem dX4_init_54 : decode cX4_init 54 = .ok (.new 33, 3) := by decide +kernel
theorem dX4_init_57 : decode cX4_init 57 = .ok (.dup, 1) := by decide +kernel
theorem dX4_init_58 : decode cX4_init 58 = .ok (.invokespecial 35, 3) := by decide +kernel
theorem dX4_init_61 : decode cX4_init 61 = .ok (.putfield 36, 3) := by decide +kernel
theorem dX4_init_64 : decode cX4_init 64 = .ok (.aload_n 0, 1) := by decide +kernel
theorem dX4_init_65 : decode cX4_init 65 = .ok (.iconst (-1), 1) := by decide +kernel
theorem dX4_init_66 : decode cX4_init 66 = .ok (.putfield 40, 3) := by decide +kernel
theorem dX4_init_69 : decode cX4_init 69 = .ok (.aload_n 0, 1) := by decide +kernel
theorem dX4_init_70 : decode cX4_init 70 = .ok (.iconst (-1), 1) := by decide +kernel
theorem dX4_init_71 : decode cX4_init 71 = .ok (.putfield 44, 3) := by decide +kernel
theorem dX4_init_74 : decode cX4_init 74 = .ok (.aload_n 0, 1) := by decide +kernel
theorem dX4_init_75 : decode cX4_init 75 = .ok (.iconst (-1), 1) := by decide +kernel
theorem dX4_init_76 : decode cX4_init 76 = .ok (.putfield 47, 3) := by decide +kernel
theorem dX4_init_79 : decode cX4_init 79 = .ok (.aload_n 0, 1) := by decide +kernel
theorem dX4_init_80 : decode cX4_init 80 = .ok (.new 50, 3) := by decide +kernel
theorem dX4_init_83 : decode cX4_init 83 = .ok (.dup, 1) := by decide +kernel
theorem dX4_init_84 : decode cX4_init 84 = .ok (.invokespecial 52, 3) := by decide +kernel
theorem dX4_init_87 : decode cX4_init 87 = .ok (.putfield 53, 3) := by decide +kernel
theorem dX4_init_90 : decode cX4_init 90 = .ok (.return_, 1) := by decide +kernel
theorem dX4_addCommittee_0 : decode cX4_addCommittee 0 = .ok (.aload_n 0, 1) := by decide +kernel
theorem dX4_addCommittee_1 : decode cX4_addCommittee 1 = .ok (.getfield 10, 3) := by decide +kernel
theorem dX4_addCommittee_4 : decode cX4_addCommittee 4 = .ok (.iload_n 1, 1) := by decide +kernel
theorem dX4_addCommittee_5 : decode cX4_addCommittee 5 = .ok (.invokevirtual 57, 3) := by decide +kernel
theorem dX4_addCommittee_8 : decode cX4_addCommittee 8 = .ok (.istore_n 2, 1) := by decide +kernel
theorem dX4_addCommittee_9 : decode cX4_addCommittee 9 = .ok (.iload_n 2, 1) := by decide +kernel
theorem dX4_addCommittee_10 : decode cX4_addCommittee 10 = .ok (.iconst 1, 1) := by decide +kernel
theorem dX4_addCommittee_11 : decode cX4_addCommittee 11 = .ok (.if_icmp .ne 13, 3) := by decide +kernel
theorem dX4_addCommittee_14 : decode cX4_addCommittee 14 = .ok (.new 61, 3) := by decide +kernel
theorem dX4_addCommittee_17 : decode cX4_addCommittee 17 = .ok (.dup, 1) := by decide +kernel
theorem dX4_addCommittee_18 : decode cX4_addCommittee 18 = .ok (.ldc 63, 2) := by decide +kernel
theorem dX4_addCommittee_20 : decode cX4_addCommittee 20 = .ok (.invokespecial 65, 3) := by decide +kernel
theorem dX4_addCommittee_23 : decode cX4_addCommittee 23 = .ok (.athrow, 1) := by decide +kernel
theorem dX4_addCommittee_24 : decode cX4_addCommittee 24 = .ok (.iload_n 2, 1) := by decide +kernel
theorem dX4_addCommittee_25 : decode cX4_addCommittee 25 = .ok (.iconst 2, 1) := by decide +kernel
theorem dX4_addCommittee_26 : decode cX4_addCommittee 26 = .ok (.if_icmp .ne 13, 3) := by decide +kernel
theorem dX4_addCommittee_29 : decode cX4_addCommittee 29 = .ok (.new 68, 3) := by decide +kernel
theorem dX4_addCommittee_32 : decode cX4_addCommittee 32 = .ok (.dup, 1) := by decide +kernel
theorem dX4_addCommittee_33 : decode cX4_addCommittee 33 = .ok (.ldc 70, 2) := by decide +kernel
theorem dX4_addCommittee_35 : decode cX4_addCommittee 35 = .ok (.invokespecial 72, 3) := by decide +kernel
theorem dX4_addCommittee_38 : decode cX4_addCommittee 38 = .ok (.athrow, 1) := by decide +kernel
theorem dX4_addCommittee_39 : decode cX4_addCommittee 39 = .ok (.aload_n 0, 1) := by decide +kernel
theorem dX4_addCommittee_40 : decode cX4_addCommittee 40 = .ok (.getfield 29, 3) := by decide +kernel
theorem dX4_addCommittee_43 : decode cX4_addCommittee 43 = .ok (.aload_n 0, 1) := by decide +kernel
theorem dX4_addCommittee_44 : decode cX4_addCommittee 44 = .ok (.getfield 10, 3) := by decide +kernel
theorem dX4_addCommittee_47 : decode cX4_addCommittee 47 = .ok (.invokevirtual 73, 3) := by decide +kernel
theorem dX4_addCommittee_50 : decode cX4_addCommittee 50 = .ok (.aload_n 0, 1) := by decide +kernel
theorem dX4_addCommittee_51 : decode cX4_addCommittee 51 = .ok (.getfield 10, 3) := by decide +kernel
theorem dX4_addCommittee_54 : decode cX4_addCommittee 54 = .ok (.iload_n 1, 1) := by decide +kernel
theorem dX4_addCommittee_55 : decode cX4_addCommittee 55 = .ok (.invokevirtual 77, 3) := by decide +kernel
theorem dX4_addCommittee_58 : decode cX4_addCommittee 58 = .ok (.ireturn, 1) := by decide +kernel
theorem dX4_addTail_0 : decode cX4_addTail 0 = .ok (.aload_n 0, 1) := by decide +kernel
theorem dX4_addTail_1 : decode cX4_addTail 1 = .ok (.getfield 10, 3) := by decide +kernel
theorem dX4_addTail_4 : decode cX4_addTail 4 = .ok (.iload_n 1, 1) := by decide +kernel
theorem dX4_addTail_5 : decode cX4_addTail 5 = .ok (.invokevirtual 80, 3) := by decide +kernel
theorem dX4_addTail_8 : decode cX4_addTail 8 = .ok (.istore_n 2, 1) := by decide +kernel
theorem dX4_addTail_9 : decode cX4_addTail 9 = .ok (.iload_n 2, 1) := by decide +kernel
theorem dX4_addTail_10 : decode cX4_addTail 10 = .ok (.iconst 1, 1) := by decide +kernel
theorem dX4_addTail_11 : decode cX4_addTail 11 = .ok (.if_icmp .ne 13, 3) := by decide +kernel
theorem dX4_addTail_14 : decode cX4_addTail 14 = .ok (.new 61, 3) := by decide +kernel
theorem dX4_addTail_17 : decode cX4_addTail 17 = .ok (.dup, 1) := by decide +kernel
theorem dX4_addTail_18 : decode cX4_addTail 18 = .ok (.ldc 83, 2) := by decide +kernel
theorem dX4_addTail_20 : decode cX4_addTail 20 = .ok (.invokespecial 65, 3) := by decide +kernel
theorem dX4_addTail_23 : decode cX4_addTail 23 = .ok (.athrow, 1) := by decide +kernel
theorem dX4_addTail_24 : decode cX4_addTail 24 = .ok (.iload_n 2, 1) := by decide +kernel
theorem dX4_addTail_25 : decode cX4_addTail 25 = .ok (.iconst 2, 1) := by decide +kernel
theorem dX4_addTail_26 : decode cX4_addTail 26 = .ok (.if_icmp .ne 13, 3) := by decide +kernel
theorem dX4_addTail_29 : decode cX4_addTail 29 = .ok (.new 68, 3) := by decide +kernel
theorem dX4_addTail_32 : decode cX4_addTail 32 = .ok (.dup, 1) := by decide +kernel
theorem dX4_addTail_33 : decode cX4_addTail 33 = .ok (.ldc 85, 2) := by decide +kernel
theorem dX4_addTail_35 : decode cX4_addTail 35 = .ok (.invokespecial 72, 3) := by decide +kernel
theorem dX4_addTail_38 : decode cX4_addTail 38 = .ok (.athrow, 1) := by decide +kernel
theorem dX4_addTail_39 : decode cX4_addTail 39 = .ok (.aload_n 0, 1) := by decide +kernel
theorem dX4_addTail_40 : decode cX4_addTail 40 = .ok (.getfield 29, 3) := by decide +kernel
theorem dX4_addTail_43 : decode cX4_addTail 43 = .ok (.aload_n 0, 1) := by decide +kernel
theorem dX4_addTail_44 : decode cX4_addTail 44 = .ok (.getfield 10, 3) := by decide +kernel
theorem dX4_addTail_47 : decode cX4_addTail 47 = .ok (.invokevirtual 73, 3) := by decide +kernel
theorem dX4_addTail_50 : decode cX4_addTail 50 = .ok (.aload_n 0, 1) := by decide +kernel
theorem dX4_addTail_51 : decode cX4_addTail 51 = .ok (.getfield 10, 3) := by decide +kernel
theorem dX4_addTail_54 : decode cX4_addTail 54 = .ok (.iload_n 1, 1) := by decide +kernel
theorem dX4_addTail_55 : decode cX4_addTail 55 = .ok (.invokevirtual 87, 3) := by decide +kernel
theorem dX4_addTail_58 : decode cX4_addTail 58 = .ok (.ireturn, 1) := by decide +kernel
theorem dX4_pay_0 : decode cX4_pay 0 = .ok (.aload_n 0, 1) := by decide +kernel
theorem dX4_pay_1 : decode cX4_pay 1 = .ok (.getfield 10, 3) := by decide +kernel
theorem dX4_pay_4 : decode cX4_pay 4 = .ok (.iload_n 1, 1) := by decide +kernel
theorem dX4_pay_5 : decode cX4_pay 5 = .ok (.iload_n 2, 1) := by decide +kernel
theorem dX4_pay_6 : decode cX4_pay 6 = .ok (.invokevirtual 90, 3) := by decide +kernel
theorem dX4_pay_9 : decode cX4_pay 9 = .ok (.istore_n 3, 1) := by decide +kernel
theorem dX4_pay_10 : decode cX4_pay 10 = .ok (.iload_n 3, 1) := by decide +kernel
theorem dX4_pay_11 : decode cX4_pay 11 = .ok (.iconst 1, 1) := by decide +kernel
theorem dX4_pay_12 : decode cX4_pay 12 = .ok (.if_icmp .ne 13, 3) := by decide +kernel
theorem dX4_pay_15 : decode cX4_pay 15 = .ok (.new 94, 3) := by decide +kernel
theorem dX4_pay_18 : decode cX4_pay 18 = .ok (.dup, 1) := by decide +kernel
theorem dX4_pay_19 : decode cX4_pay 19 = .ok (.ldc 96, 2) := by decide +kernel
theorem dX4_pay_21 : decode cX4_pay 21 = .ok (.invokespecial 98, 3) := by decide +kernel
theorem dX4_pay_24 : decode cX4_pay 24 = .ok (.athrow, 1) := by decide +kernel
theorem dX4_pay_25 : decode cX4_pay 25 = .ok (.iload_n 3, 1) := by decide +kernel
theorem dX4_pay_26 : decode cX4_pay 26 = .ok (.iconst 2, 1) := by decide +kernel
theorem dX4_pay_27 : decode cX4_pay 27 = .ok (.if_icmp .ne 13, 3) := by decide +kernel
theorem dX4_pay_30 : decode cX4_pay 30 = .ok (.new 61, 3) := by decide +kernel
theorem dX4_pay_33 : decode cX4_pay 33 = .ok (.dup, 1) := by decide +kernel
theorem dX4_pay_34 : decode cX4_pay 34 = .ok (.ldc 99, 2) := by decide +kernel
theorem dX4_pay_36 : decode cX4_pay 36 = .ok (.invokespecial 65, 3) := by decide +kernel
theorem dX4_pay_39 : decode cX4_pay 39 = .ok (.athrow, 1) := by decide +kernel
theorem dX4_pay_40 : decode cX4_pay 40 = .ok (.iload_n 3, 1) := by decide +kernel
theorem dX4_pay_41 : decode cX4_pay 41 = .ok (.iconst 3, 1) := by decide +kernel
theorem dX4_pay_42 : decode cX4_pay 42 = .ok (.if_icmp .ne 13, 3) := by decide +kernel
theorem dX4_pay_45 : decode cX4_pay 45 = .ok (.new 101, 3) := by decide +kernel
theorem dX4_pay_48 : decode cX4_pay 48 = .ok (.dup, 1) := by decide +kernel
theorem dX4_pay_49 : decode cX4_pay 49 = .ok (.ldc 103, 2) := by decide +kernel
theorem dX4_pay_51 : decode cX4_pay 51 = .ok (.invokespecial 105, 3) := by decide +kernel
theorem dX4_pay_54 : decode cX4_pay 54 = .ok (.athrow, 1) := by decide +kernel
theorem dX4_pay_55 : decode cX4_pay 55 = .ok (.aload_n 0, 1) := by decide +kernel
theorem dX4_pay_56 : decode cX4_pay 56 = .ok (.getfield 29, 3) := by decide +kernel
theorem dX4_pay_59 : decode cX4_pay 59 = .ok (.aload_n 0, 1) := by decide +kernel
theorem dX4_pay_60 : decode cX4_pay 60 = .ok (.getfield 10, 3) := by decide +kernel
theorem dX4_pay_63 : decode cX4_pay 63 = .ok (.invokevirtual 73, 3) := by decide +kernel
theorem dX4_pay_66 : decode cX4_pay 66 = .ok (.aload_n 0, 1) := by decide +kernel
theorem dX4_pay_67 : decode cX4_pay 67 = .ok (.getfield 10, 3) := by decide +kernel
theorem dX4_pay_70 : decode cX4_pay 70 = .ok (.iload_n 1, 1) := by decide +kernel
theorem dX4_pay_71 : decode cX4_pay 71 = .ok (.iload_n 2, 1) := by decide +kernel
theorem dX4_pay_72 : decode cX4_pay 72 = .ok (.invokevirtual 106, 3) := by decide +kernel
theorem dX4_pay_75 : decode cX4_pay 75 = .ok (.ireturn, 1) := by decide +kernel
theorem dX4_launch_0 : decode cX4_launch 0 = .ok (.aload_n 0, 1) := by decide +kernel
theorem dX4_launch_1 : decode cX4_launch 1 = .ok (.getfield 10, 3) := by decide +kernel
theorem dX4_launch_4 : decode cX4_launch 4 = .ok (.iload_n 1, 1) := by decide +kernel
theorem dX4_launch_5 : decode cX4_launch 5 = .ok (.invokevirtual 109, 3) := by decide +kernel
theorem dX4_launch_8 : decode cX4_launch 8 = .ok (.istore_n 2, 1) := by decide +kernel
theorem dX4_launch_9 : decode cX4_launch 9 = .ok (.iload_n 2, 1) := by decide +kernel
theorem dX4_launch_10 : decode cX4_launch 10 = .ok (.iconst 1, 1) := by decide +kernel
theorem dX4_launch_11 : decode cX4_launch 11 = .ok (.if_icmp .ne 13, 3) := by decide +kernel
theorem dX4_launch_14 : decode cX4_launch 14 = .ok (.new 94, 3) := by decide +kernel
theorem dX4_launch_17 : decode cX4_launch 17 = .ok (.dup, 1) := by decide +kernel
theorem dX4_launch_18 : decode cX4_launch 18 = .ok (.ldc 96, 2) := by decide +kernel
theorem dX4_launch_20 : decode cX4_launch 20 = .ok (.invokespecial 98, 3) := by decide +kernel
theorem dX4_launch_23 : decode cX4_launch 23 = .ok (.athrow, 1) := by decide +kernel
theorem dX4_launch_24 : decode cX4_launch 24 = .ok (.iload_n 2, 1) := by decide +kernel
theorem dX4_launch_25 : decode cX4_launch 25 = .ok (.iconst 2, 1) := by decide +kernel
theorem dX4_launch_26 : decode cX4_launch 26 = .ok (.if_icmp .ne 13, 3) := by decide +kernel
theorem dX4_launch_29 : decode cX4_launch 29 = .ok (.new 68, 3) := by decide +kernel
theorem dX4_launch_32 : decode cX4_launch 32 = .ok (.dup, 1) := by decide +kernel
theorem dX4_launch_33 : decode cX4_launch 33 = .ok (.ldc 112, 2) := by decide +kernel
theorem dX4_launch_35 : decode cX4_launch 35 = .ok (.invokespecial 72, 3) := by decide +kernel
theorem dX4_launch_38 : decode cX4_launch 38 = .ok (.athrow, 1) := by decide +kernel
theorem dX4_launch_39 : decode cX4_launch 39 = .ok (.aload_n 0, 1) := by decide +kernel
theorem dX4_launch_40 : decode cX4_launch 40 = .ok (.getfield 29, 3) := by decide +kernel
theorem dX4_launch_43 : decode cX4_launch 43 = .ok (.aload_n 0, 1) := by decide +kernel
theorem dX4_launch_44 : decode cX4_launch 44 = .ok (.getfield 10, 3) := by decide +kernel
theorem dX4_launch_47 : decode cX4_launch 47 = .ok (.invokevirtual 73, 3) := by decide +kernel
theorem dX4_launch_50 : decode cX4_launch 50 = .ok (.aload_n 0, 1) := by decide +kernel
theorem dX4_launch_51 : decode cX4_launch 51 = .ok (.getfield 10, 3) := by decide +kernel
theorem dX4_launch_54 : decode cX4_launch 54 = .ok (.iload_n 1, 1) := by decide +kernel
theorem dX4_launch_55 : decode cX4_launch 55 = .ok (.invokevirtual 114, 3) := by decide +kernel
theorem dX4_launch_58 : decode cX4_launch 58 = .ok (.ireturn, 1) := by decide +kernel
theorem dX4_committeeCount_0 : decode cX4_committeeCount 0 = .ok (.aload_n 0, 1) := by decide +kernel
theorem dX4_committeeCount_1 : decode cX4_committeeCount 1 = .ok (.getfield 10, 3) := by decide +kernel
theorem dX4_committeeCount_4 : decode cX4_committeeCount 4 = .ok (.getfield 117, 3) := by decide +kernel
theorem dX4_committeeCount_7 : decode cX4_committeeCount 7 = .ok (.ireturn, 1) := by decide +kernel
theorem dX4_members_0 : decode cX4_members 0 = .ok (.aload_n 0, 1) := by decide +kernel
theorem dX4_members_1 : decode cX4_members 1 = .ok (.iload_n 1, 1) := by decide +kernel
theorem dX4_members_2 : decode cX4_members 2 = .ok (.invokevirtual 120, 3) := by decide +kernel
theorem dX4_members_5 : decode cX4_members 5 = .ok (.aload_n 0, 1) := by decide +kernel
theorem dX4_members_6 : decode cX4_members 6 = .ok (.getfield 10, 3) := by decide +kernel
theorem dX4_members_9 : decode cX4_members 9 = .ok (.getfield 124, 3) := by decide +kernel
theorem dX4_members_12 : decode cX4_members 12 = .ok (.iload_n 1, 1) := by decide +kernel
theorem dX4_members_13 : decode cX4_members 13 = .ok (.iaload, 1) := by decide +kernel
theorem dX4_members_14 : decode cX4_members 14 = .ok (.ireturn, 1) := by decide +kernel
theorem dX4_arrears_0 : decode cX4_arrears 0 = .ok (.aload_n 0, 1) := by decide +kernel
theorem dX4_arrears_1 : decode cX4_arrears 1 = .ok (.iload_n 1, 1) := by decide +kernel
theorem dX4_arrears_2 : decode cX4_arrears 2 = .ok (.invokevirtual 120, 3) := by decide +kernel
theorem dX4_arrears_5 : decode cX4_arrears 5 = .ok (.aload_n 0, 1) := by decide +kernel
theorem dX4_arrears_6 : decode cX4_arrears 6 = .ok (.getfield 10, 3) := by decide +kernel
theorem dX4_arrears_9 : decode cX4_arrears 9 = .ok (.getfield 128, 3) := by decide +kernel
theorem dX4_arrears_12 : decode cX4_arrears 12 = .ok (.iload_n 1, 1) := by decide +kernel
theorem dX4_arrears_13 : decode cX4_arrears 13 = .ok (.iaload, 1) := by decide +kernel
theorem dX4_arrears_14 : decode cX4_arrears 14 = .ok (.ireturn, 1) := by decide +kernel
theorem dX4_isFlying_0 : decode cX4_isFlying 0 = .ok (.aload_n 0, 1) := by decide +kernel
theorem dX4_isFlying_1 : decode cX4_isFlying 1 = .ok (.iload_n 1, 1) := by decide +kernel
theorem dX4_isFlying_2 : decode cX4_isFlying 2 = .ok (.invokevirtual 120, 3) := by decide +kernel
theorem dX4_isFlying_5 : decode cX4_isFlying 5 = .ok (.aload_n 0, 1) := by decide +kernel
theorem dX4_isFlying_6 : decode cX4_isFlying 6 = .ok (.getfield 10, 3) := by decide +kernel
theorem dX4_isFlying_9 : decode cX4_isFlying 9 = .ok (.getfield 131, 3) := by decide +kernel
theorem dX4_isFlying_12 : decode cX4_isFlying 12 = .ok (.iload_n 1, 1) := by decide +kernel
theorem dX4_isFlying_13 : decode cX4_isFlying 13 = .ok (.baload, 1) := by decide +kernel
theorem dX4_isFlying_14 : decode cX4_isFlying 14 = .ok (.ireturn, 1) := by decide +kernel
theorem dX4_tailLength_0 : decode cX4_tailLength 0 = .ok (.aload_n 0, 1) := by decide +kernel
theorem dX4_tailLength_1 : decode cX4_tailLength 1 = .ok (.iload_n 1, 1) := by decide +kernel
theorem dX4_tailLength_2 : decode cX4_tailLength 2 = .ok (.invokevirtual 120, 3) := by decide +kernel
theorem dX4_tailLength_5 : decode cX4_tailLength 5 = .ok (.aload_n 0, 1) := by decide +kernel
theorem dX4_tailLength_6 : decode cX4_tailLength 6 = .ok (.getfield 10, 3) := by decide +kernel
theorem dX4_tailLength_9 : decode cX4_tailLength 9 = .ok (.iload_n 1, 1) := by decide +kernel
theorem dX4_tailLength_10 : decode cX4_tailLength 10 = .ok (.invokevirtual 135, 3) := by decide +kernel
theorem dX4_tailLength_13 : decode cX4_tailLength 13 = .ok (.ireturn, 1) := by decide +kernel
theorem dX4_tailsOf_0 : decode cX4_tailsOf 0 = .ok (.aload_n 0, 1) := by decide +kernel
theorem dX4_tailsOf_1 : decode cX4_tailsOf 1 = .ok (.iload_n 1, 1) := by decide +kernel
theorem dX4_tailsOf_2 : decode cX4_tailsOf 2 = .ok (.invokevirtual 120, 3) := by decide +kernel
theorem dX4_tailsOf_5 : decode cX4_tailsOf 5 = .ok (.aload_n 0, 1) := by decide +kernel
theorem dX4_tailsOf_6 : decode cX4_tailsOf 6 = .ok (.getfield 10, 3) := by decide +kernel
theorem dX4_tailsOf_9 : decode cX4_tailsOf 9 = .ok (.iload_n 1, 1) := by decide +kernel
theorem dX4_tailsOf_10 : decode cX4_tailsOf 10 = .ok (.invokevirtual 138, 3) := by decide +kernel
theorem dX4_tailsOf_13 : decode cX4_tailsOf 13 = .ok (.ireturn, 1) := by decide +kernel
theorem dX4_tailCount_0 : decode cX4_tailCount 0 = .ok (.aload_n 0, 1) := by decide +kernel
theorem dX4_tailCount_1 : decode cX4_tailCount 1 = .ok (.getfield 10, 3) := by decide +kernel
theorem dX4_tailCount_4 : decode cX4_tailCount 4 = .ok (.getfield 141, 3) := by decide +kernel
theorem dX4_tailCount_7 : decode cX4_tailCount 7 = .ok (.ireturn, 1) := by decide +kernel
theorem dX4_length_0 : decode cX4_length 0 = .ok (.aload_n 0, 1) := by decide +kernel
theorem dX4_length_1 : decode cX4_length 1 = .ok (.iload_n 1, 1) := by decide +kernel
theorem dX4_length_2 : decode cX4_length 2 = .ok (.invokevirtual 144, 3) := by decide +kernel
theorem dX4_length_5 : decode cX4_length 5 = .ok (.aload_n 0, 1) := by decide +kernel
theorem dX4_length_6 : decode cX4_length 6 = .ok (.getfield 10, 3) := by decide +kernel
theorem dX4_length_9 : decode cX4_length 9 = .ok (.getfield 147, 3) := by decide +kernel
theorem dX4_length_12 : decode cX4_length 12 = .ok (.iload_n 1, 1) := by decide +kernel
theorem dX4_length_13 : decode cX4_length 13 = .ok (.iaload, 1) := by decide +kernel
theorem dX4_length_14 : decode cX4_length 14 = .ok (.ireturn, 1) := by decide +kernel
theorem dX4_isFree_0 : decode cX4_isFree 0 = .ok (.aload_n 0, 1) := by decide +kernel
theorem dX4_isFree_1 : decode cX4_isFree 1 = .ok (.iload_n 1, 1) := by decide +kernel
theorem dX4_isFree_2 : decode cX4_isFree 2 = .ok (.invokevirtual 144, 3) := by decide +kernel
theorem dX4_isFree_5 : decode cX4_isFree 5 = .ok (.aload_n 0, 1) := by decide +kernel
theorem dX4_isFree_6 : decode cX4_isFree 6 = .ok (.getfield 10, 3) := by decide +kernel
theorem dX4_isFree_9 : decode cX4_isFree 9 = .ok (.getfield 150, 3) := by decide +kernel
theorem dX4_isFree_12 : decode cX4_isFree 12 = .ok (.iload_n 1, 1) := by decide +kernel
theorem dX4_isFree_13 : decode cX4_isFree 13 = .ok (.iaload, 1) := by decide +kernel
theorem dX4_isFree_14 : decode cX4_isFree 14 = .ok (.iconst (-1), 1) := by decide +kernel
theorem dX4_isFree_15 : decode cX4_isFree 15 = .ok (.if_icmp .ne 7, 3) := by decide +kernel
theorem dX4_isFree_18 : decode cX4_isFree 18 = .ok (.iconst 1, 1) := by decide +kernel
theorem dX4_isFree_19 : decode cX4_isFree 19 = .ok (.goto 4, 3) := by decide +kernel
theorem dX4_isFree_22 : decode cX4_isFree 22 = .ok (.iconst 0, 1) := by decide +kernel
theorem dX4_isFree_23 : decode cX4_isFree 23 = .ok (.ireturn, 1) := by decide +kernel
theorem dX4_renterOf_0 : decode cX4_renterOf 0 = .ok (.aload_n 0, 1) := by decide +kernel
theorem dX4_renterOf_1 : decode cX4_renterOf 1 = .ok (.iload_n 1, 1) := by decide +kernel
theorem dX4_renterOf_2 : decode cX4_renterOf 2 = .ok (.invokevirtual 144, 3) := by decide +kernel
theorem dX4_renterOf_5 : decode cX4_renterOf 5 = .ok (.aload_n 0, 1) := by decide +kernel
theorem dX4_renterOf_6 : decode cX4_renterOf 6 = .ok (.getfield 10, 3) := by decide +kernel
theorem dX4_renterOf_9 : decode cX4_renterOf 9 = .ok (.getfield 150, 3) := by decide +kernel
theorem dX4_renterOf_12 : decode cX4_renterOf 12 = .ok (.iload_n 1, 1) := by decide +kernel
theorem dX4_renterOf_13 : decode cX4_renterOf 13 = .ok (.iaload, 1) := by decide +kernel
theorem dX4_renterOf_14 : decode cX4_renterOf 14 = .ok (.iconst (-1), 1) := by decide +kernel
theorem dX4_renterOf_15 : decode cX4_renterOf 15 = .ok (.if_icmp .ne 13, 3) := by decide +kernel
theorem dX4_renterOf_18 : decode cX4_renterOf 18 = .ok (.new 153, 3) := by decide +kernel
theorem dX4_renterOf_21 : decode cX4_renterOf 21 = .ok (.dup, 1) := by decide +kernel
theorem dX4_renterOf_22 : decode cX4_renterOf 22 = .ok (.ldc 155, 2) := by decide +kernel
theorem dX4_renterOf_24 : decode cX4_renterOf 24 = .ok (.invokespecial 157, 3) := by decide +kernel
theorem dX4_renterOf_27 : decode cX4_renterOf 27 = .ok (.athrow, 1) := by decide +kernel
theorem dX4_renterOf_28 : decode cX4_renterOf 28 = .ok (.aload_n 0, 1) := by decide +kernel
theorem dX4_renterOf_29 : decode cX4_renterOf 29 = .ok (.getfield 10, 3) := by decide +kernel
theorem dX4_renterOf_32 : decode cX4_renterOf 32 = .ok (.getfield 150, 3) := by decide +kernel
theorem dX4_renterOf_35 : decode cX4_renterOf 35 = .ok (.iload_n 1, 1) := by decide +kernel
theorem dX4_renterOf_36 : decode cX4_renterOf 36 = .ok (.iaload, 1) := by decide +kernel
theorem dX4_renterOf_37 : decode cX4_renterOf 37 = .ok (.ireturn, 1) := by decide +kernel
theorem dX4_shortestFreeTail_0 : decode cX4_shortestFreeTail 0 = .ok (.aload_n 0, 1) := by decide +kernel
theorem dX4_shortestFreeTail_1 : decode cX4_shortestFreeTail 1 = .ok (.getfield 10, 3) := by decide +kernel
theorem dX4_shortestFreeTail_4 : decode cX4_shortestFreeTail 4 = .ok (.invokevirtual 158, 3) := by decide +kernel
theorem dX4_shortestFreeTail_7 : decode cX4_shortestFreeTail 7 = .ok (.istore_n 1, 1) := by decide +kernel
theorem dX4_shortestFreeTail_8 : decode cX4_shortestFreeTail 8 = .ok (.iload_n 1, 1) := by decide +kernel
theorem dX4_shortestFreeTail_9 : decode cX4_shortestFreeTail 9 = .ok (.iconst (-1), 1) := by decide +kernel
theorem dX4_shortestFreeTail_10 : decode cX4_shortestFreeTail 10 = .ok (.if_icmp .ne 13, 3) := by decide +kernel
theorem dX4_shortestFreeTail_13 : decode cX4_shortestFreeTail 13 = .ok (.new 153, 3) := by decide +kernel
theorem dX4_shortestFreeTail_16 : decode cX4_shortestFreeTail 16 = .ok (.dup, 1) := by decide +kernel
theorem dX4_shortestFreeTail_17 : decode cX4_shortestFreeTail 17 = .ok (.ldc 162, 2) := by decide +kernel
theorem dX4_shortestFreeTail_19 : decode cX4_shortestFreeTail 19 = .ok (.invokespecial 157, 3) := by decide +kernel
theorem dX4_shortestFreeTail_22 : decode cX4_shortestFreeTail 22 = .ok (.athrow, 1) := by decide +kernel
theorem dX4_shortestFreeTail_23 : decode cX4_shortestFreeTail 23 = .ok (.iload_n 1, 1) := by decide +kernel
theorem dX4_shortestFreeTail_24 : decode cX4_shortestFreeTail 24 = .ok (.ireturn, 1) := by decide +kernel
theorem dX4_moveToRent_0 : decode cX4_moveToRent 0 = .ok (.aload_n 0, 1) := by decide +kernel
theorem dX4_moveToRent_1 : decode cX4_moveToRent 1 = .ok (.bipush 114, 2) := by decide +kernel
theorem dX4_moveToRent_3 : decode cX4_moveToRent 3 = .ok (.iload_n 1, 1) := by decide +kernel
theorem dX4_moveToRent_4 : decode cX4_moveToRent 4 = .ok (.iload_n 2, 1) := by decide +kernel
theorem dX4_moveToRent_5 : decode cX4_moveToRent 5 = .ok (.aload_n 0, 1) := by decide +kernel
theorem dX4_moveToRent_6 : decode cX4_moveToRent 6 = .ok (.getfield 10, 3) := by decide +kernel
theorem dX4_moveToRent_9 : decode cX4_moveToRent 9 = .ok (.iload_n 1, 1) := by decide +kernel
theorem dX4_moveToRent_10 : decode cX4_moveToRent 10 = .ok (.iload_n 2, 1) := by decide +kernel
theorem dX4_moveToRent_11 : decode cX4_moveToRent 11 = .ok (.invokevirtual 164, 3) := by decide +kernel
theorem dX4_moveToRent_14 : decode cX4_moveToRent 14 = .ok (.invokevirtual 167, 3) := by decide +kernel
theorem dX4_moveToRent_17 : decode cX4_moveToRent 17 = .ok (.ireturn, 1) := by decide +kernel
theorem dX4_moveToReturn_0 : decode cX4_moveToReturn 0 = .ok (.aload_n 0, 1) := by decide +kernel
theorem dX4_moveToReturn_1 : decode cX4_moveToReturn 1 = .ok (.bipush 116, 2) := by decide +kernel
theorem dX4_moveToReturn_3 : decode cX4_moveToReturn 3 = .ok (.iload_n 1, 1) := by decide +kernel
theorem dX4_moveToReturn_4 : decode cX4_moveToReturn 4 = .ok (.iload_n 2, 1) := by decide +kernel
theorem dX4_moveToReturn_5 : decode cX4_moveToReturn 5 = .ok (.aload_n 0, 1) := by decide +kernel
theorem dX4_moveToReturn_6 : decode cX4_moveToReturn 6 = .ok (.getfield 10, 3) := by decide +kernel
theorem dX4_moveToReturn_9 : decode cX4_moveToReturn 9 = .ok (.iload_n 1, 1) := by decide +kernel
theorem dX4_moveToReturn_10 : decode cX4_moveToReturn 10 = .ok (.iload_n 2, 1) := by decide +kernel
theorem dX4_moveToReturn_11 : decode cX4_moveToReturn 11 = .ok (.invokevirtual 164, 3) := by decide +kernel
theorem dX4_moveToReturn_14 : decode cX4_moveToReturn 14 = .ok (.invokevirtual 167, 3) := by decide +kernel
theorem dX4_moveToReturn_17 : decode cX4_moveToReturn 17 = .ok (.ireturn, 1) := by decide +kernel
theorem dX4_moveToGround_0 : decode cX4_moveToGround 0 = .ok (.aload_n 0, 1) := by decide +kernel
theorem dX4_moveToGround_1 : decode cX4_moveToGround 1 = .ok (.bipush 103, 2) := by decide +kernel
theorem dX4_moveToGround_3 : decode cX4_moveToGround 3 = .ok (.iload_n 1, 1) := by decide +kernel
theorem dX4_moveToGround_4 : decode cX4_moveToGround 4 = .ok (.iload_n 2, 1) := by decide +kernel
theorem dX4_moveToGround_5 : decode cX4_moveToGround 5 = .ok (.aload_n 0, 1) := by decide +kernel
theorem dX4_moveToGround_6 : decode cX4_moveToGround 6 = .ok (.getfield 10, 3) := by decide +kernel
theorem dX4_moveToGround_9 : decode cX4_moveToGround 9 = .ok (.iload_n 1, 1) := by decide +kernel
theorem dX4_moveToGround_10 : decode cX4_moveToGround 10 = .ok (.iload_n 2, 1) := by decide +kernel
theorem dX4_moveToGround_11 : decode cX4_moveToGround 11 = .ok (.invokevirtual 171, 3) := by decide +kernel
theorem dX4_moveToGround_14 : decode cX4_moveToGround 14 = .ok (.invokevirtual 167, 3) := by decide +kernel
theorem dX4_moveToGround_17 : decode cX4_moveToGround 17 = .ok (.ireturn, 1) := by decide +kernel
theorem dX4_second_0 : decode cX4_second 0 = .ok (.aload_n 0, 1) := by decide +kernel
theorem dX4_second_1 : decode cX4_second 1 = .ok (.getfield 10, 3) := by decide +kernel
theorem dX4_second_4 : decode cX4_second 4 = .ok (.iload_n 1, 1) := by decide +kernel
theorem dX4_second_5 : decode cX4_second 5 = .ok (.iload_n 2, 1) := by decide +kernel
theorem dX4_second_6 : decode cX4_second 6 = .ok (.invokevirtual 174, 3) := by decide +kernel
theorem dX4_second_9 : decode cX4_second 9 = .ok (.istore_n 3, 1) := by decide +kernel
theorem dX4_second_10 : decode cX4_second 10 = .ok (.iload_n 3, 1) := by decide +kernel
theorem dX4_second_11 : decode cX4_second 11 = .ok (.iconst 1, 1) := by decide +kernel
theorem dX4_second_12 : decode cX4_second 12 = .ok (.if_icmp .ne 13, 3) := by decide +kernel
theorem dX4_second_15 : decode cX4_second 15 = .ok (.new 94, 3) := by decide +kernel
theorem dX4_second_18 : decode cX4_second 18 = .ok (.dup, 1) := by decide +kernel
theorem dX4_second_19 : decode cX4_second 19 = .ok (.ldc 96, 2) := by decide +kernel
theorem dX4_second_21 : decode cX4_second 21 = .ok (.invokespecial 98, 3) := by decide +kernel
theorem dX4_second_24 : decode cX4_second 24 = .ok (.athrow, 1) := by decide +kernel
theorem dX4_second_25 : decode cX4_second 25 = .ok (.iload_n 3, 1) := by decide +kernel
theorem dX4_second_26 : decode cX4_second 26 = .ok (.iconst 2, 1) := by decide +kernel
theorem dX4_second_27 : decode cX4_second 27 = .ok (.if_icmp .ne 13, 3) := by decide +kernel
theorem dX4_second_30 : decode cX4_second 30 = .ok (.new 153, 3) := by decide +kernel
theorem dX4_second_33 : decode cX4_second 33 = .ok (.dup, 1) := by decide +kernel
theorem dX4_second_34 : decode cX4_second 34 = .ok (.ldc 177, 2) := by decide +kernel
theorem dX4_second_36 : decode cX4_second 36 = .ok (.invokespecial 157, 3) := by decide +kernel
theorem dX4_second_39 : decode cX4_second 39 = .ok (.athrow, 1) := by decide +kernel
theorem dX4_second_40 : decode cX4_second 40 = .ok (.iload_n 3, 1) := by decide +kernel
theorem dX4_second_41 : decode cX4_second 41 = .ok (.iconst 3, 1) := by decide +kernel
theorem dX4_second_42 : decode cX4_second 42 = .ok (.if_icmp .ne 13, 3) := by decide +kernel
theorem dX4_second_45 : decode cX4_second 45 = .ok (.new 61, 3) := by decide +kernel
theorem dX4_second_48 : decode cX4_second 48 = .ok (.dup, 1) := by decide +kernel
theorem dX4_second_49 : decode cX4_second 49 = .ok (.ldc 179, 2) := by decide +kernel
theorem dX4_second_51 : decode cX4_second 51 = .ok (.invokespecial 65, 3) := by decide +kernel
theorem dX4_second_54 : decode cX4_second 54 = .ok (.athrow, 1) := by decide +kernel
theorem dX4_second_55 : decode cX4_second 55 = .ok (.iload_n 3, 1) := by decide +kernel
theorem dX4_second_56 : decode cX4_second 56 = .ok (.iconst 4, 1) := by decide +kernel
theorem dX4_second_57 : decode cX4_second 57 = .ok (.if_icmp .ne 13, 3) := by decide +kernel
theorem dX4_second_60 : decode cX4_second 60 = .ok (.new 68, 3) := by decide +kernel
theorem dX4_second_63 : decode cX4_second 63 = .ok (.dup, 1) := by decide +kernel
theorem dX4_second_64 : decode cX4_second 64 = .ok (.ldc 181, 2) := by decide +kernel
theorem dX4_second_66 : decode cX4_second 66 = .ok (.invokespecial 72, 3) := by decide +kernel
theorem dX4_second_69 : decode cX4_second 69 = .ok (.athrow, 1) := by decide +kernel
theorem dX4_second_70 : decode cX4_second 70 = .ok (.aload_n 0, 1) := by decide +kernel
theorem dX4_second_71 : decode cX4_second 71 = .ok (.getfield 29, 3) := by decide +kernel
theorem dX4_second_74 : decode cX4_second 74 = .ok (.aload_n 0, 1) := by decide +kernel
theorem dX4_second_75 : decode cX4_second 75 = .ok (.getfield 10, 3) := by decide +kernel
theorem dX4_second_78 : decode cX4_second 78 = .ok (.invokevirtual 73, 3) := by decide +kernel
theorem dX4_second_81 : decode cX4_second 81 = .ok (.aload_n 0, 1) := by decide +kernel
theorem dX4_second_82 : decode cX4_second 82 = .ok (.getfield 10, 3) := by decide +kernel
theorem dX4_second_85 : decode cX4_second 85 = .ok (.iload_n 1, 1) := by decide +kernel
theorem dX4_second_86 : decode cX4_second 86 = .ok (.iload_n 2, 1) := by decide +kernel
theorem dX4_second_87 : decode cX4_second 87 = .ok (.invokevirtual 183, 3) := by decide +kernel
theorem dX4_second_90 : decode cX4_second 90 = .ok (.ireturn, 1) := by decide +kernel
theorem dX4_untable_0 : decode cX4_untable 0 = .ok (.aload_n 0, 1) := by decide +kernel
theorem dX4_untable_1 : decode cX4_untable 1 = .ok (.getfield 10, 3) := by decide +kernel
theorem dX4_untable_4 : decode cX4_untable 4 = .ok (.iload_n 1, 1) := by decide +kernel
theorem dX4_untable_5 : decode cX4_untable 5 = .ok (.invokevirtual 186, 3) := by decide +kernel
theorem dX4_untable_8 : decode cX4_untable 8 = .ok (.istore_n 2, 1) := by decide +kernel
theorem dX4_untable_9 : decode cX4_untable 9 = .ok (.iload_n 2, 1) := by decide +kernel
theorem dX4_untable_10 : decode cX4_untable 10 = .ok (.iconst 1, 1) := by decide +kernel
theorem dX4_untable_11 : decode cX4_untable 11 = .ok (.if_icmp .ne 13, 3) := by decide +kernel
theorem dX4_untable_14 : decode cX4_untable 14 = .ok (.new 153, 3) := by decide +kernel
theorem dX4_untable_17 : decode cX4_untable 17 = .ok (.dup, 1) := by decide +kernel
theorem dX4_untable_18 : decode cX4_untable 18 = .ok (.ldc 177, 2) := by decide +kernel
theorem dX4_untable_20 : decode cX4_untable 20 = .ok (.invokespecial 157, 3) := by decide +kernel
theorem dX4_untable_23 : decode cX4_untable 23 = .ok (.athrow, 1) := by decide +kernel
theorem dX4_untable_24 : decode cX4_untable 24 = .ok (.iload_n 2, 1) := by decide +kernel
theorem dX4_untable_25 : decode cX4_untable 25 = .ok (.iconst 2, 1) := by decide +kernel
theorem dX4_untable_26 : decode cX4_untable 26 = .ok (.if_icmp .ne 13, 3) := by decide +kernel
theorem dX4_untable_29 : decode cX4_untable 29 = .ok (.new 68, 3) := by decide +kernel
theorem dX4_untable_32 : decode cX4_untable 32 = .ok (.dup, 1) := by decide +kernel
theorem dX4_untable_33 : decode cX4_untable 33 = .ok (.ldc 189, 2) := by decide +kernel
theorem dX4_untable_35 : decode cX4_untable 35 = .ok (.invokespecial 72, 3) := by decide +kernel
theorem dX4_untable_38 : decode cX4_untable 38 = .ok (.athrow, 1) := by decide +kernel
theorem dX4_untable_39 : decode cX4_untable 39 = .ok (.aload_n 0, 1) := by decide +kernel
theorem dX4_untable_40 : decode cX4_untable 40 = .ok (.getfield 29, 3) := by decide +kernel
theorem dX4_untable_43 : decode cX4_untable 43 = .ok (.aload_n 0, 1) := by decide +kernel
theorem dX4_untable_44 : decode cX4_untable 44 = .ok (.getfield 10, 3) := by decide +kernel
theorem dX4_untable_47 : decode cX4_untable 47 = .ok (.invokevirtual 73, 3) := by decide +kernel
theorem dX4_untable_50 : decode cX4_untable 50 = .ok (.aload_n 0, 1) := by decide +kernel
theorem dX4_untable_51 : decode cX4_untable 51 = .ok (.getfield 10, 3) := by decide +kernel
theorem dX4_untable_54 : decode cX4_untable 54 = .ok (.iload_n 1, 1) := by decide +kernel
theorem dX4_untable_55 : decode cX4_untable 55 = .ok (.invokevirtual 191, 3) := by decide +kernel
theorem dX4_untable_58 : decode cX4_untable 58 = .ok (.ireturn, 1) := by decide +kernel
theorem dX4_withdraw_0 : decode cX4_withdraw 0 = .ok (.aload_n 0, 1) := by decide +kernel
theorem dX4_withdraw_1 : decode cX4_withdraw 1 = .ok (.getfield 10, 3) := by decide +kernel
theorem dX4_withdraw_4 : decode cX4_withdraw 4 = .ok (.iload_n 1, 1) := by decide +kernel
theorem dX4_withdraw_5 : decode cX4_withdraw 5 = .ok (.invokevirtual 194, 3) := by decide +kernel
theorem dX4_withdraw_8 : decode cX4_withdraw 8 = .ok (.iconst 1, 1) := by decide +kernel
theorem dX4_withdraw_9 : decode cX4_withdraw 9 = .ok (.if_icmp .ne 13, 3) := by decide +kernel
theorem dX4_withdraw_12 : decode cX4_withdraw 12 = .ok (.new 153, 3) := by decide +kernel
theorem dX4_withdraw_15 : decode cX4_withdraw 15 = .ok (.dup, 1) := by decide +kernel
theorem dX4_withdraw_16 : decode cX4_withdraw 16 = .ok (.ldc 177, 2) := by decide +kernel
theorem dX4_withdraw_18 : decode cX4_withdraw 18 = .ok (.invokespecial 157, 3) := by decide +kernel
theorem dX4_withdraw_21 : decode cX4_withdraw 21 = .ok (.athrow, 1) := by decide +kernel
theorem dX4_withdraw_22 : decode cX4_withdraw 22 = .ok (.aload_n 0, 1) := by decide +kernel
theorem dX4_withdraw_23 : decode cX4_withdraw 23 = .ok (.getfield 29, 3) := by decide +kernel
theorem dX4_withdraw_26 : decode cX4_withdraw 26 = .ok (.aload_n 0, 1) := by decide +kernel
theorem dX4_withdraw_27 : decode cX4_withdraw 27 = .ok (.getfield 10, 3) := by decide +kernel
theorem dX4_withdraw_30 : decode cX4_withdraw 30 = .ok (.invokevirtual 73, 3) := by decide +kernel
theorem dX4_withdraw_33 : decode cX4_withdraw 33 = .ok (.aload_n 0, 1) := by decide +kernel
theorem dX4_withdraw_34 : decode cX4_withdraw 34 = .ok (.getfield 10, 3) := by decide +kernel
theorem dX4_withdraw_37 : decode cX4_withdraw 37 = .ok (.iload_n 1, 1) := by decide +kernel
theorem dX4_withdraw_38 : decode cX4_withdraw 38 = .ok (.invokevirtual 197, 3) := by decide +kernel
theorem dX4_withdraw_41 : decode cX4_withdraw 41 = .ok (.ireturn, 1) := by decide +kernel
theorem dX4_vote_0 : decode cX4_vote 0 = .ok (.aload_n 0, 1) := by decide +kernel
theorem dX4_vote_1 : decode cX4_vote 1 = .ok (.getfield 10, 3) := by decide +kernel
theorem dX4_vote_4 : decode cX4_vote 4 = .ok (.iload_n 1, 1) := by decide +kernel
theorem dX4_vote_5 : decode cX4_vote 5 = .ok (.invokevirtual 200, 3) := by decide +kernel
theorem dX4_vote_8 : decode cX4_vote 8 = .ok (.istore_n 2, 1) := by decide +kernel
theorem dX4_vote_9 : decode cX4_vote 9 = .ok (.iload_n 2, 1) := by decide +kernel
theorem dX4_vote_10 : decode cX4_vote 10 = .ok (.iconst 1, 1) := by decide +kernel
theorem dX4_vote_11 : decode cX4_vote 11 = .ok (.if_icmp .ne 13, 3) := by decide +kernel
theorem dX4_vote_14 : decode cX4_vote 14 = .ok (.new 153, 3) := by decide +kernel
theorem dX4_vote_17 : decode cX4_vote 17 = .ok (.dup, 1) := by decide +kernel
theorem dX4_vote_18 : decode cX4_vote 18 = .ok (.ldc 177, 2) := by decide +kernel
theorem dX4_vote_20 : decode cX4_vote 20 = .ok (.invokespecial 157, 3) := by decide +kernel
theorem dX4_vote_23 : decode cX4_vote 23 = .ok (.athrow, 1) := by decide +kernel
theorem dX4_vote_24 : decode cX4_vote 24 = .ok (.iload_n 2, 1) := by decide +kernel
theorem dX4_vote_25 : decode cX4_vote 25 = .ok (.iconst 2, 1) := by decide +kernel
theorem dX4_vote_26 : decode cX4_vote 26 = .ok (.if_icmp .ne 13, 3) := by decide +kernel
theorem dX4_vote_29 : decode cX4_vote 29 = .ok (.new 68, 3) := by decide +kernel
theorem dX4_vote_32 : decode cX4_vote 32 = .ok (.dup, 1) := by decide +kernel
theorem dX4_vote_33 : decode cX4_vote 33 = .ok (.ldc 203, 2) := by decide +kernel
theorem dX4_vote_35 : decode cX4_vote 35 = .ok (.invokespecial 72, 3) := by decide +kernel
theorem dX4_vote_38 : decode cX4_vote 38 = .ok (.athrow, 1) := by decide +kernel
theorem dX4_vote_39 : decode cX4_vote 39 = .ok (.aload_n 0, 1) := by decide +kernel
theorem dX4_vote_40 : decode cX4_vote 40 = .ok (.getfield 29, 3) := by decide +kernel
theorem dX4_vote_43 : decode cX4_vote 43 = .ok (.aload_n 0, 1) := by decide +kernel
theorem dX4_vote_44 : decode cX4_vote 44 = .ok (.getfield 10, 3) := by decide +kernel
theorem dX4_vote_47 : decode cX4_vote 47 = .ok (.invokevirtual 73, 3) := by decide +kernel
theorem dX4_vote_50 : decode cX4_vote 50 = .ok (.aload_n 0, 1) := by decide +kernel
theorem dX4_vote_51 : decode cX4_vote 51 = .ok (.getfield 10, 3) := by decide +kernel
theorem dX4_vote_54 : decode cX4_vote 54 = .ok (.iload_n 1, 1) := by decide +kernel
theorem dX4_vote_55 : decode cX4_vote 55 = .ok (.invokevirtual 205, 3) := by decide +kernel
theorem dX4_vote_58 : decode cX4_vote 58 = .ok (.ireturn, 1) := by decide +kernel
theorem dX4_openMotions_0 : decode cX4_openMotions 0 = .ok (.aload_n 0, 1) := by decide +kernel
theorem dX4_openMotions_1 : decode cX4_openMotions 1 = .ok (.getfield 10, 3) := by decide +kernel
theorem dX4_openMotions_4 : decode cX4_openMotions 4 = .ok (.getfield 209, 3) := by decide +kernel
theorem dX4_openMotions_7 : decode cX4_openMotions 7 = .ok (.getfield 213, 3) := by decide +kernel
theorem dX4_openMotions_10 : decode cX4_openMotions 10 = .ok (.ireturn, 1) := by decide +kernel
theorem dX4_motionAt_0 : decode cX4_motionAt 0 = .ok (.iload_n 1, 1) := by decide +kernel
theorem dX4_motionAt_1 : decode cX4_motionAt 1 = .ok (.ifCond .lt 17, 3) := by decide +kernel
theorem dX4_motionAt_4 : decode cX4_motionAt 4 = .ok (.iload_n 1, 1) := by decide +kernel
theorem dX4_motionAt_5 : decode cX4_motionAt 5 = .ok (.aload_n 0, 1) := by decide +kernel
theorem dX4_motionAt_6 : decode cX4_motionAt 6 = .ok (.getfield 10, 3) := by decide +kernel
theorem dX4_motionAt_9 : decode cX4_motionAt 9 = .ok (.getfield 209, 3) := by decide +kernel
theorem dX4_motionAt_12 : decode cX4_motionAt 12 = .ok (.getfield 213, 3) := by decide +kernel
theorem dX4_motionAt_15 : decode cX4_motionAt 15 = .ok (.if_icmp .lt 13, 3) := by decide +kernel
theorem dX4_motionAt_18 : decode cX4_motionAt 18 = .ok (.new 94, 3) := by decide +kernel
theorem dX4_motionAt_21 : decode cX4_motionAt 21 = .ok (.dup, 1) := by decide +kernel
theorem dX4_motionAt_22 : decode cX4_motionAt 22 = .ok (.ldc 218, 2) := by decide +kernel
theorem dX4_motionAt_24 : decode cX4_motionAt 24 = .ok (.invokespecial 98, 3) := by decide +kernel
theorem dX4_motionAt_27 : decode cX4_motionAt 27 = .ok (.athrow, 1) := by decide +kernel
theorem dX4_motionAt_28 : decode cX4_motionAt 28 = .ok (.aload_n 0, 1) := by decide +kernel
theorem dX4_motionAt_29 : decode cX4_motionAt 29 = .ok (.getfield 10, 3) := by decide +kernel
theorem dX4_motionAt_32 : decode cX4_motionAt 32 = .ok (.getfield 209, 3) := by decide +kernel
theorem dX4_motionAt_35 : decode cX4_motionAt 35 = .ok (.getfield 220, 3) := by decide +kernel
theorem dX4_motionAt_38 : decode cX4_motionAt 38 = .ok (.iload_n 1, 1) := by decide +kernel
theorem dX4_motionAt_39 : decode cX4_motionAt 39 = .ok (.iaload, 1) := by decide +kernel
theorem dX4_motionAt_40 : decode cX4_motionAt 40 = .ok (.ireturn, 1) := by decide +kernel
theorem dX4_moverOf_0 : decode cX4_moverOf 0 = .ok (.aload_n 0, 1) := by decide +kernel
theorem dX4_moverOf_1 : decode cX4_moverOf 1 = .ok (.iload_n 1, 1) := by decide +kernel
theorem dX4_moverOf_2 : decode cX4_moverOf 2 = .ok (.invokevirtual 223, 3) := by decide +kernel
theorem dX4_moverOf_5 : decode cX4_moverOf 5 = .ok (.istore_n 2, 1) := by decide +kernel
theorem dX4_moverOf_6 : decode cX4_moverOf 6 = .ok (.aload_n 0, 1) := by decide +kernel
theorem dX4_moverOf_7 : decode cX4_moverOf 7 = .ok (.getfield 10, 3) := by decide +kernel
theorem dX4_moverOf_10 : decode cX4_moverOf 10 = .ok (.getfield 209, 3) := by decide +kernel
theorem dX4_moverOf_13 : decode cX4_moverOf 13 = .ok (.getfield 226, 3) := by decide +kernel
theorem dX4_moverOf_16 : decode cX4_moverOf 16 = .ok (.iload_n 2, 1) := by decide +kernel
theorem dX4_moverOf_17 : decode cX4_moverOf 17 = .ok (.iaload, 1) := by decide +kernel
theorem dX4_moverOf_18 : decode cX4_moverOf 18 = .ok (.ireturn, 1) := by decide +kernel
theorem dX4_isSeconded_0 : decode cX4_isSeconded 0 = .ok (.aload_n 0, 1) := by decide +kernel
theorem dX4_isSeconded_1 : decode cX4_isSeconded 1 = .ok (.iload_n 1, 1) := by decide +kernel
theorem dX4_isSeconded_2 : decode cX4_isSeconded 2 = .ok (.invokevirtual 223, 3) := by decide +kernel
theorem dX4_isSeconded_5 : decode cX4_isSeconded 5 = .ok (.istore_n 2, 1) := by decide +kernel
theorem dX4_isSeconded_6 : decode cX4_isSeconded 6 = .ok (.aload_n 0, 1) := by decide +kernel
theorem dX4_isSeconded_7 : decode cX4_isSeconded 7 = .ok (.getfield 10, 3) := by decide +kernel
theorem dX4_isSeconded_10 : decode cX4_isSeconded 10 = .ok (.getfield 209, 3) := by decide +kernel
theorem dX4_isSeconded_13 : decode cX4_isSeconded 13 = .ok (.getfield 229, 3) := by decide +kernel
theorem dX4_isSeconded_16 : decode cX4_isSeconded 16 = .ok (.iload_n 2, 1) := by decide +kernel
theorem dX4_isSeconded_17 : decode cX4_isSeconded 17 = .ok (.iaload, 1) := by decide +kernel
theorem dX4_isSeconded_18 : decode cX4_isSeconded 18 = .ok (.iconst (-1), 1) := by decide +kernel
theorem dX4_isSeconded_19 : decode cX4_isSeconded 19 = .ok (.if_icmp .eq 7, 3) := by decide +kernel
theorem dX4_isSeconded_22 : decode cX4_isSeconded 22 = .ok (.iconst 1, 1) := by decide +kernel
theorem dX4_isSeconded_23 : decode cX4_isSeconded 23 = .ok (.goto 4, 3) := by decide +kernel
theorem dX4_isSeconded_26 : decode cX4_isSeconded 26 = .ok (.iconst 0, 1) := by decide +kernel
theorem dX4_isSeconded_27 : decode cX4_isSeconded 27 = .ok (.ireturn, 1) := by decide +kernel
theorem dX4_seconderOf_0 : decode cX4_seconderOf 0 = .ok (.aload_n 0, 1) := by decide +kernel
theorem dX4_seconderOf_1 : decode cX4_seconderOf 1 = .ok (.iload_n 1, 1) := by decide +kernel
theorem dX4_seconderOf_2 : decode cX4_seconderOf 2 = .ok (.invokevirtual 223, 3) := by decide +kernel
theorem dX4_seconderOf_5 : decode cX4_seconderOf 5 = .ok (.istore_n 2, 1) := by decide +kernel
theorem dX4_seconderOf_6 : decode cX4_seconderOf 6 = .ok (.aload_n 0, 1) := by decide +kernel
theorem dX4_seconderOf_7 : decode cX4_seconderOf 7 = .ok (.getfield 10, 3) := by decide +kernel
theorem dX4_seconderOf_10 : decode cX4_seconderOf 10 = .ok (.getfield 209, 3) := by decide +kernel
theorem dX4_seconderOf_13 : decode cX4_seconderOf 13 = .ok (.getfield 229, 3) := by decide +kernel
theorem dX4_seconderOf_16 : decode cX4_seconderOf 16 = .ok (.iload_n 2, 1) := by decide +kernel
theorem dX4_seconderOf_17 : decode cX4_seconderOf 17 = .ok (.iaload, 1) := by decide +kernel
theorem dX4_seconderOf_18 : decode cX4_seconderOf 18 = .ok (.iconst (-1), 1) := by decide +kernel
theorem dX4_seconderOf_19 : decode cX4_seconderOf 19 = .ok (.if_icmp .ne 13, 3) := by decide +kernel
theorem dX4_seconderOf_22 : decode cX4_seconderOf 22 = .ok (.new 68, 3) := by decide +kernel
theorem dX4_seconderOf_25 : decode cX4_seconderOf 25 = .ok (.dup, 1) := by decide +kernel
theorem dX4_seconderOf_26 : decode cX4_seconderOf 26 = .ok (.ldc 232, 2) := by decide +kernel
theorem dX4_seconderOf_28 : decode cX4_seconderOf 28 = .ok (.invokespecial 72, 3) := by decide +kernel
theorem dX4_seconderOf_31 : decode cX4_seconderOf 31 = .ok (.athrow, 1) := by decide +kernel
theorem dX4_seconderOf_32 : decode cX4_seconderOf 32 = .ok (.aload_n 0, 1) := by decide +kernel
theorem dX4_seconderOf_33 : decode cX4_seconderOf 33 = .ok (.getfield 10, 3) := by decide +kernel
theorem dX4_seconderOf_36 : decode cX4_seconderOf 36 = .ok (.getfield 209, 3) := by decide +kernel
theorem dX4_seconderOf_39 : decode cX4_seconderOf 39 = .ok (.getfield 229, 3) := by decide +kernel
theorem dX4_seconderOf_42 : decode cX4_seconderOf 42 = .ok (.iload_n 2, 1) := by decide +kernel
theorem dX4_seconderOf_43 : decode cX4_seconderOf 43 = .ok (.iaload, 1) := by decide +kernel
theorem dX4_seconderOf_44 : decode cX4_seconderOf 44 = .ok (.ireturn, 1) := by decide +kernel
theorem dX4_isTabled_0 : decode cX4_isTabled 0 = .ok (.aload_n 0, 1) := by decide +kernel
theorem dX4_isTabled_1 : decode cX4_isTabled 1 = .ok (.iload_n 1, 1) := by decide +kernel
theorem dX4_isTabled_2 : decode cX4_isTabled 2 = .ok (.invokevirtual 223, 3) := by decide +kernel
theorem dX4_isTabled_5 : decode cX4_isTabled 5 = .ok (.istore_n 2, 1) := by decide +kernel
theorem dX4_isTabled_6 : decode cX4_isTabled 6 = .ok (.aload_n 0, 1) := by decide +kernel
theorem dX4_isTabled_7 : decode cX4_isTabled 7 = .ok (.getfield 10, 3) := by decide +kernel
theorem dX4_isTabled_10 : decode cX4_isTabled 10 = .ok (.getfield 209, 3) := by decide +kernel
theorem dX4_isTabled_13 : decode cX4_isTabled 13 = .ok (.getfield 234, 3) := by decide +kernel
theorem dX4_isTabled_16 : decode cX4_isTabled 16 = .ok (.iload_n 2, 1) := by decide +kernel
theorem dX4_isTabled_17 : decode cX4_isTabled 17 = .ok (.baload, 1) := by decide +kernel
theorem dX4_isTabled_18 : decode cX4_isTabled 18 = .ok (.ireturn, 1) := by decide +kernel
theorem dX4_votesFor_0 : decode cX4_votesFor 0 = .ok (.aload_n 0, 1) := by decide +kernel
theorem dX4_votesFor_1 : decode cX4_votesFor 1 = .ok (.iload_n 1, 1) := by decide +kernel
theorem dX4_votesFor_2 : decode cX4_votesFor 2 = .ok (.invokevirtual 223, 3) := by decide +kernel
theorem dX4_votesFor_5 : decode cX4_votesFor 5 = .ok (.istore_n 2, 1) := by decide +kernel
theorem dX4_votesFor_6 : decode cX4_votesFor 6 = .ok (.aload_n 0, 1) := by decide +kernel
theorem dX4_votesFor_7 : decode cX4_votesFor 7 = .ok (.getfield 10, 3) := by decide +kernel
theorem dX4_votesFor_10 : decode cX4_votesFor 10 = .ok (.iload_n 2, 1) := by decide +kernel
theorem dX4_votesFor_11 : decode cX4_votesFor 11 = .ok (.invokevirtual 237, 3) := by decide +kernel
theorem dX4_votesFor_14 : decode cX4_votesFor 14 = .ok (.ireturn, 1) := by decide +kernel
theorem dX4_votesForByMember_0 : decode cX4_votesForByMember 0 = .ok (.aload_n 0, 1) := by decide +kernel
theorem dX4_votesForByMember_1 : decode cX4_votesForByMember 1 = .ok (.iload_n 1, 1) := by decide +kernel
theorem dX4_votesForByMember_2 : decode cX4_votesForByMember 2 = .ok (.invokevirtual 223, 3) := by decide +kernel
theorem dX4_votesForByMember_5 : decode cX4_votesForByMember 5 = .ok (.istore_n 2, 1) := by decide +kernel
theorem dX4_votesForByMember_6 : decode cX4_votesForByMember 6 = .ok (.aload_n 0, 1) := by decide +kernel
theorem dX4_votesForByMember_7 : decode cX4_votesForByMember 7 = .ok (.getfield 10, 3) := by decide +kernel
theorem dX4_votesForByMember_10 : decode cX4_votesForByMember 10 = .ok (.iload_n 2, 1) := by decide +kernel
theorem dX4_votesForByMember_11 : decode cX4_votesForByMember 11 = .ok (.invokevirtual 240, 3) := by decide +kernel
theorem dX4_votesForByMember_14 : decode cX4_votesForByMember 14 = .ok (.ireturn, 1) := by decide +kernel
theorem dX4_votesAgainst_0 : decode cX4_votesAgainst 0 = .ok (.aload_n 0, 1) := by decide +kernel
theorem dX4_votesAgainst_1 : decode cX4_votesAgainst 1 = .ok (.iload_n 1, 1) := by decide +kernel
theorem dX4_votesAgainst_2 : decode cX4_votesAgainst 2 = .ok (.invokevirtual 223, 3) := by decide +kernel
theorem dX4_votesAgainst_5 : decode cX4_votesAgainst 5 = .ok (.istore_n 2, 1) := by decide +kernel
theorem dX4_votesAgainst_6 : decode cX4_votesAgainst 6 = .ok (.aload_n 0, 1) := by decide +kernel
theorem dX4_votesAgainst_7 : decode cX4_votesAgainst 7 = .ok (.getfield 10, 3) := by decide +kernel
theorem dX4_votesAgainst_10 : decode cX4_votesAgainst 10 = .ok (.iload_n 2, 1) := by decide +kernel
theorem dX4_votesAgainst_11 : decode cX4_votesAgainst 11 = .ok (.invokevirtual 243, 3) := by decide +kernel
theorem dX4_votesAgainst_14 : decode cX4_votesAgainst 14 = .ok (.ireturn, 1) := by decide +kernel
theorem dX4_gust_0 : decode cX4_gust 0 = .ok (.aload_n 0, 1) := by decide +kernel
theorem dX4_gust_1 : decode cX4_gust 1 = .ok (.getfield 10, 3) := by decide +kernel
theorem dX4_gust_4 : decode cX4_gust 4 = .ok (.iload_n 1, 1) := by decide +kernel
theorem dX4_gust_5 : decode cX4_gust 5 = .ok (.invokevirtual 246, 3) := by decide +kernel
theorem dX4_gust_8 : decode cX4_gust 8 = .ok (.iconst 1, 1) := by decide +kernel
theorem dX4_gust_9 : decode cX4_gust 9 = .ok (.if_icmp .ne 13, 3) := by decide +kernel
theorem dX4_gust_12 : decode cX4_gust 12 = .ok (.new 61, 3) := by decide +kernel
theorem dX4_gust_15 : decode cX4_gust 15 = .ok (.dup, 1) := by decide +kernel
theorem dX4_gust_16 : decode cX4_gust 16 = .ok (.ldc 249, 2) := by decide +kernel
theorem dX4_gust_18 : decode cX4_gust 18 = .ok (.invokespecial 65, 3) := by decide +kernel
theorem dX4_gust_21 : decode cX4_gust 21 = .ok (.athrow, 1) := by decide +kernel
theorem dX4_gust_22 : decode cX4_gust 22 = .ok (.aload_n 0, 1) := by decide +kernel
theorem dX4_gust_23 : decode cX4_gust 23 = .ok (.getfield 29, 3) := by decide +kernel
theorem dX4_gust_26 : decode cX4_gust 26 = .ok (.aload_n 0, 1) := by decide +kernel
theorem dX4_gust_27 : decode cX4_gust 27 = .ok (.getfield 10, 3) := by decide +kernel
theorem dX4_gust_30 : decode cX4_gust 30 = .ok (.invokevirtual 73, 3) := by decide +kernel
theorem dX4_gust_33 : decode cX4_gust 33 = .ok (.aload_n 0, 1) := by decide +kernel
theorem dX4_gust_34 : decode cX4_gust 34 = .ok (.getfield 10, 3) := by decide +kernel
theorem dX4_gust_37 : decode cX4_gust 37 = .ok (.iload_n 1, 1) := by decide +kernel
theorem dX4_gust_38 : decode cX4_gust 38 = .ok (.invokevirtual 251, 3) := by decide +kernel
theorem dX4_gust_41 : decode cX4_gust 41 = .ok (.ireturn, 1) := by decide +kernel
theorem dX4_pass_0 : decode cX4_pass 0 = .ok (.aload_n 0, 1) := by decide +kernel
theorem dX4_pass_1 : decode cX4_pass 1 = .ok (.getfield 10, 3) := by decide +kernel
theorem dX4_pass_4 : decode cX4_pass 4 = .ok (.iload_n 1, 1) := by decide +kernel
theorem dX4_pass_5 : decode cX4_pass 5 = .ok (.invokevirtual 254, 3) := by decide +kernel
theorem dX4_pass_8 : decode cX4_pass 8 = .ok (.iconst 1, 1) := by decide +kernel
theorem dX4_pass_9 : decode cX4_pass 9 = .ok (.if_icmp .ne 14, 3) := by decide +kernel
theorem dX4_pass_12 : decode cX4_pass 12 = .ok (.new 61, 3) := by decide +kernel
theorem dX4_pass_15 : decode cX4_pass 15 = .ok (.dup, 1) := by decide +kernel
theorem dX4_pass_16 : decode cX4_pass 16 = .ok (.ldc_w 257, 3) := by decide +kernel
theorem dX4_pass_19 : decode cX4_pass 19 = .ok (.invokespecial 65, 3) := by decide +kernel
theorem dX4_pass_22 : decode cX4_pass 22 = .ok (.athrow, 1) := by decide +kernel
theorem dX4_pass_23 : decode cX4_pass 23 = .ok (.aload_n 0, 1) := by decide +kernel
theorem dX4_pass_24 : decode cX4_pass 24 = .ok (.getfield 29, 3) := by decide +kernel
theorem dX4_pass_27 : decode cX4_pass 27 = .ok (.aload_n 0, 1) := by decide +kernel
theorem dX4_pass_28 : decode cX4_pass 28 = .ok (.getfield 10, 3) := by decide +kernel
theorem dX4_pass_31 : decode cX4_pass 31 = .ok (.invokevirtual 73, 3) := by decide +kernel
theorem dX4_pass_34 : decode cX4_pass 34 = .ok (.aload_n 0, 1) := by decide +kernel
theorem dX4_pass_35 : decode cX4_pass 35 = .ok (.getfield 10, 3) := by decide +kernel
theorem dX4_pass_38 : decode cX4_pass 38 = .ok (.iload_n 1, 1) := by decide +kernel
theorem dX4_pass_39 : decode cX4_pass 39 = .ok (.invokevirtual 259, 3) := by decide +kernel
theorem dX4_pass_42 : decode cX4_pass 42 = .ok (.ireturn, 1) := by decide +kernel
theorem dX4_arrearsAfter_0 : decode cX4_arrearsAfter 0 = .ok (.aload_n 0, 1) := by decide +kernel
theorem dX4_arrearsAfter_1 : decode cX4_arrearsAfter 1 = .ok (.iload_n 1, 1) := by decide +kernel
theorem dX4_arrearsAfter_2 : decode cX4_arrearsAfter 2 = .ok (.iload_n 2, 1) := by decide +kernel
theorem dX4_arrearsAfter_3 : decode cX4_arrearsAfter 3 = .ok (.invokevirtual 262, 3) := by decide +kernel
theorem dX4_arrearsAfter_6 : decode cX4_arrearsAfter 6 = .ok (.aload_n 0, 1) := by decide +kernel
theorem dX4_arrearsAfter_7 : decode cX4_arrearsAfter 7 = .ok (.getfield 16, 3) := by decide +kernel
theorem dX4_arrearsAfter_10 : decode cX4_arrearsAfter 10 = .ok (.aload_n 0, 1) := by decide +kernel
theorem dX4_arrearsAfter_11 : decode cX4_arrearsAfter 11 = .ok (.getfield 10, 3) := by decide +kernel
theorem dX4_arrearsAfter_14 : decode cX4_arrearsAfter 14 = .ok (.invokevirtual 266, 3) := by decide +kernel
theorem dX4_arrearsAfter_17 : decode cX4_arrearsAfter 17 = .ok (.aload_n 0, 1) := by decide +kernel
theorem dX4_arrearsAfter_18 : decode cX4_arrearsAfter 18 = .ok (.getfield 16, 3) := by decide +kernel
theorem dX4_arrearsAfter_21 : decode cX4_arrearsAfter 21 = .ok (.iload_n 2, 1) := by decide +kernel
theorem dX4_arrearsAfter_22 : decode cX4_arrearsAfter 22 = .ok (.invokevirtual 259, 3) := by decide +kernel
theorem dX4_arrearsAfter_25 : decode cX4_arrearsAfter 25 = .ok (.pop, 1) := by decide +kernel
theorem dX4_arrearsAfter_26 : decode cX4_arrearsAfter 26 = .ok (.aload_n 0, 1) := by decide +kernel
theorem dX4_arrearsAfter_27 : decode cX4_arrearsAfter 27 = .ok (.getfield 16, 3) := by decide +kernel
theorem dX4_arrearsAfter_30 : decode cX4_arrearsAfter 30 = .ok (.getfield 128, 3) := by decide +kernel
theorem dX4_arrearsAfter_33 : decode cX4_arrearsAfter 33 = .ok (.iload_n 1, 1) := by decide +kernel
theorem dX4_arrearsAfter_34 : decode cX4_arrearsAfter 34 = .ok (.iaload, 1) := by decide +kernel
theorem dX4_arrearsAfter_35 : decode cX4_arrearsAfter 35 = .ok (.ireturn, 1) := by decide +kernel
theorem dX4_arrearsAfterByRate_0 : decode cX4_arrearsAfterByRate 0 = .ok (.aload_n 0, 1) := by decide +kernel
theorem dX4_arrearsAfterByRate_1 : decode cX4_arrearsAfterByRate 1 = .ok (.iload_n 1, 1) := by decide +kernel
theorem dX4_arrearsAfterByRate_2 : decode cX4_arrearsAfterByRate 2 = .ok (.iload_n 2, 1) := by decide +kernel
theorem dX4_arrearsAfterByRate_3 : decode cX4_arrearsAfterByRate 3 = .ok (.invokevirtual 262, 3) := by decide +kernel
theorem dX4_arrearsAfterByRate_6 : decode cX4_arrearsAfterByRate 6 = .ok (.aload_n 0, 1) := by decide +kernel
theorem dX4_arrearsAfterByRate_7 : decode cX4_arrearsAfterByRate 7 = .ok (.getfield 10, 3) := by decide +kernel
theorem dX4_arrearsAfterByRate_10 : decode cX4_arrearsAfterByRate 10 = .ok (.iload_n 1, 1) := by decide +kernel
theorem dX4_arrearsAfterByRate_11 : decode cX4_arrearsAfterByRate 11 = .ok (.iload_n 2, 1) := by decide +kernel
theorem dX4_arrearsAfterByRate_12 : decode cX4_arrearsAfterByRate 12 = .ok (.invokevirtual 269, 3) := by decide +kernel
theorem dX4_arrearsAfterByRate_15 : decode cX4_arrearsAfterByRate 15 = .ok (.ireturn, 1) := by decide +kernel
theorem dX4_hour_0 : decode cX4_hour 0 = .ok (.aload_n 0, 1) := by decide +kernel
theorem dX4_hour_1 : decode cX4_hour 1 = .ok (.getfield 10, 3) := by decide +kernel
theorem dX4_hour_4 : decode cX4_hour 4 = .ok (.getfield 272, 3) := by decide +kernel
theorem dX4_hour_7 : decode cX4_hour 7 = .ok (.ireturn, 1) := by decide +kernel
theorem dX4_committeeAtRank_0 : decode cX4_committeeAtRank 0 = .ok (.aload_n 0, 1) := by decide +kernel
theorem dX4_committeeAtRank_1 : decode cX4_committeeAtRank 1 = .ok (.getfield 10, 3) := by decide +kernel
theorem dX4_committeeAtRank_4 : decode cX4_committeeAtRank 4 = .ok (.iload_n 1, 1) := by decide +kernel
theorem dX4_committeeAtRank_5 : decode cX4_committeeAtRank 5 = .ok (.invokevirtual 275, 3) := by decide +kernel
theorem dX4_committeeAtRank_8 : decode cX4_committeeAtRank 8 = .ok (.istore_n 2, 1) := by decide +kernel
theorem dX4_committeeAtRank_9 : decode cX4_committeeAtRank 9 = .ok (.iload_n 2, 1) := by decide +kernel
theorem dX4_committeeAtRank_10 : decode cX4_committeeAtRank 10 = .ok (.iconst (-1), 1) := by decide +kernel
theorem dX4_committeeAtRank_11 : decode cX4_committeeAtRank 11 = .ok (.if_icmp .ne 14, 3) := by decide +kernel
theorem dX4_committeeAtRank_14 : decode cX4_committeeAtRank 14 = .ok (.new 153, 3) := by decide +kernel
theorem dX4_committeeAtRank_17 : decode cX4_committeeAtRank 17 = .ok (.dup, 1) := by decide +kernel
theorem dX4_committeeAtRank_18 : decode cX4_committeeAtRank 18 = .ok (.ldc_w 278, 3) := by decide +kernel
theorem dX4_committeeAtRank_21 : decode cX4_committeeAtRank 21 = .ok (.invokespecial 157, 3) := by decide +kernel
theorem dX4_committeeAtRank_24 : decode cX4_committeeAtRank 24 = .ok (.athrow, 1) := by decide +kernel
theorem dX4_committeeAtRank_25 : decode cX4_committeeAtRank 25 = .ok (.iload_n 2, 1) := by decide +kernel
theorem dX4_committeeAtRank_26 : decode cX4_committeeAtRank 26 = .ok (.ireturn, 1) := by decide +kernel
theorem dX4_carriedCount_0 : decode cX4_carriedCount 0 = .ok (.aload_n 0, 1) := by decide +kernel
theorem dX4_carriedCount_1 : decode cX4_carriedCount 1 = .ok (.getfield 10, 3) := by decide +kernel
theorem dX4_carriedCount_4 : decode cX4_carriedCount 4 = .ok (.getfield 280, 3) := by decide +kernel
theorem dX4_carriedCount_7 : decode cX4_carriedCount 7 = .ok (.ireturn, 1) := by decide +kernel
theorem dX4_lostCount_0 : decode cX4_lostCount 0 = .ok (.aload_n 0, 1) := by decide +kernel
theorem dX4_lostCount_1 : decode cX4_lostCount 1 = .ok (.getfield 10, 3) := by decide +kernel
theorem dX4_lostCount_4 : decode cX4_lostCount 4 = .ok (.getfield 283, 3) := by decide +kernel
theorem dX4_lostCount_7 : decode cX4_lostCount 7 = .ok (.ireturn, 1) := by decide +kernel
theorem dX4_paidTotal_0 : decode cX4_paidTotal 0 = .ok (.aload_n 0, 1) := by decide +kernel
theorem dX4_paidTotal_1 : decode cX4_paidTotal 1 = .ok (.getfield 10, 3) := by decide +kernel
theorem dX4_paidTotal_4 : decode cX4_paidTotal 4 = .ok (.getfield 286, 3) := by decide +kernel
theorem dX4_paidTotal_7 : decode cX4_paidTotal 7 = .ok (.ireturn, 1) := by decide +kernel
theorem dX4_chargedTotal_0 : decode cX4_chargedTotal 0 = .ok (.aload_n 0, 1) := by decide +kernel
theorem dX4_chargedTotal_1 : decode cX4_chargedTotal 1 = .ok (.getfield 10, 3) := by decide +kernel
theorem dX4_chargedTotal_4 : decode cX4_chargedTotal 4 = .ok (.getfield 289, 3) := by decide +kernel
theorem dX4_chargedTotal_7 : decode cX4_chargedTotal 7 = .ok (.ireturn, 1) := by decide +kernel
theorem dX4_append_0 : decode cX4_append 0 = .ok (.iload_n 1, 1) := by decide +kernel
theorem dX4_append_1 : decode cX4_append 1 = .ok (.bipush 32, 2) := by decide +kernel
theorem dX4_append_3 : decode cX4_append 3 = .ok (.if_icmp .lt 9, 3) := by decide +kernel
theorem dX4_append_6 : decode cX4_append 6 = .ok (.iload_n 1, 1) := by decide +kernel
theorem dX4_append_7 : decode cX4_append 7 = .ok (.bipush 126, 2) := by decide +kernel
theorem dX4_append_9 : decode cX4_append 9 = .ok (.if_icmp .le 14, 3) := by decide +kernel
theorem dX4_append_12 : decode cX4_append 12 = .ok (.new 61, 3) := by decide +kernel
theorem dX4_append_15 : decode cX4_append 15 = .ok (.dup, 1) := by decide +kernel
theorem dX4_append_16 : decode cX4_append 16 = .ok (.ldc_w 292, 3) := by decide +kernel
theorem dX4_append_19 : decode cX4_append 19 = .ok (.invokespecial 65, 3) := by decide +kernel
theorem dX4_append_22 : decode cX4_append 22 = .ok (.athrow, 1) := by decide +kernel
theorem dX4_append_23 : decode cX4_append 23 = .ok (.aload_n 0, 1) := by decide +kernel
theorem dX4_append_24 : decode cX4_append 24 = .ok (.getfield 36, 3) := by decide +kernel
theorem dX4_append_27 : decode cX4_append 27 = .ok (.invokevirtual 294, 3) := by decide +kernel
theorem dX4_append_30 : decode cX4_append 30 = .ok (.ifCond .eq 14, 3) := by decide +kernel
theorem dX4_append_33 : decode cX4_append 33 = .ok (.new 68, 3) := by decide +kernel
theorem dX4_append_36 : decode cX4_append 36 = .ok (.dup, 1) := by decide +kernel
theorem dX4_append_37 : decode cX4_append 37 = .ok (.ldc_w 298, 3) := by decide +kernel
theorem dX4_append_40 : decode cX4_append 40 = .ok (.invokespecial 72, 3) := by decide +kernel
theorem dX4_append_43 : decode cX4_append 43 = .ok (.athrow, 1) := by decide +kernel
theorem dX4_append_44 : decode cX4_append 44 = .ok (.aload_n 0, 1) := by decide +kernel
theorem dX4_append_45 : decode cX4_append 45 = .ok (.getfield 36, 3) := by decide +kernel
theorem dX4_append_48 : decode cX4_append 48 = .ok (.iload_n 1, 1) := by decide +kernel
theorem dX4_append_49 : decode cX4_append 49 = .ok (.invokevirtual 300, 3) := by decide +kernel
theorem dX4_append_52 : decode cX4_append 52 = .ok (.ireturn, 1) := by decide +kernel
theorem dX4_run_0 : decode cX4_run 0 = .ok (.aload_n 0, 1) := by decide +kernel
theorem dX4_run_1 : decode cX4_run 1 = .ok (.getfield 36, 3) := by decide +kernel
theorem dX4_run_4 : decode cX4_run 4 = .ok (.invokevirtual 304, 3) := by decide +kernel
theorem dX4_run_7 : decode cX4_run 7 = .ok (.istore_n 1, 1) := by decide +kernel
theorem dX4_run_8 : decode cX4_run 8 = .ok (.aload_n 0, 1) := by decide +kernel
theorem dX4_run_9 : decode cX4_run 9 = .ok (.getfield 36, 3) := by decide +kernel
theorem dX4_run_12 : decode cX4_run 12 = .ok (.invokevirtual 307, 3) := by decide +kernel
theorem dX4_run_15 : decode cX4_run 15 = .ok (.iload_n 1, 1) := by decide +kernel
theorem dX4_run_16 : decode cX4_run 16 = .ok (.ifCond .ne 25, 3) := by decide +kernel
theorem dX4_run_19 : decode cX4_run 19 = .ok (.aload_n 0, 1) := by decide +kernel
theorem dX4_run_20 : decode cX4_run 20 = .ok (.aload_n 0, 1) := by decide +kernel
theorem dX4_run_21 : decode cX4_run 21 = .ok (.getfield 36, 3) := by decide +kernel
theorem dX4_run_24 : decode cX4_run 24 = .ok (.getfield 310, 3) := by decide +kernel
theorem dX4_run_27 : decode cX4_run 27 = .ok (.putfield 40, 3) := by decide +kernel
theorem dX4_run_30 : decode cX4_run 30 = .ok (.new 61, 3) := by decide +kernel
theorem dX4_run_33 : decode cX4_run 33 = .ok (.dup, 1) := by decide +kernel
theorem dX4_run_34 : decode cX4_run 34 = .ok (.ldc_w 313, 3) := by decide +kernel
theorem dX4_run_37 : decode cX4_run 37 = .ok (.invokespecial 65, 3) := by decide +kernel
theorem dX4_run_40 : decode cX4_run 40 = .ok (.athrow, 1) := by decide +kernel
theorem dX4_run_41 : decode cX4_run 41 = .ok (.aload_n 0, 1) := by decide +kernel
theorem dX4_run_42 : decode cX4_run 42 = .ok (.getfield 16, 3) := by decide +kernel
theorem dX4_run_45 : decode cX4_run 45 = .ok (.aload_n 0, 1) := by decide +kernel
theorem dX4_run_46 : decode cX4_run 46 = .ok (.getfield 10, 3) := by decide +kernel
theorem dX4_run_49 : decode cX4_run 49 = .ok (.invokevirtual 266, 3) := by decide +kernel
theorem dX4_run_52 : decode cX4_run 52 = .ok (.iconst 0, 1) := by decide +kernel
theorem dX4_run_53 : decode cX4_run 53 = .ok (.istore_n 2, 1) := by decide +kernel
theorem dX4_run_54 : decode cX4_run 54 = .ok (.iload_n 2, 1) := by decide +kernel
theorem dX4_run_55 : decode cX4_run 55 = .ok (.aload_n 0, 1) := by decide +kernel
theorem dX4_run_56 : decode cX4_run 56 = .ok (.getfield 36, 3) := by decide +kernel
theorem dX4_run_59 : decode cX4_run 59 = .ok (.getfield 315, 3) := by decide +kernel
theorem dX4_run_62 : decode cX4_run 62 = .ok (.if_icmp .ge 70, 3) := by decide +kernel
theorem dX4_run_65 : decode cX4_run 65 = .ok (.aload_n 0, 1) := by decide +kernel
theorem dX4_run_66 : decode cX4_run 66 = .ok (.getfield 36, 3) := by decide +kernel
theorem dX4_run_69 : decode cX4_run 69 = .ok (.iload_n 2, 1) := by decide +kernel
theorem dX4_run_70 : decode cX4_run 70 = .ok (.aload_n 0, 1) := by decide +kernel
theorem dX4_run_71 : decode cX4_run 71 = .ok (.getfield 10, 3) := by decide +kernel
theorem dX4_run_74 : decode cX4_run 74 = .ok (.invokevirtual 318, 3) := by decide +kernel
theorem dX4_run_77 : decode cX4_run 77 = .ok (.istore_n 3, 1) := by decide +kernel
theorem dX4_run_78 : decode cX4_run 78 = .ok (.iload_n 3, 1) := by decide +kernel
theorem dX4_run_79 : decode cX4_run 79 = .ok (.ifCond .eq 35, 3) := by decide +kernel
theorem dX4_run_82 : decode cX4_run 82 = .ok (.aload_n 0, 1) := by decide +kernel
theorem dX4_run_83 : decode cX4_run 83 = .ok (.getfield 10, 3) := by decide +kernel
theorem dX4_run_86 : decode cX4_run 86 = .ok (.aload_n 0, 1) := by decide +kernel
theorem dX4_run_87 : decode cX4_run 87 = .ok (.getfield 16, 3) := by decide +kernel
theorem dX4_run_90 : decode cX4_run 90 = .ok (.invokevirtual 266, 3) := by decide +kernel
theorem dX4_run_93 : decode cX4_run 93 = .ok (.aload_n 0, 1) := by decide +kernel
theorem dX4_run_94 : decode cX4_run 94 = .ok (.iload_n 2, 1) := by decide +kernel
theorem dX4_run_95 : decode cX4_run 95 = .ok (.putfield 44, 3) := by decide +kernel
theorem dX4_run_98 : decode cX4_run 98 = .ok (.aload_n 0, 1) := by decide +kernel
theorem dX4_run_99 : decode cX4_run 99 = .ok (.iload_n 3, 1) := by decide +kernel
theorem dX4_run_100 : decode cX4_run 100 = .ok (.putfield 47, 3) := by decide +kernel
theorem dX4_run_103 : decode cX4_run 103 = .ok (.new 68, 3) := by decide +kernel
theorem dX4_run_106 : decode cX4_run 106 = .ok (.dup, 1) := by decide +kernel
theorem dX4_run_107 : decode cX4_run 107 = .ok (.ldc_w 322, 3) := by decide +kernel
theorem dX4_run_110 : decode cX4_run 110 = .ok (.invokespecial 72, 3) := by decide +kernel
theorem dX4_run_113 : decode cX4_run 113 = .ok (.athrow, 1) := by decide +kernel
theorem dX4_run_114 : decode cX4_run 114 = .ok (.aload_n 0, 1) := by decide +kernel
theorem dX4_run_115 : decode cX4_run 115 = .ok (.getfield 36, 3) := by decide +kernel
theorem dX4_run_118 : decode cX4_run 118 = .ok (.iload_n 2, 1) := by decide +kernel
theorem dX4_run_119 : decode cX4_run 119 = .ok (.aload_n 0, 1) := by decide +kernel
theorem dX4_run_120 : decode cX4_run 120 = .ok (.getfield 10, 3) := by decide +kernel
theorem dX4_run_123 : decode cX4_run 123 = .ok (.invokevirtual 324, 3) := by decide +kernel
theorem dX4_run_126 : decode cX4_run 126 = .ok (.iinc 2 1, 3) := by decide +kernel
theorem dX4_run_129 : decode cX4_run 129 = .ok (.goto (-75), 3) := by decide +kernel
theorem dX4_run_132 : decode cX4_run 132 = .ok (.aload_n 0, 1) := by decide +kernel
theorem dX4_run_133 : decode cX4_run 133 = .ok (.getfield 29, 3) := by decide +kernel
theorem dX4_run_136 : decode cX4_run 136 = .ok (.aload_n 0, 1) := by decide +kernel
theorem dX4_run_137 : decode cX4_run 137 = .ok (.getfield 16, 3) := by decide +kernel
theorem dX4_run_140 : decode cX4_run 140 = .ok (.invokevirtual 73, 3) := by decide +kernel
theorem dX4_run_143 : decode cX4_run 143 = .ok (.aload_n 0, 1) := by decide +kernel
theorem dX4_run_144 : decode cX4_run 144 = .ok (.getfield 36, 3) := by decide +kernel
theorem dX4_run_147 : decode cX4_run 147 = .ok (.getfield 315, 3) := by decide +kernel
theorem dX4_run_150 : decode cX4_run 150 = .ok (.ireturn, 1) := by decide +kernel
theorem dX4_errorPosition_0 : decode cX4_errorPosition 0 = .ok (.aload_n 0, 1) := by decide +kernel
theorem dX4_errorPosition_1 : decode cX4_errorPosition 1 = .ok (.getfield 40, 3) := by decide +kernel
theorem dX4_errorPosition_4 : decode cX4_errorPosition 4 = .ok (.iconst (-1), 1) := by decide +kernel
theorem dX4_errorPosition_5 : decode cX4_errorPosition 5 = .ok (.if_icmp .ne 14, 3) := by decide +kernel
theorem dX4_errorPosition_8 : decode cX4_errorPosition 8 = .ok (.new 153, 3) := by decide +kernel
theorem dX4_errorPosition_11 : decode cX4_errorPosition 11 = .ok (.dup, 1) := by decide +kernel
theorem dX4_errorPosition_12 : decode cX4_errorPosition 12 = .ok (.ldc_w 328, 3) := by decide +kernel
theorem dX4_errorPosition_15 : decode cX4_errorPosition 15 = .ok (.invokespecial 157, 3) := by decide +kernel
theorem dX4_errorPosition_18 : decode cX4_errorPosition 18 = .ok (.athrow, 1) := by decide +kernel
theorem dX4_errorPosition_19 : decode cX4_errorPosition 19 = .ok (.aload_n 0, 1) := by decide +kernel
theorem dX4_errorPosition_20 : decode cX4_errorPosition 20 = .ok (.getfield 40, 3) := by decide +kernel
theorem dX4_errorPosition_23 : decode cX4_errorPosition 23 = .ok (.ireturn, 1) := by decide +kernel
theorem dX4_failedCommand_0 : decode cX4_failedCommand 0 = .ok (.aload_n 0, 1) := by decide +kernel
theorem dX4_failedCommand_1 : decode cX4_failedCommand 1 = .ok (.getfield 44, 3) := by decide +kernel
theorem dX4_failedCommand_4 : decode cX4_failedCommand 4 = .ok (.iconst (-1), 1) := by decide +kernel
theorem dX4_failedCommand_5 : decode cX4_failedCommand 5 = .ok (.if_icmp .ne 14, 3) := by decide +kernel
theorem dX4_failedCommand_8 : decode cX4_failedCommand 8 = .ok (.new 153, 3) := by decide +kernel
theorem dX4_failedCommand_11 : decode cX4_failedCommand 11 = .ok (.dup, 1) := by decide +kernel
theorem dX4_failedCommand_12 : decode cX4_failedCommand 12 = .ok (.ldc_w 330, 3) := by decide +kernel
theorem dX4_failedCommand_15 : decode cX4_failedCommand 15 = .ok (.invokespecial 157, 3) := by decide +kernel
theorem dX4_failedCommand_18 : decode cX4_failedCommand 18 = .ok (.athrow, 1) := by decide +kernel
theorem dX4_failedCommand_19 : decode cX4_failedCommand 19 = .ok (.aload_n 0, 1) := by decide +kernel
theorem dX4_failedCommand_20 : decode cX4_failedCommand 20 = .ok (.getfield 44, 3) := by decide +kernel
theorem dX4_failedCommand_23 : decode cX4_failedCommand 23 = .ok (.ireturn, 1) := by decide +kernel
theorem dX4_failedException_0 : decode cX4_failedException 0 = .ok (.aload_n 0, 1) := by decide +kernel
theorem dX4_failedException_1 : decode cX4_failedException 1 = .ok (.getfield 47, 3) := by decide +kernel
theorem dX4_failedException_4 : decode cX4_failedException 4 = .ok (.iconst (-1), 1) := by decide +kernel
theorem dX4_failedException_5 : decode cX4_failedException 5 = .ok (.if_icmp .ne 14, 3) := by decide +kernel
theorem dX4_failedException_8 : decode cX4_failedException 8 = .ok (.new 153, 3) := by decide +kernel
theorem dX4_failedException_11 : decode cX4_failedException 11 = .ok (.dup, 1) := by decide +kernel
theorem dX4_failedException_12 : decode cX4_failedException 12 = .ok (.ldc_w 330, 3) := by decide +kernel
theorem dX4_failedException_15 : decode cX4_failedException 15 = .ok (.invokespecial 157, 3) := by decide +kernel
theorem dX4_failedException_18 : decode cX4_failedException 18 = .ok (.athrow, 1) := by decide +kernel
theorem dX4_failedException_19 : decode cX4_failedException 19 = .ok (.aload_n 0, 1) := by decide +kernel
theorem dX4_failedException_20 : decode cX4_failedException 20 = .ok (.getfield 47, 3) := by decide +kernel
theorem dX4_failedException_23 : decode cX4_failedException 23 = .ok (.ireturn, 1) := by decide +kernel
theorem dX4_describeCommittee_0 : decode cX4_describeCommittee 0 = .ok (.aload_n 0, 1) := by decide +kernel
theorem dX4_describeCommittee_1 : decode cX4_describeCommittee 1 = .ok (.iload_n 1, 1) := by decide +kernel
theorem dX4_describeCommittee_2 : decode cX4_describeCommittee 2 = .ok (.invokevirtual 120, 3) := by decide +kernel
theorem dX4_describeCommittee_5 : decode cX4_describeCommittee 5 = .ok (.aload_n 0, 1) := by decide +kernel
theorem dX4_describeCommittee_6 : decode cX4_describeCommittee 6 = .ok (.getfield 53, 3) := by decide +kernel
theorem dX4_describeCommittee_9 : decode cX4_describeCommittee 9 = .ok (.iconst 0, 1) := by decide +kernel
theorem dX4_describeCommittee_10 : decode cX4_describeCommittee 10 = .ok (.invokevirtual 332, 3) := by decide +kernel
theorem dX4_describeCommittee_13 : decode cX4_describeCommittee 13 = .ok (.aload_n 0, 1) := by decide +kernel
theorem dX4_describeCommittee_14 : decode cX4_describeCommittee 14 = .ok (.getfield 53, 3) := by decide +kernel
theorem dX4_describeCommittee_17 : decode cX4_describeCommittee 17 = .ok (.iload_n 1, 1) := by decide +kernel
theorem dX4_describeCommittee_18 : decode cX4_describeCommittee 18 = .ok (.invokevirtual 335, 3) := by decide +kernel
theorem dX4_describeCommittee_21 : decode cX4_describeCommittee 21 = .ok (.bipush 47, 2) := by decide +kernel
theorem dX4_describeCommittee_23 : decode cX4_describeCommittee 23 = .ok (.invokevirtual 339, 3) := by decide +kernel
theorem dX4_describeCommittee_26 : decode cX4_describeCommittee 26 = .ok (.aload_n 0, 1) := by decide +kernel
theorem dX4_describeCommittee_27 : decode cX4_describeCommittee 27 = .ok (.getfield 10, 3) := by decide +kernel
theorem dX4_describeCommittee_30 : decode cX4_describeCommittee 30 = .ok (.getfield 124, 3) := by decide +kernel
theorem dX4_describeCommittee_33 : decode cX4_describeCommittee 33 = .ok (.iload_n 1, 1) := by decide +kernel
theorem dX4_describeCommittee_34 : decode cX4_describeCommittee 34 = .ok (.iaload, 1) := by decide +kernel
theorem dX4_describeCommittee_35 : decode cX4_describeCommittee 35 = .ok (.invokevirtual 335, 3) := by decide +kernel
theorem dX4_describeCommittee_38 : decode cX4_describeCommittee 38 = .ok (.pop, 1) := by decide +kernel
theorem dX4_describeCommittee_39 : decode cX4_describeCommittee 39 = .ok (.aload_n 0, 1) := by decide +kernel
theorem dX4_describeCommittee_40 : decode cX4_describeCommittee 40 = .ok (.getfield 53, 3) := by decide +kernel
theorem dX4_describeCommittee_43 : decode cX4_describeCommittee 43 = .ok (.aload_n 0, 1) := by decide +kernel
theorem dX4_describeCommittee_44 : decode cX4_describeCommittee 44 = .ok (.getfield 10, 3) := by decide +kernel
theorem dX4_describeCommittee_47 : decode cX4_describeCommittee 47 = .ok (.getfield 131, 3) := by decide +kernel
theorem dX4_describeCommittee_50 : decode cX4_describeCommittee 50 = .ok (.iload_n 1, 1) := by decide +kernel
theorem dX4_describeCommittee_51 : decode cX4_describeCommittee 51 = .ok (.baload, 1) := by decide +kernel
theorem dX4_describeCommittee_52 : decode cX4_describeCommittee 52 = .ok (.ifCond .eq 8, 3) := by decide +kernel
theorem dX4_describeCommittee_55 : decode cX4_describeCommittee 55 = .ok (.bipush 94, 2) := by decide +kernel
theorem dX4_describeCommittee_57 : decode cX4_describeCommittee 57 = .ok (.goto 5, 3) := by decide +kernel
theorem dX4_describeCommittee_60 : decode cX4_describeCommittee 60 = .ok (.bipush 95, 2) := by decide +kernel
theorem dX4_describeCommittee_62 : decode cX4_describeCommittee 62 = .ok (.invokevirtual 339, 3) := by decide +kernel
theorem dX4_describeCommittee_65 : decode cX4_describeCommittee 65 = .ok (.pop, 1) := by decide +kernel
theorem dX4_describeCommittee_66 : decode cX4_describeCommittee 66 = .ok (.aload_n 0, 1) := by decide +kernel
theorem dX4_describeCommittee_67 : decode cX4_describeCommittee 67 = .ok (.getfield 10, 3) := by decide +kernel
theorem dX4_describeCommittee_70 : decode cX4_describeCommittee 70 = .ok (.getfield 128, 3) := by decide +kernel
theorem dX4_describeCommittee_73 : decode cX4_describeCommittee 73 = .ok (.iload_n 1, 1) := by decide +kernel
theorem dX4_describeCommittee_74 : decode cX4_describeCommittee 74 = .ok (.iaload, 1) := by decide +kernel
theorem dX4_describeCommittee_75 : decode cX4_describeCommittee 75 = .ok (.ifCond .le 25, 3) := by decide +kernel
theorem dX4_describeCommittee_78 : decode cX4_describeCommittee 78 = .ok (.aload_n 0, 1) := by decide +kernel
theorem dX4_describeCommittee_79 : decode cX4_describeCommittee 79 = .ok (.getfield 53, 3) := by decide +kernel
theorem dX4_describeCommittee_82 : decode cX4_describeCommittee 82 = .ok (.bipush 45, 2) := by decide +kernel
theorem dX4_describeCommittee_84 : decode cX4_describeCommittee 84 = .ok (.invokevirtual 339, 3) := by decide +kernel
theorem dX4_describeCommittee_87 : decode cX4_describeCommittee 87 = .ok (.aload_n 0, 1) := by decide +kernel
theorem dX4_describeCommittee_88 : decode cX4_describeCommittee 88 = .ok (.getfield 10, 3) := by decide +kernel
theorem dX4_describeCommittee_91 : decode cX4_describeCommittee 91 = .ok (.getfield 128, 3) := by decide +kernel
theorem dX4_describeCommittee_94 : decode cX4_describeCommittee 94 = .ok (.iload_n 1, 1) := by decide +kernel
theorem dX4_describeCommittee_95 : decode cX4_describeCommittee 95 = .ok (.iaload, 1) := by decide +kernel
theorem dX4_describeCommittee_96 : decode cX4_describeCommittee 96 = .ok (.invokevirtual 335, 3) := by decide +kernel
theorem dX4_describeCommittee_99 : decode cX4_describeCommittee 99 = .ok (.pop, 1) := by decide +kernel
theorem dX4_describeCommittee_100 : decode cX4_describeCommittee 100 = .ok (.iconst 0, 1) := by decide +kernel
theorem dX4_describeCommittee_101 : decode cX4_describeCommittee 101 = .ok (.istore_n 2, 1) := by decide +kernel
theorem dX4_describeCommittee_102 : decode cX4_describeCommittee 102 = .ok (.iload_n 2, 1) := by decide +kernel
theorem dX4_describeCommittee_103 : decode cX4_describeCommittee 103 = .ok (.aload_n 0, 1) := by decide +kernel
theorem dX4_describeCommittee_104 : decode cX4_describeCommittee 104 = .ok (.getfield 10, 3) := by decide +kernel
theorem dX4_describeCommittee_107 : decode cX4_describeCommittee 107 = .ok (.getfield 141, 3) := by decide +kernel
theorem dX4_describeCommittee_110 : decode cX4_describeCommittee 110 = .ok (.if_icmp .ge 36, 3) := by decide +kernel
theorem dX4_describeCommittee_113 : decode cX4_describeCommittee 113 = .ok (.aload_n 0, 1) := by decide +kernel
theorem dX4_describeCommittee_114 : decode cX4_describeCommittee 114 = .ok (.getfield 10, 3) := by decide +kernel
theorem dX4_describeCommittee_117 : decode cX4_describeCommittee 117 = .ok (.getfield 150, 3) := by decide +kernel
theorem dX4_describeCommittee_120 : decode cX4_describeCommittee 120 = .ok (.iload_n 2, 1) := by decide +kernel
theorem dX4_describeCommittee_121 : decode cX4_describeCommittee 121 = .ok (.iaload, 1) := by decide +kernel
theorem dX4_describeCommittee_122 : decode cX4_describeCommittee 122 = .ok (.iload_n 1, 1) := by decide +kernel
theorem dX4_describeCommittee_123 : decode cX4_describeCommittee 123 = .ok (.if_icmp .ne 17, 3) := by decide +kernel
theorem dX4_describeCommittee_126 : decode cX4_describeCommittee 126 = .ok (.aload_n 0, 1) := by decide +kernel
theorem dX4_describeCommittee_127 : decode cX4_describeCommittee 127 = .ok (.getfield 53, 3) := by decide +kernel
theorem dX4_describeCommittee_130 : decode cX4_describeCommittee 130 = .ok (.bipush 126, 2) := by decide +kernel
theorem dX4_describeCommittee_132 : decode cX4_describeCommittee 132 = .ok (.invokevirtual 339, 3) := by decide +kernel
theorem dX4_describeCommittee_135 : decode cX4_describeCommittee 135 = .ok (.iload_n 2, 1) := by decide +kernel
theorem dX4_describeCommittee_136 : decode cX4_describeCommittee 136 = .ok (.invokevirtual 335, 3) := by decide +kernel
theorem dX4_describeCommittee_139 : decode cX4_describeCommittee 139 = .ok (.pop, 1) := by decide +kernel
theorem dX4_describeCommittee_140 : decode cX4_describeCommittee 140 = .ok (.iinc 2 1, 3) := by decide +kernel
theorem dX4_describeCommittee_143 : decode cX4_describeCommittee 143 = .ok (.goto (-41), 3) := by decide +kernel
theorem dX4_describeCommittee_146 : decode cX4_describeCommittee 146 = .ok (.aload_n 0, 1) := by decide +kernel
theorem dX4_describeCommittee_147 : decode cX4_describeCommittee 147 = .ok (.getfield 53, 3) := by decide +kernel
theorem dX4_describeCommittee_150 : decode cX4_describeCommittee 150 = .ok (.invokevirtual 342, 3) := by decide +kernel
theorem dX4_describeCommittee_153 : decode cX4_describeCommittee 153 = .ok (.ireturn, 1) := by decide +kernel
theorem dX4_describeMotion_0 : decode cX4_describeMotion 0 = .ok (.aload_n 0, 1) := by decide +kernel
theorem dX4_describeMotion_1 : decode cX4_describeMotion 1 = .ok (.iload_n 1, 1) := by decide +kernel
theorem dX4_describeMotion_2 : decode cX4_describeMotion 2 = .ok (.invokevirtual 223, 3) := by decide +kernel
theorem dX4_describeMotion_5 : decode cX4_describeMotion 5 = .ok (.istore_n 2, 1) := by decide +kernel
theorem dX4_describeMotion_6 : decode cX4_describeMotion 6 = .ok (.aload_n 0, 1) := by decide +kernel
theorem dX4_describeMotion_7 : decode cX4_describeMotion 7 = .ok (.getfield 10, 3) := by decide +kernel
theorem dX4_describeMotion_10 : decode cX4_describeMotion 10 = .ok (.getfield 209, 3) := by decide +kernel
theorem dX4_describeMotion_13 : decode cX4_describeMotion 13 = .ok (.astore_n 3, 1) := by decide +kernel
theorem dX4_describeMotion_14 : decode cX4_describeMotion 14 = .ok (.aload_n 0, 1) := by decide +kernel
theorem dX4_describeMotion_15 : decode cX4_describeMotion 15 = .ok (.getfield 53, 3) := by decide +kernel
theorem dX4_describeMotion_18 : decode cX4_describeMotion 18 = .ok (.iconst 0, 1) := by decide +kernel
theorem dX4_describeMotion_19 : decode cX4_describeMotion 19 = .ok (.invokevirtual 332, 3) := by decide +kernel
theorem dX4_describeMotion_22 : decode cX4_describeMotion 22 = .ok (.aload_n 0, 1) := by decide +kernel
theorem dX4_describeMotion_23 : decode cX4_describeMotion 23 = .ok (.getfield 53, 3) := by decide +kernel
theorem dX4_describeMotion_26 : decode cX4_describeMotion 26 = .ok (.bipush 35, 2) := by decide +kernel
theorem dX4_describeMotion_28 : decode cX4_describeMotion 28 = .ok (.invokevirtual 339, 3) := by decide +kernel
theorem dX4_describeMotion_31 : decode cX4_describeMotion 31 = .ok (.iload_n 1, 1) := by decide +kernel
theorem dX4_describeMotion_32 : decode cX4_describeMotion 32 = .ok (.invokevirtual 335, 3) := by decide +kernel
theorem dX4_describeMotion_35 : decode cX4_describeMotion 35 = .ok (.aload_n 3, 1) := by decide +kernel
theorem dX4_describeMotion_36 : decode cX4_describeMotion 36 = .ok (.getfield 345, 3) := by decide +kernel
theorem dX4_describeMotion_39 : decode cX4_describeMotion 39 = .ok (.iload_n 2, 1) := by decide +kernel
theorem dX4_describeMotion_40 : decode cX4_describeMotion 40 = .ok (.caload, 1) := by decide +kernel
theorem dX4_describeMotion_41 : decode cX4_describeMotion 41 = .ok (.invokevirtual 339, 3) := by decide +kernel
theorem dX4_describeMotion_44 : decode cX4_describeMotion 44 = .ok (.aload_n 3, 1) := by decide +kernel
theorem dX4_describeMotion_45 : decode cX4_describeMotion 45 = .ok (.getfield 349, 3) := by decide +kernel
theorem dX4_describeMotion_48 : decode cX4_describeMotion 48 = .ok (.iload_n 2, 1) := by decide +kernel
theorem dX4_describeMotion_49 : decode cX4_describeMotion 49 = .ok (.iaload, 1) := by decide +kernel
theorem dX4_describeMotion_50 : decode cX4_describeMotion 50 = .ok (.invokevirtual 335, 3) := by decide +kernel
theorem dX4_describeMotion_53 : decode cX4_describeMotion 53 = .ok (.pop, 1) := by decide +kernel
theorem dX4_describeMotion_54 : decode cX4_describeMotion 54 = .ok (.aload_n 0, 1) := by decide +kernel
theorem dX4_describeMotion_55 : decode cX4_describeMotion 55 = .ok (.getfield 53, 3) := by decide +kernel
theorem dX4_describeMotion_58 : decode cX4_describeMotion 58 = .ok (.bipush 58, 2) := by decide +kernel
theorem dX4_describeMotion_60 : decode cX4_describeMotion 60 = .ok (.invokevirtual 339, 3) := by decide +kernel
theorem dX4_describeMotion_63 : decode cX4_describeMotion 63 = .ok (.aload_n 3, 1) := by decide +kernel
theorem dX4_describeMotion_64 : decode cX4_describeMotion 64 = .ok (.getfield 226, 3) := by decide +kernel
theorem dX4_describeMotion_67 : decode cX4_describeMotion 67 = .ok (.iload_n 2, 1) := by decide +kernel
theorem dX4_describeMotion_68 : decode cX4_describeMotion 68 = .ok (.iaload, 1) := by decide +kernel
theorem dX4_describeMotion_69 : decode cX4_describeMotion 69 = .ok (.invokevirtual 335, 3) := by decide +kernel
theorem dX4_describeMotion_72 : decode cX4_describeMotion 72 = .ok (.pop, 1) := by decide +kernel
theorem dX4_describeMotion_73 : decode cX4_describeMotion 73 = .ok (.aload_n 3, 1) := by decide +kernel
theorem dX4_describeMotion_74 : decode cX4_describeMotion 74 = .ok (.getfield 229, 3) := by decide +kernel
theorem dX4_describeMotion_77 : decode cX4_describeMotion 77 = .ok (.iload_n 2, 1) := by decide +kernel
theorem dX4_describeMotion_78 : decode cX4_describeMotion 78 = .ok (.iaload, 1) := by decide +kernel
theorem dX4_describeMotion_79 : decode cX4_describeMotion 79 = .ok (.iconst (-1), 1) := by decide +kernel
theorem dX4_describeMotion_80 : decode cX4_describeMotion 80 = .ok (.if_icmp .eq 22, 3) := by decide +kernel
theorem dX4_describeMotion_83 : decode cX4_describeMotion 83 = .ok (.aload_n 0, 1) := by decide +kernel
theorem dX4_describeMotion_84 : decode cX4_describeMotion 84 = .ok (.getfield 53, 3) := by decide +kernel
theorem dX4_describeMotion_87 : decode cX4_describeMotion 87 = .ok (.bipush 43, 2) := by decide +kernel
theorem dX4_describeMotion_89 : decode cX4_describeMotion 89 = .ok (.invokevirtual 339, 3) := by decide +kernel
theorem dX4_describeMotion_92 : decode cX4_describeMotion 92 = .ok (.aload_n 3, 1) := by decide +kernel
theorem dX4_describeMotion_93 : decode cX4_describeMotion 93 = .ok (.getfield 229, 3) := by decide +kernel
theorem dX4_describeMotion_96 : decode cX4_describeMotion 96 = .ok (.iload_n 2, 1) := by decide +kernel
theorem dX4_describeMotion_97 : decode cX4_describeMotion 97 = .ok (.iaload, 1) := by decide +kernel
theorem dX4_describeMotion_98 : decode cX4_describeMotion 98 = .ok (.invokevirtual 335, 3) := by decide +kernel
theorem dX4_describeMotion_101 : decode cX4_describeMotion 101 = .ok (.pop, 1) := by decide +kernel
theorem dX4_describeMotion_102 : decode cX4_describeMotion 102 = .ok (.aload_n 3, 1) := by decide +kernel
theorem dX4_describeMotion_103 : decode cX4_describeMotion 103 = .ok (.getfield 234, 3) := by decide +kernel
theorem dX4_describeMotion_106 : decode cX4_describeMotion 106 = .ok (.iload_n 2, 1) := by decide +kernel
theorem dX4_describeMotion_107 : decode cX4_describeMotion 107 = .ok (.baload, 1) := by decide +kernel
theorem dX4_describeMotion_108 : decode cX4_describeMotion 108 = .ok (.ifCond .eq 13, 3) := by decide +kernel
theorem dX4_describeMotion_111 : decode cX4_describeMotion 111 = .ok (.aload_n 0, 1) := by decide +kernel
theorem dX4_describeMotion_112 : decode cX4_describeMotion 112 = .ok (.getfield 53, 3) := by decide +kernel
theorem dX4_describeMotion_115 : decode cX4_describeMotion 115 = .ok (.bipush 33, 2) := by decide +kernel
theorem dX4_describeMotion_117 : decode cX4_describeMotion 117 = .ok (.invokevirtual 339, 3) := by decide +kernel
theorem dX4_describeMotion_120 : decode cX4_describeMotion 120 = .ok (.pop, 1) := by decide +kernel
theorem dX4_describeMotion_121 : decode cX4_describeMotion 121 = .ok (.aload_n 0, 1) := by decide +kernel
theorem dX4_describeMotion_122 : decode cX4_describeMotion 122 = .ok (.getfield 53, 3) := by decide +kernel
theorem dX4_describeMotion_125 : decode cX4_describeMotion 125 = .ok (.invokevirtual 342, 3) := by decide +kernel
theorem dX4_describeMotion_128 : decode cX4_describeMotion 128 = .ok (.ireturn, 1) := by decide +kernel
theorem dX4_lineAt_0 : decode cX4_lineAt 0 = .ok (.iload_n 1, 1) := by decide +kernel
theorem dX4_lineAt_1 : decode cX4_lineAt 1 = .ok (.ifCond .lt 14, 3) := by decide +kernel
theorem dX4_lineAt_4 : decode cX4_lineAt 4 = .ok (.iload_n 1, 1) := by decide +kernel
theorem dX4_lineAt_5 : decode cX4_lineAt 5 = .ok (.aload_n 0, 1) := by decide +kernel
theorem dX4_lineAt_6 : decode cX4_lineAt 6 = .ok (.getfield 53, 3) := by decide +kernel
theorem dX4_lineAt_9 : decode cX4_lineAt 9 = .ok (.invokevirtual 342, 3) := by decide +kernel
theorem dX4_lineAt_12 : decode cX4_lineAt 12 = .ok (.if_icmp .lt 14, 3) := by decide +kernel
theorem dX4_lineAt_15 : decode cX4_lineAt 15 = .ok (.new 94, 3) := by decide +kernel
theorem dX4_lineAt_18 : decode cX4_lineAt 18 = .ok (.dup, 1) := by decide +kernel
theorem dX4_lineAt_19 : decode cX4_lineAt 19 = .ok (.ldc_w 352, 3) := by decide +kernel
theorem dX4_lineAt_22 : decode cX4_lineAt 22 = .ok (.invokespecial 98, 3) := by decide +kernel
theorem dX4_lineAt_25 : decode cX4_lineAt 25 = .ok (.athrow, 1) := by decide +kernel
theorem dX4_lineAt_26 : decode cX4_lineAt 26 = .ok (.aload_n 0, 1) := by decide +kernel
theorem dX4_lineAt_27 : decode cX4_lineAt 27 = .ok (.getfield 53, 3) := by decide +kernel
theorem dX4_lineAt_30 : decode cX4_lineAt 30 = .ok (.iload_n 1, 1) := by decide +kernel
theorem dX4_lineAt_31 : decode cX4_lineAt 31 = .ok (.invokevirtual 354, 3) := by decide +kernel
theorem dX4_lineAt_34 : decode cX4_lineAt 34 = .ok (.ireturn, 1) := by decide +kernel
theorem dX4_meanArrears_0 : decode cX4_meanArrears 0 = .ok (.aload_n 0, 1) := by decide +kernel
theorem dX4_meanArrears_1 : decode cX4_meanArrears 1 = .ok (.getfield 10, 3) := by decide +kernel
theorem dX4_meanArrears_4 : decode cX4_meanArrears 4 = .ok (.getfield 117, 3) := by decide +kernel
theorem dX4_meanArrears_7 : decode cX4_meanArrears 7 = .ok (.ifCond .ne 14, 3) := by decide +kernel
theorem dX4_meanArrears_10 : decode cX4_meanArrears 10 = .ok (.new 358, 3) := by decide +kernel
theorem dX4_meanArrears_13 : decode cX4_meanArrears 13 = .ok (.dup, 1) := by decide +kernel
theorem dX4_meanArrears_14 : decode cX4_meanArrears 14 = .ok (.ldc_w 360, 3) := by decide +kernel
theorem dX4_meanArrears_17 : decode cX4_meanArrears 17 = .ok (.invokespecial 362, 3) := by decide +kernel
theorem dX4_meanArrears_20 : decode cX4_meanArrears 20 = .ok (.athrow, 1) := by decide +kernel
theorem dX4_meanArrears_21 : decode cX4_meanArrears 21 = .ok (.aload_n 0, 1) := by decide +kernel
theorem dX4_meanArrears_22 : decode cX4_meanArrears 22 = .ok (.getfield 10, 3) := by decide +kernel
theorem dX4_meanArrears_25 : decode cX4_meanArrears 25 = .ok (.invokevirtual 363, 3) := by decide +kernel
theorem dX4_meanArrears_28 : decode cX4_meanArrears 28 = .ok (.i2d, 1) := by decide +kernel
theorem dX4_meanArrears_29 : decode cX4_meanArrears 29 = .ok (.aload_n 0, 1) := by decide +kernel
theorem dX4_meanArrears_30 : decode cX4_meanArrears 30 = .ok (.getfield 10, 3) := by decide +kernel
theorem dX4_meanArrears_33 : decode cX4_meanArrears 33 = .ok (.getfield 117, 3) := by decide +kernel
theorem dX4_meanArrears_36 : decode cX4_meanArrears 36 = .ok (.i2d, 1) := by decide +kernel
theorem dX4_meanArrears_37 : decode cX4_meanArrears 37 = .ok (.ddiv, 1) := by decide +kernel
theorem dX4_meanArrears_38 : decode cX4_meanArrears 38 = .ok (.dreturn, 1) := by decide +kernel
theorem dX4_rentedShare_0 : decode cX4_rentedShare 0 = .ok (.aload_n 0, 1) := by decide +kernel
theorem dX4_rentedShare_1 : decode cX4_rentedShare 1 = .ok (.getfield 10, 3) := by decide +kernel
theorem dX4_rentedShare_4 : decode cX4_rentedShare 4 = .ok (.getfield 141, 3) := by decide +kernel
theorem dX4_rentedShare_7 : decode cX4_rentedShare 7 = .ok (.ifCond .ne 14, 3) := by decide +kernel
theorem dX4_rentedShare_10 : decode cX4_rentedShare 10 = .ok (.new 358, 3) := by decide +kernel
theorem dX4_rentedShare_13 : decode cX4_rentedShare 13 = .ok (.dup, 1) := by decide +kernel
theorem dX4_rentedShare_14 : decode cX4_rentedShare 14 = .ok (.ldc_w 366, 3) := by decide +kernel
theorem dX4_rentedShare_17 : decode cX4_rentedShare 17 = .ok (.invokespecial 362, 3) := by decide +kernel
theorem dX4_rentedShare_20 : decode cX4_rentedShare 20 = .ok (.athrow, 1) := by decide +kernel
theorem dX4_rentedShare_21 : decode cX4_rentedShare 21 = .ok (.aload_n 0, 1) := by decide +kernel
theorem dX4_rentedShare_22 : decode cX4_rentedShare 22 = .ok (.getfield 10, 3) := by decide +kernel
theorem dX4_rentedShare_25 : decode cX4_rentedShare 25 = .ok (.invokevirtual 368, 3) := by decide +kernel
theorem dX4_rentedShare_28 : decode cX4_rentedShare 28 = .ok (.i2f, 1) := by decide +kernel
theorem dX4_rentedShare_29 : decode cX4_rentedShare 29 = .ok (.aload_n 0, 1) := by decide +kernel
theorem dX4_rentedShare_30 : decode cX4_rentedShare 30 = .ok (.getfield 10, 3) := by decide +kernel
theorem dX4_rentedShare_33 : decode cX4_rentedShare 33 = .ok (.getfield 141, 3) := by decide +kernel
theorem dX4_rentedShare_36 : decode cX4_rentedShare 36 = .ok (.i2f, 1) := by decide +kernel
theorem dX4_rentedShare_37 : decode cX4_rentedShare 37 = .ok (.fdiv, 1) := by decide +kernel
theorem dX4_rentedShare_38 : decode cX4_rentedShare 38 = .ok (.freturn, 1) := by decide +kernel
theorem dX4_isConsistent_0 : decode cX4_isConsistent 0 = .ok (.aload_n 0, 1) := by decide +kernel
theorem dX4_isConsistent_1 : decode cX4_isConsistent 1 = .ok (.getfield 10, 3) := by decide +kernel
theorem dX4_isConsistent_4 : decode cX4_isConsistent 4 = .ok (.getfield 289, 3) := by decide +kernel
theorem dX4_isConsistent_7 : decode cX4_isConsistent 7 = .ok (.aload_n 0, 1) := by decide +kernel
theorem dX4_isConsistent_8 : decode cX4_isConsistent 8 = .ok (.getfield 10, 3) := by decide +kernel
theorem dX4_isConsistent_11 : decode cX4_isConsistent 11 = .ok (.getfield 286, 3) := by decide +kernel
theorem dX4_isConsistent_14 : decode cX4_isConsistent 14 = .ok (.aload_n 0, 1) := by decide +kernel
theorem dX4_isConsistent_15 : decode cX4_isConsistent 15 = .ok (.getfield 10, 3) := by decide +kernel
theorem dX4_isConsistent_18 : decode cX4_isConsistent 18 = .ok (.invokevirtual 363, 3) := by decide +kernel
theorem dX4_isConsistent_21 : decode cX4_isConsistent 21 = .ok (.iadd, 1) := by decide +kernel
theorem dX4_isConsistent_22 : decode cX4_isConsistent 22 = .ok (.if_icmp .ne 34, 3) := by decide +kernel
theorem dX4_isConsistent_25 : decode cX4_isConsistent 25 = .ok (.aload_n 0, 1) := by decide +kernel
theorem dX4_isConsistent_26 : decode cX4_isConsistent 26 = .ok (.getfield 10, 3) := by decide +kernel
theorem dX4_isConsistent_29 : decode cX4_isConsistent 29 = .ok (.invokevirtual 371, 3) := by decide +kernel
theorem dX4_isConsistent_32 : decode cX4_isConsistent 32 = .ok (.ifCond .eq 24, 3) := by decide +kernel
theorem dX4_isConsistent_35 : decode cX4_isConsistent 35 = .ok (.aload_n 0, 1) := by decide +kernel
theorem dX4_isConsistent_36 : decode cX4_isConsistent 36 = .ok (.getfield 10, 3) := by decide +kernel
theorem dX4_isConsistent_39 : decode cX4_isConsistent 39 = .ok (.invokevirtual 374, 3) := by decide +kernel
theorem dX4_isConsistent_42 : decode cX4_isConsistent 42 = .ok (.ifCond .eq 14, 3) := by decide +kernel
theorem dX4_isConsistent_45 : decode cX4_isConsistent 45 = .ok (.aload_n 0, 1) := by decide +kernel
theorem dX4_isConsistent_46 : decode cX4_isConsistent 46 = .ok (.invokevirtual 377, 3) := by decide +kernel
theorem dX4_isConsistent_49 : decode cX4_isConsistent 49 = .ok (.ifCond .eq 7, 3) := by decide +kernel
theorem dX4_isConsistent_52 : decode cX4_isConsistent 52 = .ok (.iconst 1, 1) := by decide +kernel
theorem dX4_isConsistent_53 : decode cX4_isConsistent 53 = .ok (.goto 4, 3) := by decide +kernel
theorem dX4_isConsistent_56 : decode cX4_isConsistent 56 = .ok (.iconst 0, 1) := by decide +kernel
theorem dX4_isConsistent_57 : decode cX4_isConsistent 57 = .ok (.ireturn, 1) := by decide +kernel
theorem dX4_undo_0 : decode cX4_undo 0 = .ok (.aload_n 0, 1) := by decide +kernel
theorem dX4_undo_1 : decode cX4_undo 1 = .ok (.getfield 29, 3) := by decide +kernel
theorem dX4_undo_4 : decode cX4_undo 4 = .ok (.getfield 380, 3) := by decide +kernel
theorem dX4_undo_7 : decode cX4_undo 7 = .ok (.ifCond .ne 14, 3) := by decide +kernel
theorem dX4_undo_10 : decode cX4_undo 10 = .ok (.new 68, 3) := by decide +kernel
theorem dX4_undo_13 : decode cX4_undo 13 = .ok (.dup, 1) := by decide +kernel
theorem dX4_undo_14 : decode cX4_undo 14 = .ok (.ldc_w 383, 3) := by decide +kernel
theorem dX4_undo_17 : decode cX4_undo 17 = .ok (.invokespecial 72, 3) := by decide +kernel
theorem dX4_undo_20 : decode cX4_undo 20 = .ok (.athrow, 1) := by decide +kernel
theorem dX4_undo_21 : decode cX4_undo 21 = .ok (.aload_n 0, 1) := by decide +kernel
theorem dX4_undo_22 : decode cX4_undo 22 = .ok (.getfield 29, 3) := by decide +kernel
theorem dX4_undo_25 : decode cX4_undo 25 = .ok (.aload_n 0, 1) := by decide +kernel
theorem dX4_undo_26 : decode cX4_undo 26 = .ok (.getfield 10, 3) := by decide +kernel
theorem dX4_undo_29 : decode cX4_undo 29 = .ok (.invokevirtual 385, 3) := by decide +kernel
theorem dX4_undo_32 : decode cX4_undo 32 = .ok (.aload_n 0, 1) := by decide +kernel
theorem dX4_undo_33 : decode cX4_undo 33 = .ok (.getfield 29, 3) := by decide +kernel
theorem dX4_undo_36 : decode cX4_undo 36 = .ok (.getfield 380, 3) := by decide +kernel
theorem dX4_undo_39 : decode cX4_undo 39 = .ok (.ireturn, 1) := by decide +kernel
theorem dX4_save_0 : decode cX4_save 0 = .ok (.aload_n 0, 1) := by decide +kernel
theorem dX4_save_1 : decode cX4_save 1 = .ok (.getfield 19, 3) := by decide +kernel
theorem dX4_save_4 : decode cX4_save 4 = .ok (.aload_n 0, 1) := by decide +kernel
theorem dX4_save_5 : decode cX4_save 5 = .ok (.getfield 10, 3) := by decide +kernel
theorem dX4_save_8 : decode cX4_save 8 = .ok (.invokevirtual 266, 3) := by decide +kernel
theorem dX4_save_11 : decode cX4_save 11 = .ok (.aload_n 0, 1) := by decide +kernel
theorem dX4_save_12 : decode cX4_save 12 = .ok (.iconst 1, 1) := by decide +kernel
theorem dX4_save_13 : decode cX4_save 13 = .ok (.putfield 22, 3) := by decide +kernel
theorem dX4_save_16 : decode cX4_save 16 = .ok (.aload_n 0, 1) := by decide +kernel
theorem dX4_save_17 : decode cX4_save 17 = .ok (.getfield 10, 3) := by decide +kernel
theorem dX4_save_20 : decode cX4_save 20 = .ok (.getfield 209, 3) := by decide +kernel
theorem dX4_save_23 : decode cX4_save 23 = .ok (.getfield 213, 3) := by decide +kernel
theorem dX4_save_26 : decode cX4_save 26 = .ok (.ireturn, 1) := by decide +kernel
theorem dX4_restore_0 : decode cX4_restore 0 = .ok (.aload_n 0, 1) := by decide +kernel
theorem dX4_restore_1 : decode cX4_restore 1 = .ok (.getfield 22, 3) := by decide +kernel
theorem dX4_restore_4 : decode cX4_restore 4 = .ok (.ifCond .ne 14, 3) := by decide +kernel
theorem dX4_restore_7 : decode cX4_restore 7 = .ok (.new 68, 3) := by decide +kernel
theorem dX4_restore_10 : decode cX4_restore 10 = .ok (.dup, 1) := by decide +kernel
theorem dX4_restore_11 : decode cX4_restore 11 = .ok (.ldc_w 388, 3) := by decide +kernel
theorem dX4_restore_14 : decode cX4_restore 14 = .ok (.invokespecial 72, 3) := by decide +kernel
theorem dX4_restore_17 : decode cX4_restore 17 = .ok (.athrow, 1) := by decide +kernel
theorem dX4_restore_18 : decode cX4_restore 18 = .ok (.aload_n 0, 1) := by decide +kernel
theorem dX4_restore_19 : decode cX4_restore 19 = .ok (.getfield 10, 3) := by decide +kernel
theorem dX4_restore_22 : decode cX4_restore 22 = .ok (.aload_n 0, 1) := by decide +kernel
theorem dX4_restore_23 : decode cX4_restore 23 = .ok (.getfield 19, 3) := by decide +kernel
theorem dX4_restore_26 : decode cX4_restore 26 = .ok (.invokevirtual 266, 3) := by decide +kernel
theorem dX4_restore_29 : decode cX4_restore 29 = .ok (.aload_n 0, 1) := by decide +kernel
theorem dX4_restore_30 : decode cX4_restore 30 = .ok (.getfield 29, 3) := by decide +kernel
theorem dX4_restore_33 : decode cX4_restore 33 = .ok (.invokevirtual 390, 3) := by decide +kernel
theorem dX4_restore_36 : decode cX4_restore 36 = .ok (.aload_n 0, 1) := by decide +kernel
theorem dX4_restore_37 : decode cX4_restore 37 = .ok (.getfield 10, 3) := by decide +kernel
theorem dX4_restore_40 : decode cX4_restore 40 = .ok (.getfield 209, 3) := by decide +kernel
theorem dX4_restore_43 : decode cX4_restore 43 = .ok (.getfield 213, 3) := by decide +kernel
theorem dX4_restore_46 : decode cX4_restore 46 = .ok (.ireturn, 1) := by decide +kernel
theorem dX4_requireCommittee_0 : decode cX4_requireCommittee 0 = .ok (.aload_n 0, 1) := by decide +kernel
theorem dX4_requireCommittee_1 : decode cX4_requireCommittee 1 = .ok (.getfield 10, 3) := by decide +kernel
theorem dX4_requireCommittee_4 : decode cX4_requireCommittee 4 = .ok (.iload_n 1, 1) := by decide +kernel
theorem dX4_requireCommittee_5 : decode cX4_requireCommittee 5 = .ok (.invokevirtual 393, 3) := by decide +kernel
theorem dX4_requireCommittee_8 : decode cX4_requireCommittee 8 = .ok (.ifCond .ne 13, 3) := by decide +kernel
theorem dX4_requireCommittee_11 : decode cX4_requireCommittee 11 = .ok (.new 94, 3) := by decide +kernel
theorem dX4_requireCommittee_14 : decode cX4_requireCommittee 14 = .ok (.dup, 1) := by decide +kernel
theorem dX4_requireCommittee_15 : decode cX4_requireCommittee 15 = .ok (.ldc 96, 2) := by decide +kernel
theorem dX4_requireCommittee_17 : decode cX4_requireCommittee 17 = .ok (.invokespecial 98, 3) := by decide +kernel
theorem dX4_requireCommittee_20 : decode cX4_requireCommittee 20 = .ok (.athrow, 1) := by decide +kernel
theorem dX4_requireCommittee_21 : decode cX4_requireCommittee 21 = .ok (.return_, 1) := by decide +kernel
theorem dX4_requireTail_0 : decode cX4_requireTail 0 = .ok (.aload_n 0, 1) := by decide +kernel
theorem dX4_requireTail_1 : decode cX4_requireTail 1 = .ok (.getfield 10, 3) := by decide +kernel
theorem dX4_requireTail_4 : decode cX4_requireTail 4 = .ok (.iload_n 1, 1) := by decide +kernel
theorem dX4_requireTail_5 : decode cX4_requireTail 5 = .ok (.invokevirtual 396, 3) := by decide +kernel
theorem dX4_requireTail_8 : decode cX4_requireTail 8 = .ok (.ifCond .ne 14, 3) := by decide +kernel
theorem dX4_requireTail_11 : decode cX4_requireTail 11 = .ok (.new 94, 3) := by decide +kernel
theorem dX4_requireTail_14 : decode cX4_requireTail 14 = .ok (.dup, 1) := by decide +kernel
theorem dX4_requireTail_15 : decode cX4_requireTail 15 = .ok (.ldc_w 399, 3) := by decide +kernel
theorem dX4_requireTail_18 : decode cX4_requireTail 18 = .ok (.invokespecial 98, 3) := by decide +kernel
theorem dX4_requireTail_21 : decode cX4_requireTail 21 = .ok (.athrow, 1) := by decide +kernel
theorem dX4_requireTail_22 : decode cX4_requireTail 22 = .ok (.return_, 1) := by decide +kernel
theorem dX4_requireMotion_0 : decode cX4_requireMotion 0 = .ok (.aload_n 0, 1) := by decide +kernel
theorem dX4_requireMotion_1 : decode cX4_requireMotion 1 = .ok (.getfield 10, 3) := by decide +kernel
theorem dX4_requireMotion_4 : decode cX4_requireMotion 4 = .ok (.getfield 209, 3) := by decide +kernel
theorem dX4_requireMotion_7 : decode cX4_requireMotion 7 = .ok (.iload_n 1, 1) := by decide +kernel
theorem dX4_requireMotion_8 : decode cX4_requireMotion 8 = .ok (.invokevirtual 401, 3) := by decide +kernel
theorem dX4_requireMotion_11 : decode cX4_requireMotion 11 = .ok (.istore_n 2, 1) := by decide +kernel
theorem dX4_requireMotion_12 : decode cX4_requireMotion 12 = .ok (.iload_n 2, 1) := by decide +kernel
theorem dX4_requireMotion_13 : decode cX4_requireMotion 13 = .ok (.iconst (-1), 1) := by decide +kernel
theorem dX4_requireMotion_14 : decode cX4_requireMotion 14 = .ok (.if_icmp .ne 13, 3) := by decide +kernel
theorem dX4_requireMotion_17 : decode cX4_requireMotion 17 = .ok (.new 153, 3) := by decide +kernel
theorem dX4_requireMotion_20 : decode cX4_requireMotion 20 = .ok (.dup, 1) := by decide +kernel
theorem dX4_requireMotion_21 : decode cX4_requireMotion 21 = .ok (.ldc 177, 2) := by decide +kernel
theorem dX4_requireMotion_23 : decode cX4_requireMotion 23 = .ok (.invokespecial 157, 3) := by decide +kernel
theorem dX4_requireMotion_26 : decode cX4_requireMotion 26 = .ok (.athrow, 1) := by decide +kernel
theorem dX4_requireMotion_27 : decode cX4_requireMotion 27 = .ok (.iload_n 2, 1) := by decide +kernel
theorem dX4_requireMotion_28 : decode cX4_requireMotion 28 = .ok (.ireturn, 1) := by decide +kernel
theorem dX4_requireForecast_0 : decode cX4_requireForecast 0 = .ok (.aload_n 0, 1) := by decide +kernel
theorem dX4_requireForecast_1 : decode cX4_requireForecast 1 = .ok (.iload_n 1, 1) := by decide +kernel
theorem dX4_requireForecast_2 : decode cX4_requireForecast 2 = .ok (.invokevirtual 120, 3) := by decide +kernel
theorem dX4_requireForecast_5 : decode cX4_requireForecast 5 = .ok (.iload_n 2, 1) := by decide +kernel
theorem dX4_requireForecast_6 : decode cX4_requireForecast 6 = .ok (.ifCond .lt 9, 3) := by decide +kernel
theorem dX4_requireForecast_9 : decode cX4_requireForecast 9 = .ok (.iload_n 2, 1) := by decide +kernel
theorem dX4_requireForecast_10 : decode cX4_requireForecast 10 = .ok (.bipush 24, 2) := by decide +kernel
theorem dX4_requireForecast_12 : decode cX4_requireForecast 12 = .ok (.if_icmp .le 14, 3) := by decide +kernel
theorem dX4_requireForecast_15 : decode cX4_requireForecast 15 = .ok (.new 61, 3) := by decide +kernel
theorem dX4_requireForecast_18 : decode cX4_requireForecast 18 = .ok (.dup, 1) := by decide +kernel
theorem dX4_requireForecast_19 : decode cX4_requireForecast 19 = .ok (.ldc_w 404, 3) := by decide +kernel
theorem dX4_requireForecast_22 : decode cX4_requireForecast 22 = .ok (.invokespecial 65, 3) := by decide +kernel
theorem dX4_requireForecast_25 : decode cX4_requireForecast 25 = .ok (.athrow, 1) := by decide +kernel
theorem dX4_requireForecast_26 : decode cX4_requireForecast 26 = .ok (.return_, 1) := by decide +kernel
theorem dX4_makeMotion_0 : decode cX4_makeMotion 0 = .ok (.iload 4, 2) := by decide +kernel
theorem dX4_makeMotion_2 : decode cX4_makeMotion 2 = .ok (.iconst 1, 1) := by decide +kernel
theorem dX4_makeMotion_3 : decode cX4_makeMotion 3 = .ok (.if_icmp .ne 14, 3) := by decide +kernel
theorem dX4_makeMotion_6 : decode cX4_makeMotion 6 = .ok (.new 94, 3) := by decide +kernel
theorem dX4_makeMotion_9 : decode cX4_makeMotion 9 = .ok (.dup, 1) := by decide +kernel
theorem dX4_makeMotion_10 : decode cX4_makeMotion 10 = .ok (.ldc_w 406, 3) := by decide +kernel
theorem dX4_makeMotion_13 : decode cX4_makeMotion 13 = .ok (.invokespecial 98, 3) := by decide +kernel
theorem dX4_makeMotion_16 : decode cX4_makeMotion 16 = .ok (.athrow, 1) := by decide +kernel
theorem dX4_makeMotion_17 : decode cX4_makeMotion 17 = .ok (.iload 4, 2) := by decide +kernel
theorem dX4_makeMotion_19 : decode cX4_makeMotion 19 = .ok (.iconst 2, 1) := by decide +kernel
theorem dX4_makeMotion_20 : decode cX4_makeMotion 20 = .ok (.if_icmp .ne 14, 3) := by decide +kernel
theorem dX4_makeMotion_23 : decode cX4_makeMotion 23 = .ok (.new 68, 3) := by decide +kernel
theorem dX4_makeMotion_26 : decode cX4_makeMotion 26 = .ok (.dup, 1) := by decide +kernel
theorem dX4_makeMotion_27 : decode cX4_makeMotion 27 = .ok (.ldc_w 408, 3) := by decide +kernel
theorem dX4_makeMotion_30 : decode cX4_makeMotion 30 = .ok (.invokespecial 72, 3) := by decide +kernel
theorem dX4_makeMotion_33 : decode cX4_makeMotion 33 = .ok (.athrow, 1) := by decide +kernel
theorem dX4_makeMotion_34 : decode cX4_makeMotion 34 = .ok (.aload_n 0, 1) := by decide +kernel
theorem dX4_makeMotion_35 : decode cX4_makeMotion 35 = .ok (.getfield 29, 3) := by decide +kernel
theorem dX4_makeMotion_38 : decode cX4_makeMotion 38 = .ok (.aload_n 0, 1) := by decide +kernel
theorem dX4_makeMotion_39 : decode cX4_makeMotion 39 = .ok (.getfield 10, 3) := by decide +kernel
theorem dX4_makeMotion_42 : decode cX4_makeMotion 42 = .ok (.invokevirtual 73, 3) := by decide +kernel
theorem dX4_makeMotion_45 : decode cX4_makeMotion 45 = .ok (.aload_n 0, 1) := by decide +kernel
theorem dX4_makeMotion_46 : decode cX4_makeMotion 46 = .ok (.getfield 10, 3) := by decide +kernel
theorem dX4_makeMotion_49 : decode cX4_makeMotion 49 = .ok (.iload_n 1, 1) := by decide +kernel
theorem dX4_makeMotion_50 : decode cX4_makeMotion 50 = .ok (.iload_n 2, 1) := by decide +kernel
theorem dX4_makeMotion_51 : decode cX4_makeMotion 51 = .ok (.iload_n 3, 1) := by decide +kernel
theorem dX4_makeMotion_52 : decode cX4_makeMotion 52 = .ok (.invokevirtual 410, 3) := by decide +kernel
theorem dX4_makeMotion_55 : decode cX4_makeMotion 55 = .ok (.ireturn, 1) := by decide +kernel
theorem dX4_forecastsAgree_0 : decode cX4_forecastsAgree 0 = .ok (.iconst 0, 1) := by decide +kernel
theorem dX4_forecastsAgree_1 : decode cX4_forecastsAgree 1 = .ok (.istore_n 1, 1) := by decide +kernel
theorem dX4_forecastsAgree_2 : decode cX4_forecastsAgree 2 = .ok (.iload_n 1, 1) := by decide +kernel
theorem dX4_forecastsAgree_3 : decode cX4_forecastsAgree 3 = .ok (.aload_n 0, 1) := by decide +kernel
theorem dX4_forecastsAgree_4 : decode cX4_forecastsAgree 4 = .ok (.getfield 10, 3) := by decide +kernel
theorem dX4_forecastsAgree_7 : decode cX4_forecastsAgree 7 = .ok (.getfield 117, 3) := by decide +kernel
theorem dX4_forecastsAgree_10 : decode cX4_forecastsAgree 10 = .ok (.if_icmp .ge 40, 3) := by decide +kernel
theorem dX4_forecastsAgree_13 : decode cX4_forecastsAgree 13 = .ok (.iconst 0, 1) := by decide +kernel
theorem dX4_forecastsAgree_14 : decode cX4_forecastsAgree 14 = .ok (.istore_n 2, 1) := by decide +kernel
theorem dX4_forecastsAgree_15 : decode cX4_forecastsAgree 15 = .ok (.iload_n 2, 1) := by decide +kernel
theorem dX4_forecastsAgree_16 : decode cX4_forecastsAgree 16 = .ok (.bipush 12, 2) := by decide +kernel
theorem dX4_forecastsAgree_18 : decode cX4_forecastsAgree 18 = .ok (.if_icmp .gt 26, 3) := by decide +kernel
theorem dX4_forecastsAgree_21 : decode cX4_forecastsAgree 21 = .ok (.aload_n 0, 1) := by decide +kernel
theorem dX4_forecastsAgree_22 : decode cX4_forecastsAgree 22 = .ok (.iload_n 1, 1) := by decide +kernel
theorem dX4_forecastsAgree_23 : decode cX4_forecastsAgree 23 = .ok (.iload_n 2, 1) := by decide +kernel
theorem dX4_forecastsAgree_24 : decode cX4_forecastsAgree 24 = .ok (.invokevirtual 414, 3) := by decide +kernel
theorem dX4_forecastsAgree_27 : decode cX4_forecastsAgree 27 = .ok (.aload_n 0, 1) := by decide +kernel
theorem dX4_forecastsAgree_28 : decode cX4_forecastsAgree 28 = .ok (.iload_n 1, 1) := by decide +kernel
theorem dX4_forecastsAgree_29 : decode cX4_forecastsAgree 29 = .ok (.iload_n 2, 1) := by decide +kernel
theorem dX4_forecastsAgree_30 : decode cX4_forecastsAgree 30 = .ok (.invokevirtual 417, 3) := by decide +kernel
theorem dX4_forecastsAgree_33 : decode cX4_forecastsAgree 33 = .ok (.if_icmp .eq 5, 3) := by decide +kernel
theorem dX4_forecastsAgree_36 : decode cX4_forecastsAgree 36 = .ok (.iconst 0, 1) := by decide +kernel
theorem dX4_forecastsAgree_37 : decode cX4_forecastsAgree 37 = .ok (.ireturn, 1) := by decide +kernel
theorem dX4_forecastsAgree_38 : decode cX4_forecastsAgree 38 = .ok (.iinc 2 1, 3) := by decide +kernel
theorem dX4_forecastsAgree_41 : decode cX4_forecastsAgree 41 = .ok (.goto (-26), 3) := by decide +kernel
theorem dX4_forecastsAgree_44 : decode cX4_forecastsAgree 44 = .ok (.iinc 1 1, 3) := by decide +kernel
theorem dX4_forecastsAgree_47 : decode cX4_forecastsAgree 47 = .ok (.goto (-45), 3) := by decide +kernel
theorem dX4_forecastsAgree_50 : decode cX4_forecastsAgree 50 = .ok (.iconst 1, 1) := by decide +kernel
theorem dX4_forecastsAgree_51 : decode cX4_forecastsAgree 51 = .ok (.ireturn, 1) := by decide +kernel
theorem dX5_init_0 : decode cX5_init 0 = .ok (.aload_n 0, 1) := by decide +kernel
theorem dX5_init_1 : decode cX5_init 1 = .ok (.invokespecial 1, 3) := by decide +kernel
theorem dX5_init_4 : decode cX5_init 4 = .ok (.aload_n 0, 1) := by decide +kernel
theorem dX5_init_5 : decode cX5_init 5 = .ok (.bipush 91, 2) := by decide +kernel
theorem dX5_init_7 : decode cX5_init 7 = .ok (.newarray .int, 2) := by decide +kernel
theorem dX5_init_9 : decode cX5_init 9 = .ok (.putfield 7, 3) := by decide +kernel
theorem dX5_init_12 : decode cX5_init 12 = .ok (.aload_n 0, 1) := by decide +kernel
theorem dX5_init_13 : decode cX5_init 13 = .ok (.sipush 728, 3) := by decide +kernel
theorem dX5_init_16 : decode cX5_init 16 = .ok (.newarray .int, 2) := by decide +kernel
theorem dX5_init_18 : decode cX5_init 18 = .ok (.putfield 13, 3) := by decide +kernel
theorem dX5_init_21 : decode cX5_init 21 = .ok (.aload_n 0, 1) := by decide +kernel
theorem dX5_init_22 : decode cX5_init 22 = .ok (.bipush 91, 2) := by decide +kernel
theorem dX5_init_24 : decode cX5_init 24 = .ok (.newarray .int, 2) := by decide +kernel
theorem dX5_init_26 : decode cX5_init 26 = .ok (.putfield 16, 3) := by decide +kernel
theorem dX5_init_29 : decode cX5_init 29 = .ok (.aload_n 0, 1) := by decide +kernel
theorem dX5_init_30 : decode cX5_init 30 = .ok (.bipush 91, 2) := by decide +kernel
theorem dX5_init_32 : decode cX5_init 32 = .ok (.newarray .int, 2) := by decide +kernel
theorem dX5_init_34 : decode cX5_init 34 = .ok (.putfield 19, 3) := by decide +kernel
theorem dX5_init_37 : decode cX5_init 37 = .ok (.aload_n 0, 1) := by decide +kernel
theorem dX5_init_38 : decode cX5_init 38 = .ok (.bipush 91, 2) := by decide +kernel
theorem dX5_init_40 : decode cX5_init 40 = .ok (.newarray .int, 2) := by decide +kernel
theorem dX5_init_42 : decode cX5_init 42 = .ok (.putfield 22, 3) := by decide +kernel
theorem dX5_init_45 : decode cX5_init 45 = .ok (.aload_n 0, 1) := by decide +kernel
theorem dX5_init_46 : decode cX5_init 46 = .ok (.bipush 60, 2) := by decide +kernel
theorem dX5_init_48 : decode cX5_init 48 = .ok (.newarray .char, 2) := by decide +kernel
theorem dX5_init_50 : decode cX5_init 50 = .ok (.putfield 25, 3) := by decide +kernel
theorem dX5_init_53 : decode cX5_init 53 = .ok (.aload_n 0, 1) := by decide +kernel
theorem dX5_init_54 : decode cX5_init 54 = .ok (.bipush 60, 2) := by decide +kernel
theorem dX5_init_56 : decode cX5_init 56 = .ok (.newarray .char, 2) := by decide +kernel
theorem dX5_init_58 : decode cX5_init 58 = .ok (.putfield 29, 3) := by decide +kernel
theorem dX5_init_61 : decode cX5_init 61 = .ok (.aload_n 0, 1) := by decide +kernel
theorem dX5_init_62 : decode cX5_init 62 = .ok (.iconst (-1), 1) := by decide +kernel
theorem dX5_init_63 : decode cX5_init 63 = .ok (.putfield 32, 3) := by decide +kernel
theorem dX5_init_66 : decode cX5_init 66 = .ok (.aload_n 0, 1) := by decide +kernel
theorem dX5_init_67 : decode cX5_init 67 = .ok (.iconst (-1), 1) := by decide +kernel
theorem dX5_init_68 : decode cX5_init 68 = .ok (.putfield 36, 3) := by decide +kernel
theorem dX5_init_71 : decode cX5_init 71 = .ok (.aload_n 0, 1) := by decide +kernel
theorem dX5_init_72 : decode cX5_init 72 = .ok (.iconst 2, 1) := by decide +kernel
theorem dX5_init_73 : decode cX5_init 73 = .ok (.newarray .int, 2) := by decide +kernel
theorem dX5_init_75 : decode cX5_init 75 = .ok (.putfield 39, 3) := by decide +kernel
theorem dX5_init_78 : decode cX5_init 78 = .ok (.return_, 1) := by decide +kernel
theorem dX5_thrown_0 : decode cX5_thrown 0 = .ok (.aload_n 0, 1) := by decide +kernel
theorem dX5_thrown_1 : decode cX5_thrown 1 = .ok (.getfield 42, 3) := by decide +kernel
theorem dX5_thrown_4 : decode cX5_thrown 4 = .ok (.ireturn, 1) := by decide +kernel
theorem dX5_fails_0 : decode cX5_fails 0 = .ok (.aload_n 0, 1) := by decide +kernel
theorem dX5_fails_1 : decode cX5_fails 1 = .ok (.iload_n 1, 1) := by decide +kernel
theorem dX5_fails_2 : decode cX5_fails 2 = .ok (.putfield 42, 3) := by decide +kernel
theorem dX5_fails_5 : decode cX5_fails 5 = .ok (.iconst 0, 1) := by decide +kernel
theorem dX5_fails_6 : decode cX5_fails 6 = .ok (.ireturn, 1) := by decide +kernel
theorem dX5_isBetween_0 : decode cX5_isBetween 0 = .ok (.iload_n 1, 1) := by decide +kernel
theorem dX5_isBetween_1 : decode cX5_isBetween 1 = .ok (.iload_n 0, 1) := by decide +kernel
theorem dX5_isBetween_2 : decode cX5_isBetween 2 = .ok (.if_icmp .gt 12, 3) := by decide +kernel
theorem dX5_isBetween_5 : decode cX5_isBetween 5 = .ok (.iload_n 0, 1) := by decide +kernel
theorem dX5_isBetween_6 : decode cX5_isBetween 6 = .ok (.iload_n 2, 1) := by decide +kernel
theorem dX5_isBetween_7 : decode cX5_isBetween 7 = .ok (.if_icmp .gt 7, 3) := by decide +kernel
theorem dX5_isBetween_10 : decode cX5_isBetween 10 = .ok (.iconst 1, 1) := by decide +kernel
theorem dX5_isBetween_11 : decode cX5_isBetween 11 = .ok (.goto 4, 3) := by decide +kernel
theorem dX5_isBetween_14 : decode cX5_isBetween 14 = .ok (.iconst 0, 1) := by decide +kernel
theorem dX5_isBetween_15 : decode cX5_isBetween 15 = .ok (.ireturn, 1) := by decide +kernel
theorem dX5_copies_0 : decode cX5_copies 0 = .ok (.iconst 0, 1) := by decide +kernel
theorem dX5_copies_1 : decode cX5_copies 1 = .ok (.istore_n 1, 1) := by decide +kernel
theorem dX5_copies_2 : decode cX5_copies 2 = .ok (.iload_n 1, 1) := by decide +kernel
theorem dX5_copies_3 : decode cX5_copies 3 = .ok (.bipush 91, 2) := by decide +kernel
theorem dX5_copies_5 : decode cX5_copies 5 = .ok (.if_icmp .ge 21, 3) := by decide +kernel
theorem dX5_copies_8 : decode cX5_copies 8 = .ok (.aload_n 0, 1) := by decide +kernel
theorem dX5_copies_9 : decode cX5_copies 9 = .ok (.getfield 19, 3) := by decide +kernel
theorem dX5_copies_12 : decode cX5_copies 12 = .ok (.iload_n 1, 1) := by decide +kernel
theorem dX5_copies_13 : decode cX5_copies 13 = .ok (.aload_n 0, 1) := by decide +kernel
theorem dX5_copies_14 : decode cX5_copies 14 = .ok (.getfield 7, 3) := by decide +kernel
theorem dX5_copies_17 : decode cX5_copies 17 = .ok (.iload_n 1, 1) := by decide +kernel
theorem dX5_copies_18 : decode cX5_copies 18 = .ok (.iaload, 1) := by decide +kernel
theorem dX5_copies_19 : decode cX5_copies 19 = .ok (.iastore, 1) := by decide +kernel
theorem dX5_copies_20 : decode cX5_copies 20 = .ok (.iinc 1 1, 3) := by decide +kernel
theorem dX5_copies_23 : decode cX5_copies 23 = .ok (.goto (-21), 3) := by decide +kernel
theorem dX5_copies_26 : decode cX5_copies 26 = .ok (.return_, 1) := by decide +kernel
theorem dX5_goesBack_0 : decode cX5_goesBack 0 = .ok (.iconst 0, 1) := by decide +kernel
theorem dX5_goesBack_1 : decode cX5_goesBack 1 = .ok (.istore_n 1, 1) := by decide +kernel
theorem dX5_goesBack_2 : decode cX5_goesBack 2 = .ok (.iload_n 1, 1) := by decide +kernel
theorem dX5_goesBack_3 : decode cX5_goesBack 3 = .ok (.bipush 91, 2) := by decide +kernel
theorem dX5_goesBack_5 : decode cX5_goesBack 5 = .ok (.if_icmp .ge 21, 3) := by decide +kernel
theorem dX5_goesBack_8 : decode cX5_goesBack 8 = .ok (.aload_n 0, 1) := by decide +kernel
theorem dX5_goesBack_9 : decode cX5_goesBack 9 = .ok (.getfield 7, 3) := by decide +kernel
theorem dX5_goesBack_12 : decode cX5_goesBack 12 = .ok (.iload_n 1, 1) := by decide +kernel
theorem dX5_goesBack_13 : decode cX5_goesBack 13 = .ok (.aload_n 0, 1) := by decide +kernel
theorem dX5_goesBack_14 : decode cX5_goesBack 14 = .ok (.getfield 19, 3) := by decide +kernel
theorem dX5_goesBack_17 : decode cX5_goesBack 17 = .ok (.iload_n 1, 1) := by decide +kernel
theorem dX5_goesBack_18 : decode cX5_goesBack 18 = .ok (.iaload, 1) := by decide +kernel
theorem dX5_goesBack_19 : decode cX5_goesBack 19 = .ok (.iastore, 1) := by decide +kernel
theorem dX5_goesBack_20 : decode cX5_goesBack 20 = .ok (.iinc 1 1, 3) := by decide +kernel
theorem dX5_goesBack_23 : decode cX5_goesBack 23 = .ok (.goto (-21), 3) := by decide +kernel
theorem dX5_goesBack_26 : decode cX5_goesBack 26 = .ok (.return_, 1) := by decide +kernel
theorem dX5_keeps_0 : decode cX5_keeps 0 = .ok (.aload_n 0, 1) := by decide +kernel
theorem dX5_keeps_1 : decode cX5_keeps 1 = .ok (.getfield 45, 3) := by decide +kernel
theorem dX5_keeps_4 : decode cX5_keeps 4 = .ok (.bipush 8, 2) := by decide +kernel
theorem dX5_keeps_6 : decode cX5_keeps 6 = .ok (.if_icmp .ne 26, 3) := by decide +kernel
theorem dX5_keeps_9 : decode cX5_keeps 9 = .ok (.aload_n 0, 1) := by decide +kernel
theorem dX5_keeps_10 : decode cX5_keeps 10 = .ok (.aload_n 0, 1) := by decide +kernel
theorem dX5_keeps_11 : decode cX5_keeps 11 = .ok (.getfield 48, 3) := by decide +kernel
theorem dX5_keeps_14 : decode cX5_keeps 14 = .ok (.iconst 1, 1) := by decide +kernel
theorem dX5_keeps_15 : decode cX5_keeps 15 = .ok (.iadd, 1) := by decide +kernel
theorem dX5_keeps_16 : decode cX5_keeps 16 = .ok (.bipush 8, 2) := by decide +kernel
theorem dX5_keeps_18 : decode cX5_keeps 18 = .ok (.irem, 1) := by decide +kernel
theorem dX5_keeps_19 : decode cX5_keeps 19 = .ok (.putfield 48, 3) := by decide +kernel
theorem dX5_keeps_22 : decode cX5_keeps 22 = .ok (.aload_n 0, 1) := by decide +kernel
theorem dX5_keeps_23 : decode cX5_keeps 23 = .ok (.dup, 1) := by decide +kernel
theorem dX5_keeps_24 : decode cX5_keeps 24 = .ok (.getfield 45, 3) := by decide +kernel
theorem dX5_keeps_27 : decode cX5_keeps 27 = .ok (.iconst 1, 1) := by decide +kernel
theorem dX5_keeps_28 : decode cX5_keeps 28 = .ok (.isub, 1) := by decide +kernel
theorem dX5_keeps_29 : decode cX5_keeps 29 = .ok (.putfield 45, 3) := by decide +kernel
theorem dX5_keeps_32 : decode cX5_keeps 32 = .ok (.aload_n 0, 1) := by decide +kernel
theorem dX5_keeps_33 : decode cX5_keeps 33 = .ok (.getfield 48, 3) := by decide +kernel
theorem dX5_keeps_36 : decode cX5_keeps 36 = .ok (.aload_n 0, 1) := by decide +kernel
theorem dX5_keeps_37 : decode cX5_keeps 37 = .ok (.getfield 45, 3) := by decide +kernel
theorem dX5_keeps_40 : decode cX5_keeps 40 = .ok (.iadd, 1) := by decide +kernel
theorem dX5_keeps_41 : decode cX5_keeps 41 = .ok (.bipush 8, 2) := by decide +kernel
theorem dX5_keeps_43 : decode cX5_keeps 43 = .ok (.irem, 1) := by decide +kernel
theorem dX5_keeps_44 : decode cX5_keeps 44 = .ok (.istore_n 1, 1) := by decide +kernel
theorem dX5_keeps_45 : decode cX5_keeps 45 = .ok (.iconst 0, 1) := by decide +kernel
theorem dX5_keeps_46 : decode cX5_keeps 46 = .ok (.istore_n 2, 1) := by decide +kernel
theorem dX5_keeps_47 : decode cX5_keeps 47 = .ok (.iload_n 2, 1) := by decide +kernel
theorem dX5_keeps_48 : decode cX5_keeps 48 = .ok (.bipush 91, 2) := by decide +kernel
theorem dX5_keeps_50 : decode cX5_keeps 50 = .ok (.if_icmp .ge 26, 3) := by decide +kernel
theorem dX5_keeps_53 : decode cX5_keeps 53 = .ok (.aload_n 0, 1) := by decide +kernel
theorem dX5_keeps_54 : decode cX5_keeps 54 = .ok (.getfield 13, 3) := by decide +kernel
theorem dX5_keeps_57 : decode cX5_keeps 57 = .ok (.bipush 91, 2) := by decide +kernel
theorem dX5_keeps_59 : decode cX5_keeps 59 = .ok (.iload_n 1, 1) := by decide +kernel
theorem dX5_keeps_60 : decode cX5_keeps 60 = .ok (.imul, 1) := by decide +kernel
theorem dX5_keeps_61 : decode cX5_keeps 61 = .ok (.iload_n 2, 1) := by decide +kernel
theorem dX5_keeps_62 : decode cX5_keeps 62 = .ok (.iadd, 1) := by decide +kernel
theorem dX5_keeps_63 : decode cX5_keeps 63 = .ok (.aload_n 0, 1) := by decide +kernel
theorem dX5_keeps_64 : decode cX5_keeps 64 = .ok (.getfield 19, 3) := by decide +kernel
theorem dX5_keeps_67 : decode cX5_keeps 67 = .ok (.iload_n 2, 1) := by decide +kernel
theorem dX5_keeps_68 : decode cX5_keeps 68 = .ok (.iaload, 1) := by decide +kernel
theorem dX5_keeps_69 : decode cX5_keeps 69 = .ok (.iastore, 1) := by decide +kernel
theorem dX5_keeps_70 : decode cX5_keeps 70 = .ok (.iinc 2 1, 3) := by decide +kernel
theorem dX5_keeps_73 : decode cX5_keeps 73 = .ok (.goto (-26), 3) := by decide +kernel
theorem dX5_keeps_76 : decode cX5_keeps 76 = .ok (.aload_n 0, 1) := by decide +kernel
theorem dX5_keeps_77 : decode cX5_keeps 77 = .ok (.dup, 1) := by decide +kernel
theorem dX5_keeps_78 : decode cX5_keeps 78 = .ok (.getfield 45, 3) := by decide +kernel
theorem dX5_keeps_81 : decode cX5_keeps 81 = .ok (.iconst 1, 1) := by decide +kernel
theorem dX5_keeps_82 : decode cX5_keeps 82 = .ok (.iadd, 1) := by decide +kernel
theorem dX5_keeps_83 : decode cX5_keeps 83 = .ok (.putfield 45, 3) := by decide +kernel
theorem dX5_keeps_86 : decode cX5_keeps 86 = .ok (.return_, 1) := by decide +kernel
theorem dX5_remembers_0 : decode cX5_remembers 0 = .ok (.aload_n 0, 1) := by decide +kernel
theorem dX5_remembers_1 : decode cX5_remembers 1 = .ok (.invokevirtual 51, 3) := by decide +kernel
theorem dX5_remembers_4 : decode cX5_remembers 4 = .ok (.aload_n 0, 1) := by decide +kernel
theorem dX5_remembers_5 : decode cX5_remembers 5 = .ok (.invokevirtual 54, 3) := by decide +kernel
theorem dX5_remembers_8 : decode cX5_remembers 8 = .ok (.return_, 1) := by decide +kernel
theorem dX5_of_0 : decode cX5_of 0 = .ok (.aload_n 0, 1) := by decide +kernel
theorem dX5_of_1 : decode cX5_of 1 = .ok (.getfield 7, 3) := by decide +kernel
theorem dX5_of_4 : decode cX5_of 4 = .ok (.bipush 9, 2) := by decide +kernel
theorem dX5_of_6 : decode cX5_of 6 = .ok (.iconst 3, 1) := by decide +kernel
theorem dX5_of_7 : decode cX5_of 7 = .ok (.iload_n 1, 1) := by decide +kernel
theorem dX5_of_8 : decode cX5_of 8 = .ok (.imul, 1) := by decide +kernel
theorem dX5_of_9 : decode cX5_of 9 = .ok (.iadd, 1) := by decide +kernel
theorem dX5_of_10 : decode cX5_of 10 = .ok (.iload_n 2, 1) := by decide +kernel
theorem dX5_of_11 : decode cX5_of 11 = .ok (.iadd, 1) := by decide +kernel
theorem dX5_of_12 : decode cX5_of 12 = .ok (.iaload, 1) := by decide +kernel
theorem dX5_of_13 : decode cX5_of 13 = .ok (.ireturn, 1) := by decide +kernel
theorem dX5_puts_0 : decode cX5_puts 0 = .ok (.aload_n 0, 1) := by decide +kernel
theorem dX5_puts_1 : decode cX5_puts 1 = .ok (.getfield 7, 3) := by decide +kernel
theorem dX5_puts_4 : decode cX5_puts 4 = .ok (.bipush 9, 2) := by decide +kernel
theorem dX5_puts_6 : decode cX5_puts 6 = .ok (.iconst 3, 1) := by decide +kernel
theorem dX5_puts_7 : decode cX5_puts 7 = .ok (.iload_n 1, 1) := by decide +kernel
theorem dX5_puts_8 : decode cX5_puts 8 = .ok (.imul, 1) := by decide +kernel
theorem dX5_puts_9 : decode cX5_puts 9 = .ok (.iadd, 1) := by decide +kernel
theorem dX5_puts_10 : decode cX5_puts 10 = .ok (.iload_n 2, 1) := by decide +kernel
theorem dX5_puts_11 : decode cX5_puts 11 = .ok (.iadd, 1) := by decide +kernel
theorem dX5_puts_12 : decode cX5_puts 12 = .ok (.iload_n 3, 1) := by decide +kernel
theorem dX5_puts_13 : decode cX5_puts 13 = .ok (.iastore, 1) := by decide +kernel
theorem dX5_puts_14 : decode cX5_puts 14 = .ok (.return_, 1) := by decide +kernel
theorem dX5_tail_0 : decode cX5_tail 0 = .ok (.aload_n 0, 1) := by decide +kernel
theorem dX5_tail_1 : decode cX5_tail 1 = .ok (.getfield 7, 3) := by decide +kernel
theorem dX5_tail_4 : decode cX5_tail 4 = .ok (.bipush 27, 2) := by decide +kernel
theorem dX5_tail_6 : decode cX5_tail 6 = .ok (.iconst 2, 1) := by decide +kernel
theorem dX5_tail_7 : decode cX5_tail 7 = .ok (.iload_n 1, 1) := by decide +kernel
theorem dX5_tail_8 : decode cX5_tail 8 = .ok (.imul, 1) := by decide +kernel
theorem dX5_tail_9 : decode cX5_tail 9 = .ok (.iadd, 1) := by decide +kernel
theorem dX5_tail_10 : decode cX5_tail 10 = .ok (.iload_n 2, 1) := by decide +kernel
theorem dX5_tail_11 : decode cX5_tail 11 = .ok (.iadd, 1) := by decide +kernel
theorem dX5_tail_12 : decode cX5_tail 12 = .ok (.iaload, 1) := by decide +kernel
theorem dX5_tail_13 : decode cX5_tail 13 = .ok (.ireturn, 1) := by decide +kernel
theorem dX5_motion_0 : decode cX5_motion 0 = .ok (.aload_n 0, 1) := by decide +kernel
theorem dX5_motion_1 : decode cX5_motion 1 = .ok (.getfield 7, 3) := by decide +kernel
theorem dX5_motion_4 : decode cX5_motion 4 = .ok (.bipush 43, 2) := by decide +kernel
theorem dX5_motion_6 : decode cX5_motion 6 = .ok (.bipush 6, 2) := by decide +kernel
theorem dX5_motion_8 : decode cX5_motion 8 = .ok (.iload_n 1, 1) := by decide +kernel
theorem dX5_motion_9 : decode cX5_motion 9 = .ok (.imul, 1) := by decide +kernel
theorem dX5_motion_10 : decode cX5_motion 10 = .ok (.iadd, 1) := by decide +kernel
theorem dX5_motion_11 : decode cX5_motion 11 = .ok (.iload_n 2, 1) := by decide +kernel
theorem dX5_motion_12 : decode cX5_motion 12 = .ok (.iadd, 1) := by decide +kernel
theorem dX5_motion_13 : decode cX5_motion 13 = .ok (.iaload, 1) := by decide +kernel
theorem dX5_motion_14 : decode cX5_motion 14 = .ok (.ireturn, 1) := by decide +kernel
theorem dX5_sets_0 : decode cX5_sets 0 = .ok (.aload_n 0, 1) := by decide +kernel
theorem dX5_sets_1 : decode cX5_sets 1 = .ok (.getfield 7, 3) := by decide +kernel
theorem dX5_sets_4 : decode cX5_sets 4 = .ok (.bipush 43, 2) := by decide +kernel
theorem dX5_sets_6 : decode cX5_sets 6 = .ok (.bipush 6, 2) := by decide +kernel
theorem dX5_sets_8 : decode cX5_sets 8 = .ok (.iload_n 1, 1) := by decide +kernel
theorem dX5_sets_9 : decode cX5_sets 9 = .ok (.imul, 1) := by decide +kernel
theorem dX5_sets_10 : decode cX5_sets 10 = .ok (.iadd, 1) := by decide +kernel
theorem dX5_sets_11 : decode cX5_sets 11 = .ok (.iload_n 2, 1) := by decide +kernel
theorem dX5_sets_12 : decode cX5_sets 12 = .ok (.iadd, 1) := by decide +kernel
theorem dX5_sets_13 : decode cX5_sets 13 = .ok (.iload_n 3, 1) := by decide +kernel
theorem dX5_sets_14 : decode cX5_sets 14 = .ok (.iastore, 1) := by decide +kernel
theorem dX5_sets_15 : decode cX5_sets 15 = .ok (.return_, 1) := by decide +kernel
theorem dX5_isCommittee_0 : decode cX5_isCommittee 0 = .ok (.iload_n 1, 1) := by decide +kernel
theorem dX5_isCommittee_1 : decode cX5_isCommittee 1 = .ok (.iconst 0, 1) := by decide +kernel
theorem dX5_isCommittee_2 : decode cX5_isCommittee 2 = .ok (.aload_n 0, 1) := by decide +kernel
theorem dX5_isCommittee_3 : decode cX5_isCommittee 3 = .ok (.getfield 7, 3) := by decide +kernel
theorem dX5_isCommittee_6 : decode cX5_isCommittee 6 = .ok (.iconst 0, 1) := by decide +kernel
theorem dX5_isCommittee_7 : decode cX5_isCommittee 7 = .ok (.iaload, 1) := by decide +kernel
theorem dX5_isCommittee_8 : decode cX5_isCommittee 8 = .ok (.iconst 1, 1) := by decide +kernel
theorem dX5_isCommittee_9 : decode cX5_isCommittee 9 = .ok (.isub, 1) := by decide +kernel
theorem dX5_isCommittee_10 : decode cX5_isCommittee 10 = .ok (.invokestatic 57, 3) := by decide +kernel
theorem dX5_isCommittee_13 : decode cX5_isCommittee 13 = .ok (.ireturn, 1) := by decide +kernel
theorem dX5_isTail_0 : decode cX5_isTail 0 = .ok (.iload_n 1, 1) := by decide +kernel
theorem dX5_isTail_1 : decode cX5_isTail 1 = .ok (.iconst 0, 1) := by decide +kernel
theorem dX5_isTail_2 : decode cX5_isTail 2 = .ok (.aload_n 0, 1) := by decide +kernel
theorem dX5_isTail_3 : decode cX5_isTail 3 = .ok (.getfield 7, 3) := by decide +kernel
theorem dX5_isTail_6 : decode cX5_isTail 6 = .ok (.iconst 1, 1) := by decide +kernel
theorem dX5_isTail_7 : decode cX5_isTail 7 = .ok (.iaload, 1) := by decide +kernel
theorem dX5_isTail_8 : decode cX5_isTail 8 = .ok (.iconst 1, 1) := by decide +kernel
theorem dX5_isTail_9 : decode cX5_isTail 9 = .ok (.isub, 1) := by decide +kernel
theorem dX5_isTail_10 : decode cX5_isTail 10 = .ok (.invokestatic 57, 3) := by decide +kernel
theorem dX5_isTail_13 : decode cX5_isTail 13 = .ok (.ireturn, 1) := by decide +kernel
theorem dX5_slotOf_0 : decode cX5_slotOf 0 = .ok (.iconst 0, 1) := by decide +kernel
theorem dX5_slotOf_1 : decode cX5_slotOf 1 = .ok (.istore_n 2, 1) := by decide +kernel
theorem dX5_slotOf_2 : decode cX5_slotOf 2 = .ok (.iload_n 2, 1) := by decide +kernel
theorem dX5_slotOf_3 : decode cX5_slotOf 3 = .ok (.aload_n 0, 1) := by decide +kernel
theorem dX5_slotOf_4 : decode cX5_slotOf 4 = .ok (.getfield 7, 3) := by decide +kernel
theorem dX5_slotOf_7 : decode cX5_slotOf 7 = .ok (.iconst 2, 1) := by decide +kernel
theorem dX5_slotOf_8 : decode cX5_slotOf 8 = .ok (.iaload, 1) := by decide +kernel
theorem dX5_slotOf_9 : decode cX5_slotOf 9 = .ok (.if_icmp .ge 21, 3) := by decide +kernel
theorem dX5_slotOf_12 : decode cX5_slotOf 12 = .ok (.aload_n 0, 1) := by decide +kernel
theorem dX5_slotOf_13 : decode cX5_slotOf 13 = .ok (.iload_n 2, 1) := by decide +kernel
theorem dX5_slotOf_14 : decode cX5_slotOf 14 = .ok (.iconst 0, 1) := by decide +kernel
theorem dX5_slotOf_15 : decode cX5_slotOf 15 = .ok (.invokevirtual 61, 3) := by decide +kernel
theorem dX5_slotOf_18 : decode cX5_slotOf 18 = .ok (.iload_n 1, 1) := by decide +kernel
theorem dX5_slotOf_19 : decode cX5_slotOf 19 = .ok (.if_icmp .ne 5, 3) := by decide +kernel
theorem dX5_slotOf_22 : decode cX5_slotOf 22 = .ok (.iload_n 2, 1) := by decide +kernel
theorem dX5_slotOf_23 : decode cX5_slotOf 23 = .ok (.ireturn, 1) := by decide +kernel
theorem dX5_slotOf_24 : decode cX5_slotOf 24 = .ok (.iinc 2 1, 3) := by decide +kernel
theorem dX5_slotOf_27 : decode cX5_slotOf 27 = .ok (.goto (-25), 3) := by decide +kernel
theorem dX5_slotOf_30 : decode cX5_slotOf 30 = .ok (.iconst (-1), 1) := by decide +kernel
theorem dX5_slotOf_31 : decode cX5_slotOf 31 = .ok (.ireturn, 1) := by decide +kernel
theorem dX5_flies_0 : decode cX5_flies 0 = .ok (.aload_n 0, 1) := by decide +kernel
theorem dX5_flies_1 : decode cX5_flies 1 = .ok (.iload_n 1, 1) := by decide +kernel
theorem dX5_flies_2 : decode cX5_flies 2 = .ok (.iconst 2, 1) := by decide +kernel
theorem dX5_flies_3 : decode cX5_flies 3 = .ok (.invokevirtual 65, 3) := by decide +kernel
theorem dX5_flies_6 : decode cX5_flies 6 = .ok (.iconst 1, 1) := by decide +kernel
theorem dX5_flies_7 : decode cX5_flies 7 = .ok (.if_icmp .ne 7, 3) := by decide +kernel
theorem dX5_flies_10 : decode cX5_flies 10 = .ok (.iconst 1, 1) := by decide +kernel
theorem dX5_flies_11 : decode cX5_flies 11 = .ok (.goto 4, 3) := by decide +kernel
theorem dX5_flies_14 : decode cX5_flies 14 = .ok (.iconst 0, 1) := by decide +kernel
theorem dX5_flies_15 : decode cX5_flies 15 = .ok (.ireturn, 1) := by decide +kernel
theorem dX5_lengthBehind_0 : decode cX5_lengthBehind 0 = .ok (.iconst 0, 1) := by decide +kernel
theorem dX5_lengthBehind_1 : decode cX5_lengthBehind 1 = .ok (.istore_n 2, 1) := by decide +kernel
theorem dX5_lengthBehind_2 : decode cX5_lengthBehind 2 = .ok (.iconst 0, 1) := by decide +kernel
theorem dX5_lengthBehind_3 : decode cX5_lengthBehind 3 = .ok (.istore_n 3, 1) := by decide +kernel
theorem dX5_lengthBehind_4 : decode cX5_lengthBehind 4 = .ok (.iload_n 3, 1) := by decide +kernel
theorem dX5_lengthBehind_5 : decode cX5_lengthBehind 5 = .ok (.aload_n 0, 1) := by decide +kernel
theorem dX5_lengthBehind_6 : decode cX5_lengthBehind 6 = .ok (.getfield 7, 3) := by decide +kernel
theorem dX5_lengthBehind_9 : decode cX5_lengthBehind 9 = .ok (.iconst 1, 1) := by decide +kernel
theorem dX5_lengthBehind_10 : decode cX5_lengthBehind 10 = .ok (.iaload, 1) := by decide +kernel
theorem dX5_lengthBehind_11 : decode cX5_lengthBehind 11 = .ok (.if_icmp .ge 34, 3) := by decide +kernel
theorem dX5_lengthBehind_14 : decode cX5_lengthBehind 14 = .ok (.iload_n 2, 1) := by decide +kernel
theorem dX5_lengthBehind_15 : decode cX5_lengthBehind 15 = .ok (.aload_n 0, 1) := by decide +kernel
theorem dX5_lengthBehind_16 : decode cX5_lengthBehind 16 = .ok (.iload_n 3, 1) := by decide +kernel
theorem dX5_lengthBehind_17 : decode cX5_lengthBehind 17 = .ok (.iconst 1, 1) := by decide +kernel
theorem dX5_lengthBehind_18 : decode cX5_lengthBehind 18 = .ok (.invokevirtual 68, 3) := by decide +kernel
theorem dX5_lengthBehind_21 : decode cX5_lengthBehind 21 = .ok (.iload_n 1, 1) := by decide +kernel
theorem dX5_lengthBehind_22 : decode cX5_lengthBehind 22 = .ok (.iconst 1, 1) := by decide +kernel
theorem dX5_lengthBehind_23 : decode cX5_lengthBehind 23 = .ok (.iadd, 1) := by decide +kernel
theorem dX5_lengthBehind_24 : decode cX5_lengthBehind 24 = .ok (.if_icmp .ne 12, 3) := by decide +kernel
theorem dX5_lengthBehind_27 : decode cX5_lengthBehind 27 = .ok (.aload_n 0, 1) := by decide +kernel
theorem dX5_lengthBehind_28 : decode cX5_lengthBehind 28 = .ok (.iload_n 3, 1) := by decide +kernel
theorem dX5_lengthBehind_29 : decode cX5_lengthBehind 29 = .ok (.iconst 0, 1) := by decide +kernel
theorem dX5_lengthBehind_30 : decode cX5_lengthBehind 30 = .ok (.invokevirtual 68, 3) := by decide +kernel
theorem dX5_lengthBehind_33 : decode cX5_lengthBehind 33 = .ok (.goto 4, 3) := by decide +kernel
theorem dX5_lengthBehind_36 : decode cX5_lengthBehind 36 = .ok (.iconst 0, 1) := by decide +kernel
theorem dX5_lengthBehind_37 : decode cX5_lengthBehind 37 = .ok (.iadd, 1) := by decide +kernel
theorem dX5_lengthBehind_38 : decode cX5_lengthBehind 38 = .ok (.istore_n 2, 1) := by decide +kernel
theorem dX5_lengthBehind_39 : decode cX5_lengthBehind 39 = .ok (.iinc 3 1, 3) := by decide +kernel
theorem dX5_lengthBehind_42 : decode cX5_lengthBehind 42 = .ok (.goto (-38), 3) := by decide +kernel
theorem dX5_lengthBehind_45 : decode cX5_lengthBehind 45 = .ok (.iload_n 2, 1) := by decide +kernel
theorem dX5_lengthBehind_46 : decode cX5_lengthBehind 46 = .ok (.ireturn, 1) := by decide +kernel
theorem dX5_flying_0 : decode cX5_flying 0 = .ok (.iconst 0, 1) := by decide +kernel
theorem dX5_flying_1 : decode cX5_flying 1 = .ok (.istore_n 1, 1) := by decide +kernel
theorem dX5_flying_2 : decode cX5_flying 2 = .ok (.iconst 0, 1) := by decide +kernel
theorem dX5_flying_3 : decode cX5_flying 3 = .ok (.istore_n 2, 1) := by decide +kernel
theorem dX5_flying_4 : decode cX5_flying 4 = .ok (.iload_n 2, 1) := by decide +kernel
theorem dX5_flying_5 : decode cX5_flying 5 = .ok (.aload_n 0, 1) := by decide +kernel
theorem dX5_flying_6 : decode cX5_flying 6 = .ok (.getfield 7, 3) := by decide +kernel
theorem dX5_flying_9 : decode cX5_flying 9 = .ok (.iconst 0, 1) := by decide +kernel
theorem dX5_flying_10 : decode cX5_flying 10 = .ok (.iaload, 1) := by decide +kernel
theorem dX5_flying_11 : decode cX5_flying 11 = .ok (.if_icmp .ge 18, 3) := by decide +kernel
theorem dX5_flying_14 : decode cX5_flying 14 = .ok (.iload_n 1, 1) := by decide +kernel
theorem dX5_flying_15 : decode cX5_flying 15 = .ok (.aload_n 0, 1) := by decide +kernel
theorem dX5_flying_16 : decode cX5_flying 16 = .ok (.iload_n 2, 1) := by decide +kernel
theorem dX5_flying_17 : decode cX5_flying 17 = .ok (.iconst 2, 1) := by decide +kernel
theorem dX5_flying_18 : decode cX5_flying 18 = .ok (.invokevirtual 65, 3) := by decide +kernel
theorem dX5_flying_21 : decode cX5_flying 21 = .ok (.iadd, 1) := by decide +kernel
theorem dX5_flying_22 : decode cX5_flying 22 = .ok (.istore_n 1, 1) := by decide +kernel
theorem dX5_flying_23 : decode cX5_flying 23 = .ok (.iinc 2 1, 3) := by decide +kernel
theorem dX5_flying_26 : decode cX5_flying 26 = .ok (.goto (-22), 3) := by decide +kernel
theorem dX5_flying_29 : decode cX5_flying 29 = .ok (.iload_n 1, 1) := by decide +kernel
theorem dX5_flying_30 : decode cX5_flying 30 = .ok (.ireturn, 1) := by decide +kernel
theorem dX5_charges_0 : decode cX5_charges 0 = .ok (.aload_n 0, 1) := by decide +kernel
theorem dX5_charges_1 : decode cX5_charges 1 = .ok (.iload_n 1, 1) := by decide +kernel
theorem dX5_charges_2 : decode cX5_charges 2 = .ok (.iconst 1, 1) := by decide +kernel
theorem dX5_charges_3 : decode cX5_charges 3 = .ok (.aload_n 0, 1) := by decide +kernel
theorem dX5_charges_4 : decode cX5_charges 4 = .ok (.iload_n 1, 1) := by decide +kernel
theorem dX5_charges_5 : decode cX5_charges 5 = .ok (.iconst 1, 1) := by decide +kernel
theorem dX5_charges_6 : decode cX5_charges 6 = .ok (.invokevirtual 65, 3) := by decide +kernel
theorem dX5_charges_9 : decode cX5_charges 9 = .ok (.iload_n 2, 1) := by decide +kernel
theorem dX5_charges_10 : decode cX5_charges 10 = .ok (.iadd, 1) := by decide +kernel
theorem dX5_charges_11 : decode cX5_charges 11 = .ok (.invokevirtual 71, 3) := by decide +kernel
theorem dX5_charges_14 : decode cX5_charges 14 = .ok (.aload_n 0, 1) := by decide +kernel
theorem dX5_charges_15 : decode cX5_charges 15 = .ok (.getfield 7, 3) := by decide +kernel
theorem dX5_charges_18 : decode cX5_charges 18 = .ok (.bipush 8, 2) := by decide +kernel
theorem dX5_charges_20 : decode cX5_charges 20 = .ok (.dup2, 1) := by decide +kernel
theorem dX5_charges_21 : decode cX5_charges 21 = .ok (.iaload, 1) := by decide +kernel
theorem dX5_charges_22 : decode cX5_charges 22 = .ok (.iload_n 2, 1) := by decide +kernel
theorem dX5_charges_23 : decode cX5_charges 23 = .ok (.iadd, 1) := by decide +kernel
theorem dX5_charges_24 : decode cX5_charges 24 = .ok (.iastore, 1) := by decide +kernel
theorem dX5_charges_25 : decode cX5_charges 25 = .ok (.return_, 1) := by decide +kernel
theorem dX5_grounds_0 : decode cX5_grounds 0 = .ok (.aload_n 0, 1) := by decide +kernel
theorem dX5_grounds_1 : decode cX5_grounds 1 = .ok (.iload_n 1, 1) := by decide +kernel
theorem dX5_grounds_2 : decode cX5_grounds 2 = .ok (.iconst 2, 1) := by decide +kernel
theorem dX5_grounds_3 : decode cX5_grounds 3 = .ok (.iconst 0, 1) := by decide +kernel
theorem dX5_grounds_4 : decode cX5_grounds 4 = .ok (.invokevirtual 71, 3) := by decide +kernel
theorem dX5_grounds_7 : decode cX5_grounds 7 = .ok (.iconst 0, 1) := by decide +kernel
theorem dX5_grounds_8 : decode cX5_grounds 8 = .ok (.istore_n 2, 1) := by decide +kernel
theorem dX5_grounds_9 : decode cX5_grounds 9 = .ok (.iload_n 2, 1) := by decide +kernel
theorem dX5_grounds_10 : decode cX5_grounds 10 = .ok (.aload_n 0, 1) := by decide +kernel
theorem dX5_grounds_11 : decode cX5_grounds 11 = .ok (.getfield 7, 3) := by decide +kernel
theorem dX5_grounds_14 : decode cX5_grounds 14 = .ok (.iconst 1, 1) := by decide +kernel
theorem dX5_grounds_15 : decode cX5_grounds 15 = .ok (.iaload, 1) := by decide +kernel
theorem dX5_grounds_16 : decode cX5_grounds 16 = .ok (.if_icmp .ge 35, 3) := by decide +kernel
theorem dX5_grounds_19 : decode cX5_grounds 19 = .ok (.aload_n 0, 1) := by decide +kernel
theorem dX5_grounds_20 : decode cX5_grounds 20 = .ok (.iload_n 2, 1) := by decide +kernel
theorem dX5_grounds_21 : decode cX5_grounds 21 = .ok (.iconst 1, 1) := by decide +kernel
theorem dX5_grounds_22 : decode cX5_grounds 22 = .ok (.invokevirtual 68, 3) := by decide +kernel
theorem dX5_grounds_25 : decode cX5_grounds 25 = .ok (.iload_n 1, 1) := by decide +kernel
theorem dX5_grounds_26 : decode cX5_grounds 26 = .ok (.iconst 1, 1) := by decide +kernel
theorem dX5_grounds_27 : decode cX5_grounds 27 = .ok (.iadd, 1) := by decide +kernel
theorem dX5_grounds_28 : decode cX5_grounds 28 = .ok (.if_icmp .ne 17, 3) := by decide +kernel
theorem dX5_grounds_31 : decode cX5_grounds 31 = .ok (.aload_n 0, 1) := by decide +kernel
theorem dX5_grounds_32 : decode cX5_grounds 32 = .ok (.getfield 7, 3) := by decide +kernel
theorem dX5_grounds_35 : decode cX5_grounds 35 = .ok (.bipush 27, 2) := by decide +kernel
theorem dX5_grounds_37 : decode cX5_grounds 37 = .ok (.iconst 2, 1) := by decide +kernel
theorem dX5_grounds_38 : decode cX5_grounds 38 = .ok (.iload_n 2, 1) := by decide +kernel
theorem dX5_grounds_39 : decode cX5_grounds 39 = .ok (.imul, 1) := by decide +kernel
theorem dX5_grounds_40 : decode cX5_grounds 40 = .ok (.iadd, 1) := by decide +kernel
theorem dX5_grounds_41 : decode cX5_grounds 41 = .ok (.iconst 1, 1) := by decide +kernel
theorem dX5_grounds_42 : decode cX5_grounds 42 = .ok (.iadd, 1) := by decide +kernel
theorem dX5_grounds_43 : decode cX5_grounds 43 = .ok (.iconst 0, 1) := by decide +kernel
theorem dX5_grounds_44 : decode cX5_grounds 44 = .ok (.iastore, 1) := by decide +kernel
theorem dX5_grounds_45 : decode cX5_grounds 45 = .ok (.iinc 2 1, 3) := by decide +kernel
theorem dX5_grounds_48 : decode cX5_grounds 48 = .ok (.goto (-39), 3) := by decide +kernel
theorem dX5_grounds_51 : decode cX5_grounds 51 = .ok (.return_, 1) := by decide +kernel
theorem dX5_notCommittee_0 : decode cX5_notCommittee 0 = .ok (.iload_n 1, 1) := by decide +kernel
theorem dX5_notCommittee_1 : decode cX5_notCommittee 1 = .ok (.iconst 1, 1) := by decide +kernel
theorem dX5_notCommittee_2 : decode cX5_notCommittee 2 = .ok (.bipush 9, 2) := by decide +kernel
theorem dX5_notCommittee_4 : decode cX5_notCommittee 4 = .ok (.invokestatic 57, 3) := by decide +kernel
theorem dX5_notCommittee_7 : decode cX5_notCommittee 7 = .ok (.ifCond .ne 5, 3) := by decide +kernel
theorem dX5_notCommittee_10 : decode cX5_notCommittee 10 = .ok (.iconst 1, 1) := by decide +kernel
theorem dX5_notCommittee_11 : decode cX5_notCommittee 11 = .ok (.ireturn, 1) := by decide +kernel
theorem dX5_notCommittee_12 : decode cX5_notCommittee 12 = .ok (.aload_n 0, 1) := by decide +kernel
theorem dX5_notCommittee_13 : decode cX5_notCommittee 13 = .ok (.getfield 7, 3) := by decide +kernel
theorem dX5_notCommittee_16 : decode cX5_notCommittee 16 = .ok (.iconst 0, 1) := by decide +kernel
theorem dX5_notCommittee_17 : decode cX5_notCommittee 17 = .ok (.iaload, 1) := by decide +kernel
theorem dX5_notCommittee_18 : decode cX5_notCommittee 18 = .ok (.bipush 6, 2) := by decide +kernel
theorem dX5_notCommittee_20 : decode cX5_notCommittee 20 = .ok (.if_icmp .ne 7, 3) := by decide +kernel
theorem dX5_notCommittee_23 : decode cX5_notCommittee 23 = .ok (.iconst 2, 1) := by decide +kernel
theorem dX5_notCommittee_24 : decode cX5_notCommittee 24 = .ok (.goto 4, 3) := by decide +kernel
theorem dX5_notCommittee_27 : decode cX5_notCommittee 27 = .ok (.iconst 0, 1) := by decide +kernel
theorem dX5_notCommittee_28 : decode cX5_notCommittee 28 = .ok (.ireturn, 1) := by decide +kernel
theorem dX5_addsCommittee_0 : decode cX5_addsCommittee 0 = .ok (.aload_n 0, 1) := by decide +kernel
theorem dX5_addsCommittee_1 : decode cX5_addsCommittee 1 = .ok (.getfield 7, 3) := by decide +kernel
theorem dX5_addsCommittee_4 : decode cX5_addsCommittee 4 = .ok (.iconst 0, 1) := by decide +kernel
theorem dX5_addsCommittee_5 : decode cX5_addsCommittee 5 = .ok (.iaload, 1) := by decide +kernel
theorem dX5_addsCommittee_6 : decode cX5_addsCommittee 6 = .ok (.istore_n 2, 1) := by decide +kernel
theorem dX5_addsCommittee_7 : decode cX5_addsCommittee 7 = .ok (.aload_n 0, 1) := by decide +kernel
theorem dX5_addsCommittee_8 : decode cX5_addsCommittee 8 = .ok (.iload_n 2, 1) := by decide +kernel
theorem dX5_addsCommittee_9 : decode cX5_addsCommittee 9 = .ok (.iconst 0, 1) := by decide +kernel
theorem dX5_addsCommittee_10 : decode cX5_addsCommittee 10 = .ok (.iload_n 1, 1) := by decide +kernel
theorem dX5_addsCommittee_11 : decode cX5_addsCommittee 11 = .ok (.invokevirtual 71, 3) := by decide +kernel
theorem dX5_addsCommittee_14 : decode cX5_addsCommittee 14 = .ok (.aload_n 0, 1) := by decide +kernel
theorem dX5_addsCommittee_15 : decode cX5_addsCommittee 15 = .ok (.iload_n 2, 1) := by decide +kernel
theorem dX5_addsCommittee_16 : decode cX5_addsCommittee 16 = .ok (.iconst 1, 1) := by decide +kernel
theorem dX5_addsCommittee_17 : decode cX5_addsCommittee 17 = .ok (.iconst 0, 1) := by decide +kernel
theorem dX5_addsCommittee_18 : decode cX5_addsCommittee 18 = .ok (.invokevirtual 71, 3) := by decide +kernel
theorem dX5_addsCommittee_21 : decode cX5_addsCommittee 21 = .ok (.aload_n 0, 1) := by decide +kernel
theorem dX5_addsCommittee_22 : decode cX5_addsCommittee 22 = .ok (.iload_n 2, 1) := by decide +kernel
theorem dX5_addsCommittee_23 : decode cX5_addsCommittee 23 = .ok (.iconst 2, 1) := by decide +kernel
theorem dX5_addsCommittee_24 : decode cX5_addsCommittee 24 = .ok (.iconst 1, 1) := by decide +kernel
theorem dX5_addsCommittee_25 : decode cX5_addsCommittee 25 = .ok (.invokevirtual 71, 3) := by decide +kernel
theorem dX5_addsCommittee_28 : decode cX5_addsCommittee 28 = .ok (.aload_n 0, 1) := by decide +kernel
theorem dX5_addsCommittee_29 : decode cX5_addsCommittee 29 = .ok (.getfield 7, 3) := by decide +kernel
theorem dX5_addsCommittee_32 : decode cX5_addsCommittee 32 = .ok (.iconst 0, 1) := by decide +kernel
theorem dX5_addsCommittee_33 : decode cX5_addsCommittee 33 = .ok (.dup2, 1) := by decide +kernel
theorem dX5_addsCommittee_34 : decode cX5_addsCommittee 34 = .ok (.iaload, 1) := by decide +kernel
theorem dX5_addsCommittee_35 : decode cX5_addsCommittee 35 = .ok (.iconst 1, 1) := by decide +kernel
theorem dX5_addsCommittee_36 : decode cX5_addsCommittee 36 = .ok (.iadd, 1) := by decide +kernel
theorem dX5_addsCommittee_37 : decode cX5_addsCommittee 37 = .ok (.iastore, 1) := by decide +kernel
theorem dX5_addsCommittee_38 : decode cX5_addsCommittee 38 = .ok (.iload_n 2, 1) := by decide +kernel
theorem dX5_addsCommittee_39 : decode cX5_addsCommittee 39 = .ok (.ireturn, 1) := by decide +kernel
theorem dX5_addCommittee_0 : decode cX5_addCommittee 0 = .ok (.aload_n 0, 1) := by decide +kernel
theorem dX5_addCommittee_1 : decode cX5_addCommittee 1 = .ok (.iconst 0, 1) := by decide +kernel
theorem dX5_addCommittee_2 : decode cX5_addCommittee 2 = .ok (.putfield 42, 3) := by decide +kernel
theorem dX5_addCommittee_5 : decode cX5_addCommittee 5 = .ok (.aload_n 0, 1) := by decide +kernel
theorem dX5_addCommittee_6 : decode cX5_addCommittee 6 = .ok (.iload_n 1, 1) := by decide +kernel
theorem dX5_addCommittee_7 : decode cX5_addCommittee 7 = .ok (.invokevirtual 75, 3) := by decide +kernel
theorem dX5_addCommittee_10 : decode cX5_addCommittee 10 = .ok (.istore_n 2, 1) := by decide +kernel
theorem dX5_addCommittee_11 : decode cX5_addCommittee 11 = .ok (.iload_n 2, 1) := by decide +kernel
theorem dX5_addCommittee_12 : decode cX5_addCommittee 12 = .ok (.ifCond .eq 9, 3) := by decide +kernel
theorem dX5_addCommittee_15 : decode cX5_addCommittee 15 = .ok (.aload_n 0, 1) := by decide +kernel
theorem dX5_addCommittee_16 : decode cX5_addCommittee 16 = .ok (.iload_n 2, 1) := by decide +kernel
theorem dX5_addCommittee_17 : decode cX5_addCommittee 17 = .ok (.invokevirtual 79, 3) := by decide +kernel
theorem dX5_addCommittee_20 : decode cX5_addCommittee 20 = .ok (.ireturn, 1) := by decide +kernel
theorem dX5_addCommittee_21 : decode cX5_addCommittee 21 = .ok (.aload_n 0, 1) := by decide +kernel
theorem dX5_addCommittee_22 : decode cX5_addCommittee 22 = .ok (.invokevirtual 82, 3) := by decide +kernel
theorem dX5_addCommittee_25 : decode cX5_addCommittee 25 = .ok (.aload_n 0, 1) := by decide +kernel
theorem dX5_addCommittee_26 : decode cX5_addCommittee 26 = .ok (.iload_n 1, 1) := by decide +kernel
theorem dX5_addCommittee_27 : decode cX5_addCommittee 27 = .ok (.invokevirtual 85, 3) := by decide +kernel
theorem dX5_addCommittee_30 : decode cX5_addCommittee 30 = .ok (.ireturn, 1) := by decide +kernel
theorem dX5_notTail_0 : decode cX5_notTail 0 = .ok (.iload_n 1, 1) := by decide +kernel
theorem dX5_notTail_1 : decode cX5_notTail 1 = .ok (.iconst 1, 1) := by decide +kernel
theorem dX5_notTail_2 : decode cX5_notTail 2 = .ok (.bipush 9, 2) := by decide +kernel
theorem dX5_notTail_4 : decode cX5_notTail 4 = .ok (.invokestatic 57, 3) := by decide +kernel
theorem dX5_notTail_7 : decode cX5_notTail 7 = .ok (.ifCond .ne 5, 3) := by decide +kernel
theorem dX5_notTail_10 : decode cX5_notTail 10 = .ok (.iconst 1, 1) := by decide +kernel
theorem dX5_notTail_11 : decode cX5_notTail 11 = .ok (.ireturn, 1) := by decide +kernel
theorem dX5_notTail_12 : decode cX5_notTail 12 = .ok (.aload_n 0, 1) := by decide +kernel
theorem dX5_notTail_13 : decode cX5_notTail 13 = .ok (.getfield 7, 3) := by decide +kernel
theorem dX5_notTail_16 : decode cX5_notTail 16 = .ok (.iconst 1, 1) := by decide +kernel
theorem dX5_notTail_17 : decode cX5_notTail 17 = .ok (.iaload, 1) := by decide +kernel
theorem dX5_notTail_18 : decode cX5_notTail 18 = .ok (.bipush 8, 2) := by decide +kernel
theorem dX5_notTail_20 : decode cX5_notTail 20 = .ok (.if_icmp .ne 7, 3) := by decide +kernel
theorem dX5_notTail_23 : decode cX5_notTail 23 = .ok (.iconst 2, 1) := by decide +kernel
theorem dX5_notTail_24 : decode cX5_notTail 24 = .ok (.goto 4, 3) := by decide +kernel
theorem dX5_notTail_27 : decode cX5_notTail 27 = .ok (.iconst 0, 1) := by decide +kernel
theorem dX5_notTail_28 : decode cX5_notTail 28 = .ok (.ireturn, 1) := by decide +kernel
theorem dX5_addsTail_0 : decode cX5_addsTail 0 = .ok (.bipush 27, 2) := by decide +kernel
theorem dX5_addsTail_2 : decode cX5_addsTail 2 = .ok (.iconst 2, 1) := by decide +kernel
theorem dX5_addsTail_3 : decode cX5_addsTail 3 = .ok (.aload_n 0, 1) := by decide +kernel
theorem dX5_addsTail_4 : decode cX5_addsTail 4 = .ok (.getfield 7, 3) := by decide +kernel
theorem dX5_addsTail_7 : decode cX5_addsTail 7 = .ok (.iconst 1, 1) := by decide +kernel
theorem dX5_addsTail_8 : decode cX5_addsTail 8 = .ok (.iaload, 1) := by decide +kernel
theorem dX5_addsTail_9 : decode cX5_addsTail 9 = .ok (.imul, 1) := by decide +kernel
theorem dX5_addsTail_10 : decode cX5_addsTail 10 = .ok (.iadd, 1) := by decide +kernel
theorem dX5_addsTail_11 : decode cX5_addsTail 11 = .ok (.istore_n 2, 1) := by decide +kernel
theorem dX5_addsTail_12 : decode cX5_addsTail 12 = .ok (.aload_n 0, 1) := by decide +kernel
theorem dX5_addsTail_13 : decode cX5_addsTail 13 = .ok (.getfield 7, 3) := by decide +kernel
theorem dX5_addsTail_16 : decode cX5_addsTail 16 = .ok (.iload_n 2, 1) := by decide +kernel
theorem dX5_addsTail_17 : decode cX5_addsTail 17 = .ok (.iconst 0, 1) := by decide +kernel
theorem dX5_addsTail_18 : decode cX5_addsTail 18 = .ok (.iadd, 1) := by decide +kernel
theorem dX5_addsTail_19 : decode cX5_addsTail 19 = .ok (.iload_n 1, 1) := by decide +kernel
theorem dX5_addsTail_20 : decode cX5_addsTail 20 = .ok (.iastore, 1) := by decide +kernel
theorem dX5_addsTail_21 : decode cX5_addsTail 21 = .ok (.aload_n 0, 1) := by decide +kernel
theorem dX5_addsTail_22 : decode cX5_addsTail 22 = .ok (.getfield 7, 3) := by decide +kernel
theorem dX5_addsTail_25 : decode cX5_addsTail 25 = .ok (.iload_n 2, 1) := by decide +kernel
theorem dX5_addsTail_26 : decode cX5_addsTail 26 = .ok (.iconst 1, 1) := by decide +kernel
theorem dX5_addsTail_27 : decode cX5_addsTail 27 = .ok (.iadd, 1) := by decide +kernel
theorem dX5_addsTail_28 : decode cX5_addsTail 28 = .ok (.iconst 0, 1) := by decide +kernel
theorem dX5_addsTail_29 : decode cX5_addsTail 29 = .ok (.iastore, 1) := by decide +kernel
theorem dX5_addsTail_30 : decode cX5_addsTail 30 = .ok (.aload_n 0, 1) := by decide +kernel
theorem dX5_addsTail_31 : decode cX5_addsTail 31 = .ok (.getfield 7, 3) := by decide +kernel
theorem dX5_addsTail_34 : decode cX5_addsTail 34 = .ok (.iconst 1, 1) := by decide +kernel
theorem dX5_addsTail_35 : decode cX5_addsTail 35 = .ok (.dup2, 1) := by decide +kernel
theorem dX5_addsTail_36 : decode cX5_addsTail 36 = .ok (.iaload, 1) := by decide +kernel
theorem dX5_addsTail_37 : decode cX5_addsTail 37 = .ok (.iconst 1, 1) := by decide +kernel
theorem dX5_addsTail_38 : decode cX5_addsTail 38 = .ok (.iadd, 1) := by decide +kernel
theorem dX5_addsTail_39 : decode cX5_addsTail 39 = .ok (.iastore, 1) := by decide +kernel
theorem dX5_addsTail_40 : decode cX5_addsTail 40 = .ok (.aload_n 0, 1) := by decide +kernel
theorem dX5_addsTail_41 : decode cX5_addsTail 41 = .ok (.getfield 7, 3) := by decide +kernel
theorem dX5_addsTail_44 : decode cX5_addsTail 44 = .ok (.iconst 1, 1) := by decide +kernel
theorem dX5_addsTail_45 : decode cX5_addsTail 45 = .ok (.iaload, 1) := by decide +kernel
theorem dX5_addsTail_46 : decode cX5_addsTail 46 = .ok (.iconst 1, 1) := by decide +kernel
theorem dX5_addsTail_47 : decode cX5_addsTail 47 = .ok (.isub, 1) := by decide +kernel
theorem dX5_addsTail_48 : decode cX5_addsTail 48 = .ok (.ireturn, 1) := by decide +kernel
theorem dX5_addTail_0 : decode cX5_addTail 0 = .ok (.aload_n 0, 1) := by decide +kernel
theorem dX5_addTail_1 : decode cX5_addTail 1 = .ok (.iconst 0, 1) := by decide +kernel
theorem dX5_addTail_2 : decode cX5_addTail 2 = .ok (.putfield 42, 3) := by decide +kernel
theorem dX5_addTail_5 : decode cX5_addTail 5 = .ok (.aload_n 0, 1) := by decide +kernel
theorem dX5_addTail_6 : decode cX5_addTail 6 = .ok (.iload_n 1, 1) := by decide +kernel
theorem dX5_addTail_7 : decode cX5_addTail 7 = .ok (.invokevirtual 88, 3) := by decide +kernel
theorem dX5_addTail_10 : decode cX5_addTail 10 = .ok (.istore_n 2, 1) := by decide +kernel
theorem dX5_addTail_11 : decode cX5_addTail 11 = .ok (.iload_n 2, 1) := by decide +kernel
theorem dX5_addTail_12 : decode cX5_addTail 12 = .ok (.ifCond .eq 9, 3) := by decide +kernel
theorem dX5_addTail_15 : decode cX5_addTail 15 = .ok (.aload_n 0, 1) := by decide +kernel
theorem dX5_addTail_16 : decode cX5_addTail 16 = .ok (.iload_n 2, 1) := by decide +kernel
theorem dX5_addTail_17 : decode cX5_addTail 17 = .ok (.invokevirtual 79, 3) := by decide +kernel
theorem dX5_addTail_20 : decode cX5_addTail 20 = .ok (.ireturn, 1) := by decide +kernel
theorem dX5_addTail_21 : decode cX5_addTail 21 = .ok (.aload_n 0, 1) := by decide +kernel
theorem dX5_addTail_22 : decode cX5_addTail 22 = .ok (.invokevirtual 82, 3) := by decide +kernel
theorem dX5_addTail_25 : decode cX5_addTail 25 = .ok (.aload_n 0, 1) := by decide +kernel
theorem dX5_addTail_26 : decode cX5_addTail 26 = .ok (.iload_n 1, 1) := by decide +kernel
theorem dX5_addTail_27 : decode cX5_addTail 27 = .ok (.invokevirtual 91, 3) := by decide +kernel
theorem dX5_addTail_30 : decode cX5_addTail 30 = .ok (.ireturn, 1) := by decide +kernel
theorem dX5_notPay_0 : decode cX5_notPay 0 = .ok (.aload_n 0, 1) := by decide +kernel
theorem dX5_notPay_1 : decode cX5_notPay 1 = .ok (.iload_n 1, 1) := by decide +kernel
theorem dX5_notPay_2 : decode cX5_notPay 2 = .ok (.invokevirtual 94, 3) := by decide +kernel
theorem dX5_notPay_5 : decode cX5_notPay 5 = .ok (.ifCond .ne 5, 3) := by decide +kernel
theorem dX5_notPay_8 : decode cX5_notPay 8 = .ok (.iconst 1, 1) := by decide +kernel
theorem dX5_notPay_9 : decode cX5_notPay 9 = .ok (.ireturn, 1) := by decide +kernel
theorem dX5_notPay_10 : decode cX5_notPay 10 = .ok (.iload_n 2, 1) := by decide +kernel
theorem dX5_notPay_11 : decode cX5_notPay 11 = .ok (.iconst 1, 1) := by decide +kernel
theorem dX5_notPay_12 : decode cX5_notPay 12 = .ok (.bipush 99, 2) := by decide +kernel
theorem dX5_notPay_14 : decode cX5_notPay 14 = .ok (.invokestatic 57, 3) := by decide +kernel
theorem dX5_notPay_17 : decode cX5_notPay 17 = .ok (.ifCond .ne 5, 3) := by decide +kernel
theorem dX5_notPay_20 : decode cX5_notPay 20 = .ok (.iconst 2, 1) := by decide +kernel
theorem dX5_notPay_21 : decode cX5_notPay 21 = .ok (.ireturn, 1) := by decide +kernel
theorem dX5_notPay_22 : decode cX5_notPay 22 = .ok (.iload_n 2, 1) := by decide +kernel
theorem dX5_notPay_23 : decode cX5_notPay 23 = .ok (.aload_n 0, 1) := by decide +kernel
theorem dX5_notPay_24 : decode cX5_notPay 24 = .ok (.iload_n 1, 1) := by decide +kernel
theorem dX5_notPay_25 : decode cX5_notPay 25 = .ok (.iconst 1, 1) := by decide +kernel
theorem dX5_notPay_26 : decode cX5_notPay 26 = .ok (.invokevirtual 65, 3) := by decide +kernel
theorem dX5_notPay_29 : decode cX5_notPay 29 = .ok (.if_icmp .le 7, 3) := by decide +kernel
theorem dX5_notPay_32 : decode cX5_notPay 32 = .ok (.iconst 3, 1) := by decide +kernel
theorem dX5_notPay_33 : decode cX5_notPay 33 = .ok (.goto 4, 3) := by decide +kernel
theorem dX5_notPay_36 : decode cX5_notPay 36 = .ok (.iconst 0, 1) := by decide +kernel
theorem dX5_notPay_37 : decode cX5_notPay 37 = .ok (.ireturn, 1) := by decide +kernel
theorem dX5_pays_0 : decode cX5_pays 0 = .ok (.aload_n 0, 1) := by decide +kernel
theorem dX5_pays_1 : decode cX5_pays 1 = .ok (.iload_n 1, 1) := by decide +kernel
theorem dX5_pays_2 : decode cX5_pays 2 = .ok (.iconst 1, 1) := by decide +kernel
theorem dX5_pays_3 : decode cX5_pays 3 = .ok (.aload_n 0, 1) := by decide +kernel
theorem dX5_pays_4 : decode cX5_pays 4 = .ok (.iload_n 1, 1) := by decide +kernel
theorem dX5_pays_5 : decode cX5_pays 5 = .ok (.iconst 1, 1) := by decide +kernel
theorem dX5_pays_6 : decode cX5_pays 6 = .ok (.invokevirtual 65, 3) := by decide +kernel
theorem dX5_pays_9 : decode cX5_pays 9 = .ok (.iload_n 2, 1) := by decide +kernel
theorem dX5_pays_10 : decode cX5_pays 10 = .ok (.isub, 1) := by decide +kernel
theorem dX5_pays_11 : decode cX5_pays 11 = .ok (.invokevirtual 71, 3) := by decide +kernel
theorem dX5_pays_14 : decode cX5_pays 14 = .ok (.aload_n 0, 1) := by decide +kernel
theorem dX5_pays_15 : decode cX5_pays 15 = .ok (.getfield 7, 3) := by decide +kernel
theorem dX5_pays_18 : decode cX5_pays 18 = .ok (.bipush 7, 2) := by decide +kernel
theorem dX5_pays_20 : decode cX5_pays 20 = .ok (.dup2, 1) := by decide +kernel
theorem dX5_pays_21 : decode cX5_pays 21 = .ok (.iaload, 1) := by decide +kernel
theorem dX5_pays_22 : decode cX5_pays 22 = .ok (.iload_n 2, 1) := by decide +kernel
theorem dX5_pays_23 : decode cX5_pays 23 = .ok (.iadd, 1) := by decide +kernel
theorem dX5_pays_24 : decode cX5_pays 24 = .ok (.iastore, 1) := by decide +kernel
theorem dX5_pays_25 : decode cX5_pays 25 = .ok (.aload_n 0, 1) := by decide +kernel
theorem dX5_pays_26 : decode cX5_pays 26 = .ok (.iload_n 1, 1) := by decide +kernel
theorem dX5_pays_27 : decode cX5_pays 27 = .ok (.iconst 1, 1) := by decide +kernel
theorem dX5_pays_28 : decode cX5_pays 28 = .ok (.invokevirtual 65, 3) := by decide +kernel
theorem dX5_pays_31 : decode cX5_pays 31 = .ok (.ireturn, 1) := by decide +kernel
theorem dX5_pay_0 : decode cX5_pay 0 = .ok (.aload_n 0, 1) := by decide +kernel
theorem dX5_pay_1 : decode cX5_pay 1 = .ok (.iconst 0, 1) := by decide +kernel
theorem dX5_pay_2 : decode cX5_pay 2 = .ok (.putfield 42, 3) := by decide +kernel
theorem dX5_pay_5 : decode cX5_pay 5 = .ok (.aload_n 0, 1) := by decide +kernel
theorem dX5_pay_6 : decode cX5_pay 6 = .ok (.iload_n 1, 1) := by decide +kernel
theorem dX5_pay_7 : decode cX5_pay 7 = .ok (.iload_n 2, 1) := by decide +kernel
theorem dX5_pay_8 : decode cX5_pay 8 = .ok (.invokevirtual 98, 3) := by decide +kernel
theorem dX5_pay_11 : decode cX5_pay 11 = .ok (.istore_n 3, 1) := by decide +kernel
theorem dX5_pay_12 : decode cX5_pay 12 = .ok (.iload_n 3, 1) := by decide +kernel
theorem dX5_pay_13 : decode cX5_pay 13 = .ok (.ifCond .eq 9, 3) := by decide +kernel
theorem dX5_pay_16 : decode cX5_pay 16 = .ok (.aload_n 0, 1) := by decide +kernel
theorem dX5_pay_17 : decode cX5_pay 17 = .ok (.iload_n 3, 1) := by decide +kernel
theorem dX5_pay_18 : decode cX5_pay 18 = .ok (.invokevirtual 79, 3) := by decide +kernel
theorem dX5_pay_21 : decode cX5_pay 21 = .ok (.ireturn, 1) := by decide +kernel
theorem dX5_pay_22 : decode cX5_pay 22 = .ok (.aload_n 0, 1) := by decide +kernel
theorem dX5_pay_23 : decode cX5_pay 23 = .ok (.invokevirtual 82, 3) := by decide +kernel
theorem dX5_pay_26 : decode cX5_pay 26 = .ok (.aload_n 0, 1) := by decide +kernel
theorem dX5_pay_27 : decode cX5_pay 27 = .ok (.iload_n 1, 1) := by decide +kernel
theorem dX5_pay_28 : decode cX5_pay 28 = .ok (.iload_n 2, 1) := by decide +kernel
theorem dX5_pay_29 : decode cX5_pay 29 = .ok (.invokevirtual 101, 3) := by decide +kernel
theorem dX5_pay_32 : decode cX5_pay 32 = .ok (.ireturn, 1) := by decide +kernel
theorem dX5_notLaunch_0 : decode cX5_notLaunch 0 = .ok (.aload_n 0, 1) := by decide +kernel
theorem dX5_notLaunch_1 : decode cX5_notLaunch 1 = .ok (.iload_n 1, 1) := by decide +kernel
theorem dX5_notLaunch_2 : decode cX5_notLaunch 2 = .ok (.invokevirtual 94, 3) := by decide +kernel
theorem dX5_notLaunch_5 : decode cX5_notLaunch 5 = .ok (.ifCond .ne 5, 3) := by decide +kernel
theorem dX5_notLaunch_8 : decode cX5_notLaunch 8 = .ok (.iconst 1, 1) := by decide +kernel
theorem dX5_notLaunch_9 : decode cX5_notLaunch 9 = .ok (.ireturn, 1) := by decide +kernel
theorem dX5_notLaunch_10 : decode cX5_notLaunch 10 = .ok (.aload_n 0, 1) := by decide +kernel
theorem dX5_notLaunch_11 : decode cX5_notLaunch 11 = .ok (.iload_n 1, 1) := by decide +kernel
theorem dX5_notLaunch_12 : decode cX5_notLaunch 12 = .ok (.invokevirtual 104, 3) := by decide +kernel
theorem dX5_notLaunch_15 : decode cX5_notLaunch 15 = .ok (.ifCond .ne 12, 3) := by decide +kernel
theorem dX5_notLaunch_18 : decode cX5_notLaunch 18 = .ok (.aload_n 0, 1) := by decide +kernel
theorem dX5_notLaunch_19 : decode cX5_notLaunch 19 = .ok (.iload_n 1, 1) := by decide +kernel
theorem dX5_notLaunch_20 : decode cX5_notLaunch 20 = .ok (.iconst 1, 1) := by decide +kernel
theorem dX5_notLaunch_21 : decode cX5_notLaunch 21 = .ok (.invokevirtual 65, 3) := by decide +kernel
theorem dX5_notLaunch_24 : decode cX5_notLaunch 24 = .ok (.ifCond .le 7, 3) := by decide +kernel
theorem dX5_notLaunch_27 : decode cX5_notLaunch 27 = .ok (.iconst 2, 1) := by decide +kernel
theorem dX5_notLaunch_28 : decode cX5_notLaunch 28 = .ok (.goto 4, 3) := by decide +kernel
theorem dX5_notLaunch_31 : decode cX5_notLaunch 31 = .ok (.iconst 0, 1) := by decide +kernel
theorem dX5_notLaunch_32 : decode cX5_notLaunch 32 = .ok (.ireturn, 1) := by decide +kernel
theorem dX5_launches_0 : decode cX5_launches 0 = .ok (.aload_n 0, 1) := by decide +kernel
theorem dX5_launches_1 : decode cX5_launches 1 = .ok (.iload_n 1, 1) := by decide +kernel
theorem dX5_launches_2 : decode cX5_launches 2 = .ok (.iconst 2, 1) := by decide +kernel
theorem dX5_launches_3 : decode cX5_launches 3 = .ok (.iconst 1, 1) := by decide +kernel
theorem dX5_launches_4 : decode cX5_launches 4 = .ok (.invokevirtual 71, 3) := by decide +kernel
theorem dX5_launches_7 : decode cX5_launches 7 = .ok (.aload_n 0, 1) := by decide +kernel
theorem dX5_launches_8 : decode cX5_launches 8 = .ok (.invokevirtual 107, 3) := by decide +kernel
theorem dX5_launches_11 : decode cX5_launches 11 = .ok (.ireturn, 1) := by decide +kernel
theorem dX5_launch_0 : decode cX5_launch 0 = .ok (.aload_n 0, 1) := by decide +kernel
theorem dX5_launch_1 : decode cX5_launch 1 = .ok (.iconst 0, 1) := by decide +kernel
theorem dX5_launch_2 : decode cX5_launch 2 = .ok (.putfield 42, 3) := by decide +kernel
theorem dX5_launch_5 : decode cX5_launch 5 = .ok (.aload_n 0, 1) := by decide +kernel
theorem dX5_launch_6 : decode cX5_launch 6 = .ok (.iload_n 1, 1) := by decide +kernel
theorem dX5_launch_7 : decode cX5_launch 7 = .ok (.invokevirtual 111, 3) := by decide +kernel
theorem dX5_launch_10 : decode cX5_launch 10 = .ok (.istore_n 2, 1) := by decide +kernel
theorem dX5_launch_11 : decode cX5_launch 11 = .ok (.iload_n 2, 1) := by decide +kernel
theorem dX5_launch_12 : decode cX5_launch 12 = .ok (.ifCond .eq 9, 3) := by decide +kernel
theorem dX5_launch_15 : decode cX5_launch 15 = .ok (.aload_n 0, 1) := by decide +kernel
theorem dX5_launch_16 : decode cX5_launch 16 = .ok (.iload_n 2, 1) := by decide +kernel
theorem dX5_launch_17 : decode cX5_launch 17 = .ok (.invokevirtual 79, 3) := by decide +kernel
theorem dX5_launch_20 : decode cX5_launch 20 = .ok (.ireturn, 1) := by decide +kernel
theorem dX5_launch_21 : decode cX5_launch 21 = .ok (.aload_n 0, 1) := by decide +kernel
theorem dX5_launch_22 : decode cX5_launch 22 = .ok (.invokevirtual 82, 3) := by decide +kernel
theorem dX5_launch_25 : decode cX5_launch 25 = .ok (.aload_n 0, 1) := by decide +kernel
theorem dX5_launch_26 : decode cX5_launch 26 = .ok (.iload_n 1, 1) := by decide +kernel
theorem dX5_launch_27 : decode cX5_launch 27 = .ok (.invokevirtual 114, 3) := by decide +kernel
theorem dX5_launch_30 : decode cX5_launch 30 = .ok (.ireturn, 1) := by decide +kernel
theorem dX5_notMove_0 : decode cX5_notMove 0 = .ok (.iload_n 2, 1) := by decide +kernel
theorem dX5_notMove_1 : decode cX5_notMove 1 = .ok (.iconst 2, 1) := by decide +kernel
theorem dX5_notMove_2 : decode cX5_notMove 2 = .ok (.if_icmp .ne 11, 3) := by decide +kernel
theorem dX5_notMove_5 : decode cX5_notMove 5 = .ok (.aload_n 0, 1) := by decide +kernel
theorem dX5_notMove_6 : decode cX5_notMove 6 = .ok (.iload_n 3, 1) := by decide +kernel
theorem dX5_notMove_7 : decode cX5_notMove 7 = .ok (.invokevirtual 94, 3) := by decide +kernel
theorem dX5_notMove_10 : decode cX5_notMove 10 = .ok (.goto 8, 3) := by decide +kernel
theorem dX5_notMove_13 : decode cX5_notMove 13 = .ok (.aload_n 0, 1) := by decide +kernel
theorem dX5_notMove_14 : decode cX5_notMove 14 = .ok (.iload_n 3, 1) := by decide +kernel
theorem dX5_notMove_15 : decode cX5_notMove 15 = .ok (.invokevirtual 117, 3) := by decide +kernel
theorem dX5_notMove_18 : decode cX5_notMove 18 = .ok (.istore 4, 2) := by decide +kernel
theorem dX5_notMove_20 : decode cX5_notMove 20 = .ok (.aload_n 0, 1) := by decide +kernel
theorem dX5_notMove_21 : decode cX5_notMove 21 = .ok (.iload_n 1, 1) := by decide +kernel
theorem dX5_notMove_22 : decode cX5_notMove 22 = .ok (.invokevirtual 94, 3) := by decide +kernel
theorem dX5_notMove_25 : decode cX5_notMove 25 = .ok (.ifCond .eq 8, 3) := by decide +kernel
theorem dX5_notMove_28 : decode cX5_notMove 28 = .ok (.iload 4, 2) := by decide +kernel
theorem dX5_notMove_30 : decode cX5_notMove 30 = .ok (.ifCond .ne 5, 3) := by decide +kernel
theorem dX5_notMove_33 : decode cX5_notMove 33 = .ok (.iconst 1, 1) := by decide +kernel
theorem dX5_notMove_34 : decode cX5_notMove 34 = .ok (.ireturn, 1) := by decide +kernel
theorem dX5_notMove_35 : decode cX5_notMove 35 = .ok (.aload_n 0, 1) := by decide +kernel
theorem dX5_notMove_36 : decode cX5_notMove 36 = .ok (.getfield 7, 3) := by decide +kernel
theorem dX5_notMove_39 : decode cX5_notMove 39 = .ok (.iconst 2, 1) := by decide +kernel
theorem dX5_notMove_40 : decode cX5_notMove 40 = .ok (.iaload, 1) := by decide +kernel
theorem dX5_notMove_41 : decode cX5_notMove 41 = .ok (.bipush 8, 2) := by decide +kernel
theorem dX5_notMove_43 : decode cX5_notMove 43 = .ok (.if_icmp .ne 7, 3) := by decide +kernel
theorem dX5_notMove_46 : decode cX5_notMove 46 = .ok (.iconst 2, 1) := by decide +kernel
theorem dX5_notMove_47 : decode cX5_notMove 47 = .ok (.goto 4, 3) := by decide +kernel
theorem dX5_notMove_50 : decode cX5_notMove 50 = .ok (.iconst 0, 1) := by decide +kernel
theorem dX5_notMove_51 : decode cX5_notMove 51 = .ok (.ireturn, 1) := by decide +kernel
theorem dX5_movesThat_0 : decode cX5_movesThat 0 = .ok (.aload_n 0, 1) := by decide +kernel
theorem dX5_movesThat_1 : decode cX5_movesThat 1 = .ok (.getfield 7, 3) := by decide +kernel
theorem dX5_movesThat_4 : decode cX5_movesThat 4 = .ok (.iconst 2, 1) := by decide +kernel
theorem dX5_movesThat_5 : decode cX5_movesThat 5 = .ok (.iaload, 1) := by decide +kernel
theorem dX5_movesThat_6 : decode cX5_movesThat 6 = .ok (.istore 4, 2) := by decide +kernel
theorem dX5_movesThat_8 : decode cX5_movesThat 8 = .ok (.aload_n 0, 1) := by decide +kernel
theorem dX5_movesThat_9 : decode cX5_movesThat 9 = .ok (.iload 4, 2) := by decide +kernel
theorem dX5_movesThat_11 : decode cX5_movesThat 11 = .ok (.iconst 0, 1) := by decide +kernel
theorem dX5_movesThat_12 : decode cX5_movesThat 12 = .ok (.aload_n 0, 1) := by decide +kernel
theorem dX5_movesThat_13 : decode cX5_movesThat 13 = .ok (.getfield 7, 3) := by decide +kernel
theorem dX5_movesThat_16 : decode cX5_movesThat 16 = .ok (.iconst 3, 1) := by decide +kernel
theorem dX5_movesThat_17 : decode cX5_movesThat 17 = .ok (.iaload, 1) := by decide +kernel
theorem dX5_movesThat_18 : decode cX5_movesThat 18 = .ok (.invokevirtual 120, 3) := by decide +kernel
theorem dX5_movesThat_21 : decode cX5_movesThat 21 = .ok (.aload_n 0, 1) := by decide +kernel
theorem dX5_movesThat_22 : decode cX5_movesThat 22 = .ok (.iload 4, 2) := by decide +kernel
theorem dX5_movesThat_24 : decode cX5_movesThat 24 = .ok (.iconst 1, 1) := by decide +kernel
theorem dX5_movesThat_25 : decode cX5_movesThat 25 = .ok (.iload_n 2, 1) := by decide +kernel
theorem dX5_movesThat_26 : decode cX5_movesThat 26 = .ok (.invokevirtual 120, 3) := by decide +kernel
theorem dX5_movesThat_29 : decode cX5_movesThat 29 = .ok (.aload_n 0, 1) := by decide +kernel
theorem dX5_movesThat_30 : decode cX5_movesThat 30 = .ok (.iload 4, 2) := by decide +kernel
theorem dX5_movesThat_32 : decode cX5_movesThat 32 = .ok (.iconst 2, 1) := by decide +kernel
theorem dX5_movesThat_33 : decode cX5_movesThat 33 = .ok (.iload_n 1, 1) := by decide +kernel
theorem dX5_movesThat_34 : decode cX5_movesThat 34 = .ok (.invokevirtual 120, 3) := by decide +kernel
theorem dX5_movesThat_37 : decode cX5_movesThat 37 = .ok (.aload_n 0, 1) := by decide +kernel
theorem dX5_movesThat_38 : decode cX5_movesThat 38 = .ok (.iload 4, 2) := by decide +kernel
theorem dX5_movesThat_40 : decode cX5_movesThat 40 = .ok (.iconst 3, 1) := by decide +kernel
theorem dX5_movesThat_41 : decode cX5_movesThat 41 = .ok (.iload_n 3, 1) := by decide +kernel
theorem dX5_movesThat_42 : decode cX5_movesThat 42 = .ok (.invokevirtual 120, 3) := by decide +kernel
theorem dX5_movesThat_45 : decode cX5_movesThat 45 = .ok (.aload_n 0, 1) := by decide +kernel
theorem dX5_movesThat_46 : decode cX5_movesThat 46 = .ok (.iload 4, 2) := by decide +kernel
theorem dX5_movesThat_48 : decode cX5_movesThat 48 = .ok (.iconst 4, 1) := by decide +kernel
theorem dX5_movesThat_49 : decode cX5_movesThat 49 = .ok (.iconst 0, 1) := by decide +kernel
theorem dX5_movesThat_50 : decode cX5_movesThat 50 = .ok (.invokevirtual 120, 3) := by decide +kernel
theorem dX5_movesThat_53 : decode cX5_movesThat 53 = .ok (.aload_n 0, 1) := by decide +kernel
theorem dX5_movesThat_54 : decode cX5_movesThat 54 = .ok (.iload 4, 2) := by decide +kernel
theorem dX5_movesThat_56 : decode cX5_movesThat 56 = .ok (.iconst 5, 1) := by decide +kernel
theorem dX5_movesThat_57 : decode cX5_movesThat 57 = .ok (.iconst 0, 1) := by decide +kernel
theorem dX5_movesThat_58 : decode cX5_movesThat 58 = .ok (.invokevirtual 120, 3) := by decide +kernel
theorem dX5_movesThat_61 : decode cX5_movesThat 61 = .ok (.aload_n 0, 1) := by decide +kernel
theorem dX5_movesThat_62 : decode cX5_movesThat 62 = .ok (.getfield 7, 3) := by decide +kernel
theorem dX5_movesThat_65 : decode cX5_movesThat 65 = .ok (.iconst 2, 1) := by decide +kernel
theorem dX5_movesThat_66 : decode cX5_movesThat 66 = .ok (.dup2, 1) := by decide +kernel
theorem dX5_movesThat_67 : decode cX5_movesThat 67 = .ok (.iaload, 1) := by decide +kernel
theorem dX5_movesThat_68 : decode cX5_movesThat 68 = .ok (.iconst 1, 1) := by decide +kernel
theorem dX5_movesThat_69 : decode cX5_movesThat 69 = .ok (.iadd, 1) := by decide +kernel
theorem dX5_movesThat_70 : decode cX5_movesThat 70 = .ok (.iastore, 1) := by decide +kernel
theorem dX5_movesThat_71 : decode cX5_movesThat 71 = .ok (.aload_n 0, 1) := by decide +kernel
theorem dX5_movesThat_72 : decode cX5_movesThat 72 = .ok (.getfield 7, 3) := by decide +kernel
theorem dX5_movesThat_75 : decode cX5_movesThat 75 = .ok (.iconst 3, 1) := by decide +kernel
theorem dX5_movesThat_76 : decode cX5_movesThat 76 = .ok (.dup2, 1) := by decide +kernel
theorem dX5_movesThat_77 : decode cX5_movesThat 77 = .ok (.iaload, 1) := by decide +kernel
theorem dX5_movesThat_78 : decode cX5_movesThat 78 = .ok (.iconst 1, 1) := by decide +kernel
theorem dX5_movesThat_79 : decode cX5_movesThat 79 = .ok (.iadd, 1) := by decide +kernel
theorem dX5_movesThat_80 : decode cX5_movesThat 80 = .ok (.iastore, 1) := by decide +kernel
theorem dX5_movesThat_81 : decode cX5_movesThat 81 = .ok (.aload_n 0, 1) := by decide +kernel
theorem dX5_movesThat_82 : decode cX5_movesThat 82 = .ok (.getfield 7, 3) := by decide +kernel
theorem dX5_movesThat_85 : decode cX5_movesThat 85 = .ok (.iconst 3, 1) := by decide +kernel
theorem dX5_movesThat_86 : decode cX5_movesThat 86 = .ok (.iaload, 1) := by decide +kernel
theorem dX5_movesThat_87 : decode cX5_movesThat 87 = .ok (.iconst 1, 1) := by decide +kernel
theorem dX5_movesThat_88 : decode cX5_movesThat 88 = .ok (.isub, 1) := by decide +kernel
theorem dX5_movesThat_89 : decode cX5_movesThat 89 = .ok (.ireturn, 1) := by decide +kernel
theorem dX5_moves_0 : decode cX5_moves 0 = .ok (.aload_n 0, 1) := by decide +kernel
theorem dX5_moves_1 : decode cX5_moves 1 = .ok (.iconst 0, 1) := by decide +kernel
theorem dX5_moves_2 : decode cX5_moves 2 = .ok (.putfield 42, 3) := by decide +kernel
theorem dX5_moves_5 : decode cX5_moves 5 = .ok (.aload_n 0, 1) := by decide +kernel
theorem dX5_moves_6 : decode cX5_moves 6 = .ok (.iload_n 1, 1) := by decide +kernel
theorem dX5_moves_7 : decode cX5_moves 7 = .ok (.iload_n 2, 1) := by decide +kernel
theorem dX5_moves_8 : decode cX5_moves 8 = .ok (.iload_n 3, 1) := by decide +kernel
theorem dX5_moves_9 : decode cX5_moves 9 = .ok (.invokevirtual 123, 3) := by decide +kernel
theorem dX5_moves_12 : decode cX5_moves 12 = .ok (.istore 4, 2) := by decide +kernel
theorem dX5_moves_14 : decode cX5_moves 14 = .ok (.iload 4, 2) := by decide +kernel
theorem dX5_moves_16 : decode cX5_moves 16 = .ok (.ifCond .eq 10, 3) := by decide +kernel
theorem dX5_moves_19 : decode cX5_moves 19 = .ok (.aload_n 0, 1) := by decide +kernel
theorem dX5_moves_20 : decode cX5_moves 20 = .ok (.iload 4, 2) := by decide +kernel
theorem dX5_moves_22 : decode cX5_moves 22 = .ok (.invokevirtual 79, 3) := by decide +kernel
theorem dX5_moves_25 : decode cX5_moves 25 = .ok (.ireturn, 1) := by decide +kernel
theorem dX5_moves_26 : decode cX5_moves 26 = .ok (.aload_n 0, 1) := by decide +kernel
theorem dX5_moves_27 : decode cX5_moves 27 = .ok (.invokevirtual 82, 3) := by decide +kernel
theorem dX5_moves_30 : decode cX5_moves 30 = .ok (.aload_n 0, 1) := by decide +kernel
theorem dX5_moves_31 : decode cX5_moves 31 = .ok (.iload_n 1, 1) := by decide +kernel
theorem dX5_moves_32 : decode cX5_moves 32 = .ok (.iload_n 2, 1) := by decide +kernel
theorem dX5_moves_33 : decode cX5_moves 33 = .ok (.iload_n 3, 1) := by decide +kernel
theorem dX5_moves_34 : decode cX5_moves 34 = .ok (.invokevirtual 127, 3) := by decide +kernel
theorem dX5_moves_37 : decode cX5_moves 37 = .ok (.ireturn, 1) := by decide +kernel
theorem dX5_moveToRent_0 : decode cX5_moveToRent 0 = .ok (.aload_n 0, 1) := by decide +kernel
theorem dX5_moveToRent_1 : decode cX5_moveToRent 1 = .ok (.iload_n 1, 1) := by decide +kernel
theorem dX5_moveToRent_2 : decode cX5_moveToRent 2 = .ok (.iconst 0, 1) := by decide +kernel
theorem dX5_moveToRent_3 : decode cX5_moveToRent 3 = .ok (.iload_n 2, 1) := by decide +kernel
theorem dX5_moveToRent_4 : decode cX5_moveToRent 4 = .ok (.invokevirtual 130, 3) := by decide +kernel
theorem dX5_moveToRent_7 : decode cX5_moveToRent 7 = .ok (.ireturn, 1) := by decide +kernel
theorem dX5_moveToReturn_0 : decode cX5_moveToReturn 0 = .ok (.aload_n 0, 1) := by decide +kernel
theorem dX5_moveToReturn_1 : decode cX5_moveToReturn 1 = .ok (.iload_n 1, 1) := by decide +kernel
theorem dX5_moveToReturn_2 : decode cX5_moveToReturn 2 = .ok (.iconst 1, 1) := by decide +kernel
theorem dX5_moveToReturn_3 : decode cX5_moveToReturn 3 = .ok (.iload_n 2, 1) := by decide +kernel
theorem dX5_moveToReturn_4 : decode cX5_moveToReturn 4 = .ok (.invokevirtual 130, 3) := by decide +kernel
theorem dX5_moveToReturn_7 : decode cX5_moveToReturn 7 = .ok (.ireturn, 1) := by decide +kernel
theorem dX5_moveToGround_0 : decode cX5_moveToGround 0 = .ok (.aload_n 0, 1) := by decide +kernel
theorem dX5_moveToGround_1 : decode cX5_moveToGround 1 = .ok (.iload_n 1, 1) := by decide +kernel
theorem dX5_moveToGround_2 : decode cX5_moveToGround 2 = .ok (.iconst 2, 1) := by decide +kernel
theorem dX5_moveToGround_3 : decode cX5_moveToGround 3 = .ok (.iload_n 2, 1) := by decide +kernel
theorem dX5_moveToGround_4 : decode cX5_moveToGround 4 = .ok (.invokevirtual 130, 3) := by decide +kernel
theorem dX5_moveToGround_7 : decode cX5_moveToGround 7 = .ok (.ireturn, 1) := by decide +kernel
theorem dX5_notSecond_0 : decode cX5_notSecond 0 = .ok (.aload_n 0, 1) := by decide +kernel
theorem dX5_notSecond_1 : decode cX5_notSecond 1 = .ok (.iload_n 1, 1) := by decide +kernel
theorem dX5_notSecond_2 : decode cX5_notSecond 2 = .ok (.invokevirtual 94, 3) := by decide +kernel
theorem dX5_notSecond_5 : decode cX5_notSecond 5 = .ok (.ifCond .ne 5, 3) := by decide +kernel
theorem dX5_notSecond_8 : decode cX5_notSecond 8 = .ok (.iconst 1, 1) := by decide +kernel
theorem dX5_notSecond_9 : decode cX5_notSecond 9 = .ok (.ireturn, 1) := by decide +kernel
theorem dX5_notSecond_10 : decode cX5_notSecond 10 = .ok (.aload_n 0, 1) := by decide +kernel
theorem dX5_notSecond_11 : decode cX5_notSecond 11 = .ok (.iload_n 2, 1) := by decide +kernel
theorem dX5_notSecond_12 : decode cX5_notSecond 12 = .ok (.invokevirtual 133, 3) := by decide +kernel
theorem dX5_notSecond_15 : decode cX5_notSecond 15 = .ok (.istore_n 3, 1) := by decide +kernel
theorem dX5_notSecond_16 : decode cX5_notSecond 16 = .ok (.iload_n 3, 1) := by decide +kernel
theorem dX5_notSecond_17 : decode cX5_notSecond 17 = .ok (.ifCond .ge 5, 3) := by decide +kernel
theorem dX5_notSecond_20 : decode cX5_notSecond 20 = .ok (.iconst 2, 1) := by decide +kernel
theorem dX5_notSecond_21 : decode cX5_notSecond 21 = .ok (.ireturn, 1) := by decide +kernel
theorem dX5_notSecond_22 : decode cX5_notSecond 22 = .ok (.aload_n 0, 1) := by decide +kernel
theorem dX5_notSecond_23 : decode cX5_notSecond 23 = .ok (.iload_n 3, 1) := by decide +kernel
theorem dX5_notSecond_24 : decode cX5_notSecond 24 = .ok (.iconst 2, 1) := by decide +kernel
theorem dX5_notSecond_25 : decode cX5_notSecond 25 = .ok (.invokevirtual 61, 3) := by decide +kernel
theorem dX5_notSecond_28 : decode cX5_notSecond 28 = .ok (.iload_n 1, 1) := by decide +kernel
theorem dX5_notSecond_29 : decode cX5_notSecond 29 = .ok (.if_icmp .ne 5, 3) := by decide +kernel
theorem dX5_notSecond_32 : decode cX5_notSecond 32 = .ok (.iconst 3, 1) := by decide +kernel
theorem dX5_notSecond_33 : decode cX5_notSecond 33 = .ok (.ireturn, 1) := by decide +kernel
theorem dX5_notSecond_34 : decode cX5_notSecond 34 = .ok (.aload_n 0, 1) := by decide +kernel
theorem dX5_notSecond_35 : decode cX5_notSecond 35 = .ok (.iload_n 3, 1) := by decide +kernel
theorem dX5_notSecond_36 : decode cX5_notSecond 36 = .ok (.iconst 4, 1) := by decide +kernel
theorem dX5_notSecond_37 : decode cX5_notSecond 37 = .ok (.invokevirtual 61, 3) := by decide +kernel
theorem dX5_notSecond_40 : decode cX5_notSecond 40 = .ok (.ifCond .le 7, 3) := by decide +kernel
theorem dX5_notSecond_43 : decode cX5_notSecond 43 = .ok (.iconst 4, 1) := by decide +kernel
theorem dX5_notSecond_44 : decode cX5_notSecond 44 = .ok (.goto 4, 3) := by decide +kernel
theorem dX5_notSecond_47 : decode cX5_notSecond 47 = .ok (.iconst 0, 1) := by decide +kernel
theorem dX5_notSecond_48 : decode cX5_notSecond 48 = .ok (.ireturn, 1) := by decide +kernel
theorem dX5_seconds_0 : decode cX5_seconds 0 = .ok (.aload_n 0, 1) := by decide +kernel
theorem dX5_seconds_1 : decode cX5_seconds 1 = .ok (.aload_n 0, 1) := by decide +kernel
theorem dX5_seconds_2 : decode cX5_seconds 2 = .ok (.iload_n 2, 1) := by decide +kernel
theorem dX5_seconds_3 : decode cX5_seconds 3 = .ok (.invokevirtual 133, 3) := by decide +kernel
theorem dX5_seconds_6 : decode cX5_seconds 6 = .ok (.iconst 4, 1) := by decide +kernel
theorem dX5_seconds_7 : decode cX5_seconds 7 = .ok (.iload_n 1, 1) := by decide +kernel
theorem dX5_seconds_8 : decode cX5_seconds 8 = .ok (.iconst 1, 1) := by decide +kernel
theorem dX5_seconds_9 : decode cX5_seconds 9 = .ok (.iadd, 1) := by decide +kernel
theorem dX5_seconds_10 : decode cX5_seconds 10 = .ok (.invokevirtual 120, 3) := by decide +kernel
theorem dX5_seconds_13 : decode cX5_seconds 13 = .ok (.iconst 0, 1) := by decide +kernel
theorem dX5_seconds_14 : decode cX5_seconds 14 = .ok (.istore_n 3, 1) := by decide +kernel
theorem dX5_seconds_15 : decode cX5_seconds 15 = .ok (.iconst 0, 1) := by decide +kernel
theorem dX5_seconds_16 : decode cX5_seconds 16 = .ok (.istore 4, 2) := by decide +kernel
theorem dX5_seconds_18 : decode cX5_seconds 18 = .ok (.iload 4, 2) := by decide +kernel
theorem dX5_seconds_20 : decode cX5_seconds 20 = .ok (.aload_n 0, 1) := by decide +kernel
theorem dX5_seconds_21 : decode cX5_seconds 21 = .ok (.getfield 7, 3) := by decide +kernel
theorem dX5_seconds_24 : decode cX5_seconds 24 = .ok (.iconst 2, 1) := by decide +kernel
theorem dX5_seconds_25 : decode cX5_seconds 25 = .ok (.iaload, 1) := by decide +kernel
theorem dX5_seconds_26 : decode cX5_seconds 26 = .ok (.if_icmp .ge 27, 3) := by decide +kernel
theorem dX5_seconds_29 : decode cX5_seconds 29 = .ok (.iload_n 3, 1) := by decide +kernel
theorem dX5_seconds_30 : decode cX5_seconds 30 = .ok (.aload_n 0, 1) := by decide +kernel
theorem dX5_seconds_31 : decode cX5_seconds 31 = .ok (.iload 4, 2) := by decide +kernel
theorem dX5_seconds_33 : decode cX5_seconds 33 = .ok (.iconst 4, 1) := by decide +kernel
theorem dX5_seconds_34 : decode cX5_seconds 34 = .ok (.invokevirtual 61, 3) := by decide +kernel
theorem dX5_seconds_37 : decode cX5_seconds 37 = .ok (.ifCond .le 7, 3) := by decide +kernel
theorem dX5_seconds_40 : decode cX5_seconds 40 = .ok (.iconst 1, 1) := by decide +kernel
theorem dX5_seconds_41 : decode cX5_seconds 41 = .ok (.goto 4, 3) := by decide +kernel
theorem dX5_seconds_44 : decode cX5_seconds 44 = .ok (.iconst 0, 1) := by decide +kernel
theorem dX5_seconds_45 : decode cX5_seconds 45 = .ok (.iadd, 1) := by decide +kernel
theorem dX5_seconds_46 : decode cX5_seconds 46 = .ok (.istore_n 3, 1) := by decide +kernel
theorem dX5_seconds_47 : decode cX5_seconds 47 = .ok (.iinc 4 1, 3) := by decide +kernel
theorem dX5_seconds_50 : decode cX5_seconds 50 = .ok (.goto (-32), 3) := by decide +kernel
theorem dX5_seconds_53 : decode cX5_seconds 53 = .ok (.iload_n 3, 1) := by decide +kernel
theorem dX5_seconds_54 : decode cX5_seconds 54 = .ok (.ireturn, 1) := by decide +kernel
theorem dX5_second_0 : decode cX5_second 0 = .ok (.aload_n 0, 1) := by decide +kernel
theorem dX5_second_1 : decode cX5_second 1 = .ok (.iconst 0, 1) := by decide +kernel
theorem dX5_second_2 : decode cX5_second 2 = .ok (.putfield 42, 3) := by decide +kernel
theorem dX5_second_5 : decode cX5_second 5 = .ok (.aload_n 0, 1) := by decide +kernel
theorem dX5_second_6 : decode cX5_second 6 = .ok (.iload_n 1, 1) := by decide +kernel
theorem dX5_second_7 : decode cX5_second 7 = .ok (.iload_n 2, 1) := by decide +kernel
theorem dX5_second_8 : decode cX5_second 8 = .ok (.invokevirtual 136, 3) := by decide +kernel
theorem dX5_second_11 : decode cX5_second 11 = .ok (.istore_n 3, 1) := by decide +kernel
theorem dX5_second_12 : decode cX5_second 12 = .ok (.iload_n 3, 1) := by decide +kernel
theorem dX5_second_13 : decode cX5_second 13 = .ok (.ifCond .eq 9, 3) := by decide +kernel
theorem dX5_second_16 : decode cX5_second 16 = .ok (.aload_n 0, 1) := by decide +kernel
theorem dX5_second_17 : decode cX5_second 17 = .ok (.iload_n 3, 1) := by decide +kernel
theorem dX5_second_18 : decode cX5_second 18 = .ok (.invokevirtual 79, 3) := by decide +kernel
theorem dX5_second_21 : decode cX5_second 21 = .ok (.ireturn, 1) := by decide +kernel
theorem dX5_second_22 : decode cX5_second 22 = .ok (.aload_n 0, 1) := by decide +kernel
theorem dX5_second_23 : decode cX5_second 23 = .ok (.invokevirtual 82, 3) := by decide +kernel
theorem dX5_second_26 : decode cX5_second 26 = .ok (.aload_n 0, 1) := by decide +kernel
theorem dX5_second_27 : decode cX5_second 27 = .ok (.iload_n 1, 1) := by decide +kernel
theorem dX5_second_28 : decode cX5_second 28 = .ok (.iload_n 2, 1) := by decide +kernel
theorem dX5_second_29 : decode cX5_second 29 = .ok (.invokevirtual 139, 3) := by decide +kernel
theorem dX5_second_32 : decode cX5_second 32 = .ok (.ireturn, 1) := by decide +kernel
theorem dX5_notUntable_0 : decode cX5_notUntable 0 = .ok (.aload_n 0, 1) := by decide +kernel
theorem dX5_notUntable_1 : decode cX5_notUntable 1 = .ok (.iload_n 1, 1) := by decide +kernel
theorem dX5_notUntable_2 : decode cX5_notUntable 2 = .ok (.invokevirtual 133, 3) := by decide +kernel
theorem dX5_notUntable_5 : decode cX5_notUntable 5 = .ok (.ifCond .ge 5, 3) := by decide +kernel
theorem dX5_notUntable_8 : decode cX5_notUntable 8 = .ok (.iconst 1, 1) := by decide +kernel
theorem dX5_notUntable_9 : decode cX5_notUntable 9 = .ok (.ireturn, 1) := by decide +kernel
theorem dX5_notUntable_10 : decode cX5_notUntable 10 = .ok (.aload_n 0, 1) := by decide +kernel
theorem dX5_notUntable_11 : decode cX5_notUntable 11 = .ok (.aload_n 0, 1) := by decide +kernel
theorem dX5_notUntable_12 : decode cX5_notUntable 12 = .ok (.iload_n 1, 1) := by decide +kernel
theorem dX5_notUntable_13 : decode cX5_notUntable 13 = .ok (.invokevirtual 133, 3) := by decide +kernel
theorem dX5_notUntable_16 : decode cX5_notUntable 16 = .ok (.iconst 5, 1) := by decide +kernel
theorem dX5_notUntable_17 : decode cX5_notUntable 17 = .ok (.invokevirtual 61, 3) := by decide +kernel
theorem dX5_notUntable_20 : decode cX5_notUntable 20 = .ok (.ifCond .ne 7, 3) := by decide +kernel
theorem dX5_notUntable_23 : decode cX5_notUntable 23 = .ok (.iconst 2, 1) := by decide +kernel
theorem dX5_notUntable_24 : decode cX5_notUntable 24 = .ok (.goto 4, 3) := by decide +kernel
theorem dX5_notUntable_27 : decode cX5_notUntable 27 = .ok (.iconst 0, 1) := by decide +kernel
theorem dX5_notUntable_28 : decode cX5_notUntable 28 = .ok (.ireturn, 1) := by decide +kernel
theorem dX5_untables_0 : decode cX5_untables 0 = .ok (.aload_n 0, 1) := by decide +kernel
theorem dX5_untables_1 : decode cX5_untables 1 = .ok (.iload_n 1, 1) := by decide +kernel
theorem dX5_untables_2 : decode cX5_untables 2 = .ok (.invokevirtual 133, 3) := by decide +kernel
theorem dX5_untables_5 : decode cX5_untables 5 = .ok (.istore_n 2, 1) := by decide +kernel
theorem dX5_untables_6 : decode cX5_untables 6 = .ok (.aload_n 0, 1) := by decide +kernel
theorem dX5_untables_7 : decode cX5_untables 7 = .ok (.iload_n 2, 1) := by decide +kernel
theorem dX5_untables_8 : decode cX5_untables 8 = .ok (.iconst 5, 1) := by decide +kernel
theorem dX5_untables_9 : decode cX5_untables 9 = .ok (.iconst 0, 1) := by decide +kernel
theorem dX5_untables_10 : decode cX5_untables 10 = .ok (.invokevirtual 120, 3) := by decide +kernel
theorem dX5_untables_13 : decode cX5_untables 13 = .ok (.aload_n 0, 1) := by decide +kernel
theorem dX5_untables_14 : decode cX5_untables 14 = .ok (.aload_n 0, 1) := by decide +kernel
theorem dX5_untables_15 : decode cX5_untables 15 = .ok (.iload_n 2, 1) := by decide +kernel
theorem dX5_untables_16 : decode cX5_untables 16 = .ok (.iconst 2, 1) := by decide +kernel
theorem dX5_untables_17 : decode cX5_untables 17 = .ok (.invokevirtual 61, 3) := by decide +kernel
theorem dX5_untables_20 : decode cX5_untables 20 = .ok (.iconst 1, 1) := by decide +kernel
theorem dX5_untables_21 : decode cX5_untables 21 = .ok (.invokevirtual 142, 3) := by decide +kernel
theorem dX5_untables_24 : decode cX5_untables 24 = .ok (.aload_n 0, 1) := by decide +kernel
theorem dX5_untables_25 : decode cX5_untables 25 = .ok (.aload_n 0, 1) := by decide +kernel
theorem dX5_untables_26 : decode cX5_untables 26 = .ok (.iload_n 2, 1) := by decide +kernel
theorem dX5_untables_27 : decode cX5_untables 27 = .ok (.iconst 2, 1) := by decide +kernel
theorem dX5_untables_28 : decode cX5_untables 28 = .ok (.invokevirtual 61, 3) := by decide +kernel
theorem dX5_untables_31 : decode cX5_untables 31 = .ok (.iconst 1, 1) := by decide +kernel
theorem dX5_untables_32 : decode cX5_untables 32 = .ok (.invokevirtual 65, 3) := by decide +kernel
theorem dX5_untables_35 : decode cX5_untables 35 = .ok (.ireturn, 1) := by decide +kernel
theorem dX5_untable_0 : decode cX5_untable 0 = .ok (.aload_n 0, 1) := by decide +kernel
theorem dX5_untable_1 : decode cX5_untable 1 = .ok (.iconst 0, 1) := by decide +kernel
theorem dX5_untable_2 : decode cX5_untable 2 = .ok (.putfield 42, 3) := by decide +kernel
theorem dX5_untable_5 : decode cX5_untable 5 = .ok (.aload_n 0, 1) := by decide +kernel
theorem dX5_untable_6 : decode cX5_untable 6 = .ok (.iload_n 1, 1) := by decide +kernel
theorem dX5_untable_7 : decode cX5_untable 7 = .ok (.invokevirtual 146, 3) := by decide +kernel
theorem dX5_untable_10 : decode cX5_untable 10 = .ok (.istore_n 2, 1) := by decide +kernel
theorem dX5_untable_11 : decode cX5_untable 11 = .ok (.iload_n 2, 1) := by decide +kernel
theorem dX5_untable_12 : decode cX5_untable 12 = .ok (.ifCond .eq 9, 3) := by decide +kernel
theorem dX5_untable_15 : decode cX5_untable 15 = .ok (.aload_n 0, 1) := by decide +kernel
theorem dX5_untable_16 : decode cX5_untable 16 = .ok (.iload_n 2, 1) := by decide +kernel
theorem dX5_untable_17 : decode cX5_untable 17 = .ok (.invokevirtual 79, 3) := by decide +kernel
theorem dX5_untable_20 : decode cX5_untable 20 = .ok (.ireturn, 1) := by decide +kernel
theorem dX5_untable_21 : decode cX5_untable 21 = .ok (.aload_n 0, 1) := by decide +kernel
theorem dX5_untable_22 : decode cX5_untable 22 = .ok (.invokevirtual 82, 3) := by decide +kernel
theorem dX5_untable_25 : decode cX5_untable 25 = .ok (.aload_n 0, 1) := by decide +kernel
theorem dX5_untable_26 : decode cX5_untable 26 = .ok (.iload_n 1, 1) := by decide +kernel
theorem dX5_untable_27 : decode cX5_untable 27 = .ok (.invokevirtual 149, 3) := by decide +kernel
theorem dX5_untable_30 : decode cX5_untable 30 = .ok (.ireturn, 1) := by decide +kernel
theorem dX5_closes_0 : decode cX5_closes 0 = .ok (.aload_n 0, 1) := by decide +kernel
theorem dX5_closes_1 : decode cX5_closes 1 = .ok (.getfield 7, 3) := by decide +kernel
theorem dX5_closes_4 : decode cX5_closes 4 = .ok (.iconst 2, 1) := by decide +kernel
theorem dX5_closes_5 : decode cX5_closes 5 = .ok (.dup2, 1) := by decide +kernel
theorem dX5_closes_6 : decode cX5_closes 6 = .ok (.iaload, 1) := by decide +kernel
theorem dX5_closes_7 : decode cX5_closes 7 = .ok (.iconst 1, 1) := by decide +kernel
theorem dX5_closes_8 : decode cX5_closes 8 = .ok (.isub, 1) := by decide +kernel
theorem dX5_closes_9 : decode cX5_closes 9 = .ok (.iastore, 1) := by decide +kernel
theorem dX5_closes_10 : decode cX5_closes 10 = .ok (.bipush 43, 2) := by decide +kernel
theorem dX5_closes_12 : decode cX5_closes 12 = .ok (.bipush 6, 2) := by decide +kernel
theorem dX5_closes_14 : decode cX5_closes 14 = .ok (.aload_n 0, 1) := by decide +kernel
theorem dX5_closes_15 : decode cX5_closes 15 = .ok (.getfield 7, 3) := by decide +kernel
theorem dX5_closes_18 : decode cX5_closes 18 = .ok (.iconst 2, 1) := by decide +kernel
theorem dX5_closes_19 : decode cX5_closes 19 = .ok (.iaload, 1) := by decide +kernel
theorem dX5_closes_20 : decode cX5_closes 20 = .ok (.imul, 1) := by decide +kernel
theorem dX5_closes_21 : decode cX5_closes 21 = .ok (.iadd, 1) := by decide +kernel
theorem dX5_closes_22 : decode cX5_closes 22 = .ok (.istore_n 2, 1) := by decide +kernel
theorem dX5_closes_23 : decode cX5_closes 23 = .ok (.bipush 43, 2) := by decide +kernel
theorem dX5_closes_25 : decode cX5_closes 25 = .ok (.bipush 6, 2) := by decide +kernel
theorem dX5_closes_27 : decode cX5_closes 27 = .ok (.iload_n 1, 1) := by decide +kernel
theorem dX5_closes_28 : decode cX5_closes 28 = .ok (.imul, 1) := by decide +kernel
theorem dX5_closes_29 : decode cX5_closes 29 = .ok (.iadd, 1) := by decide +kernel
theorem dX5_closes_30 : decode cX5_closes 30 = .ok (.istore_n 3, 1) := by decide +kernel
theorem dX5_closes_31 : decode cX5_closes 31 = .ok (.iload_n 3, 1) := by decide +kernel
theorem dX5_closes_32 : decode cX5_closes 32 = .ok (.iload_n 2, 1) := by decide +kernel
theorem dX5_closes_33 : decode cX5_closes 33 = .ok (.if_icmp .ge 24, 3) := by decide +kernel
theorem dX5_closes_36 : decode cX5_closes 36 = .ok (.aload_n 0, 1) := by decide +kernel
theorem dX5_closes_37 : decode cX5_closes 37 = .ok (.getfield 7, 3) := by decide +kernel
theorem dX5_closes_40 : decode cX5_closes 40 = .ok (.iload_n 3, 1) := by decide +kernel
theorem dX5_closes_41 : decode cX5_closes 41 = .ok (.aload_n 0, 1) := by decide +kernel
theorem dX5_closes_42 : decode cX5_closes 42 = .ok (.getfield 7, 3) := by decide +kernel
theorem dX5_closes_45 : decode cX5_closes 45 = .ok (.iload_n 3, 1) := by decide +kernel
theorem dX5_closes_46 : decode cX5_closes 46 = .ok (.bipush 6, 2) := by decide +kernel
theorem dX5_closes_48 : decode cX5_closes 48 = .ok (.iadd, 1) := by decide +kernel
theorem dX5_closes_49 : decode cX5_closes 49 = .ok (.iaload, 1) := by decide +kernel
theorem dX5_closes_50 : decode cX5_closes 50 = .ok (.iastore, 1) := by decide +kernel
theorem dX5_closes_51 : decode cX5_closes 51 = .ok (.iinc 3 1, 3) := by decide +kernel
theorem dX5_closes_54 : decode cX5_closes 54 = .ok (.goto (-23), 3) := by decide +kernel
theorem dX5_closes_57 : decode cX5_closes 57 = .ok (.iconst 0, 1) := by decide +kernel
theorem dX5_closes_58 : decode cX5_closes 58 = .ok (.istore_n 3, 1) := by decide +kernel
theorem dX5_closes_59 : decode cX5_closes 59 = .ok (.iload_n 3, 1) := by decide +kernel
theorem dX5_closes_60 : decode cX5_closes 60 = .ok (.bipush 6, 2) := by decide +kernel
theorem dX5_closes_62 : decode cX5_closes 62 = .ok (.if_icmp .ge 18, 3) := by decide +kernel
theorem dX5_closes_65 : decode cX5_closes 65 = .ok (.aload_n 0, 1) := by decide +kernel
theorem dX5_closes_66 : decode cX5_closes 66 = .ok (.getfield 7, 3) := by decide +kernel
theorem dX5_closes_69 : decode cX5_closes 69 = .ok (.iload_n 2, 1) := by decide +kernel
theorem dX5_closes_70 : decode cX5_closes 70 = .ok (.iload_n 3, 1) := by decide +kernel
theorem dX5_closes_71 : decode cX5_closes 71 = .ok (.iadd, 1) := by decide +kernel
theorem dX5_closes_72 : decode cX5_closes 72 = .ok (.iconst 0, 1) := by decide +kernel
theorem dX5_closes_73 : decode cX5_closes 73 = .ok (.iastore, 1) := by decide +kernel
theorem dX5_closes_74 : decode cX5_closes 74 = .ok (.iinc 3 1, 3) := by decide +kernel
theorem dX5_closes_77 : decode cX5_closes 77 = .ok (.goto (-18), 3) := by decide +kernel
theorem dX5_closes_80 : decode cX5_closes 80 = .ok (.return_, 1) := by decide +kernel
theorem dX5_notWithdraw_0 : decode cX5_notWithdraw 0 = .ok (.aload_n 0, 1) := by decide +kernel
theorem dX5_notWithdraw_1 : decode cX5_notWithdraw 1 = .ok (.iload_n 1, 1) := by decide +kernel
theorem dX5_notWithdraw_2 : decode cX5_notWithdraw 2 = .ok (.invokevirtual 133, 3) := by decide +kernel
theorem dX5_notWithdraw_5 : decode cX5_notWithdraw 5 = .ok (.ifCond .ge 7, 3) := by decide +kernel
theorem dX5_notWithdraw_8 : decode cX5_notWithdraw 8 = .ok (.iconst 1, 1) := by decide +kernel
theorem dX5_notWithdraw_9 : decode cX5_notWithdraw 9 = .ok (.goto 4, 3) := by decide +kernel
theorem dX5_notWithdraw_12 : decode cX5_notWithdraw 12 = .ok (.iconst 0, 1) := by decide +kernel
theorem dX5_notWithdraw_13 : decode cX5_notWithdraw 13 = .ok (.ireturn, 1) := by decide +kernel
theorem dX5_withdraws_0 : decode cX5_withdraws 0 = .ok (.aload_n 0, 1) := by decide +kernel
theorem dX5_withdraws_1 : decode cX5_withdraws 1 = .ok (.aload_n 0, 1) := by decide +kernel
theorem dX5_withdraws_2 : decode cX5_withdraws 2 = .ok (.iload_n 1, 1) := by decide +kernel
theorem dX5_withdraws_3 : decode cX5_withdraws 3 = .ok (.invokevirtual 133, 3) := by decide +kernel
theorem dX5_withdraws_6 : decode cX5_withdraws 6 = .ok (.invokevirtual 152, 3) := by decide +kernel
theorem dX5_withdraws_9 : decode cX5_withdraws 9 = .ok (.aload_n 0, 1) := by decide +kernel
theorem dX5_withdraws_10 : decode cX5_withdraws 10 = .ok (.getfield 7, 3) := by decide +kernel
theorem dX5_withdraws_13 : decode cX5_withdraws 13 = .ok (.iconst 2, 1) := by decide +kernel
theorem dX5_withdraws_14 : decode cX5_withdraws 14 = .ok (.iaload, 1) := by decide +kernel
theorem dX5_withdraws_15 : decode cX5_withdraws 15 = .ok (.ireturn, 1) := by decide +kernel
theorem dX5_withdraw_0 : decode cX5_withdraw 0 = .ok (.aload_n 0, 1) := by decide +kernel
theorem dX5_withdraw_1 : decode cX5_withdraw 1 = .ok (.iconst 0, 1) := by decide +kernel
theorem dX5_withdraw_2 : decode cX5_withdraw 2 = .ok (.putfield 42, 3) := by decide +kernel
theorem dX5_withdraw_5 : decode cX5_withdraw 5 = .ok (.aload_n 0, 1) := by decide +kernel
theorem dX5_withdraw_6 : decode cX5_withdraw 6 = .ok (.iload_n 1, 1) := by decide +kernel
theorem dX5_withdraw_7 : decode cX5_withdraw 7 = .ok (.invokevirtual 156, 3) := by decide +kernel
theorem dX5_withdraw_10 : decode cX5_withdraw 10 = .ok (.istore_n 2, 1) := by decide +kernel
theorem dX5_withdraw_11 : decode cX5_withdraw 11 = .ok (.iload_n 2, 1) := by decide +kernel
theorem dX5_withdraw_12 : decode cX5_withdraw 12 = .ok (.ifCond .eq 9, 3) := by decide +kernel
theorem dX5_withdraw_15 : decode cX5_withdraw 15 = .ok (.aload_n 0, 1) := by decide +kernel
theorem dX5_withdraw_16 : decode cX5_withdraw 16 = .ok (.iload_n 2, 1) := by decide +kernel
theorem dX5_withdraw_17 : decode cX5_withdraw 17 = .ok (.invokevirtual 79, 3) := by decide +kernel
theorem dX5_withdraw_20 : decode cX5_withdraw 20 = .ok (.ireturn, 1) := by decide +kernel
theorem dX5_withdraw_21 : decode cX5_withdraw 21 = .ok (.aload_n 0, 1) := by decide +kernel
theorem dX5_withdraw_22 : decode cX5_withdraw 22 = .ok (.invokevirtual 82, 3) := by decide +kernel
theorem dX5_withdraw_25 : decode cX5_withdraw 25 = .ok (.aload_n 0, 1) := by decide +kernel
theorem dX5_withdraw_26 : decode cX5_withdraw 26 = .ok (.iload_n 1, 1) := by decide +kernel
theorem dX5_withdraw_27 : decode cX5_withdraw 27 = .ok (.invokevirtual 159, 3) := by decide +kernel
theorem dX5_withdraw_30 : decode cX5_withdraw 30 = .ok (.ireturn, 1) := by decide +kernel
theorem dX5_voteOf_0 : decode cX5_voteOf 0 = .ok (.aload_n 0, 1) := by decide +kernel
theorem dX5_voteOf_1 : decode cX5_voteOf 1 = .ok (.iload_n 2, 1) := by decide +kernel
theorem dX5_voteOf_2 : decode cX5_voteOf 2 = .ok (.iconst 2, 1) := by decide +kernel
theorem dX5_voteOf_3 : decode cX5_voteOf 3 = .ok (.invokevirtual 61, 3) := by decide +kernel
theorem dX5_voteOf_6 : decode cX5_voteOf 6 = .ok (.istore_n 3, 1) := by decide +kernel
theorem dX5_voteOf_7 : decode cX5_voteOf 7 = .ok (.iload_n 1, 1) := by decide +kernel
theorem dX5_voteOf_8 : decode cX5_voteOf 8 = .ok (.iload_n 3, 1) := by decide +kernel
theorem dX5_voteOf_9 : decode cX5_voteOf 9 = .ok (.if_icmp .eq 15, 3) := by decide +kernel
theorem dX5_voteOf_12 : decode cX5_voteOf 12 = .ok (.iload_n 1, 1) := by decide +kernel
theorem dX5_voteOf_13 : decode cX5_voteOf 13 = .ok (.iconst 1, 1) := by decide +kernel
theorem dX5_voteOf_14 : decode cX5_voteOf 14 = .ok (.iadd, 1) := by decide +kernel
theorem dX5_voteOf_15 : decode cX5_voteOf 15 = .ok (.aload_n 0, 1) := by decide +kernel
theorem dX5_voteOf_16 : decode cX5_voteOf 16 = .ok (.iload_n 2, 1) := by decide +kernel
theorem dX5_voteOf_17 : decode cX5_voteOf 17 = .ok (.iconst 4, 1) := by decide +kernel
theorem dX5_voteOf_18 : decode cX5_voteOf 18 = .ok (.invokevirtual 61, 3) := by decide +kernel
theorem dX5_voteOf_21 : decode cX5_voteOf 21 = .ok (.if_icmp .ne 5, 3) := by decide +kernel
theorem dX5_voteOf_24 : decode cX5_voteOf 24 = .ok (.iconst 1, 1) := by decide +kernel
theorem dX5_voteOf_25 : decode cX5_voteOf 25 = .ok (.ireturn, 1) := by decide +kernel
theorem dX5_voteOf_26 : decode cX5_voteOf 26 = .ok (.aload_n 0, 1) := by decide +kernel
theorem dX5_voteOf_27 : decode cX5_voteOf 27 = .ok (.iload_n 1, 1) := by decide +kernel
theorem dX5_voteOf_28 : decode cX5_voteOf 28 = .ok (.invokevirtual 104, 3) := by decide +kernel
theorem dX5_voteOf_31 : decode cX5_voteOf 31 = .ok (.ifCond .ne 5, 3) := by decide +kernel
theorem dX5_voteOf_34 : decode cX5_voteOf 34 = .ok (.iconst 0, 1) := by decide +kernel
theorem dX5_voteOf_35 : decode cX5_voteOf 35 = .ok (.ireturn, 1) := by decide +kernel
theorem dX5_voteOf_36 : decode cX5_voteOf 36 = .ok (.aload_n 0, 1) := by decide +kernel
theorem dX5_voteOf_37 : decode cX5_voteOf 37 = .ok (.iload_n 1, 1) := by decide +kernel
theorem dX5_voteOf_38 : decode cX5_voteOf 38 = .ok (.iconst 1, 1) := by decide +kernel
theorem dX5_voteOf_39 : decode cX5_voteOf 39 = .ok (.invokevirtual 65, 3) := by decide +kernel
theorem dX5_voteOf_42 : decode cX5_voteOf 42 = .ok (.aload_n 0, 1) := by decide +kernel
theorem dX5_voteOf_43 : decode cX5_voteOf 43 = .ok (.iload_n 3, 1) := by decide +kernel
theorem dX5_voteOf_44 : decode cX5_voteOf 44 = .ok (.iconst 1, 1) := by decide +kernel
theorem dX5_voteOf_45 : decode cX5_voteOf 45 = .ok (.invokevirtual 65, 3) := by decide +kernel
theorem dX5_voteOf_48 : decode cX5_voteOf 48 = .ok (.if_icmp .gt 7, 3) := by decide +kernel
theorem dX5_voteOf_51 : decode cX5_voteOf 51 = .ok (.iconst 1, 1) := by decide +kernel
theorem dX5_voteOf_52 : decode cX5_voteOf 52 = .ok (.goto 4, 3) := by decide +kernel
theorem dX5_voteOf_55 : decode cX5_voteOf 55 = .ok (.iconst (-1), 1) := by decide +kernel
theorem dX5_voteOf_56 : decode cX5_voteOf 56 = .ok (.ireturn, 1) := by decide +kernel
theorem dX5_votes_0 : decode cX5_votes 0 = .ok (.iconst 0, 1) := by decide +kernel
theorem dX5_votes_1 : decode cX5_votes 1 = .ok (.istore_n 3, 1) := by decide +kernel
theorem dX5_votes_2 : decode cX5_votes 2 = .ok (.iconst 0, 1) := by decide +kernel
theorem dX5_votes_3 : decode cX5_votes 3 = .ok (.istore 4, 2) := by decide +kernel
theorem dX5_votes_5 : decode cX5_votes 5 = .ok (.iload 4, 2) := by decide +kernel
theorem dX5_votes_7 : decode cX5_votes 7 = .ok (.aload_n 0, 1) := by decide +kernel
theorem dX5_votes_8 : decode cX5_votes 8 = .ok (.getfield 7, 3) := by decide +kernel
theorem dX5_votes_11 : decode cX5_votes 11 = .ok (.iconst 0, 1) := by decide +kernel
theorem dX5_votes_12 : decode cX5_votes 12 = .ok (.iaload, 1) := by decide +kernel
theorem dX5_votes_13 : decode cX5_votes 13 = .ok (.if_icmp .ge 34, 3) := by decide +kernel
theorem dX5_votes_16 : decode cX5_votes 16 = .ok (.iload_n 3, 1) := by decide +kernel
theorem dX5_votes_17 : decode cX5_votes 17 = .ok (.aload_n 0, 1) := by decide +kernel
theorem dX5_votes_18 : decode cX5_votes 18 = .ok (.iload 4, 2) := by decide +kernel
theorem dX5_votes_20 : decode cX5_votes 20 = .ok (.iload_n 1, 1) := by decide +kernel
theorem dX5_votes_21 : decode cX5_votes 21 = .ok (.invokevirtual 162, 3) := by decide +kernel
theorem dX5_votes_24 : decode cX5_votes 24 = .ok (.iload_n 2, 1) := by decide +kernel
theorem dX5_votes_25 : decode cX5_votes 25 = .ok (.if_icmp .ne 13, 3) := by decide +kernel
theorem dX5_votes_28 : decode cX5_votes 28 = .ok (.aload_n 0, 1) := by decide +kernel
theorem dX5_votes_29 : decode cX5_votes 29 = .ok (.iload 4, 2) := by decide +kernel
theorem dX5_votes_31 : decode cX5_votes 31 = .ok (.iconst 0, 1) := by decide +kernel
theorem dX5_votes_32 : decode cX5_votes 32 = .ok (.invokevirtual 65, 3) := by decide +kernel
theorem dX5_votes_35 : decode cX5_votes 35 = .ok (.goto 4, 3) := by decide +kernel
theorem dX5_votes_38 : decode cX5_votes 38 = .ok (.iconst 0, 1) := by decide +kernel
theorem dX5_votes_39 : decode cX5_votes 39 = .ok (.iadd, 1) := by decide +kernel
theorem dX5_votes_40 : decode cX5_votes 40 = .ok (.istore_n 3, 1) := by decide +kernel
theorem dX5_votes_41 : decode cX5_votes 41 = .ok (.iinc 4 1, 3) := by decide +kernel
theorem dX5_votes_44 : decode cX5_votes 44 = .ok (.goto (-39), 3) := by decide +kernel
theorem dX5_votes_47 : decode cX5_votes 47 = .ok (.iload_n 3, 1) := by decide +kernel
theorem dX5_votes_48 : decode cX5_votes 48 = .ok (.ireturn, 1) := by decide +kernel
theorem dX5_isPossible_0 : decode cX5_isPossible 0 = .ok (.aload_n 0, 1) := by decide +kernel
theorem dX5_isPossible_1 : decode cX5_isPossible 1 = .ok (.iload_n 1, 1) := by decide +kernel
theorem dX5_isPossible_2 : decode cX5_isPossible 2 = .ok (.iconst 2, 1) := by decide +kernel
theorem dX5_isPossible_3 : decode cX5_isPossible 3 = .ok (.invokevirtual 61, 3) := by decide +kernel
theorem dX5_isPossible_6 : decode cX5_isPossible 6 = .ok (.istore_n 2, 1) := by decide +kernel
theorem dX5_isPossible_7 : decode cX5_isPossible 7 = .ok (.aload_n 0, 1) := by decide +kernel
theorem dX5_isPossible_8 : decode cX5_isPossible 8 = .ok (.iload_n 1, 1) := by decide +kernel
theorem dX5_isPossible_9 : decode cX5_isPossible 9 = .ok (.iconst 3, 1) := by decide +kernel
theorem dX5_isPossible_10 : decode cX5_isPossible 10 = .ok (.invokevirtual 61, 3) := by decide +kernel
theorem dX5_isPossible_13 : decode cX5_isPossible 13 = .ok (.istore_n 3, 1) := by decide +kernel
theorem dX5_isPossible_14 : decode cX5_isPossible 14 = .ok (.aload_n 0, 1) := by decide +kernel
theorem dX5_isPossible_15 : decode cX5_isPossible 15 = .ok (.iload_n 1, 1) := by decide +kernel
theorem dX5_isPossible_16 : decode cX5_isPossible 16 = .ok (.iconst 1, 1) := by decide +kernel
theorem dX5_isPossible_17 : decode cX5_isPossible 17 = .ok (.invokevirtual 61, 3) := by decide +kernel
theorem dX5_isPossible_20 : decode cX5_isPossible 20 = .ok (.ifCond .ne 26, 3) := by decide +kernel
theorem dX5_isPossible_23 : decode cX5_isPossible 23 = .ok (.aload_n 0, 1) := by decide +kernel
theorem dX5_isPossible_24 : decode cX5_isPossible 24 = .ok (.iload_n 3, 1) := by decide +kernel
theorem dX5_isPossible_25 : decode cX5_isPossible 25 = .ok (.iconst 1, 1) := by decide +kernel
theorem dX5_isPossible_26 : decode cX5_isPossible 26 = .ok (.invokevirtual 68, 3) := by decide +kernel
theorem dX5_isPossible_29 : decode cX5_isPossible 29 = .ok (.ifCond .ne 15, 3) := by decide +kernel
theorem dX5_isPossible_32 : decode cX5_isPossible 32 = .ok (.aload_n 0, 1) := by decide +kernel
theorem dX5_isPossible_33 : decode cX5_isPossible 33 = .ok (.iload_n 2, 1) := by decide +kernel
theorem dX5_isPossible_34 : decode cX5_isPossible 34 = .ok (.invokevirtual 104, 3) := by decide +kernel
theorem dX5_isPossible_37 : decode cX5_isPossible 37 = .ok (.ifCond .eq 7, 3) := by decide +kernel
theorem dX5_isPossible_40 : decode cX5_isPossible 40 = .ok (.iconst 1, 1) := by decide +kernel
theorem dX5_isPossible_41 : decode cX5_isPossible 41 = .ok (.goto 4, 3) := by decide +kernel
theorem dX5_isPossible_44 : decode cX5_isPossible 44 = .ok (.iconst 0, 1) := by decide +kernel
theorem dX5_isPossible_45 : decode cX5_isPossible 45 = .ok (.ireturn, 1) := by decide +kernel
theorem dX5_isPossible_46 : decode cX5_isPossible 46 = .ok (.aload_n 0, 1) := by decide +kernel
theorem dX5_isPossible_47 : decode cX5_isPossible 47 = .ok (.iload_n 1, 1) := by decide +kernel
theorem dX5_isPossible_48 : decode cX5_isPossible 48 = .ok (.iconst 1, 1) := by decide +kernel
theorem dX5_isPossible_49 : decode cX5_isPossible 49 = .ok (.invokevirtual 61, 3) := by decide +kernel
theorem dX5_isPossible_52 : decode cX5_isPossible 52 = .ok (.iconst 1, 1) := by decide +kernel
theorem dX5_isPossible_53 : decode cX5_isPossible 53 = .ok (.if_icmp .ne 21, 3) := by decide +kernel
theorem dX5_isPossible_56 : decode cX5_isPossible 56 = .ok (.aload_n 0, 1) := by decide +kernel
theorem dX5_isPossible_57 : decode cX5_isPossible 57 = .ok (.iload_n 3, 1) := by decide +kernel
theorem dX5_isPossible_58 : decode cX5_isPossible 58 = .ok (.iconst 1, 1) := by decide +kernel
theorem dX5_isPossible_59 : decode cX5_isPossible 59 = .ok (.invokevirtual 68, 3) := by decide +kernel
theorem dX5_isPossible_62 : decode cX5_isPossible 62 = .ok (.iload_n 2, 1) := by decide +kernel
theorem dX5_isPossible_63 : decode cX5_isPossible 63 = .ok (.iconst 1, 1) := by decide +kernel
theorem dX5_isPossible_64 : decode cX5_isPossible 64 = .ok (.iadd, 1) := by decide +kernel
theorem dX5_isPossible_65 : decode cX5_isPossible 65 = .ok (.if_icmp .ne 7, 3) := by decide +kernel
theorem dX5_isPossible_68 : decode cX5_isPossible 68 = .ok (.iconst 1, 1) := by decide +kernel
theorem dX5_isPossible_69 : decode cX5_isPossible 69 = .ok (.goto 4, 3) := by decide +kernel
theorem dX5_isPossible_72 : decode cX5_isPossible 72 = .ok (.iconst 0, 1) := by decide +kernel
theorem dX5_isPossible_73 : decode cX5_isPossible 73 = .ok (.ireturn, 1) := by decide +kernel
theorem dX5_isPossible_74 : decode cX5_isPossible 74 = .ok (.aload_n 0, 1) := by decide +kernel
theorem dX5_isPossible_75 : decode cX5_isPossible 75 = .ok (.iload_n 3, 1) := by decide +kernel
theorem dX5_isPossible_76 : decode cX5_isPossible 76 = .ok (.invokevirtual 104, 3) := by decide +kernel
theorem dX5_isPossible_79 : decode cX5_isPossible 79 = .ok (.ireturn, 1) := by decide +kernel
theorem dX5_carries_0 : decode cX5_carries 0 = .ok (.aload_n 0, 1) := by decide +kernel
theorem dX5_carries_1 : decode cX5_carries 1 = .ok (.iload_n 1, 1) := by decide +kernel
theorem dX5_carries_2 : decode cX5_carries 2 = .ok (.iconst 3, 1) := by decide +kernel
theorem dX5_carries_3 : decode cX5_carries 3 = .ok (.invokevirtual 61, 3) := by decide +kernel
theorem dX5_carries_6 : decode cX5_carries 6 = .ok (.istore_n 2, 1) := by decide +kernel
theorem dX5_carries_7 : decode cX5_carries 7 = .ok (.aload_n 0, 1) := by decide +kernel
theorem dX5_carries_8 : decode cX5_carries 8 = .ok (.iload_n 1, 1) := by decide +kernel
theorem dX5_carries_9 : decode cX5_carries 9 = .ok (.iconst 1, 1) := by decide +kernel
theorem dX5_carries_10 : decode cX5_carries 10 = .ok (.invokevirtual 61, 3) := by decide +kernel
theorem dX5_carries_13 : decode cX5_carries 13 = .ok (.ifCond .ne 27, 3) := by decide +kernel
theorem dX5_carries_16 : decode cX5_carries 16 = .ok (.aload_n 0, 1) := by decide +kernel
theorem dX5_carries_17 : decode cX5_carries 17 = .ok (.getfield 7, 3) := by decide +kernel
theorem dX5_carries_20 : decode cX5_carries 20 = .ok (.bipush 27, 2) := by decide +kernel
theorem dX5_carries_22 : decode cX5_carries 22 = .ok (.iconst 2, 1) := by decide +kernel
theorem dX5_carries_23 : decode cX5_carries 23 = .ok (.iload_n 2, 1) := by decide +kernel
theorem dX5_carries_24 : decode cX5_carries 24 = .ok (.imul, 1) := by decide +kernel
theorem dX5_carries_25 : decode cX5_carries 25 = .ok (.iadd, 1) := by decide +kernel
theorem dX5_carries_26 : decode cX5_carries 26 = .ok (.iconst 1, 1) := by decide +kernel
theorem dX5_carries_27 : decode cX5_carries 27 = .ok (.iadd, 1) := by decide +kernel
theorem dX5_carries_28 : decode cX5_carries 28 = .ok (.aload_n 0, 1) := by decide +kernel
theorem dX5_carries_29 : decode cX5_carries 29 = .ok (.iload_n 1, 1) := by decide +kernel
theorem dX5_carries_30 : decode cX5_carries 30 = .ok (.iconst 2, 1) := by decide +kernel
theorem dX5_carries_31 : decode cX5_carries 31 = .ok (.invokevirtual 61, 3) := by decide +kernel
theorem dX5_carries_34 : decode cX5_carries 34 = .ok (.iconst 1, 1) := by decide +kernel
theorem dX5_carries_35 : decode cX5_carries 35 = .ok (.iadd, 1) := by decide +kernel
theorem dX5_carries_36 : decode cX5_carries 36 = .ok (.iastore, 1) := by decide +kernel
theorem dX5_carries_37 : decode cX5_carries 37 = .ok (.goto 35, 3) := by decide +kernel
theorem dX5_carries_40 : decode cX5_carries 40 = .ok (.aload_n 0, 1) := by decide +kernel
theorem dX5_carries_41 : decode cX5_carries 41 = .ok (.iload_n 1, 1) := by decide +kernel
theorem dX5_carries_42 : decode cX5_carries 42 = .ok (.iconst 1, 1) := by decide +kernel
theorem dX5_carries_43 : decode cX5_carries 43 = .ok (.invokevirtual 61, 3) := by decide +kernel
theorem dX5_carries_46 : decode cX5_carries 46 = .ok (.iconst 1, 1) := by decide +kernel
theorem dX5_carries_47 : decode cX5_carries 47 = .ok (.if_icmp .ne 20, 3) := by decide +kernel
theorem dX5_carries_50 : decode cX5_carries 50 = .ok (.aload_n 0, 1) := by decide +kernel
theorem dX5_carries_51 : decode cX5_carries 51 = .ok (.getfield 7, 3) := by decide +kernel
theorem dX5_carries_54 : decode cX5_carries 54 = .ok (.bipush 27, 2) := by decide +kernel
theorem dX5_carries_56 : decode cX5_carries 56 = .ok (.iconst 2, 1) := by decide +kernel
theorem dX5_carries_57 : decode cX5_carries 57 = .ok (.iload_n 2, 1) := by decide +kernel
theorem dX5_carries_58 : decode cX5_carries 58 = .ok (.imul, 1) := by decide +kernel
theorem dX5_carries_59 : decode cX5_carries 59 = .ok (.iadd, 1) := by decide +kernel
theorem dX5_carries_60 : decode cX5_carries 60 = .ok (.iconst 1, 1) := by decide +kernel
theorem dX5_carries_61 : decode cX5_carries 61 = .ok (.iadd, 1) := by decide +kernel
theorem dX5_carries_62 : decode cX5_carries 62 = .ok (.iconst 0, 1) := by decide +kernel
theorem dX5_carries_63 : decode cX5_carries 63 = .ok (.iastore, 1) := by decide +kernel
theorem dX5_carries_64 : decode cX5_carries 64 = .ok (.goto 8, 3) := by decide +kernel
theorem dX5_carries_67 : decode cX5_carries 67 = .ok (.aload_n 0, 1) := by decide +kernel
theorem dX5_carries_68 : decode cX5_carries 68 = .ok (.iload_n 2, 1) := by decide +kernel
theorem dX5_carries_69 : decode cX5_carries 69 = .ok (.invokevirtual 165, 3) := by decide +kernel
theorem dX5_carries_72 : decode cX5_carries 72 = .ok (.return_, 1) := by decide +kernel
theorem dX5_notVote_0 : decode cX5_notVote 0 = .ok (.aload_n 0, 1) := by decide +kernel
theorem dX5_notVote_1 : decode cX5_notVote 1 = .ok (.iload_n 1, 1) := by decide +kernel
theorem dX5_notVote_2 : decode cX5_notVote 2 = .ok (.invokevirtual 133, 3) := by decide +kernel
theorem dX5_notVote_5 : decode cX5_notVote 5 = .ok (.istore_n 2, 1) := by decide +kernel
theorem dX5_notVote_6 : decode cX5_notVote 6 = .ok (.iload_n 2, 1) := by decide +kernel
theorem dX5_notVote_7 : decode cX5_notVote 7 = .ok (.ifCond .ge 5, 3) := by decide +kernel
theorem dX5_notVote_10 : decode cX5_notVote 10 = .ok (.iconst 1, 1) := by decide +kernel
theorem dX5_notVote_11 : decode cX5_notVote 11 = .ok (.ireturn, 1) := by decide +kernel
theorem dX5_notVote_12 : decode cX5_notVote 12 = .ok (.aload_n 0, 1) := by decide +kernel
theorem dX5_notVote_13 : decode cX5_notVote 13 = .ok (.iload_n 2, 1) := by decide +kernel
theorem dX5_notVote_14 : decode cX5_notVote 14 = .ok (.iconst 4, 1) := by decide +kernel
theorem dX5_notVote_15 : decode cX5_notVote 15 = .ok (.invokevirtual 61, 3) := by decide +kernel
theorem dX5_notVote_18 : decode cX5_notVote 18 = .ok (.ifCond .eq 13, 3) := by decide +kernel
theorem dX5_notVote_21 : decode cX5_notVote 21 = .ok (.aload_n 0, 1) := by decide +kernel
theorem dX5_notVote_22 : decode cX5_notVote 22 = .ok (.iload_n 2, 1) := by decide +kernel
theorem dX5_notVote_23 : decode cX5_notVote 23 = .ok (.iconst 5, 1) := by decide +kernel
theorem dX5_notVote_24 : decode cX5_notVote 24 = .ok (.invokevirtual 61, 3) := by decide +kernel
theorem dX5_notVote_27 : decode cX5_notVote 27 = .ok (.iconst 1, 1) := by decide +kernel
theorem dX5_notVote_28 : decode cX5_notVote 28 = .ok (.if_icmp .ne 7, 3) := by decide +kernel
theorem dX5_notVote_31 : decode cX5_notVote 31 = .ok (.iconst 2, 1) := by decide +kernel
theorem dX5_notVote_32 : decode cX5_notVote 32 = .ok (.goto 4, 3) := by decide +kernel
theorem dX5_notVote_35 : decode cX5_notVote 35 = .ok (.iconst 0, 1) := by decide +kernel
theorem dX5_notVote_36 : decode cX5_notVote 36 = .ok (.ireturn, 1) := by decide +kernel
theorem dX5_votesOn_0 : decode cX5_votesOn 0 = .ok (.aload_n 0, 1) := by decide +kernel
theorem dX5_votesOn_1 : decode cX5_votesOn 1 = .ok (.iload_n 1, 1) := by decide +kernel
theorem dX5_votesOn_2 : decode cX5_votesOn 2 = .ok (.invokevirtual 133, 3) := by decide +kernel
theorem dX5_votesOn_5 : decode cX5_votesOn 5 = .ok (.istore_n 2, 1) := by decide +kernel
theorem dX5_votesOn_6 : decode cX5_votesOn 6 = .ok (.aload_n 0, 1) := by decide +kernel
theorem dX5_votesOn_7 : decode cX5_votesOn 7 = .ok (.iload_n 2, 1) := by decide +kernel
theorem dX5_votesOn_8 : decode cX5_votesOn 8 = .ok (.iconst 1, 1) := by decide +kernel
theorem dX5_votesOn_9 : decode cX5_votesOn 9 = .ok (.invokevirtual 168, 3) := by decide +kernel
theorem dX5_votesOn_12 : decode cX5_votesOn 12 = .ok (.aload_n 0, 1) := by decide +kernel
theorem dX5_votesOn_13 : decode cX5_votesOn 13 = .ok (.iload_n 2, 1) := by decide +kernel
theorem dX5_votesOn_14 : decode cX5_votesOn 14 = .ok (.iconst (-1), 1) := by decide +kernel
theorem dX5_votesOn_15 : decode cX5_votesOn 15 = .ok (.invokevirtual 168, 3) := by decide +kernel
theorem dX5_votesOn_18 : decode cX5_votesOn 18 = .ok (.if_icmp .le 15, 3) := by decide +kernel
theorem dX5_votesOn_21 : decode cX5_votesOn 21 = .ok (.aload_n 0, 1) := by decide +kernel
theorem dX5_votesOn_22 : decode cX5_votesOn 22 = .ok (.iload_n 2, 1) := by decide +kernel
theorem dX5_votesOn_23 : decode cX5_votesOn 23 = .ok (.invokevirtual 171, 3) := by decide +kernel
theorem dX5_votesOn_26 : decode cX5_votesOn 26 = .ok (.ifCond .eq 7, 3) := by decide +kernel
theorem dX5_votesOn_29 : decode cX5_votesOn 29 = .ok (.iconst 1, 1) := by decide +kernel
theorem dX5_votesOn_30 : decode cX5_votesOn 30 = .ok (.goto 4, 3) := by decide +kernel
theorem dX5_votesOn_33 : decode cX5_votesOn 33 = .ok (.iconst 0, 1) := by decide +kernel
theorem dX5_votesOn_34 : decode cX5_votesOn 34 = .ok (.istore_n 3, 1) := by decide +kernel
theorem dX5_votesOn_35 : decode cX5_votesOn 35 = .ok (.iload_n 3, 1) := by decide +kernel
theorem dX5_votesOn_36 : decode cX5_votesOn 36 = .ok (.ifCond .eq 8, 3) := by decide +kernel
theorem dX5_votesOn_39 : decode cX5_votesOn 39 = .ok (.aload_n 0, 1) := by decide +kernel
theorem dX5_votesOn_40 : decode cX5_votesOn 40 = .ok (.iload_n 2, 1) := by decide +kernel
theorem dX5_votesOn_41 : decode cX5_votesOn 41 = .ok (.invokevirtual 174, 3) := by decide +kernel
theorem dX5_votesOn_44 : decode cX5_votesOn 44 = .ok (.aload_n 0, 1) := by decide +kernel
theorem dX5_votesOn_45 : decode cX5_votesOn 45 = .ok (.iload_n 2, 1) := by decide +kernel
theorem dX5_votesOn_46 : decode cX5_votesOn 46 = .ok (.invokevirtual 152, 3) := by decide +kernel
theorem dX5_votesOn_49 : decode cX5_votesOn 49 = .ok (.aload_n 0, 1) := by decide +kernel
theorem dX5_votesOn_50 : decode cX5_votesOn 50 = .ok (.getfield 7, 3) := by decide +kernel
theorem dX5_votesOn_53 : decode cX5_votesOn 53 = .ok (.iload_n 3, 1) := by decide +kernel
theorem dX5_votesOn_54 : decode cX5_votesOn 54 = .ok (.ifCond .eq 7, 3) := by decide +kernel
theorem dX5_votesOn_57 : decode cX5_votesOn 57 = .ok (.iconst 5, 1) := by decide +kernel
theorem dX5_votesOn_58 : decode cX5_votesOn 58 = .ok (.goto 5, 3) := by decide +kernel
theorem dX5_votesOn_61 : decode cX5_votesOn 61 = .ok (.bipush 6, 2) := by decide +kernel
theorem dX5_votesOn_63 : decode cX5_votesOn 63 = .ok (.dup2, 1) := by decide +kernel
theorem dX5_votesOn_64 : decode cX5_votesOn 64 = .ok (.iaload, 1) := by decide +kernel
theorem dX5_votesOn_65 : decode cX5_votesOn 65 = .ok (.iconst 1, 1) := by decide +kernel
theorem dX5_votesOn_66 : decode cX5_votesOn 66 = .ok (.iadd, 1) := by decide +kernel
theorem dX5_votesOn_67 : decode cX5_votesOn 67 = .ok (.iastore, 1) := by decide +kernel
theorem dX5_votesOn_68 : decode cX5_votesOn 68 = .ok (.iload_n 3, 1) := by decide +kernel
theorem dX5_votesOn_69 : decode cX5_votesOn 69 = .ok (.ifCond .eq 7, 3) := by decide +kernel
theorem dX5_votesOn_72 : decode cX5_votesOn 72 = .ok (.iconst 1, 1) := by decide +kernel
theorem dX5_votesOn_73 : decode cX5_votesOn 73 = .ok (.goto 4, 3) := by decide +kernel
theorem dX5_votesOn_76 : decode cX5_votesOn 76 = .ok (.iconst 0, 1) := by decide +kernel
theorem dX5_votesOn_77 : decode cX5_votesOn 77 = .ok (.ireturn, 1) := by decide +kernel
theorem dX5_vote_0 : decode cX5_vote 0 = .ok (.aload_n 0, 1) := by decide +kernel
theorem dX5_vote_1 : decode cX5_vote 1 = .ok (.iconst 0, 1) := by decide +kernel
theorem dX5_vote_2 : decode cX5_vote 2 = .ok (.putfield 42, 3) := by decide +kernel
theorem dX5_vote_5 : decode cX5_vote 5 = .ok (.aload_n 0, 1) := by decide +kernel
theorem dX5_vote_6 : decode cX5_vote 6 = .ok (.iload_n 1, 1) := by decide +kernel
theorem dX5_vote_7 : decode cX5_vote 7 = .ok (.invokevirtual 177, 3) := by decide +kernel
theorem dX5_vote_10 : decode cX5_vote 10 = .ok (.istore_n 2, 1) := by decide +kernel
theorem dX5_vote_11 : decode cX5_vote 11 = .ok (.iload_n 2, 1) := by decide +kernel
theorem dX5_vote_12 : decode cX5_vote 12 = .ok (.ifCond .eq 17, 3) := by decide +kernel
theorem dX5_vote_15 : decode cX5_vote 15 = .ok (.aload_n 0, 1) := by decide +kernel
theorem dX5_vote_16 : decode cX5_vote 16 = .ok (.iload_n 2, 1) := by decide +kernel
theorem dX5_vote_17 : decode cX5_vote 17 = .ok (.invokevirtual 79, 3) := by decide +kernel
theorem dX5_vote_20 : decode cX5_vote 20 = .ok (.ifCond .le 7, 3) := by decide +kernel
theorem dX5_vote_23 : decode cX5_vote 23 = .ok (.iconst 1, 1) := by decide +kernel
theorem dX5_vote_24 : decode cX5_vote 24 = .ok (.goto 4, 3) := by decide +kernel
theorem dX5_vote_27 : decode cX5_vote 27 = .ok (.iconst 0, 1) := by decide +kernel
theorem dX5_vote_28 : decode cX5_vote 28 = .ok (.ireturn, 1) := by decide +kernel
theorem dX5_vote_29 : decode cX5_vote 29 = .ok (.aload_n 0, 1) := by decide +kernel
theorem dX5_vote_30 : decode cX5_vote 30 = .ok (.invokevirtual 82, 3) := by decide +kernel
theorem dX5_vote_33 : decode cX5_vote 33 = .ok (.aload_n 0, 1) := by decide +kernel
theorem dX5_vote_34 : decode cX5_vote 34 = .ok (.iload_n 1, 1) := by decide +kernel
theorem dX5_vote_35 : decode cX5_vote 35 = .ok (.invokevirtual 180, 3) := by decide +kernel
theorem dX5_vote_38 : decode cX5_vote 38 = .ok (.iconst 1, 1) := by decide +kernel
theorem dX5_vote_39 : decode cX5_vote 39 = .ok (.if_icmp .ne 7, 3) := by decide +kernel
theorem dX5_vote_42 : decode cX5_vote 42 = .ok (.iconst 1, 1) := by decide +kernel
theorem dX5_vote_43 : decode cX5_vote 43 = .ok (.goto 4, 3) := by decide +kernel
theorem dX5_vote_46 : decode cX5_vote 46 = .ok (.iconst 0, 1) := by decide +kernel
theorem dX5_vote_47 : decode cX5_vote 47 = .ok (.ireturn, 1) := by decide +kernel
theorem dX5_notGust_0 : decode cX5_notGust 0 = .ok (.iload_n 0, 1) := by decide +kernel
theorem dX5_notGust_1 : decode cX5_notGust 1 = .ok (.iconst 0, 1) := by decide +kernel
theorem dX5_notGust_2 : decode cX5_notGust 2 = .ok (.bipush 20, 2) := by decide +kernel
theorem dX5_notGust_4 : decode cX5_notGust 4 = .ok (.invokestatic 57, 3) := by decide +kernel
theorem dX5_notGust_7 : decode cX5_notGust 7 = .ok (.ifCond .eq 7, 3) := by decide +kernel
theorem dX5_notGust_10 : decode cX5_notGust 10 = .ok (.iconst 0, 1) := by decide +kernel
theorem dX5_notGust_11 : decode cX5_notGust 11 = .ok (.goto 4, 3) := by decide +kernel
theorem dX5_notGust_14 : decode cX5_notGust 14 = .ok (.iconst 1, 1) := by decide +kernel
theorem dX5_notGust_15 : decode cX5_notGust 15 = .ok (.ireturn, 1) := by decide +kernel
theorem dX5_blows_0 : decode cX5_blows 0 = .ok (.iconst 0, 1) := by decide +kernel
theorem dX5_blows_1 : decode cX5_blows 1 = .ok (.istore_n 2, 1) := by decide +kernel
theorem dX5_blows_2 : decode cX5_blows 2 = .ok (.iconst 0, 1) := by decide +kernel
theorem dX5_blows_3 : decode cX5_blows 3 = .ok (.istore_n 3, 1) := by decide +kernel
theorem dX5_blows_4 : decode cX5_blows 4 = .ok (.iload_n 3, 1) := by decide +kernel
theorem dX5_blows_5 : decode cX5_blows 5 = .ok (.aload_n 0, 1) := by decide +kernel
theorem dX5_blows_6 : decode cX5_blows 6 = .ok (.getfield 7, 3) := by decide +kernel
theorem dX5_blows_9 : decode cX5_blows 9 = .ok (.iconst 2, 1) := by decide +kernel
theorem dX5_blows_10 : decode cX5_blows 10 = .ok (.iaload, 1) := by decide +kernel
theorem dX5_blows_11 : decode cX5_blows 11 = .ok (.if_icmp .ge 59, 3) := by decide +kernel
theorem dX5_blows_14 : decode cX5_blows 14 = .ok (.aload_n 0, 1) := by decide +kernel
theorem dX5_blows_15 : decode cX5_blows 15 = .ok (.iload_n 3, 1) := by decide +kernel
theorem dX5_blows_16 : decode cX5_blows 16 = .ok (.iconst 2, 1) := by decide +kernel
theorem dX5_blows_17 : decode cX5_blows 17 = .ok (.invokevirtual 61, 3) := by decide +kernel
theorem dX5_blows_20 : decode cX5_blows 20 = .ok (.istore 4, 2) := by decide +kernel
theorem dX5_blows_22 : decode cX5_blows 22 = .ok (.aload_n 0, 1) := by decide +kernel
theorem dX5_blows_23 : decode cX5_blows 23 = .ok (.iload_n 3, 1) := by decide +kernel
theorem dX5_blows_24 : decode cX5_blows 24 = .ok (.iconst 5, 1) := by decide +kernel
theorem dX5_blows_25 : decode cX5_blows 25 = .ok (.invokevirtual 61, 3) := by decide +kernel
theorem dX5_blows_28 : decode cX5_blows 28 = .ok (.iconst 1, 1) := by decide +kernel
theorem dX5_blows_29 : decode cX5_blows 29 = .ok (.if_icmp .eq 35, 3) := by decide +kernel
theorem dX5_blows_32 : decode cX5_blows 32 = .ok (.aload_n 0, 1) := by decide +kernel
theorem dX5_blows_33 : decode cX5_blows 33 = .ok (.iload 4, 2) := by decide +kernel
theorem dX5_blows_35 : decode cX5_blows 35 = .ok (.invokevirtual 104, 3) := by decide +kernel
theorem dX5_blows_38 : decode cX5_blows 38 = .ok (.ifCond .eq 26, 3) := by decide +kernel
theorem dX5_blows_41 : decode cX5_blows 41 = .ok (.aload_n 0, 1) := by decide +kernel
theorem dX5_blows_42 : decode cX5_blows 42 = .ok (.iload 4, 2) := by decide +kernel
theorem dX5_blows_44 : decode cX5_blows 44 = .ok (.invokevirtual 183, 3) := by decide +kernel
theorem dX5_blows_47 : decode cX5_blows 47 = .ok (.iload_n 1, 1) := by decide +kernel
theorem dX5_blows_48 : decode cX5_blows 48 = .ok (.if_icmp .lt 6, 3) := by decide +kernel
theorem dX5_blows_51 : decode cX5_blows 51 = .ok (.goto 13, 3) := by decide +kernel
theorem dX5_blows_54 : decode cX5_blows 54 = .ok (.aload_n 0, 1) := by decide +kernel
theorem dX5_blows_55 : decode cX5_blows 55 = .ok (.iload_n 3, 1) := by decide +kernel
theorem dX5_blows_56 : decode cX5_blows 56 = .ok (.iconst 5, 1) := by decide +kernel
theorem dX5_blows_57 : decode cX5_blows 57 = .ok (.iconst 1, 1) := by decide +kernel
theorem dX5_blows_58 : decode cX5_blows 58 = .ok (.invokevirtual 120, 3) := by decide +kernel
theorem dX5_blows_61 : decode cX5_blows 61 = .ok (.iinc 2 1, 3) := by decide +kernel
theorem dX5_blows_64 : decode cX5_blows 64 = .ok (.iinc 3 1, 3) := by decide +kernel
theorem dX5_blows_67 : decode cX5_blows 67 = .ok (.goto (-63), 3) := by decide +kernel
theorem dX5_blows_70 : decode cX5_blows 70 = .ok (.iload_n 2, 1) := by decide +kernel
theorem dX5_blows_71 : decode cX5_blows 71 = .ok (.ireturn, 1) := by decide +kernel
theorem dX5_gust_0 : decode cX5_gust 0 = .ok (.aload_n 0, 1) := by decide +kernel
theorem dX5_gust_1 : decode cX5_gust 1 = .ok (.iconst 0, 1) := by decide +kernel
theorem dX5_gust_2 : decode cX5_gust 2 = .ok (.putfield 42, 3) := by decide +kernel
theorem dX5_gust_5 : decode cX5_gust 5 = .ok (.iload_n 1, 1) := by decide +kernel
theorem dX5_gust_6 : decode cX5_gust 6 = .ok (.invokestatic 186, 3) := by decide +kernel
theorem dX5_gust_9 : decode cX5_gust 9 = .ok (.ifCond .eq 9, 3) := by decide +kernel
theorem dX5_gust_12 : decode cX5_gust 12 = .ok (.aload_n 0, 1) := by decide +kernel
theorem dX5_gust_13 : decode cX5_gust 13 = .ok (.iconst 1, 1) := by decide +kernel
theorem dX5_gust_14 : decode cX5_gust 14 = .ok (.invokevirtual 79, 3) := by decide +kernel
theorem dX5_gust_17 : decode cX5_gust 17 = .ok (.ireturn, 1) := by decide +kernel
theorem dX5_gust_18 : decode cX5_gust 18 = .ok (.aload_n 0, 1) := by decide +kernel
theorem dX5_gust_19 : decode cX5_gust 19 = .ok (.invokevirtual 82, 3) := by decide +kernel
theorem dX5_gust_22 : decode cX5_gust 22 = .ok (.aload_n 0, 1) := by decide +kernel
theorem dX5_gust_23 : decode cX5_gust 23 = .ok (.iload_n 1, 1) := by decide +kernel
theorem dX5_gust_24 : decode cX5_gust 24 = .ok (.invokevirtual 189, 3) := by decide +kernel
theorem dX5_gust_27 : decode cX5_gust 27 = .ok (.ireturn, 1) := by decide +kernel
theorem dX5_notPass_0 : decode cX5_notPass 0 = .ok (.iload_n 0, 1) := by decide +kernel
theorem dX5_notPass_1 : decode cX5_notPass 1 = .ok (.iconst 1, 1) := by decide +kernel
theorem dX5_notPass_2 : decode cX5_notPass 2 = .ok (.bipush 12, 2) := by decide +kernel
theorem dX5_notPass_4 : decode cX5_notPass 4 = .ok (.invokestatic 57, 3) := by decide +kernel
theorem dX5_notPass_7 : decode cX5_notPass 7 = .ok (.ifCond .eq 7, 3) := by decide +kernel
theorem dX5_notPass_10 : decode cX5_notPass 10 = .ok (.iconst 0, 1) := by decide +kernel
theorem dX5_notPass_11 : decode cX5_notPass 11 = .ok (.goto 4, 3) := by decide +kernel
theorem dX5_notPass_14 : decode cX5_notPass 14 = .ok (.iconst 1, 1) := by decide +kernel
theorem dX5_notPass_15 : decode cX5_notPass 15 = .ok (.ireturn, 1) := by decide +kernel
theorem dX5_passesOne_0 : decode cX5_passesOne 0 = .ok (.iconst 0, 1) := by decide +kernel
theorem dX5_passesOne_1 : decode cX5_passesOne 1 = .ok (.istore_n 1, 1) := by decide +kernel
theorem dX5_passesOne_2 : decode cX5_passesOne 2 = .ok (.iconst 0, 1) := by decide +kernel
theorem dX5_passesOne_3 : decode cX5_passesOne 3 = .ok (.istore_n 2, 1) := by decide +kernel
theorem dX5_passesOne_4 : decode cX5_passesOne 4 = .ok (.iload_n 2, 1) := by decide +kernel
theorem dX5_passesOne_5 : decode cX5_passesOne 5 = .ok (.aload_n 0, 1) := by decide +kernel
theorem dX5_passesOne_6 : decode cX5_passesOne 6 = .ok (.getfield 7, 3) := by decide +kernel
theorem dX5_passesOne_9 : decode cX5_passesOne 9 = .ok (.iconst 0, 1) := by decide +kernel
theorem dX5_passesOne_10 : decode cX5_passesOne 10 = .ok (.iaload, 1) := by decide +kernel
theorem dX5_passesOne_11 : decode cX5_passesOne 11 = .ok (.if_icmp .ge 19, 3) := by decide +kernel
theorem dX5_passesOne_14 : decode cX5_passesOne 14 = .ok (.aload_n 0, 1) := by decide +kernel
theorem dX5_passesOne_15 : decode cX5_passesOne 15 = .ok (.iload_n 2, 1) := by decide +kernel
theorem dX5_passesOne_16 : decode cX5_passesOne 16 = .ok (.aload_n 0, 1) := by decide +kernel
theorem dX5_passesOne_17 : decode cX5_passesOne 17 = .ok (.iload_n 2, 1) := by decide +kernel
theorem dX5_passesOne_18 : decode cX5_passesOne 18 = .ok (.invokevirtual 183, 3) := by decide +kernel
theorem dX5_passesOne_21 : decode cX5_passesOne 21 = .ok (.invokevirtual 142, 3) := by decide +kernel
theorem dX5_passesOne_24 : decode cX5_passesOne 24 = .ok (.iinc 2 1, 3) := by decide +kernel
theorem dX5_passesOne_27 : decode cX5_passesOne 27 = .ok (.goto (-23), 3) := by decide +kernel
theorem dX5_passesOne_30 : decode cX5_passesOne 30 = .ok (.iconst 0, 1) := by decide +kernel
theorem dX5_passesOne_31 : decode cX5_passesOne 31 = .ok (.istore_n 2, 1) := by decide +kernel
theorem dX5_passesOne_32 : decode cX5_passesOne 32 = .ok (.iload_n 2, 1) := by decide +kernel
theorem dX5_passesOne_33 : decode cX5_passesOne 33 = .ok (.aload_n 0, 1) := by decide +kernel
theorem dX5_passesOne_34 : decode cX5_passesOne 34 = .ok (.getfield 7, 3) := by decide +kernel
theorem dX5_passesOne_37 : decode cX5_passesOne 37 = .ok (.iconst 0, 1) := by decide +kernel
theorem dX5_passesOne_38 : decode cX5_passesOne 38 = .ok (.iaload, 1) := by decide +kernel
theorem dX5_passesOne_39 : decode cX5_passesOne 39 = .ok (.if_icmp .ge 39, 3) := by decide +kernel
theorem dX5_passesOne_42 : decode cX5_passesOne 42 = .ok (.aload_n 0, 1) := by decide +kernel
theorem dX5_passesOne_43 : decode cX5_passesOne 43 = .ok (.iload_n 2, 1) := by decide +kernel
theorem dX5_passesOne_44 : decode cX5_passesOne 44 = .ok (.invokevirtual 104, 3) := by decide +kernel
theorem dX5_passesOne_47 : decode cX5_passesOne 47 = .ok (.ifCond .eq 25, 3) := by decide +kernel
theorem dX5_passesOne_50 : decode cX5_passesOne 50 = .ok (.aload_n 0, 1) := by decide +kernel
theorem dX5_passesOne_51 : decode cX5_passesOne 51 = .ok (.iload_n 2, 1) := by decide +kernel
theorem dX5_passesOne_52 : decode cX5_passesOne 52 = .ok (.iconst 1, 1) := by decide +kernel
theorem dX5_passesOne_53 : decode cX5_passesOne 53 = .ok (.invokevirtual 65, 3) := by decide +kernel
theorem dX5_passesOne_56 : decode cX5_passesOne 56 = .ok (.bipush 30, 2) := by decide +kernel
theorem dX5_passesOne_58 : decode cX5_passesOne 58 = .ok (.if_icmp .gt 6, 3) := by decide +kernel
theorem dX5_passesOne_61 : decode cX5_passesOne 61 = .ok (.goto 11, 3) := by decide +kernel
theorem dX5_passesOne_64 : decode cX5_passesOne 64 = .ok (.aload_n 0, 1) := by decide +kernel
theorem dX5_passesOne_65 : decode cX5_passesOne 65 = .ok (.iload_n 2, 1) := by decide +kernel
theorem dX5_passesOne_66 : decode cX5_passesOne 66 = .ok (.invokevirtual 165, 3) := by decide +kernel
theorem dX5_passesOne_69 : decode cX5_passesOne 69 = .ok (.iinc 1 1, 3) := by decide +kernel
theorem dX5_passesOne_72 : decode cX5_passesOne 72 = .ok (.iinc 2 1, 3) := by decide +kernel
theorem dX5_passesOne_75 : decode cX5_passesOne 75 = .ok (.goto (-43), 3) := by decide +kernel
theorem dX5_passesOne_78 : decode cX5_passesOne 78 = .ok (.aload_n 0, 1) := by decide +kernel
theorem dX5_passesOne_79 : decode cX5_passesOne 79 = .ok (.getfield 7, 3) := by decide +kernel
theorem dX5_passesOne_82 : decode cX5_passesOne 82 = .ok (.iconst 4, 1) := by decide +kernel
theorem dX5_passesOne_83 : decode cX5_passesOne 83 = .ok (.dup2, 1) := by decide +kernel
theorem dX5_passesOne_84 : decode cX5_passesOne 84 = .ok (.iaload, 1) := by decide +kernel
theorem dX5_passesOne_85 : decode cX5_passesOne 85 = .ok (.iconst 1, 1) := by decide +kernel
theorem dX5_passesOne_86 : decode cX5_passesOne 86 = .ok (.iadd, 1) := by decide +kernel
theorem dX5_passesOne_87 : decode cX5_passesOne 87 = .ok (.iastore, 1) := by decide +kernel
theorem dX5_passesOne_88 : decode cX5_passesOne 88 = .ok (.iload_n 1, 1) := by decide +kernel
theorem dX5_passesOne_89 : decode cX5_passesOne 89 = .ok (.ireturn, 1) := by decide +kernel
theorem dX5_passes_0 : decode cX5_passes 0 = .ok (.iconst 0, 1) := by decide +kernel
theorem dX5_passes_1 : decode cX5_passes 1 = .ok (.istore_n 2, 1) := by decide +kernel
theorem dX5_passes_2 : decode cX5_passes 2 = .ok (.iconst 0, 1) := by decide +kernel
theorem dX5_passes_3 : decode cX5_passes 3 = .ok (.istore_n 3, 1) := by decide +kernel
theorem dX5_passes_4 : decode cX5_passes 4 = .ok (.iload_n 3, 1) := by decide +kernel
theorem dX5_passes_5 : decode cX5_passes 5 = .ok (.iload_n 1, 1) := by decide +kernel
theorem dX5_passes_6 : decode cX5_passes 6 = .ok (.if_icmp .ge 16, 3) := by decide +kernel
theorem dX5_passes_9 : decode cX5_passes 9 = .ok (.iload_n 2, 1) := by decide +kernel
theorem dX5_passes_10 : decode cX5_passes 10 = .ok (.aload_n 0, 1) := by decide +kernel
theorem dX5_passes_11 : decode cX5_passes 11 = .ok (.invokevirtual 192, 3) := by decide +kernel
theorem dX5_passes_14 : decode cX5_passes 14 = .ok (.iadd, 1) := by decide +kernel
theorem dX5_passes_15 : decode cX5_passes 15 = .ok (.istore_n 2, 1) := by decide +kernel
theorem dX5_passes_16 : decode cX5_passes 16 = .ok (.iinc 3 1, 3) := by decide +kernel
theorem dX5_passes_19 : decode cX5_passes 19 = .ok (.goto (-15), 3) := by decide +kernel
theorem dX5_passes_22 : decode cX5_passes 22 = .ok (.iload_n 2, 1) := by decide +kernel
theorem dX5_passes_23 : decode cX5_passes 23 = .ok (.ireturn, 1) := by decide +kernel
theorem dX5_pass_0 : decode cX5_pass 0 = .ok (.aload_n 0, 1) := by decide +kernel
theorem dX5_pass_1 : decode cX5_pass 1 = .ok (.iconst 0, 1) := by decide +kernel
theorem dX5_pass_2 : decode cX5_pass 2 = .ok (.putfield 42, 3) := by decide +kernel
theorem dX5_pass_5 : decode cX5_pass 5 = .ok (.iload_n 1, 1) := by decide +kernel
theorem dX5_pass_6 : decode cX5_pass 6 = .ok (.invokestatic 195, 3) := by decide +kernel
theorem dX5_pass_9 : decode cX5_pass 9 = .ok (.ifCond .eq 9, 3) := by decide +kernel
theorem dX5_pass_12 : decode cX5_pass 12 = .ok (.aload_n 0, 1) := by decide +kernel
theorem dX5_pass_13 : decode cX5_pass 13 = .ok (.iconst 1, 1) := by decide +kernel
theorem dX5_pass_14 : decode cX5_pass 14 = .ok (.invokevirtual 79, 3) := by decide +kernel
theorem dX5_pass_17 : decode cX5_pass 17 = .ok (.ireturn, 1) := by decide +kernel
theorem dX5_pass_18 : decode cX5_pass 18 = .ok (.aload_n 0, 1) := by decide +kernel
theorem dX5_pass_19 : decode cX5_pass 19 = .ok (.invokevirtual 82, 3) := by decide +kernel
theorem dX5_pass_22 : decode cX5_pass 22 = .ok (.aload_n 0, 1) := by decide +kernel
theorem dX5_pass_23 : decode cX5_pass 23 = .ok (.iload_n 1, 1) := by decide +kernel
theorem dX5_pass_24 : decode cX5_pass 24 = .ok (.invokevirtual 198, 3) := by decide +kernel
theorem dX5_pass_27 : decode cX5_pass 27 = .ok (.ireturn, 1) := by decide +kernel
theorem dX5_committeeCount_0 : decode cX5_committeeCount 0 = .ok (.aload_n 0, 1) := by decide +kernel
theorem dX5_committeeCount_1 : decode cX5_committeeCount 1 = .ok (.iconst 0, 1) := by decide +kernel
theorem dX5_committeeCount_2 : decode cX5_committeeCount 2 = .ok (.putfield 42, 3) := by decide +kernel
theorem dX5_committeeCount_5 : decode cX5_committeeCount 5 = .ok (.aload_n 0, 1) := by decide +kernel
theorem dX5_committeeCount_6 : decode cX5_committeeCount 6 = .ok (.getfield 7, 3) := by decide +kernel
theorem dX5_committeeCount_9 : decode cX5_committeeCount 9 = .ok (.iconst 0, 1) := by decide +kernel
theorem dX5_committeeCount_10 : decode cX5_committeeCount 10 = .ok (.iaload, 1) := by decide +kernel
theorem dX5_committeeCount_11 : decode cX5_committeeCount 11 = .ok (.ireturn, 1) := by decide +kernel
theorem dX5_asks_0 : decode cX5_asks 0 = .ok (.aload_n 0, 1) := by decide +kernel
theorem dX5_asks_1 : decode cX5_asks 1 = .ok (.iconst 0, 1) := by decide +kernel
theorem dX5_asks_2 : decode cX5_asks 2 = .ok (.putfield 42, 3) := by decide +kernel
theorem dX5_asks_5 : decode cX5_asks 5 = .ok (.aload_n 0, 1) := by decide +kernel
theorem dX5_asks_6 : decode cX5_asks 6 = .ok (.iload_n 1, 1) := by decide +kernel
theorem dX5_asks_7 : decode cX5_asks 7 = .ok (.invokevirtual 94, 3) := by decide +kernel
theorem dX5_asks_10 : decode cX5_asks 10 = .ok (.ifCond .eq 12, 3) := by decide +kernel
theorem dX5_asks_13 : decode cX5_asks 13 = .ok (.aload_n 0, 1) := by decide +kernel
theorem dX5_asks_14 : decode cX5_asks 14 = .ok (.iload_n 1, 1) := by decide +kernel
theorem dX5_asks_15 : decode cX5_asks 15 = .ok (.iload_n 2, 1) := by decide +kernel
theorem dX5_asks_16 : decode cX5_asks 16 = .ok (.invokevirtual 65, 3) := by decide +kernel
theorem dX5_asks_19 : decode cX5_asks 19 = .ok (.goto 8, 3) := by decide +kernel
theorem dX5_asks_22 : decode cX5_asks 22 = .ok (.aload_n 0, 1) := by decide +kernel
theorem dX5_asks_23 : decode cX5_asks 23 = .ok (.iconst 1, 1) := by decide +kernel
theorem dX5_asks_24 : decode cX5_asks 24 = .ok (.invokevirtual 79, 3) := by decide +kernel
theorem dX5_asks_27 : decode cX5_asks 27 = .ok (.ireturn, 1) := by decide +kernel
theorem dX5_members_0 : decode cX5_members 0 = .ok (.aload_n 0, 1) := by decide +kernel
theorem dX5_members_1 : decode cX5_members 1 = .ok (.iload_n 1, 1) := by decide +kernel
theorem dX5_members_2 : decode cX5_members 2 = .ok (.iconst 0, 1) := by decide +kernel
theorem dX5_members_3 : decode cX5_members 3 = .ok (.invokevirtual 201, 3) := by decide +kernel
theorem dX5_members_6 : decode cX5_members 6 = .ok (.ireturn, 1) := by decide +kernel
theorem dX5_arrears_0 : decode cX5_arrears 0 = .ok (.aload_n 0, 1) := by decide +kernel
theorem dX5_arrears_1 : decode cX5_arrears 1 = .ok (.iload_n 1, 1) := by decide +kernel
theorem dX5_arrears_2 : decode cX5_arrears 2 = .ok (.iconst 1, 1) := by decide +kernel
theorem dX5_arrears_3 : decode cX5_arrears 3 = .ok (.invokevirtual 201, 3) := by decide +kernel
theorem dX5_arrears_6 : decode cX5_arrears 6 = .ok (.ireturn, 1) := by decide +kernel
theorem dX5_isFlying_0 : decode cX5_isFlying 0 = .ok (.aload_n 0, 1) := by decide +kernel
theorem dX5_isFlying_1 : decode cX5_isFlying 1 = .ok (.iload_n 1, 1) := by decide +kernel
theorem dX5_isFlying_2 : decode cX5_isFlying 2 = .ok (.iconst 2, 1) := by decide +kernel
theorem dX5_isFlying_3 : decode cX5_isFlying 3 = .ok (.invokevirtual 201, 3) := by decide +kernel
theorem dX5_isFlying_6 : decode cX5_isFlying 6 = .ok (.iconst 1, 1) := by decide +kernel
theorem dX5_isFlying_7 : decode cX5_isFlying 7 = .ok (.if_icmp .ne 7, 3) := by decide +kernel
theorem dX5_isFlying_10 : decode cX5_isFlying 10 = .ok (.iconst 1, 1) := by decide +kernel
theorem dX5_isFlying_11 : decode cX5_isFlying 11 = .ok (.goto 4, 3) := by decide +kernel
theorem dX5_isFlying_14 : decode cX5_isFlying 14 = .ok (.iconst 0, 1) := by decide +kernel
theorem dX5_isFlying_15 : decode cX5_isFlying 15 = .ok (.ireturn, 1) := by decide +kernel
theorem dX5_tailLength_0 : decode cX5_tailLength 0 = .ok (.aload_n 0, 1) := by decide +kernel
theorem dX5_tailLength_1 : decode cX5_tailLength 1 = .ok (.iconst 0, 1) := by decide +kernel
theorem dX5_tailLength_2 : decode cX5_tailLength 2 = .ok (.putfield 42, 3) := by decide +kernel
theorem dX5_tailLength_5 : decode cX5_tailLength 5 = .ok (.aload_n 0, 1) := by decide +kernel
theorem dX5_tailLength_6 : decode cX5_tailLength 6 = .ok (.iload_n 1, 1) := by decide +kernel
theorem dX5_tailLength_7 : decode cX5_tailLength 7 = .ok (.invokevirtual 94, 3) := by decide +kernel
theorem dX5_tailLength_10 : decode cX5_tailLength 10 = .ok (.ifCond .eq 11, 3) := by decide +kernel
theorem dX5_tailLength_13 : decode cX5_tailLength 13 = .ok (.aload_n 0, 1) := by decide +kernel
theorem dX5_tailLength_14 : decode cX5_tailLength 14 = .ok (.iload_n 1, 1) := by decide +kernel
theorem dX5_tailLength_15 : decode cX5_tailLength 15 = .ok (.invokevirtual 183, 3) := by decide +kernel
theorem dX5_tailLength_18 : decode cX5_tailLength 18 = .ok (.goto 8, 3) := by decide +kernel
theorem dX5_tailLength_21 : decode cX5_tailLength 21 = .ok (.aload_n 0, 1) := by decide +kernel
theorem dX5_tailLength_22 : decode cX5_tailLength 22 = .ok (.iconst 1, 1) := by decide +kernel
theorem dX5_tailLength_23 : decode cX5_tailLength 23 = .ok (.invokevirtual 79, 3) := by decide +kernel
theorem dX5_tailLength_26 : decode cX5_tailLength 26 = .ok (.ireturn, 1) := by decide +kernel
theorem dX5_tailsOf_0 : decode cX5_tailsOf 0 = .ok (.aload_n 0, 1) := by decide +kernel
theorem dX5_tailsOf_1 : decode cX5_tailsOf 1 = .ok (.iconst 0, 1) := by decide +kernel
theorem dX5_tailsOf_2 : decode cX5_tailsOf 2 = .ok (.putfield 42, 3) := by decide +kernel
theorem dX5_tailsOf_5 : decode cX5_tailsOf 5 = .ok (.aload_n 0, 1) := by decide +kernel
theorem dX5_tailsOf_6 : decode cX5_tailsOf 6 = .ok (.iload_n 1, 1) := by decide +kernel
theorem dX5_tailsOf_7 : decode cX5_tailsOf 7 = .ok (.invokevirtual 94, 3) := by decide +kernel
theorem dX5_tailsOf_10 : decode cX5_tailsOf 10 = .ok (.ifCond .ne 9, 3) := by decide +kernel
theorem dX5_tailsOf_13 : decode cX5_tailsOf 13 = .ok (.aload_n 0, 1) := by decide +kernel
theorem dX5_tailsOf_14 : decode cX5_tailsOf 14 = .ok (.iconst 1, 1) := by decide +kernel
theorem dX5_tailsOf_15 : decode cX5_tailsOf 15 = .ok (.invokevirtual 79, 3) := by decide +kernel
theorem dX5_tailsOf_18 : decode cX5_tailsOf 18 = .ok (.ireturn, 1) := by decide +kernel
theorem dX5_tailsOf_19 : decode cX5_tailsOf 19 = .ok (.iconst 0, 1) := by decide +kernel
theorem dX5_tailsOf_20 : decode cX5_tailsOf 20 = .ok (.istore_n 2, 1) := by decide +kernel
theorem dX5_tailsOf_21 : decode cX5_tailsOf 21 = .ok (.iconst 0, 1) := by decide +kernel
theorem dX5_tailsOf_22 : decode cX5_tailsOf 22 = .ok (.istore_n 3, 1) := by decide +kernel
theorem dX5_tailsOf_23 : decode cX5_tailsOf 23 = .ok (.iload_n 3, 1) := by decide +kernel
theorem dX5_tailsOf_24 : decode cX5_tailsOf 24 = .ok (.aload_n 0, 1) := by decide +kernel
theorem dX5_tailsOf_25 : decode cX5_tailsOf 25 = .ok (.getfield 7, 3) := by decide +kernel
theorem dX5_tailsOf_28 : decode cX5_tailsOf 28 = .ok (.iconst 1, 1) := by decide +kernel
theorem dX5_tailsOf_29 : decode cX5_tailsOf 29 = .ok (.iaload, 1) := by decide +kernel
theorem dX5_tailsOf_30 : decode cX5_tailsOf 30 = .ok (.if_icmp .ge 29, 3) := by decide +kernel
theorem dX5_tailsOf_33 : decode cX5_tailsOf 33 = .ok (.iload_n 2, 1) := by decide +kernel
theorem dX5_tailsOf_34 : decode cX5_tailsOf 34 = .ok (.aload_n 0, 1) := by decide +kernel
theorem dX5_tailsOf_35 : decode cX5_tailsOf 35 = .ok (.iload_n 3, 1) := by decide +kernel
theorem dX5_tailsOf_36 : decode cX5_tailsOf 36 = .ok (.iconst 1, 1) := by decide +kernel
theorem dX5_tailsOf_37 : decode cX5_tailsOf 37 = .ok (.invokevirtual 68, 3) := by decide +kernel
theorem dX5_tailsOf_40 : decode cX5_tailsOf 40 = .ok (.iload_n 1, 1) := by decide +kernel
theorem dX5_tailsOf_41 : decode cX5_tailsOf 41 = .ok (.iconst 1, 1) := by decide +kernel
theorem dX5_tailsOf_42 : decode cX5_tailsOf 42 = .ok (.iadd, 1) := by decide +kernel
theorem dX5_tailsOf_43 : decode cX5_tailsOf 43 = .ok (.if_icmp .ne 7, 3) := by decide +kernel
theorem dX5_tailsOf_46 : decode cX5_tailsOf 46 = .ok (.iconst 1, 1) := by decide +kernel
theorem dX5_tailsOf_47 : decode cX5_tailsOf 47 = .ok (.goto 4, 3) := by decide +kernel
theorem dX5_tailsOf_50 : decode cX5_tailsOf 50 = .ok (.iconst 0, 1) := by decide +kernel
theorem dX5_tailsOf_51 : decode cX5_tailsOf 51 = .ok (.iadd, 1) := by decide +kernel
theorem dX5_tailsOf_52 : decode cX5_tailsOf 52 = .ok (.istore_n 2, 1) := by decide +kernel
theorem dX5_tailsOf_53 : decode cX5_tailsOf 53 = .ok (.iinc 3 1, 3) := by decide +kernel
theorem dX5_tailsOf_56 : decode cX5_tailsOf 56 = .ok (.goto (-33), 3) := by decide +kernel
theorem dX5_tailsOf_59 : decode cX5_tailsOf 59 = .ok (.iload_n 2, 1) := by decide +kernel
theorem dX5_tailsOf_60 : decode cX5_tailsOf 60 = .ok (.ireturn, 1) := by decide +kernel
theorem dX5_tailCount_0 : decode cX5_tailCount 0 = .ok (.aload_n 0, 1) := by decide +kernel
theorem dX5_tailCount_1 : decode cX5_tailCount 1 = .ok (.iconst 0, 1) := by decide +kernel
theorem dX5_tailCount_2 : decode cX5_tailCount 2 = .ok (.putfield 42, 3) := by decide +kernel
theorem dX5_tailCount_5 : decode cX5_tailCount 5 = .ok (.aload_n 0, 1) := by decide +kernel
theorem dX5_tailCount_6 : decode cX5_tailCount 6 = .ok (.getfield 7, 3) := by decide +kernel
theorem dX5_tailCount_9 : decode cX5_tailCount 9 = .ok (.iconst 1, 1) := by decide +kernel
theorem dX5_tailCount_10 : decode cX5_tailCount 10 = .ok (.iaload, 1) := by decide +kernel
theorem dX5_tailCount_11 : decode cX5_tailCount 11 = .ok (.ireturn, 1) := by decide +kernel
theorem dX5_length_0 : decode cX5_length 0 = .ok (.aload_n 0, 1) := by decide +kernel
theorem dX5_length_1 : decode cX5_length 1 = .ok (.iconst 0, 1) := by decide +kernel
theorem dX5_length_2 : decode cX5_length 2 = .ok (.putfield 42, 3) := by decide +kernel
theorem dX5_length_5 : decode cX5_length 5 = .ok (.aload_n 0, 1) := by decide +kernel
theorem dX5_length_6 : decode cX5_length 6 = .ok (.iload_n 1, 1) := by decide +kernel
theorem dX5_length_7 : decode cX5_length 7 = .ok (.invokevirtual 117, 3) := by decide +kernel
theorem dX5_length_10 : decode cX5_length 10 = .ok (.ifCond .eq 12, 3) := by decide +kernel
theorem dX5_length_13 : decode cX5_length 13 = .ok (.aload_n 0, 1) := by decide +kernel
theorem dX5_length_14 : decode cX5_length 14 = .ok (.iload_n 1, 1) := by decide +kernel
theorem dX5_length_15 : decode cX5_length 15 = .ok (.iconst 0, 1) := by decide +kernel
theorem dX5_length_16 : decode cX5_length 16 = .ok (.invokevirtual 68, 3) := by decide +kernel
theorem dX5_length_19 : decode cX5_length 19 = .ok (.goto 8, 3) := by decide +kernel
theorem dX5_length_22 : decode cX5_length 22 = .ok (.aload_n 0, 1) := by decide +kernel
theorem dX5_length_23 : decode cX5_length 23 = .ok (.iconst 1, 1) := by decide +kernel
theorem dX5_length_24 : decode cX5_length 24 = .ok (.invokevirtual 79, 3) := by decide +kernel
theorem dX5_length_27 : decode cX5_length 27 = .ok (.ireturn, 1) := by decide +kernel
theorem dX5_isFree_0 : decode cX5_isFree 0 = .ok (.aload_n 0, 1) := by decide +kernel
theorem dX5_isFree_1 : decode cX5_isFree 1 = .ok (.iconst 0, 1) := by decide +kernel
theorem dX5_isFree_2 : decode cX5_isFree 2 = .ok (.putfield 42, 3) := by decide +kernel
theorem dX5_isFree_5 : decode cX5_isFree 5 = .ok (.aload_n 0, 1) := by decide +kernel
theorem dX5_isFree_6 : decode cX5_isFree 6 = .ok (.iload_n 1, 1) := by decide +kernel
theorem dX5_isFree_7 : decode cX5_isFree 7 = .ok (.invokevirtual 117, 3) := by decide +kernel
theorem dX5_isFree_10 : decode cX5_isFree 10 = .ok (.ifCond .ne 17, 3) := by decide +kernel
theorem dX5_isFree_13 : decode cX5_isFree 13 = .ok (.aload_n 0, 1) := by decide +kernel
theorem dX5_isFree_14 : decode cX5_isFree 14 = .ok (.iconst 1, 1) := by decide +kernel
theorem dX5_isFree_15 : decode cX5_isFree 15 = .ok (.invokevirtual 79, 3) := by decide +kernel
theorem dX5_isFree_18 : decode cX5_isFree 18 = .ok (.ifCond .le 7, 3) := by decide +kernel
theorem dX5_isFree_21 : decode cX5_isFree 21 = .ok (.iconst 1, 1) := by decide +kernel
theorem dX5_isFree_22 : decode cX5_isFree 22 = .ok (.goto 4, 3) := by decide +kernel
theorem dX5_isFree_25 : decode cX5_isFree 25 = .ok (.iconst 0, 1) := by decide +kernel
theorem dX5_isFree_26 : decode cX5_isFree 26 = .ok (.ireturn, 1) := by decide +kernel
theorem dX5_isFree_27 : decode cX5_isFree 27 = .ok (.aload_n 0, 1) := by decide +kernel
theorem dX5_isFree_28 : decode cX5_isFree 28 = .ok (.iload_n 1, 1) := by decide +kernel
theorem dX5_isFree_29 : decode cX5_isFree 29 = .ok (.iconst 1, 1) := by decide +kernel
theorem dX5_isFree_30 : decode cX5_isFree 30 = .ok (.invokevirtual 68, 3) := by decide +kernel
theorem dX5_isFree_33 : decode cX5_isFree 33 = .ok (.ifCond .ne 7, 3) := by decide +kernel
theorem dX5_isFree_36 : decode cX5_isFree 36 = .ok (.iconst 1, 1) := by decide +kernel
theorem dX5_isFree_37 : decode cX5_isFree 37 = .ok (.goto 4, 3) := by decide +kernel
theorem dX5_isFree_40 : decode cX5_isFree 40 = .ok (.iconst 0, 1) := by decide +kernel
theorem dX5_isFree_41 : decode cX5_isFree 41 = .ok (.ireturn, 1) := by decide +kernel
theorem dX5_renterOf_0 : decode cX5_renterOf 0 = .ok (.aload_n 0, 1) := by decide +kernel
theorem dX5_renterOf_1 : decode cX5_renterOf 1 = .ok (.iconst 0, 1) := by decide +kernel
theorem dX5_renterOf_2 : decode cX5_renterOf 2 = .ok (.putfield 42, 3) := by decide +kernel
theorem dX5_renterOf_5 : decode cX5_renterOf 5 = .ok (.aload_n 0, 1) := by decide +kernel
theorem dX5_renterOf_6 : decode cX5_renterOf 6 = .ok (.iload_n 1, 1) := by decide +kernel
theorem dX5_renterOf_7 : decode cX5_renterOf 7 = .ok (.invokevirtual 117, 3) := by decide +kernel
theorem dX5_renterOf_10 : decode cX5_renterOf 10 = .ok (.ifCond .ne 9, 3) := by decide +kernel
theorem dX5_renterOf_13 : decode cX5_renterOf 13 = .ok (.aload_n 0, 1) := by decide +kernel
theorem dX5_renterOf_14 : decode cX5_renterOf 14 = .ok (.iconst 1, 1) := by decide +kernel
theorem dX5_renterOf_15 : decode cX5_renterOf 15 = .ok (.invokevirtual 79, 3) := by decide +kernel
theorem dX5_renterOf_18 : decode cX5_renterOf 18 = .ok (.ireturn, 1) := by decide +kernel
theorem dX5_renterOf_19 : decode cX5_renterOf 19 = .ok (.aload_n 0, 1) := by decide +kernel
theorem dX5_renterOf_20 : decode cX5_renterOf 20 = .ok (.iload_n 1, 1) := by decide +kernel
theorem dX5_renterOf_21 : decode cX5_renterOf 21 = .ok (.iconst 1, 1) := by decide +kernel
theorem dX5_renterOf_22 : decode cX5_renterOf 22 = .ok (.invokevirtual 68, 3) := by decide +kernel
theorem dX5_renterOf_25 : decode cX5_renterOf 25 = .ok (.ifCond .ne 11, 3) := by decide +kernel
theorem dX5_renterOf_28 : decode cX5_renterOf 28 = .ok (.aload_n 0, 1) := by decide +kernel
theorem dX5_renterOf_29 : decode cX5_renterOf 29 = .ok (.iconst 2, 1) := by decide +kernel
theorem dX5_renterOf_30 : decode cX5_renterOf 30 = .ok (.invokevirtual 79, 3) := by decide +kernel
theorem dX5_renterOf_33 : decode cX5_renterOf 33 = .ok (.goto 11, 3) := by decide +kernel
theorem dX5_renterOf_36 : decode cX5_renterOf 36 = .ok (.aload_n 0, 1) := by decide +kernel
theorem dX5_renterOf_37 : decode cX5_renterOf 37 = .ok (.iload_n 1, 1) := by decide +kernel
theorem dX5_renterOf_38 : decode cX5_renterOf 38 = .ok (.iconst 1, 1) := by decide +kernel
theorem dX5_renterOf_39 : decode cX5_renterOf 39 = .ok (.invokevirtual 68, 3) := by decide +kernel
theorem dX5_renterOf_42 : decode cX5_renterOf 42 = .ok (.iconst 1, 1) := by decide +kernel
theorem dX5_renterOf_43 : decode cX5_renterOf 43 = .ok (.isub, 1) := by decide +kernel
theorem dX5_renterOf_44 : decode cX5_renterOf 44 = .ok (.ireturn, 1) := by decide +kernel
theorem dX5_shortestFreeTail_0 : decode cX5_shortestFreeTail 0 = .ok (.aload_n 0, 1) := by decide +kernel
theorem dX5_shortestFreeTail_1 : decode cX5_shortestFreeTail 1 = .ok (.iconst 0, 1) := by decide +kernel
theorem dX5_shortestFreeTail_2 : decode cX5_shortestFreeTail 2 = .ok (.putfield 42, 3) := by decide +kernel
theorem dX5_shortestFreeTail_5 : decode cX5_shortestFreeTail 5 = .ok (.iconst (-1), 1) := by decide +kernel
theorem dX5_shortestFreeTail_6 : decode cX5_shortestFreeTail 6 = .ok (.istore_n 1, 1) := by decide +kernel
theorem dX5_shortestFreeTail_7 : decode cX5_shortestFreeTail 7 = .ok (.iconst 0, 1) := by decide +kernel
theorem dX5_shortestFreeTail_8 : decode cX5_shortestFreeTail 8 = .ok (.istore_n 2, 1) := by decide +kernel
theorem dX5_shortestFreeTail_9 : decode cX5_shortestFreeTail 9 = .ok (.iload_n 2, 1) := by decide +kernel
theorem dX5_shortestFreeTail_10 : decode cX5_shortestFreeTail 10 = .ok (.aload_n 0, 1) := by decide +kernel
theorem dX5_shortestFreeTail_11 : decode cX5_shortestFreeTail 11 = .ok (.getfield 7, 3) := by decide +kernel
theorem dX5_shortestFreeTail_14 : decode cX5_shortestFreeTail 14 = .ok (.iconst 1, 1) := by decide +kernel
theorem dX5_shortestFreeTail_15 : decode cX5_shortestFreeTail 15 = .ok (.iaload, 1) := by decide +kernel
theorem dX5_shortestFreeTail_16 : decode cX5_shortestFreeTail 16 = .ok (.if_icmp .ge 39, 3) := by decide +kernel
theorem dX5_shortestFreeTail_19 : decode cX5_shortestFreeTail 19 = .ok (.aload_n 0, 1) := by decide +kernel
theorem dX5_shortestFreeTail_20 : decode cX5_shortestFreeTail 20 = .ok (.iload_n 2, 1) := by decide +kernel
theorem dX5_shortestFreeTail_21 : decode cX5_shortestFreeTail 21 = .ok (.iconst 1, 1) := by decide +kernel
theorem dX5_shortestFreeTail_22 : decode cX5_shortestFreeTail 22 = .ok (.invokevirtual 68, 3) := by decide +kernel
theorem dX5_shortestFreeTail_25 : decode cX5_shortestFreeTail 25 = .ok (.ifCond .ne 24, 3) := by decide +kernel
theorem dX5_shortestFreeTail_28 : decode cX5_shortestFreeTail 28 = .ok (.iload_n 1, 1) := by decide +kernel
theorem dX5_shortestFreeTail_29 : decode cX5_shortestFreeTail 29 = .ok (.ifCond .lt 18, 3) := by decide +kernel
theorem dX5_shortestFreeTail_32 : decode cX5_shortestFreeTail 32 = .ok (.aload_n 0, 1) := by decide +kernel
theorem dX5_shortestFreeTail_33 : decode cX5_shortestFreeTail 33 = .ok (.iload_n 2, 1) := by decide +kernel
theorem dX5_shortestFreeTail_34 : decode cX5_shortestFreeTail 34 = .ok (.iconst 0, 1) := by decide +kernel
theorem dX5_shortestFreeTail_35 : decode cX5_shortestFreeTail 35 = .ok (.invokevirtual 68, 3) := by decide +kernel
theorem dX5_shortestFreeTail_38 : decode cX5_shortestFreeTail 38 = .ok (.aload_n 0, 1) := by decide +kernel
theorem dX5_shortestFreeTail_39 : decode cX5_shortestFreeTail 39 = .ok (.iload_n 1, 1) := by decide +kernel
theorem dX5_shortestFreeTail_40 : decode cX5_shortestFreeTail 40 = .ok (.iconst 0, 1) := by decide +kernel
theorem dX5_shortestFreeTail_41 : decode cX5_shortestFreeTail 41 = .ok (.invokevirtual 68, 3) := by decide +kernel
theorem dX5_shortestFreeTail_44 : decode cX5_shortestFreeTail 44 = .ok (.if_icmp .ge 5, 3) := by decide +kernel
theorem dX5_shortestFreeTail_47 : decode cX5_shortestFreeTail 47 = .ok (.iload_n 2, 1) := by decide +kernel
theorem dX5_shortestFreeTail_48 : decode cX5_shortestFreeTail 48 = .ok (.istore_n 1, 1) := by decide +kernel
theorem dX5_shortestFreeTail_49 : decode cX5_shortestFreeTail 49 = .ok (.iinc 2 1, 3) := by decide +kernel
theorem dX5_shortestFreeTail_52 : decode cX5_shortestFreeTail 52 = .ok (.goto (-43), 3) := by decide +kernel
theorem dX5_shortestFreeTail_55 : decode cX5_shortestFreeTail 55 = .ok (.iload_n 1, 1) := by decide +kernel
theorem dX5_shortestFreeTail_56 : decode cX5_shortestFreeTail 56 = .ok (.ifCond .ge 11, 3) := by decide +kernel
theorem dX5_shortestFreeTail_59 : decode cX5_shortestFreeTail 59 = .ok (.aload_n 0, 1) := by decide +kernel
theorem dX5_shortestFreeTail_60 : decode cX5_shortestFreeTail 60 = .ok (.iconst 1, 1) := by decide +kernel
theorem dX5_shortestFreeTail_61 : decode cX5_shortestFreeTail 61 = .ok (.invokevirtual 79, 3) := by decide +kernel
theorem dX5_shortestFreeTail_64 : decode cX5_shortestFreeTail 64 = .ok (.goto 4, 3) := by decide +kernel
theorem dX5_shortestFreeTail_67 : decode cX5_shortestFreeTail 67 = .ok (.iload_n 1, 1) := by decide +kernel
theorem dX5_shortestFreeTail_68 : decode cX5_shortestFreeTail 68 = .ok (.ireturn, 1) := by decide +kernel
theorem dX5_openMotions_0 : decode cX5_openMotions 0 = .ok (.aload_n 0, 1) := by decide +kernel
theorem dX5_openMotions_1 : decode cX5_openMotions 1 = .ok (.iconst 0, 1) := by decide +kernel
theorem dX5_openMotions_2 : decode cX5_openMotions 2 = .ok (.putfield 42, 3) := by decide +kernel
theorem dX5_openMotions_5 : decode cX5_openMotions 5 = .ok (.aload_n 0, 1) := by decide +kernel
theorem dX5_openMotions_6 : decode cX5_openMotions 6 = .ok (.getfield 7, 3) := by decide +kernel
theorem dX5_openMotions_9 : decode cX5_openMotions 9 = .ok (.iconst 2, 1) := by decide +kernel
theorem dX5_openMotions_10 : decode cX5_openMotions 10 = .ok (.iaload, 1) := by decide +kernel
theorem dX5_openMotions_11 : decode cX5_openMotions 11 = .ok (.ireturn, 1) := by decide +kernel
theorem dX5_motionAt_0 : decode cX5_motionAt 0 = .ok (.aload_n 0, 1) := by decide +kernel
theorem dX5_motionAt_1 : decode cX5_motionAt 1 = .ok (.iconst 0, 1) := by decide +kernel
theorem dX5_motionAt_2 : decode cX5_motionAt 2 = .ok (.putfield 42, 3) := by decide +kernel
theorem dX5_motionAt_5 : decode cX5_motionAt 5 = .ok (.iload_n 1, 1) := by decide +kernel
theorem dX5_motionAt_6 : decode cX5_motionAt 6 = .ok (.iconst 0, 1) := by decide +kernel
theorem dX5_motionAt_7 : decode cX5_motionAt 7 = .ok (.aload_n 0, 1) := by decide +kernel
theorem dX5_motionAt_8 : decode cX5_motionAt 8 = .ok (.getfield 7, 3) := by decide +kernel
theorem dX5_motionAt_11 : decode cX5_motionAt 11 = .ok (.iconst 2, 1) := by decide +kernel
theorem dX5_motionAt_12 : decode cX5_motionAt 12 = .ok (.iaload, 1) := by decide +kernel
theorem dX5_motionAt_13 : decode cX5_motionAt 13 = .ok (.iconst 1, 1) := by decide +kernel
theorem dX5_motionAt_14 : decode cX5_motionAt 14 = .ok (.isub, 1) := by decide +kernel
theorem dX5_motionAt_15 : decode cX5_motionAt 15 = .ok (.invokestatic 57, 3) := by decide +kernel
theorem dX5_motionAt_18 : decode cX5_motionAt 18 = .ok (.ifCond .eq 12, 3) := by decide +kernel
theorem dX5_motionAt_21 : decode cX5_motionAt 21 = .ok (.aload_n 0, 1) := by decide +kernel
theorem dX5_motionAt_22 : decode cX5_motionAt 22 = .ok (.iload_n 1, 1) := by decide +kernel
theorem dX5_motionAt_23 : decode cX5_motionAt 23 = .ok (.iconst 0, 1) := by decide +kernel
theorem dX5_motionAt_24 : decode cX5_motionAt 24 = .ok (.invokevirtual 61, 3) := by decide +kernel
theorem dX5_motionAt_27 : decode cX5_motionAt 27 = .ok (.goto 8, 3) := by decide +kernel
theorem dX5_motionAt_30 : decode cX5_motionAt 30 = .ok (.aload_n 0, 1) := by decide +kernel
theorem dX5_motionAt_31 : decode cX5_motionAt 31 = .ok (.iconst 1, 1) := by decide +kernel
theorem dX5_motionAt_32 : decode cX5_motionAt 32 = .ok (.invokevirtual 79, 3) := by decide +kernel
theorem dX5_motionAt_35 : decode cX5_motionAt 35 = .ok (.ireturn, 1) := by decide +kernel
theorem dX5_asksMotion_0 : decode cX5_asksMotion 0 = .ok (.aload_n 0, 1) := by decide +kernel
theorem dX5_asksMotion_1 : decode cX5_asksMotion 1 = .ok (.iconst 0, 1) := by decide +kernel
theorem dX5_asksMotion_2 : decode cX5_asksMotion 2 = .ok (.putfield 42, 3) := by decide +kernel
theorem dX5_asksMotion_5 : decode cX5_asksMotion 5 = .ok (.aload_n 0, 1) := by decide +kernel
theorem dX5_asksMotion_6 : decode cX5_asksMotion 6 = .ok (.iload_n 1, 1) := by decide +kernel
theorem dX5_asksMotion_7 : decode cX5_asksMotion 7 = .ok (.invokevirtual 133, 3) := by decide +kernel
theorem dX5_asksMotion_10 : decode cX5_asksMotion 10 = .ok (.ifCond .ge 11, 3) := by decide +kernel
theorem dX5_asksMotion_13 : decode cX5_asksMotion 13 = .ok (.aload_n 0, 1) := by decide +kernel
theorem dX5_asksMotion_14 : decode cX5_asksMotion 14 = .ok (.iconst 1, 1) := by decide +kernel
theorem dX5_asksMotion_15 : decode cX5_asksMotion 15 = .ok (.invokevirtual 79, 3) := by decide +kernel
theorem dX5_asksMotion_18 : decode cX5_asksMotion 18 = .ok (.goto 13, 3) := by decide +kernel
theorem dX5_asksMotion_21 : decode cX5_asksMotion 21 = .ok (.aload_n 0, 1) := by decide +kernel
theorem dX5_asksMotion_22 : decode cX5_asksMotion 22 = .ok (.aload_n 0, 1) := by decide +kernel
theorem dX5_asksMotion_23 : decode cX5_asksMotion 23 = .ok (.iload_n 1, 1) := by decide +kernel
theorem dX5_asksMotion_24 : decode cX5_asksMotion 24 = .ok (.invokevirtual 133, 3) := by decide +kernel
theorem dX5_asksMotion_27 : decode cX5_asksMotion 27 = .ok (.iload_n 2, 1) := by decide +kernel
theorem dX5_asksMotion_28 : decode cX5_asksMotion 28 = .ok (.invokevirtual 61, 3) := by decide +kernel
theorem dX5_asksMotion_31 : decode cX5_asksMotion 31 = .ok (.ireturn, 1) := by decide +kernel
theorem dX5_moverOf_0 : decode cX5_moverOf 0 = .ok (.aload_n 0, 1) := by decide +kernel
theorem dX5_moverOf_1 : decode cX5_moverOf 1 = .ok (.iload_n 1, 1) := by decide +kernel
theorem dX5_moverOf_2 : decode cX5_moverOf 2 = .ok (.iconst 2, 1) := by decide +kernel
theorem dX5_moverOf_3 : decode cX5_moverOf 3 = .ok (.invokevirtual 204, 3) := by decide +kernel
theorem dX5_moverOf_6 : decode cX5_moverOf 6 = .ok (.ireturn, 1) := by decide +kernel
theorem dX5_isSeconded_0 : decode cX5_isSeconded 0 = .ok (.aload_n 0, 1) := by decide +kernel
theorem dX5_isSeconded_1 : decode cX5_isSeconded 1 = .ok (.iload_n 1, 1) := by decide +kernel
theorem dX5_isSeconded_2 : decode cX5_isSeconded 2 = .ok (.iconst 4, 1) := by decide +kernel
theorem dX5_isSeconded_3 : decode cX5_isSeconded 3 = .ok (.invokevirtual 204, 3) := by decide +kernel
theorem dX5_isSeconded_6 : decode cX5_isSeconded 6 = .ok (.ifCond .le 7, 3) := by decide +kernel
theorem dX5_isSeconded_9 : decode cX5_isSeconded 9 = .ok (.iconst 1, 1) := by decide +kernel
theorem dX5_isSeconded_10 : decode cX5_isSeconded 10 = .ok (.goto 4, 3) := by decide +kernel
theorem dX5_isSeconded_13 : decode cX5_isSeconded 13 = .ok (.iconst 0, 1) := by decide +kernel
theorem dX5_isSeconded_14 : decode cX5_isSeconded 14 = .ok (.ireturn, 1) := by decide +kernel
theorem dX5_seconderOf_0 : decode cX5_seconderOf 0 = .ok (.aload_n 0, 1) := by decide +kernel
theorem dX5_seconderOf_1 : decode cX5_seconderOf 1 = .ok (.iload_n 1, 1) := by decide +kernel
theorem dX5_seconderOf_2 : decode cX5_seconderOf 2 = .ok (.iconst 4, 1) := by decide +kernel
theorem dX5_seconderOf_3 : decode cX5_seconderOf 3 = .ok (.invokevirtual 204, 3) := by decide +kernel
theorem dX5_seconderOf_6 : decode cX5_seconderOf 6 = .ok (.istore_n 2, 1) := by decide +kernel
theorem dX5_seconderOf_7 : decode cX5_seconderOf 7 = .ok (.aload_n 0, 1) := by decide +kernel
theorem dX5_seconderOf_8 : decode cX5_seconderOf 8 = .ok (.getfield 42, 3) := by decide +kernel
theorem dX5_seconderOf_11 : decode cX5_seconderOf 11 = .ok (.ifCond .eq 5, 3) := by decide +kernel
theorem dX5_seconderOf_14 : decode cX5_seconderOf 14 = .ok (.iconst 0, 1) := by decide +kernel
theorem dX5_seconderOf_15 : decode cX5_seconderOf 15 = .ok (.ireturn, 1) := by decide +kernel
theorem dX5_seconderOf_16 : decode cX5_seconderOf 16 = .ok (.iload_n 2, 1) := by decide +kernel
theorem dX5_seconderOf_17 : decode cX5_seconderOf 17 = .ok (.ifCond .ne 11, 3) := by decide +kernel
theorem dX5_seconderOf_20 : decode cX5_seconderOf 20 = .ok (.aload_n 0, 1) := by decide +kernel
theorem dX5_seconderOf_21 : decode cX5_seconderOf 21 = .ok (.iconst 2, 1) := by decide +kernel
theorem dX5_seconderOf_22 : decode cX5_seconderOf 22 = .ok (.invokevirtual 79, 3) := by decide +kernel
theorem dX5_seconderOf_25 : decode cX5_seconderOf 25 = .ok (.goto 6, 3) := by decide +kernel
theorem dX5_seconderOf_28 : decode cX5_seconderOf 28 = .ok (.iload_n 2, 1) := by decide +kernel
theorem dX5_seconderOf_29 : decode cX5_seconderOf 29 = .ok (.iconst 1, 1) := by decide +kernel
theorem dX5_seconderOf_30 : decode cX5_seconderOf 30 = .ok (.isub, 1) := by decide +kernel
theorem dX5_seconderOf_31 : decode cX5_seconderOf 31 = .ok (.ireturn, 1) := by decide +kernel
theorem dX5_isTabled_0 : decode cX5_isTabled 0 = .ok (.aload_n 0, 1) := by decide +kernel
theorem dX5_isTabled_1 : decode cX5_isTabled 1 = .ok (.iload_n 1, 1) := by decide +kernel
theorem dX5_isTabled_2 : decode cX5_isTabled 2 = .ok (.iconst 5, 1) := by decide +kernel
theorem dX5_isTabled_3 : decode cX5_isTabled 3 = .ok (.invokevirtual 204, 3) := by decide +kernel
theorem dX5_isTabled_6 : decode cX5_isTabled 6 = .ok (.iconst 1, 1) := by decide +kernel
theorem dX5_isTabled_7 : decode cX5_isTabled 7 = .ok (.if_icmp .ne 7, 3) := by decide +kernel
theorem dX5_isTabled_10 : decode cX5_isTabled 10 = .ok (.iconst 1, 1) := by decide +kernel
theorem dX5_isTabled_11 : decode cX5_isTabled 11 = .ok (.goto 4, 3) := by decide +kernel
theorem dX5_isTabled_14 : decode cX5_isTabled 14 = .ok (.iconst 0, 1) := by decide +kernel
theorem dX5_isTabled_15 : decode cX5_isTabled 15 = .ok (.ireturn, 1) := by decide +kernel
theorem dX5_votesFor_0 : decode cX5_votesFor 0 = .ok (.aload_n 0, 1) := by decide +kernel
theorem dX5_votesFor_1 : decode cX5_votesFor 1 = .ok (.iconst 0, 1) := by decide +kernel
theorem dX5_votesFor_2 : decode cX5_votesFor 2 = .ok (.putfield 42, 3) := by decide +kernel
theorem dX5_votesFor_5 : decode cX5_votesFor 5 = .ok (.aload_n 0, 1) := by decide +kernel
theorem dX5_votesFor_6 : decode cX5_votesFor 6 = .ok (.iload_n 1, 1) := by decide +kernel
theorem dX5_votesFor_7 : decode cX5_votesFor 7 = .ok (.invokevirtual 133, 3) := by decide +kernel
theorem dX5_votesFor_10 : decode cX5_votesFor 10 = .ok (.ifCond .ge 11, 3) := by decide +kernel
theorem dX5_votesFor_13 : decode cX5_votesFor 13 = .ok (.aload_n 0, 1) := by decide +kernel
theorem dX5_votesFor_14 : decode cX5_votesFor 14 = .ok (.iconst 1, 1) := by decide +kernel
theorem dX5_votesFor_15 : decode cX5_votesFor 15 = .ok (.invokevirtual 79, 3) := by decide +kernel
theorem dX5_votesFor_18 : decode cX5_votesFor 18 = .ok (.goto 13, 3) := by decide +kernel
theorem dX5_votesFor_21 : decode cX5_votesFor 21 = .ok (.aload_n 0, 1) := by decide +kernel
theorem dX5_votesFor_22 : decode cX5_votesFor 22 = .ok (.aload_n 0, 1) := by decide +kernel
theorem dX5_votesFor_23 : decode cX5_votesFor 23 = .ok (.iload_n 1, 1) := by decide +kernel
theorem dX5_votesFor_24 : decode cX5_votesFor 24 = .ok (.invokevirtual 133, 3) := by decide +kernel
theorem dX5_votesFor_27 : decode cX5_votesFor 27 = .ok (.iconst 1, 1) := by decide +kernel
theorem dX5_votesFor_28 : decode cX5_votesFor 28 = .ok (.invokevirtual 168, 3) := by decide +kernel
theorem dX5_votesFor_31 : decode cX5_votesFor 31 = .ok (.ireturn, 1) := by decide +kernel
theorem dX5_votesForByMember_0 : decode cX5_votesForByMember 0 = .ok (.aload_n 0, 1) := by decide +kernel
theorem dX5_votesForByMember_1 : decode cX5_votesForByMember 1 = .ok (.iload_n 1, 1) := by decide +kernel
theorem dX5_votesForByMember_2 : decode cX5_votesForByMember 2 = .ok (.invokevirtual 207, 3) := by decide +kernel
theorem dX5_votesForByMember_5 : decode cX5_votesForByMember 5 = .ok (.ireturn, 1) := by decide +kernel
theorem dX5_votesAgainst_0 : decode cX5_votesAgainst 0 = .ok (.aload_n 0, 1) := by decide +kernel
theorem dX5_votesAgainst_1 : decode cX5_votesAgainst 1 = .ok (.iconst 0, 1) := by decide +kernel
theorem dX5_votesAgainst_2 : decode cX5_votesAgainst 2 = .ok (.putfield 42, 3) := by decide +kernel
theorem dX5_votesAgainst_5 : decode cX5_votesAgainst 5 = .ok (.aload_n 0, 1) := by decide +kernel
theorem dX5_votesAgainst_6 : decode cX5_votesAgainst 6 = .ok (.iload_n 1, 1) := by decide +kernel
theorem dX5_votesAgainst_7 : decode cX5_votesAgainst 7 = .ok (.invokevirtual 133, 3) := by decide +kernel
theorem dX5_votesAgainst_10 : decode cX5_votesAgainst 10 = .ok (.ifCond .ge 11, 3) := by decide +kernel
theorem dX5_votesAgainst_13 : decode cX5_votesAgainst 13 = .ok (.aload_n 0, 1) := by decide +kernel
theorem dX5_votesAgainst_14 : decode cX5_votesAgainst 14 = .ok (.iconst 1, 1) := by decide +kernel
theorem dX5_votesAgainst_15 : decode cX5_votesAgainst 15 = .ok (.invokevirtual 79, 3) := by decide +kernel
theorem dX5_votesAgainst_18 : decode cX5_votesAgainst 18 = .ok (.goto 13, 3) := by decide +kernel
theorem dX5_votesAgainst_21 : decode cX5_votesAgainst 21 = .ok (.aload_n 0, 1) := by decide +kernel
theorem dX5_votesAgainst_22 : decode cX5_votesAgainst 22 = .ok (.aload_n 0, 1) := by decide +kernel
theorem dX5_votesAgainst_23 : decode cX5_votesAgainst 23 = .ok (.iload_n 1, 1) := by decide +kernel
theorem dX5_votesAgainst_24 : decode cX5_votesAgainst 24 = .ok (.invokevirtual 133, 3) := by decide +kernel
theorem dX5_votesAgainst_27 : decode cX5_votesAgainst 27 = .ok (.iconst (-1), 1) := by decide +kernel
theorem dX5_votesAgainst_28 : decode cX5_votesAgainst 28 = .ok (.invokevirtual 168, 3) := by decide +kernel
theorem dX5_votesAgainst_31 : decode cX5_votesAgainst 31 = .ok (.ireturn, 1) := by decide +kernel
theorem dX5_arrearsAfter_0 : decode cX5_arrearsAfter 0 = .ok (.aload_n 0, 1) := by decide +kernel
theorem dX5_arrearsAfter_1 : decode cX5_arrearsAfter 1 = .ok (.iconst 0, 1) := by decide +kernel
theorem dX5_arrearsAfter_2 : decode cX5_arrearsAfter 2 = .ok (.putfield 42, 3) := by decide +kernel
theorem dX5_arrearsAfter_5 : decode cX5_arrearsAfter 5 = .ok (.aload_n 0, 1) := by decide +kernel
theorem dX5_arrearsAfter_6 : decode cX5_arrearsAfter 6 = .ok (.iload_n 1, 1) := by decide +kernel
theorem dX5_arrearsAfter_7 : decode cX5_arrearsAfter 7 = .ok (.invokevirtual 94, 3) := by decide +kernel
theorem dX5_arrearsAfter_10 : decode cX5_arrearsAfter 10 = .ok (.ifCond .ne 9, 3) := by decide +kernel
theorem dX5_arrearsAfter_13 : decode cX5_arrearsAfter 13 = .ok (.aload_n 0, 1) := by decide +kernel
theorem dX5_arrearsAfter_14 : decode cX5_arrearsAfter 14 = .ok (.iconst 1, 1) := by decide +kernel
theorem dX5_arrearsAfter_15 : decode cX5_arrearsAfter 15 = .ok (.invokevirtual 79, 3) := by decide +kernel
theorem dX5_arrearsAfter_18 : decode cX5_arrearsAfter 18 = .ok (.ireturn, 1) := by decide +kernel
theorem dX5_arrearsAfter_19 : decode cX5_arrearsAfter 19 = .ok (.iload_n 2, 1) := by decide +kernel
theorem dX5_arrearsAfter_20 : decode cX5_arrearsAfter 20 = .ok (.iconst 0, 1) := by decide +kernel
theorem dX5_arrearsAfter_21 : decode cX5_arrearsAfter 21 = .ok (.bipush 24, 2) := by decide +kernel
theorem dX5_arrearsAfter_23 : decode cX5_arrearsAfter 23 = .ok (.invokestatic 57, 3) := by decide +kernel
theorem dX5_arrearsAfter_26 : decode cX5_arrearsAfter 26 = .ok (.ifCond .ne 9, 3) := by decide +kernel
theorem dX5_arrearsAfter_29 : decode cX5_arrearsAfter 29 = .ok (.aload_n 0, 1) := by decide +kernel
theorem dX5_arrearsAfter_30 : decode cX5_arrearsAfter 30 = .ok (.iconst 2, 1) := by decide +kernel
theorem dX5_arrearsAfter_31 : decode cX5_arrearsAfter 31 = .ok (.invokevirtual 79, 3) := by decide +kernel
theorem dX5_arrearsAfter_34 : decode cX5_arrearsAfter 34 = .ok (.ireturn, 1) := by decide +kernel
theorem dX5_arrearsAfter_35 : decode cX5_arrearsAfter 35 = .ok (.iconst 0, 1) := by decide +kernel
theorem dX5_arrearsAfter_36 : decode cX5_arrearsAfter 36 = .ok (.istore_n 3, 1) := by decide +kernel
theorem dX5_arrearsAfter_37 : decode cX5_arrearsAfter 37 = .ok (.iload_n 3, 1) := by decide +kernel
theorem dX5_arrearsAfter_38 : decode cX5_arrearsAfter 38 = .ok (.bipush 91, 2) := by decide +kernel
theorem dX5_arrearsAfter_40 : decode cX5_arrearsAfter 40 = .ok (.if_icmp .ge 21, 3) := by decide +kernel
theorem dX5_arrearsAfter_43 : decode cX5_arrearsAfter 43 = .ok (.aload_n 0, 1) := by decide +kernel
theorem dX5_arrearsAfter_44 : decode cX5_arrearsAfter 44 = .ok (.getfield 22, 3) := by decide +kernel
theorem dX5_arrearsAfter_47 : decode cX5_arrearsAfter 47 = .ok (.iload_n 3, 1) := by decide +kernel
theorem dX5_arrearsAfter_48 : decode cX5_arrearsAfter 48 = .ok (.aload_n 0, 1) := by decide +kernel
theorem dX5_arrearsAfter_49 : decode cX5_arrearsAfter 49 = .ok (.getfield 7, 3) := by decide +kernel
theorem dX5_arrearsAfter_52 : decode cX5_arrearsAfter 52 = .ok (.iload_n 3, 1) := by decide +kernel
theorem dX5_arrearsAfter_53 : decode cX5_arrearsAfter 53 = .ok (.iaload, 1) := by decide +kernel
theorem dX5_arrearsAfter_54 : decode cX5_arrearsAfter 54 = .ok (.iastore, 1) := by decide +kernel
theorem dX5_arrearsAfter_55 : decode cX5_arrearsAfter 55 = .ok (.iinc 3 1, 3) := by decide +kernel
theorem dX5_arrearsAfter_58 : decode cX5_arrearsAfter 58 = .ok (.goto (-21), 3) := by decide +kernel
theorem dX5_arrearsAfter_61 : decode cX5_arrearsAfter 61 = .ok (.aload_n 0, 1) := by decide +kernel
theorem dX5_arrearsAfter_62 : decode cX5_arrearsAfter 62 = .ok (.iload_n 2, 1) := by decide +kernel
theorem dX5_arrearsAfter_63 : decode cX5_arrearsAfter 63 = .ok (.invokevirtual 198, 3) := by decide +kernel
theorem dX5_arrearsAfter_66 : decode cX5_arrearsAfter 66 = .ok (.pop, 1) := by decide +kernel
theorem dX5_arrearsAfter_67 : decode cX5_arrearsAfter 67 = .ok (.aload_n 0, 1) := by decide +kernel
theorem dX5_arrearsAfter_68 : decode cX5_arrearsAfter 68 = .ok (.iload_n 1, 1) := by decide +kernel
theorem dX5_arrearsAfter_69 : decode cX5_arrearsAfter 69 = .ok (.iconst 1, 1) := by decide +kernel
theorem dX5_arrearsAfter_70 : decode cX5_arrearsAfter 70 = .ok (.invokevirtual 65, 3) := by decide +kernel
theorem dX5_arrearsAfter_73 : decode cX5_arrearsAfter 73 = .ok (.istore_n 3, 1) := by decide +kernel
theorem dX5_arrearsAfter_74 : decode cX5_arrearsAfter 74 = .ok (.iconst 0, 1) := by decide +kernel
theorem dX5_arrearsAfter_75 : decode cX5_arrearsAfter 75 = .ok (.istore 4, 2) := by decide +kernel
theorem dX5_arrearsAfter_77 : decode cX5_arrearsAfter 77 = .ok (.iload 4, 2) := by decide +kernel
theorem dX5_arrearsAfter_79 : decode cX5_arrearsAfter 79 = .ok (.bipush 91, 2) := by decide +kernel
theorem dX5_arrearsAfter_81 : decode cX5_arrearsAfter 81 = .ok (.if_icmp .ge 23, 3) := by decide +kernel
theorem dX5_arrearsAfter_84 : decode cX5_arrearsAfter 84 = .ok (.aload_n 0, 1) := by decide +kernel
theorem dX5_arrearsAfter_85 : decode cX5_arrearsAfter 85 = .ok (.getfield 7, 3) := by decide +kernel
theorem dX5_arrearsAfter_88 : decode cX5_arrearsAfter 88 = .ok (.iload 4, 2) := by decide +kernel
theorem dX5_arrearsAfter_90 : decode cX5_arrearsAfter 90 = .ok (.aload_n 0, 1) := by decide +kernel
theorem dX5_arrearsAfter_91 : decode cX5_arrearsAfter 91 = .ok (.getfield 22, 3) := by decide +kernel
theorem dX5_arrearsAfter_94 : decode cX5_arrearsAfter 94 = .ok (.iload 4, 2) := by decide +kernel
theorem dX5_arrearsAfter_96 : decode cX5_arrearsAfter 96 = .ok (.iaload, 1) := by decide +kernel
theorem dX5_arrearsAfter_97 : decode cX5_arrearsAfter 97 = .ok (.iastore, 1) := by decide +kernel
theorem dX5_arrearsAfter_98 : decode cX5_arrearsAfter 98 = .ok (.iinc 4 1, 3) := by decide +kernel
theorem dX5_arrearsAfter_101 : decode cX5_arrearsAfter 101 = .ok (.goto (-24), 3) := by decide +kernel
theorem dX5_arrearsAfter_104 : decode cX5_arrearsAfter 104 = .ok (.iload_n 3, 1) := by decide +kernel
theorem dX5_arrearsAfter_105 : decode cX5_arrearsAfter 105 = .ok (.ireturn, 1) := by decide +kernel
theorem dX5_arrearsAfterByRate_0 : decode cX5_arrearsAfterByRate 0 = .ok (.aload_n 0, 1) := by decide +kernel
theorem dX5_arrearsAfterByRate_1 : decode cX5_arrearsAfterByRate 1 = .ok (.iload_n 1, 1) := by decide +kernel
theorem dX5_arrearsAfterByRate_2 : decode cX5_arrearsAfterByRate 2 = .ok (.iload_n 2, 1) := by decide +kernel
theorem dX5_arrearsAfterByRate_3 : decode cX5_arrearsAfterByRate 3 = .ok (.invokevirtual 210, 3) := by decide +kernel
theorem dX5_arrearsAfterByRate_6 : decode cX5_arrearsAfterByRate 6 = .ok (.ireturn, 1) := by decide +kernel
theorem dX5_hour_0 : decode cX5_hour 0 = .ok (.aload_n 0, 1) := by decide +kernel
theorem dX5_hour_1 : decode cX5_hour 1 = .ok (.iconst 0, 1) := by decide +kernel
theorem dX5_hour_2 : decode cX5_hour 2 = .ok (.putfield 42, 3) := by decide +kernel
theorem dX5_hour_5 : decode cX5_hour 5 = .ok (.aload_n 0, 1) := by decide +kernel
theorem dX5_hour_6 : decode cX5_hour 6 = .ok (.getfield 7, 3) := by decide +kernel
theorem dX5_hour_9 : decode cX5_hour 9 = .ok (.iconst 4, 1) := by decide +kernel
theorem dX5_hour_10 : decode cX5_hour 10 = .ok (.iaload, 1) := by decide +kernel
theorem dX5_hour_11 : decode cX5_hour 11 = .ok (.ireturn, 1) := by decide +kernel
theorem dX5_isAhead_0 : decode cX5_isAhead 0 = .ok (.aload_n 0, 1) := by decide +kernel
theorem dX5_isAhead_1 : decode cX5_isAhead 1 = .ok (.iload_n 1, 1) := by decide +kernel
theorem dX5_isAhead_2 : decode cX5_isAhead 2 = .ok (.iconst 1, 1) := by decide +kernel
theorem dX5_isAhead_3 : decode cX5_isAhead 3 = .ok (.invokevirtual 65, 3) := by decide +kernel
theorem dX5_isAhead_6 : decode cX5_isAhead 6 = .ok (.aload_n 0, 1) := by decide +kernel
theorem dX5_isAhead_7 : decode cX5_isAhead 7 = .ok (.iload_n 2, 1) := by decide +kernel
theorem dX5_isAhead_8 : decode cX5_isAhead 8 = .ok (.iconst 1, 1) := by decide +kernel
theorem dX5_isAhead_9 : decode cX5_isAhead 9 = .ok (.invokevirtual 65, 3) := by decide +kernel
theorem dX5_isAhead_12 : decode cX5_isAhead 12 = .ok (.isub, 1) := by decide +kernel
theorem dX5_isAhead_13 : decode cX5_isAhead 13 = .ok (.istore_n 3, 1) := by decide +kernel
theorem dX5_isAhead_14 : decode cX5_isAhead 14 = .ok (.aload_n 0, 1) := by decide +kernel
theorem dX5_isAhead_15 : decode cX5_isAhead 15 = .ok (.iload_n 1, 1) := by decide +kernel
theorem dX5_isAhead_16 : decode cX5_isAhead 16 = .ok (.iconst 0, 1) := by decide +kernel
theorem dX5_isAhead_17 : decode cX5_isAhead 17 = .ok (.invokevirtual 65, 3) := by decide +kernel
theorem dX5_isAhead_20 : decode cX5_isAhead 20 = .ok (.aload_n 0, 1) := by decide +kernel
theorem dX5_isAhead_21 : decode cX5_isAhead 21 = .ok (.iload_n 2, 1) := by decide +kernel
theorem dX5_isAhead_22 : decode cX5_isAhead 22 = .ok (.iconst 0, 1) := by decide +kernel
theorem dX5_isAhead_23 : decode cX5_isAhead 23 = .ok (.invokevirtual 65, 3) := by decide +kernel
theorem dX5_isAhead_26 : decode cX5_isAhead 26 = .ok (.isub, 1) := by decide +kernel
theorem dX5_isAhead_27 : decode cX5_isAhead 27 = .ok (.istore 4, 2) := by decide +kernel
theorem dX5_isAhead_29 : decode cX5_isAhead 29 = .ok (.iload_n 3, 1) := by decide +kernel
theorem dX5_isAhead_30 : decode cX5_isAhead 30 = .ok (.ifCond .eq 13, 3) := by decide +kernel
theorem dX5_isAhead_33 : decode cX5_isAhead 33 = .ok (.iload_n 3, 1) := by decide +kernel
theorem dX5_isAhead_34 : decode cX5_isAhead 34 = .ok (.ifCond .le 7, 3) := by decide +kernel
theorem dX5_isAhead_37 : decode cX5_isAhead 37 = .ok (.iconst 1, 1) := by decide +kernel
theorem dX5_isAhead_38 : decode cX5_isAhead 38 = .ok (.goto 4, 3) := by decide +kernel
theorem dX5_isAhead_41 : decode cX5_isAhead 41 = .ok (.iconst 0, 1) := by decide +kernel
theorem dX5_isAhead_42 : decode cX5_isAhead 42 = .ok (.ireturn, 1) := by decide +kernel
theorem dX5_isAhead_43 : decode cX5_isAhead 43 = .ok (.iload 4, 2) := by decide +kernel
theorem dX5_isAhead_45 : decode cX5_isAhead 45 = .ok (.ifCond .eq 16, 3) := by decide +kernel
theorem dX5_isAhead_48 : decode cX5_isAhead 48 = .ok (.iload 4, 2) := by decide +kernel
theorem dX5_isAhead_50 : decode cX5_isAhead 50 = .ok (.ifCond .le 7, 3) := by decide +kernel
theorem dX5_isAhead_53 : decode cX5_isAhead 53 = .ok (.iconst 1, 1) := by decide +kernel
theorem dX5_isAhead_54 : decode cX5_isAhead 54 = .ok (.goto 17, 3) := by decide +kernel
theorem dX5_isAhead_57 : decode cX5_isAhead 57 = .ok (.iconst 0, 1) := by decide +kernel
theorem dX5_isAhead_58 : decode cX5_isAhead 58 = .ok (.goto 13, 3) := by decide +kernel
theorem dX5_isAhead_61 : decode cX5_isAhead 61 = .ok (.iload_n 1, 1) := by decide +kernel
theorem dX5_isAhead_62 : decode cX5_isAhead 62 = .ok (.iload_n 2, 1) := by decide +kernel
theorem dX5_isAhead_63 : decode cX5_isAhead 63 = .ok (.if_icmp .ge 7, 3) := by decide +kernel
theorem dX5_isAhead_66 : decode cX5_isAhead 66 = .ok (.iconst 1, 1) := by decide +kernel
theorem dX5_isAhead_67 : decode cX5_isAhead 67 = .ok (.goto 4, 3) := by decide +kernel
theorem dX5_isAhead_70 : decode cX5_isAhead 70 = .ok (.iconst 0, 1) := by decide +kernel
theorem dX5_isAhead_71 : decode cX5_isAhead 71 = .ok (.ireturn, 1) := by decide +kernel
theorem dX5_committeeAtRank_0 : decode cX5_committeeAtRank 0 = .ok (.aload_n 0, 1) := by decide +kernel
theorem dX5_committeeAtRank_1 : decode cX5_committeeAtRank 1 = .ok (.iconst 0, 1) := by decide +kernel
theorem dX5_committeeAtRank_2 : decode cX5_committeeAtRank 2 = .ok (.putfield 42, 3) := by decide +kernel
theorem dX5_committeeAtRank_5 : decode cX5_committeeAtRank 5 = .ok (.iconst 0, 1) := by decide +kernel
theorem dX5_committeeAtRank_6 : decode cX5_committeeAtRank 6 = .ok (.istore_n 2, 1) := by decide +kernel
theorem dX5_committeeAtRank_7 : decode cX5_committeeAtRank 7 = .ok (.iload_n 2, 1) := by decide +kernel
theorem dX5_committeeAtRank_8 : decode cX5_committeeAtRank 8 = .ok (.aload_n 0, 1) := by decide +kernel
theorem dX5_committeeAtRank_9 : decode cX5_committeeAtRank 9 = .ok (.getfield 7, 3) := by decide +kernel
theorem dX5_committeeAtRank_12 : decode cX5_committeeAtRank 12 = .ok (.iconst 0, 1) := by decide +kernel
theorem dX5_committeeAtRank_13 : decode cX5_committeeAtRank 13 = .ok (.iaload, 1) := by decide +kernel
theorem dX5_committeeAtRank_14 : decode cX5_committeeAtRank 14 = .ok (.if_icmp .ge 56, 3) := by decide +kernel
theorem dX5_committeeAtRank_17 : decode cX5_committeeAtRank 17 = .ok (.iconst 0, 1) := by decide +kernel
theorem dX5_committeeAtRank_18 : decode cX5_committeeAtRank 18 = .ok (.istore_n 3, 1) := by decide +kernel
theorem dX5_committeeAtRank_19 : decode cX5_committeeAtRank 19 = .ok (.iconst 0, 1) := by decide +kernel
theorem dX5_committeeAtRank_20 : decode cX5_committeeAtRank 20 = .ok (.istore 4, 2) := by decide +kernel
theorem dX5_committeeAtRank_22 : decode cX5_committeeAtRank 22 = .ok (.iload 4, 2) := by decide +kernel
theorem dX5_committeeAtRank_24 : decode cX5_committeeAtRank 24 = .ok (.aload_n 0, 1) := by decide +kernel
theorem dX5_committeeAtRank_25 : decode cX5_committeeAtRank 25 = .ok (.getfield 7, 3) := by decide +kernel
theorem dX5_committeeAtRank_28 : decode cX5_committeeAtRank 28 = .ok (.iconst 0, 1) := by decide +kernel
theorem dX5_committeeAtRank_29 : decode cX5_committeeAtRank 29 = .ok (.iaload, 1) := by decide +kernel
theorem dX5_committeeAtRank_30 : decode cX5_committeeAtRank 30 = .ok (.if_icmp .ge 27, 3) := by decide +kernel
theorem dX5_committeeAtRank_33 : decode cX5_committeeAtRank 33 = .ok (.iload_n 3, 1) := by decide +kernel
theorem dX5_committeeAtRank_34 : decode cX5_committeeAtRank 34 = .ok (.aload_n 0, 1) := by decide +kernel
theorem dX5_committeeAtRank_35 : decode cX5_committeeAtRank 35 = .ok (.iload 4, 2) := by decide +kernel
theorem dX5_committeeAtRank_37 : decode cX5_committeeAtRank 37 = .ok (.iload_n 2, 1) := by decide +kernel
theorem dX5_committeeAtRank_38 : decode cX5_committeeAtRank 38 = .ok (.invokevirtual 213, 3) := by decide +kernel
theorem dX5_committeeAtRank_41 : decode cX5_committeeAtRank 41 = .ok (.ifCond .eq 7, 3) := by decide +kernel
theorem dX5_committeeAtRank_44 : decode cX5_committeeAtRank 44 = .ok (.iconst 1, 1) := by decide +kernel
theorem dX5_committeeAtRank_45 : decode cX5_committeeAtRank 45 = .ok (.goto 4, 3) := by decide +kernel
theorem dX5_committeeAtRank_48 : decode cX5_committeeAtRank 48 = .ok (.iconst 0, 1) := by decide +kernel
theorem dX5_committeeAtRank_49 : decode cX5_committeeAtRank 49 = .ok (.iadd, 1) := by decide +kernel
theorem dX5_committeeAtRank_50 : decode cX5_committeeAtRank 50 = .ok (.istore_n 3, 1) := by decide +kernel
theorem dX5_committeeAtRank_51 : decode cX5_committeeAtRank 51 = .ok (.iinc 4 1, 3) := by decide +kernel
theorem dX5_committeeAtRank_54 : decode cX5_committeeAtRank 54 = .ok (.goto (-32), 3) := by decide +kernel
theorem dX5_committeeAtRank_57 : decode cX5_committeeAtRank 57 = .ok (.iload_n 3, 1) := by decide +kernel
theorem dX5_committeeAtRank_58 : decode cX5_committeeAtRank 58 = .ok (.iload_n 1, 1) := by decide +kernel
theorem dX5_committeeAtRank_59 : decode cX5_committeeAtRank 59 = .ok (.if_icmp .ne 5, 3) := by decide +kernel
theorem dX5_committeeAtRank_62 : decode cX5_committeeAtRank 62 = .ok (.iload_n 2, 1) := by decide +kernel
theorem dX5_committeeAtRank_63 : decode cX5_committeeAtRank 63 = .ok (.ireturn, 1) := by decide +kernel
theorem dX5_committeeAtRank_64 : decode cX5_committeeAtRank 64 = .ok (.iinc 2 1, 3) := by decide +kernel
theorem dX5_committeeAtRank_67 : decode cX5_committeeAtRank 67 = .ok (.goto (-60), 3) := by decide +kernel
theorem dX5_committeeAtRank_70 : decode cX5_committeeAtRank 70 = .ok (.aload_n 0, 1) := by decide +kernel
theorem dX5_committeeAtRank_71 : decode cX5_committeeAtRank 71 = .ok (.iconst 1, 1) := by decide +kernel
theorem dX5_committeeAtRank_72 : decode cX5_committeeAtRank 72 = .ok (.invokevirtual 79, 3) := by decide +kernel
theorem dX5_committeeAtRank_75 : decode cX5_committeeAtRank 75 = .ok (.ireturn, 1) := by decide +kernel
theorem dX5_carriedCount_0 : decode cX5_carriedCount 0 = .ok (.aload_n 0, 1) := by decide +kernel
theorem dX5_carriedCount_1 : decode cX5_carriedCount 1 = .ok (.iconst 0, 1) := by decide +kernel
theorem dX5_carriedCount_2 : decode cX5_carriedCount 2 = .ok (.putfield 42, 3) := by decide +kernel
theorem dX5_carriedCount_5 : decode cX5_carriedCount 5 = .ok (.aload_n 0, 1) := by decide +kernel
theorem dX5_carriedCount_6 : decode cX5_carriedCount 6 = .ok (.getfield 7, 3) := by decide +kernel
theorem dX5_carriedCount_9 : decode cX5_carriedCount 9 = .ok (.iconst 5, 1) := by decide +kernel
theorem dX5_carriedCount_10 : decode cX5_carriedCount 10 = .ok (.iaload, 1) := by decide +kernel
theorem dX5_carriedCount_11 : decode cX5_carriedCount 11 = .ok (.ireturn, 1) := by decide +kernel
theorem dX5_lostCount_0 : decode cX5_lostCount 0 = .ok (.aload_n 0, 1) := by decide +kernel
theorem dX5_lostCount_1 : decode cX5_lostCount 1 = .ok (.iconst 0, 1) := by decide +kernel
theorem dX5_lostCount_2 : decode cX5_lostCount 2 = .ok (.putfield 42, 3) := by decide +kernel
theorem dX5_lostCount_5 : decode cX5_lostCount 5 = .ok (.aload_n 0, 1) := by decide +kernel
theorem dX5_lostCount_6 : decode cX5_lostCount 6 = .ok (.getfield 7, 3) := by decide +kernel
theorem dX5_lostCount_9 : decode cX5_lostCount 9 = .ok (.bipush 6, 2) := by decide +kernel
theorem dX5_lostCount_11 : decode cX5_lostCount 11 = .ok (.iaload, 1) := by decide +kernel
theorem dX5_lostCount_12 : decode cX5_lostCount 12 = .ok (.ireturn, 1) := by decide +kernel
theorem dX5_paidTotal_0 : decode cX5_paidTotal 0 = .ok (.aload_n 0, 1) := by decide +kernel
theorem dX5_paidTotal_1 : decode cX5_paidTotal 1 = .ok (.iconst 0, 1) := by decide +kernel
theorem dX5_paidTotal_2 : decode cX5_paidTotal 2 = .ok (.putfield 42, 3) := by decide +kernel
theorem dX5_paidTotal_5 : decode cX5_paidTotal 5 = .ok (.aload_n 0, 1) := by decide +kernel
theorem dX5_paidTotal_6 : decode cX5_paidTotal 6 = .ok (.getfield 7, 3) := by decide +kernel
theorem dX5_paidTotal_9 : decode cX5_paidTotal 9 = .ok (.bipush 7, 2) := by decide +kernel
theorem dX5_paidTotal_11 : decode cX5_paidTotal 11 = .ok (.iaload, 1) := by decide +kernel
theorem dX5_paidTotal_12 : decode cX5_paidTotal 12 = .ok (.ireturn, 1) := by decide +kernel
theorem dX5_chargedTotal_0 : decode cX5_chargedTotal 0 = .ok (.aload_n 0, 1) := by decide +kernel
theorem dX5_chargedTotal_1 : decode cX5_chargedTotal 1 = .ok (.iconst 0, 1) := by decide +kernel
theorem dX5_chargedTotal_2 : decode cX5_chargedTotal 2 = .ok (.putfield 42, 3) := by decide +kernel
theorem dX5_chargedTotal_5 : decode cX5_chargedTotal 5 = .ok (.aload_n 0, 1) := by decide +kernel
theorem dX5_chargedTotal_6 : decode cX5_chargedTotal 6 = .ok (.getfield 7, 3) := by decide +kernel
theorem dX5_chargedTotal_9 : decode cX5_chargedTotal 9 = .ok (.bipush 8, 2) := by decide +kernel
theorem dX5_chargedTotal_11 : decode cX5_chargedTotal 11 = .ok (.iaload, 1) := by decide +kernel
theorem dX5_chargedTotal_12 : decode cX5_chargedTotal 12 = .ok (.ireturn, 1) := by decide +kernel
theorem dX5_arrearsAll_0 : decode cX5_arrearsAll 0 = .ok (.iconst 0, 1) := by decide +kernel
theorem dX5_arrearsAll_1 : decode cX5_arrearsAll 1 = .ok (.istore_n 1, 1) := by decide +kernel
theorem dX5_arrearsAll_2 : decode cX5_arrearsAll 2 = .ok (.iconst 0, 1) := by decide +kernel
theorem dX5_arrearsAll_3 : decode cX5_arrearsAll 3 = .ok (.istore_n 2, 1) := by decide +kernel
theorem dX5_arrearsAll_4 : decode cX5_arrearsAll 4 = .ok (.iload_n 2, 1) := by decide +kernel
theorem dX5_arrearsAll_5 : decode cX5_arrearsAll 5 = .ok (.aload_n 0, 1) := by decide +kernel
theorem dX5_arrearsAll_6 : decode cX5_arrearsAll 6 = .ok (.getfield 7, 3) := by decide +kernel
theorem dX5_arrearsAll_9 : decode cX5_arrearsAll 9 = .ok (.iconst 0, 1) := by decide +kernel
theorem dX5_arrearsAll_10 : decode cX5_arrearsAll 10 = .ok (.iaload, 1) := by decide +kernel
theorem dX5_arrearsAll_11 : decode cX5_arrearsAll 11 = .ok (.if_icmp .ge 18, 3) := by decide +kernel
theorem dX5_arrearsAll_14 : decode cX5_arrearsAll 14 = .ok (.iload_n 1, 1) := by decide +kernel
theorem dX5_arrearsAll_15 : decode cX5_arrearsAll 15 = .ok (.aload_n 0, 1) := by decide +kernel
theorem dX5_arrearsAll_16 : decode cX5_arrearsAll 16 = .ok (.iload_n 2, 1) := by decide +kernel
theorem dX5_arrearsAll_17 : decode cX5_arrearsAll 17 = .ok (.iconst 1, 1) := by decide +kernel
theorem dX5_arrearsAll_18 : decode cX5_arrearsAll 18 = .ok (.invokevirtual 65, 3) := by decide +kernel
theorem dX5_arrearsAll_21 : decode cX5_arrearsAll 21 = .ok (.iadd, 1) := by decide +kernel
theorem dX5_arrearsAll_22 : decode cX5_arrearsAll 22 = .ok (.istore_n 1, 1) := by decide +kernel
theorem dX5_arrearsAll_23 : decode cX5_arrearsAll 23 = .ok (.iinc 2 1, 3) := by decide +kernel
theorem dX5_arrearsAll_26 : decode cX5_arrearsAll 26 = .ok (.goto (-22), 3) := by decide +kernel
theorem dX5_arrearsAll_29 : decode cX5_arrearsAll 29 = .ok (.iload_n 1, 1) := by decide +kernel
theorem dX5_arrearsAll_30 : decode cX5_arrearsAll 30 = .ok (.ireturn, 1) := by decide +kernel
theorem dX5_rented_0 : decode cX5_rented 0 = .ok (.iconst 0, 1) := by decide +kernel
theorem dX5_rented_1 : decode cX5_rented 1 = .ok (.istore_n 1, 1) := by decide +kernel
theorem dX5_rented_2 : decode cX5_rented 2 = .ok (.iconst 0, 1) := by decide +kernel
theorem dX5_rented_3 : decode cX5_rented 3 = .ok (.istore_n 2, 1) := by decide +kernel
theorem dX5_rented_4 : decode cX5_rented 4 = .ok (.iload_n 2, 1) := by decide +kernel
theorem dX5_rented_5 : decode cX5_rented 5 = .ok (.aload_n 0, 1) := by decide +kernel
theorem dX5_rented_6 : decode cX5_rented 6 = .ok (.getfield 7, 3) := by decide +kernel
theorem dX5_rented_9 : decode cX5_rented 9 = .ok (.iconst 1, 1) := by decide +kernel
theorem dX5_rented_10 : decode cX5_rented 10 = .ok (.iaload, 1) := by decide +kernel
theorem dX5_rented_11 : decode cX5_rented 11 = .ok (.if_icmp .ge 26, 3) := by decide +kernel
theorem dX5_rented_14 : decode cX5_rented 14 = .ok (.iload_n 1, 1) := by decide +kernel
theorem dX5_rented_15 : decode cX5_rented 15 = .ok (.aload_n 0, 1) := by decide +kernel
theorem dX5_rented_16 : decode cX5_rented 16 = .ok (.iload_n 2, 1) := by decide +kernel
theorem dX5_rented_17 : decode cX5_rented 17 = .ok (.iconst 1, 1) := by decide +kernel
theorem dX5_rented_18 : decode cX5_rented 18 = .ok (.invokevirtual 68, 3) := by decide +kernel
theorem dX5_rented_21 : decode cX5_rented 21 = .ok (.ifCond .le 7, 3) := by decide +kernel
theorem dX5_rented_24 : decode cX5_rented 24 = .ok (.iconst 1, 1) := by decide +kernel
theorem dX5_rented_25 : decode cX5_rented 25 = .ok (.goto 4, 3) := by decide +kernel
theorem dX5_rented_28 : decode cX5_rented 28 = .ok (.iconst 0, 1) := by decide +kernel
theorem dX5_rented_29 : decode cX5_rented 29 = .ok (.iadd, 1) := by decide +kernel
theorem dX5_rented_30 : decode cX5_rented 30 = .ok (.istore_n 1, 1) := by decide +kernel
theorem dX5_rented_31 : decode cX5_rented 31 = .ok (.iinc 2 1, 3) := by decide +kernel
theorem dX5_rented_34 : decode cX5_rented 34 = .ok (.goto (-30), 3) := by decide +kernel
theorem dX5_rented_37 : decode cX5_rented 37 = .ok (.iload_n 1, 1) := by decide +kernel
theorem dX5_rented_38 : decode cX5_rented 38 = .ok (.ireturn, 1) := by decide +kernel
theorem dX5_meanArrears_0 : decode cX5_meanArrears 0 = .ok (.aload_n 0, 1) := by decide +kernel
theorem dX5_meanArrears_1 : decode cX5_meanArrears 1 = .ok (.iconst 0, 1) := by decide +kernel
theorem dX5_meanArrears_2 : decode cX5_meanArrears 2 = .ok (.putfield 42, 3) := by decide +kernel
theorem dX5_meanArrears_5 : decode cX5_meanArrears 5 = .ok (.aload_n 0, 1) := by decide +kernel
theorem dX5_meanArrears_6 : decode cX5_meanArrears 6 = .ok (.getfield 7, 3) := by decide +kernel
theorem dX5_meanArrears_9 : decode cX5_meanArrears 9 = .ok (.iconst 0, 1) := by decide +kernel
theorem dX5_meanArrears_10 : decode cX5_meanArrears 10 = .ok (.iaload, 1) := by decide +kernel
theorem dX5_meanArrears_11 : decode cX5_meanArrears 11 = .ok (.ifCond .ne 12, 3) := by decide +kernel
theorem dX5_meanArrears_14 : decode cX5_meanArrears 14 = .ok (.aload_n 0, 1) := by decide +kernel
theorem dX5_meanArrears_15 : decode cX5_meanArrears 15 = .ok (.iconst 1, 1) := by decide +kernel
theorem dX5_meanArrears_16 : decode cX5_meanArrears 16 = .ok (.invokevirtual 79, 3) := by decide +kernel
theorem dX5_meanArrears_19 : decode cX5_meanArrears 19 = .ok (.i2d, 1) := by decide +kernel
theorem dX5_meanArrears_20 : decode cX5_meanArrears 20 = .ok (.goto 16, 3) := by decide +kernel
theorem dX5_meanArrears_23 : decode cX5_meanArrears 23 = .ok (.aload_n 0, 1) := by decide +kernel
theorem dX5_meanArrears_24 : decode cX5_meanArrears 24 = .ok (.invokevirtual 217, 3) := by decide +kernel
theorem dX5_meanArrears_27 : decode cX5_meanArrears 27 = .ok (.i2d, 1) := by decide +kernel
theorem dX5_meanArrears_28 : decode cX5_meanArrears 28 = .ok (.aload_n 0, 1) := by decide +kernel
theorem dX5_meanArrears_29 : decode cX5_meanArrears 29 = .ok (.getfield 7, 3) := by decide +kernel
theorem dX5_meanArrears_32 : decode cX5_meanArrears 32 = .ok (.iconst 0, 1) := by decide +kernel
theorem dX5_meanArrears_33 : decode cX5_meanArrears 33 = .ok (.iaload, 1) := by decide +kernel
theorem dX5_meanArrears_34 : decode cX5_meanArrears 34 = .ok (.i2d, 1) := by decide +kernel
theorem dX5_meanArrears_35 : decode cX5_meanArrears 35 = .ok (.ddiv, 1) := by decide +kernel
theorem dX5_meanArrears_36 : decode cX5_meanArrears 36 = .ok (.dreturn, 1) := by decide +kernel
theorem dX5_rentedShare_0 : decode cX5_rentedShare 0 = .ok (.aload_n 0, 1) := by decide +kernel
theorem dX5_rentedShare_1 : decode cX5_rentedShare 1 = .ok (.iconst 0, 1) := by decide +kernel
theorem dX5_rentedShare_2 : decode cX5_rentedShare 2 = .ok (.putfield 42, 3) := by decide +kernel
theorem dX5_rentedShare_5 : decode cX5_rentedShare 5 = .ok (.aload_n 0, 1) := by decide +kernel
theorem dX5_rentedShare_6 : decode cX5_rentedShare 6 = .ok (.getfield 7, 3) := by decide +kernel
theorem dX5_rentedShare_9 : decode cX5_rentedShare 9 = .ok (.iconst 1, 1) := by decide +kernel
theorem dX5_rentedShare_10 : decode cX5_rentedShare 10 = .ok (.iaload, 1) := by decide +kernel
theorem dX5_rentedShare_11 : decode cX5_rentedShare 11 = .ok (.ifCond .ne 12, 3) := by decide +kernel
theorem dX5_rentedShare_14 : decode cX5_rentedShare 14 = .ok (.aload_n 0, 1) := by decide +kernel
theorem dX5_rentedShare_15 : decode cX5_rentedShare 15 = .ok (.iconst 1, 1) := by decide +kernel
theorem dX5_rentedShare_16 : decode cX5_rentedShare 16 = .ok (.invokevirtual 79, 3) := by decide +kernel
theorem dX5_rentedShare_19 : decode cX5_rentedShare 19 = .ok (.i2f, 1) := by decide +kernel
theorem dX5_rentedShare_20 : decode cX5_rentedShare 20 = .ok (.goto 16, 3) := by decide +kernel
theorem dX5_rentedShare_23 : decode cX5_rentedShare 23 = .ok (.aload_n 0, 1) := by decide +kernel
theorem dX5_rentedShare_24 : decode cX5_rentedShare 24 = .ok (.invokevirtual 220, 3) := by decide +kernel
theorem dX5_rentedShare_27 : decode cX5_rentedShare 27 = .ok (.i2f, 1) := by decide +kernel
theorem dX5_rentedShare_28 : decode cX5_rentedShare 28 = .ok (.aload_n 0, 1) := by decide +kernel
theorem dX5_rentedShare_29 : decode cX5_rentedShare 29 = .ok (.getfield 7, 3) := by decide +kernel
theorem dX5_rentedShare_32 : decode cX5_rentedShare 32 = .ok (.iconst 1, 1) := by decide +kernel
theorem dX5_rentedShare_33 : decode cX5_rentedShare 33 = .ok (.iaload, 1) := by decide +kernel
theorem dX5_rentedShare_34 : decode cX5_rentedShare 34 = .ok (.i2f, 1) := by decide +kernel
theorem dX5_rentedShare_35 : decode cX5_rentedShare 35 = .ok (.fdiv, 1) := by decide +kernel
theorem dX5_rentedShare_36 : decode cX5_rentedShare 36 = .ok (.freturn, 1) := by decide +kernel
theorem dX5_isConsistent_0 : decode cX5_isConsistent 0 = .ok (.aload_n 0, 1) := by decide +kernel
theorem dX5_isConsistent_1 : decode cX5_isConsistent 1 = .ok (.iconst 0, 1) := by decide +kernel
theorem dX5_isConsistent_2 : decode cX5_isConsistent 2 = .ok (.putfield 42, 3) := by decide +kernel
theorem dX5_isConsistent_5 : decode cX5_isConsistent 5 = .ok (.iconst 0, 1) := by decide +kernel
theorem dX5_isConsistent_6 : decode cX5_isConsistent 6 = .ok (.istore_n 1, 1) := by decide +kernel
theorem dX5_isConsistent_7 : decode cX5_isConsistent 7 = .ok (.iload_n 1, 1) := by decide +kernel
theorem dX5_isConsistent_8 : decode cX5_isConsistent 8 = .ok (.aload_n 0, 1) := by decide +kernel
theorem dX5_isConsistent_9 : decode cX5_isConsistent 9 = .ok (.getfield 7, 3) := by decide +kernel
theorem dX5_isConsistent_12 : decode cX5_isConsistent 12 = .ok (.iconst 1, 1) := by decide +kernel
theorem dX5_isConsistent_13 : decode cX5_isConsistent 13 = .ok (.iaload, 1) := by decide +kernel
theorem dX5_isConsistent_14 : decode cX5_isConsistent 14 = .ok (.if_icmp .ge 35, 3) := by decide +kernel
theorem dX5_isConsistent_17 : decode cX5_isConsistent 17 = .ok (.aload_n 0, 1) := by decide +kernel
theorem dX5_isConsistent_18 : decode cX5_isConsistent 18 = .ok (.iload_n 1, 1) := by decide +kernel
theorem dX5_isConsistent_19 : decode cX5_isConsistent 19 = .ok (.iconst 1, 1) := by decide +kernel
theorem dX5_isConsistent_20 : decode cX5_isConsistent 20 = .ok (.invokevirtual 68, 3) := by decide +kernel
theorem dX5_isConsistent_23 : decode cX5_isConsistent 23 = .ok (.ifCond .le 20, 3) := by decide +kernel
theorem dX5_isConsistent_26 : decode cX5_isConsistent 26 = .ok (.aload_n 0, 1) := by decide +kernel
theorem dX5_isConsistent_27 : decode cX5_isConsistent 27 = .ok (.aload_n 0, 1) := by decide +kernel
theorem dX5_isConsistent_28 : decode cX5_isConsistent 28 = .ok (.iload_n 1, 1) := by decide +kernel
theorem dX5_isConsistent_29 : decode cX5_isConsistent 29 = .ok (.iconst 1, 1) := by decide +kernel
theorem dX5_isConsistent_30 : decode cX5_isConsistent 30 = .ok (.invokevirtual 68, 3) := by decide +kernel
theorem dX5_isConsistent_33 : decode cX5_isConsistent 33 = .ok (.iconst 1, 1) := by decide +kernel
theorem dX5_isConsistent_34 : decode cX5_isConsistent 34 = .ok (.isub, 1) := by decide +kernel
theorem dX5_isConsistent_35 : decode cX5_isConsistent 35 = .ok (.invokevirtual 104, 3) := by decide +kernel
theorem dX5_isConsistent_38 : decode cX5_isConsistent 38 = .ok (.ifCond .ne 5, 3) := by decide +kernel
theorem dX5_isConsistent_41 : decode cX5_isConsistent 41 = .ok (.iconst 0, 1) := by decide +kernel
theorem dX5_isConsistent_42 : decode cX5_isConsistent 42 = .ok (.ireturn, 1) := by decide +kernel
theorem dX5_isConsistent_43 : decode cX5_isConsistent 43 = .ok (.iinc 1 1, 3) := by decide +kernel
theorem dX5_isConsistent_46 : decode cX5_isConsistent 46 = .ok (.goto (-39), 3) := by decide +kernel
theorem dX5_isConsistent_49 : decode cX5_isConsistent 49 = .ok (.aload_n 0, 1) := by decide +kernel
theorem dX5_isConsistent_50 : decode cX5_isConsistent 50 = .ok (.getfield 7, 3) := by decide +kernel
theorem dX5_isConsistent_53 : decode cX5_isConsistent 53 = .ok (.bipush 8, 2) := by decide +kernel
theorem dX5_isConsistent_55 : decode cX5_isConsistent 55 = .ok (.iaload, 1) := by decide +kernel
theorem dX5_isConsistent_56 : decode cX5_isConsistent 56 = .ok (.aload_n 0, 1) := by decide +kernel
theorem dX5_isConsistent_57 : decode cX5_isConsistent 57 = .ok (.getfield 7, 3) := by decide +kernel
theorem dX5_isConsistent_60 : decode cX5_isConsistent 60 = .ok (.bipush 7, 2) := by decide +kernel
theorem dX5_isConsistent_62 : decode cX5_isConsistent 62 = .ok (.iaload, 1) := by decide +kernel
theorem dX5_isConsistent_63 : decode cX5_isConsistent 63 = .ok (.aload_n 0, 1) := by decide +kernel
theorem dX5_isConsistent_64 : decode cX5_isConsistent 64 = .ok (.invokevirtual 217, 3) := by decide +kernel
theorem dX5_isConsistent_67 : decode cX5_isConsistent 67 = .ok (.iadd, 1) := by decide +kernel
theorem dX5_isConsistent_68 : decode cX5_isConsistent 68 = .ok (.if_icmp .ne 7, 3) := by decide +kernel
theorem dX5_isConsistent_71 : decode cX5_isConsistent 71 = .ok (.iconst 1, 1) := by decide +kernel
theorem dX5_isConsistent_72 : decode cX5_isConsistent 72 = .ok (.goto 4, 3) := by decide +kernel
theorem dX5_isConsistent_75 : decode cX5_isConsistent 75 = .ok (.iconst 0, 1) := by decide +kernel
theorem dX5_isConsistent_76 : decode cX5_isConsistent 76 = .ok (.ireturn, 1) := by decide +kernel
theorem dX5_writes_0 : decode cX5_writes 0 = .ok (.aload_n 0, 1) := by decide +kernel
theorem dX5_writes_1 : decode cX5_writes 1 = .ok (.getfield 25, 3) := by decide +kernel
theorem dX5_writes_4 : decode cX5_writes 4 = .ok (.aload_n 0, 1) := by decide +kernel
theorem dX5_writes_5 : decode cX5_writes 5 = .ok (.getfield 223, 3) := by decide +kernel
theorem dX5_writes_8 : decode cX5_writes 8 = .ok (.iload_n 1, 1) := by decide +kernel
theorem dX5_writes_9 : decode cX5_writes 9 = .ok (.i2c, 1) := by decide +kernel
theorem dX5_writes_10 : decode cX5_writes 10 = .ok (.castore, 1) := by decide +kernel
theorem dX5_writes_11 : decode cX5_writes 11 = .ok (.aload_n 0, 1) := by decide +kernel
theorem dX5_writes_12 : decode cX5_writes 12 = .ok (.dup, 1) := by decide +kernel
theorem dX5_writes_13 : decode cX5_writes 13 = .ok (.getfield 223, 3) := by decide +kernel
theorem dX5_writes_16 : decode cX5_writes 16 = .ok (.iconst 1, 1) := by decide +kernel
theorem dX5_writes_17 : decode cX5_writes 17 = .ok (.iadd, 1) := by decide +kernel
theorem dX5_writes_18 : decode cX5_writes 18 = .ok (.putfield 223, 3) := by decide +kernel
theorem dX5_writes_21 : decode cX5_writes 21 = .ok (.return_, 1) := by decide +kernel
theorem dX5_writesNumber_0 : decode cX5_writesNumber 0 = .ok (.iconst 1, 1) := by decide +kernel
theorem dX5_writesNumber_1 : decode cX5_writesNumber 1 = .ok (.istore_n 2, 1) := by decide +kernel
theorem dX5_writesNumber_2 : decode cX5_writesNumber 2 = .ok (.iload_n 1, 1) := by decide +kernel
theorem dX5_writesNumber_3 : decode cX5_writesNumber 3 = .ok (.iload_n 2, 1) := by decide +kernel
theorem dX5_writesNumber_4 : decode cX5_writesNumber 4 = .ok (.idiv, 1) := by decide +kernel
theorem dX5_writesNumber_5 : decode cX5_writesNumber 5 = .ok (.bipush 9, 2) := by decide +kernel
theorem dX5_writesNumber_7 : decode cX5_writesNumber 7 = .ok (.if_icmp .le 11, 3) := by decide +kernel
theorem dX5_writesNumber_10 : decode cX5_writesNumber 10 = .ok (.iload_n 2, 1) := by decide +kernel
theorem dX5_writesNumber_11 : decode cX5_writesNumber 11 = .ok (.bipush 10, 2) := by decide +kernel
theorem dX5_writesNumber_13 : decode cX5_writesNumber 13 = .ok (.imul, 1) := by decide +kernel
theorem dX5_writesNumber_14 : decode cX5_writesNumber 14 = .ok (.istore_n 2, 1) := by decide +kernel
theorem dX5_writesNumber_15 : decode cX5_writesNumber 15 = .ok (.goto (-13), 3) := by decide +kernel
theorem dX5_writesNumber_18 : decode cX5_writesNumber 18 = .ok (.iload_n 2, 1) := by decide +kernel
theorem dX5_writesNumber_19 : decode cX5_writesNumber 19 = .ok (.istore_n 3, 1) := by decide +kernel
theorem dX5_writesNumber_20 : decode cX5_writesNumber 20 = .ok (.iload_n 3, 1) := by decide +kernel
theorem dX5_writesNumber_21 : decode cX5_writesNumber 21 = .ok (.ifCond .le 24, 3) := by decide +kernel
theorem dX5_writesNumber_24 : decode cX5_writesNumber 24 = .ok (.aload_n 0, 1) := by decide +kernel
theorem dX5_writesNumber_25 : decode cX5_writesNumber 25 = .ok (.bipush 48, 2) := by decide +kernel
theorem dX5_writesNumber_27 : decode cX5_writesNumber 27 = .ok (.iload_n 1, 1) := by decide +kernel
theorem dX5_writesNumber_28 : decode cX5_writesNumber 28 = .ok (.iload_n 3, 1) := by decide +kernel
theorem dX5_writesNumber_29 : decode cX5_writesNumber 29 = .ok (.idiv, 1) := by decide +kernel
theorem dX5_writesNumber_30 : decode cX5_writesNumber 30 = .ok (.bipush 10, 2) := by decide +kernel
theorem dX5_writesNumber_32 : decode cX5_writesNumber 32 = .ok (.irem, 1) := by decide +kernel
theorem dX5_writesNumber_33 : decode cX5_writesNumber 33 = .ok (.iadd, 1) := by decide +kernel
theorem dX5_writesNumber_34 : decode cX5_writesNumber 34 = .ok (.invokevirtual 226, 3) := by decide +kernel
theorem dX5_writesNumber_37 : decode cX5_writesNumber 37 = .ok (.iload_n 3, 1) := by decide +kernel
theorem dX5_writesNumber_38 : decode cX5_writesNumber 38 = .ok (.bipush 10, 2) := by decide +kernel
theorem dX5_writesNumber_40 : decode cX5_writesNumber 40 = .ok (.idiv, 1) := by decide +kernel
theorem dX5_writesNumber_41 : decode cX5_writesNumber 41 = .ok (.istore_n 3, 1) := by decide +kernel
theorem dX5_writesNumber_42 : decode cX5_writesNumber 42 = .ok (.goto (-22), 3) := by decide +kernel
theorem dX5_writesNumber_45 : decode cX5_writesNumber 45 = .ok (.return_, 1) := by decide +kernel
theorem dX5_describeCommittee_0 : decode cX5_describeCommittee 0 = .ok (.aload_n 0, 1) := by decide +kernel
theorem dX5_describeCommittee_1 : decode cX5_describeCommittee 1 = .ok (.iconst 0, 1) := by decide +kernel
theorem dX5_describeCommittee_2 : decode cX5_describeCommittee 2 = .ok (.putfield 42, 3) := by decide +kernel
theorem dX5_describeCommittee_5 : decode cX5_describeCommittee 5 = .ok (.aload_n 0, 1) := by decide +kernel
theorem dX5_describeCommittee_6 : decode cX5_describeCommittee 6 = .ok (.iload_n 1, 1) := by decide +kernel
theorem dX5_describeCommittee_7 : decode cX5_describeCommittee 7 = .ok (.invokevirtual 94, 3) := by decide +kernel
theorem dX5_describeCommittee_10 : decode cX5_describeCommittee 10 = .ok (.ifCond .ne 9, 3) := by decide +kernel
theorem dX5_describeCommittee_13 : decode cX5_describeCommittee 13 = .ok (.aload_n 0, 1) := by decide +kernel
theorem dX5_describeCommittee_14 : decode cX5_describeCommittee 14 = .ok (.iconst 1, 1) := by decide +kernel
theorem dX5_describeCommittee_15 : decode cX5_describeCommittee 15 = .ok (.invokevirtual 79, 3) := by decide +kernel
theorem dX5_describeCommittee_18 : decode cX5_describeCommittee 18 = .ok (.ireturn, 1) := by decide +kernel
theorem dX5_describeCommittee_19 : decode cX5_describeCommittee 19 = .ok (.aload_n 0, 1) := by decide +kernel
theorem dX5_describeCommittee_20 : decode cX5_describeCommittee 20 = .ok (.iconst 0, 1) := by decide +kernel
theorem dX5_describeCommittee_21 : decode cX5_describeCommittee 21 = .ok (.putfield 223, 3) := by decide +kernel
theorem dX5_describeCommittee_24 : decode cX5_describeCommittee 24 = .ok (.aload_n 0, 1) := by decide +kernel
theorem dX5_describeCommittee_25 : decode cX5_describeCommittee 25 = .ok (.iload_n 1, 1) := by decide +kernel
theorem dX5_describeCommittee_26 : decode cX5_describeCommittee 26 = .ok (.invokevirtual 229, 3) := by decide +kernel
theorem dX5_describeCommittee_29 : decode cX5_describeCommittee 29 = .ok (.aload_n 0, 1) := by decide +kernel
theorem dX5_describeCommittee_30 : decode cX5_describeCommittee 30 = .ok (.bipush 47, 2) := by decide +kernel
theorem dX5_describeCommittee_32 : decode cX5_describeCommittee 32 = .ok (.invokevirtual 226, 3) := by decide +kernel
theorem dX5_describeCommittee_35 : decode cX5_describeCommittee 35 = .ok (.aload_n 0, 1) := by decide +kernel
theorem dX5_describeCommittee_36 : decode cX5_describeCommittee 36 = .ok (.aload_n 0, 1) := by decide +kernel
theorem dX5_describeCommittee_37 : decode cX5_describeCommittee 37 = .ok (.iload_n 1, 1) := by decide +kernel
theorem dX5_describeCommittee_38 : decode cX5_describeCommittee 38 = .ok (.iconst 0, 1) := by decide +kernel
theorem dX5_describeCommittee_39 : decode cX5_describeCommittee 39 = .ok (.invokevirtual 65, 3) := by decide +kernel
theorem dX5_describeCommittee_42 : decode cX5_describeCommittee 42 = .ok (.invokevirtual 229, 3) := by decide +kernel
theorem dX5_describeCommittee_45 : decode cX5_describeCommittee 45 = .ok (.aload_n 0, 1) := by decide +kernel
theorem dX5_describeCommittee_46 : decode cX5_describeCommittee 46 = .ok (.aload_n 0, 1) := by decide +kernel
theorem dX5_describeCommittee_47 : decode cX5_describeCommittee 47 = .ok (.iload_n 1, 1) := by decide +kernel
theorem dX5_describeCommittee_48 : decode cX5_describeCommittee 48 = .ok (.invokevirtual 104, 3) := by decide +kernel
theorem dX5_describeCommittee_51 : decode cX5_describeCommittee 51 = .ok (.ifCond .eq 8, 3) := by decide +kernel
theorem dX5_describeCommittee_54 : decode cX5_describeCommittee 54 = .ok (.bipush 94, 2) := by decide +kernel
theorem dX5_describeCommittee_56 : decode cX5_describeCommittee 56 = .ok (.goto 5, 3) := by decide +kernel
theorem dX5_describeCommittee_59 : decode cX5_describeCommittee 59 = .ok (.bipush 95, 2) := by decide +kernel
theorem dX5_describeCommittee_61 : decode cX5_describeCommittee 61 = .ok (.invokevirtual 226, 3) := by decide +kernel
theorem dX5_describeCommittee_64 : decode cX5_describeCommittee 64 = .ok (.aload_n 0, 1) := by decide +kernel
theorem dX5_describeCommittee_65 : decode cX5_describeCommittee 65 = .ok (.iload_n 1, 1) := by decide +kernel
theorem dX5_describeCommittee_66 : decode cX5_describeCommittee 66 = .ok (.iconst 1, 1) := by decide +kernel
theorem dX5_describeCommittee_67 : decode cX5_describeCommittee 67 = .ok (.invokevirtual 65, 3) := by decide +kernel
theorem dX5_describeCommittee_70 : decode cX5_describeCommittee 70 = .ok (.ifCond .le 19, 3) := by decide +kernel
theorem dX5_describeCommittee_73 : decode cX5_describeCommittee 73 = .ok (.aload_n 0, 1) := by decide +kernel
theorem dX5_describeCommittee_74 : decode cX5_describeCommittee 74 = .ok (.bipush 45, 2) := by decide +kernel
theorem dX5_describeCommittee_76 : decode cX5_describeCommittee 76 = .ok (.invokevirtual 226, 3) := by decide +kernel
theorem dX5_describeCommittee_79 : decode cX5_describeCommittee 79 = .ok (.aload_n 0, 1) := by decide +kernel
theorem dX5_describeCommittee_80 : decode cX5_describeCommittee 80 = .ok (.aload_n 0, 1) := by decide +kernel
theorem dX5_describeCommittee_81 : decode cX5_describeCommittee 81 = .ok (.iload_n 1, 1) := by decide +kernel
theorem dX5_describeCommittee_82 : decode cX5_describeCommittee 82 = .ok (.iconst 1, 1) := by decide +kernel
theorem dX5_describeCommittee_83 : decode cX5_describeCommittee 83 = .ok (.invokevirtual 65, 3) := by decide +kernel
theorem dX5_describeCommittee_86 : decode cX5_describeCommittee 86 = .ok (.invokevirtual 229, 3) := by decide +kernel
theorem dX5_describeCommittee_89 : decode cX5_describeCommittee 89 = .ok (.iconst 0, 1) := by decide +kernel
theorem dX5_describeCommittee_90 : decode cX5_describeCommittee 90 = .ok (.istore_n 2, 1) := by decide +kernel
theorem dX5_describeCommittee_91 : decode cX5_describeCommittee 91 = .ok (.iload_n 2, 1) := by decide +kernel
theorem dX5_describeCommittee_92 : decode cX5_describeCommittee 92 = .ok (.aload_n 0, 1) := by decide +kernel
theorem dX5_describeCommittee_93 : decode cX5_describeCommittee 93 = .ok (.getfield 7, 3) := by decide +kernel
theorem dX5_describeCommittee_96 : decode cX5_describeCommittee 96 = .ok (.iconst 1, 1) := by decide +kernel
theorem dX5_describeCommittee_97 : decode cX5_describeCommittee 97 = .ok (.iaload, 1) := by decide +kernel
theorem dX5_describeCommittee_98 : decode cX5_describeCommittee 98 = .ok (.if_icmp .ge 35, 3) := by decide +kernel
theorem dX5_describeCommittee_101 : decode cX5_describeCommittee 101 = .ok (.aload_n 0, 1) := by decide +kernel
theorem dX5_describeCommittee_102 : decode cX5_describeCommittee 102 = .ok (.iload_n 2, 1) := by decide +kernel
theorem dX5_describeCommittee_103 : decode cX5_describeCommittee 103 = .ok (.iconst 1, 1) := by decide +kernel
theorem dX5_describeCommittee_104 : decode cX5_describeCommittee 104 = .ok (.invokevirtual 68, 3) := by decide +kernel
theorem dX5_describeCommittee_107 : decode cX5_describeCommittee 107 = .ok (.iload_n 1, 1) := by decide +kernel
theorem dX5_describeCommittee_108 : decode cX5_describeCommittee 108 = .ok (.iconst 1, 1) := by decide +kernel
theorem dX5_describeCommittee_109 : decode cX5_describeCommittee 109 = .ok (.iadd, 1) := by decide +kernel
theorem dX5_describeCommittee_110 : decode cX5_describeCommittee 110 = .ok (.if_icmp .eq 6, 3) := by decide +kernel
theorem dX5_describeCommittee_113 : decode cX5_describeCommittee 113 = .ok (.goto 14, 3) := by decide +kernel
theorem dX5_describeCommittee_116 : decode cX5_describeCommittee 116 = .ok (.aload_n 0, 1) := by decide +kernel
theorem dX5_describeCommittee_117 : decode cX5_describeCommittee 117 = .ok (.bipush 126, 2) := by decide +kernel
theorem dX5_describeCommittee_119 : decode cX5_describeCommittee 119 = .ok (.invokevirtual 226, 3) := by decide +kernel
theorem dX5_describeCommittee_122 : decode cX5_describeCommittee 122 = .ok (.aload_n 0, 1) := by decide +kernel
theorem dX5_describeCommittee_123 : decode cX5_describeCommittee 123 = .ok (.iload_n 2, 1) := by decide +kernel
theorem dX5_describeCommittee_124 : decode cX5_describeCommittee 124 = .ok (.invokevirtual 229, 3) := by decide +kernel
theorem dX5_describeCommittee_127 : decode cX5_describeCommittee 127 = .ok (.iinc 2 1, 3) := by decide +kernel
theorem dX5_describeCommittee_130 : decode cX5_describeCommittee 130 = .ok (.goto (-39), 3) := by decide +kernel
theorem dX5_describeCommittee_133 : decode cX5_describeCommittee 133 = .ok (.aload_n 0, 1) := by decide +kernel
theorem dX5_describeCommittee_134 : decode cX5_describeCommittee 134 = .ok (.getfield 223, 3) := by decide +kernel
theorem dX5_describeCommittee_137 : decode cX5_describeCommittee 137 = .ok (.ireturn, 1) := by decide +kernel
theorem dX5_describeMotion_0 : decode cX5_describeMotion 0 = .ok (.aload_n 0, 1) := by decide +kernel
theorem dX5_describeMotion_1 : decode cX5_describeMotion 1 = .ok (.iconst 0, 1) := by decide +kernel
theorem dX5_describeMotion_2 : decode cX5_describeMotion 2 = .ok (.putfield 42, 3) := by decide +kernel
theorem dX5_describeMotion_5 : decode cX5_describeMotion 5 = .ok (.aload_n 0, 1) := by decide +kernel
theorem dX5_describeMotion_6 : decode cX5_describeMotion 6 = .ok (.iload_n 1, 1) := by decide +kernel
theorem dX5_describeMotion_7 : decode cX5_describeMotion 7 = .ok (.invokevirtual 133, 3) := by decide +kernel
theorem dX5_describeMotion_10 : decode cX5_describeMotion 10 = .ok (.istore_n 2, 1) := by decide +kernel
theorem dX5_describeMotion_11 : decode cX5_describeMotion 11 = .ok (.iload_n 2, 1) := by decide +kernel
theorem dX5_describeMotion_12 : decode cX5_describeMotion 12 = .ok (.ifCond .ge 9, 3) := by decide +kernel
theorem dX5_describeMotion_15 : decode cX5_describeMotion 15 = .ok (.aload_n 0, 1) := by decide +kernel
theorem dX5_describeMotion_16 : decode cX5_describeMotion 16 = .ok (.iconst 1, 1) := by decide +kernel
theorem dX5_describeMotion_17 : decode cX5_describeMotion 17 = .ok (.invokevirtual 79, 3) := by decide +kernel
theorem dX5_describeMotion_20 : decode cX5_describeMotion 20 = .ok (.ireturn, 1) := by decide +kernel
theorem dX5_describeMotion_21 : decode cX5_describeMotion 21 = .ok (.aload_n 0, 1) := by decide +kernel
theorem dX5_describeMotion_22 : decode cX5_describeMotion 22 = .ok (.iconst 0, 1) := by decide +kernel
theorem dX5_describeMotion_23 : decode cX5_describeMotion 23 = .ok (.putfield 223, 3) := by decide +kernel
theorem dX5_describeMotion_26 : decode cX5_describeMotion 26 = .ok (.aload_n 0, 1) := by decide +kernel
theorem dX5_describeMotion_27 : decode cX5_describeMotion 27 = .ok (.bipush 35, 2) := by decide +kernel
theorem dX5_describeMotion_29 : decode cX5_describeMotion 29 = .ok (.invokevirtual 226, 3) := by decide +kernel
theorem dX5_describeMotion_32 : decode cX5_describeMotion 32 = .ok (.aload_n 0, 1) := by decide +kernel
theorem dX5_describeMotion_33 : decode cX5_describeMotion 33 = .ok (.iload_n 1, 1) := by decide +kernel
theorem dX5_describeMotion_34 : decode cX5_describeMotion 34 = .ok (.invokevirtual 229, 3) := by decide +kernel
theorem dX5_describeMotion_37 : decode cX5_describeMotion 37 = .ok (.aload_n 0, 1) := by decide +kernel
theorem dX5_describeMotion_38 : decode cX5_describeMotion 38 = .ok (.aload_n 0, 1) := by decide +kernel
theorem dX5_describeMotion_39 : decode cX5_describeMotion 39 = .ok (.iload_n 2, 1) := by decide +kernel
theorem dX5_describeMotion_40 : decode cX5_describeMotion 40 = .ok (.iconst 1, 1) := by decide +kernel
theorem dX5_describeMotion_41 : decode cX5_describeMotion 41 = .ok (.invokevirtual 61, 3) := by decide +kernel
theorem dX5_describeMotion_44 : decode cX5_describeMotion 44 = .ok (.ifCond .ne 8, 3) := by decide +kernel
theorem dX5_describeMotion_47 : decode cX5_describeMotion 47 = .ok (.bipush 114, 2) := by decide +kernel
theorem dX5_describeMotion_49 : decode cX5_describeMotion 49 = .ok (.goto 20, 3) := by decide +kernel
theorem dX5_describeMotion_52 : decode cX5_describeMotion 52 = .ok (.aload_n 0, 1) := by decide +kernel
theorem dX5_describeMotion_53 : decode cX5_describeMotion 53 = .ok (.iload_n 2, 1) := by decide +kernel
theorem dX5_describeMotion_54 : decode cX5_describeMotion 54 = .ok (.iconst 1, 1) := by decide +kernel
theorem dX5_describeMotion_55 : decode cX5_describeMotion 55 = .ok (.invokevirtual 61, 3) := by decide +kernel
theorem dX5_describeMotion_58 : decode cX5_describeMotion 58 = .ok (.iconst 1, 1) := by decide +kernel
theorem dX5_describeMotion_59 : decode cX5_describeMotion 59 = .ok (.if_icmp .ne 8, 3) := by decide +kernel
theorem dX5_describeMotion_62 : decode cX5_describeMotion 62 = .ok (.bipush 116, 2) := by decide +kernel
theorem dX5_describeMotion_64 : decode cX5_describeMotion 64 = .ok (.goto 5, 3) := by decide +kernel
theorem dX5_describeMotion_67 : decode cX5_describeMotion 67 = .ok (.bipush 103, 2) := by decide +kernel
theorem dX5_describeMotion_69 : decode cX5_describeMotion 69 = .ok (.invokevirtual 226, 3) := by decide +kernel
theorem dX5_describeMotion_72 : decode cX5_describeMotion 72 = .ok (.aload_n 0, 1) := by decide +kernel
theorem dX5_describeMotion_73 : decode cX5_describeMotion 73 = .ok (.aload_n 0, 1) := by decide +kernel
theorem dX5_describeMotion_74 : decode cX5_describeMotion 74 = .ok (.iload_n 2, 1) := by decide +kernel
theorem dX5_describeMotion_75 : decode cX5_describeMotion 75 = .ok (.iconst 3, 1) := by decide +kernel
theorem dX5_describeMotion_76 : decode cX5_describeMotion 76 = .ok (.invokevirtual 61, 3) := by decide +kernel
theorem dX5_describeMotion_79 : decode cX5_describeMotion 79 = .ok (.invokevirtual 229, 3) := by decide +kernel
theorem dX5_describeMotion_82 : decode cX5_describeMotion 82 = .ok (.aload_n 0, 1) := by decide +kernel
theorem dX5_describeMotion_83 : decode cX5_describeMotion 83 = .ok (.bipush 58, 2) := by decide +kernel
theorem dX5_describeMotion_85 : decode cX5_describeMotion 85 = .ok (.invokevirtual 226, 3) := by decide +kernel
theorem dX5_describeMotion_88 : decode cX5_describeMotion 88 = .ok (.aload_n 0, 1) := by decide +kernel
theorem dX5_describeMotion_89 : decode cX5_describeMotion 89 = .ok (.aload_n 0, 1) := by decide +kernel
theorem dX5_describeMotion_90 : decode cX5_describeMotion 90 = .ok (.iload_n 2, 1) := by decide +kernel
theorem dX5_describeMotion_91 : decode cX5_describeMotion 91 = .ok (.iconst 2, 1) := by decide +kernel
theorem dX5_describeMotion_92 : decode cX5_describeMotion 92 = .ok (.invokevirtual 61, 3) := by decide +kernel
theorem dX5_describeMotion_95 : decode cX5_describeMotion 95 = .ok (.invokevirtual 229, 3) := by decide +kernel
theorem dX5_describeMotion_98 : decode cX5_describeMotion 98 = .ok (.aload_n 0, 1) := by decide +kernel
theorem dX5_describeMotion_99 : decode cX5_describeMotion 99 = .ok (.iload_n 2, 1) := by decide +kernel
theorem dX5_describeMotion_100 : decode cX5_describeMotion 100 = .ok (.iconst 4, 1) := by decide +kernel
theorem dX5_describeMotion_101 : decode cX5_describeMotion 101 = .ok (.invokevirtual 61, 3) := by decide +kernel
theorem dX5_describeMotion_104 : decode cX5_describeMotion 104 = .ok (.ifCond .le 21, 3) := by decide +kernel
theorem dX5_describeMotion_107 : decode cX5_describeMotion 107 = .ok (.aload_n 0, 1) := by decide +kernel
theorem dX5_describeMotion_108 : decode cX5_describeMotion 108 = .ok (.bipush 43, 2) := by decide +kernel
theorem dX5_describeMotion_110 : decode cX5_describeMotion 110 = .ok (.invokevirtual 226, 3) := by decide +kernel
theorem dX5_describeMotion_113 : decode cX5_describeMotion 113 = .ok (.aload_n 0, 1) := by decide +kernel
theorem dX5_describeMotion_114 : decode cX5_describeMotion 114 = .ok (.aload_n 0, 1) := by decide +kernel
theorem dX5_describeMotion_115 : decode cX5_describeMotion 115 = .ok (.iload_n 2, 1) := by decide +kernel
theorem dX5_describeMotion_116 : decode cX5_describeMotion 116 = .ok (.iconst 4, 1) := by decide +kernel
theorem dX5_describeMotion_117 : decode cX5_describeMotion 117 = .ok (.invokevirtual 61, 3) := by decide +kernel
theorem dX5_describeMotion_120 : decode cX5_describeMotion 120 = .ok (.iconst 1, 1) := by decide +kernel
theorem dX5_describeMotion_121 : decode cX5_describeMotion 121 = .ok (.isub, 1) := by decide +kernel
theorem dX5_describeMotion_122 : decode cX5_describeMotion 122 = .ok (.invokevirtual 229, 3) := by decide +kernel
theorem dX5_describeMotion_125 : decode cX5_describeMotion 125 = .ok (.aload_n 0, 1) := by decide +kernel
theorem dX5_describeMotion_126 : decode cX5_describeMotion 126 = .ok (.iload_n 2, 1) := by decide +kernel
theorem dX5_describeMotion_127 : decode cX5_describeMotion 127 = .ok (.iconst 5, 1) := by decide +kernel
theorem dX5_describeMotion_128 : decode cX5_describeMotion 128 = .ok (.invokevirtual 61, 3) := by decide +kernel
theorem dX5_describeMotion_131 : decode cX5_describeMotion 131 = .ok (.iconst 1, 1) := by decide +kernel
theorem dX5_describeMotion_132 : decode cX5_describeMotion 132 = .ok (.if_icmp .ne 9, 3) := by decide +kernel
theorem dX5_describeMotion_135 : decode cX5_describeMotion 135 = .ok (.aload_n 0, 1) := by decide +kernel
theorem dX5_describeMotion_136 : decode cX5_describeMotion 136 = .ok (.bipush 33, 2) := by decide +kernel
theorem dX5_describeMotion_138 : decode cX5_describeMotion 138 = .ok (.invokevirtual 226, 3) := by decide +kernel
theorem dX5_describeMotion_141 : decode cX5_describeMotion 141 = .ok (.aload_n 0, 1) := by decide +kernel
theorem dX5_describeMotion_142 : decode cX5_describeMotion 142 = .ok (.getfield 223, 3) := by decide +kernel
theorem dX5_describeMotion_145 : decode cX5_describeMotion 145 = .ok (.ireturn, 1) := by decide +kernel
theorem dX5_lineAt_0 : decode cX5_lineAt 0 = .ok (.aload_n 0, 1) := by decide +kernel
theorem dX5_lineAt_1 : decode cX5_lineAt 1 = .ok (.iconst 0, 1) := by decide +kernel
theorem dX5_lineAt_2 : decode cX5_lineAt 2 = .ok (.putfield 42, 3) := by decide +kernel
theorem dX5_lineAt_5 : decode cX5_lineAt 5 = .ok (.iload_n 1, 1) := by decide +kernel
theorem dX5_lineAt_6 : decode cX5_lineAt 6 = .ok (.iconst 0, 1) := by decide +kernel
theorem dX5_lineAt_7 : decode cX5_lineAt 7 = .ok (.aload_n 0, 1) := by decide +kernel
theorem dX5_lineAt_8 : decode cX5_lineAt 8 = .ok (.getfield 223, 3) := by decide +kernel
theorem dX5_lineAt_11 : decode cX5_lineAt 11 = .ok (.iconst 1, 1) := by decide +kernel
theorem dX5_lineAt_12 : decode cX5_lineAt 12 = .ok (.isub, 1) := by decide +kernel
theorem dX5_lineAt_13 : decode cX5_lineAt 13 = .ok (.invokestatic 57, 3) := by decide +kernel
theorem dX5_lineAt_16 : decode cX5_lineAt 16 = .ok (.ifCond .eq 10, 3) := by decide +kernel
theorem dX5_lineAt_19 : decode cX5_lineAt 19 = .ok (.aload_n 0, 1) := by decide +kernel
theorem dX5_lineAt_20 : decode cX5_lineAt 20 = .ok (.getfield 25, 3) := by decide +kernel
theorem dX5_lineAt_23 : decode cX5_lineAt 23 = .ok (.iload_n 1, 1) := by decide +kernel
theorem dX5_lineAt_24 : decode cX5_lineAt 24 = .ok (.caload, 1) := by decide +kernel
theorem dX5_lineAt_25 : decode cX5_lineAt 25 = .ok (.ireturn, 1) := by decide +kernel
theorem dX5_lineAt_26 : decode cX5_lineAt 26 = .ok (.aload_n 0, 1) := by decide +kernel
theorem dX5_lineAt_27 : decode cX5_lineAt 27 = .ok (.iconst 1, 1) := by decide +kernel
theorem dX5_lineAt_28 : decode cX5_lineAt 28 = .ok (.invokevirtual 79, 3) := by decide +kernel
theorem dX5_lineAt_31 : decode cX5_lineAt 31 = .ok (.i2c, 1) := by decide +kernel
theorem dX5_lineAt_32 : decode cX5_lineAt 32 = .ok (.ireturn, 1) := by decide +kernel
theorem dX5_append_0 : decode cX5_append 0 = .ok (.aload_n 0, 1) := by decide +kernel
theorem dX5_append_1 : decode cX5_append 1 = .ok (.iconst 0, 1) := by decide +kernel
theorem dX5_append_2 : decode cX5_append 2 = .ok (.putfield 42, 3) := by decide +kernel
theorem dX5_append_5 : decode cX5_append 5 = .ok (.iload_n 1, 1) := by decide +kernel
theorem dX5_append_6 : decode cX5_append 6 = .ok (.bipush 32, 2) := by decide +kernel
theorem dX5_append_8 : decode cX5_append 8 = .ok (.bipush 126, 2) := by decide +kernel
theorem dX5_append_10 : decode cX5_append 10 = .ok (.invokestatic 57, 3) := by decide +kernel
theorem dX5_append_13 : decode cX5_append 13 = .ok (.ifCond .ne 9, 3) := by decide +kernel
theorem dX5_append_16 : decode cX5_append 16 = .ok (.aload_n 0, 1) := by decide +kernel
theorem dX5_append_17 : decode cX5_append 17 = .ok (.iconst 1, 1) := by decide +kernel
theorem dX5_append_18 : decode cX5_append 18 = .ok (.invokevirtual 79, 3) := by decide +kernel
theorem dX5_append_21 : decode cX5_append 21 = .ok (.ireturn, 1) := by decide +kernel
theorem dX5_append_22 : decode cX5_append 22 = .ok (.aload_n 0, 1) := by decide +kernel
theorem dX5_append_23 : decode cX5_append 23 = .ok (.getfield 232, 3) := by decide +kernel
theorem dX5_append_26 : decode cX5_append 26 = .ok (.bipush 60, 2) := by decide +kernel
theorem dX5_append_28 : decode cX5_append 28 = .ok (.if_icmp .ne 9, 3) := by decide +kernel
theorem dX5_append_31 : decode cX5_append 31 = .ok (.aload_n 0, 1) := by decide +kernel
theorem dX5_append_32 : decode cX5_append 32 = .ok (.iconst 2, 1) := by decide +kernel
theorem dX5_append_33 : decode cX5_append 33 = .ok (.invokevirtual 79, 3) := by decide +kernel
theorem dX5_append_36 : decode cX5_append 36 = .ok (.ireturn, 1) := by decide +kernel
theorem dX5_append_37 : decode cX5_append 37 = .ok (.aload_n 0, 1) := by decide +kernel
theorem dX5_append_38 : decode cX5_append 38 = .ok (.getfield 29, 3) := by decide +kernel
theorem dX5_append_41 : decode cX5_append 41 = .ok (.aload_n 0, 1) := by decide +kernel
theorem dX5_append_42 : decode cX5_append 42 = .ok (.getfield 232, 3) := by decide +kernel
theorem dX5_append_45 : decode cX5_append 45 = .ok (.iload_n 1, 1) := by decide +kernel
theorem dX5_append_46 : decode cX5_append 46 = .ok (.castore, 1) := by decide +kernel
theorem dX5_append_47 : decode cX5_append 47 = .ok (.aload_n 0, 1) := by decide +kernel
theorem dX5_append_48 : decode cX5_append 48 = .ok (.dup, 1) := by decide +kernel
theorem dX5_append_49 : decode cX5_append 49 = .ok (.getfield 232, 3) := by decide +kernel
theorem dX5_append_52 : decode cX5_append 52 = .ok (.iconst 1, 1) := by decide +kernel
theorem dX5_append_53 : decode cX5_append 53 = .ok (.iadd, 1) := by decide +kernel
theorem dX5_append_54 : decode cX5_append 54 = .ok (.putfield 232, 3) := by decide +kernel
theorem dX5_append_57 : decode cX5_append 57 = .ok (.aload_n 0, 1) := by decide +kernel
theorem dX5_append_58 : decode cX5_append 58 = .ok (.getfield 232, 3) := by decide +kernel
theorem dX5_append_61 : decode cX5_append 61 = .ok (.ireturn, 1) := by decide +kernel
theorem dX5_nextChar_0 : decode cX5_nextChar 0 = .ok (.aload_n 0, 1) := by decide +kernel
theorem dX5_nextChar_1 : decode cX5_nextChar 1 = .ok (.getfield 235, 3) := by decide +kernel
theorem dX5_nextChar_4 : decode cX5_nextChar 4 = .ok (.aload_n 0, 1) := by decide +kernel
theorem dX5_nextChar_5 : decode cX5_nextChar 5 = .ok (.getfield 232, 3) := by decide +kernel
theorem dX5_nextChar_8 : decode cX5_nextChar 8 = .ok (.if_icmp .ge 15, 3) := by decide +kernel
theorem dX5_nextChar_11 : decode cX5_nextChar 11 = .ok (.aload_n 0, 1) := by decide +kernel
theorem dX5_nextChar_12 : decode cX5_nextChar 12 = .ok (.getfield 29, 3) := by decide +kernel
theorem dX5_nextChar_15 : decode cX5_nextChar 15 = .ok (.aload_n 0, 1) := by decide +kernel
theorem dX5_nextChar_16 : decode cX5_nextChar 16 = .ok (.getfield 235, 3) := by decide +kernel
theorem dX5_nextChar_19 : decode cX5_nextChar 19 = .ok (.caload, 1) := by decide +kernel
theorem dX5_nextChar_20 : decode cX5_nextChar 20 = .ok (.goto 4, 3) := by decide +kernel
theorem dX5_nextChar_23 : decode cX5_nextChar 23 = .ok (.iconst (-1), 1) := by decide +kernel
theorem dX5_nextChar_24 : decode cX5_nextChar 24 = .ok (.ireturn, 1) := by decide +kernel
theorem dX5_reads_0 : decode cX5_reads 0 = .ok (.aload_n 0, 1) := by decide +kernel
theorem dX5_reads_1 : decode cX5_reads 1 = .ok (.invokevirtual 238, 3) := by decide +kernel
theorem dX5_reads_4 : decode cX5_reads 4 = .ok (.iload_n 1, 1) := by decide +kernel
theorem dX5_reads_5 : decode cX5_reads 5 = .ok (.if_icmp .eq 5, 3) := by decide +kernel
theorem dX5_reads_8 : decode cX5_reads 8 = .ok (.iconst 0, 1) := by decide +kernel
theorem dX5_reads_9 : decode cX5_reads 9 = .ok (.ireturn, 1) := by decide +kernel
theorem dX5_reads_10 : decode cX5_reads 10 = .ok (.aload_n 0, 1) := by decide +kernel
theorem dX5_reads_11 : decode cX5_reads 11 = .ok (.dup, 1) := by decide +kernel
theorem dX5_reads_12 : decode cX5_reads 12 = .ok (.getfield 235, 3) := by decide +kernel
theorem dX5_reads_15 : decode cX5_reads 15 = .ok (.iconst 1, 1) := by decide +kernel
theorem dX5_reads_16 : decode cX5_reads 16 = .ok (.iadd, 1) := by decide +kernel
theorem dX5_reads_17 : decode cX5_reads 17 = .ok (.putfield 235, 3) := by decide +kernel
theorem dX5_reads_20 : decode cX5_reads 20 = .ok (.iconst 1, 1) := by decide +kernel
theorem dX5_reads_21 : decode cX5_reads 21 = .ok (.ireturn, 1) := by decide +kernel
theorem dX5_isDigitNext_0 : decode cX5_isDigitNext 0 = .ok (.aload_n 0, 1) := by decide +kernel
theorem dX5_isDigitNext_1 : decode cX5_isDigitNext 1 = .ok (.invokevirtual 238, 3) := by decide +kernel
theorem dX5_isDigitNext_4 : decode cX5_isDigitNext 4 = .ok (.bipush 48, 2) := by decide +kernel
theorem dX5_isDigitNext_6 : decode cX5_isDigitNext 6 = .ok (.bipush 57, 2) := by decide +kernel
theorem dX5_isDigitNext_8 : decode cX5_isDigitNext 8 = .ok (.invokestatic 57, 3) := by decide +kernel
theorem dX5_isDigitNext_11 : decode cX5_isDigitNext 11 = .ok (.ireturn, 1) := by decide +kernel
theorem dX5_readsDigit_0 : decode cX5_readsDigit 0 = .ok (.aload_n 0, 1) := by decide +kernel
theorem dX5_readsDigit_1 : decode cX5_readsDigit 1 = .ok (.invokevirtual 241, 3) := by decide +kernel
theorem dX5_readsDigit_4 : decode cX5_readsDigit 4 = .ok (.ifCond .ne 5, 3) := by decide +kernel
theorem dX5_readsDigit_7 : decode cX5_readsDigit 7 = .ok (.iconst 0, 1) := by decide +kernel
theorem dX5_readsDigit_8 : decode cX5_readsDigit 8 = .ok (.ireturn, 1) := by decide +kernel
theorem dX5_readsDigit_9 : decode cX5_readsDigit 9 = .ok (.aload_n 0, 1) := by decide +kernel
theorem dX5_readsDigit_10 : decode cX5_readsDigit 10 = .ok (.getfield 39, 3) := by decide +kernel
theorem dX5_readsDigit_13 : decode cX5_readsDigit 13 = .ok (.iload_n 1, 1) := by decide +kernel
theorem dX5_readsDigit_14 : decode cX5_readsDigit 14 = .ok (.aload_n 0, 1) := by decide +kernel
theorem dX5_readsDigit_15 : decode cX5_readsDigit 15 = .ok (.invokevirtual 238, 3) := by decide +kernel
theorem dX5_readsDigit_18 : decode cX5_readsDigit 18 = .ok (.bipush 48, 2) := by decide +kernel
theorem dX5_readsDigit_20 : decode cX5_readsDigit 20 = .ok (.isub, 1) := by decide +kernel
theorem dX5_readsDigit_21 : decode cX5_readsDigit 21 = .ok (.iastore, 1) := by decide +kernel
theorem dX5_readsDigit_22 : decode cX5_readsDigit 22 = .ok (.aload_n 0, 1) := by decide +kernel
theorem dX5_readsDigit_23 : decode cX5_readsDigit 23 = .ok (.dup, 1) := by decide +kernel
theorem dX5_readsDigit_24 : decode cX5_readsDigit 24 = .ok (.getfield 235, 3) := by decide +kernel
theorem dX5_readsDigit_27 : decode cX5_readsDigit 27 = .ok (.iconst 1, 1) := by decide +kernel
theorem dX5_readsDigit_28 : decode cX5_readsDigit 28 = .ok (.iadd, 1) := by decide +kernel
theorem dX5_readsDigit_29 : decode cX5_readsDigit 29 = .ok (.putfield 235, 3) := by decide +kernel
theorem dX5_readsDigit_32 : decode cX5_readsDigit 32 = .ok (.iconst 1, 1) := by decide +kernel
theorem dX5_readsDigit_33 : decode cX5_readsDigit 33 = .ok (.ireturn, 1) := by decide +kernel
theorem dX5_readsNumber_0 : decode cX5_readsNumber 0 = .ok (.aload_n 0, 1) := by decide +kernel
theorem dX5_readsNumber_1 : decode cX5_readsNumber 1 = .ok (.iload_n 1, 1) := by decide +kernel
theorem dX5_readsNumber_2 : decode cX5_readsNumber 2 = .ok (.invokevirtual 245, 3) := by decide +kernel
theorem dX5_readsNumber_5 : decode cX5_readsNumber 5 = .ok (.ifCond .ne 5, 3) := by decide +kernel
theorem dX5_readsNumber_8 : decode cX5_readsNumber 8 = .ok (.iconst 0, 1) := by decide +kernel
theorem dX5_readsNumber_9 : decode cX5_readsNumber 9 = .ok (.ireturn, 1) := by decide +kernel
theorem dX5_readsNumber_10 : decode cX5_readsNumber 10 = .ok (.iconst 0, 1) := by decide +kernel
theorem dX5_readsNumber_11 : decode cX5_readsNumber 11 = .ok (.istore_n 2, 1) := by decide +kernel
theorem dX5_readsNumber_12 : decode cX5_readsNumber 12 = .ok (.iload_n 2, 1) := by decide +kernel
theorem dX5_readsNumber_13 : decode cX5_readsNumber 13 = .ok (.iconst 2, 1) := by decide +kernel
theorem dX5_readsNumber_14 : decode cX5_readsNumber 14 = .ok (.if_icmp .ge 49, 3) := by decide +kernel
theorem dX5_readsNumber_17 : decode cX5_readsNumber 17 = .ok (.aload_n 0, 1) := by decide +kernel
theorem dX5_readsNumber_18 : decode cX5_readsNumber 18 = .ok (.invokevirtual 241, 3) := by decide +kernel
theorem dX5_readsNumber_21 : decode cX5_readsNumber 21 = .ok (.ifCond .eq 42, 3) := by decide +kernel
theorem dX5_readsNumber_24 : decode cX5_readsNumber 24 = .ok (.aload_n 0, 1) := by decide +kernel
theorem dX5_readsNumber_25 : decode cX5_readsNumber 25 = .ok (.getfield 39, 3) := by decide +kernel
theorem dX5_readsNumber_28 : decode cX5_readsNumber 28 = .ok (.iload_n 1, 1) := by decide +kernel
theorem dX5_readsNumber_29 : decode cX5_readsNumber 29 = .ok (.bipush 10, 2) := by decide +kernel
theorem dX5_readsNumber_31 : decode cX5_readsNumber 31 = .ok (.aload_n 0, 1) := by decide +kernel
theorem dX5_readsNumber_32 : decode cX5_readsNumber 32 = .ok (.getfield 39, 3) := by decide +kernel
theorem dX5_readsNumber_35 : decode cX5_readsNumber 35 = .ok (.iload_n 1, 1) := by decide +kernel
theorem dX5_readsNumber_36 : decode cX5_readsNumber 36 = .ok (.iaload, 1) := by decide +kernel
theorem dX5_readsNumber_37 : decode cX5_readsNumber 37 = .ok (.imul, 1) := by decide +kernel
theorem dX5_readsNumber_38 : decode cX5_readsNumber 38 = .ok (.aload_n 0, 1) := by decide +kernel
theorem dX5_readsNumber_39 : decode cX5_readsNumber 39 = .ok (.invokevirtual 238, 3) := by decide +kernel
theorem dX5_readsNumber_42 : decode cX5_readsNumber 42 = .ok (.iadd, 1) := by decide +kernel
theorem dX5_readsNumber_43 : decode cX5_readsNumber 43 = .ok (.bipush 48, 2) := by decide +kernel
theorem dX5_readsNumber_45 : decode cX5_readsNumber 45 = .ok (.isub, 1) := by decide +kernel
theorem dX5_readsNumber_46 : decode cX5_readsNumber 46 = .ok (.iastore, 1) := by decide +kernel
theorem dX5_readsNumber_47 : decode cX5_readsNumber 47 = .ok (.aload_n 0, 1) := by decide +kernel
theorem dX5_readsNumber_48 : decode cX5_readsNumber 48 = .ok (.dup, 1) := by decide +kernel
theorem dX5_readsNumber_49 : decode cX5_readsNumber 49 = .ok (.getfield 235, 3) := by decide +kernel
theorem dX5_readsNumber_52 : decode cX5_readsNumber 52 = .ok (.iconst 1, 1) := by decide +kernel
theorem dX5_readsNumber_53 : decode cX5_readsNumber 53 = .ok (.iadd, 1) := by decide +kernel
theorem dX5_readsNumber_54 : decode cX5_readsNumber 54 = .ok (.putfield 235, 3) := by decide +kernel
theorem dX5_readsNumber_57 : decode cX5_readsNumber 57 = .ok (.iinc 2 1, 3) := by decide +kernel
theorem dX5_readsNumber_60 : decode cX5_readsNumber 60 = .ok (.goto (-48), 3) := by decide +kernel
theorem dX5_readsNumber_63 : decode cX5_readsNumber 63 = .ok (.iconst 1, 1) := by decide +kernel
theorem dX5_readsNumber_64 : decode cX5_readsNumber 64 = .ok (.ireturn, 1) := by decide +kernel
theorem dX5_readsCommittee_0 : decode cX5_readsCommittee 0 = .ok (.aload_n 0, 1) := by decide +kernel
theorem dX5_readsCommittee_1 : decode cX5_readsCommittee 1 = .ok (.bipush 111, 2) := by decide +kernel
theorem dX5_readsCommittee_3 : decode cX5_readsCommittee 3 = .ok (.invokevirtual 248, 3) := by decide +kernel
theorem dX5_readsCommittee_6 : decode cX5_readsCommittee 6 = .ok (.ifCond .eq 48, 3) := by decide +kernel
theorem dX5_readsCommittee_9 : decode cX5_readsCommittee 9 = .ok (.aload_n 0, 1) := by decide +kernel
theorem dX5_readsCommittee_10 : decode cX5_readsCommittee 10 = .ok (.bipush 109, 2) := by decide +kernel
theorem dX5_readsCommittee_12 : decode cX5_readsCommittee 12 = .ok (.invokevirtual 248, 3) := by decide +kernel
theorem dX5_readsCommittee_15 : decode cX5_readsCommittee 15 = .ok (.ifCond .eq 39, 3) := by decide +kernel
theorem dX5_readsCommittee_18 : decode cX5_readsCommittee 18 = .ok (.aload_n 0, 1) := by decide +kernel
theorem dX5_readsCommittee_19 : decode cX5_readsCommittee 19 = .ok (.bipush 109, 2) := by decide +kernel
theorem dX5_readsCommittee_21 : decode cX5_readsCommittee 21 = .ok (.invokevirtual 248, 3) := by decide +kernel
theorem dX5_readsCommittee_24 : decode cX5_readsCommittee 24 = .ok (.ifCond .eq 30, 3) := by decide +kernel
theorem dX5_readsCommittee_27 : decode cX5_readsCommittee 27 = .ok (.aload_n 0, 1) := by decide +kernel
theorem dX5_readsCommittee_28 : decode cX5_readsCommittee 28 = .ok (.bipush 105, 2) := by decide +kernel
theorem dX5_readsCommittee_30 : decode cX5_readsCommittee 30 = .ok (.invokevirtual 248, 3) := by decide +kernel
theorem dX5_readsCommittee_33 : decode cX5_readsCommittee 33 = .ok (.ifCond .eq 21, 3) := by decide +kernel
theorem dX5_readsCommittee_36 : decode cX5_readsCommittee 36 = .ok (.aload_n 0, 1) := by decide +kernel
theorem dX5_readsCommittee_37 : decode cX5_readsCommittee 37 = .ok (.bipush 116, 2) := by decide +kernel
theorem dX5_readsCommittee_39 : decode cX5_readsCommittee 39 = .ok (.invokevirtual 248, 3) := by decide +kernel
theorem dX5_readsCommittee_42 : decode cX5_readsCommittee 42 = .ok (.ifCond .eq 12, 3) := by decide +kernel
theorem dX5_readsCommittee_45 : decode cX5_readsCommittee 45 = .ok (.aload_n 0, 1) := by decide +kernel
theorem dX5_readsCommittee_46 : decode cX5_readsCommittee 46 = .ok (.bipush 116, 2) := by decide +kernel
theorem dX5_readsCommittee_48 : decode cX5_readsCommittee 48 = .ok (.invokevirtual 248, 3) := by decide +kernel
theorem dX5_readsCommittee_51 : decode cX5_readsCommittee 51 = .ok (.ifCond .ne 5, 3) := by decide +kernel
theorem dX5_readsCommittee_54 : decode cX5_readsCommittee 54 = .ok (.iconst 0, 1) := by decide +kernel
theorem dX5_readsCommittee_55 : decode cX5_readsCommittee 55 = .ok (.ireturn, 1) := by decide +kernel
theorem dX5_readsCommittee_56 : decode cX5_readsCommittee 56 = .ok (.aload_n 0, 1) := by decide +kernel
theorem dX5_readsCommittee_57 : decode cX5_readsCommittee 57 = .ok (.bipush 101, 2) := by decide +kernel
theorem dX5_readsCommittee_59 : decode cX5_readsCommittee 59 = .ok (.invokevirtual 248, 3) := by decide +kernel
theorem dX5_readsCommittee_62 : decode cX5_readsCommittee 62 = .ok (.ifCond .eq 33, 3) := by decide +kernel
theorem dX5_readsCommittee_65 : decode cX5_readsCommittee 65 = .ok (.aload_n 0, 1) := by decide +kernel
theorem dX5_readsCommittee_66 : decode cX5_readsCommittee 66 = .ok (.bipush 101, 2) := by decide +kernel
theorem dX5_readsCommittee_68 : decode cX5_readsCommittee 68 = .ok (.invokevirtual 248, 3) := by decide +kernel
theorem dX5_readsCommittee_71 : decode cX5_readsCommittee 71 = .ok (.ifCond .eq 24, 3) := by decide +kernel
theorem dX5_readsCommittee_74 : decode cX5_readsCommittee 74 = .ok (.aload_n 0, 1) := by decide +kernel
theorem dX5_readsCommittee_75 : decode cX5_readsCommittee 75 = .ok (.bipush 32, 2) := by decide +kernel
theorem dX5_readsCommittee_77 : decode cX5_readsCommittee 77 = .ok (.invokevirtual 248, 3) := by decide +kernel
theorem dX5_readsCommittee_80 : decode cX5_readsCommittee 80 = .ok (.ifCond .eq 15, 3) := by decide +kernel
theorem dX5_readsCommittee_83 : decode cX5_readsCommittee 83 = .ok (.aload_n 0, 1) := by decide +kernel
theorem dX5_readsCommittee_84 : decode cX5_readsCommittee 84 = .ok (.iconst 0, 1) := by decide +kernel
theorem dX5_readsCommittee_85 : decode cX5_readsCommittee 85 = .ok (.invokevirtual 245, 3) := by decide +kernel
theorem dX5_readsCommittee_88 : decode cX5_readsCommittee 88 = .ok (.ifCond .eq 7, 3) := by decide +kernel
theorem dX5_readsCommittee_91 : decode cX5_readsCommittee 91 = .ok (.iconst 1, 1) := by decide +kernel
theorem dX5_readsCommittee_92 : decode cX5_readsCommittee 92 = .ok (.goto 4, 3) := by decide +kernel
theorem dX5_readsCommittee_95 : decode cX5_readsCommittee 95 = .ok (.iconst 0, 1) := by decide +kernel
theorem dX5_readsCommittee_96 : decode cX5_readsCommittee 96 = .ok (.ireturn, 1) := by decide +kernel
theorem dX5_readsP_0 : decode cX5_readsP 0 = .ok (.aload_n 0, 1) := by decide +kernel
theorem dX5_readsP_1 : decode cX5_readsP 1 = .ok (.bipush 97, 2) := by decide +kernel
theorem dX5_readsP_3 : decode cX5_readsP 3 = .ok (.invokevirtual 248, 3) := by decide +kernel
theorem dX5_readsP_6 : decode cX5_readsP 6 = .ok (.ifCond .ne 5, 3) := by decide +kernel
theorem dX5_readsP_9 : decode cX5_readsP 9 = .ok (.iconst 0, 1) := by decide +kernel
theorem dX5_readsP_10 : decode cX5_readsP 10 = .ok (.ireturn, 1) := by decide +kernel
theorem dX5_readsP_11 : decode cX5_readsP 11 = .ok (.aload_n 0, 1) := by decide +kernel
theorem dX5_readsP_12 : decode cX5_readsP 12 = .ok (.bipush 121, 2) := by decide +kernel
theorem dX5_readsP_14 : decode cX5_readsP 14 = .ok (.invokevirtual 248, 3) := by decide +kernel
theorem dX5_readsP_17 : decode cX5_readsP 17 = .ok (.ifCond .eq 43, 3) := by decide +kernel
theorem dX5_readsP_20 : decode cX5_readsP 20 = .ok (.aload_n 0, 1) := by decide +kernel
theorem dX5_readsP_21 : decode cX5_readsP 21 = .ok (.bipush 32, 2) := by decide +kernel
theorem dX5_readsP_23 : decode cX5_readsP 23 = .ok (.invokevirtual 248, 3) := by decide +kernel
theorem dX5_readsP_26 : decode cX5_readsP 26 = .ok (.ifCond .eq 32, 3) := by decide +kernel
theorem dX5_readsP_29 : decode cX5_readsP 29 = .ok (.aload_n 0, 1) := by decide +kernel
theorem dX5_readsP_30 : decode cX5_readsP 30 = .ok (.iconst 0, 1) := by decide +kernel
theorem dX5_readsP_31 : decode cX5_readsP 31 = .ok (.invokevirtual 245, 3) := by decide +kernel
theorem dX5_readsP_34 : decode cX5_readsP 34 = .ok (.ifCond .eq 24, 3) := by decide +kernel
theorem dX5_readsP_37 : decode cX5_readsP 37 = .ok (.aload_n 0, 1) := by decide +kernel
theorem dX5_readsP_38 : decode cX5_readsP 38 = .ok (.bipush 32, 2) := by decide +kernel
theorem dX5_readsP_40 : decode cX5_readsP 40 = .ok (.invokevirtual 248, 3) := by decide +kernel
theorem dX5_readsP_43 : decode cX5_readsP 43 = .ok (.ifCond .eq 15, 3) := by decide +kernel
theorem dX5_readsP_46 : decode cX5_readsP 46 = .ok (.aload_n 0, 1) := by decide +kernel
theorem dX5_readsP_47 : decode cX5_readsP 47 = .ok (.iconst 1, 1) := by decide +kernel
theorem dX5_readsP_48 : decode cX5_readsP 48 = .ok (.invokevirtual 251, 3) := by decide +kernel
theorem dX5_readsP_51 : decode cX5_readsP 51 = .ok (.ifCond .eq 7, 3) := by decide +kernel
theorem dX5_readsP_54 : decode cX5_readsP 54 = .ok (.iconst 1, 1) := by decide +kernel
theorem dX5_readsP_55 : decode cX5_readsP 55 = .ok (.goto 4, 3) := by decide +kernel
theorem dX5_readsP_58 : decode cX5_readsP 58 = .ok (.iconst 0, 1) := by decide +kernel
theorem dX5_readsP_59 : decode cX5_readsP 59 = .ok (.ireturn, 1) := by decide +kernel
theorem dX5_readsP_60 : decode cX5_readsP 60 = .ok (.aload_n 0, 1) := by decide +kernel
theorem dX5_readsP_61 : decode cX5_readsP 61 = .ok (.bipush 104, 2) := by decide +kernel
theorem dX5_readsP_63 : decode cX5_readsP 63 = .ok (.putfield 254, 3) := by decide +kernel
theorem dX5_readsP_66 : decode cX5_readsP 66 = .ok (.aload_n 0, 1) := by decide +kernel
theorem dX5_readsP_67 : decode cX5_readsP 67 = .ok (.bipush 115, 2) := by decide +kernel
theorem dX5_readsP_69 : decode cX5_readsP 69 = .ok (.invokevirtual 248, 3) := by decide +kernel
theorem dX5_readsP_72 : decode cX5_readsP 72 = .ok (.ifCond .eq 33, 3) := by decide +kernel
theorem dX5_readsP_75 : decode cX5_readsP 75 = .ok (.aload_n 0, 1) := by decide +kernel
theorem dX5_readsP_76 : decode cX5_readsP 76 = .ok (.bipush 115, 2) := by decide +kernel
theorem dX5_readsP_78 : decode cX5_readsP 78 = .ok (.invokevirtual 248, 3) := by decide +kernel
theorem dX5_readsP_81 : decode cX5_readsP 81 = .ok (.ifCond .eq 24, 3) := by decide +kernel
theorem dX5_readsP_84 : decode cX5_readsP 84 = .ok (.aload_n 0, 1) := by decide +kernel
theorem dX5_readsP_85 : decode cX5_readsP 85 = .ok (.bipush 32, 2) := by decide +kernel
theorem dX5_readsP_87 : decode cX5_readsP 87 = .ok (.invokevirtual 248, 3) := by decide +kernel
theorem dX5_readsP_90 : decode cX5_readsP 90 = .ok (.ifCond .eq 15, 3) := by decide +kernel
theorem dX5_readsP_93 : decode cX5_readsP 93 = .ok (.aload_n 0, 1) := by decide +kernel
theorem dX5_readsP_94 : decode cX5_readsP 94 = .ok (.iconst 0, 1) := by decide +kernel
theorem dX5_readsP_95 : decode cX5_readsP 95 = .ok (.invokevirtual 251, 3) := by decide +kernel
theorem dX5_readsP_98 : decode cX5_readsP 98 = .ok (.ifCond .eq 7, 3) := by decide +kernel
theorem dX5_readsP_101 : decode cX5_readsP 101 = .ok (.iconst 1, 1) := by decide +kernel
theorem dX5_readsP_102 : decode cX5_readsP 102 = .ok (.goto 4, 3) := by decide +kernel
theorem dX5_readsP_105 : decode cX5_readsP 105 = .ok (.iconst 0, 1) := by decide +kernel
theorem dX5_readsP_106 : decode cX5_readsP 106 = .ok (.ireturn, 1) := by decide +kernel
theorem dX5_readsR_0 : decode cX5_readsR 0 = .ok (.aload_n 0, 1) := by decide +kernel
theorem dX5_readsR_1 : decode cX5_readsR 1 = .ok (.bipush 101, 2) := by decide +kernel
theorem dX5_readsR_3 : decode cX5_readsR 3 = .ok (.invokevirtual 248, 3) := by decide +kernel
theorem dX5_readsR_6 : decode cX5_readsR 6 = .ok (.ifCond .ne 5, 3) := by decide +kernel
theorem dX5_readsR_9 : decode cX5_readsR 9 = .ok (.iconst 0, 1) := by decide +kernel
theorem dX5_readsR_10 : decode cX5_readsR 10 = .ok (.ireturn, 1) := by decide +kernel
theorem dX5_readsR_11 : decode cX5_readsR 11 = .ok (.aload_n 0, 1) := by decide +kernel
theorem dX5_readsR_12 : decode cX5_readsR 12 = .ok (.bipush 110, 2) := by decide +kernel
theorem dX5_readsR_14 : decode cX5_readsR 14 = .ok (.invokevirtual 248, 3) := by decide +kernel
theorem dX5_readsR_17 : decode cX5_readsR 17 = .ok (.ifCond .eq 43, 3) := by decide +kernel
theorem dX5_readsR_20 : decode cX5_readsR 20 = .ok (.aload_n 0, 1) := by decide +kernel
theorem dX5_readsR_21 : decode cX5_readsR 21 = .ok (.bipush 116, 2) := by decide +kernel
theorem dX5_readsR_23 : decode cX5_readsR 23 = .ok (.invokevirtual 248, 3) := by decide +kernel
theorem dX5_readsR_26 : decode cX5_readsR 26 = .ok (.ifCond .eq 32, 3) := by decide +kernel
theorem dX5_readsR_29 : decode cX5_readsR 29 = .ok (.aload_n 0, 1) := by decide +kernel
theorem dX5_readsR_30 : decode cX5_readsR 30 = .ok (.bipush 32, 2) := by decide +kernel
theorem dX5_readsR_32 : decode cX5_readsR 32 = .ok (.invokevirtual 248, 3) := by decide +kernel
theorem dX5_readsR_35 : decode cX5_readsR 35 = .ok (.ifCond .eq 23, 3) := by decide +kernel
theorem dX5_readsR_38 : decode cX5_readsR 38 = .ok (.aload_n 0, 1) := by decide +kernel
theorem dX5_readsR_39 : decode cX5_readsR 39 = .ok (.iconst 0, 1) := by decide +kernel
theorem dX5_readsR_40 : decode cX5_readsR 40 = .ok (.invokevirtual 245, 3) := by decide +kernel
theorem dX5_readsR_43 : decode cX5_readsR 43 = .ok (.ifCond .eq 15, 3) := by decide +kernel
theorem dX5_readsR_46 : decode cX5_readsR 46 = .ok (.aload_n 0, 1) := by decide +kernel
theorem dX5_readsR_47 : decode cX5_readsR 47 = .ok (.iconst 1, 1) := by decide +kernel
theorem dX5_readsR_48 : decode cX5_readsR 48 = .ok (.invokevirtual 245, 3) := by decide +kernel
theorem dX5_readsR_51 : decode cX5_readsR 51 = .ok (.ifCond .eq 7, 3) := by decide +kernel
theorem dX5_readsR_54 : decode cX5_readsR 54 = .ok (.iconst 1, 1) := by decide +kernel
theorem dX5_readsR_55 : decode cX5_readsR 55 = .ok (.goto 4, 3) := by decide +kernel
theorem dX5_readsR_58 : decode cX5_readsR 58 = .ok (.iconst 0, 1) := by decide +kernel
theorem dX5_readsR_59 : decode cX5_readsR 59 = .ok (.ireturn, 1) := by decide +kernel
theorem dX5_readsR_60 : decode cX5_readsR 60 = .ok (.aload_n 0, 1) := by decide +kernel
theorem dX5_readsR_61 : decode cX5_readsR 61 = .ok (.bipush 98, 2) := by decide +kernel
theorem dX5_readsR_63 : decode cX5_readsR 63 = .ok (.putfield 254, 3) := by decide +kernel
theorem dX5_readsR_66 : decode cX5_readsR 66 = .ok (.aload_n 0, 1) := by decide +kernel
theorem dX5_readsR_67 : decode cX5_readsR 67 = .ok (.bipush 116, 2) := by decide +kernel
theorem dX5_readsR_69 : decode cX5_readsR 69 = .ok (.invokevirtual 248, 3) := by decide +kernel
theorem dX5_readsR_72 : decode cX5_readsR 72 = .ok (.ifCond .eq 59, 3) := by decide +kernel
theorem dX5_readsR_75 : decode cX5_readsR 75 = .ok (.aload_n 0, 1) := by decide +kernel
theorem dX5_readsR_76 : decode cX5_readsR 76 = .ok (.bipush 117, 2) := by decide +kernel
theorem dX5_readsR_78 : decode cX5_readsR 78 = .ok (.invokevirtual 248, 3) := by decide +kernel
theorem dX5_readsR_81 : decode cX5_readsR 81 = .ok (.ifCond .eq 50, 3) := by decide +kernel
theorem dX5_readsR_84 : decode cX5_readsR 84 = .ok (.aload_n 0, 1) := by decide +kernel
theorem dX5_readsR_85 : decode cX5_readsR 85 = .ok (.bipush 114, 2) := by decide +kernel
theorem dX5_readsR_87 : decode cX5_readsR 87 = .ok (.invokevirtual 248, 3) := by decide +kernel
theorem dX5_readsR_90 : decode cX5_readsR 90 = .ok (.ifCond .eq 41, 3) := by decide +kernel
theorem dX5_readsR_93 : decode cX5_readsR 93 = .ok (.aload_n 0, 1) := by decide +kernel
theorem dX5_readsR_94 : decode cX5_readsR 94 = .ok (.bipush 110, 2) := by decide +kernel
theorem dX5_readsR_96 : decode cX5_readsR 96 = .ok (.invokevirtual 248, 3) := by decide +kernel
theorem dX5_readsR_99 : decode cX5_readsR 99 = .ok (.ifCond .eq 32, 3) := by decide +kernel
theorem dX5_readsR_102 : decode cX5_readsR 102 = .ok (.aload_n 0, 1) := by decide +kernel
theorem dX5_readsR_103 : decode cX5_readsR 103 = .ok (.bipush 32, 2) := by decide +kernel
theorem dX5_readsR_105 : decode cX5_readsR 105 = .ok (.invokevirtual 248, 3) := by decide +kernel
theorem dX5_readsR_108 : decode cX5_readsR 108 = .ok (.ifCond .eq 23, 3) := by decide +kernel
theorem dX5_readsR_111 : decode cX5_readsR 111 = .ok (.aload_n 0, 1) := by decide +kernel
theorem dX5_readsR_112 : decode cX5_readsR 112 = .ok (.iconst 0, 1) := by decide +kernel
theorem dX5_readsR_113 : decode cX5_readsR 113 = .ok (.invokevirtual 245, 3) := by decide +kernel
theorem dX5_readsR_116 : decode cX5_readsR 116 = .ok (.ifCond .eq 15, 3) := by decide +kernel
theorem dX5_readsR_119 : decode cX5_readsR 119 = .ok (.aload_n 0, 1) := by decide +kernel
theorem dX5_readsR_120 : decode cX5_readsR 120 = .ok (.iconst 1, 1) := by decide +kernel
theorem dX5_readsR_121 : decode cX5_readsR 121 = .ok (.invokevirtual 245, 3) := by decide +kernel
theorem dX5_readsR_124 : decode cX5_readsR 124 = .ok (.ifCond .eq 7, 3) := by decide +kernel
theorem dX5_readsR_127 : decode cX5_readsR 127 = .ok (.iconst 1, 1) := by decide +kernel
theorem dX5_readsR_128 : decode cX5_readsR 128 = .ok (.goto 4, 3) := by decide +kernel
theorem dX5_readsR_131 : decode cX5_readsR 131 = .ok (.iconst 0, 1) := by decide +kernel
theorem dX5_readsR_132 : decode cX5_readsR 132 = .ok (.ireturn, 1) := by decide +kernel
theorem dX5_readsG_0 : decode cX5_readsG 0 = .ok (.aload_n 0, 1) := by decide +kernel
theorem dX5_readsG_1 : decode cX5_readsG 1 = .ok (.bipush 114, 2) := by decide +kernel
theorem dX5_readsG_3 : decode cX5_readsG 3 = .ok (.invokevirtual 248, 3) := by decide +kernel
theorem dX5_readsG_6 : decode cX5_readsG 6 = .ok (.ifCond .eq 70, 3) := by decide +kernel
theorem dX5_readsG_9 : decode cX5_readsG 9 = .ok (.aload_n 0, 1) := by decide +kernel
theorem dX5_readsG_10 : decode cX5_readsG 10 = .ok (.bipush 111, 2) := by decide +kernel
theorem dX5_readsG_12 : decode cX5_readsG 12 = .ok (.invokevirtual 248, 3) := by decide +kernel
theorem dX5_readsG_15 : decode cX5_readsG 15 = .ok (.ifCond .eq 59, 3) := by decide +kernel
theorem dX5_readsG_18 : decode cX5_readsG 18 = .ok (.aload_n 0, 1) := by decide +kernel
theorem dX5_readsG_19 : decode cX5_readsG 19 = .ok (.bipush 117, 2) := by decide +kernel
theorem dX5_readsG_21 : decode cX5_readsG 21 = .ok (.invokevirtual 248, 3) := by decide +kernel
theorem dX5_readsG_24 : decode cX5_readsG 24 = .ok (.ifCond .eq 50, 3) := by decide +kernel
theorem dX5_readsG_27 : decode cX5_readsG 27 = .ok (.aload_n 0, 1) := by decide +kernel
theorem dX5_readsG_28 : decode cX5_readsG 28 = .ok (.bipush 110, 2) := by decide +kernel
theorem dX5_readsG_30 : decode cX5_readsG 30 = .ok (.invokevirtual 248, 3) := by decide +kernel
theorem dX5_readsG_33 : decode cX5_readsG 33 = .ok (.ifCond .eq 41, 3) := by decide +kernel
theorem dX5_readsG_36 : decode cX5_readsG 36 = .ok (.aload_n 0, 1) := by decide +kernel
theorem dX5_readsG_37 : decode cX5_readsG 37 = .ok (.bipush 100, 2) := by decide +kernel
theorem dX5_readsG_39 : decode cX5_readsG 39 = .ok (.invokevirtual 248, 3) := by decide +kernel
theorem dX5_readsG_42 : decode cX5_readsG 42 = .ok (.ifCond .eq 32, 3) := by decide +kernel
theorem dX5_readsG_45 : decode cX5_readsG 45 = .ok (.aload_n 0, 1) := by decide +kernel
theorem dX5_readsG_46 : decode cX5_readsG 46 = .ok (.bipush 32, 2) := by decide +kernel
theorem dX5_readsG_48 : decode cX5_readsG 48 = .ok (.invokevirtual 248, 3) := by decide +kernel
theorem dX5_readsG_51 : decode cX5_readsG 51 = .ok (.ifCond .eq 23, 3) := by decide +kernel
theorem dX5_readsG_54 : decode cX5_readsG 54 = .ok (.aload_n 0, 1) := by decide +kernel
theorem dX5_readsG_55 : decode cX5_readsG 55 = .ok (.iconst 0, 1) := by decide +kernel
theorem dX5_readsG_56 : decode cX5_readsG 56 = .ok (.invokevirtual 245, 3) := by decide +kernel
theorem dX5_readsG_59 : decode cX5_readsG 59 = .ok (.ifCond .eq 15, 3) := by decide +kernel
theorem dX5_readsG_62 : decode cX5_readsG 62 = .ok (.aload_n 0, 1) := by decide +kernel
theorem dX5_readsG_63 : decode cX5_readsG 63 = .ok (.iconst 1, 1) := by decide +kernel
theorem dX5_readsG_64 : decode cX5_readsG 64 = .ok (.invokevirtual 245, 3) := by decide +kernel
theorem dX5_readsG_67 : decode cX5_readsG 67 = .ok (.ifCond .eq 7, 3) := by decide +kernel
theorem dX5_readsG_70 : decode cX5_readsG 70 = .ok (.iconst 1, 1) := by decide +kernel
theorem dX5_readsG_71 : decode cX5_readsG 71 = .ok (.goto 4, 3) := by decide +kernel
theorem dX5_readsG_74 : decode cX5_readsG 74 = .ok (.iconst 0, 1) := by decide +kernel
theorem dX5_readsG_75 : decode cX5_readsG 75 = .ok (.ireturn, 1) := by decide +kernel
theorem dX5_readsG_76 : decode cX5_readsG 76 = .ok (.aload_n 0, 1) := by decide +kernel
theorem dX5_readsG_77 : decode cX5_readsG 77 = .ok (.bipush 117, 2) := by decide +kernel
theorem dX5_readsG_79 : decode cX5_readsG 79 = .ok (.putfield 254, 3) := by decide +kernel
theorem dX5_readsG_82 : decode cX5_readsG 82 = .ok (.aload_n 0, 1) := by decide +kernel
theorem dX5_readsG_83 : decode cX5_readsG 83 = .ok (.bipush 117, 2) := by decide +kernel
theorem dX5_readsG_85 : decode cX5_readsG 85 = .ok (.invokevirtual 248, 3) := by decide +kernel
theorem dX5_readsG_88 : decode cX5_readsG 88 = .ok (.ifCond .eq 42, 3) := by decide +kernel
theorem dX5_readsG_91 : decode cX5_readsG 91 = .ok (.aload_n 0, 1) := by decide +kernel
theorem dX5_readsG_92 : decode cX5_readsG 92 = .ok (.bipush 115, 2) := by decide +kernel
theorem dX5_readsG_94 : decode cX5_readsG 94 = .ok (.invokevirtual 248, 3) := by decide +kernel
theorem dX5_readsG_97 : decode cX5_readsG 97 = .ok (.ifCond .eq 33, 3) := by decide +kernel
theorem dX5_readsG_100 : decode cX5_readsG 100 = .ok (.aload_n 0, 1) := by decide +kernel
theorem dX5_readsG_101 : decode cX5_readsG 101 = .ok (.bipush 116, 2) := by decide +kernel
theorem dX5_readsG_103 : decode cX5_readsG 103 = .ok (.invokevirtual 248, 3) := by decide +kernel
theorem dX5_readsG_106 : decode cX5_readsG 106 = .ok (.ifCond .eq 24, 3) := by decide +kernel
theorem dX5_readsG_109 : decode cX5_readsG 109 = .ok (.aload_n 0, 1) := by decide +kernel
theorem dX5_readsG_110 : decode cX5_readsG 110 = .ok (.bipush 32, 2) := by decide +kernel
theorem dX5_readsG_112 : decode cX5_readsG 112 = .ok (.invokevirtual 248, 3) := by decide +kernel
theorem dX5_readsG_115 : decode cX5_readsG 115 = .ok (.ifCond .eq 15, 3) := by decide +kernel
theorem dX5_readsG_118 : decode cX5_readsG 118 = .ok (.aload_n 0, 1) := by decide +kernel
theorem dX5_readsG_119 : decode cX5_readsG 119 = .ok (.iconst 0, 1) := by decide +kernel
theorem dX5_readsG_120 : decode cX5_readsG 120 = .ok (.invokevirtual 251, 3) := by decide +kernel
theorem dX5_readsG_123 : decode cX5_readsG 123 = .ok (.ifCond .eq 7, 3) := by decide +kernel
theorem dX5_readsG_126 : decode cX5_readsG 126 = .ok (.iconst 1, 1) := by decide +kernel
theorem dX5_readsG_127 : decode cX5_readsG 127 = .ok (.goto 4, 3) := by decide +kernel
theorem dX5_readsG_130 : decode cX5_readsG 130 = .ok (.iconst 0, 1) := by decide +kernel
theorem dX5_readsG_131 : decode cX5_readsG 131 = .ok (.ireturn, 1) := by decide +kernel
theorem dX5_readsLaunch_0 : decode cX5_readsLaunch 0 = .ok (.aload_n 0, 1) := by decide +kernel
theorem dX5_readsLaunch_1 : decode cX5_readsLaunch 1 = .ok (.bipush 97, 2) := by decide +kernel
theorem dX5_readsLaunch_3 : decode cX5_readsLaunch 3 = .ok (.invokevirtual 248, 3) := by decide +kernel
theorem dX5_readsLaunch_6 : decode cX5_readsLaunch 6 = .ok (.ifCond .eq 60, 3) := by decide +kernel
theorem dX5_readsLaunch_9 : decode cX5_readsLaunch 9 = .ok (.aload_n 0, 1) := by decide +kernel
theorem dX5_readsLaunch_10 : decode cX5_readsLaunch 10 = .ok (.bipush 117, 2) := by decide +kernel
theorem dX5_readsLaunch_12 : decode cX5_readsLaunch 12 = .ok (.invokevirtual 248, 3) := by decide +kernel
theorem dX5_readsLaunch_15 : decode cX5_readsLaunch 15 = .ok (.ifCond .eq 51, 3) := by decide +kernel
theorem dX5_readsLaunch_18 : decode cX5_readsLaunch 18 = .ok (.aload_n 0, 1) := by decide +kernel
theorem dX5_readsLaunch_19 : decode cX5_readsLaunch 19 = .ok (.bipush 110, 2) := by decide +kernel
theorem dX5_readsLaunch_21 : decode cX5_readsLaunch 21 = .ok (.invokevirtual 248, 3) := by decide +kernel
theorem dX5_readsLaunch_24 : decode cX5_readsLaunch 24 = .ok (.ifCond .eq 42, 3) := by decide +kernel
theorem dX5_readsLaunch_27 : decode cX5_readsLaunch 27 = .ok (.aload_n 0, 1) := by decide +kernel
theorem dX5_readsLaunch_28 : decode cX5_readsLaunch 28 = .ok (.bipush 99, 2) := by decide +kernel
theorem dX5_readsLaunch_30 : decode cX5_readsLaunch 30 = .ok (.invokevirtual 248, 3) := by decide +kernel
theorem dX5_readsLaunch_33 : decode cX5_readsLaunch 33 = .ok (.ifCond .eq 33, 3) := by decide +kernel
theorem dX5_readsLaunch_36 : decode cX5_readsLaunch 36 = .ok (.aload_n 0, 1) := by decide +kernel
theorem dX5_readsLaunch_37 : decode cX5_readsLaunch 37 = .ok (.bipush 104, 2) := by decide +kernel
theorem dX5_readsLaunch_39 : decode cX5_readsLaunch 39 = .ok (.invokevirtual 248, 3) := by decide +kernel
theorem dX5_readsLaunch_42 : decode cX5_readsLaunch 42 = .ok (.ifCond .eq 24, 3) := by decide +kernel
theorem dX5_readsLaunch_45 : decode cX5_readsLaunch 45 = .ok (.aload_n 0, 1) := by decide +kernel
theorem dX5_readsLaunch_46 : decode cX5_readsLaunch 46 = .ok (.bipush 32, 2) := by decide +kernel
theorem dX5_readsLaunch_48 : decode cX5_readsLaunch 48 = .ok (.invokevirtual 248, 3) := by decide +kernel
theorem dX5_readsLaunch_51 : decode cX5_readsLaunch 51 = .ok (.ifCond .eq 15, 3) := by decide +kernel
theorem dX5_readsLaunch_54 : decode cX5_readsLaunch 54 = .ok (.aload_n 0, 1) := by decide +kernel
theorem dX5_readsLaunch_55 : decode cX5_readsLaunch 55 = .ok (.iconst 0, 1) := by decide +kernel
theorem dX5_readsLaunch_56 : decode cX5_readsLaunch 56 = .ok (.invokevirtual 245, 3) := by decide +kernel
theorem dX5_readsLaunch_59 : decode cX5_readsLaunch 59 = .ok (.ifCond .eq 7, 3) := by decide +kernel
theorem dX5_readsLaunch_62 : decode cX5_readsLaunch 62 = .ok (.iconst 1, 1) := by decide +kernel
theorem dX5_readsLaunch_63 : decode cX5_readsLaunch 63 = .ok (.goto 4, 3) := by decide +kernel
theorem dX5_readsLaunch_66 : decode cX5_readsLaunch 66 = .ok (.iconst 0, 1) := by decide +kernel
theorem dX5_readsLaunch_67 : decode cX5_readsLaunch 67 = .ok (.ireturn, 1) := by decide +kernel
theorem dX5_readsSecond_0 : decode cX5_readsSecond 0 = .ok (.aload_n 0, 1) := by decide +kernel
theorem dX5_readsSecond_1 : decode cX5_readsSecond 1 = .ok (.bipush 101, 2) := by decide +kernel
theorem dX5_readsSecond_3 : decode cX5_readsSecond 3 = .ok (.invokevirtual 248, 3) := by decide +kernel
theorem dX5_readsSecond_6 : decode cX5_readsSecond 6 = .ok (.ifCond .eq 48, 3) := by decide +kernel
theorem dX5_readsSecond_9 : decode cX5_readsSecond 9 = .ok (.aload_n 0, 1) := by decide +kernel
theorem dX5_readsSecond_10 : decode cX5_readsSecond 10 = .ok (.bipush 99, 2) := by decide +kernel
theorem dX5_readsSecond_12 : decode cX5_readsSecond 12 = .ok (.invokevirtual 248, 3) := by decide +kernel
theorem dX5_readsSecond_15 : decode cX5_readsSecond 15 = .ok (.ifCond .eq 39, 3) := by decide +kernel
theorem dX5_readsSecond_18 : decode cX5_readsSecond 18 = .ok (.aload_n 0, 1) := by decide +kernel
theorem dX5_readsSecond_19 : decode cX5_readsSecond 19 = .ok (.bipush 111, 2) := by decide +kernel
theorem dX5_readsSecond_21 : decode cX5_readsSecond 21 = .ok (.invokevirtual 248, 3) := by decide +kernel
theorem dX5_readsSecond_24 : decode cX5_readsSecond 24 = .ok (.ifCond .eq 30, 3) := by decide +kernel
theorem dX5_readsSecond_27 : decode cX5_readsSecond 27 = .ok (.aload_n 0, 1) := by decide +kernel
theorem dX5_readsSecond_28 : decode cX5_readsSecond 28 = .ok (.bipush 110, 2) := by decide +kernel
theorem dX5_readsSecond_30 : decode cX5_readsSecond 30 = .ok (.invokevirtual 248, 3) := by decide +kernel
theorem dX5_readsSecond_33 : decode cX5_readsSecond 33 = .ok (.ifCond .eq 21, 3) := by decide +kernel
theorem dX5_readsSecond_36 : decode cX5_readsSecond 36 = .ok (.aload_n 0, 1) := by decide +kernel
theorem dX5_readsSecond_37 : decode cX5_readsSecond 37 = .ok (.bipush 100, 2) := by decide +kernel
theorem dX5_readsSecond_39 : decode cX5_readsSecond 39 = .ok (.invokevirtual 248, 3) := by decide +kernel
theorem dX5_readsSecond_42 : decode cX5_readsSecond 42 = .ok (.ifCond .eq 12, 3) := by decide +kernel
theorem dX5_readsSecond_45 : decode cX5_readsSecond 45 = .ok (.aload_n 0, 1) := by decide +kernel
theorem dX5_readsSecond_46 : decode cX5_readsSecond 46 = .ok (.bipush 32, 2) := by decide +kernel
theorem dX5_readsSecond_48 : decode cX5_readsSecond 48 = .ok (.invokevirtual 248, 3) := by decide +kernel
theorem dX5_readsSecond_51 : decode cX5_readsSecond 51 = .ok (.ifCond .ne 5, 3) := by decide +kernel
theorem dX5_readsSecond_54 : decode cX5_readsSecond 54 = .ok (.iconst 0, 1) := by decide +kernel
theorem dX5_readsSecond_55 : decode cX5_readsSecond 55 = .ok (.ireturn, 1) := by decide +kernel
theorem dX5_readsSecond_56 : decode cX5_readsSecond 56 = .ok (.aload_n 0, 1) := by decide +kernel
theorem dX5_readsSecond_57 : decode cX5_readsSecond 57 = .ok (.iconst 0, 1) := by decide +kernel
theorem dX5_readsSecond_58 : decode cX5_readsSecond 58 = .ok (.invokevirtual 245, 3) := by decide +kernel
theorem dX5_readsSecond_61 : decode cX5_readsSecond 61 = .ok (.ifCond .eq 24, 3) := by decide +kernel
theorem dX5_readsSecond_64 : decode cX5_readsSecond 64 = .ok (.aload_n 0, 1) := by decide +kernel
theorem dX5_readsSecond_65 : decode cX5_readsSecond 65 = .ok (.bipush 32, 2) := by decide +kernel
theorem dX5_readsSecond_67 : decode cX5_readsSecond 67 = .ok (.invokevirtual 248, 3) := by decide +kernel
theorem dX5_readsSecond_70 : decode cX5_readsSecond 70 = .ok (.ifCond .eq 15, 3) := by decide +kernel
theorem dX5_readsSecond_73 : decode cX5_readsSecond 73 = .ok (.aload_n 0, 1) := by decide +kernel
theorem dX5_readsSecond_74 : decode cX5_readsSecond 74 = .ok (.iconst 1, 1) := by decide +kernel
theorem dX5_readsSecond_75 : decode cX5_readsSecond 75 = .ok (.invokevirtual 251, 3) := by decide +kernel
theorem dX5_readsSecond_78 : decode cX5_readsSecond 78 = .ok (.ifCond .eq 7, 3) := by decide +kernel
theorem dX5_readsSecond_81 : decode cX5_readsSecond 81 = .ok (.iconst 1, 1) := by decide +kernel
theorem dX5_readsSecond_82 : decode cX5_readsSecond 82 = .ok (.goto 4, 3) := by decide +kernel
theorem dX5_readsSecond_85 : decode cX5_readsSecond 85 = .ok (.iconst 0, 1) := by decide +kernel
theorem dX5_readsSecond_86 : decode cX5_readsSecond 86 = .ok (.ireturn, 1) := by decide +kernel
theorem dX5_readsUntable_0 : decode cX5_readsUntable 0 = .ok (.aload_n 0, 1) := by decide +kernel
theorem dX5_readsUntable_1 : decode cX5_readsUntable 1 = .ok (.bipush 110, 2) := by decide +kernel
theorem dX5_readsUntable_3 : decode cX5_readsUntable 3 = .ok (.putfield 254, 3) := by decide +kernel
theorem dX5_readsUntable_6 : decode cX5_readsUntable 6 = .ok (.aload_n 0, 1) := by decide +kernel
theorem dX5_readsUntable_7 : decode cX5_readsUntable 7 = .ok (.bipush 110, 2) := by decide +kernel
theorem dX5_readsUntable_9 : decode cX5_readsUntable 9 = .ok (.invokevirtual 248, 3) := by decide +kernel
theorem dX5_readsUntable_12 : decode cX5_readsUntable 12 = .ok (.ifCond .eq 48, 3) := by decide +kernel
theorem dX5_readsUntable_15 : decode cX5_readsUntable 15 = .ok (.aload_n 0, 1) := by decide +kernel
theorem dX5_readsUntable_16 : decode cX5_readsUntable 16 = .ok (.bipush 116, 2) := by decide +kernel
theorem dX5_readsUntable_18 : decode cX5_readsUntable 18 = .ok (.invokevirtual 248, 3) := by decide +kernel
theorem dX5_readsUntable_21 : decode cX5_readsUntable 21 = .ok (.ifCond .eq 39, 3) := by decide +kernel
theorem dX5_readsUntable_24 : decode cX5_readsUntable 24 = .ok (.aload_n 0, 1) := by decide +kernel
theorem dX5_readsUntable_25 : decode cX5_readsUntable 25 = .ok (.bipush 97, 2) := by decide +kernel
theorem dX5_readsUntable_27 : decode cX5_readsUntable 27 = .ok (.invokevirtual 248, 3) := by decide +kernel
theorem dX5_readsUntable_30 : decode cX5_readsUntable 30 = .ok (.ifCond .eq 30, 3) := by decide +kernel
theorem dX5_readsUntable_33 : decode cX5_readsUntable 33 = .ok (.aload_n 0, 1) := by decide +kernel
theorem dX5_readsUntable_34 : decode cX5_readsUntable 34 = .ok (.bipush 98, 2) := by decide +kernel
theorem dX5_readsUntable_36 : decode cX5_readsUntable 36 = .ok (.invokevirtual 248, 3) := by decide +kernel
theorem dX5_readsUntable_39 : decode cX5_readsUntable 39 = .ok (.ifCond .eq 21, 3) := by decide +kernel
theorem dX5_readsUntable_42 : decode cX5_readsUntable 42 = .ok (.aload_n 0, 1) := by decide +kernel
theorem dX5_readsUntable_43 : decode cX5_readsUntable 43 = .ok (.bipush 108, 2) := by decide +kernel
theorem dX5_readsUntable_45 : decode cX5_readsUntable 45 = .ok (.invokevirtual 248, 3) := by decide +kernel
theorem dX5_readsUntable_48 : decode cX5_readsUntable 48 = .ok (.ifCond .eq 12, 3) := by decide +kernel
theorem dX5_readsUntable_51 : decode cX5_readsUntable 51 = .ok (.aload_n 0, 1) := by decide +kernel
theorem dX5_readsUntable_52 : decode cX5_readsUntable 52 = .ok (.bipush 101, 2) := by decide +kernel
theorem dX5_readsUntable_54 : decode cX5_readsUntable 54 = .ok (.invokevirtual 248, 3) := by decide +kernel
theorem dX5_readsUntable_57 : decode cX5_readsUntable 57 = .ok (.ifCond .ne 5, 3) := by decide +kernel
theorem dX5_readsUntable_60 : decode cX5_readsUntable 60 = .ok (.iconst 0, 1) := by decide +kernel
theorem dX5_readsUntable_61 : decode cX5_readsUntable 61 = .ok (.ireturn, 1) := by decide +kernel
theorem dX5_readsUntable_62 : decode cX5_readsUntable 62 = .ok (.aload_n 0, 1) := by decide +kernel
theorem dX5_readsUntable_63 : decode cX5_readsUntable 63 = .ok (.bipush 32, 2) := by decide +kernel
theorem dX5_readsUntable_65 : decode cX5_readsUntable 65 = .ok (.invokevirtual 248, 3) := by decide +kernel
theorem dX5_readsUntable_68 : decode cX5_readsUntable 68 = .ok (.ifCond .eq 15, 3) := by decide +kernel
theorem dX5_readsUntable_71 : decode cX5_readsUntable 71 = .ok (.aload_n 0, 1) := by decide +kernel
theorem dX5_readsUntable_72 : decode cX5_readsUntable 72 = .ok (.iconst 0, 1) := by decide +kernel
theorem dX5_readsUntable_73 : decode cX5_readsUntable 73 = .ok (.invokevirtual 251, 3) := by decide +kernel
theorem dX5_readsUntable_76 : decode cX5_readsUntable 76 = .ok (.ifCond .eq 7, 3) := by decide +kernel
theorem dX5_readsUntable_79 : decode cX5_readsUntable 79 = .ok (.iconst 1, 1) := by decide +kernel
theorem dX5_readsUntable_80 : decode cX5_readsUntable 80 = .ok (.goto 4, 3) := by decide +kernel
theorem dX5_readsUntable_83 : decode cX5_readsUntable 83 = .ok (.iconst 0, 1) := by decide +kernel
theorem dX5_readsUntable_84 : decode cX5_readsUntable 84 = .ok (.ireturn, 1) := by decide +kernel
theorem dX5_readsWithdraw_0 : decode cX5_readsWithdraw 0 = .ok (.aload_n 0, 1) := by decide +kernel
theorem dX5_readsWithdraw_1 : decode cX5_readsWithdraw 1 = .ok (.bipush 105, 2) := by decide +kernel
theorem dX5_readsWithdraw_3 : decode cX5_readsWithdraw 3 = .ok (.invokevirtual 248, 3) := by decide +kernel
theorem dX5_readsWithdraw_6 : decode cX5_readsWithdraw 6 = .ok (.ifCond .eq 48, 3) := by decide +kernel
theorem dX5_readsWithdraw_9 : decode cX5_readsWithdraw 9 = .ok (.aload_n 0, 1) := by decide +kernel
theorem dX5_readsWithdraw_10 : decode cX5_readsWithdraw 10 = .ok (.bipush 116, 2) := by decide +kernel
theorem dX5_readsWithdraw_12 : decode cX5_readsWithdraw 12 = .ok (.invokevirtual 248, 3) := by decide +kernel
theorem dX5_readsWithdraw_15 : decode cX5_readsWithdraw 15 = .ok (.ifCond .eq 39, 3) := by decide +kernel
theorem dX5_readsWithdraw_18 : decode cX5_readsWithdraw 18 = .ok (.aload_n 0, 1) := by decide +kernel
theorem dX5_readsWithdraw_19 : decode cX5_readsWithdraw 19 = .ok (.bipush 104, 2) := by decide +kernel
theorem dX5_readsWithdraw_21 : decode cX5_readsWithdraw 21 = .ok (.invokevirtual 248, 3) := by decide +kernel
theorem dX5_readsWithdraw_24 : decode cX5_readsWithdraw 24 = .ok (.ifCond .eq 30, 3) := by decide +kernel
theorem dX5_readsWithdraw_27 : decode cX5_readsWithdraw 27 = .ok (.aload_n 0, 1) := by decide +kernel
theorem dX5_readsWithdraw_28 : decode cX5_readsWithdraw 28 = .ok (.bipush 100, 2) := by decide +kernel
theorem dX5_readsWithdraw_30 : decode cX5_readsWithdraw 30 = .ok (.invokevirtual 248, 3) := by decide +kernel
theorem dX5_readsWithdraw_33 : decode cX5_readsWithdraw 33 = .ok (.ifCond .eq 21, 3) := by decide +kernel
theorem dX5_readsWithdraw_36 : decode cX5_readsWithdraw 36 = .ok (.aload_n 0, 1) := by decide +kernel
theorem dX5_readsWithdraw_37 : decode cX5_readsWithdraw 37 = .ok (.bipush 114, 2) := by decide +kernel
theorem dX5_readsWithdraw_39 : decode cX5_readsWithdraw 39 = .ok (.invokevirtual 248, 3) := by decide +kernel
theorem dX5_readsWithdraw_42 : decode cX5_readsWithdraw 42 = .ok (.ifCond .eq 12, 3) := by decide +kernel
theorem dX5_readsWithdraw_45 : decode cX5_readsWithdraw 45 = .ok (.aload_n 0, 1) := by decide +kernel
theorem dX5_readsWithdraw_46 : decode cX5_readsWithdraw 46 = .ok (.bipush 97, 2) := by decide +kernel
theorem dX5_readsWithdraw_48 : decode cX5_readsWithdraw 48 = .ok (.invokevirtual 248, 3) := by decide +kernel
theorem dX5_readsWithdraw_51 : decode cX5_readsWithdraw 51 = .ok (.ifCond .ne 5, 3) := by decide +kernel
theorem dX5_readsWithdraw_54 : decode cX5_readsWithdraw 54 = .ok (.iconst 0, 1) := by decide +kernel
theorem dX5_readsWithdraw_55 : decode cX5_readsWithdraw 55 = .ok (.ireturn, 1) := by decide +kernel
theorem dX5_readsWithdraw_56 : decode cX5_readsWithdraw 56 = .ok (.aload_n 0, 1) := by decide +kernel
theorem dX5_readsWithdraw_57 : decode cX5_readsWithdraw 57 = .ok (.bipush 119, 2) := by decide +kernel
theorem dX5_readsWithdraw_59 : decode cX5_readsWithdraw 59 = .ok (.invokevirtual 248, 3) := by decide +kernel
theorem dX5_readsWithdraw_62 : decode cX5_readsWithdraw 62 = .ok (.ifCond .eq 24, 3) := by decide +kernel
theorem dX5_readsWithdraw_65 : decode cX5_readsWithdraw 65 = .ok (.aload_n 0, 1) := by decide +kernel
theorem dX5_readsWithdraw_66 : decode cX5_readsWithdraw 66 = .ok (.bipush 32, 2) := by decide +kernel
theorem dX5_readsWithdraw_68 : decode cX5_readsWithdraw 68 = .ok (.invokevirtual 248, 3) := by decide +kernel
theorem dX5_readsWithdraw_71 : decode cX5_readsWithdraw 71 = .ok (.ifCond .eq 15, 3) := by decide +kernel
theorem dX5_readsWithdraw_74 : decode cX5_readsWithdraw 74 = .ok (.aload_n 0, 1) := by decide +kernel
theorem dX5_readsWithdraw_75 : decode cX5_readsWithdraw 75 = .ok (.iconst 0, 1) := by decide +kernel
theorem dX5_readsWithdraw_76 : decode cX5_readsWithdraw 76 = .ok (.invokevirtual 251, 3) := by decide +kernel
theorem dX5_readsWithdraw_79 : decode cX5_readsWithdraw 79 = .ok (.ifCond .eq 7, 3) := by decide +kernel
theorem dX5_readsWithdraw_82 : decode cX5_readsWithdraw 82 = .ok (.iconst 1, 1) := by decide +kernel
theorem dX5_readsWithdraw_83 : decode cX5_readsWithdraw 83 = .ok (.goto 4, 3) := by decide +kernel
theorem dX5_readsWithdraw_86 : decode cX5_readsWithdraw 86 = .ok (.iconst 0, 1) := by decide +kernel
theorem dX5_readsWithdraw_87 : decode cX5_readsWithdraw 87 = .ok (.ireturn, 1) := by decide +kernel
theorem dX5_readsCommand_0 : decode cX5_readsCommand 0 = .ok (.aload_n 0, 1) := by decide +kernel
theorem dX5_readsCommand_1 : decode cX5_readsCommand 1 = .ok (.aload_n 0, 1) := by decide +kernel
theorem dX5_readsCommand_2 : decode cX5_readsCommand 2 = .ok (.invokevirtual 238, 3) := by decide +kernel
theorem dX5_readsCommand_5 : decode cX5_readsCommand 5 = .ok (.putfield 254, 3) := by decide +kernel
theorem dX5_readsCommand_8 : decode cX5_readsCommand 8 = .ok (.aload_n 0, 1) := by decide +kernel
theorem dX5_readsCommand_9 : decode cX5_readsCommand 9 = .ok (.bipush 99, 2) := by decide +kernel
theorem dX5_readsCommand_11 : decode cX5_readsCommand 11 = .ok (.invokevirtual 248, 3) := by decide +kernel
theorem dX5_readsCommand_14 : decode cX5_readsCommand 14 = .ok (.ifCond .eq 8, 3) := by decide +kernel
theorem dX5_readsCommand_17 : decode cX5_readsCommand 17 = .ok (.aload_n 0, 1) := by decide +kernel
theorem dX5_readsCommand_18 : decode cX5_readsCommand 18 = .ok (.invokevirtual 257, 3) := by decide +kernel
theorem dX5_readsCommand_21 : decode cX5_readsCommand 21 = .ok (.ireturn, 1) := by decide +kernel
theorem dX5_readsCommand_22 : decode cX5_readsCommand 22 = .ok (.aload_n 0, 1) := by decide +kernel
theorem dX5_readsCommand_23 : decode cX5_readsCommand 23 = .ok (.bipush 116, 2) := by decide +kernel
theorem dX5_readsCommand_25 : decode cX5_readsCommand 25 = .ok (.invokevirtual 248, 3) := by decide +kernel
theorem dX5_readsCommand_28 : decode cX5_readsCommand 28 = .ok (.ifCond .eq 53, 3) := by decide +kernel
theorem dX5_readsCommand_31 : decode cX5_readsCommand 31 = .ok (.aload_n 0, 1) := by decide +kernel
theorem dX5_readsCommand_32 : decode cX5_readsCommand 32 = .ok (.bipush 97, 2) := by decide +kernel
theorem dX5_readsCommand_34 : decode cX5_readsCommand 34 = .ok (.invokevirtual 248, 3) := by decide +kernel
theorem dX5_readsCommand_37 : decode cX5_readsCommand 37 = .ok (.ifCond .eq 42, 3) := by decide +kernel
theorem dX5_readsCommand_40 : decode cX5_readsCommand 40 = .ok (.aload_n 0, 1) := by decide +kernel
theorem dX5_readsCommand_41 : decode cX5_readsCommand 41 = .ok (.bipush 105, 2) := by decide +kernel
theorem dX5_readsCommand_43 : decode cX5_readsCommand 43 = .ok (.invokevirtual 248, 3) := by decide +kernel
theorem dX5_readsCommand_46 : decode cX5_readsCommand 46 = .ok (.ifCond .eq 33, 3) := by decide +kernel
theorem dX5_readsCommand_49 : decode cX5_readsCommand 49 = .ok (.aload_n 0, 1) := by decide +kernel
theorem dX5_readsCommand_50 : decode cX5_readsCommand 50 = .ok (.bipush 108, 2) := by decide +kernel
theorem dX5_readsCommand_52 : decode cX5_readsCommand 52 = .ok (.invokevirtual 248, 3) := by decide +kernel
theorem dX5_readsCommand_55 : decode cX5_readsCommand 55 = .ok (.ifCond .eq 24, 3) := by decide +kernel
theorem dX5_readsCommand_58 : decode cX5_readsCommand 58 = .ok (.aload_n 0, 1) := by decide +kernel
theorem dX5_readsCommand_59 : decode cX5_readsCommand 59 = .ok (.bipush 32, 2) := by decide +kernel
theorem dX5_readsCommand_61 : decode cX5_readsCommand 61 = .ok (.invokevirtual 248, 3) := by decide +kernel
theorem dX5_readsCommand_64 : decode cX5_readsCommand 64 = .ok (.ifCond .eq 15, 3) := by decide +kernel
theorem dX5_readsCommand_67 : decode cX5_readsCommand 67 = .ok (.aload_n 0, 1) := by decide +kernel
theorem dX5_readsCommand_68 : decode cX5_readsCommand 68 = .ok (.iconst 0, 1) := by decide +kernel
theorem dX5_readsCommand_69 : decode cX5_readsCommand 69 = .ok (.invokevirtual 245, 3) := by decide +kernel
theorem dX5_readsCommand_72 : decode cX5_readsCommand 72 = .ok (.ifCond .eq 7, 3) := by decide +kernel
theorem dX5_readsCommand_75 : decode cX5_readsCommand 75 = .ok (.iconst 1, 1) := by decide +kernel
theorem dX5_readsCommand_76 : decode cX5_readsCommand 76 = .ok (.goto 4, 3) := by decide +kernel
theorem dX5_readsCommand_79 : decode cX5_readsCommand 79 = .ok (.iconst 0, 1) := by decide +kernel
theorem dX5_readsCommand_80 : decode cX5_readsCommand 80 = .ok (.ireturn, 1) := by decide +kernel
theorem dX5_readsCommand_81 : decode cX5_readsCommand 81 = .ok (.aload_n 0, 1) := by decide +kernel
theorem dX5_readsCommand_82 : decode cX5_readsCommand 82 = .ok (.bipush 112, 2) := by decide +kernel
theorem dX5_readsCommand_84 : decode cX5_readsCommand 84 = .ok (.invokevirtual 248, 3) := by decide +kernel
theorem dX5_readsCommand_87 : decode cX5_readsCommand 87 = .ok (.ifCond .eq 8, 3) := by decide +kernel
theorem dX5_readsCommand_90 : decode cX5_readsCommand 90 = .ok (.aload_n 0, 1) := by decide +kernel
theorem dX5_readsCommand_91 : decode cX5_readsCommand 91 = .ok (.invokevirtual 260, 3) := by decide +kernel
theorem dX5_readsCommand_94 : decode cX5_readsCommand 94 = .ok (.ireturn, 1) := by decide +kernel
theorem dX5_readsCommand_95 : decode cX5_readsCommand 95 = .ok (.aload_n 0, 1) := by decide +kernel
theorem dX5_readsCommand_96 : decode cX5_readsCommand 96 = .ok (.bipush 108, 2) := by decide +kernel
theorem dX5_readsCommand_98 : decode cX5_readsCommand 98 = .ok (.invokevirtual 248, 3) := by decide +kernel
theorem dX5_readsCommand_101 : decode cX5_readsCommand 101 = .ok (.ifCond .eq 8, 3) := by decide +kernel
theorem dX5_readsCommand_104 : decode cX5_readsCommand 104 = .ok (.aload_n 0, 1) := by decide +kernel
theorem dX5_readsCommand_105 : decode cX5_readsCommand 105 = .ok (.invokevirtual 263, 3) := by decide +kernel
theorem dX5_readsCommand_108 : decode cX5_readsCommand 108 = .ok (.ireturn, 1) := by decide +kernel
theorem dX5_readsCommand_109 : decode cX5_readsCommand 109 = .ok (.aload_n 0, 1) := by decide +kernel
theorem dX5_readsCommand_110 : decode cX5_readsCommand 110 = .ok (.bipush 114, 2) := by decide +kernel
theorem dX5_readsCommand_112 : decode cX5_readsCommand 112 = .ok (.invokevirtual 248, 3) := by decide +kernel
theorem dX5_readsCommand_115 : decode cX5_readsCommand 115 = .ok (.ifCond .eq 8, 3) := by decide +kernel
theorem dX5_readsCommand_118 : decode cX5_readsCommand 118 = .ok (.aload_n 0, 1) := by decide +kernel
theorem dX5_readsCommand_119 : decode cX5_readsCommand 119 = .ok (.invokevirtual 266, 3) := by decide +kernel
theorem dX5_readsCommand_122 : decode cX5_readsCommand 122 = .ok (.ireturn, 1) := by decide +kernel
theorem dX5_readsCommand_123 : decode cX5_readsCommand 123 = .ok (.aload_n 0, 1) := by decide +kernel
theorem dX5_readsCommand_124 : decode cX5_readsCommand 124 = .ok (.bipush 103, 2) := by decide +kernel
theorem dX5_readsCommand_126 : decode cX5_readsCommand 126 = .ok (.invokevirtual 248, 3) := by decide +kernel
theorem dX5_readsCommand_129 : decode cX5_readsCommand 129 = .ok (.ifCond .eq 8, 3) := by decide +kernel
theorem dX5_readsCommand_132 : decode cX5_readsCommand 132 = .ok (.aload_n 0, 1) := by decide +kernel
theorem dX5_readsCommand_133 : decode cX5_readsCommand 133 = .ok (.invokevirtual 269, 3) := by decide +kernel
theorem dX5_readsCommand_136 : decode cX5_readsCommand 136 = .ok (.ireturn, 1) := by decide +kernel
theorem dX5_readsCommand_137 : decode cX5_readsCommand 137 = .ok (.aload_n 0, 1) := by decide +kernel
theorem dX5_readsCommand_138 : decode cX5_readsCommand 138 = .ok (.bipush 115, 2) := by decide +kernel
theorem dX5_readsCommand_140 : decode cX5_readsCommand 140 = .ok (.invokevirtual 248, 3) := by decide +kernel
theorem dX5_readsCommand_143 : decode cX5_readsCommand 143 = .ok (.ifCond .eq 8, 3) := by decide +kernel
theorem dX5_readsCommand_146 : decode cX5_readsCommand 146 = .ok (.aload_n 0, 1) := by decide +kernel
theorem dX5_readsCommand_147 : decode cX5_readsCommand 147 = .ok (.invokevirtual 272, 3) := by decide +kernel
theorem dX5_readsCommand_150 : decode cX5_readsCommand 150 = .ok (.ireturn, 1) := by decide +kernel
theorem dX5_readsCommand_151 : decode cX5_readsCommand 151 = .ok (.aload_n 0, 1) := by decide +kernel
theorem dX5_readsCommand_152 : decode cX5_readsCommand 152 = .ok (.bipush 117, 2) := by decide +kernel
theorem dX5_readsCommand_154 : decode cX5_readsCommand 154 = .ok (.invokevirtual 248, 3) := by decide +kernel
theorem dX5_readsCommand_157 : decode cX5_readsCommand 157 = .ok (.ifCond .eq 8, 3) := by decide +kernel
theorem dX5_readsCommand_160 : decode cX5_readsCommand 160 = .ok (.aload_n 0, 1) := by decide +kernel
theorem dX5_readsCommand_161 : decode cX5_readsCommand 161 = .ok (.invokevirtual 275, 3) := by decide +kernel
theorem dX5_readsCommand_164 : decode cX5_readsCommand 164 = .ok (.ireturn, 1) := by decide +kernel
theorem dX5_readsCommand_165 : decode cX5_readsCommand 165 = .ok (.aload_n 0, 1) := by decide +kernel
theorem dX5_readsCommand_166 : decode cX5_readsCommand 166 = .ok (.bipush 119, 2) := by decide +kernel
theorem dX5_readsCommand_168 : decode cX5_readsCommand 168 = .ok (.invokevirtual 248, 3) := by decide +kernel
theorem dX5_readsCommand_171 : decode cX5_readsCommand 171 = .ok (.ifCond .eq 8, 3) := by decide +kernel
theorem dX5_readsCommand_174 : decode cX5_readsCommand 174 = .ok (.aload_n 0, 1) := by decide +kernel
theorem dX5_readsCommand_175 : decode cX5_readsCommand 175 = .ok (.invokevirtual 278, 3) := by decide +kernel
theorem dX5_readsCommand_178 : decode cX5_readsCommand 178 = .ok (.ireturn, 1) := by decide +kernel
theorem dX5_readsCommand_179 : decode cX5_readsCommand 179 = .ok (.aload_n 0, 1) := by decide +kernel
theorem dX5_readsCommand_180 : decode cX5_readsCommand 180 = .ok (.bipush 118, 2) := by decide +kernel
theorem dX5_readsCommand_182 : decode cX5_readsCommand 182 = .ok (.invokevirtual 248, 3) := by decide +kernel
theorem dX5_readsCommand_185 : decode cX5_readsCommand 185 = .ok (.ifCond .eq 51, 3) := by decide +kernel
theorem dX5_readsCommand_188 : decode cX5_readsCommand 188 = .ok (.aload_n 0, 1) := by decide +kernel
theorem dX5_readsCommand_189 : decode cX5_readsCommand 189 = .ok (.bipush 111, 2) := by decide +kernel
theorem dX5_readsCommand_191 : decode cX5_readsCommand 191 = .ok (.invokevirtual 248, 3) := by decide +kernel
theorem dX5_readsCommand_194 : decode cX5_readsCommand 194 = .ok (.ifCond .eq 42, 3) := by decide +kernel
theorem dX5_readsCommand_197 : decode cX5_readsCommand 197 = .ok (.aload_n 0, 1) := by decide +kernel
theorem dX5_readsCommand_198 : decode cX5_readsCommand 198 = .ok (.bipush 116, 2) := by decide +kernel
theorem dX5_readsCommand_200 : decode cX5_readsCommand 200 = .ok (.invokevirtual 248, 3) := by decide +kernel
theorem dX5_readsCommand_203 : decode cX5_readsCommand 203 = .ok (.ifCond .eq 33, 3) := by decide +kernel
theorem dX5_readsCommand_206 : decode cX5_readsCommand 206 = .ok (.aload_n 0, 1) := by decide +kernel
theorem dX5_readsCommand_207 : decode cX5_readsCommand 207 = .ok (.bipush 101, 2) := by decide +kernel
theorem dX5_readsCommand_209 : decode cX5_readsCommand 209 = .ok (.invokevirtual 248, 3) := by decide +kernel
theorem dX5_readsCommand_212 : decode cX5_readsCommand 212 = .ok (.ifCond .eq 24, 3) := by decide +kernel
theorem dX5_readsCommand_215 : decode cX5_readsCommand 215 = .ok (.aload_n 0, 1) := by decide +kernel
theorem dX5_readsCommand_216 : decode cX5_readsCommand 216 = .ok (.bipush 32, 2) := by decide +kernel
theorem dX5_readsCommand_218 : decode cX5_readsCommand 218 = .ok (.invokevirtual 248, 3) := by decide +kernel
theorem dX5_readsCommand_221 : decode cX5_readsCommand 221 = .ok (.ifCond .eq 15, 3) := by decide +kernel
theorem dX5_readsCommand_224 : decode cX5_readsCommand 224 = .ok (.aload_n 0, 1) := by decide +kernel
theorem dX5_readsCommand_225 : decode cX5_readsCommand 225 = .ok (.iconst 0, 1) := by decide +kernel
theorem dX5_readsCommand_226 : decode cX5_readsCommand 226 = .ok (.invokevirtual 251, 3) := by decide +kernel
theorem dX5_readsCommand_229 : decode cX5_readsCommand 229 = .ok (.ifCond .eq 7, 3) := by decide +kernel
theorem dX5_readsCommand_232 : decode cX5_readsCommand 232 = .ok (.iconst 1, 1) := by decide +kernel
theorem dX5_readsCommand_233 : decode cX5_readsCommand 233 = .ok (.goto 4, 3) := by decide +kernel
theorem dX5_readsCommand_236 : decode cX5_readsCommand 236 = .ok (.iconst 0, 1) := by decide +kernel
theorem dX5_readsCommand_237 : decode cX5_readsCommand 237 = .ok (.ireturn, 1) := by decide +kernel
theorem dX5_readsAll_0 : decode cX5_readsAll 0 = .ok (.aload_n 0, 1) := by decide +kernel
theorem dX5_readsAll_1 : decode cX5_readsAll 1 = .ok (.iconst 0, 1) := by decide +kernel
theorem dX5_readsAll_2 : decode cX5_readsAll 2 = .ok (.putfield 235, 3) := by decide +kernel
theorem dX5_readsAll_5 : decode cX5_readsAll 5 = .ok (.iconst 1, 1) := by decide +kernel
theorem dX5_readsAll_6 : decode cX5_readsAll 6 = .ok (.istore_n 1, 1) := by decide +kernel
theorem dX5_readsAll_7 : decode cX5_readsAll 7 = .ok (.iload_n 1, 1) := by decide +kernel
theorem dX5_readsAll_8 : decode cX5_readsAll 8 = .ok (.ifCond .eq 22, 3) := by decide +kernel
theorem dX5_readsAll_11 : decode cX5_readsAll 11 = .ok (.aload_n 0, 1) := by decide +kernel
theorem dX5_readsAll_12 : decode cX5_readsAll 12 = .ok (.invokevirtual 281, 3) := by decide +kernel
theorem dX5_readsAll_15 : decode cX5_readsAll 15 = .ok (.ifCond .ne 5, 3) := by decide +kernel
theorem dX5_readsAll_18 : decode cX5_readsAll 18 = .ok (.iconst 0, 1) := by decide +kernel
theorem dX5_readsAll_19 : decode cX5_readsAll 19 = .ok (.ireturn, 1) := by decide +kernel
theorem dX5_readsAll_20 : decode cX5_readsAll 20 = .ok (.aload_n 0, 1) := by decide +kernel
theorem dX5_readsAll_21 : decode cX5_readsAll 21 = .ok (.bipush 59, 2) := by decide +kernel
theorem dX5_readsAll_23 : decode cX5_readsAll 23 = .ok (.invokevirtual 248, 3) := by decide +kernel
theorem dX5_readsAll_26 : decode cX5_readsAll 26 = .ok (.istore_n 1, 1) := by decide +kernel
theorem dX5_readsAll_27 : decode cX5_readsAll 27 = .ok (.goto (-20), 3) := by decide +kernel
theorem dX5_readsAll_30 : decode cX5_readsAll 30 = .ok (.aload_n 0, 1) := by decide +kernel
theorem dX5_readsAll_31 : decode cX5_readsAll 31 = .ok (.getfield 235, 3) := by decide +kernel
theorem dX5_readsAll_34 : decode cX5_readsAll 34 = .ok (.aload_n 0, 1) := by decide +kernel
theorem dX5_readsAll_35 : decode cX5_readsAll 35 = .ok (.getfield 232, 3) := by decide +kernel
theorem dX5_readsAll_38 : decode cX5_readsAll 38 = .ok (.if_icmp .ne 7, 3) := by decide +kernel
theorem dX5_readsAll_41 : decode cX5_readsAll 41 = .ok (.iconst 1, 1) := by decide +kernel
theorem dX5_readsAll_42 : decode cX5_readsAll 42 = .ok (.goto 4, 3) := by decide +kernel
theorem dX5_readsAll_45 : decode cX5_readsAll 45 = .ok (.iconst 0, 1) := by decide +kernel
theorem dX5_readsAll_46 : decode cX5_readsAll 46 = .ok (.ireturn, 1) := by decide +kernel
theorem dX5_notNow_0 : decode cX5_notNow 0 = .ok (.aload_n 0, 1) := by decide +kernel
theorem dX5_notNow_1 : decode cX5_notNow 1 = .ok (.getfield 39, 3) := by decide +kernel
theorem dX5_notNow_4 : decode cX5_notNow 4 = .ok (.iconst 0, 1) := by decide +kernel
theorem dX5_notNow_5 : decode cX5_notNow 5 = .ok (.iaload, 1) := by decide +kernel
theorem dX5_notNow_6 : decode cX5_notNow 6 = .ok (.istore_n 1, 1) := by decide +kernel
theorem dX5_notNow_7 : decode cX5_notNow 7 = .ok (.aload_n 0, 1) := by decide +kernel
theorem dX5_notNow_8 : decode cX5_notNow 8 = .ok (.getfield 39, 3) := by decide +kernel
theorem dX5_notNow_11 : decode cX5_notNow 11 = .ok (.iconst 1, 1) := by decide +kernel
theorem dX5_notNow_12 : decode cX5_notNow 12 = .ok (.iaload, 1) := by decide +kernel
theorem dX5_notNow_13 : decode cX5_notNow 13 = .ok (.istore_n 2, 1) := by decide +kernel
theorem dX5_notNow_14 : decode cX5_notNow 14 = .ok (.aload_n 0, 1) := by decide +kernel
theorem dX5_notNow_15 : decode cX5_notNow 15 = .ok (.getfield 254, 3) := by decide +kernel
theorem dX5_notNow_18 : decode cX5_notNow 18 = .ok (.tableswitch 181 98 119 #[135, 102, 181, 181, 181, 143, 181, 181, 181, 181, 121, 181, 158, 181, 114, 181, 127, 151, 108, 176, 170, 164], 102) := by decide +kernel
theorem dX5_notNow_120 : decode cX5_notNow 120 = .ok (.aload_n 0, 1) := by decide +kernel
theorem dX5_notNow_121 : decode cX5_notNow 121 = .ok (.iload_n 1, 1) := by decide +kernel
theorem dX5_notNow_122 : decode cX5_notNow 122 = .ok (.invokevirtual 75, 3) := by decide +kernel
theorem dX5_notNow_125 : decode cX5_notNow 125 = .ok (.ireturn, 1) := by decide +kernel
theorem dX5_notNow_126 : decode cX5_notNow 126 = .ok (.aload_n 0, 1) := by decide +kernel
theorem dX5_notNow_127 : decode cX5_notNow 127 = .ok (.iload_n 1, 1) := by decide +kernel
theorem dX5_notNow_128 : decode cX5_notNow 128 = .ok (.invokevirtual 88, 3) := by decide +kernel
theorem dX5_notNow_131 : decode cX5_notNow 131 = .ok (.ireturn, 1) := by decide +kernel
theorem dX5_notNow_132 : decode cX5_notNow 132 = .ok (.aload_n 0, 1) := by decide +kernel
theorem dX5_notNow_133 : decode cX5_notNow 133 = .ok (.iload_n 1, 1) := by decide +kernel
theorem dX5_notNow_134 : decode cX5_notNow 134 = .ok (.iload_n 2, 1) := by decide +kernel
theorem dX5_notNow_135 : decode cX5_notNow 135 = .ok (.invokevirtual 98, 3) := by decide +kernel
theorem dX5_notNow_138 : decode cX5_notNow 138 = .ok (.ireturn, 1) := by decide +kernel
theorem dX5_notNow_139 : decode cX5_notNow 139 = .ok (.aload_n 0, 1) := by decide +kernel
theorem dX5_notNow_140 : decode cX5_notNow 140 = .ok (.iload_n 1, 1) := by decide +kernel
theorem dX5_notNow_141 : decode cX5_notNow 141 = .ok (.invokevirtual 111, 3) := by decide +kernel
theorem dX5_notNow_144 : decode cX5_notNow 144 = .ok (.ireturn, 1) := by decide +kernel
theorem dX5_notNow_145 : decode cX5_notNow 145 = .ok (.aload_n 0, 1) := by decide +kernel
theorem dX5_notNow_146 : decode cX5_notNow 146 = .ok (.iload_n 1, 1) := by decide +kernel
theorem dX5_notNow_147 : decode cX5_notNow 147 = .ok (.iconst 0, 1) := by decide +kernel
theorem dX5_notNow_148 : decode cX5_notNow 148 = .ok (.iload_n 2, 1) := by decide +kernel
theorem dX5_notNow_149 : decode cX5_notNow 149 = .ok (.invokevirtual 123, 3) := by decide +kernel
theorem dX5_notNow_152 : decode cX5_notNow 152 = .ok (.ireturn, 1) := by decide +kernel
theorem dX5_notNow_153 : decode cX5_notNow 153 = .ok (.aload_n 0, 1) := by decide +kernel
theorem dX5_notNow_154 : decode cX5_notNow 154 = .ok (.iload_n 1, 1) := by decide +kernel
theorem dX5_notNow_155 : decode cX5_notNow 155 = .ok (.iconst 1, 1) := by decide +kernel
theorem dX5_notNow_156 : decode cX5_notNow 156 = .ok (.iload_n 2, 1) := by decide +kernel
theorem dX5_notNow_157 : decode cX5_notNow 157 = .ok (.invokevirtual 123, 3) := by decide +kernel
theorem dX5_notNow_160 : decode cX5_notNow 160 = .ok (.ireturn, 1) := by decide +kernel
theorem dX5_notNow_161 : decode cX5_notNow 161 = .ok (.aload_n 0, 1) := by decide +kernel
theorem dX5_notNow_162 : decode cX5_notNow 162 = .ok (.iload_n 1, 1) := by decide +kernel
theorem dX5_notNow_163 : decode cX5_notNow 163 = .ok (.iconst 2, 1) := by decide +kernel
theorem dX5_notNow_164 : decode cX5_notNow 164 = .ok (.iload_n 2, 1) := by decide +kernel
theorem dX5_notNow_165 : decode cX5_notNow 165 = .ok (.invokevirtual 123, 3) := by decide +kernel
theorem dX5_notNow_168 : decode cX5_notNow 168 = .ok (.ireturn, 1) := by decide +kernel
theorem dX5_notNow_169 : decode cX5_notNow 169 = .ok (.aload_n 0, 1) := by decide +kernel
theorem dX5_notNow_170 : decode cX5_notNow 170 = .ok (.iload_n 1, 1) := by decide +kernel
theorem dX5_notNow_171 : decode cX5_notNow 171 = .ok (.iload_n 2, 1) := by decide +kernel
theorem dX5_notNow_172 : decode cX5_notNow 172 = .ok (.invokevirtual 136, 3) := by decide +kernel
theorem dX5_notNow_175 : decode cX5_notNow 175 = .ok (.ireturn, 1) := by decide +kernel
theorem dX5_notNow_176 : decode cX5_notNow 176 = .ok (.aload_n 0, 1) := by decide +kernel
theorem dX5_notNow_177 : decode cX5_notNow 177 = .ok (.iload_n 1, 1) := by decide +kernel
theorem dX5_notNow_178 : decode cX5_notNow 178 = .ok (.invokevirtual 146, 3) := by decide +kernel
theorem dX5_notNow_181 : decode cX5_notNow 181 = .ok (.ireturn, 1) := by decide +kernel
theorem dX5_notNow_182 : decode cX5_notNow 182 = .ok (.aload_n 0, 1) := by decide +kernel
theorem dX5_notNow_183 : decode cX5_notNow 183 = .ok (.iload_n 1, 1) := by decide +kernel
theorem dX5_notNow_184 : decode cX5_notNow 184 = .ok (.invokevirtual 156, 3) := by decide +kernel
theorem dX5_notNow_187 : decode cX5_notNow 187 = .ok (.ireturn, 1) := by decide +kernel
theorem dX5_notNow_188 : decode cX5_notNow 188 = .ok (.aload_n 0, 1) := by decide +kernel
theorem dX5_notNow_189 : decode cX5_notNow 189 = .ok (.iload_n 1, 1) := by decide +kernel
theorem dX5_notNow_190 : decode cX5_notNow 190 = .ok (.invokevirtual 177, 3) := by decide +kernel
theorem dX5_notNow_193 : decode cX5_notNow 193 = .ok (.ireturn, 1) := by decide +kernel
theorem dX5_notNow_194 : decode cX5_notNow 194 = .ok (.iload_n 1, 1) := by decide +kernel
theorem dX5_notNow_195 : decode cX5_notNow 195 = .ok (.invokestatic 186, 3) := by decide +kernel
theorem dX5_notNow_198 : decode cX5_notNow 198 = .ok (.ireturn, 1) := by decide +kernel
theorem dX5_notNow_199 : decode cX5_notNow 199 = .ok (.iload_n 1, 1) := by decide +kernel
theorem dX5_notNow_200 : decode cX5_notNow 200 = .ok (.invokestatic 195, 3) := by decide +kernel
theorem dX5_notNow_203 : decode cX5_notNow 203 = .ok (.ireturn, 1) := by decide +kernel
theorem dX5_doesNow_0 : decode cX5_doesNow 0 = .ok (.aload_n 0, 1) := by decide +kernel
theorem dX5_doesNow_1 : decode cX5_doesNow 1 = .ok (.getfield 39, 3) := by decide +kernel
theorem dX5_doesNow_4 : decode cX5_doesNow 4 = .ok (.iconst 0, 1) := by decide +kernel
theorem dX5_doesNow_5 : decode cX5_doesNow 5 = .ok (.iaload, 1) := by decide +kernel
theorem dX5_doesNow_6 : decode cX5_doesNow 6 = .ok (.istore_n 1, 1) := by decide +kernel
theorem dX5_doesNow_7 : decode cX5_doesNow 7 = .ok (.aload_n 0, 1) := by decide +kernel
theorem dX5_doesNow_8 : decode cX5_doesNow 8 = .ok (.getfield 39, 3) := by decide +kernel
theorem dX5_doesNow_11 : decode cX5_doesNow 11 = .ok (.iconst 1, 1) := by decide +kernel
theorem dX5_doesNow_12 : decode cX5_doesNow 12 = .ok (.iaload, 1) := by decide +kernel
theorem dX5_doesNow_13 : decode cX5_doesNow 13 = .ok (.istore_n 2, 1) := by decide +kernel
theorem dX5_doesNow_14 : decode cX5_doesNow 14 = .ok (.aload_n 0, 1) := by decide +kernel
theorem dX5_doesNow_15 : decode cX5_doesNow 15 = .ok (.getfield 254, 3) := by decide +kernel
theorem dX5_doesNow_18 : decode cX5_doesNow 18 = .ok (.tableswitch 182 98 119 #[135, 102, 182, 182, 182, 143, 182, 182, 182, 182, 121, 182, 158, 182, 114, 182, 127, 151, 108, 176, 170, 164], 102) := by decide +kernel
theorem dX5_doesNow_120 : decode cX5_doesNow 120 = .ok (.aload_n 0, 1) := by decide +kernel
theorem dX5_doesNow_121 : decode cX5_doesNow 121 = .ok (.iload_n 1, 1) := by decide +kernel
theorem dX5_doesNow_122 : decode cX5_doesNow 122 = .ok (.invokevirtual 85, 3) := by decide +kernel
theorem dX5_doesNow_125 : decode cX5_doesNow 125 = .ok (.ireturn, 1) := by decide +kernel
theorem dX5_doesNow_126 : decode cX5_doesNow 126 = .ok (.aload_n 0, 1) := by decide +kernel
theorem dX5_doesNow_127 : decode cX5_doesNow 127 = .ok (.iload_n 1, 1) := by decide +kernel
theorem dX5_doesNow_128 : decode cX5_doesNow 128 = .ok (.invokevirtual 91, 3) := by decide +kernel
theorem dX5_doesNow_131 : decode cX5_doesNow 131 = .ok (.ireturn, 1) := by decide +kernel
theorem dX5_doesNow_132 : decode cX5_doesNow 132 = .ok (.aload_n 0, 1) := by decide +kernel
theorem dX5_doesNow_133 : decode cX5_doesNow 133 = .ok (.iload_n 1, 1) := by decide +kernel
theorem dX5_doesNow_134 : decode cX5_doesNow 134 = .ok (.iload_n 2, 1) := by decide +kernel
theorem dX5_doesNow_135 : decode cX5_doesNow 135 = .ok (.invokevirtual 101, 3) := by decide +kernel
theorem dX5_doesNow_138 : decode cX5_doesNow 138 = .ok (.ireturn, 1) := by decide +kernel
theorem dX5_doesNow_139 : decode cX5_doesNow 139 = .ok (.aload_n 0, 1) := by decide +kernel
theorem dX5_doesNow_140 : decode cX5_doesNow 140 = .ok (.iload_n 1, 1) := by decide +kernel
theorem dX5_doesNow_141 : decode cX5_doesNow 141 = .ok (.invokevirtual 114, 3) := by decide +kernel
theorem dX5_doesNow_144 : decode cX5_doesNow 144 = .ok (.ireturn, 1) := by decide +kernel
theorem dX5_doesNow_145 : decode cX5_doesNow 145 = .ok (.aload_n 0, 1) := by decide +kernel
theorem dX5_doesNow_146 : decode cX5_doesNow 146 = .ok (.iload_n 1, 1) := by decide +kernel
theorem dX5_doesNow_147 : decode cX5_doesNow 147 = .ok (.iconst 0, 1) := by decide +kernel
theorem dX5_doesNow_148 : decode cX5_doesNow 148 = .ok (.iload_n 2, 1) := by decide +kernel
theorem dX5_doesNow_149 : decode cX5_doesNow 149 = .ok (.invokevirtual 127, 3) := by decide +kernel
theorem dX5_doesNow_152 : decode cX5_doesNow 152 = .ok (.ireturn, 1) := by decide +kernel
theorem dX5_doesNow_153 : decode cX5_doesNow 153 = .ok (.aload_n 0, 1) := by decide +kernel
theorem dX5_doesNow_154 : decode cX5_doesNow 154 = .ok (.iload_n 1, 1) := by decide +kernel
theorem dX5_doesNow_155 : decode cX5_doesNow 155 = .ok (.iconst 1, 1) := by decide +kernel
theorem dX5_doesNow_156 : decode cX5_doesNow 156 = .ok (.iload_n 2, 1) := by decide +kernel
theorem dX5_doesNow_157 : decode cX5_doesNow 157 = .ok (.invokevirtual 127, 3) := by decide +kernel
theorem dX5_doesNow_160 : decode cX5_doesNow 160 = .ok (.ireturn, 1) := by decide +kernel
theorem dX5_doesNow_161 : decode cX5_doesNow 161 = .ok (.aload_n 0, 1) := by decide +kernel
theorem dX5_doesNow_162 : decode cX5_doesNow 162 = .ok (.iload_n 1, 1) := by decide +kernel
theorem dX5_doesNow_163 : decode cX5_doesNow 163 = .ok (.iconst 2, 1) := by decide +kernel
theorem dX5_doesNow_164 : decode cX5_doesNow 164 = .ok (.iload_n 2, 1) := by decide +kernel
theorem dX5_doesNow_165 : decode cX5_doesNow 165 = .ok (.invokevirtual 127, 3) := by decide +kernel
theorem dX5_doesNow_168 : decode cX5_doesNow 168 = .ok (.ireturn, 1) := by decide +kernel
theorem dX5_doesNow_169 : decode cX5_doesNow 169 = .ok (.aload_n 0, 1) := by decide +kernel
theorem dX5_doesNow_170 : decode cX5_doesNow 170 = .ok (.iload_n 1, 1) := by decide +kernel
theorem dX5_doesNow_171 : decode cX5_doesNow 171 = .ok (.iload_n 2, 1) := by decide +kernel
theorem dX5_doesNow_172 : decode cX5_doesNow 172 = .ok (.invokevirtual 139, 3) := by decide +kernel
theorem dX5_doesNow_175 : decode cX5_doesNow 175 = .ok (.ireturn, 1) := by decide +kernel
theorem dX5_doesNow_176 : decode cX5_doesNow 176 = .ok (.aload_n 0, 1) := by decide +kernel
theorem dX5_doesNow_177 : decode cX5_doesNow 177 = .ok (.iload_n 1, 1) := by decide +kernel
theorem dX5_doesNow_178 : decode cX5_doesNow 178 = .ok (.invokevirtual 149, 3) := by decide +kernel
theorem dX5_doesNow_181 : decode cX5_doesNow 181 = .ok (.ireturn, 1) := by decide +kernel
theorem dX5_doesNow_182 : decode cX5_doesNow 182 = .ok (.aload_n 0, 1) := by decide +kernel
theorem dX5_doesNow_183 : decode cX5_doesNow 183 = .ok (.iload_n 1, 1) := by decide +kernel
theorem dX5_doesNow_184 : decode cX5_doesNow 184 = .ok (.invokevirtual 159, 3) := by decide +kernel
theorem dX5_doesNow_187 : decode cX5_doesNow 187 = .ok (.ireturn, 1) := by decide +kernel
theorem dX5_doesNow_188 : decode cX5_doesNow 188 = .ok (.aload_n 0, 1) := by decide +kernel
theorem dX5_doesNow_189 : decode cX5_doesNow 189 = .ok (.iload_n 1, 1) := by decide +kernel
theorem dX5_doesNow_190 : decode cX5_doesNow 190 = .ok (.invokevirtual 180, 3) := by decide +kernel
theorem dX5_doesNow_193 : decode cX5_doesNow 193 = .ok (.ireturn, 1) := by decide +kernel
theorem dX5_doesNow_194 : decode cX5_doesNow 194 = .ok (.aload_n 0, 1) := by decide +kernel
theorem dX5_doesNow_195 : decode cX5_doesNow 195 = .ok (.iload_n 1, 1) := by decide +kernel
theorem dX5_doesNow_196 : decode cX5_doesNow 196 = .ok (.invokevirtual 189, 3) := by decide +kernel
theorem dX5_doesNow_199 : decode cX5_doesNow 199 = .ok (.ireturn, 1) := by decide +kernel
theorem dX5_doesNow_200 : decode cX5_doesNow 200 = .ok (.aload_n 0, 1) := by decide +kernel
theorem dX5_doesNow_201 : decode cX5_doesNow 201 = .ok (.iload_n 1, 1) := by decide +kernel
theorem dX5_doesNow_202 : decode cX5_doesNow 202 = .ok (.invokevirtual 198, 3) := by decide +kernel
theorem dX5_doesNow_205 : decode cX5_doesNow 205 = .ok (.ireturn, 1) := by decide +kernel
theorem dX5_doesAll_0 : decode cX5_doesAll 0 = .ok (.aload_n 0, 1) := by decide +kernel
theorem dX5_doesAll_1 : decode cX5_doesAll 1 = .ok (.iconst 0, 1) := by decide +kernel
theorem dX5_doesAll_2 : decode cX5_doesAll 2 = .ok (.putfield 284, 3) := by decide +kernel
theorem dX5_doesAll_5 : decode cX5_doesAll 5 = .ok (.aload_n 0, 1) := by decide +kernel
theorem dX5_doesAll_6 : decode cX5_doesAll 6 = .ok (.iconst 0, 1) := by decide +kernel
theorem dX5_doesAll_7 : decode cX5_doesAll 7 = .ok (.putfield 235, 3) := by decide +kernel
theorem dX5_doesAll_10 : decode cX5_doesAll 10 = .ok (.iconst 1, 1) := by decide +kernel
theorem dX5_doesAll_11 : decode cX5_doesAll 11 = .ok (.istore_n 1, 1) := by decide +kernel
theorem dX5_doesAll_12 : decode cX5_doesAll 12 = .ok (.iload_n 1, 1) := by decide +kernel
theorem dX5_doesAll_13 : decode cX5_doesAll 13 = .ok (.ifCond .eq 44, 3) := by decide +kernel
theorem dX5_doesAll_16 : decode cX5_doesAll 16 = .ok (.aload_n 0, 1) := by decide +kernel
theorem dX5_doesAll_17 : decode cX5_doesAll 17 = .ok (.invokevirtual 281, 3) := by decide +kernel
theorem dX5_doesAll_20 : decode cX5_doesAll 20 = .ok (.pop, 1) := by decide +kernel
theorem dX5_doesAll_21 : decode cX5_doesAll 21 = .ok (.aload_n 0, 1) := by decide +kernel
theorem dX5_doesAll_22 : decode cX5_doesAll 22 = .ok (.invokevirtual 287, 3) := by decide +kernel
theorem dX5_doesAll_25 : decode cX5_doesAll 25 = .ok (.istore_n 2, 1) := by decide +kernel
theorem dX5_doesAll_26 : decode cX5_doesAll 26 = .ok (.iload_n 2, 1) := by decide +kernel
theorem dX5_doesAll_27 : decode cX5_doesAll 27 = .ok (.ifCond .eq 5, 3) := by decide +kernel
theorem dX5_doesAll_30 : decode cX5_doesAll 30 = .ok (.iload_n 2, 1) := by decide +kernel
theorem dX5_doesAll_31 : decode cX5_doesAll 31 = .ok (.ireturn, 1) := by decide +kernel
theorem dX5_doesAll_32 : decode cX5_doesAll 32 = .ok (.aload_n 0, 1) := by decide +kernel
theorem dX5_doesAll_33 : decode cX5_doesAll 33 = .ok (.invokevirtual 290, 3) := by decide +kernel
theorem dX5_doesAll_36 : decode cX5_doesAll 36 = .ok (.pop, 1) := by decide +kernel
theorem dX5_doesAll_37 : decode cX5_doesAll 37 = .ok (.aload_n 0, 1) := by decide +kernel
theorem dX5_doesAll_38 : decode cX5_doesAll 38 = .ok (.dup, 1) := by decide +kernel
theorem dX5_doesAll_39 : decode cX5_doesAll 39 = .ok (.getfield 284, 3) := by decide +kernel
theorem dX5_doesAll_42 : decode cX5_doesAll 42 = .ok (.iconst 1, 1) := by decide +kernel
theorem dX5_doesAll_43 : decode cX5_doesAll 43 = .ok (.iadd, 1) := by decide +kernel
theorem dX5_doesAll_44 : decode cX5_doesAll 44 = .ok (.putfield 284, 3) := by decide +kernel
theorem dX5_doesAll_47 : decode cX5_doesAll 47 = .ok (.aload_n 0, 1) := by decide +kernel
theorem dX5_doesAll_48 : decode cX5_doesAll 48 = .ok (.bipush 59, 2) := by decide +kernel
theorem dX5_doesAll_50 : decode cX5_doesAll 50 = .ok (.invokevirtual 248, 3) := by decide +kernel
theorem dX5_doesAll_53 : decode cX5_doesAll 53 = .ok (.istore_n 1, 1) := by decide +kernel
theorem dX5_doesAll_54 : decode cX5_doesAll 54 = .ok (.goto (-42), 3) := by decide +kernel
theorem dX5_doesAll_57 : decode cX5_doesAll 57 = .ok (.iconst 0, 1) := by decide +kernel
theorem dX5_doesAll_58 : decode cX5_doesAll 58 = .ok (.ireturn, 1) := by decide +kernel
theorem dX5_run_0 : decode cX5_run 0 = .ok (.aload_n 0, 1) := by decide +kernel
theorem dX5_run_1 : decode cX5_run 1 = .ok (.iconst 0, 1) := by decide +kernel
theorem dX5_run_2 : decode cX5_run 2 = .ok (.putfield 42, 3) := by decide +kernel
theorem dX5_run_5 : decode cX5_run 5 = .ok (.aload_n 0, 1) := by decide +kernel
theorem dX5_run_6 : decode cX5_run 6 = .ok (.invokevirtual 293, 3) := by decide +kernel
theorem dX5_run_9 : decode cX5_run 9 = .ok (.ifCond .ne 22, 3) := by decide +kernel
theorem dX5_run_12 : decode cX5_run 12 = .ok (.aload_n 0, 1) := by decide +kernel
theorem dX5_run_13 : decode cX5_run 13 = .ok (.aload_n 0, 1) := by decide +kernel
theorem dX5_run_14 : decode cX5_run 14 = .ok (.getfield 235, 3) := by decide +kernel
theorem dX5_run_17 : decode cX5_run 17 = .ok (.putfield 32, 3) := by decide +kernel
theorem dX5_run_20 : decode cX5_run 20 = .ok (.aload_n 0, 1) := by decide +kernel
theorem dX5_run_21 : decode cX5_run 21 = .ok (.iconst 0, 1) := by decide +kernel
theorem dX5_run_22 : decode cX5_run 22 = .ok (.putfield 232, 3) := by decide +kernel
theorem dX5_run_25 : decode cX5_run 25 = .ok (.aload_n 0, 1) := by decide +kernel
theorem dX5_run_26 : decode cX5_run 26 = .ok (.iconst 1, 1) := by decide +kernel
theorem dX5_run_27 : decode cX5_run 27 = .ok (.invokevirtual 79, 3) := by decide +kernel
theorem dX5_run_30 : decode cX5_run 30 = .ok (.ireturn, 1) := by decide +kernel
theorem dX5_run_31 : decode cX5_run 31 = .ok (.aload_n 0, 1) := by decide +kernel
theorem dX5_run_32 : decode cX5_run 32 = .ok (.invokevirtual 51, 3) := by decide +kernel
theorem dX5_run_35 : decode cX5_run 35 = .ok (.aload_n 0, 1) := by decide +kernel
theorem dX5_run_36 : decode cX5_run 36 = .ok (.invokevirtual 296, 3) := by decide +kernel
theorem dX5_run_39 : decode cX5_run 39 = .ok (.istore_n 1, 1) := by decide +kernel
theorem dX5_run_40 : decode cX5_run 40 = .ok (.aload_n 0, 1) := by decide +kernel
theorem dX5_run_41 : decode cX5_run 41 = .ok (.iconst 0, 1) := by decide +kernel
theorem dX5_run_42 : decode cX5_run 42 = .ok (.putfield 232, 3) := by decide +kernel
theorem dX5_run_45 : decode cX5_run 45 = .ok (.iload_n 1, 1) := by decide +kernel
theorem dX5_run_46 : decode cX5_run 46 = .ok (.ifCond .ne 12, 3) := by decide +kernel
theorem dX5_run_49 : decode cX5_run 49 = .ok (.aload_n 0, 1) := by decide +kernel
theorem dX5_run_50 : decode cX5_run 50 = .ok (.invokevirtual 54, 3) := by decide +kernel
theorem dX5_run_53 : decode cX5_run 53 = .ok (.aload_n 0, 1) := by decide +kernel
theorem dX5_run_54 : decode cX5_run 54 = .ok (.getfield 284, 3) := by decide +kernel
theorem dX5_run_57 : decode cX5_run 57 = .ok (.ireturn, 1) := by decide +kernel
theorem dX5_run_58 : decode cX5_run 58 = .ok (.aload_n 0, 1) := by decide +kernel
theorem dX5_run_59 : decode cX5_run 59 = .ok (.invokevirtual 299, 3) := by decide +kernel
theorem dX5_run_62 : decode cX5_run 62 = .ok (.aload_n 0, 1) := by decide +kernel
theorem dX5_run_63 : decode cX5_run 63 = .ok (.aload_n 0, 1) := by decide +kernel
theorem dX5_run_64 : decode cX5_run 64 = .ok (.getfield 284, 3) := by decide +kernel
theorem dX5_run_67 : decode cX5_run 67 = .ok (.putfield 36, 3) := by decide +kernel
theorem dX5_run_70 : decode cX5_run 70 = .ok (.aload_n 0, 1) := by decide +kernel
theorem dX5_run_71 : decode cX5_run 71 = .ok (.iload_n 1, 1) := by decide +kernel
theorem dX5_run_72 : decode cX5_run 72 = .ok (.putfield 302, 3) := by decide +kernel
theorem dX5_run_75 : decode cX5_run 75 = .ok (.aload_n 0, 1) := by decide +kernel
theorem dX5_run_76 : decode cX5_run 76 = .ok (.iconst 2, 1) := by decide +kernel
theorem dX5_run_77 : decode cX5_run 77 = .ok (.invokevirtual 79, 3) := by decide +kernel
theorem dX5_run_80 : decode cX5_run 80 = .ok (.ireturn, 1) := by decide +kernel
theorem dX5_errorPosition_0 : decode cX5_errorPosition 0 = .ok (.aload_n 0, 1) := by decide +kernel
theorem dX5_errorPosition_1 : decode cX5_errorPosition 1 = .ok (.iconst 0, 1) := by decide +kernel
theorem dX5_errorPosition_2 : decode cX5_errorPosition 2 = .ok (.putfield 42, 3) := by decide +kernel
theorem dX5_errorPosition_5 : decode cX5_errorPosition 5 = .ok (.aload_n 0, 1) := by decide +kernel
theorem dX5_errorPosition_6 : decode cX5_errorPosition 6 = .ok (.getfield 32, 3) := by decide +kernel
theorem dX5_errorPosition_9 : decode cX5_errorPosition 9 = .ok (.ifCond .ge 11, 3) := by decide +kernel
theorem dX5_errorPosition_12 : decode cX5_errorPosition 12 = .ok (.aload_n 0, 1) := by decide +kernel
theorem dX5_errorPosition_13 : decode cX5_errorPosition 13 = .ok (.iconst 1, 1) := by decide +kernel
theorem dX5_errorPosition_14 : decode cX5_errorPosition 14 = .ok (.invokevirtual 79, 3) := by decide +kernel
theorem dX5_errorPosition_17 : decode cX5_errorPosition 17 = .ok (.goto 7, 3) := by decide +kernel
theorem dX5_errorPosition_20 : decode cX5_errorPosition 20 = .ok (.aload_n 0, 1) := by decide +kernel
theorem dX5_errorPosition_21 : decode cX5_errorPosition 21 = .ok (.getfield 32, 3) := by decide +kernel
theorem dX5_errorPosition_24 : decode cX5_errorPosition 24 = .ok (.ireturn, 1) := by decide +kernel
theorem dX5_failedCommand_0 : decode cX5_failedCommand 0 = .ok (.aload_n 0, 1) := by decide +kernel
theorem dX5_failedCommand_1 : decode cX5_failedCommand 1 = .ok (.iconst 0, 1) := by decide +kernel
theorem dX5_failedCommand_2 : decode cX5_failedCommand 2 = .ok (.putfield 42, 3) := by decide +kernel
theorem dX5_failedCommand_5 : decode cX5_failedCommand 5 = .ok (.aload_n 0, 1) := by decide +kernel
theorem dX5_failedCommand_6 : decode cX5_failedCommand 6 = .ok (.getfield 36, 3) := by decide +kernel
theorem dX5_failedCommand_9 : decode cX5_failedCommand 9 = .ok (.ifCond .ge 11, 3) := by decide +kernel
theorem dX5_failedCommand_12 : decode cX5_failedCommand 12 = .ok (.aload_n 0, 1) := by decide +kernel
theorem dX5_failedCommand_13 : decode cX5_failedCommand 13 = .ok (.iconst 1, 1) := by decide +kernel
theorem dX5_failedCommand_14 : decode cX5_failedCommand 14 = .ok (.invokevirtual 79, 3) := by decide +kernel
theorem dX5_failedCommand_17 : decode cX5_failedCommand 17 = .ok (.goto 7, 3) := by decide +kernel
theorem dX5_failedCommand_20 : decode cX5_failedCommand 20 = .ok (.aload_n 0, 1) := by decide +kernel
theorem dX5_failedCommand_21 : decode cX5_failedCommand 21 = .ok (.getfield 36, 3) := by decide +kernel
theorem dX5_failedCommand_24 : decode cX5_failedCommand 24 = .ok (.ireturn, 1) := by decide +kernel
theorem dX5_failedException_0 : decode cX5_failedException 0 = .ok (.aload_n 0, 1) := by decide +kernel
theorem dX5_failedException_1 : decode cX5_failedException 1 = .ok (.iconst 0, 1) := by decide +kernel
theorem dX5_failedException_2 : decode cX5_failedException 2 = .ok (.putfield 42, 3) := by decide +kernel
theorem dX5_failedException_5 : decode cX5_failedException 5 = .ok (.aload_n 0, 1) := by decide +kernel
theorem dX5_failedException_6 : decode cX5_failedException 6 = .ok (.getfield 36, 3) := by decide +kernel
theorem dX5_failedException_9 : decode cX5_failedException 9 = .ok (.ifCond .ge 11, 3) := by decide +kernel
theorem dX5_failedException_12 : decode cX5_failedException 12 = .ok (.aload_n 0, 1) := by decide +kernel
theorem dX5_failedException_13 : decode cX5_failedException 13 = .ok (.iconst 1, 1) := by decide +kernel
theorem dX5_failedException_14 : decode cX5_failedException 14 = .ok (.invokevirtual 79, 3) := by decide +kernel
theorem dX5_failedException_17 : decode cX5_failedException 17 = .ok (.goto 7, 3) := by decide +kernel
theorem dX5_failedException_20 : decode cX5_failedException 20 = .ok (.aload_n 0, 1) := by decide +kernel
theorem dX5_failedException_21 : decode cX5_failedException 21 = .ok (.getfield 302, 3) := by decide +kernel
theorem dX5_failedException_24 : decode cX5_failedException 24 = .ok (.ireturn, 1) := by decide +kernel
theorem dX5_undo_0 : decode cX5_undo 0 = .ok (.aload_n 0, 1) := by decide +kernel
theorem dX5_undo_1 : decode cX5_undo 1 = .ok (.iconst 0, 1) := by decide +kernel
theorem dX5_undo_2 : decode cX5_undo 2 = .ok (.putfield 42, 3) := by decide +kernel
theorem dX5_undo_5 : decode cX5_undo 5 = .ok (.aload_n 0, 1) := by decide +kernel
theorem dX5_undo_6 : decode cX5_undo 6 = .ok (.getfield 45, 3) := by decide +kernel
theorem dX5_undo_9 : decode cX5_undo 9 = .ok (.ifCond .ne 9, 3) := by decide +kernel
theorem dX5_undo_12 : decode cX5_undo 12 = .ok (.aload_n 0, 1) := by decide +kernel
theorem dX5_undo_13 : decode cX5_undo 13 = .ok (.iconst 1, 1) := by decide +kernel
theorem dX5_undo_14 : decode cX5_undo 14 = .ok (.invokevirtual 79, 3) := by decide +kernel
theorem dX5_undo_17 : decode cX5_undo 17 = .ok (.ireturn, 1) := by decide +kernel
theorem dX5_undo_18 : decode cX5_undo 18 = .ok (.aload_n 0, 1) := by decide +kernel
theorem dX5_undo_19 : decode cX5_undo 19 = .ok (.dup, 1) := by decide +kernel
theorem dX5_undo_20 : decode cX5_undo 20 = .ok (.getfield 45, 3) := by decide +kernel
theorem dX5_undo_23 : decode cX5_undo 23 = .ok (.iconst 1, 1) := by decide +kernel
theorem dX5_undo_24 : decode cX5_undo 24 = .ok (.isub, 1) := by decide +kernel
theorem dX5_undo_25 : decode cX5_undo 25 = .ok (.putfield 45, 3) := by decide +kernel
theorem dX5_undo_28 : decode cX5_undo 28 = .ok (.aload_n 0, 1) := by decide +kernel
theorem dX5_undo_29 : decode cX5_undo 29 = .ok (.getfield 48, 3) := by decide +kernel
theorem dX5_undo_32 : decode cX5_undo 32 = .ok (.aload_n 0, 1) := by decide +kernel
theorem dX5_undo_33 : decode cX5_undo 33 = .ok (.getfield 45, 3) := by decide +kernel
theorem dX5_undo_36 : decode cX5_undo 36 = .ok (.iadd, 1) := by decide +kernel
theorem dX5_undo_37 : decode cX5_undo 37 = .ok (.bipush 8, 2) := by decide +kernel
theorem dX5_undo_39 : decode cX5_undo 39 = .ok (.irem, 1) := by decide +kernel
theorem dX5_undo_40 : decode cX5_undo 40 = .ok (.istore_n 1, 1) := by decide +kernel
theorem dX5_undo_41 : decode cX5_undo 41 = .ok (.iconst 0, 1) := by decide +kernel
theorem dX5_undo_42 : decode cX5_undo 42 = .ok (.istore_n 2, 1) := by decide +kernel
theorem dX5_undo_43 : decode cX5_undo 43 = .ok (.iload_n 2, 1) := by decide +kernel
theorem dX5_undo_44 : decode cX5_undo 44 = .ok (.bipush 91, 2) := by decide +kernel
theorem dX5_undo_46 : decode cX5_undo 46 = .ok (.if_icmp .ge 26, 3) := by decide +kernel
theorem dX5_undo_49 : decode cX5_undo 49 = .ok (.aload_n 0, 1) := by decide +kernel
theorem dX5_undo_50 : decode cX5_undo 50 = .ok (.getfield 7, 3) := by decide +kernel
theorem dX5_undo_53 : decode cX5_undo 53 = .ok (.iload_n 2, 1) := by decide +kernel
theorem dX5_undo_54 : decode cX5_undo 54 = .ok (.aload_n 0, 1) := by decide +kernel
theorem dX5_undo_55 : decode cX5_undo 55 = .ok (.getfield 13, 3) := by decide +kernel
theorem dX5_undo_58 : decode cX5_undo 58 = .ok (.bipush 91, 2) := by decide +kernel
theorem dX5_undo_60 : decode cX5_undo 60 = .ok (.iload_n 1, 1) := by decide +kernel
theorem dX5_undo_61 : decode cX5_undo 61 = .ok (.imul, 1) := by decide +kernel
theorem dX5_undo_62 : decode cX5_undo 62 = .ok (.iload_n 2, 1) := by decide +kernel
theorem dX5_undo_63 : decode cX5_undo 63 = .ok (.iadd, 1) := by decide +kernel
theorem dX5_undo_64 : decode cX5_undo 64 = .ok (.iaload, 1) := by decide +kernel
theorem dX5_undo_65 : decode cX5_undo 65 = .ok (.iastore, 1) := by decide +kernel
theorem dX5_undo_66 : decode cX5_undo 66 = .ok (.iinc 2 1, 3) := by decide +kernel
theorem dX5_undo_69 : decode cX5_undo 69 = .ok (.goto (-26), 3) := by decide +kernel
theorem dX5_undo_72 : decode cX5_undo 72 = .ok (.aload_n 0, 1) := by decide +kernel
theorem dX5_undo_73 : decode cX5_undo 73 = .ok (.getfield 45, 3) := by decide +kernel
theorem dX5_undo_76 : decode cX5_undo 76 = .ok (.ireturn, 1) := by decide +kernel
theorem dX5_save_0 : decode cX5_save 0 = .ok (.aload_n 0, 1) := by decide +kernel
theorem dX5_save_1 : decode cX5_save 1 = .ok (.iconst 0, 1) := by decide +kernel
theorem dX5_save_2 : decode cX5_save 2 = .ok (.putfield 42, 3) := by decide +kernel
theorem dX5_save_5 : decode cX5_save 5 = .ok (.iconst 0, 1) := by decide +kernel
theorem dX5_save_6 : decode cX5_save 6 = .ok (.istore_n 1, 1) := by decide +kernel
theorem dX5_save_7 : decode cX5_save 7 = .ok (.iload_n 1, 1) := by decide +kernel
theorem dX5_save_8 : decode cX5_save 8 = .ok (.bipush 91, 2) := by decide +kernel
theorem dX5_save_10 : decode cX5_save 10 = .ok (.if_icmp .ge 21, 3) := by decide +kernel
theorem dX5_save_13 : decode cX5_save 13 = .ok (.aload_n 0, 1) := by decide +kernel
theorem dX5_save_14 : decode cX5_save 14 = .ok (.getfield 16, 3) := by decide +kernel
theorem dX5_save_17 : decode cX5_save 17 = .ok (.iload_n 1, 1) := by decide +kernel
theorem dX5_save_18 : decode cX5_save 18 = .ok (.aload_n 0, 1) := by decide +kernel
theorem dX5_save_19 : decode cX5_save 19 = .ok (.getfield 7, 3) := by decide +kernel
theorem dX5_save_22 : decode cX5_save 22 = .ok (.iload_n 1, 1) := by decide +kernel
theorem dX5_save_23 : decode cX5_save 23 = .ok (.iaload, 1) := by decide +kernel
theorem dX5_save_24 : decode cX5_save 24 = .ok (.iastore, 1) := by decide +kernel
theorem dX5_save_25 : decode cX5_save 25 = .ok (.iinc 1 1, 3) := by decide +kernel
theorem dX5_save_28 : decode cX5_save 28 = .ok (.goto (-21), 3) := by decide +kernel
theorem dX5_save_31 : decode cX5_save 31 = .ok (.aload_n 0, 1) := by decide +kernel
theorem dX5_save_32 : decode cX5_save 32 = .ok (.iconst 1, 1) := by decide +kernel
theorem dX5_save_33 : decode cX5_save 33 = .ok (.putfield 305, 3) := by decide +kernel
theorem dX5_save_36 : decode cX5_save 36 = .ok (.aload_n 0, 1) := by decide +kernel
theorem dX5_save_37 : decode cX5_save 37 = .ok (.getfield 7, 3) := by decide +kernel
theorem dX5_save_40 : decode cX5_save 40 = .ok (.iconst 2, 1) := by decide +kernel
theorem dX5_save_41 : decode cX5_save 41 = .ok (.iaload, 1) := by decide +kernel
theorem dX5_save_42 : decode cX5_save 42 = .ok (.ireturn, 1) := by decide +kernel
theorem dX5_restore_0 : decode cX5_restore 0 = .ok (.aload_n 0, 1) := by decide +kernel
theorem dX5_restore_1 : decode cX5_restore 1 = .ok (.iconst 0, 1) := by decide +kernel
theorem dX5_restore_2 : decode cX5_restore 2 = .ok (.putfield 42, 3) := by decide +kernel
theorem dX5_restore_5 : decode cX5_restore 5 = .ok (.aload_n 0, 1) := by decide +kernel
theorem dX5_restore_6 : decode cX5_restore 6 = .ok (.getfield 305, 3) := by decide +kernel
theorem dX5_restore_9 : decode cX5_restore 9 = .ok (.ifCond .ne 9, 3) := by decide +kernel
theorem dX5_restore_12 : decode cX5_restore 12 = .ok (.aload_n 0, 1) := by decide +kernel
theorem dX5_restore_13 : decode cX5_restore 13 = .ok (.iconst 1, 1) := by decide +kernel
theorem dX5_restore_14 : decode cX5_restore 14 = .ok (.invokevirtual 79, 3) := by decide +kernel
theorem dX5_restore_17 : decode cX5_restore 17 = .ok (.ireturn, 1) := by decide +kernel
theorem dX5_restore_18 : decode cX5_restore 18 = .ok (.iconst 0, 1) := by decide +kernel
theorem dX5_restore_19 : decode cX5_restore 19 = .ok (.istore_n 1, 1) := by decide +kernel
theorem dX5_restore_20 : decode cX5_restore 20 = .ok (.iload_n 1, 1) := by decide +kernel
theorem dX5_restore_21 : decode cX5_restore 21 = .ok (.bipush 91, 2) := by decide +kernel
theorem dX5_restore_23 : decode cX5_restore 23 = .ok (.if_icmp .ge 21, 3) := by decide +kernel
theorem dX5_restore_26 : decode cX5_restore 26 = .ok (.aload_n 0, 1) := by decide +kernel
theorem dX5_restore_27 : decode cX5_restore 27 = .ok (.getfield 7, 3) := by decide +kernel
theorem dX5_restore_30 : decode cX5_restore 30 = .ok (.iload_n 1, 1) := by decide +kernel
theorem dX5_restore_31 : decode cX5_restore 31 = .ok (.aload_n 0, 1) := by decide +kernel
theorem dX5_restore_32 : decode cX5_restore 32 = .ok (.getfield 16, 3) := by decide +kernel
theorem dX5_restore_35 : decode cX5_restore 35 = .ok (.iload_n 1, 1) := by decide +kernel
theorem dX5_restore_36 : decode cX5_restore 36 = .ok (.iaload, 1) := by decide +kernel
theorem dX5_restore_37 : decode cX5_restore 37 = .ok (.iastore, 1) := by decide +kernel
theorem dX5_restore_38 : decode cX5_restore 38 = .ok (.iinc 1 1, 3) := by decide +kernel
theorem dX5_restore_41 : decode cX5_restore 41 = .ok (.goto (-21), 3) := by decide +kernel
theorem dX5_restore_44 : decode cX5_restore 44 = .ok (.aload_n 0, 1) := by decide +kernel
theorem dX5_restore_45 : decode cX5_restore 45 = .ok (.iconst 0, 1) := by decide +kernel
theorem dX5_restore_46 : decode cX5_restore 46 = .ok (.putfield 45, 3) := by decide +kernel
theorem dX5_restore_49 : decode cX5_restore 49 = .ok (.aload_n 0, 1) := by decide +kernel
theorem dX5_restore_50 : decode cX5_restore 50 = .ok (.iconst 0, 1) := by decide +kernel
theorem dX5_restore_51 : decode cX5_restore 51 = .ok (.putfield 48, 3) := by decide +kernel
theorem dX5_restore_54 : decode cX5_restore 54 = .ok (.aload_n 0, 1) := by decide +kernel
theorem dX5_restore_55 : decode cX5_restore 55 = .ok (.getfield 7, 3) := by decide +kernel
theorem dX5_restore_58 : decode cX5_restore 58 = .ok (.iconst 2, 1) := by decide +kernel
theorem dX5_restore_59 : decode cX5_restore 59 = .ok (.iaload, 1) := by decide +kernel
theorem dX5_restore_60 : decode cX5_restore 60 = .ok (.ireturn, 1) := by decide +kernel
theorem dL_addCommittee_0 : decode cL_addCommittee 0 = .ok (.aload_n 2, 1) := by decide +kernel
theorem dL_addCommittee_1 : decode cL_addCommittee 1 = .ok (.iconst 0, 1) := by decide +kernel
theorem dL_addCommittee_2 : decode cL_addCommittee 2 = .ok (.aload_n 0, 1) := by decide +kernel
theorem dL_addCommittee_3 : decode cL_addCommittee 3 = .ok (.iload_n 1, 1) := by decide +kernel
theorem dL_addCommittee_4 : decode cL_addCommittee 4 = .ok (.invokevirtual 7, 3) := by decide +kernel
theorem dL_addCommittee_7 : decode cL_addCommittee 7 = .ok (.i2l, 1) := by decide +kernel
theorem dL_addCommittee_8 : decode cL_addCommittee 8 = .ok (.lastore, 1) := by decide +kernel
theorem dL_addCommittee_9 : decode cL_addCommittee 9 = .ok (.goto 9, 3) := by decide +kernel
theorem dL_addCommittee_12 : decode cL_addCommittee 12 = .ok (.astore_n 3, 1) := by decide +kernel
theorem dL_addCommittee_13 : decode cL_addCommittee 13 = .ok (.iconst 1, 1) := by decide +kernel
theorem dL_addCommittee_14 : decode cL_addCommittee 14 = .ok (.ireturn, 1) := by decide +kernel
theorem dL_addCommittee_15 : decode cL_addCommittee 15 = .ok (.astore_n 3, 1) := by decide +kernel
theorem dL_addCommittee_16 : decode cL_addCommittee 16 = .ok (.iconst 2, 1) := by decide +kernel
theorem dL_addCommittee_17 : decode cL_addCommittee 17 = .ok (.ireturn, 1) := by decide +kernel
theorem dL_addCommittee_18 : decode cL_addCommittee 18 = .ok (.iconst 0, 1) := by decide +kernel
theorem dL_addCommittee_19 : decode cL_addCommittee 19 = .ok (.ireturn, 1) := by decide +kernel
theorem dL_addTail_0 : decode cL_addTail 0 = .ok (.aload_n 2, 1) := by decide +kernel
theorem dL_addTail_1 : decode cL_addTail 1 = .ok (.iconst 0, 1) := by decide +kernel
theorem dL_addTail_2 : decode cL_addTail 2 = .ok (.aload_n 0, 1) := by decide +kernel
theorem dL_addTail_3 : decode cL_addTail 3 = .ok (.iload_n 1, 1) := by decide +kernel
theorem dL_addTail_4 : decode cL_addTail 4 = .ok (.invokevirtual 17, 3) := by decide +kernel
theorem dL_addTail_7 : decode cL_addTail 7 = .ok (.i2l, 1) := by decide +kernel
theorem dL_addTail_8 : decode cL_addTail 8 = .ok (.lastore, 1) := by decide +kernel
theorem dL_addTail_9 : decode cL_addTail 9 = .ok (.goto 9, 3) := by decide +kernel
theorem dL_addTail_12 : decode cL_addTail 12 = .ok (.astore_n 3, 1) := by decide +kernel
theorem dL_addTail_13 : decode cL_addTail 13 = .ok (.iconst 1, 1) := by decide +kernel
theorem dL_addTail_14 : decode cL_addTail 14 = .ok (.ireturn, 1) := by decide +kernel
theorem dL_addTail_15 : decode cL_addTail 15 = .ok (.astore_n 3, 1) := by decide +kernel
theorem dL_addTail_16 : decode cL_addTail 16 = .ok (.iconst 2, 1) := by decide +kernel
theorem dL_addTail_17 : decode cL_addTail 17 = .ok (.ireturn, 1) := by decide +kernel
theorem dL_addTail_18 : decode cL_addTail 18 = .ok (.iconst 0, 1) := by decide +kernel
theorem dL_addTail_19 : decode cL_addTail 19 = .ok (.ireturn, 1) := by decide +kernel
theorem dL_pay_0 : decode cL_pay 0 = .ok (.aload_n 3, 1) := by decide +kernel
theorem dL_pay_1 : decode cL_pay 1 = .ok (.iconst 0, 1) := by decide +kernel
theorem dL_pay_2 : decode cL_pay 2 = .ok (.aload_n 0, 1) := by decide +kernel
theorem dL_pay_3 : decode cL_pay 3 = .ok (.iload_n 1, 1) := by decide +kernel
theorem dL_pay_4 : decode cL_pay 4 = .ok (.iload_n 2, 1) := by decide +kernel
theorem dL_pay_5 : decode cL_pay 5 = .ok (.invokevirtual 20, 3) := by decide +kernel
theorem dL_pay_8 : decode cL_pay 8 = .ok (.i2l, 1) := by decide +kernel
theorem dL_pay_9 : decode cL_pay 9 = .ok (.lastore, 1) := by decide +kernel
theorem dL_pay_10 : decode cL_pay 10 = .ok (.goto 15, 3) := by decide +kernel
theorem dL_pay_13 : decode cL_pay 13 = .ok (.astore 4, 2) := by decide +kernel
theorem dL_pay_15 : decode cL_pay 15 = .ok (.iconst 1, 1) := by decide +kernel
theorem dL_pay_16 : decode cL_pay 16 = .ok (.ireturn, 1) := by decide +kernel
theorem dL_pay_17 : decode cL_pay 17 = .ok (.astore 4, 2) := by decide +kernel
theorem dL_pay_19 : decode cL_pay 19 = .ok (.iconst 2, 1) := by decide +kernel
theorem dL_pay_20 : decode cL_pay 20 = .ok (.ireturn, 1) := by decide +kernel
theorem dL_pay_21 : decode cL_pay 21 = .ok (.astore 4, 2) := by decide +kernel
theorem dL_pay_23 : decode cL_pay 23 = .ok (.iconst 3, 1) := by decide +kernel
theorem dL_pay_24 : decode cL_pay 24 = .ok (.ireturn, 1) := by decide +kernel
theorem dL_pay_25 : decode cL_pay 25 = .ok (.iconst 0, 1) := by decide +kernel
theorem dL_pay_26 : decode cL_pay 26 = .ok (.ireturn, 1) := by decide +kernel
theorem dL_launch_0 : decode cL_launch 0 = .ok (.aload_n 2, 1) := by decide +kernel
theorem dL_launch_1 : decode cL_launch 1 = .ok (.iconst 0, 1) := by decide +kernel
theorem dL_launch_2 : decode cL_launch 2 = .ok (.aload_n 0, 1) := by decide +kernel
theorem dL_launch_3 : decode cL_launch 3 = .ok (.iload_n 1, 1) := by decide +kernel
theorem dL_launch_4 : decode cL_launch 4 = .ok (.invokevirtual 28, 3) := by decide +kernel
theorem dL_launch_7 : decode cL_launch 7 = .ok (.i2l, 1) := by decide +kernel
theorem dL_launch_8 : decode cL_launch 8 = .ok (.lastore, 1) := by decide +kernel
theorem dL_launch_9 : decode cL_launch 9 = .ok (.goto 9, 3) := by decide +kernel
theorem dL_launch_12 : decode cL_launch 12 = .ok (.astore_n 3, 1) := by decide +kernel
theorem dL_launch_13 : decode cL_launch 13 = .ok (.iconst 1, 1) := by decide +kernel
theorem dL_launch_14 : decode cL_launch 14 = .ok (.ireturn, 1) := by decide +kernel
theorem dL_launch_15 : decode cL_launch 15 = .ok (.astore_n 3, 1) := by decide +kernel
theorem dL_launch_16 : decode cL_launch 16 = .ok (.iconst 2, 1) := by decide +kernel
theorem dL_launch_17 : decode cL_launch 17 = .ok (.ireturn, 1) := by decide +kernel
theorem dL_launch_18 : decode cL_launch 18 = .ok (.iconst 0, 1) := by decide +kernel
theorem dL_launch_19 : decode cL_launch 19 = .ok (.ireturn, 1) := by decide +kernel
theorem dL_members_0 : decode cL_members 0 = .ok (.aload_n 2, 1) := by decide +kernel
theorem dL_members_1 : decode cL_members 1 = .ok (.iconst 0, 1) := by decide +kernel
theorem dL_members_2 : decode cL_members 2 = .ok (.aload_n 0, 1) := by decide +kernel
theorem dL_members_3 : decode cL_members 3 = .ok (.iload_n 1, 1) := by decide +kernel
theorem dL_members_4 : decode cL_members 4 = .ok (.invokevirtual 31, 3) := by decide +kernel
theorem dL_members_7 : decode cL_members 7 = .ok (.i2l, 1) := by decide +kernel
theorem dL_members_8 : decode cL_members 8 = .ok (.lastore, 1) := by decide +kernel
theorem dL_members_9 : decode cL_members 9 = .ok (.goto 6, 3) := by decide +kernel
theorem dL_members_12 : decode cL_members 12 = .ok (.astore_n 3, 1) := by decide +kernel
theorem dL_members_13 : decode cL_members 13 = .ok (.iconst 1, 1) := by decide +kernel
theorem dL_members_14 : decode cL_members 14 = .ok (.ireturn, 1) := by decide +kernel
theorem dL_members_15 : decode cL_members 15 = .ok (.iconst 0, 1) := by decide +kernel
theorem dL_members_16 : decode cL_members 16 = .ok (.ireturn, 1) := by decide +kernel
theorem dL_arrears_0 : decode cL_arrears 0 = .ok (.aload_n 2, 1) := by decide +kernel
theorem dL_arrears_1 : decode cL_arrears 1 = .ok (.iconst 0, 1) := by decide +kernel
theorem dL_arrears_2 : decode cL_arrears 2 = .ok (.aload_n 0, 1) := by decide +kernel
theorem dL_arrears_3 : decode cL_arrears 3 = .ok (.iload_n 1, 1) := by decide +kernel
theorem dL_arrears_4 : decode cL_arrears 4 = .ok (.invokevirtual 34, 3) := by decide +kernel
theorem dL_arrears_7 : decode cL_arrears 7 = .ok (.i2l, 1) := by decide +kernel
theorem dL_arrears_8 : decode cL_arrears 8 = .ok (.lastore, 1) := by decide +kernel
theorem dL_arrears_9 : decode cL_arrears 9 = .ok (.goto 6, 3) := by decide +kernel
theorem dL_arrears_12 : decode cL_arrears 12 = .ok (.astore_n 3, 1) := by decide +kernel
theorem dL_arrears_13 : decode cL_arrears 13 = .ok (.iconst 1, 1) := by decide +kernel
theorem dL_arrears_14 : decode cL_arrears 14 = .ok (.ireturn, 1) := by decide +kernel
theorem dL_arrears_15 : decode cL_arrears 15 = .ok (.iconst 0, 1) := by decide +kernel
theorem dL_arrears_16 : decode cL_arrears 16 = .ok (.ireturn, 1) := by decide +kernel
theorem dL_isFlying_0 : decode cL_isFlying 0 = .ok (.aload_n 2, 1) := by decide +kernel
theorem dL_isFlying_1 : decode cL_isFlying 1 = .ok (.iconst 0, 1) := by decide +kernel
theorem dL_isFlying_2 : decode cL_isFlying 2 = .ok (.aload_n 0, 1) := by decide +kernel
theorem dL_isFlying_3 : decode cL_isFlying 3 = .ok (.iload_n 1, 1) := by decide +kernel
theorem dL_isFlying_4 : decode cL_isFlying 4 = .ok (.invokevirtual 37, 3) := by decide +kernel
theorem dL_isFlying_7 : decode cL_isFlying 7 = .ok (.ifCond .eq 7, 3) := by decide +kernel
theorem dL_isFlying_10 : decode cL_isFlying 10 = .ok (.lconst 1, 1) := by decide +kernel
theorem dL_isFlying_11 : decode cL_isFlying 11 = .ok (.goto 4, 3) := by decide +kernel
theorem dL_isFlying_14 : decode cL_isFlying 14 = .ok (.lconst 0, 1) := by decide +kernel
theorem dL_isFlying_15 : decode cL_isFlying 15 = .ok (.lastore, 1) := by decide +kernel
theorem dL_isFlying_16 : decode cL_isFlying 16 = .ok (.goto 6, 3) := by decide +kernel
theorem dL_isFlying_19 : decode cL_isFlying 19 = .ok (.astore_n 3, 1) := by decide +kernel
theorem dL_isFlying_20 : decode cL_isFlying 20 = .ok (.iconst 1, 1) := by decide +kernel
theorem dL_isFlying_21 : decode cL_isFlying 21 = .ok (.ireturn, 1) := by decide +kernel
theorem dL_isFlying_22 : decode cL_isFlying 22 = .ok (.iconst 0, 1) := by decide +kernel
theorem dL_isFlying_23 : decode cL_isFlying 23 = .ok (.ireturn, 1) := by decide +kernel
theorem dL_tailLength_0 : decode cL_tailLength 0 = .ok (.aload_n 2, 1) := by decide +kernel
theorem dL_tailLength_1 : decode cL_tailLength 1 = .ok (.iconst 0, 1) := by decide +kernel
theorem dL_tailLength_2 : decode cL_tailLength 2 = .ok (.aload_n 0, 1) := by decide +kernel
theorem dL_tailLength_3 : decode cL_tailLength 3 = .ok (.iload_n 1, 1) := by decide +kernel
theorem dL_tailLength_4 : decode cL_tailLength 4 = .ok (.invokevirtual 41, 3) := by decide +kernel
theorem dL_tailLength_7 : decode cL_tailLength 7 = .ok (.i2l, 1) := by decide +kernel
theorem dL_tailLength_8 : decode cL_tailLength 8 = .ok (.lastore, 1) := by decide +kernel
theorem dL_tailLength_9 : decode cL_tailLength 9 = .ok (.goto 6, 3) := by decide +kernel
theorem dL_tailLength_12 : decode cL_tailLength 12 = .ok (.astore_n 3, 1) := by decide +kernel
theorem dL_tailLength_13 : decode cL_tailLength 13 = .ok (.iconst 1, 1) := by decide +kernel
theorem dL_tailLength_14 : decode cL_tailLength 14 = .ok (.ireturn, 1) := by decide +kernel
theorem dL_tailLength_15 : decode cL_tailLength 15 = .ok (.iconst 0, 1) := by decide +kernel
theorem dL_tailLength_16 : decode cL_tailLength 16 = .ok (.ireturn, 1) := by decide +kernel
theorem dL_tailsOf_0 : decode cL_tailsOf 0 = .ok (.aload_n 2, 1) := by decide +kernel
theorem dL_tailsOf_1 : decode cL_tailsOf 1 = .ok (.iconst 0, 1) := by decide +kernel
theorem dL_tailsOf_2 : decode cL_tailsOf 2 = .ok (.aload_n 0, 1) := by decide +kernel
theorem dL_tailsOf_3 : decode cL_tailsOf 3 = .ok (.iload_n 1, 1) := by decide +kernel
theorem dL_tailsOf_4 : decode cL_tailsOf 4 = .ok (.invokevirtual 44, 3) := by decide +kernel
theorem dL_tailsOf_7 : decode cL_tailsOf 7 = .ok (.i2l, 1) := by decide +kernel
theorem dL_tailsOf_8 : decode cL_tailsOf 8 = .ok (.lastore, 1) := by decide +kernel
theorem dL_tailsOf_9 : decode cL_tailsOf 9 = .ok (.goto 6, 3) := by decide +kernel
theorem dL_tailsOf_12 : decode cL_tailsOf 12 = .ok (.astore_n 3, 1) := by decide +kernel
theorem dL_tailsOf_13 : decode cL_tailsOf 13 = .ok (.iconst 1, 1) := by decide +kernel
theorem dL_tailsOf_14 : decode cL_tailsOf 14 = .ok (.ireturn, 1) := by decide +kernel
theorem dL_tailsOf_15 : decode cL_tailsOf 15 = .ok (.iconst 0, 1) := by decide +kernel
theorem dL_tailsOf_16 : decode cL_tailsOf 16 = .ok (.ireturn, 1) := by decide +kernel
theorem dL_length_0 : decode cL_length 0 = .ok (.aload_n 2, 1) := by decide +kernel
theorem dL_length_1 : decode cL_length 1 = .ok (.iconst 0, 1) := by decide +kernel
theorem dL_length_2 : decode cL_length 2 = .ok (.aload_n 0, 1) := by decide +kernel
theorem dL_length_3 : decode cL_length 3 = .ok (.iload_n 1, 1) := by decide +kernel
theorem dL_length_4 : decode cL_length 4 = .ok (.invokevirtual 47, 3) := by decide +kernel
theorem dL_length_7 : decode cL_length 7 = .ok (.i2l, 1) := by decide +kernel
theorem dL_length_8 : decode cL_length 8 = .ok (.lastore, 1) := by decide +kernel
theorem dL_length_9 : decode cL_length 9 = .ok (.goto 6, 3) := by decide +kernel
theorem dL_length_12 : decode cL_length 12 = .ok (.astore_n 3, 1) := by decide +kernel
theorem dL_length_13 : decode cL_length 13 = .ok (.iconst 1, 1) := by decide +kernel
theorem dL_length_14 : decode cL_length 14 = .ok (.ireturn, 1) := by decide +kernel
theorem dL_length_15 : decode cL_length 15 = .ok (.iconst 0, 1) := by decide +kernel
theorem dL_length_16 : decode cL_length 16 = .ok (.ireturn, 1) := by decide +kernel
theorem dL_isFree_0 : decode cL_isFree 0 = .ok (.aload_n 2, 1) := by decide +kernel
theorem dL_isFree_1 : decode cL_isFree 1 = .ok (.iconst 0, 1) := by decide +kernel
theorem dL_isFree_2 : decode cL_isFree 2 = .ok (.aload_n 0, 1) := by decide +kernel
theorem dL_isFree_3 : decode cL_isFree 3 = .ok (.iload_n 1, 1) := by decide +kernel
theorem dL_isFree_4 : decode cL_isFree 4 = .ok (.invokevirtual 50, 3) := by decide +kernel
theorem dL_isFree_7 : decode cL_isFree 7 = .ok (.ifCond .eq 7, 3) := by decide +kernel
theorem dL_isFree_10 : decode cL_isFree 10 = .ok (.lconst 1, 1) := by decide +kernel
theorem dL_isFree_11 : decode cL_isFree 11 = .ok (.goto 4, 3) := by decide +kernel
theorem dL_isFree_14 : decode cL_isFree 14 = .ok (.lconst 0, 1) := by decide +kernel
theorem dL_isFree_15 : decode cL_isFree 15 = .ok (.lastore, 1) := by decide +kernel
theorem dL_isFree_16 : decode cL_isFree 16 = .ok (.goto 6, 3) := by decide +kernel
theorem dL_isFree_19 : decode cL_isFree 19 = .ok (.astore_n 3, 1) := by decide +kernel
theorem dL_isFree_20 : decode cL_isFree 20 = .ok (.iconst 1, 1) := by decide +kernel
theorem dL_isFree_21 : decode cL_isFree 21 = .ok (.ireturn, 1) := by decide +kernel
theorem dL_isFree_22 : decode cL_isFree 22 = .ok (.iconst 0, 1) := by decide +kernel
theorem dL_isFree_23 : decode cL_isFree 23 = .ok (.ireturn, 1) := by decide +kernel
theorem dL_renterOf_0 : decode cL_renterOf 0 = .ok (.aload_n 2, 1) := by decide +kernel
theorem dL_renterOf_1 : decode cL_renterOf 1 = .ok (.iconst 0, 1) := by decide +kernel
theorem dL_renterOf_2 : decode cL_renterOf 2 = .ok (.aload_n 0, 1) := by decide +kernel
theorem dL_renterOf_3 : decode cL_renterOf 3 = .ok (.iload_n 1, 1) := by decide +kernel
theorem dL_renterOf_4 : decode cL_renterOf 4 = .ok (.invokevirtual 53, 3) := by decide +kernel
theorem dL_renterOf_7 : decode cL_renterOf 7 = .ok (.i2l, 1) := by decide +kernel
theorem dL_renterOf_8 : decode cL_renterOf 8 = .ok (.lastore, 1) := by decide +kernel
theorem dL_renterOf_9 : decode cL_renterOf 9 = .ok (.goto 9, 3) := by decide +kernel
theorem dL_renterOf_12 : decode cL_renterOf 12 = .ok (.astore_n 3, 1) := by decide +kernel
theorem dL_renterOf_13 : decode cL_renterOf 13 = .ok (.iconst 1, 1) := by decide +kernel
theorem dL_renterOf_14 : decode cL_renterOf 14 = .ok (.ireturn, 1) := by decide +kernel
theorem dL_renterOf_15 : decode cL_renterOf 15 = .ok (.astore_n 3, 1) := by decide +kernel
theorem dL_renterOf_16 : decode cL_renterOf 16 = .ok (.iconst 2, 1) := by decide +kernel
theorem dL_renterOf_17 : decode cL_renterOf 17 = .ok (.ireturn, 1) := by decide +kernel
theorem dL_renterOf_18 : decode cL_renterOf 18 = .ok (.iconst 0, 1) := by decide +kernel
theorem dL_renterOf_19 : decode cL_renterOf 19 = .ok (.ireturn, 1) := by decide +kernel
theorem dL_shortestFreeTail_0 : decode cL_shortestFreeTail 0 = .ok (.aload_n 1, 1) := by decide +kernel
theorem dL_shortestFreeTail_1 : decode cL_shortestFreeTail 1 = .ok (.iconst 0, 1) := by decide +kernel
theorem dL_shortestFreeTail_2 : decode cL_shortestFreeTail 2 = .ok (.aload_n 0, 1) := by decide +kernel
theorem dL_shortestFreeTail_3 : decode cL_shortestFreeTail 3 = .ok (.invokevirtual 58, 3) := by decide +kernel
theorem dL_shortestFreeTail_6 : decode cL_shortestFreeTail 6 = .ok (.i2l, 1) := by decide +kernel
theorem dL_shortestFreeTail_7 : decode cL_shortestFreeTail 7 = .ok (.lastore, 1) := by decide +kernel
theorem dL_shortestFreeTail_8 : decode cL_shortestFreeTail 8 = .ok (.goto 6, 3) := by decide +kernel
theorem dL_shortestFreeTail_11 : decode cL_shortestFreeTail 11 = .ok (.astore_n 2, 1) := by decide +kernel
theorem dL_shortestFreeTail_12 : decode cL_shortestFreeTail 12 = .ok (.iconst 1, 1) := by decide +kernel
theorem dL_shortestFreeTail_13 : decode cL_shortestFreeTail 13 = .ok (.ireturn, 1) := by decide +kernel
theorem dL_shortestFreeTail_14 : decode cL_shortestFreeTail 14 = .ok (.iconst 0, 1) := by decide +kernel
theorem dL_shortestFreeTail_15 : decode cL_shortestFreeTail 15 = .ok (.ireturn, 1) := by decide +kernel
theorem dL_moveToRent_0 : decode cL_moveToRent 0 = .ok (.aload_n 3, 1) := by decide +kernel
theorem dL_moveToRent_1 : decode cL_moveToRent 1 = .ok (.iconst 0, 1) := by decide +kernel
theorem dL_moveToRent_2 : decode cL_moveToRent 2 = .ok (.aload_n 0, 1) := by decide +kernel
theorem dL_moveToRent_3 : decode cL_moveToRent 3 = .ok (.iload_n 1, 1) := by decide +kernel
theorem dL_moveToRent_4 : decode cL_moveToRent 4 = .ok (.iload_n 2, 1) := by decide +kernel
theorem dL_moveToRent_5 : decode cL_moveToRent 5 = .ok (.invokevirtual 62, 3) := by decide +kernel
theorem dL_moveToRent_8 : decode cL_moveToRent 8 = .ok (.i2l, 1) := by decide +kernel
theorem dL_moveToRent_9 : decode cL_moveToRent 9 = .ok (.lastore, 1) := by decide +kernel
theorem dL_moveToRent_10 : decode cL_moveToRent 10 = .ok (.goto 11, 3) := by decide +kernel
theorem dL_moveToRent_13 : decode cL_moveToRent 13 = .ok (.astore 4, 2) := by decide +kernel
theorem dL_moveToRent_15 : decode cL_moveToRent 15 = .ok (.iconst 1, 1) := by decide +kernel
theorem dL_moveToRent_16 : decode cL_moveToRent 16 = .ok (.ireturn, 1) := by decide +kernel
theorem dL_moveToRent_17 : decode cL_moveToRent 17 = .ok (.astore 4, 2) := by decide +kernel
theorem dL_moveToRent_19 : decode cL_moveToRent 19 = .ok (.iconst 2, 1) := by decide +kernel
theorem dL_moveToRent_20 : decode cL_moveToRent 20 = .ok (.ireturn, 1) := by decide +kernel
theorem dL_moveToRent_21 : decode cL_moveToRent 21 = .ok (.iconst 0, 1) := by decide +kernel
theorem dL_moveToRent_22 : decode cL_moveToRent 22 = .ok (.ireturn, 1) := by decide +kernel
theorem dL_moveToReturn_0 : decode cL_moveToReturn 0 = .ok (.aload_n 3, 1) := by decide +kernel
theorem dL_moveToReturn_1 : decode cL_moveToReturn 1 = .ok (.iconst 0, 1) := by decide +kernel
theorem dL_moveToReturn_2 : decode cL_moveToReturn 2 = .ok (.aload_n 0, 1) := by decide +kernel
theorem dL_moveToReturn_3 : decode cL_moveToReturn 3 = .ok (.iload_n 1, 1) := by decide +kernel
theorem dL_moveToReturn_4 : decode cL_moveToReturn 4 = .ok (.iload_n 2, 1) := by decide +kernel
theorem dL_moveToReturn_5 : decode cL_moveToReturn 5 = .ok (.invokevirtual 65, 3) := by decide +kernel
theorem dL_moveToReturn_8 : decode cL_moveToReturn 8 = .ok (.i2l, 1) := by decide +kernel
theorem dL_moveToReturn_9 : decode cL_moveToReturn 9 = .ok (.lastore, 1) := by decide +kernel
theorem dL_moveToReturn_10 : decode cL_moveToReturn 10 = .ok (.goto 11, 3) := by decide +kernel
theorem dL_moveToReturn_13 : decode cL_moveToReturn 13 = .ok (.astore 4, 2) := by decide +kernel
theorem dL_moveToReturn_15 : decode cL_moveToReturn 15 = .ok (.iconst 1, 1) := by decide +kernel
theorem dL_moveToReturn_16 : decode cL_moveToReturn 16 = .ok (.ireturn, 1) := by decide +kernel
theorem dL_moveToReturn_17 : decode cL_moveToReturn 17 = .ok (.astore 4, 2) := by decide +kernel
theorem dL_moveToReturn_19 : decode cL_moveToReturn 19 = .ok (.iconst 2, 1) := by decide +kernel
theorem dL_moveToReturn_20 : decode cL_moveToReturn 20 = .ok (.ireturn, 1) := by decide +kernel
theorem dL_moveToReturn_21 : decode cL_moveToReturn 21 = .ok (.iconst 0, 1) := by decide +kernel
theorem dL_moveToReturn_22 : decode cL_moveToReturn 22 = .ok (.ireturn, 1) := by decide +kernel
theorem dL_moveToGround_0 : decode cL_moveToGround 0 = .ok (.aload_n 3, 1) := by decide +kernel
theorem dL_moveToGround_1 : decode cL_moveToGround 1 = .ok (.iconst 0, 1) := by decide +kernel
theorem dL_moveToGround_2 : decode cL_moveToGround 2 = .ok (.aload_n 0, 1) := by decide +kernel
theorem dL_moveToGround_3 : decode cL_moveToGround 3 = .ok (.iload_n 1, 1) := by decide +kernel
theorem dL_moveToGround_4 : decode cL_moveToGround 4 = .ok (.iload_n 2, 1) := by decide +kernel
theorem dL_moveToGround_5 : decode cL_moveToGround 5 = .ok (.invokevirtual 68, 3) := by decide +kernel
theorem dL_moveToGround_8 : decode cL_moveToGround 8 = .ok (.i2l, 1) := by decide +kernel
theorem dL_moveToGround_9 : decode cL_moveToGround 9 = .ok (.lastore, 1) := by decide +kernel
theorem dL_moveToGround_10 : decode cL_moveToGround 10 = .ok (.goto 11, 3) := by decide +kernel
theorem dL_moveToGround_13 : decode cL_moveToGround 13 = .ok (.astore 4, 2) := by decide +kernel
theorem dL_moveToGround_15 : decode cL_moveToGround 15 = .ok (.iconst 1, 1) := by decide +kernel
theorem dL_moveToGround_16 : decode cL_moveToGround 16 = .ok (.ireturn, 1) := by decide +kernel
theorem dL_moveToGround_17 : decode cL_moveToGround 17 = .ok (.astore 4, 2) := by decide +kernel
theorem dL_moveToGround_19 : decode cL_moveToGround 19 = .ok (.iconst 2, 1) := by decide +kernel
theorem dL_moveToGround_20 : decode cL_moveToGround 20 = .ok (.ireturn, 1) := by decide +kernel
theorem dL_moveToGround_21 : decode cL_moveToGround 21 = .ok (.iconst 0, 1) := by decide +kernel
theorem dL_moveToGround_22 : decode cL_moveToGround 22 = .ok (.ireturn, 1) := by decide +kernel
theorem dL_second_0 : decode cL_second 0 = .ok (.aload_n 3, 1) := by decide +kernel
theorem dL_second_1 : decode cL_second 1 = .ok (.iconst 0, 1) := by decide +kernel
theorem dL_second_2 : decode cL_second 2 = .ok (.aload_n 0, 1) := by decide +kernel
theorem dL_second_3 : decode cL_second 3 = .ok (.iload_n 1, 1) := by decide +kernel
theorem dL_second_4 : decode cL_second 4 = .ok (.iload_n 2, 1) := by decide +kernel
theorem dL_second_5 : decode cL_second 5 = .ok (.invokevirtual 71, 3) := by decide +kernel
theorem dL_second_8 : decode cL_second 8 = .ok (.i2l, 1) := by decide +kernel
theorem dL_second_9 : decode cL_second 9 = .ok (.lastore, 1) := by decide +kernel
theorem dL_second_10 : decode cL_second 10 = .ok (.goto 19, 3) := by decide +kernel
theorem dL_second_13 : decode cL_second 13 = .ok (.astore 4, 2) := by decide +kernel
theorem dL_second_15 : decode cL_second 15 = .ok (.iconst 1, 1) := by decide +kernel
theorem dL_second_16 : decode cL_second 16 = .ok (.ireturn, 1) := by decide +kernel
theorem dL_second_17 : decode cL_second 17 = .ok (.astore 4, 2) := by decide +kernel
theorem dL_second_19 : decode cL_second 19 = .ok (.iconst 2, 1) := by decide +kernel
theorem dL_second_20 : decode cL_second 20 = .ok (.ireturn, 1) := by decide +kernel
theorem dL_second_21 : decode cL_second 21 = .ok (.astore 4, 2) := by decide +kernel
theorem dL_second_23 : decode cL_second 23 = .ok (.iconst 3, 1) := by decide +kernel
theorem dL_second_24 : decode cL_second 24 = .ok (.ireturn, 1) := by decide +kernel
theorem dL_second_25 : decode cL_second 25 = .ok (.astore 4, 2) := by decide +kernel
theorem dL_second_27 : decode cL_second 27 = .ok (.iconst 4, 1) := by decide +kernel
theorem dL_second_28 : decode cL_second 28 = .ok (.ireturn, 1) := by decide +kernel
theorem dL_second_29 : decode cL_second 29 = .ok (.iconst 0, 1) := by decide +kernel
theorem dL_second_30 : decode cL_second 30 = .ok (.ireturn, 1) := by decide +kernel
theorem dL_untable_0 : decode cL_untable 0 = .ok (.aload_n 2, 1) := by decide +kernel
theorem dL_untable_1 : decode cL_untable 1 = .ok (.iconst 0, 1) := by decide +kernel
theorem dL_untable_2 : decode cL_untable 2 = .ok (.aload_n 0, 1) := by decide +kernel
theorem dL_untable_3 : decode cL_untable 3 = .ok (.iload_n 1, 1) := by decide +kernel
theorem dL_untable_4 : decode cL_untable 4 = .ok (.invokevirtual 74, 3) := by decide +kernel
theorem dL_untable_7 : decode cL_untable 7 = .ok (.i2l, 1) := by decide +kernel
theorem dL_untable_8 : decode cL_untable 8 = .ok (.lastore, 1) := by decide +kernel
theorem dL_untable_9 : decode cL_untable 9 = .ok (.goto 9, 3) := by decide +kernel
theorem dL_untable_12 : decode cL_untable 12 = .ok (.astore_n 3, 1) := by decide +kernel
theorem dL_untable_13 : decode cL_untable 13 = .ok (.iconst 1, 1) := by decide +kernel
theorem dL_untable_14 : decode cL_untable 14 = .ok (.ireturn, 1) := by decide +kernel
theorem dL_untable_15 : decode cL_untable 15 = .ok (.astore_n 3, 1) := by decide +kernel
theorem dL_untable_16 : decode cL_untable 16 = .ok (.iconst 2, 1) := by decide +kernel
theorem dL_untable_17 : decode cL_untable 17 = .ok (.ireturn, 1) := by decide +kernel
theorem dL_untable_18 : decode cL_untable 18 = .ok (.iconst 0, 1) := by decide +kernel
theorem dL_untable_19 : decode cL_untable 19 = .ok (.ireturn, 1) := by decide +kernel
theorem dL_withdraw_0 : decode cL_withdraw 0 = .ok (.aload_n 2, 1) := by decide +kernel
theorem dL_withdraw_1 : decode cL_withdraw 1 = .ok (.iconst 0, 1) := by decide +kernel
theorem dL_withdraw_2 : decode cL_withdraw 2 = .ok (.aload_n 0, 1) := by decide +kernel
theorem dL_withdraw_3 : decode cL_withdraw 3 = .ok (.iload_n 1, 1) := by decide +kernel
theorem dL_withdraw_4 : decode cL_withdraw 4 = .ok (.invokevirtual 77, 3) := by decide +kernel
theorem dL_withdraw_7 : decode cL_withdraw 7 = .ok (.i2l, 1) := by decide +kernel
theorem dL_withdraw_8 : decode cL_withdraw 8 = .ok (.lastore, 1) := by decide +kernel
theorem dL_withdraw_9 : decode cL_withdraw 9 = .ok (.goto 6, 3) := by decide +kernel
theorem dL_withdraw_12 : decode cL_withdraw 12 = .ok (.astore_n 3, 1) := by decide +kernel
theorem dL_withdraw_13 : decode cL_withdraw 13 = .ok (.iconst 1, 1) := by decide +kernel
theorem dL_withdraw_14 : decode cL_withdraw 14 = .ok (.ireturn, 1) := by decide +kernel
theorem dL_withdraw_15 : decode cL_withdraw 15 = .ok (.iconst 0, 1) := by decide +kernel
theorem dL_withdraw_16 : decode cL_withdraw 16 = .ok (.ireturn, 1) := by decide +kernel
theorem dL_vote_0 : decode cL_vote 0 = .ok (.aload_n 2, 1) := by decide +kernel
theorem dL_vote_1 : decode cL_vote 1 = .ok (.iconst 0, 1) := by decide +kernel
theorem dL_vote_2 : decode cL_vote 2 = .ok (.aload_n 0, 1) := by decide +kernel
theorem dL_vote_3 : decode cL_vote 3 = .ok (.iload_n 1, 1) := by decide +kernel
theorem dL_vote_4 : decode cL_vote 4 = .ok (.invokevirtual 80, 3) := by decide +kernel
theorem dL_vote_7 : decode cL_vote 7 = .ok (.ifCond .eq 7, 3) := by decide +kernel
theorem dL_vote_10 : decode cL_vote 10 = .ok (.lconst 1, 1) := by decide +kernel
theorem dL_vote_11 : decode cL_vote 11 = .ok (.goto 4, 3) := by decide +kernel
theorem dL_vote_14 : decode cL_vote 14 = .ok (.lconst 0, 1) := by decide +kernel
theorem dL_vote_15 : decode cL_vote 15 = .ok (.lastore, 1) := by decide +kernel
theorem dL_vote_16 : decode cL_vote 16 = .ok (.goto 9, 3) := by decide +kernel
theorem dL_vote_19 : decode cL_vote 19 = .ok (.astore_n 3, 1) := by decide +kernel
theorem dL_vote_20 : decode cL_vote 20 = .ok (.iconst 1, 1) := by decide +kernel
theorem dL_vote_21 : decode cL_vote 21 = .ok (.ireturn, 1) := by decide +kernel
theorem dL_vote_22 : decode cL_vote 22 = .ok (.astore_n 3, 1) := by decide +kernel
theorem dL_vote_23 : decode cL_vote 23 = .ok (.iconst 2, 1) := by decide +kernel
theorem dL_vote_24 : decode cL_vote 24 = .ok (.ireturn, 1) := by decide +kernel
theorem dL_vote_25 : decode cL_vote 25 = .ok (.iconst 0, 1) := by decide +kernel
theorem dL_vote_26 : decode cL_vote 26 = .ok (.ireturn, 1) := by decide +kernel
theorem dL_motionAt_0 : decode cL_motionAt 0 = .ok (.aload_n 2, 1) := by decide +kernel
theorem dL_motionAt_1 : decode cL_motionAt 1 = .ok (.iconst 0, 1) := by decide +kernel
theorem dL_motionAt_2 : decode cL_motionAt 2 = .ok (.aload_n 0, 1) := by decide +kernel
theorem dL_motionAt_3 : decode cL_motionAt 3 = .ok (.iload_n 1, 1) := by decide +kernel
theorem dL_motionAt_4 : decode cL_motionAt 4 = .ok (.invokevirtual 83, 3) := by decide +kernel
theorem dL_motionAt_7 : decode cL_motionAt 7 = .ok (.i2l, 1) := by decide +kernel
theorem dL_motionAt_8 : decode cL_motionAt 8 = .ok (.lastore, 1) := by decide +kernel
theorem dL_motionAt_9 : decode cL_motionAt 9 = .ok (.goto 6, 3) := by decide +kernel
theorem dL_motionAt_12 : decode cL_motionAt 12 = .ok (.astore_n 3, 1) := by decide +kernel
theorem dL_motionAt_13 : decode cL_motionAt 13 = .ok (.iconst 1, 1) := by decide +kernel
theorem dL_motionAt_14 : decode cL_motionAt 14 = .ok (.ireturn, 1) := by decide +kernel
theorem dL_motionAt_15 : decode cL_motionAt 15 = .ok (.iconst 0, 1) := by decide +kernel
theorem dL_motionAt_16 : decode cL_motionAt 16 = .ok (.ireturn, 1) := by decide +kernel
theorem dL_moverOf_0 : decode cL_moverOf 0 = .ok (.aload_n 2, 1) := by decide +kernel
theorem dL_moverOf_1 : decode cL_moverOf 1 = .ok (.iconst 0, 1) := by decide +kernel
theorem dL_moverOf_2 : decode cL_moverOf 2 = .ok (.aload_n 0, 1) := by decide +kernel
theorem dL_moverOf_3 : decode cL_moverOf 3 = .ok (.iload_n 1, 1) := by decide +kernel
theorem dL_moverOf_4 : decode cL_moverOf 4 = .ok (.invokevirtual 86, 3) := by decide +kernel
theorem dL_moverOf_7 : decode cL_moverOf 7 = .ok (.i2l, 1) := by decide +kernel
theorem dL_moverOf_8 : decode cL_moverOf 8 = .ok (.lastore, 1) := by decide +kernel
theorem dL_moverOf_9 : decode cL_moverOf 9 = .ok (.goto 6, 3) := by decide +kernel
theorem dL_moverOf_12 : decode cL_moverOf 12 = .ok (.astore_n 3, 1) := by decide +kernel
theorem dL_moverOf_13 : decode cL_moverOf 13 = .ok (.iconst 1, 1) := by decide +kernel
theorem dL_moverOf_14 : decode cL_moverOf 14 = .ok (.ireturn, 1) := by decide +kernel
theorem dL_moverOf_15 : decode cL_moverOf 15 = .ok (.iconst 0, 1) := by decide +kernel
theorem dL_moverOf_16 : decode cL_moverOf 16 = .ok (.ireturn, 1) := by decide +kernel
theorem dL_isSeconded_0 : decode cL_isSeconded 0 = .ok (.aload_n 2, 1) := by decide +kernel
theorem dL_isSeconded_1 : decode cL_isSeconded 1 = .ok (.iconst 0, 1) := by decide +kernel
theorem dL_isSeconded_2 : decode cL_isSeconded 2 = .ok (.aload_n 0, 1) := by decide +kernel
theorem dL_isSeconded_3 : decode cL_isSeconded 3 = .ok (.iload_n 1, 1) := by decide +kernel
theorem dL_isSeconded_4 : decode cL_isSeconded 4 = .ok (.invokevirtual 89, 3) := by decide +kernel
theorem dL_isSeconded_7 : decode cL_isSeconded 7 = .ok (.ifCond .eq 7, 3) := by decide +kernel
theorem dL_isSeconded_10 : decode cL_isSeconded 10 = .ok (.lconst 1, 1) := by decide +kernel
theorem dL_isSeconded_11 : decode cL_isSeconded 11 = .ok (.goto 4, 3) := by decide +kernel
theorem dL_isSeconded_14 : decode cL_isSeconded 14 = .ok (.lconst 0, 1) := by decide +kernel
theorem dL_isSeconded_15 : decode cL_isSeconded 15 = .ok (.lastore, 1) := by decide +kernel
theorem dL_isSeconded_16 : decode cL_isSeconded 16 = .ok (.goto 6, 3) := by decide +kernel
theorem dL_isSeconded_19 : decode cL_isSeconded 19 = .ok (.astore_n 3, 1) := by decide +kernel
theorem dL_isSeconded_20 : decode cL_isSeconded 20 = .ok (.iconst 1, 1) := by decide +kernel
theorem dL_isSeconded_21 : decode cL_isSeconded 21 = .ok (.ireturn, 1) := by decide +kernel
theorem dL_isSeconded_22 : decode cL_isSeconded 22 = .ok (.iconst 0, 1) := by decide +kernel
theorem dL_isSeconded_23 : decode cL_isSeconded 23 = .ok (.ireturn, 1) := by decide +kernel
theorem dL_seconderOf_0 : decode cL_seconderOf 0 = .ok (.aload_n 2, 1) := by decide +kernel
theorem dL_seconderOf_1 : decode cL_seconderOf 1 = .ok (.iconst 0, 1) := by decide +kernel
theorem dL_seconderOf_2 : decode cL_seconderOf 2 = .ok (.aload_n 0, 1) := by decide +kernel
theorem dL_seconderOf_3 : decode cL_seconderOf 3 = .ok (.iload_n 1, 1) := by decide +kernel
theorem dL_seconderOf_4 : decode cL_seconderOf 4 = .ok (.invokevirtual 92, 3) := by decide +kernel
theorem dL_seconderOf_7 : decode cL_seconderOf 7 = .ok (.i2l, 1) := by decide +kernel
theorem dL_seconderOf_8 : decode cL_seconderOf 8 = .ok (.lastore, 1) := by decide +kernel
theorem dL_seconderOf_9 : decode cL_seconderOf 9 = .ok (.goto 9, 3) := by decide +kernel
theorem dL_seconderOf_12 : decode cL_seconderOf 12 = .ok (.astore_n 3, 1) := by decide +kernel
theorem dL_seconderOf_13 : decode cL_seconderOf 13 = .ok (.iconst 1, 1) := by decide +kernel
theorem dL_seconderOf_14 : decode cL_seconderOf 14 = .ok (.ireturn, 1) := by decide +kernel
theorem dL_seconderOf_15 : decode cL_seconderOf 15 = .ok (.astore_n 3, 1) := by decide +kernel
theorem dL_seconderOf_16 : decode cL_seconderOf 16 = .ok (.iconst 2, 1) := by decide +kernel
theorem dL_seconderOf_17 : decode cL_seconderOf 17 = .ok (.ireturn, 1) := by decide +kernel
theorem dL_seconderOf_18 : decode cL_seconderOf 18 = .ok (.iconst 0, 1) := by decide +kernel
theorem dL_seconderOf_19 : decode cL_seconderOf 19 = .ok (.ireturn, 1) := by decide +kernel
theorem dL_isTabled_0 : decode cL_isTabled 0 = .ok (.aload_n 2, 1) := by decide +kernel
theorem dL_isTabled_1 : decode cL_isTabled 1 = .ok (.iconst 0, 1) := by decide +kernel
theorem dL_isTabled_2 : decode cL_isTabled 2 = .ok (.aload_n 0, 1) := by decide +kernel
theorem dL_isTabled_3 : decode cL_isTabled 3 = .ok (.iload_n 1, 1) := by decide +kernel
theorem dL_isTabled_4 : decode cL_isTabled 4 = .ok (.invokevirtual 95, 3) := by decide +kernel
theorem dL_isTabled_7 : decode cL_isTabled 7 = .ok (.ifCond .eq 7, 3) := by decide +kernel
theorem dL_isTabled_10 : decode cL_isTabled 10 = .ok (.lconst 1, 1) := by decide +kernel
theorem dL_isTabled_11 : decode cL_isTabled 11 = .ok (.goto 4, 3) := by decide +kernel
theorem dL_isTabled_14 : decode cL_isTabled 14 = .ok (.lconst 0, 1) := by decide +kernel
theorem dL_isTabled_15 : decode cL_isTabled 15 = .ok (.lastore, 1) := by decide +kernel
theorem dL_isTabled_16 : decode cL_isTabled 16 = .ok (.goto 6, 3) := by decide +kernel
theorem dL_isTabled_19 : decode cL_isTabled 19 = .ok (.astore_n 3, 1) := by decide +kernel
theorem dL_isTabled_20 : decode cL_isTabled 20 = .ok (.iconst 1, 1) := by decide +kernel
theorem dL_isTabled_21 : decode cL_isTabled 21 = .ok (.ireturn, 1) := by decide +kernel
theorem dL_isTabled_22 : decode cL_isTabled 22 = .ok (.iconst 0, 1) := by decide +kernel
theorem dL_isTabled_23 : decode cL_isTabled 23 = .ok (.ireturn, 1) := by decide +kernel
theorem dL_votesFor_0 : decode cL_votesFor 0 = .ok (.aload_n 2, 1) := by decide +kernel
theorem dL_votesFor_1 : decode cL_votesFor 1 = .ok (.iconst 0, 1) := by decide +kernel
theorem dL_votesFor_2 : decode cL_votesFor 2 = .ok (.aload_n 0, 1) := by decide +kernel
theorem dL_votesFor_3 : decode cL_votesFor 3 = .ok (.iload_n 1, 1) := by decide +kernel
theorem dL_votesFor_4 : decode cL_votesFor 4 = .ok (.invokevirtual 98, 3) := by decide +kernel
theorem dL_votesFor_7 : decode cL_votesFor 7 = .ok (.i2l, 1) := by decide +kernel
theorem dL_votesFor_8 : decode cL_votesFor 8 = .ok (.lastore, 1) := by decide +kernel
theorem dL_votesFor_9 : decode cL_votesFor 9 = .ok (.goto 6, 3) := by decide +kernel
theorem dL_votesFor_12 : decode cL_votesFor 12 = .ok (.astore_n 3, 1) := by decide +kernel
theorem dL_votesFor_13 : decode cL_votesFor 13 = .ok (.iconst 1, 1) := by decide +kernel
theorem dL_votesFor_14 : decode cL_votesFor 14 = .ok (.ireturn, 1) := by decide +kernel
theorem dL_votesFor_15 : decode cL_votesFor 15 = .ok (.iconst 0, 1) := by decide +kernel
theorem dL_votesFor_16 : decode cL_votesFor 16 = .ok (.ireturn, 1) := by decide +kernel
theorem dL_votesForByMember_0 : decode cL_votesForByMember 0 = .ok (.aload_n 2, 1) := by decide +kernel
theorem dL_votesForByMember_1 : decode cL_votesForByMember 1 = .ok (.iconst 0, 1) := by decide +kernel
theorem dL_votesForByMember_2 : decode cL_votesForByMember 2 = .ok (.aload_n 0, 1) := by decide +kernel
theorem dL_votesForByMember_3 : decode cL_votesForByMember 3 = .ok (.iload_n 1, 1) := by decide +kernel
theorem dL_votesForByMember_4 : decode cL_votesForByMember 4 = .ok (.invokevirtual 101, 3) := by decide +kernel
theorem dL_votesForByMember_7 : decode cL_votesForByMember 7 = .ok (.i2l, 1) := by decide +kernel
theorem dL_votesForByMember_8 : decode cL_votesForByMember 8 = .ok (.lastore, 1) := by decide +kernel
theorem dL_votesForByMember_9 : decode cL_votesForByMember 9 = .ok (.goto 6, 3) := by decide +kernel
theorem dL_votesForByMember_12 : decode cL_votesForByMember 12 = .ok (.astore_n 3, 1) := by decide +kernel
theorem dL_votesForByMember_13 : decode cL_votesForByMember 13 = .ok (.iconst 1, 1) := by decide +kernel
theorem dL_votesForByMember_14 : decode cL_votesForByMember 14 = .ok (.ireturn, 1) := by decide +kernel
theorem dL_votesForByMember_15 : decode cL_votesForByMember 15 = .ok (.iconst 0, 1) := by decide +kernel
theorem dL_votesForByMember_16 : decode cL_votesForByMember 16 = .ok (.ireturn, 1) := by decide +kernel
theorem dL_votesAgainst_0 : decode cL_votesAgainst 0 = .ok (.aload_n 2, 1) := by decide +kernel
theorem dL_votesAgainst_1 : decode cL_votesAgainst 1 = .ok (.iconst 0, 1) := by decide +kernel
theorem dL_votesAgainst_2 : decode cL_votesAgainst 2 = .ok (.aload_n 0, 1) := by decide +kernel
theorem dL_votesAgainst_3 : decode cL_votesAgainst 3 = .ok (.iload_n 1, 1) := by decide +kernel
theorem dL_votesAgainst_4 : decode cL_votesAgainst 4 = .ok (.invokevirtual 104, 3) := by decide +kernel
theorem dL_votesAgainst_7 : decode cL_votesAgainst 7 = .ok (.i2l, 1) := by decide +kernel
theorem dL_votesAgainst_8 : decode cL_votesAgainst 8 = .ok (.lastore, 1) := by decide +kernel
theorem dL_votesAgainst_9 : decode cL_votesAgainst 9 = .ok (.goto 6, 3) := by decide +kernel
theorem dL_votesAgainst_12 : decode cL_votesAgainst 12 = .ok (.astore_n 3, 1) := by decide +kernel
theorem dL_votesAgainst_13 : decode cL_votesAgainst 13 = .ok (.iconst 1, 1) := by decide +kernel
theorem dL_votesAgainst_14 : decode cL_votesAgainst 14 = .ok (.ireturn, 1) := by decide +kernel
theorem dL_votesAgainst_15 : decode cL_votesAgainst 15 = .ok (.iconst 0, 1) := by decide +kernel
theorem dL_votesAgainst_16 : decode cL_votesAgainst 16 = .ok (.ireturn, 1) := by decide +kernel
theorem dL_gust_0 : decode cL_gust 0 = .ok (.aload_n 2, 1) := by decide +kernel
theorem dL_gust_1 : decode cL_gust 1 = .ok (.iconst 0, 1) := by decide +kernel
theorem dL_gust_2 : decode cL_gust 2 = .ok (.aload_n 0, 1) := by decide +kernel
theorem dL_gust_3 : decode cL_gust 3 = .ok (.iload_n 1, 1) := by decide +kernel
theorem dL_gust_4 : decode cL_gust 4 = .ok (.invokevirtual 107, 3) := by decide +kernel
theorem dL_gust_7 : decode cL_gust 7 = .ok (.i2l, 1) := by decide +kernel
theorem dL_gust_8 : decode cL_gust 8 = .ok (.lastore, 1) := by decide +kernel
theorem dL_gust_9 : decode cL_gust 9 = .ok (.goto 6, 3) := by decide +kernel
theorem dL_gust_12 : decode cL_gust 12 = .ok (.astore_n 3, 1) := by decide +kernel
theorem dL_gust_13 : decode cL_gust 13 = .ok (.iconst 1, 1) := by decide +kernel
theorem dL_gust_14 : decode cL_gust 14 = .ok (.ireturn, 1) := by decide +kernel
theorem dL_gust_15 : decode cL_gust 15 = .ok (.iconst 0, 1) := by decide +kernel
theorem dL_gust_16 : decode cL_gust 16 = .ok (.ireturn, 1) := by decide +kernel
theorem dL_pass_0 : decode cL_pass 0 = .ok (.aload_n 2, 1) := by decide +kernel
theorem dL_pass_1 : decode cL_pass 1 = .ok (.iconst 0, 1) := by decide +kernel
theorem dL_pass_2 : decode cL_pass 2 = .ok (.aload_n 0, 1) := by decide +kernel
theorem dL_pass_3 : decode cL_pass 3 = .ok (.iload_n 1, 1) := by decide +kernel
theorem dL_pass_4 : decode cL_pass 4 = .ok (.invokevirtual 110, 3) := by decide +kernel
theorem dL_pass_7 : decode cL_pass 7 = .ok (.i2l, 1) := by decide +kernel
theorem dL_pass_8 : decode cL_pass 8 = .ok (.lastore, 1) := by decide +kernel
theorem dL_pass_9 : decode cL_pass 9 = .ok (.goto 6, 3) := by decide +kernel
theorem dL_pass_12 : decode cL_pass 12 = .ok (.astore_n 3, 1) := by decide +kernel
theorem dL_pass_13 : decode cL_pass 13 = .ok (.iconst 1, 1) := by decide +kernel
theorem dL_pass_14 : decode cL_pass 14 = .ok (.ireturn, 1) := by decide +kernel
theorem dL_pass_15 : decode cL_pass 15 = .ok (.iconst 0, 1) := by decide +kernel
theorem dL_pass_16 : decode cL_pass 16 = .ok (.ireturn, 1) := by decide +kernel
theorem dL_arrearsAfter_0 : decode cL_arrearsAfter 0 = .ok (.aload_n 3, 1) := by decide +kernel
theorem dL_arrearsAfter_1 : decode cL_arrearsAfter 1 = .ok (.iconst 0, 1) := by decide +kernel
theorem dL_arrearsAfter_2 : decode cL_arrearsAfter 2 = .ok (.aload_n 0, 1) := by decide +kernel
theorem dL_arrearsAfter_3 : decode cL_arrearsAfter 3 = .ok (.iload_n 1, 1) := by decide +kernel
theorem dL_arrearsAfter_4 : decode cL_arrearsAfter 4 = .ok (.iload_n 2, 1) := by decide +kernel
theorem dL_arrearsAfter_5 : decode cL_arrearsAfter 5 = .ok (.invokevirtual 113, 3) := by decide +kernel
theorem dL_arrearsAfter_8 : decode cL_arrearsAfter 8 = .ok (.i2l, 1) := by decide +kernel
theorem dL_arrearsAfter_9 : decode cL_arrearsAfter 9 = .ok (.lastore, 1) := by decide +kernel
theorem dL_arrearsAfter_10 : decode cL_arrearsAfter 10 = .ok (.goto 11, 3) := by decide +kernel
theorem dL_arrearsAfter_13 : decode cL_arrearsAfter 13 = .ok (.astore 4, 2) := by decide +kernel
theorem dL_arrearsAfter_15 : decode cL_arrearsAfter 15 = .ok (.iconst 1, 1) := by decide +kernel
theorem dL_arrearsAfter_16 : decode cL_arrearsAfter 16 = .ok (.ireturn, 1) := by decide +kernel
theorem dL_arrearsAfter_17 : decode cL_arrearsAfter 17 = .ok (.astore 4, 2) := by decide +kernel
theorem dL_arrearsAfter_19 : decode cL_arrearsAfter 19 = .ok (.iconst 2, 1) := by decide +kernel
theorem dL_arrearsAfter_20 : decode cL_arrearsAfter 20 = .ok (.ireturn, 1) := by decide +kernel
theorem dL_arrearsAfter_21 : decode cL_arrearsAfter 21 = .ok (.iconst 0, 1) := by decide +kernel
theorem dL_arrearsAfter_22 : decode cL_arrearsAfter 22 = .ok (.ireturn, 1) := by decide +kernel
theorem dL_arrearsAfterByRate_0 : decode cL_arrearsAfterByRate 0 = .ok (.aload_n 3, 1) := by decide +kernel
theorem dL_arrearsAfterByRate_1 : decode cL_arrearsAfterByRate 1 = .ok (.iconst 0, 1) := by decide +kernel
theorem dL_arrearsAfterByRate_2 : decode cL_arrearsAfterByRate 2 = .ok (.aload_n 0, 1) := by decide +kernel
theorem dL_arrearsAfterByRate_3 : decode cL_arrearsAfterByRate 3 = .ok (.iload_n 1, 1) := by decide +kernel
theorem dL_arrearsAfterByRate_4 : decode cL_arrearsAfterByRate 4 = .ok (.iload_n 2, 1) := by decide +kernel
theorem dL_arrearsAfterByRate_5 : decode cL_arrearsAfterByRate 5 = .ok (.invokevirtual 116, 3) := by decide +kernel
theorem dL_arrearsAfterByRate_8 : decode cL_arrearsAfterByRate 8 = .ok (.i2l, 1) := by decide +kernel
theorem dL_arrearsAfterByRate_9 : decode cL_arrearsAfterByRate 9 = .ok (.lastore, 1) := by decide +kernel
theorem dL_arrearsAfterByRate_10 : decode cL_arrearsAfterByRate 10 = .ok (.goto 11, 3) := by decide +kernel
theorem dL_arrearsAfterByRate_13 : decode cL_arrearsAfterByRate 13 = .ok (.astore 4, 2) := by decide +kernel
theorem dL_arrearsAfterByRate_15 : decode cL_arrearsAfterByRate 15 = .ok (.iconst 1, 1) := by decide +kernel
theorem dL_arrearsAfterByRate_16 : decode cL_arrearsAfterByRate 16 = .ok (.ireturn, 1) := by decide +kernel
theorem dL_arrearsAfterByRate_17 : decode cL_arrearsAfterByRate 17 = .ok (.astore 4, 2) := by decide +kernel
theorem dL_arrearsAfterByRate_19 : decode cL_arrearsAfterByRate 19 = .ok (.iconst 2, 1) := by decide +kernel
theorem dL_arrearsAfterByRate_20 : decode cL_arrearsAfterByRate 20 = .ok (.ireturn, 1) := by decide +kernel
theorem dL_arrearsAfterByRate_21 : decode cL_arrearsAfterByRate 21 = .ok (.iconst 0, 1) := by decide +kernel
theorem dL_arrearsAfterByRate_22 : decode cL_arrearsAfterByRate 22 = .ok (.ireturn, 1) := by decide +kernel
theorem dL_committeeAtRank_0 : decode cL_committeeAtRank 0 = .ok (.aload_n 2, 1) := by decide +kernel
theorem dL_committeeAtRank_1 : decode cL_committeeAtRank 1 = .ok (.iconst 0, 1) := by decide +kernel
theorem dL_committeeAtRank_2 : decode cL_committeeAtRank 2 = .ok (.aload_n 0, 1) := by decide +kernel
theorem dL_committeeAtRank_3 : decode cL_committeeAtRank 3 = .ok (.iload_n 1, 1) := by decide +kernel
theorem dL_committeeAtRank_4 : decode cL_committeeAtRank 4 = .ok (.invokevirtual 119, 3) := by decide +kernel
theorem dL_committeeAtRank_7 : decode cL_committeeAtRank 7 = .ok (.i2l, 1) := by decide +kernel
theorem dL_committeeAtRank_8 : decode cL_committeeAtRank 8 = .ok (.lastore, 1) := by decide +kernel
theorem dL_committeeAtRank_9 : decode cL_committeeAtRank 9 = .ok (.goto 6, 3) := by decide +kernel
theorem dL_committeeAtRank_12 : decode cL_committeeAtRank 12 = .ok (.astore_n 3, 1) := by decide +kernel
theorem dL_committeeAtRank_13 : decode cL_committeeAtRank 13 = .ok (.iconst 1, 1) := by decide +kernel
theorem dL_committeeAtRank_14 : decode cL_committeeAtRank 14 = .ok (.ireturn, 1) := by decide +kernel
theorem dL_committeeAtRank_15 : decode cL_committeeAtRank 15 = .ok (.iconst 0, 1) := by decide +kernel
theorem dL_committeeAtRank_16 : decode cL_committeeAtRank 16 = .ok (.ireturn, 1) := by decide +kernel
theorem dL_append_0 : decode cL_append 0 = .ok (.aload_n 2, 1) := by decide +kernel
theorem dL_append_1 : decode cL_append 1 = .ok (.iconst 0, 1) := by decide +kernel
theorem dL_append_2 : decode cL_append 2 = .ok (.aload_n 0, 1) := by decide +kernel
theorem dL_append_3 : decode cL_append 3 = .ok (.iload_n 1, 1) := by decide +kernel
theorem dL_append_4 : decode cL_append 4 = .ok (.invokevirtual 122, 3) := by decide +kernel
theorem dL_append_7 : decode cL_append 7 = .ok (.i2l, 1) := by decide +kernel
theorem dL_append_8 : decode cL_append 8 = .ok (.lastore, 1) := by decide +kernel
theorem dL_append_9 : decode cL_append 9 = .ok (.goto 9, 3) := by decide +kernel
theorem dL_append_12 : decode cL_append 12 = .ok (.astore_n 3, 1) := by decide +kernel
theorem dL_append_13 : decode cL_append 13 = .ok (.iconst 1, 1) := by decide +kernel
theorem dL_append_14 : decode cL_append 14 = .ok (.ireturn, 1) := by decide +kernel
theorem dL_append_15 : decode cL_append 15 = .ok (.astore_n 3, 1) := by decide +kernel
theorem dL_append_16 : decode cL_append 16 = .ok (.iconst 2, 1) := by decide +kernel
theorem dL_append_17 : decode cL_append 17 = .ok (.ireturn, 1) := by decide +kernel
theorem dL_append_18 : decode cL_append 18 = .ok (.iconst 0, 1) := by decide +kernel
theorem dL_append_19 : decode cL_append 19 = .ok (.ireturn, 1) := by decide +kernel
theorem dL_run_0 : decode cL_run 0 = .ok (.aload_n 1, 1) := by decide +kernel
theorem dL_run_1 : decode cL_run 1 = .ok (.iconst 0, 1) := by decide +kernel
theorem dL_run_2 : decode cL_run 2 = .ok (.aload_n 0, 1) := by decide +kernel
theorem dL_run_3 : decode cL_run 3 = .ok (.invokevirtual 126, 3) := by decide +kernel
theorem dL_run_6 : decode cL_run 6 = .ok (.i2l, 1) := by decide +kernel
theorem dL_run_7 : decode cL_run 7 = .ok (.lastore, 1) := by decide +kernel
theorem dL_run_8 : decode cL_run 8 = .ok (.goto 9, 3) := by decide +kernel
theorem dL_run_11 : decode cL_run 11 = .ok (.astore_n 2, 1) := by decide +kernel
theorem dL_run_12 : decode cL_run 12 = .ok (.iconst 1, 1) := by decide +kernel
theorem dL_run_13 : decode cL_run 13 = .ok (.ireturn, 1) := by decide +kernel
theorem dL_run_14 : decode cL_run 14 = .ok (.astore_n 2, 1) := by decide +kernel
theorem dL_run_15 : decode cL_run 15 = .ok (.iconst 2, 1) := by decide +kernel
theorem dL_run_16 : decode cL_run 16 = .ok (.ireturn, 1) := by decide +kernel
theorem dL_run_17 : decode cL_run 17 = .ok (.iconst 0, 1) := by decide +kernel
theorem dL_run_18 : decode cL_run 18 = .ok (.ireturn, 1) := by decide +kernel
theorem dL_errorPosition_0 : decode cL_errorPosition 0 = .ok (.aload_n 1, 1) := by decide +kernel
theorem dL_errorPosition_1 : decode cL_errorPosition 1 = .ok (.iconst 0, 1) := by decide +kernel
theorem dL_errorPosition_2 : decode cL_errorPosition 2 = .ok (.aload_n 0, 1) := by decide +kernel
theorem dL_errorPosition_3 : decode cL_errorPosition 3 = .ok (.invokevirtual 129, 3) := by decide +kernel
theorem dL_errorPosition_6 : decode cL_errorPosition 6 = .ok (.i2l, 1) := by decide +kernel
theorem dL_errorPosition_7 : decode cL_errorPosition 7 = .ok (.lastore, 1) := by decide +kernel
theorem dL_errorPosition_8 : decode cL_errorPosition 8 = .ok (.goto 6, 3) := by decide +kernel
theorem dL_errorPosition_11 : decode cL_errorPosition 11 = .ok (.astore_n 2, 1) := by decide +kernel
theorem dL_errorPosition_12 : decode cL_errorPosition 12 = .ok (.iconst 1, 1) := by decide +kernel
theorem dL_errorPosition_13 : decode cL_errorPosition 13 = .ok (.ireturn, 1) := by decide +kernel
theorem dL_errorPosition_14 : decode cL_errorPosition 14 = .ok (.iconst 0, 1) := by decide +kernel
theorem dL_errorPosition_15 : decode cL_errorPosition 15 = .ok (.ireturn, 1) := by decide +kernel
theorem dL_failedCommand_0 : decode cL_failedCommand 0 = .ok (.aload_n 1, 1) := by decide +kernel
theorem dL_failedCommand_1 : decode cL_failedCommand 1 = .ok (.iconst 0, 1) := by decide +kernel
theorem dL_failedCommand_2 : decode cL_failedCommand 2 = .ok (.aload_n 0, 1) := by decide +kernel
theorem dL_failedCommand_3 : decode cL_failedCommand 3 = .ok (.invokevirtual 132, 3) := by decide +kernel
theorem dL_failedCommand_6 : decode cL_failedCommand 6 = .ok (.i2l, 1) := by decide +kernel
theorem dL_failedCommand_7 : decode cL_failedCommand 7 = .ok (.lastore, 1) := by decide +kernel
theorem dL_failedCommand_8 : decode cL_failedCommand 8 = .ok (.goto 6, 3) := by decide +kernel
theorem dL_failedCommand_11 : decode cL_failedCommand 11 = .ok (.astore_n 2, 1) := by decide +kernel
theorem dL_failedCommand_12 : decode cL_failedCommand 12 = .ok (.iconst 1, 1) := by decide +kernel
theorem dL_failedCommand_13 : decode cL_failedCommand 13 = .ok (.ireturn, 1) := by decide +kernel
theorem dL_failedCommand_14 : decode cL_failedCommand 14 = .ok (.iconst 0, 1) := by decide +kernel
theorem dL_failedCommand_15 : decode cL_failedCommand 15 = .ok (.ireturn, 1) := by decide +kernel
theorem dL_failedException_0 : decode cL_failedException 0 = .ok (.aload_n 1, 1) := by decide +kernel
theorem dL_failedException_1 : decode cL_failedException 1 = .ok (.iconst 0, 1) := by decide +kernel
theorem dL_failedException_2 : decode cL_failedException 2 = .ok (.aload_n 0, 1) := by decide +kernel
theorem dL_failedException_3 : decode cL_failedException 3 = .ok (.invokevirtual 135, 3) := by decide +kernel
theorem dL_failedException_6 : decode cL_failedException 6 = .ok (.i2l, 1) := by decide +kernel
theorem dL_failedException_7 : decode cL_failedException 7 = .ok (.lastore, 1) := by decide +kernel
theorem dL_failedException_8 : decode cL_failedException 8 = .ok (.goto 6, 3) := by decide +kernel
theorem dL_failedException_11 : decode cL_failedException 11 = .ok (.astore_n 2, 1) := by decide +kernel
theorem dL_failedException_12 : decode cL_failedException 12 = .ok (.iconst 1, 1) := by decide +kernel
theorem dL_failedException_13 : decode cL_failedException 13 = .ok (.ireturn, 1) := by decide +kernel
theorem dL_failedException_14 : decode cL_failedException 14 = .ok (.iconst 0, 1) := by decide +kernel
theorem dL_failedException_15 : decode cL_failedException 15 = .ok (.ireturn, 1) := by decide +kernel
theorem dL_describeCommittee_0 : decode cL_describeCommittee 0 = .ok (.aload_n 2, 1) := by decide +kernel
theorem dL_describeCommittee_1 : decode cL_describeCommittee 1 = .ok (.iconst 0, 1) := by decide +kernel
theorem dL_describeCommittee_2 : decode cL_describeCommittee 2 = .ok (.aload_n 0, 1) := by decide +kernel
theorem dL_describeCommittee_3 : decode cL_describeCommittee 3 = .ok (.iload_n 1, 1) := by decide +kernel
theorem dL_describeCommittee_4 : decode cL_describeCommittee 4 = .ok (.invokevirtual 138, 3) := by decide +kernel
theorem dL_describeCommittee_7 : decode cL_describeCommittee 7 = .ok (.i2l, 1) := by decide +kernel
theorem dL_describeCommittee_8 : decode cL_describeCommittee 8 = .ok (.lastore, 1) := by decide +kernel
theorem dL_describeCommittee_9 : decode cL_describeCommittee 9 = .ok (.goto 6, 3) := by decide +kernel
theorem dL_describeCommittee_12 : decode cL_describeCommittee 12 = .ok (.astore_n 3, 1) := by decide +kernel
theorem dL_describeCommittee_13 : decode cL_describeCommittee 13 = .ok (.iconst 1, 1) := by decide +kernel
theorem dL_describeCommittee_14 : decode cL_describeCommittee 14 = .ok (.ireturn, 1) := by decide +kernel
theorem dL_describeCommittee_15 : decode cL_describeCommittee 15 = .ok (.iconst 0, 1) := by decide +kernel
theorem dL_describeCommittee_16 : decode cL_describeCommittee 16 = .ok (.ireturn, 1) := by decide +kernel
theorem dL_describeMotion_0 : decode cL_describeMotion 0 = .ok (.aload_n 2, 1) := by decide +kernel
theorem dL_describeMotion_1 : decode cL_describeMotion 1 = .ok (.iconst 0, 1) := by decide +kernel
theorem dL_describeMotion_2 : decode cL_describeMotion 2 = .ok (.aload_n 0, 1) := by decide +kernel
theorem dL_describeMotion_3 : decode cL_describeMotion 3 = .ok (.iload_n 1, 1) := by decide +kernel
theorem dL_describeMotion_4 : decode cL_describeMotion 4 = .ok (.invokevirtual 141, 3) := by decide +kernel
theorem dL_describeMotion_7 : decode cL_describeMotion 7 = .ok (.i2l, 1) := by decide +kernel
theorem dL_describeMotion_8 : decode cL_describeMotion 8 = .ok (.lastore, 1) := by decide +kernel
theorem dL_describeMotion_9 : decode cL_describeMotion 9 = .ok (.goto 6, 3) := by decide +kernel
theorem dL_describeMotion_12 : decode cL_describeMotion 12 = .ok (.astore_n 3, 1) := by decide +kernel
theorem dL_describeMotion_13 : decode cL_describeMotion 13 = .ok (.iconst 1, 1) := by decide +kernel
theorem dL_describeMotion_14 : decode cL_describeMotion 14 = .ok (.ireturn, 1) := by decide +kernel
theorem dL_describeMotion_15 : decode cL_describeMotion 15 = .ok (.iconst 0, 1) := by decide +kernel
theorem dL_describeMotion_16 : decode cL_describeMotion 16 = .ok (.ireturn, 1) := by decide +kernel
theorem dL_lineAt_0 : decode cL_lineAt 0 = .ok (.aload_n 2, 1) := by decide +kernel
theorem dL_lineAt_1 : decode cL_lineAt 1 = .ok (.iconst 0, 1) := by decide +kernel
theorem dL_lineAt_2 : decode cL_lineAt 2 = .ok (.aload_n 0, 1) := by decide +kernel
theorem dL_lineAt_3 : decode cL_lineAt 3 = .ok (.iload_n 1, 1) := by decide +kernel
theorem dL_lineAt_4 : decode cL_lineAt 4 = .ok (.invokevirtual 144, 3) := by decide +kernel
theorem dL_lineAt_7 : decode cL_lineAt 7 = .ok (.i2l, 1) := by decide +kernel
theorem dL_lineAt_8 : decode cL_lineAt 8 = .ok (.lastore, 1) := by decide +kernel
theorem dL_lineAt_9 : decode cL_lineAt 9 = .ok (.goto 6, 3) := by decide +kernel
theorem dL_lineAt_12 : decode cL_lineAt 12 = .ok (.astore_n 3, 1) := by decide +kernel
theorem dL_lineAt_13 : decode cL_lineAt 13 = .ok (.iconst 1, 1) := by decide +kernel
theorem dL_lineAt_14 : decode cL_lineAt 14 = .ok (.ireturn, 1) := by decide +kernel
theorem dL_lineAt_15 : decode cL_lineAt 15 = .ok (.iconst 0, 1) := by decide +kernel
theorem dL_lineAt_16 : decode cL_lineAt 16 = .ok (.ireturn, 1) := by decide +kernel
theorem dL_meanArrears_0 : decode cL_meanArrears 0 = .ok (.aload_n 1, 1) := by decide +kernel
theorem dL_meanArrears_1 : decode cL_meanArrears 1 = .ok (.iconst 0, 1) := by decide +kernel
theorem dL_meanArrears_2 : decode cL_meanArrears 2 = .ok (.aload_n 0, 1) := by decide +kernel
theorem dL_meanArrears_3 : decode cL_meanArrears 3 = .ok (.invokevirtual 148, 3) := by decide +kernel
theorem dL_meanArrears_6 : decode cL_meanArrears 6 = .ok (.dastore, 1) := by decide +kernel
theorem dL_meanArrears_7 : decode cL_meanArrears 7 = .ok (.goto 6, 3) := by decide +kernel
theorem dL_meanArrears_10 : decode cL_meanArrears 10 = .ok (.astore_n 2, 1) := by decide +kernel
theorem dL_meanArrears_11 : decode cL_meanArrears 11 = .ok (.iconst 1, 1) := by decide +kernel
theorem dL_meanArrears_12 : decode cL_meanArrears 12 = .ok (.ireturn, 1) := by decide +kernel
theorem dL_meanArrears_13 : decode cL_meanArrears 13 = .ok (.iconst 0, 1) := by decide +kernel
theorem dL_meanArrears_14 : decode cL_meanArrears 14 = .ok (.ireturn, 1) := by decide +kernel
theorem dL_rentedShare_0 : decode cL_rentedShare 0 = .ok (.aload_n 1, 1) := by decide +kernel
theorem dL_rentedShare_1 : decode cL_rentedShare 1 = .ok (.iconst 0, 1) := by decide +kernel
theorem dL_rentedShare_2 : decode cL_rentedShare 2 = .ok (.aload_n 0, 1) := by decide +kernel
theorem dL_rentedShare_3 : decode cL_rentedShare 3 = .ok (.invokevirtual 154, 3) := by decide +kernel
theorem dL_rentedShare_6 : decode cL_rentedShare 6 = .ok (.f2d, 1) := by decide +kernel
theorem dL_rentedShare_7 : decode cL_rentedShare 7 = .ok (.dastore, 1) := by decide +kernel
theorem dL_rentedShare_8 : decode cL_rentedShare 8 = .ok (.goto 6, 3) := by decide +kernel
theorem dL_rentedShare_11 : decode cL_rentedShare 11 = .ok (.astore_n 2, 1) := by decide +kernel
theorem dL_rentedShare_12 : decode cL_rentedShare 12 = .ok (.iconst 1, 1) := by decide +kernel
theorem dL_rentedShare_13 : decode cL_rentedShare 13 = .ok (.ireturn, 1) := by decide +kernel
theorem dL_rentedShare_14 : decode cL_rentedShare 14 = .ok (.iconst 0, 1) := by decide +kernel
theorem dL_rentedShare_15 : decode cL_rentedShare 15 = .ok (.ireturn, 1) := by decide +kernel
theorem dL_undo_0 : decode cL_undo 0 = .ok (.aload_n 1, 1) := by decide +kernel
theorem dL_undo_1 : decode cL_undo 1 = .ok (.iconst 0, 1) := by decide +kernel
theorem dL_undo_2 : decode cL_undo 2 = .ok (.aload_n 0, 1) := by decide +kernel
theorem dL_undo_3 : decode cL_undo 3 = .ok (.invokevirtual 158, 3) := by decide +kernel
theorem dL_undo_6 : decode cL_undo 6 = .ok (.i2l, 1) := by decide +kernel
theorem dL_undo_7 : decode cL_undo 7 = .ok (.lastore, 1) := by decide +kernel
theorem dL_undo_8 : decode cL_undo 8 = .ok (.goto 6, 3) := by decide +kernel
theorem dL_undo_11 : decode cL_undo 11 = .ok (.astore_n 2, 1) := by decide +kernel
theorem dL_undo_12 : decode cL_undo 12 = .ok (.iconst 1, 1) := by decide +kernel
theorem dL_undo_13 : decode cL_undo 13 = .ok (.ireturn, 1) := by decide +kernel
theorem dL_undo_14 : decode cL_undo 14 = .ok (.iconst 0, 1) := by decide +kernel
theorem dL_undo_15 : decode cL_undo 15 = .ok (.ireturn, 1) := by decide +kernel
theorem dL_restore_0 : decode cL_restore 0 = .ok (.aload_n 1, 1) := by decide +kernel
theorem dL_restore_1 : decode cL_restore 1 = .ok (.iconst 0, 1) := by decide +kernel
theorem dL_restore_2 : decode cL_restore 2 = .ok (.aload_n 0, 1) := by decide +kernel
theorem dL_restore_3 : decode cL_restore 3 = .ok (.invokevirtual 161, 3) := by decide +kernel
theorem dL_restore_6 : decode cL_restore 6 = .ok (.i2l, 1) := by decide +kernel
theorem dL_restore_7 : decode cL_restore 7 = .ok (.lastore, 1) := by decide +kernel
theorem dL_restore_8 : decode cL_restore 8 = .ok (.goto 6, 3) := by decide +kernel
theorem dL_restore_11 : decode cL_restore 11 = .ok (.astore_n 2, 1) := by decide +kernel
theorem dL_restore_12 : decode cL_restore 12 = .ok (.iconst 1, 1) := by decide +kernel
theorem dL_restore_13 : decode cL_restore 13 = .ok (.ireturn, 1) := by decide +kernel
theorem dL_restore_14 : decode cL_restore 14 = .ok (.iconst 0, 1) := by decide +kernel
theorem dL_restore_15 : decode cL_restore 15 = .ok (.ireturn, 1) := by decide +kernel
theorem dJ5_init_d00df_0 : decode cJ5_init_d00df 0 = .ok (.aload_n 0, 1) := by decide +kernel
theorem dJ5_init_d00df_1 : decode cJ5_init_d00df 1 = .ok (.invokespecial 3, 3) := by decide +kernel
theorem dJ5_init_d00df_4 : decode cJ5_init_d00df 4 = .ok (.getstatic 18, 3) := by decide +kernel
theorem dJ5_init_d00df_7 : decode cJ5_init_d00df 7 = .ok (.ifCond .eq 18, 3) := by decide +kernel
theorem dJ5_init_d00df_10 : decode cJ5_init_d00df 10 = .ok (.aload_n 0, 1) := by decide +kernel
theorem dJ5_init_d00df_11 : decode cJ5_init_d00df 11 = .ok (.iload_n 1, 1) := by decide +kernel
theorem dJ5_init_d00df_12 : decode cJ5_init_d00df 12 = .ok (.newarray .byte, 2) := by decide +kernel
theorem dJ5_init_d00df_14 : decode cJ5_init_d00df 14 = .ok (.putfield 15, 3) := by decide +kernel
theorem dJ5_init_d00df_17 : decode cJ5_init_d00df 17 = .ok (.aload_n 0, 1) := by decide +kernel
theorem dJ5_init_d00df_18 : decode cJ5_init_d00df 18 = .ok (.iconst 0, 1) := by decide +kernel
theorem dJ5_init_d00df_19 : decode cJ5_init_d00df 19 = .ok (.putfield 22, 3) := by decide +kernel
theorem dJ5_init_d00df_22 : decode cJ5_init_d00df 22 = .ok (.goto 16, 3) := by decide +kernel
theorem dJ5_init_d00df_25 : decode cJ5_init_d00df 25 = .ok (.aload_n 0, 1) := by decide +kernel
theorem dJ5_init_d00df_26 : decode cJ5_init_d00df 26 = .ok (.iload_n 1, 1) := by decide +kernel
theorem dJ5_init_d00df_27 : decode cJ5_init_d00df 27 = .ok (.invokestatic 26, 3) := by decide +kernel
theorem dJ5_init_d00df_30 : decode cJ5_init_d00df 30 = .ok (.putfield 15, 3) := by decide +kernel
theorem dJ5_init_d00df_33 : decode cJ5_init_d00df 33 = .ok (.aload_n 0, 1) := by decide +kernel
theorem dJ5_init_d00df_34 : decode cJ5_init_d00df 34 = .ok (.iconst 1, 1) := by decide +kernel
theorem dJ5_init_d00df_35 : decode cJ5_init_d00df 35 = .ok (.putfield 22, 3) := by decide +kernel
theorem dJ5_init_d00df_38 : decode cJ5_init_d00df 38 = .ok (.return_, 1) := by decide +kernel
theorem dJ5_length_8abf5_0 : decode cJ5_length_8abf5 0 = .ok (.aload_n 0, 1) := by decide +kernel
theorem dJ5_length_8abf5_1 : decode cJ5_length_8abf5 1 = .ok (.getfield 79, 3) := by decide +kernel
theorem dJ5_length_8abf5_4 : decode cJ5_length_8abf5 4 = .ok (.ireturn, 1) := by decide +kernel
theorem dJ5_ensureCapacityInternal_d00df_0 : decode cJ5_ensureCapacityInternal_d00df 0 = .ok (.aload_n 0, 1) := by decide +kernel
theorem dJ5_ensureCapacityInternal_d00df_1 : decode cJ5_ensureCapacityInternal_d00df 1 = .ok (.getfield 15, 3) := by decide +kernel
theorem dJ5_ensureCapacityInternal_d00df_4 : decode cJ5_ensureCapacityInternal_d00df 4 = .ok (.arraylength, 1) := by decide +kernel
theorem dJ5_ensureCapacityInternal_d00df_5 : decode cJ5_ensureCapacityInternal_d00df 5 = .ok (.aload_n 0, 1) := by decide +kernel
theorem dJ5_ensureCapacityInternal_d00df_6 : decode cJ5_ensureCapacityInternal_d00df 6 = .ok (.getfield 22, 3) := by decide +kernel
theorem dJ5_ensureCapacityInternal_d00df_9 : decode cJ5_ensureCapacityInternal_d00df 9 = .ok (.ishr, 1) := by decide +kernel
theorem dJ5_ensureCapacityInternal_d00df_10 : decode cJ5_ensureCapacityInternal_d00df 10 = .ok (.istore_n 2, 1) := by decide +kernel
theorem dJ5_ensureCapacityInternal_d00df_11 : decode cJ5_ensureCapacityInternal_d00df 11 = .ok (.iload_n 1, 1) := by decide +kernel
theorem dJ5_ensureCapacityInternal_d00df_12 : decode cJ5_ensureCapacityInternal_d00df 12 = .ok (.iload_n 2, 1) := by decide +kernel
theorem dJ5_ensureCapacityInternal_d00df_13 : decode cJ5_ensureCapacityInternal_d00df 13 = .ok (.isub, 1) := by decide +kernel
theorem dJ5_ensureCapacityInternal_d00df_14 : decode cJ5_ensureCapacityInternal_d00df 14 = .ok (.ifCond .le 24, 3) := by decide +kernel
theorem dJ5_ensureCapacityInternal_d00df_17 : decode cJ5_ensureCapacityInternal_d00df 17 = .ok (.aload_n 0, 1) := by decide +kernel
theorem dJ5_ensureCapacityInternal_d00df_18 : decode cJ5_ensureCapacityInternal_d00df 18 = .ok (.aload_n 0, 1) := by decide +kernel
theorem dJ5_ensureCapacityInternal_d00df_19 : decode cJ5_ensureCapacityInternal_d00df 19 = .ok (.getfield 15, 3) := by decide +kernel
theorem dJ5_ensureCapacityInternal_d00df_22 : decode cJ5_ensureCapacityInternal_d00df 22 = .ok (.aload_n 0, 1) := by decide +kernel
theorem dJ5_ensureCapacityInternal_d00df_23 : decode cJ5_ensureCapacityInternal_d00df 23 = .ok (.iload_n 1, 1) := by decide +kernel
theorem dJ5_ensureCapacityInternal_d00df_24 : decode cJ5_ensureCapacityInternal_d00df 24 = .ok (.invokevirtual 104, 3) := by decide +kernel
theorem dJ5_ensureCapacityInternal_d00df_27 : decode cJ5_ensureCapacityInternal_d00df 27 = .ok (.aload_n 0, 1) := by decide +kernel
theorem dJ5_ensureCapacityInternal_d00df_28 : decode cJ5_ensureCapacityInternal_d00df 28 = .ok (.getfield 22, 3) := by decide +kernel
theorem dJ5_ensureCapacityInternal_d00df_31 : decode cJ5_ensureCapacityInternal_d00df 31 = .ok (.ishl, 1) := by decide +kernel
theorem dJ5_ensureCapacityInternal_d00df_32 : decode cJ5_ensureCapacityInternal_d00df 32 = .ok (.invokestatic 108, 3) := by decide +kernel
theorem dJ5_ensureCapacityInternal_d00df_35 : decode cJ5_ensureCapacityInternal_d00df 35 = .ok (.putfield 15, 3) := by decide +kernel
theorem dJ5_ensureCapacityInternal_d00df_38 : decode cJ5_ensureCapacityInternal_d00df 38 = .ok (.return_, 1) := by decide +kernel
theorem dJ5_newCapacity_0f7a4_0 : decode cJ5_newCapacity_0f7a4 0 = .ok (.aload_n 0, 1) := by decide +kernel
theorem dJ5_newCapacity_0f7a4_1 : decode cJ5_newCapacity_0f7a4 1 = .ok (.getfield 15, 3) := by decide +kernel
theorem dJ5_newCapacity_0f7a4_4 : decode cJ5_newCapacity_0f7a4 4 = .ok (.arraylength, 1) := by decide +kernel
theorem dJ5_newCapacity_0f7a4_5 : decode cJ5_newCapacity_0f7a4 5 = .ok (.istore_n 2, 1) := by decide +kernel
theorem dJ5_newCapacity_0f7a4_6 : decode cJ5_newCapacity_0f7a4 6 = .ok (.iload_n 1, 1) := by decide +kernel
theorem dJ5_newCapacity_0f7a4_7 : decode cJ5_newCapacity_0f7a4 7 = .ok (.aload_n 0, 1) := by decide +kernel
theorem dJ5_newCapacity_0f7a4_8 : decode cJ5_newCapacity_0f7a4 8 = .ok (.getfield 22, 3) := by decide +kernel
theorem dJ5_newCapacity_0f7a4_11 : decode cJ5_newCapacity_0f7a4 11 = .ok (.ishl, 1) := by decide +kernel
theorem dJ5_newCapacity_0f7a4_12 : decode cJ5_newCapacity_0f7a4 12 = .ok (.istore_n 3, 1) := by decide +kernel
theorem dJ5_newCapacity_0f7a4_13 : decode cJ5_newCapacity_0f7a4 13 = .ok (.iload_n 3, 1) := by decide +kernel
theorem dJ5_newCapacity_0f7a4_14 : decode cJ5_newCapacity_0f7a4 14 = .ok (.iload_n 2, 1) := by decide +kernel
theorem dJ5_newCapacity_0f7a4_15 : decode cJ5_newCapacity_0f7a4 15 = .ok (.isub, 1) := by decide +kernel
theorem dJ5_newCapacity_0f7a4_16 : decode cJ5_newCapacity_0f7a4 16 = .ok (.istore 4, 2) := by decide +kernel
theorem dJ5_newCapacity_0f7a4_18 : decode cJ5_newCapacity_0f7a4 18 = .ok (.iload_n 2, 1) := by decide +kernel
theorem dJ5_newCapacity_0f7a4_19 : decode cJ5_newCapacity_0f7a4 19 = .ok (.iload 4, 2) := by decide +kernel
theorem dJ5_newCapacity_0f7a4_21 : decode cJ5_newCapacity_0f7a4 21 = .ok (.iload_n 2, 1) := by decide +kernel
theorem dJ5_newCapacity_0f7a4_22 : decode cJ5_newCapacity_0f7a4 22 = .ok (.iconst 2, 1) := by decide +kernel
theorem dJ5_newCapacity_0f7a4_23 : decode cJ5_newCapacity_0f7a4 23 = .ok (.aload_n 0, 1) := by decide +kernel
theorem dJ5_newCapacity_0f7a4_24 : decode cJ5_newCapacity_0f7a4 24 = .ok (.getfield 22, 3) := by decide +kernel
theorem dJ5_newCapacity_0f7a4_27 : decode cJ5_newCapacity_0f7a4 27 = .ok (.ishl, 1) := by decide +kernel
theorem dJ5_newCapacity_0f7a4_28 : decode cJ5_newCapacity_0f7a4 28 = .ok (.iadd, 1) := by decide +kernel
theorem dJ5_newCapacity_0f7a4_29 : decode cJ5_newCapacity_0f7a4 29 = .ok (.invokestatic 114, 3) := by decide +kernel
theorem dJ5_newCapacity_0f7a4_32 : decode cJ5_newCapacity_0f7a4 32 = .ok (.istore 5, 2) := by decide +kernel
theorem dJ5_newCapacity_0f7a4_34 : decode cJ5_newCapacity_0f7a4 34 = .ok (.iload 5, 2) := by decide +kernel
theorem dJ5_newCapacity_0f7a4_36 : decode cJ5_newCapacity_0f7a4 36 = .ok (.ldc 39, 2) := by decide +kernel
theorem dJ5_newCapacity_0f7a4_38 : decode cJ5_newCapacity_0f7a4 38 = .ok (.if_icmp .ne 13, 3) := by decide +kernel
theorem dJ5_newCapacity_0f7a4_41 : decode cJ5_newCapacity_0f7a4 41 = .ok (.new 120, 3) := by decide +kernel
theorem dJ5_newCapacity_0f7a4_44 : decode cJ5_newCapacity_0f7a4 44 = .ok (.dup, 1) := by decide +kernel
theorem dJ5_newCapacity_0f7a4_45 : decode cJ5_newCapacity_0f7a4 45 = .ok (.ldc 122, 2) := by decide +kernel
theorem dJ5_newCapacity_0f7a4_47 : decode cJ5_newCapacity_0f7a4 47 = .ok (.invokespecial 124, 3) := by decide +kernel
theorem dJ5_newCapacity_0f7a4_50 : decode cJ5_newCapacity_0f7a4 50 = .ok (.athrow, 1) := by decide +kernel
theorem dJ5_newCapacity_0f7a4_51 : decode cJ5_newCapacity_0f7a4 51 = .ok (.iload 5, 2) := by decide +kernel
theorem dJ5_newCapacity_0f7a4_53 : decode cJ5_newCapacity_0f7a4 53 = .ok (.aload_n 0, 1) := by decide +kernel
theorem dJ5_newCapacity_0f7a4_54 : decode cJ5_newCapacity_0f7a4 54 = .ok (.getfield 22, 3) := by decide +kernel
theorem dJ5_newCapacity_0f7a4_57 : decode cJ5_newCapacity_0f7a4 57 = .ok (.ishr, 1) := by decide +kernel
theorem dJ5_newCapacity_0f7a4_58 : decode cJ5_newCapacity_0f7a4 58 = .ok (.ireturn, 1) := by decide +kernel
theorem dJ5_setLength_d00df_0 : decode cJ5_setLength_d00df 0 = .ok (.iload_n 1, 1) := by decide +kernel
theorem dJ5_setLength_d00df_1 : decode cJ5_setLength_d00df 1 = .ok (.ifCond .ge 12, 3) := by decide +kernel
theorem dJ5_setLength_d00df_4 : decode cJ5_setLength_d00df 4 = .ok (.new 129, 3) := by decide +kernel
theorem dJ5_setLength_d00df_7 : decode cJ5_setLength_d00df 7 = .ok (.dup, 1) := by decide +kernel
theorem dJ5_setLength_d00df_8 : decode cJ5_setLength_d00df 8 = .ok (.iload_n 1, 1) := by decide +kernel
theorem dJ5_setLength_d00df_9 : decode cJ5_setLength_d00df 9 = .ok (.invokespecial 131, 3) := by decide +kernel
theorem dJ5_setLength_d00df_12 : decode cJ5_setLength_d00df 12 = .ok (.athrow, 1) := by decide +kernel
theorem dJ5_setLength_d00df_13 : decode cJ5_setLength_d00df 13 = .ok (.aload_n 0, 1) := by decide +kernel
theorem dJ5_setLength_d00df_14 : decode cJ5_setLength_d00df 14 = .ok (.iload_n 1, 1) := by decide +kernel
theorem dJ5_setLength_d00df_15 : decode cJ5_setLength_d00df 15 = .ok (.invokevirtual 100, 3) := by decide +kernel
theorem dJ5_setLength_d00df_18 : decode cJ5_setLength_d00df 18 = .ok (.aload_n 0, 1) := by decide +kernel
theorem dJ5_setLength_d00df_19 : decode cJ5_setLength_d00df 19 = .ok (.getfield 79, 3) := by decide +kernel
theorem dJ5_setLength_d00df_22 : decode cJ5_setLength_d00df 22 = .ok (.iload_n 1, 1) := by decide +kernel
theorem dJ5_setLength_d00df_23 : decode cJ5_setLength_d00df 23 = .ok (.if_icmp .ge 40, 3) := by decide +kernel
theorem dJ5_setLength_d00df_26 : decode cJ5_setLength_d00df 26 = .ok (.aload_n 0, 1) := by decide +kernel
theorem dJ5_setLength_d00df_27 : decode cJ5_setLength_d00df 27 = .ok (.invokevirtual 83, 3) := by decide +kernel
theorem dJ5_setLength_d00df_30 : decode cJ5_setLength_d00df 30 = .ok (.ifCond .eq 18, 3) := by decide +kernel
theorem dJ5_setLength_d00df_33 : decode cJ5_setLength_d00df 33 = .ok (.aload_n 0, 1) := by decide +kernel
theorem dJ5_setLength_d00df_34 : decode cJ5_setLength_d00df 34 = .ok (.getfield 15, 3) := by decide +kernel
theorem dJ5_setLength_d00df_37 : decode cJ5_setLength_d00df 37 = .ok (.aload_n 0, 1) := by decide +kernel
theorem dJ5_setLength_d00df_38 : decode cJ5_setLength_d00df 38 = .ok (.getfield 79, 3) := by decide +kernel
theorem dJ5_setLength_d00df_41 : decode cJ5_setLength_d00df 41 = .ok (.iload_n 1, 1) := by decide +kernel
theorem dJ5_setLength_d00df_42 : decode cJ5_setLength_d00df 42 = .ok (.invokestatic 133, 3) := by decide +kernel
theorem dJ5_setLength_d00df_45 : decode cJ5_setLength_d00df 45 = .ok (.goto 31, 3) := by decide +kernel
theorem dJ5_setLength_d00df_48 : decode cJ5_setLength_d00df 48 = .ok (.aload_n 0, 1) := by decide +kernel
theorem dJ5_setLength_d00df_49 : decode cJ5_setLength_d00df 49 = .ok (.getfield 15, 3) := by decide +kernel
theorem dJ5_setLength_d00df_52 : decode cJ5_setLength_d00df 52 = .ok (.aload_n 0, 1) := by decide +kernel
theorem dJ5_setLength_d00df_53 : decode cJ5_setLength_d00df 53 = .ok (.getfield 79, 3) := by decide +kernel
theorem dJ5_setLength_d00df_56 : decode cJ5_setLength_d00df 56 = .ok (.iload_n 1, 1) := by decide +kernel
theorem dJ5_setLength_d00df_57 : decode cJ5_setLength_d00df 57 = .ok (.invokestatic 137, 3) := by decide +kernel
theorem dJ5_setLength_d00df_60 : decode cJ5_setLength_d00df 60 = .ok (.goto 16, 3) := by decide +kernel
theorem dJ5_setLength_d00df_63 : decode cJ5_setLength_d00df 63 = .ok (.aload_n 0, 1) := by decide +kernel
theorem dJ5_setLength_d00df_64 : decode cJ5_setLength_d00df 64 = .ok (.getfield 79, 3) := by decide +kernel
theorem dJ5_setLength_d00df_67 : decode cJ5_setLength_d00df 67 = .ok (.iload_n 1, 1) := by decide +kernel
theorem dJ5_setLength_d00df_68 : decode cJ5_setLength_d00df 68 = .ok (.if_icmp .le 8, 3) := by decide +kernel
theorem dJ5_setLength_d00df_71 : decode cJ5_setLength_d00df 71 = .ok (.aload_n 0, 1) := by decide +kernel
theorem dJ5_setLength_d00df_72 : decode cJ5_setLength_d00df 72 = .ok (.iconst 1, 1) := by decide +kernel
theorem dJ5_setLength_d00df_73 : decode cJ5_setLength_d00df 73 = .ok (.putfield 73, 3) := by decide +kernel
theorem dJ5_setLength_d00df_76 : decode cJ5_setLength_d00df 76 = .ok (.aload_n 0, 1) := by decide +kernel
theorem dJ5_setLength_d00df_77 : decode cJ5_setLength_d00df 77 = .ok (.iload_n 1, 1) := by decide +kernel
theorem dJ5_setLength_d00df_78 : decode cJ5_setLength_d00df 78 = .ok (.putfield 79, 3) := by decide +kernel
theorem dJ5_setLength_d00df_81 : decode cJ5_setLength_d00df 81 = .ok (.return_, 1) := by decide +kernel
theorem dJ5_charAt_5068e_0 : decode cJ5_charAt_5068e 0 = .ok (.aload_n 0, 1) := by decide +kernel
theorem dJ5_charAt_5068e_1 : decode cJ5_charAt_5068e 1 = .ok (.getfield 22, 3) := by decide +kernel
theorem dJ5_charAt_5068e_4 : decode cJ5_charAt_5068e 4 = .ok (.istore_n 2, 1) := by decide +kernel
theorem dJ5_charAt_5068e_5 : decode cJ5_charAt_5068e 5 = .ok (.aload_n 0, 1) := by decide +kernel
theorem dJ5_charAt_5068e_6 : decode cJ5_charAt_5068e 6 = .ok (.getfield 15, 3) := by decide +kernel
theorem dJ5_charAt_5068e_9 : decode cJ5_charAt_5068e 9 = .ok (.astore_n 3, 1) := by decide +kernel
theorem dJ5_charAt_5068e_10 : decode cJ5_charAt_5068e 10 = .ok (.aload_n 0, 1) := by decide +kernel
theorem dJ5_charAt_5068e_11 : decode cJ5_charAt_5068e 11 = .ok (.getfield 79, 3) := by decide +kernel
theorem dJ5_charAt_5068e_14 : decode cJ5_charAt_5068e 14 = .ok (.aload_n 3, 1) := by decide +kernel
theorem dJ5_charAt_5068e_15 : decode cJ5_charAt_5068e 15 = .ok (.arraylength, 1) := by decide +kernel
theorem dJ5_charAt_5068e_16 : decode cJ5_charAt_5068e 16 = .ok (.iload_n 2, 1) := by decide +kernel
theorem dJ5_charAt_5068e_17 : decode cJ5_charAt_5068e 17 = .ok (.ishr, 1) := by decide +kernel
theorem dJ5_charAt_5068e_18 : decode cJ5_charAt_5068e 18 = .ok (.invokestatic 138, 3) := by decide +kernel
theorem dJ5_charAt_5068e_21 : decode cJ5_charAt_5068e 21 = .ok (.istore 4, 2) := by decide +kernel
theorem dJ5_charAt_5068e_23 : decode cJ5_charAt_5068e 23 = .ok (.iload_n 1, 1) := by decide +kernel
theorem dJ5_charAt_5068e_24 : decode cJ5_charAt_5068e 24 = .ok (.iload 4, 2) := by decide +kernel
theorem dJ5_charAt_5068e_26 : decode cJ5_charAt_5068e 26 = .ok (.invokestatic 144, 3) := by decide +kernel
theorem dJ5_charAt_5068e_29 : decode cJ5_charAt_5068e 29 = .ok (.iload_n 2, 1) := by decide +kernel
theorem dJ5_charAt_5068e_30 : decode cJ5_charAt_5068e 30 = .ok (.ifCond .ne 12, 3) := by decide +kernel
theorem dJ5_charAt_5068e_33 : decode cJ5_charAt_5068e 33 = .ok (.aload_n 3, 1) := by decide +kernel
theorem dJ5_charAt_5068e_34 : decode cJ5_charAt_5068e 34 = .ok (.iload_n 1, 1) := by decide +kernel
theorem dJ5_charAt_5068e_35 : decode cJ5_charAt_5068e 35 = .ok (.baload, 1) := by decide +kernel
theorem dJ5_charAt_5068e_36 : decode cJ5_charAt_5068e 36 = .ok (.sipush 255, 3) := by decide +kernel
theorem dJ5_charAt_5068e_39 : decode cJ5_charAt_5068e 39 = .ok (.iand, 1) := by decide +kernel
theorem dJ5_charAt_5068e_40 : decode cJ5_charAt_5068e 40 = .ok (.i2c, 1) := by decide +kernel
theorem dJ5_charAt_5068e_41 : decode cJ5_charAt_5068e 41 = .ok (.ireturn, 1) := by decide +kernel
theorem dJ5_charAt_5068e_42 : decode cJ5_charAt_5068e 42 = .ok (.aload_n 3, 1) := by decide +kernel
theorem dJ5_charAt_5068e_43 : decode cJ5_charAt_5068e 43 = .ok (.iload_n 1, 1) := by decide +kernel
theorem dJ5_charAt_5068e_44 : decode cJ5_charAt_5068e 44 = .ok (.invokestatic 148, 3) := by decide +kernel
theorem dJ5_charAt_5068e_47 : decode cJ5_charAt_5068e 47 = .ok (.ireturn, 1) := by decide +kernel
theorem dJ5_append_3fe6f_0 : decode cJ5_append_3fe6f 0 = .ok (.aload_n 0, 1) := by decide +kernel
theorem dJ5_append_3fe6f_1 : decode cJ5_append_3fe6f 1 = .ok (.aload_n 0, 1) := by decide +kernel
theorem dJ5_append_3fe6f_2 : decode cJ5_append_3fe6f 2 = .ok (.getfield 79, 3) := by decide +kernel
theorem dJ5_append_3fe6f_5 : decode cJ5_append_3fe6f 5 = .ok (.iconst 1, 1) := by decide +kernel
theorem dJ5_append_3fe6f_6 : decode cJ5_append_3fe6f 6 = .ok (.iadd, 1) := by decide +kernel
theorem dJ5_append_3fe6f_7 : decode cJ5_append_3fe6f 7 = .ok (.invokevirtual 100, 3) := by decide +kernel
theorem dJ5_append_3fe6f_10 : decode cJ5_append_3fe6f 10 = .ok (.aload_n 0, 1) := by decide +kernel
theorem dJ5_append_3fe6f_11 : decode cJ5_append_3fe6f 11 = .ok (.invokevirtual 83, 3) := by decide +kernel
theorem dJ5_append_3fe6f_14 : decode cJ5_append_3fe6f 14 = .ok (.ifCond .eq 31, 3) := by decide +kernel
theorem dJ5_append_3fe6f_17 : decode cJ5_append_3fe6f 17 = .ok (.iload_n 1, 1) := by decide +kernel
theorem dJ5_append_3fe6f_18 : decode cJ5_append_3fe6f 18 = .ok (.invokestatic 191, 3) := by decide +kernel
theorem dJ5_append_3fe6f_21 : decode cJ5_append_3fe6f 21 = .ok (.ifCond .eq 24, 3) := by decide +kernel
theorem dJ5_append_3fe6f_24 : decode cJ5_append_3fe6f 24 = .ok (.aload_n 0, 1) := by decide +kernel
theorem dJ5_append_3fe6f_25 : decode cJ5_append_3fe6f 25 = .ok (.getfield 15, 3) := by decide +kernel
theorem dJ5_append_3fe6f_28 : decode cJ5_append_3fe6f 28 = .ok (.aload_n 0, 1) := by decide +kernel
theorem dJ5_append_3fe6f_29 : decode cJ5_append_3fe6f 29 = .ok (.dup, 1) := by decide +kernel
theorem dJ5_append_3fe6f_30 : decode cJ5_append_3fe6f 30 = .ok (.getfield 79, 3) := by decide +kernel
theorem dJ5_append_3fe6f_33 : decode cJ5_append_3fe6f 33 = .ok (.dup_x1, 1) := by decide +kernel
theorem dJ5_append_3fe6f_34 : decode cJ5_append_3fe6f 34 = .ok (.iconst 1, 1) := by decide +kernel
theorem dJ5_append_3fe6f_35 : decode cJ5_append_3fe6f 35 = .ok (.iadd, 1) := by decide +kernel
theorem dJ5_append_3fe6f_36 : decode cJ5_append_3fe6f 36 = .ok (.putfield 79, 3) := by decide +kernel
theorem dJ5_append_3fe6f_39 : decode cJ5_append_3fe6f 39 = .ok (.iload_n 1, 1) := by decide +kernel
theorem dJ5_append_3fe6f_40 : decode cJ5_append_3fe6f 40 = .ok (.i2b, 1) := by decide +kernel
theorem dJ5_append_3fe6f_41 : decode cJ5_append_3fe6f 41 = .ok (.bastore, 1) := by decide +kernel
theorem dJ5_append_3fe6f_42 : decode cJ5_append_3fe6f 42 = .ok (.goto 33, 3) := by decide +kernel
theorem dJ5_append_3fe6f_45 : decode cJ5_append_3fe6f 45 = .ok (.aload_n 0, 1) := by decide +kernel
theorem dJ5_append_3fe6f_46 : decode cJ5_append_3fe6f 46 = .ok (.invokevirtual 83, 3) := by decide +kernel
theorem dJ5_append_3fe6f_49 : decode cJ5_append_3fe6f 49 = .ok (.ifCond .eq 7, 3) := by decide +kernel
theorem dJ5_append_3fe6f_52 : decode cJ5_append_3fe6f 52 = .ok (.aload_n 0, 1) := by decide +kernel
theorem dJ5_append_3fe6f_53 : decode cJ5_append_3fe6f 53 = .ok (.invokevirtual 195, 3) := by decide +kernel
theorem dJ5_append_3fe6f_56 : decode cJ5_append_3fe6f 56 = .ok (.aload_n 0, 1) := by decide +kernel
theorem dJ5_append_3fe6f_57 : decode cJ5_append_3fe6f 57 = .ok (.getfield 15, 3) := by decide +kernel
theorem dJ5_append_3fe6f_60 : decode cJ5_append_3fe6f 60 = .ok (.aload_n 0, 1) := by decide +kernel
theorem dJ5_append_3fe6f_61 : decode cJ5_append_3fe6f 61 = .ok (.dup, 1) := by decide +kernel
theorem dJ5_append_3fe6f_62 : decode cJ5_append_3fe6f 62 = .ok (.getfield 79, 3) := by decide +kernel
theorem dJ5_append_3fe6f_65 : decode cJ5_append_3fe6f 65 = .ok (.dup_x1, 1) := by decide +kernel
theorem dJ5_append_3fe6f_66 : decode cJ5_append_3fe6f 66 = .ok (.iconst 1, 1) := by decide +kernel
theorem dJ5_append_3fe6f_67 : decode cJ5_append_3fe6f 67 = .ok (.iadd, 1) := by decide +kernel
theorem dJ5_append_3fe6f_68 : decode cJ5_append_3fe6f 68 = .ok (.putfield 79, 3) := by decide +kernel
theorem dJ5_append_3fe6f_71 : decode cJ5_append_3fe6f 71 = .ok (.iload_n 1, 1) := by decide +kernel
theorem dJ5_append_3fe6f_72 : decode cJ5_append_3fe6f 72 = .ok (.invokestatic 197, 3) := by decide +kernel
theorem dJ5_append_3fe6f_75 : decode cJ5_append_3fe6f 75 = .ok (.aload_n 0, 1) := by decide +kernel
theorem dJ5_append_3fe6f_76 : decode cJ5_append_3fe6f 76 = .ok (.areturn, 1) := by decide +kernel
theorem dJ5_append_c97b9_0 : decode cJ5_append_c97b9 0 = .ok (.aload_n 0, 1) := by decide +kernel
theorem dJ5_append_c97b9_1 : decode cJ5_append_c97b9 1 = .ok (.getfield 79, 3) := by decide +kernel
theorem dJ5_append_c97b9_4 : decode cJ5_append_c97b9 4 = .ok (.istore_n 2, 1) := by decide +kernel
theorem dJ5_append_c97b9_5 : decode cJ5_append_c97b9 5 = .ok (.iload_n 2, 1) := by decide +kernel
theorem dJ5_append_c97b9_6 : decode cJ5_append_c97b9 6 = .ok (.iload_n 1, 1) := by decide +kernel
theorem dJ5_append_c97b9_7 : decode cJ5_append_c97b9 7 = .ok (.invokestatic 245, 3) := by decide +kernel
theorem dJ5_append_c97b9_10 : decode cJ5_append_c97b9 10 = .ok (.iadd, 1) := by decide +kernel
theorem dJ5_append_c97b9_11 : decode cJ5_append_c97b9 11 = .ok (.istore_n 3, 1) := by decide +kernel
theorem dJ5_append_c97b9_12 : decode cJ5_append_c97b9 12 = .ok (.aload_n 0, 1) := by decide +kernel
theorem dJ5_append_c97b9_13 : decode cJ5_append_c97b9 13 = .ok (.iload_n 3, 1) := by decide +kernel
theorem dJ5_append_c97b9_14 : decode cJ5_append_c97b9 14 = .ok (.invokevirtual 100, 3) := by decide +kernel
theorem dJ5_append_c97b9_17 : decode cJ5_append_c97b9 17 = .ok (.aload_n 0, 1) := by decide +kernel
theorem dJ5_append_c97b9_18 : decode cJ5_append_c97b9 18 = .ok (.invokevirtual 83, 3) := by decide +kernel
theorem dJ5_append_c97b9_21 : decode cJ5_append_c97b9 21 = .ok (.ifCond .eq 16, 3) := by decide +kernel
theorem dJ5_append_c97b9_24 : decode cJ5_append_c97b9 24 = .ok (.iload_n 1, 1) := by decide +kernel
theorem dJ5_append_c97b9_25 : decode cJ5_append_c97b9 25 = .ok (.iload_n 3, 1) := by decide +kernel
theorem dJ5_append_c97b9_26 : decode cJ5_append_c97b9 26 = .ok (.aload_n 0, 1) := by decide +kernel
theorem dJ5_append_c97b9_27 : decode cJ5_append_c97b9 27 = .ok (.getfield 15, 3) := by decide +kernel
theorem dJ5_append_c97b9_30 : decode cJ5_append_c97b9 30 = .ok (.invokestatic 248, 3) := by decide +kernel
theorem dJ5_append_c97b9_33 : decode cJ5_append_c97b9 33 = .ok (.pop, 1) := by decide +kernel
theorem dJ5_append_c97b9_34 : decode cJ5_append_c97b9 34 = .ok (.goto 14, 3) := by decide +kernel
theorem dJ5_append_c97b9_37 : decode cJ5_append_c97b9 37 = .ok (.iload_n 1, 1) := by decide +kernel
theorem dJ5_append_c97b9_38 : decode cJ5_append_c97b9 38 = .ok (.iload_n 2, 1) := by decide +kernel
theorem dJ5_append_c97b9_39 : decode cJ5_append_c97b9 39 = .ok (.iload_n 3, 1) := by decide +kernel
theorem dJ5_append_c97b9_40 : decode cJ5_append_c97b9 40 = .ok (.aload_n 0, 1) := by decide +kernel
theorem dJ5_append_c97b9_41 : decode cJ5_append_c97b9 41 = .ok (.getfield 15, 3) := by decide +kernel
theorem dJ5_append_c97b9_44 : decode cJ5_append_c97b9 44 = .ok (.invokestatic 251, 3) := by decide +kernel
theorem dJ5_append_c97b9_47 : decode cJ5_append_c97b9 47 = .ok (.pop, 1) := by decide +kernel
theorem dJ5_append_c97b9_48 : decode cJ5_append_c97b9 48 = .ok (.aload_n 0, 1) := by decide +kernel
theorem dJ5_append_c97b9_49 : decode cJ5_append_c97b9 49 = .ok (.iload_n 3, 1) := by decide +kernel
theorem dJ5_append_c97b9_50 : decode cJ5_append_c97b9 50 = .ok (.putfield 79, 3) := by decide +kernel
theorem dJ5_append_c97b9_53 : decode cJ5_append_c97b9 53 = .ok (.aload_n 0, 1) := by decide +kernel
theorem dJ5_append_c97b9_54 : decode cJ5_append_c97b9 54 = .ok (.areturn, 1) := by decide +kernel
theorem dJ5_isLatin1_aae02_0 : decode cJ5_isLatin1_aae02 0 = .ok (.getstatic 18, 3) := by decide +kernel
theorem dJ5_isLatin1_aae02_3 : decode cJ5_isLatin1_aae02 3 = .ok (.ifCond .eq 14, 3) := by decide +kernel
theorem dJ5_isLatin1_aae02_6 : decode cJ5_isLatin1_aae02 6 = .ok (.aload_n 0, 1) := by decide +kernel
theorem dJ5_isLatin1_aae02_7 : decode cJ5_isLatin1_aae02 7 = .ok (.getfield 22, 3) := by decide +kernel
theorem dJ5_isLatin1_aae02_10 : decode cJ5_isLatin1_aae02 10 = .ok (.ifCond .ne 7, 3) := by decide +kernel
theorem dJ5_isLatin1_aae02_13 : decode cJ5_isLatin1_aae02 13 = .ok (.iconst 1, 1) := by decide +kernel
theorem dJ5_isLatin1_aae02_14 : decode cJ5_isLatin1_aae02 14 = .ok (.goto 4, 3) := by decide +kernel
theorem dJ5_isLatin1_aae02_17 : decode cJ5_isLatin1_aae02 17 = .ok (.iconst 0, 1) := by decide +kernel
theorem dJ5_isLatin1_aae02_18 : decode cJ5_isLatin1_aae02 18 = .ok (.ireturn, 1) := by decide +kernel
theorem dJ6_getChars_ba4f3_0 : decode cJ6_getChars_ba4f3 0 = .ok (.iload_n 1, 1) := by decide +kernel
theorem dJ6_getChars_ba4f3_1 : decode cJ6_getChars_ba4f3 1 = .ok (.istore 5, 2) := by decide +kernel
theorem dJ6_getChars_ba4f3_3 : decode cJ6_getChars_ba4f3 3 = .ok (.iload_n 0, 1) := by decide +kernel
theorem dJ6_getChars_ba4f3_4 : decode cJ6_getChars_ba4f3 4 = .ok (.ifCond .ge 7, 3) := by decide +kernel
theorem dJ6_getChars_ba4f3_7 : decode cJ6_getChars_ba4f3 7 = .ok (.iconst 1, 1) := by decide +kernel
theorem dJ6_getChars_ba4f3_8 : decode cJ6_getChars_ba4f3 8 = .ok (.goto 4, 3) := by decide +kernel
theorem dJ6_getChars_ba4f3_11 : decode cJ6_getChars_ba4f3 11 = .ok (.iconst 0, 1) := by decide +kernel
theorem dJ6_getChars_ba4f3_12 : decode cJ6_getChars_ba4f3 12 = .ok (.istore 6, 2) := by decide +kernel
theorem dJ6_getChars_ba4f3_14 : decode cJ6_getChars_ba4f3 14 = .ok (.iload 6, 2) := by decide +kernel
theorem dJ6_getChars_ba4f3_16 : decode cJ6_getChars_ba4f3 16 = .ok (.ifCond .ne 6, 3) := by decide +kernel
theorem dJ6_getChars_ba4f3_19 : decode cJ6_getChars_ba4f3 19 = .ok (.iload_n 0, 1) := by decide +kernel
theorem dJ6_getChars_ba4f3_20 : decode cJ6_getChars_ba4f3 20 = .ok (.ineg, 1) := by decide +kernel
theorem dJ6_getChars_ba4f3_21 : decode cJ6_getChars_ba4f3 21 = .ok (.istore_n 0, 1) := by decide +kernel
theorem dJ6_getChars_ba4f3_22 : decode cJ6_getChars_ba4f3 22 = .ok (.iload_n 0, 1) := by decide +kernel
theorem dJ6_getChars_ba4f3_23 : decode cJ6_getChars_ba4f3 23 = .ok (.bipush (-100), 2) := by decide +kernel
theorem dJ6_getChars_ba4f3_25 : decode cJ6_getChars_ba4f3 25 = .ok (.if_icmp .gt 47, 3) := by decide +kernel
theorem dJ6_getChars_ba4f3_28 : decode cJ6_getChars_ba4f3 28 = .ok (.iload_n 0, 1) := by decide +kernel
theorem dJ6_getChars_ba4f3_29 : decode cJ6_getChars_ba4f3 29 = .ok (.bipush 100, 2) := by decide +kernel
theorem dJ6_getChars_ba4f3_31 : decode cJ6_getChars_ba4f3 31 = .ok (.idiv, 1) := by decide +kernel
theorem dJ6_getChars_ba4f3_32 : decode cJ6_getChars_ba4f3 32 = .ok (.istore_n 3, 1) := by decide +kernel
theorem dJ6_getChars_ba4f3_33 : decode cJ6_getChars_ba4f3 33 = .ok (.iload_n 3, 1) := by decide +kernel
theorem dJ6_getChars_ba4f3_34 : decode cJ6_getChars_ba4f3 34 = .ok (.bipush 100, 2) := by decide +kernel
theorem dJ6_getChars_ba4f3_36 : decode cJ6_getChars_ba4f3 36 = .ok (.imul, 1) := by decide +kernel
theorem dJ6_getChars_ba4f3_37 : decode cJ6_getChars_ba4f3 37 = .ok (.iload_n 0, 1) := by decide +kernel
theorem dJ6_getChars_ba4f3_38 : decode cJ6_getChars_ba4f3 38 = .ok (.isub, 1) := by decide +kernel
theorem dJ6_getChars_ba4f3_39 : decode cJ6_getChars_ba4f3 39 = .ok (.istore 4, 2) := by decide +kernel
theorem dJ6_getChars_ba4f3_41 : decode cJ6_getChars_ba4f3 41 = .ok (.iload_n 3, 1) := by decide +kernel
theorem dJ6_getChars_ba4f3_42 : decode cJ6_getChars_ba4f3 42 = .ok (.istore_n 0, 1) := by decide +kernel
theorem dJ6_getChars_ba4f3_43 : decode cJ6_getChars_ba4f3 43 = .ok (.aload_n 2, 1) := by decide +kernel
theorem dJ6_getChars_ba4f3_44 : decode cJ6_getChars_ba4f3 44 = .ok (.iinc 5 (-1), 3) := by decide +kernel
theorem dJ6_getChars_ba4f3_47 : decode cJ6_getChars_ba4f3 47 = .ok (.iload 5, 2) := by decide +kernel
theorem dJ6_getChars_ba4f3_49 : decode cJ6_getChars_ba4f3 49 = .ok (.getstatic 83, 3) := by decide +kernel
theorem dJ6_getChars_ba4f3_52 : decode cJ6_getChars_ba4f3 52 = .ok (.iload 4, 2) := by decide +kernel
theorem dJ6_getChars_ba4f3_54 : decode cJ6_getChars_ba4f3 54 = .ok (.baload, 1) := by decide +kernel
theorem dJ6_getChars_ba4f3_55 : decode cJ6_getChars_ba4f3 55 = .ok (.bastore, 1) := by decide +kernel
theorem dJ6_getChars_ba4f3_56 : decode cJ6_getChars_ba4f3 56 = .ok (.aload_n 2, 1) := by decide +kernel
theorem dJ6_getChars_ba4f3_57 : decode cJ6_getChars_ba4f3 57 = .ok (.iinc 5 (-1), 3) := by decide +kernel
theorem dJ6_getChars_ba4f3_60 : decode cJ6_getChars_ba4f3 60 = .ok (.iload 5, 2) := by decide +kernel
theorem dJ6_getChars_ba4f3_62 : decode cJ6_getChars_ba4f3 62 = .ok (.getstatic 87, 3) := by decide +kernel
theorem dJ6_getChars_ba4f3_65 : decode cJ6_getChars_ba4f3 65 = .ok (.iload 4, 2) := by decide +kernel
theorem dJ6_getChars_ba4f3_67 : decode cJ6_getChars_ba4f3 67 = .ok (.baload, 1) := by decide +kernel
theorem dJ6_getChars_ba4f3_68 : decode cJ6_getChars_ba4f3 68 = .ok (.bastore, 1) := by decide +kernel
theorem dJ6_getChars_ba4f3_69 : decode cJ6_getChars_ba4f3 69 = .ok (.goto (-47), 3) := by decide +kernel
theorem dJ6_getChars_ba4f3_72 : decode cJ6_getChars_ba4f3 72 = .ok (.aload_n 2, 1) := by decide +kernel
theorem dJ6_getChars_ba4f3_73 : decode cJ6_getChars_ba4f3 73 = .ok (.iinc 5 (-1), 3) := by decide +kernel
theorem dJ6_getChars_ba4f3_76 : decode cJ6_getChars_ba4f3 76 = .ok (.iload 5, 2) := by decide +kernel
theorem dJ6_getChars_ba4f3_78 : decode cJ6_getChars_ba4f3 78 = .ok (.getstatic 83, 3) := by decide +kernel
theorem dJ6_getChars_ba4f3_81 : decode cJ6_getChars_ba4f3 81 = .ok (.iload_n 0, 1) := by decide +kernel
theorem dJ6_getChars_ba4f3_82 : decode cJ6_getChars_ba4f3 82 = .ok (.ineg, 1) := by decide +kernel
theorem dJ6_getChars_ba4f3_83 : decode cJ6_getChars_ba4f3 83 = .ok (.baload, 1) := by decide +kernel
theorem dJ6_getChars_ba4f3_84 : decode cJ6_getChars_ba4f3 84 = .ok (.bastore, 1) := by decide +kernel
theorem dJ6_getChars_ba4f3_85 : decode cJ6_getChars_ba4f3 85 = .ok (.iload_n 0, 1) := by decide +kernel
theorem dJ6_getChars_ba4f3_86 : decode cJ6_getChars_ba4f3 86 = .ok (.bipush (-9), 2) := by decide +kernel
theorem dJ6_getChars_ba4f3_88 : decode cJ6_getChars_ba4f3 88 = .ok (.if_icmp .ge 16, 3) := by decide +kernel
theorem dJ6_getChars_ba4f3_91 : decode cJ6_getChars_ba4f3 91 = .ok (.aload_n 2, 1) := by decide +kernel
theorem dJ6_getChars_ba4f3_92 : decode cJ6_getChars_ba4f3 92 = .ok (.iinc 5 (-1), 3) := by decide +kernel
theorem dJ6_getChars_ba4f3_95 : decode cJ6_getChars_ba4f3 95 = .ok (.iload 5, 2) := by decide +kernel
theorem dJ6_getChars_ba4f3_97 : decode cJ6_getChars_ba4f3 97 = .ok (.getstatic 87, 3) := by decide +kernel
theorem dJ6_getChars_ba4f3_100 : decode cJ6_getChars_ba4f3 100 = .ok (.iload_n 0, 1) := by decide +kernel
theorem dJ6_getChars_ba4f3_101 : decode cJ6_getChars_ba4f3 101 = .ok (.ineg, 1) := by decide +kernel
theorem dJ6_getChars_ba4f3_102 : decode cJ6_getChars_ba4f3 102 = .ok (.baload, 1) := by decide +kernel
theorem dJ6_getChars_ba4f3_103 : decode cJ6_getChars_ba4f3 103 = .ok (.bastore, 1) := by decide +kernel
theorem dJ6_getChars_ba4f3_104 : decode cJ6_getChars_ba4f3 104 = .ok (.iload 6, 2) := by decide +kernel
theorem dJ6_getChars_ba4f3_106 : decode cJ6_getChars_ba4f3 106 = .ok (.ifCond .eq 12, 3) := by decide +kernel
theorem dJ6_getChars_ba4f3_109 : decode cJ6_getChars_ba4f3 109 = .ok (.aload_n 2, 1) := by decide +kernel
theorem dJ6_getChars_ba4f3_110 : decode cJ6_getChars_ba4f3 110 = .ok (.iinc 5 (-1), 3) := by decide +kernel
theorem dJ6_getChars_ba4f3_113 : decode cJ6_getChars_ba4f3 113 = .ok (.iload 5, 2) := by decide +kernel
theorem dJ6_getChars_ba4f3_115 : decode cJ6_getChars_ba4f3 115 = .ok (.bipush 45, 2) := by decide +kernel
theorem dJ6_getChars_ba4f3_117 : decode cJ6_getChars_ba4f3 117 = .ok (.bastore, 1) := by decide +kernel
theorem dJ6_getChars_ba4f3_118 : decode cJ6_getChars_ba4f3 118 = .ok (.iload 5, 2) := by decide +kernel
theorem dJ6_getChars_ba4f3_120 : decode cJ6_getChars_ba4f3 120 = .ok (.ireturn, 1) := by decide +kernel
theorem dJ6_stringSize_0f7a4_0 : decode cJ6_stringSize_0f7a4 0 = .ok (.iconst 1, 1) := by decide +kernel
theorem dJ6_stringSize_0f7a4_1 : decode cJ6_stringSize_0f7a4 1 = .ok (.istore_n 1, 1) := by decide +kernel
theorem dJ6_stringSize_0f7a4_2 : decode cJ6_stringSize_0f7a4 2 = .ok (.iload_n 0, 1) := by decide +kernel
theorem dJ6_stringSize_0f7a4_3 : decode cJ6_stringSize_0f7a4 3 = .ok (.ifCond .lt 8, 3) := by decide +kernel
theorem dJ6_stringSize_0f7a4_6 : decode cJ6_stringSize_0f7a4 6 = .ok (.iconst 0, 1) := by decide +kernel
theorem dJ6_stringSize_0f7a4_7 : decode cJ6_stringSize_0f7a4 7 = .ok (.istore_n 1, 1) := by decide +kernel
theorem dJ6_stringSize_0f7a4_8 : decode cJ6_stringSize_0f7a4 8 = .ok (.iload_n 0, 1) := by decide +kernel
theorem dJ6_stringSize_0f7a4_9 : decode cJ6_stringSize_0f7a4 9 = .ok (.ineg, 1) := by decide +kernel
theorem dJ6_stringSize_0f7a4_10 : decode cJ6_stringSize_0f7a4 10 = .ok (.istore_n 0, 1) := by decide +kernel
theorem dJ6_stringSize_0f7a4_11 : decode cJ6_stringSize_0f7a4 11 = .ok (.bipush (-10), 2) := by decide +kernel
theorem dJ6_stringSize_0f7a4_13 : decode cJ6_stringSize_0f7a4 13 = .ok (.istore_n 2, 1) := by decide +kernel
theorem dJ6_stringSize_0f7a4_14 : decode cJ6_stringSize_0f7a4 14 = .ok (.iconst 1, 1) := by decide +kernel
theorem dJ6_stringSize_0f7a4_15 : decode cJ6_stringSize_0f7a4 15 = .ok (.istore_n 3, 1) := by decide +kernel
theorem dJ6_stringSize_0f7a4_16 : decode cJ6_stringSize_0f7a4 16 = .ok (.iload_n 3, 1) := by decide +kernel
theorem dJ6_stringSize_0f7a4_17 : decode cJ6_stringSize_0f7a4 17 = .ok (.bipush 10, 2) := by decide +kernel
theorem dJ6_stringSize_0f7a4_19 : decode cJ6_stringSize_0f7a4 19 = .ok (.if_icmp .ge 23, 3) := by decide +kernel
theorem dJ6_stringSize_0f7a4_22 : decode cJ6_stringSize_0f7a4 22 = .ok (.iload_n 0, 1) := by decide +kernel
theorem dJ6_stringSize_0f7a4_23 : decode cJ6_stringSize_0f7a4 23 = .ok (.iload_n 2, 1) := by decide +kernel
theorem dJ6_stringSize_0f7a4_24 : decode cJ6_stringSize_0f7a4 24 = .ok (.if_icmp .le 7, 3) := by decide +kernel
theorem dJ6_stringSize_0f7a4_27 : decode cJ6_stringSize_0f7a4 27 = .ok (.iload_n 3, 1) := by decide +kernel
theorem dJ6_stringSize_0f7a4_28 : decode cJ6_stringSize_0f7a4 28 = .ok (.iload_n 1, 1) := by decide +kernel
theorem dJ6_stringSize_0f7a4_29 : decode cJ6_stringSize_0f7a4 29 = .ok (.iadd, 1) := by decide +kernel
theorem dJ6_stringSize_0f7a4_30 : decode cJ6_stringSize_0f7a4 30 = .ok (.ireturn, 1) := by decide +kernel
theorem dJ6_stringSize_0f7a4_31 : decode cJ6_stringSize_0f7a4 31 = .ok (.bipush 10, 2) := by decide +kernel
theorem dJ6_stringSize_0f7a4_33 : decode cJ6_stringSize_0f7a4 33 = .ok (.iload_n 2, 1) := by decide +kernel
theorem dJ6_stringSize_0f7a4_34 : decode cJ6_stringSize_0f7a4 34 = .ok (.imul, 1) := by decide +kernel
theorem dJ6_stringSize_0f7a4_35 : decode cJ6_stringSize_0f7a4 35 = .ok (.istore_n 2, 1) := by decide +kernel
theorem dJ6_stringSize_0f7a4_36 : decode cJ6_stringSize_0f7a4 36 = .ok (.iinc 3 1, 3) := by decide +kernel
theorem dJ6_stringSize_0f7a4_39 : decode cJ6_stringSize_0f7a4 39 = .ok (.goto (-23), 3) := by decide +kernel
theorem dJ6_stringSize_0f7a4_42 : decode cJ6_stringSize_0f7a4 42 = .ok (.bipush 10, 2) := by decide +kernel
theorem dJ6_stringSize_0f7a4_44 : decode cJ6_stringSize_0f7a4 44 = .ok (.iload_n 1, 1) := by decide +kernel
theorem dJ6_stringSize_0f7a4_45 : decode cJ6_stringSize_0f7a4 45 = .ok (.iadd, 1) := by decide +kernel
theorem dJ6_stringSize_0f7a4_46 : decode cJ6_stringSize_0f7a4 46 = .ok (.ireturn, 1) := by decide +kernel
theorem dJ0_length_8abf5_0 : decode cJ0_length_8abf5 0 = .ok (.aload_n 0, 1) := by decide +kernel
theorem dJ0_length_8abf5_1 : decode cJ0_length_8abf5 1 = .ok (.getfield 9, 3) := by decide +kernel
theorem dJ0_length_8abf5_4 : decode cJ0_length_8abf5 4 = .ok (.arraylength, 1) := by decide +kernel
theorem dJ0_length_8abf5_5 : decode cJ0_length_8abf5 5 = .ok (.aload_n 0, 1) := by decide +kernel
theorem dJ0_length_8abf5_6 : decode cJ0_length_8abf5 6 = .ok (.invokevirtual 335, 3) := by decide +kernel
theorem dJ0_length_8abf5_9 : decode cJ0_length_8abf5 9 = .ok (.ishr, 1) := by decide +kernel
theorem dJ0_length_8abf5_10 : decode cJ0_length_8abf5 10 = .ok (.ireturn, 1) := by decide +kernel
theorem dJ0_charAt_5068e_0 : decode cJ0_charAt_5068e 0 = .ok (.aload_n 0, 1) := by decide +kernel
theorem dJ0_charAt_5068e_1 : decode cJ0_charAt_5068e 1 = .ok (.invokevirtual 492, 3) := by decide +kernel
theorem dJ0_charAt_5068e_4 : decode cJ0_charAt_5068e 4 = .ok (.ifCond .eq 12, 3) := by decide +kernel
theorem dJ0_charAt_5068e_7 : decode cJ0_charAt_5068e 7 = .ok (.aload_n 0, 1) := by decide +kernel
theorem dJ0_charAt_5068e_8 : decode cJ0_charAt_5068e 8 = .ok (.getfield 9, 3) := by decide +kernel
theorem dJ0_charAt_5068e_11 : decode cJ0_charAt_5068e 11 = .ok (.iload_n 1, 1) := by decide +kernel
theorem dJ0_charAt_5068e_12 : decode cJ0_charAt_5068e 12 = .ok (.invokestatic 495, 3) := by decide +kernel
theorem dJ0_charAt_5068e_15 : decode cJ0_charAt_5068e 15 = .ok (.ireturn, 1) := by decide +kernel
theorem dJ0_charAt_5068e_16 : decode cJ0_charAt_5068e 16 = .ok (.aload_n 0, 1) := by decide +kernel
theorem dJ0_charAt_5068e_17 : decode cJ0_charAt_5068e 17 = .ok (.getfield 9, 3) := by decide +kernel
theorem dJ0_charAt_5068e_20 : decode cJ0_charAt_5068e 20 = .ok (.iload_n 1, 1) := by decide +kernel
theorem dJ0_charAt_5068e_21 : decode cJ0_charAt_5068e 21 = .ok (.invokestatic 498, 3) := by decide +kernel
theorem dJ0_charAt_5068e_24 : decode cJ0_charAt_5068e 24 = .ok (.ireturn, 1) := by decide +kernel
theorem dJ0_coder_7d493_0 : decode cJ0_coder_7d493 0 = .ok (.getstatic 38, 3) := by decide +kernel
theorem dJ0_coder_7d493_3 : decode cJ0_coder_7d493 3 = .ok (.ifCond .eq 10, 3) := by decide +kernel
theorem dJ0_coder_7d493_6 : decode cJ0_coder_7d493 6 = .ok (.aload_n 0, 1) := by decide +kernel
theorem dJ0_coder_7d493_7 : decode cJ0_coder_7d493 7 = .ok (.getfield 15, 3) := by decide +kernel
theorem dJ0_coder_7d493_10 : decode cJ0_coder_7d493 10 = .ok (.goto 4, 3) := by decide +kernel
theorem dJ0_coder_7d493_13 : decode cJ0_coder_7d493 13 = .ok (.iconst 1, 1) := by decide +kernel
theorem dJ0_coder_7d493_14 : decode cJ0_coder_7d493 14 = .ok (.ireturn, 1) := by decide +kernel
theorem dJ0_isLatin1_aae02_0 : decode cJ0_isLatin1_aae02 0 = .ok (.getstatic 38, 3) := by decide +kernel
theorem dJ0_isLatin1_aae02_3 : decode cJ0_isLatin1_aae02 3 = .ok (.ifCond .eq 14, 3) := by decide +kernel
theorem dJ0_isLatin1_aae02_6 : decode cJ0_isLatin1_aae02 6 = .ok (.aload_n 0, 1) := by decide +kernel
theorem dJ0_isLatin1_aae02_7 : decode cJ0_isLatin1_aae02 7 = .ok (.getfield 15, 3) := by decide +kernel
theorem dJ0_isLatin1_aae02_10 : decode cJ0_isLatin1_aae02 10 = .ok (.ifCond .ne 7, 3) := by decide +kernel
theorem dJ0_isLatin1_aae02_13 : decode cJ0_isLatin1_aae02 13 = .ok (.iconst 1, 1) := by decide +kernel
theorem dJ0_isLatin1_aae02_14 : decode cJ0_isLatin1_aae02 14 = .ok (.goto 4, 3) := by decide +kernel
theorem dJ0_isLatin1_aae02_17 : decode cJ0_isLatin1_aae02 17 = .ok (.iconst 0, 1) := by decide +kernel
theorem dJ0_isLatin1_aae02_18 : decode cJ0_isLatin1_aae02 18 = .ok (.ireturn, 1) := by decide +kernel
theorem dJ0_checkIndex_df160_0 : decode cJ0_checkIndex_df160 0 = .ok (.iload_n 0, 1) := by decide +kernel
theorem dJ0_checkIndex_df160_1 : decode cJ0_checkIndex_df160 1 = .ok (.iload_n 1, 1) := by decide +kernel
theorem dJ0_checkIndex_df160_2 : decode cJ0_checkIndex_df160 2 = .ok (.getstatic 1053, 3) := by decide +kernel
theorem dJ0_checkIndex_df160_5 : decode cJ0_checkIndex_df160 5 = .ok (.invokestatic 1059, 3) := by decide +kernel
theorem dJ0_checkIndex_df160_8 : decode cJ0_checkIndex_df160 8 = .ok (.pop, 1) := by decide +kernel
theorem dJ0_checkIndex_df160_9 : decode cJ0_checkIndex_df160 9 = .ok (.return_, 1) := by decide +kernel
theorem dJ4_init_da8c8_0 : decode cJ4_init_da8c8 0 = .ok (.aload_n 0, 1) := by decide +kernel
theorem dJ4_init_da8c8_1 : decode cJ4_init_da8c8 1 = .ok (.bipush 16, 2) := by decide +kernel
theorem dJ4_init_da8c8_3 : decode cJ4_init_da8c8 3 = .ok (.invokespecial 1, 3) := by decide +kernel
theorem dJ4_init_da8c8_6 : decode cJ4_init_da8c8 6 = .ok (.return_, 1) := by decide +kernel
theorem dJ4_append_cf468_0 : decode cJ4_append_cf468 0 = .ok (.aload_n 0, 1) := by decide +kernel
theorem dJ4_append_cf468_1 : decode cJ4_append_cf468 1 = .ok (.iload_n 1, 1) := by decide +kernel
theorem dJ4_append_cf468_2 : decode cJ4_append_cf468 2 = .ok (.invokespecial 50, 3) := by decide +kernel
theorem dJ4_append_cf468_5 : decode cJ4_append_cf468 5 = .ok (.pop, 1) := by decide +kernel
theorem dJ4_append_cf468_6 : decode cJ4_append_cf468 6 = .ok (.aload_n 0, 1) := by decide +kernel
theorem dJ4_append_cf468_7 : decode cJ4_append_cf468 7 = .ok (.areturn, 1) := by decide +kernel
theorem dJ4_append_bf812_0 : decode cJ4_append_bf812 0 = .ok (.aload_n 0, 1) := by decide +kernel
theorem dJ4_append_bf812_1 : decode cJ4_append_bf812 1 = .ok (.iload_n 1, 1) := by decide +kernel
theorem dJ4_append_bf812_2 : decode cJ4_append_bf812 2 = .ok (.invokespecial 53, 3) := by decide +kernel
theorem dJ4_append_bf812_5 : decode cJ4_append_bf812 5 = .ok (.pop, 1) := by decide +kernel
theorem dJ4_append_bf812_6 : decode cJ4_append_bf812 6 = .ok (.aload_n 0, 1) := by decide +kernel
theorem dJ4_append_bf812_7 : decode cJ4_append_bf812 7 = .ok (.areturn, 1) := by decide +kernel
theorem dJ4_charAt_5068e_0 : decode cJ4_charAt_5068e 0 = .ok (.aload_n 0, 1) := by decide +kernel
theorem dJ4_charAt_5068e_1 : decode cJ4_charAt_5068e 1 = .ok (.iload_n 1, 1) := by decide +kernel
theorem dJ4_charAt_5068e_2 : decode cJ4_charAt_5068e 2 = .ok (.invokespecial 329, 3) := by decide +kernel
theorem dJ4_charAt_5068e_5 : decode cJ4_charAt_5068e 5 = .ok (.ireturn, 1) := by decide +kernel
theorem dJ4_setLength_d00df_0 : decode cJ4_setLength_d00df 0 = .ok (.aload_n 0, 1) := by decide +kernel
theorem dJ4_setLength_d00df_1 : decode cJ4_setLength_d00df 1 = .ok (.iload_n 1, 1) := by decide +kernel
theorem dJ4_setLength_d00df_2 : decode cJ4_setLength_d00df 2 = .ok (.invokespecial 333, 3) := by decide +kernel
theorem dJ4_setLength_d00df_5 : decode cJ4_setLength_d00df 5 = .ok (.return_, 1) := by decide +kernel
theorem dJ4_length_8abf5_0 : decode cJ4_length_8abf5 0 = .ok (.aload_n 0, 1) := by decide +kernel
theorem dJ4_length_8abf5_1 : decode cJ4_length_8abf5 1 = .ok (.invokespecial 343, 3) := by decide +kernel
theorem dJ4_length_8abf5_4 : decode cJ4_length_8abf5 4 = .ok (.ireturn, 1) := by decide +kernel
theorem dJ1_charAt_3b067_0 : decode cJ1_charAt_3b067 0 = .ok (.iload_n 1, 1) := by decide +kernel
theorem dJ1_charAt_3b067_1 : decode cJ1_charAt_3b067 1 = .ok (.aload_n 0, 1) := by decide +kernel
theorem dJ1_charAt_3b067_2 : decode cJ1_charAt_3b067 2 = .ok (.arraylength, 1) := by decide +kernel
theorem dJ1_charAt_3b067_3 : decode cJ1_charAt_3b067 3 = .ok (.invokestatic 9, 3) := by decide +kernel
theorem dJ1_charAt_3b067_6 : decode cJ1_charAt_3b067 6 = .ok (.aload_n 0, 1) := by decide +kernel
theorem dJ1_charAt_3b067_7 : decode cJ1_charAt_3b067 7 = .ok (.iload_n 1, 1) := by decide +kernel
theorem dJ1_charAt_3b067_8 : decode cJ1_charAt_3b067 8 = .ok (.baload, 1) := by decide +kernel
theorem dJ1_charAt_3b067_9 : decode cJ1_charAt_3b067 9 = .ok (.sipush 255, 3) := by decide +kernel
theorem dJ1_charAt_3b067_12 : decode cJ1_charAt_3b067 12 = .ok (.iand, 1) := by decide +kernel
theorem dJ1_charAt_3b067_13 : decode cJ1_charAt_3b067 13 = .ok (.i2c, 1) := by decide +kernel
theorem dJ1_charAt_3b067_14 : decode cJ1_charAt_3b067 14 = .ok (.ireturn, 1) := by decide +kernel
theorem dJ1_canEncode_fc78d_0 : decode cJ1_canEncode_fc78d 0 = .ok (.iload_n 0, 1) := by decide +kernel
theorem dJ1_canEncode_fc78d_1 : decode cJ1_canEncode_fc78d 1 = .ok (.sipush 255, 3) := by decide +kernel
theorem dJ1_canEncode_fc78d_4 : decode cJ1_canEncode_fc78d 4 = .ok (.if_icmp .gt 7, 3) := by decide +kernel
theorem dJ1_canEncode_fc78d_7 : decode cJ1_canEncode_fc78d 7 = .ok (.iconst 1, 1) := by decide +kernel
theorem dJ1_canEncode_fc78d_8 : decode cJ1_canEncode_fc78d 8 = .ok (.goto 4, 3) := by decide +kernel
theorem dJ1_canEncode_fc78d_11 : decode cJ1_canEncode_fc78d 11 = .ok (.iconst 0, 1) := by decide +kernel
theorem dJ1_canEncode_fc78d_12 : decode cJ1_canEncode_fc78d 12 = .ok (.ireturn, 1) := by decide +kernel
theorem dJ1_fillNull_b72d1_0 : decode cJ1_fillNull_b72d1 0 = .ok (.aload_n 0, 1) := by decide +kernel
theorem dJ1_fillNull_b72d1_1 : decode cJ1_fillNull_b72d1 1 = .ok (.iload_n 1, 1) := by decide +kernel
theorem dJ1_fillNull_b72d1_2 : decode cJ1_fillNull_b72d1 2 = .ok (.iload_n 2, 1) := by decide +kernel
theorem dJ1_fillNull_b72d1_3 : decode cJ1_fillNull_b72d1 3 = .ok (.iconst 0, 1) := by decide +kernel
theorem dJ1_fillNull_b72d1_4 : decode cJ1_fillNull_b72d1 4 = .ok (.invokestatic 236, 3) := by decide +kernel
theorem dJ1_fillNull_b72d1_7 : decode cJ1_fillNull_b72d1 7 = .ok (.return_, 1) := by decide +kernel
theorem dJ7_rangeCheck_23922_0 : decode cJ7_rangeCheck_23922 0 = .ok (.iload_n 1, 1) := by decide +kernel
theorem dJ7_rangeCheck_23922_1 : decode cJ7_rangeCheck_23922 1 = .ok (.iload_n 2, 1) := by decide +kernel
theorem dJ7_rangeCheck_23922_2 : decode cJ7_rangeCheck_23922 2 = .ok (.if_icmp .le 44, 3) := by decide +kernel
theorem dJ7_rangeCheck_23922_5 : decode cJ7_rangeCheck_23922 5 = .ok (.new 43, 3) := by decide +kernel
theorem dJ7_rangeCheck_23922_8 : decode cJ7_rangeCheck_23922 8 = .ok (.dup, 1) := by decide +kernel
theorem dJ7_rangeCheck_23922_9 : decode cJ7_rangeCheck_23922 9 = .ok (.new 45, 3) := by decide +kernel
theorem dJ7_rangeCheck_23922_12 : decode cJ7_rangeCheck_23922 12 = .ok (.dup, 1) := by decide +kernel
theorem dJ7_rangeCheck_23922_13 : decode cJ7_rangeCheck_23922 13 = .ok (.invokespecial 47, 3) := by decide +kernel
theorem dJ7_rangeCheck_23922_16 : decode cJ7_rangeCheck_23922 16 = .ok (.ldc 48, 2) := by decide +kernel
theorem dJ7_rangeCheck_23922_18 : decode cJ7_rangeCheck_23922 18 = .ok (.invokevirtual 50, 3) := by decide +kernel
theorem dJ7_rangeCheck_23922_21 : decode cJ7_rangeCheck_23922 21 = .ok (.iload_n 1, 1) := by decide +kernel
theorem dJ7_rangeCheck_23922_22 : decode cJ7_rangeCheck_23922 22 = .ok (.invokevirtual 54, 3) := by decide +kernel
theorem dJ7_rangeCheck_23922_25 : decode cJ7_rangeCheck_23922 25 = .ok (.ldc 57, 2) := by decide +kernel
theorem dJ7_rangeCheck_23922_27 : decode cJ7_rangeCheck_23922 27 = .ok (.invokevirtual 50, 3) := by decide +kernel
theorem dJ7_rangeCheck_23922_30 : decode cJ7_rangeCheck_23922 30 = .ok (.iload_n 2, 1) := by decide +kernel
theorem dJ7_rangeCheck_23922_31 : decode cJ7_rangeCheck_23922 31 = .ok (.invokevirtual 54, 3) := by decide +kernel
theorem dJ7_rangeCheck_23922_34 : decode cJ7_rangeCheck_23922 34 = .ok (.ldc 59, 2) := by decide +kernel
theorem dJ7_rangeCheck_23922_36 : decode cJ7_rangeCheck_23922 36 = .ok (.invokevirtual 50, 3) := by decide +kernel
theorem dJ7_rangeCheck_23922_39 : decode cJ7_rangeCheck_23922 39 = .ok (.invokevirtual 61, 3) := by decide +kernel
theorem dJ7_rangeCheck_23922_42 : decode cJ7_rangeCheck_23922 42 = .ok (.invokespecial 65, 3) := by decide +kernel
theorem dJ7_rangeCheck_23922_45 : decode cJ7_rangeCheck_23922 45 = .ok (.athrow, 1) := by decide +kernel
theorem dJ7_rangeCheck_23922_46 : decode cJ7_rangeCheck_23922 46 = .ok (.iload_n 1, 1) := by decide +kernel
theorem dJ7_rangeCheck_23922_47 : decode cJ7_rangeCheck_23922 47 = .ok (.ifCond .ge 12, 3) := by decide +kernel
theorem dJ7_rangeCheck_23922_50 : decode cJ7_rangeCheck_23922 50 = .ok (.new 68, 3) := by decide +kernel
theorem dJ7_rangeCheck_23922_53 : decode cJ7_rangeCheck_23922 53 = .ok (.dup, 1) := by decide +kernel
theorem dJ7_rangeCheck_23922_54 : decode cJ7_rangeCheck_23922 54 = .ok (.iload_n 1, 1) := by decide +kernel
theorem dJ7_rangeCheck_23922_55 : decode cJ7_rangeCheck_23922 55 = .ok (.invokespecial 70, 3) := by decide +kernel
theorem dJ7_rangeCheck_23922_58 : decode cJ7_rangeCheck_23922 58 = .ok (.athrow, 1) := by decide +kernel
theorem dJ7_rangeCheck_23922_59 : decode cJ7_rangeCheck_23922 59 = .ok (.iload_n 2, 1) := by decide +kernel
theorem dJ7_rangeCheck_23922_60 : decode cJ7_rangeCheck_23922 60 = .ok (.iload_n 0, 1) := by decide +kernel
theorem dJ7_rangeCheck_23922_61 : decode cJ7_rangeCheck_23922 61 = .ok (.if_icmp .le 12, 3) := by decide +kernel
theorem dJ7_rangeCheck_23922_64 : decode cJ7_rangeCheck_23922 64 = .ok (.new 68, 3) := by decide +kernel
theorem dJ7_rangeCheck_23922_67 : decode cJ7_rangeCheck_23922 67 = .ok (.dup, 1) := by decide +kernel
theorem dJ7_rangeCheck_23922_68 : decode cJ7_rangeCheck_23922 68 = .ok (.iload_n 2, 1) := by decide +kernel
theorem dJ7_rangeCheck_23922_69 : decode cJ7_rangeCheck_23922 69 = .ok (.invokespecial 70, 3) := by decide +kernel
theorem dJ7_rangeCheck_23922_72 : decode cJ7_rangeCheck_23922 72 = .ok (.athrow, 1) := by decide +kernel
theorem dJ7_rangeCheck_23922_73 : decode cJ7_rangeCheck_23922 73 = .ok (.return_, 1) := by decide +kernel
theorem dJ7_fill_eb02e_0 : decode cJ7_fill_eb02e 0 = .ok (.aload_n 0, 1) := by decide +kernel
theorem dJ7_fill_eb02e_1 : decode cJ7_fill_eb02e 1 = .ok (.arraylength, 1) := by decide +kernel
theorem dJ7_fill_eb02e_2 : decode cJ7_fill_eb02e 2 = .ok (.iload_n 1, 1) := by decide +kernel
theorem dJ7_fill_eb02e_3 : decode cJ7_fill_eb02e 3 = .ok (.iload_n 2, 1) := by decide +kernel
theorem dJ7_fill_eb02e_4 : decode cJ7_fill_eb02e 4 = .ok (.invokestatic 13, 3) := by decide +kernel
theorem dJ7_fill_eb02e_7 : decode cJ7_fill_eb02e 7 = .ok (.iload_n 1, 1) := by decide +kernel
theorem dJ7_fill_eb02e_8 : decode cJ7_fill_eb02e 8 = .ok (.istore 4, 2) := by decide +kernel
theorem dJ7_fill_eb02e_10 : decode cJ7_fill_eb02e 10 = .ok (.iload 4, 2) := by decide +kernel
theorem dJ7_fill_eb02e_12 : decode cJ7_fill_eb02e 12 = .ok (.iload_n 2, 1) := by decide +kernel
theorem dJ7_fill_eb02e_13 : decode cJ7_fill_eb02e 13 = .ok (.if_icmp .ge 14, 3) := by decide +kernel
theorem dJ7_fill_eb02e_16 : decode cJ7_fill_eb02e 16 = .ok (.aload_n 0, 1) := by decide +kernel
theorem dJ7_fill_eb02e_17 : decode cJ7_fill_eb02e 17 = .ok (.iload 4, 2) := by decide +kernel
theorem dJ7_fill_eb02e_19 : decode cJ7_fill_eb02e 19 = .ok (.iload_n 3, 1) := by decide +kernel
theorem dJ7_fill_eb02e_20 : decode cJ7_fill_eb02e 20 = .ok (.bastore, 1) := by decide +kernel
theorem dJ7_fill_eb02e_21 : decode cJ7_fill_eb02e 21 = .ok (.iinc 4 1, 3) := by decide +kernel
theorem dJ7_fill_eb02e_24 : decode cJ7_fill_eb02e 24 = .ok (.goto (-14), 3) := by decide +kernel
theorem dJ7_fill_eb02e_27 : decode cJ7_fill_eb02e 27 = .ok (.return_, 1) := by decide +kernel
theorem dJ7_copyOf_9075b_0 : decode cJ7_copyOf_9075b 0 = .ok (.iload_n 1, 1) := by decide +kernel
theorem dJ7_copyOf_9075b_1 : decode cJ7_copyOf_9075b 1 = .ok (.aload_n 0, 1) := by decide +kernel
theorem dJ7_copyOf_9075b_2 : decode cJ7_copyOf_9075b 2 = .ok (.arraylength, 1) := by decide +kernel
theorem dJ7_copyOf_9075b_3 : decode cJ7_copyOf_9075b 3 = .ok (.if_icmp .ne 11, 3) := by decide +kernel
theorem dJ7_copyOf_9075b_6 : decode cJ7_copyOf_9075b 6 = .ok (.aload_n 0, 1) := by decide +kernel
theorem dJ7_copyOf_9075b_7 : decode cJ7_copyOf_9075b 7 = .ok (.invokevirtual 310, 3) := by decide +kernel
theorem dJ7_copyOf_9075b_10 : decode cJ7_copyOf_9075b 10 = .ok (.checkcast 311, 3) := by decide +kernel
theorem dJ7_copyOf_9075b_13 : decode cJ7_copyOf_9075b 13 = .ok (.areturn, 1) := by decide +kernel
theorem dJ7_copyOf_9075b_14 : decode cJ7_copyOf_9075b 14 = .ok (.iload_n 1, 1) := by decide +kernel
theorem dJ7_copyOf_9075b_15 : decode cJ7_copyOf_9075b 15 = .ok (.newarray .byte, 2) := by decide +kernel
theorem dJ7_copyOf_9075b_17 : decode cJ7_copyOf_9075b 17 = .ok (.astore_n 2, 1) := by decide +kernel
theorem dJ7_copyOf_9075b_18 : decode cJ7_copyOf_9075b 18 = .ok (.aload_n 0, 1) := by decide +kernel
theorem dJ7_copyOf_9075b_19 : decode cJ7_copyOf_9075b 19 = .ok (.iconst 0, 1) := by decide +kernel
theorem dJ7_copyOf_9075b_20 : decode cJ7_copyOf_9075b 20 = .ok (.aload_n 2, 1) := by decide +kernel
theorem dJ7_copyOf_9075b_21 : decode cJ7_copyOf_9075b 21 = .ok (.iconst 0, 1) := by decide +kernel
theorem dJ7_copyOf_9075b_22 : decode cJ7_copyOf_9075b 22 = .ok (.aload_n 0, 1) := by decide +kernel
theorem dJ7_copyOf_9075b_23 : decode cJ7_copyOf_9075b 23 = .ok (.arraylength, 1) := by decide +kernel
theorem dJ7_copyOf_9075b_24 : decode cJ7_copyOf_9075b 24 = .ok (.iload_n 1, 1) := by decide +kernel
theorem dJ7_copyOf_9075b_25 : decode cJ7_copyOf_9075b 25 = .ok (.invokestatic 304, 3) := by decide +kernel
theorem dJ7_copyOf_9075b_28 : decode cJ7_copyOf_9075b 28 = .ok (.invokestatic 150, 3) := by decide +kernel
theorem dJ7_copyOf_9075b_31 : decode cJ7_copyOf_9075b 31 = .ok (.aload_n 2, 1) := by decide +kernel
theorem dJ7_copyOf_9075b_32 : decode cJ7_copyOf_9075b 32 = .ok (.areturn, 1) := by decide +kernel
theorem dJ8_newLength_cabcc_0 : decode cJ8_newLength_cabcc 0 = .ok (.iload_n 0, 1) := by decide +kernel
theorem dJ8_newLength_cabcc_1 : decode cJ8_newLength_cabcc 1 = .ok (.iload_n 1, 1) := by decide +kernel
theorem dJ8_newLength_cabcc_2 : decode cJ8_newLength_cabcc 2 = .ok (.iload_n 2, 1) := by decide +kernel
theorem dJ8_newLength_cabcc_3 : decode cJ8_newLength_cabcc 3 = .ok (.invokestatic 194, 3) := by decide +kernel
theorem dJ8_newLength_cabcc_6 : decode cJ8_newLength_cabcc 6 = .ok (.iadd, 1) := by decide +kernel
theorem dJ8_newLength_cabcc_7 : decode cJ8_newLength_cabcc 7 = .ok (.istore_n 3, 1) := by decide +kernel
theorem dJ8_newLength_cabcc_8 : decode cJ8_newLength_cabcc 8 = .ok (.iconst 0, 1) := by decide +kernel
theorem dJ8_newLength_cabcc_9 : decode cJ8_newLength_cabcc 9 = .ok (.iload_n 3, 1) := by decide +kernel
theorem dJ8_newLength_cabcc_10 : decode cJ8_newLength_cabcc 10 = .ok (.if_icmp .ge 11, 3) := by decide +kernel
theorem dJ8_newLength_cabcc_13 : decode cJ8_newLength_cabcc 13 = .ok (.iload_n 3, 1) := by decide +kernel
theorem dJ8_newLength_cabcc_14 : decode cJ8_newLength_cabcc 14 = .ok (.ldc 200, 2) := by decide +kernel
theorem dJ8_newLength_cabcc_16 : decode cJ8_newLength_cabcc 16 = .ok (.if_icmp .gt 5, 3) := by decide +kernel
theorem dJ8_newLength_cabcc_19 : decode cJ8_newLength_cabcc 19 = .ok (.iload_n 3, 1) := by decide +kernel
theorem dJ8_newLength_cabcc_20 : decode cJ8_newLength_cabcc 20 = .ok (.ireturn, 1) := by decide +kernel
theorem dJ8_newLength_cabcc_21 : decode cJ8_newLength_cabcc 21 = .ok (.iload_n 0, 1) := by decide +kernel
theorem dJ8_newLength_cabcc_22 : decode cJ8_newLength_cabcc 22 = .ok (.iload_n 1, 1) := by decide +kernel
theorem dJ8_newLength_cabcc_23 : decode cJ8_newLength_cabcc 23 = .ok (.invokestatic 201, 3) := by decide +kernel
theorem dJ8_newLength_cabcc_26 : decode cJ8_newLength_cabcc 26 = .ok (.ireturn, 1) := by decide +kernel
theorem dJ3_checkIndex_8e157_0 : decode cJ3_checkIndex_8e157 0 = .ok (.iload_n 0, 1) := by decide +kernel
theorem dJ3_checkIndex_8e157_1 : decode cJ3_checkIndex_8e157 1 = .ok (.ifCond .lt 8, 3) := by decide +kernel
theorem dJ3_checkIndex_8e157_4 : decode cJ3_checkIndex_8e157 4 = .ok (.iload_n 0, 1) := by decide +kernel
theorem dJ3_checkIndex_8e157_5 : decode cJ3_checkIndex_8e157 5 = .ok (.iload_n 1, 1) := by decide +kernel
theorem dJ3_checkIndex_8e157_6 : decode cJ3_checkIndex_8e157 6 = .ok (.if_icmp .lt 10, 3) := by decide +kernel
theorem dJ3_checkIndex_8e157_9 : decode cJ3_checkIndex_8e157 9 = .ok (.aload_n 2, 1) := by decide +kernel
theorem dJ3_checkIndex_8e157_10 : decode cJ3_checkIndex_8e157 10 = .ok (.iload_n 0, 1) := by decide +kernel
theorem dJ3_checkIndex_8e157_11 : decode cJ3_checkIndex_8e157 11 = .ok (.iload_n 1, 1) := by decide +kernel
theorem dJ3_checkIndex_8e157_12 : decode cJ3_checkIndex_8e157 12 = .ok (.invokestatic 95, 3) := by decide +kernel
theorem dJ3_checkIndex_8e157_15 : decode cJ3_checkIndex_8e157 15 = .ok (.athrow, 1) := by decide +kernel
theorem dJ3_checkIndex_8e157_16 : decode cJ3_checkIndex_8e157 16 = .ok (.iload_n 0, 1) := by decide +kernel
theorem dJ3_checkIndex_8e157_17 : decode cJ3_checkIndex_8e157 17 = .ok (.ireturn, 1) := by decide +kernel
