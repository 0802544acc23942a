theorem d_Senses_init_0 : decode k_Senses_init 0 = .ok (.aload_n 0, 1) := by decide +kernel
theorem d_Senses_init_1 : decode k_Senses_init 1 = .ok (.invokespecial 3, 3) := by decide +kernel
theorem d_Senses_init_4 : decode k_Senses_init 4 = .ok (.aload_n 0, 1) := by decide +kernel
theorem d_Senses_init_5 : decode k_Senses_init 5 = .ok (.sipush 4096, 3) := by decide +kernel
theorem d_Senses_init_8 : decode k_Senses_init 8 = .ok (.newarray .int, 2) := by decide +kernel
theorem d_Senses_init_10 : decode k_Senses_init 10 = .ok (.putfield 9, 3) := by decide +kernel
theorem d_Senses_init_13 : decode k_Senses_init 13 = .ok (.aload_n 0, 1) := by decide +kernel
theorem d_Senses_init_14 : decode k_Senses_init 14 = .ok (.sipush 4096, 3) := by decide +kernel
theorem d_Senses_init_17 : decode k_Senses_init 17 = .ok (.newarray .int, 2) := by decide +kernel
theorem d_Senses_init_19 : decode k_Senses_init 19 = .ok (.putfield 15, 3) := by decide +kernel
theorem d_Senses_init_22 : decode k_Senses_init 22 = .ok (.aload_n 0, 1) := by decide +kernel
theorem d_Senses_init_23 : decode k_Senses_init 23 = .ok (.sipush 924, 3) := by decide +kernel
theorem d_Senses_init_26 : decode k_Senses_init 26 = .ok (.newarray .int, 2) := by decide +kernel
theorem d_Senses_init_28 : decode k_Senses_init 28 = .ok (.putfield 18, 3) := by decide +kernel
theorem d_Senses_init_31 : decode k_Senses_init 31 = .ok (.aload_n 0, 1) := by decide +kernel
theorem d_Senses_init_32 : decode k_Senses_init 32 = .ok (.iconst 0, 1) := by decide +kernel
theorem d_Senses_init_33 : decode k_Senses_init 33 = .ok (.putfield 21, 3) := by decide +kernel
theorem d_Senses_init_36 : decode k_Senses_init 36 = .ok (.aload_n 0, 1) := by decide +kernel
theorem d_Senses_init_37 : decode k_Senses_init 37 = .ok (.iconst 0, 1) := by decide +kernel
theorem d_Senses_init_38 : decode k_Senses_init 38 = .ok (.putfield 25, 3) := by decide +kernel
theorem d_Senses_init_41 : decode k_Senses_init 41 = .ok (.aload_n 0, 1) := by decide +kernel
theorem d_Senses_init_42 : decode k_Senses_init 42 = .ok (.iconst 0, 1) := by decide +kernel
theorem d_Senses_init_43 : decode k_Senses_init 43 = .ok (.putfield 28, 3) := by decide +kernel
theorem d_Senses_init_46 : decode k_Senses_init 46 = .ok (.return_, 1) := by decide +kernel
theorem d_Listing_init_0 : decode k_Listing_init 0 = .ok (.aload_n 0, 1) := by decide +kernel
theorem d_Listing_init_1 : decode k_Listing_init 1 = .ok (.invokespecial 3, 3) := by decide +kernel
theorem d_Listing_init_4 : decode k_Listing_init 4 = .ok (.aload_n 0, 1) := by decide +kernel
theorem d_Listing_init_5 : decode k_Listing_init 5 = .ok (.iconst 0, 1) := by decide +kernel
theorem d_Listing_init_6 : decode k_Listing_init 6 = .ok (.putfield 9, 3) := by decide +kernel
theorem d_Listing_init_9 : decode k_Listing_init 9 = .ok (.aload_n 0, 1) := by decide +kernel
theorem d_Listing_init_10 : decode k_Listing_init 10 = .ok (.iconst 0, 1) := by decide +kernel
theorem d_Listing_init_11 : decode k_Listing_init 11 = .ok (.putfield 15, 3) := by decide +kernel
theorem d_Listing_init_14 : decode k_Listing_init 14 = .ok (.aload_n 0, 1) := by decide +kernel
theorem d_Listing_init_15 : decode k_Listing_init 15 = .ok (.iconst 0, 1) := by decide +kernel
theorem d_Listing_init_16 : decode k_Listing_init 16 = .ok (.putfield 19, 3) := by decide +kernel
theorem d_Listing_init_19 : decode k_Listing_init 19 = .ok (.aload_n 0, 1) := by decide +kernel
theorem d_Listing_init_20 : decode k_Listing_init 20 = .ok (.iconst (-1), 1) := by decide +kernel
theorem d_Listing_init_21 : decode k_Listing_init 21 = .ok (.putfield 22, 3) := by decide +kernel
theorem d_Listing_init_24 : decode k_Listing_init 24 = .ok (.return_, 1) := by decide +kernel
theorem d_Grounds_init_0 : decode k_Grounds_init 0 = .ok (.aload_n 0, 1) := by decide +kernel
theorem d_Grounds_init_1 : decode k_Grounds_init 1 = .ok (.invokespecial 3, 3) := by decide +kernel
theorem d_Grounds_init_4 : decode k_Grounds_init 4 = .ok (.aload_n 0, 1) := by decide +kernel
theorem d_Grounds_init_5 : decode k_Grounds_init 5 = .ok (.bipush 12, 2) := by decide +kernel
theorem d_Grounds_init_7 : decode k_Grounds_init 7 = .ok (.newarray .int, 2) := by decide +kernel
theorem d_Grounds_init_9 : decode k_Grounds_init 9 = .ok (.putfield 9, 3) := by decide +kernel
theorem d_Grounds_init_12 : decode k_Grounds_init 12 = .ok (.aload_n 0, 1) := by decide +kernel
theorem d_Grounds_init_13 : decode k_Grounds_init 13 = .ok (.iconst 0, 1) := by decide +kernel
theorem d_Grounds_init_14 : decode k_Grounds_init 14 = .ok (.putfield 15, 3) := by decide +kernel
theorem d_Grounds_init_17 : decode k_Grounds_init 17 = .ok (.return_, 1) := by decide +kernel
theorem d_Talk_init_0 : decode k_Talk_init 0 = .ok (.aload_n 0, 1) := by decide +kernel
theorem d_Talk_init_1 : decode k_Talk_init 1 = .ok (.invokespecial 3, 3) := by decide +kernel
theorem d_Talk_init_4 : decode k_Talk_init 4 = .ok (.aload_n 0, 1) := by decide +kernel
theorem d_Talk_init_5 : decode k_Talk_init 5 = .ok (.sipush 500, 3) := by decide +kernel
theorem d_Talk_init_8 : decode k_Talk_init 8 = .ok (.newarray .int, 2) := by decide +kernel
theorem d_Talk_init_10 : decode k_Talk_init 10 = .ok (.putfield 9, 3) := by decide +kernel
theorem d_Talk_init_13 : decode k_Talk_init 13 = .ok (.aload_n 0, 1) := by decide +kernel
theorem d_Talk_init_14 : decode k_Talk_init 14 = .ok (.sipush 500, 3) := by decide +kernel
theorem d_Talk_init_17 : decode k_Talk_init 17 = .ok (.newarray .int, 2) := by decide +kernel
theorem d_Talk_init_19 : decode k_Talk_init 19 = .ok (.putfield 15, 3) := by decide +kernel
theorem d_Talk_init_22 : decode k_Talk_init 22 = .ok (.aload_n 0, 1) := by decide +kernel
theorem d_Talk_init_23 : decode k_Talk_init 23 = .ok (.sipush 500, 3) := by decide +kernel
theorem d_Talk_init_26 : decode k_Talk_init 26 = .ok (.newarray .int, 2) := by decide +kernel
theorem d_Talk_init_28 : decode k_Talk_init 28 = .ok (.putfield 18, 3) := by decide +kernel
theorem d_Talk_init_31 : decode k_Talk_init 31 = .ok (.aload_n 0, 1) := by decide +kernel
theorem d_Talk_init_32 : decode k_Talk_init 32 = .ok (.iconst 0, 1) := by decide +kernel
theorem d_Talk_init_33 : decode k_Talk_init 33 = .ok (.putfield 21, 3) := by decide +kernel
theorem d_Talk_init_36 : decode k_Talk_init 36 = .ok (.aload_n 0, 1) := by decide +kernel
theorem d_Talk_init_37 : decode k_Talk_init 37 = .ok (.iconst 0, 1) := by decide +kernel
theorem d_Talk_init_38 : decode k_Talk_init 38 = .ok (.putfield 25, 3) := by decide +kernel
theorem d_Talk_init_41 : decode k_Talk_init 41 = .ok (.return_, 1) := by decide +kernel
theorem d_Rings_init_0 : decode k_Rings_init 0 = .ok (.aload_n 0, 1) := by decide +kernel
theorem d_Rings_init_1 : decode k_Rings_init 1 = .ok (.invokespecial 3, 3) := by decide +kernel
theorem d_Rings_init_4 : decode k_Rings_init 4 = .ok (.aload_n 0, 1) := by decide +kernel
theorem d_Rings_init_5 : decode k_Rings_init 5 = .ok (.bipush 12, 2) := by decide +kernel
theorem d_Rings_init_7 : decode k_Rings_init 7 = .ok (.newarray .int, 2) := by decide +kernel
theorem d_Rings_init_9 : decode k_Rings_init 9 = .ok (.putfield 9, 3) := by decide +kernel
theorem d_Rings_init_12 : decode k_Rings_init 12 = .ok (.aload_n 0, 1) := by decide +kernel
theorem d_Rings_init_13 : decode k_Rings_init 13 = .ok (.bipush 12, 2) := by decide +kernel
theorem d_Rings_init_15 : decode k_Rings_init 15 = .ok (.newarray .int, 2) := by decide +kernel
theorem d_Rings_init_17 : decode k_Rings_init 17 = .ok (.putfield 15, 3) := by decide +kernel
theorem d_Rings_init_20 : decode k_Rings_init 20 = .ok (.aload_n 0, 1) := by decide +kernel
theorem d_Rings_init_21 : decode k_Rings_init 21 = .ok (.iconst 0, 1) := by decide +kernel
theorem d_Rings_init_22 : decode k_Rings_init 22 = .ok (.putfield 18, 3) := by decide +kernel
theorem d_Rings_init_25 : decode k_Rings_init 25 = .ok (.return_, 1) := by decide +kernel
theorem d_Listing_end_0 : decode k_Listing_end 0 = .ok (.aload_n 0, 1) := by decide +kernel
theorem d_Listing_end_1 : decode k_Listing_end 1 = .ok (.iconst 0, 1) := by decide +kernel
theorem d_Listing_end_2 : decode k_Listing_end 2 = .ok (.putfield 9, 3) := by decide +kernel
theorem d_Listing_end_5 : decode k_Listing_end 5 = .ok (.aload_n 0, 1) := by decide +kernel
theorem d_Listing_end_6 : decode k_Listing_end 6 = .ok (.iconst (-1), 1) := by decide +kernel
theorem d_Listing_end_7 : decode k_Listing_end 7 = .ok (.putfield 22, 3) := by decide +kernel
theorem d_Listing_end_10 : decode k_Listing_end 10 = .ok (.return_, 1) := by decide +kernel
theorem d_Senses_forget_0 : decode k_Senses_forget 0 = .ok (.aload_n 0, 1) := by decide +kernel
theorem d_Senses_forget_1 : decode k_Senses_forget 1 = .ok (.iconst 0, 1) := by decide +kernel
theorem d_Senses_forget_2 : decode k_Senses_forget 2 = .ok (.putfield 28, 3) := by decide +kernel
theorem d_Senses_forget_5 : decode k_Senses_forget 5 = .ok (.return_, 1) := by decide +kernel
theorem d_Senses_learn_0 : decode k_Senses_learn 0 = .ok (.aload_n 0, 1) := by decide +kernel
theorem d_Senses_learn_1 : decode k_Senses_learn 1 = .ok (.getfield 28, 3) := by decide +kernel
theorem d_Senses_learn_4 : decode k_Senses_learn 4 = .ok (.ifCond .eq 4, 3) := by decide +kernel
theorem d_Senses_learn_7 : decode k_Senses_learn 7 = .ok (.return_, 1) := by decide +kernel
theorem d_Senses_learn_8 : decode k_Senses_learn 8 = .ok (.aload_n 0, 1) := by decide +kernel
theorem d_Senses_learn_9 : decode k_Senses_learn 9 = .ok (.aload_n 1, 1) := by decide +kernel
theorem d_Senses_learn_10 : decode k_Senses_learn 10 = .ok (.invokevirtual 32, 3) := by decide +kernel
theorem d_Senses_learn_13 : decode k_Senses_learn 13 = .ok (.putfield 25, 3) := by decide +kernel
theorem d_Senses_learn_16 : decode k_Senses_learn 16 = .ok (.aload_n 0, 1) := by decide +kernel
theorem d_Senses_learn_17 : decode k_Senses_learn 17 = .ok (.aload_n 1, 1) := by decide +kernel
theorem d_Senses_learn_18 : decode k_Senses_learn 18 = .ok (.invokevirtual 37, 3) := by decide +kernel
theorem d_Senses_learn_21 : decode k_Senses_learn 21 = .ok (.iconst 0, 1) := by decide +kernel
theorem d_Senses_learn_22 : decode k_Senses_learn 22 = .ok (.istore_n 2, 1) := by decide +kernel
theorem d_Senses_learn_23 : decode k_Senses_learn 23 = .ok (.iload_n 2, 1) := by decide +kernel
theorem d_Senses_learn_24 : decode k_Senses_learn 24 = .ok (.aload_n 0, 1) := by decide +kernel
theorem d_Senses_learn_25 : decode k_Senses_learn 25 = .ok (.getfield 25, 3) := by decide +kernel
theorem d_Senses_learn_28 : decode k_Senses_learn 28 = .ok (.if_icmp .gt 27, 3) := by decide +kernel
theorem d_Senses_learn_31 : decode k_Senses_learn 31 = .ok (.iload_n 2, 1) := by decide +kernel
theorem d_Senses_learn_32 : decode k_Senses_learn 32 = .ok (.sipush 4096, 3) := by decide +kernel
theorem d_Senses_learn_35 : decode k_Senses_learn 35 = .ok (.if_icmp .ge 20, 3) := by decide +kernel
theorem d_Senses_learn_38 : decode k_Senses_learn 38 = .ok (.aload_n 0, 1) := by decide +kernel
theorem d_Senses_learn_39 : decode k_Senses_learn 39 = .ok (.getfield 15, 3) := by decide +kernel
theorem d_Senses_learn_42 : decode k_Senses_learn 42 = .ok (.iload_n 2, 1) := by decide +kernel
theorem d_Senses_learn_43 : decode k_Senses_learn 43 = .ok (.aload_n 0, 1) := by decide +kernel
theorem d_Senses_learn_44 : decode k_Senses_learn 44 = .ok (.iload_n 2, 1) := by decide +kernel
theorem d_Senses_learn_45 : decode k_Senses_learn 45 = .ok (.invokevirtual 41, 3) := by decide +kernel
theorem d_Senses_learn_48 : decode k_Senses_learn 48 = .ok (.iastore, 1) := by decide +kernel
theorem d_Senses_learn_49 : decode k_Senses_learn 49 = .ok (.iinc 2 1, 3) := by decide +kernel
theorem d_Senses_learn_52 : decode k_Senses_learn 52 = .ok (.goto (-29), 3) := by decide +kernel
theorem d_Senses_learn_55 : decode k_Senses_learn 55 = .ok (.aload_n 0, 1) := by decide +kernel
theorem d_Senses_learn_56 : decode k_Senses_learn 56 = .ok (.invokevirtual 45, 3) := by decide +kernel
theorem d_Senses_learn_59 : decode k_Senses_learn 59 = .ok (.aload_n 0, 1) := by decide +kernel
theorem d_Senses_learn_60 : decode k_Senses_learn 60 = .ok (.invokevirtual 48, 3) := by decide +kernel
theorem d_Senses_learn_63 : decode k_Senses_learn 63 = .ok (.aload_n 0, 1) := by decide +kernel
theorem d_Senses_learn_64 : decode k_Senses_learn 64 = .ok (.invokevirtual 51, 3) := by decide +kernel
theorem d_Senses_learn_67 : decode k_Senses_learn 67 = .ok (.aload_n 0, 1) := by decide +kernel
theorem d_Senses_learn_68 : decode k_Senses_learn 68 = .ok (.iconst 1, 1) := by decide +kernel
theorem d_Senses_learn_69 : decode k_Senses_learn 69 = .ok (.putfield 28, 3) := by decide +kernel
theorem d_Senses_learn_72 : decode k_Senses_learn 72 = .ok (.return_, 1) := by decide +kernel
theorem d_Senses_fillTargets_0 : decode k_Senses_fillTargets 0 = .ok (.aload_n 0, 1) := by decide +kernel
theorem d_Senses_fillTargets_1 : decode k_Senses_fillTargets 1 = .ok (.getfield 9, 3) := by decide +kernel
theorem d_Senses_fillTargets_4 : decode k_Senses_fillTargets 4 = .ok (.iconst 0, 1) := by decide +kernel
theorem d_Senses_fillTargets_5 : decode k_Senses_fillTargets 5 = .ok (.iconst 0, 1) := by decide +kernel
theorem d_Senses_fillTargets_6 : decode k_Senses_fillTargets 6 = .ok (.iastore, 1) := by decide +kernel
theorem d_Senses_fillTargets_7 : decode k_Senses_fillTargets 7 = .ok (.iconst 0, 1) := by decide +kernel
theorem d_Senses_fillTargets_8 : decode k_Senses_fillTargets 8 = .ok (.istore_n 2, 1) := by decide +kernel
theorem d_Senses_fillTargets_9 : decode k_Senses_fillTargets 9 = .ok (.iload_n 2, 1) := by decide +kernel
theorem d_Senses_fillTargets_10 : decode k_Senses_fillTargets 10 = .ok (.aload_n 1, 1) := by decide +kernel
theorem d_Senses_fillTargets_11 : decode k_Senses_fillTargets 11 = .ok (.invokevirtual 71, 3) := by decide +kernel
theorem d_Senses_fillTargets_14 : decode k_Senses_fillTargets 14 = .ok (.if_icmp .ge 60, 3) := by decide +kernel
theorem d_Senses_fillTargets_17 : decode k_Senses_fillTargets 17 = .ok (.iload_n 2, 1) := by decide +kernel
theorem d_Senses_fillTargets_18 : decode k_Senses_fillTargets 18 = .ok (.bipush 12, 2) := by decide +kernel
theorem d_Senses_fillTargets_20 : decode k_Senses_fillTargets 20 = .ok (.if_icmp .ge 54, 3) := by decide +kernel
theorem d_Senses_fillTargets_23 : decode k_Senses_fillTargets 23 = .ok (.iconst 1, 1) := by decide +kernel
theorem d_Senses_fillTargets_24 : decode k_Senses_fillTargets 24 = .ok (.iload_n 2, 1) := by decide +kernel
theorem d_Senses_fillTargets_25 : decode k_Senses_fillTargets 25 = .ok (.ishl, 1) := by decide +kernel
theorem d_Senses_fillTargets_26 : decode k_Senses_fillTargets 26 = .ok (.istore_n 3, 1) := by decide +kernel
theorem d_Senses_fillTargets_27 : decode k_Senses_fillTargets 27 = .ok (.aload_n 1, 1) := by decide +kernel
theorem d_Senses_fillTargets_28 : decode k_Senses_fillTargets 28 = .ok (.iload_n 2, 1) := by decide +kernel
theorem d_Senses_fillTargets_29 : decode k_Senses_fillTargets 29 = .ok (.invokevirtual 74, 3) := by decide +kernel
theorem d_Senses_fillTargets_32 : decode k_Senses_fillTargets 32 = .ok (.istore 4, 2) := by decide +kernel
theorem d_Senses_fillTargets_34 : decode k_Senses_fillTargets 34 = .ok (.iconst 0, 1) := by decide +kernel
theorem d_Senses_fillTargets_35 : decode k_Senses_fillTargets 35 = .ok (.istore 5, 2) := by decide +kernel
theorem d_Senses_fillTargets_37 : decode k_Senses_fillTargets 37 = .ok (.iload 5, 2) := by decide +kernel
theorem d_Senses_fillTargets_39 : decode k_Senses_fillTargets 39 = .ok (.iload_n 3, 1) := by decide +kernel
theorem d_Senses_fillTargets_40 : decode k_Senses_fillTargets 40 = .ok (.if_icmp .ge 28, 3) := by decide +kernel
theorem d_Senses_fillTargets_43 : decode k_Senses_fillTargets 43 = .ok (.aload_n 0, 1) := by decide +kernel
theorem d_Senses_fillTargets_44 : decode k_Senses_fillTargets 44 = .ok (.getfield 9, 3) := by decide +kernel
theorem d_Senses_fillTargets_47 : decode k_Senses_fillTargets 47 = .ok (.iload_n 3, 1) := by decide +kernel
theorem d_Senses_fillTargets_48 : decode k_Senses_fillTargets 48 = .ok (.iload 5, 2) := by decide +kernel
theorem d_Senses_fillTargets_50 : decode k_Senses_fillTargets 50 = .ok (.iadd, 1) := by decide +kernel
theorem d_Senses_fillTargets_51 : decode k_Senses_fillTargets 51 = .ok (.aload_n 0, 1) := by decide +kernel
theorem d_Senses_fillTargets_52 : decode k_Senses_fillTargets 52 = .ok (.getfield 9, 3) := by decide +kernel
theorem d_Senses_fillTargets_55 : decode k_Senses_fillTargets 55 = .ok (.iload 5, 2) := by decide +kernel
theorem d_Senses_fillTargets_57 : decode k_Senses_fillTargets 57 = .ok (.iaload, 1) := by decide +kernel
theorem d_Senses_fillTargets_58 : decode k_Senses_fillTargets 58 = .ok (.iload 4, 2) := by decide +kernel
theorem d_Senses_fillTargets_60 : decode k_Senses_fillTargets 60 = .ok (.ior, 1) := by decide +kernel
theorem d_Senses_fillTargets_61 : decode k_Senses_fillTargets 61 = .ok (.iastore, 1) := by decide +kernel
theorem d_Senses_fillTargets_62 : decode k_Senses_fillTargets 62 = .ok (.iinc 5 1, 3) := by decide +kernel
theorem d_Senses_fillTargets_65 : decode k_Senses_fillTargets 65 = .ok (.goto (-28), 3) := by decide +kernel
theorem d_Senses_fillTargets_68 : decode k_Senses_fillTargets 68 = .ok (.iinc 2 1, 3) := by decide +kernel
theorem d_Senses_fillTargets_71 : decode k_Senses_fillTargets 71 = .ok (.goto (-62), 3) := by decide +kernel
theorem d_Senses_fillTargets_74 : decode k_Senses_fillTargets 74 = .ok (.return_, 1) := by decide +kernel
theorem d_Senses_ownMarks_0 : decode k_Senses_ownMarks 0 = .ok (.aload_n 0, 1) := by decide +kernel
theorem d_Senses_ownMarks_1 : decode k_Senses_ownMarks 1 = .ok (.iload_n 1, 1) := by decide +kernel
theorem d_Senses_ownMarks_2 : decode k_Senses_ownMarks 2 = .ok (.invokevirtual 68, 3) := by decide +kernel
theorem d_Senses_ownMarks_5 : decode k_Senses_ownMarks 5 = .ok (.istore_n 2, 1) := by decide +kernel
theorem d_Senses_ownMarks_6 : decode k_Senses_ownMarks 6 = .ok (.iload_n 2, 1) := by decide +kernel
theorem d_Senses_ownMarks_7 : decode k_Senses_ownMarks 7 = .ok (.iload_n 1, 1) := by decide +kernel
theorem d_Senses_ownMarks_8 : decode k_Senses_ownMarks 8 = .ok (.iand, 1) := by decide +kernel
theorem d_Senses_ownMarks_9 : decode k_Senses_ownMarks 9 = .ok (.ifCond .eq 5, 3) := by decide +kernel
theorem d_Senses_ownMarks_12 : decode k_Senses_ownMarks 12 = .ok (.iconst 0, 1) := by decide +kernel
theorem d_Senses_ownMarks_13 : decode k_Senses_ownMarks 13 = .ok (.ireturn, 1) := by decide +kernel
theorem d_Senses_ownMarks_14 : decode k_Senses_ownMarks 14 = .ok (.bipush 32, 2) := by decide +kernel
theorem d_Senses_ownMarks_16 : decode k_Senses_ownMarks 16 = .ok (.istore_n 3, 1) := by decide +kernel
theorem d_Senses_ownMarks_17 : decode k_Senses_ownMarks 17 = .ok (.aload_n 0, 1) := by decide +kernel
theorem d_Senses_ownMarks_18 : decode k_Senses_ownMarks 18 = .ok (.iload_n 1, 1) := by decide +kernel
theorem d_Senses_ownMarks_19 : decode k_Senses_ownMarks 19 = .ok (.invokevirtual 77, 3) := by decide +kernel
theorem d_Senses_ownMarks_22 : decode k_Senses_ownMarks 22 = .ok (.aload_n 0, 1) := by decide +kernel
theorem d_Senses_ownMarks_23 : decode k_Senses_ownMarks 23 = .ok (.getfield 25, 3) := by decide +kernel
theorem d_Senses_ownMarks_26 : decode k_Senses_ownMarks 26 = .ok (.if_icmp .ne 7, 3) := by decide +kernel
theorem d_Senses_ownMarks_29 : decode k_Senses_ownMarks 29 = .ok (.iload_n 3, 1) := by decide +kernel
theorem d_Senses_ownMarks_30 : decode k_Senses_ownMarks 30 = .ok (.iconst 4, 1) := by decide +kernel
theorem d_Senses_ownMarks_31 : decode k_Senses_ownMarks 31 = .ok (.ior, 1) := by decide +kernel
theorem d_Senses_ownMarks_32 : decode k_Senses_ownMarks 32 = .ok (.istore_n 3, 1) := by decide +kernel
theorem d_Senses_ownMarks_33 : decode k_Senses_ownMarks 33 = .ok (.aload_n 0, 1) := by decide +kernel
theorem d_Senses_ownMarks_34 : decode k_Senses_ownMarks 34 = .ok (.getfield 25, 3) := by decide +kernel
theorem d_Senses_ownMarks_37 : decode k_Senses_ownMarks 37 = .ok (.aload_n 0, 1) := by decide +kernel
theorem d_Senses_ownMarks_38 : decode k_Senses_ownMarks 38 = .ok (.aload_n 0, 1) := by decide +kernel
theorem d_Senses_ownMarks_39 : decode k_Senses_ownMarks 39 = .ok (.getfield 25, 3) := by decide +kernel
theorem d_Senses_ownMarks_42 : decode k_Senses_ownMarks 42 = .ok (.iload_n 2, 1) := by decide +kernel
theorem d_Senses_ownMarks_43 : decode k_Senses_ownMarks 43 = .ok (.iconst (-1), 1) := by decide +kernel
theorem d_Senses_ownMarks_44 : decode k_Senses_ownMarks 44 = .ok (.ixor, 1) := by decide +kernel
theorem d_Senses_ownMarks_45 : decode k_Senses_ownMarks 45 = .ok (.iand, 1) := by decide +kernel
theorem d_Senses_ownMarks_46 : decode k_Senses_ownMarks 46 = .ok (.invokevirtual 68, 3) := by decide +kernel
theorem d_Senses_ownMarks_49 : decode k_Senses_ownMarks 49 = .ok (.iconst (-1), 1) := by decide +kernel
theorem d_Senses_ownMarks_50 : decode k_Senses_ownMarks 50 = .ok (.ixor, 1) := by decide +kernel
theorem d_Senses_ownMarks_51 : decode k_Senses_ownMarks 51 = .ok (.iand, 1) := by decide +kernel
theorem d_Senses_ownMarks_52 : decode k_Senses_ownMarks 52 = .ok (.istore 4, 2) := by decide +kernel
theorem d_Senses_ownMarks_54 : decode k_Senses_ownMarks 54 = .ok (.iload_n 1, 1) := by decide +kernel
theorem d_Senses_ownMarks_55 : decode k_Senses_ownMarks 55 = .ok (.iload 4, 2) := by decide +kernel
theorem d_Senses_ownMarks_57 : decode k_Senses_ownMarks 57 = .ok (.invokestatic 61, 3) := by decide +kernel
theorem d_Senses_ownMarks_60 : decode k_Senses_ownMarks 60 = .ok (.ifCond .eq 8, 3) := by decide +kernel
theorem d_Senses_ownMarks_63 : decode k_Senses_ownMarks 63 = .ok (.iload_n 3, 1) := by decide +kernel
theorem d_Senses_ownMarks_64 : decode k_Senses_ownMarks 64 = .ok (.bipush 16, 2) := by decide +kernel
theorem d_Senses_ownMarks_66 : decode k_Senses_ownMarks 66 = .ok (.ior, 1) := by decide +kernel
theorem d_Senses_ownMarks_67 : decode k_Senses_ownMarks 67 = .ok (.istore_n 3, 1) := by decide +kernel
theorem d_Senses_ownMarks_68 : decode k_Senses_ownMarks 68 = .ok (.iload_n 1, 1) := by decide +kernel
theorem d_Senses_ownMarks_69 : decode k_Senses_ownMarks 69 = .ok (.iload 4, 2) := by decide +kernel
theorem d_Senses_ownMarks_71 : decode k_Senses_ownMarks 71 = .ok (.if_icmp .ne 7, 3) := by decide +kernel
theorem d_Senses_ownMarks_74 : decode k_Senses_ownMarks 74 = .ok (.iload_n 3, 1) := by decide +kernel
theorem d_Senses_ownMarks_75 : decode k_Senses_ownMarks 75 = .ok (.iconst 1, 1) := by decide +kernel
theorem d_Senses_ownMarks_76 : decode k_Senses_ownMarks 76 = .ok (.ior, 1) := by decide +kernel
theorem d_Senses_ownMarks_77 : decode k_Senses_ownMarks 77 = .ok (.istore_n 3, 1) := by decide +kernel
theorem d_Senses_ownMarks_78 : decode k_Senses_ownMarks 78 = .ok (.iload_n 3, 1) := by decide +kernel
theorem d_Senses_ownMarks_79 : decode k_Senses_ownMarks 79 = .ok (.ireturn, 1) := by decide +kernel
theorem d_Senses_hitBy_0 : decode k_Senses_hitBy 0 = .ok (.iload_n 1, 1) := by decide +kernel
theorem d_Senses_hitBy_1 : decode k_Senses_hitBy 1 = .ok (.invokestatic 64, 3) := by decide +kernel
theorem d_Senses_hitBy_4 : decode k_Senses_hitBy 4 = .ok (.ifCond .eq 12, 3) := by decide +kernel
theorem d_Senses_hitBy_7 : decode k_Senses_hitBy 7 = .ok (.aload_n 0, 1) := by decide +kernel
theorem d_Senses_hitBy_8 : decode k_Senses_hitBy 8 = .ok (.getfield 9, 3) := by decide +kernel
theorem d_Senses_hitBy_11 : decode k_Senses_hitBy 11 = .ok (.iload_n 1, 1) := by decide +kernel
theorem d_Senses_hitBy_12 : decode k_Senses_hitBy 12 = .ok (.iaload, 1) := by decide +kernel
theorem d_Senses_hitBy_13 : decode k_Senses_hitBy 13 = .ok (.goto 4, 3) := by decide +kernel
theorem d_Senses_hitBy_16 : decode k_Senses_hitBy 16 = .ok (.iconst 0, 1) := by decide +kernel
theorem d_Senses_hitBy_17 : decode k_Senses_hitBy 17 = .ok (.ireturn, 1) := by decide +kernel
theorem d_Senses_isNumber_0 : decode k_Senses_isNumber 0 = .ok (.iload_n 0, 1) := by decide +kernel
theorem d_Senses_isNumber_1 : decode k_Senses_isNumber 1 = .ok (.ifCond .lt 14, 3) := by decide +kernel
theorem d_Senses_isNumber_4 : decode k_Senses_isNumber 4 = .ok (.iload_n 0, 1) := by decide +kernel
theorem d_Senses_isNumber_5 : decode k_Senses_isNumber 5 = .ok (.sipush 4096, 3) := by decide +kernel
theorem d_Senses_isNumber_8 : decode k_Senses_isNumber 8 = .ok (.if_icmp .ge 7, 3) := by decide +kernel
theorem d_Senses_isNumber_11 : decode k_Senses_isNumber 11 = .ok (.iconst 1, 1) := by decide +kernel
theorem d_Senses_isNumber_12 : decode k_Senses_isNumber 12 = .ok (.goto 4, 3) := by decide +kernel
theorem d_Senses_isNumber_15 : decode k_Senses_isNumber 15 = .ok (.iconst 0, 1) := by decide +kernel
theorem d_Senses_isNumber_16 : decode k_Senses_isNumber 16 = .ok (.ireturn, 1) := by decide +kernel
theorem d_Senses_rangeOf_0 : decode k_Senses_rangeOf 0 = .ok (.iload_n 1, 1) := by decide +kernel
theorem d_Senses_rangeOf_1 : decode k_Senses_rangeOf 1 = .ok (.aload_n 0, 1) := by decide +kernel
theorem d_Senses_rangeOf_2 : decode k_Senses_rangeOf 2 = .ok (.iload_n 1, 1) := by decide +kernel
theorem d_Senses_rangeOf_3 : decode k_Senses_rangeOf 3 = .ok (.invokevirtual 68, 3) := by decide +kernel
theorem d_Senses_rangeOf_6 : decode k_Senses_rangeOf 6 = .ok (.ior, 1) := by decide +kernel
theorem d_Senses_rangeOf_7 : decode k_Senses_rangeOf 7 = .ok (.ireturn, 1) := by decide +kernel
theorem d_Senses_markPreferred_0 : decode k_Senses_markPreferred 0 = .ok (.aload_n 0, 1) := by decide +kernel
theorem d_Senses_markPreferred_1 : decode k_Senses_markPreferred 1 = .ok (.iconst 0, 1) := by decide +kernel
theorem d_Senses_markPreferred_2 : decode k_Senses_markPreferred 2 = .ok (.putfield 21, 3) := by decide +kernel
theorem d_Senses_markPreferred_5 : decode k_Senses_markPreferred 5 = .ok (.aload_n 0, 1) := by decide +kernel
theorem d_Senses_markPreferred_6 : decode k_Senses_markPreferred 6 = .ok (.getfield 25, 3) := by decide +kernel
theorem d_Senses_markPreferred_9 : decode k_Senses_markPreferred 9 = .ok (.istore_n 1, 1) := by decide +kernel
theorem d_Senses_markPreferred_10 : decode k_Senses_markPreferred 10 = .ok (.iload_n 1, 1) := by decide +kernel
theorem d_Senses_markPreferred_11 : decode k_Senses_markPreferred 11 = .ok (.ifCond .lt 33, 3) := by decide +kernel
theorem d_Senses_markPreferred_14 : decode k_Senses_markPreferred 14 = .ok (.aload_n 0, 1) := by decide +kernel
theorem d_Senses_markPreferred_15 : decode k_Senses_markPreferred 15 = .ok (.iload_n 1, 1) := by decide +kernel
theorem d_Senses_markPreferred_16 : decode k_Senses_markPreferred 16 = .ok (.bipush 16, 2) := by decide +kernel
theorem d_Senses_markPreferred_18 : decode k_Senses_markPreferred 18 = .ok (.invokevirtual 54, 3) := by decide +kernel
theorem d_Senses_markPreferred_21 : decode k_Senses_markPreferred 21 = .ok (.ifCond .eq 17, 3) := by decide +kernel
theorem d_Senses_markPreferred_24 : decode k_Senses_markPreferred 24 = .ok (.aload_n 0, 1) := by decide +kernel
theorem d_Senses_markPreferred_25 : decode k_Senses_markPreferred 25 = .ok (.iload_n 1, 1) := by decide +kernel
theorem d_Senses_markPreferred_26 : decode k_Senses_markPreferred 26 = .ok (.invokevirtual 80, 3) := by decide +kernel
theorem d_Senses_markPreferred_29 : decode k_Senses_markPreferred 29 = .ok (.ifCond .eq 9, 3) := by decide +kernel
theorem d_Senses_markPreferred_32 : decode k_Senses_markPreferred 32 = .ok (.aload_n 0, 1) := by decide +kernel
theorem d_Senses_markPreferred_33 : decode k_Senses_markPreferred 33 = .ok (.iload_n 1, 1) := by decide +kernel
theorem d_Senses_markPreferred_34 : decode k_Senses_markPreferred 34 = .ok (.iconst 2, 1) := by decide +kernel
theorem d_Senses_markPreferred_35 : decode k_Senses_markPreferred 35 = .ok (.invokevirtual 83, 3) := by decide +kernel
theorem d_Senses_markPreferred_38 : decode k_Senses_markPreferred 38 = .ok (.iinc 1 (-1), 3) := by decide +kernel
theorem d_Senses_markPreferred_41 : decode k_Senses_markPreferred 41 = .ok (.goto (-31), 3) := by decide +kernel
theorem d_Senses_markPreferred_44 : decode k_Senses_markPreferred 44 = .ok (.return_, 1) := by decide +kernel
theorem d_Senses_hasMark_0 : decode k_Senses_hasMark 0 = .ok (.iload_n 1, 1) := by decide +kernel
theorem d_Senses_hasMark_1 : decode k_Senses_hasMark 1 = .ok (.invokestatic 64, 3) := by decide +kernel
theorem d_Senses_hasMark_4 : decode k_Senses_hasMark 4 = .ok (.ifCond .eq 18, 3) := by decide +kernel
theorem d_Senses_hasMark_7 : decode k_Senses_hasMark 7 = .ok (.aload_n 0, 1) := by decide +kernel
theorem d_Senses_hasMark_8 : decode k_Senses_hasMark 8 = .ok (.getfield 15, 3) := by decide +kernel
theorem d_Senses_hasMark_11 : decode k_Senses_hasMark 11 = .ok (.iload_n 1, 1) := by decide +kernel
theorem d_Senses_hasMark_12 : decode k_Senses_hasMark 12 = .ok (.iaload, 1) := by decide +kernel
theorem d_Senses_hasMark_13 : decode k_Senses_hasMark 13 = .ok (.iload_n 2, 1) := by decide +kernel
theorem d_Senses_hasMark_14 : decode k_Senses_hasMark 14 = .ok (.iand, 1) := by decide +kernel
theorem d_Senses_hasMark_15 : decode k_Senses_hasMark 15 = .ok (.ifCond .eq 7, 3) := by decide +kernel
theorem d_Senses_hasMark_18 : decode k_Senses_hasMark 18 = .ok (.iconst 1, 1) := by decide +kernel
theorem d_Senses_hasMark_19 : decode k_Senses_hasMark 19 = .ok (.goto 4, 3) := by decide +kernel
theorem d_Senses_hasMark_22 : decode k_Senses_hasMark 22 = .ok (.iconst 0, 1) := by decide +kernel
theorem d_Senses_hasMark_23 : decode k_Senses_hasMark 23 = .ok (.ireturn, 1) := by decide +kernel
theorem d_Senses_isNewTop_0 : decode k_Senses_isNewTop 0 = .ok (.iconst 0, 1) := by decide +kernel
theorem d_Senses_isNewTop_1 : decode k_Senses_isNewTop 1 = .ok (.istore_n 2, 1) := by decide +kernel
theorem d_Senses_isNewTop_2 : decode k_Senses_isNewTop 2 = .ok (.iload_n 2, 1) := by decide +kernel
theorem d_Senses_isNewTop_3 : decode k_Senses_isNewTop 3 = .ok (.aload_n 0, 1) := by decide +kernel
theorem d_Senses_isNewTop_4 : decode k_Senses_isNewTop 4 = .ok (.getfield 21, 3) := by decide +kernel
theorem d_Senses_isNewTop_7 : decode k_Senses_isNewTop 7 = .ok (.if_icmp .ge 24, 3) := by decide +kernel
theorem d_Senses_isNewTop_10 : decode k_Senses_isNewTop 10 = .ok (.iload_n 1, 1) := by decide +kernel
theorem d_Senses_isNewTop_11 : decode k_Senses_isNewTop 11 = .ok (.aload_n 0, 1) := by decide +kernel
theorem d_Senses_isNewTop_12 : decode k_Senses_isNewTop 12 = .ok (.getfield 18, 3) := by decide +kernel
theorem d_Senses_isNewTop_15 : decode k_Senses_isNewTop 15 = .ok (.iload_n 2, 1) := by decide +kernel
theorem d_Senses_isNewTop_16 : decode k_Senses_isNewTop 16 = .ok (.iaload, 1) := by decide +kernel
theorem d_Senses_isNewTop_17 : decode k_Senses_isNewTop 17 = .ok (.invokestatic 61, 3) := by decide +kernel
theorem d_Senses_isNewTop_20 : decode k_Senses_isNewTop 20 = .ok (.ifCond .eq 5, 3) := by decide +kernel
theorem d_Senses_isNewTop_23 : decode k_Senses_isNewTop 23 = .ok (.iconst 0, 1) := by decide +kernel
theorem d_Senses_isNewTop_24 : decode k_Senses_isNewTop 24 = .ok (.ireturn, 1) := by decide +kernel
theorem d_Senses_isNewTop_25 : decode k_Senses_isNewTop 25 = .ok (.iinc 2 1, 3) := by decide +kernel
theorem d_Senses_isNewTop_28 : decode k_Senses_isNewTop 28 = .ok (.goto (-26), 3) := by decide +kernel
theorem d_Senses_isNewTop_31 : decode k_Senses_isNewTop 31 = .ok (.aload_n 0, 1) := by decide +kernel
theorem d_Senses_isNewTop_32 : decode k_Senses_isNewTop 32 = .ok (.getfield 21, 3) := by decide +kernel
theorem d_Senses_isNewTop_35 : decode k_Senses_isNewTop 35 = .ok (.sipush 924, 3) := by decide +kernel
theorem d_Senses_isNewTop_38 : decode k_Senses_isNewTop 38 = .ok (.if_icmp .ge 23, 3) := by decide +kernel
theorem d_Senses_isNewTop_41 : decode k_Senses_isNewTop 41 = .ok (.aload_n 0, 1) := by decide +kernel
theorem d_Senses_isNewTop_42 : decode k_Senses_isNewTop 42 = .ok (.getfield 18, 3) := by decide +kernel
theorem d_Senses_isNewTop_45 : decode k_Senses_isNewTop 45 = .ok (.aload_n 0, 1) := by decide +kernel
theorem d_Senses_isNewTop_46 : decode k_Senses_isNewTop 46 = .ok (.getfield 21, 3) := by decide +kernel
theorem d_Senses_isNewTop_49 : decode k_Senses_isNewTop 49 = .ok (.iload_n 1, 1) := by decide +kernel
theorem d_Senses_isNewTop_50 : decode k_Senses_isNewTop 50 = .ok (.iastore, 1) := by decide +kernel
theorem d_Senses_isNewTop_51 : decode k_Senses_isNewTop 51 = .ok (.aload_n 0, 1) := by decide +kernel
theorem d_Senses_isNewTop_52 : decode k_Senses_isNewTop 52 = .ok (.dup, 1) := by decide +kernel
theorem d_Senses_isNewTop_53 : decode k_Senses_isNewTop 53 = .ok (.getfield 21, 3) := by decide +kernel
theorem d_Senses_isNewTop_56 : decode k_Senses_isNewTop 56 = .ok (.iconst 1, 1) := by decide +kernel
theorem d_Senses_isNewTop_57 : decode k_Senses_isNewTop 57 = .ok (.iadd, 1) := by decide +kernel
theorem d_Senses_isNewTop_58 : decode k_Senses_isNewTop 58 = .ok (.putfield 21, 3) := by decide +kernel
theorem d_Senses_isNewTop_61 : decode k_Senses_isNewTop 61 = .ok (.iconst 1, 1) := by decide +kernel
theorem d_Senses_isNewTop_62 : decode k_Senses_isNewTop 62 = .ok (.ireturn, 1) := by decide +kernel
theorem d_Senses_mark_0 : decode k_Senses_mark 0 = .ok (.iload_n 1, 1) := by decide +kernel
theorem d_Senses_mark_1 : decode k_Senses_mark 1 = .ok (.invokestatic 64, 3) := by decide +kernel
theorem d_Senses_mark_4 : decode k_Senses_mark 4 = .ok (.ifCond .eq 13, 3) := by decide +kernel
theorem d_Senses_mark_7 : decode k_Senses_mark 7 = .ok (.aload_n 0, 1) := by decide +kernel
theorem d_Senses_mark_8 : decode k_Senses_mark 8 = .ok (.getfield 15, 3) := by decide +kernel
theorem d_Senses_mark_11 : decode k_Senses_mark 11 = .ok (.iload_n 1, 1) := by decide +kernel
theorem d_Senses_mark_12 : decode k_Senses_mark 12 = .ok (.dup2, 1) := by decide +kernel
theorem d_Senses_mark_13 : decode k_Senses_mark 13 = .ok (.iaload, 1) := by decide +kernel
theorem d_Senses_mark_14 : decode k_Senses_mark 14 = .ok (.iload_n 2, 1) := by decide +kernel
theorem d_Senses_mark_15 : decode k_Senses_mark 15 = .ok (.ior, 1) := by decide +kernel
theorem d_Senses_mark_16 : decode k_Senses_mark 16 = .ok (.iastore, 1) := by decide +kernel
theorem d_Senses_mark_17 : decode k_Senses_mark 17 = .ok (.return_, 1) := by decide +kernel
theorem d_Senses_markRanges_0 : decode k_Senses_markRanges 0 = .ok (.iconst 0, 1) := by decide +kernel
theorem d_Senses_markRanges_1 : decode k_Senses_markRanges 1 = .ok (.istore_n 1, 1) := by decide +kernel
theorem d_Senses_markRanges_2 : decode k_Senses_markRanges 2 = .ok (.iload_n 1, 1) := by decide +kernel
theorem d_Senses_markRanges_3 : decode k_Senses_markRanges 3 = .ok (.aload_n 0, 1) := by decide +kernel
theorem d_Senses_markRanges_4 : decode k_Senses_markRanges 4 = .ok (.getfield 25, 3) := by decide +kernel
theorem d_Senses_markRanges_7 : decode k_Senses_markRanges 7 = .ok (.if_icmp .gt 30, 3) := by decide +kernel
theorem d_Senses_markRanges_10 : decode k_Senses_markRanges 10 = .ok (.aload_n 0, 1) := by decide +kernel
theorem d_Senses_markRanges_11 : decode k_Senses_markRanges 11 = .ok (.iload_n 1, 1) := by decide +kernel
theorem d_Senses_markRanges_12 : decode k_Senses_markRanges 12 = .ok (.bipush 32, 2) := by decide +kernel
theorem d_Senses_markRanges_14 : decode k_Senses_markRanges 14 = .ok (.invokevirtual 54, 3) := by decide +kernel
theorem d_Senses_markRanges_17 : decode k_Senses_markRanges 17 = .ok (.ifCond .eq 14, 3) := by decide +kernel
theorem d_Senses_markRanges_20 : decode k_Senses_markRanges 20 = .ok (.aload_n 0, 1) := by decide +kernel
theorem d_Senses_markRanges_21 : decode k_Senses_markRanges 21 = .ok (.aload_n 0, 1) := by decide +kernel
theorem d_Senses_markRanges_22 : decode k_Senses_markRanges 22 = .ok (.iload_n 1, 1) := by decide +kernel
theorem d_Senses_markRanges_23 : decode k_Senses_markRanges 23 = .ok (.invokevirtual 77, 3) := by decide +kernel
theorem d_Senses_markRanges_26 : decode k_Senses_markRanges 26 = .ok (.bipush 64, 2) := by decide +kernel
theorem d_Senses_markRanges_28 : decode k_Senses_markRanges 28 = .ok (.invokevirtual 83, 3) := by decide +kernel
theorem d_Senses_markRanges_31 : decode k_Senses_markRanges 31 = .ok (.iinc 1 1, 3) := by decide +kernel
theorem d_Senses_markRanges_34 : decode k_Senses_markRanges 34 = .ok (.goto (-32), 3) := by decide +kernel
theorem d_Senses_markRanges_37 : decode k_Senses_markRanges 37 = .ok (.aload_n 0, 1) := by decide +kernel
theorem d_Senses_markRanges_38 : decode k_Senses_markRanges 38 = .ok (.iconst 0, 1) := by decide +kernel
theorem d_Senses_markRanges_39 : decode k_Senses_markRanges 39 = .ok (.putfield 21, 3) := by decide +kernel
theorem d_Senses_markRanges_42 : decode k_Senses_markRanges 42 = .ok (.aload_n 0, 1) := by decide +kernel
theorem d_Senses_markRanges_43 : decode k_Senses_markRanges 43 = .ok (.getfield 25, 3) := by decide +kernel
theorem d_Senses_markRanges_46 : decode k_Senses_markRanges 46 = .ok (.istore_n 1, 1) := by decide +kernel
theorem d_Senses_markRanges_47 : decode k_Senses_markRanges 47 = .ok (.iload_n 1, 1) := by decide +kernel
theorem d_Senses_markRanges_48 : decode k_Senses_markRanges 48 = .ok (.ifCond .lt 35, 3) := by decide +kernel
theorem d_Senses_markRanges_51 : decode k_Senses_markRanges 51 = .ok (.aload_n 0, 1) := by decide +kernel
theorem d_Senses_markRanges_52 : decode k_Senses_markRanges 52 = .ok (.iload_n 1, 1) := by decide +kernel
theorem d_Senses_markRanges_53 : decode k_Senses_markRanges 53 = .ok (.bipush 64, 2) := by decide +kernel
theorem d_Senses_markRanges_55 : decode k_Senses_markRanges 55 = .ok (.invokevirtual 54, 3) := by decide +kernel
theorem d_Senses_markRanges_58 : decode k_Senses_markRanges 58 = .ok (.ifCond .eq 19, 3) := by decide +kernel
theorem d_Senses_markRanges_61 : decode k_Senses_markRanges 61 = .ok (.aload_n 0, 1) := by decide +kernel
theorem d_Senses_markRanges_62 : decode k_Senses_markRanges 62 = .ok (.iload_n 1, 1) := by decide +kernel
theorem d_Senses_markRanges_63 : decode k_Senses_markRanges 63 = .ok (.invokevirtual 80, 3) := by decide +kernel
theorem d_Senses_markRanges_66 : decode k_Senses_markRanges 66 = .ok (.ifCond .eq 11, 3) := by decide +kernel
theorem d_Senses_markRanges_69 : decode k_Senses_markRanges 69 = .ok (.aload_n 0, 1) := by decide +kernel
theorem d_Senses_markRanges_70 : decode k_Senses_markRanges 70 = .ok (.iload_n 1, 1) := by decide +kernel
theorem d_Senses_markRanges_71 : decode k_Senses_markRanges 71 = .ok (.sipush 128, 3) := by decide +kernel
theorem d_Senses_markRanges_74 : decode k_Senses_markRanges 74 = .ok (.invokevirtual 83, 3) := by decide +kernel
theorem d_Senses_markRanges_77 : decode k_Senses_markRanges 77 = .ok (.iinc 1 (-1), 3) := by decide +kernel
theorem d_Senses_markRanges_80 : decode k_Senses_markRanges 80 = .ok (.goto (-33), 3) := by decide +kernel
theorem d_Senses_markRanges_83 : decode k_Senses_markRanges 83 = .ok (.return_, 1) := by decide +kernel
theorem d_Senses_markStage_0 : decode k_Senses_markStage 0 = .ok (.iconst 0, 1) := by decide +kernel
theorem d_Senses_markStage_1 : decode k_Senses_markStage 1 = .ok (.istore_n 1, 1) := by decide +kernel
theorem d_Senses_markStage_2 : decode k_Senses_markStage 2 = .ok (.iload_n 1, 1) := by decide +kernel
theorem d_Senses_markStage_3 : decode k_Senses_markStage 3 = .ok (.aload_n 0, 1) := by decide +kernel
theorem d_Senses_markStage_4 : decode k_Senses_markStage 4 = .ok (.getfield 25, 3) := by decide +kernel
theorem d_Senses_markStage_7 : decode k_Senses_markStage 7 = .ok (.if_icmp .gt 41, 3) := by decide +kernel
theorem d_Senses_markStage_10 : decode k_Senses_markStage 10 = .ok (.aload_n 0, 1) := by decide +kernel
theorem d_Senses_markStage_11 : decode k_Senses_markStage 11 = .ok (.iload_n 1, 1) := by decide +kernel
theorem d_Senses_markStage_12 : decode k_Senses_markStage 12 = .ok (.bipush 32, 2) := by decide +kernel
theorem d_Senses_markStage_14 : decode k_Senses_markStage 14 = .ok (.invokevirtual 54, 3) := by decide +kernel
theorem d_Senses_markStage_17 : decode k_Senses_markStage 17 = .ok (.ifCond .eq 25, 3) := by decide +kernel
theorem d_Senses_markStage_20 : decode k_Senses_markStage 20 = .ok (.aload_n 0, 1) := by decide +kernel
theorem d_Senses_markStage_21 : decode k_Senses_markStage 21 = .ok (.aload_n 0, 1) := by decide +kernel
theorem d_Senses_markStage_22 : decode k_Senses_markStage 22 = .ok (.iload_n 1, 1) := by decide +kernel
theorem d_Senses_markStage_23 : decode k_Senses_markStage 23 = .ok (.invokevirtual 77, 3) := by decide +kernel
theorem d_Senses_markStage_26 : decode k_Senses_markStage 26 = .ok (.sipush 128, 3) := by decide +kernel
theorem d_Senses_markStage_29 : decode k_Senses_markStage 29 = .ok (.invokevirtual 54, 3) := by decide +kernel
theorem d_Senses_markStage_32 : decode k_Senses_markStage 32 = .ok (.ifCond .eq 10, 3) := by decide +kernel
theorem d_Senses_markStage_35 : decode k_Senses_markStage 35 = .ok (.aload_n 0, 1) := by decide +kernel
theorem d_Senses_markStage_36 : decode k_Senses_markStage 36 = .ok (.iload_n 1, 1) := by decide +kernel
theorem d_Senses_markStage_37 : decode k_Senses_markStage 37 = .ok (.bipush 8, 2) := by decide +kernel
theorem d_Senses_markStage_39 : decode k_Senses_markStage 39 = .ok (.invokevirtual 83, 3) := by decide +kernel
theorem d_Senses_markStage_42 : decode k_Senses_markStage 42 = .ok (.iinc 1 1, 3) := by decide +kernel
theorem d_Senses_markStage_45 : decode k_Senses_markStage 45 = .ok (.goto (-43), 3) := by decide +kernel
theorem d_Senses_markStage_48 : decode k_Senses_markStage 48 = .ok (.return_, 1) := by decide +kernel
theorem d_Senses_isOf_0 : decode k_Senses_isOf 0 = .ok (.aload_n 0, 1) := by decide +kernel
theorem d_Senses_isOf_1 : decode k_Senses_isOf 1 = .ok (.iload_n 2, 1) := by decide +kernel
theorem d_Senses_isOf_2 : decode k_Senses_isOf 2 = .ok (.iconst 1, 1) := by decide +kernel
theorem d_Senses_isOf_3 : decode k_Senses_isOf 3 = .ok (.iload_n 1, 1) := by decide +kernel
theorem d_Senses_isOf_4 : decode k_Senses_isOf 4 = .ok (.ishl, 1) := by decide +kernel
theorem d_Senses_isOf_5 : decode k_Senses_isOf 5 = .ok (.invokevirtual 54, 3) := by decide +kernel
theorem d_Senses_isOf_8 : decode k_Senses_isOf 8 = .ok (.ireturn, 1) := by decide +kernel
theorem d_Grounds_settle_0 : decode k_Grounds_settle 0 = .ok (.aload_n 0, 1) := by decide +kernel
theorem d_Grounds_settle_1 : decode k_Grounds_settle 1 = .ok (.iconst 0, 1) := by decide +kernel
theorem d_Grounds_settle_2 : decode k_Grounds_settle 2 = .ok (.putfield 15, 3) := by decide +kernel
theorem d_Grounds_settle_5 : decode k_Grounds_settle 5 = .ok (.iconst 0, 1) := by decide +kernel
theorem d_Grounds_settle_6 : decode k_Grounds_settle 6 = .ok (.istore_n 2, 1) := by decide +kernel
theorem d_Grounds_settle_7 : decode k_Grounds_settle 7 = .ok (.iload_n 2, 1) := by decide +kernel
theorem d_Grounds_settle_8 : decode k_Grounds_settle 8 = .ok (.bipush 12, 2) := by decide +kernel
theorem d_Grounds_settle_10 : decode k_Grounds_settle 10 = .ok (.if_icmp .ge 16, 3) := by decide +kernel
theorem d_Grounds_settle_13 : decode k_Grounds_settle 13 = .ok (.aload_n 0, 1) := by decide +kernel
theorem d_Grounds_settle_14 : decode k_Grounds_settle 14 = .ok (.getfield 9, 3) := by decide +kernel
theorem d_Grounds_settle_17 : decode k_Grounds_settle 17 = .ok (.iload_n 2, 1) := by decide +kernel
theorem d_Grounds_settle_18 : decode k_Grounds_settle 18 = .ok (.iconst 0, 1) := by decide +kernel
theorem d_Grounds_settle_19 : decode k_Grounds_settle 19 = .ok (.iastore, 1) := by decide +kernel
theorem d_Grounds_settle_20 : decode k_Grounds_settle 20 = .ok (.iinc 2 1, 3) := by decide +kernel
theorem d_Grounds_settle_23 : decode k_Grounds_settle 23 = .ok (.goto (-16), 3) := by decide +kernel
theorem d_Grounds_settle_26 : decode k_Grounds_settle 26 = .ok (.iconst 1, 1) := by decide +kernel
theorem d_Grounds_settle_27 : decode k_Grounds_settle 27 = .ok (.istore_n 2, 1) := by decide +kernel
theorem d_Grounds_settle_28 : decode k_Grounds_settle 28 = .ok (.iload_n 2, 1) := by decide +kernel
theorem d_Grounds_settle_29 : decode k_Grounds_settle 29 = .ok (.bipush 12, 2) := by decide +kernel
theorem d_Grounds_settle_31 : decode k_Grounds_settle 31 = .ok (.if_icmp .gt 36, 3) := by decide +kernel
theorem d_Grounds_settle_34 : decode k_Grounds_settle 34 = .ok (.aload_n 1, 1) := by decide +kernel
theorem d_Grounds_settle_35 : decode k_Grounds_settle 35 = .ok (.aload_n 0, 1) := by decide +kernel
theorem d_Grounds_settle_36 : decode k_Grounds_settle 36 = .ok (.getfield 15, 3) := by decide +kernel
theorem d_Grounds_settle_39 : decode k_Grounds_settle 39 = .ok (.invokevirtual 19, 3) := by decide +kernel
theorem d_Grounds_settle_42 : decode k_Grounds_settle 42 = .ok (.istore_n 3, 1) := by decide +kernel
theorem d_Grounds_settle_43 : decode k_Grounds_settle 43 = .ok (.aload_n 0, 1) := by decide +kernel
theorem d_Grounds_settle_44 : decode k_Grounds_settle 44 = .ok (.iload_n 3, 1) := by decide +kernel
theorem d_Grounds_settle_45 : decode k_Grounds_settle 45 = .ok (.aload_n 0, 1) := by decide +kernel
theorem d_Grounds_settle_46 : decode k_Grounds_settle 46 = .ok (.getfield 15, 3) := by decide +kernel
theorem d_Grounds_settle_49 : decode k_Grounds_settle 49 = .ok (.iconst (-1), 1) := by decide +kernel
theorem d_Grounds_settle_50 : decode k_Grounds_settle 50 = .ok (.ixor, 1) := by decide +kernel
theorem d_Grounds_settle_51 : decode k_Grounds_settle 51 = .ok (.iand, 1) := by decide +kernel
theorem d_Grounds_settle_52 : decode k_Grounds_settle 52 = .ok (.iload_n 2, 1) := by decide +kernel
theorem d_Grounds_settle_53 : decode k_Grounds_settle 53 = .ok (.invokevirtual 25, 3) := by decide +kernel
theorem d_Grounds_settle_56 : decode k_Grounds_settle 56 = .ok (.aload_n 0, 1) := by decide +kernel
theorem d_Grounds_settle_57 : decode k_Grounds_settle 57 = .ok (.iload_n 3, 1) := by decide +kernel
theorem d_Grounds_settle_58 : decode k_Grounds_settle 58 = .ok (.putfield 15, 3) := by decide +kernel
theorem d_Grounds_settle_61 : decode k_Grounds_settle 61 = .ok (.iinc 2 1, 3) := by decide +kernel
theorem d_Grounds_settle_64 : decode k_Grounds_settle 64 = .ok (.goto (-36), 3) := by decide +kernel
theorem d_Grounds_settle_67 : decode k_Grounds_settle 67 = .ok (.return_, 1) := by decide +kernel
theorem d_Grounds_noteRound_0 : decode k_Grounds_noteRound 0 = .ok (.iconst 0, 1) := by decide +kernel
theorem d_Grounds_noteRound_1 : decode k_Grounds_noteRound 1 = .ok (.istore_n 3, 1) := by decide +kernel
theorem d_Grounds_noteRound_2 : decode k_Grounds_noteRound 2 = .ok (.iload_n 3, 1) := by decide +kernel
theorem d_Grounds_noteRound_3 : decode k_Grounds_noteRound 3 = .ok (.bipush 12, 2) := by decide +kernel
theorem d_Grounds_noteRound_5 : decode k_Grounds_noteRound 5 = .ok (.if_icmp .ge 24, 3) := by decide +kernel
theorem d_Grounds_noteRound_8 : decode k_Grounds_noteRound 8 = .ok (.iload_n 3, 1) := by decide +kernel
theorem d_Grounds_noteRound_9 : decode k_Grounds_noteRound 9 = .ok (.iload_n 1, 1) := by decide +kernel
theorem d_Grounds_noteRound_10 : decode k_Grounds_noteRound 10 = .ok (.invokestatic 29, 3) := by decide +kernel
theorem d_Grounds_noteRound_13 : decode k_Grounds_noteRound 13 = .ok (.ifCond .eq 10, 3) := by decide +kernel
theorem d_Grounds_noteRound_16 : decode k_Grounds_noteRound 16 = .ok (.aload_n 0, 1) := by decide +kernel
theorem d_Grounds_noteRound_17 : decode k_Grounds_noteRound 17 = .ok (.getfield 9, 3) := by decide +kernel
theorem d_Grounds_noteRound_20 : decode k_Grounds_noteRound 20 = .ok (.iload_n 3, 1) := by decide +kernel
theorem d_Grounds_noteRound_21 : decode k_Grounds_noteRound 21 = .ok (.iload_n 2, 1) := by decide +kernel
theorem d_Grounds_noteRound_22 : decode k_Grounds_noteRound 22 = .ok (.iastore, 1) := by decide +kernel
theorem d_Grounds_noteRound_23 : decode k_Grounds_noteRound 23 = .ok (.iinc 3 1, 3) := by decide +kernel
theorem d_Grounds_noteRound_26 : decode k_Grounds_noteRound 26 = .ok (.goto (-24), 3) := by decide +kernel
theorem d_Grounds_noteRound_29 : decode k_Grounds_noteRound 29 = .ok (.return_, 1) := by decide +kernel
theorem d_Grounds_all_0 : decode k_Grounds_all 0 = .ok (.aload_n 0, 1) := by decide +kernel
theorem d_Grounds_all_1 : decode k_Grounds_all 1 = .ok (.getfield 15, 3) := by decide +kernel
theorem d_Grounds_all_4 : decode k_Grounds_all 4 = .ok (.ireturn, 1) := by decide +kernel
theorem d_Grounds_roundOf_0 : decode k_Grounds_roundOf 0 = .ok (.iload_n 1, 1) := by decide +kernel
theorem d_Grounds_roundOf_1 : decode k_Grounds_roundOf 1 = .ok (.ifCond .lt 18, 3) := by decide +kernel
theorem d_Grounds_roundOf_4 : decode k_Grounds_roundOf 4 = .ok (.iload_n 1, 1) := by decide +kernel
theorem d_Grounds_roundOf_5 : decode k_Grounds_roundOf 5 = .ok (.bipush 12, 2) := by decide +kernel
theorem d_Grounds_roundOf_7 : decode k_Grounds_roundOf 7 = .ok (.if_icmp .ge 12, 3) := by decide +kernel
theorem d_Grounds_roundOf_10 : decode k_Grounds_roundOf 10 = .ok (.aload_n 0, 1) := by decide +kernel
theorem d_Grounds_roundOf_11 : decode k_Grounds_roundOf 11 = .ok (.getfield 9, 3) := by decide +kernel
theorem d_Grounds_roundOf_14 : decode k_Grounds_roundOf 14 = .ok (.iload_n 1, 1) := by decide +kernel
theorem d_Grounds_roundOf_15 : decode k_Grounds_roundOf 15 = .ok (.iaload, 1) := by decide +kernel
theorem d_Grounds_roundOf_16 : decode k_Grounds_roundOf 16 = .ok (.goto 4, 3) := by decide +kernel
theorem d_Grounds_roundOf_19 : decode k_Grounds_roundOf 19 = .ok (.iconst 0, 1) := by decide +kernel
theorem d_Grounds_roundOf_20 : decode k_Grounds_roundOf 20 = .ok (.ireturn, 1) := by decide +kernel
theorem d_Senses_meet_0 : decode k_Senses_meet 0 = .ok (.aload_n 0, 1) := by decide +kernel
theorem d_Senses_meet_1 : decode k_Senses_meet 1 = .ok (.getfield 25, 3) := by decide +kernel
theorem d_Senses_meet_4 : decode k_Senses_meet 4 = .ok (.istore_n 2, 1) := by decide +kernel
theorem d_Senses_meet_5 : decode k_Senses_meet 5 = .ok (.iconst 0, 1) := by decide +kernel
theorem d_Senses_meet_6 : decode k_Senses_meet 6 = .ok (.istore_n 3, 1) := by decide +kernel
theorem d_Senses_meet_7 : decode k_Senses_meet 7 = .ok (.iload_n 3, 1) := by decide +kernel
theorem d_Senses_meet_8 : decode k_Senses_meet 8 = .ok (.aload_n 0, 1) := by decide +kernel
theorem d_Senses_meet_9 : decode k_Senses_meet 9 = .ok (.getfield 25, 3) := by decide +kernel
theorem d_Senses_meet_12 : decode k_Senses_meet 12 = .ok (.if_icmp .gt 22, 3) := by decide +kernel
theorem d_Senses_meet_15 : decode k_Senses_meet 15 = .ok (.aload_n 0, 1) := by decide +kernel
theorem d_Senses_meet_16 : decode k_Senses_meet 16 = .ok (.iload_n 1, 1) := by decide +kernel
theorem d_Senses_meet_17 : decode k_Senses_meet 17 = .ok (.iload_n 3, 1) := by decide +kernel
theorem d_Senses_meet_18 : decode k_Senses_meet 18 = .ok (.invokevirtual 58, 3) := by decide +kernel
theorem d_Senses_meet_21 : decode k_Senses_meet 21 = .ok (.ifCond .eq 7, 3) := by decide +kernel
theorem d_Senses_meet_24 : decode k_Senses_meet 24 = .ok (.iload_n 2, 1) := by decide +kernel
theorem d_Senses_meet_25 : decode k_Senses_meet 25 = .ok (.iload_n 3, 1) := by decide +kernel
theorem d_Senses_meet_26 : decode k_Senses_meet 26 = .ok (.iand, 1) := by decide +kernel
theorem d_Senses_meet_27 : decode k_Senses_meet 27 = .ok (.istore_n 2, 1) := by decide +kernel
theorem d_Senses_meet_28 : decode k_Senses_meet 28 = .ok (.iinc 3 1, 3) := by decide +kernel
theorem d_Senses_meet_31 : decode k_Senses_meet 31 = .ok (.goto (-24), 3) := by decide +kernel
theorem d_Senses_meet_34 : decode k_Senses_meet 34 = .ok (.iload_n 2, 1) := by decide +kernel
theorem d_Senses_meet_35 : decode k_Senses_meet 35 = .ok (.ireturn, 1) := by decide +kernel
theorem d_Senses_joinWithin_0 : decode k_Senses_joinWithin 0 = .ok (.iconst 0, 1) := by decide +kernel
theorem d_Senses_joinWithin_1 : decode k_Senses_joinWithin 1 = .ok (.istore_n 3, 1) := by decide +kernel
theorem d_Senses_joinWithin_2 : decode k_Senses_joinWithin 2 = .ok (.iconst 0, 1) := by decide +kernel
theorem d_Senses_joinWithin_3 : decode k_Senses_joinWithin 3 = .ok (.istore 4, 2) := by decide +kernel
theorem d_Senses_joinWithin_5 : decode k_Senses_joinWithin 5 = .ok (.iload 4, 2) := by decide +kernel
theorem d_Senses_joinWithin_7 : decode k_Senses_joinWithin 7 = .ok (.aload_n 0, 1) := by decide +kernel
theorem d_Senses_joinWithin_8 : decode k_Senses_joinWithin 8 = .ok (.getfield 25, 3) := by decide +kernel
theorem d_Senses_joinWithin_11 : decode k_Senses_joinWithin 11 = .ok (.if_icmp .gt 33, 3) := by decide +kernel
theorem d_Senses_joinWithin_14 : decode k_Senses_joinWithin 14 = .ok (.iload 4, 2) := by decide +kernel
theorem d_Senses_joinWithin_16 : decode k_Senses_joinWithin 16 = .ok (.iload_n 2, 1) := by decide +kernel
theorem d_Senses_joinWithin_17 : decode k_Senses_joinWithin 17 = .ok (.invokestatic 61, 3) := by decide +kernel
theorem d_Senses_joinWithin_20 : decode k_Senses_joinWithin 20 = .ok (.ifCond .eq 18, 3) := by decide +kernel
theorem d_Senses_joinWithin_23 : decode k_Senses_joinWithin 23 = .ok (.aload_n 0, 1) := by decide +kernel
theorem d_Senses_joinWithin_24 : decode k_Senses_joinWithin 24 = .ok (.iload_n 1, 1) := by decide +kernel
theorem d_Senses_joinWithin_25 : decode k_Senses_joinWithin 25 = .ok (.iload 4, 2) := by decide +kernel
theorem d_Senses_joinWithin_27 : decode k_Senses_joinWithin 27 = .ok (.invokevirtual 58, 3) := by decide +kernel
theorem d_Senses_joinWithin_30 : decode k_Senses_joinWithin 30 = .ok (.ifCond .eq 8, 3) := by decide +kernel
theorem d_Senses_joinWithin_33 : decode k_Senses_joinWithin 33 = .ok (.iload_n 3, 1) := by decide +kernel
theorem d_Senses_joinWithin_34 : decode k_Senses_joinWithin 34 = .ok (.iload 4, 2) := by decide +kernel
theorem d_Senses_joinWithin_36 : decode k_Senses_joinWithin 36 = .ok (.ior, 1) := by decide +kernel
theorem d_Senses_joinWithin_37 : decode k_Senses_joinWithin 37 = .ok (.istore_n 3, 1) := by decide +kernel
theorem d_Senses_joinWithin_38 : decode k_Senses_joinWithin 38 = .ok (.iinc 4 1, 3) := by decide +kernel
theorem d_Senses_joinWithin_41 : decode k_Senses_joinWithin 41 = .ok (.goto (-36), 3) := by decide +kernel
theorem d_Senses_joinWithin_44 : decode k_Senses_joinWithin 44 = .ok (.iload_n 3, 1) := by decide +kernel
theorem d_Senses_joinWithin_45 : decode k_Senses_joinWithin 45 = .ok (.ireturn, 1) := by decide +kernel
theorem d_Talk_tell_0 : decode k_Talk_tell 0 = .ok (.iload_n 1, 1) := by decide +kernel
theorem d_Talk_tell_1 : decode k_Talk_tell 1 = .ok (.ifCond .lt 18, 3) := by decide +kernel
theorem d_Talk_tell_4 : decode k_Talk_tell 4 = .ok (.iload_n 1, 1) := by decide +kernel
theorem d_Talk_tell_5 : decode k_Talk_tell 5 = .ok (.aload_n 0, 1) := by decide +kernel
theorem d_Talk_tell_6 : decode k_Talk_tell 6 = .ok (.getfield 21, 3) := by decide +kernel
theorem d_Talk_tell_9 : decode k_Talk_tell 9 = .ok (.if_icmp .ge 10, 3) := by decide +kernel
theorem d_Talk_tell_12 : decode k_Talk_tell 12 = .ok (.iload_n 1, 1) := by decide +kernel
theorem d_Talk_tell_13 : decode k_Talk_tell 13 = .ok (.sipush 500, 3) := by decide +kernel
theorem d_Talk_tell_16 : decode k_Talk_tell 16 = .ok (.if_icmp .lt 5, 3) := by decide +kernel
theorem d_Talk_tell_19 : decode k_Talk_tell 19 = .ok (.iconst (-1), 1) := by decide +kernel
theorem d_Talk_tell_20 : decode k_Talk_tell 20 = .ok (.ireturn, 1) := by decide +kernel
theorem d_Talk_tell_21 : decode k_Talk_tell 21 = .ok (.iload_n 2, 1) := by decide +kernel
theorem d_Talk_tell_22 : decode k_Talk_tell 22 = .ok (.tableswitch 47 0 2 #[26, 33, 40], 26) := by decide +kernel
theorem d_Talk_tell_48 : decode k_Talk_tell 48 = .ok (.aload_n 0, 1) := by decide +kernel
theorem d_Talk_tell_49 : decode k_Talk_tell 49 = .ok (.getfield 9, 3) := by decide +kernel
theorem d_Talk_tell_52 : decode k_Talk_tell 52 = .ok (.iload_n 1, 1) := by decide +kernel
theorem d_Talk_tell_53 : decode k_Talk_tell 53 = .ok (.iaload, 1) := by decide +kernel
theorem d_Talk_tell_54 : decode k_Talk_tell 54 = .ok (.ireturn, 1) := by decide +kernel
theorem d_Talk_tell_55 : decode k_Talk_tell 55 = .ok (.aload_n 0, 1) := by decide +kernel
theorem d_Talk_tell_56 : decode k_Talk_tell 56 = .ok (.getfield 15, 3) := by decide +kernel
theorem d_Talk_tell_59 : decode k_Talk_tell 59 = .ok (.iload_n 1, 1) := by decide +kernel
theorem d_Talk_tell_60 : decode k_Talk_tell 60 = .ok (.iaload, 1) := by decide +kernel
theorem d_Talk_tell_61 : decode k_Talk_tell 61 = .ok (.ireturn, 1) := by decide +kernel
theorem d_Talk_tell_62 : decode k_Talk_tell 62 = .ok (.aload_n 0, 1) := by decide +kernel
theorem d_Talk_tell_63 : decode k_Talk_tell 63 = .ok (.getfield 18, 3) := by decide +kernel
theorem d_Talk_tell_66 : decode k_Talk_tell 66 = .ok (.iload_n 1, 1) := by decide +kernel
theorem d_Talk_tell_67 : decode k_Talk_tell 67 = .ok (.iaload, 1) := by decide +kernel
theorem d_Talk_tell_68 : decode k_Talk_tell 68 = .ok (.ireturn, 1) := by decide +kernel
theorem d_Talk_tell_69 : decode k_Talk_tell 69 = .ok (.iconst (-1), 1) := by decide +kernel
theorem d_Talk_tell_70 : decode k_Talk_tell 70 = .ok (.ireturn, 1) := by decide +kernel
theorem d_Rings_find_0 : decode k_Rings_find 0 = .ok (.aload_n 0, 1) := by decide +kernel
theorem d_Rings_find_1 : decode k_Rings_find 1 = .ok (.aload_n 1, 1) := by decide +kernel
theorem d_Rings_find_2 : decode k_Rings_find 2 = .ok (.invokevirtual 22, 3) := by decide +kernel
theorem d_Rings_find_5 : decode k_Rings_find 5 = .ok (.aload_n 0, 1) := by decide +kernel
theorem d_Rings_find_6 : decode k_Rings_find 6 = .ok (.iconst 0, 1) := by decide +kernel
theorem d_Rings_find_7 : decode k_Rings_find 7 = .ok (.putfield 18, 3) := by decide +kernel
theorem d_Rings_find_10 : decode k_Rings_find 10 = .ok (.iconst 0, 1) := by decide +kernel
theorem d_Rings_find_11 : decode k_Rings_find 11 = .ok (.istore_n 2, 1) := by decide +kernel
theorem d_Rings_find_12 : decode k_Rings_find 12 = .ok (.iconst 0, 1) := by decide +kernel
theorem d_Rings_find_13 : decode k_Rings_find 13 = .ok (.istore_n 3, 1) := by decide +kernel
theorem d_Rings_find_14 : decode k_Rings_find 14 = .ok (.iload_n 3, 1) := by decide +kernel
theorem d_Rings_find_15 : decode k_Rings_find 15 = .ok (.aload_n 1, 1) := by decide +kernel
theorem d_Rings_find_16 : decode k_Rings_find 16 = .ok (.invokevirtual 26, 3) := by decide +kernel
theorem d_Rings_find_19 : decode k_Rings_find 19 = .ok (.if_icmp .ge 28, 3) := by decide +kernel
theorem d_Rings_find_22 : decode k_Rings_find 22 = .ok (.aload_n 0, 1) := by decide +kernel
theorem d_Rings_find_23 : decode k_Rings_find 23 = .ok (.aload_n 1, 1) := by decide +kernel
theorem d_Rings_find_24 : decode k_Rings_find 24 = .ok (.iload_n 2, 1) := by decide +kernel
theorem d_Rings_find_25 : decode k_Rings_find 25 = .ok (.invokevirtual 31, 3) := by decide +kernel
theorem d_Rings_find_28 : decode k_Rings_find 28 = .ok (.istore 4, 2) := by decide +kernel
theorem d_Rings_find_30 : decode k_Rings_find 30 = .ok (.aload_n 0, 1) := by decide +kernel
theorem d_Rings_find_31 : decode k_Rings_find 31 = .ok (.iload 4, 2) := by decide +kernel
theorem d_Rings_find_33 : decode k_Rings_find 33 = .ok (.invokevirtual 35, 3) := by decide +kernel
theorem d_Rings_find_36 : decode k_Rings_find 36 = .ok (.iload_n 2, 1) := by decide +kernel
theorem d_Rings_find_37 : decode k_Rings_find 37 = .ok (.iload 4, 2) := by decide +kernel
theorem d_Rings_find_39 : decode k_Rings_find 39 = .ok (.ior, 1) := by decide +kernel
theorem d_Rings_find_40 : decode k_Rings_find 40 = .ok (.istore_n 2, 1) := by decide +kernel
theorem d_Rings_find_41 : decode k_Rings_find 41 = .ok (.iinc 3 1, 3) := by decide +kernel
theorem d_Rings_find_44 : decode k_Rings_find 44 = .ok (.goto (-30), 3) := by decide +kernel
theorem d_Rings_find_47 : decode k_Rings_find 47 = .ok (.return_, 1) := by decide +kernel
theorem d_Rings_fillReach_0 : decode k_Rings_fillReach 0 = .ok (.iconst 0, 1) := by decide +kernel
theorem d_Rings_fillReach_1 : decode k_Rings_fillReach 1 = .ok (.istore_n 2, 1) := by decide +kernel
theorem d_Rings_fillReach_2 : decode k_Rings_fillReach 2 = .ok (.iload_n 2, 1) := by decide +kernel
theorem d_Rings_fillReach_3 : decode k_Rings_fillReach 3 = .ok (.bipush 12, 2) := by decide +kernel
theorem d_Rings_fillReach_5 : decode k_Rings_fillReach 5 = .ok (.if_icmp .ge 24, 3) := by decide +kernel
theorem d_Rings_fillReach_8 : decode k_Rings_fillReach 8 = .ok (.aload_n 0, 1) := by decide +kernel
theorem d_Rings_fillReach_9 : decode k_Rings_fillReach 9 = .ok (.getfield 9, 3) := by decide +kernel
theorem d_Rings_fillReach_12 : decode k_Rings_fillReach 12 = .ok (.iload_n 2, 1) := by decide +kernel
theorem d_Rings_fillReach_13 : decode k_Rings_fillReach 13 = .ok (.aload_n 1, 1) := by decide +kernel
theorem d_Rings_fillReach_14 : decode k_Rings_fillReach 14 = .ok (.iload_n 2, 1) := by decide +kernel
theorem d_Rings_fillReach_15 : decode k_Rings_fillReach 15 = .ok (.invokevirtual 39, 3) := by decide +kernel
theorem d_Rings_fillReach_18 : decode k_Rings_fillReach 18 = .ok (.iconst 1, 1) := by decide +kernel
theorem d_Rings_fillReach_19 : decode k_Rings_fillReach 19 = .ok (.iload_n 2, 1) := by decide +kernel
theorem d_Rings_fillReach_20 : decode k_Rings_fillReach 20 = .ok (.ishl, 1) := by decide +kernel
theorem d_Rings_fillReach_21 : decode k_Rings_fillReach 21 = .ok (.ior, 1) := by decide +kernel
theorem d_Rings_fillReach_22 : decode k_Rings_fillReach 22 = .ok (.iastore, 1) := by decide +kernel
theorem d_Rings_fillReach_23 : decode k_Rings_fillReach 23 = .ok (.iinc 2 1, 3) := by decide +kernel
theorem d_Rings_fillReach_26 : decode k_Rings_fillReach 26 = .ok (.goto (-24), 3) := by decide +kernel
theorem d_Rings_fillReach_29 : decode k_Rings_fillReach 29 = .ok (.iconst 0, 1) := by decide +kernel
theorem d_Rings_fillReach_30 : decode k_Rings_fillReach 30 = .ok (.istore_n 2, 1) := by decide +kernel
theorem d_Rings_fillReach_31 : decode k_Rings_fillReach 31 = .ok (.iload_n 2, 1) := by decide +kernel
theorem d_Rings_fillReach_32 : decode k_Rings_fillReach 32 = .ok (.bipush 12, 2) := by decide +kernel
theorem d_Rings_fillReach_34 : decode k_Rings_fillReach 34 = .ok (.if_icmp .ge 51, 3) := by decide +kernel
theorem d_Rings_fillReach_37 : decode k_Rings_fillReach 37 = .ok (.iconst 0, 1) := by decide +kernel
theorem d_Rings_fillReach_38 : decode k_Rings_fillReach 38 = .ok (.istore_n 3, 1) := by decide +kernel
theorem d_Rings_fillReach_39 : decode k_Rings_fillReach 39 = .ok (.iload_n 3, 1) := by decide +kernel
theorem d_Rings_fillReach_40 : decode k_Rings_fillReach 40 = .ok (.bipush 12, 2) := by decide +kernel
theorem d_Rings_fillReach_42 : decode k_Rings_fillReach 42 = .ok (.if_icmp .ge 37, 3) := by decide +kernel
theorem d_Rings_fillReach_45 : decode k_Rings_fillReach 45 = .ok (.iload_n 2, 1) := by decide +kernel
theorem d_Rings_fillReach_46 : decode k_Rings_fillReach 46 = .ok (.aload_n 0, 1) := by decide +kernel
theorem d_Rings_fillReach_47 : decode k_Rings_fillReach 47 = .ok (.getfield 9, 3) := by decide +kernel
theorem d_Rings_fillReach_50 : decode k_Rings_fillReach 50 = .ok (.iload_n 3, 1) := by decide +kernel
theorem d_Rings_fillReach_51 : decode k_Rings_fillReach 51 = .ok (.iaload, 1) := by decide +kernel
theorem d_Rings_fillReach_52 : decode k_Rings_fillReach 52 = .ok (.invokestatic 43, 3) := by decide +kernel
theorem d_Rings_fillReach_55 : decode k_Rings_fillReach 55 = .ok (.ifCond .eq 18, 3) := by decide +kernel
theorem d_Rings_fillReach_58 : decode k_Rings_fillReach 58 = .ok (.aload_n 0, 1) := by decide +kernel
theorem d_Rings_fillReach_59 : decode k_Rings_fillReach 59 = .ok (.getfield 9, 3) := by decide +kernel
theorem d_Rings_fillReach_62 : decode k_Rings_fillReach 62 = .ok (.iload_n 3, 1) := by decide +kernel
theorem d_Rings_fillReach_63 : decode k_Rings_fillReach 63 = .ok (.dup2, 1) := by decide +kernel
theorem d_Rings_fillReach_64 : decode k_Rings_fillReach 64 = .ok (.iaload, 1) := by decide +kernel
theorem d_Rings_fillReach_65 : decode k_Rings_fillReach 65 = .ok (.aload_n 0, 1) := by decide +kernel
theorem d_Rings_fillReach_66 : decode k_Rings_fillReach 66 = .ok (.getfield 9, 3) := by decide +kernel
theorem d_Rings_fillReach_69 : decode k_Rings_fillReach 69 = .ok (.iload_n 2, 1) := by decide +kernel
theorem d_Rings_fillReach_70 : decode k_Rings_fillReach 70 = .ok (.iaload, 1) := by decide +kernel
theorem d_Rings_fillReach_71 : decode k_Rings_fillReach 71 = .ok (.ior, 1) := by decide +kernel
theorem d_Rings_fillReach_72 : decode k_Rings_fillReach 72 = .ok (.iastore, 1) := by decide +kernel
theorem d_Rings_fillReach_73 : decode k_Rings_fillReach 73 = .ok (.iinc 3 1, 3) := by decide +kernel
theorem d_Rings_fillReach_76 : decode k_Rings_fillReach 76 = .ok (.goto (-37), 3) := by decide +kernel
theorem d_Rings_fillReach_79 : decode k_Rings_fillReach 79 = .ok (.iinc 2 1, 3) := by decide +kernel
theorem d_Rings_fillReach_82 : decode k_Rings_fillReach 82 = .ok (.goto (-51), 3) := by decide +kernel
theorem d_Rings_fillReach_85 : decode k_Rings_fillReach 85 = .ok (.return_, 1) := by decide +kernel
theorem d_Rings_firstReady_0 : decode k_Rings_firstReady 0 = .ok (.iconst 0, 1) := by decide +kernel
theorem d_Rings_firstReady_1 : decode k_Rings_firstReady 1 = .ok (.istore_n 3, 1) := by decide +kernel
theorem d_Rings_firstReady_2 : decode k_Rings_firstReady 2 = .ok (.iload_n 3, 1) := by decide +kernel
theorem d_Rings_firstReady_3 : decode k_Rings_firstReady 3 = .ok (.aload_n 1, 1) := by decide +kernel
theorem d_Rings_firstReady_4 : decode k_Rings_firstReady 4 = .ok (.invokevirtual 26, 3) := by decide +kernel
theorem d_Rings_firstReady_7 : decode k_Rings_firstReady 7 = .ok (.if_icmp .ge 47, 3) := by decide +kernel
theorem d_Rings_firstReady_10 : decode k_Rings_firstReady 10 = .ok (.iload_n 3, 1) := by decide +kernel
theorem d_Rings_firstReady_11 : decode k_Rings_firstReady 11 = .ok (.iload_n 2, 1) := by decide +kernel
theorem d_Rings_firstReady_12 : decode k_Rings_firstReady 12 = .ok (.invokestatic 43, 3) := by decide +kernel
theorem d_Rings_firstReady_15 : decode k_Rings_firstReady 15 = .ok (.ifCond .ne 33, 3) := by decide +kernel
theorem d_Rings_firstReady_18 : decode k_Rings_firstReady 18 = .ok (.aload_n 0, 1) := by decide +kernel
theorem d_Rings_firstReady_19 : decode k_Rings_firstReady 19 = .ok (.iload_n 3, 1) := by decide +kernel
theorem d_Rings_firstReady_20 : decode k_Rings_firstReady 20 = .ok (.aload_n 1, 1) := by decide +kernel
theorem d_Rings_firstReady_21 : decode k_Rings_firstReady 21 = .ok (.invokevirtual 26, 3) := by decide +kernel
theorem d_Rings_firstReady_24 : decode k_Rings_firstReady 24 = .ok (.invokevirtual 47, 3) := by decide +kernel
theorem d_Rings_firstReady_27 : decode k_Rings_firstReady 27 = .ok (.istore 4, 2) := by decide +kernel
theorem d_Rings_firstReady_29 : decode k_Rings_firstReady 29 = .ok (.aload_n 1, 1) := by decide +kernel
theorem d_Rings_firstReady_30 : decode k_Rings_firstReady 30 = .ok (.iload 4, 2) := by decide +kernel
theorem d_Rings_firstReady_32 : decode k_Rings_firstReady 32 = .ok (.invokevirtual 51, 3) := by decide +kernel
theorem d_Rings_firstReady_35 : decode k_Rings_firstReady 35 = .ok (.iload 4, 2) := by decide +kernel
theorem d_Rings_firstReady_37 : decode k_Rings_firstReady 37 = .ok (.iload_n 2, 1) := by decide +kernel
theorem d_Rings_firstReady_38 : decode k_Rings_firstReady 38 = .ok (.ior, 1) := by decide +kernel
theorem d_Rings_firstReady_39 : decode k_Rings_firstReady 39 = .ok (.invokestatic 54, 3) := by decide +kernel
theorem d_Rings_firstReady_42 : decode k_Rings_firstReady 42 = .ok (.ifCond .eq 6, 3) := by decide +kernel
theorem d_Rings_firstReady_45 : decode k_Rings_firstReady 45 = .ok (.iload 4, 2) := by decide +kernel
theorem d_Rings_firstReady_47 : decode k_Rings_firstReady 47 = .ok (.ireturn, 1) := by decide +kernel
theorem d_Rings_firstReady_48 : decode k_Rings_firstReady 48 = .ok (.iinc 3 1, 3) := by decide +kernel
theorem d_Rings_firstReady_51 : decode k_Rings_firstReady 51 = .ok (.goto (-49), 3) := by decide +kernel
theorem d_Rings_firstReady_54 : decode k_Rings_firstReady 54 = .ok (.iconst 0, 1) := by decide +kernel
theorem d_Rings_firstReady_55 : decode k_Rings_firstReady 55 = .ok (.ireturn, 1) := by decide +kernel
theorem d_Rings_around_0 : decode k_Rings_around 0 = .ok (.iconst 0, 1) := by decide +kernel
theorem d_Rings_around_1 : decode k_Rings_around 1 = .ok (.istore_n 3, 1) := by decide +kernel
theorem d_Rings_around_2 : decode k_Rings_around 2 = .ok (.iconst 0, 1) := by decide +kernel
theorem d_Rings_around_3 : decode k_Rings_around 3 = .ok (.istore 4, 2) := by decide +kernel
theorem d_Rings_around_5 : decode k_Rings_around 5 = .ok (.iload 4, 2) := by decide +kernel
theorem d_Rings_around_7 : decode k_Rings_around 7 = .ok (.iload_n 2, 1) := by decide +kernel
theorem d_Rings_around_8 : decode k_Rings_around 8 = .ok (.if_icmp .ge 36, 3) := by decide +kernel
theorem d_Rings_around_11 : decode k_Rings_around 11 = .ok (.aload_n 0, 1) := by decide +kernel
theorem d_Rings_around_12 : decode k_Rings_around 12 = .ok (.iload_n 1, 1) := by decide +kernel
theorem d_Rings_around_13 : decode k_Rings_around 13 = .ok (.iload 4, 2) := by decide +kernel
theorem d_Rings_around_15 : decode k_Rings_around 15 = .ok (.invokevirtual 57, 3) := by decide +kernel
theorem d_Rings_around_18 : decode k_Rings_around 18 = .ok (.ifCond .eq 20, 3) := by decide +kernel
theorem d_Rings_around_21 : decode k_Rings_around 21 = .ok (.aload_n 0, 1) := by decide +kernel
theorem d_Rings_around_22 : decode k_Rings_around 22 = .ok (.iload 4, 2) := by decide +kernel
theorem d_Rings_around_24 : decode k_Rings_around 24 = .ok (.iload_n 1, 1) := by decide +kernel
theorem d_Rings_around_25 : decode k_Rings_around 25 = .ok (.invokevirtual 57, 3) := by decide +kernel
theorem d_Rings_around_28 : decode k_Rings_around 28 = .ok (.ifCond .eq 10, 3) := by decide +kernel
theorem d_Rings_around_31 : decode k_Rings_around 31 = .ok (.iload_n 3, 1) := by decide +kernel
theorem d_Rings_around_32 : decode k_Rings_around 32 = .ok (.iconst 1, 1) := by decide +kernel
theorem d_Rings_around_33 : decode k_Rings_around 33 = .ok (.iload 4, 2) := by decide +kernel
theorem d_Rings_around_35 : decode k_Rings_around 35 = .ok (.ishl, 1) := by decide +kernel
theorem d_Rings_around_36 : decode k_Rings_around 36 = .ok (.ior, 1) := by decide +kernel
theorem d_Rings_around_37 : decode k_Rings_around 37 = .ok (.istore_n 3, 1) := by decide +kernel
theorem d_Rings_around_38 : decode k_Rings_around 38 = .ok (.iinc 4 1, 3) := by decide +kernel
theorem d_Rings_around_41 : decode k_Rings_around 41 = .ok (.goto (-36), 3) := by decide +kernel
theorem d_Rings_around_44 : decode k_Rings_around 44 = .ok (.iload_n 3, 1) := by decide +kernel
theorem d_Rings_around_45 : decode k_Rings_around 45 = .ok (.ireturn, 1) := by decide +kernel
theorem d_Rings_comesTo_0 : decode k_Rings_comesTo 0 = .ok (.iload_n 1, 1) := by decide +kernel
theorem d_Rings_comesTo_1 : decode k_Rings_comesTo 1 = .ok (.ifCond .lt 26, 3) := by decide +kernel
theorem d_Rings_comesTo_4 : decode k_Rings_comesTo 4 = .ok (.iload_n 1, 1) := by decide +kernel
theorem d_Rings_comesTo_5 : decode k_Rings_comesTo 5 = .ok (.bipush 12, 2) := by decide +kernel
theorem d_Rings_comesTo_7 : decode k_Rings_comesTo 7 = .ok (.if_icmp .ge 20, 3) := by decide +kernel
theorem d_Rings_comesTo_10 : decode k_Rings_comesTo 10 = .ok (.iload_n 2, 1) := by decide +kernel
theorem d_Rings_comesTo_11 : decode k_Rings_comesTo 11 = .ok (.aload_n 0, 1) := by decide +kernel
theorem d_Rings_comesTo_12 : decode k_Rings_comesTo 12 = .ok (.getfield 9, 3) := by decide +kernel
theorem d_Rings_comesTo_15 : decode k_Rings_comesTo 15 = .ok (.iload_n 1, 1) := by decide +kernel
theorem d_Rings_comesTo_16 : decode k_Rings_comesTo 16 = .ok (.iaload, 1) := by decide +kernel
theorem d_Rings_comesTo_17 : decode k_Rings_comesTo 17 = .ok (.invokestatic 43, 3) := by decide +kernel
theorem d_Rings_comesTo_20 : decode k_Rings_comesTo 20 = .ok (.ifCond .eq 7, 3) := by decide +kernel
theorem d_Rings_comesTo_23 : decode k_Rings_comesTo 23 = .ok (.iconst 1, 1) := by decide +kernel
theorem d_Rings_comesTo_24 : decode k_Rings_comesTo 24 = .ok (.goto 4, 3) := by decide +kernel
theorem d_Rings_comesTo_27 : decode k_Rings_comesTo 27 = .ok (.iconst 0, 1) := by decide +kernel
theorem d_Rings_comesTo_28 : decode k_Rings_comesTo 28 = .ok (.ireturn, 1) := by decide +kernel
theorem d_Rings_number_0 : decode k_Rings_number 0 = .ok (.iload_n 1, 1) := by decide +kernel
theorem d_Rings_number_1 : decode k_Rings_number 1 = .ok (.ifCond .ne 4, 3) := by decide +kernel
theorem d_Rings_number_4 : decode k_Rings_number 4 = .ok (.return_, 1) := by decide +kernel
theorem d_Rings_number_5 : decode k_Rings_number 5 = .ok (.iconst 0, 1) := by decide +kernel
theorem d_Rings_number_6 : decode k_Rings_number 6 = .ok (.istore_n 2, 1) := by decide +kernel
theorem d_Rings_number_7 : decode k_Rings_number 7 = .ok (.iload_n 2, 1) := by decide +kernel
theorem d_Rings_number_8 : decode k_Rings_number 8 = .ok (.bipush 12, 2) := by decide +kernel
theorem d_Rings_number_10 : decode k_Rings_number 10 = .ok (.if_icmp .ge 27, 3) := by decide +kernel
theorem d_Rings_number_13 : decode k_Rings_number 13 = .ok (.iload_n 2, 1) := by decide +kernel
theorem d_Rings_number_14 : decode k_Rings_number 14 = .ok (.iload_n 1, 1) := by decide +kernel
theorem d_Rings_number_15 : decode k_Rings_number 15 = .ok (.invokestatic 43, 3) := by decide +kernel
theorem d_Rings_number_18 : decode k_Rings_number 18 = .ok (.ifCond .eq 13, 3) := by decide +kernel
theorem d_Rings_number_21 : decode k_Rings_number 21 = .ok (.aload_n 0, 1) := by decide +kernel
theorem d_Rings_number_22 : decode k_Rings_number 22 = .ok (.getfield 15, 3) := by decide +kernel
theorem d_Rings_number_25 : decode k_Rings_number 25 = .ok (.iload_n 2, 1) := by decide +kernel
theorem d_Rings_number_26 : decode k_Rings_number 26 = .ok (.aload_n 0, 1) := by decide +kernel
theorem d_Rings_number_27 : decode k_Rings_number 27 = .ok (.getfield 18, 3) := by decide +kernel
theorem d_Rings_number_30 : decode k_Rings_number 30 = .ok (.iastore, 1) := by decide +kernel
theorem d_Rings_number_31 : decode k_Rings_number 31 = .ok (.iinc 2 1, 3) := by decide +kernel
theorem d_Rings_number_34 : decode k_Rings_number 34 = .ok (.goto (-27), 3) := by decide +kernel
theorem d_Rings_number_37 : decode k_Rings_number 37 = .ok (.aload_n 0, 1) := by decide +kernel
theorem d_Rings_number_38 : decode k_Rings_number 38 = .ok (.dup, 1) := by decide +kernel
theorem d_Rings_number_39 : decode k_Rings_number 39 = .ok (.getfield 18, 3) := by decide +kernel
theorem d_Rings_number_42 : decode k_Rings_number 42 = .ok (.iconst 1, 1) := by decide +kernel
theorem d_Rings_number_43 : decode k_Rings_number 43 = .ok (.iadd, 1) := by decide +kernel
theorem d_Rings_number_44 : decode k_Rings_number 44 = .ok (.putfield 18, 3) := by decide +kernel
theorem d_Rings_number_47 : decode k_Rings_number 47 = .ok (.return_, 1) := by decide +kernel
theorem d_Rings_ringOf_0 : decode k_Rings_ringOf 0 = .ok (.iload_n 1, 1) := by decide +kernel
theorem d_Rings_ringOf_1 : decode k_Rings_ringOf 1 = .ok (.ifCond .lt 18, 3) := by decide +kernel
theorem d_Rings_ringOf_4 : decode k_Rings_ringOf 4 = .ok (.iload_n 1, 1) := by decide +kernel
theorem d_Rings_ringOf_5 : decode k_Rings_ringOf 5 = .ok (.bipush 12, 2) := by decide +kernel
theorem d_Rings_ringOf_7 : decode k_Rings_ringOf 7 = .ok (.if_icmp .ge 12, 3) := by decide +kernel
theorem d_Rings_ringOf_10 : decode k_Rings_ringOf 10 = .ok (.aload_n 0, 1) := by decide +kernel
theorem d_Rings_ringOf_11 : decode k_Rings_ringOf 11 = .ok (.getfield 15, 3) := by decide +kernel
theorem d_Rings_ringOf_14 : decode k_Rings_ringOf 14 = .ok (.iload_n 1, 1) := by decide +kernel
theorem d_Rings_ringOf_15 : decode k_Rings_ringOf 15 = .ok (.iaload, 1) := by decide +kernel
theorem d_Rings_ringOf_16 : decode k_Rings_ringOf 16 = .ok (.goto 4, 3) := by decide +kernel
theorem d_Rings_ringOf_19 : decode k_Rings_ringOf 19 = .ok (.iconst (-1), 1) := by decide +kernel
theorem d_Rings_ringOf_20 : decode k_Rings_ringOf 20 = .ok (.ireturn, 1) := by decide +kernel
theorem d_Rings_size_0 : decode k_Rings_size 0 = .ok (.aload_n 0, 1) := by decide +kernel
theorem d_Rings_size_1 : decode k_Rings_size 1 = .ok (.getfield 18, 3) := by decide +kernel
theorem d_Rings_size_4 : decode k_Rings_size 4 = .ok (.ireturn, 1) := by decide +kernel
theorem d_Listing_begin_0 : decode k_Listing_begin 0 = .ok (.aload_n 0, 1) := by decide +kernel
theorem d_Listing_begin_1 : decode k_Listing_begin 1 = .ok (.iconst 1, 1) := by decide +kernel
theorem d_Listing_begin_2 : decode k_Listing_begin 2 = .ok (.putfield 9, 3) := by decide +kernel
theorem d_Listing_begin_5 : decode k_Listing_begin 5 = .ok (.aload_n 0, 1) := by decide +kernel
theorem d_Listing_begin_6 : decode k_Listing_begin 6 = .ok (.iload_n 1, 1) := by decide +kernel
theorem d_Listing_begin_7 : decode k_Listing_begin 7 = .ok (.putfield 15, 3) := by decide +kernel
theorem d_Listing_begin_10 : decode k_Listing_begin 10 = .ok (.aload_n 0, 1) := by decide +kernel
theorem d_Listing_begin_11 : decode k_Listing_begin 11 = .ok (.iconst 0, 1) := by decide +kernel
theorem d_Listing_begin_12 : decode k_Listing_begin 12 = .ok (.putfield 19, 3) := by decide +kernel
theorem d_Listing_begin_15 : decode k_Listing_begin 15 = .ok (.aload_n 0, 1) := by decide +kernel
theorem d_Listing_begin_16 : decode k_Listing_begin 16 = .ok (.iconst (-1), 1) := by decide +kernel
theorem d_Listing_begin_17 : decode k_Listing_begin 17 = .ok (.putfield 22, 3) := by decide +kernel
theorem d_Listing_begin_20 : decode k_Listing_begin 20 = .ok (.return_, 1) := by decide +kernel
theorem d_Listing_isOpen_0 : decode k_Listing_isOpen 0 = .ok (.aload_n 0, 1) := by decide +kernel
theorem d_Listing_isOpen_1 : decode k_Listing_isOpen 1 = .ok (.getfield 9, 3) := by decide +kernel
theorem d_Listing_isOpen_4 : decode k_Listing_isOpen 4 = .ok (.ireturn, 1) := by decide +kernel
theorem d_Listing_tell_0 : decode k_Listing_tell 0 = .ok (.aload_n 0, 1) := by decide +kernel
theorem d_Listing_tell_1 : decode k_Listing_tell 1 = .ok (.getfield 19, 3) := by decide +kernel
theorem d_Listing_tell_4 : decode k_Listing_tell 4 = .ok (.istore_n 2, 1) := by decide +kernel
theorem d_Listing_tell_5 : decode k_Listing_tell 5 = .ok (.iload_n 2, 1) := by decide +kernel
theorem d_Listing_tell_6 : decode k_Listing_tell 6 = .ok (.aload_n 1, 1) := by decide +kernel
theorem d_Listing_tell_7 : decode k_Listing_tell 7 = .ok (.invokevirtual 25, 3) := by decide +kernel
theorem d_Listing_tell_10 : decode k_Listing_tell 10 = .ok (.if_icmp .gt 35, 3) := by decide +kernel
theorem d_Listing_tell_13 : decode k_Listing_tell 13 = .ok (.aload_n 1, 1) := by decide +kernel
theorem d_Listing_tell_14 : decode k_Listing_tell 14 = .ok (.aload_n 0, 1) := by decide +kernel
theorem d_Listing_tell_15 : decode k_Listing_tell 15 = .ok (.getfield 15, 3) := by decide +kernel
theorem d_Listing_tell_18 : decode k_Listing_tell 18 = .ok (.iload_n 2, 1) := by decide +kernel
theorem d_Listing_tell_19 : decode k_Listing_tell 19 = .ok (.invokevirtual 31, 3) := by decide +kernel
theorem d_Listing_tell_22 : decode k_Listing_tell 22 = .ok (.ifCond .eq 17, 3) := by decide +kernel
theorem d_Listing_tell_25 : decode k_Listing_tell 25 = .ok (.aload_n 0, 1) := by decide +kernel
theorem d_Listing_tell_26 : decode k_Listing_tell 26 = .ok (.iload_n 2, 1) := by decide +kernel
theorem d_Listing_tell_27 : decode k_Listing_tell 27 = .ok (.iconst 1, 1) := by decide +kernel
theorem d_Listing_tell_28 : decode k_Listing_tell 28 = .ok (.iadd, 1) := by decide +kernel
theorem d_Listing_tell_29 : decode k_Listing_tell 29 = .ok (.putfield 19, 3) := by decide +kernel
theorem d_Listing_tell_32 : decode k_Listing_tell 32 = .ok (.aload_n 0, 1) := by decide +kernel
theorem d_Listing_tell_33 : decode k_Listing_tell 33 = .ok (.iload_n 2, 1) := by decide +kernel
theorem d_Listing_tell_34 : decode k_Listing_tell 34 = .ok (.putfield 22, 3) := by decide +kernel
theorem d_Listing_tell_37 : decode k_Listing_tell 37 = .ok (.iload_n 2, 1) := by decide +kernel
theorem d_Listing_tell_38 : decode k_Listing_tell 38 = .ok (.ireturn, 1) := by decide +kernel
theorem d_Listing_tell_39 : decode k_Listing_tell 39 = .ok (.iinc 2 1, 3) := by decide +kernel
theorem d_Listing_tell_42 : decode k_Listing_tell 42 = .ok (.goto (-37), 3) := by decide +kernel
theorem d_Listing_tell_45 : decode k_Listing_tell 45 = .ok (.aload_n 0, 1) := by decide +kernel
theorem d_Listing_tell_46 : decode k_Listing_tell 46 = .ok (.invokevirtual 35, 3) := by decide +kernel
theorem d_Listing_tell_49 : decode k_Listing_tell 49 = .ok (.iconst (-1), 1) := by decide +kernel
theorem d_Listing_tell_50 : decode k_Listing_tell 50 = .ok (.ireturn, 1) := by decide +kernel
theorem d_Senses_everything_0 : decode k_Senses_everything 0 = .ok (.aload_n 0, 1) := by decide +kernel
theorem d_Senses_everything_1 : decode k_Senses_everything 1 = .ok (.getfield 25, 3) := by decide +kernel
theorem d_Senses_everything_4 : decode k_Senses_everything 4 = .ok (.ireturn, 1) := by decide +kernel
theorem d_Listing_told_0 : decode k_Listing_told 0 = .ok (.aload_n 0, 1) := by decide +kernel
theorem d_Listing_told_1 : decode k_Listing_told 1 = .ok (.getfield 22, 3) := by decide +kernel
theorem d_Listing_told_4 : decode k_Listing_told 4 = .ok (.ireturn, 1) := by decide +kernel
theorem d_Senses_tally_0 : decode k_Senses_tally 0 = .ok (.iconst 0, 1) := by decide +kernel
theorem d_Senses_tally_1 : decode k_Senses_tally 1 = .ok (.istore_n 2, 1) := by decide +kernel
theorem d_Senses_tally_2 : decode k_Senses_tally 2 = .ok (.iconst 0, 1) := by decide +kernel
theorem d_Senses_tally_3 : decode k_Senses_tally 3 = .ok (.istore_n 3, 1) := by decide +kernel
theorem d_Senses_tally_4 : decode k_Senses_tally 4 = .ok (.iload_n 3, 1) := by decide +kernel
theorem d_Senses_tally_5 : decode k_Senses_tally 5 = .ok (.aload_n 0, 1) := by decide +kernel
theorem d_Senses_tally_6 : decode k_Senses_tally 6 = .ok (.getfield 25, 3) := by decide +kernel
theorem d_Senses_tally_9 : decode k_Senses_tally 9 = .ok (.if_icmp .gt 21, 3) := by decide +kernel
theorem d_Senses_tally_12 : decode k_Senses_tally 12 = .ok (.aload_n 0, 1) := by decide +kernel
theorem d_Senses_tally_13 : decode k_Senses_tally 13 = .ok (.iload_n 1, 1) := by decide +kernel
theorem d_Senses_tally_14 : decode k_Senses_tally 14 = .ok (.iload_n 3, 1) := by decide +kernel
theorem d_Senses_tally_15 : decode k_Senses_tally 15 = .ok (.invokevirtual 58, 3) := by decide +kernel
theorem d_Senses_tally_18 : decode k_Senses_tally 18 = .ok (.ifCond .eq 6, 3) := by decide +kernel
theorem d_Senses_tally_21 : decode k_Senses_tally 21 = .ok (.iinc 2 1, 3) := by decide +kernel
theorem d_Senses_tally_24 : decode k_Senses_tally 24 = .ok (.iinc 3 1, 3) := by decide +kernel
theorem d_Senses_tally_27 : decode k_Senses_tally 27 = .ok (.goto (-23), 3) := by decide +kernel
theorem d_Senses_tally_30 : decode k_Senses_tally 30 = .ok (.iload_n 2, 1) := by decide +kernel
theorem d_Senses_tally_31 : decode k_Senses_tally 31 = .ok (.ireturn, 1) := by decide +kernel
theorem d_Talk_about_0 : decode k_Talk_about 0 = .ok (.aload_n 0, 1) := by decide +kernel
theorem d_Talk_about_1 : decode k_Talk_about 1 = .ok (.iconst 0, 1) := by decide +kernel
theorem d_Talk_about_2 : decode k_Talk_about 2 = .ok (.putfield 21, 3) := by decide +kernel
theorem d_Talk_about_5 : decode k_Talk_about 5 = .ok (.aload_n 0, 1) := by decide +kernel
theorem d_Talk_about_6 : decode k_Talk_about 6 = .ok (.iconst 0, 1) := by decide +kernel
theorem d_Talk_about_7 : decode k_Talk_about 7 = .ok (.putfield 25, 3) := by decide +kernel
theorem d_Talk_about_10 : decode k_Talk_about 10 = .ok (.aload_n 3, 1) := by decide +kernel
theorem d_Talk_about_11 : decode k_Talk_about 11 = .ok (.iload_n 1, 1) := by decide +kernel
theorem d_Talk_about_12 : decode k_Talk_about 12 = .ok (.invokevirtual 29, 3) := by decide +kernel
theorem d_Talk_about_15 : decode k_Talk_about 15 = .ok (.ifCond .ne 5, 3) := by decide +kernel
theorem d_Talk_about_18 : decode k_Talk_about 18 = .ok (.iconst 0, 1) := by decide +kernel
theorem d_Talk_about_19 : decode k_Talk_about 19 = .ok (.ireturn, 1) := by decide +kernel
theorem d_Talk_about_20 : decode k_Talk_about 20 = .ok (.aload_n 0, 1) := by decide +kernel
theorem d_Talk_about_21 : decode k_Talk_about 21 = .ok (.iload_n 1, 1) := by decide +kernel
theorem d_Talk_about_22 : decode k_Talk_about 22 = .ok (.iconst (-1), 1) := by decide +kernel
theorem d_Talk_about_23 : decode k_Talk_about 23 = .ok (.aload_n 2, 1) := by decide +kernel
theorem d_Talk_about_24 : decode k_Talk_about 24 = .ok (.aload_n 3, 1) := by decide +kernel
theorem d_Talk_about_25 : decode k_Talk_about 25 = .ok (.iconst 0, 1) := by decide +kernel
theorem d_Talk_about_26 : decode k_Talk_about 26 = .ok (.invokevirtual 35, 3) := by decide +kernel
theorem d_Talk_about_29 : decode k_Talk_about 29 = .ok (.aload_n 0, 1) := by decide +kernel
theorem d_Talk_about_30 : decode k_Talk_about 30 = .ok (.getfield 25, 3) := by decide +kernel
theorem d_Talk_about_33 : decode k_Talk_about 33 = .ok (.ifCond .eq 10, 3) := by decide +kernel
theorem d_Talk_about_36 : decode k_Talk_about 36 = .ok (.aload_n 0, 1) := by decide +kernel
theorem d_Talk_about_37 : decode k_Talk_about 37 = .ok (.iconst 0, 1) := by decide +kernel
theorem d_Talk_about_38 : decode k_Talk_about 38 = .ok (.putfield 21, 3) := by decide +kernel
theorem d_Talk_about_41 : decode k_Talk_about 41 = .ok (.iconst (-1), 1) := by decide +kernel
theorem d_Talk_about_42 : decode k_Talk_about 42 = .ok (.ireturn, 1) := by decide +kernel
theorem d_Talk_about_43 : decode k_Talk_about 43 = .ok (.aload_n 0, 1) := by decide +kernel
theorem d_Talk_about_44 : decode k_Talk_about 44 = .ok (.getfield 21, 3) := by decide +kernel
theorem d_Talk_about_47 : decode k_Talk_about 47 = .ok (.ireturn, 1) := by decide +kernel
theorem d_Talk_defend_0 : decode k_Talk_defend 0 = .ok (.aload_n 0, 1) := by decide +kernel
theorem d_Talk_defend_1 : decode k_Talk_defend 1 = .ok (.iload_n 1, 1) := by decide +kernel
theorem d_Talk_defend_2 : decode k_Talk_defend 2 = .ok (.iload_n 2, 1) := by decide +kernel
theorem d_Talk_defend_3 : decode k_Talk_defend 3 = .ok (.iconst 0, 1) := by decide +kernel
theorem d_Talk_defend_4 : decode k_Talk_defend 4 = .ok (.invokevirtual 39, 3) := by decide +kernel
theorem d_Talk_defend_7 : decode k_Talk_defend 7 = .ok (.istore 6, 2) := by decide +kernel
theorem d_Talk_defend_9 : decode k_Talk_defend 9 = .ok (.iload 5, 2) := by decide +kernel
theorem d_Talk_defend_11 : decode k_Talk_defend 11 = .ok (.bipush 12, 2) := by decide +kernel
theorem d_Talk_defend_13 : decode k_Talk_defend 13 = .ok (.if_icmp .le 8, 3) := by decide +kernel
theorem d_Talk_defend_16 : decode k_Talk_defend 16 = .ok (.aload_n 0, 1) := by decide +kernel
theorem d_Talk_defend_17 : decode k_Talk_defend 17 = .ok (.iconst 1, 1) := by decide +kernel
theorem d_Talk_defend_18 : decode k_Talk_defend 18 = .ok (.putfield 25, 3) := by decide +kernel
theorem d_Talk_defend_21 : decode k_Talk_defend 21 = .ok (.iconst 0, 1) := by decide +kernel
theorem d_Talk_defend_22 : decode k_Talk_defend 22 = .ok (.istore 7, 2) := by decide +kernel
theorem d_Talk_defend_24 : decode k_Talk_defend 24 = .ok (.iload 7, 2) := by decide +kernel
theorem d_Talk_defend_26 : decode k_Talk_defend 26 = .ok (.bipush 12, 2) := by decide +kernel
theorem d_Talk_defend_28 : decode k_Talk_defend 28 = .ok (.if_icmp .ge 68, 3) := by decide +kernel
theorem d_Talk_defend_31 : decode k_Talk_defend 31 = .ok (.aload_n 0, 1) := by decide +kernel
theorem d_Talk_defend_32 : decode k_Talk_defend 32 = .ok (.getfield 25, 3) := by decide +kernel
theorem d_Talk_defend_35 : decode k_Talk_defend 35 = .ok (.ifCond .ne 61, 3) := by decide +kernel
theorem d_Talk_defend_38 : decode k_Talk_defend 38 = .ok (.iload 7, 2) := by decide +kernel
theorem d_Talk_defend_40 : decode k_Talk_defend 40 = .ok (.aload_n 3, 1) := by decide +kernel
theorem d_Talk_defend_41 : decode k_Talk_defend 41 = .ok (.iload_n 1, 1) := by decide +kernel
theorem d_Talk_defend_42 : decode k_Talk_defend 42 = .ok (.invokevirtual 43, 3) := by decide +kernel
theorem d_Talk_defend_45 : decode k_Talk_defend 45 = .ok (.invokestatic 48, 3) := by decide +kernel
theorem d_Talk_defend_48 : decode k_Talk_defend 48 = .ok (.ifCond .eq 42, 3) := by decide +kernel
theorem d_Talk_defend_51 : decode k_Talk_defend 51 = .ok (.aload_n 0, 1) := by decide +kernel
theorem d_Talk_defend_52 : decode k_Talk_defend 52 = .ok (.iload 7, 2) := by decide +kernel
theorem d_Talk_defend_54 : decode k_Talk_defend 54 = .ok (.iload 6, 2) := by decide +kernel
theorem d_Talk_defend_56 : decode k_Talk_defend 56 = .ok (.iconst 1, 1) := by decide +kernel
theorem d_Talk_defend_57 : decode k_Talk_defend 57 = .ok (.invokevirtual 39, 3) := by decide +kernel
theorem d_Talk_defend_60 : decode k_Talk_defend 60 = .ok (.istore 8, 2) := by decide +kernel
theorem d_Talk_defend_62 : decode k_Talk_defend 62 = .ok (.aload 4, 2) := by decide +kernel
theorem d_Talk_defend_64 : decode k_Talk_defend 64 = .ok (.aload_n 3, 1) := by decide +kernel
theorem d_Talk_defend_65 : decode k_Talk_defend 65 = .ok (.iload 7, 2) := by decide +kernel
theorem d_Talk_defend_67 : decode k_Talk_defend 67 = .ok (.invokevirtual 43, 3) := by decide +kernel
theorem d_Talk_defend_70 : decode k_Talk_defend 70 = .ok (.invokevirtual 52, 3) := by decide +kernel
theorem d_Talk_defend_73 : decode k_Talk_defend 73 = .ok (.istore 9, 2) := by decide +kernel
theorem d_Talk_defend_75 : decode k_Talk_defend 75 = .ok (.aload_n 0, 1) := by decide +kernel
theorem d_Talk_defend_76 : decode k_Talk_defend 76 = .ok (.iload 9, 2) := by decide +kernel
theorem d_Talk_defend_78 : decode k_Talk_defend 78 = .ok (.iload 8, 2) := by decide +kernel
theorem d_Talk_defend_80 : decode k_Talk_defend 80 = .ok (.aload_n 3, 1) := by decide +kernel
theorem d_Talk_defend_81 : decode k_Talk_defend 81 = .ok (.aload 4, 2) := by decide +kernel
theorem d_Talk_defend_83 : decode k_Talk_defend 83 = .ok (.iload 5, 2) := by decide +kernel
theorem d_Talk_defend_85 : decode k_Talk_defend 85 = .ok (.iconst 1, 1) := by decide +kernel
theorem d_Talk_defend_86 : decode k_Talk_defend 86 = .ok (.iadd, 1) := by decide +kernel
theorem d_Talk_defend_87 : decode k_Talk_defend 87 = .ok (.invokevirtual 35, 3) := by decide +kernel
theorem d_Talk_defend_90 : decode k_Talk_defend 90 = .ok (.iinc 7 1, 3) := by decide +kernel
theorem d_Talk_defend_93 : decode k_Talk_defend 93 = .ok (.goto (-69), 3) := by decide +kernel
theorem d_Talk_defend_96 : decode k_Talk_defend 96 = .ok (.return_, 1) := by decide +kernel
theorem d_Talk_say_0 : decode k_Talk_say 0 = .ok (.aload_n 0, 1) := by decide +kernel
theorem d_Talk_say_1 : decode k_Talk_say 1 = .ok (.getfield 21, 3) := by decide +kernel
theorem d_Talk_say_4 : decode k_Talk_say 4 = .ok (.sipush 500, 3) := by decide +kernel
theorem d_Talk_say_7 : decode k_Talk_say 7 = .ok (.if_icmp .lt 10, 3) := by decide +kernel
theorem d_Talk_say_10 : decode k_Talk_say 10 = .ok (.aload_n 0, 1) := by decide +kernel
theorem d_Talk_say_11 : decode k_Talk_say 11 = .ok (.iconst 1, 1) := by decide +kernel
theorem d_Talk_say_12 : decode k_Talk_say 12 = .ok (.putfield 25, 3) := by decide +kernel
theorem d_Talk_say_15 : decode k_Talk_say 15 = .ok (.iconst (-1), 1) := by decide +kernel
theorem d_Talk_say_16 : decode k_Talk_say 16 = .ok (.ireturn, 1) := by decide +kernel
theorem d_Talk_say_17 : decode k_Talk_say 17 = .ok (.aload_n 0, 1) := by decide +kernel
theorem d_Talk_say_18 : decode k_Talk_say 18 = .ok (.getfield 9, 3) := by decide +kernel
theorem d_Talk_say_21 : decode k_Talk_say 21 = .ok (.aload_n 0, 1) := by decide +kernel
theorem d_Talk_say_22 : decode k_Talk_say 22 = .ok (.getfield 21, 3) := by decide +kernel
theorem d_Talk_say_25 : decode k_Talk_say 25 = .ok (.iload_n 1, 1) := by decide +kernel
theorem d_Talk_say_26 : decode k_Talk_say 26 = .ok (.iastore, 1) := by decide +kernel
theorem d_Talk_say_27 : decode k_Talk_say 27 = .ok (.aload_n 0, 1) := by decide +kernel
theorem d_Talk_say_28 : decode k_Talk_say 28 = .ok (.getfield 15, 3) := by decide +kernel
theorem d_Talk_say_31 : decode k_Talk_say 31 = .ok (.aload_n 0, 1) := by decide +kernel
theorem d_Talk_say_32 : decode k_Talk_say 32 = .ok (.getfield 21, 3) := by decide +kernel
theorem d_Talk_say_35 : decode k_Talk_say 35 = .ok (.iload_n 2, 1) := by decide +kernel
theorem d_Talk_say_36 : decode k_Talk_say 36 = .ok (.iastore, 1) := by decide +kernel
theorem d_Talk_say_37 : decode k_Talk_say 37 = .ok (.aload_n 0, 1) := by decide +kernel
theorem d_Talk_say_38 : decode k_Talk_say 38 = .ok (.getfield 18, 3) := by decide +kernel
theorem d_Talk_say_41 : decode k_Talk_say 41 = .ok (.aload_n 0, 1) := by decide +kernel
theorem d_Talk_say_42 : decode k_Talk_say 42 = .ok (.getfield 21, 3) := by decide +kernel
theorem d_Talk_say_45 : decode k_Talk_say 45 = .ok (.iload_n 3, 1) := by decide +kernel
theorem d_Talk_say_46 : decode k_Talk_say 46 = .ok (.iastore, 1) := by decide +kernel
theorem d_Talk_say_47 : decode k_Talk_say 47 = .ok (.aload_n 0, 1) := by decide +kernel
theorem d_Talk_say_48 : decode k_Talk_say 48 = .ok (.dup, 1) := by decide +kernel
theorem d_Talk_say_49 : decode k_Talk_say 49 = .ok (.getfield 21, 3) := by decide +kernel
theorem d_Talk_say_52 : decode k_Talk_say 52 = .ok (.iconst 1, 1) := by decide +kernel
theorem d_Talk_say_53 : decode k_Talk_say 53 = .ok (.iadd, 1) := by decide +kernel
theorem d_Talk_say_54 : decode k_Talk_say 54 = .ok (.putfield 21, 3) := by decide +kernel
theorem d_Talk_say_57 : decode k_Talk_say 57 = .ok (.aload_n 0, 1) := by decide +kernel
theorem d_Talk_say_58 : decode k_Talk_say 58 = .ok (.getfield 21, 3) := by decide +kernel
theorem d_Talk_say_61 : decode k_Talk_say 61 = .ok (.iconst 1, 1) := by decide +kernel
theorem d_Talk_say_62 : decode k_Talk_say 62 = .ok (.isub, 1) := by decide +kernel
theorem d_Talk_say_63 : decode k_Talk_say 63 = .ok (.ireturn, 1) := by decide +kernel
theorem d_Grounds_earliestIn_0 : decode k_Grounds_earliestIn 0 = .ok (.iconst (-1), 1) := by decide +kernel
theorem d_Grounds_earliestIn_1 : decode k_Grounds_earliestIn 1 = .ok (.istore_n 2, 1) := by decide +kernel
theorem d_Grounds_earliestIn_2 : decode k_Grounds_earliestIn 2 = .ok (.iconst 0, 1) := by decide +kernel
theorem d_Grounds_earliestIn_3 : decode k_Grounds_earliestIn 3 = .ok (.istore_n 3, 1) := by decide +kernel
theorem d_Grounds_earliestIn_4 : decode k_Grounds_earliestIn 4 = .ok (.iload_n 3, 1) := by decide +kernel
theorem d_Grounds_earliestIn_5 : decode k_Grounds_earliestIn 5 = .ok (.bipush 12, 2) := by decide +kernel
theorem d_Grounds_earliestIn_7 : decode k_Grounds_earliestIn 7 = .ok (.if_icmp .ge 43, 3) := by decide +kernel
theorem d_Grounds_earliestIn_10 : decode k_Grounds_earliestIn 10 = .ok (.iload_n 3, 1) := by decide +kernel
theorem d_Grounds_earliestIn_11 : decode k_Grounds_earliestIn 11 = .ok (.iload_n 1, 1) := by decide +kernel
theorem d_Grounds_earliestIn_12 : decode k_Grounds_earliestIn 12 = .ok (.aload_n 0, 1) := by decide +kernel
theorem d_Grounds_earliestIn_13 : decode k_Grounds_earliestIn 13 = .ok (.getfield 15, 3) := by decide +kernel
theorem d_Grounds_earliestIn_16 : decode k_Grounds_earliestIn 16 = .ok (.iand, 1) := by decide +kernel
theorem d_Grounds_earliestIn_17 : decode k_Grounds_earliestIn 17 = .ok (.invokestatic 29, 3) := by decide +kernel
theorem d_Grounds_earliestIn_20 : decode k_Grounds_earliestIn 20 = .ok (.ifCond .eq 24, 3) := by decide +kernel
theorem d_Grounds_earliestIn_23 : decode k_Grounds_earliestIn 23 = .ok (.iload_n 2, 1) := by decide +kernel
theorem d_Grounds_earliestIn_24 : decode k_Grounds_earliestIn 24 = .ok (.iconst (-1), 1) := by decide +kernel
theorem d_Grounds_earliestIn_25 : decode k_Grounds_earliestIn 25 = .ok (.if_icmp .eq 17, 3) := by decide +kernel
theorem d_Grounds_earliestIn_28 : decode k_Grounds_earliestIn 28 = .ok (.aload_n 0, 1) := by decide +kernel
theorem d_Grounds_earliestIn_29 : decode k_Grounds_earliestIn 29 = .ok (.getfield 9, 3) := by decide +kernel
theorem d_Grounds_earliestIn_32 : decode k_Grounds_earliestIn 32 = .ok (.iload_n 3, 1) := by decide +kernel
theorem d_Grounds_earliestIn_33 : decode k_Grounds_earliestIn 33 = .ok (.iaload, 1) := by decide +kernel
theorem d_Grounds_earliestIn_34 : decode k_Grounds_earliestIn 34 = .ok (.aload_n 0, 1) := by decide +kernel
theorem d_Grounds_earliestIn_35 : decode k_Grounds_earliestIn 35 = .ok (.iload_n 2, 1) := by decide +kernel
theorem d_Grounds_earliestIn_36 : decode k_Grounds_earliestIn 36 = .ok (.invokevirtual 33, 3) := by decide +kernel
theorem d_Grounds_earliestIn_39 : decode k_Grounds_earliestIn 39 = .ok (.if_icmp .ge 5, 3) := by decide +kernel
theorem d_Grounds_earliestIn_42 : decode k_Grounds_earliestIn 42 = .ok (.iload_n 3, 1) := by decide +kernel
theorem d_Grounds_earliestIn_43 : decode k_Grounds_earliestIn 43 = .ok (.istore_n 2, 1) := by decide +kernel
theorem d_Grounds_earliestIn_44 : decode k_Grounds_earliestIn 44 = .ok (.iinc 3 1, 3) := by decide +kernel
theorem d_Grounds_earliestIn_47 : decode k_Grounds_earliestIn 47 = .ok (.goto (-43), 3) := by decide +kernel
theorem d_Grounds_earliestIn_50 : decode k_Grounds_earliestIn 50 = .ok (.iload_n 2, 1) := by decide +kernel
theorem d_Grounds_earliestIn_51 : decode k_Grounds_earliestIn 51 = .ok (.ireturn, 1) := by decide +kernel
