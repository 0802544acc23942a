theorem d_Mo_init_0 : decode k_Mo_init 0 = .ok (.aload_n 0, 1) := by decide +kernel
theorem d_Mo_init_1 : decode k_Mo_init 1 = .ok (.invokespecial 1, 3) := by decide +kernel
theorem d_Mo_init_4 : decode k_Mo_init 4 = .ok (.aload_n 0, 1) := by decide +kernel
theorem d_Mo_init_5 : decode k_Mo_init 5 = .ok (.bipush 12, 2) := by decide +kernel
theorem d_Mo_init_7 : decode k_Mo_init 7 = .ok (.newarray .int, 2) := by decide +kernel
theorem d_Mo_init_9 : decode k_Mo_init 9 = .ok (.putfield 7, 3) := by decide +kernel
theorem d_Mo_init_12 : decode k_Mo_init 12 = .ok (.aload_n 0, 1) := by decide +kernel
theorem d_Mo_init_13 : decode k_Mo_init 13 = .ok (.bipush 12, 2) := by decide +kernel
theorem d_Mo_init_15 : decode k_Mo_init 15 = .ok (.newarray .int, 2) := by decide +kernel
theorem d_Mo_init_17 : decode k_Mo_init 17 = .ok (.putfield 13, 3) := by decide +kernel
theorem d_Mo_init_20 : decode k_Mo_init 20 = .ok (.aload_n 0, 1) := by decide +kernel
theorem d_Mo_init_21 : decode k_Mo_init 21 = .ok (.sipush 4096, 3) := by decide +kernel
theorem d_Mo_init_24 : decode k_Mo_init 24 = .ok (.newarray .int, 2) := by decide +kernel
theorem d_Mo_init_26 : decode k_Mo_init 26 = .ok (.putfield 16, 3) := by decide +kernel
theorem d_Mo_init_29 : decode k_Mo_init 29 = .ok (.aload_n 0, 1) := by decide +kernel
theorem d_Mo_init_30 : decode k_Mo_init 30 = .ok (.sipush 4096, 3) := by decide +kernel
theorem d_Mo_init_33 : decode k_Mo_init 33 = .ok (.newarray .byte, 2) := by decide +kernel
theorem d_Mo_init_35 : decode k_Mo_init 35 = .ok (.putfield 19, 3) := by decide +kernel
theorem d_Mo_init_38 : decode k_Mo_init 38 = .ok (.aload_n 0, 1) := by decide +kernel
theorem d_Mo_init_39 : decode k_Mo_init 39 = .ok (.sipush 4096, 3) := by decide +kernel
theorem d_Mo_init_42 : decode k_Mo_init 42 = .ok (.newarray .boolean, 2) := by decide +kernel
theorem d_Mo_init_44 : decode k_Mo_init 44 = .ok (.putfield 23, 3) := by decide +kernel
theorem d_Mo_init_47 : decode k_Mo_init 47 = .ok (.aload_n 0, 1) := by decide +kernel
theorem d_Mo_init_48 : decode k_Mo_init 48 = .ok (.sipush 4096, 3) := by decide +kernel
theorem d_Mo_init_51 : decode k_Mo_init 51 = .ok (.newarray .boolean, 2) := by decide +kernel
theorem d_Mo_init_53 : decode k_Mo_init 53 = .ok (.putfield 27, 3) := by decide +kernel
theorem d_Mo_init_56 : decode k_Mo_init 56 = .ok (.aload_n 0, 1) := by decide +kernel
theorem d_Mo_init_57 : decode k_Mo_init 57 = .ok (.bipush 12, 2) := by decide +kernel
theorem d_Mo_init_59 : decode k_Mo_init 59 = .ok (.newarray .int, 2) := by decide +kernel
theorem d_Mo_init_61 : decode k_Mo_init 61 = .ok (.putfield 30, 3) := by decide +kernel
theorem d_Mo_init_64 : decode k_Mo_init 64 = .ok (.aload_n 0, 1) := by decide +kernel
theorem d_Mo_init_65 : decode k_Mo_init 65 = .ok (.sipush 500, 3) := by decide +kernel
theorem d_Mo_init_68 : decode k_Mo_init 68 = .ok (.newarray .int, 2) := by decide +kernel
theorem d_Mo_init_70 : decode k_Mo_init 70 = .ok (.putfield 33, 3) := by decide +kernel
theorem d_Mo_init_73 : decode k_Mo_init 73 = .ok (.aload_n 0, 1) := by decide +kernel
theorem d_Mo_init_74 : decode k_Mo_init 74 = .ok (.sipush 500, 3) := by decide +kernel
theorem d_Mo_init_77 : decode k_Mo_init 77 = .ok (.newarray .int, 2) := by decide +kernel
theorem d_Mo_init_79 : decode k_Mo_init 79 = .ok (.putfield 36, 3) := by decide +kernel
theorem d_Mo_init_82 : decode k_Mo_init 82 = .ok (.aload_n 0, 1) := by decide +kernel
theorem d_Mo_init_83 : decode k_Mo_init 83 = .ok (.sipush 500, 3) := by decide +kernel
theorem d_Mo_init_86 : decode k_Mo_init 86 = .ok (.newarray .int, 2) := by decide +kernel
theorem d_Mo_init_88 : decode k_Mo_init 88 = .ok (.putfield 39, 3) := by decide +kernel
theorem d_Mo_init_91 : decode k_Mo_init 91 = .ok (.aload_n 0, 1) := by decide +kernel
theorem d_Mo_init_92 : decode k_Mo_init 92 = .ok (.sipush 600, 3) := by decide +kernel
theorem d_Mo_init_95 : decode k_Mo_init 95 = .ok (.newarray .int, 2) := by decide +kernel
theorem d_Mo_init_97 : decode k_Mo_init 97 = .ok (.putfield 42, 3) := by decide +kernel
theorem d_Mo_init_100 : decode k_Mo_init 100 = .ok (.aload_n 0, 1) := by decide +kernel
theorem d_Mo_init_101 : decode k_Mo_init 101 = .ok (.sipush 600, 3) := by decide +kernel
theorem d_Mo_init_104 : decode k_Mo_init 104 = .ok (.newarray .int, 2) := by decide +kernel
theorem d_Mo_init_106 : decode k_Mo_init 106 = .ok (.putfield 45, 3) := by decide +kernel
theorem d_Mo_init_109 : decode k_Mo_init 109 = .ok (.aload_n 0, 1) := by decide +kernel
theorem d_Mo_init_110 : decode k_Mo_init 110 = .ok (.sipush 600, 3) := by decide +kernel
theorem d_Mo_init_113 : decode k_Mo_init 113 = .ok (.newarray .int, 2) := by decide +kernel
theorem d_Mo_init_115 : decode k_Mo_init 115 = .ok (.putfield 48, 3) := by decide +kernel
theorem d_Mo_init_118 : decode k_Mo_init 118 = .ok (.aload_n 0, 1) := by decide +kernel
theorem d_Mo_init_119 : decode k_Mo_init 119 = .ok (.bipush 12, 2) := by decide +kernel
theorem d_Mo_init_121 : decode k_Mo_init 121 = .ok (.newarray .int, 2) := by decide +kernel
theorem d_Mo_init_123 : decode k_Mo_init 123 = .ok (.putfield 51, 3) := by decide +kernel
theorem d_Mo_init_126 : decode k_Mo_init 126 = .ok (.aload_n 0, 1) := by decide +kernel
theorem d_Mo_init_127 : decode k_Mo_init 127 = .ok (.bipush 12, 2) := by decide +kernel
theorem d_Mo_init_129 : decode k_Mo_init 129 = .ok (.newarray .int, 2) := by decide +kernel
theorem d_Mo_init_131 : decode k_Mo_init 131 = .ok (.putfield 54, 3) := by decide +kernel
theorem d_Mo_init_134 : decode k_Mo_init 134 = .ok (.return_, 1) := by decide +kernel
theorem d_Mo_thrown_0 : decode k_Mo_thrown 0 = .ok (.aload_n 0, 1) := by decide +kernel
theorem d_Mo_thrown_1 : decode k_Mo_thrown 1 = .ok (.getfield 57, 3) := by decide +kernel
theorem d_Mo_thrown_4 : decode k_Mo_thrown 4 = .ok (.ireturn, 1) := by decide +kernel
theorem d_Mo_claim_0 : decode k_Mo_claim 0 = .ok (.aload_n 0, 1) := by decide +kernel
theorem d_Mo_claim_1 : decode k_Mo_claim 1 = .ok (.iconst 0, 1) := by decide +kernel
theorem d_Mo_claim_2 : decode k_Mo_claim 2 = .ok (.putfield 57, 3) := by decide +kernel
theorem d_Mo_claim_5 : decode k_Mo_claim 5 = .ok (.aload_n 0, 1) := by decide +kernel
theorem d_Mo_claim_6 : decode k_Mo_claim 6 = .ok (.getfield 61, 3) := by decide +kernel
theorem d_Mo_claim_9 : decode k_Mo_claim 9 = .ok (.bipush 12, 2) := by decide +kernel
theorem d_Mo_claim_11 : decode k_Mo_claim 11 = .ok (.if_icmp .ne 7, 3) := by decide +kernel
theorem d_Mo_claim_14 : decode k_Mo_claim 14 = .ok (.iconst (-1), 1) := by decide +kernel
theorem d_Mo_claim_15 : decode k_Mo_claim 15 = .ok (.goto 7, 3) := by decide +kernel
theorem d_Mo_claim_18 : decode k_Mo_claim 18 = .ok (.aload_n 0, 1) := by decide +kernel
theorem d_Mo_claim_19 : decode k_Mo_claim 19 = .ok (.invokevirtual 77, 3) := by decide +kernel
theorem d_Mo_claim_22 : decode k_Mo_claim 22 = .ok (.ireturn, 1) := by decide +kernel
theorem d_Mo_comes_0 : decode k_Mo_comes 0 = .ok (.aload_n 0, 1) := by decide +kernel
theorem d_Mo_comes_1 : decode k_Mo_comes 1 = .ok (.getfield 7, 3) := by decide +kernel
theorem d_Mo_comes_4 : decode k_Mo_comes 4 = .ok (.aload_n 0, 1) := by decide +kernel
theorem d_Mo_comes_5 : decode k_Mo_comes 5 = .ok (.getfield 61, 3) := by decide +kernel
theorem d_Mo_comes_8 : decode k_Mo_comes 8 = .ok (.iconst 0, 1) := by decide +kernel
theorem d_Mo_comes_9 : decode k_Mo_comes 9 = .ok (.iastore, 1) := by decide +kernel
theorem d_Mo_comes_10 : decode k_Mo_comes 10 = .ok (.aload_n 0, 1) := by decide +kernel
theorem d_Mo_comes_11 : decode k_Mo_comes 11 = .ok (.getfield 13, 3) := by decide +kernel
theorem d_Mo_comes_14 : decode k_Mo_comes 14 = .ok (.aload_n 0, 1) := by decide +kernel
theorem d_Mo_comes_15 : decode k_Mo_comes 15 = .ok (.getfield 61, 3) := by decide +kernel
theorem d_Mo_comes_18 : decode k_Mo_comes 18 = .ok (.iconst 0, 1) := by decide +kernel
theorem d_Mo_comes_19 : decode k_Mo_comes 19 = .ok (.iastore, 1) := by decide +kernel
theorem d_Mo_comes_20 : decode k_Mo_comes 20 = .ok (.aload_n 0, 1) := by decide +kernel
theorem d_Mo_comes_21 : decode k_Mo_comes 21 = .ok (.dup, 1) := by decide +kernel
theorem d_Mo_comes_22 : decode k_Mo_comes 22 = .ok (.getfield 61, 3) := by decide +kernel
theorem d_Mo_comes_25 : decode k_Mo_comes 25 = .ok (.iconst 1, 1) := by decide +kernel
theorem d_Mo_comes_26 : decode k_Mo_comes 26 = .ok (.iadd, 1) := by decide +kernel
theorem d_Mo_comes_27 : decode k_Mo_comes 27 = .ok (.putfield 61, 3) := by decide +kernel
theorem d_Mo_comes_30 : decode k_Mo_comes 30 = .ok (.aload_n 0, 1) := by decide +kernel
theorem d_Mo_comes_31 : decode k_Mo_comes 31 = .ok (.invokevirtual 64, 3) := by decide +kernel
theorem d_Mo_comes_34 : decode k_Mo_comes 34 = .ok (.aload_n 0, 1) := by decide +kernel
theorem d_Mo_comes_35 : decode k_Mo_comes 35 = .ok (.getfield 61, 3) := by decide +kernel
theorem d_Mo_comes_38 : decode k_Mo_comes 38 = .ok (.iconst 1, 1) := by decide +kernel
theorem d_Mo_comes_39 : decode k_Mo_comes 39 = .ok (.isub, 1) := by decide +kernel
theorem d_Mo_comes_40 : decode k_Mo_comes 40 = .ok (.ireturn, 1) := by decide +kernel
theorem d_Mo_changes_0 : decode k_Mo_changes 0 = .ok (.aload_n 0, 1) := by decide +kernel
theorem d_Mo_changes_1 : decode k_Mo_changes 1 = .ok (.iconst 0, 1) := by decide +kernel
theorem d_Mo_changes_2 : decode k_Mo_changes 2 = .ok (.putfield 67, 3) := by decide +kernel
theorem d_Mo_changes_5 : decode k_Mo_changes 5 = .ok (.aload_n 0, 1) := by decide +kernel
theorem d_Mo_changes_6 : decode k_Mo_changes 6 = .ok (.iconst 0, 1) := by decide +kernel
theorem d_Mo_changes_7 : decode k_Mo_changes 7 = .ok (.putfield 71, 3) := by decide +kernel
theorem d_Mo_changes_10 : decode k_Mo_changes 10 = .ok (.aload_n 0, 1) := by decide +kernel
theorem d_Mo_changes_11 : decode k_Mo_changes 11 = .ok (.iconst 0, 1) := by decide +kernel
theorem d_Mo_changes_12 : decode k_Mo_changes 12 = .ok (.putfield 74, 3) := by decide +kernel
theorem d_Mo_changes_15 : decode k_Mo_changes 15 = .ok (.return_, 1) := by decide +kernel
theorem d_Mo_attack_0 : decode k_Mo_attack 0 = .ok (.aload_n 0, 1) := by decide +kernel
theorem d_Mo_attack_1 : decode k_Mo_attack 1 = .ok (.iconst 0, 1) := by decide +kernel
theorem d_Mo_attack_2 : decode k_Mo_attack 2 = .ok (.putfield 57, 3) := by decide +kernel
theorem d_Mo_attack_5 : decode k_Mo_attack 5 = .ok (.aload_n 0, 1) := by decide +kernel
theorem d_Mo_attack_6 : decode k_Mo_attack 6 = .ok (.iload_n 1, 1) := by decide +kernel
theorem d_Mo_attack_7 : decode k_Mo_attack 7 = .ok (.invokevirtual 81, 3) := by decide +kernel
theorem d_Mo_attack_10 : decode k_Mo_attack 10 = .ok (.ifCond .eq 11, 3) := by decide +kernel
theorem d_Mo_attack_13 : decode k_Mo_attack 13 = .ok (.aload_n 0, 1) := by decide +kernel
theorem d_Mo_attack_14 : decode k_Mo_attack 14 = .ok (.iload_n 2, 1) := by decide +kernel
theorem d_Mo_attack_15 : decode k_Mo_attack 15 = .ok (.invokevirtual 81, 3) := by decide +kernel
theorem d_Mo_attack_18 : decode k_Mo_attack 18 = .ok (.ifCond .ne 5, 3) := by decide +kernel
theorem d_Mo_attack_21 : decode k_Mo_attack 21 = .ok (.iconst 0, 1) := by decide +kernel
theorem d_Mo_attack_22 : decode k_Mo_attack 22 = .ok (.ireturn, 1) := by decide +kernel
theorem d_Mo_attack_23 : decode k_Mo_attack 23 = .ok (.aload_n 0, 1) := by decide +kernel
theorem d_Mo_attack_24 : decode k_Mo_attack 24 = .ok (.iload_n 1, 1) := by decide +kernel
theorem d_Mo_attack_25 : decode k_Mo_attack 25 = .ok (.iload_n 2, 1) := by decide +kernel
theorem d_Mo_attack_26 : decode k_Mo_attack 26 = .ok (.iload_n 3, 1) := by decide +kernel
theorem d_Mo_attack_27 : decode k_Mo_attack 27 = .ok (.invokevirtual 85, 3) := by decide +kernel
theorem d_Mo_attack_30 : decode k_Mo_attack 30 = .ok (.iconst 1, 1) := by decide +kernel
theorem d_Mo_attack_31 : decode k_Mo_attack 31 = .ok (.ireturn, 1) := by decide +kernel
theorem d_Mo_isArgument_0 : decode k_Mo_isArgument 0 = .ok (.iload_n 1, 1) := by decide +kernel
theorem d_Mo_isArgument_1 : decode k_Mo_isArgument 1 = .ok (.ifCond .lt 15, 3) := by decide +kernel
theorem d_Mo_isArgument_4 : decode k_Mo_isArgument 4 = .ok (.iload_n 1, 1) := by decide +kernel
theorem d_Mo_isArgument_5 : decode k_Mo_isArgument 5 = .ok (.aload_n 0, 1) := by decide +kernel
theorem d_Mo_isArgument_6 : decode k_Mo_isArgument 6 = .ok (.getfield 61, 3) := by decide +kernel
theorem d_Mo_isArgument_9 : decode k_Mo_isArgument 9 = .ok (.if_icmp .ge 7, 3) := by decide +kernel
theorem d_Mo_isArgument_12 : decode k_Mo_isArgument 12 = .ok (.iconst 1, 1) := by decide +kernel
theorem d_Mo_isArgument_13 : decode k_Mo_isArgument 13 = .ok (.goto 4, 3) := by decide +kernel
theorem d_Mo_isArgument_16 : decode k_Mo_isArgument 16 = .ok (.iconst 0, 1) := by decide +kernel
theorem d_Mo_isArgument_17 : decode k_Mo_isArgument 17 = .ok (.ireturn, 1) := by decide +kernel
theorem d_Mo_sets_0 : decode k_Mo_sets 0 = .ok (.aload_n 0, 1) := by decide +kernel
theorem d_Mo_sets_1 : decode k_Mo_sets 1 = .ok (.getfield 7, 3) := by decide +kernel
theorem d_Mo_sets_4 : decode k_Mo_sets 4 = .ok (.iload_n 1, 1) := by decide +kernel
theorem d_Mo_sets_5 : decode k_Mo_sets 5 = .ok (.iaload, 1) := by decide +kernel
theorem d_Mo_sets_6 : decode k_Mo_sets 6 = .ok (.iload_n 2, 1) := by decide +kernel
theorem d_Mo_sets_7 : decode k_Mo_sets 7 = .ok (.ishr, 1) := by decide +kernel
theorem d_Mo_sets_8 : decode k_Mo_sets 8 = .ok (.iconst 1, 1) := by decide +kernel
theorem d_Mo_sets_9 : decode k_Mo_sets 9 = .ok (.iand, 1) := by decide +kernel
theorem d_Mo_sets_10 : decode k_Mo_sets 10 = .ok (.iload_n 3, 1) := by decide +kernel
theorem d_Mo_sets_11 : decode k_Mo_sets 11 = .ok (.ifCond .eq 7, 3) := by decide +kernel
theorem d_Mo_sets_14 : decode k_Mo_sets 14 = .ok (.iconst 1, 1) := by decide +kernel
theorem d_Mo_sets_15 : decode k_Mo_sets 15 = .ok (.goto 4, 3) := by decide +kernel
theorem d_Mo_sets_18 : decode k_Mo_sets 18 = .ok (.iconst 0, 1) := by decide +kernel
theorem d_Mo_sets_19 : decode k_Mo_sets 19 = .ok (.if_icmp .ne 4, 3) := by decide +kernel
theorem d_Mo_sets_22 : decode k_Mo_sets 22 = .ok (.return_, 1) := by decide +kernel
theorem d_Mo_sets_23 : decode k_Mo_sets 23 = .ok (.aload_n 0, 1) := by decide +kernel
theorem d_Mo_sets_24 : decode k_Mo_sets 24 = .ok (.getfield 7, 3) := by decide +kernel
theorem d_Mo_sets_27 : decode k_Mo_sets 27 = .ok (.iload_n 1, 1) := by decide +kernel
theorem d_Mo_sets_28 : decode k_Mo_sets 28 = .ok (.aload_n 0, 1) := by decide +kernel
theorem d_Mo_sets_29 : decode k_Mo_sets 29 = .ok (.getfield 7, 3) := by decide +kernel
theorem d_Mo_sets_32 : decode k_Mo_sets 32 = .ok (.iload_n 1, 1) := by decide +kernel
theorem d_Mo_sets_33 : decode k_Mo_sets 33 = .ok (.iaload, 1) := by decide +kernel
theorem d_Mo_sets_34 : decode k_Mo_sets 34 = .ok (.iconst 1, 1) := by decide +kernel
theorem d_Mo_sets_35 : decode k_Mo_sets 35 = .ok (.iload_n 2, 1) := by decide +kernel
theorem d_Mo_sets_36 : decode k_Mo_sets 36 = .ok (.ishl, 1) := by decide +kernel
theorem d_Mo_sets_37 : decode k_Mo_sets 37 = .ok (.ixor, 1) := by decide +kernel
theorem d_Mo_sets_38 : decode k_Mo_sets 38 = .ok (.iastore, 1) := by decide +kernel
theorem d_Mo_sets_39 : decode k_Mo_sets 39 = .ok (.aload_n 0, 1) := by decide +kernel
theorem d_Mo_sets_40 : decode k_Mo_sets 40 = .ok (.getfield 13, 3) := by decide +kernel
theorem d_Mo_sets_43 : decode k_Mo_sets 43 = .ok (.iload_n 2, 1) := by decide +kernel
theorem d_Mo_sets_44 : decode k_Mo_sets 44 = .ok (.aload_n 0, 1) := by decide +kernel
theorem d_Mo_sets_45 : decode k_Mo_sets 45 = .ok (.getfield 13, 3) := by decide +kernel
theorem d_Mo_sets_48 : decode k_Mo_sets 48 = .ok (.iload_n 2, 1) := by decide +kernel
theorem d_Mo_sets_49 : decode k_Mo_sets 49 = .ok (.iaload, 1) := by decide +kernel
theorem d_Mo_sets_50 : decode k_Mo_sets 50 = .ok (.iconst 1, 1) := by decide +kernel
theorem d_Mo_sets_51 : decode k_Mo_sets 51 = .ok (.iload_n 1, 1) := by decide +kernel
theorem d_Mo_sets_52 : decode k_Mo_sets 52 = .ok (.ishl, 1) := by decide +kernel
theorem d_Mo_sets_53 : decode k_Mo_sets 53 = .ok (.ixor, 1) := by decide +kernel
theorem d_Mo_sets_54 : decode k_Mo_sets 54 = .ok (.iastore, 1) := by decide +kernel
theorem d_Mo_sets_55 : decode k_Mo_sets 55 = .ok (.aload_n 0, 1) := by decide +kernel
theorem d_Mo_sets_56 : decode k_Mo_sets 56 = .ok (.invokevirtual 64, 3) := by decide +kernel
theorem d_Mo_sets_59 : decode k_Mo_sets 59 = .ok (.return_, 1) := by decide +kernel
theorem d_Mo_attacks_0 : decode k_Mo_attacks 0 = .ok (.aload_n 0, 1) := by decide +kernel
theorem d_Mo_attacks_1 : decode k_Mo_attacks 1 = .ok (.iconst 0, 1) := by decide +kernel
theorem d_Mo_attacks_2 : decode k_Mo_attacks 2 = .ok (.putfield 57, 3) := by decide +kernel
theorem d_Mo_attacks_5 : decode k_Mo_attacks 5 = .ok (.aload_n 0, 1) := by decide +kernel
theorem d_Mo_attacks_6 : decode k_Mo_attacks 6 = .ok (.iload_n 1, 1) := by decide +kernel
theorem d_Mo_attacks_7 : decode k_Mo_attacks 7 = .ok (.invokevirtual 81, 3) := by decide +kernel
theorem d_Mo_attacks_10 : decode k_Mo_attacks 10 = .ok (.ifCond .eq 29, 3) := by decide +kernel
theorem d_Mo_attacks_13 : decode k_Mo_attacks 13 = .ok (.aload_n 0, 1) := by decide +kernel
theorem d_Mo_attacks_14 : decode k_Mo_attacks 14 = .ok (.iload_n 2, 1) := by decide +kernel
theorem d_Mo_attacks_15 : decode k_Mo_attacks 15 = .ok (.invokevirtual 81, 3) := by decide +kernel
theorem d_Mo_attacks_18 : decode k_Mo_attacks 18 = .ok (.ifCond .eq 21, 3) := by decide +kernel
theorem d_Mo_attacks_21 : decode k_Mo_attacks 21 = .ok (.aload_n 0, 1) := by decide +kernel
theorem d_Mo_attacks_22 : decode k_Mo_attacks 22 = .ok (.getfield 7, 3) := by decide +kernel
theorem d_Mo_attacks_25 : decode k_Mo_attacks 25 = .ok (.iload_n 1, 1) := by decide +kernel
theorem d_Mo_attacks_26 : decode k_Mo_attacks 26 = .ok (.iaload, 1) := by decide +kernel
theorem d_Mo_attacks_27 : decode k_Mo_attacks 27 = .ok (.iload_n 2, 1) := by decide +kernel
theorem d_Mo_attacks_28 : decode k_Mo_attacks 28 = .ok (.ishr, 1) := by decide +kernel
theorem d_Mo_attacks_29 : decode k_Mo_attacks 29 = .ok (.iconst 1, 1) := by decide +kernel
theorem d_Mo_attacks_30 : decode k_Mo_attacks 30 = .ok (.iand, 1) := by decide +kernel
theorem d_Mo_attacks_31 : decode k_Mo_attacks 31 = .ok (.iconst 1, 1) := by decide +kernel
theorem d_Mo_attacks_32 : decode k_Mo_attacks 32 = .ok (.if_icmp .ne 7, 3) := by decide +kernel
theorem d_Mo_attacks_35 : decode k_Mo_attacks 35 = .ok (.iconst 1, 1) := by decide +kernel
theorem d_Mo_attacks_36 : decode k_Mo_attacks 36 = .ok (.goto 4, 3) := by decide +kernel
theorem d_Mo_attacks_39 : decode k_Mo_attacks 39 = .ok (.iconst 0, 1) := by decide +kernel
theorem d_Mo_attacks_40 : decode k_Mo_attacks 40 = .ok (.ireturn, 1) := by decide +kernel
theorem d_Mo_joint_0 : decode k_Mo_joint 0 = .ok (.aload_n 0, 1) := by decide +kernel
theorem d_Mo_joint_1 : decode k_Mo_joint 1 = .ok (.iconst 0, 1) := by decide +kernel
theorem d_Mo_joint_2 : decode k_Mo_joint 2 = .ok (.putfield 57, 3) := by decide +kernel
theorem d_Mo_joint_5 : decode k_Mo_joint 5 = .ok (.aload_n 0, 1) := by decide +kernel
theorem d_Mo_joint_6 : decode k_Mo_joint 6 = .ok (.iload_n 1, 1) := by decide +kernel
theorem d_Mo_joint_7 : decode k_Mo_joint 7 = .ok (.invokevirtual 81, 3) := by decide +kernel
theorem d_Mo_joint_10 : decode k_Mo_joint 10 = .ok (.ifCond .eq 28, 3) := by decide +kernel
theorem d_Mo_joint_13 : decode k_Mo_joint 13 = .ok (.aload_n 0, 1) := by decide +kernel
theorem d_Mo_joint_14 : decode k_Mo_joint 14 = .ok (.iload_n 2, 1) := by decide +kernel
theorem d_Mo_joint_15 : decode k_Mo_joint 15 = .ok (.invokevirtual 81, 3) := by decide +kernel
theorem d_Mo_joint_18 : decode k_Mo_joint 18 = .ok (.ifCond .eq 20, 3) := by decide +kernel
theorem d_Mo_joint_21 : decode k_Mo_joint 21 = .ok (.aload_n 0, 1) := by decide +kernel
theorem d_Mo_joint_22 : decode k_Mo_joint 22 = .ok (.iload_n 3, 1) := by decide +kernel
theorem d_Mo_joint_23 : decode k_Mo_joint 23 = .ok (.invokevirtual 81, 3) := by decide +kernel
theorem d_Mo_joint_26 : decode k_Mo_joint 26 = .ok (.ifCond .eq 12, 3) := by decide +kernel
theorem d_Mo_joint_29 : decode k_Mo_joint 29 = .ok (.aload_n 0, 1) := by decide +kernel
theorem d_Mo_joint_30 : decode k_Mo_joint 30 = .ok (.getfield 61, 3) := by decide +kernel
theorem d_Mo_joint_33 : decode k_Mo_joint 33 = .ok (.bipush 9, 2) := by decide +kernel
theorem d_Mo_joint_35 : decode k_Mo_joint 35 = .ok (.if_icmp .le 5, 3) := by decide +kernel
theorem d_Mo_joint_38 : decode k_Mo_joint 38 = .ok (.iconst (-1), 1) := by decide +kernel
theorem d_Mo_joint_39 : decode k_Mo_joint 39 = .ok (.ireturn, 1) := by decide +kernel
theorem d_Mo_joint_40 : decode k_Mo_joint 40 = .ok (.aload_n 0, 1) := by decide +kernel
theorem d_Mo_joint_41 : decode k_Mo_joint 41 = .ok (.invokevirtual 77, 3) := by decide +kernel
theorem d_Mo_joint_44 : decode k_Mo_joint 44 = .ok (.istore 4, 2) := by decide +kernel
theorem d_Mo_joint_46 : decode k_Mo_joint 46 = .ok (.aload_n 0, 1) := by decide +kernel
theorem d_Mo_joint_47 : decode k_Mo_joint 47 = .ok (.invokevirtual 77, 3) := by decide +kernel
theorem d_Mo_joint_50 : decode k_Mo_joint 50 = .ok (.istore 5, 2) := by decide +kernel
theorem d_Mo_joint_52 : decode k_Mo_joint 52 = .ok (.aload_n 0, 1) := by decide +kernel
theorem d_Mo_joint_53 : decode k_Mo_joint 53 = .ok (.invokevirtual 77, 3) := by decide +kernel
theorem d_Mo_joint_56 : decode k_Mo_joint 56 = .ok (.istore 6, 2) := by decide +kernel
theorem d_Mo_joint_58 : decode k_Mo_joint 58 = .ok (.aload_n 0, 1) := by decide +kernel
theorem d_Mo_joint_59 : decode k_Mo_joint 59 = .ok (.iload_n 1, 1) := by decide +kernel
theorem d_Mo_joint_60 : decode k_Mo_joint 60 = .ok (.iload 4, 2) := by decide +kernel
theorem d_Mo_joint_62 : decode k_Mo_joint 62 = .ok (.iconst 1, 1) := by decide +kernel
theorem d_Mo_joint_63 : decode k_Mo_joint 63 = .ok (.invokevirtual 85, 3) := by decide +kernel
theorem d_Mo_joint_66 : decode k_Mo_joint 66 = .ok (.aload_n 0, 1) := by decide +kernel
theorem d_Mo_joint_67 : decode k_Mo_joint 67 = .ok (.iload_n 2, 1) := by decide +kernel
theorem d_Mo_joint_68 : decode k_Mo_joint 68 = .ok (.iload 5, 2) := by decide +kernel
theorem d_Mo_joint_70 : decode k_Mo_joint 70 = .ok (.iconst 1, 1) := by decide +kernel
theorem d_Mo_joint_71 : decode k_Mo_joint 71 = .ok (.invokevirtual 85, 3) := by decide +kernel
theorem d_Mo_joint_74 : decode k_Mo_joint 74 = .ok (.aload_n 0, 1) := by decide +kernel
theorem d_Mo_joint_75 : decode k_Mo_joint 75 = .ok (.iload 4, 2) := by decide +kernel
theorem d_Mo_joint_77 : decode k_Mo_joint 77 = .ok (.iload 6, 2) := by decide +kernel
theorem d_Mo_joint_79 : decode k_Mo_joint 79 = .ok (.iconst 1, 1) := by decide +kernel
theorem d_Mo_joint_80 : decode k_Mo_joint 80 = .ok (.invokevirtual 85, 3) := by decide +kernel
theorem d_Mo_joint_83 : decode k_Mo_joint 83 = .ok (.aload_n 0, 1) := by decide +kernel
theorem d_Mo_joint_84 : decode k_Mo_joint 84 = .ok (.iload 5, 2) := by decide +kernel
theorem d_Mo_joint_86 : decode k_Mo_joint 86 = .ok (.iload 6, 2) := by decide +kernel
theorem d_Mo_joint_88 : decode k_Mo_joint 88 = .ok (.iconst 1, 1) := by decide +kernel
theorem d_Mo_joint_89 : decode k_Mo_joint 89 = .ok (.invokevirtual 85, 3) := by decide +kernel
theorem d_Mo_joint_92 : decode k_Mo_joint 92 = .ok (.aload_n 0, 1) := by decide +kernel
theorem d_Mo_joint_93 : decode k_Mo_joint 93 = .ok (.iload 6, 2) := by decide +kernel
theorem d_Mo_joint_95 : decode k_Mo_joint 95 = .ok (.iload_n 3, 1) := by decide +kernel
theorem d_Mo_joint_96 : decode k_Mo_joint 96 = .ok (.iconst 1, 1) := by decide +kernel
theorem d_Mo_joint_97 : decode k_Mo_joint 97 = .ok (.invokevirtual 85, 3) := by decide +kernel
theorem d_Mo_joint_100 : decode k_Mo_joint 100 = .ok (.iload 4, 2) := by decide +kernel
theorem d_Mo_joint_102 : decode k_Mo_joint 102 = .ok (.ireturn, 1) := by decide +kernel
theorem d_Mo_support_0 : decode k_Mo_support 0 = .ok (.aload_n 0, 1) := by decide +kernel
theorem d_Mo_support_1 : decode k_Mo_support 1 = .ok (.iconst 0, 1) := by decide +kernel
theorem d_Mo_support_2 : decode k_Mo_support 2 = .ok (.putfield 57, 3) := by decide +kernel
theorem d_Mo_support_5 : decode k_Mo_support 5 = .ok (.aload_n 0, 1) := by decide +kernel
theorem d_Mo_support_6 : decode k_Mo_support 6 = .ok (.iload_n 1, 1) := by decide +kernel
theorem d_Mo_support_7 : decode k_Mo_support 7 = .ok (.invokevirtual 81, 3) := by decide +kernel
theorem d_Mo_support_10 : decode k_Mo_support 10 = .ok (.ifCond .eq 20, 3) := by decide +kernel
theorem d_Mo_support_13 : decode k_Mo_support 13 = .ok (.aload_n 0, 1) := by decide +kernel
theorem d_Mo_support_14 : decode k_Mo_support 14 = .ok (.iload_n 2, 1) := by decide +kernel
theorem d_Mo_support_15 : decode k_Mo_support 15 = .ok (.invokevirtual 81, 3) := by decide +kernel
theorem d_Mo_support_18 : decode k_Mo_support 18 = .ok (.ifCond .eq 12, 3) := by decide +kernel
theorem d_Mo_support_21 : decode k_Mo_support 21 = .ok (.aload_n 0, 1) := by decide +kernel
theorem d_Mo_support_22 : decode k_Mo_support 22 = .ok (.getfield 61, 3) := by decide +kernel
theorem d_Mo_support_25 : decode k_Mo_support 25 = .ok (.bipush 12, 2) := by decide +kernel
theorem d_Mo_support_27 : decode k_Mo_support 27 = .ok (.if_icmp .ne 5, 3) := by decide +kernel
theorem d_Mo_support_30 : decode k_Mo_support 30 = .ok (.iconst (-1), 1) := by decide +kernel
theorem d_Mo_support_31 : decode k_Mo_support 31 = .ok (.ireturn, 1) := by decide +kernel
theorem d_Mo_support_32 : decode k_Mo_support 32 = .ok (.aload_n 0, 1) := by decide +kernel
theorem d_Mo_support_33 : decode k_Mo_support 33 = .ok (.invokevirtual 77, 3) := by decide +kernel
theorem d_Mo_support_36 : decode k_Mo_support 36 = .ok (.istore_n 3, 1) := by decide +kernel
theorem d_Mo_support_37 : decode k_Mo_support 37 = .ok (.aload_n 0, 1) := by decide +kernel
theorem d_Mo_support_38 : decode k_Mo_support 38 = .ok (.iload_n 1, 1) := by decide +kernel
theorem d_Mo_support_39 : decode k_Mo_support 39 = .ok (.iload_n 3, 1) := by decide +kernel
theorem d_Mo_support_40 : decode k_Mo_support 40 = .ok (.iconst 1, 1) := by decide +kernel
theorem d_Mo_support_41 : decode k_Mo_support 41 = .ok (.invokevirtual 85, 3) := by decide +kernel
theorem d_Mo_support_44 : decode k_Mo_support 44 = .ok (.aload_n 0, 1) := by decide +kernel
theorem d_Mo_support_45 : decode k_Mo_support 45 = .ok (.iload_n 3, 1) := by decide +kernel
theorem d_Mo_support_46 : decode k_Mo_support 46 = .ok (.iload_n 2, 1) := by decide +kernel
theorem d_Mo_support_47 : decode k_Mo_support 47 = .ok (.iconst 1, 1) := by decide +kernel
theorem d_Mo_support_48 : decode k_Mo_support 48 = .ok (.invokevirtual 85, 3) := by decide +kernel
theorem d_Mo_support_51 : decode k_Mo_support 51 = .ok (.iload_n 3, 1) := by decide +kernel
theorem d_Mo_support_52 : decode k_Mo_support 52 = .ok (.ireturn, 1) := by decide +kernel
theorem d_Mo_arguments_0 : decode k_Mo_arguments 0 = .ok (.aload_n 0, 1) := by decide +kernel
theorem d_Mo_arguments_1 : decode k_Mo_arguments 1 = .ok (.iconst 0, 1) := by decide +kernel
theorem d_Mo_arguments_2 : decode k_Mo_arguments 2 = .ok (.putfield 57, 3) := by decide +kernel
theorem d_Mo_arguments_5 : decode k_Mo_arguments 5 = .ok (.aload_n 0, 1) := by decide +kernel
theorem d_Mo_arguments_6 : decode k_Mo_arguments 6 = .ok (.getfield 61, 3) := by decide +kernel
theorem d_Mo_arguments_9 : decode k_Mo_arguments 9 = .ok (.ireturn, 1) := by decide +kernel
theorem d_Mo_isFree_0 : decode k_Mo_isFree 0 = .ok (.aload_n 0, 1) := by decide +kernel
theorem d_Mo_isFree_1 : decode k_Mo_isFree 1 = .ok (.iconst 0, 1) := by decide +kernel
theorem d_Mo_isFree_2 : decode k_Mo_isFree 2 = .ok (.putfield 57, 3) := by decide +kernel
theorem d_Mo_isFree_5 : decode k_Mo_isFree 5 = .ok (.aload_n 0, 1) := by decide +kernel
theorem d_Mo_isFree_6 : decode k_Mo_isFree 6 = .ok (.invokevirtual 109, 3) := by decide +kernel
theorem d_Mo_isFree_9 : decode k_Mo_isFree 9 = .ok (.aload_n 0, 1) := by decide +kernel
theorem d_Mo_isFree_10 : decode k_Mo_isFree 10 = .ok (.iload_n 1, 1) := by decide +kernel
theorem d_Mo_isFree_11 : decode k_Mo_isFree 11 = .ok (.invokevirtual 112, 3) := by decide +kernel
theorem d_Mo_isFree_14 : decode k_Mo_isFree 14 = .ok (.ifCond .eq 15, 3) := by decide +kernel
theorem d_Mo_isFree_17 : decode k_Mo_isFree 17 = .ok (.aload_n 0, 1) := by decide +kernel
theorem d_Mo_isFree_18 : decode k_Mo_isFree 18 = .ok (.iload_n 1, 1) := by decide +kernel
theorem d_Mo_isFree_19 : decode k_Mo_isFree 19 = .ok (.invokevirtual 93, 3) := by decide +kernel
theorem d_Mo_isFree_22 : decode k_Mo_isFree 22 = .ok (.ifCond .eq 7, 3) := by decide +kernel
theorem d_Mo_isFree_25 : decode k_Mo_isFree 25 = .ok (.iconst 1, 1) := by decide +kernel
theorem d_Mo_isFree_26 : decode k_Mo_isFree 26 = .ok (.goto 4, 3) := by decide +kernel
theorem d_Mo_isFree_29 : decode k_Mo_isFree 29 = .ok (.iconst 0, 1) := by decide +kernel
theorem d_Mo_isFree_30 : decode k_Mo_isFree 30 = .ok (.ireturn, 1) := by decide +kernel
theorem d_Mo_reckon_0 : decode k_Mo_reckon 0 = .ok (.aload_n 0, 1) := by decide +kernel
theorem d_Mo_reckon_1 : decode k_Mo_reckon 1 = .ok (.getfield 67, 3) := by decide +kernel
theorem d_Mo_reckon_4 : decode k_Mo_reckon 4 = .ok (.ifCond .eq 4, 3) := by decide +kernel
theorem d_Mo_reckon_7 : decode k_Mo_reckon 7 = .ok (.return_, 1) := by decide +kernel
theorem d_Mo_reckon_8 : decode k_Mo_reckon 8 = .ok (.aload_n 0, 1) := by decide +kernel
theorem d_Mo_reckon_9 : decode k_Mo_reckon 9 = .ok (.iconst 1, 1) := by decide +kernel
theorem d_Mo_reckon_10 : decode k_Mo_reckon 10 = .ok (.putfield 67, 3) := by decide +kernel
theorem d_Mo_reckon_13 : decode k_Mo_reckon 13 = .ok (.iconst 1, 1) := by decide +kernel
theorem d_Mo_reckon_14 : decode k_Mo_reckon 14 = .ok (.aload_n 0, 1) := by decide +kernel
theorem d_Mo_reckon_15 : decode k_Mo_reckon 15 = .ok (.getfield 61, 3) := by decide +kernel
theorem d_Mo_reckon_18 : decode k_Mo_reckon 18 = .ok (.ishl, 1) := by decide +kernel
theorem d_Mo_reckon_19 : decode k_Mo_reckon 19 = .ok (.iconst 1, 1) := by decide +kernel
theorem d_Mo_reckon_20 : decode k_Mo_reckon 20 = .ok (.isub, 1) := by decide +kernel
theorem d_Mo_reckon_21 : decode k_Mo_reckon 21 = .ok (.istore_n 1, 1) := by decide +kernel
theorem d_Mo_reckon_22 : decode k_Mo_reckon 22 = .ok (.iconst 0, 1) := by decide +kernel
theorem d_Mo_reckon_23 : decode k_Mo_reckon 23 = .ok (.istore_n 2, 1) := by decide +kernel
theorem d_Mo_reckon_24 : decode k_Mo_reckon 24 = .ok (.iload_n 2, 1) := by decide +kernel
theorem d_Mo_reckon_25 : decode k_Mo_reckon 25 = .ok (.iload_n 1, 1) := by decide +kernel
theorem d_Mo_reckon_26 : decode k_Mo_reckon 26 = .ok (.if_icmp .gt 175, 3) := by decide +kernel
theorem d_Mo_reckon_29 : decode k_Mo_reckon 29 = .ok (.aload_n 0, 1) := by decide +kernel
theorem d_Mo_reckon_30 : decode k_Mo_reckon 30 = .ok (.getfield 16, 3) := by decide +kernel
theorem d_Mo_reckon_33 : decode k_Mo_reckon 33 = .ok (.iload_n 2, 1) := by decide +kernel
theorem d_Mo_reckon_34 : decode k_Mo_reckon 34 = .ok (.iconst 0, 1) := by decide +kernel
theorem d_Mo_reckon_35 : decode k_Mo_reckon 35 = .ok (.iastore, 1) := by decide +kernel
theorem d_Mo_reckon_36 : decode k_Mo_reckon 36 = .ok (.iconst 0, 1) := by decide +kernel
theorem d_Mo_reckon_37 : decode k_Mo_reckon 37 = .ok (.istore_n 3, 1) := by decide +kernel
theorem d_Mo_reckon_38 : decode k_Mo_reckon 38 = .ok (.iload_n 3, 1) := by decide +kernel
theorem d_Mo_reckon_39 : decode k_Mo_reckon 39 = .ok (.aload_n 0, 1) := by decide +kernel
theorem d_Mo_reckon_40 : decode k_Mo_reckon 40 = .ok (.getfield 61, 3) := by decide +kernel
theorem d_Mo_reckon_43 : decode k_Mo_reckon 43 = .ok (.if_icmp .ge 46, 3) := by decide +kernel
theorem d_Mo_reckon_46 : decode k_Mo_reckon 46 = .ok (.aload_n 0, 1) := by decide +kernel
theorem d_Mo_reckon_47 : decode k_Mo_reckon 47 = .ok (.getfield 16, 3) := by decide +kernel
theorem d_Mo_reckon_50 : decode k_Mo_reckon 50 = .ok (.iload_n 2, 1) := by decide +kernel
theorem d_Mo_reckon_51 : decode k_Mo_reckon 51 = .ok (.iload_n 2, 1) := by decide +kernel
theorem d_Mo_reckon_52 : decode k_Mo_reckon 52 = .ok (.iload_n 3, 1) := by decide +kernel
theorem d_Mo_reckon_53 : decode k_Mo_reckon 53 = .ok (.ishr, 1) := by decide +kernel
theorem d_Mo_reckon_54 : decode k_Mo_reckon 54 = .ok (.iconst 1, 1) := by decide +kernel
theorem d_Mo_reckon_55 : decode k_Mo_reckon 55 = .ok (.iand, 1) := by decide +kernel
theorem d_Mo_reckon_56 : decode k_Mo_reckon 56 = .ok (.iconst 1, 1) := by decide +kernel
theorem d_Mo_reckon_57 : decode k_Mo_reckon 57 = .ok (.if_icmp .ne 19, 3) := by decide +kernel
theorem d_Mo_reckon_60 : decode k_Mo_reckon 60 = .ok (.aload_n 0, 1) := by decide +kernel
theorem d_Mo_reckon_61 : decode k_Mo_reckon 61 = .ok (.getfield 16, 3) := by decide +kernel
theorem d_Mo_reckon_64 : decode k_Mo_reckon 64 = .ok (.iload_n 2, 1) := by decide +kernel
theorem d_Mo_reckon_65 : decode k_Mo_reckon 65 = .ok (.iaload, 1) := by decide +kernel
theorem d_Mo_reckon_66 : decode k_Mo_reckon 66 = .ok (.aload_n 0, 1) := by decide +kernel
theorem d_Mo_reckon_67 : decode k_Mo_reckon 67 = .ok (.getfield 7, 3) := by decide +kernel
theorem d_Mo_reckon_70 : decode k_Mo_reckon 70 = .ok (.iload_n 3, 1) := by decide +kernel
theorem d_Mo_reckon_71 : decode k_Mo_reckon 71 = .ok (.iaload, 1) := by decide +kernel
theorem d_Mo_reckon_72 : decode k_Mo_reckon 72 = .ok (.ior, 1) := by decide +kernel
theorem d_Mo_reckon_73 : decode k_Mo_reckon 73 = .ok (.goto 9, 3) := by decide +kernel
theorem d_Mo_reckon_76 : decode k_Mo_reckon 76 = .ok (.aload_n 0, 1) := by decide +kernel
theorem d_Mo_reckon_77 : decode k_Mo_reckon 77 = .ok (.getfield 16, 3) := by decide +kernel
theorem d_Mo_reckon_80 : decode k_Mo_reckon 80 = .ok (.iload_n 2, 1) := by decide +kernel
theorem d_Mo_reckon_81 : decode k_Mo_reckon 81 = .ok (.iaload, 1) := by decide +kernel
theorem d_Mo_reckon_82 : decode k_Mo_reckon 82 = .ok (.iastore, 1) := by decide +kernel
theorem d_Mo_reckon_83 : decode k_Mo_reckon 83 = .ok (.iinc 3 1, 3) := by decide +kernel
theorem d_Mo_reckon_86 : decode k_Mo_reckon 86 = .ok (.goto (-48), 3) := by decide +kernel
theorem d_Mo_reckon_89 : decode k_Mo_reckon 89 = .ok (.aload_n 0, 1) := by decide +kernel
theorem d_Mo_reckon_90 : decode k_Mo_reckon 90 = .ok (.getfield 19, 3) := by decide +kernel
theorem d_Mo_reckon_93 : decode k_Mo_reckon 93 = .ok (.iload_n 2, 1) := by decide +kernel
theorem d_Mo_reckon_94 : decode k_Mo_reckon 94 = .ok (.iconst 0, 1) := by decide +kernel
theorem d_Mo_reckon_95 : decode k_Mo_reckon 95 = .ok (.bastore, 1) := by decide +kernel
theorem d_Mo_reckon_96 : decode k_Mo_reckon 96 = .ok (.aload_n 0, 1) := by decide +kernel
theorem d_Mo_reckon_97 : decode k_Mo_reckon 97 = .ok (.aload_n 0, 1) := by decide +kernel
theorem d_Mo_reckon_98 : decode k_Mo_reckon 98 = .ok (.getfield 16, 3) := by decide +kernel
theorem d_Mo_reckon_101 : decode k_Mo_reckon 101 = .ok (.iload_n 2, 1) := by decide +kernel
theorem d_Mo_reckon_102 : decode k_Mo_reckon 102 = .ok (.iaload, 1) := by decide +kernel
theorem d_Mo_reckon_103 : decode k_Mo_reckon 103 = .ok (.invokevirtual 89, 3) := by decide +kernel
theorem d_Mo_reckon_106 : decode k_Mo_reckon 106 = .ok (.istore_n 3, 1) := by decide +kernel
theorem d_Mo_reckon_107 : decode k_Mo_reckon 107 = .ok (.aload_n 0, 1) := by decide +kernel
theorem d_Mo_reckon_108 : decode k_Mo_reckon 108 = .ok (.getfield 23, 3) := by decide +kernel
theorem d_Mo_reckon_111 : decode k_Mo_reckon 111 = .ok (.iload_n 2, 1) := by decide +kernel
theorem d_Mo_reckon_112 : decode k_Mo_reckon 112 = .ok (.aload_n 0, 1) := by decide +kernel
theorem d_Mo_reckon_113 : decode k_Mo_reckon 113 = .ok (.iload_n 2, 1) := by decide +kernel
theorem d_Mo_reckon_114 : decode k_Mo_reckon 114 = .ok (.invokevirtual 93, 3) := by decide +kernel
theorem d_Mo_reckon_117 : decode k_Mo_reckon 117 = .ok (.ifCond .eq 15, 3) := by decide +kernel
theorem d_Mo_reckon_120 : decode k_Mo_reckon 120 = .ok (.iload_n 2, 1) := by decide +kernel
theorem d_Mo_reckon_121 : decode k_Mo_reckon 121 = .ok (.iload_n 3, 1) := by decide +kernel
theorem d_Mo_reckon_122 : decode k_Mo_reckon 122 = .ok (.iconst (-1), 1) := by decide +kernel
theorem d_Mo_reckon_123 : decode k_Mo_reckon 123 = .ok (.ixor, 1) := by decide +kernel
theorem d_Mo_reckon_124 : decode k_Mo_reckon 124 = .ok (.iand, 1) := by decide +kernel
theorem d_Mo_reckon_125 : decode k_Mo_reckon 125 = .ok (.ifCond .ne 7, 3) := by decide +kernel
theorem d_Mo_reckon_128 : decode k_Mo_reckon 128 = .ok (.iconst 1, 1) := by decide +kernel
theorem d_Mo_reckon_129 : decode k_Mo_reckon 129 = .ok (.goto 4, 3) := by decide +kernel
theorem d_Mo_reckon_132 : decode k_Mo_reckon 132 = .ok (.iconst 0, 1) := by decide +kernel
theorem d_Mo_reckon_133 : decode k_Mo_reckon 133 = .ok (.bastore, 1) := by decide +kernel
theorem d_Mo_reckon_134 : decode k_Mo_reckon 134 = .ok (.aload_n 0, 1) := by decide +kernel
theorem d_Mo_reckon_135 : decode k_Mo_reckon 135 = .ok (.getfield 23, 3) := by decide +kernel
theorem d_Mo_reckon_138 : decode k_Mo_reckon 138 = .ok (.iload_n 2, 1) := by decide +kernel
theorem d_Mo_reckon_139 : decode k_Mo_reckon 139 = .ok (.baload, 1) := by decide +kernel
theorem d_Mo_reckon_140 : decode k_Mo_reckon 140 = .ok (.ifCond .eq 9, 3) := by decide +kernel
theorem d_Mo_reckon_143 : decode k_Mo_reckon 143 = .ok (.aload_n 0, 1) := by decide +kernel
theorem d_Mo_reckon_144 : decode k_Mo_reckon 144 = .ok (.iload_n 2, 1) := by decide +kernel
theorem d_Mo_reckon_145 : decode k_Mo_reckon 145 = .ok (.iconst 4, 1) := by decide +kernel
theorem d_Mo_reckon_146 : decode k_Mo_reckon 146 = .ok (.invokevirtual 96, 3) := by decide +kernel
theorem d_Mo_reckon_149 : decode k_Mo_reckon 149 = .ok (.aload_n 0, 1) := by decide +kernel
theorem d_Mo_reckon_150 : decode k_Mo_reckon 150 = .ok (.getfield 23, 3) := by decide +kernel
theorem d_Mo_reckon_153 : decode k_Mo_reckon 153 = .ok (.iload_n 2, 1) := by decide +kernel
theorem d_Mo_reckon_154 : decode k_Mo_reckon 154 = .ok (.baload, 1) := by decide +kernel
theorem d_Mo_reckon_155 : decode k_Mo_reckon 155 = .ok (.ifCond .eq 14, 3) := by decide +kernel
theorem d_Mo_reckon_158 : decode k_Mo_reckon 158 = .ok (.iload_n 3, 1) := by decide +kernel
theorem d_Mo_reckon_159 : decode k_Mo_reckon 159 = .ok (.iload_n 2, 1) := by decide +kernel
theorem d_Mo_reckon_160 : decode k_Mo_reckon 160 = .ok (.if_icmp .ne 9, 3) := by decide +kernel
theorem d_Mo_reckon_163 : decode k_Mo_reckon 163 = .ok (.aload_n 0, 1) := by decide +kernel
theorem d_Mo_reckon_164 : decode k_Mo_reckon 164 = .ok (.iload_n 2, 1) := by decide +kernel
theorem d_Mo_reckon_165 : decode k_Mo_reckon 165 = .ok (.iconst 0, 1) := by decide +kernel
theorem d_Mo_reckon_166 : decode k_Mo_reckon 166 = .ok (.invokevirtual 96, 3) := by decide +kernel
theorem d_Mo_reckon_169 : decode k_Mo_reckon 169 = .ok (.aload_n 0, 1) := by decide +kernel
theorem d_Mo_reckon_170 : decode k_Mo_reckon 170 = .ok (.iload_n 2, 1) := by decide +kernel
theorem d_Mo_reckon_171 : decode k_Mo_reckon 171 = .ok (.invokevirtual 93, 3) := by decide +kernel
theorem d_Mo_reckon_174 : decode k_Mo_reckon 174 = .ok (.ifCond .eq 21, 3) := by decide +kernel
theorem d_Mo_reckon_177 : decode k_Mo_reckon 177 = .ok (.iload_n 2, 1) := by decide +kernel
theorem d_Mo_reckon_178 : decode k_Mo_reckon 178 = .ok (.aload_n 0, 1) := by decide +kernel
theorem d_Mo_reckon_179 : decode k_Mo_reckon 179 = .ok (.getfield 16, 3) := by decide +kernel
theorem d_Mo_reckon_182 : decode k_Mo_reckon 182 = .ok (.iload_n 2, 1) := by decide +kernel
theorem d_Mo_reckon_183 : decode k_Mo_reckon 183 = .ok (.iaload, 1) := by decide +kernel
theorem d_Mo_reckon_184 : decode k_Mo_reckon 184 = .ok (.ior, 1) := by decide +kernel
theorem d_Mo_reckon_185 : decode k_Mo_reckon 185 = .ok (.iload_n 1, 1) := by decide +kernel
theorem d_Mo_reckon_186 : decode k_Mo_reckon 186 = .ok (.if_icmp .ne 9, 3) := by decide +kernel
theorem d_Mo_reckon_189 : decode k_Mo_reckon 189 = .ok (.aload_n 0, 1) := by decide +kernel
theorem d_Mo_reckon_190 : decode k_Mo_reckon 190 = .ok (.iload_n 2, 1) := by decide +kernel
theorem d_Mo_reckon_191 : decode k_Mo_reckon 191 = .ok (.iconst 2, 1) := by decide +kernel
theorem d_Mo_reckon_192 : decode k_Mo_reckon 192 = .ok (.invokevirtual 96, 3) := by decide +kernel
theorem d_Mo_reckon_195 : decode k_Mo_reckon 195 = .ok (.iinc 2 1, 3) := by decide +kernel
theorem d_Mo_reckon_198 : decode k_Mo_reckon 198 = .ok (.goto (-174), 3) := by decide +kernel
theorem d_Mo_reckon_201 : decode k_Mo_reckon 201 = .ok (.aload_n 0, 1) := by decide +kernel
theorem d_Mo_reckon_202 : decode k_Mo_reckon 202 = .ok (.invokevirtual 100, 3) := by decide +kernel
theorem d_Mo_reckon_205 : decode k_Mo_reckon 205 = .ok (.iconst 0, 1) := by decide +kernel
theorem d_Mo_reckon_206 : decode k_Mo_reckon 206 = .ok (.istore_n 2, 1) := by decide +kernel
theorem d_Mo_reckon_207 : decode k_Mo_reckon 207 = .ok (.iload_n 2, 1) := by decide +kernel
theorem d_Mo_reckon_208 : decode k_Mo_reckon 208 = .ok (.iload_n 1, 1) := by decide +kernel
theorem d_Mo_reckon_209 : decode k_Mo_reckon 209 = .ok (.if_icmp .gt 33, 3) := by decide +kernel
theorem d_Mo_reckon_212 : decode k_Mo_reckon 212 = .ok (.aload_n 0, 1) := by decide +kernel
theorem d_Mo_reckon_213 : decode k_Mo_reckon 213 = .ok (.getfield 23, 3) := by decide +kernel
theorem d_Mo_reckon_216 : decode k_Mo_reckon 216 = .ok (.iload_n 2, 1) := by decide +kernel
theorem d_Mo_reckon_217 : decode k_Mo_reckon 217 = .ok (.baload, 1) := by decide +kernel
theorem d_Mo_reckon_218 : decode k_Mo_reckon 218 = .ok (.ifCond .eq 18, 3) := by decide +kernel
theorem d_Mo_reckon_221 : decode k_Mo_reckon 221 = .ok (.aload_n 0, 1) := by decide +kernel
theorem d_Mo_reckon_222 : decode k_Mo_reckon 222 = .ok (.getfield 27, 3) := by decide +kernel
theorem d_Mo_reckon_225 : decode k_Mo_reckon 225 = .ok (.iload_n 2, 1) := by decide +kernel
theorem d_Mo_reckon_226 : decode k_Mo_reckon 226 = .ok (.baload, 1) := by decide +kernel
theorem d_Mo_reckon_227 : decode k_Mo_reckon 227 = .ok (.ifCond .ne 9, 3) := by decide +kernel
theorem d_Mo_reckon_230 : decode k_Mo_reckon 230 = .ok (.aload_n 0, 1) := by decide +kernel
theorem d_Mo_reckon_231 : decode k_Mo_reckon 231 = .ok (.iload_n 2, 1) := by decide +kernel
theorem d_Mo_reckon_232 : decode k_Mo_reckon 232 = .ok (.iconst 1, 1) := by decide +kernel
theorem d_Mo_reckon_233 : decode k_Mo_reckon 233 = .ok (.invokevirtual 96, 3) := by decide +kernel
theorem d_Mo_reckon_236 : decode k_Mo_reckon 236 = .ok (.iinc 2 1, 3) := by decide +kernel
theorem d_Mo_reckon_239 : decode k_Mo_reckon 239 = .ok (.goto (-32), 3) := by decide +kernel
theorem d_Mo_reckon_242 : decode k_Mo_reckon 242 = .ok (.iconst 0, 1) := by decide +kernel
theorem d_Mo_reckon_243 : decode k_Mo_reckon 243 = .ok (.istore_n 2, 1) := by decide +kernel
theorem d_Mo_reckon_244 : decode k_Mo_reckon 244 = .ok (.iload_n 2, 1) := by decide +kernel
theorem d_Mo_reckon_245 : decode k_Mo_reckon 245 = .ok (.iload_n 1, 1) := by decide +kernel
theorem d_Mo_reckon_246 : decode k_Mo_reckon 246 = .ok (.if_icmp .gt 16, 3) := by decide +kernel
theorem d_Mo_reckon_249 : decode k_Mo_reckon 249 = .ok (.aload_n 0, 1) := by decide +kernel
theorem d_Mo_reckon_250 : decode k_Mo_reckon 250 = .ok (.getfield 23, 3) := by decide +kernel
theorem d_Mo_reckon_253 : decode k_Mo_reckon 253 = .ok (.iload_n 2, 1) := by decide +kernel
theorem d_Mo_reckon_254 : decode k_Mo_reckon 254 = .ok (.iconst 0, 1) := by decide +kernel
theorem d_Mo_reckon_255 : decode k_Mo_reckon 255 = .ok (.bastore, 1) := by decide +kernel
theorem d_Mo_reckon_256 : decode k_Mo_reckon 256 = .ok (.iinc 2 1, 3) := by decide +kernel
theorem d_Mo_reckon_259 : decode k_Mo_reckon 259 = .ok (.goto (-15), 3) := by decide +kernel
theorem d_Mo_reckon_262 : decode k_Mo_reckon 262 = .ok (.iconst 0, 1) := by decide +kernel
theorem d_Mo_reckon_263 : decode k_Mo_reckon 263 = .ok (.istore_n 2, 1) := by decide +kernel
theorem d_Mo_reckon_264 : decode k_Mo_reckon 264 = .ok (.iload_n 2, 1) := by decide +kernel
theorem d_Mo_reckon_265 : decode k_Mo_reckon 265 = .ok (.iload_n 1, 1) := by decide +kernel
theorem d_Mo_reckon_266 : decode k_Mo_reckon 266 = .ok (.if_icmp .gt 31, 3) := by decide +kernel
theorem d_Mo_reckon_269 : decode k_Mo_reckon 269 = .ok (.aload_n 0, 1) := by decide +kernel
theorem d_Mo_reckon_270 : decode k_Mo_reckon 270 = .ok (.iload_n 2, 1) := by decide +kernel
theorem d_Mo_reckon_271 : decode k_Mo_reckon 271 = .ok (.invokevirtual 93, 3) := by decide +kernel
theorem d_Mo_reckon_274 : decode k_Mo_reckon 274 = .ok (.ifCond .eq 17, 3) := by decide +kernel
theorem d_Mo_reckon_277 : decode k_Mo_reckon 277 = .ok (.aload_n 0, 1) := by decide +kernel
theorem d_Mo_reckon_278 : decode k_Mo_reckon 278 = .ok (.getfield 23, 3) := by decide +kernel
theorem d_Mo_reckon_281 : decode k_Mo_reckon 281 = .ok (.iload_n 2, 1) := by decide +kernel
theorem d_Mo_reckon_282 : decode k_Mo_reckon 282 = .ok (.aload_n 0, 1) := by decide +kernel
theorem d_Mo_reckon_283 : decode k_Mo_reckon 283 = .ok (.getfield 16, 3) := by decide +kernel
theorem d_Mo_reckon_286 : decode k_Mo_reckon 286 = .ok (.iload_n 2, 1) := by decide +kernel
theorem d_Mo_reckon_287 : decode k_Mo_reckon 287 = .ok (.iaload, 1) := by decide +kernel
theorem d_Mo_reckon_288 : decode k_Mo_reckon 288 = .ok (.ior, 1) := by decide +kernel
theorem d_Mo_reckon_289 : decode k_Mo_reckon 289 = .ok (.iconst 1, 1) := by decide +kernel
theorem d_Mo_reckon_290 : decode k_Mo_reckon 290 = .ok (.bastore, 1) := by decide +kernel
theorem d_Mo_reckon_291 : decode k_Mo_reckon 291 = .ok (.iinc 2 1, 3) := by decide +kernel
theorem d_Mo_reckon_294 : decode k_Mo_reckon 294 = .ok (.goto (-30), 3) := by decide +kernel
theorem d_Mo_reckon_297 : decode k_Mo_reckon 297 = .ok (.aload_n 0, 1) := by decide +kernel
theorem d_Mo_reckon_298 : decode k_Mo_reckon 298 = .ok (.invokevirtual 100, 3) := by decide +kernel
theorem d_Mo_reckon_301 : decode k_Mo_reckon 301 = .ok (.iconst 0, 1) := by decide +kernel
theorem d_Mo_reckon_302 : decode k_Mo_reckon 302 = .ok (.istore_n 2, 1) := by decide +kernel
theorem d_Mo_reckon_303 : decode k_Mo_reckon 303 = .ok (.iload_n 2, 1) := by decide +kernel
theorem d_Mo_reckon_304 : decode k_Mo_reckon 304 = .ok (.iload_n 1, 1) := by decide +kernel
theorem d_Mo_reckon_305 : decode k_Mo_reckon 305 = .ok (.if_icmp .gt 39, 3) := by decide +kernel
theorem d_Mo_reckon_308 : decode k_Mo_reckon 308 = .ok (.aload_n 0, 1) := by decide +kernel
theorem d_Mo_reckon_309 : decode k_Mo_reckon 309 = .ok (.iload_n 2, 1) := by decide +kernel
theorem d_Mo_reckon_310 : decode k_Mo_reckon 310 = .ok (.invokevirtual 93, 3) := by decide +kernel
theorem d_Mo_reckon_313 : decode k_Mo_reckon 313 = .ok (.ifCond .eq 25, 3) := by decide +kernel
theorem d_Mo_reckon_316 : decode k_Mo_reckon 316 = .ok (.aload_n 0, 1) := by decide +kernel
theorem d_Mo_reckon_317 : decode k_Mo_reckon 317 = .ok (.getfield 27, 3) := by decide +kernel
theorem d_Mo_reckon_320 : decode k_Mo_reckon 320 = .ok (.iload_n 2, 1) := by decide +kernel
theorem d_Mo_reckon_321 : decode k_Mo_reckon 321 = .ok (.aload_n 0, 1) := by decide +kernel
theorem d_Mo_reckon_322 : decode k_Mo_reckon 322 = .ok (.getfield 16, 3) := by decide +kernel
theorem d_Mo_reckon_325 : decode k_Mo_reckon 325 = .ok (.iload_n 2, 1) := by decide +kernel
theorem d_Mo_reckon_326 : decode k_Mo_reckon 326 = .ok (.iaload, 1) := by decide +kernel
theorem d_Mo_reckon_327 : decode k_Mo_reckon 327 = .ok (.ior, 1) := by decide +kernel
theorem d_Mo_reckon_328 : decode k_Mo_reckon 328 = .ok (.baload, 1) := by decide +kernel
theorem d_Mo_reckon_329 : decode k_Mo_reckon 329 = .ok (.ifCond .ne 9, 3) := by decide +kernel
theorem d_Mo_reckon_332 : decode k_Mo_reckon 332 = .ok (.aload_n 0, 1) := by decide +kernel
theorem d_Mo_reckon_333 : decode k_Mo_reckon 333 = .ok (.iload_n 2, 1) := by decide +kernel
theorem d_Mo_reckon_334 : decode k_Mo_reckon 334 = .ok (.iconst 3, 1) := by decide +kernel
theorem d_Mo_reckon_335 : decode k_Mo_reckon 335 = .ok (.invokevirtual 96, 3) := by decide +kernel
theorem d_Mo_reckon_338 : decode k_Mo_reckon 338 = .ok (.iinc 2 1, 3) := by decide +kernel
theorem d_Mo_reckon_341 : decode k_Mo_reckon 341 = .ok (.goto (-38), 3) := by decide +kernel
theorem d_Mo_reckon_344 : decode k_Mo_reckon 344 = .ok (.aload_n 0, 1) := by decide +kernel
theorem d_Mo_reckon_345 : decode k_Mo_reckon 345 = .ok (.invokevirtual 103, 3) := by decide +kernel
theorem d_Mo_reckon_348 : decode k_Mo_reckon 348 = .ok (.return_, 1) := by decide +kernel
theorem d_Mo_defended_0 : decode k_Mo_defended 0 = .ok (.iconst 0, 1) := by decide +kernel
theorem d_Mo_defended_1 : decode k_Mo_defended 1 = .ok (.istore_n 2, 1) := by decide +kernel
theorem d_Mo_defended_2 : decode k_Mo_defended 2 = .ok (.iconst 0, 1) := by decide +kernel
theorem d_Mo_defended_3 : decode k_Mo_defended 3 = .ok (.istore_n 3, 1) := by decide +kernel
theorem d_Mo_defended_4 : decode k_Mo_defended 4 = .ok (.iload_n 3, 1) := by decide +kernel
theorem d_Mo_defended_5 : decode k_Mo_defended 5 = .ok (.aload_n 0, 1) := by decide +kernel
theorem d_Mo_defended_6 : decode k_Mo_defended 6 = .ok (.getfield 61, 3) := by decide +kernel
theorem d_Mo_defended_9 : decode k_Mo_defended 9 = .ok (.if_icmp .ge 32, 3) := by decide +kernel
theorem d_Mo_defended_12 : decode k_Mo_defended 12 = .ok (.aload_n 0, 1) := by decide +kernel
theorem d_Mo_defended_13 : decode k_Mo_defended 13 = .ok (.getfield 13, 3) := by decide +kernel
theorem d_Mo_defended_16 : decode k_Mo_defended 16 = .ok (.iload_n 3, 1) := by decide +kernel
theorem d_Mo_defended_17 : decode k_Mo_defended 17 = .ok (.iaload, 1) := by decide +kernel
theorem d_Mo_defended_18 : decode k_Mo_defended 18 = .ok (.iload_n 1, 1) := by decide +kernel
theorem d_Mo_defended_19 : decode k_Mo_defended 19 = .ok (.iconst (-1), 1) := by decide +kernel
theorem d_Mo_defended_20 : decode k_Mo_defended 20 = .ok (.ixor, 1) := by decide +kernel
theorem d_Mo_defended_21 : decode k_Mo_defended 21 = .ok (.iand, 1) := by decide +kernel
theorem d_Mo_defended_22 : decode k_Mo_defended 22 = .ok (.ifCond .ne 11, 3) := by decide +kernel
theorem d_Mo_defended_25 : decode k_Mo_defended 25 = .ok (.iload_n 2, 1) := by decide +kernel
theorem d_Mo_defended_26 : decode k_Mo_defended 26 = .ok (.iconst 1, 1) := by decide +kernel
theorem d_Mo_defended_27 : decode k_Mo_defended 27 = .ok (.iload_n 3, 1) := by decide +kernel
theorem d_Mo_defended_28 : decode k_Mo_defended 28 = .ok (.ishl, 1) := by decide +kernel
theorem d_Mo_defended_29 : decode k_Mo_defended 29 = .ok (.ior, 1) := by decide +kernel
theorem d_Mo_defended_30 : decode k_Mo_defended 30 = .ok (.goto 4, 3) := by decide +kernel
theorem d_Mo_defended_33 : decode k_Mo_defended 33 = .ok (.iload_n 2, 1) := by decide +kernel
theorem d_Mo_defended_34 : decode k_Mo_defended 34 = .ok (.istore_n 2, 1) := by decide +kernel
theorem d_Mo_defended_35 : decode k_Mo_defended 35 = .ok (.iinc 3 1, 3) := by decide +kernel
theorem d_Mo_defended_38 : decode k_Mo_defended 38 = .ok (.goto (-34), 3) := by decide +kernel
theorem d_Mo_defended_41 : decode k_Mo_defended 41 = .ok (.iload_n 2, 1) := by decide +kernel
theorem d_Mo_defended_42 : decode k_Mo_defended 42 = .ok (.ireturn, 1) := by decide +kernel
theorem d_Mo_isFreeSet_0 : decode k_Mo_isFreeSet 0 = .ok (.aload_n 0, 1) := by decide +kernel
theorem d_Mo_isFreeSet_1 : decode k_Mo_isFreeSet 1 = .ok (.getfield 16, 3) := by decide +kernel
theorem d_Mo_isFreeSet_4 : decode k_Mo_isFreeSet 4 = .ok (.iload_n 1, 1) := by decide +kernel
theorem d_Mo_isFreeSet_5 : decode k_Mo_isFreeSet 5 = .ok (.iaload, 1) := by decide +kernel
theorem d_Mo_isFreeSet_6 : decode k_Mo_isFreeSet 6 = .ok (.iload_n 1, 1) := by decide +kernel
theorem d_Mo_isFreeSet_7 : decode k_Mo_isFreeSet 7 = .ok (.iand, 1) := by decide +kernel
theorem d_Mo_isFreeSet_8 : decode k_Mo_isFreeSet 8 = .ok (.ifCond .ne 7, 3) := by decide +kernel
theorem d_Mo_isFreeSet_11 : decode k_Mo_isFreeSet 11 = .ok (.iconst 1, 1) := by decide +kernel
theorem d_Mo_isFreeSet_12 : decode k_Mo_isFreeSet 12 = .ok (.goto 4, 3) := by decide +kernel
theorem d_Mo_isFreeSet_15 : decode k_Mo_isFreeSet 15 = .ok (.iconst 0, 1) := by decide +kernel
theorem d_Mo_isFreeSet_16 : decode k_Mo_isFreeSet 16 = .ok (.ireturn, 1) := by decide +kernel
theorem d_Mo_adds_0 : decode k_Mo_adds 0 = .ok (.aload_n 0, 1) := by decide +kernel
theorem d_Mo_adds_1 : decode k_Mo_adds 1 = .ok (.getfield 19, 3) := by decide +kernel
theorem d_Mo_adds_4 : decode k_Mo_adds 4 = .ok (.iload_n 1, 1) := by decide +kernel
theorem d_Mo_adds_5 : decode k_Mo_adds 5 = .ok (.aload_n 0, 1) := by decide +kernel
theorem d_Mo_adds_6 : decode k_Mo_adds 6 = .ok (.getfield 19, 3) := by decide +kernel
theorem d_Mo_adds_9 : decode k_Mo_adds 9 = .ok (.iload_n 1, 1) := by decide +kernel
theorem d_Mo_adds_10 : decode k_Mo_adds 10 = .ok (.baload, 1) := by decide +kernel
theorem d_Mo_adds_11 : decode k_Mo_adds 11 = .ok (.iconst 1, 1) := by decide +kernel
theorem d_Mo_adds_12 : decode k_Mo_adds 12 = .ok (.iload_n 2, 1) := by decide +kernel
theorem d_Mo_adds_13 : decode k_Mo_adds 13 = .ok (.ishl, 1) := by decide +kernel
theorem d_Mo_adds_14 : decode k_Mo_adds 14 = .ok (.ior, 1) := by decide +kernel
theorem d_Mo_adds_15 : decode k_Mo_adds 15 = .ok (.i2b, 1) := by decide +kernel
theorem d_Mo_adds_16 : decode k_Mo_adds 16 = .ok (.bastore, 1) := by decide +kernel
theorem d_Mo_adds_17 : decode k_Mo_adds 17 = .ok (.return_, 1) := by decide +kernel
theorem d_Mo_looksAbove_0 : decode k_Mo_looksAbove 0 = .ok (.iconst 1, 1) := by decide +kernel
theorem d_Mo_looksAbove_1 : decode k_Mo_looksAbove 1 = .ok (.aload_n 0, 1) := by decide +kernel
theorem d_Mo_looksAbove_2 : decode k_Mo_looksAbove 2 = .ok (.getfield 61, 3) := by decide +kernel
theorem d_Mo_looksAbove_5 : decode k_Mo_looksAbove 5 = .ok (.ishl, 1) := by decide +kernel
theorem d_Mo_looksAbove_6 : decode k_Mo_looksAbove 6 = .ok (.iconst 1, 1) := by decide +kernel
theorem d_Mo_looksAbove_7 : decode k_Mo_looksAbove 7 = .ok (.isub, 1) := by decide +kernel
theorem d_Mo_looksAbove_8 : decode k_Mo_looksAbove 8 = .ok (.istore_n 1, 1) := by decide +kernel
theorem d_Mo_looksAbove_9 : decode k_Mo_looksAbove 9 = .ok (.iload_n 1, 1) := by decide +kernel
theorem d_Mo_looksAbove_10 : decode k_Mo_looksAbove 10 = .ok (.ifCond .lt 81, 3) := by decide +kernel
theorem d_Mo_looksAbove_13 : decode k_Mo_looksAbove 13 = .ok (.aload_n 0, 1) := by decide +kernel
theorem d_Mo_looksAbove_14 : decode k_Mo_looksAbove 14 = .ok (.getfield 27, 3) := by decide +kernel
theorem d_Mo_looksAbove_17 : decode k_Mo_looksAbove 17 = .ok (.iload_n 1, 1) := by decide +kernel
theorem d_Mo_looksAbove_18 : decode k_Mo_looksAbove 18 = .ok (.iconst 0, 1) := by decide +kernel
theorem d_Mo_looksAbove_19 : decode k_Mo_looksAbove 19 = .ok (.bastore, 1) := by decide +kernel
theorem d_Mo_looksAbove_20 : decode k_Mo_looksAbove 20 = .ok (.iconst 0, 1) := by decide +kernel
theorem d_Mo_looksAbove_21 : decode k_Mo_looksAbove 21 = .ok (.istore_n 2, 1) := by decide +kernel
theorem d_Mo_looksAbove_22 : decode k_Mo_looksAbove 22 = .ok (.iload_n 2, 1) := by decide +kernel
theorem d_Mo_looksAbove_23 : decode k_Mo_looksAbove 23 = .ok (.aload_n 0, 1) := by decide +kernel
theorem d_Mo_looksAbove_24 : decode k_Mo_looksAbove 24 = .ok (.getfield 61, 3) := by decide +kernel
theorem d_Mo_looksAbove_27 : decode k_Mo_looksAbove 27 = .ok (.if_icmp .ge 58, 3) := by decide +kernel
theorem d_Mo_looksAbove_30 : decode k_Mo_looksAbove 30 = .ok (.iload_n 1, 1) := by decide +kernel
theorem d_Mo_looksAbove_31 : decode k_Mo_looksAbove 31 = .ok (.iconst 1, 1) := by decide +kernel
theorem d_Mo_looksAbove_32 : decode k_Mo_looksAbove 32 = .ok (.iload_n 2, 1) := by decide +kernel
theorem d_Mo_looksAbove_33 : decode k_Mo_looksAbove 33 = .ok (.ishl, 1) := by decide +kernel
theorem d_Mo_looksAbove_34 : decode k_Mo_looksAbove 34 = .ok (.ior, 1) := by decide +kernel
theorem d_Mo_looksAbove_35 : decode k_Mo_looksAbove 35 = .ok (.istore_n 3, 1) := by decide +kernel
theorem d_Mo_looksAbove_36 : decode k_Mo_looksAbove 36 = .ok (.aload_n 0, 1) := by decide +kernel
theorem d_Mo_looksAbove_37 : decode k_Mo_looksAbove 37 = .ok (.getfield 27, 3) := by decide +kernel
theorem d_Mo_looksAbove_40 : decode k_Mo_looksAbove 40 = .ok (.iload_n 1, 1) := by decide +kernel
theorem d_Mo_looksAbove_41 : decode k_Mo_looksAbove 41 = .ok (.aload_n 0, 1) := by decide +kernel
theorem d_Mo_looksAbove_42 : decode k_Mo_looksAbove 42 = .ok (.getfield 27, 3) := by decide +kernel
theorem d_Mo_looksAbove_45 : decode k_Mo_looksAbove 45 = .ok (.iload_n 1, 1) := by decide +kernel
theorem d_Mo_looksAbove_46 : decode k_Mo_looksAbove 46 = .ok (.baload, 1) := by decide +kernel
theorem d_Mo_looksAbove_47 : decode k_Mo_looksAbove 47 = .ok (.ifCond .ne 26, 3) := by decide +kernel
theorem d_Mo_looksAbove_50 : decode k_Mo_looksAbove 50 = .ok (.iload_n 3, 1) := by decide +kernel
theorem d_Mo_looksAbove_51 : decode k_Mo_looksAbove 51 = .ok (.iload_n 1, 1) := by decide +kernel
theorem d_Mo_looksAbove_52 : decode k_Mo_looksAbove 52 = .ok (.if_icmp .eq 25, 3) := by decide +kernel
theorem d_Mo_looksAbove_55 : decode k_Mo_looksAbove 55 = .ok (.aload_n 0, 1) := by decide +kernel
theorem d_Mo_looksAbove_56 : decode k_Mo_looksAbove 56 = .ok (.getfield 23, 3) := by decide +kernel
theorem d_Mo_looksAbove_59 : decode k_Mo_looksAbove 59 = .ok (.iload_n 3, 1) := by decide +kernel
theorem d_Mo_looksAbove_60 : decode k_Mo_looksAbove 60 = .ok (.baload, 1) := by decide +kernel
theorem d_Mo_looksAbove_61 : decode k_Mo_looksAbove 61 = .ok (.ifCond .ne 12, 3) := by decide +kernel
theorem d_Mo_looksAbove_64 : decode k_Mo_looksAbove 64 = .ok (.aload_n 0, 1) := by decide +kernel
theorem d_Mo_looksAbove_65 : decode k_Mo_looksAbove 65 = .ok (.getfield 27, 3) := by decide +kernel
theorem d_Mo_looksAbove_68 : decode k_Mo_looksAbove 68 = .ok (.iload_n 3, 1) := by decide +kernel
theorem d_Mo_looksAbove_69 : decode k_Mo_looksAbove 69 = .ok (.baload, 1) := by decide +kernel
theorem d_Mo_looksAbove_70 : decode k_Mo_looksAbove 70 = .ok (.ifCond .eq 7, 3) := by decide +kernel
theorem d_Mo_looksAbove_73 : decode k_Mo_looksAbove 73 = .ok (.iconst 1, 1) := by decide +kernel
theorem d_Mo_looksAbove_74 : decode k_Mo_looksAbove 74 = .ok (.goto 4, 3) := by decide +kernel
theorem d_Mo_looksAbove_77 : decode k_Mo_looksAbove 77 = .ok (.iconst 0, 1) := by decide +kernel
theorem d_Mo_looksAbove_78 : decode k_Mo_looksAbove 78 = .ok (.bastore, 1) := by decide +kernel
theorem d_Mo_looksAbove_79 : decode k_Mo_looksAbove 79 = .ok (.iinc 2 1, 3) := by decide +kernel
theorem d_Mo_looksAbove_82 : decode k_Mo_looksAbove 82 = .ok (.goto (-60), 3) := by decide +kernel
theorem d_Mo_looksAbove_85 : decode k_Mo_looksAbove 85 = .ok (.iinc 1 (-1), 3) := by decide +kernel
theorem d_Mo_looksAbove_88 : decode k_Mo_looksAbove 88 = .ok (.goto (-79), 3) := by decide +kernel
theorem d_Mo_looksAbove_91 : decode k_Mo_looksAbove 91 = .ok (.return_, 1) := by decide +kernel
theorem d_Mo_goesRound_0 : decode k_Mo_goesRound 0 = .ok (.aload_n 0, 1) := by decide +kernel
theorem d_Mo_goesRound_1 : decode k_Mo_goesRound 1 = .ok (.iconst 0, 1) := by decide +kernel
theorem d_Mo_goesRound_2 : decode k_Mo_goesRound 2 = .ok (.putfield 106, 3) := by decide +kernel
theorem d_Mo_goesRound_5 : decode k_Mo_goesRound 5 = .ok (.iconst 0, 1) := by decide +kernel
theorem d_Mo_goesRound_6 : decode k_Mo_goesRound 6 = .ok (.istore_n 1, 1) := by decide +kernel
theorem d_Mo_goesRound_7 : decode k_Mo_goesRound 7 = .ok (.iload_n 1, 1) := by decide +kernel
theorem d_Mo_goesRound_8 : decode k_Mo_goesRound 8 = .ok (.aload_n 0, 1) := by decide +kernel
theorem d_Mo_goesRound_9 : decode k_Mo_goesRound 9 = .ok (.getfield 61, 3) := by decide +kernel
theorem d_Mo_goesRound_12 : decode k_Mo_goesRound 12 = .ok (.if_icmp .ge 16, 3) := by decide +kernel
theorem d_Mo_goesRound_15 : decode k_Mo_goesRound 15 = .ok (.aload_n 0, 1) := by decide +kernel
theorem d_Mo_goesRound_16 : decode k_Mo_goesRound 16 = .ok (.getfield 30, 3) := by decide +kernel
theorem d_Mo_goesRound_19 : decode k_Mo_goesRound 19 = .ok (.iload_n 1, 1) := by decide +kernel
theorem d_Mo_goesRound_20 : decode k_Mo_goesRound 20 = .ok (.iconst 0, 1) := by decide +kernel
theorem d_Mo_goesRound_21 : decode k_Mo_goesRound 21 = .ok (.iastore, 1) := by decide +kernel
theorem d_Mo_goesRound_22 : decode k_Mo_goesRound 22 = .ok (.iinc 1 1, 3) := by decide +kernel
theorem d_Mo_goesRound_25 : decode k_Mo_goesRound 25 = .ok (.goto (-18), 3) := by decide +kernel
theorem d_Mo_goesRound_28 : decode k_Mo_goesRound 28 = .ok (.iconst 1, 1) := by decide +kernel
theorem d_Mo_goesRound_29 : decode k_Mo_goesRound 29 = .ok (.istore_n 1, 1) := by decide +kernel
theorem d_Mo_goesRound_30 : decode k_Mo_goesRound 30 = .ok (.iload_n 1, 1) := by decide +kernel
theorem d_Mo_goesRound_31 : decode k_Mo_goesRound 31 = .ok (.aload_n 0, 1) := by decide +kernel
theorem d_Mo_goesRound_32 : decode k_Mo_goesRound 32 = .ok (.getfield 61, 3) := by decide +kernel
theorem d_Mo_goesRound_35 : decode k_Mo_goesRound 35 = .ok (.if_icmp .gt 78, 3) := by decide +kernel
theorem d_Mo_goesRound_38 : decode k_Mo_goesRound 38 = .ok (.aload_n 0, 1) := by decide +kernel
theorem d_Mo_goesRound_39 : decode k_Mo_goesRound 39 = .ok (.aload_n 0, 1) := by decide +kernel
theorem d_Mo_goesRound_40 : decode k_Mo_goesRound 40 = .ok (.getfield 16, 3) := by decide +kernel
theorem d_Mo_goesRound_43 : decode k_Mo_goesRound 43 = .ok (.aload_n 0, 1) := by decide +kernel
theorem d_Mo_goesRound_44 : decode k_Mo_goesRound 44 = .ok (.getfield 106, 3) := by decide +kernel
theorem d_Mo_goesRound_47 : decode k_Mo_goesRound 47 = .ok (.iaload, 1) := by decide +kernel
theorem d_Mo_goesRound_48 : decode k_Mo_goesRound 48 = .ok (.invokevirtual 89, 3) := by decide +kernel
theorem d_Mo_goesRound_51 : decode k_Mo_goesRound 51 = .ok (.istore_n 2, 1) := by decide +kernel
theorem d_Mo_goesRound_52 : decode k_Mo_goesRound 52 = .ok (.iconst 0, 1) := by decide +kernel
theorem d_Mo_goesRound_53 : decode k_Mo_goesRound 53 = .ok (.istore_n 3, 1) := by decide +kernel
theorem d_Mo_goesRound_54 : decode k_Mo_goesRound 54 = .ok (.iload_n 3, 1) := by decide +kernel
theorem d_Mo_goesRound_55 : decode k_Mo_goesRound 55 = .ok (.aload_n 0, 1) := by decide +kernel
theorem d_Mo_goesRound_56 : decode k_Mo_goesRound 56 = .ok (.getfield 61, 3) := by decide +kernel
theorem d_Mo_goesRound_59 : decode k_Mo_goesRound 59 = .ok (.if_icmp .ge 43, 3) := by decide +kernel
theorem d_Mo_goesRound_62 : decode k_Mo_goesRound 62 = .ok (.aload_n 0, 1) := by decide +kernel
theorem d_Mo_goesRound_63 : decode k_Mo_goesRound 63 = .ok (.getfield 30, 3) := by decide +kernel
theorem d_Mo_goesRound_66 : decode k_Mo_goesRound 66 = .ok (.iload_n 3, 1) := by decide +kernel
theorem d_Mo_goesRound_67 : decode k_Mo_goesRound 67 = .ok (.iload_n 2, 1) := by decide +kernel
theorem d_Mo_goesRound_68 : decode k_Mo_goesRound 68 = .ok (.iload_n 3, 1) := by decide +kernel
theorem d_Mo_goesRound_69 : decode k_Mo_goesRound 69 = .ok (.ishr, 1) := by decide +kernel
theorem d_Mo_goesRound_70 : decode k_Mo_goesRound 70 = .ok (.iconst 1, 1) := by decide +kernel
theorem d_Mo_goesRound_71 : decode k_Mo_goesRound 71 = .ok (.iand, 1) := by decide +kernel
theorem d_Mo_goesRound_72 : decode k_Mo_goesRound 72 = .ok (.iconst 1, 1) := by decide +kernel
theorem d_Mo_goesRound_73 : decode k_Mo_goesRound 73 = .ok (.if_icmp .ne 16, 3) := by decide +kernel
theorem d_Mo_goesRound_76 : decode k_Mo_goesRound 76 = .ok (.aload_n 0, 1) := by decide +kernel
theorem d_Mo_goesRound_77 : decode k_Mo_goesRound 77 = .ok (.getfield 30, 3) := by decide +kernel
theorem d_Mo_goesRound_80 : decode k_Mo_goesRound 80 = .ok (.iload_n 3, 1) := by decide +kernel
theorem d_Mo_goesRound_81 : decode k_Mo_goesRound 81 = .ok (.iaload, 1) := by decide +kernel
theorem d_Mo_goesRound_82 : decode k_Mo_goesRound 82 = .ok (.ifCond .ne 7, 3) := by decide +kernel
theorem d_Mo_goesRound_85 : decode k_Mo_goesRound 85 = .ok (.iload_n 1, 1) := by decide +kernel
theorem d_Mo_goesRound_86 : decode k_Mo_goesRound 86 = .ok (.goto 9, 3) := by decide +kernel
theorem d_Mo_goesRound_89 : decode k_Mo_goesRound 89 = .ok (.aload_n 0, 1) := by decide +kernel
theorem d_Mo_goesRound_90 : decode k_Mo_goesRound 90 = .ok (.getfield 30, 3) := by decide +kernel
theorem d_Mo_goesRound_93 : decode k_Mo_goesRound 93 = .ok (.iload_n 3, 1) := by decide +kernel
theorem d_Mo_goesRound_94 : decode k_Mo_goesRound 94 = .ok (.iaload, 1) := by decide +kernel
theorem d_Mo_goesRound_95 : decode k_Mo_goesRound 95 = .ok (.iastore, 1) := by decide +kernel
theorem d_Mo_goesRound_96 : decode k_Mo_goesRound 96 = .ok (.iinc 3 1, 3) := by decide +kernel
theorem d_Mo_goesRound_99 : decode k_Mo_goesRound 99 = .ok (.goto (-45), 3) := by decide +kernel
theorem d_Mo_goesRound_102 : decode k_Mo_goesRound 102 = .ok (.aload_n 0, 1) := by decide +kernel
theorem d_Mo_goesRound_103 : decode k_Mo_goesRound 103 = .ok (.iload_n 2, 1) := by decide +kernel
theorem d_Mo_goesRound_104 : decode k_Mo_goesRound 104 = .ok (.putfield 106, 3) := by decide +kernel
theorem d_Mo_goesRound_107 : decode k_Mo_goesRound 107 = .ok (.iinc 1 1, 3) := by decide +kernel
theorem d_Mo_goesRound_110 : decode k_Mo_goesRound 110 = .ok (.goto (-80), 3) := by decide +kernel
theorem d_Mo_goesRound_113 : decode k_Mo_goesRound 113 = .ok (.return_, 1) := by decide +kernel
theorem d_Mo_isSet_0 : decode k_Mo_isSet 0 = .ok (.iload_n 1, 1) := by decide +kernel
theorem d_Mo_isSet_1 : decode k_Mo_isSet 1 = .ok (.ifCond .lt 17, 3) := by decide +kernel
theorem d_Mo_isSet_4 : decode k_Mo_isSet 4 = .ok (.iload_n 1, 1) := by decide +kernel
theorem d_Mo_isSet_5 : decode k_Mo_isSet 5 = .ok (.iconst 1, 1) := by decide +kernel
theorem d_Mo_isSet_6 : decode k_Mo_isSet 6 = .ok (.aload_n 0, 1) := by decide +kernel
theorem d_Mo_isSet_7 : decode k_Mo_isSet 7 = .ok (.getfield 61, 3) := by decide +kernel
theorem d_Mo_isSet_10 : decode k_Mo_isSet 10 = .ok (.ishl, 1) := by decide +kernel
theorem d_Mo_isSet_11 : decode k_Mo_isSet 11 = .ok (.if_icmp .ge 7, 3) := by decide +kernel
theorem d_Mo_isSet_14 : decode k_Mo_isSet 14 = .ok (.iconst 1, 1) := by decide +kernel
theorem d_Mo_isSet_15 : decode k_Mo_isSet 15 = .ok (.goto 4, 3) := by decide +kernel
theorem d_Mo_isSet_18 : decode k_Mo_isSet 18 = .ok (.iconst 0, 1) := by decide +kernel
theorem d_Mo_isSet_19 : decode k_Mo_isSet 19 = .ok (.ireturn, 1) := by decide +kernel
theorem d_Mo_is_0 : decode k_Mo_is 0 = .ok (.aload_n 0, 1) := by decide +kernel
theorem d_Mo_is_1 : decode k_Mo_is 1 = .ok (.iconst 0, 1) := by decide +kernel
theorem d_Mo_is_2 : decode k_Mo_is 2 = .ok (.putfield 57, 3) := by decide +kernel
theorem d_Mo_is_5 : decode k_Mo_is 5 = .ok (.iload_n 1, 1) := by decide +kernel
theorem d_Mo_is_6 : decode k_Mo_is 6 = .ok (.invokestatic 115, 3) := by decide +kernel
theorem d_Mo_is_9 : decode k_Mo_is 9 = .ok (.ifCond .eq 24, 3) := by decide +kernel
theorem d_Mo_is_12 : decode k_Mo_is 12 = .ok (.aload_n 0, 1) := by decide +kernel
theorem d_Mo_is_13 : decode k_Mo_is 13 = .ok (.iload_n 2, 1) := by decide +kernel
theorem d_Mo_is_14 : decode k_Mo_is 14 = .ok (.invokevirtual 112, 3) := by decide +kernel
theorem d_Mo_is_17 : decode k_Mo_is 17 = .ok (.ifCond .eq 16, 3) := by decide +kernel
theorem d_Mo_is_20 : decode k_Mo_is 20 = .ok (.aload_n 0, 1) := by decide +kernel
theorem d_Mo_is_21 : decode k_Mo_is 21 = .ok (.iload_n 1, 1) := by decide +kernel
theorem d_Mo_is_22 : decode k_Mo_is 22 = .ok (.iload_n 2, 1) := by decide +kernel
theorem d_Mo_is_23 : decode k_Mo_is 23 = .ok (.invokevirtual 118, 3) := by decide +kernel
theorem d_Mo_is_26 : decode k_Mo_is 26 = .ok (.ifCond .eq 7, 3) := by decide +kernel
theorem d_Mo_is_29 : decode k_Mo_is 29 = .ok (.iconst 1, 1) := by decide +kernel
theorem d_Mo_is_30 : decode k_Mo_is 30 = .ok (.goto 4, 3) := by decide +kernel
theorem d_Mo_is_33 : decode k_Mo_is 33 = .ok (.iconst 0, 1) := by decide +kernel
theorem d_Mo_is_34 : decode k_Mo_is 34 = .ok (.ireturn, 1) := by decide +kernel
theorem d_Mo_isKind_0 : decode k_Mo_isKind 0 = .ok (.iload_n 0, 1) := by decide +kernel
theorem d_Mo_isKind_1 : decode k_Mo_isKind 1 = .ok (.ifCond .lt 12, 3) := by decide +kernel
theorem d_Mo_isKind_4 : decode k_Mo_isKind 4 = .ok (.iload_n 0, 1) := by decide +kernel
theorem d_Mo_isKind_5 : decode k_Mo_isKind 5 = .ok (.iconst 5, 1) := by decide +kernel
theorem d_Mo_isKind_6 : decode k_Mo_isKind 6 = .ok (.if_icmp .ge 7, 3) := by decide +kernel
theorem d_Mo_isKind_9 : decode k_Mo_isKind 9 = .ok (.iconst 1, 1) := by decide +kernel
theorem d_Mo_isKind_10 : decode k_Mo_isKind 10 = .ok (.goto 4, 3) := by decide +kernel
theorem d_Mo_isKind_13 : decode k_Mo_isKind 13 = .ok (.iconst 0, 1) := by decide +kernel
theorem d_Mo_isKind_14 : decode k_Mo_isKind 14 = .ok (.ireturn, 1) := by decide +kernel
theorem d_Mo_isOf_0 : decode k_Mo_isOf 0 = .ok (.aload_n 0, 1) := by decide +kernel
theorem d_Mo_isOf_1 : decode k_Mo_isOf 1 = .ok (.invokevirtual 109, 3) := by decide +kernel
theorem d_Mo_isOf_4 : decode k_Mo_isOf 4 = .ok (.aload_n 0, 1) := by decide +kernel
theorem d_Mo_isOf_5 : decode k_Mo_isOf 5 = .ok (.getfield 19, 3) := by decide +kernel
theorem d_Mo_isOf_8 : decode k_Mo_isOf 8 = .ok (.iload_n 2, 1) := by decide +kernel
theorem d_Mo_isOf_9 : decode k_Mo_isOf 9 = .ok (.baload, 1) := by decide +kernel
theorem d_Mo_isOf_10 : decode k_Mo_isOf 10 = .ok (.iload_n 1, 1) := by decide +kernel
theorem d_Mo_isOf_11 : decode k_Mo_isOf 11 = .ok (.ishr, 1) := by decide +kernel
theorem d_Mo_isOf_12 : decode k_Mo_isOf 12 = .ok (.iconst 1, 1) := by decide +kernel
theorem d_Mo_isOf_13 : decode k_Mo_isOf 13 = .ok (.iand, 1) := by decide +kernel
theorem d_Mo_isOf_14 : decode k_Mo_isOf 14 = .ok (.iconst 1, 1) := by decide +kernel
theorem d_Mo_isOf_15 : decode k_Mo_isOf 15 = .ok (.if_icmp .ne 7, 3) := by decide +kernel
theorem d_Mo_isOf_18 : decode k_Mo_isOf 18 = .ok (.iconst 1, 1) := by decide +kernel
theorem d_Mo_isOf_19 : decode k_Mo_isOf 19 = .ok (.goto 4, 3) := by decide +kernel
theorem d_Mo_isOf_22 : decode k_Mo_isOf 22 = .ok (.iconst 0, 1) := by decide +kernel
theorem d_Mo_isOf_23 : decode k_Mo_isOf 23 = .ok (.ireturn, 1) := by decide +kernel
theorem d_Mo_attackedBy_0 : decode k_Mo_attackedBy 0 = .ok (.aload_n 0, 1) := by decide +kernel
theorem d_Mo_attackedBy_1 : decode k_Mo_attackedBy 1 = .ok (.iconst 0, 1) := by decide +kernel
theorem d_Mo_attackedBy_2 : decode k_Mo_attackedBy 2 = .ok (.putfield 57, 3) := by decide +kernel
theorem d_Mo_attackedBy_5 : decode k_Mo_attackedBy 5 = .ok (.aload_n 0, 1) := by decide +kernel
theorem d_Mo_attackedBy_6 : decode k_Mo_attackedBy 6 = .ok (.invokevirtual 109, 3) := by decide +kernel
theorem d_Mo_attackedBy_9 : decode k_Mo_attackedBy 9 = .ok (.aload_n 0, 1) := by decide +kernel
theorem d_Mo_attackedBy_10 : decode k_Mo_attackedBy 10 = .ok (.iload_n 1, 1) := by decide +kernel
theorem d_Mo_attackedBy_11 : decode k_Mo_attackedBy 11 = .ok (.invokevirtual 112, 3) := by decide +kernel
theorem d_Mo_attackedBy_14 : decode k_Mo_attackedBy 14 = .ok (.ifCond .eq 12, 3) := by decide +kernel
theorem d_Mo_attackedBy_17 : decode k_Mo_attackedBy 17 = .ok (.aload_n 0, 1) := by decide +kernel
theorem d_Mo_attackedBy_18 : decode k_Mo_attackedBy 18 = .ok (.getfield 16, 3) := by decide +kernel
theorem d_Mo_attackedBy_21 : decode k_Mo_attackedBy 21 = .ok (.iload_n 1, 1) := by decide +kernel
theorem d_Mo_attackedBy_22 : decode k_Mo_attackedBy 22 = .ok (.iaload, 1) := by decide +kernel
theorem d_Mo_attackedBy_23 : decode k_Mo_attackedBy 23 = .ok (.goto 4, 3) := by decide +kernel
theorem d_Mo_attackedBy_26 : decode k_Mo_attackedBy 26 = .ok (.iconst (-1), 1) := by decide +kernel
theorem d_Mo_attackedBy_27 : decode k_Mo_attackedBy 27 = .ok (.ireturn, 1) := by decide +kernel
theorem d_Mo_defendedBy_0 : decode k_Mo_defendedBy 0 = .ok (.aload_n 0, 1) := by decide +kernel
theorem d_Mo_defendedBy_1 : decode k_Mo_defendedBy 1 = .ok (.iconst 0, 1) := by decide +kernel
theorem d_Mo_defendedBy_2 : decode k_Mo_defendedBy 2 = .ok (.putfield 57, 3) := by decide +kernel
theorem d_Mo_defendedBy_5 : decode k_Mo_defendedBy 5 = .ok (.aload_n 0, 1) := by decide +kernel
theorem d_Mo_defendedBy_6 : decode k_Mo_defendedBy 6 = .ok (.invokevirtual 109, 3) := by decide +kernel
theorem d_Mo_defendedBy_9 : decode k_Mo_defendedBy 9 = .ok (.aload_n 0, 1) := by decide +kernel
theorem d_Mo_defendedBy_10 : decode k_Mo_defendedBy 10 = .ok (.iload_n 1, 1) := by decide +kernel
theorem d_Mo_defendedBy_11 : decode k_Mo_defendedBy 11 = .ok (.invokevirtual 112, 3) := by decide +kernel
theorem d_Mo_defendedBy_14 : decode k_Mo_defendedBy 14 = .ok (.ifCond .eq 16, 3) := by decide +kernel
theorem d_Mo_defendedBy_17 : decode k_Mo_defendedBy 17 = .ok (.aload_n 0, 1) := by decide +kernel
theorem d_Mo_defendedBy_18 : decode k_Mo_defendedBy 18 = .ok (.aload_n 0, 1) := by decide +kernel
theorem d_Mo_defendedBy_19 : decode k_Mo_defendedBy 19 = .ok (.getfield 16, 3) := by decide +kernel
theorem d_Mo_defendedBy_22 : decode k_Mo_defendedBy 22 = .ok (.iload_n 1, 1) := by decide +kernel
theorem d_Mo_defendedBy_23 : decode k_Mo_defendedBy 23 = .ok (.iaload, 1) := by decide +kernel
theorem d_Mo_defendedBy_24 : decode k_Mo_defendedBy 24 = .ok (.invokevirtual 89, 3) := by decide +kernel
theorem d_Mo_defendedBy_27 : decode k_Mo_defendedBy 27 = .ok (.goto 4, 3) := by decide +kernel
theorem d_Mo_defendedBy_30 : decode k_Mo_defendedBy 30 = .ok (.iconst (-1), 1) := by decide +kernel
theorem d_Mo_defendedBy_31 : decode k_Mo_defendedBy 31 = .ok (.ireturn, 1) := by decide +kernel
theorem d_Mo_grounded_0 : decode k_Mo_grounded 0 = .ok (.aload_n 0, 1) := by decide +kernel
theorem d_Mo_grounded_1 : decode k_Mo_grounded 1 = .ok (.iconst 0, 1) := by decide +kernel
theorem d_Mo_grounded_2 : decode k_Mo_grounded 2 = .ok (.putfield 57, 3) := by decide +kernel
theorem d_Mo_grounded_5 : decode k_Mo_grounded 5 = .ok (.aload_n 0, 1) := by decide +kernel
theorem d_Mo_grounded_6 : decode k_Mo_grounded 6 = .ok (.invokevirtual 109, 3) := by decide +kernel
theorem d_Mo_grounded_9 : decode k_Mo_grounded 9 = .ok (.aload_n 0, 1) := by decide +kernel
theorem d_Mo_grounded_10 : decode k_Mo_grounded 10 = .ok (.getfield 106, 3) := by decide +kernel
theorem d_Mo_grounded_13 : decode k_Mo_grounded 13 = .ok (.ireturn, 1) := by decide +kernel
theorem d_Mo_round_0 : decode k_Mo_round 0 = .ok (.aload_n 0, 1) := by decide +kernel
theorem d_Mo_round_1 : decode k_Mo_round 1 = .ok (.iconst 0, 1) := by decide +kernel
theorem d_Mo_round_2 : decode k_Mo_round 2 = .ok (.putfield 57, 3) := by decide +kernel
theorem d_Mo_round_5 : decode k_Mo_round 5 = .ok (.aload_n 0, 1) := by decide +kernel
theorem d_Mo_round_6 : decode k_Mo_round 6 = .ok (.invokevirtual 109, 3) := by decide +kernel
theorem d_Mo_round_9 : decode k_Mo_round 9 = .ok (.aload_n 0, 1) := by decide +kernel
theorem d_Mo_round_10 : decode k_Mo_round 10 = .ok (.iload_n 1, 1) := by decide +kernel
theorem d_Mo_round_11 : decode k_Mo_round 11 = .ok (.invokevirtual 81, 3) := by decide +kernel
theorem d_Mo_round_14 : decode k_Mo_round 14 = .ok (.ifCond .eq 12, 3) := by decide +kernel
theorem d_Mo_round_17 : decode k_Mo_round 17 = .ok (.aload_n 0, 1) := by decide +kernel
theorem d_Mo_round_18 : decode k_Mo_round 18 = .ok (.getfield 30, 3) := by decide +kernel
theorem d_Mo_round_21 : decode k_Mo_round 21 = .ok (.iload_n 1, 1) := by decide +kernel
theorem d_Mo_round_22 : decode k_Mo_round 22 = .ok (.iaload, 1) := by decide +kernel
theorem d_Mo_round_23 : decode k_Mo_round 23 = .ok (.goto 4, 3) := by decide +kernel
theorem d_Mo_round_26 : decode k_Mo_round 26 = .ok (.iconst 0, 1) := by decide +kernel
theorem d_Mo_round_27 : decode k_Mo_round 27 = .ok (.ireturn, 1) := by decide +kernel
theorem d_Mo_ideal_0 : decode k_Mo_ideal 0 = .ok (.aload_n 0, 1) := by decide +kernel
theorem d_Mo_ideal_1 : decode k_Mo_ideal 1 = .ok (.iconst 0, 1) := by decide +kernel
theorem d_Mo_ideal_2 : decode k_Mo_ideal 2 = .ok (.putfield 57, 3) := by decide +kernel
theorem d_Mo_ideal_5 : decode k_Mo_ideal 5 = .ok (.iconst 1, 1) := by decide +kernel
theorem d_Mo_ideal_6 : decode k_Mo_ideal 6 = .ok (.aload_n 0, 1) := by decide +kernel
theorem d_Mo_ideal_7 : decode k_Mo_ideal 7 = .ok (.getfield 61, 3) := by decide +kernel
theorem d_Mo_ideal_10 : decode k_Mo_ideal 10 = .ok (.ishl, 1) := by decide +kernel
theorem d_Mo_ideal_11 : decode k_Mo_ideal 11 = .ok (.iconst 1, 1) := by decide +kernel
theorem d_Mo_ideal_12 : decode k_Mo_ideal 12 = .ok (.isub, 1) := by decide +kernel
theorem d_Mo_ideal_13 : decode k_Mo_ideal 13 = .ok (.istore_n 1, 1) := by decide +kernel
theorem d_Mo_ideal_14 : decode k_Mo_ideal 14 = .ok (.iconst 0, 1) := by decide +kernel
theorem d_Mo_ideal_15 : decode k_Mo_ideal 15 = .ok (.istore_n 2, 1) := by decide +kernel
theorem d_Mo_ideal_16 : decode k_Mo_ideal 16 = .ok (.iload_n 2, 1) := by decide +kernel
theorem d_Mo_ideal_17 : decode k_Mo_ideal 17 = .ok (.iconst 1, 1) := by decide +kernel
theorem d_Mo_ideal_18 : decode k_Mo_ideal 18 = .ok (.aload_n 0, 1) := by decide +kernel
theorem d_Mo_ideal_19 : decode k_Mo_ideal 19 = .ok (.getfield 61, 3) := by decide +kernel
theorem d_Mo_ideal_22 : decode k_Mo_ideal 22 = .ok (.ishl, 1) := by decide +kernel
theorem d_Mo_ideal_23 : decode k_Mo_ideal 23 = .ok (.if_icmp .ge 26, 3) := by decide +kernel
theorem d_Mo_ideal_26 : decode k_Mo_ideal 26 = .ok (.aload_n 0, 1) := by decide +kernel
theorem d_Mo_ideal_27 : decode k_Mo_ideal 27 = .ok (.iconst 1, 1) := by decide +kernel
theorem d_Mo_ideal_28 : decode k_Mo_ideal 28 = .ok (.iload_n 2, 1) := by decide +kernel
theorem d_Mo_ideal_29 : decode k_Mo_ideal 29 = .ok (.invokevirtual 118, 3) := by decide +kernel
theorem d_Mo_ideal_32 : decode k_Mo_ideal 32 = .ok (.ifCond .eq 9, 3) := by decide +kernel
theorem d_Mo_ideal_35 : decode k_Mo_ideal 35 = .ok (.iload_n 1, 1) := by decide +kernel
theorem d_Mo_ideal_36 : decode k_Mo_ideal 36 = .ok (.iload_n 2, 1) := by decide +kernel
theorem d_Mo_ideal_37 : decode k_Mo_ideal 37 = .ok (.iand, 1) := by decide +kernel
theorem d_Mo_ideal_38 : decode k_Mo_ideal 38 = .ok (.goto 4, 3) := by decide +kernel
theorem d_Mo_ideal_41 : decode k_Mo_ideal 41 = .ok (.iload_n 1, 1) := by decide +kernel
theorem d_Mo_ideal_42 : decode k_Mo_ideal 42 = .ok (.istore_n 1, 1) := by decide +kernel
theorem d_Mo_ideal_43 : decode k_Mo_ideal 43 = .ok (.iinc 2 1, 3) := by decide +kernel
theorem d_Mo_ideal_46 : decode k_Mo_ideal 46 = .ok (.goto (-30), 3) := by decide +kernel
theorem d_Mo_ideal_49 : decode k_Mo_ideal 49 = .ok (.iconst 0, 1) := by decide +kernel
theorem d_Mo_ideal_50 : decode k_Mo_ideal 50 = .ok (.istore_n 2, 1) := by decide +kernel
theorem d_Mo_ideal_51 : decode k_Mo_ideal 51 = .ok (.iconst 0, 1) := by decide +kernel
theorem d_Mo_ideal_52 : decode k_Mo_ideal 52 = .ok (.istore_n 3, 1) := by decide +kernel
theorem d_Mo_ideal_53 : decode k_Mo_ideal 53 = .ok (.iload_n 3, 1) := by decide +kernel
theorem d_Mo_ideal_54 : decode k_Mo_ideal 54 = .ok (.iconst 1, 1) := by decide +kernel
theorem d_Mo_ideal_55 : decode k_Mo_ideal 55 = .ok (.aload_n 0, 1) := by decide +kernel
theorem d_Mo_ideal_56 : decode k_Mo_ideal 56 = .ok (.getfield 61, 3) := by decide +kernel
theorem d_Mo_ideal_59 : decode k_Mo_ideal 59 = .ok (.ishl, 1) := by decide +kernel
theorem d_Mo_ideal_60 : decode k_Mo_ideal 60 = .ok (.if_icmp .ge 34, 3) := by decide +kernel
theorem d_Mo_ideal_63 : decode k_Mo_ideal 63 = .ok (.iload_n 3, 1) := by decide +kernel
theorem d_Mo_ideal_64 : decode k_Mo_ideal 64 = .ok (.iload_n 1, 1) := by decide +kernel
theorem d_Mo_ideal_65 : decode k_Mo_ideal 65 = .ok (.iconst (-1), 1) := by decide +kernel
theorem d_Mo_ideal_66 : decode k_Mo_ideal 66 = .ok (.ixor, 1) := by decide +kernel
theorem d_Mo_ideal_67 : decode k_Mo_ideal 67 = .ok (.iand, 1) := by decide +kernel
theorem d_Mo_ideal_68 : decode k_Mo_ideal 68 = .ok (.ifCond .ne 18, 3) := by decide +kernel
theorem d_Mo_ideal_71 : decode k_Mo_ideal 71 = .ok (.aload_n 0, 1) := by decide +kernel
theorem d_Mo_ideal_72 : decode k_Mo_ideal 72 = .ok (.iconst 4, 1) := by decide +kernel
theorem d_Mo_ideal_73 : decode k_Mo_ideal 73 = .ok (.iload_n 3, 1) := by decide +kernel
theorem d_Mo_ideal_74 : decode k_Mo_ideal 74 = .ok (.invokevirtual 118, 3) := by decide +kernel
theorem d_Mo_ideal_77 : decode k_Mo_ideal 77 = .ok (.ifCond .eq 9, 3) := by decide +kernel
theorem d_Mo_ideal_80 : decode k_Mo_ideal 80 = .ok (.iload_n 2, 1) := by decide +kernel
theorem d_Mo_ideal_81 : decode k_Mo_ideal 81 = .ok (.iload_n 3, 1) := by decide +kernel
theorem d_Mo_ideal_82 : decode k_Mo_ideal 82 = .ok (.ior, 1) := by decide +kernel
theorem d_Mo_ideal_83 : decode k_Mo_ideal 83 = .ok (.goto 4, 3) := by decide +kernel
theorem d_Mo_ideal_86 : decode k_Mo_ideal 86 = .ok (.iload_n 2, 1) := by decide +kernel
theorem d_Mo_ideal_87 : decode k_Mo_ideal 87 = .ok (.istore_n 2, 1) := by decide +kernel
theorem d_Mo_ideal_88 : decode k_Mo_ideal 88 = .ok (.iinc 3 1, 3) := by decide +kernel
theorem d_Mo_ideal_91 : decode k_Mo_ideal 91 = .ok (.goto (-38), 3) := by decide +kernel
theorem d_Mo_ideal_94 : decode k_Mo_ideal 94 = .ok (.iload_n 2, 1) := by decide +kernel
theorem d_Mo_ideal_95 : decode k_Mo_ideal 95 = .ok (.ireturn, 1) := by decide +kernel
theorem d_Mo_start_0 : decode k_Mo_start 0 = .ok (.aload_n 0, 1) := by decide +kernel
theorem d_Mo_start_1 : decode k_Mo_start 1 = .ok (.iload_n 1, 1) := by decide +kernel
theorem d_Mo_start_2 : decode k_Mo_start 2 = .ok (.invokestatic 115, 3) := by decide +kernel
theorem d_Mo_start_5 : decode k_Mo_start 5 = .ok (.ifCond .eq 7, 3) := by decide +kernel
theorem d_Mo_start_8 : decode k_Mo_start 8 = .ok (.iconst 0, 1) := by decide +kernel
theorem d_Mo_start_9 : decode k_Mo_start 9 = .ok (.goto 4, 3) := by decide +kernel
theorem d_Mo_start_12 : decode k_Mo_start 12 = .ok (.iconst 1, 1) := by decide +kernel
theorem d_Mo_start_13 : decode k_Mo_start 13 = .ok (.putfield 57, 3) := by decide +kernel
theorem d_Mo_start_16 : decode k_Mo_start 16 = .ok (.aload_n 0, 1) := by decide +kernel
theorem d_Mo_start_17 : decode k_Mo_start 17 = .ok (.getfield 57, 3) := by decide +kernel
theorem d_Mo_start_20 : decode k_Mo_start 20 = .ok (.ifCond .le 4, 3) := by decide +kernel
theorem d_Mo_start_23 : decode k_Mo_start 23 = .ok (.return_, 1) := by decide +kernel
theorem d_Mo_start_24 : decode k_Mo_start 24 = .ok (.aload_n 0, 1) := by decide +kernel
theorem d_Mo_start_25 : decode k_Mo_start 25 = .ok (.iconst 1, 1) := by decide +kernel
theorem d_Mo_start_26 : decode k_Mo_start 26 = .ok (.putfield 71, 3) := by decide +kernel
theorem d_Mo_start_29 : decode k_Mo_start 29 = .ok (.aload_n 0, 1) := by decide +kernel
theorem d_Mo_start_30 : decode k_Mo_start 30 = .ok (.iconst 0, 1) := by decide +kernel
theorem d_Mo_start_31 : decode k_Mo_start 31 = .ok (.putfield 74, 3) := by decide +kernel
theorem d_Mo_start_34 : decode k_Mo_start 34 = .ok (.aload_n 0, 1) := by decide +kernel
theorem d_Mo_start_35 : decode k_Mo_start 35 = .ok (.iload_n 1, 1) := by decide +kernel
theorem d_Mo_start_36 : decode k_Mo_start 36 = .ok (.putfield 122, 3) := by decide +kernel
theorem d_Mo_start_39 : decode k_Mo_start 39 = .ok (.aload_n 0, 1) := by decide +kernel
theorem d_Mo_start_40 : decode k_Mo_start 40 = .ok (.iconst (-1), 1) := by decide +kernel
theorem d_Mo_start_41 : decode k_Mo_start 41 = .ok (.putfield 125, 3) := by decide +kernel
theorem d_Mo_start_44 : decode k_Mo_start 44 = .ok (.return_, 1) := by decide +kernel
theorem d_Mo_next_0 : decode k_Mo_next 0 = .ok (.aload_n 0, 1) := by decide +kernel
theorem d_Mo_next_1 : decode k_Mo_next 1 = .ok (.aload_n 0, 1) := by decide +kernel
theorem d_Mo_next_2 : decode k_Mo_next 2 = .ok (.getfield 71, 3) := by decide +kernel
theorem d_Mo_next_5 : decode k_Mo_next 5 = .ok (.ifCond .eq 7, 3) := by decide +kernel
theorem d_Mo_next_8 : decode k_Mo_next 8 = .ok (.iconst 0, 1) := by decide +kernel
theorem d_Mo_next_9 : decode k_Mo_next 9 = .ok (.goto 4, 3) := by decide +kernel
theorem d_Mo_next_12 : decode k_Mo_next 12 = .ok (.iconst 1, 1) := by decide +kernel
theorem d_Mo_next_13 : decode k_Mo_next 13 = .ok (.putfield 57, 3) := by decide +kernel
theorem d_Mo_next_16 : decode k_Mo_next 16 = .ok (.aload_n 0, 1) := by decide +kernel
theorem d_Mo_next_17 : decode k_Mo_next 17 = .ok (.getfield 57, 3) := by decide +kernel
theorem d_Mo_next_20 : decode k_Mo_next 20 = .ok (.ifCond .le 5, 3) := by decide +kernel
theorem d_Mo_next_23 : decode k_Mo_next 23 = .ok (.iconst 0, 1) := by decide +kernel
theorem d_Mo_next_24 : decode k_Mo_next 24 = .ok (.ireturn, 1) := by decide +kernel
theorem d_Mo_next_25 : decode k_Mo_next 25 = .ok (.aload_n 0, 1) := by decide +kernel
theorem d_Mo_next_26 : decode k_Mo_next 26 = .ok (.getfield 125, 3) := by decide +kernel
theorem d_Mo_next_29 : decode k_Mo_next 29 = .ok (.iconst 1, 1) := by decide +kernel
theorem d_Mo_next_30 : decode k_Mo_next 30 = .ok (.iadd, 1) := by decide +kernel
theorem d_Mo_next_31 : decode k_Mo_next 31 = .ok (.istore_n 1, 1) := by decide +kernel
theorem d_Mo_next_32 : decode k_Mo_next 32 = .ok (.iload_n 1, 1) := by decide +kernel
theorem d_Mo_next_33 : decode k_Mo_next 33 = .ok (.iconst 1, 1) := by decide +kernel
theorem d_Mo_next_34 : decode k_Mo_next 34 = .ok (.aload_n 0, 1) := by decide +kernel
theorem d_Mo_next_35 : decode k_Mo_next 35 = .ok (.getfield 61, 3) := by decide +kernel
theorem d_Mo_next_38 : decode k_Mo_next 38 = .ok (.ishl, 1) := by decide +kernel
theorem d_Mo_next_39 : decode k_Mo_next 39 = .ok (.if_icmp .ge 33, 3) := by decide +kernel
theorem d_Mo_next_42 : decode k_Mo_next 42 = .ok (.aload_n 0, 1) := by decide +kernel
theorem d_Mo_next_43 : decode k_Mo_next 43 = .ok (.aload_n 0, 1) := by decide +kernel
theorem d_Mo_next_44 : decode k_Mo_next 44 = .ok (.getfield 122, 3) := by decide +kernel
theorem d_Mo_next_47 : decode k_Mo_next 47 = .ok (.iload_n 1, 1) := by decide +kernel
theorem d_Mo_next_48 : decode k_Mo_next 48 = .ok (.invokevirtual 118, 3) := by decide +kernel
theorem d_Mo_next_51 : decode k_Mo_next 51 = .ok (.ifCond .eq 15, 3) := by decide +kernel
theorem d_Mo_next_54 : decode k_Mo_next 54 = .ok (.aload_n 0, 1) := by decide +kernel
theorem d_Mo_next_55 : decode k_Mo_next 55 = .ok (.iload_n 1, 1) := by decide +kernel
theorem d_Mo_next_56 : decode k_Mo_next 56 = .ok (.putfield 125, 3) := by decide +kernel
theorem d_Mo_next_59 : decode k_Mo_next 59 = .ok (.aload_n 0, 1) := by decide +kernel
theorem d_Mo_next_60 : decode k_Mo_next 60 = .ok (.iconst 1, 1) := by decide +kernel
theorem d_Mo_next_61 : decode k_Mo_next 61 = .ok (.putfield 74, 3) := by decide +kernel
theorem d_Mo_next_64 : decode k_Mo_next 64 = .ok (.iload_n 1, 1) := by decide +kernel
theorem d_Mo_next_65 : decode k_Mo_next 65 = .ok (.ireturn, 1) := by decide +kernel
theorem d_Mo_next_66 : decode k_Mo_next 66 = .ok (.iinc 1 1, 3) := by decide +kernel
theorem d_Mo_next_69 : decode k_Mo_next 69 = .ok (.goto (-37), 3) := by decide +kernel
theorem d_Mo_next_72 : decode k_Mo_next 72 = .ok (.aload_n 0, 1) := by decide +kernel
theorem d_Mo_next_73 : decode k_Mo_next 73 = .ok (.iconst 0, 1) := by decide +kernel
theorem d_Mo_next_74 : decode k_Mo_next 74 = .ok (.putfield 71, 3) := by decide +kernel
theorem d_Mo_next_77 : decode k_Mo_next 77 = .ok (.aload_n 0, 1) := by decide +kernel
theorem d_Mo_next_78 : decode k_Mo_next 78 = .ok (.iconst 0, 1) := by decide +kernel
theorem d_Mo_next_79 : decode k_Mo_next 79 = .ok (.putfield 74, 3) := by decide +kernel
theorem d_Mo_next_82 : decode k_Mo_next 82 = .ok (.iconst (-1), 1) := by decide +kernel
theorem d_Mo_next_83 : decode k_Mo_next 83 = .ok (.ireturn, 1) := by decide +kernel
theorem d_Mo_label_0 : decode k_Mo_label 0 = .ok (.aload_n 0, 1) := by decide +kernel
theorem d_Mo_label_1 : decode k_Mo_label 1 = .ok (.aload_n 0, 1) := by decide +kernel
theorem d_Mo_label_2 : decode k_Mo_label 2 = .ok (.iload_n 1, 1) := by decide +kernel
theorem d_Mo_label_3 : decode k_Mo_label 3 = .ok (.invokevirtual 81, 3) := by decide +kernel
theorem d_Mo_label_6 : decode k_Mo_label 6 = .ok (.ifCond .ne 7, 3) := by decide +kernel
theorem d_Mo_label_9 : decode k_Mo_label 9 = .ok (.iconst 1, 1) := by decide +kernel
theorem d_Mo_label_10 : decode k_Mo_label 10 = .ok (.goto 15, 3) := by decide +kernel
theorem d_Mo_label_13 : decode k_Mo_label 13 = .ok (.aload_n 0, 1) := by decide +kernel
theorem d_Mo_label_14 : decode k_Mo_label 14 = .ok (.getfield 74, 3) := by decide +kernel
theorem d_Mo_label_17 : decode k_Mo_label 17 = .ok (.ifCond .ne 7, 3) := by decide +kernel
theorem d_Mo_label_20 : decode k_Mo_label 20 = .ok (.iconst 2, 1) := by decide +kernel
theorem d_Mo_label_21 : decode k_Mo_label 21 = .ok (.goto 4, 3) := by decide +kernel
theorem d_Mo_label_24 : decode k_Mo_label 24 = .ok (.iconst 0, 1) := by decide +kernel
theorem d_Mo_label_25 : decode k_Mo_label 25 = .ok (.putfield 57, 3) := by decide +kernel
theorem d_Mo_label_28 : decode k_Mo_label 28 = .ok (.aload_n 0, 1) := by decide +kernel
theorem d_Mo_label_29 : decode k_Mo_label 29 = .ok (.getfield 57, 3) := by decide +kernel
theorem d_Mo_label_32 : decode k_Mo_label 32 = .ok (.ifCond .le 5, 3) := by decide +kernel
theorem d_Mo_label_35 : decode k_Mo_label 35 = .ok (.iconst 0, 1) := by decide +kernel
theorem d_Mo_label_36 : decode k_Mo_label 36 = .ok (.ireturn, 1) := by decide +kernel
theorem d_Mo_label_37 : decode k_Mo_label 37 = .ok (.aload_n 0, 1) := by decide +kernel
theorem d_Mo_label_38 : decode k_Mo_label 38 = .ok (.invokevirtual 109, 3) := by decide +kernel
theorem d_Mo_label_41 : decode k_Mo_label 41 = .ok (.aload_n 0, 1) := by decide +kernel
theorem d_Mo_label_42 : decode k_Mo_label 42 = .ok (.getfield 125, 3) := by decide +kernel
theorem d_Mo_label_45 : decode k_Mo_label 45 = .ok (.iload_n 1, 1) := by decide +kernel
theorem d_Mo_label_46 : decode k_Mo_label 46 = .ok (.ishr, 1) := by decide +kernel
theorem d_Mo_label_47 : decode k_Mo_label 47 = .ok (.iconst 1, 1) := by decide +kernel
theorem d_Mo_label_48 : decode k_Mo_label 48 = .ok (.iand, 1) := by decide +kernel
theorem d_Mo_label_49 : decode k_Mo_label 49 = .ok (.iconst 1, 1) := by decide +kernel
theorem d_Mo_label_50 : decode k_Mo_label 50 = .ok (.if_icmp .ne 7, 3) := by decide +kernel
theorem d_Mo_label_53 : decode k_Mo_label 53 = .ok (.iconst 1, 1) := by decide +kernel
theorem d_Mo_label_54 : decode k_Mo_label 54 = .ok (.goto 25, 3) := by decide +kernel
theorem d_Mo_label_57 : decode k_Mo_label 57 = .ok (.aload_n 0, 1) := by decide +kernel
theorem d_Mo_label_58 : decode k_Mo_label 58 = .ok (.getfield 16, 3) := by decide +kernel
theorem d_Mo_label_61 : decode k_Mo_label 61 = .ok (.aload_n 0, 1) := by decide +kernel
theorem d_Mo_label_62 : decode k_Mo_label 62 = .ok (.getfield 125, 3) := by decide +kernel
theorem d_Mo_label_65 : decode k_Mo_label 65 = .ok (.iaload, 1) := by decide +kernel
theorem d_Mo_label_66 : decode k_Mo_label 66 = .ok (.iload_n 1, 1) := by decide +kernel
theorem d_Mo_label_67 : decode k_Mo_label 67 = .ok (.ishr, 1) := by decide +kernel
theorem d_Mo_label_68 : decode k_Mo_label 68 = .ok (.iconst 1, 1) := by decide +kernel
theorem d_Mo_label_69 : decode k_Mo_label 69 = .ok (.iand, 1) := by decide +kernel
theorem d_Mo_label_70 : decode k_Mo_label 70 = .ok (.iconst 1, 1) := by decide +kernel
theorem d_Mo_label_71 : decode k_Mo_label 71 = .ok (.if_icmp .ne 7, 3) := by decide +kernel
theorem d_Mo_label_74 : decode k_Mo_label 74 = .ok (.iconst 0, 1) := by decide +kernel
theorem d_Mo_label_75 : decode k_Mo_label 75 = .ok (.goto 4, 3) := by decide +kernel
theorem d_Mo_label_78 : decode k_Mo_label 78 = .ok (.iconst 2, 1) := by decide +kernel
theorem d_Mo_label_79 : decode k_Mo_label 79 = .ok (.ireturn, 1) := by decide +kernel
theorem d_Mo_count_0 : decode k_Mo_count 0 = .ok (.aload_n 0, 1) := by decide +kernel
theorem d_Mo_count_1 : decode k_Mo_count 1 = .ok (.iload_n 1, 1) := by decide +kernel
theorem d_Mo_count_2 : decode k_Mo_count 2 = .ok (.invokestatic 115, 3) := by decide +kernel
theorem d_Mo_count_5 : decode k_Mo_count 5 = .ok (.ifCond .eq 7, 3) := by decide +kernel
theorem d_Mo_count_8 : decode k_Mo_count 8 = .ok (.iconst 0, 1) := by decide +kernel
theorem d_Mo_count_9 : decode k_Mo_count 9 = .ok (.goto 4, 3) := by decide +kernel
theorem d_Mo_count_12 : decode k_Mo_count 12 = .ok (.iconst 1, 1) := by decide +kernel
theorem d_Mo_count_13 : decode k_Mo_count 13 = .ok (.putfield 57, 3) := by decide +kernel
theorem d_Mo_count_16 : decode k_Mo_count 16 = .ok (.iconst 0, 1) := by decide +kernel
theorem d_Mo_count_17 : decode k_Mo_count 17 = .ok (.istore_n 2, 1) := by decide +kernel
theorem d_Mo_count_18 : decode k_Mo_count 18 = .ok (.iconst 0, 1) := by decide +kernel
theorem d_Mo_count_19 : decode k_Mo_count 19 = .ok (.istore_n 3, 1) := by decide +kernel
theorem d_Mo_count_20 : decode k_Mo_count 20 = .ok (.iload_n 3, 1) := by decide +kernel
theorem d_Mo_count_21 : decode k_Mo_count 21 = .ok (.iconst 1, 1) := by decide +kernel
theorem d_Mo_count_22 : decode k_Mo_count 22 = .ok (.aload_n 0, 1) := by decide +kernel
theorem d_Mo_count_23 : decode k_Mo_count 23 = .ok (.getfield 61, 3) := by decide +kernel
theorem d_Mo_count_26 : decode k_Mo_count 26 = .ok (.ishl, 1) := by decide +kernel
theorem d_Mo_count_27 : decode k_Mo_count 27 = .ok (.if_icmp .ge 33, 3) := by decide +kernel
theorem d_Mo_count_30 : decode k_Mo_count 30 = .ok (.aload_n 0, 1) := by decide +kernel
theorem d_Mo_count_31 : decode k_Mo_count 31 = .ok (.getfield 57, 3) := by decide +kernel
theorem d_Mo_count_34 : decode k_Mo_count 34 = .ok (.ifCond .ne 26, 3) := by decide +kernel
theorem d_Mo_count_37 : decode k_Mo_count 37 = .ok (.iload_n 2, 1) := by decide +kernel
theorem d_Mo_count_38 : decode k_Mo_count 38 = .ok (.aload_n 0, 1) := by decide +kernel
theorem d_Mo_count_39 : decode k_Mo_count 39 = .ok (.iload_n 1, 1) := by decide +kernel
theorem d_Mo_count_40 : decode k_Mo_count 40 = .ok (.iload_n 3, 1) := by decide +kernel
theorem d_Mo_count_41 : decode k_Mo_count 41 = .ok (.invokevirtual 118, 3) := by decide +kernel
theorem d_Mo_count_44 : decode k_Mo_count 44 = .ok (.ifCond .eq 7, 3) := by decide +kernel
theorem d_Mo_count_47 : decode k_Mo_count 47 = .ok (.iconst 1, 1) := by decide +kernel
theorem d_Mo_count_48 : decode k_Mo_count 48 = .ok (.goto 4, 3) := by decide +kernel
theorem d_Mo_count_51 : decode k_Mo_count 51 = .ok (.iconst 0, 1) := by decide +kernel
theorem d_Mo_count_52 : decode k_Mo_count 52 = .ok (.iadd, 1) := by decide +kernel
theorem d_Mo_count_53 : decode k_Mo_count 53 = .ok (.istore_n 2, 1) := by decide +kernel
theorem d_Mo_count_54 : decode k_Mo_count 54 = .ok (.iinc 3 1, 3) := by decide +kernel
theorem d_Mo_count_57 : decode k_Mo_count 57 = .ok (.goto (-37), 3) := by decide +kernel
theorem d_Mo_count_60 : decode k_Mo_count 60 = .ok (.iload_n 2, 1) := by decide +kernel
theorem d_Mo_count_61 : decode k_Mo_count 61 = .ok (.ireturn, 1) := by decide +kernel
theorem d_Mo_holds_0 : decode k_Mo_holds 0 = .ok (.aload_n 0, 1) := by decide +kernel
theorem d_Mo_holds_1 : decode k_Mo_holds 1 = .ok (.iload_n 1, 1) := by decide +kernel
theorem d_Mo_holds_2 : decode k_Mo_holds 2 = .ok (.invokestatic 115, 3) := by decide +kernel
theorem d_Mo_holds_5 : decode k_Mo_holds 5 = .ok (.ifCond .eq 15, 3) := by decide +kernel
theorem d_Mo_holds_8 : decode k_Mo_holds 8 = .ok (.aload_n 0, 1) := by decide +kernel
theorem d_Mo_holds_9 : decode k_Mo_holds 9 = .ok (.iload_n 2, 1) := by decide +kernel
theorem d_Mo_holds_10 : decode k_Mo_holds 10 = .ok (.invokevirtual 81, 3) := by decide +kernel
theorem d_Mo_holds_13 : decode k_Mo_holds 13 = .ok (.ifCond .eq 7, 3) := by decide +kernel
theorem d_Mo_holds_16 : decode k_Mo_holds 16 = .ok (.iconst 0, 1) := by decide +kernel
theorem d_Mo_holds_17 : decode k_Mo_holds 17 = .ok (.goto 4, 3) := by decide +kernel
theorem d_Mo_holds_20 : decode k_Mo_holds 20 = .ok (.iconst 1, 1) := by decide +kernel
theorem d_Mo_holds_21 : decode k_Mo_holds 21 = .ok (.putfield 57, 3) := by decide +kernel
theorem d_Mo_holds_24 : decode k_Mo_holds 24 = .ok (.aload_n 0, 1) := by decide +kernel
theorem d_Mo_holds_25 : decode k_Mo_holds 25 = .ok (.getfield 57, 3) := by decide +kernel
theorem d_Mo_holds_28 : decode k_Mo_holds 28 = .ok (.ifCond .le 5, 3) := by decide +kernel
theorem d_Mo_holds_31 : decode k_Mo_holds 31 = .ok (.iconst 0, 1) := by decide +kernel
theorem d_Mo_holds_32 : decode k_Mo_holds 32 = .ok (.ireturn, 1) := by decide +kernel
theorem d_Mo_holds_33 : decode k_Mo_holds 33 = .ok (.iconst 0, 1) := by decide +kernel
theorem d_Mo_holds_34 : decode k_Mo_holds 34 = .ok (.istore 4, 2) := by decide +kernel
theorem d_Mo_holds_36 : decode k_Mo_holds 36 = .ok (.iconst 1, 1) := by decide +kernel
theorem d_Mo_holds_37 : decode k_Mo_holds 37 = .ok (.istore 5, 2) := by decide +kernel
theorem d_Mo_holds_39 : decode k_Mo_holds 39 = .ok (.iconst 0, 1) := by decide +kernel
theorem d_Mo_holds_40 : decode k_Mo_holds 40 = .ok (.istore 6, 2) := by decide +kernel
theorem d_Mo_holds_42 : decode k_Mo_holds 42 = .ok (.iload 6, 2) := by decide +kernel
theorem d_Mo_holds_44 : decode k_Mo_holds 44 = .ok (.iconst 1, 1) := by decide +kernel
theorem d_Mo_holds_45 : decode k_Mo_holds 45 = .ok (.aload_n 0, 1) := by decide +kernel
theorem d_Mo_holds_46 : decode k_Mo_holds 46 = .ok (.getfield 61, 3) := by decide +kernel
theorem d_Mo_holds_49 : decode k_Mo_holds 49 = .ok (.ishl, 1) := by decide +kernel
theorem d_Mo_holds_50 : decode k_Mo_holds 50 = .ok (.if_icmp .ge 63, 3) := by decide +kernel
theorem d_Mo_holds_53 : decode k_Mo_holds 53 = .ok (.aload_n 0, 1) := by decide +kernel
theorem d_Mo_holds_54 : decode k_Mo_holds 54 = .ok (.iload_n 1, 1) := by decide +kernel
theorem d_Mo_holds_55 : decode k_Mo_holds 55 = .ok (.iload 6, 2) := by decide +kernel
theorem d_Mo_holds_57 : decode k_Mo_holds 57 = .ok (.invokevirtual 118, 3) := by decide +kernel
theorem d_Mo_holds_60 : decode k_Mo_holds 60 = .ok (.ifCond .eq 47, 3) := by decide +kernel
theorem d_Mo_holds_63 : decode k_Mo_holds 63 = .ok (.iload 4, 2) := by decide +kernel
theorem d_Mo_holds_65 : decode k_Mo_holds 65 = .ok (.ifCond .ne 13, 3) := by decide +kernel
theorem d_Mo_holds_68 : decode k_Mo_holds 68 = .ok (.iload 6, 2) := by decide +kernel
theorem d_Mo_holds_70 : decode k_Mo_holds 70 = .ok (.iload_n 2, 1) := by decide +kernel
theorem d_Mo_holds_71 : decode k_Mo_holds 71 = .ok (.ishr, 1) := by decide +kernel
theorem d_Mo_holds_72 : decode k_Mo_holds 72 = .ok (.iconst 1, 1) := by decide +kernel
theorem d_Mo_holds_73 : decode k_Mo_holds 73 = .ok (.iand, 1) := by decide +kernel
theorem d_Mo_holds_74 : decode k_Mo_holds 74 = .ok (.iconst 1, 1) := by decide +kernel
theorem d_Mo_holds_75 : decode k_Mo_holds 75 = .ok (.if_icmp .ne 7, 3) := by decide +kernel
theorem d_Mo_holds_78 : decode k_Mo_holds 78 = .ok (.iconst 1, 1) := by decide +kernel
theorem d_Mo_holds_79 : decode k_Mo_holds 79 = .ok (.goto 4, 3) := by decide +kernel
theorem d_Mo_holds_82 : decode k_Mo_holds 82 = .ok (.iconst 0, 1) := by decide +kernel
theorem d_Mo_holds_83 : decode k_Mo_holds 83 = .ok (.istore 4, 2) := by decide +kernel
theorem d_Mo_holds_85 : decode k_Mo_holds 85 = .ok (.iload 5, 2) := by decide +kernel
theorem d_Mo_holds_87 : decode k_Mo_holds 87 = .ok (.ifCond .eq 17, 3) := by decide +kernel
theorem d_Mo_holds_90 : decode k_Mo_holds 90 = .ok (.iload 6, 2) := by decide +kernel
theorem d_Mo_holds_92 : decode k_Mo_holds 92 = .ok (.iload_n 2, 1) := by decide +kernel
theorem d_Mo_holds_93 : decode k_Mo_holds 93 = .ok (.ishr, 1) := by decide +kernel
theorem d_Mo_holds_94 : decode k_Mo_holds 94 = .ok (.iconst 1, 1) := by decide +kernel
theorem d_Mo_holds_95 : decode k_Mo_holds 95 = .ok (.iand, 1) := by decide +kernel
theorem d_Mo_holds_96 : decode k_Mo_holds 96 = .ok (.iconst 1, 1) := by decide +kernel
theorem d_Mo_holds_97 : decode k_Mo_holds 97 = .ok (.if_icmp .ne 7, 3) := by decide +kernel
theorem d_Mo_holds_100 : decode k_Mo_holds 100 = .ok (.iconst 1, 1) := by decide +kernel
theorem d_Mo_holds_101 : decode k_Mo_holds 101 = .ok (.goto 4, 3) := by decide +kernel
theorem d_Mo_holds_104 : decode k_Mo_holds 104 = .ok (.iconst 0, 1) := by decide +kernel
theorem d_Mo_holds_105 : decode k_Mo_holds 105 = .ok (.istore 5, 2) := by decide +kernel
theorem d_Mo_holds_107 : decode k_Mo_holds 107 = .ok (.iinc 6 1, 3) := by decide +kernel
theorem d_Mo_holds_110 : decode k_Mo_holds 110 = .ok (.goto (-68), 3) := by decide +kernel
theorem d_Mo_holds_113 : decode k_Mo_holds 113 = .ok (.iload_n 3, 1) := by decide +kernel
theorem d_Mo_holds_114 : decode k_Mo_holds 114 = .ok (.ifCond .eq 8, 3) := by decide +kernel
theorem d_Mo_holds_117 : decode k_Mo_holds 117 = .ok (.iload 5, 2) := by decide +kernel
theorem d_Mo_holds_119 : decode k_Mo_holds 119 = .ok (.goto 5, 3) := by decide +kernel
theorem d_Mo_holds_122 : decode k_Mo_holds 122 = .ok (.iload 4, 2) := by decide +kernel
theorem d_Mo_holds_124 : decode k_Mo_holds 124 = .ok (.ireturn, 1) := by decide +kernel
theorem d_Mo_dialogue_0 : decode k_Mo_dialogue 0 = .ok (.aload_n 0, 1) := by decide +kernel
theorem d_Mo_dialogue_1 : decode k_Mo_dialogue 1 = .ok (.aload_n 0, 1) := by decide +kernel
theorem d_Mo_dialogue_2 : decode k_Mo_dialogue 2 = .ok (.iload_n 1, 1) := by decide +kernel
theorem d_Mo_dialogue_3 : decode k_Mo_dialogue 3 = .ok (.invokevirtual 81, 3) := by decide +kernel
theorem d_Mo_dialogue_6 : decode k_Mo_dialogue 6 = .ok (.ifCond .eq 7, 3) := by decide +kernel
theorem d_Mo_dialogue_9 : decode k_Mo_dialogue 9 = .ok (.iconst 0, 1) := by decide +kernel
theorem d_Mo_dialogue_10 : decode k_Mo_dialogue 10 = .ok (.goto 4, 3) := by decide +kernel
theorem d_Mo_dialogue_13 : decode k_Mo_dialogue 13 = .ok (.iconst 1, 1) := by decide +kernel
theorem d_Mo_dialogue_14 : decode k_Mo_dialogue 14 = .ok (.putfield 57, 3) := by decide +kernel
theorem d_Mo_dialogue_17 : decode k_Mo_dialogue 17 = .ok (.aload_n 0, 1) := by decide +kernel
theorem d_Mo_dialogue_18 : decode k_Mo_dialogue 18 = .ok (.getfield 57, 3) := by decide +kernel
theorem d_Mo_dialogue_21 : decode k_Mo_dialogue 21 = .ok (.ifCond .le 5, 3) := by decide +kernel
theorem d_Mo_dialogue_24 : decode k_Mo_dialogue 24 = .ok (.iconst 0, 1) := by decide +kernel
theorem d_Mo_dialogue_25 : decode k_Mo_dialogue 25 = .ok (.ireturn, 1) := by decide +kernel
theorem d_Mo_dialogue_26 : decode k_Mo_dialogue 26 = .ok (.aload_n 0, 1) := by decide +kernel
theorem d_Mo_dialogue_27 : decode k_Mo_dialogue 27 = .ok (.invokevirtual 109, 3) := by decide +kernel
theorem d_Mo_dialogue_30 : decode k_Mo_dialogue 30 = .ok (.aload_n 0, 1) := by decide +kernel
theorem d_Mo_dialogue_31 : decode k_Mo_dialogue 31 = .ok (.iconst 0, 1) := by decide +kernel
theorem d_Mo_dialogue_32 : decode k_Mo_dialogue 32 = .ok (.putfield 131, 3) := by decide +kernel
theorem d_Mo_dialogue_35 : decode k_Mo_dialogue 35 = .ok (.aload_n 0, 1) := by decide +kernel
theorem d_Mo_dialogue_36 : decode k_Mo_dialogue 36 = .ok (.iconst 0, 1) := by decide +kernel
theorem d_Mo_dialogue_37 : decode k_Mo_dialogue 37 = .ok (.putfield 128, 3) := by decide +kernel
theorem d_Mo_dialogue_40 : decode k_Mo_dialogue 40 = .ok (.aload_n 0, 1) := by decide +kernel
theorem d_Mo_dialogue_41 : decode k_Mo_dialogue 41 = .ok (.getfield 30, 3) := by decide +kernel
theorem d_Mo_dialogue_44 : decode k_Mo_dialogue 44 = .ok (.iload_n 1, 1) := by decide +kernel
theorem d_Mo_dialogue_45 : decode k_Mo_dialogue 45 = .ok (.iaload, 1) := by decide +kernel
theorem d_Mo_dialogue_46 : decode k_Mo_dialogue 46 = .ok (.ifCond .ne 5, 3) := by decide +kernel
theorem d_Mo_dialogue_49 : decode k_Mo_dialogue 49 = .ok (.iconst 0, 1) := by decide +kernel
theorem d_Mo_dialogue_50 : decode k_Mo_dialogue 50 = .ok (.ireturn, 1) := by decide +kernel
theorem d_Mo_dialogue_51 : decode k_Mo_dialogue 51 = .ok (.aload_n 0, 1) := by decide +kernel
theorem d_Mo_dialogue_52 : decode k_Mo_dialogue 52 = .ok (.iload_n 1, 1) := by decide +kernel
theorem d_Mo_dialogue_53 : decode k_Mo_dialogue 53 = .ok (.iconst (-1), 1) := by decide +kernel
theorem d_Mo_dialogue_54 : decode k_Mo_dialogue 54 = .ok (.iconst 0, 1) := by decide +kernel
theorem d_Mo_dialogue_55 : decode k_Mo_dialogue 55 = .ok (.invokevirtual 134, 3) := by decide +kernel
theorem d_Mo_dialogue_58 : decode k_Mo_dialogue 58 = .ok (.aload_n 0, 1) := by decide +kernel
theorem d_Mo_dialogue_59 : decode k_Mo_dialogue 59 = .ok (.getfield 128, 3) := by decide +kernel
theorem d_Mo_dialogue_62 : decode k_Mo_dialogue 62 = .ok (.ifCond .le 171, 3) := by decide +kernel
theorem d_Mo_dialogue_65 : decode k_Mo_dialogue 65 = .ok (.aload_n 0, 1) := by decide +kernel
theorem d_Mo_dialogue_66 : decode k_Mo_dialogue 66 = .ok (.getfield 131, 3) := by decide +kernel
theorem d_Mo_dialogue_69 : decode k_Mo_dialogue 69 = .ok (.sipush 500, 3) := by decide +kernel
theorem d_Mo_dialogue_72 : decode k_Mo_dialogue 72 = .ok (.if_icmp .ne 10, 3) := by decide +kernel
theorem d_Mo_dialogue_75 : decode k_Mo_dialogue 75 = .ok (.aload_n 0, 1) := by decide +kernel
theorem d_Mo_dialogue_76 : decode k_Mo_dialogue 76 = .ok (.iconst 0, 1) := by decide +kernel
theorem d_Mo_dialogue_77 : decode k_Mo_dialogue 77 = .ok (.putfield 131, 3) := by decide +kernel
theorem d_Mo_dialogue_80 : decode k_Mo_dialogue 80 = .ok (.iconst (-1), 1) := by decide +kernel
theorem d_Mo_dialogue_81 : decode k_Mo_dialogue 81 = .ok (.ireturn, 1) := by decide +kernel
theorem d_Mo_dialogue_82 : decode k_Mo_dialogue 82 = .ok (.aload_n 0, 1) := by decide +kernel
theorem d_Mo_dialogue_83 : decode k_Mo_dialogue 83 = .ok (.dup, 1) := by decide +kernel
theorem d_Mo_dialogue_84 : decode k_Mo_dialogue 84 = .ok (.getfield 128, 3) := by decide +kernel
theorem d_Mo_dialogue_87 : decode k_Mo_dialogue 87 = .ok (.iconst 1, 1) := by decide +kernel
theorem d_Mo_dialogue_88 : decode k_Mo_dialogue 88 = .ok (.isub, 1) := by decide +kernel
theorem d_Mo_dialogue_89 : decode k_Mo_dialogue 89 = .ok (.putfield 128, 3) := by decide +kernel
theorem d_Mo_dialogue_92 : decode k_Mo_dialogue 92 = .ok (.aload_n 0, 1) := by decide +kernel
theorem d_Mo_dialogue_93 : decode k_Mo_dialogue 93 = .ok (.getfield 131, 3) := by decide +kernel
theorem d_Mo_dialogue_96 : decode k_Mo_dialogue 96 = .ok (.istore_n 2, 1) := by decide +kernel
theorem d_Mo_dialogue_97 : decode k_Mo_dialogue 97 = .ok (.aload_n 0, 1) := by decide +kernel
theorem d_Mo_dialogue_98 : decode k_Mo_dialogue 98 = .ok (.getfield 33, 3) := by decide +kernel
theorem d_Mo_dialogue_101 : decode k_Mo_dialogue 101 = .ok (.iload_n 2, 1) := by decide +kernel
theorem d_Mo_dialogue_102 : decode k_Mo_dialogue 102 = .ok (.aload_n 0, 1) := by decide +kernel
theorem d_Mo_dialogue_103 : decode k_Mo_dialogue 103 = .ok (.getfield 42, 3) := by decide +kernel
theorem d_Mo_dialogue_106 : decode k_Mo_dialogue 106 = .ok (.aload_n 0, 1) := by decide +kernel
theorem d_Mo_dialogue_107 : decode k_Mo_dialogue 107 = .ok (.getfield 128, 3) := by decide +kernel
theorem d_Mo_dialogue_110 : decode k_Mo_dialogue 110 = .ok (.iaload, 1) := by decide +kernel
theorem d_Mo_dialogue_111 : decode k_Mo_dialogue 111 = .ok (.iastore, 1) := by decide +kernel
theorem d_Mo_dialogue_112 : decode k_Mo_dialogue 112 = .ok (.aload_n 0, 1) := by decide +kernel
theorem d_Mo_dialogue_113 : decode k_Mo_dialogue 113 = .ok (.getfield 36, 3) := by decide +kernel
theorem d_Mo_dialogue_116 : decode k_Mo_dialogue 116 = .ok (.iload_n 2, 1) := by decide +kernel
theorem d_Mo_dialogue_117 : decode k_Mo_dialogue 117 = .ok (.aload_n 0, 1) := by decide +kernel
theorem d_Mo_dialogue_118 : decode k_Mo_dialogue 118 = .ok (.getfield 45, 3) := by decide +kernel
theorem d_Mo_dialogue_121 : decode k_Mo_dialogue 121 = .ok (.aload_n 0, 1) := by decide +kernel
theorem d_Mo_dialogue_122 : decode k_Mo_dialogue 122 = .ok (.getfield 128, 3) := by decide +kernel
theorem d_Mo_dialogue_125 : decode k_Mo_dialogue 125 = .ok (.iaload, 1) := by decide +kernel
theorem d_Mo_dialogue_126 : decode k_Mo_dialogue 126 = .ok (.iastore, 1) := by decide +kernel
theorem d_Mo_dialogue_127 : decode k_Mo_dialogue 127 = .ok (.aload_n 0, 1) := by decide +kernel
theorem d_Mo_dialogue_128 : decode k_Mo_dialogue 128 = .ok (.getfield 39, 3) := by decide +kernel
theorem d_Mo_dialogue_131 : decode k_Mo_dialogue 131 = .ok (.iload_n 2, 1) := by decide +kernel
theorem d_Mo_dialogue_132 : decode k_Mo_dialogue 132 = .ok (.aload_n 0, 1) := by decide +kernel
theorem d_Mo_dialogue_133 : decode k_Mo_dialogue 133 = .ok (.getfield 48, 3) := by decide +kernel
theorem d_Mo_dialogue_136 : decode k_Mo_dialogue 136 = .ok (.aload_n 0, 1) := by decide +kernel
theorem d_Mo_dialogue_137 : decode k_Mo_dialogue 137 = .ok (.getfield 128, 3) := by decide +kernel
theorem d_Mo_dialogue_140 : decode k_Mo_dialogue 140 = .ok (.iaload, 1) := by decide +kernel
theorem d_Mo_dialogue_141 : decode k_Mo_dialogue 141 = .ok (.iastore, 1) := by decide +kernel
theorem d_Mo_dialogue_142 : decode k_Mo_dialogue 142 = .ok (.aload_n 0, 1) := by decide +kernel
theorem d_Mo_dialogue_143 : decode k_Mo_dialogue 143 = .ok (.dup, 1) := by decide +kernel
theorem d_Mo_dialogue_144 : decode k_Mo_dialogue 144 = .ok (.getfield 131, 3) := by decide +kernel
theorem d_Mo_dialogue_147 : decode k_Mo_dialogue 147 = .ok (.iconst 1, 1) := by decide +kernel
theorem d_Mo_dialogue_148 : decode k_Mo_dialogue 148 = .ok (.iadd, 1) := by decide +kernel
theorem d_Mo_dialogue_149 : decode k_Mo_dialogue 149 = .ok (.putfield 131, 3) := by decide +kernel
theorem d_Mo_dialogue_152 : decode k_Mo_dialogue 152 = .ok (.aload_n 0, 1) := by decide +kernel
theorem d_Mo_dialogue_153 : decode k_Mo_dialogue 153 = .ok (.getfield 39, 3) := by decide +kernel
theorem d_Mo_dialogue_156 : decode k_Mo_dialogue 156 = .ok (.iload_n 2, 1) := by decide +kernel
theorem d_Mo_dialogue_157 : decode k_Mo_dialogue 157 = .ok (.iaload, 1) := by decide +kernel
theorem d_Mo_dialogue_158 : decode k_Mo_dialogue 158 = .ok (.iconst 1, 1) := by decide +kernel
theorem d_Mo_dialogue_159 : decode k_Mo_dialogue 159 = .ok (.if_icmp .ne 19, 3) := by decide +kernel
theorem d_Mo_dialogue_162 : decode k_Mo_dialogue 162 = .ok (.aload_n 0, 1) := by decide +kernel
theorem d_Mo_dialogue_163 : decode k_Mo_dialogue 163 = .ok (.aload_n 0, 1) := by decide +kernel
theorem d_Mo_dialogue_164 : decode k_Mo_dialogue 164 = .ok (.aload_n 0, 1) := by decide +kernel
theorem d_Mo_dialogue_165 : decode k_Mo_dialogue 165 = .ok (.getfield 33, 3) := by decide +kernel
theorem d_Mo_dialogue_168 : decode k_Mo_dialogue 168 = .ok (.iload_n 2, 1) := by decide +kernel
theorem d_Mo_dialogue_169 : decode k_Mo_dialogue 169 = .ok (.iaload, 1) := by decide +kernel
theorem d_Mo_dialogue_170 : decode k_Mo_dialogue 170 = .ok (.invokevirtual 138, 3) := by decide +kernel
theorem d_Mo_dialogue_173 : decode k_Mo_dialogue 173 = .ok (.iload_n 2, 1) := by decide +kernel
theorem d_Mo_dialogue_174 : decode k_Mo_dialogue 174 = .ok (.iconst 0, 1) := by decide +kernel
theorem d_Mo_dialogue_175 : decode k_Mo_dialogue 175 = .ok (.invokevirtual 134, 3) := by decide +kernel
theorem d_Mo_dialogue_178 : decode k_Mo_dialogue 178 = .ok (.aload_n 0, 1) := by decide +kernel
theorem d_Mo_dialogue_179 : decode k_Mo_dialogue 179 = .ok (.getfield 61, 3) := by decide +kernel
theorem d_Mo_dialogue_182 : decode k_Mo_dialogue 182 = .ok (.iconst 1, 1) := by decide +kernel
theorem d_Mo_dialogue_183 : decode k_Mo_dialogue 183 = .ok (.isub, 1) := by decide +kernel
theorem d_Mo_dialogue_184 : decode k_Mo_dialogue 184 = .ok (.istore_n 3, 1) := by decide +kernel
theorem d_Mo_dialogue_185 : decode k_Mo_dialogue 185 = .ok (.iload_n 3, 1) := by decide +kernel
theorem d_Mo_dialogue_186 : decode k_Mo_dialogue 186 = .ok (.ifCond .lt 44, 3) := by decide +kernel
theorem d_Mo_dialogue_189 : decode k_Mo_dialogue 189 = .ok (.aload_n 0, 1) := by decide +kernel
theorem d_Mo_dialogue_190 : decode k_Mo_dialogue 190 = .ok (.getfield 39, 3) := by decide +kernel
theorem d_Mo_dialogue_193 : decode k_Mo_dialogue 193 = .ok (.iload_n 2, 1) := by decide +kernel
theorem d_Mo_dialogue_194 : decode k_Mo_dialogue 194 = .ok (.iaload, 1) := by decide +kernel
theorem d_Mo_dialogue_195 : decode k_Mo_dialogue 195 = .ok (.ifCond .ne 35, 3) := by decide +kernel
theorem d_Mo_dialogue_198 : decode k_Mo_dialogue 198 = .ok (.aload_n 0, 1) := by decide +kernel
theorem d_Mo_dialogue_199 : decode k_Mo_dialogue 199 = .ok (.getfield 13, 3) := by decide +kernel
theorem d_Mo_dialogue_202 : decode k_Mo_dialogue 202 = .ok (.aload_n 0, 1) := by decide +kernel
theorem d_Mo_dialogue_203 : decode k_Mo_dialogue 203 = .ok (.getfield 33, 3) := by decide +kernel
theorem d_Mo_dialogue_206 : decode k_Mo_dialogue 206 = .ok (.iload_n 2, 1) := by decide +kernel
theorem d_Mo_dialogue_207 : decode k_Mo_dialogue 207 = .ok (.iaload, 1) := by decide +kernel
theorem d_Mo_dialogue_208 : decode k_Mo_dialogue 208 = .ok (.iaload, 1) := by decide +kernel
theorem d_Mo_dialogue_209 : decode k_Mo_dialogue 209 = .ok (.iload_n 3, 1) := by decide +kernel
theorem d_Mo_dialogue_210 : decode k_Mo_dialogue 210 = .ok (.ishr, 1) := by decide +kernel
theorem d_Mo_dialogue_211 : decode k_Mo_dialogue 211 = .ok (.iconst 1, 1) := by decide +kernel
theorem d_Mo_dialogue_212 : decode k_Mo_dialogue 212 = .ok (.iand, 1) := by decide +kernel
theorem d_Mo_dialogue_213 : decode k_Mo_dialogue 213 = .ok (.iconst 1, 1) := by decide +kernel
theorem d_Mo_dialogue_214 : decode k_Mo_dialogue 214 = .ok (.if_icmp .ne 10, 3) := by decide +kernel
theorem d_Mo_dialogue_217 : decode k_Mo_dialogue 217 = .ok (.aload_n 0, 1) := by decide +kernel
theorem d_Mo_dialogue_218 : decode k_Mo_dialogue 218 = .ok (.iload_n 3, 1) := by decide +kernel
theorem d_Mo_dialogue_219 : decode k_Mo_dialogue 219 = .ok (.iload_n 2, 1) := by decide +kernel
theorem d_Mo_dialogue_220 : decode k_Mo_dialogue 220 = .ok (.iconst 1, 1) := by decide +kernel
theorem d_Mo_dialogue_221 : decode k_Mo_dialogue 221 = .ok (.invokevirtual 134, 3) := by decide +kernel
theorem d_Mo_dialogue_224 : decode k_Mo_dialogue 224 = .ok (.iinc 3 (-1), 3) := by decide +kernel
theorem d_Mo_dialogue_227 : decode k_Mo_dialogue 227 = .ok (.goto (-42), 3) := by decide +kernel
theorem d_Mo_dialogue_230 : decode k_Mo_dialogue 230 = .ok (.goto (-172), 3) := by decide +kernel
theorem d_Mo_dialogue_233 : decode k_Mo_dialogue 233 = .ok (.aload_n 0, 1) := by decide +kernel
theorem d_Mo_dialogue_234 : decode k_Mo_dialogue 234 = .ok (.getfield 131, 3) := by decide +kernel
theorem d_Mo_dialogue_237 : decode k_Mo_dialogue 237 = .ok (.ireturn, 1) := by decide +kernel
theorem d_Mo_puts_0 : decode k_Mo_puts 0 = .ok (.aload_n 0, 1) := by decide +kernel
theorem d_Mo_puts_1 : decode k_Mo_puts 1 = .ok (.getfield 42, 3) := by decide +kernel
theorem d_Mo_puts_4 : decode k_Mo_puts 4 = .ok (.aload_n 0, 1) := by decide +kernel
theorem d_Mo_puts_5 : decode k_Mo_puts 5 = .ok (.getfield 128, 3) := by decide +kernel
theorem d_Mo_puts_8 : decode k_Mo_puts 8 = .ok (.iload_n 1, 1) := by decide +kernel
theorem d_Mo_puts_9 : decode k_Mo_puts 9 = .ok (.iastore, 1) := by decide +kernel
theorem d_Mo_puts_10 : decode k_Mo_puts 10 = .ok (.aload_n 0, 1) := by decide +kernel
theorem d_Mo_puts_11 : decode k_Mo_puts 11 = .ok (.getfield 45, 3) := by decide +kernel
theorem d_Mo_puts_14 : decode k_Mo_puts 14 = .ok (.aload_n 0, 1) := by decide +kernel
theorem d_Mo_puts_15 : decode k_Mo_puts 15 = .ok (.getfield 128, 3) := by decide +kernel
theorem d_Mo_puts_18 : decode k_Mo_puts 18 = .ok (.iload_n 2, 1) := by decide +kernel
theorem d_Mo_puts_19 : decode k_Mo_puts 19 = .ok (.iastore, 1) := by decide +kernel
theorem d_Mo_puts_20 : decode k_Mo_puts 20 = .ok (.aload_n 0, 1) := by decide +kernel
theorem d_Mo_puts_21 : decode k_Mo_puts 21 = .ok (.getfield 48, 3) := by decide +kernel
theorem d_Mo_puts_24 : decode k_Mo_puts 24 = .ok (.aload_n 0, 1) := by decide +kernel
theorem d_Mo_puts_25 : decode k_Mo_puts 25 = .ok (.getfield 128, 3) := by decide +kernel
theorem d_Mo_puts_28 : decode k_Mo_puts 28 = .ok (.iload_n 3, 1) := by decide +kernel
theorem d_Mo_puts_29 : decode k_Mo_puts 29 = .ok (.iastore, 1) := by decide +kernel
theorem d_Mo_puts_30 : decode k_Mo_puts 30 = .ok (.aload_n 0, 1) := by decide +kernel
theorem d_Mo_puts_31 : decode k_Mo_puts 31 = .ok (.dup, 1) := by decide +kernel
theorem d_Mo_puts_32 : decode k_Mo_puts 32 = .ok (.getfield 128, 3) := by decide +kernel
theorem d_Mo_puts_35 : decode k_Mo_puts 35 = .ok (.iconst 1, 1) := by decide +kernel
theorem d_Mo_puts_36 : decode k_Mo_puts 36 = .ok (.iadd, 1) := by decide +kernel
theorem d_Mo_puts_37 : decode k_Mo_puts 37 = .ok (.putfield 128, 3) := by decide +kernel
theorem d_Mo_puts_40 : decode k_Mo_puts 40 = .ok (.return_, 1) := by decide +kernel
theorem d_Mo_against_0 : decode k_Mo_against 0 = .ok (.iconst (-1), 1) := by decide +kernel
theorem d_Mo_against_1 : decode k_Mo_against 1 = .ok (.istore_n 2, 1) := by decide +kernel
theorem d_Mo_against_2 : decode k_Mo_against 2 = .ok (.aload_n 0, 1) := by decide +kernel
theorem d_Mo_against_3 : decode k_Mo_against 3 = .ok (.getfield 61, 3) := by decide +kernel
theorem d_Mo_against_6 : decode k_Mo_against 6 = .ok (.iconst 1, 1) := by decide +kernel
theorem d_Mo_against_7 : decode k_Mo_against 7 = .ok (.isub, 1) := by decide +kernel
theorem d_Mo_against_8 : decode k_Mo_against 8 = .ok (.istore_n 3, 1) := by decide +kernel
theorem d_Mo_against_9 : decode k_Mo_against 9 = .ok (.iload_n 3, 1) := by decide +kernel
theorem d_Mo_against_10 : decode k_Mo_against 10 = .ok (.ifCond .lt 70, 3) := by decide +kernel
theorem d_Mo_against_13 : decode k_Mo_against 13 = .ok (.aload_n 0, 1) := by decide +kernel
theorem d_Mo_against_14 : decode k_Mo_against 14 = .ok (.getfield 13, 3) := by decide +kernel
theorem d_Mo_against_17 : decode k_Mo_against 17 = .ok (.iload_n 1, 1) := by decide +kernel
theorem d_Mo_against_18 : decode k_Mo_against 18 = .ok (.iaload, 1) := by decide +kernel
theorem d_Mo_against_19 : decode k_Mo_against 19 = .ok (.iload_n 3, 1) := by decide +kernel
theorem d_Mo_against_20 : decode k_Mo_against 20 = .ok (.ishr, 1) := by decide +kernel
theorem d_Mo_against_21 : decode k_Mo_against 21 = .ok (.iconst 1, 1) := by decide +kernel
theorem d_Mo_against_22 : decode k_Mo_against 22 = .ok (.iand, 1) := by decide +kernel
theorem d_Mo_against_23 : decode k_Mo_against 23 = .ok (.iconst 1, 1) := by decide +kernel
theorem d_Mo_against_24 : decode k_Mo_against 24 = .ok (.if_icmp .ne 16, 3) := by decide +kernel
theorem d_Mo_against_27 : decode k_Mo_against 27 = .ok (.aload_n 0, 1) := by decide +kernel
theorem d_Mo_against_28 : decode k_Mo_against 28 = .ok (.getfield 30, 3) := by decide +kernel
theorem d_Mo_against_31 : decode k_Mo_against 31 = .ok (.iload_n 3, 1) := by decide +kernel
theorem d_Mo_against_32 : decode k_Mo_against 32 = .ok (.iaload, 1) := by decide +kernel
theorem d_Mo_against_33 : decode k_Mo_against 33 = .ok (.ifCond .le 7, 3) := by decide +kernel
theorem d_Mo_against_36 : decode k_Mo_against 36 = .ok (.iconst 1, 1) := by decide +kernel
theorem d_Mo_against_37 : decode k_Mo_against 37 = .ok (.goto 4, 3) := by decide +kernel
theorem d_Mo_against_40 : decode k_Mo_against 40 = .ok (.iconst 0, 1) := by decide +kernel
theorem d_Mo_against_41 : decode k_Mo_against 41 = .ok (.istore 4, 2) := by decide +kernel
theorem d_Mo_against_43 : decode k_Mo_against 43 = .ok (.iload 4, 2) := by decide +kernel
theorem d_Mo_against_45 : decode k_Mo_against 45 = .ok (.ifCond .eq 27, 3) := by decide +kernel
theorem d_Mo_against_48 : decode k_Mo_against 48 = .ok (.iload_n 2, 1) := by decide +kernel
theorem d_Mo_against_49 : decode k_Mo_against 49 = .ok (.iconst (-1), 1) := by decide +kernel
theorem d_Mo_against_50 : decode k_Mo_against 50 = .ok (.if_icmp .eq 18, 3) := by decide +kernel
theorem d_Mo_against_53 : decode k_Mo_against 53 = .ok (.aload_n 0, 1) := by decide +kernel
theorem d_Mo_against_54 : decode k_Mo_against 54 = .ok (.getfield 30, 3) := by decide +kernel
theorem d_Mo_against_57 : decode k_Mo_against 57 = .ok (.iload_n 3, 1) := by decide +kernel
theorem d_Mo_against_58 : decode k_Mo_against 58 = .ok (.iaload, 1) := by decide +kernel
theorem d_Mo_against_59 : decode k_Mo_against 59 = .ok (.aload_n 0, 1) := by decide +kernel
theorem d_Mo_against_60 : decode k_Mo_against 60 = .ok (.getfield 30, 3) := by decide +kernel
theorem d_Mo_against_63 : decode k_Mo_against 63 = .ok (.iload_n 2, 1) := by decide +kernel
theorem d_Mo_against_64 : decode k_Mo_against 64 = .ok (.iaload, 1) := by decide +kernel
theorem d_Mo_against_65 : decode k_Mo_against 65 = .ok (.if_icmp .gt 7, 3) := by decide +kernel
theorem d_Mo_against_68 : decode k_Mo_against 68 = .ok (.iload_n 3, 1) := by decide +kernel
theorem d_Mo_against_69 : decode k_Mo_against 69 = .ok (.goto 4, 3) := by decide +kernel
theorem d_Mo_against_72 : decode k_Mo_against 72 = .ok (.iload_n 2, 1) := by decide +kernel
theorem d_Mo_against_73 : decode k_Mo_against 73 = .ok (.istore_n 2, 1) := by decide +kernel
theorem d_Mo_against_74 : decode k_Mo_against 74 = .ok (.iinc 3 (-1), 3) := by decide +kernel
theorem d_Mo_against_77 : decode k_Mo_against 77 = .ok (.goto (-68), 3) := by decide +kernel
theorem d_Mo_against_80 : decode k_Mo_against 80 = .ok (.iload_n 2, 1) := by decide +kernel
theorem d_Mo_against_81 : decode k_Mo_against 81 = .ok (.ireturn, 1) := by decide +kernel
theorem d_Mo_move_0 : decode k_Mo_move 0 = .ok (.aload_n 0, 1) := by decide +kernel
theorem d_Mo_move_1 : decode k_Mo_move 1 = .ok (.iconst 0, 1) := by decide +kernel
theorem d_Mo_move_2 : decode k_Mo_move 2 = .ok (.putfield 57, 3) := by decide +kernel
theorem d_Mo_move_5 : decode k_Mo_move 5 = .ok (.iload_n 1, 1) := by decide +kernel
theorem d_Mo_move_6 : decode k_Mo_move 6 = .ok (.ifCond .lt 11, 3) := by decide +kernel
theorem d_Mo_move_9 : decode k_Mo_move 9 = .ok (.iload_n 1, 1) := by decide +kernel
theorem d_Mo_move_10 : decode k_Mo_move 10 = .ok (.aload_n 0, 1) := by decide +kernel
theorem d_Mo_move_11 : decode k_Mo_move 11 = .ok (.getfield 131, 3) := by decide +kernel
theorem d_Mo_move_14 : decode k_Mo_move 14 = .ok (.if_icmp .lt 5, 3) := by decide +kernel
theorem d_Mo_move_17 : decode k_Mo_move 17 = .ok (.iconst (-1), 1) := by decide +kernel
theorem d_Mo_move_18 : decode k_Mo_move 18 = .ok (.ireturn, 1) := by decide +kernel
theorem d_Mo_move_19 : decode k_Mo_move 19 = .ok (.iload_n 2, 1) := by decide +kernel
theorem d_Mo_move_20 : decode k_Mo_move 20 = .ok (.ifCond .ne 12, 3) := by decide +kernel
theorem d_Mo_move_23 : decode k_Mo_move 23 = .ok (.aload_n 0, 1) := by decide +kernel
theorem d_Mo_move_24 : decode k_Mo_move 24 = .ok (.getfield 33, 3) := by decide +kernel
theorem d_Mo_move_27 : decode k_Mo_move 27 = .ok (.iload_n 1, 1) := by decide +kernel
theorem d_Mo_move_28 : decode k_Mo_move 28 = .ok (.iaload, 1) := by decide +kernel
theorem d_Mo_move_29 : decode k_Mo_move 29 = .ok (.goto 32, 3) := by decide +kernel
theorem d_Mo_move_32 : decode k_Mo_move 32 = .ok (.iload_n 2, 1) := by decide +kernel
theorem d_Mo_move_33 : decode k_Mo_move 33 = .ok (.iconst 1, 1) := by decide +kernel
theorem d_Mo_move_34 : decode k_Mo_move 34 = .ok (.if_icmp .ne 12, 3) := by decide +kernel
theorem d_Mo_move_37 : decode k_Mo_move 37 = .ok (.aload_n 0, 1) := by decide +kernel
theorem d_Mo_move_38 : decode k_Mo_move 38 = .ok (.getfield 36, 3) := by decide +kernel
theorem d_Mo_move_41 : decode k_Mo_move 41 = .ok (.iload_n 1, 1) := by decide +kernel
theorem d_Mo_move_42 : decode k_Mo_move 42 = .ok (.iaload, 1) := by decide +kernel
theorem d_Mo_move_43 : decode k_Mo_move 43 = .ok (.goto 18, 3) := by decide +kernel
theorem d_Mo_move_46 : decode k_Mo_move 46 = .ok (.iload_n 2, 1) := by decide +kernel
theorem d_Mo_move_47 : decode k_Mo_move 47 = .ok (.iconst 2, 1) := by decide +kernel
theorem d_Mo_move_48 : decode k_Mo_move 48 = .ok (.if_icmp .ne 12, 3) := by decide +kernel
theorem d_Mo_move_51 : decode k_Mo_move 51 = .ok (.aload_n 0, 1) := by decide +kernel
theorem d_Mo_move_52 : decode k_Mo_move 52 = .ok (.getfield 39, 3) := by decide +kernel
theorem d_Mo_move_55 : decode k_Mo_move 55 = .ok (.iload_n 1, 1) := by decide +kernel
theorem d_Mo_move_56 : decode k_Mo_move 56 = .ok (.iaload, 1) := by decide +kernel
theorem d_Mo_move_57 : decode k_Mo_move 57 = .ok (.goto 4, 3) := by decide +kernel
theorem d_Mo_move_60 : decode k_Mo_move 60 = .ok (.iconst (-1), 1) := by decide +kernel
theorem d_Mo_move_61 : decode k_Mo_move 61 = .ok (.ireturn, 1) := by decide +kernel
theorem d_Mo_circle_0 : decode k_Mo_circle 0 = .ok (.aload_n 0, 1) := by decide +kernel
theorem d_Mo_circle_1 : decode k_Mo_circle 1 = .ok (.iconst 0, 1) := by decide +kernel
theorem d_Mo_circle_2 : decode k_Mo_circle 2 = .ok (.putfield 57, 3) := by decide +kernel
theorem d_Mo_circle_5 : decode k_Mo_circle 5 = .ok (.aload_n 0, 1) := by decide +kernel
theorem d_Mo_circle_6 : decode k_Mo_circle 6 = .ok (.invokevirtual 147, 3) := by decide +kernel
theorem d_Mo_circle_9 : decode k_Mo_circle 9 = .ok (.istore_n 2, 1) := by decide +kernel
theorem d_Mo_circle_10 : decode k_Mo_circle 10 = .ok (.aload_n 0, 1) := by decide +kernel
theorem d_Mo_circle_11 : decode k_Mo_circle 11 = .ok (.iload_n 1, 1) := by decide +kernel
theorem d_Mo_circle_12 : decode k_Mo_circle 12 = .ok (.invokevirtual 81, 3) := by decide +kernel
theorem d_Mo_circle_15 : decode k_Mo_circle 15 = .ok (.ifCond .eq 16, 3) := by decide +kernel
theorem d_Mo_circle_18 : decode k_Mo_circle 18 = .ok (.iload_n 2, 1) := by decide +kernel
theorem d_Mo_circle_19 : decode k_Mo_circle 19 = .ok (.ifCond .le 12, 3) := by decide +kernel
theorem d_Mo_circle_22 : decode k_Mo_circle 22 = .ok (.aload_n 0, 1) := by decide +kernel
theorem d_Mo_circle_23 : decode k_Mo_circle 23 = .ok (.getfield 54, 3) := by decide +kernel
theorem d_Mo_circle_26 : decode k_Mo_circle 26 = .ok (.iload_n 1, 1) := by decide +kernel
theorem d_Mo_circle_27 : decode k_Mo_circle 27 = .ok (.iaload, 1) := by decide +kernel
theorem d_Mo_circle_28 : decode k_Mo_circle 28 = .ok (.goto 4, 3) := by decide +kernel
theorem d_Mo_circle_31 : decode k_Mo_circle 31 = .ok (.iconst (-1), 1) := by decide +kernel
theorem d_Mo_circle_32 : decode k_Mo_circle 32 = .ok (.ireturn, 1) := by decide +kernel
theorem d_Mo_numbers_0 : decode k_Mo_numbers 0 = .ok (.iconst 0, 1) := by decide +kernel
theorem d_Mo_numbers_1 : decode k_Mo_numbers 1 = .ok (.istore_n 1, 1) := by decide +kernel
theorem d_Mo_numbers_2 : decode k_Mo_numbers 2 = .ok (.iload_n 1, 1) := by decide +kernel
theorem d_Mo_numbers_3 : decode k_Mo_numbers 3 = .ok (.aload_n 0, 1) := by decide +kernel
theorem d_Mo_numbers_4 : decode k_Mo_numbers 4 = .ok (.getfield 61, 3) := by decide +kernel
theorem d_Mo_numbers_7 : decode k_Mo_numbers 7 = .ok (.if_icmp .ge 32, 3) := by decide +kernel
theorem d_Mo_numbers_10 : decode k_Mo_numbers 10 = .ok (.aload_n 0, 1) := by decide +kernel
theorem d_Mo_numbers_11 : decode k_Mo_numbers 11 = .ok (.getfield 51, 3) := by decide +kernel
theorem d_Mo_numbers_14 : decode k_Mo_numbers 14 = .ok (.iload_n 1, 1) := by decide +kernel
theorem d_Mo_numbers_15 : decode k_Mo_numbers 15 = .ok (.aload_n 0, 1) := by decide +kernel
theorem d_Mo_numbers_16 : decode k_Mo_numbers 16 = .ok (.getfield 7, 3) := by decide +kernel
theorem d_Mo_numbers_19 : decode k_Mo_numbers 19 = .ok (.iload_n 1, 1) := by decide +kernel
theorem d_Mo_numbers_20 : decode k_Mo_numbers 20 = .ok (.iaload, 1) := by decide +kernel
theorem d_Mo_numbers_21 : decode k_Mo_numbers 21 = .ok (.iconst 1, 1) := by decide +kernel
theorem d_Mo_numbers_22 : decode k_Mo_numbers 22 = .ok (.iload_n 1, 1) := by decide +kernel
theorem d_Mo_numbers_23 : decode k_Mo_numbers 23 = .ok (.ishl, 1) := by decide +kernel
theorem d_Mo_numbers_24 : decode k_Mo_numbers 24 = .ok (.ior, 1) := by decide +kernel
theorem d_Mo_numbers_25 : decode k_Mo_numbers 25 = .ok (.iastore, 1) := by decide +kernel
theorem d_Mo_numbers_26 : decode k_Mo_numbers 26 = .ok (.aload_n 0, 1) := by decide +kernel
theorem d_Mo_numbers_27 : decode k_Mo_numbers 27 = .ok (.getfield 54, 3) := by decide +kernel
theorem d_Mo_numbers_30 : decode k_Mo_numbers 30 = .ok (.iload_n 1, 1) := by decide +kernel
theorem d_Mo_numbers_31 : decode k_Mo_numbers 31 = .ok (.iconst (-1), 1) := by decide +kernel
theorem d_Mo_numbers_32 : decode k_Mo_numbers 32 = .ok (.iastore, 1) := by decide +kernel
theorem d_Mo_numbers_33 : decode k_Mo_numbers 33 = .ok (.iinc 1 1, 3) := by decide +kernel
theorem d_Mo_numbers_36 : decode k_Mo_numbers 36 = .ok (.goto (-34), 3) := by decide +kernel
theorem d_Mo_numbers_39 : decode k_Mo_numbers 39 = .ok (.iconst 0, 1) := by decide +kernel
theorem d_Mo_numbers_40 : decode k_Mo_numbers 40 = .ok (.istore_n 1, 1) := by decide +kernel
theorem d_Mo_numbers_41 : decode k_Mo_numbers 41 = .ok (.iload_n 1, 1) := by decide +kernel
theorem d_Mo_numbers_42 : decode k_Mo_numbers 42 = .ok (.aload_n 0, 1) := by decide +kernel
theorem d_Mo_numbers_43 : decode k_Mo_numbers 43 = .ok (.getfield 61, 3) := by decide +kernel
theorem d_Mo_numbers_46 : decode k_Mo_numbers 46 = .ok (.if_icmp .ge 67, 3) := by decide +kernel
theorem d_Mo_numbers_49 : decode k_Mo_numbers 49 = .ok (.iconst 0, 1) := by decide +kernel
theorem d_Mo_numbers_50 : decode k_Mo_numbers 50 = .ok (.istore_n 2, 1) := by decide +kernel
theorem d_Mo_numbers_51 : decode k_Mo_numbers 51 = .ok (.iload_n 2, 1) := by decide +kernel
theorem d_Mo_numbers_52 : decode k_Mo_numbers 52 = .ok (.aload_n 0, 1) := by decide +kernel
theorem d_Mo_numbers_53 : decode k_Mo_numbers 53 = .ok (.getfield 61, 3) := by decide +kernel
theorem d_Mo_numbers_56 : decode k_Mo_numbers 56 = .ok (.if_icmp .ge 51, 3) := by decide +kernel
theorem d_Mo_numbers_59 : decode k_Mo_numbers 59 = .ok (.aload_n 0, 1) := by decide +kernel
theorem d_Mo_numbers_60 : decode k_Mo_numbers 60 = .ok (.getfield 51, 3) := by decide +kernel
theorem d_Mo_numbers_63 : decode k_Mo_numbers 63 = .ok (.iload_n 2, 1) := by decide +kernel
theorem d_Mo_numbers_64 : decode k_Mo_numbers 64 = .ok (.aload_n 0, 1) := by decide +kernel
theorem d_Mo_numbers_65 : decode k_Mo_numbers 65 = .ok (.getfield 51, 3) := by decide +kernel
theorem d_Mo_numbers_68 : decode k_Mo_numbers 68 = .ok (.iload_n 2, 1) := by decide +kernel
theorem d_Mo_numbers_69 : decode k_Mo_numbers 69 = .ok (.iaload, 1) := by decide +kernel
theorem d_Mo_numbers_70 : decode k_Mo_numbers 70 = .ok (.iload_n 1, 1) := by decide +kernel
theorem d_Mo_numbers_71 : decode k_Mo_numbers 71 = .ok (.ishr, 1) := by decide +kernel
theorem d_Mo_numbers_72 : decode k_Mo_numbers 72 = .ok (.iconst 1, 1) := by decide +kernel
theorem d_Mo_numbers_73 : decode k_Mo_numbers 73 = .ok (.iand, 1) := by decide +kernel
theorem d_Mo_numbers_74 : decode k_Mo_numbers 74 = .ok (.iconst 1, 1) := by decide +kernel
theorem d_Mo_numbers_75 : decode k_Mo_numbers 75 = .ok (.if_icmp .ne 19, 3) := by decide +kernel
theorem d_Mo_numbers_78 : decode k_Mo_numbers 78 = .ok (.aload_n 0, 1) := by decide +kernel
theorem d_Mo_numbers_79 : decode k_Mo_numbers 79 = .ok (.getfield 51, 3) := by decide +kernel
theorem d_Mo_numbers_82 : decode k_Mo_numbers 82 = .ok (.iload_n 2, 1) := by decide +kernel
theorem d_Mo_numbers_83 : decode k_Mo_numbers 83 = .ok (.iaload, 1) := by decide +kernel
theorem d_Mo_numbers_84 : decode k_Mo_numbers 84 = .ok (.aload_n 0, 1) := by decide +kernel
theorem d_Mo_numbers_85 : decode k_Mo_numbers 85 = .ok (.getfield 51, 3) := by decide +kernel
theorem d_Mo_numbers_88 : decode k_Mo_numbers 88 = .ok (.iload_n 1, 1) := by decide +kernel
theorem d_Mo_numbers_89 : decode k_Mo_numbers 89 = .ok (.iaload, 1) := by decide +kernel
theorem d_Mo_numbers_90 : decode k_Mo_numbers 90 = .ok (.ior, 1) := by decide +kernel
theorem d_Mo_numbers_91 : decode k_Mo_numbers 91 = .ok (.goto 9, 3) := by decide +kernel
theorem d_Mo_numbers_94 : decode k_Mo_numbers 94 = .ok (.aload_n 0, 1) := by decide +kernel
theorem d_Mo_numbers_95 : decode k_Mo_numbers 95 = .ok (.getfield 51, 3) := by decide +kernel
theorem d_Mo_numbers_98 : decode k_Mo_numbers 98 = .ok (.iload_n 2, 1) := by decide +kernel
theorem d_Mo_numbers_99 : decode k_Mo_numbers 99 = .ok (.iaload, 1) := by decide +kernel
theorem d_Mo_numbers_100 : decode k_Mo_numbers 100 = .ok (.iastore, 1) := by decide +kernel
theorem d_Mo_numbers_101 : decode k_Mo_numbers 101 = .ok (.iinc 2 1, 3) := by decide +kernel
theorem d_Mo_numbers_104 : decode k_Mo_numbers 104 = .ok (.goto (-53), 3) := by decide +kernel
theorem d_Mo_numbers_107 : decode k_Mo_numbers 107 = .ok (.iinc 1 1, 3) := by decide +kernel
theorem d_Mo_numbers_110 : decode k_Mo_numbers 110 = .ok (.goto (-69), 3) := by decide +kernel
theorem d_Mo_numbers_113 : decode k_Mo_numbers 113 = .ok (.iconst 0, 1) := by decide +kernel
theorem d_Mo_numbers_114 : decode k_Mo_numbers 114 = .ok (.istore_n 1, 1) := by decide +kernel
theorem d_Mo_numbers_115 : decode k_Mo_numbers 115 = .ok (.iconst 0, 1) := by decide +kernel
theorem d_Mo_numbers_116 : decode k_Mo_numbers 116 = .ok (.istore_n 2, 1) := by decide +kernel
theorem d_Mo_numbers_117 : decode k_Mo_numbers 117 = .ok (.iload_n 2, 1) := by decide +kernel
theorem d_Mo_numbers_118 : decode k_Mo_numbers 118 = .ok (.iconst 1, 1) := by decide +kernel
theorem d_Mo_numbers_119 : decode k_Mo_numbers 119 = .ok (.aload_n 0, 1) := by decide +kernel
theorem d_Mo_numbers_120 : decode k_Mo_numbers 120 = .ok (.getfield 61, 3) := by decide +kernel
theorem d_Mo_numbers_123 : decode k_Mo_numbers 123 = .ok (.ishl, 1) := by decide +kernel
theorem d_Mo_numbers_124 : decode k_Mo_numbers 124 = .ok (.iconst 1, 1) := by decide +kernel
theorem d_Mo_numbers_125 : decode k_Mo_numbers 125 = .ok (.isub, 1) := by decide +kernel
theorem d_Mo_numbers_126 : decode k_Mo_numbers 126 = .ok (.if_icmp .eq 127, 3) := by decide +kernel
theorem d_Mo_numbers_129 : decode k_Mo_numbers 129 = .ok (.iconst (-1), 1) := by decide +kernel
theorem d_Mo_numbers_130 : decode k_Mo_numbers 130 = .ok (.istore_n 3, 1) := by decide +kernel
theorem d_Mo_numbers_131 : decode k_Mo_numbers 131 = .ok (.aload_n 0, 1) := by decide +kernel
theorem d_Mo_numbers_132 : decode k_Mo_numbers 132 = .ok (.getfield 61, 3) := by decide +kernel
theorem d_Mo_numbers_135 : decode k_Mo_numbers 135 = .ok (.iconst 1, 1) := by decide +kernel
theorem d_Mo_numbers_136 : decode k_Mo_numbers 136 = .ok (.isub, 1) := by decide +kernel
theorem d_Mo_numbers_137 : decode k_Mo_numbers 137 = .ok (.istore 4, 2) := by decide +kernel
theorem d_Mo_numbers_139 : decode k_Mo_numbers 139 = .ok (.iload 4, 2) := by decide +kernel
theorem d_Mo_numbers_141 : decode k_Mo_numbers 141 = .ok (.ifCond .lt 47, 3) := by decide +kernel
theorem d_Mo_numbers_144 : decode k_Mo_numbers 144 = .ok (.iload_n 2, 1) := by decide +kernel
theorem d_Mo_numbers_145 : decode k_Mo_numbers 145 = .ok (.iload 4, 2) := by decide +kernel
theorem d_Mo_numbers_147 : decode k_Mo_numbers 147 = .ok (.ishr, 1) := by decide +kernel
theorem d_Mo_numbers_148 : decode k_Mo_numbers 148 = .ok (.iconst 1, 1) := by decide +kernel
theorem d_Mo_numbers_149 : decode k_Mo_numbers 149 = .ok (.iand, 1) := by decide +kernel
theorem d_Mo_numbers_150 : decode k_Mo_numbers 150 = .ok (.ifCond .ne 30, 3) := by decide +kernel
theorem d_Mo_numbers_153 : decode k_Mo_numbers 153 = .ok (.aload_n 0, 1) := by decide +kernel
theorem d_Mo_numbers_154 : decode k_Mo_numbers 154 = .ok (.iload 4, 2) := by decide +kernel
theorem d_Mo_numbers_156 : decode k_Mo_numbers 156 = .ok (.invokevirtual 141, 3) := by decide +kernel
theorem d_Mo_numbers_159 : decode k_Mo_numbers 159 = .ok (.iload_n 2, 1) := by decide +kernel
theorem d_Mo_numbers_160 : decode k_Mo_numbers 160 = .ok (.iconst (-1), 1) := by decide +kernel
theorem d_Mo_numbers_161 : decode k_Mo_numbers 161 = .ok (.ixor, 1) := by decide +kernel
theorem d_Mo_numbers_162 : decode k_Mo_numbers 162 = .ok (.iand, 1) := by decide +kernel
theorem d_Mo_numbers_163 : decode k_Mo_numbers 163 = .ok (.aload_n 0, 1) := by decide +kernel
theorem d_Mo_numbers_164 : decode k_Mo_numbers 164 = .ok (.iload 4, 2) := by decide +kernel
theorem d_Mo_numbers_166 : decode k_Mo_numbers 166 = .ok (.invokevirtual 144, 3) := by decide +kernel
theorem d_Mo_numbers_169 : decode k_Mo_numbers 169 = .ok (.iconst (-1), 1) := by decide +kernel
theorem d_Mo_numbers_170 : decode k_Mo_numbers 170 = .ok (.ixor, 1) := by decide +kernel
theorem d_Mo_numbers_171 : decode k_Mo_numbers 171 = .ok (.iand, 1) := by decide +kernel
theorem d_Mo_numbers_172 : decode k_Mo_numbers 172 = .ok (.ifCond .ne 8, 3) := by decide +kernel
theorem d_Mo_numbers_175 : decode k_Mo_numbers 175 = .ok (.iload 4, 2) := by decide +kernel
theorem d_Mo_numbers_177 : decode k_Mo_numbers 177 = .ok (.goto 4, 3) := by decide +kernel
theorem d_Mo_numbers_180 : decode k_Mo_numbers 180 = .ok (.iload_n 3, 1) := by decide +kernel
theorem d_Mo_numbers_181 : decode k_Mo_numbers 181 = .ok (.istore_n 3, 1) := by decide +kernel
theorem d_Mo_numbers_182 : decode k_Mo_numbers 182 = .ok (.iinc 4 (-1), 3) := by decide +kernel
theorem d_Mo_numbers_185 : decode k_Mo_numbers 185 = .ok (.goto (-46), 3) := by decide +kernel
theorem d_Mo_numbers_188 : decode k_Mo_numbers 188 = .ok (.aload_n 0, 1) := by decide +kernel
theorem d_Mo_numbers_189 : decode k_Mo_numbers 189 = .ok (.iload_n 3, 1) := by decide +kernel
theorem d_Mo_numbers_190 : decode k_Mo_numbers 190 = .ok (.invokevirtual 144, 3) := by decide +kernel
theorem d_Mo_numbers_193 : decode k_Mo_numbers 193 = .ok (.istore 4, 2) := by decide +kernel
theorem d_Mo_numbers_195 : decode k_Mo_numbers 195 = .ok (.iconst 0, 1) := by decide +kernel
theorem d_Mo_numbers_196 : decode k_Mo_numbers 196 = .ok (.istore 5, 2) := by decide +kernel
theorem d_Mo_numbers_198 : decode k_Mo_numbers 198 = .ok (.iload 5, 2) := by decide +kernel
theorem d_Mo_numbers_200 : decode k_Mo_numbers 200 = .ok (.aload_n 0, 1) := by decide +kernel
theorem d_Mo_numbers_201 : decode k_Mo_numbers 201 = .ok (.getfield 61, 3) := by decide +kernel
theorem d_Mo_numbers_204 : decode k_Mo_numbers 204 = .ok (.if_icmp .ge 38, 3) := by decide +kernel
theorem d_Mo_numbers_207 : decode k_Mo_numbers 207 = .ok (.aload_n 0, 1) := by decide +kernel
theorem d_Mo_numbers_208 : decode k_Mo_numbers 208 = .ok (.getfield 54, 3) := by decide +kernel
theorem d_Mo_numbers_211 : decode k_Mo_numbers 211 = .ok (.iload 5, 2) := by decide +kernel
theorem d_Mo_numbers_213 : decode k_Mo_numbers 213 = .ok (.iload 4, 2) := by decide +kernel
theorem d_Mo_numbers_215 : decode k_Mo_numbers 215 = .ok (.iload 5, 2) := by decide +kernel
theorem d_Mo_numbers_217 : decode k_Mo_numbers 217 = .ok (.ishr, 1) := by decide +kernel
theorem d_Mo_numbers_218 : decode k_Mo_numbers 218 = .ok (.iconst 1, 1) := by decide +kernel
theorem d_Mo_numbers_219 : decode k_Mo_numbers 219 = .ok (.iand, 1) := by decide +kernel
theorem d_Mo_numbers_220 : decode k_Mo_numbers 220 = .ok (.iconst 1, 1) := by decide +kernel
theorem d_Mo_numbers_221 : decode k_Mo_numbers 221 = .ok (.if_icmp .ne 7, 3) := by decide +kernel
theorem d_Mo_numbers_224 : decode k_Mo_numbers 224 = .ok (.iload_n 1, 1) := by decide +kernel
theorem d_Mo_numbers_225 : decode k_Mo_numbers 225 = .ok (.goto 10, 3) := by decide +kernel
theorem d_Mo_numbers_228 : decode k_Mo_numbers 228 = .ok (.aload_n 0, 1) := by decide +kernel
theorem d_Mo_numbers_229 : decode k_Mo_numbers 229 = .ok (.getfield 54, 3) := by decide +kernel
theorem d_Mo_numbers_232 : decode k_Mo_numbers 232 = .ok (.iload 5, 2) := by decide +kernel
theorem d_Mo_numbers_234 : decode k_Mo_numbers 234 = .ok (.iaload, 1) := by decide +kernel
theorem d_Mo_numbers_235 : decode k_Mo_numbers 235 = .ok (.iastore, 1) := by decide +kernel
theorem d_Mo_numbers_236 : decode k_Mo_numbers 236 = .ok (.iinc 5 1, 3) := by decide +kernel
theorem d_Mo_numbers_239 : decode k_Mo_numbers 239 = .ok (.goto (-41), 3) := by decide +kernel
theorem d_Mo_numbers_242 : decode k_Mo_numbers 242 = .ok (.iload_n 2, 1) := by decide +kernel
theorem d_Mo_numbers_243 : decode k_Mo_numbers 243 = .ok (.iload 4, 2) := by decide +kernel
theorem d_Mo_numbers_245 : decode k_Mo_numbers 245 = .ok (.ior, 1) := by decide +kernel
theorem d_Mo_numbers_246 : decode k_Mo_numbers 246 = .ok (.istore_n 2, 1) := by decide +kernel
theorem d_Mo_numbers_247 : decode k_Mo_numbers 247 = .ok (.iinc 1 1, 3) := by decide +kernel
theorem d_Mo_numbers_250 : decode k_Mo_numbers 250 = .ok (.goto (-133), 3) := by decide +kernel
theorem d_Mo_numbers_253 : decode k_Mo_numbers 253 = .ok (.iload_n 1, 1) := by decide +kernel
theorem d_Mo_numbers_254 : decode k_Mo_numbers 254 = .ok (.ireturn, 1) := by decide +kernel
theorem d_Mo_from_0 : decode k_Mo_from 0 = .ok (.iconst 0, 1) := by decide +kernel
theorem d_Mo_from_1 : decode k_Mo_from 1 = .ok (.istore_n 2, 1) := by decide +kernel
theorem d_Mo_from_2 : decode k_Mo_from 2 = .ok (.iconst 0, 1) := by decide +kernel
theorem d_Mo_from_3 : decode k_Mo_from 3 = .ok (.istore_n 3, 1) := by decide +kernel
theorem d_Mo_from_4 : decode k_Mo_from 4 = .ok (.iload_n 3, 1) := by decide +kernel
theorem d_Mo_from_5 : decode k_Mo_from 5 = .ok (.aload_n 0, 1) := by decide +kernel
theorem d_Mo_from_6 : decode k_Mo_from 6 = .ok (.getfield 61, 3) := by decide +kernel
theorem d_Mo_from_9 : decode k_Mo_from 9 = .ok (.if_icmp .ge 33, 3) := by decide +kernel
theorem d_Mo_from_12 : decode k_Mo_from 12 = .ok (.aload_n 0, 1) := by decide +kernel
theorem d_Mo_from_13 : decode k_Mo_from 13 = .ok (.getfield 51, 3) := by decide +kernel
theorem d_Mo_from_16 : decode k_Mo_from 16 = .ok (.iload_n 3, 1) := by decide +kernel
theorem d_Mo_from_17 : decode k_Mo_from 17 = .ok (.iaload, 1) := by decide +kernel
theorem d_Mo_from_18 : decode k_Mo_from 18 = .ok (.iload_n 1, 1) := by decide +kernel
theorem d_Mo_from_19 : decode k_Mo_from 19 = .ok (.ishr, 1) := by decide +kernel
theorem d_Mo_from_20 : decode k_Mo_from 20 = .ok (.iconst 1, 1) := by decide +kernel
theorem d_Mo_from_21 : decode k_Mo_from 21 = .ok (.iand, 1) := by decide +kernel
theorem d_Mo_from_22 : decode k_Mo_from 22 = .ok (.iconst 1, 1) := by decide +kernel
theorem d_Mo_from_23 : decode k_Mo_from 23 = .ok (.if_icmp .ne 11, 3) := by decide +kernel
theorem d_Mo_from_26 : decode k_Mo_from 26 = .ok (.iload_n 2, 1) := by decide +kernel
theorem d_Mo_from_27 : decode k_Mo_from 27 = .ok (.iconst 1, 1) := by decide +kernel
theorem d_Mo_from_28 : decode k_Mo_from 28 = .ok (.iload_n 3, 1) := by decide +kernel
theorem d_Mo_from_29 : decode k_Mo_from 29 = .ok (.ishl, 1) := by decide +kernel
theorem d_Mo_from_30 : decode k_Mo_from 30 = .ok (.ior, 1) := by decide +kernel
theorem d_Mo_from_31 : decode k_Mo_from 31 = .ok (.goto 4, 3) := by decide +kernel
theorem d_Mo_from_34 : decode k_Mo_from 34 = .ok (.iload_n 2, 1) := by decide +kernel
theorem d_Mo_from_35 : decode k_Mo_from 35 = .ok (.istore_n 2, 1) := by decide +kernel
theorem d_Mo_from_36 : decode k_Mo_from 36 = .ok (.iinc 3 1, 3) := by decide +kernel
theorem d_Mo_from_39 : decode k_Mo_from 39 = .ok (.goto (-35), 3) := by decide +kernel
theorem d_Mo_from_42 : decode k_Mo_from 42 = .ok (.iload_n 2, 1) := by decide +kernel
theorem d_Mo_from_43 : decode k_Mo_from 43 = .ok (.ireturn, 1) := by decide +kernel
theorem d_Mo_both_0 : decode k_Mo_both 0 = .ok (.aload_n 0, 1) := by decide +kernel
theorem d_Mo_both_1 : decode k_Mo_both 1 = .ok (.iload_n 1, 1) := by decide +kernel
theorem d_Mo_both_2 : decode k_Mo_both 2 = .ok (.invokevirtual 141, 3) := by decide +kernel
theorem d_Mo_both_5 : decode k_Mo_both 5 = .ok (.aload_n 0, 1) := by decide +kernel
theorem d_Mo_both_6 : decode k_Mo_both 6 = .ok (.getfield 51, 3) := by decide +kernel
theorem d_Mo_both_9 : decode k_Mo_both 9 = .ok (.iload_n 1, 1) := by decide +kernel
theorem d_Mo_both_10 : decode k_Mo_both 10 = .ok (.iaload, 1) := by decide +kernel
theorem d_Mo_both_11 : decode k_Mo_both 11 = .ok (.iand, 1) := by decide +kernel
theorem d_Mo_both_12 : decode k_Mo_both 12 = .ok (.ireturn, 1) := by decide +kernel
theorem d_Mo_circles_0 : decode k_Mo_circles 0 = .ok (.aload_n 0, 1) := by decide +kernel
theorem d_Mo_circles_1 : decode k_Mo_circles 1 = .ok (.iconst 0, 1) := by decide +kernel
theorem d_Mo_circles_2 : decode k_Mo_circles 2 = .ok (.putfield 57, 3) := by decide +kernel
theorem d_Mo_circles_5 : decode k_Mo_circles 5 = .ok (.aload_n 0, 1) := by decide +kernel
theorem d_Mo_circles_6 : decode k_Mo_circles 6 = .ok (.invokevirtual 147, 3) := by decide +kernel
theorem d_Mo_circles_9 : decode k_Mo_circles 9 = .ok (.ireturn, 1) := by decide +kernel
